set_option maxHeartbeats 8000000 in
set_option maxRecDepth 100000 in
theorem sX3_wordAt_0 (l : Launch) (dC : Nat → ClassId) (dI : Nat → Nat → Nat) (adK adV : Nat → Nat) (h0 : Nat) (h28 : Nat) (h1 : Nat) (h8 : Nat) (h17 : Nat) (h25 : Nat) (h26 : Nat) (h27 : Nat) (h29 : Nat) (k28 : ClassId) (sz : Nat) (v0 : Nat → Int32) (f28 : Nat → Int32) (x1 : Int32) (hv0 : zR rg_Page v0) : Met l yX3_wordAt (zw yX3_wordAt cX3_wordAt 2 (some .int)) { frames := 0, cells := 0, slots := 0, locals := 0 } (zPc dC dI adK adV [.ref h0, .int x1] sz [(h0, .inr (3, mX3 h1 h8 h17 h25 h26 h27 h28 h29 v0)), (h28, zi k28 832 f28)] [(k28, .int)]) (va_Qi (fun (r : Int32) (u : Nat → Int32) => (r.toInt = zWa f28 x1.toInt)) (fun (u : Nat → Int32) (t : State) => ∃ (ww : Nat → Int64) (aa : Nat → Nat → Int32) (bb : Nat → Nat → Int64), va_P (dC, dI) vwCl [(h0, .inr (3, mX3 h1 h8 h17 h25 h26 h27 h28 h29 v0)), (h28, zi k28 832 f28)] t.heap ∧ va_K (dC, dI) vwCl [(k28, .int)] t ∧ va_D (va_A [(h0, .inr (3, mX3 h1 h8 h17 h25 h26 h27 h28 h29 v0)), (h28, zi k28 832 f28)] sz) [(h0, .inr (3, mX3 h1 h8 h17 h25 h26 h27 h28 h29 v0)), (h28, zi k28 832 f28)]) (va_A [(h0, .inr (3, mX3 h1 h8 h17 h25 h26 h27 h28 h29 v0)), (h28, zi k28 832 f28)] sz)) 0 0 (va_A [(h0, .inr (3, mX3 h1 h8 h17 h25 h26 h27 h28 h29 v0)), (h28, zi k28 832 f28)] sz) := by
  refine Met.ofW (cc := cX3_wordAt) (maxL := 2) (ret := (some .int)) (by decide) rfl ?_
  intro p e s m args below meth c s₁ B hml hv
  obtain ⟨rfl, hsz, hP, hK, hD0, hE, hZ⟩ := hv
  have hx := B.exec
  have hb := B.bytes
  have hr := B.returns
  have hG : ∀ w ∈ zG, w.before _ s = true := fun w h => atoms_spec (ws := (zw yX3_wordAt cX3_wordAt 2 (some .int))) B.pre w (List.mem_cons_of_mem _ h)
  have hown : s.vm.findClass RX3 = some m.cls := findClass_of_methodNamed B.named
  have hlocks := B.notSynchronized

  subst hsz
  have hD := hD0.self (sz := s.heap.size)
  generalize hAe : va_A [(h0, .inr (3, mX3 h1 h8 h17 h25 h26 h27 h28 h29 v0)), (h28, zi k28 832 f28)] s.heap.size = A at hD hZ ⊢
  have hA : ∀ q : Nat, s.heap.size ≤ q → A q := fun q h => by rw [← hAe]; exact Or.inr h
  have hS : va_S A s.heap s.heap [] := va_S.rf
  have hl := lv_entry ([.ref h0, .int x1]) (n := 2) (Nat.le_of_ble_eq_true rfl)
  rw [lg_entry_eq]
  generalize (lg_sl ([.ref h0, .int x1]) ++ List.replicate (2 - (lg_sl ([.ref h0, .int x1])).length) Slot.unset).toArray = ls at hl ⊢
  have hl : lv_has ls 2 [(0, .ref h0), (1, .int x1)] := hl
  have b_ := zk_m1
  refine lv_iload_n hx hb dX3_wordAt_0 rfl (lv_at hl 1 rfl) ?_
  have b_ : -2147483648 ≤ x1.toInt ∧ x1.toInt ≤ 2147483647 := ⟨zlo _, zhi _⟩
  refine lv_if_lt (tgt := 20) hx hb dX3_wordAt_1 (by decide) (fun c_ => ?_) (fun c_ => ?_)
  · skip
    have b_ := zT_lt rfl zk_0 c_
    refine lv_iconst (v := (-1)) hx hb dX3_wordAt_20 (by decide) ?_
    refine W.widen (k := 0) (n := 0) (by decide) (by decide) ?_
    have hpost : (((-1) : Int32).toInt = zWa f28 x1.toInt) := by first | exact zWa_y (by omega) (by omega) e_z16 | exact zWa_n (by omega) (by decide)
    have hP9 : va_P (dC, dI) vwCl [(h0, .inr (3, mX3 h1 h8 h17 h25 h26 h27 h28 h29 v0)), (h28, zi k28 832 f28)] s.heap := hP
    have hD9 : va_D A [(h0, .inr (3, mX3 h1 h8 h17 h25 h26 h27 h28 h29 v0)), (h28, zi k28 832 f28)] := hD
    exact W.iret (v := (-1)) hx hb hr (fun t ht hW => ⟨⟨(-1), (fun _ => 0), rfl, hpost, (fun _ => 0), (fun _ => (fun _ => 0)), (fun _ => (fun _ => 0)), by rw [ht]; exact hP9, va_K.moved hW.alike hK, hD9⟩, hS.F ht⟩) hS.2.2 dX3_wordAt_21
  · skip
    have b_ := zF_lt rfl zk_0 c_
    refine lv_iload_n hx hb dX3_wordAt_4 rfl (lv_at hl 1 rfl) ?_
    refine lv_sipush (v := 832) hx hb dX3_wordAt_5 (by decide) ?_
    refine lv_icmp_ge (tgt := 20) hx hb dX3_wordAt_8 (by decide) (fun c_ => ?_) (fun c_ => ?_)
    · skip
      have b_ := zT_ge rfl zk_832 c_
      refine lv_iconst (v := (-1)) hx hb dX3_wordAt_20 (by decide) ?_
      refine W.widen (k := 0) (n := 0) (by decide) (by decide) ?_
      have hpost : (((-1) : Int32).toInt = zWa f28 x1.toInt) := by first | exact zWa_y (by omega) (by omega) e_z16 | exact zWa_n (by omega) (by decide)
      have hP9 : va_P (dC, dI) vwCl [(h0, .inr (3, mX3 h1 h8 h17 h25 h26 h27 h28 h29 v0)), (h28, zi k28 832 f28)] s.heap := hP
      have hD9 : va_D A [(h0, .inr (3, mX3 h1 h8 h17 h25 h26 h27 h28 h29 v0)), (h28, zi k28 832 f28)] := hD
      exact W.iret (v := (-1)) hx hb hr (fun t ht hW => ⟨⟨(-1), (fun _ => 0), rfl, hpost, (fun _ => 0), (fun _ => (fun _ => 0)), (fun _ => (fun _ => 0)), by rw [ht]; exact hP9, va_K.moved hW.alike hK, hD9⟩, hS.F ht⟩) hS.2.2 dX3_wordAt_21
    · skip
      have b_ := zF_ge rfl zk_832 c_
      refine lv_aload_n hx hb dX3_wordAt_11 rfl (lv_at hl 0 rfl) ?_
      refine va_get (D := (dC, dI)) (ci := 3) (v := .ref h28) (C := RX3) (T := TX3) (N := 10) hx hb hG zuX3 hown hK hP 0 rfl rfl 6 (by decide) (hG _ zv479) (fun _ h9 => h9) rfl dX3_wordAt_12 ?_
      refine lv_iload_n hx hb dX3_wordAt_15 rfl (lv_at hl 1 rfl) ?_
      refine va_iald hx hb hK hP 1 0 rfl rfl (zin_lit ⟨by omega, by omega⟩) dX3_wordAt_16 ?_
      refine lv_topi (fun z16 e_z16 => ?_)
      refine lv_goto (tgt := 21) hx hb dX3_wordAt_17 (by decide) ?_
      refine W.widen (k := 0) (n := 0) (by decide) (by decide) ?_
      have b_ : -2147483648 ≤ z16.toInt ∧ z16.toInt ≤ 2147483647 := ⟨zlo _, zhi _⟩
      have hpost : (z16.toInt = zWa f28 x1.toInt) := by first | exact zWa_y (by omega) (by omega) e_z16 | exact zWa_n (by omega) (by decide)
      have hP9 : va_P (dC, dI) vwCl [(h0, .inr (3, mX3 h1 h8 h17 h25 h26 h27 h28 h29 v0)), (h28, zi k28 832 f28)] s.heap := hP
      have hD9 : va_D A [(h0, .inr (3, mX3 h1 h8 h17 h25 h26 h27 h28 h29 v0)), (h28, zi k28 832 f28)] := hD
      exact W.iret (v := z16) hx hb hr (fun t ht hW => ⟨⟨z16, (fun _ => 0), rfl, hpost, (fun _ => 0), (fun _ => (fun _ => 0)), (fun _ => (fun _ => 0)), by rw [ht]; exact hP9, va_K.moved hW.alike hK, hD9⟩, hS.F ht⟩) hS.2.2 dX3_wordAt_21
set_option maxHeartbeats 8000000 in
set_option maxRecDepth 100000 in
theorem sJ7_fill_53178_0 (l : Launch) (dC : Nat → ClassId) (dI : Nat → Nat → Nat) (adK adV : Nat → Nat) (h0 : Nat) (k0 : ClassId) (sz : Nat) (f0 : Nat → Int32) (x1 : Int32) : Met l yJ7_fill_53178 (zw yJ7_fill_53178 cJ7_fill_53178 4 none) { frames := 0, cells := 0, slots := 0, locals := 0 } (zPc dC dI adK adV [.ref h0, .int x1] sz [(h0, zi k0 26 f0)] [(k0, .int)]) (va_Qv (fun (u : Nat → Int32) => True) (fun (u : Nat → Int32) (t : State) => ∃ (ww : Nat → Int64) (aa : Nat → Nat → Int32) (bb : Nat → Nat → Int64), (∀ j : Nat, (j : Int) < 26 → (aa 0) j = (x1 : Int32)) ∧ va_P (dC, dI) vwCl [(h0, zi k0 26 (aa 0))] t.heap ∧ va_K (dC, dI) vwCl [(k0, .int)] t ∧ va_D (va_A [(h0, zi k0 26 f0)] sz) [(h0, zi k0 26 (aa 0))]) (va_A [(h0, zi k0 26 f0)] sz)) 0 0 (va_A [(h0, zi k0 26 f0)] sz) := by
  refine Met.ofW (cc := cJ7_fill_53178) (maxL := 4) (ret := none) (by decide) rfl ?_
  intro p e s m args below meth c s₁ B hml hv
  obtain ⟨rfl, hsz, hP, hK, hD0, hE, hZ⟩ := hv
  have hx := B.exec
  have hb := B.bytes
  have hr := B.returns
  have hG : ∀ w ∈ zG, w.before _ s = true := fun w h => atoms_spec (ws := (zw yJ7_fill_53178 cJ7_fill_53178 4 none)) B.pre w (List.mem_cons_of_mem _ h)
  have hown : s.vm.findClass RJ7 = some m.cls := findClass_of_methodNamed B.named
  have hlocks := B.notSynchronized

  subst hsz
  have hD := hD0.self (sz := s.heap.size)
  generalize hAe : va_A [(h0, zi k0 26 f0)] s.heap.size = A at hD hZ ⊢
  have hA : ∀ q : Nat, s.heap.size ≤ q → A q := fun q h => by rw [← hAe]; exact Or.inr h
  have hS : va_S A s.heap s.heap [] := va_S.rf
  have hl := lv_entry ([.ref h0, .int x1]) (n := 4) (Nat.le_of_ble_eq_true rfl)
  rw [lg_entry_eq]
  generalize (lg_sl ([.ref h0, .int x1]) ++ List.replicate (4 - (lg_sl ([.ref h0, .int x1])).length) Slot.unset).toArray = ls at hl ⊢
  have hl : lv_has ls 4 [(0, .ref h0), (1, .int x1)] := hl
  have b_ := zk_0
  refine lv_iconst (v := 0) hx hb dJ7_fill_53178_0 (by decide) ?_
  refine lv_istore_n (lv' := [(2, .int 0), (0, .ref h0), (1, .int x1)]) hx hb dJ7_fill_53178_1 rfl hl (by decide) rfl (fun ls hl => ?_)
  refine lv_aload_n hx hb dJ7_fill_53178_2 rfl (lv_at hl 1 rfl) ?_
  refine va_alen (v := 26) hx hb hK hP 0 0 rfl rfl (show Int32.ofNat 26 = 26 from by decide +kernel) dJ7_fill_53178_3 ?_
  refine lv_istore_n (lv' := [(3, .int 26), (2, .int 0), (0, .ref h0), (1, .int x1)]) hx hb dJ7_fill_53178_4 rfl hl (by decide) rfl (fun ls hl => ?_)
  refine zcutL (fun u5_ => (26 - (u5_ 0).toInt).toNat) (fun H locs ls u5_ w5_ a5_ b5_ => va_P (dC, dI) vwCl [(h0, zi k0 26 (a5_ 0))] H ∧ va_D A [(h0, zi k0 26 (a5_ 0))] ∧ va_S A s.heap H locs ∧ lv_has ls 4 [(0, .ref h0), (1, .int x1), (2, .int (u5_ 0)), (3, .int 26)] ∧ (0 ≤ (u5_ 0).toInt ∧ (u5_ 0).toInt ≤ 26) ∧ (∀ j : Nat, (j : Int) < (u5_ 0).toInt → (a5_ 0) j = (x1 : Int32))) (fun ls u5_ w5_ => F0 m 5 ls []) 0 0 ?_ (fun hJ5 => ?_)
  · skip
    intro H locs ls u5_ w5_ a5_ b5_ hc hJ5
    obtain ⟨hP, hD, hS, hl, b_, hI5_0⟩ := hc
    refine lv_iload_n hx hb dJ7_fill_53178_5 rfl (lv_at hl 2 rfl) ?_
    refine lv_iload_n hx hb dJ7_fill_53178_6 rfl (lv_at hl 3 rfl) ?_
    refine lv_icmp_ge (tgt := 20) hx hb dJ7_fill_53178_7 (by decide) (fun c_ => ?_) (fun c_ => ?_)
    · skip
      have b_ := zT_ge rfl zk_26 c_
      refine W.widen (k := 0) (n := 0) (by decide) (by decide) ?_
      have hpost : True := trivial
      have hP9 : va_P (dC, dI) vwCl [(h0, zi k0 26 (a5_ 0))] H := hP
      have hD9 : va_D A [(h0, zi k0 26 (a5_ 0))] := hD
      have hB0 : ∀ j : Nat, (j : Int) < 26 → (a5_ 0) j = (x1 : Int32) := by intro j hj; exact hI5_0 j (by omega)
      exact W.vret hx hb hr (fun t ht hW => ⟨⟨(fun _ => 0), rfl, hpost, (fun _ => 0), (fun i => ([(a5_ 0)] : List (Nat → Int32)).getD i (fun _ => 0)), (fun _ => (fun _ => 0)), hB0, by rw [ht]; exact hP9, va_K.moved hW.alike hK, hD9⟩, hS.F ht⟩) hS.2.2 dJ7_fill_53178_20
    · skip
      have b_ := zF_ge rfl zk_26 c_
      refine lv_aload_n hx hb dJ7_fill_53178_10 rfl (lv_at hl 0 rfl) ?_
      refine lv_iload_n hx hb dJ7_fill_53178_11 rfl (lv_at hl 2 rfl) ?_
      refine lv_iload_n hx hb dJ7_fill_53178_12 rfl (lv_at hl 1 rfl) ?_
      refine va_iast hx hb hK hP hD hS 0 0 rfl rfl (zin_lit ⟨by omega, by omega⟩) dJ7_fill_53178_13 (fun H locs hP hD hS => ?_)
      obtain ⟨f_13, e_f_13⟩ : ∃ z : Nat → Int32, z = upd (a5_ 0) ((u5_ 0) : Int32).toNatClampNeg x1 := ⟨_, rfl⟩
      have hP : va_P (dC, dI) vwCl [(h0, zi k0 26 f_13)] H := by rw [e_f_13]; exact hP
      have hD : va_D A [(h0, zi k0 26 f_13)] := by rw [e_f_13]; exact hD
      obtain ⟨z14, e_z14⟩ : ∃ z : Int32, z = (u5_ 0) + Int32.ofInt 1 := ⟨_, rfl⟩
      have b_ := zadd (x := (u5_ 0)) (y := Int32.ofInt 1) rfl (show (Int32.ofInt 1).toInt = 1 from by decide) e_z14 (by omega) (by omega)
      refine lv_iinc (v := z14) (lv' := [(2, .int z14), (0, .ref h0), (1, .int x1), (3, .int 26)]) hx hb dJ7_fill_53178_14 hl (k := 2) rfl e_z14.symm (by decide) rfl (fun ls hl => ?_)
      refine lv_goto (tgt := 5) hx hb dJ7_fill_53178_17 (by decide) ?_
      have b_ : -2147483648 ≤ x1.toInt ∧ x1.toInt ≤ 2147483647 := ⟨zlo _, zhi _⟩
      have hc : va_P (dC, dI) vwCl [(h0, zi k0 26 f_13)] H ∧ va_D A [(h0, zi k0 26 f_13)] ∧ va_S A s.heap H locs ∧ lv_has ls 4 [(0, .ref h0), (1, .int x1), (2, .int z14), (3, .int 26)] ∧ (0 ≤ z14.toInt ∧ z14.toInt ≤ 26) ∧ (∀ j : Nat, (j : Int) < z14.toInt → f_13 j = (x1 : Int32)) := ⟨hP, hD, hS, lv_sub hl [1, 2, 0, 3] rfl, (by first | with_reducible assumption | exact ⟨by omega, by omega⟩), by first | (intro j hj; omega) | (rw [e_f_13]; exact zfill (by assumption) (by omega) (by omega))⟩
      exact hJ5 H locs ls (fun i => ([z14] : List (Int32)).getD i 0) (fun _ => 0) (fun i => ([f_13] : List (Nat → Int32)).getD i (fun _ => 0)) (fun _ => (fun _ => 0)) hc (show (26 - z14.toInt).toNat < (26 - (u5_ 0).toInt).toNat from by omega)
  · skip
    have b_ : -2147483648 ≤ x1.toInt ∧ x1.toInt ≤ 2147483647 := ⟨zlo _, zhi _⟩
    have hc : va_P (dC, dI) vwCl [(h0, zi k0 26 f0)] s.heap ∧ va_D A [(h0, zi k0 26 f0)] ∧ va_S A s.heap s.heap [] ∧ lv_has ls 4 [(0, .ref h0), (1, .int x1), (2, .int 0), (3, .int 26)] ∧ (0 ≤ (0 : Int32).toInt ∧ (0 : Int32).toInt ≤ 26) ∧ (∀ j : Nat, (j : Int) < (0 : Int32).toInt → f0 j = (x1 : Int32)) := ⟨hP, hD, hS, lv_sub hl [2, 3, 1, 0] rfl, (by first | with_reducible assumption | exact ⟨by omega, by omega⟩), by first | (intro j hj; omega) | (rw [e_f_13]; exact zfill (by assumption) (by omega) (by omega))⟩
    exact hJ5 s.heap [] ls (fun i => ([0] : List (Int32)).getD i 0) (fun _ => 0) (fun i => ([f0] : List (Nat → Int32)).getD i (fun _ => 0)) (fun _ => (fun _ => 0)) hc
set_option maxHeartbeats 8000000 in
set_option maxRecDepth 100000 in
theorem sX5_clear_0 (l : Launch) (dC : Nat → ClassId) (dI : Nat → Nat → Nat) (adK adV : Nat → Nat) (h0 : Nat) (h1 : Nat) (k1 : ClassId) (sz : Nat) (f1 : Nat → Int32) : Met l yX5_clear (zw yX5_clear cX5_clear 1 none) { frames := 1, cells := 0, slots := 0, locals := 23 } (zPc dC dI adK adV [.ref h0] sz [(h0, .inr (5, mX5 h1)), (h1, zi k1 26 f1)] [(k1, .int)]) (va_Qv (fun (u : Nat → Int32) => True) (fun (u : Nat → Int32) (t : State) => ∃ (ww : Nat → Int64) (aa : Nat → Nat → Int32) (bb : Nat → Nat → Int64), (∀ q : Nat, q < 832 → zpb (aa 0) q = false) ∧ va_P (dC, dI) vwCl [(h0, .inr (5, mX5 h1)), (h1, zi k1 26 (aa 0))] t.heap ∧ va_K (dC, dI) vwCl [(k1, .int)] t ∧ va_D (va_A [(h0, .inr (5, mX5 h1)), (h1, zi k1 26 f1)] sz) [(h0, .inr (5, mX5 h1)), (h1, zi k1 26 (aa 0))]) (va_A [(h0, .inr (5, mX5 h1)), (h1, zi k1 26 f1)] sz)) 0 0 (va_A [(h0, .inr (5, mX5 h1)), (h1, zi k1 26 f1)] sz) := by
  refine Met.ofW (cc := cX5_clear) (maxL := 1) (ret := none) (by decide) rfl ?_
  intro p e s m args below meth c s₁ B hml hv
  obtain ⟨rfl, hsz, hP, hK, hD0, hE, hZ⟩ := hv
  have hx := B.exec
  have hb := B.bytes
  have hr := B.returns
  have hG : ∀ w ∈ zG, w.before _ s = true := fun w h => atoms_spec (ws := (zw yX5_clear cX5_clear 1 none)) B.pre w (List.mem_cons_of_mem _ h)
  have hown : s.vm.findClass RX5 = some m.cls := findClass_of_methodNamed B.named
  have hlocks := B.notSynchronized

  subst hsz
  have hD := hD0.self (sz := s.heap.size)
  generalize hAe : va_A [(h0, .inr (5, mX5 h1)), (h1, zi k1 26 f1)] s.heap.size = A at hD hZ ⊢
  have hA : ∀ q : Nat, s.heap.size ≤ q → A q := fun q h => by rw [← hAe]; exact Or.inr h
  have hS : va_S A s.heap s.heap [] := va_S.rf
  have hl := lv_entry ([.ref h0]) (n := 1) (Nat.le_of_ble_eq_true rfl)
  rw [lg_entry_eq]
  generalize (lg_sl ([.ref h0]) ++ List.replicate (1 - (lg_sl ([.ref h0])).length) Slot.unset).toArray = ls at hl ⊢
  have hl : lv_has ls 1 [(0, .ref h0)] := hl
  refine lv_aload_n hx hb dX5_clear_0 rfl (lv_at hl 0 rfl) ?_
  refine va_get (D := (dC, dI)) (ci := 5) (v := .ref h1) (C := RX5) (T := TX5) (N := 1) hx hb hG zuX5 hown hK hP 0 rfl rfl 0 (by decide) (hG _ zv458) (fun _ h9 => h9) rfl dX5_clear_1 ?_
  refine lv_iconst (v := 0) hx hb dX5_clear_4 (by decide) ?_
  have hPc := hP.sub (ws' := [(h1, zi k1 26 f1)]) [1] rfl
  have hDc := hD.sub (ws' := [(h1, zi k1 26 f1)]) [1] (by decide) rfl
  have hKc := hK.sub (tys' := [(k1, .int)]) [0] rfl
  have hFc := va_free (wc := [(h1, zi k1 26 f1)]) hD hS hA [1] rfl
  refine va_callv (va_runS (As := [.ref h1, .int 0]) (rest := []) ⟨hx, hb, hml, hown, hG⟩ (sJ7_fill_53178_0 l dC dI adK adV h1 k1 s.heap.size f1 0) (va_cwS 2 hG (zgS zv1255 zv471 zv141 zv472) rfl rfl rfl (by decide +kernel) ⟨Nat.le_of_ble_eq_true rfl, Nat.le_of_ble_eq_true rfl⟩) ⟨zPc_blind, zPc_pre hPc hKc hDc hE hS hFc hZ⟩ rfl rfl hl.1 rfl (lv_room (Nat.le_of_ble_eq_true rfl)) dX5_clear_5 ⟨Nat.le_of_ble_eq_true rfl, Nat.le_of_ble_eq_true rfl⟩) hS (fun q _ h => hFc q h) hFc (fun u5_ t H1 locs ht hvm hw hB hz1 hk1 hS => ?_)
  obtain ⟨w5_, a5_, b5_, hB5_0, hP1, hK1, hD1⟩ := hB
  have hB5_0 : ∀ j : Nat, (j : Int) < 26 → (a5_ 0) j = (0 : Int32) := hB5_0
  rw [ht] at hP1
  obtain ⟨hP, hD⟩ := va_join (wr := [(h0, .inr (5, mX5 h1))]) (w1 := [(h1, zi k1 26 (a5_ 0))]) hP hD [1] [0] rfl rfl (by decide) (by decide) hk1 hFc hP1 hD1
  have hP : va_P (dC, dI) vwCl [(h0, .inr (5, mX5 h1)), (h1, zi k1 26 (a5_ 0))] H1 := hP.sub [0, 1] rfl
  have hD : va_D A [(h0, .inr (5, mX5 h1)), (h1, zi k1 26 (a5_ 0))] := hD.sub [0, 1] (by decide) rfl
  generalize H1 = H at hP hS ⊢
  clear hz1
  refine W.widen (k := 0) (n := 0) (by decide) (by decide) ?_
  have hpost : True := trivial
  have hP9 : va_P (dC, dI) vwCl [(h0, .inr (5, mX5 h1)), (h1, zi k1 26 (a5_ 0))] H := hP
  have hD9 : va_D A [(h0, .inr (5, mX5 h1)), (h1, zi k1 26 (a5_ 0))] := hD
  have hB0 : ∀ q : Nat, q < 832 → zpb (a5_ 0) q = false := by exact zclr_z hB5_0
  exact W.vret hx hb hr (fun t ht hW => ⟨⟨(fun _ => 0), rfl, hpost, (fun _ => 0), (fun i => ([(a5_ 0)] : List (Nat → Int32)).getD i (fun _ => 0)), (fun _ => (fun _ => 0)), hB0, by rw [ht]; exact hP9, va_K.moved hW.alike hK, hD9⟩, hS.F ht⟩) hS.2.2 dX5_clear_8
set_option maxHeartbeats 8000000 in
set_option maxRecDepth 100000 in
theorem sX7_sidesOf_0 (l : Launch) (dC : Nat → ClassId) (dI : Nat → Nat → Nat) (adK adV : Nat → Nat) (h0 : Nat) (h4 : Nat) (h1 : Nat) (h2 : Nat) (h3 : Nat) (h5 : Nat) (h6 : Nat) (h7 : Nat) (k4 : ClassId) (sz : Nat) (v0 : Nat → Int32) (f4 : Nat → Int32) (x1 : Int32) (hv0 : zR rg_Query v0) : Met l yX7_sidesOf (zw yX7_sidesOf cX7_sidesOf 2 (some .int)) { frames := 1, cells := 0, slots := 0, locals := 20 } (zPc dC dI adK adV [.ref h0, .int x1] sz [(h0, .inr (7, mX7 h1 h2 h3 h4 h5 h6 h7 v0)), (h4, zi k4 40 f4)] [(k4, .int)]) (va_Qi (fun (r : Int32) (u : Nat → Int32) => (0 ≤ x1.toInt ∧ x1.toInt ≤ 39 → r.toInt = (f4 ((x1 : Int32)).toNatClampNeg).toInt)) (fun (u : Nat → Int32) (t : State) => ∃ (ww : Nat → Int64) (aa : Nat → Nat → Int32) (bb : Nat → Nat → Int64), va_P (dC, dI) vwCl [(h0, .inr (7, mX7 h1 h2 h3 h4 h5 h6 h7 v0)), (h4, zi k4 40 f4)] t.heap ∧ va_K (dC, dI) vwCl [(k4, .int)] t ∧ va_D (va_A [(h0, .inr (7, mX7 h1 h2 h3 h4 h5 h6 h7 v0)), (h4, zi k4 40 f4)] sz) [(h0, .inr (7, mX7 h1 h2 h3 h4 h5 h6 h7 v0)), (h4, zi k4 40 f4)]) (va_A [(h0, .inr (7, mX7 h1 h2 h3 h4 h5 h6 h7 v0)), (h4, zi k4 40 f4)] sz)) 0 0 (va_A [(h0, .inr (7, mX7 h1 h2 h3 h4 h5 h6 h7 v0)), (h4, zi k4 40 f4)] sz) := by
  refine Met.ofW (cc := cX7_sidesOf) (maxL := 2) (ret := (some .int)) (by decide) rfl ?_
  intro p e s m args below meth c s₁ B hml hv
  obtain ⟨rfl, hsz, hP, hK, hD0, hE, hZ⟩ := hv
  have hx := B.exec
  have hb := B.bytes
  have hr := B.returns
  have hG : ∀ w ∈ zG, w.before _ s = true := fun w h => atoms_spec (ws := (zw yX7_sidesOf cX7_sidesOf 2 (some .int))) B.pre w (List.mem_cons_of_mem _ h)
  have hown : s.vm.findClass RX7 = some m.cls := findClass_of_methodNamed B.named
  have hlocks := B.notSynchronized

  subst hsz
  have hD := hD0.self (sz := s.heap.size)
  generalize hAe : va_A [(h0, .inr (7, mX7 h1 h2 h3 h4 h5 h6 h7 v0)), (h4, zi k4 40 f4)] s.heap.size = A at hD hZ ⊢
  have hA : ∀ q : Nat, s.heap.size ≤ q → A q := fun q h => by rw [← hAe]; exact Or.inr h
  have hS : va_S A s.heap s.heap [] := va_S.rf
  have hl := lv_entry ([.ref h0, .int x1]) (n := 2) (Nat.le_of_ble_eq_true rfl)
  rw [lg_entry_eq]
  generalize (lg_sl ([.ref h0, .int x1]) ++ List.replicate (2 - (lg_sl ([.ref h0, .int x1])).length) Slot.unset).toArray = ls at hl ⊢
  have hl : lv_has ls 2 [(0, .ref h0), (1, .int x1)] := hl
  have b_ := zk_0
  refine lv_iload_n hx hb dX7_sidesOf_0 rfl (lv_at hl 1 rfl) ?_
  have hPc := hP.sub (ws' := []) [] rfl
  have hDc := hD.sub (ws' := []) [] (by decide) rfl
  have hKc := hK.sub (tys' := []) [] rfl
  have hFc := va_free (wc := []) hD hS hA [] rfl
  refine va_calli (va_runS (As := [.int x1]) (rest := []) ⟨hx, hb, hml, hown, hG⟩ (sX7_isLeaf_0 l dC dI adK adV s.heap.size x1) (va_cwS 1 hG (zgS zv1188 zv1189 zv136 zv1190) rfl rfl rfl (by decide +kernel) ⟨Nat.le_of_ble_eq_true rfl, Nat.le_of_ble_eq_true rfl⟩) ⟨zPc_blind, zPc_pre hPc hKc hDc hE hS hFc hZ⟩ rfl rfl hl.1 rfl (lv_room (Nat.le_of_ble_eq_true rfl)) dX7_sidesOf_1 ⟨Nat.le_of_ble_eq_true rfl, Nat.le_of_ble_eq_true rfl⟩) hS (fun q _ h => hFc q h) hFc (fun r1_ u1_ t H1 locs ht hvm hw hB hz1 hk1 hS => ?_)
  replace hw : (0 ≤ r1_.toInt ∧ r1_.toInt ≤ 1) ∧ (r1_.toInt = 1 → (0 ≤ x1.toInt ∧ x1.toInt ≤ 39)) ∧ (r1_.toInt = 0 → x1.toInt < 0 ∨ 40 ≤ x1.toInt) := hw
  obtain ⟨b_, hX1_0, hX1_1⟩ := hw
  obtain ⟨w1_, a1_, b1_, hP1, hK1, hD1⟩ := hB
  rw [ht] at hP1
  obtain ⟨hP, hD⟩ := va_join (wr := [(h0, .inr (7, mX7 h1 h2 h3 h4 h5 h6 h7 v0)), (h4, zi k4 40 f4)]) (w1 := []) hP hD [] [0, 1] rfl rfl (by decide) (by decide) hk1 hFc hP1 hD1
  have hP : va_P (dC, dI) vwCl [(h0, .inr (7, mX7 h1 h2 h3 h4 h5 h6 h7 v0)), (h4, zi k4 40 f4)] H1 := hP.sub [0, 1] rfl
  have hD : va_D A [(h0, .inr (7, mX7 h1 h2 h3 h4 h5 h6 h7 v0)), (h4, zi k4 40 f4)] := hD.sub [0, 1] (by decide) rfl
  generalize H1 = H at hP hS ⊢
  clear hz1
  refine lv_if_eq (tgt := 16) hx hb dX7_sidesOf_4 (by decide) (fun c_ => ?_) (fun c_ => ?_)
  · skip
    have b_ := zT_eq rfl zk_0 c_
    refine lv_iconst (v := 0) hx hb dX7_sidesOf_16 (by decide) ?_
    refine W.widen (k := 0) (n := 0) (by decide) (by decide) ?_
    have hpost : (0 ≤ x1.toInt ∧ x1.toInt ≤ 39 → (0 : Int32).toInt = (f4 ((x1 : Int32)).toNatClampNeg).toInt) := by first | exact fun _ => congrArg Int32.toInt e_z12 | omega
    have hP9 : va_P (dC, dI) vwCl [(h0, .inr (7, mX7 h1 h2 h3 h4 h5 h6 h7 v0)), (h4, zi k4 40 f4)] H := hP
    have hD9 : va_D A [(h0, .inr (7, mX7 h1 h2 h3 h4 h5 h6 h7 v0)), (h4, zi k4 40 f4)] := hD
    exact W.iret (v := 0) hx hb hr (fun t ht hW => ⟨⟨0, (fun _ => 0), rfl, hpost, (fun _ => 0), (fun _ => (fun _ => 0)), (fun _ => (fun _ => 0)), by rw [ht]; exact hP9, va_K.moved hW.alike hK, hD9⟩, hS.F ht⟩) hS.2.2 dX7_sidesOf_17
  · skip
    have b_ := zF_eq rfl zk_0 c_
    refine lv_aload_n hx hb dX7_sidesOf_7 rfl (lv_at hl 0 rfl) ?_
    refine va_get (D := (dC, dI)) (ci := 7) (v := .ref h4) (C := RX7) (T := TX7) (N := 12) hx hb hG zuX7 hown hK hP 0 rfl rfl 3 (by decide) (hG _ zv368) (fun _ h9 => h9) rfl dX7_sidesOf_8 ?_
    refine lv_iload_n hx hb dX7_sidesOf_11 rfl (lv_at hl 1 rfl) ?_
    refine va_iald hx hb hK hP 1 0 rfl rfl (zin_lit ⟨by omega, by omega⟩) dX7_sidesOf_12 ?_
    refine lv_topi (fun z12 e_z12 => ?_)
    refine lv_goto (tgt := 17) hx hb dX7_sidesOf_13 (by decide) ?_
    refine W.widen (k := 0) (n := 0) (by decide) (by decide) ?_
    have b_ : -2147483648 ≤ z12.toInt ∧ z12.toInt ≤ 2147483647 := ⟨zlo _, zhi _⟩
    have hpost : (0 ≤ x1.toInt ∧ x1.toInt ≤ 39 → z12.toInt = (f4 ((x1 : Int32)).toNatClampNeg).toInt) := by first | exact fun _ => congrArg Int32.toInt e_z12 | omega
    have hP9 : va_P (dC, dI) vwCl [(h0, .inr (7, mX7 h1 h2 h3 h4 h5 h6 h7 v0)), (h4, zi k4 40 f4)] H := hP
    have hD9 : va_D A [(h0, .inr (7, mX7 h1 h2 h3 h4 h5 h6 h7 v0)), (h4, zi k4 40 f4)] := hD
    exact W.iret (v := z12) hx hb hr (fun t ht hW => ⟨⟨z12, (fun _ => 0), rfl, hpost, (fun _ => 0), (fun _ => (fun _ => 0)), (fun _ => (fun _ => 0)), by rw [ht]; exact hP9, va_K.moved hW.alike hK, hD9⟩, hS.F ht⟩) hS.2.2 dX7_sidesOf_17
set_option maxHeartbeats 8000000 in
set_option maxRecDepth 100000 in
theorem sX5_put_0 (l : Launch) (dC : Nat → ClassId) (dI : Nat → Nat → Nat) (adK adV : Nat → Nat) (h0 : Nat) (h1 : Nat) (k1 : ClassId) (sz : Nat) (f1 : Nat → Int32) (x1 : Int32) : Met l yX5_put (zw yX5_put cX5_put 2 none) { frames := 0, cells := 0, slots := 0, locals := 0 } (zPc dC dI adK adV [.ref h0, .int x1] sz [(h0, .inr (5, mX5 h1)), (h1, zi k1 26 f1)] [(k1, .int)]) (va_Qv (fun (u : Nat → Int32) => True) (fun (u : Nat → Int32) (t : State) => ∃ (ww : Nat → Int64) (aa : Nat → Nat → Int32) (bb : Nat → Nat → Int64), (zpP f1 (aa 0) x1.toInt) ∧ va_P (dC, dI) vwCl [(h0, .inr (5, mX5 h1)), (h1, zi k1 26 (aa 0))] t.heap ∧ va_K (dC, dI) vwCl [(k1, .int)] t ∧ va_D (va_A [(h0, .inr (5, mX5 h1)), (h1, zi k1 26 f1)] sz) [(h0, .inr (5, mX5 h1)), (h1, zi k1 26 (aa 0))]) (va_A [(h0, .inr (5, mX5 h1)), (h1, zi k1 26 f1)] sz)) 0 0 (va_A [(h0, .inr (5, mX5 h1)), (h1, zi k1 26 f1)] sz) := by
  refine Met.ofW (cc := cX5_put) (maxL := 2) (ret := none) (by decide) rfl ?_
  intro p e s m args below meth c s₁ B hml hv
  obtain ⟨rfl, hsz, hP, hK, hD0, hE, hZ⟩ := hv
  have hx := B.exec
  have hb := B.bytes
  have hr := B.returns
  have hG : ∀ w ∈ zG, w.before _ s = true := fun w h => atoms_spec (ws := (zw yX5_put cX5_put 2 none)) B.pre w (List.mem_cons_of_mem _ h)
  have hown : s.vm.findClass RX5 = some m.cls := findClass_of_methodNamed B.named
  have hlocks := B.notSynchronized

  subst hsz
  have hD := hD0.self (sz := s.heap.size)
  generalize hAe : va_A [(h0, .inr (5, mX5 h1)), (h1, zi k1 26 f1)] s.heap.size = A at hD hZ ⊢
  have hA : ∀ q : Nat, s.heap.size ≤ q → A q := fun q h => by rw [← hAe]; exact Or.inr h
  have hS : va_S A s.heap s.heap [] := va_S.rf
  have hl := lv_entry ([.ref h0, .int x1]) (n := 2) (Nat.le_of_ble_eq_true rfl)
  rw [lg_entry_eq]
  generalize (lg_sl ([.ref h0, .int x1]) ++ List.replicate (2 - (lg_sl ([.ref h0, .int x1])).length) Slot.unset).toArray = ls at hl ⊢
  have hl : lv_has ls 2 [(0, .ref h0), (1, .int x1)] := hl
  refine lv_iload_n hx hb dX5_put_0 rfl (lv_at hl 1 rfl) ?_
  have b_ : -2147483648 ≤ x1.toInt ∧ x1.toInt ≤ 2147483647 := ⟨zlo _, zhi _⟩
  refine lv_if_lt (tgt := 29) hx hb dX5_put_1 (by decide) (fun c_ => ?_) (fun c_ => ?_)
  · skip
    have b_ := zT_lt rfl zk_0 c_
    refine W.widen (k := 0) (n := 0) (by decide) (by decide) ?_
    have hpost : True := trivial
    have hP9 : va_P (dC, dI) vwCl [(h0, .inr (5, mX5 h1)), (h1, zi k1 26 f1)] s.heap := hP
    have hD9 : va_D A [(h0, .inr (5, mX5 h1)), (h1, zi k1 26 f1)] := hD
    have hB0 : zpP f1 f1 x1.toInt := by first | exact zpP_i e_z20 e_z26 e_z27 e_f_28 (by omega) (by omega) (by omega) | exact zpP_o (by omega)
    exact W.vret hx hb hr (fun t ht hW => ⟨⟨(fun _ => 0), rfl, hpost, (fun _ => 0), (fun i => ([f1] : List (Nat → Int32)).getD i (fun _ => 0)), (fun _ => (fun _ => 0)), hB0, by rw [ht]; exact hP9, va_K.moved hW.alike hK, hD9⟩, hS.F ht⟩) hS.2.2 dX5_put_29
  · skip
    have b_ := zF_lt rfl zk_0 c_
    refine lv_iload_n hx hb dX5_put_4 rfl (lv_at hl 1 rfl) ?_
    refine lv_sipush (v := 832) hx hb dX5_put_5 (by decide) ?_
    refine lv_icmp_ge (tgt := 29) hx hb dX5_put_8 (by decide) (fun c_ => ?_) (fun c_ => ?_)
    · skip
      have b_ := zT_ge rfl zk_832 c_
      refine W.widen (k := 0) (n := 0) (by decide) (by decide) ?_
      have hpost : True := trivial
      have hP9 : va_P (dC, dI) vwCl [(h0, .inr (5, mX5 h1)), (h1, zi k1 26 f1)] s.heap := hP
      have hD9 : va_D A [(h0, .inr (5, mX5 h1)), (h1, zi k1 26 f1)] := hD
      have hB0 : zpP f1 f1 x1.toInt := by first | exact zpP_i e_z20 e_z26 e_z27 e_f_28 (by omega) (by omega) (by omega) | exact zpP_o (by omega)
      exact W.vret hx hb hr (fun t ht hW => ⟨⟨(fun _ => 0), rfl, hpost, (fun _ => 0), (fun i => ([f1] : List (Nat → Int32)).getD i (fun _ => 0)), (fun _ => (fun _ => 0)), hB0, by rw [ht]; exact hP9, va_K.moved hW.alike hK, hD9⟩, hS.F ht⟩) hS.2.2 dX5_put_29
    · skip
      have b_ := zF_ge rfl zk_832 c_
      refine lv_aload_n hx hb dX5_put_11 rfl (lv_at hl 0 rfl) ?_
      refine va_get (D := (dC, dI)) (ci := 5) (v := .ref h1) (C := RX5) (T := TX5) (N := 1) hx hb hG zuX5 hown hK hP 0 rfl rfl 0 (by decide) (hG _ zv458) (fun _ h9 => h9) rfl dX5_put_12 ?_
      refine lv_iload_n hx hb dX5_put_15 rfl (lv_at hl 1 rfl) ?_
      refine lv_bipush (v := 32) hx hb dX5_put_16 (by decide) ?_
      refine lv_idiv hx hb dX5_put_18 (by decide) ?_
      refine lv_topi (fun z18 e_z18 => ?_)
      have b_ := zdiv rfl zk_32 e_z18 (by omega) (by decide)
      refine lv_dup2_11 hx hb dX5_put_19 rfl rfl ?_
      refine va_iald hx hb hK hP 1 0 rfl rfl (zin_lit ⟨by omega, by omega⟩) dX5_put_20 ?_
      refine lv_topi (fun z20 e_z20 => ?_)
      refine lv_iconst (v := 1) hx hb dX5_put_21 (by decide) ?_
      refine lv_iload_n hx hb dX5_put_22 rfl (lv_at hl 1 rfl) ?_
      refine lv_bipush (v := 32) hx hb dX5_put_23 (by decide) ?_
      refine lv_irem hx hb dX5_put_25 (by decide) ?_
      refine lv_topi (fun z25 e_z25 => ?_)
      have b_ := zrem rfl zk_32 e_z25 (by omega) (by decide)
      refine lv_ishl hx hb dX5_put_26 ?_
      refine lv_topi (fun z26 e_z26 => ?_)
      have b_ : -2147483648 ≤ z20.toInt ∧ z20.toInt ≤ 2147483647 := ⟨zlo _, zhi _⟩
      have b_ : -2147483648 ≤ z26.toInt ∧ z26.toInt ≤ 2147483647 := ⟨zlo _, zhi _⟩
      refine lv_ior hx hb dX5_put_27 ?_
      refine lv_topi (fun z27 e_z27 => ?_)
      refine va_iast hx hb hK hP hD hS 1 0 rfl rfl (zin_lit ⟨by omega, by omega⟩) dX5_put_28 (fun H locs hP hD hS => ?_)
      obtain ⟨f_28, e_f_28⟩ : ∃ z : Nat → Int32, z = upd f1 (z18 : Int32).toNatClampNeg z27 := ⟨_, rfl⟩
      have hP : va_P (dC, dI) vwCl [(h0, .inr (5, mX5 h1)), (h1, zi k1 26 f_28)] H := by rw [e_f_28]; exact hP
      have hD : va_D A [(h0, .inr (5, mX5 h1)), (h1, zi k1 26 f_28)] := by rw [e_f_28]; exact hD
      refine W.widen (k := 0) (n := 0) (by decide) (by decide) ?_
      have hpost : True := trivial
      have hP9 : va_P (dC, dI) vwCl [(h0, .inr (5, mX5 h1)), (h1, zi k1 26 f_28)] H := hP
      have hD9 : va_D A [(h0, .inr (5, mX5 h1)), (h1, zi k1 26 f_28)] := hD
      have hB0 : zpP f1 f_28 x1.toInt := by first | exact zpP_i e_z20 e_z26 e_z27 e_f_28 (by omega) (by omega) (by omega) | exact zpP_o (by omega)
      exact W.vret hx hb hr (fun t ht hW => ⟨⟨(fun _ => 0), rfl, hpost, (fun _ => 0), (fun i => ([f_28] : List (Nat → Int32)).getD i (fun _ => 0)), (fun _ => (fun _ => 0)), hB0, by rw [ht]; exact hP9, va_K.moved hW.alike hK, hD9⟩, hS.F ht⟩) hS.2.2 dX5_put_29
set_option maxHeartbeats 8000000 in
set_option maxRecDepth 100000 in
theorem sX3_gatherWords_0 (l : Launch) (dC : Nat → ClassId) (dI : Nat → Nat → Nat) (adK adV : Nat → Nat) (h0 : Nat) (h29 : Nat) (h28 : Nat) (h30 : Nat) (h31 : Nat) (h1 : Nat) (h8 : Nat) (h17 : Nat) (h25 : Nat) (h26 : Nat) (h27 : Nat) (k29 : ClassId) (k28 : ClassId) (k31 : ClassId) (sz : Nat) (v0 : Nat → Int32) (f29 : Nat → Int32) (f28 : Nat → Int32) (f31 : Nat → Int32) (x1 : Int32) (x2 : Int32) (hv0 : zR rg_Page v0) (hf29 : zA 0 831 f29) : Met l yX3_gatherWords (zw yX3_gatherWords cX3_gatherWords 6 none) { frames := 1, cells := 0, slots := 0, locals := 21 } (zPc dC dI adK adV [.ref h0, .int x1, .int x2, .ref h30] sz [(h0, .inr (3, mX3 h1 h8 h17 h25 h26 h27 h28 h29 v0)), (h29, zi k29 300 f29), (h28, zi k28 832 f28), (h30, .inr (5, mX5 h31)), (h31, zi k31 26 f31)] [(k29, .int), (k28, .int), (k31, .int)]) (va_Qv (fun (u : Nat → Int32) => True) (fun (u : Nat → Int32) (t : State) => ∃ (ww : Nat → Int64) (aa : Nat → Nat → Int32) (bb : Nat → Nat → Int64), (zGW f28 f29 f31 (aa 0) x1.toInt x2.toInt (v0 9).toInt) ∧ va_P (dC, dI) vwCl [(h0, .inr (3, mX3 h1 h8 h17 h25 h26 h27 h28 h29 v0)), (h29, zi k29 300 f29), (h28, zi k28 832 f28), (h30, .inr (5, mX5 h31)), (h31, zi k31 26 (aa 0))] t.heap ∧ va_K (dC, dI) vwCl [(k29, .int), (k28, .int), (k31, .int)] t ∧ va_D (va_A [(h0, .inr (3, mX3 h1 h8 h17 h25 h26 h27 h28 h29 v0)), (h29, zi k29 300 f29), (h28, zi k28 832 f28), (h30, .inr (5, mX5 h31)), (h31, zi k31 26 f31)] sz) [(h0, .inr (3, mX3 h1 h8 h17 h25 h26 h27 h28 h29 v0)), (h29, zi k29 300 f29), (h28, zi k28 832 f28), (h30, .inr (5, mX5 h31)), (h31, zi k31 26 (aa 0))]) (va_A [(h0, .inr (3, mX3 h1 h8 h17 h25 h26 h27 h28 h29 v0)), (h29, zi k29 300 f29), (h28, zi k28 832 f28), (h30, .inr (5, mX5 h31)), (h31, zi k31 26 f31)] sz)) 0 0 (va_A [(h0, .inr (3, mX3 h1 h8 h17 h25 h26 h27 h28 h29 v0)), (h29, zi k29 300 f29), (h28, zi k28 832 f28), (h30, .inr (5, mX5 h31)), (h31, zi k31 26 f31)] sz) := by
  refine Met.ofW (cc := cX3_gatherWords) (maxL := 6) (ret := none) (by decide) rfl ?_
  intro p e s m args below meth c s₁ B hml hv
  obtain ⟨rfl, hsz, hP, hK, hD0, hE, hZ⟩ := hv
  have hx := B.exec
  have hb := B.bytes
  have hr := B.returns
  have hG : ∀ w ∈ zG, w.before _ s = true := fun w h => atoms_spec (ws := (zw yX3_gatherWords cX3_gatherWords 6 none)) B.pre w (List.mem_cons_of_mem _ h)
  have hown : s.vm.findClass RX3 = some m.cls := findClass_of_methodNamed B.named
  have hlocks := B.notSynchronized

  subst hsz
  have hD := hD0.self (sz := s.heap.size)
  generalize hAe : va_A [(h0, .inr (3, mX3 h1 h8 h17 h25 h26 h27 h28 h29 v0)), (h29, zi k29 300 f29), (h28, zi k28 832 f28), (h30, .inr (5, mX5 h31)), (h31, zi k31 26 f31)] s.heap.size = A at hD hZ ⊢
  have hA : ∀ q : Nat, s.heap.size ≤ q → A q := fun q h => by rw [← hAe]; exact Or.inr h
  have hS : va_S A s.heap s.heap [] := va_S.rf
  have hl := lv_entry ([.ref h0, .int x1, .int x2, .ref h30]) (n := 6) (Nat.le_of_ble_eq_true rfl)
  rw [lg_entry_eq]
  generalize (lg_sl ([.ref h0, .int x1, .int x2, .ref h30]) ++ List.replicate (6 - (lg_sl ([.ref h0, .int x1, .int x2, .ref h30])).length) Slot.unset).toArray = ls at hl ⊢
  have hl : lv_has ls 6 [(0, .ref h0), (1, .int x1), (2, .int x2), (3, .ref h30)] := hl
  have b_ := zk_0
  have b_ : 0 ≤ (v0 9).toInt ∧ (v0 9).toInt ≤ 300 := hv0 9
  refine lv_iconst (v := 0) hx hb dX3_gatherWords_0 (by decide) ?_
  refine lv_istore (lv' := [(4, .int 0), (0, .ref h0), (1, .int x1), (2, .int x2), (3, .ref h30)]) hx hb dX3_gatherWords_1 hl (by decide) rfl (fun ls hl => ?_)
  refine zcutL (fun u3_ => (300 - (u3_ 0).toInt).toNat) (fun H locs ls u3_ w3_ a3_ b3_ => va_P (dC, dI) vwCl [(h0, .inr (3, mX3 h1 h8 h17 h25 h26 h27 h28 h29 v0)), (h29, zi k29 300 f29), (h28, zi k28 832 f28), (h30, .inr (5, mX5 h31)), (h31, zi k31 26 (a3_ 0))] H ∧ va_D A [(h0, .inr (3, mX3 h1 h8 h17 h25 h26 h27 h28 h29 v0)), (h29, zi k29 300 f29), (h28, zi k28 832 f28), (h30, .inr (5, mX5 h31)), (h31, zi k31 26 (a3_ 0))] ∧ va_S A s.heap H locs ∧ lv_has ls 6 [(0, .ref h0), (1, .int x1), (2, .int x2), (3, .ref h30), (4, .int (u3_ 0))] ∧ (0 ≤ (u3_ 0).toInt ∧ (u3_ 0).toInt ≤ 300) ∧ (zGW f28 f29 f31 (a3_ 0) x1.toInt x2.toInt (u3_ 0).toInt) ∧ ((u3_ 0).toInt ≤ (v0 9).toInt)) (fun ls u3_ w3_ => F0 m 3 ls []) 0 0 ?_ (fun hJ3 => ?_)
  · skip
    intro H locs ls u3_ w3_ a3_ b3_ hc hJ3
    obtain ⟨hP, hD, hS, hl, b_, hI3_0, b_⟩ := hc
    refine lv_iload hx hb dX3_gatherWords_3 (lv_at hl 4 rfl) ?_
    refine lv_aload_n hx hb dX3_gatherWords_5 rfl (lv_at hl 0 rfl) ?_
    refine va_get (D := (dC, dI)) (ci := 3) (v := .int (v0 9)) (C := RX3) (T := TX3) (N := 10) hx hb hG zuX3 hown hK hP 0 rfl rfl 9 (by decide) (hG _ zv482) (fun _ h9 => h9) rfl dX3_gatherWords_6 ?_
    refine lv_icmp_ge (tgt := 54) hx hb dX3_gatherWords_9 (by decide) (fun c_ => ?_) (fun c_ => ?_)
    · skip
      have b_ := zT_ge rfl rfl c_
      refine W.widen (k := 0) (n := 0) (by decide) (by decide) ?_
      have hpost : True := trivial
      have hP9 : va_P (dC, dI) vwCl [(h0, .inr (3, mX3 h1 h8 h17 h25 h26 h27 h28 h29 v0)), (h29, zi k29 300 f29), (h28, zi k28 832 f28), (h30, .inr (5, mX5 h31)), (h31, zi k31 26 (a3_ 0))] H := hP
      have hD9 : va_D A [(h0, .inr (3, mX3 h1 h8 h17 h25 h26 h27 h28 h29 v0)), (h29, zi k29 300 f29), (h28, zi k28 832 f28), (h30, .inr (5, mX5 h31)), (h31, zi k31 26 (a3_ 0))] := hD
      have hB0 : zGW f28 f29 f31 (a3_ 0) x1.toInt x2.toInt (v0 9).toInt := by exact zGW_e hI3_0 (by omega)
      exact W.vret hx hb hr (fun t ht hW => ⟨⟨(fun _ => 0), rfl, hpost, (fun _ => 0), (fun i => ([(a3_ 0)] : List (Nat → Int32)).getD i (fun _ => 0)), (fun _ => (fun _ => 0)), hB0, by rw [ht]; exact hP9, va_K.moved hW.alike hK, hD9⟩, hS.F ht⟩) hS.2.2 dX3_gatherWords_54
    · skip
      have b_ := zF_ge rfl rfl c_
      refine lv_aload_n hx hb dX3_gatherWords_12 rfl (lv_at hl 0 rfl) ?_
      refine lv_aload_n hx hb dX3_gatherWords_13 rfl (lv_at hl 0 rfl) ?_
      refine va_get (D := (dC, dI)) (ci := 3) (v := .ref h29) (C := RX3) (T := TX3) (N := 10) hx hb hG zuX3 hown hK hP 0 rfl rfl 7 (by decide) (hG _ zv480) (fun _ h9 => h9) rfl dX3_gatherWords_14 ?_
      refine lv_iload hx hb dX3_gatherWords_17 (lv_at hl 4 rfl) ?_
      refine va_iald hx hb hK hP 1 0 rfl rfl (zin_lit ⟨by omega, by omega⟩) dX3_gatherWords_19 ?_
      refine lv_topi (fun z19 e_z19 => ?_)
      have b_ : 0 ≤ z19.toInt ∧ z19.toInt ≤ 831 := by rw [e_z19]; exact hf29 _
      have hPc := hP.sub (ws' := [(h0, .inr (3, mX3 h1 h8 h17 h25 h26 h27 h28 h29 v0)), (h28, zi k28 832 f28)]) [0, 2] rfl
      have hDc := hD.sub (ws' := [(h0, .inr (3, mX3 h1 h8 h17 h25 h26 h27 h28 h29 v0)), (h28, zi k28 832 f28)]) [0, 2] (by decide) rfl
      have hKc := hK.sub (tys' := [(k28, .int)]) [1] rfl
      have hFc := va_free (wc := [(h0, .inr (3, mX3 h1 h8 h17 h25 h26 h27 h28 h29 v0)), (h28, zi k28 832 f28)]) hD hS hA [0, 2] rfl
      refine va_calli (va_runV (As := [.int z19]) (rest := []) ⟨hx, hb, hml, hown, hG⟩ (sX3_wordAt_0 l dC dI adK adV h0 h28 h1 h8 h17 h25 h26 h27 h29 k28 H.size v0 f28 z19 hv0) (cwV 1 hG (zgV zv1268 zv1270 zv39 zv140 zv1271) rfl rfl rfl (by decide +kernel) ⟨Nat.le_of_ble_eq_true rfl, Nat.le_of_ble_eq_true rfl⟩) ⟨zPc_blind, va_recv hKc hPc (ci := 3) (q0 := 0) rfl rfl, zPc_pre hPc hKc hDc hE hS hFc hZ⟩ rfl rfl hl.1 rfl (lv_room (Nat.le_of_ble_eq_true rfl)) dX3_gatherWords_20 ⟨Nat.le_of_ble_eq_true rfl, Nat.le_of_ble_eq_true rfl⟩) hS (fun q _ h => hFc q h) hFc (fun r20_ u20_ t H1 locs ht hvm hw hB hz1 hk1 hS => ?_)
      replace hw : (r20_.toInt = zWa f28 z19.toInt) := hw
      have hX20_0 := hw
      obtain ⟨w20_, a20_, b20_, hP1, hK1, hD1⟩ := hB
      rw [ht] at hP1
      obtain ⟨hP, hD⟩ := va_join (wr := [(h29, zi k29 300 f29), (h30, .inr (5, mX5 h31)), (h31, zi k31 26 (a3_ 0))]) (w1 := [(h0, .inr (3, mX3 h1 h8 h17 h25 h26 h27 h28 h29 v0)), (h28, zi k28 832 f28)]) hP hD [0, 2] [1, 3, 4] rfl rfl (by decide) (by decide) hk1 hFc hP1 hD1
      have hP : va_P (dC, dI) vwCl [(h0, .inr (3, mX3 h1 h8 h17 h25 h26 h27 h28 h29 v0)), (h29, zi k29 300 f29), (h28, zi k28 832 f28), (h30, .inr (5, mX5 h31)), (h31, zi k31 26 (a3_ 0))] H1 := hP.sub [3, 0, 4, 1, 2] rfl
      have hD : va_D A [(h0, .inr (3, mX3 h1 h8 h17 h25 h26 h27 h28 h29 v0)), (h29, zi k29 300 f29), (h28, zi k28 832 f28), (h30, .inr (5, mX5 h31)), (h31, zi k31 26 (a3_ 0))] := hD.sub [3, 0, 4, 1, 2] (by decide) rfl
      generalize H1 = H at hP hS ⊢
      clear hz1
      refine lv_istore (lv' := [(5, .int r20_), (0, .ref h0), (1, .int x1), (2, .int x2), (3, .ref h30), (4, .int (u3_ 0))]) hx hb dX3_gatherWords_23 hl (by decide) rfl (fun ls hl => ?_)
      refine lv_iload hx hb dX3_gatherWords_25 (lv_at hl 0 rfl) ?_
      refine lv_iload_n hx hb dX3_gatherWords_27 rfl (lv_at hl 2 rfl) ?_
      have b_ : -2147483648 ≤ r20_.toInt ∧ r20_.toInt ≤ 2147483647 := ⟨zlo _, zhi _⟩
      have b_ : -2147483648 ≤ x1.toInt ∧ x1.toInt ≤ 2147483647 := ⟨zlo _, zhi _⟩
      refine lv_icmp_lt (tgt := 48) hx hb dX3_gatherWords_28 (by decide) (fun c_ => ?_) (fun c_ => ?_)
      · skip
        have b_ := zT_lt rfl rfl c_
        obtain ⟨z48, e_z48⟩ : ∃ z : Int32, z = (u3_ 0) + Int32.ofInt 1 := ⟨_, rfl⟩
        have b_ := zadd (x := (u3_ 0)) (y := Int32.ofInt 1) rfl (show (Int32.ofInt 1).toInt = 1 from by decide) e_z48 (by omega) (by omega)
        refine lv_iinc (v := z48) (lv' := [(4, .int z48), (5, .int r20_), (0, .ref h0), (1, .int x1), (2, .int x2), (3, .ref h30)]) hx hb dX3_gatherWords_48 hl (k := 5) rfl e_z48.symm (by decide) rfl (fun ls hl => ?_)
        refine lv_goto (tgt := 3) hx hb dX3_gatherWords_51 (by decide) ?_
        have b_ : -2147483648 ≤ x2.toInt ∧ x2.toInt ≤ 2147483647 := ⟨zlo _, zhi _⟩
        have hc : va_P (dC, dI) vwCl [(h0, .inr (3, mX3 h1 h8 h17 h25 h26 h27 h28 h29 v0)), (h29, zi k29 300 f29), (h28, zi k28 832 f28), (h30, .inr (5, mX5 h31)), (h31, zi k31 26 (a3_ 0))] H ∧ va_D A [(h0, .inr (3, mX3 h1 h8 h17 h25 h26 h27 h28 h29 v0)), (h29, zi k29 300 f29), (h28, zi k28 832 f28), (h30, .inr (5, mX5 h31)), (h31, zi k31 26 (a3_ 0))] ∧ va_S A s.heap H locs ∧ lv_has ls 6 [(0, .ref h0), (1, .int x1), (2, .int x2), (3, .ref h30), (4, .int z48)] ∧ (0 ≤ z48.toInt ∧ z48.toInt ≤ 300) ∧ (zGW f28 f29 f31 (a3_ 0) x1.toInt x2.toInt z48.toInt) ∧ (z48.toInt ≤ (v0 9).toInt) := ⟨hP, hD, hS, lv_sub hl [2, 3, 4, 5, 0] rfl, (by first | with_reducible assumption | exact ⟨by omega, by omega⟩), by first | exact zGW_k hI3_0 (by omega) e_z19 hX20_0 (by omega) (by omega) | exact zGW_s hI3_0 (by omega) e_z19 hX20_0 (by omega) (by omega) e_z44 hB45_0 (by omega) | exact zGW_0 (by decide), by omega⟩
        exact hJ3 H locs ls (fun i => ([z48] : List (Int32)).getD i 0) (fun _ => 0) (fun i => ([(a3_ 0)] : List (Nat → Int32)).getD i (fun _ => 0)) (fun _ => (fun _ => 0)) hc (show (300 - z48.toInt).toNat < (300 - (u3_ 0).toInt).toNat from by omega)
      · skip
        have b_ := zF_lt rfl rfl c_
        refine lv_iload hx hb dX3_gatherWords_31 (lv_at hl 0 rfl) ?_
        refine lv_iload_n hx hb dX3_gatherWords_33 rfl (lv_at hl 3 rfl) ?_
        have b_ : -2147483648 ≤ x2.toInt ∧ x2.toInt ≤ 2147483647 := ⟨zlo _, zhi _⟩
        refine lv_icmp_ge (tgt := 48) hx hb dX3_gatherWords_34 (by decide) (fun c_ => ?_) (fun c_ => ?_)
        · skip
          have b_ := zT_ge rfl rfl c_
          obtain ⟨z48, e_z48⟩ : ∃ z : Int32, z = (u3_ 0) + Int32.ofInt 1 := ⟨_, rfl⟩
          have b_ := zadd (x := (u3_ 0)) (y := Int32.ofInt 1) rfl (show (Int32.ofInt 1).toInt = 1 from by decide) e_z48 (by omega) (by omega)
          refine lv_iinc (v := z48) (lv' := [(4, .int z48), (5, .int r20_), (0, .ref h0), (1, .int x1), (2, .int x2), (3, .ref h30)]) hx hb dX3_gatherWords_48 hl (k := 5) rfl e_z48.symm (by decide) rfl (fun ls hl => ?_)
          refine lv_goto (tgt := 3) hx hb dX3_gatherWords_51 (by decide) ?_
          have hc : va_P (dC, dI) vwCl [(h0, .inr (3, mX3 h1 h8 h17 h25 h26 h27 h28 h29 v0)), (h29, zi k29 300 f29), (h28, zi k28 832 f28), (h30, .inr (5, mX5 h31)), (h31, zi k31 26 (a3_ 0))] H ∧ va_D A [(h0, .inr (3, mX3 h1 h8 h17 h25 h26 h27 h28 h29 v0)), (h29, zi k29 300 f29), (h28, zi k28 832 f28), (h30, .inr (5, mX5 h31)), (h31, zi k31 26 (a3_ 0))] ∧ va_S A s.heap H locs ∧ lv_has ls 6 [(0, .ref h0), (1, .int x1), (2, .int x2), (3, .ref h30), (4, .int z48)] ∧ (0 ≤ z48.toInt ∧ z48.toInt ≤ 300) ∧ (zGW f28 f29 f31 (a3_ 0) x1.toInt x2.toInt z48.toInt) ∧ (z48.toInt ≤ (v0 9).toInt) := ⟨hP, hD, hS, lv_sub hl [2, 3, 4, 5, 0] rfl, (by first | with_reducible assumption | exact ⟨by omega, by omega⟩), by first | exact zGW_k hI3_0 (by omega) e_z19 hX20_0 (by omega) (by omega) | exact zGW_s hI3_0 (by omega) e_z19 hX20_0 (by omega) (by omega) e_z44 hB45_0 (by omega) | exact zGW_0 (by decide), by omega⟩
          exact hJ3 H locs ls (fun i => ([z48] : List (Int32)).getD i 0) (fun _ => 0) (fun i => ([(a3_ 0)] : List (Nat → Int32)).getD i (fun _ => 0)) (fun _ => (fun _ => 0)) hc (show (300 - z48.toInt).toNat < (300 - (u3_ 0).toInt).toNat from by omega)
        · skip
          have b_ := zF_ge rfl rfl c_
          refine lv_aload_n hx hb dX3_gatherWords_37 rfl (lv_at hl 4 rfl) ?_
          refine lv_aload_n hx hb dX3_gatherWords_38 rfl (lv_at hl 1 rfl) ?_
          refine va_get (D := (dC, dI)) (ci := 3) (v := .ref h29) (C := RX3) (T := TX3) (N := 10) hx hb hG zuX3 hown hK hP 0 rfl rfl 7 (by decide) (hG _ zv480) (fun _ h9 => h9) rfl dX3_gatherWords_39 ?_
          refine lv_iload hx hb dX3_gatherWords_42 (lv_at hl 5 rfl) ?_
          refine va_iald hx hb hK hP 1 0 rfl rfl (zin_lit ⟨by omega, by omega⟩) dX3_gatherWords_44 ?_
          refine lv_topi (fun z44 e_z44 => ?_)
          have b_ : 0 ≤ z44.toInt ∧ z44.toInt ≤ 831 := by rw [e_z44]; exact hf29 _
          have hPc := hP.sub (ws' := [(h30, .inr (5, mX5 h31)), (h31, zi k31 26 (a3_ 0))]) [3, 4] rfl
          have hDc := hD.sub (ws' := [(h30, .inr (5, mX5 h31)), (h31, zi k31 26 (a3_ 0))]) [3, 4] (by decide) rfl
          have hKc := hK.sub (tys' := [(k31, .int)]) [2] rfl
          have hFc := va_free (wc := [(h30, .inr (5, mX5 h31)), (h31, zi k31 26 (a3_ 0))]) hD hS hA [3, 4] rfl
          refine va_callv (va_runV (As := [.int z44]) (rest := []) ⟨hx, hb, hml, hown, hG⟩ (sX5_put_0 l dC dI adK adV h30 h31 k31 H.size (a3_ 0) z44) (cwV 1 hG (zgV zv1272 zv1273 zv1274 zv139 zv1275) rfl rfl rfl (by decide +kernel) ⟨Nat.le_of_ble_eq_true rfl, Nat.le_of_ble_eq_true rfl⟩) ⟨zPc_blind, va_recv hKc hPc (ci := 5) (q0 := 0) rfl rfl, zPc_pre hPc hKc hDc hE hS hFc hZ⟩ rfl rfl hl.1 rfl (lv_room (Nat.le_of_ble_eq_true rfl)) dX3_gatherWords_45 ⟨Nat.le_of_ble_eq_true rfl, Nat.le_of_ble_eq_true rfl⟩) hS (fun q _ h => hFc q h) hFc (fun u45_ t H1 locs ht hvm hw hB hz1 hk1 hS => ?_)
          obtain ⟨w45_, a45_, b45_, hB45_0, hP1, hK1, hD1⟩ := hB
          have hB45_0 : zpP (a3_ 0) (a45_ 0) z44.toInt := hB45_0
          rw [ht] at hP1
          obtain ⟨hP, hD⟩ := va_join (wr := [(h0, .inr (3, mX3 h1 h8 h17 h25 h26 h27 h28 h29 v0)), (h29, zi k29 300 f29), (h28, zi k28 832 f28)]) (w1 := [(h30, .inr (5, mX5 h31)), (h31, zi k31 26 (a45_ 0))]) hP hD [3, 4] [0, 1, 2] rfl rfl (by decide) (by decide) hk1 hFc hP1 hD1
          have hP : va_P (dC, dI) vwCl [(h0, .inr (3, mX3 h1 h8 h17 h25 h26 h27 h28 h29 v0)), (h29, zi k29 300 f29), (h28, zi k28 832 f28), (h30, .inr (5, mX5 h31)), (h31, zi k31 26 (a45_ 0))] H1 := hP.sub [0, 1, 2, 3, 4] rfl
          have hD : va_D A [(h0, .inr (3, mX3 h1 h8 h17 h25 h26 h27 h28 h29 v0)), (h29, zi k29 300 f29), (h28, zi k28 832 f28), (h30, .inr (5, mX5 h31)), (h31, zi k31 26 (a45_ 0))] := hD.sub [0, 1, 2, 3, 4] (by decide) rfl
          generalize H1 = H at hP hS ⊢
          clear hz1
          obtain ⟨z48, e_z48⟩ : ∃ z : Int32, z = (u3_ 0) + Int32.ofInt 1 := ⟨_, rfl⟩
          have b_ := zadd (x := (u3_ 0)) (y := Int32.ofInt 1) rfl (show (Int32.ofInt 1).toInt = 1 from by decide) e_z48 (by omega) (by omega)
          refine lv_iinc (v := z48) (lv' := [(4, .int z48), (5, .int r20_), (0, .ref h0), (1, .int x1), (2, .int x2), (3, .ref h30)]) hx hb dX3_gatherWords_48 hl (k := 5) rfl e_z48.symm (by decide) rfl (fun ls hl => ?_)
          refine lv_goto (tgt := 3) hx hb dX3_gatherWords_51 (by decide) ?_
          have hc : va_P (dC, dI) vwCl [(h0, .inr (3, mX3 h1 h8 h17 h25 h26 h27 h28 h29 v0)), (h29, zi k29 300 f29), (h28, zi k28 832 f28), (h30, .inr (5, mX5 h31)), (h31, zi k31 26 (a45_ 0))] H ∧ va_D A [(h0, .inr (3, mX3 h1 h8 h17 h25 h26 h27 h28 h29 v0)), (h29, zi k29 300 f29), (h28, zi k28 832 f28), (h30, .inr (5, mX5 h31)), (h31, zi k31 26 (a45_ 0))] ∧ va_S A s.heap H locs ∧ lv_has ls 6 [(0, .ref h0), (1, .int x1), (2, .int x2), (3, .ref h30), (4, .int z48)] ∧ (0 ≤ z48.toInt ∧ z48.toInt ≤ 300) ∧ (zGW f28 f29 f31 (a45_ 0) x1.toInt x2.toInt z48.toInt) ∧ (z48.toInt ≤ (v0 9).toInt) := ⟨hP, hD, hS, lv_sub hl [2, 3, 4, 5, 0] rfl, (by first | with_reducible assumption | exact ⟨by omega, by omega⟩), by first | exact zGW_k hI3_0 (by omega) e_z19 hX20_0 (by omega) (by omega) | exact zGW_s hI3_0 (by omega) e_z19 hX20_0 (by omega) (by omega) e_z44 hB45_0 (by omega) | exact zGW_0 (by decide), by omega⟩
          exact hJ3 H locs ls (fun i => ([z48] : List (Int32)).getD i 0) (fun _ => 0) (fun i => ([(a45_ 0)] : List (Nat → Int32)).getD i (fun _ => 0)) (fun _ => (fun _ => 0)) hc (show (300 - z48.toInt).toNat < (300 - (u3_ 0).toInt).toNat from by omega)
  · skip
    have b_ : -2147483648 ≤ x1.toInt ∧ x1.toInt ≤ 2147483647 := ⟨zlo _, zhi _⟩
    have b_ : -2147483648 ≤ x2.toInt ∧ x2.toInt ≤ 2147483647 := ⟨zlo _, zhi _⟩
    have hc : va_P (dC, dI) vwCl [(h0, .inr (3, mX3 h1 h8 h17 h25 h26 h27 h28 h29 v0)), (h29, zi k29 300 f29), (h28, zi k28 832 f28), (h30, .inr (5, mX5 h31)), (h31, zi k31 26 f31)] s.heap ∧ va_D A [(h0, .inr (3, mX3 h1 h8 h17 h25 h26 h27 h28 h29 v0)), (h29, zi k29 300 f29), (h28, zi k28 832 f28), (h30, .inr (5, mX5 h31)), (h31, zi k31 26 f31)] ∧ va_S A s.heap s.heap [] ∧ lv_has ls 6 [(0, .ref h0), (1, .int x1), (2, .int x2), (3, .ref h30), (4, .int 0)] ∧ (0 ≤ (0 : Int32).toInt ∧ (0 : Int32).toInt ≤ 300) ∧ (zGW f28 f29 f31 f31 x1.toInt x2.toInt (0 : Int32).toInt) ∧ ((0 : Int32).toInt ≤ (v0 9).toInt) := ⟨hP, hD, hS, lv_sub hl [1, 2, 3, 4, 0] rfl, (by first | with_reducible assumption | exact ⟨by omega, by omega⟩), by first | exact zGW_k hI3_0 (by omega) e_z19 hX20_0 (by omega) (by omega) | exact zGW_s hI3_0 (by omega) e_z19 hX20_0 (by omega) (by omega) e_z44 hB45_0 (by omega) | exact zGW_0 (by decide), by omega⟩
    exact hJ3 s.heap [] ls (fun i => ([0] : List (Int32)).getD i 0) (fun _ => 0) (fun i => ([f31] : List (Nat → Int32)).getD i (fun _ => 0)) (fun _ => (fun _ => 0)) hc
set_option maxHeartbeats 8000000 in
set_option maxRecDepth 100000 in
theorem sX3_standsFrom_0 (l : Launch) (dC : Nat → ClassId) (dI : Nat → Nat → Nat) (adK adV : Nat → Nat) (h0 : Nat) (h17 : Nat) (h23 : Nat) (h28 : Nat) (h1 : Nat) (h8 : Nat) (h25 : Nat) (h26 : Nat) (h27 : Nat) (h29 : Nat) (h18 : Nat) (h19 : Nat) (h20 : Nat) (h21 : Nat) (h22 : Nat) (h24 : Nat) (k23 : ClassId) (k28 : ClassId) (sz : Nat) (v0 : Nat → Int32) (v17 : Nat → Int32) (f23 : Nat → Int32) (f28 : Nat → Int32) (x1 : Int32) (x2 : Int32) (x3 : Int32) (hv0 : zR rg_Page v0) (hv17 : zR rg_Query v17) : Met l yX3_standsFrom (zw yX3_standsFrom cX3_standsFrom 6 (some .boolean)) { frames := 1, cells := 0, slots := 0, locals := 21 } (zPc dC dI adK adV [.ref h0, .int x1, .int x2, .int x3] sz [(h0, .inr (3, mX3 h1 h8 h17 h25 h26 h27 h28 h29 v0)), (h17, .inr (7, mX7 h18 h19 h20 h21 h22 h23 h24 v17)), (h23, zi k23 160 f23), (h28, zi k28 832 f28)] [(k23, .int), (k28, .int)]) (va_Qi (fun (r : Int32) (u : Nat → Int32) => (0 ≤ r.toInt ∧ r.toInt ≤ 1) ∧ (zSFr f28 f23 (v17 8).toInt x1.toInt x2.toInt x3.toInt r.toInt)) (fun (u : Nat → Int32) (t : State) => ∃ (ww : Nat → Int64) (aa : Nat → Nat → Int32) (bb : Nat → Nat → Int64), va_P (dC, dI) vwCl [(h0, .inr (3, mX3 h1 h8 h17 h25 h26 h27 h28 h29 v0)), (h17, .inr (7, mX7 h18 h19 h20 h21 h22 h23 h24 v17)), (h23, zi k23 160 f23), (h28, zi k28 832 f28)] t.heap ∧ va_K (dC, dI) vwCl [(k23, .int), (k28, .int)] t ∧ va_D (va_A [(h0, .inr (3, mX3 h1 h8 h17 h25 h26 h27 h28 h29 v0)), (h17, .inr (7, mX7 h18 h19 h20 h21 h22 h23 h24 v17)), (h23, zi k23 160 f23), (h28, zi k28 832 f28)] sz) [(h0, .inr (3, mX3 h1 h8 h17 h25 h26 h27 h28 h29 v0)), (h17, .inr (7, mX7 h18 h19 h20 h21 h22 h23 h24 v17)), (h23, zi k23 160 f23), (h28, zi k28 832 f28)]) (va_A [(h0, .inr (3, mX3 h1 h8 h17 h25 h26 h27 h28 h29 v0)), (h17, .inr (7, mX7 h18 h19 h20 h21 h22 h23 h24 v17)), (h23, zi k23 160 f23), (h28, zi k28 832 f28)] sz)) 0 0 (va_A [(h0, .inr (3, mX3 h1 h8 h17 h25 h26 h27 h28 h29 v0)), (h17, .inr (7, mX7 h18 h19 h20 h21 h22 h23 h24 v17)), (h23, zi k23 160 f23), (h28, zi k28 832 f28)] sz) := by
  refine Met.ofW (cc := cX3_standsFrom) (maxL := 6) (ret := (some .boolean)) (by decide) rfl ?_
  intro p e s m args below meth c s₁ B hml hv
  obtain ⟨rfl, hsz, hP, hK, hD0, hE, hZ⟩ := hv
  have hx := B.exec
  have hb := B.bytes
  have hr := B.returns
  have hG : ∀ w ∈ zG, w.before _ s = true := fun w h => atoms_spec (ws := (zw yX3_standsFrom cX3_standsFrom 6 (some .boolean))) B.pre w (List.mem_cons_of_mem _ h)
  have hown : s.vm.findClass RX3 = some m.cls := findClass_of_methodNamed B.named
  have hlocks := B.notSynchronized

  subst hsz
  have hD := hD0.self (sz := s.heap.size)
  generalize hAe : va_A [(h0, .inr (3, mX3 h1 h8 h17 h25 h26 h27 h28 h29 v0)), (h17, .inr (7, mX7 h18 h19 h20 h21 h22 h23 h24 v17)), (h23, zi k23 160 f23), (h28, zi k28 832 f28)] s.heap.size = A at hD hZ ⊢
  have hA : ∀ q : Nat, s.heap.size ≤ q → A q := fun q h => by rw [← hAe]; exact Or.inr h
  have hS : va_S A s.heap s.heap [] := va_S.rf
  have hl := lv_entry ([.ref h0, .int x1, .int x2, .int x3]) (n := 6) (Nat.le_of_ble_eq_true rfl)
  rw [lg_entry_eq]
  generalize (lg_sl ([.ref h0, .int x1, .int x2, .int x3]) ++ List.replicate (6 - (lg_sl ([.ref h0, .int x1, .int x2, .int x3])).length) Slot.unset).toArray = ls at hl ⊢
  have hl : lv_has ls 6 [(0, .ref h0), (1, .int x1), (2, .int x2), (3, .int x3)] := hl
  have b_ := zk_0
  have b_ := zk_1
  have b_ : 0 ≤ (v17 8).toInt ∧ (v17 8).toInt ≤ 160 := hv17 8
  refine lv_iload_n hx hb dX3_standsFrom_0 rfl (lv_at hl 2 rfl) ?_
  refine lv_istore (lv' := [(4, .int x2), (0, .ref h0), (1, .int x1), (2, .int x2), (3, .int x3)]) hx hb dX3_standsFrom_1 hl (by decide) rfl (fun ls hl => ?_)
  refine zcutL (fun u3_ => (2147483647 - (u3_ 0).toInt).toNat) (fun H locs ls u3_ w3_ a3_ b3_ => va_P (dC, dI) vwCl [(h0, .inr (3, mX3 h1 h8 h17 h25 h26 h27 h28 h29 v0)), (h17, .inr (7, mX7 h18 h19 h20 h21 h22 h23 h24 v17)), (h23, zi k23 160 f23), (h28, zi k28 832 f28)] H ∧ va_D A [(h0, .inr (3, mX3 h1 h8 h17 h25 h26 h27 h28 h29 v0)), (h17, .inr (7, mX7 h18 h19 h20 h21 h22 h23 h24 v17)), (h23, zi k23 160 f23), (h28, zi k28 832 f28)] ∧ va_S A s.heap H locs ∧ lv_has ls 6 [(0, .ref h0), (1, .int x1), (2, .int x2), (3, .int x3), (4, .int (u3_ 0))] ∧ (zSfI f28 f23 (v17 8).toInt x1.toInt x2.toInt x3.toInt (u3_ 0).toInt)) (fun ls u3_ w3_ => F0 m 3 ls []) 0 0 ?_ (fun hJ3 => ?_)
  · skip
    intro H locs ls u3_ w3_ a3_ b3_ hc hJ3
    obtain ⟨hP, hD, hS, hl, hI3_0⟩ := hc
    refine lv_iload hx hb dX3_standsFrom_3 (lv_at hl 4 rfl) ?_
    refine lv_iload_n hx hb dX3_standsFrom_5 rfl (lv_at hl 3 rfl) ?_
    have b_ : -2147483648 ≤ (u3_ 0).toInt ∧ (u3_ 0).toInt ≤ 2147483647 := ⟨zlo _, zhi _⟩
    have b_ : -2147483648 ≤ x3.toInt ∧ x3.toInt ≤ 2147483647 := ⟨zlo _, zhi _⟩
    refine lv_icmp_ge (tgt := 50) hx hb dX3_standsFrom_6 (by decide) (fun c_ => ?_) (fun c_ => ?_)
    · skip
      have b_ := zT_ge rfl rfl c_
      refine lv_iconst (v := 1) hx hb dX3_standsFrom_50 (by decide) ?_
      refine W.widen (k := 0) (n := 0) (by decide) (by decide) ?_
      have hpost : (0 ≤ (1 : Int32).toInt ∧ (1 : Int32).toInt ≤ 1) ∧ (zSFr f28 f23 (v17 8).toInt x1.toInt x2.toInt x3.toInt (1 : Int32).toInt) := ⟨(by first | with_reducible assumption | exact ⟨by omega, by omega⟩), by first | exact zSFr_y hI3_0 (by omega) (by decide) | exact zSFr_n hI3_0 (by omega) e_z31 e_z33 hX15_0 (by omega) hX34_0 (by omega) (by decide)⟩
      have hP9 : va_P (dC, dI) vwCl [(h0, .inr (3, mX3 h1 h8 h17 h25 h26 h27 h28 h29 v0)), (h17, .inr (7, mX7 h18 h19 h20 h21 h22 h23 h24 v17)), (h23, zi k23 160 f23), (h28, zi k28 832 f28)] H := hP
      have hD9 : va_D A [(h0, .inr (3, mX3 h1 h8 h17 h25 h26 h27 h28 h29 v0)), (h17, .inr (7, mX7 h18 h19 h20 h21 h22 h23 h24 v17)), (h23, zi k23 160 f23), (h28, zi k28 832 f28)] := hD
      exact W.zret (v := 1) hx hb hr rfl (fun t ht hW => ⟨⟨1, (fun _ => 0), rfl, hpost, (fun _ => 0), (fun _ => (fun _ => 0)), (fun _ => (fun _ => 0)), by rw [ht]; exact hP9, va_K.moved hW.alike hK, hD9⟩, hS.F ht⟩) hS.2.2 dX3_standsFrom_51
    · skip
      have b_ := zF_ge rfl rfl c_
      refine lv_aload_n hx hb dX3_standsFrom_9 rfl (lv_at hl 0 rfl) ?_
      refine va_get (D := (dC, dI)) (ci := 3) (v := .ref h17) (C := RX3) (T := TX3) (N := 10) hx hb hG zuX3 hown hK hP 0 rfl rfl 2 (by decide) (hG _ zv475) (fun _ h9 => h9) rfl dX3_standsFrom_10 ?_
      refine lv_iload hx hb dX3_standsFrom_13 (lv_at hl 4 rfl) ?_
      have hPc := hP.sub (ws' := [(h17, .inr (7, mX7 h18 h19 h20 h21 h22 h23 h24 v17)), (h23, zi k23 160 f23)]) [1, 2] rfl
      have hDc := hD.sub (ws' := [(h17, .inr (7, mX7 h18 h19 h20 h21 h22 h23 h24 v17)), (h23, zi k23 160 f23)]) [1, 2] (by decide) rfl
      have hKc := hK.sub (tys' := [(k23, .int)]) [0] rfl
      have hFc := va_free (wc := [(h17, .inr (7, mX7 h18 h19 h20 h21 h22 h23 h24 v17)), (h23, zi k23 160 f23)]) hD hS hA [1, 2] rfl
      refine va_calli (va_runV (As := [.int (u3_ 0)]) (rest := []) ⟨hx, hb, hml, hown, hG⟩ (sX7_phraseWord_0 l dC dI adK adV h17 h23 h18 h19 h20 h21 h22 h24 k23 H.size v17 f23 (u3_ 0) hv17) (cwV 1 hG (zgV zv1199 zv1200 zv1201 zv136 zv1202) rfl rfl rfl (by decide +kernel) ⟨Nat.le_of_ble_eq_true rfl, Nat.le_of_ble_eq_true rfl⟩) ⟨zPc_blind, va_recv hKc hPc (ci := 7) (q0 := 0) rfl rfl, zPc_pre hPc hKc hDc hE hS hFc hZ⟩ rfl rfl hl.1 rfl (lv_room (Nat.le_of_ble_eq_true rfl)) dX3_standsFrom_15 ⟨Nat.le_of_ble_eq_true rfl, Nat.le_of_ble_eq_true rfl⟩) hS (fun q _ h => hFc q h) hFc (fun r15_ u15_ t H1 locs ht hvm hw hB hz1 hk1 hS => ?_)
      replace hw : (r15_.toInt = zPw f23 (v17 8).toInt (u3_ 0).toInt) := hw
      have hX15_0 := hw
      obtain ⟨w15_, a15_, b15_, hP1, hK1, hD1⟩ := hB
      rw [ht] at hP1
      obtain ⟨hP, hD⟩ := va_join (wr := [(h0, .inr (3, mX3 h1 h8 h17 h25 h26 h27 h28 h29 v0)), (h28, zi k28 832 f28)]) (w1 := [(h17, .inr (7, mX7 h18 h19 h20 h21 h22 h23 h24 v17)), (h23, zi k23 160 f23)]) hP hD [1, 2] [0, 3] rfl rfl (by decide) (by decide) hk1 hFc hP1 hD1
      have hP : va_P (dC, dI) vwCl [(h0, .inr (3, mX3 h1 h8 h17 h25 h26 h27 h28 h29 v0)), (h17, .inr (7, mX7 h18 h19 h20 h21 h22 h23 h24 v17)), (h23, zi k23 160 f23), (h28, zi k28 832 f28)] H1 := hP.sub [0, 2, 3, 1] rfl
      have hD : va_D A [(h0, .inr (3, mX3 h1 h8 h17 h25 h26 h27 h28 h29 v0)), (h17, .inr (7, mX7 h18 h19 h20 h21 h22 h23 h24 v17)), (h23, zi k23 160 f23), (h28, zi k28 832 f28)] := hD.sub [0, 2, 3, 1] (by decide) rfl
      generalize H1 = H at hP hS ⊢
      clear hz1
      refine lv_istore (lv' := [(5, .int r15_), (0, .ref h0), (1, .int x1), (2, .int x2), (3, .int x3), (4, .int (u3_ 0))]) hx hb dX3_standsFrom_18 hl (by decide) rfl (fun ls hl => ?_)
      refine lv_iload hx hb dX3_standsFrom_20 (lv_at hl 0 rfl) ?_
      refine lv_bipush (v := (-2)) hx hb dX3_standsFrom_22 (by decide) ?_
      have b_ : -2147483648 ≤ r15_.toInt ∧ r15_.toInt ≤ 2147483647 := ⟨zlo _, zhi _⟩
      refine lv_icmp_eq (tgt := 44) hx hb dX3_standsFrom_24 (by decide) (fun c_ => ?_) (fun c_ => ?_)
      · skip
        have b_ := zT_eq rfl zk_m2 c_
        obtain ⟨z44, e_z44⟩ : ∃ z : Int32, z = (u3_ 0) + Int32.ofInt 1 := ⟨_, rfl⟩
        have b_ := zadd (x := (u3_ 0)) (y := Int32.ofInt 1) rfl (show (Int32.ofInt 1).toInt = 1 from by decide) e_z44 (by omega) (by omega)
        refine lv_iinc (v := z44) (lv' := [(4, .int z44), (5, .int r15_), (0, .ref h0), (1, .int x1), (2, .int x2), (3, .int x3)]) hx hb dX3_standsFrom_44 hl (k := 5) rfl e_z44.symm (by decide) rfl (fun ls hl => ?_)
        refine lv_goto (tgt := 3) hx hb dX3_standsFrom_47 (by decide) ?_
        have b_ : -2147483648 ≤ x1.toInt ∧ x1.toInt ≤ 2147483647 := ⟨zlo _, zhi _⟩
        have b_ : -2147483648 ≤ x2.toInt ∧ x2.toInt ≤ 2147483647 := ⟨zlo _, zhi _⟩
        have hc : va_P (dC, dI) vwCl [(h0, .inr (3, mX3 h1 h8 h17 h25 h26 h27 h28 h29 v0)), (h17, .inr (7, mX7 h18 h19 h20 h21 h22 h23 h24 v17)), (h23, zi k23 160 f23), (h28, zi k28 832 f28)] H ∧ va_D A [(h0, .inr (3, mX3 h1 h8 h17 h25 h26 h27 h28 h29 v0)), (h17, .inr (7, mX7 h18 h19 h20 h21 h22 h23 h24 v17)), (h23, zi k23 160 f23), (h28, zi k28 832 f28)] ∧ va_S A s.heap H locs ∧ lv_has ls 6 [(0, .ref h0), (1, .int x1), (2, .int x2), (3, .int x3), (4, .int z44)] ∧ (zSfI f28 f23 (v17 8).toInt x1.toInt x2.toInt x3.toInt z44.toInt) := ⟨hP, hD, hS, lv_sub hl [2, 3, 4, 5, 0] rfl, by first | exact zSfI_k hI3_0 hX15_0 (by omega) (by omega) | exact zSfI_s hI3_0 (by omega) e_z31 e_z33 hX15_0 hX34_0 (by omega) (by omega) | exact zSfI_0 rfl⟩
        exact hJ3 H locs ls (fun i => ([z44] : List (Int32)).getD i 0) (fun _ => 0) (fun _ => (fun _ => 0)) (fun _ => (fun _ => 0)) hc (show (2147483647 - z44.toInt).toNat < (2147483647 - (u3_ 0).toInt).toNat from by omega)
      · skip
        have b_ := zF_eq rfl zk_m2 c_
        refine lv_aload_n hx hb dX3_standsFrom_27 rfl (lv_at hl 1 rfl) ?_
        refine lv_iload_n hx hb dX3_standsFrom_28 rfl (lv_at hl 2 rfl) ?_
        refine lv_iload hx hb dX3_standsFrom_29 (lv_at hl 5 rfl) ?_
        have b_ : -2147483648 ≤ x1.toInt ∧ x1.toInt ≤ 2147483647 := ⟨zlo _, zhi _⟩
        refine lv_iadd hx hb dX3_standsFrom_31 ?_
        refine lv_topi (fun z31 e_z31 => ?_)
        refine lv_iload_n hx hb dX3_standsFrom_32 rfl (lv_at hl 3 rfl) ?_
        have b_ : -2147483648 ≤ z31.toInt ∧ z31.toInt ≤ 2147483647 := ⟨zlo _, zhi _⟩
        have b_ : -2147483648 ≤ x2.toInt ∧ x2.toInt ≤ 2147483647 := ⟨zlo _, zhi _⟩
        refine lv_isub hx hb dX3_standsFrom_33 ?_
        refine lv_topi (fun z33 e_z33 => ?_)
        have hPc := hP.sub (ws' := [(h0, .inr (3, mX3 h1 h8 h17 h25 h26 h27 h28 h29 v0)), (h28, zi k28 832 f28)]) [0, 3] rfl
        have hDc := hD.sub (ws' := [(h0, .inr (3, mX3 h1 h8 h17 h25 h26 h27 h28 h29 v0)), (h28, zi k28 832 f28)]) [0, 3] (by decide) rfl
        have hKc := hK.sub (tys' := [(k28, .int)]) [1] rfl
        have hFc := va_free (wc := [(h0, .inr (3, mX3 h1 h8 h17 h25 h26 h27 h28 h29 v0)), (h28, zi k28 832 f28)]) hD hS hA [0, 3] rfl
        refine va_calli (va_runV (As := [.int z33]) (rest := []) ⟨hx, hb, hml, hown, hG⟩ (sX3_wordAt_0 l dC dI adK adV h0 h28 h1 h8 h17 h25 h26 h27 h29 k28 H.size v0 f28 z33 hv0) (cwV 1 hG (zgV zv1268 zv1270 zv39 zv140 zv1271) rfl rfl rfl (by decide +kernel) ⟨Nat.le_of_ble_eq_true rfl, Nat.le_of_ble_eq_true rfl⟩) ⟨zPc_blind, va_recv hKc hPc (ci := 3) (q0 := 0) rfl rfl, zPc_pre hPc hKc hDc hE hS hFc hZ⟩ rfl rfl hl.1 rfl (lv_room (Nat.le_of_ble_eq_true rfl)) dX3_standsFrom_34 ⟨Nat.le_of_ble_eq_true rfl, Nat.le_of_ble_eq_true rfl⟩) hS (fun q _ h => hFc q h) hFc (fun r34_ u34_ t H1 locs ht hvm hw hB hz1 hk1 hS => ?_)
        replace hw : (r34_.toInt = zWa f28 z33.toInt) := hw
        have hX34_0 := hw
        obtain ⟨w34_, a34_, b34_, hP1, hK1, hD1⟩ := hB
        rw [ht] at hP1
        obtain ⟨hP, hD⟩ := va_join (wr := [(h17, .inr (7, mX7 h18 h19 h20 h21 h22 h23 h24 v17)), (h23, zi k23 160 f23)]) (w1 := [(h0, .inr (3, mX3 h1 h8 h17 h25 h26 h27 h28 h29 v0)), (h28, zi k28 832 f28)]) hP hD [0, 3] [1, 2] rfl rfl (by decide) (by decide) hk1 hFc hP1 hD1
        have hP : va_P (dC, dI) vwCl [(h0, .inr (3, mX3 h1 h8 h17 h25 h26 h27 h28 h29 v0)), (h17, .inr (7, mX7 h18 h19 h20 h21 h22 h23 h24 v17)), (h23, zi k23 160 f23), (h28, zi k28 832 f28)] H1 := hP.sub [2, 0, 1, 3] rfl
        have hD : va_D A [(h0, .inr (3, mX3 h1 h8 h17 h25 h26 h27 h28 h29 v0)), (h17, .inr (7, mX7 h18 h19 h20 h21 h22 h23 h24 v17)), (h23, zi k23 160 f23), (h28, zi k28 832 f28)] := hD.sub [2, 0, 1, 3] (by decide) rfl
        generalize H1 = H at hP hS ⊢
        clear hz1
        refine lv_iload hx hb dX3_standsFrom_37 (lv_at hl 0 rfl) ?_
        have b_ : -2147483648 ≤ r34_.toInt ∧ r34_.toInt ≤ 2147483647 := ⟨zlo _, zhi _⟩
        refine lv_icmp_eq (tgt := 44) hx hb dX3_standsFrom_39 (by decide) (fun c_ => ?_) (fun c_ => ?_)
        · skip
          have b_ := zT_eq rfl rfl c_
          obtain ⟨z44, e_z44⟩ : ∃ z : Int32, z = (u3_ 0) + Int32.ofInt 1 := ⟨_, rfl⟩
          have b_ := zadd (x := (u3_ 0)) (y := Int32.ofInt 1) rfl (show (Int32.ofInt 1).toInt = 1 from by decide) e_z44 (by omega) (by omega)
          refine lv_iinc (v := z44) (lv' := [(4, .int z44), (5, .int r15_), (0, .ref h0), (1, .int x1), (2, .int x2), (3, .int x3)]) hx hb dX3_standsFrom_44 hl (k := 5) rfl e_z44.symm (by decide) rfl (fun ls hl => ?_)
          refine lv_goto (tgt := 3) hx hb dX3_standsFrom_47 (by decide) ?_
          have hc : va_P (dC, dI) vwCl [(h0, .inr (3, mX3 h1 h8 h17 h25 h26 h27 h28 h29 v0)), (h17, .inr (7, mX7 h18 h19 h20 h21 h22 h23 h24 v17)), (h23, zi k23 160 f23), (h28, zi k28 832 f28)] H ∧ va_D A [(h0, .inr (3, mX3 h1 h8 h17 h25 h26 h27 h28 h29 v0)), (h17, .inr (7, mX7 h18 h19 h20 h21 h22 h23 h24 v17)), (h23, zi k23 160 f23), (h28, zi k28 832 f28)] ∧ va_S A s.heap H locs ∧ lv_has ls 6 [(0, .ref h0), (1, .int x1), (2, .int x2), (3, .int x3), (4, .int z44)] ∧ (zSfI f28 f23 (v17 8).toInt x1.toInt x2.toInt x3.toInt z44.toInt) := ⟨hP, hD, hS, lv_sub hl [2, 3, 4, 5, 0] rfl, by first | exact zSfI_k hI3_0 hX15_0 (by omega) (by omega) | exact zSfI_s hI3_0 (by omega) e_z31 e_z33 hX15_0 hX34_0 (by omega) (by omega) | exact zSfI_0 rfl⟩
          exact hJ3 H locs ls (fun i => ([z44] : List (Int32)).getD i 0) (fun _ => 0) (fun _ => (fun _ => 0)) (fun _ => (fun _ => 0)) hc (show (2147483647 - z44.toInt).toNat < (2147483647 - (u3_ 0).toInt).toNat from by omega)
        · skip
          have b_ := zF_eq rfl rfl c_
          refine lv_iconst (v := 0) hx hb dX3_standsFrom_42 (by decide) ?_
          refine W.widen (k := 0) (n := 0) (by decide) (by decide) ?_
          have hpost : (0 ≤ (0 : Int32).toInt ∧ (0 : Int32).toInt ≤ 1) ∧ (zSFr f28 f23 (v17 8).toInt x1.toInt x2.toInt x3.toInt (0 : Int32).toInt) := ⟨(by first | with_reducible assumption | exact ⟨by omega, by omega⟩), by first | exact zSFr_y hI3_0 (by omega) (by decide) | exact zSFr_n hI3_0 (by omega) e_z31 e_z33 hX15_0 (by omega) hX34_0 (by omega) (by decide)⟩
          have hP9 : va_P (dC, dI) vwCl [(h0, .inr (3, mX3 h1 h8 h17 h25 h26 h27 h28 h29 v0)), (h17, .inr (7, mX7 h18 h19 h20 h21 h22 h23 h24 v17)), (h23, zi k23 160 f23), (h28, zi k28 832 f28)] H := hP
          have hD9 : va_D A [(h0, .inr (3, mX3 h1 h8 h17 h25 h26 h27 h28 h29 v0)), (h17, .inr (7, mX7 h18 h19 h20 h21 h22 h23 h24 v17)), (h23, zi k23 160 f23), (h28, zi k28 832 f28)] := hD
          exact W.zret (v := 0) hx hb hr rfl (fun t ht hW => ⟨⟨0, (fun _ => 0), rfl, hpost, (fun _ => 0), (fun _ => (fun _ => 0)), (fun _ => (fun _ => 0)), by rw [ht]; exact hP9, va_K.moved hW.alike hK, hD9⟩, hS.F ht⟩) hS.2.2 dX3_standsFrom_43
  · skip
    have b_ : -2147483648 ≤ x1.toInt ∧ x1.toInt ≤ 2147483647 := ⟨zlo _, zhi _⟩
    have b_ : -2147483648 ≤ x2.toInt ∧ x2.toInt ≤ 2147483647 := ⟨zlo _, zhi _⟩
    have b_ : -2147483648 ≤ x3.toInt ∧ x3.toInt ≤ 2147483647 := ⟨zlo _, zhi _⟩
    have hc : va_P (dC, dI) vwCl [(h0, .inr (3, mX3 h1 h8 h17 h25 h26 h27 h28 h29 v0)), (h17, .inr (7, mX7 h18 h19 h20 h21 h22 h23 h24 v17)), (h23, zi k23 160 f23), (h28, zi k28 832 f28)] s.heap ∧ va_D A [(h0, .inr (3, mX3 h1 h8 h17 h25 h26 h27 h28 h29 v0)), (h17, .inr (7, mX7 h18 h19 h20 h21 h22 h23 h24 v17)), (h23, zi k23 160 f23), (h28, zi k28 832 f28)] ∧ va_S A s.heap s.heap [] ∧ lv_has ls 6 [(0, .ref h0), (1, .int x1), (2, .int x2), (3, .int x3), (4, .int x2)] ∧ (zSfI f28 f23 (v17 8).toInt x1.toInt x2.toInt x3.toInt x2.toInt) := ⟨hP, hD, hS, lv_sub hl [1, 2, 3, 4, 0] rfl, by first | exact zSfI_k hI3_0 hX15_0 (by omega) (by omega) | exact zSfI_s hI3_0 (by omega) e_z31 e_z33 hX15_0 hX34_0 (by omega) (by omega) | exact zSfI_0 rfl⟩
    exact hJ3 s.heap [] ls (fun i => ([x2] : List (Int32)).getD i 0) (fun _ => 0) (fun _ => (fun _ => 0)) (fun _ => (fun _ => 0)) hc
set_option maxHeartbeats 8000000 in
set_option maxRecDepth 100000 in
theorem sX3_gatherPhrase_0 (l : Launch) (dC : Nat → ClassId) (dI : Nat → Nat → Nat) (adK adV : Nat → Nat) (h0 : Nat) (h17 : Nat) (h23 : Nat) (h29 : Nat) (h28 : Nat) (h30 : Nat) (h31 : Nat) (h1 : Nat) (h8 : Nat) (h25 : Nat) (h26 : Nat) (h27 : Nat) (h18 : Nat) (h19 : Nat) (h20 : Nat) (h21 : Nat) (h22 : Nat) (h24 : Nat) (k23 : ClassId) (k29 : ClassId) (k28 : ClassId) (k31 : ClassId) (sz : Nat) (v0 : Nat → Int32) (v17 : Nat → Int32) (f23 : Nat → Int32) (f29 : Nat → Int32) (f28 : Nat → Int32) (f31 : Nat → Int32) (x1 : Int32) (x2 : Int32) (hv0 : zR rg_Page v0) (hv17 : zR rg_Query v17) (hf29 : zA 0 831 f29) : Met l yX3_gatherPhrase (zw yX3_gatherPhrase cX3_gatherPhrase 8 none) { frames := 2, cells := 0, slots := 0, locals := 46 } (zPc dC dI adK adV [.ref h0, .int x1, .int x2, .ref h30] sz [(h0, .inr (3, mX3 h1 h8 h17 h25 h26 h27 h28 h29 v0)), (h17, .inr (7, mX7 h18 h19 h20 h21 h22 h23 h24 v17)), (h23, zi k23 160 f23), (h29, zi k29 300 f29), (h28, zi k28 832 f28), (h30, .inr (5, mX5 h31)), (h31, zi k31 26 f31)] [(k23, .int), (k29, .int), (k28, .int), (k31, .int)]) (va_Qv (fun (u : Nat → Int32) => True) (fun (u : Nat → Int32) (t : State) => ∃ (ww : Nat → Int64) (aa : Nat → Nat → Int32) (bb : Nat → Nat → Int64), (zGPe f28 f29 f23 f31 (aa 0) (v17 8).toInt x1.toInt x2.toInt (v0 9).toInt) ∧ va_P (dC, dI) vwCl [(h0, .inr (3, mX3 h1 h8 h17 h25 h26 h27 h28 h29 v0)), (h17, .inr (7, mX7 h18 h19 h20 h21 h22 h23 h24 v17)), (h23, zi k23 160 f23), (h29, zi k29 300 f29), (h28, zi k28 832 f28), (h30, .inr (5, mX5 h31)), (h31, zi k31 26 (aa 0))] t.heap ∧ va_K (dC, dI) vwCl [(k23, .int), (k29, .int), (k28, .int), (k31, .int)] t ∧ va_D (va_A [(h0, .inr (3, mX3 h1 h8 h17 h25 h26 h27 h28 h29 v0)), (h17, .inr (7, mX7 h18 h19 h20 h21 h22 h23 h24 v17)), (h23, zi k23 160 f23), (h29, zi k29 300 f29), (h28, zi k28 832 f28), (h30, .inr (5, mX5 h31)), (h31, zi k31 26 f31)] sz) [(h0, .inr (3, mX3 h1 h8 h17 h25 h26 h27 h28 h29 v0)), (h17, .inr (7, mX7 h18 h19 h20 h21 h22 h23 h24 v17)), (h23, zi k23 160 f23), (h29, zi k29 300 f29), (h28, zi k28 832 f28), (h30, .inr (5, mX5 h31)), (h31, zi k31 26 (aa 0))]) (va_A [(h0, .inr (3, mX3 h1 h8 h17 h25 h26 h27 h28 h29 v0)), (h17, .inr (7, mX7 h18 h19 h20 h21 h22 h23 h24 v17)), (h23, zi k23 160 f23), (h29, zi k29 300 f29), (h28, zi k28 832 f28), (h30, .inr (5, mX5 h31)), (h31, zi k31 26 f31)] sz)) 0 0 (va_A [(h0, .inr (3, mX3 h1 h8 h17 h25 h26 h27 h28 h29 v0)), (h17, .inr (7, mX7 h18 h19 h20 h21 h22 h23 h24 v17)), (h23, zi k23 160 f23), (h29, zi k29 300 f29), (h28, zi k28 832 f28), (h30, .inr (5, mX5 h31)), (h31, zi k31 26 f31)] sz) := by
  refine Met.ofW (cc := cX3_gatherPhrase) (maxL := 8) (ret := none) (by decide) rfl ?_
  intro p e s m args below meth c s₁ B hml hv
  obtain ⟨rfl, hsz, hP, hK, hD0, hE, hZ⟩ := hv
  have hx := B.exec
  have hb := B.bytes
  have hr := B.returns
  have hG : ∀ w ∈ zG, w.before _ s = true := fun w h => atoms_spec (ws := (zw yX3_gatherPhrase cX3_gatherPhrase 8 none)) B.pre w (List.mem_cons_of_mem _ h)
  have hown : s.vm.findClass RX3 = some m.cls := findClass_of_methodNamed B.named
  have hlocks := B.notSynchronized

  subst hsz
  have hD := hD0.self (sz := s.heap.size)
  generalize hAe : va_A [(h0, .inr (3, mX3 h1 h8 h17 h25 h26 h27 h28 h29 v0)), (h17, .inr (7, mX7 h18 h19 h20 h21 h22 h23 h24 v17)), (h23, zi k23 160 f23), (h29, zi k29 300 f29), (h28, zi k28 832 f28), (h30, .inr (5, mX5 h31)), (h31, zi k31 26 f31)] s.heap.size = A at hD hZ ⊢
  have hA : ∀ q : Nat, s.heap.size ≤ q → A q := fun q h => by rw [← hAe]; exact Or.inr h
  have hS : va_S A s.heap s.heap [] := va_S.rf
  have hl := lv_entry ([.ref h0, .int x1, .int x2, .ref h30]) (n := 8) (Nat.le_of_ble_eq_true rfl)
  rw [lg_entry_eq]
  generalize (lg_sl ([.ref h0, .int x1, .int x2, .ref h30]) ++ List.replicate (8 - (lg_sl ([.ref h0, .int x1, .int x2, .ref h30])).length) Slot.unset).toArray = ls at hl ⊢
  have hl : lv_has ls 8 [(0, .ref h0), (1, .int x1), (2, .int x2), (3, .ref h30)] := hl
  have b_ := zk_0
  have b_ : 0 ≤ (v0 9).toInt ∧ (v0 9).toInt ≤ 300 := hv0 9
  refine lv_iload_n hx hb dX3_gatherPhrase_0 rfl (lv_at hl 1 rfl) ?_
  refine lv_istore (lv' := [(4, .int x1), (0, .ref h0), (1, .int x1), (2, .int x2), (3, .ref h30)]) hx hb dX3_gatherPhrase_1 hl (by decide) rfl (fun ls hl => ?_)
  refine zcutL (fun u3_ => (2147483647 - (u3_ 0).toInt).toNat) (fun H locs ls u3_ w3_ a3_ b3_ => va_P (dC, dI) vwCl [(h0, .inr (3, mX3 h1 h8 h17 h25 h26 h27 h28 h29 v0)), (h17, .inr (7, mX7 h18 h19 h20 h21 h22 h23 h24 v17)), (h23, zi k23 160 f23), (h29, zi k29 300 f29), (h28, zi k28 832 f28), (h30, .inr (5, mX5 h31)), (h31, zi k31 26 f31)] H ∧ va_D A [(h0, .inr (3, mX3 h1 h8 h17 h25 h26 h27 h28 h29 v0)), (h17, .inr (7, mX7 h18 h19 h20 h21 h22 h23 h24 v17)), (h23, zi k23 160 f23), (h29, zi k29 300 f29), (h28, zi k28 832 f28), (h30, .inr (5, mX5 h31)), (h31, zi k31 26 f31)] ∧ va_S A s.heap H locs ∧ lv_has ls 8 [(0, .ref h0), (1, .int x1), (2, .int x2), (3, .ref h30), (4, .int (u3_ 0))] ∧ (zSu f23 (v17 8).toInt x1.toInt (u3_ 0).toInt)) (fun ls u3_ w3_ => F0 m 3 ls []) 0 0 ?_ (fun hJ3 => ?_)
  · skip
    intro H locs ls u3_ w3_ a3_ b3_ hc hJ3
    obtain ⟨hP, hD, hS, hl, hI3_0⟩ := hc
    refine lv_iload hx hb dX3_gatherPhrase_3 (lv_at hl 4 rfl) ?_
    refine lv_iload_n hx hb dX3_gatherPhrase_5 rfl (lv_at hl 2 rfl) ?_
    refine zcutW (fun H locs ls u29_ w29_ a29_ b29_ => va_P (dC, dI) vwCl [(h0, .inr (3, mX3 h1 h8 h17 h25 h26 h27 h28 h29 v0)), (h17, .inr (7, mX7 h18 h19 h20 h21 h22 h23 h24 v17)), (h23, zi k23 160 f23), (h29, zi k29 300 f29), (h28, zi k28 832 f28), (h30, .inr (5, mX5 h31)), (h31, zi k31 26 f31)] H ∧ va_D A [(h0, .inr (3, mX3 h1 h8 h17 h25 h26 h27 h28 h29 v0)), (h17, .inr (7, mX7 h18 h19 h20 h21 h22 h23 h24 v17)), (h23, zi k23 160 f23), (h29, zi k29 300 f29), (h28, zi k28 832 f28), (h30, .inr (5, mX5 h31)), (h31, zi k31 26 f31)] ∧ va_S A s.heap H locs ∧ lv_has ls 8 [(0, .ref h0), (1, .int x1), (2, .int x2), (3, .ref h30), (4, .int (u3_ 0))] ∧ (zSuE f23 (v17 8).toInt x1.toInt x2.toInt (u3_ 0).toInt)) (fun ls u29_ w29_ => F0 m 29 ls []) 0 0 ?_ (fun hJ29 => ?_)
    · skip
      intro H locs ls u29_ w29_ a29_ b29_ hc
      obtain ⟨hP, hD, hS, hl, hI29_0⟩ := hc
      refine lv_iconst (v := 0) hx hb dX3_gatherPhrase_29 (by decide) ?_
      refine lv_istore (lv' := [(5, .int 0), (0, .ref h0), (1, .int x1), (2, .int x2), (3, .ref h30), (4, .int (u3_ 0))]) hx hb dX3_gatherPhrase_30 hl (by decide) rfl (fun ls hl => ?_)
      refine zcutL (fun u32_ => (300 - (u32_ 0).toInt).toNat) (fun H locs ls u32_ w32_ a32_ b32_ => va_P (dC, dI) vwCl [(h0, .inr (3, mX3 h1 h8 h17 h25 h26 h27 h28 h29 v0)), (h17, .inr (7, mX7 h18 h19 h20 h21 h22 h23 h24 v17)), (h23, zi k23 160 f23), (h29, zi k29 300 f29), (h28, zi k28 832 f28), (h30, .inr (5, mX5 h31)), (h31, zi k31 26 (a32_ 0))] H ∧ va_D A [(h0, .inr (3, mX3 h1 h8 h17 h25 h26 h27 h28 h29 v0)), (h17, .inr (7, mX7 h18 h19 h20 h21 h22 h23 h24 v17)), (h23, zi k23 160 f23), (h29, zi k29 300 f29), (h28, zi k28 832 f28), (h30, .inr (5, mX5 h31)), (h31, zi k31 26 (a32_ 0))] ∧ va_S A s.heap H locs ∧ lv_has ls 8 [(0, .ref h0), (1, .int x1), (2, .int x2), (3, .ref h30), (4, .int (u3_ 0)), (5, .int (u32_ 0))] ∧ (0 ≤ (u32_ 0).toInt ∧ (u32_ 0).toInt ≤ 300) ∧ (zGP f28 f29 f23 f31 (a32_ 0) (v17 8).toInt x1.toInt x2.toInt (u3_ 0).toInt (u32_ 0).toInt) ∧ ((u32_ 0).toInt ≤ (v0 9).toInt)) (fun ls u32_ w32_ => F0 m 32 ls []) 0 0 ?_ (fun hJ32 => ?_)
      · skip
        intro H locs ls u32_ w32_ a32_ b32_ hc hJ32
        obtain ⟨hP, hD, hS, hl, b_, hI32_0, b_⟩ := hc
        refine lv_iload hx hb dX3_gatherPhrase_32 (lv_at hl 4 rfl) ?_
        refine lv_iload_n hx hb dX3_gatherPhrase_34 rfl (lv_at hl 2 rfl) ?_
        have b_ : -2147483648 ≤ (u3_ 0).toInt ∧ (u3_ 0).toInt ≤ 2147483647 := ⟨zlo _, zhi _⟩
        have b_ : -2147483648 ≤ x2.toInt ∧ x2.toInt ≤ 2147483647 := ⟨zlo _, zhi _⟩
        refine lv_icmp_ge (tgt := 121) hx hb dX3_gatherPhrase_35 (by decide) (fun c_ => ?_) (fun c_ => ?_)
        · skip
          have b_ := zT_ge rfl rfl c_
          refine W.widen (k := 0) (n := 0) (by decide) (by decide) ?_
          have hpost : True := trivial
          have hP9 : va_P (dC, dI) vwCl [(h0, .inr (3, mX3 h1 h8 h17 h25 h26 h27 h28 h29 v0)), (h17, .inr (7, mX7 h18 h19 h20 h21 h22 h23 h24 v17)), (h23, zi k23 160 f23), (h29, zi k29 300 f29), (h28, zi k28 832 f28), (h30, .inr (5, mX5 h31)), (h31, zi k31 26 (a32_ 0))] H := hP
          have hD9 : va_D A [(h0, .inr (3, mX3 h1 h8 h17 h25 h26 h27 h28 h29 v0)), (h17, .inr (7, mX7 h18 h19 h20 h21 h22 h23 h24 v17)), (h23, zi k23 160 f23), (h29, zi k29 300 f29), (h28, zi k28 832 f28), (h30, .inr (5, mX5 h31)), (h31, zi k31 26 (a32_ 0))] := hD
          have hB0 : zGPe f28 f29 f23 f31 (a32_ 0) (v17 8).toInt x1.toInt x2.toInt (v0 9).toInt := by exact zGPe_i hI29_0 hI32_0 (fun _ => by omega)
          exact W.vret hx hb hr (fun t ht hW => ⟨⟨(fun _ => 0), rfl, hpost, (fun _ => 0), (fun i => ([(a32_ 0)] : List (Nat → Int32)).getD i (fun _ => 0)), (fun _ => (fun _ => 0)), hB0, by rw [ht]; exact hP9, va_K.moved hW.alike hK, hD9⟩, hS.F ht⟩) hS.2.2 dX3_gatherPhrase_121
        · skip
          have b_ := zF_ge rfl rfl c_
          refine lv_iload hx hb dX3_gatherPhrase_38 (lv_at hl 5 rfl) ?_
          refine lv_aload_n hx hb dX3_gatherPhrase_40 rfl (lv_at hl 0 rfl) ?_
          refine va_get (D := (dC, dI)) (ci := 3) (v := .int (v0 9)) (C := RX3) (T := TX3) (N := 10) hx hb hG zuX3 hown hK hP 0 rfl rfl 9 (by decide) (hG _ zv482) (fun _ h9 => h9) rfl dX3_gatherPhrase_41 ?_
          refine lv_icmp_ge (tgt := 121) hx hb dX3_gatherPhrase_44 (by decide) (fun c_ => ?_) (fun c_ => ?_)
          · skip
            have b_ := zT_ge rfl rfl c_
            refine W.widen (k := 0) (n := 0) (by decide) (by decide) ?_
            have hpost : True := trivial
            have hP9 : va_P (dC, dI) vwCl [(h0, .inr (3, mX3 h1 h8 h17 h25 h26 h27 h28 h29 v0)), (h17, .inr (7, mX7 h18 h19 h20 h21 h22 h23 h24 v17)), (h23, zi k23 160 f23), (h29, zi k29 300 f29), (h28, zi k28 832 f28), (h30, .inr (5, mX5 h31)), (h31, zi k31 26 (a32_ 0))] H := hP
            have hD9 : va_D A [(h0, .inr (3, mX3 h1 h8 h17 h25 h26 h27 h28 h29 v0)), (h17, .inr (7, mX7 h18 h19 h20 h21 h22 h23 h24 v17)), (h23, zi k23 160 f23), (h29, zi k29 300 f29), (h28, zi k28 832 f28), (h30, .inr (5, mX5 h31)), (h31, zi k31 26 (a32_ 0))] := hD
            have hB0 : zGPe f28 f29 f23 f31 (a32_ 0) (v17 8).toInt x1.toInt x2.toInt (v0 9).toInt := by exact zGPe_i hI29_0 hI32_0 (fun _ => by omega)
            exact W.vret hx hb hr (fun t ht hW => ⟨⟨(fun _ => 0), rfl, hpost, (fun _ => 0), (fun i => ([(a32_ 0)] : List (Nat → Int32)).getD i (fun _ => 0)), (fun _ => (fun _ => 0)), hB0, by rw [ht]; exact hP9, va_K.moved hW.alike hK, hD9⟩, hS.F ht⟩) hS.2.2 dX3_gatherPhrase_121
          · skip
            have b_ := zF_ge rfl rfl c_
            refine lv_aload_n hx hb dX3_gatherPhrase_47 rfl (lv_at hl 0 rfl) ?_
            refine va_get (D := (dC, dI)) (ci := 3) (v := .ref h29) (C := RX3) (T := TX3) (N := 10) hx hb hG zuX3 hown hK hP 0 rfl rfl 7 (by decide) (hG _ zv480) (fun _ h9 => h9) rfl dX3_gatherPhrase_48 ?_
            refine lv_iload hx hb dX3_gatherPhrase_51 (lv_at hl 5 rfl) ?_
            refine va_iald hx hb hK hP 3 1 rfl rfl (zin_lit ⟨by omega, by omega⟩) dX3_gatherPhrase_53 ?_
            refine lv_topi (fun z53 e_z53 => ?_)
            have b_ : 0 ≤ z53.toInt ∧ z53.toInt ≤ 831 := by rw [e_z53]; exact hf29 _
            refine lv_iload hx hb dX3_gatherPhrase_54 (lv_at hl 4 rfl) ?_
            refine lv_iload_n hx hb dX3_gatherPhrase_56 rfl (lv_at hl 1 rfl) ?_
            have b_ : -2147483648 ≤ x1.toInt ∧ x1.toInt ≤ 2147483647 := ⟨zlo _, zhi _⟩
            refine lv_isub hx hb dX3_gatherPhrase_57 ?_
            refine lv_topi (fun z57 e_z57 => ?_)
            have b_ : -2147483648 ≤ z57.toInt ∧ z57.toInt ≤ 2147483647 := ⟨zlo _, zhi _⟩
            refine lv_isub hx hb dX3_gatherPhrase_58 ?_
            refine lv_topi (fun z58 e_z58 => ?_)
            refine lv_istore (lv' := [(6, .int z58), (0, .ref h0), (1, .int x1), (2, .int x2), (3, .ref h30), (4, .int (u3_ 0)), (5, .int (u32_ 0))]) hx hb dX3_gatherPhrase_59 hl (by decide) rfl (fun ls hl => ?_)
            refine lv_iload hx hb dX3_gatherPhrase_61 (lv_at hl 0 rfl) ?_
            refine lv_aload_n hx hb dX3_gatherPhrase_63 rfl (lv_at hl 1 rfl) ?_
            refine va_get (D := (dC, dI)) (ci := 3) (v := .ref h29) (C := RX3) (T := TX3) (N := 10) hx hb hG zuX3 hown hK hP 0 rfl rfl 7 (by decide) (hG _ zv480) (fun _ h9 => h9) rfl dX3_gatherPhrase_64 ?_
            refine lv_iload hx hb dX3_gatherPhrase_67 (lv_at hl 6 rfl) ?_
            refine va_iald hx hb hK hP 3 1 rfl rfl (zin_lit ⟨by omega, by omega⟩) dX3_gatherPhrase_69 ?_
            refine lv_topi (fun z69 e_z69 => ?_)
            have b_ : 0 ≤ z69.toInt ∧ z69.toInt ≤ 831 := by rw [e_z69]; exact hf29 _
            have hzz_ : z69.toInt = z53.toInt := congrArg Int32.toInt (e_z69.trans e_z53.symm)
            refine lv_sipush (v := 512) hx hb dX3_gatherPhrase_70 (by decide) ?_
            refine lv_icmp_ge (tgt := 80) hx hb dX3_gatherPhrase_73 (by decide) (fun c_ => ?_) (fun c_ => ?_)
            · skip
              have b_ := zT_ge rfl zk_512 c_
              refine lv_sipush (v := 512) hx hb dX3_gatherPhrase_80 (by decide) ?_
              have b_ : -2147483648 ≤ z58.toInt ∧ z58.toInt ≤ 2147483647 := ⟨zlo _, zhi _⟩
              refine lv_icmp_lt (tgt := 90) hx hb dX3_gatherPhrase_83 (by decide) (fun c_ => ?_) (fun c_ => ?_)
              · skip
                have b_ := zT_lt rfl zk_512 c_
                refine lv_iconst (v := 0) hx hb dX3_gatherPhrase_90 (by decide) ?_
                refine lv_istore (lv' := [(7, .int 0), (6, .int z58), (0, .ref h0), (1, .int x1), (2, .int x2), (3, .ref h30), (4, .int (u3_ 0)), (5, .int (u32_ 0))]) hx hb dX3_gatherPhrase_91 hl (by decide) rfl (fun ls hl => ?_)
                refine lv_iload hx hb dX3_gatherPhrase_93 (lv_at hl 0 rfl) ?_
                refine lv_if_eq (tgt := 115) hx hb dX3_gatherPhrase_95 (by decide) (fun c_ => ?_) (fun c_ => absurd c_ (by decide))
                obtain ⟨z115, e_z115⟩ : ∃ z : Int32, z = (u32_ 0) + Int32.ofInt 1 := ⟨_, rfl⟩
                have b_ := zadd (x := (u32_ 0)) (y := Int32.ofInt 1) rfl (show (Int32.ofInt 1).toInt = 1 from by decide) e_z115 (by omega) (by omega)
                refine lv_iinc (v := z115) (lv' := [(5, .int z115), (7, .int 0), (6, .int z58), (0, .ref h0), (1, .int x1), (2, .int x2), (3, .ref h30), (4, .int (u3_ 0))]) hx hb dX3_gatherPhrase_115 hl (k := 7) rfl e_z115.symm (by decide) rfl (fun ls hl => ?_)
                have hgp9 : zGP f28 f29 f23 f31 (a32_ 0) (v17 8).toInt x1.toInt x2.toInt (u3_ 0).toInt z115.toInt := zGP_k hI32_0 (by omega) e_z53 (by omega) (by omega) e_z57 e_z58 (by omega) (by omega)
                refine lv_goto (tgt := 32) hx hb dX3_gatherPhrase_118 (by decide) ?_
                have hc : va_P (dC, dI) vwCl [(h0, .inr (3, mX3 h1 h8 h17 h25 h26 h27 h28 h29 v0)), (h17, .inr (7, mX7 h18 h19 h20 h21 h22 h23 h24 v17)), (h23, zi k23 160 f23), (h29, zi k29 300 f29), (h28, zi k28 832 f28), (h30, .inr (5, mX5 h31)), (h31, zi k31 26 (a32_ 0))] H ∧ va_D A [(h0, .inr (3, mX3 h1 h8 h17 h25 h26 h27 h28 h29 v0)), (h17, .inr (7, mX7 h18 h19 h20 h21 h22 h23 h24 v17)), (h23, zi k23 160 f23), (h29, zi k29 300 f29), (h28, zi k28 832 f28), (h30, .inr (5, mX5 h31)), (h31, zi k31 26 (a32_ 0))] ∧ va_S A s.heap H locs ∧ lv_has ls 8 [(0, .ref h0), (1, .int x1), (2, .int x2), (3, .ref h30), (4, .int (u3_ 0)), (5, .int z115)] ∧ (0 ≤ z115.toInt ∧ z115.toInt ≤ 300) ∧ (zGP f28 f29 f23 f31 (a32_ 0) (v17 8).toInt x1.toInt x2.toInt (u3_ 0).toInt z115.toInt) ∧ (z115.toInt ≤ (v0 9).toInt) := ⟨hP, hD, hS, lv_sub hl [3, 4, 5, 6, 7, 0] rfl, (by first | with_reducible assumption | exact ⟨by omega, by omega⟩), by first | exact hgp9 | exact zGP_0 (by decide), by omega⟩
                exact hJ32 H locs ls (fun i => ([z115] : List (Int32)).getD i 0) (fun _ => 0) (fun i => ([(a32_ 0)] : List (Nat → Int32)).getD i (fun _ => 0)) (fun _ => (fun _ => 0)) hc (show (300 - z115.toInt).toNat < (300 - (u32_ 0).toInt).toNat from by omega)
              · skip
                have b_ := zF_lt rfl zk_512 c_
                refine lv_iconst (v := 1) hx hb dX3_gatherPhrase_86 (by decide) ?_
                refine lv_goto (tgt := 91) hx hb dX3_gatherPhrase_87 (by decide) ?_
                refine lv_istore (lv' := [(7, .int 1), (6, .int z58), (0, .ref h0), (1, .int x1), (2, .int x2), (3, .ref h30), (4, .int (u3_ 0)), (5, .int (u32_ 0))]) hx hb dX3_gatherPhrase_91 hl (by decide) rfl (fun ls hl => ?_)
                refine lv_iload hx hb dX3_gatherPhrase_93 (lv_at hl 0 rfl) ?_
                refine lv_if_eq (tgt := 115) hx hb dX3_gatherPhrase_95 (by decide) (fun c_ => absurd c_ (by decide)) (fun c_ => ?_)
                refine lv_aload_n hx hb dX3_gatherPhrase_98 rfl (lv_at hl 2 rfl) ?_
                refine lv_iload hx hb dX3_gatherPhrase_99 (lv_at hl 1 rfl) ?_
                refine lv_iload_n hx hb dX3_gatherPhrase_101 rfl (lv_at hl 3 rfl) ?_
                refine lv_iload_n hx hb dX3_gatherPhrase_102 rfl (lv_at hl 4 rfl) ?_
                have hPc := hP.sub (ws' := [(h0, .inr (3, mX3 h1 h8 h17 h25 h26 h27 h28 h29 v0)), (h17, .inr (7, mX7 h18 h19 h20 h21 h22 h23 h24 v17)), (h23, zi k23 160 f23), (h28, zi k28 832 f28)]) [0, 1, 2, 4] rfl
                have hDc := hD.sub (ws' := [(h0, .inr (3, mX3 h1 h8 h17 h25 h26 h27 h28 h29 v0)), (h17, .inr (7, mX7 h18 h19 h20 h21 h22 h23 h24 v17)), (h23, zi k23 160 f23), (h28, zi k28 832 f28)]) [0, 1, 2, 4] (by decide) rfl
                have hKc := hK.sub (tys' := [(k23, .int), (k28, .int)]) [0, 2] rfl
                have hFc := va_free (wc := [(h0, .inr (3, mX3 h1 h8 h17 h25 h26 h27 h28 h29 v0)), (h17, .inr (7, mX7 h18 h19 h20 h21 h22 h23 h24 v17)), (h23, zi k23 160 f23), (h28, zi k28 832 f28)]) hD hS hA [0, 1, 2, 4] rfl
                refine va_calli (va_runV (As := [.int z58, .int x1, .int x2]) (rest := []) ⟨hx, hb, hml, hown, hG⟩ (sX3_standsFrom_0 l dC dI adK adV h0 h17 h23 h28 h1 h8 h25 h26 h27 h29 h18 h19 h20 h21 h22 h24 k23 k28 H.size v0 v17 f23 f28 z58 x1 x2 hv0 hv17) (cwV 3 hG (zgV zv1264 zv1266 zv38 zv140 zv1267) rfl rfl rfl (by decide +kernel) ⟨Nat.le_of_ble_eq_true rfl, Nat.le_of_ble_eq_true rfl⟩) ⟨zPc_blind, va_recv hKc hPc (ci := 3) (q0 := 0) rfl rfl, zPc_pre hPc hKc hDc hE hS hFc hZ⟩ rfl rfl hl.1 rfl (lv_room (Nat.le_of_ble_eq_true rfl)) dX3_gatherPhrase_103 ⟨Nat.le_of_ble_eq_true rfl, Nat.le_of_ble_eq_true rfl⟩) hS (fun q _ h => hFc q h) hFc (fun r103_ u103_ t H1 locs ht hvm hw hB hz1 hk1 hS => ?_)
                replace hw : (0 ≤ r103_.toInt ∧ r103_.toInt ≤ 1) ∧ (zSFr f28 f23 (v17 8).toInt z58.toInt x1.toInt x2.toInt r103_.toInt) := hw
                obtain ⟨b_, hX103_0⟩ := hw
                obtain ⟨w103_, a103_, b103_, hP1, hK1, hD1⟩ := hB
                rw [ht] at hP1
                obtain ⟨hP, hD⟩ := va_join (wr := [(h29, zi k29 300 f29), (h30, .inr (5, mX5 h31)), (h31, zi k31 26 (a32_ 0))]) (w1 := [(h0, .inr (3, mX3 h1 h8 h17 h25 h26 h27 h28 h29 v0)), (h17, .inr (7, mX7 h18 h19 h20 h21 h22 h23 h24 v17)), (h23, zi k23 160 f23), (h28, zi k28 832 f28)]) hP hD [0, 1, 2, 4] [3, 5, 6] rfl rfl (by decide) (by decide) hk1 hFc hP1 hD1
                have hP : va_P (dC, dI) vwCl [(h0, .inr (3, mX3 h1 h8 h17 h25 h26 h27 h28 h29 v0)), (h17, .inr (7, mX7 h18 h19 h20 h21 h22 h23 h24 v17)), (h23, zi k23 160 f23), (h29, zi k29 300 f29), (h28, zi k28 832 f28), (h30, .inr (5, mX5 h31)), (h31, zi k31 26 (a32_ 0))] H1 := hP.sub [3, 4, 5, 0, 6, 1, 2] rfl
                have hD : va_D A [(h0, .inr (3, mX3 h1 h8 h17 h25 h26 h27 h28 h29 v0)), (h17, .inr (7, mX7 h18 h19 h20 h21 h22 h23 h24 v17)), (h23, zi k23 160 f23), (h29, zi k29 300 f29), (h28, zi k28 832 f28), (h30, .inr (5, mX5 h31)), (h31, zi k31 26 (a32_ 0))] := hD.sub [3, 4, 5, 0, 6, 1, 2] (by decide) rfl
                generalize H1 = H at hP hS ⊢
                clear hz1
                refine lv_if_eq (tgt := 115) hx hb dX3_gatherPhrase_106 (by decide) (fun c_ => ?_) (fun c_ => ?_)
                · skip
                  have b_ := zT_eq rfl zk_0 c_
                  obtain ⟨z115, e_z115⟩ : ∃ z : Int32, z = (u32_ 0) + Int32.ofInt 1 := ⟨_, rfl⟩
                  have b_ := zadd (x := (u32_ 0)) (y := Int32.ofInt 1) rfl (show (Int32.ofInt 1).toInt = 1 from by decide) e_z115 (by omega) (by omega)
                  refine lv_iinc (v := z115) (lv' := [(5, .int z115), (7, .int 1), (6, .int z58), (0, .ref h0), (1, .int x1), (2, .int x2), (3, .ref h30), (4, .int (u3_ 0))]) hx hb dX3_gatherPhrase_115 hl (k := 7) rfl e_z115.symm (by decide) rfl (fun ls hl => ?_)
                  have hgp9 : zGP f28 f29 f23 f31 (a32_ 0) (v17 8).toInt x1.toInt x2.toInt (u3_ 0).toInt z115.toInt := zGP_f hI32_0 (by omega) e_z53 (by omega) (by omega) e_z57 e_z58 hX103_0 (by omega) (by omega)
                  refine lv_goto (tgt := 32) hx hb dX3_gatherPhrase_118 (by decide) ?_
                  have hc : va_P (dC, dI) vwCl [(h0, .inr (3, mX3 h1 h8 h17 h25 h26 h27 h28 h29 v0)), (h17, .inr (7, mX7 h18 h19 h20 h21 h22 h23 h24 v17)), (h23, zi k23 160 f23), (h29, zi k29 300 f29), (h28, zi k28 832 f28), (h30, .inr (5, mX5 h31)), (h31, zi k31 26 (a32_ 0))] H ∧ va_D A [(h0, .inr (3, mX3 h1 h8 h17 h25 h26 h27 h28 h29 v0)), (h17, .inr (7, mX7 h18 h19 h20 h21 h22 h23 h24 v17)), (h23, zi k23 160 f23), (h29, zi k29 300 f29), (h28, zi k28 832 f28), (h30, .inr (5, mX5 h31)), (h31, zi k31 26 (a32_ 0))] ∧ va_S A s.heap H locs ∧ lv_has ls 8 [(0, .ref h0), (1, .int x1), (2, .int x2), (3, .ref h30), (4, .int (u3_ 0)), (5, .int z115)] ∧ (0 ≤ z115.toInt ∧ z115.toInt ≤ 300) ∧ (zGP f28 f29 f23 f31 (a32_ 0) (v17 8).toInt x1.toInt x2.toInt (u3_ 0).toInt z115.toInt) ∧ (z115.toInt ≤ (v0 9).toInt) := ⟨hP, hD, hS, lv_sub hl [3, 4, 5, 6, 7, 0] rfl, (by first | with_reducible assumption | exact ⟨by omega, by omega⟩), by first | exact hgp9 | exact zGP_0 (by decide), by omega⟩
                  exact hJ32 H locs ls (fun i => ([z115] : List (Int32)).getD i 0) (fun _ => 0) (fun i => ([(a32_ 0)] : List (Nat → Int32)).getD i (fun _ => 0)) (fun _ => (fun _ => 0)) hc (show (300 - z115.toInt).toNat < (300 - (u32_ 0).toInt).toNat from by omega)
                · skip
                  have b_ := zF_eq rfl zk_0 c_
                  refine lv_aload_n hx hb dX3_gatherPhrase_109 rfl (lv_at hl 5 rfl) ?_
                  refine lv_iload hx hb dX3_gatherPhrase_110 (lv_at hl 1 rfl) ?_
                  have hPc := hP.sub (ws' := [(h30, .inr (5, mX5 h31)), (h31, zi k31 26 (a32_ 0))]) [5, 6] rfl
                  have hDc := hD.sub (ws' := [(h30, .inr (5, mX5 h31)), (h31, zi k31 26 (a32_ 0))]) [5, 6] (by decide) rfl
                  have hKc := hK.sub (tys' := [(k31, .int)]) [3] rfl
                  have hFc := va_free (wc := [(h30, .inr (5, mX5 h31)), (h31, zi k31 26 (a32_ 0))]) hD hS hA [5, 6] rfl
                  refine va_callv (va_runV (As := [.int z58]) (rest := []) ⟨hx, hb, hml, hown, hG⟩ (sX5_put_0 l dC dI adK adV h30 h31 k31 H.size (a32_ 0) z58) (cwV 1 hG (zgV zv1272 zv1273 zv1274 zv139 zv1275) rfl rfl rfl (by decide +kernel) ⟨Nat.le_of_ble_eq_true rfl, Nat.le_of_ble_eq_true rfl⟩) ⟨zPc_blind, va_recv hKc hPc (ci := 5) (q0 := 0) rfl rfl, zPc_pre hPc hKc hDc hE hS hFc hZ⟩ rfl rfl hl.1 rfl (lv_room (Nat.le_of_ble_eq_true rfl)) dX3_gatherPhrase_112 ⟨Nat.le_of_ble_eq_true rfl, Nat.le_of_ble_eq_true rfl⟩) hS (fun q _ h => hFc q h) hFc (fun u112_ t H1 locs ht hvm hw hB hz1 hk1 hS => ?_)
                  obtain ⟨w112_, a112_, b112_, hB112_0, hP1, hK1, hD1⟩ := hB
                  have hB112_0 : zpP (a32_ 0) (a112_ 0) z58.toInt := hB112_0
                  rw [ht] at hP1
                  obtain ⟨hP, hD⟩ := va_join (wr := [(h0, .inr (3, mX3 h1 h8 h17 h25 h26 h27 h28 h29 v0)), (h17, .inr (7, mX7 h18 h19 h20 h21 h22 h23 h24 v17)), (h23, zi k23 160 f23), (h29, zi k29 300 f29), (h28, zi k28 832 f28)]) (w1 := [(h30, .inr (5, mX5 h31)), (h31, zi k31 26 (a112_ 0))]) hP hD [5, 6] [0, 1, 2, 3, 4] rfl rfl (by decide) (by decide) hk1 hFc hP1 hD1
                  have hP : va_P (dC, dI) vwCl [(h0, .inr (3, mX3 h1 h8 h17 h25 h26 h27 h28 h29 v0)), (h17, .inr (7, mX7 h18 h19 h20 h21 h22 h23 h24 v17)), (h23, zi k23 160 f23), (h29, zi k29 300 f29), (h28, zi k28 832 f28), (h30, .inr (5, mX5 h31)), (h31, zi k31 26 (a112_ 0))] H1 := hP.sub [0, 1, 2, 3, 4, 5, 6] rfl
                  have hD : va_D A [(h0, .inr (3, mX3 h1 h8 h17 h25 h26 h27 h28 h29 v0)), (h17, .inr (7, mX7 h18 h19 h20 h21 h22 h23 h24 v17)), (h23, zi k23 160 f23), (h29, zi k29 300 f29), (h28, zi k28 832 f28), (h30, .inr (5, mX5 h31)), (h31, zi k31 26 (a112_ 0))] := hD.sub [0, 1, 2, 3, 4, 5, 6] (by decide) rfl
                  generalize H1 = H at hP hS ⊢
                  clear hz1
                  obtain ⟨z115, e_z115⟩ : ∃ z : Int32, z = (u32_ 0) + Int32.ofInt 1 := ⟨_, rfl⟩
                  have b_ := zadd (x := (u32_ 0)) (y := Int32.ofInt 1) rfl (show (Int32.ofInt 1).toInt = 1 from by decide) e_z115 (by omega) (by omega)
                  refine lv_iinc (v := z115) (lv' := [(5, .int z115), (7, .int 1), (6, .int z58), (0, .ref h0), (1, .int x1), (2, .int x2), (3, .ref h30), (4, .int (u3_ 0))]) hx hb dX3_gatherPhrase_115 hl (k := 7) rfl e_z115.symm (by decide) rfl (fun ls hl => ?_)
                  have hgp9 : zGP f28 f29 f23 f31 (a112_ 0) (v17 8).toInt x1.toInt x2.toInt (u3_ 0).toInt z115.toInt := zGP_s hI32_0 (by omega) e_z53 (by omega) (by omega) e_z57 e_z58 (by omega) hX103_0 (by omega) (by omega) hB112_0 (by omega)
                  refine lv_goto (tgt := 32) hx hb dX3_gatherPhrase_118 (by decide) ?_
                  have hc : va_P (dC, dI) vwCl [(h0, .inr (3, mX3 h1 h8 h17 h25 h26 h27 h28 h29 v0)), (h17, .inr (7, mX7 h18 h19 h20 h21 h22 h23 h24 v17)), (h23, zi k23 160 f23), (h29, zi k29 300 f29), (h28, zi k28 832 f28), (h30, .inr (5, mX5 h31)), (h31, zi k31 26 (a112_ 0))] H ∧ va_D A [(h0, .inr (3, mX3 h1 h8 h17 h25 h26 h27 h28 h29 v0)), (h17, .inr (7, mX7 h18 h19 h20 h21 h22 h23 h24 v17)), (h23, zi k23 160 f23), (h29, zi k29 300 f29), (h28, zi k28 832 f28), (h30, .inr (5, mX5 h31)), (h31, zi k31 26 (a112_ 0))] ∧ va_S A s.heap H locs ∧ lv_has ls 8 [(0, .ref h0), (1, .int x1), (2, .int x2), (3, .ref h30), (4, .int (u3_ 0)), (5, .int z115)] ∧ (0 ≤ z115.toInt ∧ z115.toInt ≤ 300) ∧ (zGP f28 f29 f23 f31 (a112_ 0) (v17 8).toInt x1.toInt x2.toInt (u3_ 0).toInt z115.toInt) ∧ (z115.toInt ≤ (v0 9).toInt) := ⟨hP, hD, hS, lv_sub hl [3, 4, 5, 6, 7, 0] rfl, (by first | with_reducible assumption | exact ⟨by omega, by omega⟩), by first | exact hgp9 | exact zGP_0 (by decide), by omega⟩
                  exact hJ32 H locs ls (fun i => ([z115] : List (Int32)).getD i 0) (fun _ => 0) (fun i => ([(a112_ 0)] : List (Nat → Int32)).getD i (fun _ => 0)) (fun _ => (fun _ => 0)) hc (show (300 - z115.toInt).toNat < (300 - (u32_ 0).toInt).toNat from by omega)
            · skip
              have b_ := zF_ge rfl zk_512 c_
              refine lv_iconst (v := 0) hx hb dX3_gatherPhrase_76 (by decide) ?_
              refine lv_goto (tgt := 83) hx hb dX3_gatherPhrase_77 (by decide) ?_
              have b_ : -2147483648 ≤ z58.toInt ∧ z58.toInt ≤ 2147483647 := ⟨zlo _, zhi _⟩
              refine lv_icmp_lt (tgt := 90) hx hb dX3_gatherPhrase_83 (by decide) (fun c_ => ?_) (fun c_ => ?_)
              · skip
                have b_ := zT_lt rfl zk_0 c_
                refine lv_iconst (v := 0) hx hb dX3_gatherPhrase_90 (by decide) ?_
                refine lv_istore (lv' := [(7, .int 0), (6, .int z58), (0, .ref h0), (1, .int x1), (2, .int x2), (3, .ref h30), (4, .int (u3_ 0)), (5, .int (u32_ 0))]) hx hb dX3_gatherPhrase_91 hl (by decide) rfl (fun ls hl => ?_)
                refine lv_iload hx hb dX3_gatherPhrase_93 (lv_at hl 0 rfl) ?_
                refine lv_if_eq (tgt := 115) hx hb dX3_gatherPhrase_95 (by decide) (fun c_ => ?_) (fun c_ => absurd c_ (by decide))
                obtain ⟨z115, e_z115⟩ : ∃ z : Int32, z = (u32_ 0) + Int32.ofInt 1 := ⟨_, rfl⟩
                have b_ := zadd (x := (u32_ 0)) (y := Int32.ofInt 1) rfl (show (Int32.ofInt 1).toInt = 1 from by decide) e_z115 (by omega) (by omega)
                refine lv_iinc (v := z115) (lv' := [(5, .int z115), (7, .int 0), (6, .int z58), (0, .ref h0), (1, .int x1), (2, .int x2), (3, .ref h30), (4, .int (u3_ 0))]) hx hb dX3_gatherPhrase_115 hl (k := 7) rfl e_z115.symm (by decide) rfl (fun ls hl => ?_)
                have hgp9 : zGP f28 f29 f23 f31 (a32_ 0) (v17 8).toInt x1.toInt x2.toInt (u3_ 0).toInt z115.toInt := zGP_k hI32_0 (by omega) e_z53 (by omega) (by omega) e_z57 e_z58 (by omega) (by omega)
                refine lv_goto (tgt := 32) hx hb dX3_gatherPhrase_118 (by decide) ?_
                have hc : va_P (dC, dI) vwCl [(h0, .inr (3, mX3 h1 h8 h17 h25 h26 h27 h28 h29 v0)), (h17, .inr (7, mX7 h18 h19 h20 h21 h22 h23 h24 v17)), (h23, zi k23 160 f23), (h29, zi k29 300 f29), (h28, zi k28 832 f28), (h30, .inr (5, mX5 h31)), (h31, zi k31 26 (a32_ 0))] H ∧ va_D A [(h0, .inr (3, mX3 h1 h8 h17 h25 h26 h27 h28 h29 v0)), (h17, .inr (7, mX7 h18 h19 h20 h21 h22 h23 h24 v17)), (h23, zi k23 160 f23), (h29, zi k29 300 f29), (h28, zi k28 832 f28), (h30, .inr (5, mX5 h31)), (h31, zi k31 26 (a32_ 0))] ∧ va_S A s.heap H locs ∧ lv_has ls 8 [(0, .ref h0), (1, .int x1), (2, .int x2), (3, .ref h30), (4, .int (u3_ 0)), (5, .int z115)] ∧ (0 ≤ z115.toInt ∧ z115.toInt ≤ 300) ∧ (zGP f28 f29 f23 f31 (a32_ 0) (v17 8).toInt x1.toInt x2.toInt (u3_ 0).toInt z115.toInt) ∧ (z115.toInt ≤ (v0 9).toInt) := ⟨hP, hD, hS, lv_sub hl [3, 4, 5, 6, 7, 0] rfl, (by first | with_reducible assumption | exact ⟨by omega, by omega⟩), by first | exact hgp9 | exact zGP_0 (by decide), by omega⟩
                exact hJ32 H locs ls (fun i => ([z115] : List (Int32)).getD i 0) (fun _ => 0) (fun i => ([(a32_ 0)] : List (Nat → Int32)).getD i (fun _ => 0)) (fun _ => (fun _ => 0)) hc (show (300 - z115.toInt).toNat < (300 - (u32_ 0).toInt).toNat from by omega)
              · skip
                have b_ := zF_lt rfl zk_0 c_
                refine lv_iconst (v := 1) hx hb dX3_gatherPhrase_86 (by decide) ?_
                refine lv_goto (tgt := 91) hx hb dX3_gatherPhrase_87 (by decide) ?_
                refine lv_istore (lv' := [(7, .int 1), (6, .int z58), (0, .ref h0), (1, .int x1), (2, .int x2), (3, .ref h30), (4, .int (u3_ 0)), (5, .int (u32_ 0))]) hx hb dX3_gatherPhrase_91 hl (by decide) rfl (fun ls hl => ?_)
                refine lv_iload hx hb dX3_gatherPhrase_93 (lv_at hl 0 rfl) ?_
                refine lv_if_eq (tgt := 115) hx hb dX3_gatherPhrase_95 (by decide) (fun c_ => absurd c_ (by decide)) (fun c_ => ?_)
                refine lv_aload_n hx hb dX3_gatherPhrase_98 rfl (lv_at hl 2 rfl) ?_
                refine lv_iload hx hb dX3_gatherPhrase_99 (lv_at hl 1 rfl) ?_
                refine lv_iload_n hx hb dX3_gatherPhrase_101 rfl (lv_at hl 3 rfl) ?_
                refine lv_iload_n hx hb dX3_gatherPhrase_102 rfl (lv_at hl 4 rfl) ?_
                have hPc := hP.sub (ws' := [(h0, .inr (3, mX3 h1 h8 h17 h25 h26 h27 h28 h29 v0)), (h17, .inr (7, mX7 h18 h19 h20 h21 h22 h23 h24 v17)), (h23, zi k23 160 f23), (h28, zi k28 832 f28)]) [0, 1, 2, 4] rfl
                have hDc := hD.sub (ws' := [(h0, .inr (3, mX3 h1 h8 h17 h25 h26 h27 h28 h29 v0)), (h17, .inr (7, mX7 h18 h19 h20 h21 h22 h23 h24 v17)), (h23, zi k23 160 f23), (h28, zi k28 832 f28)]) [0, 1, 2, 4] (by decide) rfl
                have hKc := hK.sub (tys' := [(k23, .int), (k28, .int)]) [0, 2] rfl
                have hFc := va_free (wc := [(h0, .inr (3, mX3 h1 h8 h17 h25 h26 h27 h28 h29 v0)), (h17, .inr (7, mX7 h18 h19 h20 h21 h22 h23 h24 v17)), (h23, zi k23 160 f23), (h28, zi k28 832 f28)]) hD hS hA [0, 1, 2, 4] rfl
                refine va_calli (va_runV (As := [.int z58, .int x1, .int x2]) (rest := []) ⟨hx, hb, hml, hown, hG⟩ (sX3_standsFrom_0 l dC dI adK adV h0 h17 h23 h28 h1 h8 h25 h26 h27 h29 h18 h19 h20 h21 h22 h24 k23 k28 H.size v0 v17 f23 f28 z58 x1 x2 hv0 hv17) (cwV 3 hG (zgV zv1264 zv1266 zv38 zv140 zv1267) rfl rfl rfl (by decide +kernel) ⟨Nat.le_of_ble_eq_true rfl, Nat.le_of_ble_eq_true rfl⟩) ⟨zPc_blind, va_recv hKc hPc (ci := 3) (q0 := 0) rfl rfl, zPc_pre hPc hKc hDc hE hS hFc hZ⟩ rfl rfl hl.1 rfl (lv_room (Nat.le_of_ble_eq_true rfl)) dX3_gatherPhrase_103 ⟨Nat.le_of_ble_eq_true rfl, Nat.le_of_ble_eq_true rfl⟩) hS (fun q _ h => hFc q h) hFc (fun r103_ u103_ t H1 locs ht hvm hw hB hz1 hk1 hS => ?_)
                replace hw : (0 ≤ r103_.toInt ∧ r103_.toInt ≤ 1) ∧ (zSFr f28 f23 (v17 8).toInt z58.toInt x1.toInt x2.toInt r103_.toInt) := hw
                obtain ⟨b_, hX103_0⟩ := hw
                obtain ⟨w103_, a103_, b103_, hP1, hK1, hD1⟩ := hB
                rw [ht] at hP1
                obtain ⟨hP, hD⟩ := va_join (wr := [(h29, zi k29 300 f29), (h30, .inr (5, mX5 h31)), (h31, zi k31 26 (a32_ 0))]) (w1 := [(h0, .inr (3, mX3 h1 h8 h17 h25 h26 h27 h28 h29 v0)), (h17, .inr (7, mX7 h18 h19 h20 h21 h22 h23 h24 v17)), (h23, zi k23 160 f23), (h28, zi k28 832 f28)]) hP hD [0, 1, 2, 4] [3, 5, 6] rfl rfl (by decide) (by decide) hk1 hFc hP1 hD1
                have hP : va_P (dC, dI) vwCl [(h0, .inr (3, mX3 h1 h8 h17 h25 h26 h27 h28 h29 v0)), (h17, .inr (7, mX7 h18 h19 h20 h21 h22 h23 h24 v17)), (h23, zi k23 160 f23), (h29, zi k29 300 f29), (h28, zi k28 832 f28), (h30, .inr (5, mX5 h31)), (h31, zi k31 26 (a32_ 0))] H1 := hP.sub [3, 4, 5, 0, 6, 1, 2] rfl
                have hD : va_D A [(h0, .inr (3, mX3 h1 h8 h17 h25 h26 h27 h28 h29 v0)), (h17, .inr (7, mX7 h18 h19 h20 h21 h22 h23 h24 v17)), (h23, zi k23 160 f23), (h29, zi k29 300 f29), (h28, zi k28 832 f28), (h30, .inr (5, mX5 h31)), (h31, zi k31 26 (a32_ 0))] := hD.sub [3, 4, 5, 0, 6, 1, 2] (by decide) rfl
                generalize H1 = H at hP hS ⊢
                clear hz1
                refine lv_if_eq (tgt := 115) hx hb dX3_gatherPhrase_106 (by decide) (fun c_ => ?_) (fun c_ => ?_)
                · skip
                  have b_ := zT_eq rfl zk_0 c_
                  obtain ⟨z115, e_z115⟩ : ∃ z : Int32, z = (u32_ 0) + Int32.ofInt 1 := ⟨_, rfl⟩
                  have b_ := zadd (x := (u32_ 0)) (y := Int32.ofInt 1) rfl (show (Int32.ofInt 1).toInt = 1 from by decide) e_z115 (by omega) (by omega)
                  refine lv_iinc (v := z115) (lv' := [(5, .int z115), (7, .int 1), (6, .int z58), (0, .ref h0), (1, .int x1), (2, .int x2), (3, .ref h30), (4, .int (u3_ 0))]) hx hb dX3_gatherPhrase_115 hl (k := 7) rfl e_z115.symm (by decide) rfl (fun ls hl => ?_)
                  have hgp9 : zGP f28 f29 f23 f31 (a32_ 0) (v17 8).toInt x1.toInt x2.toInt (u3_ 0).toInt z115.toInt := zGP_f hI32_0 (by omega) e_z53 (by omega) (by omega) e_z57 e_z58 hX103_0 (by omega) (by omega)
                  refine lv_goto (tgt := 32) hx hb dX3_gatherPhrase_118 (by decide) ?_
                  have hc : va_P (dC, dI) vwCl [(h0, .inr (3, mX3 h1 h8 h17 h25 h26 h27 h28 h29 v0)), (h17, .inr (7, mX7 h18 h19 h20 h21 h22 h23 h24 v17)), (h23, zi k23 160 f23), (h29, zi k29 300 f29), (h28, zi k28 832 f28), (h30, .inr (5, mX5 h31)), (h31, zi k31 26 (a32_ 0))] H ∧ va_D A [(h0, .inr (3, mX3 h1 h8 h17 h25 h26 h27 h28 h29 v0)), (h17, .inr (7, mX7 h18 h19 h20 h21 h22 h23 h24 v17)), (h23, zi k23 160 f23), (h29, zi k29 300 f29), (h28, zi k28 832 f28), (h30, .inr (5, mX5 h31)), (h31, zi k31 26 (a32_ 0))] ∧ va_S A s.heap H locs ∧ lv_has ls 8 [(0, .ref h0), (1, .int x1), (2, .int x2), (3, .ref h30), (4, .int (u3_ 0)), (5, .int z115)] ∧ (0 ≤ z115.toInt ∧ z115.toInt ≤ 300) ∧ (zGP f28 f29 f23 f31 (a32_ 0) (v17 8).toInt x1.toInt x2.toInt (u3_ 0).toInt z115.toInt) ∧ (z115.toInt ≤ (v0 9).toInt) := ⟨hP, hD, hS, lv_sub hl [3, 4, 5, 6, 7, 0] rfl, (by first | with_reducible assumption | exact ⟨by omega, by omega⟩), by first | exact hgp9 | exact zGP_0 (by decide), by omega⟩
                  exact hJ32 H locs ls (fun i => ([z115] : List (Int32)).getD i 0) (fun _ => 0) (fun i => ([(a32_ 0)] : List (Nat → Int32)).getD i (fun _ => 0)) (fun _ => (fun _ => 0)) hc (show (300 - z115.toInt).toNat < (300 - (u32_ 0).toInt).toNat from by omega)
                · skip
                  have b_ := zF_eq rfl zk_0 c_
                  refine lv_aload_n hx hb dX3_gatherPhrase_109 rfl (lv_at hl 5 rfl) ?_
                  refine lv_iload hx hb dX3_gatherPhrase_110 (lv_at hl 1 rfl) ?_
                  have hPc := hP.sub (ws' := [(h30, .inr (5, mX5 h31)), (h31, zi k31 26 (a32_ 0))]) [5, 6] rfl
                  have hDc := hD.sub (ws' := [(h30, .inr (5, mX5 h31)), (h31, zi k31 26 (a32_ 0))]) [5, 6] (by decide) rfl
                  have hKc := hK.sub (tys' := [(k31, .int)]) [3] rfl
                  have hFc := va_free (wc := [(h30, .inr (5, mX5 h31)), (h31, zi k31 26 (a32_ 0))]) hD hS hA [5, 6] rfl
                  refine va_callv (va_runV (As := [.int z58]) (rest := []) ⟨hx, hb, hml, hown, hG⟩ (sX5_put_0 l dC dI adK adV h30 h31 k31 H.size (a32_ 0) z58) (cwV 1 hG (zgV zv1272 zv1273 zv1274 zv139 zv1275) rfl rfl rfl (by decide +kernel) ⟨Nat.le_of_ble_eq_true rfl, Nat.le_of_ble_eq_true rfl⟩) ⟨zPc_blind, va_recv hKc hPc (ci := 5) (q0 := 0) rfl rfl, zPc_pre hPc hKc hDc hE hS hFc hZ⟩ rfl rfl hl.1 rfl (lv_room (Nat.le_of_ble_eq_true rfl)) dX3_gatherPhrase_112 ⟨Nat.le_of_ble_eq_true rfl, Nat.le_of_ble_eq_true rfl⟩) hS (fun q _ h => hFc q h) hFc (fun u112_ t H1 locs ht hvm hw hB hz1 hk1 hS => ?_)
                  obtain ⟨w112_, a112_, b112_, hB112_0, hP1, hK1, hD1⟩ := hB
                  have hB112_0 : zpP (a32_ 0) (a112_ 0) z58.toInt := hB112_0
                  rw [ht] at hP1
                  obtain ⟨hP, hD⟩ := va_join (wr := [(h0, .inr (3, mX3 h1 h8 h17 h25 h26 h27 h28 h29 v0)), (h17, .inr (7, mX7 h18 h19 h20 h21 h22 h23 h24 v17)), (h23, zi k23 160 f23), (h29, zi k29 300 f29), (h28, zi k28 832 f28)]) (w1 := [(h30, .inr (5, mX5 h31)), (h31, zi k31 26 (a112_ 0))]) hP hD [5, 6] [0, 1, 2, 3, 4] rfl rfl (by decide) (by decide) hk1 hFc hP1 hD1
                  have hP : va_P (dC, dI) vwCl [(h0, .inr (3, mX3 h1 h8 h17 h25 h26 h27 h28 h29 v0)), (h17, .inr (7, mX7 h18 h19 h20 h21 h22 h23 h24 v17)), (h23, zi k23 160 f23), (h29, zi k29 300 f29), (h28, zi k28 832 f28), (h30, .inr (5, mX5 h31)), (h31, zi k31 26 (a112_ 0))] H1 := hP.sub [0, 1, 2, 3, 4, 5, 6] rfl
                  have hD : va_D A [(h0, .inr (3, mX3 h1 h8 h17 h25 h26 h27 h28 h29 v0)), (h17, .inr (7, mX7 h18 h19 h20 h21 h22 h23 h24 v17)), (h23, zi k23 160 f23), (h29, zi k29 300 f29), (h28, zi k28 832 f28), (h30, .inr (5, mX5 h31)), (h31, zi k31 26 (a112_ 0))] := hD.sub [0, 1, 2, 3, 4, 5, 6] (by decide) rfl
                  generalize H1 = H at hP hS ⊢
                  clear hz1
                  obtain ⟨z115, e_z115⟩ : ∃ z : Int32, z = (u32_ 0) + Int32.ofInt 1 := ⟨_, rfl⟩
                  have b_ := zadd (x := (u32_ 0)) (y := Int32.ofInt 1) rfl (show (Int32.ofInt 1).toInt = 1 from by decide) e_z115 (by omega) (by omega)
                  refine lv_iinc (v := z115) (lv' := [(5, .int z115), (7, .int 1), (6, .int z58), (0, .ref h0), (1, .int x1), (2, .int x2), (3, .ref h30), (4, .int (u3_ 0))]) hx hb dX3_gatherPhrase_115 hl (k := 7) rfl e_z115.symm (by decide) rfl (fun ls hl => ?_)
                  have hgp9 : zGP f28 f29 f23 f31 (a112_ 0) (v17 8).toInt x1.toInt x2.toInt (u3_ 0).toInt z115.toInt := zGP_s hI32_0 (by omega) e_z53 (by omega) (by omega) e_z57 e_z58 (by omega) hX103_0 (by omega) (by omega) hB112_0 (by omega)
                  refine lv_goto (tgt := 32) hx hb dX3_gatherPhrase_118 (by decide) ?_
                  have hc : va_P (dC, dI) vwCl [(h0, .inr (3, mX3 h1 h8 h17 h25 h26 h27 h28 h29 v0)), (h17, .inr (7, mX7 h18 h19 h20 h21 h22 h23 h24 v17)), (h23, zi k23 160 f23), (h29, zi k29 300 f29), (h28, zi k28 832 f28), (h30, .inr (5, mX5 h31)), (h31, zi k31 26 (a112_ 0))] H ∧ va_D A [(h0, .inr (3, mX3 h1 h8 h17 h25 h26 h27 h28 h29 v0)), (h17, .inr (7, mX7 h18 h19 h20 h21 h22 h23 h24 v17)), (h23, zi k23 160 f23), (h29, zi k29 300 f29), (h28, zi k28 832 f28), (h30, .inr (5, mX5 h31)), (h31, zi k31 26 (a112_ 0))] ∧ va_S A s.heap H locs ∧ lv_has ls 8 [(0, .ref h0), (1, .int x1), (2, .int x2), (3, .ref h30), (4, .int (u3_ 0)), (5, .int z115)] ∧ (0 ≤ z115.toInt ∧ z115.toInt ≤ 300) ∧ (zGP f28 f29 f23 f31 (a112_ 0) (v17 8).toInt x1.toInt x2.toInt (u3_ 0).toInt z115.toInt) ∧ (z115.toInt ≤ (v0 9).toInt) := ⟨hP, hD, hS, lv_sub hl [3, 4, 5, 6, 7, 0] rfl, (by first | with_reducible assumption | exact ⟨by omega, by omega⟩), by first | exact hgp9 | exact zGP_0 (by decide), by omega⟩
                  exact hJ32 H locs ls (fun i => ([z115] : List (Int32)).getD i 0) (fun _ => 0) (fun i => ([(a112_ 0)] : List (Nat → Int32)).getD i (fun _ => 0)) (fun _ => (fun _ => 0)) hc (show (300 - z115.toInt).toNat < (300 - (u32_ 0).toInt).toNat from by omega)
      · skip
        have b_ : -2147483648 ≤ x1.toInt ∧ x1.toInt ≤ 2147483647 := ⟨zlo _, zhi _⟩
        have b_ : -2147483648 ≤ x2.toInt ∧ x2.toInt ≤ 2147483647 := ⟨zlo _, zhi _⟩
        have b_ : -2147483648 ≤ (u3_ 0).toInt ∧ (u3_ 0).toInt ≤ 2147483647 := ⟨zlo _, zhi _⟩
        have hc : va_P (dC, dI) vwCl [(h0, .inr (3, mX3 h1 h8 h17 h25 h26 h27 h28 h29 v0)), (h17, .inr (7, mX7 h18 h19 h20 h21 h22 h23 h24 v17)), (h23, zi k23 160 f23), (h29, zi k29 300 f29), (h28, zi k28 832 f28), (h30, .inr (5, mX5 h31)), (h31, zi k31 26 f31)] H ∧ va_D A [(h0, .inr (3, mX3 h1 h8 h17 h25 h26 h27 h28 h29 v0)), (h17, .inr (7, mX7 h18 h19 h20 h21 h22 h23 h24 v17)), (h23, zi k23 160 f23), (h29, zi k29 300 f29), (h28, zi k28 832 f28), (h30, .inr (5, mX5 h31)), (h31, zi k31 26 f31)] ∧ va_S A s.heap H locs ∧ lv_has ls 8 [(0, .ref h0), (1, .int x1), (2, .int x2), (3, .ref h30), (4, .int (u3_ 0)), (5, .int 0)] ∧ (0 ≤ (0 : Int32).toInt ∧ (0 : Int32).toInt ≤ 300) ∧ (zGP f28 f29 f23 f31 f31 (v17 8).toInt x1.toInt x2.toInt (u3_ 0).toInt (0 : Int32).toInt) ∧ ((0 : Int32).toInt ≤ (v0 9).toInt) := ⟨hP, hD, hS, lv_sub hl [1, 2, 3, 4, 5, 0] rfl, (by first | with_reducible assumption | exact ⟨by omega, by omega⟩), by first | exact hgp9 | exact zGP_0 (by decide), by omega⟩
        exact hJ32 H locs ls (fun i => ([0] : List (Int32)).getD i 0) (fun _ => 0) (fun i => ([f31] : List (Nat → Int32)).getD i (fun _ => 0)) (fun _ => (fun _ => 0)) hc
    · skip
      have b_ : -2147483648 ≤ (u3_ 0).toInt ∧ (u3_ 0).toInt ≤ 2147483647 := ⟨zlo _, zhi _⟩
      have b_ : -2147483648 ≤ x2.toInt ∧ x2.toInt ≤ 2147483647 := ⟨zlo _, zhi _⟩
      refine lv_icmp_ge (tgt := 29) hx hb dX3_gatherPhrase_6 (by decide) (fun c_ => ?_) (fun c_ => ?_)
      · skip
        have b_ := zT_ge rfl rfl c_
        have b_ : -2147483648 ≤ x1.toInt ∧ x1.toInt ≤ 2147483647 := ⟨zlo _, zhi _⟩
        have hc : va_P (dC, dI) vwCl [(h0, .inr (3, mX3 h1 h8 h17 h25 h26 h27 h28 h29 v0)), (h17, .inr (7, mX7 h18 h19 h20 h21 h22 h23 h24 v17)), (h23, zi k23 160 f23), (h29, zi k29 300 f29), (h28, zi k28 832 f28), (h30, .inr (5, mX5 h31)), (h31, zi k31 26 f31)] H ∧ va_D A [(h0, .inr (3, mX3 h1 h8 h17 h25 h26 h27 h28 h29 v0)), (h17, .inr (7, mX7 h18 h19 h20 h21 h22 h23 h24 v17)), (h23, zi k23 160 f23), (h29, zi k29 300 f29), (h28, zi k28 832 f28), (h30, .inr (5, mX5 h31)), (h31, zi k31 26 f31)] ∧ va_S A s.heap H locs ∧ lv_has ls 8 [(0, .ref h0), (1, .int x1), (2, .int x2), (3, .ref h30), (4, .int (u3_ 0))] ∧ (zSuE f23 (v17 8).toInt x1.toInt x2.toInt (u3_ 0).toInt) := ⟨hP, hD, hS, lv_sub hl [0, 1, 2, 3, 4] rfl, by first | exact zSuE_1 hI3_0 (by omega) | exact zSuE_2 hI3_0 hX15_0 (by omega)⟩
        exact hJ29 H locs ls (fun _ => 0) (fun _ => 0) (fun _ => (fun _ => 0)) (fun _ => (fun _ => 0)) hc
      · skip
        have b_ := zF_ge rfl rfl c_
        refine lv_aload_n hx hb dX3_gatherPhrase_9 rfl (lv_at hl 0 rfl) ?_
        refine va_get (D := (dC, dI)) (ci := 3) (v := .ref h17) (C := RX3) (T := TX3) (N := 10) hx hb hG zuX3 hown hK hP 0 rfl rfl 2 (by decide) (hG _ zv475) (fun _ h9 => h9) rfl dX3_gatherPhrase_10 ?_
        refine lv_iload hx hb dX3_gatherPhrase_13 (lv_at hl 4 rfl) ?_
        have hPc := hP.sub (ws' := [(h17, .inr (7, mX7 h18 h19 h20 h21 h22 h23 h24 v17)), (h23, zi k23 160 f23)]) [1, 2] rfl
        have hDc := hD.sub (ws' := [(h17, .inr (7, mX7 h18 h19 h20 h21 h22 h23 h24 v17)), (h23, zi k23 160 f23)]) [1, 2] (by decide) rfl
        have hKc := hK.sub (tys' := [(k23, .int)]) [0] rfl
        have hFc := va_free (wc := [(h17, .inr (7, mX7 h18 h19 h20 h21 h22 h23 h24 v17)), (h23, zi k23 160 f23)]) hD hS hA [1, 2] rfl
        refine va_calli (va_runV (As := [.int (u3_ 0)]) (rest := []) ⟨hx, hb, hml, hown, hG⟩ (sX7_phraseWord_0 l dC dI adK adV h17 h23 h18 h19 h20 h21 h22 h24 k23 H.size v17 f23 (u3_ 0) hv17) (cwV 1 hG (zgV zv1199 zv1200 zv1201 zv136 zv1202) rfl rfl rfl (by decide +kernel) ⟨Nat.le_of_ble_eq_true rfl, Nat.le_of_ble_eq_true rfl⟩) ⟨zPc_blind, va_recv hKc hPc (ci := 7) (q0 := 0) rfl rfl, zPc_pre hPc hKc hDc hE hS hFc hZ⟩ rfl rfl hl.1 rfl (lv_room (Nat.le_of_ble_eq_true rfl)) dX3_gatherPhrase_15 ⟨Nat.le_of_ble_eq_true rfl, Nat.le_of_ble_eq_true rfl⟩) hS (fun q _ h => hFc q h) hFc (fun r15_ u15_ t H1 locs ht hvm hw hB hz1 hk1 hS => ?_)
        replace hw : (r15_.toInt = zPw f23 (v17 8).toInt (u3_ 0).toInt) := hw
        have hX15_0 := hw
        obtain ⟨w15_, a15_, b15_, hP1, hK1, hD1⟩ := hB
        rw [ht] at hP1
        obtain ⟨hP, hD⟩ := va_join (wr := [(h0, .inr (3, mX3 h1 h8 h17 h25 h26 h27 h28 h29 v0)), (h29, zi k29 300 f29), (h28, zi k28 832 f28), (h30, .inr (5, mX5 h31)), (h31, zi k31 26 f31)]) (w1 := [(h17, .inr (7, mX7 h18 h19 h20 h21 h22 h23 h24 v17)), (h23, zi k23 160 f23)]) hP hD [1, 2] [0, 3, 4, 5, 6] rfl rfl (by decide) (by decide) hk1 hFc hP1 hD1
        have hP : va_P (dC, dI) vwCl [(h0, .inr (3, mX3 h1 h8 h17 h25 h26 h27 h28 h29 v0)), (h17, .inr (7, mX7 h18 h19 h20 h21 h22 h23 h24 v17)), (h23, zi k23 160 f23), (h29, zi k29 300 f29), (h28, zi k28 832 f28), (h30, .inr (5, mX5 h31)), (h31, zi k31 26 f31)] H1 := hP.sub [0, 5, 6, 1, 2, 3, 4] rfl
        have hD : va_D A [(h0, .inr (3, mX3 h1 h8 h17 h25 h26 h27 h28 h29 v0)), (h17, .inr (7, mX7 h18 h19 h20 h21 h22 h23 h24 v17)), (h23, zi k23 160 f23), (h29, zi k29 300 f29), (h28, zi k28 832 f28), (h30, .inr (5, mX5 h31)), (h31, zi k31 26 f31)] := hD.sub [0, 5, 6, 1, 2, 3, 4] (by decide) rfl
        generalize H1 = H at hP hS ⊢
        clear hz1
        refine lv_bipush (v := (-2)) hx hb dX3_gatherPhrase_18 (by decide) ?_
        have b_ : -2147483648 ≤ r15_.toInt ∧ r15_.toInt ≤ 2147483647 := ⟨zlo _, zhi _⟩
        refine lv_icmp_ne (tgt := 29) hx hb dX3_gatherPhrase_20 (by decide) (fun c_ => ?_) (fun c_ => ?_)
        · skip
          have b_ := zT_ne rfl zk_m2 c_
          have b_ : -2147483648 ≤ x1.toInt ∧ x1.toInt ≤ 2147483647 := ⟨zlo _, zhi _⟩
          have hc : va_P (dC, dI) vwCl [(h0, .inr (3, mX3 h1 h8 h17 h25 h26 h27 h28 h29 v0)), (h17, .inr (7, mX7 h18 h19 h20 h21 h22 h23 h24 v17)), (h23, zi k23 160 f23), (h29, zi k29 300 f29), (h28, zi k28 832 f28), (h30, .inr (5, mX5 h31)), (h31, zi k31 26 f31)] H ∧ va_D A [(h0, .inr (3, mX3 h1 h8 h17 h25 h26 h27 h28 h29 v0)), (h17, .inr (7, mX7 h18 h19 h20 h21 h22 h23 h24 v17)), (h23, zi k23 160 f23), (h29, zi k29 300 f29), (h28, zi k28 832 f28), (h30, .inr (5, mX5 h31)), (h31, zi k31 26 f31)] ∧ va_S A s.heap H locs ∧ lv_has ls 8 [(0, .ref h0), (1, .int x1), (2, .int x2), (3, .ref h30), (4, .int (u3_ 0))] ∧ (zSuE f23 (v17 8).toInt x1.toInt x2.toInt (u3_ 0).toInt) := ⟨hP, hD, hS, lv_sub hl [0, 1, 2, 3, 4] rfl, by first | exact zSuE_1 hI3_0 (by omega) | exact zSuE_2 hI3_0 hX15_0 (by omega)⟩
          exact hJ29 H locs ls (fun _ => 0) (fun _ => 0) (fun _ => (fun _ => 0)) (fun _ => (fun _ => 0)) hc
        · skip
          have b_ := zF_ne rfl zk_m2 c_
          obtain ⟨z23, e_z23⟩ : ∃ z : Int32, z = (u3_ 0) + Int32.ofInt 1 := ⟨_, rfl⟩
          have b_ := zadd (x := (u3_ 0)) (y := Int32.ofInt 1) rfl (show (Int32.ofInt 1).toInt = 1 from by decide) e_z23 (by omega) (by omega)
          refine lv_iinc (v := z23) (lv' := [(4, .int z23), (0, .ref h0), (1, .int x1), (2, .int x2), (3, .ref h30)]) hx hb dX3_gatherPhrase_23 hl (k := 4) rfl e_z23.symm (by decide) rfl (fun ls hl => ?_)
          refine lv_goto (tgt := 3) hx hb dX3_gatherPhrase_26 (by decide) ?_
          have b_ : -2147483648 ≤ x1.toInt ∧ x1.toInt ≤ 2147483647 := ⟨zlo _, zhi _⟩
          have hc : va_P (dC, dI) vwCl [(h0, .inr (3, mX3 h1 h8 h17 h25 h26 h27 h28 h29 v0)), (h17, .inr (7, mX7 h18 h19 h20 h21 h22 h23 h24 v17)), (h23, zi k23 160 f23), (h29, zi k29 300 f29), (h28, zi k28 832 f28), (h30, .inr (5, mX5 h31)), (h31, zi k31 26 f31)] H ∧ va_D A [(h0, .inr (3, mX3 h1 h8 h17 h25 h26 h27 h28 h29 v0)), (h17, .inr (7, mX7 h18 h19 h20 h21 h22 h23 h24 v17)), (h23, zi k23 160 f23), (h29, zi k29 300 f29), (h28, zi k28 832 f28), (h30, .inr (5, mX5 h31)), (h31, zi k31 26 f31)] ∧ va_S A s.heap H locs ∧ lv_has ls 8 [(0, .ref h0), (1, .int x1), (2, .int x2), (3, .ref h30), (4, .int z23)] ∧ (zSu f23 (v17 8).toInt x1.toInt z23.toInt) := ⟨hP, hD, hS, lv_sub hl [1, 2, 3, 4, 0] rfl, by first | exact zSu_s hI3_0 hX15_0 (by omega) (by omega) | exact zSu_0 rfl⟩
          exact hJ3 H locs ls (fun i => ([z23] : List (Int32)).getD i 0) (fun _ => 0) (fun _ => (fun _ => 0)) (fun _ => (fun _ => 0)) hc (show (2147483647 - z23.toInt).toNat < (2147483647 - (u3_ 0).toInt).toNat from by omega)
  · skip
    have b_ : -2147483648 ≤ x1.toInt ∧ x1.toInt ≤ 2147483647 := ⟨zlo _, zhi _⟩
    have b_ : -2147483648 ≤ x2.toInt ∧ x2.toInt ≤ 2147483647 := ⟨zlo _, zhi _⟩
    have hc : va_P (dC, dI) vwCl [(h0, .inr (3, mX3 h1 h8 h17 h25 h26 h27 h28 h29 v0)), (h17, .inr (7, mX7 h18 h19 h20 h21 h22 h23 h24 v17)), (h23, zi k23 160 f23), (h29, zi k29 300 f29), (h28, zi k28 832 f28), (h30, .inr (5, mX5 h31)), (h31, zi k31 26 f31)] s.heap ∧ va_D A [(h0, .inr (3, mX3 h1 h8 h17 h25 h26 h27 h28 h29 v0)), (h17, .inr (7, mX7 h18 h19 h20 h21 h22 h23 h24 v17)), (h23, zi k23 160 f23), (h29, zi k29 300 f29), (h28, zi k28 832 f28), (h30, .inr (5, mX5 h31)), (h31, zi k31 26 f31)] ∧ va_S A s.heap s.heap [] ∧ lv_has ls 8 [(0, .ref h0), (1, .int x1), (2, .int x2), (3, .ref h30), (4, .int x1)] ∧ (zSu f23 (v17 8).toInt x1.toInt x1.toInt) := ⟨hP, hD, hS, lv_sub hl [1, 2, 3, 4, 0] rfl, by first | exact zSu_s hI3_0 hX15_0 (by omega) (by omega) | exact zSu_0 rfl⟩
    exact hJ3 s.heap [] ls (fun i => ([x1] : List (Int32)).getD i 0) (fun _ => 0) (fun _ => (fun _ => 0)) (fun _ => (fun _ => 0)) hc
set_option maxHeartbeats 8000000 in
set_option maxRecDepth 100000 in
theorem sX5_clearTitle_0 (l : Launch) (dC : Nat → ClassId) (dI : Nat → Nat → Nat) (adK adV : Nat → Nat) (h0 : Nat) (h1 : Nat) (k1 : ClassId) (sz : Nat) (f1 : Nat → Int32) : Met l yX5_clearTitle (zw yX5_clearTitle cX5_clearTitle 2 none) { frames := 0, cells := 0, slots := 0, locals := 0 } (zPc dC dI adK adV [.ref h0] sz [(h0, .inr (5, mX5 h1)), (h1, zi k1 26 f1)] [(k1, .int)]) (va_Qv (fun (u : Nat → Int32) => True) (fun (u : Nat → Int32) (t : State) => ∃ (ww : Nat → Int64) (aa : Nat → Nat → Int32) (bb : Nat → Nat → Int64), (zclr f1 (aa 0) 0 512) ∧ va_P (dC, dI) vwCl [(h0, .inr (5, mX5 h1)), (h1, zi k1 26 (aa 0))] t.heap ∧ va_K (dC, dI) vwCl [(k1, .int)] t ∧ va_D (va_A [(h0, .inr (5, mX5 h1)), (h1, zi k1 26 f1)] sz) [(h0, .inr (5, mX5 h1)), (h1, zi k1 26 (aa 0))]) (va_A [(h0, .inr (5, mX5 h1)), (h1, zi k1 26 f1)] sz)) 0 0 (va_A [(h0, .inr (5, mX5 h1)), (h1, zi k1 26 f1)] sz) := by
  refine Met.ofW (cc := cX5_clearTitle) (maxL := 2) (ret := none) (by decide) rfl ?_
  intro p e s m args below meth c s₁ B hml hv
  obtain ⟨rfl, hsz, hP, hK, hD0, hE, hZ⟩ := hv
  have hx := B.exec
  have hb := B.bytes
  have hr := B.returns
  have hG : ∀ w ∈ zG, w.before _ s = true := fun w h => atoms_spec (ws := (zw yX5_clearTitle cX5_clearTitle 2 none)) B.pre w (List.mem_cons_of_mem _ h)
  have hown : s.vm.findClass RX5 = some m.cls := findClass_of_methodNamed B.named
  have hlocks := B.notSynchronized

  subst hsz
  have hD := hD0.self (sz := s.heap.size)
  generalize hAe : va_A [(h0, .inr (5, mX5 h1)), (h1, zi k1 26 f1)] s.heap.size = A at hD hZ ⊢
  have hA : ∀ q : Nat, s.heap.size ≤ q → A q := fun q h => by rw [← hAe]; exact Or.inr h
  have hS : va_S A s.heap s.heap [] := va_S.rf
  have hl := lv_entry ([.ref h0]) (n := 2) (Nat.le_of_ble_eq_true rfl)
  rw [lg_entry_eq]
  generalize (lg_sl ([.ref h0]) ++ List.replicate (2 - (lg_sl ([.ref h0])).length) Slot.unset).toArray = ls at hl ⊢
  have hl : lv_has ls 2 [(0, .ref h0)] := hl
  have b_ := zk_0
  refine lv_iconst (v := 0) hx hb dX5_clearTitle_0 (by decide) ?_
  refine lv_istore_n (lv' := [(1, .int 0), (0, .ref h0)]) hx hb dX5_clearTitle_1 rfl hl (by decide) rfl (fun ls hl => ?_)
  refine zcutL (fun u2_ => (16 - (u2_ 0).toInt).toNat) (fun H locs ls u2_ w2_ a2_ b2_ => va_P (dC, dI) vwCl [(h0, .inr (5, mX5 h1)), (h1, zi k1 26 (a2_ 0))] H ∧ va_D A [(h0, .inr (5, mX5 h1)), (h1, zi k1 26 (a2_ 0))] ∧ va_S A s.heap H locs ∧ lv_has ls 2 [(0, .ref h0), (1, .int (u2_ 0))] ∧ (0 ≤ (u2_ 0).toInt ∧ (u2_ 0).toInt ≤ 16) ∧ (zcp f1 (a2_ 0) 0 (u2_ 0).toInt) ∧ ((u2_ 0).toInt ≤ 16) ∧ (0 ≤ (u2_ 0).toInt)) (fun ls u2_ w2_ => F0 m 2 ls []) 0 0 ?_ (fun hJ2 => ?_)
  · skip
    intro H locs ls u2_ w2_ a2_ b2_ hc hJ2
    obtain ⟨hP, hD, hS, hl, b_, hI2_0, b_, b_⟩ := hc
    refine lv_iload_n hx hb dX5_clearTitle_2 rfl (lv_at hl 1 rfl) ?_
    refine lv_bipush (v := 16) hx hb dX5_clearTitle_3 (by decide) ?_
    refine lv_icmp_ge (tgt := 21) hx hb dX5_clearTitle_5 (by decide) (fun c_ => ?_) (fun c_ => ?_)
    · skip
      have b_ := zT_ge rfl zk_16 c_
      refine W.widen (k := 0) (n := 0) (by decide) (by decide) ?_
      have hpost : True := trivial
      have hP9 : va_P (dC, dI) vwCl [(h0, .inr (5, mX5 h1)), (h1, zi k1 26 (a2_ 0))] H := hP
      have hD9 : va_D A [(h0, .inr (5, mX5 h1)), (h1, zi k1 26 (a2_ 0))] := hD
      have hB0 : zclr f1 (a2_ 0) 0 512 := by exact zclr_e (a := 0) (b := 16) hI2_0 rfl (by omega) (by omega)
      exact W.vret hx hb hr (fun t ht hW => ⟨⟨(fun _ => 0), rfl, hpost, (fun _ => 0), (fun i => ([(a2_ 0)] : List (Nat → Int32)).getD i (fun _ => 0)), (fun _ => (fun _ => 0)), hB0, by rw [ht]; exact hP9, va_K.moved hW.alike hK, hD9⟩, hS.F ht⟩) hS.2.2 dX5_clearTitle_21
    · skip
      have b_ := zF_ge rfl zk_16 c_
      refine lv_aload_n hx hb dX5_clearTitle_8 rfl (lv_at hl 0 rfl) ?_
      refine va_get (D := (dC, dI)) (ci := 5) (v := .ref h1) (C := RX5) (T := TX5) (N := 1) hx hb hG zuX5 hown hK hP 0 rfl rfl 0 (by decide) (hG _ zv458) (fun _ h9 => h9) rfl dX5_clearTitle_9 ?_
      refine lv_iload_n hx hb dX5_clearTitle_12 rfl (lv_at hl 1 rfl) ?_
      refine lv_iconst (v := 0) hx hb dX5_clearTitle_13 (by decide) ?_
      refine va_iast hx hb hK hP hD hS 1 0 rfl rfl (zin_lit ⟨by omega, by omega⟩) dX5_clearTitle_14 (fun H locs hP hD hS => ?_)
      obtain ⟨f_14, e_f_14⟩ : ∃ z : Nat → Int32, z = upd (a2_ 0) ((u2_ 0) : Int32).toNatClampNeg 0 := ⟨_, rfl⟩
      have hP : va_P (dC, dI) vwCl [(h0, .inr (5, mX5 h1)), (h1, zi k1 26 f_14)] H := by rw [e_f_14]; exact hP
      have hD : va_D A [(h0, .inr (5, mX5 h1)), (h1, zi k1 26 f_14)] := by rw [e_f_14]; exact hD
      obtain ⟨z15, e_z15⟩ : ∃ z : Int32, z = (u2_ 0) + Int32.ofInt 1 := ⟨_, rfl⟩
      have b_ := zadd (x := (u2_ 0)) (y := Int32.ofInt 1) rfl (show (Int32.ofInt 1).toInt = 1 from by decide) e_z15 (by omega) (by omega)
      refine lv_iinc (v := z15) (lv' := [(1, .int z15), (0, .ref h0)]) hx hb dX5_clearTitle_15 hl (k := 1) rfl e_z15.symm (by decide) rfl (fun ls hl => ?_)
      refine lv_goto (tgt := 2) hx hb dX5_clearTitle_18 (by decide) ?_
      have hc : va_P (dC, dI) vwCl [(h0, .inr (5, mX5 h1)), (h1, zi k1 26 f_14)] H ∧ va_D A [(h0, .inr (5, mX5 h1)), (h1, zi k1 26 f_14)] ∧ va_S A s.heap H locs ∧ lv_has ls 2 [(0, .ref h0), (1, .int z15)] ∧ (0 ≤ z15.toInt ∧ z15.toInt ≤ 16) ∧ (zcp f1 f_14 0 z15.toInt) ∧ (z15.toInt ≤ 16) ∧ (0 ≤ z15.toInt) := ⟨hP, hD, hS, lv_sub hl [1, 0] rfl, (by first | with_reducible assumption | exact ⟨by omega, by omega⟩), by first | exact zcp_s hI2_0 (by omega) (by omega) e_f_14 (by omega) | exact zcp_0 (by decide), by omega, by omega⟩
      exact hJ2 H locs ls (fun i => ([z15] : List (Int32)).getD i 0) (fun _ => 0) (fun i => ([f_14] : List (Nat → Int32)).getD i (fun _ => 0)) (fun _ => (fun _ => 0)) hc (show (16 - z15.toInt).toNat < (16 - (u2_ 0).toInt).toNat from by omega)
  · skip
    have hc : va_P (dC, dI) vwCl [(h0, .inr (5, mX5 h1)), (h1, zi k1 26 f1)] s.heap ∧ va_D A [(h0, .inr (5, mX5 h1)), (h1, zi k1 26 f1)] ∧ va_S A s.heap s.heap [] ∧ lv_has ls 2 [(0, .ref h0), (1, .int 0)] ∧ (0 ≤ (0 : Int32).toInt ∧ (0 : Int32).toInt ≤ 16) ∧ (zcp f1 f1 0 (0 : Int32).toInt) ∧ ((0 : Int32).toInt ≤ 16) ∧ (0 ≤ (0 : Int32).toInt) := ⟨hP, hD, hS, lv_sub hl [1, 0] rfl, (by first | with_reducible assumption | exact ⟨by omega, by omega⟩), by first | exact zcp_s hI2_0 (by omega) (by omega) e_f_14 (by omega) | exact zcp_0 (by decide), by omega, by omega⟩
    exact hJ2 s.heap [] ls (fun i => ([0] : List (Int32)).getD i 0) (fun _ => 0) (fun i => ([f1] : List (Nat → Int32)).getD i (fun _ => 0)) (fun _ => (fun _ => 0)) hc
set_option maxHeartbeats 8000000 in
set_option maxRecDepth 100000 in
theorem sX5_clearBody_0 (l : Launch) (dC : Nat → ClassId) (dI : Nat → Nat → Nat) (adK adV : Nat → Nat) (h0 : Nat) (h1 : Nat) (k1 : ClassId) (sz : Nat) (f1 : Nat → Int32) : Met l yX5_clearBody (zw yX5_clearBody cX5_clearBody 2 none) { frames := 0, cells := 0, slots := 0, locals := 0 } (zPc dC dI adK adV [.ref h0] sz [(h0, .inr (5, mX5 h1)), (h1, zi k1 26 f1)] [(k1, .int)]) (va_Qv (fun (u : Nat → Int32) => True) (fun (u : Nat → Int32) (t : State) => ∃ (ww : Nat → Int64) (aa : Nat → Nat → Int32) (bb : Nat → Nat → Int64), (zclr f1 (aa 0) 512 832) ∧ va_P (dC, dI) vwCl [(h0, .inr (5, mX5 h1)), (h1, zi k1 26 (aa 0))] t.heap ∧ va_K (dC, dI) vwCl [(k1, .int)] t ∧ va_D (va_A [(h0, .inr (5, mX5 h1)), (h1, zi k1 26 f1)] sz) [(h0, .inr (5, mX5 h1)), (h1, zi k1 26 (aa 0))]) (va_A [(h0, .inr (5, mX5 h1)), (h1, zi k1 26 f1)] sz)) 0 0 (va_A [(h0, .inr (5, mX5 h1)), (h1, zi k1 26 f1)] sz) := by
  refine Met.ofW (cc := cX5_clearBody) (maxL := 2) (ret := none) (by decide) rfl ?_
  intro p e s m args below meth c s₁ B hml hv
  obtain ⟨rfl, hsz, hP, hK, hD0, hE, hZ⟩ := hv
  have hx := B.exec
  have hb := B.bytes
  have hr := B.returns
  have hG : ∀ w ∈ zG, w.before _ s = true := fun w h => atoms_spec (ws := (zw yX5_clearBody cX5_clearBody 2 none)) B.pre w (List.mem_cons_of_mem _ h)
  have hown : s.vm.findClass RX5 = some m.cls := findClass_of_methodNamed B.named
  have hlocks := B.notSynchronized

  subst hsz
  have hD := hD0.self (sz := s.heap.size)
  generalize hAe : va_A [(h0, .inr (5, mX5 h1)), (h1, zi k1 26 f1)] s.heap.size = A at hD hZ ⊢
  have hA : ∀ q : Nat, s.heap.size ≤ q → A q := fun q h => by rw [← hAe]; exact Or.inr h
  have hS : va_S A s.heap s.heap [] := va_S.rf
  have hl := lv_entry ([.ref h0]) (n := 2) (Nat.le_of_ble_eq_true rfl)
  rw [lg_entry_eq]
  generalize (lg_sl ([.ref h0]) ++ List.replicate (2 - (lg_sl ([.ref h0])).length) Slot.unset).toArray = ls at hl ⊢
  have hl : lv_has ls 2 [(0, .ref h0)] := hl
  have b_ := zk_16
  refine lv_bipush (v := 16) hx hb dX5_clearBody_0 (by decide) ?_
  refine lv_istore_n (lv' := [(1, .int 16), (0, .ref h0)]) hx hb dX5_clearBody_2 rfl hl (by decide) rfl (fun ls hl => ?_)
  refine zcutL (fun u3_ => (26 - (u3_ 0).toInt).toNat) (fun H locs ls u3_ w3_ a3_ b3_ => va_P (dC, dI) vwCl [(h0, .inr (5, mX5 h1)), (h1, zi k1 26 (a3_ 0))] H ∧ va_D A [(h0, .inr (5, mX5 h1)), (h1, zi k1 26 (a3_ 0))] ∧ va_S A s.heap H locs ∧ lv_has ls 2 [(0, .ref h0), (1, .int (u3_ 0))] ∧ (16 ≤ (u3_ 0).toInt ∧ (u3_ 0).toInt ≤ 26) ∧ (zcp f1 (a3_ 0) 16 (u3_ 0).toInt) ∧ ((u3_ 0).toInt ≤ 26) ∧ (16 ≤ (u3_ 0).toInt)) (fun ls u3_ w3_ => F0 m 3 ls []) 0 0 ?_ (fun hJ3 => ?_)
  · skip
    intro H locs ls u3_ w3_ a3_ b3_ hc hJ3
    obtain ⟨hP, hD, hS, hl, b_, hI3_0, b_, b_⟩ := hc
    refine lv_iload_n hx hb dX5_clearBody_3 rfl (lv_at hl 1 rfl) ?_
    refine lv_bipush (v := 26) hx hb dX5_clearBody_4 (by decide) ?_
    refine lv_icmp_ge (tgt := 22) hx hb dX5_clearBody_6 (by decide) (fun c_ => ?_) (fun c_ => ?_)
    · skip
      have b_ := zT_ge rfl zk_26 c_
      refine W.widen (k := 0) (n := 0) (by decide) (by decide) ?_
      have hpost : True := trivial
      have hP9 : va_P (dC, dI) vwCl [(h0, .inr (5, mX5 h1)), (h1, zi k1 26 (a3_ 0))] H := hP
      have hD9 : va_D A [(h0, .inr (5, mX5 h1)), (h1, zi k1 26 (a3_ 0))] := hD
      have hB0 : zclr f1 (a3_ 0) 512 832 := by exact zclr_e (a := 16) (b := 26) hI3_0 rfl (by omega) (by omega)
      exact W.vret hx hb hr (fun t ht hW => ⟨⟨(fun _ => 0), rfl, hpost, (fun _ => 0), (fun i => ([(a3_ 0)] : List (Nat → Int32)).getD i (fun _ => 0)), (fun _ => (fun _ => 0)), hB0, by rw [ht]; exact hP9, va_K.moved hW.alike hK, hD9⟩, hS.F ht⟩) hS.2.2 dX5_clearBody_22
    · skip
      have b_ := zF_ge rfl zk_26 c_
      refine lv_aload_n hx hb dX5_clearBody_9 rfl (lv_at hl 0 rfl) ?_
      refine va_get (D := (dC, dI)) (ci := 5) (v := .ref h1) (C := RX5) (T := TX5) (N := 1) hx hb hG zuX5 hown hK hP 0 rfl rfl 0 (by decide) (hG _ zv458) (fun _ h9 => h9) rfl dX5_clearBody_10 ?_
      refine lv_iload_n hx hb dX5_clearBody_13 rfl (lv_at hl 1 rfl) ?_
      refine lv_iconst (v := 0) hx hb dX5_clearBody_14 (by decide) ?_
      refine va_iast hx hb hK hP hD hS 1 0 rfl rfl (zin_lit ⟨by omega, by omega⟩) dX5_clearBody_15 (fun H locs hP hD hS => ?_)
      obtain ⟨f_15, e_f_15⟩ : ∃ z : Nat → Int32, z = upd (a3_ 0) ((u3_ 0) : Int32).toNatClampNeg 0 := ⟨_, rfl⟩
      have hP : va_P (dC, dI) vwCl [(h0, .inr (5, mX5 h1)), (h1, zi k1 26 f_15)] H := by rw [e_f_15]; exact hP
      have hD : va_D A [(h0, .inr (5, mX5 h1)), (h1, zi k1 26 f_15)] := by rw [e_f_15]; exact hD
      obtain ⟨z16, e_z16⟩ : ∃ z : Int32, z = (u3_ 0) + Int32.ofInt 1 := ⟨_, rfl⟩
      have b_ := zadd (x := (u3_ 0)) (y := Int32.ofInt 1) rfl (show (Int32.ofInt 1).toInt = 1 from by decide) e_z16 (by omega) (by omega)
      refine lv_iinc (v := z16) (lv' := [(1, .int z16), (0, .ref h0)]) hx hb dX5_clearBody_16 hl (k := 1) rfl e_z16.symm (by decide) rfl (fun ls hl => ?_)
      refine lv_goto (tgt := 3) hx hb dX5_clearBody_19 (by decide) ?_
      have hc : va_P (dC, dI) vwCl [(h0, .inr (5, mX5 h1)), (h1, zi k1 26 f_15)] H ∧ va_D A [(h0, .inr (5, mX5 h1)), (h1, zi k1 26 f_15)] ∧ va_S A s.heap H locs ∧ lv_has ls 2 [(0, .ref h0), (1, .int z16)] ∧ (16 ≤ z16.toInt ∧ z16.toInt ≤ 26) ∧ (zcp f1 f_15 16 z16.toInt) ∧ (z16.toInt ≤ 26) ∧ (16 ≤ z16.toInt) := ⟨hP, hD, hS, lv_sub hl [1, 0] rfl, (by first | with_reducible assumption | exact ⟨by omega, by omega⟩), by first | exact zcp_s hI3_0 (by omega) (by omega) e_f_15 (by omega) | exact zcp_0 (by decide), by omega, by omega⟩
      exact hJ3 H locs ls (fun i => ([z16] : List (Int32)).getD i 0) (fun _ => 0) (fun i => ([f_15] : List (Nat → Int32)).getD i (fun _ => 0)) (fun _ => (fun _ => 0)) hc (show (26 - z16.toInt).toNat < (26 - (u3_ 0).toInt).toNat from by omega)
  · skip
    have hc : va_P (dC, dI) vwCl [(h0, .inr (5, mX5 h1)), (h1, zi k1 26 f1)] s.heap ∧ va_D A [(h0, .inr (5, mX5 h1)), (h1, zi k1 26 f1)] ∧ va_S A s.heap s.heap [] ∧ lv_has ls 2 [(0, .ref h0), (1, .int 16)] ∧ (16 ≤ (16 : Int32).toInt ∧ (16 : Int32).toInt ≤ 26) ∧ (zcp f1 f1 16 (16 : Int32).toInt) ∧ ((16 : Int32).toInt ≤ 26) ∧ (16 ≤ (16 : Int32).toInt) := ⟨hP, hD, hS, lv_sub hl [1, 0] rfl, (by first | with_reducible assumption | exact ⟨by omega, by omega⟩), by first | exact zcp_s hI3_0 (by omega) (by omega) e_f_15 (by omega) | exact zcp_0 (by decide), by omega, by omega⟩
    exact hJ3 s.heap [] ls (fun i => ([16] : List (Int32)).getD i 0) (fun _ => 0) (fun i => ([f1] : List (Nat → Int32)).getD i (fun _ => 0)) (fun _ => (fun _ => 0)) hc
set_option maxHeartbeats 8000000 in
set_option maxRecDepth 100000 in
theorem sX3_gather_0 (l : Launch) (dC : Nat → ClassId) (dI : Nat → Nat → Nat) (adK adV : Nat → Nat) (h30 : Nat) (h31 : Nat) (h0 : Nat) (h17 : Nat) (h21 : Nat) (h18 : Nat) (h19 : Nat) (h20 : Nat) (h29 : Nat) (h28 : Nat) (h23 : Nat) (h1 : Nat) (h8 : Nat) (h25 : Nat) (h26 : Nat) (h27 : Nat) (h22 : Nat) (h24 : Nat) (k31 : ClassId) (k21 : ClassId) (k18 : ClassId) (k19 : ClassId) (k20 : ClassId) (k29 : ClassId) (k28 : ClassId) (k23 : ClassId) (sz : Nat) (f31 : Nat → Int32) (v0 : Nat → Int32) (v17 : Nat → Int32) (f21 : Nat → Int32) (f18 : Nat → Int32) (f19 : Nat → Int32) (f20 : Nat → Int32) (f29 : Nat → Int32) (f28 : Nat → Int32) (f23 : Nat → Int32) (x1 : Int32) (hv0 : zR rg_Page v0) (hv17 : zR rg_Query v17) (hf29 : zA 0 831 f29) (hx1 : 0 ≤ x1.toInt ∧ x1.toInt ≤ 39) : Met l yX3_gather (zw yX3_gather cX3_gather 4 none) { frames := 3, cells := 0, slots := 0, locals := 73 } (zPc dC dI adK adV [.ref h0, .int x1, .ref h30] sz [(h30, .inr (5, mX5 h31)), (h31, zi k31 26 f31), (h0, .inr (3, mX3 h1 h8 h17 h25 h26 h27 h28 h29 v0)), (h17, .inr (7, mX7 h18 h19 h20 h21 h22 h23 h24 v17)), (h21, zi k21 40 f21), (h18, zi k18 40 f18), (h19, zi k19 40 f19), (h20, zi k20 40 f20), (h29, zi k29 300 f29), (h28, zi k28 832 f28), (h23, zi k23 160 f23)] [(k31, .int), (k21, .int), (k18, .int), (k19, .int), (k20, .int), (k29, .int), (k28, .int), (k23, .int)]) (va_Qv (fun (u : Nat → Int32) => True) (fun (u : Nat → Int32) (t : State) => ∃ (ww : Nat → Int64) (aa : Nat → Nat → Int32) (bb : Nat → Nat → Int64), (zGh f28 f29 f18 f19 f20 f23 f21 (v17 8).toInt (v0 9).toInt ((x1 : Int32)).toNatClampNeg (aa 0)) ∧ va_P (dC, dI) vwCl [(h30, .inr (5, mX5 h31)), (h31, zi k31 26 (aa 0)), (h0, .inr (3, mX3 h1 h8 h17 h25 h26 h27 h28 h29 v0)), (h17, .inr (7, mX7 h18 h19 h20 h21 h22 h23 h24 v17)), (h21, zi k21 40 f21), (h18, zi k18 40 f18), (h19, zi k19 40 f19), (h20, zi k20 40 f20), (h29, zi k29 300 f29), (h28, zi k28 832 f28), (h23, zi k23 160 f23)] t.heap ∧ va_K (dC, dI) vwCl [(k31, .int), (k21, .int), (k18, .int), (k19, .int), (k20, .int), (k29, .int), (k28, .int), (k23, .int)] t ∧ va_D (va_A [(h30, .inr (5, mX5 h31)), (h31, zi k31 26 f31), (h0, .inr (3, mX3 h1 h8 h17 h25 h26 h27 h28 h29 v0)), (h17, .inr (7, mX7 h18 h19 h20 h21 h22 h23 h24 v17)), (h21, zi k21 40 f21), (h18, zi k18 40 f18), (h19, zi k19 40 f19), (h20, zi k20 40 f20), (h29, zi k29 300 f29), (h28, zi k28 832 f28), (h23, zi k23 160 f23)] sz) [(h30, .inr (5, mX5 h31)), (h31, zi k31 26 (aa 0)), (h0, .inr (3, mX3 h1 h8 h17 h25 h26 h27 h28 h29 v0)), (h17, .inr (7, mX7 h18 h19 h20 h21 h22 h23 h24 v17)), (h21, zi k21 40 f21), (h18, zi k18 40 f18), (h19, zi k19 40 f19), (h20, zi k20 40 f20), (h29, zi k29 300 f29), (h28, zi k28 832 f28), (h23, zi k23 160 f23)]) (va_A [(h30, .inr (5, mX5 h31)), (h31, zi k31 26 f31), (h0, .inr (3, mX3 h1 h8 h17 h25 h26 h27 h28 h29 v0)), (h17, .inr (7, mX7 h18 h19 h20 h21 h22 h23 h24 v17)), (h21, zi k21 40 f21), (h18, zi k18 40 f18), (h19, zi k19 40 f19), (h20, zi k20 40 f20), (h29, zi k29 300 f29), (h28, zi k28 832 f28), (h23, zi k23 160 f23)] sz)) 0 0 (va_A [(h30, .inr (5, mX5 h31)), (h31, zi k31 26 f31), (h0, .inr (3, mX3 h1 h8 h17 h25 h26 h27 h28 h29 v0)), (h17, .inr (7, mX7 h18 h19 h20 h21 h22 h23 h24 v17)), (h21, zi k21 40 f21), (h18, zi k18 40 f18), (h19, zi k19 40 f19), (h20, zi k20 40 f20), (h29, zi k29 300 f29), (h28, zi k28 832 f28), (h23, zi k23 160 f23)] sz) := by
  refine Met.ofW (cc := cX3_gather) (maxL := 4) (ret := none) (by decide) rfl ?_
  intro p e s m args below meth c s₁ B hml hv
  obtain ⟨rfl, hsz, hP, hK, hD0, hE, hZ⟩ := hv
  have hx := B.exec
  have hb := B.bytes
  have hr := B.returns
  have hG : ∀ w ∈ zG, w.before _ s = true := fun w h => atoms_spec (ws := (zw yX3_gather cX3_gather 4 none)) B.pre w (List.mem_cons_of_mem _ h)
  have hown : s.vm.findClass RX3 = some m.cls := findClass_of_methodNamed B.named
  have hlocks := B.notSynchronized

  subst hsz
  have hD := hD0.self (sz := s.heap.size)
  generalize hAe : va_A [(h30, .inr (5, mX5 h31)), (h31, zi k31 26 f31), (h0, .inr (3, mX3 h1 h8 h17 h25 h26 h27 h28 h29 v0)), (h17, .inr (7, mX7 h18 h19 h20 h21 h22 h23 h24 v17)), (h21, zi k21 40 f21), (h18, zi k18 40 f18), (h19, zi k19 40 f19), (h20, zi k20 40 f20), (h29, zi k29 300 f29), (h28, zi k28 832 f28), (h23, zi k23 160 f23)] s.heap.size = A at hD hZ ⊢
  have hA : ∀ q : Nat, s.heap.size ≤ q → A q := fun q h => by rw [← hAe]; exact Or.inr h
  have hS : va_S A s.heap s.heap [] := va_S.rf
  have hl := lv_entry ([.ref h0, .int x1, .ref h30]) (n := 4) (Nat.le_of_ble_eq_true rfl)
  rw [lg_entry_eq]
  generalize (lg_sl ([.ref h0, .int x1, .ref h30]) ++ List.replicate (4 - (lg_sl ([.ref h0, .int x1, .ref h30])).length) Slot.unset).toArray = ls at hl ⊢
  have hl : lv_has ls 4 [(0, .ref h0), (1, .int x1), (2, .ref h30)] := hl
  refine lv_aload_n hx hb dX3_gather_0 rfl (lv_at hl 2 rfl) ?_
  have hPc := hP.sub (ws' := [(h30, .inr (5, mX5 h31)), (h31, zi k31 26 f31)]) [0, 1] rfl
  have hDc := hD.sub (ws' := [(h30, .inr (5, mX5 h31)), (h31, zi k31 26 f31)]) [0, 1] (by decide) rfl
  have hKc := hK.sub (tys' := [(k31, .int)]) [0] rfl
  have hFc := va_free (wc := [(h30, .inr (5, mX5 h31)), (h31, zi k31 26 f31)]) hD hS hA [0, 1] rfl
  refine va_callv (va_runV (As := []) (rest := []) ⟨hx, hb, hml, hown, hG⟩ (sX5_clear_0 l dC dI adK adV h30 h31 k31 s.heap.size f31) (cwV 0 hG (zgV zv1251 zv1252 zv1253 zv139 zv1254) rfl rfl rfl (by decide +kernel) ⟨Nat.le_of_ble_eq_true rfl, Nat.le_of_ble_eq_true rfl⟩) ⟨zPc_blind, va_recv hKc hPc (ci := 5) (q0 := 0) rfl rfl, zPc_pre hPc hKc hDc hE hS hFc hZ⟩ rfl rfl hl.1 rfl (lv_room (Nat.le_of_ble_eq_true rfl)) dX3_gather_1 ⟨Nat.le_of_ble_eq_true rfl, Nat.le_of_ble_eq_true rfl⟩) hS (fun q _ h => hFc q h) hFc (fun u1_ t H1 locs ht hvm hw hB hz1 hk1 hS => ?_)
  obtain ⟨w1_, a1_, b1_, hB1_0, hP1, hK1, hD1⟩ := hB
  have hB1_0 : ∀ q : Nat, q < 832 → zpb (a1_ 0) q = false := hB1_0
  rw [ht] at hP1
  obtain ⟨hP, hD⟩ := va_join (wr := [(h0, .inr (3, mX3 h1 h8 h17 h25 h26 h27 h28 h29 v0)), (h17, .inr (7, mX7 h18 h19 h20 h21 h22 h23 h24 v17)), (h21, zi k21 40 f21), (h18, zi k18 40 f18), (h19, zi k19 40 f19), (h20, zi k20 40 f20), (h29, zi k29 300 f29), (h28, zi k28 832 f28), (h23, zi k23 160 f23)]) (w1 := [(h30, .inr (5, mX5 h31)), (h31, zi k31 26 (a1_ 0))]) hP hD [0, 1] [2, 3, 4, 5, 6, 7, 8, 9, 10] rfl rfl (by decide) (by decide) hk1 hFc hP1 hD1
  have hP : va_P (dC, dI) vwCl [(h30, .inr (5, mX5 h31)), (h31, zi k31 26 (a1_ 0)), (h0, .inr (3, mX3 h1 h8 h17 h25 h26 h27 h28 h29 v0)), (h17, .inr (7, mX7 h18 h19 h20 h21 h22 h23 h24 v17)), (h21, zi k21 40 f21), (h18, zi k18 40 f18), (h19, zi k19 40 f19), (h20, zi k20 40 f20), (h29, zi k29 300 f29), (h28, zi k28 832 f28), (h23, zi k23 160 f23)] H1 := hP.sub [9, 10, 0, 1, 2, 3, 4, 5, 6, 7, 8] rfl
  have hD : va_D A [(h30, .inr (5, mX5 h31)), (h31, zi k31 26 (a1_ 0)), (h0, .inr (3, mX3 h1 h8 h17 h25 h26 h27 h28 h29 v0)), (h17, .inr (7, mX7 h18 h19 h20 h21 h22 h23 h24 v17)), (h21, zi k21 40 f21), (h18, zi k18 40 f18), (h19, zi k19 40 f19), (h20, zi k20 40 f20), (h29, zi k29 300 f29), (h28, zi k28 832 f28), (h23, zi k23 160 f23)] := hD.sub [9, 10, 0, 1, 2, 3, 4, 5, 6, 7, 8] (by decide) rfl
  generalize H1 = H at hP hS ⊢
  clear hz1
  refine lv_aload_n hx hb dX3_gather_4 rfl (lv_at hl 0 rfl) ?_
  refine va_get (D := (dC, dI)) (ci := 3) (v := .ref h17) (C := RX3) (T := TX3) (N := 10) hx hb hG zuX3 hown hK hP 2 rfl rfl 2 (by decide) (hG _ zv475) (fun _ h9 => h9) rfl dX3_gather_5 ?_
  refine lv_iload_n hx hb dX3_gather_8 rfl (lv_at hl 1 rfl) ?_
  have hPc := hP.sub (ws' := [(h17, .inr (7, mX7 h18 h19 h20 h21 h22 h23 h24 v17)), (h21, zi k21 40 f21)]) [3, 4] rfl
  have hDc := hD.sub (ws' := [(h17, .inr (7, mX7 h18 h19 h20 h21 h22 h23 h24 v17)), (h21, zi k21 40 f21)]) [3, 4] (by decide) rfl
  have hKc := hK.sub (tys' := [(k21, .int)]) [1] rfl
  have hFc := va_free (wc := [(h17, .inr (7, mX7 h18 h19 h20 h21 h22 h23 h24 v17)), (h21, zi k21 40 f21)]) hD hS hA [3, 4] rfl
  refine va_calli (va_runV (As := [.int x1]) (rest := []) ⟨hx, hb, hml, hown, hG⟩ (sX7_sidesOf_0 l dC dI adK adV h17 h21 h18 h19 h20 h22 h23 h24 k21 H.size v17 f21 x1 hv17) (cwV 1 hG (zgV zv1256 zv1257 zv1258 zv136 zv1259) rfl rfl rfl (by decide +kernel) ⟨Nat.le_of_ble_eq_true rfl, Nat.le_of_ble_eq_true rfl⟩) ⟨zPc_blind, va_recv hKc hPc (ci := 7) (q0 := 0) rfl rfl, zPc_pre hPc hKc hDc hE hS hFc hZ⟩ rfl rfl hl.1 rfl (lv_room (Nat.le_of_ble_eq_true rfl)) dX3_gather_9 ⟨Nat.le_of_ble_eq_true rfl, Nat.le_of_ble_eq_true rfl⟩) hS (fun q _ h => hFc q h) hFc (fun r9_ u9_ t H1 locs ht hvm hw hB hz1 hk1 hS => ?_)
  replace hw : (0 ≤ x1.toInt ∧ x1.toInt ≤ 39 → r9_.toInt = (f21 ((x1 : Int32)).toNatClampNeg).toInt) := hw
  have hX9_0 := hw
  obtain ⟨w9_, a9_, b9_, hP1, hK1, hD1⟩ := hB
  rw [ht] at hP1
  obtain ⟨hP, hD⟩ := va_join (wr := [(h30, .inr (5, mX5 h31)), (h31, zi k31 26 (a1_ 0)), (h0, .inr (3, mX3 h1 h8 h17 h25 h26 h27 h28 h29 v0)), (h18, zi k18 40 f18), (h19, zi k19 40 f19), (h20, zi k20 40 f20), (h29, zi k29 300 f29), (h28, zi k28 832 f28), (h23, zi k23 160 f23)]) (w1 := [(h17, .inr (7, mX7 h18 h19 h20 h21 h22 h23 h24 v17)), (h21, zi k21 40 f21)]) hP hD [3, 4] [0, 1, 2, 5, 6, 7, 8, 9, 10] rfl rfl (by decide) (by decide) hk1 hFc hP1 hD1
  have hP : va_P (dC, dI) vwCl [(h30, .inr (5, mX5 h31)), (h31, zi k31 26 (a1_ 0)), (h0, .inr (3, mX3 h1 h8 h17 h25 h26 h27 h28 h29 v0)), (h17, .inr (7, mX7 h18 h19 h20 h21 h22 h23 h24 v17)), (h21, zi k21 40 f21), (h18, zi k18 40 f18), (h19, zi k19 40 f19), (h20, zi k20 40 f20), (h29, zi k29 300 f29), (h28, zi k28 832 f28), (h23, zi k23 160 f23)] H1 := hP.sub [0, 1, 2, 9, 10, 3, 4, 5, 6, 7, 8] rfl
  have hD : va_D A [(h30, .inr (5, mX5 h31)), (h31, zi k31 26 (a1_ 0)), (h0, .inr (3, mX3 h1 h8 h17 h25 h26 h27 h28 h29 v0)), (h17, .inr (7, mX7 h18 h19 h20 h21 h22 h23 h24 v17)), (h21, zi k21 40 f21), (h18, zi k18 40 f18), (h19, zi k19 40 f19), (h20, zi k20 40 f20), (h29, zi k29 300 f29), (h28, zi k28 832 f28), (h23, zi k23 160 f23)] := hD.sub [0, 1, 2, 9, 10, 3, 4, 5, 6, 7, 8] (by decide) rfl
  generalize H1 = H at hP hS ⊢
  clear hz1
  refine lv_istore_n (lv' := [(3, .int r9_), (0, .ref h0), (1, .int x1), (2, .ref h30)]) hx hb dX3_gather_12 rfl hl (by decide) rfl (fun ls hl => ?_)
  refine lv_aload_n hx hb dX3_gather_13 rfl (lv_at hl 1 rfl) ?_
  refine va_get (D := (dC, dI)) (ci := 3) (v := .ref h17) (C := RX3) (T := TX3) (N := 10) hx hb hG zuX3 hown hK hP 2 rfl rfl 2 (by decide) (hG _ zv475) (fun _ h9 => h9) rfl dX3_gather_14 ?_
  refine lv_iload_n hx hb dX3_gather_17 rfl (lv_at hl 2 rfl) ?_
  have hPc := hP.sub (ws' := [(h17, .inr (7, mX7 h18 h19 h20 h21 h22 h23 h24 v17)), (h18, zi k18 40 f18)]) [3, 5] rfl
  have hDc := hD.sub (ws' := [(h17, .inr (7, mX7 h18 h19 h20 h21 h22 h23 h24 v17)), (h18, zi k18 40 f18)]) [3, 5] (by decide) rfl
  have hKc := hK.sub (tys' := [(k18, .int)]) [2] rfl
  have hFc := va_free (wc := [(h17, .inr (7, mX7 h18 h19 h20 h21 h22 h23 h24 v17)), (h18, zi k18 40 f18)]) hD hS hA [3, 5] rfl
  refine va_calli (va_runV (As := [.int x1]) (rest := []) ⟨hx, hb, hml, hown, hG⟩ (sX7_kindOf_0 l dC dI adK adV h17 h18 h19 h20 h21 h22 h23 h24 k18 H.size v17 f18 x1 hv17) (cwV 1 hG (zgV zv1184 zv1185 zv1186 zv136 zv1187) rfl rfl rfl (by decide +kernel) ⟨Nat.le_of_ble_eq_true rfl, Nat.le_of_ble_eq_true rfl⟩) ⟨zPc_blind, va_recv hKc hPc (ci := 7) (q0 := 0) rfl rfl, zPc_pre hPc hKc hDc hE hS hFc hZ⟩ rfl rfl hl.1 rfl (lv_room (Nat.le_of_ble_eq_true rfl)) dX3_gather_18 ⟨Nat.le_of_ble_eq_true rfl, Nat.le_of_ble_eq_true rfl⟩) hS (fun q _ h => hFc q h) hFc (fun r18_ u18_ t H1 locs ht hvm hw hB hz1 hk1 hS => ?_)
  replace hw : (0 ≤ x1.toInt ∧ x1.toInt ≤ 39 → r18_.toInt = (f18 ((x1 : Int32)).toNatClampNeg).toInt) := hw
  have hX18_0 := hw
  obtain ⟨w18_, a18_, b18_, hP1, hK1, hD1⟩ := hB
  rw [ht] at hP1
  obtain ⟨hP, hD⟩ := va_join (wr := [(h30, .inr (5, mX5 h31)), (h31, zi k31 26 (a1_ 0)), (h0, .inr (3, mX3 h1 h8 h17 h25 h26 h27 h28 h29 v0)), (h21, zi k21 40 f21), (h19, zi k19 40 f19), (h20, zi k20 40 f20), (h29, zi k29 300 f29), (h28, zi k28 832 f28), (h23, zi k23 160 f23)]) (w1 := [(h17, .inr (7, mX7 h18 h19 h20 h21 h22 h23 h24 v17)), (h18, zi k18 40 f18)]) hP hD [3, 5] [0, 1, 2, 4, 6, 7, 8, 9, 10] rfl rfl (by decide) (by decide) hk1 hFc hP1 hD1
  have hP : va_P (dC, dI) vwCl [(h30, .inr (5, mX5 h31)), (h31, zi k31 26 (a1_ 0)), (h0, .inr (3, mX3 h1 h8 h17 h25 h26 h27 h28 h29 v0)), (h17, .inr (7, mX7 h18 h19 h20 h21 h22 h23 h24 v17)), (h21, zi k21 40 f21), (h18, zi k18 40 f18), (h19, zi k19 40 f19), (h20, zi k20 40 f20), (h29, zi k29 300 f29), (h28, zi k28 832 f28), (h23, zi k23 160 f23)] H1 := hP.sub [0, 1, 2, 9, 3, 10, 4, 5, 6, 7, 8] rfl
  have hD : va_D A [(h30, .inr (5, mX5 h31)), (h31, zi k31 26 (a1_ 0)), (h0, .inr (3, mX3 h1 h8 h17 h25 h26 h27 h28 h29 v0)), (h17, .inr (7, mX7 h18 h19 h20 h21 h22 h23 h24 v17)), (h21, zi k21 40 f21), (h18, zi k18 40 f18), (h19, zi k19 40 f19), (h20, zi k20 40 f20), (h29, zi k29 300 f29), (h28, zi k28 832 f28), (h23, zi k23 160 f23)] := hD.sub [0, 1, 2, 9, 3, 10, 4, 5, 6, 7, 8] (by decide) rfl
  generalize H1 = H at hP hS ⊢
  clear hz1
  have hk18 := hX18_0 ⟨by omega, by omega⟩
  refine lv_iconst (v := 3) hx hb dX3_gather_21 (by decide) ?_
  refine zcutW (fun H locs ls u82_ w82_ a82_ b82_ => va_P (dC, dI) vwCl [(h30, .inr (5, mX5 h31)), (h31, zi k31 26 (a82_ 0)), (h0, .inr (3, mX3 h1 h8 h17 h25 h26 h27 h28 h29 v0)), (h17, .inr (7, mX7 h18 h19 h20 h21 h22 h23 h24 v17)), (h21, zi k21 40 f21), (h18, zi k18 40 f18), (h19, zi k19 40 f19), (h20, zi k20 40 f20), (h29, zi k29 300 f29), (h28, zi k28 832 f28), (h23, zi k23 160 f23)] H ∧ va_D A [(h30, .inr (5, mX5 h31)), (h31, zi k31 26 (a82_ 0)), (h0, .inr (3, mX3 h1 h8 h17 h25 h26 h27 h28 h29 v0)), (h17, .inr (7, mX7 h18 h19 h20 h21 h22 h23 h24 v17)), (h21, zi k21 40 f21), (h18, zi k18 40 f18), (h19, zi k19 40 f19), (h20, zi k20 40 f20), (h29, zi k29 300 f29), (h28, zi k28 832 f28), (h23, zi k23 160 f23)] ∧ va_S A s.heap H locs ∧ lv_has ls 4 [(0, .ref h0), (1, .int x1), (2, .ref h30), (3, .int r9_)] ∧ (zGg f28 f29 f18 f19 f20 f23 (v17 8).toInt (v0 9).toInt ((x1 : Int32)).toNatClampNeg (a82_ 0))) (fun ls u82_ w82_ => F0 m 82 ls []) 0 0 ?_ (fun hJ82 => ?_)
  · skip
    intro H locs ls u82_ w82_ a82_ b82_ hc
    obtain ⟨hP, hD, hS, hl, hI82_0⟩ := hc
    refine lv_iload_n hx hb dX3_gather_82 rfl (lv_at hl 3 rfl) ?_
    refine lv_iconst (v := 1) hx hb dX3_gather_83 (by decide) ?_
    have b_ : -2147483648 ≤ r9_.toInt ∧ r9_.toInt ≤ 2147483647 := ⟨zlo _, zhi _⟩
    refine lv_iand hx hb dX3_gather_84 ?_
    refine lv_topi (fun z84 e_z84 => ?_)
    have b_ := zand (x := r9_) zk_1 e_z84 (by decide)
    refine zcutW (fun H locs ls u92_ w92_ a92_ b92_ => va_P (dC, dI) vwCl [(h30, .inr (5, mX5 h31)), (h31, zi k31 26 (a92_ 0)), (h0, .inr (3, mX3 h1 h8 h17 h25 h26 h27 h28 h29 v0)), (h17, .inr (7, mX7 h18 h19 h20 h21 h22 h23 h24 v17)), (h21, zi k21 40 f21), (h18, zi k18 40 f18), (h19, zi k19 40 f19), (h20, zi k20 40 f20), (h29, zi k29 300 f29), (h28, zi k28 832 f28), (h23, zi k23 160 f23)] H ∧ va_D A [(h30, .inr (5, mX5 h31)), (h31, zi k31 26 (a92_ 0)), (h0, .inr (3, mX3 h1 h8 h17 h25 h26 h27 h28 h29 v0)), (h17, .inr (7, mX7 h18 h19 h20 h21 h22 h23 h24 v17)), (h21, zi k21 40 f21), (h18, zi k18 40 f18), (h19, zi k19 40 f19), (h20, zi k20 40 f20), (h29, zi k29 300 f29), (h28, zi k28 832 f28), (h23, zi k23 160 f23)] ∧ va_S A s.heap H locs ∧ lv_has ls 4 [(0, .ref h0), (1, .int x1), (2, .ref h30), (3, .int r9_)] ∧ (0 ≤ z84.toInt ∧ z84.toInt ≤ 1) ∧ (zG1 f28 f29 f18 f19 f20 f23 f21 (v17 8).toInt (v0 9).toInt ((x1 : Int32)).toNatClampNeg (a92_ 0))) (fun ls u92_ w92_ => F0 m 92 ls []) 0 0 ?_ (fun hJ92 => ?_)
    · skip
      intro H locs ls u92_ w92_ a92_ b92_ hc
      obtain ⟨hP, hD, hS, hl, b_, hI92_0⟩ := hc
      refine lv_iload_n hx hb dX3_gather_92 rfl (lv_at hl 3 rfl) ?_
      refine lv_iconst (v := 2) hx hb dX3_gather_93 (by decide) ?_
      refine lv_iand hx hb dX3_gather_94 ?_
      refine lv_topi (fun z94 e_z94 => ?_)
      have b_ := zand (x := r9_) zk_2 e_z94 (by decide)
      refine lv_if_ne (tgt := 102) hx hb dX3_gather_95 (by decide) (fun c_ => ?_) (fun c_ => ?_)
      · skip
        have b_ := zT_ne rfl zk_0 c_
        refine W.widen (k := 0) (n := 0) (by decide) (by decide) ?_
        have hpost : True := trivial
        have hP9 : va_P (dC, dI) vwCl [(h30, .inr (5, mX5 h31)), (h31, zi k31 26 (a92_ 0)), (h0, .inr (3, mX3 h1 h8 h17 h25 h26 h27 h28 h29 v0)), (h17, .inr (7, mX7 h18 h19 h20 h21 h22 h23 h24 v17)), (h21, zi k21 40 f21), (h18, zi k18 40 f18), (h19, zi k19 40 f19), (h20, zi k20 40 f20), (h29, zi k29 300 f29), (h28, zi k28 832 f28), (h23, zi k23 160 f23)] H := hP
        have hD9 : va_D A [(h30, .inr (5, mX5 h31)), (h31, zi k31 26 (a92_ 0)), (h0, .inr (3, mX3 h1 h8 h17 h25 h26 h27 h28 h29 v0)), (h17, .inr (7, mX7 h18 h19 h20 h21 h22 h23 h24 v17)), (h21, zi k21 40 f21), (h18, zi k18 40 f18), (h19, zi k19 40 f19), (h20, zi k20 40 f20), (h29, zi k29 300 f29), (h28, zi k28 832 f28), (h23, zi k23 160 f23)] := hD
        have hB0 : zGh f28 f29 f18 f19 f20 f23 f21 (v17 8).toInt (v0 9).toInt ((x1 : Int32)).toNatClampNeg (a92_ 0) := by first | exact zGh_n hI92_0 (hX9_0 ⟨by omega, by omega⟩) e_z94 (by omega) | exact zGh_y hI92_0 hB99_0 (hX9_0 ⟨by omega, by omega⟩) e_z94 (by omega)
        exact W.vret hx hb hr (fun t ht hW => ⟨⟨(fun _ => 0), rfl, hpost, (fun _ => 0), (fun i => ([(a92_ 0)] : List (Nat → Int32)).getD i (fun _ => 0)), (fun _ => (fun _ => 0)), hB0, by rw [ht]; exact hP9, va_K.moved hW.alike hK, hD9⟩, hS.F ht⟩) hS.2.2 dX3_gather_102
      · skip
        have b_ := zF_ne rfl zk_0 c_
        refine lv_aload_n hx hb dX3_gather_98 rfl (lv_at hl 2 rfl) ?_
        have hPc := hP.sub (ws' := [(h30, .inr (5, mX5 h31)), (h31, zi k31 26 (a92_ 0))]) [0, 1] rfl
        have hDc := hD.sub (ws' := [(h30, .inr (5, mX5 h31)), (h31, zi k31 26 (a92_ 0))]) [0, 1] (by decide) rfl
        have hKc := hK.sub (tys' := [(k31, .int)]) [0] rfl
        have hFc := va_free (wc := [(h30, .inr (5, mX5 h31)), (h31, zi k31 26 (a92_ 0))]) hD hS hA [0, 1] rfl
        refine va_callv (va_runV (As := []) (rest := []) ⟨hx, hb, hml, hown, hG⟩ (sX5_clearBody_0 l dC dI adK adV h30 h31 k31 H.size (a92_ 0)) (cwV 0 hG (zgV zv1284 zv1285 zv1286 zv139 zv1287) rfl rfl rfl (by decide +kernel) ⟨Nat.le_of_ble_eq_true rfl, Nat.le_of_ble_eq_true rfl⟩) ⟨zPc_blind, va_recv hKc hPc (ci := 5) (q0 := 0) rfl rfl, zPc_pre hPc hKc hDc hE hS hFc hZ⟩ rfl rfl hl.1 rfl (lv_room (Nat.le_of_ble_eq_true rfl)) dX3_gather_99 ⟨Nat.le_of_ble_eq_true rfl, Nat.le_of_ble_eq_true rfl⟩) hS (fun q _ h => hFc q h) hFc (fun u99_ t H1 locs ht hvm hw hB hz1 hk1 hS => ?_)
        obtain ⟨w99_, a99_, b99_, hB99_0, hP1, hK1, hD1⟩ := hB
        have hB99_0 : zclr (a92_ 0) (a99_ 0) 512 832 := hB99_0
        rw [ht] at hP1
        obtain ⟨hP, hD⟩ := va_join (wr := [(h0, .inr (3, mX3 h1 h8 h17 h25 h26 h27 h28 h29 v0)), (h17, .inr (7, mX7 h18 h19 h20 h21 h22 h23 h24 v17)), (h21, zi k21 40 f21), (h18, zi k18 40 f18), (h19, zi k19 40 f19), (h20, zi k20 40 f20), (h29, zi k29 300 f29), (h28, zi k28 832 f28), (h23, zi k23 160 f23)]) (w1 := [(h30, .inr (5, mX5 h31)), (h31, zi k31 26 (a99_ 0))]) hP hD [0, 1] [2, 3, 4, 5, 6, 7, 8, 9, 10] rfl rfl (by decide) (by decide) hk1 hFc hP1 hD1
        have hP : va_P (dC, dI) vwCl [(h30, .inr (5, mX5 h31)), (h31, zi k31 26 (a99_ 0)), (h0, .inr (3, mX3 h1 h8 h17 h25 h26 h27 h28 h29 v0)), (h17, .inr (7, mX7 h18 h19 h20 h21 h22 h23 h24 v17)), (h21, zi k21 40 f21), (h18, zi k18 40 f18), (h19, zi k19 40 f19), (h20, zi k20 40 f20), (h29, zi k29 300 f29), (h28, zi k28 832 f28), (h23, zi k23 160 f23)] H1 := hP.sub [9, 10, 0, 1, 2, 3, 4, 5, 6, 7, 8] rfl
        have hD : va_D A [(h30, .inr (5, mX5 h31)), (h31, zi k31 26 (a99_ 0)), (h0, .inr (3, mX3 h1 h8 h17 h25 h26 h27 h28 h29 v0)), (h17, .inr (7, mX7 h18 h19 h20 h21 h22 h23 h24 v17)), (h21, zi k21 40 f21), (h18, zi k18 40 f18), (h19, zi k19 40 f19), (h20, zi k20 40 f20), (h29, zi k29 300 f29), (h28, zi k28 832 f28), (h23, zi k23 160 f23)] := hD.sub [9, 10, 0, 1, 2, 3, 4, 5, 6, 7, 8] (by decide) rfl
        generalize H1 = H at hP hS ⊢
        clear hz1
        refine W.widen (k := 0) (n := 0) (by decide) (by decide) ?_
        have hpost : True := trivial
        have hP9 : va_P (dC, dI) vwCl [(h30, .inr (5, mX5 h31)), (h31, zi k31 26 (a99_ 0)), (h0, .inr (3, mX3 h1 h8 h17 h25 h26 h27 h28 h29 v0)), (h17, .inr (7, mX7 h18 h19 h20 h21 h22 h23 h24 v17)), (h21, zi k21 40 f21), (h18, zi k18 40 f18), (h19, zi k19 40 f19), (h20, zi k20 40 f20), (h29, zi k29 300 f29), (h28, zi k28 832 f28), (h23, zi k23 160 f23)] H := hP
        have hD9 : va_D A [(h30, .inr (5, mX5 h31)), (h31, zi k31 26 (a99_ 0)), (h0, .inr (3, mX3 h1 h8 h17 h25 h26 h27 h28 h29 v0)), (h17, .inr (7, mX7 h18 h19 h20 h21 h22 h23 h24 v17)), (h21, zi k21 40 f21), (h18, zi k18 40 f18), (h19, zi k19 40 f19), (h20, zi k20 40 f20), (h29, zi k29 300 f29), (h28, zi k28 832 f28), (h23, zi k23 160 f23)] := hD
        have hB0 : zGh f28 f29 f18 f19 f20 f23 f21 (v17 8).toInt (v0 9).toInt ((x1 : Int32)).toNatClampNeg (a99_ 0) := by first | exact zGh_n hI92_0 (hX9_0 ⟨by omega, by omega⟩) e_z94 (by omega) | exact zGh_y hI92_0 hB99_0 (hX9_0 ⟨by omega, by omega⟩) e_z94 (by omega)
        exact W.vret hx hb hr (fun t ht hW => ⟨⟨(fun _ => 0), rfl, hpost, (fun _ => 0), (fun i => ([(a99_ 0)] : List (Nat → Int32)).getD i (fun _ => 0)), (fun _ => (fun _ => 0)), hB0, by rw [ht]; exact hP9, va_K.moved hW.alike hK, hD9⟩, hS.F ht⟩) hS.2.2 dX3_gather_102
    · skip
      refine lv_if_ne (tgt := 92) hx hb dX3_gather_85 (by decide) (fun c_ => ?_) (fun c_ => ?_)
      · skip
        have b_ := zT_ne rfl zk_0 c_
        have hc : va_P (dC, dI) vwCl [(h30, .inr (5, mX5 h31)), (h31, zi k31 26 (a82_ 0)), (h0, .inr (3, mX3 h1 h8 h17 h25 h26 h27 h28 h29 v0)), (h17, .inr (7, mX7 h18 h19 h20 h21 h22 h23 h24 v17)), (h21, zi k21 40 f21), (h18, zi k18 40 f18), (h19, zi k19 40 f19), (h20, zi k20 40 f20), (h29, zi k29 300 f29), (h28, zi k28 832 f28), (h23, zi k23 160 f23)] H ∧ va_D A [(h30, .inr (5, mX5 h31)), (h31, zi k31 26 (a82_ 0)), (h0, .inr (3, mX3 h1 h8 h17 h25 h26 h27 h28 h29 v0)), (h17, .inr (7, mX7 h18 h19 h20 h21 h22 h23 h24 v17)), (h21, zi k21 40 f21), (h18, zi k18 40 f18), (h19, zi k19 40 f19), (h20, zi k20 40 f20), (h29, zi k29 300 f29), (h28, zi k28 832 f28), (h23, zi k23 160 f23)] ∧ va_S A s.heap H locs ∧ lv_has ls 4 [(0, .ref h0), (1, .int x1), (2, .ref h30), (3, .int r9_)] ∧ (0 ≤ z84.toInt ∧ z84.toInt ≤ 1) ∧ (zG1 f28 f29 f18 f19 f20 f23 f21 (v17 8).toInt (v0 9).toInt ((x1 : Int32)).toNatClampNeg (a82_ 0)) := ⟨hP, hD, hS, lv_sub hl [0, 1, 2, 3] rfl, (by first | with_reducible assumption | exact ⟨by omega, by omega⟩), by first | exact zG1_n hI82_0 (hX9_0 ⟨by omega, by omega⟩) e_z84 (by omega) | exact zG1_y hI82_0 hB89_0 (hX9_0 ⟨by omega, by omega⟩) e_z84 (by omega)⟩
        exact hJ92 H locs ls (fun _ => 0) (fun _ => 0) (fun i => ([(a82_ 0)] : List (Nat → Int32)).getD i (fun _ => 0)) (fun _ => (fun _ => 0)) hc
      · skip
        have b_ := zF_ne rfl zk_0 c_
        refine lv_aload_n hx hb dX3_gather_88 rfl (lv_at hl 2 rfl) ?_
        have hPc := hP.sub (ws' := [(h30, .inr (5, mX5 h31)), (h31, zi k31 26 (a82_ 0))]) [0, 1] rfl
        have hDc := hD.sub (ws' := [(h30, .inr (5, mX5 h31)), (h31, zi k31 26 (a82_ 0))]) [0, 1] (by decide) rfl
        have hKc := hK.sub (tys' := [(k31, .int)]) [0] rfl
        have hFc := va_free (wc := [(h30, .inr (5, mX5 h31)), (h31, zi k31 26 (a82_ 0))]) hD hS hA [0, 1] rfl
        refine va_callv (va_runV (As := []) (rest := []) ⟨hx, hb, hml, hown, hG⟩ (sX5_clearTitle_0 l dC dI adK adV h30 h31 k31 H.size (a82_ 0)) (cwV 0 hG (zgV zv1280 zv1281 zv1282 zv139 zv1283) rfl rfl rfl (by decide +kernel) ⟨Nat.le_of_ble_eq_true rfl, Nat.le_of_ble_eq_true rfl⟩) ⟨zPc_blind, va_recv hKc hPc (ci := 5) (q0 := 0) rfl rfl, zPc_pre hPc hKc hDc hE hS hFc hZ⟩ rfl rfl hl.1 rfl (lv_room (Nat.le_of_ble_eq_true rfl)) dX3_gather_89 ⟨Nat.le_of_ble_eq_true rfl, Nat.le_of_ble_eq_true rfl⟩) hS (fun q _ h => hFc q h) hFc (fun u89_ t H1 locs ht hvm hw hB hz1 hk1 hS => ?_)
        obtain ⟨w89_, a89_, b89_, hB89_0, hP1, hK1, hD1⟩ := hB
        have hB89_0 : zclr (a82_ 0) (a89_ 0) 0 512 := hB89_0
        rw [ht] at hP1
        obtain ⟨hP, hD⟩ := va_join (wr := [(h0, .inr (3, mX3 h1 h8 h17 h25 h26 h27 h28 h29 v0)), (h17, .inr (7, mX7 h18 h19 h20 h21 h22 h23 h24 v17)), (h21, zi k21 40 f21), (h18, zi k18 40 f18), (h19, zi k19 40 f19), (h20, zi k20 40 f20), (h29, zi k29 300 f29), (h28, zi k28 832 f28), (h23, zi k23 160 f23)]) (w1 := [(h30, .inr (5, mX5 h31)), (h31, zi k31 26 (a89_ 0))]) hP hD [0, 1] [2, 3, 4, 5, 6, 7, 8, 9, 10] rfl rfl (by decide) (by decide) hk1 hFc hP1 hD1
        have hP : va_P (dC, dI) vwCl [(h30, .inr (5, mX5 h31)), (h31, zi k31 26 (a89_ 0)), (h0, .inr (3, mX3 h1 h8 h17 h25 h26 h27 h28 h29 v0)), (h17, .inr (7, mX7 h18 h19 h20 h21 h22 h23 h24 v17)), (h21, zi k21 40 f21), (h18, zi k18 40 f18), (h19, zi k19 40 f19), (h20, zi k20 40 f20), (h29, zi k29 300 f29), (h28, zi k28 832 f28), (h23, zi k23 160 f23)] H1 := hP.sub [9, 10, 0, 1, 2, 3, 4, 5, 6, 7, 8] rfl
        have hD : va_D A [(h30, .inr (5, mX5 h31)), (h31, zi k31 26 (a89_ 0)), (h0, .inr (3, mX3 h1 h8 h17 h25 h26 h27 h28 h29 v0)), (h17, .inr (7, mX7 h18 h19 h20 h21 h22 h23 h24 v17)), (h21, zi k21 40 f21), (h18, zi k18 40 f18), (h19, zi k19 40 f19), (h20, zi k20 40 f20), (h29, zi k29 300 f29), (h28, zi k28 832 f28), (h23, zi k23 160 f23)] := hD.sub [9, 10, 0, 1, 2, 3, 4, 5, 6, 7, 8] (by decide) rfl
        generalize H1 = H at hP hS ⊢
        clear hz1
        have hc : va_P (dC, dI) vwCl [(h30, .inr (5, mX5 h31)), (h31, zi k31 26 (a89_ 0)), (h0, .inr (3, mX3 h1 h8 h17 h25 h26 h27 h28 h29 v0)), (h17, .inr (7, mX7 h18 h19 h20 h21 h22 h23 h24 v17)), (h21, zi k21 40 f21), (h18, zi k18 40 f18), (h19, zi k19 40 f19), (h20, zi k20 40 f20), (h29, zi k29 300 f29), (h28, zi k28 832 f28), (h23, zi k23 160 f23)] H ∧ va_D A [(h30, .inr (5, mX5 h31)), (h31, zi k31 26 (a89_ 0)), (h0, .inr (3, mX3 h1 h8 h17 h25 h26 h27 h28 h29 v0)), (h17, .inr (7, mX7 h18 h19 h20 h21 h22 h23 h24 v17)), (h21, zi k21 40 f21), (h18, zi k18 40 f18), (h19, zi k19 40 f19), (h20, zi k20 40 f20), (h29, zi k29 300 f29), (h28, zi k28 832 f28), (h23, zi k23 160 f23)] ∧ va_S A s.heap H locs ∧ lv_has ls 4 [(0, .ref h0), (1, .int x1), (2, .ref h30), (3, .int r9_)] ∧ (0 ≤ z84.toInt ∧ z84.toInt ≤ 1) ∧ (zG1 f28 f29 f18 f19 f20 f23 f21 (v17 8).toInt (v0 9).toInt ((x1 : Int32)).toNatClampNeg (a89_ 0)) := ⟨hP, hD, hS, lv_sub hl [0, 1, 2, 3] rfl, (by first | with_reducible assumption | exact ⟨by omega, by omega⟩), by first | exact zG1_n hI82_0 (hX9_0 ⟨by omega, by omega⟩) e_z84 (by omega) | exact zG1_y hI82_0 hB89_0 (hX9_0 ⟨by omega, by omega⟩) e_z84 (by omega)⟩
        exact hJ92 H locs ls (fun _ => 0) (fun _ => 0) (fun i => ([(a89_ 0)] : List (Nat → Int32)).getD i (fun _ => 0)) (fun _ => (fun _ => 0)) hc
  · skip
    have b_ : -2147483648 ≤ r18_.toInt ∧ r18_.toInt ≤ 2147483647 := ⟨zlo _, zhi _⟩
    refine lv_icmp_ne (tgt := 49) hx hb dX3_gather_22 (by decide) (fun c_ => ?_) (fun c_ => ?_)
    · skip
      have b_ := zT_ne rfl zk_3 c_
      refine lv_aload_n hx hb dX3_gather_49 rfl (lv_at hl 1 rfl) ?_
      refine va_get (D := (dC, dI)) (ci := 3) (v := .ref h17) (C := RX3) (T := TX3) (N := 10) hx hb hG zuX3 hown hK hP 2 rfl rfl 2 (by decide) (hG _ zv475) (fun _ h9 => h9) rfl dX3_gather_50 ?_
      refine lv_iload_n hx hb dX3_gather_53 rfl (lv_at hl 2 rfl) ?_
      have hPc := hP.sub (ws' := [(h17, .inr (7, mX7 h18 h19 h20 h21 h22 h23 h24 v17)), (h18, zi k18 40 f18)]) [3, 5] rfl
      have hDc := hD.sub (ws' := [(h17, .inr (7, mX7 h18 h19 h20 h21 h22 h23 h24 v17)), (h18, zi k18 40 f18)]) [3, 5] (by decide) rfl
      have hKc := hK.sub (tys' := [(k18, .int)]) [2] rfl
      have hFc := va_free (wc := [(h17, .inr (7, mX7 h18 h19 h20 h21 h22 h23 h24 v17)), (h18, zi k18 40 f18)]) hD hS hA [3, 5] rfl
      refine va_calli (va_runV (As := [.int x1]) (rest := []) ⟨hx, hb, hml, hown, hG⟩ (sX7_kindOf_0 l dC dI adK adV h17 h18 h19 h20 h21 h22 h23 h24 k18 H.size v17 f18 x1 hv17) (cwV 1 hG (zgV zv1184 zv1185 zv1186 zv136 zv1187) rfl rfl rfl (by decide +kernel) ⟨Nat.le_of_ble_eq_true rfl, Nat.le_of_ble_eq_true rfl⟩) ⟨zPc_blind, va_recv hKc hPc (ci := 7) (q0 := 0) rfl rfl, zPc_pre hPc hKc hDc hE hS hFc hZ⟩ rfl rfl hl.1 rfl (lv_room (Nat.le_of_ble_eq_true rfl)) dX3_gather_54 ⟨Nat.le_of_ble_eq_true rfl, Nat.le_of_ble_eq_true rfl⟩) hS (fun q _ h => hFc q h) hFc (fun r54_ u54_ t H1 locs ht hvm hw hB hz1 hk1 hS => ?_)
      replace hw : (0 ≤ x1.toInt ∧ x1.toInt ≤ 39 → r54_.toInt = (f18 ((x1 : Int32)).toNatClampNeg).toInt) := hw
      have hX54_0 := hw
      obtain ⟨w54_, a54_, b54_, hP1, hK1, hD1⟩ := hB
      rw [ht] at hP1
      obtain ⟨hP, hD⟩ := va_join (wr := [(h30, .inr (5, mX5 h31)), (h31, zi k31 26 (a1_ 0)), (h0, .inr (3, mX3 h1 h8 h17 h25 h26 h27 h28 h29 v0)), (h21, zi k21 40 f21), (h19, zi k19 40 f19), (h20, zi k20 40 f20), (h29, zi k29 300 f29), (h28, zi k28 832 f28), (h23, zi k23 160 f23)]) (w1 := [(h17, .inr (7, mX7 h18 h19 h20 h21 h22 h23 h24 v17)), (h18, zi k18 40 f18)]) hP hD [3, 5] [0, 1, 2, 4, 6, 7, 8, 9, 10] rfl rfl (by decide) (by decide) hk1 hFc hP1 hD1
      have hP : va_P (dC, dI) vwCl [(h30, .inr (5, mX5 h31)), (h31, zi k31 26 (a1_ 0)), (h0, .inr (3, mX3 h1 h8 h17 h25 h26 h27 h28 h29 v0)), (h17, .inr (7, mX7 h18 h19 h20 h21 h22 h23 h24 v17)), (h21, zi k21 40 f21), (h18, zi k18 40 f18), (h19, zi k19 40 f19), (h20, zi k20 40 f20), (h29, zi k29 300 f29), (h28, zi k28 832 f28), (h23, zi k23 160 f23)] H1 := hP.sub [0, 1, 2, 9, 3, 10, 4, 5, 6, 7, 8] rfl
      have hD : va_D A [(h30, .inr (5, mX5 h31)), (h31, zi k31 26 (a1_ 0)), (h0, .inr (3, mX3 h1 h8 h17 h25 h26 h27 h28 h29 v0)), (h17, .inr (7, mX7 h18 h19 h20 h21 h22 h23 h24 v17)), (h21, zi k21 40 f21), (h18, zi k18 40 f18), (h19, zi k19 40 f19), (h20, zi k20 40 f20), (h29, zi k29 300 f29), (h28, zi k28 832 f28), (h23, zi k23 160 f23)] := hD.sub [0, 1, 2, 9, 3, 10, 4, 5, 6, 7, 8] (by decide) rfl
      generalize H1 = H at hP hS ⊢
      clear hz1
      have hk54 := hX54_0 ⟨by omega, by omega⟩
      refine lv_iconst (v := 4) hx hb dX3_gather_57 (by decide) ?_
      have b_ : -2147483648 ≤ r54_.toInt ∧ r54_.toInt ≤ 2147483647 := ⟨zlo _, zhi _⟩
      refine lv_icmp_eq (tgt := 82) hx hb dX3_gather_58 (by decide) (fun c_ => ?_) (fun c_ => ?_)
      · skip
        have b_ := zT_eq rfl zk_4 c_
        have b_ : -2147483648 ≤ r9_.toInt ∧ r9_.toInt ≤ 2147483647 := ⟨zlo _, zhi _⟩
        have hc : va_P (dC, dI) vwCl [(h30, .inr (5, mX5 h31)), (h31, zi k31 26 (a1_ 0)), (h0, .inr (3, mX3 h1 h8 h17 h25 h26 h27 h28 h29 v0)), (h17, .inr (7, mX7 h18 h19 h20 h21 h22 h23 h24 v17)), (h21, zi k21 40 f21), (h18, zi k18 40 f18), (h19, zi k19 40 f19), (h20, zi k20 40 f20), (h29, zi k29 300 f29), (h28, zi k28 832 f28), (h23, zi k23 160 f23)] H ∧ va_D A [(h30, .inr (5, mX5 h31)), (h31, zi k31 26 (a1_ 0)), (h0, .inr (3, mX3 h1 h8 h17 h25 h26 h27 h28 h29 v0)), (h17, .inr (7, mX7 h18 h19 h20 h21 h22 h23 h24 v17)), (h21, zi k21 40 f21), (h18, zi k18 40 f18), (h19, zi k19 40 f19), (h20, zi k20 40 f20), (h29, zi k29 300 f29), (h28, zi k28 832 f28), (h23, zi k23 160 f23)] ∧ va_S A s.heap H locs ∧ lv_has ls 4 [(0, .ref h0), (1, .int x1), (2, .ref h30), (3, .int r9_)] ∧ (zGg f28 f29 f18 f19 f20 f23 (v17 8).toInt (v0 9).toInt ((x1 : Int32)).toNatClampNeg (a1_ 0)) := ⟨hP, hD, hS, lv_sub hl [1, 2, 3, 0] rfl, by first | exact zGg_p hB1_0 hB43_0 (hX31_0 ⟨by omega, by omega⟩) (hX39_0 ⟨by omega, by omega⟩) (by omega) | exact zGg_w hB1_0 hB79_0 (hX67_0 ⟨by omega, by omega⟩) (hX75_0 ⟨by omega, by omega⟩) (by omega) (by omega) | exact zGg_m hB1_0 (by omega)⟩
        exact hJ82 H locs ls (fun _ => 0) (fun _ => 0) (fun i => ([(a1_ 0)] : List (Nat → Int32)).getD i (fun _ => 0)) (fun _ => (fun _ => 0)) hc
      · skip
        have b_ := zF_eq rfl zk_4 c_
        refine lv_aload_n hx hb dX3_gather_61 rfl (lv_at hl 1 rfl) ?_
        refine lv_aload_n hx hb dX3_gather_62 rfl (lv_at hl 1 rfl) ?_
        refine va_get (D := (dC, dI)) (ci := 3) (v := .ref h17) (C := RX3) (T := TX3) (N := 10) hx hb hG zuX3 hown hK hP 2 rfl rfl 2 (by decide) (hG _ zv475) (fun _ h9 => h9) rfl dX3_gather_63 ?_
        refine lv_iload_n hx hb dX3_gather_66 rfl (lv_at hl 2 rfl) ?_
        have hPc := hP.sub (ws' := [(h17, .inr (7, mX7 h18 h19 h20 h21 h22 h23 h24 v17)), (h19, zi k19 40 f19)]) [3, 6] rfl
        have hDc := hD.sub (ws' := [(h17, .inr (7, mX7 h18 h19 h20 h21 h22 h23 h24 v17)), (h19, zi k19 40 f19)]) [3, 6] (by decide) rfl
        have hKc := hK.sub (tys' := [(k19, .int)]) [3] rfl
        have hFc := va_free (wc := [(h17, .inr (7, mX7 h18 h19 h20 h21 h22 h23 h24 v17)), (h19, zi k19 40 f19)]) hD hS hA [3, 6] rfl
        refine va_calli (va_runV (As := [.int x1]) (rest := [.ref h0]) ⟨hx, hb, hml, hown, hG⟩ (sX7_lowOf_0 l dC dI adK adV h17 h19 h18 h20 h21 h22 h23 h24 k19 H.size v17 f19 x1 hv17) (cwV 1 hG (zgV zv1191 zv1192 zv1193 zv136 zv1194) rfl rfl rfl (by decide +kernel) ⟨Nat.le_of_ble_eq_true rfl, Nat.le_of_ble_eq_true rfl⟩) ⟨zPc_blind, va_recv hKc hPc (ci := 7) (q0 := 0) rfl rfl, zPc_pre hPc hKc hDc hE hS hFc hZ⟩ rfl rfl hl.1 rfl (lv_room (Nat.le_of_ble_eq_true rfl)) dX3_gather_67 ⟨Nat.le_of_ble_eq_true rfl, Nat.le_of_ble_eq_true rfl⟩) hS (fun q _ h => hFc q h) hFc (fun r67_ u67_ t H1 locs ht hvm hw hB hz1 hk1 hS => ?_)
        replace hw : (0 ≤ x1.toInt ∧ x1.toInt ≤ 39 → r67_.toInt = (f19 ((x1 : Int32)).toNatClampNeg).toInt) := hw
        have hX67_0 := hw
        obtain ⟨w67_, a67_, b67_, hP1, hK1, hD1⟩ := hB
        rw [ht] at hP1
        obtain ⟨hP, hD⟩ := va_join (wr := [(h30, .inr (5, mX5 h31)), (h31, zi k31 26 (a1_ 0)), (h0, .inr (3, mX3 h1 h8 h17 h25 h26 h27 h28 h29 v0)), (h21, zi k21 40 f21), (h18, zi k18 40 f18), (h20, zi k20 40 f20), (h29, zi k29 300 f29), (h28, zi k28 832 f28), (h23, zi k23 160 f23)]) (w1 := [(h17, .inr (7, mX7 h18 h19 h20 h21 h22 h23 h24 v17)), (h19, zi k19 40 f19)]) hP hD [3, 6] [0, 1, 2, 4, 5, 7, 8, 9, 10] rfl rfl (by decide) (by decide) hk1 hFc hP1 hD1
        have hP : va_P (dC, dI) vwCl [(h30, .inr (5, mX5 h31)), (h31, zi k31 26 (a1_ 0)), (h0, .inr (3, mX3 h1 h8 h17 h25 h26 h27 h28 h29 v0)), (h17, .inr (7, mX7 h18 h19 h20 h21 h22 h23 h24 v17)), (h21, zi k21 40 f21), (h18, zi k18 40 f18), (h19, zi k19 40 f19), (h20, zi k20 40 f20), (h29, zi k29 300 f29), (h28, zi k28 832 f28), (h23, zi k23 160 f23)] H1 := hP.sub [0, 1, 2, 9, 3, 4, 10, 5, 6, 7, 8] rfl
        have hD : va_D A [(h30, .inr (5, mX5 h31)), (h31, zi k31 26 (a1_ 0)), (h0, .inr (3, mX3 h1 h8 h17 h25 h26 h27 h28 h29 v0)), (h17, .inr (7, mX7 h18 h19 h20 h21 h22 h23 h24 v17)), (h21, zi k21 40 f21), (h18, zi k18 40 f18), (h19, zi k19 40 f19), (h20, zi k20 40 f20), (h29, zi k29 300 f29), (h28, zi k28 832 f28), (h23, zi k23 160 f23)] := hD.sub [0, 1, 2, 9, 3, 4, 10, 5, 6, 7, 8] (by decide) rfl
        generalize H1 = H at hP hS ⊢
        clear hz1
        refine lv_aload_n hx hb dX3_gather_70 rfl (lv_at hl 1 rfl) ?_
        refine va_get (D := (dC, dI)) (ci := 3) (v := .ref h17) (C := RX3) (T := TX3) (N := 10) hx hb hG zuX3 hown hK hP 2 rfl rfl 2 (by decide) (hG _ zv475) (fun _ h9 => h9) rfl dX3_gather_71 ?_
        refine lv_iload_n hx hb dX3_gather_74 rfl (lv_at hl 2 rfl) ?_
        have hPc := hP.sub (ws' := [(h17, .inr (7, mX7 h18 h19 h20 h21 h22 h23 h24 v17)), (h20, zi k20 40 f20)]) [3, 7] rfl
        have hDc := hD.sub (ws' := [(h17, .inr (7, mX7 h18 h19 h20 h21 h22 h23 h24 v17)), (h20, zi k20 40 f20)]) [3, 7] (by decide) rfl
        have hKc := hK.sub (tys' := [(k20, .int)]) [4] rfl
        have hFc := va_free (wc := [(h17, .inr (7, mX7 h18 h19 h20 h21 h22 h23 h24 v17)), (h20, zi k20 40 f20)]) hD hS hA [3, 7] rfl
        refine va_calli (va_runV (As := [.int x1]) (rest := [.int r67_, .ref h0]) ⟨hx, hb, hml, hown, hG⟩ (sX7_highOf_0 l dC dI adK adV h17 h20 h18 h19 h21 h22 h23 h24 k20 H.size v17 f20 x1 hv17) (cwV 1 hG (zgV zv1195 zv1196 zv1197 zv136 zv1198) rfl rfl rfl (by decide +kernel) ⟨Nat.le_of_ble_eq_true rfl, Nat.le_of_ble_eq_true rfl⟩) ⟨zPc_blind, va_recv hKc hPc (ci := 7) (q0 := 0) rfl rfl, zPc_pre hPc hKc hDc hE hS hFc hZ⟩ rfl rfl hl.1 rfl (lv_room (Nat.le_of_ble_eq_true rfl)) dX3_gather_75 ⟨Nat.le_of_ble_eq_true rfl, Nat.le_of_ble_eq_true rfl⟩) hS (fun q _ h => hFc q h) hFc (fun r75_ u75_ t H1 locs ht hvm hw hB hz1 hk1 hS => ?_)
        replace hw : (0 ≤ x1.toInt ∧ x1.toInt ≤ 39 → r75_.toInt = (f20 ((x1 : Int32)).toNatClampNeg).toInt) := hw
        have hX75_0 := hw
        obtain ⟨w75_, a75_, b75_, hP1, hK1, hD1⟩ := hB
        rw [ht] at hP1
        obtain ⟨hP, hD⟩ := va_join (wr := [(h30, .inr (5, mX5 h31)), (h31, zi k31 26 (a1_ 0)), (h0, .inr (3, mX3 h1 h8 h17 h25 h26 h27 h28 h29 v0)), (h21, zi k21 40 f21), (h18, zi k18 40 f18), (h19, zi k19 40 f19), (h29, zi k29 300 f29), (h28, zi k28 832 f28), (h23, zi k23 160 f23)]) (w1 := [(h17, .inr (7, mX7 h18 h19 h20 h21 h22 h23 h24 v17)), (h20, zi k20 40 f20)]) hP hD [3, 7] [0, 1, 2, 4, 5, 6, 8, 9, 10] rfl rfl (by decide) (by decide) hk1 hFc hP1 hD1
        have hP : va_P (dC, dI) vwCl [(h30, .inr (5, mX5 h31)), (h31, zi k31 26 (a1_ 0)), (h0, .inr (3, mX3 h1 h8 h17 h25 h26 h27 h28 h29 v0)), (h17, .inr (7, mX7 h18 h19 h20 h21 h22 h23 h24 v17)), (h21, zi k21 40 f21), (h18, zi k18 40 f18), (h19, zi k19 40 f19), (h20, zi k20 40 f20), (h29, zi k29 300 f29), (h28, zi k28 832 f28), (h23, zi k23 160 f23)] H1 := hP.sub [0, 1, 2, 9, 3, 4, 5, 10, 6, 7, 8] rfl
        have hD : va_D A [(h30, .inr (5, mX5 h31)), (h31, zi k31 26 (a1_ 0)), (h0, .inr (3, mX3 h1 h8 h17 h25 h26 h27 h28 h29 v0)), (h17, .inr (7, mX7 h18 h19 h20 h21 h22 h23 h24 v17)), (h21, zi k21 40 f21), (h18, zi k18 40 f18), (h19, zi k19 40 f19), (h20, zi k20 40 f20), (h29, zi k29 300 f29), (h28, zi k28 832 f28), (h23, zi k23 160 f23)] := hD.sub [0, 1, 2, 9, 3, 4, 5, 10, 6, 7, 8] (by decide) rfl
        generalize H1 = H at hP hS ⊢
        clear hz1
        refine lv_aload_n hx hb dX3_gather_78 rfl (lv_at hl 3 rfl) ?_
        have hPc := hP.sub (ws' := [(h0, .inr (3, mX3 h1 h8 h17 h25 h26 h27 h28 h29 v0)), (h29, zi k29 300 f29), (h28, zi k28 832 f28), (h30, .inr (5, mX5 h31)), (h31, zi k31 26 (a1_ 0))]) [2, 8, 9, 0, 1] rfl
        have hDc := hD.sub (ws' := [(h0, .inr (3, mX3 h1 h8 h17 h25 h26 h27 h28 h29 v0)), (h29, zi k29 300 f29), (h28, zi k28 832 f28), (h30, .inr (5, mX5 h31)), (h31, zi k31 26 (a1_ 0))]) [2, 8, 9, 0, 1] (by decide) rfl
        have hKc := hK.sub (tys' := [(k29, .int), (k28, .int), (k31, .int)]) [5, 6, 0] rfl
        have hFc := va_free (wc := [(h0, .inr (3, mX3 h1 h8 h17 h25 h26 h27 h28 h29 v0)), (h29, zi k29 300 f29), (h28, zi k28 832 f28), (h30, .inr (5, mX5 h31)), (h31, zi k31 26 (a1_ 0))]) hD hS hA [2, 8, 9, 0, 1] rfl
        refine va_callv (va_runV (As := [.int r67_, .int r75_, .ref h30]) (rest := []) ⟨hx, hb, hml, hown, hG⟩ (sX3_gatherWords_0 l dC dI adK adV h0 h29 h28 h30 h31 h1 h8 h17 h25 h26 h27 k29 k28 k31 H.size v0 f29 f28 (a1_ 0) r67_ r75_ hv0 hf29) (cwV 3 hG (zgV zv1276 zv1278 zv40 zv140 zv1279) rfl rfl rfl (by decide +kernel) ⟨Nat.le_of_ble_eq_true rfl, Nat.le_of_ble_eq_true rfl⟩) ⟨zPc_blind, va_recv hKc hPc (ci := 3) (q0 := 0) rfl rfl, zPc_pre hPc hKc hDc hE hS hFc hZ⟩ rfl rfl hl.1 rfl (lv_room (Nat.le_of_ble_eq_true rfl)) dX3_gather_79 ⟨Nat.le_of_ble_eq_true rfl, Nat.le_of_ble_eq_true rfl⟩) hS (fun q _ h => hFc q h) hFc (fun u79_ t H1 locs ht hvm hw hB hz1 hk1 hS => ?_)
        obtain ⟨w79_, a79_, b79_, hB79_0, hP1, hK1, hD1⟩ := hB
        have hB79_0 : zGW f28 f29 (a1_ 0) (a79_ 0) r67_.toInt r75_.toInt (v0 9).toInt := hB79_0
        rw [ht] at hP1
        obtain ⟨hP, hD⟩ := va_join (wr := [(h17, .inr (7, mX7 h18 h19 h20 h21 h22 h23 h24 v17)), (h21, zi k21 40 f21), (h18, zi k18 40 f18), (h19, zi k19 40 f19), (h20, zi k20 40 f20), (h23, zi k23 160 f23)]) (w1 := [(h0, .inr (3, mX3 h1 h8 h17 h25 h26 h27 h28 h29 v0)), (h29, zi k29 300 f29), (h28, zi k28 832 f28), (h30, .inr (5, mX5 h31)), (h31, zi k31 26 (a79_ 0))]) hP hD [2, 8, 9, 0, 1] [3, 4, 5, 6, 7, 10] rfl rfl (by decide) (by decide) hk1 hFc hP1 hD1
        have hP : va_P (dC, dI) vwCl [(h30, .inr (5, mX5 h31)), (h31, zi k31 26 (a79_ 0)), (h0, .inr (3, mX3 h1 h8 h17 h25 h26 h27 h28 h29 v0)), (h17, .inr (7, mX7 h18 h19 h20 h21 h22 h23 h24 v17)), (h21, zi k21 40 f21), (h18, zi k18 40 f18), (h19, zi k19 40 f19), (h20, zi k20 40 f20), (h29, zi k29 300 f29), (h28, zi k28 832 f28), (h23, zi k23 160 f23)] H1 := hP.sub [9, 10, 6, 0, 1, 2, 3, 4, 7, 8, 5] rfl
        have hD : va_D A [(h30, .inr (5, mX5 h31)), (h31, zi k31 26 (a79_ 0)), (h0, .inr (3, mX3 h1 h8 h17 h25 h26 h27 h28 h29 v0)), (h17, .inr (7, mX7 h18 h19 h20 h21 h22 h23 h24 v17)), (h21, zi k21 40 f21), (h18, zi k18 40 f18), (h19, zi k19 40 f19), (h20, zi k20 40 f20), (h29, zi k29 300 f29), (h28, zi k28 832 f28), (h23, zi k23 160 f23)] := hD.sub [9, 10, 6, 0, 1, 2, 3, 4, 7, 8, 5] (by decide) rfl
        generalize H1 = H at hP hS ⊢
        clear hz1
        have b_ : -2147483648 ≤ r9_.toInt ∧ r9_.toInt ≤ 2147483647 := ⟨zlo _, zhi _⟩
        have hc : va_P (dC, dI) vwCl [(h30, .inr (5, mX5 h31)), (h31, zi k31 26 (a79_ 0)), (h0, .inr (3, mX3 h1 h8 h17 h25 h26 h27 h28 h29 v0)), (h17, .inr (7, mX7 h18 h19 h20 h21 h22 h23 h24 v17)), (h21, zi k21 40 f21), (h18, zi k18 40 f18), (h19, zi k19 40 f19), (h20, zi k20 40 f20), (h29, zi k29 300 f29), (h28, zi k28 832 f28), (h23, zi k23 160 f23)] H ∧ va_D A [(h30, .inr (5, mX5 h31)), (h31, zi k31 26 (a79_ 0)), (h0, .inr (3, mX3 h1 h8 h17 h25 h26 h27 h28 h29 v0)), (h17, .inr (7, mX7 h18 h19 h20 h21 h22 h23 h24 v17)), (h21, zi k21 40 f21), (h18, zi k18 40 f18), (h19, zi k19 40 f19), (h20, zi k20 40 f20), (h29, zi k29 300 f29), (h28, zi k28 832 f28), (h23, zi k23 160 f23)] ∧ va_S A s.heap H locs ∧ lv_has ls 4 [(0, .ref h0), (1, .int x1), (2, .ref h30), (3, .int r9_)] ∧ (zGg f28 f29 f18 f19 f20 f23 (v17 8).toInt (v0 9).toInt ((x1 : Int32)).toNatClampNeg (a79_ 0)) := ⟨hP, hD, hS, lv_sub hl [1, 2, 3, 0] rfl, by first | exact zGg_p hB1_0 hB43_0 (hX31_0 ⟨by omega, by omega⟩) (hX39_0 ⟨by omega, by omega⟩) (by omega) | exact zGg_w hB1_0 hB79_0 (hX67_0 ⟨by omega, by omega⟩) (hX75_0 ⟨by omega, by omega⟩) (by omega) (by omega) | exact zGg_m hB1_0 (by omega)⟩
        exact hJ82 H locs ls (fun _ => 0) (fun _ => 0) (fun i => ([(a79_ 0)] : List (Nat → Int32)).getD i (fun _ => 0)) (fun _ => (fun _ => 0)) hc
    · skip
      have b_ := zF_ne rfl zk_3 c_
      refine lv_aload_n hx hb dX3_gather_25 rfl (lv_at hl 1 rfl) ?_
      refine lv_aload_n hx hb dX3_gather_26 rfl (lv_at hl 1 rfl) ?_
      refine va_get (D := (dC, dI)) (ci := 3) (v := .ref h17) (C := RX3) (T := TX3) (N := 10) hx hb hG zuX3 hown hK hP 2 rfl rfl 2 (by decide) (hG _ zv475) (fun _ h9 => h9) rfl dX3_gather_27 ?_
      refine lv_iload_n hx hb dX3_gather_30 rfl (lv_at hl 2 rfl) ?_
      have hPc := hP.sub (ws' := [(h17, .inr (7, mX7 h18 h19 h20 h21 h22 h23 h24 v17)), (h19, zi k19 40 f19)]) [3, 6] rfl
      have hDc := hD.sub (ws' := [(h17, .inr (7, mX7 h18 h19 h20 h21 h22 h23 h24 v17)), (h19, zi k19 40 f19)]) [3, 6] (by decide) rfl
      have hKc := hK.sub (tys' := [(k19, .int)]) [3] rfl
      have hFc := va_free (wc := [(h17, .inr (7, mX7 h18 h19 h20 h21 h22 h23 h24 v17)), (h19, zi k19 40 f19)]) hD hS hA [3, 6] rfl
      refine va_calli (va_runV (As := [.int x1]) (rest := [.ref h0]) ⟨hx, hb, hml, hown, hG⟩ (sX7_lowOf_0 l dC dI adK adV h17 h19 h18 h20 h21 h22 h23 h24 k19 H.size v17 f19 x1 hv17) (cwV 1 hG (zgV zv1191 zv1192 zv1193 zv136 zv1194) rfl rfl rfl (by decide +kernel) ⟨Nat.le_of_ble_eq_true rfl, Nat.le_of_ble_eq_true rfl⟩) ⟨zPc_blind, va_recv hKc hPc (ci := 7) (q0 := 0) rfl rfl, zPc_pre hPc hKc hDc hE hS hFc hZ⟩ rfl rfl hl.1 rfl (lv_room (Nat.le_of_ble_eq_true rfl)) dX3_gather_31 ⟨Nat.le_of_ble_eq_true rfl, Nat.le_of_ble_eq_true rfl⟩) hS (fun q _ h => hFc q h) hFc (fun r31_ u31_ t H1 locs ht hvm hw hB hz1 hk1 hS => ?_)
      replace hw : (0 ≤ x1.toInt ∧ x1.toInt ≤ 39 → r31_.toInt = (f19 ((x1 : Int32)).toNatClampNeg).toInt) := hw
      have hX31_0 := hw
      obtain ⟨w31_, a31_, b31_, hP1, hK1, hD1⟩ := hB
      rw [ht] at hP1
      obtain ⟨hP, hD⟩ := va_join (wr := [(h30, .inr (5, mX5 h31)), (h31, zi k31 26 (a1_ 0)), (h0, .inr (3, mX3 h1 h8 h17 h25 h26 h27 h28 h29 v0)), (h21, zi k21 40 f21), (h18, zi k18 40 f18), (h20, zi k20 40 f20), (h29, zi k29 300 f29), (h28, zi k28 832 f28), (h23, zi k23 160 f23)]) (w1 := [(h17, .inr (7, mX7 h18 h19 h20 h21 h22 h23 h24 v17)), (h19, zi k19 40 f19)]) hP hD [3, 6] [0, 1, 2, 4, 5, 7, 8, 9, 10] rfl rfl (by decide) (by decide) hk1 hFc hP1 hD1
      have hP : va_P (dC, dI) vwCl [(h30, .inr (5, mX5 h31)), (h31, zi k31 26 (a1_ 0)), (h0, .inr (3, mX3 h1 h8 h17 h25 h26 h27 h28 h29 v0)), (h17, .inr (7, mX7 h18 h19 h20 h21 h22 h23 h24 v17)), (h21, zi k21 40 f21), (h18, zi k18 40 f18), (h19, zi k19 40 f19), (h20, zi k20 40 f20), (h29, zi k29 300 f29), (h28, zi k28 832 f28), (h23, zi k23 160 f23)] H1 := hP.sub [0, 1, 2, 9, 3, 4, 10, 5, 6, 7, 8] rfl
      have hD : va_D A [(h30, .inr (5, mX5 h31)), (h31, zi k31 26 (a1_ 0)), (h0, .inr (3, mX3 h1 h8 h17 h25 h26 h27 h28 h29 v0)), (h17, .inr (7, mX7 h18 h19 h20 h21 h22 h23 h24 v17)), (h21, zi k21 40 f21), (h18, zi k18 40 f18), (h19, zi k19 40 f19), (h20, zi k20 40 f20), (h29, zi k29 300 f29), (h28, zi k28 832 f28), (h23, zi k23 160 f23)] := hD.sub [0, 1, 2, 9, 3, 4, 10, 5, 6, 7, 8] (by decide) rfl
      generalize H1 = H at hP hS ⊢
      clear hz1
      refine lv_aload_n hx hb dX3_gather_34 rfl (lv_at hl 1 rfl) ?_
      refine va_get (D := (dC, dI)) (ci := 3) (v := .ref h17) (C := RX3) (T := TX3) (N := 10) hx hb hG zuX3 hown hK hP 2 rfl rfl 2 (by decide) (hG _ zv475) (fun _ h9 => h9) rfl dX3_gather_35 ?_
      refine lv_iload_n hx hb dX3_gather_38 rfl (lv_at hl 2 rfl) ?_
      have hPc := hP.sub (ws' := [(h17, .inr (7, mX7 h18 h19 h20 h21 h22 h23 h24 v17)), (h20, zi k20 40 f20)]) [3, 7] rfl
      have hDc := hD.sub (ws' := [(h17, .inr (7, mX7 h18 h19 h20 h21 h22 h23 h24 v17)), (h20, zi k20 40 f20)]) [3, 7] (by decide) rfl
      have hKc := hK.sub (tys' := [(k20, .int)]) [4] rfl
      have hFc := va_free (wc := [(h17, .inr (7, mX7 h18 h19 h20 h21 h22 h23 h24 v17)), (h20, zi k20 40 f20)]) hD hS hA [3, 7] rfl
      refine va_calli (va_runV (As := [.int x1]) (rest := [.int r31_, .ref h0]) ⟨hx, hb, hml, hown, hG⟩ (sX7_highOf_0 l dC dI adK adV h17 h20 h18 h19 h21 h22 h23 h24 k20 H.size v17 f20 x1 hv17) (cwV 1 hG (zgV zv1195 zv1196 zv1197 zv136 zv1198) rfl rfl rfl (by decide +kernel) ⟨Nat.le_of_ble_eq_true rfl, Nat.le_of_ble_eq_true rfl⟩) ⟨zPc_blind, va_recv hKc hPc (ci := 7) (q0 := 0) rfl rfl, zPc_pre hPc hKc hDc hE hS hFc hZ⟩ rfl rfl hl.1 rfl (lv_room (Nat.le_of_ble_eq_true rfl)) dX3_gather_39 ⟨Nat.le_of_ble_eq_true rfl, Nat.le_of_ble_eq_true rfl⟩) hS (fun q _ h => hFc q h) hFc (fun r39_ u39_ t H1 locs ht hvm hw hB hz1 hk1 hS => ?_)
      replace hw : (0 ≤ x1.toInt ∧ x1.toInt ≤ 39 → r39_.toInt = (f20 ((x1 : Int32)).toNatClampNeg).toInt) := hw
      have hX39_0 := hw
      obtain ⟨w39_, a39_, b39_, hP1, hK1, hD1⟩ := hB
      rw [ht] at hP1
      obtain ⟨hP, hD⟩ := va_join (wr := [(h30, .inr (5, mX5 h31)), (h31, zi k31 26 (a1_ 0)), (h0, .inr (3, mX3 h1 h8 h17 h25 h26 h27 h28 h29 v0)), (h21, zi k21 40 f21), (h18, zi k18 40 f18), (h19, zi k19 40 f19), (h29, zi k29 300 f29), (h28, zi k28 832 f28), (h23, zi k23 160 f23)]) (w1 := [(h17, .inr (7, mX7 h18 h19 h20 h21 h22 h23 h24 v17)), (h20, zi k20 40 f20)]) hP hD [3, 7] [0, 1, 2, 4, 5, 6, 8, 9, 10] rfl rfl (by decide) (by decide) hk1 hFc hP1 hD1
      have hP : va_P (dC, dI) vwCl [(h30, .inr (5, mX5 h31)), (h31, zi k31 26 (a1_ 0)), (h0, .inr (3, mX3 h1 h8 h17 h25 h26 h27 h28 h29 v0)), (h17, .inr (7, mX7 h18 h19 h20 h21 h22 h23 h24 v17)), (h21, zi k21 40 f21), (h18, zi k18 40 f18), (h19, zi k19 40 f19), (h20, zi k20 40 f20), (h29, zi k29 300 f29), (h28, zi k28 832 f28), (h23, zi k23 160 f23)] H1 := hP.sub [0, 1, 2, 9, 3, 4, 5, 10, 6, 7, 8] rfl
      have hD : va_D A [(h30, .inr (5, mX5 h31)), (h31, zi k31 26 (a1_ 0)), (h0, .inr (3, mX3 h1 h8 h17 h25 h26 h27 h28 h29 v0)), (h17, .inr (7, mX7 h18 h19 h20 h21 h22 h23 h24 v17)), (h21, zi k21 40 f21), (h18, zi k18 40 f18), (h19, zi k19 40 f19), (h20, zi k20 40 f20), (h29, zi k29 300 f29), (h28, zi k28 832 f28), (h23, zi k23 160 f23)] := hD.sub [0, 1, 2, 9, 3, 4, 5, 10, 6, 7, 8] (by decide) rfl
      generalize H1 = H at hP hS ⊢
      clear hz1
      refine lv_aload_n hx hb dX3_gather_42 rfl (lv_at hl 3 rfl) ?_
      have hPc := hP.sub (ws' := [(h0, .inr (3, mX3 h1 h8 h17 h25 h26 h27 h28 h29 v0)), (h17, .inr (7, mX7 h18 h19 h20 h21 h22 h23 h24 v17)), (h23, zi k23 160 f23), (h29, zi k29 300 f29), (h28, zi k28 832 f28), (h30, .inr (5, mX5 h31)), (h31, zi k31 26 (a1_ 0))]) [2, 3, 10, 8, 9, 0, 1] rfl
      have hDc := hD.sub (ws' := [(h0, .inr (3, mX3 h1 h8 h17 h25 h26 h27 h28 h29 v0)), (h17, .inr (7, mX7 h18 h19 h20 h21 h22 h23 h24 v17)), (h23, zi k23 160 f23), (h29, zi k29 300 f29), (h28, zi k28 832 f28), (h30, .inr (5, mX5 h31)), (h31, zi k31 26 (a1_ 0))]) [2, 3, 10, 8, 9, 0, 1] (by decide) rfl
      have hKc := hK.sub (tys' := [(k23, .int), (k29, .int), (k28, .int), (k31, .int)]) [7, 5, 6, 0] rfl
      have hFc := va_free (wc := [(h0, .inr (3, mX3 h1 h8 h17 h25 h26 h27 h28 h29 v0)), (h17, .inr (7, mX7 h18 h19 h20 h21 h22 h23 h24 v17)), (h23, zi k23 160 f23), (h29, zi k29 300 f29), (h28, zi k28 832 f28), (h30, .inr (5, mX5 h31)), (h31, zi k31 26 (a1_ 0))]) hD hS hA [2, 3, 10, 8, 9, 0, 1] rfl
      refine va_callv (va_runV (As := [.int r31_, .int r39_, .ref h30]) (rest := []) ⟨hx, hb, hml, hown, hG⟩ (sX3_gatherPhrase_0 l dC dI adK adV h0 h17 h23 h29 h28 h30 h31 h1 h8 h25 h26 h27 h18 h19 h20 h21 h22 h24 k23 k29 k28 k31 H.size v0 v17 f23 f29 f28 (a1_ 0) r31_ r39_ hv0 hv17 hf29) (cwV 3 hG (zgV zv1260 zv1262 zv37 zv140 zv1263) rfl rfl rfl (by decide +kernel) ⟨Nat.le_of_ble_eq_true rfl, Nat.le_of_ble_eq_true rfl⟩) ⟨zPc_blind, va_recv hKc hPc (ci := 3) (q0 := 0) rfl rfl, zPc_pre hPc hKc hDc hE hS hFc hZ⟩ rfl rfl hl.1 rfl (lv_room (Nat.le_of_ble_eq_true rfl)) dX3_gather_43 ⟨Nat.le_of_ble_eq_true rfl, Nat.le_of_ble_eq_true rfl⟩) hS (fun q _ h => hFc q h) hFc (fun u43_ t H1 locs ht hvm hw hB hz1 hk1 hS => ?_)
      obtain ⟨w43_, a43_, b43_, hB43_0, hP1, hK1, hD1⟩ := hB
      have hB43_0 : zGPe f28 f29 f23 (a1_ 0) (a43_ 0) (v17 8).toInt r31_.toInt r39_.toInt (v0 9).toInt := hB43_0
      rw [ht] at hP1
      obtain ⟨hP, hD⟩ := va_join (wr := [(h21, zi k21 40 f21), (h18, zi k18 40 f18), (h19, zi k19 40 f19), (h20, zi k20 40 f20)]) (w1 := [(h0, .inr (3, mX3 h1 h8 h17 h25 h26 h27 h28 h29 v0)), (h17, .inr (7, mX7 h18 h19 h20 h21 h22 h23 h24 v17)), (h23, zi k23 160 f23), (h29, zi k29 300 f29), (h28, zi k28 832 f28), (h30, .inr (5, mX5 h31)), (h31, zi k31 26 (a43_ 0))]) hP hD [2, 3, 10, 8, 9, 0, 1] [4, 5, 6, 7] rfl rfl (by decide) (by decide) hk1 hFc hP1 hD1
      have hP : va_P (dC, dI) vwCl [(h30, .inr (5, mX5 h31)), (h31, zi k31 26 (a43_ 0)), (h0, .inr (3, mX3 h1 h8 h17 h25 h26 h27 h28 h29 v0)), (h17, .inr (7, mX7 h18 h19 h20 h21 h22 h23 h24 v17)), (h21, zi k21 40 f21), (h18, zi k18 40 f18), (h19, zi k19 40 f19), (h20, zi k20 40 f20), (h29, zi k29 300 f29), (h28, zi k28 832 f28), (h23, zi k23 160 f23)] H1 := hP.sub [9, 10, 4, 5, 0, 1, 2, 3, 7, 8, 6] rfl
      have hD : va_D A [(h30, .inr (5, mX5 h31)), (h31, zi k31 26 (a43_ 0)), (h0, .inr (3, mX3 h1 h8 h17 h25 h26 h27 h28 h29 v0)), (h17, .inr (7, mX7 h18 h19 h20 h21 h22 h23 h24 v17)), (h21, zi k21 40 f21), (h18, zi k18 40 f18), (h19, zi k19 40 f19), (h20, zi k20 40 f20), (h29, zi k29 300 f29), (h28, zi k28 832 f28), (h23, zi k23 160 f23)] := hD.sub [9, 10, 4, 5, 0, 1, 2, 3, 7, 8, 6] (by decide) rfl
      generalize H1 = H at hP hS ⊢
      clear hz1
      refine lv_goto (tgt := 82) hx hb dX3_gather_46 (by decide) ?_
      have b_ : -2147483648 ≤ r9_.toInt ∧ r9_.toInt ≤ 2147483647 := ⟨zlo _, zhi _⟩
      have hc : va_P (dC, dI) vwCl [(h30, .inr (5, mX5 h31)), (h31, zi k31 26 (a43_ 0)), (h0, .inr (3, mX3 h1 h8 h17 h25 h26 h27 h28 h29 v0)), (h17, .inr (7, mX7 h18 h19 h20 h21 h22 h23 h24 v17)), (h21, zi k21 40 f21), (h18, zi k18 40 f18), (h19, zi k19 40 f19), (h20, zi k20 40 f20), (h29, zi k29 300 f29), (h28, zi k28 832 f28), (h23, zi k23 160 f23)] H ∧ va_D A [(h30, .inr (5, mX5 h31)), (h31, zi k31 26 (a43_ 0)), (h0, .inr (3, mX3 h1 h8 h17 h25 h26 h27 h28 h29 v0)), (h17, .inr (7, mX7 h18 h19 h20 h21 h22 h23 h24 v17)), (h21, zi k21 40 f21), (h18, zi k18 40 f18), (h19, zi k19 40 f19), (h20, zi k20 40 f20), (h29, zi k29 300 f29), (h28, zi k28 832 f28), (h23, zi k23 160 f23)] ∧ va_S A s.heap H locs ∧ lv_has ls 4 [(0, .ref h0), (1, .int x1), (2, .ref h30), (3, .int r9_)] ∧ (zGg f28 f29 f18 f19 f20 f23 (v17 8).toInt (v0 9).toInt ((x1 : Int32)).toNatClampNeg (a43_ 0)) := ⟨hP, hD, hS, lv_sub hl [1, 2, 3, 0] rfl, by first | exact zGg_p hB1_0 hB43_0 (hX31_0 ⟨by omega, by omega⟩) (hX39_0 ⟨by omega, by omega⟩) (by omega) | exact zGg_w hB1_0 hB79_0 (hX67_0 ⟨by omega, by omega⟩) (hX75_0 ⟨by omega, by omega⟩) (by omega) (by omega) | exact zGg_m hB1_0 (by omega)⟩
      exact hJ82 H locs ls (fun _ => 0) (fun _ => 0) (fun i => ([(a43_ 0)] : List (Nat → Int32)).getD i (fun _ => 0)) (fun _ => (fun _ => 0)) hc
