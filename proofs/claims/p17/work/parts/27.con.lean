set_option maxHeartbeats 8000000 in
set_option maxRecDepth 100000 in
theorem sX1_found_0 (l : Launch) (dC : Nat → ClassId) (dI : Nat → Nat → Nat) (adK adV : Nat → Nat) (h0 : Nat) (h1 : Nat) (h6 : Nat) (h13 : Nat) (h21 : Nat) (h36 : Nat) (h37 : Nat) (h39 : Nat) (h40 : Nat) (h41 : Nat) (h42 : Nat) (h43 : Nat) (h44 : Nat) (h45 : Nat) (h46 : Nat) (h47 : Nat) (h48 : Nat) (sz : Nat) (v0 : Nat → Int32) (hv0 : zR rg_Finder v0) : Met l yX1_found (zw yX1_found cX1_found 1 (some .int)) { frames := 0, cells := 0, slots := 0, locals := 0 } (zPc dC dI adK adV [.ref h0] sz [(h0, .inr (1, mX1 h1 h6 h13 h21 h36 h37 h39 h40 h41 h42 h43 h44 h45 h46 h47 h48 v0))] []) (va_Qi (fun (r : Int32) (u : Nat → Int32) => (0 ≤ r.toInt ∧ r.toInt ≤ 120) ∧ (r.toInt = (v0 16).toInt)) (fun (u : Nat → Int32) (t : State) => ∃ (ww : Nat → Int64) (aa : Nat → Nat → Int32) (bb : Nat → Nat → Int64), va_P (dC, dI) vwCl [(h0, .inr (1, mX1 h1 h6 h13 h21 h36 h37 h39 h40 h41 h42 h43 h44 h45 h46 h47 h48 v0))] t.heap ∧ va_K (dC, dI) vwCl [] t ∧ va_D (va_A [(h0, .inr (1, mX1 h1 h6 h13 h21 h36 h37 h39 h40 h41 h42 h43 h44 h45 h46 h47 h48 v0))] sz) [(h0, .inr (1, mX1 h1 h6 h13 h21 h36 h37 h39 h40 h41 h42 h43 h44 h45 h46 h47 h48 v0))]) (va_A [(h0, .inr (1, mX1 h1 h6 h13 h21 h36 h37 h39 h40 h41 h42 h43 h44 h45 h46 h47 h48 v0))] sz)) 0 0 (va_A [(h0, .inr (1, mX1 h1 h6 h13 h21 h36 h37 h39 h40 h41 h42 h43 h44 h45 h46 h47 h48 v0))] sz) := by
  refine Met.ofW (cc := cX1_found) (maxL := 1) (ret := (some .int)) (by decide) rfl ?_
  intro p e s m args below meth c s₁ B hml hv
  obtain ⟨rfl, hsz, hP, hK, hD0, hE, hZ⟩ := hv
  have hx := B.exec
  have hb := B.bytes
  have hr := B.returns
  have hG : ∀ w ∈ zG, w.before _ s = true := fun w h => atoms_spec (ws := (zw yX1_found cX1_found 1 (some .int))) B.pre w (List.mem_cons_of_mem _ h)
  have hown : s.vm.findClass RX1 = some m.cls := findClass_of_methodNamed B.named
  have hlocks := B.notSynchronized

  subst hsz
  have hD := hD0.self (sz := s.heap.size)
  generalize hAe : va_A [(h0, .inr (1, mX1 h1 h6 h13 h21 h36 h37 h39 h40 h41 h42 h43 h44 h45 h46 h47 h48 v0))] s.heap.size = A at hD hZ ⊢
  have hA : ∀ q : Nat, s.heap.size ≤ q → A q := fun q h => by rw [← hAe]; exact Or.inr h
  have hS : va_S A s.heap s.heap [] := va_S.rf
  have hl := lv_entry ([.ref h0]) (n := 1) (Nat.le_of_ble_eq_true rfl)
  rw [lg_entry_eq]
  generalize (lg_sl ([.ref h0]) ++ List.replicate (1 - (lg_sl ([.ref h0])).length) Slot.unset).toArray = ls at hl ⊢
  have hl : lv_has ls 1 [(0, .ref h0)] := hl
  have b_ : 0 ≤ (v0 16).toInt ∧ (v0 16).toInt ≤ 120 := hv0 16
  refine lv_aload_n hx hb dX1_found_0 rfl (lv_at hl 0 rfl) ?_
  refine va_get (D := (dC, dI)) (ci := 1) (v := .int (v0 16)) (C := RX1) (T := TX1) (N := 17) hx hb hG zuX1 hown hK hP 0 rfl rfl 16 (by decide) (hG _ zv520) (fun _ h9 => h9) rfl dX1_found_1 ?_
  refine W.widen (k := 0) (n := 0) (by decide) (by decide) ?_
  have hpost : (0 ≤ (v0 16).toInt ∧ (v0 16).toInt ≤ 120) ∧ ((v0 16).toInt = (v0 16).toInt) := ⟨(by first | with_reducible assumption | exact ⟨by omega, by omega⟩), by omega⟩
  have hP9 : va_P (dC, dI) vwCl [(h0, .inr (1, mX1 h1 h6 h13 h21 h36 h37 h39 h40 h41 h42 h43 h44 h45 h46 h47 h48 v0))] s.heap := hP
  have hD9 : va_D A [(h0, .inr (1, mX1 h1 h6 h13 h21 h36 h37 h39 h40 h41 h42 h43 h44 h45 h46 h47 h48 v0))] := hD
  exact W.iret (v := (v0 16)) hx hb hr (fun t ht hW => ⟨⟨(v0 16), (fun _ => 0), rfl, hpost, (fun _ => 0), (fun _ => (fun _ => 0)), (fun _ => (fun _ => 0)), by rw [ht]; exact hP9, va_K.moved hW.alike hK, hD9⟩, hS.F ht⟩) hS.2.2 dX1_found_4
set_option maxHeartbeats 8000000 in
set_option maxRecDepth 100000 in
theorem sX1_numberAt_0 (l : Launch) (dC : Nat → ClassId) (dI : Nat → Nat → Nat) (adK adV : Nat → Nat) (h0 : Nat) (h42 : Nat) (h1 : Nat) (h6 : Nat) (h13 : Nat) (h21 : Nat) (h36 : Nat) (h37 : Nat) (h39 : Nat) (h40 : Nat) (h41 : Nat) (h43 : Nat) (h44 : Nat) (h45 : Nat) (h46 : Nat) (h47 : Nat) (h48 : Nat) (k42 : ClassId) (sz : Nat) (v0 : Nat → Int32) (f42 : Nat → Int32) (x1 : Int32) (hv0 : zR rg_Finder v0) (hf42 : zA 0 119 f42) : Met l yX1_numberAt (zw yX1_numberAt cX1_numberAt 2 (some .int)) { frames := 0, cells := 0, slots := 0, locals := 0 } (zPc dC dI adK adV [.ref h0, .int x1] sz [(h0, .inr (1, mX1 h1 h6 h13 h21 h36 h37 h39 h40 h41 h42 h43 h44 h45 h46 h47 h48 v0)), (h42, zi k42 120 f42)] [(k42, .int)]) (va_Qi (fun (r : Int32) (u : Nat → Int32) => ((-1) ≤ r.toInt ∧ r.toInt ≤ 119) ∧ (r.toInt = zNm f42 (v0 16).toInt x1.toInt)) (fun (u : Nat → Int32) (t : State) => ∃ (ww : Nat → Int64) (aa : Nat → Nat → Int32) (bb : Nat → Nat → Int64), va_P (dC, dI) vwCl [(h0, .inr (1, mX1 h1 h6 h13 h21 h36 h37 h39 h40 h41 h42 h43 h44 h45 h46 h47 h48 v0)), (h42, zi k42 120 f42)] t.heap ∧ va_K (dC, dI) vwCl [(k42, .int)] t ∧ va_D (va_A [(h0, .inr (1, mX1 h1 h6 h13 h21 h36 h37 h39 h40 h41 h42 h43 h44 h45 h46 h47 h48 v0)), (h42, zi k42 120 f42)] sz) [(h0, .inr (1, mX1 h1 h6 h13 h21 h36 h37 h39 h40 h41 h42 h43 h44 h45 h46 h47 h48 v0)), (h42, zi k42 120 f42)]) (va_A [(h0, .inr (1, mX1 h1 h6 h13 h21 h36 h37 h39 h40 h41 h42 h43 h44 h45 h46 h47 h48 v0)), (h42, zi k42 120 f42)] sz)) 0 0 (va_A [(h0, .inr (1, mX1 h1 h6 h13 h21 h36 h37 h39 h40 h41 h42 h43 h44 h45 h46 h47 h48 v0)), (h42, zi k42 120 f42)] sz) := by
  refine Met.ofW (cc := cX1_numberAt) (maxL := 2) (ret := (some .int)) (by decide) rfl ?_
  intro p e s m args below meth c s₁ B hml hv
  obtain ⟨rfl, hsz, hP, hK, hD0, hE, hZ⟩ := hv
  have hx := B.exec
  have hb := B.bytes
  have hr := B.returns
  have hG : ∀ w ∈ zG, w.before _ s = true := fun w h => atoms_spec (ws := (zw yX1_numberAt cX1_numberAt 2 (some .int))) B.pre w (List.mem_cons_of_mem _ h)
  have hown : s.vm.findClass RX1 = some m.cls := findClass_of_methodNamed B.named
  have hlocks := B.notSynchronized

  subst hsz
  have hD := hD0.self (sz := s.heap.size)
  generalize hAe : va_A [(h0, .inr (1, mX1 h1 h6 h13 h21 h36 h37 h39 h40 h41 h42 h43 h44 h45 h46 h47 h48 v0)), (h42, zi k42 120 f42)] s.heap.size = A at hD hZ ⊢
  have hA : ∀ q : Nat, s.heap.size ≤ q → A q := fun q h => by rw [← hAe]; exact Or.inr h
  have hS : va_S A s.heap s.heap [] := va_S.rf
  have hl := lv_entry ([.ref h0, .int x1]) (n := 2) (Nat.le_of_ble_eq_true rfl)
  rw [lg_entry_eq]
  generalize (lg_sl ([.ref h0, .int x1]) ++ List.replicate (2 - (lg_sl ([.ref h0, .int x1])).length) Slot.unset).toArray = ls at hl ⊢
  have hl : lv_has ls 2 [(0, .ref h0), (1, .int x1)] := hl
  have b_ := zk_m1
  have b_ : 0 ≤ (v0 16).toInt ∧ (v0 16).toInt ≤ 120 := hv0 16
  refine lv_iload_n hx hb dX1_numberAt_0 rfl (lv_at hl 1 rfl) ?_
  have b_ : -2147483648 ≤ x1.toInt ∧ x1.toInt ≤ 2147483647 := ⟨zlo _, zhi _⟩
  refine lv_if_lt (tgt := 21) hx hb dX1_numberAt_1 (by decide) (fun c_ => ?_) (fun c_ => ?_)
  · skip
    have b_ := zT_lt rfl zk_0 c_
    refine lv_iconst (v := (-1)) hx hb dX1_numberAt_21 (by decide) ?_
    refine W.widen (k := 0) (n := 0) (by decide) (by decide) ?_
    have hpost : ((-1) ≤ ((-1) : Int32).toInt ∧ ((-1) : Int32).toInt ≤ 119) ∧ (((-1) : Int32).toInt = zNm f42 (v0 16).toInt x1.toInt) := ⟨(by first | with_reducible assumption | exact ⟨by omega, by omega⟩), by first | exact zNm_y (by omega) (by omega) e_z17 | exact zNm_n (by omega) (by decide)⟩
    have hP9 : va_P (dC, dI) vwCl [(h0, .inr (1, mX1 h1 h6 h13 h21 h36 h37 h39 h40 h41 h42 h43 h44 h45 h46 h47 h48 v0)), (h42, zi k42 120 f42)] s.heap := hP
    have hD9 : va_D A [(h0, .inr (1, mX1 h1 h6 h13 h21 h36 h37 h39 h40 h41 h42 h43 h44 h45 h46 h47 h48 v0)), (h42, zi k42 120 f42)] := hD
    exact W.iret (v := (-1)) hx hb hr (fun t ht hW => ⟨⟨(-1), (fun _ => 0), rfl, hpost, (fun _ => 0), (fun _ => (fun _ => 0)), (fun _ => (fun _ => 0)), by rw [ht]; exact hP9, va_K.moved hW.alike hK, hD9⟩, hS.F ht⟩) hS.2.2 dX1_numberAt_22
  · skip
    have b_ := zF_lt rfl zk_0 c_
    refine lv_iload_n hx hb dX1_numberAt_4 rfl (lv_at hl 1 rfl) ?_
    refine lv_aload_n hx hb dX1_numberAt_5 rfl (lv_at hl 0 rfl) ?_
    refine va_get (D := (dC, dI)) (ci := 1) (v := .int (v0 16)) (C := RX1) (T := TX1) (N := 17) hx hb hG zuX1 hown hK hP 0 rfl rfl 16 (by decide) (hG _ zv520) (fun _ h9 => h9) rfl dX1_numberAt_6 ?_
    refine lv_icmp_ge (tgt := 21) hx hb dX1_numberAt_9 (by decide) (fun c_ => ?_) (fun c_ => ?_)
    · skip
      have b_ := zT_ge rfl rfl c_
      refine lv_iconst (v := (-1)) hx hb dX1_numberAt_21 (by decide) ?_
      refine W.widen (k := 0) (n := 0) (by decide) (by decide) ?_
      have hpost : ((-1) ≤ ((-1) : Int32).toInt ∧ ((-1) : Int32).toInt ≤ 119) ∧ (((-1) : Int32).toInt = zNm f42 (v0 16).toInt x1.toInt) := ⟨(by first | with_reducible assumption | exact ⟨by omega, by omega⟩), by first | exact zNm_y (by omega) (by omega) e_z17 | exact zNm_n (by omega) (by decide)⟩
      have hP9 : va_P (dC, dI) vwCl [(h0, .inr (1, mX1 h1 h6 h13 h21 h36 h37 h39 h40 h41 h42 h43 h44 h45 h46 h47 h48 v0)), (h42, zi k42 120 f42)] s.heap := hP
      have hD9 : va_D A [(h0, .inr (1, mX1 h1 h6 h13 h21 h36 h37 h39 h40 h41 h42 h43 h44 h45 h46 h47 h48 v0)), (h42, zi k42 120 f42)] := hD
      exact W.iret (v := (-1)) hx hb hr (fun t ht hW => ⟨⟨(-1), (fun _ => 0), rfl, hpost, (fun _ => 0), (fun _ => (fun _ => 0)), (fun _ => (fun _ => 0)), by rw [ht]; exact hP9, va_K.moved hW.alike hK, hD9⟩, hS.F ht⟩) hS.2.2 dX1_numberAt_22
    · skip
      have b_ := zF_ge rfl rfl c_
      refine lv_aload_n hx hb dX1_numberAt_12 rfl (lv_at hl 0 rfl) ?_
      refine va_get (D := (dC, dI)) (ci := 1) (v := .ref h42) (C := RX1) (T := TX1) (N := 17) hx hb hG zuX1 hown hK hP 0 rfl rfl 9 (by decide) (hG _ zv513) (fun _ h9 => h9) rfl dX1_numberAt_13 ?_
      refine lv_iload_n hx hb dX1_numberAt_16 rfl (lv_at hl 1 rfl) ?_
      refine va_iald hx hb hK hP 1 0 rfl rfl (zin_lit ⟨by omega, by omega⟩) dX1_numberAt_17 ?_
      refine lv_topi (fun z17 e_z17 => ?_)
      have b_ : 0 ≤ z17.toInt ∧ z17.toInt ≤ 119 := by rw [e_z17]; exact hf42 _
      refine lv_goto (tgt := 22) hx hb dX1_numberAt_18 (by decide) ?_
      refine W.widen (k := 0) (n := 0) (by decide) (by decide) ?_
      have hpost : ((-1) ≤ z17.toInt ∧ z17.toInt ≤ 119) ∧ (z17.toInt = zNm f42 (v0 16).toInt x1.toInt) := ⟨(by first | with_reducible assumption | exact ⟨by omega, by omega⟩), by first | exact zNm_y (by omega) (by omega) e_z17 | exact zNm_n (by omega) (by decide)⟩
      have hP9 : va_P (dC, dI) vwCl [(h0, .inr (1, mX1 h1 h6 h13 h21 h36 h37 h39 h40 h41 h42 h43 h44 h45 h46 h47 h48 v0)), (h42, zi k42 120 f42)] s.heap := hP
      have hD9 : va_D A [(h0, .inr (1, mX1 h1 h6 h13 h21 h36 h37 h39 h40 h41 h42 h43 h44 h45 h46 h47 h48 v0)), (h42, zi k42 120 f42)] := hD
      exact W.iret (v := z17) hx hb hr (fun t ht hW => ⟨⟨z17, (fun _ => 0), rfl, hpost, (fun _ => 0), (fun _ => (fun _ => 0)), (fun _ => (fun _ => 0)), by rw [ht]; exact hP9, va_K.moved hW.alike hK, hD9⟩, hS.F ht⟩) hS.2.2 dX1_numberAt_22
set_option maxHeartbeats 8000000 in
set_option maxRecDepth 100000 in
theorem sX1_rankedNumber_0 (l : Launch) (dC : Nat → ClassId) (dI : Nat → Nat → Nat) (adK adV : Nat → Nat) (h0 : Nat) (h45 : Nat) (h42 : Nat) (h1 : Nat) (h6 : Nat) (h13 : Nat) (h21 : Nat) (h36 : Nat) (h37 : Nat) (h39 : Nat) (h40 : Nat) (h41 : Nat) (h43 : Nat) (h44 : Nat) (h46 : Nat) (h47 : Nat) (h48 : Nat) (k45 : ClassId) (k42 : ClassId) (sz : Nat) (v0 : Nat → Int32) (f45 : Nat → Int32) (f42 : Nat → Int32) (x1 : Int32) (hv0 : zR rg_Finder v0) (hf45 : zA 0 119 f45) (hf42 : zA 0 119 f42) : Met l yX1_rankedNumber (zw yX1_rankedNumber cX1_rankedNumber 2 (some .int)) { frames := 0, cells := 0, slots := 0, locals := 0 } (zPc dC dI adK adV [.ref h0, .int x1] sz [(h0, .inr (1, mX1 h1 h6 h13 h21 h36 h37 h39 h40 h41 h42 h43 h44 h45 h46 h47 h48 v0)), (h45, zi k45 120 f45), (h42, zi k42 120 f42)] [(k45, .int), (k42, .int)]) (va_Qi (fun (r : Int32) (u : Nat → Int32) => ((-1) ≤ r.toInt ∧ r.toInt ≤ 119) ∧ (zW (0 ≤ x1.toInt → x1.toInt < (v0 16).toInt → r.toInt = (f42 (f45 ((x1 : Int32)).toNatClampNeg).toNatClampNeg).toInt))) (fun (u : Nat → Int32) (t : State) => ∃ (ww : Nat → Int64) (aa : Nat → Nat → Int32) (bb : Nat → Nat → Int64), va_P (dC, dI) vwCl [(h0, .inr (1, mX1 h1 h6 h13 h21 h36 h37 h39 h40 h41 h42 h43 h44 h45 h46 h47 h48 v0)), (h45, zi k45 120 f45), (h42, zi k42 120 f42)] t.heap ∧ va_K (dC, dI) vwCl [(k45, .int), (k42, .int)] t ∧ va_D (va_A [(h0, .inr (1, mX1 h1 h6 h13 h21 h36 h37 h39 h40 h41 h42 h43 h44 h45 h46 h47 h48 v0)), (h45, zi k45 120 f45), (h42, zi k42 120 f42)] sz) [(h0, .inr (1, mX1 h1 h6 h13 h21 h36 h37 h39 h40 h41 h42 h43 h44 h45 h46 h47 h48 v0)), (h45, zi k45 120 f45), (h42, zi k42 120 f42)]) (va_A [(h0, .inr (1, mX1 h1 h6 h13 h21 h36 h37 h39 h40 h41 h42 h43 h44 h45 h46 h47 h48 v0)), (h45, zi k45 120 f45), (h42, zi k42 120 f42)] sz)) 0 0 (va_A [(h0, .inr (1, mX1 h1 h6 h13 h21 h36 h37 h39 h40 h41 h42 h43 h44 h45 h46 h47 h48 v0)), (h45, zi k45 120 f45), (h42, zi k42 120 f42)] sz) := by
  refine Met.ofW (cc := cX1_rankedNumber) (maxL := 2) (ret := (some .int)) (by decide) rfl ?_
  intro p e s m args below meth c s₁ B hml hv
  obtain ⟨rfl, hsz, hP, hK, hD0, hE, hZ⟩ := hv
  have hx := B.exec
  have hb := B.bytes
  have hr := B.returns
  have hG : ∀ w ∈ zG, w.before _ s = true := fun w h => atoms_spec (ws := (zw yX1_rankedNumber cX1_rankedNumber 2 (some .int))) B.pre w (List.mem_cons_of_mem _ h)
  have hown : s.vm.findClass RX1 = some m.cls := findClass_of_methodNamed B.named
  have hlocks := B.notSynchronized

  subst hsz
  have hD := hD0.self (sz := s.heap.size)
  generalize hAe : va_A [(h0, .inr (1, mX1 h1 h6 h13 h21 h36 h37 h39 h40 h41 h42 h43 h44 h45 h46 h47 h48 v0)), (h45, zi k45 120 f45), (h42, zi k42 120 f42)] s.heap.size = A at hD hZ ⊢
  have hA : ∀ q : Nat, s.heap.size ≤ q → A q := fun q h => by rw [← hAe]; exact Or.inr h
  have hS : va_S A s.heap s.heap [] := va_S.rf
  have hl := lv_entry ([.ref h0, .int x1]) (n := 2) (Nat.le_of_ble_eq_true rfl)
  rw [lg_entry_eq]
  generalize (lg_sl ([.ref h0, .int x1]) ++ List.replicate (2 - (lg_sl ([.ref h0, .int x1])).length) Slot.unset).toArray = ls at hl ⊢
  have hl : lv_has ls 2 [(0, .ref h0), (1, .int x1)] := hl
  have b_ := zk_m1
  have b_ : 0 ≤ (v0 16).toInt ∧ (v0 16).toInt ≤ 120 := hv0 16
  refine lv_iload_n hx hb dX1_rankedNumber_0 rfl (lv_at hl 1 rfl) ?_
  have b_ : -2147483648 ≤ x1.toInt ∧ x1.toInt ≤ 2147483647 := ⟨zlo _, zhi _⟩
  refine lv_if_lt (tgt := 26) hx hb dX1_rankedNumber_1 (by decide) (fun c_ => ?_) (fun c_ => ?_)
  · skip
    have b_ := zT_lt rfl zk_0 c_
    refine lv_iconst (v := (-1)) hx hb dX1_rankedNumber_26 (by decide) ?_
    refine W.widen (k := 0) (n := 0) (by decide) (by decide) ?_
    have hpost : ((-1) ≤ ((-1) : Int32).toInt ∧ ((-1) : Int32).toInt ≤ 119) ∧ (zW (0 ≤ x1.toInt → x1.toInt < (v0 16).toInt → ((-1) : Int32).toInt = (f42 (f45 ((x1 : Int32)).toNatClampNeg).toNatClampNeg).toInt)) := ⟨(by first | with_reducible assumption | exact ⟨by omega, by omega⟩), by first | exact fun _ _ => (by rw [e_z22, e_z21]) | (intro q_ q2_; omega)⟩
    have hP9 : va_P (dC, dI) vwCl [(h0, .inr (1, mX1 h1 h6 h13 h21 h36 h37 h39 h40 h41 h42 h43 h44 h45 h46 h47 h48 v0)), (h45, zi k45 120 f45), (h42, zi k42 120 f42)] s.heap := hP
    have hD9 : va_D A [(h0, .inr (1, mX1 h1 h6 h13 h21 h36 h37 h39 h40 h41 h42 h43 h44 h45 h46 h47 h48 v0)), (h45, zi k45 120 f45), (h42, zi k42 120 f42)] := hD
    exact W.iret (v := (-1)) hx hb hr (fun t ht hW => ⟨⟨(-1), (fun _ => 0), rfl, hpost, (fun _ => 0), (fun _ => (fun _ => 0)), (fun _ => (fun _ => 0)), by rw [ht]; exact hP9, va_K.moved hW.alike hK, hD9⟩, hS.F ht⟩) hS.2.2 dX1_rankedNumber_27
  · skip
    have b_ := zF_lt rfl zk_0 c_
    refine lv_iload_n hx hb dX1_rankedNumber_4 rfl (lv_at hl 1 rfl) ?_
    refine lv_aload_n hx hb dX1_rankedNumber_5 rfl (lv_at hl 0 rfl) ?_
    refine va_get (D := (dC, dI)) (ci := 1) (v := .int (v0 16)) (C := RX1) (T := TX1) (N := 17) hx hb hG zuX1 hown hK hP 0 rfl rfl 16 (by decide) (hG _ zv520) (fun _ h9 => h9) rfl dX1_rankedNumber_6 ?_
    refine lv_icmp_ge (tgt := 26) hx hb dX1_rankedNumber_9 (by decide) (fun c_ => ?_) (fun c_ => ?_)
    · skip
      have b_ := zT_ge rfl rfl c_
      refine lv_iconst (v := (-1)) hx hb dX1_rankedNumber_26 (by decide) ?_
      refine W.widen (k := 0) (n := 0) (by decide) (by decide) ?_
      have hpost : ((-1) ≤ ((-1) : Int32).toInt ∧ ((-1) : Int32).toInt ≤ 119) ∧ (zW (0 ≤ x1.toInt → x1.toInt < (v0 16).toInt → ((-1) : Int32).toInt = (f42 (f45 ((x1 : Int32)).toNatClampNeg).toNatClampNeg).toInt)) := ⟨(by first | with_reducible assumption | exact ⟨by omega, by omega⟩), by first | exact fun _ _ => (by rw [e_z22, e_z21]) | (intro q_ q2_; omega)⟩
      have hP9 : va_P (dC, dI) vwCl [(h0, .inr (1, mX1 h1 h6 h13 h21 h36 h37 h39 h40 h41 h42 h43 h44 h45 h46 h47 h48 v0)), (h45, zi k45 120 f45), (h42, zi k42 120 f42)] s.heap := hP
      have hD9 : va_D A [(h0, .inr (1, mX1 h1 h6 h13 h21 h36 h37 h39 h40 h41 h42 h43 h44 h45 h46 h47 h48 v0)), (h45, zi k45 120 f45), (h42, zi k42 120 f42)] := hD
      exact W.iret (v := (-1)) hx hb hr (fun t ht hW => ⟨⟨(-1), (fun _ => 0), rfl, hpost, (fun _ => 0), (fun _ => (fun _ => 0)), (fun _ => (fun _ => 0)), by rw [ht]; exact hP9, va_K.moved hW.alike hK, hD9⟩, hS.F ht⟩) hS.2.2 dX1_rankedNumber_27
    · skip
      have b_ := zF_ge rfl rfl c_
      refine lv_aload_n hx hb dX1_rankedNumber_12 rfl (lv_at hl 0 rfl) ?_
      refine va_get (D := (dC, dI)) (ci := 1) (v := .ref h42) (C := RX1) (T := TX1) (N := 17) hx hb hG zuX1 hown hK hP 0 rfl rfl 9 (by decide) (hG _ zv513) (fun _ h9 => h9) rfl dX1_rankedNumber_13 ?_
      refine lv_aload_n hx hb dX1_rankedNumber_16 rfl (lv_at hl 0 rfl) ?_
      refine va_get (D := (dC, dI)) (ci := 1) (v := .ref h45) (C := RX1) (T := TX1) (N := 17) hx hb hG zuX1 hown hK hP 0 rfl rfl 12 (by decide) (hG _ zv516) (fun _ h9 => h9) rfl dX1_rankedNumber_17 ?_
      refine lv_iload_n hx hb dX1_rankedNumber_20 rfl (lv_at hl 1 rfl) ?_
      refine va_iald hx hb hK hP 1 0 rfl rfl (zin_lit ⟨by omega, by omega⟩) dX1_rankedNumber_21 ?_
      refine lv_topi (fun z21 e_z21 => ?_)
      have b_ : 0 ≤ z21.toInt ∧ z21.toInt ≤ 119 := by rw [e_z21]; exact hf45 _
      refine va_iald hx hb hK hP 2 1 rfl rfl (zin_lit ⟨by omega, by omega⟩) dX1_rankedNumber_22 ?_
      refine lv_topi (fun z22 e_z22 => ?_)
      have b_ : 0 ≤ z22.toInt ∧ z22.toInt ≤ 119 := by rw [e_z22]; exact hf42 _
      refine lv_goto (tgt := 27) hx hb dX1_rankedNumber_23 (by decide) ?_
      refine W.widen (k := 0) (n := 0) (by decide) (by decide) ?_
      have hpost : ((-1) ≤ z22.toInt ∧ z22.toInt ≤ 119) ∧ (zW (0 ≤ x1.toInt → x1.toInt < (v0 16).toInt → z22.toInt = (f42 (f45 ((x1 : Int32)).toNatClampNeg).toNatClampNeg).toInt)) := ⟨(by first | with_reducible assumption | exact ⟨by omega, by omega⟩), by first | exact fun _ _ => (by rw [e_z22, e_z21]) | (intro q_ q2_; omega)⟩
      have hP9 : va_P (dC, dI) vwCl [(h0, .inr (1, mX1 h1 h6 h13 h21 h36 h37 h39 h40 h41 h42 h43 h44 h45 h46 h47 h48 v0)), (h45, zi k45 120 f45), (h42, zi k42 120 f42)] s.heap := hP
      have hD9 : va_D A [(h0, .inr (1, mX1 h1 h6 h13 h21 h36 h37 h39 h40 h41 h42 h43 h44 h45 h46 h47 h48 v0)), (h45, zi k45 120 f45), (h42, zi k42 120 f42)] := hD
      exact W.iret (v := z22) hx hb hr (fun t ht hW => ⟨⟨z22, (fun _ => 0), rfl, hpost, (fun _ => 0), (fun _ => (fun _ => 0)), (fun _ => (fun _ => 0)), by rw [ht]; exact hP9, va_K.moved hW.alike hK, hD9⟩, hS.F ht⟩) hS.2.2 dX1_rankedNumber_27
set_option maxHeartbeats 8000000 in
set_option maxRecDepth 100000 in
theorem sX1_rankedScore_0 (l : Launch) (dC : Nat → ClassId) (dI : Nat → Nat → Nat) (adK adV : Nat → Nat) (h0 : Nat) (h45 : Nat) (h44 : Nat) (h1 : Nat) (h6 : Nat) (h13 : Nat) (h21 : Nat) (h36 : Nat) (h37 : Nat) (h39 : Nat) (h40 : Nat) (h41 : Nat) (h42 : Nat) (h43 : Nat) (h46 : Nat) (h47 : Nat) (h48 : Nat) (k45 : ClassId) (k44 : ClassId) (sz : Nat) (v0 : Nat → Int32) (f45 : Nat → Int32) (f44 : Nat → Int32) (x1 : Int32) (hv0 : zR rg_Finder v0) (hf45 : zA 0 119 f45) : Met l yX1_rankedScore (zw yX1_rankedScore cX1_rankedScore 2 (some .int)) { frames := 0, cells := 0, slots := 0, locals := 0 } (zPc dC dI adK adV [.ref h0, .int x1] sz [(h0, .inr (1, mX1 h1 h6 h13 h21 h36 h37 h39 h40 h41 h42 h43 h44 h45 h46 h47 h48 v0)), (h45, zi k45 120 f45), (h44, zi k44 120 f44)] [(k45, .int), (k44, .int)]) (va_Qi (fun (r : Int32) (u : Nat → Int32) => (zW (0 ≤ x1.toInt → x1.toInt < (v0 16).toInt → r.toInt = (f44 (f45 ((x1 : Int32)).toNatClampNeg).toNatClampNeg).toInt))) (fun (u : Nat → Int32) (t : State) => ∃ (ww : Nat → Int64) (aa : Nat → Nat → Int32) (bb : Nat → Nat → Int64), va_P (dC, dI) vwCl [(h0, .inr (1, mX1 h1 h6 h13 h21 h36 h37 h39 h40 h41 h42 h43 h44 h45 h46 h47 h48 v0)), (h45, zi k45 120 f45), (h44, zi k44 120 f44)] t.heap ∧ va_K (dC, dI) vwCl [(k45, .int), (k44, .int)] t ∧ va_D (va_A [(h0, .inr (1, mX1 h1 h6 h13 h21 h36 h37 h39 h40 h41 h42 h43 h44 h45 h46 h47 h48 v0)), (h45, zi k45 120 f45), (h44, zi k44 120 f44)] sz) [(h0, .inr (1, mX1 h1 h6 h13 h21 h36 h37 h39 h40 h41 h42 h43 h44 h45 h46 h47 h48 v0)), (h45, zi k45 120 f45), (h44, zi k44 120 f44)]) (va_A [(h0, .inr (1, mX1 h1 h6 h13 h21 h36 h37 h39 h40 h41 h42 h43 h44 h45 h46 h47 h48 v0)), (h45, zi k45 120 f45), (h44, zi k44 120 f44)] sz)) 0 0 (va_A [(h0, .inr (1, mX1 h1 h6 h13 h21 h36 h37 h39 h40 h41 h42 h43 h44 h45 h46 h47 h48 v0)), (h45, zi k45 120 f45), (h44, zi k44 120 f44)] sz) := by
  refine Met.ofW (cc := cX1_rankedScore) (maxL := 2) (ret := (some .int)) (by decide) rfl ?_
  intro p e s m args below meth c s₁ B hml hv
  obtain ⟨rfl, hsz, hP, hK, hD0, hE, hZ⟩ := hv
  have hx := B.exec
  have hb := B.bytes
  have hr := B.returns
  have hG : ∀ w ∈ zG, w.before _ s = true := fun w h => atoms_spec (ws := (zw yX1_rankedScore cX1_rankedScore 2 (some .int))) B.pre w (List.mem_cons_of_mem _ h)
  have hown : s.vm.findClass RX1 = some m.cls := findClass_of_methodNamed B.named
  have hlocks := B.notSynchronized

  subst hsz
  have hD := hD0.self (sz := s.heap.size)
  generalize hAe : va_A [(h0, .inr (1, mX1 h1 h6 h13 h21 h36 h37 h39 h40 h41 h42 h43 h44 h45 h46 h47 h48 v0)), (h45, zi k45 120 f45), (h44, zi k44 120 f44)] s.heap.size = A at hD hZ ⊢
  have hA : ∀ q : Nat, s.heap.size ≤ q → A q := fun q h => by rw [← hAe]; exact Or.inr h
  have hS : va_S A s.heap s.heap [] := va_S.rf
  have hl := lv_entry ([.ref h0, .int x1]) (n := 2) (Nat.le_of_ble_eq_true rfl)
  rw [lg_entry_eq]
  generalize (lg_sl ([.ref h0, .int x1]) ++ List.replicate (2 - (lg_sl ([.ref h0, .int x1])).length) Slot.unset).toArray = ls at hl ⊢
  have hl : lv_has ls 2 [(0, .ref h0), (1, .int x1)] := hl
  have b_ := zk_m1
  have b_ : 0 ≤ (v0 16).toInt ∧ (v0 16).toInt ≤ 120 := hv0 16
  refine lv_iload_n hx hb dX1_rankedScore_0 rfl (lv_at hl 1 rfl) ?_
  have b_ : -2147483648 ≤ x1.toInt ∧ x1.toInt ≤ 2147483647 := ⟨zlo _, zhi _⟩
  refine lv_if_lt (tgt := 26) hx hb dX1_rankedScore_1 (by decide) (fun c_ => ?_) (fun c_ => ?_)
  · skip
    have b_ := zT_lt rfl zk_0 c_
    refine lv_iconst (v := (-1)) hx hb dX1_rankedScore_26 (by decide) ?_
    refine W.widen (k := 0) (n := 0) (by decide) (by decide) ?_
    have hpost : (zW (0 ≤ x1.toInt → x1.toInt < (v0 16).toInt → ((-1) : Int32).toInt = (f44 (f45 ((x1 : Int32)).toNatClampNeg).toNatClampNeg).toInt)) := by first | exact fun _ _ => (by rw [e_z22, e_z21]) | (intro q_ q2_; omega)
    have hP9 : va_P (dC, dI) vwCl [(h0, .inr (1, mX1 h1 h6 h13 h21 h36 h37 h39 h40 h41 h42 h43 h44 h45 h46 h47 h48 v0)), (h45, zi k45 120 f45), (h44, zi k44 120 f44)] s.heap := hP
    have hD9 : va_D A [(h0, .inr (1, mX1 h1 h6 h13 h21 h36 h37 h39 h40 h41 h42 h43 h44 h45 h46 h47 h48 v0)), (h45, zi k45 120 f45), (h44, zi k44 120 f44)] := hD
    exact W.iret (v := (-1)) hx hb hr (fun t ht hW => ⟨⟨(-1), (fun _ => 0), rfl, hpost, (fun _ => 0), (fun _ => (fun _ => 0)), (fun _ => (fun _ => 0)), by rw [ht]; exact hP9, va_K.moved hW.alike hK, hD9⟩, hS.F ht⟩) hS.2.2 dX1_rankedScore_27
  · skip
    have b_ := zF_lt rfl zk_0 c_
    refine lv_iload_n hx hb dX1_rankedScore_4 rfl (lv_at hl 1 rfl) ?_
    refine lv_aload_n hx hb dX1_rankedScore_5 rfl (lv_at hl 0 rfl) ?_
    refine va_get (D := (dC, dI)) (ci := 1) (v := .int (v0 16)) (C := RX1) (T := TX1) (N := 17) hx hb hG zuX1 hown hK hP 0 rfl rfl 16 (by decide) (hG _ zv520) (fun _ h9 => h9) rfl dX1_rankedScore_6 ?_
    refine lv_icmp_ge (tgt := 26) hx hb dX1_rankedScore_9 (by decide) (fun c_ => ?_) (fun c_ => ?_)
    · skip
      have b_ := zT_ge rfl rfl c_
      refine lv_iconst (v := (-1)) hx hb dX1_rankedScore_26 (by decide) ?_
      refine W.widen (k := 0) (n := 0) (by decide) (by decide) ?_
      have hpost : (zW (0 ≤ x1.toInt → x1.toInt < (v0 16).toInt → ((-1) : Int32).toInt = (f44 (f45 ((x1 : Int32)).toNatClampNeg).toNatClampNeg).toInt)) := by first | exact fun _ _ => (by rw [e_z22, e_z21]) | (intro q_ q2_; omega)
      have hP9 : va_P (dC, dI) vwCl [(h0, .inr (1, mX1 h1 h6 h13 h21 h36 h37 h39 h40 h41 h42 h43 h44 h45 h46 h47 h48 v0)), (h45, zi k45 120 f45), (h44, zi k44 120 f44)] s.heap := hP
      have hD9 : va_D A [(h0, .inr (1, mX1 h1 h6 h13 h21 h36 h37 h39 h40 h41 h42 h43 h44 h45 h46 h47 h48 v0)), (h45, zi k45 120 f45), (h44, zi k44 120 f44)] := hD
      exact W.iret (v := (-1)) hx hb hr (fun t ht hW => ⟨⟨(-1), (fun _ => 0), rfl, hpost, (fun _ => 0), (fun _ => (fun _ => 0)), (fun _ => (fun _ => 0)), by rw [ht]; exact hP9, va_K.moved hW.alike hK, hD9⟩, hS.F ht⟩) hS.2.2 dX1_rankedScore_27
    · skip
      have b_ := zF_ge rfl rfl c_
      refine lv_aload_n hx hb dX1_rankedScore_12 rfl (lv_at hl 0 rfl) ?_
      refine va_get (D := (dC, dI)) (ci := 1) (v := .ref h44) (C := RX1) (T := TX1) (N := 17) hx hb hG zuX1 hown hK hP 0 rfl rfl 11 (by decide) (hG _ zv515) (fun _ h9 => h9) rfl dX1_rankedScore_13 ?_
      refine lv_aload_n hx hb dX1_rankedScore_16 rfl (lv_at hl 0 rfl) ?_
      refine va_get (D := (dC, dI)) (ci := 1) (v := .ref h45) (C := RX1) (T := TX1) (N := 17) hx hb hG zuX1 hown hK hP 0 rfl rfl 12 (by decide) (hG _ zv516) (fun _ h9 => h9) rfl dX1_rankedScore_17 ?_
      refine lv_iload_n hx hb dX1_rankedScore_20 rfl (lv_at hl 1 rfl) ?_
      refine va_iald hx hb hK hP 1 0 rfl rfl (zin_lit ⟨by omega, by omega⟩) dX1_rankedScore_21 ?_
      refine lv_topi (fun z21 e_z21 => ?_)
      have b_ : 0 ≤ z21.toInt ∧ z21.toInt ≤ 119 := by rw [e_z21]; exact hf45 _
      refine va_iald hx hb hK hP 2 1 rfl rfl (zin_lit ⟨by omega, by omega⟩) dX1_rankedScore_22 ?_
      refine lv_topi (fun z22 e_z22 => ?_)
      refine lv_goto (tgt := 27) hx hb dX1_rankedScore_23 (by decide) ?_
      refine W.widen (k := 0) (n := 0) (by decide) (by decide) ?_
      have b_ : -2147483648 ≤ z22.toInt ∧ z22.toInt ≤ 2147483647 := ⟨zlo _, zhi _⟩
      have hpost : (zW (0 ≤ x1.toInt → x1.toInt < (v0 16).toInt → z22.toInt = (f44 (f45 ((x1 : Int32)).toNatClampNeg).toNatClampNeg).toInt)) := by first | exact fun _ _ => (by rw [e_z22, e_z21]) | (intro q_ q2_; omega)
      have hP9 : va_P (dC, dI) vwCl [(h0, .inr (1, mX1 h1 h6 h13 h21 h36 h37 h39 h40 h41 h42 h43 h44 h45 h46 h47 h48 v0)), (h45, zi k45 120 f45), (h44, zi k44 120 f44)] s.heap := hP
      have hD9 : va_D A [(h0, .inr (1, mX1 h1 h6 h13 h21 h36 h37 h39 h40 h41 h42 h43 h44 h45 h46 h47 h48 v0)), (h45, zi k45 120 f45), (h44, zi k44 120 f44)] := hD
      exact W.iret (v := z22) hx hb hr (fun t ht hW => ⟨⟨z22, (fun _ => 0), rfl, hpost, (fun _ => 0), (fun _ => (fun _ => 0)), (fun _ => (fun _ => 0)), by rw [ht]; exact hP9, va_K.moved hW.alike hK, hD9⟩, hS.F ht⟩) hS.2.2 dX1_rankedScore_27
set_option maxHeartbeats 8000000 in
set_option maxRecDepth 100000 in
theorem sX1_rankedPlace_0 (l : Launch) (dC : Nat → ClassId) (dI : Nat → Nat → Nat) (adK adV : Nat → Nat) (h0 : Nat) (h45 : Nat) (h43 : Nat) (h1 : Nat) (h6 : Nat) (h13 : Nat) (h21 : Nat) (h36 : Nat) (h37 : Nat) (h39 : Nat) (h40 : Nat) (h41 : Nat) (h42 : Nat) (h44 : Nat) (h46 : Nat) (h47 : Nat) (h48 : Nat) (k45 : ClassId) (k43 : ClassId) (sz : Nat) (v0 : Nat → Int32) (f45 : Nat → Int32) (f43 : Nat → Int32) (x1 : Int32) (hv0 : zR rg_Finder v0) (hf45 : zA 0 119 f45) : Met l yX1_rankedPlace (zw yX1_rankedPlace cX1_rankedPlace 2 (some .int)) { frames := 0, cells := 0, slots := 0, locals := 0 } (zPc dC dI adK adV [.ref h0, .int x1] sz [(h0, .inr (1, mX1 h1 h6 h13 h21 h36 h37 h39 h40 h41 h42 h43 h44 h45 h46 h47 h48 v0)), (h45, zi k45 120 f45), (h43, zi k43 120 f43)] [(k45, .int), (k43, .int)]) (va_Qi (fun (r : Int32) (u : Nat → Int32) => (zW (0 ≤ x1.toInt → x1.toInt < (v0 16).toInt → r.toInt = (f43 (f45 ((x1 : Int32)).toNatClampNeg).toNatClampNeg).toInt))) (fun (u : Nat → Int32) (t : State) => ∃ (ww : Nat → Int64) (aa : Nat → Nat → Int32) (bb : Nat → Nat → Int64), va_P (dC, dI) vwCl [(h0, .inr (1, mX1 h1 h6 h13 h21 h36 h37 h39 h40 h41 h42 h43 h44 h45 h46 h47 h48 v0)), (h45, zi k45 120 f45), (h43, zi k43 120 f43)] t.heap ∧ va_K (dC, dI) vwCl [(k45, .int), (k43, .int)] t ∧ va_D (va_A [(h0, .inr (1, mX1 h1 h6 h13 h21 h36 h37 h39 h40 h41 h42 h43 h44 h45 h46 h47 h48 v0)), (h45, zi k45 120 f45), (h43, zi k43 120 f43)] sz) [(h0, .inr (1, mX1 h1 h6 h13 h21 h36 h37 h39 h40 h41 h42 h43 h44 h45 h46 h47 h48 v0)), (h45, zi k45 120 f45), (h43, zi k43 120 f43)]) (va_A [(h0, .inr (1, mX1 h1 h6 h13 h21 h36 h37 h39 h40 h41 h42 h43 h44 h45 h46 h47 h48 v0)), (h45, zi k45 120 f45), (h43, zi k43 120 f43)] sz)) 0 0 (va_A [(h0, .inr (1, mX1 h1 h6 h13 h21 h36 h37 h39 h40 h41 h42 h43 h44 h45 h46 h47 h48 v0)), (h45, zi k45 120 f45), (h43, zi k43 120 f43)] sz) := by
  refine Met.ofW (cc := cX1_rankedPlace) (maxL := 2) (ret := (some .int)) (by decide) rfl ?_
  intro p e s m args below meth c s₁ B hml hv
  obtain ⟨rfl, hsz, hP, hK, hD0, hE, hZ⟩ := hv
  have hx := B.exec
  have hb := B.bytes
  have hr := B.returns
  have hG : ∀ w ∈ zG, w.before _ s = true := fun w h => atoms_spec (ws := (zw yX1_rankedPlace cX1_rankedPlace 2 (some .int))) B.pre w (List.mem_cons_of_mem _ h)
  have hown : s.vm.findClass RX1 = some m.cls := findClass_of_methodNamed B.named
  have hlocks := B.notSynchronized

  subst hsz
  have hD := hD0.self (sz := s.heap.size)
  generalize hAe : va_A [(h0, .inr (1, mX1 h1 h6 h13 h21 h36 h37 h39 h40 h41 h42 h43 h44 h45 h46 h47 h48 v0)), (h45, zi k45 120 f45), (h43, zi k43 120 f43)] s.heap.size = A at hD hZ ⊢
  have hA : ∀ q : Nat, s.heap.size ≤ q → A q := fun q h => by rw [← hAe]; exact Or.inr h
  have hS : va_S A s.heap s.heap [] := va_S.rf
  have hl := lv_entry ([.ref h0, .int x1]) (n := 2) (Nat.le_of_ble_eq_true rfl)
  rw [lg_entry_eq]
  generalize (lg_sl ([.ref h0, .int x1]) ++ List.replicate (2 - (lg_sl ([.ref h0, .int x1])).length) Slot.unset).toArray = ls at hl ⊢
  have hl : lv_has ls 2 [(0, .ref h0), (1, .int x1)] := hl
  have b_ := zk_m1
  have b_ : 0 ≤ (v0 16).toInt ∧ (v0 16).toInt ≤ 120 := hv0 16
  refine lv_iload_n hx hb dX1_rankedPlace_0 rfl (lv_at hl 1 rfl) ?_
  have b_ : -2147483648 ≤ x1.toInt ∧ x1.toInt ≤ 2147483647 := ⟨zlo _, zhi _⟩
  refine lv_if_lt (tgt := 26) hx hb dX1_rankedPlace_1 (by decide) (fun c_ => ?_) (fun c_ => ?_)
  · skip
    have b_ := zT_lt rfl zk_0 c_
    refine lv_iconst (v := (-1)) hx hb dX1_rankedPlace_26 (by decide) ?_
    refine W.widen (k := 0) (n := 0) (by decide) (by decide) ?_
    have hpost : (zW (0 ≤ x1.toInt → x1.toInt < (v0 16).toInt → ((-1) : Int32).toInt = (f43 (f45 ((x1 : Int32)).toNatClampNeg).toNatClampNeg).toInt)) := by first | exact fun _ _ => (by rw [e_z22, e_z21]) | (intro q_ q2_; omega)
    have hP9 : va_P (dC, dI) vwCl [(h0, .inr (1, mX1 h1 h6 h13 h21 h36 h37 h39 h40 h41 h42 h43 h44 h45 h46 h47 h48 v0)), (h45, zi k45 120 f45), (h43, zi k43 120 f43)] s.heap := hP
    have hD9 : va_D A [(h0, .inr (1, mX1 h1 h6 h13 h21 h36 h37 h39 h40 h41 h42 h43 h44 h45 h46 h47 h48 v0)), (h45, zi k45 120 f45), (h43, zi k43 120 f43)] := hD
    exact W.iret (v := (-1)) hx hb hr (fun t ht hW => ⟨⟨(-1), (fun _ => 0), rfl, hpost, (fun _ => 0), (fun _ => (fun _ => 0)), (fun _ => (fun _ => 0)), by rw [ht]; exact hP9, va_K.moved hW.alike hK, hD9⟩, hS.F ht⟩) hS.2.2 dX1_rankedPlace_27
  · skip
    have b_ := zF_lt rfl zk_0 c_
    refine lv_iload_n hx hb dX1_rankedPlace_4 rfl (lv_at hl 1 rfl) ?_
    refine lv_aload_n hx hb dX1_rankedPlace_5 rfl (lv_at hl 0 rfl) ?_
    refine va_get (D := (dC, dI)) (ci := 1) (v := .int (v0 16)) (C := RX1) (T := TX1) (N := 17) hx hb hG zuX1 hown hK hP 0 rfl rfl 16 (by decide) (hG _ zv520) (fun _ h9 => h9) rfl dX1_rankedPlace_6 ?_
    refine lv_icmp_ge (tgt := 26) hx hb dX1_rankedPlace_9 (by decide) (fun c_ => ?_) (fun c_ => ?_)
    · skip
      have b_ := zT_ge rfl rfl c_
      refine lv_iconst (v := (-1)) hx hb dX1_rankedPlace_26 (by decide) ?_
      refine W.widen (k := 0) (n := 0) (by decide) (by decide) ?_
      have hpost : (zW (0 ≤ x1.toInt → x1.toInt < (v0 16).toInt → ((-1) : Int32).toInt = (f43 (f45 ((x1 : Int32)).toNatClampNeg).toNatClampNeg).toInt)) := by first | exact fun _ _ => (by rw [e_z22, e_z21]) | (intro q_ q2_; omega)
      have hP9 : va_P (dC, dI) vwCl [(h0, .inr (1, mX1 h1 h6 h13 h21 h36 h37 h39 h40 h41 h42 h43 h44 h45 h46 h47 h48 v0)), (h45, zi k45 120 f45), (h43, zi k43 120 f43)] s.heap := hP
      have hD9 : va_D A [(h0, .inr (1, mX1 h1 h6 h13 h21 h36 h37 h39 h40 h41 h42 h43 h44 h45 h46 h47 h48 v0)), (h45, zi k45 120 f45), (h43, zi k43 120 f43)] := hD
      exact W.iret (v := (-1)) hx hb hr (fun t ht hW => ⟨⟨(-1), (fun _ => 0), rfl, hpost, (fun _ => 0), (fun _ => (fun _ => 0)), (fun _ => (fun _ => 0)), by rw [ht]; exact hP9, va_K.moved hW.alike hK, hD9⟩, hS.F ht⟩) hS.2.2 dX1_rankedPlace_27
    · skip
      have b_ := zF_ge rfl rfl c_
      refine lv_aload_n hx hb dX1_rankedPlace_12 rfl (lv_at hl 0 rfl) ?_
      refine va_get (D := (dC, dI)) (ci := 1) (v := .ref h43) (C := RX1) (T := TX1) (N := 17) hx hb hG zuX1 hown hK hP 0 rfl rfl 10 (by decide) (hG _ zv514) (fun _ h9 => h9) rfl dX1_rankedPlace_13 ?_
      refine lv_aload_n hx hb dX1_rankedPlace_16 rfl (lv_at hl 0 rfl) ?_
      refine va_get (D := (dC, dI)) (ci := 1) (v := .ref h45) (C := RX1) (T := TX1) (N := 17) hx hb hG zuX1 hown hK hP 0 rfl rfl 12 (by decide) (hG _ zv516) (fun _ h9 => h9) rfl dX1_rankedPlace_17 ?_
      refine lv_iload_n hx hb dX1_rankedPlace_20 rfl (lv_at hl 1 rfl) ?_
      refine va_iald hx hb hK hP 1 0 rfl rfl (zin_lit ⟨by omega, by omega⟩) dX1_rankedPlace_21 ?_
      refine lv_topi (fun z21 e_z21 => ?_)
      have b_ : 0 ≤ z21.toInt ∧ z21.toInt ≤ 119 := by rw [e_z21]; exact hf45 _
      refine va_iald hx hb hK hP 2 1 rfl rfl (zin_lit ⟨by omega, by omega⟩) dX1_rankedPlace_22 ?_
      refine lv_topi (fun z22 e_z22 => ?_)
      refine lv_goto (tgt := 27) hx hb dX1_rankedPlace_23 (by decide) ?_
      refine W.widen (k := 0) (n := 0) (by decide) (by decide) ?_
      have b_ : -2147483648 ≤ z22.toInt ∧ z22.toInt ≤ 2147483647 := ⟨zlo _, zhi _⟩
      have hpost : (zW (0 ≤ x1.toInt → x1.toInt < (v0 16).toInt → z22.toInt = (f43 (f45 ((x1 : Int32)).toNatClampNeg).toNatClampNeg).toInt)) := by first | exact fun _ _ => (by rw [e_z22, e_z21]) | (intro q_ q2_; omega)
      have hP9 : va_P (dC, dI) vwCl [(h0, .inr (1, mX1 h1 h6 h13 h21 h36 h37 h39 h40 h41 h42 h43 h44 h45 h46 h47 h48 v0)), (h45, zi k45 120 f45), (h43, zi k43 120 f43)] s.heap := hP
      have hD9 : va_D A [(h0, .inr (1, mX1 h1 h6 h13 h21 h36 h37 h39 h40 h41 h42 h43 h44 h45 h46 h47 h48 v0)), (h45, zi k45 120 f45), (h43, zi k43 120 f43)] := hD
      exact W.iret (v := z22) hx hb hr (fun t ht hW => ⟨⟨z22, (fun _ => 0), rfl, hpost, (fun _ => 0), (fun _ => (fun _ => 0)), (fun _ => (fun _ => 0)), by rw [ht]; exact hP9, va_K.moved hW.alike hK, hD9⟩, hS.F ht⟩) hS.2.2 dX1_rankedPlace_27
set_option maxHeartbeats 8000000 in
set_option maxRecDepth 100000 in
theorem sX1_prepare_0 (l : Launch) (dC : Nat → ClassId) (dI : Nat → Nat → Nat) (adK adV : Nat → Nat) (h0 : Nat) (h21 : Nat) (h32 : Nat) (h33 : Nat) (h13 : Nat) (h14 : Nat) (h15 : Nat) (h16 : Nat) (h6 : Nat) (h31 : Nat) (h8 : Nat) (h22 : Nat) (h28 : Nat) (h26 : Nat) (h23 : Nat) (h24 : Nat) (h25 : Nat) (h27 : Nat) (h7 : Nat) (h9 : Nat) (h29 : Nat) (h30 : Nat) (h19 : Nat) (h48 : Nat) (h41 : Nat) (h36 : Nat) (h1 : Nat) (h37 : Nat) (h39 : Nat) (h40 : Nat) (h42 : Nat) (h43 : Nat) (h44 : Nat) (h45 : Nat) (h46 : Nat) (h47 : Nat) (h34 : Nat) (h35 : Nat) (h17 : Nat) (h18 : Nat) (h20 : Nat) (h10 : Nat) (h11 : Nat) (h12 : Nat) (k32 : ClassId) (k33 : ClassId) (k14 : ClassId) (k15 : ClassId) (k16 : ClassId) (k31 : ClassId) (k8 : ClassId) (k28 : ClassId) (k26 : ClassId) (k23 : ClassId) (k24 : ClassId) (k25 : ClassId) (k27 : ClassId) (k7 : ClassId) (k9 : ClassId) (k29 : ClassId) (k30 : ClassId) (k19 : ClassId) (n48 : Nat) (k41 : ClassId) (k36 : ClassId) (pl0 : va_W) (sz : Nat) (v0 : Nat → Int32) (v21 : Nat → Int32) (f32 : Nat → Int32) (f33 : Nat → Int32) (v13 : Nat → Int32) (f14 : Nat → Int32) (f15 : Nat → Int32) (f16 : Nat → Int32) (v6 : Nat → Int32) (f31 : Nat → Option Nat) (f8 : Nat → Int32) (v22 : Nat → Int32) (f28 : Nat → Int32) (f26 : Nat → Int32) (f23 : Nat → Int32) (f24 : Nat → Int32) (f25 : Nat → Int32) (f27 : Nat → Int32) (f7 : Nat → Int64) (f9 : Nat → Int32) (f29 : Nat → Int32) (f30 : Nat → Int32) (f19 : Nat → Int32) (f48 : Nat → Int32) (f41 : Nat → Int32) (f36 : Nat → Option Nat) (hv0 : zR rg_Finder v0) (hv21 : zR rg_Page v21) (hf32 : zA 0 399 f32) (hv13 : zR rg_Query v13) (hv6 : zR rg_Words400 v6) (hf8 : zA 0 399 f8) (hv22 : zR rg_Postings v22) (hf24 : zA 0 1250 f24) (hf27 : zA 0 832 f27) (hf9 : zA (-1) 399 f9) (hf48 : zA 0 4914 f48) (hn48 : n48 ≤ 4800) (hp0_ : zRd h22 f31 pl0) (hp1_ : zPs k41 f36 pl0) : Met l yX1_prepare (zw yX1_prepare cX1_prepare 2 none) { frames := 5, cells := 481, slots := 9480, locals := 106 } (zPc dC dI adK adV [.ref h0] sz ([(h0, .inr (1, mX1 h1 h6 h13 h21 h36 h37 h39 h40 h41 h42 h43 h44 h45 h46 h47 h48 v0)), (h21, .inr (3, mX3 h6 h22 h13 h31 h32 h33 h34 h35 v21)), (h32, zi k32 400 f32), (h33, zi k33 400 f33), (h13, .inr (7, mX7 h14 h15 h16 h17 h18 h19 h20 v13)), (h14, zi k14 40 f14), (h15, zi k15 40 f15), (h16, zi k16 40 f16), (h6, .inr (10, mX10 h7 h8 h9 h10 h11 h12 v6)), (h31, .inl (k31, 400, .inr (.inr (.inr (.inr f31))))), (h8, zi k8 400 f8), (h22, .inr (6, mX6 h23 h24 h25 h26 h27 h28 h29 h30 v22)), (h28, zi k28 400 f28), (h26, zi k26 400 f26), (h23, zi k23 1250 f23), (h24, zi k24 833 f24), (h25, zi k25 833 f25), (h27, zi k27 400 f27), (h7, .inl (k7, 400, .inr (.inl f7))), (h9, zi k9 400 f9), (h29, zi k29 400 f29), (h30, zi k30 400 f30), (h19, zi k19 160 f19), (h48, zi k41 n48 f48), (h41, zi k41 40 f41), (h36, .inl (k36, 40, .inr (.inr (.inr (.inr f36)))))] ++ pl0) [(k32, .int), (k33, .boolean), (k14, .int), (k15, .int), (k16, .int), (k31, .object RX8), (k8, .int), (k28, .int), (k26, .int), (k23, .int), (k24, .int), (k25, .int), (k27, .int), (k7, .long), (k9, .int), (k29, .int), (k30, .int), (k19, .int), (k41, .int), (k41, .int), (k36, .object RX5)]) (va_Qv (fun (u : Nat → Int32) => (0 ≤ (u 0).toInt ∧ (u 0).toInt ≤ 400)) (fun (u : Nat → Int32) (t : State) => ∃ (ww : Nat → Int64) (aa : Nat → Nat → Int32) (bb : Nat → Nat → Int64) (qq : Nat → Nat → Option Nat) (pl1 : va_W) (hw nw : Nat), nw ≤ 4800 ∧ zA 0 399 (aa 0) ∧ zA 0 4914 (aa 2) ∧ (zRd h22 (qq 0) pl1) ∧ (zPs k41 (qq 1) pl1) ∧ (zOt pl0 pl1) ∧ (zOpA h22 f31 f7 f8 f9 (v6 7).toInt f23 f24 f25 f26 f27 f28 (v22 8).toInt (v22 9).toInt (v22 10).toInt (v22 11).toInt f29 f30 f32 f33 (v21 8).toInt (qq 0) pl1 (aa 0) (aa 1) (u 0).toInt f14 f15 f16 f19 (v13 8).toInt (v13 7).toInt) ∧ (zPnn (qq 1) (v13 7).toInt) ∧ (120 * (v13 7).toInt ≤ ((nw : Nat) : Int)) ∧ (zHv0 (aa 3) (v13 7).toInt) ∧ va_P (dC, dI) vwCl ([(h0, .inr (1, mX1 h1 h6 h13 h21 h36 h37 h39 h40 h41 h42 h43 h44 h45 h46 h47 hw v0)), (h21, .inr (3, mX3 h6 h22 h13 h31 h32 h33 h34 h35 (upd v21 8 (u 0)))), (h32, zi k32 400 (aa 0)), (h33, zi k33 400 (aa 1)), (h13, .inr (7, mX7 h14 h15 h16 h17 h18 h19 h20 v13)), (h14, zi k14 40 f14), (h15, zi k15 40 f15), (h16, zi k16 40 f16), (h6, .inr (10, mX10 h7 h8 h9 h10 h11 h12 v6)), (h31, .inl (k31, 400, .inr (.inr (.inr (.inr (qq 0)))))), (h8, zi k8 400 f8), (h22, .inr (6, mX6 h23 h24 h25 h26 h27 h28 h29 h30 v22)), (h28, zi k28 400 f28), (h26, zi k26 400 f26), (h23, zi k23 1250 f23), (h24, zi k24 833 f24), (h25, zi k25 833 f25), (h27, zi k27 400 f27), (h7, .inl (k7, 400, .inr (.inl f7))), (h9, zi k9 400 f9), (h29, zi k29 400 f29), (h30, zi k30 400 f30), (h19, zi k19 160 f19), (hw, zi k41 nw (aa 2)), (h41, zi k41 40 (aa 3)), (h36, .inl (k36, 40, .inr (.inr (.inr (.inr (qq 1))))))] ++ pl1) t.heap ∧ va_K (dC, dI) vwCl [(k32, .int), (k33, .boolean), (k14, .int), (k15, .int), (k16, .int), (k31, .object RX8), (k8, .int), (k28, .int), (k26, .int), (k23, .int), (k24, .int), (k25, .int), (k27, .int), (k7, .long), (k9, .int), (k29, .int), (k30, .int), (k19, .int), (k41, .int), (k41, .int), (k36, .object RX5)] t ∧ va_D (va_A ([(h0, .inr (1, mX1 h1 h6 h13 h21 h36 h37 h39 h40 h41 h42 h43 h44 h45 h46 h47 h48 v0)), (h21, .inr (3, mX3 h6 h22 h13 h31 h32 h33 h34 h35 v21)), (h32, zi k32 400 f32), (h33, zi k33 400 f33), (h13, .inr (7, mX7 h14 h15 h16 h17 h18 h19 h20 v13)), (h14, zi k14 40 f14), (h15, zi k15 40 f15), (h16, zi k16 40 f16), (h6, .inr (10, mX10 h7 h8 h9 h10 h11 h12 v6)), (h31, .inl (k31, 400, .inr (.inr (.inr (.inr f31))))), (h8, zi k8 400 f8), (h22, .inr (6, mX6 h23 h24 h25 h26 h27 h28 h29 h30 v22)), (h28, zi k28 400 f28), (h26, zi k26 400 f26), (h23, zi k23 1250 f23), (h24, zi k24 833 f24), (h25, zi k25 833 f25), (h27, zi k27 400 f27), (h7, .inl (k7, 400, .inr (.inl f7))), (h9, zi k9 400 f9), (h29, zi k29 400 f29), (h30, zi k30 400 f30), (h19, zi k19 160 f19), (h48, zi k41 n48 f48), (h41, zi k41 40 f41), (h36, .inl (k36, 40, .inr (.inr (.inr (.inr f36)))))] ++ pl0) sz) ([(h0, .inr (1, mX1 h1 h6 h13 h21 h36 h37 h39 h40 h41 h42 h43 h44 h45 h46 h47 hw v0)), (h21, .inr (3, mX3 h6 h22 h13 h31 h32 h33 h34 h35 (upd v21 8 (u 0)))), (h32, zi k32 400 (aa 0)), (h33, zi k33 400 (aa 1)), (h13, .inr (7, mX7 h14 h15 h16 h17 h18 h19 h20 v13)), (h14, zi k14 40 f14), (h15, zi k15 40 f15), (h16, zi k16 40 f16), (h6, .inr (10, mX10 h7 h8 h9 h10 h11 h12 v6)), (h31, .inl (k31, 400, .inr (.inr (.inr (.inr (qq 0)))))), (h8, zi k8 400 f8), (h22, .inr (6, mX6 h23 h24 h25 h26 h27 h28 h29 h30 v22)), (h28, zi k28 400 f28), (h26, zi k26 400 f26), (h23, zi k23 1250 f23), (h24, zi k24 833 f24), (h25, zi k25 833 f25), (h27, zi k27 400 f27), (h7, .inl (k7, 400, .inr (.inl f7))), (h9, zi k9 400 f9), (h29, zi k29 400 f29), (h30, zi k30 400 f30), (h19, zi k19 160 f19), (hw, zi k41 nw (aa 2)), (h41, zi k41 40 (aa 3)), (h36, .inl (k36, 40, .inr (.inr (.inr (.inr (qq 1))))))] ++ pl1)) (va_A ([(h0, .inr (1, mX1 h1 h6 h13 h21 h36 h37 h39 h40 h41 h42 h43 h44 h45 h46 h47 h48 v0)), (h21, .inr (3, mX3 h6 h22 h13 h31 h32 h33 h34 h35 v21)), (h32, zi k32 400 f32), (h33, zi k33 400 f33), (h13, .inr (7, mX7 h14 h15 h16 h17 h18 h19 h20 v13)), (h14, zi k14 40 f14), (h15, zi k15 40 f15), (h16, zi k16 40 f16), (h6, .inr (10, mX10 h7 h8 h9 h10 h11 h12 v6)), (h31, .inl (k31, 400, .inr (.inr (.inr (.inr f31))))), (h8, zi k8 400 f8), (h22, .inr (6, mX6 h23 h24 h25 h26 h27 h28 h29 h30 v22)), (h28, zi k28 400 f28), (h26, zi k26 400 f26), (h23, zi k23 1250 f23), (h24, zi k24 833 f24), (h25, zi k25 833 f25), (h27, zi k27 400 f27), (h7, .inl (k7, 400, .inr (.inl f7))), (h9, zi k9 400 f9), (h29, zi k29 400 f29), (h30, zi k30 400 f30), (h19, zi k19 160 f19), (h48, zi k41 n48 f48), (h41, zi k41 40 f41), (h36, .inl (k36, 40, .inr (.inr (.inr (.inr f36)))))] ++ pl0) sz)) 481 9480 (va_A ([(h0, .inr (1, mX1 h1 h6 h13 h21 h36 h37 h39 h40 h41 h42 h43 h44 h45 h46 h47 h48 v0)), (h21, .inr (3, mX3 h6 h22 h13 h31 h32 h33 h34 h35 v21)), (h32, zi k32 400 f32), (h33, zi k33 400 f33), (h13, .inr (7, mX7 h14 h15 h16 h17 h18 h19 h20 v13)), (h14, zi k14 40 f14), (h15, zi k15 40 f15), (h16, zi k16 40 f16), (h6, .inr (10, mX10 h7 h8 h9 h10 h11 h12 v6)), (h31, .inl (k31, 400, .inr (.inr (.inr (.inr f31))))), (h8, zi k8 400 f8), (h22, .inr (6, mX6 h23 h24 h25 h26 h27 h28 h29 h30 v22)), (h28, zi k28 400 f28), (h26, zi k26 400 f26), (h23, zi k23 1250 f23), (h24, zi k24 833 f24), (h25, zi k25 833 f25), (h27, zi k27 400 f27), (h7, .inl (k7, 400, .inr (.inl f7))), (h9, zi k9 400 f9), (h29, zi k29 400 f29), (h30, zi k30 400 f30), (h19, zi k19 160 f19), (h48, zi k41 n48 f48), (h41, zi k41 40 f41), (h36, .inl (k36, 40, .inr (.inr (.inr (.inr f36)))))] ++ pl0) sz) := by
  refine Met.ofW (cc := cX1_prepare) (maxL := 2) (ret := none) (by decide) rfl ?_
  intro p e s m args below meth c s₁ B hml hv
  obtain ⟨rfl, hsz, hP, hK, hD0, hE, hZ⟩ := hv
  have hx := B.exec
  have hb := B.bytes
  have hr := B.returns
  have hG : ∀ w ∈ zG, w.before _ s = true := fun w h => atoms_spec (ws := (zw yX1_prepare cX1_prepare 2 none)) B.pre w (List.mem_cons_of_mem _ h)
  have hown : s.vm.findClass RX1 = some m.cls := findClass_of_methodNamed B.named
  have hlocks := B.notSynchronized

  subst hsz
  have hD := hD0.self (sz := s.heap.size)
  generalize hAe : va_A ([(h0, .inr (1, mX1 h1 h6 h13 h21 h36 h37 h39 h40 h41 h42 h43 h44 h45 h46 h47 h48 v0)), (h21, .inr (3, mX3 h6 h22 h13 h31 h32 h33 h34 h35 v21)), (h32, zi k32 400 f32), (h33, zi k33 400 f33), (h13, .inr (7, mX7 h14 h15 h16 h17 h18 h19 h20 v13)), (h14, zi k14 40 f14), (h15, zi k15 40 f15), (h16, zi k16 40 f16), (h6, .inr (10, mX10 h7 h8 h9 h10 h11 h12 v6)), (h31, .inl (k31, 400, .inr (.inr (.inr (.inr f31))))), (h8, zi k8 400 f8), (h22, .inr (6, mX6 h23 h24 h25 h26 h27 h28 h29 h30 v22)), (h28, zi k28 400 f28), (h26, zi k26 400 f26), (h23, zi k23 1250 f23), (h24, zi k24 833 f24), (h25, zi k25 833 f25), (h27, zi k27 400 f27), (h7, .inl (k7, 400, .inr (.inl f7))), (h9, zi k9 400 f9), (h29, zi k29 400 f29), (h30, zi k30 400 f30), (h19, zi k19 160 f19), (h48, zi k41 n48 f48), (h41, zi k41 40 f41), (h36, .inl (k36, 40, .inr (.inr (.inr (.inr f36)))))] ++ pl0) s.heap.size = A at hD hZ ⊢
  have hA : ∀ q : Nat, s.heap.size ≤ q → A q := fun q h => by rw [← hAe]; exact Or.inr h
  have hS : va_S A s.heap s.heap [] := va_S.rf
  have hl := lv_entry ([.ref h0]) (n := 2) (Nat.le_of_ble_eq_true rfl)
  rw [lg_entry_eq]
  generalize (lg_sl ([.ref h0]) ++ List.replicate (2 - (lg_sl ([.ref h0])).length) Slot.unset).toArray = ls at hl ⊢
  have hl : lv_has ls 2 [(0, .ref h0)] := hl
  have b_ := zk_0
  have b_ := zk_1
  have b_ : 0 ≤ (v13 7).toInt ∧ (v13 7).toInt ≤ 40 := hv13 7
  refine lv_aload_n hx hb dX1_prepare_0 rfl (lv_at hl 0 rfl) ?_
  refine va_get (D := (dC, dI)) (ci := 1) (v := .ref h21) (C := RX1) (T := TX1) (N := 17) hx hb hG zuX1 hown hK hP 0 rfl rfl 3 (by decide) (hG _ zv507) (fun _ h9 => h9) rfl dX1_prepare_1 ?_
  have hPc := hP.part (cx := [(h21, .inr (3, mX3 h6 h22 h13 h31 h32 h33 h34 h35 v21)), (h32, zi k32 400 f32), (h33, zi k33 400 f33), (h13, .inr (7, mX7 h14 h15 h16 h17 h18 h19 h20 v13)), (h14, zi k14 40 f14), (h15, zi k15 40 f15), (h16, zi k16 40 f16), (h6, .inr (10, mX10 h7 h8 h9 h10 h11 h12 v6)), (h31, .inl (k31, 400, .inr (.inr (.inr (.inr f31))))), (h8, zi k8 400 f8), (h22, .inr (6, mX6 h23 h24 h25 h26 h27 h28 h29 h30 v22)), (h28, zi k28 400 f28), (h26, zi k26 400 f26), (h23, zi k23 1250 f23), (h24, zi k24 833 f24), (h25, zi k25 833 f25), (h27, zi k27 400 f27), (h7, .inl (k7, 400, .inr (.inl f7))), (h9, zi k9 400 f9), (h29, zi k29 400 f29), (h30, zi k30 400 f30), (h19, zi k19 160 f19)]) [1, 2, 3, 4, 5, 6, 7, 8, 9, 10, 11, 12, 13, 14, 15, 16, 17, 18, 19, 20, 21, 22] rfl
  have hDc := hD.part (cx := [(h21, .inr (3, mX3 h6 h22 h13 h31 h32 h33 h34 h35 v21)), (h32, zi k32 400 f32), (h33, zi k33 400 f33), (h13, .inr (7, mX7 h14 h15 h16 h17 h18 h19 h20 v13)), (h14, zi k14 40 f14), (h15, zi k15 40 f15), (h16, zi k16 40 f16), (h6, .inr (10, mX10 h7 h8 h9 h10 h11 h12 v6)), (h31, .inl (k31, 400, .inr (.inr (.inr (.inr f31))))), (h8, zi k8 400 f8), (h22, .inr (6, mX6 h23 h24 h25 h26 h27 h28 h29 h30 v22)), (h28, zi k28 400 f28), (h26, zi k26 400 f26), (h23, zi k23 1250 f23), (h24, zi k24 833 f24), (h25, zi k25 833 f25), (h27, zi k27 400 f27), (h7, .inl (k7, 400, .inr (.inl f7))), (h9, zi k9 400 f9), (h29, zi k29 400 f29), (h30, zi k30 400 f30), (h19, zi k19 160 f19)]) [1, 2, 3, 4, 5, 6, 7, 8, 9, 10, 11, 12, 13, 14, 15, 16, 17, 18, 19, 20, 21, 22] (by decide) rfl
  have hKc := hK.sub (tys' := [(k32, .int), (k33, .boolean), (k14, .int), (k15, .int), (k16, .int), (k31, .object RX8), (k8, .int), (k28, .int), (k26, .int), (k23, .int), (k24, .int), (k25, .int), (k27, .int), (k7, .long), (k9, .int), (k29, .int), (k30, .int), (k19, .int)]) [0, 1, 2, 3, 4, 5, 6, 7, 8, 9, 10, 11, 12, 13, 14, 15, 16, 17] rfl
  have hFc := va_freeP (cx := [(h21, .inr (3, mX3 h6 h22 h13 h31 h32 h33 h34 h35 v21)), (h32, zi k32 400 f32), (h33, zi k33 400 f33), (h13, .inr (7, mX7 h14 h15 h16 h17 h18 h19 h20 v13)), (h14, zi k14 40 f14), (h15, zi k15 40 f15), (h16, zi k16 40 f16), (h6, .inr (10, mX10 h7 h8 h9 h10 h11 h12 v6)), (h31, .inl (k31, 400, .inr (.inr (.inr (.inr f31))))), (h8, zi k8 400 f8), (h22, .inr (6, mX6 h23 h24 h25 h26 h27 h28 h29 h30 v22)), (h28, zi k28 400 f28), (h26, zi k26 400 f26), (h23, zi k23 1250 f23), (h24, zi k24 833 f24), (h25, zi k25 833 f25), (h27, zi k27 400 f27), (h7, .inl (k7, 400, .inr (.inl f7))), (h9, zi k9 400 f9), (h29, zi k29 400 f29), (h30, zi k30 400 f30), (h19, zi k19 160 f19)]) hD hS hA [1, 2, 3, 4, 5, 6, 7, 8, 9, 10, 11, 12, 13, 14, 15, 16, 17, 18, 19, 20, 21, 22] rfl
  refine va_callv (va_runV (As := []) (rest := []) ⟨hx, hb, hml, hown, hG⟩ (sX3_open_0 l dC dI adK adV h21 h32 h33 h13 h14 h15 h16 h6 h31 h8 h22 h28 h26 h23 h24 h25 h27 h7 h9 h29 h30 h19 h34 h35 h17 h18 h20 h10 h11 h12 k32 k33 k14 k15 k16 k31 k8 k28 k26 k23 k24 k25 k27 k7 k9 k29 k30 k19 pl0 s.heap.size v21 f32 f33 v13 f14 f15 f16 v6 f31 f8 v22 f28 f26 f23 f24 f25 f27 f7 f9 f29 f30 f19 hv21 hf32 hv13 hv6 hf8 hv22 hf24 hf27 hf9 (show zRd h22 f31 pl0 from by first | with_reducible assumption | assumption)) (cwV 0 hG (zgV zv1179 zv1180 zv1181 zv140 zv1182) rfl rfl rfl (by decide +kernel) ⟨Nat.le_of_ble_eq_true rfl, Nat.le_of_ble_eq_true rfl⟩) ⟨zPc_blind, va_recv hKc hPc (ci := 3) (q0 := 0) rfl rfl, zPc_pre hPc hKc hDc hE hS hFc hZ⟩ rfl rfl hl.1 rfl (lv_room (Nat.le_of_ble_eq_true rfl)) dX1_prepare_4 ⟨Nat.le_of_ble_eq_true rfl, Nat.le_of_ble_eq_true rfl⟩) hS (fun q _ h => hFc q h) hFc (fun u4_ t H1 locs ht hvm hw hB hz1 hk1 hS => ?_)
  replace hw : (0 ≤ (u4_ 0).toInt ∧ (u4_ 0).toInt ≤ 400) := hw
  have b_ := hw
  obtain ⟨w4_, a4_, b4_, q4_, pl4_, ha4_0, hB4_0, hB4_1, hB4_2, hP1, hK1, hD1⟩ := hB
  have hB4_0 : zRd h22 (q4_ 0) pl4_ := hB4_0
  have hB4_1 : zKp h22 pl0 pl4_ := hB4_1
  have hB4_2 : zOpA h22 f31 f7 f8 f9 (v6 7).toInt f23 f24 f25 f26 f27 f28 (v22 8).toInt (v22 9).toInt (v22 10).toInt (v22 11).toInt f29 f30 f32 f33 (v21 8).toInt (q4_ 0) pl4_ (a4_ 0) (a4_ 1) (u4_ 0).toInt f14 f15 f16 f19 (v13 8).toInt (v13 7).toInt := hB4_2
  rw [ht] at hP1
  obtain ⟨hP, hD⟩ := va_joinP (wr := [(h0, .inr (1, mX1 h1 h6 h13 h21 h36 h37 h39 h40 h41 h42 h43 h44 h45 h46 h47 h48 v0)), (h48, zi k41 n48 f48), (h41, zi k41 40 f41), (h36, .inl (k36, 40, .inr (.inr (.inr (.inr f36)))))]) (rx := [(h21, .inr (3, mX3 h6 h22 h13 h31 h32 h33 h34 h35 (upd v21 8 (u4_ 0)))), (h32, zi k32 400 (a4_ 0)), (h33, zi k33 400 (a4_ 1)), (h13, .inr (7, mX7 h14 h15 h16 h17 h18 h19 h20 v13)), (h14, zi k14 40 f14), (h15, zi k15 40 f15), (h16, zi k16 40 f16), (h6, .inr (10, mX10 h7 h8 h9 h10 h11 h12 v6)), (h31, .inl (k31, 400, .inr (.inr (.inr (.inr (q4_ 0)))))), (h8, zi k8 400 f8), (h22, .inr (6, mX6 h23 h24 h25 h26 h27 h28 h29 h30 v22)), (h28, zi k28 400 f28), (h26, zi k26 400 f26), (h23, zi k23 1250 f23), (h24, zi k24 833 f24), (h25, zi k25 833 f25), (h27, zi k27 400 f27), (h7, .inl (k7, 400, .inr (.inl f7))), (h9, zi k9 400 f9), (h29, zi k29 400 f29), (h30, zi k30 400 f30), (h19, zi k19 160 f19)]) hP hD [1, 2, 3, 4, 5, 6, 7, 8, 9, 10, 11, 12, 13, 14, 15, 16, 17, 18, 19, 20, 21, 22] [0, 23, 24, 25] rfl rfl (by decide) (by decide) hk1 hFc hP1 hD1
  have hP : va_P (dC, dI) vwCl ([(h0, .inr (1, mX1 h1 h6 h13 h21 h36 h37 h39 h40 h41 h42 h43 h44 h45 h46 h47 h48 v0)), (h21, .inr (3, mX3 h6 h22 h13 h31 h32 h33 h34 h35 (upd v21 8 (u4_ 0)))), (h32, zi k32 400 (a4_ 0)), (h33, zi k33 400 (a4_ 1)), (h13, .inr (7, mX7 h14 h15 h16 h17 h18 h19 h20 v13)), (h14, zi k14 40 f14), (h15, zi k15 40 f15), (h16, zi k16 40 f16), (h6, .inr (10, mX10 h7 h8 h9 h10 h11 h12 v6)), (h31, .inl (k31, 400, .inr (.inr (.inr (.inr (q4_ 0)))))), (h8, zi k8 400 f8), (h22, .inr (6, mX6 h23 h24 h25 h26 h27 h28 h29 h30 v22)), (h28, zi k28 400 f28), (h26, zi k26 400 f26), (h23, zi k23 1250 f23), (h24, zi k24 833 f24), (h25, zi k25 833 f25), (h27, zi k27 400 f27), (h7, .inl (k7, 400, .inr (.inl f7))), (h9, zi k9 400 f9), (h29, zi k29 400 f29), (h30, zi k30 400 f30), (h19, zi k19 160 f19), (h48, zi k41 n48 f48), (h41, zi k41 40 f41), (h36, .inl (k36, 40, .inr (.inr (.inr (.inr f36)))))] ++ pl4_) H1 := hP.part [0, 4, 5, 6, 7, 8, 9, 10, 11, 12, 13, 14, 15, 16, 17, 18, 19, 20, 21, 22, 23, 24, 25, 1, 2, 3] rfl
  have hD : va_D A ([(h0, .inr (1, mX1 h1 h6 h13 h21 h36 h37 h39 h40 h41 h42 h43 h44 h45 h46 h47 h48 v0)), (h21, .inr (3, mX3 h6 h22 h13 h31 h32 h33 h34 h35 (upd v21 8 (u4_ 0)))), (h32, zi k32 400 (a4_ 0)), (h33, zi k33 400 (a4_ 1)), (h13, .inr (7, mX7 h14 h15 h16 h17 h18 h19 h20 v13)), (h14, zi k14 40 f14), (h15, zi k15 40 f15), (h16, zi k16 40 f16), (h6, .inr (10, mX10 h7 h8 h9 h10 h11 h12 v6)), (h31, .inl (k31, 400, .inr (.inr (.inr (.inr (q4_ 0)))))), (h8, zi k8 400 f8), (h22, .inr (6, mX6 h23 h24 h25 h26 h27 h28 h29 h30 v22)), (h28, zi k28 400 f28), (h26, zi k26 400 f26), (h23, zi k23 1250 f23), (h24, zi k24 833 f24), (h25, zi k25 833 f25), (h27, zi k27 400 f27), (h7, .inl (k7, 400, .inr (.inl f7))), (h9, zi k9 400 f9), (h29, zi k29 400 f29), (h30, zi k30 400 f30), (h19, zi k19 160 f19), (h48, zi k41 n48 f48), (h41, zi k41 40 f41), (h36, .inl (k36, 40, .inr (.inr (.inr (.inr f36)))))] ++ pl4_) := hD.part [0, 4, 5, 6, 7, 8, 9, 10, 11, 12, 13, 14, 15, 16, 17, 18, 19, 20, 21, 22, 23, 24, 25, 1, 2, 3] (by decide) rfl
  generalize H1 = H at hP hS ⊢
  clear hz1
  have hot_ : zOt pl0 pl4_ := zOt_kp (show zOt pl0 pl0 from by first | assumption | exact zOt_rf) hB4_1
  have hps_ : zPs k41 f36 pl4_ := zPs_kp (show zPs k41 f36 pl0 from by assumption) hB4_1
  refine lv_aload_n hx hb dX1_prepare_7 rfl (lv_at hl 0 rfl) ?_
  refine va_get (D := (dC, dI)) (ci := 1) (v := .ref h48) (C := RX1) (T := TX1) (N := 17) hx hb hG zuX1 hown hK hP 0 rfl rfl 15 (by decide) (hG _ zv519) (fun _ h9 => h9) rfl dX1_prepare_8 ?_
  refine va_alen (v := (Int32.ofNat n48)) hx hb hK hP 23 18 rfl rfl rfl dX1_prepare_11 ?_
  have b_ := zofn hn48
  refine lv_aload_n hx hb dX1_prepare_12 rfl (lv_at hl 0 rfl) ?_
  refine va_get (D := (dC, dI)) (ci := 1) (v := .ref h13) (C := RX1) (T := TX1) (N := 17) hx hb hG zuX1 hown hK hP 0 rfl rfl 2 (by decide) (hG _ zv506) (fun _ h9 => h9) rfl dX1_prepare_13 ?_
  have hPc := hP.sub (ws' := [(h13, .inr (7, mX7 h14 h15 h16 h17 h18 h19 h20 v13))]) [4] rfl
  have hDc := hD.sub (ws' := [(h13, .inr (7, mX7 h14 h15 h16 h17 h18 h19 h20 v13))]) [4] (by decide) rfl
  have hKc := hK.sub (tys' := []) [] rfl
  have hFc := va_free (wc := [(h13, .inr (7, mX7 h14 h15 h16 h17 h18 h19 h20 v13))]) hD hS hA [4] rfl
  refine va_calli (va_runV (As := []) (rest := [.int (Int32.ofNat n48)]) ⟨hx, hb, hml, hown, hG⟩ (sX7_leaves_0 l dC dI adK adV h13 h14 h15 h16 h17 h18 h19 h20 H.size v13 hv13) (cwV 0 hG (zgV zv1211 zv1093 zv1094 zv136 zv1095) rfl rfl rfl (by decide +kernel) ⟨Nat.le_of_ble_eq_true rfl, Nat.le_of_ble_eq_true rfl⟩) ⟨zPc_blind, va_recv hKc hPc (ci := 7) (q0 := 0) rfl rfl, zPc_pre hPc hKc hDc hE hS hFc hZ⟩ rfl rfl hl.1 rfl (lv_room (Nat.le_of_ble_eq_true rfl)) dX1_prepare_16 ⟨Nat.le_of_ble_eq_true rfl, Nat.le_of_ble_eq_true rfl⟩) hS (fun q _ h => hFc q h) hFc (fun r16_ u16_ t H1 locs ht hvm hw hB hz1 hk1 hS => ?_)
  replace hw : (0 ≤ r16_.toInt ∧ r16_.toInt ≤ 40) ∧ (r16_.toInt = (v13 7).toInt) := hw
  obtain ⟨b_, hX16_0⟩ := hw
  obtain ⟨w16_, a16_, b16_, hP1, hK1, hD1⟩ := hB
  rw [ht] at hP1
  obtain ⟨hP, hD⟩ := va_joinQ (wr := [(h0, .inr (1, mX1 h1 h6 h13 h21 h36 h37 h39 h40 h41 h42 h43 h44 h45 h46 h47 h48 v0)), (h21, .inr (3, mX3 h6 h22 h13 h31 h32 h33 h34 h35 (upd v21 8 (u4_ 0)))), (h32, zi k32 400 (a4_ 0)), (h33, zi k33 400 (a4_ 1)), (h14, zi k14 40 f14), (h15, zi k15 40 f15), (h16, zi k16 40 f16), (h6, .inr (10, mX10 h7 h8 h9 h10 h11 h12 v6)), (h31, .inl (k31, 400, .inr (.inr (.inr (.inr (q4_ 0)))))), (h8, zi k8 400 f8), (h22, .inr (6, mX6 h23 h24 h25 h26 h27 h28 h29 h30 v22)), (h28, zi k28 400 f28), (h26, zi k26 400 f26), (h23, zi k23 1250 f23), (h24, zi k24 833 f24), (h25, zi k25 833 f25), (h27, zi k27 400 f27), (h7, .inl (k7, 400, .inr (.inl f7))), (h9, zi k9 400 f9), (h29, zi k29 400 f29), (h30, zi k30 400 f30), (h19, zi k19 160 f19), (h48, zi k41 n48 f48), (h41, zi k41 40 f41), (h36, .inl (k36, 40, .inr (.inr (.inr (.inr f36)))))]) (w1 := [(h13, .inr (7, mX7 h14 h15 h16 h17 h18 h19 h20 v13))]) hP hD [4] [0, 1, 2, 3, 5, 6, 7, 8, 9, 10, 11, 12, 13, 14, 15, 16, 17, 18, 19, 20, 21, 22, 23, 24, 25] rfl rfl (by decide) (by decide) hk1 hFc hP1 hD1
  have hP : va_P (dC, dI) vwCl ([(h0, .inr (1, mX1 h1 h6 h13 h21 h36 h37 h39 h40 h41 h42 h43 h44 h45 h46 h47 h48 v0)), (h21, .inr (3, mX3 h6 h22 h13 h31 h32 h33 h34 h35 (upd v21 8 (u4_ 0)))), (h32, zi k32 400 (a4_ 0)), (h33, zi k33 400 (a4_ 1)), (h13, .inr (7, mX7 h14 h15 h16 h17 h18 h19 h20 v13)), (h14, zi k14 40 f14), (h15, zi k15 40 f15), (h16, zi k16 40 f16), (h6, .inr (10, mX10 h7 h8 h9 h10 h11 h12 v6)), (h31, .inl (k31, 400, .inr (.inr (.inr (.inr (q4_ 0)))))), (h8, zi k8 400 f8), (h22, .inr (6, mX6 h23 h24 h25 h26 h27 h28 h29 h30 v22)), (h28, zi k28 400 f28), (h26, zi k26 400 f26), (h23, zi k23 1250 f23), (h24, zi k24 833 f24), (h25, zi k25 833 f25), (h27, zi k27 400 f27), (h7, .inl (k7, 400, .inr (.inl f7))), (h9, zi k9 400 f9), (h29, zi k29 400 f29), (h30, zi k30 400 f30), (h19, zi k19 160 f19), (h48, zi k41 n48 f48), (h41, zi k41 40 f41), (h36, .inl (k36, 40, .inr (.inr (.inr (.inr f36)))))] ++ pl4_) H1 := hP.part [0, 1, 2, 3, 25, 4, 5, 6, 7, 8, 9, 10, 11, 12, 13, 14, 15, 16, 17, 18, 19, 20, 21, 22, 23, 24] rfl
  have hD : va_D A ([(h0, .inr (1, mX1 h1 h6 h13 h21 h36 h37 h39 h40 h41 h42 h43 h44 h45 h46 h47 h48 v0)), (h21, .inr (3, mX3 h6 h22 h13 h31 h32 h33 h34 h35 (upd v21 8 (u4_ 0)))), (h32, zi k32 400 (a4_ 0)), (h33, zi k33 400 (a4_ 1)), (h13, .inr (7, mX7 h14 h15 h16 h17 h18 h19 h20 v13)), (h14, zi k14 40 f14), (h15, zi k15 40 f15), (h16, zi k16 40 f16), (h6, .inr (10, mX10 h7 h8 h9 h10 h11 h12 v6)), (h31, .inl (k31, 400, .inr (.inr (.inr (.inr (q4_ 0)))))), (h8, zi k8 400 f8), (h22, .inr (6, mX6 h23 h24 h25 h26 h27 h28 h29 h30 v22)), (h28, zi k28 400 f28), (h26, zi k26 400 f26), (h23, zi k23 1250 f23), (h24, zi k24 833 f24), (h25, zi k25 833 f25), (h27, zi k27 400 f27), (h7, .inl (k7, 400, .inr (.inl f7))), (h9, zi k9 400 f9), (h29, zi k29 400 f29), (h30, zi k30 400 f30), (h19, zi k19 160 f19), (h48, zi k41 n48 f48), (h41, zi k41 40 f41), (h36, .inl (k36, 40, .inr (.inr (.inr (.inr f36)))))] ++ pl4_) := hD.part [0, 1, 2, 3, 25, 4, 5, 6, 7, 8, 9, 10, 11, 12, 13, 14, 15, 16, 17, 18, 19, 20, 21, 22, 23, 24] (by decide) rfl
  generalize H1 = H at hP hS ⊢
  clear hz1
  refine lv_bipush (v := 120) hx hb dX1_prepare_19 (by decide) ?_
  refine lv_imul hx hb dX1_prepare_21 ?_
  refine lv_topi (fun z21 e_z21 => ?_)
  have b_ := zmul rfl zk_120 e_z21 (by omega) (by omega)
  refine zcutW (fun H locs ls u50_ w50_ a50_ b50_ => ∃ (q50_ : Nat → Nat → Option Nat) (pl50 : va_W) (hw50 nw50 : Nat), nw50 ≤ 4800 ∧ va_P (dC, dI) vwCl ([(h0, .inr (1, mX1 h1 h6 h13 h21 h36 h37 h39 h40 h41 h42 h43 h44 h45 h46 h47 hw50 v0)), (h21, .inr (3, mX3 h6 h22 h13 h31 h32 h33 h34 h35 (upd v21 8 (u4_ 0)))), (h32, zi k32 400 (a4_ 0)), (h33, zi k33 400 (a4_ 1)), (h13, .inr (7, mX7 h14 h15 h16 h17 h18 h19 h20 v13)), (h14, zi k14 40 f14), (h15, zi k15 40 f15), (h16, zi k16 40 f16), (h6, .inr (10, mX10 h7 h8 h9 h10 h11 h12 v6)), (h31, .inl (k31, 400, .inr (.inr (.inr (.inr (q4_ 0)))))), (h8, zi k8 400 f8), (h22, .inr (6, mX6 h23 h24 h25 h26 h27 h28 h29 h30 v22)), (h28, zi k28 400 f28), (h26, zi k26 400 f26), (h23, zi k23 1250 f23), (h24, zi k24 833 f24), (h25, zi k25 833 f25), (h27, zi k27 400 f27), (h7, .inl (k7, 400, .inr (.inl f7))), (h9, zi k9 400 f9), (h29, zi k29 400 f29), (h30, zi k30 400 f30), (h19, zi k19 160 f19), (hw50, zi k41 nw50 (a50_ 0)), (h41, zi k41 40 f41), (h36, .inl (k36, 40, .inr (.inr (.inr (.inr f36)))))] ++ pl50) H ∧ va_D A ([(h0, .inr (1, mX1 h1 h6 h13 h21 h36 h37 h39 h40 h41 h42 h43 h44 h45 h46 h47 hw50 v0)), (h21, .inr (3, mX3 h6 h22 h13 h31 h32 h33 h34 h35 (upd v21 8 (u4_ 0)))), (h32, zi k32 400 (a4_ 0)), (h33, zi k33 400 (a4_ 1)), (h13, .inr (7, mX7 h14 h15 h16 h17 h18 h19 h20 v13)), (h14, zi k14 40 f14), (h15, zi k15 40 f15), (h16, zi k16 40 f16), (h6, .inr (10, mX10 h7 h8 h9 h10 h11 h12 v6)), (h31, .inl (k31, 400, .inr (.inr (.inr (.inr (q4_ 0)))))), (h8, zi k8 400 f8), (h22, .inr (6, mX6 h23 h24 h25 h26 h27 h28 h29 h30 v22)), (h28, zi k28 400 f28), (h26, zi k26 400 f26), (h23, zi k23 1250 f23), (h24, zi k24 833 f24), (h25, zi k25 833 f25), (h27, zi k27 400 f27), (h7, .inl (k7, 400, .inr (.inl f7))), (h9, zi k9 400 f9), (h29, zi k29 400 f29), (h30, zi k30 400 f30), (h19, zi k19 160 f19), (hw50, zi k41 nw50 (a50_ 0)), (h41, zi k41 40 f41), (h36, .inl (k36, 40, .inr (.inr (.inr (.inr f36)))))] ++ pl50) ∧ va_S A s.heap H locs ∧ lv_has ls 2 [(0, .ref h0)] ∧ zA 0 4914 (a50_ 0) ∧ (0 ≤ z21.toInt ∧ z21.toInt ≤ 4800) ∧ (zOpA h22 f31 f7 f8 f9 (v6 7).toInt f23 f24 f25 f26 f27 f28 (v22 8).toInt (v22 9).toInt (v22 10).toInt (v22 11).toInt f29 f30 f32 f33 (v21 8).toInt (q4_ 0) pl50 (a4_ 0) (a4_ 1) (u4_ 0).toInt f14 f15 f16 f19 (v13 8).toInt (v13 7).toInt) ∧ (120 * (v13 7).toInt ≤ ((nw50 : Nat) : Int)) ∧ (zRd h22 (q4_ 0) pl50) ∧ (zPs k41 f36 pl50) ∧ (zOt pl0 pl50)) (fun ls u50_ w50_ => F0 m 50 ls []) 401 8400 ?_ (fun hJ50 => ?_)
  · skip
    intro H locs ls u50_ w50_ a50_ b50_ hc
    obtain ⟨q50_, pl50, hw50, nw50, hn50_, hP, hD, hS, hl, ha50_0, b_, hI50_0, b_, hI50_2, hI50_3, hI50_4⟩ := hc
    refine lv_iconst (v := 0) hx hb dX1_prepare_50 (by decide) ?_
    refine lv_istore_n (lv' := [(1, .int 0), (0, .ref h0)]) hx hb dX1_prepare_51 rfl hl (by decide) rfl (fun ls hl => ?_)
    refine W.widen (k := (401 + 2 * ((0 : Int32).toInt).toNat)) (n := (8400 + 27 * ((0 : Int32).toInt).toNat)) (by omega) (by omega) ?_
    refine zcutLk (fun u52_ => (40 - (u52_ 0).toInt).toNat) (fun H locs ls u52_ w52_ a52_ b52_ => ∃ (q52_ : Nat → Nat → Option Nat) (pl52 : va_W) (hw52 nw52 : Nat), nw52 ≤ 4800 ∧ va_P (dC, dI) vwCl ([(h0, .inr (1, mX1 h1 h6 h13 h21 h36 h37 h39 h40 h41 h42 h43 h44 h45 h46 h47 hw52 v0)), (h21, .inr (3, mX3 h6 h22 h13 h31 h32 h33 h34 h35 (upd v21 8 (u4_ 0)))), (h32, zi k32 400 (a4_ 0)), (h33, zi k33 400 (a4_ 1)), (h13, .inr (7, mX7 h14 h15 h16 h17 h18 h19 h20 v13)), (h14, zi k14 40 f14), (h15, zi k15 40 f15), (h16, zi k16 40 f16), (h6, .inr (10, mX10 h7 h8 h9 h10 h11 h12 v6)), (h31, .inl (k31, 400, .inr (.inr (.inr (.inr (q4_ 0)))))), (h8, zi k8 400 f8), (h22, .inr (6, mX6 h23 h24 h25 h26 h27 h28 h29 h30 v22)), (h28, zi k28 400 f28), (h26, zi k26 400 f26), (h23, zi k23 1250 f23), (h24, zi k24 833 f24), (h25, zi k25 833 f25), (h27, zi k27 400 f27), (h7, .inl (k7, 400, .inr (.inl f7))), (h9, zi k9 400 f9), (h29, zi k29 400 f29), (h30, zi k30 400 f30), (h19, zi k19 160 f19), (hw52, zi k41 nw52 (a50_ 0)), (h41, zi k41 40 (a52_ 0)), (h36, .inl (k36, 40, .inr (.inr (.inr (.inr (q52_ 0))))))] ++ pl52) H ∧ va_D A ([(h0, .inr (1, mX1 h1 h6 h13 h21 h36 h37 h39 h40 h41 h42 h43 h44 h45 h46 h47 hw52 v0)), (h21, .inr (3, mX3 h6 h22 h13 h31 h32 h33 h34 h35 (upd v21 8 (u4_ 0)))), (h32, zi k32 400 (a4_ 0)), (h33, zi k33 400 (a4_ 1)), (h13, .inr (7, mX7 h14 h15 h16 h17 h18 h19 h20 v13)), (h14, zi k14 40 f14), (h15, zi k15 40 f15), (h16, zi k16 40 f16), (h6, .inr (10, mX10 h7 h8 h9 h10 h11 h12 v6)), (h31, .inl (k31, 400, .inr (.inr (.inr (.inr (q4_ 0)))))), (h8, zi k8 400 f8), (h22, .inr (6, mX6 h23 h24 h25 h26 h27 h28 h29 h30 v22)), (h28, zi k28 400 f28), (h26, zi k26 400 f26), (h23, zi k23 1250 f23), (h24, zi k24 833 f24), (h25, zi k25 833 f25), (h27, zi k27 400 f27), (h7, .inl (k7, 400, .inr (.inl f7))), (h9, zi k9 400 f9), (h29, zi k29 400 f29), (h30, zi k30 400 f30), (h19, zi k19 160 f19), (hw52, zi k41 nw52 (a50_ 0)), (h41, zi k41 40 (a52_ 0)), (h36, .inl (k36, 40, .inr (.inr (.inr (.inr (q52_ 0))))))] ++ pl52) ∧ va_S A s.heap H locs ∧ lv_has ls 2 [(0, .ref h0), (1, .int (u52_ 0))] ∧ (0 ≤ (u52_ 0).toInt ∧ (u52_ 0).toInt ≤ 40) ∧ (zPnn (q52_ 0) (u52_ 0).toInt) ∧ (zOpA h22 f31 f7 f8 f9 (v6 7).toInt f23 f24 f25 f26 f27 f28 (v22 8).toInt (v22 9).toInt (v22 10).toInt (v22 11).toInt f29 f30 f32 f33 (v21 8).toInt (q4_ 0) pl52 (a4_ 0) (a4_ 1) (u4_ 0).toInt f14 f15 f16 f19 (v13 8).toInt (v13 7).toInt) ∧ (120 * (v13 7).toInt ≤ ((nw52 : Nat) : Int)) ∧ (zHv0 (a52_ 0) (u52_ 0).toInt) ∧ (zRd h22 (q4_ 0) pl52) ∧ (zPs k41 (q52_ 0) pl52) ∧ (zOt pl0 pl52)) (fun ls u52_ w52_ => F0 m 52 ls []) (fun u52_ => (401 + 2 * ((u52_ 0).toInt).toNat)) (fun u52_ => (8400 + 27 * ((u52_ 0).toInt).toNat)) ?_ (fun hJ52 => ?_)
    · skip
      intro H locs ls u52_ w52_ a52_ b52_ hc hJ52
      obtain ⟨q52_, pl52, hw52, nw52, hn52_, hP, hD, hS, hl, b_, hI52_0, hI52_1, b_, hI52_3, hI52_4, hI52_5, hI52_6⟩ := hc
      refine lv_iload_n hx hb dX1_prepare_52 rfl (lv_at hl 1 rfl) ?_
      refine lv_aload_n hx hb dX1_prepare_53 rfl (lv_at hl 0 rfl) ?_
      refine va_get (D := (dC, dI)) (ci := 1) (v := .ref h13) (C := RX1) (T := TX1) (N := 17) hx hb hG zuX1 hown hK hP 0 rfl rfl 2 (by decide) (hG _ zv506) (fun _ h9 => h9) rfl dX1_prepare_54 ?_
      have hPc := hP.sub (ws' := [(h13, .inr (7, mX7 h14 h15 h16 h17 h18 h19 h20 v13))]) [4] rfl
      have hDc := hD.sub (ws' := [(h13, .inr (7, mX7 h14 h15 h16 h17 h18 h19 h20 v13))]) [4] (by decide) rfl
      have hKc := hK.sub (tys' := []) [] rfl
      have hFc := va_free (wc := [(h13, .inr (7, mX7 h14 h15 h16 h17 h18 h19 h20 v13))]) hD hS hA [4] rfl
      refine va_calli (va_runV (As := []) (rest := [.int (u52_ 0)]) ⟨hx, hb, hml, hown, hG⟩ (sX7_leaves_0 l dC dI adK adV h13 h14 h15 h16 h17 h18 h19 h20 H.size v13 hv13) (cwV 0 hG (zgV zv1211 zv1093 zv1094 zv136 zv1095) rfl rfl rfl (by decide +kernel) ⟨Nat.le_of_ble_eq_true rfl, Nat.le_of_ble_eq_true rfl⟩) ⟨zPc_blind, va_recv hKc hPc (ci := 7) (q0 := 0) rfl rfl, zPc_pre hPc hKc hDc hE hS hFc hZ⟩ rfl rfl hl.1 rfl (lv_room (Nat.le_of_ble_eq_true rfl)) dX1_prepare_57 ⟨(show (401 + 2 * ((u52_ 0).toInt).toNat) + 0 ≤ 481 from by omega), (show (8400 + 27 * ((u52_ 0).toInt).toNat) + 0 ≤ 9480 from by omega)⟩) hS (fun q _ h => hFc q h) hFc (fun r57_ u57_ t H1 locs ht hvm hw hB hz1 hk1 hS => ?_)
      replace hw : (0 ≤ r57_.toInt ∧ r57_.toInt ≤ 40) ∧ (r57_.toInt = (v13 7).toInt) := hw
      obtain ⟨b_, hX57_0⟩ := hw
      obtain ⟨w57_, a57_, b57_, hP1, hK1, hD1⟩ := hB
      rw [ht] at hP1
      obtain ⟨hP, hD⟩ := va_joinQ (wr := [(h0, .inr (1, mX1 h1 h6 h13 h21 h36 h37 h39 h40 h41 h42 h43 h44 h45 h46 h47 hw52 v0)), (h21, .inr (3, mX3 h6 h22 h13 h31 h32 h33 h34 h35 (upd v21 8 (u4_ 0)))), (h32, zi k32 400 (a4_ 0)), (h33, zi k33 400 (a4_ 1)), (h14, zi k14 40 f14), (h15, zi k15 40 f15), (h16, zi k16 40 f16), (h6, .inr (10, mX10 h7 h8 h9 h10 h11 h12 v6)), (h31, .inl (k31, 400, .inr (.inr (.inr (.inr (q4_ 0)))))), (h8, zi k8 400 f8), (h22, .inr (6, mX6 h23 h24 h25 h26 h27 h28 h29 h30 v22)), (h28, zi k28 400 f28), (h26, zi k26 400 f26), (h23, zi k23 1250 f23), (h24, zi k24 833 f24), (h25, zi k25 833 f25), (h27, zi k27 400 f27), (h7, .inl (k7, 400, .inr (.inl f7))), (h9, zi k9 400 f9), (h29, zi k29 400 f29), (h30, zi k30 400 f30), (h19, zi k19 160 f19), (hw52, zi k41 nw52 (a50_ 0)), (h41, zi k41 40 (a52_ 0)), (h36, .inl (k36, 40, .inr (.inr (.inr (.inr (q52_ 0))))))]) (w1 := [(h13, .inr (7, mX7 h14 h15 h16 h17 h18 h19 h20 v13))]) hP hD [4] [0, 1, 2, 3, 5, 6, 7, 8, 9, 10, 11, 12, 13, 14, 15, 16, 17, 18, 19, 20, 21, 22, 23, 24, 25] rfl rfl (by decide) (by decide) hk1 hFc hP1 hD1
      have hP : va_P (dC, dI) vwCl ([(h0, .inr (1, mX1 h1 h6 h13 h21 h36 h37 h39 h40 h41 h42 h43 h44 h45 h46 h47 hw52 v0)), (h21, .inr (3, mX3 h6 h22 h13 h31 h32 h33 h34 h35 (upd v21 8 (u4_ 0)))), (h32, zi k32 400 (a4_ 0)), (h33, zi k33 400 (a4_ 1)), (h13, .inr (7, mX7 h14 h15 h16 h17 h18 h19 h20 v13)), (h14, zi k14 40 f14), (h15, zi k15 40 f15), (h16, zi k16 40 f16), (h6, .inr (10, mX10 h7 h8 h9 h10 h11 h12 v6)), (h31, .inl (k31, 400, .inr (.inr (.inr (.inr (q4_ 0)))))), (h8, zi k8 400 f8), (h22, .inr (6, mX6 h23 h24 h25 h26 h27 h28 h29 h30 v22)), (h28, zi k28 400 f28), (h26, zi k26 400 f26), (h23, zi k23 1250 f23), (h24, zi k24 833 f24), (h25, zi k25 833 f25), (h27, zi k27 400 f27), (h7, .inl (k7, 400, .inr (.inl f7))), (h9, zi k9 400 f9), (h29, zi k29 400 f29), (h30, zi k30 400 f30), (h19, zi k19 160 f19), (hw52, zi k41 nw52 (a50_ 0)), (h41, zi k41 40 (a52_ 0)), (h36, .inl (k36, 40, .inr (.inr (.inr (.inr (q52_ 0))))))] ++ pl52) H1 := hP.part [0, 1, 2, 3, 25, 4, 5, 6, 7, 8, 9, 10, 11, 12, 13, 14, 15, 16, 17, 18, 19, 20, 21, 22, 23, 24] rfl
      have hD : va_D A ([(h0, .inr (1, mX1 h1 h6 h13 h21 h36 h37 h39 h40 h41 h42 h43 h44 h45 h46 h47 hw52 v0)), (h21, .inr (3, mX3 h6 h22 h13 h31 h32 h33 h34 h35 (upd v21 8 (u4_ 0)))), (h32, zi k32 400 (a4_ 0)), (h33, zi k33 400 (a4_ 1)), (h13, .inr (7, mX7 h14 h15 h16 h17 h18 h19 h20 v13)), (h14, zi k14 40 f14), (h15, zi k15 40 f15), (h16, zi k16 40 f16), (h6, .inr (10, mX10 h7 h8 h9 h10 h11 h12 v6)), (h31, .inl (k31, 400, .inr (.inr (.inr (.inr (q4_ 0)))))), (h8, zi k8 400 f8), (h22, .inr (6, mX6 h23 h24 h25 h26 h27 h28 h29 h30 v22)), (h28, zi k28 400 f28), (h26, zi k26 400 f26), (h23, zi k23 1250 f23), (h24, zi k24 833 f24), (h25, zi k25 833 f25), (h27, zi k27 400 f27), (h7, .inl (k7, 400, .inr (.inl f7))), (h9, zi k9 400 f9), (h29, zi k29 400 f29), (h30, zi k30 400 f30), (h19, zi k19 160 f19), (hw52, zi k41 nw52 (a50_ 0)), (h41, zi k41 40 (a52_ 0)), (h36, .inl (k36, 40, .inr (.inr (.inr (.inr (q52_ 0))))))] ++ pl52) := hD.part [0, 1, 2, 3, 25, 4, 5, 6, 7, 8, 9, 10, 11, 12, 13, 14, 15, 16, 17, 18, 19, 20, 21, 22, 23, 24] (by decide) rfl
      generalize H1 = H at hP hS ⊢
      clear hz1
      refine lv_icmp_ge (tgt := 98) hx hb dX1_prepare_60 (by decide) (fun c_ => ?_) (fun c_ => ?_)
      · skip
        have b_ := zT_ge rfl rfl c_
        refine W.widen (k := 481) (n := 9480) (by omega) (by omega) ?_
        have hpost : (0 ≤ (u4_ 0).toInt ∧ (u4_ 0).toInt ≤ 400) := (by first | with_reducible assumption | exact ⟨by omega, by omega⟩)
        have hP9 : va_P (dC, dI) vwCl ([(h0, .inr (1, mX1 h1 h6 h13 h21 h36 h37 h39 h40 h41 h42 h43 h44 h45 h46 h47 hw52 v0)), (h21, .inr (3, mX3 h6 h22 h13 h31 h32 h33 h34 h35 (upd v21 8 (u4_ 0)))), (h32, zi k32 400 (a4_ 0)), (h33, zi k33 400 (a4_ 1)), (h13, .inr (7, mX7 h14 h15 h16 h17 h18 h19 h20 v13)), (h14, zi k14 40 f14), (h15, zi k15 40 f15), (h16, zi k16 40 f16), (h6, .inr (10, mX10 h7 h8 h9 h10 h11 h12 v6)), (h31, .inl (k31, 400, .inr (.inr (.inr (.inr (q4_ 0)))))), (h8, zi k8 400 f8), (h22, .inr (6, mX6 h23 h24 h25 h26 h27 h28 h29 h30 v22)), (h28, zi k28 400 f28), (h26, zi k26 400 f26), (h23, zi k23 1250 f23), (h24, zi k24 833 f24), (h25, zi k25 833 f25), (h27, zi k27 400 f27), (h7, .inl (k7, 400, .inr (.inl f7))), (h9, zi k9 400 f9), (h29, zi k29 400 f29), (h30, zi k30 400 f30), (h19, zi k19 160 f19), (hw52, zi k41 nw52 (a50_ 0)), (h41, zi k41 40 (a52_ 0)), (h36, .inl (k36, 40, .inr (.inr (.inr (.inr (q52_ 0))))))] ++ pl52) H := hP
        have hD9 : va_D A ([(h0, .inr (1, mX1 h1 h6 h13 h21 h36 h37 h39 h40 h41 h42 h43 h44 h45 h46 h47 hw52 v0)), (h21, .inr (3, mX3 h6 h22 h13 h31 h32 h33 h34 h35 (upd v21 8 (u4_ 0)))), (h32, zi k32 400 (a4_ 0)), (h33, zi k33 400 (a4_ 1)), (h13, .inr (7, mX7 h14 h15 h16 h17 h18 h19 h20 v13)), (h14, zi k14 40 f14), (h15, zi k15 40 f15), (h16, zi k16 40 f16), (h6, .inr (10, mX10 h7 h8 h9 h10 h11 h12 v6)), (h31, .inl (k31, 400, .inr (.inr (.inr (.inr (q4_ 0)))))), (h8, zi k8 400 f8), (h22, .inr (6, mX6 h23 h24 h25 h26 h27 h28 h29 h30 v22)), (h28, zi k28 400 f28), (h26, zi k26 400 f26), (h23, zi k23 1250 f23), (h24, zi k24 833 f24), (h25, zi k25 833 f25), (h27, zi k27 400 f27), (h7, .inl (k7, 400, .inr (.inl f7))), (h9, zi k9 400 f9), (h29, zi k29 400 f29), (h30, zi k30 400 f30), (h19, zi k19 160 f19), (hw52, zi k41 nw52 (a50_ 0)), (h41, zi k41 40 (a52_ 0)), (h36, .inl (k36, 40, .inr (.inr (.inr (.inr (q52_ 0))))))] ++ pl52) := hD
        have hB0 : zRd h22 (q4_ 0) pl52 := by assumption
        have hB1 : zPs k41 (q52_ 0) pl52 := by assumption
        have hB2 : zOt pl0 pl52 := by first | assumption | exact zOt_rf
        have hB3 : zOpA h22 f31 f7 f8 f9 (v6 7).toInt f23 f24 f25 f26 f27 f28 (v22 8).toInt (v22 9).toInt (v22 10).toInt (v22 11).toInt f29 f30 f32 f33 (v21 8).toInt (q4_ 0) pl52 (a4_ 0) (a4_ 1) (u4_ 0).toInt f14 f15 f16 f19 (v13 8).toInt (v13 7).toInt := by assumption
        have hB4 : zPnn (q52_ 0) (v13 7).toInt := by exact zPnn_e hI52_0 (by omega)
        have hB5 : 120 * (v13 7).toInt ≤ ((nw52 : Nat) : Int) := by omega
        have hB6 : zHv0 (a52_ 0) (v13 7).toInt := by exact zHv0_e hI52_3 (by omega)
        exact W.vret hx hb hr (fun t ht hW => ⟨⟨(fun i => ([(u4_ 0)] : List (Int32)).getD i 0), rfl, hpost, (fun _ => 0), (fun i => ([(a4_ 0), (a4_ 1), (a50_ 0), (a52_ 0)] : List (Nat → Int32)).getD i (fun _ => 0)), (fun _ => (fun _ => 0)), (fun i => ([(q4_ 0), (q52_ 0)] : List (Nat → Option Nat)).getD i (fun _ => none)), pl52, hw52, nw52, hn52_, ha4_0, ha50_0, hB0, hB1, hB2, hB3, hB4, hB5, hB6, by rw [ht]; exact hP9, va_K.moved hW.alike hK, hD9⟩, hS.F ht⟩) hS.2.2 dX1_prepare_98
      · skip
        have b_ := zF_ge rfl rfl c_
        refine lv_aload_n hx hb dX1_prepare_63 rfl (lv_at hl 0 rfl) ?_
        refine va_get (D := (dC, dI)) (ci := 1) (v := .ref h41) (C := RX1) (T := TX1) (N := 17) hx hb hG zuX1 hown hK hP 0 rfl rfl 8 (by decide) (hG _ zv512) (fun _ h9 => h9) rfl dX1_prepare_64 ?_
        refine lv_iload_n hx hb dX1_prepare_67 rfl (lv_at hl 1 rfl) ?_
        refine lv_iconst (v := 0) hx hb dX1_prepare_68 (by decide) ?_
        refine va_iast hx hb hK hP hD hS 24 19 rfl rfl (zin_lit ⟨by omega, by omega⟩) dX1_prepare_69 (fun H locs hP hD hS => ?_)
        obtain ⟨f_69, e_f_69⟩ : ∃ z : Nat → Int32, z = upd (a52_ 0) ((u52_ 0) : Int32).toNatClampNeg 0 := ⟨_, rfl⟩
        have hP : va_P (dC, dI) vwCl ([(h0, .inr (1, mX1 h1 h6 h13 h21 h36 h37 h39 h40 h41 h42 h43 h44 h45 h46 h47 hw52 v0)), (h21, .inr (3, mX3 h6 h22 h13 h31 h32 h33 h34 h35 (upd v21 8 (u4_ 0)))), (h32, zi k32 400 (a4_ 0)), (h33, zi k33 400 (a4_ 1)), (h13, .inr (7, mX7 h14 h15 h16 h17 h18 h19 h20 v13)), (h14, zi k14 40 f14), (h15, zi k15 40 f15), (h16, zi k16 40 f16), (h6, .inr (10, mX10 h7 h8 h9 h10 h11 h12 v6)), (h31, .inl (k31, 400, .inr (.inr (.inr (.inr (q4_ 0)))))), (h8, zi k8 400 f8), (h22, .inr (6, mX6 h23 h24 h25 h26 h27 h28 h29 h30 v22)), (h28, zi k28 400 f28), (h26, zi k26 400 f26), (h23, zi k23 1250 f23), (h24, zi k24 833 f24), (h25, zi k25 833 f25), (h27, zi k27 400 f27), (h7, .inl (k7, 400, .inr (.inl f7))), (h9, zi k9 400 f9), (h29, zi k29 400 f29), (h30, zi k30 400 f30), (h19, zi k19 160 f19), (hw52, zi k41 nw52 (a50_ 0)), (h41, zi k41 40 f_69), (h36, .inl (k36, 40, .inr (.inr (.inr (.inr (q52_ 0))))))] ++ pl52) H := by rw [e_f_69]; exact hP
        have hD : va_D A ([(h0, .inr (1, mX1 h1 h6 h13 h21 h36 h37 h39 h40 h41 h42 h43 h44 h45 h46 h47 hw52 v0)), (h21, .inr (3, mX3 h6 h22 h13 h31 h32 h33 h34 h35 (upd v21 8 (u4_ 0)))), (h32, zi k32 400 (a4_ 0)), (h33, zi k33 400 (a4_ 1)), (h13, .inr (7, mX7 h14 h15 h16 h17 h18 h19 h20 v13)), (h14, zi k14 40 f14), (h15, zi k15 40 f15), (h16, zi k16 40 f16), (h6, .inr (10, mX10 h7 h8 h9 h10 h11 h12 v6)), (h31, .inl (k31, 400, .inr (.inr (.inr (.inr (q4_ 0)))))), (h8, zi k8 400 f8), (h22, .inr (6, mX6 h23 h24 h25 h26 h27 h28 h29 h30 v22)), (h28, zi k28 400 f28), (h26, zi k26 400 f26), (h23, zi k23 1250 f23), (h24, zi k24 833 f24), (h25, zi k25 833 f25), (h27, zi k27 400 f27), (h7, .inl (k7, 400, .inr (.inl f7))), (h9, zi k9 400 f9), (h29, zi k29 400 f29), (h30, zi k30 400 f30), (h19, zi k19 160 f19), (hw52, zi k41 nw52 (a50_ 0)), (h41, zi k41 40 f_69), (h36, .inl (k36, 40, .inr (.inr (.inr (.inr (q52_ 0))))))] ++ pl52) := by rw [e_f_69]; exact hD
        refine lv_aload_n hx hb dX1_prepare_70 rfl (lv_at hl 0 rfl) ?_
        refine va_get (D := (dC, dI)) (ci := 1) (v := .ref h36) (C := RX1) (T := TX1) (N := 17) hx hb hG zuX1 hown hK hP 0 rfl rfl 4 (by decide) (hG _ zv508) (fun _ h9 => h9) rfl dX1_prepare_71 ?_
        refine lv_iload_n hx hb dX1_prepare_74 rfl (lv_at hl 1 rfl) ?_
        refine va_aldq hx hb hK hP 25 20 rfl rfl (zin_lit ⟨by omega, by omega⟩) dX1_prepare_75 ?_
        refine lv_topq (fun o75 e_o75 => ?_)
        rcases o75 with _ | a75_
        · skip
          refine W.eq (g2 := F0 m 76 ls [.null]) rfl ?_
          refine lv_ifnonnullN hx hb dX1_prepare_76 ?_
          refine lv_aload_n hx hb dX1_prepare_79 rfl (lv_at hl 0 rfl) ?_
          refine va_get (D := (dC, dI)) (ci := 1) (v := .ref h36) (C := RX1) (T := TX1) (N := 17) hx hb hG zuX1 hown hK hP 0 rfl rfl 4 (by decide) (hG _ zv508) (fun _ h9 => h9) rfl dX1_prepare_80 ?_
          refine lv_iload_n hx hb dX1_prepare_83 rfl (lv_at hl 1 rfl) ?_
          refine va_new (ci := 5) (fs := [.null]) (C := RX5) (T := TX5) (N := 1) hx hb hG zuX5 tyX5 tyX5_ok hown (hG _ zv451) (hG _ zv453) (hG _ zv139) hK hP hD hS hA rfl (by decide +kernel) (show (401 + 2 * ((u52_ 0).toInt).toNat) + 1 ≤ 481 from by omega) (show (8400 + 27 * ((u52_ 0).toInt).toNat) + 1 ≤ 9480 from by omega) dX1_prepare_84 (fun q84_ H hP hD hS => ?_)
          have hP : va_P (dC, dI) vwCl ([(h0, .inr (1, mX1 h1 h6 h13 h21 h36 h37 h39 h40 h41 h42 h43 h44 h45 h46 h47 hw52 v0)), (h21, .inr (3, mX3 h6 h22 h13 h31 h32 h33 h34 h35 (upd v21 8 (u4_ 0)))), (h32, zi k32 400 (a4_ 0)), (h33, zi k33 400 (a4_ 1)), (h13, .inr (7, mX7 h14 h15 h16 h17 h18 h19 h20 v13)), (h14, zi k14 40 f14), (h15, zi k15 40 f15), (h16, zi k16 40 f16), (h6, .inr (10, mX10 h7 h8 h9 h10 h11 h12 v6)), (h31, .inl (k31, 400, .inr (.inr (.inr (.inr (q4_ 0)))))), (h8, zi k8 400 f8), (h22, .inr (6, mX6 h23 h24 h25 h26 h27 h28 h29 h30 v22)), (h28, zi k28 400 f28), (h26, zi k26 400 f26), (h23, zi k23 1250 f23), (h24, zi k24 833 f24), (h25, zi k25 833 f25), (h27, zi k27 400 f27), (h7, .inl (k7, 400, .inr (.inl f7))), (h9, zi k9 400 f9), (h29, zi k29 400 f29), (h30, zi k30 400 f30), (h19, zi k19 160 f19), (hw52, zi k41 nw52 (a50_ 0)), (h41, zi k41 40 f_69), (h36, .inl (k36, 40, .inr (.inr (.inr (.inr (q52_ 0)))))), (q84_, .inr (5, [.null]))] ++ pl52) H := va_P.swap hP
          have hD : va_D A ([(h0, .inr (1, mX1 h1 h6 h13 h21 h36 h37 h39 h40 h41 h42 h43 h44 h45 h46 h47 hw52 v0)), (h21, .inr (3, mX3 h6 h22 h13 h31 h32 h33 h34 h35 (upd v21 8 (u4_ 0)))), (h32, zi k32 400 (a4_ 0)), (h33, zi k33 400 (a4_ 1)), (h13, .inr (7, mX7 h14 h15 h16 h17 h18 h19 h20 v13)), (h14, zi k14 40 f14), (h15, zi k15 40 f15), (h16, zi k16 40 f16), (h6, .inr (10, mX10 h7 h8 h9 h10 h11 h12 v6)), (h31, .inl (k31, 400, .inr (.inr (.inr (.inr (q4_ 0)))))), (h8, zi k8 400 f8), (h22, .inr (6, mX6 h23 h24 h25 h26 h27 h28 h29 h30 v22)), (h28, zi k28 400 f28), (h26, zi k26 400 f26), (h23, zi k23 1250 f23), (h24, zi k24 833 f24), (h25, zi k25 833 f25), (h27, zi k27 400 f27), (h7, .inl (k7, 400, .inr (.inl f7))), (h9, zi k9 400 f9), (h29, zi k29 400 f29), (h30, zi k30 400 f30), (h19, zi k19 160 f19), (hw52, zi k41 nw52 (a50_ 0)), (h41, zi k41 40 f_69), (h36, .inl (k36, 40, .inr (.inr (.inr (.inr (q52_ 0)))))), (q84_, .inr (5, [.null]))] ++ pl52) := va_D.swap hD
          refine lv_dup hx hb dX1_prepare_87 rfl ?_
          have hPc := hP.sub (ws' := [(q84_, .inr (5, [.null]))]) [26] rfl
          have hDc := hD.sub (ws' := [(q84_, .inr (5, [.null]))]) [26] (by decide) rfl
          have hKc := hK.sub (tys' := []) [] rfl
          have hFc := va_free (wc := [(q84_, .inr (5, [.null]))]) hD hS hA [26] rfl
          refine va_callv (va_runIN (As := []) (rest := [.ref q84_, .int (u52_ 0), .ref h36]) ⟨hx, hb, hml, hown, hG⟩ (kX5_init_0 l dC dI adK adV q84_ H.size) ⟨va_cnB 0 hG (zgI zv456) rfl rfl rfl (zE_RX1_17 hE) (hG _ zv139) (by decide +kernel) ⟨Nat.le_of_ble_eq_true rfl, Nat.le_of_ble_eq_true rfl⟩, rfl, hG _ zv455⟩ ⟨zPc_blind, zPc_pre hPc hKc hDc hE hS hFc hZ⟩ rfl rfl hl.1 rfl (lv_room (Nat.le_of_ble_eq_true rfl)) dX1_prepare_88 ⟨(show (401 + 2 * ((u52_ 0).toInt).toNat) + 1 + 1 ≤ 481 from by omega), (show (8400 + 27 * ((u52_ 0).toInt).toNat) + 1 + 26 ≤ 9480 from by omega)⟩) hS (fun q _ h => hFc q h) hFc (fun u88_ t H1 locs ht hvm hw hB hz1 hk1 hS => ?_)
          obtain ⟨b88_, j88_, hP1, hK1, hD1⟩ := hB
          have ej := zK_same hK (i := 19) rfl hvm hK1
          rw [ej] at hP1 hD1
          rw [ht] at hP1
          have hP1 : va_P (dC, dI) vwCl [(q84_, .inr (5, mX5 b88_)), (b88_, zi k41 26 (fun _ => 0))] H1 := hP1
          have hD1 : va_D _ [(q84_, .inr (5, mX5 b88_)), (b88_, zi k41 26 (fun _ => 0))] := hD1
          obtain ⟨hP, hD⟩ := va_joinQ (wr := [(h0, .inr (1, mX1 h1 h6 h13 h21 h36 h37 h39 h40 h41 h42 h43 h44 h45 h46 h47 hw52 v0)), (h21, .inr (3, mX3 h6 h22 h13 h31 h32 h33 h34 h35 (upd v21 8 (u4_ 0)))), (h32, zi k32 400 (a4_ 0)), (h33, zi k33 400 (a4_ 1)), (h13, .inr (7, mX7 h14 h15 h16 h17 h18 h19 h20 v13)), (h14, zi k14 40 f14), (h15, zi k15 40 f15), (h16, zi k16 40 f16), (h6, .inr (10, mX10 h7 h8 h9 h10 h11 h12 v6)), (h31, .inl (k31, 400, .inr (.inr (.inr (.inr (q4_ 0)))))), (h8, zi k8 400 f8), (h22, .inr (6, mX6 h23 h24 h25 h26 h27 h28 h29 h30 v22)), (h28, zi k28 400 f28), (h26, zi k26 400 f26), (h23, zi k23 1250 f23), (h24, zi k24 833 f24), (h25, zi k25 833 f25), (h27, zi k27 400 f27), (h7, .inl (k7, 400, .inr (.inl f7))), (h9, zi k9 400 f9), (h29, zi k29 400 f29), (h30, zi k30 400 f30), (h19, zi k19 160 f19), (hw52, zi k41 nw52 (a50_ 0)), (h41, zi k41 40 f_69), (h36, .inl (k36, 40, .inr (.inr (.inr (.inr (q52_ 0))))))]) (w1 := [(q84_, .inr (5, mX5 b88_)), (b88_, zi k41 26 (fun _ => 0))]) hP hD [26] [0, 1, 2, 3, 4, 5, 6, 7, 8, 9, 10, 11, 12, 13, 14, 15, 16, 17, 18, 19, 20, 21, 22, 23, 24, 25] rfl rfl (by decide) (by decide) hk1 hFc hP1 hD1
          have hP : va_P (dC, dI) vwCl ([(h0, .inr (1, mX1 h1 h6 h13 h21 h36 h37 h39 h40 h41 h42 h43 h44 h45 h46 h47 hw52 v0)), (h21, .inr (3, mX3 h6 h22 h13 h31 h32 h33 h34 h35 (upd v21 8 (u4_ 0)))), (h32, zi k32 400 (a4_ 0)), (h33, zi k33 400 (a4_ 1)), (h13, .inr (7, mX7 h14 h15 h16 h17 h18 h19 h20 v13)), (h14, zi k14 40 f14), (h15, zi k15 40 f15), (h16, zi k16 40 f16), (h6, .inr (10, mX10 h7 h8 h9 h10 h11 h12 v6)), (h31, .inl (k31, 400, .inr (.inr (.inr (.inr (q4_ 0)))))), (h8, zi k8 400 f8), (h22, .inr (6, mX6 h23 h24 h25 h26 h27 h28 h29 h30 v22)), (h28, zi k28 400 f28), (h26, zi k26 400 f26), (h23, zi k23 1250 f23), (h24, zi k24 833 f24), (h25, zi k25 833 f25), (h27, zi k27 400 f27), (h7, .inl (k7, 400, .inr (.inl f7))), (h9, zi k9 400 f9), (h29, zi k29 400 f29), (h30, zi k30 400 f30), (h19, zi k19 160 f19), (hw52, zi k41 nw52 (a50_ 0)), (h41, zi k41 40 f_69), (h36, .inl (k36, 40, .inr (.inr (.inr (.inr (q52_ 0)))))), (q84_, .inr (5, mX5 b88_)), (b88_, zi k41 26 (fun _ => 0))] ++ pl52) H1 := hP.part [0, 1, 2, 3, 4, 5, 6, 7, 8, 9, 10, 11, 12, 13, 14, 15, 16, 17, 18, 19, 20, 21, 22, 23, 24, 25, 26, 27] rfl
          have hD : va_D A ([(h0, .inr (1, mX1 h1 h6 h13 h21 h36 h37 h39 h40 h41 h42 h43 h44 h45 h46 h47 hw52 v0)), (h21, .inr (3, mX3 h6 h22 h13 h31 h32 h33 h34 h35 (upd v21 8 (u4_ 0)))), (h32, zi k32 400 (a4_ 0)), (h33, zi k33 400 (a4_ 1)), (h13, .inr (7, mX7 h14 h15 h16 h17 h18 h19 h20 v13)), (h14, zi k14 40 f14), (h15, zi k15 40 f15), (h16, zi k16 40 f16), (h6, .inr (10, mX10 h7 h8 h9 h10 h11 h12 v6)), (h31, .inl (k31, 400, .inr (.inr (.inr (.inr (q4_ 0)))))), (h8, zi k8 400 f8), (h22, .inr (6, mX6 h23 h24 h25 h26 h27 h28 h29 h30 v22)), (h28, zi k28 400 f28), (h26, zi k26 400 f26), (h23, zi k23 1250 f23), (h24, zi k24 833 f24), (h25, zi k25 833 f25), (h27, zi k27 400 f27), (h7, .inl (k7, 400, .inr (.inl f7))), (h9, zi k9 400 f9), (h29, zi k29 400 f29), (h30, zi k30 400 f30), (h19, zi k19 160 f19), (hw52, zi k41 nw52 (a50_ 0)), (h41, zi k41 40 f_69), (h36, .inl (k36, 40, .inr (.inr (.inr (.inr (q52_ 0)))))), (q84_, .inr (5, mX5 b88_)), (b88_, zi k41 26 (fun _ => 0))] ++ pl52) := hD.part [0, 1, 2, 3, 4, 5, 6, 7, 8, 9, 10, 11, 12, 13, 14, 15, 16, 17, 18, 19, 20, 21, 22, 23, 24, 25, 26, 27] (by decide) rfl
          generalize H1 = H at hP hS ⊢
          clear hz1
          refine va_astq hx hb hK hP hD hS 25 20 26 5 rfl rfl rfl rfl (zin_lit ⟨by omega, by omega⟩) dX1_prepare_91 (fun H locs hP hD hS => ?_)
          obtain ⟨f_91, e_f_91⟩ : ∃ z : Nat → Option Nat, z = va_up (q52_ 0) ((u52_ 0) : Int32).toNatClampNeg (some q84_) := ⟨_, rfl⟩
          have hP : va_P (dC, dI) vwCl ([(h0, .inr (1, mX1 h1 h6 h13 h21 h36 h37 h39 h40 h41 h42 h43 h44 h45 h46 h47 hw52 v0)), (h21, .inr (3, mX3 h6 h22 h13 h31 h32 h33 h34 h35 (upd v21 8 (u4_ 0)))), (h32, zi k32 400 (a4_ 0)), (h33, zi k33 400 (a4_ 1)), (h13, .inr (7, mX7 h14 h15 h16 h17 h18 h19 h20 v13)), (h14, zi k14 40 f14), (h15, zi k15 40 f15), (h16, zi k16 40 f16), (h6, .inr (10, mX10 h7 h8 h9 h10 h11 h12 v6)), (h31, .inl (k31, 400, .inr (.inr (.inr (.inr (q4_ 0)))))), (h8, zi k8 400 f8), (h22, .inr (6, mX6 h23 h24 h25 h26 h27 h28 h29 h30 v22)), (h28, zi k28 400 f28), (h26, zi k26 400 f26), (h23, zi k23 1250 f23), (h24, zi k24 833 f24), (h25, zi k25 833 f25), (h27, zi k27 400 f27), (h7, .inl (k7, 400, .inr (.inl f7))), (h9, zi k9 400 f9), (h29, zi k29 400 f29), (h30, zi k30 400 f30), (h19, zi k19 160 f19), (hw52, zi k41 nw52 (a50_ 0)), (h41, zi k41 40 f_69), (h36, .inl (k36, 40, .inr (.inr (.inr (.inr f_91))))), (q84_, .inr (5, mX5 b88_)), (b88_, zi k41 26 (fun _ => 0))] ++ pl52) H := by rw [e_f_91]; exact hP
          have hD : va_D A ([(h0, .inr (1, mX1 h1 h6 h13 h21 h36 h37 h39 h40 h41 h42 h43 h44 h45 h46 h47 hw52 v0)), (h21, .inr (3, mX3 h6 h22 h13 h31 h32 h33 h34 h35 (upd v21 8 (u4_ 0)))), (h32, zi k32 400 (a4_ 0)), (h33, zi k33 400 (a4_ 1)), (h13, .inr (7, mX7 h14 h15 h16 h17 h18 h19 h20 v13)), (h14, zi k14 40 f14), (h15, zi k15 40 f15), (h16, zi k16 40 f16), (h6, .inr (10, mX10 h7 h8 h9 h10 h11 h12 v6)), (h31, .inl (k31, 400, .inr (.inr (.inr (.inr (q4_ 0)))))), (h8, zi k8 400 f8), (h22, .inr (6, mX6 h23 h24 h25 h26 h27 h28 h29 h30 v22)), (h28, zi k28 400 f28), (h26, zi k26 400 f26), (h23, zi k23 1250 f23), (h24, zi k24 833 f24), (h25, zi k25 833 f25), (h27, zi k27 400 f27), (h7, .inl (k7, 400, .inr (.inl f7))), (h9, zi k9 400 f9), (h29, zi k29 400 f29), (h30, zi k30 400 f30), (h19, zi k19 160 f19), (hw52, zi k41 nw52 (a50_ 0)), (h41, zi k41 40 f_69), (h36, .inl (k36, 40, .inr (.inr (.inr (.inr f_91))))), (q84_, .inr (5, mX5 b88_)), (b88_, zi k41 26 (fun _ => 0))] ++ pl52) := by rw [e_f_91]; exact hD
          obtain ⟨z92, e_z92⟩ : ∃ z : Int32, z = (u52_ 0) + Int32.ofInt 1 := ⟨_, rfl⟩
          have b_ := zadd (x := (u52_ 0)) (y := Int32.ofInt 1) rfl (show (Int32.ofInt 1).toInt = 1 from by decide) e_z92 (by omega) (by omega)
          refine lv_iinc (v := z92) (lv' := [(1, .int z92), (0, .ref h0)]) hx hb dX1_prepare_92 hl (k := 1) rfl e_z92.symm (by decide) rfl (fun ls hl => ?_)
          refine W.widen (k := (401 + 2 * (z92.toInt).toNat)) (n := (8400 + 27 * (z92.toInt).toNat)) (by omega) (by omega) ?_
          refine lv_goto (tgt := 52) hx hb dX1_prepare_95 (by decide) ?_
          obtain ⟨plx21, e_plx21⟩ : ∃ z : va_W, z = (q84_, .inr (5, mX5 b88_)) :: (b88_, zi k41 26 (fun _ => 0)) :: pl52 := ⟨_, rfl⟩
          have hfr := zD_new2 (X := [(h0, .inr (1, mX1 h1 h6 h13 h21 h36 h37 h39 h40 h41 h42 h43 h44 h45 h46 h47 hw52 v0)), (h21, .inr (3, mX3 h6 h22 h13 h31 h32 h33 h34 h35 (upd v21 8 (u4_ 0)))), (h32, zi k32 400 (a4_ 0)), (h33, zi k33 400 (a4_ 1)), (h13, .inr (7, mX7 h14 h15 h16 h17 h18 h19 h20 v13)), (h14, zi k14 40 f14), (h15, zi k15 40 f15), (h16, zi k16 40 f16), (h6, .inr (10, mX10 h7 h8 h9 h10 h11 h12 v6)), (h31, .inl (k31, 400, .inr (.inr (.inr (.inr (q4_ 0)))))), (h8, zi k8 400 f8), (h22, .inr (6, mX6 h23 h24 h25 h26 h27 h28 h29 h30 v22)), (h28, zi k28 400 f28), (h26, zi k26 400 f26), (h23, zi k23 1250 f23), (h24, zi k24 833 f24), (h25, zi k25 833 f25), (h27, zi k27 400 f27), (h7, .inl (k7, 400, .inr (.inl f7))), (h9, zi k9 400 f9), (h29, zi k29 400 f29), (h30, zi k30 400 f30), (h19, zi k19 160 f19), (hw52, zi k41 nw52 (a50_ 0)), (h41, zi k41 40 f_69), (h36, .inl (k36, 40, .inr (.inr (.inr (.inr f_91)))))]) hD
          have hP : va_P (dC, dI) vwCl ([(h0, .inr (1, mX1 h1 h6 h13 h21 h36 h37 h39 h40 h41 h42 h43 h44 h45 h46 h47 hw52 v0)), (h21, .inr (3, mX3 h6 h22 h13 h31 h32 h33 h34 h35 (upd v21 8 (u4_ 0)))), (h32, zi k32 400 (a4_ 0)), (h33, zi k33 400 (a4_ 1)), (h13, .inr (7, mX7 h14 h15 h16 h17 h18 h19 h20 v13)), (h14, zi k14 40 f14), (h15, zi k15 40 f15), (h16, zi k16 40 f16), (h6, .inr (10, mX10 h7 h8 h9 h10 h11 h12 v6)), (h31, .inl (k31, 400, .inr (.inr (.inr (.inr (q4_ 0)))))), (h8, zi k8 400 f8), (h22, .inr (6, mX6 h23 h24 h25 h26 h27 h28 h29 h30 v22)), (h28, zi k28 400 f28), (h26, zi k26 400 f26), (h23, zi k23 1250 f23), (h24, zi k24 833 f24), (h25, zi k25 833 f25), (h27, zi k27 400 f27), (h7, .inl (k7, 400, .inr (.inl f7))), (h9, zi k9 400 f9), (h29, zi k29 400 f29), (h30, zi k30 400 f30), (h19, zi k19 160 f19), (hw52, zi k41 nw52 (a50_ 0)), (h41, zi k41 40 f_69), (h36, .inl (k36, 40, .inr (.inr (.inr (.inr f_91)))))] ++ plx21) H := by rw [e_plx21]; exact hP
          have hD : va_D A ([(h0, .inr (1, mX1 h1 h6 h13 h21 h36 h37 h39 h40 h41 h42 h43 h44 h45 h46 h47 hw52 v0)), (h21, .inr (3, mX3 h6 h22 h13 h31 h32 h33 h34 h35 (upd v21 8 (u4_ 0)))), (h32, zi k32 400 (a4_ 0)), (h33, zi k33 400 (a4_ 1)), (h13, .inr (7, mX7 h14 h15 h16 h17 h18 h19 h20 v13)), (h14, zi k14 40 f14), (h15, zi k15 40 f15), (h16, zi k16 40 f16), (h6, .inr (10, mX10 h7 h8 h9 h10 h11 h12 v6)), (h31, .inl (k31, 400, .inr (.inr (.inr (.inr (q4_ 0)))))), (h8, zi k8 400 f8), (h22, .inr (6, mX6 h23 h24 h25 h26 h27 h28 h29 h30 v22)), (h28, zi k28 400 f28), (h26, zi k26 400 f26), (h23, zi k23 1250 f23), (h24, zi k24 833 f24), (h25, zi k25 833 f25), (h27, zi k27 400 f27), (h7, .inl (k7, 400, .inr (.inl f7))), (h9, zi k9 400 f9), (h29, zi k29 400 f29), (h30, zi k30 400 f30), (h19, zi k19 160 f19), (hw52, zi k41 nw52 (a50_ 0)), (h41, zi k41 40 f_69), (h36, .inl (k36, 40, .inr (.inr (.inr (.inr f_91)))))] ++ plx21) := by rw [e_plx21]; exact hD
          have hpl_ : zRd h22 (q4_ 0) plx21 := by rw [e_plx21]; exact zRd_newP (show zRd h22 (q4_ 0) pl52 from by first | assumption | exact zKp_rf | exact zOt_rf)
          have hpl_ : zPs k41 f_91 plx21 := by rw [e_plx21, e_f_91]; exact zPs_newP (show zPs k41 (q52_ 0) pl52 from by first | assumption | exact zKp_rf | exact zOt_rf) (zltc (by omega) (by omega)) e_o75.symm hfr
          have hpl_ : zOt pl0 plx21 := by rw [e_plx21]; exact zOt_newP (show zOt pl0 pl52 from by first | assumption | exact zKp_rf | exact zOt_rf)
          have hpl_ : zOpA h22 f31 f7 f8 f9 (v6 7).toInt f23 f24 f25 f26 f27 f28 (v22 8).toInt (v22 9).toInt (v22 10).toInt (v22 11).toInt f29 f30 f32 f33 (v21 8).toInt (q4_ 0) plx21 (a4_ 0) (a4_ 1) (u4_ 0).toInt f14 f15 f16 f19 (v13 8).toInt (v13 7).toInt := by rw [e_plx21]; exact zOpA_newP (show zOpA h22 f31 f7 f8 f9 (v6 7).toInt f23 f24 f25 f26 f27 f28 (v22 8).toInt (v22 9).toInt (v22 10).toInt (v22 11).toInt f29 f30 f32 f33 (v21 8).toInt (q4_ 0) pl52 (a4_ 0) (a4_ 1) (u4_ 0).toInt f14 f15 f16 f19 (v13 8).toInt (v13 7).toInt from by first | assumption | exact zKp_rf | exact zOt_rf)
          have hc : va_P (dC, dI) vwCl ([(h0, .inr (1, mX1 h1 h6 h13 h21 h36 h37 h39 h40 h41 h42 h43 h44 h45 h46 h47 hw52 v0)), (h21, .inr (3, mX3 h6 h22 h13 h31 h32 h33 h34 h35 (upd v21 8 (u4_ 0)))), (h32, zi k32 400 (a4_ 0)), (h33, zi k33 400 (a4_ 1)), (h13, .inr (7, mX7 h14 h15 h16 h17 h18 h19 h20 v13)), (h14, zi k14 40 f14), (h15, zi k15 40 f15), (h16, zi k16 40 f16), (h6, .inr (10, mX10 h7 h8 h9 h10 h11 h12 v6)), (h31, .inl (k31, 400, .inr (.inr (.inr (.inr (q4_ 0)))))), (h8, zi k8 400 f8), (h22, .inr (6, mX6 h23 h24 h25 h26 h27 h28 h29 h30 v22)), (h28, zi k28 400 f28), (h26, zi k26 400 f26), (h23, zi k23 1250 f23), (h24, zi k24 833 f24), (h25, zi k25 833 f25), (h27, zi k27 400 f27), (h7, .inl (k7, 400, .inr (.inl f7))), (h9, zi k9 400 f9), (h29, zi k29 400 f29), (h30, zi k30 400 f30), (h19, zi k19 160 f19), (hw52, zi k41 nw52 (a50_ 0)), (h41, zi k41 40 f_69), (h36, .inl (k36, 40, .inr (.inr (.inr (.inr f_91)))))] ++ plx21) H ∧ va_D A ([(h0, .inr (1, mX1 h1 h6 h13 h21 h36 h37 h39 h40 h41 h42 h43 h44 h45 h46 h47 hw52 v0)), (h21, .inr (3, mX3 h6 h22 h13 h31 h32 h33 h34 h35 (upd v21 8 (u4_ 0)))), (h32, zi k32 400 (a4_ 0)), (h33, zi k33 400 (a4_ 1)), (h13, .inr (7, mX7 h14 h15 h16 h17 h18 h19 h20 v13)), (h14, zi k14 40 f14), (h15, zi k15 40 f15), (h16, zi k16 40 f16), (h6, .inr (10, mX10 h7 h8 h9 h10 h11 h12 v6)), (h31, .inl (k31, 400, .inr (.inr (.inr (.inr (q4_ 0)))))), (h8, zi k8 400 f8), (h22, .inr (6, mX6 h23 h24 h25 h26 h27 h28 h29 h30 v22)), (h28, zi k28 400 f28), (h26, zi k26 400 f26), (h23, zi k23 1250 f23), (h24, zi k24 833 f24), (h25, zi k25 833 f25), (h27, zi k27 400 f27), (h7, .inl (k7, 400, .inr (.inl f7))), (h9, zi k9 400 f9), (h29, zi k29 400 f29), (h30, zi k30 400 f30), (h19, zi k19 160 f19), (hw52, zi k41 nw52 (a50_ 0)), (h41, zi k41 40 f_69), (h36, .inl (k36, 40, .inr (.inr (.inr (.inr f_91)))))] ++ plx21) ∧ va_S A s.heap H locs ∧ lv_has ls 2 [(0, .ref h0), (1, .int z92)] ∧ (0 ≤ z92.toInt ∧ z92.toInt ≤ 40) ∧ (zPnn f_91 z92.toInt) ∧ (zOpA h22 f31 f7 f8 f9 (v6 7).toInt f23 f24 f25 f26 f27 f28 (v22 8).toInt (v22 9).toInt (v22 10).toInt (v22 11).toInt f29 f30 f32 f33 (v21 8).toInt (q4_ 0) plx21 (a4_ 0) (a4_ 1) (u4_ 0).toInt f14 f15 f16 f19 (v13 8).toInt (v13 7).toInt) ∧ (120 * (v13 7).toInt ≤ ((nw52 : Nat) : Int)) ∧ (zHv0 f_69 z92.toInt) ∧ (zRd h22 (q4_ 0) plx21) ∧ (zPs k41 f_91 plx21) ∧ (zOt pl0 plx21) := ⟨hP, hD, hS, lv_sub hl [1, 0] rfl, (by first | with_reducible assumption | exact ⟨by omega, by omega⟩), by first | exact zPnn_s hI52_0 (by omega) e_f_91 (by omega) | exact zPnn_k hI52_0 (by omega) hnn_ (by omega) | exact zPnn_0 (by decide), by assumption, by omega, by first | exact zHv0_s hI52_3 (by omega) e_f_69 (by decide) (by omega) | exact zHv0_0 (by decide), by assumption, by assumption, by first | assumption | exact zOt_rf⟩
          exact hJ52 H locs ls (fun i => ([z92] : List (Int32)).getD i 0) (fun _ => 0) (fun i => ([f_69] : List (Nat → Int32)).getD i (fun _ => 0)) (fun _ => (fun _ => 0)) ⟨(fun i => ([f_91] : List (Nat → Option Nat)).getD i (fun _ => none)), plx21, hw52, nw52, hn52_, hc⟩ (show (40 - z92.toInt).toNat < (40 - (u52_ 0).toInt).toNat from by omega)
        · skip
          refine W.eq (g2 := F0 m 76 ls [.ref a75_]) rfl ?_
          have hnn_ : (q52_ 0) ((u52_ 0) : Int32).toNatClampNeg ≠ none := fun h => by rw [h] at e_o75; cases e_o75
          refine lv_ifnonnull (tgt := 92) hx hb dX1_prepare_76 (by decide) ?_
          obtain ⟨z92, e_z92⟩ : ∃ z : Int32, z = (u52_ 0) + Int32.ofInt 1 := ⟨_, rfl⟩
          have b_ := zadd (x := (u52_ 0)) (y := Int32.ofInt 1) rfl (show (Int32.ofInt 1).toInt = 1 from by decide) e_z92 (by omega) (by omega)
          refine lv_iinc (v := z92) (lv' := [(1, .int z92), (0, .ref h0)]) hx hb dX1_prepare_92 hl (k := 1) rfl e_z92.symm (by decide) rfl (fun ls hl => ?_)
          refine W.widen (k := (401 + 2 * (z92.toInt).toNat)) (n := (8400 + 27 * (z92.toInt).toNat)) (by omega) (by omega) ?_
          refine lv_goto (tgt := 52) hx hb dX1_prepare_95 (by decide) ?_
          have hc : va_P (dC, dI) vwCl ([(h0, .inr (1, mX1 h1 h6 h13 h21 h36 h37 h39 h40 h41 h42 h43 h44 h45 h46 h47 hw52 v0)), (h21, .inr (3, mX3 h6 h22 h13 h31 h32 h33 h34 h35 (upd v21 8 (u4_ 0)))), (h32, zi k32 400 (a4_ 0)), (h33, zi k33 400 (a4_ 1)), (h13, .inr (7, mX7 h14 h15 h16 h17 h18 h19 h20 v13)), (h14, zi k14 40 f14), (h15, zi k15 40 f15), (h16, zi k16 40 f16), (h6, .inr (10, mX10 h7 h8 h9 h10 h11 h12 v6)), (h31, .inl (k31, 400, .inr (.inr (.inr (.inr (q4_ 0)))))), (h8, zi k8 400 f8), (h22, .inr (6, mX6 h23 h24 h25 h26 h27 h28 h29 h30 v22)), (h28, zi k28 400 f28), (h26, zi k26 400 f26), (h23, zi k23 1250 f23), (h24, zi k24 833 f24), (h25, zi k25 833 f25), (h27, zi k27 400 f27), (h7, .inl (k7, 400, .inr (.inl f7))), (h9, zi k9 400 f9), (h29, zi k29 400 f29), (h30, zi k30 400 f30), (h19, zi k19 160 f19), (hw52, zi k41 nw52 (a50_ 0)), (h41, zi k41 40 f_69), (h36, .inl (k36, 40, .inr (.inr (.inr (.inr (q52_ 0))))))] ++ pl52) H ∧ va_D A ([(h0, .inr (1, mX1 h1 h6 h13 h21 h36 h37 h39 h40 h41 h42 h43 h44 h45 h46 h47 hw52 v0)), (h21, .inr (3, mX3 h6 h22 h13 h31 h32 h33 h34 h35 (upd v21 8 (u4_ 0)))), (h32, zi k32 400 (a4_ 0)), (h33, zi k33 400 (a4_ 1)), (h13, .inr (7, mX7 h14 h15 h16 h17 h18 h19 h20 v13)), (h14, zi k14 40 f14), (h15, zi k15 40 f15), (h16, zi k16 40 f16), (h6, .inr (10, mX10 h7 h8 h9 h10 h11 h12 v6)), (h31, .inl (k31, 400, .inr (.inr (.inr (.inr (q4_ 0)))))), (h8, zi k8 400 f8), (h22, .inr (6, mX6 h23 h24 h25 h26 h27 h28 h29 h30 v22)), (h28, zi k28 400 f28), (h26, zi k26 400 f26), (h23, zi k23 1250 f23), (h24, zi k24 833 f24), (h25, zi k25 833 f25), (h27, zi k27 400 f27), (h7, .inl (k7, 400, .inr (.inl f7))), (h9, zi k9 400 f9), (h29, zi k29 400 f29), (h30, zi k30 400 f30), (h19, zi k19 160 f19), (hw52, zi k41 nw52 (a50_ 0)), (h41, zi k41 40 f_69), (h36, .inl (k36, 40, .inr (.inr (.inr (.inr (q52_ 0))))))] ++ pl52) ∧ va_S A s.heap H locs ∧ lv_has ls 2 [(0, .ref h0), (1, .int z92)] ∧ (0 ≤ z92.toInt ∧ z92.toInt ≤ 40) ∧ (zPnn (q52_ 0) z92.toInt) ∧ (zOpA h22 f31 f7 f8 f9 (v6 7).toInt f23 f24 f25 f26 f27 f28 (v22 8).toInt (v22 9).toInt (v22 10).toInt (v22 11).toInt f29 f30 f32 f33 (v21 8).toInt (q4_ 0) pl52 (a4_ 0) (a4_ 1) (u4_ 0).toInt f14 f15 f16 f19 (v13 8).toInt (v13 7).toInt) ∧ (120 * (v13 7).toInt ≤ ((nw52 : Nat) : Int)) ∧ (zHv0 f_69 z92.toInt) ∧ (zRd h22 (q4_ 0) pl52) ∧ (zPs k41 (q52_ 0) pl52) ∧ (zOt pl0 pl52) := ⟨hP, hD, hS, lv_sub hl [1, 0] rfl, (by first | with_reducible assumption | exact ⟨by omega, by omega⟩), by first | exact zPnn_s hI52_0 (by omega) e_f_91 (by omega) | exact zPnn_k hI52_0 (by omega) hnn_ (by omega) | exact zPnn_0 (by decide), by assumption, by omega, by first | exact zHv0_s hI52_3 (by omega) e_f_69 (by decide) (by omega) | exact zHv0_0 (by decide), by assumption, by assumption, by first | assumption | exact zOt_rf⟩
          exact hJ52 H locs ls (fun i => ([z92] : List (Int32)).getD i 0) (fun _ => 0) (fun i => ([f_69] : List (Nat → Int32)).getD i (fun _ => 0)) (fun _ => (fun _ => 0)) ⟨(fun i => ([(q52_ 0)] : List (Nat → Option Nat)).getD i (fun _ => none)), pl52, hw52, nw52, hn52_, hc⟩ (show (40 - z92.toInt).toNat < (40 - (u52_ 0).toInt).toNat from by omega)
    · skip
      have hc : va_P (dC, dI) vwCl ([(h0, .inr (1, mX1 h1 h6 h13 h21 h36 h37 h39 h40 h41 h42 h43 h44 h45 h46 h47 hw50 v0)), (h21, .inr (3, mX3 h6 h22 h13 h31 h32 h33 h34 h35 (upd v21 8 (u4_ 0)))), (h32, zi k32 400 (a4_ 0)), (h33, zi k33 400 (a4_ 1)), (h13, .inr (7, mX7 h14 h15 h16 h17 h18 h19 h20 v13)), (h14, zi k14 40 f14), (h15, zi k15 40 f15), (h16, zi k16 40 f16), (h6, .inr (10, mX10 h7 h8 h9 h10 h11 h12 v6)), (h31, .inl (k31, 400, .inr (.inr (.inr (.inr (q4_ 0)))))), (h8, zi k8 400 f8), (h22, .inr (6, mX6 h23 h24 h25 h26 h27 h28 h29 h30 v22)), (h28, zi k28 400 f28), (h26, zi k26 400 f26), (h23, zi k23 1250 f23), (h24, zi k24 833 f24), (h25, zi k25 833 f25), (h27, zi k27 400 f27), (h7, .inl (k7, 400, .inr (.inl f7))), (h9, zi k9 400 f9), (h29, zi k29 400 f29), (h30, zi k30 400 f30), (h19, zi k19 160 f19), (hw50, zi k41 nw50 (a50_ 0)), (h41, zi k41 40 f41), (h36, .inl (k36, 40, .inr (.inr (.inr (.inr f36)))))] ++ pl50) H ∧ va_D A ([(h0, .inr (1, mX1 h1 h6 h13 h21 h36 h37 h39 h40 h41 h42 h43 h44 h45 h46 h47 hw50 v0)), (h21, .inr (3, mX3 h6 h22 h13 h31 h32 h33 h34 h35 (upd v21 8 (u4_ 0)))), (h32, zi k32 400 (a4_ 0)), (h33, zi k33 400 (a4_ 1)), (h13, .inr (7, mX7 h14 h15 h16 h17 h18 h19 h20 v13)), (h14, zi k14 40 f14), (h15, zi k15 40 f15), (h16, zi k16 40 f16), (h6, .inr (10, mX10 h7 h8 h9 h10 h11 h12 v6)), (h31, .inl (k31, 400, .inr (.inr (.inr (.inr (q4_ 0)))))), (h8, zi k8 400 f8), (h22, .inr (6, mX6 h23 h24 h25 h26 h27 h28 h29 h30 v22)), (h28, zi k28 400 f28), (h26, zi k26 400 f26), (h23, zi k23 1250 f23), (h24, zi k24 833 f24), (h25, zi k25 833 f25), (h27, zi k27 400 f27), (h7, .inl (k7, 400, .inr (.inl f7))), (h9, zi k9 400 f9), (h29, zi k29 400 f29), (h30, zi k30 400 f30), (h19, zi k19 160 f19), (hw50, zi k41 nw50 (a50_ 0)), (h41, zi k41 40 f41), (h36, .inl (k36, 40, .inr (.inr (.inr (.inr f36)))))] ++ pl50) ∧ va_S A s.heap H locs ∧ lv_has ls 2 [(0, .ref h0), (1, .int 0)] ∧ (0 ≤ (0 : Int32).toInt ∧ (0 : Int32).toInt ≤ 40) ∧ (zPnn f36 (0 : Int32).toInt) ∧ (zOpA h22 f31 f7 f8 f9 (v6 7).toInt f23 f24 f25 f26 f27 f28 (v22 8).toInt (v22 9).toInt (v22 10).toInt (v22 11).toInt f29 f30 f32 f33 (v21 8).toInt (q4_ 0) pl50 (a4_ 0) (a4_ 1) (u4_ 0).toInt f14 f15 f16 f19 (v13 8).toInt (v13 7).toInt) ∧ (120 * (v13 7).toInt ≤ ((nw50 : Nat) : Int)) ∧ (zHv0 f41 (0 : Int32).toInt) ∧ (zRd h22 (q4_ 0) pl50) ∧ (zPs k41 f36 pl50) ∧ (zOt pl0 pl50) := ⟨hP, hD, hS, lv_sub hl [1, 0] rfl, (by first | with_reducible assumption | exact ⟨by omega, by omega⟩), by first | exact zPnn_s hI52_0 (by omega) e_f_91 (by omega) | exact zPnn_k hI52_0 (by omega) hnn_ (by omega) | exact zPnn_0 (by decide), by assumption, by omega, by first | exact zHv0_s hI52_3 (by omega) e_f_69 (by decide) (by omega) | exact zHv0_0 (by decide), by assumption, by assumption, by first | assumption | exact zOt_rf⟩
      exact hJ52 H locs ls (fun i => ([0] : List (Int32)).getD i 0) (fun _ => 0) (fun i => ([f41] : List (Nat → Int32)).getD i (fun _ => 0)) (fun _ => (fun _ => 0)) ⟨(fun i => ([f36] : List (Nat → Option Nat)).getD i (fun _ => none)), pl50, hw50, nw50, hn50_, hc⟩
  · skip
    refine lv_icmp_ge (tgt := 50) hx hb dX1_prepare_22 (by decide) (fun c_ => ?_) (fun c_ => ?_)
    · skip
      have b_ := zT_ge rfl rfl c_
      refine W.widen (k := 401) (n := 8400) (by decide) (by decide) ?_
      have hc : va_P (dC, dI) vwCl ([(h0, .inr (1, mX1 h1 h6 h13 h21 h36 h37 h39 h40 h41 h42 h43 h44 h45 h46 h47 h48 v0)), (h21, .inr (3, mX3 h6 h22 h13 h31 h32 h33 h34 h35 (upd v21 8 (u4_ 0)))), (h32, zi k32 400 (a4_ 0)), (h33, zi k33 400 (a4_ 1)), (h13, .inr (7, mX7 h14 h15 h16 h17 h18 h19 h20 v13)), (h14, zi k14 40 f14), (h15, zi k15 40 f15), (h16, zi k16 40 f16), (h6, .inr (10, mX10 h7 h8 h9 h10 h11 h12 v6)), (h31, .inl (k31, 400, .inr (.inr (.inr (.inr (q4_ 0)))))), (h8, zi k8 400 f8), (h22, .inr (6, mX6 h23 h24 h25 h26 h27 h28 h29 h30 v22)), (h28, zi k28 400 f28), (h26, zi k26 400 f26), (h23, zi k23 1250 f23), (h24, zi k24 833 f24), (h25, zi k25 833 f25), (h27, zi k27 400 f27), (h7, .inl (k7, 400, .inr (.inl f7))), (h9, zi k9 400 f9), (h29, zi k29 400 f29), (h30, zi k30 400 f30), (h19, zi k19 160 f19), (h48, zi k41 n48 f48), (h41, zi k41 40 f41), (h36, .inl (k36, 40, .inr (.inr (.inr (.inr f36)))))] ++ pl4_) H ∧ va_D A ([(h0, .inr (1, mX1 h1 h6 h13 h21 h36 h37 h39 h40 h41 h42 h43 h44 h45 h46 h47 h48 v0)), (h21, .inr (3, mX3 h6 h22 h13 h31 h32 h33 h34 h35 (upd v21 8 (u4_ 0)))), (h32, zi k32 400 (a4_ 0)), (h33, zi k33 400 (a4_ 1)), (h13, .inr (7, mX7 h14 h15 h16 h17 h18 h19 h20 v13)), (h14, zi k14 40 f14), (h15, zi k15 40 f15), (h16, zi k16 40 f16), (h6, .inr (10, mX10 h7 h8 h9 h10 h11 h12 v6)), (h31, .inl (k31, 400, .inr (.inr (.inr (.inr (q4_ 0)))))), (h8, zi k8 400 f8), (h22, .inr (6, mX6 h23 h24 h25 h26 h27 h28 h29 h30 v22)), (h28, zi k28 400 f28), (h26, zi k26 400 f26), (h23, zi k23 1250 f23), (h24, zi k24 833 f24), (h25, zi k25 833 f25), (h27, zi k27 400 f27), (h7, .inl (k7, 400, .inr (.inl f7))), (h9, zi k9 400 f9), (h29, zi k29 400 f29), (h30, zi k30 400 f30), (h19, zi k19 160 f19), (h48, zi k41 n48 f48), (h41, zi k41 40 f41), (h36, .inl (k36, 40, .inr (.inr (.inr (.inr f36)))))] ++ pl4_) ∧ va_S A s.heap H locs ∧ lv_has ls 2 [(0, .ref h0)] ∧ zA 0 4914 f48 ∧ (0 ≤ z21.toInt ∧ z21.toInt ≤ 4800) ∧ (zOpA h22 f31 f7 f8 f9 (v6 7).toInt f23 f24 f25 f26 f27 f28 (v22 8).toInt (v22 9).toInt (v22 10).toInt (v22 11).toInt f29 f30 f32 f33 (v21 8).toInt (q4_ 0) pl4_ (a4_ 0) (a4_ 1) (u4_ 0).toInt f14 f15 f16 f19 (v13 8).toInt (v13 7).toInt) ∧ (120 * (v13 7).toInt ≤ ((n48 : Nat) : Int)) ∧ (zRd h22 (q4_ 0) pl4_) ∧ (zPs k41 f36 pl4_) ∧ (zOt pl0 pl4_) := ⟨hP, hD, hS, lv_sub hl [0] rfl, hf48, (by first | with_reducible assumption | exact ⟨by omega, by omega⟩), by first | exact hB4_2 | assumption, by omega, by assumption, by assumption, by first | assumption | exact zOt_rf⟩
      exact hJ50 H locs ls (fun _ => 0) (fun _ => 0) (fun i => ([f48] : List (Nat → Int32)).getD i (fun _ => 0)) (fun _ => (fun _ => 0)) ⟨(fun _ => (fun _ => none)), pl4_, h48, n48, hn48, hc⟩
    · skip
      have b_ := zF_ge rfl rfl c_
      refine lv_aload_n hx hb dX1_prepare_25 rfl (lv_at hl 0 rfl) ?_
      refine lv_aload_n hx hb dX1_prepare_26 rfl (lv_at hl 0 rfl) ?_
      refine va_get (D := (dC, dI)) (ci := 1) (v := .ref h13) (C := RX1) (T := TX1) (N := 17) hx hb hG zuX1 hown hK hP 0 rfl rfl 2 (by decide) (hG _ zv506) (fun _ h9 => h9) rfl dX1_prepare_27 ?_
      have hPc := hP.sub (ws' := [(h13, .inr (7, mX7 h14 h15 h16 h17 h18 h19 h20 v13))]) [4] rfl
      have hDc := hD.sub (ws' := [(h13, .inr (7, mX7 h14 h15 h16 h17 h18 h19 h20 v13))]) [4] (by decide) rfl
      have hKc := hK.sub (tys' := []) [] rfl
      have hFc := va_free (wc := [(h13, .inr (7, mX7 h14 h15 h16 h17 h18 h19 h20 v13))]) hD hS hA [4] rfl
      refine va_calli (va_runV (As := []) (rest := [.ref h0]) ⟨hx, hb, hml, hown, hG⟩ (sX7_leaves_0 l dC dI adK adV h13 h14 h15 h16 h17 h18 h19 h20 H.size v13 hv13) (cwV 0 hG (zgV zv1211 zv1093 zv1094 zv136 zv1095) rfl rfl rfl (by decide +kernel) ⟨Nat.le_of_ble_eq_true rfl, Nat.le_of_ble_eq_true rfl⟩) ⟨zPc_blind, va_recv hKc hPc (ci := 7) (q0 := 0) rfl rfl, zPc_pre hPc hKc hDc hE hS hFc hZ⟩ rfl rfl hl.1 rfl (lv_room (Nat.le_of_ble_eq_true rfl)) dX1_prepare_30 ⟨Nat.le_of_ble_eq_true rfl, Nat.le_of_ble_eq_true rfl⟩) hS (fun q _ h => hFc q h) hFc (fun r30_ u30_ t H1 locs ht hvm hw hB hz1 hk1 hS => ?_)
      replace hw : (0 ≤ r30_.toInt ∧ r30_.toInt ≤ 40) ∧ (r30_.toInt = (v13 7).toInt) := hw
      obtain ⟨b_, hX30_0⟩ := hw
      obtain ⟨w30_, a30_, b30_, hP1, hK1, hD1⟩ := hB
      rw [ht] at hP1
      obtain ⟨hP, hD⟩ := va_joinQ (wr := [(h0, .inr (1, mX1 h1 h6 h13 h21 h36 h37 h39 h40 h41 h42 h43 h44 h45 h46 h47 h48 v0)), (h21, .inr (3, mX3 h6 h22 h13 h31 h32 h33 h34 h35 (upd v21 8 (u4_ 0)))), (h32, zi k32 400 (a4_ 0)), (h33, zi k33 400 (a4_ 1)), (h14, zi k14 40 f14), (h15, zi k15 40 f15), (h16, zi k16 40 f16), (h6, .inr (10, mX10 h7 h8 h9 h10 h11 h12 v6)), (h31, .inl (k31, 400, .inr (.inr (.inr (.inr (q4_ 0)))))), (h8, zi k8 400 f8), (h22, .inr (6, mX6 h23 h24 h25 h26 h27 h28 h29 h30 v22)), (h28, zi k28 400 f28), (h26, zi k26 400 f26), (h23, zi k23 1250 f23), (h24, zi k24 833 f24), (h25, zi k25 833 f25), (h27, zi k27 400 f27), (h7, .inl (k7, 400, .inr (.inl f7))), (h9, zi k9 400 f9), (h29, zi k29 400 f29), (h30, zi k30 400 f30), (h19, zi k19 160 f19), (h48, zi k41 n48 f48), (h41, zi k41 40 f41), (h36, .inl (k36, 40, .inr (.inr (.inr (.inr f36)))))]) (w1 := [(h13, .inr (7, mX7 h14 h15 h16 h17 h18 h19 h20 v13))]) hP hD [4] [0, 1, 2, 3, 5, 6, 7, 8, 9, 10, 11, 12, 13, 14, 15, 16, 17, 18, 19, 20, 21, 22, 23, 24, 25] rfl rfl (by decide) (by decide) hk1 hFc hP1 hD1
      have hP : va_P (dC, dI) vwCl ([(h0, .inr (1, mX1 h1 h6 h13 h21 h36 h37 h39 h40 h41 h42 h43 h44 h45 h46 h47 h48 v0)), (h21, .inr (3, mX3 h6 h22 h13 h31 h32 h33 h34 h35 (upd v21 8 (u4_ 0)))), (h32, zi k32 400 (a4_ 0)), (h33, zi k33 400 (a4_ 1)), (h13, .inr (7, mX7 h14 h15 h16 h17 h18 h19 h20 v13)), (h14, zi k14 40 f14), (h15, zi k15 40 f15), (h16, zi k16 40 f16), (h6, .inr (10, mX10 h7 h8 h9 h10 h11 h12 v6)), (h31, .inl (k31, 400, .inr (.inr (.inr (.inr (q4_ 0)))))), (h8, zi k8 400 f8), (h22, .inr (6, mX6 h23 h24 h25 h26 h27 h28 h29 h30 v22)), (h28, zi k28 400 f28), (h26, zi k26 400 f26), (h23, zi k23 1250 f23), (h24, zi k24 833 f24), (h25, zi k25 833 f25), (h27, zi k27 400 f27), (h7, .inl (k7, 400, .inr (.inl f7))), (h9, zi k9 400 f9), (h29, zi k29 400 f29), (h30, zi k30 400 f30), (h19, zi k19 160 f19), (h48, zi k41 n48 f48), (h41, zi k41 40 f41), (h36, .inl (k36, 40, .inr (.inr (.inr (.inr f36)))))] ++ pl4_) H1 := hP.part [0, 1, 2, 3, 25, 4, 5, 6, 7, 8, 9, 10, 11, 12, 13, 14, 15, 16, 17, 18, 19, 20, 21, 22, 23, 24] rfl
      have hD : va_D A ([(h0, .inr (1, mX1 h1 h6 h13 h21 h36 h37 h39 h40 h41 h42 h43 h44 h45 h46 h47 h48 v0)), (h21, .inr (3, mX3 h6 h22 h13 h31 h32 h33 h34 h35 (upd v21 8 (u4_ 0)))), (h32, zi k32 400 (a4_ 0)), (h33, zi k33 400 (a4_ 1)), (h13, .inr (7, mX7 h14 h15 h16 h17 h18 h19 h20 v13)), (h14, zi k14 40 f14), (h15, zi k15 40 f15), (h16, zi k16 40 f16), (h6, .inr (10, mX10 h7 h8 h9 h10 h11 h12 v6)), (h31, .inl (k31, 400, .inr (.inr (.inr (.inr (q4_ 0)))))), (h8, zi k8 400 f8), (h22, .inr (6, mX6 h23 h24 h25 h26 h27 h28 h29 h30 v22)), (h28, zi k28 400 f28), (h26, zi k26 400 f26), (h23, zi k23 1250 f23), (h24, zi k24 833 f24), (h25, zi k25 833 f25), (h27, zi k27 400 f27), (h7, .inl (k7, 400, .inr (.inl f7))), (h9, zi k9 400 f9), (h29, zi k29 400 f29), (h30, zi k30 400 f30), (h19, zi k19 160 f19), (h48, zi k41 n48 f48), (h41, zi k41 40 f41), (h36, .inl (k36, 40, .inr (.inr (.inr (.inr f36)))))] ++ pl4_) := hD.part [0, 1, 2, 3, 25, 4, 5, 6, 7, 8, 9, 10, 11, 12, 13, 14, 15, 16, 17, 18, 19, 20, 21, 22, 23, 24] (by decide) rfl
      generalize H1 = H at hP hS ⊢
      clear hz1
      refine lv_bipush (v := 9) hx hb dX1_prepare_33 (by decide) ?_
      refine lv_iadd hx hb dX1_prepare_35 ?_
      refine lv_topi (fun z35 e_z35 => ?_)
      have b_ := zadd rfl zk_9 e_z35 (by omega) (by omega)
      refine lv_bipush (v := 10) hx hb dX1_prepare_36 (by decide) ?_
      refine lv_idiv hx hb dX1_prepare_38 (by decide) ?_
      refine lv_topi (fun z38 e_z38 => ?_)
      have b_ := zdiv rfl zk_10 e_z38 (by omega) (by decide)
      refine lv_bipush (v := 10) hx hb dX1_prepare_39 (by decide) ?_
      refine lv_imul hx hb dX1_prepare_41 ?_
      refine lv_topi (fun z41 e_z41 => ?_)
      have b_ := zmul rfl zk_10 e_z41 (by omega) (by omega)
      refine lv_bipush (v := 120) hx hb dX1_prepare_42 (by decide) ?_
      refine lv_imul hx hb dX1_prepare_44 ?_
      refine lv_topi (fun z44 e_z44 => ?_)
      have b_ := zmul rfl zk_120 e_z44 (by omega) (by omega)
      have hnw45 : (z44 : Int32).toNatClampNeg ≤ 4800 := by have := zclamp (x := z44) (by omega); omega
      refine va_newa (atype := .int) (ty := .int) (N' := (z44 : Int32).toNatClampNeg) (a0 := ((z44 : Int32).toNatClampNeg, .inl (fun _ => 0))) hx hb (hG _ zv214) rfl hK hP hD hS hA (fun _ => rfl) (znn (by omega)) rfl (by show (z44 : Int32).toNatClampNeg * 4 ≤ 536870912; omega) (Nat.le_of_ble_eq_true rfl) (show 3600 + (z44 : Int32).toNatClampNeg ≤ 9480 from by omega) dX1_prepare_45 (fun q45_ c45_ H hK2 hP hD hS => ?_)
      have ej := zK_same hK (i := 19) rfl (Vm.Alike.refl _) (hK2.sub (tys' := [(c45_, .int)]) [21] rfl)
      rw [ej] at hP hD
      have hP : va_P (dC, dI) vwCl ([(h0, .inr (1, mX1 h1 h6 h13 h21 h36 h37 h39 h40 h41 h42 h43 h44 h45 h46 h47 h48 v0)), (h21, .inr (3, mX3 h6 h22 h13 h31 h32 h33 h34 h35 (upd v21 8 (u4_ 0)))), (h32, zi k32 400 (a4_ 0)), (h33, zi k33 400 (a4_ 1)), (h13, .inr (7, mX7 h14 h15 h16 h17 h18 h19 h20 v13)), (h14, zi k14 40 f14), (h15, zi k15 40 f15), (h16, zi k16 40 f16), (h6, .inr (10, mX10 h7 h8 h9 h10 h11 h12 v6)), (h31, .inl (k31, 400, .inr (.inr (.inr (.inr (q4_ 0)))))), (h8, zi k8 400 f8), (h22, .inr (6, mX6 h23 h24 h25 h26 h27 h28 h29 h30 v22)), (h28, zi k28 400 f28), (h26, zi k26 400 f26), (h23, zi k23 1250 f23), (h24, zi k24 833 f24), (h25, zi k25 833 f25), (h27, zi k27 400 f27), (h7, .inl (k7, 400, .inr (.inl f7))), (h9, zi k9 400 f9), (h29, zi k29 400 f29), (h30, zi k30 400 f30), (h19, zi k19 160 f19), (h48, zi k41 n48 f48), (h41, zi k41 40 f41), (h36, .inl (k36, 40, .inr (.inr (.inr (.inr f36))))), (q45_, .inl (k41, (z44 : Int32).toNatClampNeg, .inl (fun _ => 0)))] ++ pl4_) H := va_P.swap hP
      have hD : va_D A ([(h0, .inr (1, mX1 h1 h6 h13 h21 h36 h37 h39 h40 h41 h42 h43 h44 h45 h46 h47 h48 v0)), (h21, .inr (3, mX3 h6 h22 h13 h31 h32 h33 h34 h35 (upd v21 8 (u4_ 0)))), (h32, zi k32 400 (a4_ 0)), (h33, zi k33 400 (a4_ 1)), (h13, .inr (7, mX7 h14 h15 h16 h17 h18 h19 h20 v13)), (h14, zi k14 40 f14), (h15, zi k15 40 f15), (h16, zi k16 40 f16), (h6, .inr (10, mX10 h7 h8 h9 h10 h11 h12 v6)), (h31, .inl (k31, 400, .inr (.inr (.inr (.inr (q4_ 0)))))), (h8, zi k8 400 f8), (h22, .inr (6, mX6 h23 h24 h25 h26 h27 h28 h29 h30 v22)), (h28, zi k28 400 f28), (h26, zi k26 400 f26), (h23, zi k23 1250 f23), (h24, zi k24 833 f24), (h25, zi k25 833 f25), (h27, zi k27 400 f27), (h7, .inl (k7, 400, .inr (.inl f7))), (h9, zi k9 400 f9), (h29, zi k29 400 f29), (h30, zi k30 400 f30), (h19, zi k19 160 f19), (h48, zi k41 n48 f48), (h41, zi k41 40 f41), (h36, .inl (k36, 40, .inr (.inr (.inr (.inr f36))))), (q45_, .inl (k41, (z44 : Int32).toNatClampNeg, .inl (fun _ => 0)))] ++ pl4_) := va_D.swap hD
      refine W.widen (k := 401) (n := 8400) (by omega) (by omega) ?_
      have b_ := zclamp (x := z44) (by omega)
      refine va_put (D := (dC, dI)) (ci := 1) (v := .ref q45_) (ty := .array .int) (C := RX1) (T := TX1) (N := 17) hx hb hG zuX1 tyX1 tyX1_ok nmX1 hown hK hP hD hS 0 rfl rfl 15 (by decide) (hG _ zv519) (fun _ h9 => h9) rfl (by decide +kernel) rfl rfl (Nat.le_of_ble_eq_true rfl) dX1_prepare_47 (fun H locs hP hD hS => ?_)
      have hP : va_P (dC, dI) vwCl ([(h0, .inr (1, mX1 h1 h6 h13 h21 h36 h37 h39 h40 h41 h42 h43 h44 h45 h46 h47 q45_ v0)), (h21, .inr (3, mX3 h6 h22 h13 h31 h32 h33 h34 h35 (upd v21 8 (u4_ 0)))), (h32, zi k32 400 (a4_ 0)), (h33, zi k33 400 (a4_ 1)), (h13, .inr (7, mX7 h14 h15 h16 h17 h18 h19 h20 v13)), (h14, zi k14 40 f14), (h15, zi k15 40 f15), (h16, zi k16 40 f16), (h6, .inr (10, mX10 h7 h8 h9 h10 h11 h12 v6)), (h31, .inl (k31, 400, .inr (.inr (.inr (.inr (q4_ 0)))))), (h8, zi k8 400 f8), (h22, .inr (6, mX6 h23 h24 h25 h26 h27 h28 h29 h30 v22)), (h28, zi k28 400 f28), (h26, zi k26 400 f26), (h23, zi k23 1250 f23), (h24, zi k24 833 f24), (h25, zi k25 833 f25), (h27, zi k27 400 f27), (h7, .inl (k7, 400, .inr (.inl f7))), (h9, zi k9 400 f9), (h29, zi k29 400 f29), (h30, zi k30 400 f30), (h19, zi k19 160 f19), (h48, zi k41 n48 f48), (h41, zi k41 40 f41), (h36, .inl (k36, 40, .inr (.inr (.inr (.inr f36))))), (q45_, .inl (k41, (z44 : Int32).toNatClampNeg, .inl (fun _ => 0)))] ++ pl4_) H := hP
      have hD : va_D A ([(h0, .inr (1, mX1 h1 h6 h13 h21 h36 h37 h39 h40 h41 h42 h43 h44 h45 h46 h47 q45_ v0)), (h21, .inr (3, mX3 h6 h22 h13 h31 h32 h33 h34 h35 (upd v21 8 (u4_ 0)))), (h32, zi k32 400 (a4_ 0)), (h33, zi k33 400 (a4_ 1)), (h13, .inr (7, mX7 h14 h15 h16 h17 h18 h19 h20 v13)), (h14, zi k14 40 f14), (h15, zi k15 40 f15), (h16, zi k16 40 f16), (h6, .inr (10, mX10 h7 h8 h9 h10 h11 h12 v6)), (h31, .inl (k31, 400, .inr (.inr (.inr (.inr (q4_ 0)))))), (h8, zi k8 400 f8), (h22, .inr (6, mX6 h23 h24 h25 h26 h27 h28 h29 h30 v22)), (h28, zi k28 400 f28), (h26, zi k26 400 f26), (h23, zi k23 1250 f23), (h24, zi k24 833 f24), (h25, zi k25 833 f25), (h27, zi k27 400 f27), (h7, .inl (k7, 400, .inr (.inl f7))), (h9, zi k9 400 f9), (h29, zi k29 400 f29), (h30, zi k30 400 f30), (h19, zi k19 160 f19), (h48, zi k41 n48 f48), (h41, zi k41 40 f41), (h36, .inl (k36, 40, .inr (.inr (.inr (.inr f36))))), (q45_, .inl (k41, (z44 : Int32).toNatClampNeg, .inl (fun _ => 0)))] ++ pl4_) := hD
      have hP : va_P (dC, dI) vwCl ([(h0, .inr (1, mX1 h1 h6 h13 h21 h36 h37 h39 h40 h41 h42 h43 h44 h45 h46 h47 q45_ v0)), (h21, .inr (3, mX3 h6 h22 h13 h31 h32 h33 h34 h35 (upd v21 8 (u4_ 0)))), (h32, zi k32 400 (a4_ 0)), (h33, zi k33 400 (a4_ 1)), (h13, .inr (7, mX7 h14 h15 h16 h17 h18 h19 h20 v13)), (h14, zi k14 40 f14), (h15, zi k15 40 f15), (h16, zi k16 40 f16), (h6, .inr (10, mX10 h7 h8 h9 h10 h11 h12 v6)), (h31, .inl (k31, 400, .inr (.inr (.inr (.inr (q4_ 0)))))), (h8, zi k8 400 f8), (h22, .inr (6, mX6 h23 h24 h25 h26 h27 h28 h29 h30 v22)), (h28, zi k28 400 f28), (h26, zi k26 400 f26), (h23, zi k23 1250 f23), (h24, zi k24 833 f24), (h25, zi k25 833 f25), (h27, zi k27 400 f27), (h7, .inl (k7, 400, .inr (.inl f7))), (h9, zi k9 400 f9), (h29, zi k29 400 f29), (h30, zi k30 400 f30), (h19, zi k19 160 f19), (q45_, .inl (k41, (z44 : Int32).toNatClampNeg, .inl (fun _ => 0))), (h41, zi k41 40 f41), (h36, .inl (k36, 40, .inr (.inr (.inr (.inr f36)))))] ++ pl4_) H := hP.part (cx := [(h0, .inr (1, mX1 h1 h6 h13 h21 h36 h37 h39 h40 h41 h42 h43 h44 h45 h46 h47 q45_ v0)), (h21, .inr (3, mX3 h6 h22 h13 h31 h32 h33 h34 h35 (upd v21 8 (u4_ 0)))), (h32, zi k32 400 (a4_ 0)), (h33, zi k33 400 (a4_ 1)), (h13, .inr (7, mX7 h14 h15 h16 h17 h18 h19 h20 v13)), (h14, zi k14 40 f14), (h15, zi k15 40 f15), (h16, zi k16 40 f16), (h6, .inr (10, mX10 h7 h8 h9 h10 h11 h12 v6)), (h31, .inl (k31, 400, .inr (.inr (.inr (.inr (q4_ 0)))))), (h8, zi k8 400 f8), (h22, .inr (6, mX6 h23 h24 h25 h26 h27 h28 h29 h30 v22)), (h28, zi k28 400 f28), (h26, zi k26 400 f26), (h23, zi k23 1250 f23), (h24, zi k24 833 f24), (h25, zi k25 833 f25), (h27, zi k27 400 f27), (h7, .inl (k7, 400, .inr (.inl f7))), (h9, zi k9 400 f9), (h29, zi k29 400 f29), (h30, zi k30 400 f30), (h19, zi k19 160 f19), (q45_, .inl (k41, (z44 : Int32).toNatClampNeg, .inl (fun _ => 0))), (h41, zi k41 40 f41), (h36, .inl (k36, 40, .inr (.inr (.inr (.inr f36)))))]) [0, 1, 2, 3, 4, 5, 6, 7, 8, 9, 10, 11, 12, 13, 14, 15, 16, 17, 18, 19, 20, 21, 22, 26, 24, 25] rfl
      have hD : va_D A ([(h0, .inr (1, mX1 h1 h6 h13 h21 h36 h37 h39 h40 h41 h42 h43 h44 h45 h46 h47 q45_ v0)), (h21, .inr (3, mX3 h6 h22 h13 h31 h32 h33 h34 h35 (upd v21 8 (u4_ 0)))), (h32, zi k32 400 (a4_ 0)), (h33, zi k33 400 (a4_ 1)), (h13, .inr (7, mX7 h14 h15 h16 h17 h18 h19 h20 v13)), (h14, zi k14 40 f14), (h15, zi k15 40 f15), (h16, zi k16 40 f16), (h6, .inr (10, mX10 h7 h8 h9 h10 h11 h12 v6)), (h31, .inl (k31, 400, .inr (.inr (.inr (.inr (q4_ 0)))))), (h8, zi k8 400 f8), (h22, .inr (6, mX6 h23 h24 h25 h26 h27 h28 h29 h30 v22)), (h28, zi k28 400 f28), (h26, zi k26 400 f26), (h23, zi k23 1250 f23), (h24, zi k24 833 f24), (h25, zi k25 833 f25), (h27, zi k27 400 f27), (h7, .inl (k7, 400, .inr (.inl f7))), (h9, zi k9 400 f9), (h29, zi k29 400 f29), (h30, zi k30 400 f30), (h19, zi k19 160 f19), (q45_, .inl (k41, (z44 : Int32).toNatClampNeg, .inl (fun _ => 0))), (h41, zi k41 40 f41), (h36, .inl (k36, 40, .inr (.inr (.inr (.inr f36)))))] ++ pl4_) := hD.part (cx := [(h0, .inr (1, mX1 h1 h6 h13 h21 h36 h37 h39 h40 h41 h42 h43 h44 h45 h46 h47 q45_ v0)), (h21, .inr (3, mX3 h6 h22 h13 h31 h32 h33 h34 h35 (upd v21 8 (u4_ 0)))), (h32, zi k32 400 (a4_ 0)), (h33, zi k33 400 (a4_ 1)), (h13, .inr (7, mX7 h14 h15 h16 h17 h18 h19 h20 v13)), (h14, zi k14 40 f14), (h15, zi k15 40 f15), (h16, zi k16 40 f16), (h6, .inr (10, mX10 h7 h8 h9 h10 h11 h12 v6)), (h31, .inl (k31, 400, .inr (.inr (.inr (.inr (q4_ 0)))))), (h8, zi k8 400 f8), (h22, .inr (6, mX6 h23 h24 h25 h26 h27 h28 h29 h30 v22)), (h28, zi k28 400 f28), (h26, zi k26 400 f26), (h23, zi k23 1250 f23), (h24, zi k24 833 f24), (h25, zi k25 833 f25), (h27, zi k27 400 f27), (h7, .inl (k7, 400, .inr (.inl f7))), (h9, zi k9 400 f9), (h29, zi k29 400 f29), (h30, zi k30 400 f30), (h19, zi k19 160 f19), (q45_, .inl (k41, (z44 : Int32).toNatClampNeg, .inl (fun _ => 0))), (h41, zi k41 40 f41), (h36, .inl (k36, 40, .inr (.inr (.inr (.inr f36)))))]) [0, 1, 2, 3, 4, 5, 6, 7, 8, 9, 10, 11, 12, 13, 14, 15, 16, 17, 18, 19, 20, 21, 22, 26, 24, 25] (by decide) rfl
      have hc : va_P (dC, dI) vwCl ([(h0, .inr (1, mX1 h1 h6 h13 h21 h36 h37 h39 h40 h41 h42 h43 h44 h45 h46 h47 q45_ v0)), (h21, .inr (3, mX3 h6 h22 h13 h31 h32 h33 h34 h35 (upd v21 8 (u4_ 0)))), (h32, zi k32 400 (a4_ 0)), (h33, zi k33 400 (a4_ 1)), (h13, .inr (7, mX7 h14 h15 h16 h17 h18 h19 h20 v13)), (h14, zi k14 40 f14), (h15, zi k15 40 f15), (h16, zi k16 40 f16), (h6, .inr (10, mX10 h7 h8 h9 h10 h11 h12 v6)), (h31, .inl (k31, 400, .inr (.inr (.inr (.inr (q4_ 0)))))), (h8, zi k8 400 f8), (h22, .inr (6, mX6 h23 h24 h25 h26 h27 h28 h29 h30 v22)), (h28, zi k28 400 f28), (h26, zi k26 400 f26), (h23, zi k23 1250 f23), (h24, zi k24 833 f24), (h25, zi k25 833 f25), (h27, zi k27 400 f27), (h7, .inl (k7, 400, .inr (.inl f7))), (h9, zi k9 400 f9), (h29, zi k29 400 f29), (h30, zi k30 400 f30), (h19, zi k19 160 f19), (q45_, .inl (k41, (z44 : Int32).toNatClampNeg, .inl (fun _ => 0))), (h41, zi k41 40 f41), (h36, .inl (k36, 40, .inr (.inr (.inr (.inr f36)))))] ++ pl4_) H ∧ va_D A ([(h0, .inr (1, mX1 h1 h6 h13 h21 h36 h37 h39 h40 h41 h42 h43 h44 h45 h46 h47 q45_ v0)), (h21, .inr (3, mX3 h6 h22 h13 h31 h32 h33 h34 h35 (upd v21 8 (u4_ 0)))), (h32, zi k32 400 (a4_ 0)), (h33, zi k33 400 (a4_ 1)), (h13, .inr (7, mX7 h14 h15 h16 h17 h18 h19 h20 v13)), (h14, zi k14 40 f14), (h15, zi k15 40 f15), (h16, zi k16 40 f16), (h6, .inr (10, mX10 h7 h8 h9 h10 h11 h12 v6)), (h31, .inl (k31, 400, .inr (.inr (.inr (.inr (q4_ 0)))))), (h8, zi k8 400 f8), (h22, .inr (6, mX6 h23 h24 h25 h26 h27 h28 h29 h30 v22)), (h28, zi k28 400 f28), (h26, zi k26 400 f26), (h23, zi k23 1250 f23), (h24, zi k24 833 f24), (h25, zi k25 833 f25), (h27, zi k27 400 f27), (h7, .inl (k7, 400, .inr (.inl f7))), (h9, zi k9 400 f9), (h29, zi k29 400 f29), (h30, zi k30 400 f30), (h19, zi k19 160 f19), (q45_, .inl (k41, (z44 : Int32).toNatClampNeg, .inl (fun _ => 0))), (h41, zi k41 40 f41), (h36, .inl (k36, 40, .inr (.inr (.inr (.inr f36)))))] ++ pl4_) ∧ va_S A s.heap H locs ∧ lv_has ls 2 [(0, .ref h0)] ∧ zA 0 4914 (fun _ => 0) ∧ (0 ≤ z21.toInt ∧ z21.toInt ≤ 4800) ∧ (zOpA h22 f31 f7 f8 f9 (v6 7).toInt f23 f24 f25 f26 f27 f28 (v22 8).toInt (v22 9).toInt (v22 10).toInt (v22 11).toInt f29 f30 f32 f33 (v21 8).toInt (q4_ 0) pl4_ (a4_ 0) (a4_ 1) (u4_ 0).toInt f14 f15 f16 f19 (v13 8).toInt (v13 7).toInt) ∧ (120 * (v13 7).toInt ≤ (((z44 : Int32).toNatClampNeg : Nat) : Int)) ∧ (zRd h22 (q4_ 0) pl4_) ∧ (zPs k41 f36 pl4_) ∧ (zOt pl0 pl4_) := ⟨hP, hD, hS, lv_sub hl [0] rfl, (zA_0 (by decide) (by decide)), (by first | with_reducible assumption | exact ⟨by omega, by omega⟩), by first | exact hB4_2 | assumption, by omega, by assumption, by assumption, by first | assumption | exact zOt_rf⟩
      exact hJ50 H locs ls (fun _ => 0) (fun _ => 0) (fun i => ([(fun _ => 0)] : List (Nat → Int32)).getD i (fun _ => 0)) (fun _ => (fun _ => 0)) ⟨(fun _ => (fun _ => none)), pl4_, q45_, (z44 : Int32).toNatClampNeg, hnw45, hc⟩
set_option maxHeartbeats 8000000 in
set_option maxRecDepth 100000 in
theorem sX7_length_0 (l : Launch) (dC : Nat → ClassId) (dI : Nat → Nat → Nat) (adK adV : Nat → Nat) (h0 : Nat) (h1 : Nat) (h2 : Nat) (h3 : Nat) (h4 : Nat) (h5 : Nat) (h6 : Nat) (h7 : Nat) (sz : Nat) (v0 : Nat → Int32) (hv0 : zR rg_Query v0) : Met l yX7_length (zw yX7_length cX7_length 1 (some .int)) { frames := 0, cells := 0, slots := 0, locals := 0 } (zPc dC dI adK adV [.ref h0] sz [(h0, .inr (7, mX7 h1 h2 h3 h4 h5 h6 h7 v0))] []) (va_Qi (fun (r : Int32) (u : Nat → Int32) => (0 ≤ r.toInt ∧ r.toInt ≤ 270) ∧ (r.toInt = (v0 9).toInt)) (fun (u : Nat → Int32) (t : State) => ∃ (ww : Nat → Int64) (aa : Nat → Nat → Int32) (bb : Nat → Nat → Int64), va_P (dC, dI) vwCl [(h0, .inr (7, mX7 h1 h2 h3 h4 h5 h6 h7 v0))] t.heap ∧ va_K (dC, dI) vwCl [] t ∧ va_D (va_A [(h0, .inr (7, mX7 h1 h2 h3 h4 h5 h6 h7 v0))] sz) [(h0, .inr (7, mX7 h1 h2 h3 h4 h5 h6 h7 v0))]) (va_A [(h0, .inr (7, mX7 h1 h2 h3 h4 h5 h6 h7 v0))] sz)) 0 0 (va_A [(h0, .inr (7, mX7 h1 h2 h3 h4 h5 h6 h7 v0))] sz) := by
  refine Met.ofW (cc := cX7_length) (maxL := 1) (ret := (some .int)) (by decide) rfl ?_
  intro p e s m args below meth c s₁ B hml hv
  obtain ⟨rfl, hsz, hP, hK, hD0, hE, hZ⟩ := hv
  have hx := B.exec
  have hb := B.bytes
  have hr := B.returns
  have hG : ∀ w ∈ zG, w.before _ s = true := fun w h => atoms_spec (ws := (zw yX7_length cX7_length 1 (some .int))) B.pre w (List.mem_cons_of_mem _ h)
  have hown : s.vm.findClass RX7 = some m.cls := findClass_of_methodNamed B.named
  have hlocks := B.notSynchronized

  subst hsz
  have hD := hD0.self (sz := s.heap.size)
  generalize hAe : va_A [(h0, .inr (7, mX7 h1 h2 h3 h4 h5 h6 h7 v0))] s.heap.size = A at hD hZ ⊢
  have hA : ∀ q : Nat, s.heap.size ≤ q → A q := fun q h => by rw [← hAe]; exact Or.inr h
  have hS : va_S A s.heap s.heap [] := va_S.rf
  have hl := lv_entry ([.ref h0]) (n := 1) (Nat.le_of_ble_eq_true rfl)
  rw [lg_entry_eq]
  generalize (lg_sl ([.ref h0]) ++ List.replicate (1 - (lg_sl ([.ref h0])).length) Slot.unset).toArray = ls at hl ⊢
  have hl : lv_has ls 1 [(0, .ref h0)] := hl
  have b_ : 0 ≤ (v0 9).toInt ∧ (v0 9).toInt ≤ 270 := hv0 9
  refine lv_aload_n hx hb dX7_length_0 rfl (lv_at hl 0 rfl) ?_
  refine va_get (D := (dC, dI)) (ci := 7) (v := .int (v0 9)) (C := RX7) (T := TX7) (N := 12) hx hb hG zuX7 hown hK hP 0 rfl rfl 9 (by decide) (hG _ zv374) (fun _ h9 => h9) rfl dX7_length_1 ?_
  refine W.widen (k := 0) (n := 0) (by decide) (by decide) ?_
  have hpost : (0 ≤ (v0 9).toInt ∧ (v0 9).toInt ≤ 270) ∧ ((v0 9).toInt = (v0 9).toInt) := ⟨(by first | with_reducible assumption | exact ⟨by omega, by omega⟩), by omega⟩
  have hP9 : va_P (dC, dI) vwCl [(h0, .inr (7, mX7 h1 h2 h3 h4 h5 h6 h7 v0))] s.heap := hP
  have hD9 : va_D A [(h0, .inr (7, mX7 h1 h2 h3 h4 h5 h6 h7 v0))] := hD
  exact W.iret (v := (v0 9)) hx hb hr (fun t ht hW => ⟨⟨(v0 9), (fun _ => 0), rfl, hpost, (fun _ => 0), (fun _ => (fun _ => 0)), (fun _ => (fun _ => 0)), by rw [ht]; exact hP9, va_K.moved hW.alike hK, hD9⟩, hS.F ht⟩) hS.2.2 dX7_length_4
set_option maxHeartbeats 8000000 in
set_option maxRecDepth 100000 in
theorem sX0_size_0 (l : Launch) (dC : Nat → ClassId) (dI : Nat → Nat → Nat) (adK adV : Nat → Nat) (h0 : Nat) (h1 : Nat) (h2 : Nat) (h3 : Nat) (h4 : Nat) (sz : Nat) (v0 : Nat → Int32) (hv0 : zR rg_Documents v0) : Met l yX0_size (zw yX0_size cX0_size 1 (some .int)) { frames := 0, cells := 0, slots := 0, locals := 0 } (zPc dC dI adK adV [.ref h0] sz [(h0, .inr (0, mX0 h1 h2 h3 h4 v0))] []) (va_Qi (fun (r : Int32) (u : Nat → Int32) => (0 ≤ r.toInt ∧ r.toInt ≤ 120) ∧ (r.toInt = (v0 4).toInt)) (fun (u : Nat → Int32) (t : State) => ∃ (ww : Nat → Int64) (aa : Nat → Nat → Int32) (bb : Nat → Nat → Int64), va_P (dC, dI) vwCl [(h0, .inr (0, mX0 h1 h2 h3 h4 v0))] t.heap ∧ va_K (dC, dI) vwCl [] t ∧ va_D (va_A [(h0, .inr (0, mX0 h1 h2 h3 h4 v0))] sz) [(h0, .inr (0, mX0 h1 h2 h3 h4 v0))]) (va_A [(h0, .inr (0, mX0 h1 h2 h3 h4 v0))] sz)) 0 0 (va_A [(h0, .inr (0, mX0 h1 h2 h3 h4 v0))] sz) := by
  refine Met.ofW (cc := cX0_size) (maxL := 1) (ret := (some .int)) (by decide) rfl ?_
  intro p e s m args below meth c s₁ B hml hv
  obtain ⟨rfl, hsz, hP, hK, hD0, hE, hZ⟩ := hv
  have hx := B.exec
  have hb := B.bytes
  have hr := B.returns
  have hG : ∀ w ∈ zG, w.before _ s = true := fun w h => atoms_spec (ws := (zw yX0_size cX0_size 1 (some .int))) B.pre w (List.mem_cons_of_mem _ h)
  have hown : s.vm.findClass RX0 = some m.cls := findClass_of_methodNamed B.named
  have hlocks := B.notSynchronized

  subst hsz
  have hD := hD0.self (sz := s.heap.size)
  generalize hAe : va_A [(h0, .inr (0, mX0 h1 h2 h3 h4 v0))] s.heap.size = A at hD hZ ⊢
  have hA : ∀ q : Nat, s.heap.size ≤ q → A q := fun q h => by rw [← hAe]; exact Or.inr h
  have hS : va_S A s.heap s.heap [] := va_S.rf
  have hl := lv_entry ([.ref h0]) (n := 1) (Nat.le_of_ble_eq_true rfl)
  rw [lg_entry_eq]
  generalize (lg_sl ([.ref h0]) ++ List.replicate (1 - (lg_sl ([.ref h0])).length) Slot.unset).toArray = ls at hl ⊢
  have hl : lv_has ls 1 [(0, .ref h0)] := hl
  have b_ : 0 ≤ (v0 4).toInt ∧ (v0 4).toInt ≤ 120 := hv0 4
  refine lv_aload_n hx hb dX0_size_0 rfl (lv_at hl 0 rfl) ?_
  refine va_get (D := (dC, dI)) (ci := 0) (v := .int (v0 4)) (C := RX0) (T := TX0) (N := 6) hx hb hG zuX0 hown hK hP 0 rfl rfl 4 (by decide) (hG _ zv226) (fun _ h9 => h9) rfl dX0_size_1 ?_
  refine W.widen (k := 0) (n := 0) (by decide) (by decide) ?_
  have hpost : (0 ≤ (v0 4).toInt ∧ (v0 4).toInt ≤ 120) ∧ ((v0 4).toInt = (v0 4).toInt) := ⟨(by first | with_reducible assumption | exact ⟨by omega, by omega⟩), by first | rfl | omega⟩
  have hP9 : va_P (dC, dI) vwCl [(h0, .inr (0, mX0 h1 h2 h3 h4 v0))] s.heap := hP
  have hD9 : va_D A [(h0, .inr (0, mX0 h1 h2 h3 h4 v0))] := hD
  exact W.iret (v := (v0 4)) hx hb hr (fun t ht hW => ⟨⟨(v0 4), (fun _ => 0), rfl, hpost, (fun _ => 0), (fun _ => (fun _ => 0)), (fun _ => (fun _ => 0)), by rw [ht]; exact hP9, va_K.moved hW.alike hK, hD9⟩, hS.F ht⟩) hS.2.2 dX0_size_4
set_option maxHeartbeats 8000000 in
set_option maxRecDepth 100000 in
theorem sX0_came_0 (l : Launch) (dC : Nat → ClassId) (dI : Nat → Nat → Nat) (adK adV : Nat → Nat) (h0 : Nat) (h1 : Nat) (h2 : Nat) (h3 : Nat) (h4 : Nat) (sz : Nat) (v0 : Nat → Int32) (x1 : Int32) (hv0 : zR rg_Documents v0) : Met l yX0_came (zw yX0_came cX0_came 2 (some .boolean)) { frames := 0, cells := 0, slots := 0, locals := 0 } (zPc dC dI adK adV [.ref h0, .int x1] sz [(h0, .inr (0, mX0 h1 h2 h3 h4 v0))] []) (va_Qi (fun (r : Int32) (u : Nat → Int32) => (0 ≤ r.toInt ∧ r.toInt ≤ 1) ∧ (r.toInt = 1 → (0 ≤ x1.toInt ∧ x1.toInt ≤ 119)) ∧ (r.toInt = 1 → x1.toInt < (v0 4).toInt) ∧ (r.toInt = 0 → x1.toInt < 0 ∨ (v0 4).toInt ≤ x1.toInt)) (fun (u : Nat → Int32) (t : State) => ∃ (ww : Nat → Int64) (aa : Nat → Nat → Int32) (bb : Nat → Nat → Int64), va_P (dC, dI) vwCl [(h0, .inr (0, mX0 h1 h2 h3 h4 v0))] t.heap ∧ va_K (dC, dI) vwCl [] t ∧ va_D (va_A [(h0, .inr (0, mX0 h1 h2 h3 h4 v0))] sz) [(h0, .inr (0, mX0 h1 h2 h3 h4 v0))]) (va_A [(h0, .inr (0, mX0 h1 h2 h3 h4 v0))] sz)) 0 0 (va_A [(h0, .inr (0, mX0 h1 h2 h3 h4 v0))] sz) := by
  refine Met.ofW (cc := cX0_came) (maxL := 2) (ret := (some .boolean)) (by decide) rfl ?_
  intro p e s m args below meth c s₁ B hml hv
  obtain ⟨rfl, hsz, hP, hK, hD0, hE, hZ⟩ := hv
  have hx := B.exec
  have hb := B.bytes
  have hr := B.returns
  have hG : ∀ w ∈ zG, w.before _ s = true := fun w h => atoms_spec (ws := (zw yX0_came cX0_came 2 (some .boolean))) B.pre w (List.mem_cons_of_mem _ h)
  have hown : s.vm.findClass RX0 = some m.cls := findClass_of_methodNamed B.named
  have hlocks := B.notSynchronized

  subst hsz
  have hD := hD0.self (sz := s.heap.size)
  generalize hAe : va_A [(h0, .inr (0, mX0 h1 h2 h3 h4 v0))] s.heap.size = A at hD hZ ⊢
  have hA : ∀ q : Nat, s.heap.size ≤ q → A q := fun q h => by rw [← hAe]; exact Or.inr h
  have hS : va_S A s.heap s.heap [] := va_S.rf
  have hl := lv_entry ([.ref h0, .int x1]) (n := 2) (Nat.le_of_ble_eq_true rfl)
  rw [lg_entry_eq]
  generalize (lg_sl ([.ref h0, .int x1]) ++ List.replicate (2 - (lg_sl ([.ref h0, .int x1])).length) Slot.unset).toArray = ls at hl ⊢
  have hl : lv_has ls 2 [(0, .ref h0), (1, .int x1)] := hl
  have b_ := zk_0
  have b_ := zk_1
  have b_ : 0 ≤ (v0 4).toInt ∧ (v0 4).toInt ≤ 120 := hv0 4
  refine lv_iload_n hx hb dX0_came_0 rfl (lv_at hl 1 rfl) ?_
  have b_ : -2147483648 ≤ x1.toInt ∧ x1.toInt ≤ 2147483647 := ⟨zlo _, zhi _⟩
  refine lv_if_lt (tgt := 16) hx hb dX0_came_1 (by decide) (fun c_ => ?_) (fun c_ => ?_)
  · skip
    have b_ := zT_lt rfl zk_0 c_
    refine lv_iconst (v := 0) hx hb dX0_came_16 (by decide) ?_
    refine W.widen (k := 0) (n := 0) (by decide) (by decide) ?_
    have hpost : (0 ≤ (0 : Int32).toInt ∧ (0 : Int32).toInt ≤ 1) ∧ ((0 : Int32).toInt = 1 → (0 ≤ x1.toInt ∧ x1.toInt ≤ 119)) ∧ ((0 : Int32).toInt = 1 → x1.toInt < (v0 4).toInt) ∧ ((0 : Int32).toInt = 0 → x1.toInt < 0 ∨ (v0 4).toInt ≤ x1.toInt) := ⟨(by first | with_reducible assumption | exact ⟨by omega, by omega⟩), by omega, by omega, by omega⟩
    have hP9 : va_P (dC, dI) vwCl [(h0, .inr (0, mX0 h1 h2 h3 h4 v0))] s.heap := hP
    have hD9 : va_D A [(h0, .inr (0, mX0 h1 h2 h3 h4 v0))] := hD
    exact W.zret (v := 0) hx hb hr rfl (fun t ht hW => ⟨⟨0, (fun _ => 0), rfl, hpost, (fun _ => 0), (fun _ => (fun _ => 0)), (fun _ => (fun _ => 0)), by rw [ht]; exact hP9, va_K.moved hW.alike hK, hD9⟩, hS.F ht⟩) hS.2.2 dX0_came_17
  · skip
    have b_ := zF_lt rfl zk_0 c_
    refine lv_iload_n hx hb dX0_came_4 rfl (lv_at hl 1 rfl) ?_
    refine lv_aload_n hx hb dX0_came_5 rfl (lv_at hl 0 rfl) ?_
    refine va_get (D := (dC, dI)) (ci := 0) (v := .int (v0 4)) (C := RX0) (T := TX0) (N := 6) hx hb hG zuX0 hown hK hP 0 rfl rfl 4 (by decide) (hG _ zv226) (fun _ h9 => h9) rfl dX0_came_6 ?_
    refine lv_icmp_ge (tgt := 16) hx hb dX0_came_9 (by decide) (fun c_ => ?_) (fun c_ => ?_)
    · skip
      have b_ := zT_ge rfl rfl c_
      refine lv_iconst (v := 0) hx hb dX0_came_16 (by decide) ?_
      refine W.widen (k := 0) (n := 0) (by decide) (by decide) ?_
      have hpost : (0 ≤ (0 : Int32).toInt ∧ (0 : Int32).toInt ≤ 1) ∧ ((0 : Int32).toInt = 1 → (0 ≤ x1.toInt ∧ x1.toInt ≤ 119)) ∧ ((0 : Int32).toInt = 1 → x1.toInt < (v0 4).toInt) ∧ ((0 : Int32).toInt = 0 → x1.toInt < 0 ∨ (v0 4).toInt ≤ x1.toInt) := ⟨(by first | with_reducible assumption | exact ⟨by omega, by omega⟩), by omega, by omega, by omega⟩
      have hP9 : va_P (dC, dI) vwCl [(h0, .inr (0, mX0 h1 h2 h3 h4 v0))] s.heap := hP
      have hD9 : va_D A [(h0, .inr (0, mX0 h1 h2 h3 h4 v0))] := hD
      exact W.zret (v := 0) hx hb hr rfl (fun t ht hW => ⟨⟨0, (fun _ => 0), rfl, hpost, (fun _ => 0), (fun _ => (fun _ => 0)), (fun _ => (fun _ => 0)), by rw [ht]; exact hP9, va_K.moved hW.alike hK, hD9⟩, hS.F ht⟩) hS.2.2 dX0_came_17
    · skip
      have b_ := zF_ge rfl rfl c_
      refine lv_iconst (v := 1) hx hb dX0_came_12 (by decide) ?_
      refine lv_goto (tgt := 17) hx hb dX0_came_13 (by decide) ?_
      refine W.widen (k := 0) (n := 0) (by decide) (by decide) ?_
      have hpost : (0 ≤ (1 : Int32).toInt ∧ (1 : Int32).toInt ≤ 1) ∧ ((1 : Int32).toInt = 1 → (0 ≤ x1.toInt ∧ x1.toInt ≤ 119)) ∧ ((1 : Int32).toInt = 1 → x1.toInt < (v0 4).toInt) ∧ ((1 : Int32).toInt = 0 → x1.toInt < 0 ∨ (v0 4).toInt ≤ x1.toInt) := ⟨(by first | with_reducible assumption | exact ⟨by omega, by omega⟩), by omega, by omega, by omega⟩
      have hP9 : va_P (dC, dI) vwCl [(h0, .inr (0, mX0 h1 h2 h3 h4 v0))] s.heap := hP
      have hD9 : va_D A [(h0, .inr (0, mX0 h1 h2 h3 h4 v0))] := hD
      exact W.zret (v := 1) hx hb hr rfl (fun t ht hW => ⟨⟨1, (fun _ => 0), rfl, hpost, (fun _ => 0), (fun _ => (fun _ => 0)), (fun _ => (fun _ => 0)), by rw [ht]; exact hP9, va_K.moved hW.alike hK, hD9⟩, hS.F ht⟩) hS.2.2 dX0_came_17
set_option maxHeartbeats 8000000 in
set_option maxRecDepth 100000 in
theorem sX0_isOn_0 (l : Launch) (dC : Nat → ClassId) (dI : Nat → Nat → Nat) (adK adV : Nat → Nat) (h0 : Nat) (h1 : Nat) (h2 : Nat) (h3 : Nat) (h4 : Nat) (k1 : ClassId) (sz : Nat) (v0 : Nat → Int32) (f1 : Nat → Int32) (x1 : Int32) (hv0 : zR rg_Documents v0) : Met l yX0_isOn (zw yX0_isOn cX0_isOn 2 (some .boolean)) { frames := 1, cells := 0, slots := 0, locals := 21 } (zPc dC dI adK adV [.ref h0, .int x1] sz [(h0, .inr (0, mX0 h1 h2 h3 h4 v0)), (h1, zi k1 120 f1)] [(k1, .boolean)]) (va_Qi (fun (r : Int32) (u : Nat → Int32) => (0 ≤ r.toInt ∧ r.toInt ≤ 1) ∧ (r.toInt = 1 → (0 ≤ x1.toInt ∧ x1.toInt ≤ 119)) ∧ (r.toInt = 1 → x1.toInt < (v0 4).toInt) ∧ (zIo f1 (v0 4).toInt (x1 : Int32) r.toInt)) (fun (u : Nat → Int32) (t : State) => ∃ (ww : Nat → Int64) (aa : Nat → Nat → Int32) (bb : Nat → Nat → Int64), va_P (dC, dI) vwCl [(h0, .inr (0, mX0 h1 h2 h3 h4 v0)), (h1, zi k1 120 f1)] t.heap ∧ va_K (dC, dI) vwCl [(k1, .boolean)] t ∧ va_D (va_A [(h0, .inr (0, mX0 h1 h2 h3 h4 v0)), (h1, zi k1 120 f1)] sz) [(h0, .inr (0, mX0 h1 h2 h3 h4 v0)), (h1, zi k1 120 f1)]) (va_A [(h0, .inr (0, mX0 h1 h2 h3 h4 v0)), (h1, zi k1 120 f1)] sz)) 0 0 (va_A [(h0, .inr (0, mX0 h1 h2 h3 h4 v0)), (h1, zi k1 120 f1)] sz) := by
  refine Met.ofW (cc := cX0_isOn) (maxL := 2) (ret := (some .boolean)) (by decide) rfl ?_
  intro p e s m args below meth c s₁ B hml hv
  obtain ⟨rfl, hsz, hP, hK, hD0, hE, hZ⟩ := hv
  have hx := B.exec
  have hb := B.bytes
  have hr := B.returns
  have hG : ∀ w ∈ zG, w.before _ s = true := fun w h => atoms_spec (ws := (zw yX0_isOn cX0_isOn 2 (some .boolean))) B.pre w (List.mem_cons_of_mem _ h)
  have hown : s.vm.findClass RX0 = some m.cls := findClass_of_methodNamed B.named
  have hlocks := B.notSynchronized

  subst hsz
  have hD := hD0.self (sz := s.heap.size)
  generalize hAe : va_A [(h0, .inr (0, mX0 h1 h2 h3 h4 v0)), (h1, zi k1 120 f1)] s.heap.size = A at hD hZ ⊢
  have hA : ∀ q : Nat, s.heap.size ≤ q → A q := fun q h => by rw [← hAe]; exact Or.inr h
  have hS : va_S A s.heap s.heap [] := va_S.rf
  have hl := lv_entry ([.ref h0, .int x1]) (n := 2) (Nat.le_of_ble_eq_true rfl)
  rw [lg_entry_eq]
  generalize (lg_sl ([.ref h0, .int x1]) ++ List.replicate (2 - (lg_sl ([.ref h0, .int x1])).length) Slot.unset).toArray = ls at hl ⊢
  have hl : lv_has ls 2 [(0, .ref h0), (1, .int x1)] := hl
  have b_ := zk_0
  have b_ := zk_1
  have b_ : 0 ≤ (v0 4).toInt ∧ (v0 4).toInt ≤ 120 := hv0 4
  refine lv_aload_n hx hb dX0_isOn_0 rfl (lv_at hl 0 rfl) ?_
  refine lv_iload_n hx hb dX0_isOn_1 rfl (lv_at hl 1 rfl) ?_
  have hPc := hP.sub (ws' := [(h0, .inr (0, mX0 h1 h2 h3 h4 v0))]) [0] rfl
  have hDc := hD.sub (ws' := [(h0, .inr (0, mX0 h1 h2 h3 h4 v0))]) [0] (by decide) rfl
  have hKc := hK.sub (tys' := []) [] rfl
  have hFc := va_free (wc := [(h0, .inr (0, mX0 h1 h2 h3 h4 v0))]) hD hS hA [0] rfl
  refine va_calli (va_runV (As := [.int x1]) (rest := []) ⟨hx, hb, hml, hown, hG⟩ (sX0_came_0 l dC dI adK adV h0 h1 h2 h3 h4 s.heap.size v0 x1 hv0) (cwV 1 hG (zgV zv875 zv876 zv877 zv132 zv878) rfl rfl rfl (by decide +kernel) ⟨Nat.le_of_ble_eq_true rfl, Nat.le_of_ble_eq_true rfl⟩) ⟨zPc_blind, va_recv hKc hPc (ci := 0) (q0 := 0) rfl rfl, zPc_pre hPc hKc hDc hE hS hFc hZ⟩ rfl rfl hl.1 rfl (lv_room (Nat.le_of_ble_eq_true rfl)) dX0_isOn_2 ⟨Nat.le_of_ble_eq_true rfl, Nat.le_of_ble_eq_true rfl⟩) hS (fun q _ h => hFc q h) hFc (fun r2_ u2_ t H1 locs ht hvm hw hB hz1 hk1 hS => ?_)
  replace hw : (0 ≤ r2_.toInt ∧ r2_.toInt ≤ 1) ∧ (r2_.toInt = 1 → (0 ≤ x1.toInt ∧ x1.toInt ≤ 119)) ∧ (r2_.toInt = 1 → x1.toInt < (v0 4).toInt) ∧ (r2_.toInt = 0 → x1.toInt < 0 ∨ (v0 4).toInt ≤ x1.toInt) := hw
  obtain ⟨b_, hX2_0, hX2_1, hX2_2⟩ := hw
  obtain ⟨w2_, a2_, b2_, hP1, hK1, hD1⟩ := hB
  rw [ht] at hP1
  obtain ⟨hP, hD⟩ := va_join (wr := [(h1, zi k1 120 f1)]) (w1 := [(h0, .inr (0, mX0 h1 h2 h3 h4 v0))]) hP hD [0] [1] rfl rfl (by decide) (by decide) hk1 hFc hP1 hD1
  have hP : va_P (dC, dI) vwCl [(h0, .inr (0, mX0 h1 h2 h3 h4 v0)), (h1, zi k1 120 f1)] H1 := hP.sub [1, 0] rfl
  have hD : va_D A [(h0, .inr (0, mX0 h1 h2 h3 h4 v0)), (h1, zi k1 120 f1)] := hD.sub [1, 0] (by decide) rfl
  generalize H1 = H at hP hS ⊢
  clear hz1
  refine lv_if_eq (tgt := 21) hx hb dX0_isOn_5 (by decide) (fun c_ => ?_) (fun c_ => ?_)
  · skip
    have b_ := zT_eq rfl zk_0 c_
    refine lv_iconst (v := 0) hx hb dX0_isOn_21 (by decide) ?_
    refine W.widen (k := 0) (n := 0) (by decide) (by decide) ?_
    have hpost : (0 ≤ (0 : Int32).toInt ∧ (0 : Int32).toInt ≤ 1) ∧ ((0 : Int32).toInt = 1 → (0 ≤ x1.toInt ∧ x1.toInt ≤ 119)) ∧ ((0 : Int32).toInt = 1 → x1.toInt < (v0 4).toInt) ∧ (zIo f1 (v0 4).toInt (x1 : Int32) (0 : Int32).toInt) := ⟨(by first | with_reducible assumption | exact ⟨by omega, by omega⟩), by omega, by omega, by first | exact zIo_i (by omega) (Or.inl ⟨by omega, by omega, e_z13, by omega⟩) | exact zIo_i (z := 0) (by omega) (Or.inr ⟨by omega, by omega⟩)⟩
    have hP9 : va_P (dC, dI) vwCl [(h0, .inr (0, mX0 h1 h2 h3 h4 v0)), (h1, zi k1 120 f1)] H := hP
    have hD9 : va_D A [(h0, .inr (0, mX0 h1 h2 h3 h4 v0)), (h1, zi k1 120 f1)] := hD
    exact W.zret (v := 0) hx hb hr rfl (fun t ht hW => ⟨⟨0, (fun _ => 0), rfl, hpost, (fun _ => 0), (fun _ => (fun _ => 0)), (fun _ => (fun _ => 0)), by rw [ht]; exact hP9, va_K.moved hW.alike hK, hD9⟩, hS.F ht⟩) hS.2.2 dX0_isOn_22
  · skip
    have b_ := zF_eq rfl zk_0 c_
    refine lv_aload_n hx hb dX0_isOn_8 rfl (lv_at hl 0 rfl) ?_
    refine va_get (D := (dC, dI)) (ci := 0) (v := .ref h1) (C := RX0) (T := TX0) (N := 6) hx hb hG zuX0 hown hK hP 0 rfl rfl 0 (by decide) (hG _ zv222) (fun _ h9 => h9) rfl dX0_isOn_9 ?_
    refine lv_iload_n hx hb dX0_isOn_12 rfl (lv_at hl 1 rfl) ?_
    refine va_zald hx hb hK hP 1 0 rfl rfl (zin_lit ⟨by omega, by omega⟩) dX0_isOn_13 ?_
    refine lv_topi (fun z13 e_z13 => ?_)
    have b_ : -2147483648 ≤ z13.toInt ∧ z13.toInt ≤ 2147483647 := ⟨zlo _, zhi _⟩
    refine lv_if_eq (tgt := 21) hx hb dX0_isOn_14 (by decide) (fun c_ => ?_) (fun c_ => ?_)
    · skip
      have b_ := zT_eq rfl zk_0 c_
      refine lv_iconst (v := 0) hx hb dX0_isOn_21 (by decide) ?_
      refine W.widen (k := 0) (n := 0) (by decide) (by decide) ?_
      have hpost : (0 ≤ (0 : Int32).toInt ∧ (0 : Int32).toInt ≤ 1) ∧ ((0 : Int32).toInt = 1 → (0 ≤ x1.toInt ∧ x1.toInt ≤ 119)) ∧ ((0 : Int32).toInt = 1 → x1.toInt < (v0 4).toInt) ∧ (zIo f1 (v0 4).toInt (x1 : Int32) (0 : Int32).toInt) := ⟨(by first | with_reducible assumption | exact ⟨by omega, by omega⟩), by omega, by omega, by first | exact zIo_i (by omega) (Or.inl ⟨by omega, by omega, e_z13, by omega⟩) | exact zIo_i (z := 0) (by omega) (Or.inr ⟨by omega, by omega⟩)⟩
      have hP9 : va_P (dC, dI) vwCl [(h0, .inr (0, mX0 h1 h2 h3 h4 v0)), (h1, zi k1 120 f1)] H := hP
      have hD9 : va_D A [(h0, .inr (0, mX0 h1 h2 h3 h4 v0)), (h1, zi k1 120 f1)] := hD
      exact W.zret (v := 0) hx hb hr rfl (fun t ht hW => ⟨⟨0, (fun _ => 0), rfl, hpost, (fun _ => 0), (fun _ => (fun _ => 0)), (fun _ => (fun _ => 0)), by rw [ht]; exact hP9, va_K.moved hW.alike hK, hD9⟩, hS.F ht⟩) hS.2.2 dX0_isOn_22
    · skip
      have b_ := zF_eq rfl zk_0 c_
      refine lv_iconst (v := 1) hx hb dX0_isOn_17 (by decide) ?_
      refine lv_goto (tgt := 22) hx hb dX0_isOn_18 (by decide) ?_
      refine W.widen (k := 0) (n := 0) (by decide) (by decide) ?_
      have hpost : (0 ≤ (1 : Int32).toInt ∧ (1 : Int32).toInt ≤ 1) ∧ ((1 : Int32).toInt = 1 → (0 ≤ x1.toInt ∧ x1.toInt ≤ 119)) ∧ ((1 : Int32).toInt = 1 → x1.toInt < (v0 4).toInt) ∧ (zIo f1 (v0 4).toInt (x1 : Int32) (1 : Int32).toInt) := ⟨(by first | with_reducible assumption | exact ⟨by omega, by omega⟩), by omega, by omega, by first | exact zIo_i (by omega) (Or.inl ⟨by omega, by omega, e_z13, by omega⟩) | exact zIo_i (z := 0) (by omega) (Or.inr ⟨by omega, by omega⟩)⟩
      have hP9 : va_P (dC, dI) vwCl [(h0, .inr (0, mX0 h1 h2 h3 h4 v0)), (h1, zi k1 120 f1)] H := hP
      have hD9 : va_D A [(h0, .inr (0, mX0 h1 h2 h3 h4 v0)), (h1, zi k1 120 f1)] := hD
      exact W.zret (v := 1) hx hb hr rfl (fun t ht hW => ⟨⟨1, (fun _ => 0), rfl, hpost, (fun _ => 0), (fun _ => (fun _ => 0)), (fun _ => (fun _ => 0)), by rw [ht]; exact hP9, va_K.moved hW.alike hK, hD9⟩, hS.F ht⟩) hS.2.2 dX0_isOn_22
set_option maxHeartbeats 8000000 in
set_option maxRecDepth 100000 in
theorem sJ6_bitCount_0f7a4_0 (l : Launch) (dC : Nat → ClassId) (dI : Nat → Nat → Nat) (adK adV : Nat → Nat) (sz : Nat) (x0 : Int32) : Met l yJ6_bitCount_0f7a4 (zw yJ6_bitCount_0f7a4 cJ6_bitCount_0f7a4 1 (some .int)) { frames := 0, cells := 0, slots := 0, locals := 0 } (zPc dC dI adK adV [.int x0] sz [] []) (va_Qi (fun (r : Int32) (u : Nat → Int32) => (0 ≤ r.toInt ∧ r.toInt ≤ 63) ∧ (r.toInt = (zbcx (x0 : Int32) : Int))) (fun (u : Nat → Int32) (t : State) => ∃ (ww : Nat → Int64) (aa : Nat → Nat → Int32) (bb : Nat → Nat → Int64), va_P (dC, dI) vwCl [] t.heap ∧ va_K (dC, dI) vwCl [] t ∧ va_D (va_A [] sz) []) (va_A [] sz)) 0 0 (va_A [] sz) := by
  refine Met.ofW (cc := cJ6_bitCount_0f7a4) (maxL := 1) (ret := (some .int)) (by decide) rfl ?_
  intro p e s m args below meth c s₁ B hml hv
  obtain ⟨rfl, hsz, hP, hK, hD0, hE, hZ⟩ := hv
  have hx := B.exec
  have hb := B.bytes
  have hr := B.returns
  have hG : ∀ w ∈ zG, w.before _ s = true := fun w h => atoms_spec (ws := (zw yJ6_bitCount_0f7a4 cJ6_bitCount_0f7a4 1 (some .int))) B.pre w (List.mem_cons_of_mem _ h)
  have hown : s.vm.findClass RJ6 = some m.cls := findClass_of_methodNamed B.named
  have hlocks := B.notSynchronized

  subst hsz
  have hD := hD0.self (sz := s.heap.size)
  generalize hAe : va_A [] s.heap.size = A at hD hZ ⊢
  have hA : ∀ q : Nat, s.heap.size ≤ q → A q := fun q h => by rw [← hAe]; exact Or.inr h
  have hS : va_S A s.heap s.heap [] := va_S.rf
  have hl := lv_entry ([.int x0]) (n := 1) (Nat.le_of_ble_eq_true rfl)
  rw [lg_entry_eq]
  generalize (lg_sl ([.int x0]) ++ List.replicate (1 - (lg_sl ([.int x0])).length) Slot.unset).toArray = ls at hl ⊢
  have hl : lv_has ls 1 [(0, .int x0)] := hl
  refine lv_iload_n hx hb dJ6_bitCount_0f7a4_0 rfl (lv_at hl 0 rfl) ?_
  refine lv_iload_n hx hb dJ6_bitCount_0f7a4_1 rfl (lv_at hl 0 rfl) ?_
  refine lv_iconst (v := 1) hx hb dJ6_bitCount_0f7a4_2 (by decide) ?_
  have b_ : -2147483648 ≤ x0.toInt ∧ x0.toInt ≤ 2147483647 := ⟨zlo _, zhi _⟩
  refine lv_iushr hx hb dJ6_bitCount_0f7a4_3 rfl ?_
  refine lv_topi (fun z3 e_z3 => ?_)
  have b_ := zushrB1 (x := x0) e_z3
  refine lv_ldcw hx hb hown (hG _ zv1295) dJ6_bitCount_0f7a4_4 ?_
  refine lv_iand hx hb dJ6_bitCount_0f7a4_7 ?_
  refine lv_topi (fun z7 e_z7 => ?_)
  have b_ := zand (x := z3) zk_1431655765 e_z7 (by decide)
  refine lv_isub hx hb dJ6_bitCount_0f7a4_8 ?_
  refine lv_topi (fun z8 e_z8 => ?_)
  refine lv_istore_n (lv' := [(0, .int z8)]) hx hb dJ6_bitCount_0f7a4_9 rfl hl (by decide) rfl (fun ls hl => ?_)
  refine lv_iload_n hx hb dJ6_bitCount_0f7a4_10 rfl (lv_at hl 0 rfl) ?_
  refine lv_ldcw hx hb hown (hG _ zv1296) dJ6_bitCount_0f7a4_11 ?_
  have b_ : -2147483648 ≤ z8.toInt ∧ z8.toInt ≤ 2147483647 := ⟨zlo _, zhi _⟩
  refine lv_iand hx hb dJ6_bitCount_0f7a4_14 ?_
  refine lv_topi (fun z14 e_z14 => ?_)
  have b_ := zand (x := z8) zk_858993459 e_z14 (by decide)
  refine lv_iload_n hx hb dJ6_bitCount_0f7a4_15 rfl (lv_at hl 0 rfl) ?_
  refine lv_iconst (v := 2) hx hb dJ6_bitCount_0f7a4_16 (by decide) ?_
  refine lv_iushr hx hb dJ6_bitCount_0f7a4_17 rfl ?_
  refine lv_topi (fun z17 e_z17 => ?_)
  have b_ := zushrB2 (x := z8) e_z17
  refine lv_ldcw hx hb hown (hG _ zv1296) dJ6_bitCount_0f7a4_18 ?_
  refine lv_iand hx hb dJ6_bitCount_0f7a4_21 ?_
  refine lv_topi (fun z21 e_z21 => ?_)
  have b_ := zand (x := z17) zk_858993459 e_z21 (by decide)
  refine lv_iadd hx hb dJ6_bitCount_0f7a4_22 ?_
  refine lv_topi (fun z22 e_z22 => ?_)
  have b_ := zadd rfl rfl e_z22 (by omega) (by omega)
  refine lv_istore_n (lv' := [(0, .int z22)]) hx hb dJ6_bitCount_0f7a4_23 rfl hl (by decide) rfl (fun ls hl => ?_)
  refine lv_iload_n hx hb dJ6_bitCount_0f7a4_24 rfl (lv_at hl 0 rfl) ?_
  refine lv_iload_n hx hb dJ6_bitCount_0f7a4_25 rfl (lv_at hl 0 rfl) ?_
  refine lv_iconst (v := 4) hx hb dJ6_bitCount_0f7a4_26 (by decide) ?_
  refine lv_iushr hx hb dJ6_bitCount_0f7a4_27 rfl ?_
  refine lv_topi (fun z27 e_z27 => ?_)
  have b_ := zushr4 rfl e_z27 (by omega)
  refine lv_iadd hx hb dJ6_bitCount_0f7a4_28 ?_
  refine lv_topi (fun z28 e_z28 => ?_)
  have b_ := zadd rfl rfl e_z28 (by omega) (by omega)
  refine lv_ldcw hx hb hown (hG _ zv1297) dJ6_bitCount_0f7a4_29 ?_
  refine lv_iand hx hb dJ6_bitCount_0f7a4_32 ?_
  refine lv_topi (fun z32 e_z32 => ?_)
  have b_ := zand (x := z28) zk_252645135 e_z32 (by decide)
  refine lv_istore_n (lv' := [(0, .int z32)]) hx hb dJ6_bitCount_0f7a4_33 rfl hl (by decide) rfl (fun ls hl => ?_)
  refine lv_iload_n hx hb dJ6_bitCount_0f7a4_34 rfl (lv_at hl 0 rfl) ?_
  refine lv_iload_n hx hb dJ6_bitCount_0f7a4_35 rfl (lv_at hl 0 rfl) ?_
  refine lv_bipush (v := 8) hx hb dJ6_bitCount_0f7a4_36 (by decide) ?_
  refine lv_iushr hx hb dJ6_bitCount_0f7a4_38 rfl ?_
  refine lv_topi (fun z38 e_z38 => ?_)
  have b_ := zushr8 rfl e_z38 (by omega)
  refine lv_iadd hx hb dJ6_bitCount_0f7a4_39 ?_
  refine lv_topi (fun z39 e_z39 => ?_)
  have b_ := zadd rfl rfl e_z39 (by omega) (by omega)
  refine lv_istore_n (lv' := [(0, .int z39)]) hx hb dJ6_bitCount_0f7a4_40 rfl hl (by decide) rfl (fun ls hl => ?_)
  refine lv_iload_n hx hb dJ6_bitCount_0f7a4_41 rfl (lv_at hl 0 rfl) ?_
  refine lv_iload_n hx hb dJ6_bitCount_0f7a4_42 rfl (lv_at hl 0 rfl) ?_
  refine lv_bipush (v := 16) hx hb dJ6_bitCount_0f7a4_43 (by decide) ?_
  refine lv_iushr hx hb dJ6_bitCount_0f7a4_45 rfl ?_
  refine lv_topi (fun z45 e_z45 => ?_)
  have b_ := zushr16 rfl e_z45 (by omega)
  refine lv_iadd hx hb dJ6_bitCount_0f7a4_46 ?_
  refine lv_topi (fun z46 e_z46 => ?_)
  have b_ := zadd rfl rfl e_z46 (by omega) (by omega)
  refine lv_istore_n (lv' := [(0, .int z46)]) hx hb dJ6_bitCount_0f7a4_47 rfl hl (by decide) rfl (fun ls hl => ?_)
  refine lv_iload_n hx hb dJ6_bitCount_0f7a4_48 rfl (lv_at hl 0 rfl) ?_
  refine lv_bipush (v := 63) hx hb dJ6_bitCount_0f7a4_49 (by decide) ?_
  refine lv_iand hx hb dJ6_bitCount_0f7a4_51 ?_
  refine lv_topi (fun z51 e_z51 => ?_)
  have b_ := zand (x := z46) zk_63 e_z51 (by decide)
  refine W.widen (k := 0) (n := 0) (by decide) (by decide) ?_
  have hpost : (0 ≤ z51.toInt ∧ z51.toInt ≤ 63) ∧ (z51.toInt = (zbcx (x0 : Int32) : Int)) := ⟨(by first | with_reducible assumption | exact ⟨by omega, by omega⟩), by exact zBct e_z3 e_z7 e_z8 e_z14 e_z17 e_z21 e_z22 e_z27 e_z28 e_z32 e_z38 e_z39 e_z45 e_z46 e_z51⟩
  have hP9 : va_P (dC, dI) vwCl [] s.heap := hP
  have hD9 : va_D A [] := hD
  exact W.iret (v := z51) hx hb hr (fun t ht hW => ⟨⟨z51, (fun _ => 0), rfl, hpost, (fun _ => 0), (fun _ => (fun _ => 0)), (fun _ => (fun _ => 0)), by rw [ht]; exact hP9, va_K.moved hW.alike hK, hD9⟩, hS.F ht⟩) hS.2.2 dJ6_bitCount_0f7a4_52
set_option maxHeartbeats 8000000 in
set_option maxRecDepth 100000 in
theorem sX5_worth_0 (l : Launch) (dC : Nat → ClassId) (dI : Nat → Nat → Nat) (adK adV : Nat → Nat) (h0 : Nat) (h1 : Nat) (k1 : ClassId) (sz : Nat) (f1 : Nat → Int32) : Met l yX5_worth (zw yX5_worth cX5_worth 3 (some .int)) { frames := 1, cells := 0, slots := 0, locals := 20 } (zPc dC dI adK adV [.ref h0] sz [(h0, .inr (5, mX5 h1)), (h1, zi k1 26 f1)] [(k1, .int)]) (va_Qi (fun (r : Int32) (u : Nat → Int32) => (0 ≤ r.toInt ∧ r.toInt ≤ 4914) ∧ (r.toInt = (zwq f1 832 : Int))) (fun (u : Nat → Int32) (t : State) => ∃ (ww : Nat → Int64) (aa : Nat → Nat → Int32) (bb : Nat → Nat → Int64), va_P (dC, dI) vwCl [(h0, .inr (5, mX5 h1)), (h1, zi k1 26 f1)] t.heap ∧ va_K (dC, dI) vwCl [(k1, .int)] t ∧ va_D (va_A [(h0, .inr (5, mX5 h1)), (h1, zi k1 26 f1)] sz) [(h0, .inr (5, mX5 h1)), (h1, zi k1 26 f1)]) (va_A [(h0, .inr (5, mX5 h1)), (h1, zi k1 26 f1)] sz)) 0 0 (va_A [(h0, .inr (5, mX5 h1)), (h1, zi k1 26 f1)] sz) := by
  refine Met.ofW (cc := cX5_worth) (maxL := 3) (ret := (some .int)) (by decide) rfl ?_
  intro p e s m args below meth c s₁ B hml hv
  obtain ⟨rfl, hsz, hP, hK, hD0, hE, hZ⟩ := hv
  have hx := B.exec
  have hb := B.bytes
  have hr := B.returns
  have hG : ∀ w ∈ zG, w.before _ s = true := fun w h => atoms_spec (ws := (zw yX5_worth cX5_worth 3 (some .int))) B.pre w (List.mem_cons_of_mem _ h)
  have hown : s.vm.findClass RX5 = some m.cls := findClass_of_methodNamed B.named
  have hlocks := B.notSynchronized

  subst hsz
  have hD := hD0.self (sz := s.heap.size)
  generalize hAe : va_A [(h0, .inr (5, mX5 h1)), (h1, zi k1 26 f1)] s.heap.size = A at hD hZ ⊢
  have hA : ∀ q : Nat, s.heap.size ≤ q → A q := fun q h => by rw [← hAe]; exact Or.inr h
  have hS : va_S A s.heap s.heap [] := va_S.rf
  have hl := lv_entry ([.ref h0]) (n := 3) (Nat.le_of_ble_eq_true rfl)
  rw [lg_entry_eq]
  generalize (lg_sl ([.ref h0]) ++ List.replicate (3 - (lg_sl ([.ref h0])).length) Slot.unset).toArray = ls at hl ⊢
  have hl : lv_has ls 3 [(0, .ref h0)] := hl
  have b_ := zk_0
  refine lv_iconst (v := 0) hx hb dX5_worth_0 (by decide) ?_
  refine lv_istore_n (lv' := [(1, .int 0), (0, .ref h0)]) hx hb dX5_worth_1 rfl hl (by decide) rfl (fun ls hl => ?_)
  refine lv_iconst (v := 0) hx hb dX5_worth_2 (by decide) ?_
  refine lv_istore_n (lv' := [(2, .int 0), (1, .int 0), (0, .ref h0)]) hx hb dX5_worth_3 rfl hl (by decide) rfl (fun ls hl => ?_)
  refine zcutL (fun u4_ => (26 - (u4_ 1).toInt).toNat) (fun H locs ls u4_ w4_ a4_ b4_ => va_P (dC, dI) vwCl [(h0, .inr (5, mX5 h1)), (h1, zi k1 26 f1)] H ∧ va_D A [(h0, .inr (5, mX5 h1)), (h1, zi k1 26 f1)] ∧ va_S A s.heap H locs ∧ lv_has ls 3 [(0, .ref h0), (1, .int (u4_ 0)), (2, .int (u4_ 1))] ∧ (0 ≤ (u4_ 0).toInt ∧ (u4_ 0).toInt ≤ 4914) ∧ (0 ≤ (u4_ 1).toInt ∧ (u4_ 1).toInt ≤ 26) ∧ ((u4_ 0).toInt ≤ 189 * (u4_ 1).toInt) ∧ (zWo f1 (u4_ 0).toInt (u4_ 1).toInt)) (fun ls u4_ w4_ => F0 m 4 ls []) 0 0 ?_ (fun hJ4 => ?_)
  · skip
    intro H locs ls u4_ w4_ a4_ b4_ hc hJ4
    obtain ⟨hP, hD, hS, hl, b_, b_, b_, hI4_1⟩ := hc
    refine lv_iload_n hx hb dX5_worth_4 rfl (lv_at hl 2 rfl) ?_
    refine lv_bipush (v := 26) hx hb dX5_worth_5 (by decide) ?_
    refine lv_icmp_ge (tgt := 40) hx hb dX5_worth_7 (by decide) (fun c_ => ?_) (fun c_ => ?_)
    · skip
      have b_ := zT_ge rfl zk_26 c_
      refine lv_iload_n hx hb dX5_worth_40 rfl (lv_at hl 1 rfl) ?_
      refine W.widen (k := 0) (n := 0) (by decide) (by decide) ?_
      have hpost : (0 ≤ (u4_ 0).toInt ∧ (u4_ 0).toInt ≤ 4914) ∧ ((u4_ 0).toInt = (zwq f1 832 : Int)) := ⟨(by first | with_reducible assumption | exact ⟨by omega, by omega⟩), by exact zWo_e hI4_1 (by omega) (by omega)⟩
      have hP9 : va_P (dC, dI) vwCl [(h0, .inr (5, mX5 h1)), (h1, zi k1 26 f1)] H := hP
      have hD9 : va_D A [(h0, .inr (5, mX5 h1)), (h1, zi k1 26 f1)] := hD
      exact W.iret (v := (u4_ 0)) hx hb hr (fun t ht hW => ⟨⟨(u4_ 0), (fun _ => 0), rfl, hpost, (fun _ => 0), (fun _ => (fun _ => 0)), (fun _ => (fun _ => 0)), by rw [ht]; exact hP9, va_K.moved hW.alike hK, hD9⟩, hS.F ht⟩) hS.2.2 dX5_worth_41
    · skip
      have b_ := zF_ge rfl zk_26 c_
      refine lv_iload_n hx hb dX5_worth_10 rfl (lv_at hl 1 rfl) ?_
      refine lv_aload_n hx hb dX5_worth_11 rfl (lv_at hl 0 rfl) ?_
      refine va_get (D := (dC, dI)) (ci := 5) (v := .ref h1) (C := RX5) (T := TX5) (N := 1) hx hb hG zuX5 hown hK hP 0 rfl rfl 0 (by decide) (hG _ zv458) (fun _ h9 => h9) rfl dX5_worth_12 ?_
      refine lv_iload_n hx hb dX5_worth_15 rfl (lv_at hl 2 rfl) ?_
      refine va_iald hx hb hK hP 1 0 rfl rfl (zin_lit ⟨by omega, by omega⟩) dX5_worth_16 ?_
      refine lv_topi (fun z16 e_z16 => ?_)
      have hPc := hP.sub (ws' := []) [] rfl
      have hDc := hD.sub (ws' := []) [] (by decide) rfl
      have hKc := hK.sub (tys' := []) [] rfl
      have hFc := va_free (wc := []) hD hS hA [] rfl
      refine va_calli (va_runS (As := [.int z16]) (rest := [.int (u4_ 0)]) ⟨hx, hb, hml, hown, hG⟩ (sJ6_bitCount_0f7a4_0 l dC dI adK adV H.size z16) (va_cwS 1 hG (zgS zv1292 zv1293 zv151 zv1294) rfl rfl rfl (by decide +kernel) ⟨Nat.le_of_ble_eq_true rfl, Nat.le_of_ble_eq_true rfl⟩) ⟨zPc_blind, zPc_pre hPc hKc hDc hE hS hFc hZ⟩ rfl rfl hl.1 rfl (lv_room (Nat.le_of_ble_eq_true rfl)) dX5_worth_17 ⟨Nat.le_of_ble_eq_true rfl, Nat.le_of_ble_eq_true rfl⟩) hS (fun q _ h => hFc q h) hFc (fun r17_ u17_ t H1 locs ht hvm hw hB hz1 hk1 hS => ?_)
      replace hw : (0 ≤ r17_.toInt ∧ r17_.toInt ≤ 63) ∧ (r17_.toInt = (zbcx (z16 : Int32) : Int)) := hw
      obtain ⟨b_, hX17_0⟩ := hw
      obtain ⟨w17_, a17_, b17_, hP1, hK1, hD1⟩ := hB
      rw [ht] at hP1
      obtain ⟨hP, hD⟩ := va_join (wr := [(h0, .inr (5, mX5 h1)), (h1, zi k1 26 f1)]) (w1 := []) hP hD [] [0, 1] rfl rfl (by decide) (by decide) hk1 hFc hP1 hD1
      have hP : va_P (dC, dI) vwCl [(h0, .inr (5, mX5 h1)), (h1, zi k1 26 f1)] H1 := hP.sub [0, 1] rfl
      have hD : va_D A [(h0, .inr (5, mX5 h1)), (h1, zi k1 26 f1)] := hD.sub [0, 1] (by decide) rfl
      generalize H1 = H at hP hS ⊢
      clear hz1
      refine lv_iload_n hx hb dX5_worth_20 rfl (lv_at hl 2 rfl) ?_
      refine lv_bipush (v := 16) hx hb dX5_worth_21 (by decide) ?_
      refine lv_icmp_ge (tgt := 30) hx hb dX5_worth_23 (by decide) (fun c_ => ?_) (fun c_ => ?_)
      · skip
        have b_ := zT_ge rfl zk_16 c_
        refine lv_iconst (v := 1) hx hb dX5_worth_30 (by decide) ?_
        refine lv_imul hx hb dX5_worth_31 ?_
        refine lv_topi (fun z31 e_z31 => ?_)
        have b_ := zmul rfl zk_1 e_z31 (by omega) (by omega)
        refine lv_iadd hx hb dX5_worth_32 ?_
        refine lv_topi (fun z32 e_z32 => ?_)
        have b_ := zadd rfl rfl e_z32 (by omega) (by omega)
        refine lv_istore_n (lv' := [(1, .int z32), (0, .ref h0), (2, .int (u4_ 1))]) hx hb dX5_worth_33 rfl hl (by decide) rfl (fun ls hl => ?_)
        obtain ⟨z34, e_z34⟩ : ∃ z : Int32, z = (u4_ 1) + Int32.ofInt 1 := ⟨_, rfl⟩
        have b_ := zadd (x := (u4_ 1)) (y := Int32.ofInt 1) rfl (show (Int32.ofInt 1).toInt = 1 from by decide) e_z34 (by omega) (by omega)
        refine lv_iinc (v := z34) (lv' := [(2, .int z34), (1, .int z32), (0, .ref h0)]) hx hb dX5_worth_34 hl (k := 2) rfl e_z34.symm (by decide) rfl (fun ls hl => ?_)
        refine lv_goto (tgt := 4) hx hb dX5_worth_37 (by decide) ?_
        have hc : va_P (dC, dI) vwCl [(h0, .inr (5, mX5 h1)), (h1, zi k1 26 f1)] H ∧ va_D A [(h0, .inr (5, mX5 h1)), (h1, zi k1 26 f1)] ∧ va_S A s.heap H locs ∧ lv_has ls 3 [(0, .ref h0), (1, .int z32), (2, .int z34)] ∧ (0 ≤ z32.toInt ∧ z32.toInt ≤ 4914) ∧ (0 ≤ z34.toInt ∧ z34.toInt ≤ 26) ∧ (z32.toInt ≤ 189 * z34.toInt) ∧ (zWo f1 z32.toInt z34.toInt) := ⟨hP, hD, hS, lv_sub hl [2, 1, 0] rfl, (by first | with_reducible assumption | exact ⟨by omega, by omega⟩), (by first | with_reducible assumption | exact ⟨by omega, by omega⟩), by omega, by first | exact zWo_s (c := 1) hI4_1 (by omega) e_z16 hX17_0 (Or.inr ⟨by omega, rfl⟩) (by omega) (by omega) | exact zWo_s (c := 3) hI4_1 (by omega) e_z16 hX17_0 (Or.inl ⟨by omega, rfl⟩) (by omega) (by omega) | exact zWo_0 (by decide) (by decide)⟩
        exact hJ4 H locs ls (fun i => ([z32, z34] : List (Int32)).getD i 0) (fun _ => 0) (fun _ => (fun _ => 0)) (fun _ => (fun _ => 0)) hc (show (26 - z34.toInt).toNat < (26 - (u4_ 1).toInt).toNat from by omega)
      · skip
        have b_ := zF_ge rfl zk_16 c_
        refine lv_iconst (v := 3) hx hb dX5_worth_26 (by decide) ?_
        refine lv_goto (tgt := 31) hx hb dX5_worth_27 (by decide) ?_
        refine lv_imul hx hb dX5_worth_31 ?_
        refine lv_topi (fun z31 e_z31 => ?_)
        have b_ := zmul rfl zk_3 e_z31 (by omega) (by omega)
        refine lv_iadd hx hb dX5_worth_32 ?_
        refine lv_topi (fun z32 e_z32 => ?_)
        have b_ := zadd rfl rfl e_z32 (by omega) (by omega)
        refine lv_istore_n (lv' := [(1, .int z32), (0, .ref h0), (2, .int (u4_ 1))]) hx hb dX5_worth_33 rfl hl (by decide) rfl (fun ls hl => ?_)
        obtain ⟨z34, e_z34⟩ : ∃ z : Int32, z = (u4_ 1) + Int32.ofInt 1 := ⟨_, rfl⟩
        have b_ := zadd (x := (u4_ 1)) (y := Int32.ofInt 1) rfl (show (Int32.ofInt 1).toInt = 1 from by decide) e_z34 (by omega) (by omega)
        refine lv_iinc (v := z34) (lv' := [(2, .int z34), (1, .int z32), (0, .ref h0)]) hx hb dX5_worth_34 hl (k := 2) rfl e_z34.symm (by decide) rfl (fun ls hl => ?_)
        refine lv_goto (tgt := 4) hx hb dX5_worth_37 (by decide) ?_
        have hc : va_P (dC, dI) vwCl [(h0, .inr (5, mX5 h1)), (h1, zi k1 26 f1)] H ∧ va_D A [(h0, .inr (5, mX5 h1)), (h1, zi k1 26 f1)] ∧ va_S A s.heap H locs ∧ lv_has ls 3 [(0, .ref h0), (1, .int z32), (2, .int z34)] ∧ (0 ≤ z32.toInt ∧ z32.toInt ≤ 4914) ∧ (0 ≤ z34.toInt ∧ z34.toInt ≤ 26) ∧ (z32.toInt ≤ 189 * z34.toInt) ∧ (zWo f1 z32.toInt z34.toInt) := ⟨hP, hD, hS, lv_sub hl [2, 1, 0] rfl, (by first | with_reducible assumption | exact ⟨by omega, by omega⟩), (by first | with_reducible assumption | exact ⟨by omega, by omega⟩), by omega, by first | exact zWo_s (c := 1) hI4_1 (by omega) e_z16 hX17_0 (Or.inr ⟨by omega, rfl⟩) (by omega) (by omega) | exact zWo_s (c := 3) hI4_1 (by omega) e_z16 hX17_0 (Or.inl ⟨by omega, rfl⟩) (by omega) (by omega) | exact zWo_0 (by decide) (by decide)⟩
        exact hJ4 H locs ls (fun i => ([z32, z34] : List (Int32)).getD i 0) (fun _ => 0) (fun _ => (fun _ => 0)) (fun _ => (fun _ => 0)) hc (show (26 - z34.toInt).toNat < (26 - (u4_ 1).toInt).toNat from by omega)
  · skip
    have hc : va_P (dC, dI) vwCl [(h0, .inr (5, mX5 h1)), (h1, zi k1 26 f1)] s.heap ∧ va_D A [(h0, .inr (5, mX5 h1)), (h1, zi k1 26 f1)] ∧ va_S A s.heap s.heap [] ∧ lv_has ls 3 [(0, .ref h0), (1, .int 0), (2, .int 0)] ∧ (0 ≤ (0 : Int32).toInt ∧ (0 : Int32).toInt ≤ 4914) ∧ (0 ≤ (0 : Int32).toInt ∧ (0 : Int32).toInt ≤ 26) ∧ ((0 : Int32).toInt ≤ 189 * (0 : Int32).toInt) ∧ (zWo f1 (0 : Int32).toInt (0 : Int32).toInt) := ⟨hP, hD, hS, lv_sub hl [2, 1, 0] rfl, (by first | with_reducible assumption | exact ⟨by omega, by omega⟩), (by first | with_reducible assumption | exact ⟨by omega, by omega⟩), by omega, by first | exact zWo_s (c := 1) hI4_1 (by omega) e_z16 hX17_0 (Or.inr ⟨by omega, rfl⟩) (by omega) (by omega) | exact zWo_s (c := 3) hI4_1 (by omega) e_z16 hX17_0 (Or.inl ⟨by omega, rfl⟩) (by omega) (by omega) | exact zWo_0 (by decide) (by decide)⟩
    exact hJ4 s.heap [] ls (fun i => ([0, 0] : List (Int32)).getD i 0) (fun _ => 0) (fun _ => (fun _ => 0)) (fun _ => (fun _ => 0)) hc
set_option maxHeartbeats 8000000 in
set_option maxRecDepth 100000 in
theorem sX1_matchPlaces_0 (l : Launch) (dC : Nat → ClassId) (dI : Nat → Nat → Nat) (adK adV : Nat → Nat) (h0 : Nat) (h36 : Nat) (h48 : Nat) (h41 : Nat) (h21 : Nat) (h13 : Nat) (h17 : Nat) (h14 : Nat) (h15 : Nat) (h16 : Nat) (h35 : Nat) (h34 : Nat) (h19 : Nat) (h39 : Nat) (h31 : Nat) (h1 : Nat) (h6 : Nat) (h37 : Nat) (h40 : Nat) (h42 : Nat) (h43 : Nat) (h44 : Nat) (h45 : Nat) (h46 : Nat) (h47 : Nat) (h22 : Nat) (h32 : Nat) (h33 : Nat) (h18 : Nat) (h20 : Nat) (k36 : ClassId) (n48 : Nat) (k41 : ClassId) (k17 : ClassId) (k14 : ClassId) (k15 : ClassId) (k16 : ClassId) (k35 : ClassId) (k34 : ClassId) (k19 : ClassId) (k39 : ClassId) (k31 : ClassId) (pl0 : va_W) (sz : Nat) (v0 : Nat → Int32) (f36 : Nat → Option Nat) (f48 : Nat → Int32) (f41 : Nat → Int32) (v21 : Nat → Int32) (v13 : Nat → Int32) (f17 : Nat → Int32) (f14 : Nat → Int32) (f15 : Nat → Int32) (f16 : Nat → Int32) (f35 : Nat → Int32) (f34 : Nat → Int32) (f19 : Nat → Int32) (f39 : Nat → Int32) (f31 : Nat → Option Nat) (x1 : Int32) (x2 : Int32) (hv0 : zR rg_Finder v0) (hf48 : zA 0 4914 f48) (hn48 : n48 ≤ 4800) (hv21 : zR rg_Page v21) (hv13 : zR rg_Query v13) (hf35 : zA 0 831 f35) (hx1 : 0 ≤ x1.toInt ∧ x1.toInt ≤ 39) (hx2 : 0 ≤ x2.toInt ∧ x2.toInt ≤ 119) (hp0_ : zRd h22 f31 pl0) (hp1_ : zPs k41 f36 pl0) : Met l yX1_matchPlaces (zw yX1_matchPlaces cX1_matchPlaces 5 none) { frames := 4, cells := 0, slots := 0, locals := 96 } (zPc dC dI adK adV [.ref h0, .int x1, .int x2] sz ([(h0, .inr (1, mX1 h1 h6 h13 h21 h36 h37 h39 h40 h41 h42 h43 h44 h45 h46 h47 h48 v0)), (h36, .inl (k36, 40, .inr (.inr (.inr (.inr f36))))), (h48, zi k41 n48 f48), (h41, zi k41 40 f41), (h21, .inr (3, mX3 h6 h22 h13 h31 h32 h33 h34 h35 v21)), (h13, .inr (7, mX7 h14 h15 h16 h17 h18 h19 h20 v13)), (h17, zi k17 40 f17), (h14, zi k14 40 f14), (h15, zi k15 40 f15), (h16, zi k16 40 f16), (h35, zi k35 300 f35), (h34, zi k34 832 f34), (h19, zi k19 160 f19), (h39, zi k39 40 f39), (h31, .inl (k31, 400, .inr (.inr (.inr (.inr f31)))))] ++ pl0) [(k36, .object RX5), (k41, .int), (k41, .int), (k17, .int), (k14, .int), (k15, .int), (k16, .int), (k35, .int), (k34, .int), (k19, .int), (k39, .boolean), (k31, .object RX8)]) (va_Qv (fun (u : Nat → Int32) => True) (fun (u : Nat → Int32) (t : State) => ∃ (ww : Nat → Int64) (aa : Nat → Nat → Int32) (bb : Nat → Nat → Int64) (qq : Nat → Nat → Option Nat) (pl1 : va_W), zA 0 4914 (aa 0) ∧ (zRd h22 f31 pl1) ∧ (zPs k41 f36 pl1) ∧ (zOt pl0 pl1) ∧ (zMp h22 k41 f36 pl0 pl1 f34 f35 f14 f15 f16 f19 f17 (v13 8).toInt (v21 9).toInt ((x1 : Int32)).toNatClampNeg (120 * x1.toInt + x2.toInt) ((n48 : Nat) : Int) f39 (aa 2) f48 (aa 0) f41 (aa 1)) ∧ va_P (dC, dI) vwCl ([(h0, .inr (1, mX1 h1 h6 h13 h21 h36 h37 h39 h40 h41 h42 h43 h44 h45 h46 h47 h48 v0)), (h36, .inl (k36, 40, .inr (.inr (.inr (.inr f36))))), (h48, zi k41 n48 (aa 0)), (h41, zi k41 40 (aa 1)), (h21, .inr (3, mX3 h6 h22 h13 h31 h32 h33 h34 h35 v21)), (h13, .inr (7, mX7 h14 h15 h16 h17 h18 h19 h20 v13)), (h17, zi k17 40 f17), (h14, zi k14 40 f14), (h15, zi k15 40 f15), (h16, zi k16 40 f16), (h35, zi k35 300 f35), (h34, zi k34 832 f34), (h19, zi k19 160 f19), (h39, zi k39 40 (aa 2)), (h31, .inl (k31, 400, .inr (.inr (.inr (.inr f31)))))] ++ pl1) t.heap ∧ va_K (dC, dI) vwCl [(k36, .object RX5), (k41, .int), (k41, .int), (k17, .int), (k14, .int), (k15, .int), (k16, .int), (k35, .int), (k34, .int), (k19, .int), (k39, .boolean), (k31, .object RX8)] t ∧ va_D (va_A ([(h0, .inr (1, mX1 h1 h6 h13 h21 h36 h37 h39 h40 h41 h42 h43 h44 h45 h46 h47 h48 v0)), (h36, .inl (k36, 40, .inr (.inr (.inr (.inr f36))))), (h48, zi k41 n48 f48), (h41, zi k41 40 f41), (h21, .inr (3, mX3 h6 h22 h13 h31 h32 h33 h34 h35 v21)), (h13, .inr (7, mX7 h14 h15 h16 h17 h18 h19 h20 v13)), (h17, zi k17 40 f17), (h14, zi k14 40 f14), (h15, zi k15 40 f15), (h16, zi k16 40 f16), (h35, zi k35 300 f35), (h34, zi k34 832 f34), (h19, zi k19 160 f19), (h39, zi k39 40 f39), (h31, .inl (k31, 400, .inr (.inr (.inr (.inr f31)))))] ++ pl0) sz) ([(h0, .inr (1, mX1 h1 h6 h13 h21 h36 h37 h39 h40 h41 h42 h43 h44 h45 h46 h47 h48 v0)), (h36, .inl (k36, 40, .inr (.inr (.inr (.inr f36))))), (h48, zi k41 n48 (aa 0)), (h41, zi k41 40 (aa 1)), (h21, .inr (3, mX3 h6 h22 h13 h31 h32 h33 h34 h35 v21)), (h13, .inr (7, mX7 h14 h15 h16 h17 h18 h19 h20 v13)), (h17, zi k17 40 f17), (h14, zi k14 40 f14), (h15, zi k15 40 f15), (h16, zi k16 40 f16), (h35, zi k35 300 f35), (h34, zi k34 832 f34), (h19, zi k19 160 f19), (h39, zi k39 40 (aa 2)), (h31, .inl (k31, 400, .inr (.inr (.inr (.inr f31)))))] ++ pl1)) (va_A ([(h0, .inr (1, mX1 h1 h6 h13 h21 h36 h37 h39 h40 h41 h42 h43 h44 h45 h46 h47 h48 v0)), (h36, .inl (k36, 40, .inr (.inr (.inr (.inr f36))))), (h48, zi k41 n48 f48), (h41, zi k41 40 f41), (h21, .inr (3, mX3 h6 h22 h13 h31 h32 h33 h34 h35 v21)), (h13, .inr (7, mX7 h14 h15 h16 h17 h18 h19 h20 v13)), (h17, zi k17 40 f17), (h14, zi k14 40 f14), (h15, zi k15 40 f15), (h16, zi k16 40 f16), (h35, zi k35 300 f35), (h34, zi k34 832 f34), (h19, zi k19 160 f19), (h39, zi k39 40 f39), (h31, .inl (k31, 400, .inr (.inr (.inr (.inr f31)))))] ++ pl0) sz)) 0 0 (va_A ([(h0, .inr (1, mX1 h1 h6 h13 h21 h36 h37 h39 h40 h41 h42 h43 h44 h45 h46 h47 h48 v0)), (h36, .inl (k36, 40, .inr (.inr (.inr (.inr f36))))), (h48, zi k41 n48 f48), (h41, zi k41 40 f41), (h21, .inr (3, mX3 h6 h22 h13 h31 h32 h33 h34 h35 v21)), (h13, .inr (7, mX7 h14 h15 h16 h17 h18 h19 h20 v13)), (h17, zi k17 40 f17), (h14, zi k14 40 f14), (h15, zi k15 40 f15), (h16, zi k16 40 f16), (h35, zi k35 300 f35), (h34, zi k34 832 f34), (h19, zi k19 160 f19), (h39, zi k39 40 f39), (h31, .inl (k31, 400, .inr (.inr (.inr (.inr f31)))))] ++ pl0) sz) := by
  refine Met.ofW (cc := cX1_matchPlaces) (maxL := 5) (ret := none) (by decide) rfl ?_
  intro p e s m args below meth c s₁ B hml hv
  obtain ⟨rfl, hsz, hP, hK, hD0, hE, hZ⟩ := hv
  have hx := B.exec
  have hb := B.bytes
  have hr := B.returns
  have hG : ∀ w ∈ zG, w.before _ s = true := fun w h => atoms_spec (ws := (zw yX1_matchPlaces cX1_matchPlaces 5 none)) B.pre w (List.mem_cons_of_mem _ h)
  have hown : s.vm.findClass RX1 = some m.cls := findClass_of_methodNamed B.named
  have hlocks := B.notSynchronized

  subst hsz
  have hD := hD0.self (sz := s.heap.size)
  generalize hAe : va_A ([(h0, .inr (1, mX1 h1 h6 h13 h21 h36 h37 h39 h40 h41 h42 h43 h44 h45 h46 h47 h48 v0)), (h36, .inl (k36, 40, .inr (.inr (.inr (.inr f36))))), (h48, zi k41 n48 f48), (h41, zi k41 40 f41), (h21, .inr (3, mX3 h6 h22 h13 h31 h32 h33 h34 h35 v21)), (h13, .inr (7, mX7 h14 h15 h16 h17 h18 h19 h20 v13)), (h17, zi k17 40 f17), (h14, zi k14 40 f14), (h15, zi k15 40 f15), (h16, zi k16 40 f16), (h35, zi k35 300 f35), (h34, zi k34 832 f34), (h19, zi k19 160 f19), (h39, zi k39 40 f39), (h31, .inl (k31, 400, .inr (.inr (.inr (.inr f31)))))] ++ pl0) s.heap.size = A at hD hZ ⊢
  have hA : ∀ q : Nat, s.heap.size ≤ q → A q := fun q h => by rw [← hAe]; exact Or.inr h
  have hS : va_S A s.heap s.heap [] := va_S.rf
  have hl := lv_entry ([.ref h0, .int x1, .int x2]) (n := 5) (Nat.le_of_ble_eq_true rfl)
  rw [lg_entry_eq]
  generalize (lg_sl ([.ref h0, .int x1, .int x2]) ++ List.replicate (5 - (lg_sl ([.ref h0, .int x1, .int x2])).length) Slot.unset).toArray = ls at hl ⊢
  have hl : lv_has ls 5 [(0, .ref h0), (1, .int x1), (2, .int x2)] := hl
  refine lv_aload_n hx hb dX1_matchPlaces_0 rfl (lv_at hl 0 rfl) ?_
  refine va_get (D := (dC, dI)) (ci := 1) (v := .ref h36) (C := RX1) (T := TX1) (N := 17) hx hb hG zuX1 hown hK hP 0 rfl rfl 4 (by decide) (hG _ zv508) (fun _ h9 => h9) rfl dX1_matchPlaces_1 ?_
  refine lv_iload_n hx hb dX1_matchPlaces_4 rfl (lv_at hl 1 rfl) ?_
  refine va_aldq hx hb hK hP 1 0 rfl rfl (zin_lit ⟨by omega, by omega⟩) dX1_matchPlaces_5 ?_
  refine lv_topq (fun o5 e_o5 => ?_)
  rcases o5 with _ | a5_
  · skip
    refine W.eq (g2 := F0 m 6 ls [.null]) rfl ?_
    refine lv_astore_nN (lv' := [(3, .null), (0, .ref h0), (1, .int x1), (2, .int x2)]) hx hb dX1_matchPlaces_6 rfl hl (by decide) rfl (fun ls hl => ?_)
    refine lv_iload_n hx hb dX1_matchPlaces_7 rfl (lv_at hl 2 rfl) ?_
    refine lv_bipush (v := 120) hx hb dX1_matchPlaces_8 (by decide) ?_
    refine lv_imul hx hb dX1_matchPlaces_10 ?_
    refine lv_topi (fun z10 e_z10 => ?_)
    have b_ := zmul rfl zk_120 e_z10 (by omega) (by omega)
    refine lv_iload_n hx hb dX1_matchPlaces_11 rfl (lv_at hl 3 rfl) ?_
    refine lv_iadd hx hb dX1_matchPlaces_12 ?_
    refine lv_topi (fun z12 e_z12 => ?_)
    have b_ := zadd rfl rfl e_z12 (by omega) (by omega)
    refine lv_istore (lv' := [(4, .int z12), (3, .null), (0, .ref h0), (1, .int x1), (2, .int x2)]) hx hb dX1_matchPlaces_13 hl (by decide) rfl (fun ls hl => ?_)
    refine lv_aload_nN hx hb dX1_matchPlaces_15 rfl (lv_at hl 1 rfl) ?_
    refine lv_ifnullN (tgt := 29) hx hb dX1_matchPlaces_16 (by decide) ?_
    refine W.widen (k := 0) (n := 0) (by decide) (by decide) ?_
    have hpost : True := trivial
    have hP9 : va_P (dC, dI) vwCl ([(h0, .inr (1, mX1 h1 h6 h13 h21 h36 h37 h39 h40 h41 h42 h43 h44 h45 h46 h47 h48 v0)), (h36, .inl (k36, 40, .inr (.inr (.inr (.inr f36))))), (h48, zi k41 n48 f48), (h41, zi k41 40 f41), (h21, .inr (3, mX3 h6 h22 h13 h31 h32 h33 h34 h35 v21)), (h13, .inr (7, mX7 h14 h15 h16 h17 h18 h19 h20 v13)), (h17, zi k17 40 f17), (h14, zi k14 40 f14), (h15, zi k15 40 f15), (h16, zi k16 40 f16), (h35, zi k35 300 f35), (h34, zi k34 832 f34), (h19, zi k19 160 f19), (h39, zi k39 40 f39), (h31, .inl (k31, 400, .inr (.inr (.inr (.inr f31)))))] ++ pl0) s.heap := hP
    have hD9 : va_D A ([(h0, .inr (1, mX1 h1 h6 h13 h21 h36 h37 h39 h40 h41 h42 h43 h44 h45 h46 h47 h48 v0)), (h36, .inl (k36, 40, .inr (.inr (.inr (.inr f36))))), (h48, zi k41 n48 f48), (h41, zi k41 40 f41), (h21, .inr (3, mX3 h6 h22 h13 h31 h32 h33 h34 h35 v21)), (h13, .inr (7, mX7 h14 h15 h16 h17 h18 h19 h20 v13)), (h17, zi k17 40 f17), (h14, zi k14 40 f14), (h15, zi k15 40 f15), (h16, zi k16 40 f16), (h35, zi k35 300 f35), (h34, zi k34 832 f34), (h19, zi k19 160 f19), (h39, zi k39 40 f39), (h31, .inl (k31, 400, .inr (.inr (.inr (.inr f31)))))] ++ pl0) := hD
    have hB0 : zRd h22 f31 pl0 := by assumption
    have hB1 : zPs k41 f36 pl0 := by assumption
    have hB2 : zOt pl0 pl0 := by first | assumption | exact zOt_rf
    have hB3 : zMp h22 k41 f36 pl0 pl0 f34 f35 f14 f15 f16 f19 f17 (v13 8).toInt (v21 9).toInt ((x1 : Int32)).toNatClampNeg (120 * x1.toInt + x2.toInt) ((n48 : Nat) : Int) f39 f39 f48 f48 f41 f41 := by first | exact zMp_n (Or.inl e_o5.symm) | exact zMp_n (Or.inr (by omega)) | exact False.elim (by omega) | exact zMp_i hzp5 e_pl5 hD0_ e_plx_ e_o5.symm hB36_0 (by omega) hX46_0 e_f_49 e_f_70 (Or.inl ⟨by decide, by omega⟩) e_f_93 e_z77 (fun q1_ q2_ => (zadd rfl zk_1 e_z92 (by omega) (by omega)).trans (congrArg (fun y_ : Int => z77.toInt + y_) (by decide))) | exact zMp_i hzp5 e_pl5 hD0_ e_plx_ e_o5.symm hB36_0 (by omega) hX46_0 e_f_49 e_f_70 (Or.inr ⟨by decide, by omega⟩) e_f_93 e_z77 (fun q1_ q2_ => (zadd rfl zk_0 e_z92 (by omega) (by omega)).trans (congrArg (fun y_ : Int => z77.toInt + y_) (by decide)))
    exact W.vret hx hb hr (fun t ht hW => ⟨⟨(fun _ => 0), rfl, hpost, (fun _ => 0), (fun i => ([f48, f41, f39] : List (Nat → Int32)).getD i (fun _ => 0)), (fun _ => (fun _ => 0)), (fun _ => (fun _ => none)), pl0, hf48, hB0, hB1, hB2, hB3, by rw [ht]; exact hP9, va_K.moved hW.alike hK, hD9⟩, hS.F ht⟩) hS.2.2 dX1_matchPlaces_29
  · skip
    refine W.eq (g2 := F0 m 6 ls [.ref a5_]) rfl ?_
    have hnn_ : f36 (x1 : Int32).toNatClampNeg ≠ none := fun h => by rw [h] at e_o5; cases e_o5
    refine lv_astore_n (lv' := [(3, .ref a5_), (0, .ref h0), (1, .int x1), (2, .int x2)]) hx hb dX1_matchPlaces_6 rfl hl (by decide) rfl (fun ls hl => ?_)
    refine lv_iload_n hx hb dX1_matchPlaces_7 rfl (lv_at hl 2 rfl) ?_
    refine lv_bipush (v := 120) hx hb dX1_matchPlaces_8 (by decide) ?_
    refine lv_imul hx hb dX1_matchPlaces_10 ?_
    refine lv_topi (fun z10 e_z10 => ?_)
    have b_ := zmul rfl zk_120 e_z10 (by omega) (by omega)
    refine lv_iload_n hx hb dX1_matchPlaces_11 rfl (lv_at hl 3 rfl) ?_
    refine lv_iadd hx hb dX1_matchPlaces_12 ?_
    refine lv_topi (fun z12 e_z12 => ?_)
    have b_ := zadd rfl rfl e_z12 (by omega) (by omega)
    refine lv_istore (lv' := [(4, .int z12), (3, .ref a5_), (0, .ref h0), (1, .int x1), (2, .int x2)]) hx hb dX1_matchPlaces_13 hl (by decide) rfl (fun ls hl => ?_)
    refine lv_aload_n hx hb dX1_matchPlaces_15 rfl (lv_at hl 1 rfl) ?_
    refine lv_ifnull hx hb dX1_matchPlaces_16 ?_
    refine lv_iload hx hb dX1_matchPlaces_19 (lv_at hl 0 rfl) ?_
    refine lv_aload_n hx hb dX1_matchPlaces_21 rfl (lv_at hl 2 rfl) ?_
    refine va_get (D := (dC, dI)) (ci := 1) (v := .ref h48) (C := RX1) (T := TX1) (N := 17) hx hb hG zuX1 hown hK hP 0 rfl rfl 15 (by decide) (hG _ zv519) (fun _ h9 => h9) rfl dX1_matchPlaces_22 ?_
    refine va_alen (v := (Int32.ofNat n48)) hx hb hK hP 2 1 rfl rfl rfl dX1_matchPlaces_25 ?_
    have b_ := zofn hn48
    refine lv_icmp_lt (tgt := 30) hx hb dX1_matchPlaces_26 (by decide) (fun c_ => ?_) (fun c_ => ?_)
    · skip
      have b_ := zT_lt rfl rfl c_
      have hD0_ := hD
      refine lv_aload_n hx hb dX1_matchPlaces_30 rfl (lv_at hl 2 rfl) ?_
      refine va_get (D := (dC, dI)) (ci := 1) (v := .ref h21) (C := RX1) (T := TX1) (N := 17) hx hb hG zuX1 hown hK hP 0 rfl rfl 3 (by decide) (hG _ zv507) (fun _ h9 => h9) rfl dX1_matchPlaces_31 ?_
      refine lv_iload_n hx hb dX1_matchPlaces_34 rfl (lv_at hl 3 rfl) ?_
      refine lv_aload_n hx hb dX1_matchPlaces_35 rfl (lv_at hl 1 rfl) ?_
      obtain ⟨b5_, f5_, p5, e_pl5, hzp5⟩ := zPs_out (show zPs k41 f36 pl0 from by assumption) (zltc (by omega) (by omega)) e_o5.symm
      have hP : va_P (dC, dI) vwCl ([(h0, .inr (1, mX1 h1 h6 h13 h21 h36 h37 h39 h40 h41 h42 h43 h44 h45 h46 h47 h48 v0)), (h36, .inl (k36, 40, .inr (.inr (.inr (.inr f36))))), (h48, zi k41 n48 f48), (h41, zi k41 40 f41), (h21, .inr (3, mX3 h6 h22 h13 h31 h32 h33 h34 h35 v21)), (h13, .inr (7, mX7 h14 h15 h16 h17 h18 h19 h20 v13)), (h17, zi k17 40 f17), (h14, zi k14 40 f14), (h15, zi k15 40 f15), (h16, zi k16 40 f16), (h35, zi k35 300 f35), (h34, zi k34 832 f34), (h19, zi k19 160 f19), (h39, zi k39 40 f39), (h31, .inl (k31, 400, .inr (.inr (.inr (.inr f31))))), (a5_, .inr (5, mX5 b5_)), (b5_, zi k41 26 f5_)] ++ p5) s.heap := zfocPm e_pl5 hP
      have hD : va_D A ([(h0, .inr (1, mX1 h1 h6 h13 h21 h36 h37 h39 h40 h41 h42 h43 h44 h45 h46 h47 h48 v0)), (h36, .inl (k36, 40, .inr (.inr (.inr (.inr f36))))), (h48, zi k41 n48 f48), (h41, zi k41 40 f41), (h21, .inr (3, mX3 h6 h22 h13 h31 h32 h33 h34 h35 v21)), (h13, .inr (7, mX7 h14 h15 h16 h17 h18 h19 h20 v13)), (h17, zi k17 40 f17), (h14, zi k14 40 f14), (h15, zi k15 40 f15), (h16, zi k16 40 f16), (h35, zi k35 300 f35), (h34, zi k34 832 f34), (h19, zi k19 160 f19), (h39, zi k39 40 f39), (h31, .inl (k31, 400, .inr (.inr (.inr (.inr f31))))), (a5_, .inr (5, mX5 b5_)), (b5_, zi k41 26 f5_)] ++ p5) := zfocDm e_pl5 hD
      have hPc := hP.sub (ws' := [(a5_, .inr (5, mX5 b5_)), (b5_, zi k41 26 f5_), (h21, .inr (3, mX3 h6 h22 h13 h31 h32 h33 h34 h35 v21)), (h13, .inr (7, mX7 h14 h15 h16 h17 h18 h19 h20 v13)), (h17, zi k17 40 f17), (h14, zi k14 40 f14), (h15, zi k15 40 f15), (h16, zi k16 40 f16), (h35, zi k35 300 f35), (h34, zi k34 832 f34), (h19, zi k19 160 f19)]) [15, 16, 4, 5, 6, 7, 8, 9, 10, 11, 12] rfl
      have hDc := hD.sub (ws' := [(a5_, .inr (5, mX5 b5_)), (b5_, zi k41 26 f5_), (h21, .inr (3, mX3 h6 h22 h13 h31 h32 h33 h34 h35 v21)), (h13, .inr (7, mX7 h14 h15 h16 h17 h18 h19 h20 v13)), (h17, zi k17 40 f17), (h14, zi k14 40 f14), (h15, zi k15 40 f15), (h16, zi k16 40 f16), (h35, zi k35 300 f35), (h34, zi k34 832 f34), (h19, zi k19 160 f19)]) [15, 16, 4, 5, 6, 7, 8, 9, 10, 11, 12] (by decide) rfl
      have hKc := hK.sub (tys' := [(k41, .int), (k17, .int), (k14, .int), (k15, .int), (k16, .int), (k35, .int), (k34, .int), (k19, .int)]) [2, 3, 4, 5, 6, 7, 8, 9] rfl
      have hFc := va_free (wc := [(a5_, .inr (5, mX5 b5_)), (b5_, zi k41 26 f5_), (h21, .inr (3, mX3 h6 h22 h13 h31 h32 h33 h34 h35 v21)), (h13, .inr (7, mX7 h14 h15 h16 h17 h18 h19 h20 v13)), (h17, zi k17 40 f17), (h14, zi k14 40 f14), (h15, zi k15 40 f15), (h16, zi k16 40 f16), (h35, zi k35 300 f35), (h34, zi k34 832 f34), (h19, zi k19 160 f19)]) hD hS hA [15, 16, 4, 5, 6, 7, 8, 9, 10, 11, 12] rfl
      refine va_callv (va_runV (As := [.int x1, .ref a5_]) (rest := []) ⟨hx, hb, hml, hown, hG⟩ (sX3_gather_0 l dC dI adK adV a5_ b5_ h21 h13 h17 h14 h15 h16 h35 h34 h19 h6 h22 h31 h32 h33 h18 h20 k41 k17 k14 k15 k16 k35 k34 k19 s.heap.size f5_ v21 v13 f17 f14 f15 f16 f35 f34 f19 x1 hv21 hv13 hf35 (show (0 : Int) ≤ (x1 : Int32).toInt ∧ (x1 : Int32).toInt ≤ (39 : Int) from (by first | with_reducible assumption | exact ⟨by omega, by omega⟩))) (cwV 2 hG (zgV zv1247 zv1248 zv1249 zv140 zv1250) rfl rfl rfl (by decide +kernel) ⟨Nat.le_of_ble_eq_true rfl, Nat.le_of_ble_eq_true rfl⟩) ⟨zPc_blind, va_recv hKc hPc (ci := 3) (q0 := 2) rfl rfl, zPc_pre hPc hKc hDc hE hS hFc hZ⟩ rfl rfl hl.1 rfl (lv_room (Nat.le_of_ble_eq_true rfl)) dX1_matchPlaces_36 ⟨Nat.le_of_ble_eq_true rfl, Nat.le_of_ble_eq_true rfl⟩) hS (fun q _ h => hFc q h) hFc (fun u36_ t H1 locs ht hvm hw hB hz1 hk1 hS => ?_)
      obtain ⟨w36_, a36_, b36_, hB36_0, hP1, hK1, hD1⟩ := hB
      have hB36_0 : zGh f34 f35 f14 f15 f16 f19 f17 (v13 8).toInt (v21 9).toInt ((x1 : Int32)).toNatClampNeg (a36_ 0) := hB36_0
      rw [ht] at hP1
      obtain ⟨hP, hD⟩ := va_joinQ (wr := [(h0, .inr (1, mX1 h1 h6 h13 h21 h36 h37 h39 h40 h41 h42 h43 h44 h45 h46 h47 h48 v0)), (h36, .inl (k36, 40, .inr (.inr (.inr (.inr f36))))), (h48, zi k41 n48 f48), (h41, zi k41 40 f41), (h39, zi k39 40 f39), (h31, .inl (k31, 400, .inr (.inr (.inr (.inr f31)))))]) (w1 := [(a5_, .inr (5, mX5 b5_)), (b5_, zi k41 26 (a36_ 0)), (h21, .inr (3, mX3 h6 h22 h13 h31 h32 h33 h34 h35 v21)), (h13, .inr (7, mX7 h14 h15 h16 h17 h18 h19 h20 v13)), (h17, zi k17 40 f17), (h14, zi k14 40 f14), (h15, zi k15 40 f15), (h16, zi k16 40 f16), (h35, zi k35 300 f35), (h34, zi k34 832 f34), (h19, zi k19 160 f19)]) hP hD [15, 16, 4, 5, 6, 7, 8, 9, 10, 11, 12] [0, 1, 2, 3, 13, 14] rfl rfl (by decide) (by decide) hk1 hFc hP1 hD1
      have hP : va_P (dC, dI) vwCl ([(h0, .inr (1, mX1 h1 h6 h13 h21 h36 h37 h39 h40 h41 h42 h43 h44 h45 h46 h47 h48 v0)), (h36, .inl (k36, 40, .inr (.inr (.inr (.inr f36))))), (h48, zi k41 n48 f48), (h41, zi k41 40 f41), (h21, .inr (3, mX3 h6 h22 h13 h31 h32 h33 h34 h35 v21)), (h13, .inr (7, mX7 h14 h15 h16 h17 h18 h19 h20 v13)), (h17, zi k17 40 f17), (h14, zi k14 40 f14), (h15, zi k15 40 f15), (h16, zi k16 40 f16), (h35, zi k35 300 f35), (h34, zi k34 832 f34), (h19, zi k19 160 f19), (h39, zi k39 40 f39), (h31, .inl (k31, 400, .inr (.inr (.inr (.inr f31))))), (a5_, .inr (5, mX5 b5_)), (b5_, zi k41 26 (a36_ 0))] ++ p5) H1 := hP.part [0, 1, 2, 3, 8, 9, 10, 11, 12, 13, 14, 15, 16, 4, 5, 6, 7] rfl
      have hD : va_D A ([(h0, .inr (1, mX1 h1 h6 h13 h21 h36 h37 h39 h40 h41 h42 h43 h44 h45 h46 h47 h48 v0)), (h36, .inl (k36, 40, .inr (.inr (.inr (.inr f36))))), (h48, zi k41 n48 f48), (h41, zi k41 40 f41), (h21, .inr (3, mX3 h6 h22 h13 h31 h32 h33 h34 h35 v21)), (h13, .inr (7, mX7 h14 h15 h16 h17 h18 h19 h20 v13)), (h17, zi k17 40 f17), (h14, zi k14 40 f14), (h15, zi k15 40 f15), (h16, zi k16 40 f16), (h35, zi k35 300 f35), (h34, zi k34 832 f34), (h19, zi k19 160 f19), (h39, zi k39 40 f39), (h31, .inl (k31, 400, .inr (.inr (.inr (.inr f31))))), (a5_, .inr (5, mX5 b5_)), (b5_, zi k41 26 (a36_ 0))] ++ p5) := hD.part [0, 1, 2, 3, 8, 9, 10, 11, 12, 13, 14, 15, 16, 4, 5, 6, 7] (by decide) rfl
      generalize H1 = H at hP hS ⊢
      clear hz1
      refine lv_aload_n hx hb dX1_matchPlaces_39 rfl (lv_at hl 2 rfl) ?_
      refine va_get (D := (dC, dI)) (ci := 1) (v := .ref h48) (C := RX1) (T := TX1) (N := 17) hx hb hG zuX1 hown hK hP 0 rfl rfl 15 (by decide) (hG _ zv519) (fun _ h9 => h9) rfl dX1_matchPlaces_40 ?_
      refine lv_iload hx hb dX1_matchPlaces_43 (lv_at hl 0 rfl) ?_
      refine lv_aload_n hx hb dX1_matchPlaces_45 rfl (lv_at hl 1 rfl) ?_
      have hPc := hP.sub (ws' := [(a5_, .inr (5, mX5 b5_)), (b5_, zi k41 26 (a36_ 0))]) [15, 16] rfl
      have hDc := hD.sub (ws' := [(a5_, .inr (5, mX5 b5_)), (b5_, zi k41 26 (a36_ 0))]) [15, 16] (by decide) rfl
      have hKc := hK.sub (tys' := [(k41, .int)]) [2] rfl
      have hFc := va_free (wc := [(a5_, .inr (5, mX5 b5_)), (b5_, zi k41 26 (a36_ 0))]) hD hS hA [15, 16] rfl
      refine va_calli (va_runV (As := []) (rest := [.int z12, .ref h48]) ⟨hx, hb, hml, hown, hG⟩ (sX5_worth_0 l dC dI adK adV a5_ b5_ k41 H.size (a36_ 0)) (cwV 0 hG (zgV zv1288 zv1289 zv1290 zv139 zv1291) rfl rfl rfl (by decide +kernel) ⟨Nat.le_of_ble_eq_true rfl, Nat.le_of_ble_eq_true rfl⟩) ⟨zPc_blind, va_recv hKc hPc (ci := 5) (q0 := 0) rfl rfl, zPc_pre hPc hKc hDc hE hS hFc hZ⟩ rfl rfl hl.1 rfl (lv_room (Nat.le_of_ble_eq_true rfl)) dX1_matchPlaces_46 ⟨Nat.le_of_ble_eq_true rfl, Nat.le_of_ble_eq_true rfl⟩) hS (fun q _ h => hFc q h) hFc (fun r46_ u46_ t H1 locs ht hvm hw hB hz1 hk1 hS => ?_)
      replace hw : (0 ≤ r46_.toInt ∧ r46_.toInt ≤ 4914) ∧ (r46_.toInt = (zwq (a36_ 0) 832 : Int)) := hw
      obtain ⟨b_, hX46_0⟩ := hw
      obtain ⟨w46_, a46_, b46_, hP1, hK1, hD1⟩ := hB
      rw [ht] at hP1
      obtain ⟨hP, hD⟩ := va_joinQ (wr := [(h0, .inr (1, mX1 h1 h6 h13 h21 h36 h37 h39 h40 h41 h42 h43 h44 h45 h46 h47 h48 v0)), (h36, .inl (k36, 40, .inr (.inr (.inr (.inr f36))))), (h48, zi k41 n48 f48), (h41, zi k41 40 f41), (h21, .inr (3, mX3 h6 h22 h13 h31 h32 h33 h34 h35 v21)), (h13, .inr (7, mX7 h14 h15 h16 h17 h18 h19 h20 v13)), (h17, zi k17 40 f17), (h14, zi k14 40 f14), (h15, zi k15 40 f15), (h16, zi k16 40 f16), (h35, zi k35 300 f35), (h34, zi k34 832 f34), (h19, zi k19 160 f19), (h39, zi k39 40 f39), (h31, .inl (k31, 400, .inr (.inr (.inr (.inr f31)))))]) (w1 := [(a5_, .inr (5, mX5 b5_)), (b5_, zi k41 26 (a36_ 0))]) hP hD [15, 16] [0, 1, 2, 3, 4, 5, 6, 7, 8, 9, 10, 11, 12, 13, 14] rfl rfl (by decide) (by decide) hk1 hFc hP1 hD1
      have hP : va_P (dC, dI) vwCl ([(h0, .inr (1, mX1 h1 h6 h13 h21 h36 h37 h39 h40 h41 h42 h43 h44 h45 h46 h47 h48 v0)), (h36, .inl (k36, 40, .inr (.inr (.inr (.inr f36))))), (h48, zi k41 n48 f48), (h41, zi k41 40 f41), (h21, .inr (3, mX3 h6 h22 h13 h31 h32 h33 h34 h35 v21)), (h13, .inr (7, mX7 h14 h15 h16 h17 h18 h19 h20 v13)), (h17, zi k17 40 f17), (h14, zi k14 40 f14), (h15, zi k15 40 f15), (h16, zi k16 40 f16), (h35, zi k35 300 f35), (h34, zi k34 832 f34), (h19, zi k19 160 f19), (h39, zi k39 40 f39), (h31, .inl (k31, 400, .inr (.inr (.inr (.inr f31))))), (a5_, .inr (5, mX5 b5_)), (b5_, zi k41 26 (a36_ 0))] ++ p5) H1 := hP.part [0, 1, 2, 3, 4, 5, 6, 7, 8, 9, 10, 11, 12, 13, 14, 15, 16] rfl
      have hD : va_D A ([(h0, .inr (1, mX1 h1 h6 h13 h21 h36 h37 h39 h40 h41 h42 h43 h44 h45 h46 h47 h48 v0)), (h36, .inl (k36, 40, .inr (.inr (.inr (.inr f36))))), (h48, zi k41 n48 f48), (h41, zi k41 40 f41), (h21, .inr (3, mX3 h6 h22 h13 h31 h32 h33 h34 h35 v21)), (h13, .inr (7, mX7 h14 h15 h16 h17 h18 h19 h20 v13)), (h17, zi k17 40 f17), (h14, zi k14 40 f14), (h15, zi k15 40 f15), (h16, zi k16 40 f16), (h35, zi k35 300 f35), (h34, zi k34 832 f34), (h19, zi k19 160 f19), (h39, zi k39 40 f39), (h31, .inl (k31, 400, .inr (.inr (.inr (.inr f31))))), (a5_, .inr (5, mX5 b5_)), (b5_, zi k41 26 (a36_ 0))] ++ p5) := hD.part [0, 1, 2, 3, 4, 5, 6, 7, 8, 9, 10, 11, 12, 13, 14, 15, 16] (by decide) rfl
      generalize H1 = H at hP hS ⊢
      clear hz1
      refine va_iast hx hb hK hP hD hS 2 1 rfl rfl (zin_lit ⟨by omega, by omega⟩) dX1_matchPlaces_49 (fun H locs hP hD hS => ?_)
      obtain ⟨f_49, e_f_49⟩ : ∃ z : Nat → Int32, z = upd f48 (z12 : Int32).toNatClampNeg r46_ := ⟨_, rfl⟩
      have hP : va_P (dC, dI) vwCl ([(h0, .inr (1, mX1 h1 h6 h13 h21 h36 h37 h39 h40 h41 h42 h43 h44 h45 h46 h47 h48 v0)), (h36, .inl (k36, 40, .inr (.inr (.inr (.inr f36))))), (h48, zi k41 n48 f_49), (h41, zi k41 40 f41), (h21, .inr (3, mX3 h6 h22 h13 h31 h32 h33 h34 h35 v21)), (h13, .inr (7, mX7 h14 h15 h16 h17 h18 h19 h20 v13)), (h17, zi k17 40 f17), (h14, zi k14 40 f14), (h15, zi k15 40 f15), (h16, zi k16 40 f16), (h35, zi k35 300 f35), (h34, zi k34 832 f34), (h19, zi k19 160 f19), (h39, zi k39 40 f39), (h31, .inl (k31, 400, .inr (.inr (.inr (.inr f31))))), (a5_, .inr (5, mX5 b5_)), (b5_, zi k41 26 (a36_ 0))] ++ p5) H := by rw [e_f_49]; exact hP
      have hD : va_D A ([(h0, .inr (1, mX1 h1 h6 h13 h21 h36 h37 h39 h40 h41 h42 h43 h44 h45 h46 h47 h48 v0)), (h36, .inl (k36, 40, .inr (.inr (.inr (.inr f36))))), (h48, zi k41 n48 f_49), (h41, zi k41 40 f41), (h21, .inr (3, mX3 h6 h22 h13 h31 h32 h33 h34 h35 v21)), (h13, .inr (7, mX7 h14 h15 h16 h17 h18 h19 h20 v13)), (h17, zi k17 40 f17), (h14, zi k14 40 f14), (h15, zi k15 40 f15), (h16, zi k16 40 f16), (h35, zi k35 300 f35), (h34, zi k34 832 f34), (h19, zi k19 160 f19), (h39, zi k39 40 f39), (h31, .inl (k31, 400, .inr (.inr (.inr (.inr f31))))), (a5_, .inr (5, mX5 b5_)), (b5_, zi k41 26 (a36_ 0))] ++ p5) := by rw [e_f_49]; exact hD
      have hf_49 : zA 0 4914 f_49 := by rw [e_f_49]; exact zA_upd hf48 (show 0 ≤ (r46_ : Int32).toInt from by omega) (show (r46_ : Int32).toInt ≤ 4914 from by omega)
      refine lv_aload_n hx hb dX1_matchPlaces_50 rfl (lv_at hl 2 rfl) ?_
      refine va_get (D := (dC, dI)) (ci := 1) (v := .ref h39) (C := RX1) (T := TX1) (N := 17) hx hb hG zuX1 hown hK hP 0 rfl rfl 6 (by decide) (hG _ zv510) (fun _ h9 => h9) rfl dX1_matchPlaces_51 ?_
      refine lv_iload_n hx hb dX1_matchPlaces_54 rfl (lv_at hl 3 rfl) ?_
      refine lv_aload_n hx hb dX1_matchPlaces_55 rfl (lv_at hl 2 rfl) ?_
      refine va_get (D := (dC, dI)) (ci := 1) (v := .ref h48) (C := RX1) (T := TX1) (N := 17) hx hb hG zuX1 hown hK hP 0 rfl rfl 15 (by decide) (hG _ zv519) (fun _ h9 => h9) rfl dX1_matchPlaces_56 ?_
      refine lv_iload hx hb dX1_matchPlaces_59 (lv_at hl 0 rfl) ?_
      refine va_iald hx hb hK hP 2 1 rfl rfl (zin_lit ⟨by omega, by omega⟩) dX1_matchPlaces_61 ?_
      refine lv_topi (fun z61 e_z61 => ?_)
      have b_ : 0 ≤ z61.toInt ∧ z61.toInt ≤ 4914 := by rw [e_z61]; exact hf_49 _
      have b_ : z61.toInt = r46_.toInt := by rw [e_z61, e_f_49, pk_us]
      refine lv_if_le (tgt := 69) hx hb dX1_matchPlaces_62 (by decide) (fun c_ => ?_) (fun c_ => ?_)
      · skip
        have b_ := zT_le rfl zk_0 c_
        refine lv_iconst (v := 0) hx hb dX1_matchPlaces_69 (by decide) ?_
        refine va_zast hx hb hK hP hD hS 13 10 rfl rfl (zin_lit ⟨by omega, by omega⟩) dX1_matchPlaces_70 (fun H locs hP hD hS => ?_)
        obtain ⟨f_70, e_f_70⟩ : ∃ z : Nat → Int32, z = upd f39 (x1 : Int32).toNatClampNeg (vp_nar .boolean 0) := ⟨_, rfl⟩
        have hP : va_P (dC, dI) vwCl ([(h0, .inr (1, mX1 h1 h6 h13 h21 h36 h37 h39 h40 h41 h42 h43 h44 h45 h46 h47 h48 v0)), (h36, .inl (k36, 40, .inr (.inr (.inr (.inr f36))))), (h48, zi k41 n48 f_49), (h41, zi k41 40 f41), (h21, .inr (3, mX3 h6 h22 h13 h31 h32 h33 h34 h35 v21)), (h13, .inr (7, mX7 h14 h15 h16 h17 h18 h19 h20 v13)), (h17, zi k17 40 f17), (h14, zi k14 40 f14), (h15, zi k15 40 f15), (h16, zi k16 40 f16), (h35, zi k35 300 f35), (h34, zi k34 832 f34), (h19, zi k19 160 f19), (h39, zi k39 40 f_70), (h31, .inl (k31, 400, .inr (.inr (.inr (.inr f31))))), (a5_, .inr (5, mX5 b5_)), (b5_, zi k41 26 (a36_ 0))] ++ p5) H := by rw [e_f_70]; exact hP
        have hD : va_D A ([(h0, .inr (1, mX1 h1 h6 h13 h21 h36 h37 h39 h40 h41 h42 h43 h44 h45 h46 h47 h48 v0)), (h36, .inl (k36, 40, .inr (.inr (.inr (.inr f36))))), (h48, zi k41 n48 f_49), (h41, zi k41 40 f41), (h21, .inr (3, mX3 h6 h22 h13 h31 h32 h33 h34 h35 v21)), (h13, .inr (7, mX7 h14 h15 h16 h17 h18 h19 h20 v13)), (h17, zi k17 40 f17), (h14, zi k14 40 f14), (h15, zi k15 40 f15), (h16, zi k16 40 f16), (h35, zi k35 300 f35), (h34, zi k34 832 f34), (h19, zi k19 160 f19), (h39, zi k39 40 f_70), (h31, .inl (k31, 400, .inr (.inr (.inr (.inr f31))))), (a5_, .inr (5, mX5 b5_)), (b5_, zi k41 26 (a36_ 0))] ++ p5) := by rw [e_f_70]; exact hD
        refine lv_aload_n hx hb dX1_matchPlaces_71 rfl (lv_at hl 2 rfl) ?_
        refine va_get (D := (dC, dI)) (ci := 1) (v := .ref h41) (C := RX1) (T := TX1) (N := 17) hx hb hG zuX1 hown hK hP 0 rfl rfl 8 (by decide) (hG _ zv512) (fun _ h9 => h9) rfl dX1_matchPlaces_72 ?_
        refine lv_iload_n hx hb dX1_matchPlaces_75 rfl (lv_at hl 3 rfl) ?_
        refine lv_dup2_11 hx hb dX1_matchPlaces_76 rfl rfl ?_
        refine va_iald hx hb hK hP 3 2 rfl rfl (zin_lit ⟨by omega, by omega⟩) dX1_matchPlaces_77 ?_
        refine lv_topi (fun z77 e_z77 => ?_)
        refine lv_aload_n hx hb dX1_matchPlaces_78 rfl (lv_at hl 2 rfl) ?_
        refine va_get (D := (dC, dI)) (ci := 1) (v := .ref h39) (C := RX1) (T := TX1) (N := 17) hx hb hG zuX1 hown hK hP 0 rfl rfl 6 (by decide) (hG _ zv510) (fun _ h9 => h9) rfl dX1_matchPlaces_79 ?_
        refine lv_iload_n hx hb dX1_matchPlaces_82 rfl (lv_at hl 3 rfl) ?_
        refine va_zald hx hb hK hP 13 10 rfl rfl (zin_lit ⟨by omega, by omega⟩) dX1_matchPlaces_83 ?_
        refine lv_topi (fun z83 e_z83 => ?_)
        have b_ : z83.toInt = 0 := by rw [e_z83, e_f_70, pk_us]; decide
        have b_ : -2147483648 ≤ z83.toInt ∧ z83.toInt ≤ 2147483647 := ⟨zlo _, zhi _⟩
        refine lv_if_eq (tgt := 91) hx hb dX1_matchPlaces_84 (by decide) (fun c_ => ?_) (fun c_ => ?_)
        · skip
          have b_ := zT_eq rfl zk_0 c_
          refine lv_iconst (v := 0) hx hb dX1_matchPlaces_91 (by decide) ?_
          have b_ : -2147483648 ≤ z77.toInt ∧ z77.toInt ≤ 2147483647 := ⟨zlo _, zhi _⟩
          refine lv_iadd hx hb dX1_matchPlaces_92 ?_
          refine lv_topi (fun z92 e_z92 => ?_)
          have b_ := zadd rfl zk_0 e_z92 (by omega) (by omega)
          refine va_iast hx hb hK hP hD hS 3 2 rfl rfl (zin_lit ⟨by omega, by omega⟩) dX1_matchPlaces_93 (fun H locs hP hD hS => ?_)
          obtain ⟨f_93, e_f_93⟩ : ∃ z : Nat → Int32, z = upd f41 (x1 : Int32).toNatClampNeg z92 := ⟨_, rfl⟩
          have hP : va_P (dC, dI) vwCl ([(h0, .inr (1, mX1 h1 h6 h13 h21 h36 h37 h39 h40 h41 h42 h43 h44 h45 h46 h47 h48 v0)), (h36, .inl (k36, 40, .inr (.inr (.inr (.inr f36))))), (h48, zi k41 n48 f_49), (h41, zi k41 40 f_93), (h21, .inr (3, mX3 h6 h22 h13 h31 h32 h33 h34 h35 v21)), (h13, .inr (7, mX7 h14 h15 h16 h17 h18 h19 h20 v13)), (h17, zi k17 40 f17), (h14, zi k14 40 f14), (h15, zi k15 40 f15), (h16, zi k16 40 f16), (h35, zi k35 300 f35), (h34, zi k34 832 f34), (h19, zi k19 160 f19), (h39, zi k39 40 f_70), (h31, .inl (k31, 400, .inr (.inr (.inr (.inr f31))))), (a5_, .inr (5, mX5 b5_)), (b5_, zi k41 26 (a36_ 0))] ++ p5) H := by rw [e_f_93]; exact hP
          have hD : va_D A ([(h0, .inr (1, mX1 h1 h6 h13 h21 h36 h37 h39 h40 h41 h42 h43 h44 h45 h46 h47 h48 v0)), (h36, .inl (k36, 40, .inr (.inr (.inr (.inr f36))))), (h48, zi k41 n48 f_49), (h41, zi k41 40 f_93), (h21, .inr (3, mX3 h6 h22 h13 h31 h32 h33 h34 h35 v21)), (h13, .inr (7, mX7 h14 h15 h16 h17 h18 h19 h20 v13)), (h17, zi k17 40 f17), (h14, zi k14 40 f14), (h15, zi k15 40 f15), (h16, zi k16 40 f16), (h35, zi k35 300 f35), (h34, zi k34 832 f34), (h19, zi k19 160 f19), (h39, zi k39 40 f_70), (h31, .inl (k31, 400, .inr (.inr (.inr (.inr f31))))), (a5_, .inr (5, mX5 b5_)), (b5_, zi k41 26 (a36_ 0))] ++ p5) := by rw [e_f_93]; exact hD
          obtain ⟨plx5, e_plx5⟩ : ∃ z : va_W, z = (a5_, .inr (5, mX5 b5_)) :: (b5_, zi k41 26 (a36_ 0)) :: p5 := ⟨_, rfl⟩
          have e_plx_ := e_plx5
          have hP : va_P (dC, dI) vwCl ([(h0, .inr (1, mX1 h1 h6 h13 h21 h36 h37 h39 h40 h41 h42 h43 h44 h45 h46 h47 h48 v0)), (h36, .inl (k36, 40, .inr (.inr (.inr (.inr f36))))), (h48, zi k41 n48 f_49), (h41, zi k41 40 f_93), (h21, .inr (3, mX3 h6 h22 h13 h31 h32 h33 h34 h35 v21)), (h13, .inr (7, mX7 h14 h15 h16 h17 h18 h19 h20 v13)), (h17, zi k17 40 f17), (h14, zi k14 40 f14), (h15, zi k15 40 f15), (h16, zi k16 40 f16), (h35, zi k35 300 f35), (h34, zi k34 832 f34), (h19, zi k19 160 f19), (h39, zi k39 40 f_70), (h31, .inl (k31, 400, .inr (.inr (.inr (.inr f31)))))] ++ plx5) H := by rw [e_plx5]; exact hP
          have hD : va_D A ([(h0, .inr (1, mX1 h1 h6 h13 h21 h36 h37 h39 h40 h41 h42 h43 h44 h45 h46 h47 h48 v0)), (h36, .inl (k36, 40, .inr (.inr (.inr (.inr f36))))), (h48, zi k41 n48 f_49), (h41, zi k41 40 f_93), (h21, .inr (3, mX3 h6 h22 h13 h31 h32 h33 h34 h35 v21)), (h13, .inr (7, mX7 h14 h15 h16 h17 h18 h19 h20 v13)), (h17, zi k17 40 f17), (h14, zi k14 40 f14), (h15, zi k15 40 f15), (h16, zi k16 40 f16), (h35, zi k35 300 f35), (h34, zi k34 832 f34), (h19, zi k19 160 f19), (h39, zi k39 40 f_70), (h31, .inl (k31, 400, .inr (.inr (.inr (.inr f31)))))] ++ plx5) := by rw [e_plx5]; exact hD
          have hpl_ : zRd h22 f31 plx5 := by rw [e_plx5]; exact zRd_putP (show zRd h22 f31 pl0 from by first | assumption | exact zKp_rf | exact zOt_rf) e_pl5
          have hpl_ : zPs k41 f36 plx5 := by rw [e_plx5]; exact zPs_putP (show zPs k41 f36 pl0 from by first | assumption | exact zKp_rf | exact zOt_rf) e_pl5
          have hpl_ : zOt pl0 plx5 := by rw [e_plx5]; exact zOt_putP (show zOt pl0 pl0 from by first | assumption | exact zKp_rf | exact zOt_rf) e_pl5
          refine W.widen (k := 0) (n := 0) (by decide) (by decide) ?_
          have hpost : True := trivial
          have hP9 : va_P (dC, dI) vwCl ([(h0, .inr (1, mX1 h1 h6 h13 h21 h36 h37 h39 h40 h41 h42 h43 h44 h45 h46 h47 h48 v0)), (h36, .inl (k36, 40, .inr (.inr (.inr (.inr f36))))), (h48, zi k41 n48 f_49), (h41, zi k41 40 f_93), (h21, .inr (3, mX3 h6 h22 h13 h31 h32 h33 h34 h35 v21)), (h13, .inr (7, mX7 h14 h15 h16 h17 h18 h19 h20 v13)), (h17, zi k17 40 f17), (h14, zi k14 40 f14), (h15, zi k15 40 f15), (h16, zi k16 40 f16), (h35, zi k35 300 f35), (h34, zi k34 832 f34), (h19, zi k19 160 f19), (h39, zi k39 40 f_70), (h31, .inl (k31, 400, .inr (.inr (.inr (.inr f31)))))] ++ plx5) H := hP
          have hD9 : va_D A ([(h0, .inr (1, mX1 h1 h6 h13 h21 h36 h37 h39 h40 h41 h42 h43 h44 h45 h46 h47 h48 v0)), (h36, .inl (k36, 40, .inr (.inr (.inr (.inr f36))))), (h48, zi k41 n48 f_49), (h41, zi k41 40 f_93), (h21, .inr (3, mX3 h6 h22 h13 h31 h32 h33 h34 h35 v21)), (h13, .inr (7, mX7 h14 h15 h16 h17 h18 h19 h20 v13)), (h17, zi k17 40 f17), (h14, zi k14 40 f14), (h15, zi k15 40 f15), (h16, zi k16 40 f16), (h35, zi k35 300 f35), (h34, zi k34 832 f34), (h19, zi k19 160 f19), (h39, zi k39 40 f_70), (h31, .inl (k31, 400, .inr (.inr (.inr (.inr f31)))))] ++ plx5) := hD
          have hB0 : zRd h22 f31 plx5 := by assumption
          have hB1 : zPs k41 f36 plx5 := by assumption
          have hB2 : zOt pl0 plx5 := by first | assumption | exact zOt_rf
          have hB3 : zMp h22 k41 f36 pl0 plx5 f34 f35 f14 f15 f16 f19 f17 (v13 8).toInt (v21 9).toInt ((x1 : Int32)).toNatClampNeg (120 * x1.toInt + x2.toInt) ((n48 : Nat) : Int) f39 f_70 f48 f_49 f41 f_93 := by first | exact zMp_n (Or.inl e_o5.symm) | exact zMp_n (Or.inr (by omega)) | exact False.elim (by omega) | exact zMp_i hzp5 e_pl5 hD0_ e_plx_ e_o5.symm hB36_0 (by omega) hX46_0 e_f_49 e_f_70 (Or.inl ⟨by decide, by omega⟩) e_f_93 e_z77 (fun q1_ q2_ => (zadd rfl zk_1 e_z92 (by omega) (by omega)).trans (congrArg (fun y_ : Int => z77.toInt + y_) (by decide))) | exact zMp_i hzp5 e_pl5 hD0_ e_plx_ e_o5.symm hB36_0 (by omega) hX46_0 e_f_49 e_f_70 (Or.inr ⟨by decide, by omega⟩) e_f_93 e_z77 (fun q1_ q2_ => (zadd rfl zk_0 e_z92 (by omega) (by omega)).trans (congrArg (fun y_ : Int => z77.toInt + y_) (by decide)))
          exact W.vret hx hb hr (fun t ht hW => ⟨⟨(fun _ => 0), rfl, hpost, (fun _ => 0), (fun i => ([f_49, f_93, f_70] : List (Nat → Int32)).getD i (fun _ => 0)), (fun _ => (fun _ => 0)), (fun _ => (fun _ => none)), plx5, hf_49, hB0, hB1, hB2, hB3, by rw [ht]; exact hP9, va_K.moved hW.alike hK, hD9⟩, hS.F ht⟩) hS.2.2 dX1_matchPlaces_94
        · skip
          have b_ := zF_eq rfl zk_0 c_
          refine lv_iconst (v := 1) hx hb dX1_matchPlaces_87 (by decide) ?_
          refine lv_goto (tgt := 92) hx hb dX1_matchPlaces_88 (by decide) ?_
          have b_ : -2147483648 ≤ z77.toInt ∧ z77.toInt ≤ 2147483647 := ⟨zlo _, zhi _⟩
          refine lv_iadd hx hb dX1_matchPlaces_92 ?_
          refine lv_topi (fun z92 e_z92 => ?_)
          refine va_iast hx hb hK hP hD hS 3 2 rfl rfl (zin_lit ⟨by omega, by omega⟩) dX1_matchPlaces_93 (fun H locs hP hD hS => ?_)
          obtain ⟨f_93, e_f_93⟩ : ∃ z : Nat → Int32, z = upd f41 (x1 : Int32).toNatClampNeg z92 := ⟨_, rfl⟩
          have hP : va_P (dC, dI) vwCl ([(h0, .inr (1, mX1 h1 h6 h13 h21 h36 h37 h39 h40 h41 h42 h43 h44 h45 h46 h47 h48 v0)), (h36, .inl (k36, 40, .inr (.inr (.inr (.inr f36))))), (h48, zi k41 n48 f_49), (h41, zi k41 40 f_93), (h21, .inr (3, mX3 h6 h22 h13 h31 h32 h33 h34 h35 v21)), (h13, .inr (7, mX7 h14 h15 h16 h17 h18 h19 h20 v13)), (h17, zi k17 40 f17), (h14, zi k14 40 f14), (h15, zi k15 40 f15), (h16, zi k16 40 f16), (h35, zi k35 300 f35), (h34, zi k34 832 f34), (h19, zi k19 160 f19), (h39, zi k39 40 f_70), (h31, .inl (k31, 400, .inr (.inr (.inr (.inr f31))))), (a5_, .inr (5, mX5 b5_)), (b5_, zi k41 26 (a36_ 0))] ++ p5) H := by rw [e_f_93]; exact hP
          have hD : va_D A ([(h0, .inr (1, mX1 h1 h6 h13 h21 h36 h37 h39 h40 h41 h42 h43 h44 h45 h46 h47 h48 v0)), (h36, .inl (k36, 40, .inr (.inr (.inr (.inr f36))))), (h48, zi k41 n48 f_49), (h41, zi k41 40 f_93), (h21, .inr (3, mX3 h6 h22 h13 h31 h32 h33 h34 h35 v21)), (h13, .inr (7, mX7 h14 h15 h16 h17 h18 h19 h20 v13)), (h17, zi k17 40 f17), (h14, zi k14 40 f14), (h15, zi k15 40 f15), (h16, zi k16 40 f16), (h35, zi k35 300 f35), (h34, zi k34 832 f34), (h19, zi k19 160 f19), (h39, zi k39 40 f_70), (h31, .inl (k31, 400, .inr (.inr (.inr (.inr f31))))), (a5_, .inr (5, mX5 b5_)), (b5_, zi k41 26 (a36_ 0))] ++ p5) := by rw [e_f_93]; exact hD
          obtain ⟨plx6, e_plx6⟩ : ∃ z : va_W, z = (a5_, .inr (5, mX5 b5_)) :: (b5_, zi k41 26 (a36_ 0)) :: p5 := ⟨_, rfl⟩
          have e_plx_ := e_plx6
          have hP : va_P (dC, dI) vwCl ([(h0, .inr (1, mX1 h1 h6 h13 h21 h36 h37 h39 h40 h41 h42 h43 h44 h45 h46 h47 h48 v0)), (h36, .inl (k36, 40, .inr (.inr (.inr (.inr f36))))), (h48, zi k41 n48 f_49), (h41, zi k41 40 f_93), (h21, .inr (3, mX3 h6 h22 h13 h31 h32 h33 h34 h35 v21)), (h13, .inr (7, mX7 h14 h15 h16 h17 h18 h19 h20 v13)), (h17, zi k17 40 f17), (h14, zi k14 40 f14), (h15, zi k15 40 f15), (h16, zi k16 40 f16), (h35, zi k35 300 f35), (h34, zi k34 832 f34), (h19, zi k19 160 f19), (h39, zi k39 40 f_70), (h31, .inl (k31, 400, .inr (.inr (.inr (.inr f31)))))] ++ plx6) H := by rw [e_plx6]; exact hP
          have hD : va_D A ([(h0, .inr (1, mX1 h1 h6 h13 h21 h36 h37 h39 h40 h41 h42 h43 h44 h45 h46 h47 h48 v0)), (h36, .inl (k36, 40, .inr (.inr (.inr (.inr f36))))), (h48, zi k41 n48 f_49), (h41, zi k41 40 f_93), (h21, .inr (3, mX3 h6 h22 h13 h31 h32 h33 h34 h35 v21)), (h13, .inr (7, mX7 h14 h15 h16 h17 h18 h19 h20 v13)), (h17, zi k17 40 f17), (h14, zi k14 40 f14), (h15, zi k15 40 f15), (h16, zi k16 40 f16), (h35, zi k35 300 f35), (h34, zi k34 832 f34), (h19, zi k19 160 f19), (h39, zi k39 40 f_70), (h31, .inl (k31, 400, .inr (.inr (.inr (.inr f31)))))] ++ plx6) := by rw [e_plx6]; exact hD
          have hpl_ : zRd h22 f31 plx6 := by rw [e_plx6]; exact zRd_putP (show zRd h22 f31 pl0 from by first | assumption | exact zKp_rf | exact zOt_rf) e_pl5
          have hpl_ : zPs k41 f36 plx6 := by rw [e_plx6]; exact zPs_putP (show zPs k41 f36 pl0 from by first | assumption | exact zKp_rf | exact zOt_rf) e_pl5
          have hpl_ : zOt pl0 plx6 := by rw [e_plx6]; exact zOt_putP (show zOt pl0 pl0 from by first | assumption | exact zKp_rf | exact zOt_rf) e_pl5
          refine W.widen (k := 0) (n := 0) (by decide) (by decide) ?_
          have hpost : True := trivial
          have hP9 : va_P (dC, dI) vwCl ([(h0, .inr (1, mX1 h1 h6 h13 h21 h36 h37 h39 h40 h41 h42 h43 h44 h45 h46 h47 h48 v0)), (h36, .inl (k36, 40, .inr (.inr (.inr (.inr f36))))), (h48, zi k41 n48 f_49), (h41, zi k41 40 f_93), (h21, .inr (3, mX3 h6 h22 h13 h31 h32 h33 h34 h35 v21)), (h13, .inr (7, mX7 h14 h15 h16 h17 h18 h19 h20 v13)), (h17, zi k17 40 f17), (h14, zi k14 40 f14), (h15, zi k15 40 f15), (h16, zi k16 40 f16), (h35, zi k35 300 f35), (h34, zi k34 832 f34), (h19, zi k19 160 f19), (h39, zi k39 40 f_70), (h31, .inl (k31, 400, .inr (.inr (.inr (.inr f31)))))] ++ plx6) H := hP
          have hD9 : va_D A ([(h0, .inr (1, mX1 h1 h6 h13 h21 h36 h37 h39 h40 h41 h42 h43 h44 h45 h46 h47 h48 v0)), (h36, .inl (k36, 40, .inr (.inr (.inr (.inr f36))))), (h48, zi k41 n48 f_49), (h41, zi k41 40 f_93), (h21, .inr (3, mX3 h6 h22 h13 h31 h32 h33 h34 h35 v21)), (h13, .inr (7, mX7 h14 h15 h16 h17 h18 h19 h20 v13)), (h17, zi k17 40 f17), (h14, zi k14 40 f14), (h15, zi k15 40 f15), (h16, zi k16 40 f16), (h35, zi k35 300 f35), (h34, zi k34 832 f34), (h19, zi k19 160 f19), (h39, zi k39 40 f_70), (h31, .inl (k31, 400, .inr (.inr (.inr (.inr f31)))))] ++ plx6) := hD
          have hB0 : zRd h22 f31 plx6 := by assumption
          have hB1 : zPs k41 f36 plx6 := by assumption
          have hB2 : zOt pl0 plx6 := by first | assumption | exact zOt_rf
          have hB3 : zMp h22 k41 f36 pl0 plx6 f34 f35 f14 f15 f16 f19 f17 (v13 8).toInt (v21 9).toInt ((x1 : Int32)).toNatClampNeg (120 * x1.toInt + x2.toInt) ((n48 : Nat) : Int) f39 f_70 f48 f_49 f41 f_93 := by first | exact zMp_n (Or.inl e_o5.symm) | exact zMp_n (Or.inr (by omega)) | exact False.elim (by omega) | exact zMp_i hzp5 e_pl5 hD0_ e_plx_ e_o5.symm hB36_0 (by omega) hX46_0 e_f_49 e_f_70 (Or.inl ⟨by decide, by omega⟩) e_f_93 e_z77 (fun q1_ q2_ => (zadd rfl zk_1 e_z92 (by omega) (by omega)).trans (congrArg (fun y_ : Int => z77.toInt + y_) (by decide))) | exact zMp_i hzp5 e_pl5 hD0_ e_plx_ e_o5.symm hB36_0 (by omega) hX46_0 e_f_49 e_f_70 (Or.inr ⟨by decide, by omega⟩) e_f_93 e_z77 (fun q1_ q2_ => (zadd rfl zk_0 e_z92 (by omega) (by omega)).trans (congrArg (fun y_ : Int => z77.toInt + y_) (by decide)))
          exact W.vret hx hb hr (fun t ht hW => ⟨⟨(fun _ => 0), rfl, hpost, (fun _ => 0), (fun i => ([f_49, f_93, f_70] : List (Nat → Int32)).getD i (fun _ => 0)), (fun _ => (fun _ => 0)), (fun _ => (fun _ => none)), plx6, hf_49, hB0, hB1, hB2, hB3, by rw [ht]; exact hP9, va_K.moved hW.alike hK, hD9⟩, hS.F ht⟩) hS.2.2 dX1_matchPlaces_94
      · skip
        have b_ := zF_le rfl zk_0 c_
        refine lv_iconst (v := 1) hx hb dX1_matchPlaces_65 (by decide) ?_
        refine lv_goto (tgt := 70) hx hb dX1_matchPlaces_66 (by decide) ?_
        refine va_zast hx hb hK hP hD hS 13 10 rfl rfl (zin_lit ⟨by omega, by omega⟩) dX1_matchPlaces_70 (fun H locs hP hD hS => ?_)
        obtain ⟨f_70, e_f_70⟩ : ∃ z : Nat → Int32, z = upd f39 (x1 : Int32).toNatClampNeg (vp_nar .boolean 1) := ⟨_, rfl⟩
        have hP : va_P (dC, dI) vwCl ([(h0, .inr (1, mX1 h1 h6 h13 h21 h36 h37 h39 h40 h41 h42 h43 h44 h45 h46 h47 h48 v0)), (h36, .inl (k36, 40, .inr (.inr (.inr (.inr f36))))), (h48, zi k41 n48 f_49), (h41, zi k41 40 f41), (h21, .inr (3, mX3 h6 h22 h13 h31 h32 h33 h34 h35 v21)), (h13, .inr (7, mX7 h14 h15 h16 h17 h18 h19 h20 v13)), (h17, zi k17 40 f17), (h14, zi k14 40 f14), (h15, zi k15 40 f15), (h16, zi k16 40 f16), (h35, zi k35 300 f35), (h34, zi k34 832 f34), (h19, zi k19 160 f19), (h39, zi k39 40 f_70), (h31, .inl (k31, 400, .inr (.inr (.inr (.inr f31))))), (a5_, .inr (5, mX5 b5_)), (b5_, zi k41 26 (a36_ 0))] ++ p5) H := by rw [e_f_70]; exact hP
        have hD : va_D A ([(h0, .inr (1, mX1 h1 h6 h13 h21 h36 h37 h39 h40 h41 h42 h43 h44 h45 h46 h47 h48 v0)), (h36, .inl (k36, 40, .inr (.inr (.inr (.inr f36))))), (h48, zi k41 n48 f_49), (h41, zi k41 40 f41), (h21, .inr (3, mX3 h6 h22 h13 h31 h32 h33 h34 h35 v21)), (h13, .inr (7, mX7 h14 h15 h16 h17 h18 h19 h20 v13)), (h17, zi k17 40 f17), (h14, zi k14 40 f14), (h15, zi k15 40 f15), (h16, zi k16 40 f16), (h35, zi k35 300 f35), (h34, zi k34 832 f34), (h19, zi k19 160 f19), (h39, zi k39 40 f_70), (h31, .inl (k31, 400, .inr (.inr (.inr (.inr f31))))), (a5_, .inr (5, mX5 b5_)), (b5_, zi k41 26 (a36_ 0))] ++ p5) := by rw [e_f_70]; exact hD
        refine lv_aload_n hx hb dX1_matchPlaces_71 rfl (lv_at hl 2 rfl) ?_
        refine va_get (D := (dC, dI)) (ci := 1) (v := .ref h41) (C := RX1) (T := TX1) (N := 17) hx hb hG zuX1 hown hK hP 0 rfl rfl 8 (by decide) (hG _ zv512) (fun _ h9 => h9) rfl dX1_matchPlaces_72 ?_
        refine lv_iload_n hx hb dX1_matchPlaces_75 rfl (lv_at hl 3 rfl) ?_
        refine lv_dup2_11 hx hb dX1_matchPlaces_76 rfl rfl ?_
        refine va_iald hx hb hK hP 3 2 rfl rfl (zin_lit ⟨by omega, by omega⟩) dX1_matchPlaces_77 ?_
        refine lv_topi (fun z77 e_z77 => ?_)
        refine lv_aload_n hx hb dX1_matchPlaces_78 rfl (lv_at hl 2 rfl) ?_
        refine va_get (D := (dC, dI)) (ci := 1) (v := .ref h39) (C := RX1) (T := TX1) (N := 17) hx hb hG zuX1 hown hK hP 0 rfl rfl 6 (by decide) (hG _ zv510) (fun _ h9 => h9) rfl dX1_matchPlaces_79 ?_
        refine lv_iload_n hx hb dX1_matchPlaces_82 rfl (lv_at hl 3 rfl) ?_
        refine va_zald hx hb hK hP 13 10 rfl rfl (zin_lit ⟨by omega, by omega⟩) dX1_matchPlaces_83 ?_
        refine lv_topi (fun z83 e_z83 => ?_)
        have b_ : z83.toInt = 1 := by rw [e_z83, e_f_70, pk_us]; decide
        have b_ : -2147483648 ≤ z83.toInt ∧ z83.toInt ≤ 2147483647 := ⟨zlo _, zhi _⟩
        refine lv_if_eq (tgt := 91) hx hb dX1_matchPlaces_84 (by decide) (fun c_ => ?_) (fun c_ => ?_)
        · skip
          have b_ := zT_eq rfl zk_0 c_
          refine lv_iconst (v := 0) hx hb dX1_matchPlaces_91 (by decide) ?_
          have b_ : -2147483648 ≤ z77.toInt ∧ z77.toInt ≤ 2147483647 := ⟨zlo _, zhi _⟩
          refine lv_iadd hx hb dX1_matchPlaces_92 ?_
          refine lv_topi (fun z92 e_z92 => ?_)
          have b_ := zadd rfl zk_0 e_z92 (by omega) (by omega)
          refine va_iast hx hb hK hP hD hS 3 2 rfl rfl (zin_lit ⟨by omega, by omega⟩) dX1_matchPlaces_93 (fun H locs hP hD hS => ?_)
          obtain ⟨f_93, e_f_93⟩ : ∃ z : Nat → Int32, z = upd f41 (x1 : Int32).toNatClampNeg z92 := ⟨_, rfl⟩
          have hP : va_P (dC, dI) vwCl ([(h0, .inr (1, mX1 h1 h6 h13 h21 h36 h37 h39 h40 h41 h42 h43 h44 h45 h46 h47 h48 v0)), (h36, .inl (k36, 40, .inr (.inr (.inr (.inr f36))))), (h48, zi k41 n48 f_49), (h41, zi k41 40 f_93), (h21, .inr (3, mX3 h6 h22 h13 h31 h32 h33 h34 h35 v21)), (h13, .inr (7, mX7 h14 h15 h16 h17 h18 h19 h20 v13)), (h17, zi k17 40 f17), (h14, zi k14 40 f14), (h15, zi k15 40 f15), (h16, zi k16 40 f16), (h35, zi k35 300 f35), (h34, zi k34 832 f34), (h19, zi k19 160 f19), (h39, zi k39 40 f_70), (h31, .inl (k31, 400, .inr (.inr (.inr (.inr f31))))), (a5_, .inr (5, mX5 b5_)), (b5_, zi k41 26 (a36_ 0))] ++ p5) H := by rw [e_f_93]; exact hP
          have hD : va_D A ([(h0, .inr (1, mX1 h1 h6 h13 h21 h36 h37 h39 h40 h41 h42 h43 h44 h45 h46 h47 h48 v0)), (h36, .inl (k36, 40, .inr (.inr (.inr (.inr f36))))), (h48, zi k41 n48 f_49), (h41, zi k41 40 f_93), (h21, .inr (3, mX3 h6 h22 h13 h31 h32 h33 h34 h35 v21)), (h13, .inr (7, mX7 h14 h15 h16 h17 h18 h19 h20 v13)), (h17, zi k17 40 f17), (h14, zi k14 40 f14), (h15, zi k15 40 f15), (h16, zi k16 40 f16), (h35, zi k35 300 f35), (h34, zi k34 832 f34), (h19, zi k19 160 f19), (h39, zi k39 40 f_70), (h31, .inl (k31, 400, .inr (.inr (.inr (.inr f31))))), (a5_, .inr (5, mX5 b5_)), (b5_, zi k41 26 (a36_ 0))] ++ p5) := by rw [e_f_93]; exact hD
          obtain ⟨plx7, e_plx7⟩ : ∃ z : va_W, z = (a5_, .inr (5, mX5 b5_)) :: (b5_, zi k41 26 (a36_ 0)) :: p5 := ⟨_, rfl⟩
          have e_plx_ := e_plx7
          have hP : va_P (dC, dI) vwCl ([(h0, .inr (1, mX1 h1 h6 h13 h21 h36 h37 h39 h40 h41 h42 h43 h44 h45 h46 h47 h48 v0)), (h36, .inl (k36, 40, .inr (.inr (.inr (.inr f36))))), (h48, zi k41 n48 f_49), (h41, zi k41 40 f_93), (h21, .inr (3, mX3 h6 h22 h13 h31 h32 h33 h34 h35 v21)), (h13, .inr (7, mX7 h14 h15 h16 h17 h18 h19 h20 v13)), (h17, zi k17 40 f17), (h14, zi k14 40 f14), (h15, zi k15 40 f15), (h16, zi k16 40 f16), (h35, zi k35 300 f35), (h34, zi k34 832 f34), (h19, zi k19 160 f19), (h39, zi k39 40 f_70), (h31, .inl (k31, 400, .inr (.inr (.inr (.inr f31)))))] ++ plx7) H := by rw [e_plx7]; exact hP
          have hD : va_D A ([(h0, .inr (1, mX1 h1 h6 h13 h21 h36 h37 h39 h40 h41 h42 h43 h44 h45 h46 h47 h48 v0)), (h36, .inl (k36, 40, .inr (.inr (.inr (.inr f36))))), (h48, zi k41 n48 f_49), (h41, zi k41 40 f_93), (h21, .inr (3, mX3 h6 h22 h13 h31 h32 h33 h34 h35 v21)), (h13, .inr (7, mX7 h14 h15 h16 h17 h18 h19 h20 v13)), (h17, zi k17 40 f17), (h14, zi k14 40 f14), (h15, zi k15 40 f15), (h16, zi k16 40 f16), (h35, zi k35 300 f35), (h34, zi k34 832 f34), (h19, zi k19 160 f19), (h39, zi k39 40 f_70), (h31, .inl (k31, 400, .inr (.inr (.inr (.inr f31)))))] ++ plx7) := by rw [e_plx7]; exact hD
          have hpl_ : zRd h22 f31 plx7 := by rw [e_plx7]; exact zRd_putP (show zRd h22 f31 pl0 from by first | assumption | exact zKp_rf | exact zOt_rf) e_pl5
          have hpl_ : zPs k41 f36 plx7 := by rw [e_plx7]; exact zPs_putP (show zPs k41 f36 pl0 from by first | assumption | exact zKp_rf | exact zOt_rf) e_pl5
          have hpl_ : zOt pl0 plx7 := by rw [e_plx7]; exact zOt_putP (show zOt pl0 pl0 from by first | assumption | exact zKp_rf | exact zOt_rf) e_pl5
          refine W.widen (k := 0) (n := 0) (by decide) (by decide) ?_
          have hpost : True := trivial
          have hP9 : va_P (dC, dI) vwCl ([(h0, .inr (1, mX1 h1 h6 h13 h21 h36 h37 h39 h40 h41 h42 h43 h44 h45 h46 h47 h48 v0)), (h36, .inl (k36, 40, .inr (.inr (.inr (.inr f36))))), (h48, zi k41 n48 f_49), (h41, zi k41 40 f_93), (h21, .inr (3, mX3 h6 h22 h13 h31 h32 h33 h34 h35 v21)), (h13, .inr (7, mX7 h14 h15 h16 h17 h18 h19 h20 v13)), (h17, zi k17 40 f17), (h14, zi k14 40 f14), (h15, zi k15 40 f15), (h16, zi k16 40 f16), (h35, zi k35 300 f35), (h34, zi k34 832 f34), (h19, zi k19 160 f19), (h39, zi k39 40 f_70), (h31, .inl (k31, 400, .inr (.inr (.inr (.inr f31)))))] ++ plx7) H := hP
          have hD9 : va_D A ([(h0, .inr (1, mX1 h1 h6 h13 h21 h36 h37 h39 h40 h41 h42 h43 h44 h45 h46 h47 h48 v0)), (h36, .inl (k36, 40, .inr (.inr (.inr (.inr f36))))), (h48, zi k41 n48 f_49), (h41, zi k41 40 f_93), (h21, .inr (3, mX3 h6 h22 h13 h31 h32 h33 h34 h35 v21)), (h13, .inr (7, mX7 h14 h15 h16 h17 h18 h19 h20 v13)), (h17, zi k17 40 f17), (h14, zi k14 40 f14), (h15, zi k15 40 f15), (h16, zi k16 40 f16), (h35, zi k35 300 f35), (h34, zi k34 832 f34), (h19, zi k19 160 f19), (h39, zi k39 40 f_70), (h31, .inl (k31, 400, .inr (.inr (.inr (.inr f31)))))] ++ plx7) := hD
          have hB0 : zRd h22 f31 plx7 := by assumption
          have hB1 : zPs k41 f36 plx7 := by assumption
          have hB2 : zOt pl0 plx7 := by first | assumption | exact zOt_rf
          have hB3 : zMp h22 k41 f36 pl0 plx7 f34 f35 f14 f15 f16 f19 f17 (v13 8).toInt (v21 9).toInt ((x1 : Int32)).toNatClampNeg (120 * x1.toInt + x2.toInt) ((n48 : Nat) : Int) f39 f_70 f48 f_49 f41 f_93 := by first | exact zMp_n (Or.inl e_o5.symm) | exact zMp_n (Or.inr (by omega)) | exact False.elim (by omega) | exact zMp_i hzp5 e_pl5 hD0_ e_plx_ e_o5.symm hB36_0 (by omega) hX46_0 e_f_49 e_f_70 (Or.inl ⟨by decide, by omega⟩) e_f_93 e_z77 (fun q1_ q2_ => (zadd rfl zk_1 e_z92 (by omega) (by omega)).trans (congrArg (fun y_ : Int => z77.toInt + y_) (by decide))) | exact zMp_i hzp5 e_pl5 hD0_ e_plx_ e_o5.symm hB36_0 (by omega) hX46_0 e_f_49 e_f_70 (Or.inr ⟨by decide, by omega⟩) e_f_93 e_z77 (fun q1_ q2_ => (zadd rfl zk_0 e_z92 (by omega) (by omega)).trans (congrArg (fun y_ : Int => z77.toInt + y_) (by decide)))
          exact W.vret hx hb hr (fun t ht hW => ⟨⟨(fun _ => 0), rfl, hpost, (fun _ => 0), (fun i => ([f_49, f_93, f_70] : List (Nat → Int32)).getD i (fun _ => 0)), (fun _ => (fun _ => 0)), (fun _ => (fun _ => none)), plx7, hf_49, hB0, hB1, hB2, hB3, by rw [ht]; exact hP9, va_K.moved hW.alike hK, hD9⟩, hS.F ht⟩) hS.2.2 dX1_matchPlaces_94
        · skip
          have b_ := zF_eq rfl zk_0 c_
          refine lv_iconst (v := 1) hx hb dX1_matchPlaces_87 (by decide) ?_
          refine lv_goto (tgt := 92) hx hb dX1_matchPlaces_88 (by decide) ?_
          have b_ : -2147483648 ≤ z77.toInt ∧ z77.toInt ≤ 2147483647 := ⟨zlo _, zhi _⟩
          refine lv_iadd hx hb dX1_matchPlaces_92 ?_
          refine lv_topi (fun z92 e_z92 => ?_)
          refine va_iast hx hb hK hP hD hS 3 2 rfl rfl (zin_lit ⟨by omega, by omega⟩) dX1_matchPlaces_93 (fun H locs hP hD hS => ?_)
          obtain ⟨f_93, e_f_93⟩ : ∃ z : Nat → Int32, z = upd f41 (x1 : Int32).toNatClampNeg z92 := ⟨_, rfl⟩
          have hP : va_P (dC, dI) vwCl ([(h0, .inr (1, mX1 h1 h6 h13 h21 h36 h37 h39 h40 h41 h42 h43 h44 h45 h46 h47 h48 v0)), (h36, .inl (k36, 40, .inr (.inr (.inr (.inr f36))))), (h48, zi k41 n48 f_49), (h41, zi k41 40 f_93), (h21, .inr (3, mX3 h6 h22 h13 h31 h32 h33 h34 h35 v21)), (h13, .inr (7, mX7 h14 h15 h16 h17 h18 h19 h20 v13)), (h17, zi k17 40 f17), (h14, zi k14 40 f14), (h15, zi k15 40 f15), (h16, zi k16 40 f16), (h35, zi k35 300 f35), (h34, zi k34 832 f34), (h19, zi k19 160 f19), (h39, zi k39 40 f_70), (h31, .inl (k31, 400, .inr (.inr (.inr (.inr f31))))), (a5_, .inr (5, mX5 b5_)), (b5_, zi k41 26 (a36_ 0))] ++ p5) H := by rw [e_f_93]; exact hP
          have hD : va_D A ([(h0, .inr (1, mX1 h1 h6 h13 h21 h36 h37 h39 h40 h41 h42 h43 h44 h45 h46 h47 h48 v0)), (h36, .inl (k36, 40, .inr (.inr (.inr (.inr f36))))), (h48, zi k41 n48 f_49), (h41, zi k41 40 f_93), (h21, .inr (3, mX3 h6 h22 h13 h31 h32 h33 h34 h35 v21)), (h13, .inr (7, mX7 h14 h15 h16 h17 h18 h19 h20 v13)), (h17, zi k17 40 f17), (h14, zi k14 40 f14), (h15, zi k15 40 f15), (h16, zi k16 40 f16), (h35, zi k35 300 f35), (h34, zi k34 832 f34), (h19, zi k19 160 f19), (h39, zi k39 40 f_70), (h31, .inl (k31, 400, .inr (.inr (.inr (.inr f31))))), (a5_, .inr (5, mX5 b5_)), (b5_, zi k41 26 (a36_ 0))] ++ p5) := by rw [e_f_93]; exact hD
          obtain ⟨plx8, e_plx8⟩ : ∃ z : va_W, z = (a5_, .inr (5, mX5 b5_)) :: (b5_, zi k41 26 (a36_ 0)) :: p5 := ⟨_, rfl⟩
          have e_plx_ := e_plx8
          have hP : va_P (dC, dI) vwCl ([(h0, .inr (1, mX1 h1 h6 h13 h21 h36 h37 h39 h40 h41 h42 h43 h44 h45 h46 h47 h48 v0)), (h36, .inl (k36, 40, .inr (.inr (.inr (.inr f36))))), (h48, zi k41 n48 f_49), (h41, zi k41 40 f_93), (h21, .inr (3, mX3 h6 h22 h13 h31 h32 h33 h34 h35 v21)), (h13, .inr (7, mX7 h14 h15 h16 h17 h18 h19 h20 v13)), (h17, zi k17 40 f17), (h14, zi k14 40 f14), (h15, zi k15 40 f15), (h16, zi k16 40 f16), (h35, zi k35 300 f35), (h34, zi k34 832 f34), (h19, zi k19 160 f19), (h39, zi k39 40 f_70), (h31, .inl (k31, 400, .inr (.inr (.inr (.inr f31)))))] ++ plx8) H := by rw [e_plx8]; exact hP
          have hD : va_D A ([(h0, .inr (1, mX1 h1 h6 h13 h21 h36 h37 h39 h40 h41 h42 h43 h44 h45 h46 h47 h48 v0)), (h36, .inl (k36, 40, .inr (.inr (.inr (.inr f36))))), (h48, zi k41 n48 f_49), (h41, zi k41 40 f_93), (h21, .inr (3, mX3 h6 h22 h13 h31 h32 h33 h34 h35 v21)), (h13, .inr (7, mX7 h14 h15 h16 h17 h18 h19 h20 v13)), (h17, zi k17 40 f17), (h14, zi k14 40 f14), (h15, zi k15 40 f15), (h16, zi k16 40 f16), (h35, zi k35 300 f35), (h34, zi k34 832 f34), (h19, zi k19 160 f19), (h39, zi k39 40 f_70), (h31, .inl (k31, 400, .inr (.inr (.inr (.inr f31)))))] ++ plx8) := by rw [e_plx8]; exact hD
          have hpl_ : zRd h22 f31 plx8 := by rw [e_plx8]; exact zRd_putP (show zRd h22 f31 pl0 from by first | assumption | exact zKp_rf | exact zOt_rf) e_pl5
          have hpl_ : zPs k41 f36 plx8 := by rw [e_plx8]; exact zPs_putP (show zPs k41 f36 pl0 from by first | assumption | exact zKp_rf | exact zOt_rf) e_pl5
          have hpl_ : zOt pl0 plx8 := by rw [e_plx8]; exact zOt_putP (show zOt pl0 pl0 from by first | assumption | exact zKp_rf | exact zOt_rf) e_pl5
          refine W.widen (k := 0) (n := 0) (by decide) (by decide) ?_
          have hpost : True := trivial
          have hP9 : va_P (dC, dI) vwCl ([(h0, .inr (1, mX1 h1 h6 h13 h21 h36 h37 h39 h40 h41 h42 h43 h44 h45 h46 h47 h48 v0)), (h36, .inl (k36, 40, .inr (.inr (.inr (.inr f36))))), (h48, zi k41 n48 f_49), (h41, zi k41 40 f_93), (h21, .inr (3, mX3 h6 h22 h13 h31 h32 h33 h34 h35 v21)), (h13, .inr (7, mX7 h14 h15 h16 h17 h18 h19 h20 v13)), (h17, zi k17 40 f17), (h14, zi k14 40 f14), (h15, zi k15 40 f15), (h16, zi k16 40 f16), (h35, zi k35 300 f35), (h34, zi k34 832 f34), (h19, zi k19 160 f19), (h39, zi k39 40 f_70), (h31, .inl (k31, 400, .inr (.inr (.inr (.inr f31)))))] ++ plx8) H := hP
          have hD9 : va_D A ([(h0, .inr (1, mX1 h1 h6 h13 h21 h36 h37 h39 h40 h41 h42 h43 h44 h45 h46 h47 h48 v0)), (h36, .inl (k36, 40, .inr (.inr (.inr (.inr f36))))), (h48, zi k41 n48 f_49), (h41, zi k41 40 f_93), (h21, .inr (3, mX3 h6 h22 h13 h31 h32 h33 h34 h35 v21)), (h13, .inr (7, mX7 h14 h15 h16 h17 h18 h19 h20 v13)), (h17, zi k17 40 f17), (h14, zi k14 40 f14), (h15, zi k15 40 f15), (h16, zi k16 40 f16), (h35, zi k35 300 f35), (h34, zi k34 832 f34), (h19, zi k19 160 f19), (h39, zi k39 40 f_70), (h31, .inl (k31, 400, .inr (.inr (.inr (.inr f31)))))] ++ plx8) := hD
          have hB0 : zRd h22 f31 plx8 := by assumption
          have hB1 : zPs k41 f36 plx8 := by assumption
          have hB2 : zOt pl0 plx8 := by first | assumption | exact zOt_rf
          have hB3 : zMp h22 k41 f36 pl0 plx8 f34 f35 f14 f15 f16 f19 f17 (v13 8).toInt (v21 9).toInt ((x1 : Int32)).toNatClampNeg (120 * x1.toInt + x2.toInt) ((n48 : Nat) : Int) f39 f_70 f48 f_49 f41 f_93 := by first | exact zMp_n (Or.inl e_o5.symm) | exact zMp_n (Or.inr (by omega)) | exact False.elim (by omega) | exact zMp_i hzp5 e_pl5 hD0_ e_plx_ e_o5.symm hB36_0 (by omega) hX46_0 e_f_49 e_f_70 (Or.inl ⟨by decide, by omega⟩) e_f_93 e_z77 (fun q1_ q2_ => (zadd rfl zk_1 e_z92 (by omega) (by omega)).trans (congrArg (fun y_ : Int => z77.toInt + y_) (by decide))) | exact zMp_i hzp5 e_pl5 hD0_ e_plx_ e_o5.symm hB36_0 (by omega) hX46_0 e_f_49 e_f_70 (Or.inr ⟨by decide, by omega⟩) e_f_93 e_z77 (fun q1_ q2_ => (zadd rfl zk_0 e_z92 (by omega) (by omega)).trans (congrArg (fun y_ : Int => z77.toInt + y_) (by decide)))
          exact W.vret hx hb hr (fun t ht hW => ⟨⟨(fun _ => 0), rfl, hpost, (fun _ => 0), (fun i => ([f_49, f_93, f_70] : List (Nat → Int32)).getD i (fun _ => 0)), (fun _ => (fun _ => 0)), (fun _ => (fun _ => none)), plx8, hf_49, hB0, hB1, hB2, hB3, by rw [ht]; exact hP9, va_K.moved hW.alike hK, hD9⟩, hS.F ht⟩) hS.2.2 dX1_matchPlaces_94
    · skip
      have b_ := zF_lt rfl rfl c_
      refine W.widen (k := 0) (n := 0) (by decide) (by decide) ?_
      have hpost : True := trivial
      have hP9 : va_P (dC, dI) vwCl ([(h0, .inr (1, mX1 h1 h6 h13 h21 h36 h37 h39 h40 h41 h42 h43 h44 h45 h46 h47 h48 v0)), (h36, .inl (k36, 40, .inr (.inr (.inr (.inr f36))))), (h48, zi k41 n48 f48), (h41, zi k41 40 f41), (h21, .inr (3, mX3 h6 h22 h13 h31 h32 h33 h34 h35 v21)), (h13, .inr (7, mX7 h14 h15 h16 h17 h18 h19 h20 v13)), (h17, zi k17 40 f17), (h14, zi k14 40 f14), (h15, zi k15 40 f15), (h16, zi k16 40 f16), (h35, zi k35 300 f35), (h34, zi k34 832 f34), (h19, zi k19 160 f19), (h39, zi k39 40 f39), (h31, .inl (k31, 400, .inr (.inr (.inr (.inr f31)))))] ++ pl0) s.heap := hP
      have hD9 : va_D A ([(h0, .inr (1, mX1 h1 h6 h13 h21 h36 h37 h39 h40 h41 h42 h43 h44 h45 h46 h47 h48 v0)), (h36, .inl (k36, 40, .inr (.inr (.inr (.inr f36))))), (h48, zi k41 n48 f48), (h41, zi k41 40 f41), (h21, .inr (3, mX3 h6 h22 h13 h31 h32 h33 h34 h35 v21)), (h13, .inr (7, mX7 h14 h15 h16 h17 h18 h19 h20 v13)), (h17, zi k17 40 f17), (h14, zi k14 40 f14), (h15, zi k15 40 f15), (h16, zi k16 40 f16), (h35, zi k35 300 f35), (h34, zi k34 832 f34), (h19, zi k19 160 f19), (h39, zi k39 40 f39), (h31, .inl (k31, 400, .inr (.inr (.inr (.inr f31)))))] ++ pl0) := hD
      have hB0 : zRd h22 f31 pl0 := by assumption
      have hB1 : zPs k41 f36 pl0 := by assumption
      have hB2 : zOt pl0 pl0 := by first | assumption | exact zOt_rf
      have hB3 : zMp h22 k41 f36 pl0 pl0 f34 f35 f14 f15 f16 f19 f17 (v13 8).toInt (v21 9).toInt ((x1 : Int32)).toNatClampNeg (120 * x1.toInt + x2.toInt) ((n48 : Nat) : Int) f39 f39 f48 f48 f41 f41 := by first | exact zMp_n (Or.inl e_o5.symm) | exact zMp_n (Or.inr (by omega)) | exact False.elim (by omega) | exact zMp_i hzp5 e_pl5 hD0_ e_plx_ e_o5.symm hB36_0 (by omega) hX46_0 e_f_49 e_f_70 (Or.inl ⟨by decide, by omega⟩) e_f_93 e_z77 (fun q1_ q2_ => (zadd rfl zk_1 e_z92 (by omega) (by omega)).trans (congrArg (fun y_ : Int => z77.toInt + y_) (by decide))) | exact zMp_i hzp5 e_pl5 hD0_ e_plx_ e_o5.symm hB36_0 (by omega) hX46_0 e_f_49 e_f_70 (Or.inr ⟨by decide, by omega⟩) e_f_93 e_z77 (fun q1_ q2_ => (zadd rfl zk_0 e_z92 (by omega) (by omega)).trans (congrArg (fun y_ : Int => z77.toInt + y_) (by decide)))
      exact W.vret hx hb hr (fun t ht hW => ⟨⟨(fun _ => 0), rfl, hpost, (fun _ => 0), (fun i => ([f48, f41, f39] : List (Nat → Int32)).getD i (fun _ => 0)), (fun _ => (fun _ => 0)), (fun _ => (fun _ => none)), pl0, hf48, hB0, hB1, hB2, hB3, by rw [ht]; exact hP9, va_K.moved hW.alike hK, hD9⟩, hS.F ht⟩) hS.2.2 dX1_matchPlaces_29
