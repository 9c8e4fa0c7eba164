set_option maxHeartbeats 8000000 in
set_option maxRecDepth 100000 in
theorem sX6_bitsOfChunk_0 (l : Launch) (dC : Nat → ClassId) (dI : Nat → Nat → Nat) (adK adV : Nat → Nat) (sz : Nat) (x0 : Int32) : Met l yX6_bitsOfChunk (zw yX6_bitsOfChunk cX6_bitsOfChunk 1 (some .int)) { frames := 0, cells := 0, slots := 0, locals := 0 } (zPc dC dI adK adV [.int x0] sz [] []) (va_Qi (fun (r : Int32) (u : Nat → Int32) => (0 ≤ x0.toInt → zBs x0.toInt r.toInt)) (fun (u : Nat → Int32) (t : State) => ∃ (ww : Nat → Int64) (aa : Nat → Nat → Int32) (bb : Nat → Nat → Int64), va_P (dC, dI) vwCl [] t.heap ∧ va_K (dC, dI) vwCl [] t ∧ va_D (va_A [] sz) []) (va_A [] sz)) 0 0 (va_A [] sz) := by
  refine Met.ofW (cc := cX6_bitsOfChunk) (maxL := 1) (ret := (some .int)) (by decide) rfl ?_
  intro p e s m args below meth c s₁ B hml hv
  obtain ⟨rfl, hsz, hP, hK, hD0, hE, hZ⟩ := hv
  have hx := B.exec
  have hb := B.bytes
  have hr := B.returns
  have hG : ∀ w ∈ zG, w.before _ s = true := fun w h => atoms_spec (ws := (zw yX6_bitsOfChunk cX6_bitsOfChunk 1 (some .int))) B.pre w (List.mem_cons_of_mem _ h)
  have hown : s.vm.findClass RX6 = some m.cls := findClass_of_methodNamed B.named
  have hlocks := B.notSynchronized

  subst hsz
  have hD := hD0.self (sz := s.heap.size)
  generalize hAe : va_A [] s.heap.size = A at hD hZ ⊢
  have hA : ∀ q : Nat, s.heap.size ≤ q → A q := fun q h => by rw [← hAe]; exact Or.inr h
  have hS : va_S A s.heap s.heap [] := va_S.rf
  have hl := lv_entry ([.int x0]) (n := 1) (Nat.le_of_ble_eq_true rfl)
  rw [lg_entry_eq]
  generalize (lg_sl ([.int x0]) ++ List.replicate (1 - (lg_sl ([.int x0])).length) Slot.unset).toArray = ls at hl ⊢
  have hl : lv_has ls 1 [(0, .int x0)] := hl
  have b_ := zk_256
  refine lv_iload_n hx hb dX6_bitsOfChunk_0 rfl (lv_at hl 0 rfl) ?_
  refine lv_iconst (v := 3) hx hb dX6_bitsOfChunk_1 (by decide) ?_
  have b_ : -2147483648 ≤ x0.toInt ∧ x0.toInt ≤ 2147483647 := ⟨zlo _, zhi _⟩
  refine lv_icmp_ge (tgt := 12) hx hb dX6_bitsOfChunk_2 (by decide) (fun c_ => ?_) (fun c_ => ?_)
  · skip
    have b_ := zT_ge rfl zk_3 c_
    refine lv_sipush (v := 256) hx hb dX6_bitsOfChunk_12 (by decide) ?_
    refine W.widen (k := 0) (n := 0) (by decide) (by decide) ?_
    have hpost : (0 ≤ x0.toInt → zBs x0.toInt (256 : Int32).toInt) := by intro _; unfold zBs; omega
    have hP9 : va_P (dC, dI) vwCl [] s.heap := hP
    have hD9 : va_D A [] := hD
    exact W.iret (v := 256) hx hb hr (fun t ht hW => ⟨⟨256, (fun _ => 0), rfl, hpost, (fun _ => 0), (fun _ => (fun _ => 0)), (fun _ => (fun _ => 0)), by rw [ht]; exact hP9, va_K.moved hW.alike hK, hD9⟩, hS.F ht⟩) hS.2.2 dX6_bitsOfChunk_15
  · skip
    have b_ := zF_ge rfl zk_3 c_
    refine lv_bipush (v := 32) hx hb dX6_bitsOfChunk_5 (by decide) ?_
    refine lv_iload_n hx hb dX6_bitsOfChunk_7 rfl (lv_at hl 0 rfl) ?_
    refine lv_ishl hx hb dX6_bitsOfChunk_8 ?_
    refine lv_topi (fun z8 e_z8 => ?_)
    have b_ : 0 ≤ x0.toInt → (x0.toInt = 0 ∧ z8.toInt = 32) ∨ (x0.toInt = 1 ∧ z8.toInt = 64) ∨ (x0.toInt = 2 ∧ z8.toInt = 128) ∨ (x0.toInt = 3 ∧ z8.toInt = 256) := fun h => zshl32 e_z8 h (by omega)
    refine lv_goto (tgt := 15) hx hb dX6_bitsOfChunk_9 (by decide) ?_
    refine W.widen (k := 0) (n := 0) (by decide) (by decide) ?_
    have b_ : -2147483648 ≤ z8.toInt ∧ z8.toInt ≤ 2147483647 := ⟨zlo _, zhi _⟩
    have hpost : (0 ≤ x0.toInt → zBs x0.toInt z8.toInt) := by intro _; unfold zBs; omega
    have hP9 : va_P (dC, dI) vwCl [] s.heap := hP
    have hD9 : va_D A [] := hD
    exact W.iret (v := z8) hx hb hr (fun t ht hW => ⟨⟨z8, (fun _ => 0), rfl, hpost, (fun _ => 0), (fun _ => (fun _ => 0)), (fun _ => (fun _ => 0)), by rw [ht]; exact hP9, va_K.moved hW.alike hK, hD9⟩, hS.F ht⟩) hS.2.2 dX6_bitsOfChunk_15
set_option maxHeartbeats 8000000 in
set_option maxRecDepth 100000 in
theorem sX6_chunkBehind_0 (l : Launch) (dC : Nat → ClassId) (dI : Nat → Nat → Nat) (adK adV : Nat → Nat) (h0 : Nat) (h3 : Nat) (h1 : Nat) (h2 : Nat) (h4 : Nat) (h5 : Nat) (h6 : Nat) (h7 : Nat) (h8 : Nat) (k3 : ClassId) (sz : Nat) (v0 : Nat → Int32) (f3 : Nat → Int32) (x1 : Int32) (hv0 : zR rg_Postings v0) : Met l yX6_chunkBehind (zw yX6_chunkBehind cX6_chunkBehind 2 (some .int)) { frames := 0, cells := 0, slots := 0, locals := 0 } (zPc dC dI adK adV [.ref h0, .int x1] sz [(h0, .inr (6, mX6 h1 h2 h3 h4 h5 h6 h7 h8 v0)), (h3, zi k3 833 f3)] [(k3, .int)]) (va_Qi (fun (r : Int32) (u : Nat → Int32) => (0 ≤ x1.toInt ∧ x1.toInt < (v0 8).toInt → r.toInt = (f3 ((x1 : Int32)).toNatClampNeg).toInt)) (fun (u : Nat → Int32) (t : State) => ∃ (ww : Nat → Int64) (aa : Nat → Nat → Int32) (bb : Nat → Nat → Int64), va_P (dC, dI) vwCl [(h0, .inr (6, mX6 h1 h2 h3 h4 h5 h6 h7 h8 v0)), (h3, zi k3 833 f3)] t.heap ∧ va_K (dC, dI) vwCl [(k3, .int)] t ∧ va_D (va_A [(h0, .inr (6, mX6 h1 h2 h3 h4 h5 h6 h7 h8 v0)), (h3, zi k3 833 f3)] sz) [(h0, .inr (6, mX6 h1 h2 h3 h4 h5 h6 h7 h8 v0)), (h3, zi k3 833 f3)]) (va_A [(h0, .inr (6, mX6 h1 h2 h3 h4 h5 h6 h7 h8 v0)), (h3, zi k3 833 f3)] sz)) 0 0 (va_A [(h0, .inr (6, mX6 h1 h2 h3 h4 h5 h6 h7 h8 v0)), (h3, zi k3 833 f3)] sz) := by
  refine Met.ofW (cc := cX6_chunkBehind) (maxL := 2) (ret := (some .int)) (by decide) rfl ?_
  intro p e s m args below meth c s₁ B hml hv
  obtain ⟨rfl, hsz, hP, hK, hD0, hE, hZ⟩ := hv
  have hx := B.exec
  have hb := B.bytes
  have hr := B.returns
  have hG : ∀ w ∈ zG, w.before _ s = true := fun w h => atoms_spec (ws := (zw yX6_chunkBehind cX6_chunkBehind 2 (some .int))) B.pre w (List.mem_cons_of_mem _ h)
  have hown : s.vm.findClass RX6 = some m.cls := findClass_of_methodNamed B.named
  have hlocks := B.notSynchronized

  subst hsz
  have hD := hD0.self (sz := s.heap.size)
  generalize hAe : va_A [(h0, .inr (6, mX6 h1 h2 h3 h4 h5 h6 h7 h8 v0)), (h3, zi k3 833 f3)] s.heap.size = A at hD hZ ⊢
  have hA : ∀ q : Nat, s.heap.size ≤ q → A q := fun q h => by rw [← hAe]; exact Or.inr h
  have hS : va_S A s.heap s.heap [] := va_S.rf
  have hl := lv_entry ([.ref h0, .int x1]) (n := 2) (Nat.le_of_ble_eq_true rfl)
  rw [lg_entry_eq]
  generalize (lg_sl ([.ref h0, .int x1]) ++ List.replicate (2 - (lg_sl ([.ref h0, .int x1])).length) Slot.unset).toArray = ls at hl ⊢
  have hl : lv_has ls 2 [(0, .ref h0), (1, .int x1)] := hl
  have b_ := zk_m1
  have b_ : 0 ≤ (v0 8).toInt ∧ (v0 8).toInt ≤ 833 := hv0 8
  refine lv_iload_n hx hb dX6_chunkBehind_0 rfl (lv_at hl 1 rfl) ?_
  have b_ : -2147483648 ≤ x1.toInt ∧ x1.toInt ≤ 2147483647 := ⟨zlo _, zhi _⟩
  refine lv_if_lt (tgt := 21) hx hb dX6_chunkBehind_1 (by decide) (fun c_ => ?_) (fun c_ => ?_)
  · skip
    have b_ := zT_lt rfl zk_0 c_
    refine lv_iconst (v := (-1)) hx hb dX6_chunkBehind_21 (by decide) ?_
    refine W.widen (k := 0) (n := 0) (by decide) (by decide) ?_
    have hpost : (0 ≤ x1.toInt ∧ x1.toInt < (v0 8).toInt → ((-1) : Int32).toInt = (f3 ((x1 : Int32)).toNatClampNeg).toInt) := by first | (intro q; rw [e_z17]) | (intro q; omega)
    have hP9 : va_P (dC, dI) vwCl [(h0, .inr (6, mX6 h1 h2 h3 h4 h5 h6 h7 h8 v0)), (h3, zi k3 833 f3)] s.heap := hP
    have hD9 : va_D A [(h0, .inr (6, mX6 h1 h2 h3 h4 h5 h6 h7 h8 v0)), (h3, zi k3 833 f3)] := hD
    exact W.iret (v := (-1)) hx hb hr (fun t ht hW => ⟨⟨(-1), (fun _ => 0), rfl, hpost, (fun _ => 0), (fun _ => (fun _ => 0)), (fun _ => (fun _ => 0)), by rw [ht]; exact hP9, va_K.moved hW.alike hK, hD9⟩, hS.F ht⟩) hS.2.2 dX6_chunkBehind_22
  · skip
    have b_ := zF_lt rfl zk_0 c_
    refine lv_iload_n hx hb dX6_chunkBehind_4 rfl (lv_at hl 1 rfl) ?_
    refine lv_aload_n hx hb dX6_chunkBehind_5 rfl (lv_at hl 0 rfl) ?_
    refine va_get (D := (dC, dI)) (ci := 6) (v := .int (v0 8)) (C := RX6) (T := TX6) (N := 12) hx hb hG zuX6 hown hK hP 0 rfl rfl 8 (by decide) (hG _ zv256) (fun _ h9 => h9) rfl dX6_chunkBehind_6 ?_
    refine lv_icmp_ge (tgt := 21) hx hb dX6_chunkBehind_9 (by decide) (fun c_ => ?_) (fun c_ => ?_)
    · skip
      have b_ := zT_ge rfl rfl c_
      refine lv_iconst (v := (-1)) hx hb dX6_chunkBehind_21 (by decide) ?_
      refine W.widen (k := 0) (n := 0) (by decide) (by decide) ?_
      have hpost : (0 ≤ x1.toInt ∧ x1.toInt < (v0 8).toInt → ((-1) : Int32).toInt = (f3 ((x1 : Int32)).toNatClampNeg).toInt) := by first | (intro q; rw [e_z17]) | (intro q; omega)
      have hP9 : va_P (dC, dI) vwCl [(h0, .inr (6, mX6 h1 h2 h3 h4 h5 h6 h7 h8 v0)), (h3, zi k3 833 f3)] s.heap := hP
      have hD9 : va_D A [(h0, .inr (6, mX6 h1 h2 h3 h4 h5 h6 h7 h8 v0)), (h3, zi k3 833 f3)] := hD
      exact W.iret (v := (-1)) hx hb hr (fun t ht hW => ⟨⟨(-1), (fun _ => 0), rfl, hpost, (fun _ => 0), (fun _ => (fun _ => 0)), (fun _ => (fun _ => 0)), by rw [ht]; exact hP9, va_K.moved hW.alike hK, hD9⟩, hS.F ht⟩) hS.2.2 dX6_chunkBehind_22
    · skip
      have b_ := zF_ge rfl rfl c_
      refine lv_aload_n hx hb dX6_chunkBehind_12 rfl (lv_at hl 0 rfl) ?_
      refine va_get (D := (dC, dI)) (ci := 6) (v := .ref h3) (C := RX6) (T := TX6) (N := 12) hx hb hG zuX6 hown hK hP 0 rfl rfl 2 (by decide) (hG _ zv250) (fun _ h9 => h9) rfl dX6_chunkBehind_13 ?_
      refine lv_iload_n hx hb dX6_chunkBehind_16 rfl (lv_at hl 1 rfl) ?_
      refine va_iald hx hb hK hP 1 0 rfl rfl (zin_lit ⟨by omega, by omega⟩) dX6_chunkBehind_17 ?_
      refine lv_topi (fun z17 e_z17 => ?_)
      refine lv_goto (tgt := 22) hx hb dX6_chunkBehind_18 (by decide) ?_
      refine W.widen (k := 0) (n := 0) (by decide) (by decide) ?_
      have b_ : -2147483648 ≤ z17.toInt ∧ z17.toInt ≤ 2147483647 := ⟨zlo _, zhi _⟩
      have hpost : (0 ≤ x1.toInt ∧ x1.toInt < (v0 8).toInt → z17.toInt = (f3 ((x1 : Int32)).toNatClampNeg).toInt) := by first | (intro q; rw [e_z17]) | (intro q; omega)
      have hP9 : va_P (dC, dI) vwCl [(h0, .inr (6, mX6 h1 h2 h3 h4 h5 h6 h7 h8 v0)), (h3, zi k3 833 f3)] s.heap := hP
      have hD9 : va_D A [(h0, .inr (6, mX6 h1 h2 h3 h4 h5 h6 h7 h8 v0)), (h3, zi k3 833 f3)] := hD
      exact W.iret (v := z17) hx hb hr (fun t ht hW => ⟨⟨z17, (fun _ => 0), rfl, hpost, (fun _ => 0), (fun _ => (fun _ => 0)), (fun _ => (fun _ => 0)), by rw [ht]; exact hP9, va_K.moved hW.alike hK, hD9⟩, hS.F ht⟩) hS.2.2 dX6_chunkBehind_22
set_option maxHeartbeats 8000000 in
set_option maxRecDepth 100000 in
theorem sX6_bitInChunk_0 (l : Launch) (dC : Nat → ClassId) (dI : Nat → Nat → Nat) (adK adV : Nat → Nat) (h0 : Nat) (h2 : Nat) (h1 : Nat) (h3 : Nat) (h4 : Nat) (h5 : Nat) (h6 : Nat) (h7 : Nat) (h8 : Nat) (k2 : ClassId) (k1 : ClassId) (sz : Nat) (v0 : Nat → Int32) (f2 : Nat → Int32) (f1 : Nat → Int32) (x1 : Int32) (x2 : Int32) (hv0 : zR rg_Postings v0) (hf2 : zA 0 1250 f2) : Met l yX6_bitInChunk (zw yX6_bitInChunk cX6_bitInChunk 4 (some .int)) { frames := 0, cells := 0, slots := 0, locals := 0 } (zPc dC dI adK adV [.ref h0, .int x1, .int x2] sz [(h0, .inr (6, mX6 h1 h2 h3 h4 h5 h6 h7 h8 v0)), (h2, zi k2 833 f2), (h1, zi k1 1250 f1)] [(k2, .int), (k1, .int)]) (va_Qi (fun (r : Int32) (u : Nat → Int32) => (0 ≤ r.toInt ∧ r.toInt ≤ 1) ∧ (zBi f1 f2 (v0 8).toInt (x1 : Int32) x2.toInt r.toInt)) (fun (u : Nat → Int32) (t : State) => ∃ (ww : Nat → Int64) (aa : Nat → Nat → Int32) (bb : Nat → Nat → Int64), va_P (dC, dI) vwCl [(h0, .inr (6, mX6 h1 h2 h3 h4 h5 h6 h7 h8 v0)), (h2, zi k2 833 f2), (h1, zi k1 1250 f1)] t.heap ∧ va_K (dC, dI) vwCl [(k2, .int), (k1, .int)] t ∧ va_D (va_A [(h0, .inr (6, mX6 h1 h2 h3 h4 h5 h6 h7 h8 v0)), (h2, zi k2 833 f2), (h1, zi k1 1250 f1)] sz) [(h0, .inr (6, mX6 h1 h2 h3 h4 h5 h6 h7 h8 v0)), (h2, zi k2 833 f2), (h1, zi k1 1250 f1)]) (va_A [(h0, .inr (6, mX6 h1 h2 h3 h4 h5 h6 h7 h8 v0)), (h2, zi k2 833 f2), (h1, zi k1 1250 f1)] sz)) 0 0 (va_A [(h0, .inr (6, mX6 h1 h2 h3 h4 h5 h6 h7 h8 v0)), (h2, zi k2 833 f2), (h1, zi k1 1250 f1)] sz) := by
  refine Met.ofW (cc := cX6_bitInChunk) (maxL := 4) (ret := (some .int)) (by decide) rfl ?_
  intro p e s m args below meth c s₁ B hml hv
  obtain ⟨rfl, hsz, hP, hK, hD0, hE, hZ⟩ := hv
  have hx := B.exec
  have hb := B.bytes
  have hr := B.returns
  have hG : ∀ w ∈ zG, w.before _ s = true := fun w h => atoms_spec (ws := (zw yX6_bitInChunk cX6_bitInChunk 4 (some .int))) B.pre w (List.mem_cons_of_mem _ h)
  have hown : s.vm.findClass RX6 = some m.cls := findClass_of_methodNamed B.named
  have hlocks := B.notSynchronized

  subst hsz
  have hD := hD0.self (sz := s.heap.size)
  generalize hAe : va_A [(h0, .inr (6, mX6 h1 h2 h3 h4 h5 h6 h7 h8 v0)), (h2, zi k2 833 f2), (h1, zi k1 1250 f1)] s.heap.size = A at hD hZ ⊢
  have hA : ∀ q : Nat, s.heap.size ≤ q → A q := fun q h => by rw [← hAe]; exact Or.inr h
  have hS : va_S A s.heap s.heap [] := va_S.rf
  have hl := lv_entry ([.ref h0, .int x1, .int x2]) (n := 4) (Nat.le_of_ble_eq_true rfl)
  rw [lg_entry_eq]
  generalize (lg_sl ([.ref h0, .int x1, .int x2]) ++ List.replicate (4 - (lg_sl ([.ref h0, .int x1, .int x2])).length) Slot.unset).toArray = ls at hl ⊢
  have hl : lv_has ls 4 [(0, .ref h0), (1, .int x1), (2, .int x2)] := hl
  have b_ := zk_0
  have b_ : 0 ≤ (v0 8).toInt ∧ (v0 8).toInt ≤ 833 := hv0 8
  refine lv_iload_n hx hb dX6_bitInChunk_0 rfl (lv_at hl 1 rfl) ?_
  have b_ : -2147483648 ≤ x1.toInt ∧ x1.toInt ≤ 2147483647 := ⟨zlo _, zhi _⟩
  refine lv_if_lt (tgt := 16) hx hb dX6_bitInChunk_1 (by decide) (fun c_ => ?_) (fun c_ => ?_)
  · skip
    have b_ := zT_lt rfl zk_0 c_
    refine lv_iconst (v := 0) hx hb dX6_bitInChunk_16 (by decide) ?_
    refine W.widen (k := 0) (n := 0) (by decide) (by decide) ?_
    have hpost : (0 ≤ (0 : Int32).toInt ∧ (0 : Int32).toInt ≤ 1) ∧ (zBi f1 f2 (v0 8).toInt (x1 : Int32) x2.toInt (0 : Int32).toInt) := ⟨(by first | with_reducible assumption | exact ⟨by omega, by omega⟩), by first | exact zBi_i e_z44 (by rw [← e_z23]; omega) (by omega) e_z52 e_z54 (by omega) | exact zBi_o (P := z28) (by rw [← e_z23]; omega) (by omega) | exact zBi_x (by omega)⟩
    have hP9 : va_P (dC, dI) vwCl [(h0, .inr (6, mX6 h1 h2 h3 h4 h5 h6 h7 h8 v0)), (h2, zi k2 833 f2), (h1, zi k1 1250 f1)] s.heap := hP
    have hD9 : va_D A [(h0, .inr (6, mX6 h1 h2 h3 h4 h5 h6 h7 h8 v0)), (h2, zi k2 833 f2), (h1, zi k1 1250 f1)] := hD
    exact W.iret (v := 0) hx hb hr (fun t ht hW => ⟨⟨0, (fun _ => 0), rfl, hpost, (fun _ => 0), (fun _ => (fun _ => 0)), (fun _ => (fun _ => 0)), by rw [ht]; exact hP9, va_K.moved hW.alike hK, hD9⟩, hS.F ht⟩) hS.2.2 dX6_bitInChunk_17
  · skip
    have b_ := zF_lt rfl zk_0 c_
    refine lv_iload_n hx hb dX6_bitInChunk_4 rfl (lv_at hl 1 rfl) ?_
    refine lv_aload_n hx hb dX6_bitInChunk_5 rfl (lv_at hl 0 rfl) ?_
    refine va_get (D := (dC, dI)) (ci := 6) (v := .int (v0 8)) (C := RX6) (T := TX6) (N := 12) hx hb hG zuX6 hown hK hP 0 rfl rfl 8 (by decide) (hG _ zv256) (fun _ h9 => h9) rfl dX6_bitInChunk_6 ?_
    refine lv_icmp_ge (tgt := 16) hx hb dX6_bitInChunk_9 (by decide) (fun c_ => ?_) (fun c_ => ?_)
    · skip
      have b_ := zT_ge rfl rfl c_
      refine lv_iconst (v := 0) hx hb dX6_bitInChunk_16 (by decide) ?_
      refine W.widen (k := 0) (n := 0) (by decide) (by decide) ?_
      have hpost : (0 ≤ (0 : Int32).toInt ∧ (0 : Int32).toInt ≤ 1) ∧ (zBi f1 f2 (v0 8).toInt (x1 : Int32) x2.toInt (0 : Int32).toInt) := ⟨(by first | with_reducible assumption | exact ⟨by omega, by omega⟩), by first | exact zBi_i e_z44 (by rw [← e_z23]; omega) (by omega) e_z52 e_z54 (by omega) | exact zBi_o (P := z28) (by rw [← e_z23]; omega) (by omega) | exact zBi_x (by omega)⟩
      have hP9 : va_P (dC, dI) vwCl [(h0, .inr (6, mX6 h1 h2 h3 h4 h5 h6 h7 h8 v0)), (h2, zi k2 833 f2), (h1, zi k1 1250 f1)] s.heap := hP
      have hD9 : va_D A [(h0, .inr (6, mX6 h1 h2 h3 h4 h5 h6 h7 h8 v0)), (h2, zi k2 833 f2), (h1, zi k1 1250 f1)] := hD
      exact W.iret (v := 0) hx hb hr (fun t ht hW => ⟨⟨0, (fun _ => 0), rfl, hpost, (fun _ => 0), (fun _ => (fun _ => 0)), (fun _ => (fun _ => 0)), by rw [ht]; exact hP9, va_K.moved hW.alike hK, hD9⟩, hS.F ht⟩) hS.2.2 dX6_bitInChunk_17
    · skip
      have b_ := zF_ge rfl rfl c_
      refine lv_iload_n hx hb dX6_bitInChunk_12 rfl (lv_at hl 2 rfl) ?_
      have b_ : -2147483648 ≤ x2.toInt ∧ x2.toInt ≤ 2147483647 := ⟨zlo _, zhi _⟩
      refine lv_if_ge (tgt := 18) hx hb dX6_bitInChunk_13 (by decide) (fun c_ => ?_) (fun c_ => ?_)
      · skip
        have b_ := zT_ge rfl zk_0 c_
        refine lv_aload_n hx hb dX6_bitInChunk_18 rfl (lv_at hl 0 rfl) ?_
        refine va_get (D := (dC, dI)) (ci := 6) (v := .ref h2) (C := RX6) (T := TX6) (N := 12) hx hb hG zuX6 hown hK hP 0 rfl rfl 1 (by decide) (hG _ zv249) (fun _ h9 => h9) rfl dX6_bitInChunk_19 ?_
        refine lv_iload_n hx hb dX6_bitInChunk_22 rfl (lv_at hl 1 rfl) ?_
        refine va_iald hx hb hK hP 1 0 rfl rfl (zin_lit ⟨by omega, by omega⟩) dX6_bitInChunk_23 ?_
        refine lv_topi (fun z23 e_z23 => ?_)
        have b_ : 0 ≤ z23.toInt ∧ z23.toInt ≤ 1250 := by rw [e_z23]; exact hf2 _
        refine lv_iload_n hx hb dX6_bitInChunk_24 rfl (lv_at hl 2 rfl) ?_
        refine lv_bipush (v := 32) hx hb dX6_bitInChunk_25 (by decide) ?_
        refine lv_idiv hx hb dX6_bitInChunk_27 (by decide) ?_
        refine lv_topi (fun z27 e_z27 => ?_)
        have b_ := zdiv rfl zk_32 e_z27 (by omega) (by decide)
        refine lv_iadd hx hb dX6_bitInChunk_28 ?_
        refine lv_topi (fun z28 e_z28 => ?_)
        have b_ := zadd rfl rfl e_z28 (by omega) (by omega)
        refine lv_istore_n (lv' := [(3, .int z28), (0, .ref h0), (1, .int x1), (2, .int x2)]) hx hb dX6_bitInChunk_29 rfl hl (by decide) rfl (fun ls hl => ?_)
        refine lv_iload_n hx hb dX6_bitInChunk_30 rfl (lv_at hl 0 rfl) ?_
        refine lv_aload_n hx hb dX6_bitInChunk_31 rfl (lv_at hl 1 rfl) ?_
        refine va_get (D := (dC, dI)) (ci := 6) (v := .ref h1) (C := RX6) (T := TX6) (N := 12) hx hb hG zuX6 hown hK hP 0 rfl rfl 0 (by decide) (hG _ zv248) (fun _ h9 => h9) rfl dX6_bitInChunk_32 ?_
        refine va_alen (v := 1250) hx hb hK hP 2 1 rfl rfl (show Int32.ofNat 1250 = 1250 from by decide +kernel) dX6_bitInChunk_35 ?_
        refine lv_icmp_ge (tgt := 58) hx hb dX6_bitInChunk_36 (by decide) (fun c_ => ?_) (fun c_ => ?_)
        · skip
          have b_ := zT_ge rfl zk_1250 c_
          refine lv_iconst (v := 0) hx hb dX6_bitInChunk_58 (by decide) ?_
          refine W.widen (k := 0) (n := 0) (by decide) (by decide) ?_
          have hpost : (0 ≤ (0 : Int32).toInt ∧ (0 : Int32).toInt ≤ 1) ∧ (zBi f1 f2 (v0 8).toInt (x1 : Int32) x2.toInt (0 : Int32).toInt) := ⟨(by first | with_reducible assumption | exact ⟨by omega, by omega⟩), by first | exact zBi_i e_z44 (by rw [← e_z23]; omega) (by omega) e_z52 e_z54 (by omega) | exact zBi_o (P := z28) (by rw [← e_z23]; omega) (by omega) | exact zBi_x (by omega)⟩
          have hP9 : va_P (dC, dI) vwCl [(h0, .inr (6, mX6 h1 h2 h3 h4 h5 h6 h7 h8 v0)), (h2, zi k2 833 f2), (h1, zi k1 1250 f1)] s.heap := hP
          have hD9 : va_D A [(h0, .inr (6, mX6 h1 h2 h3 h4 h5 h6 h7 h8 v0)), (h2, zi k2 833 f2), (h1, zi k1 1250 f1)] := hD
          exact W.iret (v := 0) hx hb hr (fun t ht hW => ⟨⟨0, (fun _ => 0), rfl, hpost, (fun _ => 0), (fun _ => (fun _ => 0)), (fun _ => (fun _ => 0)), by rw [ht]; exact hP9, va_K.moved hW.alike hK, hD9⟩, hS.F ht⟩) hS.2.2 dX6_bitInChunk_59
        · skip
          have b_ := zF_ge rfl zk_1250 c_
          refine lv_aload_n hx hb dX6_bitInChunk_39 rfl (lv_at hl 1 rfl) ?_
          refine va_get (D := (dC, dI)) (ci := 6) (v := .ref h1) (C := RX6) (T := TX6) (N := 12) hx hb hG zuX6 hown hK hP 0 rfl rfl 0 (by decide) (hG _ zv248) (fun _ h9 => h9) rfl dX6_bitInChunk_40 ?_
          refine lv_iload_n hx hb dX6_bitInChunk_43 rfl (lv_at hl 0 rfl) ?_
          refine va_iald hx hb hK hP 2 1 rfl rfl (zin_lit ⟨by omega, by omega⟩) dX6_bitInChunk_44 ?_
          refine lv_topi (fun z44 e_z44 => ?_)
          refine lv_bipush (v := 31) hx hb dX6_bitInChunk_45 (by decide) ?_
          refine lv_iload_n hx hb dX6_bitInChunk_47 rfl (lv_at hl 3 rfl) ?_
          refine lv_bipush (v := 32) hx hb dX6_bitInChunk_48 (by decide) ?_
          refine lv_irem hx hb dX6_bitInChunk_50 (by decide) ?_
          refine lv_topi (fun z50 e_z50 => ?_)
          have b_ := zrem rfl zk_32 e_z50 (by omega) (by decide)
          refine lv_isub hx hb dX6_bitInChunk_51 ?_
          refine lv_topi (fun z51 e_z51 => ?_)
          have b_ := zsub zk_31 rfl e_z51 (by omega) (by omega)
          have b_ : -2147483648 ≤ z44.toInt ∧ z44.toInt ≤ 2147483647 := ⟨zlo _, zhi _⟩
          refine lv_iushr hx hb dX6_bitInChunk_52 rfl ?_
          refine lv_topi (fun z52 e_z52 => ?_)
          refine lv_iconst (v := 1) hx hb dX6_bitInChunk_53 (by decide) ?_
          have b_ : -2147483648 ≤ z52.toInt ∧ z52.toInt ≤ 2147483647 := ⟨zlo _, zhi _⟩
          refine lv_iand hx hb dX6_bitInChunk_54 ?_
          refine lv_topi (fun z54 e_z54 => ?_)
          have b_ := zand (x := z52) zk_1 e_z54 (by decide)
          refine lv_goto (tgt := 59) hx hb dX6_bitInChunk_55 (by decide) ?_
          refine W.widen (k := 0) (n := 0) (by decide) (by decide) ?_
          have hpost : (0 ≤ z54.toInt ∧ z54.toInt ≤ 1) ∧ (zBi f1 f2 (v0 8).toInt (x1 : Int32) x2.toInt z54.toInt) := ⟨(by first | with_reducible assumption | exact ⟨by omega, by omega⟩), by first | exact zBi_i e_z44 (by rw [← e_z23]; omega) (by omega) e_z52 e_z54 (by omega) | exact zBi_o (P := z28) (by rw [← e_z23]; omega) (by omega) | exact zBi_x (by omega)⟩
          have hP9 : va_P (dC, dI) vwCl [(h0, .inr (6, mX6 h1 h2 h3 h4 h5 h6 h7 h8 v0)), (h2, zi k2 833 f2), (h1, zi k1 1250 f1)] s.heap := hP
          have hD9 : va_D A [(h0, .inr (6, mX6 h1 h2 h3 h4 h5 h6 h7 h8 v0)), (h2, zi k2 833 f2), (h1, zi k1 1250 f1)] := hD
          exact W.iret (v := z54) hx hb hr (fun t ht hW => ⟨⟨z54, (fun _ => 0), rfl, hpost, (fun _ => 0), (fun _ => (fun _ => 0)), (fun _ => (fun _ => 0)), by rw [ht]; exact hP9, va_K.moved hW.alike hK, hD9⟩, hS.F ht⟩) hS.2.2 dX6_bitInChunk_59
      · skip
        have b_ := zF_ge rfl zk_0 c_
        refine lv_iconst (v := 0) hx hb dX6_bitInChunk_16 (by decide) ?_
        refine W.widen (k := 0) (n := 0) (by decide) (by decide) ?_
        have hpost : (0 ≤ (0 : Int32).toInt ∧ (0 : Int32).toInt ≤ 1) ∧ (zBi f1 f2 (v0 8).toInt (x1 : Int32) x2.toInt (0 : Int32).toInt) := ⟨(by first | with_reducible assumption | exact ⟨by omega, by omega⟩), by first | exact zBi_i e_z44 (by rw [← e_z23]; omega) (by omega) e_z52 e_z54 (by omega) | exact zBi_o (P := z28) (by rw [← e_z23]; omega) (by omega) | exact zBi_x (by omega)⟩
        have hP9 : va_P (dC, dI) vwCl [(h0, .inr (6, mX6 h1 h2 h3 h4 h5 h6 h7 h8 v0)), (h2, zi k2 833 f2), (h1, zi k1 1250 f1)] s.heap := hP
        have hD9 : va_D A [(h0, .inr (6, mX6 h1 h2 h3 h4 h5 h6 h7 h8 v0)), (h2, zi k2 833 f2), (h1, zi k1 1250 f1)] := hD
        exact W.iret (v := 0) hx hb hr (fun t ht hW => ⟨⟨0, (fun _ => 0), rfl, hpost, (fun _ => 0), (fun _ => (fun _ => 0)), (fun _ => (fun _ => 0)), by rw [ht]; exact hP9, va_K.moved hW.alike hK, hD9⟩, hS.F ht⟩) hS.2.2 dX6_bitInChunk_17
set_option maxHeartbeats 8000000 in
set_option maxRecDepth 100000 in
theorem sX8_oneBit_0 (l : Launch) (dC : Nat → ClassId) (dI : Nat → Nat → Nat) (adK adV : Nat → Nat) (h0 : Nat) (h1 : Nat) (h4 : Nat) (h3 : Nat) (h2 : Nat) (h5 : Nat) (h6 : Nat) (h7 : Nat) (h8 : Nat) (h9 : Nat) (k4 : ClassId) (k3 : ClassId) (k2 : ClassId) (k5 : ClassId) (k6 : ClassId) (k7 : ClassId) (sz : Nat) (v0 : Nat → Int32) (v1 : Nat → Int32) (f4 : Nat → Int32) (f3 : Nat → Int32) (f2 : Nat → Int32) (f5 : Nat → Int32) (f6 : Nat → Int32) (f7 : Nat → Int32) (hv1 : zR rg_Postings v1) (hf3 : zA 0 1250 f3) (hf6 : zA 0 832 f6) : Met l yX8_oneBit (zw yX8_oneBit cX8_oneBit 2 (some .int)) { frames := 1, cells := 0, slots := 0, locals := 23 } (zPc dC dI adK adV [.ref h0] sz [(h0, .inr (8, mX8 h1 v0)), (h1, .inr (6, mX6 h2 h3 h4 h5 h6 h7 h8 h9 v1)), (h4, zi k4 833 f4), (h3, zi k3 833 f3), (h2, zi k2 1250 f2), (h5, zi k5 400 f5), (h6, zi k6 400 f6), (h7, zi k7 400 f7)] [(k4, .int), (k3, .int), (k2, .int), (k5, .int), (k6, .int), (k7, .int)]) (va_Qi (fun (r : Int32) (u : Nat → Int32) => (0 ≤ r.toInt ∧ r.toInt ≤ 1) ∧ ((-2147483648) ≤ (u 0).toInt ∧ (u 0).toInt ≤ 2147483646) ∧ (zOb f2 f3 f4 f5 f6 f7 (v1 8).toInt (v1 9).toInt (v1 10).toInt (v1 11).toInt (v0 1).toInt (v0 2).toInt (v0 3).toInt (v0 4).toInt (u 0).toInt (u 1).toInt (u 2).toInt (u 3).toInt r.toInt)) (fun (u : Nat → Int32) (t : State) => ∃ (ww : Nat → Int64) (aa : Nat → Nat → Int32) (bb : Nat → Nat → Int64), va_P (dC, dI) vwCl [(h0, .inr (8, mX8 h1 (upd (upd (upd (upd v0 1 (u 0)) 2 (u 1)) 3 (u 2)) 4 (u 3)))), (h1, .inr (6, mX6 h2 h3 h4 h5 h6 h7 h8 h9 v1)), (h4, zi k4 833 f4), (h3, zi k3 833 f3), (h2, zi k2 1250 f2), (h5, zi k5 400 f5), (h6, zi k6 400 f6), (h7, zi k7 400 f7)] t.heap ∧ va_K (dC, dI) vwCl [(k4, .int), (k3, .int), (k2, .int), (k5, .int), (k6, .int), (k7, .int)] t ∧ va_D (va_A [(h0, .inr (8, mX8 h1 v0)), (h1, .inr (6, mX6 h2 h3 h4 h5 h6 h7 h8 h9 v1)), (h4, zi k4 833 f4), (h3, zi k3 833 f3), (h2, zi k2 1250 f2), (h5, zi k5 400 f5), (h6, zi k6 400 f6), (h7, zi k7 400 f7)] sz) [(h0, .inr (8, mX8 h1 (upd (upd (upd (upd v0 1 (u 0)) 2 (u 1)) 3 (u 2)) 4 (u 3)))), (h1, .inr (6, mX6 h2 h3 h4 h5 h6 h7 h8 h9 v1)), (h4, zi k4 833 f4), (h3, zi k3 833 f3), (h2, zi k2 1250 f2), (h5, zi k5 400 f5), (h6, zi k6 400 f6), (h7, zi k7 400 f7)]) (va_A [(h0, .inr (8, mX8 h1 v0)), (h1, .inr (6, mX6 h2 h3 h4 h5 h6 h7 h8 h9 v1)), (h4, zi k4 833 f4), (h3, zi k3 833 f3), (h2, zi k2 1250 f2), (h5, zi k5 400 f5), (h6, zi k6 400 f6), (h7, zi k7 400 f7)] sz)) 0 0 (va_A [(h0, .inr (8, mX8 h1 v0)), (h1, .inr (6, mX6 h2 h3 h4 h5 h6 h7 h8 h9 v1)), (h4, zi k4 833 f4), (h3, zi k3 833 f3), (h2, zi k2 1250 f2), (h5, zi k5 400 f5), (h6, zi k6 400 f6), (h7, zi k7 400 f7)] sz) := by
  refine Met.ofW (cc := cX8_oneBit) (maxL := 2) (ret := (some .int)) (by decide) rfl ?_
  intro p e s m args below meth c s₁ B hml hv
  obtain ⟨rfl, hsz, hP, hK, hD0, hE, hZ⟩ := hv
  have hx := B.exec
  have hb := B.bytes
  have hr := B.returns
  have hG : ∀ w ∈ zG, w.before _ s = true := fun w h => atoms_spec (ws := (zw yX8_oneBit cX8_oneBit 2 (some .int))) B.pre w (List.mem_cons_of_mem _ h)
  have hown : s.vm.findClass RX8 = some m.cls := findClass_of_methodNamed B.named
  have hlocks := B.notSynchronized

  subst hsz
  have hD := hD0.self (sz := s.heap.size)
  generalize hAe : va_A [(h0, .inr (8, mX8 h1 v0)), (h1, .inr (6, mX6 h2 h3 h4 h5 h6 h7 h8 h9 v1)), (h4, zi k4 833 f4), (h3, zi k3 833 f3), (h2, zi k2 1250 f2), (h5, zi k5 400 f5), (h6, zi k6 400 f6), (h7, zi k7 400 f7)] s.heap.size = A at hD hZ ⊢
  have hA : ∀ q : Nat, s.heap.size ≤ q → A q := fun q h => by rw [← hAe]; exact Or.inr h
  have hS : va_S A s.heap s.heap [] := va_S.rf
  have hl := lv_entry ([.ref h0]) (n := 2) (Nat.le_of_ble_eq_true rfl)
  rw [lg_entry_eq]
  generalize (lg_sl ([.ref h0]) ++ List.replicate (2 - (lg_sl ([.ref h0])).length) Slot.unset).toArray = ls at hl ⊢
  have hl : lv_has ls 2 [(0, .ref h0)] := hl
  have b_ := zk_0
  have b_ : 0 ≤ (v1 8).toInt ∧ (v1 8).toInt ≤ 833 := hv1 8
  have b_ : 0 ≤ (v1 9).toInt ∧ (v1 9).toInt ≤ 1250 := hv1 9
  have b_ : -2147483648 ≤ (v1 10).toInt ∧ (v1 10).toInt ≤ 2147483647 := ⟨zlo _, zhi _⟩
  have b_ : -2147483648 ≤ (v1 11).toInt ∧ (v1 11).toInt ≤ 2147483647 := ⟨zlo _, zhi _⟩
  have b_ : -2147483648 ≤ (v0 1).toInt ∧ (v0 1).toInt ≤ 2147483647 := ⟨zlo _, zhi _⟩
  have b_ : -2147483648 ≤ (v0 2).toInt ∧ (v0 2).toInt ≤ 2147483647 := ⟨zlo _, zhi _⟩
  have b_ : -2147483648 ≤ (v0 3).toInt ∧ (v0 3).toInt ≤ 2147483647 := ⟨zlo _, zhi _⟩
  have b_ : -2147483648 ≤ (v0 4).toInt ∧ (v0 4).toInt ≤ 2147483647 := ⟨zlo _, zhi _⟩
  refine lv_aload_n hx hb dX8_oneBit_0 rfl (lv_at hl 0 rfl) ?_
  refine va_get (D := (dC, dI)) (ci := 8) (v := .int (v0 1)) (C := RX8) (T := TX8) (N := 9) hx hb hG zuX8 hown hK hP 0 rfl rfl 1 (by decide) (hG _ zv292) (fun _ h9 => h9) rfl dX8_oneBit_1 ?_
  refine lv_if_gt (tgt := 9) hx hb dX8_oneBit_4 (by decide) (fun c_ => ?_) (fun c_ => ?_)
  · skip
    have b_ := zT_gt rfl zk_0 c_
    refine lv_aload_n hx hb dX8_oneBit_9 rfl (lv_at hl 0 rfl) ?_
    refine va_get (D := (dC, dI)) (ci := 8) (v := .int (v0 4)) (C := RX8) (T := TX8) (N := 9) hx hb hG zuX8 hown hK hP 0 rfl rfl 4 (by decide) (hG _ zv295) (fun _ h9 => h9) rfl dX8_oneBit_10 ?_
    refine lv_aload_n hx hb dX8_oneBit_13 rfl (lv_at hl 0 rfl) ?_
    refine va_get (D := (dC, dI)) (ci := 8) (v := .int (v0 3)) (C := RX8) (T := TX8) (N := 9) hx hb hG zuX8 hown hK hP 0 rfl rfl 3 (by decide) (hG _ zv294) (fun _ h9 => h9) rfl dX8_oneBit_14 ?_
    have hPc := hP.sub (ws' := []) [] rfl
    have hDc := hD.sub (ws' := []) [] (by decide) rfl
    have hKc := hK.sub (tys' := []) [] rfl
    have hFc := va_free (wc := []) hD hS hA [] rfl
    refine va_calli (va_runS (As := [.int (v0 3)]) (rest := [.int (v0 4)]) ⟨hx, hb, hml, hown, hG⟩ (sX6_bitsOfChunk_0 l dC dI adK adV s.heap.size (v0 3)) (va_cwS 1 hG (zgS zv922 zv848 zv133 zv849) rfl rfl rfl (by decide +kernel) ⟨Nat.le_of_ble_eq_true rfl, Nat.le_of_ble_eq_true rfl⟩) ⟨zPc_blind, zPc_pre hPc hKc hDc hE hS hFc hZ⟩ rfl rfl hl.1 rfl (lv_room (Nat.le_of_ble_eq_true rfl)) dX8_oneBit_17 ⟨Nat.le_of_ble_eq_true rfl, Nat.le_of_ble_eq_true rfl⟩) hS (fun q _ h => hFc q h) hFc (fun r17_ u17_ t H1 locs ht hvm hw hB hz1 hk1 hS => ?_)
    replace hw : (0 ≤ (v0 3).toInt → zBs (v0 3).toInt r17_.toInt) := hw
    have hX17_0 := hw
    obtain ⟨w17_, a17_, b17_, hP1, hK1, hD1⟩ := hB
    rw [ht] at hP1
    obtain ⟨hP, hD⟩ := va_join (wr := [(h0, .inr (8, mX8 h1 v0)), (h1, .inr (6, mX6 h2 h3 h4 h5 h6 h7 h8 h9 v1)), (h4, zi k4 833 f4), (h3, zi k3 833 f3), (h2, zi k2 1250 f2), (h5, zi k5 400 f5), (h6, zi k6 400 f6), (h7, zi k7 400 f7)]) (w1 := []) hP hD [] [0, 1, 2, 3, 4, 5, 6, 7] rfl rfl (by decide) (by decide) hk1 hFc hP1 hD1
    have hP : va_P (dC, dI) vwCl [(h0, .inr (8, mX8 h1 v0)), (h1, .inr (6, mX6 h2 h3 h4 h5 h6 h7 h8 h9 v1)), (h4, zi k4 833 f4), (h3, zi k3 833 f3), (h2, zi k2 1250 f2), (h5, zi k5 400 f5), (h6, zi k6 400 f6), (h7, zi k7 400 f7)] H1 := hP.sub [0, 1, 2, 3, 4, 5, 6, 7] rfl
    have hD : va_D A [(h0, .inr (8, mX8 h1 v0)), (h1, .inr (6, mX6 h2 h3 h4 h5 h6 h7 h8 h9 v1)), (h4, zi k4 833 f4), (h3, zi k3 833 f3), (h2, zi k2 1250 f2), (h5, zi k5 400 f5), (h6, zi k6 400 f6), (h7, zi k7 400 f7)] := hD.sub [0, 1, 2, 3, 4, 5, 6, 7] (by decide) rfl
    generalize H1 = H at hP hS ⊢
    clear hz1
    refine zcutW (fun H locs ls u53_ w53_ a53_ b53_ => va_P (dC, dI) vwCl [(h0, .inr (8, mX8 h1 (upd (upd (upd v0 2 (u53_ 0)) 3 (u53_ 1)) 4 (u53_ 2)))), (h1, .inr (6, mX6 h2 h3 h4 h5 h6 h7 h8 h9 v1)), (h4, zi k4 833 f4), (h3, zi k3 833 f3), (h2, zi k2 1250 f2), (h5, zi k5 400 f5), (h6, zi k6 400 f6), (h7, zi k7 400 f7)] H ∧ va_D A [(h0, .inr (8, mX8 h1 (upd (upd (upd v0 2 (u53_ 0)) 3 (u53_ 1)) 4 (u53_ 2)))), (h1, .inr (6, mX6 h2 h3 h4 h5 h6 h7 h8 h9 v1)), (h4, zi k4 833 f4), (h3, zi k3 833 f3), (h2, zi k2 1250 f2), (h5, zi k5 400 f5), (h6, zi k6 400 f6), (h7, zi k7 400 f7)] ∧ va_S A s.heap H locs ∧ lv_has ls 2 [(0, .ref h0)] ∧ (zOs f2 f3 f4 f5 f6 f7 (v1 8).toInt (v1 9).toInt (v1 10).toInt (v1 11).toInt (v0 1).toInt (v0 2).toInt (v0 3).toInt (v0 4).toInt (v0 1).toInt (u53_ 0).toInt (u53_ 1).toInt (u53_ 2).toInt)) (fun ls u53_ w53_ => F0 m 53 ls []) 0 0 ?_ (fun hJ53 => ?_)
    · skip
      intro H locs ls u53_ w53_ a53_ b53_ hc
      obtain ⟨hP, hD, hS, hl, hI53_0⟩ := hc
      refine lv_aload_n hx hb dX8_oneBit_53 rfl (lv_at hl 0 rfl) ?_
      refine va_get (D := (dC, dI)) (ci := 8) (v := .ref h1) (C := RX8) (T := TX8) (N := 9) hx hb hG zuX8 hown hK hP 0 rfl rfl 0 (by decide) (hG _ zv291) (fun _ h9 => h9) rfl dX8_oneBit_54 ?_
      refine lv_aload_n hx hb dX8_oneBit_57 rfl (lv_at hl 0 rfl) ?_
      refine va_get (D := (dC, dI)) (ci := 8) (v := .int (u53_ 0)) (C := RX8) (T := TX8) (N := 9) hx hb hG zuX8 hown hK hP 0 rfl rfl 2 (by decide) (hG _ zv293) (fun _ h9 => h9) rfl dX8_oneBit_58 ?_
      refine lv_aload_n hx hb dX8_oneBit_61 rfl (lv_at hl 0 rfl) ?_
      refine va_get (D := (dC, dI)) (ci := 8) (v := .int (u53_ 2)) (C := RX8) (T := TX8) (N := 9) hx hb hG zuX8 hown hK hP 0 rfl rfl 4 (by decide) (hG _ zv295) (fun _ h9 => h9) rfl dX8_oneBit_62 ?_
      have hPc := hP.sub (ws' := [(h1, .inr (6, mX6 h2 h3 h4 h5 h6 h7 h8 h9 v1)), (h3, zi k3 833 f3), (h2, zi k2 1250 f2)]) [1, 3, 4] rfl
      have hDc := hD.sub (ws' := [(h1, .inr (6, mX6 h2 h3 h4 h5 h6 h7 h8 h9 v1)), (h3, zi k3 833 f3), (h2, zi k2 1250 f2)]) [1, 3, 4] (by decide) rfl
      have hKc := hK.sub (tys' := [(k3, .int), (k2, .int)]) [1, 2] rfl
      have hFc := va_free (wc := [(h1, .inr (6, mX6 h2 h3 h4 h5 h6 h7 h8 h9 v1)), (h3, zi k3 833 f3), (h2, zi k2 1250 f2)]) hD hS hA [1, 3, 4] rfl
      refine va_calli (va_runV (As := [.int (u53_ 0), .int (u53_ 2)]) (rest := []) ⟨hx, hb, hml, hown, hG⟩ (sX6_bitInChunk_0 l dC dI adK adV h1 h3 h2 h4 h5 h6 h7 h8 h9 k3 k2 H.size v1 f3 f2 (u53_ 0) (u53_ 2) hv1 hf3) (cwV 2 hG (zgV zv927 zv928 zv929 zv133 zv930) rfl rfl rfl (by decide +kernel) ⟨Nat.le_of_ble_eq_true rfl, Nat.le_of_ble_eq_true rfl⟩) ⟨zPc_blind, va_recv hKc hPc (ci := 6) (q0 := 0) rfl rfl, zPc_pre hPc hKc hDc hE hS hFc hZ⟩ rfl rfl hl.1 rfl (lv_room (Nat.le_of_ble_eq_true rfl)) dX8_oneBit_65 ⟨Nat.le_of_ble_eq_true rfl, Nat.le_of_ble_eq_true rfl⟩) hS (fun q _ h => hFc q h) hFc (fun r65_ u65_ t H1 locs ht hvm hw hB hz1 hk1 hS => ?_)
      replace hw : (0 ≤ r65_.toInt ∧ r65_.toInt ≤ 1) ∧ (zBi f2 f3 (v1 8).toInt ((u53_ 0) : Int32) (u53_ 2).toInt r65_.toInt) := hw
      obtain ⟨b_, hX65_0⟩ := hw
      obtain ⟨w65_, a65_, b65_, hP1, hK1, hD1⟩ := hB
      rw [ht] at hP1
      obtain ⟨hP, hD⟩ := va_join (wr := [(h0, .inr (8, mX8 h1 (upd (upd (upd v0 2 (u53_ 0)) 3 (u53_ 1)) 4 (u53_ 2)))), (h4, zi k4 833 f4), (h5, zi k5 400 f5), (h6, zi k6 400 f6), (h7, zi k7 400 f7)]) (w1 := [(h1, .inr (6, mX6 h2 h3 h4 h5 h6 h7 h8 h9 v1)), (h3, zi k3 833 f3), (h2, zi k2 1250 f2)]) hP hD [1, 3, 4] [0, 2, 5, 6, 7] rfl rfl (by decide) (by decide) hk1 hFc hP1 hD1
      have hP : va_P (dC, dI) vwCl [(h0, .inr (8, mX8 h1 (upd (upd (upd v0 2 (u53_ 0)) 3 (u53_ 1)) 4 (u53_ 2)))), (h1, .inr (6, mX6 h2 h3 h4 h5 h6 h7 h8 h9 v1)), (h4, zi k4 833 f4), (h3, zi k3 833 f3), (h2, zi k2 1250 f2), (h5, zi k5 400 f5), (h6, zi k6 400 f6), (h7, zi k7 400 f7)] H1 := hP.sub [0, 5, 1, 6, 7, 2, 3, 4] rfl
      have hD : va_D A [(h0, .inr (8, mX8 h1 (upd (upd (upd v0 2 (u53_ 0)) 3 (u53_ 1)) 4 (u53_ 2)))), (h1, .inr (6, mX6 h2 h3 h4 h5 h6 h7 h8 h9 v1)), (h4, zi k4 833 f4), (h3, zi k3 833 f3), (h2, zi k2 1250 f2), (h5, zi k5 400 f5), (h6, zi k6 400 f6), (h7, zi k7 400 f7)] := hD.sub [0, 5, 1, 6, 7, 2, 3, 4] (by decide) rfl
      generalize H1 = H at hP hS ⊢
      clear hz1
      refine lv_istore_n (lv' := [(1, .int r65_), (0, .ref h0)]) hx hb dX8_oneBit_68 rfl hl (by decide) rfl (fun ls hl => ?_)
      refine lv_aload_n hx hb dX8_oneBit_69 rfl (lv_at hl 1 rfl) ?_
      refine lv_dup hx hb dX8_oneBit_70 rfl ?_
      refine va_get (D := (dC, dI)) (ci := 8) (v := .int (u53_ 2)) (C := RX8) (T := TX8) (N := 9) hx hb hG zuX8 hown hK hP 0 rfl rfl 4 (by decide) (hG _ zv295) (fun _ h9 => h9) rfl dX8_oneBit_71 ?_
      refine lv_iconst (v := 1) hx hb dX8_oneBit_74 (by decide) ?_
      have b_ : -2147483648 ≤ (u53_ 2).toInt ∧ (u53_ 2).toInt ≤ 2147483647 := ⟨zlo _, zhi _⟩
      refine lv_iadd hx hb dX8_oneBit_75 ?_
      refine lv_topi (fun z75 e_z75 => ?_)
      refine va_put (D := (dC, dI)) (ci := 8) (v := .int z75) (ty := .int) (C := RX8) (T := TX8) (N := 9) hx hb hG zuX8 tyX8 tyX8_ok nmX8 hown hK hP hD hS 0 rfl rfl 4 (by decide) (hG _ zv295) (fun _ h9 => h9) rfl (by decide +kernel) rfl rfl (Nat.le_of_ble_eq_true rfl) dX8_oneBit_76 (fun H locs hP hD hS => ?_)
      have hP : va_P (dC, dI) vwCl [(h0, .inr (8, mX8 h1 (upd (upd (upd v0 2 (u53_ 0)) 3 (u53_ 1)) 4 z75))), (h1, .inr (6, mX6 h2 h3 h4 h5 h6 h7 h8 h9 v1)), (h4, zi k4 833 f4), (h3, zi k3 833 f3), (h2, zi k2 1250 f2), (h5, zi k5 400 f5), (h6, zi k6 400 f6), (h7, zi k7 400 f7)] H := hP
      have hD : va_D A [(h0, .inr (8, mX8 h1 (upd (upd (upd v0 2 (u53_ 0)) 3 (u53_ 1)) 4 z75))), (h1, .inr (6, mX6 h2 h3 h4 h5 h6 h7 h8 h9 v1)), (h4, zi k4 833 f4), (h3, zi k3 833 f3), (h2, zi k2 1250 f2), (h5, zi k5 400 f5), (h6, zi k6 400 f6), (h7, zi k7 400 f7)] := hD
      refine lv_aload_n hx hb dX8_oneBit_79 rfl (lv_at hl 1 rfl) ?_
      refine lv_dup hx hb dX8_oneBit_80 rfl ?_
      refine va_get (D := (dC, dI)) (ci := 8) (v := .int (v0 1)) (C := RX8) (T := TX8) (N := 9) hx hb hG zuX8 hown hK hP 0 rfl rfl 1 (by decide) (hG _ zv292) (fun _ h9 => h9) rfl dX8_oneBit_81 ?_
      refine lv_iconst (v := 1) hx hb dX8_oneBit_84 (by decide) ?_
      refine lv_isub hx hb dX8_oneBit_85 ?_
      refine lv_topi (fun z85 e_z85 => ?_)
      have b_ := zsub rfl zk_1 e_z85 (by omega) (by omega)
      refine va_put (D := (dC, dI)) (ci := 8) (v := .int z85) (ty := .int) (C := RX8) (T := TX8) (N := 9) hx hb hG zuX8 tyX8 tyX8_ok nmX8 hown hK hP hD hS 0 rfl rfl 1 (by decide) (hG _ zv292) (fun _ h9 => h9) rfl (by decide +kernel) rfl rfl (Nat.le_of_ble_eq_true rfl) dX8_oneBit_86 (fun H locs hP hD hS => ?_)
      have hP : va_P (dC, dI) vwCl [(h0, .inr (8, mX8 h1 (upd (upd (upd (upd v0 1 z85) 2 (u53_ 0)) 3 (u53_ 1)) 4 z75))), (h1, .inr (6, mX6 h2 h3 h4 h5 h6 h7 h8 h9 v1)), (h4, zi k4 833 f4), (h3, zi k3 833 f3), (h2, zi k2 1250 f2), (h5, zi k5 400 f5), (h6, zi k6 400 f6), (h7, zi k7 400 f7)] H := hP
      have hD : va_D A [(h0, .inr (8, mX8 h1 (upd (upd (upd (upd v0 1 z85) 2 (u53_ 0)) 3 (u53_ 1)) 4 z75))), (h1, .inr (6, mX6 h2 h3 h4 h5 h6 h7 h8 h9 v1)), (h4, zi k4 833 f4), (h3, zi k3 833 f3), (h2, zi k2 1250 f2), (h5, zi k5 400 f5), (h6, zi k6 400 f6), (h7, zi k7 400 f7)] := hD
      refine lv_iload_n hx hb dX8_oneBit_89 rfl (lv_at hl 0 rfl) ?_
      refine W.widen (k := 0) (n := 0) (by decide) (by decide) ?_
      have b_ : -2147483648 ≤ (u53_ 0).toInt ∧ (u53_ 0).toInt ≤ 2147483647 := ⟨zlo _, zhi _⟩
      have b_ : -2147483648 ≤ (u53_ 1).toInt ∧ (u53_ 1).toInt ≤ 2147483647 := ⟨zlo _, zhi _⟩
      have b_ : -2147483648 ≤ z75.toInt ∧ z75.toInt ≤ 2147483647 := ⟨zlo _, zhi _⟩
      have hpost : (0 ≤ r65_.toInt ∧ r65_.toInt ≤ 1) ∧ ((-2147483648) ≤ z85.toInt ∧ z85.toInt ≤ 2147483646) ∧ (zOb f2 f3 f4 f5 f6 f7 (v1 8).toInt (v1 9).toInt (v1 10).toInt (v1 11).toInt (v0 1).toInt (v0 2).toInt (v0 3).toInt (v0 4).toInt z85.toInt (u53_ 0).toInt (u53_ 1).toInt z75.toInt r65_.toInt) := ⟨(by first | with_reducible assumption | exact ⟨by omega, by omega⟩), (by first | with_reducible assumption | exact ⟨by omega, by omega⟩), by first | exact zOb_c hI53_0 hX65_0 (by omega) e_z75 e_z85 | exact zOb_z (by omega)⟩
      have hP9 : va_P (dC, dI) vwCl [(h0, .inr (8, mX8 h1 (upd (upd (upd (upd v0 1 z85) 2 (u53_ 0)) 3 (u53_ 1)) 4 z75))), (h1, .inr (6, mX6 h2 h3 h4 h5 h6 h7 h8 h9 v1)), (h4, zi k4 833 f4), (h3, zi k3 833 f3), (h2, zi k2 1250 f2), (h5, zi k5 400 f5), (h6, zi k6 400 f6), (h7, zi k7 400 f7)] H := hP
      have hD9 : va_D A [(h0, .inr (8, mX8 h1 (upd (upd (upd (upd v0 1 z85) 2 (u53_ 0)) 3 (u53_ 1)) 4 z75))), (h1, .inr (6, mX6 h2 h3 h4 h5 h6 h7 h8 h9 v1)), (h4, zi k4 833 f4), (h3, zi k3 833 f3), (h2, zi k2 1250 f2), (h5, zi k5 400 f5), (h6, zi k6 400 f6), (h7, zi k7 400 f7)] := hD
      exact W.iret (v := r65_) hx hb hr (fun t ht hW => ⟨⟨r65_, (fun i => ([z85, (u53_ 0), (u53_ 1), z75] : List (Int32)).getD i 0), rfl, hpost, (fun _ => 0), (fun _ => (fun _ => 0)), (fun _ => (fun _ => 0)), by rw [ht]; exact hP9, va_K.moved hW.alike hK, hD9⟩, hS.F ht⟩) hS.2.2 dX8_oneBit_90
    · skip
      have b_ : -2147483648 ≤ r17_.toInt ∧ r17_.toInt ≤ 2147483647 := ⟨zlo _, zhi _⟩
      refine lv_icmp_ne (tgt := 53) hx hb dX8_oneBit_20 (by decide) (fun c_ => ?_) (fun c_ => ?_)
      · skip
        have b_ := zT_ne rfl rfl c_
        have hc : va_P (dC, dI) vwCl [(h0, .inr (8, mX8 h1 (upd (upd (upd v0 2 (v0 2)) 3 (v0 3)) 4 (v0 4)))), (h1, .inr (6, mX6 h2 h3 h4 h5 h6 h7 h8 h9 v1)), (h4, zi k4 833 f4), (h3, zi k3 833 f3), (h2, zi k2 1250 f2), (h5, zi k5 400 f5), (h6, zi k6 400 f6), (h7, zi k7 400 f7)] H ∧ va_D A [(h0, .inr (8, mX8 h1 (upd (upd (upd v0 2 (v0 2)) 3 (v0 3)) 4 (v0 4)))), (h1, .inr (6, mX6 h2 h3 h4 h5 h6 h7 h8 h9 v1)), (h4, zi k4 833 f4), (h3, zi k3 833 f3), (h2, zi k2 1250 f2), (h5, zi k5 400 f5), (h6, zi k6 400 f6), (h7, zi k7 400 f7)] ∧ va_S A s.heap H locs ∧ lv_has ls 2 [(0, .ref h0)] ∧ (zOs f2 f3 f4 f5 f6 f7 (v1 8).toInt (v1 9).toInt (v1 10).toInt (v1 11).toInt (v0 1).toInt (v0 2).toInt (v0 3).toInt (v0 4).toInt (v0 1).toInt (v0 2).toInt (v0 3).toInt (v0 4).toInt) := ⟨hP, hD, hS, lv_sub hl [0] rfl, by first | exact zOs_b hX17_0 (by omega) hX32_0 e_z44 (by omega) | exact zOs_a hX17_0 (by omega)⟩
        exact hJ53 H locs ls (fun i => ([(v0 2), (v0 3), (v0 4)] : List (Int32)).getD i 0) (fun _ => 0) (fun _ => (fun _ => 0)) (fun _ => (fun _ => 0)) hc
      · skip
        have b_ := zF_ne rfl rfl c_
        refine lv_aload_n hx hb dX8_oneBit_23 rfl (lv_at hl 0 rfl) ?_
        refine lv_aload_n hx hb dX8_oneBit_24 rfl (lv_at hl 0 rfl) ?_
        refine va_get (D := (dC, dI)) (ci := 8) (v := .ref h1) (C := RX8) (T := TX8) (N := 9) hx hb hG zuX8 hown hK hP 0 rfl rfl 0 (by decide) (hG _ zv291) (fun _ h9 => h9) rfl dX8_oneBit_25 ?_
        refine lv_aload_n hx hb dX8_oneBit_28 rfl (lv_at hl 0 rfl) ?_
        refine va_get (D := (dC, dI)) (ci := 8) (v := .int (v0 2)) (C := RX8) (T := TX8) (N := 9) hx hb hG zuX8 hown hK hP 0 rfl rfl 2 (by decide) (hG _ zv293) (fun _ h9 => h9) rfl dX8_oneBit_29 ?_
        have hPc := hP.sub (ws' := [(h1, .inr (6, mX6 h2 h3 h4 h5 h6 h7 h8 h9 v1)), (h4, zi k4 833 f4)]) [1, 2] rfl
        have hDc := hD.sub (ws' := [(h1, .inr (6, mX6 h2 h3 h4 h5 h6 h7 h8 h9 v1)), (h4, zi k4 833 f4)]) [1, 2] (by decide) rfl
        have hKc := hK.sub (tys' := [(k4, .int)]) [0] rfl
        have hFc := va_free (wc := [(h1, .inr (6, mX6 h2 h3 h4 h5 h6 h7 h8 h9 v1)), (h4, zi k4 833 f4)]) hD hS hA [1, 2] rfl
        refine va_calli (va_runV (As := [.int (v0 2)]) (rest := [.ref h0]) ⟨hx, hb, hml, hown, hG⟩ (sX6_chunkBehind_0 l dC dI adK adV h1 h4 h2 h3 h5 h6 h7 h8 h9 k4 H.size v1 f4 (v0 2) hv1) (cwV 1 hG (zgV zv923 zv924 zv925 zv133 zv926) rfl rfl rfl (by decide +kernel) ⟨Nat.le_of_ble_eq_true rfl, Nat.le_of_ble_eq_true rfl⟩) ⟨zPc_blind, va_recv hKc hPc (ci := 6) (q0 := 0) rfl rfl, zPc_pre hPc hKc hDc hE hS hFc hZ⟩ rfl rfl hl.1 rfl (lv_room (Nat.le_of_ble_eq_true rfl)) dX8_oneBit_32 ⟨Nat.le_of_ble_eq_true rfl, Nat.le_of_ble_eq_true rfl⟩) hS (fun q _ h => hFc q h) hFc (fun r32_ u32_ t H1 locs ht hvm hw hB hz1 hk1 hS => ?_)
        replace hw : (0 ≤ (v0 2).toInt ∧ (v0 2).toInt < (v1 8).toInt → r32_.toInt = (f4 (((v0 2) : Int32)).toNatClampNeg).toInt) := hw
        have hX32_0 := hw
        obtain ⟨w32_, a32_, b32_, hP1, hK1, hD1⟩ := hB
        rw [ht] at hP1
        obtain ⟨hP, hD⟩ := va_join (wr := [(h0, .inr (8, mX8 h1 v0)), (h3, zi k3 833 f3), (h2, zi k2 1250 f2), (h5, zi k5 400 f5), (h6, zi k6 400 f6), (h7, zi k7 400 f7)]) (w1 := [(h1, .inr (6, mX6 h2 h3 h4 h5 h6 h7 h8 h9 v1)), (h4, zi k4 833 f4)]) hP hD [1, 2] [0, 3, 4, 5, 6, 7] rfl rfl (by decide) (by decide) hk1 hFc hP1 hD1
        have hP : va_P (dC, dI) vwCl [(h0, .inr (8, mX8 h1 v0)), (h1, .inr (6, mX6 h2 h3 h4 h5 h6 h7 h8 h9 v1)), (h4, zi k4 833 f4), (h3, zi k3 833 f3), (h2, zi k2 1250 f2), (h5, zi k5 400 f5), (h6, zi k6 400 f6), (h7, zi k7 400 f7)] H1 := hP.sub [0, 6, 7, 1, 2, 3, 4, 5] rfl
        have hD : va_D A [(h0, .inr (8, mX8 h1 v0)), (h1, .inr (6, mX6 h2 h3 h4 h5 h6 h7 h8 h9 v1)), (h4, zi k4 833 f4), (h3, zi k3 833 f3), (h2, zi k2 1250 f2), (h5, zi k5 400 f5), (h6, zi k6 400 f6), (h7, zi k7 400 f7)] := hD.sub [0, 6, 7, 1, 2, 3, 4, 5] (by decide) rfl
        generalize H1 = H at hP hS ⊢
        clear hz1
        refine va_put (D := (dC, dI)) (ci := 8) (v := .int r32_) (ty := .int) (C := RX8) (T := TX8) (N := 9) hx hb hG zuX8 tyX8 tyX8_ok nmX8 hown hK hP hD hS 0 rfl rfl 2 (by decide) (hG _ zv293) (fun _ h9 => h9) rfl (by decide +kernel) rfl rfl (Nat.le_of_ble_eq_true rfl) dX8_oneBit_35 (fun H locs hP hD hS => ?_)
        have hP : va_P (dC, dI) vwCl [(h0, .inr (8, mX8 h1 (upd v0 2 r32_))), (h1, .inr (6, mX6 h2 h3 h4 h5 h6 h7 h8 h9 v1)), (h4, zi k4 833 f4), (h3, zi k3 833 f3), (h2, zi k2 1250 f2), (h5, zi k5 400 f5), (h6, zi k6 400 f6), (h7, zi k7 400 f7)] H := hP
        have hD : va_D A [(h0, .inr (8, mX8 h1 (upd v0 2 r32_))), (h1, .inr (6, mX6 h2 h3 h4 h5 h6 h7 h8 h9 v1)), (h4, zi k4 833 f4), (h3, zi k3 833 f3), (h2, zi k2 1250 f2), (h5, zi k5 400 f5), (h6, zi k6 400 f6), (h7, zi k7 400 f7)] := hD
        refine lv_aload_n hx hb dX8_oneBit_38 rfl (lv_at hl 0 rfl) ?_
        refine lv_dup hx hb dX8_oneBit_39 rfl ?_
        refine va_get (D := (dC, dI)) (ci := 8) (v := .int (v0 3)) (C := RX8) (T := TX8) (N := 9) hx hb hG zuX8 hown hK hP 0 rfl rfl 3 (by decide) (hG _ zv294) (fun _ h9 => h9) rfl dX8_oneBit_40 ?_
        refine lv_iconst (v := 1) hx hb dX8_oneBit_43 (by decide) ?_
        refine lv_iadd hx hb dX8_oneBit_44 ?_
        refine lv_topi (fun z44 e_z44 => ?_)
        refine va_put (D := (dC, dI)) (ci := 8) (v := .int z44) (ty := .int) (C := RX8) (T := TX8) (N := 9) hx hb hG zuX8 tyX8 tyX8_ok nmX8 hown hK hP hD hS 0 rfl rfl 3 (by decide) (hG _ zv294) (fun _ h9 => h9) rfl (by decide +kernel) rfl rfl (Nat.le_of_ble_eq_true rfl) dX8_oneBit_45 (fun H locs hP hD hS => ?_)
        have hP : va_P (dC, dI) vwCl [(h0, .inr (8, mX8 h1 (upd (upd v0 2 r32_) 3 z44))), (h1, .inr (6, mX6 h2 h3 h4 h5 h6 h7 h8 h9 v1)), (h4, zi k4 833 f4), (h3, zi k3 833 f3), (h2, zi k2 1250 f2), (h5, zi k5 400 f5), (h6, zi k6 400 f6), (h7, zi k7 400 f7)] H := hP
        have hD : va_D A [(h0, .inr (8, mX8 h1 (upd (upd v0 2 r32_) 3 z44))), (h1, .inr (6, mX6 h2 h3 h4 h5 h6 h7 h8 h9 v1)), (h4, zi k4 833 f4), (h3, zi k3 833 f3), (h2, zi k2 1250 f2), (h5, zi k5 400 f5), (h6, zi k6 400 f6), (h7, zi k7 400 f7)] := hD
        refine lv_aload_n hx hb dX8_oneBit_48 rfl (lv_at hl 0 rfl) ?_
        refine lv_iconst (v := 0) hx hb dX8_oneBit_49 (by decide) ?_
        refine va_put (D := (dC, dI)) (ci := 8) (v := .int 0) (ty := .int) (C := RX8) (T := TX8) (N := 9) hx hb hG zuX8 tyX8 tyX8_ok nmX8 hown hK hP hD hS 0 rfl rfl 4 (by decide) (hG _ zv295) (fun _ h9 => h9) rfl (by decide +kernel) rfl rfl (Nat.le_of_ble_eq_true rfl) dX8_oneBit_50 (fun H locs hP hD hS => ?_)
        have hP : va_P (dC, dI) vwCl [(h0, .inr (8, mX8 h1 (upd (upd (upd v0 2 r32_) 3 z44) 4 0))), (h1, .inr (6, mX6 h2 h3 h4 h5 h6 h7 h8 h9 v1)), (h4, zi k4 833 f4), (h3, zi k3 833 f3), (h2, zi k2 1250 f2), (h5, zi k5 400 f5), (h6, zi k6 400 f6), (h7, zi k7 400 f7)] H := hP
        have hD : va_D A [(h0, .inr (8, mX8 h1 (upd (upd (upd v0 2 r32_) 3 z44) 4 0))), (h1, .inr (6, mX6 h2 h3 h4 h5 h6 h7 h8 h9 v1)), (h4, zi k4 833 f4), (h3, zi k3 833 f3), (h2, zi k2 1250 f2), (h5, zi k5 400 f5), (h6, zi k6 400 f6), (h7, zi k7 400 f7)] := hD
        have hc : va_P (dC, dI) vwCl [(h0, .inr (8, mX8 h1 (upd (upd (upd v0 2 r32_) 3 z44) 4 0))), (h1, .inr (6, mX6 h2 h3 h4 h5 h6 h7 h8 h9 v1)), (h4, zi k4 833 f4), (h3, zi k3 833 f3), (h2, zi k2 1250 f2), (h5, zi k5 400 f5), (h6, zi k6 400 f6), (h7, zi k7 400 f7)] H ∧ va_D A [(h0, .inr (8, mX8 h1 (upd (upd (upd v0 2 r32_) 3 z44) 4 0))), (h1, .inr (6, mX6 h2 h3 h4 h5 h6 h7 h8 h9 v1)), (h4, zi k4 833 f4), (h3, zi k3 833 f3), (h2, zi k2 1250 f2), (h5, zi k5 400 f5), (h6, zi k6 400 f6), (h7, zi k7 400 f7)] ∧ va_S A s.heap H locs ∧ lv_has ls 2 [(0, .ref h0)] ∧ (zOs f2 f3 f4 f5 f6 f7 (v1 8).toInt (v1 9).toInt (v1 10).toInt (v1 11).toInt (v0 1).toInt (v0 2).toInt (v0 3).toInt (v0 4).toInt (v0 1).toInt r32_.toInt z44.toInt (0 : Int32).toInt) := ⟨hP, hD, hS, lv_sub hl [0] rfl, by first | exact zOs_b hX17_0 (by omega) hX32_0 e_z44 (by omega) | exact zOs_a hX17_0 (by omega)⟩
        exact hJ53 H locs ls (fun i => ([r32_, z44, 0] : List (Int32)).getD i 0) (fun _ => 0) (fun _ => (fun _ => 0)) (fun _ => (fun _ => 0)) hc
  · skip
    have b_ := zF_gt rfl zk_0 c_
    refine lv_iconst (v := 0) hx hb dX8_oneBit_7 (by decide) ?_
    refine W.widen (k := 0) (n := 0) (by decide) (by decide) ?_
    have hpost : (0 ≤ (0 : Int32).toInt ∧ (0 : Int32).toInt ≤ 1) ∧ ((-2147483648) ≤ (v0 1).toInt ∧ (v0 1).toInt ≤ 2147483646) ∧ (zOb f2 f3 f4 f5 f6 f7 (v1 8).toInt (v1 9).toInt (v1 10).toInt (v1 11).toInt (v0 1).toInt (v0 2).toInt (v0 3).toInt (v0 4).toInt (v0 1).toInt (v0 2).toInt (v0 3).toInt (v0 4).toInt (0 : Int32).toInt) := ⟨(by first | with_reducible assumption | exact ⟨by omega, by omega⟩), (by first | with_reducible assumption | exact ⟨by omega, by omega⟩), by first | exact zOb_c hI53_0 hX65_0 (by omega) e_z75 e_z85 | exact zOb_z (by omega)⟩
    have hP9 : va_P (dC, dI) vwCl [(h0, .inr (8, mX8 h1 (upd (upd (upd (upd v0 1 (v0 1)) 2 (v0 2)) 3 (v0 3)) 4 (v0 4)))), (h1, .inr (6, mX6 h2 h3 h4 h5 h6 h7 h8 h9 v1)), (h4, zi k4 833 f4), (h3, zi k3 833 f3), (h2, zi k2 1250 f2), (h5, zi k5 400 f5), (h6, zi k6 400 f6), (h7, zi k7 400 f7)] s.heap := hP
    have hD9 : va_D A [(h0, .inr (8, mX8 h1 (upd (upd (upd (upd v0 1 (v0 1)) 2 (v0 2)) 3 (v0 3)) 4 (v0 4)))), (h1, .inr (6, mX6 h2 h3 h4 h5 h6 h7 h8 h9 v1)), (h4, zi k4 833 f4), (h3, zi k3 833 f3), (h2, zi k2 1250 f2), (h5, zi k5 400 f5), (h6, zi k6 400 f6), (h7, zi k7 400 f7)] := hD
    exact W.iret (v := 0) hx hb hr (fun t ht hW => ⟨⟨0, (fun i => ([(v0 1), (v0 2), (v0 3), (v0 4)] : List (Int32)).getD i 0), rfl, hpost, (fun _ => 0), (fun _ => (fun _ => 0)), (fun _ => (fun _ => 0)), by rw [ht]; exact hP9, va_K.moved hW.alike hK, hD9⟩, hS.F ht⟩) hS.2.2 dX8_oneBit_8
set_option maxHeartbeats 8000000 in
set_option maxRecDepth 100000 in
theorem sX8_gamma_0 (l : Launch) (dC : Nat → ClassId) (dI : Nat → Nat → Nat) (adK adV : Nat → Nat) (h0 : Nat) (h1 : Nat) (h4 : Nat) (h3 : Nat) (h2 : Nat) (h5 : Nat) (h6 : Nat) (h7 : Nat) (h8 : Nat) (h9 : Nat) (k4 : ClassId) (k3 : ClassId) (k2 : ClassId) (k5 : ClassId) (k6 : ClassId) (k7 : ClassId) (sz : Nat) (v0 : Nat → Int32) (v1 : Nat → Int32) (f4 : Nat → Int32) (f3 : Nat → Int32) (f2 : Nat → Int32) (f5 : Nat → Int32) (f6 : Nat → Int32) (f7 : Nat → Int32) (hv1 : zR rg_Postings v1) (hf3 : zA 0 1250 f3) (hf6 : zA 0 832 f6) : Met l yX8_gamma (zw yX8_gamma cX8_gamma 4 (some .int)) { frames := 2, cells := 0, slots := 0, locals := 44 } (zPc dC dI adK adV [.ref h0] sz [(h0, .inr (8, mX8 h1 v0)), (h1, .inr (6, mX6 h2 h3 h4 h5 h6 h7 h8 h9 v1)), (h4, zi k4 833 f4), (h3, zi k3 833 f3), (h2, zi k2 1250 f2), (h5, zi k5 400 f5), (h6, zi k6 400 f6), (h7, zi k7 400 f7)] [(k4, .int), (k3, .int), (k2, .int), (k5, .int), (k6, .int), (k7, .int)]) (va_Qi (fun (r : Int32) (u : Nat → Int32) => (zGm f2 f3 f4 f5 f6 f7 (v1 8).toInt (v1 9).toInt (v1 10).toInt (v1 11).toInt (v0 1).toInt (v0 2).toInt (v0 3).toInt (v0 4).toInt (u 0).toInt (u 1).toInt (u 2).toInt (u 3).toInt r.toInt)) (fun (u : Nat → Int32) (t : State) => ∃ (ww : Nat → Int64) (aa : Nat → Nat → Int32) (bb : Nat → Nat → Int64), va_P (dC, dI) vwCl [(h0, .inr (8, mX8 h1 (upd (upd (upd (upd v0 1 (u 0)) 2 (u 1)) 3 (u 2)) 4 (u 3)))), (h1, .inr (6, mX6 h2 h3 h4 h5 h6 h7 h8 h9 v1)), (h4, zi k4 833 f4), (h3, zi k3 833 f3), (h2, zi k2 1250 f2), (h5, zi k5 400 f5), (h6, zi k6 400 f6), (h7, zi k7 400 f7)] t.heap ∧ va_K (dC, dI) vwCl [(k4, .int), (k3, .int), (k2, .int), (k5, .int), (k6, .int), (k7, .int)] t ∧ va_D (va_A [(h0, .inr (8, mX8 h1 v0)), (h1, .inr (6, mX6 h2 h3 h4 h5 h6 h7 h8 h9 v1)), (h4, zi k4 833 f4), (h3, zi k3 833 f3), (h2, zi k2 1250 f2), (h5, zi k5 400 f5), (h6, zi k6 400 f6), (h7, zi k7 400 f7)] sz) [(h0, .inr (8, mX8 h1 (upd (upd (upd (upd v0 1 (u 0)) 2 (u 1)) 3 (u 2)) 4 (u 3)))), (h1, .inr (6, mX6 h2 h3 h4 h5 h6 h7 h8 h9 v1)), (h4, zi k4 833 f4), (h3, zi k3 833 f3), (h2, zi k2 1250 f2), (h5, zi k5 400 f5), (h6, zi k6 400 f6), (h7, zi k7 400 f7)]) (va_A [(h0, .inr (8, mX8 h1 v0)), (h1, .inr (6, mX6 h2 h3 h4 h5 h6 h7 h8 h9 v1)), (h4, zi k4 833 f4), (h3, zi k3 833 f3), (h2, zi k2 1250 f2), (h5, zi k5 400 f5), (h6, zi k6 400 f6), (h7, zi k7 400 f7)] sz)) 0 0 (va_A [(h0, .inr (8, mX8 h1 v0)), (h1, .inr (6, mX6 h2 h3 h4 h5 h6 h7 h8 h9 v1)), (h4, zi k4 833 f4), (h3, zi k3 833 f3), (h2, zi k2 1250 f2), (h5, zi k5 400 f5), (h6, zi k6 400 f6), (h7, zi k7 400 f7)] sz) := by
  refine Met.ofW (cc := cX8_gamma) (maxL := 4) (ret := (some .int)) (by decide) rfl ?_
  intro p e s m args below meth c s₁ B hml hv
  obtain ⟨rfl, hsz, hP, hK, hD0, hE, hZ⟩ := hv
  have hx := B.exec
  have hb := B.bytes
  have hr := B.returns
  have hG : ∀ w ∈ zG, w.before _ s = true := fun w h => atoms_spec (ws := (zw yX8_gamma cX8_gamma 4 (some .int))) B.pre w (List.mem_cons_of_mem _ h)
  have hown : s.vm.findClass RX8 = some m.cls := findClass_of_methodNamed B.named
  have hlocks := B.notSynchronized

  subst hsz
  have hD := hD0.self (sz := s.heap.size)
  generalize hAe : va_A [(h0, .inr (8, mX8 h1 v0)), (h1, .inr (6, mX6 h2 h3 h4 h5 h6 h7 h8 h9 v1)), (h4, zi k4 833 f4), (h3, zi k3 833 f3), (h2, zi k2 1250 f2), (h5, zi k5 400 f5), (h6, zi k6 400 f6), (h7, zi k7 400 f7)] s.heap.size = A at hD hZ ⊢
  have hA : ∀ q : Nat, s.heap.size ≤ q → A q := fun q h => by rw [← hAe]; exact Or.inr h
  have hS : va_S A s.heap s.heap [] := va_S.rf
  have hl := lv_entry ([.ref h0]) (n := 4) (Nat.le_of_ble_eq_true rfl)
  rw [lg_entry_eq]
  generalize (lg_sl ([.ref h0]) ++ List.replicate (4 - (lg_sl ([.ref h0])).length) Slot.unset).toArray = ls at hl ⊢
  have hl : lv_has ls 4 [(0, .ref h0)] := hl
  have b_ := zk_0
  have b_ := zk_1
  have b_ : 0 ≤ (v1 8).toInt ∧ (v1 8).toInt ≤ 833 := hv1 8
  have b_ : 0 ≤ (v1 9).toInt ∧ (v1 9).toInt ≤ 1250 := hv1 9
  have b_ : -2147483648 ≤ (v1 10).toInt ∧ (v1 10).toInt ≤ 2147483647 := ⟨zlo _, zhi _⟩
  have b_ : -2147483648 ≤ (v1 11).toInt ∧ (v1 11).toInt ≤ 2147483647 := ⟨zlo _, zhi _⟩
  have b_ : -2147483648 ≤ (v0 1).toInt ∧ (v0 1).toInt ≤ 2147483647 := ⟨zlo _, zhi _⟩
  have b_ : -2147483648 ≤ (v0 2).toInt ∧ (v0 2).toInt ≤ 2147483647 := ⟨zlo _, zhi _⟩
  have b_ : -2147483648 ≤ (v0 3).toInt ∧ (v0 3).toInt ≤ 2147483647 := ⟨zlo _, zhi _⟩
  have b_ : -2147483648 ≤ (v0 4).toInt ∧ (v0 4).toInt ≤ 2147483647 := ⟨zlo _, zhi _⟩
  refine lv_iconst (v := 0) hx hb dX8_gamma_0 (by decide) ?_
  refine lv_istore_n (lv' := [(1, .int 0), (0, .ref h0)]) hx hb dX8_gamma_1 rfl hl (by decide) rfl (fun ls hl => ?_)
  refine zcutL (fun u2_ => (31 - (u2_ 0).toInt).toNat) (fun H locs ls u2_ w2_ a2_ b2_ => va_P (dC, dI) vwCl [(h0, .inr (8, mX8 h1 (upd (upd (upd (upd v0 1 (u2_ 1)) 2 (u2_ 2)) 3 (u2_ 3)) 4 (u2_ 4)))), (h1, .inr (6, mX6 h2 h3 h4 h5 h6 h7 h8 h9 v1)), (h4, zi k4 833 f4), (h3, zi k3 833 f3), (h2, zi k2 1250 f2), (h5, zi k5 400 f5), (h6, zi k6 400 f6), (h7, zi k7 400 f7)] H ∧ va_D A [(h0, .inr (8, mX8 h1 (upd (upd (upd (upd v0 1 (u2_ 1)) 2 (u2_ 2)) 3 (u2_ 3)) 4 (u2_ 4)))), (h1, .inr (6, mX6 h2 h3 h4 h5 h6 h7 h8 h9 v1)), (h4, zi k4 833 f4), (h3, zi k3 833 f3), (h2, zi k2 1250 f2), (h5, zi k5 400 f5), (h6, zi k6 400 f6), (h7, zi k7 400 f7)] ∧ va_S A s.heap H locs ∧ lv_has ls 4 [(0, .ref h0), (1, .int (u2_ 0))] ∧ (0 ≤ (u2_ 0).toInt ∧ (u2_ 0).toInt ≤ 31) ∧ (zGz f2 f3 f4 f5 f6 f7 (v1 8).toInt (v1 9).toInt (v1 10).toInt (v1 11).toInt (v0 1).toInt (v0 2).toInt (v0 3).toInt (v0 4).toInt (u2_ 1).toInt (u2_ 2).toInt (u2_ 3).toInt (u2_ 4).toInt (u2_ 0).toInt)) (fun ls u2_ w2_ => F0 m 2 ls []) 0 0 ?_ (fun hJ2 => ?_)
  · skip
    intro H locs ls u2_ w2_ a2_ b2_ hc hJ2
    obtain ⟨hP, hD, hS, hl, b_, hI2_0⟩ := hc
    refine lv_iload_n hx hb dX8_gamma_2 rfl (lv_at hl 1 rfl) ?_
    refine lv_bipush (v := 31) hx hb dX8_gamma_3 (by decide) ?_
    refine zcutW (fun H locs ls u28_ w28_ a28_ b28_ => va_P (dC, dI) vwCl [(h0, .inr (8, mX8 h1 (upd (upd (upd (upd v0 1 (u28_ 0)) 2 (u28_ 1)) 3 (u28_ 2)) 4 (u28_ 3)))), (h1, .inr (6, mX6 h2 h3 h4 h5 h6 h7 h8 h9 v1)), (h4, zi k4 833 f4), (h3, zi k3 833 f3), (h2, zi k2 1250 f2), (h5, zi k5 400 f5), (h6, zi k6 400 f6), (h7, zi k7 400 f7)] H ∧ va_D A [(h0, .inr (8, mX8 h1 (upd (upd (upd (upd v0 1 (u28_ 0)) 2 (u28_ 1)) 3 (u28_ 2)) 4 (u28_ 3)))), (h1, .inr (6, mX6 h2 h3 h4 h5 h6 h7 h8 h9 v1)), (h4, zi k4 833 f4), (h3, zi k3 833 f3), (h2, zi k2 1250 f2), (h5, zi k5 400 f5), (h6, zi k6 400 f6), (h7, zi k7 400 f7)] ∧ va_S A s.heap H locs ∧ lv_has ls 4 [(0, .ref h0), (1, .int (u2_ 0))] ∧ (0 ≤ (u2_ 0).toInt ∧ (u2_ 0).toInt ≤ 31) ∧ (zGy f2 f3 f4 f5 f6 f7 (v1 8).toInt (v1 9).toInt (v1 10).toInt (v1 11).toInt (v0 1).toInt (v0 2).toInt (v0 3).toInt (v0 4).toInt (u28_ 0).toInt (u28_ 1).toInt (u28_ 2).toInt (u28_ 3).toInt (u2_ 0).toInt 0 1)) (fun ls u28_ w28_ => F0 m 28 ls []) 0 0 ?_ (fun hJ28 => ?_)
    · skip
      intro H locs ls u28_ w28_ a28_ b28_ hc
      obtain ⟨hP, hD, hS, hl, b_, hI28_0⟩ := hc
      refine lv_iconst (v := 1) hx hb dX8_gamma_28 (by decide) ?_
      refine lv_istore_n (lv' := [(2, .int 1), (0, .ref h0), (1, .int (u2_ 0))]) hx hb dX8_gamma_29 rfl hl (by decide) rfl (fun ls hl => ?_)
      refine lv_iconst (v := 0) hx hb dX8_gamma_30 (by decide) ?_
      refine lv_istore_n (lv' := [(3, .int 0), (2, .int 1), (0, .ref h0), (1, .int (u2_ 0))]) hx hb dX8_gamma_31 rfl hl (by decide) rfl (fun ls hl => ?_)
      refine zcutL (fun u32_ => (31 - (u32_ 1).toInt).toNat) (fun H locs ls u32_ w32_ a32_ b32_ => va_P (dC, dI) vwCl [(h0, .inr (8, mX8 h1 (upd (upd (upd (upd v0 1 (u32_ 2)) 2 (u32_ 3)) 3 (u32_ 4)) 4 (u32_ 5)))), (h1, .inr (6, mX6 h2 h3 h4 h5 h6 h7 h8 h9 v1)), (h4, zi k4 833 f4), (h3, zi k3 833 f3), (h2, zi k2 1250 f2), (h5, zi k5 400 f5), (h6, zi k6 400 f6), (h7, zi k7 400 f7)] H ∧ va_D A [(h0, .inr (8, mX8 h1 (upd (upd (upd (upd v0 1 (u32_ 2)) 2 (u32_ 3)) 3 (u32_ 4)) 4 (u32_ 5)))), (h1, .inr (6, mX6 h2 h3 h4 h5 h6 h7 h8 h9 v1)), (h4, zi k4 833 f4), (h3, zi k3 833 f3), (h2, zi k2 1250 f2), (h5, zi k5 400 f5), (h6, zi k6 400 f6), (h7, zi k7 400 f7)] ∧ va_S A s.heap H locs ∧ lv_has ls 4 [(0, .ref h0), (1, .int (u2_ 0)), (2, .int (u32_ 0)), (3, .int (u32_ 1))] ∧ (0 ≤ (u32_ 1).toInt ∧ (u32_ 1).toInt ≤ 31) ∧ (zGy f2 f3 f4 f5 f6 f7 (v1 8).toInt (v1 9).toInt (v1 10).toInt (v1 11).toInt (v0 1).toInt (v0 2).toInt (v0 3).toInt (v0 4).toInt (u32_ 2).toInt (u32_ 3).toInt (u32_ 4).toInt (u32_ 5).toInt (u2_ 0).toInt (u32_ 1).toInt (u32_ 0).toInt)) (fun ls u32_ w32_ => F0 m 32 ls []) 0 0 ?_ (fun hJ32 => ?_)
      · skip
        intro H locs ls u32_ w32_ a32_ b32_ hc hJ32
        obtain ⟨hP, hD, hS, hl, b_, hI32_0⟩ := hc
        refine lv_iload_n hx hb dX8_gamma_32 rfl (lv_at hl 3 rfl) ?_
        refine lv_iload_n hx hb dX8_gamma_33 rfl (lv_at hl 1 rfl) ?_
        refine lv_icmp_ge (tgt := 52) hx hb dX8_gamma_34 (by decide) (fun c_ => ?_) (fun c_ => ?_)
        · skip
          have b_ := zT_ge rfl rfl c_
          refine lv_iload_n hx hb dX8_gamma_52 rfl (lv_at hl 2 rfl) ?_
          refine W.widen (k := 0) (n := 0) (by decide) (by decide) ?_
          have b_ : -2147483648 ≤ (u32_ 0).toInt ∧ (u32_ 0).toInt ≤ 2147483647 := ⟨zlo _, zhi _⟩
          have b_ : -2147483648 ≤ (u32_ 2).toInt ∧ (u32_ 2).toInt ≤ 2147483647 := ⟨zlo _, zhi _⟩
          have b_ : -2147483648 ≤ (u32_ 3).toInt ∧ (u32_ 3).toInt ≤ 2147483647 := ⟨zlo _, zhi _⟩
          have b_ : -2147483648 ≤ (u32_ 4).toInt ∧ (u32_ 4).toInt ≤ 2147483647 := ⟨zlo _, zhi _⟩
          have b_ : -2147483648 ≤ (u32_ 5).toInt ∧ (u32_ 5).toInt ≤ 2147483647 := ⟨zlo _, zhi _⟩
          have hpost : (zGm f2 f3 f4 f5 f6 f7 (v1 8).toInt (v1 9).toInt (v1 10).toInt (v1 11).toInt (v0 1).toInt (v0 2).toInt (v0 3).toInt (v0 4).toInt (u32_ 2).toInt (u32_ 3).toInt (u32_ 4).toInt (u32_ 5).toInt (u32_ 0).toInt) := by exact zGm_e (by assumption) (by omega) rfl
          have hP9 : va_P (dC, dI) vwCl [(h0, .inr (8, mX8 h1 (upd (upd (upd (upd v0 1 (u32_ 2)) 2 (u32_ 3)) 3 (u32_ 4)) 4 (u32_ 5)))), (h1, .inr (6, mX6 h2 h3 h4 h5 h6 h7 h8 h9 v1)), (h4, zi k4 833 f4), (h3, zi k3 833 f3), (h2, zi k2 1250 f2), (h5, zi k5 400 f5), (h6, zi k6 400 f6), (h7, zi k7 400 f7)] H := hP
          have hD9 : va_D A [(h0, .inr (8, mX8 h1 (upd (upd (upd (upd v0 1 (u32_ 2)) 2 (u32_ 3)) 3 (u32_ 4)) 4 (u32_ 5)))), (h1, .inr (6, mX6 h2 h3 h4 h5 h6 h7 h8 h9 v1)), (h4, zi k4 833 f4), (h3, zi k3 833 f3), (h2, zi k2 1250 f2), (h5, zi k5 400 f5), (h6, zi k6 400 f6), (h7, zi k7 400 f7)] := hD
          exact W.iret (v := (u32_ 0)) hx hb hr (fun t ht hW => ⟨⟨(u32_ 0), (fun i => ([(u32_ 2), (u32_ 3), (u32_ 4), (u32_ 5)] : List (Int32)).getD i 0), rfl, hpost, (fun _ => 0), (fun _ => (fun _ => 0)), (fun _ => (fun _ => 0)), by rw [ht]; exact hP9, va_K.moved hW.alike hK, hD9⟩, hS.F ht⟩) hS.2.2 dX8_gamma_53
        · skip
          have b_ := zF_ge rfl rfl c_
          refine lv_iload_n hx hb dX8_gamma_37 rfl (lv_at hl 2 rfl) ?_
          refine lv_iconst (v := 1) hx hb dX8_gamma_38 (by decide) ?_
          have b_ : -2147483648 ≤ (u32_ 0).toInt ∧ (u32_ 0).toInt ≤ 2147483647 := ⟨zlo _, zhi _⟩
          refine lv_ishl hx hb dX8_gamma_39 ?_
          refine lv_topi (fun z39 e_z39 => ?_)
          refine lv_aload_n hx hb dX8_gamma_40 rfl (lv_at hl 0 rfl) ?_
          have b_ : -2147483648 ≤ (u32_ 2).toInt ∧ (u32_ 2).toInt ≤ 2147483647 := ⟨zlo _, zhi _⟩
          have b_ : -2147483648 ≤ (u32_ 3).toInt ∧ (u32_ 3).toInt ≤ 2147483647 := ⟨zlo _, zhi _⟩
          have b_ : -2147483648 ≤ (u32_ 4).toInt ∧ (u32_ 4).toInt ≤ 2147483647 := ⟨zlo _, zhi _⟩
          have b_ : -2147483648 ≤ (u32_ 5).toInt ∧ (u32_ 5).toInt ≤ 2147483647 := ⟨zlo _, zhi _⟩
          have hPc := hP.sub (ws' := [(h0, .inr (8, mX8 h1 (upd (upd (upd (upd v0 1 (u32_ 2)) 2 (u32_ 3)) 3 (u32_ 4)) 4 (u32_ 5)))), (h1, .inr (6, mX6 h2 h3 h4 h5 h6 h7 h8 h9 v1)), (h4, zi k4 833 f4), (h3, zi k3 833 f3), (h2, zi k2 1250 f2), (h5, zi k5 400 f5), (h6, zi k6 400 f6), (h7, zi k7 400 f7)]) [0, 1, 2, 3, 4, 5, 6, 7] rfl
          have hDc := hD.sub (ws' := [(h0, .inr (8, mX8 h1 (upd (upd (upd (upd v0 1 (u32_ 2)) 2 (u32_ 3)) 3 (u32_ 4)) 4 (u32_ 5)))), (h1, .inr (6, mX6 h2 h3 h4 h5 h6 h7 h8 h9 v1)), (h4, zi k4 833 f4), (h3, zi k3 833 f3), (h2, zi k2 1250 f2), (h5, zi k5 400 f5), (h6, zi k6 400 f6), (h7, zi k7 400 f7)]) [0, 1, 2, 3, 4, 5, 6, 7] (by decide) rfl
          have hKc := hK.sub (tys' := [(k4, .int), (k3, .int), (k2, .int), (k5, .int), (k6, .int), (k7, .int)]) [0, 1, 2, 3, 4, 5] rfl
          have hFc := va_free (wc := [(h0, .inr (8, mX8 h1 (upd (upd (upd (upd v0 1 (u32_ 2)) 2 (u32_ 3)) 3 (u32_ 4)) 4 (u32_ 5)))), (h1, .inr (6, mX6 h2 h3 h4 h5 h6 h7 h8 h9 v1)), (h4, zi k4 833 f4), (h3, zi k3 833 f3), (h2, zi k2 1250 f2), (h5, zi k5 400 f5), (h6, zi k6 400 f6), (h7, zi k7 400 f7)]) hD hS hA [0, 1, 2, 3, 4, 5, 6, 7] rfl
          refine va_calli (va_runV (As := []) (rest := [.int z39]) ⟨hx, hb, hml, hown, hG⟩ (sX8_oneBit_0 l dC dI adK adV h0 h1 h4 h3 h2 h5 h6 h7 h8 h9 k4 k3 k2 k5 k6 k7 H.size (upd (upd (upd (upd v0 1 (u32_ 2)) 2 (u32_ 3)) 3 (u32_ 4)) 4 (u32_ 5)) v1 f4 f3 f2 f5 f6 f7 hv1 hf3 hf6) (cwV 0 hG (zgV zv918 zv920 zv10 zv134 zv921) rfl rfl rfl (by decide +kernel) ⟨Nat.le_of_ble_eq_true rfl, Nat.le_of_ble_eq_true rfl⟩) ⟨zPc_blind, va_recv hKc hPc (ci := 8) (q0 := 0) rfl rfl, zPc_pre hPc hKc hDc hE hS hFc hZ⟩ rfl rfl hl.1 rfl (lv_room (Nat.le_of_ble_eq_true rfl)) dX8_gamma_41 ⟨Nat.le_of_ble_eq_true rfl, Nat.le_of_ble_eq_true rfl⟩) hS (fun q _ h => hFc q h) hFc (fun r41_ u41_ t H1 locs ht hvm hw hB hz1 hk1 hS => ?_)
          replace hw : (0 ≤ r41_.toInt ∧ r41_.toInt ≤ 1) ∧ ((-2147483648) ≤ (u41_ 0).toInt ∧ (u41_ 0).toInt ≤ 2147483646) ∧ (zOb f2 f3 f4 f5 f6 f7 (v1 8).toInt (v1 9).toInt (v1 10).toInt (v1 11).toInt (u32_ 2).toInt (u32_ 3).toInt (u32_ 4).toInt (u32_ 5).toInt (u41_ 0).toInt (u41_ 1).toInt (u41_ 2).toInt (u41_ 3).toInt r41_.toInt) := hw
          obtain ⟨b_, b_, hX41_0⟩ := hw
          obtain ⟨w41_, a41_, b41_, hP1, hK1, hD1⟩ := hB
          rw [ht] at hP1
          obtain ⟨hP, hD⟩ := va_join (wr := []) (w1 := [(h0, .inr (8, mX8 h1 (upd (upd (upd (upd v0 1 (u41_ 0)) 2 (u41_ 1)) 3 (u41_ 2)) 4 (u41_ 3)))), (h1, .inr (6, mX6 h2 h3 h4 h5 h6 h7 h8 h9 v1)), (h4, zi k4 833 f4), (h3, zi k3 833 f3), (h2, zi k2 1250 f2), (h5, zi k5 400 f5), (h6, zi k6 400 f6), (h7, zi k7 400 f7)]) hP hD [0, 1, 2, 3, 4, 5, 6, 7] [] rfl rfl (by decide) (by decide) hk1 hFc hP1 hD1
          have hP : va_P (dC, dI) vwCl [(h0, .inr (8, mX8 h1 (upd (upd (upd (upd v0 1 (u41_ 0)) 2 (u41_ 1)) 3 (u41_ 2)) 4 (u41_ 3)))), (h1, .inr (6, mX6 h2 h3 h4 h5 h6 h7 h8 h9 v1)), (h4, zi k4 833 f4), (h3, zi k3 833 f3), (h2, zi k2 1250 f2), (h5, zi k5 400 f5), (h6, zi k6 400 f6), (h7, zi k7 400 f7)] H1 := hP.sub [0, 1, 2, 3, 4, 5, 6, 7] rfl
          have hD : va_D A [(h0, .inr (8, mX8 h1 (upd (upd (upd (upd v0 1 (u41_ 0)) 2 (u41_ 1)) 3 (u41_ 2)) 4 (u41_ 3)))), (h1, .inr (6, mX6 h2 h3 h4 h5 h6 h7 h8 h9 v1)), (h4, zi k4 833 f4), (h3, zi k3 833 f3), (h2, zi k2 1250 f2), (h5, zi k5 400 f5), (h6, zi k6 400 f6), (h7, zi k7 400 f7)] := hD.sub [0, 1, 2, 3, 4, 5, 6, 7] (by decide) rfl
          generalize H1 = H at hP hS ⊢
          clear hz1
          have b_ : -2147483648 ≤ z39.toInt ∧ z39.toInt ≤ 2147483647 := ⟨zlo _, zhi _⟩
          refine lv_ior hx hb dX8_gamma_44 ?_
          refine lv_topi (fun z44 e_z44 => ?_)
          refine lv_istore_n (lv' := [(2, .int z44), (0, .ref h0), (1, .int (u2_ 0)), (3, .int (u32_ 1))]) hx hb dX8_gamma_45 rfl hl (by decide) rfl (fun ls hl => ?_)
          obtain ⟨z46, e_z46⟩ : ∃ z : Int32, z = (u32_ 1) + Int32.ofInt 1 := ⟨_, rfl⟩
          have b_ := zadd (x := (u32_ 1)) (y := Int32.ofInt 1) rfl (show (Int32.ofInt 1).toInt = 1 from by decide) e_z46 (by omega) (by omega)
          refine lv_iinc (v := z46) (lv' := [(3, .int z46), (2, .int z44), (0, .ref h0), (1, .int (u2_ 0))]) hx hb dX8_gamma_46 hl (k := 3) rfl e_z46.symm (by decide) rfl (fun ls hl => ?_)
          refine lv_goto (tgt := 32) hx hb dX8_gamma_49 (by decide) ?_
          have b_ : -2147483648 ≤ z44.toInt ∧ z44.toInt ≤ 2147483647 := ⟨zlo _, zhi _⟩
          have hc : va_P (dC, dI) vwCl [(h0, .inr (8, mX8 h1 (upd (upd (upd (upd v0 1 (u41_ 0)) 2 (u41_ 1)) 3 (u41_ 2)) 4 (u41_ 3)))), (h1, .inr (6, mX6 h2 h3 h4 h5 h6 h7 h8 h9 v1)), (h4, zi k4 833 f4), (h3, zi k3 833 f3), (h2, zi k2 1250 f2), (h5, zi k5 400 f5), (h6, zi k6 400 f6), (h7, zi k7 400 f7)] H ∧ va_D A [(h0, .inr (8, mX8 h1 (upd (upd (upd (upd v0 1 (u41_ 0)) 2 (u41_ 1)) 3 (u41_ 2)) 4 (u41_ 3)))), (h1, .inr (6, mX6 h2 h3 h4 h5 h6 h7 h8 h9 v1)), (h4, zi k4 833 f4), (h3, zi k3 833 f3), (h2, zi k2 1250 f2), (h5, zi k5 400 f5), (h6, zi k6 400 f6), (h7, zi k7 400 f7)] ∧ va_S A s.heap H locs ∧ lv_has ls 4 [(0, .ref h0), (1, .int (u2_ 0)), (2, .int z44), (3, .int z46)] ∧ (0 ≤ z46.toInt ∧ z46.toInt ≤ 31) ∧ (zGy f2 f3 f4 f5 f6 f7 (v1 8).toInt (v1 9).toInt (v1 10).toInt (v1 11).toInt (v0 1).toInt (v0 2).toInt (v0 3).toInt (v0 4).toInt (u41_ 0).toInt (u41_ 1).toInt (u41_ 2).toInt (u41_ 3).toInt (u2_ 0).toInt z46.toInt z44.toInt) := ⟨hP, hD, hS, lv_sub hl [2, 3, 1, 0] rfl, (by first | with_reducible assumption | exact ⟨by omega, by omega⟩), by first | exact zGy_s (by assumption) hX41_0 (by omega) (by omega) e_z39 e_z44 | assumption | (rw [zk_0, zk_1]; assumption)⟩
          exact hJ32 H locs ls (fun i => ([z44, z46, (u41_ 0), (u41_ 1), (u41_ 2), (u41_ 3)] : List (Int32)).getD i 0) (fun _ => 0) (fun _ => (fun _ => 0)) (fun _ => (fun _ => 0)) hc (show (31 - z46.toInt).toNat < (31 - (u32_ 1).toInt).toNat from by omega)
      · skip
        have hc : va_P (dC, dI) vwCl [(h0, .inr (8, mX8 h1 (upd (upd (upd (upd v0 1 (u28_ 0)) 2 (u28_ 1)) 3 (u28_ 2)) 4 (u28_ 3)))), (h1, .inr (6, mX6 h2 h3 h4 h5 h6 h7 h8 h9 v1)), (h4, zi k4 833 f4), (h3, zi k3 833 f3), (h2, zi k2 1250 f2), (h5, zi k5 400 f5), (h6, zi k6 400 f6), (h7, zi k7 400 f7)] H ∧ va_D A [(h0, .inr (8, mX8 h1 (upd (upd (upd (upd v0 1 (u28_ 0)) 2 (u28_ 1)) 3 (u28_ 2)) 4 (u28_ 3)))), (h1, .inr (6, mX6 h2 h3 h4 h5 h6 h7 h8 h9 v1)), (h4, zi k4 833 f4), (h3, zi k3 833 f3), (h2, zi k2 1250 f2), (h5, zi k5 400 f5), (h6, zi k6 400 f6), (h7, zi k7 400 f7)] ∧ va_S A s.heap H locs ∧ lv_has ls 4 [(0, .ref h0), (1, .int (u2_ 0)), (2, .int 1), (3, .int 0)] ∧ (0 ≤ (0 : Int32).toInt ∧ (0 : Int32).toInt ≤ 31) ∧ (zGy f2 f3 f4 f5 f6 f7 (v1 8).toInt (v1 9).toInt (v1 10).toInt (v1 11).toInt (v0 1).toInt (v0 2).toInt (v0 3).toInt (v0 4).toInt (u28_ 0).toInt (u28_ 1).toInt (u28_ 2).toInt (u28_ 3).toInt (u2_ 0).toInt (0 : Int32).toInt (1 : Int32).toInt) := ⟨hP, hD, hS, lv_sub hl [2, 3, 1, 0] rfl, (by first | with_reducible assumption | exact ⟨by omega, by omega⟩), by first | exact zGy_s (by assumption) hX41_0 (by omega) (by omega) e_z39 e_z44 | assumption | (rw [zk_0, zk_1]; assumption)⟩
        exact hJ32 H locs ls (fun i => ([1, 0, (u28_ 0), (u28_ 1), (u28_ 2), (u28_ 3)] : List (Int32)).getD i 0) (fun _ => 0) (fun _ => (fun _ => 0)) (fun _ => (fun _ => 0)) hc
    · skip
      refine lv_icmp_ge (tgt := 28) hx hb dX8_gamma_5 (by decide) (fun c_ => ?_) (fun c_ => ?_)
      · skip
        have b_ := zT_ge rfl zk_31 c_
        have hc : va_P (dC, dI) vwCl [(h0, .inr (8, mX8 h1 (upd (upd (upd (upd v0 1 (u2_ 1)) 2 (u2_ 2)) 3 (u2_ 3)) 4 (u2_ 4)))), (h1, .inr (6, mX6 h2 h3 h4 h5 h6 h7 h8 h9 v1)), (h4, zi k4 833 f4), (h3, zi k3 833 f3), (h2, zi k2 1250 f2), (h5, zi k5 400 f5), (h6, zi k6 400 f6), (h7, zi k7 400 f7)] H ∧ va_D A [(h0, .inr (8, mX8 h1 (upd (upd (upd (upd v0 1 (u2_ 1)) 2 (u2_ 2)) 3 (u2_ 3)) 4 (u2_ 4)))), (h1, .inr (6, mX6 h2 h3 h4 h5 h6 h7 h8 h9 v1)), (h4, zi k4 833 f4), (h3, zi k3 833 f3), (h2, zi k2 1250 f2), (h5, zi k5 400 f5), (h6, zi k6 400 f6), (h7, zi k7 400 f7)] ∧ va_S A s.heap H locs ∧ lv_has ls 4 [(0, .ref h0), (1, .int (u2_ 0))] ∧ (0 ≤ (u2_ 0).toInt ∧ (u2_ 0).toInt ≤ 31) ∧ (zGy f2 f3 f4 f5 f6 f7 (v1 8).toInt (v1 9).toInt (v1 10).toInt (v1 11).toInt (v0 1).toInt (v0 2).toInt (v0 3).toInt (v0 4).toInt (u2_ 1).toInt (u2_ 2).toInt (u2_ 3).toInt (u2_ 4).toInt (u2_ 0).toInt 0 1) := ⟨hP, hD, hS, lv_sub hl [0, 1] rfl, (by first | with_reducible assumption | exact ⟨by omega, by omega⟩), by first | exact zGy_0 (by assumption) hX16_0 (by omega) rfl rfl | exact zGy_x (by assumption) (by omega)⟩
        exact hJ28 H locs ls (fun i => ([(u2_ 1), (u2_ 2), (u2_ 3), (u2_ 4)] : List (Int32)).getD i 0) (fun _ => 0) (fun _ => (fun _ => 0)) (fun _ => (fun _ => 0)) hc
      · skip
        have b_ := zF_ge rfl zk_31 c_
        refine lv_aload_n hx hb dX8_gamma_8 rfl (lv_at hl 0 rfl) ?_
        refine va_get (D := (dC, dI)) (ci := 8) (v := .int (u2_ 1)) (C := RX8) (T := TX8) (N := 9) hx hb hG zuX8 hown hK hP 0 rfl rfl 1 (by decide) (hG _ zv292) (fun _ h9 => h9) rfl dX8_gamma_9 ?_
        have b_ : -2147483648 ≤ (u2_ 1).toInt ∧ (u2_ 1).toInt ≤ 2147483647 := ⟨zlo _, zhi _⟩
        refine lv_if_le (tgt := 28) hx hb dX8_gamma_12 (by decide) (fun c_ => ?_) (fun c_ => ?_)
        · skip
          have b_ := zT_le rfl zk_0 c_
          have hc : va_P (dC, dI) vwCl [(h0, .inr (8, mX8 h1 (upd (upd (upd (upd v0 1 (u2_ 1)) 2 (u2_ 2)) 3 (u2_ 3)) 4 (u2_ 4)))), (h1, .inr (6, mX6 h2 h3 h4 h5 h6 h7 h8 h9 v1)), (h4, zi k4 833 f4), (h3, zi k3 833 f3), (h2, zi k2 1250 f2), (h5, zi k5 400 f5), (h6, zi k6 400 f6), (h7, zi k7 400 f7)] H ∧ va_D A [(h0, .inr (8, mX8 h1 (upd (upd (upd (upd v0 1 (u2_ 1)) 2 (u2_ 2)) 3 (u2_ 3)) 4 (u2_ 4)))), (h1, .inr (6, mX6 h2 h3 h4 h5 h6 h7 h8 h9 v1)), (h4, zi k4 833 f4), (h3, zi k3 833 f3), (h2, zi k2 1250 f2), (h5, zi k5 400 f5), (h6, zi k6 400 f6), (h7, zi k7 400 f7)] ∧ va_S A s.heap H locs ∧ lv_has ls 4 [(0, .ref h0), (1, .int (u2_ 0))] ∧ (0 ≤ (u2_ 0).toInt ∧ (u2_ 0).toInt ≤ 31) ∧ (zGy f2 f3 f4 f5 f6 f7 (v1 8).toInt (v1 9).toInt (v1 10).toInt (v1 11).toInt (v0 1).toInt (v0 2).toInt (v0 3).toInt (v0 4).toInt (u2_ 1).toInt (u2_ 2).toInt (u2_ 3).toInt (u2_ 4).toInt (u2_ 0).toInt 0 1) := ⟨hP, hD, hS, lv_sub hl [0, 1] rfl, (by first | with_reducible assumption | exact ⟨by omega, by omega⟩), by first | exact zGy_0 (by assumption) hX16_0 (by omega) rfl rfl | exact zGy_x (by assumption) (by omega)⟩
          exact hJ28 H locs ls (fun i => ([(u2_ 1), (u2_ 2), (u2_ 3), (u2_ 4)] : List (Int32)).getD i 0) (fun _ => 0) (fun _ => (fun _ => 0)) (fun _ => (fun _ => 0)) hc
        · skip
          have b_ := zF_le rfl zk_0 c_
          refine lv_aload_n hx hb dX8_gamma_15 rfl (lv_at hl 0 rfl) ?_
          have b_ : -2147483648 ≤ (u2_ 2).toInt ∧ (u2_ 2).toInt ≤ 2147483647 := ⟨zlo _, zhi _⟩
          have b_ : -2147483648 ≤ (u2_ 3).toInt ∧ (u2_ 3).toInt ≤ 2147483647 := ⟨zlo _, zhi _⟩
          have b_ : -2147483648 ≤ (u2_ 4).toInt ∧ (u2_ 4).toInt ≤ 2147483647 := ⟨zlo _, zhi _⟩
          have hPc := hP.sub (ws' := [(h0, .inr (8, mX8 h1 (upd (upd (upd (upd v0 1 (u2_ 1)) 2 (u2_ 2)) 3 (u2_ 3)) 4 (u2_ 4)))), (h1, .inr (6, mX6 h2 h3 h4 h5 h6 h7 h8 h9 v1)), (h4, zi k4 833 f4), (h3, zi k3 833 f3), (h2, zi k2 1250 f2), (h5, zi k5 400 f5), (h6, zi k6 400 f6), (h7, zi k7 400 f7)]) [0, 1, 2, 3, 4, 5, 6, 7] rfl
          have hDc := hD.sub (ws' := [(h0, .inr (8, mX8 h1 (upd (upd (upd (upd v0 1 (u2_ 1)) 2 (u2_ 2)) 3 (u2_ 3)) 4 (u2_ 4)))), (h1, .inr (6, mX6 h2 h3 h4 h5 h6 h7 h8 h9 v1)), (h4, zi k4 833 f4), (h3, zi k3 833 f3), (h2, zi k2 1250 f2), (h5, zi k5 400 f5), (h6, zi k6 400 f6), (h7, zi k7 400 f7)]) [0, 1, 2, 3, 4, 5, 6, 7] (by decide) rfl
          have hKc := hK.sub (tys' := [(k4, .int), (k3, .int), (k2, .int), (k5, .int), (k6, .int), (k7, .int)]) [0, 1, 2, 3, 4, 5] rfl
          have hFc := va_free (wc := [(h0, .inr (8, mX8 h1 (upd (upd (upd (upd v0 1 (u2_ 1)) 2 (u2_ 2)) 3 (u2_ 3)) 4 (u2_ 4)))), (h1, .inr (6, mX6 h2 h3 h4 h5 h6 h7 h8 h9 v1)), (h4, zi k4 833 f4), (h3, zi k3 833 f3), (h2, zi k2 1250 f2), (h5, zi k5 400 f5), (h6, zi k6 400 f6), (h7, zi k7 400 f7)]) hD hS hA [0, 1, 2, 3, 4, 5, 6, 7] rfl
          refine va_calli (va_runV (As := []) (rest := []) ⟨hx, hb, hml, hown, hG⟩ (sX8_oneBit_0 l dC dI adK adV h0 h1 h4 h3 h2 h5 h6 h7 h8 h9 k4 k3 k2 k5 k6 k7 H.size (upd (upd (upd (upd v0 1 (u2_ 1)) 2 (u2_ 2)) 3 (u2_ 3)) 4 (u2_ 4)) v1 f4 f3 f2 f5 f6 f7 hv1 hf3 hf6) (cwV 0 hG (zgV zv918 zv920 zv10 zv134 zv921) rfl rfl rfl (by decide +kernel) ⟨Nat.le_of_ble_eq_true rfl, Nat.le_of_ble_eq_true rfl⟩) ⟨zPc_blind, va_recv hKc hPc (ci := 8) (q0 := 0) rfl rfl, zPc_pre hPc hKc hDc hE hS hFc hZ⟩ rfl rfl hl.1 rfl (lv_room (Nat.le_of_ble_eq_true rfl)) dX8_gamma_16 ⟨Nat.le_of_ble_eq_true rfl, Nat.le_of_ble_eq_true rfl⟩) hS (fun q _ h => hFc q h) hFc (fun r16_ u16_ t H1 locs ht hvm hw hB hz1 hk1 hS => ?_)
          replace hw : (0 ≤ r16_.toInt ∧ r16_.toInt ≤ 1) ∧ ((-2147483648) ≤ (u16_ 0).toInt ∧ (u16_ 0).toInt ≤ 2147483646) ∧ (zOb f2 f3 f4 f5 f6 f7 (v1 8).toInt (v1 9).toInt (v1 10).toInt (v1 11).toInt (u2_ 1).toInt (u2_ 2).toInt (u2_ 3).toInt (u2_ 4).toInt (u16_ 0).toInt (u16_ 1).toInt (u16_ 2).toInt (u16_ 3).toInt r16_.toInt) := hw
          obtain ⟨b_, b_, hX16_0⟩ := hw
          obtain ⟨w16_, a16_, b16_, hP1, hK1, hD1⟩ := hB
          rw [ht] at hP1
          obtain ⟨hP, hD⟩ := va_join (wr := []) (w1 := [(h0, .inr (8, mX8 h1 (upd (upd (upd (upd v0 1 (u16_ 0)) 2 (u16_ 1)) 3 (u16_ 2)) 4 (u16_ 3)))), (h1, .inr (6, mX6 h2 h3 h4 h5 h6 h7 h8 h9 v1)), (h4, zi k4 833 f4), (h3, zi k3 833 f3), (h2, zi k2 1250 f2), (h5, zi k5 400 f5), (h6, zi k6 400 f6), (h7, zi k7 400 f7)]) hP hD [0, 1, 2, 3, 4, 5, 6, 7] [] rfl rfl (by decide) (by decide) hk1 hFc hP1 hD1
          have hP : va_P (dC, dI) vwCl [(h0, .inr (8, mX8 h1 (upd (upd (upd (upd v0 1 (u16_ 0)) 2 (u16_ 1)) 3 (u16_ 2)) 4 (u16_ 3)))), (h1, .inr (6, mX6 h2 h3 h4 h5 h6 h7 h8 h9 v1)), (h4, zi k4 833 f4), (h3, zi k3 833 f3), (h2, zi k2 1250 f2), (h5, zi k5 400 f5), (h6, zi k6 400 f6), (h7, zi k7 400 f7)] H1 := hP.sub [0, 1, 2, 3, 4, 5, 6, 7] rfl
          have hD : va_D A [(h0, .inr (8, mX8 h1 (upd (upd (upd (upd v0 1 (u16_ 0)) 2 (u16_ 1)) 3 (u16_ 2)) 4 (u16_ 3)))), (h1, .inr (6, mX6 h2 h3 h4 h5 h6 h7 h8 h9 v1)), (h4, zi k4 833 f4), (h3, zi k3 833 f3), (h2, zi k2 1250 f2), (h5, zi k5 400 f5), (h6, zi k6 400 f6), (h7, zi k7 400 f7)] := hD.sub [0, 1, 2, 3, 4, 5, 6, 7] (by decide) rfl
          generalize H1 = H at hP hS ⊢
          clear hz1
          refine lv_if_ne (tgt := 28) hx hb dX8_gamma_19 (by decide) (fun c_ => ?_) (fun c_ => ?_)
          · skip
            have b_ := zT_ne rfl zk_0 c_
            have hc : va_P (dC, dI) vwCl [(h0, .inr (8, mX8 h1 (upd (upd (upd (upd v0 1 (u16_ 0)) 2 (u16_ 1)) 3 (u16_ 2)) 4 (u16_ 3)))), (h1, .inr (6, mX6 h2 h3 h4 h5 h6 h7 h8 h9 v1)), (h4, zi k4 833 f4), (h3, zi k3 833 f3), (h2, zi k2 1250 f2), (h5, zi k5 400 f5), (h6, zi k6 400 f6), (h7, zi k7 400 f7)] H ∧ va_D A [(h0, .inr (8, mX8 h1 (upd (upd (upd (upd v0 1 (u16_ 0)) 2 (u16_ 1)) 3 (u16_ 2)) 4 (u16_ 3)))), (h1, .inr (6, mX6 h2 h3 h4 h5 h6 h7 h8 h9 v1)), (h4, zi k4 833 f4), (h3, zi k3 833 f3), (h2, zi k2 1250 f2), (h5, zi k5 400 f5), (h6, zi k6 400 f6), (h7, zi k7 400 f7)] ∧ va_S A s.heap H locs ∧ lv_has ls 4 [(0, .ref h0), (1, .int (u2_ 0))] ∧ (0 ≤ (u2_ 0).toInt ∧ (u2_ 0).toInt ≤ 31) ∧ (zGy f2 f3 f4 f5 f6 f7 (v1 8).toInt (v1 9).toInt (v1 10).toInt (v1 11).toInt (v0 1).toInt (v0 2).toInt (v0 3).toInt (v0 4).toInt (u16_ 0).toInt (u16_ 1).toInt (u16_ 2).toInt (u16_ 3).toInt (u2_ 0).toInt 0 1) := ⟨hP, hD, hS, lv_sub hl [0, 1] rfl, (by first | with_reducible assumption | exact ⟨by omega, by omega⟩), by first | exact zGy_0 (by assumption) hX16_0 (by omega) rfl rfl | exact zGy_x (by assumption) (by omega)⟩
            exact hJ28 H locs ls (fun i => ([(u16_ 0), (u16_ 1), (u16_ 2), (u16_ 3)] : List (Int32)).getD i 0) (fun _ => 0) (fun _ => (fun _ => 0)) (fun _ => (fun _ => 0)) hc
          · skip
            have b_ := zF_ne rfl zk_0 c_
            obtain ⟨z22, e_z22⟩ : ∃ z : Int32, z = (u2_ 0) + Int32.ofInt 1 := ⟨_, rfl⟩
            have b_ := zadd (x := (u2_ 0)) (y := Int32.ofInt 1) rfl (show (Int32.ofInt 1).toInt = 1 from by decide) e_z22 (by omega) (by omega)
            refine lv_iinc (v := z22) (lv' := [(1, .int z22), (0, .ref h0)]) hx hb dX8_gamma_22 hl (k := 1) rfl e_z22.symm (by decide) rfl (fun ls hl => ?_)
            refine lv_goto (tgt := 2) hx hb dX8_gamma_25 (by decide) ?_
            have hc : va_P (dC, dI) vwCl [(h0, .inr (8, mX8 h1 (upd (upd (upd (upd v0 1 (u16_ 0)) 2 (u16_ 1)) 3 (u16_ 2)) 4 (u16_ 3)))), (h1, .inr (6, mX6 h2 h3 h4 h5 h6 h7 h8 h9 v1)), (h4, zi k4 833 f4), (h3, zi k3 833 f3), (h2, zi k2 1250 f2), (h5, zi k5 400 f5), (h6, zi k6 400 f6), (h7, zi k7 400 f7)] H ∧ va_D A [(h0, .inr (8, mX8 h1 (upd (upd (upd (upd v0 1 (u16_ 0)) 2 (u16_ 1)) 3 (u16_ 2)) 4 (u16_ 3)))), (h1, .inr (6, mX6 h2 h3 h4 h5 h6 h7 h8 h9 v1)), (h4, zi k4 833 f4), (h3, zi k3 833 f3), (h2, zi k2 1250 f2), (h5, zi k5 400 f5), (h6, zi k6 400 f6), (h7, zi k7 400 f7)] ∧ va_S A s.heap H locs ∧ lv_has ls 4 [(0, .ref h0), (1, .int z22)] ∧ (0 ≤ z22.toInt ∧ z22.toInt ≤ 31) ∧ (zGz f2 f3 f4 f5 f6 f7 (v1 8).toInt (v1 9).toInt (v1 10).toInt (v1 11).toInt (v0 1).toInt (v0 2).toInt (v0 3).toInt (v0 4).toInt (u16_ 0).toInt (u16_ 1).toInt (u16_ 2).toInt (u16_ 3).toInt z22.toInt) := ⟨hP, hD, hS, lv_sub hl [1, 0] rfl, (by first | with_reducible assumption | exact ⟨by omega, by omega⟩), by first | exact zGz_s (by assumption) hX16_0 (by omega) (by omega) | exact zGz_0 (by omega)⟩
            exact hJ2 H locs ls (fun i => ([z22, (u16_ 0), (u16_ 1), (u16_ 2), (u16_ 3)] : List (Int32)).getD i 0) (fun _ => 0) (fun _ => (fun _ => 0)) (fun _ => (fun _ => 0)) hc (show (31 - z22.toInt).toNat < (31 - (u2_ 0).toInt).toNat from by omega)
  · skip
    have hc : va_P (dC, dI) vwCl [(h0, .inr (8, mX8 h1 (upd (upd (upd (upd v0 1 (v0 1)) 2 (v0 2)) 3 (v0 3)) 4 (v0 4)))), (h1, .inr (6, mX6 h2 h3 h4 h5 h6 h7 h8 h9 v1)), (h4, zi k4 833 f4), (h3, zi k3 833 f3), (h2, zi k2 1250 f2), (h5, zi k5 400 f5), (h6, zi k6 400 f6), (h7, zi k7 400 f7)] s.heap ∧ va_D A [(h0, .inr (8, mX8 h1 (upd (upd (upd (upd v0 1 (v0 1)) 2 (v0 2)) 3 (v0 3)) 4 (v0 4)))), (h1, .inr (6, mX6 h2 h3 h4 h5 h6 h7 h8 h9 v1)), (h4, zi k4 833 f4), (h3, zi k3 833 f3), (h2, zi k2 1250 f2), (h5, zi k5 400 f5), (h6, zi k6 400 f6), (h7, zi k7 400 f7)] ∧ va_S A s.heap s.heap [] ∧ lv_has ls 4 [(0, .ref h0), (1, .int 0)] ∧ (0 ≤ (0 : Int32).toInt ∧ (0 : Int32).toInt ≤ 31) ∧ (zGz f2 f3 f4 f5 f6 f7 (v1 8).toInt (v1 9).toInt (v1 10).toInt (v1 11).toInt (v0 1).toInt (v0 2).toInt (v0 3).toInt (v0 4).toInt (v0 1).toInt (v0 2).toInt (v0 3).toInt (v0 4).toInt (0 : Int32).toInt) := ⟨hP, hD, hS, lv_sub hl [1, 0] rfl, (by first | with_reducible assumption | exact ⟨by omega, by omega⟩), by first | exact zGz_s (by assumption) hX16_0 (by omega) (by omega) | exact zGz_0 (by omega)⟩
    exact hJ2 s.heap [] ls (fun i => ([0, (v0 1), (v0 2), (v0 3), (v0 4)] : List (Int32)).getD i 0) (fun _ => 0) (fun _ => (fun _ => 0)) (fun _ => (fun _ => 0)) hc
set_option maxHeartbeats 8000000 in
set_option maxRecDepth 100000 in
theorem sX8_nextDocument_0 (l : Launch) (dC : Nat → ClassId) (dI : Nat → Nat → Nat) (adK adV : Nat → Nat) (h0 : Nat) (h1 : Nat) (h4 : Nat) (h3 : Nat) (h2 : Nat) (h5 : Nat) (h6 : Nat) (h7 : Nat) (h8 : Nat) (h9 : Nat) (k4 : ClassId) (k3 : ClassId) (k2 : ClassId) (k5 : ClassId) (k6 : ClassId) (k7 : ClassId) (sz : Nat) (v0 : Nat → Int32) (v1 : Nat → Int32) (f4 : Nat → Int32) (f3 : Nat → Int32) (f2 : Nat → Int32) (f5 : Nat → Int32) (f6 : Nat → Int32) (f7 : Nat → Int32) (hv1 : zR rg_Postings v1) (hf3 : zA 0 1250 f3) (hf6 : zA 0 832 f6) : Met l yX8_nextDocument (zw yX8_nextDocument cX8_nextDocument 2 (some .boolean)) { frames := 3, cells := 0, slots := 0, locals := 67 } (zPc dC dI adK adV [.ref h0] sz [(h0, .inr (8, mX8 h1 v0)), (h1, .inr (6, mX6 h2 h3 h4 h5 h6 h7 h8 h9 v1)), (h4, zi k4 833 f4), (h3, zi k3 833 f3), (h2, zi k2 1250 f2), (h5, zi k5 400 f5), (h6, zi k6 400 f6), (h7, zi k7 400 f7)] [(k4, .int), (k3, .int), (k2, .int), (k5, .int), (k6, .int), (k7, .int)]) (va_Qi (fun (r : Int32) (u : Nat → Int32) => (0 ≤ r.toInt ∧ r.toInt ≤ 1) ∧ (zNo f2 f3 f4 f5 f6 f7 (v1 8).toInt (v1 9).toInt (v1 10).toInt (v1 11).toInt (v0 1).toInt (v0 2).toInt (v0 3).toInt (v0 4).toInt (u 0).toInt (u 1).toInt (u 2).toInt (u 3).toInt (v0 7).toInt (v0 5).toInt (u 4).toInt (u 5).toInt (u 6).toInt (u 7).toInt r.toInt) ∧ (r.toInt = 0 → (u 4).toInt = 120)) (fun (u : Nat → Int32) (t : State) => ∃ (ww : Nat → Int64) (aa : Nat → Nat → Int32) (bb : Nat → Nat → Int64), va_P (dC, dI) vwCl [(h0, .inr (8, mX8 h1 (upd (upd (upd (upd (upd (upd (upd (upd v0 1 (u 0)) 2 (u 1)) 3 (u 2)) 4 (u 3)) 5 (u 4)) 6 (u 5)) 7 (u 6)) 8 (u 7)))), (h1, .inr (6, mX6 h2 h3 h4 h5 h6 h7 h8 h9 v1)), (h4, zi k4 833 f4), (h3, zi k3 833 f3), (h2, zi k2 1250 f2), (h5, zi k5 400 f5), (h6, zi k6 400 f6), (h7, zi k7 400 f7)] t.heap ∧ va_K (dC, dI) vwCl [(k4, .int), (k3, .int), (k2, .int), (k5, .int), (k6, .int), (k7, .int)] t ∧ va_D (va_A [(h0, .inr (8, mX8 h1 v0)), (h1, .inr (6, mX6 h2 h3 h4 h5 h6 h7 h8 h9 v1)), (h4, zi k4 833 f4), (h3, zi k3 833 f3), (h2, zi k2 1250 f2), (h5, zi k5 400 f5), (h6, zi k6 400 f6), (h7, zi k7 400 f7)] sz) [(h0, .inr (8, mX8 h1 (upd (upd (upd (upd (upd (upd (upd (upd v0 1 (u 0)) 2 (u 1)) 3 (u 2)) 4 (u 3)) 5 (u 4)) 6 (u 5)) 7 (u 6)) 8 (u 7)))), (h1, .inr (6, mX6 h2 h3 h4 h5 h6 h7 h8 h9 v1)), (h4, zi k4 833 f4), (h3, zi k3 833 f3), (h2, zi k2 1250 f2), (h5, zi k5 400 f5), (h6, zi k6 400 f6), (h7, zi k7 400 f7)]) (va_A [(h0, .inr (8, mX8 h1 v0)), (h1, .inr (6, mX6 h2 h3 h4 h5 h6 h7 h8 h9 v1)), (h4, zi k4 833 f4), (h3, zi k3 833 f3), (h2, zi k2 1250 f2), (h5, zi k5 400 f5), (h6, zi k6 400 f6), (h7, zi k7 400 f7)] sz)) 0 0 (va_A [(h0, .inr (8, mX8 h1 v0)), (h1, .inr (6, mX6 h2 h3 h4 h5 h6 h7 h8 h9 v1)), (h4, zi k4 833 f4), (h3, zi k3 833 f3), (h2, zi k2 1250 f2), (h5, zi k5 400 f5), (h6, zi k6 400 f6), (h7, zi k7 400 f7)] sz) := by
  refine Met.ofW (cc := cX8_nextDocument) (maxL := 2) (ret := (some .boolean)) (by decide) rfl ?_
  intro p e s m args below meth c s₁ B hml hv
  obtain ⟨rfl, hsz, hP, hK, hD0, hE, hZ⟩ := hv
  have hx := B.exec
  have hb := B.bytes
  have hr := B.returns
  have hG : ∀ w ∈ zG, w.before _ s = true := fun w h => atoms_spec (ws := (zw yX8_nextDocument cX8_nextDocument 2 (some .boolean))) B.pre w (List.mem_cons_of_mem _ h)
  have hown : s.vm.findClass RX8 = some m.cls := findClass_of_methodNamed B.named
  have hlocks := B.notSynchronized

  subst hsz
  have hD := hD0.self (sz := s.heap.size)
  generalize hAe : va_A [(h0, .inr (8, mX8 h1 v0)), (h1, .inr (6, mX6 h2 h3 h4 h5 h6 h7 h8 h9 v1)), (h4, zi k4 833 f4), (h3, zi k3 833 f3), (h2, zi k2 1250 f2), (h5, zi k5 400 f5), (h6, zi k6 400 f6), (h7, zi k7 400 f7)] s.heap.size = A at hD hZ ⊢
  have hA : ∀ q : Nat, s.heap.size ≤ q → A q := fun q h => by rw [← hAe]; exact Or.inr h
  have hS : va_S A s.heap s.heap [] := va_S.rf
  have hl := lv_entry ([.ref h0]) (n := 2) (Nat.le_of_ble_eq_true rfl)
  rw [lg_entry_eq]
  generalize (lg_sl ([.ref h0]) ++ List.replicate (2 - (lg_sl ([.ref h0])).length) Slot.unset).toArray = ls at hl ⊢
  have hl : lv_has ls 2 [(0, .ref h0)] := hl
  have b_ := zk_m1
  have b_ := zk_0
  have b_ := zk_1
  have b_ := zk_120
  have b_ : 0 ≤ (v1 8).toInt ∧ (v1 8).toInt ≤ 833 := hv1 8
  have b_ : 0 ≤ (v1 9).toInt ∧ (v1 9).toInt ≤ 1250 := hv1 9
  have b_ : -2147483648 ≤ (v1 10).toInt ∧ (v1 10).toInt ≤ 2147483647 := ⟨zlo _, zhi _⟩
  have b_ : -2147483648 ≤ (v1 11).toInt ∧ (v1 11).toInt ≤ 2147483647 := ⟨zlo _, zhi _⟩
  have b_ : -2147483648 ≤ (v0 1).toInt ∧ (v0 1).toInt ≤ 2147483647 := ⟨zlo _, zhi _⟩
  have b_ : -2147483648 ≤ (v0 2).toInt ∧ (v0 2).toInt ≤ 2147483647 := ⟨zlo _, zhi _⟩
  have b_ : -2147483648 ≤ (v0 3).toInt ∧ (v0 3).toInt ≤ 2147483647 := ⟨zlo _, zhi _⟩
  have b_ : -2147483648 ≤ (v0 4).toInt ∧ (v0 4).toInt ≤ 2147483647 := ⟨zlo _, zhi _⟩
  have b_ : -2147483648 ≤ (v0 7).toInt ∧ (v0 7).toInt ≤ 2147483647 := ⟨zlo _, zhi _⟩
  have b_ : -2147483648 ≤ (v0 5).toInt ∧ (v0 5).toInt ≤ 2147483647 := ⟨zlo _, zhi _⟩
  have b_ : -2147483648 ≤ (v0 6).toInt ∧ (v0 6).toInt ≤ 2147483647 := ⟨zlo _, zhi _⟩
  have b_ : -2147483648 ≤ (v0 8).toInt ∧ (v0 8).toInt ≤ 2147483647 := ⟨zlo _, zhi _⟩
  refine lv_aload_n hx hb dX8_nextDocument_0 rfl (lv_at hl 0 rfl) ?_
  refine va_get (D := (dC, dI)) (ci := 8) (v := .int (v0 7)) (C := RX8) (T := TX8) (N := 9) hx hb hG zuX8 hown hK hP 0 rfl rfl 7 (by decide) (hG _ zv298) (fun _ h9 => h9) rfl dX8_nextDocument_1 ?_
  refine lv_istore_n (lv' := [(1, .int (v0 7)), (0, .ref h0)]) hx hb dX8_nextDocument_4 rfl hl (by decide) rfl (fun ls hl => ?_)
  refine zcutL (fun u5_ => ((u5_ 0).toInt - (-2147483648)).toNat) (fun H locs ls u5_ w5_ a5_ b5_ => va_P (dC, dI) vwCl [(h0, .inr (8, mX8 h1 (upd (upd (upd (upd v0 1 (u5_ 1)) 2 (u5_ 2)) 3 (u5_ 3)) 4 (u5_ 4)))), (h1, .inr (6, mX6 h2 h3 h4 h5 h6 h7 h8 h9 v1)), (h4, zi k4 833 f4), (h3, zi k3 833 f3), (h2, zi k2 1250 f2), (h5, zi k5 400 f5), (h6, zi k6 400 f6), (h7, zi k7 400 f7)] H ∧ va_D A [(h0, .inr (8, mX8 h1 (upd (upd (upd (upd v0 1 (u5_ 1)) 2 (u5_ 2)) 3 (u5_ 3)) 4 (u5_ 4)))), (h1, .inr (6, mX6 h2 h3 h4 h5 h6 h7 h8 h9 v1)), (h4, zi k4 833 f4), (h3, zi k3 833 f3), (h2, zi k2 1250 f2), (h5, zi k5 400 f5), (h6, zi k6 400 f6), (h7, zi k7 400 f7)] ∧ va_S A s.heap H locs ∧ lv_has ls 2 [(0, .ref h0), (1, .int (u5_ 0))] ∧ (zNx f2 f3 f4 f5 f6 f7 (v1 8).toInt (v1 9).toInt (v1 10).toInt (v1 11).toInt (v0 1).toInt (v0 2).toInt (v0 3).toInt (v0 4).toInt (u5_ 1).toInt (u5_ 2).toInt (u5_ 3).toInt (u5_ 4).toInt (v0 7).toInt (u5_ 0).toInt)) (fun ls u5_ w5_ => F0 m 5 ls []) 0 0 ?_ (fun hJ5 => ?_)
  · skip
    intro H locs ls u5_ w5_ a5_ b5_ hc hJ5
    obtain ⟨hP, hD, hS, hl, hI5_0⟩ := hc
    refine lv_iload_n hx hb dX8_nextDocument_5 rfl (lv_at hl 1 rfl) ?_
    have b_ : -2147483648 ≤ (u5_ 0).toInt ∧ (u5_ 0).toInt ≤ 2147483647 := ⟨zlo _, zhi _⟩
    refine lv_if_le (tgt := 20) hx hb dX8_nextDocument_6 (by decide) (fun c_ => ?_) (fun c_ => ?_)
    · skip
      have b_ := zT_le rfl zk_0 c_
      refine lv_aload_n hx hb dX8_nextDocument_20 rfl (lv_at hl 0 rfl) ?_
      refine lv_iconst (v := 0) hx hb dX8_nextDocument_21 (by decide) ?_
      refine va_put (D := (dC, dI)) (ci := 8) (v := .int 0) (ty := .int) (C := RX8) (T := TX8) (N := 9) hx hb hG zuX8 tyX8 tyX8_ok nmX8 hown hK hP hD hS 0 rfl rfl 7 (by decide) (hG _ zv298) (fun _ h9 => h9) rfl (by decide +kernel) rfl rfl (Nat.le_of_ble_eq_true rfl) dX8_nextDocument_22 (fun H locs hP hD hS => ?_)
      have hP : va_P (dC, dI) vwCl [(h0, .inr (8, mX8 h1 (upd (upd (upd (upd (upd v0 1 (u5_ 1)) 2 (u5_ 2)) 3 (u5_ 3)) 4 (u5_ 4)) 7 0))), (h1, .inr (6, mX6 h2 h3 h4 h5 h6 h7 h8 h9 v1)), (h4, zi k4 833 f4), (h3, zi k3 833 f3), (h2, zi k2 1250 f2), (h5, zi k5 400 f5), (h6, zi k6 400 f6), (h7, zi k7 400 f7)] H := hP
      have hD : va_D A [(h0, .inr (8, mX8 h1 (upd (upd (upd (upd (upd v0 1 (u5_ 1)) 2 (u5_ 2)) 3 (u5_ 3)) 4 (u5_ 4)) 7 0))), (h1, .inr (6, mX6 h2 h3 h4 h5 h6 h7 h8 h9 v1)), (h4, zi k4 833 f4), (h3, zi k3 833 f3), (h2, zi k2 1250 f2), (h5, zi k5 400 f5), (h6, zi k6 400 f6), (h7, zi k7 400 f7)] := hD
      refine lv_aload_n hx hb dX8_nextDocument_25 rfl (lv_at hl 0 rfl) ?_
      refine lv_iconst (v := 0) hx hb dX8_nextDocument_26 (by decide) ?_
      refine va_put (D := (dC, dI)) (ci := 8) (v := .int 0) (ty := .int) (C := RX8) (T := TX8) (N := 9) hx hb hG zuX8 tyX8 tyX8_ok nmX8 hown hK hP hD hS 0 rfl rfl 6 (by decide) (hG _ zv297) (fun _ h9 => h9) rfl (by decide +kernel) rfl rfl (Nat.le_of_ble_eq_true rfl) dX8_nextDocument_27 (fun H locs hP hD hS => ?_)
      have hP : va_P (dC, dI) vwCl [(h0, .inr (8, mX8 h1 (upd (upd (upd (upd (upd (upd v0 1 (u5_ 1)) 2 (u5_ 2)) 3 (u5_ 3)) 4 (u5_ 4)) 6 0) 7 0))), (h1, .inr (6, mX6 h2 h3 h4 h5 h6 h7 h8 h9 v1)), (h4, zi k4 833 f4), (h3, zi k3 833 f3), (h2, zi k2 1250 f2), (h5, zi k5 400 f5), (h6, zi k6 400 f6), (h7, zi k7 400 f7)] H := hP
      have hD : va_D A [(h0, .inr (8, mX8 h1 (upd (upd (upd (upd (upd (upd v0 1 (u5_ 1)) 2 (u5_ 2)) 3 (u5_ 3)) 4 (u5_ 4)) 6 0) 7 0))), (h1, .inr (6, mX6 h2 h3 h4 h5 h6 h7 h8 h9 v1)), (h4, zi k4 833 f4), (h3, zi k3 833 f3), (h2, zi k2 1250 f2), (h5, zi k5 400 f5), (h6, zi k6 400 f6), (h7, zi k7 400 f7)] := hD
      refine lv_aload_n hx hb dX8_nextDocument_30 rfl (lv_at hl 0 rfl) ?_
      refine va_get (D := (dC, dI)) (ci := 8) (v := .int (u5_ 1)) (C := RX8) (T := TX8) (N := 9) hx hb hG zuX8 hown hK hP 0 rfl rfl 1 (by decide) (hG _ zv292) (fun _ h9 => h9) rfl dX8_nextDocument_31 ?_
      have b_ : -2147483648 ≤ (u5_ 1).toInt ∧ (u5_ 1).toInt ≤ 2147483647 := ⟨zlo _, zhi _⟩
      refine lv_if_ne (tgt := 45) hx hb dX8_nextDocument_34 (by decide) (fun c_ => ?_) (fun c_ => ?_)
      · skip
        have b_ := zT_ne rfl zk_0 c_
        refine lv_aload_n hx hb dX8_nextDocument_45 rfl (lv_at hl 0 rfl) ?_
        refine lv_dup hx hb dX8_nextDocument_46 rfl ?_
        refine va_get (D := (dC, dI)) (ci := 8) (v := .int (v0 5)) (C := RX8) (T := TX8) (N := 9) hx hb hG zuX8 hown hK hP 0 rfl rfl 5 (by decide) (hG _ zv296) (fun _ h9 => h9) rfl dX8_nextDocument_47 ?_
        refine lv_aload_n hx hb dX8_nextDocument_50 rfl (lv_at hl 0 rfl) ?_
        have b_ : -2147483648 ≤ (u5_ 2).toInt ∧ (u5_ 2).toInt ≤ 2147483647 := ⟨zlo _, zhi _⟩
        have b_ : -2147483648 ≤ (u5_ 3).toInt ∧ (u5_ 3).toInt ≤ 2147483647 := ⟨zlo _, zhi _⟩
        have b_ : -2147483648 ≤ (u5_ 4).toInt ∧ (u5_ 4).toInt ≤ 2147483647 := ⟨zlo _, zhi _⟩
        have hPc := hP.sub (ws' := [(h0, .inr (8, mX8 h1 (upd (upd (upd (upd (upd (upd v0 1 (u5_ 1)) 2 (u5_ 2)) 3 (u5_ 3)) 4 (u5_ 4)) 6 0) 7 0))), (h1, .inr (6, mX6 h2 h3 h4 h5 h6 h7 h8 h9 v1)), (h4, zi k4 833 f4), (h3, zi k3 833 f3), (h2, zi k2 1250 f2), (h5, zi k5 400 f5), (h6, zi k6 400 f6), (h7, zi k7 400 f7)]) [0, 1, 2, 3, 4, 5, 6, 7] rfl
        have hDc := hD.sub (ws' := [(h0, .inr (8, mX8 h1 (upd (upd (upd (upd (upd (upd v0 1 (u5_ 1)) 2 (u5_ 2)) 3 (u5_ 3)) 4 (u5_ 4)) 6 0) 7 0))), (h1, .inr (6, mX6 h2 h3 h4 h5 h6 h7 h8 h9 v1)), (h4, zi k4 833 f4), (h3, zi k3 833 f3), (h2, zi k2 1250 f2), (h5, zi k5 400 f5), (h6, zi k6 400 f6), (h7, zi k7 400 f7)]) [0, 1, 2, 3, 4, 5, 6, 7] (by decide) rfl
        have hKc := hK.sub (tys' := [(k4, .int), (k3, .int), (k2, .int), (k5, .int), (k6, .int), (k7, .int)]) [0, 1, 2, 3, 4, 5] rfl
        have hFc := va_free (wc := [(h0, .inr (8, mX8 h1 (upd (upd (upd (upd (upd (upd v0 1 (u5_ 1)) 2 (u5_ 2)) 3 (u5_ 3)) 4 (u5_ 4)) 6 0) 7 0))), (h1, .inr (6, mX6 h2 h3 h4 h5 h6 h7 h8 h9 v1)), (h4, zi k4 833 f4), (h3, zi k3 833 f3), (h2, zi k2 1250 f2), (h5, zi k5 400 f5), (h6, zi k6 400 f6), (h7, zi k7 400 f7)]) hD hS hA [0, 1, 2, 3, 4, 5, 6, 7] rfl
        refine va_calli (va_runV (As := []) (rest := [.int (v0 5), .ref h0]) ⟨hx, hb, hml, hown, hG⟩ (sX8_gamma_0 l dC dI adK adV h0 h1 h4 h3 h2 h5 h6 h7 h8 h9 k4 k3 k2 k5 k6 k7 H.size (upd (upd (upd (upd (upd (upd v0 1 (u5_ 1)) 2 (u5_ 2)) 3 (u5_ 3)) 4 (u5_ 4)) 6 0) 7 0) v1 f4 f3 f2 f5 f6 f7 hv1 hf3 hf6) (cwV 0 hG (zgV zv914 zv916 zv9 zv134 zv917) rfl rfl rfl (by decide +kernel) ⟨Nat.le_of_ble_eq_true rfl, Nat.le_of_ble_eq_true rfl⟩) ⟨zPc_blind, va_recv hKc hPc (ci := 8) (q0 := 0) rfl rfl, zPc_pre hPc hKc hDc hE hS hFc hZ⟩ rfl rfl hl.1 rfl (lv_room (Nat.le_of_ble_eq_true rfl)) dX8_nextDocument_51 ⟨Nat.le_of_ble_eq_true rfl, Nat.le_of_ble_eq_true rfl⟩) hS (fun q _ h => hFc q h) hFc (fun r51_ u51_ t H1 locs ht hvm hw hB hz1 hk1 hS => ?_)
        replace hw : (zGm f2 f3 f4 f5 f6 f7 (v1 8).toInt (v1 9).toInt (v1 10).toInt (v1 11).toInt (u5_ 1).toInt (u5_ 2).toInt (u5_ 3).toInt (u5_ 4).toInt (u51_ 0).toInt (u51_ 1).toInt (u51_ 2).toInt (u51_ 3).toInt r51_.toInt) := hw
        have hX51_0 := hw
        obtain ⟨w51_, a51_, b51_, hP1, hK1, hD1⟩ := hB
        rw [ht] at hP1
        obtain ⟨hP, hD⟩ := va_join (wr := []) (w1 := [(h0, .inr (8, mX8 h1 (upd (upd (upd (upd (upd (upd v0 1 (u51_ 0)) 2 (u51_ 1)) 3 (u51_ 2)) 4 (u51_ 3)) 6 0) 7 0))), (h1, .inr (6, mX6 h2 h3 h4 h5 h6 h7 h8 h9 v1)), (h4, zi k4 833 f4), (h3, zi k3 833 f3), (h2, zi k2 1250 f2), (h5, zi k5 400 f5), (h6, zi k6 400 f6), (h7, zi k7 400 f7)]) hP hD [0, 1, 2, 3, 4, 5, 6, 7] [] rfl rfl (by decide) (by decide) hk1 hFc hP1 hD1
        have hP : va_P (dC, dI) vwCl [(h0, .inr (8, mX8 h1 (upd (upd (upd (upd (upd (upd v0 1 (u51_ 0)) 2 (u51_ 1)) 3 (u51_ 2)) 4 (u51_ 3)) 6 0) 7 0))), (h1, .inr (6, mX6 h2 h3 h4 h5 h6 h7 h8 h9 v1)), (h4, zi k4 833 f4), (h3, zi k3 833 f3), (h2, zi k2 1250 f2), (h5, zi k5 400 f5), (h6, zi k6 400 f6), (h7, zi k7 400 f7)] H1 := hP.sub [0, 1, 2, 3, 4, 5, 6, 7] rfl
        have hD : va_D A [(h0, .inr (8, mX8 h1 (upd (upd (upd (upd (upd (upd v0 1 (u51_ 0)) 2 (u51_ 1)) 3 (u51_ 2)) 4 (u51_ 3)) 6 0) 7 0))), (h1, .inr (6, mX6 h2 h3 h4 h5 h6 h7 h8 h9 v1)), (h4, zi k4 833 f4), (h3, zi k3 833 f3), (h2, zi k2 1250 f2), (h5, zi k5 400 f5), (h6, zi k6 400 f6), (h7, zi k7 400 f7)] := hD.sub [0, 1, 2, 3, 4, 5, 6, 7] (by decide) rfl
        generalize H1 = H at hP hS ⊢
        clear hz1
        have b_ : -2147483648 ≤ r51_.toInt ∧ r51_.toInt ≤ 2147483647 := ⟨zlo _, zhi _⟩
        refine lv_iadd hx hb dX8_nextDocument_54 ?_
        refine lv_topi (fun z54 e_z54 => ?_)
        refine va_put (D := (dC, dI)) (ci := 8) (v := .int z54) (ty := .int) (C := RX8) (T := TX8) (N := 9) hx hb hG zuX8 tyX8 tyX8_ok nmX8 hown hK hP hD hS 0 rfl rfl 5 (by decide) (hG _ zv296) (fun _ h9 => h9) rfl (by decide +kernel) rfl rfl (Nat.le_of_ble_eq_true rfl) dX8_nextDocument_55 (fun H locs hP hD hS => ?_)
        have hP : va_P (dC, dI) vwCl [(h0, .inr (8, mX8 h1 (upd (upd (upd (upd (upd (upd (upd v0 1 (u51_ 0)) 2 (u51_ 1)) 3 (u51_ 2)) 4 (u51_ 3)) 5 z54) 6 0) 7 0))), (h1, .inr (6, mX6 h2 h3 h4 h5 h6 h7 h8 h9 v1)), (h4, zi k4 833 f4), (h3, zi k3 833 f3), (h2, zi k2 1250 f2), (h5, zi k5 400 f5), (h6, zi k6 400 f6), (h7, zi k7 400 f7)] H := hP
        have hD : va_D A [(h0, .inr (8, mX8 h1 (upd (upd (upd (upd (upd (upd (upd v0 1 (u51_ 0)) 2 (u51_ 1)) 3 (u51_ 2)) 4 (u51_ 3)) 5 z54) 6 0) 7 0))), (h1, .inr (6, mX6 h2 h3 h4 h5 h6 h7 h8 h9 v1)), (h4, zi k4 833 f4), (h3, zi k3 833 f3), (h2, zi k2 1250 f2), (h5, zi k5 400 f5), (h6, zi k6 400 f6), (h7, zi k7 400 f7)] := hD
        refine lv_aload_n hx hb dX8_nextDocument_58 rfl (lv_at hl 0 rfl) ?_
        refine lv_aload_n hx hb dX8_nextDocument_59 rfl (lv_at hl 0 rfl) ?_
        have b_ : -2147483648 ≤ (u51_ 0).toInt ∧ (u51_ 0).toInt ≤ 2147483647 := ⟨zlo _, zhi _⟩
        have b_ : -2147483648 ≤ (u51_ 1).toInt ∧ (u51_ 1).toInt ≤ 2147483647 := ⟨zlo _, zhi _⟩
        have b_ : -2147483648 ≤ (u51_ 2).toInt ∧ (u51_ 2).toInt ≤ 2147483647 := ⟨zlo _, zhi _⟩
        have b_ : -2147483648 ≤ (u51_ 3).toInt ∧ (u51_ 3).toInt ≤ 2147483647 := ⟨zlo _, zhi _⟩
        have b_ : -2147483648 ≤ z54.toInt ∧ z54.toInt ≤ 2147483647 := ⟨zlo _, zhi _⟩
        have hPc := hP.sub (ws' := [(h0, .inr (8, mX8 h1 (upd (upd (upd (upd (upd (upd (upd v0 1 (u51_ 0)) 2 (u51_ 1)) 3 (u51_ 2)) 4 (u51_ 3)) 5 z54) 6 0) 7 0))), (h1, .inr (6, mX6 h2 h3 h4 h5 h6 h7 h8 h9 v1)), (h4, zi k4 833 f4), (h3, zi k3 833 f3), (h2, zi k2 1250 f2), (h5, zi k5 400 f5), (h6, zi k6 400 f6), (h7, zi k7 400 f7)]) [0, 1, 2, 3, 4, 5, 6, 7] rfl
        have hDc := hD.sub (ws' := [(h0, .inr (8, mX8 h1 (upd (upd (upd (upd (upd (upd (upd v0 1 (u51_ 0)) 2 (u51_ 1)) 3 (u51_ 2)) 4 (u51_ 3)) 5 z54) 6 0) 7 0))), (h1, .inr (6, mX6 h2 h3 h4 h5 h6 h7 h8 h9 v1)), (h4, zi k4 833 f4), (h3, zi k3 833 f3), (h2, zi k2 1250 f2), (h5, zi k5 400 f5), (h6, zi k6 400 f6), (h7, zi k7 400 f7)]) [0, 1, 2, 3, 4, 5, 6, 7] (by decide) rfl
        have hKc := hK.sub (tys' := [(k4, .int), (k3, .int), (k2, .int), (k5, .int), (k6, .int), (k7, .int)]) [0, 1, 2, 3, 4, 5] rfl
        have hFc := va_free (wc := [(h0, .inr (8, mX8 h1 (upd (upd (upd (upd (upd (upd (upd v0 1 (u51_ 0)) 2 (u51_ 1)) 3 (u51_ 2)) 4 (u51_ 3)) 5 z54) 6 0) 7 0))), (h1, .inr (6, mX6 h2 h3 h4 h5 h6 h7 h8 h9 v1)), (h4, zi k4 833 f4), (h3, zi k3 833 f3), (h2, zi k2 1250 f2), (h5, zi k5 400 f5), (h6, zi k6 400 f6), (h7, zi k7 400 f7)]) hD hS hA [0, 1, 2, 3, 4, 5, 6, 7] rfl
        refine va_calli (va_runV (As := []) (rest := [.ref h0]) ⟨hx, hb, hml, hown, hG⟩ (sX8_gamma_0 l dC dI adK adV h0 h1 h4 h3 h2 h5 h6 h7 h8 h9 k4 k3 k2 k5 k6 k7 H.size (upd (upd (upd (upd (upd (upd (upd v0 1 (u51_ 0)) 2 (u51_ 1)) 3 (u51_ 2)) 4 (u51_ 3)) 5 z54) 6 0) 7 0) v1 f4 f3 f2 f5 f6 f7 hv1 hf3 hf6) (cwV 0 hG (zgV zv914 zv916 zv9 zv134 zv917) rfl rfl rfl (by decide +kernel) ⟨Nat.le_of_ble_eq_true rfl, Nat.le_of_ble_eq_true rfl⟩) ⟨zPc_blind, va_recv hKc hPc (ci := 8) (q0 := 0) rfl rfl, zPc_pre hPc hKc hDc hE hS hFc hZ⟩ rfl rfl hl.1 rfl (lv_room (Nat.le_of_ble_eq_true rfl)) dX8_nextDocument_60 ⟨Nat.le_of_ble_eq_true rfl, Nat.le_of_ble_eq_true rfl⟩) hS (fun q _ h => hFc q h) hFc (fun r60_ u60_ t H1 locs ht hvm hw hB hz1 hk1 hS => ?_)
        replace hw : (zGm f2 f3 f4 f5 f6 f7 (v1 8).toInt (v1 9).toInt (v1 10).toInt (v1 11).toInt (u51_ 0).toInt (u51_ 1).toInt (u51_ 2).toInt (u51_ 3).toInt (u60_ 0).toInt (u60_ 1).toInt (u60_ 2).toInt (u60_ 3).toInt r60_.toInt) := hw
        have hX60_0 := hw
        obtain ⟨w60_, a60_, b60_, hP1, hK1, hD1⟩ := hB
        rw [ht] at hP1
        obtain ⟨hP, hD⟩ := va_join (wr := []) (w1 := [(h0, .inr (8, mX8 h1 (upd (upd (upd (upd (upd (upd (upd v0 1 (u60_ 0)) 2 (u60_ 1)) 3 (u60_ 2)) 4 (u60_ 3)) 5 z54) 6 0) 7 0))), (h1, .inr (6, mX6 h2 h3 h4 h5 h6 h7 h8 h9 v1)), (h4, zi k4 833 f4), (h3, zi k3 833 f3), (h2, zi k2 1250 f2), (h5, zi k5 400 f5), (h6, zi k6 400 f6), (h7, zi k7 400 f7)]) hP hD [0, 1, 2, 3, 4, 5, 6, 7] [] rfl rfl (by decide) (by decide) hk1 hFc hP1 hD1
        have hP : va_P (dC, dI) vwCl [(h0, .inr (8, mX8 h1 (upd (upd (upd (upd (upd (upd (upd v0 1 (u60_ 0)) 2 (u60_ 1)) 3 (u60_ 2)) 4 (u60_ 3)) 5 z54) 6 0) 7 0))), (h1, .inr (6, mX6 h2 h3 h4 h5 h6 h7 h8 h9 v1)), (h4, zi k4 833 f4), (h3, zi k3 833 f3), (h2, zi k2 1250 f2), (h5, zi k5 400 f5), (h6, zi k6 400 f6), (h7, zi k7 400 f7)] H1 := hP.sub [0, 1, 2, 3, 4, 5, 6, 7] rfl
        have hD : va_D A [(h0, .inr (8, mX8 h1 (upd (upd (upd (upd (upd (upd (upd v0 1 (u60_ 0)) 2 (u60_ 1)) 3 (u60_ 2)) 4 (u60_ 3)) 5 z54) 6 0) 7 0))), (h1, .inr (6, mX6 h2 h3 h4 h5 h6 h7 h8 h9 v1)), (h4, zi k4 833 f4), (h3, zi k3 833 f3), (h2, zi k2 1250 f2), (h5, zi k5 400 f5), (h6, zi k6 400 f6), (h7, zi k7 400 f7)] := hD.sub [0, 1, 2, 3, 4, 5, 6, 7] (by decide) rfl
        generalize H1 = H at hP hS ⊢
        clear hz1
        refine va_put (D := (dC, dI)) (ci := 8) (v := .int r60_) (ty := .int) (C := RX8) (T := TX8) (N := 9) hx hb hG zuX8 tyX8 tyX8_ok nmX8 hown hK hP hD hS 0 rfl rfl 6 (by decide) (hG _ zv297) (fun _ h9 => h9) rfl (by decide +kernel) rfl rfl (Nat.le_of_ble_eq_true rfl) dX8_nextDocument_63 (fun H locs hP hD hS => ?_)
        have hP : va_P (dC, dI) vwCl [(h0, .inr (8, mX8 h1 (upd (upd (upd (upd (upd (upd (upd v0 1 (u60_ 0)) 2 (u60_ 1)) 3 (u60_ 2)) 4 (u60_ 3)) 5 z54) 6 r60_) 7 0))), (h1, .inr (6, mX6 h2 h3 h4 h5 h6 h7 h8 h9 v1)), (h4, zi k4 833 f4), (h3, zi k3 833 f3), (h2, zi k2 1250 f2), (h5, zi k5 400 f5), (h6, zi k6 400 f6), (h7, zi k7 400 f7)] H := hP
        have hD : va_D A [(h0, .inr (8, mX8 h1 (upd (upd (upd (upd (upd (upd (upd v0 1 (u60_ 0)) 2 (u60_ 1)) 3 (u60_ 2)) 4 (u60_ 3)) 5 z54) 6 r60_) 7 0))), (h1, .inr (6, mX6 h2 h3 h4 h5 h6 h7 h8 h9 v1)), (h4, zi k4 833 f4), (h3, zi k3 833 f3), (h2, zi k2 1250 f2), (h5, zi k5 400 f5), (h6, zi k6 400 f6), (h7, zi k7 400 f7)] := hD
        refine lv_aload_n hx hb dX8_nextDocument_66 rfl (lv_at hl 0 rfl) ?_
        refine lv_aload_n hx hb dX8_nextDocument_67 rfl (lv_at hl 0 rfl) ?_
        refine va_get (D := (dC, dI)) (ci := 8) (v := .int r60_) (C := RX8) (T := TX8) (N := 9) hx hb hG zuX8 hown hK hP 0 rfl rfl 6 (by decide) (hG _ zv297) (fun _ h9 => h9) rfl dX8_nextDocument_68 ?_
        refine va_put (D := (dC, dI)) (ci := 8) (v := .int r60_) (ty := .int) (C := RX8) (T := TX8) (N := 9) hx hb hG zuX8 tyX8 tyX8_ok nmX8 hown hK hP hD hS 0 rfl rfl 7 (by decide) (hG _ zv298) (fun _ h9 => h9) rfl (by decide +kernel) rfl rfl (Nat.le_of_ble_eq_true rfl) dX8_nextDocument_71 (fun H locs hP hD hS => ?_)
        have hP : va_P (dC, dI) vwCl [(h0, .inr (8, mX8 h1 (upd (upd (upd (upd (upd (upd (upd v0 1 (u60_ 0)) 2 (u60_ 1)) 3 (u60_ 2)) 4 (u60_ 3)) 5 z54) 6 r60_) 7 r60_))), (h1, .inr (6, mX6 h2 h3 h4 h5 h6 h7 h8 h9 v1)), (h4, zi k4 833 f4), (h3, zi k3 833 f3), (h2, zi k2 1250 f2), (h5, zi k5 400 f5), (h6, zi k6 400 f6), (h7, zi k7 400 f7)] H := hP
        have hD : va_D A [(h0, .inr (8, mX8 h1 (upd (upd (upd (upd (upd (upd (upd v0 1 (u60_ 0)) 2 (u60_ 1)) 3 (u60_ 2)) 4 (u60_ 3)) 5 z54) 6 r60_) 7 r60_))), (h1, .inr (6, mX6 h2 h3 h4 h5 h6 h7 h8 h9 v1)), (h4, zi k4 833 f4), (h3, zi k3 833 f3), (h2, zi k2 1250 f2), (h5, zi k5 400 f5), (h6, zi k6 400 f6), (h7, zi k7 400 f7)] := hD
        refine lv_aload_n hx hb dX8_nextDocument_74 rfl (lv_at hl 0 rfl) ?_
        refine lv_iconst (v := (-1)) hx hb dX8_nextDocument_75 (by decide) ?_
        refine va_put (D := (dC, dI)) (ci := 8) (v := .int (-1)) (ty := .int) (C := RX8) (T := TX8) (N := 9) hx hb hG zuX8 tyX8 tyX8_ok nmX8 hown hK hP hD hS 0 rfl rfl 8 (by decide) (hG _ zv299) (fun _ h9 => h9) rfl (by decide +kernel) rfl rfl (Nat.le_of_ble_eq_true rfl) dX8_nextDocument_76 (fun H locs hP hD hS => ?_)
        have hP : va_P (dC, dI) vwCl [(h0, .inr (8, mX8 h1 (upd (upd (upd (upd (upd (upd (upd (upd v0 1 (u60_ 0)) 2 (u60_ 1)) 3 (u60_ 2)) 4 (u60_ 3)) 5 z54) 6 r60_) 7 r60_) 8 (-1)))), (h1, .inr (6, mX6 h2 h3 h4 h5 h6 h7 h8 h9 v1)), (h4, zi k4 833 f4), (h3, zi k3 833 f3), (h2, zi k2 1250 f2), (h5, zi k5 400 f5), (h6, zi k6 400 f6), (h7, zi k7 400 f7)] H := hP
        have hD : va_D A [(h0, .inr (8, mX8 h1 (upd (upd (upd (upd (upd (upd (upd (upd v0 1 (u60_ 0)) 2 (u60_ 1)) 3 (u60_ 2)) 4 (u60_ 3)) 5 z54) 6 r60_) 7 r60_) 8 (-1)))), (h1, .inr (6, mX6 h2 h3 h4 h5 h6 h7 h8 h9 v1)), (h4, zi k4 833 f4), (h3, zi k3 833 f3), (h2, zi k2 1250 f2), (h5, zi k5 400 f5), (h6, zi k6 400 f6), (h7, zi k7 400 f7)] := hD
        refine lv_iconst (v := 1) hx hb dX8_nextDocument_79 (by decide) ?_
        refine W.widen (k := 0) (n := 0) (by decide) (by decide) ?_
        have b_ : -2147483648 ≤ (u60_ 0).toInt ∧ (u60_ 0).toInt ≤ 2147483647 := ⟨zlo _, zhi _⟩
        have b_ : -2147483648 ≤ (u60_ 1).toInt ∧ (u60_ 1).toInt ≤ 2147483647 := ⟨zlo _, zhi _⟩
        have b_ : -2147483648 ≤ (u60_ 2).toInt ∧ (u60_ 2).toInt ≤ 2147483647 := ⟨zlo _, zhi _⟩
        have b_ : -2147483648 ≤ (u60_ 3).toInt ∧ (u60_ 3).toInt ≤ 2147483647 := ⟨zlo _, zhi _⟩
        have b_ : -2147483648 ≤ r60_.toInt ∧ r60_.toInt ≤ 2147483647 := ⟨zlo _, zhi _⟩
        have hpost : (0 ≤ (1 : Int32).toInt ∧ (1 : Int32).toInt ≤ 1) ∧ (zNo f2 f3 f4 f5 f6 f7 (v1 8).toInt (v1 9).toInt (v1 10).toInt (v1 11).toInt (v0 1).toInt (v0 2).toInt (v0 3).toInt (v0 4).toInt (u60_ 0).toInt (u60_ 1).toInt (u60_ 2).toInt (u60_ 3).toInt (v0 7).toInt (v0 5).toInt z54.toInt r60_.toInt r60_.toInt ((-1) : Int32).toInt (1 : Int32).toInt) ∧ ((1 : Int32).toInt = 0 → z54.toInt = 120) := ⟨(by first | with_reducible assumption | exact ⟨by omega, by omega⟩), by first | exact zNo_1 hI5_0 (by omega) (by omega) hX51_0 hX60_0 e_z54 rfl rfl (by decide) (by decide) | exact zNo_z hI5_0 (by omega) (by omega) (by decide), by omega⟩
        have hP9 : va_P (dC, dI) vwCl [(h0, .inr (8, mX8 h1 (upd (upd (upd (upd (upd (upd (upd (upd v0 1 (u60_ 0)) 2 (u60_ 1)) 3 (u60_ 2)) 4 (u60_ 3)) 5 z54) 6 r60_) 7 r60_) 8 (-1)))), (h1, .inr (6, mX6 h2 h3 h4 h5 h6 h7 h8 h9 v1)), (h4, zi k4 833 f4), (h3, zi k3 833 f3), (h2, zi k2 1250 f2), (h5, zi k5 400 f5), (h6, zi k6 400 f6), (h7, zi k7 400 f7)] H := hP
        have hD9 : va_D A [(h0, .inr (8, mX8 h1 (upd (upd (upd (upd (upd (upd (upd (upd v0 1 (u60_ 0)) 2 (u60_ 1)) 3 (u60_ 2)) 4 (u60_ 3)) 5 z54) 6 r60_) 7 r60_) 8 (-1)))), (h1, .inr (6, mX6 h2 h3 h4 h5 h6 h7 h8 h9 v1)), (h4, zi k4 833 f4), (h3, zi k3 833 f3), (h2, zi k2 1250 f2), (h5, zi k5 400 f5), (h6, zi k6 400 f6), (h7, zi k7 400 f7)] := hD
        exact W.zret (v := 1) hx hb hr rfl (fun t ht hW => ⟨⟨1, (fun i => ([(u60_ 0), (u60_ 1), (u60_ 2), (u60_ 3), z54, r60_, r60_, (-1)] : List (Int32)).getD i 0), rfl, hpost, (fun _ => 0), (fun _ => (fun _ => 0)), (fun _ => (fun _ => 0)), by rw [ht]; exact hP9, va_K.moved hW.alike hK, hD9⟩, hS.F ht⟩) hS.2.2 dX8_nextDocument_80
      · skip
        have b_ := zF_ne rfl zk_0 c_
        refine lv_aload_n hx hb dX8_nextDocument_37 rfl (lv_at hl 0 rfl) ?_
        refine lv_bipush (v := 120) hx hb dX8_nextDocument_38 (by decide) ?_
        refine va_put (D := (dC, dI)) (ci := 8) (v := .int 120) (ty := .int) (C := RX8) (T := TX8) (N := 9) hx hb hG zuX8 tyX8 tyX8_ok nmX8 hown hK hP hD hS 0 rfl rfl 5 (by decide) (hG _ zv296) (fun _ h9 => h9) rfl (by decide +kernel) rfl rfl (Nat.le_of_ble_eq_true rfl) dX8_nextDocument_40 (fun H locs hP hD hS => ?_)
        have hP : va_P (dC, dI) vwCl [(h0, .inr (8, mX8 h1 (upd (upd (upd (upd (upd (upd (upd v0 1 (u5_ 1)) 2 (u5_ 2)) 3 (u5_ 3)) 4 (u5_ 4)) 5 120) 6 0) 7 0))), (h1, .inr (6, mX6 h2 h3 h4 h5 h6 h7 h8 h9 v1)), (h4, zi k4 833 f4), (h3, zi k3 833 f3), (h2, zi k2 1250 f2), (h5, zi k5 400 f5), (h6, zi k6 400 f6), (h7, zi k7 400 f7)] H := hP
        have hD : va_D A [(h0, .inr (8, mX8 h1 (upd (upd (upd (upd (upd (upd (upd v0 1 (u5_ 1)) 2 (u5_ 2)) 3 (u5_ 3)) 4 (u5_ 4)) 5 120) 6 0) 7 0))), (h1, .inr (6, mX6 h2 h3 h4 h5 h6 h7 h8 h9 v1)), (h4, zi k4 833 f4), (h3, zi k3 833 f3), (h2, zi k2 1250 f2), (h5, zi k5 400 f5), (h6, zi k6 400 f6), (h7, zi k7 400 f7)] := hD
        refine lv_iconst (v := 0) hx hb dX8_nextDocument_43 (by decide) ?_
        refine W.widen (k := 0) (n := 0) (by decide) (by decide) ?_
        have b_ : -2147483648 ≤ (u5_ 2).toInt ∧ (u5_ 2).toInt ≤ 2147483647 := ⟨zlo _, zhi _⟩
        have b_ : -2147483648 ≤ (u5_ 3).toInt ∧ (u5_ 3).toInt ≤ 2147483647 := ⟨zlo _, zhi _⟩
        have b_ : -2147483648 ≤ (u5_ 4).toInt ∧ (u5_ 4).toInt ≤ 2147483647 := ⟨zlo _, zhi _⟩
        have hpost : (0 ≤ (0 : Int32).toInt ∧ (0 : Int32).toInt ≤ 1) ∧ (zNo f2 f3 f4 f5 f6 f7 (v1 8).toInt (v1 9).toInt (v1 10).toInt (v1 11).toInt (v0 1).toInt (v0 2).toInt (v0 3).toInt (v0 4).toInt (u5_ 1).toInt (u5_ 2).toInt (u5_ 3).toInt (u5_ 4).toInt (v0 7).toInt (v0 5).toInt (120 : Int32).toInt (0 : Int32).toInt (0 : Int32).toInt (v0 8).toInt (0 : Int32).toInt) ∧ ((0 : Int32).toInt = 0 → (120 : Int32).toInt = 120) := ⟨(by first | with_reducible assumption | exact ⟨by omega, by omega⟩), by first | exact zNo_1 hI5_0 (by omega) (by omega) hX51_0 hX60_0 e_z54 rfl rfl (by decide) (by decide) | exact zNo_z hI5_0 (by omega) (by omega) (by decide), by omega⟩
        have hP9 : va_P (dC, dI) vwCl [(h0, .inr (8, mX8 h1 (upd (upd (upd (upd (upd (upd (upd (upd v0 1 (u5_ 1)) 2 (u5_ 2)) 3 (u5_ 3)) 4 (u5_ 4)) 5 120) 6 0) 7 0) 8 (v0 8)))), (h1, .inr (6, mX6 h2 h3 h4 h5 h6 h7 h8 h9 v1)), (h4, zi k4 833 f4), (h3, zi k3 833 f3), (h2, zi k2 1250 f2), (h5, zi k5 400 f5), (h6, zi k6 400 f6), (h7, zi k7 400 f7)] H := hP
        have hD9 : va_D A [(h0, .inr (8, mX8 h1 (upd (upd (upd (upd (upd (upd (upd (upd v0 1 (u5_ 1)) 2 (u5_ 2)) 3 (u5_ 3)) 4 (u5_ 4)) 5 120) 6 0) 7 0) 8 (v0 8)))), (h1, .inr (6, mX6 h2 h3 h4 h5 h6 h7 h8 h9 v1)), (h4, zi k4 833 f4), (h3, zi k3 833 f3), (h2, zi k2 1250 f2), (h5, zi k5 400 f5), (h6, zi k6 400 f6), (h7, zi k7 400 f7)] := hD
        exact W.zret (v := 0) hx hb hr rfl (fun t ht hW => ⟨⟨0, (fun i => ([(u5_ 1), (u5_ 2), (u5_ 3), (u5_ 4), 120, 0, 0, (v0 8)] : List (Int32)).getD i 0), rfl, hpost, (fun _ => 0), (fun _ => (fun _ => 0)), (fun _ => (fun _ => 0)), by rw [ht]; exact hP9, va_K.moved hW.alike hK, hD9⟩, hS.F ht⟩) hS.2.2 dX8_nextDocument_44
    · skip
      have b_ := zF_le rfl zk_0 c_
      refine lv_aload_n hx hb dX8_nextDocument_9 rfl (lv_at hl 0 rfl) ?_
      have b_ : -2147483648 ≤ (u5_ 1).toInt ∧ (u5_ 1).toInt ≤ 2147483647 := ⟨zlo _, zhi _⟩
      have b_ : -2147483648 ≤ (u5_ 2).toInt ∧ (u5_ 2).toInt ≤ 2147483647 := ⟨zlo _, zhi _⟩
      have b_ : -2147483648 ≤ (u5_ 3).toInt ∧ (u5_ 3).toInt ≤ 2147483647 := ⟨zlo _, zhi _⟩
      have b_ : -2147483648 ≤ (u5_ 4).toInt ∧ (u5_ 4).toInt ≤ 2147483647 := ⟨zlo _, zhi _⟩
      have hPc := hP.sub (ws' := [(h0, .inr (8, mX8 h1 (upd (upd (upd (upd v0 1 (u5_ 1)) 2 (u5_ 2)) 3 (u5_ 3)) 4 (u5_ 4)))), (h1, .inr (6, mX6 h2 h3 h4 h5 h6 h7 h8 h9 v1)), (h4, zi k4 833 f4), (h3, zi k3 833 f3), (h2, zi k2 1250 f2), (h5, zi k5 400 f5), (h6, zi k6 400 f6), (h7, zi k7 400 f7)]) [0, 1, 2, 3, 4, 5, 6, 7] rfl
      have hDc := hD.sub (ws' := [(h0, .inr (8, mX8 h1 (upd (upd (upd (upd v0 1 (u5_ 1)) 2 (u5_ 2)) 3 (u5_ 3)) 4 (u5_ 4)))), (h1, .inr (6, mX6 h2 h3 h4 h5 h6 h7 h8 h9 v1)), (h4, zi k4 833 f4), (h3, zi k3 833 f3), (h2, zi k2 1250 f2), (h5, zi k5 400 f5), (h6, zi k6 400 f6), (h7, zi k7 400 f7)]) [0, 1, 2, 3, 4, 5, 6, 7] (by decide) rfl
      have hKc := hK.sub (tys' := [(k4, .int), (k3, .int), (k2, .int), (k5, .int), (k6, .int), (k7, .int)]) [0, 1, 2, 3, 4, 5] rfl
      have hFc := va_free (wc := [(h0, .inr (8, mX8 h1 (upd (upd (upd (upd v0 1 (u5_ 1)) 2 (u5_ 2)) 3 (u5_ 3)) 4 (u5_ 4)))), (h1, .inr (6, mX6 h2 h3 h4 h5 h6 h7 h8 h9 v1)), (h4, zi k4 833 f4), (h3, zi k3 833 f3), (h2, zi k2 1250 f2), (h5, zi k5 400 f5), (h6, zi k6 400 f6), (h7, zi k7 400 f7)]) hD hS hA [0, 1, 2, 3, 4, 5, 6, 7] rfl
      refine va_calli (va_runV (As := []) (rest := []) ⟨hx, hb, hml, hown, hG⟩ (sX8_gamma_0 l dC dI adK adV h0 h1 h4 h3 h2 h5 h6 h7 h8 h9 k4 k3 k2 k5 k6 k7 H.size (upd (upd (upd (upd v0 1 (u5_ 1)) 2 (u5_ 2)) 3 (u5_ 3)) 4 (u5_ 4)) v1 f4 f3 f2 f5 f6 f7 hv1 hf3 hf6) (cwV 0 hG (zgV zv914 zv916 zv9 zv134 zv917) rfl rfl rfl (by decide +kernel) ⟨Nat.le_of_ble_eq_true rfl, Nat.le_of_ble_eq_true rfl⟩) ⟨zPc_blind, va_recv hKc hPc (ci := 8) (q0 := 0) rfl rfl, zPc_pre hPc hKc hDc hE hS hFc hZ⟩ rfl rfl hl.1 rfl (lv_room (Nat.le_of_ble_eq_true rfl)) dX8_nextDocument_10 ⟨Nat.le_of_ble_eq_true rfl, Nat.le_of_ble_eq_true rfl⟩) hS (fun q _ h => hFc q h) hFc (fun r10_ u10_ t H1 locs ht hvm hw hB hz1 hk1 hS => ?_)
      replace hw : (zGm f2 f3 f4 f5 f6 f7 (v1 8).toInt (v1 9).toInt (v1 10).toInt (v1 11).toInt (u5_ 1).toInt (u5_ 2).toInt (u5_ 3).toInt (u5_ 4).toInt (u10_ 0).toInt (u10_ 1).toInt (u10_ 2).toInt (u10_ 3).toInt r10_.toInt) := hw
      have hX10_0 := hw
      obtain ⟨w10_, a10_, b10_, hP1, hK1, hD1⟩ := hB
      rw [ht] at hP1
      obtain ⟨hP, hD⟩ := va_join (wr := []) (w1 := [(h0, .inr (8, mX8 h1 (upd (upd (upd (upd v0 1 (u10_ 0)) 2 (u10_ 1)) 3 (u10_ 2)) 4 (u10_ 3)))), (h1, .inr (6, mX6 h2 h3 h4 h5 h6 h7 h8 h9 v1)), (h4, zi k4 833 f4), (h3, zi k3 833 f3), (h2, zi k2 1250 f2), (h5, zi k5 400 f5), (h6, zi k6 400 f6), (h7, zi k7 400 f7)]) hP hD [0, 1, 2, 3, 4, 5, 6, 7] [] rfl rfl (by decide) (by decide) hk1 hFc hP1 hD1
      have hP : va_P (dC, dI) vwCl [(h0, .inr (8, mX8 h1 (upd (upd (upd (upd v0 1 (u10_ 0)) 2 (u10_ 1)) 3 (u10_ 2)) 4 (u10_ 3)))), (h1, .inr (6, mX6 h2 h3 h4 h5 h6 h7 h8 h9 v1)), (h4, zi k4 833 f4), (h3, zi k3 833 f3), (h2, zi k2 1250 f2), (h5, zi k5 400 f5), (h6, zi k6 400 f6), (h7, zi k7 400 f7)] H1 := hP.sub [0, 1, 2, 3, 4, 5, 6, 7] rfl
      have hD : va_D A [(h0, .inr (8, mX8 h1 (upd (upd (upd (upd v0 1 (u10_ 0)) 2 (u10_ 1)) 3 (u10_ 2)) 4 (u10_ 3)))), (h1, .inr (6, mX6 h2 h3 h4 h5 h6 h7 h8 h9 v1)), (h4, zi k4 833 f4), (h3, zi k3 833 f3), (h2, zi k2 1250 f2), (h5, zi k5 400 f5), (h6, zi k6 400 f6), (h7, zi k7 400 f7)] := hD.sub [0, 1, 2, 3, 4, 5, 6, 7] (by decide) rfl
      generalize H1 = H at hP hS ⊢
      clear hz1
      refine lv_pop hx hb dX8_nextDocument_13 rfl ?_
      obtain ⟨z14, e_z14⟩ : ∃ z : Int32, z = (u5_ 0) + Int32.ofInt (-1) := ⟨_, rfl⟩
      have b_ := zadd (x := (u5_ 0)) (y := Int32.ofInt (-1)) rfl (show (Int32.ofInt (-1)).toInt = (-1) from by decide) e_z14 (by omega) (by omega)
      refine lv_iinc (v := z14) (lv' := [(1, .int z14), (0, .ref h0)]) hx hb dX8_nextDocument_14 hl (k := 1) rfl e_z14.symm (by decide) rfl (fun ls hl => ?_)
      refine lv_goto (tgt := 5) hx hb dX8_nextDocument_17 (by decide) ?_
      have hc : va_P (dC, dI) vwCl [(h0, .inr (8, mX8 h1 (upd (upd (upd (upd v0 1 (u10_ 0)) 2 (u10_ 1)) 3 (u10_ 2)) 4 (u10_ 3)))), (h1, .inr (6, mX6 h2 h3 h4 h5 h6 h7 h8 h9 v1)), (h4, zi k4 833 f4), (h3, zi k3 833 f3), (h2, zi k2 1250 f2), (h5, zi k5 400 f5), (h6, zi k6 400 f6), (h7, zi k7 400 f7)] H ∧ va_D A [(h0, .inr (8, mX8 h1 (upd (upd (upd (upd v0 1 (u10_ 0)) 2 (u10_ 1)) 3 (u10_ 2)) 4 (u10_ 3)))), (h1, .inr (6, mX6 h2 h3 h4 h5 h6 h7 h8 h9 v1)), (h4, zi k4 833 f4), (h3, zi k3 833 f3), (h2, zi k2 1250 f2), (h5, zi k5 400 f5), (h6, zi k6 400 f6), (h7, zi k7 400 f7)] ∧ va_S A s.heap H locs ∧ lv_has ls 2 [(0, .ref h0), (1, .int z14)] ∧ (zNx f2 f3 f4 f5 f6 f7 (v1 8).toInt (v1 9).toInt (v1 10).toInt (v1 11).toInt (v0 1).toInt (v0 2).toInt (v0 3).toInt (v0 4).toInt (u10_ 0).toInt (u10_ 1).toInt (u10_ 2).toInt (u10_ 3).toInt (v0 7).toInt z14.toInt) := ⟨hP, hD, hS, lv_sub hl [1, 0] rfl, by first | exact zNx_s (by assumption) hX10_0 (by omega) (by omega) | exact zNx_0 rfl⟩
      exact hJ5 H locs ls (fun i => ([z14, (u10_ 0), (u10_ 1), (u10_ 2), (u10_ 3)] : List (Int32)).getD i 0) (fun _ => 0) (fun _ => (fun _ => 0)) (fun _ => (fun _ => 0)) hc (show (z14.toInt - (-2147483648)).toNat < ((u5_ 0).toInt - (-2147483648)).toNat from by omega)
  · skip
    have hc : va_P (dC, dI) vwCl [(h0, .inr (8, mX8 h1 (upd (upd (upd (upd v0 1 (v0 1)) 2 (v0 2)) 3 (v0 3)) 4 (v0 4)))), (h1, .inr (6, mX6 h2 h3 h4 h5 h6 h7 h8 h9 v1)), (h4, zi k4 833 f4), (h3, zi k3 833 f3), (h2, zi k2 1250 f2), (h5, zi k5 400 f5), (h6, zi k6 400 f6), (h7, zi k7 400 f7)] s.heap ∧ va_D A [(h0, .inr (8, mX8 h1 (upd (upd (upd (upd v0 1 (v0 1)) 2 (v0 2)) 3 (v0 3)) 4 (v0 4)))), (h1, .inr (6, mX6 h2 h3 h4 h5 h6 h7 h8 h9 v1)), (h4, zi k4 833 f4), (h3, zi k3 833 f3), (h2, zi k2 1250 f2), (h5, zi k5 400 f5), (h6, zi k6 400 f6), (h7, zi k7 400 f7)] ∧ va_S A s.heap s.heap [] ∧ lv_has ls 2 [(0, .ref h0), (1, .int (v0 7))] ∧ (zNx f2 f3 f4 f5 f6 f7 (v1 8).toInt (v1 9).toInt (v1 10).toInt (v1 11).toInt (v0 1).toInt (v0 2).toInt (v0 3).toInt (v0 4).toInt (v0 1).toInt (v0 2).toInt (v0 3).toInt (v0 4).toInt (v0 7).toInt (v0 7).toInt) := ⟨hP, hD, hS, lv_sub hl [1, 0] rfl, by first | exact zNx_s (by assumption) hX10_0 (by omega) (by omega) | exact zNx_0 rfl⟩
    exact hJ5 s.heap [] ls (fun i => ([(v0 7), (v0 1), (v0 2), (v0 3), (v0 4)] : List (Int32)).getD i 0) (fun _ => 0) (fun _ => (fun _ => 0)) (fun _ => (fun _ => 0)) hc
set_option maxHeartbeats 8000000 in
set_option maxRecDepth 100000 in
theorem sX8_reaches_0 (l : Launch) (dC : Nat → ClassId) (dI : Nat → Nat → Nat) (adK adV : Nat → Nat) (h0 : Nat) (h1 : Nat) (h4 : Nat) (h3 : Nat) (h2 : Nat) (h5 : Nat) (h6 : Nat) (h7 : Nat) (h8 : Nat) (h9 : Nat) (k4 : ClassId) (k3 : ClassId) (k2 : ClassId) (k5 : ClassId) (k6 : ClassId) (k7 : ClassId) (sz : Nat) (v0 : Nat → Int32) (v1 : Nat → Int32) (f4 : Nat → Int32) (f3 : Nat → Int32) (f2 : Nat → Int32) (f5 : Nat → Int32) (f6 : Nat → Int32) (f7 : Nat → Int32) (x1 : Int32) (hv1 : zR rg_Postings v1) (hf3 : zA 0 1250 f3) (hf6 : zA 0 832 f6) (hx1 : 0 ≤ x1.toInt ∧ x1.toInt ≤ 119) : Met l yX8_reaches (zw yX8_reaches cX8_reaches 3 (some .boolean)) { frames := 4, cells := 0, slots := 0, locals := 88 } (zPc dC dI adK adV [.ref h0, .int x1] sz [(h0, .inr (8, mX8 h1 v0)), (h1, .inr (6, mX6 h2 h3 h4 h5 h6 h7 h8 h9 v1)), (h4, zi k4 833 f4), (h3, zi k3 833 f3), (h2, zi k2 1250 f2), (h5, zi k5 400 f5), (h6, zi k6 400 f6), (h7, zi k7 400 f7)] [(k4, .int), (k3, .int), (k2, .int), (k5, .int), (k6, .int), (k7, .int)]) (va_Qi (fun (r : Int32) (u : Nat → Int32) => (0 ≤ r.toInt ∧ r.toInt ≤ 1) ∧ (zRch f2 f3 f4 f5 f6 f7 (v1 8).toInt (v1 9).toInt (v1 10).toInt (v1 11).toInt (v0 1).toInt (v0 2).toInt (v0 3).toInt (v0 4).toInt (v0 5).toInt (v0 6).toInt (v0 7).toInt (v0 8).toInt (u 0).toInt (u 1).toInt (u 2).toInt (u 3).toInt (u 4).toInt (u 5).toInt (u 6).toInt (u 7).toInt x1.toInt r.toInt)) (fun (u : Nat → Int32) (t : State) => ∃ (ww : Nat → Int64) (aa : Nat → Nat → Int32) (bb : Nat → Nat → Int64), va_P (dC, dI) vwCl [(h0, .inr (8, mX8 h1 (upd (upd (upd (upd (upd (upd (upd (upd v0 1 (u 0)) 2 (u 1)) 3 (u 2)) 4 (u 3)) 5 (u 4)) 6 (u 5)) 7 (u 6)) 8 (u 7)))), (h1, .inr (6, mX6 h2 h3 h4 h5 h6 h7 h8 h9 v1)), (h4, zi k4 833 f4), (h3, zi k3 833 f3), (h2, zi k2 1250 f2), (h5, zi k5 400 f5), (h6, zi k6 400 f6), (h7, zi k7 400 f7)] t.heap ∧ va_K (dC, dI) vwCl [(k4, .int), (k3, .int), (k2, .int), (k5, .int), (k6, .int), (k7, .int)] t ∧ va_D (va_A [(h0, .inr (8, mX8 h1 v0)), (h1, .inr (6, mX6 h2 h3 h4 h5 h6 h7 h8 h9 v1)), (h4, zi k4 833 f4), (h3, zi k3 833 f3), (h2, zi k2 1250 f2), (h5, zi k5 400 f5), (h6, zi k6 400 f6), (h7, zi k7 400 f7)] sz) [(h0, .inr (8, mX8 h1 (upd (upd (upd (upd (upd (upd (upd (upd v0 1 (u 0)) 2 (u 1)) 3 (u 2)) 4 (u 3)) 5 (u 4)) 6 (u 5)) 7 (u 6)) 8 (u 7)))), (h1, .inr (6, mX6 h2 h3 h4 h5 h6 h7 h8 h9 v1)), (h4, zi k4 833 f4), (h3, zi k3 833 f3), (h2, zi k2 1250 f2), (h5, zi k5 400 f5), (h6, zi k6 400 f6), (h7, zi k7 400 f7)]) (va_A [(h0, .inr (8, mX8 h1 v0)), (h1, .inr (6, mX6 h2 h3 h4 h5 h6 h7 h8 h9 v1)), (h4, zi k4 833 f4), (h3, zi k3 833 f3), (h2, zi k2 1250 f2), (h5, zi k5 400 f5), (h6, zi k6 400 f6), (h7, zi k7 400 f7)] sz)) 0 0 (va_A [(h0, .inr (8, mX8 h1 v0)), (h1, .inr (6, mX6 h2 h3 h4 h5 h6 h7 h8 h9 v1)), (h4, zi k4 833 f4), (h3, zi k3 833 f3), (h2, zi k2 1250 f2), (h5, zi k5 400 f5), (h6, zi k6 400 f6), (h7, zi k7 400 f7)] sz) := by
  refine Met.ofW (cc := cX8_reaches) (maxL := 3) (ret := (some .boolean)) (by decide) rfl ?_
  intro p e s m args below meth c s₁ B hml hv
  obtain ⟨rfl, hsz, hP, hK, hD0, hE, hZ⟩ := hv
  have hx := B.exec
  have hb := B.bytes
  have hr := B.returns
  have hG : ∀ w ∈ zG, w.before _ s = true := fun w h => atoms_spec (ws := (zw yX8_reaches cX8_reaches 3 (some .boolean))) B.pre w (List.mem_cons_of_mem _ h)
  have hown : s.vm.findClass RX8 = some m.cls := findClass_of_methodNamed B.named
  have hlocks := B.notSynchronized

  subst hsz
  have hD := hD0.self (sz := s.heap.size)
  generalize hAe : va_A [(h0, .inr (8, mX8 h1 v0)), (h1, .inr (6, mX6 h2 h3 h4 h5 h6 h7 h8 h9 v1)), (h4, zi k4 833 f4), (h3, zi k3 833 f3), (h2, zi k2 1250 f2), (h5, zi k5 400 f5), (h6, zi k6 400 f6), (h7, zi k7 400 f7)] s.heap.size = A at hD hZ ⊢
  have hA : ∀ q : Nat, s.heap.size ≤ q → A q := fun q h => by rw [← hAe]; exact Or.inr h
  have hS : va_S A s.heap s.heap [] := va_S.rf
  have hl := lv_entry ([.ref h0, .int x1]) (n := 3) (Nat.le_of_ble_eq_true rfl)
  rw [lg_entry_eq]
  generalize (lg_sl ([.ref h0, .int x1]) ++ List.replicate (3 - (lg_sl ([.ref h0, .int x1])).length) Slot.unset).toArray = ls at hl ⊢
  have hl : lv_has ls 3 [(0, .ref h0), (1, .int x1)] := hl
  have b_ := zk_0
  have b_ := zk_1
  have b_ : 0 ≤ (v1 8).toInt ∧ (v1 8).toInt ≤ 833 := hv1 8
  have b_ : 0 ≤ (v1 9).toInt ∧ (v1 9).toInt ≤ 1250 := hv1 9
  have b_ : -2147483648 ≤ (v1 10).toInt ∧ (v1 10).toInt ≤ 2147483647 := ⟨zlo _, zhi _⟩
  have b_ : -2147483648 ≤ (v1 11).toInt ∧ (v1 11).toInt ≤ 2147483647 := ⟨zlo _, zhi _⟩
  have b_ : -2147483648 ≤ (v0 1).toInt ∧ (v0 1).toInt ≤ 2147483647 := ⟨zlo _, zhi _⟩
  have b_ : -2147483648 ≤ (v0 2).toInt ∧ (v0 2).toInt ≤ 2147483647 := ⟨zlo _, zhi _⟩
  have b_ : -2147483648 ≤ (v0 3).toInt ∧ (v0 3).toInt ≤ 2147483647 := ⟨zlo _, zhi _⟩
  have b_ : -2147483648 ≤ (v0 4).toInt ∧ (v0 4).toInt ≤ 2147483647 := ⟨zlo _, zhi _⟩
  have b_ : -2147483648 ≤ (v0 5).toInt ∧ (v0 5).toInt ≤ 2147483647 := ⟨zlo _, zhi _⟩
  have b_ : -2147483648 ≤ (v0 6).toInt ∧ (v0 6).toInt ≤ 2147483647 := ⟨zlo _, zhi _⟩
  have b_ : -2147483648 ≤ (v0 7).toInt ∧ (v0 7).toInt ≤ 2147483647 := ⟨zlo _, zhi _⟩
  have b_ : -2147483648 ≤ (v0 8).toInt ∧ (v0 8).toInt ≤ 2147483647 := ⟨zlo _, zhi _⟩
  refine lv_iconst (v := 0) hx hb dX8_reaches_0 (by decide) ?_
  refine lv_istore_n (lv' := [(2, .int 0), (0, .ref h0), (1, .int x1)]) hx hb dX8_reaches_1 rfl hl (by decide) rfl (fun ls hl => ?_)
  refine zcutL (fun u2_ => (120 - (u2_ 0).toInt).toNat) (fun H locs ls u2_ w2_ a2_ b2_ => va_P (dC, dI) vwCl [(h0, .inr (8, mX8 h1 (upd (upd (upd (upd (upd (upd (upd (upd v0 1 (u2_ 1)) 2 (u2_ 2)) 3 (u2_ 3)) 4 (u2_ 4)) 5 (u2_ 5)) 6 (u2_ 6)) 7 (u2_ 7)) 8 (u2_ 8)))), (h1, .inr (6, mX6 h2 h3 h4 h5 h6 h7 h8 h9 v1)), (h4, zi k4 833 f4), (h3, zi k3 833 f3), (h2, zi k2 1250 f2), (h5, zi k5 400 f5), (h6, zi k6 400 f6), (h7, zi k7 400 f7)] H ∧ va_D A [(h0, .inr (8, mX8 h1 (upd (upd (upd (upd (upd (upd (upd (upd v0 1 (u2_ 1)) 2 (u2_ 2)) 3 (u2_ 3)) 4 (u2_ 4)) 5 (u2_ 5)) 6 (u2_ 6)) 7 (u2_ 7)) 8 (u2_ 8)))), (h1, .inr (6, mX6 h2 h3 h4 h5 h6 h7 h8 h9 v1)), (h4, zi k4 833 f4), (h3, zi k3 833 f3), (h2, zi k2 1250 f2), (h5, zi k5 400 f5), (h6, zi k6 400 f6), (h7, zi k7 400 f7)] ∧ va_S A s.heap H locs ∧ lv_has ls 3 [(0, .ref h0), (1, .int x1), (2, .int (u2_ 0))] ∧ (0 ≤ (u2_ 0).toInt ∧ (u2_ 0).toInt ≤ 120) ∧ (zRa f2 f3 f4 f5 f6 f7 (v1 8).toInt (v1 9).toInt (v1 10).toInt (v1 11).toInt (v0 1).toInt (v0 2).toInt (v0 3).toInt (v0 4).toInt (v0 5).toInt (v0 6).toInt (v0 7).toInt (v0 8).toInt (u2_ 1).toInt (u2_ 2).toInt (u2_ 3).toInt (u2_ 4).toInt (u2_ 5).toInt (u2_ 6).toInt (u2_ 7).toInt (u2_ 8).toInt x1.toInt (u2_ 0).toInt) ∧ (0 ≤ (u2_ 0).toInt)) (fun ls u2_ w2_ => F0 m 2 ls []) 0 0 ?_ (fun hJ2 => ?_)
  · skip
    intro H locs ls u2_ w2_ a2_ b2_ hc hJ2
    obtain ⟨hP, hD, hS, hl, b_, hI2_0, b_⟩ := hc
    refine lv_iload_n hx hb dX8_reaches_2 rfl (lv_at hl 2 rfl) ?_
    refine lv_bipush (v := 120) hx hb dX8_reaches_3 (by decide) ?_
    refine lv_icmp_ge (tgt := 27) hx hb dX8_reaches_5 (by decide) (fun c_ => ?_) (fun c_ => ?_)
    · skip
      have b_ := zT_ge rfl zk_120 c_
      refine lv_aload_n hx hb dX8_reaches_27 rfl (lv_at hl 0 rfl) ?_
      refine va_get (D := (dC, dI)) (ci := 8) (v := .int (u2_ 5)) (C := RX8) (T := TX8) (N := 9) hx hb hG zuX8 hown hK hP 0 rfl rfl 5 (by decide) (hG _ zv296) (fun _ h9 => h9) rfl dX8_reaches_28 ?_
      refine lv_iload_n hx hb dX8_reaches_31 rfl (lv_at hl 1 rfl) ?_
      have b_ : -2147483648 ≤ (u2_ 5).toInt ∧ (u2_ 5).toInt ≤ 2147483647 := ⟨zlo _, zhi _⟩
      refine lv_icmp_ne (tgt := 39) hx hb dX8_reaches_32 (by decide) (fun c_ => ?_) (fun c_ => ?_)
      · skip
        have b_ := zT_ne rfl rfl c_
        refine lv_iconst (v := 0) hx hb dX8_reaches_39 (by decide) ?_
        refine W.widen (k := 0) (n := 0) (by decide) (by decide) ?_
        have b_ : -2147483648 ≤ (u2_ 1).toInt ∧ (u2_ 1).toInt ≤ 2147483647 := ⟨zlo _, zhi _⟩
        have b_ : -2147483648 ≤ (u2_ 2).toInt ∧ (u2_ 2).toInt ≤ 2147483647 := ⟨zlo _, zhi _⟩
        have b_ : -2147483648 ≤ (u2_ 3).toInt ∧ (u2_ 3).toInt ≤ 2147483647 := ⟨zlo _, zhi _⟩
        have b_ : -2147483648 ≤ (u2_ 4).toInt ∧ (u2_ 4).toInt ≤ 2147483647 := ⟨zlo _, zhi _⟩
        have b_ : -2147483648 ≤ (u2_ 6).toInt ∧ (u2_ 6).toInt ≤ 2147483647 := ⟨zlo _, zhi _⟩
        have b_ : -2147483648 ≤ (u2_ 7).toInt ∧ (u2_ 7).toInt ≤ 2147483647 := ⟨zlo _, zhi _⟩
        have b_ : -2147483648 ≤ (u2_ 8).toInt ∧ (u2_ 8).toInt ≤ 2147483647 := ⟨zlo _, zhi _⟩
        have hpost : (0 ≤ (0 : Int32).toInt ∧ (0 : Int32).toInt ≤ 1) ∧ (zRch f2 f3 f4 f5 f6 f7 (v1 8).toInt (v1 9).toInt (v1 10).toInt (v1 11).toInt (v0 1).toInt (v0 2).toInt (v0 3).toInt (v0 4).toInt (v0 5).toInt (v0 6).toInt (v0 7).toInt (v0 8).toInt (u2_ 1).toInt (u2_ 2).toInt (u2_ 3).toInt (u2_ 4).toInt (u2_ 5).toInt (u2_ 6).toInt (u2_ 7).toInt (u2_ 8).toInt x1.toInt (0 : Int32).toInt) := ⟨(by first | with_reducible assumption | exact ⟨by omega, by omega⟩), by exact zRch_e hI2_0 (by omega) (by omega) (by omega) (by omega)⟩
        have hP9 : va_P (dC, dI) vwCl [(h0, .inr (8, mX8 h1 (upd (upd (upd (upd (upd (upd (upd (upd v0 1 (u2_ 1)) 2 (u2_ 2)) 3 (u2_ 3)) 4 (u2_ 4)) 5 (u2_ 5)) 6 (u2_ 6)) 7 (u2_ 7)) 8 (u2_ 8)))), (h1, .inr (6, mX6 h2 h3 h4 h5 h6 h7 h8 h9 v1)), (h4, zi k4 833 f4), (h3, zi k3 833 f3), (h2, zi k2 1250 f2), (h5, zi k5 400 f5), (h6, zi k6 400 f6), (h7, zi k7 400 f7)] H := hP
        have hD9 : va_D A [(h0, .inr (8, mX8 h1 (upd (upd (upd (upd (upd (upd (upd (upd v0 1 (u2_ 1)) 2 (u2_ 2)) 3 (u2_ 3)) 4 (u2_ 4)) 5 (u2_ 5)) 6 (u2_ 6)) 7 (u2_ 7)) 8 (u2_ 8)))), (h1, .inr (6, mX6 h2 h3 h4 h5 h6 h7 h8 h9 v1)), (h4, zi k4 833 f4), (h3, zi k3 833 f3), (h2, zi k2 1250 f2), (h5, zi k5 400 f5), (h6, zi k6 400 f6), (h7, zi k7 400 f7)] := hD
        exact W.zret (v := 0) hx hb hr rfl (fun t ht hW => ⟨⟨0, (fun i => ([(u2_ 1), (u2_ 2), (u2_ 3), (u2_ 4), (u2_ 5), (u2_ 6), (u2_ 7), (u2_ 8)] : List (Int32)).getD i 0), rfl, hpost, (fun _ => 0), (fun _ => (fun _ => 0)), (fun _ => (fun _ => 0)), by rw [ht]; exact hP9, va_K.moved hW.alike hK, hD9⟩, hS.F ht⟩) hS.2.2 dX8_reaches_40
      · skip
        have b_ := zF_ne rfl rfl c_
        refine lv_iconst (v := 1) hx hb dX8_reaches_35 (by decide) ?_
        refine lv_goto (tgt := 40) hx hb dX8_reaches_36 (by decide) ?_
        refine W.widen (k := 0) (n := 0) (by decide) (by decide) ?_
        have b_ : -2147483648 ≤ (u2_ 1).toInt ∧ (u2_ 1).toInt ≤ 2147483647 := ⟨zlo _, zhi _⟩
        have b_ : -2147483648 ≤ (u2_ 2).toInt ∧ (u2_ 2).toInt ≤ 2147483647 := ⟨zlo _, zhi _⟩
        have b_ : -2147483648 ≤ (u2_ 3).toInt ∧ (u2_ 3).toInt ≤ 2147483647 := ⟨zlo _, zhi _⟩
        have b_ : -2147483648 ≤ (u2_ 4).toInt ∧ (u2_ 4).toInt ≤ 2147483647 := ⟨zlo _, zhi _⟩
        have b_ : -2147483648 ≤ (u2_ 6).toInt ∧ (u2_ 6).toInt ≤ 2147483647 := ⟨zlo _, zhi _⟩
        have b_ : -2147483648 ≤ (u2_ 7).toInt ∧ (u2_ 7).toInt ≤ 2147483647 := ⟨zlo _, zhi _⟩
        have b_ : -2147483648 ≤ (u2_ 8).toInt ∧ (u2_ 8).toInt ≤ 2147483647 := ⟨zlo _, zhi _⟩
        have hpost : (0 ≤ (1 : Int32).toInt ∧ (1 : Int32).toInt ≤ 1) ∧ (zRch f2 f3 f4 f5 f6 f7 (v1 8).toInt (v1 9).toInt (v1 10).toInt (v1 11).toInt (v0 1).toInt (v0 2).toInt (v0 3).toInt (v0 4).toInt (v0 5).toInt (v0 6).toInt (v0 7).toInt (v0 8).toInt (u2_ 1).toInt (u2_ 2).toInt (u2_ 3).toInt (u2_ 4).toInt (u2_ 5).toInt (u2_ 6).toInt (u2_ 7).toInt (u2_ 8).toInt x1.toInt (1 : Int32).toInt) := ⟨(by first | with_reducible assumption | exact ⟨by omega, by omega⟩), by exact zRch_e hI2_0 (by omega) (by omega) (by omega) (by omega)⟩
        have hP9 : va_P (dC, dI) vwCl [(h0, .inr (8, mX8 h1 (upd (upd (upd (upd (upd (upd (upd (upd v0 1 (u2_ 1)) 2 (u2_ 2)) 3 (u2_ 3)) 4 (u2_ 4)) 5 (u2_ 5)) 6 (u2_ 6)) 7 (u2_ 7)) 8 (u2_ 8)))), (h1, .inr (6, mX6 h2 h3 h4 h5 h6 h7 h8 h9 v1)), (h4, zi k4 833 f4), (h3, zi k3 833 f3), (h2, zi k2 1250 f2), (h5, zi k5 400 f5), (h6, zi k6 400 f6), (h7, zi k7 400 f7)] H := hP
        have hD9 : va_D A [(h0, .inr (8, mX8 h1 (upd (upd (upd (upd (upd (upd (upd (upd v0 1 (u2_ 1)) 2 (u2_ 2)) 3 (u2_ 3)) 4 (u2_ 4)) 5 (u2_ 5)) 6 (u2_ 6)) 7 (u2_ 7)) 8 (u2_ 8)))), (h1, .inr (6, mX6 h2 h3 h4 h5 h6 h7 h8 h9 v1)), (h4, zi k4 833 f4), (h3, zi k3 833 f3), (h2, zi k2 1250 f2), (h5, zi k5 400 f5), (h6, zi k6 400 f6), (h7, zi k7 400 f7)] := hD
        exact W.zret (v := 1) hx hb hr rfl (fun t ht hW => ⟨⟨1, (fun i => ([(u2_ 1), (u2_ 2), (u2_ 3), (u2_ 4), (u2_ 5), (u2_ 6), (u2_ 7), (u2_ 8)] : List (Int32)).getD i 0), rfl, hpost, (fun _ => 0), (fun _ => (fun _ => 0)), (fun _ => (fun _ => 0)), by rw [ht]; exact hP9, va_K.moved hW.alike hK, hD9⟩, hS.F ht⟩) hS.2.2 dX8_reaches_40
    · skip
      have b_ := zF_ge rfl zk_120 c_
      refine lv_aload_n hx hb dX8_reaches_8 rfl (lv_at hl 0 rfl) ?_
      refine va_get (D := (dC, dI)) (ci := 8) (v := .int (u2_ 5)) (C := RX8) (T := TX8) (N := 9) hx hb hG zuX8 hown hK hP 0 rfl rfl 5 (by decide) (hG _ zv296) (fun _ h9 => h9) rfl dX8_reaches_9 ?_
      refine lv_iload_n hx hb dX8_reaches_12 rfl (lv_at hl 1 rfl) ?_
      have b_ : -2147483648 ≤ (u2_ 5).toInt ∧ (u2_ 5).toInt ≤ 2147483647 := ⟨zlo _, zhi _⟩
      refine lv_icmp_ge (tgt := 27) hx hb dX8_reaches_13 (by decide) (fun c_ => ?_) (fun c_ => ?_)
      · skip
        have b_ := zT_ge rfl rfl c_
        refine lv_aload_n hx hb dX8_reaches_27 rfl (lv_at hl 0 rfl) ?_
        refine va_get (D := (dC, dI)) (ci := 8) (v := .int (u2_ 5)) (C := RX8) (T := TX8) (N := 9) hx hb hG zuX8 hown hK hP 0 rfl rfl 5 (by decide) (hG _ zv296) (fun _ h9 => h9) rfl dX8_reaches_28 ?_
        refine lv_iload_n hx hb dX8_reaches_31 rfl (lv_at hl 1 rfl) ?_
        refine lv_icmp_ne (tgt := 39) hx hb dX8_reaches_32 (by decide) (fun c_ => ?_) (fun c_ => ?_)
        · skip
          have b_ := zT_ne rfl rfl c_
          refine lv_iconst (v := 0) hx hb dX8_reaches_39 (by decide) ?_
          refine W.widen (k := 0) (n := 0) (by decide) (by decide) ?_
          have b_ : -2147483648 ≤ (u2_ 1).toInt ∧ (u2_ 1).toInt ≤ 2147483647 := ⟨zlo _, zhi _⟩
          have b_ : -2147483648 ≤ (u2_ 2).toInt ∧ (u2_ 2).toInt ≤ 2147483647 := ⟨zlo _, zhi _⟩
          have b_ : -2147483648 ≤ (u2_ 3).toInt ∧ (u2_ 3).toInt ≤ 2147483647 := ⟨zlo _, zhi _⟩
          have b_ : -2147483648 ≤ (u2_ 4).toInt ∧ (u2_ 4).toInt ≤ 2147483647 := ⟨zlo _, zhi _⟩
          have b_ : -2147483648 ≤ (u2_ 6).toInt ∧ (u2_ 6).toInt ≤ 2147483647 := ⟨zlo _, zhi _⟩
          have b_ : -2147483648 ≤ (u2_ 7).toInt ∧ (u2_ 7).toInt ≤ 2147483647 := ⟨zlo _, zhi _⟩
          have b_ : -2147483648 ≤ (u2_ 8).toInt ∧ (u2_ 8).toInt ≤ 2147483647 := ⟨zlo _, zhi _⟩
          have hpost : (0 ≤ (0 : Int32).toInt ∧ (0 : Int32).toInt ≤ 1) ∧ (zRch f2 f3 f4 f5 f6 f7 (v1 8).toInt (v1 9).toInt (v1 10).toInt (v1 11).toInt (v0 1).toInt (v0 2).toInt (v0 3).toInt (v0 4).toInt (v0 5).toInt (v0 6).toInt (v0 7).toInt (v0 8).toInt (u2_ 1).toInt (u2_ 2).toInt (u2_ 3).toInt (u2_ 4).toInt (u2_ 5).toInt (u2_ 6).toInt (u2_ 7).toInt (u2_ 8).toInt x1.toInt (0 : Int32).toInt) := ⟨(by first | with_reducible assumption | exact ⟨by omega, by omega⟩), by exact zRch_e hI2_0 (by omega) (by omega) (by omega) (by omega)⟩
          have hP9 : va_P (dC, dI) vwCl [(h0, .inr (8, mX8 h1 (upd (upd (upd (upd (upd (upd (upd (upd v0 1 (u2_ 1)) 2 (u2_ 2)) 3 (u2_ 3)) 4 (u2_ 4)) 5 (u2_ 5)) 6 (u2_ 6)) 7 (u2_ 7)) 8 (u2_ 8)))), (h1, .inr (6, mX6 h2 h3 h4 h5 h6 h7 h8 h9 v1)), (h4, zi k4 833 f4), (h3, zi k3 833 f3), (h2, zi k2 1250 f2), (h5, zi k5 400 f5), (h6, zi k6 400 f6), (h7, zi k7 400 f7)] H := hP
          have hD9 : va_D A [(h0, .inr (8, mX8 h1 (upd (upd (upd (upd (upd (upd (upd (upd v0 1 (u2_ 1)) 2 (u2_ 2)) 3 (u2_ 3)) 4 (u2_ 4)) 5 (u2_ 5)) 6 (u2_ 6)) 7 (u2_ 7)) 8 (u2_ 8)))), (h1, .inr (6, mX6 h2 h3 h4 h5 h6 h7 h8 h9 v1)), (h4, zi k4 833 f4), (h3, zi k3 833 f3), (h2, zi k2 1250 f2), (h5, zi k5 400 f5), (h6, zi k6 400 f6), (h7, zi k7 400 f7)] := hD
          exact W.zret (v := 0) hx hb hr rfl (fun t ht hW => ⟨⟨0, (fun i => ([(u2_ 1), (u2_ 2), (u2_ 3), (u2_ 4), (u2_ 5), (u2_ 6), (u2_ 7), (u2_ 8)] : List (Int32)).getD i 0), rfl, hpost, (fun _ => 0), (fun _ => (fun _ => 0)), (fun _ => (fun _ => 0)), by rw [ht]; exact hP9, va_K.moved hW.alike hK, hD9⟩, hS.F ht⟩) hS.2.2 dX8_reaches_40
        · skip
          have b_ := zF_ne rfl rfl c_
          refine lv_iconst (v := 1) hx hb dX8_reaches_35 (by decide) ?_
          refine lv_goto (tgt := 40) hx hb dX8_reaches_36 (by decide) ?_
          refine W.widen (k := 0) (n := 0) (by decide) (by decide) ?_
          have b_ : -2147483648 ≤ (u2_ 1).toInt ∧ (u2_ 1).toInt ≤ 2147483647 := ⟨zlo _, zhi _⟩
          have b_ : -2147483648 ≤ (u2_ 2).toInt ∧ (u2_ 2).toInt ≤ 2147483647 := ⟨zlo _, zhi _⟩
          have b_ : -2147483648 ≤ (u2_ 3).toInt ∧ (u2_ 3).toInt ≤ 2147483647 := ⟨zlo _, zhi _⟩
          have b_ : -2147483648 ≤ (u2_ 4).toInt ∧ (u2_ 4).toInt ≤ 2147483647 := ⟨zlo _, zhi _⟩
          have b_ : -2147483648 ≤ (u2_ 6).toInt ∧ (u2_ 6).toInt ≤ 2147483647 := ⟨zlo _, zhi _⟩
          have b_ : -2147483648 ≤ (u2_ 7).toInt ∧ (u2_ 7).toInt ≤ 2147483647 := ⟨zlo _, zhi _⟩
          have b_ : -2147483648 ≤ (u2_ 8).toInt ∧ (u2_ 8).toInt ≤ 2147483647 := ⟨zlo _, zhi _⟩
          have hpost : (0 ≤ (1 : Int32).toInt ∧ (1 : Int32).toInt ≤ 1) ∧ (zRch f2 f3 f4 f5 f6 f7 (v1 8).toInt (v1 9).toInt (v1 10).toInt (v1 11).toInt (v0 1).toInt (v0 2).toInt (v0 3).toInt (v0 4).toInt (v0 5).toInt (v0 6).toInt (v0 7).toInt (v0 8).toInt (u2_ 1).toInt (u2_ 2).toInt (u2_ 3).toInt (u2_ 4).toInt (u2_ 5).toInt (u2_ 6).toInt (u2_ 7).toInt (u2_ 8).toInt x1.toInt (1 : Int32).toInt) := ⟨(by first | with_reducible assumption | exact ⟨by omega, by omega⟩), by exact zRch_e hI2_0 (by omega) (by omega) (by omega) (by omega)⟩
          have hP9 : va_P (dC, dI) vwCl [(h0, .inr (8, mX8 h1 (upd (upd (upd (upd (upd (upd (upd (upd v0 1 (u2_ 1)) 2 (u2_ 2)) 3 (u2_ 3)) 4 (u2_ 4)) 5 (u2_ 5)) 6 (u2_ 6)) 7 (u2_ 7)) 8 (u2_ 8)))), (h1, .inr (6, mX6 h2 h3 h4 h5 h6 h7 h8 h9 v1)), (h4, zi k4 833 f4), (h3, zi k3 833 f3), (h2, zi k2 1250 f2), (h5, zi k5 400 f5), (h6, zi k6 400 f6), (h7, zi k7 400 f7)] H := hP
          have hD9 : va_D A [(h0, .inr (8, mX8 h1 (upd (upd (upd (upd (upd (upd (upd (upd v0 1 (u2_ 1)) 2 (u2_ 2)) 3 (u2_ 3)) 4 (u2_ 4)) 5 (u2_ 5)) 6 (u2_ 6)) 7 (u2_ 7)) 8 (u2_ 8)))), (h1, .inr (6, mX6 h2 h3 h4 h5 h6 h7 h8 h9 v1)), (h4, zi k4 833 f4), (h3, zi k3 833 f3), (h2, zi k2 1250 f2), (h5, zi k5 400 f5), (h6, zi k6 400 f6), (h7, zi k7 400 f7)] := hD
          exact W.zret (v := 1) hx hb hr rfl (fun t ht hW => ⟨⟨1, (fun i => ([(u2_ 1), (u2_ 2), (u2_ 3), (u2_ 4), (u2_ 5), (u2_ 6), (u2_ 7), (u2_ 8)] : List (Int32)).getD i 0), rfl, hpost, (fun _ => 0), (fun _ => (fun _ => 0)), (fun _ => (fun _ => 0)), by rw [ht]; exact hP9, va_K.moved hW.alike hK, hD9⟩, hS.F ht⟩) hS.2.2 dX8_reaches_40
      · skip
        have b_ := zF_ge rfl rfl c_
        refine lv_aload_n hx hb dX8_reaches_16 rfl (lv_at hl 0 rfl) ?_
        have b_ : -2147483648 ≤ (u2_ 1).toInt ∧ (u2_ 1).toInt ≤ 2147483647 := ⟨zlo _, zhi _⟩
        have b_ : -2147483648 ≤ (u2_ 2).toInt ∧ (u2_ 2).toInt ≤ 2147483647 := ⟨zlo _, zhi _⟩
        have b_ : -2147483648 ≤ (u2_ 3).toInt ∧ (u2_ 3).toInt ≤ 2147483647 := ⟨zlo _, zhi _⟩
        have b_ : -2147483648 ≤ (u2_ 4).toInt ∧ (u2_ 4).toInt ≤ 2147483647 := ⟨zlo _, zhi _⟩
        have b_ : -2147483648 ≤ (u2_ 6).toInt ∧ (u2_ 6).toInt ≤ 2147483647 := ⟨zlo _, zhi _⟩
        have b_ : -2147483648 ≤ (u2_ 7).toInt ∧ (u2_ 7).toInt ≤ 2147483647 := ⟨zlo _, zhi _⟩
        have b_ : -2147483648 ≤ (u2_ 8).toInt ∧ (u2_ 8).toInt ≤ 2147483647 := ⟨zlo _, zhi _⟩
        have hPc := hP.sub (ws' := [(h0, .inr (8, mX8 h1 (upd (upd (upd (upd (upd (upd (upd (upd v0 1 (u2_ 1)) 2 (u2_ 2)) 3 (u2_ 3)) 4 (u2_ 4)) 5 (u2_ 5)) 6 (u2_ 6)) 7 (u2_ 7)) 8 (u2_ 8)))), (h1, .inr (6, mX6 h2 h3 h4 h5 h6 h7 h8 h9 v1)), (h4, zi k4 833 f4), (h3, zi k3 833 f3), (h2, zi k2 1250 f2), (h5, zi k5 400 f5), (h6, zi k6 400 f6), (h7, zi k7 400 f7)]) [0, 1, 2, 3, 4, 5, 6, 7] rfl
        have hDc := hD.sub (ws' := [(h0, .inr (8, mX8 h1 (upd (upd (upd (upd (upd (upd (upd (upd v0 1 (u2_ 1)) 2 (u2_ 2)) 3 (u2_ 3)) 4 (u2_ 4)) 5 (u2_ 5)) 6 (u2_ 6)) 7 (u2_ 7)) 8 (u2_ 8)))), (h1, .inr (6, mX6 h2 h3 h4 h5 h6 h7 h8 h9 v1)), (h4, zi k4 833 f4), (h3, zi k3 833 f3), (h2, zi k2 1250 f2), (h5, zi k5 400 f5), (h6, zi k6 400 f6), (h7, zi k7 400 f7)]) [0, 1, 2, 3, 4, 5, 6, 7] (by decide) rfl
        have hKc := hK.sub (tys' := [(k4, .int), (k3, .int), (k2, .int), (k5, .int), (k6, .int), (k7, .int)]) [0, 1, 2, 3, 4, 5] rfl
        have hFc := va_free (wc := [(h0, .inr (8, mX8 h1 (upd (upd (upd (upd (upd (upd (upd (upd v0 1 (u2_ 1)) 2 (u2_ 2)) 3 (u2_ 3)) 4 (u2_ 4)) 5 (u2_ 5)) 6 (u2_ 6)) 7 (u2_ 7)) 8 (u2_ 8)))), (h1, .inr (6, mX6 h2 h3 h4 h5 h6 h7 h8 h9 v1)), (h4, zi k4 833 f4), (h3, zi k3 833 f3), (h2, zi k2 1250 f2), (h5, zi k5 400 f5), (h6, zi k6 400 f6), (h7, zi k7 400 f7)]) hD hS hA [0, 1, 2, 3, 4, 5, 6, 7] rfl
        refine va_calli (va_runV (As := []) (rest := []) ⟨hx, hb, hml, hown, hG⟩ (sX8_nextDocument_0 l dC dI adK adV h0 h1 h4 h3 h2 h5 h6 h7 h8 h9 k4 k3 k2 k5 k6 k7 H.size (upd (upd (upd (upd (upd (upd (upd (upd v0 1 (u2_ 1)) 2 (u2_ 2)) 3 (u2_ 3)) 4 (u2_ 4)) 5 (u2_ 5)) 6 (u2_ 6)) 7 (u2_ 7)) 8 (u2_ 8)) v1 f4 f3 f2 f5 f6 f7 hv1 hf3 hf6) (cwV 0 hG (zgV zv983 zv911 zv912 zv134 zv913) rfl rfl rfl (by decide +kernel) ⟨Nat.le_of_ble_eq_true rfl, Nat.le_of_ble_eq_true rfl⟩) ⟨zPc_blind, va_recv hKc hPc (ci := 8) (q0 := 0) rfl rfl, zPc_pre hPc hKc hDc hE hS hFc hZ⟩ rfl rfl hl.1 rfl (lv_room (Nat.le_of_ble_eq_true rfl)) dX8_reaches_17 ⟨Nat.le_of_ble_eq_true rfl, Nat.le_of_ble_eq_true rfl⟩) hS (fun q _ h => hFc q h) hFc (fun r17_ u17_ t H1 locs ht hvm hw hB hz1 hk1 hS => ?_)
        replace hw : (0 ≤ r17_.toInt ∧ r17_.toInt ≤ 1) ∧ (zNo f2 f3 f4 f5 f6 f7 (v1 8).toInt (v1 9).toInt (v1 10).toInt (v1 11).toInt (u2_ 1).toInt (u2_ 2).toInt (u2_ 3).toInt (u2_ 4).toInt (u17_ 0).toInt (u17_ 1).toInt (u17_ 2).toInt (u17_ 3).toInt (u2_ 7).toInt (u2_ 5).toInt (u17_ 4).toInt (u17_ 5).toInt (u17_ 6).toInt (u17_ 7).toInt r17_.toInt) ∧ (r17_.toInt = 0 → (u17_ 4).toInt = 120) := hw
        obtain ⟨b_, hX17_0, hX17_1⟩ := hw
        obtain ⟨w17_, a17_, b17_, hP1, hK1, hD1⟩ := hB
        rw [ht] at hP1
        obtain ⟨hP, hD⟩ := va_join (wr := []) (w1 := [(h0, .inr (8, mX8 h1 (upd (upd (upd (upd (upd (upd (upd (upd v0 1 (u17_ 0)) 2 (u17_ 1)) 3 (u17_ 2)) 4 (u17_ 3)) 5 (u17_ 4)) 6 (u17_ 5)) 7 (u17_ 6)) 8 (u17_ 7)))), (h1, .inr (6, mX6 h2 h3 h4 h5 h6 h7 h8 h9 v1)), (h4, zi k4 833 f4), (h3, zi k3 833 f3), (h2, zi k2 1250 f2), (h5, zi k5 400 f5), (h6, zi k6 400 f6), (h7, zi k7 400 f7)]) hP hD [0, 1, 2, 3, 4, 5, 6, 7] [] rfl rfl (by decide) (by decide) hk1 hFc hP1 hD1
        have hP : va_P (dC, dI) vwCl [(h0, .inr (8, mX8 h1 (upd (upd (upd (upd (upd (upd (upd (upd v0 1 (u17_ 0)) 2 (u17_ 1)) 3 (u17_ 2)) 4 (u17_ 3)) 5 (u17_ 4)) 6 (u17_ 5)) 7 (u17_ 6)) 8 (u17_ 7)))), (h1, .inr (6, mX6 h2 h3 h4 h5 h6 h7 h8 h9 v1)), (h4, zi k4 833 f4), (h3, zi k3 833 f3), (h2, zi k2 1250 f2), (h5, zi k5 400 f5), (h6, zi k6 400 f6), (h7, zi k7 400 f7)] H1 := hP.sub [0, 1, 2, 3, 4, 5, 6, 7] rfl
        have hD : va_D A [(h0, .inr (8, mX8 h1 (upd (upd (upd (upd (upd (upd (upd (upd v0 1 (u17_ 0)) 2 (u17_ 1)) 3 (u17_ 2)) 4 (u17_ 3)) 5 (u17_ 4)) 6 (u17_ 5)) 7 (u17_ 6)) 8 (u17_ 7)))), (h1, .inr (6, mX6 h2 h3 h4 h5 h6 h7 h8 h9 v1)), (h4, zi k4 833 f4), (h3, zi k3 833 f3), (h2, zi k2 1250 f2), (h5, zi k5 400 f5), (h6, zi k6 400 f6), (h7, zi k7 400 f7)] := hD.sub [0, 1, 2, 3, 4, 5, 6, 7] (by decide) rfl
        generalize H1 = H at hP hS ⊢
        clear hz1
        refine lv_pop hx hb dX8_reaches_20 rfl ?_
        obtain ⟨z21, e_z21⟩ : ∃ z : Int32, z = (u2_ 0) + Int32.ofInt 1 := ⟨_, rfl⟩
        have b_ := zadd (x := (u2_ 0)) (y := Int32.ofInt 1) rfl (show (Int32.ofInt 1).toInt = 1 from by decide) e_z21 (by omega) (by omega)
        refine lv_iinc (v := z21) (lv' := [(2, .int z21), (0, .ref h0), (1, .int x1)]) hx hb dX8_reaches_21 hl (k := 2) rfl e_z21.symm (by decide) rfl (fun ls hl => ?_)
        refine lv_goto (tgt := 2) hx hb dX8_reaches_24 (by decide) ?_
        have hc : va_P (dC, dI) vwCl [(h0, .inr (8, mX8 h1 (upd (upd (upd (upd (upd (upd (upd (upd v0 1 (u17_ 0)) 2 (u17_ 1)) 3 (u17_ 2)) 4 (u17_ 3)) 5 (u17_ 4)) 6 (u17_ 5)) 7 (u17_ 6)) 8 (u17_ 7)))), (h1, .inr (6, mX6 h2 h3 h4 h5 h6 h7 h8 h9 v1)), (h4, zi k4 833 f4), (h3, zi k3 833 f3), (h2, zi k2 1250 f2), (h5, zi k5 400 f5), (h6, zi k6 400 f6), (h7, zi k7 400 f7)] H ∧ va_D A [(h0, .inr (8, mX8 h1 (upd (upd (upd (upd (upd (upd (upd (upd v0 1 (u17_ 0)) 2 (u17_ 1)) 3 (u17_ 2)) 4 (u17_ 3)) 5 (u17_ 4)) 6 (u17_ 5)) 7 (u17_ 6)) 8 (u17_ 7)))), (h1, .inr (6, mX6 h2 h3 h4 h5 h6 h7 h8 h9 v1)), (h4, zi k4 833 f4), (h3, zi k3 833 f3), (h2, zi k2 1250 f2), (h5, zi k5 400 f5), (h6, zi k6 400 f6), (h7, zi k7 400 f7)] ∧ va_S A s.heap H locs ∧ lv_has ls 3 [(0, .ref h0), (1, .int x1), (2, .int z21)] ∧ (0 ≤ z21.toInt ∧ z21.toInt ≤ 120) ∧ (zRa f2 f3 f4 f5 f6 f7 (v1 8).toInt (v1 9).toInt (v1 10).toInt (v1 11).toInt (v0 1).toInt (v0 2).toInt (v0 3).toInt (v0 4).toInt (v0 5).toInt (v0 6).toInt (v0 7).toInt (v0 8).toInt (u17_ 0).toInt (u17_ 1).toInt (u17_ 2).toInt (u17_ 3).toInt (u17_ 4).toInt (u17_ 5).toInt (u17_ 6).toInt (u17_ 7).toInt x1.toInt z21.toInt) ∧ (0 ≤ z21.toInt) := ⟨hP, hD, hS, lv_sub hl [1, 2, 0] rfl, (by first | with_reducible assumption | exact ⟨by omega, by omega⟩), by first | exact zRa_s hI2_0 hX17_0 hX17_1 (by omega) (by omega) (by omega) (by omega) | exact zRa_0 (by decide), by omega⟩
        exact hJ2 H locs ls (fun i => ([z21, (u17_ 0), (u17_ 1), (u17_ 2), (u17_ 3), (u17_ 4), (u17_ 5), (u17_ 6), (u17_ 7)] : List (Int32)).getD i 0) (fun _ => 0) (fun _ => (fun _ => 0)) (fun _ => (fun _ => 0)) hc (show (120 - z21.toInt).toNat < (120 - (u2_ 0).toInt).toNat from by omega)
  · skip
    have hc : va_P (dC, dI) vwCl [(h0, .inr (8, mX8 h1 (upd (upd (upd (upd (upd (upd (upd (upd v0 1 (v0 1)) 2 (v0 2)) 3 (v0 3)) 4 (v0 4)) 5 (v0 5)) 6 (v0 6)) 7 (v0 7)) 8 (v0 8)))), (h1, .inr (6, mX6 h2 h3 h4 h5 h6 h7 h8 h9 v1)), (h4, zi k4 833 f4), (h3, zi k3 833 f3), (h2, zi k2 1250 f2), (h5, zi k5 400 f5), (h6, zi k6 400 f6), (h7, zi k7 400 f7)] s.heap ∧ va_D A [(h0, .inr (8, mX8 h1 (upd (upd (upd (upd (upd (upd (upd (upd v0 1 (v0 1)) 2 (v0 2)) 3 (v0 3)) 4 (v0 4)) 5 (v0 5)) 6 (v0 6)) 7 (v0 7)) 8 (v0 8)))), (h1, .inr (6, mX6 h2 h3 h4 h5 h6 h7 h8 h9 v1)), (h4, zi k4 833 f4), (h3, zi k3 833 f3), (h2, zi k2 1250 f2), (h5, zi k5 400 f5), (h6, zi k6 400 f6), (h7, zi k7 400 f7)] ∧ va_S A s.heap s.heap [] ∧ lv_has ls 3 [(0, .ref h0), (1, .int x1), (2, .int 0)] ∧ (0 ≤ (0 : Int32).toInt ∧ (0 : Int32).toInt ≤ 120) ∧ (zRa f2 f3 f4 f5 f6 f7 (v1 8).toInt (v1 9).toInt (v1 10).toInt (v1 11).toInt (v0 1).toInt (v0 2).toInt (v0 3).toInt (v0 4).toInt (v0 5).toInt (v0 6).toInt (v0 7).toInt (v0 8).toInt (v0 1).toInt (v0 2).toInt (v0 3).toInt (v0 4).toInt (v0 5).toInt (v0 6).toInt (v0 7).toInt (v0 8).toInt x1.toInt (0 : Int32).toInt) ∧ (0 ≤ (0 : Int32).toInt) := ⟨hP, hD, hS, lv_sub hl [1, 2, 0] rfl, (by first | with_reducible assumption | exact ⟨by omega, by omega⟩), by first | exact zRa_s hI2_0 hX17_0 hX17_1 (by omega) (by omega) (by omega) (by omega) | exact zRa_0 (by decide), by omega⟩
    exact hJ2 s.heap [] ls (fun i => ([0, (v0 1), (v0 2), (v0 3), (v0 4), (v0 5), (v0 6), (v0 7), (v0 8)] : List (Int32)).getD i 0) (fun _ => 0) (fun _ => (fun _ => 0)) (fun _ => (fun _ => 0)) hc
set_option maxHeartbeats 8000000 in
set_option maxRecDepth 100000 in
theorem sX8_places_0 (l : Launch) (dC : Nat → ClassId) (dI : Nat → Nat → Nat) (adK adV : Nat → Nat) (h0 : Nat) (h1 : Nat) (sz : Nat) (v0 : Nat → Int32) : Met l yX8_places (zw yX8_places cX8_places 1 (some .int)) { frames := 0, cells := 0, slots := 0, locals := 0 } (zPc dC dI adK adV [.ref h0] sz [(h0, .inr (8, mX8 h1 v0))] []) (va_Qi (fun (r : Int32) (u : Nat → Int32) => (r.toInt = (v0 6).toInt)) (fun (u : Nat → Int32) (t : State) => ∃ (ww : Nat → Int64) (aa : Nat → Nat → Int32) (bb : Nat → Nat → Int64), va_P (dC, dI) vwCl [(h0, .inr (8, mX8 h1 v0))] t.heap ∧ va_K (dC, dI) vwCl [] t ∧ va_D (va_A [(h0, .inr (8, mX8 h1 v0))] sz) [(h0, .inr (8, mX8 h1 v0))]) (va_A [(h0, .inr (8, mX8 h1 v0))] sz)) 0 0 (va_A [(h0, .inr (8, mX8 h1 v0))] sz) := by
  refine Met.ofW (cc := cX8_places) (maxL := 1) (ret := (some .int)) (by decide) rfl ?_
  intro p e s m args below meth c s₁ B hml hv
  obtain ⟨rfl, hsz, hP, hK, hD0, hE, hZ⟩ := hv
  have hx := B.exec
  have hb := B.bytes
  have hr := B.returns
  have hG : ∀ w ∈ zG, w.before _ s = true := fun w h => atoms_spec (ws := (zw yX8_places cX8_places 1 (some .int))) B.pre w (List.mem_cons_of_mem _ h)
  have hown : s.vm.findClass RX8 = some m.cls := findClass_of_methodNamed B.named
  have hlocks := B.notSynchronized

  subst hsz
  have hD := hD0.self (sz := s.heap.size)
  generalize hAe : va_A [(h0, .inr (8, mX8 h1 v0))] s.heap.size = A at hD hZ ⊢
  have hA : ∀ q : Nat, s.heap.size ≤ q → A q := fun q h => by rw [← hAe]; exact Or.inr h
  have hS : va_S A s.heap s.heap [] := va_S.rf
  have hl := lv_entry ([.ref h0]) (n := 1) (Nat.le_of_ble_eq_true rfl)
  rw [lg_entry_eq]
  generalize (lg_sl ([.ref h0]) ++ List.replicate (1 - (lg_sl ([.ref h0])).length) Slot.unset).toArray = ls at hl ⊢
  have hl : lv_has ls 1 [(0, .ref h0)] := hl
  have b_ : -2147483648 ≤ (v0 6).toInt ∧ (v0 6).toInt ≤ 2147483647 := ⟨zlo _, zhi _⟩
  refine lv_aload_n hx hb dX8_places_0 rfl (lv_at hl 0 rfl) ?_
  refine va_get (D := (dC, dI)) (ci := 8) (v := .int (v0 6)) (C := RX8) (T := TX8) (N := 9) hx hb hG zuX8 hown hK hP 0 rfl rfl 6 (by decide) (hG _ zv297) (fun _ h9 => h9) rfl dX8_places_1 ?_
  refine W.widen (k := 0) (n := 0) (by decide) (by decide) ?_
  have hpost : ((v0 6).toInt = (v0 6).toInt) := by first | rfl | omega
  have hP9 : va_P (dC, dI) vwCl [(h0, .inr (8, mX8 h1 v0))] s.heap := hP
  have hD9 : va_D A [(h0, .inr (8, mX8 h1 v0))] := hD
  exact W.iret (v := (v0 6)) hx hb hr (fun t ht hW => ⟨⟨(v0 6), (fun _ => 0), rfl, hpost, (fun _ => 0), (fun _ => (fun _ => 0)), (fun _ => (fun _ => 0)), by rw [ht]; exact hP9, va_K.moved hW.alike hK, hD9⟩, hS.F ht⟩) hS.2.2 dX8_places_4
set_option maxHeartbeats 8000000 in
set_option maxRecDepth 100000 in
theorem sX8_nextPlace_0 (l : Launch) (dC : Nat → ClassId) (dI : Nat → Nat → Nat) (adK adV : Nat → Nat) (h0 : Nat) (h1 : Nat) (h4 : Nat) (h3 : Nat) (h2 : Nat) (h5 : Nat) (h6 : Nat) (h7 : Nat) (h8 : Nat) (h9 : Nat) (k4 : ClassId) (k3 : ClassId) (k2 : ClassId) (k5 : ClassId) (k6 : ClassId) (k7 : ClassId) (sz : Nat) (v0 : Nat → Int32) (v1 : Nat → Int32) (f4 : Nat → Int32) (f3 : Nat → Int32) (f2 : Nat → Int32) (f5 : Nat → Int32) (f6 : Nat → Int32) (f7 : Nat → Int32) (hv1 : zR rg_Postings v1) (hf3 : zA 0 1250 f3) (hf6 : zA 0 832 f6) : Met l yX8_nextPlace (zw yX8_nextPlace cX8_nextPlace 1 (some .int)) { frames := 3, cells := 0, slots := 0, locals := 67 } (zPc dC dI adK adV [.ref h0] sz [(h0, .inr (8, mX8 h1 v0)), (h1, .inr (6, mX6 h2 h3 h4 h5 h6 h7 h8 h9 v1)), (h4, zi k4 833 f4), (h3, zi k3 833 f3), (h2, zi k2 1250 f2), (h5, zi k5 400 f5), (h6, zi k6 400 f6), (h7, zi k7 400 f7)] [(k4, .int), (k3, .int), (k2, .int), (k5, .int), (k6, .int), (k7, .int)]) (va_Qi (fun (r : Int32) (u : Nat → Int32) => ((-2147483648) ≤ (u 4).toInt ∧ (u 4).toInt ≤ 2147483646) ∧ (zNp f2 f3 f4 f5 f6 f7 (v1 8).toInt (v1 9).toInt (v1 10).toInt (v1 11).toInt (v0 1).toInt (v0 2).toInt (v0 3).toInt (v0 4).toInt (u 0).toInt (u 1).toInt (u 2).toInt (u 3).toInt (v0 7).toInt (v0 8).toInt (u 4).toInt (u 5).toInt r.toInt)) (fun (u : Nat → Int32) (t : State) => ∃ (ww : Nat → Int64) (aa : Nat → Nat → Int32) (bb : Nat → Nat → Int64), va_P (dC, dI) vwCl [(h0, .inr (8, mX8 h1 (upd (upd (upd (upd (upd (upd v0 1 (u 0)) 2 (u 1)) 3 (u 2)) 4 (u 3)) 7 (u 4)) 8 (u 5)))), (h1, .inr (6, mX6 h2 h3 h4 h5 h6 h7 h8 h9 v1)), (h4, zi k4 833 f4), (h3, zi k3 833 f3), (h2, zi k2 1250 f2), (h5, zi k5 400 f5), (h6, zi k6 400 f6), (h7, zi k7 400 f7)] t.heap ∧ va_K (dC, dI) vwCl [(k4, .int), (k3, .int), (k2, .int), (k5, .int), (k6, .int), (k7, .int)] t ∧ va_D (va_A [(h0, .inr (8, mX8 h1 v0)), (h1, .inr (6, mX6 h2 h3 h4 h5 h6 h7 h8 h9 v1)), (h4, zi k4 833 f4), (h3, zi k3 833 f3), (h2, zi k2 1250 f2), (h5, zi k5 400 f5), (h6, zi k6 400 f6), (h7, zi k7 400 f7)] sz) [(h0, .inr (8, mX8 h1 (upd (upd (upd (upd (upd (upd v0 1 (u 0)) 2 (u 1)) 3 (u 2)) 4 (u 3)) 7 (u 4)) 8 (u 5)))), (h1, .inr (6, mX6 h2 h3 h4 h5 h6 h7 h8 h9 v1)), (h4, zi k4 833 f4), (h3, zi k3 833 f3), (h2, zi k2 1250 f2), (h5, zi k5 400 f5), (h6, zi k6 400 f6), (h7, zi k7 400 f7)]) (va_A [(h0, .inr (8, mX8 h1 v0)), (h1, .inr (6, mX6 h2 h3 h4 h5 h6 h7 h8 h9 v1)), (h4, zi k4 833 f4), (h3, zi k3 833 f3), (h2, zi k2 1250 f2), (h5, zi k5 400 f5), (h6, zi k6 400 f6), (h7, zi k7 400 f7)] sz)) 0 0 (va_A [(h0, .inr (8, mX8 h1 v0)), (h1, .inr (6, mX6 h2 h3 h4 h5 h6 h7 h8 h9 v1)), (h4, zi k4 833 f4), (h3, zi k3 833 f3), (h2, zi k2 1250 f2), (h5, zi k5 400 f5), (h6, zi k6 400 f6), (h7, zi k7 400 f7)] sz) := by
  refine Met.ofW (cc := cX8_nextPlace) (maxL := 1) (ret := (some .int)) (by decide) rfl ?_
  intro p e s m args below meth c s₁ B hml hv
  obtain ⟨rfl, hsz, hP, hK, hD0, hE, hZ⟩ := hv
  have hx := B.exec
  have hb := B.bytes
  have hr := B.returns
  have hG : ∀ w ∈ zG, w.before _ s = true := fun w h => atoms_spec (ws := (zw yX8_nextPlace cX8_nextPlace 1 (some .int))) B.pre w (List.mem_cons_of_mem _ h)
  have hown : s.vm.findClass RX8 = some m.cls := findClass_of_methodNamed B.named
  have hlocks := B.notSynchronized

  subst hsz
  have hD := hD0.self (sz := s.heap.size)
  generalize hAe : va_A [(h0, .inr (8, mX8 h1 v0)), (h1, .inr (6, mX6 h2 h3 h4 h5 h6 h7 h8 h9 v1)), (h4, zi k4 833 f4), (h3, zi k3 833 f3), (h2, zi k2 1250 f2), (h5, zi k5 400 f5), (h6, zi k6 400 f6), (h7, zi k7 400 f7)] s.heap.size = A at hD hZ ⊢
  have hA : ∀ q : Nat, s.heap.size ≤ q → A q := fun q h => by rw [← hAe]; exact Or.inr h
  have hS : va_S A s.heap s.heap [] := va_S.rf
  have hl := lv_entry ([.ref h0]) (n := 1) (Nat.le_of_ble_eq_true rfl)
  rw [lg_entry_eq]
  generalize (lg_sl ([.ref h0]) ++ List.replicate (1 - (lg_sl ([.ref h0])).length) Slot.unset).toArray = ls at hl ⊢
  have hl : lv_has ls 1 [(0, .ref h0)] := hl
  have b_ : 0 ≤ (v1 8).toInt ∧ (v1 8).toInt ≤ 833 := hv1 8
  have b_ : 0 ≤ (v1 9).toInt ∧ (v1 9).toInt ≤ 1250 := hv1 9
  have b_ : -2147483648 ≤ (v1 10).toInt ∧ (v1 10).toInt ≤ 2147483647 := ⟨zlo _, zhi _⟩
  have b_ : -2147483648 ≤ (v1 11).toInt ∧ (v1 11).toInt ≤ 2147483647 := ⟨zlo _, zhi _⟩
  have b_ : -2147483648 ≤ (v0 1).toInt ∧ (v0 1).toInt ≤ 2147483647 := ⟨zlo _, zhi _⟩
  have b_ : -2147483648 ≤ (v0 2).toInt ∧ (v0 2).toInt ≤ 2147483647 := ⟨zlo _, zhi _⟩
  have b_ : -2147483648 ≤ (v0 3).toInt ∧ (v0 3).toInt ≤ 2147483647 := ⟨zlo _, zhi _⟩
  have b_ : -2147483648 ≤ (v0 4).toInt ∧ (v0 4).toInt ≤ 2147483647 := ⟨zlo _, zhi _⟩
  have b_ : -2147483648 ≤ (v0 7).toInt ∧ (v0 7).toInt ≤ 2147483647 := ⟨zlo _, zhi _⟩
  have b_ : -2147483648 ≤ (v0 8).toInt ∧ (v0 8).toInt ≤ 2147483647 := ⟨zlo _, zhi _⟩
  refine lv_aload_n hx hb dX8_nextPlace_0 rfl (lv_at hl 0 rfl) ?_
  refine va_get (D := (dC, dI)) (ci := 8) (v := .int (v0 7)) (C := RX8) (T := TX8) (N := 9) hx hb hG zuX8 hown hK hP 0 rfl rfl 7 (by decide) (hG _ zv298) (fun _ h9 => h9) rfl dX8_nextPlace_1 ?_
  refine lv_if_le (tgt := 30) hx hb dX8_nextPlace_4 (by decide) (fun c_ => ?_) (fun c_ => ?_)
  · skip
    have b_ := zT_le rfl zk_0 c_
    refine lv_aload_n hx hb dX8_nextPlace_30 rfl (lv_at hl 0 rfl) ?_
    refine va_get (D := (dC, dI)) (ci := 8) (v := .int (v0 8)) (C := RX8) (T := TX8) (N := 9) hx hb hG zuX8 hown hK hP 0 rfl rfl 8 (by decide) (hG _ zv299) (fun _ h9 => h9) rfl dX8_nextPlace_31 ?_
    refine W.widen (k := 0) (n := 0) (by decide) (by decide) ?_
    have hpost : ((-2147483648) ≤ (v0 7).toInt ∧ (v0 7).toInt ≤ 2147483646) ∧ (zNp f2 f3 f4 f5 f6 f7 (v1 8).toInt (v1 9).toInt (v1 10).toInt (v1 11).toInt (v0 1).toInt (v0 2).toInt (v0 3).toInt (v0 4).toInt (v0 1).toInt (v0 2).toInt (v0 3).toInt (v0 4).toInt (v0 7).toInt (v0 8).toInt (v0 7).toInt (v0 8).toInt (v0 8).toInt) := ⟨(by first | with_reducible assumption | exact ⟨by omega, by omega⟩), by first | exact zNp_1 hX23_0 e_z26 e_z13 rfl | exact zNp_0 (by omega)⟩
    have hP9 : va_P (dC, dI) vwCl [(h0, .inr (8, mX8 h1 (upd (upd (upd (upd (upd (upd v0 1 (v0 1)) 2 (v0 2)) 3 (v0 3)) 4 (v0 4)) 7 (v0 7)) 8 (v0 8)))), (h1, .inr (6, mX6 h2 h3 h4 h5 h6 h7 h8 h9 v1)), (h4, zi k4 833 f4), (h3, zi k3 833 f3), (h2, zi k2 1250 f2), (h5, zi k5 400 f5), (h6, zi k6 400 f6), (h7, zi k7 400 f7)] s.heap := hP
    have hD9 : va_D A [(h0, .inr (8, mX8 h1 (upd (upd (upd (upd (upd (upd v0 1 (v0 1)) 2 (v0 2)) 3 (v0 3)) 4 (v0 4)) 7 (v0 7)) 8 (v0 8)))), (h1, .inr (6, mX6 h2 h3 h4 h5 h6 h7 h8 h9 v1)), (h4, zi k4 833 f4), (h3, zi k3 833 f3), (h2, zi k2 1250 f2), (h5, zi k5 400 f5), (h6, zi k6 400 f6), (h7, zi k7 400 f7)] := hD
    exact W.iret (v := (v0 8)) hx hb hr (fun t ht hW => ⟨⟨(v0 8), (fun i => ([(v0 1), (v0 2), (v0 3), (v0 4), (v0 7), (v0 8)] : List (Int32)).getD i 0), rfl, hpost, (fun _ => 0), (fun _ => (fun _ => 0)), (fun _ => (fun _ => 0)), by rw [ht]; exact hP9, va_K.moved hW.alike hK, hD9⟩, hS.F ht⟩) hS.2.2 dX8_nextPlace_34
  · skip
    have b_ := zF_le rfl zk_0 c_
    refine lv_aload_n hx hb dX8_nextPlace_7 rfl (lv_at hl 0 rfl) ?_
    refine lv_dup hx hb dX8_nextPlace_8 rfl ?_
    refine va_get (D := (dC, dI)) (ci := 8) (v := .int (v0 7)) (C := RX8) (T := TX8) (N := 9) hx hb hG zuX8 hown hK hP 0 rfl rfl 7 (by decide) (hG _ zv298) (fun _ h9 => h9) rfl dX8_nextPlace_9 ?_
    refine lv_iconst (v := 1) hx hb dX8_nextPlace_12 (by decide) ?_
    refine lv_isub hx hb dX8_nextPlace_13 ?_
    refine lv_topi (fun z13 e_z13 => ?_)
    have b_ := zsub rfl zk_1 e_z13 (by omega) (by omega)
    refine va_put (D := (dC, dI)) (ci := 8) (v := .int z13) (ty := .int) (C := RX8) (T := TX8) (N := 9) hx hb hG zuX8 tyX8 tyX8_ok nmX8 hown hK hP hD hS 0 rfl rfl 7 (by decide) (hG _ zv298) (fun _ h9 => h9) rfl (by decide +kernel) rfl rfl (Nat.le_of_ble_eq_true rfl) dX8_nextPlace_14 (fun H locs hP hD hS => ?_)
    have hP : va_P (dC, dI) vwCl [(h0, .inr (8, mX8 h1 (upd v0 7 z13))), (h1, .inr (6, mX6 h2 h3 h4 h5 h6 h7 h8 h9 v1)), (h4, zi k4 833 f4), (h3, zi k3 833 f3), (h2, zi k2 1250 f2), (h5, zi k5 400 f5), (h6, zi k6 400 f6), (h7, zi k7 400 f7)] H := hP
    have hD : va_D A [(h0, .inr (8, mX8 h1 (upd v0 7 z13))), (h1, .inr (6, mX6 h2 h3 h4 h5 h6 h7 h8 h9 v1)), (h4, zi k4 833 f4), (h3, zi k3 833 f3), (h2, zi k2 1250 f2), (h5, zi k5 400 f5), (h6, zi k6 400 f6), (h7, zi k7 400 f7)] := hD
    refine lv_aload_n hx hb dX8_nextPlace_17 rfl (lv_at hl 0 rfl) ?_
    refine lv_dup hx hb dX8_nextPlace_18 rfl ?_
    refine va_get (D := (dC, dI)) (ci := 8) (v := .int (v0 8)) (C := RX8) (T := TX8) (N := 9) hx hb hG zuX8 hown hK hP 0 rfl rfl 8 (by decide) (hG _ zv299) (fun _ h9 => h9) rfl dX8_nextPlace_19 ?_
    refine lv_aload_n hx hb dX8_nextPlace_22 rfl (lv_at hl 0 rfl) ?_
    have hPc := hP.sub (ws' := [(h0, .inr (8, mX8 h1 (upd v0 7 z13))), (h1, .inr (6, mX6 h2 h3 h4 h5 h6 h7 h8 h9 v1)), (h4, zi k4 833 f4), (h3, zi k3 833 f3), (h2, zi k2 1250 f2), (h5, zi k5 400 f5), (h6, zi k6 400 f6), (h7, zi k7 400 f7)]) [0, 1, 2, 3, 4, 5, 6, 7] rfl
    have hDc := hD.sub (ws' := [(h0, .inr (8, mX8 h1 (upd v0 7 z13))), (h1, .inr (6, mX6 h2 h3 h4 h5 h6 h7 h8 h9 v1)), (h4, zi k4 833 f4), (h3, zi k3 833 f3), (h2, zi k2 1250 f2), (h5, zi k5 400 f5), (h6, zi k6 400 f6), (h7, zi k7 400 f7)]) [0, 1, 2, 3, 4, 5, 6, 7] (by decide) rfl
    have hKc := hK.sub (tys' := [(k4, .int), (k3, .int), (k2, .int), (k5, .int), (k6, .int), (k7, .int)]) [0, 1, 2, 3, 4, 5] rfl
    have hFc := va_free (wc := [(h0, .inr (8, mX8 h1 (upd v0 7 z13))), (h1, .inr (6, mX6 h2 h3 h4 h5 h6 h7 h8 h9 v1)), (h4, zi k4 833 f4), (h3, zi k3 833 f3), (h2, zi k2 1250 f2), (h5, zi k5 400 f5), (h6, zi k6 400 f6), (h7, zi k7 400 f7)]) hD hS hA [0, 1, 2, 3, 4, 5, 6, 7] rfl
    refine va_calli (va_runV (As := []) (rest := [.int (v0 8), .ref h0]) ⟨hx, hb, hml, hown, hG⟩ (sX8_gamma_0 l dC dI adK adV h0 h1 h4 h3 h2 h5 h6 h7 h8 h9 k4 k3 k2 k5 k6 k7 H.size (upd v0 7 z13) v1 f4 f3 f2 f5 f6 f7 hv1 hf3 hf6) (cwV 0 hG (zgV zv914 zv916 zv9 zv134 zv917) rfl rfl rfl (by decide +kernel) ⟨Nat.le_of_ble_eq_true rfl, Nat.le_of_ble_eq_true rfl⟩) ⟨zPc_blind, va_recv hKc hPc (ci := 8) (q0 := 0) rfl rfl, zPc_pre hPc hKc hDc hE hS hFc hZ⟩ rfl rfl hl.1 rfl (lv_room (Nat.le_of_ble_eq_true rfl)) dX8_nextPlace_23 ⟨Nat.le_of_ble_eq_true rfl, Nat.le_of_ble_eq_true rfl⟩) hS (fun q _ h => hFc q h) hFc (fun r23_ u23_ t H1 locs ht hvm hw hB hz1 hk1 hS => ?_)
    replace hw : (zGm f2 f3 f4 f5 f6 f7 (v1 8).toInt (v1 9).toInt (v1 10).toInt (v1 11).toInt (v0 1).toInt (v0 2).toInt (v0 3).toInt (v0 4).toInt (u23_ 0).toInt (u23_ 1).toInt (u23_ 2).toInt (u23_ 3).toInt r23_.toInt) := hw
    have hX23_0 := hw
    obtain ⟨w23_, a23_, b23_, hP1, hK1, hD1⟩ := hB
    rw [ht] at hP1
    obtain ⟨hP, hD⟩ := va_join (wr := []) (w1 := [(h0, .inr (8, mX8 h1 (upd (upd (upd (upd (upd v0 1 (u23_ 0)) 2 (u23_ 1)) 3 (u23_ 2)) 4 (u23_ 3)) 7 z13))), (h1, .inr (6, mX6 h2 h3 h4 h5 h6 h7 h8 h9 v1)), (h4, zi k4 833 f4), (h3, zi k3 833 f3), (h2, zi k2 1250 f2), (h5, zi k5 400 f5), (h6, zi k6 400 f6), (h7, zi k7 400 f7)]) hP hD [0, 1, 2, 3, 4, 5, 6, 7] [] rfl rfl (by decide) (by decide) hk1 hFc hP1 hD1
    have hP : va_P (dC, dI) vwCl [(h0, .inr (8, mX8 h1 (upd (upd (upd (upd (upd v0 1 (u23_ 0)) 2 (u23_ 1)) 3 (u23_ 2)) 4 (u23_ 3)) 7 z13))), (h1, .inr (6, mX6 h2 h3 h4 h5 h6 h7 h8 h9 v1)), (h4, zi k4 833 f4), (h3, zi k3 833 f3), (h2, zi k2 1250 f2), (h5, zi k5 400 f5), (h6, zi k6 400 f6), (h7, zi k7 400 f7)] H1 := hP.sub [0, 1, 2, 3, 4, 5, 6, 7] rfl
    have hD : va_D A [(h0, .inr (8, mX8 h1 (upd (upd (upd (upd (upd v0 1 (u23_ 0)) 2 (u23_ 1)) 3 (u23_ 2)) 4 (u23_ 3)) 7 z13))), (h1, .inr (6, mX6 h2 h3 h4 h5 h6 h7 h8 h9 v1)), (h4, zi k4 833 f4), (h3, zi k3 833 f3), (h2, zi k2 1250 f2), (h5, zi k5 400 f5), (h6, zi k6 400 f6), (h7, zi k7 400 f7)] := hD.sub [0, 1, 2, 3, 4, 5, 6, 7] (by decide) rfl
    generalize H1 = H at hP hS ⊢
    clear hz1
    have b_ : -2147483648 ≤ r23_.toInt ∧ r23_.toInt ≤ 2147483647 := ⟨zlo _, zhi _⟩
    refine lv_iadd hx hb dX8_nextPlace_26 ?_
    refine lv_topi (fun z26 e_z26 => ?_)
    refine va_put (D := (dC, dI)) (ci := 8) (v := .int z26) (ty := .int) (C := RX8) (T := TX8) (N := 9) hx hb hG zuX8 tyX8 tyX8_ok nmX8 hown hK hP hD hS 0 rfl rfl 8 (by decide) (hG _ zv299) (fun _ h9 => h9) rfl (by decide +kernel) rfl rfl (Nat.le_of_ble_eq_true rfl) dX8_nextPlace_27 (fun H locs hP hD hS => ?_)
    have hP : va_P (dC, dI) vwCl [(h0, .inr (8, mX8 h1 (upd (upd (upd (upd (upd (upd v0 1 (u23_ 0)) 2 (u23_ 1)) 3 (u23_ 2)) 4 (u23_ 3)) 7 z13) 8 z26))), (h1, .inr (6, mX6 h2 h3 h4 h5 h6 h7 h8 h9 v1)), (h4, zi k4 833 f4), (h3, zi k3 833 f3), (h2, zi k2 1250 f2), (h5, zi k5 400 f5), (h6, zi k6 400 f6), (h7, zi k7 400 f7)] H := hP
    have hD : va_D A [(h0, .inr (8, mX8 h1 (upd (upd (upd (upd (upd (upd v0 1 (u23_ 0)) 2 (u23_ 1)) 3 (u23_ 2)) 4 (u23_ 3)) 7 z13) 8 z26))), (h1, .inr (6, mX6 h2 h3 h4 h5 h6 h7 h8 h9 v1)), (h4, zi k4 833 f4), (h3, zi k3 833 f3), (h2, zi k2 1250 f2), (h5, zi k5 400 f5), (h6, zi k6 400 f6), (h7, zi k7 400 f7)] := hD
    refine lv_aload_n hx hb dX8_nextPlace_30 rfl (lv_at hl 0 rfl) ?_
    refine va_get (D := (dC, dI)) (ci := 8) (v := .int z26) (C := RX8) (T := TX8) (N := 9) hx hb hG zuX8 hown hK hP 0 rfl rfl 8 (by decide) (hG _ zv299) (fun _ h9 => h9) rfl dX8_nextPlace_31 ?_
    refine W.widen (k := 0) (n := 0) (by decide) (by decide) ?_
    have b_ : -2147483648 ≤ z26.toInt ∧ z26.toInt ≤ 2147483647 := ⟨zlo _, zhi _⟩
    have b_ : -2147483648 ≤ (u23_ 0).toInt ∧ (u23_ 0).toInt ≤ 2147483647 := ⟨zlo _, zhi _⟩
    have b_ : -2147483648 ≤ (u23_ 1).toInt ∧ (u23_ 1).toInt ≤ 2147483647 := ⟨zlo _, zhi _⟩
    have b_ : -2147483648 ≤ (u23_ 2).toInt ∧ (u23_ 2).toInt ≤ 2147483647 := ⟨zlo _, zhi _⟩
    have b_ : -2147483648 ≤ (u23_ 3).toInt ∧ (u23_ 3).toInt ≤ 2147483647 := ⟨zlo _, zhi _⟩
    have hpost : ((-2147483648) ≤ z13.toInt ∧ z13.toInt ≤ 2147483646) ∧ (zNp f2 f3 f4 f5 f6 f7 (v1 8).toInt (v1 9).toInt (v1 10).toInt (v1 11).toInt (v0 1).toInt (v0 2).toInt (v0 3).toInt (v0 4).toInt (u23_ 0).toInt (u23_ 1).toInt (u23_ 2).toInt (u23_ 3).toInt (v0 7).toInt (v0 8).toInt z13.toInt z26.toInt z26.toInt) := ⟨(by first | with_reducible assumption | exact ⟨by omega, by omega⟩), by first | exact zNp_1 hX23_0 e_z26 e_z13 rfl | exact zNp_0 (by omega)⟩
    have hP9 : va_P (dC, dI) vwCl [(h0, .inr (8, mX8 h1 (upd (upd (upd (upd (upd (upd v0 1 (u23_ 0)) 2 (u23_ 1)) 3 (u23_ 2)) 4 (u23_ 3)) 7 z13) 8 z26))), (h1, .inr (6, mX6 h2 h3 h4 h5 h6 h7 h8 h9 v1)), (h4, zi k4 833 f4), (h3, zi k3 833 f3), (h2, zi k2 1250 f2), (h5, zi k5 400 f5), (h6, zi k6 400 f6), (h7, zi k7 400 f7)] H := hP
    have hD9 : va_D A [(h0, .inr (8, mX8 h1 (upd (upd (upd (upd (upd (upd v0 1 (u23_ 0)) 2 (u23_ 1)) 3 (u23_ 2)) 4 (u23_ 3)) 7 z13) 8 z26))), (h1, .inr (6, mX6 h2 h3 h4 h5 h6 h7 h8 h9 v1)), (h4, zi k4 833 f4), (h3, zi k3 833 f3), (h2, zi k2 1250 f2), (h5, zi k5 400 f5), (h6, zi k6 400 f6), (h7, zi k7 400 f7)] := hD
    exact W.iret (v := z26) hx hb hr (fun t ht hW => ⟨⟨z26, (fun i => ([(u23_ 0), (u23_ 1), (u23_ 2), (u23_ 3), z13, z26] : List (Int32)).getD i 0), rfl, hpost, (fun _ => 0), (fun _ => (fun _ => 0)), (fun _ => (fun _ => 0)), by rw [ht]; exact hP9, va_K.moved hW.alike hK, hD9⟩, hS.F ht⟩) hS.2.2 dX8_nextPlace_34
set_option maxHeartbeats 8000000 in
set_option maxRecDepth 100000 in
theorem sX3_see_0 (l : Launch) (dC : Nat → ClassId) (dI : Nat → Nat → Nat) (adK adV : Nat → Nat) (h0 : Nat) (h28 : Nat) (h29 : Nat) (h1 : Nat) (h8 : Nat) (h17 : Nat) (h25 : Nat) (h26 : Nat) (h27 : Nat) (k28 : ClassId) (k29 : ClassId) (sz : Nat) (v0 : Nat → Int32) (f28 : Nat → Int32) (f29 : Nat → Int32) (x1 : Int32) (x2 : Int32) (hv0 : zR rg_Page v0) (hf29 : zA 0 831 f29) : Met l yX3_see (zw yX3_see cX3_see 3 none) { frames := 0, cells := 0, slots := 0, locals := 0 } (zPc dC dI adK adV [.ref h0, .int x1, .int x2] sz [(h0, .inr (3, mX3 h1 h8 h17 h25 h26 h27 h28 h29 v0)), (h28, zi k28 832 f28), (h29, zi k29 300 f29)] [(k28, .int), (k29, .int)]) (va_Qv (fun (u : Nat → Int32) => (0 ≤ (u 0).toInt ∧ (u 0).toInt ≤ 300)) (fun (u : Nat → Int32) (t : State) => ∃ (ww : Nat → Int64) (aa : Nat → Nat → Int32) (bb : Nat → Nat → Int64), zA 0 831 (aa 1) ∧ (zSee f28 f29 (v0 9) (x1 : Int32) (x2 : Int32) (aa 0) (aa 1) (u 0).toInt) ∧ va_P (dC, dI) vwCl [(h0, .inr (3, mX3 h1 h8 h17 h25 h26 h27 h28 h29 (upd v0 9 (u 0)))), (h28, zi k28 832 (aa 0)), (h29, zi k29 300 (aa 1))] t.heap ∧ va_K (dC, dI) vwCl [(k28, .int), (k29, .int)] t ∧ va_D (va_A [(h0, .inr (3, mX3 h1 h8 h17 h25 h26 h27 h28 h29 v0)), (h28, zi k28 832 f28), (h29, zi k29 300 f29)] sz) [(h0, .inr (3, mX3 h1 h8 h17 h25 h26 h27 h28 h29 (upd v0 9 (u 0)))), (h28, zi k28 832 (aa 0)), (h29, zi k29 300 (aa 1))]) (va_A [(h0, .inr (3, mX3 h1 h8 h17 h25 h26 h27 h28 h29 v0)), (h28, zi k28 832 f28), (h29, zi k29 300 f29)] sz)) 0 0 (va_A [(h0, .inr (3, mX3 h1 h8 h17 h25 h26 h27 h28 h29 v0)), (h28, zi k28 832 f28), (h29, zi k29 300 f29)] sz) := by
  refine Met.ofW (cc := cX3_see) (maxL := 3) (ret := none) (by decide) rfl ?_
  intro p e s m args below meth c s₁ B hml hv
  obtain ⟨rfl, hsz, hP, hK, hD0, hE, hZ⟩ := hv
  have hx := B.exec
  have hb := B.bytes
  have hr := B.returns
  have hG : ∀ w ∈ zG, w.before _ s = true := fun w h => atoms_spec (ws := (zw yX3_see cX3_see 3 none)) B.pre w (List.mem_cons_of_mem _ h)
  have hown : s.vm.findClass RX3 = some m.cls := findClass_of_methodNamed B.named
  have hlocks := B.notSynchronized

  subst hsz
  have hD := hD0.self (sz := s.heap.size)
  generalize hAe : va_A [(h0, .inr (3, mX3 h1 h8 h17 h25 h26 h27 h28 h29 v0)), (h28, zi k28 832 f28), (h29, zi k29 300 f29)] s.heap.size = A at hD hZ ⊢
  have hA : ∀ q : Nat, s.heap.size ≤ q → A q := fun q h => by rw [← hAe]; exact Or.inr h
  have hS : va_S A s.heap s.heap [] := va_S.rf
  have hl := lv_entry ([.ref h0, .int x1, .int x2]) (n := 3) (Nat.le_of_ble_eq_true rfl)
  rw [lg_entry_eq]
  generalize (lg_sl ([.ref h0, .int x1, .int x2]) ++ List.replicate (3 - (lg_sl ([.ref h0, .int x1, .int x2])).length) Slot.unset).toArray = ls at hl ⊢
  have hl : lv_has ls 3 [(0, .ref h0), (1, .int x1), (2, .int x2)] := hl
  refine lv_iload_n hx hb dX3_see_0 rfl (lv_at hl 1 rfl) ?_
  have b_ : -2147483648 ≤ x1.toInt ∧ x1.toInt ≤ 2147483647 := ⟨zlo _, zhi _⟩
  refine lv_if_lt (tgt := 48) hx hb dX3_see_1 (by decide) (fun c_ => ?_) (fun c_ => ?_)
  · skip
    have b_ := zT_lt rfl zk_0 c_
    refine W.widen (k := 0) (n := 0) (by decide) (by decide) ?_
    have b_ : 0 ≤ (v0 9).toInt ∧ (v0 9).toInt ≤ 300 := hv0 9
    have hpost : (0 ≤ (v0 9).toInt ∧ (v0 9).toInt ≤ 300) := (by first | with_reducible assumption | exact ⟨by omega, by omega⟩)
    have hP9 : va_P (dC, dI) vwCl [(h0, .inr (3, mX3 h1 h8 h17 h25 h26 h27 h28 h29 (upd v0 9 (v0 9)))), (h28, zi k28 832 f28), (h29, zi k29 300 f29)] s.heap := hP
    have hD9 : va_D A [(h0, .inr (3, mX3 h1 h8 h17 h25 h26 h27 h28 h29 (upd v0 9 (v0 9)))), (h28, zi k28 832 f28), (h29, zi k29 300 f29)] := hD
    have hB0 : zSee f28 f29 (v0 9) (x1 : Int32) (x2 : Int32) f28 f29 (v0 9).toInt := by first | exact fun _ _ _ => ⟨e_f_27, e_f_37, by omega⟩ | exact fun a_ b_ c_ => absurd c_ (by omega) | exact fun a_ b_ c_ => absurd b_ (by omega) | exact fun a_ b_ c_ => absurd a_ (by omega)
    exact W.vret hx hb hr (fun t ht hW => ⟨⟨(fun i => ([(v0 9)] : List (Int32)).getD i 0), rfl, hpost, (fun _ => 0), (fun i => ([f28, f29] : List (Nat → Int32)).getD i (fun _ => 0)), (fun _ => (fun _ => 0)), hf29, hB0, by rw [ht]; exact hP9, va_K.moved hW.alike hK, hD9⟩, hS.F ht⟩) hS.2.2 dX3_see_48
  · skip
    have b_ := zF_lt rfl zk_0 c_
    refine lv_iload_n hx hb dX3_see_4 rfl (lv_at hl 1 rfl) ?_
    refine lv_sipush (v := 832) hx hb dX3_see_5 (by decide) ?_
    refine lv_icmp_ge (tgt := 48) hx hb dX3_see_8 (by decide) (fun c_ => ?_) (fun c_ => ?_)
    · skip
      have b_ := zT_ge rfl zk_832 c_
      refine W.widen (k := 0) (n := 0) (by decide) (by decide) ?_
      have b_ : 0 ≤ (v0 9).toInt ∧ (v0 9).toInt ≤ 300 := hv0 9
      have hpost : (0 ≤ (v0 9).toInt ∧ (v0 9).toInt ≤ 300) := (by first | with_reducible assumption | exact ⟨by omega, by omega⟩)
      have hP9 : va_P (dC, dI) vwCl [(h0, .inr (3, mX3 h1 h8 h17 h25 h26 h27 h28 h29 (upd v0 9 (v0 9)))), (h28, zi k28 832 f28), (h29, zi k29 300 f29)] s.heap := hP
      have hD9 : va_D A [(h0, .inr (3, mX3 h1 h8 h17 h25 h26 h27 h28 h29 (upd v0 9 (v0 9)))), (h28, zi k28 832 f28), (h29, zi k29 300 f29)] := hD
      have hB0 : zSee f28 f29 (v0 9) (x1 : Int32) (x2 : Int32) f28 f29 (v0 9).toInt := by first | exact fun _ _ _ => ⟨e_f_27, e_f_37, by omega⟩ | exact fun a_ b_ c_ => absurd c_ (by omega) | exact fun a_ b_ c_ => absurd b_ (by omega) | exact fun a_ b_ c_ => absurd a_ (by omega)
      exact W.vret hx hb hr (fun t ht hW => ⟨⟨(fun i => ([(v0 9)] : List (Int32)).getD i 0), rfl, hpost, (fun _ => 0), (fun i => ([f28, f29] : List (Nat → Int32)).getD i (fun _ => 0)), (fun _ => (fun _ => 0)), hf29, hB0, by rw [ht]; exact hP9, va_K.moved hW.alike hK, hD9⟩, hS.F ht⟩) hS.2.2 dX3_see_48
    · skip
      have b_ := zF_ge rfl zk_832 c_
      refine lv_aload_n hx hb dX3_see_11 rfl (lv_at hl 0 rfl) ?_
      have b_ : 0 ≤ (v0 9).toInt ∧ (v0 9).toInt ≤ 300 := hv0 9
      refine va_get (D := (dC, dI)) (ci := 3) (v := .int (v0 9)) (C := RX3) (T := TX3) (N := 10) hx hb hG zuX3 hown hK hP 0 rfl rfl 9 (by decide) (hG _ zv482) (fun _ h9 => h9) rfl dX3_see_12 ?_
      refine lv_sipush (v := 300) hx hb dX3_see_15 (by decide) ?_
      refine lv_icmp_ge (tgt := 48) hx hb dX3_see_18 (by decide) (fun c_ => ?_) (fun c_ => ?_)
      · skip
        have b_ := zT_ge rfl zk_300 c_
        refine W.widen (k := 0) (n := 0) (by decide) (by decide) ?_
        have hpost : (0 ≤ (v0 9).toInt ∧ (v0 9).toInt ≤ 300) := (by first | with_reducible assumption | exact ⟨by omega, by omega⟩)
        have hP9 : va_P (dC, dI) vwCl [(h0, .inr (3, mX3 h1 h8 h17 h25 h26 h27 h28 h29 (upd v0 9 (v0 9)))), (h28, zi k28 832 f28), (h29, zi k29 300 f29)] s.heap := hP
        have hD9 : va_D A [(h0, .inr (3, mX3 h1 h8 h17 h25 h26 h27 h28 h29 (upd v0 9 (v0 9)))), (h28, zi k28 832 f28), (h29, zi k29 300 f29)] := hD
        have hB0 : zSee f28 f29 (v0 9) (x1 : Int32) (x2 : Int32) f28 f29 (v0 9).toInt := by first | exact fun _ _ _ => ⟨e_f_27, e_f_37, by omega⟩ | exact fun a_ b_ c_ => absurd c_ (by omega) | exact fun a_ b_ c_ => absurd b_ (by omega) | exact fun a_ b_ c_ => absurd a_ (by omega)
        exact W.vret hx hb hr (fun t ht hW => ⟨⟨(fun i => ([(v0 9)] : List (Int32)).getD i 0), rfl, hpost, (fun _ => 0), (fun i => ([f28, f29] : List (Nat → Int32)).getD i (fun _ => 0)), (fun _ => (fun _ => 0)), hf29, hB0, by rw [ht]; exact hP9, va_K.moved hW.alike hK, hD9⟩, hS.F ht⟩) hS.2.2 dX3_see_48
      · skip
        have b_ := zF_ge rfl zk_300 c_
        refine lv_aload_n hx hb dX3_see_21 rfl (lv_at hl 0 rfl) ?_
        refine va_get (D := (dC, dI)) (ci := 3) (v := .ref h28) (C := RX3) (T := TX3) (N := 10) hx hb hG zuX3 hown hK hP 0 rfl rfl 6 (by decide) (hG _ zv479) (fun _ h9 => h9) rfl dX3_see_22 ?_
        refine lv_iload_n hx hb dX3_see_25 rfl (lv_at hl 1 rfl) ?_
        refine lv_iload_n hx hb dX3_see_26 rfl (lv_at hl 2 rfl) ?_
        refine va_iast hx hb hK hP hD hS 1 0 rfl rfl (zin_lit ⟨by omega, by omega⟩) dX3_see_27 (fun H locs hP hD hS => ?_)
        obtain ⟨f_27, e_f_27⟩ : ∃ z : Nat → Int32, z = upd f28 (x1 : Int32).toNatClampNeg x2 := ⟨_, rfl⟩
        have hP : va_P (dC, dI) vwCl [(h0, .inr (3, mX3 h1 h8 h17 h25 h26 h27 h28 h29 v0)), (h28, zi k28 832 f_27), (h29, zi k29 300 f29)] H := by rw [e_f_27]; exact hP
        have hD : va_D A [(h0, .inr (3, mX3 h1 h8 h17 h25 h26 h27 h28 h29 v0)), (h28, zi k28 832 f_27), (h29, zi k29 300 f29)] := by rw [e_f_27]; exact hD
        refine lv_aload_n hx hb dX3_see_28 rfl (lv_at hl 0 rfl) ?_
        refine va_get (D := (dC, dI)) (ci := 3) (v := .ref h29) (C := RX3) (T := TX3) (N := 10) hx hb hG zuX3 hown hK hP 0 rfl rfl 7 (by decide) (hG _ zv480) (fun _ h9 => h9) rfl dX3_see_29 ?_
        refine lv_aload_n hx hb dX3_see_32 rfl (lv_at hl 0 rfl) ?_
        refine va_get (D := (dC, dI)) (ci := 3) (v := .int (v0 9)) (C := RX3) (T := TX3) (N := 10) hx hb hG zuX3 hown hK hP 0 rfl rfl 9 (by decide) (hG _ zv482) (fun _ h9 => h9) rfl dX3_see_33 ?_
        refine lv_iload_n hx hb dX3_see_36 rfl (lv_at hl 1 rfl) ?_
        refine va_iast hx hb hK hP hD hS 2 1 rfl rfl (zin_lit ⟨by omega, by omega⟩) dX3_see_37 (fun H locs hP hD hS => ?_)
        obtain ⟨f_37, e_f_37⟩ : ∃ z : Nat → Int32, z = upd f29 ((v0 9) : Int32).toNatClampNeg x1 := ⟨_, rfl⟩
        have hP : va_P (dC, dI) vwCl [(h0, .inr (3, mX3 h1 h8 h17 h25 h26 h27 h28 h29 v0)), (h28, zi k28 832 f_27), (h29, zi k29 300 f_37)] H := by rw [e_f_37]; exact hP
        have hD : va_D A [(h0, .inr (3, mX3 h1 h8 h17 h25 h26 h27 h28 h29 v0)), (h28, zi k28 832 f_27), (h29, zi k29 300 f_37)] := by rw [e_f_37]; exact hD
        have hf_37 : zA 0 831 f_37 := by rw [e_f_37]; exact zA_upd hf29 (show 0 ≤ (x1 : Int32).toInt from by omega) (show (x1 : Int32).toInt ≤ 831 from by omega)
        refine lv_aload_n hx hb dX3_see_38 rfl (lv_at hl 0 rfl) ?_
        refine lv_dup hx hb dX3_see_39 rfl ?_
        refine va_get (D := (dC, dI)) (ci := 3) (v := .int (v0 9)) (C := RX3) (T := TX3) (N := 10) hx hb hG zuX3 hown hK hP 0 rfl rfl 9 (by decide) (hG _ zv482) (fun _ h9 => h9) rfl dX3_see_40 ?_
        refine lv_iconst (v := 1) hx hb dX3_see_43 (by decide) ?_
        refine lv_iadd hx hb dX3_see_44 ?_
        refine lv_topi (fun z44 e_z44 => ?_)
        have b_ := zadd rfl zk_1 e_z44 (by omega) (by omega)
        refine va_put (D := (dC, dI)) (ci := 3) (v := .int z44) (ty := .int) (C := RX3) (T := TX3) (N := 10) hx hb hG zuX3 tyX3 tyX3_ok nmX3 hown hK hP hD hS 0 rfl rfl 9 (by decide) (hG _ zv482) (fun _ h9 => h9) rfl (by decide +kernel) rfl rfl (Nat.le_of_ble_eq_true rfl) dX3_see_45 (fun H locs hP hD hS => ?_)
        have hP : va_P (dC, dI) vwCl [(h0, .inr (3, mX3 h1 h8 h17 h25 h26 h27 h28 h29 (upd v0 9 z44))), (h28, zi k28 832 f_27), (h29, zi k29 300 f_37)] H := hP
        have hD : va_D A [(h0, .inr (3, mX3 h1 h8 h17 h25 h26 h27 h28 h29 (upd v0 9 z44))), (h28, zi k28 832 f_27), (h29, zi k29 300 f_37)] := hD
        refine W.widen (k := 0) (n := 0) (by decide) (by decide) ?_
        have hpost : (0 ≤ z44.toInt ∧ z44.toInt ≤ 300) := (by first | with_reducible assumption | exact ⟨by omega, by omega⟩)
        have hP9 : va_P (dC, dI) vwCl [(h0, .inr (3, mX3 h1 h8 h17 h25 h26 h27 h28 h29 (upd v0 9 z44))), (h28, zi k28 832 f_27), (h29, zi k29 300 f_37)] H := hP
        have hD9 : va_D A [(h0, .inr (3, mX3 h1 h8 h17 h25 h26 h27 h28 h29 (upd v0 9 z44))), (h28, zi k28 832 f_27), (h29, zi k29 300 f_37)] := hD
        have hB0 : zSee f28 f29 (v0 9) (x1 : Int32) (x2 : Int32) f_27 f_37 z44.toInt := by first | exact fun _ _ _ => ⟨e_f_27, e_f_37, by omega⟩ | exact fun a_ b_ c_ => absurd c_ (by omega) | exact fun a_ b_ c_ => absurd b_ (by omega) | exact fun a_ b_ c_ => absurd a_ (by omega)
        exact W.vret hx hb hr (fun t ht hW => ⟨⟨(fun i => ([z44] : List (Int32)).getD i 0), rfl, hpost, (fun _ => 0), (fun i => ([f_27, f_37] : List (Nat → Int32)).getD i (fun _ => 0)), (fun _ => (fun _ => 0)), hf_37, hB0, by rw [ht]; exact hP9, va_K.moved hW.alike hK, hD9⟩, hS.F ht⟩) hS.2.2 dX3_see_48
set_option maxHeartbeats 8000000 in
set_option maxRecDepth 100000 in
theorem sX3_turnTo_0 (l : Launch) (dC : Nat → ClassId) (dI : Nat → Nat → Nat) (adK adV : Nat → Nat) (h0 : Nat) (h29 : Nat) (h28 : Nat) (h25 : Nat) (h8 : Nat) (h11 : Nat) (h10 : Nat) (h9 : Nat) (h12 : Nat) (h13 : Nat) (h14 : Nat) (h26 : Nat) (h2 : Nat) (h3 : Nat) (h4 : Nat) (h1 : Nat) (h15 : Nat) (h16 : Nat) (h17 : Nat) (h27 : Nat) (h5 : Nat) (h6 : Nat) (h7 : Nat) (k29 : ClassId) (k28 : ClassId) (k25 : ClassId) (k11 : ClassId) (k10 : ClassId) (k9 : ClassId) (k12 : ClassId) (k13 : ClassId) (k14 : ClassId) (k26 : ClassId) (k2 : ClassId) (k3 : ClassId) (k4 : ClassId) (k15 : ClassId) (k16 : ClassId) (pl0 : va_W) (sz : Nat) (v0 : Nat → Int32) (f29 : Nat → Int32) (f28 : Nat → Int32) (f25 : Nat → Option Nat) (v8 : Nat → Int32) (f11 : Nat → Int32) (f10 : Nat → Int32) (f9 : Nat → Int32) (f12 : Nat → Int32) (f13 : Nat → Int32) (f14 : Nat → Int32) (f26 : Nat → Int32) (f2 : Nat → Int64) (f3 : Nat → Int32) (f4 : Nat → Int32) (v1 : Nat → Int32) (f15 : Nat → Int32) (f16 : Nat → Int32) (x1 : Int32) (hv0 : zR rg_Page v0) (hf29 : zA 0 831 f29) (hv8 : zR rg_Postings v8) (hf10 : zA 0 1250 f10) (hf13 : zA 0 832 f13) (hf26 : zA 0 399 f26) (hf3 : zA 0 399 f3) (hf4 : zA (-1) 399 f4) (hv1 : zR rg_Words400 v1) (hx1 : 0 ≤ x1.toInt ∧ x1.toInt ≤ 119) (hp0_ : zRd h8 f25 pl0) : Met l yX3_turnTo (zw yX3_turnTo cX3_turnTo 5 none) { frames := 5, cells := 0, slots := 0, locals := 110 } (zPc dC dI adK adV [.ref h0, .int x1] sz ([(h0, .inr (3, mX3 h1 h8 h17 h25 h26 h27 h28 h29 v0)), (h29, zi k29 300 f29), (h28, zi k28 832 f28), (h25, .inl (k25, 400, .inr (.inr (.inr (.inr f25))))), (h8, .inr (6, mX6 h9 h10 h11 h12 h13 h14 h15 h16 v8)), (h11, zi k11 833 f11), (h10, zi k10 833 f10), (h9, zi k9 1250 f9), (h12, zi k12 400 f12), (h13, zi k13 400 f13), (h14, zi k14 400 f14), (h26, zi k26 400 f26), (h2, .inl (k2, 400, .inr (.inl f2))), (h3, zi k3 400 f3), (h4, zi k4 400 f4), (h1, .inr (10, mX10 h2 h3 h4 h5 h6 h7 v1)), (h15, zi k15 400 f15), (h16, zi k16 400 f16)] ++ pl0) [(k29, .int), (k28, .int), (k25, .object RX8), (k11, .int), (k10, .int), (k9, .int), (k12, .int), (k13, .int), (k14, .int), (k26, .int), (k2, .long), (k3, .int), (k4, .int), (k15, .int), (k16, .int)]) (va_Qv (fun (u : Nat → Int32) => (0 ≤ (u 0).toInt ∧ (u 0).toInt ≤ 300)) (fun (u : Nat → Int32) (t : State) => ∃ (ww : Nat → Int64) (aa : Nat → Nat → Int32) (bb : Nat → Nat → Int64) (qq : Nat → Nat → Option Nat) (pl1 : va_W), zA 0 831 (aa 0) ∧ (zRd h8 f25 pl1) ∧ (zKp h8 pl0 pl1) ∧ (zTu h8 f25 pl0 pl1 f2 f3 f4 (v1 7).toInt f9 f10 f11 f12 f13 f14 (v8 8).toInt (v8 9).toInt (v8 10).toInt (v8 11).toInt f15 f16 f26 (v0 8).toInt f28 f29 (v0 9).toInt (aa 1) (aa 0) (u 0).toInt x1.toInt (v0 8).toInt) ∧ va_P (dC, dI) vwCl ([(h0, .inr (3, mX3 h1 h8 h17 h25 h26 h27 h28 h29 (upd v0 9 (u 0)))), (h29, zi k29 300 (aa 0)), (h28, zi k28 832 (aa 1)), (h25, .inl (k25, 400, .inr (.inr (.inr (.inr f25))))), (h8, .inr (6, mX6 h9 h10 h11 h12 h13 h14 h15 h16 v8)), (h11, zi k11 833 f11), (h10, zi k10 833 f10), (h9, zi k9 1250 f9), (h12, zi k12 400 f12), (h13, zi k13 400 f13), (h14, zi k14 400 f14), (h26, zi k26 400 f26), (h2, .inl (k2, 400, .inr (.inl f2))), (h3, zi k3 400 f3), (h4, zi k4 400 f4), (h1, .inr (10, mX10 h2 h3 h4 h5 h6 h7 v1)), (h15, zi k15 400 f15), (h16, zi k16 400 f16)] ++ pl1) t.heap ∧ va_K (dC, dI) vwCl [(k29, .int), (k28, .int), (k25, .object RX8), (k11, .int), (k10, .int), (k9, .int), (k12, .int), (k13, .int), (k14, .int), (k26, .int), (k2, .long), (k3, .int), (k4, .int), (k15, .int), (k16, .int)] t ∧ va_D (va_A ([(h0, .inr (3, mX3 h1 h8 h17 h25 h26 h27 h28 h29 v0)), (h29, zi k29 300 f29), (h28, zi k28 832 f28), (h25, .inl (k25, 400, .inr (.inr (.inr (.inr f25))))), (h8, .inr (6, mX6 h9 h10 h11 h12 h13 h14 h15 h16 v8)), (h11, zi k11 833 f11), (h10, zi k10 833 f10), (h9, zi k9 1250 f9), (h12, zi k12 400 f12), (h13, zi k13 400 f13), (h14, zi k14 400 f14), (h26, zi k26 400 f26), (h2, .inl (k2, 400, .inr (.inl f2))), (h3, zi k3 400 f3), (h4, zi k4 400 f4), (h1, .inr (10, mX10 h2 h3 h4 h5 h6 h7 v1)), (h15, zi k15 400 f15), (h16, zi k16 400 f16)] ++ pl0) sz) ([(h0, .inr (3, mX3 h1 h8 h17 h25 h26 h27 h28 h29 (upd v0 9 (u 0)))), (h29, zi k29 300 (aa 0)), (h28, zi k28 832 (aa 1)), (h25, .inl (k25, 400, .inr (.inr (.inr (.inr f25))))), (h8, .inr (6, mX6 h9 h10 h11 h12 h13 h14 h15 h16 v8)), (h11, zi k11 833 f11), (h10, zi k10 833 f10), (h9, zi k9 1250 f9), (h12, zi k12 400 f12), (h13, zi k13 400 f13), (h14, zi k14 400 f14), (h26, zi k26 400 f26), (h2, .inl (k2, 400, .inr (.inl f2))), (h3, zi k3 400 f3), (h4, zi k4 400 f4), (h1, .inr (10, mX10 h2 h3 h4 h5 h6 h7 v1)), (h15, zi k15 400 f15), (h16, zi k16 400 f16)] ++ pl1)) (va_A ([(h0, .inr (3, mX3 h1 h8 h17 h25 h26 h27 h28 h29 v0)), (h29, zi k29 300 f29), (h28, zi k28 832 f28), (h25, .inl (k25, 400, .inr (.inr (.inr (.inr f25))))), (h8, .inr (6, mX6 h9 h10 h11 h12 h13 h14 h15 h16 v8)), (h11, zi k11 833 f11), (h10, zi k10 833 f10), (h9, zi k9 1250 f9), (h12, zi k12 400 f12), (h13, zi k13 400 f13), (h14, zi k14 400 f14), (h26, zi k26 400 f26), (h2, .inl (k2, 400, .inr (.inl f2))), (h3, zi k3 400 f3), (h4, zi k4 400 f4), (h1, .inr (10, mX10 h2 h3 h4 h5 h6 h7 v1)), (h15, zi k15 400 f15), (h16, zi k16 400 f16)] ++ pl0) sz)) 0 0 (va_A ([(h0, .inr (3, mX3 h1 h8 h17 h25 h26 h27 h28 h29 v0)), (h29, zi k29 300 f29), (h28, zi k28 832 f28), (h25, .inl (k25, 400, .inr (.inr (.inr (.inr f25))))), (h8, .inr (6, mX6 h9 h10 h11 h12 h13 h14 h15 h16 v8)), (h11, zi k11 833 f11), (h10, zi k10 833 f10), (h9, zi k9 1250 f9), (h12, zi k12 400 f12), (h13, zi k13 400 f13), (h14, zi k14 400 f14), (h26, zi k26 400 f26), (h2, .inl (k2, 400, .inr (.inl f2))), (h3, zi k3 400 f3), (h4, zi k4 400 f4), (h1, .inr (10, mX10 h2 h3 h4 h5 h6 h7 v1)), (h15, zi k15 400 f15), (h16, zi k16 400 f16)] ++ pl0) sz) := by
  refine Met.ofW (cc := cX3_turnTo) (maxL := 5) (ret := none) (by decide) rfl ?_
  intro p e s m args below meth c s₁ B hml hv
  obtain ⟨rfl, hsz, hP, hK, hD0, hE, hZ⟩ := hv
  have hx := B.exec
  have hb := B.bytes
  have hr := B.returns
  have hG : ∀ w ∈ zG, w.before _ s = true := fun w h => atoms_spec (ws := (zw yX3_turnTo cX3_turnTo 5 none)) B.pre w (List.mem_cons_of_mem _ h)
  have hown : s.vm.findClass RX3 = some m.cls := findClass_of_methodNamed B.named
  have hlocks := B.notSynchronized

  subst hsz
  have hD := hD0.self (sz := s.heap.size)
  generalize hAe : va_A ([(h0, .inr (3, mX3 h1 h8 h17 h25 h26 h27 h28 h29 v0)), (h29, zi k29 300 f29), (h28, zi k28 832 f28), (h25, .inl (k25, 400, .inr (.inr (.inr (.inr f25))))), (h8, .inr (6, mX6 h9 h10 h11 h12 h13 h14 h15 h16 v8)), (h11, zi k11 833 f11), (h10, zi k10 833 f10), (h9, zi k9 1250 f9), (h12, zi k12 400 f12), (h13, zi k13 400 f13), (h14, zi k14 400 f14), (h26, zi k26 400 f26), (h2, .inl (k2, 400, .inr (.inl f2))), (h3, zi k3 400 f3), (h4, zi k4 400 f4), (h1, .inr (10, mX10 h2 h3 h4 h5 h6 h7 v1)), (h15, zi k15 400 f15), (h16, zi k16 400 f16)] ++ pl0) s.heap.size = A at hD hZ ⊢
  have hA : ∀ q : Nat, s.heap.size ≤ q → A q := fun q h => by rw [← hAe]; exact Or.inr h
  have hS : va_S A s.heap s.heap [] := va_S.rf
  have hl := lv_entry ([.ref h0, .int x1]) (n := 5) (Nat.le_of_ble_eq_true rfl)
  rw [lg_entry_eq]
  generalize (lg_sl ([.ref h0, .int x1]) ++ List.replicate (5 - (lg_sl ([.ref h0, .int x1])).length) Slot.unset).toArray = ls at hl ⊢
  have hl : lv_has ls 5 [(0, .ref h0), (1, .int x1)] := hl
  have b_ := zk_0
  have b_ : 0 ≤ (v0 8).toInt ∧ (v0 8).toInt ≤ 400 := hv0 8
  refine lv_iconst (v := 0) hx hb dX3_turnTo_0 (by decide) ?_
  refine lv_istore_n (lv' := [(2, .int 0), (0, .ref h0), (1, .int x1)]) hx hb dX3_turnTo_1 rfl hl (by decide) rfl (fun ls hl => ?_)
  refine zcutL (fun u2_ => (300 - (u2_ 0).toInt).toNat) (fun H locs ls u2_ w2_ a2_ b2_ => ∃ (q2_ : Nat → Nat → Option Nat) (pl2 : va_W), va_P (dC, dI) vwCl ([(h0, .inr (3, mX3 h1 h8 h17 h25 h26 h27 h28 h29 v0)), (h29, zi k29 300 f29), (h28, zi k28 832 (a2_ 0)), (h25, .inl (k25, 400, .inr (.inr (.inr (.inr f25))))), (h8, .inr (6, mX6 h9 h10 h11 h12 h13 h14 h15 h16 v8)), (h11, zi k11 833 f11), (h10, zi k10 833 f10), (h9, zi k9 1250 f9), (h12, zi k12 400 f12), (h13, zi k13 400 f13), (h14, zi k14 400 f14), (h26, zi k26 400 f26), (h2, .inl (k2, 400, .inr (.inl f2))), (h3, zi k3 400 f3), (h4, zi k4 400 f4), (h1, .inr (10, mX10 h2 h3 h4 h5 h6 h7 v1)), (h15, zi k15 400 f15), (h16, zi k16 400 f16)] ++ pl2) H ∧ va_D A ([(h0, .inr (3, mX3 h1 h8 h17 h25 h26 h27 h28 h29 v0)), (h29, zi k29 300 f29), (h28, zi k28 832 (a2_ 0)), (h25, .inl (k25, 400, .inr (.inr (.inr (.inr f25))))), (h8, .inr (6, mX6 h9 h10 h11 h12 h13 h14 h15 h16 v8)), (h11, zi k11 833 f11), (h10, zi k10 833 f10), (h9, zi k9 1250 f9), (h12, zi k12 400 f12), (h13, zi k13 400 f13), (h14, zi k14 400 f14), (h26, zi k26 400 f26), (h2, .inl (k2, 400, .inr (.inl f2))), (h3, zi k3 400 f3), (h4, zi k4 400 f4), (h1, .inr (10, mX10 h2 h3 h4 h5 h6 h7 v1)), (h15, zi k15 400 f15), (h16, zi k16 400 f16)] ++ pl2) ∧ va_S A s.heap H locs ∧ lv_has ls 5 [(0, .ref h0), (1, .int x1), (2, .int (u2_ 0))] ∧ (0 ≤ (u2_ 0).toInt ∧ (u2_ 0).toInt ≤ 300) ∧ (zSz f28 (a2_ 0) f29 (u2_ 0).toInt) ∧ (pl2 = pl0) ∧ (0 ≤ (u2_ 0).toInt) ∧ (zRd h8 f25 pl2) ∧ (zKp h8 pl0 pl2)) (fun ls u2_ w2_ => F0 m 2 ls []) 0 0 ?_ (fun hJ2 => ?_)
  · skip
    intro H locs ls u2_ w2_ a2_ b2_ hc hJ2
    obtain ⟨q2_, pl2, hP, hD, hS, hl, b_, hI2_0, hI2_1, b_, hI2_3, hI2_4⟩ := hc
    refine lv_iload_n hx hb dX3_turnTo_2 rfl (lv_at hl 2 rfl) ?_
    refine lv_aload_n hx hb dX3_turnTo_3 rfl (lv_at hl 0 rfl) ?_
    have b_ : 0 ≤ (v0 9).toInt ∧ (v0 9).toInt ≤ 300 := hv0 9
    refine va_get (D := (dC, dI)) (ci := 3) (v := .int (v0 9)) (C := RX3) (T := TX3) (N := 10) hx hb hG zuX3 hown hK hP 0 rfl rfl 9 (by decide) (hG _ zv482) (fun _ h9 => h9) rfl dX3_turnTo_4 ?_
    refine lv_icmp_ge (tgt := 28) hx hb dX3_turnTo_7 (by decide) (fun c_ => ?_) (fun c_ => ?_)
    · skip
      have b_ := zT_ge rfl rfl c_
      refine lv_aload_n hx hb dX3_turnTo_28 rfl (lv_at hl 0 rfl) ?_
      refine lv_iconst (v := 0) hx hb dX3_turnTo_29 (by decide) ?_
      refine va_put (D := (dC, dI)) (ci := 3) (v := .int 0) (ty := .int) (C := RX3) (T := TX3) (N := 10) hx hb hG zuX3 tyX3 tyX3_ok nmX3 hown hK hP hD hS 0 rfl rfl 9 (by decide) (hG _ zv482) (fun _ h9 => h9) rfl (by decide +kernel) rfl rfl (Nat.le_of_ble_eq_true rfl) dX3_turnTo_30 (fun H locs hP hD hS => ?_)
      have hP : va_P (dC, dI) vwCl ([(h0, .inr (3, mX3 h1 h8 h17 h25 h26 h27 h28 h29 (upd v0 9 0))), (h29, zi k29 300 f29), (h28, zi k28 832 (a2_ 0)), (h25, .inl (k25, 400, .inr (.inr (.inr (.inr f25))))), (h8, .inr (6, mX6 h9 h10 h11 h12 h13 h14 h15 h16 v8)), (h11, zi k11 833 f11), (h10, zi k10 833 f10), (h9, zi k9 1250 f9), (h12, zi k12 400 f12), (h13, zi k13 400 f13), (h14, zi k14 400 f14), (h26, zi k26 400 f26), (h2, .inl (k2, 400, .inr (.inl f2))), (h3, zi k3 400 f3), (h4, zi k4 400 f4), (h1, .inr (10, mX10 h2 h3 h4 h5 h6 h7 v1)), (h15, zi k15 400 f15), (h16, zi k16 400 f16)] ++ pl2) H := hP
      have hD : va_D A ([(h0, .inr (3, mX3 h1 h8 h17 h25 h26 h27 h28 h29 (upd v0 9 0))), (h29, zi k29 300 f29), (h28, zi k28 832 (a2_ 0)), (h25, .inl (k25, 400, .inr (.inr (.inr (.inr f25))))), (h8, .inr (6, mX6 h9 h10 h11 h12 h13 h14 h15 h16 v8)), (h11, zi k11 833 f11), (h10, zi k10 833 f10), (h9, zi k9 1250 f9), (h12, zi k12 400 f12), (h13, zi k13 400 f13), (h14, zi k14 400 f14), (h26, zi k26 400 f26), (h2, .inl (k2, 400, .inr (.inl f2))), (h3, zi k3 400 f3), (h4, zi k4 400 f4), (h1, .inr (10, mX10 h2 h3 h4 h5 h6 h7 v1)), (h15, zi k15 400 f15), (h16, zi k16 400 f16)] ++ pl2) := hD
      refine lv_iconst (v := 0) hx hb dX3_turnTo_33 (by decide) ?_
      refine lv_istore_n (lv' := [(2, .int 0), (0, .ref h0), (1, .int x1)]) hx hb dX3_turnTo_34 rfl hl (by decide) rfl (fun ls hl => ?_)
      refine zcutL (fun u35_ => (400 - (u35_ 0).toInt).toNat) (fun H locs ls u35_ w35_ a35_ b35_ => ∃ (q35_ : Nat → Nat → Option Nat) (pl35 : va_W), va_P (dC, dI) vwCl ([(h0, .inr (3, mX3 h1 h8 h17 h25 h26 h27 h28 h29 (upd v0 9 (u35_ 1)))), (h29, zi k29 300 (a35_ 1)), (h28, zi k28 832 (a35_ 0)), (h25, .inl (k25, 400, .inr (.inr (.inr (.inr f25))))), (h8, .inr (6, mX6 h9 h10 h11 h12 h13 h14 h15 h16 v8)), (h11, zi k11 833 f11), (h10, zi k10 833 f10), (h9, zi k9 1250 f9), (h12, zi k12 400 f12), (h13, zi k13 400 f13), (h14, zi k14 400 f14), (h26, zi k26 400 f26), (h2, .inl (k2, 400, .inr (.inl f2))), (h3, zi k3 400 f3), (h4, zi k4 400 f4), (h1, .inr (10, mX10 h2 h3 h4 h5 h6 h7 v1)), (h15, zi k15 400 f15), (h16, zi k16 400 f16)] ++ pl35) H ∧ va_D A ([(h0, .inr (3, mX3 h1 h8 h17 h25 h26 h27 h28 h29 (upd v0 9 (u35_ 1)))), (h29, zi k29 300 (a35_ 1)), (h28, zi k28 832 (a35_ 0)), (h25, .inl (k25, 400, .inr (.inr (.inr (.inr f25))))), (h8, .inr (6, mX6 h9 h10 h11 h12 h13 h14 h15 h16 v8)), (h11, zi k11 833 f11), (h10, zi k10 833 f10), (h9, zi k9 1250 f9), (h12, zi k12 400 f12), (h13, zi k13 400 f13), (h14, zi k14 400 f14), (h26, zi k26 400 f26), (h2, .inl (k2, 400, .inr (.inl f2))), (h3, zi k3 400 f3), (h4, zi k4 400 f4), (h1, .inr (10, mX10 h2 h3 h4 h5 h6 h7 v1)), (h15, zi k15 400 f15), (h16, zi k16 400 f16)] ++ pl35) ∧ va_S A s.heap H locs ∧ lv_has ls 5 [(0, .ref h0), (1, .int x1), (2, .int (u35_ 0))] ∧ zA 0 831 (a35_ 1) ∧ (0 ≤ (u35_ 0).toInt ∧ (u35_ 0).toInt ≤ 400) ∧ (0 ≤ (u35_ 1).toInt ∧ (u35_ 1).toInt ≤ 300) ∧ (zTu h8 f25 pl0 pl35 f2 f3 f4 (v1 7).toInt f9 f10 f11 f12 f13 f14 (v8 8).toInt (v8 9).toInt (v8 10).toInt (v8 11).toInt f15 f16 f26 (v0 8).toInt f28 f29 (v0 9).toInt (a35_ 0) (a35_ 1) (u35_ 1).toInt x1.toInt (u35_ 0).toInt) ∧ (0 ≤ (u35_ 0).toInt) ∧ ((u35_ 0).toInt ≤ (v0 8).toInt) ∧ (zRd h8 f25 pl35) ∧ (zKp h8 pl0 pl35)) (fun ls u35_ w35_ => F0 m 35 ls []) 0 0 ?_ (fun hJ35 => ?_)
      · skip
        intro H locs ls u35_ w35_ a35_ b35_ hc hJ35
        obtain ⟨q35_, pl35, hP, hD, hS, hl, ha35_1, b_, b_, hI35_0, b_, b_, hI35_3, hI35_4⟩ := hc
        refine lv_iload_n hx hb dX3_turnTo_35 rfl (lv_at hl 2 rfl) ?_
        refine lv_aload_n hx hb dX3_turnTo_36 rfl (lv_at hl 0 rfl) ?_
        refine va_get (D := (dC, dI)) (ci := 3) (v := .int (v0 8)) (C := RX3) (T := TX3) (N := 10) hx hb hG zuX3 hown hK hP 0 rfl rfl 8 (by decide) (hG _ zv481) (fun _ h9 => h9) rfl dX3_turnTo_37 ?_
        refine lv_icmp_ge (tgt := 100) hx hb dX3_turnTo_40 (by decide) (fun c_ => ?_) (fun c_ => ?_)
        · skip
          have b_ := zT_ge rfl rfl c_
          refine W.widen (k := 0) (n := 0) (by decide) (by decide) ?_
          have hpost : (0 ≤ (u35_ 1).toInt ∧ (u35_ 1).toInt ≤ 300) := (by first | with_reducible assumption | exact ⟨by omega, by omega⟩)
          have hP9 : va_P (dC, dI) vwCl ([(h0, .inr (3, mX3 h1 h8 h17 h25 h26 h27 h28 h29 (upd v0 9 (u35_ 1)))), (h29, zi k29 300 (a35_ 1)), (h28, zi k28 832 (a35_ 0)), (h25, .inl (k25, 400, .inr (.inr (.inr (.inr f25))))), (h8, .inr (6, mX6 h9 h10 h11 h12 h13 h14 h15 h16 v8)), (h11, zi k11 833 f11), (h10, zi k10 833 f10), (h9, zi k9 1250 f9), (h12, zi k12 400 f12), (h13, zi k13 400 f13), (h14, zi k14 400 f14), (h26, zi k26 400 f26), (h2, .inl (k2, 400, .inr (.inl f2))), (h3, zi k3 400 f3), (h4, zi k4 400 f4), (h1, .inr (10, mX10 h2 h3 h4 h5 h6 h7 v1)), (h15, zi k15 400 f15), (h16, zi k16 400 f16)] ++ pl35) H := hP
          have hD9 : va_D A ([(h0, .inr (3, mX3 h1 h8 h17 h25 h26 h27 h28 h29 (upd v0 9 (u35_ 1)))), (h29, zi k29 300 (a35_ 1)), (h28, zi k28 832 (a35_ 0)), (h25, .inl (k25, 400, .inr (.inr (.inr (.inr f25))))), (h8, .inr (6, mX6 h9 h10 h11 h12 h13 h14 h15 h16 v8)), (h11, zi k11 833 f11), (h10, zi k10 833 f10), (h9, zi k9 1250 f9), (h12, zi k12 400 f12), (h13, zi k13 400 f13), (h14, zi k14 400 f14), (h26, zi k26 400 f26), (h2, .inl (k2, 400, .inr (.inl f2))), (h3, zi k3 400 f3), (h4, zi k4 400 f4), (h1, .inr (10, mX10 h2 h3 h4 h5 h6 h7 v1)), (h15, zi k15 400 f15), (h16, zi k16 400 f16)] ++ pl35) := hD
          have hB0 : zRd h8 f25 pl35 := by assumption
          have hB1 : zKp h8 pl0 pl35 := by first | assumption | exact zKp_rf
          have hB2 : zTu h8 f25 pl0 pl35 f2 f3 f4 (v1 7).toInt f9 f10 f11 f12 f13 f14 (v8 8).toInt (v8 9).toInt (v8 10).toInt (v8 11).toInt f15 f16 f26 (v0 8).toInt f28 f29 (v0 9).toInt (a35_ 0) (a35_ 1) (u35_ 1).toInt x1.toInt (v0 8).toInt := by exact zTu_k hI35_0 (by omega)
          exact W.vret hx hb hr (fun t ht hW => ⟨⟨(fun i => ([(u35_ 1)] : List (Int32)).getD i 0), rfl, hpost, (fun _ => 0), (fun i => ([(a35_ 1), (a35_ 0)] : List (Nat → Int32)).getD i (fun _ => 0)), (fun _ => (fun _ => 0)), (fun _ => (fun _ => none)), pl35, ha35_1, hB0, hB1, hB2, by rw [ht]; exact hP9, va_K.moved hW.alike hK, hD9⟩, hS.F ht⟩) hS.2.2 dX3_turnTo_100
        · skip
          have b_ := zF_ge rfl rfl c_
          refine lv_aload_n hx hb dX3_turnTo_43 rfl (lv_at hl 0 rfl) ?_
          refine va_get (D := (dC, dI)) (ci := 3) (v := .ref h25) (C := RX3) (T := TX3) (N := 10) hx hb hG zuX3 hown hK hP 0 rfl rfl 3 (by decide) (hG _ zv476) (fun _ h9 => h9) rfl dX3_turnTo_44 ?_
          refine lv_iload_n hx hb dX3_turnTo_47 rfl (lv_at hl 2 rfl) ?_
          refine va_aldq hx hb hK hP 3 2 rfl rfl (zin_lit ⟨by omega, by omega⟩) dX3_turnTo_48 ?_
          refine lv_topq (fun o48 e_o48 => ?_)
          rcases o48 with _ | a48_
          · skip
            refine W.eq (g2 := F0 m 49 ls [.null]) rfl ?_
            refine lv_astore_nN (lv' := [(3, .null), (0, .ref h0), (1, .int x1), (2, .int (u35_ 0))]) hx hb dX3_turnTo_49 rfl hl (by decide) rfl (fun ls hl => ?_)
            refine lv_aload_nN hx hb dX3_turnTo_50 rfl (lv_at hl 0 rfl) ?_
            refine lv_ifnullN (tgt := 94) hx hb dX3_turnTo_51 (by decide) ?_
            obtain ⟨z94, e_z94⟩ : ∃ z : Int32, z = (u35_ 0) + Int32.ofInt 1 := ⟨_, rfl⟩
            have b_ := zadd (x := (u35_ 0)) (y := Int32.ofInt 1) rfl (show (Int32.ofInt 1).toInt = 1 from by decide) e_z94 (by omega) (by omega)
            refine lv_iinc (v := z94) (lv' := [(2, .int z94), (3, .null), (0, .ref h0), (1, .int x1)]) hx hb dX3_turnTo_94 hl (k := 3) rfl e_z94.symm (by decide) rfl (fun ls hl => ?_)
            have htu9 : zTu h8 f25 pl0 pl35 f2 f3 f4 (v1 7).toInt f9 f10 f11 f12 f13 f14 (v8 8).toInt (v8 9).toInt (v8 10).toInt (v8 11).toInt f15 f16 f26 (v0 8).toInt f28 f29 (v0 9).toInt (a35_ 0) (a35_ 1) (u35_ 1).toInt x1.toInt z94.toInt := zTu_z hI35_0 (by omega) (by omega) e_o48.symm
            refine lv_goto (tgt := 35) hx hb dX3_turnTo_97 (by decide) ?_
            have hc : va_P (dC, dI) vwCl ([(h0, .inr (3, mX3 h1 h8 h17 h25 h26 h27 h28 h29 (upd v0 9 (u35_ 1)))), (h29, zi k29 300 (a35_ 1)), (h28, zi k28 832 (a35_ 0)), (h25, .inl (k25, 400, .inr (.inr (.inr (.inr f25))))), (h8, .inr (6, mX6 h9 h10 h11 h12 h13 h14 h15 h16 v8)), (h11, zi k11 833 f11), (h10, zi k10 833 f10), (h9, zi k9 1250 f9), (h12, zi k12 400 f12), (h13, zi k13 400 f13), (h14, zi k14 400 f14), (h26, zi k26 400 f26), (h2, .inl (k2, 400, .inr (.inl f2))), (h3, zi k3 400 f3), (h4, zi k4 400 f4), (h1, .inr (10, mX10 h2 h3 h4 h5 h6 h7 v1)), (h15, zi k15 400 f15), (h16, zi k16 400 f16)] ++ pl35) H ∧ va_D A ([(h0, .inr (3, mX3 h1 h8 h17 h25 h26 h27 h28 h29 (upd v0 9 (u35_ 1)))), (h29, zi k29 300 (a35_ 1)), (h28, zi k28 832 (a35_ 0)), (h25, .inl (k25, 400, .inr (.inr (.inr (.inr f25))))), (h8, .inr (6, mX6 h9 h10 h11 h12 h13 h14 h15 h16 v8)), (h11, zi k11 833 f11), (h10, zi k10 833 f10), (h9, zi k9 1250 f9), (h12, zi k12 400 f12), (h13, zi k13 400 f13), (h14, zi k14 400 f14), (h26, zi k26 400 f26), (h2, .inl (k2, 400, .inr (.inl f2))), (h3, zi k3 400 f3), (h4, zi k4 400 f4), (h1, .inr (10, mX10 h2 h3 h4 h5 h6 h7 v1)), (h15, zi k15 400 f15), (h16, zi k16 400 f16)] ++ pl35) ∧ va_S A s.heap H locs ∧ lv_has ls 5 [(0, .ref h0), (1, .int x1), (2, .int z94)] ∧ zA 0 831 (a35_ 1) ∧ (0 ≤ z94.toInt ∧ z94.toInt ≤ 400) ∧ (0 ≤ (u35_ 1).toInt ∧ (u35_ 1).toInt ≤ 300) ∧ (zTu h8 f25 pl0 pl35 f2 f3 f4 (v1 7).toInt f9 f10 f11 f12 f13 f14 (v8 8).toInt (v8 9).toInt (v8 10).toInt (v8 11).toInt f15 f16 f26 (v0 8).toInt f28 f29 (v0 9).toInt (a35_ 0) (a35_ 1) (u35_ 1).toInt x1.toInt z94.toInt) ∧ (0 ≤ z94.toInt) ∧ (z94.toInt ≤ (v0 8).toInt) ∧ (zRd h8 f25 pl35) ∧ (zKp h8 pl0 pl35) := ⟨hP, hD, hS, lv_sub hl [2, 3, 0] rfl, ha35_1, (by first | with_reducible assumption | exact ⟨by omega, by omega⟩), (by first | with_reducible assumption | exact ⟨by omega, by omega⟩), by first | (rw [e_plx_]; exact htu9) | exact htu9 | (rw [hI2_1]; exact zTu_0 hI2_0 (by omega) (by decide) (by decide)), by omega, by omega, by assumption, by first | assumption | exact zKp_rf⟩
            exact hJ35 H locs ls (fun i => ([z94, (u35_ 1)] : List (Int32)).getD i 0) (fun _ => 0) (fun i => ([(a35_ 0), (a35_ 1)] : List (Nat → Int32)).getD i (fun _ => 0)) (fun _ => (fun _ => 0)) ⟨(fun _ => (fun _ => none)), pl35, hc⟩ (show (400 - z94.toInt).toNat < (400 - (u35_ 0).toInt).toNat from by omega)
          · skip
            refine W.eq (g2 := F0 m 49 ls [.ref a48_]) rfl ?_
            have hnn_ : f25 ((u35_ 0) : Int32).toNatClampNeg ≠ none := fun h => by rw [h] at e_o48; cases e_o48
            refine lv_astore_n (lv' := [(3, .ref a48_), (0, .ref h0), (1, .int x1), (2, .int (u35_ 0))]) hx hb dX3_turnTo_49 rfl hl (by decide) rfl (fun ls hl => ?_)
            refine lv_aload_n hx hb dX3_turnTo_50 rfl (lv_at hl 0 rfl) ?_
            refine lv_ifnull hx hb dX3_turnTo_51 ?_
            have hD0_ := hD
            refine lv_aload_n hx hb dX3_turnTo_54 rfl (lv_at hl 0 rfl) ?_
            refine lv_iload_n hx hb dX3_turnTo_55 rfl (lv_at hl 2 rfl) ?_
            obtain ⟨v48_, hm48⟩ := (show zRd h8 f25 pl35 from by assumption) _ (zltc (by omega) (by omega)) _ e_o48.symm
            obtain ⟨p48, q48, e_pl48⟩ := List.append_of_mem hm48
            rw [e_pl48] at hP hD
            have hP : va_P (dC, dI) vwCl ([(h0, .inr (3, mX3 h1 h8 h17 h25 h26 h27 h28 h29 (upd v0 9 (u35_ 1)))), (h29, zi k29 300 (a35_ 1)), (h28, zi k28 832 (a35_ 0)), (h25, .inl (k25, 400, .inr (.inr (.inr (.inr f25))))), (h8, .inr (6, mX6 h9 h10 h11 h12 h13 h14 h15 h16 v8)), (h11, zi k11 833 f11), (h10, zi k10 833 f10), (h9, zi k9 1250 f9), (h12, zi k12 400 f12), (h13, zi k13 400 f13), (h14, zi k14 400 f14), (h26, zi k26 400 f26), (h2, .inl (k2, 400, .inr (.inl f2))), (h3, zi k3 400 f3), (h4, zi k4 400 f4), (h1, .inr (10, mX10 h2 h3 h4 h5 h6 h7 v1)), (h15, zi k15 400 f15), (h16, zi k16 400 f16), (a48_, .inr (8, mX8 h8 v48_))] ++ (p48 ++ q48)) H := zfocP hP
            have hD : va_D A ([(h0, .inr (3, mX3 h1 h8 h17 h25 h26 h27 h28 h29 (upd v0 9 (u35_ 1)))), (h29, zi k29 300 (a35_ 1)), (h28, zi k28 832 (a35_ 0)), (h25, .inl (k25, 400, .inr (.inr (.inr (.inr f25))))), (h8, .inr (6, mX6 h9 h10 h11 h12 h13 h14 h15 h16 v8)), (h11, zi k11 833 f11), (h10, zi k10 833 f10), (h9, zi k9 1250 f9), (h12, zi k12 400 f12), (h13, zi k13 400 f13), (h14, zi k14 400 f14), (h26, zi k26 400 f26), (h2, .inl (k2, 400, .inr (.inl f2))), (h3, zi k3 400 f3), (h4, zi k4 400 f4), (h1, .inr (10, mX10 h2 h3 h4 h5 h6 h7 v1)), (h15, zi k15 400 f15), (h16, zi k16 400 f16), (a48_, .inr (8, mX8 h8 v48_))] ++ (p48 ++ q48)) := zfocD hD
            have hPc := hP.sub (ws' := [(a48_, .inr (8, mX8 h8 v48_)), (h8, .inr (6, mX6 h9 h10 h11 h12 h13 h14 h15 h16 v8)), (h11, zi k11 833 f11), (h10, zi k10 833 f10), (h9, zi k9 1250 f9), (h12, zi k12 400 f12), (h13, zi k13 400 f13), (h14, zi k14 400 f14)]) [18, 4, 5, 6, 7, 8, 9, 10] rfl
            have hDc := hD.sub (ws' := [(a48_, .inr (8, mX8 h8 v48_)), (h8, .inr (6, mX6 h9 h10 h11 h12 h13 h14 h15 h16 v8)), (h11, zi k11 833 f11), (h10, zi k10 833 f10), (h9, zi k9 1250 f9), (h12, zi k12 400 f12), (h13, zi k13 400 f13), (h14, zi k14 400 f14)]) [18, 4, 5, 6, 7, 8, 9, 10] (by decide) rfl
            have hKc := hK.sub (tys' := [(k11, .int), (k10, .int), (k9, .int), (k12, .int), (k13, .int), (k14, .int)]) [3, 4, 5, 6, 7, 8] rfl
            have hFc := va_free (wc := [(a48_, .inr (8, mX8 h8 v48_)), (h8, .inr (6, mX6 h9 h10 h11 h12 h13 h14 h15 h16 v8)), (h11, zi k11 833 f11), (h10, zi k10 833 f10), (h9, zi k9 1250 f9), (h12, zi k12 400 f12), (h13, zi k13 400 f13), (h14, zi k14 400 f14)]) hD hS hA [18, 4, 5, 6, 7, 8, 9, 10] rfl
            refine va_calli (va_runV (As := [.int x1]) (rest := []) ⟨hx, hb, hml, hown, hG⟩ (sX8_reaches_0 l dC dI adK adV a48_ h8 h11 h10 h9 h12 h13 h14 h15 h16 k11 k10 k9 k12 k13 k14 H.size v48_ v8 f11 f10 f9 f12 f13 f14 x1 hv8 hf10 hf13 (show (0 : Int) ≤ (x1 : Int32).toInt ∧ (x1 : Int32).toInt ≤ (119 : Int) from (by first | with_reducible assumption | exact ⟨by omega, by omega⟩))) (cwV 1 hG (zgV zv1222 zv1223 zv1224 zv134 zv1225) rfl rfl rfl (by decide +kernel) ⟨Nat.le_of_ble_eq_true rfl, Nat.le_of_ble_eq_true rfl⟩) ⟨zPc_blind, va_recv hKc hPc (ci := 8) (q0 := 0) rfl rfl, zPc_pre hPc hKc hDc hE hS hFc hZ⟩ rfl rfl hl.1 rfl (lv_room (Nat.le_of_ble_eq_true rfl)) dX3_turnTo_56 ⟨Nat.le_of_ble_eq_true rfl, Nat.le_of_ble_eq_true rfl⟩) hS (fun q _ h => hFc q h) hFc (fun r56_ u56_ t H1 locs ht hvm hw hB hz1 hk1 hS => ?_)
            replace hw : (0 ≤ r56_.toInt ∧ r56_.toInt ≤ 1) ∧ (zRch f9 f10 f11 f12 f13 f14 (v8 8).toInt (v8 9).toInt (v8 10).toInt (v8 11).toInt (v48_ 1).toInt (v48_ 2).toInt (v48_ 3).toInt (v48_ 4).toInt (v48_ 5).toInt (v48_ 6).toInt (v48_ 7).toInt (v48_ 8).toInt (u56_ 0).toInt (u56_ 1).toInt (u56_ 2).toInt (u56_ 3).toInt (u56_ 4).toInt (u56_ 5).toInt (u56_ 6).toInt (u56_ 7).toInt x1.toInt r56_.toInt) := hw
            obtain ⟨b_, hX56_0⟩ := hw
            obtain ⟨w56_, a56_, b56_, hP1, hK1, hD1⟩ := hB
            rw [ht] at hP1
            obtain ⟨hP, hD⟩ := va_joinQ (wr := [(h0, .inr (3, mX3 h1 h8 h17 h25 h26 h27 h28 h29 (upd v0 9 (u35_ 1)))), (h29, zi k29 300 (a35_ 1)), (h28, zi k28 832 (a35_ 0)), (h25, .inl (k25, 400, .inr (.inr (.inr (.inr f25))))), (h26, zi k26 400 f26), (h2, .inl (k2, 400, .inr (.inl f2))), (h3, zi k3 400 f3), (h4, zi k4 400 f4), (h1, .inr (10, mX10 h2 h3 h4 h5 h6 h7 v1)), (h15, zi k15 400 f15), (h16, zi k16 400 f16)]) (w1 := [(a48_, .inr (8, mX8 h8 (upd (upd (upd (upd (upd (upd (upd (upd v48_ 1 (u56_ 0)) 2 (u56_ 1)) 3 (u56_ 2)) 4 (u56_ 3)) 5 (u56_ 4)) 6 (u56_ 5)) 7 (u56_ 6)) 8 (u56_ 7)))), (h8, .inr (6, mX6 h9 h10 h11 h12 h13 h14 h15 h16 v8)), (h11, zi k11 833 f11), (h10, zi k10 833 f10), (h9, zi k9 1250 f9), (h12, zi k12 400 f12), (h13, zi k13 400 f13), (h14, zi k14 400 f14)]) hP hD [18, 4, 5, 6, 7, 8, 9, 10] [0, 1, 2, 3, 11, 12, 13, 14, 15, 16, 17] rfl rfl (by decide) (by decide) hk1 hFc hP1 hD1
            have hP : va_P (dC, dI) vwCl ([(h0, .inr (3, mX3 h1 h8 h17 h25 h26 h27 h28 h29 (upd v0 9 (u35_ 1)))), (h29, zi k29 300 (a35_ 1)), (h28, zi k28 832 (a35_ 0)), (h25, .inl (k25, 400, .inr (.inr (.inr (.inr f25))))), (h8, .inr (6, mX6 h9 h10 h11 h12 h13 h14 h15 h16 v8)), (h11, zi k11 833 f11), (h10, zi k10 833 f10), (h9, zi k9 1250 f9), (h12, zi k12 400 f12), (h13, zi k13 400 f13), (h14, zi k14 400 f14), (h26, zi k26 400 f26), (h2, .inl (k2, 400, .inr (.inl f2))), (h3, zi k3 400 f3), (h4, zi k4 400 f4), (h1, .inr (10, mX10 h2 h3 h4 h5 h6 h7 v1)), (h15, zi k15 400 f15), (h16, zi k16 400 f16), (a48_, .inr (8, mX8 h8 (upd (upd (upd (upd (upd (upd (upd (upd v48_ 1 (u56_ 0)) 2 (u56_ 1)) 3 (u56_ 2)) 4 (u56_ 3)) 5 (u56_ 4)) 6 (u56_ 5)) 7 (u56_ 6)) 8 (u56_ 7))))] ++ (p48 ++ q48)) H1 := hP.part [0, 1, 2, 3, 12, 13, 14, 15, 16, 17, 18, 4, 5, 6, 7, 8, 9, 10, 11] rfl
            have hD : va_D A ([(h0, .inr (3, mX3 h1 h8 h17 h25 h26 h27 h28 h29 (upd v0 9 (u35_ 1)))), (h29, zi k29 300 (a35_ 1)), (h28, zi k28 832 (a35_ 0)), (h25, .inl (k25, 400, .inr (.inr (.inr (.inr f25))))), (h8, .inr (6, mX6 h9 h10 h11 h12 h13 h14 h15 h16 v8)), (h11, zi k11 833 f11), (h10, zi k10 833 f10), (h9, zi k9 1250 f9), (h12, zi k12 400 f12), (h13, zi k13 400 f13), (h14, zi k14 400 f14), (h26, zi k26 400 f26), (h2, .inl (k2, 400, .inr (.inl f2))), (h3, zi k3 400 f3), (h4, zi k4 400 f4), (h1, .inr (10, mX10 h2 h3 h4 h5 h6 h7 v1)), (h15, zi k15 400 f15), (h16, zi k16 400 f16), (a48_, .inr (8, mX8 h8 (upd (upd (upd (upd (upd (upd (upd (upd v48_ 1 (u56_ 0)) 2 (u56_ 1)) 3 (u56_ 2)) 4 (u56_ 3)) 5 (u56_ 4)) 6 (u56_ 5)) 7 (u56_ 6)) 8 (u56_ 7))))] ++ (p48 ++ q48)) := hD.part [0, 1, 2, 3, 12, 13, 14, 15, 16, 17, 18, 4, 5, 6, 7, 8, 9, 10, 11] (by decide) rfl
            generalize H1 = H at hP hS ⊢
            clear hz1
            refine lv_if_eq (tgt := 94) hx hb dX3_turnTo_59 (by decide) (fun c_ => ?_) (fun c_ => ?_)
            · skip
              have b_ := zT_eq rfl zk_0 c_
              obtain ⟨z94, e_z94⟩ : ∃ z : Int32, z = (u35_ 0) + Int32.ofInt 1 := ⟨_, rfl⟩
              have b_ := zadd (x := (u35_ 0)) (y := Int32.ofInt 1) rfl (show (Int32.ofInt 1).toInt = 1 from by decide) e_z94 (by omega) (by omega)
              refine lv_iinc (v := z94) (lv' := [(2, .int z94), (3, .ref a48_), (0, .ref h0), (1, .int x1)]) hx hb dX3_turnTo_94 hl (k := 3) rfl e_z94.symm (by decide) rfl (fun ls hl => ?_)
              have htu9 : zTu h8 f25 pl0 ((a48_, .inr (8, mX8 h8 (upd (upd (upd (upd (upd (upd (upd (upd v48_ 1 (u56_ 0)) 2 (u56_ 1)) 3 (u56_ 2)) 4 (u56_ 3)) 5 (u56_ 4)) 6 (u56_ 5)) 7 (u56_ 6)) 8 (u56_ 7)))) :: (p48 ++ q48)) f2 f3 f4 (v1 7).toInt f9 f10 f11 f12 f13 f14 (v8 8).toInt (v8 9).toInt (v8 10).toInt (v8 11).toInt f15 f16 f26 (v0 8).toInt f28 f29 (v0 9).toInt (a35_ 0) (a35_ 1) (u35_ 1).toInt x1.toInt z94.toInt := zTu_n hI35_0 (by omega) (by omega) (by omega) e_o48.symm hD0_ e_pl48 hX56_0 (by omega) (by omega)
              refine lv_goto (tgt := 35) hx hb dX3_turnTo_97 (by decide) ?_
              obtain ⟨plx135, e_plx135⟩ : ∃ z : va_W, z = (a48_, .inr (8, mX8 h8 (upd (upd (upd (upd (upd (upd (upd (upd v48_ 1 (u56_ 0)) 2 (u56_ 1)) 3 (u56_ 2)) 4 (u56_ 3)) 5 (u56_ 4)) 6 (u56_ 5)) 7 (u56_ 6)) 8 (u56_ 7)))) :: (p48 ++ q48) := ⟨_, rfl⟩
              have e_plx_ := e_plx135
              have hP : va_P (dC, dI) vwCl ([(h0, .inr (3, mX3 h1 h8 h17 h25 h26 h27 h28 h29 (upd v0 9 (u35_ 1)))), (h29, zi k29 300 (a35_ 1)), (h28, zi k28 832 (a35_ 0)), (h25, .inl (k25, 400, .inr (.inr (.inr (.inr f25))))), (h8, .inr (6, mX6 h9 h10 h11 h12 h13 h14 h15 h16 v8)), (h11, zi k11 833 f11), (h10, zi k10 833 f10), (h9, zi k9 1250 f9), (h12, zi k12 400 f12), (h13, zi k13 400 f13), (h14, zi k14 400 f14), (h26, zi k26 400 f26), (h2, .inl (k2, 400, .inr (.inl f2))), (h3, zi k3 400 f3), (h4, zi k4 400 f4), (h1, .inr (10, mX10 h2 h3 h4 h5 h6 h7 v1)), (h15, zi k15 400 f15), (h16, zi k16 400 f16)] ++ plx135) H := by rw [e_plx135]; exact hP
              have hD : va_D A ([(h0, .inr (3, mX3 h1 h8 h17 h25 h26 h27 h28 h29 (upd v0 9 (u35_ 1)))), (h29, zi k29 300 (a35_ 1)), (h28, zi k28 832 (a35_ 0)), (h25, .inl (k25, 400, .inr (.inr (.inr (.inr f25))))), (h8, .inr (6, mX6 h9 h10 h11 h12 h13 h14 h15 h16 v8)), (h11, zi k11 833 f11), (h10, zi k10 833 f10), (h9, zi k9 1250 f9), (h12, zi k12 400 f12), (h13, zi k13 400 f13), (h14, zi k14 400 f14), (h26, zi k26 400 f26), (h2, .inl (k2, 400, .inr (.inl f2))), (h3, zi k3 400 f3), (h4, zi k4 400 f4), (h1, .inr (10, mX10 h2 h3 h4 h5 h6 h7 v1)), (h15, zi k15 400 f15), (h16, zi k16 400 f16)] ++ plx135) := by rw [e_plx135]; exact hD
              have hpl_ : zRd h8 f25 plx135 := by rw [e_plx135]; exact zRd_put (show zRd h8 f25 pl35 from by first | assumption | exact zKp_rf | exact zOt_rf) e_pl48
              have hpl_ : zKp h8 pl0 plx135 := by rw [e_plx135]; exact zKp_put (show zKp h8 pl0 pl35 from by first | assumption | exact zKp_rf | exact zOt_rf) e_pl48
              have hc : va_P (dC, dI) vwCl ([(h0, .inr (3, mX3 h1 h8 h17 h25 h26 h27 h28 h29 (upd v0 9 (u35_ 1)))), (h29, zi k29 300 (a35_ 1)), (h28, zi k28 832 (a35_ 0)), (h25, .inl (k25, 400, .inr (.inr (.inr (.inr f25))))), (h8, .inr (6, mX6 h9 h10 h11 h12 h13 h14 h15 h16 v8)), (h11, zi k11 833 f11), (h10, zi k10 833 f10), (h9, zi k9 1250 f9), (h12, zi k12 400 f12), (h13, zi k13 400 f13), (h14, zi k14 400 f14), (h26, zi k26 400 f26), (h2, .inl (k2, 400, .inr (.inl f2))), (h3, zi k3 400 f3), (h4, zi k4 400 f4), (h1, .inr (10, mX10 h2 h3 h4 h5 h6 h7 v1)), (h15, zi k15 400 f15), (h16, zi k16 400 f16)] ++ plx135) H ∧ va_D A ([(h0, .inr (3, mX3 h1 h8 h17 h25 h26 h27 h28 h29 (upd v0 9 (u35_ 1)))), (h29, zi k29 300 (a35_ 1)), (h28, zi k28 832 (a35_ 0)), (h25, .inl (k25, 400, .inr (.inr (.inr (.inr f25))))), (h8, .inr (6, mX6 h9 h10 h11 h12 h13 h14 h15 h16 v8)), (h11, zi k11 833 f11), (h10, zi k10 833 f10), (h9, zi k9 1250 f9), (h12, zi k12 400 f12), (h13, zi k13 400 f13), (h14, zi k14 400 f14), (h26, zi k26 400 f26), (h2, .inl (k2, 400, .inr (.inl f2))), (h3, zi k3 400 f3), (h4, zi k4 400 f4), (h1, .inr (10, mX10 h2 h3 h4 h5 h6 h7 v1)), (h15, zi k15 400 f15), (h16, zi k16 400 f16)] ++ plx135) ∧ va_S A s.heap H locs ∧ lv_has ls 5 [(0, .ref h0), (1, .int x1), (2, .int z94)] ∧ zA 0 831 (a35_ 1) ∧ (0 ≤ z94.toInt ∧ z94.toInt ≤ 400) ∧ (0 ≤ (u35_ 1).toInt ∧ (u35_ 1).toInt ≤ 300) ∧ (zTu h8 f25 pl0 plx135 f2 f3 f4 (v1 7).toInt f9 f10 f11 f12 f13 f14 (v8 8).toInt (v8 9).toInt (v8 10).toInt (v8 11).toInt f15 f16 f26 (v0 8).toInt f28 f29 (v0 9).toInt (a35_ 0) (a35_ 1) (u35_ 1).toInt x1.toInt z94.toInt) ∧ (0 ≤ z94.toInt) ∧ (z94.toInt ≤ (v0 8).toInt) ∧ (zRd h8 f25 plx135) ∧ (zKp h8 pl0 plx135) := ⟨hP, hD, hS, lv_sub hl [2, 3, 0] rfl, ha35_1, (by first | with_reducible assumption | exact ⟨by omega, by omega⟩), (by first | with_reducible assumption | exact ⟨by omega, by omega⟩), by first | (rw [e_plx_]; exact htu9) | exact htu9 | (rw [hI2_1]; exact zTu_0 hI2_0 (by omega) (by decide) (by decide)), by omega, by omega, by assumption, by first | assumption | exact zKp_rf⟩
              exact hJ35 H locs ls (fun i => ([z94, (u35_ 1)] : List (Int32)).getD i 0) (fun _ => 0) (fun i => ([(a35_ 0), (a35_ 1)] : List (Nat → Int32)).getD i (fun _ => 0)) (fun _ => (fun _ => 0)) ⟨(fun _ => (fun _ => none)), plx135, hc⟩ (show (400 - z94.toInt).toNat < (400 - (u35_ 0).toInt).toNat from by omega)
            · skip
              have b_ := zF_eq rfl zk_0 c_
              refine lv_iconst (v := 0) hx hb dX3_turnTo_62 (by decide) ?_
              refine lv_istore (lv' := [(4, .int 0), (3, .ref a48_), (0, .ref h0), (1, .int x1), (2, .int (u35_ 0))]) hx hb dX3_turnTo_63 hl (by decide) rfl (fun ls hl => ?_)
              refine zcutL (fun u65_ => (2147483647 - (u65_ 0).toInt).toNat) (fun H locs ls u65_ w65_ a65_ b65_ => ∃ (q65_ : Nat → Nat → Option Nat) (pl65 : va_W), va_P (dC, dI) vwCl ([(h0, .inr (3, mX3 h1 h8 h17 h25 h26 h27 h28 h29 (upd v0 9 (u65_ 7)))), (h29, zi k29 300 (a65_ 1)), (h28, zi k28 832 (a65_ 0)), (h25, .inl (k25, 400, .inr (.inr (.inr (.inr f25))))), (h8, .inr (6, mX6 h9 h10 h11 h12 h13 h14 h15 h16 v8)), (h11, zi k11 833 f11), (h10, zi k10 833 f10), (h9, zi k9 1250 f9), (h12, zi k12 400 f12), (h13, zi k13 400 f13), (h14, zi k14 400 f14), (h26, zi k26 400 f26), (h2, .inl (k2, 400, .inr (.inl f2))), (h3, zi k3 400 f3), (h4, zi k4 400 f4), (h1, .inr (10, mX10 h2 h3 h4 h5 h6 h7 v1)), (h15, zi k15 400 f15), (h16, zi k16 400 f16), (a48_, .inr (8, mX8 h8 (upd (upd (upd (upd (upd (upd (upd (upd v48_ 1 (u65_ 1)) 2 (u65_ 2)) 3 (u65_ 3)) 4 (u65_ 4)) 5 (u56_ 4)) 6 (u56_ 5)) 7 (u65_ 5)) 8 (u65_ 6))))] ++ (p48 ++ q48)) H ∧ va_D A ([(h0, .inr (3, mX3 h1 h8 h17 h25 h26 h27 h28 h29 (upd v0 9 (u65_ 7)))), (h29, zi k29 300 (a65_ 1)), (h28, zi k28 832 (a65_ 0)), (h25, .inl (k25, 400, .inr (.inr (.inr (.inr f25))))), (h8, .inr (6, mX6 h9 h10 h11 h12 h13 h14 h15 h16 v8)), (h11, zi k11 833 f11), (h10, zi k10 833 f10), (h9, zi k9 1250 f9), (h12, zi k12 400 f12), (h13, zi k13 400 f13), (h14, zi k14 400 f14), (h26, zi k26 400 f26), (h2, .inl (k2, 400, .inr (.inl f2))), (h3, zi k3 400 f3), (h4, zi k4 400 f4), (h1, .inr (10, mX10 h2 h3 h4 h5 h6 h7 v1)), (h15, zi k15 400 f15), (h16, zi k16 400 f16), (a48_, .inr (8, mX8 h8 (upd (upd (upd (upd (upd (upd (upd (upd v48_ 1 (u65_ 1)) 2 (u65_ 2)) 3 (u65_ 3)) 4 (u65_ 4)) 5 (u56_ 4)) 6 (u56_ 5)) 7 (u65_ 5)) 8 (u65_ 6))))] ++ (p48 ++ q48)) ∧ va_S A s.heap H locs ∧ lv_has ls 5 [(0, .ref h0), (1, .int x1), (2, .int (u35_ 0)), (3, .ref a48_), (4, .int (u65_ 0))] ∧ zA 0 831 (a65_ 1) ∧ (0 ≤ (u65_ 0).toInt ∧ (u65_ 0).toInt ≤ 2147483647) ∧ (0 ≤ (u65_ 7).toInt ∧ (u65_ 7).toInt ≤ 300) ∧ (zTwn h8 f25 pl0 (p48 ++ q48) f2 f3 f4 (v1 7).toInt f9 f10 f11 f12 f13 f14 (v8 8).toInt (v8 9).toInt (v8 10).toInt (v8 11).toInt f15 f16 f26 (v0 8).toInt f28 f29 (v0 9).toInt (a65_ 0) (a65_ 1) (u65_ 7).toInt x1.toInt (u35_ 0).toInt (u65_ 1).toInt (u65_ 2).toInt (u65_ 3).toInt (u65_ 4).toInt (u56_ 4).toInt (u56_ 5).toInt (u65_ 5).toInt (u65_ 6).toInt (u65_ 0).toInt) ∧ (0 ≤ (u65_ 0).toInt)) (fun ls u65_ w65_ => F0 m 65 ls []) 0 0 ?_ (fun hJ65 => ?_)
              · skip
                intro H locs ls u65_ w65_ a65_ b65_ hc hJ65
                obtain ⟨q65_, pl65, hP, hD, hS, hl, ha65_1, b_, b_, hI65_0, b_⟩ := hc
                refine lv_iload hx hb dX3_turnTo_65 (lv_at hl 4 rfl) ?_
                refine lv_aload_n hx hb dX3_turnTo_67 rfl (lv_at hl 3 rfl) ?_
                have b_ : -2147483648 ≤ (u65_ 1).toInt ∧ (u65_ 1).toInt ≤ 2147483647 := ⟨zlo _, zhi _⟩
                have b_ : -2147483648 ≤ (u65_ 2).toInt ∧ (u65_ 2).toInt ≤ 2147483647 := ⟨zlo _, zhi _⟩
                have b_ : -2147483648 ≤ (u65_ 3).toInt ∧ (u65_ 3).toInt ≤ 2147483647 := ⟨zlo _, zhi _⟩
                have b_ : -2147483648 ≤ (u65_ 4).toInt ∧ (u65_ 4).toInt ≤ 2147483647 := ⟨zlo _, zhi _⟩
                have b_ : -2147483648 ≤ (u56_ 4).toInt ∧ (u56_ 4).toInt ≤ 2147483647 := ⟨zlo _, zhi _⟩
                have b_ : -2147483648 ≤ (u56_ 5).toInt ∧ (u56_ 5).toInt ≤ 2147483647 := ⟨zlo _, zhi _⟩
                have b_ : -2147483648 ≤ (u65_ 5).toInt ∧ (u65_ 5).toInt ≤ 2147483647 := ⟨zlo _, zhi _⟩
                have b_ : -2147483648 ≤ (u65_ 6).toInt ∧ (u65_ 6).toInt ≤ 2147483647 := ⟨zlo _, zhi _⟩
                have hPc := hP.sub (ws' := [(a48_, .inr (8, mX8 h8 (upd (upd (upd (upd (upd (upd (upd (upd v48_ 1 (u65_ 1)) 2 (u65_ 2)) 3 (u65_ 3)) 4 (u65_ 4)) 5 (u56_ 4)) 6 (u56_ 5)) 7 (u65_ 5)) 8 (u65_ 6))))]) [18] rfl
                have hDc := hD.sub (ws' := [(a48_, .inr (8, mX8 h8 (upd (upd (upd (upd (upd (upd (upd (upd v48_ 1 (u65_ 1)) 2 (u65_ 2)) 3 (u65_ 3)) 4 (u65_ 4)) 5 (u56_ 4)) 6 (u56_ 5)) 7 (u65_ 5)) 8 (u65_ 6))))]) [18] (by decide) rfl
                have hKc := hK.sub (tys' := []) [] rfl
                have hFc := va_free (wc := [(a48_, .inr (8, mX8 h8 (upd (upd (upd (upd (upd (upd (upd (upd v48_ 1 (u65_ 1)) 2 (u65_ 2)) 3 (u65_ 3)) 4 (u65_ 4)) 5 (u56_ 4)) 6 (u56_ 5)) 7 (u65_ 5)) 8 (u65_ 6))))]) hD hS hA [18] rfl
                refine va_calli (va_runV (As := []) (rest := [.int (u65_ 0)]) ⟨hx, hb, hml, hown, hG⟩ (sX8_places_0 l dC dI adK adV a48_ h8 H.size (upd (upd (upd (upd (upd (upd (upd (upd v48_ 1 (u65_ 1)) 2 (u65_ 2)) 3 (u65_ 3)) 4 (u65_ 4)) 5 (u56_ 4)) 6 (u56_ 5)) 7 (u65_ 5)) 8 (u65_ 6))) (cwV 0 hG (zgV zv1226 zv937 zv938 zv134 zv939) rfl rfl rfl (by decide +kernel) ⟨Nat.le_of_ble_eq_true rfl, Nat.le_of_ble_eq_true rfl⟩) ⟨zPc_blind, va_recv hKc hPc (ci := 8) (q0 := 0) rfl rfl, zPc_pre hPc hKc hDc hE hS hFc hZ⟩ rfl rfl hl.1 rfl (lv_room (Nat.le_of_ble_eq_true rfl)) dX3_turnTo_68 ⟨Nat.le_of_ble_eq_true rfl, Nat.le_of_ble_eq_true rfl⟩) hS (fun q _ h => hFc q h) hFc (fun r68_ u68_ t H1 locs ht hvm hw hB hz1 hk1 hS => ?_)
                replace hw : (r68_.toInt = (u56_ 5).toInt) := hw
                have hX68_0 := hw
                obtain ⟨w68_, a68_, b68_, hP1, hK1, hD1⟩ := hB
                rw [ht] at hP1
                obtain ⟨hP, hD⟩ := va_joinQ (wr := [(h0, .inr (3, mX3 h1 h8 h17 h25 h26 h27 h28 h29 (upd v0 9 (u65_ 7)))), (h29, zi k29 300 (a65_ 1)), (h28, zi k28 832 (a65_ 0)), (h25, .inl (k25, 400, .inr (.inr (.inr (.inr f25))))), (h8, .inr (6, mX6 h9 h10 h11 h12 h13 h14 h15 h16 v8)), (h11, zi k11 833 f11), (h10, zi k10 833 f10), (h9, zi k9 1250 f9), (h12, zi k12 400 f12), (h13, zi k13 400 f13), (h14, zi k14 400 f14), (h26, zi k26 400 f26), (h2, .inl (k2, 400, .inr (.inl f2))), (h3, zi k3 400 f3), (h4, zi k4 400 f4), (h1, .inr (10, mX10 h2 h3 h4 h5 h6 h7 v1)), (h15, zi k15 400 f15), (h16, zi k16 400 f16)]) (w1 := [(a48_, .inr (8, mX8 h8 (upd (upd (upd (upd (upd (upd (upd (upd v48_ 1 (u65_ 1)) 2 (u65_ 2)) 3 (u65_ 3)) 4 (u65_ 4)) 5 (u56_ 4)) 6 (u56_ 5)) 7 (u65_ 5)) 8 (u65_ 6))))]) hP hD [18] [0, 1, 2, 3, 4, 5, 6, 7, 8, 9, 10, 11, 12, 13, 14, 15, 16, 17] rfl rfl (by decide) (by decide) hk1 hFc hP1 hD1
                have hP : va_P (dC, dI) vwCl ([(h0, .inr (3, mX3 h1 h8 h17 h25 h26 h27 h28 h29 (upd v0 9 (u65_ 7)))), (h29, zi k29 300 (a65_ 1)), (h28, zi k28 832 (a65_ 0)), (h25, .inl (k25, 400, .inr (.inr (.inr (.inr f25))))), (h8, .inr (6, mX6 h9 h10 h11 h12 h13 h14 h15 h16 v8)), (h11, zi k11 833 f11), (h10, zi k10 833 f10), (h9, zi k9 1250 f9), (h12, zi k12 400 f12), (h13, zi k13 400 f13), (h14, zi k14 400 f14), (h26, zi k26 400 f26), (h2, .inl (k2, 400, .inr (.inl f2))), (h3, zi k3 400 f3), (h4, zi k4 400 f4), (h1, .inr (10, mX10 h2 h3 h4 h5 h6 h7 v1)), (h15, zi k15 400 f15), (h16, zi k16 400 f16), (a48_, .inr (8, mX8 h8 (upd (upd (upd (upd (upd (upd (upd (upd v48_ 1 (u65_ 1)) 2 (u65_ 2)) 3 (u65_ 3)) 4 (u65_ 4)) 5 (u56_ 4)) 6 (u56_ 5)) 7 (u65_ 5)) 8 (u65_ 6))))] ++ (p48 ++ q48)) H1 := hP.part [0, 1, 2, 3, 4, 5, 6, 7, 8, 9, 10, 11, 12, 13, 14, 15, 16, 17, 18] rfl
                have hD : va_D A ([(h0, .inr (3, mX3 h1 h8 h17 h25 h26 h27 h28 h29 (upd v0 9 (u65_ 7)))), (h29, zi k29 300 (a65_ 1)), (h28, zi k28 832 (a65_ 0)), (h25, .inl (k25, 400, .inr (.inr (.inr (.inr f25))))), (h8, .inr (6, mX6 h9 h10 h11 h12 h13 h14 h15 h16 v8)), (h11, zi k11 833 f11), (h10, zi k10 833 f10), (h9, zi k9 1250 f9), (h12, zi k12 400 f12), (h13, zi k13 400 f13), (h14, zi k14 400 f14), (h26, zi k26 400 f26), (h2, .inl (k2, 400, .inr (.inl f2))), (h3, zi k3 400 f3), (h4, zi k4 400 f4), (h1, .inr (10, mX10 h2 h3 h4 h5 h6 h7 v1)), (h15, zi k15 400 f15), (h16, zi k16 400 f16), (a48_, .inr (8, mX8 h8 (upd (upd (upd (upd (upd (upd (upd (upd v48_ 1 (u65_ 1)) 2 (u65_ 2)) 3 (u65_ 3)) 4 (u65_ 4)) 5 (u56_ 4)) 6 (u56_ 5)) 7 (u65_ 5)) 8 (u65_ 6))))] ++ (p48 ++ q48)) := hD.part [0, 1, 2, 3, 4, 5, 6, 7, 8, 9, 10, 11, 12, 13, 14, 15, 16, 17, 18] (by decide) rfl
                generalize H1 = H at hP hS ⊢
                clear hz1
                have b_ : -2147483648 ≤ r68_.toInt ∧ r68_.toInt ≤ 2147483647 := ⟨zlo _, zhi _⟩
                refine lv_icmp_ge (tgt := 94) hx hb dX3_turnTo_71 (by decide) (fun c_ => ?_) (fun c_ => ?_)
                · skip
                  have b_ := zT_ge rfl rfl c_
                  obtain ⟨z94, e_z94⟩ : ∃ z : Int32, z = (u35_ 0) + Int32.ofInt 1 := ⟨_, rfl⟩
                  have b_ := zadd (x := (u35_ 0)) (y := Int32.ofInt 1) rfl (show (Int32.ofInt 1).toInt = 1 from by decide) e_z94 (by omega) (by omega)
                  refine lv_iinc (v := z94) (lv' := [(2, .int z94), (0, .ref h0), (1, .int x1), (3, .ref a48_), (4, .int (u65_ 0))]) hx hb dX3_turnTo_94 hl (k := 2) rfl e_z94.symm (by decide) rfl (fun ls hl => ?_)
                  have htu9 : zTu h8 f25 pl0 ((a48_, .inr (8, mX8 h8 (upd (upd (upd (upd (upd (upd (upd (upd v48_ 1 (u65_ 1)) 2 (u65_ 2)) 3 (u65_ 3)) 4 (u65_ 4)) 5 (u56_ 4)) 6 (u56_ 5)) 7 (u65_ 5)) 8 (u65_ 6)))) :: (p48 ++ q48)) f2 f3 f4 (v1 7).toInt f9 f10 f11 f12 f13 f14 (v8 8).toInt (v8 9).toInt (v8 10).toInt (v8 11).toInt f15 f16 f26 (v0 8).toInt f28 f29 (v0 9).toInt (a65_ 0) (a65_ 1) (u65_ 7).toInt x1.toInt z94.toInt := zTwn_e hI65_0 (by omega) (by omega) e_o48.symm (by omega) rfl rfl rfl rfl rfl rfl rfl (by omega)
                  refine lv_goto (tgt := 35) hx hb dX3_turnTo_97 (by decide) ?_
                  obtain ⟨plx136, e_plx136⟩ : ∃ z : va_W, z = (a48_, .inr (8, mX8 h8 (upd (upd (upd (upd (upd (upd (upd (upd v48_ 1 (u65_ 1)) 2 (u65_ 2)) 3 (u65_ 3)) 4 (u65_ 4)) 5 (u56_ 4)) 6 (u56_ 5)) 7 (u65_ 5)) 8 (u65_ 6)))) :: (p48 ++ q48) := ⟨_, rfl⟩
                  have e_plx_ := e_plx136
                  have hP : va_P (dC, dI) vwCl ([(h0, .inr (3, mX3 h1 h8 h17 h25 h26 h27 h28 h29 (upd v0 9 (u65_ 7)))), (h29, zi k29 300 (a65_ 1)), (h28, zi k28 832 (a65_ 0)), (h25, .inl (k25, 400, .inr (.inr (.inr (.inr f25))))), (h8, .inr (6, mX6 h9 h10 h11 h12 h13 h14 h15 h16 v8)), (h11, zi k11 833 f11), (h10, zi k10 833 f10), (h9, zi k9 1250 f9), (h12, zi k12 400 f12), (h13, zi k13 400 f13), (h14, zi k14 400 f14), (h26, zi k26 400 f26), (h2, .inl (k2, 400, .inr (.inl f2))), (h3, zi k3 400 f3), (h4, zi k4 400 f4), (h1, .inr (10, mX10 h2 h3 h4 h5 h6 h7 v1)), (h15, zi k15 400 f15), (h16, zi k16 400 f16)] ++ plx136) H := by rw [e_plx136]; exact hP
                  have hD : va_D A ([(h0, .inr (3, mX3 h1 h8 h17 h25 h26 h27 h28 h29 (upd v0 9 (u65_ 7)))), (h29, zi k29 300 (a65_ 1)), (h28, zi k28 832 (a65_ 0)), (h25, .inl (k25, 400, .inr (.inr (.inr (.inr f25))))), (h8, .inr (6, mX6 h9 h10 h11 h12 h13 h14 h15 h16 v8)), (h11, zi k11 833 f11), (h10, zi k10 833 f10), (h9, zi k9 1250 f9), (h12, zi k12 400 f12), (h13, zi k13 400 f13), (h14, zi k14 400 f14), (h26, zi k26 400 f26), (h2, .inl (k2, 400, .inr (.inl f2))), (h3, zi k3 400 f3), (h4, zi k4 400 f4), (h1, .inr (10, mX10 h2 h3 h4 h5 h6 h7 v1)), (h15, zi k15 400 f15), (h16, zi k16 400 f16)] ++ plx136) := by rw [e_plx136]; exact hD
                  have hpl_ : zRd h8 f25 plx136 := by rw [e_plx136]; exact zRd_put (show zRd h8 f25 pl35 from by first | assumption | exact zKp_rf | exact zOt_rf) e_pl48
                  have hpl_ : zKp h8 pl0 plx136 := by rw [e_plx136]; exact zKp_put (show zKp h8 pl0 pl35 from by first | assumption | exact zKp_rf | exact zOt_rf) e_pl48
                  have hc : va_P (dC, dI) vwCl ([(h0, .inr (3, mX3 h1 h8 h17 h25 h26 h27 h28 h29 (upd v0 9 (u65_ 7)))), (h29, zi k29 300 (a65_ 1)), (h28, zi k28 832 (a65_ 0)), (h25, .inl (k25, 400, .inr (.inr (.inr (.inr f25))))), (h8, .inr (6, mX6 h9 h10 h11 h12 h13 h14 h15 h16 v8)), (h11, zi k11 833 f11), (h10, zi k10 833 f10), (h9, zi k9 1250 f9), (h12, zi k12 400 f12), (h13, zi k13 400 f13), (h14, zi k14 400 f14), (h26, zi k26 400 f26), (h2, .inl (k2, 400, .inr (.inl f2))), (h3, zi k3 400 f3), (h4, zi k4 400 f4), (h1, .inr (10, mX10 h2 h3 h4 h5 h6 h7 v1)), (h15, zi k15 400 f15), (h16, zi k16 400 f16)] ++ plx136) H ∧ va_D A ([(h0, .inr (3, mX3 h1 h8 h17 h25 h26 h27 h28 h29 (upd v0 9 (u65_ 7)))), (h29, zi k29 300 (a65_ 1)), (h28, zi k28 832 (a65_ 0)), (h25, .inl (k25, 400, .inr (.inr (.inr (.inr f25))))), (h8, .inr (6, mX6 h9 h10 h11 h12 h13 h14 h15 h16 v8)), (h11, zi k11 833 f11), (h10, zi k10 833 f10), (h9, zi k9 1250 f9), (h12, zi k12 400 f12), (h13, zi k13 400 f13), (h14, zi k14 400 f14), (h26, zi k26 400 f26), (h2, .inl (k2, 400, .inr (.inl f2))), (h3, zi k3 400 f3), (h4, zi k4 400 f4), (h1, .inr (10, mX10 h2 h3 h4 h5 h6 h7 v1)), (h15, zi k15 400 f15), (h16, zi k16 400 f16)] ++ plx136) ∧ va_S A s.heap H locs ∧ lv_has ls 5 [(0, .ref h0), (1, .int x1), (2, .int z94)] ∧ zA 0 831 (a65_ 1) ∧ (0 ≤ z94.toInt ∧ z94.toInt ≤ 400) ∧ (0 ≤ (u65_ 7).toInt ∧ (u65_ 7).toInt ≤ 300) ∧ (zTu h8 f25 pl0 plx136 f2 f3 f4 (v1 7).toInt f9 f10 f11 f12 f13 f14 (v8 8).toInt (v8 9).toInt (v8 10).toInt (v8 11).toInt f15 f16 f26 (v0 8).toInt f28 f29 (v0 9).toInt (a65_ 0) (a65_ 1) (u65_ 7).toInt x1.toInt z94.toInt) ∧ (0 ≤ z94.toInt) ∧ (z94.toInt ≤ (v0 8).toInt) ∧ (zRd h8 f25 plx136) ∧ (zKp h8 pl0 plx136) := ⟨hP, hD, hS, lv_sub hl [1, 2, 0] rfl, ha65_1, (by first | with_reducible assumption | exact ⟨by omega, by omega⟩), (by first | with_reducible assumption | exact ⟨by omega, by omega⟩), by first | (rw [e_plx_]; exact htu9) | exact htu9 | (rw [hI2_1]; exact zTu_0 hI2_0 (by omega) (by decide) (by decide)), by omega, by omega, by assumption, by first | assumption | exact zKp_rf⟩
                  exact hJ35 H locs ls (fun i => ([z94, (u65_ 7)] : List (Int32)).getD i 0) (fun _ => 0) (fun i => ([(a65_ 0), (a65_ 1)] : List (Nat → Int32)).getD i (fun _ => 0)) (fun _ => (fun _ => 0)) ⟨(fun _ => (fun _ => none)), plx136, hc⟩ (show (400 - z94.toInt).toNat < (400 - (u35_ 0).toInt).toNat from by omega)
                · skip
                  have b_ := zF_ge rfl rfl c_
                  refine lv_aload_n hx hb dX3_turnTo_74 rfl (lv_at hl 0 rfl) ?_
                  refine lv_aload_n hx hb dX3_turnTo_75 rfl (lv_at hl 3 rfl) ?_
                  have hPc := hP.sub (ws' := [(a48_, .inr (8, mX8 h8 (upd (upd (upd (upd (upd (upd (upd (upd v48_ 1 (u65_ 1)) 2 (u65_ 2)) 3 (u65_ 3)) 4 (u65_ 4)) 5 (u56_ 4)) 6 (u56_ 5)) 7 (u65_ 5)) 8 (u65_ 6)))), (h8, .inr (6, mX6 h9 h10 h11 h12 h13 h14 h15 h16 v8)), (h11, zi k11 833 f11), (h10, zi k10 833 f10), (h9, zi k9 1250 f9), (h12, zi k12 400 f12), (h13, zi k13 400 f13), (h14, zi k14 400 f14)]) [18, 4, 5, 6, 7, 8, 9, 10] rfl
                  have hDc := hD.sub (ws' := [(a48_, .inr (8, mX8 h8 (upd (upd (upd (upd (upd (upd (upd (upd v48_ 1 (u65_ 1)) 2 (u65_ 2)) 3 (u65_ 3)) 4 (u65_ 4)) 5 (u56_ 4)) 6 (u56_ 5)) 7 (u65_ 5)) 8 (u65_ 6)))), (h8, .inr (6, mX6 h9 h10 h11 h12 h13 h14 h15 h16 v8)), (h11, zi k11 833 f11), (h10, zi k10 833 f10), (h9, zi k9 1250 f9), (h12, zi k12 400 f12), (h13, zi k13 400 f13), (h14, zi k14 400 f14)]) [18, 4, 5, 6, 7, 8, 9, 10] (by decide) rfl
                  have hKc := hK.sub (tys' := [(k11, .int), (k10, .int), (k9, .int), (k12, .int), (k13, .int), (k14, .int)]) [3, 4, 5, 6, 7, 8] rfl
                  have hFc := va_free (wc := [(a48_, .inr (8, mX8 h8 (upd (upd (upd (upd (upd (upd (upd (upd v48_ 1 (u65_ 1)) 2 (u65_ 2)) 3 (u65_ 3)) 4 (u65_ 4)) 5 (u56_ 4)) 6 (u56_ 5)) 7 (u65_ 5)) 8 (u65_ 6)))), (h8, .inr (6, mX6 h9 h10 h11 h12 h13 h14 h15 h16 v8)), (h11, zi k11 833 f11), (h10, zi k10 833 f10), (h9, zi k9 1250 f9), (h12, zi k12 400 f12), (h13, zi k13 400 f13), (h14, zi k14 400 f14)]) hD hS hA [18, 4, 5, 6, 7, 8, 9, 10] rfl
                  refine va_calli (va_runV (As := []) (rest := [.ref h0]) ⟨hx, hb, hml, hown, hG⟩ (sX8_nextPlace_0 l dC dI adK adV a48_ h8 h11 h10 h9 h12 h13 h14 h15 h16 k11 k10 k9 k12 k13 k14 H.size (upd (upd (upd (upd (upd (upd (upd (upd v48_ 1 (u65_ 1)) 2 (u65_ 2)) 3 (u65_ 3)) 4 (u65_ 4)) 5 (u56_ 4)) 6 (u56_ 5)) 7 (u65_ 5)) 8 (u65_ 6)) v8 f11 f10 f9 f12 f13 f14 hv8 hf10 hf13) (cwV 0 hG (zgV zv1227 zv942 zv943 zv134 zv944) rfl rfl rfl (by decide +kernel) ⟨Nat.le_of_ble_eq_true rfl, Nat.le_of_ble_eq_true rfl⟩) ⟨zPc_blind, va_recv hKc hPc (ci := 8) (q0 := 0) rfl rfl, zPc_pre hPc hKc hDc hE hS hFc hZ⟩ rfl rfl hl.1 rfl (lv_room (Nat.le_of_ble_eq_true rfl)) dX3_turnTo_76 ⟨Nat.le_of_ble_eq_true rfl, Nat.le_of_ble_eq_true rfl⟩) hS (fun q _ h => hFc q h) hFc (fun r76_ u76_ t H1 locs ht hvm hw hB hz1 hk1 hS => ?_)
                  replace hw : ((-2147483648) ≤ (u76_ 4).toInt ∧ (u76_ 4).toInt ≤ 2147483646) ∧ (zNp f9 f10 f11 f12 f13 f14 (v8 8).toInt (v8 9).toInt (v8 10).toInt (v8 11).toInt (u65_ 1).toInt (u65_ 2).toInt (u65_ 3).toInt (u65_ 4).toInt (u76_ 0).toInt (u76_ 1).toInt (u76_ 2).toInt (u76_ 3).toInt (u65_ 5).toInt (u65_ 6).toInt (u76_ 4).toInt (u76_ 5).toInt r76_.toInt) := hw
                  obtain ⟨b_, hX76_0⟩ := hw
                  obtain ⟨w76_, a76_, b76_, hP1, hK1, hD1⟩ := hB
                  rw [ht] at hP1
                  obtain ⟨hP, hD⟩ := va_joinQ (wr := [(h0, .inr (3, mX3 h1 h8 h17 h25 h26 h27 h28 h29 (upd v0 9 (u65_ 7)))), (h29, zi k29 300 (a65_ 1)), (h28, zi k28 832 (a65_ 0)), (h25, .inl (k25, 400, .inr (.inr (.inr (.inr f25))))), (h26, zi k26 400 f26), (h2, .inl (k2, 400, .inr (.inl f2))), (h3, zi k3 400 f3), (h4, zi k4 400 f4), (h1, .inr (10, mX10 h2 h3 h4 h5 h6 h7 v1)), (h15, zi k15 400 f15), (h16, zi k16 400 f16)]) (w1 := [(a48_, .inr (8, mX8 h8 (upd (upd (upd (upd (upd (upd (upd (upd v48_ 1 (u76_ 0)) 2 (u76_ 1)) 3 (u76_ 2)) 4 (u76_ 3)) 5 (u56_ 4)) 6 (u56_ 5)) 7 (u76_ 4)) 8 (u76_ 5)))), (h8, .inr (6, mX6 h9 h10 h11 h12 h13 h14 h15 h16 v8)), (h11, zi k11 833 f11), (h10, zi k10 833 f10), (h9, zi k9 1250 f9), (h12, zi k12 400 f12), (h13, zi k13 400 f13), (h14, zi k14 400 f14)]) hP hD [18, 4, 5, 6, 7, 8, 9, 10] [0, 1, 2, 3, 11, 12, 13, 14, 15, 16, 17] rfl rfl (by decide) (by decide) hk1 hFc hP1 hD1
                  have hP : va_P (dC, dI) vwCl ([(h0, .inr (3, mX3 h1 h8 h17 h25 h26 h27 h28 h29 (upd v0 9 (u65_ 7)))), (h29, zi k29 300 (a65_ 1)), (h28, zi k28 832 (a65_ 0)), (h25, .inl (k25, 400, .inr (.inr (.inr (.inr f25))))), (h8, .inr (6, mX6 h9 h10 h11 h12 h13 h14 h15 h16 v8)), (h11, zi k11 833 f11), (h10, zi k10 833 f10), (h9, zi k9 1250 f9), (h12, zi k12 400 f12), (h13, zi k13 400 f13), (h14, zi k14 400 f14), (h26, zi k26 400 f26), (h2, .inl (k2, 400, .inr (.inl f2))), (h3, zi k3 400 f3), (h4, zi k4 400 f4), (h1, .inr (10, mX10 h2 h3 h4 h5 h6 h7 v1)), (h15, zi k15 400 f15), (h16, zi k16 400 f16), (a48_, .inr (8, mX8 h8 (upd (upd (upd (upd (upd (upd (upd (upd v48_ 1 (u76_ 0)) 2 (u76_ 1)) 3 (u76_ 2)) 4 (u76_ 3)) 5 (u56_ 4)) 6 (u56_ 5)) 7 (u76_ 4)) 8 (u76_ 5))))] ++ (p48 ++ q48)) H1 := hP.part [0, 1, 2, 3, 12, 13, 14, 15, 16, 17, 18, 4, 5, 6, 7, 8, 9, 10, 11] rfl
                  have hD : va_D A ([(h0, .inr (3, mX3 h1 h8 h17 h25 h26 h27 h28 h29 (upd v0 9 (u65_ 7)))), (h29, zi k29 300 (a65_ 1)), (h28, zi k28 832 (a65_ 0)), (h25, .inl (k25, 400, .inr (.inr (.inr (.inr f25))))), (h8, .inr (6, mX6 h9 h10 h11 h12 h13 h14 h15 h16 v8)), (h11, zi k11 833 f11), (h10, zi k10 833 f10), (h9, zi k9 1250 f9), (h12, zi k12 400 f12), (h13, zi k13 400 f13), (h14, zi k14 400 f14), (h26, zi k26 400 f26), (h2, .inl (k2, 400, .inr (.inl f2))), (h3, zi k3 400 f3), (h4, zi k4 400 f4), (h1, .inr (10, mX10 h2 h3 h4 h5 h6 h7 v1)), (h15, zi k15 400 f15), (h16, zi k16 400 f16), (a48_, .inr (8, mX8 h8 (upd (upd (upd (upd (upd (upd (upd (upd v48_ 1 (u76_ 0)) 2 (u76_ 1)) 3 (u76_ 2)) 4 (u76_ 3)) 5 (u56_ 4)) 6 (u56_ 5)) 7 (u76_ 4)) 8 (u76_ 5))))] ++ (p48 ++ q48)) := hD.part [0, 1, 2, 3, 12, 13, 14, 15, 16, 17, 18, 4, 5, 6, 7, 8, 9, 10, 11] (by decide) rfl
                  generalize H1 = H at hP hS ⊢
                  clear hz1
                  refine lv_aload_n hx hb dX3_turnTo_79 rfl (lv_at hl 0 rfl) ?_
                  refine va_get (D := (dC, dI)) (ci := 3) (v := .ref h26) (C := RX3) (T := TX3) (N := 10) hx hb hG zuX3 hown hK hP 0 rfl rfl 4 (by decide) (hG _ zv477) (fun _ h9 => h9) rfl dX3_turnTo_80 ?_
                  refine lv_iload_n hx hb dX3_turnTo_83 rfl (lv_at hl 2 rfl) ?_
                  refine va_iald hx hb hK hP 11 9 rfl rfl (zin_lit ⟨by omega, by omega⟩) dX3_turnTo_84 ?_
                  refine lv_topi (fun z84 e_z84 => ?_)
                  have b_ : 0 ≤ z84.toInt ∧ z84.toInt ≤ 399 := by rw [e_z84]; exact hf26 _
                  have hPc := hP.sub (ws' := [(h0, .inr (3, mX3 h1 h8 h17 h25 h26 h27 h28 h29 (upd v0 9 (u65_ 7)))), (h28, zi k28 832 (a65_ 0)), (h29, zi k29 300 (a65_ 1))]) [0, 2, 1] rfl
                  have hDc := hD.sub (ws' := [(h0, .inr (3, mX3 h1 h8 h17 h25 h26 h27 h28 h29 (upd v0 9 (u65_ 7)))), (h28, zi k28 832 (a65_ 0)), (h29, zi k29 300 (a65_ 1))]) [0, 2, 1] (by decide) rfl
                  have hKc := hK.sub (tys' := [(k28, .int), (k29, .int)]) [1, 0] rfl
                  have hFc := va_free (wc := [(h0, .inr (3, mX3 h1 h8 h17 h25 h26 h27 h28 h29 (upd v0 9 (u65_ 7)))), (h28, zi k28 832 (a65_ 0)), (h29, zi k29 300 (a65_ 1))]) hD hS hA [0, 2, 1] rfl
                  refine va_callv (va_runV (As := [.int r76_, .int z84]) (rest := []) ⟨hx, hb, hml, hown, hG⟩ (sX3_see_0 l dC dI adK adV h0 h28 h29 h1 h8 h17 h25 h26 h27 k28 k29 H.size (upd v0 9 (u65_ 7)) (a65_ 0) (a65_ 1) r76_ z84 (zR_up2 hv0 9 (show (0 : Int) ≤ ((u65_ 7) : Int32).toInt ∧ ((u65_ 7) : Int32).toInt ≤ (300 : Int) from (by first | with_reducible assumption | exact ⟨by omega, by omega⟩))) ha65_1) (cwV 2 hG (zgV zv1228 zv1230 zv34 zv140 zv1231) rfl rfl rfl (by decide +kernel) ⟨Nat.le_of_ble_eq_true rfl, Nat.le_of_ble_eq_true rfl⟩) ⟨zPc_blind, va_recv hKc hPc (ci := 3) (q0 := 0) rfl rfl, zPc_pre hPc hKc hDc hE hS hFc hZ⟩ rfl rfl hl.1 rfl (lv_room (Nat.le_of_ble_eq_true rfl)) dX3_turnTo_85 ⟨Nat.le_of_ble_eq_true rfl, Nat.le_of_ble_eq_true rfl⟩) hS (fun q _ h => hFc q h) hFc (fun u85_ t H1 locs ht hvm hw hB hz1 hk1 hS => ?_)
                  replace hw : (0 ≤ (u85_ 0).toInt ∧ (u85_ 0).toInt ≤ 300) := hw
                  have b_ := hw
                  obtain ⟨w85_, a85_, b85_, ha85_1, hB85_0, hP1, hK1, hD1⟩ := hB
                  have hB85_0 : zSee (a65_ 0) (a65_ 1) ((u65_ 7) : Int32) (r76_ : Int32) (z84 : Int32) (a85_ 0) (a85_ 1) (u85_ 0).toInt := hB85_0
                  rw [ht] at hP1
                  obtain ⟨hP, hD⟩ := va_joinQ (wr := [(h25, .inl (k25, 400, .inr (.inr (.inr (.inr f25))))), (h8, .inr (6, mX6 h9 h10 h11 h12 h13 h14 h15 h16 v8)), (h11, zi k11 833 f11), (h10, zi k10 833 f10), (h9, zi k9 1250 f9), (h12, zi k12 400 f12), (h13, zi k13 400 f13), (h14, zi k14 400 f14), (h26, zi k26 400 f26), (h2, .inl (k2, 400, .inr (.inl f2))), (h3, zi k3 400 f3), (h4, zi k4 400 f4), (h1, .inr (10, mX10 h2 h3 h4 h5 h6 h7 v1)), (h15, zi k15 400 f15), (h16, zi k16 400 f16), (a48_, .inr (8, mX8 h8 (upd (upd (upd (upd (upd (upd (upd (upd v48_ 1 (u76_ 0)) 2 (u76_ 1)) 3 (u76_ 2)) 4 (u76_ 3)) 5 (u56_ 4)) 6 (u56_ 5)) 7 (u76_ 4)) 8 (u76_ 5))))]) (w1 := [(h0, .inr (3, mX3 h1 h8 h17 h25 h26 h27 h28 h29 (upd v0 9 (u85_ 0)))), (h28, zi k28 832 (a85_ 0)), (h29, zi k29 300 (a85_ 1))]) hP hD [0, 2, 1] [3, 4, 5, 6, 7, 8, 9, 10, 11, 12, 13, 14, 15, 16, 17, 18] rfl rfl (by decide) (by decide) hk1 hFc hP1 hD1
                  have hP : va_P (dC, dI) vwCl ([(h0, .inr (3, mX3 h1 h8 h17 h25 h26 h27 h28 h29 (upd v0 9 (u85_ 0)))), (h29, zi k29 300 (a85_ 1)), (h28, zi k28 832 (a85_ 0)), (h25, .inl (k25, 400, .inr (.inr (.inr (.inr f25))))), (h8, .inr (6, mX6 h9 h10 h11 h12 h13 h14 h15 h16 v8)), (h11, zi k11 833 f11), (h10, zi k10 833 f10), (h9, zi k9 1250 f9), (h12, zi k12 400 f12), (h13, zi k13 400 f13), (h14, zi k14 400 f14), (h26, zi k26 400 f26), (h2, .inl (k2, 400, .inr (.inl f2))), (h3, zi k3 400 f3), (h4, zi k4 400 f4), (h1, .inr (10, mX10 h2 h3 h4 h5 h6 h7 v1)), (h15, zi k15 400 f15), (h16, zi k16 400 f16), (a48_, .inr (8, mX8 h8 (upd (upd (upd (upd (upd (upd (upd (upd v48_ 1 (u76_ 0)) 2 (u76_ 1)) 3 (u76_ 2)) 4 (u76_ 3)) 5 (u56_ 4)) 6 (u56_ 5)) 7 (u76_ 4)) 8 (u76_ 5))))] ++ (p48 ++ q48)) H1 := hP.part [16, 18, 17, 0, 1, 2, 3, 4, 5, 6, 7, 8, 9, 10, 11, 12, 13, 14, 15] rfl
                  have hD : va_D A ([(h0, .inr (3, mX3 h1 h8 h17 h25 h26 h27 h28 h29 (upd v0 9 (u85_ 0)))), (h29, zi k29 300 (a85_ 1)), (h28, zi k28 832 (a85_ 0)), (h25, .inl (k25, 400, .inr (.inr (.inr (.inr f25))))), (h8, .inr (6, mX6 h9 h10 h11 h12 h13 h14 h15 h16 v8)), (h11, zi k11 833 f11), (h10, zi k10 833 f10), (h9, zi k9 1250 f9), (h12, zi k12 400 f12), (h13, zi k13 400 f13), (h14, zi k14 400 f14), (h26, zi k26 400 f26), (h2, .inl (k2, 400, .inr (.inl f2))), (h3, zi k3 400 f3), (h4, zi k4 400 f4), (h1, .inr (10, mX10 h2 h3 h4 h5 h6 h7 v1)), (h15, zi k15 400 f15), (h16, zi k16 400 f16), (a48_, .inr (8, mX8 h8 (upd (upd (upd (upd (upd (upd (upd (upd v48_ 1 (u76_ 0)) 2 (u76_ 1)) 3 (u76_ 2)) 4 (u76_ 3)) 5 (u56_ 4)) 6 (u56_ 5)) 7 (u76_ 4)) 8 (u76_ 5))))] ++ (p48 ++ q48)) := hD.part [16, 18, 17, 0, 1, 2, 3, 4, 5, 6, 7, 8, 9, 10, 11, 12, 13, 14, 15] (by decide) rfl
                  generalize H1 = H at hP hS ⊢
                  clear hz1
                  obtain ⟨z88, e_z88⟩ : ∃ z : Int32, z = (u65_ 0) + Int32.ofInt 1 := ⟨_, rfl⟩
                  have b_ := zadd (x := (u65_ 0)) (y := Int32.ofInt 1) rfl (show (Int32.ofInt 1).toInt = 1 from by decide) e_z88 (by omega) (by omega)
                  refine lv_iinc (v := z88) (lv' := [(4, .int z88), (0, .ref h0), (1, .int x1), (2, .int (u35_ 0)), (3, .ref a48_)]) hx hb dX3_turnTo_88 hl (k := 4) rfl e_z88.symm (by decide) rfl (fun ls hl => ?_)
                  have htw9 : zTwn h8 f25 pl0 (p48 ++ q48) f2 f3 f4 (v1 7).toInt f9 f10 f11 f12 f13 f14 (v8 8).toInt (v8 9).toInt (v8 10).toInt (v8 11).toInt f15 f16 f26 (v0 8).toInt f28 f29 (v0 9).toInt (a85_ 0) (a85_ 1) (u85_ 0).toInt x1.toInt (u35_ 0).toInt (u76_ 0).toInt (u76_ 1).toInt (u76_ 2).toInt (u76_ 3).toInt (u56_ 4).toInt (u56_ 5).toInt (u76_ 4).toInt (u76_ 5).toInt z88.toInt := zTwn_s hI65_0 (by omega) (by omega) (by omega) hX76_0 (by rw [← e_z84]; exact hB85_0) (by omega)
                  refine lv_goto (tgt := 65) hx hb dX3_turnTo_91 (by decide) ?_
                  have hc : va_P (dC, dI) vwCl ([(h0, .inr (3, mX3 h1 h8 h17 h25 h26 h27 h28 h29 (upd v0 9 (u85_ 0)))), (h29, zi k29 300 (a85_ 1)), (h28, zi k28 832 (a85_ 0)), (h25, .inl (k25, 400, .inr (.inr (.inr (.inr f25))))), (h8, .inr (6, mX6 h9 h10 h11 h12 h13 h14 h15 h16 v8)), (h11, zi k11 833 f11), (h10, zi k10 833 f10), (h9, zi k9 1250 f9), (h12, zi k12 400 f12), (h13, zi k13 400 f13), (h14, zi k14 400 f14), (h26, zi k26 400 f26), (h2, .inl (k2, 400, .inr (.inl f2))), (h3, zi k3 400 f3), (h4, zi k4 400 f4), (h1, .inr (10, mX10 h2 h3 h4 h5 h6 h7 v1)), (h15, zi k15 400 f15), (h16, zi k16 400 f16), (a48_, .inr (8, mX8 h8 (upd (upd (upd (upd (upd (upd (upd (upd v48_ 1 (u76_ 0)) 2 (u76_ 1)) 3 (u76_ 2)) 4 (u76_ 3)) 5 (u56_ 4)) 6 (u56_ 5)) 7 (u76_ 4)) 8 (u76_ 5))))] ++ (p48 ++ q48)) H ∧ va_D A ([(h0, .inr (3, mX3 h1 h8 h17 h25 h26 h27 h28 h29 (upd v0 9 (u85_ 0)))), (h29, zi k29 300 (a85_ 1)), (h28, zi k28 832 (a85_ 0)), (h25, .inl (k25, 400, .inr (.inr (.inr (.inr f25))))), (h8, .inr (6, mX6 h9 h10 h11 h12 h13 h14 h15 h16 v8)), (h11, zi k11 833 f11), (h10, zi k10 833 f10), (h9, zi k9 1250 f9), (h12, zi k12 400 f12), (h13, zi k13 400 f13), (h14, zi k14 400 f14), (h26, zi k26 400 f26), (h2, .inl (k2, 400, .inr (.inl f2))), (h3, zi k3 400 f3), (h4, zi k4 400 f4), (h1, .inr (10, mX10 h2 h3 h4 h5 h6 h7 v1)), (h15, zi k15 400 f15), (h16, zi k16 400 f16), (a48_, .inr (8, mX8 h8 (upd (upd (upd (upd (upd (upd (upd (upd v48_ 1 (u76_ 0)) 2 (u76_ 1)) 3 (u76_ 2)) 4 (u76_ 3)) 5 (u56_ 4)) 6 (u56_ 5)) 7 (u76_ 4)) 8 (u76_ 5))))] ++ (p48 ++ q48)) ∧ va_S A s.heap H locs ∧ lv_has ls 5 [(0, .ref h0), (1, .int x1), (2, .int (u35_ 0)), (3, .ref a48_), (4, .int z88)] ∧ zA 0 831 (a85_ 1) ∧ (0 ≤ z88.toInt ∧ z88.toInt ≤ 2147483647) ∧ (0 ≤ (u85_ 0).toInt ∧ (u85_ 0).toInt ≤ 300) ∧ (zTwn h8 f25 pl0 (p48 ++ q48) f2 f3 f4 (v1 7).toInt f9 f10 f11 f12 f13 f14 (v8 8).toInt (v8 9).toInt (v8 10).toInt (v8 11).toInt f15 f16 f26 (v0 8).toInt f28 f29 (v0 9).toInt (a85_ 0) (a85_ 1) (u85_ 0).toInt x1.toInt (u35_ 0).toInt (u76_ 0).toInt (u76_ 1).toInt (u76_ 2).toInt (u76_ 3).toInt (u56_ 4).toInt (u56_ 5).toInt (u76_ 4).toInt (u76_ 5).toInt z88.toInt) ∧ (0 ≤ z88.toInt) := ⟨hP, hD, hS, lv_sub hl [1, 2, 3, 4, 0] rfl, ha85_1, (by first | with_reducible assumption | exact ⟨by omega, by omega⟩), (by first | with_reducible assumption | exact ⟨by omega, by omega⟩), by first | exact htw9 | exact zTwn_0 hI35_0 (by omega) (by omega) e_o48.symm hD0_ e_pl48 hX56_0 (by omega) (by decide), by omega⟩
                  exact hJ65 H locs ls (fun i => ([z88, (u76_ 0), (u76_ 1), (u76_ 2), (u76_ 3), (u76_ 4), (u76_ 5), (u85_ 0)] : List (Int32)).getD i 0) (fun _ => 0) (fun i => ([(a85_ 0), (a85_ 1)] : List (Nat → Int32)).getD i (fun _ => 0)) (fun _ => (fun _ => 0)) ⟨(fun _ => (fun _ => none)), (p48 ++ q48), hc⟩ (show (2147483647 - z88.toInt).toNat < (2147483647 - (u65_ 0).toInt).toNat from by omega)
              · skip
                have hc : va_P (dC, dI) vwCl ([(h0, .inr (3, mX3 h1 h8 h17 h25 h26 h27 h28 h29 (upd v0 9 (u35_ 1)))), (h29, zi k29 300 (a35_ 1)), (h28, zi k28 832 (a35_ 0)), (h25, .inl (k25, 400, .inr (.inr (.inr (.inr f25))))), (h8, .inr (6, mX6 h9 h10 h11 h12 h13 h14 h15 h16 v8)), (h11, zi k11 833 f11), (h10, zi k10 833 f10), (h9, zi k9 1250 f9), (h12, zi k12 400 f12), (h13, zi k13 400 f13), (h14, zi k14 400 f14), (h26, zi k26 400 f26), (h2, .inl (k2, 400, .inr (.inl f2))), (h3, zi k3 400 f3), (h4, zi k4 400 f4), (h1, .inr (10, mX10 h2 h3 h4 h5 h6 h7 v1)), (h15, zi k15 400 f15), (h16, zi k16 400 f16), (a48_, .inr (8, mX8 h8 (upd (upd (upd (upd (upd (upd (upd (upd v48_ 1 (u56_ 0)) 2 (u56_ 1)) 3 (u56_ 2)) 4 (u56_ 3)) 5 (u56_ 4)) 6 (u56_ 5)) 7 (u56_ 6)) 8 (u56_ 7))))] ++ (p48 ++ q48)) H ∧ va_D A ([(h0, .inr (3, mX3 h1 h8 h17 h25 h26 h27 h28 h29 (upd v0 9 (u35_ 1)))), (h29, zi k29 300 (a35_ 1)), (h28, zi k28 832 (a35_ 0)), (h25, .inl (k25, 400, .inr (.inr (.inr (.inr f25))))), (h8, .inr (6, mX6 h9 h10 h11 h12 h13 h14 h15 h16 v8)), (h11, zi k11 833 f11), (h10, zi k10 833 f10), (h9, zi k9 1250 f9), (h12, zi k12 400 f12), (h13, zi k13 400 f13), (h14, zi k14 400 f14), (h26, zi k26 400 f26), (h2, .inl (k2, 400, .inr (.inl f2))), (h3, zi k3 400 f3), (h4, zi k4 400 f4), (h1, .inr (10, mX10 h2 h3 h4 h5 h6 h7 v1)), (h15, zi k15 400 f15), (h16, zi k16 400 f16), (a48_, .inr (8, mX8 h8 (upd (upd (upd (upd (upd (upd (upd (upd v48_ 1 (u56_ 0)) 2 (u56_ 1)) 3 (u56_ 2)) 4 (u56_ 3)) 5 (u56_ 4)) 6 (u56_ 5)) 7 (u56_ 6)) 8 (u56_ 7))))] ++ (p48 ++ q48)) ∧ va_S A s.heap H locs ∧ lv_has ls 5 [(0, .ref h0), (1, .int x1), (2, .int (u35_ 0)), (3, .ref a48_), (4, .int 0)] ∧ zA 0 831 (a35_ 1) ∧ (0 ≤ (0 : Int32).toInt ∧ (0 : Int32).toInt ≤ 2147483647) ∧ (0 ≤ (u35_ 1).toInt ∧ (u35_ 1).toInt ≤ 300) ∧ (zTwn h8 f25 pl0 (p48 ++ q48) f2 f3 f4 (v1 7).toInt f9 f10 f11 f12 f13 f14 (v8 8).toInt (v8 9).toInt (v8 10).toInt (v8 11).toInt f15 f16 f26 (v0 8).toInt f28 f29 (v0 9).toInt (a35_ 0) (a35_ 1) (u35_ 1).toInt x1.toInt (u35_ 0).toInt (u56_ 0).toInt (u56_ 1).toInt (u56_ 2).toInt (u56_ 3).toInt (u56_ 4).toInt (u56_ 5).toInt (u56_ 6).toInt (u56_ 7).toInt (0 : Int32).toInt) ∧ (0 ≤ (0 : Int32).toInt) := ⟨hP, hD, hS, lv_sub hl [2, 3, 4, 1, 0] rfl, ha35_1, (by first | with_reducible assumption | exact ⟨by omega, by omega⟩), (by first | with_reducible assumption | exact ⟨by omega, by omega⟩), by first | exact htw9 | exact zTwn_0 hI35_0 (by omega) (by omega) e_o48.symm hD0_ e_pl48 hX56_0 (by omega) (by decide), by omega⟩
                exact hJ65 H locs ls (fun i => ([0, (u56_ 0), (u56_ 1), (u56_ 2), (u56_ 3), (u56_ 6), (u56_ 7), (u35_ 1)] : List (Int32)).getD i 0) (fun _ => 0) (fun i => ([(a35_ 0), (a35_ 1)] : List (Nat → Int32)).getD i (fun _ => 0)) (fun _ => (fun _ => 0)) ⟨(fun _ => (fun _ => none)), (p48 ++ q48), hc⟩
      · skip
        have hc : va_P (dC, dI) vwCl ([(h0, .inr (3, mX3 h1 h8 h17 h25 h26 h27 h28 h29 (upd v0 9 0))), (h29, zi k29 300 f29), (h28, zi k28 832 (a2_ 0)), (h25, .inl (k25, 400, .inr (.inr (.inr (.inr f25))))), (h8, .inr (6, mX6 h9 h10 h11 h12 h13 h14 h15 h16 v8)), (h11, zi k11 833 f11), (h10, zi k10 833 f10), (h9, zi k9 1250 f9), (h12, zi k12 400 f12), (h13, zi k13 400 f13), (h14, zi k14 400 f14), (h26, zi k26 400 f26), (h2, .inl (k2, 400, .inr (.inl f2))), (h3, zi k3 400 f3), (h4, zi k4 400 f4), (h1, .inr (10, mX10 h2 h3 h4 h5 h6 h7 v1)), (h15, zi k15 400 f15), (h16, zi k16 400 f16)] ++ pl2) H ∧ va_D A ([(h0, .inr (3, mX3 h1 h8 h17 h25 h26 h27 h28 h29 (upd v0 9 0))), (h29, zi k29 300 f29), (h28, zi k28 832 (a2_ 0)), (h25, .inl (k25, 400, .inr (.inr (.inr (.inr f25))))), (h8, .inr (6, mX6 h9 h10 h11 h12 h13 h14 h15 h16 v8)), (h11, zi k11 833 f11), (h10, zi k10 833 f10), (h9, zi k9 1250 f9), (h12, zi k12 400 f12), (h13, zi k13 400 f13), (h14, zi k14 400 f14), (h26, zi k26 400 f26), (h2, .inl (k2, 400, .inr (.inl f2))), (h3, zi k3 400 f3), (h4, zi k4 400 f4), (h1, .inr (10, mX10 h2 h3 h4 h5 h6 h7 v1)), (h15, zi k15 400 f15), (h16, zi k16 400 f16)] ++ pl2) ∧ va_S A s.heap H locs ∧ lv_has ls 5 [(0, .ref h0), (1, .int x1), (2, .int 0)] ∧ zA 0 831 f29 ∧ (0 ≤ (0 : Int32).toInt ∧ (0 : Int32).toInt ≤ 400) ∧ (0 ≤ (0 : Int32).toInt ∧ (0 : Int32).toInt ≤ 300) ∧ (zTu h8 f25 pl0 pl2 f2 f3 f4 (v1 7).toInt f9 f10 f11 f12 f13 f14 (v8 8).toInt (v8 9).toInt (v8 10).toInt (v8 11).toInt f15 f16 f26 (v0 8).toInt f28 f29 (v0 9).toInt (a2_ 0) f29 (0 : Int32).toInt x1.toInt (0 : Int32).toInt) ∧ (0 ≤ (0 : Int32).toInt) ∧ ((0 : Int32).toInt ≤ (v0 8).toInt) ∧ (zRd h8 f25 pl2) ∧ (zKp h8 pl0 pl2) := ⟨hP, hD, hS, lv_sub hl [1, 2, 0] rfl, hf29, (by first | with_reducible assumption | exact ⟨by omega, by omega⟩), (by first | with_reducible assumption | exact ⟨by omega, by omega⟩), by first | (rw [e_plx_]; exact htu9) | exact htu9 | (rw [hI2_1]; exact zTu_0 hI2_0 (by omega) (by decide) (by decide)), by omega, by omega, by assumption, by first | assumption | exact zKp_rf⟩
        exact hJ35 H locs ls (fun i => ([0, 0] : List (Int32)).getD i 0) (fun _ => 0) (fun i => ([(a2_ 0), f29] : List (Nat → Int32)).getD i (fun _ => 0)) (fun _ => (fun _ => 0)) ⟨(fun _ => (fun _ => none)), pl2, hc⟩
    · skip
      have b_ := zF_ge rfl rfl c_
      refine lv_aload_n hx hb dX3_turnTo_10 rfl (lv_at hl 0 rfl) ?_
      refine va_get (D := (dC, dI)) (ci := 3) (v := .ref h28) (C := RX3) (T := TX3) (N := 10) hx hb hG zuX3 hown hK hP 0 rfl rfl 6 (by decide) (hG _ zv479) (fun _ h9 => h9) rfl dX3_turnTo_11 ?_
      refine lv_aload_n hx hb dX3_turnTo_14 rfl (lv_at hl 0 rfl) ?_
      refine va_get (D := (dC, dI)) (ci := 3) (v := .ref h29) (C := RX3) (T := TX3) (N := 10) hx hb hG zuX3 hown hK hP 0 rfl rfl 7 (by decide) (hG _ zv480) (fun _ h9 => h9) rfl dX3_turnTo_15 ?_
      refine lv_iload_n hx hb dX3_turnTo_18 rfl (lv_at hl 2 rfl) ?_
      refine va_iald hx hb hK hP 1 0 rfl rfl (zin_lit ⟨by omega, by omega⟩) dX3_turnTo_19 ?_
      refine lv_topi (fun z19 e_z19 => ?_)
      have b_ : 0 ≤ z19.toInt ∧ z19.toInt ≤ 831 := by rw [e_z19]; exact hf29 _
      refine lv_iconst (v := (-1)) hx hb dX3_turnTo_20 (by decide) ?_
      refine va_iast hx hb hK hP hD hS 2 1 rfl rfl (zin_lit ⟨by omega, by omega⟩) dX3_turnTo_21 (fun H locs hP hD hS => ?_)
      obtain ⟨f_21, e_f_21⟩ : ∃ z : Nat → Int32, z = upd (a2_ 0) (z19 : Int32).toNatClampNeg (-1) := ⟨_, rfl⟩
      have hP : va_P (dC, dI) vwCl ([(h0, .inr (3, mX3 h1 h8 h17 h25 h26 h27 h28 h29 v0)), (h29, zi k29 300 f29), (h28, zi k28 832 f_21), (h25, .inl (k25, 400, .inr (.inr (.inr (.inr f25))))), (h8, .inr (6, mX6 h9 h10 h11 h12 h13 h14 h15 h16 v8)), (h11, zi k11 833 f11), (h10, zi k10 833 f10), (h9, zi k9 1250 f9), (h12, zi k12 400 f12), (h13, zi k13 400 f13), (h14, zi k14 400 f14), (h26, zi k26 400 f26), (h2, .inl (k2, 400, .inr (.inl f2))), (h3, zi k3 400 f3), (h4, zi k4 400 f4), (h1, .inr (10, mX10 h2 h3 h4 h5 h6 h7 v1)), (h15, zi k15 400 f15), (h16, zi k16 400 f16)] ++ pl2) H := by rw [e_f_21]; exact hP
      have hD : va_D A ([(h0, .inr (3, mX3 h1 h8 h17 h25 h26 h27 h28 h29 v0)), (h29, zi k29 300 f29), (h28, zi k28 832 f_21), (h25, .inl (k25, 400, .inr (.inr (.inr (.inr f25))))), (h8, .inr (6, mX6 h9 h10 h11 h12 h13 h14 h15 h16 v8)), (h11, zi k11 833 f11), (h10, zi k10 833 f10), (h9, zi k9 1250 f9), (h12, zi k12 400 f12), (h13, zi k13 400 f13), (h14, zi k14 400 f14), (h26, zi k26 400 f26), (h2, .inl (k2, 400, .inr (.inl f2))), (h3, zi k3 400 f3), (h4, zi k4 400 f4), (h1, .inr (10, mX10 h2 h3 h4 h5 h6 h7 v1)), (h15, zi k15 400 f15), (h16, zi k16 400 f16)] ++ pl2) := by rw [e_f_21]; exact hD
      obtain ⟨z22, e_z22⟩ : ∃ z : Int32, z = (u2_ 0) + Int32.ofInt 1 := ⟨_, rfl⟩
      have b_ := zadd (x := (u2_ 0)) (y := Int32.ofInt 1) rfl (show (Int32.ofInt 1).toInt = 1 from by decide) e_z22 (by omega) (by omega)
      refine lv_iinc (v := z22) (lv' := [(2, .int z22), (0, .ref h0), (1, .int x1)]) hx hb dX3_turnTo_22 hl (k := 2) rfl e_z22.symm (by decide) rfl (fun ls hl => ?_)
      refine lv_goto (tgt := 2) hx hb dX3_turnTo_25 (by decide) ?_
      have hc : va_P (dC, dI) vwCl ([(h0, .inr (3, mX3 h1 h8 h17 h25 h26 h27 h28 h29 v0)), (h29, zi k29 300 f29), (h28, zi k28 832 f_21), (h25, .inl (k25, 400, .inr (.inr (.inr (.inr f25))))), (h8, .inr (6, mX6 h9 h10 h11 h12 h13 h14 h15 h16 v8)), (h11, zi k11 833 f11), (h10, zi k10 833 f10), (h9, zi k9 1250 f9), (h12, zi k12 400 f12), (h13, zi k13 400 f13), (h14, zi k14 400 f14), (h26, zi k26 400 f26), (h2, .inl (k2, 400, .inr (.inl f2))), (h3, zi k3 400 f3), (h4, zi k4 400 f4), (h1, .inr (10, mX10 h2 h3 h4 h5 h6 h7 v1)), (h15, zi k15 400 f15), (h16, zi k16 400 f16)] ++ pl2) H ∧ va_D A ([(h0, .inr (3, mX3 h1 h8 h17 h25 h26 h27 h28 h29 v0)), (h29, zi k29 300 f29), (h28, zi k28 832 f_21), (h25, .inl (k25, 400, .inr (.inr (.inr (.inr f25))))), (h8, .inr (6, mX6 h9 h10 h11 h12 h13 h14 h15 h16 v8)), (h11, zi k11 833 f11), (h10, zi k10 833 f10), (h9, zi k9 1250 f9), (h12, zi k12 400 f12), (h13, zi k13 400 f13), (h14, zi k14 400 f14), (h26, zi k26 400 f26), (h2, .inl (k2, 400, .inr (.inl f2))), (h3, zi k3 400 f3), (h4, zi k4 400 f4), (h1, .inr (10, mX10 h2 h3 h4 h5 h6 h7 v1)), (h15, zi k15 400 f15), (h16, zi k16 400 f16)] ++ pl2) ∧ va_S A s.heap H locs ∧ lv_has ls 5 [(0, .ref h0), (1, .int x1), (2, .int z22)] ∧ (0 ≤ z22.toInt ∧ z22.toInt ≤ 300) ∧ (zSz f28 f_21 f29 z22.toInt) ∧ (pl2 = pl0) ∧ (0 ≤ z22.toInt) ∧ (zRd h8 f25 pl2) ∧ (zKp h8 pl0 pl2) := ⟨hP, hD, hS, lv_sub hl [1, 2, 0] rfl, (by first | with_reducible assumption | exact ⟨by omega, by omega⟩), by first | exact zSz_s hI2_0 (by omega) e_z19 e_f_21 (by omega) (by omega) | exact zSz_0 (by decide), by first | exact hI2_1 | rfl, by omega, by assumption, by first | assumption | exact zKp_rf⟩
      exact hJ2 H locs ls (fun i => ([z22] : List (Int32)).getD i 0) (fun _ => 0) (fun i => ([f_21] : List (Nat → Int32)).getD i (fun _ => 0)) (fun _ => (fun _ => 0)) ⟨(fun _ => (fun _ => none)), pl2, hc⟩ (show (300 - z22.toInt).toNat < (300 - (u2_ 0).toInt).toNat from by omega)
  · skip
    have hc : va_P (dC, dI) vwCl ([(h0, .inr (3, mX3 h1 h8 h17 h25 h26 h27 h28 h29 v0)), (h29, zi k29 300 f29), (h28, zi k28 832 f28), (h25, .inl (k25, 400, .inr (.inr (.inr (.inr f25))))), (h8, .inr (6, mX6 h9 h10 h11 h12 h13 h14 h15 h16 v8)), (h11, zi k11 833 f11), (h10, zi k10 833 f10), (h9, zi k9 1250 f9), (h12, zi k12 400 f12), (h13, zi k13 400 f13), (h14, zi k14 400 f14), (h26, zi k26 400 f26), (h2, .inl (k2, 400, .inr (.inl f2))), (h3, zi k3 400 f3), (h4, zi k4 400 f4), (h1, .inr (10, mX10 h2 h3 h4 h5 h6 h7 v1)), (h15, zi k15 400 f15), (h16, zi k16 400 f16)] ++ pl0) s.heap ∧ va_D A ([(h0, .inr (3, mX3 h1 h8 h17 h25 h26 h27 h28 h29 v0)), (h29, zi k29 300 f29), (h28, zi k28 832 f28), (h25, .inl (k25, 400, .inr (.inr (.inr (.inr f25))))), (h8, .inr (6, mX6 h9 h10 h11 h12 h13 h14 h15 h16 v8)), (h11, zi k11 833 f11), (h10, zi k10 833 f10), (h9, zi k9 1250 f9), (h12, zi k12 400 f12), (h13, zi k13 400 f13), (h14, zi k14 400 f14), (h26, zi k26 400 f26), (h2, .inl (k2, 400, .inr (.inl f2))), (h3, zi k3 400 f3), (h4, zi k4 400 f4), (h1, .inr (10, mX10 h2 h3 h4 h5 h6 h7 v1)), (h15, zi k15 400 f15), (h16, zi k16 400 f16)] ++ pl0) ∧ va_S A s.heap s.heap [] ∧ lv_has ls 5 [(0, .ref h0), (1, .int x1), (2, .int 0)] ∧ (0 ≤ (0 : Int32).toInt ∧ (0 : Int32).toInt ≤ 300) ∧ (zSz f28 f28 f29 (0 : Int32).toInt) ∧ (pl0 = pl0) ∧ (0 ≤ (0 : Int32).toInt) ∧ (zRd h8 f25 pl0) ∧ (zKp h8 pl0 pl0) := ⟨hP, hD, hS, lv_sub hl [1, 2, 0] rfl, (by first | with_reducible assumption | exact ⟨by omega, by omega⟩), by first | exact zSz_s hI2_0 (by omega) e_z19 e_f_21 (by omega) (by omega) | exact zSz_0 (by decide), by first | exact hI2_1 | rfl, by omega, by assumption, by first | assumption | exact zKp_rf⟩
    exact hJ2 s.heap [] ls (fun i => ([0] : List (Int32)).getD i 0) (fun _ => 0) (fun i => ([f28] : List (Nat → Int32)).getD i (fun _ => 0)) (fun _ => (fun _ => 0)) ⟨(fun _ => (fun _ => none)), pl0, hc⟩
