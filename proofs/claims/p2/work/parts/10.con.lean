set_option maxHeartbeats 8000000 in
set_option maxRecDepth 100000 in
theorem sX6_bitsOfChunk_0 (l : Launch) (dC : Nat → ClassId) (dI : Nat → Nat → Nat) (adK adV : Nat → Nat) (sz : Nat) (x0 : Int32) : Met l yX6_bitsOfChunk (zw yX6_bitsOfChunk cX6_bitsOfChunk 1 (some .int)) { frames := 0, cells := 0, slots := 0, locals := 0 } (zPc dC dI adK adV [.int x0] sz [] []) (va_Qi (fun (r : Int32) (u : Nat → Int32) => (0 ≤ x0.toInt → zBs x0.toInt r.toInt)) (fun (u : Nat → Int32) (t : State) => ∃ (ww : Nat → Int64) (aa : Nat → Nat → Int32) (bb : Nat → Nat → Int64), va_P (dC, dI) vwCl [] t.heap ∧ va_K (dC, dI) vwCl [] t ∧ va_D (va_A [] sz) []) (va_A [] sz)) 0 0 (va_A [] sz) := by
  refine Met.ofW (cc := cX6_bitsOfChunk) (maxL := 1) (ret := (some .int)) (by decide) rfl ?_
  intro p e s m args below meth c s₁ B hml hv
  obtain ⟨rfl, hsz, hP, hK, hD0, hE, hZ⟩ := hv
  have hx := B.exec
  have hb := B.bytes
  have hr := B.returns
  have hG : ∀ w ∈ zG, w.before _ s = true := fun w h => atoms_spec (ws := (zw yX6_bitsOfChunk cX6_bitsOfChunk 1 (some .int))) B.pre w (List.mem_cons_of_mem _ h)
  have hown : s.vm.findClass RX6 = some m.cls := findClass_of_methodNamed B.named
  have hlocks := B.notSynchronized
  subst hsz
  have hD := hD0.self (sz := s.heap.size)
  generalize hAe : va_A [] s.heap.size = A at hD hZ ⊢
  have hA : ∀ q : Nat, s.heap.size ≤ q → A q := fun q h => by rw [← hAe]; exact Or.inr h
  have hS : va_S A s.heap s.heap [] := va_S.rf
  have hl := lv_entry ([.int x0]) (n := 1) (Nat.le_of_ble_eq_true rfl)
  rw [lg_entry_eq]
  generalize (lg_sl ([.int x0]) ++ List.replicate (1 - (lg_sl ([.int x0])).length) Slot.unset).toArray = ls at hl ⊢
  have hl : lv_has ls 1 [(0, .int x0)] := hl
  have b_ := zk_256
  refine lv_iload_n hx hb dX6_bitsOfChunk_0 rfl (lv_at hl 0 rfl) ?_
  refine lv_iconst (v := 3) hx hb dX6_bitsOfChunk_1 (by decide) ?_
  have b_ : -2147483648 ≤ x0.toInt ∧ x0.toInt ≤ 2147483647 := ⟨zlo _, zhi _⟩
  refine lv_icmp_ge (tgt := 12) hx hb dX6_bitsOfChunk_2 (by decide) (fun c_ => ?_) (fun c_ => ?_)
  · skip
    have b_ := zT_ge rfl zk_3 c_
    refine lv_sipush (v := 256) hx hb dX6_bitsOfChunk_12 (by decide) ?_
    refine W.widen (k := 0) (n := 0) (by decide) (by decide) ?_
    have hpost : (0 ≤ x0.toInt → zBs x0.toInt (256 : Int32).toInt) := by intro _; unfold zBs; omega
    have hP9 : va_P (dC, dI) vwCl [] s.heap := hP
    have hD9 : va_D A [] := hD
    exact W.iret (v := 256) hx hb hr (fun t ht hW => ⟨⟨256, (fun _ => 0), rfl, hpost, (fun _ => 0), (fun _ => (fun _ => 0)), (fun _ => (fun _ => 0)), by rw [ht]; exact hP9, va_K.moved hW.alike hK, hD9⟩, hS.F ht⟩) hS.2.2 dX6_bitsOfChunk_15
  · skip
    have b_ := zF_ge rfl zk_3 c_
    refine lv_bipush (v := 32) hx hb dX6_bitsOfChunk_5 (by decide) ?_
    refine lv_iload_n hx hb dX6_bitsOfChunk_7 rfl (lv_at hl 0 rfl) ?_
    refine lv_ishl hx hb dX6_bitsOfChunk_8 ?_
    refine lv_topi (fun z8 e_z8 => ?_)
    have b_ : 0 ≤ x0.toInt → (x0.toInt = 0 ∧ z8.toInt = 32) ∨ (x0.toInt = 1 ∧ z8.toInt = 64) ∨ (x0.toInt = 2 ∧ z8.toInt = 128) ∨ (x0.toInt = 3 ∧ z8.toInt = 256) := fun h => zshl32 e_z8 h (by omega)
    refine lv_goto (tgt := 15) hx hb dX6_bitsOfChunk_9 (by decide) ?_
    refine W.widen (k := 0) (n := 0) (by decide) (by decide) ?_
    have b_ : -2147483648 ≤ z8.toInt ∧ z8.toInt ≤ 2147483647 := ⟨zlo _, zhi _⟩
    have hpost : (0 ≤ x0.toInt → zBs x0.toInt z8.toInt) := by intro _; unfold zBs; omega
    have hP9 : va_P (dC, dI) vwCl [] s.heap := hP
    have hD9 : va_D A [] := hD
    exact W.iret (v := z8) hx hb hr (fun t ht hW => ⟨⟨z8, (fun _ => 0), rfl, hpost, (fun _ => 0), (fun _ => (fun _ => 0)), (fun _ => (fun _ => 0)), by rw [ht]; exact hP9, va_K.moved hW.alike hK, hD9⟩, hS.F ht⟩) hS.2.2 dX6_bitsOfChunk_15
set_option maxHeartbeats 8000000 in
set_option maxRecDepth 100000 in
theorem sX6_chunkBehind_0 (l : Launch) (dC : Nat → ClassId) (dI : Nat → Nat → Nat) (adK adV : Nat → Nat) (h0 : Nat) (h3 : Nat) (h1 : Nat) (h2 : Nat) (h4 : Nat) (h5 : Nat) (h6 : Nat) (h7 : Nat) (h8 : Nat) (k3 : ClassId) (sz : Nat) (v0 : Nat → Int32) (f3 : Nat → Int32) (x1 : Int32) (hv0 : zR rg_Postings v0) : Met l yX6_chunkBehind (zw yX6_chunkBehind cX6_chunkBehind 2 (some .int)) { frames := 0, cells := 0, slots := 0, locals := 0 } (zPc dC dI adK adV [.ref h0, .int x1] sz [(h0, .inr (6, mX6 h1 h2 h3 h4 h5 h6 h7 h8 v0)), (h3, .inl (k3, 833, .inl f3))] [(k3, .int)]) (va_Qi (fun (r : Int32) (u : Nat → Int32) => True) (fun (u : Nat → Int32) (t : State) => ∃ (ww : Nat → Int64) (aa : Nat → Nat → Int32) (bb : Nat → Nat → Int64), va_P (dC, dI) vwCl [(h0, .inr (6, mX6 h1 h2 h3 h4 h5 h6 h7 h8 v0)), (h3, .inl (k3, 833, .inl f3))] t.heap ∧ va_K (dC, dI) vwCl [(k3, .int)] t ∧ va_D (va_A [(h0, .inr (6, mX6 h1 h2 h3 h4 h5 h6 h7 h8 v0)), (h3, .inl (k3, 833, .inl f3))] sz) [(h0, .inr (6, mX6 h1 h2 h3 h4 h5 h6 h7 h8 v0)), (h3, .inl (k3, 833, .inl f3))]) (va_A [(h0, .inr (6, mX6 h1 h2 h3 h4 h5 h6 h7 h8 v0)), (h3, .inl (k3, 833, .inl f3))] sz)) 0 0 (va_A [(h0, .inr (6, mX6 h1 h2 h3 h4 h5 h6 h7 h8 v0)), (h3, .inl (k3, 833, .inl f3))] sz) := by
  refine Met.ofW (cc := cX6_chunkBehind) (maxL := 2) (ret := (some .int)) (by decide) rfl ?_
  intro p e s m args below meth c s₁ B hml hv
  obtain ⟨rfl, hsz, hP, hK, hD0, hE, hZ⟩ := hv
  have hx := B.exec
  have hb := B.bytes
  have hr := B.returns
  have hG : ∀ w ∈ zG, w.before _ s = true := fun w h => atoms_spec (ws := (zw yX6_chunkBehind cX6_chunkBehind 2 (some .int))) B.pre w (List.mem_cons_of_mem _ h)
  have hown : s.vm.findClass RX6 = some m.cls := findClass_of_methodNamed B.named
  have hlocks := B.notSynchronized
  subst hsz
  have hD := hD0.self (sz := s.heap.size)
  generalize hAe : va_A [(h0, .inr (6, mX6 h1 h2 h3 h4 h5 h6 h7 h8 v0)), (h3, .inl (k3, 833, .inl f3))] s.heap.size = A at hD hZ ⊢
  have hA : ∀ q : Nat, s.heap.size ≤ q → A q := fun q h => by rw [← hAe]; exact Or.inr h
  have hS : va_S A s.heap s.heap [] := va_S.rf
  have hl := lv_entry ([.ref h0, .int x1]) (n := 2) (Nat.le_of_ble_eq_true rfl)
  rw [lg_entry_eq]
  generalize (lg_sl ([.ref h0, .int x1]) ++ List.replicate (2 - (lg_sl ([.ref h0, .int x1])).length) Slot.unset).toArray = ls at hl ⊢
  have hl : lv_has ls 2 [(0, .ref h0), (1, .int x1)] := hl
  refine lv_iload_n hx hb dX6_chunkBehind_0 rfl (lv_at hl 1 rfl) ?_
  have b_ : -2147483648 ≤ x1.toInt ∧ x1.toInt ≤ 2147483647 := ⟨zlo _, zhi _⟩
  refine lv_if_lt (tgt := 21) hx hb dX6_chunkBehind_1 (by decide) (fun c_ => ?_) (fun c_ => ?_)
  · skip
    have b_ := zT_lt rfl zk_0 c_
    refine lv_iconst (v := (-1)) hx hb dX6_chunkBehind_21 (by decide) ?_
    refine W.widen (k := 0) (n := 0) (by decide) (by decide) ?_
    have hpost : True := trivial
    have hP9 : va_P (dC, dI) vwCl [(h0, .inr (6, mX6 h1 h2 h3 h4 h5 h6 h7 h8 v0)), (h3, .inl (k3, 833, .inl f3))] s.heap := hP
    have hD9 : va_D A [(h0, .inr (6, mX6 h1 h2 h3 h4 h5 h6 h7 h8 v0)), (h3, .inl (k3, 833, .inl f3))] := hD
    exact W.iret (v := (-1)) hx hb hr (fun t ht hW => ⟨⟨(-1), (fun _ => 0), rfl, hpost, (fun _ => 0), (fun _ => (fun _ => 0)), (fun _ => (fun _ => 0)), by rw [ht]; exact hP9, va_K.moved hW.alike hK, hD9⟩, hS.F ht⟩) hS.2.2 dX6_chunkBehind_22
  · skip
    have b_ := zF_lt rfl zk_0 c_
    refine lv_iload_n hx hb dX6_chunkBehind_4 rfl (lv_at hl 1 rfl) ?_
    refine lv_aload_n hx hb dX6_chunkBehind_5 rfl (lv_at hl 0 rfl) ?_
    have b_ : 0 ≤ (v0 8).toInt ∧ (v0 8).toInt ≤ 833 := hv0 8
    refine va_get (D := (dC, dI)) (ci := 6) (v := .int (v0 8)) (C := RX6) (T := TX6) (N := 12) hx hb hG zuX6 hown hK hP 0 rfl rfl 8 (by decide) (hG _ zw8) (fun _ h9 => h9) rfl dX6_chunkBehind_6 ?_
    refine lv_icmp_ge (tgt := 21) hx hb dX6_chunkBehind_9 (by decide) (fun c_ => ?_) (fun c_ => ?_)
    · skip
      have b_ := zT_ge rfl rfl c_
      refine lv_iconst (v := (-1)) hx hb dX6_chunkBehind_21 (by decide) ?_
      refine W.widen (k := 0) (n := 0) (by decide) (by decide) ?_
      have hpost : True := trivial
      have hP9 : va_P (dC, dI) vwCl [(h0, .inr (6, mX6 h1 h2 h3 h4 h5 h6 h7 h8 v0)), (h3, .inl (k3, 833, .inl f3))] s.heap := hP
      have hD9 : va_D A [(h0, .inr (6, mX6 h1 h2 h3 h4 h5 h6 h7 h8 v0)), (h3, .inl (k3, 833, .inl f3))] := hD
      exact W.iret (v := (-1)) hx hb hr (fun t ht hW => ⟨⟨(-1), (fun _ => 0), rfl, hpost, (fun _ => 0), (fun _ => (fun _ => 0)), (fun _ => (fun _ => 0)), by rw [ht]; exact hP9, va_K.moved hW.alike hK, hD9⟩, hS.F ht⟩) hS.2.2 dX6_chunkBehind_22
    · skip
      have b_ := zF_ge rfl rfl c_
      refine lv_aload_n hx hb dX6_chunkBehind_12 rfl (lv_at hl 0 rfl) ?_
      refine va_get (D := (dC, dI)) (ci := 6) (v := .ref h3) (C := RX6) (T := TX6) (N := 12) hx hb hG zuX6 hown hK hP 0 rfl rfl 2 (by decide) (hG _ zw9) (fun _ h9 => h9) rfl dX6_chunkBehind_13 ?_
      refine lv_iload_n hx hb dX6_chunkBehind_16 rfl (lv_at hl 1 rfl) ?_
      refine va_iald hx hb hK hP 1 0 rfl rfl (zin_lit ⟨by omega, by omega⟩) dX6_chunkBehind_17 ?_
      refine lv_topi (fun z17 e_z17 => ?_)
      refine lv_goto (tgt := 22) hx hb dX6_chunkBehind_18 (by decide) ?_
      refine W.widen (k := 0) (n := 0) (by decide) (by decide) ?_
      have b_ : -2147483648 ≤ z17.toInt ∧ z17.toInt ≤ 2147483647 := ⟨zlo _, zhi _⟩
      have hpost : True := trivial
      have hP9 : va_P (dC, dI) vwCl [(h0, .inr (6, mX6 h1 h2 h3 h4 h5 h6 h7 h8 v0)), (h3, .inl (k3, 833, .inl f3))] s.heap := hP
      have hD9 : va_D A [(h0, .inr (6, mX6 h1 h2 h3 h4 h5 h6 h7 h8 v0)), (h3, .inl (k3, 833, .inl f3))] := hD
      exact W.iret (v := z17) hx hb hr (fun t ht hW => ⟨⟨z17, (fun _ => 0), rfl, hpost, (fun _ => 0), (fun _ => (fun _ => 0)), (fun _ => (fun _ => 0)), by rw [ht]; exact hP9, va_K.moved hW.alike hK, hD9⟩, hS.F ht⟩) hS.2.2 dX6_chunkBehind_22
set_option maxHeartbeats 8000000 in
set_option maxRecDepth 100000 in
theorem sX6_bitInChunk_0 (l : Launch) (dC : Nat → ClassId) (dI : Nat → Nat → Nat) (adK adV : Nat → Nat) (h0 : Nat) (h2 : Nat) (h1 : Nat) (h3 : Nat) (h4 : Nat) (h5 : Nat) (h6 : Nat) (h7 : Nat) (h8 : Nat) (k2 : ClassId) (k1 : ClassId) (sz : Nat) (v0 : Nat → Int32) (f2 : Nat → Int32) (f1 : Nat → Int32) (x1 : Int32) (x2 : Int32) (hv0 : zR rg_Postings v0) (hf2 : zA 0 1250 f2) : Met l yX6_bitInChunk (zw yX6_bitInChunk cX6_bitInChunk 4 (some .int)) { frames := 0, cells := 0, slots := 0, locals := 0 } (zPc dC dI adK adV [.ref h0, .int x1, .int x2] sz [(h0, .inr (6, mX6 h1 h2 h3 h4 h5 h6 h7 h8 v0)), (h2, .inl (k2, 833, .inl f2)), (h1, .inl (k1, 1250, .inl f1))] [(k2, .int), (k1, .int)]) (va_Qi (fun (r : Int32) (u : Nat → Int32) => (0 ≤ r.toInt ∧ r.toInt ≤ 1)) (fun (u : Nat → Int32) (t : State) => ∃ (ww : Nat → Int64) (aa : Nat → Nat → Int32) (bb : Nat → Nat → Int64), va_P (dC, dI) vwCl [(h0, .inr (6, mX6 h1 h2 h3 h4 h5 h6 h7 h8 v0)), (h2, .inl (k2, 833, .inl f2)), (h1, .inl (k1, 1250, .inl f1))] t.heap ∧ va_K (dC, dI) vwCl [(k2, .int), (k1, .int)] t ∧ va_D (va_A [(h0, .inr (6, mX6 h1 h2 h3 h4 h5 h6 h7 h8 v0)), (h2, .inl (k2, 833, .inl f2)), (h1, .inl (k1, 1250, .inl f1))] sz) [(h0, .inr (6, mX6 h1 h2 h3 h4 h5 h6 h7 h8 v0)), (h2, .inl (k2, 833, .inl f2)), (h1, .inl (k1, 1250, .inl f1))]) (va_A [(h0, .inr (6, mX6 h1 h2 h3 h4 h5 h6 h7 h8 v0)), (h2, .inl (k2, 833, .inl f2)), (h1, .inl (k1, 1250, .inl f1))] sz)) 0 0 (va_A [(h0, .inr (6, mX6 h1 h2 h3 h4 h5 h6 h7 h8 v0)), (h2, .inl (k2, 833, .inl f2)), (h1, .inl (k1, 1250, .inl f1))] sz) := by
  refine Met.ofW (cc := cX6_bitInChunk) (maxL := 4) (ret := (some .int)) (by decide) rfl ?_
  intro p e s m args below meth c s₁ B hml hv
  obtain ⟨rfl, hsz, hP, hK, hD0, hE, hZ⟩ := hv
  have hx := B.exec
  have hb := B.bytes
  have hr := B.returns
  have hG : ∀ w ∈ zG, w.before _ s = true := fun w h => atoms_spec (ws := (zw yX6_bitInChunk cX6_bitInChunk 4 (some .int))) B.pre w (List.mem_cons_of_mem _ h)
  have hown : s.vm.findClass RX6 = some m.cls := findClass_of_methodNamed B.named
  have hlocks := B.notSynchronized
  subst hsz
  have hD := hD0.self (sz := s.heap.size)
  generalize hAe : va_A [(h0, .inr (6, mX6 h1 h2 h3 h4 h5 h6 h7 h8 v0)), (h2, .inl (k2, 833, .inl f2)), (h1, .inl (k1, 1250, .inl f1))] s.heap.size = A at hD hZ ⊢
  have hA : ∀ q : Nat, s.heap.size ≤ q → A q := fun q h => by rw [← hAe]; exact Or.inr h
  have hS : va_S A s.heap s.heap [] := va_S.rf
  have hl := lv_entry ([.ref h0, .int x1, .int x2]) (n := 4) (Nat.le_of_ble_eq_true rfl)
  rw [lg_entry_eq]
  generalize (lg_sl ([.ref h0, .int x1, .int x2]) ++ List.replicate (4 - (lg_sl ([.ref h0, .int x1, .int x2])).length) Slot.unset).toArray = ls at hl ⊢
  have hl : lv_has ls 4 [(0, .ref h0), (1, .int x1), (2, .int x2)] := hl
  have b_ := zk_0
  refine lv_iload_n hx hb dX6_bitInChunk_0 rfl (lv_at hl 1 rfl) ?_
  have b_ : -2147483648 ≤ x1.toInt ∧ x1.toInt ≤ 2147483647 := ⟨zlo _, zhi _⟩
  refine lv_if_lt (tgt := 16) hx hb dX6_bitInChunk_1 (by decide) (fun c_ => ?_) (fun c_ => ?_)
  · skip
    have b_ := zT_lt rfl zk_0 c_
    refine lv_iconst (v := 0) hx hb dX6_bitInChunk_16 (by decide) ?_
    refine W.widen (k := 0) (n := 0) (by decide) (by decide) ?_
    have hpost : (0 ≤ (0 : Int32).toInt ∧ (0 : Int32).toInt ≤ 1) := ⟨by omega, by omega⟩
    have hP9 : va_P (dC, dI) vwCl [(h0, .inr (6, mX6 h1 h2 h3 h4 h5 h6 h7 h8 v0)), (h2, .inl (k2, 833, .inl f2)), (h1, .inl (k1, 1250, .inl f1))] s.heap := hP
    have hD9 : va_D A [(h0, .inr (6, mX6 h1 h2 h3 h4 h5 h6 h7 h8 v0)), (h2, .inl (k2, 833, .inl f2)), (h1, .inl (k1, 1250, .inl f1))] := hD
    exact W.iret (v := 0) hx hb hr (fun t ht hW => ⟨⟨0, (fun _ => 0), rfl, hpost, (fun _ => 0), (fun _ => (fun _ => 0)), (fun _ => (fun _ => 0)), by rw [ht]; exact hP9, va_K.moved hW.alike hK, hD9⟩, hS.F ht⟩) hS.2.2 dX6_bitInChunk_17
  · skip
    have b_ := zF_lt rfl zk_0 c_
    refine lv_iload_n hx hb dX6_bitInChunk_4 rfl (lv_at hl 1 rfl) ?_
    refine lv_aload_n hx hb dX6_bitInChunk_5 rfl (lv_at hl 0 rfl) ?_
    have b_ : 0 ≤ (v0 8).toInt ∧ (v0 8).toInt ≤ 833 := hv0 8
    refine va_get (D := (dC, dI)) (ci := 6) (v := .int (v0 8)) (C := RX6) (T := TX6) (N := 12) hx hb hG zuX6 hown hK hP 0 rfl rfl 8 (by decide) (hG _ zw8) (fun _ h9 => h9) rfl dX6_bitInChunk_6 ?_
    refine lv_icmp_ge (tgt := 16) hx hb dX6_bitInChunk_9 (by decide) (fun c_ => ?_) (fun c_ => ?_)
    · skip
      have b_ := zT_ge rfl rfl c_
      refine lv_iconst (v := 0) hx hb dX6_bitInChunk_16 (by decide) ?_
      refine W.widen (k := 0) (n := 0) (by decide) (by decide) ?_
      have hpost : (0 ≤ (0 : Int32).toInt ∧ (0 : Int32).toInt ≤ 1) := ⟨by omega, by omega⟩
      have hP9 : va_P (dC, dI) vwCl [(h0, .inr (6, mX6 h1 h2 h3 h4 h5 h6 h7 h8 v0)), (h2, .inl (k2, 833, .inl f2)), (h1, .inl (k1, 1250, .inl f1))] s.heap := hP
      have hD9 : va_D A [(h0, .inr (6, mX6 h1 h2 h3 h4 h5 h6 h7 h8 v0)), (h2, .inl (k2, 833, .inl f2)), (h1, .inl (k1, 1250, .inl f1))] := hD
      exact W.iret (v := 0) hx hb hr (fun t ht hW => ⟨⟨0, (fun _ => 0), rfl, hpost, (fun _ => 0), (fun _ => (fun _ => 0)), (fun _ => (fun _ => 0)), by rw [ht]; exact hP9, va_K.moved hW.alike hK, hD9⟩, hS.F ht⟩) hS.2.2 dX6_bitInChunk_17
    · skip
      have b_ := zF_ge rfl rfl c_
      refine lv_iload_n hx hb dX6_bitInChunk_12 rfl (lv_at hl 2 rfl) ?_
      have b_ : -2147483648 ≤ x2.toInt ∧ x2.toInt ≤ 2147483647 := ⟨zlo _, zhi _⟩
      refine lv_if_ge (tgt := 18) hx hb dX6_bitInChunk_13 (by decide) (fun c_ => ?_) (fun c_ => ?_)
      · skip
        have b_ := zT_ge rfl zk_0 c_
        refine lv_aload_n hx hb dX6_bitInChunk_18 rfl (lv_at hl 0 rfl) ?_
        refine va_get (D := (dC, dI)) (ci := 6) (v := .ref h2) (C := RX6) (T := TX6) (N := 12) hx hb hG zuX6 hown hK hP 0 rfl rfl 1 (by decide) (hG _ zw10) (fun _ h9 => h9) rfl dX6_bitInChunk_19 ?_
        refine lv_iload_n hx hb dX6_bitInChunk_22 rfl (lv_at hl 1 rfl) ?_
        refine va_iald hx hb hK hP 1 0 rfl rfl (zin_lit ⟨by omega, by omega⟩) dX6_bitInChunk_23 ?_
        refine lv_topi (fun z23 e_z23 => ?_)
        have b_ : 0 ≤ z23.toInt ∧ z23.toInt ≤ 1250 := by rw [e_z23]; exact hf2 _
        refine lv_iload_n hx hb dX6_bitInChunk_24 rfl (lv_at hl 2 rfl) ?_
        refine lv_bipush (v := 32) hx hb dX6_bitInChunk_25 (by decide) ?_
        refine lv_idiv hx hb dX6_bitInChunk_27 (by decide) ?_
        refine lv_topi (fun z27 e_z27 => ?_)
        have b_ := zdiv rfl zk_32 e_z27 (by omega) (by decide)
        refine lv_iadd hx hb dX6_bitInChunk_28 ?_
        refine lv_topi (fun z28 e_z28 => ?_)
        have b_ := zadd rfl rfl e_z28 (by omega) (by omega)
        refine lv_istore_n (lv' := [(3, .int z28), (0, .ref h0), (1, .int x1), (2, .int x2)]) hx hb dX6_bitInChunk_29 rfl hl (by decide) rfl (fun ls hl => ?_)
        refine lv_iload_n hx hb dX6_bitInChunk_30 rfl (lv_at hl 0 rfl) ?_
        refine lv_aload_n hx hb dX6_bitInChunk_31 rfl (lv_at hl 1 rfl) ?_
        refine va_get (D := (dC, dI)) (ci := 6) (v := .ref h1) (C := RX6) (T := TX6) (N := 12) hx hb hG zuX6 hown hK hP 0 rfl rfl 0 (by decide) (hG _ zw11) (fun _ h9 => h9) rfl dX6_bitInChunk_32 ?_
        refine va_alen (v := 1250) hx hb hK hP 2 1 rfl rfl (show Int32.ofNat 1250 = 1250 from by decide +kernel) dX6_bitInChunk_35 ?_
        refine lv_icmp_ge (tgt := 58) hx hb dX6_bitInChunk_36 (by decide) (fun c_ => ?_) (fun c_ => ?_)
        · skip
          have b_ := zT_ge rfl zk_1250 c_
          refine lv_iconst (v := 0) hx hb dX6_bitInChunk_58 (by decide) ?_
          refine W.widen (k := 0) (n := 0) (by decide) (by decide) ?_
          have hpost : (0 ≤ (0 : Int32).toInt ∧ (0 : Int32).toInt ≤ 1) := ⟨by omega, by omega⟩
          have hP9 : va_P (dC, dI) vwCl [(h0, .inr (6, mX6 h1 h2 h3 h4 h5 h6 h7 h8 v0)), (h2, .inl (k2, 833, .inl f2)), (h1, .inl (k1, 1250, .inl f1))] s.heap := hP
          have hD9 : va_D A [(h0, .inr (6, mX6 h1 h2 h3 h4 h5 h6 h7 h8 v0)), (h2, .inl (k2, 833, .inl f2)), (h1, .inl (k1, 1250, .inl f1))] := hD
          exact W.iret (v := 0) hx hb hr (fun t ht hW => ⟨⟨0, (fun _ => 0), rfl, hpost, (fun _ => 0), (fun _ => (fun _ => 0)), (fun _ => (fun _ => 0)), by rw [ht]; exact hP9, va_K.moved hW.alike hK, hD9⟩, hS.F ht⟩) hS.2.2 dX6_bitInChunk_59
        · skip
          have b_ := zF_ge rfl zk_1250 c_
          refine lv_aload_n hx hb dX6_bitInChunk_39 rfl (lv_at hl 1 rfl) ?_
          refine va_get (D := (dC, dI)) (ci := 6) (v := .ref h1) (C := RX6) (T := TX6) (N := 12) hx hb hG zuX6 hown hK hP 0 rfl rfl 0 (by decide) (hG _ zw11) (fun _ h9 => h9) rfl dX6_bitInChunk_40 ?_
          refine lv_iload_n hx hb dX6_bitInChunk_43 rfl (lv_at hl 0 rfl) ?_
          refine va_iald hx hb hK hP 2 1 rfl rfl (zin_lit ⟨by omega, by omega⟩) dX6_bitInChunk_44 ?_
          refine lv_topi (fun z44 e_z44 => ?_)
          refine lv_bipush (v := 31) hx hb dX6_bitInChunk_45 (by decide) ?_
          refine lv_iload_n hx hb dX6_bitInChunk_47 rfl (lv_at hl 3 rfl) ?_
          refine lv_bipush (v := 32) hx hb dX6_bitInChunk_48 (by decide) ?_
          refine lv_irem hx hb dX6_bitInChunk_50 (by decide) ?_
          refine lv_topi (fun z50 e_z50 => ?_)
          have b_ := zrem rfl zk_32 e_z50 (by omega) (by decide)
          refine lv_isub hx hb dX6_bitInChunk_51 ?_
          refine lv_topi (fun z51 e_z51 => ?_)
          have b_ := zsub zk_31 rfl e_z51 (by omega) (by omega)
          have b_ : -2147483648 ≤ z44.toInt ∧ z44.toInt ≤ 2147483647 := ⟨zlo _, zhi _⟩
          refine lv_iushr hx hb dX6_bitInChunk_52 rfl ?_
          refine lv_topi (fun z52 e_z52 => ?_)
          refine lv_iconst (v := 1) hx hb dX6_bitInChunk_53 (by decide) ?_
          have b_ : -2147483648 ≤ z52.toInt ∧ z52.toInt ≤ 2147483647 := ⟨zlo _, zhi _⟩
          refine lv_iand hx hb dX6_bitInChunk_54 ?_
          refine lv_topi (fun z54 e_z54 => ?_)
          have b_ := zand (x := z52) zk_1 e_z54 (by decide)
          refine lv_goto (tgt := 59) hx hb dX6_bitInChunk_55 (by decide) ?_
          refine W.widen (k := 0) (n := 0) (by decide) (by decide) ?_
          have hpost : (0 ≤ z54.toInt ∧ z54.toInt ≤ 1) := ⟨by omega, by omega⟩
          have hP9 : va_P (dC, dI) vwCl [(h0, .inr (6, mX6 h1 h2 h3 h4 h5 h6 h7 h8 v0)), (h2, .inl (k2, 833, .inl f2)), (h1, .inl (k1, 1250, .inl f1))] s.heap := hP
          have hD9 : va_D A [(h0, .inr (6, mX6 h1 h2 h3 h4 h5 h6 h7 h8 v0)), (h2, .inl (k2, 833, .inl f2)), (h1, .inl (k1, 1250, .inl f1))] := hD
          exact W.iret (v := z54) hx hb hr (fun t ht hW => ⟨⟨z54, (fun _ => 0), rfl, hpost, (fun _ => 0), (fun _ => (fun _ => 0)), (fun _ => (fun _ => 0)), by rw [ht]; exact hP9, va_K.moved hW.alike hK, hD9⟩, hS.F ht⟩) hS.2.2 dX6_bitInChunk_59
      · skip
        have b_ := zF_ge rfl zk_0 c_
        refine lv_iconst (v := 0) hx hb dX6_bitInChunk_16 (by decide) ?_
        refine W.widen (k := 0) (n := 0) (by decide) (by decide) ?_
        have hpost : (0 ≤ (0 : Int32).toInt ∧ (0 : Int32).toInt ≤ 1) := ⟨by omega, by omega⟩
        have hP9 : va_P (dC, dI) vwCl [(h0, .inr (6, mX6 h1 h2 h3 h4 h5 h6 h7 h8 v0)), (h2, .inl (k2, 833, .inl f2)), (h1, .inl (k1, 1250, .inl f1))] s.heap := hP
        have hD9 : va_D A [(h0, .inr (6, mX6 h1 h2 h3 h4 h5 h6 h7 h8 v0)), (h2, .inl (k2, 833, .inl f2)), (h1, .inl (k1, 1250, .inl f1))] := hD
        exact W.iret (v := 0) hx hb hr (fun t ht hW => ⟨⟨0, (fun _ => 0), rfl, hpost, (fun _ => 0), (fun _ => (fun _ => 0)), (fun _ => (fun _ => 0)), by rw [ht]; exact hP9, va_K.moved hW.alike hK, hD9⟩, hS.F ht⟩) hS.2.2 dX6_bitInChunk_17
set_option maxHeartbeats 8000000 in
set_option maxRecDepth 100000 in
theorem sX8_oneBit_0 (l : Launch) (dC : Nat → ClassId) (dI : Nat → Nat → Nat) (adK adV : Nat → Nat) (h0 : Nat) (h1 : Nat) (h4 : Nat) (h3 : Nat) (h2 : Nat) (h5 : Nat) (h6 : Nat) (h7 : Nat) (h8 : Nat) (h9 : Nat) (k4 : ClassId) (k3 : ClassId) (k2 : ClassId) (sz : Nat) (v0 : Nat → Int32) (v1 : Nat → Int32) (f4 : Nat → Int32) (f3 : Nat → Int32) (f2 : Nat → Int32) (hv1 : zR rg_Postings v1) (hf3 : zA 0 1250 f3) : Met l yX8_oneBit (zw yX8_oneBit cX8_oneBit 2 (some .int)) { frames := 1, cells := 0, slots := 0, locals := 23 } (zPc dC dI adK adV [.ref h0] sz [(h0, .inr (8, mX8 h1 v0)), (h1, .inr (6, mX6 h2 h3 h4 h5 h6 h7 h8 h9 v1)), (h4, .inl (k4, 833, .inl f4)), (h3, .inl (k3, 833, .inl f3)), (h2, .inl (k2, 1250, .inl f2))] [(k4, .int), (k3, .int), (k2, .int)]) (va_Qi (fun (r : Int32) (u : Nat → Int32) => (0 ≤ r.toInt ∧ r.toInt ≤ 1) ∧ ((-2147483648) ≤ (u 0).toInt ∧ (u 0).toInt ≤ 2147483646)) (fun (u : Nat → Int32) (t : State) => ∃ (ww : Nat → Int64) (aa : Nat → Nat → Int32) (bb : Nat → Nat → Int64), va_P (dC, dI) vwCl [(h0, .inr (8, mX8 h1 (upd (upd (upd (upd v0 1 (u 0)) 2 (u 1)) 3 (u 2)) 4 (u 3)))), (h1, .inr (6, mX6 h2 h3 h4 h5 h6 h7 h8 h9 v1)), (h4, .inl (k4, 833, .inl f4)), (h3, .inl (k3, 833, .inl f3)), (h2, .inl (k2, 1250, .inl f2))] t.heap ∧ va_K (dC, dI) vwCl [(k4, .int), (k3, .int), (k2, .int)] t ∧ va_D (va_A [(h0, .inr (8, mX8 h1 v0)), (h1, .inr (6, mX6 h2 h3 h4 h5 h6 h7 h8 h9 v1)), (h4, .inl (k4, 833, .inl f4)), (h3, .inl (k3, 833, .inl f3)), (h2, .inl (k2, 1250, .inl f2))] sz) [(h0, .inr (8, mX8 h1 (upd (upd (upd (upd v0 1 (u 0)) 2 (u 1)) 3 (u 2)) 4 (u 3)))), (h1, .inr (6, mX6 h2 h3 h4 h5 h6 h7 h8 h9 v1)), (h4, .inl (k4, 833, .inl f4)), (h3, .inl (k3, 833, .inl f3)), (h2, .inl (k2, 1250, .inl f2))]) (va_A [(h0, .inr (8, mX8 h1 v0)), (h1, .inr (6, mX6 h2 h3 h4 h5 h6 h7 h8 h9 v1)), (h4, .inl (k4, 833, .inl f4)), (h3, .inl (k3, 833, .inl f3)), (h2, .inl (k2, 1250, .inl f2))] sz)) 0 0 (va_A [(h0, .inr (8, mX8 h1 v0)), (h1, .inr (6, mX6 h2 h3 h4 h5 h6 h7 h8 h9 v1)), (h4, .inl (k4, 833, .inl f4)), (h3, .inl (k3, 833, .inl f3)), (h2, .inl (k2, 1250, .inl f2))] sz) := by
  refine Met.ofW (cc := cX8_oneBit) (maxL := 2) (ret := (some .int)) (by decide) rfl ?_
  intro p e s m args below meth c s₁ B hml hv
  obtain ⟨rfl, hsz, hP, hK, hD0, hE, hZ⟩ := hv
  have hx := B.exec
  have hb := B.bytes
  have hr := B.returns
  have hG : ∀ w ∈ zG, w.before _ s = true := fun w h => atoms_spec (ws := (zw yX8_oneBit cX8_oneBit 2 (some .int))) B.pre w (List.mem_cons_of_mem _ h)
  have hown : s.vm.findClass RX8 = some m.cls := findClass_of_methodNamed B.named
  have hlocks := B.notSynchronized
  subst hsz
  have hD := hD0.self (sz := s.heap.size)
  generalize hAe : va_A [(h0, .inr (8, mX8 h1 v0)), (h1, .inr (6, mX6 h2 h3 h4 h5 h6 h7 h8 h9 v1)), (h4, .inl (k4, 833, .inl f4)), (h3, .inl (k3, 833, .inl f3)), (h2, .inl (k2, 1250, .inl f2))] s.heap.size = A at hD hZ ⊢
  have hA : ∀ q : Nat, s.heap.size ≤ q → A q := fun q h => by rw [← hAe]; exact Or.inr h
  have hS : va_S A s.heap s.heap [] := va_S.rf
  have hl := lv_entry ([.ref h0]) (n := 2) (Nat.le_of_ble_eq_true rfl)
  rw [lg_entry_eq]
  generalize (lg_sl ([.ref h0]) ++ List.replicate (2 - (lg_sl ([.ref h0])).length) Slot.unset).toArray = ls at hl ⊢
  have hl : lv_has ls 2 [(0, .ref h0)] := hl
  have b_ := zk_0
  refine lv_aload_n hx hb dX8_oneBit_0 rfl (lv_at hl 0 rfl) ?_
  refine va_get (D := (dC, dI)) (ci := 8) (v := .int (v0 1)) (C := RX8) (T := TX8) (N := 9) hx hb hG zuX8 hown hK hP 0 rfl rfl 1 (by decide) (hG _ zw2) (fun _ h9 => h9) rfl dX8_oneBit_1 ?_
  have b_ : -2147483648 ≤ (v0 1).toInt ∧ (v0 1).toInt ≤ 2147483647 := ⟨zlo _, zhi _⟩
  refine lv_if_gt (tgt := 9) hx hb dX8_oneBit_4 (by decide) (fun c_ => ?_) (fun c_ => ?_)
  · skip
    have b_ := zT_gt rfl zk_0 c_
    refine lv_aload_n hx hb dX8_oneBit_9 rfl (lv_at hl 0 rfl) ?_
    refine va_get (D := (dC, dI)) (ci := 8) (v := .int (v0 4)) (C := RX8) (T := TX8) (N := 9) hx hb hG zuX8 hown hK hP 0 rfl rfl 4 (by decide) (hG _ zw4) (fun _ h9 => h9) rfl dX8_oneBit_10 ?_
    refine lv_aload_n hx hb dX8_oneBit_13 rfl (lv_at hl 0 rfl) ?_
    refine va_get (D := (dC, dI)) (ci := 8) (v := .int (v0 3)) (C := RX8) (T := TX8) (N := 9) hx hb hG zuX8 hown hK hP 0 rfl rfl 3 (by decide) (hG _ zw5) (fun _ h9 => h9) rfl dX8_oneBit_14 ?_
    have hPc := hP.sub (ws' := []) [] rfl
    have hDc := hD.sub (ws' := []) [] (by decide) rfl
    have hKc := hK.sub (tys' := []) [] rfl
    have hFc := va_free (wc := []) hD hS hA [] rfl
    refine va_calli (va_runS (As := [.int (v0 3)]) (rest := [.int (v0 4)]) ⟨hx, hb, hml, hown, hG⟩ (sX6_bitsOfChunk_0 l dC dI adK adV s.heap.size (v0 3)) (va_cwS 1 hG (zgS zw12 zw13 zw14 zw15) rfl rfl rfl (by decide +kernel) ⟨Nat.le_of_ble_eq_true rfl, Nat.le_of_ble_eq_true rfl⟩) ⟨zPc_blind, zPc_pre hPc hKc hDc hE hS hFc hZ⟩ rfl rfl hl.1 rfl (lv_room (Nat.le_of_ble_eq_true rfl)) dX8_oneBit_17 ⟨Nat.le_of_ble_eq_true rfl, Nat.le_of_ble_eq_true rfl⟩) hS (fun q _ h => hFc q h) hFc (fun r17_ u17_ t H1 locs ht hvm hw hB hz1 hk1 hS => ?_)
    have hw : (0 ≤ (v0 3).toInt → zBs (v0 3).toInt r17_.toInt) := hw
    have hX17_0 := hw
    obtain ⟨w17_, a17_, b17_, hP1, hK1, hD1⟩ := hB
    rw [ht] at hP1
    obtain ⟨hP, hD⟩ := va_join (wr := [(h0, .inr (8, mX8 h1 v0)), (h1, .inr (6, mX6 h2 h3 h4 h5 h6 h7 h8 h9 v1)), (h4, .inl (k4, 833, .inl f4)), (h3, .inl (k3, 833, .inl f3)), (h2, .inl (k2, 1250, .inl f2))]) (w1 := []) hP hD [] [0, 1, 2, 3, 4] rfl rfl (by decide) (by decide) hk1 hFc hP1 hD1
    have hP : va_P (dC, dI) vwCl [(h0, .inr (8, mX8 h1 v0)), (h1, .inr (6, mX6 h2 h3 h4 h5 h6 h7 h8 h9 v1)), (h4, .inl (k4, 833, .inl f4)), (h3, .inl (k3, 833, .inl f3)), (h2, .inl (k2, 1250, .inl f2))] H1 := hP.sub [0, 1, 2, 3, 4] rfl
    have hD : va_D A [(h0, .inr (8, mX8 h1 v0)), (h1, .inr (6, mX6 h2 h3 h4 h5 h6 h7 h8 h9 v1)), (h4, .inl (k4, 833, .inl f4)), (h3, .inl (k3, 833, .inl f3)), (h2, .inl (k2, 1250, .inl f2))] := hD.sub [0, 1, 2, 3, 4] (by decide) rfl
    generalize H1 = H at hP hS ⊢
    clear hz1
    refine zcutW (fun H locs ls u53_ w53_ a53_ b53_ => va_P (dC, dI) vwCl [(h0, .inr (8, mX8 h1 (upd (upd (upd v0 2 (u53_ 0)) 3 (u53_ 1)) 4 (u53_ 2)))), (h1, .inr (6, mX6 h2 h3 h4 h5 h6 h7 h8 h9 v1)), (h4, .inl (k4, 833, .inl f4)), (h3, .inl (k3, 833, .inl f3)), (h2, .inl (k2, 1250, .inl f2))] H ∧ va_D A [(h0, .inr (8, mX8 h1 (upd (upd (upd v0 2 (u53_ 0)) 3 (u53_ 1)) 4 (u53_ 2)))), (h1, .inr (6, mX6 h2 h3 h4 h5 h6 h7 h8 h9 v1)), (h4, .inl (k4, 833, .inl f4)), (h3, .inl (k3, 833, .inl f3)), (h2, .inl (k2, 1250, .inl f2))] ∧ va_S A s.heap H locs ∧ lv_has ls 2 [(0, .ref h0)]) (fun ls u53_ w53_ => F0 m 53 ls []) 0 0 ?_ (fun hJ53 => ?_)
    · skip
      intro H locs ls u53_ w53_ a53_ b53_ hc
      obtain ⟨hP, hD, hS, hl⟩ := hc
      refine lv_aload_n hx hb dX8_oneBit_53 rfl (lv_at hl 0 rfl) ?_
      refine va_get (D := (dC, dI)) (ci := 8) (v := .ref h1) (C := RX8) (T := TX8) (N := 9) hx hb hG zuX8 hown hK hP 0 rfl rfl 0 (by decide) (hG _ zw6) (fun _ h9 => h9) rfl dX8_oneBit_54 ?_
      refine lv_aload_n hx hb dX8_oneBit_57 rfl (lv_at hl 0 rfl) ?_
      refine va_get (D := (dC, dI)) (ci := 8) (v := .int (u53_ 0)) (C := RX8) (T := TX8) (N := 9) hx hb hG zuX8 hown hK hP 0 rfl rfl 2 (by decide) (hG _ zw7) (fun _ h9 => h9) rfl dX8_oneBit_58 ?_
      refine lv_aload_n hx hb dX8_oneBit_61 rfl (lv_at hl 0 rfl) ?_
      refine va_get (D := (dC, dI)) (ci := 8) (v := .int (u53_ 2)) (C := RX8) (T := TX8) (N := 9) hx hb hG zuX8 hown hK hP 0 rfl rfl 4 (by decide) (hG _ zw4) (fun _ h9 => h9) rfl dX8_oneBit_62 ?_
      have hPc := hP.sub (ws' := [(h1, .inr (6, mX6 h2 h3 h4 h5 h6 h7 h8 h9 v1)), (h3, .inl (k3, 833, .inl f3)), (h2, .inl (k2, 1250, .inl f2))]) [1, 3, 4] rfl
      have hDc := hD.sub (ws' := [(h1, .inr (6, mX6 h2 h3 h4 h5 h6 h7 h8 h9 v1)), (h3, .inl (k3, 833, .inl f3)), (h2, .inl (k2, 1250, .inl f2))]) [1, 3, 4] (by decide) rfl
      have hKc := hK.sub (tys' := [(k3, .int), (k2, .int)]) [1, 2] rfl
      have hFc := va_free (wc := [(h1, .inr (6, mX6 h2 h3 h4 h5 h6 h7 h8 h9 v1)), (h3, .inl (k3, 833, .inl f3)), (h2, .inl (k2, 1250, .inl f2))]) hD hS hA [1, 3, 4] rfl
      refine va_calli (va_runV (As := [.int (u53_ 0), .int (u53_ 2)]) (rest := []) ⟨hx, hb, hml, hown, hG⟩ (sX6_bitInChunk_0 l dC dI adK adV h1 h3 h2 h4 h5 h6 h7 h8 h9 k3 k2 H.size v1 f3 f2 (u53_ 0) (u53_ 2) hv1 hf3) (cwV 2 hG (zgV zw16 zw17 zw18 zw14 zw19) rfl rfl rfl (by decide +kernel) ⟨Nat.le_of_ble_eq_true rfl, Nat.le_of_ble_eq_true rfl⟩) ⟨zPc_blind, va_recv hKc hPc (ci := 6) (q0 := 0) rfl rfl, zPc_pre hPc hKc hDc hE hS hFc hZ⟩ rfl rfl hl.1 rfl (lv_room (Nat.le_of_ble_eq_true rfl)) dX8_oneBit_65 ⟨Nat.le_of_ble_eq_true rfl, Nat.le_of_ble_eq_true rfl⟩) hS (fun q _ h => hFc q h) hFc (fun r65_ u65_ t H1 locs ht hvm hw hB hz1 hk1 hS => ?_)
      have hw : (0 ≤ r65_.toInt ∧ r65_.toInt ≤ 1) := hw
      have b_ := hw
      obtain ⟨w65_, a65_, b65_, hP1, hK1, hD1⟩ := hB
      rw [ht] at hP1
      obtain ⟨hP, hD⟩ := va_join (wr := [(h0, .inr (8, mX8 h1 (upd (upd (upd v0 2 (u53_ 0)) 3 (u53_ 1)) 4 (u53_ 2)))), (h4, .inl (k4, 833, .inl f4))]) (w1 := [(h1, .inr (6, mX6 h2 h3 h4 h5 h6 h7 h8 h9 v1)), (h3, .inl (k3, 833, .inl f3)), (h2, .inl (k2, 1250, .inl f2))]) hP hD [1, 3, 4] [0, 2] rfl rfl (by decide) (by decide) hk1 hFc hP1 hD1
      have hP : va_P (dC, dI) vwCl [(h0, .inr (8, mX8 h1 (upd (upd (upd v0 2 (u53_ 0)) 3 (u53_ 1)) 4 (u53_ 2)))), (h1, .inr (6, mX6 h2 h3 h4 h5 h6 h7 h8 h9 v1)), (h4, .inl (k4, 833, .inl f4)), (h3, .inl (k3, 833, .inl f3)), (h2, .inl (k2, 1250, .inl f2))] H1 := hP.sub [0, 2, 1, 3, 4] rfl
      have hD : va_D A [(h0, .inr (8, mX8 h1 (upd (upd (upd v0 2 (u53_ 0)) 3 (u53_ 1)) 4 (u53_ 2)))), (h1, .inr (6, mX6 h2 h3 h4 h5 h6 h7 h8 h9 v1)), (h4, .inl (k4, 833, .inl f4)), (h3, .inl (k3, 833, .inl f3)), (h2, .inl (k2, 1250, .inl f2))] := hD.sub [0, 2, 1, 3, 4] (by decide) rfl
      generalize H1 = H at hP hS ⊢
      clear hz1
      refine lv_istore_n (lv' := [(1, .int r65_), (0, .ref h0)]) hx hb dX8_oneBit_68 rfl hl (by decide) rfl (fun ls hl => ?_)
      refine lv_aload_n hx hb dX8_oneBit_69 rfl (lv_at hl 1 rfl) ?_
      refine lv_dup hx hb dX8_oneBit_70 rfl ?_
      refine va_get (D := (dC, dI)) (ci := 8) (v := .int (u53_ 2)) (C := RX8) (T := TX8) (N := 9) hx hb hG zuX8 hown hK hP 0 rfl rfl 4 (by decide) (hG _ zw4) (fun _ h9 => h9) rfl dX8_oneBit_71 ?_
      refine lv_iconst (v := 1) hx hb dX8_oneBit_74 (by decide) ?_
      have b_ : -2147483648 ≤ (u53_ 2).toInt ∧ (u53_ 2).toInt ≤ 2147483647 := ⟨zlo _, zhi _⟩
      refine lv_iadd hx hb dX8_oneBit_75 ?_
      refine lv_topi (fun z75 e_z75 => ?_)
      refine va_put (D := (dC, dI)) (ci := 8) (v := .int z75) (ty := .int) (C := RX8) (T := TX8) (N := 9) hx hb hG zuX8 tyX8 tyX8_ok nmX8 hown hK hP hD hS 0 rfl rfl 4 (by decide) (hG _ zw4) (fun _ h9 => h9) rfl (by decide +kernel) rfl rfl (Nat.le_of_ble_eq_true rfl) dX8_oneBit_76 (fun H locs hP hD hS => ?_)
      have hP : va_P (dC, dI) vwCl [(h0, .inr (8, mX8 h1 (upd (upd (upd v0 2 (u53_ 0)) 3 (u53_ 1)) 4 z75))), (h1, .inr (6, mX6 h2 h3 h4 h5 h6 h7 h8 h9 v1)), (h4, .inl (k4, 833, .inl f4)), (h3, .inl (k3, 833, .inl f3)), (h2, .inl (k2, 1250, .inl f2))] H := hP
      have hD : va_D A [(h0, .inr (8, mX8 h1 (upd (upd (upd v0 2 (u53_ 0)) 3 (u53_ 1)) 4 z75))), (h1, .inr (6, mX6 h2 h3 h4 h5 h6 h7 h8 h9 v1)), (h4, .inl (k4, 833, .inl f4)), (h3, .inl (k3, 833, .inl f3)), (h2, .inl (k2, 1250, .inl f2))] := hD
      refine lv_aload_n hx hb dX8_oneBit_79 rfl (lv_at hl 1 rfl) ?_
      refine lv_dup hx hb dX8_oneBit_80 rfl ?_
      refine va_get (D := (dC, dI)) (ci := 8) (v := .int (v0 1)) (C := RX8) (T := TX8) (N := 9) hx hb hG zuX8 hown hK hP 0 rfl rfl 1 (by decide) (hG _ zw2) (fun _ h9 => h9) rfl dX8_oneBit_81 ?_
      refine lv_iconst (v := 1) hx hb dX8_oneBit_84 (by decide) ?_
      refine lv_isub hx hb dX8_oneBit_85 ?_
      refine lv_topi (fun z85 e_z85 => ?_)
      have b_ := zsub rfl zk_1 e_z85 (by omega) (by omega)
      refine va_put (D := (dC, dI)) (ci := 8) (v := .int z85) (ty := .int) (C := RX8) (T := TX8) (N := 9) hx hb hG zuX8 tyX8 tyX8_ok nmX8 hown hK hP hD hS 0 rfl rfl 1 (by decide) (hG _ zw2) (fun _ h9 => h9) rfl (by decide +kernel) rfl rfl (Nat.le_of_ble_eq_true rfl) dX8_oneBit_86 (fun H locs hP hD hS => ?_)
      have hP : va_P (dC, dI) vwCl [(h0, .inr (8, mX8 h1 (upd (upd (upd (upd v0 1 z85) 2 (u53_ 0)) 3 (u53_ 1)) 4 z75))), (h1, .inr (6, mX6 h2 h3 h4 h5 h6 h7 h8 h9 v1)), (h4, .inl (k4, 833, .inl f4)), (h3, .inl (k3, 833, .inl f3)), (h2, .inl (k2, 1250, .inl f2))] H := hP
      have hD : va_D A [(h0, .inr (8, mX8 h1 (upd (upd (upd (upd v0 1 z85) 2 (u53_ 0)) 3 (u53_ 1)) 4 z75))), (h1, .inr (6, mX6 h2 h3 h4 h5 h6 h7 h8 h9 v1)), (h4, .inl (k4, 833, .inl f4)), (h3, .inl (k3, 833, .inl f3)), (h2, .inl (k2, 1250, .inl f2))] := hD
      refine lv_iload_n hx hb dX8_oneBit_89 rfl (lv_at hl 0 rfl) ?_
      refine W.widen (k := 0) (n := 0) (by decide) (by decide) ?_
      have b_ : -2147483648 ≤ (u53_ 0).toInt ∧ (u53_ 0).toInt ≤ 2147483647 := ⟨zlo _, zhi _⟩
      have b_ : -2147483648 ≤ (u53_ 1).toInt ∧ (u53_ 1).toInt ≤ 2147483647 := ⟨zlo _, zhi _⟩
      have b_ : -2147483648 ≤ z75.toInt ∧ z75.toInt ≤ 2147483647 := ⟨zlo _, zhi _⟩
      have hpost : (0 ≤ r65_.toInt ∧ r65_.toInt ≤ 1) ∧ ((-2147483648) ≤ z85.toInt ∧ z85.toInt ≤ 2147483646) := ⟨⟨by omega, by omega⟩, ⟨by omega, by omega⟩⟩
      have hP9 : va_P (dC, dI) vwCl [(h0, .inr (8, mX8 h1 (upd (upd (upd (upd v0 1 z85) 2 (u53_ 0)) 3 (u53_ 1)) 4 z75))), (h1, .inr (6, mX6 h2 h3 h4 h5 h6 h7 h8 h9 v1)), (h4, .inl (k4, 833, .inl f4)), (h3, .inl (k3, 833, .inl f3)), (h2, .inl (k2, 1250, .inl f2))] H := hP
      have hD9 : va_D A [(h0, .inr (8, mX8 h1 (upd (upd (upd (upd v0 1 z85) 2 (u53_ 0)) 3 (u53_ 1)) 4 z75))), (h1, .inr (6, mX6 h2 h3 h4 h5 h6 h7 h8 h9 v1)), (h4, .inl (k4, 833, .inl f4)), (h3, .inl (k3, 833, .inl f3)), (h2, .inl (k2, 1250, .inl f2))] := hD
      exact W.iret (v := r65_) hx hb hr (fun t ht hW => ⟨⟨r65_, (fun i => ([z85, (u53_ 0), (u53_ 1), z75] : List (Int32)).getD i 0), rfl, hpost, (fun _ => 0), (fun _ => (fun _ => 0)), (fun _ => (fun _ => 0)), by rw [ht]; exact hP9, va_K.moved hW.alike hK, hD9⟩, hS.F ht⟩) hS.2.2 dX8_oneBit_90
    · skip
      have b_ : -2147483648 ≤ (v0 4).toInt ∧ (v0 4).toInt ≤ 2147483647 := ⟨zlo _, zhi _⟩
      have b_ : -2147483648 ≤ r17_.toInt ∧ r17_.toInt ≤ 2147483647 := ⟨zlo _, zhi _⟩
      refine lv_icmp_ne (tgt := 53) hx hb dX8_oneBit_20 (by decide) (fun c_ => ?_) (fun c_ => ?_)
      · skip
        have b_ := zT_ne rfl rfl c_
        have hc : va_P (dC, dI) vwCl [(h0, .inr (8, mX8 h1 (upd (upd (upd v0 2 (v0 2)) 3 (v0 3)) 4 (v0 4)))), (h1, .inr (6, mX6 h2 h3 h4 h5 h6 h7 h8 h9 v1)), (h4, .inl (k4, 833, .inl f4)), (h3, .inl (k3, 833, .inl f3)), (h2, .inl (k2, 1250, .inl f2))] H ∧ va_D A [(h0, .inr (8, mX8 h1 (upd (upd (upd v0 2 (v0 2)) 3 (v0 3)) 4 (v0 4)))), (h1, .inr (6, mX6 h2 h3 h4 h5 h6 h7 h8 h9 v1)), (h4, .inl (k4, 833, .inl f4)), (h3, .inl (k3, 833, .inl f3)), (h2, .inl (k2, 1250, .inl f2))] ∧ va_S A s.heap H locs ∧ lv_has ls 2 [(0, .ref h0)] := ⟨hP, hD, hS, lv_sub hl [0] rfl⟩
        exact hJ53 H locs ls (fun i => ([(v0 2), (v0 3), (v0 4)] : List (Int32)).getD i 0) (fun _ => 0) (fun _ => (fun _ => 0)) (fun _ => (fun _ => 0)) hc
      · skip
        have b_ := zF_ne rfl rfl c_
        refine lv_aload_n hx hb dX8_oneBit_23 rfl (lv_at hl 0 rfl) ?_
        refine lv_aload_n hx hb dX8_oneBit_24 rfl (lv_at hl 0 rfl) ?_
        refine va_get (D := (dC, dI)) (ci := 8) (v := .ref h1) (C := RX8) (T := TX8) (N := 9) hx hb hG zuX8 hown hK hP 0 rfl rfl 0 (by decide) (hG _ zw6) (fun _ h9 => h9) rfl dX8_oneBit_25 ?_
        refine lv_aload_n hx hb dX8_oneBit_28 rfl (lv_at hl 0 rfl) ?_
        refine va_get (D := (dC, dI)) (ci := 8) (v := .int (v0 2)) (C := RX8) (T := TX8) (N := 9) hx hb hG zuX8 hown hK hP 0 rfl rfl 2 (by decide) (hG _ zw7) (fun _ h9 => h9) rfl dX8_oneBit_29 ?_
        have hPc := hP.sub (ws' := [(h1, .inr (6, mX6 h2 h3 h4 h5 h6 h7 h8 h9 v1)), (h4, .inl (k4, 833, .inl f4))]) [1, 2] rfl
        have hDc := hD.sub (ws' := [(h1, .inr (6, mX6 h2 h3 h4 h5 h6 h7 h8 h9 v1)), (h4, .inl (k4, 833, .inl f4))]) [1, 2] (by decide) rfl
        have hKc := hK.sub (tys' := [(k4, .int)]) [0] rfl
        have hFc := va_free (wc := [(h1, .inr (6, mX6 h2 h3 h4 h5 h6 h7 h8 h9 v1)), (h4, .inl (k4, 833, .inl f4))]) hD hS hA [1, 2] rfl
        refine va_calli (va_runV (As := [.int (v0 2)]) (rest := [.ref h0]) ⟨hx, hb, hml, hown, hG⟩ (sX6_chunkBehind_0 l dC dI adK adV h1 h4 h2 h3 h5 h6 h7 h8 h9 k4 H.size v1 f4 (v0 2) hv1) (cwV 1 hG (zgV zw20 zw21 zw22 zw14 zw23) rfl rfl rfl (by decide +kernel) ⟨Nat.le_of_ble_eq_true rfl, Nat.le_of_ble_eq_true rfl⟩) ⟨zPc_blind, va_recv hKc hPc (ci := 6) (q0 := 0) rfl rfl, zPc_pre hPc hKc hDc hE hS hFc hZ⟩ rfl rfl hl.1 rfl (lv_room (Nat.le_of_ble_eq_true rfl)) dX8_oneBit_32 ⟨Nat.le_of_ble_eq_true rfl, Nat.le_of_ble_eq_true rfl⟩) hS (fun q _ h => hFc q h) hFc (fun r32_ u32_ t H1 locs ht hvm hw hB hz1 hk1 hS => ?_)
        obtain ⟨w32_, a32_, b32_, hP1, hK1, hD1⟩ := hB
        rw [ht] at hP1
        obtain ⟨hP, hD⟩ := va_join (wr := [(h0, .inr (8, mX8 h1 v0)), (h3, .inl (k3, 833, .inl f3)), (h2, .inl (k2, 1250, .inl f2))]) (w1 := [(h1, .inr (6, mX6 h2 h3 h4 h5 h6 h7 h8 h9 v1)), (h4, .inl (k4, 833, .inl f4))]) hP hD [1, 2] [0, 3, 4] rfl rfl (by decide) (by decide) hk1 hFc hP1 hD1
        have hP : va_P (dC, dI) vwCl [(h0, .inr (8, mX8 h1 v0)), (h1, .inr (6, mX6 h2 h3 h4 h5 h6 h7 h8 h9 v1)), (h4, .inl (k4, 833, .inl f4)), (h3, .inl (k3, 833, .inl f3)), (h2, .inl (k2, 1250, .inl f2))] H1 := hP.sub [0, 3, 4, 1, 2] rfl
        have hD : va_D A [(h0, .inr (8, mX8 h1 v0)), (h1, .inr (6, mX6 h2 h3 h4 h5 h6 h7 h8 h9 v1)), (h4, .inl (k4, 833, .inl f4)), (h3, .inl (k3, 833, .inl f3)), (h2, .inl (k2, 1250, .inl f2))] := hD.sub [0, 3, 4, 1, 2] (by decide) rfl
        generalize H1 = H at hP hS ⊢
        clear hz1
        refine va_put (D := (dC, dI)) (ci := 8) (v := .int r32_) (ty := .int) (C := RX8) (T := TX8) (N := 9) hx hb hG zuX8 tyX8 tyX8_ok nmX8 hown hK hP hD hS 0 rfl rfl 2 (by decide) (hG _ zw7) (fun _ h9 => h9) rfl (by decide +kernel) rfl rfl (Nat.le_of_ble_eq_true rfl) dX8_oneBit_35 (fun H locs hP hD hS => ?_)
        have hP : va_P (dC, dI) vwCl [(h0, .inr (8, mX8 h1 (upd v0 2 r32_))), (h1, .inr (6, mX6 h2 h3 h4 h5 h6 h7 h8 h9 v1)), (h4, .inl (k4, 833, .inl f4)), (h3, .inl (k3, 833, .inl f3)), (h2, .inl (k2, 1250, .inl f2))] H := hP
        have hD : va_D A [(h0, .inr (8, mX8 h1 (upd v0 2 r32_))), (h1, .inr (6, mX6 h2 h3 h4 h5 h6 h7 h8 h9 v1)), (h4, .inl (k4, 833, .inl f4)), (h3, .inl (k3, 833, .inl f3)), (h2, .inl (k2, 1250, .inl f2))] := hD
        refine lv_aload_n hx hb dX8_oneBit_38 rfl (lv_at hl 0 rfl) ?_
        refine lv_dup hx hb dX8_oneBit_39 rfl ?_
        refine va_get (D := (dC, dI)) (ci := 8) (v := .int (v0 3)) (C := RX8) (T := TX8) (N := 9) hx hb hG zuX8 hown hK hP 0 rfl rfl 3 (by decide) (hG _ zw5) (fun _ h9 => h9) rfl dX8_oneBit_40 ?_
        refine lv_iconst (v := 1) hx hb dX8_oneBit_43 (by decide) ?_
        have b_ : -2147483648 ≤ (v0 3).toInt ∧ (v0 3).toInt ≤ 2147483647 := ⟨zlo _, zhi _⟩
        refine lv_iadd hx hb dX8_oneBit_44 ?_
        refine lv_topi (fun z44 e_z44 => ?_)
        refine va_put (D := (dC, dI)) (ci := 8) (v := .int z44) (ty := .int) (C := RX8) (T := TX8) (N := 9) hx hb hG zuX8 tyX8 tyX8_ok nmX8 hown hK hP hD hS 0 rfl rfl 3 (by decide) (hG _ zw5) (fun _ h9 => h9) rfl (by decide +kernel) rfl rfl (Nat.le_of_ble_eq_true rfl) dX8_oneBit_45 (fun H locs hP hD hS => ?_)
        have hP : va_P (dC, dI) vwCl [(h0, .inr (8, mX8 h1 (upd (upd v0 2 r32_) 3 z44))), (h1, .inr (6, mX6 h2 h3 h4 h5 h6 h7 h8 h9 v1)), (h4, .inl (k4, 833, .inl f4)), (h3, .inl (k3, 833, .inl f3)), (h2, .inl (k2, 1250, .inl f2))] H := hP
        have hD : va_D A [(h0, .inr (8, mX8 h1 (upd (upd v0 2 r32_) 3 z44))), (h1, .inr (6, mX6 h2 h3 h4 h5 h6 h7 h8 h9 v1)), (h4, .inl (k4, 833, .inl f4)), (h3, .inl (k3, 833, .inl f3)), (h2, .inl (k2, 1250, .inl f2))] := hD
        refine lv_aload_n hx hb dX8_oneBit_48 rfl (lv_at hl 0 rfl) ?_
        refine lv_iconst (v := 0) hx hb dX8_oneBit_49 (by decide) ?_
        refine va_put (D := (dC, dI)) (ci := 8) (v := .int 0) (ty := .int) (C := RX8) (T := TX8) (N := 9) hx hb hG zuX8 tyX8 tyX8_ok nmX8 hown hK hP hD hS 0 rfl rfl 4 (by decide) (hG _ zw4) (fun _ h9 => h9) rfl (by decide +kernel) rfl rfl (Nat.le_of_ble_eq_true rfl) dX8_oneBit_50 (fun H locs hP hD hS => ?_)
        have hP : va_P (dC, dI) vwCl [(h0, .inr (8, mX8 h1 (upd (upd (upd v0 2 r32_) 3 z44) 4 0))), (h1, .inr (6, mX6 h2 h3 h4 h5 h6 h7 h8 h9 v1)), (h4, .inl (k4, 833, .inl f4)), (h3, .inl (k3, 833, .inl f3)), (h2, .inl (k2, 1250, .inl f2))] H := hP
        have hD : va_D A [(h0, .inr (8, mX8 h1 (upd (upd (upd v0 2 r32_) 3 z44) 4 0))), (h1, .inr (6, mX6 h2 h3 h4 h5 h6 h7 h8 h9 v1)), (h4, .inl (k4, 833, .inl f4)), (h3, .inl (k3, 833, .inl f3)), (h2, .inl (k2, 1250, .inl f2))] := hD
        have hc : va_P (dC, dI) vwCl [(h0, .inr (8, mX8 h1 (upd (upd (upd v0 2 r32_) 3 z44) 4 0))), (h1, .inr (6, mX6 h2 h3 h4 h5 h6 h7 h8 h9 v1)), (h4, .inl (k4, 833, .inl f4)), (h3, .inl (k3, 833, .inl f3)), (h2, .inl (k2, 1250, .inl f2))] H ∧ va_D A [(h0, .inr (8, mX8 h1 (upd (upd (upd v0 2 r32_) 3 z44) 4 0))), (h1, .inr (6, mX6 h2 h3 h4 h5 h6 h7 h8 h9 v1)), (h4, .inl (k4, 833, .inl f4)), (h3, .inl (k3, 833, .inl f3)), (h2, .inl (k2, 1250, .inl f2))] ∧ va_S A s.heap H locs ∧ lv_has ls 2 [(0, .ref h0)] := ⟨hP, hD, hS, lv_sub hl [0] rfl⟩
        exact hJ53 H locs ls (fun i => ([r32_, z44, 0] : List (Int32)).getD i 0) (fun _ => 0) (fun _ => (fun _ => 0)) (fun _ => (fun _ => 0)) hc
  · skip
    have b_ := zF_gt rfl zk_0 c_
    refine lv_iconst (v := 0) hx hb dX8_oneBit_7 (by decide) ?_
    refine W.widen (k := 0) (n := 0) (by decide) (by decide) ?_
    have b_ : -2147483648 ≤ (v0 2).toInt ∧ (v0 2).toInt ≤ 2147483647 := ⟨zlo _, zhi _⟩
    have b_ : -2147483648 ≤ (v0 3).toInt ∧ (v0 3).toInt ≤ 2147483647 := ⟨zlo _, zhi _⟩
    have b_ : -2147483648 ≤ (v0 4).toInt ∧ (v0 4).toInt ≤ 2147483647 := ⟨zlo _, zhi _⟩
    have hpost : (0 ≤ (0 : Int32).toInt ∧ (0 : Int32).toInt ≤ 1) ∧ ((-2147483648) ≤ (v0 1).toInt ∧ (v0 1).toInt ≤ 2147483646) := ⟨⟨by omega, by omega⟩, ⟨by omega, by omega⟩⟩
    have hP9 : va_P (dC, dI) vwCl [(h0, .inr (8, mX8 h1 (upd (upd (upd (upd v0 1 (v0 1)) 2 (v0 2)) 3 (v0 3)) 4 (v0 4)))), (h1, .inr (6, mX6 h2 h3 h4 h5 h6 h7 h8 h9 v1)), (h4, .inl (k4, 833, .inl f4)), (h3, .inl (k3, 833, .inl f3)), (h2, .inl (k2, 1250, .inl f2))] s.heap := hP
    have hD9 : va_D A [(h0, .inr (8, mX8 h1 (upd (upd (upd (upd v0 1 (v0 1)) 2 (v0 2)) 3 (v0 3)) 4 (v0 4)))), (h1, .inr (6, mX6 h2 h3 h4 h5 h6 h7 h8 h9 v1)), (h4, .inl (k4, 833, .inl f4)), (h3, .inl (k3, 833, .inl f3)), (h2, .inl (k2, 1250, .inl f2))] := hD
    exact W.iret (v := 0) hx hb hr (fun t ht hW => ⟨⟨0, (fun i => ([(v0 1), (v0 2), (v0 3), (v0 4)] : List (Int32)).getD i 0), rfl, hpost, (fun _ => 0), (fun _ => (fun _ => 0)), (fun _ => (fun _ => 0)), by rw [ht]; exact hP9, va_K.moved hW.alike hK, hD9⟩, hS.F ht⟩) hS.2.2 dX8_oneBit_8
set_option maxHeartbeats 8000000 in
set_option maxRecDepth 100000 in
theorem sX8_gamma_0 (l : Launch) (dC : Nat → ClassId) (dI : Nat → Nat → Nat) (adK adV : Nat → Nat) (h0 : Nat) (h1 : Nat) (h4 : Nat) (h3 : Nat) (h2 : Nat) (h5 : Nat) (h6 : Nat) (h7 : Nat) (h8 : Nat) (h9 : Nat) (k4 : ClassId) (k3 : ClassId) (k2 : ClassId) (sz : Nat) (v0 : Nat → Int32) (v1 : Nat → Int32) (f4 : Nat → Int32) (f3 : Nat → Int32) (f2 : Nat → Int32) (hv1 : zR rg_Postings v1) (hf3 : zA 0 1250 f3) : Met l yX8_gamma (zw yX8_gamma cX8_gamma 4 (some .int)) { frames := 2, cells := 0, slots := 0, locals := 44 } (zPc dC dI adK adV [.ref h0] sz [(h0, .inr (8, mX8 h1 v0)), (h1, .inr (6, mX6 h2 h3 h4 h5 h6 h7 h8 h9 v1)), (h4, .inl (k4, 833, .inl f4)), (h3, .inl (k3, 833, .inl f3)), (h2, .inl (k2, 1250, .inl f2))] [(k4, .int), (k3, .int), (k2, .int)]) (va_Qi (fun (r : Int32) (u : Nat → Int32) => True) (fun (u : Nat → Int32) (t : State) => ∃ (ww : Nat → Int64) (aa : Nat → Nat → Int32) (bb : Nat → Nat → Int64), va_P (dC, dI) vwCl [(h0, .inr (8, mX8 h1 (upd (upd (upd (upd v0 1 (u 0)) 2 (u 1)) 3 (u 2)) 4 (u 3)))), (h1, .inr (6, mX6 h2 h3 h4 h5 h6 h7 h8 h9 v1)), (h4, .inl (k4, 833, .inl f4)), (h3, .inl (k3, 833, .inl f3)), (h2, .inl (k2, 1250, .inl f2))] t.heap ∧ va_K (dC, dI) vwCl [(k4, .int), (k3, .int), (k2, .int)] t ∧ va_D (va_A [(h0, .inr (8, mX8 h1 v0)), (h1, .inr (6, mX6 h2 h3 h4 h5 h6 h7 h8 h9 v1)), (h4, .inl (k4, 833, .inl f4)), (h3, .inl (k3, 833, .inl f3)), (h2, .inl (k2, 1250, .inl f2))] sz) [(h0, .inr (8, mX8 h1 (upd (upd (upd (upd v0 1 (u 0)) 2 (u 1)) 3 (u 2)) 4 (u 3)))), (h1, .inr (6, mX6 h2 h3 h4 h5 h6 h7 h8 h9 v1)), (h4, .inl (k4, 833, .inl f4)), (h3, .inl (k3, 833, .inl f3)), (h2, .inl (k2, 1250, .inl f2))]) (va_A [(h0, .inr (8, mX8 h1 v0)), (h1, .inr (6, mX6 h2 h3 h4 h5 h6 h7 h8 h9 v1)), (h4, .inl (k4, 833, .inl f4)), (h3, .inl (k3, 833, .inl f3)), (h2, .inl (k2, 1250, .inl f2))] sz)) 0 0 (va_A [(h0, .inr (8, mX8 h1 v0)), (h1, .inr (6, mX6 h2 h3 h4 h5 h6 h7 h8 h9 v1)), (h4, .inl (k4, 833, .inl f4)), (h3, .inl (k3, 833, .inl f3)), (h2, .inl (k2, 1250, .inl f2))] sz) := by
  refine Met.ofW (cc := cX8_gamma) (maxL := 4) (ret := (some .int)) (by decide) rfl ?_
  intro p e s m args below meth c s₁ B hml hv
  obtain ⟨rfl, hsz, hP, hK, hD0, hE, hZ⟩ := hv
  have hx := B.exec
  have hb := B.bytes
  have hr := B.returns
  have hG : ∀ w ∈ zG, w.before _ s = true := fun w h => atoms_spec (ws := (zw yX8_gamma cX8_gamma 4 (some .int))) B.pre w (List.mem_cons_of_mem _ h)
  have hown : s.vm.findClass RX8 = some m.cls := findClass_of_methodNamed B.named
  have hlocks := B.notSynchronized
  subst hsz
  have hD := hD0.self (sz := s.heap.size)
  generalize hAe : va_A [(h0, .inr (8, mX8 h1 v0)), (h1, .inr (6, mX6 h2 h3 h4 h5 h6 h7 h8 h9 v1)), (h4, .inl (k4, 833, .inl f4)), (h3, .inl (k3, 833, .inl f3)), (h2, .inl (k2, 1250, .inl f2))] s.heap.size = A at hD hZ ⊢
  have hA : ∀ q : Nat, s.heap.size ≤ q → A q := fun q h => by rw [← hAe]; exact Or.inr h
  have hS : va_S A s.heap s.heap [] := va_S.rf
  have hl := lv_entry ([.ref h0]) (n := 4) (Nat.le_of_ble_eq_true rfl)
  rw [lg_entry_eq]
  generalize (lg_sl ([.ref h0]) ++ List.replicate (4 - (lg_sl ([.ref h0])).length) Slot.unset).toArray = ls at hl ⊢
  have hl : lv_has ls 4 [(0, .ref h0)] := hl
  have b_ := zk_0
  refine lv_iconst (v := 0) hx hb dX8_gamma_0 (by decide) ?_
  refine lv_istore_n (lv' := [(1, .int 0), (0, .ref h0)]) hx hb dX8_gamma_1 rfl hl (by decide) rfl (fun ls hl => ?_)
  refine zcutL (fun u2_ => (31 - (u2_ 0).toInt).toNat) (fun H locs ls u2_ w2_ a2_ b2_ => va_P (dC, dI) vwCl [(h0, .inr (8, mX8 h1 (upd (upd (upd (upd v0 1 (u2_ 1)) 2 (u2_ 2)) 3 (u2_ 3)) 4 (u2_ 4)))), (h1, .inr (6, mX6 h2 h3 h4 h5 h6 h7 h8 h9 v1)), (h4, .inl (k4, 833, .inl f4)), (h3, .inl (k3, 833, .inl f3)), (h2, .inl (k2, 1250, .inl f2))] H ∧ va_D A [(h0, .inr (8, mX8 h1 (upd (upd (upd (upd v0 1 (u2_ 1)) 2 (u2_ 2)) 3 (u2_ 3)) 4 (u2_ 4)))), (h1, .inr (6, mX6 h2 h3 h4 h5 h6 h7 h8 h9 v1)), (h4, .inl (k4, 833, .inl f4)), (h3, .inl (k3, 833, .inl f3)), (h2, .inl (k2, 1250, .inl f2))] ∧ va_S A s.heap H locs ∧ lv_has ls 4 [(0, .ref h0), (1, .int (u2_ 0))] ∧ (0 ≤ (u2_ 0).toInt ∧ (u2_ 0).toInt ≤ 31)) (fun ls u2_ w2_ => F0 m 2 ls []) 0 0 ?_ (fun hJ2 => ?_)
  · skip
    intro H locs ls u2_ w2_ a2_ b2_ hc hJ2
    obtain ⟨hP, hD, hS, hl, b_⟩ := hc
    refine lv_iload_n hx hb dX8_gamma_2 rfl (lv_at hl 1 rfl) ?_
    refine lv_bipush (v := 31) hx hb dX8_gamma_3 (by decide) ?_
    refine zcutW (fun H locs ls u28_ w28_ a28_ b28_ => va_P (dC, dI) vwCl [(h0, .inr (8, mX8 h1 (upd (upd (upd (upd v0 1 (u28_ 0)) 2 (u28_ 1)) 3 (u28_ 2)) 4 (u28_ 3)))), (h1, .inr (6, mX6 h2 h3 h4 h5 h6 h7 h8 h9 v1)), (h4, .inl (k4, 833, .inl f4)), (h3, .inl (k3, 833, .inl f3)), (h2, .inl (k2, 1250, .inl f2))] H ∧ va_D A [(h0, .inr (8, mX8 h1 (upd (upd (upd (upd v0 1 (u28_ 0)) 2 (u28_ 1)) 3 (u28_ 2)) 4 (u28_ 3)))), (h1, .inr (6, mX6 h2 h3 h4 h5 h6 h7 h8 h9 v1)), (h4, .inl (k4, 833, .inl f4)), (h3, .inl (k3, 833, .inl f3)), (h2, .inl (k2, 1250, .inl f2))] ∧ va_S A s.heap H locs ∧ lv_has ls 4 [(0, .ref h0), (1, .int (u2_ 0))] ∧ (0 ≤ (u2_ 0).toInt ∧ (u2_ 0).toInt ≤ 31)) (fun ls u28_ w28_ => F0 m 28 ls []) 0 0 ?_ (fun hJ28 => ?_)
    · skip
      intro H locs ls u28_ w28_ a28_ b28_ hc
      obtain ⟨hP, hD, hS, hl, b_⟩ := hc
      refine lv_iconst (v := 1) hx hb dX8_gamma_28 (by decide) ?_
      refine lv_istore_n (lv' := [(2, .int 1), (0, .ref h0), (1, .int (u2_ 0))]) hx hb dX8_gamma_29 rfl hl (by decide) rfl (fun ls hl => ?_)
      refine lv_iconst (v := 0) hx hb dX8_gamma_30 (by decide) ?_
      refine lv_istore_n (lv' := [(3, .int 0), (2, .int 1), (0, .ref h0), (1, .int (u2_ 0))]) hx hb dX8_gamma_31 rfl hl (by decide) rfl (fun ls hl => ?_)
      refine zcutL (fun u32_ => (31 - (u32_ 1).toInt).toNat) (fun H locs ls u32_ w32_ a32_ b32_ => va_P (dC, dI) vwCl [(h0, .inr (8, mX8 h1 (upd (upd (upd (upd v0 1 (u32_ 2)) 2 (u32_ 3)) 3 (u32_ 4)) 4 (u32_ 5)))), (h1, .inr (6, mX6 h2 h3 h4 h5 h6 h7 h8 h9 v1)), (h4, .inl (k4, 833, .inl f4)), (h3, .inl (k3, 833, .inl f3)), (h2, .inl (k2, 1250, .inl f2))] H ∧ va_D A [(h0, .inr (8, mX8 h1 (upd (upd (upd (upd v0 1 (u32_ 2)) 2 (u32_ 3)) 3 (u32_ 4)) 4 (u32_ 5)))), (h1, .inr (6, mX6 h2 h3 h4 h5 h6 h7 h8 h9 v1)), (h4, .inl (k4, 833, .inl f4)), (h3, .inl (k3, 833, .inl f3)), (h2, .inl (k2, 1250, .inl f2))] ∧ va_S A s.heap H locs ∧ lv_has ls 4 [(0, .ref h0), (1, .int (u2_ 0)), (2, .int (u32_ 0)), (3, .int (u32_ 1))] ∧ (0 ≤ (u32_ 1).toInt ∧ (u32_ 1).toInt ≤ 31)) (fun ls u32_ w32_ => F0 m 32 ls []) 0 0 ?_ (fun hJ32 => ?_)
      · skip
        intro H locs ls u32_ w32_ a32_ b32_ hc hJ32
        obtain ⟨hP, hD, hS, hl, b_⟩ := hc
        refine lv_iload_n hx hb dX8_gamma_32 rfl (lv_at hl 3 rfl) ?_
        refine lv_iload_n hx hb dX8_gamma_33 rfl (lv_at hl 1 rfl) ?_
        refine lv_icmp_ge (tgt := 52) hx hb dX8_gamma_34 (by decide) (fun c_ => ?_) (fun c_ => ?_)
        · skip
          have b_ := zT_ge rfl rfl c_
          refine lv_iload_n hx hb dX8_gamma_52 rfl (lv_at hl 2 rfl) ?_
          refine W.widen (k := 0) (n := 0) (by decide) (by decide) ?_
          have b_ : -2147483648 ≤ (u32_ 0).toInt ∧ (u32_ 0).toInt ≤ 2147483647 := ⟨zlo _, zhi _⟩
          have b_ : -2147483648 ≤ (u32_ 2).toInt ∧ (u32_ 2).toInt ≤ 2147483647 := ⟨zlo _, zhi _⟩
          have b_ : -2147483648 ≤ (u32_ 3).toInt ∧ (u32_ 3).toInt ≤ 2147483647 := ⟨zlo _, zhi _⟩
          have b_ : -2147483648 ≤ (u32_ 4).toInt ∧ (u32_ 4).toInt ≤ 2147483647 := ⟨zlo _, zhi _⟩
          have b_ : -2147483648 ≤ (u32_ 5).toInt ∧ (u32_ 5).toInt ≤ 2147483647 := ⟨zlo _, zhi _⟩
          have hpost : True := trivial
          have hP9 : va_P (dC, dI) vwCl [(h0, .inr (8, mX8 h1 (upd (upd (upd (upd v0 1 (u32_ 2)) 2 (u32_ 3)) 3 (u32_ 4)) 4 (u32_ 5)))), (h1, .inr (6, mX6 h2 h3 h4 h5 h6 h7 h8 h9 v1)), (h4, .inl (k4, 833, .inl f4)), (h3, .inl (k3, 833, .inl f3)), (h2, .inl (k2, 1250, .inl f2))] H := hP
          have hD9 : va_D A [(h0, .inr (8, mX8 h1 (upd (upd (upd (upd v0 1 (u32_ 2)) 2 (u32_ 3)) 3 (u32_ 4)) 4 (u32_ 5)))), (h1, .inr (6, mX6 h2 h3 h4 h5 h6 h7 h8 h9 v1)), (h4, .inl (k4, 833, .inl f4)), (h3, .inl (k3, 833, .inl f3)), (h2, .inl (k2, 1250, .inl f2))] := hD
          exact W.iret (v := (u32_ 0)) hx hb hr (fun t ht hW => ⟨⟨(u32_ 0), (fun i => ([(u32_ 2), (u32_ 3), (u32_ 4), (u32_ 5)] : List (Int32)).getD i 0), rfl, hpost, (fun _ => 0), (fun _ => (fun _ => 0)), (fun _ => (fun _ => 0)), by rw [ht]; exact hP9, va_K.moved hW.alike hK, hD9⟩, hS.F ht⟩) hS.2.2 dX8_gamma_53
        · skip
          have b_ := zF_ge rfl rfl c_
          refine lv_iload_n hx hb dX8_gamma_37 rfl (lv_at hl 2 rfl) ?_
          refine lv_iconst (v := 1) hx hb dX8_gamma_38 (by decide) ?_
          have b_ : -2147483648 ≤ (u32_ 0).toInt ∧ (u32_ 0).toInt ≤ 2147483647 := ⟨zlo _, zhi _⟩
          refine lv_ishl hx hb dX8_gamma_39 ?_
          refine lv_topi (fun z39 e_z39 => ?_)
          refine lv_aload_n hx hb dX8_gamma_40 rfl (lv_at hl 0 rfl) ?_
          have b_ : -2147483648 ≤ (u32_ 2).toInt ∧ (u32_ 2).toInt ≤ 2147483647 := ⟨zlo _, zhi _⟩
          have b_ : -2147483648 ≤ (u32_ 3).toInt ∧ (u32_ 3).toInt ≤ 2147483647 := ⟨zlo _, zhi _⟩
          have b_ : -2147483648 ≤ (u32_ 4).toInt ∧ (u32_ 4).toInt ≤ 2147483647 := ⟨zlo _, zhi _⟩
          have b_ : -2147483648 ≤ (u32_ 5).toInt ∧ (u32_ 5).toInt ≤ 2147483647 := ⟨zlo _, zhi _⟩
          have hPc := hP.sub (ws' := [(h0, .inr (8, mX8 h1 (upd (upd (upd (upd v0 1 (u32_ 2)) 2 (u32_ 3)) 3 (u32_ 4)) 4 (u32_ 5)))), (h1, .inr (6, mX6 h2 h3 h4 h5 h6 h7 h8 h9 v1)), (h4, .inl (k4, 833, .inl f4)), (h3, .inl (k3, 833, .inl f3)), (h2, .inl (k2, 1250, .inl f2))]) [0, 1, 2, 3, 4] rfl
          have hDc := hD.sub (ws' := [(h0, .inr (8, mX8 h1 (upd (upd (upd (upd v0 1 (u32_ 2)) 2 (u32_ 3)) 3 (u32_ 4)) 4 (u32_ 5)))), (h1, .inr (6, mX6 h2 h3 h4 h5 h6 h7 h8 h9 v1)), (h4, .inl (k4, 833, .inl f4)), (h3, .inl (k3, 833, .inl f3)), (h2, .inl (k2, 1250, .inl f2))]) [0, 1, 2, 3, 4] (by decide) rfl
          have hKc := hK.sub (tys' := [(k4, .int), (k3, .int), (k2, .int)]) [0, 1, 2] rfl
          have hFc := va_free (wc := [(h0, .inr (8, mX8 h1 (upd (upd (upd (upd v0 1 (u32_ 2)) 2 (u32_ 3)) 3 (u32_ 4)) 4 (u32_ 5)))), (h1, .inr (6, mX6 h2 h3 h4 h5 h6 h7 h8 h9 v1)), (h4, .inl (k4, 833, .inl f4)), (h3, .inl (k3, 833, .inl f3)), (h2, .inl (k2, 1250, .inl f2))]) hD hS hA [0, 1, 2, 3, 4] rfl
          refine va_calli (va_runV (As := []) (rest := [.int z39]) ⟨hx, hb, hml, hown, hG⟩ (sX8_oneBit_0 l dC dI adK adV h0 h1 h4 h3 h2 h5 h6 h7 h8 h9 k4 k3 k2 H.size (upd (upd (upd (upd v0 1 (u32_ 2)) 2 (u32_ 3)) 3 (u32_ 4)) 4 (u32_ 5)) v1 f4 f3 f2 hv1 hf3) (cwV 0 hG (zgV zw24 zw25 zw26 zw27 zw28) rfl rfl rfl (by decide +kernel) ⟨Nat.le_of_ble_eq_true rfl, Nat.le_of_ble_eq_true rfl⟩) ⟨zPc_blind, va_recv hKc hPc (ci := 8) (q0 := 0) rfl rfl, zPc_pre hPc hKc hDc hE hS hFc hZ⟩ rfl rfl hl.1 rfl (lv_room (Nat.le_of_ble_eq_true rfl)) dX8_gamma_41 ⟨Nat.le_of_ble_eq_true rfl, Nat.le_of_ble_eq_true rfl⟩) hS (fun q _ h => hFc q h) hFc (fun r41_ u41_ t H1 locs ht hvm hw hB hz1 hk1 hS => ?_)
          have hw : (0 ≤ r41_.toInt ∧ r41_.toInt ≤ 1) ∧ ((-2147483648) ≤ (u41_ 0).toInt ∧ (u41_ 0).toInt ≤ 2147483646) := hw
          obtain ⟨b_, b_⟩ := hw
          obtain ⟨w41_, a41_, b41_, hP1, hK1, hD1⟩ := hB
          rw [ht] at hP1
          obtain ⟨hP, hD⟩ := va_join (wr := []) (w1 := [(h0, .inr (8, mX8 h1 (upd (upd (upd (upd v0 1 (u41_ 0)) 2 (u41_ 1)) 3 (u41_ 2)) 4 (u41_ 3)))), (h1, .inr (6, mX6 h2 h3 h4 h5 h6 h7 h8 h9 v1)), (h4, .inl (k4, 833, .inl f4)), (h3, .inl (k3, 833, .inl f3)), (h2, .inl (k2, 1250, .inl f2))]) hP hD [0, 1, 2, 3, 4] [] rfl rfl (by decide) (by decide) hk1 hFc hP1 hD1
          have hP : va_P (dC, dI) vwCl [(h0, .inr (8, mX8 h1 (upd (upd (upd (upd v0 1 (u41_ 0)) 2 (u41_ 1)) 3 (u41_ 2)) 4 (u41_ 3)))), (h1, .inr (6, mX6 h2 h3 h4 h5 h6 h7 h8 h9 v1)), (h4, .inl (k4, 833, .inl f4)), (h3, .inl (k3, 833, .inl f3)), (h2, .inl (k2, 1250, .inl f2))] H1 := hP.sub [0, 1, 2, 3, 4] rfl
          have hD : va_D A [(h0, .inr (8, mX8 h1 (upd (upd (upd (upd v0 1 (u41_ 0)) 2 (u41_ 1)) 3 (u41_ 2)) 4 (u41_ 3)))), (h1, .inr (6, mX6 h2 h3 h4 h5 h6 h7 h8 h9 v1)), (h4, .inl (k4, 833, .inl f4)), (h3, .inl (k3, 833, .inl f3)), (h2, .inl (k2, 1250, .inl f2))] := hD.sub [0, 1, 2, 3, 4] (by decide) rfl
          generalize H1 = H at hP hS ⊢
          clear hz1
          have b_ : -2147483648 ≤ z39.toInt ∧ z39.toInt ≤ 2147483647 := ⟨zlo _, zhi _⟩
          refine lv_ior hx hb dX8_gamma_44 ?_
          refine lv_topi (fun z44 e_z44 => ?_)
          refine lv_istore_n (lv' := [(2, .int z44), (0, .ref h0), (1, .int (u2_ 0)), (3, .int (u32_ 1))]) hx hb dX8_gamma_45 rfl hl (by decide) rfl (fun ls hl => ?_)
          obtain ⟨z46, e_z46⟩ : ∃ z : Int32, z = (u32_ 1) + Int32.ofInt 1 := ⟨_, rfl⟩
          have b_ := zadd (x := (u32_ 1)) (y := Int32.ofInt 1) rfl (show (Int32.ofInt 1).toInt = 1 from by decide) e_z46 (by omega) (by omega)
          refine lv_iinc (v := z46) (lv' := [(3, .int z46), (2, .int z44), (0, .ref h0), (1, .int (u2_ 0))]) hx hb dX8_gamma_46 hl (k := 3) rfl e_z46.symm (by decide) rfl (fun ls hl => ?_)
          refine lv_goto (tgt := 32) hx hb dX8_gamma_49 (by decide) ?_
          have b_ : -2147483648 ≤ z44.toInt ∧ z44.toInt ≤ 2147483647 := ⟨zlo _, zhi _⟩
          have hc : va_P (dC, dI) vwCl [(h0, .inr (8, mX8 h1 (upd (upd (upd (upd v0 1 (u41_ 0)) 2 (u41_ 1)) 3 (u41_ 2)) 4 (u41_ 3)))), (h1, .inr (6, mX6 h2 h3 h4 h5 h6 h7 h8 h9 v1)), (h4, .inl (k4, 833, .inl f4)), (h3, .inl (k3, 833, .inl f3)), (h2, .inl (k2, 1250, .inl f2))] H ∧ va_D A [(h0, .inr (8, mX8 h1 (upd (upd (upd (upd v0 1 (u41_ 0)) 2 (u41_ 1)) 3 (u41_ 2)) 4 (u41_ 3)))), (h1, .inr (6, mX6 h2 h3 h4 h5 h6 h7 h8 h9 v1)), (h4, .inl (k4, 833, .inl f4)), (h3, .inl (k3, 833, .inl f3)), (h2, .inl (k2, 1250, .inl f2))] ∧ va_S A s.heap H locs ∧ lv_has ls 4 [(0, .ref h0), (1, .int (u2_ 0)), (2, .int z44), (3, .int z46)] ∧ (0 ≤ z46.toInt ∧ z46.toInt ≤ 31) := ⟨hP, hD, hS, lv_sub hl [2, 3, 1, 0] rfl, ⟨by omega, by omega⟩⟩
          exact hJ32 H locs ls (fun i => ([z44, z46, (u41_ 0), (u41_ 1), (u41_ 2), (u41_ 3)] : List (Int32)).getD i 0) (fun _ => 0) (fun _ => (fun _ => 0)) (fun _ => (fun _ => 0)) hc (show (31 - z46.toInt).toNat < (31 - (u32_ 1).toInt).toNat from by omega)
      · skip
        have hc : va_P (dC, dI) vwCl [(h0, .inr (8, mX8 h1 (upd (upd (upd (upd v0 1 (u28_ 0)) 2 (u28_ 1)) 3 (u28_ 2)) 4 (u28_ 3)))), (h1, .inr (6, mX6 h2 h3 h4 h5 h6 h7 h8 h9 v1)), (h4, .inl (k4, 833, .inl f4)), (h3, .inl (k3, 833, .inl f3)), (h2, .inl (k2, 1250, .inl f2))] H ∧ va_D A [(h0, .inr (8, mX8 h1 (upd (upd (upd (upd v0 1 (u28_ 0)) 2 (u28_ 1)) 3 (u28_ 2)) 4 (u28_ 3)))), (h1, .inr (6, mX6 h2 h3 h4 h5 h6 h7 h8 h9 v1)), (h4, .inl (k4, 833, .inl f4)), (h3, .inl (k3, 833, .inl f3)), (h2, .inl (k2, 1250, .inl f2))] ∧ va_S A s.heap H locs ∧ lv_has ls 4 [(0, .ref h0), (1, .int (u2_ 0)), (2, .int 1), (3, .int 0)] ∧ (0 ≤ (0 : Int32).toInt ∧ (0 : Int32).toInt ≤ 31) := ⟨hP, hD, hS, lv_sub hl [2, 3, 1, 0] rfl, ⟨by omega, by omega⟩⟩
        exact hJ32 H locs ls (fun i => ([1, 0, (u28_ 0), (u28_ 1), (u28_ 2), (u28_ 3)] : List (Int32)).getD i 0) (fun _ => 0) (fun _ => (fun _ => 0)) (fun _ => (fun _ => 0)) hc
    · skip
      refine lv_icmp_ge (tgt := 28) hx hb dX8_gamma_5 (by decide) (fun c_ => ?_) (fun c_ => ?_)
      · skip
        have b_ := zT_ge rfl zk_31 c_
        have hc : va_P (dC, dI) vwCl [(h0, .inr (8, mX8 h1 (upd (upd (upd (upd v0 1 (u2_ 1)) 2 (u2_ 2)) 3 (u2_ 3)) 4 (u2_ 4)))), (h1, .inr (6, mX6 h2 h3 h4 h5 h6 h7 h8 h9 v1)), (h4, .inl (k4, 833, .inl f4)), (h3, .inl (k3, 833, .inl f3)), (h2, .inl (k2, 1250, .inl f2))] H ∧ va_D A [(h0, .inr (8, mX8 h1 (upd (upd (upd (upd v0 1 (u2_ 1)) 2 (u2_ 2)) 3 (u2_ 3)) 4 (u2_ 4)))), (h1, .inr (6, mX6 h2 h3 h4 h5 h6 h7 h8 h9 v1)), (h4, .inl (k4, 833, .inl f4)), (h3, .inl (k3, 833, .inl f3)), (h2, .inl (k2, 1250, .inl f2))] ∧ va_S A s.heap H locs ∧ lv_has ls 4 [(0, .ref h0), (1, .int (u2_ 0))] ∧ (0 ≤ (u2_ 0).toInt ∧ (u2_ 0).toInt ≤ 31) := ⟨hP, hD, hS, lv_sub hl [0, 1] rfl, ⟨by omega, by omega⟩⟩
        exact hJ28 H locs ls (fun i => ([(u2_ 1), (u2_ 2), (u2_ 3), (u2_ 4)] : List (Int32)).getD i 0) (fun _ => 0) (fun _ => (fun _ => 0)) (fun _ => (fun _ => 0)) hc
      · skip
        have b_ := zF_ge rfl zk_31 c_
        refine lv_aload_n hx hb dX8_gamma_8 rfl (lv_at hl 0 rfl) ?_
        refine va_get (D := (dC, dI)) (ci := 8) (v := .int (u2_ 1)) (C := RX8) (T := TX8) (N := 9) hx hb hG zuX8 hown hK hP 0 rfl rfl 1 (by decide) (hG _ zw2) (fun _ h9 => h9) rfl dX8_gamma_9 ?_
        have b_ : -2147483648 ≤ (u2_ 1).toInt ∧ (u2_ 1).toInt ≤ 2147483647 := ⟨zlo _, zhi _⟩
        refine lv_if_le (tgt := 28) hx hb dX8_gamma_12 (by decide) (fun c_ => ?_) (fun c_ => ?_)
        · skip
          have b_ := zT_le rfl zk_0 c_
          have hc : va_P (dC, dI) vwCl [(h0, .inr (8, mX8 h1 (upd (upd (upd (upd v0 1 (u2_ 1)) 2 (u2_ 2)) 3 (u2_ 3)) 4 (u2_ 4)))), (h1, .inr (6, mX6 h2 h3 h4 h5 h6 h7 h8 h9 v1)), (h4, .inl (k4, 833, .inl f4)), (h3, .inl (k3, 833, .inl f3)), (h2, .inl (k2, 1250, .inl f2))] H ∧ va_D A [(h0, .inr (8, mX8 h1 (upd (upd (upd (upd v0 1 (u2_ 1)) 2 (u2_ 2)) 3 (u2_ 3)) 4 (u2_ 4)))), (h1, .inr (6, mX6 h2 h3 h4 h5 h6 h7 h8 h9 v1)), (h4, .inl (k4, 833, .inl f4)), (h3, .inl (k3, 833, .inl f3)), (h2, .inl (k2, 1250, .inl f2))] ∧ va_S A s.heap H locs ∧ lv_has ls 4 [(0, .ref h0), (1, .int (u2_ 0))] ∧ (0 ≤ (u2_ 0).toInt ∧ (u2_ 0).toInt ≤ 31) := ⟨hP, hD, hS, lv_sub hl [0, 1] rfl, ⟨by omega, by omega⟩⟩
          exact hJ28 H locs ls (fun i => ([(u2_ 1), (u2_ 2), (u2_ 3), (u2_ 4)] : List (Int32)).getD i 0) (fun _ => 0) (fun _ => (fun _ => 0)) (fun _ => (fun _ => 0)) hc
        · skip
          have b_ := zF_le rfl zk_0 c_
          refine lv_aload_n hx hb dX8_gamma_15 rfl (lv_at hl 0 rfl) ?_
          have b_ : -2147483648 ≤ (u2_ 2).toInt ∧ (u2_ 2).toInt ≤ 2147483647 := ⟨zlo _, zhi _⟩
          have b_ : -2147483648 ≤ (u2_ 3).toInt ∧ (u2_ 3).toInt ≤ 2147483647 := ⟨zlo _, zhi _⟩
          have b_ : -2147483648 ≤ (u2_ 4).toInt ∧ (u2_ 4).toInt ≤ 2147483647 := ⟨zlo _, zhi _⟩
          have hPc := hP.sub (ws' := [(h0, .inr (8, mX8 h1 (upd (upd (upd (upd v0 1 (u2_ 1)) 2 (u2_ 2)) 3 (u2_ 3)) 4 (u2_ 4)))), (h1, .inr (6, mX6 h2 h3 h4 h5 h6 h7 h8 h9 v1)), (h4, .inl (k4, 833, .inl f4)), (h3, .inl (k3, 833, .inl f3)), (h2, .inl (k2, 1250, .inl f2))]) [0, 1, 2, 3, 4] rfl
          have hDc := hD.sub (ws' := [(h0, .inr (8, mX8 h1 (upd (upd (upd (upd v0 1 (u2_ 1)) 2 (u2_ 2)) 3 (u2_ 3)) 4 (u2_ 4)))), (h1, .inr (6, mX6 h2 h3 h4 h5 h6 h7 h8 h9 v1)), (h4, .inl (k4, 833, .inl f4)), (h3, .inl (k3, 833, .inl f3)), (h2, .inl (k2, 1250, .inl f2))]) [0, 1, 2, 3, 4] (by decide) rfl
          have hKc := hK.sub (tys' := [(k4, .int), (k3, .int), (k2, .int)]) [0, 1, 2] rfl
          have hFc := va_free (wc := [(h0, .inr (8, mX8 h1 (upd (upd (upd (upd v0 1 (u2_ 1)) 2 (u2_ 2)) 3 (u2_ 3)) 4 (u2_ 4)))), (h1, .inr (6, mX6 h2 h3 h4 h5 h6 h7 h8 h9 v1)), (h4, .inl (k4, 833, .inl f4)), (h3, .inl (k3, 833, .inl f3)), (h2, .inl (k2, 1250, .inl f2))]) hD hS hA [0, 1, 2, 3, 4] rfl
          refine va_calli (va_runV (As := []) (rest := []) ⟨hx, hb, hml, hown, hG⟩ (sX8_oneBit_0 l dC dI adK adV h0 h1 h4 h3 h2 h5 h6 h7 h8 h9 k4 k3 k2 H.size (upd (upd (upd (upd v0 1 (u2_ 1)) 2 (u2_ 2)) 3 (u2_ 3)) 4 (u2_ 4)) v1 f4 f3 f2 hv1 hf3) (cwV 0 hG (zgV zw24 zw25 zw26 zw27 zw28) rfl rfl rfl (by decide +kernel) ⟨Nat.le_of_ble_eq_true rfl, Nat.le_of_ble_eq_true rfl⟩) ⟨zPc_blind, va_recv hKc hPc (ci := 8) (q0 := 0) rfl rfl, zPc_pre hPc hKc hDc hE hS hFc hZ⟩ rfl rfl hl.1 rfl (lv_room (Nat.le_of_ble_eq_true rfl)) dX8_gamma_16 ⟨Nat.le_of_ble_eq_true rfl, Nat.le_of_ble_eq_true rfl⟩) hS (fun q _ h => hFc q h) hFc (fun r16_ u16_ t H1 locs ht hvm hw hB hz1 hk1 hS => ?_)
          have hw : (0 ≤ r16_.toInt ∧ r16_.toInt ≤ 1) ∧ ((-2147483648) ≤ (u16_ 0).toInt ∧ (u16_ 0).toInt ≤ 2147483646) := hw
          obtain ⟨b_, b_⟩ := hw
          obtain ⟨w16_, a16_, b16_, hP1, hK1, hD1⟩ := hB
          rw [ht] at hP1
          obtain ⟨hP, hD⟩ := va_join (wr := []) (w1 := [(h0, .inr (8, mX8 h1 (upd (upd (upd (upd v0 1 (u16_ 0)) 2 (u16_ 1)) 3 (u16_ 2)) 4 (u16_ 3)))), (h1, .inr (6, mX6 h2 h3 h4 h5 h6 h7 h8 h9 v1)), (h4, .inl (k4, 833, .inl f4)), (h3, .inl (k3, 833, .inl f3)), (h2, .inl (k2, 1250, .inl f2))]) hP hD [0, 1, 2, 3, 4] [] rfl rfl (by decide) (by decide) hk1 hFc hP1 hD1
          have hP : va_P (dC, dI) vwCl [(h0, .inr (8, mX8 h1 (upd (upd (upd (upd v0 1 (u16_ 0)) 2 (u16_ 1)) 3 (u16_ 2)) 4 (u16_ 3)))), (h1, .inr (6, mX6 h2 h3 h4 h5 h6 h7 h8 h9 v1)), (h4, .inl (k4, 833, .inl f4)), (h3, .inl (k3, 833, .inl f3)), (h2, .inl (k2, 1250, .inl f2))] H1 := hP.sub [0, 1, 2, 3, 4] rfl
          have hD : va_D A [(h0, .inr (8, mX8 h1 (upd (upd (upd (upd v0 1 (u16_ 0)) 2 (u16_ 1)) 3 (u16_ 2)) 4 (u16_ 3)))), (h1, .inr (6, mX6 h2 h3 h4 h5 h6 h7 h8 h9 v1)), (h4, .inl (k4, 833, .inl f4)), (h3, .inl (k3, 833, .inl f3)), (h2, .inl (k2, 1250, .inl f2))] := hD.sub [0, 1, 2, 3, 4] (by decide) rfl
          generalize H1 = H at hP hS ⊢
          clear hz1
          refine lv_if_ne (tgt := 28) hx hb dX8_gamma_19 (by decide) (fun c_ => ?_) (fun c_ => ?_)
          · skip
            have b_ := zT_ne rfl zk_0 c_
            have hc : va_P (dC, dI) vwCl [(h0, .inr (8, mX8 h1 (upd (upd (upd (upd v0 1 (u16_ 0)) 2 (u16_ 1)) 3 (u16_ 2)) 4 (u16_ 3)))), (h1, .inr (6, mX6 h2 h3 h4 h5 h6 h7 h8 h9 v1)), (h4, .inl (k4, 833, .inl f4)), (h3, .inl (k3, 833, .inl f3)), (h2, .inl (k2, 1250, .inl f2))] H ∧ va_D A [(h0, .inr (8, mX8 h1 (upd (upd (upd (upd v0 1 (u16_ 0)) 2 (u16_ 1)) 3 (u16_ 2)) 4 (u16_ 3)))), (h1, .inr (6, mX6 h2 h3 h4 h5 h6 h7 h8 h9 v1)), (h4, .inl (k4, 833, .inl f4)), (h3, .inl (k3, 833, .inl f3)), (h2, .inl (k2, 1250, .inl f2))] ∧ va_S A s.heap H locs ∧ lv_has ls 4 [(0, .ref h0), (1, .int (u2_ 0))] ∧ (0 ≤ (u2_ 0).toInt ∧ (u2_ 0).toInt ≤ 31) := ⟨hP, hD, hS, lv_sub hl [0, 1] rfl, ⟨by omega, by omega⟩⟩
            exact hJ28 H locs ls (fun i => ([(u16_ 0), (u16_ 1), (u16_ 2), (u16_ 3)] : List (Int32)).getD i 0) (fun _ => 0) (fun _ => (fun _ => 0)) (fun _ => (fun _ => 0)) hc
          · skip
            have b_ := zF_ne rfl zk_0 c_
            obtain ⟨z22, e_z22⟩ : ∃ z : Int32, z = (u2_ 0) + Int32.ofInt 1 := ⟨_, rfl⟩
            have b_ := zadd (x := (u2_ 0)) (y := Int32.ofInt 1) rfl (show (Int32.ofInt 1).toInt = 1 from by decide) e_z22 (by omega) (by omega)
            refine lv_iinc (v := z22) (lv' := [(1, .int z22), (0, .ref h0)]) hx hb dX8_gamma_22 hl (k := 1) rfl e_z22.symm (by decide) rfl (fun ls hl => ?_)
            refine lv_goto (tgt := 2) hx hb dX8_gamma_25 (by decide) ?_
            have hc : va_P (dC, dI) vwCl [(h0, .inr (8, mX8 h1 (upd (upd (upd (upd v0 1 (u16_ 0)) 2 (u16_ 1)) 3 (u16_ 2)) 4 (u16_ 3)))), (h1, .inr (6, mX6 h2 h3 h4 h5 h6 h7 h8 h9 v1)), (h4, .inl (k4, 833, .inl f4)), (h3, .inl (k3, 833, .inl f3)), (h2, .inl (k2, 1250, .inl f2))] H ∧ va_D A [(h0, .inr (8, mX8 h1 (upd (upd (upd (upd v0 1 (u16_ 0)) 2 (u16_ 1)) 3 (u16_ 2)) 4 (u16_ 3)))), (h1, .inr (6, mX6 h2 h3 h4 h5 h6 h7 h8 h9 v1)), (h4, .inl (k4, 833, .inl f4)), (h3, .inl (k3, 833, .inl f3)), (h2, .inl (k2, 1250, .inl f2))] ∧ va_S A s.heap H locs ∧ lv_has ls 4 [(0, .ref h0), (1, .int z22)] ∧ (0 ≤ z22.toInt ∧ z22.toInt ≤ 31) := ⟨hP, hD, hS, lv_sub hl [1, 0] rfl, ⟨by omega, by omega⟩⟩
            exact hJ2 H locs ls (fun i => ([z22, (u16_ 0), (u16_ 1), (u16_ 2), (u16_ 3)] : List (Int32)).getD i 0) (fun _ => 0) (fun _ => (fun _ => 0)) (fun _ => (fun _ => 0)) hc (show (31 - z22.toInt).toNat < (31 - (u2_ 0).toInt).toNat from by omega)
  · skip
    have hc : va_P (dC, dI) vwCl [(h0, .inr (8, mX8 h1 (upd (upd (upd (upd v0 1 (v0 1)) 2 (v0 2)) 3 (v0 3)) 4 (v0 4)))), (h1, .inr (6, mX6 h2 h3 h4 h5 h6 h7 h8 h9 v1)), (h4, .inl (k4, 833, .inl f4)), (h3, .inl (k3, 833, .inl f3)), (h2, .inl (k2, 1250, .inl f2))] s.heap ∧ va_D A [(h0, .inr (8, mX8 h1 (upd (upd (upd (upd v0 1 (v0 1)) 2 (v0 2)) 3 (v0 3)) 4 (v0 4)))), (h1, .inr (6, mX6 h2 h3 h4 h5 h6 h7 h8 h9 v1)), (h4, .inl (k4, 833, .inl f4)), (h3, .inl (k3, 833, .inl f3)), (h2, .inl (k2, 1250, .inl f2))] ∧ va_S A s.heap s.heap [] ∧ lv_has ls 4 [(0, .ref h0), (1, .int 0)] ∧ (0 ≤ (0 : Int32).toInt ∧ (0 : Int32).toInt ≤ 31) := ⟨hP, hD, hS, lv_sub hl [1, 0] rfl, ⟨by omega, by omega⟩⟩
    exact hJ2 s.heap [] ls (fun i => ([0, (v0 1), (v0 2), (v0 3), (v0 4)] : List (Int32)).getD i 0) (fun _ => 0) (fun _ => (fun _ => 0)) (fun _ => (fun _ => 0)) hc
set_option maxHeartbeats 8000000 in
set_option maxRecDepth 100000 in
theorem sX8_nextDocument_0 (l : Launch) (dC : Nat → ClassId) (dI : Nat → Nat → Nat) (adK adV : Nat → Nat) (h0 : Nat) (h1 : Nat) (h4 : Nat) (h3 : Nat) (h2 : Nat) (h5 : Nat) (h6 : Nat) (h7 : Nat) (h8 : Nat) (h9 : Nat) (k4 : ClassId) (k3 : ClassId) (k2 : ClassId) (sz : Nat) (v0 : Nat → Int32) (v1 : Nat → Int32) (f4 : Nat → Int32) (f3 : Nat → Int32) (f2 : Nat → Int32) (hv1 : zR rg_Postings v1) (hf3 : zA 0 1250 f3) : Met l yX8_nextDocument (zw yX8_nextDocument cX8_nextDocument 2 (some .boolean)) { frames := 3, cells := 0, slots := 0, locals := 67 } (zPc dC dI adK adV [.ref h0] sz [(h0, .inr (8, mX8 h1 v0)), (h1, .inr (6, mX6 h2 h3 h4 h5 h6 h7 h8 h9 v1)), (h4, .inl (k4, 833, .inl f4)), (h3, .inl (k3, 833, .inl f3)), (h2, .inl (k2, 1250, .inl f2))] [(k4, .int), (k3, .int), (k2, .int)]) (va_Qi (fun (r : Int32) (u : Nat → Int32) => (0 ≤ r.toInt ∧ r.toInt ≤ 1)) (fun (u : Nat → Int32) (t : State) => ∃ (ww : Nat → Int64) (aa : Nat → Nat → Int32) (bb : Nat → Nat → Int64), va_P (dC, dI) vwCl [(h0, .inr (8, mX8 h1 (upd (upd (upd (upd (upd (upd (upd (upd v0 1 (u 0)) 2 (u 1)) 3 (u 2)) 4 (u 3)) 5 (u 4)) 6 (u 5)) 7 (u 6)) 8 (u 7)))), (h1, .inr (6, mX6 h2 h3 h4 h5 h6 h7 h8 h9 v1)), (h4, .inl (k4, 833, .inl f4)), (h3, .inl (k3, 833, .inl f3)), (h2, .inl (k2, 1250, .inl f2))] t.heap ∧ va_K (dC, dI) vwCl [(k4, .int), (k3, .int), (k2, .int)] t ∧ va_D (va_A [(h0, .inr (8, mX8 h1 v0)), (h1, .inr (6, mX6 h2 h3 h4 h5 h6 h7 h8 h9 v1)), (h4, .inl (k4, 833, .inl f4)), (h3, .inl (k3, 833, .inl f3)), (h2, .inl (k2, 1250, .inl f2))] sz) [(h0, .inr (8, mX8 h1 (upd (upd (upd (upd (upd (upd (upd (upd v0 1 (u 0)) 2 (u 1)) 3 (u 2)) 4 (u 3)) 5 (u 4)) 6 (u 5)) 7 (u 6)) 8 (u 7)))), (h1, .inr (6, mX6 h2 h3 h4 h5 h6 h7 h8 h9 v1)), (h4, .inl (k4, 833, .inl f4)), (h3, .inl (k3, 833, .inl f3)), (h2, .inl (k2, 1250, .inl f2))]) (va_A [(h0, .inr (8, mX8 h1 v0)), (h1, .inr (6, mX6 h2 h3 h4 h5 h6 h7 h8 h9 v1)), (h4, .inl (k4, 833, .inl f4)), (h3, .inl (k3, 833, .inl f3)), (h2, .inl (k2, 1250, .inl f2))] sz)) 0 0 (va_A [(h0, .inr (8, mX8 h1 v0)), (h1, .inr (6, mX6 h2 h3 h4 h5 h6 h7 h8 h9 v1)), (h4, .inl (k4, 833, .inl f4)), (h3, .inl (k3, 833, .inl f3)), (h2, .inl (k2, 1250, .inl f2))] sz) := by
  refine Met.ofW (cc := cX8_nextDocument) (maxL := 2) (ret := (some .boolean)) (by decide) rfl ?_
  intro p e s m args below meth c s₁ B hml hv
  obtain ⟨rfl, hsz, hP, hK, hD0, hE, hZ⟩ := hv
  have hx := B.exec
  have hb := B.bytes
  have hr := B.returns
  have hG : ∀ w ∈ zG, w.before _ s = true := fun w h => atoms_spec (ws := (zw yX8_nextDocument cX8_nextDocument 2 (some .boolean))) B.pre w (List.mem_cons_of_mem _ h)
  have hown : s.vm.findClass RX8 = some m.cls := findClass_of_methodNamed B.named
  have hlocks := B.notSynchronized
  subst hsz
  have hD := hD0.self (sz := s.heap.size)
  generalize hAe : va_A [(h0, .inr (8, mX8 h1 v0)), (h1, .inr (6, mX6 h2 h3 h4 h5 h6 h7 h8 h9 v1)), (h4, .inl (k4, 833, .inl f4)), (h3, .inl (k3, 833, .inl f3)), (h2, .inl (k2, 1250, .inl f2))] s.heap.size = A at hD hZ ⊢
  have hA : ∀ q : Nat, s.heap.size ≤ q → A q := fun q h => by rw [← hAe]; exact Or.inr h
  have hS : va_S A s.heap s.heap [] := va_S.rf
  have hl := lv_entry ([.ref h0]) (n := 2) (Nat.le_of_ble_eq_true rfl)
  rw [lg_entry_eq]
  generalize (lg_sl ([.ref h0]) ++ List.replicate (2 - (lg_sl ([.ref h0])).length) Slot.unset).toArray = ls at hl ⊢
  have hl : lv_has ls 2 [(0, .ref h0)] := hl
  have b_ := zk_0
  have b_ := zk_1
  refine lv_aload_n hx hb dX8_nextDocument_0 rfl (lv_at hl 0 rfl) ?_
  refine va_get (D := (dC, dI)) (ci := 8) (v := .int (v0 7)) (C := RX8) (T := TX8) (N := 9) hx hb hG zuX8 hown hK hP 0 rfl rfl 7 (by decide) (hG _ zw0) (fun _ h9 => h9) rfl dX8_nextDocument_1 ?_
  refine lv_istore_n (lv' := [(1, .int (v0 7)), (0, .ref h0)]) hx hb dX8_nextDocument_4 rfl hl (by decide) rfl (fun ls hl => ?_)
  refine zcutL (fun u5_ => ((u5_ 0).toInt - (-2147483648)).toNat) (fun H locs ls u5_ w5_ a5_ b5_ => va_P (dC, dI) vwCl [(h0, .inr (8, mX8 h1 (upd (upd (upd (upd v0 1 (u5_ 1)) 2 (u5_ 2)) 3 (u5_ 3)) 4 (u5_ 4)))), (h1, .inr (6, mX6 h2 h3 h4 h5 h6 h7 h8 h9 v1)), (h4, .inl (k4, 833, .inl f4)), (h3, .inl (k3, 833, .inl f3)), (h2, .inl (k2, 1250, .inl f2))] H ∧ va_D A [(h0, .inr (8, mX8 h1 (upd (upd (upd (upd v0 1 (u5_ 1)) 2 (u5_ 2)) 3 (u5_ 3)) 4 (u5_ 4)))), (h1, .inr (6, mX6 h2 h3 h4 h5 h6 h7 h8 h9 v1)), (h4, .inl (k4, 833, .inl f4)), (h3, .inl (k3, 833, .inl f3)), (h2, .inl (k2, 1250, .inl f2))] ∧ va_S A s.heap H locs ∧ lv_has ls 2 [(0, .ref h0), (1, .int (u5_ 0))]) (fun ls u5_ w5_ => F0 m 5 ls []) 0 0 ?_ (fun hJ5 => ?_)
  · skip
    intro H locs ls u5_ w5_ a5_ b5_ hc hJ5
    obtain ⟨hP, hD, hS, hl⟩ := hc
    refine lv_iload_n hx hb dX8_nextDocument_5 rfl (lv_at hl 1 rfl) ?_
    have b_ : -2147483648 ≤ (u5_ 0).toInt ∧ (u5_ 0).toInt ≤ 2147483647 := ⟨zlo _, zhi _⟩
    refine lv_if_le (tgt := 20) hx hb dX8_nextDocument_6 (by decide) (fun c_ => ?_) (fun c_ => ?_)
    · skip
      have b_ := zT_le rfl zk_0 c_
      refine lv_aload_n hx hb dX8_nextDocument_20 rfl (lv_at hl 0 rfl) ?_
      refine lv_iconst (v := 0) hx hb dX8_nextDocument_21 (by decide) ?_
      refine va_put (D := (dC, dI)) (ci := 8) (v := .int 0) (ty := .int) (C := RX8) (T := TX8) (N := 9) hx hb hG zuX8 tyX8 tyX8_ok nmX8 hown hK hP hD hS 0 rfl rfl 7 (by decide) (hG _ zw0) (fun _ h9 => h9) rfl (by decide +kernel) rfl rfl (Nat.le_of_ble_eq_true rfl) dX8_nextDocument_22 (fun H locs hP hD hS => ?_)
      have hP : va_P (dC, dI) vwCl [(h0, .inr (8, mX8 h1 (upd (upd (upd (upd (upd v0 1 (u5_ 1)) 2 (u5_ 2)) 3 (u5_ 3)) 4 (u5_ 4)) 7 0))), (h1, .inr (6, mX6 h2 h3 h4 h5 h6 h7 h8 h9 v1)), (h4, .inl (k4, 833, .inl f4)), (h3, .inl (k3, 833, .inl f3)), (h2, .inl (k2, 1250, .inl f2))] H := hP
      have hD : va_D A [(h0, .inr (8, mX8 h1 (upd (upd (upd (upd (upd v0 1 (u5_ 1)) 2 (u5_ 2)) 3 (u5_ 3)) 4 (u5_ 4)) 7 0))), (h1, .inr (6, mX6 h2 h3 h4 h5 h6 h7 h8 h9 v1)), (h4, .inl (k4, 833, .inl f4)), (h3, .inl (k3, 833, .inl f3)), (h2, .inl (k2, 1250, .inl f2))] := hD
      refine lv_aload_n hx hb dX8_nextDocument_25 rfl (lv_at hl 0 rfl) ?_
      refine lv_iconst (v := 0) hx hb dX8_nextDocument_26 (by decide) ?_
      refine va_put (D := (dC, dI)) (ci := 8) (v := .int 0) (ty := .int) (C := RX8) (T := TX8) (N := 9) hx hb hG zuX8 tyX8 tyX8_ok nmX8 hown hK hP hD hS 0 rfl rfl 6 (by decide) (hG _ zw1) (fun _ h9 => h9) rfl (by decide +kernel) rfl rfl (Nat.le_of_ble_eq_true rfl) dX8_nextDocument_27 (fun H locs hP hD hS => ?_)
      have hP : va_P (dC, dI) vwCl [(h0, .inr (8, mX8 h1 (upd (upd (upd (upd (upd (upd v0 1 (u5_ 1)) 2 (u5_ 2)) 3 (u5_ 3)) 4 (u5_ 4)) 6 0) 7 0))), (h1, .inr (6, mX6 h2 h3 h4 h5 h6 h7 h8 h9 v1)), (h4, .inl (k4, 833, .inl f4)), (h3, .inl (k3, 833, .inl f3)), (h2, .inl (k2, 1250, .inl f2))] H := hP
      have hD : va_D A [(h0, .inr (8, mX8 h1 (upd (upd (upd (upd (upd (upd v0 1 (u5_ 1)) 2 (u5_ 2)) 3 (u5_ 3)) 4 (u5_ 4)) 6 0) 7 0))), (h1, .inr (6, mX6 h2 h3 h4 h5 h6 h7 h8 h9 v1)), (h4, .inl (k4, 833, .inl f4)), (h3, .inl (k3, 833, .inl f3)), (h2, .inl (k2, 1250, .inl f2))] := hD
      refine lv_aload_n hx hb dX8_nextDocument_30 rfl (lv_at hl 0 rfl) ?_
      refine va_get (D := (dC, dI)) (ci := 8) (v := .int (u5_ 1)) (C := RX8) (T := TX8) (N := 9) hx hb hG zuX8 hown hK hP 0 rfl rfl 1 (by decide) (hG _ zw2) (fun _ h9 => h9) rfl dX8_nextDocument_31 ?_
      have b_ : -2147483648 ≤ (u5_ 1).toInt ∧ (u5_ 1).toInt ≤ 2147483647 := ⟨zlo _, zhi _⟩
      refine lv_if_ne (tgt := 45) hx hb dX8_nextDocument_34 (by decide) (fun c_ => ?_) (fun c_ => ?_)
      · skip
        have b_ := zT_ne rfl zk_0 c_
        refine lv_aload_n hx hb dX8_nextDocument_45 rfl (lv_at hl 0 rfl) ?_
        refine lv_dup hx hb dX8_nextDocument_46 rfl ?_
        refine va_get (D := (dC, dI)) (ci := 8) (v := .int (v0 5)) (C := RX8) (T := TX8) (N := 9) hx hb hG zuX8 hown hK hP 0 rfl rfl 5 (by decide) (hG _ zw3) (fun _ h9 => h9) rfl dX8_nextDocument_47 ?_
        refine lv_aload_n hx hb dX8_nextDocument_50 rfl (lv_at hl 0 rfl) ?_
        have b_ : -2147483648 ≤ (u5_ 2).toInt ∧ (u5_ 2).toInt ≤ 2147483647 := ⟨zlo _, zhi _⟩
        have b_ : -2147483648 ≤ (u5_ 3).toInt ∧ (u5_ 3).toInt ≤ 2147483647 := ⟨zlo _, zhi _⟩
        have b_ : -2147483648 ≤ (u5_ 4).toInt ∧ (u5_ 4).toInt ≤ 2147483647 := ⟨zlo _, zhi _⟩
        have hPc := hP.sub (ws' := [(h0, .inr (8, mX8 h1 (upd (upd (upd (upd (upd (upd v0 1 (u5_ 1)) 2 (u5_ 2)) 3 (u5_ 3)) 4 (u5_ 4)) 6 0) 7 0))), (h1, .inr (6, mX6 h2 h3 h4 h5 h6 h7 h8 h9 v1)), (h4, .inl (k4, 833, .inl f4)), (h3, .inl (k3, 833, .inl f3)), (h2, .inl (k2, 1250, .inl f2))]) [0, 1, 2, 3, 4] rfl
        have hDc := hD.sub (ws' := [(h0, .inr (8, mX8 h1 (upd (upd (upd (upd (upd (upd v0 1 (u5_ 1)) 2 (u5_ 2)) 3 (u5_ 3)) 4 (u5_ 4)) 6 0) 7 0))), (h1, .inr (6, mX6 h2 h3 h4 h5 h6 h7 h8 h9 v1)), (h4, .inl (k4, 833, .inl f4)), (h3, .inl (k3, 833, .inl f3)), (h2, .inl (k2, 1250, .inl f2))]) [0, 1, 2, 3, 4] (by decide) rfl
        have hKc := hK.sub (tys' := [(k4, .int), (k3, .int), (k2, .int)]) [0, 1, 2] rfl
        have hFc := va_free (wc := [(h0, .inr (8, mX8 h1 (upd (upd (upd (upd (upd (upd v0 1 (u5_ 1)) 2 (u5_ 2)) 3 (u5_ 3)) 4 (u5_ 4)) 6 0) 7 0))), (h1, .inr (6, mX6 h2 h3 h4 h5 h6 h7 h8 h9 v1)), (h4, .inl (k4, 833, .inl f4)), (h3, .inl (k3, 833, .inl f3)), (h2, .inl (k2, 1250, .inl f2))]) hD hS hA [0, 1, 2, 3, 4] rfl
        refine va_calli (va_runV (As := []) (rest := [.int (v0 5), .ref h0]) ⟨hx, hb, hml, hown, hG⟩ (sX8_gamma_0 l dC dI adK adV h0 h1 h4 h3 h2 h5 h6 h7 h8 h9 k4 k3 k2 H.size (upd (upd (upd (upd (upd (upd v0 1 (u5_ 1)) 2 (u5_ 2)) 3 (u5_ 3)) 4 (u5_ 4)) 6 0) 7 0) v1 f4 f3 f2 hv1 hf3) (cwV 0 hG (zgV zw30 zw31 zw32 zw27 zw33) rfl rfl rfl (by decide +kernel) ⟨Nat.le_of_ble_eq_true rfl, Nat.le_of_ble_eq_true rfl⟩) ⟨zPc_blind, va_recv hKc hPc (ci := 8) (q0 := 0) rfl rfl, zPc_pre hPc hKc hDc hE hS hFc hZ⟩ rfl rfl hl.1 rfl (lv_room (Nat.le_of_ble_eq_true rfl)) dX8_nextDocument_51 ⟨Nat.le_of_ble_eq_true rfl, Nat.le_of_ble_eq_true rfl⟩) hS (fun q _ h => hFc q h) hFc (fun r51_ u51_ t H1 locs ht hvm hw hB hz1 hk1 hS => ?_)
        obtain ⟨w51_, a51_, b51_, hP1, hK1, hD1⟩ := hB
        rw [ht] at hP1
        obtain ⟨hP, hD⟩ := va_join (wr := []) (w1 := [(h0, .inr (8, mX8 h1 (upd (upd (upd (upd (upd (upd v0 1 (u51_ 0)) 2 (u51_ 1)) 3 (u51_ 2)) 4 (u51_ 3)) 6 0) 7 0))), (h1, .inr (6, mX6 h2 h3 h4 h5 h6 h7 h8 h9 v1)), (h4, .inl (k4, 833, .inl f4)), (h3, .inl (k3, 833, .inl f3)), (h2, .inl (k2, 1250, .inl f2))]) hP hD [0, 1, 2, 3, 4] [] rfl rfl (by decide) (by decide) hk1 hFc hP1 hD1
        have hP : va_P (dC, dI) vwCl [(h0, .inr (8, mX8 h1 (upd (upd (upd (upd (upd (upd v0 1 (u51_ 0)) 2 (u51_ 1)) 3 (u51_ 2)) 4 (u51_ 3)) 6 0) 7 0))), (h1, .inr (6, mX6 h2 h3 h4 h5 h6 h7 h8 h9 v1)), (h4, .inl (k4, 833, .inl f4)), (h3, .inl (k3, 833, .inl f3)), (h2, .inl (k2, 1250, .inl f2))] H1 := hP.sub [0, 1, 2, 3, 4] rfl
        have hD : va_D A [(h0, .inr (8, mX8 h1 (upd (upd (upd (upd (upd (upd v0 1 (u51_ 0)) 2 (u51_ 1)) 3 (u51_ 2)) 4 (u51_ 3)) 6 0) 7 0))), (h1, .inr (6, mX6 h2 h3 h4 h5 h6 h7 h8 h9 v1)), (h4, .inl (k4, 833, .inl f4)), (h3, .inl (k3, 833, .inl f3)), (h2, .inl (k2, 1250, .inl f2))] := hD.sub [0, 1, 2, 3, 4] (by decide) rfl
        generalize H1 = H at hP hS ⊢
        clear hz1
        have b_ : -2147483648 ≤ (v0 5).toInt ∧ (v0 5).toInt ≤ 2147483647 := ⟨zlo _, zhi _⟩
        have b_ : -2147483648 ≤ r51_.toInt ∧ r51_.toInt ≤ 2147483647 := ⟨zlo _, zhi _⟩
        refine lv_iadd hx hb dX8_nextDocument_54 ?_
        refine lv_topi (fun z54 e_z54 => ?_)
        refine va_put (D := (dC, dI)) (ci := 8) (v := .int z54) (ty := .int) (C := RX8) (T := TX8) (N := 9) hx hb hG zuX8 tyX8 tyX8_ok nmX8 hown hK hP hD hS 0 rfl rfl 5 (by decide) (hG _ zw3) (fun _ h9 => h9) rfl (by decide +kernel) rfl rfl (Nat.le_of_ble_eq_true rfl) dX8_nextDocument_55 (fun H locs hP hD hS => ?_)
        have hP : va_P (dC, dI) vwCl [(h0, .inr (8, mX8 h1 (upd (upd (upd (upd (upd (upd (upd v0 1 (u51_ 0)) 2 (u51_ 1)) 3 (u51_ 2)) 4 (u51_ 3)) 5 z54) 6 0) 7 0))), (h1, .inr (6, mX6 h2 h3 h4 h5 h6 h7 h8 h9 v1)), (h4, .inl (k4, 833, .inl f4)), (h3, .inl (k3, 833, .inl f3)), (h2, .inl (k2, 1250, .inl f2))] H := hP
        have hD : va_D A [(h0, .inr (8, mX8 h1 (upd (upd (upd (upd (upd (upd (upd v0 1 (u51_ 0)) 2 (u51_ 1)) 3 (u51_ 2)) 4 (u51_ 3)) 5 z54) 6 0) 7 0))), (h1, .inr (6, mX6 h2 h3 h4 h5 h6 h7 h8 h9 v1)), (h4, .inl (k4, 833, .inl f4)), (h3, .inl (k3, 833, .inl f3)), (h2, .inl (k2, 1250, .inl f2))] := hD
        refine lv_aload_n hx hb dX8_nextDocument_58 rfl (lv_at hl 0 rfl) ?_
        refine lv_aload_n hx hb dX8_nextDocument_59 rfl (lv_at hl 0 rfl) ?_
        have b_ : -2147483648 ≤ (u51_ 0).toInt ∧ (u51_ 0).toInt ≤ 2147483647 := ⟨zlo _, zhi _⟩
        have b_ : -2147483648 ≤ (u51_ 1).toInt ∧ (u51_ 1).toInt ≤ 2147483647 := ⟨zlo _, zhi _⟩
        have b_ : -2147483648 ≤ (u51_ 2).toInt ∧ (u51_ 2).toInt ≤ 2147483647 := ⟨zlo _, zhi _⟩
        have b_ : -2147483648 ≤ (u51_ 3).toInt ∧ (u51_ 3).toInt ≤ 2147483647 := ⟨zlo _, zhi _⟩
        have b_ : -2147483648 ≤ z54.toInt ∧ z54.toInt ≤ 2147483647 := ⟨zlo _, zhi _⟩
        have hPc := hP.sub (ws' := [(h0, .inr (8, mX8 h1 (upd (upd (upd (upd (upd (upd (upd v0 1 (u51_ 0)) 2 (u51_ 1)) 3 (u51_ 2)) 4 (u51_ 3)) 5 z54) 6 0) 7 0))), (h1, .inr (6, mX6 h2 h3 h4 h5 h6 h7 h8 h9 v1)), (h4, .inl (k4, 833, .inl f4)), (h3, .inl (k3, 833, .inl f3)), (h2, .inl (k2, 1250, .inl f2))]) [0, 1, 2, 3, 4] rfl
        have hDc := hD.sub (ws' := [(h0, .inr (8, mX8 h1 (upd (upd (upd (upd (upd (upd (upd v0 1 (u51_ 0)) 2 (u51_ 1)) 3 (u51_ 2)) 4 (u51_ 3)) 5 z54) 6 0) 7 0))), (h1, .inr (6, mX6 h2 h3 h4 h5 h6 h7 h8 h9 v1)), (h4, .inl (k4, 833, .inl f4)), (h3, .inl (k3, 833, .inl f3)), (h2, .inl (k2, 1250, .inl f2))]) [0, 1, 2, 3, 4] (by decide) rfl
        have hKc := hK.sub (tys' := [(k4, .int), (k3, .int), (k2, .int)]) [0, 1, 2] rfl
        have hFc := va_free (wc := [(h0, .inr (8, mX8 h1 (upd (upd (upd (upd (upd (upd (upd v0 1 (u51_ 0)) 2 (u51_ 1)) 3 (u51_ 2)) 4 (u51_ 3)) 5 z54) 6 0) 7 0))), (h1, .inr (6, mX6 h2 h3 h4 h5 h6 h7 h8 h9 v1)), (h4, .inl (k4, 833, .inl f4)), (h3, .inl (k3, 833, .inl f3)), (h2, .inl (k2, 1250, .inl f2))]) hD hS hA [0, 1, 2, 3, 4] rfl
        refine va_calli (va_runV (As := []) (rest := [.ref h0]) ⟨hx, hb, hml, hown, hG⟩ (sX8_gamma_0 l dC dI adK adV h0 h1 h4 h3 h2 h5 h6 h7 h8 h9 k4 k3 k2 H.size (upd (upd (upd (upd (upd (upd (upd v0 1 (u51_ 0)) 2 (u51_ 1)) 3 (u51_ 2)) 4 (u51_ 3)) 5 z54) 6 0) 7 0) v1 f4 f3 f2 hv1 hf3) (cwV 0 hG (zgV zw30 zw31 zw32 zw27 zw33) rfl rfl rfl (by decide +kernel) ⟨Nat.le_of_ble_eq_true rfl, Nat.le_of_ble_eq_true rfl⟩) ⟨zPc_blind, va_recv hKc hPc (ci := 8) (q0 := 0) rfl rfl, zPc_pre hPc hKc hDc hE hS hFc hZ⟩ rfl rfl hl.1 rfl (lv_room (Nat.le_of_ble_eq_true rfl)) dX8_nextDocument_60 ⟨Nat.le_of_ble_eq_true rfl, Nat.le_of_ble_eq_true rfl⟩) hS (fun q _ h => hFc q h) hFc (fun r60_ u60_ t H1 locs ht hvm hw hB hz1 hk1 hS => ?_)
        obtain ⟨w60_, a60_, b60_, hP1, hK1, hD1⟩ := hB
        rw [ht] at hP1
        obtain ⟨hP, hD⟩ := va_join (wr := []) (w1 := [(h0, .inr (8, mX8 h1 (upd (upd (upd (upd (upd (upd (upd v0 1 (u60_ 0)) 2 (u60_ 1)) 3 (u60_ 2)) 4 (u60_ 3)) 5 z54) 6 0) 7 0))), (h1, .inr (6, mX6 h2 h3 h4 h5 h6 h7 h8 h9 v1)), (h4, .inl (k4, 833, .inl f4)), (h3, .inl (k3, 833, .inl f3)), (h2, .inl (k2, 1250, .inl f2))]) hP hD [0, 1, 2, 3, 4] [] rfl rfl (by decide) (by decide) hk1 hFc hP1 hD1
        have hP : va_P (dC, dI) vwCl [(h0, .inr (8, mX8 h1 (upd (upd (upd (upd (upd (upd (upd v0 1 (u60_ 0)) 2 (u60_ 1)) 3 (u60_ 2)) 4 (u60_ 3)) 5 z54) 6 0) 7 0))), (h1, .inr (6, mX6 h2 h3 h4 h5 h6 h7 h8 h9 v1)), (h4, .inl (k4, 833, .inl f4)), (h3, .inl (k3, 833, .inl f3)), (h2, .inl (k2, 1250, .inl f2))] H1 := hP.sub [0, 1, 2, 3, 4] rfl
        have hD : va_D A [(h0, .inr (8, mX8 h1 (upd (upd (upd (upd (upd (upd (upd v0 1 (u60_ 0)) 2 (u60_ 1)) 3 (u60_ 2)) 4 (u60_ 3)) 5 z54) 6 0) 7 0))), (h1, .inr (6, mX6 h2 h3 h4 h5 h6 h7 h8 h9 v1)), (h4, .inl (k4, 833, .inl f4)), (h3, .inl (k3, 833, .inl f3)), (h2, .inl (k2, 1250, .inl f2))] := hD.sub [0, 1, 2, 3, 4] (by decide) rfl
        generalize H1 = H at hP hS ⊢
        clear hz1
        refine va_put (D := (dC, dI)) (ci := 8) (v := .int r60_) (ty := .int) (C := RX8) (T := TX8) (N := 9) hx hb hG zuX8 tyX8 tyX8_ok nmX8 hown hK hP hD hS 0 rfl rfl 6 (by decide) (hG _ zw1) (fun _ h9 => h9) rfl (by decide +kernel) rfl rfl (Nat.le_of_ble_eq_true rfl) dX8_nextDocument_63 (fun H locs hP hD hS => ?_)
        have hP : va_P (dC, dI) vwCl [(h0, .inr (8, mX8 h1 (upd (upd (upd (upd (upd (upd (upd v0 1 (u60_ 0)) 2 (u60_ 1)) 3 (u60_ 2)) 4 (u60_ 3)) 5 z54) 6 r60_) 7 0))), (h1, .inr (6, mX6 h2 h3 h4 h5 h6 h7 h8 h9 v1)), (h4, .inl (k4, 833, .inl f4)), (h3, .inl (k3, 833, .inl f3)), (h2, .inl (k2, 1250, .inl f2))] H := hP
        have hD : va_D A [(h0, .inr (8, mX8 h1 (upd (upd (upd (upd (upd (upd (upd v0 1 (u60_ 0)) 2 (u60_ 1)) 3 (u60_ 2)) 4 (u60_ 3)) 5 z54) 6 r60_) 7 0))), (h1, .inr (6, mX6 h2 h3 h4 h5 h6 h7 h8 h9 v1)), (h4, .inl (k4, 833, .inl f4)), (h3, .inl (k3, 833, .inl f3)), (h2, .inl (k2, 1250, .inl f2))] := hD
        refine lv_aload_n hx hb dX8_nextDocument_66 rfl (lv_at hl 0 rfl) ?_
        refine lv_aload_n hx hb dX8_nextDocument_67 rfl (lv_at hl 0 rfl) ?_
        refine va_get (D := (dC, dI)) (ci := 8) (v := .int r60_) (C := RX8) (T := TX8) (N := 9) hx hb hG zuX8 hown hK hP 0 rfl rfl 6 (by decide) (hG _ zw1) (fun _ h9 => h9) rfl dX8_nextDocument_68 ?_
        refine va_put (D := (dC, dI)) (ci := 8) (v := .int r60_) (ty := .int) (C := RX8) (T := TX8) (N := 9) hx hb hG zuX8 tyX8 tyX8_ok nmX8 hown hK hP hD hS 0 rfl rfl 7 (by decide) (hG _ zw0) (fun _ h9 => h9) rfl (by decide +kernel) rfl rfl (Nat.le_of_ble_eq_true rfl) dX8_nextDocument_71 (fun H locs hP hD hS => ?_)
        have hP : va_P (dC, dI) vwCl [(h0, .inr (8, mX8 h1 (upd (upd (upd (upd (upd (upd (upd v0 1 (u60_ 0)) 2 (u60_ 1)) 3 (u60_ 2)) 4 (u60_ 3)) 5 z54) 6 r60_) 7 r60_))), (h1, .inr (6, mX6 h2 h3 h4 h5 h6 h7 h8 h9 v1)), (h4, .inl (k4, 833, .inl f4)), (h3, .inl (k3, 833, .inl f3)), (h2, .inl (k2, 1250, .inl f2))] H := hP
        have hD : va_D A [(h0, .inr (8, mX8 h1 (upd (upd (upd (upd (upd (upd (upd v0 1 (u60_ 0)) 2 (u60_ 1)) 3 (u60_ 2)) 4 (u60_ 3)) 5 z54) 6 r60_) 7 r60_))), (h1, .inr (6, mX6 h2 h3 h4 h5 h6 h7 h8 h9 v1)), (h4, .inl (k4, 833, .inl f4)), (h3, .inl (k3, 833, .inl f3)), (h2, .inl (k2, 1250, .inl f2))] := hD
        refine lv_aload_n hx hb dX8_nextDocument_74 rfl (lv_at hl 0 rfl) ?_
        refine lv_iconst (v := (-1)) hx hb dX8_nextDocument_75 (by decide) ?_
        refine va_put (D := (dC, dI)) (ci := 8) (v := .int (-1)) (ty := .int) (C := RX8) (T := TX8) (N := 9) hx hb hG zuX8 tyX8 tyX8_ok nmX8 hown hK hP hD hS 0 rfl rfl 8 (by decide) (hG _ zw29) (fun _ h9 => h9) rfl (by decide +kernel) rfl rfl (Nat.le_of_ble_eq_true rfl) dX8_nextDocument_76 (fun H locs hP hD hS => ?_)
        have hP : va_P (dC, dI) vwCl [(h0, .inr (8, mX8 h1 (upd (upd (upd (upd (upd (upd (upd (upd v0 1 (u60_ 0)) 2 (u60_ 1)) 3 (u60_ 2)) 4 (u60_ 3)) 5 z54) 6 r60_) 7 r60_) 8 (-1)))), (h1, .inr (6, mX6 h2 h3 h4 h5 h6 h7 h8 h9 v1)), (h4, .inl (k4, 833, .inl f4)), (h3, .inl (k3, 833, .inl f3)), (h2, .inl (k2, 1250, .inl f2))] H := hP
        have hD : va_D A [(h0, .inr (8, mX8 h1 (upd (upd (upd (upd (upd (upd (upd (upd v0 1 (u60_ 0)) 2 (u60_ 1)) 3 (u60_ 2)) 4 (u60_ 3)) 5 z54) 6 r60_) 7 r60_) 8 (-1)))), (h1, .inr (6, mX6 h2 h3 h4 h5 h6 h7 h8 h9 v1)), (h4, .inl (k4, 833, .inl f4)), (h3, .inl (k3, 833, .inl f3)), (h2, .inl (k2, 1250, .inl f2))] := hD
        refine lv_iconst (v := 1) hx hb dX8_nextDocument_79 (by decide) ?_
        refine W.widen (k := 0) (n := 0) (by decide) (by decide) ?_
        have b_ : -2147483648 ≤ (u60_ 0).toInt ∧ (u60_ 0).toInt ≤ 2147483647 := ⟨zlo _, zhi _⟩
        have b_ : -2147483648 ≤ (u60_ 1).toInt ∧ (u60_ 1).toInt ≤ 2147483647 := ⟨zlo _, zhi _⟩
        have b_ : -2147483648 ≤ (u60_ 2).toInt ∧ (u60_ 2).toInt ≤ 2147483647 := ⟨zlo _, zhi _⟩
        have b_ : -2147483648 ≤ (u60_ 3).toInt ∧ (u60_ 3).toInt ≤ 2147483647 := ⟨zlo _, zhi _⟩
        have b_ : -2147483648 ≤ r60_.toInt ∧ r60_.toInt ≤ 2147483647 := ⟨zlo _, zhi _⟩
        have hpost : (0 ≤ (1 : Int32).toInt ∧ (1 : Int32).toInt ≤ 1) := ⟨by omega, by omega⟩
        have hP9 : va_P (dC, dI) vwCl [(h0, .inr (8, mX8 h1 (upd (upd (upd (upd (upd (upd (upd (upd v0 1 (u60_ 0)) 2 (u60_ 1)) 3 (u60_ 2)) 4 (u60_ 3)) 5 z54) 6 r60_) 7 r60_) 8 (-1)))), (h1, .inr (6, mX6 h2 h3 h4 h5 h6 h7 h8 h9 v1)), (h4, .inl (k4, 833, .inl f4)), (h3, .inl (k3, 833, .inl f3)), (h2, .inl (k2, 1250, .inl f2))] H := hP
        have hD9 : va_D A [(h0, .inr (8, mX8 h1 (upd (upd (upd (upd (upd (upd (upd (upd v0 1 (u60_ 0)) 2 (u60_ 1)) 3 (u60_ 2)) 4 (u60_ 3)) 5 z54) 6 r60_) 7 r60_) 8 (-1)))), (h1, .inr (6, mX6 h2 h3 h4 h5 h6 h7 h8 h9 v1)), (h4, .inl (k4, 833, .inl f4)), (h3, .inl (k3, 833, .inl f3)), (h2, .inl (k2, 1250, .inl f2))] := hD
        exact W.zret (v := 1) hx hb hr rfl (fun t ht hW => ⟨⟨1, (fun i => ([(u60_ 0), (u60_ 1), (u60_ 2), (u60_ 3), z54, r60_, r60_, (-1)] : List (Int32)).getD i 0), rfl, hpost, (fun _ => 0), (fun _ => (fun _ => 0)), (fun _ => (fun _ => 0)), by rw [ht]; exact hP9, va_K.moved hW.alike hK, hD9⟩, hS.F ht⟩) hS.2.2 dX8_nextDocument_80
      · skip
        have b_ := zF_ne rfl zk_0 c_
        refine lv_aload_n hx hb dX8_nextDocument_37 rfl (lv_at hl 0 rfl) ?_
        refine lv_bipush (v := 120) hx hb dX8_nextDocument_38 (by decide) ?_
        refine va_put (D := (dC, dI)) (ci := 8) (v := .int 120) (ty := .int) (C := RX8) (T := TX8) (N := 9) hx hb hG zuX8 tyX8 tyX8_ok nmX8 hown hK hP hD hS 0 rfl rfl 5 (by decide) (hG _ zw3) (fun _ h9 => h9) rfl (by decide +kernel) rfl rfl (Nat.le_of_ble_eq_true rfl) dX8_nextDocument_40 (fun H locs hP hD hS => ?_)
        have hP : va_P (dC, dI) vwCl [(h0, .inr (8, mX8 h1 (upd (upd (upd (upd (upd (upd (upd v0 1 (u5_ 1)) 2 (u5_ 2)) 3 (u5_ 3)) 4 (u5_ 4)) 5 120) 6 0) 7 0))), (h1, .inr (6, mX6 h2 h3 h4 h5 h6 h7 h8 h9 v1)), (h4, .inl (k4, 833, .inl f4)), (h3, .inl (k3, 833, .inl f3)), (h2, .inl (k2, 1250, .inl f2))] H := hP
        have hD : va_D A [(h0, .inr (8, mX8 h1 (upd (upd (upd (upd (upd (upd (upd v0 1 (u5_ 1)) 2 (u5_ 2)) 3 (u5_ 3)) 4 (u5_ 4)) 5 120) 6 0) 7 0))), (h1, .inr (6, mX6 h2 h3 h4 h5 h6 h7 h8 h9 v1)), (h4, .inl (k4, 833, .inl f4)), (h3, .inl (k3, 833, .inl f3)), (h2, .inl (k2, 1250, .inl f2))] := hD
        refine lv_iconst (v := 0) hx hb dX8_nextDocument_43 (by decide) ?_
        refine W.widen (k := 0) (n := 0) (by decide) (by decide) ?_
        have b_ : -2147483648 ≤ (u5_ 2).toInt ∧ (u5_ 2).toInt ≤ 2147483647 := ⟨zlo _, zhi _⟩
        have b_ : -2147483648 ≤ (u5_ 3).toInt ∧ (u5_ 3).toInt ≤ 2147483647 := ⟨zlo _, zhi _⟩
        have b_ : -2147483648 ≤ (u5_ 4).toInt ∧ (u5_ 4).toInt ≤ 2147483647 := ⟨zlo _, zhi _⟩
        have b_ : -2147483648 ≤ (v0 8).toInt ∧ (v0 8).toInt ≤ 2147483647 := ⟨zlo _, zhi _⟩
        have hpost : (0 ≤ (0 : Int32).toInt ∧ (0 : Int32).toInt ≤ 1) := ⟨by omega, by omega⟩
        have hP9 : va_P (dC, dI) vwCl [(h0, .inr (8, mX8 h1 (upd (upd (upd (upd (upd (upd (upd (upd v0 1 (u5_ 1)) 2 (u5_ 2)) 3 (u5_ 3)) 4 (u5_ 4)) 5 120) 6 0) 7 0) 8 (v0 8)))), (h1, .inr (6, mX6 h2 h3 h4 h5 h6 h7 h8 h9 v1)), (h4, .inl (k4, 833, .inl f4)), (h3, .inl (k3, 833, .inl f3)), (h2, .inl (k2, 1250, .inl f2))] H := hP
        have hD9 : va_D A [(h0, .inr (8, mX8 h1 (upd (upd (upd (upd (upd (upd (upd (upd v0 1 (u5_ 1)) 2 (u5_ 2)) 3 (u5_ 3)) 4 (u5_ 4)) 5 120) 6 0) 7 0) 8 (v0 8)))), (h1, .inr (6, mX6 h2 h3 h4 h5 h6 h7 h8 h9 v1)), (h4, .inl (k4, 833, .inl f4)), (h3, .inl (k3, 833, .inl f3)), (h2, .inl (k2, 1250, .inl f2))] := hD
        exact W.zret (v := 0) hx hb hr rfl (fun t ht hW => ⟨⟨0, (fun i => ([(u5_ 1), (u5_ 2), (u5_ 3), (u5_ 4), 120, 0, 0, (v0 8)] : List (Int32)).getD i 0), rfl, hpost, (fun _ => 0), (fun _ => (fun _ => 0)), (fun _ => (fun _ => 0)), by rw [ht]; exact hP9, va_K.moved hW.alike hK, hD9⟩, hS.F ht⟩) hS.2.2 dX8_nextDocument_44
    · skip
      have b_ := zF_le rfl zk_0 c_
      refine lv_aload_n hx hb dX8_nextDocument_9 rfl (lv_at hl 0 rfl) ?_
      have b_ : -2147483648 ≤ (u5_ 1).toInt ∧ (u5_ 1).toInt ≤ 2147483647 := ⟨zlo _, zhi _⟩
      have b_ : -2147483648 ≤ (u5_ 2).toInt ∧ (u5_ 2).toInt ≤ 2147483647 := ⟨zlo _, zhi _⟩
      have b_ : -2147483648 ≤ (u5_ 3).toInt ∧ (u5_ 3).toInt ≤ 2147483647 := ⟨zlo _, zhi _⟩
      have b_ : -2147483648 ≤ (u5_ 4).toInt ∧ (u5_ 4).toInt ≤ 2147483647 := ⟨zlo _, zhi _⟩
      have hPc := hP.sub (ws' := [(h0, .inr (8, mX8 h1 (upd (upd (upd (upd v0 1 (u5_ 1)) 2 (u5_ 2)) 3 (u5_ 3)) 4 (u5_ 4)))), (h1, .inr (6, mX6 h2 h3 h4 h5 h6 h7 h8 h9 v1)), (h4, .inl (k4, 833, .inl f4)), (h3, .inl (k3, 833, .inl f3)), (h2, .inl (k2, 1250, .inl f2))]) [0, 1, 2, 3, 4] rfl
      have hDc := hD.sub (ws' := [(h0, .inr (8, mX8 h1 (upd (upd (upd (upd v0 1 (u5_ 1)) 2 (u5_ 2)) 3 (u5_ 3)) 4 (u5_ 4)))), (h1, .inr (6, mX6 h2 h3 h4 h5 h6 h7 h8 h9 v1)), (h4, .inl (k4, 833, .inl f4)), (h3, .inl (k3, 833, .inl f3)), (h2, .inl (k2, 1250, .inl f2))]) [0, 1, 2, 3, 4] (by decide) rfl
      have hKc := hK.sub (tys' := [(k4, .int), (k3, .int), (k2, .int)]) [0, 1, 2] rfl
      have hFc := va_free (wc := [(h0, .inr (8, mX8 h1 (upd (upd (upd (upd v0 1 (u5_ 1)) 2 (u5_ 2)) 3 (u5_ 3)) 4 (u5_ 4)))), (h1, .inr (6, mX6 h2 h3 h4 h5 h6 h7 h8 h9 v1)), (h4, .inl (k4, 833, .inl f4)), (h3, .inl (k3, 833, .inl f3)), (h2, .inl (k2, 1250, .inl f2))]) hD hS hA [0, 1, 2, 3, 4] rfl
      refine va_calli (va_runV (As := []) (rest := []) ⟨hx, hb, hml, hown, hG⟩ (sX8_gamma_0 l dC dI adK adV h0 h1 h4 h3 h2 h5 h6 h7 h8 h9 k4 k3 k2 H.size (upd (upd (upd (upd v0 1 (u5_ 1)) 2 (u5_ 2)) 3 (u5_ 3)) 4 (u5_ 4)) v1 f4 f3 f2 hv1 hf3) (cwV 0 hG (zgV zw30 zw31 zw32 zw27 zw33) rfl rfl rfl (by decide +kernel) ⟨Nat.le_of_ble_eq_true rfl, Nat.le_of_ble_eq_true rfl⟩) ⟨zPc_blind, va_recv hKc hPc (ci := 8) (q0 := 0) rfl rfl, zPc_pre hPc hKc hDc hE hS hFc hZ⟩ rfl rfl hl.1 rfl (lv_room (Nat.le_of_ble_eq_true rfl)) dX8_nextDocument_10 ⟨Nat.le_of_ble_eq_true rfl, Nat.le_of_ble_eq_true rfl⟩) hS (fun q _ h => hFc q h) hFc (fun r10_ u10_ t H1 locs ht hvm hw hB hz1 hk1 hS => ?_)
      obtain ⟨w10_, a10_, b10_, hP1, hK1, hD1⟩ := hB
      rw [ht] at hP1
      obtain ⟨hP, hD⟩ := va_join (wr := []) (w1 := [(h0, .inr (8, mX8 h1 (upd (upd (upd (upd v0 1 (u10_ 0)) 2 (u10_ 1)) 3 (u10_ 2)) 4 (u10_ 3)))), (h1, .inr (6, mX6 h2 h3 h4 h5 h6 h7 h8 h9 v1)), (h4, .inl (k4, 833, .inl f4)), (h3, .inl (k3, 833, .inl f3)), (h2, .inl (k2, 1250, .inl f2))]) hP hD [0, 1, 2, 3, 4] [] rfl rfl (by decide) (by decide) hk1 hFc hP1 hD1
      have hP : va_P (dC, dI) vwCl [(h0, .inr (8, mX8 h1 (upd (upd (upd (upd v0 1 (u10_ 0)) 2 (u10_ 1)) 3 (u10_ 2)) 4 (u10_ 3)))), (h1, .inr (6, mX6 h2 h3 h4 h5 h6 h7 h8 h9 v1)), (h4, .inl (k4, 833, .inl f4)), (h3, .inl (k3, 833, .inl f3)), (h2, .inl (k2, 1250, .inl f2))] H1 := hP.sub [0, 1, 2, 3, 4] rfl
      have hD : va_D A [(h0, .inr (8, mX8 h1 (upd (upd (upd (upd v0 1 (u10_ 0)) 2 (u10_ 1)) 3 (u10_ 2)) 4 (u10_ 3)))), (h1, .inr (6, mX6 h2 h3 h4 h5 h6 h7 h8 h9 v1)), (h4, .inl (k4, 833, .inl f4)), (h3, .inl (k3, 833, .inl f3)), (h2, .inl (k2, 1250, .inl f2))] := hD.sub [0, 1, 2, 3, 4] (by decide) rfl
      generalize H1 = H at hP hS ⊢
      clear hz1
      refine lv_pop hx hb dX8_nextDocument_13 rfl ?_
      obtain ⟨z14, e_z14⟩ : ∃ z : Int32, z = (u5_ 0) + Int32.ofInt (-1) := ⟨_, rfl⟩
      have b_ := zadd (x := (u5_ 0)) (y := Int32.ofInt (-1)) rfl (show (Int32.ofInt (-1)).toInt = (-1) from by decide) e_z14 (by omega) (by omega)
      refine lv_iinc (v := z14) (lv' := [(1, .int z14), (0, .ref h0)]) hx hb dX8_nextDocument_14 hl (k := 1) rfl e_z14.symm (by decide) rfl (fun ls hl => ?_)
      refine lv_goto (tgt := 5) hx hb dX8_nextDocument_17 (by decide) ?_
      have hc : va_P (dC, dI) vwCl [(h0, .inr (8, mX8 h1 (upd (upd (upd (upd v0 1 (u10_ 0)) 2 (u10_ 1)) 3 (u10_ 2)) 4 (u10_ 3)))), (h1, .inr (6, mX6 h2 h3 h4 h5 h6 h7 h8 h9 v1)), (h4, .inl (k4, 833, .inl f4)), (h3, .inl (k3, 833, .inl f3)), (h2, .inl (k2, 1250, .inl f2))] H ∧ va_D A [(h0, .inr (8, mX8 h1 (upd (upd (upd (upd v0 1 (u10_ 0)) 2 (u10_ 1)) 3 (u10_ 2)) 4 (u10_ 3)))), (h1, .inr (6, mX6 h2 h3 h4 h5 h6 h7 h8 h9 v1)), (h4, .inl (k4, 833, .inl f4)), (h3, .inl (k3, 833, .inl f3)), (h2, .inl (k2, 1250, .inl f2))] ∧ va_S A s.heap H locs ∧ lv_has ls 2 [(0, .ref h0), (1, .int z14)] := ⟨hP, hD, hS, lv_sub hl [1, 0] rfl⟩
      exact hJ5 H locs ls (fun i => ([z14, (u10_ 0), (u10_ 1), (u10_ 2), (u10_ 3)] : List (Int32)).getD i 0) (fun _ => 0) (fun _ => (fun _ => 0)) (fun _ => (fun _ => 0)) hc (show (z14.toInt - (-2147483648)).toNat < ((u5_ 0).toInt - (-2147483648)).toNat from by omega)
  · skip
    have b_ : -2147483648 ≤ (v0 7).toInt ∧ (v0 7).toInt ≤ 2147483647 := ⟨zlo _, zhi _⟩
    have hc : va_P (dC, dI) vwCl [(h0, .inr (8, mX8 h1 (upd (upd (upd (upd v0 1 (v0 1)) 2 (v0 2)) 3 (v0 3)) 4 (v0 4)))), (h1, .inr (6, mX6 h2 h3 h4 h5 h6 h7 h8 h9 v1)), (h4, .inl (k4, 833, .inl f4)), (h3, .inl (k3, 833, .inl f3)), (h2, .inl (k2, 1250, .inl f2))] s.heap ∧ va_D A [(h0, .inr (8, mX8 h1 (upd (upd (upd (upd v0 1 (v0 1)) 2 (v0 2)) 3 (v0 3)) 4 (v0 4)))), (h1, .inr (6, mX6 h2 h3 h4 h5 h6 h7 h8 h9 v1)), (h4, .inl (k4, 833, .inl f4)), (h3, .inl (k3, 833, .inl f3)), (h2, .inl (k2, 1250, .inl f2))] ∧ va_S A s.heap s.heap [] ∧ lv_has ls 2 [(0, .ref h0), (1, .int (v0 7))] := ⟨hP, hD, hS, lv_sub hl [1, 0] rfl⟩
    exact hJ5 s.heap [] ls (fun i => ([(v0 7), (v0 1), (v0 2), (v0 3), (v0 4)] : List (Int32)).getD i 0) (fun _ => 0) (fun _ => (fun _ => 0)) (fun _ => (fun _ => 0)) hc
set_option maxHeartbeats 8000000 in
set_option maxRecDepth 100000 in
theorem sX8_number_0 (l : Launch) (dC : Nat → ClassId) (dI : Nat → Nat → Nat) (adK adV : Nat → Nat) (h0 : Nat) (h1 : Nat) (sz : Nat) (v0 : Nat → Int32) : Met l yX8_number (zw yX8_number cX8_number 1 (some .int)) { frames := 0, cells := 0, slots := 0, locals := 0 } (zPc dC dI adK adV [.ref h0] sz [(h0, .inr (8, mX8 h1 v0))] []) (va_Qi (fun (r : Int32) (u : Nat → Int32) => True) (fun (u : Nat → Int32) (t : State) => ∃ (ww : Nat → Int64) (aa : Nat → Nat → Int32) (bb : Nat → Nat → Int64), va_P (dC, dI) vwCl [(h0, .inr (8, mX8 h1 v0))] t.heap ∧ va_K (dC, dI) vwCl [] t ∧ va_D (va_A [(h0, .inr (8, mX8 h1 v0))] sz) [(h0, .inr (8, mX8 h1 v0))]) (va_A [(h0, .inr (8, mX8 h1 v0))] sz)) 0 0 (va_A [(h0, .inr (8, mX8 h1 v0))] sz) := by
  refine Met.ofW (cc := cX8_number) (maxL := 1) (ret := (some .int)) (by decide) rfl ?_
  intro p e s m args below meth c s₁ B hml hv
  obtain ⟨rfl, hsz, hP, hK, hD0, hE, hZ⟩ := hv
  have hx := B.exec
  have hb := B.bytes
  have hr := B.returns
  have hG : ∀ w ∈ zG, w.before _ s = true := fun w h => atoms_spec (ws := (zw yX8_number cX8_number 1 (some .int))) B.pre w (List.mem_cons_of_mem _ h)
  have hown : s.vm.findClass RX8 = some m.cls := findClass_of_methodNamed B.named
  have hlocks := B.notSynchronized
  subst hsz
  have hD := hD0.self (sz := s.heap.size)
  generalize hAe : va_A [(h0, .inr (8, mX8 h1 v0))] s.heap.size = A at hD hZ ⊢
  have hA : ∀ q : Nat, s.heap.size ≤ q → A q := fun q h => by rw [← hAe]; exact Or.inr h
  have hS : va_S A s.heap s.heap [] := va_S.rf
  have hl := lv_entry ([.ref h0]) (n := 1) (Nat.le_of_ble_eq_true rfl)
  rw [lg_entry_eq]
  generalize (lg_sl ([.ref h0]) ++ List.replicate (1 - (lg_sl ([.ref h0])).length) Slot.unset).toArray = ls at hl ⊢
  have hl : lv_has ls 1 [(0, .ref h0)] := hl
  refine lv_aload_n hx hb dX8_number_0 rfl (lv_at hl 0 rfl) ?_
  refine va_get (D := (dC, dI)) (ci := 8) (v := .int (v0 5)) (C := RX8) (T := TX8) (N := 9) hx hb hG zuX8 hown hK hP 0 rfl rfl 5 (by decide) (hG _ zw3) (fun _ h9 => h9) rfl dX8_number_1 ?_
  refine W.widen (k := 0) (n := 0) (by decide) (by decide) ?_
  have b_ : -2147483648 ≤ (v0 5).toInt ∧ (v0 5).toInt ≤ 2147483647 := ⟨zlo _, zhi _⟩
  have hpost : True := trivial
  have hP9 : va_P (dC, dI) vwCl [(h0, .inr (8, mX8 h1 v0))] s.heap := hP
  have hD9 : va_D A [(h0, .inr (8, mX8 h1 v0))] := hD
  exact W.iret (v := (v0 5)) hx hb hr (fun t ht hW => ⟨⟨(v0 5), (fun _ => 0), rfl, hpost, (fun _ => 0), (fun _ => (fun _ => 0)), (fun _ => (fun _ => 0)), by rw [ht]; exact hP9, va_K.moved hW.alike hK, hD9⟩, hS.F ht⟩) hS.2.2 dX8_number_4
set_option maxHeartbeats 8000000 in
set_option maxRecDepth 100000 in
theorem sX0_came_0 (l : Launch) (dC : Nat → ClassId) (dI : Nat → Nat → Nat) (adK adV : Nat → Nat) (h0 : Nat) (h1 : Nat) (h2 : Nat) (h3 : Nat) (h4 : Nat) (sz : Nat) (v0 : Nat → Int32) (x1 : Int32) (hv0 : zR rg_Documents v0) : Met l yX0_came (zw yX0_came cX0_came 2 (some .boolean)) { frames := 0, cells := 0, slots := 0, locals := 0 } (zPc dC dI adK adV [.ref h0, .int x1] sz [(h0, .inr (0, mX0 h1 h2 h3 h4 v0))] []) (va_Qi (fun (r : Int32) (u : Nat → Int32) => (0 ≤ r.toInt ∧ r.toInt ≤ 1) ∧ (r.toInt = 1 → (0 ≤ x1.toInt ∧ x1.toInt ≤ 119)) ∧ (r.toInt = 1 → x1.toInt < (v0 4).toInt)) (fun (u : Nat → Int32) (t : State) => ∃ (ww : Nat → Int64) (aa : Nat → Nat → Int32) (bb : Nat → Nat → Int64), va_P (dC, dI) vwCl [(h0, .inr (0, mX0 h1 h2 h3 h4 v0))] t.heap ∧ va_K (dC, dI) vwCl [] t ∧ va_D (va_A [(h0, .inr (0, mX0 h1 h2 h3 h4 v0))] sz) [(h0, .inr (0, mX0 h1 h2 h3 h4 v0))]) (va_A [(h0, .inr (0, mX0 h1 h2 h3 h4 v0))] sz)) 0 0 (va_A [(h0, .inr (0, mX0 h1 h2 h3 h4 v0))] sz) := by
  refine Met.ofW (cc := cX0_came) (maxL := 2) (ret := (some .boolean)) (by decide) rfl ?_
  intro p e s m args below meth c s₁ B hml hv
  obtain ⟨rfl, hsz, hP, hK, hD0, hE, hZ⟩ := hv
  have hx := B.exec
  have hb := B.bytes
  have hr := B.returns
  have hG : ∀ w ∈ zG, w.before _ s = true := fun w h => atoms_spec (ws := (zw yX0_came cX0_came 2 (some .boolean))) B.pre w (List.mem_cons_of_mem _ h)
  have hown : s.vm.findClass RX0 = some m.cls := findClass_of_methodNamed B.named
  have hlocks := B.notSynchronized
  subst hsz
  have hD := hD0.self (sz := s.heap.size)
  generalize hAe : va_A [(h0, .inr (0, mX0 h1 h2 h3 h4 v0))] s.heap.size = A at hD hZ ⊢
  have hA : ∀ q : Nat, s.heap.size ≤ q → A q := fun q h => by rw [← hAe]; exact Or.inr h
  have hS : va_S A s.heap s.heap [] := va_S.rf
  have hl := lv_entry ([.ref h0, .int x1]) (n := 2) (Nat.le_of_ble_eq_true rfl)
  rw [lg_entry_eq]
  generalize (lg_sl ([.ref h0, .int x1]) ++ List.replicate (2 - (lg_sl ([.ref h0, .int x1])).length) Slot.unset).toArray = ls at hl ⊢
  have hl : lv_has ls 2 [(0, .ref h0), (1, .int x1)] := hl
  have b_ := zk_0
  have b_ := zk_1
  refine lv_iload_n hx hb dX0_came_0 rfl (lv_at hl 1 rfl) ?_
  have b_ : -2147483648 ≤ x1.toInt ∧ x1.toInt ≤ 2147483647 := ⟨zlo _, zhi _⟩
  refine lv_if_lt (tgt := 16) hx hb dX0_came_1 (by decide) (fun c_ => ?_) (fun c_ => ?_)
  · skip
    have b_ := zT_lt rfl zk_0 c_
    refine lv_iconst (v := 0) hx hb dX0_came_16 (by decide) ?_
    refine W.widen (k := 0) (n := 0) (by decide) (by decide) ?_
    have hpost : (0 ≤ (0 : Int32).toInt ∧ (0 : Int32).toInt ≤ 1) ∧ ((0 : Int32).toInt = 1 → (0 ≤ x1.toInt ∧ x1.toInt ≤ 119)) ∧ ((0 : Int32).toInt = 1 → x1.toInt < (v0 4).toInt) := ⟨⟨by omega, by omega⟩, by omega, by omega⟩
    have hP9 : va_P (dC, dI) vwCl [(h0, .inr (0, mX0 h1 h2 h3 h4 v0))] s.heap := hP
    have hD9 : va_D A [(h0, .inr (0, mX0 h1 h2 h3 h4 v0))] := hD
    exact W.zret (v := 0) hx hb hr rfl (fun t ht hW => ⟨⟨0, (fun _ => 0), rfl, hpost, (fun _ => 0), (fun _ => (fun _ => 0)), (fun _ => (fun _ => 0)), by rw [ht]; exact hP9, va_K.moved hW.alike hK, hD9⟩, hS.F ht⟩) hS.2.2 dX0_came_17
  · skip
    have b_ := zF_lt rfl zk_0 c_
    refine lv_iload_n hx hb dX0_came_4 rfl (lv_at hl 1 rfl) ?_
    refine lv_aload_n hx hb dX0_came_5 rfl (lv_at hl 0 rfl) ?_
    have b_ : 0 ≤ (v0 4).toInt ∧ (v0 4).toInt ≤ 120 := hv0 4
    refine va_get (D := (dC, dI)) (ci := 0) (v := .int (v0 4)) (C := RX0) (T := TX0) (N := 6) hx hb hG zuX0 hown hK hP 0 rfl rfl 4 (by decide) (hG _ zw34) (fun _ h9 => h9) rfl dX0_came_6 ?_
    refine lv_icmp_ge (tgt := 16) hx hb dX0_came_9 (by decide) (fun c_ => ?_) (fun c_ => ?_)
    · skip
      have b_ := zT_ge rfl rfl c_
      refine lv_iconst (v := 0) hx hb dX0_came_16 (by decide) ?_
      refine W.widen (k := 0) (n := 0) (by decide) (by decide) ?_
      have hpost : (0 ≤ (0 : Int32).toInt ∧ (0 : Int32).toInt ≤ 1) ∧ ((0 : Int32).toInt = 1 → (0 ≤ x1.toInt ∧ x1.toInt ≤ 119)) ∧ ((0 : Int32).toInt = 1 → x1.toInt < (v0 4).toInt) := ⟨⟨by omega, by omega⟩, by omega, by omega⟩
      have hP9 : va_P (dC, dI) vwCl [(h0, .inr (0, mX0 h1 h2 h3 h4 v0))] s.heap := hP
      have hD9 : va_D A [(h0, .inr (0, mX0 h1 h2 h3 h4 v0))] := hD
      exact W.zret (v := 0) hx hb hr rfl (fun t ht hW => ⟨⟨0, (fun _ => 0), rfl, hpost, (fun _ => 0), (fun _ => (fun _ => 0)), (fun _ => (fun _ => 0)), by rw [ht]; exact hP9, va_K.moved hW.alike hK, hD9⟩, hS.F ht⟩) hS.2.2 dX0_came_17
    · skip
      have b_ := zF_ge rfl rfl c_
      refine lv_iconst (v := 1) hx hb dX0_came_12 (by decide) ?_
      refine lv_goto (tgt := 17) hx hb dX0_came_13 (by decide) ?_
      refine W.widen (k := 0) (n := 0) (by decide) (by decide) ?_
      have hpost : (0 ≤ (1 : Int32).toInt ∧ (1 : Int32).toInt ≤ 1) ∧ ((1 : Int32).toInt = 1 → (0 ≤ x1.toInt ∧ x1.toInt ≤ 119)) ∧ ((1 : Int32).toInt = 1 → x1.toInt < (v0 4).toInt) := ⟨⟨by omega, by omega⟩, by omega, by omega⟩
      have hP9 : va_P (dC, dI) vwCl [(h0, .inr (0, mX0 h1 h2 h3 h4 v0))] s.heap := hP
      have hD9 : va_D A [(h0, .inr (0, mX0 h1 h2 h3 h4 v0))] := hD
      exact W.zret (v := 1) hx hb hr rfl (fun t ht hW => ⟨⟨1, (fun _ => 0), rfl, hpost, (fun _ => 0), (fun _ => (fun _ => 0)), (fun _ => (fun _ => 0)), by rw [ht]; exact hP9, va_K.moved hW.alike hK, hD9⟩, hS.F ht⟩) hS.2.2 dX0_came_17
set_option maxHeartbeats 8000000 in
set_option maxRecDepth 100000 in
theorem sX0_isOn_0 (l : Launch) (dC : Nat → ClassId) (dI : Nat → Nat → Nat) (adK adV : Nat → Nat) (h0 : Nat) (h1 : Nat) (h2 : Nat) (h3 : Nat) (h4 : Nat) (k1 : ClassId) (sz : Nat) (v0 : Nat → Int32) (f1 : Nat → Int32) (x1 : Int32) (hv0 : zR rg_Documents v0) : Met l yX0_isOn (zw yX0_isOn cX0_isOn 2 (some .boolean)) { frames := 1, cells := 0, slots := 0, locals := 21 } (zPc dC dI adK adV [.ref h0, .int x1] sz [(h0, .inr (0, mX0 h1 h2 h3 h4 v0)), (h1, .inl (k1, 120, .inl f1))] [(k1, .boolean)]) (va_Qi (fun (r : Int32) (u : Nat → Int32) => (0 ≤ r.toInt ∧ r.toInt ≤ 1) ∧ (r.toInt = 1 → (0 ≤ x1.toInt ∧ x1.toInt ≤ 119)) ∧ (r.toInt = 1 → x1.toInt < (v0 4).toInt)) (fun (u : Nat → Int32) (t : State) => ∃ (ww : Nat → Int64) (aa : Nat → Nat → Int32) (bb : Nat → Nat → Int64), va_P (dC, dI) vwCl [(h0, .inr (0, mX0 h1 h2 h3 h4 v0)), (h1, .inl (k1, 120, .inl f1))] t.heap ∧ va_K (dC, dI) vwCl [(k1, .boolean)] t ∧ va_D (va_A [(h0, .inr (0, mX0 h1 h2 h3 h4 v0)), (h1, .inl (k1, 120, .inl f1))] sz) [(h0, .inr (0, mX0 h1 h2 h3 h4 v0)), (h1, .inl (k1, 120, .inl f1))]) (va_A [(h0, .inr (0, mX0 h1 h2 h3 h4 v0)), (h1, .inl (k1, 120, .inl f1))] sz)) 0 0 (va_A [(h0, .inr (0, mX0 h1 h2 h3 h4 v0)), (h1, .inl (k1, 120, .inl f1))] sz) := by
  refine Met.ofW (cc := cX0_isOn) (maxL := 2) (ret := (some .boolean)) (by decide) rfl ?_
  intro p e s m args below meth c s₁ B hml hv
  obtain ⟨rfl, hsz, hP, hK, hD0, hE, hZ⟩ := hv
  have hx := B.exec
  have hb := B.bytes
  have hr := B.returns
  have hG : ∀ w ∈ zG, w.before _ s = true := fun w h => atoms_spec (ws := (zw yX0_isOn cX0_isOn 2 (some .boolean))) B.pre w (List.mem_cons_of_mem _ h)
  have hown : s.vm.findClass RX0 = some m.cls := findClass_of_methodNamed B.named
  have hlocks := B.notSynchronized
  subst hsz
  have hD := hD0.self (sz := s.heap.size)
  generalize hAe : va_A [(h0, .inr (0, mX0 h1 h2 h3 h4 v0)), (h1, .inl (k1, 120, .inl f1))] s.heap.size = A at hD hZ ⊢
  have hA : ∀ q : Nat, s.heap.size ≤ q → A q := fun q h => by rw [← hAe]; exact Or.inr h
  have hS : va_S A s.heap s.heap [] := va_S.rf
  have hl := lv_entry ([.ref h0, .int x1]) (n := 2) (Nat.le_of_ble_eq_true rfl)
  rw [lg_entry_eq]
  generalize (lg_sl ([.ref h0, .int x1]) ++ List.replicate (2 - (lg_sl ([.ref h0, .int x1])).length) Slot.unset).toArray = ls at hl ⊢
  have hl : lv_has ls 2 [(0, .ref h0), (1, .int x1)] := hl
  have b_ := zk_0
  have b_ := zk_1
  refine lv_aload_n hx hb dX0_isOn_0 rfl (lv_at hl 0 rfl) ?_
  refine lv_iload_n hx hb dX0_isOn_1 rfl (lv_at hl 1 rfl) ?_
  have hPc := hP.sub (ws' := [(h0, .inr (0, mX0 h1 h2 h3 h4 v0))]) [0] rfl
  have hDc := hD.sub (ws' := [(h0, .inr (0, mX0 h1 h2 h3 h4 v0))]) [0] (by decide) rfl
  have hKc := hK.sub (tys' := []) [] rfl
  have hFc := va_free (wc := [(h0, .inr (0, mX0 h1 h2 h3 h4 v0))]) hD hS hA [0] rfl
  refine va_calli (va_runV (As := [.int x1]) (rest := []) ⟨hx, hb, hml, hown, hG⟩ (sX0_came_0 l dC dI adK adV h0 h1 h2 h3 h4 s.heap.size v0 x1 hv0) (cwV 1 hG (zgV zw36 zw37 zw38 zw39 zw40) rfl rfl rfl (by decide +kernel) ⟨Nat.le_of_ble_eq_true rfl, Nat.le_of_ble_eq_true rfl⟩) ⟨zPc_blind, va_recv hKc hPc (ci := 0) (q0 := 0) rfl rfl, zPc_pre hPc hKc hDc hE hS hFc hZ⟩ rfl rfl hl.1 rfl (lv_room (Nat.le_of_ble_eq_true rfl)) dX0_isOn_2 ⟨Nat.le_of_ble_eq_true rfl, Nat.le_of_ble_eq_true rfl⟩) hS (fun q _ h => hFc q h) hFc (fun r2_ u2_ t H1 locs ht hvm hw hB hz1 hk1 hS => ?_)
  have hw : (0 ≤ r2_.toInt ∧ r2_.toInt ≤ 1) ∧ (r2_.toInt = 1 → (0 ≤ x1.toInt ∧ x1.toInt ≤ 119)) ∧ (r2_.toInt = 1 → x1.toInt < (v0 4).toInt) := hw
  obtain ⟨b_, hX2_0, hX2_1⟩ := hw
  obtain ⟨w2_, a2_, b2_, hP1, hK1, hD1⟩ := hB
  rw [ht] at hP1
  obtain ⟨hP, hD⟩ := va_join (wr := [(h1, .inl (k1, 120, .inl f1))]) (w1 := [(h0, .inr (0, mX0 h1 h2 h3 h4 v0))]) hP hD [0] [1] rfl rfl (by decide) (by decide) hk1 hFc hP1 hD1
  have hP : va_P (dC, dI) vwCl [(h0, .inr (0, mX0 h1 h2 h3 h4 v0)), (h1, .inl (k1, 120, .inl f1))] H1 := hP.sub [1, 0] rfl
  have hD : va_D A [(h0, .inr (0, mX0 h1 h2 h3 h4 v0)), (h1, .inl (k1, 120, .inl f1))] := hD.sub [1, 0] (by decide) rfl
  generalize H1 = H at hP hS ⊢
  clear hz1
  refine lv_if_eq (tgt := 21) hx hb dX0_isOn_5 (by decide) (fun c_ => ?_) (fun c_ => ?_)
  · skip
    have b_ := zT_eq rfl zk_0 c_
    refine lv_iconst (v := 0) hx hb dX0_isOn_21 (by decide) ?_
    refine W.widen (k := 0) (n := 0) (by decide) (by decide) ?_
    have hpost : (0 ≤ (0 : Int32).toInt ∧ (0 : Int32).toInt ≤ 1) ∧ ((0 : Int32).toInt = 1 → (0 ≤ x1.toInt ∧ x1.toInt ≤ 119)) ∧ ((0 : Int32).toInt = 1 → x1.toInt < (v0 4).toInt) := ⟨⟨by omega, by omega⟩, by omega, by omega⟩
    have hP9 : va_P (dC, dI) vwCl [(h0, .inr (0, mX0 h1 h2 h3 h4 v0)), (h1, .inl (k1, 120, .inl f1))] H := hP
    have hD9 : va_D A [(h0, .inr (0, mX0 h1 h2 h3 h4 v0)), (h1, .inl (k1, 120, .inl f1))] := hD
    exact W.zret (v := 0) hx hb hr rfl (fun t ht hW => ⟨⟨0, (fun _ => 0), rfl, hpost, (fun _ => 0), (fun _ => (fun _ => 0)), (fun _ => (fun _ => 0)), by rw [ht]; exact hP9, va_K.moved hW.alike hK, hD9⟩, hS.F ht⟩) hS.2.2 dX0_isOn_22
  · skip
    have b_ := zF_eq rfl zk_0 c_
    refine lv_aload_n hx hb dX0_isOn_8 rfl (lv_at hl 0 rfl) ?_
    refine va_get (D := (dC, dI)) (ci := 0) (v := .ref h1) (C := RX0) (T := TX0) (N := 6) hx hb hG zuX0 hown hK hP 0 rfl rfl 0 (by decide) (hG _ zw35) (fun _ h9 => h9) rfl dX0_isOn_9 ?_
    refine lv_iload_n hx hb dX0_isOn_12 rfl (lv_at hl 1 rfl) ?_
    refine va_zald hx hb hK hP 1 0 rfl rfl (zin_lit ⟨by omega, by omega⟩) dX0_isOn_13 ?_
    refine lv_topi (fun z13 e_z13 => ?_)
    have b_ : -2147483648 ≤ z13.toInt ∧ z13.toInt ≤ 2147483647 := ⟨zlo _, zhi _⟩
    refine lv_if_eq (tgt := 21) hx hb dX0_isOn_14 (by decide) (fun c_ => ?_) (fun c_ => ?_)
    · skip
      have b_ := zT_eq rfl zk_0 c_
      refine lv_iconst (v := 0) hx hb dX0_isOn_21 (by decide) ?_
      refine W.widen (k := 0) (n := 0) (by decide) (by decide) ?_
      have hpost : (0 ≤ (0 : Int32).toInt ∧ (0 : Int32).toInt ≤ 1) ∧ ((0 : Int32).toInt = 1 → (0 ≤ x1.toInt ∧ x1.toInt ≤ 119)) ∧ ((0 : Int32).toInt = 1 → x1.toInt < (v0 4).toInt) := ⟨⟨by omega, by omega⟩, by omega, by omega⟩
      have hP9 : va_P (dC, dI) vwCl [(h0, .inr (0, mX0 h1 h2 h3 h4 v0)), (h1, .inl (k1, 120, .inl f1))] H := hP
      have hD9 : va_D A [(h0, .inr (0, mX0 h1 h2 h3 h4 v0)), (h1, .inl (k1, 120, .inl f1))] := hD
      exact W.zret (v := 0) hx hb hr rfl (fun t ht hW => ⟨⟨0, (fun _ => 0), rfl, hpost, (fun _ => 0), (fun _ => (fun _ => 0)), (fun _ => (fun _ => 0)), by rw [ht]; exact hP9, va_K.moved hW.alike hK, hD9⟩, hS.F ht⟩) hS.2.2 dX0_isOn_22
    · skip
      have b_ := zF_eq rfl zk_0 c_
      refine lv_iconst (v := 1) hx hb dX0_isOn_17 (by decide) ?_
      refine lv_goto (tgt := 22) hx hb dX0_isOn_18 (by decide) ?_
      refine W.widen (k := 0) (n := 0) (by decide) (by decide) ?_
      have hpost : (0 ≤ (1 : Int32).toInt ∧ (1 : Int32).toInt ≤ 1) ∧ ((1 : Int32).toInt = 1 → (0 ≤ x1.toInt ∧ x1.toInt ≤ 119)) ∧ ((1 : Int32).toInt = 1 → x1.toInt < (v0 4).toInt) := ⟨⟨by omega, by omega⟩, by omega, by omega⟩
      have hP9 : va_P (dC, dI) vwCl [(h0, .inr (0, mX0 h1 h2 h3 h4 v0)), (h1, .inl (k1, 120, .inl f1))] H := hP
      have hD9 : va_D A [(h0, .inr (0, mX0 h1 h2 h3 h4 v0)), (h1, .inl (k1, 120, .inl f1))] := hD
      exact W.zret (v := 1) hx hb hr rfl (fun t ht hW => ⟨⟨1, (fun _ => 0), rfl, hpost, (fun _ => 0), (fun _ => (fun _ => 0)), (fun _ => (fun _ => 0)), by rw [ht]; exact hP9, va_K.moved hW.alike hK, hD9⟩, hS.F ht⟩) hS.2.2 dX0_isOn_22
set_option maxHeartbeats 8000000 in
set_option maxRecDepth 100000 in
theorem sX8_places_0 (l : Launch) (dC : Nat → ClassId) (dI : Nat → Nat → Nat) (adK adV : Nat → Nat) (h0 : Nat) (h1 : Nat) (sz : Nat) (v0 : Nat → Int32) : Met l yX8_places (zw yX8_places cX8_places 1 (some .int)) { frames := 0, cells := 0, slots := 0, locals := 0 } (zPc dC dI adK adV [.ref h0] sz [(h0, .inr (8, mX8 h1 v0))] []) (va_Qi (fun (r : Int32) (u : Nat → Int32) => True) (fun (u : Nat → Int32) (t : State) => ∃ (ww : Nat → Int64) (aa : Nat → Nat → Int32) (bb : Nat → Nat → Int64), va_P (dC, dI) vwCl [(h0, .inr (8, mX8 h1 v0))] t.heap ∧ va_K (dC, dI) vwCl [] t ∧ va_D (va_A [(h0, .inr (8, mX8 h1 v0))] sz) [(h0, .inr (8, mX8 h1 v0))]) (va_A [(h0, .inr (8, mX8 h1 v0))] sz)) 0 0 (va_A [(h0, .inr (8, mX8 h1 v0))] sz) := by
  refine Met.ofW (cc := cX8_places) (maxL := 1) (ret := (some .int)) (by decide) rfl ?_
  intro p e s m args below meth c s₁ B hml hv
  obtain ⟨rfl, hsz, hP, hK, hD0, hE, hZ⟩ := hv
  have hx := B.exec
  have hb := B.bytes
  have hr := B.returns
  have hG : ∀ w ∈ zG, w.before _ s = true := fun w h => atoms_spec (ws := (zw yX8_places cX8_places 1 (some .int))) B.pre w (List.mem_cons_of_mem _ h)
  have hown : s.vm.findClass RX8 = some m.cls := findClass_of_methodNamed B.named
  have hlocks := B.notSynchronized
  subst hsz
  have hD := hD0.self (sz := s.heap.size)
  generalize hAe : va_A [(h0, .inr (8, mX8 h1 v0))] s.heap.size = A at hD hZ ⊢
  have hA : ∀ q : Nat, s.heap.size ≤ q → A q := fun q h => by rw [← hAe]; exact Or.inr h
  have hS : va_S A s.heap s.heap [] := va_S.rf
  have hl := lv_entry ([.ref h0]) (n := 1) (Nat.le_of_ble_eq_true rfl)
  rw [lg_entry_eq]
  generalize (lg_sl ([.ref h0]) ++ List.replicate (1 - (lg_sl ([.ref h0])).length) Slot.unset).toArray = ls at hl ⊢
  have hl : lv_has ls 1 [(0, .ref h0)] := hl
  refine lv_aload_n hx hb dX8_places_0 rfl (lv_at hl 0 rfl) ?_
  refine va_get (D := (dC, dI)) (ci := 8) (v := .int (v0 6)) (C := RX8) (T := TX8) (N := 9) hx hb hG zuX8 hown hK hP 0 rfl rfl 6 (by decide) (hG _ zw1) (fun _ h9 => h9) rfl dX8_places_1 ?_
  refine W.widen (k := 0) (n := 0) (by decide) (by decide) ?_
  have b_ : -2147483648 ≤ (v0 6).toInt ∧ (v0 6).toInt ≤ 2147483647 := ⟨zlo _, zhi _⟩
  have hpost : True := trivial
  have hP9 : va_P (dC, dI) vwCl [(h0, .inr (8, mX8 h1 v0))] s.heap := hP
  have hD9 : va_D A [(h0, .inr (8, mX8 h1 v0))] := hD
  exact W.iret (v := (v0 6)) hx hb hr (fun t ht hW => ⟨⟨(v0 6), (fun _ => 0), rfl, hpost, (fun _ => 0), (fun _ => (fun _ => 0)), (fun _ => (fun _ => 0)), by rw [ht]; exact hP9, va_K.moved hW.alike hK, hD9⟩, hS.F ht⟩) hS.2.2 dX8_places_4
set_option maxHeartbeats 8000000 in
set_option maxRecDepth 100000 in
theorem sX6_isId_0 (l : Launch) (dC : Nat → ClassId) (dI : Nat → Nat → Nat) (adK adV : Nat → Nat) (sz : Nat) (x0 : Int32) : Met l yX6_isId (zw yX6_isId cX6_isId 1 (some .boolean)) { frames := 0, cells := 0, slots := 0, locals := 0 } (zPc dC dI adK adV [.int x0] sz [] []) (va_Qi (fun (r : Int32) (u : Nat → Int32) => (0 ≤ r.toInt ∧ r.toInt ≤ 1) ∧ (r.toInt = 1 → (0 ≤ x0.toInt ∧ x0.toInt ≤ 399))) (fun (u : Nat → Int32) (t : State) => ∃ (ww : Nat → Int64) (aa : Nat → Nat → Int32) (bb : Nat → Nat → Int64), va_P (dC, dI) vwCl [] t.heap ∧ va_K (dC, dI) vwCl [] t ∧ va_D (va_A [] sz) []) (va_A [] sz)) 0 0 (va_A [] sz) := by
  refine Met.ofW (cc := cX6_isId) (maxL := 1) (ret := (some .boolean)) (by decide) rfl ?_
  intro p e s m args below meth c s₁ B hml hv
  obtain ⟨rfl, hsz, hP, hK, hD0, hE, hZ⟩ := hv
  have hx := B.exec
  have hb := B.bytes
  have hr := B.returns
  have hG : ∀ w ∈ zG, w.before _ s = true := fun w h => atoms_spec (ws := (zw yX6_isId cX6_isId 1 (some .boolean))) B.pre w (List.mem_cons_of_mem _ h)
  have hown : s.vm.findClass RX6 = some m.cls := findClass_of_methodNamed B.named
  have hlocks := B.notSynchronized
  subst hsz
  have hD := hD0.self (sz := s.heap.size)
  generalize hAe : va_A [] s.heap.size = A at hD hZ ⊢
  have hA : ∀ q : Nat, s.heap.size ≤ q → A q := fun q h => by rw [← hAe]; exact Or.inr h
  have hS : va_S A s.heap s.heap [] := va_S.rf
  have hl := lv_entry ([.int x0]) (n := 1) (Nat.le_of_ble_eq_true rfl)
  rw [lg_entry_eq]
  generalize (lg_sl ([.int x0]) ++ List.replicate (1 - (lg_sl ([.int x0])).length) Slot.unset).toArray = ls at hl ⊢
  have hl : lv_has ls 1 [(0, .int x0)] := hl
  have b_ := zk_0
  have b_ := zk_1
  refine lv_iload_n hx hb dX6_isId_0 rfl (lv_at hl 0 rfl) ?_
  have b_ : -2147483648 ≤ x0.toInt ∧ x0.toInt ≤ 2147483647 := ⟨zlo _, zhi _⟩
  refine lv_if_lt (tgt := 15) hx hb dX6_isId_1 (by decide) (fun c_ => ?_) (fun c_ => ?_)
  · skip
    have b_ := zT_lt rfl zk_0 c_
    refine lv_iconst (v := 0) hx hb dX6_isId_15 (by decide) ?_
    refine W.widen (k := 0) (n := 0) (by decide) (by decide) ?_
    have hpost : (0 ≤ (0 : Int32).toInt ∧ (0 : Int32).toInt ≤ 1) ∧ ((0 : Int32).toInt = 1 → (0 ≤ x0.toInt ∧ x0.toInt ≤ 399)) := ⟨⟨by omega, by omega⟩, by omega⟩
    have hP9 : va_P (dC, dI) vwCl [] s.heap := hP
    have hD9 : va_D A [] := hD
    exact W.zret (v := 0) hx hb hr rfl (fun t ht hW => ⟨⟨0, (fun _ => 0), rfl, hpost, (fun _ => 0), (fun _ => (fun _ => 0)), (fun _ => (fun _ => 0)), by rw [ht]; exact hP9, va_K.moved hW.alike hK, hD9⟩, hS.F ht⟩) hS.2.2 dX6_isId_16
  · skip
    have b_ := zF_lt rfl zk_0 c_
    refine lv_iload_n hx hb dX6_isId_4 rfl (lv_at hl 0 rfl) ?_
    refine lv_sipush (v := 400) hx hb dX6_isId_5 (by decide) ?_
    refine lv_icmp_ge (tgt := 15) hx hb dX6_isId_8 (by decide) (fun c_ => ?_) (fun c_ => ?_)
    · skip
      have b_ := zT_ge rfl zk_400 c_
      refine lv_iconst (v := 0) hx hb dX6_isId_15 (by decide) ?_
      refine W.widen (k := 0) (n := 0) (by decide) (by decide) ?_
      have hpost : (0 ≤ (0 : Int32).toInt ∧ (0 : Int32).toInt ≤ 1) ∧ ((0 : Int32).toInt = 1 → (0 ≤ x0.toInt ∧ x0.toInt ≤ 399)) := ⟨⟨by omega, by omega⟩, by omega⟩
      have hP9 : va_P (dC, dI) vwCl [] s.heap := hP
      have hD9 : va_D A [] := hD
      exact W.zret (v := 0) hx hb hr rfl (fun t ht hW => ⟨⟨0, (fun _ => 0), rfl, hpost, (fun _ => 0), (fun _ => (fun _ => 0)), (fun _ => (fun _ => 0)), by rw [ht]; exact hP9, va_K.moved hW.alike hK, hD9⟩, hS.F ht⟩) hS.2.2 dX6_isId_16
    · skip
      have b_ := zF_ge rfl zk_400 c_
      refine lv_iconst (v := 1) hx hb dX6_isId_11 (by decide) ?_
      refine lv_goto (tgt := 16) hx hb dX6_isId_12 (by decide) ?_
      refine W.widen (k := 0) (n := 0) (by decide) (by decide) ?_
      have hpost : (0 ≤ (1 : Int32).toInt ∧ (1 : Int32).toInt ≤ 1) ∧ ((1 : Int32).toInt = 1 → (0 ≤ x0.toInt ∧ x0.toInt ≤ 399)) := ⟨⟨by omega, by omega⟩, by omega⟩
      have hP9 : va_P (dC, dI) vwCl [] s.heap := hP
      have hD9 : va_D A [] := hD
      exact W.zret (v := 1) hx hb hr rfl (fun t ht hW => ⟨⟨1, (fun _ => 0), rfl, hpost, (fun _ => 0), (fun _ => (fun _ => 0)), (fun _ => (fun _ => 0)), by rw [ht]; exact hP9, va_K.moved hW.alike hK, hD9⟩, hS.F ht⟩) hS.2.2 dX6_isId_16
set_option maxHeartbeats 8000000 in
set_option maxRecDepth 100000 in
theorem sX6_latestOf_0 (l : Launch) (dC : Nat → ClassId) (dI : Nat → Nat → Nat) (adK adV : Nat → Nat) (h0 : Nat) (h8 : Nat) (h1 : Nat) (h2 : Nat) (h3 : Nat) (h4 : Nat) (h5 : Nat) (h6 : Nat) (h7 : Nat) (k8 : ClassId) (sz : Nat) (v0 : Nat → Int32) (f8 : Nat → Int32) (x1 : Int32) (hv0 : zR rg_Postings v0) : Met l yX6_latestOf (zw yX6_latestOf cX6_latestOf 2 (some .int)) { frames := 1, cells := 0, slots := 0, locals := 20 } (zPc dC dI adK adV [.ref h0, .int x1] sz [(h0, .inr (6, mX6 h1 h2 h3 h4 h5 h6 h7 h8 v0)), (h8, .inl (k8, 400, .inl f8))] [(k8, .int)]) (va_Qi (fun (r : Int32) (u : Nat → Int32) => True) (fun (u : Nat → Int32) (t : State) => ∃ (ww : Nat → Int64) (aa : Nat → Nat → Int32) (bb : Nat → Nat → Int64), va_P (dC, dI) vwCl [(h0, .inr (6, mX6 h1 h2 h3 h4 h5 h6 h7 h8 v0)), (h8, .inl (k8, 400, .inl f8))] t.heap ∧ va_K (dC, dI) vwCl [(k8, .int)] t ∧ va_D (va_A [(h0, .inr (6, mX6 h1 h2 h3 h4 h5 h6 h7 h8 v0)), (h8, .inl (k8, 400, .inl f8))] sz) [(h0, .inr (6, mX6 h1 h2 h3 h4 h5 h6 h7 h8 v0)), (h8, .inl (k8, 400, .inl f8))]) (va_A [(h0, .inr (6, mX6 h1 h2 h3 h4 h5 h6 h7 h8 v0)), (h8, .inl (k8, 400, .inl f8))] sz)) 0 0 (va_A [(h0, .inr (6, mX6 h1 h2 h3 h4 h5 h6 h7 h8 v0)), (h8, .inl (k8, 400, .inl f8))] sz) := by
  refine Met.ofW (cc := cX6_latestOf) (maxL := 2) (ret := (some .int)) (by decide) rfl ?_
  intro p e s m args below meth c s₁ B hml hv
  obtain ⟨rfl, hsz, hP, hK, hD0, hE, hZ⟩ := hv
  have hx := B.exec
  have hb := B.bytes
  have hr := B.returns
  have hG : ∀ w ∈ zG, w.before _ s = true := fun w h => atoms_spec (ws := (zw yX6_latestOf cX6_latestOf 2 (some .int))) B.pre w (List.mem_cons_of_mem _ h)
  have hown : s.vm.findClass RX6 = some m.cls := findClass_of_methodNamed B.named
  have hlocks := B.notSynchronized
  subst hsz
  have hD := hD0.self (sz := s.heap.size)
  generalize hAe : va_A [(h0, .inr (6, mX6 h1 h2 h3 h4 h5 h6 h7 h8 v0)), (h8, .inl (k8, 400, .inl f8))] s.heap.size = A at hD hZ ⊢
  have hA : ∀ q : Nat, s.heap.size ≤ q → A q := fun q h => by rw [← hAe]; exact Or.inr h
  have hS : va_S A s.heap s.heap [] := va_S.rf
  have hl := lv_entry ([.ref h0, .int x1]) (n := 2) (Nat.le_of_ble_eq_true rfl)
  rw [lg_entry_eq]
  generalize (lg_sl ([.ref h0, .int x1]) ++ List.replicate (2 - (lg_sl ([.ref h0, .int x1])).length) Slot.unset).toArray = ls at hl ⊢
  have hl : lv_has ls 2 [(0, .ref h0), (1, .int x1)] := hl
  refine lv_iload_n hx hb dX6_latestOf_0 rfl (lv_at hl 1 rfl) ?_
  have hPc := hP.sub (ws' := []) [] rfl
  have hDc := hD.sub (ws' := []) [] (by decide) rfl
  have hKc := hK.sub (tys' := []) [] rfl
  have hFc := va_free (wc := []) hD hS hA [] rfl
  refine va_calli (va_runS (As := [.int x1]) (rest := []) ⟨hx, hb, hml, hown, hG⟩ (sX6_isId_0 l dC dI adK adV s.heap.size x1) (va_cwS 1 hG (zgS zw42 zw43 zw14 zw44) rfl rfl rfl (by decide +kernel) ⟨Nat.le_of_ble_eq_true rfl, Nat.le_of_ble_eq_true rfl⟩) ⟨zPc_blind, zPc_pre hPc hKc hDc hE hS hFc hZ⟩ rfl rfl hl.1 rfl (lv_room (Nat.le_of_ble_eq_true rfl)) dX6_latestOf_1 ⟨Nat.le_of_ble_eq_true rfl, Nat.le_of_ble_eq_true rfl⟩) hS (fun q _ h => hFc q h) hFc (fun r1_ u1_ t H1 locs ht hvm hw hB hz1 hk1 hS => ?_)
  have hw : (0 ≤ r1_.toInt ∧ r1_.toInt ≤ 1) ∧ (r1_.toInt = 1 → (0 ≤ x1.toInt ∧ x1.toInt ≤ 399)) := hw
  obtain ⟨b_, hX1_0⟩ := hw
  obtain ⟨w1_, a1_, b1_, hP1, hK1, hD1⟩ := hB
  rw [ht] at hP1
  obtain ⟨hP, hD⟩ := va_join (wr := [(h0, .inr (6, mX6 h1 h2 h3 h4 h5 h6 h7 h8 v0)), (h8, .inl (k8, 400, .inl f8))]) (w1 := []) hP hD [] [0, 1] rfl rfl (by decide) (by decide) hk1 hFc hP1 hD1
  have hP : va_P (dC, dI) vwCl [(h0, .inr (6, mX6 h1 h2 h3 h4 h5 h6 h7 h8 v0)), (h8, .inl (k8, 400, .inl f8))] H1 := hP.sub [0, 1] rfl
  have hD : va_D A [(h0, .inr (6, mX6 h1 h2 h3 h4 h5 h6 h7 h8 v0)), (h8, .inl (k8, 400, .inl f8))] := hD.sub [0, 1] (by decide) rfl
  generalize H1 = H at hP hS ⊢
  clear hz1
  refine lv_if_eq (tgt := 18) hx hb dX6_latestOf_4 (by decide) (fun c_ => ?_) (fun c_ => ?_)
  · skip
    have b_ := zT_eq rfl zk_0 c_
    refine lv_iconst (v := (-1)) hx hb dX6_latestOf_18 (by decide) ?_
    refine W.widen (k := 0) (n := 0) (by decide) (by decide) ?_
    have hpost : True := trivial
    have hP9 : va_P (dC, dI) vwCl [(h0, .inr (6, mX6 h1 h2 h3 h4 h5 h6 h7 h8 v0)), (h8, .inl (k8, 400, .inl f8))] H := hP
    have hD9 : va_D A [(h0, .inr (6, mX6 h1 h2 h3 h4 h5 h6 h7 h8 v0)), (h8, .inl (k8, 400, .inl f8))] := hD
    exact W.iret (v := (-1)) hx hb hr (fun t ht hW => ⟨⟨(-1), (fun _ => 0), rfl, hpost, (fun _ => 0), (fun _ => (fun _ => 0)), (fun _ => (fun _ => 0)), by rw [ht]; exact hP9, va_K.moved hW.alike hK, hD9⟩, hS.F ht⟩) hS.2.2 dX6_latestOf_19
  · skip
    have b_ := zF_eq rfl zk_0 c_
    refine lv_aload_n hx hb dX6_latestOf_7 rfl (lv_at hl 0 rfl) ?_
    refine va_get (D := (dC, dI)) (ci := 6) (v := .ref h8) (C := RX6) (T := TX6) (N := 12) hx hb hG zuX6 hown hK hP 0 rfl rfl 7 (by decide) (hG _ zw41) (fun _ h9 => h9) rfl dX6_latestOf_8 ?_
    refine lv_iload_n hx hb dX6_latestOf_11 rfl (lv_at hl 1 rfl) ?_
    refine va_iald hx hb hK hP 1 0 rfl rfl (zin_lit ⟨by omega, by omega⟩) dX6_latestOf_12 ?_
    refine lv_topi (fun z12 e_z12 => ?_)
    refine lv_iconst (v := 1) hx hb dX6_latestOf_13 (by decide) ?_
    have b_ : -2147483648 ≤ z12.toInt ∧ z12.toInt ≤ 2147483647 := ⟨zlo _, zhi _⟩
    refine lv_isub hx hb dX6_latestOf_14 ?_
    refine lv_topi (fun z14 e_z14 => ?_)
    refine lv_goto (tgt := 19) hx hb dX6_latestOf_15 (by decide) ?_
    refine W.widen (k := 0) (n := 0) (by decide) (by decide) ?_
    have b_ : -2147483648 ≤ z14.toInt ∧ z14.toInt ≤ 2147483647 := ⟨zlo _, zhi _⟩
    have hpost : True := trivial
    have hP9 : va_P (dC, dI) vwCl [(h0, .inr (6, mX6 h1 h2 h3 h4 h5 h6 h7 h8 v0)), (h8, .inl (k8, 400, .inl f8))] H := hP
    have hD9 : va_D A [(h0, .inr (6, mX6 h1 h2 h3 h4 h5 h6 h7 h8 v0)), (h8, .inl (k8, 400, .inl f8))] := hD
    exact W.iret (v := z14) hx hb hr (fun t ht hW => ⟨⟨z14, (fun _ => 0), rfl, hpost, (fun _ => 0), (fun _ => (fun _ => 0)), (fun _ => (fun _ => 0)), by rw [ht]; exact hP9, va_K.moved hW.alike hK, hD9⟩, hS.F ht⟩) hS.2.2 dX6_latestOf_19
set_option maxHeartbeats 8000000 in
set_option maxRecDepth 100000 in
theorem sJ6_numberOfLeadingZeros_0f7a4_0 (l : Launch) (dC : Nat → ClassId) (dI : Nat → Nat → Nat) (adK adV : Nat → Nat) (sz : Nat) (x0 : Int32) : Met l yJ6_numberOfLeadingZeros_0f7a4 (zw yJ6_numberOfLeadingZeros_0f7a4 cJ6_numberOfLeadingZeros_0f7a4 2 (some .int)) { frames := 0, cells := 0, slots := 0, locals := 0 } (zPc dC dI adK adV [.int x0] sz [] []) (va_Qi (fun (r : Int32) (u : Nat → Int32) => (0 ≤ r.toInt ∧ r.toInt ≤ 32)) (fun (u : Nat → Int32) (t : State) => ∃ (ww : Nat → Int64) (aa : Nat → Nat → Int32) (bb : Nat → Nat → Int64), va_P (dC, dI) vwCl [] t.heap ∧ va_K (dC, dI) vwCl [] t ∧ va_D (va_A [] sz) []) (va_A [] sz)) 0 0 (va_A [] sz) := by
  refine Met.ofW (cc := cJ6_numberOfLeadingZeros_0f7a4) (maxL := 2) (ret := (some .int)) (by decide) rfl ?_
  intro p e s m args below meth c s₁ B hml hv
  obtain ⟨rfl, hsz, hP, hK, hD0, hE, hZ⟩ := hv
  have hx := B.exec
  have hb := B.bytes
  have hr := B.returns
  have hG : ∀ w ∈ zG, w.before _ s = true := fun w h => atoms_spec (ws := (zw yJ6_numberOfLeadingZeros_0f7a4 cJ6_numberOfLeadingZeros_0f7a4 2 (some .int))) B.pre w (List.mem_cons_of_mem _ h)
  have hown : s.vm.findClass RJ6 = some m.cls := findClass_of_methodNamed B.named
  have hlocks := B.notSynchronized
  subst hsz
  have hD := hD0.self (sz := s.heap.size)
  generalize hAe : va_A [] s.heap.size = A at hD hZ ⊢
  have hA : ∀ q : Nat, s.heap.size ≤ q → A q := fun q h => by rw [← hAe]; exact Or.inr h
  have hS : va_S A s.heap s.heap [] := va_S.rf
  have hl := lv_entry ([.int x0]) (n := 2) (Nat.le_of_ble_eq_true rfl)
  rw [lg_entry_eq]
  generalize (lg_sl ([.int x0]) ++ List.replicate (2 - (lg_sl ([.int x0])).length) Slot.unset).toArray = ls at hl ⊢
  have hl : lv_has ls 2 [(0, .int x0)] := hl
  have b_ := zk_0
  have b_ := zk_15
  have b_ := zk_31
  have b_ := zk_32
  refine lv_iload_n hx hb dJ6_numberOfLeadingZeros_0f7a4_0 rfl (lv_at hl 0 rfl) ?_
  have b_ : -2147483648 ≤ x0.toInt ∧ x0.toInt ≤ 2147483647 := ⟨zlo _, zhi _⟩
  refine lv_if_gt (tgt := 15) hx hb dJ6_numberOfLeadingZeros_0f7a4_1 (by decide) (fun c_ => ?_) (fun c_ => ?_)
  · skip
    have b_ := zT_gt rfl zk_0 c_
    refine lv_bipush (v := 31) hx hb dJ6_numberOfLeadingZeros_0f7a4_15 (by decide) ?_
    refine lv_istore_n (lv' := [(1, .int 31), (0, .int x0)]) hx hb dJ6_numberOfLeadingZeros_0f7a4_17 rfl hl (by decide) rfl (fun ls hl => ?_)
    refine lv_iload_n hx hb dJ6_numberOfLeadingZeros_0f7a4_18 rfl (lv_at hl 1 rfl) ?_
    refine lv_ldcw hx hb hown (hG _ zw45) dJ6_numberOfLeadingZeros_0f7a4_19 ?_
    refine zcutW (fun H locs ls u33_ w33_ a33_ b33_ => va_P (dC, dI) vwCl [] H ∧ va_D A [] ∧ va_S A s.heap H locs ∧ lv_has ls 2 [(0, .int (u33_ 0)), (1, .int (u33_ 1))] ∧ (1 ≤ (u33_ 0).toInt ∧ (u33_ 0).toInt ≤ 65535) ∧ (15 ≤ (u33_ 1).toInt ∧ (u33_ 1).toInt ≤ 31)) (fun ls u33_ w33_ => F0 m 33 ls []) 0 0 ?_ (fun hJ33 => ?_)
    · skip
      intro H locs ls u33_ w33_ a33_ b33_ hc
      obtain ⟨hP, hD, hS, hl, b_, b_⟩ := hc
      refine lv_iload_n hx hb dJ6_numberOfLeadingZeros_0f7a4_33 rfl (lv_at hl 0 rfl) ?_
      refine lv_sipush (v := 256) hx hb dJ6_numberOfLeadingZeros_0f7a4_34 (by decide) ?_
      refine zcutW (fun H locs ls u48_ w48_ a48_ b48_ => va_P (dC, dI) vwCl [] H ∧ va_D A [] ∧ va_S A s.heap H locs ∧ lv_has ls 2 [(0, .int (u48_ 0)), (1, .int (u48_ 1))] ∧ (1 ≤ (u48_ 0).toInt ∧ (u48_ 0).toInt ≤ 255) ∧ (7 ≤ (u48_ 1).toInt ∧ (u48_ 1).toInt ≤ 31) ∧ (1 ≤ (u33_ 0).toInt ∧ (u33_ 0).toInt ≤ 65535)) (fun ls u48_ w48_ => F0 m 48 ls []) 0 0 ?_ (fun hJ48 => ?_)
      · skip
        intro H locs ls u48_ w48_ a48_ b48_ hc
        obtain ⟨hP, hD, hS, hl, b_, b_, b_⟩ := hc
        refine lv_iload_n hx hb dJ6_numberOfLeadingZeros_0f7a4_48 rfl (lv_at hl 0 rfl) ?_
        refine lv_bipush (v := 16) hx hb dJ6_numberOfLeadingZeros_0f7a4_49 (by decide) ?_
        refine zcutW (fun H locs ls u61_ w61_ a61_ b61_ => va_P (dC, dI) vwCl [] H ∧ va_D A [] ∧ va_S A s.heap H locs ∧ lv_has ls 2 [(0, .int (u61_ 0)), (1, .int (u61_ 1))] ∧ (1 ≤ (u61_ 0).toInt ∧ (u61_ 0).toInt ≤ 15) ∧ (3 ≤ (u61_ 1).toInt ∧ (u61_ 1).toInt ≤ 31) ∧ (1 ≤ (u48_ 0).toInt ∧ (u48_ 0).toInt ≤ 255)) (fun ls u61_ w61_ => F0 m 61 ls []) 0 0 ?_ (fun hJ61 => ?_)
        · skip
          intro H locs ls u61_ w61_ a61_ b61_ hc
          obtain ⟨hP, hD, hS, hl, b_, b_, b_⟩ := hc
          refine lv_iload_n hx hb dJ6_numberOfLeadingZeros_0f7a4_61 rfl (lv_at hl 0 rfl) ?_
          refine lv_iconst (v := 4) hx hb dJ6_numberOfLeadingZeros_0f7a4_62 (by decide) ?_
          refine zcutW (fun H locs ls u73_ w73_ a73_ b73_ => va_P (dC, dI) vwCl [] H ∧ va_D A [] ∧ va_S A s.heap H locs ∧ lv_has ls 2 [(0, .int (u73_ 0)), (1, .int (u73_ 1))] ∧ (1 ≤ (u73_ 0).toInt ∧ (u73_ 0).toInt ≤ 3) ∧ (1 ≤ (u73_ 1).toInt ∧ (u73_ 1).toInt ≤ 31) ∧ (1 ≤ (u61_ 0).toInt ∧ (u61_ 0).toInt ≤ 15)) (fun ls u73_ w73_ => F0 m 73 ls []) 0 0 ?_ (fun hJ73 => ?_)
          · skip
            intro H locs ls u73_ w73_ a73_ b73_ hc
            obtain ⟨hP, hD, hS, hl, b_, b_, b_⟩ := hc
            refine lv_iload_n hx hb dJ6_numberOfLeadingZeros_0f7a4_73 rfl (lv_at hl 1 rfl) ?_
            refine lv_iload_n hx hb dJ6_numberOfLeadingZeros_0f7a4_74 rfl (lv_at hl 0 rfl) ?_
            refine lv_iconst (v := 1) hx hb dJ6_numberOfLeadingZeros_0f7a4_75 (by decide) ?_
            refine lv_iushr hx hb dJ6_numberOfLeadingZeros_0f7a4_76 rfl ?_
            refine lv_topi (fun z76 e_z76 => ?_)
            have b_ := zushr1 rfl e_z76 (by omega)
            refine lv_isub hx hb dJ6_numberOfLeadingZeros_0f7a4_77 ?_
            refine lv_topi (fun z77 e_z77 => ?_)
            have b_ := zsub rfl rfl e_z77 (by omega) (by omega)
            refine W.widen (k := 0) (n := 0) (by decide) (by decide) ?_
            have hpost : (0 ≤ z77.toInt ∧ z77.toInt ≤ 32) := ⟨by omega, by omega⟩
            have hP9 : va_P (dC, dI) vwCl [] H := hP
            have hD9 : va_D A [] := hD
            exact W.iret (v := z77) hx hb hr (fun t ht hW => ⟨⟨z77, (fun _ => 0), rfl, hpost, (fun _ => 0), (fun _ => (fun _ => 0)), (fun _ => (fun _ => 0)), by rw [ht]; exact hP9, va_K.moved hW.alike hK, hD9⟩, hS.F ht⟩) hS.2.2 dJ6_numberOfLeadingZeros_0f7a4_78
          · skip
            refine lv_icmp_lt (tgt := 73) hx hb dJ6_numberOfLeadingZeros_0f7a4_63 (by decide) (fun c_ => ?_) (fun c_ => ?_)
            · skip
              have b_ := zT_lt rfl zk_4 c_
              have hc : va_P (dC, dI) vwCl [] H ∧ va_D A [] ∧ va_S A s.heap H locs ∧ lv_has ls 2 [(0, .int (u61_ 0)), (1, .int (u61_ 1))] ∧ (1 ≤ (u61_ 0).toInt ∧ (u61_ 0).toInt ≤ 3) ∧ (1 ≤ (u61_ 1).toInt ∧ (u61_ 1).toInt ≤ 31) ∧ (1 ≤ (u61_ 0).toInt ∧ (u61_ 0).toInt ≤ 15) := ⟨hP, hD, hS, lv_sub hl [0, 1] rfl, ⟨by omega, by omega⟩, ⟨by omega, by omega⟩, ⟨by omega, by omega⟩⟩
              exact hJ73 H locs ls (fun i => ([(u61_ 0), (u61_ 1)] : List (Int32)).getD i 0) (fun _ => 0) (fun _ => (fun _ => 0)) (fun _ => (fun _ => 0)) hc
            · skip
              have b_ := zF_lt rfl zk_4 c_
              obtain ⟨z66, e_z66⟩ : ∃ z : Int32, z = (u61_ 1) + Int32.ofInt (-2) := ⟨_, rfl⟩
              have b_ := zadd (x := (u61_ 1)) (y := Int32.ofInt (-2)) rfl (show (Int32.ofInt (-2)).toInt = (-2) from by decide) e_z66 (by omega) (by omega)
              refine lv_iinc (v := z66) (lv' := [(1, .int z66), (0, .int (u61_ 0))]) hx hb dJ6_numberOfLeadingZeros_0f7a4_66 hl (k := 1) rfl e_z66.symm (by decide) rfl (fun ls hl => ?_)
              refine lv_iload_n hx hb dJ6_numberOfLeadingZeros_0f7a4_69 rfl (lv_at hl 1 rfl) ?_
              refine lv_iconst (v := 2) hx hb dJ6_numberOfLeadingZeros_0f7a4_70 (by decide) ?_
              refine lv_iushr hx hb dJ6_numberOfLeadingZeros_0f7a4_71 rfl ?_
              refine lv_topi (fun z71 e_z71 => ?_)
              have b_ := zushr2 rfl e_z71 (by omega)
              refine lv_istore_n (lv' := [(0, .int z71), (1, .int z66)]) hx hb dJ6_numberOfLeadingZeros_0f7a4_72 rfl hl (by decide) rfl (fun ls hl => ?_)
              have hc : va_P (dC, dI) vwCl [] H ∧ va_D A [] ∧ va_S A s.heap H locs ∧ lv_has ls 2 [(0, .int z71), (1, .int z66)] ∧ (1 ≤ z71.toInt ∧ z71.toInt ≤ 3) ∧ (1 ≤ z66.toInt ∧ z66.toInt ≤ 31) ∧ (1 ≤ (u61_ 0).toInt ∧ (u61_ 0).toInt ≤ 15) := ⟨hP, hD, hS, lv_sub hl [0, 1] rfl, ⟨by omega, by omega⟩, ⟨by omega, by omega⟩, ⟨by omega, by omega⟩⟩
              exact hJ73 H locs ls (fun i => ([z71, z66] : List (Int32)).getD i 0) (fun _ => 0) (fun _ => (fun _ => 0)) (fun _ => (fun _ => 0)) hc
        · skip
          refine lv_icmp_lt (tgt := 61) hx hb dJ6_numberOfLeadingZeros_0f7a4_51 (by decide) (fun c_ => ?_) (fun c_ => ?_)
          · skip
            have b_ := zT_lt rfl zk_16 c_
            have hc : va_P (dC, dI) vwCl [] H ∧ va_D A [] ∧ va_S A s.heap H locs ∧ lv_has ls 2 [(0, .int (u48_ 0)), (1, .int (u48_ 1))] ∧ (1 ≤ (u48_ 0).toInt ∧ (u48_ 0).toInt ≤ 15) ∧ (3 ≤ (u48_ 1).toInt ∧ (u48_ 1).toInt ≤ 31) ∧ (1 ≤ (u48_ 0).toInt ∧ (u48_ 0).toInt ≤ 255) := ⟨hP, hD, hS, lv_sub hl [0, 1] rfl, ⟨by omega, by omega⟩, ⟨by omega, by omega⟩, ⟨by omega, by omega⟩⟩
            exact hJ61 H locs ls (fun i => ([(u48_ 0), (u48_ 1)] : List (Int32)).getD i 0) (fun _ => 0) (fun _ => (fun _ => 0)) (fun _ => (fun _ => 0)) hc
          · skip
            have b_ := zF_lt rfl zk_16 c_
            obtain ⟨z54, e_z54⟩ : ∃ z : Int32, z = (u48_ 1) + Int32.ofInt (-4) := ⟨_, rfl⟩
            have b_ := zadd (x := (u48_ 1)) (y := Int32.ofInt (-4)) rfl (show (Int32.ofInt (-4)).toInt = (-4) from by decide) e_z54 (by omega) (by omega)
            refine lv_iinc (v := z54) (lv' := [(1, .int z54), (0, .int (u48_ 0))]) hx hb dJ6_numberOfLeadingZeros_0f7a4_54 hl (k := 1) rfl e_z54.symm (by decide) rfl (fun ls hl => ?_)
            refine lv_iload_n hx hb dJ6_numberOfLeadingZeros_0f7a4_57 rfl (lv_at hl 1 rfl) ?_
            refine lv_iconst (v := 4) hx hb dJ6_numberOfLeadingZeros_0f7a4_58 (by decide) ?_
            refine lv_iushr hx hb dJ6_numberOfLeadingZeros_0f7a4_59 rfl ?_
            refine lv_topi (fun z59 e_z59 => ?_)
            have b_ := zushr4 rfl e_z59 (by omega)
            refine lv_istore_n (lv' := [(0, .int z59), (1, .int z54)]) hx hb dJ6_numberOfLeadingZeros_0f7a4_60 rfl hl (by decide) rfl (fun ls hl => ?_)
            have hc : va_P (dC, dI) vwCl [] H ∧ va_D A [] ∧ va_S A s.heap H locs ∧ lv_has ls 2 [(0, .int z59), (1, .int z54)] ∧ (1 ≤ z59.toInt ∧ z59.toInt ≤ 15) ∧ (3 ≤ z54.toInt ∧ z54.toInt ≤ 31) ∧ (1 ≤ (u48_ 0).toInt ∧ (u48_ 0).toInt ≤ 255) := ⟨hP, hD, hS, lv_sub hl [0, 1] rfl, ⟨by omega, by omega⟩, ⟨by omega, by omega⟩, ⟨by omega, by omega⟩⟩
            exact hJ61 H locs ls (fun i => ([z59, z54] : List (Int32)).getD i 0) (fun _ => 0) (fun _ => (fun _ => 0)) (fun _ => (fun _ => 0)) hc
      · skip
        refine lv_icmp_lt (tgt := 48) hx hb dJ6_numberOfLeadingZeros_0f7a4_37 (by decide) (fun c_ => ?_) (fun c_ => ?_)
        · skip
          have b_ := zT_lt rfl zk_256 c_
          have hc : va_P (dC, dI) vwCl [] H ∧ va_D A [] ∧ va_S A s.heap H locs ∧ lv_has ls 2 [(0, .int (u33_ 0)), (1, .int (u33_ 1))] ∧ (1 ≤ (u33_ 0).toInt ∧ (u33_ 0).toInt ≤ 255) ∧ (7 ≤ (u33_ 1).toInt ∧ (u33_ 1).toInt ≤ 31) ∧ (1 ≤ (u33_ 0).toInt ∧ (u33_ 0).toInt ≤ 65535) := ⟨hP, hD, hS, lv_sub hl [0, 1] rfl, ⟨by omega, by omega⟩, ⟨by omega, by omega⟩, ⟨by omega, by omega⟩⟩
          exact hJ48 H locs ls (fun i => ([(u33_ 0), (u33_ 1)] : List (Int32)).getD i 0) (fun _ => 0) (fun _ => (fun _ => 0)) (fun _ => (fun _ => 0)) hc
        · skip
          have b_ := zF_lt rfl zk_256 c_
          obtain ⟨z40, e_z40⟩ : ∃ z : Int32, z = (u33_ 1) + Int32.ofInt (-8) := ⟨_, rfl⟩
          have b_ := zadd (x := (u33_ 1)) (y := Int32.ofInt (-8)) rfl (show (Int32.ofInt (-8)).toInt = (-8) from by decide) e_z40 (by omega) (by omega)
          refine lv_iinc (v := z40) (lv' := [(1, .int z40), (0, .int (u33_ 0))]) hx hb dJ6_numberOfLeadingZeros_0f7a4_40 hl (k := 1) rfl e_z40.symm (by decide) rfl (fun ls hl => ?_)
          refine lv_iload_n hx hb dJ6_numberOfLeadingZeros_0f7a4_43 rfl (lv_at hl 1 rfl) ?_
          refine lv_bipush (v := 8) hx hb dJ6_numberOfLeadingZeros_0f7a4_44 (by decide) ?_
          refine lv_iushr hx hb dJ6_numberOfLeadingZeros_0f7a4_46 rfl ?_
          refine lv_topi (fun z46 e_z46 => ?_)
          have b_ := zushr8 rfl e_z46 (by omega)
          refine lv_istore_n (lv' := [(0, .int z46), (1, .int z40)]) hx hb dJ6_numberOfLeadingZeros_0f7a4_47 rfl hl (by decide) rfl (fun ls hl => ?_)
          have hc : va_P (dC, dI) vwCl [] H ∧ va_D A [] ∧ va_S A s.heap H locs ∧ lv_has ls 2 [(0, .int z46), (1, .int z40)] ∧ (1 ≤ z46.toInt ∧ z46.toInt ≤ 255) ∧ (7 ≤ z40.toInt ∧ z40.toInt ≤ 31) ∧ (1 ≤ (u33_ 0).toInt ∧ (u33_ 0).toInt ≤ 65535) := ⟨hP, hD, hS, lv_sub hl [0, 1] rfl, ⟨by omega, by omega⟩, ⟨by omega, by omega⟩, ⟨by omega, by omega⟩⟩
          exact hJ48 H locs ls (fun i => ([z46, z40] : List (Int32)).getD i 0) (fun _ => 0) (fun _ => (fun _ => 0)) (fun _ => (fun _ => 0)) hc
    · skip
      refine lv_icmp_lt (tgt := 33) hx hb dJ6_numberOfLeadingZeros_0f7a4_22 (by decide) (fun c_ => ?_) (fun c_ => ?_)
      · skip
        have b_ := zT_lt rfl zk_65536 c_
        have hc : va_P (dC, dI) vwCl [] s.heap ∧ va_D A [] ∧ va_S A s.heap s.heap [] ∧ lv_has ls 2 [(0, .int x0), (1, .int 31)] ∧ (1 ≤ x0.toInt ∧ x0.toInt ≤ 65535) ∧ (15 ≤ (31 : Int32).toInt ∧ (31 : Int32).toInt ≤ 31) := ⟨hP, hD, hS, lv_sub hl [1, 0] rfl, ⟨by omega, by omega⟩, ⟨by omega, by omega⟩⟩
        exact hJ33 s.heap [] ls (fun i => ([x0, 31] : List (Int32)).getD i 0) (fun _ => 0) (fun _ => (fun _ => 0)) (fun _ => (fun _ => 0)) hc
      · skip
        have b_ := zF_lt rfl zk_65536 c_
        refine lv_iinc (v := 15) (lv' := [(1, .int 15), (0, .int x0)]) hx hb dJ6_numberOfLeadingZeros_0f7a4_25 hl (k := 0) rfl (by decide) (by decide) rfl (fun ls hl => ?_)
        refine lv_iload_n hx hb dJ6_numberOfLeadingZeros_0f7a4_28 rfl (lv_at hl 1 rfl) ?_
        refine lv_bipush (v := 16) hx hb dJ6_numberOfLeadingZeros_0f7a4_29 (by decide) ?_
        refine lv_iushr hx hb dJ6_numberOfLeadingZeros_0f7a4_31 rfl ?_
        refine lv_topi (fun z31 e_z31 => ?_)
        have b_ := zushr16 rfl e_z31 (by omega)
        refine lv_istore_n (lv' := [(0, .int z31), (1, .int 15)]) hx hb dJ6_numberOfLeadingZeros_0f7a4_32 rfl hl (by decide) rfl (fun ls hl => ?_)
        have hc : va_P (dC, dI) vwCl [] s.heap ∧ va_D A [] ∧ va_S A s.heap s.heap [] ∧ lv_has ls 2 [(0, .int z31), (1, .int 15)] ∧ (1 ≤ z31.toInt ∧ z31.toInt ≤ 65535) ∧ (15 ≤ (15 : Int32).toInt ∧ (15 : Int32).toInt ≤ 31) := ⟨hP, hD, hS, lv_sub hl [0, 1] rfl, ⟨by omega, by omega⟩, ⟨by omega, by omega⟩⟩
        exact hJ33 s.heap [] ls (fun i => ([z31, 15] : List (Int32)).getD i 0) (fun _ => 0) (fun _ => (fun _ => 0)) (fun _ => (fun _ => 0)) hc
  · skip
    have b_ := zF_gt rfl zk_0 c_
    refine lv_iload_n hx hb dJ6_numberOfLeadingZeros_0f7a4_4 rfl (lv_at hl 0 rfl) ?_
    refine lv_if_ne (tgt := 13) hx hb dJ6_numberOfLeadingZeros_0f7a4_5 (by decide) (fun c_ => ?_) (fun c_ => ?_)
    · skip
      have b_ := zT_ne rfl zk_0 c_
      refine lv_iconst (v := 0) hx hb dJ6_numberOfLeadingZeros_0f7a4_13 (by decide) ?_
      refine W.widen (k := 0) (n := 0) (by decide) (by decide) ?_
      have hpost : (0 ≤ (0 : Int32).toInt ∧ (0 : Int32).toInt ≤ 32) := ⟨by omega, by omega⟩
      have hP9 : va_P (dC, dI) vwCl [] s.heap := hP
      have hD9 : va_D A [] := hD
      exact W.iret (v := 0) hx hb hr (fun t ht hW => ⟨⟨0, (fun _ => 0), rfl, hpost, (fun _ => 0), (fun _ => (fun _ => 0)), (fun _ => (fun _ => 0)), by rw [ht]; exact hP9, va_K.moved hW.alike hK, hD9⟩, hS.F ht⟩) hS.2.2 dJ6_numberOfLeadingZeros_0f7a4_14
    · skip
      have b_ := zF_ne rfl zk_0 c_
      refine lv_bipush (v := 32) hx hb dJ6_numberOfLeadingZeros_0f7a4_8 (by decide) ?_
      refine lv_goto (tgt := 14) hx hb dJ6_numberOfLeadingZeros_0f7a4_10 (by decide) ?_
      refine W.widen (k := 0) (n := 0) (by decide) (by decide) ?_
      have hpost : (0 ≤ (32 : Int32).toInt ∧ (32 : Int32).toInt ≤ 32) := ⟨by omega, by omega⟩
      have hP9 : va_P (dC, dI) vwCl [] s.heap := hP
      have hD9 : va_D A [] := hD
      exact W.iret (v := 32) hx hb hr (fun t ht hW => ⟨⟨32, (fun _ => 0), rfl, hpost, (fun _ => 0), (fun _ => (fun _ => 0)), (fun _ => (fun _ => 0)), by rw [ht]; exact hP9, va_K.moved hW.alike hK, hD9⟩, hS.F ht⟩) hS.2.2 dJ6_numberOfLeadingZeros_0f7a4_14
set_option maxHeartbeats 8000000 in
set_option maxRecDepth 100000 in
theorem sX11_binaryDigits_0 (l : Launch) (dC : Nat → ClassId) (dI : Nat → Nat → Nat) (adK adV : Nat → Nat) (sz : Nat) (x0 : Int32) : Met l yX11_binaryDigits (zw yX11_binaryDigits cX11_binaryDigits 1 (some .int)) { frames := 1, cells := 0, slots := 0, locals := 21 } (zPc dC dI adK adV [.int x0] sz [] []) (va_Qi (fun (r : Int32) (u : Nat → Int32) => (0 ≤ r.toInt ∧ r.toInt ≤ 32)) (fun (u : Nat → Int32) (t : State) => ∃ (ww : Nat → Int64) (aa : Nat → Nat → Int32) (bb : Nat → Nat → Int64), va_P (dC, dI) vwCl [] t.heap ∧ va_K (dC, dI) vwCl [] t ∧ va_D (va_A [] sz) []) (va_A [] sz)) 0 0 (va_A [] sz) := by
  refine Met.ofW (cc := cX11_binaryDigits) (maxL := 1) (ret := (some .int)) (by decide) rfl ?_
  intro p e s m args below meth c s₁ B hml hv
  obtain ⟨rfl, hsz, hP, hK, hD0, hE, hZ⟩ := hv
  have hx := B.exec
  have hb := B.bytes
  have hr := B.returns
  have hG : ∀ w ∈ zG, w.before _ s = true := fun w h => atoms_spec (ws := (zw yX11_binaryDigits cX11_binaryDigits 1 (some .int))) B.pre w (List.mem_cons_of_mem _ h)
  have hown : s.vm.findClass RX11 = some m.cls := findClass_of_methodNamed B.named
  have hlocks := B.notSynchronized
  subst hsz
  have hD := hD0.self (sz := s.heap.size)
  generalize hAe : va_A [] s.heap.size = A at hD hZ ⊢
  have hA : ∀ q : Nat, s.heap.size ≤ q → A q := fun q h => by rw [← hAe]; exact Or.inr h
  have hS : va_S A s.heap s.heap [] := va_S.rf
  have hl := lv_entry ([.int x0]) (n := 1) (Nat.le_of_ble_eq_true rfl)
  rw [lg_entry_eq]
  generalize (lg_sl ([.int x0]) ++ List.replicate (1 - (lg_sl ([.int x0])).length) Slot.unset).toArray = ls at hl ⊢
  have hl : lv_has ls 1 [(0, .int x0)] := hl
  refine lv_bipush (v := 32) hx hb dX11_binaryDigits_0 (by decide) ?_
  refine lv_iload_n hx hb dX11_binaryDigits_2 rfl (lv_at hl 0 rfl) ?_
  have hPc := hP.sub (ws' := []) [] rfl
  have hDc := hD.sub (ws' := []) [] (by decide) rfl
  have hKc := hK.sub (tys' := []) [] rfl
  have hFc := va_free (wc := []) hD hS hA [] rfl
  refine va_calli (va_runS (As := [.int x0]) (rest := [.int 32]) ⟨hx, hb, hml, hown, hG⟩ (sJ6_numberOfLeadingZeros_0f7a4_0 l dC dI adK adV s.heap.size x0) (va_cwS 1 hG (zgS zw46 zw47 zw48 zw49) rfl rfl rfl (by decide +kernel) ⟨Nat.le_of_ble_eq_true rfl, Nat.le_of_ble_eq_true rfl⟩) ⟨zPc_blind, zPc_pre hPc hKc hDc hE hS hFc hZ⟩ rfl rfl hl.1 rfl (lv_room (Nat.le_of_ble_eq_true rfl)) dX11_binaryDigits_3 ⟨Nat.le_of_ble_eq_true rfl, Nat.le_of_ble_eq_true rfl⟩) hS (fun q _ h => hFc q h) hFc (fun r3_ u3_ t H1 locs ht hvm hw hB hz1 hk1 hS => ?_)
  have hw : (0 ≤ r3_.toInt ∧ r3_.toInt ≤ 32) := hw
  have b_ := hw
  obtain ⟨w3_, a3_, b3_, hP1, hK1, hD1⟩ := hB
  rw [ht] at hP1
  obtain ⟨hP, hD⟩ := va_join (wr := []) (w1 := []) hP hD [] [] rfl rfl (by decide) (by decide) hk1 hFc hP1 hD1
  have hP : va_P (dC, dI) vwCl [] H1 := hP.sub [] rfl
  have hD : va_D A [] := hD.sub [] (by decide) rfl
  generalize H1 = H at hP hS ⊢
  clear hz1
  refine lv_isub hx hb dX11_binaryDigits_6 ?_
  refine lv_topi (fun z6 e_z6 => ?_)
  have b_ := zsub zk_32 rfl e_z6 (by omega) (by omega)
  refine W.widen (k := 0) (n := 0) (by decide) (by decide) ?_
  have hpost : (0 ≤ z6.toInt ∧ z6.toInt ≤ 32) := ⟨by omega, by omega⟩
  have hP9 : va_P (dC, dI) vwCl [] H := hP
  have hD9 : va_D A [] := hD
  exact W.iret (v := z6) hx hb hr (fun t ht hW => ⟨⟨z6, (fun _ => 0), rfl, hpost, (fun _ => 0), (fun _ => (fun _ => 0)), (fun _ => (fun _ => 0)), by rw [ht]; exact hP9, va_K.moved hW.alike hK, hD9⟩, hS.F ht⟩) hS.2.2 dX11_binaryDigits_7
set_option maxHeartbeats 8000000 in
set_option maxRecDepth 100000 in
theorem sX6_chunkOf_0 (l : Launch) (dC : Nat → ClassId) (dI : Nat → Nat → Nat) (adK adV : Nat → Nat) (sz : Nat) (x0 : Int32) : Met l yX6_chunkOf (zw yX6_chunkOf cX6_chunkOf 1 (some .int)) { frames := 0, cells := 0, slots := 0, locals := 0 } (zPc dC dI adK adV [.int x0] sz [] []) (va_Qi (fun (r : Int32) (u : Nat → Int32) => (0 ≤ r.toInt ∧ r.toInt ≤ 8388610) ∧ (0 ≤ x0.toInt → zCk x0.toInt r.toInt)) (fun (u : Nat → Int32) (t : State) => ∃ (ww : Nat → Int64) (aa : Nat → Nat → Int32) (bb : Nat → Nat → Int64), va_P (dC, dI) vwCl [] t.heap ∧ va_K (dC, dI) vwCl [] t ∧ va_D (va_A [] sz) []) (va_A [] sz)) 0 0 (va_A [] sz) := by
  refine Met.ofW (cc := cX6_chunkOf) (maxL := 1) (ret := (some .int)) (by decide) rfl ?_
  intro p e s m args below meth c s₁ B hml hv
  obtain ⟨rfl, hsz, hP, hK, hD0, hE, hZ⟩ := hv
  have hx := B.exec
  have hb := B.bytes
  have hr := B.returns
  have hG : ∀ w ∈ zG, w.before _ s = true := fun w h => atoms_spec (ws := (zw yX6_chunkOf cX6_chunkOf 1 (some .int))) B.pre w (List.mem_cons_of_mem _ h)
  have hown : s.vm.findClass RX6 = some m.cls := findClass_of_methodNamed B.named
  have hlocks := B.notSynchronized
  subst hsz
  have hD := hD0.self (sz := s.heap.size)
  generalize hAe : va_A [] s.heap.size = A at hD hZ ⊢
  have hA : ∀ q : Nat, s.heap.size ≤ q → A q := fun q h => by rw [← hAe]; exact Or.inr h
  have hS : va_S A s.heap s.heap [] := va_S.rf
  have hl := lv_entry ([.int x0]) (n := 1) (Nat.le_of_ble_eq_true rfl)
  rw [lg_entry_eq]
  generalize (lg_sl ([.int x0]) ++ List.replicate (1 - (lg_sl ([.int x0])).length) Slot.unset).toArray = ls at hl ⊢
  have hl : lv_has ls 1 [(0, .int x0)] := hl
  have b_ := zk_0
  have b_ := zk_1
  have b_ := zk_2
  refine lv_iload_n hx hb dX6_chunkOf_0 rfl (lv_at hl 0 rfl) ?_
  refine lv_bipush (v := 96) hx hb dX6_chunkOf_1 (by decide) ?_
  have b_ : -2147483648 ≤ x0.toInt ∧ x0.toInt ≤ 2147483647 := ⟨zlo _, zhi _⟩
  refine lv_icmp_ge (tgt := 18) hx hb dX6_chunkOf_3 (by decide) (fun c_ => ?_) (fun c_ => ?_)
  · skip
    have b_ := zT_ge rfl zk_96 c_
    refine lv_iload_n hx hb dX6_chunkOf_18 rfl (lv_at hl 0 rfl) ?_
    refine lv_sipush (v := 224) hx hb dX6_chunkOf_19 (by decide) ?_
    refine lv_icmp_ge (tgt := 29) hx hb dX6_chunkOf_22 (by decide) (fun c_ => ?_) (fun c_ => ?_)
    · skip
      have b_ := zT_ge rfl zk_224 c_
      refine lv_iconst (v := 3) hx hb dX6_chunkOf_29 (by decide) ?_
      refine lv_iload_n hx hb dX6_chunkOf_30 rfl (lv_at hl 0 rfl) ?_
      refine lv_sipush (v := 224) hx hb dX6_chunkOf_31 (by decide) ?_
      refine lv_isub hx hb dX6_chunkOf_34 ?_
      refine lv_topi (fun z34 e_z34 => ?_)
      have b_ := zsub rfl zk_224 e_z34 (by omega) (by omega)
      refine lv_sipush (v := 256) hx hb dX6_chunkOf_35 (by decide) ?_
      refine lv_idiv hx hb dX6_chunkOf_38 (by decide) ?_
      refine lv_topi (fun z38 e_z38 => ?_)
      have b_ := zdiv rfl zk_256 e_z38 (by omega) (by decide)
      refine lv_iadd hx hb dX6_chunkOf_39 ?_
      refine lv_topi (fun z39 e_z39 => ?_)
      have b_ := zadd zk_3 rfl e_z39 (by omega) (by omega)
      refine W.widen (k := 0) (n := 0) (by decide) (by decide) ?_
      have hpost : (0 ≤ z39.toInt ∧ z39.toInt ≤ 8388610) ∧ (0 ≤ x0.toInt → zCk x0.toInt z39.toInt) := ⟨⟨by omega, by omega⟩, by intro _; unfold zCk; omega⟩
      have hP9 : va_P (dC, dI) vwCl [] s.heap := hP
      have hD9 : va_D A [] := hD
      exact W.iret (v := z39) hx hb hr (fun t ht hW => ⟨⟨z39, (fun _ => 0), rfl, hpost, (fun _ => 0), (fun _ => (fun _ => 0)), (fun _ => (fun _ => 0)), by rw [ht]; exact hP9, va_K.moved hW.alike hK, hD9⟩, hS.F ht⟩) hS.2.2 dX6_chunkOf_40
    · skip
      have b_ := zF_ge rfl zk_224 c_
      refine lv_iconst (v := 2) hx hb dX6_chunkOf_25 (by decide) ?_
      refine lv_goto (tgt := 40) hx hb dX6_chunkOf_26 (by decide) ?_
      refine W.widen (k := 0) (n := 0) (by decide) (by decide) ?_
      have hpost : (0 ≤ (2 : Int32).toInt ∧ (2 : Int32).toInt ≤ 8388610) ∧ (0 ≤ x0.toInt → zCk x0.toInt (2 : Int32).toInt) := ⟨⟨by omega, by omega⟩, by intro _; unfold zCk; omega⟩
      have hP9 : va_P (dC, dI) vwCl [] s.heap := hP
      have hD9 : va_D A [] := hD
      exact W.iret (v := 2) hx hb hr (fun t ht hW => ⟨⟨2, (fun _ => 0), rfl, hpost, (fun _ => 0), (fun _ => (fun _ => 0)), (fun _ => (fun _ => 0)), by rw [ht]; exact hP9, va_K.moved hW.alike hK, hD9⟩, hS.F ht⟩) hS.2.2 dX6_chunkOf_40
  · skip
    have b_ := zF_ge rfl zk_96 c_
    refine lv_iload_n hx hb dX6_chunkOf_6 rfl (lv_at hl 0 rfl) ?_
    refine lv_bipush (v := 32) hx hb dX6_chunkOf_7 (by decide) ?_
    refine lv_icmp_ge (tgt := 16) hx hb dX6_chunkOf_9 (by decide) (fun c_ => ?_) (fun c_ => ?_)
    · skip
      have b_ := zT_ge rfl zk_32 c_
      refine lv_iconst (v := 1) hx hb dX6_chunkOf_16 (by decide) ?_
      refine W.widen (k := 0) (n := 0) (by decide) (by decide) ?_
      have hpost : (0 ≤ (1 : Int32).toInt ∧ (1 : Int32).toInt ≤ 8388610) ∧ (0 ≤ x0.toInt → zCk x0.toInt (1 : Int32).toInt) := ⟨⟨by omega, by omega⟩, by intro _; unfold zCk; omega⟩
      have hP9 : va_P (dC, dI) vwCl [] s.heap := hP
      have hD9 : va_D A [] := hD
      exact W.iret (v := 1) hx hb hr (fun t ht hW => ⟨⟨1, (fun _ => 0), rfl, hpost, (fun _ => 0), (fun _ => (fun _ => 0)), (fun _ => (fun _ => 0)), by rw [ht]; exact hP9, va_K.moved hW.alike hK, hD9⟩, hS.F ht⟩) hS.2.2 dX6_chunkOf_17
    · skip
      have b_ := zF_ge rfl zk_32 c_
      refine lv_iconst (v := 0) hx hb dX6_chunkOf_12 (by decide) ?_
      refine lv_goto (tgt := 17) hx hb dX6_chunkOf_13 (by decide) ?_
      refine W.widen (k := 0) (n := 0) (by decide) (by decide) ?_
      have hpost : (0 ≤ (0 : Int32).toInt ∧ (0 : Int32).toInt ≤ 8388610) ∧ (0 ≤ x0.toInt → zCk x0.toInt (0 : Int32).toInt) := ⟨⟨by omega, by omega⟩, by intro _; unfold zCk; omega⟩
      have hP9 : va_P (dC, dI) vwCl [] s.heap := hP
      have hD9 : va_D A [] := hD
      exact W.iret (v := 0) hx hb hr (fun t ht hW => ⟨⟨0, (fun _ => 0), rfl, hpost, (fun _ => 0), (fun _ => (fun _ => 0)), (fun _ => (fun _ => 0)), by rw [ht]; exact hP9, va_K.moved hW.alike hK, hD9⟩, hS.F ht⟩) hS.2.2 dX6_chunkOf_17
