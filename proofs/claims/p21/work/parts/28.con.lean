set_option maxHeartbeats 8000000 in
set_option maxRecDepth 100000 in
theorem sX6_chunkOf_0 (l : Launch) (dC : Nat → ClassId) (dI : Nat → Nat → Nat) (adK adV : Nat → Nat) (sz : Nat) (x0 : Int32) : Met l yX6_chunkOf (zw yX6_chunkOf cX6_chunkOf 1 (some .int)) { frames := 0, cells := 0, slots := 0, locals := 0 } (zPc dC dI adK adV [.int x0] sz [] []) (va_Qi (fun (r : Int32) (u : Nat → Int32) => (0 ≤ r.toInt ∧ r.toInt ≤ 8388610) ∧ (0 ≤ x0.toInt → zCk x0.toInt r.toInt)) (fun (u : Nat → Int32) (t : State) => ∃ (ww : Nat → Int64) (aa : Nat → Nat → Int32) (bb : Nat → Nat → Int64), va_P (dC, dI) vwCl [] t.heap ∧ va_K (dC, dI) vwCl [] t ∧ va_D (va_A [] sz) []) (va_A [] sz)) 0 0 (va_A [] sz) := by
  refine Met.ofW (cc := cX6_chunkOf) (maxL := 1) (ret := (some .int)) (by decide) rfl ?_
  intro p e s m args below meth c s₁ B hml hv
  obtain ⟨rfl, hsz, hP, hK, hD0, hE, hZ⟩ := hv
  have hx := B.exec
  have hb := B.bytes
  have hr := B.returns
  have hG : ∀ w ∈ zG, w.before _ s = true := fun w h => atoms_spec (ws := (zw yX6_chunkOf cX6_chunkOf 1 (some .int))) B.pre w (List.mem_cons_of_mem _ h)
  have hown : s.vm.findClass RX6 = some m.cls := findClass_of_methodNamed B.named
  have hlocks := B.notSynchronized

  subst hsz
  have hD := hD0.self (sz := s.heap.size)
  generalize hAe : va_A [] s.heap.size = A at hD hZ ⊢
  have hA : ∀ q : Nat, s.heap.size ≤ q → A q := fun q h => by rw [← hAe]; exact Or.inr h
  have hS : va_S A s.heap s.heap [] := va_S.rf
  have hl := lv_entry ([.int x0]) (n := 1) (Nat.le_of_ble_eq_true rfl)
  rw [lg_entry_eq]
  generalize (lg_sl ([.int x0]) ++ List.replicate (1 - (lg_sl ([.int x0])).length) Slot.unset).toArray = ls at hl ⊢
  have hl : lv_has ls 1 [(0, .int x0)] := hl
  have b_ := zk_0
  have b_ := zk_1
  have b_ := zk_2
  refine lv_iload_n hx hb dX6_chunkOf_0 rfl (lv_at hl 0 rfl) ?_
  refine lv_bipush (v := 96) hx hb dX6_chunkOf_1 (by decide) ?_
  have b_ : -2147483648 ≤ x0.toInt ∧ x0.toInt ≤ 2147483647 := ⟨zlo _, zhi _⟩
  refine lv_icmp_ge (tgt := 18) hx hb dX6_chunkOf_3 (by decide) (fun c_ => ?_) (fun c_ => ?_)
  · skip
    have b_ := zT_ge rfl zk_96 c_
    refine lv_iload_n hx hb dX6_chunkOf_18 rfl (lv_at hl 0 rfl) ?_
    refine lv_sipush (v := 224) hx hb dX6_chunkOf_19 (by decide) ?_
    refine lv_icmp_ge (tgt := 29) hx hb dX6_chunkOf_22 (by decide) (fun c_ => ?_) (fun c_ => ?_)
    · skip
      have b_ := zT_ge rfl zk_224 c_
      refine lv_iconst (v := 3) hx hb dX6_chunkOf_29 (by decide) ?_
      refine lv_iload_n hx hb dX6_chunkOf_30 rfl (lv_at hl 0 rfl) ?_
      refine lv_sipush (v := 224) hx hb dX6_chunkOf_31 (by decide) ?_
      refine lv_isub hx hb dX6_chunkOf_34 ?_
      refine lv_topi (fun z34 e_z34 => ?_)
      have b_ := zsub rfl zk_224 e_z34 (by omega) (by omega)
      refine lv_sipush (v := 256) hx hb dX6_chunkOf_35 (by decide) ?_
      refine lv_idiv hx hb dX6_chunkOf_38 (by decide) ?_
      refine lv_topi (fun z38 e_z38 => ?_)
      have b_ := zdiv rfl zk_256 e_z38 (by omega) (by decide)
      refine lv_iadd hx hb dX6_chunkOf_39 ?_
      refine lv_topi (fun z39 e_z39 => ?_)
      have b_ := zadd zk_3 rfl e_z39 (by omega) (by omega)
      refine W.widen (k := 0) (n := 0) (by decide) (by decide) ?_
      have hpost : (0 ≤ z39.toInt ∧ z39.toInt ≤ 8388610) ∧ (0 ≤ x0.toInt → zCk x0.toInt z39.toInt) := ⟨(by first | with_reducible assumption | exact ⟨by omega, by omega⟩), by intro _; unfold zCk; omega⟩
      have hP9 : va_P (dC, dI) vwCl [] s.heap := hP
      have hD9 : va_D A [] := hD
      exact W.iret (v := z39) hx hb hr (fun t ht hW => ⟨⟨z39, (fun _ => 0), rfl, hpost, (fun _ => 0), (fun _ => (fun _ => 0)), (fun _ => (fun _ => 0)), by rw [ht]; exact hP9, va_K.moved hW.alike hK, hD9⟩, hS.F ht⟩) hS.2.2 dX6_chunkOf_40
    · skip
      have b_ := zF_ge rfl zk_224 c_
      refine lv_iconst (v := 2) hx hb dX6_chunkOf_25 (by decide) ?_
      refine lv_goto (tgt := 40) hx hb dX6_chunkOf_26 (by decide) ?_
      refine W.widen (k := 0) (n := 0) (by decide) (by decide) ?_
      have hpost : (0 ≤ (2 : Int32).toInt ∧ (2 : Int32).toInt ≤ 8388610) ∧ (0 ≤ x0.toInt → zCk x0.toInt (2 : Int32).toInt) := ⟨(by first | with_reducible assumption | exact ⟨by omega, by omega⟩), by intro _; unfold zCk; omega⟩
      have hP9 : va_P (dC, dI) vwCl [] s.heap := hP
      have hD9 : va_D A [] := hD
      exact W.iret (v := 2) hx hb hr (fun t ht hW => ⟨⟨2, (fun _ => 0), rfl, hpost, (fun _ => 0), (fun _ => (fun _ => 0)), (fun _ => (fun _ => 0)), by rw [ht]; exact hP9, va_K.moved hW.alike hK, hD9⟩, hS.F ht⟩) hS.2.2 dX6_chunkOf_40
  · skip
    have b_ := zF_ge rfl zk_96 c_
    refine lv_iload_n hx hb dX6_chunkOf_6 rfl (lv_at hl 0 rfl) ?_
    refine lv_bipush (v := 32) hx hb dX6_chunkOf_7 (by decide) ?_
    refine lv_icmp_ge (tgt := 16) hx hb dX6_chunkOf_9 (by decide) (fun c_ => ?_) (fun c_ => ?_)
    · skip
      have b_ := zT_ge rfl zk_32 c_
      refine lv_iconst (v := 1) hx hb dX6_chunkOf_16 (by decide) ?_
      refine W.widen (k := 0) (n := 0) (by decide) (by decide) ?_
      have hpost : (0 ≤ (1 : Int32).toInt ∧ (1 : Int32).toInt ≤ 8388610) ∧ (0 ≤ x0.toInt → zCk x0.toInt (1 : Int32).toInt) := ⟨(by first | with_reducible assumption | exact ⟨by omega, by omega⟩), by intro _; unfold zCk; omega⟩
      have hP9 : va_P (dC, dI) vwCl [] s.heap := hP
      have hD9 : va_D A [] := hD
      exact W.iret (v := 1) hx hb hr (fun t ht hW => ⟨⟨1, (fun _ => 0), rfl, hpost, (fun _ => 0), (fun _ => (fun _ => 0)), (fun _ => (fun _ => 0)), by rw [ht]; exact hP9, va_K.moved hW.alike hK, hD9⟩, hS.F ht⟩) hS.2.2 dX6_chunkOf_17
    · skip
      have b_ := zF_ge rfl zk_32 c_
      refine lv_iconst (v := 0) hx hb dX6_chunkOf_12 (by decide) ?_
      refine lv_goto (tgt := 17) hx hb dX6_chunkOf_13 (by decide) ?_
      refine W.widen (k := 0) (n := 0) (by decide) (by decide) ?_
      have hpost : (0 ≤ (0 : Int32).toInt ∧ (0 : Int32).toInt ≤ 8388610) ∧ (0 ≤ x0.toInt → zCk x0.toInt (0 : Int32).toInt) := ⟨(by first | with_reducible assumption | exact ⟨by omega, by omega⟩), by intro _; unfold zCk; omega⟩
      have hP9 : va_P (dC, dI) vwCl [] s.heap := hP
      have hD9 : va_D A [] := hD
      exact W.iret (v := 0) hx hb hr (fun t ht hW => ⟨⟨0, (fun _ => 0), rfl, hpost, (fun _ => 0), (fun _ => (fun _ => 0)), (fun _ => (fun _ => 0)), by rw [ht]; exact hP9, va_K.moved hW.alike hK, hD9⟩, hS.F ht⟩) hS.2.2 dX6_chunkOf_17
set_option maxHeartbeats 8000000 in
set_option maxRecDepth 100000 in
theorem sX6_roomOf_0 (l : Launch) (dC : Nat → ClassId) (dI : Nat → Nat → Nat) (adK adV : Nat → Nat) (sz : Nat) (x0 : Int32) : Met l yX6_roomOf (zw yX6_roomOf cX6_roomOf 1 (some .int)) { frames := 0, cells := 0, slots := 0, locals := 0 } (zPc dC dI adK adV [.int x0] sz [] []) (va_Qi (fun (r : Int32) (u : Nat → Int32) => (0 ≤ x0.toInt → x0.toInt ≤ 1000 → zRo x0.toInt r.toInt)) (fun (u : Nat → Int32) (t : State) => ∃ (ww : Nat → Int64) (aa : Nat → Nat → Int32) (bb : Nat → Nat → Int64), va_P (dC, dI) vwCl [] t.heap ∧ va_K (dC, dI) vwCl [] t ∧ va_D (va_A [] sz) []) (va_A [] sz)) 0 0 (va_A [] sz) := by
  refine Met.ofW (cc := cX6_roomOf) (maxL := 1) (ret := (some .int)) (by decide) rfl ?_
  intro p e s m args below meth c s₁ B hml hv
  obtain ⟨rfl, hsz, hP, hK, hD0, hE, hZ⟩ := hv
  have hx := B.exec
  have hb := B.bytes
  have hr := B.returns
  have hG : ∀ w ∈ zG, w.before _ s = true := fun w h => atoms_spec (ws := (zw yX6_roomOf cX6_roomOf 1 (some .int))) B.pre w (List.mem_cons_of_mem _ h)
  have hown : s.vm.findClass RX6 = some m.cls := findClass_of_methodNamed B.named
  have hlocks := B.notSynchronized

  subst hsz
  have hD := hD0.self (sz := s.heap.size)
  generalize hAe : va_A [] s.heap.size = A at hD hZ ⊢
  have hA : ∀ q : Nat, s.heap.size ≤ q → A q := fun q h => by rw [← hAe]; exact Or.inr h
  have hS : va_S A s.heap s.heap [] := va_S.rf
  have hl := lv_entry ([.int x0]) (n := 1) (Nat.le_of_ble_eq_true rfl)
  rw [lg_entry_eq]
  generalize (lg_sl ([.int x0]) ++ List.replicate (1 - (lg_sl ([.int x0])).length) Slot.unset).toArray = ls at hl ⊢
  have hl : lv_has ls 1 [(0, .int x0)] := hl
  refine lv_iload_n hx hb dX6_roomOf_0 rfl (lv_at hl 0 rfl) ?_
  refine lv_iconst (v := 3) hx hb dX6_roomOf_1 (by decide) ?_
  have b_ : -2147483648 ≤ x0.toInt ∧ x0.toInt ≤ 2147483647 := ⟨zlo _, zhi _⟩
  refine lv_icmp_gt (tgt := 15) hx hb dX6_roomOf_2 (by decide) (fun c_ => ?_) (fun c_ => ?_)
  · skip
    have b_ := zT_gt rfl zk_3 c_
    refine lv_sipush (v := 224) hx hb dX6_roomOf_15 (by decide) ?_
    refine lv_sipush (v := 256) hx hb dX6_roomOf_18 (by decide) ?_
    refine lv_iload_n hx hb dX6_roomOf_21 rfl (lv_at hl 0 rfl) ?_
    refine lv_iconst (v := 3) hx hb dX6_roomOf_22 (by decide) ?_
    refine lv_isub hx hb dX6_roomOf_23 ?_
    refine lv_topi (fun z23 e_z23 => ?_)
    have b_ := zsub rfl zk_3 e_z23 (by omega) (by omega)
    refine lv_imul hx hb dX6_roomOf_24 ?_
    refine lv_topi (fun z24 e_z24 => ?_)
    have b_ : x0.toInt ≤ 1000 → z24.toInt = 256 * (x0.toInt - 3) := fun h => by have q := zmul zk_256 rfl e_z24 (by omega) (by omega); omega
    have b_ : -2147483648 ≤ z24.toInt ∧ z24.toInt ≤ 2147483647 := ⟨zlo _, zhi _⟩
    refine lv_iadd hx hb dX6_roomOf_25 ?_
    refine lv_topi (fun z25 e_z25 => ?_)
    have b_ : x0.toInt ≤ 1000 → z25.toInt = 224 + z24.toInt := fun h => zadd zk_224 rfl e_z25 (by omega) (by omega)
    refine W.widen (k := 0) (n := 0) (by decide) (by decide) ?_
    have b_ : -2147483648 ≤ z25.toInt ∧ z25.toInt ≤ 2147483647 := ⟨zlo _, zhi _⟩
    have hpost : (0 ≤ x0.toInt → x0.toInt ≤ 1000 → zRo x0.toInt z25.toInt) := by intro _ _; unfold zRo; omega
    have hP9 : va_P (dC, dI) vwCl [] s.heap := hP
    have hD9 : va_D A [] := hD
    exact W.iret (v := z25) hx hb hr (fun t ht hW => ⟨⟨z25, (fun _ => 0), rfl, hpost, (fun _ => 0), (fun _ => (fun _ => 0)), (fun _ => (fun _ => 0)), by rw [ht]; exact hP9, va_K.moved hW.alike hK, hD9⟩, hS.F ht⟩) hS.2.2 dX6_roomOf_26
  · skip
    have b_ := zF_gt rfl zk_3 c_
    refine lv_bipush (v := 32) hx hb dX6_roomOf_5 (by decide) ?_
    refine lv_iload_n hx hb dX6_roomOf_7 rfl (lv_at hl 0 rfl) ?_
    refine lv_ishl hx hb dX6_roomOf_8 ?_
    refine lv_topi (fun z8 e_z8 => ?_)
    have b_ : 0 ≤ x0.toInt → (x0.toInt = 0 ∧ z8.toInt = 32) ∨ (x0.toInt = 1 ∧ z8.toInt = 64) ∨ (x0.toInt = 2 ∧ z8.toInt = 128) ∨ (x0.toInt = 3 ∧ z8.toInt = 256) := fun h => zshl32 e_z8 h (by omega)
    refine lv_bipush (v := 32) hx hb dX6_roomOf_9 (by decide) ?_
    have b_ : -2147483648 ≤ z8.toInt ∧ z8.toInt ≤ 2147483647 := ⟨zlo _, zhi _⟩
    refine lv_isub hx hb dX6_roomOf_11 ?_
    refine lv_topi (fun z11 e_z11 => ?_)
    have b_ : 0 ≤ x0.toInt → z11.toInt = z8.toInt - 32 := fun h => zsub rfl zk_32 e_z11 (by omega) (by omega)
    refine lv_goto (tgt := 26) hx hb dX6_roomOf_12 (by decide) ?_
    refine W.widen (k := 0) (n := 0) (by decide) (by decide) ?_
    have b_ : -2147483648 ≤ z11.toInt ∧ z11.toInt ≤ 2147483647 := ⟨zlo _, zhi _⟩
    have hpost : (0 ≤ x0.toInt → x0.toInt ≤ 1000 → zRo x0.toInt z11.toInt) := by intro _ _; unfold zRo; omega
    have hP9 : va_P (dC, dI) vwCl [] s.heap := hP
    have hD9 : va_D A [] := hD
    exact W.iret (v := z11) hx hb hr (fun t ht hW => ⟨⟨z11, (fun _ => 0), rfl, hpost, (fun _ => 0), (fun _ => (fun _ => 0)), (fun _ => (fun _ => 0)), by rw [ht]; exact hP9, va_K.moved hW.alike hK, hD9⟩, hS.F ht⟩) hS.2.2 dX6_roomOf_26
set_option maxHeartbeats 8000000 in
set_option maxRecDepth 100000 in
theorem sX6_addChunk_0 (l : Launch) (dC : Nat → ClassId) (dI : Nat → Nat → Nat) (adK adV : Nat → Nat) (h0 : Nat) (h1 : Nat) (h5 : Nat) (h3 : Nat) (h2 : Nat) (h4 : Nat) (h6 : Nat) (h7 : Nat) (h8 : Nat) (k1 : ClassId) (k5 : ClassId) (k3 : ClassId) (k2 : ClassId) (k4 : ClassId) (sz : Nat) (v0 : Nat → Int32) (f1 : Nat → Int32) (f5 : Nat → Int32) (f3 : Nat → Int32) (f2 : Nat → Int32) (f4 : Nat → Int32) (x1 : Int32) (x2 : Int32) (hv0 : zR rg_Postings v0) (hf5 : zA 0 832 f5) (hf2 : zA 0 1250 f2) (hx1 : 0 ≤ x1.toInt ∧ x1.toInt ≤ 399) (hx2 : 0 ≤ x2.toInt ∧ x2.toInt ≤ 1000) : Met l yX6_addChunk (zw yX6_addChunk cX6_addChunk 4 (some .boolean)) { frames := 1, cells := 0, slots := 0, locals := 20 } (zPc dC dI adK adV [.ref h0, .int x1, .int x2] sz [(h0, .inr (6, mX6 h1 h2 h3 h4 h5 h6 h7 h8 v0)), (h1, zi k1 1250 f1), (h5, zi k5 400 f5), (h3, zi k3 833 f3), (h2, zi k2 833 f2), (h4, zi k4 400 f4)] [(k1, .int), (k5, .int), (k3, .int), (k2, .int), (k4, .int)]) (va_Qi (fun (r : Int32) (u : Nat → Int32) => (0 ≤ r.toInt ∧ r.toInt ≤ 1) ∧ (0 ≤ (u 0).toInt ∧ (u 0).toInt ≤ 833) ∧ (0 ≤ (u 1).toInt ∧ (u 1).toInt ≤ 1250) ∧ (r.toInt = 1 → zBs x2.toInt (32 * ((u 1).toInt - (v0 9).toInt))) ∧ (r.toInt = 1 → (u 0).toInt = (v0 8).toInt + 1) ∧ (r.toInt = 0 → (u 1).toInt = (v0 9).toInt ∧ (u 0).toInt = (v0 8).toInt) ∧ (r.toInt = 0 → zAx (v0 8).toInt (v0 9).toInt x2.toInt) ∧ (r.toInt = (u 3).toInt)) (fun (u : Nat → Int32) (t : State) => ∃ (ww : Nat → Int64) (aa : Nat → Nat → Int32) (bb : Nat → Nat → Int64), zA 0 832 (aa 0) ∧ zA 0 1250 (aa 2) ∧ ((u 3).toInt = 1 → (aa 0) = upd f5 ((x1 : Int32)).toNatClampNeg (v0 8) ∧ (aa 2) = upd f2 (v0 8).toNatClampNeg (v0 9)) ∧ ((u 3).toInt = 0 → (aa 0) = f5 ∧ (aa 2) = f2) ∧ ((u 3).toInt = 1 → zAc f2 f3 f4 f5 (v0 8).toInt (v0 9).toInt (v0 11).toInt (aa 2) (aa 1) (aa 3) (aa 0) (u 0).toInt (u 1).toInt (u 2).toInt ((x1 : Int32)).toNatClampNeg x2.toInt) ∧ va_P (dC, dI) vwCl [(h0, .inr (6, mX6 h1 h2 h3 h4 h5 h6 h7 h8 (upd (upd (upd v0 8 (u 0)) 9 (u 1)) 11 (u 2)))), (h1, zi k1 1250 f1), (h5, zi k5 400 (aa 0)), (h3, zi k3 833 (aa 1)), (h2, zi k2 833 (aa 2)), (h4, zi k4 400 (aa 3))] t.heap ∧ va_K (dC, dI) vwCl [(k1, .int), (k5, .int), (k3, .int), (k2, .int), (k4, .int)] t ∧ va_D (va_A [(h0, .inr (6, mX6 h1 h2 h3 h4 h5 h6 h7 h8 v0)), (h1, zi k1 1250 f1), (h5, zi k5 400 f5), (h3, zi k3 833 f3), (h2, zi k2 833 f2), (h4, zi k4 400 f4)] sz) [(h0, .inr (6, mX6 h1 h2 h3 h4 h5 h6 h7 h8 (upd (upd (upd v0 8 (u 0)) 9 (u 1)) 11 (u 2)))), (h1, zi k1 1250 f1), (h5, zi k5 400 (aa 0)), (h3, zi k3 833 (aa 1)), (h2, zi k2 833 (aa 2)), (h4, zi k4 400 (aa 3))]) (va_A [(h0, .inr (6, mX6 h1 h2 h3 h4 h5 h6 h7 h8 v0)), (h1, zi k1 1250 f1), (h5, zi k5 400 f5), (h3, zi k3 833 f3), (h2, zi k2 833 f2), (h4, zi k4 400 f4)] sz)) 0 0 (va_A [(h0, .inr (6, mX6 h1 h2 h3 h4 h5 h6 h7 h8 v0)), (h1, zi k1 1250 f1), (h5, zi k5 400 f5), (h3, zi k3 833 f3), (h2, zi k2 833 f2), (h4, zi k4 400 f4)] sz) := by
  refine Met.ofW (cc := cX6_addChunk) (maxL := 4) (ret := (some .boolean)) (by decide) rfl ?_
  intro p e s m args below meth c s₁ B hml hv
  obtain ⟨rfl, hsz, hP, hK, hD0, hE, hZ⟩ := hv
  have hx := B.exec
  have hb := B.bytes
  have hr := B.returns
  have hG : ∀ w ∈ zG, w.before _ s = true := fun w h => atoms_spec (ws := (zw yX6_addChunk cX6_addChunk 4 (some .boolean))) B.pre w (List.mem_cons_of_mem _ h)
  have hown : s.vm.findClass RX6 = some m.cls := findClass_of_methodNamed B.named
  have hlocks := B.notSynchronized

  subst hsz
  have hD := hD0.self (sz := s.heap.size)
  generalize hAe : va_A [(h0, .inr (6, mX6 h1 h2 h3 h4 h5 h6 h7 h8 v0)), (h1, zi k1 1250 f1), (h5, zi k5 400 f5), (h3, zi k3 833 f3), (h2, zi k2 833 f2), (h4, zi k4 400 f4)] s.heap.size = A at hD hZ ⊢
  have hA : ∀ q : Nat, s.heap.size ≤ q → A q := fun q h => by rw [← hAe]; exact Or.inr h
  have hS : va_S A s.heap s.heap [] := va_S.rf
  have hl := lv_entry ([.ref h0, .int x1, .int x2]) (n := 4) (Nat.le_of_ble_eq_true rfl)
  rw [lg_entry_eq]
  generalize (lg_sl ([.ref h0, .int x1, .int x2]) ++ List.replicate (4 - (lg_sl ([.ref h0, .int x1, .int x2])).length) Slot.unset).toArray = ls at hl ⊢
  have hl : lv_has ls 4 [(0, .ref h0), (1, .int x1), (2, .int x2)] := hl
  have b_ := zk_0
  have b_ := zk_1
  have b_ : 0 ≤ (v0 9).toInt ∧ (v0 9).toInt ≤ 1250 := hv0 9
  have b_ : 0 ≤ (v0 8).toInt ∧ (v0 8).toInt ≤ 833 := hv0 8
  refine lv_iload_n hx hb dX6_addChunk_0 rfl (lv_at hl 2 rfl) ?_
  have hPc := hP.sub (ws' := []) [] rfl
  have hDc := hD.sub (ws' := []) [] (by decide) rfl
  have hKc := hK.sub (tys' := []) [] rfl
  have hFc := va_free (wc := []) hD hS hA [] rfl
  refine va_calli (va_runS (As := [.int x2]) (rest := []) ⟨hx, hb, hml, hown, hG⟩ (sX6_bitsOfChunk_0 l dC dI adK adV s.heap.size x2) (va_cwS 1 hG (zgS zv847 zv848 zv133 zv849) rfl rfl rfl (by decide +kernel) ⟨Nat.le_of_ble_eq_true rfl, Nat.le_of_ble_eq_true rfl⟩) ⟨zPc_blind, zPc_pre hPc hKc hDc hE hS hFc hZ⟩ rfl rfl hl.1 rfl (lv_room (Nat.le_of_ble_eq_true rfl)) dX6_addChunk_1 ⟨Nat.le_of_ble_eq_true rfl, Nat.le_of_ble_eq_true rfl⟩) hS (fun q _ h => hFc q h) hFc (fun r1_ u1_ t H1 locs ht hvm hw hB hz1 hk1 hS => ?_)
  replace hw : (0 ≤ x2.toInt → zBs x2.toInt r1_.toInt) := hw
  have hX1_0 := hw
  obtain ⟨w1_, a1_, b1_, hP1, hK1, hD1⟩ := hB
  rw [ht] at hP1
  obtain ⟨hP, hD⟩ := va_join (wr := [(h0, .inr (6, mX6 h1 h2 h3 h4 h5 h6 h7 h8 v0)), (h1, zi k1 1250 f1), (h5, zi k5 400 f5), (h3, zi k3 833 f3), (h2, zi k2 833 f2), (h4, zi k4 400 f4)]) (w1 := []) hP hD [] [0, 1, 2, 3, 4, 5] rfl rfl (by decide) (by decide) hk1 hFc hP1 hD1
  have hP : va_P (dC, dI) vwCl [(h0, .inr (6, mX6 h1 h2 h3 h4 h5 h6 h7 h8 v0)), (h1, zi k1 1250 f1), (h5, zi k5 400 f5), (h3, zi k3 833 f3), (h2, zi k2 833 f2), (h4, zi k4 400 f4)] H1 := hP.sub [0, 1, 2, 3, 4, 5] rfl
  have hD : va_D A [(h0, .inr (6, mX6 h1 h2 h3 h4 h5 h6 h7 h8 v0)), (h1, zi k1 1250 f1), (h5, zi k5 400 f5), (h3, zi k3 833 f3), (h2, zi k2 833 f2), (h4, zi k4 400 f4)] := hD.sub [0, 1, 2, 3, 4, 5] (by decide) rfl
  generalize H1 = H at hP hS ⊢
  clear hz1
  have b_ : 32 ≤ r1_.toInt ∧ r1_.toInt ≤ 256 ∧ (r1_.toInt = 32 ∨ r1_.toInt = 64 ∨ r1_.toInt = 128 ∨ r1_.toInt = 256) := by have q := hX1_0 (by omega); unfold zBs at q; omega
  refine lv_istore_n (lv' := [(3, .int r1_), (0, .ref h0), (1, .int x1), (2, .int x2)]) hx hb dX6_addChunk_4 rfl hl (by decide) rfl (fun ls hl => ?_)
  refine lv_aload_n hx hb dX6_addChunk_5 rfl (lv_at hl 1 rfl) ?_
  refine va_get (D := (dC, dI)) (ci := 6) (v := .int (v0 8)) (C := RX6) (T := TX6) (N := 12) hx hb hG zuX6 hown hK hP 0 rfl rfl 8 (by decide) (hG _ zv256) (fun _ h9 => h9) rfl dX6_addChunk_6 ?_
  refine lv_sipush (v := 833) hx hb dX6_addChunk_9 (by decide) ?_
  refine lv_icmp_ge (tgt := 32) hx hb dX6_addChunk_12 (by decide) (fun c_ => ?_) (fun c_ => ?_)
  · skip
    have b_ := zT_ge rfl zk_833 c_
    refine lv_iconst (v := 0) hx hb dX6_addChunk_32 (by decide) ?_
    refine W.widen (k := 0) (n := 0) (by decide) (by decide) ?_
    have b_ : -2147483648 ≤ (v0 11).toInt ∧ (v0 11).toInt ≤ 2147483647 := ⟨zlo _, zhi _⟩
    have hpost : (0 ≤ (0 : Int32).toInt ∧ (0 : Int32).toInt ≤ 1) ∧ (0 ≤ (v0 8).toInt ∧ (v0 8).toInt ≤ 833) ∧ (0 ≤ (v0 9).toInt ∧ (v0 9).toInt ≤ 1250) ∧ ((0 : Int32).toInt = 1 → zBs x2.toInt (32 * ((v0 9).toInt - (v0 9).toInt))) ∧ ((0 : Int32).toInt = 1 → (v0 8).toInt = (v0 8).toInt + 1) ∧ ((0 : Int32).toInt = 0 → (v0 9).toInt = (v0 9).toInt ∧ (v0 8).toInt = (v0 8).toInt) ∧ ((0 : Int32).toInt = 0 → zAx (v0 8).toInt (v0 9).toInt x2.toInt) ∧ ((0 : Int32).toInt = (0 : Int32).toInt) := ⟨(by first | with_reducible assumption | exact ⟨by omega, by omega⟩), (by first | with_reducible assumption | exact ⟨by omega, by omega⟩), (by first | with_reducible assumption | exact ⟨by omega, by omega⟩), by intro _; have q := hX1_0 (by omega); unfold zBs at q ⊢; omega, by omega, by omega, by first | (intro q; exact absurd q (by decide)) | (intro _; exact Or.inl (by omega)) | (intro _; exact Or.inr ⟨_, hX1_0 (by omega), by omega⟩), rfl⟩
    have hP9 : va_P (dC, dI) vwCl [(h0, .inr (6, mX6 h1 h2 h3 h4 h5 h6 h7 h8 (upd (upd (upd v0 8 (v0 8)) 9 (v0 9)) 11 (v0 11)))), (h1, zi k1 1250 f1), (h5, zi k5 400 f5), (h3, zi k3 833 f3), (h2, zi k2 833 f2), (h4, zi k4 400 f4)] H := hP
    have hD9 : va_D A [(h0, .inr (6, mX6 h1 h2 h3 h4 h5 h6 h7 h8 (upd (upd (upd v0 8 (v0 8)) 9 (v0 9)) 11 (v0 11)))), (h1, zi k1 1250 f1), (h5, zi k5 400 f5), (h3, zi k3 833 f3), (h2, zi k2 833 f2), (h4, zi k4 400 f4)] := hD
    have hB0 : (0 : Int32).toInt = 1 → f5 = upd f5 ((x1 : Int32)).toNatClampNeg (v0 8) ∧ f2 = upd f2 (v0 8).toNatClampNeg (v0 9) := by first | (intro _; exact ⟨e_f_75, e_f_88⟩) | (intro q; exact absurd q (by decide))
    have hB1 : (0 : Int32).toInt = 0 → f5 = f5 ∧ f2 = f2 := by first | (intro _; exact ⟨rfl, rfl⟩) | (intro q; exact absurd q (by decide))
    have hB2 : (0 : Int32).toInt = 1 → zAc f2 f3 f4 f5 (v0 8).toInt (v0 9).toInt (v0 11).toInt f2 f3 f4 f5 (v0 8).toInt (v0 9).toInt (v0 11).toInt ((x1 : Int32)).toNatClampNeg x2.toInt := by first | (intro q; exact absurd q (by decide)) | (intro _; exact zAc_i (L := z60) e_f_88 e_f_75 (Or.inr ⟨by omega, rfl, by rw [e_f_98, e_f_65], e_z60⟩) (by omega) (hf5 _).1 (hX1_0 (by omega)) (by omega) (by omega) rfl e_z130 e_z131) | (intro _; exact zAc_i (L := 0) e_f_88 e_f_75 (Or.inl ⟨by omega, e_f_47, e_f_98⟩) (by omega) (hf5 _).1 (hX1_0 (by omega)) (by omega) (by omega) rfl e_z130 e_z131)
    exact W.zret (v := 0) hx hb hr rfl (fun t ht hW => ⟨⟨0, (fun i => ([(v0 8), (v0 9), (v0 11), 0] : List (Int32)).getD i 0), rfl, hpost, (fun _ => 0), (fun i => ([f5, f3, f2, f4] : List (Nat → Int32)).getD i (fun _ => 0)), (fun _ => (fun _ => 0)), hf5, hf2, hB0, hB1, hB2, by rw [ht]; exact hP9, va_K.moved hW.alike hK, hD9⟩, hS.F ht⟩) hS.2.2 dX6_addChunk_33
  · skip
    have b_ := zF_ge rfl zk_833 c_
    refine lv_aload_n hx hb dX6_addChunk_15 rfl (lv_at hl 1 rfl) ?_
    refine va_get (D := (dC, dI)) (ci := 6) (v := .int (v0 9)) (C := RX6) (T := TX6) (N := 12) hx hb hG zuX6 hown hK hP 0 rfl rfl 9 (by decide) (hG _ zv257) (fun _ h9 => h9) rfl dX6_addChunk_16 ?_
    refine lv_iload_n hx hb dX6_addChunk_19 rfl (lv_at hl 0 rfl) ?_
    refine lv_bipush (v := 32) hx hb dX6_addChunk_20 (by decide) ?_
    have b_ : -2147483648 ≤ r1_.toInt ∧ r1_.toInt ≤ 2147483647 := ⟨zlo _, zhi _⟩
    refine lv_idiv hx hb dX6_addChunk_22 (by decide) ?_
    refine lv_topi (fun z22 e_z22 => ?_)
    have b_ := zdiv rfl zk_32 e_z22 (by omega) (by decide)
    refine lv_iadd hx hb dX6_addChunk_23 ?_
    refine lv_topi (fun z23 e_z23 => ?_)
    have b_ := zadd rfl rfl e_z23 (by omega) (by omega)
    refine lv_aload_n hx hb dX6_addChunk_24 rfl (lv_at hl 1 rfl) ?_
    refine va_get (D := (dC, dI)) (ci := 6) (v := .ref h1) (C := RX6) (T := TX6) (N := 12) hx hb hG zuX6 hown hK hP 0 rfl rfl 0 (by decide) (hG _ zv248) (fun _ h9 => h9) rfl dX6_addChunk_25 ?_
    refine va_alen (v := 1250) hx hb hK hP 1 0 rfl rfl (show Int32.ofNat 1250 = 1250 from by decide +kernel) dX6_addChunk_28 ?_
    refine lv_icmp_le (tgt := 34) hx hb dX6_addChunk_29 (by decide) (fun c_ => ?_) (fun c_ => ?_)
    · skip
      have b_ := zT_le rfl zk_1250 c_
      refine lv_iload_n hx hb dX6_addChunk_34 rfl (lv_at hl 3 rfl) ?_
      refine lv_if_ne (tgt := 51) hx hb dX6_addChunk_35 (by decide) (fun c_ => ?_) (fun c_ => ?_)
      · skip
        have b_ := zT_ne rfl zk_0 c_
        refine lv_aload_n hx hb dX6_addChunk_51 rfl (lv_at hl 1 rfl) ?_
        refine va_get (D := (dC, dI)) (ci := 6) (v := .ref h3) (C := RX6) (T := TX6) (N := 12) hx hb hG zuX6 hown hK hP 0 rfl rfl 2 (by decide) (hG _ zv250) (fun _ h9 => h9) rfl dX6_addChunk_52 ?_
        refine lv_aload_n hx hb dX6_addChunk_55 rfl (lv_at hl 1 rfl) ?_
        refine va_get (D := (dC, dI)) (ci := 6) (v := .ref h5) (C := RX6) (T := TX6) (N := 12) hx hb hG zuX6 hown hK hP 0 rfl rfl 4 (by decide) (hG _ zv252) (fun _ h9 => h9) rfl dX6_addChunk_56 ?_
        refine lv_iload_n hx hb dX6_addChunk_59 rfl (lv_at hl 2 rfl) ?_
        refine va_iald hx hb hK hP 2 1 rfl rfl (zin_lit ⟨by omega, by omega⟩) dX6_addChunk_60 ?_
        refine lv_topi (fun z60 e_z60 => ?_)
        have b_ : 0 ≤ z60.toInt ∧ z60.toInt ≤ 832 := by rw [e_z60]; exact hf5 _
        refine lv_aload_n hx hb dX6_addChunk_61 rfl (lv_at hl 1 rfl) ?_
        refine va_get (D := (dC, dI)) (ci := 6) (v := .int (v0 8)) (C := RX6) (T := TX6) (N := 12) hx hb hG zuX6 hown hK hP 0 rfl rfl 8 (by decide) (hG _ zv256) (fun _ h9 => h9) rfl dX6_addChunk_62 ?_
        refine va_iast hx hb hK hP hD hS 3 2 rfl rfl (zin_lit ⟨by omega, by omega⟩) dX6_addChunk_65 (fun H locs hP hD hS => ?_)
        obtain ⟨f_65, e_f_65⟩ : ∃ z : Nat → Int32, z = upd f3 (z60 : Int32).toNatClampNeg (v0 8) := ⟨_, rfl⟩
        have hP : va_P (dC, dI) vwCl [(h0, .inr (6, mX6 h1 h2 h3 h4 h5 h6 h7 h8 v0)), (h1, zi k1 1250 f1), (h5, zi k5 400 f5), (h3, zi k3 833 f_65), (h2, zi k2 833 f2), (h4, zi k4 400 f4)] H := by rw [e_f_65]; exact hP
        have hD : va_D A [(h0, .inr (6, mX6 h1 h2 h3 h4 h5 h6 h7 h8 v0)), (h1, zi k1 1250 f1), (h5, zi k5 400 f5), (h3, zi k3 833 f_65), (h2, zi k2 833 f2), (h4, zi k4 400 f4)] := by rw [e_f_65]; exact hD
        refine lv_aload_n hx hb dX6_addChunk_66 rfl (lv_at hl 1 rfl) ?_
        refine va_get (D := (dC, dI)) (ci := 6) (v := .ref h5) (C := RX6) (T := TX6) (N := 12) hx hb hG zuX6 hown hK hP 0 rfl rfl 4 (by decide) (hG _ zv252) (fun _ h9 => h9) rfl dX6_addChunk_67 ?_
        refine lv_iload_n hx hb dX6_addChunk_70 rfl (lv_at hl 2 rfl) ?_
        refine lv_aload_n hx hb dX6_addChunk_71 rfl (lv_at hl 1 rfl) ?_
        refine va_get (D := (dC, dI)) (ci := 6) (v := .int (v0 8)) (C := RX6) (T := TX6) (N := 12) hx hb hG zuX6 hown hK hP 0 rfl rfl 8 (by decide) (hG _ zv256) (fun _ h9 => h9) rfl dX6_addChunk_72 ?_
        refine va_iast hx hb hK hP hD hS 2 1 rfl rfl (zin_lit ⟨by omega, by omega⟩) dX6_addChunk_75 (fun H locs hP hD hS => ?_)
        obtain ⟨f_75, e_f_75⟩ : ∃ z : Nat → Int32, z = upd f5 (x1 : Int32).toNatClampNeg (v0 8) := ⟨_, rfl⟩
        have hP : va_P (dC, dI) vwCl [(h0, .inr (6, mX6 h1 h2 h3 h4 h5 h6 h7 h8 v0)), (h1, zi k1 1250 f1), (h5, zi k5 400 f_75), (h3, zi k3 833 f_65), (h2, zi k2 833 f2), (h4, zi k4 400 f4)] H := by rw [e_f_75]; exact hP
        have hD : va_D A [(h0, .inr (6, mX6 h1 h2 h3 h4 h5 h6 h7 h8 v0)), (h1, zi k1 1250 f1), (h5, zi k5 400 f_75), (h3, zi k3 833 f_65), (h2, zi k2 833 f2), (h4, zi k4 400 f4)] := by rw [e_f_75]; exact hD
        have hf_75 : zA 0 832 f_75 := by rw [e_f_75]; exact zA_upd hf5 (show 0 ≤ ((v0 8) : Int32).toInt from by omega) (show ((v0 8) : Int32).toInt ≤ 832 from by omega)
        refine lv_aload_n hx hb dX6_addChunk_76 rfl (lv_at hl 1 rfl) ?_
        refine va_get (D := (dC, dI)) (ci := 6) (v := .ref h2) (C := RX6) (T := TX6) (N := 12) hx hb hG zuX6 hown hK hP 0 rfl rfl 1 (by decide) (hG _ zv249) (fun _ h9 => h9) rfl dX6_addChunk_77 ?_
        refine lv_aload_n hx hb dX6_addChunk_80 rfl (lv_at hl 1 rfl) ?_
        refine va_get (D := (dC, dI)) (ci := 6) (v := .int (v0 8)) (C := RX6) (T := TX6) (N := 12) hx hb hG zuX6 hown hK hP 0 rfl rfl 8 (by decide) (hG _ zv256) (fun _ h9 => h9) rfl dX6_addChunk_81 ?_
        refine lv_aload_n hx hb dX6_addChunk_84 rfl (lv_at hl 1 rfl) ?_
        refine va_get (D := (dC, dI)) (ci := 6) (v := .int (v0 9)) (C := RX6) (T := TX6) (N := 12) hx hb hG zuX6 hown hK hP 0 rfl rfl 9 (by decide) (hG _ zv257) (fun _ h9 => h9) rfl dX6_addChunk_85 ?_
        refine va_iast hx hb hK hP hD hS 4 3 rfl rfl (zin_lit ⟨by omega, by omega⟩) dX6_addChunk_88 (fun H locs hP hD hS => ?_)
        obtain ⟨f_88, e_f_88⟩ : ∃ z : Nat → Int32, z = upd f2 ((v0 8) : Int32).toNatClampNeg (v0 9) := ⟨_, rfl⟩
        have hP : va_P (dC, dI) vwCl [(h0, .inr (6, mX6 h1 h2 h3 h4 h5 h6 h7 h8 v0)), (h1, zi k1 1250 f1), (h5, zi k5 400 f_75), (h3, zi k3 833 f_65), (h2, zi k2 833 f_88), (h4, zi k4 400 f4)] H := by rw [e_f_88]; exact hP
        have hD : va_D A [(h0, .inr (6, mX6 h1 h2 h3 h4 h5 h6 h7 h8 v0)), (h1, zi k1 1250 f1), (h5, zi k5 400 f_75), (h3, zi k3 833 f_65), (h2, zi k2 833 f_88), (h4, zi k4 400 f4)] := by rw [e_f_88]; exact hD
        have hf_88 : zA 0 1250 f_88 := by rw [e_f_88]; exact zA_upd hf2 (show 0 ≤ ((v0 9) : Int32).toInt from by omega) (show ((v0 9) : Int32).toInt ≤ 1250 from by omega)
        refine lv_aload_n hx hb dX6_addChunk_89 rfl (lv_at hl 1 rfl) ?_
        refine va_get (D := (dC, dI)) (ci := 6) (v := .ref h3) (C := RX6) (T := TX6) (N := 12) hx hb hG zuX6 hown hK hP 0 rfl rfl 2 (by decide) (hG _ zv250) (fun _ h9 => h9) rfl dX6_addChunk_90 ?_
        refine lv_aload_n hx hb dX6_addChunk_93 rfl (lv_at hl 1 rfl) ?_
        refine va_get (D := (dC, dI)) (ci := 6) (v := .int (v0 8)) (C := RX6) (T := TX6) (N := 12) hx hb hG zuX6 hown hK hP 0 rfl rfl 8 (by decide) (hG _ zv256) (fun _ h9 => h9) rfl dX6_addChunk_94 ?_
        refine lv_iconst (v := (-1)) hx hb dX6_addChunk_97 (by decide) ?_
        refine va_iast hx hb hK hP hD hS 3 2 rfl rfl (zin_lit ⟨by omega, by omega⟩) dX6_addChunk_98 (fun H locs hP hD hS => ?_)
        obtain ⟨f_98, e_f_98⟩ : ∃ z : Nat → Int32, z = upd f_65 ((v0 8) : Int32).toNatClampNeg (-1) := ⟨_, rfl⟩
        have hP : va_P (dC, dI) vwCl [(h0, .inr (6, mX6 h1 h2 h3 h4 h5 h6 h7 h8 v0)), (h1, zi k1 1250 f1), (h5, zi k5 400 f_75), (h3, zi k3 833 f_98), (h2, zi k2 833 f_88), (h4, zi k4 400 f4)] H := by rw [e_f_98]; exact hP
        have hD : va_D A [(h0, .inr (6, mX6 h1 h2 h3 h4 h5 h6 h7 h8 v0)), (h1, zi k1 1250 f1), (h5, zi k5 400 f_75), (h3, zi k3 833 f_98), (h2, zi k2 833 f_88), (h4, zi k4 400 f4)] := by rw [e_f_98]; exact hD
        refine lv_aload_n hx hb dX6_addChunk_99 rfl (lv_at hl 1 rfl) ?_
        refine lv_dup hx hb dX6_addChunk_100 rfl ?_
        refine va_get (D := (dC, dI)) (ci := 6) (v := .int (v0 8)) (C := RX6) (T := TX6) (N := 12) hx hb hG zuX6 hown hK hP 0 rfl rfl 8 (by decide) (hG _ zv256) (fun _ h9 => h9) rfl dX6_addChunk_101 ?_
        refine lv_iconst (v := 1) hx hb dX6_addChunk_104 (by decide) ?_
        refine lv_iadd hx hb dX6_addChunk_105 ?_
        refine lv_topi (fun z105 e_z105 => ?_)
        have b_ := zadd rfl zk_1 e_z105 (by omega) (by omega)
        refine va_put (D := (dC, dI)) (ci := 6) (v := .int z105) (ty := .int) (C := RX6) (T := TX6) (N := 12) hx hb hG zuX6 tyX6 tyX6_ok nmX6 hown hK hP hD hS 0 rfl rfl 8 (by decide) (hG _ zv256) (fun _ h9 => h9) rfl (by decide +kernel) rfl rfl (Nat.le_of_ble_eq_true rfl) dX6_addChunk_106 (fun H locs hP hD hS => ?_)
        have hP : va_P (dC, dI) vwCl [(h0, .inr (6, mX6 h1 h2 h3 h4 h5 h6 h7 h8 (upd v0 8 z105))), (h1, zi k1 1250 f1), (h5, zi k5 400 f_75), (h3, zi k3 833 f_98), (h2, zi k2 833 f_88), (h4, zi k4 400 f4)] H := hP
        have hD : va_D A [(h0, .inr (6, mX6 h1 h2 h3 h4 h5 h6 h7 h8 (upd v0 8 z105))), (h1, zi k1 1250 f1), (h5, zi k5 400 f_75), (h3, zi k3 833 f_98), (h2, zi k2 833 f_88), (h4, zi k4 400 f4)] := hD
        refine lv_aload_n hx hb dX6_addChunk_109 rfl (lv_at hl 1 rfl) ?_
        refine lv_dup hx hb dX6_addChunk_110 rfl ?_
        refine va_get (D := (dC, dI)) (ci := 6) (v := .int (v0 9)) (C := RX6) (T := TX6) (N := 12) hx hb hG zuX6 hown hK hP 0 rfl rfl 9 (by decide) (hG _ zv257) (fun _ h9 => h9) rfl dX6_addChunk_111 ?_
        refine lv_iload_n hx hb dX6_addChunk_114 rfl (lv_at hl 0 rfl) ?_
        refine lv_bipush (v := 32) hx hb dX6_addChunk_115 (by decide) ?_
        refine lv_idiv hx hb dX6_addChunk_117 (by decide) ?_
        refine lv_topi (fun z117 e_z117 => ?_)
        have b_ := zdiv rfl zk_32 e_z117 (by omega) (by decide)
        refine lv_iadd hx hb dX6_addChunk_118 ?_
        refine lv_topi (fun z118 e_z118 => ?_)
        have b_ := zadd rfl rfl e_z118 (by omega) (by omega)
        have b_ : 0 ≤ z118.toInt ∧ z118.toInt ≤ 1250 := ⟨by omega, by omega⟩
        refine va_put (D := (dC, dI)) (ci := 6) (v := .int z118) (ty := .int) (C := RX6) (T := TX6) (N := 12) hx hb hG zuX6 tyX6 tyX6_ok nmX6 hown hK hP hD hS 0 rfl rfl 9 (by decide) (hG _ zv257) (fun _ h9 => h9) rfl (by decide +kernel) rfl rfl (Nat.le_of_ble_eq_true rfl) dX6_addChunk_119 (fun H locs hP hD hS => ?_)
        have hP : va_P (dC, dI) vwCl [(h0, .inr (6, mX6 h1 h2 h3 h4 h5 h6 h7 h8 (upd (upd v0 8 z105) 9 z118))), (h1, zi k1 1250 f1), (h5, zi k5 400 f_75), (h3, zi k3 833 f_98), (h2, zi k2 833 f_88), (h4, zi k4 400 f4)] H := hP
        have hD : va_D A [(h0, .inr (6, mX6 h1 h2 h3 h4 h5 h6 h7 h8 (upd (upd v0 8 z105) 9 z118))), (h1, zi k1 1250 f1), (h5, zi k5 400 f_75), (h3, zi k3 833 f_98), (h2, zi k2 833 f_88), (h4, zi k4 400 f4)] := hD
        refine lv_aload_n hx hb dX6_addChunk_122 rfl (lv_at hl 1 rfl) ?_
        refine lv_dup hx hb dX6_addChunk_123 rfl ?_
        refine va_get (D := (dC, dI)) (ci := 6) (v := .int (v0 11)) (C := RX6) (T := TX6) (N := 12) hx hb hG zuX6 hown hK hP 0 rfl rfl 11 (by decide) (hG _ zv259) (fun _ h9 => h9) rfl dX6_addChunk_124 ?_
        refine lv_iload_n hx hb dX6_addChunk_127 rfl (lv_at hl 0 rfl) ?_
        refine lv_bipush (v := 16) hx hb dX6_addChunk_128 (by decide) ?_
        refine lv_iadd hx hb dX6_addChunk_130 ?_
        refine lv_topi (fun z130 e_z130 => ?_)
        have b_ := zadd rfl zk_16 e_z130 (by omega) (by omega)
        have b_ : -2147483648 ≤ (v0 11).toInt ∧ (v0 11).toInt ≤ 2147483647 := ⟨zlo _, zhi _⟩
        refine lv_iadd hx hb dX6_addChunk_131 ?_
        refine lv_topi (fun z131 e_z131 => ?_)
        refine va_put (D := (dC, dI)) (ci := 6) (v := .int z131) (ty := .int) (C := RX6) (T := TX6) (N := 12) hx hb hG zuX6 tyX6 tyX6_ok nmX6 hown hK hP hD hS 0 rfl rfl 11 (by decide) (hG _ zv259) (fun _ h9 => h9) rfl (by decide +kernel) rfl rfl (Nat.le_of_ble_eq_true rfl) dX6_addChunk_132 (fun H locs hP hD hS => ?_)
        have hP : va_P (dC, dI) vwCl [(h0, .inr (6, mX6 h1 h2 h3 h4 h5 h6 h7 h8 (upd (upd (upd v0 8 z105) 9 z118) 11 z131))), (h1, zi k1 1250 f1), (h5, zi k5 400 f_75), (h3, zi k3 833 f_98), (h2, zi k2 833 f_88), (h4, zi k4 400 f4)] H := hP
        have hD : va_D A [(h0, .inr (6, mX6 h1 h2 h3 h4 h5 h6 h7 h8 (upd (upd (upd v0 8 z105) 9 z118) 11 z131))), (h1, zi k1 1250 f1), (h5, zi k5 400 f_75), (h3, zi k3 833 f_98), (h2, zi k2 833 f_88), (h4, zi k4 400 f4)] := hD
        refine lv_iconst (v := 1) hx hb dX6_addChunk_135 (by decide) ?_
        refine W.widen (k := 0) (n := 0) (by decide) (by decide) ?_
        have b_ : -2147483648 ≤ z131.toInt ∧ z131.toInt ≤ 2147483647 := ⟨zlo _, zhi _⟩
        have hpost : (0 ≤ (1 : Int32).toInt ∧ (1 : Int32).toInt ≤ 1) ∧ (0 ≤ z105.toInt ∧ z105.toInt ≤ 833) ∧ (0 ≤ z118.toInt ∧ z118.toInt ≤ 1250) ∧ ((1 : Int32).toInt = 1 → zBs x2.toInt (32 * (z118.toInt - (v0 9).toInt))) ∧ ((1 : Int32).toInt = 1 → z105.toInt = (v0 8).toInt + 1) ∧ ((1 : Int32).toInt = 0 → z118.toInt = (v0 9).toInt ∧ z105.toInt = (v0 8).toInt) ∧ ((1 : Int32).toInt = 0 → zAx (v0 8).toInt (v0 9).toInt x2.toInt) ∧ ((1 : Int32).toInt = (1 : Int32).toInt) := ⟨(by first | with_reducible assumption | exact ⟨by omega, by omega⟩), (by first | with_reducible assumption | exact ⟨by omega, by omega⟩), (by first | with_reducible assumption | exact ⟨by omega, by omega⟩), by intro _; have q := hX1_0 (by omega); unfold zBs at q ⊢; omega, by omega, by omega, by first | (intro q; exact absurd q (by decide)) | (intro _; exact Or.inl (by omega)) | (intro _; exact Or.inr ⟨_, hX1_0 (by omega), by omega⟩), rfl⟩
        have hP9 : va_P (dC, dI) vwCl [(h0, .inr (6, mX6 h1 h2 h3 h4 h5 h6 h7 h8 (upd (upd (upd v0 8 z105) 9 z118) 11 z131))), (h1, zi k1 1250 f1), (h5, zi k5 400 f_75), (h3, zi k3 833 f_98), (h2, zi k2 833 f_88), (h4, zi k4 400 f4)] H := hP
        have hD9 : va_D A [(h0, .inr (6, mX6 h1 h2 h3 h4 h5 h6 h7 h8 (upd (upd (upd v0 8 z105) 9 z118) 11 z131))), (h1, zi k1 1250 f1), (h5, zi k5 400 f_75), (h3, zi k3 833 f_98), (h2, zi k2 833 f_88), (h4, zi k4 400 f4)] := hD
        have hB0 : (1 : Int32).toInt = 1 → f_75 = upd f5 ((x1 : Int32)).toNatClampNeg (v0 8) ∧ f_88 = upd f2 (v0 8).toNatClampNeg (v0 9) := by first | (intro _; exact ⟨e_f_75, e_f_88⟩) | (intro q; exact absurd q (by decide))
        have hB1 : (1 : Int32).toInt = 0 → f_75 = f5 ∧ f_88 = f2 := by first | (intro _; exact ⟨rfl, rfl⟩) | (intro q; exact absurd q (by decide))
        have hB2 : (1 : Int32).toInt = 1 → zAc f2 f3 f4 f5 (v0 8).toInt (v0 9).toInt (v0 11).toInt f_88 f_98 f4 f_75 z105.toInt z118.toInt z131.toInt ((x1 : Int32)).toNatClampNeg x2.toInt := by first | (intro q; exact absurd q (by decide)) | (intro _; exact zAc_i (L := z60) e_f_88 e_f_75 (Or.inr ⟨by omega, rfl, by rw [e_f_98, e_f_65], e_z60⟩) (by omega) (hf5 _).1 (hX1_0 (by omega)) (by omega) (by omega) rfl e_z130 e_z131) | (intro _; exact zAc_i (L := 0) e_f_88 e_f_75 (Or.inl ⟨by omega, e_f_47, e_f_98⟩) (by omega) (hf5 _).1 (hX1_0 (by omega)) (by omega) (by omega) rfl e_z130 e_z131)
        exact W.zret (v := 1) hx hb hr rfl (fun t ht hW => ⟨⟨1, (fun i => ([z105, z118, z131, 1] : List (Int32)).getD i 0), rfl, hpost, (fun _ => 0), (fun i => ([f_75, f_98, f_88, f4] : List (Nat → Int32)).getD i (fun _ => 0)), (fun _ => (fun _ => 0)), hf_75, hf_88, hB0, hB1, hB2, by rw [ht]; exact hP9, va_K.moved hW.alike hK, hD9⟩, hS.F ht⟩) hS.2.2 dX6_addChunk_136
      · skip
        have b_ := zF_ne rfl zk_0 c_
        refine lv_aload_n hx hb dX6_addChunk_38 rfl (lv_at hl 1 rfl) ?_
        refine va_get (D := (dC, dI)) (ci := 6) (v := .ref h4) (C := RX6) (T := TX6) (N := 12) hx hb hG zuX6 hown hK hP 0 rfl rfl 3 (by decide) (hG _ zv251) (fun _ h9 => h9) rfl dX6_addChunk_39 ?_
        refine lv_iload_n hx hb dX6_addChunk_42 rfl (lv_at hl 2 rfl) ?_
        refine lv_aload_n hx hb dX6_addChunk_43 rfl (lv_at hl 1 rfl) ?_
        refine va_get (D := (dC, dI)) (ci := 6) (v := .int (v0 8)) (C := RX6) (T := TX6) (N := 12) hx hb hG zuX6 hown hK hP 0 rfl rfl 8 (by decide) (hG _ zv256) (fun _ h9 => h9) rfl dX6_addChunk_44 ?_
        refine va_iast hx hb hK hP hD hS 5 4 rfl rfl (zin_lit ⟨by omega, by omega⟩) dX6_addChunk_47 (fun H locs hP hD hS => ?_)
        obtain ⟨f_47, e_f_47⟩ : ∃ z : Nat → Int32, z = upd f4 (x1 : Int32).toNatClampNeg (v0 8) := ⟨_, rfl⟩
        have hP : va_P (dC, dI) vwCl [(h0, .inr (6, mX6 h1 h2 h3 h4 h5 h6 h7 h8 v0)), (h1, zi k1 1250 f1), (h5, zi k5 400 f5), (h3, zi k3 833 f3), (h2, zi k2 833 f2), (h4, zi k4 400 f_47)] H := by rw [e_f_47]; exact hP
        have hD : va_D A [(h0, .inr (6, mX6 h1 h2 h3 h4 h5 h6 h7 h8 v0)), (h1, zi k1 1250 f1), (h5, zi k5 400 f5), (h3, zi k3 833 f3), (h2, zi k2 833 f2), (h4, zi k4 400 f_47)] := by rw [e_f_47]; exact hD
        refine lv_goto (tgt := 66) hx hb dX6_addChunk_48 (by decide) ?_
        refine lv_aload_n hx hb dX6_addChunk_66 rfl (lv_at hl 1 rfl) ?_
        refine va_get (D := (dC, dI)) (ci := 6) (v := .ref h5) (C := RX6) (T := TX6) (N := 12) hx hb hG zuX6 hown hK hP 0 rfl rfl 4 (by decide) (hG _ zv252) (fun _ h9 => h9) rfl dX6_addChunk_67 ?_
        refine lv_iload_n hx hb dX6_addChunk_70 rfl (lv_at hl 2 rfl) ?_
        refine lv_aload_n hx hb dX6_addChunk_71 rfl (lv_at hl 1 rfl) ?_
        refine va_get (D := (dC, dI)) (ci := 6) (v := .int (v0 8)) (C := RX6) (T := TX6) (N := 12) hx hb hG zuX6 hown hK hP 0 rfl rfl 8 (by decide) (hG _ zv256) (fun _ h9 => h9) rfl dX6_addChunk_72 ?_
        refine va_iast hx hb hK hP hD hS 2 1 rfl rfl (zin_lit ⟨by omega, by omega⟩) dX6_addChunk_75 (fun H locs hP hD hS => ?_)
        obtain ⟨f_75, e_f_75⟩ : ∃ z : Nat → Int32, z = upd f5 (x1 : Int32).toNatClampNeg (v0 8) := ⟨_, rfl⟩
        have hP : va_P (dC, dI) vwCl [(h0, .inr (6, mX6 h1 h2 h3 h4 h5 h6 h7 h8 v0)), (h1, zi k1 1250 f1), (h5, zi k5 400 f_75), (h3, zi k3 833 f3), (h2, zi k2 833 f2), (h4, zi k4 400 f_47)] H := by rw [e_f_75]; exact hP
        have hD : va_D A [(h0, .inr (6, mX6 h1 h2 h3 h4 h5 h6 h7 h8 v0)), (h1, zi k1 1250 f1), (h5, zi k5 400 f_75), (h3, zi k3 833 f3), (h2, zi k2 833 f2), (h4, zi k4 400 f_47)] := by rw [e_f_75]; exact hD
        have hf_75 : zA 0 832 f_75 := by rw [e_f_75]; exact zA_upd hf5 (show 0 ≤ ((v0 8) : Int32).toInt from by omega) (show ((v0 8) : Int32).toInt ≤ 832 from by omega)
        refine lv_aload_n hx hb dX6_addChunk_76 rfl (lv_at hl 1 rfl) ?_
        refine va_get (D := (dC, dI)) (ci := 6) (v := .ref h2) (C := RX6) (T := TX6) (N := 12) hx hb hG zuX6 hown hK hP 0 rfl rfl 1 (by decide) (hG _ zv249) (fun _ h9 => h9) rfl dX6_addChunk_77 ?_
        refine lv_aload_n hx hb dX6_addChunk_80 rfl (lv_at hl 1 rfl) ?_
        refine va_get (D := (dC, dI)) (ci := 6) (v := .int (v0 8)) (C := RX6) (T := TX6) (N := 12) hx hb hG zuX6 hown hK hP 0 rfl rfl 8 (by decide) (hG _ zv256) (fun _ h9 => h9) rfl dX6_addChunk_81 ?_
        refine lv_aload_n hx hb dX6_addChunk_84 rfl (lv_at hl 1 rfl) ?_
        refine va_get (D := (dC, dI)) (ci := 6) (v := .int (v0 9)) (C := RX6) (T := TX6) (N := 12) hx hb hG zuX6 hown hK hP 0 rfl rfl 9 (by decide) (hG _ zv257) (fun _ h9 => h9) rfl dX6_addChunk_85 ?_
        refine va_iast hx hb hK hP hD hS 4 3 rfl rfl (zin_lit ⟨by omega, by omega⟩) dX6_addChunk_88 (fun H locs hP hD hS => ?_)
        obtain ⟨f_88, e_f_88⟩ : ∃ z : Nat → Int32, z = upd f2 ((v0 8) : Int32).toNatClampNeg (v0 9) := ⟨_, rfl⟩
        have hP : va_P (dC, dI) vwCl [(h0, .inr (6, mX6 h1 h2 h3 h4 h5 h6 h7 h8 v0)), (h1, zi k1 1250 f1), (h5, zi k5 400 f_75), (h3, zi k3 833 f3), (h2, zi k2 833 f_88), (h4, zi k4 400 f_47)] H := by rw [e_f_88]; exact hP
        have hD : va_D A [(h0, .inr (6, mX6 h1 h2 h3 h4 h5 h6 h7 h8 v0)), (h1, zi k1 1250 f1), (h5, zi k5 400 f_75), (h3, zi k3 833 f3), (h2, zi k2 833 f_88), (h4, zi k4 400 f_47)] := by rw [e_f_88]; exact hD
        have hf_88 : zA 0 1250 f_88 := by rw [e_f_88]; exact zA_upd hf2 (show 0 ≤ ((v0 9) : Int32).toInt from by omega) (show ((v0 9) : Int32).toInt ≤ 1250 from by omega)
        refine lv_aload_n hx hb dX6_addChunk_89 rfl (lv_at hl 1 rfl) ?_
        refine va_get (D := (dC, dI)) (ci := 6) (v := .ref h3) (C := RX6) (T := TX6) (N := 12) hx hb hG zuX6 hown hK hP 0 rfl rfl 2 (by decide) (hG _ zv250) (fun _ h9 => h9) rfl dX6_addChunk_90 ?_
        refine lv_aload_n hx hb dX6_addChunk_93 rfl (lv_at hl 1 rfl) ?_
        refine va_get (D := (dC, dI)) (ci := 6) (v := .int (v0 8)) (C := RX6) (T := TX6) (N := 12) hx hb hG zuX6 hown hK hP 0 rfl rfl 8 (by decide) (hG _ zv256) (fun _ h9 => h9) rfl dX6_addChunk_94 ?_
        refine lv_iconst (v := (-1)) hx hb dX6_addChunk_97 (by decide) ?_
        refine va_iast hx hb hK hP hD hS 3 2 rfl rfl (zin_lit ⟨by omega, by omega⟩) dX6_addChunk_98 (fun H locs hP hD hS => ?_)
        obtain ⟨f_98, e_f_98⟩ : ∃ z : Nat → Int32, z = upd f3 ((v0 8) : Int32).toNatClampNeg (-1) := ⟨_, rfl⟩
        have hP : va_P (dC, dI) vwCl [(h0, .inr (6, mX6 h1 h2 h3 h4 h5 h6 h7 h8 v0)), (h1, zi k1 1250 f1), (h5, zi k5 400 f_75), (h3, zi k3 833 f_98), (h2, zi k2 833 f_88), (h4, zi k4 400 f_47)] H := by rw [e_f_98]; exact hP
        have hD : va_D A [(h0, .inr (6, mX6 h1 h2 h3 h4 h5 h6 h7 h8 v0)), (h1, zi k1 1250 f1), (h5, zi k5 400 f_75), (h3, zi k3 833 f_98), (h2, zi k2 833 f_88), (h4, zi k4 400 f_47)] := by rw [e_f_98]; exact hD
        refine lv_aload_n hx hb dX6_addChunk_99 rfl (lv_at hl 1 rfl) ?_
        refine lv_dup hx hb dX6_addChunk_100 rfl ?_
        refine va_get (D := (dC, dI)) (ci := 6) (v := .int (v0 8)) (C := RX6) (T := TX6) (N := 12) hx hb hG zuX6 hown hK hP 0 rfl rfl 8 (by decide) (hG _ zv256) (fun _ h9 => h9) rfl dX6_addChunk_101 ?_
        refine lv_iconst (v := 1) hx hb dX6_addChunk_104 (by decide) ?_
        refine lv_iadd hx hb dX6_addChunk_105 ?_
        refine lv_topi (fun z105 e_z105 => ?_)
        have b_ := zadd rfl zk_1 e_z105 (by omega) (by omega)
        refine va_put (D := (dC, dI)) (ci := 6) (v := .int z105) (ty := .int) (C := RX6) (T := TX6) (N := 12) hx hb hG zuX6 tyX6 tyX6_ok nmX6 hown hK hP hD hS 0 rfl rfl 8 (by decide) (hG _ zv256) (fun _ h9 => h9) rfl (by decide +kernel) rfl rfl (Nat.le_of_ble_eq_true rfl) dX6_addChunk_106 (fun H locs hP hD hS => ?_)
        have hP : va_P (dC, dI) vwCl [(h0, .inr (6, mX6 h1 h2 h3 h4 h5 h6 h7 h8 (upd v0 8 z105))), (h1, zi k1 1250 f1), (h5, zi k5 400 f_75), (h3, zi k3 833 f_98), (h2, zi k2 833 f_88), (h4, zi k4 400 f_47)] H := hP
        have hD : va_D A [(h0, .inr (6, mX6 h1 h2 h3 h4 h5 h6 h7 h8 (upd v0 8 z105))), (h1, zi k1 1250 f1), (h5, zi k5 400 f_75), (h3, zi k3 833 f_98), (h2, zi k2 833 f_88), (h4, zi k4 400 f_47)] := hD
        refine lv_aload_n hx hb dX6_addChunk_109 rfl (lv_at hl 1 rfl) ?_
        refine lv_dup hx hb dX6_addChunk_110 rfl ?_
        refine va_get (D := (dC, dI)) (ci := 6) (v := .int (v0 9)) (C := RX6) (T := TX6) (N := 12) hx hb hG zuX6 hown hK hP 0 rfl rfl 9 (by decide) (hG _ zv257) (fun _ h9 => h9) rfl dX6_addChunk_111 ?_
        refine lv_iload_n hx hb dX6_addChunk_114 rfl (lv_at hl 0 rfl) ?_
        refine lv_bipush (v := 32) hx hb dX6_addChunk_115 (by decide) ?_
        refine lv_idiv hx hb dX6_addChunk_117 (by decide) ?_
        refine lv_topi (fun z117 e_z117 => ?_)
        have b_ := zdiv rfl zk_32 e_z117 (by omega) (by decide)
        refine lv_iadd hx hb dX6_addChunk_118 ?_
        refine lv_topi (fun z118 e_z118 => ?_)
        have b_ := zadd rfl rfl e_z118 (by omega) (by omega)
        have b_ : 0 ≤ z118.toInt ∧ z118.toInt ≤ 1250 := ⟨by omega, by omega⟩
        refine va_put (D := (dC, dI)) (ci := 6) (v := .int z118) (ty := .int) (C := RX6) (T := TX6) (N := 12) hx hb hG zuX6 tyX6 tyX6_ok nmX6 hown hK hP hD hS 0 rfl rfl 9 (by decide) (hG _ zv257) (fun _ h9 => h9) rfl (by decide +kernel) rfl rfl (Nat.le_of_ble_eq_true rfl) dX6_addChunk_119 (fun H locs hP hD hS => ?_)
        have hP : va_P (dC, dI) vwCl [(h0, .inr (6, mX6 h1 h2 h3 h4 h5 h6 h7 h8 (upd (upd v0 8 z105) 9 z118))), (h1, zi k1 1250 f1), (h5, zi k5 400 f_75), (h3, zi k3 833 f_98), (h2, zi k2 833 f_88), (h4, zi k4 400 f_47)] H := hP
        have hD : va_D A [(h0, .inr (6, mX6 h1 h2 h3 h4 h5 h6 h7 h8 (upd (upd v0 8 z105) 9 z118))), (h1, zi k1 1250 f1), (h5, zi k5 400 f_75), (h3, zi k3 833 f_98), (h2, zi k2 833 f_88), (h4, zi k4 400 f_47)] := hD
        refine lv_aload_n hx hb dX6_addChunk_122 rfl (lv_at hl 1 rfl) ?_
        refine lv_dup hx hb dX6_addChunk_123 rfl ?_
        refine va_get (D := (dC, dI)) (ci := 6) (v := .int (v0 11)) (C := RX6) (T := TX6) (N := 12) hx hb hG zuX6 hown hK hP 0 rfl rfl 11 (by decide) (hG _ zv259) (fun _ h9 => h9) rfl dX6_addChunk_124 ?_
        refine lv_iload_n hx hb dX6_addChunk_127 rfl (lv_at hl 0 rfl) ?_
        refine lv_bipush (v := 16) hx hb dX6_addChunk_128 (by decide) ?_
        refine lv_iadd hx hb dX6_addChunk_130 ?_
        refine lv_topi (fun z130 e_z130 => ?_)
        have b_ := zadd rfl zk_16 e_z130 (by omega) (by omega)
        have b_ : -2147483648 ≤ (v0 11).toInt ∧ (v0 11).toInt ≤ 2147483647 := ⟨zlo _, zhi _⟩
        refine lv_iadd hx hb dX6_addChunk_131 ?_
        refine lv_topi (fun z131 e_z131 => ?_)
        refine va_put (D := (dC, dI)) (ci := 6) (v := .int z131) (ty := .int) (C := RX6) (T := TX6) (N := 12) hx hb hG zuX6 tyX6 tyX6_ok nmX6 hown hK hP hD hS 0 rfl rfl 11 (by decide) (hG _ zv259) (fun _ h9 => h9) rfl (by decide +kernel) rfl rfl (Nat.le_of_ble_eq_true rfl) dX6_addChunk_132 (fun H locs hP hD hS => ?_)
        have hP : va_P (dC, dI) vwCl [(h0, .inr (6, mX6 h1 h2 h3 h4 h5 h6 h7 h8 (upd (upd (upd v0 8 z105) 9 z118) 11 z131))), (h1, zi k1 1250 f1), (h5, zi k5 400 f_75), (h3, zi k3 833 f_98), (h2, zi k2 833 f_88), (h4, zi k4 400 f_47)] H := hP
        have hD : va_D A [(h0, .inr (6, mX6 h1 h2 h3 h4 h5 h6 h7 h8 (upd (upd (upd v0 8 z105) 9 z118) 11 z131))), (h1, zi k1 1250 f1), (h5, zi k5 400 f_75), (h3, zi k3 833 f_98), (h2, zi k2 833 f_88), (h4, zi k4 400 f_47)] := hD
        refine lv_iconst (v := 1) hx hb dX6_addChunk_135 (by decide) ?_
        refine W.widen (k := 0) (n := 0) (by decide) (by decide) ?_
        have b_ : -2147483648 ≤ z131.toInt ∧ z131.toInt ≤ 2147483647 := ⟨zlo _, zhi _⟩
        have hpost : (0 ≤ (1 : Int32).toInt ∧ (1 : Int32).toInt ≤ 1) ∧ (0 ≤ z105.toInt ∧ z105.toInt ≤ 833) ∧ (0 ≤ z118.toInt ∧ z118.toInt ≤ 1250) ∧ ((1 : Int32).toInt = 1 → zBs x2.toInt (32 * (z118.toInt - (v0 9).toInt))) ∧ ((1 : Int32).toInt = 1 → z105.toInt = (v0 8).toInt + 1) ∧ ((1 : Int32).toInt = 0 → z118.toInt = (v0 9).toInt ∧ z105.toInt = (v0 8).toInt) ∧ ((1 : Int32).toInt = 0 → zAx (v0 8).toInt (v0 9).toInt x2.toInt) ∧ ((1 : Int32).toInt = (1 : Int32).toInt) := ⟨(by first | with_reducible assumption | exact ⟨by omega, by omega⟩), (by first | with_reducible assumption | exact ⟨by omega, by omega⟩), (by first | with_reducible assumption | exact ⟨by omega, by omega⟩), by intro _; have q := hX1_0 (by omega); unfold zBs at q ⊢; omega, by omega, by omega, by first | (intro q; exact absurd q (by decide)) | (intro _; exact Or.inl (by omega)) | (intro _; exact Or.inr ⟨_, hX1_0 (by omega), by omega⟩), rfl⟩
        have hP9 : va_P (dC, dI) vwCl [(h0, .inr (6, mX6 h1 h2 h3 h4 h5 h6 h7 h8 (upd (upd (upd v0 8 z105) 9 z118) 11 z131))), (h1, zi k1 1250 f1), (h5, zi k5 400 f_75), (h3, zi k3 833 f_98), (h2, zi k2 833 f_88), (h4, zi k4 400 f_47)] H := hP
        have hD9 : va_D A [(h0, .inr (6, mX6 h1 h2 h3 h4 h5 h6 h7 h8 (upd (upd (upd v0 8 z105) 9 z118) 11 z131))), (h1, zi k1 1250 f1), (h5, zi k5 400 f_75), (h3, zi k3 833 f_98), (h2, zi k2 833 f_88), (h4, zi k4 400 f_47)] := hD
        have hB0 : (1 : Int32).toInt = 1 → f_75 = upd f5 ((x1 : Int32)).toNatClampNeg (v0 8) ∧ f_88 = upd f2 (v0 8).toNatClampNeg (v0 9) := by first | (intro _; exact ⟨e_f_75, e_f_88⟩) | (intro q; exact absurd q (by decide))
        have hB1 : (1 : Int32).toInt = 0 → f_75 = f5 ∧ f_88 = f2 := by first | (intro _; exact ⟨rfl, rfl⟩) | (intro q; exact absurd q (by decide))
        have hB2 : (1 : Int32).toInt = 1 → zAc f2 f3 f4 f5 (v0 8).toInt (v0 9).toInt (v0 11).toInt f_88 f_98 f_47 f_75 z105.toInt z118.toInt z131.toInt ((x1 : Int32)).toNatClampNeg x2.toInt := by first | (intro q; exact absurd q (by decide)) | (intro _; exact zAc_i (L := z60) e_f_88 e_f_75 (Or.inr ⟨by omega, rfl, by rw [e_f_98, e_f_65], e_z60⟩) (by omega) (hf5 _).1 (hX1_0 (by omega)) (by omega) (by omega) rfl e_z130 e_z131) | (intro _; exact zAc_i (L := 0) e_f_88 e_f_75 (Or.inl ⟨by omega, e_f_47, e_f_98⟩) (by omega) (hf5 _).1 (hX1_0 (by omega)) (by omega) (by omega) rfl e_z130 e_z131)
        exact W.zret (v := 1) hx hb hr rfl (fun t ht hW => ⟨⟨1, (fun i => ([z105, z118, z131, 1] : List (Int32)).getD i 0), rfl, hpost, (fun _ => 0), (fun i => ([f_75, f_98, f_88, f_47] : List (Nat → Int32)).getD i (fun _ => 0)), (fun _ => (fun _ => 0)), hf_75, hf_88, hB0, hB1, hB2, by rw [ht]; exact hP9, va_K.moved hW.alike hK, hD9⟩, hS.F ht⟩) hS.2.2 dX6_addChunk_136
    · skip
      have b_ := zF_le rfl zk_1250 c_
      refine lv_iconst (v := 0) hx hb dX6_addChunk_32 (by decide) ?_
      refine W.widen (k := 0) (n := 0) (by decide) (by decide) ?_
      have b_ : -2147483648 ≤ (v0 11).toInt ∧ (v0 11).toInt ≤ 2147483647 := ⟨zlo _, zhi _⟩
      have hpost : (0 ≤ (0 : Int32).toInt ∧ (0 : Int32).toInt ≤ 1) ∧ (0 ≤ (v0 8).toInt ∧ (v0 8).toInt ≤ 833) ∧ (0 ≤ (v0 9).toInt ∧ (v0 9).toInt ≤ 1250) ∧ ((0 : Int32).toInt = 1 → zBs x2.toInt (32 * ((v0 9).toInt - (v0 9).toInt))) ∧ ((0 : Int32).toInt = 1 → (v0 8).toInt = (v0 8).toInt + 1) ∧ ((0 : Int32).toInt = 0 → (v0 9).toInt = (v0 9).toInt ∧ (v0 8).toInt = (v0 8).toInt) ∧ ((0 : Int32).toInt = 0 → zAx (v0 8).toInt (v0 9).toInt x2.toInt) ∧ ((0 : Int32).toInt = (0 : Int32).toInt) := ⟨(by first | with_reducible assumption | exact ⟨by omega, by omega⟩), (by first | with_reducible assumption | exact ⟨by omega, by omega⟩), (by first | with_reducible assumption | exact ⟨by omega, by omega⟩), by intro _; have q := hX1_0 (by omega); unfold zBs at q ⊢; omega, by omega, by omega, by first | (intro q; exact absurd q (by decide)) | (intro _; exact Or.inl (by omega)) | (intro _; exact Or.inr ⟨_, hX1_0 (by omega), by omega⟩), rfl⟩
      have hP9 : va_P (dC, dI) vwCl [(h0, .inr (6, mX6 h1 h2 h3 h4 h5 h6 h7 h8 (upd (upd (upd v0 8 (v0 8)) 9 (v0 9)) 11 (v0 11)))), (h1, zi k1 1250 f1), (h5, zi k5 400 f5), (h3, zi k3 833 f3), (h2, zi k2 833 f2), (h4, zi k4 400 f4)] H := hP
      have hD9 : va_D A [(h0, .inr (6, mX6 h1 h2 h3 h4 h5 h6 h7 h8 (upd (upd (upd v0 8 (v0 8)) 9 (v0 9)) 11 (v0 11)))), (h1, zi k1 1250 f1), (h5, zi k5 400 f5), (h3, zi k3 833 f3), (h2, zi k2 833 f2), (h4, zi k4 400 f4)] := hD
      have hB0 : (0 : Int32).toInt = 1 → f5 = upd f5 ((x1 : Int32)).toNatClampNeg (v0 8) ∧ f2 = upd f2 (v0 8).toNatClampNeg (v0 9) := by first | (intro _; exact ⟨e_f_75, e_f_88⟩) | (intro q; exact absurd q (by decide))
      have hB1 : (0 : Int32).toInt = 0 → f5 = f5 ∧ f2 = f2 := by first | (intro _; exact ⟨rfl, rfl⟩) | (intro q; exact absurd q (by decide))
      have hB2 : (0 : Int32).toInt = 1 → zAc f2 f3 f4 f5 (v0 8).toInt (v0 9).toInt (v0 11).toInt f2 f3 f4 f5 (v0 8).toInt (v0 9).toInt (v0 11).toInt ((x1 : Int32)).toNatClampNeg x2.toInt := by first | (intro q; exact absurd q (by decide)) | (intro _; exact zAc_i (L := z60) e_f_88 e_f_75 (Or.inr ⟨by omega, rfl, by rw [e_f_98, e_f_65], e_z60⟩) (by omega) (hf5 _).1 (hX1_0 (by omega)) (by omega) (by omega) rfl e_z130 e_z131) | (intro _; exact zAc_i (L := 0) e_f_88 e_f_75 (Or.inl ⟨by omega, e_f_47, e_f_98⟩) (by omega) (hf5 _).1 (hX1_0 (by omega)) (by omega) (by omega) rfl e_z130 e_z131)
      exact W.zret (v := 0) hx hb hr rfl (fun t ht hW => ⟨⟨0, (fun i => ([(v0 8), (v0 9), (v0 11), 0] : List (Int32)).getD i 0), rfl, hpost, (fun _ => 0), (fun i => ([f5, f3, f2, f4] : List (Nat → Int32)).getD i (fun _ => 0)), (fun _ => (fun _ => 0)), hf5, hf2, hB0, hB1, hB2, by rw [ht]; exact hP9, va_K.moved hW.alike hK, hD9⟩, hS.F ht⟩) hS.2.2 dX6_addChunk_33
set_option maxHeartbeats 8000000 in
set_option maxRecDepth 100000 in
theorem sX6_appendBit_0 (l : Launch) (dC : Nat → ClassId) (dI : Nat → Nat → Nat) (adK adV : Nat → Nat) (h0 : Nat) (h6 : Nat) (h5 : Nat) (h2 : Nat) (h1 : Nat) (h3 : Nat) (h4 : Nat) (h7 : Nat) (h8 : Nat) (k6 : ClassId) (k5 : ClassId) (k2 : ClassId) (k1 : ClassId) (k3 : ClassId) (k4 : ClassId) (sz : Nat) (v0 : Nat → Int32) (f6 : Nat → Int32) (f5 : Nat → Int32) (f2 : Nat → Int32) (f1 : Nat → Int32) (f3 : Nat → Int32) (f4 : Nat → Int32) (x1 : Int32) (x2 : Int32) (hv0 : zR rg_Postings v0) (hf5 : zA 0 832 f5) (hf2 : zA 0 1250 f2) (hp0_ : zPhi f2 f5 f6 (v0 9).toInt (v0 8).toInt) : Met l yX6_appendBit (zw yX6_appendBit cX6_appendBit 5 none) { frames := 2, cells := 0, slots := 0, locals := 43 } (zPc dC dI adK adV [.ref h0, .int x1, .int x2] sz [(h0, .inr (6, mX6 h1 h2 h3 h4 h5 h6 h7 h8 v0)), (h6, zi k6 400 f6), (h5, zi k5 400 f5), (h2, zi k2 833 f2), (h1, zi k1 1250 f1), (h3, zi k3 833 f3), (h4, zi k4 400 f4)] [(k6, .int), (k5, .int), (k2, .int), (k1, .int), (k3, .int), (k4, .int)]) (va_Qv (fun (u : Nat → Int32) => (0 ≤ (u 0).toInt ∧ (u 0).toInt ≤ 833) ∧ (0 ≤ (u 1).toInt ∧ (u 1).toInt ≤ 1250)) (fun (u : Nat → Int32) (t : State) => ∃ (ww : Nat → Int64) (aa : Nat → Nat → Int32) (bb : Nat → Nat → Int64), zA 0 832 (aa 1) ∧ zA 0 1250 (aa 2) ∧ (zPhi (aa 2) (aa 1) (aa 0) (u 1).toInt (u 0).toInt) ∧ (zW (0 ≤ x1.toInt → x1.toInt ≤ 399 → (x2.toInt = 0 ∨ x2.toInt = 1) → zAp f1 f2 f3 f4 f5 f6 (v0 8).toInt (v0 9).toInt (v0 10).toInt (v0 11).toInt (aa 3) (aa 2) (aa 4) (aa 5) (aa 1) (aa 0) (u 0).toInt (u 1).toInt (u 2).toInt (u 3).toInt ((x1 : Int32)).toNatClampNeg [decide (x2.toInt = 1)])) ∧ va_P (dC, dI) vwCl [(h0, .inr (6, mX6 h1 h2 h3 h4 h5 h6 h7 h8 (upd (upd (upd (upd v0 8 (u 0)) 9 (u 1)) 10 (u 2)) 11 (u 3)))), (h6, zi k6 400 (aa 0)), (h5, zi k5 400 (aa 1)), (h2, zi k2 833 (aa 2)), (h1, zi k1 1250 (aa 3)), (h3, zi k3 833 (aa 4)), (h4, zi k4 400 (aa 5))] t.heap ∧ va_K (dC, dI) vwCl [(k6, .int), (k5, .int), (k2, .int), (k1, .int), (k3, .int), (k4, .int)] t ∧ va_D (va_A [(h0, .inr (6, mX6 h1 h2 h3 h4 h5 h6 h7 h8 v0)), (h6, zi k6 400 f6), (h5, zi k5 400 f5), (h2, zi k2 833 f2), (h1, zi k1 1250 f1), (h3, zi k3 833 f3), (h4, zi k4 400 f4)] sz) [(h0, .inr (6, mX6 h1 h2 h3 h4 h5 h6 h7 h8 (upd (upd (upd (upd v0 8 (u 0)) 9 (u 1)) 10 (u 2)) 11 (u 3)))), (h6, zi k6 400 (aa 0)), (h5, zi k5 400 (aa 1)), (h2, zi k2 833 (aa 2)), (h1, zi k1 1250 (aa 3)), (h3, zi k3 833 (aa 4)), (h4, zi k4 400 (aa 5))]) (va_A [(h0, .inr (6, mX6 h1 h2 h3 h4 h5 h6 h7 h8 v0)), (h6, zi k6 400 f6), (h5, zi k5 400 f5), (h2, zi k2 833 f2), (h1, zi k1 1250 f1), (h3, zi k3 833 f3), (h4, zi k4 400 f4)] sz)) 0 0 (va_A [(h0, .inr (6, mX6 h1 h2 h3 h4 h5 h6 h7 h8 v0)), (h6, zi k6 400 f6), (h5, zi k5 400 f5), (h2, zi k2 833 f2), (h1, zi k1 1250 f1), (h3, zi k3 833 f3), (h4, zi k4 400 f4)] sz) := by
  refine Met.ofW (cc := cX6_appendBit) (maxL := 5) (ret := none) (by decide) rfl ?_
  intro p e s m args below meth c s₁ B hml hv
  obtain ⟨rfl, hsz, hP, hK, hD0, hE, hZ⟩ := hv
  have hx := B.exec
  have hb := B.bytes
  have hr := B.returns
  have hG : ∀ w ∈ zG, w.before _ s = true := fun w h => atoms_spec (ws := (zw yX6_appendBit cX6_appendBit 5 none)) B.pre w (List.mem_cons_of_mem _ h)
  have hown : s.vm.findClass RX6 = some m.cls := findClass_of_methodNamed B.named
  have hlocks := B.notSynchronized

  subst hsz
  have hD := hD0.self (sz := s.heap.size)
  generalize hAe : va_A [(h0, .inr (6, mX6 h1 h2 h3 h4 h5 h6 h7 h8 v0)), (h6, zi k6 400 f6), (h5, zi k5 400 f5), (h2, zi k2 833 f2), (h1, zi k1 1250 f1), (h3, zi k3 833 f3), (h4, zi k4 400 f4)] s.heap.size = A at hD hZ ⊢
  have hA : ∀ q : Nat, s.heap.size ≤ q → A q := fun q h => by rw [← hAe]; exact Or.inr h
  have hS : va_S A s.heap s.heap [] := va_S.rf
  have hl := lv_entry ([.ref h0, .int x1, .int x2]) (n := 5) (Nat.le_of_ble_eq_true rfl)
  rw [lg_entry_eq]
  generalize (lg_sl ([.ref h0, .int x1, .int x2]) ++ List.replicate (5 - (lg_sl ([.ref h0, .int x1, .int x2])).length) Slot.unset).toArray = ls at hl ⊢
  have hl : lv_has ls 5 [(0, .ref h0), (1, .int x1), (2, .int x2)] := hl
  have b_ : 0 ≤ (v0 9).toInt ∧ (v0 9).toInt ≤ 1250 := hv0 9
  have b_ : 0 ≤ (v0 8).toInt ∧ (v0 8).toInt ≤ 833 := hv0 8
  refine lv_iload_n hx hb dX6_appendBit_0 rfl (lv_at hl 1 rfl) ?_
  have hPc := hP.sub (ws' := []) [] rfl
  have hDc := hD.sub (ws' := []) [] (by decide) rfl
  have hKc := hK.sub (tys' := []) [] rfl
  have hFc := va_free (wc := []) hD hS hA [] rfl
  refine va_calli (va_runS (As := [.int x1]) (rest := []) ⟨hx, hb, hml, hown, hG⟩ (sX6_isId_0 l dC dI adK adV s.heap.size x1) (va_cwS 1 hG (zgS zv775 zv776 zv133 zv777) rfl rfl rfl (by decide +kernel) ⟨Nat.le_of_ble_eq_true rfl, Nat.le_of_ble_eq_true rfl⟩) ⟨zPc_blind, zPc_pre hPc hKc hDc hE hS hFc hZ⟩ rfl rfl hl.1 rfl (lv_room (Nat.le_of_ble_eq_true rfl)) dX6_appendBit_1 ⟨Nat.le_of_ble_eq_true rfl, Nat.le_of_ble_eq_true rfl⟩) hS (fun q _ h => hFc q h) hFc (fun r1_ u1_ t H1 locs ht hvm hw hB hz1 hk1 hS => ?_)
  replace hw : (0 ≤ r1_.toInt ∧ r1_.toInt ≤ 1) ∧ (r1_.toInt = 1 → (0 ≤ x1.toInt ∧ x1.toInt ≤ 399)) ∧ (r1_.toInt = 0 → x1.toInt < 0 ∨ 399 < x1.toInt) := hw
  obtain ⟨b_, hX1_0, hX1_1⟩ := hw
  obtain ⟨w1_, a1_, b1_, hP1, hK1, hD1⟩ := hB
  rw [ht] at hP1
  obtain ⟨hP, hD⟩ := va_join (wr := [(h0, .inr (6, mX6 h1 h2 h3 h4 h5 h6 h7 h8 v0)), (h6, zi k6 400 f6), (h5, zi k5 400 f5), (h2, zi k2 833 f2), (h1, zi k1 1250 f1), (h3, zi k3 833 f3), (h4, zi k4 400 f4)]) (w1 := []) hP hD [] [0, 1, 2, 3, 4, 5, 6] rfl rfl (by decide) (by decide) hk1 hFc hP1 hD1
  have hP : va_P (dC, dI) vwCl [(h0, .inr (6, mX6 h1 h2 h3 h4 h5 h6 h7 h8 v0)), (h6, zi k6 400 f6), (h5, zi k5 400 f5), (h2, zi k2 833 f2), (h1, zi k1 1250 f1), (h3, zi k3 833 f3), (h4, zi k4 400 f4)] H1 := hP.sub [0, 1, 2, 3, 4, 5, 6] rfl
  have hD : va_D A [(h0, .inr (6, mX6 h1 h2 h3 h4 h5 h6 h7 h8 v0)), (h6, zi k6 400 f6), (h5, zi k5 400 f5), (h2, zi k2 833 f2), (h1, zi k1 1250 f1), (h3, zi k3 833 f3), (h4, zi k4 400 f4)] := hD.sub [0, 1, 2, 3, 4, 5, 6] (by decide) rfl
  generalize H1 = H at hP hS ⊢
  clear hz1
  refine lv_if_ne (tgt := 8) hx hb dX6_appendBit_4 (by decide) (fun c_ => ?_) (fun c_ => ?_)
  · skip
    have b_ := zT_ne rfl zk_0 c_
    refine lv_aload_n hx hb dX6_appendBit_8 rfl (lv_at hl 0 rfl) ?_
    refine va_get (D := (dC, dI)) (ci := 6) (v := .ref h6) (C := RX6) (T := TX6) (N := 12) hx hb hG zuX6 hown hK hP 0 rfl rfl 5 (by decide) (hG _ zv253) (fun _ h9 => h9) rfl dX6_appendBit_9 ?_
    refine lv_iload_n hx hb dX6_appendBit_12 rfl (lv_at hl 1 rfl) ?_
    refine va_iald hx hb hK hP 1 0 rfl rfl (zin_lit ⟨by omega, by omega⟩) dX6_appendBit_13 ?_
    refine lv_topi (fun z13 e_z13 => ?_)
    have hid : (x1 : Int32).toNatClampNeg < 400 := by have q : (x1 : Int32).toNatClampNeg = x1.toInt.toNat := rfl; omega
    obtain ⟨c9, r9, s9, hch, hph⟩ := hp0_ (x1 : Int32).toNatClampNeg hid
    rw [← e_z13] at hch hph
    have hchi := zCh_in hch
    have b_ : 0 ≤ z13.toInt ∧ z13.toInt ≤ 40000 := by omega
    have hPc := hP.sub (ws' := []) [] rfl
    have hDc := hD.sub (ws' := []) [] (by decide) rfl
    have hKc := hK.sub (tys' := []) [] rfl
    have hFc := va_free (wc := []) hD hS hA [] rfl
    refine va_calli (va_runS (As := [.int z13]) (rest := []) ⟨hx, hb, hml, hown, hG⟩ (sX6_chunkOf_0 l dC dI adK adV H.size z13) (va_cwS 1 hG (zgS zv802 zv803 zv133 zv804) rfl rfl rfl (by decide +kernel) ⟨Nat.le_of_ble_eq_true rfl, Nat.le_of_ble_eq_true rfl⟩) ⟨zPc_blind, zPc_pre hPc hKc hDc hE hS hFc hZ⟩ rfl rfl hl.1 rfl (lv_room (Nat.le_of_ble_eq_true rfl)) dX6_appendBit_14 ⟨Nat.le_of_ble_eq_true rfl, Nat.le_of_ble_eq_true rfl⟩) hS (fun q _ h => hFc q h) hFc (fun r14_ u14_ t H1 locs ht hvm hw hB hz1 hk1 hS => ?_)
    replace hw : (0 ≤ r14_.toInt ∧ r14_.toInt ≤ 8388610) ∧ (0 ≤ z13.toInt → zCk z13.toInt r14_.toInt) := hw
    obtain ⟨b_, hX14_0⟩ := hw
    obtain ⟨w14_, a14_, b14_, hP1, hK1, hD1⟩ := hB
    rw [ht] at hP1
    obtain ⟨hP, hD⟩ := va_join (wr := [(h0, .inr (6, mX6 h1 h2 h3 h4 h5 h6 h7 h8 v0)), (h6, zi k6 400 f6), (h5, zi k5 400 f5), (h2, zi k2 833 f2), (h1, zi k1 1250 f1), (h3, zi k3 833 f3), (h4, zi k4 400 f4)]) (w1 := []) hP hD [] [0, 1, 2, 3, 4, 5, 6] rfl rfl (by decide) (by decide) hk1 hFc hP1 hD1
    have hP : va_P (dC, dI) vwCl [(h0, .inr (6, mX6 h1 h2 h3 h4 h5 h6 h7 h8 v0)), (h6, zi k6 400 f6), (h5, zi k5 400 f5), (h2, zi k2 833 f2), (h1, zi k1 1250 f1), (h3, zi k3 833 f3), (h4, zi k4 400 f4)] H1 := hP.sub [0, 1, 2, 3, 4, 5, 6] rfl
    have hD : va_D A [(h0, .inr (6, mX6 h1 h2 h3 h4 h5 h6 h7 h8 v0)), (h6, zi k6 400 f6), (h5, zi k5 400 f5), (h2, zi k2 833 f2), (h1, zi k1 1250 f1), (h3, zi k3 833 f3), (h4, zi k4 400 f4)] := hD.sub [0, 1, 2, 3, 4, 5, 6] (by decide) rfl
    generalize H1 = H at hP hS ⊢
    clear hz1
    have b14 : r14_.toInt = c9 := zCk_u (hX14_0 (by omega)) hch
    have b_ : 0 ≤ r14_.toInt ∧ r14_.toInt ≤ 200 := by omega
    refine lv_istore_n (lv' := [(3, .int r14_), (0, .ref h0), (1, .int x1), (2, .int x2)]) hx hb dX6_appendBit_17 rfl hl (by decide) rfl (fun ls hl => ?_)
    refine lv_aload_n hx hb dX6_appendBit_18 rfl (lv_at hl 1 rfl) ?_
    refine va_get (D := (dC, dI)) (ci := 6) (v := .ref h6) (C := RX6) (T := TX6) (N := 12) hx hb hG zuX6 hown hK hP 0 rfl rfl 5 (by decide) (hG _ zv253) (fun _ h9 => h9) rfl dX6_appendBit_19 ?_
    refine lv_iload_n hx hb dX6_appendBit_22 rfl (lv_at hl 2 rfl) ?_
    refine va_iald hx hb hK hP 1 0 rfl rfl (zin_lit ⟨by omega, by omega⟩) dX6_appendBit_23 ?_
    refine lv_topi (fun z23 e_z23 => ?_)
    have e23 : z23 = z13 := e_z23.trans e_z13.symm
    have b_ : z23.toInt = z13.toInt := by rw [e23]
    refine lv_iload_n hx hb dX6_appendBit_24 rfl (lv_at hl 0 rfl) ?_
    have hPc := hP.sub (ws' := []) [] rfl
    have hDc := hD.sub (ws' := []) [] (by decide) rfl
    have hKc := hK.sub (tys' := []) [] rfl
    have hFc := va_free (wc := []) hD hS hA [] rfl
    refine va_calli (va_runS (As := [.int r14_]) (rest := [.int z23]) ⟨hx, hb, hml, hown, hG⟩ (sX6_roomOf_0 l dC dI adK adV H.size r14_) (va_cwS 1 hG (zgS zv805 zv806 zv133 zv807) rfl rfl rfl (by decide +kernel) ⟨Nat.le_of_ble_eq_true rfl, Nat.le_of_ble_eq_true rfl⟩) ⟨zPc_blind, zPc_pre hPc hKc hDc hE hS hFc hZ⟩ rfl rfl hl.1 rfl (lv_room (Nat.le_of_ble_eq_true rfl)) dX6_appendBit_25 ⟨Nat.le_of_ble_eq_true rfl, Nat.le_of_ble_eq_true rfl⟩) hS (fun q _ h => hFc q h) hFc (fun r25_ u25_ t H1 locs ht hvm hw hB hz1 hk1 hS => ?_)
    replace hw : (0 ≤ r14_.toInt → r14_.toInt ≤ 1000 → zRo r14_.toInt r25_.toInt) := hw
    have hX25_0 := hw
    obtain ⟨w25_, a25_, b25_, hP1, hK1, hD1⟩ := hB
    rw [ht] at hP1
    obtain ⟨hP, hD⟩ := va_join (wr := [(h0, .inr (6, mX6 h1 h2 h3 h4 h5 h6 h7 h8 v0)), (h6, zi k6 400 f6), (h5, zi k5 400 f5), (h2, zi k2 833 f2), (h1, zi k1 1250 f1), (h3, zi k3 833 f3), (h4, zi k4 400 f4)]) (w1 := []) hP hD [] [0, 1, 2, 3, 4, 5, 6] rfl rfl (by decide) (by decide) hk1 hFc hP1 hD1
    have hP : va_P (dC, dI) vwCl [(h0, .inr (6, mX6 h1 h2 h3 h4 h5 h6 h7 h8 v0)), (h6, zi k6 400 f6), (h5, zi k5 400 f5), (h2, zi k2 833 f2), (h1, zi k1 1250 f1), (h3, zi k3 833 f3), (h4, zi k4 400 f4)] H1 := hP.sub [0, 1, 2, 3, 4, 5, 6] rfl
    have hD : va_D A [(h0, .inr (6, mX6 h1 h2 h3 h4 h5 h6 h7 h8 v0)), (h6, zi k6 400 f6), (h5, zi k5 400 f5), (h2, zi k2 833 f2), (h1, zi k1 1250 f1), (h3, zi k3 833 f3), (h4, zi k4 400 f4)] := hD.sub [0, 1, 2, 3, 4, 5, 6] (by decide) rfl
    generalize H1 = H at hP hS ⊢
    clear hz1
    have b25 : r25_.toInt = r9 := zRo_u (by rw [← b14]; exact hX25_0 (by omega) (by omega)) hch
    have b_ : 0 ≤ r25_.toInt ∧ r25_.toInt ≤ 40000 := by have q := hch.2.1; have q2 := hch.1; unfold zRo at q; unfold zCk at q2; omega
    have b_ : -2147483648 ≤ r25_.toInt ∧ r25_.toInt ≤ 2147483647 := ⟨zlo _, zhi _⟩
    refine lv_isub hx hb dX6_appendBit_28 ?_
    refine lv_topi (fun z28 e_z28 => ?_)
    have b_ := zsub rfl rfl e_z28 (by omega) (by omega)
    have b_ : 0 ≤ z28.toInt ∧ z28.toInt ≤ 255 := ⟨by omega, by omega⟩
    refine lv_istore (lv' := [(4, .int z28), (3, .int r14_), (0, .ref h0), (1, .int x1), (2, .int x2)]) hx hb dX6_appendBit_29 hl (by decide) rfl (fun ls hl => ?_)
    refine lv_iload hx hb dX6_appendBit_31 (lv_at hl 0 rfl) ?_
    refine lv_if_ne (tgt := 46) hx hb dX6_appendBit_33 (by decide) (fun c_ => ?_) (fun c_ => ?_)
    · skip
      have b_ := zT_ne rfl zk_0 c_
      refine lv_aload_n hx hb dX6_appendBit_46 rfl (lv_at hl 2 rfl) ?_
      refine va_get (D := (dC, dI)) (ci := 6) (v := .ref h1) (C := RX6) (T := TX6) (N := 12) hx hb hG zuX6 hown hK hP 0 rfl rfl 0 (by decide) (hG _ zv248) (fun _ h9 => h9) rfl dX6_appendBit_47 ?_
      refine lv_aload_n hx hb dX6_appendBit_50 rfl (lv_at hl 2 rfl) ?_
      refine va_get (D := (dC, dI)) (ci := 6) (v := .ref h2) (C := RX6) (T := TX6) (N := 12) hx hb hG zuX6 hown hK hP 0 rfl rfl 1 (by decide) (hG _ zv249) (fun _ h9 => h9) rfl dX6_appendBit_51 ?_
      refine lv_aload_n hx hb dX6_appendBit_54 rfl (lv_at hl 2 rfl) ?_
      refine va_get (D := (dC, dI)) (ci := 6) (v := .ref h5) (C := RX6) (T := TX6) (N := 12) hx hb hG zuX6 hown hK hP 0 rfl rfl 4 (by decide) (hG _ zv252) (fun _ h9 => h9) rfl dX6_appendBit_55 ?_
      refine lv_iload_n hx hb dX6_appendBit_58 rfl (lv_at hl 3 rfl) ?_
      refine va_iald hx hb hK hP 2 1 rfl rfl (zin_lit ⟨by omega, by omega⟩) dX6_appendBit_59 ?_
      refine lv_topi (fun z59 e_z59 => ?_)
      have b_ : 0 ≤ z59.toInt ∧ z59.toInt ≤ 832 := by rw [e_z59]; exact hf5 _
      have hph2 : r9 + s9 ≤ 32 * (v0 9).toInt ∧ 32 * (f2 (z59 : Int32).toNatClampNeg).toInt + s9 ≤ 32 * (v0 9).toInt ∧ z59.toInt < (v0 8).toInt := by rw [e_z59]; omega
      refine va_iald hx hb hK hP 3 2 rfl rfl (zin_lit ⟨by omega, by omega⟩) dX6_appendBit_60 ?_
      refine lv_topi (fun z60 e_z60 => ?_)
      have b_ : 0 ≤ z60.toInt ∧ z60.toInt ≤ 1250 := by rw [e_z60]; exact hf2 _
      have b_ : 32 * z60.toInt + s9 ≤ 32 * (v0 9).toInt := by rw [e_z60]; omega
      refine lv_iload hx hb dX6_appendBit_61 (lv_at hl 0 rfl) ?_
      refine lv_bipush (v := 32) hx hb dX6_appendBit_63 (by decide) ?_
      refine lv_idiv hx hb dX6_appendBit_65 (by decide) ?_
      refine lv_topi (fun z65 e_z65 => ?_)
      have b_ := zdiv rfl zk_32 e_z65 (by omega) (by decide)
      refine lv_iadd hx hb dX6_appendBit_66 ?_
      refine lv_topi (fun z66 e_z66 => ?_)
      have b_ := zadd rfl rfl e_z66 (by omega) (by omega)
      refine lv_dup2_11 hx hb dX6_appendBit_67 rfl rfl ?_
      refine va_iald hx hb hK hP 4 3 rfl rfl (zin_lit ⟨by omega, by omega⟩) dX6_appendBit_68 ?_
      refine lv_topi (fun z68 e_z68 => ?_)
      refine lv_iload_n hx hb dX6_appendBit_69 rfl (lv_at hl 4 rfl) ?_
      refine lv_bipush (v := 31) hx hb dX6_appendBit_70 (by decide) ?_
      refine lv_iload hx hb dX6_appendBit_72 (lv_at hl 0 rfl) ?_
      refine lv_bipush (v := 32) hx hb dX6_appendBit_74 (by decide) ?_
      refine lv_irem hx hb dX6_appendBit_76 (by decide) ?_
      refine lv_topi (fun z76 e_z76 => ?_)
      have b_ := zrem rfl zk_32 e_z76 (by omega) (by decide)
      refine lv_isub hx hb dX6_appendBit_77 ?_
      refine lv_topi (fun z77 e_z77 => ?_)
      have b_ := zsub zk_31 rfl e_z77 (by omega) (by omega)
      have b_ : -2147483648 ≤ x2.toInt ∧ x2.toInt ≤ 2147483647 := ⟨zlo _, zhi _⟩
      refine lv_ishl hx hb dX6_appendBit_78 ?_
      refine lv_topi (fun z78 e_z78 => ?_)
      have b_ : -2147483648 ≤ z68.toInt ∧ z68.toInt ≤ 2147483647 := ⟨zlo _, zhi _⟩
      have b_ : -2147483648 ≤ z78.toInt ∧ z78.toInt ≤ 2147483647 := ⟨zlo _, zhi _⟩
      refine lv_ior hx hb dX6_appendBit_79 ?_
      refine lv_topi (fun z79 e_z79 => ?_)
      refine va_iast hx hb hK hP hD hS 4 3 rfl rfl (zin_lit ⟨by omega, by omega⟩) dX6_appendBit_80 (fun H locs hP hD hS => ?_)
      obtain ⟨f_80, e_f_80⟩ : ∃ z : Nat → Int32, z = upd f1 (z66 : Int32).toNatClampNeg z79 := ⟨_, rfl⟩
      have hP : va_P (dC, dI) vwCl [(h0, .inr (6, mX6 h1 h2 h3 h4 h5 h6 h7 h8 v0)), (h6, zi k6 400 f6), (h5, zi k5 400 f5), (h2, zi k2 833 f2), (h1, zi k1 1250 f_80), (h3, zi k3 833 f3), (h4, zi k4 400 f4)] H := by rw [e_f_80]; exact hP
      have hD : va_D A [(h0, .inr (6, mX6 h1 h2 h3 h4 h5 h6 h7 h8 v0)), (h6, zi k6 400 f6), (h5, zi k5 400 f5), (h2, zi k2 833 f2), (h1, zi k1 1250 f_80), (h3, zi k3 833 f3), (h4, zi k4 400 f4)] := by rw [e_f_80]; exact hD
      refine lv_aload_n hx hb dX6_appendBit_81 rfl (lv_at hl 2 rfl) ?_
      refine va_get (D := (dC, dI)) (ci := 6) (v := .ref h6) (C := RX6) (T := TX6) (N := 12) hx hb hG zuX6 hown hK hP 0 rfl rfl 5 (by decide) (hG _ zv253) (fun _ h9 => h9) rfl dX6_appendBit_82 ?_
      refine lv_iload_n hx hb dX6_appendBit_85 rfl (lv_at hl 3 rfl) ?_
      refine lv_dup2_11 hx hb dX6_appendBit_86 rfl rfl ?_
      refine va_iald hx hb hK hP 1 0 rfl rfl (zin_lit ⟨by omega, by omega⟩) dX6_appendBit_87 ?_
      refine lv_topi (fun z87 e_z87 => ?_)
      have b_ : z87.toInt = z13.toInt := by rw [e_z87, e_z13]
      refine lv_iconst (v := 1) hx hb dX6_appendBit_88 (by decide) ?_
      refine lv_iadd hx hb dX6_appendBit_89 ?_
      refine lv_topi (fun z89 e_z89 => ?_)
      have b_ := zadd rfl zk_1 e_z89 (by omega) (by omega)
      refine va_iast hx hb hK hP hD hS 1 0 rfl rfl (zin_lit ⟨by omega, by omega⟩) dX6_appendBit_90 (fun H locs hP hD hS => ?_)
      obtain ⟨f_90, e_f_90⟩ : ∃ z : Nat → Int32, z = upd f6 (x1 : Int32).toNatClampNeg z89 := ⟨_, rfl⟩
      have hP : va_P (dC, dI) vwCl [(h0, .inr (6, mX6 h1 h2 h3 h4 h5 h6 h7 h8 v0)), (h6, zi k6 400 f_90), (h5, zi k5 400 f5), (h2, zi k2 833 f2), (h1, zi k1 1250 f_80), (h3, zi k3 833 f3), (h4, zi k4 400 f4)] H := by rw [e_f_90]; exact hP
      have hD : va_D A [(h0, .inr (6, mX6 h1 h2 h3 h4 h5 h6 h7 h8 v0)), (h6, zi k6 400 f_90), (h5, zi k5 400 f5), (h2, zi k2 833 f2), (h1, zi k1 1250 f_80), (h3, zi k3 833 f3), (h4, zi k4 400 f4)] := by rw [e_f_90]; exact hD
      refine lv_aload_n hx hb dX6_appendBit_91 rfl (lv_at hl 2 rfl) ?_
      refine lv_dup hx hb dX6_appendBit_92 rfl ?_
      refine va_get (D := (dC, dI)) (ci := 6) (v := .int (v0 10)) (C := RX6) (T := TX6) (N := 12) hx hb hG zuX6 hown hK hP 0 rfl rfl 10 (by decide) (hG _ zv258) (fun _ h9 => h9) rfl dX6_appendBit_93 ?_
      refine lv_iconst (v := 1) hx hb dX6_appendBit_96 (by decide) ?_
      have b_ : -2147483648 ≤ (v0 10).toInt ∧ (v0 10).toInt ≤ 2147483647 := ⟨zlo _, zhi _⟩
      refine lv_iadd hx hb dX6_appendBit_97 ?_
      refine lv_topi (fun z97 e_z97 => ?_)
      refine va_put (D := (dC, dI)) (ci := 6) (v := .int z97) (ty := .int) (C := RX6) (T := TX6) (N := 12) hx hb hG zuX6 tyX6 tyX6_ok nmX6 hown hK hP hD hS 0 rfl rfl 10 (by decide) (hG _ zv258) (fun _ h9 => h9) rfl (by decide +kernel) rfl rfl (Nat.le_of_ble_eq_true rfl) dX6_appendBit_98 (fun H locs hP hD hS => ?_)
      have hP : va_P (dC, dI) vwCl [(h0, .inr (6, mX6 h1 h2 h3 h4 h5 h6 h7 h8 (upd v0 10 z97))), (h6, zi k6 400 f_90), (h5, zi k5 400 f5), (h2, zi k2 833 f2), (h1, zi k1 1250 f_80), (h3, zi k3 833 f3), (h4, zi k4 400 f4)] H := hP
      have hD : va_D A [(h0, .inr (6, mX6 h1 h2 h3 h4 h5 h6 h7 h8 (upd v0 10 z97))), (h6, zi k6 400 f_90), (h5, zi k5 400 f5), (h2, zi k2 833 f2), (h1, zi k1 1250 f_80), (h3, zi k3 833 f3), (h4, zi k4 400 f4)] := hD
      have hphi : zPhi f2 f5 f_90 (v0 9).toInt (v0 8).toInt := by rw [e_f_90]; exact zPhi_A hp0_ (by rw [← e_z13]; exact hch) (by rw [← e_z13]; omega) (by omega) (by rw [← e_z59]; omega) (by rw [← e_z59]; omega) (show z89.toInt = (f6 (x1 : Int32).toNatClampNeg).toInt + 1 from by rw [← e_z13]; omega)
      have hap : zW (0 ≤ x1.toInt → x1.toInt ≤ 399 → (x2.toInt = 0 ∨ x2.toInt = 1) → zAp f1 f2 f3 f4 f5 f6 (v0 8).toInt (v0 9).toInt (v0 10).toInt (v0 11).toInt f_80 f2 f3 f4 f5 f_90 (v0 8).toInt (v0 9).toInt z97.toInt (v0 11).toInt ((x1 : Int32)).toNatClampNeg [decide (x2.toInt = 1)]) := fun _ _ hb_ => zAp_A (ins := z28.toInt) e_z13 (hX14_0 (by omega)) (hX25_0 (by omega) (by omega)) (by omega) (by omega) e_z59 e_z60 (by omega) e_z68 e_z78 e_z79 (by omega) hb_ e_f_80 e_f_90 (by omega) e_z97
      refine W.widen (k := 0) (n := 0) (by decide) (by decide) ?_
      have b_ : -2147483648 ≤ z97.toInt ∧ z97.toInt ≤ 2147483647 := ⟨zlo _, zhi _⟩
      have b_ : -2147483648 ≤ (v0 11).toInt ∧ (v0 11).toInt ≤ 2147483647 := ⟨zlo _, zhi _⟩
      have hpost : (0 ≤ (v0 8).toInt ∧ (v0 8).toInt ≤ 833) ∧ (0 ≤ (v0 9).toInt ∧ (v0 9).toInt ≤ 1250) := ⟨(by first | with_reducible assumption | exact ⟨by omega, by omega⟩), (by first | with_reducible assumption | exact ⟨by omega, by omega⟩)⟩
      have hP9 : va_P (dC, dI) vwCl [(h0, .inr (6, mX6 h1 h2 h3 h4 h5 h6 h7 h8 (upd (upd (upd (upd v0 8 (v0 8)) 9 (v0 9)) 10 z97) 11 (v0 11)))), (h6, zi k6 400 f_90), (h5, zi k5 400 f5), (h2, zi k2 833 f2), (h1, zi k1 1250 f_80), (h3, zi k3 833 f3), (h4, zi k4 400 f4)] H := hP
      have hD9 : va_D A [(h0, .inr (6, mX6 h1 h2 h3 h4 h5 h6 h7 h8 (upd (upd (upd (upd v0 8 (v0 8)) 9 (v0 9)) 10 z97) 11 (v0 11)))), (h6, zi k6 400 f_90), (h5, zi k5 400 f5), (h2, zi k2 833 f2), (h1, zi k1 1250 f_80), (h3, zi k3 833 f3), (h4, zi k4 400 f4)] := hD
      have hB0 : zPhi f2 f5 f_90 (v0 9).toInt (v0 8).toInt := by assumption
      have hB1 : zW (0 ≤ x1.toInt → x1.toInt ≤ 399 → (x2.toInt = 0 ∨ x2.toInt = 1) → zAp f1 f2 f3 f4 f5 f6 (v0 8).toInt (v0 9).toInt (v0 10).toInt (v0 11).toInt f_80 f2 f3 f4 f5 f_90 (v0 8).toInt (v0 9).toInt z97.toInt (v0 11).toInt ((x1 : Int32)).toNatClampNeg [decide (x2.toInt = 1)]) := by first | exact hap | (intro q1 q2; omega)
      exact W.vret hx hb hr (fun t ht hW => ⟨⟨(fun i => ([(v0 8), (v0 9), z97, (v0 11)] : List (Int32)).getD i 0), rfl, hpost, (fun _ => 0), (fun i => ([f_90, f5, f2, f_80, f3, f4] : List (Nat → Int32)).getD i (fun _ => 0)), (fun _ => (fun _ => 0)), hf5, hf2, hB0, hB1, by rw [ht]; exact hP9, va_K.moved hW.alike hK, hD9⟩, hS.F ht⟩) hS.2.2 dX6_appendBit_101
    · skip
      have b_ := zF_ne rfl zk_0 c_
      refine lv_aload_n hx hb dX6_appendBit_36 rfl (lv_at hl 2 rfl) ?_
      refine lv_iload_n hx hb dX6_appendBit_37 rfl (lv_at hl 3 rfl) ?_
      refine lv_iload_n hx hb dX6_appendBit_38 rfl (lv_at hl 1 rfl) ?_
      have hPc := hP.sub (ws' := [(h0, .inr (6, mX6 h1 h2 h3 h4 h5 h6 h7 h8 v0)), (h1, zi k1 1250 f1), (h5, zi k5 400 f5), (h3, zi k3 833 f3), (h2, zi k2 833 f2), (h4, zi k4 400 f4)]) [0, 4, 2, 5, 3, 6] rfl
      have hDc := hD.sub (ws' := [(h0, .inr (6, mX6 h1 h2 h3 h4 h5 h6 h7 h8 v0)), (h1, zi k1 1250 f1), (h5, zi k5 400 f5), (h3, zi k3 833 f3), (h2, zi k2 833 f2), (h4, zi k4 400 f4)]) [0, 4, 2, 5, 3, 6] (by decide) rfl
      have hKc := hK.sub (tys' := [(k1, .int), (k5, .int), (k3, .int), (k2, .int), (k4, .int)]) [3, 1, 4, 2, 5] rfl
      have hFc := va_free (wc := [(h0, .inr (6, mX6 h1 h2 h3 h4 h5 h6 h7 h8 v0)), (h1, zi k1 1250 f1), (h5, zi k5 400 f5), (h3, zi k3 833 f3), (h2, zi k2 833 f2), (h4, zi k4 400 f4)]) hD hS hA [0, 4, 2, 5, 3, 6] rfl
      refine va_calli (va_runV (As := [.int x1, .int r14_]) (rest := []) ⟨hx, hb, hml, hown, hG⟩ (sX6_addChunk_0 l dC dI adK adV h0 h1 h5 h3 h2 h4 h6 h7 h8 k1 k5 k3 k2 k4 H.size v0 f1 f5 f3 f2 f4 x1 r14_ hv0 hf5 hf2 (show (0 : Int) ≤ (x1 : Int32).toInt ∧ (x1 : Int32).toInt ≤ (399 : Int) from (by first | with_reducible assumption | exact ⟨by omega, by omega⟩)) (show (0 : Int) ≤ (r14_ : Int32).toInt ∧ (r14_ : Int32).toInt ≤ (1000 : Int) from (by first | with_reducible assumption | exact ⟨by omega, by omega⟩))) (cwV 2 hG (zgV zv843 zv845 zv8 zv133 zv846) rfl rfl rfl (by decide +kernel) ⟨Nat.le_of_ble_eq_true rfl, Nat.le_of_ble_eq_true rfl⟩) ⟨zPc_blind, va_recv hKc hPc (ci := 6) (q0 := 0) rfl rfl, zPc_pre hPc hKc hDc hE hS hFc hZ⟩ rfl rfl hl.1 rfl (lv_room (Nat.le_of_ble_eq_true rfl)) dX6_appendBit_39 ⟨Nat.le_of_ble_eq_true rfl, Nat.le_of_ble_eq_true rfl⟩) hS (fun q _ h => hFc q h) hFc (fun r39_ u39_ t H1 locs ht hvm hw hB hz1 hk1 hS => ?_)
      replace hw : (0 ≤ r39_.toInt ∧ r39_.toInt ≤ 1) ∧ (0 ≤ (u39_ 0).toInt ∧ (u39_ 0).toInt ≤ 833) ∧ (0 ≤ (u39_ 1).toInt ∧ (u39_ 1).toInt ≤ 1250) ∧ (r39_.toInt = 1 → zBs r14_.toInt (32 * ((u39_ 1).toInt - (v0 9).toInt))) ∧ (r39_.toInt = 1 → (u39_ 0).toInt = (v0 8).toInt + 1) ∧ (r39_.toInt = 0 → (u39_ 1).toInt = (v0 9).toInt ∧ (u39_ 0).toInt = (v0 8).toInt) ∧ (r39_.toInt = 0 → zAx (v0 8).toInt (v0 9).toInt r14_.toInt) ∧ (r39_.toInt = (u39_ 3).toInt) := hw
      obtain ⟨b_, b_, b_, hX39_0, hX39_1, hX39_2, hX39_3, b_⟩ := hw
      obtain ⟨w39_, a39_, b39_, ha39_0, ha39_2, hB39_0, hB39_1, hB39_2, hP1, hK1, hD1⟩ := hB
      have hB39_0 : (u39_ 3).toInt = 1 → (a39_ 0) = upd f5 ((x1 : Int32)).toNatClampNeg (v0 8) ∧ (a39_ 2) = upd f2 (v0 8).toNatClampNeg (v0 9) := hB39_0
      have hB39_1 : (u39_ 3).toInt = 0 → (a39_ 0) = f5 ∧ (a39_ 2) = f2 := hB39_1
      have hB39_2 : (u39_ 3).toInt = 1 → zAc f2 f3 f4 f5 (v0 8).toInt (v0 9).toInt (v0 11).toInt (a39_ 2) (a39_ 1) (a39_ 3) (a39_ 0) (u39_ 0).toInt (u39_ 1).toInt (u39_ 2).toInt ((x1 : Int32)).toNatClampNeg r14_.toInt := hB39_2
      rw [ht] at hP1
      obtain ⟨hP, hD⟩ := va_join (wr := [(h6, zi k6 400 f6)]) (w1 := [(h0, .inr (6, mX6 h1 h2 h3 h4 h5 h6 h7 h8 (upd (upd (upd v0 8 (u39_ 0)) 9 (u39_ 1)) 11 (u39_ 2)))), (h1, zi k1 1250 f1), (h5, zi k5 400 (a39_ 0)), (h3, zi k3 833 (a39_ 1)), (h2, zi k2 833 (a39_ 2)), (h4, zi k4 400 (a39_ 3))]) hP hD [0, 4, 2, 5, 3, 6] [1] rfl rfl (by decide) (by decide) hk1 hFc hP1 hD1
      have hP : va_P (dC, dI) vwCl [(h0, .inr (6, mX6 h1 h2 h3 h4 h5 h6 h7 h8 (upd (upd (upd v0 8 (u39_ 0)) 9 (u39_ 1)) 11 (u39_ 2)))), (h6, zi k6 400 f6), (h5, zi k5 400 (a39_ 0)), (h2, zi k2 833 (a39_ 2)), (h1, zi k1 1250 f1), (h3, zi k3 833 (a39_ 1)), (h4, zi k4 400 (a39_ 3))] H1 := hP.sub [1, 0, 3, 5, 2, 4, 6] rfl
      have hD : va_D A [(h0, .inr (6, mX6 h1 h2 h3 h4 h5 h6 h7 h8 (upd (upd (upd v0 8 (u39_ 0)) 9 (u39_ 1)) 11 (u39_ 2)))), (h6, zi k6 400 f6), (h5, zi k5 400 (a39_ 0)), (h2, zi k2 833 (a39_ 2)), (h1, zi k1 1250 f1), (h3, zi k3 833 (a39_ 1)), (h4, zi k4 400 (a39_ 3))] := hD.sub [1, 0, 3, 5, 2, 4, 6] (by decide) rfl
      generalize H1 = H at hP hS ⊢
      clear hz1
      refine lv_if_ne (tgt := 46) hx hb dX6_appendBit_42 (by decide) (fun c_ => ?_) (fun c_ => ?_)
      · skip
        have b_ := zT_ne rfl zk_0 c_
        refine lv_aload_n hx hb dX6_appendBit_46 rfl (lv_at hl 2 rfl) ?_
        refine va_get (D := (dC, dI)) (ci := 6) (v := .ref h1) (C := RX6) (T := TX6) (N := 12) hx hb hG zuX6 hown hK hP 0 rfl rfl 0 (by decide) (hG _ zv248) (fun _ h9 => h9) rfl dX6_appendBit_47 ?_
        refine lv_aload_n hx hb dX6_appendBit_50 rfl (lv_at hl 2 rfl) ?_
        refine va_get (D := (dC, dI)) (ci := 6) (v := .ref h2) (C := RX6) (T := TX6) (N := 12) hx hb hG zuX6 hown hK hP 0 rfl rfl 1 (by decide) (hG _ zv249) (fun _ h9 => h9) rfl dX6_appendBit_51 ?_
        refine lv_aload_n hx hb dX6_appendBit_54 rfl (lv_at hl 2 rfl) ?_
        refine va_get (D := (dC, dI)) (ci := 6) (v := .ref h5) (C := RX6) (T := TX6) (N := 12) hx hb hG zuX6 hown hK hP 0 rfl rfl 4 (by decide) (hG _ zv252) (fun _ h9 => h9) rfl dX6_appendBit_55 ?_
        refine lv_iload_n hx hb dX6_appendBit_58 rfl (lv_at hl 3 rfl) ?_
        refine va_iald hx hb hK hP 2 1 rfl rfl (zin_lit ⟨by omega, by omega⟩) dX6_appendBit_59 ?_
        refine lv_topi (fun z59 e_z59 => ?_)
        have b_ : 0 ≤ z59.toInt ∧ z59.toInt ≤ 832 := by rw [e_z59]; exact ha39_0 _
        have hB1 := hB39_0 (by omega)
        have e59 : z59 = (v0 8) := by rw [e_z59, hB1.1]; exact pk_us
        refine va_iald hx hb hK hP 3 2 rfl rfl (zin_lit ⟨by omega, by omega⟩) dX6_appendBit_60 ?_
        refine lv_topi (fun z60 e_z60 => ?_)
        have b_ : 0 ≤ z60.toInt ∧ z60.toInt ≤ 1250 := by rw [e_z60]; exact ha39_2 _
        have e60 : z60 = (v0 9) := by rw [e_z60, e59, hB1.2]; exact pk_us
        have b_ : z60.toInt = (v0 9).toInt := by rw [e60]
        have b39 := zBs_u (by rw [← b14]; exact hX39_0 (by omega)) hch
        refine lv_iload hx hb dX6_appendBit_61 (lv_at hl 0 rfl) ?_
        refine lv_bipush (v := 32) hx hb dX6_appendBit_63 (by decide) ?_
        refine lv_idiv hx hb dX6_appendBit_65 (by decide) ?_
        refine lv_topi (fun z65 e_z65 => ?_)
        have b_ := zdiv rfl zk_32 e_z65 (by omega) (by decide)
        refine lv_iadd hx hb dX6_appendBit_66 ?_
        refine lv_topi (fun z66 e_z66 => ?_)
        have b_ := zadd rfl rfl e_z66 (by omega) (by omega)
        refine lv_dup2_11 hx hb dX6_appendBit_67 rfl rfl ?_
        refine va_iald hx hb hK hP 4 3 rfl rfl (zin_lit ⟨by omega, by omega⟩) dX6_appendBit_68 ?_
        refine lv_topi (fun z68 e_z68 => ?_)
        refine lv_iload_n hx hb dX6_appendBit_69 rfl (lv_at hl 4 rfl) ?_
        refine lv_bipush (v := 31) hx hb dX6_appendBit_70 (by decide) ?_
        refine lv_iload hx hb dX6_appendBit_72 (lv_at hl 0 rfl) ?_
        refine lv_bipush (v := 32) hx hb dX6_appendBit_74 (by decide) ?_
        refine lv_irem hx hb dX6_appendBit_76 (by decide) ?_
        refine lv_topi (fun z76 e_z76 => ?_)
        have b_ := zrem rfl zk_32 e_z76 (by omega) (by decide)
        refine lv_isub hx hb dX6_appendBit_77 ?_
        refine lv_topi (fun z77 e_z77 => ?_)
        have b_ := zsub zk_31 rfl e_z77 (by omega) (by omega)
        have b_ : -2147483648 ≤ x2.toInt ∧ x2.toInt ≤ 2147483647 := ⟨zlo _, zhi _⟩
        refine lv_ishl hx hb dX6_appendBit_78 ?_
        refine lv_topi (fun z78 e_z78 => ?_)
        have b_ : -2147483648 ≤ z68.toInt ∧ z68.toInt ≤ 2147483647 := ⟨zlo _, zhi _⟩
        have b_ : -2147483648 ≤ z78.toInt ∧ z78.toInt ≤ 2147483647 := ⟨zlo _, zhi _⟩
        refine lv_ior hx hb dX6_appendBit_79 ?_
        refine lv_topi (fun z79 e_z79 => ?_)
        refine va_iast hx hb hK hP hD hS 4 3 rfl rfl (zin_lit ⟨by omega, by omega⟩) dX6_appendBit_80 (fun H locs hP hD hS => ?_)
        obtain ⟨f_80, e_f_80⟩ : ∃ z : Nat → Int32, z = upd f1 (z66 : Int32).toNatClampNeg z79 := ⟨_, rfl⟩
        have hP : va_P (dC, dI) vwCl [(h0, .inr (6, mX6 h1 h2 h3 h4 h5 h6 h7 h8 (upd (upd (upd v0 8 (u39_ 0)) 9 (u39_ 1)) 11 (u39_ 2)))), (h6, zi k6 400 f6), (h5, zi k5 400 (a39_ 0)), (h2, zi k2 833 (a39_ 2)), (h1, zi k1 1250 f_80), (h3, zi k3 833 (a39_ 1)), (h4, zi k4 400 (a39_ 3))] H := by rw [e_f_80]; exact hP
        have hD : va_D A [(h0, .inr (6, mX6 h1 h2 h3 h4 h5 h6 h7 h8 (upd (upd (upd v0 8 (u39_ 0)) 9 (u39_ 1)) 11 (u39_ 2)))), (h6, zi k6 400 f6), (h5, zi k5 400 (a39_ 0)), (h2, zi k2 833 (a39_ 2)), (h1, zi k1 1250 f_80), (h3, zi k3 833 (a39_ 1)), (h4, zi k4 400 (a39_ 3))] := by rw [e_f_80]; exact hD
        refine lv_aload_n hx hb dX6_appendBit_81 rfl (lv_at hl 2 rfl) ?_
        refine va_get (D := (dC, dI)) (ci := 6) (v := .ref h6) (C := RX6) (T := TX6) (N := 12) hx hb hG zuX6 hown hK hP 0 rfl rfl 5 (by decide) (hG _ zv253) (fun _ h9 => h9) rfl dX6_appendBit_82 ?_
        refine lv_iload_n hx hb dX6_appendBit_85 rfl (lv_at hl 3 rfl) ?_
        refine lv_dup2_11 hx hb dX6_appendBit_86 rfl rfl ?_
        refine va_iald hx hb hK hP 1 0 rfl rfl (zin_lit ⟨by omega, by omega⟩) dX6_appendBit_87 ?_
        refine lv_topi (fun z87 e_z87 => ?_)
        have b_ : z87.toInt = z13.toInt := by rw [e_z87, e_z13]
        refine lv_iconst (v := 1) hx hb dX6_appendBit_88 (by decide) ?_
        refine lv_iadd hx hb dX6_appendBit_89 ?_
        refine lv_topi (fun z89 e_z89 => ?_)
        have b_ := zadd rfl zk_1 e_z89 (by omega) (by omega)
        refine va_iast hx hb hK hP hD hS 1 0 rfl rfl (zin_lit ⟨by omega, by omega⟩) dX6_appendBit_90 (fun H locs hP hD hS => ?_)
        obtain ⟨f_90, e_f_90⟩ : ∃ z : Nat → Int32, z = upd f6 (x1 : Int32).toNatClampNeg z89 := ⟨_, rfl⟩
        have hP : va_P (dC, dI) vwCl [(h0, .inr (6, mX6 h1 h2 h3 h4 h5 h6 h7 h8 (upd (upd (upd v0 8 (u39_ 0)) 9 (u39_ 1)) 11 (u39_ 2)))), (h6, zi k6 400 f_90), (h5, zi k5 400 (a39_ 0)), (h2, zi k2 833 (a39_ 2)), (h1, zi k1 1250 f_80), (h3, zi k3 833 (a39_ 1)), (h4, zi k4 400 (a39_ 3))] H := by rw [e_f_90]; exact hP
        have hD : va_D A [(h0, .inr (6, mX6 h1 h2 h3 h4 h5 h6 h7 h8 (upd (upd (upd v0 8 (u39_ 0)) 9 (u39_ 1)) 11 (u39_ 2)))), (h6, zi k6 400 f_90), (h5, zi k5 400 (a39_ 0)), (h2, zi k2 833 (a39_ 2)), (h1, zi k1 1250 f_80), (h3, zi k3 833 (a39_ 1)), (h4, zi k4 400 (a39_ 3))] := by rw [e_f_90]; exact hD
        refine lv_aload_n hx hb dX6_appendBit_91 rfl (lv_at hl 2 rfl) ?_
        refine lv_dup hx hb dX6_appendBit_92 rfl ?_
        refine va_get (D := (dC, dI)) (ci := 6) (v := .int (v0 10)) (C := RX6) (T := TX6) (N := 12) hx hb hG zuX6 hown hK hP 0 rfl rfl 10 (by decide) (hG _ zv258) (fun _ h9 => h9) rfl dX6_appendBit_93 ?_
        refine lv_iconst (v := 1) hx hb dX6_appendBit_96 (by decide) ?_
        have b_ : -2147483648 ≤ (v0 10).toInt ∧ (v0 10).toInt ≤ 2147483647 := ⟨zlo _, zhi _⟩
        refine lv_iadd hx hb dX6_appendBit_97 ?_
        refine lv_topi (fun z97 e_z97 => ?_)
        refine va_put (D := (dC, dI)) (ci := 6) (v := .int z97) (ty := .int) (C := RX6) (T := TX6) (N := 12) hx hb hG zuX6 tyX6 tyX6_ok nmX6 hown hK hP hD hS 0 rfl rfl 10 (by decide) (hG _ zv258) (fun _ h9 => h9) rfl (by decide +kernel) rfl rfl (Nat.le_of_ble_eq_true rfl) dX6_appendBit_98 (fun H locs hP hD hS => ?_)
        have hP : va_P (dC, dI) vwCl [(h0, .inr (6, mX6 h1 h2 h3 h4 h5 h6 h7 h8 (upd (upd (upd (upd v0 8 (u39_ 0)) 9 (u39_ 1)) 10 z97) 11 (u39_ 2)))), (h6, zi k6 400 f_90), (h5, zi k5 400 (a39_ 0)), (h2, zi k2 833 (a39_ 2)), (h1, zi k1 1250 f_80), (h3, zi k3 833 (a39_ 1)), (h4, zi k4 400 (a39_ 3))] H := hP
        have hD : va_D A [(h0, .inr (6, mX6 h1 h2 h3 h4 h5 h6 h7 h8 (upd (upd (upd (upd v0 8 (u39_ 0)) 9 (u39_ 1)) 10 z97) 11 (u39_ 2)))), (h6, zi k6 400 f_90), (h5, zi k5 400 (a39_ 0)), (h2, zi k2 833 (a39_ 2)), (h1, zi k1 1250 f_80), (h3, zi k3 833 (a39_ 1)), (h4, zi k4 400 (a39_ 3))] := hD
        have hphi : zPhi (a39_ 2) (a39_ 0) f_90 (u39_ 1).toInt (u39_ 0).toInt := by rw [hB1.1, hB1.2, e_f_90]; exact zPhi_B hp0_ (by rw [← e_z13]; exact hch) (by rw [← e_z13]; omega) (by omega) rfl (by omega) rfl (by omega) (by omega) (fun j => (hf5 j).1) (show z89.toInt = (f6 (x1 : Int32).toNatClampNeg).toInt + 1 from by rw [← e_z13]; omega)
        have hap : zW (0 ≤ x1.toInt → x1.toInt ≤ 399 → (x2.toInt = 0 ∨ x2.toInt = 1) → zAp f1 f2 f3 f4 f5 f6 (v0 8).toInt (v0 9).toInt (v0 10).toInt (v0 11).toInt f_80 (a39_ 2) (a39_ 1) (a39_ 3) (a39_ 0) f_90 (u39_ 0).toInt (u39_ 1).toInt z97.toInt (u39_ 2).toInt ((x1 : Int32)).toNatClampNeg [decide (x2.toInt = 1)]) := fun _ _ hb_ => zAp_B (ins := z28.toInt) (hB39_2 (by omega)) (by omega) e_z13 (hX14_0 (by omega)) (hX25_0 (by omega) (by omega)) (by omega) (by omega) e_z59 e_z60 (by omega) e_z68 e_z78 e_z79 (by omega) hb_ e_f_80 e_f_90 (by omega) e_z97
        refine W.widen (k := 0) (n := 0) (by decide) (by decide) ?_
        have b_ : -2147483648 ≤ z97.toInt ∧ z97.toInt ≤ 2147483647 := ⟨zlo _, zhi _⟩
        have b_ : -2147483648 ≤ (u39_ 2).toInt ∧ (u39_ 2).toInt ≤ 2147483647 := ⟨zlo _, zhi _⟩
        have hpost : (0 ≤ (u39_ 0).toInt ∧ (u39_ 0).toInt ≤ 833) ∧ (0 ≤ (u39_ 1).toInt ∧ (u39_ 1).toInt ≤ 1250) := ⟨(by first | with_reducible assumption | exact ⟨by omega, by omega⟩), (by first | with_reducible assumption | exact ⟨by omega, by omega⟩)⟩
        have hP9 : va_P (dC, dI) vwCl [(h0, .inr (6, mX6 h1 h2 h3 h4 h5 h6 h7 h8 (upd (upd (upd (upd v0 8 (u39_ 0)) 9 (u39_ 1)) 10 z97) 11 (u39_ 2)))), (h6, zi k6 400 f_90), (h5, zi k5 400 (a39_ 0)), (h2, zi k2 833 (a39_ 2)), (h1, zi k1 1250 f_80), (h3, zi k3 833 (a39_ 1)), (h4, zi k4 400 (a39_ 3))] H := hP
        have hD9 : va_D A [(h0, .inr (6, mX6 h1 h2 h3 h4 h5 h6 h7 h8 (upd (upd (upd (upd v0 8 (u39_ 0)) 9 (u39_ 1)) 10 z97) 11 (u39_ 2)))), (h6, zi k6 400 f_90), (h5, zi k5 400 (a39_ 0)), (h2, zi k2 833 (a39_ 2)), (h1, zi k1 1250 f_80), (h3, zi k3 833 (a39_ 1)), (h4, zi k4 400 (a39_ 3))] := hD
        have hB0 : zPhi (a39_ 2) (a39_ 0) f_90 (u39_ 1).toInt (u39_ 0).toInt := by assumption
        have hB1 : zW (0 ≤ x1.toInt → x1.toInt ≤ 399 → (x2.toInt = 0 ∨ x2.toInt = 1) → zAp f1 f2 f3 f4 f5 f6 (v0 8).toInt (v0 9).toInt (v0 10).toInt (v0 11).toInt f_80 (a39_ 2) (a39_ 1) (a39_ 3) (a39_ 0) f_90 (u39_ 0).toInt (u39_ 1).toInt z97.toInt (u39_ 2).toInt ((x1 : Int32)).toNatClampNeg [decide (x2.toInt = 1)]) := by first | exact hap | (intro q1 q2; omega)
        exact W.vret hx hb hr (fun t ht hW => ⟨⟨(fun i => ([(u39_ 0), (u39_ 1), z97, (u39_ 2)] : List (Int32)).getD i 0), rfl, hpost, (fun _ => 0), (fun i => ([f_90, (a39_ 0), (a39_ 2), f_80, (a39_ 1), (a39_ 3)] : List (Nat → Int32)).getD i (fun _ => 0)), (fun _ => (fun _ => 0)), ha39_0, ha39_2, hB0, hB1, by rw [ht]; exact hP9, va_K.moved hW.alike hK, hD9⟩, hS.F ht⟩) hS.2.2 dX6_appendBit_101
      · skip
        have b_ := zF_ne rfl zk_0 c_
        have hphi : zPhi (a39_ 2) (a39_ 0) f6 (u39_ 1).toInt (u39_ 0).toInt := zPhi_eq hp0_ (hB39_1 (by omega)).2 (hB39_1 (by omega)).1 (by omega) (by omega)
        have hap : zW (0 ≤ x1.toInt → x1.toInt ≤ 399 → (x2.toInt = 0 ∨ x2.toInt = 1) → zAp f1 f2 f3 f4 f5 f6 (v0 8).toInt (v0 9).toInt (v0 10).toInt (v0 11).toInt f1 (a39_ 2) (a39_ 1) (a39_ 3) (a39_ 0) f6 (u39_ 0).toInt (u39_ 1).toInt (v0 10).toInt (u39_ 2).toInt ((x1 : Int32)).toNatClampNeg [decide (x2.toInt = 1)]) := fun _ _ _ => zAp_x (ins := z28.toInt) (by rw [← e_z13]; exact hX14_0 (by omega)) (hX25_0 (by omega) (by omega)) (by rw [← e_z13]; omega) (by omega) (hX39_3 (by omega))
        refine W.widen (k := 0) (n := 0) (by decide) (by decide) ?_
        have b_ : -2147483648 ≤ (v0 10).toInt ∧ (v0 10).toInt ≤ 2147483647 := ⟨zlo _, zhi _⟩
        have b_ : -2147483648 ≤ (u39_ 2).toInt ∧ (u39_ 2).toInt ≤ 2147483647 := ⟨zlo _, zhi _⟩
        have hpost : (0 ≤ (u39_ 0).toInt ∧ (u39_ 0).toInt ≤ 833) ∧ (0 ≤ (u39_ 1).toInt ∧ (u39_ 1).toInt ≤ 1250) := ⟨(by first | with_reducible assumption | exact ⟨by omega, by omega⟩), (by first | with_reducible assumption | exact ⟨by omega, by omega⟩)⟩
        have hP9 : va_P (dC, dI) vwCl [(h0, .inr (6, mX6 h1 h2 h3 h4 h5 h6 h7 h8 (upd (upd (upd (upd v0 8 (u39_ 0)) 9 (u39_ 1)) 10 (v0 10)) 11 (u39_ 2)))), (h6, zi k6 400 f6), (h5, zi k5 400 (a39_ 0)), (h2, zi k2 833 (a39_ 2)), (h1, zi k1 1250 f1), (h3, zi k3 833 (a39_ 1)), (h4, zi k4 400 (a39_ 3))] H := hP
        have hD9 : va_D A [(h0, .inr (6, mX6 h1 h2 h3 h4 h5 h6 h7 h8 (upd (upd (upd (upd v0 8 (u39_ 0)) 9 (u39_ 1)) 10 (v0 10)) 11 (u39_ 2)))), (h6, zi k6 400 f6), (h5, zi k5 400 (a39_ 0)), (h2, zi k2 833 (a39_ 2)), (h1, zi k1 1250 f1), (h3, zi k3 833 (a39_ 1)), (h4, zi k4 400 (a39_ 3))] := hD
        have hB0 : zPhi (a39_ 2) (a39_ 0) f6 (u39_ 1).toInt (u39_ 0).toInt := by assumption
        have hB1 : zW (0 ≤ x1.toInt → x1.toInt ≤ 399 → (x2.toInt = 0 ∨ x2.toInt = 1) → zAp f1 f2 f3 f4 f5 f6 (v0 8).toInt (v0 9).toInt (v0 10).toInt (v0 11).toInt f1 (a39_ 2) (a39_ 1) (a39_ 3) (a39_ 0) f6 (u39_ 0).toInt (u39_ 1).toInt (v0 10).toInt (u39_ 2).toInt ((x1 : Int32)).toNatClampNeg [decide (x2.toInt = 1)]) := by first | exact hap | (intro q1 q2; omega)
        exact W.vret hx hb hr (fun t ht hW => ⟨⟨(fun i => ([(u39_ 0), (u39_ 1), (v0 10), (u39_ 2)] : List (Int32)).getD i 0), rfl, hpost, (fun _ => 0), (fun i => ([f6, (a39_ 0), (a39_ 2), f1, (a39_ 1), (a39_ 3)] : List (Nat → Int32)).getD i (fun _ => 0)), (fun _ => (fun _ => 0)), ha39_0, ha39_2, hB0, hB1, by rw [ht]; exact hP9, va_K.moved hW.alike hK, hD9⟩, hS.F ht⟩) hS.2.2 dX6_appendBit_45
  · skip
    have b_ := zF_ne rfl zk_0 c_
    refine W.widen (k := 0) (n := 0) (by decide) (by decide) ?_
    have b_ : -2147483648 ≤ (v0 10).toInt ∧ (v0 10).toInt ≤ 2147483647 := ⟨zlo _, zhi _⟩
    have b_ : -2147483648 ≤ (v0 11).toInt ∧ (v0 11).toInt ≤ 2147483647 := ⟨zlo _, zhi _⟩
    have hpost : (0 ≤ (v0 8).toInt ∧ (v0 8).toInt ≤ 833) ∧ (0 ≤ (v0 9).toInt ∧ (v0 9).toInt ≤ 1250) := ⟨(by first | with_reducible assumption | exact ⟨by omega, by omega⟩), (by first | with_reducible assumption | exact ⟨by omega, by omega⟩)⟩
    have hP9 : va_P (dC, dI) vwCl [(h0, .inr (6, mX6 h1 h2 h3 h4 h5 h6 h7 h8 (upd (upd (upd (upd v0 8 (v0 8)) 9 (v0 9)) 10 (v0 10)) 11 (v0 11)))), (h6, zi k6 400 f6), (h5, zi k5 400 f5), (h2, zi k2 833 f2), (h1, zi k1 1250 f1), (h3, zi k3 833 f3), (h4, zi k4 400 f4)] H := hP
    have hD9 : va_D A [(h0, .inr (6, mX6 h1 h2 h3 h4 h5 h6 h7 h8 (upd (upd (upd (upd v0 8 (v0 8)) 9 (v0 9)) 10 (v0 10)) 11 (v0 11)))), (h6, zi k6 400 f6), (h5, zi k5 400 f5), (h2, zi k2 833 f2), (h1, zi k1 1250 f1), (h3, zi k3 833 f3), (h4, zi k4 400 f4)] := hD
    have hB0 : zPhi f2 f5 f6 (v0 9).toInt (v0 8).toInt := by assumption
    have hB1 : zW (0 ≤ x1.toInt → x1.toInt ≤ 399 → (x2.toInt = 0 ∨ x2.toInt = 1) → zAp f1 f2 f3 f4 f5 f6 (v0 8).toInt (v0 9).toInt (v0 10).toInt (v0 11).toInt f1 f2 f3 f4 f5 f6 (v0 8).toInt (v0 9).toInt (v0 10).toInt (v0 11).toInt ((x1 : Int32)).toNatClampNeg [decide (x2.toInt = 1)]) := by first | exact hap | (intro q1 q2; omega)
    exact W.vret hx hb hr (fun t ht hW => ⟨⟨(fun i => ([(v0 8), (v0 9), (v0 10), (v0 11)] : List (Int32)).getD i 0), rfl, hpost, (fun _ => 0), (fun i => ([f6, f5, f2, f1, f3, f4] : List (Nat → Int32)).getD i (fun _ => 0)), (fun _ => (fun _ => 0)), hf5, hf2, hB0, hB1, by rw [ht]; exact hP9, va_K.moved hW.alike hK, hD9⟩, hS.F ht⟩) hS.2.2 dX6_appendBit_7
set_option maxHeartbeats 8000000 in
set_option maxRecDepth 100000 in
theorem sX6_append_0 (l : Launch) (dC : Nat → ClassId) (dI : Nat → Nat → Nat) (adK adV : Nat → Nat) (h0 : Nat) (h6 : Nat) (h5 : Nat) (h2 : Nat) (h1 : Nat) (h3 : Nat) (h4 : Nat) (h7 : Nat) (h8 : Nat) (k6 : ClassId) (k5 : ClassId) (k2 : ClassId) (k1 : ClassId) (k3 : ClassId) (k4 : ClassId) (sz : Nat) (v0 : Nat → Int32) (f6 : Nat → Int32) (f5 : Nat → Int32) (f2 : Nat → Int32) (f1 : Nat → Int32) (f3 : Nat → Int32) (f4 : Nat → Int32) (x1 : Int32) (x2 : Int32) (hv0 : zR rg_Postings v0) (hf5 : zA 0 832 f5) (hf2 : zA 0 1250 f2) (hp0_ : zPhi f2 f5 f6 (v0 9).toInt (v0 8).toInt) : Met l yX6_append (zw yX6_append cX6_append 5 none) { frames := 3, cells := 0, slots := 0, locals := 67 } (zPc dC dI adK adV [.ref h0, .int x1, .int x2] sz [(h0, .inr (6, mX6 h1 h2 h3 h4 h5 h6 h7 h8 v0)), (h6, zi k6 400 f6), (h5, zi k5 400 f5), (h2, zi k2 833 f2), (h1, zi k1 1250 f1), (h3, zi k3 833 f3), (h4, zi k4 400 f4)] [(k6, .int), (k5, .int), (k2, .int), (k1, .int), (k3, .int), (k4, .int)]) (va_Qv (fun (u : Nat → Int32) => (0 ≤ (u 0).toInt ∧ (u 0).toInt ≤ 833) ∧ (0 ≤ (u 1).toInt ∧ (u 1).toInt ≤ 1250)) (fun (u : Nat → Int32) (t : State) => ∃ (ww : Nat → Int64) (aa : Nat → Nat → Int32) (bb : Nat → Nat → Int64), zA 0 832 (aa 1) ∧ zA 0 1250 (aa 2) ∧ (zPhi (aa 2) (aa 1) (aa 0) (u 1).toInt (u 0).toInt) ∧ (zW (0 < x2.toInt → 0 ≤ x1.toInt → x1.toInt ≤ 399 → zAp f1 f2 f3 f4 f5 f6 (v0 8).toInt (v0 9).toInt (v0 10).toInt (v0 11).toInt (aa 3) (aa 2) (aa 4) (aa 5) (aa 1) (aa 0) (u 0).toInt (u 1).toInt (u 2).toInt (u 3).toInt ((x1 : Int32)).toNatClampNeg (zGa (x2.toInt).toNat))) ∧ va_P (dC, dI) vwCl [(h0, .inr (6, mX6 h1 h2 h3 h4 h5 h6 h7 h8 (upd (upd (upd (upd v0 8 (u 0)) 9 (u 1)) 10 (u 2)) 11 (u 3)))), (h6, zi k6 400 (aa 0)), (h5, zi k5 400 (aa 1)), (h2, zi k2 833 (aa 2)), (h1, zi k1 1250 (aa 3)), (h3, zi k3 833 (aa 4)), (h4, zi k4 400 (aa 5))] t.heap ∧ va_K (dC, dI) vwCl [(k6, .int), (k5, .int), (k2, .int), (k1, .int), (k3, .int), (k4, .int)] t ∧ va_D (va_A [(h0, .inr (6, mX6 h1 h2 h3 h4 h5 h6 h7 h8 v0)), (h6, zi k6 400 f6), (h5, zi k5 400 f5), (h2, zi k2 833 f2), (h1, zi k1 1250 f1), (h3, zi k3 833 f3), (h4, zi k4 400 f4)] sz) [(h0, .inr (6, mX6 h1 h2 h3 h4 h5 h6 h7 h8 (upd (upd (upd (upd v0 8 (u 0)) 9 (u 1)) 10 (u 2)) 11 (u 3)))), (h6, zi k6 400 (aa 0)), (h5, zi k5 400 (aa 1)), (h2, zi k2 833 (aa 2)), (h1, zi k1 1250 (aa 3)), (h3, zi k3 833 (aa 4)), (h4, zi k4 400 (aa 5))]) (va_A [(h0, .inr (6, mX6 h1 h2 h3 h4 h5 h6 h7 h8 v0)), (h6, zi k6 400 f6), (h5, zi k5 400 f5), (h2, zi k2 833 f2), (h1, zi k1 1250 f1), (h3, zi k3 833 f3), (h4, zi k4 400 f4)] sz)) 0 0 (va_A [(h0, .inr (6, mX6 h1 h2 h3 h4 h5 h6 h7 h8 v0)), (h6, zi k6 400 f6), (h5, zi k5 400 f5), (h2, zi k2 833 f2), (h1, zi k1 1250 f1), (h3, zi k3 833 f3), (h4, zi k4 400 f4)] sz) := by
  refine Met.ofW (cc := cX6_append) (maxL := 5) (ret := none) (by decide) rfl ?_
  intro p e s m args below meth c s₁ B hml hv
  obtain ⟨rfl, hsz, hP, hK, hD0, hE, hZ⟩ := hv
  have hx := B.exec
  have hb := B.bytes
  have hr := B.returns
  have hG : ∀ w ∈ zG, w.before _ s = true := fun w h => atoms_spec (ws := (zw yX6_append cX6_append 5 none)) B.pre w (List.mem_cons_of_mem _ h)
  have hown : s.vm.findClass RX6 = some m.cls := findClass_of_methodNamed B.named
  have hlocks := B.notSynchronized

  subst hsz
  have hD := hD0.self (sz := s.heap.size)
  generalize hAe : va_A [(h0, .inr (6, mX6 h1 h2 h3 h4 h5 h6 h7 h8 v0)), (h6, zi k6 400 f6), (h5, zi k5 400 f5), (h2, zi k2 833 f2), (h1, zi k1 1250 f1), (h3, zi k3 833 f3), (h4, zi k4 400 f4)] s.heap.size = A at hD hZ ⊢
  have hA : ∀ q : Nat, s.heap.size ≤ q → A q := fun q h => by rw [← hAe]; exact Or.inr h
  have hS : va_S A s.heap s.heap [] := va_S.rf
  have hl := lv_entry ([.ref h0, .int x1, .int x2]) (n := 5) (Nat.le_of_ble_eq_true rfl)
  rw [lg_entry_eq]
  generalize (lg_sl ([.ref h0, .int x1, .int x2]) ++ List.replicate (5 - (lg_sl ([.ref h0, .int x1, .int x2])).length) Slot.unset).toArray = ls at hl ⊢
  have hl : lv_has ls 5 [(0, .ref h0), (1, .int x1), (2, .int x2)] := hl
  have b_ := zk_0
  have b_ := zk_1
  have b_ : 0 ≤ (v0 9).toInt ∧ (v0 9).toInt ≤ 1250 := hv0 9
  have b_ : 0 ≤ (v0 8).toInt ∧ (v0 8).toInt ≤ 833 := hv0 8
  refine lv_iload_n hx hb dX6_append_0 rfl (lv_at hl 2 rfl) ?_
  have hPc := hP.sub (ws' := []) [] rfl
  have hDc := hD.sub (ws' := []) [] (by decide) rfl
  have hKc := hK.sub (tys' := []) [] rfl
  have hFc := va_free (wc := []) hD hS hA [] rfl
  refine va_calli (va_runSN (As := [.int x2]) (rest := []) ⟨hx, hb, hml, hown, hG⟩ (sX11_binaryDigits_0 l dC dI adK adV s.heap.size x2) ⟨va_cnB 1 hG (zgI zv791) rfl rfl rfl (zE_RX6_59 hE) (hG _ zv129) (by decide +kernel) ⟨Nat.le_of_ble_eq_true rfl, Nat.le_of_ble_eq_true rfl⟩, hG _ zv790, trivial⟩ ⟨zPc_blind, zPc_pre hPc hKc hDc hE hS hFc hZ⟩ rfl rfl hl.1 rfl (lv_room (Nat.le_of_ble_eq_true rfl)) dX6_append_1 ⟨Nat.le_of_ble_eq_true rfl, Nat.le_of_ble_eq_true rfl⟩) hS (fun q _ h => hFc q h) hFc (fun r1_ u1_ t H1 locs ht hvm hw hB hz1 hk1 hS => ?_)
  replace hw : (0 ≤ r1_.toInt ∧ r1_.toInt ≤ 32) ∧ (0 < x2.toInt → r1_.toInt = (zbd (x2.toInt).toNat : Int)) := hw
  obtain ⟨b_, hX1_0⟩ := hw
  obtain ⟨w1_, a1_, b1_, hP1, hK1, hD1⟩ := hB
  rw [ht] at hP1
  obtain ⟨hP, hD⟩ := va_join (wr := [(h0, .inr (6, mX6 h1 h2 h3 h4 h5 h6 h7 h8 v0)), (h6, zi k6 400 f6), (h5, zi k5 400 f5), (h2, zi k2 833 f2), (h1, zi k1 1250 f1), (h3, zi k3 833 f3), (h4, zi k4 400 f4)]) (w1 := []) hP hD [] [0, 1, 2, 3, 4, 5, 6] rfl rfl (by decide) (by decide) hk1 hFc hP1 hD1
  have hP : va_P (dC, dI) vwCl [(h0, .inr (6, mX6 h1 h2 h3 h4 h5 h6 h7 h8 v0)), (h6, zi k6 400 f6), (h5, zi k5 400 f5), (h2, zi k2 833 f2), (h1, zi k1 1250 f1), (h3, zi k3 833 f3), (h4, zi k4 400 f4)] H1 := hP.sub [0, 1, 2, 3, 4, 5, 6] rfl
  have hD : va_D A [(h0, .inr (6, mX6 h1 h2 h3 h4 h5 h6 h7 h8 v0)), (h6, zi k6 400 f6), (h5, zi k5 400 f5), (h2, zi k2 833 f2), (h1, zi k1 1250 f1), (h3, zi k3 833 f3), (h4, zi k4 400 f4)] := hD.sub [0, 1, 2, 3, 4, 5, 6] (by decide) rfl
  generalize H1 = H at hP hS ⊢
  clear hz1
  have b_ := zbd_i x2
  have b_ : 0 < x2.toInt → 0 < (zbd x2.toInt.toNat : Int) := fun q => by have := zbd_0 (n := x2.toInt.toNat) (by omega); omega
  refine lv_istore_n (lv' := [(3, .int r1_), (0, .ref h0), (1, .int x1), (2, .int x2)]) hx hb dX6_append_4 rfl hl (by decide) rfl (fun ls hl => ?_)
  refine lv_iconst (v := 1) hx hb dX6_append_5 (by decide) ?_
  refine lv_istore (lv' := [(4, .int 1), (3, .int r1_), (0, .ref h0), (1, .int x1), (2, .int x2)]) hx hb dX6_append_6 hl (by decide) rfl (fun ls hl => ?_)
  refine zcutL (fun u8_ => (32 - (u8_ 0).toInt).toNat) (fun H locs ls u8_ w8_ a8_ b8_ => va_P (dC, dI) vwCl [(h0, .inr (6, mX6 h1 h2 h3 h4 h5 h6 h7 h8 (upd (upd (upd (upd v0 8 (u8_ 1)) 9 (u8_ 2)) 10 (u8_ 3)) 11 (u8_ 4)))), (h6, zi k6 400 (a8_ 5)), (h5, zi k5 400 (a8_ 4)), (h2, zi k2 833 (a8_ 1)), (h1, zi k1 1250 (a8_ 0)), (h3, zi k3 833 (a8_ 2)), (h4, zi k4 400 (a8_ 3))] H ∧ va_D A [(h0, .inr (6, mX6 h1 h2 h3 h4 h5 h6 h7 h8 (upd (upd (upd (upd v0 8 (u8_ 1)) 9 (u8_ 2)) 10 (u8_ 3)) 11 (u8_ 4)))), (h6, zi k6 400 (a8_ 5)), (h5, zi k5 400 (a8_ 4)), (h2, zi k2 833 (a8_ 1)), (h1, zi k1 1250 (a8_ 0)), (h3, zi k3 833 (a8_ 2)), (h4, zi k4 400 (a8_ 3))] ∧ va_S A s.heap H locs ∧ lv_has ls 5 [(0, .ref h0), (1, .int x1), (2, .int x2), (3, .int r1_), (4, .int (u8_ 0))] ∧ zA 0 1250 (a8_ 1) ∧ zA 0 832 (a8_ 4) ∧ (1 ≤ (u8_ 0).toInt ∧ (u8_ 0).toInt ≤ 32) ∧ (0 ≤ (u8_ 1).toInt ∧ (u8_ 1).toInt ≤ 833) ∧ (0 ≤ (u8_ 2).toInt ∧ (u8_ 2).toInt ≤ 1250) ∧ (zW (0 < x2.toInt → 0 ≤ x1.toInt → x1.toInt ≤ 399 → zAp f1 f2 f3 f4 f5 f6 (v0 8).toInt (v0 9).toInt (v0 10).toInt (v0 11).toInt (a8_ 0) (a8_ 1) (a8_ 2) (a8_ 3) (a8_ 4) (a8_ 5) (u8_ 1).toInt (u8_ 2).toInt (u8_ 3).toInt (u8_ 4).toInt ((x1 : Int32)).toNatClampNeg (zA1 x2.toInt (u8_ 0).toInt))) ∧ (1 ≤ (u8_ 0).toInt) ∧ ((u8_ 0).toInt = 1 ∨ (u8_ 0).toInt ≤ r1_.toInt) ∧ (zPhi (a8_ 1) (a8_ 4) (a8_ 5) (u8_ 2).toInt (u8_ 1).toInt)) (fun ls u8_ w8_ => F0 m 8 ls []) 0 0 ?_ (fun hJ8 => ?_)
  · skip
    intro H locs ls u8_ w8_ a8_ b8_ hc hJ8
    obtain ⟨hP, hD, hS, hl, ha8_1, ha8_4, b_, b_, b_, hI8_0, b_, b_, hI8_3⟩ := hc
    refine lv_iload hx hb dX6_append_8 (lv_at hl 4 rfl) ?_
    refine lv_iload_n hx hb dX6_append_10 rfl (lv_at hl 3 rfl) ?_
    refine lv_icmp_ge (tgt := 26) hx hb dX6_append_11 (by decide) (fun c_ => ?_) (fun c_ => ?_)
    · skip
      have b_ := zT_ge rfl rfl c_
      refine lv_iload_n hx hb dX6_append_26 rfl (lv_at hl 3 rfl) ?_
      refine lv_iconst (v := 1) hx hb dX6_append_27 (by decide) ?_
      refine lv_isub hx hb dX6_append_28 ?_
      refine lv_topi (fun z28 e_z28 => ?_)
      have b_ := zsub rfl zk_1 e_z28 (by omega) (by omega)
      refine lv_istore (lv' := [(4, .int z28), (0, .ref h0), (1, .int x1), (2, .int x2), (3, .int r1_)]) hx hb dX6_append_29 hl (by decide) rfl (fun ls hl => ?_)
      refine zcutL (fun u31_ => ((u31_ 0).toInt - (-1)).toNat) (fun H locs ls u31_ w31_ a31_ b31_ => va_P (dC, dI) vwCl [(h0, .inr (6, mX6 h1 h2 h3 h4 h5 h6 h7 h8 (upd (upd (upd (upd v0 8 (u31_ 1)) 9 (u31_ 2)) 10 (u31_ 3)) 11 (u31_ 4)))), (h6, zi k6 400 (a31_ 5)), (h5, zi k5 400 (a31_ 4)), (h2, zi k2 833 (a31_ 1)), (h1, zi k1 1250 (a31_ 0)), (h3, zi k3 833 (a31_ 2)), (h4, zi k4 400 (a31_ 3))] H ∧ va_D A [(h0, .inr (6, mX6 h1 h2 h3 h4 h5 h6 h7 h8 (upd (upd (upd (upd v0 8 (u31_ 1)) 9 (u31_ 2)) 10 (u31_ 3)) 11 (u31_ 4)))), (h6, zi k6 400 (a31_ 5)), (h5, zi k5 400 (a31_ 4)), (h2, zi k2 833 (a31_ 1)), (h1, zi k1 1250 (a31_ 0)), (h3, zi k3 833 (a31_ 2)), (h4, zi k4 400 (a31_ 3))] ∧ va_S A s.heap H locs ∧ lv_has ls 5 [(0, .ref h0), (1, .int x1), (2, .int x2), (3, .int r1_), (4, .int (u31_ 0))] ∧ zA 0 1250 (a31_ 1) ∧ zA 0 832 (a31_ 4) ∧ ((-1) ≤ (u31_ 0).toInt ∧ (u31_ 0).toInt ≤ 31) ∧ (0 ≤ (u31_ 1).toInt ∧ (u31_ 1).toInt ≤ 833) ∧ (0 ≤ (u31_ 2).toInt ∧ (u31_ 2).toInt ≤ 1250) ∧ (zW (0 < x2.toInt → 0 ≤ x1.toInt → x1.toInt ≤ 399 → zAp f1 f2 f3 f4 f5 f6 (v0 8).toInt (v0 9).toInt (v0 10).toInt (v0 11).toInt (a31_ 0) (a31_ 1) (a31_ 2) (a31_ 3) (a31_ 4) (a31_ 5) (u31_ 1).toInt (u31_ 2).toInt (u31_ 3).toInt (u31_ 4).toInt ((x1 : Int32)).toNatClampNeg (zA2 x2.toInt (u31_ 0).toInt))) ∧ (-1 ≤ (u31_ 0).toInt) ∧ ((u31_ 0).toInt < r1_.toInt) ∧ (zPhi (a31_ 1) (a31_ 4) (a31_ 5) (u31_ 2).toInt (u31_ 1).toInt)) (fun ls u31_ w31_ => F0 m 31 ls []) 0 0 ?_ (fun hJ31 => ?_)
      · skip
        intro H locs ls u31_ w31_ a31_ b31_ hc hJ31
        obtain ⟨hP, hD, hS, hl, ha31_1, ha31_4, b_, b_, b_, hI31_0, b_, b_, hI31_3⟩ := hc
        refine lv_iload hx hb dX6_append_31 (lv_at hl 4 rfl) ?_
        refine lv_if_lt (tgt := 53) hx hb dX6_append_33 (by decide) (fun c_ => ?_) (fun c_ => ?_)
        · skip
          have b_ := zT_lt rfl zk_0 c_
          refine W.widen (k := 0) (n := 0) (by decide) (by decide) ?_
          have b_ : -2147483648 ≤ (u31_ 3).toInt ∧ (u31_ 3).toInt ≤ 2147483647 := ⟨zlo _, zhi _⟩
          have b_ : -2147483648 ≤ (u31_ 4).toInt ∧ (u31_ 4).toInt ≤ 2147483647 := ⟨zlo _, zhi _⟩
          have hpost : (0 ≤ (u31_ 1).toInt ∧ (u31_ 1).toInt ≤ 833) ∧ (0 ≤ (u31_ 2).toInt ∧ (u31_ 2).toInt ≤ 1250) := ⟨(by first | with_reducible assumption | exact ⟨by omega, by omega⟩), (by first | with_reducible assumption | exact ⟨by omega, by omega⟩)⟩
          have hP9 : va_P (dC, dI) vwCl [(h0, .inr (6, mX6 h1 h2 h3 h4 h5 h6 h7 h8 (upd (upd (upd (upd v0 8 (u31_ 1)) 9 (u31_ 2)) 10 (u31_ 3)) 11 (u31_ 4)))), (h6, zi k6 400 (a31_ 5)), (h5, zi k5 400 (a31_ 4)), (h2, zi k2 833 (a31_ 1)), (h1, zi k1 1250 (a31_ 0)), (h3, zi k3 833 (a31_ 2)), (h4, zi k4 400 (a31_ 3))] H := hP
          have hD9 : va_D A [(h0, .inr (6, mX6 h1 h2 h3 h4 h5 h6 h7 h8 (upd (upd (upd (upd v0 8 (u31_ 1)) 9 (u31_ 2)) 10 (u31_ 3)) 11 (u31_ 4)))), (h6, zi k6 400 (a31_ 5)), (h5, zi k5 400 (a31_ 4)), (h2, zi k2 833 (a31_ 1)), (h1, zi k1 1250 (a31_ 0)), (h3, zi k3 833 (a31_ 2)), (h4, zi k4 400 (a31_ 3))] := hD
          have hB0 : zPhi (a31_ 1) (a31_ 4) (a31_ 5) (u31_ 2).toInt (u31_ 1).toInt := by assumption
          have hB1 : zW (0 < x2.toInt → 0 ≤ x1.toInt → x1.toInt ≤ 399 → zAp f1 f2 f3 f4 f5 f6 (v0 8).toInt (v0 9).toInt (v0 10).toInt (v0 11).toInt (a31_ 0) (a31_ 1) (a31_ 2) (a31_ 3) (a31_ 4) (a31_ 5) (u31_ 1).toInt (u31_ 2).toInt (u31_ 3).toInt (u31_ 4).toInt ((x1 : Int32)).toNatClampNeg (zGa (x2.toInt).toNat)) := by exact fun q0 q1 q2 => zAp_e (hI31_0 q0 q1 q2) (zA2_e (by omega) (by omega)).symm
          exact W.vret hx hb hr (fun t ht hW => ⟨⟨(fun i => ([(u31_ 1), (u31_ 2), (u31_ 3), (u31_ 4)] : List (Int32)).getD i 0), rfl, hpost, (fun _ => 0), (fun i => ([(a31_ 5), (a31_ 4), (a31_ 1), (a31_ 0), (a31_ 2), (a31_ 3)] : List (Nat → Int32)).getD i (fun _ => 0)), (fun _ => (fun _ => 0)), ha31_4, ha31_1, hB0, hB1, by rw [ht]; exact hP9, va_K.moved hW.alike hK, hD9⟩, hS.F ht⟩) hS.2.2 dX6_append_53
        · skip
          have b_ := zF_lt rfl zk_0 c_
          refine lv_aload_n hx hb dX6_append_36 rfl (lv_at hl 0 rfl) ?_
          refine lv_iload_n hx hb dX6_append_37 rfl (lv_at hl 1 rfl) ?_
          refine lv_iload_n hx hb dX6_append_38 rfl (lv_at hl 2 rfl) ?_
          refine lv_iload hx hb dX6_append_39 (lv_at hl 4 rfl) ?_
          have b_ : -2147483648 ≤ x2.toInt ∧ x2.toInt ≤ 2147483647 := ⟨zlo _, zhi _⟩
          refine lv_iushr hx hb dX6_append_41 rfl ?_
          refine lv_topi (fun z41 e_z41 => ?_)
          refine lv_iconst (v := 1) hx hb dX6_append_42 (by decide) ?_
          have b_ : -2147483648 ≤ z41.toInt ∧ z41.toInt ≤ 2147483647 := ⟨zlo _, zhi _⟩
          refine lv_iand hx hb dX6_append_43 ?_
          refine lv_topi (fun z43 e_z43 => ?_)
          have b_ := zand (x := z41) zk_1 e_z43 (by decide)
          have b_ : -2147483648 ≤ (u31_ 3).toInt ∧ (u31_ 3).toInt ≤ 2147483647 := ⟨zlo _, zhi _⟩
          have b_ : -2147483648 ≤ (u31_ 4).toInt ∧ (u31_ 4).toInt ≤ 2147483647 := ⟨zlo _, zhi _⟩
          have hPc := hP.sub (ws' := [(h0, .inr (6, mX6 h1 h2 h3 h4 h5 h6 h7 h8 (upd (upd (upd (upd v0 8 (u31_ 1)) 9 (u31_ 2)) 10 (u31_ 3)) 11 (u31_ 4)))), (h6, zi k6 400 (a31_ 5)), (h5, zi k5 400 (a31_ 4)), (h2, zi k2 833 (a31_ 1)), (h1, zi k1 1250 (a31_ 0)), (h3, zi k3 833 (a31_ 2)), (h4, zi k4 400 (a31_ 3))]) [0, 1, 2, 3, 4, 5, 6] rfl
          have hDc := hD.sub (ws' := [(h0, .inr (6, mX6 h1 h2 h3 h4 h5 h6 h7 h8 (upd (upd (upd (upd v0 8 (u31_ 1)) 9 (u31_ 2)) 10 (u31_ 3)) 11 (u31_ 4)))), (h6, zi k6 400 (a31_ 5)), (h5, zi k5 400 (a31_ 4)), (h2, zi k2 833 (a31_ 1)), (h1, zi k1 1250 (a31_ 0)), (h3, zi k3 833 (a31_ 2)), (h4, zi k4 400 (a31_ 3))]) [0, 1, 2, 3, 4, 5, 6] (by decide) rfl
          have hKc := hK.sub (tys' := [(k6, .int), (k5, .int), (k2, .int), (k1, .int), (k3, .int), (k4, .int)]) [0, 1, 2, 3, 4, 5] rfl
          have hFc := va_free (wc := [(h0, .inr (6, mX6 h1 h2 h3 h4 h5 h6 h7 h8 (upd (upd (upd (upd v0 8 (u31_ 1)) 9 (u31_ 2)) 10 (u31_ 3)) 11 (u31_ 4)))), (h6, zi k6 400 (a31_ 5)), (h5, zi k5 400 (a31_ 4)), (h2, zi k2 833 (a31_ 1)), (h1, zi k1 1250 (a31_ 0)), (h3, zi k3 833 (a31_ 2)), (h4, zi k4 400 (a31_ 3))]) hD hS hA [0, 1, 2, 3, 4, 5, 6] rfl
          refine va_callv (va_runV (As := [.int x1, .int z43]) (rest := []) ⟨hx, hb, hml, hown, hG⟩ (sX6_appendBit_0 l dC dI adK adV h0 h6 h5 h2 h1 h3 h4 h7 h8 k6 k5 k2 k1 k3 k4 H.size (upd (upd (upd (upd v0 8 (u31_ 1)) 9 (u31_ 2)) 10 (u31_ 3)) 11 (u31_ 4)) (a31_ 5) (a31_ 4) (a31_ 1) (a31_ 0) (a31_ 2) (a31_ 3) x1 z43 (zR_updF (zR_updF (zR_up2 (zR_up2 hv0 8 (show (0 : Int) ≤ ((u31_ 1) : Int32).toInt ∧ ((u31_ 1) : Int32).toInt ≤ (833 : Int) from (by first | with_reducible assumption | exact ⟨by omega, by omega⟩))) 9 (show (0 : Int) ≤ ((u31_ 2) : Int32).toInt ∧ ((u31_ 2) : Int32).toInt ≤ (1250 : Int) from (by first | with_reducible assumption | exact ⟨by omega, by omega⟩))) 10 rfl) 11 rfl) ha31_4 ha31_1 (show zPhi (a31_ 1) (a31_ 4) (a31_ 5) (u31_ 2).toInt (u31_ 1).toInt from by first | with_reducible assumption | assumption)) (cwV 2 hG (zgV zv839 zv841 zv7 zv133 zv842) rfl rfl rfl (by decide +kernel) ⟨Nat.le_of_ble_eq_true rfl, Nat.le_of_ble_eq_true rfl⟩) ⟨zPc_blind, va_recv hKc hPc (ci := 6) (q0 := 0) rfl rfl, zPc_pre hPc hKc hDc hE hS hFc hZ⟩ rfl rfl hl.1 rfl (lv_room (Nat.le_of_ble_eq_true rfl)) dX6_append_44 ⟨Nat.le_of_ble_eq_true rfl, Nat.le_of_ble_eq_true rfl⟩) hS (fun q _ h => hFc q h) hFc (fun u44_ t H1 locs ht hvm hw hB hz1 hk1 hS => ?_)
          replace hw : (0 ≤ (u44_ 0).toInt ∧ (u44_ 0).toInt ≤ 833) ∧ (0 ≤ (u44_ 1).toInt ∧ (u44_ 1).toInt ≤ 1250) := hw
          obtain ⟨b_, b_⟩ := hw
          obtain ⟨w44_, a44_, b44_, ha44_1, ha44_2, hB44_0, hB44_1, hP1, hK1, hD1⟩ := hB
          have hB44_0 : zPhi (a44_ 2) (a44_ 1) (a44_ 0) (u44_ 1).toInt (u44_ 0).toInt := hB44_0
          have hB44_1 : zW (0 ≤ x1.toInt → x1.toInt ≤ 399 → (z43.toInt = 0 ∨ z43.toInt = 1) → zAp (a31_ 0) (a31_ 1) (a31_ 2) (a31_ 3) (a31_ 4) (a31_ 5) (u31_ 1).toInt (u31_ 2).toInt (u31_ 3).toInt (u31_ 4).toInt (a44_ 3) (a44_ 2) (a44_ 4) (a44_ 5) (a44_ 1) (a44_ 0) (u44_ 0).toInt (u44_ 1).toInt (u44_ 2).toInt (u44_ 3).toInt ((x1 : Int32)).toNatClampNeg [decide (z43.toInt = 1)]) := hB44_1
          rw [ht] at hP1
          obtain ⟨hP, hD⟩ := va_join (wr := []) (w1 := [(h0, .inr (6, mX6 h1 h2 h3 h4 h5 h6 h7 h8 (upd (upd (upd (upd v0 8 (u44_ 0)) 9 (u44_ 1)) 10 (u44_ 2)) 11 (u44_ 3)))), (h6, zi k6 400 (a44_ 0)), (h5, zi k5 400 (a44_ 1)), (h2, zi k2 833 (a44_ 2)), (h1, zi k1 1250 (a44_ 3)), (h3, zi k3 833 (a44_ 4)), (h4, zi k4 400 (a44_ 5))]) hP hD [0, 1, 2, 3, 4, 5, 6] [] rfl rfl (by decide) (by decide) hk1 hFc hP1 hD1
          have hP : va_P (dC, dI) vwCl [(h0, .inr (6, mX6 h1 h2 h3 h4 h5 h6 h7 h8 (upd (upd (upd (upd v0 8 (u44_ 0)) 9 (u44_ 1)) 10 (u44_ 2)) 11 (u44_ 3)))), (h6, zi k6 400 (a44_ 0)), (h5, zi k5 400 (a44_ 1)), (h2, zi k2 833 (a44_ 2)), (h1, zi k1 1250 (a44_ 3)), (h3, zi k3 833 (a44_ 4)), (h4, zi k4 400 (a44_ 5))] H1 := hP.sub [0, 1, 2, 3, 4, 5, 6] rfl
          have hD : va_D A [(h0, .inr (6, mX6 h1 h2 h3 h4 h5 h6 h7 h8 (upd (upd (upd (upd v0 8 (u44_ 0)) 9 (u44_ 1)) 10 (u44_ 2)) 11 (u44_ 3)))), (h6, zi k6 400 (a44_ 0)), (h5, zi k5 400 (a44_ 1)), (h2, zi k2 833 (a44_ 2)), (h1, zi k1 1250 (a44_ 3)), (h3, zi k3 833 (a44_ 4)), (h4, zi k4 400 (a44_ 5))] := hD.sub [0, 1, 2, 3, 4, 5, 6] (by decide) rfl
          generalize H1 = H at hP hS ⊢
          clear hz1
          obtain ⟨z47, e_z47⟩ : ∃ z : Int32, z = (u31_ 0) + Int32.ofInt (-1) := ⟨_, rfl⟩
          have b_ := zadd (x := (u31_ 0)) (y := Int32.ofInt (-1)) rfl (show (Int32.ofInt (-1)).toInt = (-1) from by decide) e_z47 (by omega) (by omega)
          refine lv_iinc (v := z47) (lv' := [(4, .int z47), (0, .ref h0), (1, .int x1), (2, .int x2), (3, .int r1_)]) hx hb dX6_append_47 hl (k := 4) rfl e_z47.symm (by decide) rfl (fun ls hl => ?_)
          refine lv_goto (tgt := 31) hx hb dX6_append_50 (by decide) ?_
          have b_ : -2147483648 ≤ x1.toInt ∧ x1.toInt ≤ 2147483647 := ⟨zlo _, zhi _⟩
          have hc : va_P (dC, dI) vwCl [(h0, .inr (6, mX6 h1 h2 h3 h4 h5 h6 h7 h8 (upd (upd (upd (upd v0 8 (u44_ 0)) 9 (u44_ 1)) 10 (u44_ 2)) 11 (u44_ 3)))), (h6, zi k6 400 (a44_ 0)), (h5, zi k5 400 (a44_ 1)), (h2, zi k2 833 (a44_ 2)), (h1, zi k1 1250 (a44_ 3)), (h3, zi k3 833 (a44_ 4)), (h4, zi k4 400 (a44_ 5))] H ∧ va_D A [(h0, .inr (6, mX6 h1 h2 h3 h4 h5 h6 h7 h8 (upd (upd (upd (upd v0 8 (u44_ 0)) 9 (u44_ 1)) 10 (u44_ 2)) 11 (u44_ 3)))), (h6, zi k6 400 (a44_ 0)), (h5, zi k5 400 (a44_ 1)), (h2, zi k2 833 (a44_ 2)), (h1, zi k1 1250 (a44_ 3)), (h3, zi k3 833 (a44_ 4)), (h4, zi k4 400 (a44_ 5))] ∧ va_S A s.heap H locs ∧ lv_has ls 5 [(0, .ref h0), (1, .int x1), (2, .int x2), (3, .int r1_), (4, .int z47)] ∧ zA 0 1250 (a44_ 2) ∧ zA 0 832 (a44_ 1) ∧ ((-1) ≤ z47.toInt ∧ z47.toInt ≤ 31) ∧ (0 ≤ (u44_ 0).toInt ∧ (u44_ 0).toInt ≤ 833) ∧ (0 ≤ (u44_ 1).toInt ∧ (u44_ 1).toInt ≤ 1250) ∧ (zW (0 < x2.toInt → 0 ≤ x1.toInt → x1.toInt ≤ 399 → zAp f1 f2 f3 f4 f5 f6 (v0 8).toInt (v0 9).toInt (v0 10).toInt (v0 11).toInt (a44_ 3) (a44_ 2) (a44_ 4) (a44_ 5) (a44_ 1) (a44_ 0) (u44_ 0).toInt (u44_ 1).toInt (u44_ 2).toInt (u44_ 3).toInt ((x1 : Int32)).toNatClampNeg (zA2 x2.toInt z47.toInt))) ∧ (-1 ≤ z47.toInt) ∧ (z47.toInt < r1_.toInt) ∧ (zPhi (a44_ 2) (a44_ 1) (a44_ 0) (u44_ 1).toInt (u44_ 0).toInt) := ⟨hP, hD, hS, lv_sub hl [1, 2, 3, 4, 0] rfl, ha44_2, ha44_1, (by first | with_reducible assumption | exact ⟨by omega, by omega⟩), (by first | with_reducible assumption | exact ⟨by omega, by omega⟩), (by first | with_reducible assumption | exact ⟨by omega, by omega⟩), by first | exact fun q0 q1 q2 => zAp_e (zAp_t (hI31_0 q0 q1 q2) (hB44_1 q1 q2 (zbit e_z41 e_z43 (by omega) (by omega) (by omega)).1)) (zA2_s (by omega) (by omega) (by omega) (zbit e_z41 e_z43 (by omega) (by omega) (by omega)).2) | exact fun q0 q1 q2 => zAp_e (hI8_0 q0 q1 q2) (zA2_0 (by omega) (by omega)), by omega, by omega, by assumption⟩
          exact hJ31 H locs ls (fun i => ([z47, (u44_ 0), (u44_ 1), (u44_ 2), (u44_ 3)] : List (Int32)).getD i 0) (fun _ => 0) (fun i => ([(a44_ 3), (a44_ 2), (a44_ 4), (a44_ 5), (a44_ 1), (a44_ 0)] : List (Nat → Int32)).getD i (fun _ => 0)) (fun _ => (fun _ => 0)) hc (show (z47.toInt - (-1)).toNat < ((u31_ 0).toInt - (-1)).toNat from by omega)
      · skip
        have b_ : -2147483648 ≤ x1.toInt ∧ x1.toInt ≤ 2147483647 := ⟨zlo _, zhi _⟩
        have b_ : -2147483648 ≤ x2.toInt ∧ x2.toInt ≤ 2147483647 := ⟨zlo _, zhi _⟩
        have hc : va_P (dC, dI) vwCl [(h0, .inr (6, mX6 h1 h2 h3 h4 h5 h6 h7 h8 (upd (upd (upd (upd v0 8 (u8_ 1)) 9 (u8_ 2)) 10 (u8_ 3)) 11 (u8_ 4)))), (h6, zi k6 400 (a8_ 5)), (h5, zi k5 400 (a8_ 4)), (h2, zi k2 833 (a8_ 1)), (h1, zi k1 1250 (a8_ 0)), (h3, zi k3 833 (a8_ 2)), (h4, zi k4 400 (a8_ 3))] H ∧ va_D A [(h0, .inr (6, mX6 h1 h2 h3 h4 h5 h6 h7 h8 (upd (upd (upd (upd v0 8 (u8_ 1)) 9 (u8_ 2)) 10 (u8_ 3)) 11 (u8_ 4)))), (h6, zi k6 400 (a8_ 5)), (h5, zi k5 400 (a8_ 4)), (h2, zi k2 833 (a8_ 1)), (h1, zi k1 1250 (a8_ 0)), (h3, zi k3 833 (a8_ 2)), (h4, zi k4 400 (a8_ 3))] ∧ va_S A s.heap H locs ∧ lv_has ls 5 [(0, .ref h0), (1, .int x1), (2, .int x2), (3, .int r1_), (4, .int z28)] ∧ zA 0 1250 (a8_ 1) ∧ zA 0 832 (a8_ 4) ∧ ((-1) ≤ z28.toInt ∧ z28.toInt ≤ 31) ∧ (0 ≤ (u8_ 1).toInt ∧ (u8_ 1).toInt ≤ 833) ∧ (0 ≤ (u8_ 2).toInt ∧ (u8_ 2).toInt ≤ 1250) ∧ (zW (0 < x2.toInt → 0 ≤ x1.toInt → x1.toInt ≤ 399 → zAp f1 f2 f3 f4 f5 f6 (v0 8).toInt (v0 9).toInt (v0 10).toInt (v0 11).toInt (a8_ 0) (a8_ 1) (a8_ 2) (a8_ 3) (a8_ 4) (a8_ 5) (u8_ 1).toInt (u8_ 2).toInt (u8_ 3).toInt (u8_ 4).toInt ((x1 : Int32)).toNatClampNeg (zA2 x2.toInt z28.toInt))) ∧ (-1 ≤ z28.toInt) ∧ (z28.toInt < r1_.toInt) ∧ (zPhi (a8_ 1) (a8_ 4) (a8_ 5) (u8_ 2).toInt (u8_ 1).toInt) := ⟨hP, hD, hS, lv_sub hl [1, 2, 3, 4, 0] rfl, ha8_1, ha8_4, (by first | with_reducible assumption | exact ⟨by omega, by omega⟩), (by first | with_reducible assumption | exact ⟨by omega, by omega⟩), (by first | with_reducible assumption | exact ⟨by omega, by omega⟩), by first | exact fun q0 q1 q2 => zAp_e (zAp_t (hI31_0 q0 q1 q2) (hB44_1 q1 q2 (zbit e_z41 e_z43 (by omega) (by omega) (by omega)).1)) (zA2_s (by omega) (by omega) (by omega) (zbit e_z41 e_z43 (by omega) (by omega) (by omega)).2) | exact fun q0 q1 q2 => zAp_e (hI8_0 q0 q1 q2) (zA2_0 (by omega) (by omega)), by omega, by omega, by assumption⟩
        exact hJ31 H locs ls (fun i => ([z28, (u8_ 1), (u8_ 2), (u8_ 3), (u8_ 4)] : List (Int32)).getD i 0) (fun _ => 0) (fun i => ([(a8_ 0), (a8_ 1), (a8_ 2), (a8_ 3), (a8_ 4), (a8_ 5)] : List (Nat → Int32)).getD i (fun _ => 0)) (fun _ => (fun _ => 0)) hc
    · skip
      have b_ := zF_ge rfl rfl c_
      refine lv_aload_n hx hb dX6_append_14 rfl (lv_at hl 0 rfl) ?_
      refine lv_iload_n hx hb dX6_append_15 rfl (lv_at hl 1 rfl) ?_
      refine lv_iconst (v := 0) hx hb dX6_append_16 (by decide) ?_
      have b_ : -2147483648 ≤ (u8_ 3).toInt ∧ (u8_ 3).toInt ≤ 2147483647 := ⟨zlo _, zhi _⟩
      have b_ : -2147483648 ≤ (u8_ 4).toInt ∧ (u8_ 4).toInt ≤ 2147483647 := ⟨zlo _, zhi _⟩
      have hPc := hP.sub (ws' := [(h0, .inr (6, mX6 h1 h2 h3 h4 h5 h6 h7 h8 (upd (upd (upd (upd v0 8 (u8_ 1)) 9 (u8_ 2)) 10 (u8_ 3)) 11 (u8_ 4)))), (h6, zi k6 400 (a8_ 5)), (h5, zi k5 400 (a8_ 4)), (h2, zi k2 833 (a8_ 1)), (h1, zi k1 1250 (a8_ 0)), (h3, zi k3 833 (a8_ 2)), (h4, zi k4 400 (a8_ 3))]) [0, 1, 2, 3, 4, 5, 6] rfl
      have hDc := hD.sub (ws' := [(h0, .inr (6, mX6 h1 h2 h3 h4 h5 h6 h7 h8 (upd (upd (upd (upd v0 8 (u8_ 1)) 9 (u8_ 2)) 10 (u8_ 3)) 11 (u8_ 4)))), (h6, zi k6 400 (a8_ 5)), (h5, zi k5 400 (a8_ 4)), (h2, zi k2 833 (a8_ 1)), (h1, zi k1 1250 (a8_ 0)), (h3, zi k3 833 (a8_ 2)), (h4, zi k4 400 (a8_ 3))]) [0, 1, 2, 3, 4, 5, 6] (by decide) rfl
      have hKc := hK.sub (tys' := [(k6, .int), (k5, .int), (k2, .int), (k1, .int), (k3, .int), (k4, .int)]) [0, 1, 2, 3, 4, 5] rfl
      have hFc := va_free (wc := [(h0, .inr (6, mX6 h1 h2 h3 h4 h5 h6 h7 h8 (upd (upd (upd (upd v0 8 (u8_ 1)) 9 (u8_ 2)) 10 (u8_ 3)) 11 (u8_ 4)))), (h6, zi k6 400 (a8_ 5)), (h5, zi k5 400 (a8_ 4)), (h2, zi k2 833 (a8_ 1)), (h1, zi k1 1250 (a8_ 0)), (h3, zi k3 833 (a8_ 2)), (h4, zi k4 400 (a8_ 3))]) hD hS hA [0, 1, 2, 3, 4, 5, 6] rfl
      refine va_callv (va_runV (As := [.int x1, .int 0]) (rest := []) ⟨hx, hb, hml, hown, hG⟩ (sX6_appendBit_0 l dC dI adK adV h0 h6 h5 h2 h1 h3 h4 h7 h8 k6 k5 k2 k1 k3 k4 H.size (upd (upd (upd (upd v0 8 (u8_ 1)) 9 (u8_ 2)) 10 (u8_ 3)) 11 (u8_ 4)) (a8_ 5) (a8_ 4) (a8_ 1) (a8_ 0) (a8_ 2) (a8_ 3) x1 0 (zR_updF (zR_updF (zR_up2 (zR_up2 hv0 8 (show (0 : Int) ≤ ((u8_ 1) : Int32).toInt ∧ ((u8_ 1) : Int32).toInt ≤ (833 : Int) from (by first | with_reducible assumption | exact ⟨by omega, by omega⟩))) 9 (show (0 : Int) ≤ ((u8_ 2) : Int32).toInt ∧ ((u8_ 2) : Int32).toInt ≤ (1250 : Int) from (by first | with_reducible assumption | exact ⟨by omega, by omega⟩))) 10 rfl) 11 rfl) ha8_4 ha8_1 (show zPhi (a8_ 1) (a8_ 4) (a8_ 5) (u8_ 2).toInt (u8_ 1).toInt from by first | with_reducible assumption | assumption)) (cwV 2 hG (zgV zv839 zv841 zv7 zv133 zv842) rfl rfl rfl (by decide +kernel) ⟨Nat.le_of_ble_eq_true rfl, Nat.le_of_ble_eq_true rfl⟩) ⟨zPc_blind, va_recv hKc hPc (ci := 6) (q0 := 0) rfl rfl, zPc_pre hPc hKc hDc hE hS hFc hZ⟩ rfl rfl hl.1 rfl (lv_room (Nat.le_of_ble_eq_true rfl)) dX6_append_17 ⟨Nat.le_of_ble_eq_true rfl, Nat.le_of_ble_eq_true rfl⟩) hS (fun q _ h => hFc q h) hFc (fun u17_ t H1 locs ht hvm hw hB hz1 hk1 hS => ?_)
      replace hw : (0 ≤ (u17_ 0).toInt ∧ (u17_ 0).toInt ≤ 833) ∧ (0 ≤ (u17_ 1).toInt ∧ (u17_ 1).toInt ≤ 1250) := hw
      obtain ⟨b_, b_⟩ := hw
      obtain ⟨w17_, a17_, b17_, ha17_1, ha17_2, hB17_0, hB17_1, hP1, hK1, hD1⟩ := hB
      have hB17_0 : zPhi (a17_ 2) (a17_ 1) (a17_ 0) (u17_ 1).toInt (u17_ 0).toInt := hB17_0
      have hB17_1 : zW (0 ≤ x1.toInt → x1.toInt ≤ 399 → ((0 : Int32).toInt = 0 ∨ (0 : Int32).toInt = 1) → zAp (a8_ 0) (a8_ 1) (a8_ 2) (a8_ 3) (a8_ 4) (a8_ 5) (u8_ 1).toInt (u8_ 2).toInt (u8_ 3).toInt (u8_ 4).toInt (a17_ 3) (a17_ 2) (a17_ 4) (a17_ 5) (a17_ 1) (a17_ 0) (u17_ 0).toInt (u17_ 1).toInt (u17_ 2).toInt (u17_ 3).toInt ((x1 : Int32)).toNatClampNeg [decide ((0 : Int32).toInt = 1)]) := hB17_1
      rw [ht] at hP1
      obtain ⟨hP, hD⟩ := va_join (wr := []) (w1 := [(h0, .inr (6, mX6 h1 h2 h3 h4 h5 h6 h7 h8 (upd (upd (upd (upd v0 8 (u17_ 0)) 9 (u17_ 1)) 10 (u17_ 2)) 11 (u17_ 3)))), (h6, zi k6 400 (a17_ 0)), (h5, zi k5 400 (a17_ 1)), (h2, zi k2 833 (a17_ 2)), (h1, zi k1 1250 (a17_ 3)), (h3, zi k3 833 (a17_ 4)), (h4, zi k4 400 (a17_ 5))]) hP hD [0, 1, 2, 3, 4, 5, 6] [] rfl rfl (by decide) (by decide) hk1 hFc hP1 hD1
      have hP : va_P (dC, dI) vwCl [(h0, .inr (6, mX6 h1 h2 h3 h4 h5 h6 h7 h8 (upd (upd (upd (upd v0 8 (u17_ 0)) 9 (u17_ 1)) 10 (u17_ 2)) 11 (u17_ 3)))), (h6, zi k6 400 (a17_ 0)), (h5, zi k5 400 (a17_ 1)), (h2, zi k2 833 (a17_ 2)), (h1, zi k1 1250 (a17_ 3)), (h3, zi k3 833 (a17_ 4)), (h4, zi k4 400 (a17_ 5))] H1 := hP.sub [0, 1, 2, 3, 4, 5, 6] rfl
      have hD : va_D A [(h0, .inr (6, mX6 h1 h2 h3 h4 h5 h6 h7 h8 (upd (upd (upd (upd v0 8 (u17_ 0)) 9 (u17_ 1)) 10 (u17_ 2)) 11 (u17_ 3)))), (h6, zi k6 400 (a17_ 0)), (h5, zi k5 400 (a17_ 1)), (h2, zi k2 833 (a17_ 2)), (h1, zi k1 1250 (a17_ 3)), (h3, zi k3 833 (a17_ 4)), (h4, zi k4 400 (a17_ 5))] := hD.sub [0, 1, 2, 3, 4, 5, 6] (by decide) rfl
      generalize H1 = H at hP hS ⊢
      clear hz1
      obtain ⟨z20, e_z20⟩ : ∃ z : Int32, z = (u8_ 0) + Int32.ofInt 1 := ⟨_, rfl⟩
      have b_ := zadd (x := (u8_ 0)) (y := Int32.ofInt 1) rfl (show (Int32.ofInt 1).toInt = 1 from by decide) e_z20 (by omega) (by omega)
      refine lv_iinc (v := z20) (lv' := [(4, .int z20), (0, .ref h0), (1, .int x1), (2, .int x2), (3, .int r1_)]) hx hb dX6_append_20 hl (k := 4) rfl e_z20.symm (by decide) rfl (fun ls hl => ?_)
      refine lv_goto (tgt := 8) hx hb dX6_append_23 (by decide) ?_
      have b_ : -2147483648 ≤ x1.toInt ∧ x1.toInt ≤ 2147483647 := ⟨zlo _, zhi _⟩
      have b_ : -2147483648 ≤ x2.toInt ∧ x2.toInt ≤ 2147483647 := ⟨zlo _, zhi _⟩
      have hc : va_P (dC, dI) vwCl [(h0, .inr (6, mX6 h1 h2 h3 h4 h5 h6 h7 h8 (upd (upd (upd (upd v0 8 (u17_ 0)) 9 (u17_ 1)) 10 (u17_ 2)) 11 (u17_ 3)))), (h6, zi k6 400 (a17_ 0)), (h5, zi k5 400 (a17_ 1)), (h2, zi k2 833 (a17_ 2)), (h1, zi k1 1250 (a17_ 3)), (h3, zi k3 833 (a17_ 4)), (h4, zi k4 400 (a17_ 5))] H ∧ va_D A [(h0, .inr (6, mX6 h1 h2 h3 h4 h5 h6 h7 h8 (upd (upd (upd (upd v0 8 (u17_ 0)) 9 (u17_ 1)) 10 (u17_ 2)) 11 (u17_ 3)))), (h6, zi k6 400 (a17_ 0)), (h5, zi k5 400 (a17_ 1)), (h2, zi k2 833 (a17_ 2)), (h1, zi k1 1250 (a17_ 3)), (h3, zi k3 833 (a17_ 4)), (h4, zi k4 400 (a17_ 5))] ∧ va_S A s.heap H locs ∧ lv_has ls 5 [(0, .ref h0), (1, .int x1), (2, .int x2), (3, .int r1_), (4, .int z20)] ∧ zA 0 1250 (a17_ 2) ∧ zA 0 832 (a17_ 1) ∧ (1 ≤ z20.toInt ∧ z20.toInt ≤ 32) ∧ (0 ≤ (u17_ 0).toInt ∧ (u17_ 0).toInt ≤ 833) ∧ (0 ≤ (u17_ 1).toInt ∧ (u17_ 1).toInt ≤ 1250) ∧ (zW (0 < x2.toInt → 0 ≤ x1.toInt → x1.toInt ≤ 399 → zAp f1 f2 f3 f4 f5 f6 (v0 8).toInt (v0 9).toInt (v0 10).toInt (v0 11).toInt (a17_ 3) (a17_ 2) (a17_ 4) (a17_ 5) (a17_ 1) (a17_ 0) (u17_ 0).toInt (u17_ 1).toInt (u17_ 2).toInt (u17_ 3).toInt ((x1 : Int32)).toNatClampNeg (zA1 x2.toInt z20.toInt))) ∧ (1 ≤ z20.toInt) ∧ (z20.toInt = 1 ∨ z20.toInt ≤ r1_.toInt) ∧ (zPhi (a17_ 2) (a17_ 1) (a17_ 0) (u17_ 1).toInt (u17_ 0).toInt) := ⟨hP, hD, hS, lv_sub hl [1, 2, 3, 4, 0] rfl, ha17_2, ha17_1, (by first | with_reducible assumption | exact ⟨by omega, by omega⟩), (by first | with_reducible assumption | exact ⟨by omega, by omega⟩), (by first | with_reducible assumption | exact ⟨by omega, by omega⟩), by first | exact fun q0 q1 q2 => zAp_e (zAp_t (hI8_0 q0 q1 q2) (hB17_1 q1 q2 (Or.inl (by decide)))) (zA1_s (by omega) (by omega)) | exact fun _ _ _ => zAp_e zAp_0 rfl, by omega, by omega, by assumption⟩
      exact hJ8 H locs ls (fun i => ([z20, (u17_ 0), (u17_ 1), (u17_ 2), (u17_ 3)] : List (Int32)).getD i 0) (fun _ => 0) (fun i => ([(a17_ 3), (a17_ 2), (a17_ 4), (a17_ 5), (a17_ 1), (a17_ 0)] : List (Nat → Int32)).getD i (fun _ => 0)) (fun _ => (fun _ => 0)) hc (show (32 - z20.toInt).toNat < (32 - (u8_ 0).toInt).toNat from by omega)
  · skip
    have b_ : -2147483648 ≤ x1.toInt ∧ x1.toInt ≤ 2147483647 := ⟨zlo _, zhi _⟩
    have b_ : -2147483648 ≤ x2.toInt ∧ x2.toInt ≤ 2147483647 := ⟨zlo _, zhi _⟩
    have hc : va_P (dC, dI) vwCl [(h0, .inr (6, mX6 h1 h2 h3 h4 h5 h6 h7 h8 (upd (upd (upd (upd v0 8 (v0 8)) 9 (v0 9)) 10 (v0 10)) 11 (v0 11)))), (h6, zi k6 400 f6), (h5, zi k5 400 f5), (h2, zi k2 833 f2), (h1, zi k1 1250 f1), (h3, zi k3 833 f3), (h4, zi k4 400 f4)] H ∧ va_D A [(h0, .inr (6, mX6 h1 h2 h3 h4 h5 h6 h7 h8 (upd (upd (upd (upd v0 8 (v0 8)) 9 (v0 9)) 10 (v0 10)) 11 (v0 11)))), (h6, zi k6 400 f6), (h5, zi k5 400 f5), (h2, zi k2 833 f2), (h1, zi k1 1250 f1), (h3, zi k3 833 f3), (h4, zi k4 400 f4)] ∧ va_S A s.heap H locs ∧ lv_has ls 5 [(0, .ref h0), (1, .int x1), (2, .int x2), (3, .int r1_), (4, .int 1)] ∧ zA 0 1250 f2 ∧ zA 0 832 f5 ∧ (1 ≤ (1 : Int32).toInt ∧ (1 : Int32).toInt ≤ 32) ∧ (0 ≤ (v0 8).toInt ∧ (v0 8).toInt ≤ 833) ∧ (0 ≤ (v0 9).toInt ∧ (v0 9).toInt ≤ 1250) ∧ (zW (0 < x2.toInt → 0 ≤ x1.toInt → x1.toInt ≤ 399 → zAp f1 f2 f3 f4 f5 f6 (v0 8).toInt (v0 9).toInt (v0 10).toInt (v0 11).toInt f1 f2 f3 f4 f5 f6 (v0 8).toInt (v0 9).toInt (v0 10).toInt (v0 11).toInt ((x1 : Int32)).toNatClampNeg (zA1 x2.toInt (1 : Int32).toInt))) ∧ (1 ≤ (1 : Int32).toInt) ∧ ((1 : Int32).toInt = 1 ∨ (1 : Int32).toInt ≤ r1_.toInt) ∧ (zPhi f2 f5 f6 (v0 9).toInt (v0 8).toInt) := ⟨hP, hD, hS, lv_sub hl [2, 3, 4, 1, 0] rfl, hf2, hf5, (by first | with_reducible assumption | exact ⟨by omega, by omega⟩), (by first | with_reducible assumption | exact ⟨by omega, by omega⟩), (by first | with_reducible assumption | exact ⟨by omega, by omega⟩), by first | exact fun q0 q1 q2 => zAp_e (zAp_t (hI8_0 q0 q1 q2) (hB17_1 q1 q2 (Or.inl (by decide)))) (zA1_s (by omega) (by omega)) | exact fun _ _ _ => zAp_e zAp_0 rfl, by omega, by omega, by assumption⟩
    exact hJ8 H locs ls (fun i => ([1, (v0 8), (v0 9), (v0 10), (v0 11)] : List (Int32)).getD i 0) (fun _ => 0) (fun i => ([f1, f2, f3, f4, f5, f6] : List (Nat → Int32)).getD i (fun _ => 0)) (fun _ => (fun _ => 0)) hc
set_option maxHeartbeats 8000000 in
set_option maxRecDepth 100000 in
theorem sX6_startDocument_0 (l : Launch) (dC : Nat → ClassId) (dI : Nat → Nat → Nat) (adK adV : Nat → Nat) (h0 : Nat) (h8 : Nat) (h6 : Nat) (h5 : Nat) (h2 : Nat) (h1 : Nat) (h3 : Nat) (h4 : Nat) (h7 : Nat) (k8 : ClassId) (k6 : ClassId) (k5 : ClassId) (k2 : ClassId) (k1 : ClassId) (k3 : ClassId) (k4 : ClassId) (k7 : ClassId) (sz : Nat) (v0 : Nat → Int32) (f8 : Nat → Int32) (f6 : Nat → Int32) (f5 : Nat → Int32) (f2 : Nat → Int32) (f1 : Nat → Int32) (f3 : Nat → Int32) (f4 : Nat → Int32) (f7 : Nat → Int32) (x1 : Int32) (x2 : Int32) (x3 : Int32) (hv0 : zR rg_Postings v0) (hf5 : zA 0 832 f5) (hf2 : zA 0 1250 f2) (hp0_ : zPhi f2 f5 f6 (v0 9).toInt (v0 8).toInt) : Met l yX6_startDocument (zw yX6_startDocument cX6_startDocument 4 none) { frames := 4, cells := 0, slots := 0, locals := 91 } (zPc dC dI adK adV [.ref h0, .int x1, .int x2, .int x3] sz [(h0, .inr (6, mX6 h1 h2 h3 h4 h5 h6 h7 h8 v0)), (h8, zi k8 400 f8), (h6, zi k6 400 f6), (h5, zi k5 400 f5), (h2, zi k2 833 f2), (h1, zi k1 1250 f1), (h3, zi k3 833 f3), (h4, zi k4 400 f4), (h7, zi k7 400 f7)] [(k8, .int), (k6, .int), (k5, .int), (k2, .int), (k1, .int), (k3, .int), (k4, .int), (k7, .int)]) (va_Qv (fun (u : Nat → Int32) => (0 ≤ (u 0).toInt ∧ (u 0).toInt ≤ 833) ∧ (0 ≤ (u 1).toInt ∧ (u 1).toInt ≤ 1250)) (fun (u : Nat → Int32) (t : State) => ∃ (ww : Nat → Int64) (aa : Nat → Nat → Int32) (bb : Nat → Nat → Int64), zA 0 832 (aa 2) ∧ zA 0 1250 (aa 3) ∧ (zPhi (aa 3) (aa 2) (aa 1) (u 1).toInt (u 0).toInt) ∧ (zW (0 ≤ x1.toInt → x1.toInt ≤ 399 → 0 ≤ (f8 ((x1 : Int32)).toNatClampNeg).toInt → (f8 ((x1 : Int32)).toNatClampNeg).toInt ≤ x2.toInt → x2.toInt ≤ 1000 → 0 < x3.toInt → zAp f1 f2 f3 f4 f5 f6 (v0 8).toInt (v0 9).toInt (v0 10).toInt (v0 11).toInt (aa 4) (aa 3) (aa 5) (aa 6) (aa 2) (aa 1) (u 0).toInt (u 1).toInt (u 2).toInt (u 3).toInt ((x1 : Int32)).toNatClampNeg (zGa (x2.toInt + 1 - (f8 ((x1 : Int32)).toNatClampNeg).toInt).toNat ++ zGa (x3.toInt).toNat))) ∧ (zW (0 ≤ x1.toInt → x1.toInt ≤ 399 → 0 ≤ x2.toInt → x2.toInt ≤ 1000 → zUi f8 (aa 0) ((x1 : Int32)).toNatClampNeg (x2.toInt + 1))) ∧ (zW (0 ≤ x1.toInt → x1.toInt ≤ 399 → 0 ≤ (f7 ((x1 : Int32)).toNatClampNeg).toInt → (f7 ((x1 : Int32)).toNatClampNeg).toInt ≤ 1000 → zUi f7 (aa 7) ((x1 : Int32)).toNatClampNeg ((f7 ((x1 : Int32)).toNatClampNeg).toInt + 1))) ∧ va_P (dC, dI) vwCl [(h0, .inr (6, mX6 h1 h2 h3 h4 h5 h6 h7 h8 (upd (upd (upd (upd v0 8 (u 0)) 9 (u 1)) 10 (u 2)) 11 (u 3)))), (h8, zi k8 400 (aa 0)), (h6, zi k6 400 (aa 1)), (h5, zi k5 400 (aa 2)), (h2, zi k2 833 (aa 3)), (h1, zi k1 1250 (aa 4)), (h3, zi k3 833 (aa 5)), (h4, zi k4 400 (aa 6)), (h7, zi k7 400 (aa 7))] t.heap ∧ va_K (dC, dI) vwCl [(k8, .int), (k6, .int), (k5, .int), (k2, .int), (k1, .int), (k3, .int), (k4, .int), (k7, .int)] t ∧ va_D (va_A [(h0, .inr (6, mX6 h1 h2 h3 h4 h5 h6 h7 h8 v0)), (h8, zi k8 400 f8), (h6, zi k6 400 f6), (h5, zi k5 400 f5), (h2, zi k2 833 f2), (h1, zi k1 1250 f1), (h3, zi k3 833 f3), (h4, zi k4 400 f4), (h7, zi k7 400 f7)] sz) [(h0, .inr (6, mX6 h1 h2 h3 h4 h5 h6 h7 h8 (upd (upd (upd (upd v0 8 (u 0)) 9 (u 1)) 10 (u 2)) 11 (u 3)))), (h8, zi k8 400 (aa 0)), (h6, zi k6 400 (aa 1)), (h5, zi k5 400 (aa 2)), (h2, zi k2 833 (aa 3)), (h1, zi k1 1250 (aa 4)), (h3, zi k3 833 (aa 5)), (h4, zi k4 400 (aa 6)), (h7, zi k7 400 (aa 7))]) (va_A [(h0, .inr (6, mX6 h1 h2 h3 h4 h5 h6 h7 h8 v0)), (h8, zi k8 400 f8), (h6, zi k6 400 f6), (h5, zi k5 400 f5), (h2, zi k2 833 f2), (h1, zi k1 1250 f1), (h3, zi k3 833 f3), (h4, zi k4 400 f4), (h7, zi k7 400 f7)] sz)) 0 0 (va_A [(h0, .inr (6, mX6 h1 h2 h3 h4 h5 h6 h7 h8 v0)), (h8, zi k8 400 f8), (h6, zi k6 400 f6), (h5, zi k5 400 f5), (h2, zi k2 833 f2), (h1, zi k1 1250 f1), (h3, zi k3 833 f3), (h4, zi k4 400 f4), (h7, zi k7 400 f7)] sz) := by
  refine Met.ofW (cc := cX6_startDocument) (maxL := 4) (ret := none) (by decide) rfl ?_
  intro p e s m args below meth c s₁ B hml hv
  obtain ⟨rfl, hsz, hP, hK, hD0, hE, hZ⟩ := hv
  have hx := B.exec
  have hb := B.bytes
  have hr := B.returns
  have hG : ∀ w ∈ zG, w.before _ s = true := fun w h => atoms_spec (ws := (zw yX6_startDocument cX6_startDocument 4 none)) B.pre w (List.mem_cons_of_mem _ h)
  have hown : s.vm.findClass RX6 = some m.cls := findClass_of_methodNamed B.named
  have hlocks := B.notSynchronized

  subst hsz
  have hD := hD0.self (sz := s.heap.size)
  generalize hAe : va_A [(h0, .inr (6, mX6 h1 h2 h3 h4 h5 h6 h7 h8 v0)), (h8, zi k8 400 f8), (h6, zi k6 400 f6), (h5, zi k5 400 f5), (h2, zi k2 833 f2), (h1, zi k1 1250 f1), (h3, zi k3 833 f3), (h4, zi k4 400 f4), (h7, zi k7 400 f7)] s.heap.size = A at hD hZ ⊢
  have hA : ∀ q : Nat, s.heap.size ≤ q → A q := fun q h => by rw [← hAe]; exact Or.inr h
  have hS : va_S A s.heap s.heap [] := va_S.rf
  have hl := lv_entry ([.ref h0, .int x1, .int x2, .int x3]) (n := 4) (Nat.le_of_ble_eq_true rfl)
  rw [lg_entry_eq]
  generalize (lg_sl ([.ref h0, .int x1, .int x2, .int x3]) ++ List.replicate (4 - (lg_sl ([.ref h0, .int x1, .int x2, .int x3])).length) Slot.unset).toArray = ls at hl ⊢
  have hl : lv_has ls 4 [(0, .ref h0), (1, .int x1), (2, .int x2), (3, .int x3)] := hl
  have b_ : 0 ≤ (v0 9).toInt ∧ (v0 9).toInt ≤ 1250 := hv0 9
  have b_ : 0 ≤ (v0 8).toInt ∧ (v0 8).toInt ≤ 833 := hv0 8
  refine lv_iload_n hx hb dX6_startDocument_0 rfl (lv_at hl 1 rfl) ?_
  have hPc := hP.sub (ws' := []) [] rfl
  have hDc := hD.sub (ws' := []) [] (by decide) rfl
  have hKc := hK.sub (tys' := []) [] rfl
  have hFc := va_free (wc := []) hD hS hA [] rfl
  refine va_calli (va_runS (As := [.int x1]) (rest := []) ⟨hx, hb, hml, hown, hG⟩ (sX6_isId_0 l dC dI adK adV s.heap.size x1) (va_cwS 1 hG (zgS zv775 zv776 zv133 zv777) rfl rfl rfl (by decide +kernel) ⟨Nat.le_of_ble_eq_true rfl, Nat.le_of_ble_eq_true rfl⟩) ⟨zPc_blind, zPc_pre hPc hKc hDc hE hS hFc hZ⟩ rfl rfl hl.1 rfl (lv_room (Nat.le_of_ble_eq_true rfl)) dX6_startDocument_1 ⟨Nat.le_of_ble_eq_true rfl, Nat.le_of_ble_eq_true rfl⟩) hS (fun q _ h => hFc q h) hFc (fun r1_ u1_ t H1 locs ht hvm hw hB hz1 hk1 hS => ?_)
  replace hw : (0 ≤ r1_.toInt ∧ r1_.toInt ≤ 1) ∧ (r1_.toInt = 1 → (0 ≤ x1.toInt ∧ x1.toInt ≤ 399)) ∧ (r1_.toInt = 0 → x1.toInt < 0 ∨ 399 < x1.toInt) := hw
  obtain ⟨b_, hX1_0, hX1_1⟩ := hw
  obtain ⟨w1_, a1_, b1_, hP1, hK1, hD1⟩ := hB
  rw [ht] at hP1
  obtain ⟨hP, hD⟩ := va_join (wr := [(h0, .inr (6, mX6 h1 h2 h3 h4 h5 h6 h7 h8 v0)), (h8, zi k8 400 f8), (h6, zi k6 400 f6), (h5, zi k5 400 f5), (h2, zi k2 833 f2), (h1, zi k1 1250 f1), (h3, zi k3 833 f3), (h4, zi k4 400 f4), (h7, zi k7 400 f7)]) (w1 := []) hP hD [] [0, 1, 2, 3, 4, 5, 6, 7, 8] rfl rfl (by decide) (by decide) hk1 hFc hP1 hD1
  have hP : va_P (dC, dI) vwCl [(h0, .inr (6, mX6 h1 h2 h3 h4 h5 h6 h7 h8 v0)), (h8, zi k8 400 f8), (h6, zi k6 400 f6), (h5, zi k5 400 f5), (h2, zi k2 833 f2), (h1, zi k1 1250 f1), (h3, zi k3 833 f3), (h4, zi k4 400 f4), (h7, zi k7 400 f7)] H1 := hP.sub [0, 1, 2, 3, 4, 5, 6, 7, 8] rfl
  have hD : va_D A [(h0, .inr (6, mX6 h1 h2 h3 h4 h5 h6 h7 h8 v0)), (h8, zi k8 400 f8), (h6, zi k6 400 f6), (h5, zi k5 400 f5), (h2, zi k2 833 f2), (h1, zi k1 1250 f1), (h3, zi k3 833 f3), (h4, zi k4 400 f4), (h7, zi k7 400 f7)] := hD.sub [0, 1, 2, 3, 4, 5, 6, 7, 8] (by decide) rfl
  generalize H1 = H at hP hS ⊢
  clear hz1
  refine lv_if_eq (tgt := 44) hx hb dX6_startDocument_4 (by decide) (fun c_ => ?_) (fun c_ => ?_)
  · skip
    have b_ := zT_eq rfl zk_0 c_
    refine W.widen (k := 0) (n := 0) (by decide) (by decide) ?_
    have b_ : -2147483648 ≤ (v0 10).toInt ∧ (v0 10).toInt ≤ 2147483647 := ⟨zlo _, zhi _⟩
    have b_ : -2147483648 ≤ (v0 11).toInt ∧ (v0 11).toInt ≤ 2147483647 := ⟨zlo _, zhi _⟩
    have hpost : (0 ≤ (v0 8).toInt ∧ (v0 8).toInt ≤ 833) ∧ (0 ≤ (v0 9).toInt ∧ (v0 9).toInt ≤ 1250) := ⟨(by first | with_reducible assumption | exact ⟨by omega, by omega⟩), (by first | with_reducible assumption | exact ⟨by omega, by omega⟩)⟩
    have hP9 : va_P (dC, dI) vwCl [(h0, .inr (6, mX6 h1 h2 h3 h4 h5 h6 h7 h8 (upd (upd (upd (upd v0 8 (v0 8)) 9 (v0 9)) 10 (v0 10)) 11 (v0 11)))), (h8, zi k8 400 f8), (h6, zi k6 400 f6), (h5, zi k5 400 f5), (h2, zi k2 833 f2), (h1, zi k1 1250 f1), (h3, zi k3 833 f3), (h4, zi k4 400 f4), (h7, zi k7 400 f7)] H := hP
    have hD9 : va_D A [(h0, .inr (6, mX6 h1 h2 h3 h4 h5 h6 h7 h8 (upd (upd (upd (upd v0 8 (v0 8)) 9 (v0 9)) 10 (v0 10)) 11 (v0 11)))), (h8, zi k8 400 f8), (h6, zi k6 400 f6), (h5, zi k5 400 f5), (h2, zi k2 833 f2), (h1, zi k1 1250 f1), (h3, zi k3 833 f3), (h4, zi k4 400 f4), (h7, zi k7 400 f7)] := hD
    have hB0 : zPhi f2 f5 f6 (v0 9).toInt (v0 8).toInt := by assumption
    have hB1 : zW (0 ≤ x1.toInt → x1.toInt ≤ 399 → 0 ≤ (f8 ((x1 : Int32)).toNatClampNeg).toInt → (f8 ((x1 : Int32)).toNatClampNeg).toInt ≤ x2.toInt → x2.toInt ≤ 1000 → 0 < x3.toInt → zAp f1 f2 f3 f4 f5 f6 (v0 8).toInt (v0 9).toInt (v0 10).toInt (v0 11).toInt f1 f2 f3 f4 f5 f6 (v0 8).toInt (v0 9).toInt (v0 10).toInt (v0 11).toInt ((x1 : Int32)).toNatClampNeg (zGa (x2.toInt + 1 - (f8 ((x1 : Int32)).toNatClampNeg).toInt).toNat ++ zGa (x3.toInt).toNat)) := by first | exact sd9 | (intro q1 q2; omega)
    have hB2 : zW (0 ≤ x1.toInt → x1.toInt ≤ 399 → 0 ≤ x2.toInt → x2.toInt ≤ 1000 → zUi f8 f8 ((x1 : Int32)).toNatClampNeg (x2.toInt + 1)) := by first | exact fun _ _ _ _ => zUi_i e_f_33 (zadd rfl zk_1 e_z32 (by omega) (by omega)) | (intro q1 q2; omega)
    have hB3 : zW (0 ≤ x1.toInt → x1.toInt ≤ 399 → 0 ≤ (f7 ((x1 : Int32)).toNatClampNeg).toInt → (f7 ((x1 : Int32)).toNatClampNeg).toInt ≤ 1000 → zUi f7 f7 ((x1 : Int32)).toNatClampNeg ((f7 ((x1 : Int32)).toNatClampNeg).toInt + 1)) := by first | exact fun _ _ q3 q4 => zUi_i e_f_43 (zadd (congrArg Int32.toInt e_z40) zk_1 e_z42 (by omega) (by omega)) | (intro q1 q2; omega)
    exact W.vret hx hb hr (fun t ht hW => ⟨⟨(fun i => ([(v0 8), (v0 9), (v0 10), (v0 11)] : List (Int32)).getD i 0), rfl, hpost, (fun _ => 0), (fun i => ([f8, f6, f5, f2, f1, f3, f4, f7] : List (Nat → Int32)).getD i (fun _ => 0)), (fun _ => (fun _ => 0)), hf5, hf2, hB0, hB1, hB2, hB3, by rw [ht]; exact hP9, va_K.moved hW.alike hK, hD9⟩, hS.F ht⟩) hS.2.2 dX6_startDocument_44
  · skip
    have b_ := zF_eq rfl zk_0 c_
    refine lv_aload_n hx hb dX6_startDocument_7 rfl (lv_at hl 0 rfl) ?_
    refine lv_iload_n hx hb dX6_startDocument_8 rfl (lv_at hl 1 rfl) ?_
    refine lv_iload_n hx hb dX6_startDocument_9 rfl (lv_at hl 2 rfl) ?_
    refine lv_aload_n hx hb dX6_startDocument_10 rfl (lv_at hl 0 rfl) ?_
    refine lv_iload_n hx hb dX6_startDocument_11 rfl (lv_at hl 1 rfl) ?_
    have hPc := hP.sub (ws' := [(h0, .inr (6, mX6 h1 h2 h3 h4 h5 h6 h7 h8 v0)), (h8, zi k8 400 f8)]) [0, 1] rfl
    have hDc := hD.sub (ws' := [(h0, .inr (6, mX6 h1 h2 h3 h4 h5 h6 h7 h8 v0)), (h8, zi k8 400 f8)]) [0, 1] (by decide) rfl
    have hKc := hK.sub (tys' := [(k8, .int)]) [0] rfl
    have hFc := va_free (wc := [(h0, .inr (6, mX6 h1 h2 h3 h4 h5 h6 h7 h8 v0)), (h8, zi k8 400 f8)]) hD hS hA [0, 1] rfl
    refine va_calli (va_runV (As := [.int x1]) (rest := [.int x2, .int x1, .ref h0]) ⟨hx, hb, hml, hown, hG⟩ (sX6_latestOf_0 l dC dI adK adV h0 h8 h1 h2 h3 h4 h5 h6 h7 k8 H.size v0 f8 x1 hv0) (cwV 1 hG (zgV zv834 zv779 zv780 zv133 zv781) rfl rfl rfl (by decide +kernel) ⟨Nat.le_of_ble_eq_true rfl, Nat.le_of_ble_eq_true rfl⟩) ⟨zPc_blind, va_recv hKc hPc (ci := 6) (q0 := 0) rfl rfl, zPc_pre hPc hKc hDc hE hS hFc hZ⟩ rfl rfl hl.1 rfl (lv_room (Nat.le_of_ble_eq_true rfl)) dX6_startDocument_12 ⟨Nat.le_of_ble_eq_true rfl, Nat.le_of_ble_eq_true rfl⟩) hS (fun q _ h => hFc q h) hFc (fun r12_ u12_ t H1 locs ht hvm hw hB hz1 hk1 hS => ?_)
    replace hw : (zW (0 ≤ x1.toInt → x1.toInt ≤ 399 → 0 ≤ (f8 ((x1 : Int32)).toNatClampNeg).toInt → r12_.toInt = (f8 ((x1 : Int32)).toNatClampNeg).toInt - 1)) := hw
    have hX12_0 := hw
    obtain ⟨w12_, a12_, b12_, hP1, hK1, hD1⟩ := hB
    rw [ht] at hP1
    obtain ⟨hP, hD⟩ := va_join (wr := [(h6, zi k6 400 f6), (h5, zi k5 400 f5), (h2, zi k2 833 f2), (h1, zi k1 1250 f1), (h3, zi k3 833 f3), (h4, zi k4 400 f4), (h7, zi k7 400 f7)]) (w1 := [(h0, .inr (6, mX6 h1 h2 h3 h4 h5 h6 h7 h8 v0)), (h8, zi k8 400 f8)]) hP hD [0, 1] [2, 3, 4, 5, 6, 7, 8] rfl rfl (by decide) (by decide) hk1 hFc hP1 hD1
    have hP : va_P (dC, dI) vwCl [(h0, .inr (6, mX6 h1 h2 h3 h4 h5 h6 h7 h8 v0)), (h8, zi k8 400 f8), (h6, zi k6 400 f6), (h5, zi k5 400 f5), (h2, zi k2 833 f2), (h1, zi k1 1250 f1), (h3, zi k3 833 f3), (h4, zi k4 400 f4), (h7, zi k7 400 f7)] H1 := hP.sub [7, 8, 0, 1, 2, 3, 4, 5, 6] rfl
    have hD : va_D A [(h0, .inr (6, mX6 h1 h2 h3 h4 h5 h6 h7 h8 v0)), (h8, zi k8 400 f8), (h6, zi k6 400 f6), (h5, zi k5 400 f5), (h2, zi k2 833 f2), (h1, zi k1 1250 f1), (h3, zi k3 833 f3), (h4, zi k4 400 f4), (h7, zi k7 400 f7)] := hD.sub [7, 8, 0, 1, 2, 3, 4, 5, 6] (by decide) rfl
    generalize H1 = H at hP hS ⊢
    clear hz1
    have b_ : -2147483648 ≤ x2.toInt ∧ x2.toInt ≤ 2147483647 := ⟨zlo _, zhi _⟩
    have b_ : -2147483648 ≤ r12_.toInt ∧ r12_.toInt ≤ 2147483647 := ⟨zlo _, zhi _⟩
    refine lv_isub hx hb dX6_startDocument_15 ?_
    refine lv_topi (fun z15 e_z15 => ?_)
    have hPc := hP.sub (ws' := [(h0, .inr (6, mX6 h1 h2 h3 h4 h5 h6 h7 h8 v0)), (h6, zi k6 400 f6), (h5, zi k5 400 f5), (h2, zi k2 833 f2), (h1, zi k1 1250 f1), (h3, zi k3 833 f3), (h4, zi k4 400 f4)]) [0, 2, 3, 4, 5, 6, 7] rfl
    have hDc := hD.sub (ws' := [(h0, .inr (6, mX6 h1 h2 h3 h4 h5 h6 h7 h8 v0)), (h6, zi k6 400 f6), (h5, zi k5 400 f5), (h2, zi k2 833 f2), (h1, zi k1 1250 f1), (h3, zi k3 833 f3), (h4, zi k4 400 f4)]) [0, 2, 3, 4, 5, 6, 7] (by decide) rfl
    have hKc := hK.sub (tys' := [(k6, .int), (k5, .int), (k2, .int), (k1, .int), (k3, .int), (k4, .int)]) [1, 2, 3, 4, 5, 6] rfl
    have hFc := va_free (wc := [(h0, .inr (6, mX6 h1 h2 h3 h4 h5 h6 h7 h8 v0)), (h6, zi k6 400 f6), (h5, zi k5 400 f5), (h2, zi k2 833 f2), (h1, zi k1 1250 f1), (h3, zi k3 833 f3), (h4, zi k4 400 f4)]) hD hS hA [0, 2, 3, 4, 5, 6, 7] rfl
    refine va_callv (va_runV (As := [.int x1, .int z15]) (rest := []) ⟨hx, hb, hml, hown, hG⟩ (sX6_append_0 l dC dI adK adV h0 h6 h5 h2 h1 h3 h4 h7 h8 k6 k5 k2 k1 k3 k4 H.size v0 f6 f5 f2 f1 f3 f4 x1 z15 hv0 hf5 hf2 (show zPhi f2 f5 f6 (v0 9).toInt (v0 8).toInt from by first | with_reducible assumption | assumption)) (cwV 2 hG (zgV zv835 zv836 zv837 zv133 zv838) rfl rfl rfl (by decide +kernel) ⟨Nat.le_of_ble_eq_true rfl, Nat.le_of_ble_eq_true rfl⟩) ⟨zPc_blind, va_recv hKc hPc (ci := 6) (q0 := 0) rfl rfl, zPc_pre hPc hKc hDc hE hS hFc hZ⟩ rfl rfl hl.1 rfl (lv_room (Nat.le_of_ble_eq_true rfl)) dX6_startDocument_16 ⟨Nat.le_of_ble_eq_true rfl, Nat.le_of_ble_eq_true rfl⟩) hS (fun q _ h => hFc q h) hFc (fun u16_ t H1 locs ht hvm hw hB hz1 hk1 hS => ?_)
    replace hw : (0 ≤ (u16_ 0).toInt ∧ (u16_ 0).toInt ≤ 833) ∧ (0 ≤ (u16_ 1).toInt ∧ (u16_ 1).toInt ≤ 1250) := hw
    obtain ⟨b_, b_⟩ := hw
    obtain ⟨w16_, a16_, b16_, ha16_1, ha16_2, hB16_0, hB16_1, hP1, hK1, hD1⟩ := hB
    have hB16_0 : zPhi (a16_ 2) (a16_ 1) (a16_ 0) (u16_ 1).toInt (u16_ 0).toInt := hB16_0
    have hB16_1 : zW (0 < z15.toInt → 0 ≤ x1.toInt → x1.toInt ≤ 399 → zAp f1 f2 f3 f4 f5 f6 (v0 8).toInt (v0 9).toInt (v0 10).toInt (v0 11).toInt (a16_ 3) (a16_ 2) (a16_ 4) (a16_ 5) (a16_ 1) (a16_ 0) (u16_ 0).toInt (u16_ 1).toInt (u16_ 2).toInt (u16_ 3).toInt ((x1 : Int32)).toNatClampNeg (zGa (z15.toInt).toNat)) := hB16_1
    rw [ht] at hP1
    obtain ⟨hP, hD⟩ := va_join (wr := [(h8, zi k8 400 f8), (h7, zi k7 400 f7)]) (w1 := [(h0, .inr (6, mX6 h1 h2 h3 h4 h5 h6 h7 h8 (upd (upd (upd (upd v0 8 (u16_ 0)) 9 (u16_ 1)) 10 (u16_ 2)) 11 (u16_ 3)))), (h6, zi k6 400 (a16_ 0)), (h5, zi k5 400 (a16_ 1)), (h2, zi k2 833 (a16_ 2)), (h1, zi k1 1250 (a16_ 3)), (h3, zi k3 833 (a16_ 4)), (h4, zi k4 400 (a16_ 5))]) hP hD [0, 2, 3, 4, 5, 6, 7] [1, 8] rfl rfl (by decide) (by decide) hk1 hFc hP1 hD1
    have hP : va_P (dC, dI) vwCl [(h0, .inr (6, mX6 h1 h2 h3 h4 h5 h6 h7 h8 (upd (upd (upd (upd v0 8 (u16_ 0)) 9 (u16_ 1)) 10 (u16_ 2)) 11 (u16_ 3)))), (h8, zi k8 400 f8), (h6, zi k6 400 (a16_ 0)), (h5, zi k5 400 (a16_ 1)), (h2, zi k2 833 (a16_ 2)), (h1, zi k1 1250 (a16_ 3)), (h3, zi k3 833 (a16_ 4)), (h4, zi k4 400 (a16_ 5)), (h7, zi k7 400 f7)] H1 := hP.sub [2, 0, 3, 4, 5, 6, 7, 8, 1] rfl
    have hD : va_D A [(h0, .inr (6, mX6 h1 h2 h3 h4 h5 h6 h7 h8 (upd (upd (upd (upd v0 8 (u16_ 0)) 9 (u16_ 1)) 10 (u16_ 2)) 11 (u16_ 3)))), (h8, zi k8 400 f8), (h6, zi k6 400 (a16_ 0)), (h5, zi k5 400 (a16_ 1)), (h2, zi k2 833 (a16_ 2)), (h1, zi k1 1250 (a16_ 3)), (h3, zi k3 833 (a16_ 4)), (h4, zi k4 400 (a16_ 5)), (h7, zi k7 400 f7)] := hD.sub [2, 0, 3, 4, 5, 6, 7, 8, 1] (by decide) rfl
    generalize H1 = H at hP hS ⊢
    clear hz1
    refine lv_aload_n hx hb dX6_startDocument_19 rfl (lv_at hl 0 rfl) ?_
    refine lv_iload_n hx hb dX6_startDocument_20 rfl (lv_at hl 1 rfl) ?_
    refine lv_iload_n hx hb dX6_startDocument_21 rfl (lv_at hl 3 rfl) ?_
    have b_ : -2147483648 ≤ (u16_ 2).toInt ∧ (u16_ 2).toInt ≤ 2147483647 := ⟨zlo _, zhi _⟩
    have b_ : -2147483648 ≤ (u16_ 3).toInt ∧ (u16_ 3).toInt ≤ 2147483647 := ⟨zlo _, zhi _⟩
    have hPc := hP.sub (ws' := [(h0, .inr (6, mX6 h1 h2 h3 h4 h5 h6 h7 h8 (upd (upd (upd (upd v0 8 (u16_ 0)) 9 (u16_ 1)) 10 (u16_ 2)) 11 (u16_ 3)))), (h6, zi k6 400 (a16_ 0)), (h5, zi k5 400 (a16_ 1)), (h2, zi k2 833 (a16_ 2)), (h1, zi k1 1250 (a16_ 3)), (h3, zi k3 833 (a16_ 4)), (h4, zi k4 400 (a16_ 5))]) [0, 2, 3, 4, 5, 6, 7] rfl
    have hDc := hD.sub (ws' := [(h0, .inr (6, mX6 h1 h2 h3 h4 h5 h6 h7 h8 (upd (upd (upd (upd v0 8 (u16_ 0)) 9 (u16_ 1)) 10 (u16_ 2)) 11 (u16_ 3)))), (h6, zi k6 400 (a16_ 0)), (h5, zi k5 400 (a16_ 1)), (h2, zi k2 833 (a16_ 2)), (h1, zi k1 1250 (a16_ 3)), (h3, zi k3 833 (a16_ 4)), (h4, zi k4 400 (a16_ 5))]) [0, 2, 3, 4, 5, 6, 7] (by decide) rfl
    have hKc := hK.sub (tys' := [(k6, .int), (k5, .int), (k2, .int), (k1, .int), (k3, .int), (k4, .int)]) [1, 2, 3, 4, 5, 6] rfl
    have hFc := va_free (wc := [(h0, .inr (6, mX6 h1 h2 h3 h4 h5 h6 h7 h8 (upd (upd (upd (upd v0 8 (u16_ 0)) 9 (u16_ 1)) 10 (u16_ 2)) 11 (u16_ 3)))), (h6, zi k6 400 (a16_ 0)), (h5, zi k5 400 (a16_ 1)), (h2, zi k2 833 (a16_ 2)), (h1, zi k1 1250 (a16_ 3)), (h3, zi k3 833 (a16_ 4)), (h4, zi k4 400 (a16_ 5))]) hD hS hA [0, 2, 3, 4, 5, 6, 7] rfl
    refine va_callv (va_runV (As := [.int x1, .int x3]) (rest := []) ⟨hx, hb, hml, hown, hG⟩ (sX6_append_0 l dC dI adK adV h0 h6 h5 h2 h1 h3 h4 h7 h8 k6 k5 k2 k1 k3 k4 H.size (upd (upd (upd (upd v0 8 (u16_ 0)) 9 (u16_ 1)) 10 (u16_ 2)) 11 (u16_ 3)) (a16_ 0) (a16_ 1) (a16_ 2) (a16_ 3) (a16_ 4) (a16_ 5) x1 x3 (zR_updF (zR_updF (zR_up2 (zR_up2 hv0 8 (show (0 : Int) ≤ ((u16_ 0) : Int32).toInt ∧ ((u16_ 0) : Int32).toInt ≤ (833 : Int) from (by first | with_reducible assumption | exact ⟨by omega, by omega⟩))) 9 (show (0 : Int) ≤ ((u16_ 1) : Int32).toInt ∧ ((u16_ 1) : Int32).toInt ≤ (1250 : Int) from (by first | with_reducible assumption | exact ⟨by omega, by omega⟩))) 10 rfl) 11 rfl) ha16_1 ha16_2 (show zPhi (a16_ 2) (a16_ 1) (a16_ 0) (u16_ 1).toInt (u16_ 0).toInt from by first | with_reducible assumption | assumption)) (cwV 2 hG (zgV zv835 zv836 zv837 zv133 zv838) rfl rfl rfl (by decide +kernel) ⟨Nat.le_of_ble_eq_true rfl, Nat.le_of_ble_eq_true rfl⟩) ⟨zPc_blind, va_recv hKc hPc (ci := 6) (q0 := 0) rfl rfl, zPc_pre hPc hKc hDc hE hS hFc hZ⟩ rfl rfl hl.1 rfl (lv_room (Nat.le_of_ble_eq_true rfl)) dX6_startDocument_22 ⟨Nat.le_of_ble_eq_true rfl, Nat.le_of_ble_eq_true rfl⟩) hS (fun q _ h => hFc q h) hFc (fun u22_ t H1 locs ht hvm hw hB hz1 hk1 hS => ?_)
    replace hw : (0 ≤ (u22_ 0).toInt ∧ (u22_ 0).toInt ≤ 833) ∧ (0 ≤ (u22_ 1).toInt ∧ (u22_ 1).toInt ≤ 1250) := hw
    obtain ⟨b_, b_⟩ := hw
    obtain ⟨w22_, a22_, b22_, ha22_1, ha22_2, hB22_0, hB22_1, hP1, hK1, hD1⟩ := hB
    have hB22_0 : zPhi (a22_ 2) (a22_ 1) (a22_ 0) (u22_ 1).toInt (u22_ 0).toInt := hB22_0
    have hB22_1 : zW (0 < x3.toInt → 0 ≤ x1.toInt → x1.toInt ≤ 399 → zAp (a16_ 3) (a16_ 2) (a16_ 4) (a16_ 5) (a16_ 1) (a16_ 0) (u16_ 0).toInt (u16_ 1).toInt (u16_ 2).toInt (u16_ 3).toInt (a22_ 3) (a22_ 2) (a22_ 4) (a22_ 5) (a22_ 1) (a22_ 0) (u22_ 0).toInt (u22_ 1).toInt (u22_ 2).toInt (u22_ 3).toInt ((x1 : Int32)).toNatClampNeg (zGa (x3.toInt).toNat)) := hB22_1
    rw [ht] at hP1
    obtain ⟨hP, hD⟩ := va_join (wr := [(h8, zi k8 400 f8), (h7, zi k7 400 f7)]) (w1 := [(h0, .inr (6, mX6 h1 h2 h3 h4 h5 h6 h7 h8 (upd (upd (upd (upd v0 8 (u22_ 0)) 9 (u22_ 1)) 10 (u22_ 2)) 11 (u22_ 3)))), (h6, zi k6 400 (a22_ 0)), (h5, zi k5 400 (a22_ 1)), (h2, zi k2 833 (a22_ 2)), (h1, zi k1 1250 (a22_ 3)), (h3, zi k3 833 (a22_ 4)), (h4, zi k4 400 (a22_ 5))]) hP hD [0, 2, 3, 4, 5, 6, 7] [1, 8] rfl rfl (by decide) (by decide) hk1 hFc hP1 hD1
    have hP : va_P (dC, dI) vwCl [(h0, .inr (6, mX6 h1 h2 h3 h4 h5 h6 h7 h8 (upd (upd (upd (upd v0 8 (u22_ 0)) 9 (u22_ 1)) 10 (u22_ 2)) 11 (u22_ 3)))), (h8, zi k8 400 f8), (h6, zi k6 400 (a22_ 0)), (h5, zi k5 400 (a22_ 1)), (h2, zi k2 833 (a22_ 2)), (h1, zi k1 1250 (a22_ 3)), (h3, zi k3 833 (a22_ 4)), (h4, zi k4 400 (a22_ 5)), (h7, zi k7 400 f7)] H1 := hP.sub [2, 0, 3, 4, 5, 6, 7, 8, 1] rfl
    have hD : va_D A [(h0, .inr (6, mX6 h1 h2 h3 h4 h5 h6 h7 h8 (upd (upd (upd (upd v0 8 (u22_ 0)) 9 (u22_ 1)) 10 (u22_ 2)) 11 (u22_ 3)))), (h8, zi k8 400 f8), (h6, zi k6 400 (a22_ 0)), (h5, zi k5 400 (a22_ 1)), (h2, zi k2 833 (a22_ 2)), (h1, zi k1 1250 (a22_ 3)), (h3, zi k3 833 (a22_ 4)), (h4, zi k4 400 (a22_ 5)), (h7, zi k7 400 f7)] := hD.sub [2, 0, 3, 4, 5, 6, 7, 8, 1] (by decide) rfl
    generalize H1 = H at hP hS ⊢
    clear hz1
    refine lv_aload_n hx hb dX6_startDocument_25 rfl (lv_at hl 0 rfl) ?_
    refine va_get (D := (dC, dI)) (ci := 6) (v := .ref h8) (C := RX6) (T := TX6) (N := 12) hx hb hG zuX6 hown hK hP 0 rfl rfl 7 (by decide) (hG _ zv255) (fun _ h9 => h9) rfl dX6_startDocument_26 ?_
    refine lv_iload_n hx hb dX6_startDocument_29 rfl (lv_at hl 1 rfl) ?_
    refine lv_iload_n hx hb dX6_startDocument_30 rfl (lv_at hl 2 rfl) ?_
    refine lv_iconst (v := 1) hx hb dX6_startDocument_31 (by decide) ?_
    refine lv_iadd hx hb dX6_startDocument_32 ?_
    refine lv_topi (fun z32 e_z32 => ?_)
    refine va_iast hx hb hK hP hD hS 1 0 rfl rfl (zin_lit ⟨by omega, by omega⟩) dX6_startDocument_33 (fun H locs hP hD hS => ?_)
    obtain ⟨f_33, e_f_33⟩ : ∃ z : Nat → Int32, z = upd f8 (x1 : Int32).toNatClampNeg z32 := ⟨_, rfl⟩
    have hP : va_P (dC, dI) vwCl [(h0, .inr (6, mX6 h1 h2 h3 h4 h5 h6 h7 h8 (upd (upd (upd (upd v0 8 (u22_ 0)) 9 (u22_ 1)) 10 (u22_ 2)) 11 (u22_ 3)))), (h8, zi k8 400 f_33), (h6, zi k6 400 (a22_ 0)), (h5, zi k5 400 (a22_ 1)), (h2, zi k2 833 (a22_ 2)), (h1, zi k1 1250 (a22_ 3)), (h3, zi k3 833 (a22_ 4)), (h4, zi k4 400 (a22_ 5)), (h7, zi k7 400 f7)] H := by rw [e_f_33]; exact hP
    have hD : va_D A [(h0, .inr (6, mX6 h1 h2 h3 h4 h5 h6 h7 h8 (upd (upd (upd (upd v0 8 (u22_ 0)) 9 (u22_ 1)) 10 (u22_ 2)) 11 (u22_ 3)))), (h8, zi k8 400 f_33), (h6, zi k6 400 (a22_ 0)), (h5, zi k5 400 (a22_ 1)), (h2, zi k2 833 (a22_ 2)), (h1, zi k1 1250 (a22_ 3)), (h3, zi k3 833 (a22_ 4)), (h4, zi k4 400 (a22_ 5)), (h7, zi k7 400 f7)] := by rw [e_f_33]; exact hD
    refine lv_aload_n hx hb dX6_startDocument_34 rfl (lv_at hl 0 rfl) ?_
    refine va_get (D := (dC, dI)) (ci := 6) (v := .ref h7) (C := RX6) (T := TX6) (N := 12) hx hb hG zuX6 hown hK hP 0 rfl rfl 6 (by decide) (hG _ zv254) (fun _ h9 => h9) rfl dX6_startDocument_35 ?_
    refine lv_iload_n hx hb dX6_startDocument_38 rfl (lv_at hl 1 rfl) ?_
    refine lv_dup2_11 hx hb dX6_startDocument_39 rfl rfl ?_
    refine va_iald hx hb hK hP 8 7 rfl rfl (zin_lit ⟨by omega, by omega⟩) dX6_startDocument_40 ?_
    refine lv_topi (fun z40 e_z40 => ?_)
    refine lv_iconst (v := 1) hx hb dX6_startDocument_41 (by decide) ?_
    have b_ : -2147483648 ≤ z40.toInt ∧ z40.toInt ≤ 2147483647 := ⟨zlo _, zhi _⟩
    refine lv_iadd hx hb dX6_startDocument_42 ?_
    refine lv_topi (fun z42 e_z42 => ?_)
    refine va_iast hx hb hK hP hD hS 8 7 rfl rfl (zin_lit ⟨by omega, by omega⟩) dX6_startDocument_43 (fun H locs hP hD hS => ?_)
    obtain ⟨f_43, e_f_43⟩ : ∃ z : Nat → Int32, z = upd f7 (x1 : Int32).toNatClampNeg z42 := ⟨_, rfl⟩
    have hP : va_P (dC, dI) vwCl [(h0, .inr (6, mX6 h1 h2 h3 h4 h5 h6 h7 h8 (upd (upd (upd (upd v0 8 (u22_ 0)) 9 (u22_ 1)) 10 (u22_ 2)) 11 (u22_ 3)))), (h8, zi k8 400 f_33), (h6, zi k6 400 (a22_ 0)), (h5, zi k5 400 (a22_ 1)), (h2, zi k2 833 (a22_ 2)), (h1, zi k1 1250 (a22_ 3)), (h3, zi k3 833 (a22_ 4)), (h4, zi k4 400 (a22_ 5)), (h7, zi k7 400 f_43)] H := by rw [e_f_43]; exact hP
    have hD : va_D A [(h0, .inr (6, mX6 h1 h2 h3 h4 h5 h6 h7 h8 (upd (upd (upd (upd v0 8 (u22_ 0)) 9 (u22_ 1)) 10 (u22_ 2)) 11 (u22_ 3)))), (h8, zi k8 400 f_33), (h6, zi k6 400 (a22_ 0)), (h5, zi k5 400 (a22_ 1)), (h2, zi k2 833 (a22_ 2)), (h1, zi k1 1250 (a22_ 3)), (h3, zi k3 833 (a22_ 4)), (h4, zi k4 400 (a22_ 5)), (h7, zi k7 400 f_43)] := by rw [e_f_43]; exact hD
    have sd9 : zW (0 ≤ x1.toInt → x1.toInt ≤ 399 → 0 ≤ (f8 ((x1 : Int32)).toNatClampNeg).toInt → (f8 ((x1 : Int32)).toNatClampNeg).toInt ≤ x2.toInt → x2.toInt ≤ 1000 → 0 < x3.toInt → zAp f1 f2 f3 f4 f5 f6 (v0 8).toInt (v0 9).toInt (v0 10).toInt (v0 11).toInt (a22_ 3) (a22_ 2) (a22_ 4) (a22_ 5) (a22_ 1) (a22_ 0) (u22_ 0).toInt (u22_ 1).toInt (u22_ 2).toInt (u22_ 3).toInt ((x1 : Int32)).toNatClampNeg (zGa (x2.toInt + 1 - (f8 ((x1 : Int32)).toNatClampNeg).toInt).toNat ++ zGa (x3.toInt).toNat)) := fun q1 q2 q3 q4 q5 q6 => by
      have a1 := hX12_0 q1 q2 q3
      have a2 := zsub (x := x2) rfl a1 e_z15 (by omega) (by omega)
      have h1 := hB16_1 (by omega) q1 q2
      rw [show z15.toInt = x2.toInt + 1 - (f8 (x1 : Int32).toNatClampNeg).toInt from by omega] at h1
      exact zAp_t h1 (hB22_1 q6 q1 q2)
    refine W.widen (k := 0) (n := 0) (by decide) (by decide) ?_
    have b_ : -2147483648 ≤ (u22_ 2).toInt ∧ (u22_ 2).toInt ≤ 2147483647 := ⟨zlo _, zhi _⟩
    have b_ : -2147483648 ≤ (u22_ 3).toInt ∧ (u22_ 3).toInt ≤ 2147483647 := ⟨zlo _, zhi _⟩
    have hpost : (0 ≤ (u22_ 0).toInt ∧ (u22_ 0).toInt ≤ 833) ∧ (0 ≤ (u22_ 1).toInt ∧ (u22_ 1).toInt ≤ 1250) := ⟨(by first | with_reducible assumption | exact ⟨by omega, by omega⟩), (by first | with_reducible assumption | exact ⟨by omega, by omega⟩)⟩
    have hP9 : va_P (dC, dI) vwCl [(h0, .inr (6, mX6 h1 h2 h3 h4 h5 h6 h7 h8 (upd (upd (upd (upd v0 8 (u22_ 0)) 9 (u22_ 1)) 10 (u22_ 2)) 11 (u22_ 3)))), (h8, zi k8 400 f_33), (h6, zi k6 400 (a22_ 0)), (h5, zi k5 400 (a22_ 1)), (h2, zi k2 833 (a22_ 2)), (h1, zi k1 1250 (a22_ 3)), (h3, zi k3 833 (a22_ 4)), (h4, zi k4 400 (a22_ 5)), (h7, zi k7 400 f_43)] H := hP
    have hD9 : va_D A [(h0, .inr (6, mX6 h1 h2 h3 h4 h5 h6 h7 h8 (upd (upd (upd (upd v0 8 (u22_ 0)) 9 (u22_ 1)) 10 (u22_ 2)) 11 (u22_ 3)))), (h8, zi k8 400 f_33), (h6, zi k6 400 (a22_ 0)), (h5, zi k5 400 (a22_ 1)), (h2, zi k2 833 (a22_ 2)), (h1, zi k1 1250 (a22_ 3)), (h3, zi k3 833 (a22_ 4)), (h4, zi k4 400 (a22_ 5)), (h7, zi k7 400 f_43)] := hD
    have hB0 : zPhi (a22_ 2) (a22_ 1) (a22_ 0) (u22_ 1).toInt (u22_ 0).toInt := by assumption
    have hB1 : zW (0 ≤ x1.toInt → x1.toInt ≤ 399 → 0 ≤ (f8 ((x1 : Int32)).toNatClampNeg).toInt → (f8 ((x1 : Int32)).toNatClampNeg).toInt ≤ x2.toInt → x2.toInt ≤ 1000 → 0 < x3.toInt → zAp f1 f2 f3 f4 f5 f6 (v0 8).toInt (v0 9).toInt (v0 10).toInt (v0 11).toInt (a22_ 3) (a22_ 2) (a22_ 4) (a22_ 5) (a22_ 1) (a22_ 0) (u22_ 0).toInt (u22_ 1).toInt (u22_ 2).toInt (u22_ 3).toInt ((x1 : Int32)).toNatClampNeg (zGa (x2.toInt + 1 - (f8 ((x1 : Int32)).toNatClampNeg).toInt).toNat ++ zGa (x3.toInt).toNat)) := by first | exact sd9 | (intro q1 q2; omega)
    have hB2 : zW (0 ≤ x1.toInt → x1.toInt ≤ 399 → 0 ≤ x2.toInt → x2.toInt ≤ 1000 → zUi f8 f_33 ((x1 : Int32)).toNatClampNeg (x2.toInt + 1)) := by first | exact fun _ _ _ _ => zUi_i e_f_33 (zadd rfl zk_1 e_z32 (by omega) (by omega)) | (intro q1 q2; omega)
    have hB3 : zW (0 ≤ x1.toInt → x1.toInt ≤ 399 → 0 ≤ (f7 ((x1 : Int32)).toNatClampNeg).toInt → (f7 ((x1 : Int32)).toNatClampNeg).toInt ≤ 1000 → zUi f7 f_43 ((x1 : Int32)).toNatClampNeg ((f7 ((x1 : Int32)).toNatClampNeg).toInt + 1)) := by first | exact fun _ _ q3 q4 => zUi_i e_f_43 (zadd (congrArg Int32.toInt e_z40) zk_1 e_z42 (by omega) (by omega)) | (intro q1 q2; omega)
    exact W.vret hx hb hr (fun t ht hW => ⟨⟨(fun i => ([(u22_ 0), (u22_ 1), (u22_ 2), (u22_ 3)] : List (Int32)).getD i 0), rfl, hpost, (fun _ => 0), (fun i => ([f_33, (a22_ 0), (a22_ 1), (a22_ 2), (a22_ 3), (a22_ 4), (a22_ 5), f_43] : List (Nat → Int32)).getD i (fun _ => 0)), (fun _ => (fun _ => 0)), ha22_1, ha22_2, hB0, hB1, hB2, hB3, by rw [ht]; exact hP9, va_K.moved hW.alike hK, hD9⟩, hS.F ht⟩) hS.2.2 dX6_startDocument_44
