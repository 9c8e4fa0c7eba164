set_option maxHeartbeats 8000000 in
set_option maxRecDepth 100000 in
theorem sX6_bitInChunk_0 (l : Launch) (dC : Nat → ClassId) (dI : Nat → Nat → Nat) (adK adV : Nat → Nat) (h0 : Nat) (h2 : Nat) (h1 : Nat) (h3 : Nat) (h4 : Nat) (h5 : Nat) (h6 : Nat) (h7 : Nat) (h8 : Nat) (k2 : ClassId) (k1 : ClassId) (sz : Nat) (v0 : Nat → Int32) (f2 : Nat → Int32) (f1 : Nat → Int32) (x1 : Int32) (x2 : Int32) (hv0 : zR rg_Postings v0) (hf2 : zA 0 1250 f2) : Met l yX6_bitInChunk (zw yX6_bitInChunk cX6_bitInChunk 4 (some .int)) { frames := 0, cells := 0, slots := 0, locals := 0 } (zPc dC dI adK adV [.ref h0, .int x1, .int x2] sz [(h0, .inr (6, mX6 h1 h2 h3 h4 h5 h6 h7 h8 v0)), (h2, .inl (k2, 833, .inl f2)), (h1, .inl (k1, 1250, .inl f1))] [(k2, .int), (k1, .int)]) (va_Qi (fun (r : Int32) (u : Nat → Int32) => (0 ≤ r.toInt ∧ r.toInt ≤ 1)) (fun (u : Nat → Int32) (t : State) => ∃ (ww : Nat → Int64) (aa : Nat → Nat → Int32) (bb : Nat → Nat → Int64), va_P (dC, dI) vwCl [(h0, .inr (6, mX6 h1 h2 h3 h4 h5 h6 h7 h8 v0)), (h2, .inl (k2, 833, .inl f2)), (h1, .inl (k1, 1250, .inl f1))] t.heap ∧ va_K (dC, dI) vwCl [(k2, .int), (k1, .int)] t ∧ va_D (va_A [(h0, .inr (6, mX6 h1 h2 h3 h4 h5 h6 h7 h8 v0)), (h2, .inl (k2, 833, .inl f2)), (h1, .inl (k1, 1250, .inl f1))] sz) [(h0, .inr (6, mX6 h1 h2 h3 h4 h5 h6 h7 h8 v0)), (h2, .inl (k2, 833, .inl f2)), (h1, .inl (k1, 1250, .inl f1))]) (va_A [(h0, .inr (6, mX6 h1 h2 h3 h4 h5 h6 h7 h8 v0)), (h2, .inl (k2, 833, .inl f2)), (h1, .inl (k1, 1250, .inl f1))] sz)) 0 0 (va_A [(h0, .inr (6, mX6 h1 h2 h3 h4 h5 h6 h7 h8 v0)), (h2, .inl (k2, 833, .inl f2)), (h1, .inl (k1, 1250, .inl f1))] sz) := by
  refine Met.ofW (cc := cX6_bitInChunk) (maxL := 4) (ret := (some .int)) (by decide) rfl ?_
  intro p e s m args below meth c s₁ B hml hv
  obtain ⟨rfl, hsz, hP, hK, hD0, hE, hZ⟩ := hv
  have hx := B.exec
  have hb := B.bytes
  have hr := B.returns
  have hG : ∀ w ∈ zG, w.before _ s = true := fun w h => atoms_spec (ws := (zw yX6_bitInChunk cX6_bitInChunk 4 (some .int))) B.pre w (List.mem_cons_of_mem _ h)
  have hown : s.vm.findClass RX6 = some m.cls := findClass_of_methodNamed B.named
  have hlocks := B.notSynchronized

  subst hsz
  have hD := hD0.self (sz := s.heap.size)
  generalize hAe : va_A [(h0, .inr (6, mX6 h1 h2 h3 h4 h5 h6 h7 h8 v0)), (h2, .inl (k2, 833, .inl f2)), (h1, .inl (k1, 1250, .inl f1))] s.heap.size = A at hD hZ ⊢
  have hA : ∀ q : Nat, s.heap.size ≤ q → A q := fun q h => by rw [← hAe]; exact Or.inr h
  have hS : va_S A s.heap s.heap [] := va_S.rf
  have hl := lv_entry ([.ref h0, .int x1, .int x2]) (n := 4) (Nat.le_of_ble_eq_true rfl)
  rw [lg_entry_eq]
  generalize (lg_sl ([.ref h0, .int x1, .int x2]) ++ List.replicate (4 - (lg_sl ([.ref h0, .int x1, .int x2])).length) Slot.unset).toArray = ls at hl ⊢
  have hl : lv_has ls 4 [(0, .ref h0), (1, .int x1), (2, .int x2)] := hl
  have b_ := zk_0
  refine lv_iload_n hx hb dX6_bitInChunk_0 rfl (lv_at hl 1 rfl) ?_
  have b_ : -2147483648 ≤ x1.toInt ∧ x1.toInt ≤ 2147483647 := ⟨zlo _, zhi _⟩
  refine lv_if_lt (tgt := 16) hx hb dX6_bitInChunk_1 (by decide) (fun c_ => ?_) (fun c_ => ?_)
  · skip
    have b_ := zT_lt rfl zk_0 c_
    refine lv_iconst (v := 0) hx hb dX6_bitInChunk_16 (by decide) ?_
    refine W.widen (k := 0) (n := 0) (by decide) (by decide) ?_
    have hpost : (0 ≤ (0 : Int32).toInt ∧ (0 : Int32).toInt ≤ 1) := ⟨by omega, by omega⟩
    have hP9 : va_P (dC, dI) vwCl [(h0, .inr (6, mX6 h1 h2 h3 h4 h5 h6 h7 h8 v0)), (h2, .inl (k2, 833, .inl f2)), (h1, .inl (k1, 1250, .inl f1))] s.heap := hP
    have hD9 : va_D A [(h0, .inr (6, mX6 h1 h2 h3 h4 h5 h6 h7 h8 v0)), (h2, .inl (k2, 833, .inl f2)), (h1, .inl (k1, 1250, .inl f1))] := hD
    exact W.iret (v := 0) hx hb hr (fun t ht hW => ⟨⟨0, (fun _ => 0), rfl, hpost, (fun _ => 0), (fun _ => (fun _ => 0)), (fun _ => (fun _ => 0)), by rw [ht]; exact hP9, va_K.moved hW.alike hK, hD9⟩, hS.F ht⟩) hS.2.2 dX6_bitInChunk_17
  · skip
    have b_ := zF_lt rfl zk_0 c_
    refine lv_iload_n hx hb dX6_bitInChunk_4 rfl (lv_at hl 1 rfl) ?_
    refine lv_aload_n hx hb dX6_bitInChunk_5 rfl (lv_at hl 0 rfl) ?_
    have b_ : 0 ≤ (v0 8).toInt ∧ (v0 8).toInt ≤ 833 := hv0 8
    refine va_get (D := (dC, dI)) (ci := 6) (v := .int (v0 8)) (C := RX6) (T := TX6) (N := 12) hx hb hG zuX6 hown hK hP 0 rfl rfl 8 (by decide) (hG _ zw171) (fun _ h9 => h9) rfl dX6_bitInChunk_6 ?_
    refine lv_icmp_ge (tgt := 16) hx hb dX6_bitInChunk_9 (by decide) (fun c_ => ?_) (fun c_ => ?_)
    · skip
      have b_ := zT_ge rfl rfl c_
      refine lv_iconst (v := 0) hx hb dX6_bitInChunk_16 (by decide) ?_
      refine W.widen (k := 0) (n := 0) (by decide) (by decide) ?_
      have hpost : (0 ≤ (0 : Int32).toInt ∧ (0 : Int32).toInt ≤ 1) := ⟨by omega, by omega⟩
      have hP9 : va_P (dC, dI) vwCl [(h0, .inr (6, mX6 h1 h2 h3 h4 h5 h6 h7 h8 v0)), (h2, .inl (k2, 833, .inl f2)), (h1, .inl (k1, 1250, .inl f1))] s.heap := hP
      have hD9 : va_D A [(h0, .inr (6, mX6 h1 h2 h3 h4 h5 h6 h7 h8 v0)), (h2, .inl (k2, 833, .inl f2)), (h1, .inl (k1, 1250, .inl f1))] := hD
      exact W.iret (v := 0) hx hb hr (fun t ht hW => ⟨⟨0, (fun _ => 0), rfl, hpost, (fun _ => 0), (fun _ => (fun _ => 0)), (fun _ => (fun _ => 0)), by rw [ht]; exact hP9, va_K.moved hW.alike hK, hD9⟩, hS.F ht⟩) hS.2.2 dX6_bitInChunk_17
    · skip
      have b_ := zF_ge rfl rfl c_
      refine lv_iload_n hx hb dX6_bitInChunk_12 rfl (lv_at hl 2 rfl) ?_
      have b_ : -2147483648 ≤ x2.toInt ∧ x2.toInt ≤ 2147483647 := ⟨zlo _, zhi _⟩
      refine lv_if_ge (tgt := 18) hx hb dX6_bitInChunk_13 (by decide) (fun c_ => ?_) (fun c_ => ?_)
      · skip
        have b_ := zT_ge rfl zk_0 c_
        refine lv_aload_n hx hb dX6_bitInChunk_18 rfl (lv_at hl 0 rfl) ?_
        refine va_get (D := (dC, dI)) (ci := 6) (v := .ref h2) (C := RX6) (T := TX6) (N := 12) hx hb hG zuX6 hown hK hP 0 rfl rfl 1 (by decide) (hG _ zw173) (fun _ h9 => h9) rfl dX6_bitInChunk_19 ?_
        refine lv_iload_n hx hb dX6_bitInChunk_22 rfl (lv_at hl 1 rfl) ?_
        refine va_iald hx hb hK hP 1 0 rfl rfl (zin_lit ⟨by omega, by omega⟩) dX6_bitInChunk_23 ?_
        refine lv_topi (fun z23 e_z23 => ?_)
        have b_ : 0 ≤ z23.toInt ∧ z23.toInt ≤ 1250 := by rw [e_z23]; exact hf2 _
        refine lv_iload_n hx hb dX6_bitInChunk_24 rfl (lv_at hl 2 rfl) ?_
        refine lv_bipush (v := 32) hx hb dX6_bitInChunk_25 (by decide) ?_
        refine lv_idiv hx hb dX6_bitInChunk_27 (by decide) ?_
        refine lv_topi (fun z27 e_z27 => ?_)
        have b_ := zdiv rfl zk_32 e_z27 (by omega) (by decide)
        refine lv_iadd hx hb dX6_bitInChunk_28 ?_
        refine lv_topi (fun z28 e_z28 => ?_)
        have b_ := zadd rfl rfl e_z28 (by omega) (by omega)
        refine lv_istore_n (lv' := [(3, .int z28), (0, .ref h0), (1, .int x1), (2, .int x2)]) hx hb dX6_bitInChunk_29 rfl hl (by decide) rfl (fun ls hl => ?_)
        refine lv_iload_n hx hb dX6_bitInChunk_30 rfl (lv_at hl 0 rfl) ?_
        refine lv_aload_n hx hb dX6_bitInChunk_31 rfl (lv_at hl 1 rfl) ?_
        refine va_get (D := (dC, dI)) (ci := 6) (v := .ref h1) (C := RX6) (T := TX6) (N := 12) hx hb hG zuX6 hown hK hP 0 rfl rfl 0 (by decide) (hG _ zw174) (fun _ h9 => h9) rfl dX6_bitInChunk_32 ?_
        refine va_alen (v := 1250) hx hb hK hP 2 1 rfl rfl (show Int32.ofNat 1250 = 1250 from by decide +kernel) dX6_bitInChunk_35 ?_
        refine lv_icmp_ge (tgt := 58) hx hb dX6_bitInChunk_36 (by decide) (fun c_ => ?_) (fun c_ => ?_)
        · skip
          have b_ := zT_ge rfl zk_1250 c_
          refine lv_iconst (v := 0) hx hb dX6_bitInChunk_58 (by decide) ?_
          refine W.widen (k := 0) (n := 0) (by decide) (by decide) ?_
          have hpost : (0 ≤ (0 : Int32).toInt ∧ (0 : Int32).toInt ≤ 1) := ⟨by omega, by omega⟩
          have hP9 : va_P (dC, dI) vwCl [(h0, .inr (6, mX6 h1 h2 h3 h4 h5 h6 h7 h8 v0)), (h2, .inl (k2, 833, .inl f2)), (h1, .inl (k1, 1250, .inl f1))] s.heap := hP
          have hD9 : va_D A [(h0, .inr (6, mX6 h1 h2 h3 h4 h5 h6 h7 h8 v0)), (h2, .inl (k2, 833, .inl f2)), (h1, .inl (k1, 1250, .inl f1))] := hD
          exact W.iret (v := 0) hx hb hr (fun t ht hW => ⟨⟨0, (fun _ => 0), rfl, hpost, (fun _ => 0), (fun _ => (fun _ => 0)), (fun _ => (fun _ => 0)), by rw [ht]; exact hP9, va_K.moved hW.alike hK, hD9⟩, hS.F ht⟩) hS.2.2 dX6_bitInChunk_59
        · skip
          have b_ := zF_ge rfl zk_1250 c_
          refine lv_aload_n hx hb dX6_bitInChunk_39 rfl (lv_at hl 1 rfl) ?_
          refine va_get (D := (dC, dI)) (ci := 6) (v := .ref h1) (C := RX6) (T := TX6) (N := 12) hx hb hG zuX6 hown hK hP 0 rfl rfl 0 (by decide) (hG _ zw174) (fun _ h9 => h9) rfl dX6_bitInChunk_40 ?_
          refine lv_iload_n hx hb dX6_bitInChunk_43 rfl (lv_at hl 0 rfl) ?_
          refine va_iald hx hb hK hP 2 1 rfl rfl (zin_lit ⟨by omega, by omega⟩) dX6_bitInChunk_44 ?_
          refine lv_topi (fun z44 e_z44 => ?_)
          refine lv_bipush (v := 31) hx hb dX6_bitInChunk_45 (by decide) ?_
          refine lv_iload_n hx hb dX6_bitInChunk_47 rfl (lv_at hl 3 rfl) ?_
          refine lv_bipush (v := 32) hx hb dX6_bitInChunk_48 (by decide) ?_
          refine lv_irem hx hb dX6_bitInChunk_50 (by decide) ?_
          refine lv_topi (fun z50 e_z50 => ?_)
          have b_ := zrem rfl zk_32 e_z50 (by omega) (by decide)
          refine lv_isub hx hb dX6_bitInChunk_51 ?_
          refine lv_topi (fun z51 e_z51 => ?_)
          have b_ := zsub zk_31 rfl e_z51 (by omega) (by omega)
          have b_ : -2147483648 ≤ z44.toInt ∧ z44.toInt ≤ 2147483647 := ⟨zlo _, zhi _⟩
          refine lv_iushr hx hb dX6_bitInChunk_52 rfl ?_
          refine lv_topi (fun z52 e_z52 => ?_)
          refine lv_iconst (v := 1) hx hb dX6_bitInChunk_53 (by decide) ?_
          have b_ : -2147483648 ≤ z52.toInt ∧ z52.toInt ≤ 2147483647 := ⟨zlo _, zhi _⟩
          refine lv_iand hx hb dX6_bitInChunk_54 ?_
          refine lv_topi (fun z54 e_z54 => ?_)
          have b_ := zand (x := z52) zk_1 e_z54 (by decide)
          refine lv_goto (tgt := 59) hx hb dX6_bitInChunk_55 (by decide) ?_
          refine W.widen (k := 0) (n := 0) (by decide) (by decide) ?_
          have hpost : (0 ≤ z54.toInt ∧ z54.toInt ≤ 1) := ⟨by omega, by omega⟩
          have hP9 : va_P (dC, dI) vwCl [(h0, .inr (6, mX6 h1 h2 h3 h4 h5 h6 h7 h8 v0)), (h2, .inl (k2, 833, .inl f2)), (h1, .inl (k1, 1250, .inl f1))] s.heap := hP
          have hD9 : va_D A [(h0, .inr (6, mX6 h1 h2 h3 h4 h5 h6 h7 h8 v0)), (h2, .inl (k2, 833, .inl f2)), (h1, .inl (k1, 1250, .inl f1))] := hD
          exact W.iret (v := z54) hx hb hr (fun t ht hW => ⟨⟨z54, (fun _ => 0), rfl, hpost, (fun _ => 0), (fun _ => (fun _ => 0)), (fun _ => (fun _ => 0)), by rw [ht]; exact hP9, va_K.moved hW.alike hK, hD9⟩, hS.F ht⟩) hS.2.2 dX6_bitInChunk_59
      · skip
        have b_ := zF_ge rfl zk_0 c_
        refine lv_iconst (v := 0) hx hb dX6_bitInChunk_16 (by decide) ?_
        refine W.widen (k := 0) (n := 0) (by decide) (by decide) ?_
        have hpost : (0 ≤ (0 : Int32).toInt ∧ (0 : Int32).toInt ≤ 1) := ⟨by omega, by omega⟩
        have hP9 : va_P (dC, dI) vwCl [(h0, .inr (6, mX6 h1 h2 h3 h4 h5 h6 h7 h8 v0)), (h2, .inl (k2, 833, .inl f2)), (h1, .inl (k1, 1250, .inl f1))] s.heap := hP
        have hD9 : va_D A [(h0, .inr (6, mX6 h1 h2 h3 h4 h5 h6 h7 h8 v0)), (h2, .inl (k2, 833, .inl f2)), (h1, .inl (k1, 1250, .inl f1))] := hD
        exact W.iret (v := 0) hx hb hr (fun t ht hW => ⟨⟨0, (fun _ => 0), rfl, hpost, (fun _ => 0), (fun _ => (fun _ => 0)), (fun _ => (fun _ => 0)), by rw [ht]; exact hP9, va_K.moved hW.alike hK, hD9⟩, hS.F ht⟩) hS.2.2 dX6_bitInChunk_17
set_option maxHeartbeats 8000000 in
set_option maxRecDepth 100000 in
theorem sX6_bitAt_0 (l : Launch) (dC : Nat → ClassId) (dI : Nat → Nat → Nat) (adK adV : Nat → Nat) (h0 : Nat) (h6 : Nat) (h4 : Nat) (h2 : Nat) (h1 : Nat) (h3 : Nat) (h5 : Nat) (h7 : Nat) (h8 : Nat) (k6 : ClassId) (k4 : ClassId) (k2 : ClassId) (k1 : ClassId) (k3 : ClassId) (sz : Nat) (v0 : Nat → Int32) (f6 : Nat → Int32) (f4 : Nat → Int32) (f2 : Nat → Int32) (f1 : Nat → Int32) (f3 : Nat → Int32) (x1 : Int32) (x2 : Int32) (hv0 : zR rg_Postings v0) (hf2 : zA 0 1250 f2) : Met l yX6_bitAt (zw yX6_bitAt cX6_bitAt 6 (some .int)) { frames := 2, cells := 0, slots := 0, locals := 41 } (zPc dC dI adK adV [.ref h0, .int x1, .int x2] sz [(h0, .inr (6, mX6 h1 h2 h3 h4 h5 h6 h7 h8 v0)), (h6, .inl (k6, 400, .inl f6)), (h4, .inl (k4, 400, .inl f4)), (h2, .inl (k2, 833, .inl f2)), (h1, .inl (k1, 1250, .inl f1)), (h3, .inl (k3, 833, .inl f3))] [(k6, .int), (k4, .int), (k2, .int), (k1, .int), (k3, .int)]) (va_Qi (fun (r : Int32) (u : Nat → Int32) => (0 ≤ r.toInt ∧ r.toInt ≤ 1)) (fun (u : Nat → Int32) (t : State) => ∃ (ww : Nat → Int64) (aa : Nat → Nat → Int32) (bb : Nat → Nat → Int64), va_P (dC, dI) vwCl [(h0, .inr (6, mX6 h1 h2 h3 h4 h5 h6 h7 h8 v0)), (h6, .inl (k6, 400, .inl f6)), (h4, .inl (k4, 400, .inl f4)), (h2, .inl (k2, 833, .inl f2)), (h1, .inl (k1, 1250, .inl f1)), (h3, .inl (k3, 833, .inl f3))] t.heap ∧ va_K (dC, dI) vwCl [(k6, .int), (k4, .int), (k2, .int), (k1, .int), (k3, .int)] t ∧ va_D (va_A [(h0, .inr (6, mX6 h1 h2 h3 h4 h5 h6 h7 h8 v0)), (h6, .inl (k6, 400, .inl f6)), (h4, .inl (k4, 400, .inl f4)), (h2, .inl (k2, 833, .inl f2)), (h1, .inl (k1, 1250, .inl f1)), (h3, .inl (k3, 833, .inl f3))] sz) [(h0, .inr (6, mX6 h1 h2 h3 h4 h5 h6 h7 h8 v0)), (h6, .inl (k6, 400, .inl f6)), (h4, .inl (k4, 400, .inl f4)), (h2, .inl (k2, 833, .inl f2)), (h1, .inl (k1, 1250, .inl f1)), (h3, .inl (k3, 833, .inl f3))]) (va_A [(h0, .inr (6, mX6 h1 h2 h3 h4 h5 h6 h7 h8 v0)), (h6, .inl (k6, 400, .inl f6)), (h4, .inl (k4, 400, .inl f4)), (h2, .inl (k2, 833, .inl f2)), (h1, .inl (k1, 1250, .inl f1)), (h3, .inl (k3, 833, .inl f3))] sz)) 0 0 (va_A [(h0, .inr (6, mX6 h1 h2 h3 h4 h5 h6 h7 h8 v0)), (h6, .inl (k6, 400, .inl f6)), (h4, .inl (k4, 400, .inl f4)), (h2, .inl (k2, 833, .inl f2)), (h1, .inl (k1, 1250, .inl f1)), (h3, .inl (k3, 833, .inl f3))] sz) := by
  refine Met.ofW (cc := cX6_bitAt) (maxL := 6) (ret := (some .int)) (by decide) rfl ?_
  intro p e s m args below meth c s₁ B hml hv
  obtain ⟨rfl, hsz, hP, hK, hD0, hE, hZ⟩ := hv
  have hx := B.exec
  have hb := B.bytes
  have hr := B.returns
  have hG : ∀ w ∈ zG, w.before _ s = true := fun w h => atoms_spec (ws := (zw yX6_bitAt cX6_bitAt 6 (some .int))) B.pre w (List.mem_cons_of_mem _ h)
  have hown : s.vm.findClass RX6 = some m.cls := findClass_of_methodNamed B.named
  have hlocks := B.notSynchronized

  subst hsz
  have hD := hD0.self (sz := s.heap.size)
  generalize hAe : va_A [(h0, .inr (6, mX6 h1 h2 h3 h4 h5 h6 h7 h8 v0)), (h6, .inl (k6, 400, .inl f6)), (h4, .inl (k4, 400, .inl f4)), (h2, .inl (k2, 833, .inl f2)), (h1, .inl (k1, 1250, .inl f1)), (h3, .inl (k3, 833, .inl f3))] s.heap.size = A at hD hZ ⊢
  have hA : ∀ q : Nat, s.heap.size ≤ q → A q := fun q h => by rw [← hAe]; exact Or.inr h
  have hS : va_S A s.heap s.heap [] := va_S.rf
  have hl := lv_entry ([.ref h0, .int x1, .int x2]) (n := 6) (Nat.le_of_ble_eq_true rfl)
  rw [lg_entry_eq]
  generalize (lg_sl ([.ref h0, .int x1, .int x2]) ++ List.replicate (6 - (lg_sl ([.ref h0, .int x1, .int x2])).length) Slot.unset).toArray = ls at hl ⊢
  have hl : lv_has ls 6 [(0, .ref h0), (1, .int x1), (2, .int x2)] := hl
  have b_ := zk_0
  refine lv_iload_n hx hb dX6_bitAt_0 rfl (lv_at hl 2 rfl) ?_
  have hPc := hP.sub (ws' := []) [] rfl
  have hDc := hD.sub (ws' := []) [] (by decide) rfl
  have hKc := hK.sub (tys' := []) [] rfl
  have hFc := va_free (wc := []) hD hS hA [] rfl
  refine va_calli (va_runS (As := [.int x2]) (rest := []) ⟨hx, hb, hml, hown, hG⟩ (sX6_chunkOf_0 l dC dI adK adV s.heap.size x2) (va_cwS 1 hG (zgS zw144 zw145 zw146 zw147) rfl rfl rfl (by decide +kernel) ⟨Nat.le_of_ble_eq_true rfl, Nat.le_of_ble_eq_true rfl⟩) ⟨zPc_blind, zPc_pre hPc hKc hDc hE hS hFc hZ⟩ rfl rfl hl.1 rfl (lv_room (Nat.le_of_ble_eq_true rfl)) dX6_bitAt_1 ⟨Nat.le_of_ble_eq_true rfl, Nat.le_of_ble_eq_true rfl⟩) hS (fun q _ h => hFc q h) hFc (fun r1_ u1_ t H1 locs ht hvm hw hB hz1 hk1 hS => ?_)
  have hw : (0 ≤ r1_.toInt ∧ r1_.toInt ≤ 8388610) ∧ (0 ≤ x2.toInt → zCk x2.toInt r1_.toInt) := hw
  obtain ⟨b_, hX1_0⟩ := hw
  obtain ⟨w1_, a1_, b1_, hP1, hK1, hD1⟩ := hB
  rw [ht] at hP1
  obtain ⟨hP, hD⟩ := va_join (wr := [(h0, .inr (6, mX6 h1 h2 h3 h4 h5 h6 h7 h8 v0)), (h6, .inl (k6, 400, .inl f6)), (h4, .inl (k4, 400, .inl f4)), (h2, .inl (k2, 833, .inl f2)), (h1, .inl (k1, 1250, .inl f1)), (h3, .inl (k3, 833, .inl f3))]) (w1 := []) hP hD [] [0, 1, 2, 3, 4, 5] rfl rfl (by decide) (by decide) hk1 hFc hP1 hD1
  have hP : va_P (dC, dI) vwCl [(h0, .inr (6, mX6 h1 h2 h3 h4 h5 h6 h7 h8 v0)), (h6, .inl (k6, 400, .inl f6)), (h4, .inl (k4, 400, .inl f4)), (h2, .inl (k2, 833, .inl f2)), (h1, .inl (k1, 1250, .inl f1)), (h3, .inl (k3, 833, .inl f3))] H1 := hP.sub [0, 1, 2, 3, 4, 5] rfl
  have hD : va_D A [(h0, .inr (6, mX6 h1 h2 h3 h4 h5 h6 h7 h8 v0)), (h6, .inl (k6, 400, .inl f6)), (h4, .inl (k4, 400, .inl f4)), (h2, .inl (k2, 833, .inl f2)), (h1, .inl (k1, 1250, .inl f1)), (h3, .inl (k3, 833, .inl f3))] := hD.sub [0, 1, 2, 3, 4, 5] (by decide) rfl
  generalize H1 = H at hP hS ⊢
  clear hz1
  refine lv_istore_n (lv' := [(3, .int r1_), (0, .ref h0), (1, .int x1), (2, .int x2)]) hx hb dX6_bitAt_4 rfl hl (by decide) rfl (fun ls hl => ?_)
  refine lv_aload_n hx hb dX6_bitAt_5 rfl (lv_at hl 1 rfl) ?_
  refine lv_iload_n hx hb dX6_bitAt_6 rfl (lv_at hl 2 rfl) ?_
  have hPc := hP.sub (ws' := [(h0, .inr (6, mX6 h1 h2 h3 h4 h5 h6 h7 h8 v0)), (h6, .inl (k6, 400, .inl f6)), (h4, .inl (k4, 400, .inl f4))]) [0, 1, 2] rfl
  have hDc := hD.sub (ws' := [(h0, .inr (6, mX6 h1 h2 h3 h4 h5 h6 h7 h8 v0)), (h6, .inl (k6, 400, .inl f6)), (h4, .inl (k4, 400, .inl f4))]) [0, 1, 2] (by decide) rfl
  have hKc := hK.sub (tys' := [(k6, .int), (k4, .int)]) [0, 1] rfl
  have hFc := va_free (wc := [(h0, .inr (6, mX6 h1 h2 h3 h4 h5 h6 h7 h8 v0)), (h6, .inl (k6, 400, .inl f6)), (h4, .inl (k4, 400, .inl f4))]) hD hS hA [0, 1, 2] rfl
  refine va_calli (va_runV (As := [.int x1]) (rest := []) ⟨hx, hb, hml, hown, hG⟩ (sX6_firstChunkOf_0 l dC dI adK adV h0 h6 h4 h1 h2 h3 h5 h7 h8 k6 k4 H.size v0 f6 f4 x1 hv0) (cwV 1 hG (zgV zw175 zw176 zw177 zw146 zw178) rfl rfl rfl (by decide +kernel) ⟨Nat.le_of_ble_eq_true rfl, Nat.le_of_ble_eq_true rfl⟩) ⟨zPc_blind, va_recv hKc hPc (ci := 6) (q0 := 0) rfl rfl, zPc_pre hPc hKc hDc hE hS hFc hZ⟩ rfl rfl hl.1 rfl (lv_room (Nat.le_of_ble_eq_true rfl)) dX6_bitAt_7 ⟨Nat.le_of_ble_eq_true rfl, Nat.le_of_ble_eq_true rfl⟩) hS (fun q _ h => hFc q h) hFc (fun r7_ u7_ t H1 locs ht hvm hw hB hz1 hk1 hS => ?_)
  obtain ⟨w7_, a7_, b7_, hP1, hK1, hD1⟩ := hB
  rw [ht] at hP1
  obtain ⟨hP, hD⟩ := va_join (wr := [(h2, .inl (k2, 833, .inl f2)), (h1, .inl (k1, 1250, .inl f1)), (h3, .inl (k3, 833, .inl f3))]) (w1 := [(h0, .inr (6, mX6 h1 h2 h3 h4 h5 h6 h7 h8 v0)), (h6, .inl (k6, 400, .inl f6)), (h4, .inl (k4, 400, .inl f4))]) hP hD [0, 1, 2] [3, 4, 5] rfl rfl (by decide) (by decide) hk1 hFc hP1 hD1
  have hP : va_P (dC, dI) vwCl [(h0, .inr (6, mX6 h1 h2 h3 h4 h5 h6 h7 h8 v0)), (h6, .inl (k6, 400, .inl f6)), (h4, .inl (k4, 400, .inl f4)), (h2, .inl (k2, 833, .inl f2)), (h1, .inl (k1, 1250, .inl f1)), (h3, .inl (k3, 833, .inl f3))] H1 := hP.sub [3, 4, 5, 0, 1, 2] rfl
  have hD : va_D A [(h0, .inr (6, mX6 h1 h2 h3 h4 h5 h6 h7 h8 v0)), (h6, .inl (k6, 400, .inl f6)), (h4, .inl (k4, 400, .inl f4)), (h2, .inl (k2, 833, .inl f2)), (h1, .inl (k1, 1250, .inl f1)), (h3, .inl (k3, 833, .inl f3))] := hD.sub [3, 4, 5, 0, 1, 2] (by decide) rfl
  generalize H1 = H at hP hS ⊢
  clear hz1
  refine lv_istore (lv' := [(4, .int r7_), (3, .int r1_), (0, .ref h0), (1, .int x1), (2, .int x2)]) hx hb dX6_bitAt_10 hl (by decide) rfl (fun ls hl => ?_)
  refine lv_iconst (v := 0) hx hb dX6_bitAt_12 (by decide) ?_
  refine lv_istore (lv' := [(5, .int 0), (4, .int r7_), (3, .int r1_), (0, .ref h0), (1, .int x1), (2, .int x2)]) hx hb dX6_bitAt_13 hl (by decide) rfl (fun ls hl => ?_)
  refine zcutL (fun u15_ => (999999999 - (u15_ 1).toInt).toNat) (fun H locs ls u15_ w15_ a15_ b15_ => va_P (dC, dI) vwCl [(h0, .inr (6, mX6 h1 h2 h3 h4 h5 h6 h7 h8 v0)), (h6, .inl (k6, 400, .inl f6)), (h4, .inl (k4, 400, .inl f4)), (h2, .inl (k2, 833, .inl f2)), (h1, .inl (k1, 1250, .inl f1)), (h3, .inl (k3, 833, .inl f3))] H ∧ va_D A [(h0, .inr (6, mX6 h1 h2 h3 h4 h5 h6 h7 h8 v0)), (h6, .inl (k6, 400, .inl f6)), (h4, .inl (k4, 400, .inl f4)), (h2, .inl (k2, 833, .inl f2)), (h1, .inl (k1, 1250, .inl f1)), (h3, .inl (k3, 833, .inl f3))] ∧ va_S A s.heap H locs ∧ lv_has ls 6 [(0, .ref h0), (1, .int x1), (2, .int x2), (3, .int r1_), (4, .int (u15_ 0)), (5, .int (u15_ 1))] ∧ (0 ≤ (u15_ 1).toInt ∧ (u15_ 1).toInt ≤ 999999999)) (fun ls u15_ w15_ => F0 m 15 ls []) 0 0 ?_ (fun hJ15 => ?_)
  · skip
    intro H locs ls u15_ w15_ a15_ b15_ hc hJ15
    obtain ⟨hP, hD, hS, hl, b_⟩ := hc
    refine lv_iload hx hb dX6_bitAt_15 (lv_at hl 5 rfl) ?_
    refine lv_iload_n hx hb dX6_bitAt_17 rfl (lv_at hl 3 rfl) ?_
    refine lv_icmp_ge (tgt := 35) hx hb dX6_bitAt_18 (by decide) (fun c_ => ?_) (fun c_ => ?_)
    · skip
      have b_ := zT_ge rfl rfl c_
      refine lv_aload_n hx hb dX6_bitAt_35 rfl (lv_at hl 0 rfl) ?_
      refine lv_iload hx hb dX6_bitAt_36 (lv_at hl 4 rfl) ?_
      refine lv_iload_n hx hb dX6_bitAt_38 rfl (lv_at hl 2 rfl) ?_
      refine lv_iload_n hx hb dX6_bitAt_39 rfl (lv_at hl 3 rfl) ?_
      have hPc := hP.sub (ws' := []) [] rfl
      have hDc := hD.sub (ws' := []) [] (by decide) rfl
      have hKc := hK.sub (tys' := []) [] rfl
      have hFc := va_free (wc := []) hD hS hA [] rfl
      refine va_calli (va_runS (As := [.int r1_]) (rest := [.int x2, .int (u15_ 0), .ref h0]) ⟨hx, hb, hml, hown, hG⟩ (sX6_roomOf_0 l dC dI adK adV H.size r1_) (va_cwS 1 hG (zgS zw151 zw152 zw146 zw153) rfl rfl rfl (by decide +kernel) ⟨Nat.le_of_ble_eq_true rfl, Nat.le_of_ble_eq_true rfl⟩) ⟨zPc_blind, zPc_pre hPc hKc hDc hE hS hFc hZ⟩ rfl rfl hl.1 rfl (lv_room (Nat.le_of_ble_eq_true rfl)) dX6_bitAt_40 ⟨Nat.le_of_ble_eq_true rfl, Nat.le_of_ble_eq_true rfl⟩) hS (fun q _ h => hFc q h) hFc (fun r40_ u40_ t H1 locs ht hvm hw hB hz1 hk1 hS => ?_)
      have hw : (0 ≤ r1_.toInt → r1_.toInt ≤ 1000 → zRo r1_.toInt r40_.toInt) := hw
      have hX40_0 := hw
      obtain ⟨w40_, a40_, b40_, hP1, hK1, hD1⟩ := hB
      rw [ht] at hP1
      obtain ⟨hP, hD⟩ := va_join (wr := [(h0, .inr (6, mX6 h1 h2 h3 h4 h5 h6 h7 h8 v0)), (h6, .inl (k6, 400, .inl f6)), (h4, .inl (k4, 400, .inl f4)), (h2, .inl (k2, 833, .inl f2)), (h1, .inl (k1, 1250, .inl f1)), (h3, .inl (k3, 833, .inl f3))]) (w1 := []) hP hD [] [0, 1, 2, 3, 4, 5] rfl rfl (by decide) (by decide) hk1 hFc hP1 hD1
      have hP : va_P (dC, dI) vwCl [(h0, .inr (6, mX6 h1 h2 h3 h4 h5 h6 h7 h8 v0)), (h6, .inl (k6, 400, .inl f6)), (h4, .inl (k4, 400, .inl f4)), (h2, .inl (k2, 833, .inl f2)), (h1, .inl (k1, 1250, .inl f1)), (h3, .inl (k3, 833, .inl f3))] H1 := hP.sub [0, 1, 2, 3, 4, 5] rfl
      have hD : va_D A [(h0, .inr (6, mX6 h1 h2 h3 h4 h5 h6 h7 h8 v0)), (h6, .inl (k6, 400, .inl f6)), (h4, .inl (k4, 400, .inl f4)), (h2, .inl (k2, 833, .inl f2)), (h1, .inl (k1, 1250, .inl f1)), (h3, .inl (k3, 833, .inl f3))] := hD.sub [0, 1, 2, 3, 4, 5] (by decide) rfl
      generalize H1 = H at hP hS ⊢
      clear hz1
      have b_ : -2147483648 ≤ x2.toInt ∧ x2.toInt ≤ 2147483647 := ⟨zlo _, zhi _⟩
      have b_ : -2147483648 ≤ r40_.toInt ∧ r40_.toInt ≤ 2147483647 := ⟨zlo _, zhi _⟩
      refine lv_isub hx hb dX6_bitAt_43 ?_
      refine lv_topi (fun z43 e_z43 => ?_)
      have hPc := hP.sub (ws' := [(h0, .inr (6, mX6 h1 h2 h3 h4 h5 h6 h7 h8 v0)), (h2, .inl (k2, 833, .inl f2)), (h1, .inl (k1, 1250, .inl f1))]) [0, 3, 4] rfl
      have hDc := hD.sub (ws' := [(h0, .inr (6, mX6 h1 h2 h3 h4 h5 h6 h7 h8 v0)), (h2, .inl (k2, 833, .inl f2)), (h1, .inl (k1, 1250, .inl f1))]) [0, 3, 4] (by decide) rfl
      have hKc := hK.sub (tys' := [(k2, .int), (k1, .int)]) [2, 3] rfl
      have hFc := va_free (wc := [(h0, .inr (6, mX6 h1 h2 h3 h4 h5 h6 h7 h8 v0)), (h2, .inl (k2, 833, .inl f2)), (h1, .inl (k1, 1250, .inl f1))]) hD hS hA [0, 3, 4] rfl
      refine va_calli (va_runV (As := [.int (u15_ 0), .int z43]) (rest := []) ⟨hx, hb, hml, hown, hG⟩ (sX6_bitInChunk_0 l dC dI adK adV h0 h2 h1 h3 h4 h5 h6 h7 h8 k2 k1 H.size v0 f2 f1 (u15_ 0) z43 hv0 hf2) (cwV 2 hG (zgV zw179 zw180 zw181 zw146 zw182) rfl rfl rfl (by decide +kernel) ⟨Nat.le_of_ble_eq_true rfl, Nat.le_of_ble_eq_true rfl⟩) ⟨zPc_blind, va_recv hKc hPc (ci := 6) (q0 := 0) rfl rfl, zPc_pre hPc hKc hDc hE hS hFc hZ⟩ rfl rfl hl.1 rfl (lv_room (Nat.le_of_ble_eq_true rfl)) dX6_bitAt_44 ⟨Nat.le_of_ble_eq_true rfl, Nat.le_of_ble_eq_true rfl⟩) hS (fun q _ h => hFc q h) hFc (fun r44_ u44_ t H1 locs ht hvm hw hB hz1 hk1 hS => ?_)
      have hw : (0 ≤ r44_.toInt ∧ r44_.toInt ≤ 1) := hw
      have b_ := hw
      obtain ⟨w44_, a44_, b44_, hP1, hK1, hD1⟩ := hB
      rw [ht] at hP1
      obtain ⟨hP, hD⟩ := va_join (wr := [(h6, .inl (k6, 400, .inl f6)), (h4, .inl (k4, 400, .inl f4)), (h3, .inl (k3, 833, .inl f3))]) (w1 := [(h0, .inr (6, mX6 h1 h2 h3 h4 h5 h6 h7 h8 v0)), (h2, .inl (k2, 833, .inl f2)), (h1, .inl (k1, 1250, .inl f1))]) hP hD [0, 3, 4] [1, 2, 5] rfl rfl (by decide) (by decide) hk1 hFc hP1 hD1
      have hP : va_P (dC, dI) vwCl [(h0, .inr (6, mX6 h1 h2 h3 h4 h5 h6 h7 h8 v0)), (h6, .inl (k6, 400, .inl f6)), (h4, .inl (k4, 400, .inl f4)), (h2, .inl (k2, 833, .inl f2)), (h1, .inl (k1, 1250, .inl f1)), (h3, .inl (k3, 833, .inl f3))] H1 := hP.sub [3, 0, 1, 4, 5, 2] rfl
      have hD : va_D A [(h0, .inr (6, mX6 h1 h2 h3 h4 h5 h6 h7 h8 v0)), (h6, .inl (k6, 400, .inl f6)), (h4, .inl (k4, 400, .inl f4)), (h2, .inl (k2, 833, .inl f2)), (h1, .inl (k1, 1250, .inl f1)), (h3, .inl (k3, 833, .inl f3))] := hD.sub [3, 0, 1, 4, 5, 2] (by decide) rfl
      generalize H1 = H at hP hS ⊢
      clear hz1
      refine W.widen (k := 0) (n := 0) (by decide) (by decide) ?_
      have hpost : (0 ≤ r44_.toInt ∧ r44_.toInt ≤ 1) := ⟨by omega, by omega⟩
      have hP9 : va_P (dC, dI) vwCl [(h0, .inr (6, mX6 h1 h2 h3 h4 h5 h6 h7 h8 v0)), (h6, .inl (k6, 400, .inl f6)), (h4, .inl (k4, 400, .inl f4)), (h2, .inl (k2, 833, .inl f2)), (h1, .inl (k1, 1250, .inl f1)), (h3, .inl (k3, 833, .inl f3))] H := hP
      have hD9 : va_D A [(h0, .inr (6, mX6 h1 h2 h3 h4 h5 h6 h7 h8 v0)), (h6, .inl (k6, 400, .inl f6)), (h4, .inl (k4, 400, .inl f4)), (h2, .inl (k2, 833, .inl f2)), (h1, .inl (k1, 1250, .inl f1)), (h3, .inl (k3, 833, .inl f3))] := hD
      exact W.iret (v := r44_) hx hb hr (fun t ht hW => ⟨⟨r44_, (fun _ => 0), rfl, hpost, (fun _ => 0), (fun _ => (fun _ => 0)), (fun _ => (fun _ => 0)), by rw [ht]; exact hP9, va_K.moved hW.alike hK, hD9⟩, hS.F ht⟩) hS.2.2 dX6_bitAt_47
    · skip
      have b_ := zF_ge rfl rfl c_
      refine lv_aload_n hx hb dX6_bitAt_21 rfl (lv_at hl 0 rfl) ?_
      refine lv_iload hx hb dX6_bitAt_22 (lv_at hl 4 rfl) ?_
      have hPc := hP.sub (ws' := [(h0, .inr (6, mX6 h1 h2 h3 h4 h5 h6 h7 h8 v0)), (h3, .inl (k3, 833, .inl f3))]) [0, 5] rfl
      have hDc := hD.sub (ws' := [(h0, .inr (6, mX6 h1 h2 h3 h4 h5 h6 h7 h8 v0)), (h3, .inl (k3, 833, .inl f3))]) [0, 5] (by decide) rfl
      have hKc := hK.sub (tys' := [(k3, .int)]) [4] rfl
      have hFc := va_free (wc := [(h0, .inr (6, mX6 h1 h2 h3 h4 h5 h6 h7 h8 v0)), (h3, .inl (k3, 833, .inl f3))]) hD hS hA [0, 5] rfl
      refine va_calli (va_runV (As := [.int (u15_ 0)]) (rest := []) ⟨hx, hb, hml, hown, hG⟩ (sX6_chunkBehind_0 l dC dI adK adV h0 h3 h1 h2 h4 h5 h6 h7 h8 k3 H.size v0 f3 (u15_ 0) hv0) (cwV 1 hG (zgV zw183 zw184 zw185 zw146 zw186) rfl rfl rfl (by decide +kernel) ⟨Nat.le_of_ble_eq_true rfl, Nat.le_of_ble_eq_true rfl⟩) ⟨zPc_blind, va_recv hKc hPc (ci := 6) (q0 := 0) rfl rfl, zPc_pre hPc hKc hDc hE hS hFc hZ⟩ rfl rfl hl.1 rfl (lv_room (Nat.le_of_ble_eq_true rfl)) dX6_bitAt_24 ⟨Nat.le_of_ble_eq_true rfl, Nat.le_of_ble_eq_true rfl⟩) hS (fun q _ h => hFc q h) hFc (fun r24_ u24_ t H1 locs ht hvm hw hB hz1 hk1 hS => ?_)
      obtain ⟨w24_, a24_, b24_, hP1, hK1, hD1⟩ := hB
      rw [ht] at hP1
      obtain ⟨hP, hD⟩ := va_join (wr := [(h6, .inl (k6, 400, .inl f6)), (h4, .inl (k4, 400, .inl f4)), (h2, .inl (k2, 833, .inl f2)), (h1, .inl (k1, 1250, .inl f1))]) (w1 := [(h0, .inr (6, mX6 h1 h2 h3 h4 h5 h6 h7 h8 v0)), (h3, .inl (k3, 833, .inl f3))]) hP hD [0, 5] [1, 2, 3, 4] rfl rfl (by decide) (by decide) hk1 hFc hP1 hD1
      have hP : va_P (dC, dI) vwCl [(h0, .inr (6, mX6 h1 h2 h3 h4 h5 h6 h7 h8 v0)), (h6, .inl (k6, 400, .inl f6)), (h4, .inl (k4, 400, .inl f4)), (h2, .inl (k2, 833, .inl f2)), (h1, .inl (k1, 1250, .inl f1)), (h3, .inl (k3, 833, .inl f3))] H1 := hP.sub [4, 0, 1, 2, 3, 5] rfl
      have hD : va_D A [(h0, .inr (6, mX6 h1 h2 h3 h4 h5 h6 h7 h8 v0)), (h6, .inl (k6, 400, .inl f6)), (h4, .inl (k4, 400, .inl f4)), (h2, .inl (k2, 833, .inl f2)), (h1, .inl (k1, 1250, .inl f1)), (h3, .inl (k3, 833, .inl f3))] := hD.sub [4, 0, 1, 2, 3, 5] (by decide) rfl
      generalize H1 = H at hP hS ⊢
      clear hz1
      refine lv_istore (lv' := [(4, .int r24_), (0, .ref h0), (1, .int x1), (2, .int x2), (3, .int r1_), (5, .int (u15_ 1))]) hx hb dX6_bitAt_27 hl (by decide) rfl (fun ls hl => ?_)
      obtain ⟨z29, e_z29⟩ : ∃ z : Int32, z = (u15_ 1) + Int32.ofInt 1 := ⟨_, rfl⟩
      have b_ := zadd (x := (u15_ 1)) (y := Int32.ofInt 1) rfl (show (Int32.ofInt 1).toInt = 1 from by decide) e_z29 (by omega) (by omega)
      refine lv_iinc (v := z29) (lv' := [(5, .int z29), (4, .int r24_), (0, .ref h0), (1, .int x1), (2, .int x2), (3, .int r1_)]) hx hb dX6_bitAt_29 hl (k := 5) rfl e_z29.symm (by decide) rfl (fun ls hl => ?_)
      refine lv_goto (tgt := 15) hx hb dX6_bitAt_32 (by decide) ?_
      have b_ : -2147483648 ≤ x1.toInt ∧ x1.toInt ≤ 2147483647 := ⟨zlo _, zhi _⟩
      have b_ : -2147483648 ≤ x2.toInt ∧ x2.toInt ≤ 2147483647 := ⟨zlo _, zhi _⟩
      have b_ : -2147483648 ≤ r24_.toInt ∧ r24_.toInt ≤ 2147483647 := ⟨zlo _, zhi _⟩
      have hc : va_P (dC, dI) vwCl [(h0, .inr (6, mX6 h1 h2 h3 h4 h5 h6 h7 h8 v0)), (h6, .inl (k6, 400, .inl f6)), (h4, .inl (k4, 400, .inl f4)), (h2, .inl (k2, 833, .inl f2)), (h1, .inl (k1, 1250, .inl f1)), (h3, .inl (k3, 833, .inl f3))] H ∧ va_D A [(h0, .inr (6, mX6 h1 h2 h3 h4 h5 h6 h7 h8 v0)), (h6, .inl (k6, 400, .inl f6)), (h4, .inl (k4, 400, .inl f4)), (h2, .inl (k2, 833, .inl f2)), (h1, .inl (k1, 1250, .inl f1)), (h3, .inl (k3, 833, .inl f3))] ∧ va_S A s.heap H locs ∧ lv_has ls 6 [(0, .ref h0), (1, .int x1), (2, .int x2), (3, .int r1_), (4, .int r24_), (5, .int z29)] ∧ (0 ≤ z29.toInt ∧ z29.toInt ≤ 999999999) := ⟨hP, hD, hS, lv_sub hl [2, 3, 4, 5, 1, 0] rfl, ⟨by omega, by omega⟩⟩
      exact hJ15 H locs ls (fun i => ([r24_, z29] : List (Int32)).getD i 0) (fun _ => 0) (fun _ => (fun _ => 0)) (fun _ => (fun _ => 0)) hc (show (999999999 - z29.toInt).toNat < (999999999 - (u15_ 1).toInt).toNat from by omega)
  · skip
    have b_ : -2147483648 ≤ x1.toInt ∧ x1.toInt ≤ 2147483647 := ⟨zlo _, zhi _⟩
    have b_ : -2147483648 ≤ x2.toInt ∧ x2.toInt ≤ 2147483647 := ⟨zlo _, zhi _⟩
    have b_ : -2147483648 ≤ r7_.toInt ∧ r7_.toInt ≤ 2147483647 := ⟨zlo _, zhi _⟩
    have hc : va_P (dC, dI) vwCl [(h0, .inr (6, mX6 h1 h2 h3 h4 h5 h6 h7 h8 v0)), (h6, .inl (k6, 400, .inl f6)), (h4, .inl (k4, 400, .inl f4)), (h2, .inl (k2, 833, .inl f2)), (h1, .inl (k1, 1250, .inl f1)), (h3, .inl (k3, 833, .inl f3))] H ∧ va_D A [(h0, .inr (6, mX6 h1 h2 h3 h4 h5 h6 h7 h8 v0)), (h6, .inl (k6, 400, .inl f6)), (h4, .inl (k4, 400, .inl f4)), (h2, .inl (k2, 833, .inl f2)), (h1, .inl (k1, 1250, .inl f1)), (h3, .inl (k3, 833, .inl f3))] ∧ va_S A s.heap H locs ∧ lv_has ls 6 [(0, .ref h0), (1, .int x1), (2, .int x2), (3, .int r1_), (4, .int r7_), (5, .int 0)] ∧ (0 ≤ (0 : Int32).toInt ∧ (0 : Int32).toInt ≤ 999999999) := ⟨hP, hD, hS, lv_sub hl [3, 4, 5, 2, 1, 0] rfl, ⟨by omega, by omega⟩⟩
    exact hJ15 H locs ls (fun i => ([r7_, 0] : List (Int32)).getD i 0) (fun _ => 0) (fun _ => (fun _ => 0)) (fun _ => (fun _ => 0)) hc
set_option maxHeartbeats 8000000 in
set_option maxRecDepth 100000 in
theorem sJ7_fill_53178_2 (l : Launch) (dC : Nat → ClassId) (dI : Nat → Nat → Nat) (adK adV : Nat → Nat) (h0 : Nat) (k0 : ClassId) (sz : Nat) (f0 : Nat → Int32) (x1 : Int32) : Met l yJ7_fill_53178 (zw yJ7_fill_53178 cJ7_fill_53178 4 none) { frames := 0, cells := 0, slots := 0, locals := 0 } (zPc dC dI adK adV [.ref h0, .int x1] sz [(h0, .inl (k0, 1250, .inl f0))] [(k0, .int)]) (va_Qv (fun (u : Nat → Int32) => True) (fun (u : Nat → Int32) (t : State) => ∃ (ww : Nat → Int64) (aa : Nat → Nat → Int32) (bb : Nat → Nat → Int64), (∀ j : Nat, (j : Int) < 1250 → (aa 0) j = (x1 : Int32)) ∧ va_P (dC, dI) vwCl [(h0, .inl (k0, 1250, .inl (aa 0)))] t.heap ∧ va_K (dC, dI) vwCl [(k0, .int)] t ∧ va_D (va_A [(h0, .inl (k0, 1250, .inl f0))] sz) [(h0, .inl (k0, 1250, .inl (aa 0)))]) (va_A [(h0, .inl (k0, 1250, .inl f0))] sz)) 0 0 (va_A [(h0, .inl (k0, 1250, .inl f0))] sz) := by
  refine Met.ofW (cc := cJ7_fill_53178) (maxL := 4) (ret := none) (by decide) rfl ?_
  intro p e s m args below meth c s₁ B hml hv
  obtain ⟨rfl, hsz, hP, hK, hD0, hE, hZ⟩ := hv
  have hx := B.exec
  have hb := B.bytes
  have hr := B.returns
  have hG : ∀ w ∈ zG, w.before _ s = true := fun w h => atoms_spec (ws := (zw yJ7_fill_53178 cJ7_fill_53178 4 none)) B.pre w (List.mem_cons_of_mem _ h)
  have hown : s.vm.findClass RJ7 = some m.cls := findClass_of_methodNamed B.named
  have hlocks := B.notSynchronized

  subst hsz
  have hD := hD0.self (sz := s.heap.size)
  generalize hAe : va_A [(h0, .inl (k0, 1250, .inl f0))] s.heap.size = A at hD hZ ⊢
  have hA : ∀ q : Nat, s.heap.size ≤ q → A q := fun q h => by rw [← hAe]; exact Or.inr h
  have hS : va_S A s.heap s.heap [] := va_S.rf
  have hl := lv_entry ([.ref h0, .int x1]) (n := 4) (Nat.le_of_ble_eq_true rfl)
  rw [lg_entry_eq]
  generalize (lg_sl ([.ref h0, .int x1]) ++ List.replicate (4 - (lg_sl ([.ref h0, .int x1])).length) Slot.unset).toArray = ls at hl ⊢
  have hl : lv_has ls 4 [(0, .ref h0), (1, .int x1)] := hl
  have b_ := zk_0
  refine lv_iconst (v := 0) hx hb dJ7_fill_53178_0 (by decide) ?_
  refine lv_istore_n (lv' := [(2, .int 0), (0, .ref h0), (1, .int x1)]) hx hb dJ7_fill_53178_1 rfl hl (by decide) rfl (fun ls hl => ?_)
  refine lv_aload_n hx hb dJ7_fill_53178_2 rfl (lv_at hl 1 rfl) ?_
  refine va_alen (v := 1250) hx hb hK hP 0 0 rfl rfl (show Int32.ofNat 1250 = 1250 from by decide +kernel) dJ7_fill_53178_3 ?_
  refine lv_istore_n (lv' := [(3, .int 1250), (2, .int 0), (0, .ref h0), (1, .int x1)]) hx hb dJ7_fill_53178_4 rfl hl (by decide) rfl (fun ls hl => ?_)
  refine zcutL (fun u5_ => (1250 - (u5_ 0).toInt).toNat) (fun H locs ls u5_ w5_ a5_ b5_ => va_P (dC, dI) vwCl [(h0, .inl (k0, 1250, .inl (a5_ 0)))] H ∧ va_D A [(h0, .inl (k0, 1250, .inl (a5_ 0)))] ∧ va_S A s.heap H locs ∧ lv_has ls 4 [(0, .ref h0), (1, .int x1), (2, .int (u5_ 0)), (3, .int 1250)] ∧ (0 ≤ (u5_ 0).toInt ∧ (u5_ 0).toInt ≤ 1250) ∧ (∀ j : Nat, (j : Int) < (u5_ 0).toInt → (a5_ 0) j = (x1 : Int32))) (fun ls u5_ w5_ => F0 m 5 ls []) 0 0 ?_ (fun hJ5 => ?_)
  · skip
    intro H locs ls u5_ w5_ a5_ b5_ hc hJ5
    obtain ⟨hP, hD, hS, hl, b_, hI5_0⟩ := hc
    refine lv_iload_n hx hb dJ7_fill_53178_5 rfl (lv_at hl 2 rfl) ?_
    refine lv_iload_n hx hb dJ7_fill_53178_6 rfl (lv_at hl 3 rfl) ?_
    refine lv_icmp_ge (tgt := 20) hx hb dJ7_fill_53178_7 (by decide) (fun c_ => ?_) (fun c_ => ?_)
    · skip
      have b_ := zT_ge rfl zk_1250 c_
      refine W.widen (k := 0) (n := 0) (by decide) (by decide) ?_
      have hpost : True := trivial
      have hP9 : va_P (dC, dI) vwCl [(h0, .inl (k0, 1250, .inl (a5_ 0)))] H := hP
      have hD9 : va_D A [(h0, .inl (k0, 1250, .inl (a5_ 0)))] := hD
      have hB0 : ∀ j : Nat, (j : Int) < 1250 → (a5_ 0) j = (x1 : Int32) := by intro j hj; exact hI5_0 j (by omega)
      exact W.vret hx hb hr (fun t ht hW => ⟨⟨(fun _ => 0), rfl, hpost, (fun _ => 0), (fun i => ([(a5_ 0)] : List (Nat → Int32)).getD i (fun _ => 0)), (fun _ => (fun _ => 0)), hB0, by rw [ht]; exact hP9, va_K.moved hW.alike hK, hD9⟩, hS.F ht⟩) hS.2.2 dJ7_fill_53178_20
    · skip
      have b_ := zF_ge rfl zk_1250 c_
      refine lv_aload_n hx hb dJ7_fill_53178_10 rfl (lv_at hl 0 rfl) ?_
      refine lv_iload_n hx hb dJ7_fill_53178_11 rfl (lv_at hl 2 rfl) ?_
      refine lv_iload_n hx hb dJ7_fill_53178_12 rfl (lv_at hl 1 rfl) ?_
      refine va_iast hx hb hK hP hD hS 0 0 rfl rfl (zin_lit ⟨by omega, by omega⟩) dJ7_fill_53178_13 (fun H locs hP hD hS => ?_)
      obtain ⟨f_13, e_f_13⟩ : ∃ z : Nat → Int32, z = upd (a5_ 0) ((u5_ 0) : Int32).toNatClampNeg x1 := ⟨_, rfl⟩
      have hP : va_P (dC, dI) vwCl [(h0, .inl (k0, 1250, .inl f_13))] H := by rw [e_f_13]; exact hP
      have hD : va_D A [(h0, .inl (k0, 1250, .inl f_13))] := by rw [e_f_13]; exact hD
      obtain ⟨z14, e_z14⟩ : ∃ z : Int32, z = (u5_ 0) + Int32.ofInt 1 := ⟨_, rfl⟩
      have b_ := zadd (x := (u5_ 0)) (y := Int32.ofInt 1) rfl (show (Int32.ofInt 1).toInt = 1 from by decide) e_z14 (by omega) (by omega)
      refine lv_iinc (v := z14) (lv' := [(2, .int z14), (0, .ref h0), (1, .int x1), (3, .int 1250)]) hx hb dJ7_fill_53178_14 hl (k := 2) rfl e_z14.symm (by decide) rfl (fun ls hl => ?_)
      refine lv_goto (tgt := 5) hx hb dJ7_fill_53178_17 (by decide) ?_
      have b_ : -2147483648 ≤ x1.toInt ∧ x1.toInt ≤ 2147483647 := ⟨zlo _, zhi _⟩
      have hc : va_P (dC, dI) vwCl [(h0, .inl (k0, 1250, .inl f_13))] H ∧ va_D A [(h0, .inl (k0, 1250, .inl f_13))] ∧ va_S A s.heap H locs ∧ lv_has ls 4 [(0, .ref h0), (1, .int x1), (2, .int z14), (3, .int 1250)] ∧ (0 ≤ z14.toInt ∧ z14.toInt ≤ 1250) ∧ (∀ j : Nat, (j : Int) < z14.toInt → f_13 j = (x1 : Int32)) := ⟨hP, hD, hS, lv_sub hl [1, 2, 0, 3] rfl, ⟨by omega, by omega⟩, by first | (intro j hj; omega) | (rw [e_f_13]; exact zfill (by assumption) (by omega) (by omega))⟩
      exact hJ5 H locs ls (fun i => ([z14] : List (Int32)).getD i 0) (fun _ => 0) (fun i => ([f_13] : List (Nat → Int32)).getD i (fun _ => 0)) (fun _ => (fun _ => 0)) hc (show (1250 - z14.toInt).toNat < (1250 - (u5_ 0).toInt).toNat from by omega)
  · skip
    have b_ : -2147483648 ≤ x1.toInt ∧ x1.toInt ≤ 2147483647 := ⟨zlo _, zhi _⟩
    have hc : va_P (dC, dI) vwCl [(h0, .inl (k0, 1250, .inl f0))] s.heap ∧ va_D A [(h0, .inl (k0, 1250, .inl f0))] ∧ va_S A s.heap s.heap [] ∧ lv_has ls 4 [(0, .ref h0), (1, .int x1), (2, .int 0), (3, .int 1250)] ∧ (0 ≤ (0 : Int32).toInt ∧ (0 : Int32).toInt ≤ 1250) ∧ (∀ j : Nat, (j : Int) < (0 : Int32).toInt → f0 j = (x1 : Int32)) := ⟨hP, hD, hS, lv_sub hl [2, 3, 1, 0] rfl, ⟨by omega, by omega⟩, by first | (intro j hj; omega) | (rw [e_f_13]; exact zfill (by assumption) (by omega) (by omega))⟩
    exact hJ5 s.heap [] ls (fun i => ([0] : List (Int32)).getD i 0) (fun _ => 0) (fun i => ([f0] : List (Nat → Int32)).getD i (fun _ => 0)) (fun _ => (fun _ => 0)) hc
set_option maxHeartbeats 8000000 in
set_option maxRecDepth 100000 in
theorem sJ7_fill_53178_3 (l : Launch) (dC : Nat → ClassId) (dI : Nat → Nat → Nat) (adK adV : Nat → Nat) (h0 : Nat) (k0 : ClassId) (sz : Nat) (f0 : Nat → Int32) (x1 : Int32) : Met l yJ7_fill_53178 (zw yJ7_fill_53178 cJ7_fill_53178 4 none) { frames := 0, cells := 0, slots := 0, locals := 0 } (zPc dC dI adK adV [.ref h0, .int x1] sz [(h0, .inl (k0, 400, .inl f0))] [(k0, .int)]) (va_Qv (fun (u : Nat → Int32) => True) (fun (u : Nat → Int32) (t : State) => ∃ (ww : Nat → Int64) (aa : Nat → Nat → Int32) (bb : Nat → Nat → Int64), (∀ j : Nat, (j : Int) < 400 → (aa 0) j = (x1 : Int32)) ∧ va_P (dC, dI) vwCl [(h0, .inl (k0, 400, .inl (aa 0)))] t.heap ∧ va_K (dC, dI) vwCl [(k0, .int)] t ∧ va_D (va_A [(h0, .inl (k0, 400, .inl f0))] sz) [(h0, .inl (k0, 400, .inl (aa 0)))]) (va_A [(h0, .inl (k0, 400, .inl f0))] sz)) 0 0 (va_A [(h0, .inl (k0, 400, .inl f0))] sz) := by
  refine Met.ofW (cc := cJ7_fill_53178) (maxL := 4) (ret := none) (by decide) rfl ?_
  intro p e s m args below meth c s₁ B hml hv
  obtain ⟨rfl, hsz, hP, hK, hD0, hE, hZ⟩ := hv
  have hx := B.exec
  have hb := B.bytes
  have hr := B.returns
  have hG : ∀ w ∈ zG, w.before _ s = true := fun w h => atoms_spec (ws := (zw yJ7_fill_53178 cJ7_fill_53178 4 none)) B.pre w (List.mem_cons_of_mem _ h)
  have hown : s.vm.findClass RJ7 = some m.cls := findClass_of_methodNamed B.named
  have hlocks := B.notSynchronized

  subst hsz
  have hD := hD0.self (sz := s.heap.size)
  generalize hAe : va_A [(h0, .inl (k0, 400, .inl f0))] s.heap.size = A at hD hZ ⊢
  have hA : ∀ q : Nat, s.heap.size ≤ q → A q := fun q h => by rw [← hAe]; exact Or.inr h
  have hS : va_S A s.heap s.heap [] := va_S.rf
  have hl := lv_entry ([.ref h0, .int x1]) (n := 4) (Nat.le_of_ble_eq_true rfl)
  rw [lg_entry_eq]
  generalize (lg_sl ([.ref h0, .int x1]) ++ List.replicate (4 - (lg_sl ([.ref h0, .int x1])).length) Slot.unset).toArray = ls at hl ⊢
  have hl : lv_has ls 4 [(0, .ref h0), (1, .int x1)] := hl
  have b_ := zk_0
  refine lv_iconst (v := 0) hx hb dJ7_fill_53178_0 (by decide) ?_
  refine lv_istore_n (lv' := [(2, .int 0), (0, .ref h0), (1, .int x1)]) hx hb dJ7_fill_53178_1 rfl hl (by decide) rfl (fun ls hl => ?_)
  refine lv_aload_n hx hb dJ7_fill_53178_2 rfl (lv_at hl 1 rfl) ?_
  refine va_alen (v := 400) hx hb hK hP 0 0 rfl rfl (show Int32.ofNat 400 = 400 from by decide +kernel) dJ7_fill_53178_3 ?_
  refine lv_istore_n (lv' := [(3, .int 400), (2, .int 0), (0, .ref h0), (1, .int x1)]) hx hb dJ7_fill_53178_4 rfl hl (by decide) rfl (fun ls hl => ?_)
  refine zcutL (fun u5_ => (400 - (u5_ 0).toInt).toNat) (fun H locs ls u5_ w5_ a5_ b5_ => va_P (dC, dI) vwCl [(h0, .inl (k0, 400, .inl (a5_ 0)))] H ∧ va_D A [(h0, .inl (k0, 400, .inl (a5_ 0)))] ∧ va_S A s.heap H locs ∧ lv_has ls 4 [(0, .ref h0), (1, .int x1), (2, .int (u5_ 0)), (3, .int 400)] ∧ (0 ≤ (u5_ 0).toInt ∧ (u5_ 0).toInt ≤ 400) ∧ (∀ j : Nat, (j : Int) < (u5_ 0).toInt → (a5_ 0) j = (x1 : Int32))) (fun ls u5_ w5_ => F0 m 5 ls []) 0 0 ?_ (fun hJ5 => ?_)
  · skip
    intro H locs ls u5_ w5_ a5_ b5_ hc hJ5
    obtain ⟨hP, hD, hS, hl, b_, hI5_0⟩ := hc
    refine lv_iload_n hx hb dJ7_fill_53178_5 rfl (lv_at hl 2 rfl) ?_
    refine lv_iload_n hx hb dJ7_fill_53178_6 rfl (lv_at hl 3 rfl) ?_
    refine lv_icmp_ge (tgt := 20) hx hb dJ7_fill_53178_7 (by decide) (fun c_ => ?_) (fun c_ => ?_)
    · skip
      have b_ := zT_ge rfl zk_400 c_
      refine W.widen (k := 0) (n := 0) (by decide) (by decide) ?_
      have hpost : True := trivial
      have hP9 : va_P (dC, dI) vwCl [(h0, .inl (k0, 400, .inl (a5_ 0)))] H := hP
      have hD9 : va_D A [(h0, .inl (k0, 400, .inl (a5_ 0)))] := hD
      have hB0 : ∀ j : Nat, (j : Int) < 400 → (a5_ 0) j = (x1 : Int32) := by intro j hj; exact hI5_0 j (by omega)
      exact W.vret hx hb hr (fun t ht hW => ⟨⟨(fun _ => 0), rfl, hpost, (fun _ => 0), (fun i => ([(a5_ 0)] : List (Nat → Int32)).getD i (fun _ => 0)), (fun _ => (fun _ => 0)), hB0, by rw [ht]; exact hP9, va_K.moved hW.alike hK, hD9⟩, hS.F ht⟩) hS.2.2 dJ7_fill_53178_20
    · skip
      have b_ := zF_ge rfl zk_400 c_
      refine lv_aload_n hx hb dJ7_fill_53178_10 rfl (lv_at hl 0 rfl) ?_
      refine lv_iload_n hx hb dJ7_fill_53178_11 rfl (lv_at hl 2 rfl) ?_
      refine lv_iload_n hx hb dJ7_fill_53178_12 rfl (lv_at hl 1 rfl) ?_
      refine va_iast hx hb hK hP hD hS 0 0 rfl rfl (zin_lit ⟨by omega, by omega⟩) dJ7_fill_53178_13 (fun H locs hP hD hS => ?_)
      obtain ⟨f_13, e_f_13⟩ : ∃ z : Nat → Int32, z = upd (a5_ 0) ((u5_ 0) : Int32).toNatClampNeg x1 := ⟨_, rfl⟩
      have hP : va_P (dC, dI) vwCl [(h0, .inl (k0, 400, .inl f_13))] H := by rw [e_f_13]; exact hP
      have hD : va_D A [(h0, .inl (k0, 400, .inl f_13))] := by rw [e_f_13]; exact hD
      obtain ⟨z14, e_z14⟩ : ∃ z : Int32, z = (u5_ 0) + Int32.ofInt 1 := ⟨_, rfl⟩
      have b_ := zadd (x := (u5_ 0)) (y := Int32.ofInt 1) rfl (show (Int32.ofInt 1).toInt = 1 from by decide) e_z14 (by omega) (by omega)
      refine lv_iinc (v := z14) (lv' := [(2, .int z14), (0, .ref h0), (1, .int x1), (3, .int 400)]) hx hb dJ7_fill_53178_14 hl (k := 2) rfl e_z14.symm (by decide) rfl (fun ls hl => ?_)
      refine lv_goto (tgt := 5) hx hb dJ7_fill_53178_17 (by decide) ?_
      have b_ : -2147483648 ≤ x1.toInt ∧ x1.toInt ≤ 2147483647 := ⟨zlo _, zhi _⟩
      have hc : va_P (dC, dI) vwCl [(h0, .inl (k0, 400, .inl f_13))] H ∧ va_D A [(h0, .inl (k0, 400, .inl f_13))] ∧ va_S A s.heap H locs ∧ lv_has ls 4 [(0, .ref h0), (1, .int x1), (2, .int z14), (3, .int 400)] ∧ (0 ≤ z14.toInt ∧ z14.toInt ≤ 400) ∧ (∀ j : Nat, (j : Int) < z14.toInt → f_13 j = (x1 : Int32)) := ⟨hP, hD, hS, lv_sub hl [1, 2, 0, 3] rfl, ⟨by omega, by omega⟩, by first | (intro j hj; omega) | (rw [e_f_13]; exact zfill (by assumption) (by omega) (by omega))⟩
      exact hJ5 H locs ls (fun i => ([z14] : List (Int32)).getD i 0) (fun _ => 0) (fun i => ([f_13] : List (Nat → Int32)).getD i (fun _ => 0)) (fun _ => (fun _ => 0)) hc (show (400 - z14.toInt).toNat < (400 - (u5_ 0).toInt).toNat from by omega)
  · skip
    have b_ : -2147483648 ≤ x1.toInt ∧ x1.toInt ≤ 2147483647 := ⟨zlo _, zhi _⟩
    have hc : va_P (dC, dI) vwCl [(h0, .inl (k0, 400, .inl f0))] s.heap ∧ va_D A [(h0, .inl (k0, 400, .inl f0))] ∧ va_S A s.heap s.heap [] ∧ lv_has ls 4 [(0, .ref h0), (1, .int x1), (2, .int 0), (3, .int 400)] ∧ (0 ≤ (0 : Int32).toInt ∧ (0 : Int32).toInt ≤ 400) ∧ (∀ j : Nat, (j : Int) < (0 : Int32).toInt → f0 j = (x1 : Int32)) := ⟨hP, hD, hS, lv_sub hl [2, 3, 1, 0] rfl, ⟨by omega, by omega⟩, by first | (intro j hj; omega) | (rw [e_f_13]; exact zfill (by assumption) (by omega) (by omega))⟩
    exact hJ5 s.heap [] ls (fun i => ([0] : List (Int32)).getD i 0) (fun _ => 0) (fun i => ([f0] : List (Nat → Int32)).getD i (fun _ => 0)) (fun _ => (fun _ => 0)) hc
set_option maxHeartbeats 8000000 in
set_option maxRecDepth 100000 in
theorem sX6_clear_0 (l : Launch) (dC : Nat → ClassId) (dI : Nat → Nat → Nat) (adK adV : Nat → Nat) (h0 : Nat) (h1 : Nat) (h6 : Nat) (h7 : Nat) (h8 : Nat) (h2 : Nat) (h5 : Nat) (h3 : Nat) (h4 : Nat) (k1 : ClassId) (k6 : ClassId) (k7 : ClassId) (k8 : ClassId) (k2 : ClassId) (k5 : ClassId) (sz : Nat) (v0 : Nat → Int32) (f1 : Nat → Int32) (f6 : Nat → Int32) (f7 : Nat → Int32) (f8 : Nat → Int32) (f2 : Nat → Int32) (f5 : Nat → Int32) (hv0 : zR rg_Postings v0) (hf2 : zA 0 1250 f2) (hf5 : zA 0 832 f5) : Met l yX6_clear (zw yX6_clear cX6_clear 1 none) { frames := 1, cells := 0, slots := 0, locals := 23 } (zPc dC dI adK adV [.ref h0] sz [(h0, .inr (6, mX6 h1 h2 h3 h4 h5 h6 h7 h8 v0)), (h1, .inl (k1, 1250, .inl f1)), (h6, .inl (k6, 400, .inl f6)), (h7, .inl (k7, 400, .inl f7)), (h8, .inl (k8, 400, .inl f8)), (h2, .inl (k2, 833, .inl f2)), (h5, .inl (k5, 400, .inl f5))] [(k1, .int), (k6, .int), (k7, .int), (k8, .int), (k2, .int), (k5, .int)]) (va_Qv (fun (u : Nat → Int32) => (0 ≤ (u 0).toInt ∧ (u 0).toInt ≤ 0) ∧ (0 ≤ (u 1).toInt ∧ (u 1).toInt ≤ 0) ∧ (0 ≤ (u 2).toInt ∧ (u 2).toInt ≤ 0) ∧ (0 ≤ (u 3).toInt ∧ (u 3).toInt ≤ 0)) (fun (u : Nat → Int32) (t : State) => ∃ (ww : Nat → Int64) (aa : Nat → Nat → Int32) (bb : Nat → Nat → Int64), (zPhi f2 f5 (aa 1) (u 1).toInt (u 0).toInt) ∧ va_P (dC, dI) vwCl [(h0, .inr (6, mX6 h1 h2 h3 h4 h5 h6 h7 h8 (upd (upd (upd (upd v0 8 (u 0)) 9 (u 1)) 10 (u 2)) 11 (u 3)))), (h1, .inl (k1, 1250, .inl (aa 0))), (h6, .inl (k6, 400, .inl (aa 1))), (h7, .inl (k7, 400, .inl (aa 2))), (h8, .inl (k8, 400, .inl (aa 3))), (h2, .inl (k2, 833, .inl f2)), (h5, .inl (k5, 400, .inl f5))] t.heap ∧ va_K (dC, dI) vwCl [(k1, .int), (k6, .int), (k7, .int), (k8, .int), (k2, .int), (k5, .int)] t ∧ va_D (va_A [(h0, .inr (6, mX6 h1 h2 h3 h4 h5 h6 h7 h8 v0)), (h1, .inl (k1, 1250, .inl f1)), (h6, .inl (k6, 400, .inl f6)), (h7, .inl (k7, 400, .inl f7)), (h8, .inl (k8, 400, .inl f8)), (h2, .inl (k2, 833, .inl f2)), (h5, .inl (k5, 400, .inl f5))] sz) [(h0, .inr (6, mX6 h1 h2 h3 h4 h5 h6 h7 h8 (upd (upd (upd (upd v0 8 (u 0)) 9 (u 1)) 10 (u 2)) 11 (u 3)))), (h1, .inl (k1, 1250, .inl (aa 0))), (h6, .inl (k6, 400, .inl (aa 1))), (h7, .inl (k7, 400, .inl (aa 2))), (h8, .inl (k8, 400, .inl (aa 3))), (h2, .inl (k2, 833, .inl f2)), (h5, .inl (k5, 400, .inl f5))]) (va_A [(h0, .inr (6, mX6 h1 h2 h3 h4 h5 h6 h7 h8 v0)), (h1, .inl (k1, 1250, .inl f1)), (h6, .inl (k6, 400, .inl f6)), (h7, .inl (k7, 400, .inl f7)), (h8, .inl (k8, 400, .inl f8)), (h2, .inl (k2, 833, .inl f2)), (h5, .inl (k5, 400, .inl f5))] sz)) 0 0 (va_A [(h0, .inr (6, mX6 h1 h2 h3 h4 h5 h6 h7 h8 v0)), (h1, .inl (k1, 1250, .inl f1)), (h6, .inl (k6, 400, .inl f6)), (h7, .inl (k7, 400, .inl f7)), (h8, .inl (k8, 400, .inl f8)), (h2, .inl (k2, 833, .inl f2)), (h5, .inl (k5, 400, .inl f5))] sz) := by
  refine Met.ofW (cc := cX6_clear) (maxL := 1) (ret := none) (by decide) rfl ?_
  intro p e s m args below meth c s₁ B hml hv
  obtain ⟨rfl, hsz, hP, hK, hD0, hE, hZ⟩ := hv
  have hx := B.exec
  have hb := B.bytes
  have hr := B.returns
  have hG : ∀ w ∈ zG, w.before _ s = true := fun w h => atoms_spec (ws := (zw yX6_clear cX6_clear 1 none)) B.pre w (List.mem_cons_of_mem _ h)
  have hown : s.vm.findClass RX6 = some m.cls := findClass_of_methodNamed B.named
  have hlocks := B.notSynchronized

  subst hsz
  have hD := hD0.self (sz := s.heap.size)
  generalize hAe : va_A [(h0, .inr (6, mX6 h1 h2 h3 h4 h5 h6 h7 h8 v0)), (h1, .inl (k1, 1250, .inl f1)), (h6, .inl (k6, 400, .inl f6)), (h7, .inl (k7, 400, .inl f7)), (h8, .inl (k8, 400, .inl f8)), (h2, .inl (k2, 833, .inl f2)), (h5, .inl (k5, 400, .inl f5))] s.heap.size = A at hD hZ ⊢
  have hA : ∀ q : Nat, s.heap.size ≤ q → A q := fun q h => by rw [← hAe]; exact Or.inr h
  have hS : va_S A s.heap s.heap [] := va_S.rf
  have hl := lv_entry ([.ref h0]) (n := 1) (Nat.le_of_ble_eq_true rfl)
  rw [lg_entry_eq]
  generalize (lg_sl ([.ref h0]) ++ List.replicate (1 - (lg_sl ([.ref h0])).length) Slot.unset).toArray = ls at hl ⊢
  have hl : lv_has ls 1 [(0, .ref h0)] := hl
  have b_ := zk_0
  refine lv_aload_n hx hb dX6_clear_0 rfl (lv_at hl 0 rfl) ?_
  refine va_get (D := (dC, dI)) (ci := 6) (v := .ref h1) (C := RX6) (T := TX6) (N := 12) hx hb hG zuX6 hown hK hP 0 rfl rfl 0 (by decide) (hG _ zw174) (fun _ h9 => h9) rfl dX6_clear_1 ?_
  refine lv_iconst (v := 0) hx hb dX6_clear_4 (by decide) ?_
  have hPc := hP.sub (ws' := [(h1, .inl (k1, 1250, .inl f1))]) [1] rfl
  have hDc := hD.sub (ws' := [(h1, .inl (k1, 1250, .inl f1))]) [1] (by decide) rfl
  have hKc := hK.sub (tys' := [(k1, .int)]) [0] rfl
  have hFc := va_free (wc := [(h1, .inl (k1, 1250, .inl f1))]) hD hS hA [1] rfl
  refine va_callv (va_runS (As := [.ref h1, .int 0]) (rest := []) ⟨hx, hb, hml, hown, hG⟩ (sJ7_fill_53178_2 l dC dI adK adV h1 k1 s.heap.size f1 0) (va_cwS 2 hG (zgS zw188 zw102 zw103 zw104) rfl rfl rfl (by decide +kernel) ⟨Nat.le_of_ble_eq_true rfl, Nat.le_of_ble_eq_true rfl⟩) ⟨zPc_blind, zPc_pre hPc hKc hDc hE hS hFc hZ⟩ rfl rfl hl.1 rfl (lv_room (Nat.le_of_ble_eq_true rfl)) dX6_clear_5 ⟨Nat.le_of_ble_eq_true rfl, Nat.le_of_ble_eq_true rfl⟩) hS (fun q _ h => hFc q h) hFc (fun u5_ t H1 locs ht hvm hw hB hz1 hk1 hS => ?_)
  obtain ⟨w5_, a5_, b5_, hB5_0, hP1, hK1, hD1⟩ := hB
  have hB5_0 : ∀ j : Nat, (j : Int) < 1250 → (a5_ 0) j = (0 : Int32) := hB5_0
  rw [ht] at hP1
  obtain ⟨hP, hD⟩ := va_join (wr := [(h0, .inr (6, mX6 h1 h2 h3 h4 h5 h6 h7 h8 v0)), (h6, .inl (k6, 400, .inl f6)), (h7, .inl (k7, 400, .inl f7)), (h8, .inl (k8, 400, .inl f8)), (h2, .inl (k2, 833, .inl f2)), (h5, .inl (k5, 400, .inl f5))]) (w1 := [(h1, .inl (k1, 1250, .inl (a5_ 0)))]) hP hD [1] [0, 2, 3, 4, 5, 6] rfl rfl (by decide) (by decide) hk1 hFc hP1 hD1
  have hP : va_P (dC, dI) vwCl [(h0, .inr (6, mX6 h1 h2 h3 h4 h5 h6 h7 h8 v0)), (h1, .inl (k1, 1250, .inl (a5_ 0))), (h6, .inl (k6, 400, .inl f6)), (h7, .inl (k7, 400, .inl f7)), (h8, .inl (k8, 400, .inl f8)), (h2, .inl (k2, 833, .inl f2)), (h5, .inl (k5, 400, .inl f5))] H1 := hP.sub [0, 6, 1, 2, 3, 4, 5] rfl
  have hD : va_D A [(h0, .inr (6, mX6 h1 h2 h3 h4 h5 h6 h7 h8 v0)), (h1, .inl (k1, 1250, .inl (a5_ 0))), (h6, .inl (k6, 400, .inl f6)), (h7, .inl (k7, 400, .inl f7)), (h8, .inl (k8, 400, .inl f8)), (h2, .inl (k2, 833, .inl f2)), (h5, .inl (k5, 400, .inl f5))] := hD.sub [0, 6, 1, 2, 3, 4, 5] (by decide) rfl
  generalize H1 = H at hP hS ⊢
  clear hz1
  refine lv_aload_n hx hb dX6_clear_8 rfl (lv_at hl 0 rfl) ?_
  refine va_get (D := (dC, dI)) (ci := 6) (v := .ref h6) (C := RX6) (T := TX6) (N := 12) hx hb hG zuX6 hown hK hP 0 rfl rfl 5 (by decide) (hG _ zw164) (fun _ h9 => h9) rfl dX6_clear_9 ?_
  refine lv_iconst (v := 0) hx hb dX6_clear_12 (by decide) ?_
  have hPc := hP.sub (ws' := [(h6, .inl (k6, 400, .inl f6))]) [2] rfl
  have hDc := hD.sub (ws' := [(h6, .inl (k6, 400, .inl f6))]) [2] (by decide) rfl
  have hKc := hK.sub (tys' := [(k6, .int)]) [1] rfl
  have hFc := va_free (wc := [(h6, .inl (k6, 400, .inl f6))]) hD hS hA [2] rfl
  refine va_callv (va_runS (As := [.ref h6, .int 0]) (rest := []) ⟨hx, hb, hml, hown, hG⟩ (sJ7_fill_53178_3 l dC dI adK adV h6 k6 H.size f6 0) (va_cwS 2 hG (zgS zw188 zw102 zw103 zw104) rfl rfl rfl (by decide +kernel) ⟨Nat.le_of_ble_eq_true rfl, Nat.le_of_ble_eq_true rfl⟩) ⟨zPc_blind, zPc_pre hPc hKc hDc hE hS hFc hZ⟩ rfl rfl hl.1 rfl (lv_room (Nat.le_of_ble_eq_true rfl)) dX6_clear_13 ⟨Nat.le_of_ble_eq_true rfl, Nat.le_of_ble_eq_true rfl⟩) hS (fun q _ h => hFc q h) hFc (fun u13_ t H1 locs ht hvm hw hB hz1 hk1 hS => ?_)
  obtain ⟨w13_, a13_, b13_, hB13_0, hP1, hK1, hD1⟩ := hB
  have hB13_0 : ∀ j : Nat, (j : Int) < 400 → (a13_ 0) j = (0 : Int32) := hB13_0
  rw [ht] at hP1
  obtain ⟨hP, hD⟩ := va_join (wr := [(h0, .inr (6, mX6 h1 h2 h3 h4 h5 h6 h7 h8 v0)), (h1, .inl (k1, 1250, .inl (a5_ 0))), (h7, .inl (k7, 400, .inl f7)), (h8, .inl (k8, 400, .inl f8)), (h2, .inl (k2, 833, .inl f2)), (h5, .inl (k5, 400, .inl f5))]) (w1 := [(h6, .inl (k6, 400, .inl (a13_ 0)))]) hP hD [2] [0, 1, 3, 4, 5, 6] rfl rfl (by decide) (by decide) hk1 hFc hP1 hD1
  have hP : va_P (dC, dI) vwCl [(h0, .inr (6, mX6 h1 h2 h3 h4 h5 h6 h7 h8 v0)), (h1, .inl (k1, 1250, .inl (a5_ 0))), (h6, .inl (k6, 400, .inl (a13_ 0))), (h7, .inl (k7, 400, .inl f7)), (h8, .inl (k8, 400, .inl f8)), (h2, .inl (k2, 833, .inl f2)), (h5, .inl (k5, 400, .inl f5))] H1 := hP.sub [0, 1, 6, 2, 3, 4, 5] rfl
  have hD : va_D A [(h0, .inr (6, mX6 h1 h2 h3 h4 h5 h6 h7 h8 v0)), (h1, .inl (k1, 1250, .inl (a5_ 0))), (h6, .inl (k6, 400, .inl (a13_ 0))), (h7, .inl (k7, 400, .inl f7)), (h8, .inl (k8, 400, .inl f8)), (h2, .inl (k2, 833, .inl f2)), (h5, .inl (k5, 400, .inl f5))] := hD.sub [0, 1, 6, 2, 3, 4, 5] (by decide) rfl
  generalize H1 = H at hP hS ⊢
  clear hz1
  refine lv_aload_n hx hb dX6_clear_16 rfl (lv_at hl 0 rfl) ?_
  refine va_get (D := (dC, dI)) (ci := 6) (v := .ref h7) (C := RX6) (T := TX6) (N := 12) hx hb hG zuX6 hown hK hP 0 rfl rfl 6 (by decide) (hG _ zw168) (fun _ h9 => h9) rfl dX6_clear_17 ?_
  refine lv_iconst (v := 0) hx hb dX6_clear_20 (by decide) ?_
  have hPc := hP.sub (ws' := [(h7, .inl (k7, 400, .inl f7))]) [3] rfl
  have hDc := hD.sub (ws' := [(h7, .inl (k7, 400, .inl f7))]) [3] (by decide) rfl
  have hKc := hK.sub (tys' := [(k7, .int)]) [2] rfl
  have hFc := va_free (wc := [(h7, .inl (k7, 400, .inl f7))]) hD hS hA [3] rfl
  refine va_callv (va_runS (As := [.ref h7, .int 0]) (rest := []) ⟨hx, hb, hml, hown, hG⟩ (sJ7_fill_53178_3 l dC dI adK adV h7 k7 H.size f7 0) (va_cwS 2 hG (zgS zw188 zw102 zw103 zw104) rfl rfl rfl (by decide +kernel) ⟨Nat.le_of_ble_eq_true rfl, Nat.le_of_ble_eq_true rfl⟩) ⟨zPc_blind, zPc_pre hPc hKc hDc hE hS hFc hZ⟩ rfl rfl hl.1 rfl (lv_room (Nat.le_of_ble_eq_true rfl)) dX6_clear_21 ⟨Nat.le_of_ble_eq_true rfl, Nat.le_of_ble_eq_true rfl⟩) hS (fun q _ h => hFc q h) hFc (fun u21_ t H1 locs ht hvm hw hB hz1 hk1 hS => ?_)
  obtain ⟨w21_, a21_, b21_, hB21_0, hP1, hK1, hD1⟩ := hB
  have hB21_0 : ∀ j : Nat, (j : Int) < 400 → (a21_ 0) j = (0 : Int32) := hB21_0
  rw [ht] at hP1
  obtain ⟨hP, hD⟩ := va_join (wr := [(h0, .inr (6, mX6 h1 h2 h3 h4 h5 h6 h7 h8 v0)), (h1, .inl (k1, 1250, .inl (a5_ 0))), (h6, .inl (k6, 400, .inl (a13_ 0))), (h8, .inl (k8, 400, .inl f8)), (h2, .inl (k2, 833, .inl f2)), (h5, .inl (k5, 400, .inl f5))]) (w1 := [(h7, .inl (k7, 400, .inl (a21_ 0)))]) hP hD [3] [0, 1, 2, 4, 5, 6] rfl rfl (by decide) (by decide) hk1 hFc hP1 hD1
  have hP : va_P (dC, dI) vwCl [(h0, .inr (6, mX6 h1 h2 h3 h4 h5 h6 h7 h8 v0)), (h1, .inl (k1, 1250, .inl (a5_ 0))), (h6, .inl (k6, 400, .inl (a13_ 0))), (h7, .inl (k7, 400, .inl (a21_ 0))), (h8, .inl (k8, 400, .inl f8)), (h2, .inl (k2, 833, .inl f2)), (h5, .inl (k5, 400, .inl f5))] H1 := hP.sub [0, 1, 2, 6, 3, 4, 5] rfl
  have hD : va_D A [(h0, .inr (6, mX6 h1 h2 h3 h4 h5 h6 h7 h8 v0)), (h1, .inl (k1, 1250, .inl (a5_ 0))), (h6, .inl (k6, 400, .inl (a13_ 0))), (h7, .inl (k7, 400, .inl (a21_ 0))), (h8, .inl (k8, 400, .inl f8)), (h2, .inl (k2, 833, .inl f2)), (h5, .inl (k5, 400, .inl f5))] := hD.sub [0, 1, 2, 6, 3, 4, 5] (by decide) rfl
  generalize H1 = H at hP hS ⊢
  clear hz1
  refine lv_aload_n hx hb dX6_clear_24 rfl (lv_at hl 0 rfl) ?_
  refine va_get (D := (dC, dI)) (ci := 6) (v := .ref h8) (C := RX6) (T := TX6) (N := 12) hx hb hG zuX6 hown hK hP 0 rfl rfl 7 (by decide) (hG _ zw169) (fun _ h9 => h9) rfl dX6_clear_25 ?_
  refine lv_iconst (v := 0) hx hb dX6_clear_28 (by decide) ?_
  have hPc := hP.sub (ws' := [(h8, .inl (k8, 400, .inl f8))]) [4] rfl
  have hDc := hD.sub (ws' := [(h8, .inl (k8, 400, .inl f8))]) [4] (by decide) rfl
  have hKc := hK.sub (tys' := [(k8, .int)]) [3] rfl
  have hFc := va_free (wc := [(h8, .inl (k8, 400, .inl f8))]) hD hS hA [4] rfl
  refine va_callv (va_runS (As := [.ref h8, .int 0]) (rest := []) ⟨hx, hb, hml, hown, hG⟩ (sJ7_fill_53178_3 l dC dI adK adV h8 k8 H.size f8 0) (va_cwS 2 hG (zgS zw188 zw102 zw103 zw104) rfl rfl rfl (by decide +kernel) ⟨Nat.le_of_ble_eq_true rfl, Nat.le_of_ble_eq_true rfl⟩) ⟨zPc_blind, zPc_pre hPc hKc hDc hE hS hFc hZ⟩ rfl rfl hl.1 rfl (lv_room (Nat.le_of_ble_eq_true rfl)) dX6_clear_29 ⟨Nat.le_of_ble_eq_true rfl, Nat.le_of_ble_eq_true rfl⟩) hS (fun q _ h => hFc q h) hFc (fun u29_ t H1 locs ht hvm hw hB hz1 hk1 hS => ?_)
  obtain ⟨w29_, a29_, b29_, hB29_0, hP1, hK1, hD1⟩ := hB
  have hB29_0 : ∀ j : Nat, (j : Int) < 400 → (a29_ 0) j = (0 : Int32) := hB29_0
  rw [ht] at hP1
  obtain ⟨hP, hD⟩ := va_join (wr := [(h0, .inr (6, mX6 h1 h2 h3 h4 h5 h6 h7 h8 v0)), (h1, .inl (k1, 1250, .inl (a5_ 0))), (h6, .inl (k6, 400, .inl (a13_ 0))), (h7, .inl (k7, 400, .inl (a21_ 0))), (h2, .inl (k2, 833, .inl f2)), (h5, .inl (k5, 400, .inl f5))]) (w1 := [(h8, .inl (k8, 400, .inl (a29_ 0)))]) hP hD [4] [0, 1, 2, 3, 5, 6] rfl rfl (by decide) (by decide) hk1 hFc hP1 hD1
  have hP : va_P (dC, dI) vwCl [(h0, .inr (6, mX6 h1 h2 h3 h4 h5 h6 h7 h8 v0)), (h1, .inl (k1, 1250, .inl (a5_ 0))), (h6, .inl (k6, 400, .inl (a13_ 0))), (h7, .inl (k7, 400, .inl (a21_ 0))), (h8, .inl (k8, 400, .inl (a29_ 0))), (h2, .inl (k2, 833, .inl f2)), (h5, .inl (k5, 400, .inl f5))] H1 := hP.sub [0, 1, 2, 3, 6, 4, 5] rfl
  have hD : va_D A [(h0, .inr (6, mX6 h1 h2 h3 h4 h5 h6 h7 h8 v0)), (h1, .inl (k1, 1250, .inl (a5_ 0))), (h6, .inl (k6, 400, .inl (a13_ 0))), (h7, .inl (k7, 400, .inl (a21_ 0))), (h8, .inl (k8, 400, .inl (a29_ 0))), (h2, .inl (k2, 833, .inl f2)), (h5, .inl (k5, 400, .inl f5))] := hD.sub [0, 1, 2, 3, 6, 4, 5] (by decide) rfl
  generalize H1 = H at hP hS ⊢
  clear hz1
  refine lv_aload_n hx hb dX6_clear_32 rfl (lv_at hl 0 rfl) ?_
  refine lv_iconst (v := 0) hx hb dX6_clear_33 (by decide) ?_
  refine va_put (D := (dC, dI)) (ci := 6) (v := .int 0) (ty := .int) (C := RX6) (T := TX6) (N := 12) hx hb hG zuX6 tyX6 tyX6_ok nmX6 hown hK hP hD hS 0 rfl rfl 8 (by decide) (hG _ zw171) (fun _ h9 => h9) rfl (by decide +kernel) rfl rfl (Nat.le_of_ble_eq_true rfl) dX6_clear_34 (fun H locs hP hD hS => ?_)
  have hP : va_P (dC, dI) vwCl [(h0, .inr (6, mX6 h1 h2 h3 h4 h5 h6 h7 h8 (upd v0 8 0))), (h1, .inl (k1, 1250, .inl (a5_ 0))), (h6, .inl (k6, 400, .inl (a13_ 0))), (h7, .inl (k7, 400, .inl (a21_ 0))), (h8, .inl (k8, 400, .inl (a29_ 0))), (h2, .inl (k2, 833, .inl f2)), (h5, .inl (k5, 400, .inl f5))] H := hP
  have hD : va_D A [(h0, .inr (6, mX6 h1 h2 h3 h4 h5 h6 h7 h8 (upd v0 8 0))), (h1, .inl (k1, 1250, .inl (a5_ 0))), (h6, .inl (k6, 400, .inl (a13_ 0))), (h7, .inl (k7, 400, .inl (a21_ 0))), (h8, .inl (k8, 400, .inl (a29_ 0))), (h2, .inl (k2, 833, .inl f2)), (h5, .inl (k5, 400, .inl f5))] := hD
  refine lv_aload_n hx hb dX6_clear_37 rfl (lv_at hl 0 rfl) ?_
  refine lv_iconst (v := 0) hx hb dX6_clear_38 (by decide) ?_
  refine va_put (D := (dC, dI)) (ci := 6) (v := .int 0) (ty := .int) (C := RX6) (T := TX6) (N := 12) hx hb hG zuX6 tyX6 tyX6_ok nmX6 hown hK hP hD hS 0 rfl rfl 9 (by decide) (hG _ zw187) (fun _ h9 => h9) rfl (by decide +kernel) rfl rfl (Nat.le_of_ble_eq_true rfl) dX6_clear_39 (fun H locs hP hD hS => ?_)
  have hP : va_P (dC, dI) vwCl [(h0, .inr (6, mX6 h1 h2 h3 h4 h5 h6 h7 h8 (upd (upd v0 8 0) 9 0))), (h1, .inl (k1, 1250, .inl (a5_ 0))), (h6, .inl (k6, 400, .inl (a13_ 0))), (h7, .inl (k7, 400, .inl (a21_ 0))), (h8, .inl (k8, 400, .inl (a29_ 0))), (h2, .inl (k2, 833, .inl f2)), (h5, .inl (k5, 400, .inl f5))] H := hP
  have hD : va_D A [(h0, .inr (6, mX6 h1 h2 h3 h4 h5 h6 h7 h8 (upd (upd v0 8 0) 9 0))), (h1, .inl (k1, 1250, .inl (a5_ 0))), (h6, .inl (k6, 400, .inl (a13_ 0))), (h7, .inl (k7, 400, .inl (a21_ 0))), (h8, .inl (k8, 400, .inl (a29_ 0))), (h2, .inl (k2, 833, .inl f2)), (h5, .inl (k5, 400, .inl f5))] := hD
  refine lv_aload_n hx hb dX6_clear_42 rfl (lv_at hl 0 rfl) ?_
  refine lv_iconst (v := 0) hx hb dX6_clear_43 (by decide) ?_
  refine va_put (D := (dC, dI)) (ci := 6) (v := .int 0) (ty := .int) (C := RX6) (T := TX6) (N := 12) hx hb hG zuX6 tyX6 tyX6_ok nmX6 hown hK hP hD hS 0 rfl rfl 10 (by decide) (hG _ zw163) (fun _ h9 => h9) rfl (by decide +kernel) rfl rfl (Nat.le_of_ble_eq_true rfl) dX6_clear_44 (fun H locs hP hD hS => ?_)
  have hP : va_P (dC, dI) vwCl [(h0, .inr (6, mX6 h1 h2 h3 h4 h5 h6 h7 h8 (upd (upd (upd v0 8 0) 9 0) 10 0))), (h1, .inl (k1, 1250, .inl (a5_ 0))), (h6, .inl (k6, 400, .inl (a13_ 0))), (h7, .inl (k7, 400, .inl (a21_ 0))), (h8, .inl (k8, 400, .inl (a29_ 0))), (h2, .inl (k2, 833, .inl f2)), (h5, .inl (k5, 400, .inl f5))] H := hP
  have hD : va_D A [(h0, .inr (6, mX6 h1 h2 h3 h4 h5 h6 h7 h8 (upd (upd (upd v0 8 0) 9 0) 10 0))), (h1, .inl (k1, 1250, .inl (a5_ 0))), (h6, .inl (k6, 400, .inl (a13_ 0))), (h7, .inl (k7, 400, .inl (a21_ 0))), (h8, .inl (k8, 400, .inl (a29_ 0))), (h2, .inl (k2, 833, .inl f2)), (h5, .inl (k5, 400, .inl f5))] := hD
  refine lv_aload_n hx hb dX6_clear_47 rfl (lv_at hl 0 rfl) ?_
  refine lv_iconst (v := 0) hx hb dX6_clear_48 (by decide) ?_
  refine va_put (D := (dC, dI)) (ci := 6) (v := .int 0) (ty := .int) (C := RX6) (T := TX6) (N := 12) hx hb hG zuX6 tyX6 tyX6_ok nmX6 hown hK hP hD hS 0 rfl rfl 11 (by decide) (hG _ zw162) (fun _ h9 => h9) rfl (by decide +kernel) rfl rfl (Nat.le_of_ble_eq_true rfl) dX6_clear_49 (fun H locs hP hD hS => ?_)
  have hP : va_P (dC, dI) vwCl [(h0, .inr (6, mX6 h1 h2 h3 h4 h5 h6 h7 h8 (upd (upd (upd (upd v0 8 0) 9 0) 10 0) 11 0))), (h1, .inl (k1, 1250, .inl (a5_ 0))), (h6, .inl (k6, 400, .inl (a13_ 0))), (h7, .inl (k7, 400, .inl (a21_ 0))), (h8, .inl (k8, 400, .inl (a29_ 0))), (h2, .inl (k2, 833, .inl f2)), (h5, .inl (k5, 400, .inl f5))] H := hP
  have hD : va_D A [(h0, .inr (6, mX6 h1 h2 h3 h4 h5 h6 h7 h8 (upd (upd (upd (upd v0 8 0) 9 0) 10 0) 11 0))), (h1, .inl (k1, 1250, .inl (a5_ 0))), (h6, .inl (k6, 400, .inl (a13_ 0))), (h7, .inl (k7, 400, .inl (a21_ 0))), (h8, .inl (k8, 400, .inl (a29_ 0))), (h2, .inl (k2, 833, .inl f2)), (h5, .inl (k5, 400, .inl f5))] := hD
  refine W.widen (k := 0) (n := 0) (by decide) (by decide) ?_
  have hpost : (0 ≤ (0 : Int32).toInt ∧ (0 : Int32).toInt ≤ 0) ∧ (0 ≤ (0 : Int32).toInt ∧ (0 : Int32).toInt ≤ 0) ∧ (0 ≤ (0 : Int32).toInt ∧ (0 : Int32).toInt ≤ 0) ∧ (0 ≤ (0 : Int32).toInt ∧ (0 : Int32).toInt ≤ 0) := ⟨⟨by omega, by omega⟩, ⟨by omega, by omega⟩, ⟨by omega, by omega⟩, ⟨by omega, by omega⟩⟩
  have hP9 : va_P (dC, dI) vwCl [(h0, .inr (6, mX6 h1 h2 h3 h4 h5 h6 h7 h8 (upd (upd (upd (upd v0 8 0) 9 0) 10 0) 11 0))), (h1, .inl (k1, 1250, .inl (a5_ 0))), (h6, .inl (k6, 400, .inl (a13_ 0))), (h7, .inl (k7, 400, .inl (a21_ 0))), (h8, .inl (k8, 400, .inl (a29_ 0))), (h2, .inl (k2, 833, .inl f2)), (h5, .inl (k5, 400, .inl f5))] H := hP
  have hD9 : va_D A [(h0, .inr (6, mX6 h1 h2 h3 h4 h5 h6 h7 h8 (upd (upd (upd (upd v0 8 0) 9 0) 10 0) 11 0))), (h1, .inl (k1, 1250, .inl (a5_ 0))), (h6, .inl (k6, 400, .inl (a13_ 0))), (h7, .inl (k7, 400, .inl (a21_ 0))), (h8, .inl (k8, 400, .inl (a29_ 0))), (h2, .inl (k2, 833, .inl f2)), (h5, .inl (k5, 400, .inl f5))] := hD
  have hB0 : zPhi f2 f5 (a13_ 0) (0 : Int32).toInt (0 : Int32).toInt := by exact zPhi_0 (fun j hj => hB13_0 j (by omega)) (by omega)
  exact W.vret hx hb hr (fun t ht hW => ⟨⟨(fun i => ([0, 0, 0, 0] : List (Int32)).getD i 0), rfl, hpost, (fun _ => 0), (fun i => ([(a5_ 0), (a13_ 0), (a21_ 0), (a29_ 0)] : List (Nat → Int32)).getD i (fun _ => 0)), (fun _ => (fun _ => 0)), hB0, by rw [ht]; exact hP9, va_K.moved hW.alike hK, hD9⟩, hS.F ht⟩) hS.2.2 dX6_clear_52
set_option maxHeartbeats 8000000 in
set_option maxRecDepth 100000 in
theorem sX6_copyFrom_0 (l : Launch) (dC : Nat → ClassId) (dI : Nat → Nat → Nat) (adK adV : Nat → Nat) (h9 : Nat) (h0 : Nat) (h1 : Nat) (h10 : Nat) (h11 : Nat) (h2 : Nat) (h12 : Nat) (h3 : Nat) (h13 : Nat) (h4 : Nat) (h14 : Nat) (h5 : Nat) (h15 : Nat) (h6 : Nat) (h16 : Nat) (h7 : Nat) (h17 : Nat) (h8 : Nat) (k1 : ClassId) (k10 : ClassId) (k11 : ClassId) (k2 : ClassId) (k12 : ClassId) (k3 : ClassId) (k13 : ClassId) (k4 : ClassId) (k14 : ClassId) (k5 : ClassId) (k15 : ClassId) (k6 : ClassId) (k16 : ClassId) (k7 : ClassId) (k17 : ClassId) (k8 : ClassId) (sz : Nat) (v9 : Nat → Int32) (v0 : Nat → Int32) (f1 : Nat → Int32) (f10 : Nat → Int32) (f11 : Nat → Int32) (f2 : Nat → Int32) (f12 : Nat → Int32) (f3 : Nat → Int32) (f13 : Nat → Int32) (f4 : Nat → Int32) (f14 : Nat → Int32) (f5 : Nat → Int32) (f15 : Nat → Int32) (f6 : Nat → Int32) (f16 : Nat → Int32) (f7 : Nat → Int32) (f17 : Nat → Int32) (f8 : Nat → Int32) (hv9 : zR rg_Postings v9) (hv0 : zR rg_Postings v0) (hf11 : zA 0 1250 f11) (hf2 : zA 0 1250 f2) (hf14 : zA 0 832 f14) (hf5 : zA 0 832 f5) (hp0_ : zPhi f11 f14 f15 (v9 9).toInt (v9 8).toInt) : Met l yX6_copyFrom (zw yX6_copyFrom cX6_copyFrom 2 none) { frames := 1, cells := 0, slots := 0, locals := 100 } (zPc dC dI adK adV [.ref h0, .ref h9] sz [(h9, .inr (6, mX6 h10 h11 h12 h13 h14 h15 h16 h17 v9)), (h0, .inr (6, mX6 h1 h2 h3 h4 h5 h6 h7 h8 v0)), (h1, .inl (k1, 1250, .inl f1)), (h10, .inl (k10, 1250, .inl f10)), (h11, .inl (k11, 833, .inl f11)), (h2, .inl (k2, 833, .inl f2)), (h12, .inl (k12, 833, .inl f12)), (h3, .inl (k3, 833, .inl f3)), (h13, .inl (k13, 400, .inl f13)), (h4, .inl (k4, 400, .inl f4)), (h14, .inl (k14, 400, .inl f14)), (h5, .inl (k5, 400, .inl f5)), (h15, .inl (k15, 400, .inl f15)), (h6, .inl (k6, 400, .inl f6)), (h16, .inl (k16, 400, .inl f16)), (h7, .inl (k7, 400, .inl f7)), (h17, .inl (k17, 400, .inl f17)), (h8, .inl (k8, 400, .inl f8))] [(k1, .int), (k10, .int), (k11, .int), (k2, .int), (k12, .int), (k3, .int), (k13, .int), (k4, .int), (k14, .int), (k5, .int), (k15, .int), (k6, .int), (k16, .int), (k7, .int), (k17, .int), (k8, .int)]) (va_Qv (fun (u : Nat → Int32) => (0 ≤ (u 0).toInt ∧ (u 0).toInt ≤ 833) ∧ (0 ≤ (u 1).toInt ∧ (u 1).toInt ≤ 1250)) (fun (u : Nat → Int32) (t : State) => ∃ (ww : Nat → Int64) (aa : Nat → Nat → Int32) (bb : Nat → Nat → Int64), zA 0 1250 (aa 1) ∧ zA 0 832 (aa 4) ∧ (zPhi (aa 1) (aa 4) (aa 5) (u 1).toInt (u 0).toInt) ∧ va_P (dC, dI) vwCl [(h9, .inr (6, mX6 h10 h11 h12 h13 h14 h15 h16 h17 v9)), (h0, .inr (6, mX6 h1 h2 h3 h4 h5 h6 h7 h8 (upd (upd (upd (upd v0 8 (u 0)) 9 (u 1)) 10 (u 2)) 11 (u 3)))), (h1, .inl (k1, 1250, .inl (aa 0))), (h10, .inl (k10, 1250, .inl f10)), (h11, .inl (k11, 833, .inl f11)), (h2, .inl (k2, 833, .inl (aa 1))), (h12, .inl (k12, 833, .inl f12)), (h3, .inl (k3, 833, .inl (aa 2))), (h13, .inl (k13, 400, .inl f13)), (h4, .inl (k4, 400, .inl (aa 3))), (h14, .inl (k14, 400, .inl f14)), (h5, .inl (k5, 400, .inl (aa 4))), (h15, .inl (k15, 400, .inl f15)), (h6, .inl (k6, 400, .inl (aa 5))), (h16, .inl (k16, 400, .inl f16)), (h7, .inl (k7, 400, .inl (aa 6))), (h17, .inl (k17, 400, .inl f17)), (h8, .inl (k8, 400, .inl (aa 7)))] t.heap ∧ va_K (dC, dI) vwCl [(k1, .int), (k10, .int), (k11, .int), (k2, .int), (k12, .int), (k3, .int), (k13, .int), (k4, .int), (k14, .int), (k5, .int), (k15, .int), (k6, .int), (k16, .int), (k7, .int), (k17, .int), (k8, .int)] t ∧ va_D (va_A [(h9, .inr (6, mX6 h10 h11 h12 h13 h14 h15 h16 h17 v9)), (h0, .inr (6, mX6 h1 h2 h3 h4 h5 h6 h7 h8 v0)), (h1, .inl (k1, 1250, .inl f1)), (h10, .inl (k10, 1250, .inl f10)), (h11, .inl (k11, 833, .inl f11)), (h2, .inl (k2, 833, .inl f2)), (h12, .inl (k12, 833, .inl f12)), (h3, .inl (k3, 833, .inl f3)), (h13, .inl (k13, 400, .inl f13)), (h4, .inl (k4, 400, .inl f4)), (h14, .inl (k14, 400, .inl f14)), (h5, .inl (k5, 400, .inl f5)), (h15, .inl (k15, 400, .inl f15)), (h6, .inl (k6, 400, .inl f6)), (h16, .inl (k16, 400, .inl f16)), (h7, .inl (k7, 400, .inl f7)), (h17, .inl (k17, 400, .inl f17)), (h8, .inl (k8, 400, .inl f8))] sz) [(h9, .inr (6, mX6 h10 h11 h12 h13 h14 h15 h16 h17 v9)), (h0, .inr (6, mX6 h1 h2 h3 h4 h5 h6 h7 h8 (upd (upd (upd (upd v0 8 (u 0)) 9 (u 1)) 10 (u 2)) 11 (u 3)))), (h1, .inl (k1, 1250, .inl (aa 0))), (h10, .inl (k10, 1250, .inl f10)), (h11, .inl (k11, 833, .inl f11)), (h2, .inl (k2, 833, .inl (aa 1))), (h12, .inl (k12, 833, .inl f12)), (h3, .inl (k3, 833, .inl (aa 2))), (h13, .inl (k13, 400, .inl f13)), (h4, .inl (k4, 400, .inl (aa 3))), (h14, .inl (k14, 400, .inl f14)), (h5, .inl (k5, 400, .inl (aa 4))), (h15, .inl (k15, 400, .inl f15)), (h6, .inl (k6, 400, .inl (aa 5))), (h16, .inl (k16, 400, .inl f16)), (h7, .inl (k7, 400, .inl (aa 6))), (h17, .inl (k17, 400, .inl f17)), (h8, .inl (k8, 400, .inl (aa 7)))]) (va_A [(h9, .inr (6, mX6 h10 h11 h12 h13 h14 h15 h16 h17 v9)), (h0, .inr (6, mX6 h1 h2 h3 h4 h5 h6 h7 h8 v0)), (h1, .inl (k1, 1250, .inl f1)), (h10, .inl (k10, 1250, .inl f10)), (h11, .inl (k11, 833, .inl f11)), (h2, .inl (k2, 833, .inl f2)), (h12, .inl (k12, 833, .inl f12)), (h3, .inl (k3, 833, .inl f3)), (h13, .inl (k13, 400, .inl f13)), (h4, .inl (k4, 400, .inl f4)), (h14, .inl (k14, 400, .inl f14)), (h5, .inl (k5, 400, .inl f5)), (h15, .inl (k15, 400, .inl f15)), (h6, .inl (k6, 400, .inl f6)), (h16, .inl (k16, 400, .inl f16)), (h7, .inl (k7, 400, .inl f7)), (h17, .inl (k17, 400, .inl f17)), (h8, .inl (k8, 400, .inl f8))] sz)) 0 0 (va_A [(h9, .inr (6, mX6 h10 h11 h12 h13 h14 h15 h16 h17 v9)), (h0, .inr (6, mX6 h1 h2 h3 h4 h5 h6 h7 h8 v0)), (h1, .inl (k1, 1250, .inl f1)), (h10, .inl (k10, 1250, .inl f10)), (h11, .inl (k11, 833, .inl f11)), (h2, .inl (k2, 833, .inl f2)), (h12, .inl (k12, 833, .inl f12)), (h3, .inl (k3, 833, .inl f3)), (h13, .inl (k13, 400, .inl f13)), (h4, .inl (k4, 400, .inl f4)), (h14, .inl (k14, 400, .inl f14)), (h5, .inl (k5, 400, .inl f5)), (h15, .inl (k15, 400, .inl f15)), (h6, .inl (k6, 400, .inl f6)), (h16, .inl (k16, 400, .inl f16)), (h7, .inl (k7, 400, .inl f7)), (h17, .inl (k17, 400, .inl f17)), (h8, .inl (k8, 400, .inl f8))] sz) := by
  refine Met.ofW (cc := cX6_copyFrom) (maxL := 2) (ret := none) (by decide) rfl ?_
  intro p e s m args below meth c s₁ B hml hv
  obtain ⟨rfl, hsz, hP, hK, hD0, hE, hZ⟩ := hv
  have hx := B.exec
  have hb := B.bytes
  have hr := B.returns
  have hG : ∀ w ∈ zG, w.before _ s = true := fun w h => atoms_spec (ws := (zw yX6_copyFrom cX6_copyFrom 2 none)) B.pre w (List.mem_cons_of_mem _ h)
  have hown : s.vm.findClass RX6 = some m.cls := findClass_of_methodNamed B.named
  have hlocks := B.notSynchronized

  subst hsz
  have hD := hD0.self (sz := s.heap.size)
  generalize hAe : va_A [(h9, .inr (6, mX6 h10 h11 h12 h13 h14 h15 h16 h17 v9)), (h0, .inr (6, mX6 h1 h2 h3 h4 h5 h6 h7 h8 v0)), (h1, .inl (k1, 1250, .inl f1)), (h10, .inl (k10, 1250, .inl f10)), (h11, .inl (k11, 833, .inl f11)), (h2, .inl (k2, 833, .inl f2)), (h12, .inl (k12, 833, .inl f12)), (h3, .inl (k3, 833, .inl f3)), (h13, .inl (k13, 400, .inl f13)), (h4, .inl (k4, 400, .inl f4)), (h14, .inl (k14, 400, .inl f14)), (h5, .inl (k5, 400, .inl f5)), (h15, .inl (k15, 400, .inl f15)), (h6, .inl (k6, 400, .inl f6)), (h16, .inl (k16, 400, .inl f16)), (h7, .inl (k7, 400, .inl f7)), (h17, .inl (k17, 400, .inl f17)), (h8, .inl (k8, 400, .inl f8))] s.heap.size = A at hD hZ ⊢
  have hA : ∀ q : Nat, s.heap.size ≤ q → A q := fun q h => by rw [← hAe]; exact Or.inr h
  have hS : va_S A s.heap s.heap [] := va_S.rf
  have hl := lv_entry ([.ref h0, .ref h9]) (n := 2) (Nat.le_of_ble_eq_true rfl)
  rw [lg_entry_eq]
  generalize (lg_sl ([.ref h0, .ref h9]) ++ List.replicate (2 - (lg_sl ([.ref h0, .ref h9])).length) Slot.unset).toArray = ls at hl ⊢
  have hl : lv_has ls 2 [(0, .ref h0), (1, .ref h9)] := hl
  have b_ : 0 ≤ (v9 9).toInt ∧ (v9 9).toInt ≤ 1250 := hv9 9
  have b_ : 0 ≤ (v9 8).toInt ∧ (v9 8).toInt ≤ 833 := hv9 8
  refine lv_aload_n hx hb dX6_copyFrom_0 rfl (lv_at hl 1 rfl) ?_
  refine va_get (D := (dC, dI)) (ci := 6) (v := .ref h10) (C := RX6) (T := TX6) (N := 12) hx hb hG zuX6 hown hK hP 0 rfl rfl 0 (by decide) (hG _ zw174) (fun _ h9 => h9) rfl dX6_copyFrom_1 ?_
  refine lv_iconst (v := 0) hx hb dX6_copyFrom_4 (by decide) ?_
  refine lv_aload_n hx hb dX6_copyFrom_5 rfl (lv_at hl 0 rfl) ?_
  refine va_get (D := (dC, dI)) (ci := 6) (v := .ref h1) (C := RX6) (T := TX6) (N := 12) hx hb hG zuX6 hown hK hP 1 rfl rfl 0 (by decide) (hG _ zw174) (fun _ h9 => h9) rfl dX6_copyFrom_6 ?_
  refine lv_iconst (v := 0) hx hb dX6_copyFrom_9 (by decide) ?_
  refine lv_aload_n hx hb dX6_copyFrom_10 rfl (lv_at hl 0 rfl) ?_
  refine va_get (D := (dC, dI)) (ci := 6) (v := .ref h1) (C := RX6) (T := TX6) (N := 12) hx hb hG zuX6 hown hK hP 1 rfl rfl 0 (by decide) (hG _ zw174) (fun _ h9 => h9) rfl dX6_copyFrom_11 ?_
  refine va_alen (v := 1250) hx hb hK hP 2 0 rfl rfl (show Int32.ofNat 1250 = 1250 from by decide +kernel) dX6_copyFrom_14 ?_
  refine va_copyi (ty := .int) hx hb (by rw [hml]; exact hl.1.symm) hown (hG _ zw189) (hG _ zw97) (hG _ zw98) (hG _ zw99) hK hP hD hS 3 2 1 0 rfl rfl rfl rfl rfl (by decide) (by decide) (by decide) (zcl zk_0 zk_1250 (by omega) (by omega) (by omega)) (zcl zk_0 zk_1250 (by omega) (by omega) (by omega)) (fun _ _ => rfl) (Nat.le_of_ble_eq_true rfl) (Nat.le_of_ble_eq_true rfl) dX6_copyFrom_15 (fun H locs hP hD hS => ?_)
  obtain ⟨f_15, e_f_15⟩ : ∃ z : Nat → Int32, z = va_cpy f10 f1 (0 : Int32).toNatClampNeg (0 : Int32).toNatClampNeg (1250 : Int32).toNatClampNeg := ⟨_, rfl⟩
  have hP : va_P (dC, dI) vwCl [(h9, .inr (6, mX6 h10 h11 h12 h13 h14 h15 h16 h17 v9)), (h0, .inr (6, mX6 h1 h2 h3 h4 h5 h6 h7 h8 v0)), (h1, .inl (k1, 1250, .inl f_15)), (h10, .inl (k10, 1250, .inl f10)), (h11, .inl (k11, 833, .inl f11)), (h2, .inl (k2, 833, .inl f2)), (h12, .inl (k12, 833, .inl f12)), (h3, .inl (k3, 833, .inl f3)), (h13, .inl (k13, 400, .inl f13)), (h4, .inl (k4, 400, .inl f4)), (h14, .inl (k14, 400, .inl f14)), (h5, .inl (k5, 400, .inl f5)), (h15, .inl (k15, 400, .inl f15)), (h6, .inl (k6, 400, .inl f6)), (h16, .inl (k16, 400, .inl f16)), (h7, .inl (k7, 400, .inl f7)), (h17, .inl (k17, 400, .inl f17)), (h8, .inl (k8, 400, .inl f8))] H := by rw [e_f_15]; exact hP
  have hD : va_D A [(h9, .inr (6, mX6 h10 h11 h12 h13 h14 h15 h16 h17 v9)), (h0, .inr (6, mX6 h1 h2 h3 h4 h5 h6 h7 h8 v0)), (h1, .inl (k1, 1250, .inl f_15)), (h10, .inl (k10, 1250, .inl f10)), (h11, .inl (k11, 833, .inl f11)), (h2, .inl (k2, 833, .inl f2)), (h12, .inl (k12, 833, .inl f12)), (h3, .inl (k3, 833, .inl f3)), (h13, .inl (k13, 400, .inl f13)), (h4, .inl (k4, 400, .inl f4)), (h14, .inl (k14, 400, .inl f14)), (h5, .inl (k5, 400, .inl f5)), (h15, .inl (k15, 400, .inl f15)), (h6, .inl (k6, 400, .inl f6)), (h16, .inl (k16, 400, .inl f16)), (h7, .inl (k7, 400, .inl f7)), (h17, .inl (k17, 400, .inl f17)), (h8, .inl (k8, 400, .inl f8))] := by rw [e_f_15]; exact hD
  refine lv_aload_n hx hb dX6_copyFrom_18 rfl (lv_at hl 1 rfl) ?_
  refine va_get (D := (dC, dI)) (ci := 6) (v := .ref h11) (C := RX6) (T := TX6) (N := 12) hx hb hG zuX6 hown hK hP 0 rfl rfl 1 (by decide) (hG _ zw173) (fun _ h9 => h9) rfl dX6_copyFrom_19 ?_
  refine lv_iconst (v := 0) hx hb dX6_copyFrom_22 (by decide) ?_
  refine lv_aload_n hx hb dX6_copyFrom_23 rfl (lv_at hl 0 rfl) ?_
  refine va_get (D := (dC, dI)) (ci := 6) (v := .ref h2) (C := RX6) (T := TX6) (N := 12) hx hb hG zuX6 hown hK hP 1 rfl rfl 1 (by decide) (hG _ zw173) (fun _ h9 => h9) rfl dX6_copyFrom_24 ?_
  refine lv_iconst (v := 0) hx hb dX6_copyFrom_27 (by decide) ?_
  refine lv_sipush (v := 833) hx hb dX6_copyFrom_28 (by decide) ?_
  refine va_copyi (ty := .int) hx hb (by rw [hml]; exact hl.1.symm) hown (hG _ zw189) (hG _ zw97) (hG _ zw98) (hG _ zw99) hK hP hD hS 4 5 2 3 rfl rfl rfl rfl rfl (by decide) (by decide) (by decide) (zcl zk_0 zk_833 (by omega) (by omega) (by omega)) (zcl zk_0 zk_833 (by omega) (by omega) (by omega)) (fun _ _ => rfl) (Nat.le_of_ble_eq_true rfl) (Nat.le_of_ble_eq_true rfl) dX6_copyFrom_31 (fun H locs hP hD hS => ?_)
  obtain ⟨f_31, e_f_31⟩ : ∃ z : Nat → Int32, z = va_cpy f11 f2 (0 : Int32).toNatClampNeg (0 : Int32).toNatClampNeg (833 : Int32).toNatClampNeg := ⟨_, rfl⟩
  have hP : va_P (dC, dI) vwCl [(h9, .inr (6, mX6 h10 h11 h12 h13 h14 h15 h16 h17 v9)), (h0, .inr (6, mX6 h1 h2 h3 h4 h5 h6 h7 h8 v0)), (h1, .inl (k1, 1250, .inl f_15)), (h10, .inl (k10, 1250, .inl f10)), (h11, .inl (k11, 833, .inl f11)), (h2, .inl (k2, 833, .inl f_31)), (h12, .inl (k12, 833, .inl f12)), (h3, .inl (k3, 833, .inl f3)), (h13, .inl (k13, 400, .inl f13)), (h4, .inl (k4, 400, .inl f4)), (h14, .inl (k14, 400, .inl f14)), (h5, .inl (k5, 400, .inl f5)), (h15, .inl (k15, 400, .inl f15)), (h6, .inl (k6, 400, .inl f6)), (h16, .inl (k16, 400, .inl f16)), (h7, .inl (k7, 400, .inl f7)), (h17, .inl (k17, 400, .inl f17)), (h8, .inl (k8, 400, .inl f8))] H := by rw [e_f_31]; exact hP
  have hD : va_D A [(h9, .inr (6, mX6 h10 h11 h12 h13 h14 h15 h16 h17 v9)), (h0, .inr (6, mX6 h1 h2 h3 h4 h5 h6 h7 h8 v0)), (h1, .inl (k1, 1250, .inl f_15)), (h10, .inl (k10, 1250, .inl f10)), (h11, .inl (k11, 833, .inl f11)), (h2, .inl (k2, 833, .inl f_31)), (h12, .inl (k12, 833, .inl f12)), (h3, .inl (k3, 833, .inl f3)), (h13, .inl (k13, 400, .inl f13)), (h4, .inl (k4, 400, .inl f4)), (h14, .inl (k14, 400, .inl f14)), (h5, .inl (k5, 400, .inl f5)), (h15, .inl (k15, 400, .inl f15)), (h6, .inl (k6, 400, .inl f6)), (h16, .inl (k16, 400, .inl f16)), (h7, .inl (k7, 400, .inl f7)), (h17, .inl (k17, 400, .inl f17)), (h8, .inl (k8, 400, .inl f8))] := by rw [e_f_31]; exact hD
  have hf_31 : zA 0 1250 f_31 := by rw [e_f_31]; exact zA_cpy hf11 hf2
  refine lv_aload_n hx hb dX6_copyFrom_34 rfl (lv_at hl 1 rfl) ?_
  refine va_get (D := (dC, dI)) (ci := 6) (v := .ref h12) (C := RX6) (T := TX6) (N := 12) hx hb hG zuX6 hown hK hP 0 rfl rfl 2 (by decide) (hG _ zw172) (fun _ h9 => h9) rfl dX6_copyFrom_35 ?_
  refine lv_iconst (v := 0) hx hb dX6_copyFrom_38 (by decide) ?_
  refine lv_aload_n hx hb dX6_copyFrom_39 rfl (lv_at hl 0 rfl) ?_
  refine va_get (D := (dC, dI)) (ci := 6) (v := .ref h3) (C := RX6) (T := TX6) (N := 12) hx hb hG zuX6 hown hK hP 1 rfl rfl 2 (by decide) (hG _ zw172) (fun _ h9 => h9) rfl dX6_copyFrom_40 ?_
  refine lv_iconst (v := 0) hx hb dX6_copyFrom_43 (by decide) ?_
  refine lv_sipush (v := 833) hx hb dX6_copyFrom_44 (by decide) ?_
  refine va_copyi (ty := .int) hx hb (by rw [hml]; exact hl.1.symm) hown (hG _ zw189) (hG _ zw97) (hG _ zw98) (hG _ zw99) hK hP hD hS 6 7 4 5 rfl rfl rfl rfl rfl (by decide) (by decide) (by decide) (zcl zk_0 zk_833 (by omega) (by omega) (by omega)) (zcl zk_0 zk_833 (by omega) (by omega) (by omega)) (fun _ _ => rfl) (Nat.le_of_ble_eq_true rfl) (Nat.le_of_ble_eq_true rfl) dX6_copyFrom_47 (fun H locs hP hD hS => ?_)
  obtain ⟨f_47, e_f_47⟩ : ∃ z : Nat → Int32, z = va_cpy f12 f3 (0 : Int32).toNatClampNeg (0 : Int32).toNatClampNeg (833 : Int32).toNatClampNeg := ⟨_, rfl⟩
  have hP : va_P (dC, dI) vwCl [(h9, .inr (6, mX6 h10 h11 h12 h13 h14 h15 h16 h17 v9)), (h0, .inr (6, mX6 h1 h2 h3 h4 h5 h6 h7 h8 v0)), (h1, .inl (k1, 1250, .inl f_15)), (h10, .inl (k10, 1250, .inl f10)), (h11, .inl (k11, 833, .inl f11)), (h2, .inl (k2, 833, .inl f_31)), (h12, .inl (k12, 833, .inl f12)), (h3, .inl (k3, 833, .inl f_47)), (h13, .inl (k13, 400, .inl f13)), (h4, .inl (k4, 400, .inl f4)), (h14, .inl (k14, 400, .inl f14)), (h5, .inl (k5, 400, .inl f5)), (h15, .inl (k15, 400, .inl f15)), (h6, .inl (k6, 400, .inl f6)), (h16, .inl (k16, 400, .inl f16)), (h7, .inl (k7, 400, .inl f7)), (h17, .inl (k17, 400, .inl f17)), (h8, .inl (k8, 400, .inl f8))] H := by rw [e_f_47]; exact hP
  have hD : va_D A [(h9, .inr (6, mX6 h10 h11 h12 h13 h14 h15 h16 h17 v9)), (h0, .inr (6, mX6 h1 h2 h3 h4 h5 h6 h7 h8 v0)), (h1, .inl (k1, 1250, .inl f_15)), (h10, .inl (k10, 1250, .inl f10)), (h11, .inl (k11, 833, .inl f11)), (h2, .inl (k2, 833, .inl f_31)), (h12, .inl (k12, 833, .inl f12)), (h3, .inl (k3, 833, .inl f_47)), (h13, .inl (k13, 400, .inl f13)), (h4, .inl (k4, 400, .inl f4)), (h14, .inl (k14, 400, .inl f14)), (h5, .inl (k5, 400, .inl f5)), (h15, .inl (k15, 400, .inl f15)), (h6, .inl (k6, 400, .inl f6)), (h16, .inl (k16, 400, .inl f16)), (h7, .inl (k7, 400, .inl f7)), (h17, .inl (k17, 400, .inl f17)), (h8, .inl (k8, 400, .inl f8))] := by rw [e_f_47]; exact hD
  refine lv_aload_n hx hb dX6_copyFrom_50 rfl (lv_at hl 1 rfl) ?_
  refine va_get (D := (dC, dI)) (ci := 6) (v := .ref h13) (C := RX6) (T := TX6) (N := 12) hx hb hG zuX6 hown hK hP 0 rfl rfl 3 (by decide) (hG _ zw170) (fun _ h9 => h9) rfl dX6_copyFrom_51 ?_
  refine lv_iconst (v := 0) hx hb dX6_copyFrom_54 (by decide) ?_
  refine lv_aload_n hx hb dX6_copyFrom_55 rfl (lv_at hl 0 rfl) ?_
  refine va_get (D := (dC, dI)) (ci := 6) (v := .ref h4) (C := RX6) (T := TX6) (N := 12) hx hb hG zuX6 hown hK hP 1 rfl rfl 3 (by decide) (hG _ zw170) (fun _ h9 => h9) rfl dX6_copyFrom_56 ?_
  refine lv_iconst (v := 0) hx hb dX6_copyFrom_59 (by decide) ?_
  refine lv_sipush (v := 400) hx hb dX6_copyFrom_60 (by decide) ?_
  refine va_copyi (ty := .int) hx hb (by rw [hml]; exact hl.1.symm) hown (hG _ zw189) (hG _ zw97) (hG _ zw98) (hG _ zw99) hK hP hD hS 8 9 6 7 rfl rfl rfl rfl rfl (by decide) (by decide) (by decide) (zcl zk_0 zk_400 (by omega) (by omega) (by omega)) (zcl zk_0 zk_400 (by omega) (by omega) (by omega)) (fun _ _ => rfl) (Nat.le_of_ble_eq_true rfl) (Nat.le_of_ble_eq_true rfl) dX6_copyFrom_63 (fun H locs hP hD hS => ?_)
  obtain ⟨f_63, e_f_63⟩ : ∃ z : Nat → Int32, z = va_cpy f13 f4 (0 : Int32).toNatClampNeg (0 : Int32).toNatClampNeg (400 : Int32).toNatClampNeg := ⟨_, rfl⟩
  have hP : va_P (dC, dI) vwCl [(h9, .inr (6, mX6 h10 h11 h12 h13 h14 h15 h16 h17 v9)), (h0, .inr (6, mX6 h1 h2 h3 h4 h5 h6 h7 h8 v0)), (h1, .inl (k1, 1250, .inl f_15)), (h10, .inl (k10, 1250, .inl f10)), (h11, .inl (k11, 833, .inl f11)), (h2, .inl (k2, 833, .inl f_31)), (h12, .inl (k12, 833, .inl f12)), (h3, .inl (k3, 833, .inl f_47)), (h13, .inl (k13, 400, .inl f13)), (h4, .inl (k4, 400, .inl f_63)), (h14, .inl (k14, 400, .inl f14)), (h5, .inl (k5, 400, .inl f5)), (h15, .inl (k15, 400, .inl f15)), (h6, .inl (k6, 400, .inl f6)), (h16, .inl (k16, 400, .inl f16)), (h7, .inl (k7, 400, .inl f7)), (h17, .inl (k17, 400, .inl f17)), (h8, .inl (k8, 400, .inl f8))] H := by rw [e_f_63]; exact hP
  have hD : va_D A [(h9, .inr (6, mX6 h10 h11 h12 h13 h14 h15 h16 h17 v9)), (h0, .inr (6, mX6 h1 h2 h3 h4 h5 h6 h7 h8 v0)), (h1, .inl (k1, 1250, .inl f_15)), (h10, .inl (k10, 1250, .inl f10)), (h11, .inl (k11, 833, .inl f11)), (h2, .inl (k2, 833, .inl f_31)), (h12, .inl (k12, 833, .inl f12)), (h3, .inl (k3, 833, .inl f_47)), (h13, .inl (k13, 400, .inl f13)), (h4, .inl (k4, 400, .inl f_63)), (h14, .inl (k14, 400, .inl f14)), (h5, .inl (k5, 400, .inl f5)), (h15, .inl (k15, 400, .inl f15)), (h6, .inl (k6, 400, .inl f6)), (h16, .inl (k16, 400, .inl f16)), (h7, .inl (k7, 400, .inl f7)), (h17, .inl (k17, 400, .inl f17)), (h8, .inl (k8, 400, .inl f8))] := by rw [e_f_63]; exact hD
  refine lv_aload_n hx hb dX6_copyFrom_66 rfl (lv_at hl 1 rfl) ?_
  refine va_get (D := (dC, dI)) (ci := 6) (v := .ref h14) (C := RX6) (T := TX6) (N := 12) hx hb hG zuX6 hown hK hP 0 rfl rfl 4 (by decide) (hG _ zw190) (fun _ h9 => h9) rfl dX6_copyFrom_67 ?_
  refine lv_iconst (v := 0) hx hb dX6_copyFrom_70 (by decide) ?_
  refine lv_aload_n hx hb dX6_copyFrom_71 rfl (lv_at hl 0 rfl) ?_
  refine va_get (D := (dC, dI)) (ci := 6) (v := .ref h5) (C := RX6) (T := TX6) (N := 12) hx hb hG zuX6 hown hK hP 1 rfl rfl 4 (by decide) (hG _ zw190) (fun _ h9 => h9) rfl dX6_copyFrom_72 ?_
  refine lv_iconst (v := 0) hx hb dX6_copyFrom_75 (by decide) ?_
  refine lv_sipush (v := 400) hx hb dX6_copyFrom_76 (by decide) ?_
  refine va_copyi (ty := .int) hx hb (by rw [hml]; exact hl.1.symm) hown (hG _ zw189) (hG _ zw97) (hG _ zw98) (hG _ zw99) hK hP hD hS 10 11 8 9 rfl rfl rfl rfl rfl (by decide) (by decide) (by decide) (zcl zk_0 zk_400 (by omega) (by omega) (by omega)) (zcl zk_0 zk_400 (by omega) (by omega) (by omega)) (fun _ _ => rfl) (Nat.le_of_ble_eq_true rfl) (Nat.le_of_ble_eq_true rfl) dX6_copyFrom_79 (fun H locs hP hD hS => ?_)
  obtain ⟨f_79, e_f_79⟩ : ∃ z : Nat → Int32, z = va_cpy f14 f5 (0 : Int32).toNatClampNeg (0 : Int32).toNatClampNeg (400 : Int32).toNatClampNeg := ⟨_, rfl⟩
  have hP : va_P (dC, dI) vwCl [(h9, .inr (6, mX6 h10 h11 h12 h13 h14 h15 h16 h17 v9)), (h0, .inr (6, mX6 h1 h2 h3 h4 h5 h6 h7 h8 v0)), (h1, .inl (k1, 1250, .inl f_15)), (h10, .inl (k10, 1250, .inl f10)), (h11, .inl (k11, 833, .inl f11)), (h2, .inl (k2, 833, .inl f_31)), (h12, .inl (k12, 833, .inl f12)), (h3, .inl (k3, 833, .inl f_47)), (h13, .inl (k13, 400, .inl f13)), (h4, .inl (k4, 400, .inl f_63)), (h14, .inl (k14, 400, .inl f14)), (h5, .inl (k5, 400, .inl f_79)), (h15, .inl (k15, 400, .inl f15)), (h6, .inl (k6, 400, .inl f6)), (h16, .inl (k16, 400, .inl f16)), (h7, .inl (k7, 400, .inl f7)), (h17, .inl (k17, 400, .inl f17)), (h8, .inl (k8, 400, .inl f8))] H := by rw [e_f_79]; exact hP
  have hD : va_D A [(h9, .inr (6, mX6 h10 h11 h12 h13 h14 h15 h16 h17 v9)), (h0, .inr (6, mX6 h1 h2 h3 h4 h5 h6 h7 h8 v0)), (h1, .inl (k1, 1250, .inl f_15)), (h10, .inl (k10, 1250, .inl f10)), (h11, .inl (k11, 833, .inl f11)), (h2, .inl (k2, 833, .inl f_31)), (h12, .inl (k12, 833, .inl f12)), (h3, .inl (k3, 833, .inl f_47)), (h13, .inl (k13, 400, .inl f13)), (h4, .inl (k4, 400, .inl f_63)), (h14, .inl (k14, 400, .inl f14)), (h5, .inl (k5, 400, .inl f_79)), (h15, .inl (k15, 400, .inl f15)), (h6, .inl (k6, 400, .inl f6)), (h16, .inl (k16, 400, .inl f16)), (h7, .inl (k7, 400, .inl f7)), (h17, .inl (k17, 400, .inl f17)), (h8, .inl (k8, 400, .inl f8))] := by rw [e_f_79]; exact hD
  have hf_79 : zA 0 832 f_79 := by rw [e_f_79]; exact zA_cpy hf14 hf5
  refine lv_aload_n hx hb dX6_copyFrom_82 rfl (lv_at hl 1 rfl) ?_
  refine va_get (D := (dC, dI)) (ci := 6) (v := .ref h15) (C := RX6) (T := TX6) (N := 12) hx hb hG zuX6 hown hK hP 0 rfl rfl 5 (by decide) (hG _ zw164) (fun _ h9 => h9) rfl dX6_copyFrom_83 ?_
  refine lv_iconst (v := 0) hx hb dX6_copyFrom_86 (by decide) ?_
  refine lv_aload_n hx hb dX6_copyFrom_87 rfl (lv_at hl 0 rfl) ?_
  refine va_get (D := (dC, dI)) (ci := 6) (v := .ref h6) (C := RX6) (T := TX6) (N := 12) hx hb hG zuX6 hown hK hP 1 rfl rfl 5 (by decide) (hG _ zw164) (fun _ h9 => h9) rfl dX6_copyFrom_88 ?_
  refine lv_iconst (v := 0) hx hb dX6_copyFrom_91 (by decide) ?_
  refine lv_sipush (v := 400) hx hb dX6_copyFrom_92 (by decide) ?_
  refine va_copyi (ty := .int) hx hb (by rw [hml]; exact hl.1.symm) hown (hG _ zw189) (hG _ zw97) (hG _ zw98) (hG _ zw99) hK hP hD hS 12 13 10 11 rfl rfl rfl rfl rfl (by decide) (by decide) (by decide) (zcl zk_0 zk_400 (by omega) (by omega) (by omega)) (zcl zk_0 zk_400 (by omega) (by omega) (by omega)) (fun _ _ => rfl) (Nat.le_of_ble_eq_true rfl) (Nat.le_of_ble_eq_true rfl) dX6_copyFrom_95 (fun H locs hP hD hS => ?_)
  obtain ⟨f_95, e_f_95⟩ : ∃ z : Nat → Int32, z = va_cpy f15 f6 (0 : Int32).toNatClampNeg (0 : Int32).toNatClampNeg (400 : Int32).toNatClampNeg := ⟨_, rfl⟩
  have hP : va_P (dC, dI) vwCl [(h9, .inr (6, mX6 h10 h11 h12 h13 h14 h15 h16 h17 v9)), (h0, .inr (6, mX6 h1 h2 h3 h4 h5 h6 h7 h8 v0)), (h1, .inl (k1, 1250, .inl f_15)), (h10, .inl (k10, 1250, .inl f10)), (h11, .inl (k11, 833, .inl f11)), (h2, .inl (k2, 833, .inl f_31)), (h12, .inl (k12, 833, .inl f12)), (h3, .inl (k3, 833, .inl f_47)), (h13, .inl (k13, 400, .inl f13)), (h4, .inl (k4, 400, .inl f_63)), (h14, .inl (k14, 400, .inl f14)), (h5, .inl (k5, 400, .inl f_79)), (h15, .inl (k15, 400, .inl f15)), (h6, .inl (k6, 400, .inl f_95)), (h16, .inl (k16, 400, .inl f16)), (h7, .inl (k7, 400, .inl f7)), (h17, .inl (k17, 400, .inl f17)), (h8, .inl (k8, 400, .inl f8))] H := by rw [e_f_95]; exact hP
  have hD : va_D A [(h9, .inr (6, mX6 h10 h11 h12 h13 h14 h15 h16 h17 v9)), (h0, .inr (6, mX6 h1 h2 h3 h4 h5 h6 h7 h8 v0)), (h1, .inl (k1, 1250, .inl f_15)), (h10, .inl (k10, 1250, .inl f10)), (h11, .inl (k11, 833, .inl f11)), (h2, .inl (k2, 833, .inl f_31)), (h12, .inl (k12, 833, .inl f12)), (h3, .inl (k3, 833, .inl f_47)), (h13, .inl (k13, 400, .inl f13)), (h4, .inl (k4, 400, .inl f_63)), (h14, .inl (k14, 400, .inl f14)), (h5, .inl (k5, 400, .inl f_79)), (h15, .inl (k15, 400, .inl f15)), (h6, .inl (k6, 400, .inl f_95)), (h16, .inl (k16, 400, .inl f16)), (h7, .inl (k7, 400, .inl f7)), (h17, .inl (k17, 400, .inl f17)), (h8, .inl (k8, 400, .inl f8))] := by rw [e_f_95]; exact hD
  refine lv_aload_n hx hb dX6_copyFrom_98 rfl (lv_at hl 1 rfl) ?_
  refine va_get (D := (dC, dI)) (ci := 6) (v := .ref h16) (C := RX6) (T := TX6) (N := 12) hx hb hG zuX6 hown hK hP 0 rfl rfl 6 (by decide) (hG _ zw168) (fun _ h9 => h9) rfl dX6_copyFrom_99 ?_
  refine lv_iconst (v := 0) hx hb dX6_copyFrom_102 (by decide) ?_
  refine lv_aload_n hx hb dX6_copyFrom_103 rfl (lv_at hl 0 rfl) ?_
  refine va_get (D := (dC, dI)) (ci := 6) (v := .ref h7) (C := RX6) (T := TX6) (N := 12) hx hb hG zuX6 hown hK hP 1 rfl rfl 6 (by decide) (hG _ zw168) (fun _ h9 => h9) rfl dX6_copyFrom_104 ?_
  refine lv_iconst (v := 0) hx hb dX6_copyFrom_107 (by decide) ?_
  refine lv_sipush (v := 400) hx hb dX6_copyFrom_108 (by decide) ?_
  refine va_copyi (ty := .int) hx hb (by rw [hml]; exact hl.1.symm) hown (hG _ zw189) (hG _ zw97) (hG _ zw98) (hG _ zw99) hK hP hD hS 14 15 12 13 rfl rfl rfl rfl rfl (by decide) (by decide) (by decide) (zcl zk_0 zk_400 (by omega) (by omega) (by omega)) (zcl zk_0 zk_400 (by omega) (by omega) (by omega)) (fun _ _ => rfl) (Nat.le_of_ble_eq_true rfl) (Nat.le_of_ble_eq_true rfl) dX6_copyFrom_111 (fun H locs hP hD hS => ?_)
  obtain ⟨f_111, e_f_111⟩ : ∃ z : Nat → Int32, z = va_cpy f16 f7 (0 : Int32).toNatClampNeg (0 : Int32).toNatClampNeg (400 : Int32).toNatClampNeg := ⟨_, rfl⟩
  have hP : va_P (dC, dI) vwCl [(h9, .inr (6, mX6 h10 h11 h12 h13 h14 h15 h16 h17 v9)), (h0, .inr (6, mX6 h1 h2 h3 h4 h5 h6 h7 h8 v0)), (h1, .inl (k1, 1250, .inl f_15)), (h10, .inl (k10, 1250, .inl f10)), (h11, .inl (k11, 833, .inl f11)), (h2, .inl (k2, 833, .inl f_31)), (h12, .inl (k12, 833, .inl f12)), (h3, .inl (k3, 833, .inl f_47)), (h13, .inl (k13, 400, .inl f13)), (h4, .inl (k4, 400, .inl f_63)), (h14, .inl (k14, 400, .inl f14)), (h5, .inl (k5, 400, .inl f_79)), (h15, .inl (k15, 400, .inl f15)), (h6, .inl (k6, 400, .inl f_95)), (h16, .inl (k16, 400, .inl f16)), (h7, .inl (k7, 400, .inl f_111)), (h17, .inl (k17, 400, .inl f17)), (h8, .inl (k8, 400, .inl f8))] H := by rw [e_f_111]; exact hP
  have hD : va_D A [(h9, .inr (6, mX6 h10 h11 h12 h13 h14 h15 h16 h17 v9)), (h0, .inr (6, mX6 h1 h2 h3 h4 h5 h6 h7 h8 v0)), (h1, .inl (k1, 1250, .inl f_15)), (h10, .inl (k10, 1250, .inl f10)), (h11, .inl (k11, 833, .inl f11)), (h2, .inl (k2, 833, .inl f_31)), (h12, .inl (k12, 833, .inl f12)), (h3, .inl (k3, 833, .inl f_47)), (h13, .inl (k13, 400, .inl f13)), (h4, .inl (k4, 400, .inl f_63)), (h14, .inl (k14, 400, .inl f14)), (h5, .inl (k5, 400, .inl f_79)), (h15, .inl (k15, 400, .inl f15)), (h6, .inl (k6, 400, .inl f_95)), (h16, .inl (k16, 400, .inl f16)), (h7, .inl (k7, 400, .inl f_111)), (h17, .inl (k17, 400, .inl f17)), (h8, .inl (k8, 400, .inl f8))] := by rw [e_f_111]; exact hD
  refine lv_aload_n hx hb dX6_copyFrom_114 rfl (lv_at hl 1 rfl) ?_
  refine va_get (D := (dC, dI)) (ci := 6) (v := .ref h17) (C := RX6) (T := TX6) (N := 12) hx hb hG zuX6 hown hK hP 0 rfl rfl 7 (by decide) (hG _ zw169) (fun _ h9 => h9) rfl dX6_copyFrom_115 ?_
  refine lv_iconst (v := 0) hx hb dX6_copyFrom_118 (by decide) ?_
  refine lv_aload_n hx hb dX6_copyFrom_119 rfl (lv_at hl 0 rfl) ?_
  refine va_get (D := (dC, dI)) (ci := 6) (v := .ref h8) (C := RX6) (T := TX6) (N := 12) hx hb hG zuX6 hown hK hP 1 rfl rfl 7 (by decide) (hG _ zw169) (fun _ h9 => h9) rfl dX6_copyFrom_120 ?_
  refine lv_iconst (v := 0) hx hb dX6_copyFrom_123 (by decide) ?_
  refine lv_sipush (v := 400) hx hb dX6_copyFrom_124 (by decide) ?_
  refine va_copyi (ty := .int) hx hb (by rw [hml]; exact hl.1.symm) hown (hG _ zw189) (hG _ zw97) (hG _ zw98) (hG _ zw99) hK hP hD hS 16 17 14 15 rfl rfl rfl rfl rfl (by decide) (by decide) (by decide) (zcl zk_0 zk_400 (by omega) (by omega) (by omega)) (zcl zk_0 zk_400 (by omega) (by omega) (by omega)) (fun _ _ => rfl) (Nat.le_of_ble_eq_true rfl) (Nat.le_of_ble_eq_true rfl) dX6_copyFrom_127 (fun H locs hP hD hS => ?_)
  obtain ⟨f_127, e_f_127⟩ : ∃ z : Nat → Int32, z = va_cpy f17 f8 (0 : Int32).toNatClampNeg (0 : Int32).toNatClampNeg (400 : Int32).toNatClampNeg := ⟨_, rfl⟩
  have hP : va_P (dC, dI) vwCl [(h9, .inr (6, mX6 h10 h11 h12 h13 h14 h15 h16 h17 v9)), (h0, .inr (6, mX6 h1 h2 h3 h4 h5 h6 h7 h8 v0)), (h1, .inl (k1, 1250, .inl f_15)), (h10, .inl (k10, 1250, .inl f10)), (h11, .inl (k11, 833, .inl f11)), (h2, .inl (k2, 833, .inl f_31)), (h12, .inl (k12, 833, .inl f12)), (h3, .inl (k3, 833, .inl f_47)), (h13, .inl (k13, 400, .inl f13)), (h4, .inl (k4, 400, .inl f_63)), (h14, .inl (k14, 400, .inl f14)), (h5, .inl (k5, 400, .inl f_79)), (h15, .inl (k15, 400, .inl f15)), (h6, .inl (k6, 400, .inl f_95)), (h16, .inl (k16, 400, .inl f16)), (h7, .inl (k7, 400, .inl f_111)), (h17, .inl (k17, 400, .inl f17)), (h8, .inl (k8, 400, .inl f_127))] H := by rw [e_f_127]; exact hP
  have hD : va_D A [(h9, .inr (6, mX6 h10 h11 h12 h13 h14 h15 h16 h17 v9)), (h0, .inr (6, mX6 h1 h2 h3 h4 h5 h6 h7 h8 v0)), (h1, .inl (k1, 1250, .inl f_15)), (h10, .inl (k10, 1250, .inl f10)), (h11, .inl (k11, 833, .inl f11)), (h2, .inl (k2, 833, .inl f_31)), (h12, .inl (k12, 833, .inl f12)), (h3, .inl (k3, 833, .inl f_47)), (h13, .inl (k13, 400, .inl f13)), (h4, .inl (k4, 400, .inl f_63)), (h14, .inl (k14, 400, .inl f14)), (h5, .inl (k5, 400, .inl f_79)), (h15, .inl (k15, 400, .inl f15)), (h6, .inl (k6, 400, .inl f_95)), (h16, .inl (k16, 400, .inl f16)), (h7, .inl (k7, 400, .inl f_111)), (h17, .inl (k17, 400, .inl f17)), (h8, .inl (k8, 400, .inl f_127))] := by rw [e_f_127]; exact hD
  refine lv_aload_n hx hb dX6_copyFrom_130 rfl (lv_at hl 0 rfl) ?_
  refine lv_aload_n hx hb dX6_copyFrom_131 rfl (lv_at hl 1 rfl) ?_
  refine va_get (D := (dC, dI)) (ci := 6) (v := .int (v9 8)) (C := RX6) (T := TX6) (N := 12) hx hb hG zuX6 hown hK hP 0 rfl rfl 8 (by decide) (hG _ zw171) (fun _ h9 => h9) rfl dX6_copyFrom_132 ?_
  refine va_put (D := (dC, dI)) (ci := 6) (v := .int (v9 8)) (ty := .int) (C := RX6) (T := TX6) (N := 12) hx hb hG zuX6 tyX6 tyX6_ok nmX6 hown hK hP hD hS 1 rfl rfl 8 (by decide) (hG _ zw171) (fun _ h9 => h9) rfl (by decide +kernel) rfl rfl (Nat.le_of_ble_eq_true rfl) dX6_copyFrom_135 (fun H locs hP hD hS => ?_)
  have hP : va_P (dC, dI) vwCl [(h9, .inr (6, mX6 h10 h11 h12 h13 h14 h15 h16 h17 v9)), (h0, .inr (6, mX6 h1 h2 h3 h4 h5 h6 h7 h8 (upd v0 8 (v9 8)))), (h1, .inl (k1, 1250, .inl f_15)), (h10, .inl (k10, 1250, .inl f10)), (h11, .inl (k11, 833, .inl f11)), (h2, .inl (k2, 833, .inl f_31)), (h12, .inl (k12, 833, .inl f12)), (h3, .inl (k3, 833, .inl f_47)), (h13, .inl (k13, 400, .inl f13)), (h4, .inl (k4, 400, .inl f_63)), (h14, .inl (k14, 400, .inl f14)), (h5, .inl (k5, 400, .inl f_79)), (h15, .inl (k15, 400, .inl f15)), (h6, .inl (k6, 400, .inl f_95)), (h16, .inl (k16, 400, .inl f16)), (h7, .inl (k7, 400, .inl f_111)), (h17, .inl (k17, 400, .inl f17)), (h8, .inl (k8, 400, .inl f_127))] H := hP
  have hD : va_D A [(h9, .inr (6, mX6 h10 h11 h12 h13 h14 h15 h16 h17 v9)), (h0, .inr (6, mX6 h1 h2 h3 h4 h5 h6 h7 h8 (upd v0 8 (v9 8)))), (h1, .inl (k1, 1250, .inl f_15)), (h10, .inl (k10, 1250, .inl f10)), (h11, .inl (k11, 833, .inl f11)), (h2, .inl (k2, 833, .inl f_31)), (h12, .inl (k12, 833, .inl f12)), (h3, .inl (k3, 833, .inl f_47)), (h13, .inl (k13, 400, .inl f13)), (h4, .inl (k4, 400, .inl f_63)), (h14, .inl (k14, 400, .inl f14)), (h5, .inl (k5, 400, .inl f_79)), (h15, .inl (k15, 400, .inl f15)), (h6, .inl (k6, 400, .inl f_95)), (h16, .inl (k16, 400, .inl f16)), (h7, .inl (k7, 400, .inl f_111)), (h17, .inl (k17, 400, .inl f17)), (h8, .inl (k8, 400, .inl f_127))] := hD
  refine lv_aload_n hx hb dX6_copyFrom_138 rfl (lv_at hl 0 rfl) ?_
  refine lv_aload_n hx hb dX6_copyFrom_139 rfl (lv_at hl 1 rfl) ?_
  refine va_get (D := (dC, dI)) (ci := 6) (v := .int (v9 9)) (C := RX6) (T := TX6) (N := 12) hx hb hG zuX6 hown hK hP 0 rfl rfl 9 (by decide) (hG _ zw187) (fun _ h9 => h9) rfl dX6_copyFrom_140 ?_
  refine va_put (D := (dC, dI)) (ci := 6) (v := .int (v9 9)) (ty := .int) (C := RX6) (T := TX6) (N := 12) hx hb hG zuX6 tyX6 tyX6_ok nmX6 hown hK hP hD hS 1 rfl rfl 9 (by decide) (hG _ zw187) (fun _ h9 => h9) rfl (by decide +kernel) rfl rfl (Nat.le_of_ble_eq_true rfl) dX6_copyFrom_143 (fun H locs hP hD hS => ?_)
  have hP : va_P (dC, dI) vwCl [(h9, .inr (6, mX6 h10 h11 h12 h13 h14 h15 h16 h17 v9)), (h0, .inr (6, mX6 h1 h2 h3 h4 h5 h6 h7 h8 (upd (upd v0 8 (v9 8)) 9 (v9 9)))), (h1, .inl (k1, 1250, .inl f_15)), (h10, .inl (k10, 1250, .inl f10)), (h11, .inl (k11, 833, .inl f11)), (h2, .inl (k2, 833, .inl f_31)), (h12, .inl (k12, 833, .inl f12)), (h3, .inl (k3, 833, .inl f_47)), (h13, .inl (k13, 400, .inl f13)), (h4, .inl (k4, 400, .inl f_63)), (h14, .inl (k14, 400, .inl f14)), (h5, .inl (k5, 400, .inl f_79)), (h15, .inl (k15, 400, .inl f15)), (h6, .inl (k6, 400, .inl f_95)), (h16, .inl (k16, 400, .inl f16)), (h7, .inl (k7, 400, .inl f_111)), (h17, .inl (k17, 400, .inl f17)), (h8, .inl (k8, 400, .inl f_127))] H := hP
  have hD : va_D A [(h9, .inr (6, mX6 h10 h11 h12 h13 h14 h15 h16 h17 v9)), (h0, .inr (6, mX6 h1 h2 h3 h4 h5 h6 h7 h8 (upd (upd v0 8 (v9 8)) 9 (v9 9)))), (h1, .inl (k1, 1250, .inl f_15)), (h10, .inl (k10, 1250, .inl f10)), (h11, .inl (k11, 833, .inl f11)), (h2, .inl (k2, 833, .inl f_31)), (h12, .inl (k12, 833, .inl f12)), (h3, .inl (k3, 833, .inl f_47)), (h13, .inl (k13, 400, .inl f13)), (h4, .inl (k4, 400, .inl f_63)), (h14, .inl (k14, 400, .inl f14)), (h5, .inl (k5, 400, .inl f_79)), (h15, .inl (k15, 400, .inl f15)), (h6, .inl (k6, 400, .inl f_95)), (h16, .inl (k16, 400, .inl f16)), (h7, .inl (k7, 400, .inl f_111)), (h17, .inl (k17, 400, .inl f17)), (h8, .inl (k8, 400, .inl f_127))] := hD
  refine lv_aload_n hx hb dX6_copyFrom_146 rfl (lv_at hl 0 rfl) ?_
  refine lv_aload_n hx hb dX6_copyFrom_147 rfl (lv_at hl 1 rfl) ?_
  refine va_get (D := (dC, dI)) (ci := 6) (v := .int (v9 10)) (C := RX6) (T := TX6) (N := 12) hx hb hG zuX6 hown hK hP 0 rfl rfl 10 (by decide) (hG _ zw163) (fun _ h9 => h9) rfl dX6_copyFrom_148 ?_
  refine va_put (D := (dC, dI)) (ci := 6) (v := .int (v9 10)) (ty := .int) (C := RX6) (T := TX6) (N := 12) hx hb hG zuX6 tyX6 tyX6_ok nmX6 hown hK hP hD hS 1 rfl rfl 10 (by decide) (hG _ zw163) (fun _ h9 => h9) rfl (by decide +kernel) rfl rfl (Nat.le_of_ble_eq_true rfl) dX6_copyFrom_151 (fun H locs hP hD hS => ?_)
  have hP : va_P (dC, dI) vwCl [(h9, .inr (6, mX6 h10 h11 h12 h13 h14 h15 h16 h17 v9)), (h0, .inr (6, mX6 h1 h2 h3 h4 h5 h6 h7 h8 (upd (upd (upd v0 8 (v9 8)) 9 (v9 9)) 10 (v9 10)))), (h1, .inl (k1, 1250, .inl f_15)), (h10, .inl (k10, 1250, .inl f10)), (h11, .inl (k11, 833, .inl f11)), (h2, .inl (k2, 833, .inl f_31)), (h12, .inl (k12, 833, .inl f12)), (h3, .inl (k3, 833, .inl f_47)), (h13, .inl (k13, 400, .inl f13)), (h4, .inl (k4, 400, .inl f_63)), (h14, .inl (k14, 400, .inl f14)), (h5, .inl (k5, 400, .inl f_79)), (h15, .inl (k15, 400, .inl f15)), (h6, .inl (k6, 400, .inl f_95)), (h16, .inl (k16, 400, .inl f16)), (h7, .inl (k7, 400, .inl f_111)), (h17, .inl (k17, 400, .inl f17)), (h8, .inl (k8, 400, .inl f_127))] H := hP
  have hD : va_D A [(h9, .inr (6, mX6 h10 h11 h12 h13 h14 h15 h16 h17 v9)), (h0, .inr (6, mX6 h1 h2 h3 h4 h5 h6 h7 h8 (upd (upd (upd v0 8 (v9 8)) 9 (v9 9)) 10 (v9 10)))), (h1, .inl (k1, 1250, .inl f_15)), (h10, .inl (k10, 1250, .inl f10)), (h11, .inl (k11, 833, .inl f11)), (h2, .inl (k2, 833, .inl f_31)), (h12, .inl (k12, 833, .inl f12)), (h3, .inl (k3, 833, .inl f_47)), (h13, .inl (k13, 400, .inl f13)), (h4, .inl (k4, 400, .inl f_63)), (h14, .inl (k14, 400, .inl f14)), (h5, .inl (k5, 400, .inl f_79)), (h15, .inl (k15, 400, .inl f15)), (h6, .inl (k6, 400, .inl f_95)), (h16, .inl (k16, 400, .inl f16)), (h7, .inl (k7, 400, .inl f_111)), (h17, .inl (k17, 400, .inl f17)), (h8, .inl (k8, 400, .inl f_127))] := hD
  refine lv_aload_n hx hb dX6_copyFrom_154 rfl (lv_at hl 0 rfl) ?_
  refine lv_aload_n hx hb dX6_copyFrom_155 rfl (lv_at hl 1 rfl) ?_
  refine va_get (D := (dC, dI)) (ci := 6) (v := .int (v9 11)) (C := RX6) (T := TX6) (N := 12) hx hb hG zuX6 hown hK hP 0 rfl rfl 11 (by decide) (hG _ zw162) (fun _ h9 => h9) rfl dX6_copyFrom_156 ?_
  refine va_put (D := (dC, dI)) (ci := 6) (v := .int (v9 11)) (ty := .int) (C := RX6) (T := TX6) (N := 12) hx hb hG zuX6 tyX6 tyX6_ok nmX6 hown hK hP hD hS 1 rfl rfl 11 (by decide) (hG _ zw162) (fun _ h9 => h9) rfl (by decide +kernel) rfl rfl (Nat.le_of_ble_eq_true rfl) dX6_copyFrom_159 (fun H locs hP hD hS => ?_)
  have hP : va_P (dC, dI) vwCl [(h9, .inr (6, mX6 h10 h11 h12 h13 h14 h15 h16 h17 v9)), (h0, .inr (6, mX6 h1 h2 h3 h4 h5 h6 h7 h8 (upd (upd (upd (upd v0 8 (v9 8)) 9 (v9 9)) 10 (v9 10)) 11 (v9 11)))), (h1, .inl (k1, 1250, .inl f_15)), (h10, .inl (k10, 1250, .inl f10)), (h11, .inl (k11, 833, .inl f11)), (h2, .inl (k2, 833, .inl f_31)), (h12, .inl (k12, 833, .inl f12)), (h3, .inl (k3, 833, .inl f_47)), (h13, .inl (k13, 400, .inl f13)), (h4, .inl (k4, 400, .inl f_63)), (h14, .inl (k14, 400, .inl f14)), (h5, .inl (k5, 400, .inl f_79)), (h15, .inl (k15, 400, .inl f15)), (h6, .inl (k6, 400, .inl f_95)), (h16, .inl (k16, 400, .inl f16)), (h7, .inl (k7, 400, .inl f_111)), (h17, .inl (k17, 400, .inl f17)), (h8, .inl (k8, 400, .inl f_127))] H := hP
  have hD : va_D A [(h9, .inr (6, mX6 h10 h11 h12 h13 h14 h15 h16 h17 v9)), (h0, .inr (6, mX6 h1 h2 h3 h4 h5 h6 h7 h8 (upd (upd (upd (upd v0 8 (v9 8)) 9 (v9 9)) 10 (v9 10)) 11 (v9 11)))), (h1, .inl (k1, 1250, .inl f_15)), (h10, .inl (k10, 1250, .inl f10)), (h11, .inl (k11, 833, .inl f11)), (h2, .inl (k2, 833, .inl f_31)), (h12, .inl (k12, 833, .inl f12)), (h3, .inl (k3, 833, .inl f_47)), (h13, .inl (k13, 400, .inl f13)), (h4, .inl (k4, 400, .inl f_63)), (h14, .inl (k14, 400, .inl f14)), (h5, .inl (k5, 400, .inl f_79)), (h15, .inl (k15, 400, .inl f15)), (h6, .inl (k6, 400, .inl f_95)), (h16, .inl (k16, 400, .inl f16)), (h7, .inl (k7, 400, .inl f_111)), (h17, .inl (k17, 400, .inl f17)), (h8, .inl (k8, 400, .inl f_127))] := hD
  have hphi : zPhi f_31 f_79 f_95 (v9 9).toInt (v9 8).toInt := zPhi_c hp0_ hf14 (fun j hj => by rw [e_f_31]; exact (show va_cpy f11 f2 0 0 833 j = f11 j from zcpy_at hj)) (fun j hj => by rw [e_f_79]; exact (show va_cpy f14 f5 0 0 400 j = f14 j from zcpy_at hj)) (fun j hj => by rw [e_f_95]; exact (show va_cpy f15 f6 0 0 400 j = f15 j from zcpy_at hj))
  refine W.widen (k := 0) (n := 0) (by decide) (by decide) ?_
  have b_ : -2147483648 ≤ (v9 10).toInt ∧ (v9 10).toInt ≤ 2147483647 := ⟨zlo _, zhi _⟩
  have b_ : -2147483648 ≤ (v9 11).toInt ∧ (v9 11).toInt ≤ 2147483647 := ⟨zlo _, zhi _⟩
  have hpost : (0 ≤ (v9 8).toInt ∧ (v9 8).toInt ≤ 833) ∧ (0 ≤ (v9 9).toInt ∧ (v9 9).toInt ≤ 1250) := ⟨⟨by omega, by omega⟩, ⟨by omega, by omega⟩⟩
  have hP9 : va_P (dC, dI) vwCl [(h9, .inr (6, mX6 h10 h11 h12 h13 h14 h15 h16 h17 v9)), (h0, .inr (6, mX6 h1 h2 h3 h4 h5 h6 h7 h8 (upd (upd (upd (upd v0 8 (v9 8)) 9 (v9 9)) 10 (v9 10)) 11 (v9 11)))), (h1, .inl (k1, 1250, .inl f_15)), (h10, .inl (k10, 1250, .inl f10)), (h11, .inl (k11, 833, .inl f11)), (h2, .inl (k2, 833, .inl f_31)), (h12, .inl (k12, 833, .inl f12)), (h3, .inl (k3, 833, .inl f_47)), (h13, .inl (k13, 400, .inl f13)), (h4, .inl (k4, 400, .inl f_63)), (h14, .inl (k14, 400, .inl f14)), (h5, .inl (k5, 400, .inl f_79)), (h15, .inl (k15, 400, .inl f15)), (h6, .inl (k6, 400, .inl f_95)), (h16, .inl (k16, 400, .inl f16)), (h7, .inl (k7, 400, .inl f_111)), (h17, .inl (k17, 400, .inl f17)), (h8, .inl (k8, 400, .inl f_127))] H := hP
  have hD9 : va_D A [(h9, .inr (6, mX6 h10 h11 h12 h13 h14 h15 h16 h17 v9)), (h0, .inr (6, mX6 h1 h2 h3 h4 h5 h6 h7 h8 (upd (upd (upd (upd v0 8 (v9 8)) 9 (v9 9)) 10 (v9 10)) 11 (v9 11)))), (h1, .inl (k1, 1250, .inl f_15)), (h10, .inl (k10, 1250, .inl f10)), (h11, .inl (k11, 833, .inl f11)), (h2, .inl (k2, 833, .inl f_31)), (h12, .inl (k12, 833, .inl f12)), (h3, .inl (k3, 833, .inl f_47)), (h13, .inl (k13, 400, .inl f13)), (h4, .inl (k4, 400, .inl f_63)), (h14, .inl (k14, 400, .inl f14)), (h5, .inl (k5, 400, .inl f_79)), (h15, .inl (k15, 400, .inl f15)), (h6, .inl (k6, 400, .inl f_95)), (h16, .inl (k16, 400, .inl f16)), (h7, .inl (k7, 400, .inl f_111)), (h17, .inl (k17, 400, .inl f17)), (h8, .inl (k8, 400, .inl f_127))] := hD
  have hB0 : zPhi f_31 f_79 f_95 (v9 9).toInt (v9 8).toInt := by assumption
  exact W.vret hx hb hr (fun t ht hW => ⟨⟨(fun i => ([(v9 8), (v9 9), (v9 10), (v9 11)] : List (Int32)).getD i 0), rfl, hpost, (fun _ => 0), (fun i => ([f_15, f_31, f_47, f_63, f_79, f_95, f_111, f_127] : List (Nat → Int32)).getD i (fun _ => 0)), (fun _ => (fun _ => 0)), hf_31, hf_79, hB0, by rw [ht]; exact hP9, va_K.moved hW.alike hK, hD9⟩, hS.F ht⟩) hS.2.2 dX6_copyFrom_162
set_option maxHeartbeats 8000000 in
set_option maxRecDepth 100000 in
theorem sX6_addChunk_0 (l : Launch) (dC : Nat → ClassId) (dI : Nat → Nat → Nat) (adK adV : Nat → Nat) (h0 : Nat) (h1 : Nat) (h5 : Nat) (h3 : Nat) (h2 : Nat) (h4 : Nat) (h6 : Nat) (h7 : Nat) (h8 : Nat) (k1 : ClassId) (k5 : ClassId) (k3 : ClassId) (k2 : ClassId) (k4 : ClassId) (sz : Nat) (v0 : Nat → Int32) (f1 : Nat → Int32) (f5 : Nat → Int32) (f3 : Nat → Int32) (f2 : Nat → Int32) (f4 : Nat → Int32) (x1 : Int32) (x2 : Int32) (hv0 : zR rg_Postings v0) (hf5 : zA 0 832 f5) (hf2 : zA 0 1250 f2) (hx1 : 0 ≤ x1.toInt ∧ x1.toInt ≤ 399) (hx2 : 0 ≤ x2.toInt ∧ x2.toInt ≤ 1000) : Met l yX6_addChunk (zw yX6_addChunk cX6_addChunk 4 (some .boolean)) { frames := 1, cells := 0, slots := 0, locals := 20 } (zPc dC dI adK adV [.ref h0, .int x1, .int x2] sz [(h0, .inr (6, mX6 h1 h2 h3 h4 h5 h6 h7 h8 v0)), (h1, .inl (k1, 1250, .inl f1)), (h5, .inl (k5, 400, .inl f5)), (h3, .inl (k3, 833, .inl f3)), (h2, .inl (k2, 833, .inl f2)), (h4, .inl (k4, 400, .inl f4))] [(k1, .int), (k5, .int), (k3, .int), (k2, .int), (k4, .int)]) (va_Qi (fun (r : Int32) (u : Nat → Int32) => (0 ≤ r.toInt ∧ r.toInt ≤ 1) ∧ (0 ≤ (u 0).toInt ∧ (u 0).toInt ≤ 833) ∧ (0 ≤ (u 1).toInt ∧ (u 1).toInt ≤ 1250) ∧ (r.toInt = 1 → zBs x2.toInt (32 * ((u 1).toInt - (v0 9).toInt))) ∧ (r.toInt = 1 → (u 0).toInt = (v0 8).toInt + 1) ∧ (r.toInt = 0 → (u 1).toInt = (v0 9).toInt ∧ (u 0).toInt = (v0 8).toInt) ∧ (r.toInt = (u 3).toInt)) (fun (u : Nat → Int32) (t : State) => ∃ (ww : Nat → Int64) (aa : Nat → Nat → Int32) (bb : Nat → Nat → Int64), zA 0 832 (aa 0) ∧ zA 0 1250 (aa 2) ∧ ((u 3).toInt = 1 → (aa 0) = upd f5 ((x1 : Int32)).toNatClampNeg (v0 8) ∧ (aa 2) = upd f2 (v0 8).toNatClampNeg (v0 9)) ∧ ((u 3).toInt = 0 → (aa 0) = f5 ∧ (aa 2) = f2) ∧ va_P (dC, dI) vwCl [(h0, .inr (6, mX6 h1 h2 h3 h4 h5 h6 h7 h8 (upd (upd (upd v0 8 (u 0)) 9 (u 1)) 11 (u 2)))), (h1, .inl (k1, 1250, .inl f1)), (h5, .inl (k5, 400, .inl (aa 0))), (h3, .inl (k3, 833, .inl (aa 1))), (h2, .inl (k2, 833, .inl (aa 2))), (h4, .inl (k4, 400, .inl (aa 3)))] t.heap ∧ va_K (dC, dI) vwCl [(k1, .int), (k5, .int), (k3, .int), (k2, .int), (k4, .int)] t ∧ va_D (va_A [(h0, .inr (6, mX6 h1 h2 h3 h4 h5 h6 h7 h8 v0)), (h1, .inl (k1, 1250, .inl f1)), (h5, .inl (k5, 400, .inl f5)), (h3, .inl (k3, 833, .inl f3)), (h2, .inl (k2, 833, .inl f2)), (h4, .inl (k4, 400, .inl f4))] sz) [(h0, .inr (6, mX6 h1 h2 h3 h4 h5 h6 h7 h8 (upd (upd (upd v0 8 (u 0)) 9 (u 1)) 11 (u 2)))), (h1, .inl (k1, 1250, .inl f1)), (h5, .inl (k5, 400, .inl (aa 0))), (h3, .inl (k3, 833, .inl (aa 1))), (h2, .inl (k2, 833, .inl (aa 2))), (h4, .inl (k4, 400, .inl (aa 3)))]) (va_A [(h0, .inr (6, mX6 h1 h2 h3 h4 h5 h6 h7 h8 v0)), (h1, .inl (k1, 1250, .inl f1)), (h5, .inl (k5, 400, .inl f5)), (h3, .inl (k3, 833, .inl f3)), (h2, .inl (k2, 833, .inl f2)), (h4, .inl (k4, 400, .inl f4))] sz)) 0 0 (va_A [(h0, .inr (6, mX6 h1 h2 h3 h4 h5 h6 h7 h8 v0)), (h1, .inl (k1, 1250, .inl f1)), (h5, .inl (k5, 400, .inl f5)), (h3, .inl (k3, 833, .inl f3)), (h2, .inl (k2, 833, .inl f2)), (h4, .inl (k4, 400, .inl f4))] sz) := by
  refine Met.ofW (cc := cX6_addChunk) (maxL := 4) (ret := (some .boolean)) (by decide) rfl ?_
  intro p e s m args below meth c s₁ B hml hv
  obtain ⟨rfl, hsz, hP, hK, hD0, hE, hZ⟩ := hv
  have hx := B.exec
  have hb := B.bytes
  have hr := B.returns
  have hG : ∀ w ∈ zG, w.before _ s = true := fun w h => atoms_spec (ws := (zw yX6_addChunk cX6_addChunk 4 (some .boolean))) B.pre w (List.mem_cons_of_mem _ h)
  have hown : s.vm.findClass RX6 = some m.cls := findClass_of_methodNamed B.named
  have hlocks := B.notSynchronized

  subst hsz
  have hD := hD0.self (sz := s.heap.size)
  generalize hAe : va_A [(h0, .inr (6, mX6 h1 h2 h3 h4 h5 h6 h7 h8 v0)), (h1, .inl (k1, 1250, .inl f1)), (h5, .inl (k5, 400, .inl f5)), (h3, .inl (k3, 833, .inl f3)), (h2, .inl (k2, 833, .inl f2)), (h4, .inl (k4, 400, .inl f4))] s.heap.size = A at hD hZ ⊢
  have hA : ∀ q : Nat, s.heap.size ≤ q → A q := fun q h => by rw [← hAe]; exact Or.inr h
  have hS : va_S A s.heap s.heap [] := va_S.rf
  have hl := lv_entry ([.ref h0, .int x1, .int x2]) (n := 4) (Nat.le_of_ble_eq_true rfl)
  rw [lg_entry_eq]
  generalize (lg_sl ([.ref h0, .int x1, .int x2]) ++ List.replicate (4 - (lg_sl ([.ref h0, .int x1, .int x2])).length) Slot.unset).toArray = ls at hl ⊢
  have hl : lv_has ls 4 [(0, .ref h0), (1, .int x1), (2, .int x2)] := hl
  have b_ := zk_0
  have b_ := zk_1
  have b_ : 0 ≤ (v0 9).toInt ∧ (v0 9).toInt ≤ 1250 := hv0 9
  have b_ : 0 ≤ (v0 8).toInt ∧ (v0 8).toInt ≤ 833 := hv0 8
  refine lv_iload_n hx hb dX6_addChunk_0 rfl (lv_at hl 2 rfl) ?_
  have hPc := hP.sub (ws' := []) [] rfl
  have hDc := hD.sub (ws' := []) [] (by decide) rfl
  have hKc := hK.sub (tys' := []) [] rfl
  have hFc := va_free (wc := []) hD hS hA [] rfl
  refine va_calli (va_runS (As := [.int x2]) (rest := []) ⟨hx, hb, hml, hown, hG⟩ (sX6_bitsOfChunk_0 l dC dI adK adV s.heap.size x2) (va_cwS 1 hG (zgS zw191 zw192 zw146 zw193) rfl rfl rfl (by decide +kernel) ⟨Nat.le_of_ble_eq_true rfl, Nat.le_of_ble_eq_true rfl⟩) ⟨zPc_blind, zPc_pre hPc hKc hDc hE hS hFc hZ⟩ rfl rfl hl.1 rfl (lv_room (Nat.le_of_ble_eq_true rfl)) dX6_addChunk_1 ⟨Nat.le_of_ble_eq_true rfl, Nat.le_of_ble_eq_true rfl⟩) hS (fun q _ h => hFc q h) hFc (fun r1_ u1_ t H1 locs ht hvm hw hB hz1 hk1 hS => ?_)
  have hw : (0 ≤ x2.toInt → zBs x2.toInt r1_.toInt) := hw
  have hX1_0 := hw
  obtain ⟨w1_, a1_, b1_, hP1, hK1, hD1⟩ := hB
  rw [ht] at hP1
  obtain ⟨hP, hD⟩ := va_join (wr := [(h0, .inr (6, mX6 h1 h2 h3 h4 h5 h6 h7 h8 v0)), (h1, .inl (k1, 1250, .inl f1)), (h5, .inl (k5, 400, .inl f5)), (h3, .inl (k3, 833, .inl f3)), (h2, .inl (k2, 833, .inl f2)), (h4, .inl (k4, 400, .inl f4))]) (w1 := []) hP hD [] [0, 1, 2, 3, 4, 5] rfl rfl (by decide) (by decide) hk1 hFc hP1 hD1
  have hP : va_P (dC, dI) vwCl [(h0, .inr (6, mX6 h1 h2 h3 h4 h5 h6 h7 h8 v0)), (h1, .inl (k1, 1250, .inl f1)), (h5, .inl (k5, 400, .inl f5)), (h3, .inl (k3, 833, .inl f3)), (h2, .inl (k2, 833, .inl f2)), (h4, .inl (k4, 400, .inl f4))] H1 := hP.sub [0, 1, 2, 3, 4, 5] rfl
  have hD : va_D A [(h0, .inr (6, mX6 h1 h2 h3 h4 h5 h6 h7 h8 v0)), (h1, .inl (k1, 1250, .inl f1)), (h5, .inl (k5, 400, .inl f5)), (h3, .inl (k3, 833, .inl f3)), (h2, .inl (k2, 833, .inl f2)), (h4, .inl (k4, 400, .inl f4))] := hD.sub [0, 1, 2, 3, 4, 5] (by decide) rfl
  generalize H1 = H at hP hS ⊢
  clear hz1
  have b_ : 32 ≤ r1_.toInt ∧ r1_.toInt ≤ 256 ∧ (r1_.toInt = 32 ∨ r1_.toInt = 64 ∨ r1_.toInt = 128 ∨ r1_.toInt = 256) := by have q := hX1_0 (by omega); unfold zBs at q; omega
  refine lv_istore_n (lv' := [(3, .int r1_), (0, .ref h0), (1, .int x1), (2, .int x2)]) hx hb dX6_addChunk_4 rfl hl (by decide) rfl (fun ls hl => ?_)
  refine lv_aload_n hx hb dX6_addChunk_5 rfl (lv_at hl 1 rfl) ?_
  refine va_get (D := (dC, dI)) (ci := 6) (v := .int (v0 8)) (C := RX6) (T := TX6) (N := 12) hx hb hG zuX6 hown hK hP 0 rfl rfl 8 (by decide) (hG _ zw171) (fun _ h9 => h9) rfl dX6_addChunk_6 ?_
  refine lv_sipush (v := 833) hx hb dX6_addChunk_9 (by decide) ?_
  refine lv_icmp_ge (tgt := 32) hx hb dX6_addChunk_12 (by decide) (fun c_ => ?_) (fun c_ => ?_)
  · skip
    have b_ := zT_ge rfl zk_833 c_
    refine lv_iconst (v := 0) hx hb dX6_addChunk_32 (by decide) ?_
    refine W.widen (k := 0) (n := 0) (by decide) (by decide) ?_
    have b_ : -2147483648 ≤ (v0 11).toInt ∧ (v0 11).toInt ≤ 2147483647 := ⟨zlo _, zhi _⟩
    have hpost : (0 ≤ (0 : Int32).toInt ∧ (0 : Int32).toInt ≤ 1) ∧ (0 ≤ (v0 8).toInt ∧ (v0 8).toInt ≤ 833) ∧ (0 ≤ (v0 9).toInt ∧ (v0 9).toInt ≤ 1250) ∧ ((0 : Int32).toInt = 1 → zBs x2.toInt (32 * ((v0 9).toInt - (v0 9).toInt))) ∧ ((0 : Int32).toInt = 1 → (v0 8).toInt = (v0 8).toInt + 1) ∧ ((0 : Int32).toInt = 0 → (v0 9).toInt = (v0 9).toInt ∧ (v0 8).toInt = (v0 8).toInt) ∧ ((0 : Int32).toInt = (0 : Int32).toInt) := ⟨⟨by omega, by omega⟩, ⟨by omega, by omega⟩, ⟨by omega, by omega⟩, by intro _; have q := hX1_0 (by omega); unfold zBs at q ⊢; omega, by omega, by omega, rfl⟩
    have hP9 : va_P (dC, dI) vwCl [(h0, .inr (6, mX6 h1 h2 h3 h4 h5 h6 h7 h8 (upd (upd (upd v0 8 (v0 8)) 9 (v0 9)) 11 (v0 11)))), (h1, .inl (k1, 1250, .inl f1)), (h5, .inl (k5, 400, .inl f5)), (h3, .inl (k3, 833, .inl f3)), (h2, .inl (k2, 833, .inl f2)), (h4, .inl (k4, 400, .inl f4))] H := hP
    have hD9 : va_D A [(h0, .inr (6, mX6 h1 h2 h3 h4 h5 h6 h7 h8 (upd (upd (upd v0 8 (v0 8)) 9 (v0 9)) 11 (v0 11)))), (h1, .inl (k1, 1250, .inl f1)), (h5, .inl (k5, 400, .inl f5)), (h3, .inl (k3, 833, .inl f3)), (h2, .inl (k2, 833, .inl f2)), (h4, .inl (k4, 400, .inl f4))] := hD
    have hB0 : (0 : Int32).toInt = 1 → f5 = upd f5 ((x1 : Int32)).toNatClampNeg (v0 8) ∧ f2 = upd f2 (v0 8).toNatClampNeg (v0 9) := by first | (intro _; exact ⟨e_f_75, e_f_88⟩) | (intro q; exact absurd q (by decide))
    have hB1 : (0 : Int32).toInt = 0 → f5 = f5 ∧ f2 = f2 := by first | (intro _; exact ⟨rfl, rfl⟩) | (intro q; exact absurd q (by decide))
    exact W.zret (v := 0) hx hb hr rfl (fun t ht hW => ⟨⟨0, (fun i => ([(v0 8), (v0 9), (v0 11), 0] : List (Int32)).getD i 0), rfl, hpost, (fun _ => 0), (fun i => ([f5, f3, f2, f4] : List (Nat → Int32)).getD i (fun _ => 0)), (fun _ => (fun _ => 0)), hf5, hf2, hB0, hB1, by rw [ht]; exact hP9, va_K.moved hW.alike hK, hD9⟩, hS.F ht⟩) hS.2.2 dX6_addChunk_33
  · skip
    have b_ := zF_ge rfl zk_833 c_
    refine lv_aload_n hx hb dX6_addChunk_15 rfl (lv_at hl 1 rfl) ?_
    refine va_get (D := (dC, dI)) (ci := 6) (v := .int (v0 9)) (C := RX6) (T := TX6) (N := 12) hx hb hG zuX6 hown hK hP 0 rfl rfl 9 (by decide) (hG _ zw187) (fun _ h9 => h9) rfl dX6_addChunk_16 ?_
    refine lv_iload_n hx hb dX6_addChunk_19 rfl (lv_at hl 0 rfl) ?_
    refine lv_bipush (v := 32) hx hb dX6_addChunk_20 (by decide) ?_
    have b_ : -2147483648 ≤ r1_.toInt ∧ r1_.toInt ≤ 2147483647 := ⟨zlo _, zhi _⟩
    refine lv_idiv hx hb dX6_addChunk_22 (by decide) ?_
    refine lv_topi (fun z22 e_z22 => ?_)
    have b_ := zdiv rfl zk_32 e_z22 (by omega) (by decide)
    refine lv_iadd hx hb dX6_addChunk_23 ?_
    refine lv_topi (fun z23 e_z23 => ?_)
    have b_ := zadd rfl rfl e_z23 (by omega) (by omega)
    refine lv_aload_n hx hb dX6_addChunk_24 rfl (lv_at hl 1 rfl) ?_
    refine va_get (D := (dC, dI)) (ci := 6) (v := .ref h1) (C := RX6) (T := TX6) (N := 12) hx hb hG zuX6 hown hK hP 0 rfl rfl 0 (by decide) (hG _ zw174) (fun _ h9 => h9) rfl dX6_addChunk_25 ?_
    refine va_alen (v := 1250) hx hb hK hP 1 0 rfl rfl (show Int32.ofNat 1250 = 1250 from by decide +kernel) dX6_addChunk_28 ?_
    refine lv_icmp_le (tgt := 34) hx hb dX6_addChunk_29 (by decide) (fun c_ => ?_) (fun c_ => ?_)
    · skip
      have b_ := zT_le rfl zk_1250 c_
      refine lv_iload_n hx hb dX6_addChunk_34 rfl (lv_at hl 3 rfl) ?_
      refine lv_if_ne (tgt := 51) hx hb dX6_addChunk_35 (by decide) (fun c_ => ?_) (fun c_ => ?_)
      · skip
        have b_ := zT_ne rfl zk_0 c_
        refine lv_aload_n hx hb dX6_addChunk_51 rfl (lv_at hl 1 rfl) ?_
        refine va_get (D := (dC, dI)) (ci := 6) (v := .ref h3) (C := RX6) (T := TX6) (N := 12) hx hb hG zuX6 hown hK hP 0 rfl rfl 2 (by decide) (hG _ zw172) (fun _ h9 => h9) rfl dX6_addChunk_52 ?_
        refine lv_aload_n hx hb dX6_addChunk_55 rfl (lv_at hl 1 rfl) ?_
        refine va_get (D := (dC, dI)) (ci := 6) (v := .ref h5) (C := RX6) (T := TX6) (N := 12) hx hb hG zuX6 hown hK hP 0 rfl rfl 4 (by decide) (hG _ zw190) (fun _ h9 => h9) rfl dX6_addChunk_56 ?_
        refine lv_iload_n hx hb dX6_addChunk_59 rfl (lv_at hl 2 rfl) ?_
        refine va_iald hx hb hK hP 2 1 rfl rfl (zin_lit ⟨by omega, by omega⟩) dX6_addChunk_60 ?_
        refine lv_topi (fun z60 e_z60 => ?_)
        have b_ : 0 ≤ z60.toInt ∧ z60.toInt ≤ 832 := by rw [e_z60]; exact hf5 _
        refine lv_aload_n hx hb dX6_addChunk_61 rfl (lv_at hl 1 rfl) ?_
        refine va_get (D := (dC, dI)) (ci := 6) (v := .int (v0 8)) (C := RX6) (T := TX6) (N := 12) hx hb hG zuX6 hown hK hP 0 rfl rfl 8 (by decide) (hG _ zw171) (fun _ h9 => h9) rfl dX6_addChunk_62 ?_
        refine va_iast hx hb hK hP hD hS 3 2 rfl rfl (zin_lit ⟨by omega, by omega⟩) dX6_addChunk_65 (fun H locs hP hD hS => ?_)
        obtain ⟨f_65, e_f_65⟩ : ∃ z : Nat → Int32, z = upd f3 (z60 : Int32).toNatClampNeg (v0 8) := ⟨_, rfl⟩
        have hP : va_P (dC, dI) vwCl [(h0, .inr (6, mX6 h1 h2 h3 h4 h5 h6 h7 h8 v0)), (h1, .inl (k1, 1250, .inl f1)), (h5, .inl (k5, 400, .inl f5)), (h3, .inl (k3, 833, .inl f_65)), (h2, .inl (k2, 833, .inl f2)), (h4, .inl (k4, 400, .inl f4))] H := by rw [e_f_65]; exact hP
        have hD : va_D A [(h0, .inr (6, mX6 h1 h2 h3 h4 h5 h6 h7 h8 v0)), (h1, .inl (k1, 1250, .inl f1)), (h5, .inl (k5, 400, .inl f5)), (h3, .inl (k3, 833, .inl f_65)), (h2, .inl (k2, 833, .inl f2)), (h4, .inl (k4, 400, .inl f4))] := by rw [e_f_65]; exact hD
        refine lv_aload_n hx hb dX6_addChunk_66 rfl (lv_at hl 1 rfl) ?_
        refine va_get (D := (dC, dI)) (ci := 6) (v := .ref h5) (C := RX6) (T := TX6) (N := 12) hx hb hG zuX6 hown hK hP 0 rfl rfl 4 (by decide) (hG _ zw190) (fun _ h9 => h9) rfl dX6_addChunk_67 ?_
        refine lv_iload_n hx hb dX6_addChunk_70 rfl (lv_at hl 2 rfl) ?_
        refine lv_aload_n hx hb dX6_addChunk_71 rfl (lv_at hl 1 rfl) ?_
        refine va_get (D := (dC, dI)) (ci := 6) (v := .int (v0 8)) (C := RX6) (T := TX6) (N := 12) hx hb hG zuX6 hown hK hP 0 rfl rfl 8 (by decide) (hG _ zw171) (fun _ h9 => h9) rfl dX6_addChunk_72 ?_
        refine va_iast hx hb hK hP hD hS 2 1 rfl rfl (zin_lit ⟨by omega, by omega⟩) dX6_addChunk_75 (fun H locs hP hD hS => ?_)
        obtain ⟨f_75, e_f_75⟩ : ∃ z : Nat → Int32, z = upd f5 (x1 : Int32).toNatClampNeg (v0 8) := ⟨_, rfl⟩
        have hP : va_P (dC, dI) vwCl [(h0, .inr (6, mX6 h1 h2 h3 h4 h5 h6 h7 h8 v0)), (h1, .inl (k1, 1250, .inl f1)), (h5, .inl (k5, 400, .inl f_75)), (h3, .inl (k3, 833, .inl f_65)), (h2, .inl (k2, 833, .inl f2)), (h4, .inl (k4, 400, .inl f4))] H := by rw [e_f_75]; exact hP
        have hD : va_D A [(h0, .inr (6, mX6 h1 h2 h3 h4 h5 h6 h7 h8 v0)), (h1, .inl (k1, 1250, .inl f1)), (h5, .inl (k5, 400, .inl f_75)), (h3, .inl (k3, 833, .inl f_65)), (h2, .inl (k2, 833, .inl f2)), (h4, .inl (k4, 400, .inl f4))] := by rw [e_f_75]; exact hD
        have hf_75 : zA 0 832 f_75 := by rw [e_f_75]; exact zA_upd hf5 (show 0 ≤ ((v0 8) : Int32).toInt from by omega) (show ((v0 8) : Int32).toInt ≤ 832 from by omega)
        refine lv_aload_n hx hb dX6_addChunk_76 rfl (lv_at hl 1 rfl) ?_
        refine va_get (D := (dC, dI)) (ci := 6) (v := .ref h2) (C := RX6) (T := TX6) (N := 12) hx hb hG zuX6 hown hK hP 0 rfl rfl 1 (by decide) (hG _ zw173) (fun _ h9 => h9) rfl dX6_addChunk_77 ?_
        refine lv_aload_n hx hb dX6_addChunk_80 rfl (lv_at hl 1 rfl) ?_
        refine va_get (D := (dC, dI)) (ci := 6) (v := .int (v0 8)) (C := RX6) (T := TX6) (N := 12) hx hb hG zuX6 hown hK hP 0 rfl rfl 8 (by decide) (hG _ zw171) (fun _ h9 => h9) rfl dX6_addChunk_81 ?_
        refine lv_aload_n hx hb dX6_addChunk_84 rfl (lv_at hl 1 rfl) ?_
        refine va_get (D := (dC, dI)) (ci := 6) (v := .int (v0 9)) (C := RX6) (T := TX6) (N := 12) hx hb hG zuX6 hown hK hP 0 rfl rfl 9 (by decide) (hG _ zw187) (fun _ h9 => h9) rfl dX6_addChunk_85 ?_
        refine va_iast hx hb hK hP hD hS 4 3 rfl rfl (zin_lit ⟨by omega, by omega⟩) dX6_addChunk_88 (fun H locs hP hD hS => ?_)
        obtain ⟨f_88, e_f_88⟩ : ∃ z : Nat → Int32, z = upd f2 ((v0 8) : Int32).toNatClampNeg (v0 9) := ⟨_, rfl⟩
        have hP : va_P (dC, dI) vwCl [(h0, .inr (6, mX6 h1 h2 h3 h4 h5 h6 h7 h8 v0)), (h1, .inl (k1, 1250, .inl f1)), (h5, .inl (k5, 400, .inl f_75)), (h3, .inl (k3, 833, .inl f_65)), (h2, .inl (k2, 833, .inl f_88)), (h4, .inl (k4, 400, .inl f4))] H := by rw [e_f_88]; exact hP
        have hD : va_D A [(h0, .inr (6, mX6 h1 h2 h3 h4 h5 h6 h7 h8 v0)), (h1, .inl (k1, 1250, .inl f1)), (h5, .inl (k5, 400, .inl f_75)), (h3, .inl (k3, 833, .inl f_65)), (h2, .inl (k2, 833, .inl f_88)), (h4, .inl (k4, 400, .inl f4))] := by rw [e_f_88]; exact hD
        have hf_88 : zA 0 1250 f_88 := by rw [e_f_88]; exact zA_upd hf2 (show 0 ≤ ((v0 9) : Int32).toInt from by omega) (show ((v0 9) : Int32).toInt ≤ 1250 from by omega)
        refine lv_aload_n hx hb dX6_addChunk_89 rfl (lv_at hl 1 rfl) ?_
        refine va_get (D := (dC, dI)) (ci := 6) (v := .ref h3) (C := RX6) (T := TX6) (N := 12) hx hb hG zuX6 hown hK hP 0 rfl rfl 2 (by decide) (hG _ zw172) (fun _ h9 => h9) rfl dX6_addChunk_90 ?_
        refine lv_aload_n hx hb dX6_addChunk_93 rfl (lv_at hl 1 rfl) ?_
        refine va_get (D := (dC, dI)) (ci := 6) (v := .int (v0 8)) (C := RX6) (T := TX6) (N := 12) hx hb hG zuX6 hown hK hP 0 rfl rfl 8 (by decide) (hG _ zw171) (fun _ h9 => h9) rfl dX6_addChunk_94 ?_
        refine lv_iconst (v := (-1)) hx hb dX6_addChunk_97 (by decide) ?_
        refine va_iast hx hb hK hP hD hS 3 2 rfl rfl (zin_lit ⟨by omega, by omega⟩) dX6_addChunk_98 (fun H locs hP hD hS => ?_)
        obtain ⟨f_98, e_f_98⟩ : ∃ z : Nat → Int32, z = upd f_65 ((v0 8) : Int32).toNatClampNeg (-1) := ⟨_, rfl⟩
        have hP : va_P (dC, dI) vwCl [(h0, .inr (6, mX6 h1 h2 h3 h4 h5 h6 h7 h8 v0)), (h1, .inl (k1, 1250, .inl f1)), (h5, .inl (k5, 400, .inl f_75)), (h3, .inl (k3, 833, .inl f_98)), (h2, .inl (k2, 833, .inl f_88)), (h4, .inl (k4, 400, .inl f4))] H := by rw [e_f_98]; exact hP
        have hD : va_D A [(h0, .inr (6, mX6 h1 h2 h3 h4 h5 h6 h7 h8 v0)), (h1, .inl (k1, 1250, .inl f1)), (h5, .inl (k5, 400, .inl f_75)), (h3, .inl (k3, 833, .inl f_98)), (h2, .inl (k2, 833, .inl f_88)), (h4, .inl (k4, 400, .inl f4))] := by rw [e_f_98]; exact hD
        refine lv_aload_n hx hb dX6_addChunk_99 rfl (lv_at hl 1 rfl) ?_
        refine lv_dup hx hb dX6_addChunk_100 rfl ?_
        refine va_get (D := (dC, dI)) (ci := 6) (v := .int (v0 8)) (C := RX6) (T := TX6) (N := 12) hx hb hG zuX6 hown hK hP 0 rfl rfl 8 (by decide) (hG _ zw171) (fun _ h9 => h9) rfl dX6_addChunk_101 ?_
        refine lv_iconst (v := 1) hx hb dX6_addChunk_104 (by decide) ?_
        refine lv_iadd hx hb dX6_addChunk_105 ?_
        refine lv_topi (fun z105 e_z105 => ?_)
        have b_ := zadd rfl zk_1 e_z105 (by omega) (by omega)
        refine va_put (D := (dC, dI)) (ci := 6) (v := .int z105) (ty := .int) (C := RX6) (T := TX6) (N := 12) hx hb hG zuX6 tyX6 tyX6_ok nmX6 hown hK hP hD hS 0 rfl rfl 8 (by decide) (hG _ zw171) (fun _ h9 => h9) rfl (by decide +kernel) rfl rfl (Nat.le_of_ble_eq_true rfl) dX6_addChunk_106 (fun H locs hP hD hS => ?_)
        have hP : va_P (dC, dI) vwCl [(h0, .inr (6, mX6 h1 h2 h3 h4 h5 h6 h7 h8 (upd v0 8 z105))), (h1, .inl (k1, 1250, .inl f1)), (h5, .inl (k5, 400, .inl f_75)), (h3, .inl (k3, 833, .inl f_98)), (h2, .inl (k2, 833, .inl f_88)), (h4, .inl (k4, 400, .inl f4))] H := hP
        have hD : va_D A [(h0, .inr (6, mX6 h1 h2 h3 h4 h5 h6 h7 h8 (upd v0 8 z105))), (h1, .inl (k1, 1250, .inl f1)), (h5, .inl (k5, 400, .inl f_75)), (h3, .inl (k3, 833, .inl f_98)), (h2, .inl (k2, 833, .inl f_88)), (h4, .inl (k4, 400, .inl f4))] := hD
        refine lv_aload_n hx hb dX6_addChunk_109 rfl (lv_at hl 1 rfl) ?_
        refine lv_dup hx hb dX6_addChunk_110 rfl ?_
        refine va_get (D := (dC, dI)) (ci := 6) (v := .int (v0 9)) (C := RX6) (T := TX6) (N := 12) hx hb hG zuX6 hown hK hP 0 rfl rfl 9 (by decide) (hG _ zw187) (fun _ h9 => h9) rfl dX6_addChunk_111 ?_
        refine lv_iload_n hx hb dX6_addChunk_114 rfl (lv_at hl 0 rfl) ?_
        refine lv_bipush (v := 32) hx hb dX6_addChunk_115 (by decide) ?_
        refine lv_idiv hx hb dX6_addChunk_117 (by decide) ?_
        refine lv_topi (fun z117 e_z117 => ?_)
        have b_ := zdiv rfl zk_32 e_z117 (by omega) (by decide)
        refine lv_iadd hx hb dX6_addChunk_118 ?_
        refine lv_topi (fun z118 e_z118 => ?_)
        have b_ := zadd rfl rfl e_z118 (by omega) (by omega)
        have b_ : 0 ≤ z118.toInt ∧ z118.toInt ≤ 1250 := ⟨by omega, by omega⟩
        refine va_put (D := (dC, dI)) (ci := 6) (v := .int z118) (ty := .int) (C := RX6) (T := TX6) (N := 12) hx hb hG zuX6 tyX6 tyX6_ok nmX6 hown hK hP hD hS 0 rfl rfl 9 (by decide) (hG _ zw187) (fun _ h9 => h9) rfl (by decide +kernel) rfl rfl (Nat.le_of_ble_eq_true rfl) dX6_addChunk_119 (fun H locs hP hD hS => ?_)
        have hP : va_P (dC, dI) vwCl [(h0, .inr (6, mX6 h1 h2 h3 h4 h5 h6 h7 h8 (upd (upd v0 8 z105) 9 z118))), (h1, .inl (k1, 1250, .inl f1)), (h5, .inl (k5, 400, .inl f_75)), (h3, .inl (k3, 833, .inl f_98)), (h2, .inl (k2, 833, .inl f_88)), (h4, .inl (k4, 400, .inl f4))] H := hP
        have hD : va_D A [(h0, .inr (6, mX6 h1 h2 h3 h4 h5 h6 h7 h8 (upd (upd v0 8 z105) 9 z118))), (h1, .inl (k1, 1250, .inl f1)), (h5, .inl (k5, 400, .inl f_75)), (h3, .inl (k3, 833, .inl f_98)), (h2, .inl (k2, 833, .inl f_88)), (h4, .inl (k4, 400, .inl f4))] := hD
        refine lv_aload_n hx hb dX6_addChunk_122 rfl (lv_at hl 1 rfl) ?_
        refine lv_dup hx hb dX6_addChunk_123 rfl ?_
        refine va_get (D := (dC, dI)) (ci := 6) (v := .int (v0 11)) (C := RX6) (T := TX6) (N := 12) hx hb hG zuX6 hown hK hP 0 rfl rfl 11 (by decide) (hG _ zw162) (fun _ h9 => h9) rfl dX6_addChunk_124 ?_
        refine lv_iload_n hx hb dX6_addChunk_127 rfl (lv_at hl 0 rfl) ?_
        refine lv_bipush (v := 16) hx hb dX6_addChunk_128 (by decide) ?_
        refine lv_iadd hx hb dX6_addChunk_130 ?_
        refine lv_topi (fun z130 e_z130 => ?_)
        have b_ := zadd rfl zk_16 e_z130 (by omega) (by omega)
        have b_ : -2147483648 ≤ (v0 11).toInt ∧ (v0 11).toInt ≤ 2147483647 := ⟨zlo _, zhi _⟩
        refine lv_iadd hx hb dX6_addChunk_131 ?_
        refine lv_topi (fun z131 e_z131 => ?_)
        refine va_put (D := (dC, dI)) (ci := 6) (v := .int z131) (ty := .int) (C := RX6) (T := TX6) (N := 12) hx hb hG zuX6 tyX6 tyX6_ok nmX6 hown hK hP hD hS 0 rfl rfl 11 (by decide) (hG _ zw162) (fun _ h9 => h9) rfl (by decide +kernel) rfl rfl (Nat.le_of_ble_eq_true rfl) dX6_addChunk_132 (fun H locs hP hD hS => ?_)
        have hP : va_P (dC, dI) vwCl [(h0, .inr (6, mX6 h1 h2 h3 h4 h5 h6 h7 h8 (upd (upd (upd v0 8 z105) 9 z118) 11 z131))), (h1, .inl (k1, 1250, .inl f1)), (h5, .inl (k5, 400, .inl f_75)), (h3, .inl (k3, 833, .inl f_98)), (h2, .inl (k2, 833, .inl f_88)), (h4, .inl (k4, 400, .inl f4))] H := hP
        have hD : va_D A [(h0, .inr (6, mX6 h1 h2 h3 h4 h5 h6 h7 h8 (upd (upd (upd v0 8 z105) 9 z118) 11 z131))), (h1, .inl (k1, 1250, .inl f1)), (h5, .inl (k5, 400, .inl f_75)), (h3, .inl (k3, 833, .inl f_98)), (h2, .inl (k2, 833, .inl f_88)), (h4, .inl (k4, 400, .inl f4))] := hD
        refine lv_iconst (v := 1) hx hb dX6_addChunk_135 (by decide) ?_
        refine W.widen (k := 0) (n := 0) (by decide) (by decide) ?_
        have b_ : -2147483648 ≤ z131.toInt ∧ z131.toInt ≤ 2147483647 := ⟨zlo _, zhi _⟩
        have hpost : (0 ≤ (1 : Int32).toInt ∧ (1 : Int32).toInt ≤ 1) ∧ (0 ≤ z105.toInt ∧ z105.toInt ≤ 833) ∧ (0 ≤ z118.toInt ∧ z118.toInt ≤ 1250) ∧ ((1 : Int32).toInt = 1 → zBs x2.toInt (32 * (z118.toInt - (v0 9).toInt))) ∧ ((1 : Int32).toInt = 1 → z105.toInt = (v0 8).toInt + 1) ∧ ((1 : Int32).toInt = 0 → z118.toInt = (v0 9).toInt ∧ z105.toInt = (v0 8).toInt) ∧ ((1 : Int32).toInt = (1 : Int32).toInt) := ⟨⟨by omega, by omega⟩, ⟨by omega, by omega⟩, ⟨by omega, by omega⟩, by intro _; have q := hX1_0 (by omega); unfold zBs at q ⊢; omega, by omega, by omega, rfl⟩
        have hP9 : va_P (dC, dI) vwCl [(h0, .inr (6, mX6 h1 h2 h3 h4 h5 h6 h7 h8 (upd (upd (upd v0 8 z105) 9 z118) 11 z131))), (h1, .inl (k1, 1250, .inl f1)), (h5, .inl (k5, 400, .inl f_75)), (h3, .inl (k3, 833, .inl f_98)), (h2, .inl (k2, 833, .inl f_88)), (h4, .inl (k4, 400, .inl f4))] H := hP
        have hD9 : va_D A [(h0, .inr (6, mX6 h1 h2 h3 h4 h5 h6 h7 h8 (upd (upd (upd v0 8 z105) 9 z118) 11 z131))), (h1, .inl (k1, 1250, .inl f1)), (h5, .inl (k5, 400, .inl f_75)), (h3, .inl (k3, 833, .inl f_98)), (h2, .inl (k2, 833, .inl f_88)), (h4, .inl (k4, 400, .inl f4))] := hD
        have hB0 : (1 : Int32).toInt = 1 → f_75 = upd f5 ((x1 : Int32)).toNatClampNeg (v0 8) ∧ f_88 = upd f2 (v0 8).toNatClampNeg (v0 9) := by first | (intro _; exact ⟨e_f_75, e_f_88⟩) | (intro q; exact absurd q (by decide))
        have hB1 : (1 : Int32).toInt = 0 → f_75 = f5 ∧ f_88 = f2 := by first | (intro _; exact ⟨rfl, rfl⟩) | (intro q; exact absurd q (by decide))
        exact W.zret (v := 1) hx hb hr rfl (fun t ht hW => ⟨⟨1, (fun i => ([z105, z118, z131, 1] : List (Int32)).getD i 0), rfl, hpost, (fun _ => 0), (fun i => ([f_75, f_98, f_88, f4] : List (Nat → Int32)).getD i (fun _ => 0)), (fun _ => (fun _ => 0)), hf_75, hf_88, hB0, hB1, by rw [ht]; exact hP9, va_K.moved hW.alike hK, hD9⟩, hS.F ht⟩) hS.2.2 dX6_addChunk_136
      · skip
        have b_ := zF_ne rfl zk_0 c_
        refine lv_aload_n hx hb dX6_addChunk_38 rfl (lv_at hl 1 rfl) ?_
        refine va_get (D := (dC, dI)) (ci := 6) (v := .ref h4) (C := RX6) (T := TX6) (N := 12) hx hb hG zuX6 hown hK hP 0 rfl rfl 3 (by decide) (hG _ zw170) (fun _ h9 => h9) rfl dX6_addChunk_39 ?_
        refine lv_iload_n hx hb dX6_addChunk_42 rfl (lv_at hl 2 rfl) ?_
        refine lv_aload_n hx hb dX6_addChunk_43 rfl (lv_at hl 1 rfl) ?_
        refine va_get (D := (dC, dI)) (ci := 6) (v := .int (v0 8)) (C := RX6) (T := TX6) (N := 12) hx hb hG zuX6 hown hK hP 0 rfl rfl 8 (by decide) (hG _ zw171) (fun _ h9 => h9) rfl dX6_addChunk_44 ?_
        refine va_iast hx hb hK hP hD hS 5 4 rfl rfl (zin_lit ⟨by omega, by omega⟩) dX6_addChunk_47 (fun H locs hP hD hS => ?_)
        obtain ⟨f_47, e_f_47⟩ : ∃ z : Nat → Int32, z = upd f4 (x1 : Int32).toNatClampNeg (v0 8) := ⟨_, rfl⟩
        have hP : va_P (dC, dI) vwCl [(h0, .inr (6, mX6 h1 h2 h3 h4 h5 h6 h7 h8 v0)), (h1, .inl (k1, 1250, .inl f1)), (h5, .inl (k5, 400, .inl f5)), (h3, .inl (k3, 833, .inl f3)), (h2, .inl (k2, 833, .inl f2)), (h4, .inl (k4, 400, .inl f_47))] H := by rw [e_f_47]; exact hP
        have hD : va_D A [(h0, .inr (6, mX6 h1 h2 h3 h4 h5 h6 h7 h8 v0)), (h1, .inl (k1, 1250, .inl f1)), (h5, .inl (k5, 400, .inl f5)), (h3, .inl (k3, 833, .inl f3)), (h2, .inl (k2, 833, .inl f2)), (h4, .inl (k4, 400, .inl f_47))] := by rw [e_f_47]; exact hD
        refine lv_goto (tgt := 66) hx hb dX6_addChunk_48 (by decide) ?_
        refine lv_aload_n hx hb dX6_addChunk_66 rfl (lv_at hl 1 rfl) ?_
        refine va_get (D := (dC, dI)) (ci := 6) (v := .ref h5) (C := RX6) (T := TX6) (N := 12) hx hb hG zuX6 hown hK hP 0 rfl rfl 4 (by decide) (hG _ zw190) (fun _ h9 => h9) rfl dX6_addChunk_67 ?_
        refine lv_iload_n hx hb dX6_addChunk_70 rfl (lv_at hl 2 rfl) ?_
        refine lv_aload_n hx hb dX6_addChunk_71 rfl (lv_at hl 1 rfl) ?_
        refine va_get (D := (dC, dI)) (ci := 6) (v := .int (v0 8)) (C := RX6) (T := TX6) (N := 12) hx hb hG zuX6 hown hK hP 0 rfl rfl 8 (by decide) (hG _ zw171) (fun _ h9 => h9) rfl dX6_addChunk_72 ?_
        refine va_iast hx hb hK hP hD hS 2 1 rfl rfl (zin_lit ⟨by omega, by omega⟩) dX6_addChunk_75 (fun H locs hP hD hS => ?_)
        obtain ⟨f_75, e_f_75⟩ : ∃ z : Nat → Int32, z = upd f5 (x1 : Int32).toNatClampNeg (v0 8) := ⟨_, rfl⟩
        have hP : va_P (dC, dI) vwCl [(h0, .inr (6, mX6 h1 h2 h3 h4 h5 h6 h7 h8 v0)), (h1, .inl (k1, 1250, .inl f1)), (h5, .inl (k5, 400, .inl f_75)), (h3, .inl (k3, 833, .inl f3)), (h2, .inl (k2, 833, .inl f2)), (h4, .inl (k4, 400, .inl f_47))] H := by rw [e_f_75]; exact hP
        have hD : va_D A [(h0, .inr (6, mX6 h1 h2 h3 h4 h5 h6 h7 h8 v0)), (h1, .inl (k1, 1250, .inl f1)), (h5, .inl (k5, 400, .inl f_75)), (h3, .inl (k3, 833, .inl f3)), (h2, .inl (k2, 833, .inl f2)), (h4, .inl (k4, 400, .inl f_47))] := by rw [e_f_75]; exact hD
        have hf_75 : zA 0 832 f_75 := by rw [e_f_75]; exact zA_upd hf5 (show 0 ≤ ((v0 8) : Int32).toInt from by omega) (show ((v0 8) : Int32).toInt ≤ 832 from by omega)
        refine lv_aload_n hx hb dX6_addChunk_76 rfl (lv_at hl 1 rfl) ?_
        refine va_get (D := (dC, dI)) (ci := 6) (v := .ref h2) (C := RX6) (T := TX6) (N := 12) hx hb hG zuX6 hown hK hP 0 rfl rfl 1 (by decide) (hG _ zw173) (fun _ h9 => h9) rfl dX6_addChunk_77 ?_
        refine lv_aload_n hx hb dX6_addChunk_80 rfl (lv_at hl 1 rfl) ?_
        refine va_get (D := (dC, dI)) (ci := 6) (v := .int (v0 8)) (C := RX6) (T := TX6) (N := 12) hx hb hG zuX6 hown hK hP 0 rfl rfl 8 (by decide) (hG _ zw171) (fun _ h9 => h9) rfl dX6_addChunk_81 ?_
        refine lv_aload_n hx hb dX6_addChunk_84 rfl (lv_at hl 1 rfl) ?_
        refine va_get (D := (dC, dI)) (ci := 6) (v := .int (v0 9)) (C := RX6) (T := TX6) (N := 12) hx hb hG zuX6 hown hK hP 0 rfl rfl 9 (by decide) (hG _ zw187) (fun _ h9 => h9) rfl dX6_addChunk_85 ?_
        refine va_iast hx hb hK hP hD hS 4 3 rfl rfl (zin_lit ⟨by omega, by omega⟩) dX6_addChunk_88 (fun H locs hP hD hS => ?_)
        obtain ⟨f_88, e_f_88⟩ : ∃ z : Nat → Int32, z = upd f2 ((v0 8) : Int32).toNatClampNeg (v0 9) := ⟨_, rfl⟩
        have hP : va_P (dC, dI) vwCl [(h0, .inr (6, mX6 h1 h2 h3 h4 h5 h6 h7 h8 v0)), (h1, .inl (k1, 1250, .inl f1)), (h5, .inl (k5, 400, .inl f_75)), (h3, .inl (k3, 833, .inl f3)), (h2, .inl (k2, 833, .inl f_88)), (h4, .inl (k4, 400, .inl f_47))] H := by rw [e_f_88]; exact hP
        have hD : va_D A [(h0, .inr (6, mX6 h1 h2 h3 h4 h5 h6 h7 h8 v0)), (h1, .inl (k1, 1250, .inl f1)), (h5, .inl (k5, 400, .inl f_75)), (h3, .inl (k3, 833, .inl f3)), (h2, .inl (k2, 833, .inl f_88)), (h4, .inl (k4, 400, .inl f_47))] := by rw [e_f_88]; exact hD
        have hf_88 : zA 0 1250 f_88 := by rw [e_f_88]; exact zA_upd hf2 (show 0 ≤ ((v0 9) : Int32).toInt from by omega) (show ((v0 9) : Int32).toInt ≤ 1250 from by omega)
        refine lv_aload_n hx hb dX6_addChunk_89 rfl (lv_at hl 1 rfl) ?_
        refine va_get (D := (dC, dI)) (ci := 6) (v := .ref h3) (C := RX6) (T := TX6) (N := 12) hx hb hG zuX6 hown hK hP 0 rfl rfl 2 (by decide) (hG _ zw172) (fun _ h9 => h9) rfl dX6_addChunk_90 ?_
        refine lv_aload_n hx hb dX6_addChunk_93 rfl (lv_at hl 1 rfl) ?_
        refine va_get (D := (dC, dI)) (ci := 6) (v := .int (v0 8)) (C := RX6) (T := TX6) (N := 12) hx hb hG zuX6 hown hK hP 0 rfl rfl 8 (by decide) (hG _ zw171) (fun _ h9 => h9) rfl dX6_addChunk_94 ?_
        refine lv_iconst (v := (-1)) hx hb dX6_addChunk_97 (by decide) ?_
        refine va_iast hx hb hK hP hD hS 3 2 rfl rfl (zin_lit ⟨by omega, by omega⟩) dX6_addChunk_98 (fun H locs hP hD hS => ?_)
        obtain ⟨f_98, e_f_98⟩ : ∃ z : Nat → Int32, z = upd f3 ((v0 8) : Int32).toNatClampNeg (-1) := ⟨_, rfl⟩
        have hP : va_P (dC, dI) vwCl [(h0, .inr (6, mX6 h1 h2 h3 h4 h5 h6 h7 h8 v0)), (h1, .inl (k1, 1250, .inl f1)), (h5, .inl (k5, 400, .inl f_75)), (h3, .inl (k3, 833, .inl f_98)), (h2, .inl (k2, 833, .inl f_88)), (h4, .inl (k4, 400, .inl f_47))] H := by rw [e_f_98]; exact hP
        have hD : va_D A [(h0, .inr (6, mX6 h1 h2 h3 h4 h5 h6 h7 h8 v0)), (h1, .inl (k1, 1250, .inl f1)), (h5, .inl (k5, 400, .inl f_75)), (h3, .inl (k3, 833, .inl f_98)), (h2, .inl (k2, 833, .inl f_88)), (h4, .inl (k4, 400, .inl f_47))] := by rw [e_f_98]; exact hD
        refine lv_aload_n hx hb dX6_addChunk_99 rfl (lv_at hl 1 rfl) ?_
        refine lv_dup hx hb dX6_addChunk_100 rfl ?_
        refine va_get (D := (dC, dI)) (ci := 6) (v := .int (v0 8)) (C := RX6) (T := TX6) (N := 12) hx hb hG zuX6 hown hK hP 0 rfl rfl 8 (by decide) (hG _ zw171) (fun _ h9 => h9) rfl dX6_addChunk_101 ?_
        refine lv_iconst (v := 1) hx hb dX6_addChunk_104 (by decide) ?_
        refine lv_iadd hx hb dX6_addChunk_105 ?_
        refine lv_topi (fun z105 e_z105 => ?_)
        have b_ := zadd rfl zk_1 e_z105 (by omega) (by omega)
        refine va_put (D := (dC, dI)) (ci := 6) (v := .int z105) (ty := .int) (C := RX6) (T := TX6) (N := 12) hx hb hG zuX6 tyX6 tyX6_ok nmX6 hown hK hP hD hS 0 rfl rfl 8 (by decide) (hG _ zw171) (fun _ h9 => h9) rfl (by decide +kernel) rfl rfl (Nat.le_of_ble_eq_true rfl) dX6_addChunk_106 (fun H locs hP hD hS => ?_)
        have hP : va_P (dC, dI) vwCl [(h0, .inr (6, mX6 h1 h2 h3 h4 h5 h6 h7 h8 (upd v0 8 z105))), (h1, .inl (k1, 1250, .inl f1)), (h5, .inl (k5, 400, .inl f_75)), (h3, .inl (k3, 833, .inl f_98)), (h2, .inl (k2, 833, .inl f_88)), (h4, .inl (k4, 400, .inl f_47))] H := hP
        have hD : va_D A [(h0, .inr (6, mX6 h1 h2 h3 h4 h5 h6 h7 h8 (upd v0 8 z105))), (h1, .inl (k1, 1250, .inl f1)), (h5, .inl (k5, 400, .inl f_75)), (h3, .inl (k3, 833, .inl f_98)), (h2, .inl (k2, 833, .inl f_88)), (h4, .inl (k4, 400, .inl f_47))] := hD
        refine lv_aload_n hx hb dX6_addChunk_109 rfl (lv_at hl 1 rfl) ?_
        refine lv_dup hx hb dX6_addChunk_110 rfl ?_
        refine va_get (D := (dC, dI)) (ci := 6) (v := .int (v0 9)) (C := RX6) (T := TX6) (N := 12) hx hb hG zuX6 hown hK hP 0 rfl rfl 9 (by decide) (hG _ zw187) (fun _ h9 => h9) rfl dX6_addChunk_111 ?_
        refine lv_iload_n hx hb dX6_addChunk_114 rfl (lv_at hl 0 rfl) ?_
        refine lv_bipush (v := 32) hx hb dX6_addChunk_115 (by decide) ?_
        refine lv_idiv hx hb dX6_addChunk_117 (by decide) ?_
        refine lv_topi (fun z117 e_z117 => ?_)
        have b_ := zdiv rfl zk_32 e_z117 (by omega) (by decide)
        refine lv_iadd hx hb dX6_addChunk_118 ?_
        refine lv_topi (fun z118 e_z118 => ?_)
        have b_ := zadd rfl rfl e_z118 (by omega) (by omega)
        have b_ : 0 ≤ z118.toInt ∧ z118.toInt ≤ 1250 := ⟨by omega, by omega⟩
        refine va_put (D := (dC, dI)) (ci := 6) (v := .int z118) (ty := .int) (C := RX6) (T := TX6) (N := 12) hx hb hG zuX6 tyX6 tyX6_ok nmX6 hown hK hP hD hS 0 rfl rfl 9 (by decide) (hG _ zw187) (fun _ h9 => h9) rfl (by decide +kernel) rfl rfl (Nat.le_of_ble_eq_true rfl) dX6_addChunk_119 (fun H locs hP hD hS => ?_)
        have hP : va_P (dC, dI) vwCl [(h0, .inr (6, mX6 h1 h2 h3 h4 h5 h6 h7 h8 (upd (upd v0 8 z105) 9 z118))), (h1, .inl (k1, 1250, .inl f1)), (h5, .inl (k5, 400, .inl f_75)), (h3, .inl (k3, 833, .inl f_98)), (h2, .inl (k2, 833, .inl f_88)), (h4, .inl (k4, 400, .inl f_47))] H := hP
        have hD : va_D A [(h0, .inr (6, mX6 h1 h2 h3 h4 h5 h6 h7 h8 (upd (upd v0 8 z105) 9 z118))), (h1, .inl (k1, 1250, .inl f1)), (h5, .inl (k5, 400, .inl f_75)), (h3, .inl (k3, 833, .inl f_98)), (h2, .inl (k2, 833, .inl f_88)), (h4, .inl (k4, 400, .inl f_47))] := hD
        refine lv_aload_n hx hb dX6_addChunk_122 rfl (lv_at hl 1 rfl) ?_
        refine lv_dup hx hb dX6_addChunk_123 rfl ?_
        refine va_get (D := (dC, dI)) (ci := 6) (v := .int (v0 11)) (C := RX6) (T := TX6) (N := 12) hx hb hG zuX6 hown hK hP 0 rfl rfl 11 (by decide) (hG _ zw162) (fun _ h9 => h9) rfl dX6_addChunk_124 ?_
        refine lv_iload_n hx hb dX6_addChunk_127 rfl (lv_at hl 0 rfl) ?_
        refine lv_bipush (v := 16) hx hb dX6_addChunk_128 (by decide) ?_
        refine lv_iadd hx hb dX6_addChunk_130 ?_
        refine lv_topi (fun z130 e_z130 => ?_)
        have b_ := zadd rfl zk_16 e_z130 (by omega) (by omega)
        have b_ : -2147483648 ≤ (v0 11).toInt ∧ (v0 11).toInt ≤ 2147483647 := ⟨zlo _, zhi _⟩
        refine lv_iadd hx hb dX6_addChunk_131 ?_
        refine lv_topi (fun z131 e_z131 => ?_)
        refine va_put (D := (dC, dI)) (ci := 6) (v := .int z131) (ty := .int) (C := RX6) (T := TX6) (N := 12) hx hb hG zuX6 tyX6 tyX6_ok nmX6 hown hK hP hD hS 0 rfl rfl 11 (by decide) (hG _ zw162) (fun _ h9 => h9) rfl (by decide +kernel) rfl rfl (Nat.le_of_ble_eq_true rfl) dX6_addChunk_132 (fun H locs hP hD hS => ?_)
        have hP : va_P (dC, dI) vwCl [(h0, .inr (6, mX6 h1 h2 h3 h4 h5 h6 h7 h8 (upd (upd (upd v0 8 z105) 9 z118) 11 z131))), (h1, .inl (k1, 1250, .inl f1)), (h5, .inl (k5, 400, .inl f_75)), (h3, .inl (k3, 833, .inl f_98)), (h2, .inl (k2, 833, .inl f_88)), (h4, .inl (k4, 400, .inl f_47))] H := hP
        have hD : va_D A [(h0, .inr (6, mX6 h1 h2 h3 h4 h5 h6 h7 h8 (upd (upd (upd v0 8 z105) 9 z118) 11 z131))), (h1, .inl (k1, 1250, .inl f1)), (h5, .inl (k5, 400, .inl f_75)), (h3, .inl (k3, 833, .inl f_98)), (h2, .inl (k2, 833, .inl f_88)), (h4, .inl (k4, 400, .inl f_47))] := hD
        refine lv_iconst (v := 1) hx hb dX6_addChunk_135 (by decide) ?_
        refine W.widen (k := 0) (n := 0) (by decide) (by decide) ?_
        have b_ : -2147483648 ≤ z131.toInt ∧ z131.toInt ≤ 2147483647 := ⟨zlo _, zhi _⟩
        have hpost : (0 ≤ (1 : Int32).toInt ∧ (1 : Int32).toInt ≤ 1) ∧ (0 ≤ z105.toInt ∧ z105.toInt ≤ 833) ∧ (0 ≤ z118.toInt ∧ z118.toInt ≤ 1250) ∧ ((1 : Int32).toInt = 1 → zBs x2.toInt (32 * (z118.toInt - (v0 9).toInt))) ∧ ((1 : Int32).toInt = 1 → z105.toInt = (v0 8).toInt + 1) ∧ ((1 : Int32).toInt = 0 → z118.toInt = (v0 9).toInt ∧ z105.toInt = (v0 8).toInt) ∧ ((1 : Int32).toInt = (1 : Int32).toInt) := ⟨⟨by omega, by omega⟩, ⟨by omega, by omega⟩, ⟨by omega, by omega⟩, by intro _; have q := hX1_0 (by omega); unfold zBs at q ⊢; omega, by omega, by omega, rfl⟩
        have hP9 : va_P (dC, dI) vwCl [(h0, .inr (6, mX6 h1 h2 h3 h4 h5 h6 h7 h8 (upd (upd (upd v0 8 z105) 9 z118) 11 z131))), (h1, .inl (k1, 1250, .inl f1)), (h5, .inl (k5, 400, .inl f_75)), (h3, .inl (k3, 833, .inl f_98)), (h2, .inl (k2, 833, .inl f_88)), (h4, .inl (k4, 400, .inl f_47))] H := hP
        have hD9 : va_D A [(h0, .inr (6, mX6 h1 h2 h3 h4 h5 h6 h7 h8 (upd (upd (upd v0 8 z105) 9 z118) 11 z131))), (h1, .inl (k1, 1250, .inl f1)), (h5, .inl (k5, 400, .inl f_75)), (h3, .inl (k3, 833, .inl f_98)), (h2, .inl (k2, 833, .inl f_88)), (h4, .inl (k4, 400, .inl f_47))] := hD
        have hB0 : (1 : Int32).toInt = 1 → f_75 = upd f5 ((x1 : Int32)).toNatClampNeg (v0 8) ∧ f_88 = upd f2 (v0 8).toNatClampNeg (v0 9) := by first | (intro _; exact ⟨e_f_75, e_f_88⟩) | (intro q; exact absurd q (by decide))
        have hB1 : (1 : Int32).toInt = 0 → f_75 = f5 ∧ f_88 = f2 := by first | (intro _; exact ⟨rfl, rfl⟩) | (intro q; exact absurd q (by decide))
        exact W.zret (v := 1) hx hb hr rfl (fun t ht hW => ⟨⟨1, (fun i => ([z105, z118, z131, 1] : List (Int32)).getD i 0), rfl, hpost, (fun _ => 0), (fun i => ([f_75, f_98, f_88, f_47] : List (Nat → Int32)).getD i (fun _ => 0)), (fun _ => (fun _ => 0)), hf_75, hf_88, hB0, hB1, by rw [ht]; exact hP9, va_K.moved hW.alike hK, hD9⟩, hS.F ht⟩) hS.2.2 dX6_addChunk_136
    · skip
      have b_ := zF_le rfl zk_1250 c_
      refine lv_iconst (v := 0) hx hb dX6_addChunk_32 (by decide) ?_
      refine W.widen (k := 0) (n := 0) (by decide) (by decide) ?_
      have b_ : -2147483648 ≤ (v0 11).toInt ∧ (v0 11).toInt ≤ 2147483647 := ⟨zlo _, zhi _⟩
      have hpost : (0 ≤ (0 : Int32).toInt ∧ (0 : Int32).toInt ≤ 1) ∧ (0 ≤ (v0 8).toInt ∧ (v0 8).toInt ≤ 833) ∧ (0 ≤ (v0 9).toInt ∧ (v0 9).toInt ≤ 1250) ∧ ((0 : Int32).toInt = 1 → zBs x2.toInt (32 * ((v0 9).toInt - (v0 9).toInt))) ∧ ((0 : Int32).toInt = 1 → (v0 8).toInt = (v0 8).toInt + 1) ∧ ((0 : Int32).toInt = 0 → (v0 9).toInt = (v0 9).toInt ∧ (v0 8).toInt = (v0 8).toInt) ∧ ((0 : Int32).toInt = (0 : Int32).toInt) := ⟨⟨by omega, by omega⟩, ⟨by omega, by omega⟩, ⟨by omega, by omega⟩, by intro _; have q := hX1_0 (by omega); unfold zBs at q ⊢; omega, by omega, by omega, rfl⟩
      have hP9 : va_P (dC, dI) vwCl [(h0, .inr (6, mX6 h1 h2 h3 h4 h5 h6 h7 h8 (upd (upd (upd v0 8 (v0 8)) 9 (v0 9)) 11 (v0 11)))), (h1, .inl (k1, 1250, .inl f1)), (h5, .inl (k5, 400, .inl f5)), (h3, .inl (k3, 833, .inl f3)), (h2, .inl (k2, 833, .inl f2)), (h4, .inl (k4, 400, .inl f4))] H := hP
      have hD9 : va_D A [(h0, .inr (6, mX6 h1 h2 h3 h4 h5 h6 h7 h8 (upd (upd (upd v0 8 (v0 8)) 9 (v0 9)) 11 (v0 11)))), (h1, .inl (k1, 1250, .inl f1)), (h5, .inl (k5, 400, .inl f5)), (h3, .inl (k3, 833, .inl f3)), (h2, .inl (k2, 833, .inl f2)), (h4, .inl (k4, 400, .inl f4))] := hD
      have hB0 : (0 : Int32).toInt = 1 → f5 = upd f5 ((x1 : Int32)).toNatClampNeg (v0 8) ∧ f2 = upd f2 (v0 8).toNatClampNeg (v0 9) := by first | (intro _; exact ⟨e_f_75, e_f_88⟩) | (intro q; exact absurd q (by decide))
      have hB1 : (0 : Int32).toInt = 0 → f5 = f5 ∧ f2 = f2 := by first | (intro _; exact ⟨rfl, rfl⟩) | (intro q; exact absurd q (by decide))
      exact W.zret (v := 0) hx hb hr rfl (fun t ht hW => ⟨⟨0, (fun i => ([(v0 8), (v0 9), (v0 11), 0] : List (Int32)).getD i 0), rfl, hpost, (fun _ => 0), (fun i => ([f5, f3, f2, f4] : List (Nat → Int32)).getD i (fun _ => 0)), (fun _ => (fun _ => 0)), hf5, hf2, hB0, hB1, by rw [ht]; exact hP9, va_K.moved hW.alike hK, hD9⟩, hS.F ht⟩) hS.2.2 dX6_addChunk_33
set_option maxHeartbeats 8000000 in
set_option maxRecDepth 100000 in
theorem sX6_appendBit_0 (l : Launch) (dC : Nat → ClassId) (dI : Nat → Nat → Nat) (adK adV : Nat → Nat) (h0 : Nat) (h6 : Nat) (h5 : Nat) (h2 : Nat) (h1 : Nat) (h3 : Nat) (h4 : Nat) (h7 : Nat) (h8 : Nat) (k6 : ClassId) (k5 : ClassId) (k2 : ClassId) (k1 : ClassId) (k3 : ClassId) (k4 : ClassId) (sz : Nat) (v0 : Nat → Int32) (f6 : Nat → Int32) (f5 : Nat → Int32) (f2 : Nat → Int32) (f1 : Nat → Int32) (f3 : Nat → Int32) (f4 : Nat → Int32) (x1 : Int32) (x2 : Int32) (hv0 : zR rg_Postings v0) (hf5 : zA 0 832 f5) (hf2 : zA 0 1250 f2) (hp0_ : zPhi f2 f5 f6 (v0 9).toInt (v0 8).toInt) : Met l yX6_appendBit (zw yX6_appendBit cX6_appendBit 5 none) { frames := 2, cells := 0, slots := 0, locals := 43 } (zPc dC dI adK adV [.ref h0, .int x1, .int x2] sz [(h0, .inr (6, mX6 h1 h2 h3 h4 h5 h6 h7 h8 v0)), (h6, .inl (k6, 400, .inl f6)), (h5, .inl (k5, 400, .inl f5)), (h2, .inl (k2, 833, .inl f2)), (h1, .inl (k1, 1250, .inl f1)), (h3, .inl (k3, 833, .inl f3)), (h4, .inl (k4, 400, .inl f4))] [(k6, .int), (k5, .int), (k2, .int), (k1, .int), (k3, .int), (k4, .int)]) (va_Qv (fun (u : Nat → Int32) => (0 ≤ (u 0).toInt ∧ (u 0).toInt ≤ 833) ∧ (0 ≤ (u 1).toInt ∧ (u 1).toInt ≤ 1250)) (fun (u : Nat → Int32) (t : State) => ∃ (ww : Nat → Int64) (aa : Nat → Nat → Int32) (bb : Nat → Nat → Int64), zA 0 832 (aa 1) ∧ zA 0 1250 (aa 2) ∧ (zPhi (aa 2) (aa 1) (aa 0) (u 1).toInt (u 0).toInt) ∧ va_P (dC, dI) vwCl [(h0, .inr (6, mX6 h1 h2 h3 h4 h5 h6 h7 h8 (upd (upd (upd (upd v0 8 (u 0)) 9 (u 1)) 10 (u 2)) 11 (u 3)))), (h6, .inl (k6, 400, .inl (aa 0))), (h5, .inl (k5, 400, .inl (aa 1))), (h2, .inl (k2, 833, .inl (aa 2))), (h1, .inl (k1, 1250, .inl (aa 3))), (h3, .inl (k3, 833, .inl (aa 4))), (h4, .inl (k4, 400, .inl (aa 5)))] t.heap ∧ va_K (dC, dI) vwCl [(k6, .int), (k5, .int), (k2, .int), (k1, .int), (k3, .int), (k4, .int)] t ∧ va_D (va_A [(h0, .inr (6, mX6 h1 h2 h3 h4 h5 h6 h7 h8 v0)), (h6, .inl (k6, 400, .inl f6)), (h5, .inl (k5, 400, .inl f5)), (h2, .inl (k2, 833, .inl f2)), (h1, .inl (k1, 1250, .inl f1)), (h3, .inl (k3, 833, .inl f3)), (h4, .inl (k4, 400, .inl f4))] sz) [(h0, .inr (6, mX6 h1 h2 h3 h4 h5 h6 h7 h8 (upd (upd (upd (upd v0 8 (u 0)) 9 (u 1)) 10 (u 2)) 11 (u 3)))), (h6, .inl (k6, 400, .inl (aa 0))), (h5, .inl (k5, 400, .inl (aa 1))), (h2, .inl (k2, 833, .inl (aa 2))), (h1, .inl (k1, 1250, .inl (aa 3))), (h3, .inl (k3, 833, .inl (aa 4))), (h4, .inl (k4, 400, .inl (aa 5)))]) (va_A [(h0, .inr (6, mX6 h1 h2 h3 h4 h5 h6 h7 h8 v0)), (h6, .inl (k6, 400, .inl f6)), (h5, .inl (k5, 400, .inl f5)), (h2, .inl (k2, 833, .inl f2)), (h1, .inl (k1, 1250, .inl f1)), (h3, .inl (k3, 833, .inl f3)), (h4, .inl (k4, 400, .inl f4))] sz)) 0 0 (va_A [(h0, .inr (6, mX6 h1 h2 h3 h4 h5 h6 h7 h8 v0)), (h6, .inl (k6, 400, .inl f6)), (h5, .inl (k5, 400, .inl f5)), (h2, .inl (k2, 833, .inl f2)), (h1, .inl (k1, 1250, .inl f1)), (h3, .inl (k3, 833, .inl f3)), (h4, .inl (k4, 400, .inl f4))] sz) := by
  refine Met.ofW (cc := cX6_appendBit) (maxL := 5) (ret := none) (by decide) rfl ?_
  intro p e s m args below meth c s₁ B hml hv
  obtain ⟨rfl, hsz, hP, hK, hD0, hE, hZ⟩ := hv
  have hx := B.exec
  have hb := B.bytes
  have hr := B.returns
  have hG : ∀ w ∈ zG, w.before _ s = true := fun w h => atoms_spec (ws := (zw yX6_appendBit cX6_appendBit 5 none)) B.pre w (List.mem_cons_of_mem _ h)
  have hown : s.vm.findClass RX6 = some m.cls := findClass_of_methodNamed B.named
  have hlocks := B.notSynchronized

  subst hsz
  have hD := hD0.self (sz := s.heap.size)
  generalize hAe : va_A [(h0, .inr (6, mX6 h1 h2 h3 h4 h5 h6 h7 h8 v0)), (h6, .inl (k6, 400, .inl f6)), (h5, .inl (k5, 400, .inl f5)), (h2, .inl (k2, 833, .inl f2)), (h1, .inl (k1, 1250, .inl f1)), (h3, .inl (k3, 833, .inl f3)), (h4, .inl (k4, 400, .inl f4))] s.heap.size = A at hD hZ ⊢
  have hA : ∀ q : Nat, s.heap.size ≤ q → A q := fun q h => by rw [← hAe]; exact Or.inr h
  have hS : va_S A s.heap s.heap [] := va_S.rf
  have hl := lv_entry ([.ref h0, .int x1, .int x2]) (n := 5) (Nat.le_of_ble_eq_true rfl)
  rw [lg_entry_eq]
  generalize (lg_sl ([.ref h0, .int x1, .int x2]) ++ List.replicate (5 - (lg_sl ([.ref h0, .int x1, .int x2])).length) Slot.unset).toArray = ls at hl ⊢
  have hl : lv_has ls 5 [(0, .ref h0), (1, .int x1), (2, .int x2)] := hl
  have b_ : 0 ≤ (v0 9).toInt ∧ (v0 9).toInt ≤ 1250 := hv0 9
  have b_ : 0 ≤ (v0 8).toInt ∧ (v0 8).toInt ≤ 833 := hv0 8
  refine lv_iload_n hx hb dX6_appendBit_0 rfl (lv_at hl 1 rfl) ?_
  have hPc := hP.sub (ws' := []) [] rfl
  have hDc := hD.sub (ws' := []) [] (by decide) rfl
  have hKc := hK.sub (tys' := []) [] rfl
  have hFc := va_free (wc := []) hD hS hA [] rfl
  refine va_calli (va_runS (As := [.int x1]) (rest := []) ⟨hx, hb, hml, hown, hG⟩ (sX6_isId_0 l dC dI adK adV s.heap.size x1) (va_cwS 1 hG (zgS zw165 zw166 zw146 zw167) rfl rfl rfl (by decide +kernel) ⟨Nat.le_of_ble_eq_true rfl, Nat.le_of_ble_eq_true rfl⟩) ⟨zPc_blind, zPc_pre hPc hKc hDc hE hS hFc hZ⟩ rfl rfl hl.1 rfl (lv_room (Nat.le_of_ble_eq_true rfl)) dX6_appendBit_1 ⟨Nat.le_of_ble_eq_true rfl, Nat.le_of_ble_eq_true rfl⟩) hS (fun q _ h => hFc q h) hFc (fun r1_ u1_ t H1 locs ht hvm hw hB hz1 hk1 hS => ?_)
  have hw : (0 ≤ r1_.toInt ∧ r1_.toInt ≤ 1) ∧ (r1_.toInt = 1 → (0 ≤ x1.toInt ∧ x1.toInt ≤ 399)) := hw
  obtain ⟨b_, hX1_0⟩ := hw
  obtain ⟨w1_, a1_, b1_, hP1, hK1, hD1⟩ := hB
  rw [ht] at hP1
  obtain ⟨hP, hD⟩ := va_join (wr := [(h0, .inr (6, mX6 h1 h2 h3 h4 h5 h6 h7 h8 v0)), (h6, .inl (k6, 400, .inl f6)), (h5, .inl (k5, 400, .inl f5)), (h2, .inl (k2, 833, .inl f2)), (h1, .inl (k1, 1250, .inl f1)), (h3, .inl (k3, 833, .inl f3)), (h4, .inl (k4, 400, .inl f4))]) (w1 := []) hP hD [] [0, 1, 2, 3, 4, 5, 6] rfl rfl (by decide) (by decide) hk1 hFc hP1 hD1
  have hP : va_P (dC, dI) vwCl [(h0, .inr (6, mX6 h1 h2 h3 h4 h5 h6 h7 h8 v0)), (h6, .inl (k6, 400, .inl f6)), (h5, .inl (k5, 400, .inl f5)), (h2, .inl (k2, 833, .inl f2)), (h1, .inl (k1, 1250, .inl f1)), (h3, .inl (k3, 833, .inl f3)), (h4, .inl (k4, 400, .inl f4))] H1 := hP.sub [0, 1, 2, 3, 4, 5, 6] rfl
  have hD : va_D A [(h0, .inr (6, mX6 h1 h2 h3 h4 h5 h6 h7 h8 v0)), (h6, .inl (k6, 400, .inl f6)), (h5, .inl (k5, 400, .inl f5)), (h2, .inl (k2, 833, .inl f2)), (h1, .inl (k1, 1250, .inl f1)), (h3, .inl (k3, 833, .inl f3)), (h4, .inl (k4, 400, .inl f4))] := hD.sub [0, 1, 2, 3, 4, 5, 6] (by decide) rfl
  generalize H1 = H at hP hS ⊢
  clear hz1
  refine lv_if_ne (tgt := 8) hx hb dX6_appendBit_4 (by decide) (fun c_ => ?_) (fun c_ => ?_)
  · skip
    have b_ := zT_ne rfl zk_0 c_
    refine lv_aload_n hx hb dX6_appendBit_8 rfl (lv_at hl 0 rfl) ?_
    refine va_get (D := (dC, dI)) (ci := 6) (v := .ref h6) (C := RX6) (T := TX6) (N := 12) hx hb hG zuX6 hown hK hP 0 rfl rfl 5 (by decide) (hG _ zw164) (fun _ h9 => h9) rfl dX6_appendBit_9 ?_
    refine lv_iload_n hx hb dX6_appendBit_12 rfl (lv_at hl 1 rfl) ?_
    refine va_iald hx hb hK hP 1 0 rfl rfl (zin_lit ⟨by omega, by omega⟩) dX6_appendBit_13 ?_
    refine lv_topi (fun z13 e_z13 => ?_)
    have hid : (x1 : Int32).toNatClampNeg < 400 := by have q : (x1 : Int32).toNatClampNeg = x1.toInt.toNat := rfl; omega
    obtain ⟨c9, r9, s9, hch, hph⟩ := hp0_ (x1 : Int32).toNatClampNeg hid
    rw [← e_z13] at hch hph
    have hchi := zCh_in hch
    have b_ : 0 ≤ z13.toInt ∧ z13.toInt ≤ 40000 := by omega
    have hPc := hP.sub (ws' := []) [] rfl
    have hDc := hD.sub (ws' := []) [] (by decide) rfl
    have hKc := hK.sub (tys' := []) [] rfl
    have hFc := va_free (wc := []) hD hS hA [] rfl
    refine va_calli (va_runS (As := [.int z13]) (rest := []) ⟨hx, hb, hml, hown, hG⟩ (sX6_chunkOf_0 l dC dI adK adV H.size z13) (va_cwS 1 hG (zgS zw144 zw145 zw146 zw147) rfl rfl rfl (by decide +kernel) ⟨Nat.le_of_ble_eq_true rfl, Nat.le_of_ble_eq_true rfl⟩) ⟨zPc_blind, zPc_pre hPc hKc hDc hE hS hFc hZ⟩ rfl rfl hl.1 rfl (lv_room (Nat.le_of_ble_eq_true rfl)) dX6_appendBit_14 ⟨Nat.le_of_ble_eq_true rfl, Nat.le_of_ble_eq_true rfl⟩) hS (fun q _ h => hFc q h) hFc (fun r14_ u14_ t H1 locs ht hvm hw hB hz1 hk1 hS => ?_)
    have hw : (0 ≤ r14_.toInt ∧ r14_.toInt ≤ 8388610) ∧ (0 ≤ z13.toInt → zCk z13.toInt r14_.toInt) := hw
    obtain ⟨b_, hX14_0⟩ := hw
    obtain ⟨w14_, a14_, b14_, hP1, hK1, hD1⟩ := hB
    rw [ht] at hP1
    obtain ⟨hP, hD⟩ := va_join (wr := [(h0, .inr (6, mX6 h1 h2 h3 h4 h5 h6 h7 h8 v0)), (h6, .inl (k6, 400, .inl f6)), (h5, .inl (k5, 400, .inl f5)), (h2, .inl (k2, 833, .inl f2)), (h1, .inl (k1, 1250, .inl f1)), (h3, .inl (k3, 833, .inl f3)), (h4, .inl (k4, 400, .inl f4))]) (w1 := []) hP hD [] [0, 1, 2, 3, 4, 5, 6] rfl rfl (by decide) (by decide) hk1 hFc hP1 hD1
    have hP : va_P (dC, dI) vwCl [(h0, .inr (6, mX6 h1 h2 h3 h4 h5 h6 h7 h8 v0)), (h6, .inl (k6, 400, .inl f6)), (h5, .inl (k5, 400, .inl f5)), (h2, .inl (k2, 833, .inl f2)), (h1, .inl (k1, 1250, .inl f1)), (h3, .inl (k3, 833, .inl f3)), (h4, .inl (k4, 400, .inl f4))] H1 := hP.sub [0, 1, 2, 3, 4, 5, 6] rfl
    have hD : va_D A [(h0, .inr (6, mX6 h1 h2 h3 h4 h5 h6 h7 h8 v0)), (h6, .inl (k6, 400, .inl f6)), (h5, .inl (k5, 400, .inl f5)), (h2, .inl (k2, 833, .inl f2)), (h1, .inl (k1, 1250, .inl f1)), (h3, .inl (k3, 833, .inl f3)), (h4, .inl (k4, 400, .inl f4))] := hD.sub [0, 1, 2, 3, 4, 5, 6] (by decide) rfl
    generalize H1 = H at hP hS ⊢
    clear hz1
    have b14 : r14_.toInt = c9 := zCk_u (hX14_0 (by omega)) hch
    have b_ : 0 ≤ r14_.toInt ∧ r14_.toInt ≤ 200 := by omega
    refine lv_istore_n (lv' := [(3, .int r14_), (0, .ref h0), (1, .int x1), (2, .int x2)]) hx hb dX6_appendBit_17 rfl hl (by decide) rfl (fun ls hl => ?_)
    refine lv_aload_n hx hb dX6_appendBit_18 rfl (lv_at hl 1 rfl) ?_
    refine va_get (D := (dC, dI)) (ci := 6) (v := .ref h6) (C := RX6) (T := TX6) (N := 12) hx hb hG zuX6 hown hK hP 0 rfl rfl 5 (by decide) (hG _ zw164) (fun _ h9 => h9) rfl dX6_appendBit_19 ?_
    refine lv_iload_n hx hb dX6_appendBit_22 rfl (lv_at hl 2 rfl) ?_
    refine va_iald hx hb hK hP 1 0 rfl rfl (zin_lit ⟨by omega, by omega⟩) dX6_appendBit_23 ?_
    refine lv_topi (fun z23 e_z23 => ?_)
    have e23 : z23 = z13 := e_z23.trans e_z13.symm
    have b_ : z23.toInt = z13.toInt := by rw [e23]
    refine lv_iload_n hx hb dX6_appendBit_24 rfl (lv_at hl 0 rfl) ?_
    have hPc := hP.sub (ws' := []) [] rfl
    have hDc := hD.sub (ws' := []) [] (by decide) rfl
    have hKc := hK.sub (tys' := []) [] rfl
    have hFc := va_free (wc := []) hD hS hA [] rfl
    refine va_calli (va_runS (As := [.int r14_]) (rest := [.int z23]) ⟨hx, hb, hml, hown, hG⟩ (sX6_roomOf_0 l dC dI adK adV H.size r14_) (va_cwS 1 hG (zgS zw151 zw152 zw146 zw153) rfl rfl rfl (by decide +kernel) ⟨Nat.le_of_ble_eq_true rfl, Nat.le_of_ble_eq_true rfl⟩) ⟨zPc_blind, zPc_pre hPc hKc hDc hE hS hFc hZ⟩ rfl rfl hl.1 rfl (lv_room (Nat.le_of_ble_eq_true rfl)) dX6_appendBit_25 ⟨Nat.le_of_ble_eq_true rfl, Nat.le_of_ble_eq_true rfl⟩) hS (fun q _ h => hFc q h) hFc (fun r25_ u25_ t H1 locs ht hvm hw hB hz1 hk1 hS => ?_)
    have hw : (0 ≤ r14_.toInt → r14_.toInt ≤ 1000 → zRo r14_.toInt r25_.toInt) := hw
    have hX25_0 := hw
    obtain ⟨w25_, a25_, b25_, hP1, hK1, hD1⟩ := hB
    rw [ht] at hP1
    obtain ⟨hP, hD⟩ := va_join (wr := [(h0, .inr (6, mX6 h1 h2 h3 h4 h5 h6 h7 h8 v0)), (h6, .inl (k6, 400, .inl f6)), (h5, .inl (k5, 400, .inl f5)), (h2, .inl (k2, 833, .inl f2)), (h1, .inl (k1, 1250, .inl f1)), (h3, .inl (k3, 833, .inl f3)), (h4, .inl (k4, 400, .inl f4))]) (w1 := []) hP hD [] [0, 1, 2, 3, 4, 5, 6] rfl rfl (by decide) (by decide) hk1 hFc hP1 hD1
    have hP : va_P (dC, dI) vwCl [(h0, .inr (6, mX6 h1 h2 h3 h4 h5 h6 h7 h8 v0)), (h6, .inl (k6, 400, .inl f6)), (h5, .inl (k5, 400, .inl f5)), (h2, .inl (k2, 833, .inl f2)), (h1, .inl (k1, 1250, .inl f1)), (h3, .inl (k3, 833, .inl f3)), (h4, .inl (k4, 400, .inl f4))] H1 := hP.sub [0, 1, 2, 3, 4, 5, 6] rfl
    have hD : va_D A [(h0, .inr (6, mX6 h1 h2 h3 h4 h5 h6 h7 h8 v0)), (h6, .inl (k6, 400, .inl f6)), (h5, .inl (k5, 400, .inl f5)), (h2, .inl (k2, 833, .inl f2)), (h1, .inl (k1, 1250, .inl f1)), (h3, .inl (k3, 833, .inl f3)), (h4, .inl (k4, 400, .inl f4))] := hD.sub [0, 1, 2, 3, 4, 5, 6] (by decide) rfl
    generalize H1 = H at hP hS ⊢
    clear hz1
    have b25 : r25_.toInt = r9 := zRo_u (by rw [← b14]; exact hX25_0 (by omega) (by omega)) hch
    have b_ : 0 ≤ r25_.toInt ∧ r25_.toInt ≤ 40000 := by have q := hch.2.1; have q2 := hch.1; unfold zRo at q; unfold zCk at q2; omega
    have b_ : -2147483648 ≤ r25_.toInt ∧ r25_.toInt ≤ 2147483647 := ⟨zlo _, zhi _⟩
    refine lv_isub hx hb dX6_appendBit_28 ?_
    refine lv_topi (fun z28 e_z28 => ?_)
    have b_ := zsub rfl rfl e_z28 (by omega) (by omega)
    have b_ : 0 ≤ z28.toInt ∧ z28.toInt ≤ 255 := ⟨by omega, by omega⟩
    refine lv_istore (lv' := [(4, .int z28), (3, .int r14_), (0, .ref h0), (1, .int x1), (2, .int x2)]) hx hb dX6_appendBit_29 hl (by decide) rfl (fun ls hl => ?_)
    refine lv_iload hx hb dX6_appendBit_31 (lv_at hl 0 rfl) ?_
    refine lv_if_ne (tgt := 46) hx hb dX6_appendBit_33 (by decide) (fun c_ => ?_) (fun c_ => ?_)
    · skip
      have b_ := zT_ne rfl zk_0 c_
      refine lv_aload_n hx hb dX6_appendBit_46 rfl (lv_at hl 2 rfl) ?_
      refine va_get (D := (dC, dI)) (ci := 6) (v := .ref h1) (C := RX6) (T := TX6) (N := 12) hx hb hG zuX6 hown hK hP 0 rfl rfl 0 (by decide) (hG _ zw174) (fun _ h9 => h9) rfl dX6_appendBit_47 ?_
      refine lv_aload_n hx hb dX6_appendBit_50 rfl (lv_at hl 2 rfl) ?_
      refine va_get (D := (dC, dI)) (ci := 6) (v := .ref h2) (C := RX6) (T := TX6) (N := 12) hx hb hG zuX6 hown hK hP 0 rfl rfl 1 (by decide) (hG _ zw173) (fun _ h9 => h9) rfl dX6_appendBit_51 ?_
      refine lv_aload_n hx hb dX6_appendBit_54 rfl (lv_at hl 2 rfl) ?_
      refine va_get (D := (dC, dI)) (ci := 6) (v := .ref h5) (C := RX6) (T := TX6) (N := 12) hx hb hG zuX6 hown hK hP 0 rfl rfl 4 (by decide) (hG _ zw190) (fun _ h9 => h9) rfl dX6_appendBit_55 ?_
      refine lv_iload_n hx hb dX6_appendBit_58 rfl (lv_at hl 3 rfl) ?_
      refine va_iald hx hb hK hP 2 1 rfl rfl (zin_lit ⟨by omega, by omega⟩) dX6_appendBit_59 ?_
      refine lv_topi (fun z59 e_z59 => ?_)
      have b_ : 0 ≤ z59.toInt ∧ z59.toInt ≤ 832 := by rw [e_z59]; exact hf5 _
      have hph2 : r9 + s9 ≤ 32 * (v0 9).toInt ∧ 32 * (f2 (z59 : Int32).toNatClampNeg).toInt + s9 ≤ 32 * (v0 9).toInt ∧ z59.toInt < (v0 8).toInt := by rw [e_z59]; omega
      refine va_iald hx hb hK hP 3 2 rfl rfl (zin_lit ⟨by omega, by omega⟩) dX6_appendBit_60 ?_
      refine lv_topi (fun z60 e_z60 => ?_)
      have b_ : 0 ≤ z60.toInt ∧ z60.toInt ≤ 1250 := by rw [e_z60]; exact hf2 _
      have b_ : 32 * z60.toInt + s9 ≤ 32 * (v0 9).toInt := by rw [e_z60]; omega
      refine lv_iload hx hb dX6_appendBit_61 (lv_at hl 0 rfl) ?_
      refine lv_bipush (v := 32) hx hb dX6_appendBit_63 (by decide) ?_
      refine lv_idiv hx hb dX6_appendBit_65 (by decide) ?_
      refine lv_topi (fun z65 e_z65 => ?_)
      have b_ := zdiv rfl zk_32 e_z65 (by omega) (by decide)
      refine lv_iadd hx hb dX6_appendBit_66 ?_
      refine lv_topi (fun z66 e_z66 => ?_)
      have b_ := zadd rfl rfl e_z66 (by omega) (by omega)
      refine lv_dup2_11 hx hb dX6_appendBit_67 rfl rfl ?_
      refine va_iald hx hb hK hP 4 3 rfl rfl (zin_lit ⟨by omega, by omega⟩) dX6_appendBit_68 ?_
      refine lv_topi (fun z68 e_z68 => ?_)
      refine lv_iload_n hx hb dX6_appendBit_69 rfl (lv_at hl 4 rfl) ?_
      refine lv_bipush (v := 31) hx hb dX6_appendBit_70 (by decide) ?_
      refine lv_iload hx hb dX6_appendBit_72 (lv_at hl 0 rfl) ?_
      refine lv_bipush (v := 32) hx hb dX6_appendBit_74 (by decide) ?_
      refine lv_irem hx hb dX6_appendBit_76 (by decide) ?_
      refine lv_topi (fun z76 e_z76 => ?_)
      have b_ := zrem rfl zk_32 e_z76 (by omega) (by decide)
      refine lv_isub hx hb dX6_appendBit_77 ?_
      refine lv_topi (fun z77 e_z77 => ?_)
      have b_ := zsub zk_31 rfl e_z77 (by omega) (by omega)
      have b_ : -2147483648 ≤ x2.toInt ∧ x2.toInt ≤ 2147483647 := ⟨zlo _, zhi _⟩
      refine lv_ishl hx hb dX6_appendBit_78 ?_
      refine lv_topi (fun z78 e_z78 => ?_)
      have b_ : -2147483648 ≤ z68.toInt ∧ z68.toInt ≤ 2147483647 := ⟨zlo _, zhi _⟩
      have b_ : -2147483648 ≤ z78.toInt ∧ z78.toInt ≤ 2147483647 := ⟨zlo _, zhi _⟩
      refine lv_ior hx hb dX6_appendBit_79 ?_
      refine lv_topi (fun z79 e_z79 => ?_)
      refine va_iast hx hb hK hP hD hS 4 3 rfl rfl (zin_lit ⟨by omega, by omega⟩) dX6_appendBit_80 (fun H locs hP hD hS => ?_)
      obtain ⟨f_80, e_f_80⟩ : ∃ z : Nat → Int32, z = upd f1 (z66 : Int32).toNatClampNeg z79 := ⟨_, rfl⟩
      have hP : va_P (dC, dI) vwCl [(h0, .inr (6, mX6 h1 h2 h3 h4 h5 h6 h7 h8 v0)), (h6, .inl (k6, 400, .inl f6)), (h5, .inl (k5, 400, .inl f5)), (h2, .inl (k2, 833, .inl f2)), (h1, .inl (k1, 1250, .inl f_80)), (h3, .inl (k3, 833, .inl f3)), (h4, .inl (k4, 400, .inl f4))] H := by rw [e_f_80]; exact hP
      have hD : va_D A [(h0, .inr (6, mX6 h1 h2 h3 h4 h5 h6 h7 h8 v0)), (h6, .inl (k6, 400, .inl f6)), (h5, .inl (k5, 400, .inl f5)), (h2, .inl (k2, 833, .inl f2)), (h1, .inl (k1, 1250, .inl f_80)), (h3, .inl (k3, 833, .inl f3)), (h4, .inl (k4, 400, .inl f4))] := by rw [e_f_80]; exact hD
      refine lv_aload_n hx hb dX6_appendBit_81 rfl (lv_at hl 2 rfl) ?_
      refine va_get (D := (dC, dI)) (ci := 6) (v := .ref h6) (C := RX6) (T := TX6) (N := 12) hx hb hG zuX6 hown hK hP 0 rfl rfl 5 (by decide) (hG _ zw164) (fun _ h9 => h9) rfl dX6_appendBit_82 ?_
      refine lv_iload_n hx hb dX6_appendBit_85 rfl (lv_at hl 3 rfl) ?_
      refine lv_dup2_11 hx hb dX6_appendBit_86 rfl rfl ?_
      refine va_iald hx hb hK hP 1 0 rfl rfl (zin_lit ⟨by omega, by omega⟩) dX6_appendBit_87 ?_
      refine lv_topi (fun z87 e_z87 => ?_)
      have b_ : z87.toInt = z13.toInt := by rw [e_z87, e_z13]
      refine lv_iconst (v := 1) hx hb dX6_appendBit_88 (by decide) ?_
      refine lv_iadd hx hb dX6_appendBit_89 ?_
      refine lv_topi (fun z89 e_z89 => ?_)
      have b_ := zadd rfl zk_1 e_z89 (by omega) (by omega)
      refine va_iast hx hb hK hP hD hS 1 0 rfl rfl (zin_lit ⟨by omega, by omega⟩) dX6_appendBit_90 (fun H locs hP hD hS => ?_)
      obtain ⟨f_90, e_f_90⟩ : ∃ z : Nat → Int32, z = upd f6 (x1 : Int32).toNatClampNeg z89 := ⟨_, rfl⟩
      have hP : va_P (dC, dI) vwCl [(h0, .inr (6, mX6 h1 h2 h3 h4 h5 h6 h7 h8 v0)), (h6, .inl (k6, 400, .inl f_90)), (h5, .inl (k5, 400, .inl f5)), (h2, .inl (k2, 833, .inl f2)), (h1, .inl (k1, 1250, .inl f_80)), (h3, .inl (k3, 833, .inl f3)), (h4, .inl (k4, 400, .inl f4))] H := by rw [e_f_90]; exact hP
      have hD : va_D A [(h0, .inr (6, mX6 h1 h2 h3 h4 h5 h6 h7 h8 v0)), (h6, .inl (k6, 400, .inl f_90)), (h5, .inl (k5, 400, .inl f5)), (h2, .inl (k2, 833, .inl f2)), (h1, .inl (k1, 1250, .inl f_80)), (h3, .inl (k3, 833, .inl f3)), (h4, .inl (k4, 400, .inl f4))] := by rw [e_f_90]; exact hD
      refine lv_aload_n hx hb dX6_appendBit_91 rfl (lv_at hl 2 rfl) ?_
      refine lv_dup hx hb dX6_appendBit_92 rfl ?_
      refine va_get (D := (dC, dI)) (ci := 6) (v := .int (v0 10)) (C := RX6) (T := TX6) (N := 12) hx hb hG zuX6 hown hK hP 0 rfl rfl 10 (by decide) (hG _ zw163) (fun _ h9 => h9) rfl dX6_appendBit_93 ?_
      refine lv_iconst (v := 1) hx hb dX6_appendBit_96 (by decide) ?_
      have b_ : -2147483648 ≤ (v0 10).toInt ∧ (v0 10).toInt ≤ 2147483647 := ⟨zlo _, zhi _⟩
      refine lv_iadd hx hb dX6_appendBit_97 ?_
      refine lv_topi (fun z97 e_z97 => ?_)
      refine va_put (D := (dC, dI)) (ci := 6) (v := .int z97) (ty := .int) (C := RX6) (T := TX6) (N := 12) hx hb hG zuX6 tyX6 tyX6_ok nmX6 hown hK hP hD hS 0 rfl rfl 10 (by decide) (hG _ zw163) (fun _ h9 => h9) rfl (by decide +kernel) rfl rfl (Nat.le_of_ble_eq_true rfl) dX6_appendBit_98 (fun H locs hP hD hS => ?_)
      have hP : va_P (dC, dI) vwCl [(h0, .inr (6, mX6 h1 h2 h3 h4 h5 h6 h7 h8 (upd v0 10 z97))), (h6, .inl (k6, 400, .inl f_90)), (h5, .inl (k5, 400, .inl f5)), (h2, .inl (k2, 833, .inl f2)), (h1, .inl (k1, 1250, .inl f_80)), (h3, .inl (k3, 833, .inl f3)), (h4, .inl (k4, 400, .inl f4))] H := hP
      have hD : va_D A [(h0, .inr (6, mX6 h1 h2 h3 h4 h5 h6 h7 h8 (upd v0 10 z97))), (h6, .inl (k6, 400, .inl f_90)), (h5, .inl (k5, 400, .inl f5)), (h2, .inl (k2, 833, .inl f2)), (h1, .inl (k1, 1250, .inl f_80)), (h3, .inl (k3, 833, .inl f3)), (h4, .inl (k4, 400, .inl f4))] := hD
      have hphi : zPhi f2 f5 f_90 (v0 9).toInt (v0 8).toInt := by rw [e_f_90]; exact zPhi_A hp0_ (by rw [← e_z13]; exact hch) (by rw [← e_z13]; omega) (by omega) (by rw [← e_z59]; omega) (by rw [← e_z59]; omega) (show z89.toInt = (f6 (x1 : Int32).toNatClampNeg).toInt + 1 from by rw [← e_z13]; omega)
      refine W.widen (k := 0) (n := 0) (by decide) (by decide) ?_
      have b_ : -2147483648 ≤ z97.toInt ∧ z97.toInt ≤ 2147483647 := ⟨zlo _, zhi _⟩
      have b_ : -2147483648 ≤ (v0 11).toInt ∧ (v0 11).toInt ≤ 2147483647 := ⟨zlo _, zhi _⟩
      have hpost : (0 ≤ (v0 8).toInt ∧ (v0 8).toInt ≤ 833) ∧ (0 ≤ (v0 9).toInt ∧ (v0 9).toInt ≤ 1250) := ⟨⟨by omega, by omega⟩, ⟨by omega, by omega⟩⟩
      have hP9 : va_P (dC, dI) vwCl [(h0, .inr (6, mX6 h1 h2 h3 h4 h5 h6 h7 h8 (upd (upd (upd (upd v0 8 (v0 8)) 9 (v0 9)) 10 z97) 11 (v0 11)))), (h6, .inl (k6, 400, .inl f_90)), (h5, .inl (k5, 400, .inl f5)), (h2, .inl (k2, 833, .inl f2)), (h1, .inl (k1, 1250, .inl f_80)), (h3, .inl (k3, 833, .inl f3)), (h4, .inl (k4, 400, .inl f4))] H := hP
      have hD9 : va_D A [(h0, .inr (6, mX6 h1 h2 h3 h4 h5 h6 h7 h8 (upd (upd (upd (upd v0 8 (v0 8)) 9 (v0 9)) 10 z97) 11 (v0 11)))), (h6, .inl (k6, 400, .inl f_90)), (h5, .inl (k5, 400, .inl f5)), (h2, .inl (k2, 833, .inl f2)), (h1, .inl (k1, 1250, .inl f_80)), (h3, .inl (k3, 833, .inl f3)), (h4, .inl (k4, 400, .inl f4))] := hD
      have hB0 : zPhi f2 f5 f_90 (v0 9).toInt (v0 8).toInt := by assumption
      exact W.vret hx hb hr (fun t ht hW => ⟨⟨(fun i => ([(v0 8), (v0 9), z97, (v0 11)] : List (Int32)).getD i 0), rfl, hpost, (fun _ => 0), (fun i => ([f_90, f5, f2, f_80, f3, f4] : List (Nat → Int32)).getD i (fun _ => 0)), (fun _ => (fun _ => 0)), hf5, hf2, hB0, by rw [ht]; exact hP9, va_K.moved hW.alike hK, hD9⟩, hS.F ht⟩) hS.2.2 dX6_appendBit_101
    · skip
      have b_ := zF_ne rfl zk_0 c_
      refine lv_aload_n hx hb dX6_appendBit_36 rfl (lv_at hl 2 rfl) ?_
      refine lv_iload_n hx hb dX6_appendBit_37 rfl (lv_at hl 3 rfl) ?_
      refine lv_iload_n hx hb dX6_appendBit_38 rfl (lv_at hl 1 rfl) ?_
      have hPc := hP.sub (ws' := [(h0, .inr (6, mX6 h1 h2 h3 h4 h5 h6 h7 h8 v0)), (h1, .inl (k1, 1250, .inl f1)), (h5, .inl (k5, 400, .inl f5)), (h3, .inl (k3, 833, .inl f3)), (h2, .inl (k2, 833, .inl f2)), (h4, .inl (k4, 400, .inl f4))]) [0, 4, 2, 5, 3, 6] rfl
      have hDc := hD.sub (ws' := [(h0, .inr (6, mX6 h1 h2 h3 h4 h5 h6 h7 h8 v0)), (h1, .inl (k1, 1250, .inl f1)), (h5, .inl (k5, 400, .inl f5)), (h3, .inl (k3, 833, .inl f3)), (h2, .inl (k2, 833, .inl f2)), (h4, .inl (k4, 400, .inl f4))]) [0, 4, 2, 5, 3, 6] (by decide) rfl
      have hKc := hK.sub (tys' := [(k1, .int), (k5, .int), (k3, .int), (k2, .int), (k4, .int)]) [3, 1, 4, 2, 5] rfl
      have hFc := va_free (wc := [(h0, .inr (6, mX6 h1 h2 h3 h4 h5 h6 h7 h8 v0)), (h1, .inl (k1, 1250, .inl f1)), (h5, .inl (k5, 400, .inl f5)), (h3, .inl (k3, 833, .inl f3)), (h2, .inl (k2, 833, .inl f2)), (h4, .inl (k4, 400, .inl f4))]) hD hS hA [0, 4, 2, 5, 3, 6] rfl
      refine va_calli (va_runV (As := [.int x1, .int r14_]) (rest := []) ⟨hx, hb, hml, hown, hG⟩ (sX6_addChunk_0 l dC dI adK adV h0 h1 h5 h3 h2 h4 h6 h7 h8 k1 k5 k3 k2 k4 H.size v0 f1 f5 f3 f2 f4 x1 r14_ hv0 hf5 hf2 ⟨show (0 : Int) ≤ (x1 : Int32).toInt from by omega, show (x1 : Int32).toInt ≤ (399 : Int) from by omega⟩ ⟨show (0 : Int) ≤ (r14_ : Int32).toInt from by omega, show (r14_ : Int32).toInt ≤ (1000 : Int) from by omega⟩) (cwV 2 hG (zgV zw194 zw195 zw196 zw146 zw197) rfl rfl rfl (by decide +kernel) ⟨Nat.le_of_ble_eq_true rfl, Nat.le_of_ble_eq_true rfl⟩) ⟨zPc_blind, va_recv hKc hPc (ci := 6) (q0 := 0) rfl rfl, zPc_pre hPc hKc hDc hE hS hFc hZ⟩ rfl rfl hl.1 rfl (lv_room (Nat.le_of_ble_eq_true rfl)) dX6_appendBit_39 ⟨Nat.le_of_ble_eq_true rfl, Nat.le_of_ble_eq_true rfl⟩) hS (fun q _ h => hFc q h) hFc (fun r39_ u39_ t H1 locs ht hvm hw hB hz1 hk1 hS => ?_)
      have hw : (0 ≤ r39_.toInt ∧ r39_.toInt ≤ 1) ∧ (0 ≤ (u39_ 0).toInt ∧ (u39_ 0).toInt ≤ 833) ∧ (0 ≤ (u39_ 1).toInt ∧ (u39_ 1).toInt ≤ 1250) ∧ (r39_.toInt = 1 → zBs r14_.toInt (32 * ((u39_ 1).toInt - (v0 9).toInt))) ∧ (r39_.toInt = 1 → (u39_ 0).toInt = (v0 8).toInt + 1) ∧ (r39_.toInt = 0 → (u39_ 1).toInt = (v0 9).toInt ∧ (u39_ 0).toInt = (v0 8).toInt) ∧ (r39_.toInt = (u39_ 3).toInt) := hw
      obtain ⟨b_, b_, b_, hX39_0, hX39_1, hX39_2, b_⟩ := hw
      obtain ⟨w39_, a39_, b39_, ha39_0, ha39_2, hB39_0, hB39_1, hP1, hK1, hD1⟩ := hB
      have hB39_0 : (u39_ 3).toInt = 1 → (a39_ 0) = upd f5 ((x1 : Int32)).toNatClampNeg (v0 8) ∧ (a39_ 2) = upd f2 (v0 8).toNatClampNeg (v0 9) := hB39_0
      have hB39_1 : (u39_ 3).toInt = 0 → (a39_ 0) = f5 ∧ (a39_ 2) = f2 := hB39_1
      rw [ht] at hP1
      obtain ⟨hP, hD⟩ := va_join (wr := [(h6, .inl (k6, 400, .inl f6))]) (w1 := [(h0, .inr (6, mX6 h1 h2 h3 h4 h5 h6 h7 h8 (upd (upd (upd v0 8 (u39_ 0)) 9 (u39_ 1)) 11 (u39_ 2)))), (h1, .inl (k1, 1250, .inl f1)), (h5, .inl (k5, 400, .inl (a39_ 0))), (h3, .inl (k3, 833, .inl (a39_ 1))), (h2, .inl (k2, 833, .inl (a39_ 2))), (h4, .inl (k4, 400, .inl (a39_ 3)))]) hP hD [0, 4, 2, 5, 3, 6] [1] rfl rfl (by decide) (by decide) hk1 hFc hP1 hD1
      have hP : va_P (dC, dI) vwCl [(h0, .inr (6, mX6 h1 h2 h3 h4 h5 h6 h7 h8 (upd (upd (upd v0 8 (u39_ 0)) 9 (u39_ 1)) 11 (u39_ 2)))), (h6, .inl (k6, 400, .inl f6)), (h5, .inl (k5, 400, .inl (a39_ 0))), (h2, .inl (k2, 833, .inl (a39_ 2))), (h1, .inl (k1, 1250, .inl f1)), (h3, .inl (k3, 833, .inl (a39_ 1))), (h4, .inl (k4, 400, .inl (a39_ 3)))] H1 := hP.sub [1, 0, 3, 5, 2, 4, 6] rfl
      have hD : va_D A [(h0, .inr (6, mX6 h1 h2 h3 h4 h5 h6 h7 h8 (upd (upd (upd v0 8 (u39_ 0)) 9 (u39_ 1)) 11 (u39_ 2)))), (h6, .inl (k6, 400, .inl f6)), (h5, .inl (k5, 400, .inl (a39_ 0))), (h2, .inl (k2, 833, .inl (a39_ 2))), (h1, .inl (k1, 1250, .inl f1)), (h3, .inl (k3, 833, .inl (a39_ 1))), (h4, .inl (k4, 400, .inl (a39_ 3)))] := hD.sub [1, 0, 3, 5, 2, 4, 6] (by decide) rfl
      generalize H1 = H at hP hS ⊢
      clear hz1
      refine lv_if_ne (tgt := 46) hx hb dX6_appendBit_42 (by decide) (fun c_ => ?_) (fun c_ => ?_)
      · skip
        have b_ := zT_ne rfl zk_0 c_
        refine lv_aload_n hx hb dX6_appendBit_46 rfl (lv_at hl 2 rfl) ?_
        refine va_get (D := (dC, dI)) (ci := 6) (v := .ref h1) (C := RX6) (T := TX6) (N := 12) hx hb hG zuX6 hown hK hP 0 rfl rfl 0 (by decide) (hG _ zw174) (fun _ h9 => h9) rfl dX6_appendBit_47 ?_
        refine lv_aload_n hx hb dX6_appendBit_50 rfl (lv_at hl 2 rfl) ?_
        refine va_get (D := (dC, dI)) (ci := 6) (v := .ref h2) (C := RX6) (T := TX6) (N := 12) hx hb hG zuX6 hown hK hP 0 rfl rfl 1 (by decide) (hG _ zw173) (fun _ h9 => h9) rfl dX6_appendBit_51 ?_
        refine lv_aload_n hx hb dX6_appendBit_54 rfl (lv_at hl 2 rfl) ?_
        refine va_get (D := (dC, dI)) (ci := 6) (v := .ref h5) (C := RX6) (T := TX6) (N := 12) hx hb hG zuX6 hown hK hP 0 rfl rfl 4 (by decide) (hG _ zw190) (fun _ h9 => h9) rfl dX6_appendBit_55 ?_
        refine lv_iload_n hx hb dX6_appendBit_58 rfl (lv_at hl 3 rfl) ?_
        refine va_iald hx hb hK hP 2 1 rfl rfl (zin_lit ⟨by omega, by omega⟩) dX6_appendBit_59 ?_
        refine lv_topi (fun z59 e_z59 => ?_)
        have b_ : 0 ≤ z59.toInt ∧ z59.toInt ≤ 832 := by rw [e_z59]; exact ha39_0 _
        have hB1 := hB39_0 (by omega)
        have e59 : z59 = (v0 8) := by rw [e_z59, hB1.1]; exact pk_us
        refine va_iald hx hb hK hP 3 2 rfl rfl (zin_lit ⟨by omega, by omega⟩) dX6_appendBit_60 ?_
        refine lv_topi (fun z60 e_z60 => ?_)
        have b_ : 0 ≤ z60.toInt ∧ z60.toInt ≤ 1250 := by rw [e_z60]; exact ha39_2 _
        have e60 : z60 = (v0 9) := by rw [e_z60, e59, hB1.2]; exact pk_us
        have b_ : z60.toInt = (v0 9).toInt := by rw [e60]
        have b39 := zBs_u (by rw [← b14]; exact hX39_0 (by omega)) hch
        refine lv_iload hx hb dX6_appendBit_61 (lv_at hl 0 rfl) ?_
        refine lv_bipush (v := 32) hx hb dX6_appendBit_63 (by decide) ?_
        refine lv_idiv hx hb dX6_appendBit_65 (by decide) ?_
        refine lv_topi (fun z65 e_z65 => ?_)
        have b_ := zdiv rfl zk_32 e_z65 (by omega) (by decide)
        refine lv_iadd hx hb dX6_appendBit_66 ?_
        refine lv_topi (fun z66 e_z66 => ?_)
        have b_ := zadd rfl rfl e_z66 (by omega) (by omega)
        refine lv_dup2_11 hx hb dX6_appendBit_67 rfl rfl ?_
        refine va_iald hx hb hK hP 4 3 rfl rfl (zin_lit ⟨by omega, by omega⟩) dX6_appendBit_68 ?_
        refine lv_topi (fun z68 e_z68 => ?_)
        refine lv_iload_n hx hb dX6_appendBit_69 rfl (lv_at hl 4 rfl) ?_
        refine lv_bipush (v := 31) hx hb dX6_appendBit_70 (by decide) ?_
        refine lv_iload hx hb dX6_appendBit_72 (lv_at hl 0 rfl) ?_
        refine lv_bipush (v := 32) hx hb dX6_appendBit_74 (by decide) ?_
        refine lv_irem hx hb dX6_appendBit_76 (by decide) ?_
        refine lv_topi (fun z76 e_z76 => ?_)
        have b_ := zrem rfl zk_32 e_z76 (by omega) (by decide)
        refine lv_isub hx hb dX6_appendBit_77 ?_
        refine lv_topi (fun z77 e_z77 => ?_)
        have b_ := zsub zk_31 rfl e_z77 (by omega) (by omega)
        have b_ : -2147483648 ≤ x2.toInt ∧ x2.toInt ≤ 2147483647 := ⟨zlo _, zhi _⟩
        refine lv_ishl hx hb dX6_appendBit_78 ?_
        refine lv_topi (fun z78 e_z78 => ?_)
        have b_ : -2147483648 ≤ z68.toInt ∧ z68.toInt ≤ 2147483647 := ⟨zlo _, zhi _⟩
        have b_ : -2147483648 ≤ z78.toInt ∧ z78.toInt ≤ 2147483647 := ⟨zlo _, zhi _⟩
        refine lv_ior hx hb dX6_appendBit_79 ?_
        refine lv_topi (fun z79 e_z79 => ?_)
        refine va_iast hx hb hK hP hD hS 4 3 rfl rfl (zin_lit ⟨by omega, by omega⟩) dX6_appendBit_80 (fun H locs hP hD hS => ?_)
        obtain ⟨f_80, e_f_80⟩ : ∃ z : Nat → Int32, z = upd f1 (z66 : Int32).toNatClampNeg z79 := ⟨_, rfl⟩
        have hP : va_P (dC, dI) vwCl [(h0, .inr (6, mX6 h1 h2 h3 h4 h5 h6 h7 h8 (upd (upd (upd v0 8 (u39_ 0)) 9 (u39_ 1)) 11 (u39_ 2)))), (h6, .inl (k6, 400, .inl f6)), (h5, .inl (k5, 400, .inl (a39_ 0))), (h2, .inl (k2, 833, .inl (a39_ 2))), (h1, .inl (k1, 1250, .inl f_80)), (h3, .inl (k3, 833, .inl (a39_ 1))), (h4, .inl (k4, 400, .inl (a39_ 3)))] H := by rw [e_f_80]; exact hP
        have hD : va_D A [(h0, .inr (6, mX6 h1 h2 h3 h4 h5 h6 h7 h8 (upd (upd (upd v0 8 (u39_ 0)) 9 (u39_ 1)) 11 (u39_ 2)))), (h6, .inl (k6, 400, .inl f6)), (h5, .inl (k5, 400, .inl (a39_ 0))), (h2, .inl (k2, 833, .inl (a39_ 2))), (h1, .inl (k1, 1250, .inl f_80)), (h3, .inl (k3, 833, .inl (a39_ 1))), (h4, .inl (k4, 400, .inl (a39_ 3)))] := by rw [e_f_80]; exact hD
        refine lv_aload_n hx hb dX6_appendBit_81 rfl (lv_at hl 2 rfl) ?_
        refine va_get (D := (dC, dI)) (ci := 6) (v := .ref h6) (C := RX6) (T := TX6) (N := 12) hx hb hG zuX6 hown hK hP 0 rfl rfl 5 (by decide) (hG _ zw164) (fun _ h9 => h9) rfl dX6_appendBit_82 ?_
        refine lv_iload_n hx hb dX6_appendBit_85 rfl (lv_at hl 3 rfl) ?_
        refine lv_dup2_11 hx hb dX6_appendBit_86 rfl rfl ?_
        refine va_iald hx hb hK hP 1 0 rfl rfl (zin_lit ⟨by omega, by omega⟩) dX6_appendBit_87 ?_
        refine lv_topi (fun z87 e_z87 => ?_)
        have b_ : z87.toInt = z13.toInt := by rw [e_z87, e_z13]
        refine lv_iconst (v := 1) hx hb dX6_appendBit_88 (by decide) ?_
        refine lv_iadd hx hb dX6_appendBit_89 ?_
        refine lv_topi (fun z89 e_z89 => ?_)
        have b_ := zadd rfl zk_1 e_z89 (by omega) (by omega)
        refine va_iast hx hb hK hP hD hS 1 0 rfl rfl (zin_lit ⟨by omega, by omega⟩) dX6_appendBit_90 (fun H locs hP hD hS => ?_)
        obtain ⟨f_90, e_f_90⟩ : ∃ z : Nat → Int32, z = upd f6 (x1 : Int32).toNatClampNeg z89 := ⟨_, rfl⟩
        have hP : va_P (dC, dI) vwCl [(h0, .inr (6, mX6 h1 h2 h3 h4 h5 h6 h7 h8 (upd (upd (upd v0 8 (u39_ 0)) 9 (u39_ 1)) 11 (u39_ 2)))), (h6, .inl (k6, 400, .inl f_90)), (h5, .inl (k5, 400, .inl (a39_ 0))), (h2, .inl (k2, 833, .inl (a39_ 2))), (h1, .inl (k1, 1250, .inl f_80)), (h3, .inl (k3, 833, .inl (a39_ 1))), (h4, .inl (k4, 400, .inl (a39_ 3)))] H := by rw [e_f_90]; exact hP
        have hD : va_D A [(h0, .inr (6, mX6 h1 h2 h3 h4 h5 h6 h7 h8 (upd (upd (upd v0 8 (u39_ 0)) 9 (u39_ 1)) 11 (u39_ 2)))), (h6, .inl (k6, 400, .inl f_90)), (h5, .inl (k5, 400, .inl (a39_ 0))), (h2, .inl (k2, 833, .inl (a39_ 2))), (h1, .inl (k1, 1250, .inl f_80)), (h3, .inl (k3, 833, .inl (a39_ 1))), (h4, .inl (k4, 400, .inl (a39_ 3)))] := by rw [e_f_90]; exact hD
        refine lv_aload_n hx hb dX6_appendBit_91 rfl (lv_at hl 2 rfl) ?_
        refine lv_dup hx hb dX6_appendBit_92 rfl ?_
        refine va_get (D := (dC, dI)) (ci := 6) (v := .int (v0 10)) (C := RX6) (T := TX6) (N := 12) hx hb hG zuX6 hown hK hP 0 rfl rfl 10 (by decide) (hG _ zw163) (fun _ h9 => h9) rfl dX6_appendBit_93 ?_
        refine lv_iconst (v := 1) hx hb dX6_appendBit_96 (by decide) ?_
        have b_ : -2147483648 ≤ (v0 10).toInt ∧ (v0 10).toInt ≤ 2147483647 := ⟨zlo _, zhi _⟩
        refine lv_iadd hx hb dX6_appendBit_97 ?_
        refine lv_topi (fun z97 e_z97 => ?_)
        refine va_put (D := (dC, dI)) (ci := 6) (v := .int z97) (ty := .int) (C := RX6) (T := TX6) (N := 12) hx hb hG zuX6 tyX6 tyX6_ok nmX6 hown hK hP hD hS 0 rfl rfl 10 (by decide) (hG _ zw163) (fun _ h9 => h9) rfl (by decide +kernel) rfl rfl (Nat.le_of_ble_eq_true rfl) dX6_appendBit_98 (fun H locs hP hD hS => ?_)
        have hP : va_P (dC, dI) vwCl [(h0, .inr (6, mX6 h1 h2 h3 h4 h5 h6 h7 h8 (upd (upd (upd (upd v0 8 (u39_ 0)) 9 (u39_ 1)) 10 z97) 11 (u39_ 2)))), (h6, .inl (k6, 400, .inl f_90)), (h5, .inl (k5, 400, .inl (a39_ 0))), (h2, .inl (k2, 833, .inl (a39_ 2))), (h1, .inl (k1, 1250, .inl f_80)), (h3, .inl (k3, 833, .inl (a39_ 1))), (h4, .inl (k4, 400, .inl (a39_ 3)))] H := hP
        have hD : va_D A [(h0, .inr (6, mX6 h1 h2 h3 h4 h5 h6 h7 h8 (upd (upd (upd (upd v0 8 (u39_ 0)) 9 (u39_ 1)) 10 z97) 11 (u39_ 2)))), (h6, .inl (k6, 400, .inl f_90)), (h5, .inl (k5, 400, .inl (a39_ 0))), (h2, .inl (k2, 833, .inl (a39_ 2))), (h1, .inl (k1, 1250, .inl f_80)), (h3, .inl (k3, 833, .inl (a39_ 1))), (h4, .inl (k4, 400, .inl (a39_ 3)))] := hD
        have hphi : zPhi (a39_ 2) (a39_ 0) f_90 (u39_ 1).toInt (u39_ 0).toInt := by rw [hB1.1, hB1.2, e_f_90]; exact zPhi_B hp0_ (by rw [← e_z13]; exact hch) (by rw [← e_z13]; omega) (by omega) rfl (by omega) rfl (by omega) (by omega) (fun j => (hf5 j).1) (show z89.toInt = (f6 (x1 : Int32).toNatClampNeg).toInt + 1 from by rw [← e_z13]; omega)
        refine W.widen (k := 0) (n := 0) (by decide) (by decide) ?_
        have b_ : -2147483648 ≤ z97.toInt ∧ z97.toInt ≤ 2147483647 := ⟨zlo _, zhi _⟩
        have b_ : -2147483648 ≤ (u39_ 2).toInt ∧ (u39_ 2).toInt ≤ 2147483647 := ⟨zlo _, zhi _⟩
        have hpost : (0 ≤ (u39_ 0).toInt ∧ (u39_ 0).toInt ≤ 833) ∧ (0 ≤ (u39_ 1).toInt ∧ (u39_ 1).toInt ≤ 1250) := ⟨⟨by omega, by omega⟩, ⟨by omega, by omega⟩⟩
        have hP9 : va_P (dC, dI) vwCl [(h0, .inr (6, mX6 h1 h2 h3 h4 h5 h6 h7 h8 (upd (upd (upd (upd v0 8 (u39_ 0)) 9 (u39_ 1)) 10 z97) 11 (u39_ 2)))), (h6, .inl (k6, 400, .inl f_90)), (h5, .inl (k5, 400, .inl (a39_ 0))), (h2, .inl (k2, 833, .inl (a39_ 2))), (h1, .inl (k1, 1250, .inl f_80)), (h3, .inl (k3, 833, .inl (a39_ 1))), (h4, .inl (k4, 400, .inl (a39_ 3)))] H := hP
        have hD9 : va_D A [(h0, .inr (6, mX6 h1 h2 h3 h4 h5 h6 h7 h8 (upd (upd (upd (upd v0 8 (u39_ 0)) 9 (u39_ 1)) 10 z97) 11 (u39_ 2)))), (h6, .inl (k6, 400, .inl f_90)), (h5, .inl (k5, 400, .inl (a39_ 0))), (h2, .inl (k2, 833, .inl (a39_ 2))), (h1, .inl (k1, 1250, .inl f_80)), (h3, .inl (k3, 833, .inl (a39_ 1))), (h4, .inl (k4, 400, .inl (a39_ 3)))] := hD
        have hB0 : zPhi (a39_ 2) (a39_ 0) f_90 (u39_ 1).toInt (u39_ 0).toInt := by assumption
        exact W.vret hx hb hr (fun t ht hW => ⟨⟨(fun i => ([(u39_ 0), (u39_ 1), z97, (u39_ 2)] : List (Int32)).getD i 0), rfl, hpost, (fun _ => 0), (fun i => ([f_90, (a39_ 0), (a39_ 2), f_80, (a39_ 1), (a39_ 3)] : List (Nat → Int32)).getD i (fun _ => 0)), (fun _ => (fun _ => 0)), ha39_0, ha39_2, hB0, by rw [ht]; exact hP9, va_K.moved hW.alike hK, hD9⟩, hS.F ht⟩) hS.2.2 dX6_appendBit_101
      · skip
        have b_ := zF_ne rfl zk_0 c_
        have hphi : zPhi (a39_ 2) (a39_ 0) f6 (u39_ 1).toInt (u39_ 0).toInt := zPhi_eq hp0_ (hB39_1 (by omega)).2 (hB39_1 (by omega)).1 (by omega) (by omega)
        refine W.widen (k := 0) (n := 0) (by decide) (by decide) ?_
        have b_ : -2147483648 ≤ (v0 10).toInt ∧ (v0 10).toInt ≤ 2147483647 := ⟨zlo _, zhi _⟩
        have b_ : -2147483648 ≤ (u39_ 2).toInt ∧ (u39_ 2).toInt ≤ 2147483647 := ⟨zlo _, zhi _⟩
        have hpost : (0 ≤ (u39_ 0).toInt ∧ (u39_ 0).toInt ≤ 833) ∧ (0 ≤ (u39_ 1).toInt ∧ (u39_ 1).toInt ≤ 1250) := ⟨⟨by omega, by omega⟩, ⟨by omega, by omega⟩⟩
        have hP9 : va_P (dC, dI) vwCl [(h0, .inr (6, mX6 h1 h2 h3 h4 h5 h6 h7 h8 (upd (upd (upd (upd v0 8 (u39_ 0)) 9 (u39_ 1)) 10 (v0 10)) 11 (u39_ 2)))), (h6, .inl (k6, 400, .inl f6)), (h5, .inl (k5, 400, .inl (a39_ 0))), (h2, .inl (k2, 833, .inl (a39_ 2))), (h1, .inl (k1, 1250, .inl f1)), (h3, .inl (k3, 833, .inl (a39_ 1))), (h4, .inl (k4, 400, .inl (a39_ 3)))] H := hP
        have hD9 : va_D A [(h0, .inr (6, mX6 h1 h2 h3 h4 h5 h6 h7 h8 (upd (upd (upd (upd v0 8 (u39_ 0)) 9 (u39_ 1)) 10 (v0 10)) 11 (u39_ 2)))), (h6, .inl (k6, 400, .inl f6)), (h5, .inl (k5, 400, .inl (a39_ 0))), (h2, .inl (k2, 833, .inl (a39_ 2))), (h1, .inl (k1, 1250, .inl f1)), (h3, .inl (k3, 833, .inl (a39_ 1))), (h4, .inl (k4, 400, .inl (a39_ 3)))] := hD
        have hB0 : zPhi (a39_ 2) (a39_ 0) f6 (u39_ 1).toInt (u39_ 0).toInt := by assumption
        exact W.vret hx hb hr (fun t ht hW => ⟨⟨(fun i => ([(u39_ 0), (u39_ 1), (v0 10), (u39_ 2)] : List (Int32)).getD i 0), rfl, hpost, (fun _ => 0), (fun i => ([f6, (a39_ 0), (a39_ 2), f1, (a39_ 1), (a39_ 3)] : List (Nat → Int32)).getD i (fun _ => 0)), (fun _ => (fun _ => 0)), ha39_0, ha39_2, hB0, by rw [ht]; exact hP9, va_K.moved hW.alike hK, hD9⟩, hS.F ht⟩) hS.2.2 dX6_appendBit_45
  · skip
    have b_ := zF_ne rfl zk_0 c_
    refine W.widen (k := 0) (n := 0) (by decide) (by decide) ?_
    have b_ : -2147483648 ≤ (v0 10).toInt ∧ (v0 10).toInt ≤ 2147483647 := ⟨zlo _, zhi _⟩
    have b_ : -2147483648 ≤ (v0 11).toInt ∧ (v0 11).toInt ≤ 2147483647 := ⟨zlo _, zhi _⟩
    have hpost : (0 ≤ (v0 8).toInt ∧ (v0 8).toInt ≤ 833) ∧ (0 ≤ (v0 9).toInt ∧ (v0 9).toInt ≤ 1250) := ⟨⟨by omega, by omega⟩, ⟨by omega, by omega⟩⟩
    have hP9 : va_P (dC, dI) vwCl [(h0, .inr (6, mX6 h1 h2 h3 h4 h5 h6 h7 h8 (upd (upd (upd (upd v0 8 (v0 8)) 9 (v0 9)) 10 (v0 10)) 11 (v0 11)))), (h6, .inl (k6, 400, .inl f6)), (h5, .inl (k5, 400, .inl f5)), (h2, .inl (k2, 833, .inl f2)), (h1, .inl (k1, 1250, .inl f1)), (h3, .inl (k3, 833, .inl f3)), (h4, .inl (k4, 400, .inl f4))] H := hP
    have hD9 : va_D A [(h0, .inr (6, mX6 h1 h2 h3 h4 h5 h6 h7 h8 (upd (upd (upd (upd v0 8 (v0 8)) 9 (v0 9)) 10 (v0 10)) 11 (v0 11)))), (h6, .inl (k6, 400, .inl f6)), (h5, .inl (k5, 400, .inl f5)), (h2, .inl (k2, 833, .inl f2)), (h1, .inl (k1, 1250, .inl f1)), (h3, .inl (k3, 833, .inl f3)), (h4, .inl (k4, 400, .inl f4))] := hD
    have hB0 : zPhi f2 f5 f6 (v0 9).toInt (v0 8).toInt := by assumption
    exact W.vret hx hb hr (fun t ht hW => ⟨⟨(fun i => ([(v0 8), (v0 9), (v0 10), (v0 11)] : List (Int32)).getD i 0), rfl, hpost, (fun _ => 0), (fun i => ([f6, f5, f2, f1, f3, f4] : List (Nat → Int32)).getD i (fun _ => 0)), (fun _ => (fun _ => 0)), hf5, hf2, hB0, by rw [ht]; exact hP9, va_K.moved hW.alike hK, hD9⟩, hS.F ht⟩) hS.2.2 dX6_appendBit_7
