set_option maxHeartbeats 8000000 in
set_option maxRecDepth 100000 in
theorem sX10_size_1 (l : Launch) (dC : Nat → ClassId) (dI : Nat → Nat → Nat) (adK adV : Nat → Nat) (h0 : Nat) (h1 : Nat) (h2 : Nat) (h3 : Nat) (h4 : Nat) (h5 : Nat) (h6 : Nat) (sz : Nat) (v0 : Nat → Int32) (hv0 : zR rg_Words10 v0) : Met l yX10_size (zw yX10_size cX10_size 1 (some .int)) { frames := 0, cells := 0, slots := 0, locals := 0 } (zPc dC dI adK adV [.ref h0] sz [(h0, .inr (10, mX10 h1 h2 h3 h4 h5 h6 v0))] []) (va_Qi (fun (r : Int32) (u : Nat → Int32) => (0 ≤ r.toInt ∧ r.toInt ≤ 10)) (fun (u : Nat → Int32) (t : State) => ∃ (ww : Nat → Int64) (aa : Nat → Nat → Int32) (bb : Nat → Nat → Int64), va_P (dC, dI) vwCl [(h0, .inr (10, mX10 h1 h2 h3 h4 h5 h6 v0))] t.heap ∧ va_K (dC, dI) vwCl [] t ∧ va_D (va_A [(h0, .inr (10, mX10 h1 h2 h3 h4 h5 h6 v0))] sz) [(h0, .inr (10, mX10 h1 h2 h3 h4 h5 h6 v0))]) (va_A [(h0, .inr (10, mX10 h1 h2 h3 h4 h5 h6 v0))] sz)) 0 0 (va_A [(h0, .inr (10, mX10 h1 h2 h3 h4 h5 h6 v0))] sz) := by
  refine Met.ofW (cc := cX10_size) (maxL := 1) (ret := (some .int)) (by decide) rfl ?_
  intro p e s m args below meth c s₁ B hml hv
  obtain ⟨rfl, hsz, hP, hK, hD0, hE, hZ⟩ := hv
  have hx := B.exec
  have hb := B.bytes
  have hr := B.returns
  have hG : ∀ w ∈ zG, w.before _ s = true := fun w h => atoms_spec (ws := (zw yX10_size cX10_size 1 (some .int))) B.pre w (List.mem_cons_of_mem _ h)
  have hown : s.vm.findClass RX10 = some m.cls := findClass_of_methodNamed B.named
  have hlocks := B.notSynchronized

  subst hsz
  have hD := hD0.self (sz := s.heap.size)
  generalize hAe : va_A [(h0, .inr (10, mX10 h1 h2 h3 h4 h5 h6 v0))] s.heap.size = A at hD hZ ⊢
  have hA : ∀ q : Nat, s.heap.size ≤ q → A q := fun q h => by rw [← hAe]; exact Or.inr h
  have hS : va_S A s.heap s.heap [] := va_S.rf
  have hl := lv_entry ([.ref h0]) (n := 1) (Nat.le_of_ble_eq_true rfl)
  rw [lg_entry_eq]
  generalize (lg_sl ([.ref h0]) ++ List.replicate (1 - (lg_sl ([.ref h0])).length) Slot.unset).toArray = ls at hl ⊢
  have hl : lv_has ls 1 [(0, .ref h0)] := hl
  refine lv_aload_n hx hb dX10_size_0 rfl (lv_at hl 0 rfl) ?_
  have b_ : 0 ≤ (v0 7).toInt ∧ (v0 7).toInt ≤ 10 := hv0 7
  refine va_get (D := (dC, dI)) (ci := 10) (v := .int (v0 7)) (C := RX10) (T := TX10) (N := 8) hx hb hG zuX10 hown hK hP 0 rfl rfl 7 (by decide) (hG _ zw80) (fun _ h9 => h9) rfl dX10_size_1 ?_
  refine W.widen (k := 0) (n := 0) (by decide) (by decide) ?_
  have hpost : (0 ≤ (v0 7).toInt ∧ (v0 7).toInt ≤ 10) := ⟨by omega, by omega⟩
  have hP9 : va_P (dC, dI) vwCl [(h0, .inr (10, mX10 h1 h2 h3 h4 h5 h6 v0))] s.heap := hP
  have hD9 : va_D A [(h0, .inr (10, mX10 h1 h2 h3 h4 h5 h6 v0))] := hD
  exact W.iret (v := (v0 7)) hx hb hr (fun t ht hW => ⟨⟨(v0 7), (fun _ => 0), rfl, hpost, (fun _ => 0), (fun _ => (fun _ => 0)), (fun _ => (fun _ => 0)), by rw [ht]; exact hP9, va_K.moved hW.alike hK, hD9⟩, hS.F ht⟩) hS.2.2 dX10_size_4
set_option maxHeartbeats 8000000 in
set_option maxRecDepth 100000 in
theorem sX10_rankAhead_1 (l : Launch) (dC : Nat → ClassId) (dI : Nat → Nat → Nat) (adK adV : Nat → Nat) (h0 : Nat) (h1 : Nat) (h2 : Nat) (h3 : Nat) (h4 : Nat) (h5 : Nat) (h6 : Nat) (k1 : ClassId) (sz : Nat) (v0 : Nat → Int32) (f1 : Nat → Int64) (y1 : Int64) (hv0 : zR rg_Words10 v0) : Met l yX10_rankAhead (zw yX10_rankAhead cX10_rankAhead 6 (some .int)) { frames := 0, cells := 0, slots := 0, locals := 0 } (zPc dC dI adK adV [.ref h0, .long y1] sz [(h0, .inr (10, mX10 h1 h2 h3 h4 h5 h6 v0)), (h1, .inl (k1, 10, .inr (.inl f1)))] [(k1, .long)]) (va_Qi (fun (r : Int32) (u : Nat → Int32) => (0 ≤ r.toInt ∧ r.toInt ≤ 10) ∧ (r.toInt ≤ (v0 7).toInt)) (fun (u : Nat → Int32) (t : State) => ∃ (ww : Nat → Int64) (aa : Nat → Nat → Int32) (bb : Nat → Nat → Int64), va_P (dC, dI) vwCl [(h0, .inr (10, mX10 h1 h2 h3 h4 h5 h6 v0)), (h1, .inl (k1, 10, .inr (.inl f1)))] t.heap ∧ va_K (dC, dI) vwCl [(k1, .long)] t ∧ va_D (va_A [(h0, .inr (10, mX10 h1 h2 h3 h4 h5 h6 v0)), (h1, .inl (k1, 10, .inr (.inl f1)))] sz) [(h0, .inr (10, mX10 h1 h2 h3 h4 h5 h6 v0)), (h1, .inl (k1, 10, .inr (.inl f1)))]) (va_A [(h0, .inr (10, mX10 h1 h2 h3 h4 h5 h6 v0)), (h1, .inl (k1, 10, .inr (.inl f1)))] sz)) 0 0 (va_A [(h0, .inr (10, mX10 h1 h2 h3 h4 h5 h6 v0)), (h1, .inl (k1, 10, .inr (.inl f1)))] sz) := by
  refine Met.ofW (cc := cX10_rankAhead) (maxL := 6) (ret := (some .int)) (by decide) rfl ?_
  intro p e s m args below meth c s₁ B hml hv
  obtain ⟨rfl, hsz, hP, hK, hD0, hE, hZ⟩ := hv
  have hx := B.exec
  have hb := B.bytes
  have hr := B.returns
  have hG : ∀ w ∈ zG, w.before _ s = true := fun w h => atoms_spec (ws := (zw yX10_rankAhead cX10_rankAhead 6 (some .int))) B.pre w (List.mem_cons_of_mem _ h)
  have hown : s.vm.findClass RX10 = some m.cls := findClass_of_methodNamed B.named
  have hlocks := B.notSynchronized

  subst hsz
  have hD := hD0.self (sz := s.heap.size)
  generalize hAe : va_A [(h0, .inr (10, mX10 h1 h2 h3 h4 h5 h6 v0)), (h1, .inl (k1, 10, .inr (.inl f1)))] s.heap.size = A at hD hZ ⊢
  have hA : ∀ q : Nat, s.heap.size ≤ q → A q := fun q h => by rw [← hAe]; exact Or.inr h
  have hS : va_S A s.heap s.heap [] := va_S.rf
  have hl := lv_entry ([.ref h0, .long y1]) (n := 6) (Nat.le_of_ble_eq_true rfl)
  rw [lg_entry_eq]
  generalize (lg_sl ([.ref h0, .long y1]) ++ List.replicate (6 - (lg_sl ([.ref h0, .long y1])).length) Slot.unset).toArray = ls at hl ⊢
  have hl : lv_has ls 6 [(0, .ref h0), (1, .long y1)] := hl
  have b_ := zk_0
  have b_ : 0 ≤ (v0 7).toInt ∧ (v0 7).toInt ≤ 10 := hv0 7
  refine lv_iconst (v := 0) hx hb dX10_rankAhead_0 (by decide) ?_
  refine lv_istore_n (lv' := [(3, .int 0), (0, .ref h0), (1, .long y1)]) hx hb dX10_rankAhead_1 rfl hl (by decide) rfl (fun ls hl => ?_)
  refine lv_aload_n hx hb dX10_rankAhead_2 rfl (lv_at hl 1 rfl) ?_
  refine va_get (D := (dC, dI)) (ci := 10) (v := .int (v0 7)) (C := RX10) (T := TX10) (N := 8) hx hb hG zuX10 hown hK hP 0 rfl rfl 7 (by decide) (hG _ zw80) (fun _ h9 => h9) rfl dX10_rankAhead_3 ?_
  refine lv_istore (lv' := [(4, .int (v0 7)), (3, .int 0), (0, .ref h0), (1, .long y1)]) hx hb dX10_rankAhead_6 hl (by decide) rfl (fun ls hl => ?_)
  refine zcutL (fun u8_ => ((u8_ 1).toInt - (u8_ 0).toInt).toNat) (fun H locs ls u8_ w8_ a8_ b8_ => va_P (dC, dI) vwCl [(h0, .inr (10, mX10 h1 h2 h3 h4 h5 h6 v0)), (h1, .inl (k1, 10, .inr (.inl f1)))] H ∧ va_D A [(h0, .inr (10, mX10 h1 h2 h3 h4 h5 h6 v0)), (h1, .inl (k1, 10, .inr (.inl f1)))] ∧ va_S A s.heap H locs ∧ lv_has ls 6 [(0, .ref h0), (1, .long y1), (3, .int (u8_ 0)), (4, .int (u8_ 1))] ∧ (0 ≤ (u8_ 0).toInt ∧ (u8_ 0).toInt ≤ 10) ∧ (0 ≤ (u8_ 1).toInt ∧ (u8_ 1).toInt ≤ 10) ∧ ((u8_ 0).toInt ≤ (u8_ 1).toInt) ∧ ((u8_ 1).toInt ≤ (v0 7).toInt)) (fun ls u8_ w8_ => F0 m 8 ls []) 0 0 ?_ (fun hJ8 => ?_)
  · skip
    intro H locs ls u8_ w8_ a8_ b8_ hc hJ8
    obtain ⟨hP, hD, hS, hl, b_, b_, b_, b_⟩ := hc
    refine lv_iload_n hx hb dX10_rankAhead_8 rfl (lv_at hl 2 rfl) ?_
    refine lv_iload hx hb dX10_rankAhead_9 (lv_at hl 3 rfl) ?_
    refine lv_icmp_ge (tgt := 49) hx hb dX10_rankAhead_11 (by decide) (fun c_ => ?_) (fun c_ => ?_)
    · skip
      have b_ := zT_ge rfl rfl c_
      refine lv_iload_n hx hb dX10_rankAhead_49 rfl (lv_at hl 2 rfl) ?_
      refine W.widen (k := 0) (n := 0) (by decide) (by decide) ?_
      have hpost : (0 ≤ (u8_ 0).toInt ∧ (u8_ 0).toInt ≤ 10) ∧ ((u8_ 0).toInt ≤ (v0 7).toInt) := ⟨⟨by omega, by omega⟩, by omega⟩
      have hP9 : va_P (dC, dI) vwCl [(h0, .inr (10, mX10 h1 h2 h3 h4 h5 h6 v0)), (h1, .inl (k1, 10, .inr (.inl f1)))] H := hP
      have hD9 : va_D A [(h0, .inr (10, mX10 h1 h2 h3 h4 h5 h6 v0)), (h1, .inl (k1, 10, .inr (.inl f1)))] := hD
      exact W.iret (v := (u8_ 0)) hx hb hr (fun t ht hW => ⟨⟨(u8_ 0), (fun _ => 0), rfl, hpost, (fun _ => 0), (fun _ => (fun _ => 0)), (fun _ => (fun _ => 0)), by rw [ht]; exact hP9, va_K.moved hW.alike hK, hD9⟩, hS.F ht⟩) hS.2.2 dX10_rankAhead_50
    · skip
      have b_ := zF_ge rfl rfl c_
      refine lv_iload_n hx hb dX10_rankAhead_14 rfl (lv_at hl 2 rfl) ?_
      refine lv_iload hx hb dX10_rankAhead_15 (lv_at hl 3 rfl) ?_
      refine lv_iadd hx hb dX10_rankAhead_17 ?_
      refine lv_topi (fun z17 e_z17 => ?_)
      have b_ := zadd rfl rfl e_z17 (by omega) (by omega)
      refine lv_iconst (v := 2) hx hb dX10_rankAhead_18 (by decide) ?_
      refine lv_idiv hx hb dX10_rankAhead_19 (by decide) ?_
      refine lv_topi (fun z19 e_z19 => ?_)
      have b_ := zdiv rfl zk_2 e_z19 (by omega) (by decide)
      refine lv_istore (lv' := [(5, .int z19), (0, .ref h0), (1, .long y1), (3, .int (u8_ 0)), (4, .int (u8_ 1))]) hx hb dX10_rankAhead_20 hl (by decide) rfl (fun ls hl => ?_)
      refine lv_aload_n hx hb dX10_rankAhead_22 rfl (lv_at hl 1 rfl) ?_
      refine va_get (D := (dC, dI)) (ci := 10) (v := .ref h1) (C := RX10) (T := TX10) (N := 8) hx hb hG zuX10 hown hK hP 0 rfl rfl 1 (by decide) (hG _ zw81) (fun _ h9 => h9) rfl dX10_rankAhead_23 ?_
      refine lv_iload hx hb dX10_rankAhead_26 (lv_at hl 0 rfl) ?_
      refine va_lald hx hb hK hP 1 0 rfl rfl (zin_lit ⟨by omega, by omega⟩) dX10_rankAhead_28 ?_
      refine lv_topl (fun y_28 e_y_28 => ?_)
      refine lv_lload_n hx hb dX10_rankAhead_29 rfl (lv_at hl 2 rfl) ?_
      refine W.lcmp hx hb dX10_rankAhead_30 ?_
      refine lv_topi (fun z30 e_z30 => ?_)
      have b_ : -2147483648 ≤ z30.toInt ∧ z30.toInt ≤ 2147483647 := ⟨zlo _, zhi _⟩
      refine lv_if_ge (tgt := 42) hx hb dX10_rankAhead_31 (by decide) (fun c_ => ?_) (fun c_ => ?_)
      · skip
        have b_ := zT_ge rfl zk_0 c_
        refine lv_iload hx hb dX10_rankAhead_42 (lv_at hl 0 rfl) ?_
        refine lv_istore (lv' := [(4, .int z19), (5, .int z19), (0, .ref h0), (1, .long y1), (3, .int (u8_ 0))]) hx hb dX10_rankAhead_44 hl (by decide) rfl (fun ls hl => ?_)
        refine lv_goto (tgt := 8) hx hb dX10_rankAhead_46 (by decide) ?_
        have hc : va_P (dC, dI) vwCl [(h0, .inr (10, mX10 h1 h2 h3 h4 h5 h6 v0)), (h1, .inl (k1, 10, .inr (.inl f1)))] H ∧ va_D A [(h0, .inr (10, mX10 h1 h2 h3 h4 h5 h6 v0)), (h1, .inl (k1, 10, .inr (.inl f1)))] ∧ va_S A s.heap H locs ∧ lv_has ls 6 [(0, .ref h0), (1, .long y1), (3, .int (u8_ 0)), (4, .int z19)] ∧ (0 ≤ (u8_ 0).toInt ∧ (u8_ 0).toInt ≤ 10) ∧ (0 ≤ z19.toInt ∧ z19.toInt ≤ 10) ∧ ((u8_ 0).toInt ≤ z19.toInt) ∧ (z19.toInt ≤ (v0 7).toInt) := ⟨hP, hD, hS, lv_sub hl [2, 3, 4, 0] rfl, ⟨by omega, by omega⟩, ⟨by omega, by omega⟩, by omega, by omega⟩
        exact hJ8 H locs ls (fun i => ([(u8_ 0), z19] : List (Int32)).getD i 0) (fun _ => 0) (fun _ => (fun _ => 0)) (fun _ => (fun _ => 0)) hc (show (z19.toInt - (u8_ 0).toInt).toNat < ((u8_ 1).toInt - (u8_ 0).toInt).toNat from by omega)
      · skip
        have b_ := zF_ge rfl zk_0 c_
        refine lv_iload hx hb dX10_rankAhead_34 (lv_at hl 0 rfl) ?_
        refine lv_iconst (v := 1) hx hb dX10_rankAhead_36 (by decide) ?_
        refine lv_iadd hx hb dX10_rankAhead_37 ?_
        refine lv_topi (fun z37 e_z37 => ?_)
        have b_ := zadd rfl zk_1 e_z37 (by omega) (by omega)
        refine lv_istore_n (lv' := [(3, .int z37), (5, .int z19), (0, .ref h0), (1, .long y1), (4, .int (u8_ 1))]) hx hb dX10_rankAhead_38 rfl hl (by decide) rfl (fun ls hl => ?_)
        refine lv_goto (tgt := 46) hx hb dX10_rankAhead_39 (by decide) ?_
        refine lv_goto (tgt := 8) hx hb dX10_rankAhead_46 (by decide) ?_
        have hc : va_P (dC, dI) vwCl [(h0, .inr (10, mX10 h1 h2 h3 h4 h5 h6 v0)), (h1, .inl (k1, 10, .inr (.inl f1)))] H ∧ va_D A [(h0, .inr (10, mX10 h1 h2 h3 h4 h5 h6 v0)), (h1, .inl (k1, 10, .inr (.inl f1)))] ∧ va_S A s.heap H locs ∧ lv_has ls 6 [(0, .ref h0), (1, .long y1), (3, .int z37), (4, .int (u8_ 1))] ∧ (0 ≤ z37.toInt ∧ z37.toInt ≤ 10) ∧ (0 ≤ (u8_ 1).toInt ∧ (u8_ 1).toInt ≤ 10) ∧ (z37.toInt ≤ (u8_ 1).toInt) ∧ ((u8_ 1).toInt ≤ (v0 7).toInt) := ⟨hP, hD, hS, lv_sub hl [2, 3, 0, 4] rfl, ⟨by omega, by omega⟩, ⟨by omega, by omega⟩, by omega, by omega⟩
        exact hJ8 H locs ls (fun i => ([z37, (u8_ 1)] : List (Int32)).getD i 0) (fun _ => 0) (fun _ => (fun _ => 0)) (fun _ => (fun _ => 0)) hc (show ((u8_ 1).toInt - z37.toInt).toNat < ((u8_ 1).toInt - (u8_ 0).toInt).toNat from by omega)
  · skip
    have hc : va_P (dC, dI) vwCl [(h0, .inr (10, mX10 h1 h2 h3 h4 h5 h6 v0)), (h1, .inl (k1, 10, .inr (.inl f1)))] s.heap ∧ va_D A [(h0, .inr (10, mX10 h1 h2 h3 h4 h5 h6 v0)), (h1, .inl (k1, 10, .inr (.inl f1)))] ∧ va_S A s.heap s.heap [] ∧ lv_has ls 6 [(0, .ref h0), (1, .long y1), (3, .int 0), (4, .int (v0 7))] ∧ (0 ≤ (0 : Int32).toInt ∧ (0 : Int32).toInt ≤ 10) ∧ (0 ≤ (v0 7).toInt ∧ (v0 7).toInt ≤ 10) ∧ ((0 : Int32).toInt ≤ (v0 7).toInt) ∧ ((v0 7).toInt ≤ (v0 7).toInt) := ⟨hP, hD, hS, lv_sub hl [2, 3, 1, 0] rfl, ⟨by omega, by omega⟩, ⟨by omega, by omega⟩, by omega, by omega⟩
    exact hJ8 s.heap [] ls (fun i => ([0, (v0 7)] : List (Int32)).getD i 0) (fun _ => 0) (fun _ => (fun _ => 0)) (fun _ => (fun _ => 0)) hc
set_option maxHeartbeats 8000000 in
set_option maxRecDepth 100000 in
theorem sX10_rankOf_1 (l : Launch) (dC : Nat → ClassId) (dI : Nat → Nat → Nat) (adK adV : Nat → Nat) (h0 : Nat) (h1 : Nat) (h2 : Nat) (h3 : Nat) (h4 : Nat) (h5 : Nat) (h6 : Nat) (k1 : ClassId) (sz : Nat) (v0 : Nat → Int32) (f1 : Nat → Int64) (y1 : Int64) (hv0 : zR rg_Words10 v0) : Met l yX10_rankOf (zw yX10_rankOf cX10_rankOf 4 (some .int)) { frames := 1, cells := 0, slots := 0, locals := 25 } (zPc dC dI adK adV [.ref h0, .long y1] sz [(h0, .inr (10, mX10 h1 h2 h3 h4 h5 h6 v0)), (h1, .inl (k1, 10, .inr (.inl f1)))] [(k1, .long)]) (va_Qi (fun (r : Int32) (u : Nat → Int32) => ((-1) ≤ r.toInt ∧ r.toInt ≤ 9) ∧ (r.toInt < (v0 7).toInt)) (fun (u : Nat → Int32) (t : State) => ∃ (ww : Nat → Int64) (aa : Nat → Nat → Int32) (bb : Nat → Nat → Int64), va_P (dC, dI) vwCl [(h0, .inr (10, mX10 h1 h2 h3 h4 h5 h6 v0)), (h1, .inl (k1, 10, .inr (.inl f1)))] t.heap ∧ va_K (dC, dI) vwCl [(k1, .long)] t ∧ va_D (va_A [(h0, .inr (10, mX10 h1 h2 h3 h4 h5 h6 v0)), (h1, .inl (k1, 10, .inr (.inl f1)))] sz) [(h0, .inr (10, mX10 h1 h2 h3 h4 h5 h6 v0)), (h1, .inl (k1, 10, .inr (.inl f1)))]) (va_A [(h0, .inr (10, mX10 h1 h2 h3 h4 h5 h6 v0)), (h1, .inl (k1, 10, .inr (.inl f1)))] sz)) 0 0 (va_A [(h0, .inr (10, mX10 h1 h2 h3 h4 h5 h6 v0)), (h1, .inl (k1, 10, .inr (.inl f1)))] sz) := by
  refine Met.ofW (cc := cX10_rankOf) (maxL := 4) (ret := (some .int)) (by decide) rfl ?_
  intro p e s m args below meth c s₁ B hml hv
  obtain ⟨rfl, hsz, hP, hK, hD0, hE, hZ⟩ := hv
  have hx := B.exec
  have hb := B.bytes
  have hr := B.returns
  have hG : ∀ w ∈ zG, w.before _ s = true := fun w h => atoms_spec (ws := (zw yX10_rankOf cX10_rankOf 4 (some .int))) B.pre w (List.mem_cons_of_mem _ h)
  have hown : s.vm.findClass RX10 = some m.cls := findClass_of_methodNamed B.named
  have hlocks := B.notSynchronized

  subst hsz
  have hD := hD0.self (sz := s.heap.size)
  generalize hAe : va_A [(h0, .inr (10, mX10 h1 h2 h3 h4 h5 h6 v0)), (h1, .inl (k1, 10, .inr (.inl f1)))] s.heap.size = A at hD hZ ⊢
  have hA : ∀ q : Nat, s.heap.size ≤ q → A q := fun q h => by rw [← hAe]; exact Or.inr h
  have hS : va_S A s.heap s.heap [] := va_S.rf
  have hl := lv_entry ([.ref h0, .long y1]) (n := 4) (Nat.le_of_ble_eq_true rfl)
  rw [lg_entry_eq]
  generalize (lg_sl ([.ref h0, .long y1]) ++ List.replicate (4 - (lg_sl ([.ref h0, .long y1])).length) Slot.unset).toArray = ls at hl ⊢
  have hl : lv_has ls 4 [(0, .ref h0), (1, .long y1)] := hl
  have b_ := zk_m1
  have b_ : 0 ≤ (v0 7).toInt ∧ (v0 7).toInt ≤ 10 := hv0 7
  refine lv_aload_n hx hb dX10_rankOf_0 rfl (lv_at hl 0 rfl) ?_
  refine lv_lload_n hx hb dX10_rankOf_1 rfl (lv_at hl 1 rfl) ?_
  have hPc := hP.sub (ws' := [(h0, .inr (10, mX10 h1 h2 h3 h4 h5 h6 v0)), (h1, .inl (k1, 10, .inr (.inl f1)))]) [0, 1] rfl
  have hDc := hD.sub (ws' := [(h0, .inr (10, mX10 h1 h2 h3 h4 h5 h6 v0)), (h1, .inl (k1, 10, .inr (.inl f1)))]) [0, 1] (by decide) rfl
  have hKc := hK.sub (tys' := [(k1, .long)]) [0] rfl
  have hFc := va_free (wc := [(h0, .inr (10, mX10 h1 h2 h3 h4 h5 h6 v0)), (h1, .inl (k1, 10, .inr (.inl f1)))]) hD hS hA [0, 1] rfl
  refine va_calli (va_runV (As := [.long y1]) (rest := []) ⟨hx, hb, hml, hown, hG⟩ (sX10_rankAhead_1 l dC dI adK adV h0 h1 h2 h3 h4 h5 h6 k1 s.heap.size v0 f1 y1 hv0) (cwV 1 hG (zgV zw82 zw83 zw84 zw74 zw85) rfl rfl rfl (by decide +kernel) ⟨Nat.le_of_ble_eq_true rfl, Nat.le_of_ble_eq_true rfl⟩) ⟨zPc_blind, va_recv hKc hPc (ci := 10) (q0 := 0) rfl rfl, zPc_pre hPc hKc hDc hE hS hFc hZ⟩ rfl rfl hl.1 rfl (lv_room (Nat.le_of_ble_eq_true rfl)) dX10_rankOf_2 ⟨Nat.le_of_ble_eq_true rfl, Nat.le_of_ble_eq_true rfl⟩) hS (fun q _ h => hFc q h) hFc (fun r2_ u2_ t H1 locs ht hvm hw hB hz1 hk1 hS => ?_)
  have hw : (0 ≤ r2_.toInt ∧ r2_.toInt ≤ 10) ∧ (r2_.toInt ≤ (v0 7).toInt) := hw
  obtain ⟨b_, hX2_0⟩ := hw
  obtain ⟨w2_, a2_, b2_, hP1, hK1, hD1⟩ := hB
  rw [ht] at hP1
  obtain ⟨hP, hD⟩ := va_join (wr := []) (w1 := [(h0, .inr (10, mX10 h1 h2 h3 h4 h5 h6 v0)), (h1, .inl (k1, 10, .inr (.inl f1)))]) hP hD [0, 1] [] rfl rfl (by decide) (by decide) hk1 hFc hP1 hD1
  have hP : va_P (dC, dI) vwCl [(h0, .inr (10, mX10 h1 h2 h3 h4 h5 h6 v0)), (h1, .inl (k1, 10, .inr (.inl f1)))] H1 := hP.sub [0, 1] rfl
  have hD : va_D A [(h0, .inr (10, mX10 h1 h2 h3 h4 h5 h6 v0)), (h1, .inl (k1, 10, .inr (.inl f1)))] := hD.sub [0, 1] (by decide) rfl
  generalize H1 = H at hP hS ⊢
  clear hz1
  refine lv_istore_n (lv' := [(3, .int r2_), (0, .ref h0), (1, .long y1)]) hx hb dX10_rankOf_5 rfl hl (by decide) rfl (fun ls hl => ?_)
  refine lv_iload_n hx hb dX10_rankOf_6 rfl (lv_at hl 0 rfl) ?_
  refine lv_aload_n hx hb dX10_rankOf_7 rfl (lv_at hl 1 rfl) ?_
  refine va_get (D := (dC, dI)) (ci := 10) (v := .int (v0 7)) (C := RX10) (T := TX10) (N := 8) hx hb hG zuX10 hown hK hP 0 rfl rfl 7 (by decide) (hG _ zw80) (fun _ h9 => h9) rfl dX10_rankOf_8 ?_
  refine lv_icmp_ge (tgt := 29) hx hb dX10_rankOf_11 (by decide) (fun c_ => ?_) (fun c_ => ?_)
  · skip
    have b_ := zT_ge rfl rfl c_
    refine lv_iconst (v := (-1)) hx hb dX10_rankOf_29 (by decide) ?_
    refine W.widen (k := 0) (n := 0) (by decide) (by decide) ?_
    have hpost : ((-1) ≤ ((-1) : Int32).toInt ∧ ((-1) : Int32).toInt ≤ 9) ∧ (((-1) : Int32).toInt < (v0 7).toInt) := ⟨⟨by omega, by omega⟩, by omega⟩
    have hP9 : va_P (dC, dI) vwCl [(h0, .inr (10, mX10 h1 h2 h3 h4 h5 h6 v0)), (h1, .inl (k1, 10, .inr (.inl f1)))] H := hP
    have hD9 : va_D A [(h0, .inr (10, mX10 h1 h2 h3 h4 h5 h6 v0)), (h1, .inl (k1, 10, .inr (.inl f1)))] := hD
    exact W.iret (v := (-1)) hx hb hr (fun t ht hW => ⟨⟨(-1), (fun _ => 0), rfl, hpost, (fun _ => 0), (fun _ => (fun _ => 0)), (fun _ => (fun _ => 0)), by rw [ht]; exact hP9, va_K.moved hW.alike hK, hD9⟩, hS.F ht⟩) hS.2.2 dX10_rankOf_30
  · skip
    have b_ := zF_ge rfl rfl c_
    refine lv_aload_n hx hb dX10_rankOf_14 rfl (lv_at hl 1 rfl) ?_
    refine va_get (D := (dC, dI)) (ci := 10) (v := .ref h1) (C := RX10) (T := TX10) (N := 8) hx hb hG zuX10 hown hK hP 0 rfl rfl 1 (by decide) (hG _ zw81) (fun _ h9 => h9) rfl dX10_rankOf_15 ?_
    refine lv_iload_n hx hb dX10_rankOf_18 rfl (lv_at hl 0 rfl) ?_
    refine va_lald hx hb hK hP 1 0 rfl rfl (zin_lit ⟨by omega, by omega⟩) dX10_rankOf_19 ?_
    refine lv_topl (fun y_19 e_y_19 => ?_)
    refine lv_lload_n hx hb dX10_rankOf_20 rfl (lv_at hl 2 rfl) ?_
    refine W.lcmp hx hb dX10_rankOf_21 ?_
    refine lv_topi (fun z21 e_z21 => ?_)
    have b_ : -2147483648 ≤ z21.toInt ∧ z21.toInt ≤ 2147483647 := ⟨zlo _, zhi _⟩
    refine lv_if_ne (tgt := 29) hx hb dX10_rankOf_22 (by decide) (fun c_ => ?_) (fun c_ => ?_)
    · skip
      have b_ := zT_ne rfl zk_0 c_
      refine lv_iconst (v := (-1)) hx hb dX10_rankOf_29 (by decide) ?_
      refine W.widen (k := 0) (n := 0) (by decide) (by decide) ?_
      have hpost : ((-1) ≤ ((-1) : Int32).toInt ∧ ((-1) : Int32).toInt ≤ 9) ∧ (((-1) : Int32).toInt < (v0 7).toInt) := ⟨⟨by omega, by omega⟩, by omega⟩
      have hP9 : va_P (dC, dI) vwCl [(h0, .inr (10, mX10 h1 h2 h3 h4 h5 h6 v0)), (h1, .inl (k1, 10, .inr (.inl f1)))] H := hP
      have hD9 : va_D A [(h0, .inr (10, mX10 h1 h2 h3 h4 h5 h6 v0)), (h1, .inl (k1, 10, .inr (.inl f1)))] := hD
      exact W.iret (v := (-1)) hx hb hr (fun t ht hW => ⟨⟨(-1), (fun _ => 0), rfl, hpost, (fun _ => 0), (fun _ => (fun _ => 0)), (fun _ => (fun _ => 0)), by rw [ht]; exact hP9, va_K.moved hW.alike hK, hD9⟩, hS.F ht⟩) hS.2.2 dX10_rankOf_30
    · skip
      have b_ := zF_ne rfl zk_0 c_
      refine lv_iload_n hx hb dX10_rankOf_25 rfl (lv_at hl 0 rfl) ?_
      refine lv_goto (tgt := 30) hx hb dX10_rankOf_26 (by decide) ?_
      refine W.widen (k := 0) (n := 0) (by decide) (by decide) ?_
      have hpost : ((-1) ≤ r2_.toInt ∧ r2_.toInt ≤ 9) ∧ (r2_.toInt < (v0 7).toInt) := ⟨⟨by omega, by omega⟩, by omega⟩
      have hP9 : va_P (dC, dI) vwCl [(h0, .inr (10, mX10 h1 h2 h3 h4 h5 h6 v0)), (h1, .inl (k1, 10, .inr (.inl f1)))] H := hP
      have hD9 : va_D A [(h0, .inr (10, mX10 h1 h2 h3 h4 h5 h6 v0)), (h1, .inl (k1, 10, .inr (.inl f1)))] := hD
      exact W.iret (v := r2_) hx hb hr (fun t ht hW => ⟨⟨r2_, (fun _ => 0), rfl, hpost, (fun _ => 0), (fun _ => (fun _ => 0)), (fun _ => (fun _ => 0)), by rw [ht]; exact hP9, va_K.moved hW.alike hK, hD9⟩, hS.F ht⟩) hS.2.2 dX10_rankOf_30
set_option maxHeartbeats 8000000 in
set_option maxRecDepth 100000 in
theorem sX10_idAt_1 (l : Launch) (dC : Nat → ClassId) (dI : Nat → Nat → Nat) (adK adV : Nat → Nat) (h0 : Nat) (h2 : Nat) (h1 : Nat) (h3 : Nat) (h4 : Nat) (h5 : Nat) (h6 : Nat) (k2 : ClassId) (sz : Nat) (v0 : Nat → Int32) (f2 : Nat → Int32) (x1 : Int32) (hv0 : zR rg_Words10 v0) (hf2 : zA 0 9 f2) : Met l yX10_idAt (zw yX10_idAt cX10_idAt 2 (some .int)) { frames := 0, cells := 0, slots := 0, locals := 0 } (zPc dC dI adK adV [.ref h0, .int x1] sz [(h0, .inr (10, mX10 h1 h2 h3 h4 h5 h6 v0)), (h2, .inl (k2, 10, .inl f2))] [(k2, .int)]) (va_Qi (fun (r : Int32) (u : Nat → Int32) => ((-1) ≤ r.toInt ∧ r.toInt ≤ 9)) (fun (u : Nat → Int32) (t : State) => ∃ (ww : Nat → Int64) (aa : Nat → Nat → Int32) (bb : Nat → Nat → Int64), va_P (dC, dI) vwCl [(h0, .inr (10, mX10 h1 h2 h3 h4 h5 h6 v0)), (h2, .inl (k2, 10, .inl f2))] t.heap ∧ va_K (dC, dI) vwCl [(k2, .int)] t ∧ va_D (va_A [(h0, .inr (10, mX10 h1 h2 h3 h4 h5 h6 v0)), (h2, .inl (k2, 10, .inl f2))] sz) [(h0, .inr (10, mX10 h1 h2 h3 h4 h5 h6 v0)), (h2, .inl (k2, 10, .inl f2))]) (va_A [(h0, .inr (10, mX10 h1 h2 h3 h4 h5 h6 v0)), (h2, .inl (k2, 10, .inl f2))] sz)) 0 0 (va_A [(h0, .inr (10, mX10 h1 h2 h3 h4 h5 h6 v0)), (h2, .inl (k2, 10, .inl f2))] sz) := by
  refine Met.ofW (cc := cX10_idAt) (maxL := 2) (ret := (some .int)) (by decide) rfl ?_
  intro p e s m args below meth c s₁ B hml hv
  obtain ⟨rfl, hsz, hP, hK, hD0, hE, hZ⟩ := hv
  have hx := B.exec
  have hb := B.bytes
  have hr := B.returns
  have hG : ∀ w ∈ zG, w.before _ s = true := fun w h => atoms_spec (ws := (zw yX10_idAt cX10_idAt 2 (some .int))) B.pre w (List.mem_cons_of_mem _ h)
  have hown : s.vm.findClass RX10 = some m.cls := findClass_of_methodNamed B.named
  have hlocks := B.notSynchronized

  subst hsz
  have hD := hD0.self (sz := s.heap.size)
  generalize hAe : va_A [(h0, .inr (10, mX10 h1 h2 h3 h4 h5 h6 v0)), (h2, .inl (k2, 10, .inl f2))] s.heap.size = A at hD hZ ⊢
  have hA : ∀ q : Nat, s.heap.size ≤ q → A q := fun q h => by rw [← hAe]; exact Or.inr h
  have hS : va_S A s.heap s.heap [] := va_S.rf
  have hl := lv_entry ([.ref h0, .int x1]) (n := 2) (Nat.le_of_ble_eq_true rfl)
  rw [lg_entry_eq]
  generalize (lg_sl ([.ref h0, .int x1]) ++ List.replicate (2 - (lg_sl ([.ref h0, .int x1])).length) Slot.unset).toArray = ls at hl ⊢
  have hl : lv_has ls 2 [(0, .ref h0), (1, .int x1)] := hl
  have b_ := zk_m1
  refine lv_iload_n hx hb dX10_idAt_0 rfl (lv_at hl 1 rfl) ?_
  have b_ : -2147483648 ≤ x1.toInt ∧ x1.toInt ≤ 2147483647 := ⟨zlo _, zhi _⟩
  refine lv_if_lt (tgt := 21) hx hb dX10_idAt_1 (by decide) (fun c_ => ?_) (fun c_ => ?_)
  · skip
    have b_ := zT_lt rfl zk_0 c_
    refine lv_iconst (v := (-1)) hx hb dX10_idAt_21 (by decide) ?_
    refine W.widen (k := 0) (n := 0) (by decide) (by decide) ?_
    have hpost : ((-1) ≤ ((-1) : Int32).toInt ∧ ((-1) : Int32).toInt ≤ 9) := ⟨by omega, by omega⟩
    have hP9 : va_P (dC, dI) vwCl [(h0, .inr (10, mX10 h1 h2 h3 h4 h5 h6 v0)), (h2, .inl (k2, 10, .inl f2))] s.heap := hP
    have hD9 : va_D A [(h0, .inr (10, mX10 h1 h2 h3 h4 h5 h6 v0)), (h2, .inl (k2, 10, .inl f2))] := hD
    exact W.iret (v := (-1)) hx hb hr (fun t ht hW => ⟨⟨(-1), (fun _ => 0), rfl, hpost, (fun _ => 0), (fun _ => (fun _ => 0)), (fun _ => (fun _ => 0)), by rw [ht]; exact hP9, va_K.moved hW.alike hK, hD9⟩, hS.F ht⟩) hS.2.2 dX10_idAt_22
  · skip
    have b_ := zF_lt rfl zk_0 c_
    refine lv_iload_n hx hb dX10_idAt_4 rfl (lv_at hl 1 rfl) ?_
    refine lv_aload_n hx hb dX10_idAt_5 rfl (lv_at hl 0 rfl) ?_
    have b_ : 0 ≤ (v0 7).toInt ∧ (v0 7).toInt ≤ 10 := hv0 7
    refine va_get (D := (dC, dI)) (ci := 10) (v := .int (v0 7)) (C := RX10) (T := TX10) (N := 8) hx hb hG zuX10 hown hK hP 0 rfl rfl 7 (by decide) (hG _ zw80) (fun _ h9 => h9) rfl dX10_idAt_6 ?_
    refine lv_icmp_ge (tgt := 21) hx hb dX10_idAt_9 (by decide) (fun c_ => ?_) (fun c_ => ?_)
    · skip
      have b_ := zT_ge rfl rfl c_
      refine lv_iconst (v := (-1)) hx hb dX10_idAt_21 (by decide) ?_
      refine W.widen (k := 0) (n := 0) (by decide) (by decide) ?_
      have hpost : ((-1) ≤ ((-1) : Int32).toInt ∧ ((-1) : Int32).toInt ≤ 9) := ⟨by omega, by omega⟩
      have hP9 : va_P (dC, dI) vwCl [(h0, .inr (10, mX10 h1 h2 h3 h4 h5 h6 v0)), (h2, .inl (k2, 10, .inl f2))] s.heap := hP
      have hD9 : va_D A [(h0, .inr (10, mX10 h1 h2 h3 h4 h5 h6 v0)), (h2, .inl (k2, 10, .inl f2))] := hD
      exact W.iret (v := (-1)) hx hb hr (fun t ht hW => ⟨⟨(-1), (fun _ => 0), rfl, hpost, (fun _ => 0), (fun _ => (fun _ => 0)), (fun _ => (fun _ => 0)), by rw [ht]; exact hP9, va_K.moved hW.alike hK, hD9⟩, hS.F ht⟩) hS.2.2 dX10_idAt_22
    · skip
      have b_ := zF_ge rfl rfl c_
      refine lv_aload_n hx hb dX10_idAt_12 rfl (lv_at hl 0 rfl) ?_
      refine va_get (D := (dC, dI)) (ci := 10) (v := .ref h2) (C := RX10) (T := TX10) (N := 8) hx hb hG zuX10 hown hK hP 0 rfl rfl 2 (by decide) (hG _ zw86) (fun _ h9 => h9) rfl dX10_idAt_13 ?_
      refine lv_iload_n hx hb dX10_idAt_16 rfl (lv_at hl 1 rfl) ?_
      refine va_iald hx hb hK hP 1 0 rfl rfl (zin_lit ⟨by omega, by omega⟩) dX10_idAt_17 ?_
      refine lv_topi (fun z17 e_z17 => ?_)
      have b_ : 0 ≤ z17.toInt ∧ z17.toInt ≤ 9 := by rw [e_z17]; exact hf2 _
      refine lv_goto (tgt := 22) hx hb dX10_idAt_18 (by decide) ?_
      refine W.widen (k := 0) (n := 0) (by decide) (by decide) ?_
      have hpost : ((-1) ≤ z17.toInt ∧ z17.toInt ≤ 9) := ⟨by omega, by omega⟩
      have hP9 : va_P (dC, dI) vwCl [(h0, .inr (10, mX10 h1 h2 h3 h4 h5 h6 v0)), (h2, .inl (k2, 10, .inl f2))] s.heap := hP
      have hD9 : va_D A [(h0, .inr (10, mX10 h1 h2 h3 h4 h5 h6 v0)), (h2, .inl (k2, 10, .inl f2))] := hD
      exact W.iret (v := z17) hx hb hr (fun t ht hW => ⟨⟨z17, (fun _ => 0), rfl, hpost, (fun _ => 0), (fun _ => (fun _ => 0)), (fun _ => (fun _ => 0)), by rw [ht]; exact hP9, va_K.moved hW.alike hK, hD9⟩, hS.F ht⟩) hS.2.2 dX10_idAt_22
set_option maxHeartbeats 8000000 in
set_option maxRecDepth 100000 in
theorem sX10_idOf_1 (l : Launch) (dC : Nat → ClassId) (dI : Nat → Nat → Nat) (adK adV : Nat → Nat) (h0 : Nat) (h1 : Nat) (h2 : Nat) (h3 : Nat) (h4 : Nat) (h5 : Nat) (h6 : Nat) (k1 : ClassId) (k2 : ClassId) (sz : Nat) (v0 : Nat → Int32) (f1 : Nat → Int64) (f2 : Nat → Int32) (y1 : Int64) (hv0 : zR rg_Words10 v0) (hf2 : zA 0 9 f2) : Met l yX10_idOf (zw yX10_idOf cX10_idOf 3 (some .int)) { frames := 2, cells := 0, slots := 0, locals := 48 } (zPc dC dI adK adV [.ref h0, .long y1] sz [(h0, .inr (10, mX10 h1 h2 h3 h4 h5 h6 v0)), (h1, .inl (k1, 10, .inr (.inl f1))), (h2, .inl (k2, 10, .inl f2))] [(k1, .long), (k2, .int)]) (va_Qi (fun (r : Int32) (u : Nat → Int32) => ((-1) ≤ r.toInt ∧ r.toInt ≤ 9)) (fun (u : Nat → Int32) (t : State) => ∃ (ww : Nat → Int64) (aa : Nat → Nat → Int32) (bb : Nat → Nat → Int64), va_P (dC, dI) vwCl [(h0, .inr (10, mX10 h1 h2 h3 h4 h5 h6 v0)), (h1, .inl (k1, 10, .inr (.inl f1))), (h2, .inl (k2, 10, .inl f2))] t.heap ∧ va_K (dC, dI) vwCl [(k1, .long), (k2, .int)] t ∧ va_D (va_A [(h0, .inr (10, mX10 h1 h2 h3 h4 h5 h6 v0)), (h1, .inl (k1, 10, .inr (.inl f1))), (h2, .inl (k2, 10, .inl f2))] sz) [(h0, .inr (10, mX10 h1 h2 h3 h4 h5 h6 v0)), (h1, .inl (k1, 10, .inr (.inl f1))), (h2, .inl (k2, 10, .inl f2))]) (va_A [(h0, .inr (10, mX10 h1 h2 h3 h4 h5 h6 v0)), (h1, .inl (k1, 10, .inr (.inl f1))), (h2, .inl (k2, 10, .inl f2))] sz)) 0 0 (va_A [(h0, .inr (10, mX10 h1 h2 h3 h4 h5 h6 v0)), (h1, .inl (k1, 10, .inr (.inl f1))), (h2, .inl (k2, 10, .inl f2))] sz) := by
  refine Met.ofW (cc := cX10_idOf) (maxL := 3) (ret := (some .int)) (by decide) rfl ?_
  intro p e s m args below meth c s₁ B hml hv
  obtain ⟨rfl, hsz, hP, hK, hD0, hE, hZ⟩ := hv
  have hx := B.exec
  have hb := B.bytes
  have hr := B.returns
  have hG : ∀ w ∈ zG, w.before _ s = true := fun w h => atoms_spec (ws := (zw yX10_idOf cX10_idOf 3 (some .int))) B.pre w (List.mem_cons_of_mem _ h)
  have hown : s.vm.findClass RX10 = some m.cls := findClass_of_methodNamed B.named
  have hlocks := B.notSynchronized

  subst hsz
  have hD := hD0.self (sz := s.heap.size)
  generalize hAe : va_A [(h0, .inr (10, mX10 h1 h2 h3 h4 h5 h6 v0)), (h1, .inl (k1, 10, .inr (.inl f1))), (h2, .inl (k2, 10, .inl f2))] s.heap.size = A at hD hZ ⊢
  have hA : ∀ q : Nat, s.heap.size ≤ q → A q := fun q h => by rw [← hAe]; exact Or.inr h
  have hS : va_S A s.heap s.heap [] := va_S.rf
  have hl := lv_entry ([.ref h0, .long y1]) (n := 3) (Nat.le_of_ble_eq_true rfl)
  rw [lg_entry_eq]
  generalize (lg_sl ([.ref h0, .long y1]) ++ List.replicate (3 - (lg_sl ([.ref h0, .long y1])).length) Slot.unset).toArray = ls at hl ⊢
  have hl : lv_has ls 3 [(0, .ref h0), (1, .long y1)] := hl
  refine lv_aload_n hx hb dX10_idOf_0 rfl (lv_at hl 0 rfl) ?_
  refine lv_aload_n hx hb dX10_idOf_1 rfl (lv_at hl 0 rfl) ?_
  refine lv_lload_n hx hb dX10_idOf_2 rfl (lv_at hl 1 rfl) ?_
  have hPc := hP.sub (ws' := [(h0, .inr (10, mX10 h1 h2 h3 h4 h5 h6 v0)), (h1, .inl (k1, 10, .inr (.inl f1)))]) [0, 1] rfl
  have hDc := hD.sub (ws' := [(h0, .inr (10, mX10 h1 h2 h3 h4 h5 h6 v0)), (h1, .inl (k1, 10, .inr (.inl f1)))]) [0, 1] (by decide) rfl
  have hKc := hK.sub (tys' := [(k1, .long)]) [0] rfl
  have hFc := va_free (wc := [(h0, .inr (10, mX10 h1 h2 h3 h4 h5 h6 v0)), (h1, .inl (k1, 10, .inr (.inl f1)))]) hD hS hA [0, 1] rfl
  refine va_calli (va_runV (As := [.long y1]) (rest := [.ref h0]) ⟨hx, hb, hml, hown, hG⟩ (sX10_rankOf_1 l dC dI adK adV h0 h1 h2 h3 h4 h5 h6 k1 s.heap.size v0 f1 y1 hv0) (cwV 1 hG (zgV zw87 zw88 zw89 zw74 zw90) rfl rfl rfl (by decide +kernel) ⟨Nat.le_of_ble_eq_true rfl, Nat.le_of_ble_eq_true rfl⟩) ⟨zPc_blind, va_recv hKc hPc (ci := 10) (q0 := 0) rfl rfl, zPc_pre hPc hKc hDc hE hS hFc hZ⟩ rfl rfl hl.1 rfl (lv_room (Nat.le_of_ble_eq_true rfl)) dX10_idOf_3 ⟨Nat.le_of_ble_eq_true rfl, Nat.le_of_ble_eq_true rfl⟩) hS (fun q _ h => hFc q h) hFc (fun r3_ u3_ t H1 locs ht hvm hw hB hz1 hk1 hS => ?_)
  have hw : ((-1) ≤ r3_.toInt ∧ r3_.toInt ≤ 9) ∧ (r3_.toInt < (v0 7).toInt) := hw
  obtain ⟨b_, hX3_0⟩ := hw
  obtain ⟨w3_, a3_, b3_, hP1, hK1, hD1⟩ := hB
  rw [ht] at hP1
  obtain ⟨hP, hD⟩ := va_join (wr := [(h2, .inl (k2, 10, .inl f2))]) (w1 := [(h0, .inr (10, mX10 h1 h2 h3 h4 h5 h6 v0)), (h1, .inl (k1, 10, .inr (.inl f1)))]) hP hD [0, 1] [2] rfl rfl (by decide) (by decide) hk1 hFc hP1 hD1
  have hP : va_P (dC, dI) vwCl [(h0, .inr (10, mX10 h1 h2 h3 h4 h5 h6 v0)), (h1, .inl (k1, 10, .inr (.inl f1))), (h2, .inl (k2, 10, .inl f2))] H1 := hP.sub [1, 2, 0] rfl
  have hD : va_D A [(h0, .inr (10, mX10 h1 h2 h3 h4 h5 h6 v0)), (h1, .inl (k1, 10, .inr (.inl f1))), (h2, .inl (k2, 10, .inl f2))] := hD.sub [1, 2, 0] (by decide) rfl
  generalize H1 = H at hP hS ⊢
  clear hz1
  have hPc := hP.sub (ws' := [(h0, .inr (10, mX10 h1 h2 h3 h4 h5 h6 v0)), (h2, .inl (k2, 10, .inl f2))]) [0, 2] rfl
  have hDc := hD.sub (ws' := [(h0, .inr (10, mX10 h1 h2 h3 h4 h5 h6 v0)), (h2, .inl (k2, 10, .inl f2))]) [0, 2] (by decide) rfl
  have hKc := hK.sub (tys' := [(k2, .int)]) [1] rfl
  have hFc := va_free (wc := [(h0, .inr (10, mX10 h1 h2 h3 h4 h5 h6 v0)), (h2, .inl (k2, 10, .inl f2))]) hD hS hA [0, 2] rfl
  refine va_calli (va_runV (As := [.int r3_]) (rest := []) ⟨hx, hb, hml, hown, hG⟩ (sX10_idAt_1 l dC dI adK adV h0 h2 h1 h3 h4 h5 h6 k2 H.size v0 f2 r3_ hv0 hf2) (cwV 1 hG (zgV zw91 zw92 zw93 zw74 zw94) rfl rfl rfl (by decide +kernel) ⟨Nat.le_of_ble_eq_true rfl, Nat.le_of_ble_eq_true rfl⟩) ⟨zPc_blind, va_recv hKc hPc (ci := 10) (q0 := 0) rfl rfl, zPc_pre hPc hKc hDc hE hS hFc hZ⟩ rfl rfl hl.1 rfl (lv_room (Nat.le_of_ble_eq_true rfl)) dX10_idOf_6 ⟨Nat.le_of_ble_eq_true rfl, Nat.le_of_ble_eq_true rfl⟩) hS (fun q _ h => hFc q h) hFc (fun r6_ u6_ t H1 locs ht hvm hw hB hz1 hk1 hS => ?_)
  have hw : ((-1) ≤ r6_.toInt ∧ r6_.toInt ≤ 9) := hw
  have b_ := hw
  obtain ⟨w6_, a6_, b6_, hP1, hK1, hD1⟩ := hB
  rw [ht] at hP1
  obtain ⟨hP, hD⟩ := va_join (wr := [(h1, .inl (k1, 10, .inr (.inl f1)))]) (w1 := [(h0, .inr (10, mX10 h1 h2 h3 h4 h5 h6 v0)), (h2, .inl (k2, 10, .inl f2))]) hP hD [0, 2] [1] rfl rfl (by decide) (by decide) hk1 hFc hP1 hD1
  have hP : va_P (dC, dI) vwCl [(h0, .inr (10, mX10 h1 h2 h3 h4 h5 h6 v0)), (h1, .inl (k1, 10, .inr (.inl f1))), (h2, .inl (k2, 10, .inl f2))] H1 := hP.sub [1, 0, 2] rfl
  have hD : va_D A [(h0, .inr (10, mX10 h1 h2 h3 h4 h5 h6 v0)), (h1, .inl (k1, 10, .inr (.inl f1))), (h2, .inl (k2, 10, .inl f2))] := hD.sub [1, 0, 2] (by decide) rfl
  generalize H1 = H at hP hS ⊢
  clear hz1
  refine W.widen (k := 0) (n := 0) (by decide) (by decide) ?_
  have hpost : ((-1) ≤ r6_.toInt ∧ r6_.toInt ≤ 9) := ⟨by omega, by omega⟩
  have hP9 : va_P (dC, dI) vwCl [(h0, .inr (10, mX10 h1 h2 h3 h4 h5 h6 v0)), (h1, .inl (k1, 10, .inr (.inl f1))), (h2, .inl (k2, 10, .inl f2))] H := hP
  have hD9 : va_D A [(h0, .inr (10, mX10 h1 h2 h3 h4 h5 h6 v0)), (h1, .inl (k1, 10, .inr (.inl f1))), (h2, .inl (k2, 10, .inl f2))] := hD
  exact W.iret (v := r6_) hx hb hr (fun t ht hW => ⟨⟨r6_, (fun _ => 0), rfl, hpost, (fun _ => 0), (fun _ => (fun _ => 0)), (fun _ => (fun _ => 0)), by rw [ht]; exact hP9, va_K.moved hW.alike hK, hD9⟩, hS.F ht⟩) hS.2.2 dX10_idOf_9
set_option maxHeartbeats 8000000 in
set_option maxRecDepth 100000 in
theorem sX10_wordAt_1 (l : Launch) (dC : Nat → ClassId) (dI : Nat → Nat → Nat) (adK adV : Nat → Nat) (h0 : Nat) (h1 : Nat) (h2 : Nat) (h3 : Nat) (h4 : Nat) (h5 : Nat) (h6 : Nat) (k1 : ClassId) (sz : Nat) (v0 : Nat → Int32) (f1 : Nat → Int64) (x1 : Int32) (hv0 : zR rg_Words10 v0) : Met l yX10_wordAt (zw yX10_wordAt cX10_wordAt 2 (some .long)) { frames := 0, cells := 0, slots := 0, locals := 0 } (zPc dC dI adK adV [.ref h0, .int x1] sz [(h0, .inr (10, mX10 h1 h2 h3 h4 h5 h6 v0)), (h1, .inl (k1, 10, .inr (.inl f1)))] [(k1, .long)]) (va_Ql (fun (r : Int64) (u : Nat → Int32) => True) (fun (u : Nat → Int32) (t : State) => ∃ (ww : Nat → Int64) (aa : Nat → Nat → Int32) (bb : Nat → Nat → Int64), va_P (dC, dI) vwCl [(h0, .inr (10, mX10 h1 h2 h3 h4 h5 h6 v0)), (h1, .inl (k1, 10, .inr (.inl f1)))] t.heap ∧ va_K (dC, dI) vwCl [(k1, .long)] t ∧ va_D (va_A [(h0, .inr (10, mX10 h1 h2 h3 h4 h5 h6 v0)), (h1, .inl (k1, 10, .inr (.inl f1)))] sz) [(h0, .inr (10, mX10 h1 h2 h3 h4 h5 h6 v0)), (h1, .inl (k1, 10, .inr (.inl f1)))]) (va_A [(h0, .inr (10, mX10 h1 h2 h3 h4 h5 h6 v0)), (h1, .inl (k1, 10, .inr (.inl f1)))] sz)) 0 0 (va_A [(h0, .inr (10, mX10 h1 h2 h3 h4 h5 h6 v0)), (h1, .inl (k1, 10, .inr (.inl f1)))] sz) := by
  refine Met.ofW (cc := cX10_wordAt) (maxL := 2) (ret := (some .long)) (by decide) rfl ?_
  intro p e s m args below meth c s₁ B hml hv
  obtain ⟨rfl, hsz, hP, hK, hD0, hE, hZ⟩ := hv
  have hx := B.exec
  have hb := B.bytes
  have hr := B.returns
  have hG : ∀ w ∈ zG, w.before _ s = true := fun w h => atoms_spec (ws := (zw yX10_wordAt cX10_wordAt 2 (some .long))) B.pre w (List.mem_cons_of_mem _ h)
  have hown : s.vm.findClass RX10 = some m.cls := findClass_of_methodNamed B.named
  have hlocks := B.notSynchronized

  subst hsz
  have hD := hD0.self (sz := s.heap.size)
  generalize hAe : va_A [(h0, .inr (10, mX10 h1 h2 h3 h4 h5 h6 v0)), (h1, .inl (k1, 10, .inr (.inl f1)))] s.heap.size = A at hD hZ ⊢
  have hA : ∀ q : Nat, s.heap.size ≤ q → A q := fun q h => by rw [← hAe]; exact Or.inr h
  have hS : va_S A s.heap s.heap [] := va_S.rf
  have hl := lv_entry ([.ref h0, .int x1]) (n := 2) (Nat.le_of_ble_eq_true rfl)
  rw [lg_entry_eq]
  generalize (lg_sl ([.ref h0, .int x1]) ++ List.replicate (2 - (lg_sl ([.ref h0, .int x1])).length) Slot.unset).toArray = ls at hl ⊢
  have hl : lv_has ls 2 [(0, .ref h0), (1, .int x1)] := hl
  refine lv_iload_n hx hb dX10_wordAt_0 rfl (lv_at hl 1 rfl) ?_
  have b_ : -2147483648 ≤ x1.toInt ∧ x1.toInt ≤ 2147483647 := ⟨zlo _, zhi _⟩
  refine lv_if_lt (tgt := 21) hx hb dX10_wordAt_1 (by decide) (fun c_ => ?_) (fun c_ => ?_)
  · skip
    have b_ := zT_lt rfl zk_0 c_
    refine lv_lconst (v := 0) hx hb dX10_wordAt_21 (by decide) ?_
    refine W.widen (k := 0) (n := 0) (by decide) (by decide) ?_
    have hpost : True := trivial
    have hP9 : va_P (dC, dI) vwCl [(h0, .inr (10, mX10 h1 h2 h3 h4 h5 h6 v0)), (h1, .inl (k1, 10, .inr (.inl f1)))] s.heap := hP
    have hD9 : va_D A [(h0, .inr (10, mX10 h1 h2 h3 h4 h5 h6 v0)), (h1, .inl (k1, 10, .inr (.inl f1)))] := hD
    exact W.lret (v := 0) hx hb hr (fun t ht hW => ⟨⟨0, (fun _ => 0), rfl, hpost, (fun _ => 0), (fun _ => (fun _ => 0)), (fun _ => (fun _ => 0)), by rw [ht]; exact hP9, va_K.moved hW.alike hK, hD9⟩, hS.F ht⟩) hS.2.2 dX10_wordAt_22
  · skip
    have b_ := zF_lt rfl zk_0 c_
    refine lv_iload_n hx hb dX10_wordAt_4 rfl (lv_at hl 1 rfl) ?_
    refine lv_aload_n hx hb dX10_wordAt_5 rfl (lv_at hl 0 rfl) ?_
    have b_ : 0 ≤ (v0 7).toInt ∧ (v0 7).toInt ≤ 10 := hv0 7
    refine va_get (D := (dC, dI)) (ci := 10) (v := .int (v0 7)) (C := RX10) (T := TX10) (N := 8) hx hb hG zuX10 hown hK hP 0 rfl rfl 7 (by decide) (hG _ zw80) (fun _ h9 => h9) rfl dX10_wordAt_6 ?_
    refine lv_icmp_ge (tgt := 21) hx hb dX10_wordAt_9 (by decide) (fun c_ => ?_) (fun c_ => ?_)
    · skip
      have b_ := zT_ge rfl rfl c_
      refine lv_lconst (v := 0) hx hb dX10_wordAt_21 (by decide) ?_
      refine W.widen (k := 0) (n := 0) (by decide) (by decide) ?_
      have hpost : True := trivial
      have hP9 : va_P (dC, dI) vwCl [(h0, .inr (10, mX10 h1 h2 h3 h4 h5 h6 v0)), (h1, .inl (k1, 10, .inr (.inl f1)))] s.heap := hP
      have hD9 : va_D A [(h0, .inr (10, mX10 h1 h2 h3 h4 h5 h6 v0)), (h1, .inl (k1, 10, .inr (.inl f1)))] := hD
      exact W.lret (v := 0) hx hb hr (fun t ht hW => ⟨⟨0, (fun _ => 0), rfl, hpost, (fun _ => 0), (fun _ => (fun _ => 0)), (fun _ => (fun _ => 0)), by rw [ht]; exact hP9, va_K.moved hW.alike hK, hD9⟩, hS.F ht⟩) hS.2.2 dX10_wordAt_22
    · skip
      have b_ := zF_ge rfl rfl c_
      refine lv_aload_n hx hb dX10_wordAt_12 rfl (lv_at hl 0 rfl) ?_
      refine va_get (D := (dC, dI)) (ci := 10) (v := .ref h1) (C := RX10) (T := TX10) (N := 8) hx hb hG zuX10 hown hK hP 0 rfl rfl 1 (by decide) (hG _ zw81) (fun _ h9 => h9) rfl dX10_wordAt_13 ?_
      refine lv_iload_n hx hb dX10_wordAt_16 rfl (lv_at hl 1 rfl) ?_
      refine va_lald hx hb hK hP 1 0 rfl rfl (zin_lit ⟨by omega, by omega⟩) dX10_wordAt_17 ?_
      refine lv_topl (fun y_17 e_y_17 => ?_)
      refine lv_goto (tgt := 22) hx hb dX10_wordAt_18 (by decide) ?_
      refine W.widen (k := 0) (n := 0) (by decide) (by decide) ?_
      have hpost : True := trivial
      have hP9 : va_P (dC, dI) vwCl [(h0, .inr (10, mX10 h1 h2 h3 h4 h5 h6 v0)), (h1, .inl (k1, 10, .inr (.inl f1)))] s.heap := hP
      have hD9 : va_D A [(h0, .inr (10, mX10 h1 h2 h3 h4 h5 h6 v0)), (h1, .inl (k1, 10, .inr (.inl f1)))] := hD
      exact W.lret (v := y_17) hx hb hr (fun t ht hW => ⟨⟨y_17, (fun _ => 0), rfl, hpost, (fun _ => 0), (fun _ => (fun _ => 0)), (fun _ => (fun _ => 0)), by rw [ht]; exact hP9, va_K.moved hW.alike hK, hD9⟩, hS.F ht⟩) hS.2.2 dX10_wordAt_22
set_option maxHeartbeats 8000000 in
set_option maxRecDepth 100000 in
theorem sX10_add_1 (l : Launch) (dC : Nat → ClassId) (dI : Nat → Nat → Nat) (adK adV : Nat → Nat) (h0 : Nat) (h1 : Nat) (h2 : Nat) (h3 : Nat) (h4 : Nat) (h5 : Nat) (h6 : Nat) (k1 : ClassId) (k2 : ClassId) (sz : Nat) (v0 : Nat → Int32) (f1 : Nat → Int64) (f2 : Nat → Int32) (y1 : Int64) (hv0 : zR rg_Words10 v0) (hf2 : zA 0 9 f2) : Met l yX10_add (zw yX10_add cX10_add 4 (some .int)) { frames := 1, cells := 0, slots := 0, locals := 100 } (zPc dC dI adK adV [.ref h0, .long y1] sz [(h0, .inr (10, mX10 h1 h2 h3 h4 h5 h6 v0)), (h1, .inl (k1, 10, .inr (.inl f1))), (h2, .inl (k2, 10, .inl f2))] [(k1, .long), (k2, .int)]) (va_Qi (fun (r : Int32) (u : Nat → Int32) => ((-1) ≤ r.toInt ∧ r.toInt ≤ 9) ∧ (1 ≤ (u 0).toInt ∧ (u 0).toInt ≤ 10)) (fun (u : Nat → Int32) (t : State) => ∃ (ww : Nat → Int64) (aa : Nat → Nat → Int32) (bb : Nat → Nat → Int64), zA 0 9 (aa 0) ∧ va_P (dC, dI) vwCl [(h0, .inr (10, mX10 h1 h2 h3 h4 h5 h6 (upd v0 7 (u 0)))), (h1, .inl (k1, 10, .inr (.inl (bb 0)))), (h2, .inl (k2, 10, .inl (aa 0)))] t.heap ∧ va_K (dC, dI) vwCl [(k1, .long), (k2, .int)] t ∧ va_D (va_A [(h0, .inr (10, mX10 h1 h2 h3 h4 h5 h6 v0)), (h1, .inl (k1, 10, .inr (.inl f1))), (h2, .inl (k2, 10, .inl f2))] sz) [(h0, .inr (10, mX10 h1 h2 h3 h4 h5 h6 (upd v0 7 (u 0)))), (h1, .inl (k1, 10, .inr (.inl (bb 0)))), (h2, .inl (k2, 10, .inl (aa 0)))]) (va_A [(h0, .inr (10, mX10 h1 h2 h3 h4 h5 h6 v0)), (h1, .inl (k1, 10, .inr (.inl f1))), (h2, .inl (k2, 10, .inl f2))] sz)) 0 0 (va_A [(h0, .inr (10, mX10 h1 h2 h3 h4 h5 h6 v0)), (h1, .inl (k1, 10, .inr (.inl f1))), (h2, .inl (k2, 10, .inl f2))] sz) := by
  refine Met.ofW (cc := cX10_add) (maxL := 4) (ret := (some .int)) (by decide) rfl ?_
  intro p e s m args below meth c s₁ B hml hv
  obtain ⟨rfl, hsz, hP, hK, hD0, hE, hZ⟩ := hv
  have hx := B.exec
  have hb := B.bytes
  have hr := B.returns
  have hG : ∀ w ∈ zG, w.before _ s = true := fun w h => atoms_spec (ws := (zw yX10_add cX10_add 4 (some .int))) B.pre w (List.mem_cons_of_mem _ h)
  have hown : s.vm.findClass RX10 = some m.cls := findClass_of_methodNamed B.named
  have hlocks := B.notSynchronized

  subst hsz
  have hD := hD0.self (sz := s.heap.size)
  generalize hAe : va_A [(h0, .inr (10, mX10 h1 h2 h3 h4 h5 h6 v0)), (h1, .inl (k1, 10, .inr (.inl f1))), (h2, .inl (k2, 10, .inl f2))] s.heap.size = A at hD hZ ⊢
  have hA : ∀ q : Nat, s.heap.size ≤ q → A q := fun q h => by rw [← hAe]; exact Or.inr h
  have hS : va_S A s.heap s.heap [] := va_S.rf
  have hl := lv_entry ([.ref h0, .long y1]) (n := 4) (Nat.le_of_ble_eq_true rfl)
  rw [lg_entry_eq]
  generalize (lg_sl ([.ref h0, .long y1]) ++ List.replicate (4 - (lg_sl ([.ref h0, .long y1])).length) Slot.unset).toArray = ls at hl ⊢
  have hl : lv_has ls 4 [(0, .ref h0), (1, .long y1)] := hl
  have b_ := zk_m1
  refine lv_aload_n hx hb dX10_add_0 rfl (lv_at hl 0 rfl) ?_
  have b_ : 0 ≤ (v0 7).toInt ∧ (v0 7).toInt ≤ 10 := hv0 7
  refine va_get (D := (dC, dI)) (ci := 10) (v := .int (v0 7)) (C := RX10) (T := TX10) (N := 8) hx hb hG zuX10 hown hK hP 0 rfl rfl 7 (by decide) (hG _ zw80) (fun _ h9 => h9) rfl dX10_add_1 ?_
  refine lv_aload_n hx hb dX10_add_4 rfl (lv_at hl 0 rfl) ?_
  have b_ : 10 ≤ (v0 0).toInt ∧ (v0 0).toInt ≤ 10 := hv0 0
  refine va_get (D := (dC, dI)) (ci := 10) (v := .int (v0 0)) (C := RX10) (T := TX10) (N := 8) hx hb hG zuX10 hown hK hP 0 rfl rfl 0 (by decide) (hG _ zw95) (fun _ h9 => h9) rfl dX10_add_5 ?_
  refine lv_icmp_lt (tgt := 13) hx hb dX10_add_8 (by decide) (fun c_ => ?_) (fun c_ => ?_)
  · skip
    have b_ := zT_lt rfl rfl c_
    refine lv_aload_n hx hb dX10_add_13 rfl (lv_at hl 0 rfl) ?_
    refine lv_lload_n hx hb dX10_add_14 rfl (lv_at hl 1 rfl) ?_
    have hPc := hP.sub (ws' := [(h0, .inr (10, mX10 h1 h2 h3 h4 h5 h6 v0)), (h1, .inl (k1, 10, .inr (.inl f1)))]) [0, 1] rfl
    have hDc := hD.sub (ws' := [(h0, .inr (10, mX10 h1 h2 h3 h4 h5 h6 v0)), (h1, .inl (k1, 10, .inr (.inl f1)))]) [0, 1] (by decide) rfl
    have hKc := hK.sub (tys' := [(k1, .long)]) [0] rfl
    have hFc := va_free (wc := [(h0, .inr (10, mX10 h1 h2 h3 h4 h5 h6 v0)), (h1, .inl (k1, 10, .inr (.inl f1)))]) hD hS hA [0, 1] rfl
    refine va_calli (va_runV (As := [.long y1]) (rest := []) ⟨hx, hb, hml, hown, hG⟩ (sX10_rankAhead_1 l dC dI adK adV h0 h1 h2 h3 h4 h5 h6 k1 s.heap.size v0 f1 y1 hv0) (cwV 1 hG (zgV zw82 zw83 zw84 zw74 zw85) rfl rfl rfl (by decide +kernel) ⟨Nat.le_of_ble_eq_true rfl, Nat.le_of_ble_eq_true rfl⟩) ⟨zPc_blind, va_recv hKc hPc (ci := 10) (q0 := 0) rfl rfl, zPc_pre hPc hKc hDc hE hS hFc hZ⟩ rfl rfl hl.1 rfl (lv_room (Nat.le_of_ble_eq_true rfl)) dX10_add_15 ⟨Nat.le_of_ble_eq_true rfl, Nat.le_of_ble_eq_true rfl⟩) hS (fun q _ h => hFc q h) hFc (fun r15_ u15_ t H1 locs ht hvm hw hB hz1 hk1 hS => ?_)
    have hw : (0 ≤ r15_.toInt ∧ r15_.toInt ≤ 10) ∧ (r15_.toInt ≤ (v0 7).toInt) := hw
    obtain ⟨b_, hX15_0⟩ := hw
    obtain ⟨w15_, a15_, b15_, hP1, hK1, hD1⟩ := hB
    rw [ht] at hP1
    obtain ⟨hP, hD⟩ := va_join (wr := [(h2, .inl (k2, 10, .inl f2))]) (w1 := [(h0, .inr (10, mX10 h1 h2 h3 h4 h5 h6 v0)), (h1, .inl (k1, 10, .inr (.inl f1)))]) hP hD [0, 1] [2] rfl rfl (by decide) (by decide) hk1 hFc hP1 hD1
    have hP : va_P (dC, dI) vwCl [(h0, .inr (10, mX10 h1 h2 h3 h4 h5 h6 v0)), (h1, .inl (k1, 10, .inr (.inl f1))), (h2, .inl (k2, 10, .inl f2))] H1 := hP.sub [1, 2, 0] rfl
    have hD : va_D A [(h0, .inr (10, mX10 h1 h2 h3 h4 h5 h6 v0)), (h1, .inl (k1, 10, .inr (.inl f1))), (h2, .inl (k2, 10, .inl f2))] := hD.sub [1, 2, 0] (by decide) rfl
    generalize H1 = H at hP hS ⊢
    clear hz1
    refine lv_istore_n (lv' := [(3, .int r15_), (0, .ref h0), (1, .long y1)]) hx hb dX10_add_18 rfl hl (by decide) rfl (fun ls hl => ?_)
    refine lv_aload_n hx hb dX10_add_19 rfl (lv_at hl 1 rfl) ?_
    refine va_get (D := (dC, dI)) (ci := 10) (v := .ref h1) (C := RX10) (T := TX10) (N := 8) hx hb hG zuX10 hown hK hP 0 rfl rfl 1 (by decide) (hG _ zw81) (fun _ h9 => h9) rfl dX10_add_20 ?_
    refine lv_iload_n hx hb dX10_add_23 rfl (lv_at hl 0 rfl) ?_
    refine lv_aload_n hx hb dX10_add_24 rfl (lv_at hl 1 rfl) ?_
    refine va_get (D := (dC, dI)) (ci := 10) (v := .ref h1) (C := RX10) (T := TX10) (N := 8) hx hb hG zuX10 hown hK hP 0 rfl rfl 1 (by decide) (hG _ zw81) (fun _ h9 => h9) rfl dX10_add_25 ?_
    refine lv_iload_n hx hb dX10_add_28 rfl (lv_at hl 0 rfl) ?_
    refine lv_iconst (v := 1) hx hb dX10_add_29 (by decide) ?_
    refine lv_iadd hx hb dX10_add_30 ?_
    refine lv_topi (fun z30 e_z30 => ?_)
    have b_ := zadd rfl zk_1 e_z30 (by omega) (by omega)
    refine lv_aload_n hx hb dX10_add_31 rfl (lv_at hl 1 rfl) ?_
    refine va_get (D := (dC, dI)) (ci := 10) (v := .int (v0 7)) (C := RX10) (T := TX10) (N := 8) hx hb hG zuX10 hown hK hP 0 rfl rfl 7 (by decide) (hG _ zw80) (fun _ h9 => h9) rfl dX10_add_32 ?_
    refine lv_iload_n hx hb dX10_add_35 rfl (lv_at hl 0 rfl) ?_
    refine lv_isub hx hb dX10_add_36 ?_
    refine lv_topi (fun z36 e_z36 => ?_)
    have b_ := zsub rfl rfl e_z36 (by omega) (by omega)
    refine va_copyl (ty := .long) hx hb (by rw [hml]; exact hl.1.symm) hown (hG _ zw96) (hG _ zw97) (hG _ zw98) (hG _ zw99) hK hP hD hS 1 1 0 0 rfl rfl rfl rfl rfl (znn (by omega)) (znn (by omega)) (znn (by omega)) (zcl rfl rfl (by omega) (by omega) (by omega)) (zcl rfl rfl (by omega) (by omega) (by omega)) (fun _ _ => rfl) (Nat.le_of_ble_eq_true rfl) (Nat.le_of_ble_eq_true rfl) dX10_add_37 (fun H locs hP hD hS => ?_)
    obtain ⟨f_37, e_f_37⟩ : ∃ z : Nat → Int64, z = va_cpy f1 f1 (r15_ : Int32).toNatClampNeg (z30 : Int32).toNatClampNeg (z36 : Int32).toNatClampNeg := ⟨_, rfl⟩
    have hP : va_P (dC, dI) vwCl [(h0, .inr (10, mX10 h1 h2 h3 h4 h5 h6 v0)), (h1, .inl (k1, 10, .inr (.inl f_37))), (h2, .inl (k2, 10, .inl f2))] H := by rw [e_f_37]; exact hP
    have hD : va_D A [(h0, .inr (10, mX10 h1 h2 h3 h4 h5 h6 v0)), (h1, .inl (k1, 10, .inr (.inl f_37))), (h2, .inl (k2, 10, .inl f2))] := by rw [e_f_37]; exact hD
    refine lv_aload_n hx hb dX10_add_40 rfl (lv_at hl 1 rfl) ?_
    refine va_get (D := (dC, dI)) (ci := 10) (v := .ref h2) (C := RX10) (T := TX10) (N := 8) hx hb hG zuX10 hown hK hP 0 rfl rfl 2 (by decide) (hG _ zw86) (fun _ h9 => h9) rfl dX10_add_41 ?_
    refine lv_iload_n hx hb dX10_add_44 rfl (lv_at hl 0 rfl) ?_
    refine lv_aload_n hx hb dX10_add_45 rfl (lv_at hl 1 rfl) ?_
    refine va_get (D := (dC, dI)) (ci := 10) (v := .ref h2) (C := RX10) (T := TX10) (N := 8) hx hb hG zuX10 hown hK hP 0 rfl rfl 2 (by decide) (hG _ zw86) (fun _ h9 => h9) rfl dX10_add_46 ?_
    refine lv_iload_n hx hb dX10_add_49 rfl (lv_at hl 0 rfl) ?_
    refine lv_iconst (v := 1) hx hb dX10_add_50 (by decide) ?_
    refine lv_iadd hx hb dX10_add_51 ?_
    refine lv_topi (fun z51 e_z51 => ?_)
    have b_ := zadd rfl zk_1 e_z51 (by omega) (by omega)
    refine lv_aload_n hx hb dX10_add_52 rfl (lv_at hl 1 rfl) ?_
    refine va_get (D := (dC, dI)) (ci := 10) (v := .int (v0 7)) (C := RX10) (T := TX10) (N := 8) hx hb hG zuX10 hown hK hP 0 rfl rfl 7 (by decide) (hG _ zw80) (fun _ h9 => h9) rfl dX10_add_53 ?_
    refine lv_iload_n hx hb dX10_add_56 rfl (lv_at hl 0 rfl) ?_
    refine lv_isub hx hb dX10_add_57 ?_
    refine lv_topi (fun z57 e_z57 => ?_)
    have b_ := zsub rfl rfl e_z57 (by omega) (by omega)
    refine va_copyi (ty := .int) hx hb (by rw [hml]; exact hl.1.symm) hown (hG _ zw96) (hG _ zw97) (hG _ zw98) (hG _ zw99) hK hP hD hS 2 2 1 1 rfl rfl rfl rfl rfl (znn (by omega)) (znn (by omega)) (znn (by omega)) (zcl rfl rfl (by omega) (by omega) (by omega)) (zcl rfl rfl (by omega) (by omega) (by omega)) (fun _ _ => rfl) (Nat.le_of_ble_eq_true rfl) (Nat.le_of_ble_eq_true rfl) dX10_add_58 (fun H locs hP hD hS => ?_)
    obtain ⟨f_58, e_f_58⟩ : ∃ z : Nat → Int32, z = va_cpy f2 f2 (r15_ : Int32).toNatClampNeg (z51 : Int32).toNatClampNeg (z57 : Int32).toNatClampNeg := ⟨_, rfl⟩
    have hP : va_P (dC, dI) vwCl [(h0, .inr (10, mX10 h1 h2 h3 h4 h5 h6 v0)), (h1, .inl (k1, 10, .inr (.inl f_37))), (h2, .inl (k2, 10, .inl f_58))] H := by rw [e_f_58]; exact hP
    have hD : va_D A [(h0, .inr (10, mX10 h1 h2 h3 h4 h5 h6 v0)), (h1, .inl (k1, 10, .inr (.inl f_37))), (h2, .inl (k2, 10, .inl f_58))] := by rw [e_f_58]; exact hD
    have hf_58 : zA 0 9 f_58 := by rw [e_f_58]; exact zA_cpy hf2 hf2
    refine lv_aload_n hx hb dX10_add_61 rfl (lv_at hl 1 rfl) ?_
    refine va_get (D := (dC, dI)) (ci := 10) (v := .ref h1) (C := RX10) (T := TX10) (N := 8) hx hb hG zuX10 hown hK hP 0 rfl rfl 1 (by decide) (hG _ zw81) (fun _ h9 => h9) rfl dX10_add_62 ?_
    refine lv_iload_n hx hb dX10_add_65 rfl (lv_at hl 0 rfl) ?_
    refine lv_lload_n hx hb dX10_add_66 rfl (lv_at hl 2 rfl) ?_
    refine va_last hx hb hK hP hD hS 1 0 rfl rfl (zin_lit ⟨by omega, by omega⟩) dX10_add_67 (fun H locs hP hD hS => ?_)
    obtain ⟨f_67, e_f_67⟩ : ∃ z : Nat → Int64, z = vp_updL f_37 (r15_ : Int32).toNatClampNeg y1 := ⟨_, rfl⟩
    have hP : va_P (dC, dI) vwCl [(h0, .inr (10, mX10 h1 h2 h3 h4 h5 h6 v0)), (h1, .inl (k1, 10, .inr (.inl f_67))), (h2, .inl (k2, 10, .inl f_58))] H := by rw [e_f_67]; exact hP
    have hD : va_D A [(h0, .inr (10, mX10 h1 h2 h3 h4 h5 h6 v0)), (h1, .inl (k1, 10, .inr (.inl f_67))), (h2, .inl (k2, 10, .inl f_58))] := by rw [e_f_67]; exact hD
    refine lv_aload_n hx hb dX10_add_68 rfl (lv_at hl 1 rfl) ?_
    refine va_get (D := (dC, dI)) (ci := 10) (v := .ref h2) (C := RX10) (T := TX10) (N := 8) hx hb hG zuX10 hown hK hP 0 rfl rfl 2 (by decide) (hG _ zw86) (fun _ h9 => h9) rfl dX10_add_69 ?_
    refine lv_iload_n hx hb dX10_add_72 rfl (lv_at hl 0 rfl) ?_
    refine lv_aload_n hx hb dX10_add_73 rfl (lv_at hl 1 rfl) ?_
    refine va_get (D := (dC, dI)) (ci := 10) (v := .int (v0 7)) (C := RX10) (T := TX10) (N := 8) hx hb hG zuX10 hown hK hP 0 rfl rfl 7 (by decide) (hG _ zw80) (fun _ h9 => h9) rfl dX10_add_74 ?_
    refine va_iast hx hb hK hP hD hS 2 1 rfl rfl (zin_lit ⟨by omega, by omega⟩) dX10_add_77 (fun H locs hP hD hS => ?_)
    obtain ⟨f_77, e_f_77⟩ : ∃ z : Nat → Int32, z = upd f_58 (r15_ : Int32).toNatClampNeg (v0 7) := ⟨_, rfl⟩
    have hP : va_P (dC, dI) vwCl [(h0, .inr (10, mX10 h1 h2 h3 h4 h5 h6 v0)), (h1, .inl (k1, 10, .inr (.inl f_67))), (h2, .inl (k2, 10, .inl f_77))] H := by rw [e_f_77]; exact hP
    have hD : va_D A [(h0, .inr (10, mX10 h1 h2 h3 h4 h5 h6 v0)), (h1, .inl (k1, 10, .inr (.inl f_67))), (h2, .inl (k2, 10, .inl f_77))] := by rw [e_f_77]; exact hD
    have hf_77 : zA 0 9 f_77 := by rw [e_f_77]; exact zA_upd hf_58 (show 0 ≤ ((v0 7) : Int32).toInt from by omega) (show ((v0 7) : Int32).toInt ≤ 9 from by omega)
    refine lv_aload_n hx hb dX10_add_78 rfl (lv_at hl 1 rfl) ?_
    refine lv_dup hx hb dX10_add_79 rfl ?_
    refine va_get (D := (dC, dI)) (ci := 10) (v := .int (v0 7)) (C := RX10) (T := TX10) (N := 8) hx hb hG zuX10 hown hK hP 0 rfl rfl 7 (by decide) (hG _ zw80) (fun _ h9 => h9) rfl dX10_add_80 ?_
    refine lv_iconst (v := 1) hx hb dX10_add_83 (by decide) ?_
    refine lv_iadd hx hb dX10_add_84 ?_
    refine lv_topi (fun z84 e_z84 => ?_)
    have b_ := zadd rfl zk_1 e_z84 (by omega) (by omega)
    refine va_put (D := (dC, dI)) (ci := 10) (v := .int z84) (ty := .int) (C := RX10) (T := TX10) (N := 8) hx hb hG zuX10 tyX10 tyX10_ok nmX10 hown hK hP hD hS 0 rfl rfl 7 (by decide) (hG _ zw80) (fun _ h9 => h9) rfl (by decide +kernel) rfl rfl (Nat.le_of_ble_eq_true rfl) dX10_add_85 (fun H locs hP hD hS => ?_)
    have hP : va_P (dC, dI) vwCl [(h0, .inr (10, mX10 h1 h2 h3 h4 h5 h6 (upd v0 7 z84))), (h1, .inl (k1, 10, .inr (.inl f_67))), (h2, .inl (k2, 10, .inl f_77))] H := hP
    have hD : va_D A [(h0, .inr (10, mX10 h1 h2 h3 h4 h5 h6 (upd v0 7 z84))), (h1, .inl (k1, 10, .inr (.inl f_67))), (h2, .inl (k2, 10, .inl f_77))] := hD
    refine lv_aload_n hx hb dX10_add_88 rfl (lv_at hl 1 rfl) ?_
    refine va_get (D := (dC, dI)) (ci := 10) (v := .int z84) (C := RX10) (T := TX10) (N := 8) hx hb hG zuX10 hown hK hP 0 rfl rfl 7 (by decide) (hG _ zw80) (fun _ h9 => h9) rfl dX10_add_89 ?_
    refine lv_iconst (v := 1) hx hb dX10_add_92 (by decide) ?_
    refine lv_isub hx hb dX10_add_93 ?_
    refine lv_topi (fun z93 e_z93 => ?_)
    have b_ := zsub rfl zk_1 e_z93 (by omega) (by omega)
    refine W.widen (k := 0) (n := 0) (by decide) (by decide) ?_
    have hpost : ((-1) ≤ z93.toInt ∧ z93.toInt ≤ 9) ∧ (1 ≤ z84.toInt ∧ z84.toInt ≤ 10) := ⟨⟨by omega, by omega⟩, ⟨by omega, by omega⟩⟩
    have hP9 : va_P (dC, dI) vwCl [(h0, .inr (10, mX10 h1 h2 h3 h4 h5 h6 (upd v0 7 z84))), (h1, .inl (k1, 10, .inr (.inl f_67))), (h2, .inl (k2, 10, .inl f_77))] H := hP
    have hD9 : va_D A [(h0, .inr (10, mX10 h1 h2 h3 h4 h5 h6 (upd v0 7 z84))), (h1, .inl (k1, 10, .inr (.inl f_67))), (h2, .inl (k2, 10, .inl f_77))] := hD
    exact W.iret (v := z93) hx hb hr (fun t ht hW => ⟨⟨z93, (fun i => ([z84] : List (Int32)).getD i 0), rfl, hpost, (fun _ => 0), (fun i => ([f_77] : List (Nat → Int32)).getD i (fun _ => 0)), (fun i => ([f_67] : List (Nat → Int64)).getD i (fun _ => 0)), hf_77, by rw [ht]; exact hP9, va_K.moved hW.alike hK, hD9⟩, hS.F ht⟩) hS.2.2 dX10_add_94
  · skip
    have b_ := zF_lt rfl rfl c_
    refine lv_iconst (v := (-1)) hx hb dX10_add_11 (by decide) ?_
    refine W.widen (k := 0) (n := 0) (by decide) (by decide) ?_
    have hpost : ((-1) ≤ ((-1) : Int32).toInt ∧ ((-1) : Int32).toInt ≤ 9) ∧ (1 ≤ (v0 7).toInt ∧ (v0 7).toInt ≤ 10) := ⟨⟨by omega, by omega⟩, ⟨by omega, by omega⟩⟩
    have hP9 : va_P (dC, dI) vwCl [(h0, .inr (10, mX10 h1 h2 h3 h4 h5 h6 (upd v0 7 (v0 7)))), (h1, .inl (k1, 10, .inr (.inl f1))), (h2, .inl (k2, 10, .inl f2))] s.heap := hP
    have hD9 : va_D A [(h0, .inr (10, mX10 h1 h2 h3 h4 h5 h6 (upd v0 7 (v0 7)))), (h1, .inl (k1, 10, .inr (.inl f1))), (h2, .inl (k2, 10, .inl f2))] := hD
    exact W.iret (v := (-1)) hx hb hr (fun t ht hW => ⟨⟨(-1), (fun i => ([(v0 7)] : List (Int32)).getD i 0), rfl, hpost, (fun _ => 0), (fun i => ([f2] : List (Nat → Int32)).getD i (fun _ => 0)), (fun i => ([f1] : List (Nat → Int64)).getD i (fun _ => 0)), hf2, by rw [ht]; exact hP9, va_K.moved hW.alike hK, hD9⟩, hS.F ht⟩) hS.2.2 dX10_add_12
set_option maxHeartbeats 8000000 in
set_option maxRecDepth 100000 in
theorem sJ7_fill_53178_1 (l : Launch) (dC : Nat → ClassId) (dI : Nat → Nat → Nat) (adK adV : Nat → Nat) (h0 : Nat) (k0 : ClassId) (sz : Nat) (f0 : Nat → Int32) (x1 : Int32) (hf0 : zA (-1) 9 f0) (hx1 : (-1) ≤ x1.toInt ∧ x1.toInt ≤ 9) : Met l yJ7_fill_53178 (zw yJ7_fill_53178 cJ7_fill_53178 4 none) { frames := 0, cells := 0, slots := 0, locals := 0 } (zPc dC dI adK adV [.ref h0, .int x1] sz [(h0, .inl (k0, 10, .inl f0))] [(k0, .int)]) (va_Qv (fun (u : Nat → Int32) => True) (fun (u : Nat → Int32) (t : State) => ∃ (ww : Nat → Int64) (aa : Nat → Nat → Int32) (bb : Nat → Nat → Int64), zA (-1) 9 (aa 0) ∧ (∀ j : Nat, (j : Int) < 10 → (aa 0) j = (x1 : Int32)) ∧ va_P (dC, dI) vwCl [(h0, .inl (k0, 10, .inl (aa 0)))] t.heap ∧ va_K (dC, dI) vwCl [(k0, .int)] t ∧ va_D (va_A [(h0, .inl (k0, 10, .inl f0))] sz) [(h0, .inl (k0, 10, .inl (aa 0)))]) (va_A [(h0, .inl (k0, 10, .inl f0))] sz)) 0 0 (va_A [(h0, .inl (k0, 10, .inl f0))] sz) := by
  refine Met.ofW (cc := cJ7_fill_53178) (maxL := 4) (ret := none) (by decide) rfl ?_
  intro p e s m args below meth c s₁ B hml hv
  obtain ⟨rfl, hsz, hP, hK, hD0, hE, hZ⟩ := hv
  have hx := B.exec
  have hb := B.bytes
  have hr := B.returns
  have hG : ∀ w ∈ zG, w.before _ s = true := fun w h => atoms_spec (ws := (zw yJ7_fill_53178 cJ7_fill_53178 4 none)) B.pre w (List.mem_cons_of_mem _ h)
  have hown : s.vm.findClass RJ7 = some m.cls := findClass_of_methodNamed B.named
  have hlocks := B.notSynchronized

  subst hsz
  have hD := hD0.self (sz := s.heap.size)
  generalize hAe : va_A [(h0, .inl (k0, 10, .inl f0))] s.heap.size = A at hD hZ ⊢
  have hA : ∀ q : Nat, s.heap.size ≤ q → A q := fun q h => by rw [← hAe]; exact Or.inr h
  have hS : va_S A s.heap s.heap [] := va_S.rf
  have hl := lv_entry ([.ref h0, .int x1]) (n := 4) (Nat.le_of_ble_eq_true rfl)
  rw [lg_entry_eq]
  generalize (lg_sl ([.ref h0, .int x1]) ++ List.replicate (4 - (lg_sl ([.ref h0, .int x1])).length) Slot.unset).toArray = ls at hl ⊢
  have hl : lv_has ls 4 [(0, .ref h0), (1, .int x1)] := hl
  have b_ := zk_0
  refine lv_iconst (v := 0) hx hb dJ7_fill_53178_0 (by decide) ?_
  refine lv_istore_n (lv' := [(2, .int 0), (0, .ref h0), (1, .int x1)]) hx hb dJ7_fill_53178_1 rfl hl (by decide) rfl (fun ls hl => ?_)
  refine lv_aload_n hx hb dJ7_fill_53178_2 rfl (lv_at hl 1 rfl) ?_
  refine va_alen (v := 10) hx hb hK hP 0 0 rfl rfl (show Int32.ofNat 10 = 10 from by decide +kernel) dJ7_fill_53178_3 ?_
  refine lv_istore_n (lv' := [(3, .int 10), (2, .int 0), (0, .ref h0), (1, .int x1)]) hx hb dJ7_fill_53178_4 rfl hl (by decide) rfl (fun ls hl => ?_)
  refine zcutL (fun u5_ => (10 - (u5_ 0).toInt).toNat) (fun H locs ls u5_ w5_ a5_ b5_ => va_P (dC, dI) vwCl [(h0, .inl (k0, 10, .inl (a5_ 0)))] H ∧ va_D A [(h0, .inl (k0, 10, .inl (a5_ 0)))] ∧ va_S A s.heap H locs ∧ lv_has ls 4 [(0, .ref h0), (1, .int x1), (2, .int (u5_ 0)), (3, .int 10)] ∧ zA (-1) 9 (a5_ 0) ∧ (0 ≤ (u5_ 0).toInt ∧ (u5_ 0).toInt ≤ 10) ∧ (∀ j : Nat, (j : Int) < (u5_ 0).toInt → (a5_ 0) j = (x1 : Int32))) (fun ls u5_ w5_ => F0 m 5 ls []) 0 0 ?_ (fun hJ5 => ?_)
  · skip
    intro H locs ls u5_ w5_ a5_ b5_ hc hJ5
    obtain ⟨hP, hD, hS, hl, ha5_0, b_, hI5_0⟩ := hc
    refine lv_iload_n hx hb dJ7_fill_53178_5 rfl (lv_at hl 2 rfl) ?_
    refine lv_iload_n hx hb dJ7_fill_53178_6 rfl (lv_at hl 3 rfl) ?_
    refine lv_icmp_ge (tgt := 20) hx hb dJ7_fill_53178_7 (by decide) (fun c_ => ?_) (fun c_ => ?_)
    · skip
      have b_ := zT_ge rfl zk_10 c_
      refine W.widen (k := 0) (n := 0) (by decide) (by decide) ?_
      have hpost : True := trivial
      have hP9 : va_P (dC, dI) vwCl [(h0, .inl (k0, 10, .inl (a5_ 0)))] H := hP
      have hD9 : va_D A [(h0, .inl (k0, 10, .inl (a5_ 0)))] := hD
      have hB0 : ∀ j : Nat, (j : Int) < 10 → (a5_ 0) j = (x1 : Int32) := by intro j hj; exact hI5_0 j (by omega)
      exact W.vret hx hb hr (fun t ht hW => ⟨⟨(fun _ => 0), rfl, hpost, (fun _ => 0), (fun i => ([(a5_ 0)] : List (Nat → Int32)).getD i (fun _ => 0)), (fun _ => (fun _ => 0)), ha5_0, hB0, by rw [ht]; exact hP9, va_K.moved hW.alike hK, hD9⟩, hS.F ht⟩) hS.2.2 dJ7_fill_53178_20
    · skip
      have b_ := zF_ge rfl zk_10 c_
      refine lv_aload_n hx hb dJ7_fill_53178_10 rfl (lv_at hl 0 rfl) ?_
      refine lv_iload_n hx hb dJ7_fill_53178_11 rfl (lv_at hl 2 rfl) ?_
      refine lv_iload_n hx hb dJ7_fill_53178_12 rfl (lv_at hl 1 rfl) ?_
      refine va_iast hx hb hK hP hD hS 0 0 rfl rfl (zin_lit ⟨by omega, by omega⟩) dJ7_fill_53178_13 (fun H locs hP hD hS => ?_)
      obtain ⟨f_13, e_f_13⟩ : ∃ z : Nat → Int32, z = upd (a5_ 0) ((u5_ 0) : Int32).toNatClampNeg x1 := ⟨_, rfl⟩
      have hP : va_P (dC, dI) vwCl [(h0, .inl (k0, 10, .inl f_13))] H := by rw [e_f_13]; exact hP
      have hD : va_D A [(h0, .inl (k0, 10, .inl f_13))] := by rw [e_f_13]; exact hD
      have hf_13 : zA (-1) 9 f_13 := by rw [e_f_13]; exact zA_upd ha5_0 (show (-1) ≤ (x1 : Int32).toInt from by omega) (show (x1 : Int32).toInt ≤ 9 from by omega)
      obtain ⟨z14, e_z14⟩ : ∃ z : Int32, z = (u5_ 0) + Int32.ofInt 1 := ⟨_, rfl⟩
      have b_ := zadd (x := (u5_ 0)) (y := Int32.ofInt 1) rfl (show (Int32.ofInt 1).toInt = 1 from by decide) e_z14 (by omega) (by omega)
      refine lv_iinc (v := z14) (lv' := [(2, .int z14), (0, .ref h0), (1, .int x1), (3, .int 10)]) hx hb dJ7_fill_53178_14 hl (k := 2) rfl e_z14.symm (by decide) rfl (fun ls hl => ?_)
      refine lv_goto (tgt := 5) hx hb dJ7_fill_53178_17 (by decide) ?_
      have hc : va_P (dC, dI) vwCl [(h0, .inl (k0, 10, .inl f_13))] H ∧ va_D A [(h0, .inl (k0, 10, .inl f_13))] ∧ va_S A s.heap H locs ∧ lv_has ls 4 [(0, .ref h0), (1, .int x1), (2, .int z14), (3, .int 10)] ∧ zA (-1) 9 f_13 ∧ (0 ≤ z14.toInt ∧ z14.toInt ≤ 10) ∧ (∀ j : Nat, (j : Int) < z14.toInt → f_13 j = (x1 : Int32)) := ⟨hP, hD, hS, lv_sub hl [1, 2, 0, 3] rfl, hf_13, ⟨by omega, by omega⟩, by first | (intro j hj; omega) | (rw [e_f_13]; exact zfill (by assumption) (by omega) (by omega))⟩
      exact hJ5 H locs ls (fun i => ([z14] : List (Int32)).getD i 0) (fun _ => 0) (fun i => ([f_13] : List (Nat → Int32)).getD i (fun _ => 0)) (fun _ => (fun _ => 0)) hc (show (10 - z14.toInt).toNat < (10 - (u5_ 0).toInt).toNat from by omega)
  · skip
    have hc : va_P (dC, dI) vwCl [(h0, .inl (k0, 10, .inl f0))] s.heap ∧ va_D A [(h0, .inl (k0, 10, .inl f0))] ∧ va_S A s.heap s.heap [] ∧ lv_has ls 4 [(0, .ref h0), (1, .int x1), (2, .int 0), (3, .int 10)] ∧ zA (-1) 9 f0 ∧ (0 ≤ (0 : Int32).toInt ∧ (0 : Int32).toInt ≤ 10) ∧ (∀ j : Nat, (j : Int) < (0 : Int32).toInt → f0 j = (x1 : Int32)) := ⟨hP, hD, hS, lv_sub hl [2, 3, 1, 0] rfl, hf0, ⟨by omega, by omega⟩, by first | (intro j hj; omega) | (rw [e_f_13]; exact zfill (by assumption) (by omega) (by omega))⟩
    exact hJ5 s.heap [] ls (fun i => ([0] : List (Int32)).getD i 0) (fun _ => 0) (fun i => ([f0] : List (Nat → Int32)).getD i (fun _ => 0)) (fun _ => (fun _ => 0)) hc
set_option maxHeartbeats 8000000 in
set_option maxRecDepth 100000 in
theorem sX10_closeRanks_1 (l : Launch) (dC : Nat → ClassId) (dI : Nat → Nat → Nat) (adK adV : Nat → Nat) (h0 : Nat) (h3 : Nat) (h2 : Nat) (h1 : Nat) (h4 : Nat) (h5 : Nat) (h6 : Nat) (k3 : ClassId) (k2 : ClassId) (k1 : ClassId) (sz : Nat) (v0 : Nat → Int32) (f3 : Nat → Int32) (f2 : Nat → Int32) (f1 : Nat → Int64) (hv0 : zR rg_Words10 v0) (hf3 : zA (-1) 9 f3) (hf2 : zA 0 9 f2) : Met l yX10_closeRanks (zw yX10_closeRanks cX10_closeRanks 5 none) { frames := 1, cells := 0, slots := 0, locals := 23 } (zPc dC dI adK adV [.ref h0] sz [(h0, .inr (10, mX10 h1 h2 h3 h4 h5 h6 v0)), (h3, .inl (k3, 10, .inl f3)), (h2, .inl (k2, 10, .inl f2)), (h1, .inl (k1, 10, .inr (.inl f1)))] [(k3, .int), (k2, .int), (k1, .long)]) (va_Qv (fun (u : Nat → Int32) => (0 ≤ (u 0).toInt ∧ (u 0).toInt ≤ 10)) (fun (u : Nat → Int32) (t : State) => ∃ (ww : Nat → Int64) (aa : Nat → Nat → Int32) (bb : Nat → Nat → Int64), zA (-1) 9 (aa 0) ∧ zA 0 9 (aa 1) ∧ va_P (dC, dI) vwCl [(h0, .inr (10, mX10 h1 h2 h3 h4 h5 h6 (upd v0 7 (u 0)))), (h3, .inl (k3, 10, .inl (aa 0))), (h2, .inl (k2, 10, .inl (aa 1))), (h1, .inl (k1, 10, .inr (.inl (bb 0))))] t.heap ∧ va_K (dC, dI) vwCl [(k3, .int), (k2, .int), (k1, .long)] t ∧ va_D (va_A [(h0, .inr (10, mX10 h1 h2 h3 h4 h5 h6 v0)), (h3, .inl (k3, 10, .inl f3)), (h2, .inl (k2, 10, .inl f2)), (h1, .inl (k1, 10, .inr (.inl f1)))] sz) [(h0, .inr (10, mX10 h1 h2 h3 h4 h5 h6 (upd v0 7 (u 0)))), (h3, .inl (k3, 10, .inl (aa 0))), (h2, .inl (k2, 10, .inl (aa 1))), (h1, .inl (k1, 10, .inr (.inl (bb 0))))]) (va_A [(h0, .inr (10, mX10 h1 h2 h3 h4 h5 h6 v0)), (h3, .inl (k3, 10, .inl f3)), (h2, .inl (k2, 10, .inl f2)), (h1, .inl (k1, 10, .inr (.inl f1)))] sz)) 0 0 (va_A [(h0, .inr (10, mX10 h1 h2 h3 h4 h5 h6 v0)), (h3, .inl (k3, 10, .inl f3)), (h2, .inl (k2, 10, .inl f2)), (h1, .inl (k1, 10, .inr (.inl f1)))] sz) := by
  refine Met.ofW (cc := cX10_closeRanks) (maxL := 5) (ret := none) (by decide) rfl ?_
  intro p e s m args below meth c s₁ B hml hv
  obtain ⟨rfl, hsz, hP, hK, hD0, hE, hZ⟩ := hv
  have hx := B.exec
  have hb := B.bytes
  have hr := B.returns
  have hG : ∀ w ∈ zG, w.before _ s = true := fun w h => atoms_spec (ws := (zw yX10_closeRanks cX10_closeRanks 5 none)) B.pre w (List.mem_cons_of_mem _ h)
  have hown : s.vm.findClass RX10 = some m.cls := findClass_of_methodNamed B.named
  have hlocks := B.notSynchronized

  subst hsz
  have hD := hD0.self (sz := s.heap.size)
  generalize hAe : va_A [(h0, .inr (10, mX10 h1 h2 h3 h4 h5 h6 v0)), (h3, .inl (k3, 10, .inl f3)), (h2, .inl (k2, 10, .inl f2)), (h1, .inl (k1, 10, .inr (.inl f1)))] s.heap.size = A at hD hZ ⊢
  have hA : ∀ q : Nat, s.heap.size ≤ q → A q := fun q h => by rw [← hAe]; exact Or.inr h
  have hS : va_S A s.heap s.heap [] := va_S.rf
  have hl := lv_entry ([.ref h0]) (n := 5) (Nat.le_of_ble_eq_true rfl)
  rw [lg_entry_eq]
  generalize (lg_sl ([.ref h0]) ++ List.replicate (5 - (lg_sl ([.ref h0])).length) Slot.unset).toArray = ls at hl ⊢
  have hl : lv_has ls 5 [(0, .ref h0)] := hl
  have b_ := zk_0
  refine lv_iconst (v := 0) hx hb dX10_closeRanks_0 (by decide) ?_
  refine lv_istore_n (lv' := [(1, .int 0), (0, .ref h0)]) hx hb dX10_closeRanks_1 rfl hl (by decide) rfl (fun ls hl => ?_)
  refine lv_iconst (v := 0) hx hb dX10_closeRanks_2 (by decide) ?_
  refine lv_istore_n (lv' := [(2, .int 0), (1, .int 0), (0, .ref h0)]) hx hb dX10_closeRanks_3 rfl hl (by decide) rfl (fun ls hl => ?_)
  refine zcutL (fun u4_ => (10 - (u4_ 1).toInt).toNat) (fun H locs ls u4_ w4_ a4_ b4_ => va_P (dC, dI) vwCl [(h0, .inr (10, mX10 h1 h2 h3 h4 h5 h6 v0)), (h3, .inl (k3, 10, .inl (a4_ 0))), (h2, .inl (k2, 10, .inl f2)), (h1, .inl (k1, 10, .inr (.inl f1)))] H ∧ va_D A [(h0, .inr (10, mX10 h1 h2 h3 h4 h5 h6 v0)), (h3, .inl (k3, 10, .inl (a4_ 0))), (h2, .inl (k2, 10, .inl f2)), (h1, .inl (k1, 10, .inr (.inl f1)))] ∧ va_S A s.heap H locs ∧ lv_has ls 5 [(0, .ref h0), (1, .int (u4_ 0)), (2, .int (u4_ 1))] ∧ zA (-1) 9 (a4_ 0) ∧ (0 ≤ (u4_ 0).toInt ∧ (u4_ 0).toInt ≤ 10) ∧ (0 ≤ (u4_ 1).toInt ∧ (u4_ 1).toInt ≤ 10) ∧ ((u4_ 0).toInt ≤ (u4_ 1).toInt)) (fun ls u4_ w4_ => F0 m 4 ls []) 0 0 ?_ (fun hJ4 => ?_)
  · skip
    intro H locs ls u4_ w4_ a4_ b4_ hc hJ4
    obtain ⟨hP, hD, hS, hl, ha4_0, b_, b_, b_⟩ := hc
    refine lv_iload_n hx hb dX10_closeRanks_4 rfl (lv_at hl 2 rfl) ?_
    refine lv_aload_n hx hb dX10_closeRanks_5 rfl (lv_at hl 0 rfl) ?_
    have b_ : 0 ≤ (v0 7).toInt ∧ (v0 7).toInt ≤ 10 := hv0 7
    refine va_get (D := (dC, dI)) (ci := 10) (v := .int (v0 7)) (C := RX10) (T := TX10) (N := 8) hx hb hG zuX10 hown hK hP 0 rfl rfl 7 (by decide) (hG _ zw80) (fun _ h9 => h9) rfl dX10_closeRanks_6 ?_
    refine lv_icmp_ge (tgt := 38) hx hb dX10_closeRanks_9 (by decide) (fun c_ => ?_) (fun c_ => ?_)
    · skip
      have b_ := zT_ge rfl rfl c_
      refine lv_iconst (v := 0) hx hb dX10_closeRanks_38 (by decide) ?_
      refine lv_istore_n (lv' := [(2, .int 0), (0, .ref h0), (1, .int (u4_ 0))]) hx hb dX10_closeRanks_39 rfl hl (by decide) rfl (fun ls hl => ?_)
      refine lv_iconst (v := 0) hx hb dX10_closeRanks_40 (by decide) ?_
      refine lv_istore_n (lv' := [(3, .int 0), (2, .int 0), (0, .ref h0), (1, .int (u4_ 0))]) hx hb dX10_closeRanks_41 rfl hl (by decide) rfl (fun ls hl => ?_)
      refine zcutL (fun u42_ => (10 - (u42_ 1).toInt).toNat) (fun H locs ls u42_ w42_ a42_ b42_ => va_P (dC, dI) vwCl [(h0, .inr (10, mX10 h1 h2 h3 h4 h5 h6 v0)), (h3, .inl (k3, 10, .inl (a4_ 0))), (h2, .inl (k2, 10, .inl (a42_ 0))), (h1, .inl (k1, 10, .inr (.inl (b42_ 0))))] H ∧ va_D A [(h0, .inr (10, mX10 h1 h2 h3 h4 h5 h6 v0)), (h3, .inl (k3, 10, .inl (a4_ 0))), (h2, .inl (k2, 10, .inl (a42_ 0))), (h1, .inl (k1, 10, .inr (.inl (b42_ 0))))] ∧ va_S A s.heap H locs ∧ lv_has ls 5 [(0, .ref h0), (1, .int (u4_ 0)), (2, .int (u42_ 0)), (3, .int (u42_ 1))] ∧ zA 0 9 (a42_ 0) ∧ (0 ≤ (u42_ 0).toInt ∧ (u42_ 0).toInt ≤ 10) ∧ (0 ≤ (u42_ 1).toInt ∧ (u42_ 1).toInt ≤ 10) ∧ ((u42_ 0).toInt ≤ (u42_ 1).toInt)) (fun ls u42_ w42_ => F0 m 42 ls []) 0 0 ?_ (fun hJ42 => ?_)
      · skip
        intro H locs ls u42_ w42_ a42_ b42_ hc hJ42
        obtain ⟨hP, hD, hS, hl, ha42_0, b_, b_, b_⟩ := hc
        refine lv_iload_n hx hb dX10_closeRanks_42 rfl (lv_at hl 3 rfl) ?_
        refine lv_aload_n hx hb dX10_closeRanks_43 rfl (lv_at hl 0 rfl) ?_
        refine va_get (D := (dC, dI)) (ci := 10) (v := .int (v0 7)) (C := RX10) (T := TX10) (N := 8) hx hb hG zuX10 hown hK hP 0 rfl rfl 7 (by decide) (hG _ zw80) (fun _ h9 => h9) rfl dX10_closeRanks_44 ?_
        refine lv_icmp_ge (tgt := 98) hx hb dX10_closeRanks_47 (by decide) (fun c_ => ?_) (fun c_ => ?_)
        · skip
          have b_ := zT_ge rfl rfl c_
          refine lv_aload_n hx hb dX10_closeRanks_98 rfl (lv_at hl 0 rfl) ?_
          refine va_get (D := (dC, dI)) (ci := 10) (v := .ref h3) (C := RX10) (T := TX10) (N := 8) hx hb hG zuX10 hown hK hP 0 rfl rfl 3 (by decide) (hG _ zw100) (fun _ h9 => h9) rfl dX10_closeRanks_99 ?_
          refine lv_iconst (v := 0) hx hb dX10_closeRanks_102 (by decide) ?_
          have hPc := hP.sub (ws' := [(h3, .inl (k3, 10, .inl (a4_ 0)))]) [1] rfl
          have hDc := hD.sub (ws' := [(h3, .inl (k3, 10, .inl (a4_ 0)))]) [1] (by decide) rfl
          have hKc := hK.sub (tys' := [(k3, .int)]) [0] rfl
          have hFc := va_free (wc := [(h3, .inl (k3, 10, .inl (a4_ 0)))]) hD hS hA [1] rfl
          refine va_callv (va_runS (As := [.ref h3, .int 0]) (rest := []) ⟨hx, hb, hml, hown, hG⟩ (sJ7_fill_53178_1 l dC dI adK adV h3 k3 H.size (a4_ 0) 0 ha4_0 ⟨show ((-1) : Int) ≤ (0 : Int32).toInt from by decide, show (0 : Int32).toInt ≤ (9 : Int) from by decide⟩) (va_cwS 2 hG (zgS zw101 zw102 zw103 zw104) rfl rfl rfl (by decide +kernel) ⟨Nat.le_of_ble_eq_true rfl, Nat.le_of_ble_eq_true rfl⟩) ⟨zPc_blind, zPc_pre hPc hKc hDc hE hS hFc hZ⟩ rfl rfl hl.1 rfl (lv_room (Nat.le_of_ble_eq_true rfl)) dX10_closeRanks_103 ⟨Nat.le_of_ble_eq_true rfl, Nat.le_of_ble_eq_true rfl⟩) hS (fun q _ h => hFc q h) hFc (fun u103_ t H1 locs ht hvm hw hB hz1 hk1 hS => ?_)
          obtain ⟨w103_, a103_, b103_, ha103_0, hB103_0, hP1, hK1, hD1⟩ := hB
          have hB103_0 : ∀ j : Nat, (j : Int) < 10 → (a103_ 0) j = (0 : Int32) := hB103_0
          rw [ht] at hP1
          obtain ⟨hP, hD⟩ := va_join (wr := [(h0, .inr (10, mX10 h1 h2 h3 h4 h5 h6 v0)), (h2, .inl (k2, 10, .inl (a42_ 0))), (h1, .inl (k1, 10, .inr (.inl (b42_ 0))))]) (w1 := [(h3, .inl (k3, 10, .inl (a103_ 0)))]) hP hD [1] [0, 2, 3] rfl rfl (by decide) (by decide) hk1 hFc hP1 hD1
          have hP : va_P (dC, dI) vwCl [(h0, .inr (10, mX10 h1 h2 h3 h4 h5 h6 v0)), (h3, .inl (k3, 10, .inl (a103_ 0))), (h2, .inl (k2, 10, .inl (a42_ 0))), (h1, .inl (k1, 10, .inr (.inl (b42_ 0))))] H1 := hP.sub [0, 3, 1, 2] rfl
          have hD : va_D A [(h0, .inr (10, mX10 h1 h2 h3 h4 h5 h6 v0)), (h3, .inl (k3, 10, .inl (a103_ 0))), (h2, .inl (k2, 10, .inl (a42_ 0))), (h1, .inl (k1, 10, .inr (.inl (b42_ 0))))] := hD.sub [0, 3, 1, 2] (by decide) rfl
          generalize H1 = H at hP hS ⊢
          clear hz1
          refine lv_aload_n hx hb dX10_closeRanks_106 rfl (lv_at hl 0 rfl) ?_
          refine lv_iload_n hx hb dX10_closeRanks_107 rfl (lv_at hl 1 rfl) ?_
          refine va_put (D := (dC, dI)) (ci := 10) (v := .int (u4_ 0)) (ty := .int) (C := RX10) (T := TX10) (N := 8) hx hb hG zuX10 tyX10 tyX10_ok nmX10 hown hK hP hD hS 0 rfl rfl 7 (by decide) (hG _ zw80) (fun _ h9 => h9) rfl (by decide +kernel) rfl rfl (Nat.le_of_ble_eq_true rfl) dX10_closeRanks_108 (fun H locs hP hD hS => ?_)
          have hP : va_P (dC, dI) vwCl [(h0, .inr (10, mX10 h1 h2 h3 h4 h5 h6 (upd v0 7 (u4_ 0)))), (h3, .inl (k3, 10, .inl (a103_ 0))), (h2, .inl (k2, 10, .inl (a42_ 0))), (h1, .inl (k1, 10, .inr (.inl (b42_ 0))))] H := hP
          have hD : va_D A [(h0, .inr (10, mX10 h1 h2 h3 h4 h5 h6 (upd v0 7 (u4_ 0)))), (h3, .inl (k3, 10, .inl (a103_ 0))), (h2, .inl (k2, 10, .inl (a42_ 0))), (h1, .inl (k1, 10, .inr (.inl (b42_ 0))))] := hD
          refine W.widen (k := 0) (n := 0) (by decide) (by decide) ?_
          have hpost : (0 ≤ (u4_ 0).toInt ∧ (u4_ 0).toInt ≤ 10) := ⟨by omega, by omega⟩
          have hP9 : va_P (dC, dI) vwCl [(h0, .inr (10, mX10 h1 h2 h3 h4 h5 h6 (upd v0 7 (u4_ 0)))), (h3, .inl (k3, 10, .inl (a103_ 0))), (h2, .inl (k2, 10, .inl (a42_ 0))), (h1, .inl (k1, 10, .inr (.inl (b42_ 0))))] H := hP
          have hD9 : va_D A [(h0, .inr (10, mX10 h1 h2 h3 h4 h5 h6 (upd v0 7 (u4_ 0)))), (h3, .inl (k3, 10, .inl (a103_ 0))), (h2, .inl (k2, 10, .inl (a42_ 0))), (h1, .inl (k1, 10, .inr (.inl (b42_ 0))))] := hD
          exact W.vret hx hb hr (fun t ht hW => ⟨⟨(fun i => ([(u4_ 0)] : List (Int32)).getD i 0), rfl, hpost, (fun _ => 0), (fun i => ([(a103_ 0), (a42_ 0)] : List (Nat → Int32)).getD i (fun _ => 0)), (fun i => ([(b42_ 0)] : List (Nat → Int64)).getD i (fun _ => 0)), ha103_0, ha42_0, by rw [ht]; exact hP9, va_K.moved hW.alike hK, hD9⟩, hS.F ht⟩) hS.2.2 dX10_closeRanks_111
        · skip
          have b_ := zF_ge rfl rfl c_
          refine lv_aload_n hx hb dX10_closeRanks_50 rfl (lv_at hl 0 rfl) ?_
          refine va_get (D := (dC, dI)) (ci := 10) (v := .ref h3) (C := RX10) (T := TX10) (N := 8) hx hb hG zuX10 hown hK hP 0 rfl rfl 3 (by decide) (hG _ zw100) (fun _ h9 => h9) rfl dX10_closeRanks_51 ?_
          refine lv_aload_n hx hb dX10_closeRanks_54 rfl (lv_at hl 0 rfl) ?_
          refine va_get (D := (dC, dI)) (ci := 10) (v := .ref h2) (C := RX10) (T := TX10) (N := 8) hx hb hG zuX10 hown hK hP 0 rfl rfl 2 (by decide) (hG _ zw86) (fun _ h9 => h9) rfl dX10_closeRanks_55 ?_
          refine lv_iload_n hx hb dX10_closeRanks_58 rfl (lv_at hl 3 rfl) ?_
          refine va_iald hx hb hK hP 2 1 rfl rfl (zin_lit ⟨by omega, by omega⟩) dX10_closeRanks_59 ?_
          refine lv_topi (fun z59 e_z59 => ?_)
          have b_ : 0 ≤ z59.toInt ∧ z59.toInt ≤ 9 := by rw [e_z59]; exact ha42_0 _
          refine va_iald hx hb hK hP 1 0 rfl rfl (zin_lit ⟨by omega, by omega⟩) dX10_closeRanks_60 ?_
          refine lv_topi (fun z60 e_z60 => ?_)
          have b_ : (-1) ≤ z60.toInt ∧ z60.toInt ≤ 9 := by rw [e_z60]; exact ha4_0 _
          refine lv_istore (lv' := [(4, .int z60), (0, .ref h0), (1, .int (u4_ 0)), (2, .int (u42_ 0)), (3, .int (u42_ 1))]) hx hb dX10_closeRanks_61 hl (by decide) rfl (fun ls hl => ?_)
          refine lv_iload hx hb dX10_closeRanks_63 (lv_at hl 0 rfl) ?_
          refine lv_iconst (v := (-1)) hx hb dX10_closeRanks_65 (by decide) ?_
          refine lv_icmp_eq (tgt := 92) hx hb dX10_closeRanks_66 (by decide) (fun c_ => ?_) (fun c_ => ?_)
          · skip
            have b_ := zT_eq rfl zk_m1 c_
            obtain ⟨z92, e_z92⟩ : ∃ z : Int32, z = (u42_ 1) + Int32.ofInt 1 := ⟨_, rfl⟩
            have b_ := zadd (x := (u42_ 1)) (y := Int32.ofInt 1) rfl (show (Int32.ofInt 1).toInt = 1 from by decide) e_z92 (by omega) (by omega)
            refine lv_iinc (v := z92) (lv' := [(3, .int z92), (4, .int z60), (0, .ref h0), (1, .int (u4_ 0)), (2, .int (u42_ 0))]) hx hb dX10_closeRanks_92 hl (k := 4) rfl e_z92.symm (by decide) rfl (fun ls hl => ?_)
            refine lv_goto (tgt := 42) hx hb dX10_closeRanks_95 (by decide) ?_
            have hc : va_P (dC, dI) vwCl [(h0, .inr (10, mX10 h1 h2 h3 h4 h5 h6 v0)), (h3, .inl (k3, 10, .inl (a4_ 0))), (h2, .inl (k2, 10, .inl (a42_ 0))), (h1, .inl (k1, 10, .inr (.inl (b42_ 0))))] H ∧ va_D A [(h0, .inr (10, mX10 h1 h2 h3 h4 h5 h6 v0)), (h3, .inl (k3, 10, .inl (a4_ 0))), (h2, .inl (k2, 10, .inl (a42_ 0))), (h1, .inl (k1, 10, .inr (.inl (b42_ 0))))] ∧ va_S A s.heap H locs ∧ lv_has ls 5 [(0, .ref h0), (1, .int (u4_ 0)), (2, .int (u42_ 0)), (3, .int z92)] ∧ zA 0 9 (a42_ 0) ∧ (0 ≤ (u42_ 0).toInt ∧ (u42_ 0).toInt ≤ 10) ∧ (0 ≤ z92.toInt ∧ z92.toInt ≤ 10) ∧ ((u42_ 0).toInt ≤ z92.toInt) := ⟨hP, hD, hS, lv_sub hl [2, 3, 4, 0] rfl, ha42_0, ⟨by omega, by omega⟩, ⟨by omega, by omega⟩, by omega⟩
            exact hJ42 H locs ls (fun i => ([(u42_ 0), z92] : List (Int32)).getD i 0) (fun _ => 0) (fun i => ([(a42_ 0)] : List (Nat → Int32)).getD i (fun _ => 0)) (fun i => ([(b42_ 0)] : List (Nat → Int64)).getD i (fun _ => 0)) hc (show (10 - z92.toInt).toNat < (10 - (u42_ 1).toInt).toNat from by omega)
          · skip
            have b_ := zF_eq rfl zk_m1 c_
            refine lv_aload_n hx hb dX10_closeRanks_69 rfl (lv_at hl 1 rfl) ?_
            refine va_get (D := (dC, dI)) (ci := 10) (v := .ref h1) (C := RX10) (T := TX10) (N := 8) hx hb hG zuX10 hown hK hP 0 rfl rfl 1 (by decide) (hG _ zw81) (fun _ h9 => h9) rfl dX10_closeRanks_70 ?_
            refine lv_iload_n hx hb dX10_closeRanks_73 rfl (lv_at hl 3 rfl) ?_
            refine lv_aload_n hx hb dX10_closeRanks_74 rfl (lv_at hl 1 rfl) ?_
            refine va_get (D := (dC, dI)) (ci := 10) (v := .ref h1) (C := RX10) (T := TX10) (N := 8) hx hb hG zuX10 hown hK hP 0 rfl rfl 1 (by decide) (hG _ zw81) (fun _ h9 => h9) rfl dX10_closeRanks_75 ?_
            refine lv_iload_n hx hb dX10_closeRanks_78 rfl (lv_at hl 4 rfl) ?_
            refine va_lald hx hb hK hP 3 2 rfl rfl (zin_lit ⟨by omega, by omega⟩) dX10_closeRanks_79 ?_
            refine lv_topl (fun y_79 e_y_79 => ?_)
            refine va_last hx hb hK hP hD hS 3 2 rfl rfl (zin_lit ⟨by omega, by omega⟩) dX10_closeRanks_80 (fun H locs hP hD hS => ?_)
            obtain ⟨f_80, e_f_80⟩ : ∃ z : Nat → Int64, z = vp_updL (b42_ 0) ((u42_ 0) : Int32).toNatClampNeg y_79 := ⟨_, rfl⟩
            have hP : va_P (dC, dI) vwCl [(h0, .inr (10, mX10 h1 h2 h3 h4 h5 h6 v0)), (h3, .inl (k3, 10, .inl (a4_ 0))), (h2, .inl (k2, 10, .inl (a42_ 0))), (h1, .inl (k1, 10, .inr (.inl f_80)))] H := by rw [e_f_80]; exact hP
            have hD : va_D A [(h0, .inr (10, mX10 h1 h2 h3 h4 h5 h6 v0)), (h3, .inl (k3, 10, .inl (a4_ 0))), (h2, .inl (k2, 10, .inl (a42_ 0))), (h1, .inl (k1, 10, .inr (.inl f_80)))] := by rw [e_f_80]; exact hD
            refine lv_aload_n hx hb dX10_closeRanks_81 rfl (lv_at hl 1 rfl) ?_
            refine va_get (D := (dC, dI)) (ci := 10) (v := .ref h2) (C := RX10) (T := TX10) (N := 8) hx hb hG zuX10 hown hK hP 0 rfl rfl 2 (by decide) (hG _ zw86) (fun _ h9 => h9) rfl dX10_closeRanks_82 ?_
            refine lv_iload_n hx hb dX10_closeRanks_85 rfl (lv_at hl 3 rfl) ?_
            refine lv_iload hx hb dX10_closeRanks_86 (lv_at hl 0 rfl) ?_
            refine va_iast hx hb hK hP hD hS 2 1 rfl rfl (zin_lit ⟨by omega, by omega⟩) dX10_closeRanks_88 (fun H locs hP hD hS => ?_)
            obtain ⟨f_88, e_f_88⟩ : ∃ z : Nat → Int32, z = upd (a42_ 0) ((u42_ 0) : Int32).toNatClampNeg z60 := ⟨_, rfl⟩
            have hP : va_P (dC, dI) vwCl [(h0, .inr (10, mX10 h1 h2 h3 h4 h5 h6 v0)), (h3, .inl (k3, 10, .inl (a4_ 0))), (h2, .inl (k2, 10, .inl f_88)), (h1, .inl (k1, 10, .inr (.inl f_80)))] H := by rw [e_f_88]; exact hP
            have hD : va_D A [(h0, .inr (10, mX10 h1 h2 h3 h4 h5 h6 v0)), (h3, .inl (k3, 10, .inl (a4_ 0))), (h2, .inl (k2, 10, .inl f_88)), (h1, .inl (k1, 10, .inr (.inl f_80)))] := by rw [e_f_88]; exact hD
            have hf_88 : zA 0 9 f_88 := by rw [e_f_88]; exact zA_upd ha42_0 (show 0 ≤ (z60 : Int32).toInt from by omega) (show (z60 : Int32).toInt ≤ 9 from by omega)
            obtain ⟨z89, e_z89⟩ : ∃ z : Int32, z = (u42_ 0) + Int32.ofInt 1 := ⟨_, rfl⟩
            have b_ := zadd (x := (u42_ 0)) (y := Int32.ofInt 1) rfl (show (Int32.ofInt 1).toInt = 1 from by decide) e_z89 (by omega) (by omega)
            refine lv_iinc (v := z89) (lv' := [(2, .int z89), (4, .int z60), (0, .ref h0), (1, .int (u4_ 0)), (3, .int (u42_ 1))]) hx hb dX10_closeRanks_89 hl (k := 3) rfl e_z89.symm (by decide) rfl (fun ls hl => ?_)
            obtain ⟨z92, e_z92⟩ : ∃ z : Int32, z = (u42_ 1) + Int32.ofInt 1 := ⟨_, rfl⟩
            have b_ := zadd (x := (u42_ 1)) (y := Int32.ofInt 1) rfl (show (Int32.ofInt 1).toInt = 1 from by decide) e_z92 (by omega) (by omega)
            refine lv_iinc (v := z92) (lv' := [(3, .int z92), (2, .int z89), (4, .int z60), (0, .ref h0), (1, .int (u4_ 0))]) hx hb dX10_closeRanks_92 hl (k := 4) rfl e_z92.symm (by decide) rfl (fun ls hl => ?_)
            refine lv_goto (tgt := 42) hx hb dX10_closeRanks_95 (by decide) ?_
            have hc : va_P (dC, dI) vwCl [(h0, .inr (10, mX10 h1 h2 h3 h4 h5 h6 v0)), (h3, .inl (k3, 10, .inl (a4_ 0))), (h2, .inl (k2, 10, .inl f_88)), (h1, .inl (k1, 10, .inr (.inl f_80)))] H ∧ va_D A [(h0, .inr (10, mX10 h1 h2 h3 h4 h5 h6 v0)), (h3, .inl (k3, 10, .inl (a4_ 0))), (h2, .inl (k2, 10, .inl f_88)), (h1, .inl (k1, 10, .inr (.inl f_80)))] ∧ va_S A s.heap H locs ∧ lv_has ls 5 [(0, .ref h0), (1, .int (u4_ 0)), (2, .int z89), (3, .int z92)] ∧ zA 0 9 f_88 ∧ (0 ≤ z89.toInt ∧ z89.toInt ≤ 10) ∧ (0 ≤ z92.toInt ∧ z92.toInt ≤ 10) ∧ (z89.toInt ≤ z92.toInt) := ⟨hP, hD, hS, lv_sub hl [3, 4, 1, 0] rfl, hf_88, ⟨by omega, by omega⟩, ⟨by omega, by omega⟩, by omega⟩
            exact hJ42 H locs ls (fun i => ([z89, z92] : List (Int32)).getD i 0) (fun _ => 0) (fun i => ([f_88] : List (Nat → Int32)).getD i (fun _ => 0)) (fun i => ([f_80] : List (Nat → Int64)).getD i (fun _ => 0)) hc (show (10 - z92.toInt).toNat < (10 - (u42_ 1).toInt).toNat from by omega)
      · skip
        have hc : va_P (dC, dI) vwCl [(h0, .inr (10, mX10 h1 h2 h3 h4 h5 h6 v0)), (h3, .inl (k3, 10, .inl (a4_ 0))), (h2, .inl (k2, 10, .inl f2)), (h1, .inl (k1, 10, .inr (.inl f1)))] H ∧ va_D A [(h0, .inr (10, mX10 h1 h2 h3 h4 h5 h6 v0)), (h3, .inl (k3, 10, .inl (a4_ 0))), (h2, .inl (k2, 10, .inl f2)), (h1, .inl (k1, 10, .inr (.inl f1)))] ∧ va_S A s.heap H locs ∧ lv_has ls 5 [(0, .ref h0), (1, .int (u4_ 0)), (2, .int 0), (3, .int 0)] ∧ zA 0 9 f2 ∧ (0 ≤ (0 : Int32).toInt ∧ (0 : Int32).toInt ≤ 10) ∧ (0 ≤ (0 : Int32).toInt ∧ (0 : Int32).toInt ≤ 10) ∧ ((0 : Int32).toInt ≤ (0 : Int32).toInt) := ⟨hP, hD, hS, lv_sub hl [2, 3, 1, 0] rfl, hf2, ⟨by omega, by omega⟩, ⟨by omega, by omega⟩, by omega⟩
        exact hJ42 H locs ls (fun i => ([0, 0] : List (Int32)).getD i 0) (fun _ => 0) (fun i => ([f2] : List (Nat → Int32)).getD i (fun _ => 0)) (fun i => ([f1] : List (Nat → Int64)).getD i (fun _ => 0)) hc
    · skip
      have b_ := zF_ge rfl rfl c_
      refine lv_aload_n hx hb dX10_closeRanks_12 rfl (lv_at hl 0 rfl) ?_
      refine va_get (D := (dC, dI)) (ci := 10) (v := .ref h3) (C := RX10) (T := TX10) (N := 8) hx hb hG zuX10 hown hK hP 0 rfl rfl 3 (by decide) (hG _ zw100) (fun _ h9 => h9) rfl dX10_closeRanks_13 ?_
      refine lv_iload_n hx hb dX10_closeRanks_16 rfl (lv_at hl 2 rfl) ?_
      refine va_iald hx hb hK hP 1 0 rfl rfl (zin_lit ⟨by omega, by omega⟩) dX10_closeRanks_17 ?_
      refine lv_topi (fun z17 e_z17 => ?_)
      have b_ : (-1) ≤ z17.toInt ∧ z17.toInt ≤ 9 := by rw [e_z17]; exact ha4_0 _
      refine lv_iconst (v := (-1)) hx hb dX10_closeRanks_18 (by decide) ?_
      refine lv_icmp_eq (tgt := 32) hx hb dX10_closeRanks_19 (by decide) (fun c_ => ?_) (fun c_ => ?_)
      · skip
        have b_ := zT_eq rfl zk_m1 c_
        obtain ⟨z32, e_z32⟩ : ∃ z : Int32, z = (u4_ 1) + Int32.ofInt 1 := ⟨_, rfl⟩
        have b_ := zadd (x := (u4_ 1)) (y := Int32.ofInt 1) rfl (show (Int32.ofInt 1).toInt = 1 from by decide) e_z32 (by omega) (by omega)
        refine lv_iinc (v := z32) (lv' := [(2, .int z32), (0, .ref h0), (1, .int (u4_ 0))]) hx hb dX10_closeRanks_32 hl (k := 2) rfl e_z32.symm (by decide) rfl (fun ls hl => ?_)
        refine lv_goto (tgt := 4) hx hb dX10_closeRanks_35 (by decide) ?_
        have hc : va_P (dC, dI) vwCl [(h0, .inr (10, mX10 h1 h2 h3 h4 h5 h6 v0)), (h3, .inl (k3, 10, .inl (a4_ 0))), (h2, .inl (k2, 10, .inl f2)), (h1, .inl (k1, 10, .inr (.inl f1)))] H ∧ va_D A [(h0, .inr (10, mX10 h1 h2 h3 h4 h5 h6 v0)), (h3, .inl (k3, 10, .inl (a4_ 0))), (h2, .inl (k2, 10, .inl f2)), (h1, .inl (k1, 10, .inr (.inl f1)))] ∧ va_S A s.heap H locs ∧ lv_has ls 5 [(0, .ref h0), (1, .int (u4_ 0)), (2, .int z32)] ∧ zA (-1) 9 (a4_ 0) ∧ (0 ≤ (u4_ 0).toInt ∧ (u4_ 0).toInt ≤ 10) ∧ (0 ≤ z32.toInt ∧ z32.toInt ≤ 10) ∧ ((u4_ 0).toInt ≤ z32.toInt) := ⟨hP, hD, hS, lv_sub hl [1, 2, 0] rfl, ha4_0, ⟨by omega, by omega⟩, ⟨by omega, by omega⟩, by omega⟩
        exact hJ4 H locs ls (fun i => ([(u4_ 0), z32] : List (Int32)).getD i 0) (fun _ => 0) (fun i => ([(a4_ 0)] : List (Nat → Int32)).getD i (fun _ => 0)) (fun _ => (fun _ => 0)) hc (show (10 - z32.toInt).toNat < (10 - (u4_ 1).toInt).toNat from by omega)
      · skip
        have b_ := zF_eq rfl zk_m1 c_
        refine lv_aload_n hx hb dX10_closeRanks_22 rfl (lv_at hl 0 rfl) ?_
        refine va_get (D := (dC, dI)) (ci := 10) (v := .ref h3) (C := RX10) (T := TX10) (N := 8) hx hb hG zuX10 hown hK hP 0 rfl rfl 3 (by decide) (hG _ zw100) (fun _ h9 => h9) rfl dX10_closeRanks_23 ?_
        refine lv_iload_n hx hb dX10_closeRanks_26 rfl (lv_at hl 2 rfl) ?_
        refine lv_iload_n hx hb dX10_closeRanks_27 rfl (lv_at hl 1 rfl) ?_
        refine va_iast hx hb hK hP hD hS 1 0 rfl rfl (zin_lit ⟨by omega, by omega⟩) dX10_closeRanks_28 (fun H locs hP hD hS => ?_)
        obtain ⟨f_28, e_f_28⟩ : ∃ z : Nat → Int32, z = upd (a4_ 0) ((u4_ 1) : Int32).toNatClampNeg (u4_ 0) := ⟨_, rfl⟩
        have hP : va_P (dC, dI) vwCl [(h0, .inr (10, mX10 h1 h2 h3 h4 h5 h6 v0)), (h3, .inl (k3, 10, .inl f_28)), (h2, .inl (k2, 10, .inl f2)), (h1, .inl (k1, 10, .inr (.inl f1)))] H := by rw [e_f_28]; exact hP
        have hD : va_D A [(h0, .inr (10, mX10 h1 h2 h3 h4 h5 h6 v0)), (h3, .inl (k3, 10, .inl f_28)), (h2, .inl (k2, 10, .inl f2)), (h1, .inl (k1, 10, .inr (.inl f1)))] := by rw [e_f_28]; exact hD
        have hf_28 : zA (-1) 9 f_28 := by rw [e_f_28]; exact zA_upd ha4_0 (show (-1) ≤ ((u4_ 0) : Int32).toInt from by omega) (show ((u4_ 0) : Int32).toInt ≤ 9 from by omega)
        obtain ⟨z29, e_z29⟩ : ∃ z : Int32, z = (u4_ 0) + Int32.ofInt 1 := ⟨_, rfl⟩
        have b_ := zadd (x := (u4_ 0)) (y := Int32.ofInt 1) rfl (show (Int32.ofInt 1).toInt = 1 from by decide) e_z29 (by omega) (by omega)
        refine lv_iinc (v := z29) (lv' := [(1, .int z29), (0, .ref h0), (2, .int (u4_ 1))]) hx hb dX10_closeRanks_29 hl (k := 1) rfl e_z29.symm (by decide) rfl (fun ls hl => ?_)
        obtain ⟨z32, e_z32⟩ : ∃ z : Int32, z = (u4_ 1) + Int32.ofInt 1 := ⟨_, rfl⟩
        have b_ := zadd (x := (u4_ 1)) (y := Int32.ofInt 1) rfl (show (Int32.ofInt 1).toInt = 1 from by decide) e_z32 (by omega) (by omega)
        refine lv_iinc (v := z32) (lv' := [(2, .int z32), (1, .int z29), (0, .ref h0)]) hx hb dX10_closeRanks_32 hl (k := 2) rfl e_z32.symm (by decide) rfl (fun ls hl => ?_)
        refine lv_goto (tgt := 4) hx hb dX10_closeRanks_35 (by decide) ?_
        have hc : va_P (dC, dI) vwCl [(h0, .inr (10, mX10 h1 h2 h3 h4 h5 h6 v0)), (h3, .inl (k3, 10, .inl f_28)), (h2, .inl (k2, 10, .inl f2)), (h1, .inl (k1, 10, .inr (.inl f1)))] H ∧ va_D A [(h0, .inr (10, mX10 h1 h2 h3 h4 h5 h6 v0)), (h3, .inl (k3, 10, .inl f_28)), (h2, .inl (k2, 10, .inl f2)), (h1, .inl (k1, 10, .inr (.inl f1)))] ∧ va_S A s.heap H locs ∧ lv_has ls 5 [(0, .ref h0), (1, .int z29), (2, .int z32)] ∧ zA (-1) 9 f_28 ∧ (0 ≤ z29.toInt ∧ z29.toInt ≤ 10) ∧ (0 ≤ z32.toInt ∧ z32.toInt ≤ 10) ∧ (z29.toInt ≤ z32.toInt) := ⟨hP, hD, hS, lv_sub hl [2, 1, 0] rfl, hf_28, ⟨by omega, by omega⟩, ⟨by omega, by omega⟩, by omega⟩
        exact hJ4 H locs ls (fun i => ([z29, z32] : List (Int32)).getD i 0) (fun _ => 0) (fun i => ([f_28] : List (Nat → Int32)).getD i (fun _ => 0)) (fun _ => (fun _ => 0)) hc (show (10 - z32.toInt).toNat < (10 - (u4_ 1).toInt).toNat from by omega)
  · skip
    have hc : va_P (dC, dI) vwCl [(h0, .inr (10, mX10 h1 h2 h3 h4 h5 h6 v0)), (h3, .inl (k3, 10, .inl f3)), (h2, .inl (k2, 10, .inl f2)), (h1, .inl (k1, 10, .inr (.inl f1)))] s.heap ∧ va_D A [(h0, .inr (10, mX10 h1 h2 h3 h4 h5 h6 v0)), (h3, .inl (k3, 10, .inl f3)), (h2, .inl (k2, 10, .inl f2)), (h1, .inl (k1, 10, .inr (.inl f1)))] ∧ va_S A s.heap s.heap [] ∧ lv_has ls 5 [(0, .ref h0), (1, .int 0), (2, .int 0)] ∧ zA (-1) 9 f3 ∧ (0 ≤ (0 : Int32).toInt ∧ (0 : Int32).toInt ≤ 10) ∧ (0 ≤ (0 : Int32).toInt ∧ (0 : Int32).toInt ≤ 10) ∧ ((0 : Int32).toInt ≤ (0 : Int32).toInt) := ⟨hP, hD, hS, lv_sub hl [2, 1, 0] rfl, hf3, ⟨by omega, by omega⟩, ⟨by omega, by omega⟩, by omega⟩
    exact hJ4 s.heap [] ls (fun i => ([0, 0] : List (Int32)).getD i 0) (fun _ => 0) (fun i => ([f3] : List (Nat → Int32)).getD i (fun _ => 0)) (fun _ => (fun _ => 0)) hc
set_option maxHeartbeats 8000000 in
set_option maxRecDepth 100000 in
theorem sX10_strike_1 (l : Launch) (dC : Nat → ClassId) (dI : Nat → Nat → Nat) (adK adV : Nat → Nat) (h0 : Nat) (h3 : Nat) (h1 : Nat) (h2 : Nat) (h4 : Nat) (h5 : Nat) (h6 : Nat) (k3 : ClassId) (sz : Nat) (v0 : Nat → Int32) (f3 : Nat → Int32) (x1 : Int32) (hv0 : zR rg_Words10 v0) (hf3 : zA (-1) 9 f3) : Met l yX10_strike (zw yX10_strike cX10_strike 2 none) { frames := 0, cells := 0, slots := 0, locals := 0 } (zPc dC dI adK adV [.ref h0, .int x1] sz [(h0, .inr (10, mX10 h1 h2 h3 h4 h5 h6 v0)), (h3, .inl (k3, 10, .inl f3))] [(k3, .int)]) (va_Qv (fun (u : Nat → Int32) => True) (fun (u : Nat → Int32) (t : State) => ∃ (ww : Nat → Int64) (aa : Nat → Nat → Int32) (bb : Nat → Nat → Int64), zA (-1) 9 (aa 0) ∧ va_P (dC, dI) vwCl [(h0, .inr (10, mX10 h1 h2 h3 h4 h5 h6 v0)), (h3, .inl (k3, 10, .inl (aa 0)))] t.heap ∧ va_K (dC, dI) vwCl [(k3, .int)] t ∧ va_D (va_A [(h0, .inr (10, mX10 h1 h2 h3 h4 h5 h6 v0)), (h3, .inl (k3, 10, .inl f3))] sz) [(h0, .inr (10, mX10 h1 h2 h3 h4 h5 h6 v0)), (h3, .inl (k3, 10, .inl (aa 0)))]) (va_A [(h0, .inr (10, mX10 h1 h2 h3 h4 h5 h6 v0)), (h3, .inl (k3, 10, .inl f3))] sz)) 0 0 (va_A [(h0, .inr (10, mX10 h1 h2 h3 h4 h5 h6 v0)), (h3, .inl (k3, 10, .inl f3))] sz) := by
  refine Met.ofW (cc := cX10_strike) (maxL := 2) (ret := none) (by decide) rfl ?_
  intro p e s m args below meth c s₁ B hml hv
  obtain ⟨rfl, hsz, hP, hK, hD0, hE, hZ⟩ := hv
  have hx := B.exec
  have hb := B.bytes
  have hr := B.returns
  have hG : ∀ w ∈ zG, w.before _ s = true := fun w h => atoms_spec (ws := (zw yX10_strike cX10_strike 2 none)) B.pre w (List.mem_cons_of_mem _ h)
  have hown : s.vm.findClass RX10 = some m.cls := findClass_of_methodNamed B.named
  have hlocks := B.notSynchronized

  subst hsz
  have hD := hD0.self (sz := s.heap.size)
  generalize hAe : va_A [(h0, .inr (10, mX10 h1 h2 h3 h4 h5 h6 v0)), (h3, .inl (k3, 10, .inl f3))] s.heap.size = A at hD hZ ⊢
  have hA : ∀ q : Nat, s.heap.size ≤ q → A q := fun q h => by rw [← hAe]; exact Or.inr h
  have hS : va_S A s.heap s.heap [] := va_S.rf
  have hl := lv_entry ([.ref h0, .int x1]) (n := 2) (Nat.le_of_ble_eq_true rfl)
  rw [lg_entry_eq]
  generalize (lg_sl ([.ref h0, .int x1]) ++ List.replicate (2 - (lg_sl ([.ref h0, .int x1])).length) Slot.unset).toArray = ls at hl ⊢
  have hl : lv_has ls 2 [(0, .ref h0), (1, .int x1)] := hl
  refine lv_iload_n hx hb dX10_strike_0 rfl (lv_at hl 1 rfl) ?_
  have b_ : -2147483648 ≤ x1.toInt ∧ x1.toInt ≤ 2147483647 := ⟨zlo _, zhi _⟩
  refine lv_if_lt (tgt := 19) hx hb dX10_strike_1 (by decide) (fun c_ => ?_) (fun c_ => ?_)
  · skip
    have b_ := zT_lt rfl zk_0 c_
    refine W.widen (k := 0) (n := 0) (by decide) (by decide) ?_
    have hpost : True := trivial
    have hP9 : va_P (dC, dI) vwCl [(h0, .inr (10, mX10 h1 h2 h3 h4 h5 h6 v0)), (h3, .inl (k3, 10, .inl f3))] s.heap := hP
    have hD9 : va_D A [(h0, .inr (10, mX10 h1 h2 h3 h4 h5 h6 v0)), (h3, .inl (k3, 10, .inl f3))] := hD
    exact W.vret hx hb hr (fun t ht hW => ⟨⟨(fun _ => 0), rfl, hpost, (fun _ => 0), (fun i => ([f3] : List (Nat → Int32)).getD i (fun _ => 0)), (fun _ => (fun _ => 0)), hf3, by rw [ht]; exact hP9, va_K.moved hW.alike hK, hD9⟩, hS.F ht⟩) hS.2.2 dX10_strike_19
  · skip
    have b_ := zF_lt rfl zk_0 c_
    refine lv_iload_n hx hb dX10_strike_4 rfl (lv_at hl 1 rfl) ?_
    refine lv_aload_n hx hb dX10_strike_5 rfl (lv_at hl 0 rfl) ?_
    have b_ : 0 ≤ (v0 7).toInt ∧ (v0 7).toInt ≤ 10 := hv0 7
    refine va_get (D := (dC, dI)) (ci := 10) (v := .int (v0 7)) (C := RX10) (T := TX10) (N := 8) hx hb hG zuX10 hown hK hP 0 rfl rfl 7 (by decide) (hG _ zw80) (fun _ h9 => h9) rfl dX10_strike_6 ?_
    refine lv_icmp_ge (tgt := 19) hx hb dX10_strike_9 (by decide) (fun c_ => ?_) (fun c_ => ?_)
    · skip
      have b_ := zT_ge rfl rfl c_
      refine W.widen (k := 0) (n := 0) (by decide) (by decide) ?_
      have hpost : True := trivial
      have hP9 : va_P (dC, dI) vwCl [(h0, .inr (10, mX10 h1 h2 h3 h4 h5 h6 v0)), (h3, .inl (k3, 10, .inl f3))] s.heap := hP
      have hD9 : va_D A [(h0, .inr (10, mX10 h1 h2 h3 h4 h5 h6 v0)), (h3, .inl (k3, 10, .inl f3))] := hD
      exact W.vret hx hb hr (fun t ht hW => ⟨⟨(fun _ => 0), rfl, hpost, (fun _ => 0), (fun i => ([f3] : List (Nat → Int32)).getD i (fun _ => 0)), (fun _ => (fun _ => 0)), hf3, by rw [ht]; exact hP9, va_K.moved hW.alike hK, hD9⟩, hS.F ht⟩) hS.2.2 dX10_strike_19
    · skip
      have b_ := zF_ge rfl rfl c_
      refine lv_aload_n hx hb dX10_strike_12 rfl (lv_at hl 0 rfl) ?_
      refine va_get (D := (dC, dI)) (ci := 10) (v := .ref h3) (C := RX10) (T := TX10) (N := 8) hx hb hG zuX10 hown hK hP 0 rfl rfl 3 (by decide) (hG _ zw100) (fun _ h9 => h9) rfl dX10_strike_13 ?_
      refine lv_iload_n hx hb dX10_strike_16 rfl (lv_at hl 1 rfl) ?_
      refine lv_iconst (v := (-1)) hx hb dX10_strike_17 (by decide) ?_
      refine va_iast hx hb hK hP hD hS 1 0 rfl rfl (zin_lit ⟨by omega, by omega⟩) dX10_strike_18 (fun H locs hP hD hS => ?_)
      obtain ⟨f_18, e_f_18⟩ : ∃ z : Nat → Int32, z = upd f3 (x1 : Int32).toNatClampNeg (-1) := ⟨_, rfl⟩
      have hP : va_P (dC, dI) vwCl [(h0, .inr (10, mX10 h1 h2 h3 h4 h5 h6 v0)), (h3, .inl (k3, 10, .inl f_18))] H := by rw [e_f_18]; exact hP
      have hD : va_D A [(h0, .inr (10, mX10 h1 h2 h3 h4 h5 h6 v0)), (h3, .inl (k3, 10, .inl f_18))] := by rw [e_f_18]; exact hD
      have hf_18 : zA (-1) 9 f_18 := by rw [e_f_18]; exact zA_upd hf3 (show (-1) ≤ ((-1) : Int32).toInt from by decide) (show ((-1) : Int32).toInt ≤ 9 from by decide)
      refine W.widen (k := 0) (n := 0) (by decide) (by decide) ?_
      have hpost : True := trivial
      have hP9 : va_P (dC, dI) vwCl [(h0, .inr (10, mX10 h1 h2 h3 h4 h5 h6 v0)), (h3, .inl (k3, 10, .inl f_18))] H := hP
      have hD9 : va_D A [(h0, .inr (10, mX10 h1 h2 h3 h4 h5 h6 v0)), (h3, .inl (k3, 10, .inl f_18))] := hD
      exact W.vret hx hb hr (fun t ht hW => ⟨⟨(fun _ => 0), rfl, hpost, (fun _ => 0), (fun i => ([f_18] : List (Nat → Int32)).getD i (fun _ => 0)), (fun _ => (fun _ => 0)), hf_18, by rw [ht]; exact hP9, va_K.moved hW.alike hK, hD9⟩, hS.F ht⟩) hS.2.2 dX10_strike_19
set_option maxHeartbeats 8000000 in
set_option maxRecDepth 100000 in
theorem sX10_forget_1 (l : Launch) (dC : Nat → ClassId) (dI : Nat → Nat → Nat) (adK adV : Nat → Nat) (h0 : Nat) (h3 : Nat) (h2 : Nat) (h1 : Nat) (h4 : Nat) (h5 : Nat) (h6 : Nat) (k3 : ClassId) (k2 : ClassId) (k1 : ClassId) (sz : Nat) (v0 : Nat → Int32) (f3 : Nat → Int32) (f2 : Nat → Int32) (f1 : Nat → Int64) (x1 : Int32) (hv0 : zR rg_Words10 v0) (hf3 : zA (-1) 9 f3) (hf2 : zA 0 9 f2) : Met l yX10_forget (zw yX10_forget cX10_forget 3 none) { frames := 2, cells := 0, slots := 0, locals := 47 } (zPc dC dI adK adV [.ref h0, .int x1] sz [(h0, .inr (10, mX10 h1 h2 h3 h4 h5 h6 v0)), (h3, .inl (k3, 10, .inl f3)), (h2, .inl (k2, 10, .inl f2)), (h1, .inl (k1, 10, .inr (.inl f1)))] [(k3, .int), (k2, .int), (k1, .long)]) (va_Qv (fun (u : Nat → Int32) => (0 ≤ (u 0).toInt ∧ (u 0).toInt ≤ 10)) (fun (u : Nat → Int32) (t : State) => ∃ (ww : Nat → Int64) (aa : Nat → Nat → Int32) (bb : Nat → Nat → Int64), zA (-1) 9 (aa 0) ∧ zA 0 9 (aa 1) ∧ va_P (dC, dI) vwCl [(h0, .inr (10, mX10 h1 h2 h3 h4 h5 h6 (upd v0 7 (u 0)))), (h3, .inl (k3, 10, .inl (aa 0))), (h2, .inl (k2, 10, .inl (aa 1))), (h1, .inl (k1, 10, .inr (.inl (bb 0))))] t.heap ∧ va_K (dC, dI) vwCl [(k3, .int), (k2, .int), (k1, .long)] t ∧ va_D (va_A [(h0, .inr (10, mX10 h1 h2 h3 h4 h5 h6 v0)), (h3, .inl (k3, 10, .inl f3)), (h2, .inl (k2, 10, .inl f2)), (h1, .inl (k1, 10, .inr (.inl f1)))] sz) [(h0, .inr (10, mX10 h1 h2 h3 h4 h5 h6 (upd v0 7 (u 0)))), (h3, .inl (k3, 10, .inl (aa 0))), (h2, .inl (k2, 10, .inl (aa 1))), (h1, .inl (k1, 10, .inr (.inl (bb 0))))]) (va_A [(h0, .inr (10, mX10 h1 h2 h3 h4 h5 h6 v0)), (h3, .inl (k3, 10, .inl f3)), (h2, .inl (k2, 10, .inl f2)), (h1, .inl (k1, 10, .inr (.inl f1)))] sz)) 0 0 (va_A [(h0, .inr (10, mX10 h1 h2 h3 h4 h5 h6 v0)), (h3, .inl (k3, 10, .inl f3)), (h2, .inl (k2, 10, .inl f2)), (h1, .inl (k1, 10, .inr (.inl f1)))] sz) := by
  refine Met.ofW (cc := cX10_forget) (maxL := 3) (ret := none) (by decide) rfl ?_
  intro p e s m args below meth c s₁ B hml hv
  obtain ⟨rfl, hsz, hP, hK, hD0, hE, hZ⟩ := hv
  have hx := B.exec
  have hb := B.bytes
  have hr := B.returns
  have hG : ∀ w ∈ zG, w.before _ s = true := fun w h => atoms_spec (ws := (zw yX10_forget cX10_forget 3 none)) B.pre w (List.mem_cons_of_mem _ h)
  have hown : s.vm.findClass RX10 = some m.cls := findClass_of_methodNamed B.named
  have hlocks := B.notSynchronized

  subst hsz
  have hD := hD0.self (sz := s.heap.size)
  generalize hAe : va_A [(h0, .inr (10, mX10 h1 h2 h3 h4 h5 h6 v0)), (h3, .inl (k3, 10, .inl f3)), (h2, .inl (k2, 10, .inl f2)), (h1, .inl (k1, 10, .inr (.inl f1)))] s.heap.size = A at hD hZ ⊢
  have hA : ∀ q : Nat, s.heap.size ≤ q → A q := fun q h => by rw [← hAe]; exact Or.inr h
  have hS : va_S A s.heap s.heap [] := va_S.rf
  have hl := lv_entry ([.ref h0, .int x1]) (n := 3) (Nat.le_of_ble_eq_true rfl)
  rw [lg_entry_eq]
  generalize (lg_sl ([.ref h0, .int x1]) ++ List.replicate (3 - (lg_sl ([.ref h0, .int x1])).length) Slot.unset).toArray = ls at hl ⊢
  have hl : lv_has ls 3 [(0, .ref h0), (1, .int x1)] := hl
  refine lv_iload_n hx hb dX10_forget_0 rfl (lv_at hl 1 rfl) ?_
  refine lv_aload_n hx hb dX10_forget_1 rfl (lv_at hl 0 rfl) ?_
  have b_ : 0 ≤ (v0 7).toInt ∧ (v0 7).toInt ≤ 10 := hv0 7
  refine va_get (D := (dC, dI)) (ci := 10) (v := .int (v0 7)) (C := RX10) (T := TX10) (N := 8) hx hb hG zuX10 hown hK hP 0 rfl rfl 7 (by decide) (hG _ zw80) (fun _ h9 => h9) rfl dX10_forget_2 ?_
  have b_ : -2147483648 ≤ x1.toInt ∧ x1.toInt ≤ 2147483647 := ⟨zlo _, zhi _⟩
  refine lv_icmp_lt (tgt := 9) hx hb dX10_forget_5 (by decide) (fun c_ => ?_) (fun c_ => ?_)
  · skip
    have b_ := zT_lt rfl rfl c_
    refine lv_iload_n hx hb dX10_forget_9 rfl (lv_at hl 1 rfl) ?_
    refine lv_istore_n (lv' := [(2, .int x1), (0, .ref h0), (1, .int x1)]) hx hb dX10_forget_10 rfl hl (by decide) rfl (fun ls hl => ?_)
    refine zcutL (fun u11_ => (10 - (u11_ 0).toInt).toNat) (fun H locs ls u11_ w11_ a11_ b11_ => va_P (dC, dI) vwCl [(h0, .inr (10, mX10 h1 h2 h3 h4 h5 h6 v0)), (h3, .inl (k3, 10, .inl (a11_ 0))), (h2, .inl (k2, 10, .inl f2)), (h1, .inl (k1, 10, .inr (.inl f1)))] H ∧ va_D A [(h0, .inr (10, mX10 h1 h2 h3 h4 h5 h6 v0)), (h3, .inl (k3, 10, .inl (a11_ 0))), (h2, .inl (k2, 10, .inl f2)), (h1, .inl (k1, 10, .inr (.inl f1)))] ∧ va_S A s.heap H locs ∧ lv_has ls 3 [(0, .ref h0), (1, .int x1), (2, .int (u11_ 0))] ∧ zA (-1) 9 (a11_ 0) ∧ ((-2147483648) ≤ (u11_ 0).toInt ∧ (u11_ 0).toInt ≤ 10)) (fun ls u11_ w11_ => F0 m 11 ls []) 0 0 ?_ (fun hJ11 => ?_)
    · skip
      intro H locs ls u11_ w11_ a11_ b11_ hc hJ11
      obtain ⟨hP, hD, hS, hl, ha11_0, b_⟩ := hc
      refine lv_iload_n hx hb dX10_forget_11 rfl (lv_at hl 2 rfl) ?_
      refine lv_aload_n hx hb dX10_forget_12 rfl (lv_at hl 0 rfl) ?_
      refine va_get (D := (dC, dI)) (ci := 10) (v := .int (v0 7)) (C := RX10) (T := TX10) (N := 8) hx hb hG zuX10 hown hK hP 0 rfl rfl 7 (by decide) (hG _ zw80) (fun _ h9 => h9) rfl dX10_forget_13 ?_
      refine lv_icmp_ge (tgt := 30) hx hb dX10_forget_16 (by decide) (fun c_ => ?_) (fun c_ => ?_)
      · skip
        have b_ := zT_ge rfl rfl c_
        refine lv_aload_n hx hb dX10_forget_30 rfl (lv_at hl 0 rfl) ?_
        have hPc := hP.sub (ws' := [(h0, .inr (10, mX10 h1 h2 h3 h4 h5 h6 v0)), (h3, .inl (k3, 10, .inl (a11_ 0))), (h2, .inl (k2, 10, .inl f2)), (h1, .inl (k1, 10, .inr (.inl f1)))]) [0, 1, 2, 3] rfl
        have hDc := hD.sub (ws' := [(h0, .inr (10, mX10 h1 h2 h3 h4 h5 h6 v0)), (h3, .inl (k3, 10, .inl (a11_ 0))), (h2, .inl (k2, 10, .inl f2)), (h1, .inl (k1, 10, .inr (.inl f1)))]) [0, 1, 2, 3] (by decide) rfl
        have hKc := hK.sub (tys' := [(k3, .int), (k2, .int), (k1, .long)]) [0, 1, 2] rfl
        have hFc := va_free (wc := [(h0, .inr (10, mX10 h1 h2 h3 h4 h5 h6 v0)), (h3, .inl (k3, 10, .inl (a11_ 0))), (h2, .inl (k2, 10, .inl f2)), (h1, .inl (k1, 10, .inr (.inl f1)))]) hD hS hA [0, 1, 2, 3] rfl
        refine va_callv (va_runV (As := []) (rest := []) ⟨hx, hb, hml, hown, hG⟩ (sX10_closeRanks_1 l dC dI adK adV h0 h3 h2 h1 h4 h5 h6 k3 k2 k1 H.size v0 (a11_ 0) f2 f1 hv0 ha11_0 hf2) (cwV 0 hG (zgV zw105 zw106 zw107 zw74 zw108) rfl rfl rfl (by decide +kernel) ⟨Nat.le_of_ble_eq_true rfl, Nat.le_of_ble_eq_true rfl⟩) ⟨zPc_blind, va_recv hKc hPc (ci := 10) (q0 := 0) rfl rfl, zPc_pre hPc hKc hDc hE hS hFc hZ⟩ rfl rfl hl.1 rfl (lv_room (Nat.le_of_ble_eq_true rfl)) dX10_forget_31 ⟨Nat.le_of_ble_eq_true rfl, Nat.le_of_ble_eq_true rfl⟩) hS (fun q _ h => hFc q h) hFc (fun u31_ t H1 locs ht hvm hw hB hz1 hk1 hS => ?_)
        have hw : (0 ≤ (u31_ 0).toInt ∧ (u31_ 0).toInt ≤ 10) := hw
        have b_ := hw
        obtain ⟨w31_, a31_, b31_, ha31_0, ha31_1, hP1, hK1, hD1⟩ := hB
        rw [ht] at hP1
        obtain ⟨hP, hD⟩ := va_join (wr := []) (w1 := [(h0, .inr (10, mX10 h1 h2 h3 h4 h5 h6 (upd v0 7 (u31_ 0)))), (h3, .inl (k3, 10, .inl (a31_ 0))), (h2, .inl (k2, 10, .inl (a31_ 1))), (h1, .inl (k1, 10, .inr (.inl (b31_ 0))))]) hP hD [0, 1, 2, 3] [] rfl rfl (by decide) (by decide) hk1 hFc hP1 hD1
        have hP : va_P (dC, dI) vwCl [(h0, .inr (10, mX10 h1 h2 h3 h4 h5 h6 (upd v0 7 (u31_ 0)))), (h3, .inl (k3, 10, .inl (a31_ 0))), (h2, .inl (k2, 10, .inl (a31_ 1))), (h1, .inl (k1, 10, .inr (.inl (b31_ 0))))] H1 := hP.sub [0, 1, 2, 3] rfl
        have hD : va_D A [(h0, .inr (10, mX10 h1 h2 h3 h4 h5 h6 (upd v0 7 (u31_ 0)))), (h3, .inl (k3, 10, .inl (a31_ 0))), (h2, .inl (k2, 10, .inl (a31_ 1))), (h1, .inl (k1, 10, .inr (.inl (b31_ 0))))] := hD.sub [0, 1, 2, 3] (by decide) rfl
        generalize H1 = H at hP hS ⊢
        clear hz1
        refine W.widen (k := 0) (n := 0) (by decide) (by decide) ?_
        have hpost : (0 ≤ (u31_ 0).toInt ∧ (u31_ 0).toInt ≤ 10) := ⟨by omega, by omega⟩
        have hP9 : va_P (dC, dI) vwCl [(h0, .inr (10, mX10 h1 h2 h3 h4 h5 h6 (upd v0 7 (u31_ 0)))), (h3, .inl (k3, 10, .inl (a31_ 0))), (h2, .inl (k2, 10, .inl (a31_ 1))), (h1, .inl (k1, 10, .inr (.inl (b31_ 0))))] H := hP
        have hD9 : va_D A [(h0, .inr (10, mX10 h1 h2 h3 h4 h5 h6 (upd v0 7 (u31_ 0)))), (h3, .inl (k3, 10, .inl (a31_ 0))), (h2, .inl (k2, 10, .inl (a31_ 1))), (h1, .inl (k1, 10, .inr (.inl (b31_ 0))))] := hD
        exact W.vret hx hb hr (fun t ht hW => ⟨⟨(fun i => ([(u31_ 0)] : List (Int32)).getD i 0), rfl, hpost, (fun _ => 0), (fun i => ([(a31_ 0), (a31_ 1)] : List (Nat → Int32)).getD i (fun _ => 0)), (fun i => ([(b31_ 0)] : List (Nat → Int64)).getD i (fun _ => 0)), ha31_0, ha31_1, by rw [ht]; exact hP9, va_K.moved hW.alike hK, hD9⟩, hS.F ht⟩) hS.2.2 dX10_forget_34
      · skip
        have b_ := zF_ge rfl rfl c_
        refine lv_aload_n hx hb dX10_forget_19 rfl (lv_at hl 0 rfl) ?_
        refine lv_iload_n hx hb dX10_forget_20 rfl (lv_at hl 2 rfl) ?_
        have hPc := hP.sub (ws' := [(h0, .inr (10, mX10 h1 h2 h3 h4 h5 h6 v0)), (h3, .inl (k3, 10, .inl (a11_ 0)))]) [0, 1] rfl
        have hDc := hD.sub (ws' := [(h0, .inr (10, mX10 h1 h2 h3 h4 h5 h6 v0)), (h3, .inl (k3, 10, .inl (a11_ 0)))]) [0, 1] (by decide) rfl
        have hKc := hK.sub (tys' := [(k3, .int)]) [0] rfl
        have hFc := va_free (wc := [(h0, .inr (10, mX10 h1 h2 h3 h4 h5 h6 v0)), (h3, .inl (k3, 10, .inl (a11_ 0)))]) hD hS hA [0, 1] rfl
        refine va_callv (va_runV (As := [.int (u11_ 0)]) (rest := []) ⟨hx, hb, hml, hown, hG⟩ (sX10_strike_1 l dC dI adK adV h0 h3 h1 h2 h4 h5 h6 k3 H.size v0 (a11_ 0) (u11_ 0) hv0 ha11_0) (cwV 1 hG (zgV zw109 zw110 zw111 zw74 zw112) rfl rfl rfl (by decide +kernel) ⟨Nat.le_of_ble_eq_true rfl, Nat.le_of_ble_eq_true rfl⟩) ⟨zPc_blind, va_recv hKc hPc (ci := 10) (q0 := 0) rfl rfl, zPc_pre hPc hKc hDc hE hS hFc hZ⟩ rfl rfl hl.1 rfl (lv_room (Nat.le_of_ble_eq_true rfl)) dX10_forget_21 ⟨Nat.le_of_ble_eq_true rfl, Nat.le_of_ble_eq_true rfl⟩) hS (fun q _ h => hFc q h) hFc (fun u21_ t H1 locs ht hvm hw hB hz1 hk1 hS => ?_)
        obtain ⟨w21_, a21_, b21_, ha21_0, hP1, hK1, hD1⟩ := hB
        rw [ht] at hP1
        obtain ⟨hP, hD⟩ := va_join (wr := [(h2, .inl (k2, 10, .inl f2)), (h1, .inl (k1, 10, .inr (.inl f1)))]) (w1 := [(h0, .inr (10, mX10 h1 h2 h3 h4 h5 h6 v0)), (h3, .inl (k3, 10, .inl (a21_ 0)))]) hP hD [0, 1] [2, 3] rfl rfl (by decide) (by decide) hk1 hFc hP1 hD1
        have hP : va_P (dC, dI) vwCl [(h0, .inr (10, mX10 h1 h2 h3 h4 h5 h6 v0)), (h3, .inl (k3, 10, .inl (a21_ 0))), (h2, .inl (k2, 10, .inl f2)), (h1, .inl (k1, 10, .inr (.inl f1)))] H1 := hP.sub [2, 3, 0, 1] rfl
        have hD : va_D A [(h0, .inr (10, mX10 h1 h2 h3 h4 h5 h6 v0)), (h3, .inl (k3, 10, .inl (a21_ 0))), (h2, .inl (k2, 10, .inl f2)), (h1, .inl (k1, 10, .inr (.inl f1)))] := hD.sub [2, 3, 0, 1] (by decide) rfl
        generalize H1 = H at hP hS ⊢
        clear hz1
        obtain ⟨z24, e_z24⟩ : ∃ z : Int32, z = (u11_ 0) + Int32.ofInt 1 := ⟨_, rfl⟩
        have b_ := zadd (x := (u11_ 0)) (y := Int32.ofInt 1) rfl (show (Int32.ofInt 1).toInt = 1 from by decide) e_z24 (by omega) (by omega)
        refine lv_iinc (v := z24) (lv' := [(2, .int z24), (0, .ref h0), (1, .int x1)]) hx hb dX10_forget_24 hl (k := 2) rfl e_z24.symm (by decide) rfl (fun ls hl => ?_)
        refine lv_goto (tgt := 11) hx hb dX10_forget_27 (by decide) ?_
        have hc : va_P (dC, dI) vwCl [(h0, .inr (10, mX10 h1 h2 h3 h4 h5 h6 v0)), (h3, .inl (k3, 10, .inl (a21_ 0))), (h2, .inl (k2, 10, .inl f2)), (h1, .inl (k1, 10, .inr (.inl f1)))] H ∧ va_D A [(h0, .inr (10, mX10 h1 h2 h3 h4 h5 h6 v0)), (h3, .inl (k3, 10, .inl (a21_ 0))), (h2, .inl (k2, 10, .inl f2)), (h1, .inl (k1, 10, .inr (.inl f1)))] ∧ va_S A s.heap H locs ∧ lv_has ls 3 [(0, .ref h0), (1, .int x1), (2, .int z24)] ∧ zA (-1) 9 (a21_ 0) ∧ ((-2147483648) ≤ z24.toInt ∧ z24.toInt ≤ 10) := ⟨hP, hD, hS, lv_sub hl [1, 2, 0] rfl, ha21_0, ⟨by omega, by omega⟩⟩
        exact hJ11 H locs ls (fun i => ([z24] : List (Int32)).getD i 0) (fun _ => 0) (fun i => ([(a21_ 0)] : List (Nat → Int32)).getD i (fun _ => 0)) (fun _ => (fun _ => 0)) hc (show (10 - z24.toInt).toNat < (10 - (u11_ 0).toInt).toNat from by omega)
    · skip
      have hc : va_P (dC, dI) vwCl [(h0, .inr (10, mX10 h1 h2 h3 h4 h5 h6 v0)), (h3, .inl (k3, 10, .inl f3)), (h2, .inl (k2, 10, .inl f2)), (h1, .inl (k1, 10, .inr (.inl f1)))] s.heap ∧ va_D A [(h0, .inr (10, mX10 h1 h2 h3 h4 h5 h6 v0)), (h3, .inl (k3, 10, .inl f3)), (h2, .inl (k2, 10, .inl f2)), (h1, .inl (k1, 10, .inr (.inl f1)))] ∧ va_S A s.heap s.heap [] ∧ lv_has ls 3 [(0, .ref h0), (1, .int x1), (2, .int x1)] ∧ zA (-1) 9 f3 ∧ ((-2147483648) ≤ x1.toInt ∧ x1.toInt ≤ 10) := ⟨hP, hD, hS, lv_sub hl [1, 2, 0] rfl, hf3, ⟨by omega, by omega⟩⟩
      exact hJ11 s.heap [] ls (fun i => ([x1] : List (Int32)).getD i 0) (fun _ => 0) (fun i => ([f3] : List (Nat → Int32)).getD i (fun _ => 0)) (fun _ => (fun _ => 0)) hc
  · skip
    have b_ := zF_lt rfl rfl c_
    refine W.widen (k := 0) (n := 0) (by decide) (by decide) ?_
    have hpost : (0 ≤ (v0 7).toInt ∧ (v0 7).toInt ≤ 10) := ⟨by omega, by omega⟩
    have hP9 : va_P (dC, dI) vwCl [(h0, .inr (10, mX10 h1 h2 h3 h4 h5 h6 (upd v0 7 (v0 7)))), (h3, .inl (k3, 10, .inl f3)), (h2, .inl (k2, 10, .inl f2)), (h1, .inl (k1, 10, .inr (.inl f1)))] s.heap := hP
    have hD9 : va_D A [(h0, .inr (10, mX10 h1 h2 h3 h4 h5 h6 (upd v0 7 (v0 7)))), (h3, .inl (k3, 10, .inl f3)), (h2, .inl (k2, 10, .inl f2)), (h1, .inl (k1, 10, .inr (.inl f1)))] := hD
    exact W.vret hx hb hr (fun t ht hW => ⟨⟨(fun i => ([(v0 7)] : List (Int32)).getD i 0), rfl, hpost, (fun _ => 0), (fun i => ([f3, f2] : List (Nat → Int32)).getD i (fun _ => 0)), (fun i => ([f1] : List (Nat → Int64)).getD i (fun _ => 0)), hf3, hf2, by rw [ht]; exact hP9, va_K.moved hW.alike hK, hD9⟩, hS.F ht⟩) hS.2.2 dX10_forget_8
set_option maxHeartbeats 8000000 in
set_option maxRecDepth 100000 in
theorem sX10_nextCosts_1 (l : Launch) (dC : Nat → ClassId) (dI : Nat → Nat → Nat) (adK adV : Nat → Nat) (h0 : Nat) (h6 : Nat) (h4 : Nat) (h5 : Nat) (h1 : Nat) (h2 : Nat) (h3 : Nat) (k6 : ClassId) (k4 : ClassId) (k5 : ClassId) (sz : Nat) (v0 : Nat → Int32) (f6 : Nat → Int32) (f4 : Nat → Int32) (f5 : Nat → Int32) (x1 : Int32) (x2 : Int32) (hv0 : zR rg_Words10 v0) (hx1 : 1 ≤ x1.toInt ∧ x1.toInt ≤ 12) (hx2 : 0 ≤ x2.toInt ∧ x2.toInt ≤ 12) : Met l yX10_nextCosts (zw yX10_nextCosts cX10_nextCosts 7 (some .int)) { frames := 1, cells := 0, slots := 0, locals := 40 } (zPc dC dI adK adV [.ref h0, .int x1, .int x2] sz [(h0, .inr (10, mX10 h1 h2 h3 h4 h5 h6 v0)), (h6, .inl (k6, 13, .inl f6)), (h4, .inl (k4, 12, .inl f4)), (h5, .inl (k5, 12, .inl f5))] [(k6, .int), (k4, .byte), (k5, .byte)]) (va_Qi (fun (r : Int32) (u : Nat → Int32) => ((-2147483648) ≤ r.toInt ∧ r.toInt ≤ 12)) (fun (u : Nat → Int32) (t : State) => ∃ (ww : Nat → Int64) (aa : Nat → Nat → Int32) (bb : Nat → Nat → Int64), va_P (dC, dI) vwCl [(h0, .inr (10, mX10 h1 h2 h3 h4 h5 h6 v0)), (h6, .inl (k6, 13, .inl (aa 0))), (h4, .inl (k4, 12, .inl f4)), (h5, .inl (k5, 12, .inl f5))] t.heap ∧ va_K (dC, dI) vwCl [(k6, .int), (k4, .byte), (k5, .byte)] t ∧ va_D (va_A [(h0, .inr (10, mX10 h1 h2 h3 h4 h5 h6 v0)), (h6, .inl (k6, 13, .inl f6)), (h4, .inl (k4, 12, .inl f4)), (h5, .inl (k5, 12, .inl f5))] sz) [(h0, .inr (10, mX10 h1 h2 h3 h4 h5 h6 v0)), (h6, .inl (k6, 13, .inl (aa 0))), (h4, .inl (k4, 12, .inl f4)), (h5, .inl (k5, 12, .inl f5))]) (va_A [(h0, .inr (10, mX10 h1 h2 h3 h4 h5 h6 v0)), (h6, .inl (k6, 13, .inl f6)), (h4, .inl (k4, 12, .inl f4)), (h5, .inl (k5, 12, .inl f5))] sz)) 0 0 (va_A [(h0, .inr (10, mX10 h1 h2 h3 h4 h5 h6 v0)), (h6, .inl (k6, 13, .inl f6)), (h4, .inl (k4, 12, .inl f4)), (h5, .inl (k5, 12, .inl f5))] sz) := by
  refine Met.ofW (cc := cX10_nextCosts) (maxL := 7) (ret := (some .int)) (by decide) rfl ?_
  intro p e s m args below meth c s₁ B hml hv
  obtain ⟨rfl, hsz, hP, hK, hD0, hE, hZ⟩ := hv
  have hx := B.exec
  have hb := B.bytes
  have hr := B.returns
  have hG : ∀ w ∈ zG, w.before _ s = true := fun w h => atoms_spec (ws := (zw yX10_nextCosts cX10_nextCosts 7 (some .int))) B.pre w (List.mem_cons_of_mem _ h)
  have hown : s.vm.findClass RX10 = some m.cls := findClass_of_methodNamed B.named
  have hlocks := B.notSynchronized

  subst hsz
  have hD := hD0.self (sz := s.heap.size)
  generalize hAe : va_A [(h0, .inr (10, mX10 h1 h2 h3 h4 h5 h6 v0)), (h6, .inl (k6, 13, .inl f6)), (h4, .inl (k4, 12, .inl f4)), (h5, .inl (k5, 12, .inl f5))] s.heap.size = A at hD hZ ⊢
  have hA : ∀ q : Nat, s.heap.size ≤ q → A q := fun q h => by rw [← hAe]; exact Or.inr h
  have hS : va_S A s.heap s.heap [] := va_S.rf
  have hl := lv_entry ([.ref h0, .int x1, .int x2]) (n := 7) (Nat.le_of_ble_eq_true rfl)
  rw [lg_entry_eq]
  generalize (lg_sl ([.ref h0, .int x1, .int x2]) ++ List.replicate (7 - (lg_sl ([.ref h0, .int x1, .int x2])).length) Slot.unset).toArray = ls at hl ⊢
  have hl : lv_has ls 7 [(0, .ref h0), (1, .int x1), (2, .int x2)] := hl
  have b_ := zk_0
  have b_ := zk_1
  refine lv_aload_n hx hb dX10_nextCosts_0 rfl (lv_at hl 0 rfl) ?_
  refine va_get (D := (dC, dI)) (ci := 10) (v := .ref h6) (C := RX10) (T := TX10) (N := 8) hx hb hG zuX10 hown hK hP 0 rfl rfl 6 (by decide) (hG _ zw118) (fun _ h9 => h9) rfl dX10_nextCosts_1 ?_
  refine lv_iconst (v := 0) hx hb dX10_nextCosts_4 (by decide) ?_
  refine va_iald hx hb hK hP 1 0 rfl rfl (zin_lit (by decide)) dX10_nextCosts_5 ?_
  refine lv_topi (fun z5 e_z5 => ?_)
  refine lv_istore_n (lv' := [(3, .int z5), (0, .ref h0), (1, .int x1), (2, .int x2)]) hx hb dX10_nextCosts_6 rfl hl (by decide) rfl (fun ls hl => ?_)
  refine lv_aload_n hx hb dX10_nextCosts_7 rfl (lv_at hl 1 rfl) ?_
  refine va_get (D := (dC, dI)) (ci := 10) (v := .ref h6) (C := RX10) (T := TX10) (N := 8) hx hb hG zuX10 hown hK hP 0 rfl rfl 6 (by decide) (hG _ zw118) (fun _ h9 => h9) rfl dX10_nextCosts_8 ?_
  refine lv_iconst (v := 0) hx hb dX10_nextCosts_11 (by decide) ?_
  refine lv_iload_n hx hb dX10_nextCosts_12 rfl (lv_at hl 2 rfl) ?_
  refine va_iast hx hb hK hP hD hS 1 0 rfl rfl (zin_lit (by decide)) dX10_nextCosts_13 (fun H locs hP hD hS => ?_)
  obtain ⟨f_13, e_f_13⟩ : ∃ z : Nat → Int32, z = upd f6 (0 : Int32).toNatClampNeg x1 := ⟨_, rfl⟩
  have hP : va_P (dC, dI) vwCl [(h0, .inr (10, mX10 h1 h2 h3 h4 h5 h6 v0)), (h6, .inl (k6, 13, .inl f_13)), (h4, .inl (k4, 12, .inl f4)), (h5, .inl (k5, 12, .inl f5))] H := by rw [e_f_13]; exact hP
  have hD : va_D A [(h0, .inr (10, mX10 h1 h2 h3 h4 h5 h6 v0)), (h6, .inl (k6, 13, .inl f_13)), (h4, .inl (k4, 12, .inl f4)), (h5, .inl (k5, 12, .inl f5))] := by rw [e_f_13]; exact hD
  refine lv_iload_n hx hb dX10_nextCosts_14 rfl (lv_at hl 2 rfl) ?_
  refine lv_istore (lv' := [(4, .int x1), (3, .int z5), (0, .ref h0), (1, .int x1), (2, .int x2)]) hx hb dX10_nextCosts_15 hl (by decide) rfl (fun ls hl => ?_)
  refine lv_iconst (v := 1) hx hb dX10_nextCosts_17 (by decide) ?_
  refine lv_istore (lv' := [(5, .int 1), (4, .int x1), (3, .int z5), (0, .ref h0), (1, .int x1), (2, .int x2)]) hx hb dX10_nextCosts_18 hl (by decide) rfl (fun ls hl => ?_)
  refine zcutL (fun u20_ => (13 - (u20_ 2).toInt).toNat) (fun H locs ls u20_ w20_ a20_ b20_ => va_P (dC, dI) vwCl [(h0, .inr (10, mX10 h1 h2 h3 h4 h5 h6 v0)), (h6, .inl (k6, 13, .inl (a20_ 0))), (h4, .inl (k4, 12, .inl f4)), (h5, .inl (k5, 12, .inl f5))] H ∧ va_D A [(h0, .inr (10, mX10 h1 h2 h3 h4 h5 h6 v0)), (h6, .inl (k6, 13, .inl (a20_ 0))), (h4, .inl (k4, 12, .inl f4)), (h5, .inl (k5, 12, .inl f5))] ∧ va_S A s.heap H locs ∧ lv_has ls 7 [(0, .ref h0), (1, .int x1), (2, .int x2), (3, .int (u20_ 0)), (4, .int (u20_ 1)), (5, .int (u20_ 2))] ∧ ((-2147483648) ≤ (u20_ 1).toInt ∧ (u20_ 1).toInt ≤ 12) ∧ (1 ≤ (u20_ 2).toInt ∧ (u20_ 2).toInt ≤ 13)) (fun ls u20_ w20_ => F0 m 20 ls []) 0 0 ?_ (fun hJ20 => ?_)
  · skip
    intro H locs ls u20_ w20_ a20_ b20_ hc hJ20
    obtain ⟨hP, hD, hS, hl, b_, b_⟩ := hc
    refine lv_iload hx hb dX10_nextCosts_20 (lv_at hl 5 rfl) ?_
    refine lv_iload_n hx hb dX10_nextCosts_22 rfl (lv_at hl 2 rfl) ?_
    refine lv_icmp_gt (tgt := 116) hx hb dX10_nextCosts_23 (by decide) (fun c_ => ?_) (fun c_ => ?_)
    · skip
      have b_ := zT_gt rfl rfl c_
      refine lv_iload hx hb dX10_nextCosts_116 (lv_at hl 4 rfl) ?_
      refine W.widen (k := 0) (n := 0) (by decide) (by decide) ?_
      have hpost : ((-2147483648) ≤ (u20_ 1).toInt ∧ (u20_ 1).toInt ≤ 12) := ⟨by omega, by omega⟩
      have hP9 : va_P (dC, dI) vwCl [(h0, .inr (10, mX10 h1 h2 h3 h4 h5 h6 v0)), (h6, .inl (k6, 13, .inl (a20_ 0))), (h4, .inl (k4, 12, .inl f4)), (h5, .inl (k5, 12, .inl f5))] H := hP
      have hD9 : va_D A [(h0, .inr (10, mX10 h1 h2 h3 h4 h5 h6 v0)), (h6, .inl (k6, 13, .inl (a20_ 0))), (h4, .inl (k4, 12, .inl f4)), (h5, .inl (k5, 12, .inl f5))] := hD
      exact W.iret (v := (u20_ 1)) hx hb hr (fun t ht hW => ⟨⟨(u20_ 1), (fun _ => 0), rfl, hpost, (fun _ => 0), (fun i => ([(a20_ 0)] : List (Nat → Int32)).getD i (fun _ => 0)), (fun _ => (fun _ => 0)), by rw [ht]; exact hP9, va_K.moved hW.alike hK, hD9⟩, hS.F ht⟩) hS.2.2 dX10_nextCosts_118
    · skip
      have b_ := zF_gt rfl rfl c_
      refine lv_iload_n hx hb dX10_nextCosts_26 rfl (lv_at hl 3 rfl) ?_
      refine lv_aload_n hx hb dX10_nextCosts_27 rfl (lv_at hl 0 rfl) ?_
      refine va_get (D := (dC, dI)) (ci := 10) (v := .ref h4) (C := RX10) (T := TX10) (N := 8) hx hb hG zuX10 hown hK hP 0 rfl rfl 4 (by decide) (hG _ zw113) (fun _ h9 => h9) rfl dX10_nextCosts_28 ?_
      refine lv_iload_n hx hb dX10_nextCosts_31 rfl (lv_at hl 1 rfl) ?_
      refine lv_iconst (v := 1) hx hb dX10_nextCosts_32 (by decide) ?_
      refine lv_isub hx hb dX10_nextCosts_33 ?_
      refine lv_topi (fun z33 e_z33 => ?_)
      have b_ := zsub rfl zk_1 e_z33 (by omega) (by omega)
      refine va_bald hx hb hK hP 2 1 rfl rfl (zin_lit ⟨by omega, by omega⟩) dX10_nextCosts_34 ?_
      refine lv_topi (fun z34 e_z34 => ?_)
      refine lv_aload_n hx hb dX10_nextCosts_35 rfl (lv_at hl 0 rfl) ?_
      refine va_get (D := (dC, dI)) (ci := 10) (v := .ref h5) (C := RX10) (T := TX10) (N := 8) hx hb hG zuX10 hown hK hP 0 rfl rfl 5 (by decide) (hG _ zw114) (fun _ h9 => h9) rfl dX10_nextCosts_36 ?_
      refine lv_iload hx hb dX10_nextCosts_39 (lv_at hl 5 rfl) ?_
      refine lv_iconst (v := 1) hx hb dX10_nextCosts_41 (by decide) ?_
      refine lv_isub hx hb dX10_nextCosts_42 ?_
      refine lv_topi (fun z42 e_z42 => ?_)
      have b_ := zsub rfl zk_1 e_z42 (by omega) (by omega)
      refine va_bald hx hb hK hP 3 2 rfl rfl (zin_lit ⟨by omega, by omega⟩) dX10_nextCosts_43 ?_
      refine lv_topi (fun z43 e_z43 => ?_)
      refine zcutW (fun H locs ls u52_ w52_ a52_ b52_ => va_P (dC, dI) vwCl [(h0, .inr (10, mX10 h1 h2 h3 h4 h5 h6 v0)), (h6, .inl (k6, 13, .inl (a20_ 0))), (h4, .inl (k4, 12, .inl f4)), (h5, .inl (k5, 12, .inl f5))] H ∧ va_D A [(h0, .inr (10, mX10 h1 h2 h3 h4 h5 h6 v0)), (h6, .inl (k6, 13, .inl (a20_ 0))), (h4, .inl (k4, 12, .inl f4)), (h5, .inl (k5, 12, .inl f5))] ∧ va_S A s.heap H locs ∧ lv_has ls 7 [(0, .ref h0), (1, .int x1), (2, .int x2), (3, .int (u20_ 0)), (4, .int (u20_ 1)), (5, .int (u20_ 2))] ∧ (0 ≤ (u52_ 0).toInt ∧ (u52_ 0).toInt ≤ 1)) (fun ls u52_ w52_ => F0 m 52 ls [.int (u52_ 0), .int (u20_ 0)]) 0 0 ?_ (fun hJ52 => ?_)
      · skip
        intro H locs ls u52_ w52_ a52_ b52_ hc
        obtain ⟨hP, hD, hS, hl, b_⟩ := hc
        have b_ : -2147483648 ≤ (u20_ 0).toInt ∧ (u20_ 0).toInt ≤ 2147483647 := ⟨zlo _, zhi _⟩
        refine lv_iadd hx hb dX10_nextCosts_52 ?_
        refine lv_topi (fun z52 e_z52 => ?_)
        refine lv_istore (lv' := [(6, .int z52), (0, .ref h0), (1, .int x1), (2, .int x2), (3, .int (u20_ 0)), (4, .int (u20_ 1)), (5, .int (u20_ 2))]) hx hb dX10_nextCosts_53 hl (by decide) rfl (fun ls hl => ?_)
        refine lv_aload_n hx hb dX10_nextCosts_55 rfl (lv_at hl 1 rfl) ?_
        refine va_get (D := (dC, dI)) (ci := 10) (v := .ref h6) (C := RX10) (T := TX10) (N := 8) hx hb hG zuX10 hown hK hP 0 rfl rfl 6 (by decide) (hG _ zw118) (fun _ h9 => h9) rfl dX10_nextCosts_56 ?_
        refine lv_iload hx hb dX10_nextCosts_59 (lv_at hl 6 rfl) ?_
        refine va_iald hx hb hK hP 1 0 rfl rfl (zin_lit ⟨by omega, by omega⟩) dX10_nextCosts_61 ?_
        refine lv_topi (fun z61 e_z61 => ?_)
        refine lv_istore_n (lv' := [(3, .int z61), (6, .int z52), (0, .ref h0), (1, .int x1), (2, .int x2), (4, .int (u20_ 1)), (5, .int (u20_ 2))]) hx hb dX10_nextCosts_62 rfl hl (by decide) rfl (fun ls hl => ?_)
        refine lv_aload_n hx hb dX10_nextCosts_63 rfl (lv_at hl 2 rfl) ?_
        refine va_get (D := (dC, dI)) (ci := 10) (v := .ref h6) (C := RX10) (T := TX10) (N := 8) hx hb hG zuX10 hown hK hP 0 rfl rfl 6 (by decide) (hG _ zw118) (fun _ h9 => h9) rfl dX10_nextCosts_64 ?_
        refine lv_iload hx hb dX10_nextCosts_67 (lv_at hl 6 rfl) ?_
        refine lv_iload hx hb dX10_nextCosts_69 (lv_at hl 1 rfl) ?_
        refine lv_aload_n hx hb dX10_nextCosts_71 rfl (lv_at hl 2 rfl) ?_
        refine va_get (D := (dC, dI)) (ci := 10) (v := .ref h6) (C := RX10) (T := TX10) (N := 8) hx hb hG zuX10 hown hK hP 0 rfl rfl 6 (by decide) (hG _ zw118) (fun _ h9 => h9) rfl dX10_nextCosts_72 ?_
        refine lv_iload hx hb dX10_nextCosts_75 (lv_at hl 6 rfl) ?_
        refine va_iald hx hb hK hP 1 0 rfl rfl (zin_lit ⟨by omega, by omega⟩) dX10_nextCosts_77 ?_
        refine lv_topi (fun z77 e_z77 => ?_)
        refine lv_aload_n hx hb dX10_nextCosts_78 rfl (lv_at hl 2 rfl) ?_
        refine va_get (D := (dC, dI)) (ci := 10) (v := .ref h6) (C := RX10) (T := TX10) (N := 8) hx hb hG zuX10 hown hK hP 0 rfl rfl 6 (by decide) (hG _ zw118) (fun _ h9 => h9) rfl dX10_nextCosts_79 ?_
        refine lv_iload hx hb dX10_nextCosts_82 (lv_at hl 6 rfl) ?_
        refine lv_iconst (v := 1) hx hb dX10_nextCosts_84 (by decide) ?_
        refine lv_isub hx hb dX10_nextCosts_85 ?_
        refine lv_topi (fun z85 e_z85 => ?_)
        have b_ := zsub rfl zk_1 e_z85 (by omega) (by omega)
        refine va_iald hx hb hK hP 1 0 rfl rfl (zin_lit ⟨by omega, by omega⟩) dX10_nextCosts_86 ?_
        refine lv_topi (fun z86 e_z86 => ?_)
        have b_ : -2147483648 ≤ z77.toInt ∧ z77.toInt ≤ 2147483647 := ⟨zlo _, zhi _⟩
        have b_ : -2147483648 ≤ z86.toInt ∧ z86.toInt ≤ 2147483647 := ⟨zlo _, zhi _⟩
        refine va_mmin hx hb (by rw [hml]; exact hl.1.symm) hown (hG _ zw119) (hG _ zw120) (hG _ zw9) (hG _ zw121) (Nat.le_of_ble_eq_true rfl) (Nat.le_of_ble_eq_true rfl) (Nat.le_of_ble_eq_true rfl) (Nat.le_of_ble_eq_true rfl) dX10_nextCosts_87 ?_
        refine lv_topi (fun z87 e_z87 => ?_)
        have b_ := zmin rfl rfl e_z87
        refine lv_iconst (v := 1) hx hb dX10_nextCosts_90 (by decide) ?_
        refine lv_iadd hx hb dX10_nextCosts_91 ?_
        refine lv_topi (fun z91 e_z91 => ?_)
        have b_ : -2147483648 ≤ z52.toInt ∧ z52.toInt ≤ 2147483647 := ⟨zlo _, zhi _⟩
        have b_ : -2147483648 ≤ z91.toInt ∧ z91.toInt ≤ 2147483647 := ⟨zlo _, zhi _⟩
        refine va_mmin hx hb (by rw [hml]; exact hl.1.symm) hown (hG _ zw119) (hG _ zw120) (hG _ zw9) (hG _ zw121) (Nat.le_of_ble_eq_true rfl) (Nat.le_of_ble_eq_true rfl) (Nat.le_of_ble_eq_true rfl) (Nat.le_of_ble_eq_true rfl) dX10_nextCosts_92 ?_
        refine lv_topi (fun z92 e_z92 => ?_)
        have b_ := zmin rfl rfl e_z92
        refine va_iast hx hb hK hP hD hS 1 0 rfl rfl (zin_lit ⟨by omega, by omega⟩) dX10_nextCosts_95 (fun H locs hP hD hS => ?_)
        obtain ⟨f_95, e_f_95⟩ : ∃ z : Nat → Int32, z = upd (a20_ 0) ((u20_ 2) : Int32).toNatClampNeg z92 := ⟨_, rfl⟩
        have hP : va_P (dC, dI) vwCl [(h0, .inr (10, mX10 h1 h2 h3 h4 h5 h6 v0)), (h6, .inl (k6, 13, .inl f_95)), (h4, .inl (k4, 12, .inl f4)), (h5, .inl (k5, 12, .inl f5))] H := by rw [e_f_95]; exact hP
        have hD : va_D A [(h0, .inr (10, mX10 h1 h2 h3 h4 h5 h6 v0)), (h6, .inl (k6, 13, .inl f_95)), (h4, .inl (k4, 12, .inl f4)), (h5, .inl (k5, 12, .inl f5))] := by rw [e_f_95]; exact hD
        refine lv_iload hx hb dX10_nextCosts_96 (lv_at hl 5 rfl) ?_
        refine lv_aload_n hx hb dX10_nextCosts_98 rfl (lv_at hl 2 rfl) ?_
        refine va_get (D := (dC, dI)) (ci := 10) (v := .ref h6) (C := RX10) (T := TX10) (N := 8) hx hb hG zuX10 hown hK hP 0 rfl rfl 6 (by decide) (hG _ zw118) (fun _ h9 => h9) rfl dX10_nextCosts_99 ?_
        refine lv_iload hx hb dX10_nextCosts_102 (lv_at hl 6 rfl) ?_
        refine va_iald hx hb hK hP 1 0 rfl rfl (zin_lit ⟨by omega, by omega⟩) dX10_nextCosts_104 ?_
        refine lv_topi (fun z104 e_z104 => ?_)
        have b_ : -2147483648 ≤ z104.toInt ∧ z104.toInt ≤ 2147483647 := ⟨zlo _, zhi _⟩
        refine va_mmin hx hb (by rw [hml]; exact hl.1.symm) hown (hG _ zw119) (hG _ zw120) (hG _ zw9) (hG _ zw121) (Nat.le_of_ble_eq_true rfl) (Nat.le_of_ble_eq_true rfl) (Nat.le_of_ble_eq_true rfl) (Nat.le_of_ble_eq_true rfl) dX10_nextCosts_105 ?_
        refine lv_topi (fun z105 e_z105 => ?_)
        have b_ := zmin rfl rfl e_z105
        refine lv_istore (lv' := [(4, .int z105), (3, .int z61), (6, .int z52), (0, .ref h0), (1, .int x1), (2, .int x2), (5, .int (u20_ 2))]) hx hb dX10_nextCosts_108 hl (by decide) rfl (fun ls hl => ?_)
        obtain ⟨z110, e_z110⟩ : ∃ z : Int32, z = (u20_ 2) + Int32.ofInt 1 := ⟨_, rfl⟩
        have b_ := zadd (x := (u20_ 2)) (y := Int32.ofInt 1) rfl (show (Int32.ofInt 1).toInt = 1 from by decide) e_z110 (by omega) (by omega)
        refine lv_iinc (v := z110) (lv' := [(5, .int z110), (4, .int z105), (3, .int z61), (6, .int z52), (0, .ref h0), (1, .int x1), (2, .int x2)]) hx hb dX10_nextCosts_110 hl (k := 6) rfl e_z110.symm (by decide) rfl (fun ls hl => ?_)
        refine lv_goto (tgt := 20) hx hb dX10_nextCosts_113 (by decide) ?_
        have b_ : -2147483648 ≤ z61.toInt ∧ z61.toInt ≤ 2147483647 := ⟨zlo _, zhi _⟩
        have hc : va_P (dC, dI) vwCl [(h0, .inr (10, mX10 h1 h2 h3 h4 h5 h6 v0)), (h6, .inl (k6, 13, .inl f_95)), (h4, .inl (k4, 12, .inl f4)), (h5, .inl (k5, 12, .inl f5))] H ∧ va_D A [(h0, .inr (10, mX10 h1 h2 h3 h4 h5 h6 v0)), (h6, .inl (k6, 13, .inl f_95)), (h4, .inl (k4, 12, .inl f4)), (h5, .inl (k5, 12, .inl f5))] ∧ va_S A s.heap H locs ∧ lv_has ls 7 [(0, .ref h0), (1, .int x1), (2, .int x2), (3, .int z61), (4, .int z105), (5, .int z110)] ∧ ((-2147483648) ≤ z105.toInt ∧ z105.toInt ≤ 12) ∧ (1 ≤ z110.toInt ∧ z110.toInt ≤ 13) := ⟨hP, hD, hS, lv_sub hl [4, 5, 6, 2, 1, 0] rfl, ⟨by omega, by omega⟩, ⟨by omega, by omega⟩⟩
        exact hJ20 H locs ls (fun i => ([z61, z105, z110] : List (Int32)).getD i 0) (fun _ => 0) (fun i => ([f_95] : List (Nat → Int32)).getD i (fun _ => 0)) (fun _ => (fun _ => 0)) hc (show (13 - z110.toInt).toNat < (13 - (u20_ 2).toInt).toNat from by omega)
      · skip
        have b_ : -2147483648 ≤ z34.toInt ∧ z34.toInt ≤ 2147483647 := ⟨zlo _, zhi _⟩
        have b_ : -2147483648 ≤ z43.toInt ∧ z43.toInt ≤ 2147483647 := ⟨zlo _, zhi _⟩
        refine lv_icmp_ne (tgt := 51) hx hb dX10_nextCosts_44 (by decide) (fun c_ => ?_) (fun c_ => ?_)
        · skip
          have b_ := zT_ne rfl rfl c_
          refine lv_iconst (v := 1) hx hb dX10_nextCosts_51 (by decide) ?_
          have hc : va_P (dC, dI) vwCl [(h0, .inr (10, mX10 h1 h2 h3 h4 h5 h6 v0)), (h6, .inl (k6, 13, .inl (a20_ 0))), (h4, .inl (k4, 12, .inl f4)), (h5, .inl (k5, 12, .inl f5))] H ∧ va_D A [(h0, .inr (10, mX10 h1 h2 h3 h4 h5 h6 v0)), (h6, .inl (k6, 13, .inl (a20_ 0))), (h4, .inl (k4, 12, .inl f4)), (h5, .inl (k5, 12, .inl f5))] ∧ va_S A s.heap H locs ∧ lv_has ls 7 [(0, .ref h0), (1, .int x1), (2, .int x2), (3, .int (u20_ 0)), (4, .int (u20_ 1)), (5, .int (u20_ 2))] ∧ (0 ≤ (1 : Int32).toInt ∧ (1 : Int32).toInt ≤ 1) := ⟨hP, hD, hS, lv_sub hl [0, 1, 2, 3, 4, 5] rfl, ⟨by omega, by omega⟩⟩
          exact hJ52 H locs ls (fun i => ([1] : List (Int32)).getD i 0) (fun _ => 0) (fun _ => (fun _ => 0)) (fun _ => (fun _ => 0)) hc
        · skip
          have b_ := zF_ne rfl rfl c_
          refine lv_iconst (v := 0) hx hb dX10_nextCosts_47 (by decide) ?_
          refine lv_goto (tgt := 52) hx hb dX10_nextCosts_48 (by decide) ?_
          have hc : va_P (dC, dI) vwCl [(h0, .inr (10, mX10 h1 h2 h3 h4 h5 h6 v0)), (h6, .inl (k6, 13, .inl (a20_ 0))), (h4, .inl (k4, 12, .inl f4)), (h5, .inl (k5, 12, .inl f5))] H ∧ va_D A [(h0, .inr (10, mX10 h1 h2 h3 h4 h5 h6 v0)), (h6, .inl (k6, 13, .inl (a20_ 0))), (h4, .inl (k4, 12, .inl f4)), (h5, .inl (k5, 12, .inl f5))] ∧ va_S A s.heap H locs ∧ lv_has ls 7 [(0, .ref h0), (1, .int x1), (2, .int x2), (3, .int (u20_ 0)), (4, .int (u20_ 1)), (5, .int (u20_ 2))] ∧ (0 ≤ (0 : Int32).toInt ∧ (0 : Int32).toInt ≤ 1) := ⟨hP, hD, hS, lv_sub hl [0, 1, 2, 3, 4, 5] rfl, ⟨by omega, by omega⟩⟩
          exact hJ52 H locs ls (fun i => ([0] : List (Int32)).getD i 0) (fun _ => 0) (fun _ => (fun _ => 0)) (fun _ => (fun _ => 0)) hc
  · skip
    have b_ : -2147483648 ≤ z5.toInt ∧ z5.toInt ≤ 2147483647 := ⟨zlo _, zhi _⟩
    have hc : va_P (dC, dI) vwCl [(h0, .inr (10, mX10 h1 h2 h3 h4 h5 h6 v0)), (h6, .inl (k6, 13, .inl f_13)), (h4, .inl (k4, 12, .inl f4)), (h5, .inl (k5, 12, .inl f5))] H ∧ va_D A [(h0, .inr (10, mX10 h1 h2 h3 h4 h5 h6 v0)), (h6, .inl (k6, 13, .inl f_13)), (h4, .inl (k4, 12, .inl f4)), (h5, .inl (k5, 12, .inl f5))] ∧ va_S A s.heap H locs ∧ lv_has ls 7 [(0, .ref h0), (1, .int x1), (2, .int x2), (3, .int z5), (4, .int x1), (5, .int 1)] ∧ ((-2147483648) ≤ x1.toInt ∧ x1.toInt ≤ 12) ∧ (1 ≤ (1 : Int32).toInt ∧ (1 : Int32).toInt ≤ 13) := ⟨hP, hD, hS, lv_sub hl [3, 4, 5, 2, 1, 0] rfl, ⟨by omega, by omega⟩, ⟨by omega, by omega⟩⟩
    exact hJ20 H locs ls (fun i => ([z5, x1, 1] : List (Int32)).getD i 0) (fun _ => 0) (fun i => ([f_13] : List (Nat → Int32)).getD i (fun _ => 0)) (fun _ => (fun _ => 0)) hc
set_option maxHeartbeats 8000000 in
set_option maxRecDepth 100000 in
theorem sX10_distance_1 (l : Launch) (dC : Nat → ClassId) (dI : Nat → Nat → Nat) (adK adV : Nat → Nat) (h0 : Nat) (h4 : Nat) (h5 : Nat) (h6 : Nat) (h1 : Nat) (h2 : Nat) (h3 : Nat) (k4 : ClassId) (k5 : ClassId) (k6 : ClassId) (sz : Nat) (v0 : Nat → Int32) (f4 : Nat → Int32) (f5 : Nat → Int32) (f6 : Nat → Int32) (y1 : Int64) (y2 : Int64) (x3 : Int32) (hv0 : zR rg_Words10 v0) : Met l yX10_distance (zw yX10_distance cX10_distance 9 (some .int)) { frames := 2, cells := 0, slots := 0, locals := 66 } (zPc dC dI adK adV [.ref h0, .long y1, .long y2, .int x3] sz [(h0, .inr (10, mX10 h1 h2 h3 h4 h5 h6 v0)), (h4, .inl (k4, 12, .inl f4)), (h5, .inl (k5, 12, .inl f5)), (h6, .inl (k6, 13, .inl f6))] [(k4, .byte), (k5, .byte), (k6, .int)]) (va_Qi (fun (r : Int32) (u : Nat → Int32) => True) (fun (u : Nat → Int32) (t : State) => ∃ (ww : Nat → Int64) (aa : Nat → Nat → Int32) (bb : Nat → Nat → Int64), va_P (dC, dI) vwCl [(h0, .inr (10, mX10 h1 h2 h3 h4 h5 h6 v0)), (h4, .inl (k4, 12, .inl (aa 0))), (h5, .inl (k5, 12, .inl (aa 1))), (h6, .inl (k6, 13, .inl (aa 2)))] t.heap ∧ va_K (dC, dI) vwCl [(k4, .byte), (k5, .byte), (k6, .int)] t ∧ va_D (va_A [(h0, .inr (10, mX10 h1 h2 h3 h4 h5 h6 v0)), (h4, .inl (k4, 12, .inl f4)), (h5, .inl (k5, 12, .inl f5)), (h6, .inl (k6, 13, .inl f6))] sz) [(h0, .inr (10, mX10 h1 h2 h3 h4 h5 h6 v0)), (h4, .inl (k4, 12, .inl (aa 0))), (h5, .inl (k5, 12, .inl (aa 1))), (h6, .inl (k6, 13, .inl (aa 2)))]) (va_A [(h0, .inr (10, mX10 h1 h2 h3 h4 h5 h6 v0)), (h4, .inl (k4, 12, .inl f4)), (h5, .inl (k5, 12, .inl f5)), (h6, .inl (k6, 13, .inl f6))] sz)) 0 0 (va_A [(h0, .inr (10, mX10 h1 h2 h3 h4 h5 h6 v0)), (h4, .inl (k4, 12, .inl f4)), (h5, .inl (k5, 12, .inl f5)), (h6, .inl (k6, 13, .inl f6))] sz) := by
  refine Met.ofW (cc := cX10_distance) (maxL := 9) (ret := (some .int)) (by decide) rfl ?_
  intro p e s m args below meth c s₁ B hml hv
  obtain ⟨rfl, hsz, hP, hK, hD0, hE, hZ⟩ := hv
  have hx := B.exec
  have hb := B.bytes
  have hr := B.returns
  have hG : ∀ w ∈ zG, w.before _ s = true := fun w h => atoms_spec (ws := (zw yX10_distance cX10_distance 9 (some .int))) B.pre w (List.mem_cons_of_mem _ h)
  have hown : s.vm.findClass RX10 = some m.cls := findClass_of_methodNamed B.named
  have hlocks := B.notSynchronized

  subst hsz
  have hD := hD0.self (sz := s.heap.size)
  generalize hAe : va_A [(h0, .inr (10, mX10 h1 h2 h3 h4 h5 h6 v0)), (h4, .inl (k4, 12, .inl f4)), (h5, .inl (k5, 12, .inl f5)), (h6, .inl (k6, 13, .inl f6))] s.heap.size = A at hD hZ ⊢
  have hA : ∀ q : Nat, s.heap.size ≤ q → A q := fun q h => by rw [← hAe]; exact Or.inr h
  have hS : va_S A s.heap s.heap [] := va_S.rf
  have hl := lv_entry ([.ref h0, .long y1, .long y2, .int x3]) (n := 9) (Nat.le_of_ble_eq_true rfl)
  rw [lg_entry_eq]
  generalize (lg_sl ([.ref h0, .long y1, .long y2, .int x3]) ++ List.replicate (9 - (lg_sl ([.ref h0, .long y1, .long y2, .int x3])).length) Slot.unset).toArray = ls at hl ⊢
  have hl : lv_has ls 9 [(0, .ref h0), (1, .long y1), (3, .long y2), (5, .int x3)] := hl
  have b_ := zk_0
  have b_ := zk_1
  refine lv_lload_n hx hb dX10_distance_0 rfl (lv_at hl 1 rfl) ?_
  refine lv_aload_n hx hb dX10_distance_1 rfl (lv_at hl 0 rfl) ?_
  refine va_get (D := (dC, dI)) (ci := 10) (v := .ref h4) (C := RX10) (T := TX10) (N := 8) hx hb hG zuX10 hown hK hP 0 rfl rfl 4 (by decide) (hG _ zw113) (fun _ h9 => h9) rfl dX10_distance_2 ?_
  have hPc := hP.sub (ws' := [(h4, .inl (k4, 12, .inl f4))]) [1] rfl
  have hDc := hD.sub (ws' := [(h4, .inl (k4, 12, .inl f4))]) [1] (by decide) rfl
  have hKc := hK.sub (tys' := [(k4, .byte)]) [0] rfl
  have hFc := va_free (wc := [(h4, .inl (k4, 12, .inl f4))]) hD hS hA [1] rfl
  refine va_calli (va_runS (As := [.long y1, .ref h4]) (rest := []) ⟨hx, hb, hml, hown, hG⟩ (sX10_spell_0 l dC dI adK adV h4 k4 s.heap.size f4 y1) (va_cwS 2 hG (zgS zw122 zw123 zw74 zw124) rfl rfl rfl (by decide +kernel) ⟨Nat.le_of_ble_eq_true rfl, Nat.le_of_ble_eq_true rfl⟩) ⟨zPc_blind, zPc_pre hPc hKc hDc hE hS hFc hZ⟩ rfl rfl hl.1 rfl (lv_room (Nat.le_of_ble_eq_true rfl)) dX10_distance_5 ⟨Nat.le_of_ble_eq_true rfl, Nat.le_of_ble_eq_true rfl⟩) hS (fun q _ h => hFc q h) hFc (fun r5_ u5_ t H1 locs ht hvm hw hB hz1 hk1 hS => ?_)
  have hw : (0 ≤ r5_.toInt ∧ r5_.toInt ≤ 12) := hw
  have b_ := hw
  obtain ⟨w5_, a5_, b5_, hP1, hK1, hD1⟩ := hB
  rw [ht] at hP1
  obtain ⟨hP, hD⟩ := va_join (wr := [(h0, .inr (10, mX10 h1 h2 h3 h4 h5 h6 v0)), (h5, .inl (k5, 12, .inl f5)), (h6, .inl (k6, 13, .inl f6))]) (w1 := [(h4, .inl (k4, 12, .inl (a5_ 0)))]) hP hD [1] [0, 2, 3] rfl rfl (by decide) (by decide) hk1 hFc hP1 hD1
  have hP : va_P (dC, dI) vwCl [(h0, .inr (10, mX10 h1 h2 h3 h4 h5 h6 v0)), (h4, .inl (k4, 12, .inl (a5_ 0))), (h5, .inl (k5, 12, .inl f5)), (h6, .inl (k6, 13, .inl f6))] H1 := hP.sub [0, 3, 1, 2] rfl
  have hD : va_D A [(h0, .inr (10, mX10 h1 h2 h3 h4 h5 h6 v0)), (h4, .inl (k4, 12, .inl (a5_ 0))), (h5, .inl (k5, 12, .inl f5)), (h6, .inl (k6, 13, .inl f6))] := hD.sub [0, 3, 1, 2] (by decide) rfl
  generalize H1 = H at hP hS ⊢
  clear hz1
  refine lv_istore (lv' := [(6, .int r5_), (0, .ref h0), (1, .long y1), (3, .long y2), (5, .int x3)]) hx hb dX10_distance_8 hl (by decide) rfl (fun ls hl => ?_)
  refine lv_lload_n hx hb dX10_distance_10 rfl (lv_at hl 3 rfl) ?_
  refine lv_aload_n hx hb dX10_distance_11 rfl (lv_at hl 1 rfl) ?_
  refine va_get (D := (dC, dI)) (ci := 10) (v := .ref h5) (C := RX10) (T := TX10) (N := 8) hx hb hG zuX10 hown hK hP 0 rfl rfl 5 (by decide) (hG _ zw114) (fun _ h9 => h9) rfl dX10_distance_12 ?_
  have hPc := hP.sub (ws' := [(h5, .inl (k5, 12, .inl f5))]) [2] rfl
  have hDc := hD.sub (ws' := [(h5, .inl (k5, 12, .inl f5))]) [2] (by decide) rfl
  have hKc := hK.sub (tys' := [(k5, .byte)]) [1] rfl
  have hFc := va_free (wc := [(h5, .inl (k5, 12, .inl f5))]) hD hS hA [2] rfl
  refine va_calli (va_runS (As := [.long y2, .ref h5]) (rest := []) ⟨hx, hb, hml, hown, hG⟩ (sX10_spell_0 l dC dI adK adV h5 k5 H.size f5 y2) (va_cwS 2 hG (zgS zw122 zw123 zw74 zw124) rfl rfl rfl (by decide +kernel) ⟨Nat.le_of_ble_eq_true rfl, Nat.le_of_ble_eq_true rfl⟩) ⟨zPc_blind, zPc_pre hPc hKc hDc hE hS hFc hZ⟩ rfl rfl hl.1 rfl (lv_room (Nat.le_of_ble_eq_true rfl)) dX10_distance_15 ⟨Nat.le_of_ble_eq_true rfl, Nat.le_of_ble_eq_true rfl⟩) hS (fun q _ h => hFc q h) hFc (fun r15_ u15_ t H1 locs ht hvm hw hB hz1 hk1 hS => ?_)
  have hw : (0 ≤ r15_.toInt ∧ r15_.toInt ≤ 12) := hw
  have b_ := hw
  obtain ⟨w15_, a15_, b15_, hP1, hK1, hD1⟩ := hB
  rw [ht] at hP1
  obtain ⟨hP, hD⟩ := va_join (wr := [(h0, .inr (10, mX10 h1 h2 h3 h4 h5 h6 v0)), (h4, .inl (k4, 12, .inl (a5_ 0))), (h6, .inl (k6, 13, .inl f6))]) (w1 := [(h5, .inl (k5, 12, .inl (a15_ 0)))]) hP hD [2] [0, 1, 3] rfl rfl (by decide) (by decide) hk1 hFc hP1 hD1
  have hP : va_P (dC, dI) vwCl [(h0, .inr (10, mX10 h1 h2 h3 h4 h5 h6 v0)), (h4, .inl (k4, 12, .inl (a5_ 0))), (h5, .inl (k5, 12, .inl (a15_ 0))), (h6, .inl (k6, 13, .inl f6))] H1 := hP.sub [0, 1, 3, 2] rfl
  have hD : va_D A [(h0, .inr (10, mX10 h1 h2 h3 h4 h5 h6 v0)), (h4, .inl (k4, 12, .inl (a5_ 0))), (h5, .inl (k5, 12, .inl (a15_ 0))), (h6, .inl (k6, 13, .inl f6))] := hD.sub [0, 1, 3, 2] (by decide) rfl
  generalize H1 = H at hP hS ⊢
  clear hz1
  refine lv_istore (lv' := [(7, .int r15_), (6, .int r5_), (0, .ref h0), (1, .long y1), (3, .long y2), (5, .int x3)]) hx hb dX10_distance_18 hl (by decide) rfl (fun ls hl => ?_)
  refine lv_iload hx hb dX10_distance_20 (lv_at hl 1 rfl) ?_
  refine lv_iload hx hb dX10_distance_22 (lv_at hl 0 rfl) ?_
  refine lv_isub hx hb dX10_distance_24 ?_
  refine lv_topi (fun z24 e_z24 => ?_)
  have b_ := zsub rfl rfl e_z24 (by omega) (by omega)
  refine va_mabs hx hb (by rw [hml]; exact hl.1.symm) hown (hG _ zw115) (hG _ zw116) (hG _ zw9) (hG _ zw117) (Nat.le_of_ble_eq_true rfl) (Nat.le_of_ble_eq_true rfl) (Nat.le_of_ble_eq_true rfl) (Nat.le_of_ble_eq_true rfl) dX10_distance_25 ?_
  refine lv_topi (fun z25 e_z25 => ?_)
  refine lv_iload hx hb dX10_distance_28 (lv_at hl 5 rfl) ?_
  have b_ : -2147483648 ≤ z25.toInt ∧ z25.toInt ≤ 2147483647 := ⟨zlo _, zhi _⟩
  have b_ : -2147483648 ≤ x3.toInt ∧ x3.toInt ≤ 2147483647 := ⟨zlo _, zhi _⟩
  refine lv_icmp_le (tgt := 38) hx hb dX10_distance_30 (by decide) (fun c_ => ?_) (fun c_ => ?_)
  · skip
    have b_ := zT_le rfl rfl c_
    refine lv_iconst (v := 0) hx hb dX10_distance_38 (by decide) ?_
    refine lv_istore (lv' := [(8, .int 0), (7, .int r15_), (6, .int r5_), (0, .ref h0), (1, .long y1), (3, .long y2), (5, .int x3)]) hx hb dX10_distance_39 hl (by decide) rfl (fun ls hl => ?_)
    refine zcutL (fun u41_ => (13 - (u41_ 0).toInt).toNat) (fun H locs ls u41_ w41_ a41_ b41_ => va_P (dC, dI) vwCl [(h0, .inr (10, mX10 h1 h2 h3 h4 h5 h6 v0)), (h4, .inl (k4, 12, .inl (a5_ 0))), (h5, .inl (k5, 12, .inl (a15_ 0))), (h6, .inl (k6, 13, .inl (a41_ 0)))] H ∧ va_D A [(h0, .inr (10, mX10 h1 h2 h3 h4 h5 h6 v0)), (h4, .inl (k4, 12, .inl (a5_ 0))), (h5, .inl (k5, 12, .inl (a15_ 0))), (h6, .inl (k6, 13, .inl (a41_ 0)))] ∧ va_S A s.heap H locs ∧ lv_has ls 9 [(0, .ref h0), (1, .long y1), (3, .long y2), (5, .int x3), (6, .int r5_), (7, .int r15_), (8, .int (u41_ 0))] ∧ (0 ≤ (u41_ 0).toInt ∧ (u41_ 0).toInt ≤ 13)) (fun ls u41_ w41_ => F0 m 41 ls []) 0 0 ?_ (fun hJ41 => ?_)
    · skip
      intro H locs ls u41_ w41_ a41_ b41_ hc hJ41
      obtain ⟨hP, hD, hS, hl, b_⟩ := hc
      refine lv_iload hx hb dX10_distance_41 (lv_at hl 6 rfl) ?_
      refine lv_iload hx hb dX10_distance_43 (lv_at hl 5 rfl) ?_
      refine lv_icmp_gt (tgt := 63) hx hb dX10_distance_45 (by decide) (fun c_ => ?_) (fun c_ => ?_)
      · skip
        have b_ := zT_gt rfl rfl c_
        refine lv_iconst (v := 1) hx hb dX10_distance_63 (by decide) ?_
        refine lv_istore (lv' := [(8, .int 1), (0, .ref h0), (1, .long y1), (3, .long y2), (5, .int x3), (6, .int r5_), (7, .int r15_)]) hx hb dX10_distance_64 hl (by decide) rfl (fun ls hl => ?_)
        refine zcutL (fun u66_ => (13 - (u66_ 0).toInt).toNat) (fun H locs ls u66_ w66_ a66_ b66_ => va_P (dC, dI) vwCl [(h0, .inr (10, mX10 h1 h2 h3 h4 h5 h6 v0)), (h4, .inl (k4, 12, .inl (a5_ 0))), (h5, .inl (k5, 12, .inl (a15_ 0))), (h6, .inl (k6, 13, .inl (a66_ 0)))] H ∧ va_D A [(h0, .inr (10, mX10 h1 h2 h3 h4 h5 h6 v0)), (h4, .inl (k4, 12, .inl (a5_ 0))), (h5, .inl (k5, 12, .inl (a15_ 0))), (h6, .inl (k6, 13, .inl (a66_ 0)))] ∧ va_S A s.heap H locs ∧ lv_has ls 9 [(0, .ref h0), (1, .long y1), (3, .long y2), (5, .int x3), (6, .int r5_), (7, .int r15_), (8, .int (u66_ 0))] ∧ (1 ≤ (u66_ 0).toInt ∧ (u66_ 0).toInt ≤ 13)) (fun ls u66_ w66_ => F0 m 66 ls []) 0 0 ?_ (fun hJ66 => ?_)
        · skip
          intro H locs ls u66_ w66_ a66_ b66_ hc hJ66
          obtain ⟨hP, hD, hS, hl, b_⟩ := hc
          refine lv_iload hx hb dX10_distance_66 (lv_at hl 6 rfl) ?_
          refine lv_iload hx hb dX10_distance_68 (lv_at hl 4 rfl) ?_
          refine lv_icmp_gt (tgt := 97) hx hb dX10_distance_70 (by decide) (fun c_ => ?_) (fun c_ => ?_)
          · skip
            have b_ := zT_gt rfl rfl c_
            refine lv_aload_n hx hb dX10_distance_97 rfl (lv_at hl 0 rfl) ?_
            refine va_get (D := (dC, dI)) (ci := 10) (v := .ref h6) (C := RX10) (T := TX10) (N := 8) hx hb hG zuX10 hown hK hP 0 rfl rfl 6 (by decide) (hG _ zw118) (fun _ h9 => h9) rfl dX10_distance_98 ?_
            refine lv_iload hx hb dX10_distance_101 (lv_at hl 5 rfl) ?_
            refine va_iald hx hb hK hP 3 2 rfl rfl (zin_lit ⟨by omega, by omega⟩) dX10_distance_103 ?_
            refine lv_topi (fun z103 e_z103 => ?_)
            refine W.widen (k := 0) (n := 0) (by decide) (by decide) ?_
            have b_ : -2147483648 ≤ z103.toInt ∧ z103.toInt ≤ 2147483647 := ⟨zlo _, zhi _⟩
            have hpost : True := trivial
            have hP9 : va_P (dC, dI) vwCl [(h0, .inr (10, mX10 h1 h2 h3 h4 h5 h6 v0)), (h4, .inl (k4, 12, .inl (a5_ 0))), (h5, .inl (k5, 12, .inl (a15_ 0))), (h6, .inl (k6, 13, .inl (a66_ 0)))] H := hP
            have hD9 : va_D A [(h0, .inr (10, mX10 h1 h2 h3 h4 h5 h6 v0)), (h4, .inl (k4, 12, .inl (a5_ 0))), (h5, .inl (k5, 12, .inl (a15_ 0))), (h6, .inl (k6, 13, .inl (a66_ 0)))] := hD
            exact W.iret (v := z103) hx hb hr (fun t ht hW => ⟨⟨z103, (fun _ => 0), rfl, hpost, (fun _ => 0), (fun i => ([(a5_ 0), (a15_ 0), (a66_ 0)] : List (Nat → Int32)).getD i (fun _ => 0)), (fun _ => (fun _ => 0)), by rw [ht]; exact hP9, va_K.moved hW.alike hK, hD9⟩, hS.F ht⟩) hS.2.2 dX10_distance_104
          · skip
            have b_ := zF_gt rfl rfl c_
            refine lv_aload_n hx hb dX10_distance_73 rfl (lv_at hl 0 rfl) ?_
            refine lv_iload hx hb dX10_distance_74 (lv_at hl 6 rfl) ?_
            refine lv_iload hx hb dX10_distance_76 (lv_at hl 5 rfl) ?_
            have hPc := hP.sub (ws' := [(h0, .inr (10, mX10 h1 h2 h3 h4 h5 h6 v0)), (h6, .inl (k6, 13, .inl (a66_ 0))), (h4, .inl (k4, 12, .inl (a5_ 0))), (h5, .inl (k5, 12, .inl (a15_ 0)))]) [0, 3, 1, 2] rfl
            have hDc := hD.sub (ws' := [(h0, .inr (10, mX10 h1 h2 h3 h4 h5 h6 v0)), (h6, .inl (k6, 13, .inl (a66_ 0))), (h4, .inl (k4, 12, .inl (a5_ 0))), (h5, .inl (k5, 12, .inl (a15_ 0)))]) [0, 3, 1, 2] (by decide) rfl
            have hKc := hK.sub (tys' := [(k6, .int), (k4, .byte), (k5, .byte)]) [2, 0, 1] rfl
            have hFc := va_free (wc := [(h0, .inr (10, mX10 h1 h2 h3 h4 h5 h6 v0)), (h6, .inl (k6, 13, .inl (a66_ 0))), (h4, .inl (k4, 12, .inl (a5_ 0))), (h5, .inl (k5, 12, .inl (a15_ 0)))]) hD hS hA [0, 3, 1, 2] rfl
            refine va_calli (va_runV (As := [.int (u66_ 0), .int r15_]) (rest := []) ⟨hx, hb, hml, hown, hG⟩ (sX10_nextCosts_1 l dC dI adK adV h0 h6 h4 h5 h1 h2 h3 k6 k4 k5 H.size v0 (a66_ 0) (a5_ 0) (a15_ 0) (u66_ 0) r15_ hv0 ⟨show (1 : Int) ≤ ((u66_ 0) : Int32).toInt from by omega, show ((u66_ 0) : Int32).toInt ≤ (12 : Int) from by omega⟩ ⟨show (0 : Int) ≤ (r15_ : Int32).toInt from by omega, show (r15_ : Int32).toInt ≤ (12 : Int) from by omega⟩) (cwV 2 hG (zgV zw125 zw126 zw127 zw74 zw128) rfl rfl rfl (by decide +kernel) ⟨Nat.le_of_ble_eq_true rfl, Nat.le_of_ble_eq_true rfl⟩) ⟨zPc_blind, va_recv hKc hPc (ci := 10) (q0 := 0) rfl rfl, zPc_pre hPc hKc hDc hE hS hFc hZ⟩ rfl rfl hl.1 rfl (lv_room (Nat.le_of_ble_eq_true rfl)) dX10_distance_78 ⟨Nat.le_of_ble_eq_true rfl, Nat.le_of_ble_eq_true rfl⟩) hS (fun q _ h => hFc q h) hFc (fun r78_ u78_ t H1 locs ht hvm hw hB hz1 hk1 hS => ?_)
            have hw : ((-2147483648) ≤ r78_.toInt ∧ r78_.toInt ≤ 12) := hw
            have b_ := hw
            obtain ⟨w78_, a78_, b78_, hP1, hK1, hD1⟩ := hB
            rw [ht] at hP1
            obtain ⟨hP, hD⟩ := va_join (wr := []) (w1 := [(h0, .inr (10, mX10 h1 h2 h3 h4 h5 h6 v0)), (h6, .inl (k6, 13, .inl (a78_ 0))), (h4, .inl (k4, 12, .inl (a5_ 0))), (h5, .inl (k5, 12, .inl (a15_ 0)))]) hP hD [0, 3, 1, 2] [] rfl rfl (by decide) (by decide) hk1 hFc hP1 hD1
            have hP : va_P (dC, dI) vwCl [(h0, .inr (10, mX10 h1 h2 h3 h4 h5 h6 v0)), (h4, .inl (k4, 12, .inl (a5_ 0))), (h5, .inl (k5, 12, .inl (a15_ 0))), (h6, .inl (k6, 13, .inl (a78_ 0)))] H1 := hP.sub [0, 2, 3, 1] rfl
            have hD : va_D A [(h0, .inr (10, mX10 h1 h2 h3 h4 h5 h6 v0)), (h4, .inl (k4, 12, .inl (a5_ 0))), (h5, .inl (k5, 12, .inl (a15_ 0))), (h6, .inl (k6, 13, .inl (a78_ 0)))] := hD.sub [0, 2, 3, 1] (by decide) rfl
            generalize H1 = H at hP hS ⊢
            clear hz1
            refine lv_iload hx hb dX10_distance_81 (lv_at hl 3 rfl) ?_
            refine lv_icmp_le (tgt := 91) hx hb dX10_distance_83 (by decide) (fun c_ => ?_) (fun c_ => ?_)
            · skip
              have b_ := zT_le rfl rfl c_
              obtain ⟨z91, e_z91⟩ : ∃ z : Int32, z = (u66_ 0) + Int32.ofInt 1 := ⟨_, rfl⟩
              have b_ := zadd (x := (u66_ 0)) (y := Int32.ofInt 1) rfl (show (Int32.ofInt 1).toInt = 1 from by decide) e_z91 (by omega) (by omega)
              refine lv_iinc (v := z91) (lv' := [(8, .int z91), (0, .ref h0), (1, .long y1), (3, .long y2), (5, .int x3), (6, .int r5_), (7, .int r15_)]) hx hb dX10_distance_91 hl (k := 6) rfl e_z91.symm (by decide) rfl (fun ls hl => ?_)
              refine lv_goto (tgt := 66) hx hb dX10_distance_94 (by decide) ?_
              have hc : va_P (dC, dI) vwCl [(h0, .inr (10, mX10 h1 h2 h3 h4 h5 h6 v0)), (h4, .inl (k4, 12, .inl (a5_ 0))), (h5, .inl (k5, 12, .inl (a15_ 0))), (h6, .inl (k6, 13, .inl (a78_ 0)))] H ∧ va_D A [(h0, .inr (10, mX10 h1 h2 h3 h4 h5 h6 v0)), (h4, .inl (k4, 12, .inl (a5_ 0))), (h5, .inl (k5, 12, .inl (a15_ 0))), (h6, .inl (k6, 13, .inl (a78_ 0)))] ∧ va_S A s.heap H locs ∧ lv_has ls 9 [(0, .ref h0), (1, .long y1), (3, .long y2), (5, .int x3), (6, .int r5_), (7, .int r15_), (8, .int z91)] ∧ (1 ≤ z91.toInt ∧ z91.toInt ≤ 13) := ⟨hP, hD, hS, lv_sub hl [1, 2, 3, 4, 5, 6, 0] rfl, ⟨by omega, by omega⟩⟩
              exact hJ66 H locs ls (fun i => ([z91] : List (Int32)).getD i 0) (fun _ => 0) (fun i => ([(a78_ 0)] : List (Nat → Int32)).getD i (fun _ => 0)) (fun _ => (fun _ => 0)) hc (show (13 - z91.toInt).toNat < (13 - (u66_ 0).toInt).toNat from by omega)
            · skip
              have b_ := zF_le rfl rfl c_
              refine lv_iload hx hb dX10_distance_86 (lv_at hl 3 rfl) ?_
              refine lv_iconst (v := 1) hx hb dX10_distance_88 (by decide) ?_
              refine lv_iadd hx hb dX10_distance_89 ?_
              refine lv_topi (fun z89 e_z89 => ?_)
              have b_ := zadd rfl zk_1 e_z89 (by omega) (by omega)
              refine W.widen (k := 0) (n := 0) (by decide) (by decide) ?_
              have hpost : True := trivial
              have hP9 : va_P (dC, dI) vwCl [(h0, .inr (10, mX10 h1 h2 h3 h4 h5 h6 v0)), (h4, .inl (k4, 12, .inl (a5_ 0))), (h5, .inl (k5, 12, .inl (a15_ 0))), (h6, .inl (k6, 13, .inl (a78_ 0)))] H := hP
              have hD9 : va_D A [(h0, .inr (10, mX10 h1 h2 h3 h4 h5 h6 v0)), (h4, .inl (k4, 12, .inl (a5_ 0))), (h5, .inl (k5, 12, .inl (a15_ 0))), (h6, .inl (k6, 13, .inl (a78_ 0)))] := hD
              exact W.iret (v := z89) hx hb hr (fun t ht hW => ⟨⟨z89, (fun _ => 0), rfl, hpost, (fun _ => 0), (fun i => ([(a5_ 0), (a15_ 0), (a78_ 0)] : List (Nat → Int32)).getD i (fun _ => 0)), (fun _ => (fun _ => 0)), by rw [ht]; exact hP9, va_K.moved hW.alike hK, hD9⟩, hS.F ht⟩) hS.2.2 dX10_distance_90
        · skip
          have hc : va_P (dC, dI) vwCl [(h0, .inr (10, mX10 h1 h2 h3 h4 h5 h6 v0)), (h4, .inl (k4, 12, .inl (a5_ 0))), (h5, .inl (k5, 12, .inl (a15_ 0))), (h6, .inl (k6, 13, .inl (a41_ 0)))] H ∧ va_D A [(h0, .inr (10, mX10 h1 h2 h3 h4 h5 h6 v0)), (h4, .inl (k4, 12, .inl (a5_ 0))), (h5, .inl (k5, 12, .inl (a15_ 0))), (h6, .inl (k6, 13, .inl (a41_ 0)))] ∧ va_S A s.heap H locs ∧ lv_has ls 9 [(0, .ref h0), (1, .long y1), (3, .long y2), (5, .int x3), (6, .int r5_), (7, .int r15_), (8, .int 1)] ∧ (1 ≤ (1 : Int32).toInt ∧ (1 : Int32).toInt ≤ 13) := ⟨hP, hD, hS, lv_sub hl [1, 2, 3, 4, 5, 6, 0] rfl, ⟨by omega, by omega⟩⟩
          exact hJ66 H locs ls (fun i => ([1] : List (Int32)).getD i 0) (fun _ => 0) (fun i => ([(a41_ 0)] : List (Nat → Int32)).getD i (fun _ => 0)) (fun _ => (fun _ => 0)) hc
      · skip
        have b_ := zF_gt rfl rfl c_
        refine lv_aload_n hx hb dX10_distance_48 rfl (lv_at hl 0 rfl) ?_
        refine va_get (D := (dC, dI)) (ci := 10) (v := .ref h6) (C := RX10) (T := TX10) (N := 8) hx hb hG zuX10 hown hK hP 0 rfl rfl 6 (by decide) (hG _ zw118) (fun _ h9 => h9) rfl dX10_distance_49 ?_
        refine lv_iload hx hb dX10_distance_52 (lv_at hl 6 rfl) ?_
        refine lv_iload hx hb dX10_distance_54 (lv_at hl 6 rfl) ?_
        refine va_iast hx hb hK hP hD hS 3 2 rfl rfl (zin_lit ⟨by omega, by omega⟩) dX10_distance_56 (fun H locs hP hD hS => ?_)
        obtain ⟨f_56, e_f_56⟩ : ∃ z : Nat → Int32, z = upd (a41_ 0) ((u41_ 0) : Int32).toNatClampNeg (u41_ 0) := ⟨_, rfl⟩
        have hP : va_P (dC, dI) vwCl [(h0, .inr (10, mX10 h1 h2 h3 h4 h5 h6 v0)), (h4, .inl (k4, 12, .inl (a5_ 0))), (h5, .inl (k5, 12, .inl (a15_ 0))), (h6, .inl (k6, 13, .inl f_56))] H := by rw [e_f_56]; exact hP
        have hD : va_D A [(h0, .inr (10, mX10 h1 h2 h3 h4 h5 h6 v0)), (h4, .inl (k4, 12, .inl (a5_ 0))), (h5, .inl (k5, 12, .inl (a15_ 0))), (h6, .inl (k6, 13, .inl f_56))] := by rw [e_f_56]; exact hD
        obtain ⟨z57, e_z57⟩ : ∃ z : Int32, z = (u41_ 0) + Int32.ofInt 1 := ⟨_, rfl⟩
        have b_ := zadd (x := (u41_ 0)) (y := Int32.ofInt 1) rfl (show (Int32.ofInt 1).toInt = 1 from by decide) e_z57 (by omega) (by omega)
        refine lv_iinc (v := z57) (lv' := [(8, .int z57), (0, .ref h0), (1, .long y1), (3, .long y2), (5, .int x3), (6, .int r5_), (7, .int r15_)]) hx hb dX10_distance_57 hl (k := 6) rfl e_z57.symm (by decide) rfl (fun ls hl => ?_)
        refine lv_goto (tgt := 41) hx hb dX10_distance_60 (by decide) ?_
        have hc : va_P (dC, dI) vwCl [(h0, .inr (10, mX10 h1 h2 h3 h4 h5 h6 v0)), (h4, .inl (k4, 12, .inl (a5_ 0))), (h5, .inl (k5, 12, .inl (a15_ 0))), (h6, .inl (k6, 13, .inl f_56))] H ∧ va_D A [(h0, .inr (10, mX10 h1 h2 h3 h4 h5 h6 v0)), (h4, .inl (k4, 12, .inl (a5_ 0))), (h5, .inl (k5, 12, .inl (a15_ 0))), (h6, .inl (k6, 13, .inl f_56))] ∧ va_S A s.heap H locs ∧ lv_has ls 9 [(0, .ref h0), (1, .long y1), (3, .long y2), (5, .int x3), (6, .int r5_), (7, .int r15_), (8, .int z57)] ∧ (0 ≤ z57.toInt ∧ z57.toInt ≤ 13) := ⟨hP, hD, hS, lv_sub hl [1, 2, 3, 4, 5, 6, 0] rfl, ⟨by omega, by omega⟩⟩
        exact hJ41 H locs ls (fun i => ([z57] : List (Int32)).getD i 0) (fun _ => 0) (fun i => ([f_56] : List (Nat → Int32)).getD i (fun _ => 0)) (fun _ => (fun _ => 0)) hc (show (13 - z57.toInt).toNat < (13 - (u41_ 0).toInt).toNat from by omega)
    · skip
      have hc : va_P (dC, dI) vwCl [(h0, .inr (10, mX10 h1 h2 h3 h4 h5 h6 v0)), (h4, .inl (k4, 12, .inl (a5_ 0))), (h5, .inl (k5, 12, .inl (a15_ 0))), (h6, .inl (k6, 13, .inl f6))] H ∧ va_D A [(h0, .inr (10, mX10 h1 h2 h3 h4 h5 h6 v0)), (h4, .inl (k4, 12, .inl (a5_ 0))), (h5, .inl (k5, 12, .inl (a15_ 0))), (h6, .inl (k6, 13, .inl f6))] ∧ va_S A s.heap H locs ∧ lv_has ls 9 [(0, .ref h0), (1, .long y1), (3, .long y2), (5, .int x3), (6, .int r5_), (7, .int r15_), (8, .int 0)] ∧ (0 ≤ (0 : Int32).toInt ∧ (0 : Int32).toInt ≤ 13) := ⟨hP, hD, hS, lv_sub hl [3, 4, 5, 6, 2, 1, 0] rfl, ⟨by omega, by omega⟩⟩
      exact hJ41 H locs ls (fun i => ([0] : List (Int32)).getD i 0) (fun _ => 0) (fun i => ([f6] : List (Nat → Int32)).getD i (fun _ => 0)) (fun _ => (fun _ => 0)) hc
  · skip
    have b_ := zF_le rfl rfl c_
    refine lv_iload hx hb dX10_distance_33 (lv_at hl 5 rfl) ?_
    refine lv_iconst (v := 1) hx hb dX10_distance_35 (by decide) ?_
    refine lv_iadd hx hb dX10_distance_36 ?_
    refine lv_topi (fun z36 e_z36 => ?_)
    have b_ := zadd rfl zk_1 e_z36 (by omega) (by omega)
    refine W.widen (k := 0) (n := 0) (by decide) (by decide) ?_
    have hpost : True := trivial
    have hP9 : va_P (dC, dI) vwCl [(h0, .inr (10, mX10 h1 h2 h3 h4 h5 h6 v0)), (h4, .inl (k4, 12, .inl (a5_ 0))), (h5, .inl (k5, 12, .inl (a15_ 0))), (h6, .inl (k6, 13, .inl f6))] H := hP
    have hD9 : va_D A [(h0, .inr (10, mX10 h1 h2 h3 h4 h5 h6 v0)), (h4, .inl (k4, 12, .inl (a5_ 0))), (h5, .inl (k5, 12, .inl (a15_ 0))), (h6, .inl (k6, 13, .inl f6))] := hD
    exact W.iret (v := z36) hx hb hr (fun t ht hW => ⟨⟨z36, (fun _ => 0), rfl, hpost, (fun _ => 0), (fun i => ([(a5_ 0), (a15_ 0), f6] : List (Nat → Int32)).getD i (fun _ => 0)), (fun _ => (fun _ => 0)), by rw [ht]; exact hP9, va_K.moved hW.alike hK, hD9⟩, hS.F ht⟩) hS.2.2 dX10_distance_37
