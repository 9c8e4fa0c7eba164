set_option maxHeartbeats 8000000 in
set_option maxRecDepth 100000 in
theorem sX13_standing_0 (l : Launch) (dC : Nat → ClassId) (dI : Nat → Nat → Nat) (adK adV : Nat → Nat) (h0 : Nat) (q0 : Nat → Nat) (k5 : ClassId) (sz : Nat) (v0 : Nat → Int32) (f5 : Nat → Int32) (hv0 : zR rg_Model v0) : Met l yX13_standing (zw yX13_standing cX13_standing 3 (some .int)) { frames := 0, cells := 0, slots := 0, locals := 0 } (zPc dC dI adK adV [.ref h0] sz [(h0, .inr (13, mX13 q0 v0)), ((q0 6), .inl (k5, 120, .inl f5))] [(k5, .boolean)]) (va_Qi (fun (r : Int32) (u : Nat → Int32) => True) (fun (u : Nat → Int32) (t : State) => ∃ (ww : Nat → Int64) (aa : Nat → Nat → Int32) (bb : Nat → Nat → Int64), va_P (dC, dI) vwCl [(h0, .inr (13, mX13 q0 v0)), ((q0 6), .inl (k5, 120, .inl f5))] t.heap ∧ va_K (dC, dI) vwCl [(k5, .boolean)] t ∧ va_D (va_A [(h0, .inr (13, mX13 q0 v0)), ((q0 6), .inl (k5, 120, .inl f5))] sz) [(h0, .inr (13, mX13 q0 v0)), ((q0 6), .inl (k5, 120, .inl f5))]) (va_A [(h0, .inr (13, mX13 q0 v0)), ((q0 6), .inl (k5, 120, .inl f5))] sz)) 0 0 (va_A [(h0, .inr (13, mX13 q0 v0)), ((q0 6), .inl (k5, 120, .inl f5))] sz) := by
  refine Met.ofW (cc := cX13_standing) (maxL := 3) (ret := (some .int)) (by decide) rfl ?_
  intro p e s m args below meth c s₁ B hml hv
  obtain ⟨rfl, hsz, hP, hK, hD0, hE, hZ⟩ := hv
  have hx := B.exec
  have hb := B.bytes
  have hr := B.returns
  have hG : ∀ w ∈ zG, w.before _ s = true := fun w h => atoms_spec (ws := (zw yX13_standing cX13_standing 3 (some .int))) B.pre w (List.mem_cons_of_mem _ h)
  have hown : s.vm.findClass RX13 = some m.cls := findClass_of_methodNamed B.named
  have hlocks := B.notSynchronized
  subst hsz
  have hD := hD0.self (sz := s.heap.size)
  generalize hAe : va_A [(h0, .inr (13, mX13 q0 v0)), ((q0 6), .inl (k5, 120, .inl f5))] s.heap.size = A at hD hZ ⊢
  have hA : ∀ q : Nat, s.heap.size ≤ q → A q := fun q h => by rw [← hAe]; exact Or.inr h
  have hS : va_S A s.heap s.heap [] := va_S.rf
  have hl := lv_entry ([.ref h0]) (n := 3) (Nat.le_of_ble_eq_true rfl)
  rw [lg_entry_eq]
  generalize (lg_sl ([.ref h0]) ++ List.replicate (3 - (lg_sl ([.ref h0])).length) Slot.unset).toArray = ls at hl ⊢
  have hl : lv_has ls 3 [(0, .ref h0)] := hl
  have b_ := zk_0
  refine lv_iconst (v := 0) hx hb dX13_standing_0 (by decide) ?_
  refine lv_istore_n (lv' := [(1, .int 0), (0, .ref h0)]) hx hb dX13_standing_1 rfl hl (by decide) rfl (fun ls hl => ?_)
  refine lv_iconst (v := 0) hx hb dX13_standing_2 (by decide) ?_
  refine lv_istore_n (lv' := [(2, .int 0), (1, .int 0), (0, .ref h0)]) hx hb dX13_standing_3 rfl hl (by decide) rfl (fun ls hl => ?_)
  refine zcutL (fun u4_ => (120 - (u4_ 1).toInt).toNat) (fun H locs ls u4_ w4_ a4_ b4_ => va_P (dC, dI) vwCl [(h0, .inr (13, mX13 q0 v0)), ((q0 6), .inl (k5, 120, .inl f5))] H ∧ va_D A [(h0, .inr (13, mX13 q0 v0)), ((q0 6), .inl (k5, 120, .inl f5))] ∧ va_S A s.heap H locs ∧ lv_has ls 3 [(0, .ref h0), (1, .int (u4_ 0)), (2, .int (u4_ 1))] ∧ (0 ≤ (u4_ 1).toInt ∧ (u4_ 1).toInt ≤ 120)) (fun ls u4_ w4_ => F0 m 4 ls []) 0 0 ?_ (fun hJ4 => ?_)
  · skip
    intro H locs ls u4_ w4_ a4_ b4_ hc hJ4
    obtain ⟨hP, hD, hS, hl, b_⟩ := hc
    refine lv_iload_n hx hb dX13_standing_4 rfl (lv_at hl 2 rfl) ?_
    refine lv_aload_n hx hb dX13_standing_5 rfl (lv_at hl 0 rfl) ?_
    have b_ : 0 ≤ (v0 13).toInt ∧ (v0 13).toInt ≤ 120 := hv0 13
    refine va_get (D := (dC, dI)) (ci := 13) (v := .int (v0 13)) (C := RX13) (T := TX13) (N := 75) hx hb hG zuX13 hown hK hP 0 rfl rfl 13 (by decide) (hG _ zw565) (fun _ h9 => h9) rfl dX13_standing_6 ?_
    refine lv_icmp_ge (tgt := 35) hx hb dX13_standing_9 (by decide) (fun c_ => ?_) (fun c_ => ?_)
    · skip
      have b_ := zT_ge rfl rfl c_
      refine lv_iload_n hx hb dX13_standing_35 rfl (lv_at hl 1 rfl) ?_
      refine W.widen (k := 0) (n := 0) (by decide) (by decide) ?_
      have b_ : -2147483648 ≤ (u4_ 0).toInt ∧ (u4_ 0).toInt ≤ 2147483647 := ⟨zlo _, zhi _⟩
      have hpost : True := trivial
      have hP9 : va_P (dC, dI) vwCl [(h0, .inr (13, mX13 q0 v0)), ((q0 6), .inl (k5, 120, .inl f5))] H := hP
      have hD9 : va_D A [(h0, .inr (13, mX13 q0 v0)), ((q0 6), .inl (k5, 120, .inl f5))] := hD
      exact W.iret (v := (u4_ 0)) hx hb hr (fun t ht hW => ⟨⟨(u4_ 0), (fun _ => 0), rfl, hpost, (fun _ => 0), (fun _ => (fun _ => 0)), (fun _ => (fun _ => 0)), by rw [ht]; exact hP9, va_K.moved hW.alike hK, hD9⟩, hS.F ht⟩) hS.2.2 dX13_standing_36
    · skip
      have b_ := zF_ge rfl rfl c_
      refine lv_iload_n hx hb dX13_standing_12 rfl (lv_at hl 1 rfl) ?_
      refine lv_aload_n hx hb dX13_standing_13 rfl (lv_at hl 0 rfl) ?_
      refine va_get (D := (dC, dI)) (ci := 13) (v := .ref (q0 6)) (C := RX13) (T := TX13) (N := 75) hx hb hG zuX13 hown hK hP 0 rfl rfl 6 (by decide) (hG _ zw590) (fun _ h9 => h9) rfl dX13_standing_14 ?_
      refine lv_iload_n hx hb dX13_standing_17 rfl (lv_at hl 2 rfl) ?_
      refine va_zald hx hb hK hP 1 0 rfl rfl (zin_lit ⟨by omega, by omega⟩) dX13_standing_18 ?_
      refine lv_topi (fun z18 e_z18 => ?_)
      have b_ : -2147483648 ≤ z18.toInt ∧ z18.toInt ≤ 2147483647 := ⟨zlo _, zhi _⟩
      refine lv_if_eq (tgt := 26) hx hb dX13_standing_19 (by decide) (fun c_ => ?_) (fun c_ => ?_)
      · skip
        have b_ := zT_eq rfl zk_0 c_
        refine lv_iconst (v := 0) hx hb dX13_standing_26 (by decide) ?_
        have b_ : -2147483648 ≤ (u4_ 0).toInt ∧ (u4_ 0).toInt ≤ 2147483647 := ⟨zlo _, zhi _⟩
        refine lv_iadd hx hb dX13_standing_27 ?_
        refine lv_topi (fun z27 e_z27 => ?_)
        have b_ := zadd rfl zk_0 e_z27 (by omega) (by omega)
        refine lv_istore_n (lv' := [(1, .int z27), (0, .ref h0), (2, .int (u4_ 1))]) hx hb dX13_standing_28 rfl hl (by decide) rfl (fun ls hl => ?_)
        obtain ⟨z29, e_z29⟩ : ∃ z : Int32, z = (u4_ 1) + Int32.ofInt 1 := ⟨_, rfl⟩
        have b_ := zadd (x := (u4_ 1)) (y := Int32.ofInt 1) rfl (show (Int32.ofInt 1).toInt = 1 from by decide) e_z29 (by omega) (by omega)
        refine lv_iinc (v := z29) (lv' := [(2, .int z29), (1, .int z27), (0, .ref h0)]) hx hb dX13_standing_29 hl (k := 2) rfl e_z29.symm (by decide) rfl (fun ls hl => ?_)
        refine lv_goto (tgt := 4) hx hb dX13_standing_32 (by decide) ?_
        have hc : va_P (dC, dI) vwCl [(h0, .inr (13, mX13 q0 v0)), ((q0 6), .inl (k5, 120, .inl f5))] H ∧ va_D A [(h0, .inr (13, mX13 q0 v0)), ((q0 6), .inl (k5, 120, .inl f5))] ∧ va_S A s.heap H locs ∧ lv_has ls 3 [(0, .ref h0), (1, .int z27), (2, .int z29)] ∧ (0 ≤ z29.toInt ∧ z29.toInt ≤ 120) := ⟨hP, hD, hS, lv_sub hl [2, 1, 0] rfl, ⟨by omega, by omega⟩⟩
        exact hJ4 H locs ls (fun i => ([z27, z29] : List (Int32)).getD i 0) (fun _ => 0) (fun _ => (fun _ => 0)) (fun _ => (fun _ => 0)) hc (show (120 - z29.toInt).toNat < (120 - (u4_ 1).toInt).toNat from by omega)
      · skip
        have b_ := zF_eq rfl zk_0 c_
        refine lv_iconst (v := 1) hx hb dX13_standing_22 (by decide) ?_
        refine lv_goto (tgt := 27) hx hb dX13_standing_23 (by decide) ?_
        have b_ : -2147483648 ≤ (u4_ 0).toInt ∧ (u4_ 0).toInt ≤ 2147483647 := ⟨zlo _, zhi _⟩
        refine lv_iadd hx hb dX13_standing_27 ?_
        refine lv_topi (fun z27 e_z27 => ?_)
        refine lv_istore_n (lv' := [(1, .int z27), (0, .ref h0), (2, .int (u4_ 1))]) hx hb dX13_standing_28 rfl hl (by decide) rfl (fun ls hl => ?_)
        obtain ⟨z29, e_z29⟩ : ∃ z : Int32, z = (u4_ 1) + Int32.ofInt 1 := ⟨_, rfl⟩
        have b_ := zadd (x := (u4_ 1)) (y := Int32.ofInt 1) rfl (show (Int32.ofInt 1).toInt = 1 from by decide) e_z29 (by omega) (by omega)
        refine lv_iinc (v := z29) (lv' := [(2, .int z29), (1, .int z27), (0, .ref h0)]) hx hb dX13_standing_29 hl (k := 2) rfl e_z29.symm (by decide) rfl (fun ls hl => ?_)
        refine lv_goto (tgt := 4) hx hb dX13_standing_32 (by decide) ?_
        have b_ : -2147483648 ≤ z27.toInt ∧ z27.toInt ≤ 2147483647 := ⟨zlo _, zhi _⟩
        have hc : va_P (dC, dI) vwCl [(h0, .inr (13, mX13 q0 v0)), ((q0 6), .inl (k5, 120, .inl f5))] H ∧ va_D A [(h0, .inr (13, mX13 q0 v0)), ((q0 6), .inl (k5, 120, .inl f5))] ∧ va_S A s.heap H locs ∧ lv_has ls 3 [(0, .ref h0), (1, .int z27), (2, .int z29)] ∧ (0 ≤ z29.toInt ∧ z29.toInt ≤ 120) := ⟨hP, hD, hS, lv_sub hl [2, 1, 0] rfl, ⟨by omega, by omega⟩⟩
        exact hJ4 H locs ls (fun i => ([z27, z29] : List (Int32)).getD i 0) (fun _ => 0) (fun _ => (fun _ => 0)) (fun _ => (fun _ => 0)) hc (show (120 - z29.toInt).toNat < (120 - (u4_ 1).toInt).toNat from by omega)
  · skip
    have hc : va_P (dC, dI) vwCl [(h0, .inr (13, mX13 q0 v0)), ((q0 6), .inl (k5, 120, .inl f5))] s.heap ∧ va_D A [(h0, .inr (13, mX13 q0 v0)), ((q0 6), .inl (k5, 120, .inl f5))] ∧ va_S A s.heap s.heap [] ∧ lv_has ls 3 [(0, .ref h0), (1, .int 0), (2, .int 0)] ∧ (0 ≤ (0 : Int32).toInt ∧ (0 : Int32).toInt ≤ 120) := ⟨hP, hD, hS, lv_sub hl [2, 1, 0] rfl, ⟨by omega, by omega⟩⟩
    exact hJ4 s.heap [] ls (fun i => ([0, 0] : List (Int32)).getD i 0) (fun _ => 0) (fun _ => (fun _ => 0)) (fun _ => (fun _ => 0)) hc
set_option maxHeartbeats 8000000 in
set_option maxRecDepth 100000 in
theorem sX13_count_0 (l : Launch) (dC : Nat → ClassId) (dI : Nat → Nat → Nat) (adK adV : Nat → Nat) (h0 : Nat) (q0 : Nat → Nat) (k5 : ClassId) (k17 : ClassId) (k18 : ClassId) (k6 : ClassId) (k4 : ClassId) (k20 : ClassId) (k19 : ClassId) (sz : Nat) (v0 : Nat → Int32) (f5 : Nat → Int32) (f17 : Nat → Int32) (f18 : Nat → Int32) (f6 : Nat → Int32) (f4 : Nat → Int32) (f20 : Nat → Int32) (f19 : Nat → Int32) (x1 : Int32) (hv0 : zR rg_Model v0) (hf18 : zA (-1) 119 f18) (hf4 : zA 0 400 f4) (hf19 : zA (-1) 1023 f19) : Met l yX13_count (zw yX13_count cX13_count 2 (some .int)) { frames := 4, cells := 0, slots := 0, locals := 87 } (zPc dC dI adK adV [.ref h0, .int x1] sz [(h0, .inr (13, mX13 q0 v0)), ((q0 6), .inl (k5, 120, .inl f5)), ((q0 25), .inl (k17, 400, .inl f17)), ((q0 26), .inl (k18, 400, .inl f18)), ((q0 7), .inl (k6, 120, .inl f6)), ((q0 5), .inl (k4, 122880, .inl f4)), ((q0 28), .inl (k20, 400, .inl f20)), ((q0 27), .inl (k19, 400, .inl f19))] [(k5, .boolean), (k17, .int), (k18, .int), (k6, .boolean), (k4, .short), (k20, .int), (k19, .int)]) (va_Qi (fun (r : Int32) (u : Nat → Int32) => (0 ≤ (u 0).toInt ∧ (u 0).toInt ≤ 0)) (fun (u : Nat → Int32) (t : State) => ∃ (ww : Nat → Int64) (aa : Nat → Nat → Int32) (bb : Nat → Nat → Int64), zA (-1) 119 (aa 1) ∧ zA (-1) 1023 (aa 3) ∧ va_P (dC, dI) vwCl [(h0, .inr (13, mX13 q0 (upd v0 21 (u 0)))), ((q0 6), .inl (k5, 120, .inl f5)), ((q0 25), .inl (k17, 400, .inl (aa 0))), ((q0 26), .inl (k18, 400, .inl (aa 1))), ((q0 7), .inl (k6, 120, .inl f6)), ((q0 5), .inl (k4, 122880, .inl f4)), ((q0 28), .inl (k20, 400, .inl (aa 2))), ((q0 27), .inl (k19, 400, .inl (aa 3)))] t.heap ∧ va_K (dC, dI) vwCl [(k5, .boolean), (k17, .int), (k18, .int), (k6, .boolean), (k4, .short), (k20, .int), (k19, .int)] t ∧ va_D (va_A [(h0, .inr (13, mX13 q0 v0)), ((q0 6), .inl (k5, 120, .inl f5)), ((q0 25), .inl (k17, 400, .inl f17)), ((q0 26), .inl (k18, 400, .inl f18)), ((q0 7), .inl (k6, 120, .inl f6)), ((q0 5), .inl (k4, 122880, .inl f4)), ((q0 28), .inl (k20, 400, .inl f20)), ((q0 27), .inl (k19, 400, .inl f19))] sz) [(h0, .inr (13, mX13 q0 (upd v0 21 (u 0)))), ((q0 6), .inl (k5, 120, .inl f5)), ((q0 25), .inl (k17, 400, .inl (aa 0))), ((q0 26), .inl (k18, 400, .inl (aa 1))), ((q0 7), .inl (k6, 120, .inl f6)), ((q0 5), .inl (k4, 122880, .inl f4)), ((q0 28), .inl (k20, 400, .inl (aa 2))), ((q0 27), .inl (k19, 400, .inl (aa 3)))]) (va_A [(h0, .inr (13, mX13 q0 v0)), ((q0 6), .inl (k5, 120, .inl f5)), ((q0 25), .inl (k17, 400, .inl f17)), ((q0 26), .inl (k18, 400, .inl f18)), ((q0 7), .inl (k6, 120, .inl f6)), ((q0 5), .inl (k4, 122880, .inl f4)), ((q0 28), .inl (k20, 400, .inl f20)), ((q0 27), .inl (k19, 400, .inl f19))] sz)) 0 0 (va_A [(h0, .inr (13, mX13 q0 v0)), ((q0 6), .inl (k5, 120, .inl f5)), ((q0 25), .inl (k17, 400, .inl f17)), ((q0 26), .inl (k18, 400, .inl f18)), ((q0 7), .inl (k6, 120, .inl f6)), ((q0 5), .inl (k4, 122880, .inl f4)), ((q0 28), .inl (k20, 400, .inl f20)), ((q0 27), .inl (k19, 400, .inl f19))] sz) := by
  refine Met.ofW (cc := cX13_count) (maxL := 2) (ret := (some .int)) (by decide) rfl ?_
  intro p e s m args below meth c s₁ B hml hv
  obtain ⟨rfl, hsz, hP, hK, hD0, hE, hZ⟩ := hv
  have hx := B.exec
  have hb := B.bytes
  have hr := B.returns
  have hG : ∀ w ∈ zG, w.before _ s = true := fun w h => atoms_spec (ws := (zw yX13_count cX13_count 2 (some .int))) B.pre w (List.mem_cons_of_mem _ h)
  have hown : s.vm.findClass RX13 = some m.cls := findClass_of_methodNamed B.named
  have hlocks := B.notSynchronized
  subst hsz
  have hD := hD0.self (sz := s.heap.size)
  generalize hAe : va_A [(h0, .inr (13, mX13 q0 v0)), ((q0 6), .inl (k5, 120, .inl f5)), ((q0 25), .inl (k17, 400, .inl f17)), ((q0 26), .inl (k18, 400, .inl f18)), ((q0 7), .inl (k6, 120, .inl f6)), ((q0 5), .inl (k4, 122880, .inl f4)), ((q0 28), .inl (k20, 400, .inl f20)), ((q0 27), .inl (k19, 400, .inl f19))] s.heap.size = A at hD hZ ⊢
  have hA : ∀ q : Nat, s.heap.size ≤ q → A q := fun q h => by rw [← hAe]; exact Or.inr h
  have hS : va_S A s.heap s.heap [] := va_S.rf
  have hl := lv_entry ([.ref h0, .int x1]) (n := 2) (Nat.le_of_ble_eq_true rfl)
  rw [lg_entry_eq]
  generalize (lg_sl ([.ref h0, .int x1]) ++ List.replicate (2 - (lg_sl ([.ref h0, .int x1])).length) Slot.unset).toArray = ls at hl ⊢
  have hl : lv_has ls 2 [(0, .ref h0), (1, .int x1)] := hl
  have b_ := zk_0
  have b_ := zk_1
  have b_ := zk_2
  have b_ := zk_3
  have b_ := zk_4
  have b_ := zk_5
  have b_ := zk_6
  refine lv_aload_n hx hb dX13_count_0 rfl (lv_at hl 0 rfl) ?_
  refine lv_iconst (v := 0) hx hb dX13_count_1 (by decide) ?_
  refine va_put (D := (dC, dI)) (ci := 13) (v := .int 0) (ty := .int) (C := RX13) (T := TX13) (N := 75) hx hb hG zuX13 tyX13 tyX13_ok nmX13 hown hK hP hD hS 0 rfl rfl 21 (by decide) (hG _ zw518) (fun _ h9 => h9) rfl (by decide +kernel) rfl rfl (Nat.le_of_ble_eq_true rfl) dX13_count_2 (fun H locs hP hD hS => ?_)
  have hP : va_P (dC, dI) vwCl [(h0, .inr (13, mX13 q0 (upd v0 21 0))), ((q0 6), .inl (k5, 120, .inl f5)), ((q0 25), .inl (k17, 400, .inl f17)), ((q0 26), .inl (k18, 400, .inl f18)), ((q0 7), .inl (k6, 120, .inl f6)), ((q0 5), .inl (k4, 122880, .inl f4)), ((q0 28), .inl (k20, 400, .inl f20)), ((q0 27), .inl (k19, 400, .inl f19))] H := hP
  have hD : va_D A [(h0, .inr (13, mX13 q0 (upd v0 21 0))), ((q0 6), .inl (k5, 120, .inl f5)), ((q0 25), .inl (k17, 400, .inl f17)), ((q0 26), .inl (k18, 400, .inl f18)), ((q0 7), .inl (k6, 120, .inl f6)), ((q0 5), .inl (k4, 122880, .inl f4)), ((q0 28), .inl (k20, 400, .inl f20)), ((q0 27), .inl (k19, 400, .inl f19))] := hD
  refine lv_iload_n hx hb dX13_count_5 rfl (lv_at hl 1 rfl) ?_
  rcases Classical.em (x1 = (0 : Int32)) with c_ | c_
  · skip
    have b_ : x1.toInt = 0 := by rw [c_]; exact zk_0
    refine lv_tableIn (off := 42) (tgt := 48) hx hb dX13_count_6 (by omega) (by omega) (by rw [b_]; decide) (by decide) ?_
    refine lv_aload_n hx hb dX13_count_48 rfl (lv_at hl 0 rfl) ?_
    have b_ : 0 ≤ (v0 13).toInt ∧ (v0 13).toInt ≤ 120 := hv0 13
    refine va_get (D := (dC, dI)) (ci := 13) (v := .int (v0 13)) (C := RX13) (T := TX13) (N := 75) hx hb hG zuX13 hown hK hP 0 rfl rfl 13 (by decide) (hG _ zw565) (fun _ h9 => h9) rfl dX13_count_49 ?_
    refine W.widen (k := 0) (n := 0) (by decide) (by decide) ?_
    have hpost : (0 ≤ (0 : Int32).toInt ∧ (0 : Int32).toInt ≤ 0) := ⟨by omega, by omega⟩
    have hP9 : va_P (dC, dI) vwCl [(h0, .inr (13, mX13 q0 (upd v0 21 0))), ((q0 6), .inl (k5, 120, .inl f5)), ((q0 25), .inl (k17, 400, .inl f17)), ((q0 26), .inl (k18, 400, .inl f18)), ((q0 7), .inl (k6, 120, .inl f6)), ((q0 5), .inl (k4, 122880, .inl f4)), ((q0 28), .inl (k20, 400, .inl f20)), ((q0 27), .inl (k19, 400, .inl f19))] H := hP
    have hD9 : va_D A [(h0, .inr (13, mX13 q0 (upd v0 21 0))), ((q0 6), .inl (k5, 120, .inl f5)), ((q0 25), .inl (k17, 400, .inl f17)), ((q0 26), .inl (k18, 400, .inl f18)), ((q0 7), .inl (k6, 120, .inl f6)), ((q0 5), .inl (k4, 122880, .inl f4)), ((q0 28), .inl (k20, 400, .inl f20)), ((q0 27), .inl (k19, 400, .inl f19))] := hD
    exact W.iret (v := (v0 13)) hx hb hr (fun t ht hW => ⟨⟨(v0 13), (fun i => ([0] : List (Int32)).getD i 0), rfl, hpost, (fun _ => 0), (fun i => ([f17, f18, f20, f19] : List (Nat → Int32)).getD i (fun _ => 0)), (fun _ => (fun _ => 0)), hf18, hf19, by rw [ht]; exact hP9, va_K.moved hW.alike hK, hD9⟩, hS.F ht⟩) hS.2.2 dX13_count_52
  · skip
    have b_ : x1.toInt ≠ 0 := fun h => c_ (zeqi.mpr (h.trans zk_0.symm))
    rcases Classical.em (x1 = (1 : Int32)) with c_ | c_
    · skip
      have b_ : x1.toInt = 1 := by rw [c_]; exact zk_1
      refine lv_tableIn (off := 47) (tgt := 53) hx hb dX13_count_6 (by omega) (by omega) (by rw [b_]; decide) (by decide) ?_
      refine lv_aload_n hx hb dX13_count_53 rfl (lv_at hl 0 rfl) ?_
      have hPc := hP.sub (ws' := [(h0, .inr (13, mX13 q0 (upd v0 21 0))), ((q0 6), .inl (k5, 120, .inl f5))]) [0, 1] rfl
      have hDc := hD.sub (ws' := [(h0, .inr (13, mX13 q0 (upd v0 21 0))), ((q0 6), .inl (k5, 120, .inl f5))]) [0, 1] (by decide) rfl
      have hKc := hK.sub (tys' := [(k5, .boolean)]) [0] rfl
      have hFc := va_free (wc := [(h0, .inr (13, mX13 q0 (upd v0 21 0))), ((q0 6), .inl (k5, 120, .inl f5))]) hD hS hA [0, 1] rfl
      refine va_calli (va_runV (As := []) (rest := []) ⟨hx, hb, hml, hown, hG⟩ (sX13_standing_0 l dC dI adK adV h0 q0 k5 H.size (upd v0 21 0) f5 (zR_updF hv0 21 rfl)) (cwV 0 hG (zgV zw665 zw666 zw667 zw524 zw668) rfl rfl rfl (by decide +kernel) ⟨Nat.le_of_ble_eq_true rfl, Nat.le_of_ble_eq_true rfl⟩) ⟨zPc_blind, va_recv hKc hPc (ci := 13) (q0 := 0) rfl rfl, zPc_pre hPc hKc hDc hE hS hFc hZ⟩ rfl rfl hl.1 rfl (lv_room (Nat.le_of_ble_eq_true rfl)) dX13_count_54 ⟨Nat.le_of_ble_eq_true rfl, Nat.le_of_ble_eq_true rfl⟩) hS (fun q _ h => hFc q h) hFc (fun r54_ u54_ t H1 locs ht hvm hw hB hz1 hk1 hS => ?_)
      obtain ⟨w54_, a54_, b54_, hP1, hK1, hD1⟩ := hB
      rw [ht] at hP1
      obtain ⟨hP, hD⟩ := va_join (wr := [((q0 25), .inl (k17, 400, .inl f17)), ((q0 26), .inl (k18, 400, .inl f18)), ((q0 7), .inl (k6, 120, .inl f6)), ((q0 5), .inl (k4, 122880, .inl f4)), ((q0 28), .inl (k20, 400, .inl f20)), ((q0 27), .inl (k19, 400, .inl f19))]) (w1 := [(h0, .inr (13, mX13 q0 (upd v0 21 0))), ((q0 6), .inl (k5, 120, .inl f5))]) hP hD [0, 1] [2, 3, 4, 5, 6, 7] rfl rfl (by decide) (by decide) hk1 hFc hP1 hD1
      have hP : va_P (dC, dI) vwCl [(h0, .inr (13, mX13 q0 (upd v0 21 0))), ((q0 6), .inl (k5, 120, .inl f5)), ((q0 25), .inl (k17, 400, .inl f17)), ((q0 26), .inl (k18, 400, .inl f18)), ((q0 7), .inl (k6, 120, .inl f6)), ((q0 5), .inl (k4, 122880, .inl f4)), ((q0 28), .inl (k20, 400, .inl f20)), ((q0 27), .inl (k19, 400, .inl f19))] H1 := hP.sub [6, 7, 0, 1, 2, 3, 4, 5] rfl
      have hD : va_D A [(h0, .inr (13, mX13 q0 (upd v0 21 0))), ((q0 6), .inl (k5, 120, .inl f5)), ((q0 25), .inl (k17, 400, .inl f17)), ((q0 26), .inl (k18, 400, .inl f18)), ((q0 7), .inl (k6, 120, .inl f6)), ((q0 5), .inl (k4, 122880, .inl f4)), ((q0 28), .inl (k20, 400, .inl f20)), ((q0 27), .inl (k19, 400, .inl f19))] := hD.sub [6, 7, 0, 1, 2, 3, 4, 5] (by decide) rfl
      generalize H1 = H at hP hS ⊢
      clear hz1
      refine W.widen (k := 0) (n := 0) (by decide) (by decide) ?_
      have b_ : -2147483648 ≤ r54_.toInt ∧ r54_.toInt ≤ 2147483647 := ⟨zlo _, zhi _⟩
      have hpost : (0 ≤ (0 : Int32).toInt ∧ (0 : Int32).toInt ≤ 0) := ⟨by omega, by omega⟩
      have hP9 : va_P (dC, dI) vwCl [(h0, .inr (13, mX13 q0 (upd v0 21 0))), ((q0 6), .inl (k5, 120, .inl f5)), ((q0 25), .inl (k17, 400, .inl f17)), ((q0 26), .inl (k18, 400, .inl f18)), ((q0 7), .inl (k6, 120, .inl f6)), ((q0 5), .inl (k4, 122880, .inl f4)), ((q0 28), .inl (k20, 400, .inl f20)), ((q0 27), .inl (k19, 400, .inl f19))] H := hP
      have hD9 : va_D A [(h0, .inr (13, mX13 q0 (upd v0 21 0))), ((q0 6), .inl (k5, 120, .inl f5)), ((q0 25), .inl (k17, 400, .inl f17)), ((q0 26), .inl (k18, 400, .inl f18)), ((q0 7), .inl (k6, 120, .inl f6)), ((q0 5), .inl (k4, 122880, .inl f4)), ((q0 28), .inl (k20, 400, .inl f20)), ((q0 27), .inl (k19, 400, .inl f19))] := hD
      exact W.iret (v := r54_) hx hb hr (fun t ht hW => ⟨⟨r54_, (fun i => ([0] : List (Int32)).getD i 0), rfl, hpost, (fun _ => 0), (fun i => ([f17, f18, f20, f19] : List (Nat → Int32)).getD i (fun _ => 0)), (fun _ => (fun _ => 0)), hf18, hf19, by rw [ht]; exact hP9, va_K.moved hW.alike hK, hD9⟩, hS.F ht⟩) hS.2.2 dX13_count_57
    · skip
      have b_ : x1.toInt ≠ 1 := fun h => c_ (zeqi.mpr (h.trans zk_1.symm))
      rcases Classical.em (x1 = (2 : Int32)) with c_ | c_
      · skip
        have b_ : x1.toInt = 2 := by rw [c_]; exact zk_2
        refine lv_tableIn (off := 52) (tgt := 58) hx hb dX13_count_6 (by omega) (by omega) (by rw [b_]; decide) (by decide) ?_
        refine lv_aload_n hx hb dX13_count_58 rfl (lv_at hl 0 rfl) ?_
        have b_ : 0 ≤ (v0 4).toInt ∧ (v0 4).toInt ≤ 400 := hv0 4
        refine va_get (D := (dC, dI)) (ci := 13) (v := .int (v0 4)) (C := RX13) (T := TX13) (N := 75) hx hb hG zuX13 hown hK hP 0 rfl rfl 4 (by decide) (hG _ zw551) (fun _ h9 => h9) rfl dX13_count_59 ?_
        refine W.widen (k := 0) (n := 0) (by decide) (by decide) ?_
        have hpost : (0 ≤ (0 : Int32).toInt ∧ (0 : Int32).toInt ≤ 0) := ⟨by omega, by omega⟩
        have hP9 : va_P (dC, dI) vwCl [(h0, .inr (13, mX13 q0 (upd v0 21 0))), ((q0 6), .inl (k5, 120, .inl f5)), ((q0 25), .inl (k17, 400, .inl f17)), ((q0 26), .inl (k18, 400, .inl f18)), ((q0 7), .inl (k6, 120, .inl f6)), ((q0 5), .inl (k4, 122880, .inl f4)), ((q0 28), .inl (k20, 400, .inl f20)), ((q0 27), .inl (k19, 400, .inl f19))] H := hP
        have hD9 : va_D A [(h0, .inr (13, mX13 q0 (upd v0 21 0))), ((q0 6), .inl (k5, 120, .inl f5)), ((q0 25), .inl (k17, 400, .inl f17)), ((q0 26), .inl (k18, 400, .inl f18)), ((q0 7), .inl (k6, 120, .inl f6)), ((q0 5), .inl (k4, 122880, .inl f4)), ((q0 28), .inl (k20, 400, .inl f20)), ((q0 27), .inl (k19, 400, .inl f19))] := hD
        exact W.iret (v := (v0 4)) hx hb hr (fun t ht hW => ⟨⟨(v0 4), (fun i => ([0] : List (Int32)).getD i 0), rfl, hpost, (fun _ => 0), (fun i => ([f17, f18, f20, f19] : List (Nat → Int32)).getD i (fun _ => 0)), (fun _ => (fun _ => 0)), hf18, hf19, by rw [ht]; exact hP9, va_K.moved hW.alike hK, hD9⟩, hS.F ht⟩) hS.2.2 dX13_count_62
      · skip
        have b_ : x1.toInt ≠ 2 := fun h => c_ (zeqi.mpr (h.trans zk_2.symm))
        rcases Classical.em (x1 = (3 : Int32)) with c_ | c_
        · skip
          have b_ : x1.toInt = 3 := by rw [c_]; exact zk_3
          refine lv_tableIn (off := 57) (tgt := 63) hx hb dX13_count_6 (by omega) (by omega) (by rw [b_]; decide) (by decide) ?_
          refine lv_aload_n hx hb dX13_count_63 rfl (lv_at hl 0 rfl) ?_
          have hPc := hP.sub (ws' := [(h0, .inr (13, mX13 q0 (upd v0 21 0))), ((q0 25), .inl (k17, 400, .inl f17)), ((q0 26), .inl (k18, 400, .inl f18)), ((q0 7), .inl (k6, 120, .inl f6)), ((q0 5), .inl (k4, 122880, .inl f4)), ((q0 28), .inl (k20, 400, .inl f20)), ((q0 27), .inl (k19, 400, .inl f19))]) [0, 2, 3, 4, 5, 6, 7] rfl
          have hDc := hD.sub (ws' := [(h0, .inr (13, mX13 q0 (upd v0 21 0))), ((q0 25), .inl (k17, 400, .inl f17)), ((q0 26), .inl (k18, 400, .inl f18)), ((q0 7), .inl (k6, 120, .inl f6)), ((q0 5), .inl (k4, 122880, .inl f4)), ((q0 28), .inl (k20, 400, .inl f20)), ((q0 27), .inl (k19, 400, .inl f19))]) [0, 2, 3, 4, 5, 6, 7] (by decide) rfl
          have hKc := hK.sub (tys' := [(k17, .int), (k18, .int), (k6, .boolean), (k4, .short), (k20, .int), (k19, .int)]) [1, 2, 3, 4, 5, 6] rfl
          have hFc := va_free (wc := [(h0, .inr (13, mX13 q0 (upd v0 21 0))), ((q0 25), .inl (k17, 400, .inl f17)), ((q0 26), .inl (k18, 400, .inl f18)), ((q0 7), .inl (k6, 120, .inl f6)), ((q0 5), .inl (k4, 122880, .inl f4)), ((q0 28), .inl (k20, 400, .inl f20)), ((q0 27), .inl (k19, 400, .inl f19))]) hD hS hA [0, 2, 3, 4, 5, 6, 7] rfl
          refine va_calli (va_runV (As := []) (rest := []) ⟨hx, hb, hml, hown, hG⟩ (sX13_taken_0 l dC dI adK adV h0 q0 k17 k18 k6 k4 k20 k19 H.size (upd v0 21 0) f17 f18 f6 f4 f20 f19 (zR_updF hv0 21 rfl) hf18 hf4 hf19) (cwV 0 hG (zgV zw598 zw599 zw600 zw524 zw601) rfl rfl rfl (by decide +kernel) ⟨Nat.le_of_ble_eq_true rfl, Nat.le_of_ble_eq_true rfl⟩) ⟨zPc_blind, va_recv hKc hPc (ci := 13) (q0 := 0) rfl rfl, zPc_pre hPc hKc hDc hE hS hFc hZ⟩ rfl rfl hl.1 rfl (lv_room (Nat.le_of_ble_eq_true rfl)) dX13_count_64 ⟨Nat.le_of_ble_eq_true rfl, Nat.le_of_ble_eq_true rfl⟩) hS (fun q _ h => hFc q h) hFc (fun r64_ u64_ t H1 locs ht hvm hw hB hz1 hk1 hS => ?_)
          obtain ⟨w64_, a64_, b64_, ha64_1, ha64_3, hP1, hK1, hD1⟩ := hB
          rw [ht] at hP1
          obtain ⟨hP, hD⟩ := va_join (wr := [((q0 6), .inl (k5, 120, .inl f5))]) (w1 := [(h0, .inr (13, mX13 q0 (upd v0 21 0))), ((q0 25), .inl (k17, 400, .inl (a64_ 0))), ((q0 26), .inl (k18, 400, .inl (a64_ 1))), ((q0 7), .inl (k6, 120, .inl f6)), ((q0 5), .inl (k4, 122880, .inl f4)), ((q0 28), .inl (k20, 400, .inl (a64_ 2))), ((q0 27), .inl (k19, 400, .inl (a64_ 3)))]) hP hD [0, 2, 3, 4, 5, 6, 7] [1] rfl rfl (by decide) (by decide) hk1 hFc hP1 hD1
          have hP : va_P (dC, dI) vwCl [(h0, .inr (13, mX13 q0 (upd v0 21 0))), ((q0 6), .inl (k5, 120, .inl f5)), ((q0 25), .inl (k17, 400, .inl (a64_ 0))), ((q0 26), .inl (k18, 400, .inl (a64_ 1))), ((q0 7), .inl (k6, 120, .inl f6)), ((q0 5), .inl (k4, 122880, .inl f4)), ((q0 28), .inl (k20, 400, .inl (a64_ 2))), ((q0 27), .inl (k19, 400, .inl (a64_ 3)))] H1 := hP.sub [1, 0, 2, 3, 4, 5, 6, 7] rfl
          have hD : va_D A [(h0, .inr (13, mX13 q0 (upd v0 21 0))), ((q0 6), .inl (k5, 120, .inl f5)), ((q0 25), .inl (k17, 400, .inl (a64_ 0))), ((q0 26), .inl (k18, 400, .inl (a64_ 1))), ((q0 7), .inl (k6, 120, .inl f6)), ((q0 5), .inl (k4, 122880, .inl f4)), ((q0 28), .inl (k20, 400, .inl (a64_ 2))), ((q0 27), .inl (k19, 400, .inl (a64_ 3)))] := hD.sub [1, 0, 2, 3, 4, 5, 6, 7] (by decide) rfl
          generalize H1 = H at hP hS ⊢
          clear hz1
          refine W.widen (k := 0) (n := 0) (by decide) (by decide) ?_
          have b_ : -2147483648 ≤ r64_.toInt ∧ r64_.toInt ≤ 2147483647 := ⟨zlo _, zhi _⟩
          have hpost : (0 ≤ (0 : Int32).toInt ∧ (0 : Int32).toInt ≤ 0) := ⟨by omega, by omega⟩
          have hP9 : va_P (dC, dI) vwCl [(h0, .inr (13, mX13 q0 (upd v0 21 0))), ((q0 6), .inl (k5, 120, .inl f5)), ((q0 25), .inl (k17, 400, .inl (a64_ 0))), ((q0 26), .inl (k18, 400, .inl (a64_ 1))), ((q0 7), .inl (k6, 120, .inl f6)), ((q0 5), .inl (k4, 122880, .inl f4)), ((q0 28), .inl (k20, 400, .inl (a64_ 2))), ((q0 27), .inl (k19, 400, .inl (a64_ 3)))] H := hP
          have hD9 : va_D A [(h0, .inr (13, mX13 q0 (upd v0 21 0))), ((q0 6), .inl (k5, 120, .inl f5)), ((q0 25), .inl (k17, 400, .inl (a64_ 0))), ((q0 26), .inl (k18, 400, .inl (a64_ 1))), ((q0 7), .inl (k6, 120, .inl f6)), ((q0 5), .inl (k4, 122880, .inl f4)), ((q0 28), .inl (k20, 400, .inl (a64_ 2))), ((q0 27), .inl (k19, 400, .inl (a64_ 3)))] := hD
          exact W.iret (v := r64_) hx hb hr (fun t ht hW => ⟨⟨r64_, (fun i => ([0] : List (Int32)).getD i 0), rfl, hpost, (fun _ => 0), (fun i => ([(a64_ 0), (a64_ 1), (a64_ 2), (a64_ 3)] : List (Nat → Int32)).getD i (fun _ => 0)), (fun _ => (fun _ => 0)), ha64_1, ha64_3, by rw [ht]; exact hP9, va_K.moved hW.alike hK, hD9⟩, hS.F ht⟩) hS.2.2 dX13_count_67
        · skip
          have b_ : x1.toInt ≠ 3 := fun h => c_ (zeqi.mpr (h.trans zk_3.symm))
          rcases Classical.em (x1 = (4 : Int32)) with c_ | c_
          · skip
            have b_ : x1.toInt = 4 := by rw [c_]; exact zk_4
            refine lv_tableIn (off := 62) (tgt := 68) hx hb dX13_count_6 (by omega) (by omega) (by rw [b_]; decide) (by decide) ?_
            refine lv_aload_n hx hb dX13_count_68 rfl (lv_at hl 0 rfl) ?_
            have hPc := hP.sub (ws' := [(h0, .inr (13, mX13 q0 (upd v0 21 0))), ((q0 25), .inl (k17, 400, .inl f17)), ((q0 26), .inl (k18, 400, .inl f18)), ((q0 7), .inl (k6, 120, .inl f6)), ((q0 5), .inl (k4, 122880, .inl f4)), ((q0 28), .inl (k20, 400, .inl f20)), ((q0 27), .inl (k19, 400, .inl f19))]) [0, 2, 3, 4, 5, 6, 7] rfl
            have hDc := hD.sub (ws' := [(h0, .inr (13, mX13 q0 (upd v0 21 0))), ((q0 25), .inl (k17, 400, .inl f17)), ((q0 26), .inl (k18, 400, .inl f18)), ((q0 7), .inl (k6, 120, .inl f6)), ((q0 5), .inl (k4, 122880, .inl f4)), ((q0 28), .inl (k20, 400, .inl f20)), ((q0 27), .inl (k19, 400, .inl f19))]) [0, 2, 3, 4, 5, 6, 7] (by decide) rfl
            have hKc := hK.sub (tys' := [(k17, .int), (k18, .int), (k6, .boolean), (k4, .short), (k20, .int), (k19, .int)]) [1, 2, 3, 4, 5, 6] rfl
            have hFc := va_free (wc := [(h0, .inr (13, mX13 q0 (upd v0 21 0))), ((q0 25), .inl (k17, 400, .inl f17)), ((q0 26), .inl (k18, 400, .inl f18)), ((q0 7), .inl (k6, 120, .inl f6)), ((q0 5), .inl (k4, 122880, .inl f4)), ((q0 28), .inl (k20, 400, .inl f20)), ((q0 27), .inl (k19, 400, .inl f19))]) hD hS hA [0, 2, 3, 4, 5, 6, 7] rfl
            refine va_calli (va_runV (As := []) (rest := []) ⟨hx, hb, hml, hown, hG⟩ (sX13_allBits_0 l dC dI adK adV h0 q0 k17 k18 k6 k4 k20 k19 H.size (upd v0 21 0) f17 f18 f6 f4 f20 f19 (zR_updF hv0 21 rfl) hf18 hf4 hf19) (cwV 0 hG (zgV zw669 zw670 zw671 zw524 zw672) rfl rfl rfl (by decide +kernel) ⟨Nat.le_of_ble_eq_true rfl, Nat.le_of_ble_eq_true rfl⟩) ⟨zPc_blind, va_recv hKc hPc (ci := 13) (q0 := 0) rfl rfl, zPc_pre hPc hKc hDc hE hS hFc hZ⟩ rfl rfl hl.1 rfl (lv_room (Nat.le_of_ble_eq_true rfl)) dX13_count_69 ⟨Nat.le_of_ble_eq_true rfl, Nat.le_of_ble_eq_true rfl⟩) hS (fun q _ h => hFc q h) hFc (fun r69_ u69_ t H1 locs ht hvm hw hB hz1 hk1 hS => ?_)
            obtain ⟨w69_, a69_, b69_, ha69_1, ha69_3, hP1, hK1, hD1⟩ := hB
            rw [ht] at hP1
            obtain ⟨hP, hD⟩ := va_join (wr := [((q0 6), .inl (k5, 120, .inl f5))]) (w1 := [(h0, .inr (13, mX13 q0 (upd v0 21 0))), ((q0 25), .inl (k17, 400, .inl (a69_ 0))), ((q0 26), .inl (k18, 400, .inl (a69_ 1))), ((q0 7), .inl (k6, 120, .inl f6)), ((q0 5), .inl (k4, 122880, .inl f4)), ((q0 28), .inl (k20, 400, .inl (a69_ 2))), ((q0 27), .inl (k19, 400, .inl (a69_ 3)))]) hP hD [0, 2, 3, 4, 5, 6, 7] [1] rfl rfl (by decide) (by decide) hk1 hFc hP1 hD1
            have hP : va_P (dC, dI) vwCl [(h0, .inr (13, mX13 q0 (upd v0 21 0))), ((q0 6), .inl (k5, 120, .inl f5)), ((q0 25), .inl (k17, 400, .inl (a69_ 0))), ((q0 26), .inl (k18, 400, .inl (a69_ 1))), ((q0 7), .inl (k6, 120, .inl f6)), ((q0 5), .inl (k4, 122880, .inl f4)), ((q0 28), .inl (k20, 400, .inl (a69_ 2))), ((q0 27), .inl (k19, 400, .inl (a69_ 3)))] H1 := hP.sub [1, 0, 2, 3, 4, 5, 6, 7] rfl
            have hD : va_D A [(h0, .inr (13, mX13 q0 (upd v0 21 0))), ((q0 6), .inl (k5, 120, .inl f5)), ((q0 25), .inl (k17, 400, .inl (a69_ 0))), ((q0 26), .inl (k18, 400, .inl (a69_ 1))), ((q0 7), .inl (k6, 120, .inl f6)), ((q0 5), .inl (k4, 122880, .inl f4)), ((q0 28), .inl (k20, 400, .inl (a69_ 2))), ((q0 27), .inl (k19, 400, .inl (a69_ 3)))] := hD.sub [1, 0, 2, 3, 4, 5, 6, 7] (by decide) rfl
            generalize H1 = H at hP hS ⊢
            clear hz1
            refine W.widen (k := 0) (n := 0) (by decide) (by decide) ?_
            have b_ : -2147483648 ≤ r69_.toInt ∧ r69_.toInt ≤ 2147483647 := ⟨zlo _, zhi _⟩
            have hpost : (0 ≤ (0 : Int32).toInt ∧ (0 : Int32).toInt ≤ 0) := ⟨by omega, by omega⟩
            have hP9 : va_P (dC, dI) vwCl [(h0, .inr (13, mX13 q0 (upd v0 21 0))), ((q0 6), .inl (k5, 120, .inl f5)), ((q0 25), .inl (k17, 400, .inl (a69_ 0))), ((q0 26), .inl (k18, 400, .inl (a69_ 1))), ((q0 7), .inl (k6, 120, .inl f6)), ((q0 5), .inl (k4, 122880, .inl f4)), ((q0 28), .inl (k20, 400, .inl (a69_ 2))), ((q0 27), .inl (k19, 400, .inl (a69_ 3)))] H := hP
            have hD9 : va_D A [(h0, .inr (13, mX13 q0 (upd v0 21 0))), ((q0 6), .inl (k5, 120, .inl f5)), ((q0 25), .inl (k17, 400, .inl (a69_ 0))), ((q0 26), .inl (k18, 400, .inl (a69_ 1))), ((q0 7), .inl (k6, 120, .inl f6)), ((q0 5), .inl (k4, 122880, .inl f4)), ((q0 28), .inl (k20, 400, .inl (a69_ 2))), ((q0 27), .inl (k19, 400, .inl (a69_ 3)))] := hD
            exact W.iret (v := r69_) hx hb hr (fun t ht hW => ⟨⟨r69_, (fun i => ([0] : List (Int32)).getD i 0), rfl, hpost, (fun _ => 0), (fun i => ([(a69_ 0), (a69_ 1), (a69_ 2), (a69_ 3)] : List (Nat → Int32)).getD i (fun _ => 0)), (fun _ => (fun _ => 0)), ha69_1, ha69_3, by rw [ht]; exact hP9, va_K.moved hW.alike hK, hD9⟩, hS.F ht⟩) hS.2.2 dX13_count_72
          · skip
            have b_ : x1.toInt ≠ 4 := fun h => c_ (zeqi.mpr (h.trans zk_4.symm))
            rcases Classical.em (x1 = (5 : Int32)) with c_ | c_
            · skip
              have b_ : x1.toInt = 5 := by rw [c_]; exact zk_5
              refine lv_tableIn (off := 67) (tgt := 73) hx hb dX13_count_6 (by omega) (by omega) (by rw [b_]; decide) (by decide) ?_
              refine lv_aload_n hx hb dX13_count_73 rfl (lv_at hl 0 rfl) ?_
              have b_ : 0 ≤ (v0 16).toInt ∧ (v0 16).toInt ≤ 10 := hv0 16
              refine va_get (D := (dC, dI)) (ci := 13) (v := .int (v0 16)) (C := RX13) (T := TX13) (N := 75) hx hb hG zuX13 hown hK hP 0 rfl rfl 16 (by decide) (hG _ zw558) (fun _ h9 => h9) rfl dX13_count_74 ?_
              refine W.widen (k := 0) (n := 0) (by decide) (by decide) ?_
              have hpost : (0 ≤ (0 : Int32).toInt ∧ (0 : Int32).toInt ≤ 0) := ⟨by omega, by omega⟩
              have hP9 : va_P (dC, dI) vwCl [(h0, .inr (13, mX13 q0 (upd v0 21 0))), ((q0 6), .inl (k5, 120, .inl f5)), ((q0 25), .inl (k17, 400, .inl f17)), ((q0 26), .inl (k18, 400, .inl f18)), ((q0 7), .inl (k6, 120, .inl f6)), ((q0 5), .inl (k4, 122880, .inl f4)), ((q0 28), .inl (k20, 400, .inl f20)), ((q0 27), .inl (k19, 400, .inl f19))] H := hP
              have hD9 : va_D A [(h0, .inr (13, mX13 q0 (upd v0 21 0))), ((q0 6), .inl (k5, 120, .inl f5)), ((q0 25), .inl (k17, 400, .inl f17)), ((q0 26), .inl (k18, 400, .inl f18)), ((q0 7), .inl (k6, 120, .inl f6)), ((q0 5), .inl (k4, 122880, .inl f4)), ((q0 28), .inl (k20, 400, .inl f20)), ((q0 27), .inl (k19, 400, .inl f19))] := hD
              exact W.iret (v := (v0 16)) hx hb hr (fun t ht hW => ⟨⟨(v0 16), (fun i => ([0] : List (Int32)).getD i 0), rfl, hpost, (fun _ => 0), (fun i => ([f17, f18, f20, f19] : List (Nat → Int32)).getD i (fun _ => 0)), (fun _ => (fun _ => 0)), hf18, hf19, by rw [ht]; exact hP9, va_K.moved hW.alike hK, hD9⟩, hS.F ht⟩) hS.2.2 dX13_count_77
            · skip
              have b_ : x1.toInt ≠ 5 := fun h => c_ (zeqi.mpr (h.trans zk_5.symm))
              rcases Classical.em (x1 = (6 : Int32)) with c_ | c_
              · skip
                have b_ : x1.toInt = 6 := by rw [c_]; exact zk_6
                refine lv_tableIn (off := 72) (tgt := 78) hx hb dX13_count_6 (by omega) (by omega) (by rw [b_]; decide) (by decide) ?_
                refine lv_aload_n hx hb dX13_count_78 rfl (lv_at hl 0 rfl) ?_
                have b_ : 0 ≤ (v0 1).toInt ∧ (v0 1).toInt ≤ 600 := hv0 1
                refine va_get (D := (dC, dI)) (ci := 13) (v := .int (v0 1)) (C := RX13) (T := TX13) (N := 75) hx hb hG zuX13 hown hK hP 0 rfl rfl 1 (by decide) (hG _ zw519) (fun _ h9 => h9) rfl dX13_count_79 ?_
                refine W.widen (k := 0) (n := 0) (by decide) (by decide) ?_
                have hpost : (0 ≤ (0 : Int32).toInt ∧ (0 : Int32).toInt ≤ 0) := ⟨by omega, by omega⟩
                have hP9 : va_P (dC, dI) vwCl [(h0, .inr (13, mX13 q0 (upd v0 21 0))), ((q0 6), .inl (k5, 120, .inl f5)), ((q0 25), .inl (k17, 400, .inl f17)), ((q0 26), .inl (k18, 400, .inl f18)), ((q0 7), .inl (k6, 120, .inl f6)), ((q0 5), .inl (k4, 122880, .inl f4)), ((q0 28), .inl (k20, 400, .inl f20)), ((q0 27), .inl (k19, 400, .inl f19))] H := hP
                have hD9 : va_D A [(h0, .inr (13, mX13 q0 (upd v0 21 0))), ((q0 6), .inl (k5, 120, .inl f5)), ((q0 25), .inl (k17, 400, .inl f17)), ((q0 26), .inl (k18, 400, .inl f18)), ((q0 7), .inl (k6, 120, .inl f6)), ((q0 5), .inl (k4, 122880, .inl f4)), ((q0 28), .inl (k20, 400, .inl f20)), ((q0 27), .inl (k19, 400, .inl f19))] := hD
                exact W.iret (v := (v0 1)) hx hb hr (fun t ht hW => ⟨⟨(v0 1), (fun i => ([0] : List (Int32)).getD i 0), rfl, hpost, (fun _ => 0), (fun i => ([f17, f18, f20, f19] : List (Nat → Int32)).getD i (fun _ => 0)), (fun _ => (fun _ => 0)), hf18, hf19, by rw [ht]; exact hP9, va_K.moved hW.alike hK, hD9⟩, hS.F ht⟩) hS.2.2 dX13_count_82
              · skip
                have b_ : x1.toInt ≠ 6 := fun h => c_ (zeqi.mpr (h.trans zk_6.symm))
                refine lv_tableOut (tgt := 83) hx hb dX13_count_6 (by omega) (by decide) ?_
                refine lv_iconst (v := (-1)) hx hb dX13_count_83 (by decide) ?_
                refine W.widen (k := 0) (n := 0) (by decide) (by decide) ?_
                have hpost : (0 ≤ (0 : Int32).toInt ∧ (0 : Int32).toInt ≤ 0) := ⟨by omega, by omega⟩
                have hP9 : va_P (dC, dI) vwCl [(h0, .inr (13, mX13 q0 (upd v0 21 0))), ((q0 6), .inl (k5, 120, .inl f5)), ((q0 25), .inl (k17, 400, .inl f17)), ((q0 26), .inl (k18, 400, .inl f18)), ((q0 7), .inl (k6, 120, .inl f6)), ((q0 5), .inl (k4, 122880, .inl f4)), ((q0 28), .inl (k20, 400, .inl f20)), ((q0 27), .inl (k19, 400, .inl f19))] H := hP
                have hD9 : va_D A [(h0, .inr (13, mX13 q0 (upd v0 21 0))), ((q0 6), .inl (k5, 120, .inl f5)), ((q0 25), .inl (k17, 400, .inl f17)), ((q0 26), .inl (k18, 400, .inl f18)), ((q0 7), .inl (k6, 120, .inl f6)), ((q0 5), .inl (k4, 122880, .inl f4)), ((q0 28), .inl (k20, 400, .inl f20)), ((q0 27), .inl (k19, 400, .inl f19))] := hD
                exact W.iret (v := (-1)) hx hb hr (fun t ht hW => ⟨⟨(-1), (fun i => ([0] : List (Int32)).getD i 0), rfl, hpost, (fun _ => 0), (fun i => ([f17, f18, f20, f19] : List (Nat → Int32)).getD i (fun _ => 0)), (fun _ => (fun _ => 0)), hf18, hf19, by rw [ht]; exact hP9, va_K.moved hW.alike hK, hD9⟩, hS.F ht⟩) hS.2.2 dX13_count_84
set_option maxHeartbeats 8000000 in
set_option maxRecDepth 100000 in
theorem sX13_sort_0 (l : Launch) (dC : Nat → ClassId) (dI : Nat → Nat → Nat) (adK adV : Nat → Nat) (h0 : Nat) (q0 : Nat → Nat) (k21 : ClassId) (k3 : ClassId) (k2 : ClassId) (sz : Nat) (v0 : Nat → Int32) (f21 : Nat → Int32) (f3 : Nat → Int32) (f2 : Nat → Int32) (hv0 : zR rg_Model v0) (hf21 : zA 0 399 f21) (hf3 : zA 0 12 f3) : Met l yX13_sort (zw yX13_sort cX13_sort 3 none) { frames := 1, cells := 0, slots := 0, locals := 23 } (zPc dC dI adK adV [.ref h0] sz [(h0, .inr (13, mX13 q0 v0)), ((q0 29), .inl (k21, 400, .inl f21)), ((q0 3), .inl (k3, 400, .inl f3)), ((q0 2), .inl (k2, 4800, .inl f2))] [(k21, .short), (k3, .int), (k2, .byte)]) (va_Qv (fun (u : Nat → Int32) => (1 ≤ (u 0).toInt ∧ (u 0).toInt ≤ 1)) (fun (u : Nat → Int32) (t : State) => ∃ (ww : Nat → Int64) (aa : Nat → Nat → Int32) (bb : Nat → Nat → Int64), zA 0 399 (aa 0) ∧ va_P (dC, dI) vwCl [(h0, .inr (13, mX13 q0 (upd v0 30 (u 0)))), ((q0 29), .inl (k21, 400, .inl (aa 0))), ((q0 3), .inl (k3, 400, .inl f3)), ((q0 2), .inl (k2, 4800, .inl f2))] t.heap ∧ va_K (dC, dI) vwCl [(k21, .short), (k3, .int), (k2, .byte)] t ∧ va_D (va_A [(h0, .inr (13, mX13 q0 v0)), ((q0 29), .inl (k21, 400, .inl f21)), ((q0 3), .inl (k3, 400, .inl f3)), ((q0 2), .inl (k2, 4800, .inl f2))] sz) [(h0, .inr (13, mX13 q0 (upd v0 30 (u 0)))), ((q0 29), .inl (k21, 400, .inl (aa 0))), ((q0 3), .inl (k3, 400, .inl f3)), ((q0 2), .inl (k2, 4800, .inl f2))]) (va_A [(h0, .inr (13, mX13 q0 v0)), ((q0 29), .inl (k21, 400, .inl f21)), ((q0 3), .inl (k3, 400, .inl f3)), ((q0 2), .inl (k2, 4800, .inl f2))] sz)) 0 0 (va_A [(h0, .inr (13, mX13 q0 v0)), ((q0 29), .inl (k21, 400, .inl f21)), ((q0 3), .inl (k3, 400, .inl f3)), ((q0 2), .inl (k2, 4800, .inl f2))] sz) := by
  refine Met.ofW (cc := cX13_sort) (maxL := 3) (ret := none) (by decide) rfl ?_
  intro p e s m args below meth c s₁ B hml hv
  obtain ⟨rfl, hsz, hP, hK, hD0, hE, hZ⟩ := hv
  have hx := B.exec
  have hb := B.bytes
  have hr := B.returns
  have hG : ∀ w ∈ zG, w.before _ s = true := fun w h => atoms_spec (ws := (zw yX13_sort cX13_sort 3 none)) B.pre w (List.mem_cons_of_mem _ h)
  have hown : s.vm.findClass RX13 = some m.cls := findClass_of_methodNamed B.named
  have hlocks := B.notSynchronized
  subst hsz
  have hD := hD0.self (sz := s.heap.size)
  generalize hAe : va_A [(h0, .inr (13, mX13 q0 v0)), ((q0 29), .inl (k21, 400, .inl f21)), ((q0 3), .inl (k3, 400, .inl f3)), ((q0 2), .inl (k2, 4800, .inl f2))] s.heap.size = A at hD hZ ⊢
  have hA : ∀ q : Nat, s.heap.size ≤ q → A q := fun q h => by rw [← hAe]; exact Or.inr h
  have hS : va_S A s.heap s.heap [] := va_S.rf
  have hl := lv_entry ([.ref h0]) (n := 3) (Nat.le_of_ble_eq_true rfl)
  rw [lg_entry_eq]
  generalize (lg_sl ([.ref h0]) ++ List.replicate (3 - (lg_sl ([.ref h0])).length) Slot.unset).toArray = ls at hl ⊢
  have hl : lv_has ls 3 [(0, .ref h0)] := hl
  have b_ := zk_0
  have b_ := zk_1
  refine lv_iconst (v := 0) hx hb dX13_sort_0 (by decide) ?_
  refine lv_istore_n (lv' := [(1, .int 0), (0, .ref h0)]) hx hb dX13_sort_1 rfl hl (by decide) rfl (fun ls hl => ?_)
  refine zcutL (fun u2_ => (400 - (u2_ 0).toInt).toNat) (fun H locs ls u2_ w2_ a2_ b2_ => va_P (dC, dI) vwCl [(h0, .inr (13, mX13 q0 v0)), ((q0 29), .inl (k21, 400, .inl (a2_ 0))), ((q0 3), .inl (k3, 400, .inl f3)), ((q0 2), .inl (k2, 4800, .inl f2))] H ∧ va_D A [(h0, .inr (13, mX13 q0 v0)), ((q0 29), .inl (k21, 400, .inl (a2_ 0))), ((q0 3), .inl (k3, 400, .inl f3)), ((q0 2), .inl (k2, 4800, .inl f2))] ∧ va_S A s.heap H locs ∧ lv_has ls 3 [(0, .ref h0), (1, .int (u2_ 0))] ∧ zA 0 399 (a2_ 0) ∧ (0 ≤ (u2_ 0).toInt ∧ (u2_ 0).toInt ≤ 400)) (fun ls u2_ w2_ => F0 m 2 ls []) 0 0 ?_ (fun hJ2 => ?_)
  · skip
    intro H locs ls u2_ w2_ a2_ b2_ hc hJ2
    obtain ⟨hP, hD, hS, hl, ha2_0, b_⟩ := hc
    refine lv_iload_n hx hb dX13_sort_2 rfl (lv_at hl 1 rfl) ?_
    refine lv_aload_n hx hb dX13_sort_3 rfl (lv_at hl 0 rfl) ?_
    have b_ : 0 ≤ (v0 4).toInt ∧ (v0 4).toInt ≤ 400 := hv0 4
    refine va_get (D := (dC, dI)) (ci := 13) (v := .int (v0 4)) (C := RX13) (T := TX13) (N := 75) hx hb hG zuX13 hown hK hP 0 rfl rfl 4 (by decide) (hG _ zw551) (fun _ h9 => h9) rfl dX13_sort_4 ?_
    refine lv_icmp_ge (tgt := 66) hx hb dX13_sort_7 (by decide) (fun c_ => ?_) (fun c_ => ?_)
    · skip
      have b_ := zT_ge rfl rfl c_
      refine lv_aload_n hx hb dX13_sort_66 rfl (lv_at hl 0 rfl) ?_
      refine lv_iconst (v := 1) hx hb dX13_sort_67 (by decide) ?_
      refine va_put (D := (dC, dI)) (ci := 13) (v := .int 1) (ty := .boolean) (C := RX13) (T := TX13) (N := 75) hx hb hG zuX13 tyX13 tyX13_ok nmX13 hown hK hP hD hS 0 rfl rfl 30 (by decide) (hG _ zw568) (fun _ h9 => h9) rfl (by decide +kernel) rfl rfl (Nat.le_of_ble_eq_true rfl) dX13_sort_68 (fun H locs hP hD hS => ?_)
      have hP : va_P (dC, dI) vwCl [(h0, .inr (13, mX13 q0 (upd v0 30 1))), ((q0 29), .inl (k21, 400, .inl (a2_ 0))), ((q0 3), .inl (k3, 400, .inl f3)), ((q0 2), .inl (k2, 4800, .inl f2))] H := hP
      have hD : va_D A [(h0, .inr (13, mX13 q0 (upd v0 30 1))), ((q0 29), .inl (k21, 400, .inl (a2_ 0))), ((q0 3), .inl (k3, 400, .inl f3)), ((q0 2), .inl (k2, 4800, .inl f2))] := hD
      refine W.widen (k := 0) (n := 0) (by decide) (by decide) ?_
      have hpost : (1 ≤ (1 : Int32).toInt ∧ (1 : Int32).toInt ≤ 1) := ⟨by omega, by omega⟩
      have hP9 : va_P (dC, dI) vwCl [(h0, .inr (13, mX13 q0 (upd v0 30 1))), ((q0 29), .inl (k21, 400, .inl (a2_ 0))), ((q0 3), .inl (k3, 400, .inl f3)), ((q0 2), .inl (k2, 4800, .inl f2))] H := hP
      have hD9 : va_D A [(h0, .inr (13, mX13 q0 (upd v0 30 1))), ((q0 29), .inl (k21, 400, .inl (a2_ 0))), ((q0 3), .inl (k3, 400, .inl f3)), ((q0 2), .inl (k2, 4800, .inl f2))] := hD
      exact W.vret hx hb hr (fun t ht hW => ⟨⟨(fun i => ([1] : List (Int32)).getD i 0), rfl, hpost, (fun _ => 0), (fun i => ([(a2_ 0)] : List (Nat → Int32)).getD i (fun _ => 0)), (fun _ => (fun _ => 0)), ha2_0, by rw [ht]; exact hP9, va_K.moved hW.alike hK, hD9⟩, hS.F ht⟩) hS.2.2 dX13_sort_71
    · skip
      have b_ := zF_ge rfl rfl c_
      refine lv_iload_n hx hb dX13_sort_10 rfl (lv_at hl 1 rfl) ?_
      refine lv_istore_n (lv' := [(2, .int (u2_ 0)), (0, .ref h0), (1, .int (u2_ 0))]) hx hb dX13_sort_11 rfl hl (by decide) rfl (fun ls hl => ?_)
      refine zcutL (fun u12_ => ((u12_ 0).toInt - 0).toNat) (fun H locs ls u12_ w12_ a12_ b12_ => va_P (dC, dI) vwCl [(h0, .inr (13, mX13 q0 v0)), ((q0 29), .inl (k21, 400, .inl (a12_ 0))), ((q0 3), .inl (k3, 400, .inl f3)), ((q0 2), .inl (k2, 4800, .inl f2))] H ∧ va_D A [(h0, .inr (13, mX13 q0 v0)), ((q0 29), .inl (k21, 400, .inl (a12_ 0))), ((q0 3), .inl (k3, 400, .inl f3)), ((q0 2), .inl (k2, 4800, .inl f2))] ∧ va_S A s.heap H locs ∧ lv_has ls 3 [(0, .ref h0), (1, .int (u2_ 0)), (2, .int (u12_ 0))] ∧ zA 0 399 (a12_ 0) ∧ (0 ≤ (u12_ 0).toInt ∧ (u12_ 0).toInt ≤ 399)) (fun ls u12_ w12_ => F0 m 12 ls []) 0 0 ?_ (fun hJ12 => ?_)
      · skip
        intro H locs ls u12_ w12_ a12_ b12_ hc hJ12
        obtain ⟨hP, hD, hS, hl, ha12_0, b_⟩ := hc
        refine lv_iload_n hx hb dX13_sort_12 rfl (lv_at hl 2 rfl) ?_
        refine zcutW (fun H locs ls u52_ w52_ a52_ b52_ => va_P (dC, dI) vwCl [(h0, .inr (13, mX13 q0 v0)), ((q0 29), .inl (k21, 400, .inl (a12_ 0))), ((q0 3), .inl (k3, 400, .inl f3)), ((q0 2), .inl (k2, 4800, .inl f2))] H ∧ va_D A [(h0, .inr (13, mX13 q0 v0)), ((q0 29), .inl (k21, 400, .inl (a12_ 0))), ((q0 3), .inl (k3, 400, .inl f3)), ((q0 2), .inl (k2, 4800, .inl f2))] ∧ va_S A s.heap H locs ∧ lv_has ls 3 [(0, .ref h0), (1, .int (u2_ 0)), (2, .int (u12_ 0))] ∧ (0 ≤ (u12_ 0).toInt ∧ (u12_ 0).toInt ≤ 399)) (fun ls u52_ w52_ => F0 m 52 ls []) 0 0 ?_ (fun hJ52 => ?_)
        · skip
          intro H locs ls u52_ w52_ a52_ b52_ hc
          obtain ⟨hP, hD, hS, hl, b_⟩ := hc
          refine lv_aload_n hx hb dX13_sort_52 rfl (lv_at hl 0 rfl) ?_
          refine va_get (D := (dC, dI)) (ci := 13) (v := .ref (q0 29)) (C := RX13) (T := TX13) (N := 75) hx hb hG zuX13 hown hK hP 0 rfl rfl 29 (by decide) (hG _ zw673) (fun _ h9 => h9) rfl dX13_sort_53 ?_
          refine lv_iload_n hx hb dX13_sort_56 rfl (lv_at hl 2 rfl) ?_
          refine lv_iload_n hx hb dX13_sort_57 rfl (lv_at hl 1 rfl) ?_
          refine lv_i2s hx hb dX13_sort_58 rfl ?_
          refine lv_topi (fun z58 e_z58 => ?_)
          have b_ := zi2s rfl e_z58 (by omega) (by omega)
          refine va_sast hx hb hK hP hD hS 1 0 rfl rfl (zin_lit ⟨by omega, by omega⟩) dX13_sort_59 (fun H locs hP hD hS => ?_)
          obtain ⟨f_59, e_f_59⟩ : ∃ z : Nat → Int32, z = upd (a12_ 0) ((u12_ 0) : Int32).toNatClampNeg (vp_nar .short z58) := ⟨_, rfl⟩
          have hP : va_P (dC, dI) vwCl [(h0, .inr (13, mX13 q0 v0)), ((q0 29), .inl (k21, 400, .inl f_59)), ((q0 3), .inl (k3, 400, .inl f3)), ((q0 2), .inl (k2, 4800, .inl f2))] H := by rw [e_f_59]; exact hP
          have hD : va_D A [(h0, .inr (13, mX13 q0 v0)), ((q0 29), .inl (k21, 400, .inl f_59)), ((q0 3), .inl (k3, 400, .inl f3)), ((q0 2), .inl (k2, 4800, .inl f2))] := by rw [e_f_59]; exact hD
          have hf_59 : zA 0 399 f_59 := by rw [e_f_59]; exact zA_updS ha12_0 (show 0 ≤ (z58 : Int32).toInt from by omega) (show (z58 : Int32).toInt ≤ 399 from by omega)
          obtain ⟨z60, e_z60⟩ : ∃ z : Int32, z = (u2_ 0) + Int32.ofInt 1 := ⟨_, rfl⟩
          have b_ := zadd (x := (u2_ 0)) (y := Int32.ofInt 1) rfl (show (Int32.ofInt 1).toInt = 1 from by decide) e_z60 (by omega) (by omega)
          refine lv_iinc (v := z60) (lv' := [(1, .int z60), (0, .ref h0), (2, .int (u12_ 0))]) hx hb dX13_sort_60 hl (k := 1) rfl e_z60.symm (by decide) rfl (fun ls hl => ?_)
          refine lv_goto (tgt := 2) hx hb dX13_sort_63 (by decide) ?_
          have hc : va_P (dC, dI) vwCl [(h0, .inr (13, mX13 q0 v0)), ((q0 29), .inl (k21, 400, .inl f_59)), ((q0 3), .inl (k3, 400, .inl f3)), ((q0 2), .inl (k2, 4800, .inl f2))] H ∧ va_D A [(h0, .inr (13, mX13 q0 v0)), ((q0 29), .inl (k21, 400, .inl f_59)), ((q0 3), .inl (k3, 400, .inl f3)), ((q0 2), .inl (k2, 4800, .inl f2))] ∧ va_S A s.heap H locs ∧ lv_has ls 3 [(0, .ref h0), (1, .int z60)] ∧ zA 0 399 f_59 ∧ (0 ≤ z60.toInt ∧ z60.toInt ≤ 400) := ⟨hP, hD, hS, lv_sub hl [1, 0] rfl, hf_59, ⟨by omega, by omega⟩⟩
          exact hJ2 H locs ls (fun i => ([z60] : List (Int32)).getD i 0) (fun _ => 0) (fun i => ([f_59] : List (Nat → Int32)).getD i (fun _ => 0)) (fun _ => (fun _ => 0)) hc (show (400 - z60.toInt).toNat < (400 - (u2_ 0).toInt).toNat from by omega)
        · skip
          refine lv_if_le (tgt := 52) hx hb dX13_sort_13 (by decide) (fun c_ => ?_) (fun c_ => ?_)
          · skip
            have b_ := zT_le rfl zk_0 c_
            have hc : va_P (dC, dI) vwCl [(h0, .inr (13, mX13 q0 v0)), ((q0 29), .inl (k21, 400, .inl (a12_ 0))), ((q0 3), .inl (k3, 400, .inl f3)), ((q0 2), .inl (k2, 4800, .inl f2))] H ∧ va_D A [(h0, .inr (13, mX13 q0 v0)), ((q0 29), .inl (k21, 400, .inl (a12_ 0))), ((q0 3), .inl (k3, 400, .inl f3)), ((q0 2), .inl (k2, 4800, .inl f2))] ∧ va_S A s.heap H locs ∧ lv_has ls 3 [(0, .ref h0), (1, .int (u2_ 0)), (2, .int (u12_ 0))] ∧ (0 ≤ (u12_ 0).toInt ∧ (u12_ 0).toInt ≤ 399) := ⟨hP, hD, hS, lv_sub hl [0, 1, 2] rfl, ⟨by omega, by omega⟩⟩
            exact hJ52 H locs ls (fun _ => 0) (fun _ => 0) (fun _ => (fun _ => 0)) (fun _ => (fun _ => 0)) hc
          · skip
            have b_ := zF_le rfl zk_0 c_
            refine lv_aload_n hx hb dX13_sort_16 rfl (lv_at hl 0 rfl) ?_
            refine lv_aload_n hx hb dX13_sort_17 rfl (lv_at hl 0 rfl) ?_
            refine va_get (D := (dC, dI)) (ci := 13) (v := .ref (q0 29)) (C := RX13) (T := TX13) (N := 75) hx hb hG zuX13 hown hK hP 0 rfl rfl 29 (by decide) (hG _ zw673) (fun _ h9 => h9) rfl dX13_sort_18 ?_
            refine lv_iload_n hx hb dX13_sort_21 rfl (lv_at hl 2 rfl) ?_
            refine lv_iconst (v := 1) hx hb dX13_sort_22 (by decide) ?_
            refine lv_isub hx hb dX13_sort_23 ?_
            refine lv_topi (fun z23 e_z23 => ?_)
            have b_ := zsub rfl zk_1 e_z23 (by omega) (by omega)
            refine va_sald hx hb hK hP 1 0 rfl rfl (zin_lit ⟨by omega, by omega⟩) dX13_sort_24 ?_
            refine lv_topi (fun z24 e_z24 => ?_)
            have b_ : 0 ≤ z24.toInt ∧ z24.toInt ≤ 399 := by rw [e_z24]; exact ha12_0 _
            refine lv_iload_n hx hb dX13_sort_25 rfl (lv_at hl 1 rfl) ?_
            have hPc := hP.sub (ws' := [(h0, .inr (13, mX13 q0 v0)), ((q0 3), .inl (k3, 400, .inl f3)), ((q0 2), .inl (k2, 4800, .inl f2))]) [0, 2, 3] rfl
            have hDc := hD.sub (ws' := [(h0, .inr (13, mX13 q0 v0)), ((q0 3), .inl (k3, 400, .inl f3)), ((q0 2), .inl (k2, 4800, .inl f2))]) [0, 2, 3] (by decide) rfl
            have hKc := hK.sub (tys' := [(k3, .int), (k2, .byte)]) [1, 2] rfl
            have hFc := va_free (wc := [(h0, .inr (13, mX13 q0 v0)), ((q0 3), .inl (k3, 400, .inl f3)), ((q0 2), .inl (k2, 4800, .inl f2))]) hD hS hA [0, 2, 3] rfl
            refine va_calli (va_runV (As := [.int z24, .int (u2_ 0)]) (rest := []) ⟨hx, hb, hml, hown, hG⟩ (sX13_order_0 l dC dI adK adV h0 q0 k3 k2 H.size v0 f3 f2 z24 (u2_ 0) hv0 hf3 ⟨show (0 : Int) ≤ (z24 : Int32).toInt from by omega, show (z24 : Int32).toInt ≤ (399 : Int) from by omega⟩ ⟨show (0 : Int) ≤ ((u2_ 0) : Int32).toInt from by omega, show ((u2_ 0) : Int32).toInt ≤ (399 : Int) from by omega⟩) (cwV 2 hG (zgV zw561 zw562 zw563 zw524 zw564) rfl rfl rfl (by decide +kernel) ⟨Nat.le_of_ble_eq_true rfl, Nat.le_of_ble_eq_true rfl⟩) ⟨zPc_blind, va_recv hKc hPc (ci := 13) (q0 := 0) rfl rfl, zPc_pre hPc hKc hDc hE hS hFc hZ⟩ rfl rfl hl.1 rfl (lv_room (Nat.le_of_ble_eq_true rfl)) dX13_sort_26 ⟨Nat.le_of_ble_eq_true rfl, Nat.le_of_ble_eq_true rfl⟩) hS (fun q _ h => hFc q h) hFc (fun r26_ u26_ t H1 locs ht hvm hw hB hz1 hk1 hS => ?_)
            obtain ⟨w26_, a26_, b26_, hP1, hK1, hD1⟩ := hB
            rw [ht] at hP1
            obtain ⟨hP, hD⟩ := va_join (wr := [((q0 29), .inl (k21, 400, .inl (a12_ 0)))]) (w1 := [(h0, .inr (13, mX13 q0 v0)), ((q0 3), .inl (k3, 400, .inl f3)), ((q0 2), .inl (k2, 4800, .inl f2))]) hP hD [0, 2, 3] [1] rfl rfl (by decide) (by decide) hk1 hFc hP1 hD1
            have hP : va_P (dC, dI) vwCl [(h0, .inr (13, mX13 q0 v0)), ((q0 29), .inl (k21, 400, .inl (a12_ 0))), ((q0 3), .inl (k3, 400, .inl f3)), ((q0 2), .inl (k2, 4800, .inl f2))] H1 := hP.sub [1, 0, 2, 3] rfl
            have hD : va_D A [(h0, .inr (13, mX13 q0 v0)), ((q0 29), .inl (k21, 400, .inl (a12_ 0))), ((q0 3), .inl (k3, 400, .inl f3)), ((q0 2), .inl (k2, 4800, .inl f2))] := hD.sub [1, 0, 2, 3] (by decide) rfl
            generalize H1 = H at hP hS ⊢
            clear hz1
            have b_ : -2147483648 ≤ r26_.toInt ∧ r26_.toInt ≤ 2147483647 := ⟨zlo _, zhi _⟩
            refine lv_if_le (tgt := 52) hx hb dX13_sort_29 (by decide) (fun c_ => ?_) (fun c_ => ?_)
            · skip
              have b_ := zT_le rfl zk_0 c_
              have hc : va_P (dC, dI) vwCl [(h0, .inr (13, mX13 q0 v0)), ((q0 29), .inl (k21, 400, .inl (a12_ 0))), ((q0 3), .inl (k3, 400, .inl f3)), ((q0 2), .inl (k2, 4800, .inl f2))] H ∧ va_D A [(h0, .inr (13, mX13 q0 v0)), ((q0 29), .inl (k21, 400, .inl (a12_ 0))), ((q0 3), .inl (k3, 400, .inl f3)), ((q0 2), .inl (k2, 4800, .inl f2))] ∧ va_S A s.heap H locs ∧ lv_has ls 3 [(0, .ref h0), (1, .int (u2_ 0)), (2, .int (u12_ 0))] ∧ (0 ≤ (u12_ 0).toInt ∧ (u12_ 0).toInt ≤ 399) := ⟨hP, hD, hS, lv_sub hl [0, 1, 2] rfl, ⟨by omega, by omega⟩⟩
              exact hJ52 H locs ls (fun _ => 0) (fun _ => 0) (fun _ => (fun _ => 0)) (fun _ => (fun _ => 0)) hc
            · skip
              have b_ := zF_le rfl zk_0 c_
              refine lv_aload_n hx hb dX13_sort_32 rfl (lv_at hl 0 rfl) ?_
              refine va_get (D := (dC, dI)) (ci := 13) (v := .ref (q0 29)) (C := RX13) (T := TX13) (N := 75) hx hb hG zuX13 hown hK hP 0 rfl rfl 29 (by decide) (hG _ zw673) (fun _ h9 => h9) rfl dX13_sort_33 ?_
              refine lv_iload_n hx hb dX13_sort_36 rfl (lv_at hl 2 rfl) ?_
              refine lv_aload_n hx hb dX13_sort_37 rfl (lv_at hl 0 rfl) ?_
              refine va_get (D := (dC, dI)) (ci := 13) (v := .ref (q0 29)) (C := RX13) (T := TX13) (N := 75) hx hb hG zuX13 hown hK hP 0 rfl rfl 29 (by decide) (hG _ zw673) (fun _ h9 => h9) rfl dX13_sort_38 ?_
              refine lv_iload_n hx hb dX13_sort_41 rfl (lv_at hl 2 rfl) ?_
              refine lv_iconst (v := 1) hx hb dX13_sort_42 (by decide) ?_
              refine lv_isub hx hb dX13_sort_43 ?_
              refine lv_topi (fun z43 e_z43 => ?_)
              have b_ := zsub rfl zk_1 e_z43 (by omega) (by omega)
              refine va_sald hx hb hK hP 1 0 rfl rfl (zin_lit ⟨by omega, by omega⟩) dX13_sort_44 ?_
              refine lv_topi (fun z44 e_z44 => ?_)
              have b_ : 0 ≤ z44.toInt ∧ z44.toInt ≤ 399 := by rw [e_z44]; exact ha12_0 _
              refine va_sast hx hb hK hP hD hS 1 0 rfl rfl (zin_lit ⟨by omega, by omega⟩) dX13_sort_45 (fun H locs hP hD hS => ?_)
              obtain ⟨f_45, e_f_45⟩ : ∃ z : Nat → Int32, z = upd (a12_ 0) ((u12_ 0) : Int32).toNatClampNeg (vp_nar .short z44) := ⟨_, rfl⟩
              have hP : va_P (dC, dI) vwCl [(h0, .inr (13, mX13 q0 v0)), ((q0 29), .inl (k21, 400, .inl f_45)), ((q0 3), .inl (k3, 400, .inl f3)), ((q0 2), .inl (k2, 4800, .inl f2))] H := by rw [e_f_45]; exact hP
              have hD : va_D A [(h0, .inr (13, mX13 q0 v0)), ((q0 29), .inl (k21, 400, .inl f_45)), ((q0 3), .inl (k3, 400, .inl f3)), ((q0 2), .inl (k2, 4800, .inl f2))] := by rw [e_f_45]; exact hD
              have hf_45 : zA 0 399 f_45 := by rw [e_f_45]; exact zA_updS ha12_0 (show 0 ≤ (z44 : Int32).toInt from by omega) (show (z44 : Int32).toInt ≤ 399 from by omega)
              obtain ⟨z46, e_z46⟩ : ∃ z : Int32, z = (u12_ 0) + Int32.ofInt (-1) := ⟨_, rfl⟩
              have b_ := zadd (x := (u12_ 0)) (y := Int32.ofInt (-1)) rfl (show (Int32.ofInt (-1)).toInt = (-1) from by decide) e_z46 (by omega) (by omega)
              refine lv_iinc (v := z46) (lv' := [(2, .int z46), (0, .ref h0), (1, .int (u2_ 0))]) hx hb dX13_sort_46 hl (k := 2) rfl e_z46.symm (by decide) rfl (fun ls hl => ?_)
              refine lv_goto (tgt := 12) hx hb dX13_sort_49 (by decide) ?_
              have hc : va_P (dC, dI) vwCl [(h0, .inr (13, mX13 q0 v0)), ((q0 29), .inl (k21, 400, .inl f_45)), ((q0 3), .inl (k3, 400, .inl f3)), ((q0 2), .inl (k2, 4800, .inl f2))] H ∧ va_D A [(h0, .inr (13, mX13 q0 v0)), ((q0 29), .inl (k21, 400, .inl f_45)), ((q0 3), .inl (k3, 400, .inl f3)), ((q0 2), .inl (k2, 4800, .inl f2))] ∧ va_S A s.heap H locs ∧ lv_has ls 3 [(0, .ref h0), (1, .int (u2_ 0)), (2, .int z46)] ∧ zA 0 399 f_45 ∧ (0 ≤ z46.toInt ∧ z46.toInt ≤ 399) := ⟨hP, hD, hS, lv_sub hl [1, 2, 0] rfl, hf_45, ⟨by omega, by omega⟩⟩
              exact hJ12 H locs ls (fun i => ([z46] : List (Int32)).getD i 0) (fun _ => 0) (fun i => ([f_45] : List (Nat → Int32)).getD i (fun _ => 0)) (fun _ => (fun _ => 0)) hc (show (z46.toInt - 0).toNat < ((u12_ 0).toInt - 0).toNat from by omega)
      · skip
        have hc : va_P (dC, dI) vwCl [(h0, .inr (13, mX13 q0 v0)), ((q0 29), .inl (k21, 400, .inl (a2_ 0))), ((q0 3), .inl (k3, 400, .inl f3)), ((q0 2), .inl (k2, 4800, .inl f2))] H ∧ va_D A [(h0, .inr (13, mX13 q0 v0)), ((q0 29), .inl (k21, 400, .inl (a2_ 0))), ((q0 3), .inl (k3, 400, .inl f3)), ((q0 2), .inl (k2, 4800, .inl f2))] ∧ va_S A s.heap H locs ∧ lv_has ls 3 [(0, .ref h0), (1, .int (u2_ 0)), (2, .int (u2_ 0))] ∧ zA 0 399 (a2_ 0) ∧ (0 ≤ (u2_ 0).toInt ∧ (u2_ 0).toInt ≤ 399) := ⟨hP, hD, hS, lv_sub hl [1, 2, 0] rfl, ha2_0, ⟨by omega, by omega⟩⟩
        exact hJ12 H locs ls (fun i => ([(u2_ 0)] : List (Int32)).getD i 0) (fun _ => 0) (fun i => ([(a2_ 0)] : List (Nat → Int32)).getD i (fun _ => 0)) (fun _ => (fun _ => 0)) hc
  · skip
    have hc : va_P (dC, dI) vwCl [(h0, .inr (13, mX13 q0 v0)), ((q0 29), .inl (k21, 400, .inl f21)), ((q0 3), .inl (k3, 400, .inl f3)), ((q0 2), .inl (k2, 4800, .inl f2))] s.heap ∧ va_D A [(h0, .inr (13, mX13 q0 v0)), ((q0 29), .inl (k21, 400, .inl f21)), ((q0 3), .inl (k3, 400, .inl f3)), ((q0 2), .inl (k2, 4800, .inl f2))] ∧ va_S A s.heap s.heap [] ∧ lv_has ls 3 [(0, .ref h0), (1, .int 0)] ∧ zA 0 399 f21 ∧ (0 ≤ (0 : Int32).toInt ∧ (0 : Int32).toInt ≤ 400) := ⟨hP, hD, hS, lv_sub hl [1, 0] rfl, hf21, ⟨by omega, by omega⟩⟩
    exact hJ2 s.heap [] ls (fun i => ([0] : List (Int32)).getD i 0) (fun _ => 0) (fun i => ([f21] : List (Nat → Int32)).getD i (fun _ => 0)) (fun _ => (fun _ => 0)) hc
set_option maxHeartbeats 8000000 in
set_option maxRecDepth 100000 in
theorem sX13_letter_0 (l : Launch) (dC : Nat → ClassId) (dI : Nat → Nat → Nat) (adK adV : Nat → Nat) (h0 : Nat) (q0 : Nat → Nat) (k21 : ClassId) (k3 : ClassId) (k2 : ClassId) (sz : Nat) (v0 : Nat → Int32) (f21 : Nat → Int32) (f3 : Nat → Int32) (f2 : Nat → Int32) (x1 : Int32) (x2 : Int32) (hv0 : zR rg_Model v0) (hf21 : zA 0 399 f21) (hf3 : zA 0 12 f3) : Met l yX13_letter (zw yX13_letter cX13_letter 4 (some .int)) { frames := 2, cells := 0, slots := 0, locals := 45 } (zPc dC dI adK adV [.ref h0, .int x1, .int x2] sz [(h0, .inr (13, mX13 q0 v0)), ((q0 29), .inl (k21, 400, .inl f21)), ((q0 3), .inl (k3, 400, .inl f3)), ((q0 2), .inl (k2, 4800, .inl f2))] [(k21, .short), (k3, .int), (k2, .byte)]) (va_Qi (fun (r : Int32) (u : Nat → Int32) => (0 ≤ (u 0).toInt ∧ (u 0).toInt ≤ 1) ∧ (0 ≤ (u 1).toInt ∧ (u 1).toInt ≤ 1)) (fun (u : Nat → Int32) (t : State) => ∃ (ww : Nat → Int64) (aa : Nat → Nat → Int32) (bb : Nat → Nat → Int64), zA 0 399 (aa 0) ∧ va_P (dC, dI) vwCl [(h0, .inr (13, mX13 q0 (upd (upd v0 21 (u 0)) 30 (u 1)))), ((q0 29), .inl (k21, 400, .inl (aa 0))), ((q0 3), .inl (k3, 400, .inl f3)), ((q0 2), .inl (k2, 4800, .inl f2))] t.heap ∧ va_K (dC, dI) vwCl [(k21, .short), (k3, .int), (k2, .byte)] t ∧ va_D (va_A [(h0, .inr (13, mX13 q0 v0)), ((q0 29), .inl (k21, 400, .inl f21)), ((q0 3), .inl (k3, 400, .inl f3)), ((q0 2), .inl (k2, 4800, .inl f2))] sz) [(h0, .inr (13, mX13 q0 (upd (upd v0 21 (u 0)) 30 (u 1)))), ((q0 29), .inl (k21, 400, .inl (aa 0))), ((q0 3), .inl (k3, 400, .inl f3)), ((q0 2), .inl (k2, 4800, .inl f2))]) (va_A [(h0, .inr (13, mX13 q0 v0)), ((q0 29), .inl (k21, 400, .inl f21)), ((q0 3), .inl (k3, 400, .inl f3)), ((q0 2), .inl (k2, 4800, .inl f2))] sz)) 0 0 (va_A [(h0, .inr (13, mX13 q0 v0)), ((q0 29), .inl (k21, 400, .inl f21)), ((q0 3), .inl (k3, 400, .inl f3)), ((q0 2), .inl (k2, 4800, .inl f2))] sz) := by
  refine Met.ofW (cc := cX13_letter) (maxL := 4) (ret := (some .int)) (by decide) rfl ?_
  intro p e s m args below meth c s₁ B hml hv
  obtain ⟨rfl, hsz, hP, hK, hD0, hE, hZ⟩ := hv
  have hx := B.exec
  have hb := B.bytes
  have hr := B.returns
  have hG : ∀ w ∈ zG, w.before _ s = true := fun w h => atoms_spec (ws := (zw yX13_letter cX13_letter 4 (some .int))) B.pre w (List.mem_cons_of_mem _ h)
  have hown : s.vm.findClass RX13 = some m.cls := findClass_of_methodNamed B.named
  have hlocks := B.notSynchronized
  subst hsz
  have hD := hD0.self (sz := s.heap.size)
  generalize hAe : va_A [(h0, .inr (13, mX13 q0 v0)), ((q0 29), .inl (k21, 400, .inl f21)), ((q0 3), .inl (k3, 400, .inl f3)), ((q0 2), .inl (k2, 4800, .inl f2))] s.heap.size = A at hD hZ ⊢
  have hA : ∀ q : Nat, s.heap.size ≤ q → A q := fun q h => by rw [← hAe]; exact Or.inr h
  have hS : va_S A s.heap s.heap [] := va_S.rf
  have hl := lv_entry ([.ref h0, .int x1, .int x2]) (n := 4) (Nat.le_of_ble_eq_true rfl)
  rw [lg_entry_eq]
  generalize (lg_sl ([.ref h0, .int x1, .int x2]) ++ List.replicate (4 - (lg_sl ([.ref h0, .int x1, .int x2])).length) Slot.unset).toArray = ls at hl ⊢
  have hl : lv_has ls 4 [(0, .ref h0), (1, .int x1), (2, .int x2)] := hl
  have b_ := zk_0
  refine lv_aload_n hx hb dX13_letter_0 rfl (lv_at hl 0 rfl) ?_
  refine lv_iconst (v := 0) hx hb dX13_letter_1 (by decide) ?_
  refine va_put (D := (dC, dI)) (ci := 13) (v := .int 0) (ty := .int) (C := RX13) (T := TX13) (N := 75) hx hb hG zuX13 tyX13 tyX13_ok nmX13 hown hK hP hD hS 0 rfl rfl 21 (by decide) (hG _ zw518) (fun _ h9 => h9) rfl (by decide +kernel) rfl rfl (Nat.le_of_ble_eq_true rfl) dX13_letter_2 (fun H locs hP hD hS => ?_)
  have hP : va_P (dC, dI) vwCl [(h0, .inr (13, mX13 q0 (upd v0 21 0))), ((q0 29), .inl (k21, 400, .inl f21)), ((q0 3), .inl (k3, 400, .inl f3)), ((q0 2), .inl (k2, 4800, .inl f2))] H := hP
  have hD : va_D A [(h0, .inr (13, mX13 q0 (upd v0 21 0))), ((q0 29), .inl (k21, 400, .inl f21)), ((q0 3), .inl (k3, 400, .inl f3)), ((q0 2), .inl (k2, 4800, .inl f2))] := hD
  refine lv_iload_n hx hb dX13_letter_5 rfl (lv_at hl 1 rfl) ?_
  refine zcutW (fun H locs ls u21_ w21_ a21_ b21_ => va_P (dC, dI) vwCl [(h0, .inr (13, mX13 q0 (upd v0 21 0))), ((q0 29), .inl (k21, 400, .inl f21)), ((q0 3), .inl (k3, 400, .inl f3)), ((q0 2), .inl (k2, 4800, .inl f2))] H ∧ va_D A [(h0, .inr (13, mX13 q0 (upd v0 21 0))), ((q0 29), .inl (k21, 400, .inl f21)), ((q0 3), .inl (k3, 400, .inl f3)), ((q0 2), .inl (k2, 4800, .inl f2))] ∧ va_S A s.heap H locs ∧ lv_has ls 4 [(0, .ref h0), (1, .int x1), (2, .int x2)]) (fun ls u21_ w21_ => F0 m 21 ls []) 0 0 ?_ (fun hJ21 => ?_)
  · skip
    intro H locs ls u21_ w21_ a21_ b21_ hc
    obtain ⟨hP, hD, hS, hl⟩ := hc
    refine lv_aload_n hx hb dX13_letter_21 rfl (lv_at hl 0 rfl) ?_
    have hPc := hP.sub (ws' := [(h0, .inr (13, mX13 q0 (upd v0 21 0)))]) [0] rfl
    have hDc := hD.sub (ws' := [(h0, .inr (13, mX13 q0 (upd v0 21 0)))]) [0] (by decide) rfl
    have hKc := hK.sub (tys' := []) [] rfl
    have hFc := va_free (wc := [(h0, .inr (13, mX13 q0 (upd v0 21 0)))]) hD hS hA [0] rfl
    refine va_calli (va_runV (As := []) (rest := []) ⟨hx, hb, hml, hown, hG⟩ (sX13_refuse_0 l dC dI adK adV h0 q0 H.size (upd v0 21 0) (zR_updF hv0 21 rfl)) (cwV 0 hG (zgV zw651 zw652 zw653 zw524 zw654) rfl rfl rfl (by decide +kernel) ⟨Nat.le_of_ble_eq_true rfl, Nat.le_of_ble_eq_true rfl⟩) ⟨zPc_blind, va_recv hKc hPc (ci := 13) (q0 := 0) rfl rfl, zPc_pre hPc hKc hDc hE hS hFc hZ⟩ rfl rfl hl.1 rfl (lv_room (Nat.le_of_ble_eq_true rfl)) dX13_letter_22 ⟨Nat.le_of_ble_eq_true rfl, Nat.le_of_ble_eq_true rfl⟩) hS (fun q _ h => hFc q h) hFc (fun r22_ u22_ t H1 locs ht hvm hw hB hz1 hk1 hS => ?_)
    have hw : (0 ≤ r22_.toInt ∧ r22_.toInt ≤ 0) ∧ (1 ≤ (u22_ 0).toInt ∧ (u22_ 0).toInt ≤ 1) := hw
    obtain ⟨b_, b_⟩ := hw
    obtain rfl : r22_ = (0 : Int32) := zeqi.mpr ((show r22_.toInt = 0 from by omega).trans zk_0.symm)
    obtain ⟨w22_, a22_, b22_, hP1, hK1, hD1⟩ := hB
    rw [ht] at hP1
    obtain ⟨hP, hD⟩ := va_join (wr := [((q0 29), .inl (k21, 400, .inl f21)), ((q0 3), .inl (k3, 400, .inl f3)), ((q0 2), .inl (k2, 4800, .inl f2))]) (w1 := [(h0, .inr (13, mX13 q0 (upd v0 21 (u22_ 0))))]) hP hD [0] [1, 2, 3] rfl rfl (by decide) (by decide) hk1 hFc hP1 hD1
    have hP : va_P (dC, dI) vwCl [(h0, .inr (13, mX13 q0 (upd v0 21 (u22_ 0)))), ((q0 29), .inl (k21, 400, .inl f21)), ((q0 3), .inl (k3, 400, .inl f3)), ((q0 2), .inl (k2, 4800, .inl f2))] H1 := hP.sub [3, 0, 1, 2] rfl
    have hD : va_D A [(h0, .inr (13, mX13 q0 (upd v0 21 (u22_ 0)))), ((q0 29), .inl (k21, 400, .inl f21)), ((q0 3), .inl (k3, 400, .inl f3)), ((q0 2), .inl (k2, 4800, .inl f2))] := hD.sub [3, 0, 1, 2] (by decide) rfl
    generalize H1 = H at hP hS ⊢
    clear hz1
    refine W.widen (k := 0) (n := 0) (by decide) (by decide) ?_
    have b_ : 0 ≤ (v0 30).toInt ∧ (v0 30).toInt ≤ 1 := hv0 30
    have hpost : (0 ≤ (u22_ 0).toInt ∧ (u22_ 0).toInt ≤ 1) ∧ (0 ≤ (v0 30).toInt ∧ (v0 30).toInt ≤ 1) := ⟨⟨by omega, by omega⟩, ⟨by omega, by omega⟩⟩
    have hP9 : va_P (dC, dI) vwCl [(h0, .inr (13, mX13 q0 (upd (upd v0 21 (u22_ 0)) 30 (v0 30)))), ((q0 29), .inl (k21, 400, .inl f21)), ((q0 3), .inl (k3, 400, .inl f3)), ((q0 2), .inl (k2, 4800, .inl f2))] H := hP
    have hD9 : va_D A [(h0, .inr (13, mX13 q0 (upd (upd v0 21 (u22_ 0)) 30 (v0 30)))), ((q0 29), .inl (k21, 400, .inl f21)), ((q0 3), .inl (k3, 400, .inl f3)), ((q0 2), .inl (k2, 4800, .inl f2))] := hD
    exact W.iret (v := 0) hx hb hr (fun t ht hW => ⟨⟨0, (fun i => ([(u22_ 0), (v0 30)] : List (Int32)).getD i 0), rfl, hpost, (fun _ => 0), (fun i => ([f21] : List (Nat → Int32)).getD i (fun _ => 0)), (fun _ => (fun _ => 0)), hf21, by rw [ht]; exact hP9, va_K.moved hW.alike hK, hD9⟩, hS.F ht⟩) hS.2.2 dX13_letter_25
  · skip
    have b_ : -2147483648 ≤ x1.toInt ∧ x1.toInt ≤ 2147483647 := ⟨zlo _, zhi _⟩
    refine lv_if_lt (tgt := 21) hx hb dX13_letter_6 (by decide) (fun c_ => ?_) (fun c_ => ?_)
    · skip
      have b_ := zT_lt rfl zk_0 c_
      have hc : va_P (dC, dI) vwCl [(h0, .inr (13, mX13 q0 (upd v0 21 0))), ((q0 29), .inl (k21, 400, .inl f21)), ((q0 3), .inl (k3, 400, .inl f3)), ((q0 2), .inl (k2, 4800, .inl f2))] H ∧ va_D A [(h0, .inr (13, mX13 q0 (upd v0 21 0))), ((q0 29), .inl (k21, 400, .inl f21)), ((q0 3), .inl (k3, 400, .inl f3)), ((q0 2), .inl (k2, 4800, .inl f2))] ∧ va_S A s.heap H locs ∧ lv_has ls 4 [(0, .ref h0), (1, .int x1), (2, .int x2)] := ⟨hP, hD, hS, lv_sub hl [0, 1, 2] rfl⟩
      exact hJ21 H locs ls (fun _ => 0) (fun _ => 0) (fun _ => (fun _ => 0)) (fun _ => (fun _ => 0)) hc
    · skip
      have b_ := zF_lt rfl zk_0 c_
      refine lv_iload_n hx hb dX13_letter_9 rfl (lv_at hl 1 rfl) ?_
      refine lv_aload_n hx hb dX13_letter_10 rfl (lv_at hl 0 rfl) ?_
      have b_ : 0 ≤ (v0 4).toInt ∧ (v0 4).toInt ≤ 400 := hv0 4
      refine va_get (D := (dC, dI)) (ci := 13) (v := .int (v0 4)) (C := RX13) (T := TX13) (N := 75) hx hb hG zuX13 hown hK hP 0 rfl rfl 4 (by decide) (hG _ zw551) (fun _ h9 => h9) rfl dX13_letter_11 ?_
      refine lv_icmp_ge (tgt := 21) hx hb dX13_letter_14 (by decide) (fun c_ => ?_) (fun c_ => ?_)
      · skip
        have b_ := zT_ge rfl rfl c_
        have hc : va_P (dC, dI) vwCl [(h0, .inr (13, mX13 q0 (upd v0 21 0))), ((q0 29), .inl (k21, 400, .inl f21)), ((q0 3), .inl (k3, 400, .inl f3)), ((q0 2), .inl (k2, 4800, .inl f2))] H ∧ va_D A [(h0, .inr (13, mX13 q0 (upd v0 21 0))), ((q0 29), .inl (k21, 400, .inl f21)), ((q0 3), .inl (k3, 400, .inl f3)), ((q0 2), .inl (k2, 4800, .inl f2))] ∧ va_S A s.heap H locs ∧ lv_has ls 4 [(0, .ref h0), (1, .int x1), (2, .int x2)] := ⟨hP, hD, hS, lv_sub hl [0, 1, 2] rfl⟩
        exact hJ21 H locs ls (fun _ => 0) (fun _ => 0) (fun _ => (fun _ => 0)) (fun _ => (fun _ => 0)) hc
      · skip
        have b_ := zF_ge rfl rfl c_
        refine lv_iload_n hx hb dX13_letter_17 rfl (lv_at hl 2 rfl) ?_
        have b_ : -2147483648 ≤ x2.toInt ∧ x2.toInt ≤ 2147483647 := ⟨zlo _, zhi _⟩
        refine lv_if_ge (tgt := 26) hx hb dX13_letter_18 (by decide) (fun c_ => ?_) (fun c_ => ?_)
        · skip
          have b_ := zT_ge rfl zk_0 c_
          refine lv_aload_n hx hb dX13_letter_26 rfl (lv_at hl 0 rfl) ?_
          have b_ : 0 ≤ (v0 30).toInt ∧ (v0 30).toInt ≤ 1 := hv0 30
          refine va_get (D := (dC, dI)) (ci := 13) (v := .int (v0 30)) (C := RX13) (T := TX13) (N := 75) hx hb hG zuX13 hown hK hP 0 rfl rfl 30 (by decide) (hG _ zw568) (fun _ h9 => h9) rfl dX13_letter_27 ?_
          refine zcutW (fun H locs ls u37_ w37_ a37_ b37_ => va_P (dC, dI) vwCl [(h0, .inr (13, mX13 q0 (upd (upd v0 21 0) 30 (u37_ 0)))), ((q0 29), .inl (k21, 400, .inl (a37_ 0))), ((q0 3), .inl (k3, 400, .inl f3)), ((q0 2), .inl (k2, 4800, .inl f2))] H ∧ va_D A [(h0, .inr (13, mX13 q0 (upd (upd v0 21 0) 30 (u37_ 0)))), ((q0 29), .inl (k21, 400, .inl (a37_ 0))), ((q0 3), .inl (k3, 400, .inl f3)), ((q0 2), .inl (k2, 4800, .inl f2))] ∧ va_S A s.heap H locs ∧ lv_has ls 4 [(0, .ref h0), (1, .int x1), (2, .int x2)] ∧ zA 0 399 (a37_ 0) ∧ (1 ≤ (u37_ 0).toInt ∧ (u37_ 0).toInt ≤ 1) ∧ (0 ≤ (v0 30).toInt ∧ (v0 30).toInt ≤ 1)) (fun ls u37_ w37_ => F0 m 37 ls []) 0 0 ?_ (fun hJ37 => ?_)
          · skip
            intro H locs ls u37_ w37_ a37_ b37_ hc
            obtain ⟨hP, hD, hS, hl, ha37_0, b_, b_⟩ := hc
            refine lv_aload_n hx hb dX13_letter_37 rfl (lv_at hl 0 rfl) ?_
            refine va_get (D := (dC, dI)) (ci := 13) (v := .ref (q0 29)) (C := RX13) (T := TX13) (N := 75) hx hb hG zuX13 hown hK hP 0 rfl rfl 29 (by decide) (hG _ zw673) (fun _ h9 => h9) rfl dX13_letter_38 ?_
            refine lv_iload_n hx hb dX13_letter_41 rfl (lv_at hl 1 rfl) ?_
            refine va_sald hx hb hK hP 1 0 rfl rfl (zin_lit ⟨by omega, by omega⟩) dX13_letter_42 ?_
            refine lv_topi (fun z42 e_z42 => ?_)
            have b_ : 0 ≤ z42.toInt ∧ z42.toInt ≤ 399 := by rw [e_z42]; exact ha37_0 _
            refine lv_istore_n (lv' := [(3, .int z42), (0, .ref h0), (1, .int x1), (2, .int x2)]) hx hb dX13_letter_43 rfl hl (by decide) rfl (fun ls hl => ?_)
            refine lv_iload_n hx hb dX13_letter_44 rfl (lv_at hl 3 rfl) ?_
            refine lv_aload_n hx hb dX13_letter_45 rfl (lv_at hl 1 rfl) ?_
            refine va_get (D := (dC, dI)) (ci := 13) (v := .ref (q0 3)) (C := RX13) (T := TX13) (N := 75) hx hb hG zuX13 hown hK hP 0 rfl rfl 3 (by decide) (hG _ zw553) (fun _ h9 => h9) rfl dX13_letter_46 ?_
            refine lv_iload_n hx hb dX13_letter_49 rfl (lv_at hl 0 rfl) ?_
            refine va_iald hx hb hK hP 2 1 rfl rfl (zin_lit ⟨by omega, by omega⟩) dX13_letter_50 ?_
            refine lv_topi (fun z50 e_z50 => ?_)
            have b_ : 0 ≤ z50.toInt ∧ z50.toInt ≤ 12 := by rw [e_z50]; exact hf3 _
            refine lv_icmp_ge (tgt := 68) hx hb dX13_letter_51 (by decide) (fun c_ => ?_) (fun c_ => ?_)
            · skip
              have b_ := zT_ge rfl rfl c_
              refine lv_iconst (v := 0) hx hb dX13_letter_68 (by decide) ?_
              refine W.widen (k := 0) (n := 0) (by decide) (by decide) ?_
              have hpost : (0 ≤ (0 : Int32).toInt ∧ (0 : Int32).toInt ≤ 1) ∧ (0 ≤ (u37_ 0).toInt ∧ (u37_ 0).toInt ≤ 1) := ⟨⟨by omega, by omega⟩, ⟨by omega, by omega⟩⟩
              have hP9 : va_P (dC, dI) vwCl [(h0, .inr (13, mX13 q0 (upd (upd v0 21 0) 30 (u37_ 0)))), ((q0 29), .inl (k21, 400, .inl (a37_ 0))), ((q0 3), .inl (k3, 400, .inl f3)), ((q0 2), .inl (k2, 4800, .inl f2))] H := hP
              have hD9 : va_D A [(h0, .inr (13, mX13 q0 (upd (upd v0 21 0) 30 (u37_ 0)))), ((q0 29), .inl (k21, 400, .inl (a37_ 0))), ((q0 3), .inl (k3, 400, .inl f3)), ((q0 2), .inl (k2, 4800, .inl f2))] := hD
              exact W.iret (v := 0) hx hb hr (fun t ht hW => ⟨⟨0, (fun i => ([0, (u37_ 0)] : List (Int32)).getD i 0), rfl, hpost, (fun _ => 0), (fun i => ([(a37_ 0)] : List (Nat → Int32)).getD i (fun _ => 0)), (fun _ => (fun _ => 0)), ha37_0, by rw [ht]; exact hP9, va_K.moved hW.alike hK, hD9⟩, hS.F ht⟩) hS.2.2 dX13_letter_69
            · skip
              have b_ := zF_ge rfl rfl c_
              refine lv_aload_n hx hb dX13_letter_54 rfl (lv_at hl 1 rfl) ?_
              refine va_get (D := (dC, dI)) (ci := 13) (v := .ref (q0 2)) (C := RX13) (T := TX13) (N := 75) hx hb hG zuX13 hown hK hP 0 rfl rfl 2 (by decide) (hG _ zw552) (fun _ h9 => h9) rfl dX13_letter_55 ?_
              refine lv_bipush (v := 12) hx hb dX13_letter_58 (by decide) ?_
              refine lv_iload_n hx hb dX13_letter_60 rfl (lv_at hl 0 rfl) ?_
              refine lv_imul hx hb dX13_letter_61 ?_
              refine lv_topi (fun z61 e_z61 => ?_)
              have b_ := zmul zk_12 rfl e_z61 (by omega) (by omega)
              refine lv_iload_n hx hb dX13_letter_62 rfl (lv_at hl 3 rfl) ?_
              refine lv_iadd hx hb dX13_letter_63 ?_
              refine lv_topi (fun z63 e_z63 => ?_)
              have b_ := zadd rfl rfl e_z63 (by omega) (by omega)
              refine va_bald hx hb hK hP 3 2 rfl rfl (zin_lit ⟨by omega, by omega⟩) dX13_letter_64 ?_
              refine lv_topi (fun z64 e_z64 => ?_)
              refine lv_goto (tgt := 69) hx hb dX13_letter_65 (by decide) ?_
              refine W.widen (k := 0) (n := 0) (by decide) (by decide) ?_
              have b_ : -2147483648 ≤ z64.toInt ∧ z64.toInt ≤ 2147483647 := ⟨zlo _, zhi _⟩
              have hpost : (0 ≤ (0 : Int32).toInt ∧ (0 : Int32).toInt ≤ 1) ∧ (0 ≤ (u37_ 0).toInt ∧ (u37_ 0).toInt ≤ 1) := ⟨⟨by omega, by omega⟩, ⟨by omega, by omega⟩⟩
              have hP9 : va_P (dC, dI) vwCl [(h0, .inr (13, mX13 q0 (upd (upd v0 21 0) 30 (u37_ 0)))), ((q0 29), .inl (k21, 400, .inl (a37_ 0))), ((q0 3), .inl (k3, 400, .inl f3)), ((q0 2), .inl (k2, 4800, .inl f2))] H := hP
              have hD9 : va_D A [(h0, .inr (13, mX13 q0 (upd (upd v0 21 0) 30 (u37_ 0)))), ((q0 29), .inl (k21, 400, .inl (a37_ 0))), ((q0 3), .inl (k3, 400, .inl f3)), ((q0 2), .inl (k2, 4800, .inl f2))] := hD
              exact W.iret (v := z64) hx hb hr (fun t ht hW => ⟨⟨z64, (fun i => ([0, (u37_ 0)] : List (Int32)).getD i 0), rfl, hpost, (fun _ => 0), (fun i => ([(a37_ 0)] : List (Nat → Int32)).getD i (fun _ => 0)), (fun _ => (fun _ => 0)), ha37_0, by rw [ht]; exact hP9, va_K.moved hW.alike hK, hD9⟩, hS.F ht⟩) hS.2.2 dX13_letter_69
          · skip
            refine lv_if_ne (tgt := 37) hx hb dX13_letter_30 (by decide) (fun c_ => ?_) (fun c_ => ?_)
            · skip
              have b_ := zT_ne rfl zk_0 c_
              have hc : va_P (dC, dI) vwCl [(h0, .inr (13, mX13 q0 (upd (upd v0 21 0) 30 (v0 30)))), ((q0 29), .inl (k21, 400, .inl f21)), ((q0 3), .inl (k3, 400, .inl f3)), ((q0 2), .inl (k2, 4800, .inl f2))] H ∧ va_D A [(h0, .inr (13, mX13 q0 (upd (upd v0 21 0) 30 (v0 30)))), ((q0 29), .inl (k21, 400, .inl f21)), ((q0 3), .inl (k3, 400, .inl f3)), ((q0 2), .inl (k2, 4800, .inl f2))] ∧ va_S A s.heap H locs ∧ lv_has ls 4 [(0, .ref h0), (1, .int x1), (2, .int x2)] ∧ zA 0 399 f21 ∧ (1 ≤ (v0 30).toInt ∧ (v0 30).toInt ≤ 1) ∧ (0 ≤ (v0 30).toInt ∧ (v0 30).toInt ≤ 1) := ⟨hP, hD, hS, lv_sub hl [0, 1, 2] rfl, hf21, ⟨by omega, by omega⟩, ⟨by omega, by omega⟩⟩
              exact hJ37 H locs ls (fun i => ([(v0 30)] : List (Int32)).getD i 0) (fun _ => 0) (fun i => ([f21] : List (Nat → Int32)).getD i (fun _ => 0)) (fun _ => (fun _ => 0)) hc
            · skip
              have b_ := zF_ne rfl zk_0 c_
              refine lv_aload_n hx hb dX13_letter_33 rfl (lv_at hl 0 rfl) ?_
              have hPc := hP.sub (ws' := [(h0, .inr (13, mX13 q0 (upd v0 21 0))), ((q0 29), .inl (k21, 400, .inl f21)), ((q0 3), .inl (k3, 400, .inl f3)), ((q0 2), .inl (k2, 4800, .inl f2))]) [0, 1, 2, 3] rfl
              have hDc := hD.sub (ws' := [(h0, .inr (13, mX13 q0 (upd v0 21 0))), ((q0 29), .inl (k21, 400, .inl f21)), ((q0 3), .inl (k3, 400, .inl f3)), ((q0 2), .inl (k2, 4800, .inl f2))]) [0, 1, 2, 3] (by decide) rfl
              have hKc := hK.sub (tys' := [(k21, .short), (k3, .int), (k2, .byte)]) [0, 1, 2] rfl
              have hFc := va_free (wc := [(h0, .inr (13, mX13 q0 (upd v0 21 0))), ((q0 29), .inl (k21, 400, .inl f21)), ((q0 3), .inl (k3, 400, .inl f3)), ((q0 2), .inl (k2, 4800, .inl f2))]) hD hS hA [0, 1, 2, 3] rfl
              refine va_callv (va_runV (As := []) (rest := []) ⟨hx, hb, hml, hown, hG⟩ (sX13_sort_0 l dC dI adK adV h0 q0 k21 k3 k2 H.size (upd v0 21 0) f21 f3 f2 (zR_updF hv0 21 rfl) hf21 hf3) (cwV 0 hG (zgV zw674 zw675 zw676 zw524 zw677) rfl rfl rfl (by decide +kernel) ⟨Nat.le_of_ble_eq_true rfl, Nat.le_of_ble_eq_true rfl⟩) ⟨zPc_blind, va_recv hKc hPc (ci := 13) (q0 := 0) rfl rfl, zPc_pre hPc hKc hDc hE hS hFc hZ⟩ rfl rfl hl.1 rfl (lv_room (Nat.le_of_ble_eq_true rfl)) dX13_letter_34 ⟨Nat.le_of_ble_eq_true rfl, Nat.le_of_ble_eq_true rfl⟩) hS (fun q _ h => hFc q h) hFc (fun u34_ t H1 locs ht hvm hw hB hz1 hk1 hS => ?_)
              have hw : (1 ≤ (u34_ 0).toInt ∧ (u34_ 0).toInt ≤ 1) := hw
              have b_ := hw
              obtain ⟨w34_, a34_, b34_, ha34_0, hP1, hK1, hD1⟩ := hB
              rw [ht] at hP1
              obtain ⟨hP, hD⟩ := va_join (wr := []) (w1 := [(h0, .inr (13, mX13 q0 (upd (upd v0 21 0) 30 (u34_ 0)))), ((q0 29), .inl (k21, 400, .inl (a34_ 0))), ((q0 3), .inl (k3, 400, .inl f3)), ((q0 2), .inl (k2, 4800, .inl f2))]) hP hD [0, 1, 2, 3] [] rfl rfl (by decide) (by decide) hk1 hFc hP1 hD1
              have hP : va_P (dC, dI) vwCl [(h0, .inr (13, mX13 q0 (upd (upd v0 21 0) 30 (u34_ 0)))), ((q0 29), .inl (k21, 400, .inl (a34_ 0))), ((q0 3), .inl (k3, 400, .inl f3)), ((q0 2), .inl (k2, 4800, .inl f2))] H1 := hP.sub [0, 1, 2, 3] rfl
              have hD : va_D A [(h0, .inr (13, mX13 q0 (upd (upd v0 21 0) 30 (u34_ 0)))), ((q0 29), .inl (k21, 400, .inl (a34_ 0))), ((q0 3), .inl (k3, 400, .inl f3)), ((q0 2), .inl (k2, 4800, .inl f2))] := hD.sub [0, 1, 2, 3] (by decide) rfl
              generalize H1 = H at hP hS ⊢
              clear hz1
              have hc : va_P (dC, dI) vwCl [(h0, .inr (13, mX13 q0 (upd (upd v0 21 0) 30 (u34_ 0)))), ((q0 29), .inl (k21, 400, .inl (a34_ 0))), ((q0 3), .inl (k3, 400, .inl f3)), ((q0 2), .inl (k2, 4800, .inl f2))] H ∧ va_D A [(h0, .inr (13, mX13 q0 (upd (upd v0 21 0) 30 (u34_ 0)))), ((q0 29), .inl (k21, 400, .inl (a34_ 0))), ((q0 3), .inl (k3, 400, .inl f3)), ((q0 2), .inl (k2, 4800, .inl f2))] ∧ va_S A s.heap H locs ∧ lv_has ls 4 [(0, .ref h0), (1, .int x1), (2, .int x2)] ∧ zA 0 399 (a34_ 0) ∧ (1 ≤ (u34_ 0).toInt ∧ (u34_ 0).toInt ≤ 1) ∧ (0 ≤ (v0 30).toInt ∧ (v0 30).toInt ≤ 1) := ⟨hP, hD, hS, lv_sub hl [0, 1, 2] rfl, ha34_0, ⟨by omega, by omega⟩, ⟨by omega, by omega⟩⟩
              exact hJ37 H locs ls (fun i => ([(u34_ 0)] : List (Int32)).getD i 0) (fun _ => 0) (fun i => ([(a34_ 0)] : List (Nat → Int32)).getD i (fun _ => 0)) (fun _ => (fun _ => 0)) hc
        · skip
          have b_ := zF_ge rfl zk_0 c_
          have hc : va_P (dC, dI) vwCl [(h0, .inr (13, mX13 q0 (upd v0 21 0))), ((q0 29), .inl (k21, 400, .inl f21)), ((q0 3), .inl (k3, 400, .inl f3)), ((q0 2), .inl (k2, 4800, .inl f2))] H ∧ va_D A [(h0, .inr (13, mX13 q0 (upd v0 21 0))), ((q0 29), .inl (k21, 400, .inl f21)), ((q0 3), .inl (k3, 400, .inl f3)), ((q0 2), .inl (k2, 4800, .inl f2))] ∧ va_S A s.heap H locs ∧ lv_has ls 4 [(0, .ref h0), (1, .int x1), (2, .int x2)] := ⟨hP, hD, hS, lv_sub hl [0, 1, 2] rfl⟩
          exact hJ21 H locs ls (fun _ => 0) (fun _ => 0) (fun _ => (fun _ => 0)) (fun _ => (fun _ => 0)) hc
set_option maxHeartbeats 8000000 in
set_option maxRecDepth 100000 in
theorem sX13_byteAt_0 (l : Launch) (dC : Nat → ClassId) (dI : Nat → Nat → Nat) (adK adV : Nat → Nat) (h0 : Nat) (q0 : Nat → Nat) (k1 : ClassId) (sz : Nat) (v0 : Nat → Int32) (f1 : Nat → Int32) (x1 : Int32) (hv0 : zR rg_Model v0) (hx1 : 0 ≤ x1.toInt ∧ x1.toInt ≤ 602) : Met l yX13_byteAt (zw yX13_byteAt cX13_byteAt 2 (some .int)) { frames := 0, cells := 0, slots := 0, locals := 0 } (zPc dC dI adK adV [.ref h0, .int x1] sz [(h0, .inr (13, mX13 q0 v0)), ((q0 0), .inl (k1, 600, .inl f1))] [(k1, .byte)]) (va_Qi (fun (r : Int32) (u : Nat → Int32) => (r.toInt ≠ 0 → x1.toInt < (v0 34).toInt)) (fun (u : Nat → Int32) (t : State) => ∃ (ww : Nat → Int64) (aa : Nat → Nat → Int32) (bb : Nat → Nat → Int64), va_P (dC, dI) vwCl [(h0, .inr (13, mX13 q0 v0)), ((q0 0), .inl (k1, 600, .inl f1))] t.heap ∧ va_K (dC, dI) vwCl [(k1, .byte)] t ∧ va_D (va_A [(h0, .inr (13, mX13 q0 v0)), ((q0 0), .inl (k1, 600, .inl f1))] sz) [(h0, .inr (13, mX13 q0 v0)), ((q0 0), .inl (k1, 600, .inl f1))]) (va_A [(h0, .inr (13, mX13 q0 v0)), ((q0 0), .inl (k1, 600, .inl f1))] sz)) 0 0 (va_A [(h0, .inr (13, mX13 q0 v0)), ((q0 0), .inl (k1, 600, .inl f1))] sz) := by
  refine Met.ofW (cc := cX13_byteAt) (maxL := 2) (ret := (some .int)) (by decide) rfl ?_
  intro p e s m args below meth c s₁ B hml hv
  obtain ⟨rfl, hsz, hP, hK, hD0, hE, hZ⟩ := hv
  have hx := B.exec
  have hb := B.bytes
  have hr := B.returns
  have hG : ∀ w ∈ zG, w.before _ s = true := fun w h => atoms_spec (ws := (zw yX13_byteAt cX13_byteAt 2 (some .int))) B.pre w (List.mem_cons_of_mem _ h)
  have hown : s.vm.findClass RX13 = some m.cls := findClass_of_methodNamed B.named
  have hlocks := B.notSynchronized
  subst hsz
  have hD := hD0.self (sz := s.heap.size)
  generalize hAe : va_A [(h0, .inr (13, mX13 q0 v0)), ((q0 0), .inl (k1, 600, .inl f1))] s.heap.size = A at hD hZ ⊢
  have hA : ∀ q : Nat, s.heap.size ≤ q → A q := fun q h => by rw [← hAe]; exact Or.inr h
  have hS : va_S A s.heap s.heap [] := va_S.rf
  have hl := lv_entry ([.ref h0, .int x1]) (n := 2) (Nat.le_of_ble_eq_true rfl)
  rw [lg_entry_eq]
  generalize (lg_sl ([.ref h0, .int x1]) ++ List.replicate (2 - (lg_sl ([.ref h0, .int x1])).length) Slot.unset).toArray = ls at hl ⊢
  have hl : lv_has ls 2 [(0, .ref h0), (1, .int x1)] := hl
  have b_ := zk_0
  have b_ : 0 ≤ (v0 34).toInt ∧ (v0 34).toInt ≤ 600 := hv0 34
  refine lv_iload_n hx hb dX13_byteAt_0 rfl (lv_at hl 1 rfl) ?_
  refine lv_aload_n hx hb dX13_byteAt_1 rfl (lv_at hl 0 rfl) ?_
  refine va_get (D := (dC, dI)) (ci := 13) (v := .int (v0 34)) (C := RX13) (T := TX13) (N := 75) hx hb hG zuX13 hown hK hP 0 rfl rfl 34 (by decide) (hG _ zw678) (fun _ h9 => h9) rfl dX13_byteAt_2 ?_
  refine lv_icmp_ge (tgt := 17) hx hb dX13_byteAt_5 (by decide) (fun c_ => ?_) (fun c_ => ?_)
  · skip
    have b_ := zT_ge rfl rfl c_
    refine lv_iconst (v := 0) hx hb dX13_byteAt_17 (by decide) ?_
    refine W.widen (k := 0) (n := 0) (by decide) (by decide) ?_
    have hpost : ((0 : Int32).toInt ≠ 0 → x1.toInt < (v0 34).toInt) := by omega
    have hP9 : va_P (dC, dI) vwCl [(h0, .inr (13, mX13 q0 v0)), ((q0 0), .inl (k1, 600, .inl f1))] s.heap := hP
    have hD9 : va_D A [(h0, .inr (13, mX13 q0 v0)), ((q0 0), .inl (k1, 600, .inl f1))] := hD
    exact W.iret (v := 0) hx hb hr (fun t ht hW => ⟨⟨0, (fun _ => 0), rfl, hpost, (fun _ => 0), (fun _ => (fun _ => 0)), (fun _ => (fun _ => 0)), by rw [ht]; exact hP9, va_K.moved hW.alike hK, hD9⟩, hS.F ht⟩) hS.2.2 dX13_byteAt_18
  · skip
    have b_ := zF_ge rfl rfl c_
    refine lv_aload_n hx hb dX13_byteAt_8 rfl (lv_at hl 0 rfl) ?_
    refine va_get (D := (dC, dI)) (ci := 13) (v := .ref (q0 0)) (C := RX13) (T := TX13) (N := 75) hx hb hG zuX13 hown hK hP 0 rfl rfl 0 (by decide) (hG _ zw520) (fun _ h9 => h9) rfl dX13_byteAt_9 ?_
    refine lv_iload_n hx hb dX13_byteAt_12 rfl (lv_at hl 1 rfl) ?_
    refine va_bald hx hb hK hP 1 0 rfl rfl (zin_lit ⟨by omega, by omega⟩) dX13_byteAt_13 ?_
    refine lv_topi (fun z13 e_z13 => ?_)
    refine lv_goto (tgt := 18) hx hb dX13_byteAt_14 (by decide) ?_
    refine W.widen (k := 0) (n := 0) (by decide) (by decide) ?_
    have b_ : -2147483648 ≤ z13.toInt ∧ z13.toInt ≤ 2147483647 := ⟨zlo _, zhi _⟩
    have hpost : (z13.toInt ≠ 0 → x1.toInt < (v0 34).toInt) := by omega
    have hP9 : va_P (dC, dI) vwCl [(h0, .inr (13, mX13 q0 v0)), ((q0 0), .inl (k1, 600, .inl f1))] s.heap := hP
    have hD9 : va_D A [(h0, .inr (13, mX13 q0 v0)), ((q0 0), .inl (k1, 600, .inl f1))] := hD
    exact W.iret (v := z13) hx hb hr (fun t ht hW => ⟨⟨z13, (fun _ => 0), rfl, hpost, (fun _ => 0), (fun _ => (fun _ => 0)), (fun _ => (fun _ => 0)), by rw [ht]; exact hP9, va_K.moved hW.alike hK, hD9⟩, hS.F ht⟩) hS.2.2 dX13_byteAt_18
set_option maxHeartbeats 8000000 in
set_option maxRecDepth 100000 in
theorem sX13_isBlank_0 (l : Launch) (dC : Nat → ClassId) (dI : Nat → Nat → Nat) (adK adV : Nat → Nat) (h0 : Nat) (sz : Nat) (x1 : Int32) : Met l yX13_isBlank (zw yX13_isBlank cX13_isBlank 2 (some .boolean)) { frames := 0, cells := 0, slots := 0, locals := 0 } (zPc dC dI adK adV [.ref h0, .int x1] sz [] []) (va_Qi (fun (r : Int32) (u : Nat → Int32) => (0 ≤ r.toInt ∧ r.toInt ≤ 1)) (fun (u : Nat → Int32) (t : State) => ∃ (ww : Nat → Int64) (aa : Nat → Nat → Int32) (bb : Nat → Nat → Int64), va_P (dC, dI) vwCl [] t.heap ∧ va_K (dC, dI) vwCl [] t ∧ va_D (va_A [] sz) []) (va_A [] sz)) 0 0 (va_A [] sz) := by
  refine Met.ofW (cc := cX13_isBlank) (maxL := 2) (ret := (some .boolean)) (by decide) rfl ?_
  intro p e s m args below meth c s₁ B hml hv
  obtain ⟨rfl, hsz, hP, hK, hD0, hE, hZ⟩ := hv
  have hx := B.exec
  have hb := B.bytes
  have hr := B.returns
  have hG : ∀ w ∈ zG, w.before _ s = true := fun w h => atoms_spec (ws := (zw yX13_isBlank cX13_isBlank 2 (some .boolean))) B.pre w (List.mem_cons_of_mem _ h)
  have hown : s.vm.findClass RX13 = some m.cls := findClass_of_methodNamed B.named
  have hlocks := B.notSynchronized
  subst hsz
  have hD := hD0.self (sz := s.heap.size)
  generalize hAe : va_A [] s.heap.size = A at hD hZ ⊢
  have hA : ∀ q : Nat, s.heap.size ≤ q → A q := fun q h => by rw [← hAe]; exact Or.inr h
  have hS : va_S A s.heap s.heap [] := va_S.rf
  have hl := lv_entry ([.ref h0, .int x1]) (n := 2) (Nat.le_of_ble_eq_true rfl)
  rw [lg_entry_eq]
  generalize (lg_sl ([.ref h0, .int x1]) ++ List.replicate (2 - (lg_sl ([.ref h0, .int x1])).length) Slot.unset).toArray = ls at hl ⊢
  have hl : lv_has ls 2 [(0, .ref h0), (1, .int x1)] := hl
  have b_ := zk_0
  have b_ := zk_1
  refine lv_iload_n hx hb dX13_isBlank_0 rfl (lv_at hl 1 rfl) ?_
  refine lv_bipush (v := 32) hx hb dX13_isBlank_1 (by decide) ?_
  have b_ : -2147483648 ≤ x1.toInt ∧ x1.toInt ≤ 2147483647 := ⟨zlo _, zhi _⟩
  refine lv_icmp_eq (tgt := 12) hx hb dX13_isBlank_3 (by decide) (fun c_ => ?_) (fun c_ => ?_)
  · skip
    have b_ := zT_eq rfl zk_32 c_
    refine lv_iconst (v := 1) hx hb dX13_isBlank_12 (by decide) ?_
    refine lv_goto (tgt := 17) hx hb dX13_isBlank_13 (by decide) ?_
    refine W.widen (k := 0) (n := 0) (by decide) (by decide) ?_
    have hpost : (0 ≤ (1 : Int32).toInt ∧ (1 : Int32).toInt ≤ 1) := ⟨by omega, by omega⟩
    have hP9 : va_P (dC, dI) vwCl [] s.heap := hP
    have hD9 : va_D A [] := hD
    exact W.zret (v := 1) hx hb hr rfl (fun t ht hW => ⟨⟨1, (fun _ => 0), rfl, hpost, (fun _ => 0), (fun _ => (fun _ => 0)), (fun _ => (fun _ => 0)), by rw [ht]; exact hP9, va_K.moved hW.alike hK, hD9⟩, hS.F ht⟩) hS.2.2 dX13_isBlank_17
  · skip
    have b_ := zF_eq rfl zk_32 c_
    refine lv_iload_n hx hb dX13_isBlank_6 rfl (lv_at hl 1 rfl) ?_
    refine lv_bipush (v := 10) hx hb dX13_isBlank_7 (by decide) ?_
    refine lv_icmp_ne (tgt := 16) hx hb dX13_isBlank_9 (by decide) (fun c_ => ?_) (fun c_ => ?_)
    · skip
      have b_ := zT_ne rfl zk_10 c_
      refine lv_iconst (v := 0) hx hb dX13_isBlank_16 (by decide) ?_
      refine W.widen (k := 0) (n := 0) (by decide) (by decide) ?_
      have hpost : (0 ≤ (0 : Int32).toInt ∧ (0 : Int32).toInt ≤ 1) := ⟨by omega, by omega⟩
      have hP9 : va_P (dC, dI) vwCl [] s.heap := hP
      have hD9 : va_D A [] := hD
      exact W.zret (v := 0) hx hb hr rfl (fun t ht hW => ⟨⟨0, (fun _ => 0), rfl, hpost, (fun _ => 0), (fun _ => (fun _ => 0)), (fun _ => (fun _ => 0)), by rw [ht]; exact hP9, va_K.moved hW.alike hK, hD9⟩, hS.F ht⟩) hS.2.2 dX13_isBlank_17
    · skip
      have b_ := zF_ne rfl zk_10 c_
      refine lv_iconst (v := 1) hx hb dX13_isBlank_12 (by decide) ?_
      refine lv_goto (tgt := 17) hx hb dX13_isBlank_13 (by decide) ?_
      refine W.widen (k := 0) (n := 0) (by decide) (by decide) ?_
      have hpost : (0 ≤ (1 : Int32).toInt ∧ (1 : Int32).toInt ≤ 1) := ⟨by omega, by omega⟩
      have hP9 : va_P (dC, dI) vwCl [] s.heap := hP
      have hD9 : va_D A [] := hD
      exact W.zret (v := 1) hx hb hr rfl (fun t ht hW => ⟨⟨1, (fun _ => 0), rfl, hpost, (fun _ => 0), (fun _ => (fun _ => 0)), (fun _ => (fun _ => 0)), by rw [ht]; exact hP9, va_K.moved hW.alike hK, hD9⟩, hS.F ht⟩) hS.2.2 dX13_isBlank_17
set_option maxHeartbeats 8000000 in
set_option maxRecDepth 100000 in
theorem sX13_look1_0 (l : Launch) (dC : Nat → ClassId) (dI : Nat → Nat → Nat) (adK adV : Nat → Nat) (h0 : Nat) (q0 : Nat → Nat) (k1 : ClassId) (sz : Nat) (v0 : Nat → Int32) (f1 : Nat → Int32) (hv0 : zR rg_Model v0) (hp0_ : (v0 35).toInt ≤ (v0 34).toInt) : Met l yX13_look1 (zw yX13_look1 cX13_look1 1 none) { frames := 3, cells := 0, slots := 0, locals := 63 } (zPc dC dI adK adV [.ref h0] sz [(h0, .inr (13, mX13 q0 v0)), ((q0 0), .inl (k1, 600, .inl f1))] [(k1, .byte)]) (va_Qv (fun (u : Nat → Int32) => (0 ≤ (u 0).toInt ∧ (u 0).toInt ≤ 600) ∧ (0 ≤ (u 1).toInt ∧ (u 1).toInt ≤ 3) ∧ (0 ≤ (u 2).toInt ∧ (u 2).toInt ≤ 600) ∧ ((u 0).toInt ≤ (v0 34).toInt) ∧ ((v0 35).toInt ≤ (u 2).toInt) ∧ ((u 2).toInt ≤ (u 0).toInt) ∧ ((u 1).toInt ≠ 0 → (u 2).toInt < (u 0).toInt) ∧ ((u 1).toInt = 0 → (u 2).toInt = (v0 34).toInt)) (fun (u : Nat → Int32) (t : State) => ∃ (ww : Nat → Int64) (aa : Nat → Nat → Int32) (bb : Nat → Nat → Int64), va_P (dC, dI) vwCl [(h0, .inr (13, mX13 q0 (upd (upd (upd v0 35 (u 0)) 36 (u 1)) 37 (u 2)))), ((q0 0), .inl (k1, 600, .inl f1))] t.heap ∧ va_K (dC, dI) vwCl [(k1, .byte)] t ∧ va_D (va_A [(h0, .inr (13, mX13 q0 v0)), ((q0 0), .inl (k1, 600, .inl f1))] sz) [(h0, .inr (13, mX13 q0 (upd (upd (upd v0 35 (u 0)) 36 (u 1)) 37 (u 2)))), ((q0 0), .inl (k1, 600, .inl f1))]) (va_A [(h0, .inr (13, mX13 q0 v0)), ((q0 0), .inl (k1, 600, .inl f1))] sz)) 0 0 (va_A [(h0, .inr (13, mX13 q0 v0)), ((q0 0), .inl (k1, 600, .inl f1))] sz) := by
  refine Met.ofW (cc := cX13_look1) (maxL := 1) (ret := none) (by decide) rfl ?_
  intro p e s m args below meth c s₁ B hml hv
  obtain ⟨rfl, hsz, hP, hK, hD0, hE, hZ⟩ := hv
  have hx := B.exec
  have hb := B.bytes
  have hr := B.returns
  have hG : ∀ w ∈ zG, w.before _ s = true := fun w h => atoms_spec (ws := (zw yX13_look1 cX13_look1 1 none)) B.pre w (List.mem_cons_of_mem _ h)
  have hown : s.vm.findClass RX13 = some m.cls := findClass_of_methodNamed B.named
  have hlocks := B.notSynchronized
  subst hsz
  have hD := hD0.self (sz := s.heap.size)
  generalize hAe : va_A [(h0, .inr (13, mX13 q0 v0)), ((q0 0), .inl (k1, 600, .inl f1))] s.heap.size = A at hD hZ ⊢
  have hA : ∀ q : Nat, s.heap.size ≤ q → A q := fun q h => by rw [← hAe]; exact Or.inr h
  have hS : va_S A s.heap s.heap [] := va_S.rf
  have hl := lv_entry ([.ref h0]) (n := 1) (Nat.le_of_ble_eq_true rfl)
  rw [lg_entry_eq]
  generalize (lg_sl ([.ref h0]) ++ List.replicate (1 - (lg_sl ([.ref h0])).length) Slot.unset).toArray = ls at hl ⊢
  have hl : lv_has ls 1 [(0, .ref h0)] := hl
  have b_ := zk_0
  have b_ := zk_1
  have b_ := zk_2
  have b_ := zk_3
  have b_ : 0 ≤ (v0 35).toInt ∧ (v0 35).toInt ≤ 600 := hv0 35
  have b_ : 0 ≤ (v0 34).toInt ∧ (v0 34).toInt ≤ 600 := hv0 34
  have b_ : 0 ≤ (v0 37).toInt ∧ (v0 37).toInt ≤ 600 := hv0 37
  have b_ : 0 ≤ (v0 36).toInt ∧ (v0 36).toInt ≤ 3 := hv0 36
  refine zcutL (fun u0_ => (600 - (u0_ 0).toInt).toNat) (fun H locs ls u0_ w0_ a0_ b0_ => va_P (dC, dI) vwCl [(h0, .inr (13, mX13 q0 (upd v0 35 (u0_ 0)))), ((q0 0), .inl (k1, 600, .inl f1))] H ∧ va_D A [(h0, .inr (13, mX13 q0 (upd v0 35 (u0_ 0)))), ((q0 0), .inl (k1, 600, .inl f1))] ∧ va_S A s.heap H locs ∧ lv_has ls 1 [(0, .ref h0)] ∧ (0 ≤ (u0_ 0).toInt ∧ (u0_ 0).toInt ≤ 600) ∧ ((u0_ 0).toInt ≤ (v0 34).toInt) ∧ ((v0 35).toInt ≤ (u0_ 0).toInt)) (fun ls u0_ w0_ => F0 m 0 ls []) 0 0 ?_ (fun hJ0 => ?_)
  · skip
    intro H locs ls u0_ w0_ a0_ b0_ hc hJ0
    obtain ⟨hP, hD, hS, hl, b_, b_, b_⟩ := hc
    refine lv_aload_n hx hb dX13_look1_0 rfl (lv_at hl 0 rfl) ?_
    refine va_get (D := (dC, dI)) (ci := 13) (v := .int (u0_ 0)) (C := RX13) (T := TX13) (N := 75) hx hb hG zuX13 hown hK hP 0 rfl rfl 35 (by decide) (hG _ zw679) (fun _ h9 => h9) rfl dX13_look1_1 ?_
    refine lv_aload_n hx hb dX13_look1_4 rfl (lv_at hl 0 rfl) ?_
    refine va_get (D := (dC, dI)) (ci := 13) (v := .int (v0 34)) (C := RX13) (T := TX13) (N := 75) hx hb hG zuX13 hown hK hP 0 rfl rfl 34 (by decide) (hG _ zw678) (fun _ h9 => h9) rfl dX13_look1_5 ?_
    refine zcutW (fun H locs ls u40_ w40_ a40_ b40_ => va_P (dC, dI) vwCl [(h0, .inr (13, mX13 q0 (upd v0 35 (u0_ 0)))), ((q0 0), .inl (k1, 600, .inl f1))] H ∧ va_D A [(h0, .inr (13, mX13 q0 (upd v0 35 (u0_ 0)))), ((q0 0), .inl (k1, 600, .inl f1))] ∧ va_S A s.heap H locs ∧ lv_has ls 1 [(0, .ref h0)] ∧ (0 ≤ (u0_ 0).toInt ∧ (u0_ 0).toInt ≤ 600) ∧ (0 ≤ (v0 34).toInt ∧ (v0 34).toInt ≤ 600)) (fun ls u40_ w40_ => F0 m 40 ls []) 0 0 ?_ (fun hJ40 => ?_)
    · skip
      intro H locs ls u40_ w40_ a40_ b40_ hc
      obtain ⟨hP, hD, hS, hl, b_, b_⟩ := hc
      refine lv_aload_n hx hb dX13_look1_40 rfl (lv_at hl 0 rfl) ?_
      refine lv_aload_n hx hb dX13_look1_41 rfl (lv_at hl 0 rfl) ?_
      refine va_get (D := (dC, dI)) (ci := 13) (v := .int (u0_ 0)) (C := RX13) (T := TX13) (N := 75) hx hb hG zuX13 hown hK hP 0 rfl rfl 35 (by decide) (hG _ zw679) (fun _ h9 => h9) rfl dX13_look1_42 ?_
      refine va_put (D := (dC, dI)) (ci := 13) (v := .int (u0_ 0)) (ty := .int) (C := RX13) (T := TX13) (N := 75) hx hb hG zuX13 tyX13 tyX13_ok nmX13 hown hK hP hD hS 0 rfl rfl 37 (by decide) (hG _ zw680) (fun _ h9 => h9) rfl (by decide +kernel) rfl rfl (Nat.le_of_ble_eq_true rfl) dX13_look1_45 (fun H locs hP hD hS => ?_)
      have hP : va_P (dC, dI) vwCl [(h0, .inr (13, mX13 q0 (upd (upd v0 35 (u0_ 0)) 37 (u0_ 0)))), ((q0 0), .inl (k1, 600, .inl f1))] H := hP
      have hD : va_D A [(h0, .inr (13, mX13 q0 (upd (upd v0 35 (u0_ 0)) 37 (u0_ 0)))), ((q0 0), .inl (k1, 600, .inl f1))] := hD
      refine lv_aload_n hx hb dX13_look1_48 rfl (lv_at hl 0 rfl) ?_
      refine va_get (D := (dC, dI)) (ci := 13) (v := .int (u0_ 0)) (C := RX13) (T := TX13) (N := 75) hx hb hG zuX13 hown hK hP 0 rfl rfl 37 (by decide) (hG _ zw680) (fun _ h9 => h9) rfl dX13_look1_49 ?_
      refine lv_aload_n hx hb dX13_look1_52 rfl (lv_at hl 0 rfl) ?_
      refine va_get (D := (dC, dI)) (ci := 13) (v := .int (v0 34)) (C := RX13) (T := TX13) (N := 75) hx hb hG zuX13 hown hK hP 0 rfl rfl 34 (by decide) (hG _ zw678) (fun _ h9 => h9) rfl dX13_look1_53 ?_
      refine lv_icmp_ne (tgt := 67) hx hb dX13_look1_56 (by decide) (fun c_ => ?_) (fun c_ => ?_)
      · skip
        have b_ := zT_ne rfl rfl c_
        refine lv_aload_n hx hb dX13_look1_67 rfl (lv_at hl 0 rfl) ?_
        refine va_get (D := (dC, dI)) (ci := 13) (v := .ref (q0 0)) (C := RX13) (T := TX13) (N := 75) hx hb hG zuX13 hown hK hP 0 rfl rfl 0 (by decide) (hG _ zw520) (fun _ h9 => h9) rfl dX13_look1_68 ?_
        refine lv_aload_n hx hb dX13_look1_71 rfl (lv_at hl 0 rfl) ?_
        refine va_get (D := (dC, dI)) (ci := 13) (v := .int (u0_ 0)) (C := RX13) (T := TX13) (N := 75) hx hb hG zuX13 hown hK hP 0 rfl rfl 37 (by decide) (hG _ zw680) (fun _ h9 => h9) rfl dX13_look1_72 ?_
        refine va_bald hx hb hK hP 1 0 rfl rfl (zin_lit ⟨by omega, by omega⟩) dX13_look1_75 ?_
        refine lv_topi (fun z75 e_z75 => ?_)
        have hPc := hP.sub (ws' := []) [] rfl
        have hDc := hD.sub (ws' := []) [] (by decide) rfl
        have hKc := hK.sub (tys' := []) [] rfl
        have hFc := va_free (wc := []) hD hS hA [] rfl
        refine va_calli (va_runS (As := [.int z75]) (rest := []) ⟨hx, hb, hml, hown, hG⟩ (sX13_isToken_0 l dC dI adK adV H.size z75) (va_cwS 1 hG (zgS zw535 zw536 zw524 zw537) rfl rfl rfl (by decide +kernel) ⟨Nat.le_of_ble_eq_true rfl, Nat.le_of_ble_eq_true rfl⟩) ⟨zPc_blind, zPc_pre hPc hKc hDc hE hS hFc hZ⟩ rfl rfl hl.1 rfl (lv_room (Nat.le_of_ble_eq_true rfl)) dX13_look1_76 ⟨Nat.le_of_ble_eq_true rfl, Nat.le_of_ble_eq_true rfl⟩) hS (fun q _ h => hFc q h) hFc (fun r76_ u76_ t H1 locs ht hvm hw hB hz1 hk1 hS => ?_)
        have hw : (0 ≤ r76_.toInt ∧ r76_.toInt ≤ 1) ∧ (r76_.toInt = 1 → zTok z75.toInt) ∧ (r76_.toInt = 0 → ¬ zTok z75.toInt) := hw
        obtain ⟨b_, hX76_0, hX76_1⟩ := hw
        obtain ⟨w76_, a76_, b76_, hP1, hK1, hD1⟩ := hB
        rw [ht] at hP1
        obtain ⟨hP, hD⟩ := va_join (wr := [(h0, .inr (13, mX13 q0 (upd (upd v0 35 (u0_ 0)) 37 (u0_ 0)))), ((q0 0), .inl (k1, 600, .inl f1))]) (w1 := []) hP hD [] [0, 1] rfl rfl (by decide) (by decide) hk1 hFc hP1 hD1
        have hP : va_P (dC, dI) vwCl [(h0, .inr (13, mX13 q0 (upd (upd v0 35 (u0_ 0)) 37 (u0_ 0)))), ((q0 0), .inl (k1, 600, .inl f1))] H1 := hP.sub [0, 1] rfl
        have hD : va_D A [(h0, .inr (13, mX13 q0 (upd (upd v0 35 (u0_ 0)) 37 (u0_ 0)))), ((q0 0), .inl (k1, 600, .inl f1))] := hD.sub [0, 1] (by decide) rfl
        generalize H1 = H at hP hS ⊢
        clear hz1
        refine lv_if_eq (tgt := 106) hx hb dX13_look1_79 (by decide) (fun c_ => ?_) (fun c_ => ?_)
        · skip
          have b_ := zT_eq rfl zk_0 c_
          refine lv_aload_n hx hb dX13_look1_106 rfl (lv_at hl 0 rfl) ?_
          refine va_get (D := (dC, dI)) (ci := 13) (v := .ref (q0 0)) (C := RX13) (T := TX13) (N := 75) hx hb hG zuX13 hown hK hP 0 rfl rfl 0 (by decide) (hG _ zw520) (fun _ h9 => h9) rfl dX13_look1_107 ?_
          refine lv_aload_n hx hb dX13_look1_110 rfl (lv_at hl 0 rfl) ?_
          refine va_get (D := (dC, dI)) (ci := 13) (v := .int (u0_ 0)) (C := RX13) (T := TX13) (N := 75) hx hb hG zuX13 hown hK hP 0 rfl rfl 37 (by decide) (hG _ zw680) (fun _ h9 => h9) rfl dX13_look1_111 ?_
          refine va_bald hx hb hK hP 1 0 rfl rfl (zin_lit ⟨by omega, by omega⟩) dX13_look1_114 ?_
          refine lv_topi (fun z114 e_z114 => ?_)
          refine lv_bipush (v := 46) hx hb dX13_look1_115 (by decide) ?_
          refine zcutW (fun H locs ls u153_ w153_ a153_ b153_ => va_P (dC, dI) vwCl [(h0, .inr (13, mX13 q0 (upd (upd v0 35 (u0_ 0)) 37 (u0_ 0)))), ((q0 0), .inl (k1, 600, .inl f1))] H ∧ va_D A [(h0, .inr (13, mX13 q0 (upd (upd v0 35 (u0_ 0)) 37 (u0_ 0)))), ((q0 0), .inl (k1, 600, .inl f1))] ∧ va_S A s.heap H locs ∧ lv_has ls 1 [(0, .ref h0)]) (fun ls u153_ w153_ => F0 m 153 ls []) 0 0 ?_ (fun hJ153 => ?_)
          · skip
            intro H locs ls u153_ w153_ a153_ b153_ hc
            obtain ⟨hP, hD, hS, hl⟩ := hc
            refine lv_aload_n hx hb dX13_look1_153 rfl (lv_at hl 0 rfl) ?_
            refine lv_iconst (v := 2) hx hb dX13_look1_154 (by decide) ?_
            refine va_put (D := (dC, dI)) (ci := 13) (v := .int 2) (ty := .int) (C := RX13) (T := TX13) (N := 75) hx hb hG zuX13 tyX13 tyX13_ok nmX13 hown hK hP hD hS 0 rfl rfl 36 (by decide) (hG _ zw681) (fun _ h9 => h9) rfl (by decide +kernel) rfl rfl (Nat.le_of_ble_eq_true rfl) dX13_look1_155 (fun H locs hP hD hS => ?_)
            have hP : va_P (dC, dI) vwCl [(h0, .inr (13, mX13 q0 (upd (upd (upd v0 35 (u0_ 0)) 36 2) 37 (u0_ 0)))), ((q0 0), .inl (k1, 600, .inl f1))] H := hP
            have hD : va_D A [(h0, .inr (13, mX13 q0 (upd (upd (upd v0 35 (u0_ 0)) 36 2) 37 (u0_ 0)))), ((q0 0), .inl (k1, 600, .inl f1))] := hD
            refine lv_aload_n hx hb dX13_look1_158 rfl (lv_at hl 0 rfl) ?_
            refine lv_aload_n hx hb dX13_look1_159 rfl (lv_at hl 0 rfl) ?_
            refine va_get (D := (dC, dI)) (ci := 13) (v := .int (u0_ 0)) (C := RX13) (T := TX13) (N := 75) hx hb hG zuX13 hown hK hP 0 rfl rfl 37 (by decide) (hG _ zw680) (fun _ h9 => h9) rfl dX13_look1_160 ?_
            refine lv_iconst (v := 1) hx hb dX13_look1_163 (by decide) ?_
            refine lv_iadd hx hb dX13_look1_164 ?_
            refine lv_topi (fun z164 e_z164 => ?_)
            have b_ := zadd rfl zk_1 e_z164 (by omega) (by omega)
            have b_ : 0 ≤ z164.toInt ∧ z164.toInt ≤ 600 := ⟨by omega, by omega⟩
            refine va_put (D := (dC, dI)) (ci := 13) (v := .int z164) (ty := .int) (C := RX13) (T := TX13) (N := 75) hx hb hG zuX13 tyX13 tyX13_ok nmX13 hown hK hP hD hS 0 rfl rfl 35 (by decide) (hG _ zw679) (fun _ h9 => h9) rfl (by decide +kernel) rfl rfl (Nat.le_of_ble_eq_true rfl) dX13_look1_165 (fun H locs hP hD hS => ?_)
            have hP : va_P (dC, dI) vwCl [(h0, .inr (13, mX13 q0 (upd (upd (upd v0 35 z164) 36 2) 37 (u0_ 0)))), ((q0 0), .inl (k1, 600, .inl f1))] H := hP
            have hD : va_D A [(h0, .inr (13, mX13 q0 (upd (upd (upd v0 35 z164) 36 2) 37 (u0_ 0)))), ((q0 0), .inl (k1, 600, .inl f1))] := hD
            refine W.widen (k := 0) (n := 0) (by decide) (by decide) ?_
            have hpost : (0 ≤ z164.toInt ∧ z164.toInt ≤ 600) ∧ (0 ≤ (2 : Int32).toInt ∧ (2 : Int32).toInt ≤ 3) ∧ (0 ≤ (u0_ 0).toInt ∧ (u0_ 0).toInt ≤ 600) ∧ (z164.toInt ≤ (v0 34).toInt) ∧ ((v0 35).toInt ≤ (u0_ 0).toInt) ∧ ((u0_ 0).toInt ≤ z164.toInt) ∧ ((2 : Int32).toInt ≠ 0 → (u0_ 0).toInt < z164.toInt) ∧ ((2 : Int32).toInt = 0 → (u0_ 0).toInt = (v0 34).toInt) := ⟨⟨by omega, by omega⟩, ⟨by omega, by omega⟩, ⟨by omega, by omega⟩, by omega, by omega, by omega, by omega, by omega⟩
            have hP9 : va_P (dC, dI) vwCl [(h0, .inr (13, mX13 q0 (upd (upd (upd v0 35 z164) 36 2) 37 (u0_ 0)))), ((q0 0), .inl (k1, 600, .inl f1))] H := hP
            have hD9 : va_D A [(h0, .inr (13, mX13 q0 (upd (upd (upd v0 35 z164) 36 2) 37 (u0_ 0)))), ((q0 0), .inl (k1, 600, .inl f1))] := hD
            exact W.vret hx hb hr (fun t ht hW => ⟨⟨(fun i => ([z164, 2, (u0_ 0)] : List (Int32)).getD i 0), rfl, hpost, (fun _ => 0), (fun _ => (fun _ => 0)), (fun _ => (fun _ => 0)), by rw [ht]; exact hP9, va_K.moved hW.alike hK, hD9⟩, hS.F ht⟩) hS.2.2 dX13_look1_168
          · skip
            have b_ : -2147483648 ≤ z114.toInt ∧ z114.toInt ≤ 2147483647 := ⟨zlo _, zhi _⟩
            refine lv_icmp_ne (tgt := 153) hx hb dX13_look1_117 (by decide) (fun c_ => ?_) (fun c_ => ?_)
            · skip
              have b_ := zT_ne rfl zk_46 c_
              have hc : va_P (dC, dI) vwCl [(h0, .inr (13, mX13 q0 (upd (upd v0 35 (u0_ 0)) 37 (u0_ 0)))), ((q0 0), .inl (k1, 600, .inl f1))] H ∧ va_D A [(h0, .inr (13, mX13 q0 (upd (upd v0 35 (u0_ 0)) 37 (u0_ 0)))), ((q0 0), .inl (k1, 600, .inl f1))] ∧ va_S A s.heap H locs ∧ lv_has ls 1 [(0, .ref h0)] := ⟨hP, hD, hS, lv_sub hl [0] rfl⟩
              exact hJ153 H locs ls (fun _ => 0) (fun _ => 0) (fun _ => (fun _ => 0)) (fun _ => (fun _ => 0)) hc
            · skip
              have b_ := zF_ne rfl zk_46 c_
              refine lv_aload_n hx hb dX13_look1_120 rfl (lv_at hl 0 rfl) ?_
              refine lv_aload_n hx hb dX13_look1_121 rfl (lv_at hl 0 rfl) ?_
              refine va_get (D := (dC, dI)) (ci := 13) (v := .int (u0_ 0)) (C := RX13) (T := TX13) (N := 75) hx hb hG zuX13 hown hK hP 0 rfl rfl 37 (by decide) (hG _ zw680) (fun _ h9 => h9) rfl dX13_look1_122 ?_
              refine lv_iconst (v := 1) hx hb dX13_look1_125 (by decide) ?_
              refine lv_iadd hx hb dX13_look1_126 ?_
              refine lv_topi (fun z126 e_z126 => ?_)
              have b_ := zadd rfl zk_1 e_z126 (by omega) (by omega)
              have hPc := hP.sub (ws' := [(h0, .inr (13, mX13 q0 (upd (upd v0 35 (u0_ 0)) 37 (u0_ 0)))), ((q0 0), .inl (k1, 600, .inl f1))]) [0, 1] rfl
              have hDc := hD.sub (ws' := [(h0, .inr (13, mX13 q0 (upd (upd v0 35 (u0_ 0)) 37 (u0_ 0)))), ((q0 0), .inl (k1, 600, .inl f1))]) [0, 1] (by decide) rfl
              have hKc := hK.sub (tys' := [(k1, .byte)]) [0] rfl
              have hFc := va_free (wc := [(h0, .inr (13, mX13 q0 (upd (upd v0 35 (u0_ 0)) 37 (u0_ 0)))), ((q0 0), .inl (k1, 600, .inl f1))]) hD hS hA [0, 1] rfl
              refine va_calli (va_runV (As := [.int z126]) (rest := []) ⟨hx, hb, hml, hown, hG⟩ (sX13_byteAt_0 l dC dI adK adV h0 q0 k1 H.size (upd (upd v0 35 (u0_ 0)) 37 (u0_ 0)) f1 z126 (zR_upd (zR_upd hv0 35 (show (0 : Int) ≤ ((u0_ 0) : Int32).toInt from by omega) (show ((u0_ 0) : Int32).toInt ≤ (600 : Int) from by omega)) 37 (show (0 : Int) ≤ ((u0_ 0) : Int32).toInt from by omega) (show ((u0_ 0) : Int32).toInt ≤ (600 : Int) from by omega)) ⟨show (0 : Int) ≤ (z126 : Int32).toInt from by omega, show (z126 : Int32).toInt ≤ (602 : Int) from by omega⟩) (cwV 1 hG (zgV zw682 zw683 zw684 zw524 zw685) rfl rfl rfl (by decide +kernel) ⟨Nat.le_of_ble_eq_true rfl, Nat.le_of_ble_eq_true rfl⟩) ⟨zPc_blind, va_recv hKc hPc (ci := 13) (q0 := 0) rfl rfl, zPc_pre hPc hKc hDc hE hS hFc hZ⟩ rfl rfl hl.1 rfl (lv_room (Nat.le_of_ble_eq_true rfl)) dX13_look1_127 ⟨Nat.le_of_ble_eq_true rfl, Nat.le_of_ble_eq_true rfl⟩) hS (fun q _ h => hFc q h) hFc (fun r127_ u127_ t H1 locs ht hvm hw hB hz1 hk1 hS => ?_)
              have hw : (r127_.toInt ≠ 0 → z126.toInt < (v0 34).toInt) := hw
              have hX127_0 := hw
              obtain ⟨w127_, a127_, b127_, hP1, hK1, hD1⟩ := hB
              rw [ht] at hP1
              obtain ⟨hP, hD⟩ := va_join (wr := []) (w1 := [(h0, .inr (13, mX13 q0 (upd (upd v0 35 (u0_ 0)) 37 (u0_ 0)))), ((q0 0), .inl (k1, 600, .inl f1))]) hP hD [0, 1] [] rfl rfl (by decide) (by decide) hk1 hFc hP1 hD1
              have hP : va_P (dC, dI) vwCl [(h0, .inr (13, mX13 q0 (upd (upd v0 35 (u0_ 0)) 37 (u0_ 0)))), ((q0 0), .inl (k1, 600, .inl f1))] H1 := hP.sub [0, 1] rfl
              have hD : va_D A [(h0, .inr (13, mX13 q0 (upd (upd v0 35 (u0_ 0)) 37 (u0_ 0)))), ((q0 0), .inl (k1, 600, .inl f1))] := hD.sub [0, 1] (by decide) rfl
              generalize H1 = H at hP hS ⊢
              clear hz1
              refine lv_bipush (v := 46) hx hb dX13_look1_130 (by decide) ?_
              have b_ : -2147483648 ≤ r127_.toInt ∧ r127_.toInt ≤ 2147483647 := ⟨zlo _, zhi _⟩
              refine lv_icmp_ne (tgt := 153) hx hb dX13_look1_132 (by decide) (fun c_ => ?_) (fun c_ => ?_)
              · skip
                have b_ := zT_ne rfl zk_46 c_
                have hc : va_P (dC, dI) vwCl [(h0, .inr (13, mX13 q0 (upd (upd v0 35 (u0_ 0)) 37 (u0_ 0)))), ((q0 0), .inl (k1, 600, .inl f1))] H ∧ va_D A [(h0, .inr (13, mX13 q0 (upd (upd v0 35 (u0_ 0)) 37 (u0_ 0)))), ((q0 0), .inl (k1, 600, .inl f1))] ∧ va_S A s.heap H locs ∧ lv_has ls 1 [(0, .ref h0)] := ⟨hP, hD, hS, lv_sub hl [0] rfl⟩
                exact hJ153 H locs ls (fun _ => 0) (fun _ => 0) (fun _ => (fun _ => 0)) (fun _ => (fun _ => 0)) hc
              · skip
                have b_ := zF_ne rfl zk_46 c_
                refine lv_aload_n hx hb dX13_look1_135 rfl (lv_at hl 0 rfl) ?_
                refine lv_iconst (v := 3) hx hb dX13_look1_136 (by decide) ?_
                refine va_put (D := (dC, dI)) (ci := 13) (v := .int 3) (ty := .int) (C := RX13) (T := TX13) (N := 75) hx hb hG zuX13 tyX13 tyX13_ok nmX13 hown hK hP hD hS 0 rfl rfl 36 (by decide) (hG _ zw681) (fun _ h9 => h9) rfl (by decide +kernel) rfl rfl (Nat.le_of_ble_eq_true rfl) dX13_look1_137 (fun H locs hP hD hS => ?_)
                have hP : va_P (dC, dI) vwCl [(h0, .inr (13, mX13 q0 (upd (upd (upd v0 35 (u0_ 0)) 36 3) 37 (u0_ 0)))), ((q0 0), .inl (k1, 600, .inl f1))] H := hP
                have hD : va_D A [(h0, .inr (13, mX13 q0 (upd (upd (upd v0 35 (u0_ 0)) 36 3) 37 (u0_ 0)))), ((q0 0), .inl (k1, 600, .inl f1))] := hD
                refine lv_aload_n hx hb dX13_look1_140 rfl (lv_at hl 0 rfl) ?_
                refine lv_aload_n hx hb dX13_look1_141 rfl (lv_at hl 0 rfl) ?_
                refine va_get (D := (dC, dI)) (ci := 13) (v := .int (u0_ 0)) (C := RX13) (T := TX13) (N := 75) hx hb hG zuX13 hown hK hP 0 rfl rfl 37 (by decide) (hG _ zw680) (fun _ h9 => h9) rfl dX13_look1_142 ?_
                refine lv_iconst (v := 2) hx hb dX13_look1_145 (by decide) ?_
                refine lv_iadd hx hb dX13_look1_146 ?_
                refine lv_topi (fun z146 e_z146 => ?_)
                have b_ := zadd rfl zk_2 e_z146 (by omega) (by omega)
                have b_ : 0 ≤ z146.toInt ∧ z146.toInt ≤ 600 := ⟨by omega, by omega⟩
                refine va_put (D := (dC, dI)) (ci := 13) (v := .int z146) (ty := .int) (C := RX13) (T := TX13) (N := 75) hx hb hG zuX13 tyX13 tyX13_ok nmX13 hown hK hP hD hS 0 rfl rfl 35 (by decide) (hG _ zw679) (fun _ h9 => h9) rfl (by decide +kernel) rfl rfl (Nat.le_of_ble_eq_true rfl) dX13_look1_147 (fun H locs hP hD hS => ?_)
                have hP : va_P (dC, dI) vwCl [(h0, .inr (13, mX13 q0 (upd (upd (upd v0 35 z146) 36 3) 37 (u0_ 0)))), ((q0 0), .inl (k1, 600, .inl f1))] H := hP
                have hD : va_D A [(h0, .inr (13, mX13 q0 (upd (upd (upd v0 35 z146) 36 3) 37 (u0_ 0)))), ((q0 0), .inl (k1, 600, .inl f1))] := hD
                refine lv_goto (tgt := 168) hx hb dX13_look1_150 (by decide) ?_
                refine W.widen (k := 0) (n := 0) (by decide) (by decide) ?_
                have hpost : (0 ≤ z146.toInt ∧ z146.toInt ≤ 600) ∧ (0 ≤ (3 : Int32).toInt ∧ (3 : Int32).toInt ≤ 3) ∧ (0 ≤ (u0_ 0).toInt ∧ (u0_ 0).toInt ≤ 600) ∧ (z146.toInt ≤ (v0 34).toInt) ∧ ((v0 35).toInt ≤ (u0_ 0).toInt) ∧ ((u0_ 0).toInt ≤ z146.toInt) ∧ ((3 : Int32).toInt ≠ 0 → (u0_ 0).toInt < z146.toInt) ∧ ((3 : Int32).toInt = 0 → (u0_ 0).toInt = (v0 34).toInt) := ⟨⟨by omega, by omega⟩, ⟨by omega, by omega⟩, ⟨by omega, by omega⟩, by omega, by omega, by omega, by omega, by omega⟩
                have hP9 : va_P (dC, dI) vwCl [(h0, .inr (13, mX13 q0 (upd (upd (upd v0 35 z146) 36 3) 37 (u0_ 0)))), ((q0 0), .inl (k1, 600, .inl f1))] H := hP
                have hD9 : va_D A [(h0, .inr (13, mX13 q0 (upd (upd (upd v0 35 z146) 36 3) 37 (u0_ 0)))), ((q0 0), .inl (k1, 600, .inl f1))] := hD
                exact W.vret hx hb hr (fun t ht hW => ⟨⟨(fun i => ([z146, 3, (u0_ 0)] : List (Int32)).getD i 0), rfl, hpost, (fun _ => 0), (fun _ => (fun _ => 0)), (fun _ => (fun _ => 0)), by rw [ht]; exact hP9, va_K.moved hW.alike hK, hD9⟩, hS.F ht⟩) hS.2.2 dX13_look1_168
        · skip
          have b_ := zF_eq rfl zk_0 c_
          refine lv_aload_n hx hb dX13_look1_82 rfl (lv_at hl 0 rfl) ?_
          refine lv_iconst (v := 1) hx hb dX13_look1_83 (by decide) ?_
          refine va_put (D := (dC, dI)) (ci := 13) (v := .int 1) (ty := .int) (C := RX13) (T := TX13) (N := 75) hx hb hG zuX13 tyX13 tyX13_ok nmX13 hown hK hP hD hS 0 rfl rfl 36 (by decide) (hG _ zw681) (fun _ h9 => h9) rfl (by decide +kernel) rfl rfl (Nat.le_of_ble_eq_true rfl) dX13_look1_84 (fun H locs hP hD hS => ?_)
          have hP : va_P (dC, dI) vwCl [(h0, .inr (13, mX13 q0 (upd (upd (upd v0 35 (u0_ 0)) 36 1) 37 (u0_ 0)))), ((q0 0), .inl (k1, 600, .inl f1))] H := hP
          have hD : va_D A [(h0, .inr (13, mX13 q0 (upd (upd (upd v0 35 (u0_ 0)) 36 1) 37 (u0_ 0)))), ((q0 0), .inl (k1, 600, .inl f1))] := hD
          refine lv_aload_n hx hb dX13_look1_87 rfl (lv_at hl 0 rfl) ?_
          refine lv_aload_n hx hb dX13_look1_88 rfl (lv_at hl 0 rfl) ?_
          refine lv_aload_n hx hb dX13_look1_89 rfl (lv_at hl 0 rfl) ?_
          refine va_get (D := (dC, dI)) (ci := 13) (v := .int (u0_ 0)) (C := RX13) (T := TX13) (N := 75) hx hb hG zuX13 hown hK hP 0 rfl rfl 37 (by decide) (hG _ zw680) (fun _ h9 => h9) rfl dX13_look1_90 ?_
          refine lv_aload_n hx hb dX13_look1_93 rfl (lv_at hl 0 rfl) ?_
          refine va_get (D := (dC, dI)) (ci := 13) (v := .int (v0 34)) (C := RX13) (T := TX13) (N := 75) hx hb hG zuX13 hown hK hP 0 rfl rfl 34 (by decide) (hG _ zw678) (fun _ h9 => h9) rfl dX13_look1_94 ?_
          have hPc := hP.sub (ws' := [(h0, .inr (13, mX13 q0 (upd (upd (upd v0 35 (u0_ 0)) 36 1) 37 (u0_ 0)))), ((q0 0), .inl (k1, 600, .inl f1))]) [0, 1] rfl
          have hDc := hD.sub (ws' := [(h0, .inr (13, mX13 q0 (upd (upd (upd v0 35 (u0_ 0)) 36 1) 37 (u0_ 0)))), ((q0 0), .inl (k1, 600, .inl f1))]) [0, 1] (by decide) rfl
          have hKc := hK.sub (tys' := [(k1, .byte)]) [0] rfl
          have hFc := va_free (wc := [(h0, .inr (13, mX13 q0 (upd (upd (upd v0 35 (u0_ 0)) 36 1) 37 (u0_ 0)))), ((q0 0), .inl (k1, 600, .inl f1))]) hD hS hA [0, 1] rfl
          refine va_calli (va_runV (As := [.int (u0_ 0), .int (v0 34)]) (rest := [.ref h0]) ⟨hx, hb, hml, hown, hG⟩ (sX13_runEnd_0 l dC dI adK adV h0 q0 k1 H.size (upd (upd (upd v0 35 (u0_ 0)) 36 1) 37 (u0_ 0)) f1 (u0_ 0) (v0 34) (zR_upd (zR_upd (zR_upd hv0 35 (show (0 : Int) ≤ ((u0_ 0) : Int32).toInt from by omega) (show ((u0_ 0) : Int32).toInt ≤ (600 : Int) from by omega)) 36 (show (0 : Int) ≤ (1 : Int32).toInt from by decide) (show (1 : Int32).toInt ≤ (3 : Int) from by decide)) 37 (show (0 : Int) ≤ ((u0_ 0) : Int32).toInt from by omega) (show ((u0_ 0) : Int32).toInt ≤ (600 : Int) from by omega)) ⟨show (0 : Int) ≤ ((u0_ 0) : Int32).toInt from by omega, show ((u0_ 0) : Int32).toInt ≤ (600 : Int) from by omega⟩ ⟨show (0 : Int) ≤ ((v0 34) : Int32).toInt from by omega, show ((v0 34) : Int32).toInt ≤ (600 : Int) from by omega⟩) (cwV 2 hG (zgV zw606 zw607 zw608 zw524 zw609) rfl rfl rfl (by decide +kernel) ⟨Nat.le_of_ble_eq_true rfl, Nat.le_of_ble_eq_true rfl⟩) ⟨zPc_blind, va_recv hKc hPc (ci := 13) (q0 := 0) rfl rfl, zPc_pre hPc hKc hDc hE hS hFc hZ⟩ rfl rfl hl.1 rfl (lv_room (Nat.le_of_ble_eq_true rfl)) dX13_look1_97 ⟨Nat.le_of_ble_eq_true rfl, Nat.le_of_ble_eq_true rfl⟩) hS (fun q _ h => hFc q h) hFc (fun r97_ u97_ t H1 locs ht hvm hw hB hz1 hk1 hS => ?_)
          have hw : (0 ≤ r97_.toInt ∧ r97_.toInt ≤ 600) ∧ ((u0_ 0).toInt ≤ r97_.toInt) ∧ (r97_.toInt ≤ (v0 34).toInt ∨ r97_.toInt = (u0_ 0).toInt) ∧ (r97_.toInt ≤ 600) ∧ (r97_.toInt < (v0 34).toInt → ¬ zTok (f1 ((r97_ : Int32)).toNatClampNeg).toInt) ∧ ((u0_ 0).toInt < (v0 34).toInt → zTok (f1 (((u0_ 0) : Int32)).toNatClampNeg).toInt → (u0_ 0).toInt < r97_.toInt) := hw
          obtain ⟨b_, hX97_0, hX97_1, hX97_2, hX97_3, hX97_4⟩ := hw
          obtain ⟨w97_, a97_, b97_, hP1, hK1, hD1⟩ := hB
          rw [ht] at hP1
          obtain ⟨hP, hD⟩ := va_join (wr := []) (w1 := [(h0, .inr (13, mX13 q0 (upd (upd (upd v0 35 (u0_ 0)) 36 1) 37 (u0_ 0)))), ((q0 0), .inl (k1, 600, .inl f1))]) hP hD [0, 1] [] rfl rfl (by decide) (by decide) hk1 hFc hP1 hD1
          have hP : va_P (dC, dI) vwCl [(h0, .inr (13, mX13 q0 (upd (upd (upd v0 35 (u0_ 0)) 36 1) 37 (u0_ 0)))), ((q0 0), .inl (k1, 600, .inl f1))] H1 := hP.sub [0, 1] rfl
          have hD : va_D A [(h0, .inr (13, mX13 q0 (upd (upd (upd v0 35 (u0_ 0)) 36 1) 37 (u0_ 0)))), ((q0 0), .inl (k1, 600, .inl f1))] := hD.sub [0, 1] (by decide) rfl
          generalize H1 = H at hP hS ⊢
          clear hz1
          have b_ := hX97_4 (by omega) (by rw [← e_z75]; exact hX76_0 (by omega))
          refine va_put (D := (dC, dI)) (ci := 13) (v := .int r97_) (ty := .int) (C := RX13) (T := TX13) (N := 75) hx hb hG zuX13 tyX13 tyX13_ok nmX13 hown hK hP hD hS 0 rfl rfl 35 (by decide) (hG _ zw679) (fun _ h9 => h9) rfl (by decide +kernel) rfl rfl (Nat.le_of_ble_eq_true rfl) dX13_look1_100 (fun H locs hP hD hS => ?_)
          have hP : va_P (dC, dI) vwCl [(h0, .inr (13, mX13 q0 (upd (upd (upd v0 35 r97_) 36 1) 37 (u0_ 0)))), ((q0 0), .inl (k1, 600, .inl f1))] H := hP
          have hD : va_D A [(h0, .inr (13, mX13 q0 (upd (upd (upd v0 35 r97_) 36 1) 37 (u0_ 0)))), ((q0 0), .inl (k1, 600, .inl f1))] := hD
          refine lv_goto (tgt := 168) hx hb dX13_look1_103 (by decide) ?_
          refine W.widen (k := 0) (n := 0) (by decide) (by decide) ?_
          have hpost : (0 ≤ r97_.toInt ∧ r97_.toInt ≤ 600) ∧ (0 ≤ (1 : Int32).toInt ∧ (1 : Int32).toInt ≤ 3) ∧ (0 ≤ (u0_ 0).toInt ∧ (u0_ 0).toInt ≤ 600) ∧ (r97_.toInt ≤ (v0 34).toInt) ∧ ((v0 35).toInt ≤ (u0_ 0).toInt) ∧ ((u0_ 0).toInt ≤ r97_.toInt) ∧ ((1 : Int32).toInt ≠ 0 → (u0_ 0).toInt < r97_.toInt) ∧ ((1 : Int32).toInt = 0 → (u0_ 0).toInt = (v0 34).toInt) := ⟨⟨by omega, by omega⟩, ⟨by omega, by omega⟩, ⟨by omega, by omega⟩, by omega, by omega, by omega, by omega, by omega⟩
          have hP9 : va_P (dC, dI) vwCl [(h0, .inr (13, mX13 q0 (upd (upd (upd v0 35 r97_) 36 1) 37 (u0_ 0)))), ((q0 0), .inl (k1, 600, .inl f1))] H := hP
          have hD9 : va_D A [(h0, .inr (13, mX13 q0 (upd (upd (upd v0 35 r97_) 36 1) 37 (u0_ 0)))), ((q0 0), .inl (k1, 600, .inl f1))] := hD
          exact W.vret hx hb hr (fun t ht hW => ⟨⟨(fun i => ([r97_, 1, (u0_ 0)] : List (Int32)).getD i 0), rfl, hpost, (fun _ => 0), (fun _ => (fun _ => 0)), (fun _ => (fun _ => 0)), by rw [ht]; exact hP9, va_K.moved hW.alike hK, hD9⟩, hS.F ht⟩) hS.2.2 dX13_look1_168
      · skip
        have b_ := zF_ne rfl rfl c_
        refine lv_aload_n hx hb dX13_look1_59 rfl (lv_at hl 0 rfl) ?_
        refine lv_iconst (v := 0) hx hb dX13_look1_60 (by decide) ?_
        refine va_put (D := (dC, dI)) (ci := 13) (v := .int 0) (ty := .int) (C := RX13) (T := TX13) (N := 75) hx hb hG zuX13 tyX13 tyX13_ok nmX13 hown hK hP hD hS 0 rfl rfl 36 (by decide) (hG _ zw681) (fun _ h9 => h9) rfl (by decide +kernel) rfl rfl (Nat.le_of_ble_eq_true rfl) dX13_look1_61 (fun H locs hP hD hS => ?_)
        have hP : va_P (dC, dI) vwCl [(h0, .inr (13, mX13 q0 (upd (upd (upd v0 35 (u0_ 0)) 36 0) 37 (u0_ 0)))), ((q0 0), .inl (k1, 600, .inl f1))] H := hP
        have hD : va_D A [(h0, .inr (13, mX13 q0 (upd (upd (upd v0 35 (u0_ 0)) 36 0) 37 (u0_ 0)))), ((q0 0), .inl (k1, 600, .inl f1))] := hD
        refine lv_goto (tgt := 168) hx hb dX13_look1_64 (by decide) ?_
        refine W.widen (k := 0) (n := 0) (by decide) (by decide) ?_
        have hpost : (0 ≤ (u0_ 0).toInt ∧ (u0_ 0).toInt ≤ 600) ∧ (0 ≤ (0 : Int32).toInt ∧ (0 : Int32).toInt ≤ 3) ∧ (0 ≤ (u0_ 0).toInt ∧ (u0_ 0).toInt ≤ 600) ∧ ((u0_ 0).toInt ≤ (v0 34).toInt) ∧ ((v0 35).toInt ≤ (u0_ 0).toInt) ∧ ((u0_ 0).toInt ≤ (u0_ 0).toInt) ∧ ((0 : Int32).toInt ≠ 0 → (u0_ 0).toInt < (u0_ 0).toInt) ∧ ((0 : Int32).toInt = 0 → (u0_ 0).toInt = (v0 34).toInt) := ⟨⟨by omega, by omega⟩, ⟨by omega, by omega⟩, ⟨by omega, by omega⟩, by omega, by omega, by omega, by omega, by omega⟩
        have hP9 : va_P (dC, dI) vwCl [(h0, .inr (13, mX13 q0 (upd (upd (upd v0 35 (u0_ 0)) 36 0) 37 (u0_ 0)))), ((q0 0), .inl (k1, 600, .inl f1))] H := hP
        have hD9 : va_D A [(h0, .inr (13, mX13 q0 (upd (upd (upd v0 35 (u0_ 0)) 36 0) 37 (u0_ 0)))), ((q0 0), .inl (k1, 600, .inl f1))] := hD
        exact W.vret hx hb hr (fun t ht hW => ⟨⟨(fun i => ([(u0_ 0), 0, (u0_ 0)] : List (Int32)).getD i 0), rfl, hpost, (fun _ => 0), (fun _ => (fun _ => 0)), (fun _ => (fun _ => 0)), by rw [ht]; exact hP9, va_K.moved hW.alike hK, hD9⟩, hS.F ht⟩) hS.2.2 dX13_look1_168
    · skip
      refine lv_icmp_ge (tgt := 40) hx hb dX13_look1_8 (by decide) (fun c_ => ?_) (fun c_ => ?_)
      · skip
        have b_ := zT_ge rfl rfl c_
        have hc : va_P (dC, dI) vwCl [(h0, .inr (13, mX13 q0 (upd v0 35 (u0_ 0)))), ((q0 0), .inl (k1, 600, .inl f1))] H ∧ va_D A [(h0, .inr (13, mX13 q0 (upd v0 35 (u0_ 0)))), ((q0 0), .inl (k1, 600, .inl f1))] ∧ va_S A s.heap H locs ∧ lv_has ls 1 [(0, .ref h0)] ∧ (0 ≤ (u0_ 0).toInt ∧ (u0_ 0).toInt ≤ 600) ∧ (0 ≤ (v0 34).toInt ∧ (v0 34).toInt ≤ 600) := ⟨hP, hD, hS, lv_sub hl [0] rfl, ⟨by omega, by omega⟩, ⟨by omega, by omega⟩⟩
        exact hJ40 H locs ls (fun _ => 0) (fun _ => 0) (fun _ => (fun _ => 0)) (fun _ => (fun _ => 0)) hc
      · skip
        have b_ := zF_ge rfl rfl c_
        refine lv_aload_n hx hb dX13_look1_11 rfl (lv_at hl 0 rfl) ?_
        refine lv_aload_n hx hb dX13_look1_12 rfl (lv_at hl 0 rfl) ?_
        refine va_get (D := (dC, dI)) (ci := 13) (v := .ref (q0 0)) (C := RX13) (T := TX13) (N := 75) hx hb hG zuX13 hown hK hP 0 rfl rfl 0 (by decide) (hG _ zw520) (fun _ h9 => h9) rfl dX13_look1_13 ?_
        refine lv_aload_n hx hb dX13_look1_16 rfl (lv_at hl 0 rfl) ?_
        refine va_get (D := (dC, dI)) (ci := 13) (v := .int (u0_ 0)) (C := RX13) (T := TX13) (N := 75) hx hb hG zuX13 hown hK hP 0 rfl rfl 35 (by decide) (hG _ zw679) (fun _ h9 => h9) rfl dX13_look1_17 ?_
        refine va_bald hx hb hK hP 1 0 rfl rfl (zin_lit ⟨by omega, by omega⟩) dX13_look1_20 ?_
        refine lv_topi (fun z20 e_z20 => ?_)
        have hPc := hP.sub (ws' := []) [] rfl
        have hDc := hD.sub (ws' := []) [] (by decide) rfl
        have hKc := hK.sub (tys' := []) [] rfl
        have hFc := va_free (wc := []) hD hS hA [] rfl
        refine va_calli (va_runV (As := [.int z20]) (rest := []) ⟨hx, hb, hml, hown, hG⟩ (sX13_isBlank_0 l dC dI adK adV h0 H.size z20) (cwV 1 hG (zgV zw686 zw687 zw688 zw524 zw689) rfl rfl rfl (by decide +kernel) ⟨Nat.le_of_ble_eq_true rfl, Nat.le_of_ble_eq_true rfl⟩) ⟨zPc_blind, va_recv hK hP (ci := 13) (q0 := 0) rfl rfl, zPc_pre hPc hKc hDc hE hS hFc hZ⟩ rfl rfl hl.1 rfl (lv_room (Nat.le_of_ble_eq_true rfl)) dX13_look1_21 ⟨Nat.le_of_ble_eq_true rfl, Nat.le_of_ble_eq_true rfl⟩) hS (fun q _ h => hFc q h) hFc (fun r21_ u21_ t H1 locs ht hvm hw hB hz1 hk1 hS => ?_)
        have hw : (0 ≤ r21_.toInt ∧ r21_.toInt ≤ 1) := hw
        have b_ := hw
        obtain ⟨w21_, a21_, b21_, hP1, hK1, hD1⟩ := hB
        rw [ht] at hP1
        obtain ⟨hP, hD⟩ := va_join (wr := [(h0, .inr (13, mX13 q0 (upd v0 35 (u0_ 0)))), ((q0 0), .inl (k1, 600, .inl f1))]) (w1 := []) hP hD [] [0, 1] rfl rfl (by decide) (by decide) hk1 hFc hP1 hD1
        have hP : va_P (dC, dI) vwCl [(h0, .inr (13, mX13 q0 (upd v0 35 (u0_ 0)))), ((q0 0), .inl (k1, 600, .inl f1))] H1 := hP.sub [0, 1] rfl
        have hD : va_D A [(h0, .inr (13, mX13 q0 (upd v0 35 (u0_ 0)))), ((q0 0), .inl (k1, 600, .inl f1))] := hD.sub [0, 1] (by decide) rfl
        generalize H1 = H at hP hS ⊢
        clear hz1
        refine lv_if_eq (tgt := 40) hx hb dX13_look1_24 (by decide) (fun c_ => ?_) (fun c_ => ?_)
        · skip
          have b_ := zT_eq rfl zk_0 c_
          have hc : va_P (dC, dI) vwCl [(h0, .inr (13, mX13 q0 (upd v0 35 (u0_ 0)))), ((q0 0), .inl (k1, 600, .inl f1))] H ∧ va_D A [(h0, .inr (13, mX13 q0 (upd v0 35 (u0_ 0)))), ((q0 0), .inl (k1, 600, .inl f1))] ∧ va_S A s.heap H locs ∧ lv_has ls 1 [(0, .ref h0)] ∧ (0 ≤ (u0_ 0).toInt ∧ (u0_ 0).toInt ≤ 600) ∧ (0 ≤ (v0 34).toInt ∧ (v0 34).toInt ≤ 600) := ⟨hP, hD, hS, lv_sub hl [0] rfl, ⟨by omega, by omega⟩, ⟨by omega, by omega⟩⟩
          exact hJ40 H locs ls (fun _ => 0) (fun _ => 0) (fun _ => (fun _ => 0)) (fun _ => (fun _ => 0)) hc
        · skip
          have b_ := zF_eq rfl zk_0 c_
          refine lv_aload_n hx hb dX13_look1_27 rfl (lv_at hl 0 rfl) ?_
          refine lv_dup hx hb dX13_look1_28 rfl ?_
          refine va_get (D := (dC, dI)) (ci := 13) (v := .int (u0_ 0)) (C := RX13) (T := TX13) (N := 75) hx hb hG zuX13 hown hK hP 0 rfl rfl 35 (by decide) (hG _ zw679) (fun _ h9 => h9) rfl dX13_look1_29 ?_
          refine lv_iconst (v := 1) hx hb dX13_look1_32 (by decide) ?_
          refine lv_iadd hx hb dX13_look1_33 ?_
          refine lv_topi (fun z33 e_z33 => ?_)
          have b_ := zadd rfl zk_1 e_z33 (by omega) (by omega)
          refine va_put (D := (dC, dI)) (ci := 13) (v := .int z33) (ty := .int) (C := RX13) (T := TX13) (N := 75) hx hb hG zuX13 tyX13 tyX13_ok nmX13 hown hK hP hD hS 0 rfl rfl 35 (by decide) (hG _ zw679) (fun _ h9 => h9) rfl (by decide +kernel) rfl rfl (Nat.le_of_ble_eq_true rfl) dX13_look1_34 (fun H locs hP hD hS => ?_)
          have hP : va_P (dC, dI) vwCl [(h0, .inr (13, mX13 q0 (upd v0 35 z33))), ((q0 0), .inl (k1, 600, .inl f1))] H := hP
          have hD : va_D A [(h0, .inr (13, mX13 q0 (upd v0 35 z33))), ((q0 0), .inl (k1, 600, .inl f1))] := hD
          refine lv_goto (tgt := 0) hx hb dX13_look1_37 (by decide) ?_
          have hc : va_P (dC, dI) vwCl [(h0, .inr (13, mX13 q0 (upd v0 35 z33))), ((q0 0), .inl (k1, 600, .inl f1))] H ∧ va_D A [(h0, .inr (13, mX13 q0 (upd v0 35 z33))), ((q0 0), .inl (k1, 600, .inl f1))] ∧ va_S A s.heap H locs ∧ lv_has ls 1 [(0, .ref h0)] ∧ (0 ≤ z33.toInt ∧ z33.toInt ≤ 600) ∧ (z33.toInt ≤ (v0 34).toInt) ∧ ((v0 35).toInt ≤ z33.toInt) := ⟨hP, hD, hS, lv_sub hl [0] rfl, ⟨by omega, by omega⟩, by omega, by omega⟩
          exact hJ0 H locs ls (fun i => ([z33] : List (Int32)).getD i 0) (fun _ => 0) (fun _ => (fun _ => 0)) (fun _ => (fun _ => 0)) hc (show (600 - z33.toInt).toNat < (600 - (u0_ 0).toInt).toNat from by omega)
  · skip
    have hc : va_P (dC, dI) vwCl [(h0, .inr (13, mX13 q0 (upd v0 35 (v0 35)))), ((q0 0), .inl (k1, 600, .inl f1))] s.heap ∧ va_D A [(h0, .inr (13, mX13 q0 (upd v0 35 (v0 35)))), ((q0 0), .inl (k1, 600, .inl f1))] ∧ va_S A s.heap s.heap [] ∧ lv_has ls 1 [(0, .ref h0)] ∧ (0 ≤ (v0 35).toInt ∧ (v0 35).toInt ≤ 600) ∧ ((v0 35).toInt ≤ (v0 34).toInt) ∧ ((v0 35).toInt ≤ (v0 35).toInt) := ⟨hP, hD, hS, lv_sub hl [0] rfl, ⟨by omega, by omega⟩, by omega, by omega⟩
    exact hJ0 s.heap [] ls (fun i => ([(v0 35)] : List (Int32)).getD i 0) (fun _ => 0) (fun _ => (fun _ => 0)) (fun _ => (fun _ => 0)) hc
set_option maxHeartbeats 8000000 in
set_option maxRecDepth 100000 in
theorem sX13_isSign_0 (l : Launch) (dC : Nat → ClassId) (dI : Nat → Nat → Nat) (adK adV : Nat → Nat) (h0 : Nat) (q0 : Nat → Nat) (k1 : ClassId) (sz : Nat) (v0 : Nat → Int32) (f1 : Nat → Int32) (x1 : Int32) (hv0 : zR rg_Model v0) (hp0_ : (v0 36).toInt ≠ 0 → (v0 37).toInt < (v0 34).toInt) : Met l yX13_isSign (zw yX13_isSign cX13_isSign 2 (some .boolean)) { frames := 0, cells := 0, slots := 0, locals := 0 } (zPc dC dI adK adV [.ref h0, .int x1] sz [(h0, .inr (13, mX13 q0 v0)), ((q0 0), .inl (k1, 600, .inl f1))] [(k1, .byte)]) (va_Qi (fun (r : Int32) (u : Nat → Int32) => (0 ≤ r.toInt ∧ r.toInt ≤ 1) ∧ (r.toInt = 1 → (v0 36).toInt = 2)) (fun (u : Nat → Int32) (t : State) => ∃ (ww : Nat → Int64) (aa : Nat → Nat → Int32) (bb : Nat → Nat → Int64), va_P (dC, dI) vwCl [(h0, .inr (13, mX13 q0 v0)), ((q0 0), .inl (k1, 600, .inl f1))] t.heap ∧ va_K (dC, dI) vwCl [(k1, .byte)] t ∧ va_D (va_A [(h0, .inr (13, mX13 q0 v0)), ((q0 0), .inl (k1, 600, .inl f1))] sz) [(h0, .inr (13, mX13 q0 v0)), ((q0 0), .inl (k1, 600, .inl f1))]) (va_A [(h0, .inr (13, mX13 q0 v0)), ((q0 0), .inl (k1, 600, .inl f1))] sz)) 0 0 (va_A [(h0, .inr (13, mX13 q0 v0)), ((q0 0), .inl (k1, 600, .inl f1))] sz) := by
  refine Met.ofW (cc := cX13_isSign) (maxL := 2) (ret := (some .boolean)) (by decide) rfl ?_
  intro p e s m args below meth c s₁ B hml hv
  obtain ⟨rfl, hsz, hP, hK, hD0, hE, hZ⟩ := hv
  have hx := B.exec
  have hb := B.bytes
  have hr := B.returns
  have hG : ∀ w ∈ zG, w.before _ s = true := fun w h => atoms_spec (ws := (zw yX13_isSign cX13_isSign 2 (some .boolean))) B.pre w (List.mem_cons_of_mem _ h)
  have hown : s.vm.findClass RX13 = some m.cls := findClass_of_methodNamed B.named
  have hlocks := B.notSynchronized
  subst hsz
  have hD := hD0.self (sz := s.heap.size)
  generalize hAe : va_A [(h0, .inr (13, mX13 q0 v0)), ((q0 0), .inl (k1, 600, .inl f1))] s.heap.size = A at hD hZ ⊢
  have hA : ∀ q : Nat, s.heap.size ≤ q → A q := fun q h => by rw [← hAe]; exact Or.inr h
  have hS : va_S A s.heap s.heap [] := va_S.rf
  have hl := lv_entry ([.ref h0, .int x1]) (n := 2) (Nat.le_of_ble_eq_true rfl)
  rw [lg_entry_eq]
  generalize (lg_sl ([.ref h0, .int x1]) ++ List.replicate (2 - (lg_sl ([.ref h0, .int x1])).length) Slot.unset).toArray = ls at hl ⊢
  have hl : lv_has ls 2 [(0, .ref h0), (1, .int x1)] := hl
  have b_ := zk_0
  have b_ := zk_1
  have b_ : 0 ≤ (v0 36).toInt ∧ (v0 36).toInt ≤ 3 := hv0 36
  have b_ : 0 ≤ (v0 37).toInt ∧ (v0 37).toInt ≤ 600 := hv0 37
  have b_ : 0 ≤ (v0 34).toInt ∧ (v0 34).toInt ≤ 600 := hv0 34
  refine lv_aload_n hx hb dX13_isSign_0 rfl (lv_at hl 0 rfl) ?_
  refine va_get (D := (dC, dI)) (ci := 13) (v := .int (v0 36)) (C := RX13) (T := TX13) (N := 75) hx hb hG zuX13 hown hK hP 0 rfl rfl 36 (by decide) (hG _ zw681) (fun _ h9 => h9) rfl dX13_isSign_1 ?_
  refine lv_iconst (v := 2) hx hb dX13_isSign_4 (by decide) ?_
  refine lv_icmp_ne (tgt := 25) hx hb dX13_isSign_5 (by decide) (fun c_ => ?_) (fun c_ => ?_)
  · skip
    have b_ := zT_ne rfl zk_2 c_
    refine lv_iconst (v := 0) hx hb dX13_isSign_25 (by decide) ?_
    refine W.widen (k := 0) (n := 0) (by decide) (by decide) ?_
    have hpost : (0 ≤ (0 : Int32).toInt ∧ (0 : Int32).toInt ≤ 1) ∧ ((0 : Int32).toInt = 1 → (v0 36).toInt = 2) := ⟨⟨by omega, by omega⟩, by omega⟩
    have hP9 : va_P (dC, dI) vwCl [(h0, .inr (13, mX13 q0 v0)), ((q0 0), .inl (k1, 600, .inl f1))] s.heap := hP
    have hD9 : va_D A [(h0, .inr (13, mX13 q0 v0)), ((q0 0), .inl (k1, 600, .inl f1))] := hD
    exact W.zret (v := 0) hx hb hr rfl (fun t ht hW => ⟨⟨0, (fun _ => 0), rfl, hpost, (fun _ => 0), (fun _ => (fun _ => 0)), (fun _ => (fun _ => 0)), by rw [ht]; exact hP9, va_K.moved hW.alike hK, hD9⟩, hS.F ht⟩) hS.2.2 dX13_isSign_26
  · skip
    have b_ := zF_ne rfl zk_2 c_
    refine lv_aload_n hx hb dX13_isSign_8 rfl (lv_at hl 0 rfl) ?_
    refine va_get (D := (dC, dI)) (ci := 13) (v := .ref (q0 0)) (C := RX13) (T := TX13) (N := 75) hx hb hG zuX13 hown hK hP 0 rfl rfl 0 (by decide) (hG _ zw520) (fun _ h9 => h9) rfl dX13_isSign_9 ?_
    refine lv_aload_n hx hb dX13_isSign_12 rfl (lv_at hl 0 rfl) ?_
    refine va_get (D := (dC, dI)) (ci := 13) (v := .int (v0 37)) (C := RX13) (T := TX13) (N := 75) hx hb hG zuX13 hown hK hP 0 rfl rfl 37 (by decide) (hG _ zw680) (fun _ h9 => h9) rfl dX13_isSign_13 ?_
    refine va_bald hx hb hK hP 1 0 rfl rfl (zin_lit ⟨by omega, by omega⟩) dX13_isSign_16 ?_
    refine lv_topi (fun z16 e_z16 => ?_)
    refine lv_iload_n hx hb dX13_isSign_17 rfl (lv_at hl 1 rfl) ?_
    have b_ : -2147483648 ≤ z16.toInt ∧ z16.toInt ≤ 2147483647 := ⟨zlo _, zhi _⟩
    have b_ : -2147483648 ≤ x1.toInt ∧ x1.toInt ≤ 2147483647 := ⟨zlo _, zhi _⟩
    refine lv_icmp_ne (tgt := 25) hx hb dX13_isSign_18 (by decide) (fun c_ => ?_) (fun c_ => ?_)
    · skip
      have b_ := zT_ne rfl rfl c_
      refine lv_iconst (v := 0) hx hb dX13_isSign_25 (by decide) ?_
      refine W.widen (k := 0) (n := 0) (by decide) (by decide) ?_
      have hpost : (0 ≤ (0 : Int32).toInt ∧ (0 : Int32).toInt ≤ 1) ∧ ((0 : Int32).toInt = 1 → (v0 36).toInt = 2) := ⟨⟨by omega, by omega⟩, by omega⟩
      have hP9 : va_P (dC, dI) vwCl [(h0, .inr (13, mX13 q0 v0)), ((q0 0), .inl (k1, 600, .inl f1))] s.heap := hP
      have hD9 : va_D A [(h0, .inr (13, mX13 q0 v0)), ((q0 0), .inl (k1, 600, .inl f1))] := hD
      exact W.zret (v := 0) hx hb hr rfl (fun t ht hW => ⟨⟨0, (fun _ => 0), rfl, hpost, (fun _ => 0), (fun _ => (fun _ => 0)), (fun _ => (fun _ => 0)), by rw [ht]; exact hP9, va_K.moved hW.alike hK, hD9⟩, hS.F ht⟩) hS.2.2 dX13_isSign_26
    · skip
      have b_ := zF_ne rfl rfl c_
      refine lv_iconst (v := 1) hx hb dX13_isSign_21 (by decide) ?_
      refine lv_goto (tgt := 26) hx hb dX13_isSign_22 (by decide) ?_
      refine W.widen (k := 0) (n := 0) (by decide) (by decide) ?_
      have hpost : (0 ≤ (1 : Int32).toInt ∧ (1 : Int32).toInt ≤ 1) ∧ ((1 : Int32).toInt = 1 → (v0 36).toInt = 2) := ⟨⟨by omega, by omega⟩, by omega⟩
      have hP9 : va_P (dC, dI) vwCl [(h0, .inr (13, mX13 q0 v0)), ((q0 0), .inl (k1, 600, .inl f1))] s.heap := hP
      have hD9 : va_D A [(h0, .inr (13, mX13 q0 v0)), ((q0 0), .inl (k1, 600, .inl f1))] := hD
      exact W.zret (v := 1) hx hb hr rfl (fun t ht hW => ⟨⟨1, (fun _ => 0), rfl, hpost, (fun _ => 0), (fun _ => (fun _ => 0)), (fun _ => (fun _ => 0)), by rw [ht]; exact hP9, va_K.moved hW.alike hK, hD9⟩, hS.F ht⟩) hS.2.2 dX13_isSign_26
set_option maxHeartbeats 8000000 in
set_option maxRecDepth 100000 in
theorem sX13_isRun_0 (l : Launch) (dC : Nat → ClassId) (dI : Nat → Nat → Nat) (adK adV : Nat → Nat) (h0 : Nat) (q0 : Nat → Nat) (k1 : ClassId) (sz : Nat) (v0 : Nat → Int32) (f1 : Nat → Int32) (x1 : Int32) (x2 : Int32) (x3 : Int32) (x4 : Int32) (x5 : Int32) (hv0 : zR rg_Model v0) : Met l yX13_isRun (zw yX13_isRun cX13_isRun 7 (some .boolean)) { frames := 2, cells := 0, slots := 0, locals := 40 } (zPc dC dI adK adV [.ref h0, .int x1, .int x2, .int x3, .int x4, .int x5] sz [(h0, .inr (13, mX13 q0 v0)), ((q0 0), .inl (k1, 600, .inl f1))] [(k1, .byte)]) (va_Qi (fun (r : Int32) (u : Nat → Int32) => (0 ≤ r.toInt ∧ r.toInt ≤ 1) ∧ (r.toInt = 1 → (v0 36).toInt = 1)) (fun (u : Nat → Int32) (t : State) => ∃ (ww : Nat → Int64) (aa : Nat → Nat → Int32) (bb : Nat → Nat → Int64), va_P (dC, dI) vwCl [(h0, .inr (13, mX13 q0 v0)), ((q0 0), .inl (k1, 600, .inl f1))] t.heap ∧ va_K (dC, dI) vwCl [(k1, .byte)] t ∧ va_D (va_A [(h0, .inr (13, mX13 q0 v0)), ((q0 0), .inl (k1, 600, .inl f1))] sz) [(h0, .inr (13, mX13 q0 v0)), ((q0 0), .inl (k1, 600, .inl f1))]) (va_A [(h0, .inr (13, mX13 q0 v0)), ((q0 0), .inl (k1, 600, .inl f1))] sz)) 0 0 (va_A [(h0, .inr (13, mX13 q0 v0)), ((q0 0), .inl (k1, 600, .inl f1))] sz) := by
  refine Met.ofW (cc := cX13_isRun) (maxL := 7) (ret := (some .boolean)) (by decide) rfl ?_
  intro p e s m args below meth c s₁ B hml hv
  obtain ⟨rfl, hsz, hP, hK, hD0, hE, hZ⟩ := hv
  have hx := B.exec
  have hb := B.bytes
  have hr := B.returns
  have hG : ∀ w ∈ zG, w.before _ s = true := fun w h => atoms_spec (ws := (zw yX13_isRun cX13_isRun 7 (some .boolean))) B.pre w (List.mem_cons_of_mem _ h)
  have hown : s.vm.findClass RX13 = some m.cls := findClass_of_methodNamed B.named
  have hlocks := B.notSynchronized
  subst hsz
  have hD := hD0.self (sz := s.heap.size)
  generalize hAe : va_A [(h0, .inr (13, mX13 q0 v0)), ((q0 0), .inl (k1, 600, .inl f1))] s.heap.size = A at hD hZ ⊢
  have hA : ∀ q : Nat, s.heap.size ≤ q → A q := fun q h => by rw [← hAe]; exact Or.inr h
  have hS : va_S A s.heap s.heap [] := va_S.rf
  have hl := lv_entry ([.ref h0, .int x1, .int x2, .int x3, .int x4, .int x5]) (n := 7) (Nat.le_of_ble_eq_true rfl)
  rw [lg_entry_eq]
  generalize (lg_sl ([.ref h0, .int x1, .int x2, .int x3, .int x4, .int x5]) ++ List.replicate (7 - (lg_sl ([.ref h0, .int x1, .int x2, .int x3, .int x4, .int x5])).length) Slot.unset).toArray = ls at hl ⊢
  have hl : lv_has ls 7 [(0, .ref h0), (1, .int x1), (2, .int x2), (3, .int x3), (4, .int x4), (5, .int x5)] := hl
  have b_ := zk_0
  have b_ := zk_1
  have b_ := zk_2
  have b_ := zk_3
  have b_ := zk_4
  have b_ := zk_5
  have b_ : 0 ≤ (v0 36).toInt ∧ (v0 36).toInt ≤ 3 := hv0 36
  refine lv_aload_n hx hb dX13_isRun_0 rfl (lv_at hl 0 rfl) ?_
  refine va_get (D := (dC, dI)) (ci := 13) (v := .int (v0 36)) (C := RX13) (T := TX13) (N := 75) hx hb hG zuX13 hown hK hP 0 rfl rfl 36 (by decide) (hG _ zw681) (fun _ h9 => h9) rfl dX13_isRun_1 ?_
  refine lv_iconst (v := 1) hx hb dX13_isRun_4 (by decide) ?_
  refine lv_icmp_eq (tgt := 10) hx hb dX13_isRun_5 (by decide) (fun c_ => ?_) (fun c_ => ?_)
  · skip
    have b_ := zT_eq rfl zk_1 c_
    refine lv_iload hx hb dX13_isRun_10 (lv_at hl 5 rfl) ?_
    refine zcutW (fun H locs ls u37_ w37_ a37_ b37_ => va_P (dC, dI) vwCl [(h0, .inr (13, mX13 q0 v0)), ((q0 0), .inl (k1, 600, .inl f1))] H ∧ va_D A [(h0, .inr (13, mX13 q0 v0)), ((q0 0), .inl (k1, 600, .inl f1))] ∧ va_S A s.heap H locs ∧ lv_has ls 7 [(0, .ref h0), (1, .int x1), (2, .int x2), (3, .int x3), (4, .int x4), (5, .int x5)] ∧ (2 ≤ (u37_ 0).toInt ∧ (u37_ 0).toInt ≤ 5)) (fun ls u37_ w37_ => F0 m 37 ls [.int (u37_ 0)]) 0 0 ?_ (fun hJ37 => ?_)
    · skip
      intro H locs ls u37_ w37_ a37_ b37_ hc
      obtain ⟨hP, hD, hS, hl, b_⟩ := hc
      refine lv_istore (lv' := [(6, .int (u37_ 0)), (0, .ref h0), (1, .int x1), (2, .int x2), (3, .int x3), (4, .int x4), (5, .int x5)]) hx hb dX13_isRun_37 hl (by decide) rfl (fun ls hl => ?_)
      refine lv_aload_n hx hb dX13_isRun_39 rfl (lv_at hl 1 rfl) ?_
      have b_ : 0 ≤ (v0 35).toInt ∧ (v0 35).toInt ≤ 600 := hv0 35
      refine va_get (D := (dC, dI)) (ci := 13) (v := .int (v0 35)) (C := RX13) (T := TX13) (N := 75) hx hb hG zuX13 hown hK hP 0 rfl rfl 35 (by decide) (hG _ zw679) (fun _ h9 => h9) rfl dX13_isRun_40 ?_
      refine lv_aload_n hx hb dX13_isRun_43 rfl (lv_at hl 1 rfl) ?_
      have b_ : 0 ≤ (v0 37).toInt ∧ (v0 37).toInt ≤ 600 := hv0 37
      refine va_get (D := (dC, dI)) (ci := 13) (v := .int (v0 37)) (C := RX13) (T := TX13) (N := 75) hx hb hG zuX13 hown hK hP 0 rfl rfl 37 (by decide) (hG _ zw680) (fun _ h9 => h9) rfl dX13_isRun_44 ?_
      refine lv_isub hx hb dX13_isRun_47 ?_
      refine lv_topi (fun z47 e_z47 => ?_)
      have b_ := zsub rfl rfl e_z47 (by omega) (by omega)
      refine lv_iload hx hb dX13_isRun_48 (lv_at hl 0 rfl) ?_
      refine lv_icmp_ne (tgt := 87) hx hb dX13_isRun_50 (by decide) (fun c_ => ?_) (fun c_ => ?_)
      · skip
        have b_ := zT_ne rfl rfl c_
        refine lv_iconst (v := 0) hx hb dX13_isRun_87 (by decide) ?_
        refine W.widen (k := 0) (n := 0) (by decide) (by decide) ?_
        have hpost : (0 ≤ (0 : Int32).toInt ∧ (0 : Int32).toInt ≤ 1) ∧ ((0 : Int32).toInt = 1 → (v0 36).toInt = 1) := ⟨⟨by omega, by omega⟩, by omega⟩
        have hP9 : va_P (dC, dI) vwCl [(h0, .inr (13, mX13 q0 v0)), ((q0 0), .inl (k1, 600, .inl f1))] H := hP
        have hD9 : va_D A [(h0, .inr (13, mX13 q0 v0)), ((q0 0), .inl (k1, 600, .inl f1))] := hD
        exact W.zret (v := 0) hx hb hr rfl (fun t ht hW => ⟨⟨0, (fun _ => 0), rfl, hpost, (fun _ => 0), (fun _ => (fun _ => 0)), (fun _ => (fun _ => 0)), by rw [ht]; exact hP9, va_K.moved hW.alike hK, hD9⟩, hS.F ht⟩) hS.2.2 dX13_isRun_88
      · skip
        have b_ := zF_ne rfl rfl c_
        refine lv_aload_n hx hb dX13_isRun_53 rfl (lv_at hl 1 rfl) ?_
        refine va_get (D := (dC, dI)) (ci := 13) (v := .ref (q0 0)) (C := RX13) (T := TX13) (N := 75) hx hb hG zuX13 hown hK hP 0 rfl rfl 0 (by decide) (hG _ zw520) (fun _ h9 => h9) rfl dX13_isRun_54 ?_
        refine lv_aload_n hx hb dX13_isRun_57 rfl (lv_at hl 1 rfl) ?_
        refine va_get (D := (dC, dI)) (ci := 13) (v := .int (v0 37)) (C := RX13) (T := TX13) (N := 75) hx hb hG zuX13 hown hK hP 0 rfl rfl 37 (by decide) (hG _ zw680) (fun _ h9 => h9) rfl dX13_isRun_58 ?_
        refine va_bald hx hb hK hP 1 0 rfl rfl (zin_lit ⟨by omega, by omega⟩) dX13_isRun_61 ?_
        refine lv_topi (fun z61 e_z61 => ?_)
        have hPc := hP.sub (ws' := []) [] rfl
        have hDc := hD.sub (ws' := []) [] (by decide) rfl
        have hKc := hK.sub (tys' := []) [] rfl
        have hFc := va_free (wc := []) hD hS hA [] rfl
        refine va_calli (va_runS (As := [.int z61]) (rest := []) ⟨hx, hb, hml, hown, hG⟩ (sX13_small_0 l dC dI adK adV H.size z61) (va_cwS 1 hG (zgS zw540 zw541 zw524 zw542) rfl rfl rfl (by decide +kernel) ⟨Nat.le_of_ble_eq_true rfl, Nat.le_of_ble_eq_true rfl⟩) ⟨zPc_blind, zPc_pre hPc hKc hDc hE hS hFc hZ⟩ rfl rfl hl.1 rfl (lv_room (Nat.le_of_ble_eq_true rfl)) dX13_isRun_62 ⟨Nat.le_of_ble_eq_true rfl, Nat.le_of_ble_eq_true rfl⟩) hS (fun q _ h => hFc q h) hFc (fun r62_ u62_ t H1 locs ht hvm hw hB hz1 hk1 hS => ?_)
        obtain ⟨w62_, a62_, b62_, hP1, hK1, hD1⟩ := hB
        rw [ht] at hP1
        obtain ⟨hP, hD⟩ := va_join (wr := [(h0, .inr (13, mX13 q0 v0)), ((q0 0), .inl (k1, 600, .inl f1))]) (w1 := []) hP hD [] [0, 1] rfl rfl (by decide) (by decide) hk1 hFc hP1 hD1
        have hP : va_P (dC, dI) vwCl [(h0, .inr (13, mX13 q0 v0)), ((q0 0), .inl (k1, 600, .inl f1))] H1 := hP.sub [0, 1] rfl
        have hD : va_D A [(h0, .inr (13, mX13 q0 v0)), ((q0 0), .inl (k1, 600, .inl f1))] := hD.sub [0, 1] (by decide) rfl
        generalize H1 = H at hP hS ⊢
        clear hz1
        refine lv_iload_n hx hb dX13_isRun_65 rfl (lv_at hl 2 rfl) ?_
        have b_ : -2147483648 ≤ r62_.toInt ∧ r62_.toInt ≤ 2147483647 := ⟨zlo _, zhi _⟩
        have b_ : -2147483648 ≤ x1.toInt ∧ x1.toInt ≤ 2147483647 := ⟨zlo _, zhi _⟩
        refine lv_icmp_ne (tgt := 87) hx hb dX13_isRun_66 (by decide) (fun c_ => ?_) (fun c_ => ?_)
        · skip
          have b_ := zT_ne rfl rfl c_
          refine lv_iconst (v := 0) hx hb dX13_isRun_87 (by decide) ?_
          refine W.widen (k := 0) (n := 0) (by decide) (by decide) ?_
          have hpost : (0 ≤ (0 : Int32).toInt ∧ (0 : Int32).toInt ≤ 1) ∧ ((0 : Int32).toInt = 1 → (v0 36).toInt = 1) := ⟨⟨by omega, by omega⟩, by omega⟩
          have hP9 : va_P (dC, dI) vwCl [(h0, .inr (13, mX13 q0 v0)), ((q0 0), .inl (k1, 600, .inl f1))] H := hP
          have hD9 : va_D A [(h0, .inr (13, mX13 q0 v0)), ((q0 0), .inl (k1, 600, .inl f1))] := hD
          exact W.zret (v := 0) hx hb hr rfl (fun t ht hW => ⟨⟨0, (fun _ => 0), rfl, hpost, (fun _ => 0), (fun _ => (fun _ => 0)), (fun _ => (fun _ => 0)), by rw [ht]; exact hP9, va_K.moved hW.alike hK, hD9⟩, hS.F ht⟩) hS.2.2 dX13_isRun_88
        · skip
          have b_ := zF_ne rfl rfl c_
          refine lv_aload_n hx hb dX13_isRun_69 rfl (lv_at hl 1 rfl) ?_
          refine va_get (D := (dC, dI)) (ci := 13) (v := .ref (q0 0)) (C := RX13) (T := TX13) (N := 75) hx hb hG zuX13 hown hK hP 0 rfl rfl 0 (by decide) (hG _ zw520) (fun _ h9 => h9) rfl dX13_isRun_70 ?_
          refine lv_aload_n hx hb dX13_isRun_73 rfl (lv_at hl 1 rfl) ?_
          refine va_get (D := (dC, dI)) (ci := 13) (v := .int (v0 37)) (C := RX13) (T := TX13) (N := 75) hx hb hG zuX13 hown hK hP 0 rfl rfl 37 (by decide) (hG _ zw680) (fun _ h9 => h9) rfl dX13_isRun_74 ?_
          refine lv_iconst (v := 1) hx hb dX13_isRun_77 (by decide) ?_
          refine lv_iadd hx hb dX13_isRun_78 ?_
          refine lv_topi (fun z78 e_z78 => ?_)
          have b_ := zadd rfl zk_1 e_z78 (by omega) (by omega)
          refine va_bald hx hb hK hP 1 0 rfl rfl (zin_lit ⟨by omega, by omega⟩) dX13_isRun_79 ?_
          refine lv_topi (fun z79 e_z79 => ?_)
          have hPc := hP.sub (ws' := []) [] rfl
          have hDc := hD.sub (ws' := []) [] (by decide) rfl
          have hKc := hK.sub (tys' := []) [] rfl
          have hFc := va_free (wc := []) hD hS hA [] rfl
          refine va_calli (va_runS (As := [.int z79]) (rest := []) ⟨hx, hb, hml, hown, hG⟩ (sX13_small_0 l dC dI adK adV H.size z79) (va_cwS 1 hG (zgS zw540 zw541 zw524 zw542) rfl rfl rfl (by decide +kernel) ⟨Nat.le_of_ble_eq_true rfl, Nat.le_of_ble_eq_true rfl⟩) ⟨zPc_blind, zPc_pre hPc hKc hDc hE hS hFc hZ⟩ rfl rfl hl.1 rfl (lv_room (Nat.le_of_ble_eq_true rfl)) dX13_isRun_80 ⟨Nat.le_of_ble_eq_true rfl, Nat.le_of_ble_eq_true rfl⟩) hS (fun q _ h => hFc q h) hFc (fun r80_ u80_ t H1 locs ht hvm hw hB hz1 hk1 hS => ?_)
          obtain ⟨w80_, a80_, b80_, hP1, hK1, hD1⟩ := hB
          rw [ht] at hP1
          obtain ⟨hP, hD⟩ := va_join (wr := [(h0, .inr (13, mX13 q0 v0)), ((q0 0), .inl (k1, 600, .inl f1))]) (w1 := []) hP hD [] [0, 1] rfl rfl (by decide) (by decide) hk1 hFc hP1 hD1
          have hP : va_P (dC, dI) vwCl [(h0, .inr (13, mX13 q0 v0)), ((q0 0), .inl (k1, 600, .inl f1))] H1 := hP.sub [0, 1] rfl
          have hD : va_D A [(h0, .inr (13, mX13 q0 v0)), ((q0 0), .inl (k1, 600, .inl f1))] := hD.sub [0, 1] (by decide) rfl
          generalize H1 = H at hP hS ⊢
          clear hz1
          refine lv_iload_n hx hb dX13_isRun_83 rfl (lv_at hl 3 rfl) ?_
          have b_ : -2147483648 ≤ r80_.toInt ∧ r80_.toInt ≤ 2147483647 := ⟨zlo _, zhi _⟩
          have b_ : -2147483648 ≤ x2.toInt ∧ x2.toInt ≤ 2147483647 := ⟨zlo _, zhi _⟩
          refine lv_icmp_eq (tgt := 89) hx hb dX13_isRun_84 (by decide) (fun c_ => ?_) (fun c_ => ?_)
          · skip
            have b_ := zT_eq rfl rfl c_
            refine lv_iload hx hb dX13_isRun_89 (lv_at hl 0 rfl) ?_
            refine lv_iconst (v := 3) hx hb dX13_isRun_91 (by decide) ?_
            refine zcutW (fun H locs ls u113_ w113_ a113_ b113_ => va_P (dC, dI) vwCl [(h0, .inr (13, mX13 q0 v0)), ((q0 0), .inl (k1, 600, .inl f1))] H ∧ va_D A [(h0, .inr (13, mX13 q0 v0)), ((q0 0), .inl (k1, 600, .inl f1))] ∧ va_S A s.heap H locs ∧ lv_has ls 7 [(0, .ref h0), (1, .int x1), (2, .int x2), (3, .int x3), (4, .int x4), (5, .int x5), (6, .int (u37_ 0))]) (fun ls u113_ w113_ => F0 m 113 ls []) 0 0 ?_ (fun hJ113 => ?_)
            · skip
              intro H locs ls u113_ w113_ a113_ b113_ hc
              obtain ⟨hP, hD, hS, hl⟩ := hc
              refine lv_iload hx hb dX13_isRun_113 (lv_at hl 6 rfl) ?_
              refine lv_iconst (v := 4) hx hb dX13_isRun_115 (by decide) ?_
              refine zcutW (fun H locs ls u138_ w138_ a138_ b138_ => va_P (dC, dI) vwCl [(h0, .inr (13, mX13 q0 v0)), ((q0 0), .inl (k1, 600, .inl f1))] H ∧ va_D A [(h0, .inr (13, mX13 q0 v0)), ((q0 0), .inl (k1, 600, .inl f1))] ∧ va_S A s.heap H locs ∧ lv_has ls 7 [(0, .ref h0), (1, .int x1), (2, .int x2), (3, .int x3), (4, .int x4), (5, .int x5), (6, .int (u37_ 0))]) (fun ls u138_ w138_ => F0 m 138 ls []) 0 0 ?_ (fun hJ138 => ?_)
              · skip
                intro H locs ls u138_ w138_ a138_ b138_ hc
                obtain ⟨hP, hD, hS, hl⟩ := hc
                refine lv_iload hx hb dX13_isRun_138 (lv_at hl 6 rfl) ?_
                refine lv_iconst (v := 5) hx hb dX13_isRun_140 (by decide) ?_
                refine lv_icmp_lt (tgt := 163) hx hb dX13_isRun_141 (by decide) (fun c_ => ?_) (fun c_ => ?_)
                · skip
                  have b_ := zT_lt rfl zk_5 c_
                  refine lv_iconst (v := 1) hx hb dX13_isRun_163 (by decide) ?_
                  refine lv_goto (tgt := 168) hx hb dX13_isRun_164 (by decide) ?_
                  refine W.widen (k := 0) (n := 0) (by decide) (by decide) ?_
                  have hpost : (0 ≤ (1 : Int32).toInt ∧ (1 : Int32).toInt ≤ 1) ∧ ((1 : Int32).toInt = 1 → (v0 36).toInt = 1) := ⟨⟨by omega, by omega⟩, by omega⟩
                  have hP9 : va_P (dC, dI) vwCl [(h0, .inr (13, mX13 q0 v0)), ((q0 0), .inl (k1, 600, .inl f1))] H := hP
                  have hD9 : va_D A [(h0, .inr (13, mX13 q0 v0)), ((q0 0), .inl (k1, 600, .inl f1))] := hD
                  exact W.zret (v := 1) hx hb hr rfl (fun t ht hW => ⟨⟨1, (fun _ => 0), rfl, hpost, (fun _ => 0), (fun _ => (fun _ => 0)), (fun _ => (fun _ => 0)), by rw [ht]; exact hP9, va_K.moved hW.alike hK, hD9⟩, hS.F ht⟩) hS.2.2 dX13_isRun_168
                · skip
                  have b_ := zF_lt rfl zk_5 c_
                  refine lv_aload_n hx hb dX13_isRun_144 rfl (lv_at hl 0 rfl) ?_
                  refine va_get (D := (dC, dI)) (ci := 13) (v := .ref (q0 0)) (C := RX13) (T := TX13) (N := 75) hx hb hG zuX13 hown hK hP 0 rfl rfl 0 (by decide) (hG _ zw520) (fun _ h9 => h9) rfl dX13_isRun_145 ?_
                  refine lv_aload_n hx hb dX13_isRun_148 rfl (lv_at hl 0 rfl) ?_
                  refine va_get (D := (dC, dI)) (ci := 13) (v := .int (v0 37)) (C := RX13) (T := TX13) (N := 75) hx hb hG zuX13 hown hK hP 0 rfl rfl 37 (by decide) (hG _ zw680) (fun _ h9 => h9) rfl dX13_isRun_149 ?_
                  refine lv_iconst (v := 4) hx hb dX13_isRun_152 (by decide) ?_
                  refine lv_iadd hx hb dX13_isRun_153 ?_
                  refine lv_topi (fun z153 e_z153 => ?_)
                  have b_ := zadd rfl zk_4 e_z153 (by omega) (by omega)
                  refine va_bald hx hb hK hP 1 0 rfl rfl (zin_lit ⟨by omega, by omega⟩) dX13_isRun_154 ?_
                  refine lv_topi (fun z154 e_z154 => ?_)
                  have hPc := hP.sub (ws' := []) [] rfl
                  have hDc := hD.sub (ws' := []) [] (by decide) rfl
                  have hKc := hK.sub (tys' := []) [] rfl
                  have hFc := va_free (wc := []) hD hS hA [] rfl
                  refine va_calli (va_runS (As := [.int z154]) (rest := []) ⟨hx, hb, hml, hown, hG⟩ (sX13_small_0 l dC dI adK adV H.size z154) (va_cwS 1 hG (zgS zw540 zw541 zw524 zw542) rfl rfl rfl (by decide +kernel) ⟨Nat.le_of_ble_eq_true rfl, Nat.le_of_ble_eq_true rfl⟩) ⟨zPc_blind, zPc_pre hPc hKc hDc hE hS hFc hZ⟩ rfl rfl hl.1 rfl (lv_room (Nat.le_of_ble_eq_true rfl)) dX13_isRun_155 ⟨Nat.le_of_ble_eq_true rfl, Nat.le_of_ble_eq_true rfl⟩) hS (fun q _ h => hFc q h) hFc (fun r155_ u155_ t H1 locs ht hvm hw hB hz1 hk1 hS => ?_)
                  obtain ⟨w155_, a155_, b155_, hP1, hK1, hD1⟩ := hB
                  rw [ht] at hP1
                  obtain ⟨hP, hD⟩ := va_join (wr := [(h0, .inr (13, mX13 q0 v0)), ((q0 0), .inl (k1, 600, .inl f1))]) (w1 := []) hP hD [] [0, 1] rfl rfl (by decide) (by decide) hk1 hFc hP1 hD1
                  have hP : va_P (dC, dI) vwCl [(h0, .inr (13, mX13 q0 v0)), ((q0 0), .inl (k1, 600, .inl f1))] H1 := hP.sub [0, 1] rfl
                  have hD : va_D A [(h0, .inr (13, mX13 q0 v0)), ((q0 0), .inl (k1, 600, .inl f1))] := hD.sub [0, 1] (by decide) rfl
                  generalize H1 = H at hP hS ⊢
                  clear hz1
                  refine lv_iload hx hb dX13_isRun_158 (lv_at hl 5 rfl) ?_
                  have b_ : -2147483648 ≤ r155_.toInt ∧ r155_.toInt ≤ 2147483647 := ⟨zlo _, zhi _⟩
                  have b_ : -2147483648 ≤ x5.toInt ∧ x5.toInt ≤ 2147483647 := ⟨zlo _, zhi _⟩
                  refine lv_icmp_ne (tgt := 167) hx hb dX13_isRun_160 (by decide) (fun c_ => ?_) (fun c_ => ?_)
                  · skip
                    have b_ := zT_ne rfl rfl c_
                    refine lv_iconst (v := 0) hx hb dX13_isRun_167 (by decide) ?_
                    refine W.widen (k := 0) (n := 0) (by decide) (by decide) ?_
                    have hpost : (0 ≤ (0 : Int32).toInt ∧ (0 : Int32).toInt ≤ 1) ∧ ((0 : Int32).toInt = 1 → (v0 36).toInt = 1) := ⟨⟨by omega, by omega⟩, by omega⟩
                    have hP9 : va_P (dC, dI) vwCl [(h0, .inr (13, mX13 q0 v0)), ((q0 0), .inl (k1, 600, .inl f1))] H := hP
                    have hD9 : va_D A [(h0, .inr (13, mX13 q0 v0)), ((q0 0), .inl (k1, 600, .inl f1))] := hD
                    exact W.zret (v := 0) hx hb hr rfl (fun t ht hW => ⟨⟨0, (fun _ => 0), rfl, hpost, (fun _ => 0), (fun _ => (fun _ => 0)), (fun _ => (fun _ => 0)), by rw [ht]; exact hP9, va_K.moved hW.alike hK, hD9⟩, hS.F ht⟩) hS.2.2 dX13_isRun_168
                  · skip
                    have b_ := zF_ne rfl rfl c_
                    refine lv_iconst (v := 1) hx hb dX13_isRun_163 (by decide) ?_
                    refine lv_goto (tgt := 168) hx hb dX13_isRun_164 (by decide) ?_
                    refine W.widen (k := 0) (n := 0) (by decide) (by decide) ?_
                    have hpost : (0 ≤ (1 : Int32).toInt ∧ (1 : Int32).toInt ≤ 1) ∧ ((1 : Int32).toInt = 1 → (v0 36).toInt = 1) := ⟨⟨by omega, by omega⟩, by omega⟩
                    have hP9 : va_P (dC, dI) vwCl [(h0, .inr (13, mX13 q0 v0)), ((q0 0), .inl (k1, 600, .inl f1))] H := hP
                    have hD9 : va_D A [(h0, .inr (13, mX13 q0 v0)), ((q0 0), .inl (k1, 600, .inl f1))] := hD
                    exact W.zret (v := 1) hx hb hr rfl (fun t ht hW => ⟨⟨1, (fun _ => 0), rfl, hpost, (fun _ => 0), (fun _ => (fun _ => 0)), (fun _ => (fun _ => 0)), by rw [ht]; exact hP9, va_K.moved hW.alike hK, hD9⟩, hS.F ht⟩) hS.2.2 dX13_isRun_168
              · skip
                refine lv_icmp_lt (tgt := 138) hx hb dX13_isRun_116 (by decide) (fun c_ => ?_) (fun c_ => ?_)
                · skip
                  have b_ := zT_lt rfl zk_4 c_
                  have hc : va_P (dC, dI) vwCl [(h0, .inr (13, mX13 q0 v0)), ((q0 0), .inl (k1, 600, .inl f1))] H ∧ va_D A [(h0, .inr (13, mX13 q0 v0)), ((q0 0), .inl (k1, 600, .inl f1))] ∧ va_S A s.heap H locs ∧ lv_has ls 7 [(0, .ref h0), (1, .int x1), (2, .int x2), (3, .int x3), (4, .int x4), (5, .int x5), (6, .int (u37_ 0))] := ⟨hP, hD, hS, lv_sub hl [0, 1, 2, 3, 4, 5, 6] rfl⟩
                  exact hJ138 H locs ls (fun _ => 0) (fun _ => 0) (fun _ => (fun _ => 0)) (fun _ => (fun _ => 0)) hc
                · skip
                  have b_ := zF_lt rfl zk_4 c_
                  refine lv_aload_n hx hb dX13_isRun_119 rfl (lv_at hl 0 rfl) ?_
                  refine va_get (D := (dC, dI)) (ci := 13) (v := .ref (q0 0)) (C := RX13) (T := TX13) (N := 75) hx hb hG zuX13 hown hK hP 0 rfl rfl 0 (by decide) (hG _ zw520) (fun _ h9 => h9) rfl dX13_isRun_120 ?_
                  refine lv_aload_n hx hb dX13_isRun_123 rfl (lv_at hl 0 rfl) ?_
                  refine va_get (D := (dC, dI)) (ci := 13) (v := .int (v0 37)) (C := RX13) (T := TX13) (N := 75) hx hb hG zuX13 hown hK hP 0 rfl rfl 37 (by decide) (hG _ zw680) (fun _ h9 => h9) rfl dX13_isRun_124 ?_
                  refine lv_iconst (v := 3) hx hb dX13_isRun_127 (by decide) ?_
                  refine lv_iadd hx hb dX13_isRun_128 ?_
                  refine lv_topi (fun z128 e_z128 => ?_)
                  have b_ := zadd rfl zk_3 e_z128 (by omega) (by omega)
                  refine va_bald hx hb hK hP 1 0 rfl rfl (zin_lit ⟨by omega, by omega⟩) dX13_isRun_129 ?_
                  refine lv_topi (fun z129 e_z129 => ?_)
                  have hPc := hP.sub (ws' := []) [] rfl
                  have hDc := hD.sub (ws' := []) [] (by decide) rfl
                  have hKc := hK.sub (tys' := []) [] rfl
                  have hFc := va_free (wc := []) hD hS hA [] rfl
                  refine va_calli (va_runS (As := [.int z129]) (rest := []) ⟨hx, hb, hml, hown, hG⟩ (sX13_small_0 l dC dI adK adV H.size z129) (va_cwS 1 hG (zgS zw540 zw541 zw524 zw542) rfl rfl rfl (by decide +kernel) ⟨Nat.le_of_ble_eq_true rfl, Nat.le_of_ble_eq_true rfl⟩) ⟨zPc_blind, zPc_pre hPc hKc hDc hE hS hFc hZ⟩ rfl rfl hl.1 rfl (lv_room (Nat.le_of_ble_eq_true rfl)) dX13_isRun_130 ⟨Nat.le_of_ble_eq_true rfl, Nat.le_of_ble_eq_true rfl⟩) hS (fun q _ h => hFc q h) hFc (fun r130_ u130_ t H1 locs ht hvm hw hB hz1 hk1 hS => ?_)
                  obtain ⟨w130_, a130_, b130_, hP1, hK1, hD1⟩ := hB
                  rw [ht] at hP1
                  obtain ⟨hP, hD⟩ := va_join (wr := [(h0, .inr (13, mX13 q0 v0)), ((q0 0), .inl (k1, 600, .inl f1))]) (w1 := []) hP hD [] [0, 1] rfl rfl (by decide) (by decide) hk1 hFc hP1 hD1
                  have hP : va_P (dC, dI) vwCl [(h0, .inr (13, mX13 q0 v0)), ((q0 0), .inl (k1, 600, .inl f1))] H1 := hP.sub [0, 1] rfl
                  have hD : va_D A [(h0, .inr (13, mX13 q0 v0)), ((q0 0), .inl (k1, 600, .inl f1))] := hD.sub [0, 1] (by decide) rfl
                  generalize H1 = H at hP hS ⊢
                  clear hz1
                  refine lv_iload hx hb dX13_isRun_133 (lv_at hl 4 rfl) ?_
                  have b_ : -2147483648 ≤ r130_.toInt ∧ r130_.toInt ≤ 2147483647 := ⟨zlo _, zhi _⟩
                  have b_ : -2147483648 ≤ x4.toInt ∧ x4.toInt ≤ 2147483647 := ⟨zlo _, zhi _⟩
                  refine lv_icmp_ne (tgt := 167) hx hb dX13_isRun_135 (by decide) (fun c_ => ?_) (fun c_ => ?_)
                  · skip
                    have b_ := zT_ne rfl rfl c_
                    refine lv_iconst (v := 0) hx hb dX13_isRun_167 (by decide) ?_
                    refine W.widen (k := 0) (n := 0) (by decide) (by decide) ?_
                    have hpost : (0 ≤ (0 : Int32).toInt ∧ (0 : Int32).toInt ≤ 1) ∧ ((0 : Int32).toInt = 1 → (v0 36).toInt = 1) := ⟨⟨by omega, by omega⟩, by omega⟩
                    have hP9 : va_P (dC, dI) vwCl [(h0, .inr (13, mX13 q0 v0)), ((q0 0), .inl (k1, 600, .inl f1))] H := hP
                    have hD9 : va_D A [(h0, .inr (13, mX13 q0 v0)), ((q0 0), .inl (k1, 600, .inl f1))] := hD
                    exact W.zret (v := 0) hx hb hr rfl (fun t ht hW => ⟨⟨0, (fun _ => 0), rfl, hpost, (fun _ => 0), (fun _ => (fun _ => 0)), (fun _ => (fun _ => 0)), by rw [ht]; exact hP9, va_K.moved hW.alike hK, hD9⟩, hS.F ht⟩) hS.2.2 dX13_isRun_168
                  · skip
                    have b_ := zF_ne rfl rfl c_
                    have hc : va_P (dC, dI) vwCl [(h0, .inr (13, mX13 q0 v0)), ((q0 0), .inl (k1, 600, .inl f1))] H ∧ va_D A [(h0, .inr (13, mX13 q0 v0)), ((q0 0), .inl (k1, 600, .inl f1))] ∧ va_S A s.heap H locs ∧ lv_has ls 7 [(0, .ref h0), (1, .int x1), (2, .int x2), (3, .int x3), (4, .int x4), (5, .int x5), (6, .int (u37_ 0))] := ⟨hP, hD, hS, lv_sub hl [0, 1, 2, 3, 4, 5, 6] rfl⟩
                    exact hJ138 H locs ls (fun _ => 0) (fun _ => 0) (fun _ => (fun _ => 0)) (fun _ => (fun _ => 0)) hc
            · skip
              refine lv_icmp_lt (tgt := 113) hx hb dX13_isRun_92 (by decide) (fun c_ => ?_) (fun c_ => ?_)
              · skip
                have b_ := zT_lt rfl zk_3 c_
                have hc : va_P (dC, dI) vwCl [(h0, .inr (13, mX13 q0 v0)), ((q0 0), .inl (k1, 600, .inl f1))] H ∧ va_D A [(h0, .inr (13, mX13 q0 v0)), ((q0 0), .inl (k1, 600, .inl f1))] ∧ va_S A s.heap H locs ∧ lv_has ls 7 [(0, .ref h0), (1, .int x1), (2, .int x2), (3, .int x3), (4, .int x4), (5, .int x5), (6, .int (u37_ 0))] := ⟨hP, hD, hS, lv_sub hl [1, 2, 3, 4, 5, 6, 0] rfl⟩
                exact hJ113 H locs ls (fun _ => 0) (fun _ => 0) (fun _ => (fun _ => 0)) (fun _ => (fun _ => 0)) hc
              · skip
                have b_ := zF_lt rfl zk_3 c_
                refine lv_aload_n hx hb dX13_isRun_95 rfl (lv_at hl 1 rfl) ?_
                refine va_get (D := (dC, dI)) (ci := 13) (v := .ref (q0 0)) (C := RX13) (T := TX13) (N := 75) hx hb hG zuX13 hown hK hP 0 rfl rfl 0 (by decide) (hG _ zw520) (fun _ h9 => h9) rfl dX13_isRun_96 ?_
                refine lv_aload_n hx hb dX13_isRun_99 rfl (lv_at hl 1 rfl) ?_
                refine va_get (D := (dC, dI)) (ci := 13) (v := .int (v0 37)) (C := RX13) (T := TX13) (N := 75) hx hb hG zuX13 hown hK hP 0 rfl rfl 37 (by decide) (hG _ zw680) (fun _ h9 => h9) rfl dX13_isRun_100 ?_
                refine lv_iconst (v := 2) hx hb dX13_isRun_103 (by decide) ?_
                refine lv_iadd hx hb dX13_isRun_104 ?_
                refine lv_topi (fun z104 e_z104 => ?_)
                have b_ := zadd rfl zk_2 e_z104 (by omega) (by omega)
                refine va_bald hx hb hK hP 1 0 rfl rfl (zin_lit ⟨by omega, by omega⟩) dX13_isRun_105 ?_
                refine lv_topi (fun z105 e_z105 => ?_)
                have hPc := hP.sub (ws' := []) [] rfl
                have hDc := hD.sub (ws' := []) [] (by decide) rfl
                have hKc := hK.sub (tys' := []) [] rfl
                have hFc := va_free (wc := []) hD hS hA [] rfl
                refine va_calli (va_runS (As := [.int z105]) (rest := []) ⟨hx, hb, hml, hown, hG⟩ (sX13_small_0 l dC dI adK adV H.size z105) (va_cwS 1 hG (zgS zw540 zw541 zw524 zw542) rfl rfl rfl (by decide +kernel) ⟨Nat.le_of_ble_eq_true rfl, Nat.le_of_ble_eq_true rfl⟩) ⟨zPc_blind, zPc_pre hPc hKc hDc hE hS hFc hZ⟩ rfl rfl hl.1 rfl (lv_room (Nat.le_of_ble_eq_true rfl)) dX13_isRun_106 ⟨Nat.le_of_ble_eq_true rfl, Nat.le_of_ble_eq_true rfl⟩) hS (fun q _ h => hFc q h) hFc (fun r106_ u106_ t H1 locs ht hvm hw hB hz1 hk1 hS => ?_)
                obtain ⟨w106_, a106_, b106_, hP1, hK1, hD1⟩ := hB
                rw [ht] at hP1
                obtain ⟨hP, hD⟩ := va_join (wr := [(h0, .inr (13, mX13 q0 v0)), ((q0 0), .inl (k1, 600, .inl f1))]) (w1 := []) hP hD [] [0, 1] rfl rfl (by decide) (by decide) hk1 hFc hP1 hD1
                have hP : va_P (dC, dI) vwCl [(h0, .inr (13, mX13 q0 v0)), ((q0 0), .inl (k1, 600, .inl f1))] H1 := hP.sub [0, 1] rfl
                have hD : va_D A [(h0, .inr (13, mX13 q0 v0)), ((q0 0), .inl (k1, 600, .inl f1))] := hD.sub [0, 1] (by decide) rfl
                generalize H1 = H at hP hS ⊢
                clear hz1
                refine lv_iload_n hx hb dX13_isRun_109 rfl (lv_at hl 4 rfl) ?_
                have b_ : -2147483648 ≤ r106_.toInt ∧ r106_.toInt ≤ 2147483647 := ⟨zlo _, zhi _⟩
                have b_ : -2147483648 ≤ x3.toInt ∧ x3.toInt ≤ 2147483647 := ⟨zlo _, zhi _⟩
                refine lv_icmp_ne (tgt := 167) hx hb dX13_isRun_110 (by decide) (fun c_ => ?_) (fun c_ => ?_)
                · skip
                  have b_ := zT_ne rfl rfl c_
                  refine lv_iconst (v := 0) hx hb dX13_isRun_167 (by decide) ?_
                  refine W.widen (k := 0) (n := 0) (by decide) (by decide) ?_
                  have hpost : (0 ≤ (0 : Int32).toInt ∧ (0 : Int32).toInt ≤ 1) ∧ ((0 : Int32).toInt = 1 → (v0 36).toInt = 1) := ⟨⟨by omega, by omega⟩, by omega⟩
                  have hP9 : va_P (dC, dI) vwCl [(h0, .inr (13, mX13 q0 v0)), ((q0 0), .inl (k1, 600, .inl f1))] H := hP
                  have hD9 : va_D A [(h0, .inr (13, mX13 q0 v0)), ((q0 0), .inl (k1, 600, .inl f1))] := hD
                  exact W.zret (v := 0) hx hb hr rfl (fun t ht hW => ⟨⟨0, (fun _ => 0), rfl, hpost, (fun _ => 0), (fun _ => (fun _ => 0)), (fun _ => (fun _ => 0)), by rw [ht]; exact hP9, va_K.moved hW.alike hK, hD9⟩, hS.F ht⟩) hS.2.2 dX13_isRun_168
                · skip
                  have b_ := zF_ne rfl rfl c_
                  have hc : va_P (dC, dI) vwCl [(h0, .inr (13, mX13 q0 v0)), ((q0 0), .inl (k1, 600, .inl f1))] H ∧ va_D A [(h0, .inr (13, mX13 q0 v0)), ((q0 0), .inl (k1, 600, .inl f1))] ∧ va_S A s.heap H locs ∧ lv_has ls 7 [(0, .ref h0), (1, .int x1), (2, .int x2), (3, .int x3), (4, .int x4), (5, .int x5), (6, .int (u37_ 0))] := ⟨hP, hD, hS, lv_sub hl [1, 2, 3, 4, 5, 6, 0] rfl⟩
                  exact hJ113 H locs ls (fun _ => 0) (fun _ => 0) (fun _ => (fun _ => 0)) (fun _ => (fun _ => 0)) hc
          · skip
            have b_ := zF_eq rfl rfl c_
            refine lv_iconst (v := 0) hx hb dX13_isRun_87 (by decide) ?_
            refine W.widen (k := 0) (n := 0) (by decide) (by decide) ?_
            have hpost : (0 ≤ (0 : Int32).toInt ∧ (0 : Int32).toInt ≤ 1) ∧ ((0 : Int32).toInt = 1 → (v0 36).toInt = 1) := ⟨⟨by omega, by omega⟩, by omega⟩
            have hP9 : va_P (dC, dI) vwCl [(h0, .inr (13, mX13 q0 v0)), ((q0 0), .inl (k1, 600, .inl f1))] H := hP
            have hD9 : va_D A [(h0, .inr (13, mX13 q0 v0)), ((q0 0), .inl (k1, 600, .inl f1))] := hD
            exact W.zret (v := 0) hx hb hr rfl (fun t ht hW => ⟨⟨0, (fun _ => 0), rfl, hpost, (fun _ => 0), (fun _ => (fun _ => 0)), (fun _ => (fun _ => 0)), by rw [ht]; exact hP9, va_K.moved hW.alike hK, hD9⟩, hS.F ht⟩) hS.2.2 dX13_isRun_88
    · skip
      have b_ : -2147483648 ≤ x5.toInt ∧ x5.toInt ≤ 2147483647 := ⟨zlo _, zhi _⟩
      refine lv_if_eq (tgt := 19) hx hb dX13_isRun_12 (by decide) (fun c_ => ?_) (fun c_ => ?_)
      · skip
        have b_ := zT_eq rfl zk_0 c_
        refine lv_iload hx hb dX13_isRun_19 (lv_at hl 4 rfl) ?_
        have b_ : -2147483648 ≤ x4.toInt ∧ x4.toInt ≤ 2147483647 := ⟨zlo _, zhi _⟩
        refine lv_if_eq (tgt := 28) hx hb dX13_isRun_21 (by decide) (fun c_ => ?_) (fun c_ => ?_)
        · skip
          have b_ := zT_eq rfl zk_0 c_
          refine lv_iload_n hx hb dX13_isRun_28 rfl (lv_at hl 3 rfl) ?_
          have b_ : -2147483648 ≤ x3.toInt ∧ x3.toInt ≤ 2147483647 := ⟨zlo _, zhi _⟩
          refine lv_if_eq (tgt := 36) hx hb dX13_isRun_29 (by decide) (fun c_ => ?_) (fun c_ => ?_)
          · skip
            have b_ := zT_eq rfl zk_0 c_
            refine lv_iconst (v := 2) hx hb dX13_isRun_36 (by decide) ?_
            have hc : va_P (dC, dI) vwCl [(h0, .inr (13, mX13 q0 v0)), ((q0 0), .inl (k1, 600, .inl f1))] s.heap ∧ va_D A [(h0, .inr (13, mX13 q0 v0)), ((q0 0), .inl (k1, 600, .inl f1))] ∧ va_S A s.heap s.heap [] ∧ lv_has ls 7 [(0, .ref h0), (1, .int x1), (2, .int x2), (3, .int x3), (4, .int x4), (5, .int x5)] ∧ (2 ≤ (2 : Int32).toInt ∧ (2 : Int32).toInt ≤ 5) := ⟨hP, hD, hS, lv_sub hl [0, 1, 2, 3, 4, 5] rfl, ⟨by omega, by omega⟩⟩
            exact hJ37 s.heap [] ls (fun i => ([2] : List (Int32)).getD i 0) (fun _ => 0) (fun _ => (fun _ => 0)) (fun _ => (fun _ => 0)) hc
          · skip
            have b_ := zF_eq rfl zk_0 c_
            refine lv_iconst (v := 3) hx hb dX13_isRun_32 (by decide) ?_
            refine lv_goto (tgt := 37) hx hb dX13_isRun_33 (by decide) ?_
            have hc : va_P (dC, dI) vwCl [(h0, .inr (13, mX13 q0 v0)), ((q0 0), .inl (k1, 600, .inl f1))] s.heap ∧ va_D A [(h0, .inr (13, mX13 q0 v0)), ((q0 0), .inl (k1, 600, .inl f1))] ∧ va_S A s.heap s.heap [] ∧ lv_has ls 7 [(0, .ref h0), (1, .int x1), (2, .int x2), (3, .int x3), (4, .int x4), (5, .int x5)] ∧ (2 ≤ (3 : Int32).toInt ∧ (3 : Int32).toInt ≤ 5) := ⟨hP, hD, hS, lv_sub hl [0, 1, 2, 3, 4, 5] rfl, ⟨by omega, by omega⟩⟩
            exact hJ37 s.heap [] ls (fun i => ([3] : List (Int32)).getD i 0) (fun _ => 0) (fun _ => (fun _ => 0)) (fun _ => (fun _ => 0)) hc
        · skip
          have b_ := zF_eq rfl zk_0 c_
          refine lv_iconst (v := 4) hx hb dX13_isRun_24 (by decide) ?_
          refine lv_goto (tgt := 37) hx hb dX13_isRun_25 (by decide) ?_
          have hc : va_P (dC, dI) vwCl [(h0, .inr (13, mX13 q0 v0)), ((q0 0), .inl (k1, 600, .inl f1))] s.heap ∧ va_D A [(h0, .inr (13, mX13 q0 v0)), ((q0 0), .inl (k1, 600, .inl f1))] ∧ va_S A s.heap s.heap [] ∧ lv_has ls 7 [(0, .ref h0), (1, .int x1), (2, .int x2), (3, .int x3), (4, .int x4), (5, .int x5)] ∧ (2 ≤ (4 : Int32).toInt ∧ (4 : Int32).toInt ≤ 5) := ⟨hP, hD, hS, lv_sub hl [0, 1, 2, 3, 4, 5] rfl, ⟨by omega, by omega⟩⟩
          exact hJ37 s.heap [] ls (fun i => ([4] : List (Int32)).getD i 0) (fun _ => 0) (fun _ => (fun _ => 0)) (fun _ => (fun _ => 0)) hc
      · skip
        have b_ := zF_eq rfl zk_0 c_
        refine lv_iconst (v := 5) hx hb dX13_isRun_15 (by decide) ?_
        refine lv_goto (tgt := 37) hx hb dX13_isRun_16 (by decide) ?_
        have hc : va_P (dC, dI) vwCl [(h0, .inr (13, mX13 q0 v0)), ((q0 0), .inl (k1, 600, .inl f1))] s.heap ∧ va_D A [(h0, .inr (13, mX13 q0 v0)), ((q0 0), .inl (k1, 600, .inl f1))] ∧ va_S A s.heap s.heap [] ∧ lv_has ls 7 [(0, .ref h0), (1, .int x1), (2, .int x2), (3, .int x3), (4, .int x4), (5, .int x5)] ∧ (2 ≤ (5 : Int32).toInt ∧ (5 : Int32).toInt ≤ 5) := ⟨hP, hD, hS, lv_sub hl [0, 1, 2, 3, 4, 5] rfl, ⟨by omega, by omega⟩⟩
        exact hJ37 s.heap [] ls (fun i => ([5] : List (Int32)).getD i 0) (fun _ => 0) (fun _ => (fun _ => 0)) (fun _ => (fun _ => 0)) hc
  · skip
    have b_ := zF_eq rfl zk_1 c_
    refine lv_iconst (v := 0) hx hb dX13_isRun_8 (by decide) ?_
    refine W.widen (k := 0) (n := 0) (by decide) (by decide) ?_
    have hpost : (0 ≤ (0 : Int32).toInt ∧ (0 : Int32).toInt ≤ 1) ∧ ((0 : Int32).toInt = 1 → (v0 36).toInt = 1) := ⟨⟨by omega, by omega⟩, by omega⟩
    have hP9 : va_P (dC, dI) vwCl [(h0, .inr (13, mX13 q0 v0)), ((q0 0), .inl (k1, 600, .inl f1))] s.heap := hP
    have hD9 : va_D A [(h0, .inr (13, mX13 q0 v0)), ((q0 0), .inl (k1, 600, .inl f1))] := hD
    exact W.zret (v := 0) hx hb hr rfl (fun t ht hW => ⟨⟨0, (fun _ => 0), rfl, hpost, (fun _ => 0), (fun _ => (fun _ => 0)), (fun _ => (fun _ => 0)), by rw [ht]; exact hP9, va_K.moved hW.alike hK, hD9⟩, hS.F ht⟩) hS.2.2 dX13_isRun_9
