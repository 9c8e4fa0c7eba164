set_option maxHeartbeats 8000000 in
set_option maxRecDepth 100000 in
theorem sX9_isDigit_0 (l : Launch) (dC : Nat → ClassId) (dI : Nat → Nat → Nat) (adK adV : Nat → Nat) (sz : Nat) (x0 : Int32) : Met l yX9_isDigit (zw yX9_isDigit cX9_isDigit 1 (some .boolean)) { frames := 0, cells := 0, slots := 0, locals := 0 } (zPc dC dI adK adV [.int x0] sz [] []) (va_Qi (fun (r : Int32) (u : Nat → Int32) => (0 ≤ r.toInt ∧ r.toInt ≤ 1) ∧ (r.toInt = 1 → (48 ≤ x0.toInt ∧ x0.toInt ≤ 57))) (fun (u : Nat → Int32) (t : State) => ∃ (ww : Nat → Int64) (aa : Nat → Nat → Int32) (bb : Nat → Nat → Int64), va_P (dC, dI) vwCl [] t.heap ∧ va_K (dC, dI) vwCl [] t ∧ va_D (va_A [] sz) []) (va_A [] sz)) 0 0 (va_A [] sz) := by
  refine Met.ofW (cc := cX9_isDigit) (maxL := 1) (ret := (some .boolean)) (by decide) rfl ?_
  intro p e s m args below meth c s₁ B hml hv
  obtain ⟨rfl, hsz, hP, hK, hD0, hE, hZ⟩ := hv
  have hx := B.exec
  have hb := B.bytes
  have hr := B.returns
  have hG : ∀ w ∈ zG, w.before _ s = true := fun w h => atoms_spec (ws := (zw yX9_isDigit cX9_isDigit 1 (some .boolean))) B.pre w (List.mem_cons_of_mem _ h)
  have hown : s.vm.findClass RX9 = some m.cls := findClass_of_methodNamed B.named
  have hlocks := B.notSynchronized

  subst hsz
  have hD := hD0.self (sz := s.heap.size)
  generalize hAe : va_A [] s.heap.size = A at hD hZ ⊢
  have hA : ∀ q : Nat, s.heap.size ≤ q → A q := fun q h => by rw [← hAe]; exact Or.inr h
  have hS : va_S A s.heap s.heap [] := va_S.rf
  have hl := lv_entry ([.int x0]) (n := 1) (Nat.le_of_ble_eq_true rfl)
  rw [lg_entry_eq]
  generalize (lg_sl ([.int x0]) ++ List.replicate (1 - (lg_sl ([.int x0])).length) Slot.unset).toArray = ls at hl ⊢
  have hl : lv_has ls 1 [(0, .int x0)] := hl
  have b_ := zk_0
  have b_ := zk_1
  refine lv_iload_n hx hb dX9_isDigit_0 rfl (lv_at hl 0 rfl) ?_
  refine lv_bipush (v := 48) hx hb dX9_isDigit_1 (by decide) ?_
  have b_ : -2147483648 ≤ x0.toInt ∧ x0.toInt ≤ 2147483647 := ⟨zlo _, zhi _⟩
  refine lv_icmp_lt (tgt := 16) hx hb dX9_isDigit_3 (by decide) (fun c_ => ?_) (fun c_ => ?_)
  · skip
    have b_ := zT_lt rfl zk_48 c_
    refine lv_iconst (v := 0) hx hb dX9_isDigit_16 (by decide) ?_
    refine W.widen (k := 0) (n := 0) (by decide) (by decide) ?_
    have hpost : (0 ≤ (0 : Int32).toInt ∧ (0 : Int32).toInt ≤ 1) ∧ ((0 : Int32).toInt = 1 → (48 ≤ x0.toInt ∧ x0.toInt ≤ 57)) := ⟨(by first | with_reducible assumption | exact ⟨by omega, by omega⟩), by omega⟩
    have hP9 : va_P (dC, dI) vwCl [] s.heap := hP
    have hD9 : va_D A [] := hD
    exact W.zret (v := 0) hx hb hr rfl (fun t ht hW => ⟨⟨0, (fun _ => 0), rfl, hpost, (fun _ => 0), (fun _ => (fun _ => 0)), (fun _ => (fun _ => 0)), by rw [ht]; exact hP9, va_K.moved hW.alike hK, hD9⟩, hS.F ht⟩) hS.2.2 dX9_isDigit_17
  · skip
    have b_ := zF_lt rfl zk_48 c_
    refine lv_iload_n hx hb dX9_isDigit_6 rfl (lv_at hl 0 rfl) ?_
    refine lv_bipush (v := 57) hx hb dX9_isDigit_7 (by decide) ?_
    refine lv_icmp_gt (tgt := 16) hx hb dX9_isDigit_9 (by decide) (fun c_ => ?_) (fun c_ => ?_)
    · skip
      have b_ := zT_gt rfl zk_57 c_
      refine lv_iconst (v := 0) hx hb dX9_isDigit_16 (by decide) ?_
      refine W.widen (k := 0) (n := 0) (by decide) (by decide) ?_
      have hpost : (0 ≤ (0 : Int32).toInt ∧ (0 : Int32).toInt ≤ 1) ∧ ((0 : Int32).toInt = 1 → (48 ≤ x0.toInt ∧ x0.toInt ≤ 57)) := ⟨(by first | with_reducible assumption | exact ⟨by omega, by omega⟩), by omega⟩
      have hP9 : va_P (dC, dI) vwCl [] s.heap := hP
      have hD9 : va_D A [] := hD
      exact W.zret (v := 0) hx hb hr rfl (fun t ht hW => ⟨⟨0, (fun _ => 0), rfl, hpost, (fun _ => 0), (fun _ => (fun _ => 0)), (fun _ => (fun _ => 0)), by rw [ht]; exact hP9, va_K.moved hW.alike hK, hD9⟩, hS.F ht⟩) hS.2.2 dX9_isDigit_17
    · skip
      have b_ := zF_gt rfl zk_57 c_
      refine lv_iconst (v := 1) hx hb dX9_isDigit_12 (by decide) ?_
      refine lv_goto (tgt := 17) hx hb dX9_isDigit_13 (by decide) ?_
      refine W.widen (k := 0) (n := 0) (by decide) (by decide) ?_
      have hpost : (0 ≤ (1 : Int32).toInt ∧ (1 : Int32).toInt ≤ 1) ∧ ((1 : Int32).toInt = 1 → (48 ≤ x0.toInt ∧ x0.toInt ≤ 57)) := ⟨(by first | with_reducible assumption | exact ⟨by omega, by omega⟩), by omega⟩
      have hP9 : va_P (dC, dI) vwCl [] s.heap := hP
      have hD9 : va_D A [] := hD
      exact W.zret (v := 1) hx hb hr rfl (fun t ht hW => ⟨⟨1, (fun _ => 0), rfl, hpost, (fun _ => 0), (fun _ => (fun _ => 0)), (fun _ => (fun _ => 0)), by rw [ht]; exact hP9, va_K.moved hW.alike hK, hD9⟩, hS.F ht⟩) hS.2.2 dX9_isDigit_17
set_option maxHeartbeats 8000000 in
set_option maxRecDepth 100000 in
theorem sX9_digits_0 (l : Launch) (dC : Nat → ClassId) (dI : Nat → Nat → Nat) (adK adV : Nat → Nat) (h0 : Nat) (h1 : Nat) (h2 : Nat) (k1 : ClassId) (sz : Nat) (v0 : Nat → Int32) (f1 : Nat → Int32) (x1 : Int32) (x2 : Int32) (x3 : Int32) (hv0 : zR rg_Tape v0) (hx3 : 0 ≤ x3.toInt ∧ x3.toInt ≤ 9) : Met l yX9_digits (zw yX9_digits cX9_digits 6 (some .int)) { frames := 1, cells := 0, slots := 0, locals := 21 } (zPc dC dI adK adV [.ref h0, .int x1, .int x2, .int x3] sz [(h0, .inr (9, mX9 h1 h2 v0)), (h1, zi k1 600 f1)] [(k1, .byte)]) (va_Qi (fun (r : Int32) (u : Nat → Int32) => ((-1) ≤ r.toInt ∧ r.toInt ≤ 999999999) ∧ (x3.toInt ≤ 3 → r.toInt ≤ 999)) (fun (u : Nat → Int32) (t : State) => ∃ (ww : Nat → Int64) (aa : Nat → Nat → Int32) (bb : Nat → Nat → Int64), va_P (dC, dI) vwCl [(h0, .inr (9, mX9 h1 h2 v0)), (h1, zi k1 600 f1)] t.heap ∧ va_K (dC, dI) vwCl [(k1, .byte)] t ∧ va_D (va_A [(h0, .inr (9, mX9 h1 h2 v0)), (h1, zi k1 600 f1)] sz) [(h0, .inr (9, mX9 h1 h2 v0)), (h1, zi k1 600 f1)]) (va_A [(h0, .inr (9, mX9 h1 h2 v0)), (h1, zi k1 600 f1)] sz)) 0 0 (va_A [(h0, .inr (9, mX9 h1 h2 v0)), (h1, zi k1 600 f1)] sz) := by
  refine Met.ofW (cc := cX9_digits) (maxL := 6) (ret := (some .int)) (by decide) rfl ?_
  intro p e s m args below meth c s₁ B hml hv
  obtain ⟨rfl, hsz, hP, hK, hD0, hE, hZ⟩ := hv
  have hx := B.exec
  have hb := B.bytes
  have hr := B.returns
  have hG : ∀ w ∈ zG, w.before _ s = true := fun w h => atoms_spec (ws := (zw yX9_digits cX9_digits 6 (some .int))) B.pre w (List.mem_cons_of_mem _ h)
  have hown : s.vm.findClass RX9 = some m.cls := findClass_of_methodNamed B.named
  have hlocks := B.notSynchronized

  subst hsz
  have hD := hD0.self (sz := s.heap.size)
  generalize hAe : va_A [(h0, .inr (9, mX9 h1 h2 v0)), (h1, zi k1 600 f1)] s.heap.size = A at hD hZ ⊢
  have hA : ∀ q : Nat, s.heap.size ≤ q → A q := fun q h => by rw [← hAe]; exact Or.inr h
  have hS : va_S A s.heap s.heap [] := va_S.rf
  have hl := lv_entry ([.ref h0, .int x1, .int x2, .int x3]) (n := 6) (Nat.le_of_ble_eq_true rfl)
  rw [lg_entry_eq]
  generalize (lg_sl ([.ref h0, .int x1, .int x2, .int x3]) ++ List.replicate (6 - (lg_sl ([.ref h0, .int x1, .int x2, .int x3])).length) Slot.unset).toArray = ls at hl ⊢
  have hl : lv_has ls 6 [(0, .ref h0), (1, .int x1), (2, .int x2), (3, .int x3)] := hl
  have b_ := zk_m1
  have b_ := zk_0
  refine lv_iload_n hx hb dX9_digits_0 rfl (lv_at hl 2 rfl) ?_
  refine lv_iload_n hx hb dX9_digits_1 rfl (lv_at hl 1 rfl) ?_
  have b_ : -2147483648 ≤ x2.toInt ∧ x2.toInt ≤ 2147483647 := ⟨zlo _, zhi _⟩
  have b_ : -2147483648 ≤ x1.toInt ∧ x1.toInt ≤ 2147483647 := ⟨zlo _, zhi _⟩
  refine lv_icmp_le (tgt := 12) hx hb dX9_digits_2 (by decide) (fun c_ => ?_) (fun c_ => ?_)
  · skip
    have b_ := zT_le rfl rfl c_
    refine lv_iconst (v := (-1)) hx hb dX9_digits_12 (by decide) ?_
    refine W.widen (k := 0) (n := 0) (by decide) (by decide) ?_
    have hpost : ((-1) ≤ ((-1) : Int32).toInt ∧ ((-1) : Int32).toInt ≤ 999999999) ∧ (x3.toInt ≤ 3 → ((-1) : Int32).toInt ≤ 999) := ⟨(by first | with_reducible assumption | exact ⟨by omega, by omega⟩), by omega⟩
    have hP9 : va_P (dC, dI) vwCl [(h0, .inr (9, mX9 h1 h2 v0)), (h1, zi k1 600 f1)] s.heap := hP
    have hD9 : va_D A [(h0, .inr (9, mX9 h1 h2 v0)), (h1, zi k1 600 f1)] := hD
    exact W.iret (v := (-1)) hx hb hr (fun t ht hW => ⟨⟨(-1), (fun _ => 0), rfl, hpost, (fun _ => 0), (fun _ => (fun _ => 0)), (fun _ => (fun _ => 0)), by rw [ht]; exact hP9, va_K.moved hW.alike hK, hD9⟩, hS.F ht⟩) hS.2.2 dX9_digits_13
  · skip
    have b_ := zF_le rfl rfl c_
    refine lv_iload_n hx hb dX9_digits_5 rfl (lv_at hl 2 rfl) ?_
    refine lv_iload_n hx hb dX9_digits_6 rfl (lv_at hl 1 rfl) ?_
    refine lv_isub hx hb dX9_digits_7 ?_
    refine lv_topi (fun z7 e_z7 => ?_)
    have b_ : 0 ≤ x1.toInt → z7.toInt = x2.toInt - x1.toInt := fun h => zsub rfl rfl e_z7 (by omega) (by omega)
    refine lv_iload_n hx hb dX9_digits_8 rfl (lv_at hl 3 rfl) ?_
    have b_ : -2147483648 ≤ z7.toInt ∧ z7.toInt ≤ 2147483647 := ⟨zlo _, zhi _⟩
    refine lv_icmp_le (tgt := 14) hx hb dX9_digits_9 (by decide) (fun c_ => ?_) (fun c_ => ?_)
    · skip
      have b_ := zT_le rfl rfl c_
      refine lv_iconst (v := 0) hx hb dX9_digits_14 (by decide) ?_
      refine lv_istore (lv' := [(4, .int 0), (0, .ref h0), (1, .int x1), (2, .int x2), (3, .int x3)]) hx hb dX9_digits_15 hl (by decide) rfl (fun ls hl => ?_)
      refine lv_iload_n hx hb dX9_digits_17 rfl (lv_at hl 2 rfl) ?_
      refine lv_istore (lv' := [(5, .int x1), (4, .int 0), (0, .ref h0), (1, .int x1), (2, .int x2), (3, .int x3)]) hx hb dX9_digits_18 hl (by decide) rfl (fun ls hl => ?_)
      refine zcutL (fun u20_ => (2147483647 - (u20_ 1).toInt).toNat) (fun H locs ls u20_ w20_ a20_ b20_ => va_P (dC, dI) vwCl [(h0, .inr (9, mX9 h1 h2 v0)), (h1, zi k1 600 f1)] H ∧ va_D A [(h0, .inr (9, mX9 h1 h2 v0)), (h1, zi k1 600 f1)] ∧ va_S A s.heap H locs ∧ lv_has ls 6 [(0, .ref h0), (1, .int x1), (2, .int x2), (3, .int x3), (4, .int (u20_ 0)), (5, .int (u20_ 1))] ∧ (0 ≤ (u20_ 0).toInt ∧ (u20_ 0).toInt ≤ 999999999) ∧ ((u20_ 1).toInt ≤ x2.toInt) ∧ ((u20_ 1).toInt = x1.toInt ∨ (0 ≤ x1.toInt ∧ (u20_ 1).toInt ≤ 600)) ∧ (zdg ((u20_ 1).toInt - x1.toInt) (u20_ 0).toInt)) (fun ls u20_ w20_ => F0 m 20 ls []) 0 0 ?_ (fun hJ20 => ?_)
      · skip
        intro H locs ls u20_ w20_ a20_ b20_ hc hJ20
        obtain ⟨hP, hD, hS, hl, b_, b_, b_, hI20_2⟩ := hc
        refine lv_iload hx hb dX9_digits_20 (lv_at hl 5 rfl) ?_
        refine lv_iload_n hx hb dX9_digits_22 rfl (lv_at hl 2 rfl) ?_
        have b_ : -2147483648 ≤ (u20_ 1).toInt ∧ (u20_ 1).toInt ≤ 2147483647 := ⟨zlo _, zhi _⟩
        refine lv_icmp_ge (tgt := 63) hx hb dX9_digits_23 (by decide) (fun c_ => ?_) (fun c_ => ?_)
        · skip
          have b_ := zT_ge rfl rfl c_
          have b_ := zdg_3 (k := (u20_ 1).toInt - x1.toInt) (v := (u20_ 0).toInt) (by assumption)
          refine lv_iload hx hb dX9_digits_63 (lv_at hl 4 rfl) ?_
          refine W.widen (k := 0) (n := 0) (by decide) (by decide) ?_
          have hpost : ((-1) ≤ (u20_ 0).toInt ∧ (u20_ 0).toInt ≤ 999999999) ∧ (x3.toInt ≤ 3 → (u20_ 0).toInt ≤ 999) := ⟨(by first | with_reducible assumption | exact ⟨by omega, by omega⟩), by omega⟩
          have hP9 : va_P (dC, dI) vwCl [(h0, .inr (9, mX9 h1 h2 v0)), (h1, zi k1 600 f1)] H := hP
          have hD9 : va_D A [(h0, .inr (9, mX9 h1 h2 v0)), (h1, zi k1 600 f1)] := hD
          exact W.iret (v := (u20_ 0)) hx hb hr (fun t ht hW => ⟨⟨(u20_ 0), (fun _ => 0), rfl, hpost, (fun _ => 0), (fun _ => (fun _ => 0)), (fun _ => (fun _ => 0)), by rw [ht]; exact hP9, va_K.moved hW.alike hK, hD9⟩, hS.F ht⟩) hS.2.2 dX9_digits_65
        · skip
          have b_ := zF_ge rfl rfl c_
          refine lv_aload_n hx hb dX9_digits_26 rfl (lv_at hl 0 rfl) ?_
          refine lv_iload hx hb dX9_digits_27 (lv_at hl 5 rfl) ?_
          have hPc := hP.sub (ws' := [(h0, .inr (9, mX9 h1 h2 v0)), (h1, zi k1 600 f1)]) [0, 1] rfl
          have hDc := hD.sub (ws' := [(h0, .inr (9, mX9 h1 h2 v0)), (h1, zi k1 600 f1)]) [0, 1] (by decide) rfl
          have hKc := hK.sub (tys' := [(k1, .byte)]) [0] rfl
          have hFc := va_free (wc := [(h0, .inr (9, mX9 h1 h2 v0)), (h1, zi k1 600 f1)]) hD hS hA [0, 1] rfl
          refine va_calli (va_runV (As := [.int (u20_ 1)]) (rest := []) ⟨hx, hb, hml, hown, hG⟩ (sX9_at_0 l dC dI adK adV h0 h1 h2 k1 H.size v0 f1 (u20_ 1) hv0) (cwV 1 hG (zgV zv660 zv641 zv642 zv130 zv643) rfl rfl rfl (by decide +kernel) ⟨Nat.le_of_ble_eq_true rfl, Nat.le_of_ble_eq_true rfl⟩) ⟨zPc_blind, va_recv hKc hPc (ci := 9) (q0 := 0) rfl rfl, zPc_pre hPc hKc hDc hE hS hFc hZ⟩ rfl rfl hl.1 rfl (lv_room (Nat.le_of_ble_eq_true rfl)) dX9_digits_29 ⟨Nat.le_of_ble_eq_true rfl, Nat.le_of_ble_eq_true rfl⟩) hS (fun q _ h => hFc q h) hFc (fun r29_ u29_ t H1 locs ht hvm hw hB hz1 hk1 hS => ?_)
          replace hw : ((-1) ≤ r29_.toInt ∧ r29_.toInt ≤ 255) ∧ (0 ≤ (u20_ 1).toInt ∧ (u20_ 1).toInt < (v0 2).toInt → r29_.toInt = (f1 (((u20_ 1) : Int32)).toNatClampNeg &&& 255).toInt) ∧ (r29_.toInt ≠ -1 → 0 ≤ (u20_ 1).toInt ∧ (u20_ 1).toInt < (v0 2).toInt ∧ (u20_ 1).toInt < 600) := hw
          obtain ⟨b_, hX29_0, hX29_1⟩ := hw
          obtain ⟨w29_, a29_, b29_, hP1, hK1, hD1⟩ := hB
          rw [ht] at hP1
          obtain ⟨hP, hD⟩ := va_join (wr := []) (w1 := [(h0, .inr (9, mX9 h1 h2 v0)), (h1, zi k1 600 f1)]) hP hD [0, 1] [] rfl rfl (by decide) (by decide) hk1 hFc hP1 hD1
          have hP : va_P (dC, dI) vwCl [(h0, .inr (9, mX9 h1 h2 v0)), (h1, zi k1 600 f1)] H1 := hP.sub [0, 1] rfl
          have hD : va_D A [(h0, .inr (9, mX9 h1 h2 v0)), (h1, zi k1 600 f1)] := hD.sub [0, 1] (by decide) rfl
          generalize H1 = H at hP hS ⊢
          clear hz1
          have hPc := hP.sub (ws' := []) [] rfl
          have hDc := hD.sub (ws' := []) [] (by decide) rfl
          have hKc := hK.sub (tys' := []) [] rfl
          have hFc := va_free (wc := []) hD hS hA [] rfl
          refine va_calli (va_runS (As := [.int r29_]) (rest := []) ⟨hx, hb, hml, hown, hG⟩ (sX9_isDigit_0 l dC dI adK adV H.size r29_) (va_cwS 1 hG (zgS zv1105 zv1106 zv130 zv1107) rfl rfl rfl (by decide +kernel) ⟨Nat.le_of_ble_eq_true rfl, Nat.le_of_ble_eq_true rfl⟩) ⟨zPc_blind, zPc_pre hPc hKc hDc hE hS hFc hZ⟩ rfl rfl hl.1 rfl (lv_room (Nat.le_of_ble_eq_true rfl)) dX9_digits_32 ⟨Nat.le_of_ble_eq_true rfl, Nat.le_of_ble_eq_true rfl⟩) hS (fun q _ h => hFc q h) hFc (fun r32_ u32_ t H1 locs ht hvm hw hB hz1 hk1 hS => ?_)
          replace hw : (0 ≤ r32_.toInt ∧ r32_.toInt ≤ 1) ∧ (r32_.toInt = 1 → (48 ≤ r29_.toInt ∧ r29_.toInt ≤ 57)) := hw
          obtain ⟨b_, hX32_0⟩ := hw
          obtain ⟨w32_, a32_, b32_, hP1, hK1, hD1⟩ := hB
          rw [ht] at hP1
          obtain ⟨hP, hD⟩ := va_join (wr := [(h0, .inr (9, mX9 h1 h2 v0)), (h1, zi k1 600 f1)]) (w1 := []) hP hD [] [0, 1] rfl rfl (by decide) (by decide) hk1 hFc hP1 hD1
          have hP : va_P (dC, dI) vwCl [(h0, .inr (9, mX9 h1 h2 v0)), (h1, zi k1 600 f1)] H1 := hP.sub [0, 1] rfl
          have hD : va_D A [(h0, .inr (9, mX9 h1 h2 v0)), (h1, zi k1 600 f1)] := hD.sub [0, 1] (by decide) rfl
          generalize H1 = H at hP hS ⊢
          clear hz1
          refine lv_if_ne (tgt := 40) hx hb dX9_digits_35 (by decide) (fun c_ => ?_) (fun c_ => ?_)
          · skip
            have b_ := zT_ne rfl zk_0 c_
            have b_ := zdg_8 (k := (u20_ 1).toInt - x1.toInt) (v := (u20_ 0).toInt) (by assumption) (by omega)
            refine lv_iload hx hb dX9_digits_40 (lv_at hl 4 rfl) ?_
            refine lv_bipush (v := 10) hx hb dX9_digits_42 (by decide) ?_
            refine lv_imul hx hb dX9_digits_44 ?_
            refine lv_topi (fun z44 e_z44 => ?_)
            have b_ := zmul rfl zk_10 e_z44 (by omega) (by omega)
            refine lv_aload_n hx hb dX9_digits_45 rfl (lv_at hl 0 rfl) ?_
            refine lv_iload hx hb dX9_digits_46 (lv_at hl 5 rfl) ?_
            have hPc := hP.sub (ws' := [(h0, .inr (9, mX9 h1 h2 v0)), (h1, zi k1 600 f1)]) [0, 1] rfl
            have hDc := hD.sub (ws' := [(h0, .inr (9, mX9 h1 h2 v0)), (h1, zi k1 600 f1)]) [0, 1] (by decide) rfl
            have hKc := hK.sub (tys' := [(k1, .byte)]) [0] rfl
            have hFc := va_free (wc := [(h0, .inr (9, mX9 h1 h2 v0)), (h1, zi k1 600 f1)]) hD hS hA [0, 1] rfl
            refine va_calli (va_runV (As := [.int (u20_ 1)]) (rest := [.int z44]) ⟨hx, hb, hml, hown, hG⟩ (sX9_at_0 l dC dI adK adV h0 h1 h2 k1 H.size v0 f1 (u20_ 1) hv0) (cwV 1 hG (zgV zv660 zv641 zv642 zv130 zv643) rfl rfl rfl (by decide +kernel) ⟨Nat.le_of_ble_eq_true rfl, Nat.le_of_ble_eq_true rfl⟩) ⟨zPc_blind, va_recv hKc hPc (ci := 9) (q0 := 0) rfl rfl, zPc_pre hPc hKc hDc hE hS hFc hZ⟩ rfl rfl hl.1 rfl (lv_room (Nat.le_of_ble_eq_true rfl)) dX9_digits_48 ⟨Nat.le_of_ble_eq_true rfl, Nat.le_of_ble_eq_true rfl⟩) hS (fun q _ h => hFc q h) hFc (fun r48_ u48_ t H1 locs ht hvm hw hB hz1 hk1 hS => ?_)
            replace hw : ((-1) ≤ r48_.toInt ∧ r48_.toInt ≤ 255) ∧ (0 ≤ (u20_ 1).toInt ∧ (u20_ 1).toInt < (v0 2).toInt → r48_.toInt = (f1 (((u20_ 1) : Int32)).toNatClampNeg &&& 255).toInt) ∧ (r48_.toInt ≠ -1 → 0 ≤ (u20_ 1).toInt ∧ (u20_ 1).toInt < (v0 2).toInt ∧ (u20_ 1).toInt < 600) := hw
            obtain ⟨b_, hX48_0, hX48_1⟩ := hw
            obtain ⟨w48_, a48_, b48_, hP1, hK1, hD1⟩ := hB
            rw [ht] at hP1
            obtain ⟨hP, hD⟩ := va_join (wr := []) (w1 := [(h0, .inr (9, mX9 h1 h2 v0)), (h1, zi k1 600 f1)]) hP hD [0, 1] [] rfl rfl (by decide) (by decide) hk1 hFc hP1 hD1
            have hP : va_P (dC, dI) vwCl [(h0, .inr (9, mX9 h1 h2 v0)), (h1, zi k1 600 f1)] H1 := hP.sub [0, 1] rfl
            have hD : va_D A [(h0, .inr (9, mX9 h1 h2 v0)), (h1, zi k1 600 f1)] := hD.sub [0, 1] (by decide) rfl
            generalize H1 = H at hP hS ⊢
            clear hz1
            refine lv_iadd hx hb dX9_digits_51 ?_
            refine lv_topi (fun z51 e_z51 => ?_)
            have b_ := zadd rfl rfl e_z51 (by omega) (by omega)
            refine lv_bipush (v := 48) hx hb dX9_digits_52 (by decide) ?_
            refine lv_isub hx hb dX9_digits_54 ?_
            refine lv_topi (fun z54 e_z54 => ?_)
            have b_ := zsub rfl zk_48 e_z54 (by omega) (by omega)
            refine lv_istore (lv' := [(4, .int z54), (0, .ref h0), (1, .int x1), (2, .int x2), (3, .int x3), (5, .int (u20_ 1))]) hx hb dX9_digits_55 hl (by decide) rfl (fun ls hl => ?_)
            obtain ⟨z57, e_z57⟩ : ∃ z : Int32, z = (u20_ 1) + Int32.ofInt 1 := ⟨_, rfl⟩
            have b_ := zadd (x := (u20_ 1)) (y := Int32.ofInt 1) rfl (show (Int32.ofInt 1).toInt = 1 from by decide) e_z57 (by omega) (by omega)
            refine lv_iinc (v := z57) (lv' := [(5, .int z57), (4, .int z54), (0, .ref h0), (1, .int x1), (2, .int x2), (3, .int x3)]) hx hb dX9_digits_57 hl (k := 5) rfl e_z57.symm (by decide) rfl (fun ls hl => ?_)
            refine lv_goto (tgt := 20) hx hb dX9_digits_60 (by decide) ?_
            have hc : va_P (dC, dI) vwCl [(h0, .inr (9, mX9 h1 h2 v0)), (h1, zi k1 600 f1)] H ∧ va_D A [(h0, .inr (9, mX9 h1 h2 v0)), (h1, zi k1 600 f1)] ∧ va_S A s.heap H locs ∧ lv_has ls 6 [(0, .ref h0), (1, .int x1), (2, .int x2), (3, .int x3), (4, .int z54), (5, .int z57)] ∧ (0 ≤ z54.toInt ∧ z54.toInt ≤ 999999999) ∧ (z57.toInt ≤ x2.toInt) ∧ (z57.toInt = x1.toInt ∨ (0 ≤ x1.toInt ∧ z57.toInt ≤ 600)) ∧ (zdg (z57.toInt - x1.toInt) z54.toInt) := ⟨hP, hD, hS, lv_sub hl [2, 3, 4, 5, 1, 0] rfl, (by first | with_reducible assumption | exact ⟨by omega, by omega⟩), by omega, by omega, by first | exact zdg_0 (by omega) (by omega) | exact zdg_step (a := r48_.toInt) (by assumption) (by omega) (by omega) (by omega) (by omega)⟩
            exact hJ20 H locs ls (fun i => ([z54, z57] : List (Int32)).getD i 0) (fun _ => 0) (fun _ => (fun _ => 0)) (fun _ => (fun _ => 0)) hc (show (2147483647 - z57.toInt).toNat < (2147483647 - (u20_ 1).toInt).toNat from by omega)
          · skip
            have b_ := zF_ne rfl zk_0 c_
            refine lv_iconst (v := (-1)) hx hb dX9_digits_38 (by decide) ?_
            refine W.widen (k := 0) (n := 0) (by decide) (by decide) ?_
            have hpost : ((-1) ≤ ((-1) : Int32).toInt ∧ ((-1) : Int32).toInt ≤ 999999999) ∧ (x3.toInt ≤ 3 → ((-1) : Int32).toInt ≤ 999) := ⟨(by first | with_reducible assumption | exact ⟨by omega, by omega⟩), by omega⟩
            have hP9 : va_P (dC, dI) vwCl [(h0, .inr (9, mX9 h1 h2 v0)), (h1, zi k1 600 f1)] H := hP
            have hD9 : va_D A [(h0, .inr (9, mX9 h1 h2 v0)), (h1, zi k1 600 f1)] := hD
            exact W.iret (v := (-1)) hx hb hr (fun t ht hW => ⟨⟨(-1), (fun _ => 0), rfl, hpost, (fun _ => 0), (fun _ => (fun _ => 0)), (fun _ => (fun _ => 0)), by rw [ht]; exact hP9, va_K.moved hW.alike hK, hD9⟩, hS.F ht⟩) hS.2.2 dX9_digits_39
      · skip
        have hc : va_P (dC, dI) vwCl [(h0, .inr (9, mX9 h1 h2 v0)), (h1, zi k1 600 f1)] s.heap ∧ va_D A [(h0, .inr (9, mX9 h1 h2 v0)), (h1, zi k1 600 f1)] ∧ va_S A s.heap s.heap [] ∧ lv_has ls 6 [(0, .ref h0), (1, .int x1), (2, .int x2), (3, .int x3), (4, .int 0), (5, .int x1)] ∧ (0 ≤ (0 : Int32).toInt ∧ (0 : Int32).toInt ≤ 999999999) ∧ (x1.toInt ≤ x2.toInt) ∧ (x1.toInt = x1.toInt ∨ (0 ≤ x1.toInt ∧ x1.toInt ≤ 600)) ∧ (zdg (x1.toInt - x1.toInt) (0 : Int32).toInt) := ⟨hP, hD, hS, lv_sub hl [2, 3, 4, 5, 1, 0] rfl, (by first | with_reducible assumption | exact ⟨by omega, by omega⟩), by omega, by omega, by first | exact zdg_0 (by omega) (by omega) | exact zdg_step (a := r48_.toInt) (by assumption) (by omega) (by omega) (by omega) (by omega)⟩
        exact hJ20 s.heap [] ls (fun i => ([0, x1] : List (Int32)).getD i 0) (fun _ => 0) (fun _ => (fun _ => 0)) (fun _ => (fun _ => 0)) hc
    · skip
      have b_ := zF_le rfl rfl c_
      refine lv_iconst (v := (-1)) hx hb dX9_digits_12 (by decide) ?_
      refine W.widen (k := 0) (n := 0) (by decide) (by decide) ?_
      have hpost : ((-1) ≤ ((-1) : Int32).toInt ∧ ((-1) : Int32).toInt ≤ 999999999) ∧ (x3.toInt ≤ 3 → ((-1) : Int32).toInt ≤ 999) := ⟨(by first | with_reducible assumption | exact ⟨by omega, by omega⟩), by omega⟩
      have hP9 : va_P (dC, dI) vwCl [(h0, .inr (9, mX9 h1 h2 v0)), (h1, zi k1 600 f1)] s.heap := hP
      have hD9 : va_D A [(h0, .inr (9, mX9 h1 h2 v0)), (h1, zi k1 600 f1)] := hD
      exact W.iret (v := (-1)) hx hb hr (fun t ht hW => ⟨⟨(-1), (fun _ => 0), rfl, hpost, (fun _ => 0), (fun _ => (fun _ => 0)), (fun _ => (fun _ => 0)), by rw [ht]; exact hP9, va_K.moved hW.alike hK, hD9⟩, hS.F ht⟩) hS.2.2 dX9_digits_13
set_option maxHeartbeats 8000000 in
set_option maxRecDepth 100000 in
theorem sX4_readInt_0 (l : Launch) (dC : Nat → ClassId) (dI : Nat → Nat → Nat) (adK adV : Nat → Nat) (h0 : Nat) (h1 : Nat) (h2 : Nat) (h4 : Nat) (h11 : Nat) (h18 : Nat) (h3 : Nat) (k2 : ClassId) (sz : Nat) (v0 : Nat → Int32) (v1 : Nat → Int32) (f2 : Nat → Int32) (x1 : Int32) (hv0 : zR rg_Parser v0) (hv1 : zR rg_Tape v1) : Met l yX4_readInt (zw yX4_readInt cX4_readInt 6 (some .int)) { frames := 7, cells := 0, slots := 0, locals := 152 } (zPc dC dI adK adV [.ref h0, .int x1] sz [(h0, .inr (4, mX4 h1 h4 h11 h18 v0)), (h1, .inr (9, mX9 h2 h3 v1)), (h2, zi k2 600 f2)] [(k2, .byte)]) (va_Qi (fun (r : Int32) (u : Nat → Int32) => ((-999999999) ≤ r.toInt ∧ r.toInt ≤ 999999999) ∧ (0 ≤ (u 0).toInt ∧ (u 0).toInt ≤ 265)) (fun (u : Nat → Int32) (t : State) => ∃ (ww : Nat → Int64) (aa : Nat → Nat → Int32) (bb : Nat → Nat → Int64), va_P (dC, dI) vwCl [(h0, .inr (4, mX4 h1 h4 h11 h18 (upd (upd (upd (upd v0 4 (u 0)) 5 (u 1)) 6 (u 2)) 7 (u 3)))), (h1, .inr (9, mX9 h2 h3 v1)), (h2, zi k2 600 f2)] t.heap ∧ va_K (dC, dI) vwCl [(k2, .byte)] t ∧ va_D (va_A [(h0, .inr (4, mX4 h1 h4 h11 h18 v0)), (h1, .inr (9, mX9 h2 h3 v1)), (h2, zi k2 600 f2)] sz) [(h0, .inr (4, mX4 h1 h4 h11 h18 (upd (upd (upd (upd v0 4 (u 0)) 5 (u 1)) 6 (u 2)) 7 (u 3)))), (h1, .inr (9, mX9 h2 h3 v1)), (h2, zi k2 600 f2)]) (va_A [(h0, .inr (4, mX4 h1 h4 h11 h18 v0)), (h1, .inr (9, mX9 h2 h3 v1)), (h2, zi k2 600 f2)] sz)) 0 0 (va_A [(h0, .inr (4, mX4 h1 h4 h11 h18 v0)), (h1, .inr (9, mX9 h2 h3 v1)), (h2, zi k2 600 f2)] sz) := by
  refine Met.ofW (cc := cX4_readInt) (maxL := 6) (ret := (some .int)) (by decide) rfl ?_
  intro p e s m args below meth c s₁ B hml hv
  obtain ⟨rfl, hsz, hP, hK, hD0, hE, hZ⟩ := hv
  have hx := B.exec
  have hb := B.bytes
  have hr := B.returns
  have hG : ∀ w ∈ zG, w.before _ s = true := fun w h => atoms_spec (ws := (zw yX4_readInt cX4_readInt 6 (some .int))) B.pre w (List.mem_cons_of_mem _ h)
  have hown : s.vm.findClass RX4 = some m.cls := findClass_of_methodNamed B.named
  have hlocks := B.notSynchronized

  subst hsz
  have hD := hD0.self (sz := s.heap.size)
  generalize hAe : va_A [(h0, .inr (4, mX4 h1 h4 h11 h18 v0)), (h1, .inr (9, mX9 h2 h3 v1)), (h2, zi k2 600 f2)] s.heap.size = A at hD hZ ⊢
  have hA : ∀ q : Nat, s.heap.size ≤ q → A q := fun q h => by rw [← hAe]; exact Or.inr h
  have hS : va_S A s.heap s.heap [] := va_S.rf
  have hl := lv_entry ([.ref h0, .int x1]) (n := 6) (Nat.le_of_ble_eq_true rfl)
  rw [lg_entry_eq]
  generalize (lg_sl ([.ref h0, .int x1]) ++ List.replicate (6 - (lg_sl ([.ref h0, .int x1])).length) Slot.unset).toArray = ls at hl ⊢
  have hl : lv_has ls 6 [(0, .ref h0), (1, .int x1)] := hl
  have b_ := zk_m1
  have b_ := zk_0
  have b_ := zk_1
  have b_ := zk_9
  refine lv_aload_n hx hb dX4_readInt_0 rfl (lv_at hl 0 rfl) ?_
  refine va_get (D := (dC, dI)) (ci := 4) (v := .int (v0 4)) (C := RX4) (T := TX4) (N := 12) hx hb hG zuX4 hown hK hP 0 rfl rfl 4 (by decide) (hG _ zv412) (fun _ h9 => h9) rfl dX4_readInt_1 ?_
  refine lv_bipush (v := 45) hx hb dX4_readInt_4 (by decide) ?_
  refine zcutW (fun H locs ls u14_ w14_ a14_ b14_ => va_P (dC, dI) vwCl [(h0, .inr (4, mX4 h1 h4 h11 h18 v0)), (h1, .inr (9, mX9 h2 h3 v1)), (h2, zi k2 600 f2)] H ∧ va_D A [(h0, .inr (4, mX4 h1 h4 h11 h18 v0)), (h1, .inr (9, mX9 h2 h3 v1)), (h2, zi k2 600 f2)] ∧ va_S A s.heap H locs ∧ lv_has ls 6 [(0, .ref h0), (1, .int x1)] ∧ (0 ≤ (u14_ 0).toInt ∧ (u14_ 0).toInt ≤ 1)) (fun ls u14_ w14_ => F0 m 14 ls [.int (u14_ 0)]) 0 0 ?_ (fun hJ14 => ?_)
  · skip
    intro H locs ls u14_ w14_ a14_ b14_ hc
    obtain ⟨hP, hD, hS, hl, b_⟩ := hc
    refine lv_istore_n (lv' := [(2, .int (u14_ 0)), (0, .ref h0), (1, .int x1)]) hx hb dX4_readInt_14 rfl hl (by decide) rfl (fun ls hl => ?_)
    refine lv_iload_n hx hb dX4_readInt_15 rfl (lv_at hl 0 rfl) ?_
    refine zcutW (fun H locs ls u30_ w30_ a30_ b30_ => va_P (dC, dI) vwCl [(h0, .inr (4, mX4 h1 h4 h11 h18 v0)), (h1, .inr (9, mX9 h2 h3 v1)), (h2, zi k2 600 f2)] H ∧ va_D A [(h0, .inr (4, mX4 h1 h4 h11 h18 v0)), (h1, .inr (9, mX9 h2 h3 v1)), (h2, zi k2 600 f2)] ∧ va_S A s.heap H locs ∧ lv_has ls 6 [(0, .ref h0), (1, .int x1), (2, .int (u14_ 0))] ∧ (0 ≤ (u14_ 0).toInt ∧ (u14_ 0).toInt ≤ 1)) (fun ls u30_ w30_ => F0 m 30 ls [.int (u30_ 0)]) 0 0 ?_ (fun hJ30 => ?_)
    · skip
      intro H locs ls u30_ w30_ a30_ b30_ hc
      obtain ⟨hP, hD, hS, hl, b_⟩ := hc
      refine lv_istore_n (lv' := [(3, .int (u30_ 0)), (0, .ref h0), (1, .int x1), (2, .int (u14_ 0))]) hx hb dX4_readInt_30 rfl hl (by decide) rfl (fun ls hl => ?_)
      refine lv_aload_n hx hb dX4_readInt_31 rfl (lv_at hl 1 rfl) ?_
      refine va_get (D := (dC, dI)) (ci := 4) (v := .ref h1) (C := RX4) (T := TX4) (N := 12) hx hb hG zuX4 hown hK hP 0 rfl rfl 0 (by decide) (hG _ zv408) (fun _ h9 => h9) rfl dX4_readInt_32 ?_
      refine lv_iload_n hx hb dX4_readInt_35 rfl (lv_at hl 0 rfl) ?_
      have hPc := hP.sub (ws' := [(h1, .inr (9, mX9 h2 h3 v1)), (h2, zi k2 600 f2)]) [1, 2] rfl
      have hDc := hD.sub (ws' := [(h1, .inr (9, mX9 h2 h3 v1)), (h2, zi k2 600 f2)]) [1, 2] (by decide) rfl
      have hKc := hK.sub (tys' := [(k2, .byte)]) [0] rfl
      have hFc := va_free (wc := [(h1, .inr (9, mX9 h2 h3 v1)), (h2, zi k2 600 f2)]) hD hS hA [1, 2] rfl
      refine va_calli (va_runV (As := [.int (u30_ 0)]) (rest := []) ⟨hx, hb, hml, hown, hG⟩ (sX9_tokenEnd_0 l dC dI adK adV h1 h2 h3 k2 H.size v1 f2 (u30_ 0) hv1) (cwV 1 hG (zgV zv1034 zv1035 zv1036 zv130 zv1037) rfl rfl rfl (by decide +kernel) ⟨Nat.le_of_ble_eq_true rfl, Nat.le_of_ble_eq_true rfl⟩) ⟨zPc_blind, va_recv hKc hPc (ci := 9) (q0 := 0) rfl rfl, zPc_pre hPc hKc hDc hE hS hFc hZ⟩ rfl rfl hl.1 rfl (lv_room (Nat.le_of_ble_eq_true rfl)) dX4_readInt_36 ⟨Nat.le_of_ble_eq_true rfl, Nat.le_of_ble_eq_true rfl⟩) hS (fun q _ h => hFc q h) hFc (fun r36_ u36_ t H1 locs ht hvm hw hB hz1 hk1 hS => ?_)
      replace hw : ((u30_ 0).toInt ≤ r36_.toInt) ∧ ((u30_ 0).toInt ≤ 600 → r36_.toInt ≤ 600) := hw
      obtain ⟨hX36_0, hX36_1⟩ := hw
      obtain ⟨w36_, a36_, b36_, hP1, hK1, hD1⟩ := hB
      rw [ht] at hP1
      obtain ⟨hP, hD⟩ := va_join (wr := [(h0, .inr (4, mX4 h1 h4 h11 h18 v0))]) (w1 := [(h1, .inr (9, mX9 h2 h3 v1)), (h2, zi k2 600 f2)]) hP hD [1, 2] [0] rfl rfl (by decide) (by decide) hk1 hFc hP1 hD1
      have hP : va_P (dC, dI) vwCl [(h0, .inr (4, mX4 h1 h4 h11 h18 v0)), (h1, .inr (9, mX9 h2 h3 v1)), (h2, zi k2 600 f2)] H1 := hP.sub [0, 1, 2] rfl
      have hD : va_D A [(h0, .inr (4, mX4 h1 h4 h11 h18 v0)), (h1, .inr (9, mX9 h2 h3 v1)), (h2, zi k2 600 f2)] := hD.sub [0, 1, 2] (by decide) rfl
      generalize H1 = H at hP hS ⊢
      clear hz1
      refine lv_istore (lv' := [(4, .int r36_), (3, .int (u30_ 0)), (0, .ref h0), (1, .int x1), (2, .int (u14_ 0))]) hx hb dX4_readInt_39 hl (by decide) rfl (fun ls hl => ?_)
      refine lv_iload_n hx hb dX4_readInt_41 rfl (lv_at hl 4 rfl) ?_
      refine zcutW (fun H locs ls u71_ w71_ a71_ b71_ => va_P (dC, dI) vwCl [(h0, .inr (4, mX4 h1 h4 h11 h18 v0)), (h1, .inr (9, mX9 h2 h3 v1)), (h2, zi k2 600 f2)] H ∧ va_D A [(h0, .inr (4, mX4 h1 h4 h11 h18 v0)), (h1, .inr (9, mX9 h2 h3 v1)), (h2, zi k2 600 f2)] ∧ va_S A s.heap H locs ∧ lv_has ls 6 [(0, .ref h0), (1, .int x1), (2, .int (u14_ 0)), (3, .int (u30_ 0)), (4, .int r36_)] ∧ ((-1) ≤ (u71_ 0).toInt ∧ (u71_ 0).toInt ≤ 999999999)) (fun ls u71_ w71_ => F0 m 71 ls [.int (u71_ 0)]) 0 0 ?_ (fun hJ71 => ?_)
      · skip
        intro H locs ls u71_ w71_ a71_ b71_ hc
        obtain ⟨hP, hD, hS, hl, b_⟩ := hc
        refine lv_istore (lv' := [(5, .int (u71_ 0)), (0, .ref h0), (1, .int x1), (2, .int (u14_ 0)), (3, .int (u30_ 0)), (4, .int r36_)]) hx hb dX4_readInt_71 hl (by decide) rfl (fun ls hl => ?_)
        refine lv_iload hx hb dX4_readInt_73 (lv_at hl 0 rfl) ?_
        refine lv_iconst (v := (-1)) hx hb dX4_readInt_75 (by decide) ?_
        refine lv_icmp_ne (tgt := 90) hx hb dX4_readInt_76 (by decide) (fun c_ => ?_) (fun c_ => ?_)
        · skip
          have b_ := zT_ne rfl zk_m1 c_
          refine lv_iload_n hx hb dX4_readInt_90 rfl (lv_at hl 3 rfl) ?_
          refine zcutW (fun H locs ls u102_ w102_ a102_ b102_ => va_P (dC, dI) vwCl [(h0, .inr (4, mX4 h1 h4 h11 h18 v0)), (h1, .inr (9, mX9 h2 h3 v1)), (h2, zi k2 600 f2)] H ∧ va_D A [(h0, .inr (4, mX4 h1 h4 h11 h18 v0)), (h1, .inr (9, mX9 h2 h3 v1)), (h2, zi k2 600 f2)] ∧ va_S A s.heap H locs ∧ lv_has ls 6 [(0, .ref h0), (1, .int x1), (2, .int (u14_ 0)), (3, .int (u30_ 0)), (4, .int r36_), (5, .int (u71_ 0))] ∧ ((-999999999) ≤ (u102_ 0).toInt ∧ (u102_ 0).toInt ≤ 999999999)) (fun ls u102_ w102_ => F0 m 102 ls [.int (u102_ 0)]) 0 0 ?_ (fun hJ102 => ?_)
          · skip
            intro H locs ls u102_ w102_ a102_ b102_ hc
            obtain ⟨hP, hD, hS, hl, b_⟩ := hc
            refine lv_istore (lv' := [(5, .int (u102_ 0)), (0, .ref h0), (1, .int x1), (2, .int (u14_ 0)), (3, .int (u30_ 0)), (4, .int r36_)]) hx hb dX4_readInt_102 hl (by decide) rfl (fun ls hl => ?_)
            refine lv_iload hx hb dX4_readInt_104 (lv_at hl 0 rfl) ?_
            refine lv_iload_n hx hb dX4_readInt_106 rfl (lv_at hl 2 rfl) ?_
            refine zcutW (fun H locs ls u119_ w119_ a119_ b119_ => va_P (dC, dI) vwCl [(h0, .inr (4, mX4 h1 h4 h11 h18 (upd (upd v0 4 (u119_ 0)) 7 (u119_ 1)))), (h1, .inr (9, mX9 h2 h3 v1)), (h2, zi k2 600 f2)] H ∧ va_D A [(h0, .inr (4, mX4 h1 h4 h11 h18 (upd (upd v0 4 (u119_ 0)) 7 (u119_ 1)))), (h1, .inr (9, mX9 h2 h3 v1)), (h2, zi k2 600 f2)] ∧ va_S A s.heap H locs ∧ lv_has ls 6 [(0, .ref h0), (1, .int x1), (2, .int (u14_ 0)), (3, .int (u30_ 0)), (4, .int r36_), (5, .int (u102_ 0))] ∧ ((-999999999) ≤ (u102_ 0).toInt ∧ (u102_ 0).toInt ≤ 999999999)) (fun ls u119_ w119_ => F0 m 119 ls []) 0 0 ?_ (fun hJ119 => ?_)
            · skip
              intro H locs ls u119_ w119_ a119_ b119_ hc
              obtain ⟨hP, hD, hS, hl, b_⟩ := hc
              refine lv_aload_n hx hb dX4_readInt_119 rfl (lv_at hl 0 rfl) ?_
              refine lv_iload hx hb dX4_readInt_120 (lv_at hl 4 rfl) ?_
              refine va_put (D := (dC, dI)) (ci := 4) (v := .int r36_) (ty := .int) (C := RX4) (T := TX4) (N := 12) hx hb hG zuX4 tyX4 tyX4_ok nmX4 hown hK hP hD hS 0 rfl rfl 6 (by decide) (hG _ zv414) (fun _ h9 => h9) rfl (by decide +kernel) rfl rfl (Nat.le_of_ble_eq_true rfl) dX4_readInt_122 (fun H locs hP hD hS => ?_)
              have hP : va_P (dC, dI) vwCl [(h0, .inr (4, mX4 h1 h4 h11 h18 (upd (upd (upd v0 4 (u119_ 0)) 6 r36_) 7 (u119_ 1)))), (h1, .inr (9, mX9 h2 h3 v1)), (h2, zi k2 600 f2)] H := hP
              have hD : va_D A [(h0, .inr (4, mX4 h1 h4 h11 h18 (upd (upd (upd v0 4 (u119_ 0)) 6 r36_) 7 (u119_ 1)))), (h1, .inr (9, mX9 h2 h3 v1)), (h2, zi k2 600 f2)] := hD
              refine lv_aload_n hx hb dX4_readInt_125 rfl (lv_at hl 0 rfl) ?_
              have b_ : -2147483648 ≤ (u119_ 0).toInt ∧ (u119_ 0).toInt ≤ 2147483647 := ⟨zlo _, zhi _⟩
              have b_ : -2147483648 ≤ (u119_ 1).toInt ∧ (u119_ 1).toInt ≤ 2147483647 := ⟨zlo _, zhi _⟩
              have b_ : -2147483648 ≤ r36_.toInt ∧ r36_.toInt ≤ 2147483647 := ⟨zlo _, zhi _⟩
              have hPc := hP.sub (ws' := [(h0, .inr (4, mX4 h1 h4 h11 h18 (upd (upd (upd v0 4 (u119_ 0)) 6 r36_) 7 (u119_ 1)))), (h1, .inr (9, mX9 h2 h3 v1)), (h2, zi k2 600 f2)]) [0, 1, 2] rfl
              have hDc := hD.sub (ws' := [(h0, .inr (4, mX4 h1 h4 h11 h18 (upd (upd (upd v0 4 (u119_ 0)) 6 r36_) 7 (u119_ 1)))), (h1, .inr (9, mX9 h2 h3 v1)), (h2, zi k2 600 f2)]) [0, 1, 2] (by decide) rfl
              have hKc := hK.sub (tys' := [(k2, .byte)]) [0] rfl
              have hFc := va_free (wc := [(h0, .inr (4, mX4 h1 h4 h11 h18 (upd (upd (upd v0 4 (u119_ 0)) 6 r36_) 7 (u119_ 1)))), (h1, .inr (9, mX9 h2 h3 v1)), (h2, zi k2 600 f2)]) hD hS hA [0, 1, 2] rfl
              refine va_callv (va_runV (As := []) (rest := []) ⟨hx, hb, hml, hown, hG⟩ (sX4_next_0 l dC dI adK adV h0 h1 h2 h4 h11 h18 h3 k2 H.size (upd (upd (upd v0 4 (u119_ 0)) 6 r36_) 7 (u119_ 1)) v1 f2 (zR_updF (zR_updF (zR_updF hv0 4 rfl) 6 rfl) 7 rfl) hv1) (cwV 0 hG (zgV zv1013 zv1015 zv11 zv137 zv1016) rfl rfl rfl (by decide +kernel) ⟨Nat.le_of_ble_eq_true rfl, Nat.le_of_ble_eq_true rfl⟩) ⟨zPc_blind, va_recv hKc hPc (ci := 4) (q0 := 0) rfl rfl, zPc_pre hPc hKc hDc hE hS hFc hZ⟩ rfl rfl hl.1 rfl (lv_room (Nat.le_of_ble_eq_true rfl)) dX4_readInt_126 ⟨Nat.le_of_ble_eq_true rfl, Nat.le_of_ble_eq_true rfl⟩) hS (fun q _ h => hFc q h) hFc (fun u126_ t H1 locs ht hvm hw hB hz1 hk1 hS => ?_)
              replace hw : (0 ≤ (u126_ 0).toInt ∧ (u126_ 0).toInt ≤ 265) := hw
              have b_ := hw
              obtain ⟨w126_, a126_, b126_, hP1, hK1, hD1⟩ := hB
              rw [ht] at hP1
              obtain ⟨hP, hD⟩ := va_join (wr := []) (w1 := [(h0, .inr (4, mX4 h1 h4 h11 h18 (upd (upd (upd (upd v0 4 (u126_ 0)) 5 (u126_ 1)) 6 (u126_ 2)) 7 (u126_ 3)))), (h1, .inr (9, mX9 h2 h3 v1)), (h2, zi k2 600 f2)]) hP hD [0, 1, 2] [] rfl rfl (by decide) (by decide) hk1 hFc hP1 hD1
              have hP : va_P (dC, dI) vwCl [(h0, .inr (4, mX4 h1 h4 h11 h18 (upd (upd (upd (upd v0 4 (u126_ 0)) 5 (u126_ 1)) 6 (u126_ 2)) 7 (u126_ 3)))), (h1, .inr (9, mX9 h2 h3 v1)), (h2, zi k2 600 f2)] H1 := hP.sub [0, 1, 2] rfl
              have hD : va_D A [(h0, .inr (4, mX4 h1 h4 h11 h18 (upd (upd (upd (upd v0 4 (u126_ 0)) 5 (u126_ 1)) 6 (u126_ 2)) 7 (u126_ 3)))), (h1, .inr (9, mX9 h2 h3 v1)), (h2, zi k2 600 f2)] := hD.sub [0, 1, 2] (by decide) rfl
              generalize H1 = H at hP hS ⊢
              clear hz1
              refine lv_iload hx hb dX4_readInt_129 (lv_at hl 5 rfl) ?_
              refine W.widen (k := 0) (n := 0) (by decide) (by decide) ?_
              have b_ : -2147483648 ≤ (u126_ 1).toInt ∧ (u126_ 1).toInt ≤ 2147483647 := ⟨zlo _, zhi _⟩
              have b_ : -2147483648 ≤ (u126_ 2).toInt ∧ (u126_ 2).toInt ≤ 2147483647 := ⟨zlo _, zhi _⟩
              have b_ : -2147483648 ≤ (u126_ 3).toInt ∧ (u126_ 3).toInt ≤ 2147483647 := ⟨zlo _, zhi _⟩
              have hpost : ((-999999999) ≤ (u102_ 0).toInt ∧ (u102_ 0).toInt ≤ 999999999) ∧ (0 ≤ (u126_ 0).toInt ∧ (u126_ 0).toInt ≤ 265) := ⟨(by first | with_reducible assumption | exact ⟨by omega, by omega⟩), (by first | with_reducible assumption | exact ⟨by omega, by omega⟩)⟩
              have hP9 : va_P (dC, dI) vwCl [(h0, .inr (4, mX4 h1 h4 h11 h18 (upd (upd (upd (upd v0 4 (u126_ 0)) 5 (u126_ 1)) 6 (u126_ 2)) 7 (u126_ 3)))), (h1, .inr (9, mX9 h2 h3 v1)), (h2, zi k2 600 f2)] H := hP
              have hD9 : va_D A [(h0, .inr (4, mX4 h1 h4 h11 h18 (upd (upd (upd (upd v0 4 (u126_ 0)) 5 (u126_ 1)) 6 (u126_ 2)) 7 (u126_ 3)))), (h1, .inr (9, mX9 h2 h3 v1)), (h2, zi k2 600 f2)] := hD
              exact W.iret (v := (u102_ 0)) hx hb hr (fun t ht hW => ⟨⟨(u102_ 0), (fun i => ([(u126_ 0), (u126_ 1), (u126_ 2), (u126_ 3)] : List (Int32)).getD i 0), rfl, hpost, (fun _ => 0), (fun _ => (fun _ => 0)), (fun _ => (fun _ => 0)), by rw [ht]; exact hP9, va_K.moved hW.alike hK, hD9⟩, hS.F ht⟩) hS.2.2 dX4_readInt_131
            · skip
              have b_ : -2147483648 ≤ x1.toInt ∧ x1.toInt ≤ 2147483647 := ⟨zlo _, zhi _⟩
              refine lv_icmp_ge (tgt := 119) hx hb dX4_readInt_107 (by decide) (fun c_ => ?_) (fun c_ => ?_)
              · skip
                have b_ := zT_ge rfl rfl c_
                have hc : va_P (dC, dI) vwCl [(h0, .inr (4, mX4 h1 h4 h11 h18 (upd (upd v0 4 (v0 4)) 7 (v0 7)))), (h1, .inr (9, mX9 h2 h3 v1)), (h2, zi k2 600 f2)] H ∧ va_D A [(h0, .inr (4, mX4 h1 h4 h11 h18 (upd (upd v0 4 (v0 4)) 7 (v0 7)))), (h1, .inr (9, mX9 h2 h3 v1)), (h2, zi k2 600 f2)] ∧ va_S A s.heap H locs ∧ lv_has ls 6 [(0, .ref h0), (1, .int x1), (2, .int (u14_ 0)), (3, .int (u30_ 0)), (4, .int r36_), (5, .int (u102_ 0))] ∧ ((-999999999) ≤ (u102_ 0).toInt ∧ (u102_ 0).toInt ≤ 999999999) := ⟨hP, hD, hS, lv_sub hl [1, 2, 3, 4, 5, 0] rfl, (by first | with_reducible assumption | exact ⟨by omega, by omega⟩)⟩
                exact hJ119 H locs ls (fun i => ([(v0 4), (v0 7)] : List (Int32)).getD i 0) (fun _ => 0) (fun _ => (fun _ => 0)) (fun _ => (fun _ => 0)) hc
              · skip
                have b_ := zF_ge rfl rfl c_
                refine lv_aload_n hx hb dX4_readInt_110 rfl (lv_at hl 1 rfl) ?_
                refine lv_iconst (v := 2) hx hb dX4_readInt_111 (by decide) ?_
                refine lv_aload_n hx hb dX4_readInt_112 rfl (lv_at hl 1 rfl) ?_
                refine va_get (D := (dC, dI)) (ci := 4) (v := .int (v0 5)) (C := RX4) (T := TX4) (N := 12) hx hb hG zuX4 hown hK hP 0 rfl rfl 5 (by decide) (hG _ zv413) (fun _ h9 => h9) rfl dX4_readInt_113 ?_
                have hPc := hP.sub (ws' := [(h0, .inr (4, mX4 h1 h4 h11 h18 v0))]) [0] rfl
                have hDc := hD.sub (ws' := [(h0, .inr (4, mX4 h1 h4 h11 h18 v0))]) [0] (by decide) rfl
                have hKc := hK.sub (tys' := []) [] rfl
                have hFc := va_free (wc := [(h0, .inr (4, mX4 h1 h4 h11 h18 v0))]) hD hS hA [0] rfl
                refine va_callv (va_runV (As := [.int 2, .int (v0 5)]) (rest := []) ⟨hx, hb, hml, hown, hG⟩ (sX4_fail_0 l dC dI adK adV h0 h1 h4 h11 h18 H.size v0 2 (v0 5) hv0) (cwV 2 hG (zgV zv1021 zv1023 zv13 zv137 zv1024) rfl rfl rfl (by decide +kernel) ⟨Nat.le_of_ble_eq_true rfl, Nat.le_of_ble_eq_true rfl⟩) ⟨zPc_blind, va_recv hKc hPc (ci := 4) (q0 := 0) rfl rfl, zPc_pre hPc hKc hDc hE hS hFc hZ⟩ rfl rfl hl.1 rfl (lv_room (Nat.le_of_ble_eq_true rfl)) dX4_readInt_116 ⟨Nat.le_of_ble_eq_true rfl, Nat.le_of_ble_eq_true rfl⟩) hS (fun q _ h => hFc q h) hFc (fun u116_ t H1 locs ht hvm hw hB hz1 hk1 hS => ?_)
                replace hw : (265 ≤ (u116_ 0).toInt ∧ (u116_ 0).toInt ≤ 265) := hw
                have b_ := hw
                obtain ⟨w116_, a116_, b116_, hP1, hK1, hD1⟩ := hB
                rw [ht] at hP1
                obtain ⟨hP, hD⟩ := va_join (wr := [(h1, .inr (9, mX9 h2 h3 v1)), (h2, zi k2 600 f2)]) (w1 := [(h0, .inr (4, mX4 h1 h4 h11 h18 (upd (upd v0 4 (u116_ 0)) 7 (u116_ 1))))]) hP hD [0] [1, 2] rfl rfl (by decide) (by decide) hk1 hFc hP1 hD1
                have hP : va_P (dC, dI) vwCl [(h0, .inr (4, mX4 h1 h4 h11 h18 (upd (upd v0 4 (u116_ 0)) 7 (u116_ 1)))), (h1, .inr (9, mX9 h2 h3 v1)), (h2, zi k2 600 f2)] H1 := hP.sub [2, 0, 1] rfl
                have hD : va_D A [(h0, .inr (4, mX4 h1 h4 h11 h18 (upd (upd v0 4 (u116_ 0)) 7 (u116_ 1)))), (h1, .inr (9, mX9 h2 h3 v1)), (h2, zi k2 600 f2)] := hD.sub [2, 0, 1] (by decide) rfl
                generalize H1 = H at hP hS ⊢
                clear hz1
                have hc : va_P (dC, dI) vwCl [(h0, .inr (4, mX4 h1 h4 h11 h18 (upd (upd v0 4 (u116_ 0)) 7 (u116_ 1)))), (h1, .inr (9, mX9 h2 h3 v1)), (h2, zi k2 600 f2)] H ∧ va_D A [(h0, .inr (4, mX4 h1 h4 h11 h18 (upd (upd v0 4 (u116_ 0)) 7 (u116_ 1)))), (h1, .inr (9, mX9 h2 h3 v1)), (h2, zi k2 600 f2)] ∧ va_S A s.heap H locs ∧ lv_has ls 6 [(0, .ref h0), (1, .int x1), (2, .int (u14_ 0)), (3, .int (u30_ 0)), (4, .int r36_), (5, .int (u102_ 0))] ∧ ((-999999999) ≤ (u102_ 0).toInt ∧ (u102_ 0).toInt ≤ 999999999) := ⟨hP, hD, hS, lv_sub hl [1, 2, 3, 4, 5, 0] rfl, (by first | with_reducible assumption | exact ⟨by omega, by omega⟩)⟩
                exact hJ119 H locs ls (fun i => ([(u116_ 0), (u116_ 1)] : List (Int32)).getD i 0) (fun _ => 0) (fun _ => (fun _ => 0)) (fun _ => (fun _ => 0)) hc
          · skip
            refine lv_if_eq (tgt := 100) hx hb dX4_readInt_91 (by decide) (fun c_ => ?_) (fun c_ => ?_)
            · skip
              have b_ := zT_eq rfl zk_0 c_
              refine lv_iload hx hb dX4_readInt_100 (lv_at hl 0 rfl) ?_
              have hc : va_P (dC, dI) vwCl [(h0, .inr (4, mX4 h1 h4 h11 h18 v0)), (h1, .inr (9, mX9 h2 h3 v1)), (h2, zi k2 600 f2)] H ∧ va_D A [(h0, .inr (4, mX4 h1 h4 h11 h18 v0)), (h1, .inr (9, mX9 h2 h3 v1)), (h2, zi k2 600 f2)] ∧ va_S A s.heap H locs ∧ lv_has ls 6 [(0, .ref h0), (1, .int x1), (2, .int (u14_ 0)), (3, .int (u30_ 0)), (4, .int r36_), (5, .int (u71_ 0))] ∧ ((-999999999) ≤ (u71_ 0).toInt ∧ (u71_ 0).toInt ≤ 999999999) := ⟨hP, hD, hS, lv_sub hl [1, 2, 3, 4, 5, 0] rfl, (by first | with_reducible assumption | exact ⟨by omega, by omega⟩)⟩
              exact hJ102 H locs ls (fun i => ([(u71_ 0)] : List (Int32)).getD i 0) (fun _ => 0) (fun _ => (fun _ => 0)) (fun _ => (fun _ => 0)) hc
            · skip
              have b_ := zF_eq rfl zk_0 c_
              refine lv_iload hx hb dX4_readInt_94 (lv_at hl 0 rfl) ?_
              refine lv_ineg hx hb dX4_readInt_96 ?_
              refine lv_topi (fun z96 e_z96 => ?_)
              have b_ := zneg rfl e_z96 (by omega)
              refine lv_goto (tgt := 102) hx hb dX4_readInt_97 (by decide) ?_
              have hc : va_P (dC, dI) vwCl [(h0, .inr (4, mX4 h1 h4 h11 h18 v0)), (h1, .inr (9, mX9 h2 h3 v1)), (h2, zi k2 600 f2)] H ∧ va_D A [(h0, .inr (4, mX4 h1 h4 h11 h18 v0)), (h1, .inr (9, mX9 h2 h3 v1)), (h2, zi k2 600 f2)] ∧ va_S A s.heap H locs ∧ lv_has ls 6 [(0, .ref h0), (1, .int x1), (2, .int (u14_ 0)), (3, .int (u30_ 0)), (4, .int r36_), (5, .int (u71_ 0))] ∧ ((-999999999) ≤ z96.toInt ∧ z96.toInt ≤ 999999999) := ⟨hP, hD, hS, lv_sub hl [1, 2, 3, 4, 5, 0] rfl, (by first | with_reducible assumption | exact ⟨by omega, by omega⟩)⟩
              exact hJ102 H locs ls (fun i => ([z96] : List (Int32)).getD i 0) (fun _ => 0) (fun _ => (fun _ => 0)) (fun _ => (fun _ => 0)) hc
        · skip
          have b_ := zF_ne rfl zk_m1 c_
          refine lv_aload_n hx hb dX4_readInt_79 rfl (lv_at hl 1 rfl) ?_
          refine lv_iconst (v := 1) hx hb dX4_readInt_80 (by decide) ?_
          refine lv_aload_n hx hb dX4_readInt_81 rfl (lv_at hl 1 rfl) ?_
          refine va_get (D := (dC, dI)) (ci := 4) (v := .int (v0 5)) (C := RX4) (T := TX4) (N := 12) hx hb hG zuX4 hown hK hP 0 rfl rfl 5 (by decide) (hG _ zv413) (fun _ h9 => h9) rfl dX4_readInt_82 ?_
          have hPc := hP.sub (ws' := [(h0, .inr (4, mX4 h1 h4 h11 h18 v0))]) [0] rfl
          have hDc := hD.sub (ws' := [(h0, .inr (4, mX4 h1 h4 h11 h18 v0))]) [0] (by decide) rfl
          have hKc := hK.sub (tys' := []) [] rfl
          have hFc := va_free (wc := [(h0, .inr (4, mX4 h1 h4 h11 h18 v0))]) hD hS hA [0] rfl
          refine va_callv (va_runV (As := [.int 1, .int (v0 5)]) (rest := []) ⟨hx, hb, hml, hown, hG⟩ (sX4_fail_0 l dC dI adK adV h0 h1 h4 h11 h18 H.size v0 1 (v0 5) hv0) (cwV 2 hG (zgV zv1021 zv1023 zv13 zv137 zv1024) rfl rfl rfl (by decide +kernel) ⟨Nat.le_of_ble_eq_true rfl, Nat.le_of_ble_eq_true rfl⟩) ⟨zPc_blind, va_recv hKc hPc (ci := 4) (q0 := 0) rfl rfl, zPc_pre hPc hKc hDc hE hS hFc hZ⟩ rfl rfl hl.1 rfl (lv_room (Nat.le_of_ble_eq_true rfl)) dX4_readInt_85 ⟨Nat.le_of_ble_eq_true rfl, Nat.le_of_ble_eq_true rfl⟩) hS (fun q _ h => hFc q h) hFc (fun u85_ t H1 locs ht hvm hw hB hz1 hk1 hS => ?_)
          replace hw : (265 ≤ (u85_ 0).toInt ∧ (u85_ 0).toInt ≤ 265) := hw
          have b_ := hw
          obtain ⟨w85_, a85_, b85_, hP1, hK1, hD1⟩ := hB
          rw [ht] at hP1
          obtain ⟨hP, hD⟩ := va_join (wr := [(h1, .inr (9, mX9 h2 h3 v1)), (h2, zi k2 600 f2)]) (w1 := [(h0, .inr (4, mX4 h1 h4 h11 h18 (upd (upd v0 4 (u85_ 0)) 7 (u85_ 1))))]) hP hD [0] [1, 2] rfl rfl (by decide) (by decide) hk1 hFc hP1 hD1
          have hP : va_P (dC, dI) vwCl [(h0, .inr (4, mX4 h1 h4 h11 h18 (upd (upd v0 4 (u85_ 0)) 7 (u85_ 1)))), (h1, .inr (9, mX9 h2 h3 v1)), (h2, zi k2 600 f2)] H1 := hP.sub [2, 0, 1] rfl
          have hD : va_D A [(h0, .inr (4, mX4 h1 h4 h11 h18 (upd (upd v0 4 (u85_ 0)) 7 (u85_ 1)))), (h1, .inr (9, mX9 h2 h3 v1)), (h2, zi k2 600 f2)] := hD.sub [2, 0, 1] (by decide) rfl
          generalize H1 = H at hP hS ⊢
          clear hz1
          refine lv_iconst (v := 0) hx hb dX4_readInt_88 (by decide) ?_
          refine W.widen (k := 0) (n := 0) (by decide) (by decide) ?_
          have b_ : -2147483648 ≤ (v0 5).toInt ∧ (v0 5).toInt ≤ 2147483647 := ⟨zlo _, zhi _⟩
          have b_ : -2147483648 ≤ (v0 6).toInt ∧ (v0 6).toInt ≤ 2147483647 := ⟨zlo _, zhi _⟩
          have b_ : -2147483648 ≤ (u85_ 1).toInt ∧ (u85_ 1).toInt ≤ 2147483647 := ⟨zlo _, zhi _⟩
          have hpost : ((-999999999) ≤ (0 : Int32).toInt ∧ (0 : Int32).toInt ≤ 999999999) ∧ (0 ≤ (u85_ 0).toInt ∧ (u85_ 0).toInt ≤ 265) := ⟨(by first | with_reducible assumption | exact ⟨by omega, by omega⟩), (by first | with_reducible assumption | exact ⟨by omega, by omega⟩)⟩
          have hP9 : va_P (dC, dI) vwCl [(h0, .inr (4, mX4 h1 h4 h11 h18 (upd (upd (upd (upd v0 4 (u85_ 0)) 5 (v0 5)) 6 (v0 6)) 7 (u85_ 1)))), (h1, .inr (9, mX9 h2 h3 v1)), (h2, zi k2 600 f2)] H := hP
          have hD9 : va_D A [(h0, .inr (4, mX4 h1 h4 h11 h18 (upd (upd (upd (upd v0 4 (u85_ 0)) 5 (v0 5)) 6 (v0 6)) 7 (u85_ 1)))), (h1, .inr (9, mX9 h2 h3 v1)), (h2, zi k2 600 f2)] := hD
          exact W.iret (v := 0) hx hb hr (fun t ht hW => ⟨⟨0, (fun i => ([(u85_ 0), (v0 5), (v0 6), (u85_ 1)] : List (Int32)).getD i 0), rfl, hpost, (fun _ => 0), (fun _ => (fun _ => 0)), (fun _ => (fun _ => 0)), by rw [ht]; exact hP9, va_K.moved hW.alike hK, hD9⟩, hS.F ht⟩) hS.2.2 dX4_readInt_89
      · skip
        refine zcutW (fun H locs ls u55_ w55_ a55_ b55_ => va_P (dC, dI) vwCl [(h0, .inr (4, mX4 h1 h4 h11 h18 v0)), (h1, .inr (9, mX9 h2 h3 v1)), (h2, zi k2 600 f2)] H ∧ va_D A [(h0, .inr (4, mX4 h1 h4 h11 h18 v0)), (h1, .inr (9, mX9 h2 h3 v1)), (h2, zi k2 600 f2)] ∧ va_S A s.heap H locs ∧ lv_has ls 6 [(0, .ref h0), (1, .int x1), (2, .int (u14_ 0)), (3, .int (u30_ 0)), (4, .int r36_)]) (fun ls u55_ w55_ => F0 m 55 ls []) 0 0 ?_ (fun hJ55 => ?_)
        · skip
          intro H locs ls u55_ w55_ a55_ b55_ hc
          obtain ⟨hP, hD, hS, hl⟩ := hc
          refine lv_aload_n hx hb dX4_readInt_55 rfl (lv_at hl 0 rfl) ?_
          refine va_get (D := (dC, dI)) (ci := 4) (v := .ref h1) (C := RX4) (T := TX4) (N := 12) hx hb hG zuX4 hown hK hP 0 rfl rfl 0 (by decide) (hG _ zv408) (fun _ h9 => h9) rfl dX4_readInt_56 ?_
          refine lv_iload_n hx hb dX4_readInt_59 rfl (lv_at hl 3 rfl) ?_
          refine lv_iload hx hb dX4_readInt_60 (lv_at hl 4 rfl) ?_
          refine lv_bipush (v := 9) hx hb dX4_readInt_62 (by decide) ?_
          have hPc := hP.sub (ws' := [(h1, .inr (9, mX9 h2 h3 v1)), (h2, zi k2 600 f2)]) [1, 2] rfl
          have hDc := hD.sub (ws' := [(h1, .inr (9, mX9 h2 h3 v1)), (h2, zi k2 600 f2)]) [1, 2] (by decide) rfl
          have hKc := hK.sub (tys' := [(k2, .byte)]) [0] rfl
          have hFc := va_free (wc := [(h1, .inr (9, mX9 h2 h3 v1)), (h2, zi k2 600 f2)]) hD hS hA [1, 2] rfl
          refine va_calli (va_runV (As := [.int (u30_ 0), .int r36_, .int 9]) (rest := []) ⟨hx, hb, hml, hown, hG⟩ (sX9_digits_0 l dC dI adK adV h1 h2 h3 k2 H.size v1 f2 (u30_ 0) r36_ 9 hv1 ⟨show (0 : Int) ≤ (9 : Int32).toInt from by decide, show (9 : Int32).toInt ≤ (9 : Int) from by decide⟩) (cwV 3 hG (zgV zv1101 zv1102 zv1103 zv130 zv1104) rfl rfl rfl (by decide +kernel) ⟨Nat.le_of_ble_eq_true rfl, Nat.le_of_ble_eq_true rfl⟩) ⟨zPc_blind, va_recv hKc hPc (ci := 9) (q0 := 0) rfl rfl, zPc_pre hPc hKc hDc hE hS hFc hZ⟩ rfl rfl hl.1 rfl (lv_room (Nat.le_of_ble_eq_true rfl)) dX4_readInt_64 ⟨Nat.le_of_ble_eq_true rfl, Nat.le_of_ble_eq_true rfl⟩) hS (fun q _ h => hFc q h) hFc (fun r64_ u64_ t H1 locs ht hvm hw hB hz1 hk1 hS => ?_)
          replace hw : ((-1) ≤ r64_.toInt ∧ r64_.toInt ≤ 999999999) ∧ ((9 : Int32).toInt ≤ 3 → r64_.toInt ≤ 999) := hw
          obtain ⟨b_, hX64_0⟩ := hw
          obtain ⟨w64_, a64_, b64_, hP1, hK1, hD1⟩ := hB
          rw [ht] at hP1
          obtain ⟨hP, hD⟩ := va_join (wr := [(h0, .inr (4, mX4 h1 h4 h11 h18 v0))]) (w1 := [(h1, .inr (9, mX9 h2 h3 v1)), (h2, zi k2 600 f2)]) hP hD [1, 2] [0] rfl rfl (by decide) (by decide) hk1 hFc hP1 hD1
          have hP : va_P (dC, dI) vwCl [(h0, .inr (4, mX4 h1 h4 h11 h18 v0)), (h1, .inr (9, mX9 h2 h3 v1)), (h2, zi k2 600 f2)] H1 := hP.sub [0, 1, 2] rfl
          have hD : va_D A [(h0, .inr (4, mX4 h1 h4 h11 h18 v0)), (h1, .inr (9, mX9 h2 h3 v1)), (h2, zi k2 600 f2)] := hD.sub [0, 1, 2] (by decide) rfl
          generalize H1 = H at hP hS ⊢
          clear hz1
          refine lv_goto (tgt := 71) hx hb dX4_readInt_67 (by decide) ?_
          have hc : va_P (dC, dI) vwCl [(h0, .inr (4, mX4 h1 h4 h11 h18 v0)), (h1, .inr (9, mX9 h2 h3 v1)), (h2, zi k2 600 f2)] H ∧ va_D A [(h0, .inr (4, mX4 h1 h4 h11 h18 v0)), (h1, .inr (9, mX9 h2 h3 v1)), (h2, zi k2 600 f2)] ∧ va_S A s.heap H locs ∧ lv_has ls 6 [(0, .ref h0), (1, .int x1), (2, .int (u14_ 0)), (3, .int (u30_ 0)), (4, .int r36_)] ∧ ((-1) ≤ r64_.toInt ∧ r64_.toInt ≤ 999999999) := ⟨hP, hD, hS, lv_sub hl [0, 1, 2, 3, 4] rfl, (by first | with_reducible assumption | exact ⟨by omega, by omega⟩)⟩
          exact hJ71 H locs ls (fun i => ([r64_] : List (Int32)).getD i 0) (fun _ => 0) (fun _ => (fun _ => 0)) (fun _ => (fun _ => 0)) hc
        · skip
          refine lv_if_ne (tgt := 55) hx hb dX4_readInt_42 (by decide) (fun c_ => ?_) (fun c_ => ?_)
          · skip
            have b_ := zT_ne rfl zk_0 c_
            have hc : va_P (dC, dI) vwCl [(h0, .inr (4, mX4 h1 h4 h11 h18 v0)), (h1, .inr (9, mX9 h2 h3 v1)), (h2, zi k2 600 f2)] H ∧ va_D A [(h0, .inr (4, mX4 h1 h4 h11 h18 v0)), (h1, .inr (9, mX9 h2 h3 v1)), (h2, zi k2 600 f2)] ∧ va_S A s.heap H locs ∧ lv_has ls 6 [(0, .ref h0), (1, .int x1), (2, .int (u14_ 0)), (3, .int (u30_ 0)), (4, .int r36_)] := ⟨hP, hD, hS, lv_sub hl [2, 3, 4, 1, 0] rfl⟩
            exact hJ55 H locs ls (fun _ => 0) (fun _ => 0) (fun _ => (fun _ => 0)) (fun _ => (fun _ => 0)) hc
          · skip
            have b_ := zF_ne rfl zk_0 c_
            refine lv_aload_n hx hb dX4_readInt_45 rfl (lv_at hl 2 rfl) ?_
            refine va_get (D := (dC, dI)) (ci := 4) (v := .int (v0 4)) (C := RX4) (T := TX4) (N := 12) hx hb hG zuX4 hown hK hP 0 rfl rfl 4 (by decide) (hG _ zv412) (fun _ h9 => h9) rfl dX4_readInt_46 ?_
            refine lv_sipush (v := 257) hx hb dX4_readInt_49 (by decide) ?_
            have b_ : -2147483648 ≤ (v0 4).toInt ∧ (v0 4).toInt ≤ 2147483647 := ⟨zlo _, zhi _⟩
            refine lv_icmp_ne (tgt := 70) hx hb dX4_readInt_52 (by decide) (fun c_ => ?_) (fun c_ => ?_)
            · skip
              have b_ := zT_ne rfl zk_257 c_
              refine lv_iconst (v := (-1)) hx hb dX4_readInt_70 (by decide) ?_
              have hc : va_P (dC, dI) vwCl [(h0, .inr (4, mX4 h1 h4 h11 h18 v0)), (h1, .inr (9, mX9 h2 h3 v1)), (h2, zi k2 600 f2)] H ∧ va_D A [(h0, .inr (4, mX4 h1 h4 h11 h18 v0)), (h1, .inr (9, mX9 h2 h3 v1)), (h2, zi k2 600 f2)] ∧ va_S A s.heap H locs ∧ lv_has ls 6 [(0, .ref h0), (1, .int x1), (2, .int (u14_ 0)), (3, .int (u30_ 0)), (4, .int r36_)] ∧ ((-1) ≤ ((-1) : Int32).toInt ∧ ((-1) : Int32).toInt ≤ 999999999) := ⟨hP, hD, hS, lv_sub hl [2, 3, 4, 1, 0] rfl, (by first | with_reducible assumption | exact ⟨by omega, by omega⟩)⟩
              exact hJ71 H locs ls (fun i => ([(-1)] : List (Int32)).getD i 0) (fun _ => 0) (fun _ => (fun _ => 0)) (fun _ => (fun _ => 0)) hc
            · skip
              have b_ := zF_ne rfl zk_257 c_
              have hc : va_P (dC, dI) vwCl [(h0, .inr (4, mX4 h1 h4 h11 h18 v0)), (h1, .inr (9, mX9 h2 h3 v1)), (h2, zi k2 600 f2)] H ∧ va_D A [(h0, .inr (4, mX4 h1 h4 h11 h18 v0)), (h1, .inr (9, mX9 h2 h3 v1)), (h2, zi k2 600 f2)] ∧ va_S A s.heap H locs ∧ lv_has ls 6 [(0, .ref h0), (1, .int x1), (2, .int (u14_ 0)), (3, .int (u30_ 0)), (4, .int r36_)] := ⟨hP, hD, hS, lv_sub hl [2, 3, 4, 1, 0] rfl⟩
              exact hJ55 H locs ls (fun _ => 0) (fun _ => 0) (fun _ => (fun _ => 0)) (fun _ => (fun _ => 0)) hc
    · skip
      refine lv_if_eq (tgt := 26) hx hb dX4_readInt_16 (by decide) (fun c_ => ?_) (fun c_ => ?_)
      · skip
        have b_ := zT_eq rfl zk_0 c_
        refine lv_aload_n hx hb dX4_readInt_26 rfl (lv_at hl 1 rfl) ?_
        refine va_get (D := (dC, dI)) (ci := 4) (v := .int (v0 5)) (C := RX4) (T := TX4) (N := 12) hx hb hG zuX4 hown hK hP 0 rfl rfl 5 (by decide) (hG _ zv413) (fun _ h9 => h9) rfl dX4_readInt_27 ?_
        have hc : va_P (dC, dI) vwCl [(h0, .inr (4, mX4 h1 h4 h11 h18 v0)), (h1, .inr (9, mX9 h2 h3 v1)), (h2, zi k2 600 f2)] H ∧ va_D A [(h0, .inr (4, mX4 h1 h4 h11 h18 v0)), (h1, .inr (9, mX9 h2 h3 v1)), (h2, zi k2 600 f2)] ∧ va_S A s.heap H locs ∧ lv_has ls 6 [(0, .ref h0), (1, .int x1), (2, .int (u14_ 0))] ∧ (0 ≤ (u14_ 0).toInt ∧ (u14_ 0).toInt ≤ 1) := ⟨hP, hD, hS, lv_sub hl [1, 2, 0] rfl, (by first | with_reducible assumption | exact ⟨by omega, by omega⟩)⟩
        exact hJ30 H locs ls (fun i => ([(v0 5)] : List (Int32)).getD i 0) (fun _ => 0) (fun _ => (fun _ => 0)) (fun _ => (fun _ => 0)) hc
      · skip
        have b_ := zF_eq rfl zk_0 c_
        refine lv_aload_n hx hb dX4_readInt_19 rfl (lv_at hl 1 rfl) ?_
        refine va_get (D := (dC, dI)) (ci := 4) (v := .int (v0 6)) (C := RX4) (T := TX4) (N := 12) hx hb hG zuX4 hown hK hP 0 rfl rfl 6 (by decide) (hG _ zv414) (fun _ h9 => h9) rfl dX4_readInt_20 ?_
        refine lv_goto (tgt := 30) hx hb dX4_readInt_23 (by decide) ?_
        have hc : va_P (dC, dI) vwCl [(h0, .inr (4, mX4 h1 h4 h11 h18 v0)), (h1, .inr (9, mX9 h2 h3 v1)), (h2, zi k2 600 f2)] H ∧ va_D A [(h0, .inr (4, mX4 h1 h4 h11 h18 v0)), (h1, .inr (9, mX9 h2 h3 v1)), (h2, zi k2 600 f2)] ∧ va_S A s.heap H locs ∧ lv_has ls 6 [(0, .ref h0), (1, .int x1), (2, .int (u14_ 0))] ∧ (0 ≤ (u14_ 0).toInt ∧ (u14_ 0).toInt ≤ 1) := ⟨hP, hD, hS, lv_sub hl [1, 2, 0] rfl, (by first | with_reducible assumption | exact ⟨by omega, by omega⟩)⟩
        exact hJ30 H locs ls (fun i => ([(v0 6)] : List (Int32)).getD i 0) (fun _ => 0) (fun _ => (fun _ => 0)) (fun _ => (fun _ => 0)) hc
  · skip
    have b_ : -2147483648 ≤ (v0 4).toInt ∧ (v0 4).toInt ≤ 2147483647 := ⟨zlo _, zhi _⟩
    refine lv_icmp_ne (tgt := 13) hx hb dX4_readInt_6 (by decide) (fun c_ => ?_) (fun c_ => ?_)
    · skip
      have b_ := zT_ne rfl zk_45 c_
      refine lv_iconst (v := 0) hx hb dX4_readInt_13 (by decide) ?_
      have hc : va_P (dC, dI) vwCl [(h0, .inr (4, mX4 h1 h4 h11 h18 v0)), (h1, .inr (9, mX9 h2 h3 v1)), (h2, zi k2 600 f2)] s.heap ∧ va_D A [(h0, .inr (4, mX4 h1 h4 h11 h18 v0)), (h1, .inr (9, mX9 h2 h3 v1)), (h2, zi k2 600 f2)] ∧ va_S A s.heap s.heap [] ∧ lv_has ls 6 [(0, .ref h0), (1, .int x1)] ∧ (0 ≤ (0 : Int32).toInt ∧ (0 : Int32).toInt ≤ 1) := ⟨hP, hD, hS, lv_sub hl [0, 1] rfl, (by first | with_reducible assumption | exact ⟨by omega, by omega⟩)⟩
      exact hJ14 s.heap [] ls (fun i => ([0] : List (Int32)).getD i 0) (fun _ => 0) (fun _ => (fun _ => 0)) (fun _ => (fun _ => 0)) hc
    · skip
      have b_ := zF_ne rfl zk_45 c_
      refine lv_iconst (v := 1) hx hb dX4_readInt_9 (by decide) ?_
      refine lv_goto (tgt := 14) hx hb dX4_readInt_10 (by decide) ?_
      have hc : va_P (dC, dI) vwCl [(h0, .inr (4, mX4 h1 h4 h11 h18 v0)), (h1, .inr (9, mX9 h2 h3 v1)), (h2, zi k2 600 f2)] s.heap ∧ va_D A [(h0, .inr (4, mX4 h1 h4 h11 h18 v0)), (h1, .inr (9, mX9 h2 h3 v1)), (h2, zi k2 600 f2)] ∧ va_S A s.heap s.heap [] ∧ lv_has ls 6 [(0, .ref h0), (1, .int x1)] ∧ (0 ≤ (1 : Int32).toInt ∧ (1 : Int32).toInt ≤ 1) := ⟨hP, hD, hS, lv_sub hl [0, 1] rfl, (by first | with_reducible assumption | exact ⟨by omega, by omega⟩)⟩
      exact hJ14 s.heap [] ls (fun i => ([1] : List (Int32)).getD i 0) (fun _ => 0) (fun _ => (fun _ => 0)) (fun _ => (fun _ => 0)) hc
set_option maxHeartbeats 8000000 in
set_option maxRecDepth 100000 in
theorem sX4_take_0 (l : Launch) (dC : Nat → ClassId) (dI : Nat → Nat → Nat) (adK adV : Nat → Nat) (h0 : Nat) (h1 : Nat) (h2 : Nat) (h4 : Nat) (h11 : Nat) (h18 : Nat) (h3 : Nat) (k2 : ClassId) (sz : Nat) (v0 : Nat → Int32) (v1 : Nat → Int32) (f2 : Nat → Int32) (x1 : Int32) (hv0 : zR rg_Parser v0) (hv1 : zR rg_Tape v1) : Met l yX4_take (zw yX4_take cX4_take 2 none) { frames := 7, cells := 0, slots := 0, locals := 152 } (zPc dC dI adK adV [.ref h0, .int x1] sz [(h0, .inr (4, mX4 h1 h4 h11 h18 v0)), (h1, .inr (9, mX9 h2 h3 v1)), (h2, zi k2 600 f2)] [(k2, .byte)]) (va_Qv (fun (u : Nat → Int32) => (0 ≤ (u 0).toInt ∧ (u 0).toInt ≤ 265)) (fun (u : Nat → Int32) (t : State) => ∃ (ww : Nat → Int64) (aa : Nat → Nat → Int32) (bb : Nat → Nat → Int64), va_P (dC, dI) vwCl [(h0, .inr (4, mX4 h1 h4 h11 h18 (upd (upd (upd (upd v0 4 (u 0)) 5 (u 1)) 6 (u 2)) 7 (u 3)))), (h1, .inr (9, mX9 h2 h3 v1)), (h2, zi k2 600 f2)] t.heap ∧ va_K (dC, dI) vwCl [(k2, .byte)] t ∧ va_D (va_A [(h0, .inr (4, mX4 h1 h4 h11 h18 v0)), (h1, .inr (9, mX9 h2 h3 v1)), (h2, zi k2 600 f2)] sz) [(h0, .inr (4, mX4 h1 h4 h11 h18 (upd (upd (upd (upd v0 4 (u 0)) 5 (u 1)) 6 (u 2)) 7 (u 3)))), (h1, .inr (9, mX9 h2 h3 v1)), (h2, zi k2 600 f2)]) (va_A [(h0, .inr (4, mX4 h1 h4 h11 h18 v0)), (h1, .inr (9, mX9 h2 h3 v1)), (h2, zi k2 600 f2)] sz)) 0 0 (va_A [(h0, .inr (4, mX4 h1 h4 h11 h18 v0)), (h1, .inr (9, mX9 h2 h3 v1)), (h2, zi k2 600 f2)] sz) := by
  refine Met.ofW (cc := cX4_take) (maxL := 2) (ret := none) (by decide) rfl ?_
  intro p e s m args below meth c s₁ B hml hv
  obtain ⟨rfl, hsz, hP, hK, hD0, hE, hZ⟩ := hv
  have hx := B.exec
  have hb := B.bytes
  have hr := B.returns
  have hG : ∀ w ∈ zG, w.before _ s = true := fun w h => atoms_spec (ws := (zw yX4_take cX4_take 2 none)) B.pre w (List.mem_cons_of_mem _ h)
  have hown : s.vm.findClass RX4 = some m.cls := findClass_of_methodNamed B.named
  have hlocks := B.notSynchronized

  subst hsz
  have hD := hD0.self (sz := s.heap.size)
  generalize hAe : va_A [(h0, .inr (4, mX4 h1 h4 h11 h18 v0)), (h1, .inr (9, mX9 h2 h3 v1)), (h2, zi k2 600 f2)] s.heap.size = A at hD hZ ⊢
  have hA : ∀ q : Nat, s.heap.size ≤ q → A q := fun q h => by rw [← hAe]; exact Or.inr h
  have hS : va_S A s.heap s.heap [] := va_S.rf
  have hl := lv_entry ([.ref h0, .int x1]) (n := 2) (Nat.le_of_ble_eq_true rfl)
  rw [lg_entry_eq]
  generalize (lg_sl ([.ref h0, .int x1]) ++ List.replicate (2 - (lg_sl ([.ref h0, .int x1])).length) Slot.unset).toArray = ls at hl ⊢
  have hl : lv_has ls 2 [(0, .ref h0), (1, .int x1)] := hl
  refine lv_aload_n hx hb dX4_take_0 rfl (lv_at hl 0 rfl) ?_
  refine va_get (D := (dC, dI)) (ci := 4) (v := .int (v0 4)) (C := RX4) (T := TX4) (N := 12) hx hb hG zuX4 hown hK hP 0 rfl rfl 4 (by decide) (hG _ zv412) (fun _ h9 => h9) rfl dX4_take_1 ?_
  refine lv_iload_n hx hb dX4_take_4 rfl (lv_at hl 1 rfl) ?_
  refine zcutW (fun H locs ls u17_ w17_ a17_ b17_ => va_P (dC, dI) vwCl [(h0, .inr (4, mX4 h1 h4 h11 h18 (upd (upd v0 4 (u17_ 0)) 7 (u17_ 1)))), (h1, .inr (9, mX9 h2 h3 v1)), (h2, zi k2 600 f2)] H ∧ va_D A [(h0, .inr (4, mX4 h1 h4 h11 h18 (upd (upd v0 4 (u17_ 0)) 7 (u17_ 1)))), (h1, .inr (9, mX9 h2 h3 v1)), (h2, zi k2 600 f2)] ∧ va_S A s.heap H locs ∧ lv_has ls 2 [(0, .ref h0), (1, .int x1)]) (fun ls u17_ w17_ => F0 m 17 ls []) 0 0 ?_ (fun hJ17 => ?_)
  · skip
    intro H locs ls u17_ w17_ a17_ b17_ hc
    obtain ⟨hP, hD, hS, hl⟩ := hc
    refine lv_aload_n hx hb dX4_take_17 rfl (lv_at hl 0 rfl) ?_
    have b_ : -2147483648 ≤ (u17_ 0).toInt ∧ (u17_ 0).toInt ≤ 2147483647 := ⟨zlo _, zhi _⟩
    have b_ : -2147483648 ≤ (u17_ 1).toInt ∧ (u17_ 1).toInt ≤ 2147483647 := ⟨zlo _, zhi _⟩
    have hPc := hP.sub (ws' := [(h0, .inr (4, mX4 h1 h4 h11 h18 (upd (upd v0 4 (u17_ 0)) 7 (u17_ 1)))), (h1, .inr (9, mX9 h2 h3 v1)), (h2, zi k2 600 f2)]) [0, 1, 2] rfl
    have hDc := hD.sub (ws' := [(h0, .inr (4, mX4 h1 h4 h11 h18 (upd (upd v0 4 (u17_ 0)) 7 (u17_ 1)))), (h1, .inr (9, mX9 h2 h3 v1)), (h2, zi k2 600 f2)]) [0, 1, 2] (by decide) rfl
    have hKc := hK.sub (tys' := [(k2, .byte)]) [0] rfl
    have hFc := va_free (wc := [(h0, .inr (4, mX4 h1 h4 h11 h18 (upd (upd v0 4 (u17_ 0)) 7 (u17_ 1)))), (h1, .inr (9, mX9 h2 h3 v1)), (h2, zi k2 600 f2)]) hD hS hA [0, 1, 2] rfl
    refine va_callv (va_runV (As := []) (rest := []) ⟨hx, hb, hml, hown, hG⟩ (sX4_next_0 l dC dI adK adV h0 h1 h2 h4 h11 h18 h3 k2 H.size (upd (upd v0 4 (u17_ 0)) 7 (u17_ 1)) v1 f2 (zR_updF (zR_updF hv0 4 rfl) 7 rfl) hv1) (cwV 0 hG (zgV zv1013 zv1015 zv11 zv137 zv1016) rfl rfl rfl (by decide +kernel) ⟨Nat.le_of_ble_eq_true rfl, Nat.le_of_ble_eq_true rfl⟩) ⟨zPc_blind, va_recv hKc hPc (ci := 4) (q0 := 0) rfl rfl, zPc_pre hPc hKc hDc hE hS hFc hZ⟩ rfl rfl hl.1 rfl (lv_room (Nat.le_of_ble_eq_true rfl)) dX4_take_18 ⟨Nat.le_of_ble_eq_true rfl, Nat.le_of_ble_eq_true rfl⟩) hS (fun q _ h => hFc q h) hFc (fun u18_ t H1 locs ht hvm hw hB hz1 hk1 hS => ?_)
    replace hw : (0 ≤ (u18_ 0).toInt ∧ (u18_ 0).toInt ≤ 265) := hw
    have b_ := hw
    obtain ⟨w18_, a18_, b18_, hP1, hK1, hD1⟩ := hB
    rw [ht] at hP1
    obtain ⟨hP, hD⟩ := va_join (wr := []) (w1 := [(h0, .inr (4, mX4 h1 h4 h11 h18 (upd (upd (upd (upd v0 4 (u18_ 0)) 5 (u18_ 1)) 6 (u18_ 2)) 7 (u18_ 3)))), (h1, .inr (9, mX9 h2 h3 v1)), (h2, zi k2 600 f2)]) hP hD [0, 1, 2] [] rfl rfl (by decide) (by decide) hk1 hFc hP1 hD1
    have hP : va_P (dC, dI) vwCl [(h0, .inr (4, mX4 h1 h4 h11 h18 (upd (upd (upd (upd v0 4 (u18_ 0)) 5 (u18_ 1)) 6 (u18_ 2)) 7 (u18_ 3)))), (h1, .inr (9, mX9 h2 h3 v1)), (h2, zi k2 600 f2)] H1 := hP.sub [0, 1, 2] rfl
    have hD : va_D A [(h0, .inr (4, mX4 h1 h4 h11 h18 (upd (upd (upd (upd v0 4 (u18_ 0)) 5 (u18_ 1)) 6 (u18_ 2)) 7 (u18_ 3)))), (h1, .inr (9, mX9 h2 h3 v1)), (h2, zi k2 600 f2)] := hD.sub [0, 1, 2] (by decide) rfl
    generalize H1 = H at hP hS ⊢
    clear hz1
    refine W.widen (k := 0) (n := 0) (by decide) (by decide) ?_
    have b_ : -2147483648 ≤ (u18_ 1).toInt ∧ (u18_ 1).toInt ≤ 2147483647 := ⟨zlo _, zhi _⟩
    have b_ : -2147483648 ≤ (u18_ 2).toInt ∧ (u18_ 2).toInt ≤ 2147483647 := ⟨zlo _, zhi _⟩
    have b_ : -2147483648 ≤ (u18_ 3).toInt ∧ (u18_ 3).toInt ≤ 2147483647 := ⟨zlo _, zhi _⟩
    have hpost : (0 ≤ (u18_ 0).toInt ∧ (u18_ 0).toInt ≤ 265) := (by first | with_reducible assumption | exact ⟨by omega, by omega⟩)
    have hP9 : va_P (dC, dI) vwCl [(h0, .inr (4, mX4 h1 h4 h11 h18 (upd (upd (upd (upd v0 4 (u18_ 0)) 5 (u18_ 1)) 6 (u18_ 2)) 7 (u18_ 3)))), (h1, .inr (9, mX9 h2 h3 v1)), (h2, zi k2 600 f2)] H := hP
    have hD9 : va_D A [(h0, .inr (4, mX4 h1 h4 h11 h18 (upd (upd (upd (upd v0 4 (u18_ 0)) 5 (u18_ 1)) 6 (u18_ 2)) 7 (u18_ 3)))), (h1, .inr (9, mX9 h2 h3 v1)), (h2, zi k2 600 f2)] := hD
    exact W.vret hx hb hr (fun t ht hW => ⟨⟨(fun i => ([(u18_ 0), (u18_ 1), (u18_ 2), (u18_ 3)] : List (Int32)).getD i 0), rfl, hpost, (fun _ => 0), (fun _ => (fun _ => 0)), (fun _ => (fun _ => 0)), by rw [ht]; exact hP9, va_K.moved hW.alike hK, hD9⟩, hS.F ht⟩) hS.2.2 dX4_take_21
  · skip
    have b_ : -2147483648 ≤ (v0 4).toInt ∧ (v0 4).toInt ≤ 2147483647 := ⟨zlo _, zhi _⟩
    have b_ : -2147483648 ≤ x1.toInt ∧ x1.toInt ≤ 2147483647 := ⟨zlo _, zhi _⟩
    refine lv_icmp_eq (tgt := 17) hx hb dX4_take_5 (by decide) (fun c_ => ?_) (fun c_ => ?_)
    · skip
      have b_ := zT_eq rfl rfl c_
      have hc : va_P (dC, dI) vwCl [(h0, .inr (4, mX4 h1 h4 h11 h18 (upd (upd v0 4 (v0 4)) 7 (v0 7)))), (h1, .inr (9, mX9 h2 h3 v1)), (h2, zi k2 600 f2)] s.heap ∧ va_D A [(h0, .inr (4, mX4 h1 h4 h11 h18 (upd (upd v0 4 (v0 4)) 7 (v0 7)))), (h1, .inr (9, mX9 h2 h3 v1)), (h2, zi k2 600 f2)] ∧ va_S A s.heap s.heap [] ∧ lv_has ls 2 [(0, .ref h0), (1, .int x1)] := ⟨hP, hD, hS, lv_sub hl [0, 1] rfl⟩
      exact hJ17 s.heap [] ls (fun i => ([(v0 4), (v0 7)] : List (Int32)).getD i 0) (fun _ => 0) (fun _ => (fun _ => 0)) (fun _ => (fun _ => 0)) hc
    · skip
      have b_ := zF_eq rfl rfl c_
      refine lv_aload_n hx hb dX4_take_8 rfl (lv_at hl 0 rfl) ?_
      refine lv_iconst (v := 1) hx hb dX4_take_9 (by decide) ?_
      refine lv_aload_n hx hb dX4_take_10 rfl (lv_at hl 0 rfl) ?_
      refine va_get (D := (dC, dI)) (ci := 4) (v := .int (v0 5)) (C := RX4) (T := TX4) (N := 12) hx hb hG zuX4 hown hK hP 0 rfl rfl 5 (by decide) (hG _ zv413) (fun _ h9 => h9) rfl dX4_take_11 ?_
      have hPc := hP.sub (ws' := [(h0, .inr (4, mX4 h1 h4 h11 h18 v0))]) [0] rfl
      have hDc := hD.sub (ws' := [(h0, .inr (4, mX4 h1 h4 h11 h18 v0))]) [0] (by decide) rfl
      have hKc := hK.sub (tys' := []) [] rfl
      have hFc := va_free (wc := [(h0, .inr (4, mX4 h1 h4 h11 h18 v0))]) hD hS hA [0] rfl
      refine va_callv (va_runV (As := [.int 1, .int (v0 5)]) (rest := []) ⟨hx, hb, hml, hown, hG⟩ (sX4_fail_0 l dC dI adK adV h0 h1 h4 h11 h18 s.heap.size v0 1 (v0 5) hv0) (cwV 2 hG (zgV zv1021 zv1023 zv13 zv137 zv1024) rfl rfl rfl (by decide +kernel) ⟨Nat.le_of_ble_eq_true rfl, Nat.le_of_ble_eq_true rfl⟩) ⟨zPc_blind, va_recv hKc hPc (ci := 4) (q0 := 0) rfl rfl, zPc_pre hPc hKc hDc hE hS hFc hZ⟩ rfl rfl hl.1 rfl (lv_room (Nat.le_of_ble_eq_true rfl)) dX4_take_14 ⟨Nat.le_of_ble_eq_true rfl, Nat.le_of_ble_eq_true rfl⟩) hS (fun q _ h => hFc q h) hFc (fun u14_ t H1 locs ht hvm hw hB hz1 hk1 hS => ?_)
      replace hw : (265 ≤ (u14_ 0).toInt ∧ (u14_ 0).toInt ≤ 265) := hw
      have b_ := hw
      obtain ⟨w14_, a14_, b14_, hP1, hK1, hD1⟩ := hB
      rw [ht] at hP1
      obtain ⟨hP, hD⟩ := va_join (wr := [(h1, .inr (9, mX9 h2 h3 v1)), (h2, zi k2 600 f2)]) (w1 := [(h0, .inr (4, mX4 h1 h4 h11 h18 (upd (upd v0 4 (u14_ 0)) 7 (u14_ 1))))]) hP hD [0] [1, 2] rfl rfl (by decide) (by decide) hk1 hFc hP1 hD1
      have hP : va_P (dC, dI) vwCl [(h0, .inr (4, mX4 h1 h4 h11 h18 (upd (upd v0 4 (u14_ 0)) 7 (u14_ 1)))), (h1, .inr (9, mX9 h2 h3 v1)), (h2, zi k2 600 f2)] H1 := hP.sub [2, 0, 1] rfl
      have hD : va_D A [(h0, .inr (4, mX4 h1 h4 h11 h18 (upd (upd v0 4 (u14_ 0)) 7 (u14_ 1)))), (h1, .inr (9, mX9 h2 h3 v1)), (h2, zi k2 600 f2)] := hD.sub [2, 0, 1] (by decide) rfl
      generalize H1 = H at hP hS ⊢
      clear hz1
      have hc : va_P (dC, dI) vwCl [(h0, .inr (4, mX4 h1 h4 h11 h18 (upd (upd v0 4 (u14_ 0)) 7 (u14_ 1)))), (h1, .inr (9, mX9 h2 h3 v1)), (h2, zi k2 600 f2)] H ∧ va_D A [(h0, .inr (4, mX4 h1 h4 h11 h18 (upd (upd v0 4 (u14_ 0)) 7 (u14_ 1)))), (h1, .inr (9, mX9 h2 h3 v1)), (h2, zi k2 600 f2)] ∧ va_S A s.heap H locs ∧ lv_has ls 2 [(0, .ref h0), (1, .int x1)] := ⟨hP, hD, hS, lv_sub hl [0, 1] rfl⟩
      exact hJ17 H locs ls (fun i => ([(u14_ 0), (u14_ 1)] : List (Int32)).getD i 0) (fun _ => 0) (fun _ => (fun _ => 0)) (fun _ => (fun _ => 0)) hc
set_option maxHeartbeats 8000000 in
set_option maxRecDepth 100000 in
theorem sX4_readMarks_0 (l : Launch) (dC : Nat → ClassId) (dI : Nat → Nat → Nat) (adK adV : Nat → Nat) (h0 : Nat) (h18 : Nat) (h1 : Nat) (h2 : Nat) (h19 : Nat) (h20 : Nat) (h21 : Nat) (h22 : Nat) (h23 : Nat) (h25 : Nat) (h4 : Nat) (h11 : Nat) (h24 : Nat) (h3 : Nat) (k2 : ClassId) (k19 : ClassId) (k20 : ClassId) (k21 : ClassId) (k22 : ClassId) (k23 : ClassId) (k25 : ClassId) (sz : Nat) (v0 : Nat → Int32) (v18 : Nat → Int32) (v1 : Nat → Int32) (f2 : Nat → Int32) (f19 : Nat → Int32) (f20 : Nat → Int32) (f21 : Nat → Int32) (f22 : Nat → Int32) (f23 : Nat → Int32) (f25 : Nat → Int32) (hv0 : zR rg_Parser v0) (hv18 : zR rg_Query v18) (hv1 : zR rg_Tape v1) (hf25 : zA 0 12000 f25) : Met l yX4_readMarks (zw yX4_readMarks cX4_readMarks 3 none) { frames := 8, cells := 0, slots := 0, locals := 177 } (zPc dC dI adK adV [.ref h0] sz [(h0, .inr (4, mX4 h1 h4 h11 h18 v0)), (h18, .inr (7, mX7 h19 h20 h21 h22 h23 h24 h25 v18)), (h1, .inr (9, mX9 h2 h3 v1)), (h2, zi k2 600 f2), (h19, zi k19 40 f19), (h20, zi k20 40 f20), (h21, zi k21 40 f21), (h22, zi k22 40 f22), (h23, zi k23 40 f23), (h25, zi k25 270 f25)] [(k2, .byte), (k19, .int), (k20, .int), (k21, .int), (k22, .int), (k23, .boolean), (k25, .int)]) (va_Qv (fun (u : Nat → Int32) => (0 ≤ (u 0).toInt ∧ (u 0).toInt ≤ 265) ∧ (0 ≤ (u 4).toInt ∧ (u 4).toInt ≤ 0) ∧ (1 ≤ (u 5).toInt ∧ (u 5).toInt ≤ 40) ∧ (0 ≤ (u 6).toInt ∧ (u 6).toInt ≤ 270)) (fun (u : Nat → Int32) (t : State) => ∃ (ww : Nat → Int64) (aa : Nat → Nat → Int32) (bb : Nat → Nat → Int64), zA 0 12000 (aa 5) ∧ va_P (dC, dI) vwCl [(h0, .inr (4, mX4 h1 h4 h11 h18 (upd (upd (upd (upd (upd v0 4 (u 0)) 5 (u 1)) 6 (u 2)) 7 (u 3)) 9 (u 4)))), (h18, .inr (7, mX7 h19 h20 h21 h22 h23 h24 h25 (upd (upd (upd (upd v18 7 (u 5)) 9 (u 6)) 10 (u 7)) 11 (u 8)))), (h1, .inr (9, mX9 h2 h3 v1)), (h2, zi k2 600 f2), (h19, zi k19 40 (aa 0)), (h20, zi k20 40 (aa 1)), (h21, zi k21 40 (aa 2)), (h22, zi k22 40 (aa 3)), (h23, zi k23 40 (aa 4)), (h25, zi k25 270 (aa 5))] t.heap ∧ va_K (dC, dI) vwCl [(k2, .byte), (k19, .int), (k20, .int), (k21, .int), (k22, .int), (k23, .boolean), (k25, .int)] t ∧ va_D (va_A [(h0, .inr (4, mX4 h1 h4 h11 h18 v0)), (h18, .inr (7, mX7 h19 h20 h21 h22 h23 h24 h25 v18)), (h1, .inr (9, mX9 h2 h3 v1)), (h2, zi k2 600 f2), (h19, zi k19 40 f19), (h20, zi k20 40 f20), (h21, zi k21 40 f21), (h22, zi k22 40 f22), (h23, zi k23 40 f23), (h25, zi k25 270 f25)] sz) [(h0, .inr (4, mX4 h1 h4 h11 h18 (upd (upd (upd (upd (upd v0 4 (u 0)) 5 (u 1)) 6 (u 2)) 7 (u 3)) 9 (u 4)))), (h18, .inr (7, mX7 h19 h20 h21 h22 h23 h24 h25 (upd (upd (upd (upd v18 7 (u 5)) 9 (u 6)) 10 (u 7)) 11 (u 8)))), (h1, .inr (9, mX9 h2 h3 v1)), (h2, zi k2 600 f2), (h19, zi k19 40 (aa 0)), (h20, zi k20 40 (aa 1)), (h21, zi k21 40 (aa 2)), (h22, zi k22 40 (aa 3)), (h23, zi k23 40 (aa 4)), (h25, zi k25 270 (aa 5))]) (va_A [(h0, .inr (4, mX4 h1 h4 h11 h18 v0)), (h18, .inr (7, mX7 h19 h20 h21 h22 h23 h24 h25 v18)), (h1, .inr (9, mX9 h2 h3 v1)), (h2, zi k2 600 f2), (h19, zi k19 40 f19), (h20, zi k20 40 f20), (h21, zi k21 40 f21), (h22, zi k22 40 f22), (h23, zi k23 40 f23), (h25, zi k25 270 f25)] sz)) 0 0 (va_A [(h0, .inr (4, mX4 h1 h4 h11 h18 v0)), (h18, .inr (7, mX7 h19 h20 h21 h22 h23 h24 h25 v18)), (h1, .inr (9, mX9 h2 h3 v1)), (h2, zi k2 600 f2), (h19, zi k19 40 f19), (h20, zi k20 40 f20), (h21, zi k21 40 f21), (h22, zi k22 40 f22), (h23, zi k23 40 f23), (h25, zi k25 270 f25)] sz) := by
  refine Met.ofW (cc := cX4_readMarks) (maxL := 3) (ret := none) (by decide) rfl ?_
  intro p e s m args below meth c s₁ B hml hv
  obtain ⟨rfl, hsz, hP, hK, hD0, hE, hZ⟩ := hv
  have hx := B.exec
  have hb := B.bytes
  have hr := B.returns
  have hG : ∀ w ∈ zG, w.before _ s = true := fun w h => atoms_spec (ws := (zw yX4_readMarks cX4_readMarks 3 none)) B.pre w (List.mem_cons_of_mem _ h)
  have hown : s.vm.findClass RX4 = some m.cls := findClass_of_methodNamed B.named
  have hlocks := B.notSynchronized

  subst hsz
  have hD := hD0.self (sz := s.heap.size)
  generalize hAe : va_A [(h0, .inr (4, mX4 h1 h4 h11 h18 v0)), (h18, .inr (7, mX7 h19 h20 h21 h22 h23 h24 h25 v18)), (h1, .inr (9, mX9 h2 h3 v1)), (h2, zi k2 600 f2), (h19, zi k19 40 f19), (h20, zi k20 40 f20), (h21, zi k21 40 f21), (h22, zi k22 40 f22), (h23, zi k23 40 f23), (h25, zi k25 270 f25)] s.heap.size = A at hD hZ ⊢
  have hA : ∀ q : Nat, s.heap.size ≤ q → A q := fun q h => by rw [← hAe]; exact Or.inr h
  have hS : va_S A s.heap s.heap [] := va_S.rf
  have hl := lv_entry ([.ref h0]) (n := 3) (Nat.le_of_ble_eq_true rfl)
  rw [lg_entry_eq]
  generalize (lg_sl ([.ref h0]) ++ List.replicate (3 - (lg_sl ([.ref h0])).length) Slot.unset).toArray = ls at hl ⊢
  have hl : lv_has ls 3 [(0, .ref h0)] := hl
  have b_ := zk_0
  refine lv_aload_n hx hb dX4_readMarks_0 rfl (lv_at hl 0 rfl) ?_
  have hPc := hP.sub (ws' := [(h0, .inr (4, mX4 h1 h4 h11 h18 v0)), (h18, .inr (7, mX7 h19 h20 h21 h22 h23 h24 h25 v18))]) [0, 1] rfl
  have hDc := hD.sub (ws' := [(h0, .inr (4, mX4 h1 h4 h11 h18 v0)), (h18, .inr (7, mX7 h19 h20 h21 h22 h23 h24 h25 v18))]) [0, 1] (by decide) rfl
  have hKc := hK.sub (tys' := []) [] rfl
  have hFc := va_free (wc := [(h0, .inr (4, mX4 h1 h4 h11 h18 v0)), (h18, .inr (7, mX7 h19 h20 h21 h22 h23 h24 h25 v18))]) hD hS hA [0, 1] rfl
  refine va_callv (va_runV (As := []) (rest := []) ⟨hx, hb, hml, hown, hG⟩ (sX4_testLeafRoom_0 l dC dI adK adV h0 h18 h1 h4 h11 h19 h20 h21 h22 h23 h24 h25 s.heap.size v0 v18 hv0 hv18) (cwV 0 hG (zgV zv1088 zv1090 zv24 zv137 zv1091) rfl rfl rfl (by decide +kernel) ⟨Nat.le_of_ble_eq_true rfl, Nat.le_of_ble_eq_true rfl⟩) ⟨zPc_blind, va_recv hKc hPc (ci := 4) (q0 := 0) rfl rfl, zPc_pre hPc hKc hDc hE hS hFc hZ⟩ rfl rfl hl.1 rfl (lv_room (Nat.le_of_ble_eq_true rfl)) dX4_readMarks_1 ⟨Nat.le_of_ble_eq_true rfl, Nat.le_of_ble_eq_true rfl⟩) hS (fun q _ h => hFc q h) hFc (fun u1_ t H1 locs ht hvm hw hB hz1 hk1 hS => ?_)
  obtain ⟨w1_, a1_, b1_, hP1, hK1, hD1⟩ := hB
  rw [ht] at hP1
  obtain ⟨hP, hD⟩ := va_join (wr := [(h1, .inr (9, mX9 h2 h3 v1)), (h2, zi k2 600 f2), (h19, zi k19 40 f19), (h20, zi k20 40 f20), (h21, zi k21 40 f21), (h22, zi k22 40 f22), (h23, zi k23 40 f23), (h25, zi k25 270 f25)]) (w1 := [(h0, .inr (4, mX4 h1 h4 h11 h18 (upd (upd v0 4 (u1_ 0)) 7 (u1_ 1)))), (h18, .inr (7, mX7 h19 h20 h21 h22 h23 h24 h25 v18))]) hP hD [0, 1] [2, 3, 4, 5, 6, 7, 8, 9] rfl rfl (by decide) (by decide) hk1 hFc hP1 hD1
  have hP : va_P (dC, dI) vwCl [(h0, .inr (4, mX4 h1 h4 h11 h18 (upd (upd v0 4 (u1_ 0)) 7 (u1_ 1)))), (h18, .inr (7, mX7 h19 h20 h21 h22 h23 h24 h25 v18)), (h1, .inr (9, mX9 h2 h3 v1)), (h2, zi k2 600 f2), (h19, zi k19 40 f19), (h20, zi k20 40 f20), (h21, zi k21 40 f21), (h22, zi k22 40 f22), (h23, zi k23 40 f23), (h25, zi k25 270 f25)] H1 := hP.sub [8, 9, 0, 1, 2, 3, 4, 5, 6, 7] rfl
  have hD : va_D A [(h0, .inr (4, mX4 h1 h4 h11 h18 (upd (upd v0 4 (u1_ 0)) 7 (u1_ 1)))), (h18, .inr (7, mX7 h19 h20 h21 h22 h23 h24 h25 v18)), (h1, .inr (9, mX9 h2 h3 v1)), (h2, zi k2 600 f2), (h19, zi k19 40 f19), (h20, zi k20 40 f20), (h21, zi k21 40 f21), (h22, zi k22 40 f22), (h23, zi k23 40 f23), (h25, zi k25 270 f25)] := hD.sub [8, 9, 0, 1, 2, 3, 4, 5, 6, 7] (by decide) rfl
  generalize H1 = H at hP hS ⊢
  clear hz1
  refine lv_aload_n hx hb dX4_readMarks_4 rfl (lv_at hl 0 rfl) ?_
  have b_ : -2147483648 ≤ (u1_ 0).toInt ∧ (u1_ 0).toInt ≤ 2147483647 := ⟨zlo _, zhi _⟩
  have b_ : -2147483648 ≤ (u1_ 1).toInt ∧ (u1_ 1).toInt ≤ 2147483647 := ⟨zlo _, zhi _⟩
  have hPc := hP.sub (ws' := [(h0, .inr (4, mX4 h1 h4 h11 h18 (upd (upd v0 4 (u1_ 0)) 7 (u1_ 1)))), (h1, .inr (9, mX9 h2 h3 v1)), (h2, zi k2 600 f2)]) [0, 2, 3] rfl
  have hDc := hD.sub (ws' := [(h0, .inr (4, mX4 h1 h4 h11 h18 (upd (upd v0 4 (u1_ 0)) 7 (u1_ 1)))), (h1, .inr (9, mX9 h2 h3 v1)), (h2, zi k2 600 f2)]) [0, 2, 3] (by decide) rfl
  have hKc := hK.sub (tys' := [(k2, .byte)]) [0] rfl
  have hFc := va_free (wc := [(h0, .inr (4, mX4 h1 h4 h11 h18 (upd (upd v0 4 (u1_ 0)) 7 (u1_ 1)))), (h1, .inr (9, mX9 h2 h3 v1)), (h2, zi k2 600 f2)]) hD hS hA [0, 2, 3] rfl
  refine va_callv (va_runV (As := []) (rest := []) ⟨hx, hb, hml, hown, hG⟩ (sX4_next_0 l dC dI adK adV h0 h1 h2 h4 h11 h18 h3 k2 H.size (upd (upd v0 4 (u1_ 0)) 7 (u1_ 1)) v1 f2 (zR_updF (zR_updF hv0 4 rfl) 7 rfl) hv1) (cwV 0 hG (zgV zv1013 zv1015 zv11 zv137 zv1016) rfl rfl rfl (by decide +kernel) ⟨Nat.le_of_ble_eq_true rfl, Nat.le_of_ble_eq_true rfl⟩) ⟨zPc_blind, va_recv hKc hPc (ci := 4) (q0 := 0) rfl rfl, zPc_pre hPc hKc hDc hE hS hFc hZ⟩ rfl rfl hl.1 rfl (lv_room (Nat.le_of_ble_eq_true rfl)) dX4_readMarks_5 ⟨Nat.le_of_ble_eq_true rfl, Nat.le_of_ble_eq_true rfl⟩) hS (fun q _ h => hFc q h) hFc (fun u5_ t H1 locs ht hvm hw hB hz1 hk1 hS => ?_)
  replace hw : (0 ≤ (u5_ 0).toInt ∧ (u5_ 0).toInt ≤ 265) := hw
  have b_ := hw
  obtain ⟨w5_, a5_, b5_, hP1, hK1, hD1⟩ := hB
  rw [ht] at hP1
  obtain ⟨hP, hD⟩ := va_join (wr := [(h18, .inr (7, mX7 h19 h20 h21 h22 h23 h24 h25 v18)), (h19, zi k19 40 f19), (h20, zi k20 40 f20), (h21, zi k21 40 f21), (h22, zi k22 40 f22), (h23, zi k23 40 f23), (h25, zi k25 270 f25)]) (w1 := [(h0, .inr (4, mX4 h1 h4 h11 h18 (upd (upd (upd (upd v0 4 (u5_ 0)) 5 (u5_ 1)) 6 (u5_ 2)) 7 (u5_ 3)))), (h1, .inr (9, mX9 h2 h3 v1)), (h2, zi k2 600 f2)]) hP hD [0, 2, 3] [1, 4, 5, 6, 7, 8, 9] rfl rfl (by decide) (by decide) hk1 hFc hP1 hD1
  have hP : va_P (dC, dI) vwCl [(h0, .inr (4, mX4 h1 h4 h11 h18 (upd (upd (upd (upd v0 4 (u5_ 0)) 5 (u5_ 1)) 6 (u5_ 2)) 7 (u5_ 3)))), (h18, .inr (7, mX7 h19 h20 h21 h22 h23 h24 h25 v18)), (h1, .inr (9, mX9 h2 h3 v1)), (h2, zi k2 600 f2), (h19, zi k19 40 f19), (h20, zi k20 40 f20), (h21, zi k21 40 f21), (h22, zi k22 40 f22), (h23, zi k23 40 f23), (h25, zi k25 270 f25)] H1 := hP.sub [7, 0, 8, 9, 1, 2, 3, 4, 5, 6] rfl
  have hD : va_D A [(h0, .inr (4, mX4 h1 h4 h11 h18 (upd (upd (upd (upd v0 4 (u5_ 0)) 5 (u5_ 1)) 6 (u5_ 2)) 7 (u5_ 3)))), (h18, .inr (7, mX7 h19 h20 h21 h22 h23 h24 h25 v18)), (h1, .inr (9, mX9 h2 h3 v1)), (h2, zi k2 600 f2), (h19, zi k19 40 f19), (h20, zi k20 40 f20), (h21, zi k21 40 f21), (h22, zi k22 40 f22), (h23, zi k23 40 f23), (h25, zi k25 270 f25)] := hD.sub [7, 0, 8, 9, 1, 2, 3, 4, 5, 6] (by decide) rfl
  generalize H1 = H at hP hS ⊢
  clear hz1
  refine lv_aload_n hx hb dX4_readMarks_8 rfl (lv_at hl 0 rfl) ?_
  refine lv_ldc hx hb hown (hG _ zv1096) dX4_readMarks_9 ?_
  have b_ : -2147483648 ≤ (u5_ 3).toInt ∧ (u5_ 3).toInt ≤ 2147483647 := ⟨zlo _, zhi _⟩
  have b_ : -2147483648 ≤ (u5_ 1).toInt ∧ (u5_ 1).toInt ≤ 2147483647 := ⟨zlo _, zhi _⟩
  have b_ : -2147483648 ≤ (u5_ 2).toInt ∧ (u5_ 2).toInt ≤ 2147483647 := ⟨zlo _, zhi _⟩
  have hPc := hP.sub (ws' := [(h0, .inr (4, mX4 h1 h4 h11 h18 (upd (upd (upd (upd v0 4 (u5_ 0)) 5 (u5_ 1)) 6 (u5_ 2)) 7 (u5_ 3)))), (h1, .inr (9, mX9 h2 h3 v1)), (h2, zi k2 600 f2)]) [0, 2, 3] rfl
  have hDc := hD.sub (ws' := [(h0, .inr (4, mX4 h1 h4 h11 h18 (upd (upd (upd (upd v0 4 (u5_ 0)) 5 (u5_ 1)) 6 (u5_ 2)) 7 (u5_ 3)))), (h1, .inr (9, mX9 h2 h3 v1)), (h2, zi k2 600 f2)]) [0, 2, 3] (by decide) rfl
  have hKc := hK.sub (tys' := [(k2, .byte)]) [0] rfl
  have hFc := va_free (wc := [(h0, .inr (4, mX4 h1 h4 h11 h18 (upd (upd (upd (upd v0 4 (u5_ 0)) 5 (u5_ 1)) 6 (u5_ 2)) 7 (u5_ 3)))), (h1, .inr (9, mX9 h2 h3 v1)), (h2, zi k2 600 f2)]) hD hS hA [0, 2, 3] rfl
  refine va_calli (va_runV (As := [.int (-1000000000)]) (rest := []) ⟨hx, hb, hml, hown, hG⟩ (sX4_readInt_0 l dC dI adK adV h0 h1 h2 h4 h11 h18 h3 k2 H.size (upd (upd (upd (upd v0 4 (u5_ 0)) 5 (u5_ 1)) 6 (u5_ 2)) 7 (u5_ 3)) v1 f2 (-1000000000) (zR_updF (zR_updF (zR_updF (zR_updF hv0 4 rfl) 5 rfl) 6 rfl) 7 rfl) hv1) (cwV 1 hG (zgV zv1097 zv1099 zv25 zv137 zv1100) rfl rfl rfl (by decide +kernel) ⟨Nat.le_of_ble_eq_true rfl, Nat.le_of_ble_eq_true rfl⟩) ⟨zPc_blind, va_recv hKc hPc (ci := 4) (q0 := 0) rfl rfl, zPc_pre hPc hKc hDc hE hS hFc hZ⟩ rfl rfl hl.1 rfl (lv_room (Nat.le_of_ble_eq_true rfl)) dX4_readMarks_11 ⟨Nat.le_of_ble_eq_true rfl, Nat.le_of_ble_eq_true rfl⟩) hS (fun q _ h => hFc q h) hFc (fun r11_ u11_ t H1 locs ht hvm hw hB hz1 hk1 hS => ?_)
  replace hw : ((-999999999) ≤ r11_.toInt ∧ r11_.toInt ≤ 999999999) ∧ (0 ≤ (u11_ 0).toInt ∧ (u11_ 0).toInt ≤ 265) := hw
  obtain ⟨b_, b_⟩ := hw
  obtain ⟨w11_, a11_, b11_, hP1, hK1, hD1⟩ := hB
  rw [ht] at hP1
  obtain ⟨hP, hD⟩ := va_join (wr := [(h18, .inr (7, mX7 h19 h20 h21 h22 h23 h24 h25 v18)), (h19, zi k19 40 f19), (h20, zi k20 40 f20), (h21, zi k21 40 f21), (h22, zi k22 40 f22), (h23, zi k23 40 f23), (h25, zi k25 270 f25)]) (w1 := [(h0, .inr (4, mX4 h1 h4 h11 h18 (upd (upd (upd (upd v0 4 (u11_ 0)) 5 (u11_ 1)) 6 (u11_ 2)) 7 (u11_ 3)))), (h1, .inr (9, mX9 h2 h3 v1)), (h2, zi k2 600 f2)]) hP hD [0, 2, 3] [1, 4, 5, 6, 7, 8, 9] rfl rfl (by decide) (by decide) hk1 hFc hP1 hD1
  have hP : va_P (dC, dI) vwCl [(h0, .inr (4, mX4 h1 h4 h11 h18 (upd (upd (upd (upd v0 4 (u11_ 0)) 5 (u11_ 1)) 6 (u11_ 2)) 7 (u11_ 3)))), (h18, .inr (7, mX7 h19 h20 h21 h22 h23 h24 h25 v18)), (h1, .inr (9, mX9 h2 h3 v1)), (h2, zi k2 600 f2), (h19, zi k19 40 f19), (h20, zi k20 40 f20), (h21, zi k21 40 f21), (h22, zi k22 40 f22), (h23, zi k23 40 f23), (h25, zi k25 270 f25)] H1 := hP.sub [7, 0, 8, 9, 1, 2, 3, 4, 5, 6] rfl
  have hD : va_D A [(h0, .inr (4, mX4 h1 h4 h11 h18 (upd (upd (upd (upd v0 4 (u11_ 0)) 5 (u11_ 1)) 6 (u11_ 2)) 7 (u11_ 3)))), (h18, .inr (7, mX7 h19 h20 h21 h22 h23 h24 h25 v18)), (h1, .inr (9, mX9 h2 h3 v1)), (h2, zi k2 600 f2), (h19, zi k19 40 f19), (h20, zi k20 40 f20), (h21, zi k21 40 f21), (h22, zi k22 40 f22), (h23, zi k23 40 f23), (h25, zi k25 270 f25)] := hD.sub [7, 0, 8, 9, 1, 2, 3, 4, 5, 6] (by decide) rfl
  generalize H1 = H at hP hS ⊢
  clear hz1
  refine lv_istore_n (lv' := [(1, .int r11_), (0, .ref h0)]) hx hb dX4_readMarks_14 rfl hl (by decide) rfl (fun ls hl => ?_)
  refine lv_aload_n hx hb dX4_readMarks_15 rfl (lv_at hl 1 rfl) ?_
  refine lv_sipush (v := 264) hx hb dX4_readMarks_16 (by decide) ?_
  have b_ : -2147483648 ≤ (u11_ 3).toInt ∧ (u11_ 3).toInt ≤ 2147483647 := ⟨zlo _, zhi _⟩
  have b_ : -2147483648 ≤ (u11_ 1).toInt ∧ (u11_ 1).toInt ≤ 2147483647 := ⟨zlo _, zhi _⟩
  have b_ : -2147483648 ≤ (u11_ 2).toInt ∧ (u11_ 2).toInt ≤ 2147483647 := ⟨zlo _, zhi _⟩
  have hPc := hP.sub (ws' := [(h0, .inr (4, mX4 h1 h4 h11 h18 (upd (upd (upd (upd v0 4 (u11_ 0)) 5 (u11_ 1)) 6 (u11_ 2)) 7 (u11_ 3)))), (h1, .inr (9, mX9 h2 h3 v1)), (h2, zi k2 600 f2)]) [0, 2, 3] rfl
  have hDc := hD.sub (ws' := [(h0, .inr (4, mX4 h1 h4 h11 h18 (upd (upd (upd (upd v0 4 (u11_ 0)) 5 (u11_ 1)) 6 (u11_ 2)) 7 (u11_ 3)))), (h1, .inr (9, mX9 h2 h3 v1)), (h2, zi k2 600 f2)]) [0, 2, 3] (by decide) rfl
  have hKc := hK.sub (tys' := [(k2, .byte)]) [0] rfl
  have hFc := va_free (wc := [(h0, .inr (4, mX4 h1 h4 h11 h18 (upd (upd (upd (upd v0 4 (u11_ 0)) 5 (u11_ 1)) 6 (u11_ 2)) 7 (u11_ 3)))), (h1, .inr (9, mX9 h2 h3 v1)), (h2, zi k2 600 f2)]) hD hS hA [0, 2, 3] rfl
  refine va_callv (va_runV (As := [.int 264]) (rest := []) ⟨hx, hb, hml, hown, hG⟩ (sX4_take_0 l dC dI adK adV h0 h1 h2 h4 h11 h18 h3 k2 H.size (upd (upd (upd (upd v0 4 (u11_ 0)) 5 (u11_ 1)) 6 (u11_ 2)) 7 (u11_ 3)) v1 f2 264 (zR_updF (zR_updF (zR_updF (zR_updF hv0 4 rfl) 5 rfl) 6 rfl) 7 rfl) hv1) (cwV 1 hG (zgV zv1080 zv1082 zv22 zv137 zv1083) rfl rfl rfl (by decide +kernel) ⟨Nat.le_of_ble_eq_true rfl, Nat.le_of_ble_eq_true rfl⟩) ⟨zPc_blind, va_recv hKc hPc (ci := 4) (q0 := 0) rfl rfl, zPc_pre hPc hKc hDc hE hS hFc hZ⟩ rfl rfl hl.1 rfl (lv_room (Nat.le_of_ble_eq_true rfl)) dX4_readMarks_19 ⟨Nat.le_of_ble_eq_true rfl, Nat.le_of_ble_eq_true rfl⟩) hS (fun q _ h => hFc q h) hFc (fun u19_ t H1 locs ht hvm hw hB hz1 hk1 hS => ?_)
  replace hw : (0 ≤ (u19_ 0).toInt ∧ (u19_ 0).toInt ≤ 265) := hw
  have b_ := hw
  obtain ⟨w19_, a19_, b19_, hP1, hK1, hD1⟩ := hB
  rw [ht] at hP1
  obtain ⟨hP, hD⟩ := va_join (wr := [(h18, .inr (7, mX7 h19 h20 h21 h22 h23 h24 h25 v18)), (h19, zi k19 40 f19), (h20, zi k20 40 f20), (h21, zi k21 40 f21), (h22, zi k22 40 f22), (h23, zi k23 40 f23), (h25, zi k25 270 f25)]) (w1 := [(h0, .inr (4, mX4 h1 h4 h11 h18 (upd (upd (upd (upd v0 4 (u19_ 0)) 5 (u19_ 1)) 6 (u19_ 2)) 7 (u19_ 3)))), (h1, .inr (9, mX9 h2 h3 v1)), (h2, zi k2 600 f2)]) hP hD [0, 2, 3] [1, 4, 5, 6, 7, 8, 9] rfl rfl (by decide) (by decide) hk1 hFc hP1 hD1
  have hP : va_P (dC, dI) vwCl [(h0, .inr (4, mX4 h1 h4 h11 h18 (upd (upd (upd (upd v0 4 (u19_ 0)) 5 (u19_ 1)) 6 (u19_ 2)) 7 (u19_ 3)))), (h18, .inr (7, mX7 h19 h20 h21 h22 h23 h24 h25 v18)), (h1, .inr (9, mX9 h2 h3 v1)), (h2, zi k2 600 f2), (h19, zi k19 40 f19), (h20, zi k20 40 f20), (h21, zi k21 40 f21), (h22, zi k22 40 f22), (h23, zi k23 40 f23), (h25, zi k25 270 f25)] H1 := hP.sub [7, 0, 8, 9, 1, 2, 3, 4, 5, 6] rfl
  have hD : va_D A [(h0, .inr (4, mX4 h1 h4 h11 h18 (upd (upd (upd (upd v0 4 (u19_ 0)) 5 (u19_ 1)) 6 (u19_ 2)) 7 (u19_ 3)))), (h18, .inr (7, mX7 h19 h20 h21 h22 h23 h24 h25 v18)), (h1, .inr (9, mX9 h2 h3 v1)), (h2, zi k2 600 f2), (h19, zi k19 40 f19), (h20, zi k20 40 f20), (h21, zi k21 40 f21), (h22, zi k22 40 f22), (h23, zi k23 40 f23), (h25, zi k25 270 f25)] := hD.sub [7, 0, 8, 9, 1, 2, 3, 4, 5, 6] (by decide) rfl
  generalize H1 = H at hP hS ⊢
  clear hz1
  refine lv_aload_n hx hb dX4_readMarks_22 rfl (lv_at hl 1 rfl) ?_
  refine lv_iload_n hx hb dX4_readMarks_23 rfl (lv_at hl 0 rfl) ?_
  have b_ : -2147483648 ≤ (u19_ 3).toInt ∧ (u19_ 3).toInt ≤ 2147483647 := ⟨zlo _, zhi _⟩
  have b_ : -2147483648 ≤ (u19_ 1).toInt ∧ (u19_ 1).toInt ≤ 2147483647 := ⟨zlo _, zhi _⟩
  have b_ : -2147483648 ≤ (u19_ 2).toInt ∧ (u19_ 2).toInt ≤ 2147483647 := ⟨zlo _, zhi _⟩
  have hPc := hP.sub (ws' := [(h0, .inr (4, mX4 h1 h4 h11 h18 (upd (upd (upd (upd v0 4 (u19_ 0)) 5 (u19_ 1)) 6 (u19_ 2)) 7 (u19_ 3)))), (h1, .inr (9, mX9 h2 h3 v1)), (h2, zi k2 600 f2)]) [0, 2, 3] rfl
  have hDc := hD.sub (ws' := [(h0, .inr (4, mX4 h1 h4 h11 h18 (upd (upd (upd (upd v0 4 (u19_ 0)) 5 (u19_ 1)) 6 (u19_ 2)) 7 (u19_ 3)))), (h1, .inr (9, mX9 h2 h3 v1)), (h2, zi k2 600 f2)]) [0, 2, 3] (by decide) rfl
  have hKc := hK.sub (tys' := [(k2, .byte)]) [0] rfl
  have hFc := va_free (wc := [(h0, .inr (4, mX4 h1 h4 h11 h18 (upd (upd (upd (upd v0 4 (u19_ 0)) 5 (u19_ 1)) 6 (u19_ 2)) 7 (u19_ 3)))), (h1, .inr (9, mX9 h2 h3 v1)), (h2, zi k2 600 f2)]) hD hS hA [0, 2, 3] rfl
  refine va_calli (va_runV (As := [.int r11_]) (rest := []) ⟨hx, hb, hml, hown, hG⟩ (sX4_readInt_0 l dC dI adK adV h0 h1 h2 h4 h11 h18 h3 k2 H.size (upd (upd (upd (upd v0 4 (u19_ 0)) 5 (u19_ 1)) 6 (u19_ 2)) 7 (u19_ 3)) v1 f2 r11_ (zR_updF (zR_updF (zR_updF (zR_updF hv0 4 rfl) 5 rfl) 6 rfl) 7 rfl) hv1) (cwV 1 hG (zgV zv1097 zv1099 zv25 zv137 zv1100) rfl rfl rfl (by decide +kernel) ⟨Nat.le_of_ble_eq_true rfl, Nat.le_of_ble_eq_true rfl⟩) ⟨zPc_blind, va_recv hKc hPc (ci := 4) (q0 := 0) rfl rfl, zPc_pre hPc hKc hDc hE hS hFc hZ⟩ rfl rfl hl.1 rfl (lv_room (Nat.le_of_ble_eq_true rfl)) dX4_readMarks_24 ⟨Nat.le_of_ble_eq_true rfl, Nat.le_of_ble_eq_true rfl⟩) hS (fun q _ h => hFc q h) hFc (fun r24_ u24_ t H1 locs ht hvm hw hB hz1 hk1 hS => ?_)
  replace hw : ((-999999999) ≤ r24_.toInt ∧ r24_.toInt ≤ 999999999) ∧ (0 ≤ (u24_ 0).toInt ∧ (u24_ 0).toInt ≤ 265) := hw
  obtain ⟨b_, b_⟩ := hw
  obtain ⟨w24_, a24_, b24_, hP1, hK1, hD1⟩ := hB
  rw [ht] at hP1
  obtain ⟨hP, hD⟩ := va_join (wr := [(h18, .inr (7, mX7 h19 h20 h21 h22 h23 h24 h25 v18)), (h19, zi k19 40 f19), (h20, zi k20 40 f20), (h21, zi k21 40 f21), (h22, zi k22 40 f22), (h23, zi k23 40 f23), (h25, zi k25 270 f25)]) (w1 := [(h0, .inr (4, mX4 h1 h4 h11 h18 (upd (upd (upd (upd v0 4 (u24_ 0)) 5 (u24_ 1)) 6 (u24_ 2)) 7 (u24_ 3)))), (h1, .inr (9, mX9 h2 h3 v1)), (h2, zi k2 600 f2)]) hP hD [0, 2, 3] [1, 4, 5, 6, 7, 8, 9] rfl rfl (by decide) (by decide) hk1 hFc hP1 hD1
  have hP : va_P (dC, dI) vwCl [(h0, .inr (4, mX4 h1 h4 h11 h18 (upd (upd (upd (upd v0 4 (u24_ 0)) 5 (u24_ 1)) 6 (u24_ 2)) 7 (u24_ 3)))), (h18, .inr (7, mX7 h19 h20 h21 h22 h23 h24 h25 v18)), (h1, .inr (9, mX9 h2 h3 v1)), (h2, zi k2 600 f2), (h19, zi k19 40 f19), (h20, zi k20 40 f20), (h21, zi k21 40 f21), (h22, zi k22 40 f22), (h23, zi k23 40 f23), (h25, zi k25 270 f25)] H1 := hP.sub [7, 0, 8, 9, 1, 2, 3, 4, 5, 6] rfl
  have hD : va_D A [(h0, .inr (4, mX4 h1 h4 h11 h18 (upd (upd (upd (upd v0 4 (u24_ 0)) 5 (u24_ 1)) 6 (u24_ 2)) 7 (u24_ 3)))), (h18, .inr (7, mX7 h19 h20 h21 h22 h23 h24 h25 v18)), (h1, .inr (9, mX9 h2 h3 v1)), (h2, zi k2 600 f2), (h19, zi k19 40 f19), (h20, zi k20 40 f20), (h21, zi k21 40 f21), (h22, zi k22 40 f22), (h23, zi k23 40 f23), (h25, zi k25 270 f25)] := hD.sub [7, 0, 8, 9, 1, 2, 3, 4, 5, 6] (by decide) rfl
  generalize H1 = H at hP hS ⊢
  clear hz1
  refine lv_istore_n (lv' := [(2, .int r24_), (1, .int r11_), (0, .ref h0)]) hx hb dX4_readMarks_27 rfl hl (by decide) rfl (fun ls hl => ?_)
  refine lv_aload_n hx hb dX4_readMarks_28 rfl (lv_at hl 2 rfl) ?_
  refine lv_bipush (v := 93) hx hb dX4_readMarks_29 (by decide) ?_
  have b_ : -2147483648 ≤ (u24_ 3).toInt ∧ (u24_ 3).toInt ≤ 2147483647 := ⟨zlo _, zhi _⟩
  have b_ : -2147483648 ≤ (u24_ 1).toInt ∧ (u24_ 1).toInt ≤ 2147483647 := ⟨zlo _, zhi _⟩
  have b_ : -2147483648 ≤ (u24_ 2).toInt ∧ (u24_ 2).toInt ≤ 2147483647 := ⟨zlo _, zhi _⟩
  have hPc := hP.sub (ws' := [(h0, .inr (4, mX4 h1 h4 h11 h18 (upd (upd (upd (upd v0 4 (u24_ 0)) 5 (u24_ 1)) 6 (u24_ 2)) 7 (u24_ 3)))), (h1, .inr (9, mX9 h2 h3 v1)), (h2, zi k2 600 f2)]) [0, 2, 3] rfl
  have hDc := hD.sub (ws' := [(h0, .inr (4, mX4 h1 h4 h11 h18 (upd (upd (upd (upd v0 4 (u24_ 0)) 5 (u24_ 1)) 6 (u24_ 2)) 7 (u24_ 3)))), (h1, .inr (9, mX9 h2 h3 v1)), (h2, zi k2 600 f2)]) [0, 2, 3] (by decide) rfl
  have hKc := hK.sub (tys' := [(k2, .byte)]) [0] rfl
  have hFc := va_free (wc := [(h0, .inr (4, mX4 h1 h4 h11 h18 (upd (upd (upd (upd v0 4 (u24_ 0)) 5 (u24_ 1)) 6 (u24_ 2)) 7 (u24_ 3)))), (h1, .inr (9, mX9 h2 h3 v1)), (h2, zi k2 600 f2)]) hD hS hA [0, 2, 3] rfl
  refine va_callv (va_runV (As := [.int 93]) (rest := []) ⟨hx, hb, hml, hown, hG⟩ (sX4_take_0 l dC dI adK adV h0 h1 h2 h4 h11 h18 h3 k2 H.size (upd (upd (upd (upd v0 4 (u24_ 0)) 5 (u24_ 1)) 6 (u24_ 2)) 7 (u24_ 3)) v1 f2 93 (zR_updF (zR_updF (zR_updF (zR_updF hv0 4 rfl) 5 rfl) 6 rfl) 7 rfl) hv1) (cwV 1 hG (zgV zv1080 zv1082 zv22 zv137 zv1083) rfl rfl rfl (by decide +kernel) ⟨Nat.le_of_ble_eq_true rfl, Nat.le_of_ble_eq_true rfl⟩) ⟨zPc_blind, va_recv hKc hPc (ci := 4) (q0 := 0) rfl rfl, zPc_pre hPc hKc hDc hE hS hFc hZ⟩ rfl rfl hl.1 rfl (lv_room (Nat.le_of_ble_eq_true rfl)) dX4_readMarks_31 ⟨Nat.le_of_ble_eq_true rfl, Nat.le_of_ble_eq_true rfl⟩) hS (fun q _ h => hFc q h) hFc (fun u31_ t H1 locs ht hvm hw hB hz1 hk1 hS => ?_)
  replace hw : (0 ≤ (u31_ 0).toInt ∧ (u31_ 0).toInt ≤ 265) := hw
  have b_ := hw
  obtain ⟨w31_, a31_, b31_, hP1, hK1, hD1⟩ := hB
  rw [ht] at hP1
  obtain ⟨hP, hD⟩ := va_join (wr := [(h18, .inr (7, mX7 h19 h20 h21 h22 h23 h24 h25 v18)), (h19, zi k19 40 f19), (h20, zi k20 40 f20), (h21, zi k21 40 f21), (h22, zi k22 40 f22), (h23, zi k23 40 f23), (h25, zi k25 270 f25)]) (w1 := [(h0, .inr (4, mX4 h1 h4 h11 h18 (upd (upd (upd (upd v0 4 (u31_ 0)) 5 (u31_ 1)) 6 (u31_ 2)) 7 (u31_ 3)))), (h1, .inr (9, mX9 h2 h3 v1)), (h2, zi k2 600 f2)]) hP hD [0, 2, 3] [1, 4, 5, 6, 7, 8, 9] rfl rfl (by decide) (by decide) hk1 hFc hP1 hD1
  have hP : va_P (dC, dI) vwCl [(h0, .inr (4, mX4 h1 h4 h11 h18 (upd (upd (upd (upd v0 4 (u31_ 0)) 5 (u31_ 1)) 6 (u31_ 2)) 7 (u31_ 3)))), (h18, .inr (7, mX7 h19 h20 h21 h22 h23 h24 h25 v18)), (h1, .inr (9, mX9 h2 h3 v1)), (h2, zi k2 600 f2), (h19, zi k19 40 f19), (h20, zi k20 40 f20), (h21, zi k21 40 f21), (h22, zi k22 40 f22), (h23, zi k23 40 f23), (h25, zi k25 270 f25)] H1 := hP.sub [7, 0, 8, 9, 1, 2, 3, 4, 5, 6] rfl
  have hD : va_D A [(h0, .inr (4, mX4 h1 h4 h11 h18 (upd (upd (upd (upd v0 4 (u31_ 0)) 5 (u31_ 1)) 6 (u31_ 2)) 7 (u31_ 3)))), (h18, .inr (7, mX7 h19 h20 h21 h22 h23 h24 h25 v18)), (h1, .inr (9, mX9 h2 h3 v1)), (h2, zi k2 600 f2), (h19, zi k19 40 f19), (h20, zi k20 40 f20), (h21, zi k21 40 f21), (h22, zi k22 40 f22), (h23, zi k23 40 f23), (h25, zi k25 270 f25)] := hD.sub [7, 0, 8, 9, 1, 2, 3, 4, 5, 6] (by decide) rfl
  generalize H1 = H at hP hS ⊢
  clear hz1
  refine lv_aload_n hx hb dX4_readMarks_34 rfl (lv_at hl 2 rfl) ?_
  refine va_get (D := (dC, dI)) (ci := 4) (v := .ref h18) (C := RX4) (T := TX4) (N := 12) hx hb hG zuX4 hown hK hP 0 rfl rfl 3 (by decide) (hG _ zv411) (fun _ h9 => h9) rfl dX4_readMarks_35 ?_
  refine lv_iconst (v := 4) hx hb dX4_readMarks_38 (by decide) ?_
  refine lv_iload_n hx hb dX4_readMarks_39 rfl (lv_at hl 1 rfl) ?_
  refine lv_iload_n hx hb dX4_readMarks_40 rfl (lv_at hl 0 rfl) ?_
  refine lv_iconst (v := 0) hx hb dX4_readMarks_41 (by decide) ?_
  refine lv_iconst (v := 0) hx hb dX4_readMarks_42 (by decide) ?_
  have hPc := hP.sub (ws' := [(h18, .inr (7, mX7 h19 h20 h21 h22 h23 h24 h25 v18)), (h19, zi k19 40 f19), (h20, zi k20 40 f20), (h21, zi k21 40 f21), (h22, zi k22 40 f22), (h23, zi k23 40 f23), (h25, zi k25 270 f25)]) [1, 4, 5, 6, 7, 8, 9] rfl
  have hDc := hD.sub (ws' := [(h18, .inr (7, mX7 h19 h20 h21 h22 h23 h24 h25 v18)), (h19, zi k19 40 f19), (h20, zi k20 40 f20), (h21, zi k21 40 f21), (h22, zi k22 40 f22), (h23, zi k23 40 f23), (h25, zi k25 270 f25)]) [1, 4, 5, 6, 7, 8, 9] (by decide) rfl
  have hKc := hK.sub (tys' := [(k19, .int), (k20, .int), (k21, .int), (k22, .int), (k23, .boolean), (k25, .int)]) [1, 2, 3, 4, 5, 6] rfl
  have hFc := va_free (wc := [(h18, .inr (7, mX7 h19 h20 h21 h22 h23 h24 h25 v18)), (h19, zi k19 40 f19), (h20, zi k20 40 f20), (h21, zi k21 40 f21), (h22, zi k22 40 f22), (h23, zi k23 40 f23), (h25, zi k25 270 f25)]) hD hS hA [1, 4, 5, 6, 7, 8, 9] rfl
  refine va_callv (va_runV (As := [.int 4, .int r11_, .int r24_, .int 0, .int 0]) (rest := []) ⟨hx, hb, hml, hown, hG⟩ (sX7_addLeaf_0 l dC dI adK adV h18 h19 h20 h21 h22 h23 h25 h24 k19 k20 k21 k22 k23 k25 H.size v18 f19 f20 f21 f22 f23 f25 4 r11_ r24_ 0 0 hv18 hf25 ⟨show (1 : Int) ≤ (4 : Int32).toInt from by decide, show (4 : Int32).toInt ≤ (4 : Int) from by decide⟩ ⟨show (0 : Int) ≤ (0 : Int32).toInt from by decide, show (0 : Int32).toInt ≤ (1 : Int) from by decide⟩) (cwV 5 hG (zgV zv1108 zv1109 zv1110 zv136 zv1111) rfl rfl rfl (by decide +kernel) ⟨Nat.le_of_ble_eq_true rfl, Nat.le_of_ble_eq_true rfl⟩) ⟨zPc_blind, va_recv hKc hPc (ci := 7) (q0 := 0) rfl rfl, zPc_pre hPc hKc hDc hE hS hFc hZ⟩ rfl rfl hl.1 rfl (lv_room (Nat.le_of_ble_eq_true rfl)) dX4_readMarks_43 ⟨Nat.le_of_ble_eq_true rfl, Nat.le_of_ble_eq_true rfl⟩) hS (fun q _ h => hFc q h) hFc (fun u43_ t H1 locs ht hvm hw hB hz1 hk1 hS => ?_)
  replace hw : (1 ≤ (u43_ 0).toInt ∧ (u43_ 0).toInt ≤ 40) ∧ (0 ≤ (u43_ 1).toInt ∧ (u43_ 1).toInt ≤ 270) := hw
  obtain ⟨b_, b_⟩ := hw
  obtain ⟨w43_, a43_, b43_, ha43_5, hP1, hK1, hD1⟩ := hB
  rw [ht] at hP1
  obtain ⟨hP, hD⟩ := va_join (wr := [(h0, .inr (4, mX4 h1 h4 h11 h18 (upd (upd (upd (upd v0 4 (u31_ 0)) 5 (u31_ 1)) 6 (u31_ 2)) 7 (u31_ 3)))), (h1, .inr (9, mX9 h2 h3 v1)), (h2, zi k2 600 f2)]) (w1 := [(h18, .inr (7, mX7 h19 h20 h21 h22 h23 h24 h25 (upd (upd (upd (upd v18 7 (u43_ 0)) 9 (u43_ 1)) 10 (u43_ 2)) 11 (u43_ 3)))), (h19, zi k19 40 (a43_ 0)), (h20, zi k20 40 (a43_ 1)), (h21, zi k21 40 (a43_ 2)), (h22, zi k22 40 (a43_ 3)), (h23, zi k23 40 (a43_ 4)), (h25, zi k25 270 (a43_ 5))]) hP hD [1, 4, 5, 6, 7, 8, 9] [0, 2, 3] rfl rfl (by decide) (by decide) hk1 hFc hP1 hD1
  have hP : va_P (dC, dI) vwCl [(h0, .inr (4, mX4 h1 h4 h11 h18 (upd (upd (upd (upd v0 4 (u31_ 0)) 5 (u31_ 1)) 6 (u31_ 2)) 7 (u31_ 3)))), (h18, .inr (7, mX7 h19 h20 h21 h22 h23 h24 h25 (upd (upd (upd (upd v18 7 (u43_ 0)) 9 (u43_ 1)) 10 (u43_ 2)) 11 (u43_ 3)))), (h1, .inr (9, mX9 h2 h3 v1)), (h2, zi k2 600 f2), (h19, zi k19 40 (a43_ 0)), (h20, zi k20 40 (a43_ 1)), (h21, zi k21 40 (a43_ 2)), (h22, zi k22 40 (a43_ 3)), (h23, zi k23 40 (a43_ 4)), (h25, zi k25 270 (a43_ 5))] H1 := hP.sub [0, 3, 1, 2, 4, 5, 6, 7, 8, 9] rfl
  have hD : va_D A [(h0, .inr (4, mX4 h1 h4 h11 h18 (upd (upd (upd (upd v0 4 (u31_ 0)) 5 (u31_ 1)) 6 (u31_ 2)) 7 (u31_ 3)))), (h18, .inr (7, mX7 h19 h20 h21 h22 h23 h24 h25 (upd (upd (upd (upd v18 7 (u43_ 0)) 9 (u43_ 1)) 10 (u43_ 2)) 11 (u43_ 3)))), (h1, .inr (9, mX9 h2 h3 v1)), (h2, zi k2 600 f2), (h19, zi k19 40 (a43_ 0)), (h20, zi k20 40 (a43_ 1)), (h21, zi k21 40 (a43_ 2)), (h22, zi k22 40 (a43_ 3)), (h23, zi k23 40 (a43_ 4)), (h25, zi k25 270 (a43_ 5))] := hD.sub [0, 3, 1, 2, 4, 5, 6, 7, 8, 9] (by decide) rfl
  generalize H1 = H at hP hS ⊢
  clear hz1
  refine lv_aload_n hx hb dX4_readMarks_46 rfl (lv_at hl 2 rfl) ?_
  refine lv_iconst (v := 0) hx hb dX4_readMarks_47 (by decide) ?_
  refine va_put (D := (dC, dI)) (ci := 4) (v := .int 0) (ty := .boolean) (C := RX4) (T := TX4) (N := 12) hx hb hG zuX4 tyX4 tyX4_ok nmX4 hown hK hP hD hS 0 rfl rfl 9 (by decide) (hG _ zv417) (fun _ h9 => h9) rfl (by decide +kernel) rfl rfl (Nat.le_of_ble_eq_true rfl) dX4_readMarks_48 (fun H locs hP hD hS => ?_)
  have hP : va_P (dC, dI) vwCl [(h0, .inr (4, mX4 h1 h4 h11 h18 (upd (upd (upd (upd (upd v0 4 (u31_ 0)) 5 (u31_ 1)) 6 (u31_ 2)) 7 (u31_ 3)) 9 0))), (h18, .inr (7, mX7 h19 h20 h21 h22 h23 h24 h25 (upd (upd (upd (upd v18 7 (u43_ 0)) 9 (u43_ 1)) 10 (u43_ 2)) 11 (u43_ 3)))), (h1, .inr (9, mX9 h2 h3 v1)), (h2, zi k2 600 f2), (h19, zi k19 40 (a43_ 0)), (h20, zi k20 40 (a43_ 1)), (h21, zi k21 40 (a43_ 2)), (h22, zi k22 40 (a43_ 3)), (h23, zi k23 40 (a43_ 4)), (h25, zi k25 270 (a43_ 5))] H := hP
  have hD : va_D A [(h0, .inr (4, mX4 h1 h4 h11 h18 (upd (upd (upd (upd (upd v0 4 (u31_ 0)) 5 (u31_ 1)) 6 (u31_ 2)) 7 (u31_ 3)) 9 0))), (h18, .inr (7, mX7 h19 h20 h21 h22 h23 h24 h25 (upd (upd (upd (upd v18 7 (u43_ 0)) 9 (u43_ 1)) 10 (u43_ 2)) 11 (u43_ 3)))), (h1, .inr (9, mX9 h2 h3 v1)), (h2, zi k2 600 f2), (h19, zi k19 40 (a43_ 0)), (h20, zi k20 40 (a43_ 1)), (h21, zi k21 40 (a43_ 2)), (h22, zi k22 40 (a43_ 3)), (h23, zi k23 40 (a43_ 4)), (h25, zi k25 270 (a43_ 5))] := hD
  refine W.widen (k := 0) (n := 0) (by decide) (by decide) ?_
  have b_ : -2147483648 ≤ (u31_ 1).toInt ∧ (u31_ 1).toInt ≤ 2147483647 := ⟨zlo _, zhi _⟩
  have b_ : -2147483648 ≤ (u31_ 2).toInt ∧ (u31_ 2).toInt ≤ 2147483647 := ⟨zlo _, zhi _⟩
  have b_ : -2147483648 ≤ (u31_ 3).toInt ∧ (u31_ 3).toInt ≤ 2147483647 := ⟨zlo _, zhi _⟩
  have b_ : -2147483648 ≤ (u43_ 2).toInt ∧ (u43_ 2).toInt ≤ 2147483647 := ⟨zlo _, zhi _⟩
  have b_ : -2147483648 ≤ (u43_ 3).toInt ∧ (u43_ 3).toInt ≤ 2147483647 := ⟨zlo _, zhi _⟩
  have hpost : (0 ≤ (u31_ 0).toInt ∧ (u31_ 0).toInt ≤ 265) ∧ (0 ≤ (0 : Int32).toInt ∧ (0 : Int32).toInt ≤ 0) ∧ (1 ≤ (u43_ 0).toInt ∧ (u43_ 0).toInt ≤ 40) ∧ (0 ≤ (u43_ 1).toInt ∧ (u43_ 1).toInt ≤ 270) := ⟨(by first | with_reducible assumption | exact ⟨by omega, by omega⟩), (by first | with_reducible assumption | exact ⟨by omega, by omega⟩), (by first | with_reducible assumption | exact ⟨by omega, by omega⟩), (by first | with_reducible assumption | exact ⟨by omega, by omega⟩)⟩
  have hP9 : va_P (dC, dI) vwCl [(h0, .inr (4, mX4 h1 h4 h11 h18 (upd (upd (upd (upd (upd v0 4 (u31_ 0)) 5 (u31_ 1)) 6 (u31_ 2)) 7 (u31_ 3)) 9 0))), (h18, .inr (7, mX7 h19 h20 h21 h22 h23 h24 h25 (upd (upd (upd (upd v18 7 (u43_ 0)) 9 (u43_ 1)) 10 (u43_ 2)) 11 (u43_ 3)))), (h1, .inr (9, mX9 h2 h3 v1)), (h2, zi k2 600 f2), (h19, zi k19 40 (a43_ 0)), (h20, zi k20 40 (a43_ 1)), (h21, zi k21 40 (a43_ 2)), (h22, zi k22 40 (a43_ 3)), (h23, zi k23 40 (a43_ 4)), (h25, zi k25 270 (a43_ 5))] H := hP
  have hD9 : va_D A [(h0, .inr (4, mX4 h1 h4 h11 h18 (upd (upd (upd (upd (upd v0 4 (u31_ 0)) 5 (u31_ 1)) 6 (u31_ 2)) 7 (u31_ 3)) 9 0))), (h18, .inr (7, mX7 h19 h20 h21 h22 h23 h24 h25 (upd (upd (upd (upd v18 7 (u43_ 0)) 9 (u43_ 1)) 10 (u43_ 2)) 11 (u43_ 3)))), (h1, .inr (9, mX9 h2 h3 v1)), (h2, zi k2 600 f2), (h19, zi k19 40 (a43_ 0)), (h20, zi k20 40 (a43_ 1)), (h21, zi k21 40 (a43_ 2)), (h22, zi k22 40 (a43_ 3)), (h23, zi k23 40 (a43_ 4)), (h25, zi k25 270 (a43_ 5))] := hD
  exact W.vret hx hb hr (fun t ht hW => ⟨⟨(fun i => ([(u31_ 0), (u31_ 1), (u31_ 2), (u31_ 3), 0, (u43_ 0), (u43_ 1), (u43_ 2), (u43_ 3)] : List (Int32)).getD i 0), rfl, hpost, (fun _ => 0), (fun i => ([(a43_ 0), (a43_ 1), (a43_ 2), (a43_ 3), (a43_ 4), (a43_ 5)] : List (Nat → Int32)).getD i (fun _ => 0)), (fun _ => (fun _ => 0)), ha43_5, by rw [ht]; exact hP9, va_K.moved hW.alike hK, hD9⟩, hS.F ht⟩) hS.2.2 dX4_readMarks_51
set_option maxHeartbeats 8000000 in
set_option maxRecDepth 100000 in
theorem sX9_startOf_0 (l : Launch) (dC : Nat → ClassId) (dI : Nat → Nat → Nat) (adK adV : Nat → Nat) (h0 : Nat) (h1 : Nat) (h2 : Nat) (k1 : ClassId) (k2 : ClassId) (sz : Nat) (v0 : Nat → Int32) (f1 : Nat → Int32) (f2 : Nat → Int32) (x1 : Int32) (hv0 : zR rg_Tape v0) : Met l yX9_startOf (zw yX9_startOf cX9_startOf 2 (some .long)) { frames := 2, cells := 0, slots := 0, locals := 44 } (zPc dC dI adK adV [.ref h0, .int x1] sz [(h0, .inr (9, mX9 h1 h2 v0)), (h1, zi k1 600 f1), (h2, zi k2 12 f2)] [(k1, .byte), (k2, .byte)]) (va_Ql (fun (r : Int64) (u : Nat → Int32) => (0 ≤ (u 0).toInt ∧ (u 0).toInt ≤ 12)) (fun (u : Nat → Int32) (t : State) => ∃ (ww : Nat → Int64) (aa : Nat → Nat → Int32) (bb : Nat → Nat → Int64), va_P (dC, dI) vwCl [(h0, .inr (9, mX9 h1 h2 (upd v0 3 (u 0)))), (h1, zi k1 600 f1), (h2, zi k2 12 (aa 0))] t.heap ∧ va_K (dC, dI) vwCl [(k1, .byte), (k2, .byte)] t ∧ va_D (va_A [(h0, .inr (9, mX9 h1 h2 v0)), (h1, zi k1 600 f1), (h2, zi k2 12 f2)] sz) [(h0, .inr (9, mX9 h1 h2 (upd v0 3 (u 0)))), (h1, zi k1 600 f1), (h2, zi k2 12 (aa 0))]) (va_A [(h0, .inr (9, mX9 h1 h2 v0)), (h1, zi k1 600 f1), (h2, zi k2 12 f2)] sz)) 0 0 (va_A [(h0, .inr (9, mX9 h1 h2 v0)), (h1, zi k1 600 f1), (h2, zi k2 12 f2)] sz) := by
  refine Met.ofW (cc := cX9_startOf) (maxL := 2) (ret := (some .long)) (by decide) rfl ?_
  intro p e s m args below meth c s₁ B hml hv
  obtain ⟨rfl, hsz, hP, hK, hD0, hE, hZ⟩ := hv
  have hx := B.exec
  have hb := B.bytes
  have hr := B.returns
  have hG : ∀ w ∈ zG, w.before _ s = true := fun w h => atoms_spec (ws := (zw yX9_startOf cX9_startOf 2 (some .long))) B.pre w (List.mem_cons_of_mem _ h)
  have hown : s.vm.findClass RX9 = some m.cls := findClass_of_methodNamed B.named
  have hlocks := B.notSynchronized

  subst hsz
  have hD := hD0.self (sz := s.heap.size)
  generalize hAe : va_A [(h0, .inr (9, mX9 h1 h2 v0)), (h1, zi k1 600 f1), (h2, zi k2 12 f2)] s.heap.size = A at hD hZ ⊢
  have hA : ∀ q : Nat, s.heap.size ≤ q → A q := fun q h => by rw [← hAe]; exact Or.inr h
  have hS : va_S A s.heap s.heap [] := va_S.rf
  have hl := lv_entry ([.ref h0, .int x1]) (n := 2) (Nat.le_of_ble_eq_true rfl)
  rw [lg_entry_eq]
  generalize (lg_sl ([.ref h0, .int x1]) ++ List.replicate (2 - (lg_sl ([.ref h0, .int x1])).length) Slot.unset).toArray = ls at hl ⊢
  have hl : lv_has ls 2 [(0, .ref h0), (1, .int x1)] := hl
  refine lv_aload_n hx hb dX9_startOf_0 rfl (lv_at hl 0 rfl) ?_
  refine lv_iload_n hx hb dX9_startOf_1 rfl (lv_at hl 1 rfl) ?_
  have hPc := hP.sub (ws' := [(h0, .inr (9, mX9 h1 h2 v0)), (h1, zi k1 600 f1), (h2, zi k2 12 f2)]) [0, 1, 2] rfl
  have hDc := hD.sub (ws' := [(h0, .inr (9, mX9 h1 h2 v0)), (h1, zi k1 600 f1), (h2, zi k2 12 f2)]) [0, 1, 2] (by decide) rfl
  have hKc := hK.sub (tys' := [(k1, .byte), (k2, .byte)]) [0, 1] rfl
  have hFc := va_free (wc := [(h0, .inr (9, mX9 h1 h2 v0)), (h1, zi k1 600 f1), (h2, zi k2 12 f2)]) hD hS hA [0, 1, 2] rfl
  refine va_callv (va_runV (As := [.int x1]) (rest := []) ⟨hx, hb, hml, hown, hG⟩ (sX9_readLetters_0 l dC dI adK adV h0 h1 h2 k1 k2 s.heap.size v0 f1 f2 x1 hv0) (cwV 1 hG (zgV zv656 zv658 zv1 zv130 zv659) rfl rfl rfl (by decide +kernel) ⟨Nat.le_of_ble_eq_true rfl, Nat.le_of_ble_eq_true rfl⟩) ⟨zPc_blind, va_recv hKc hPc (ci := 9) (q0 := 0) rfl rfl, zPc_pre hPc hKc hDc hE hS hFc hZ⟩ rfl rfl hl.1 rfl (lv_room (Nat.le_of_ble_eq_true rfl)) dX9_startOf_2 ⟨Nat.le_of_ble_eq_true rfl, Nat.le_of_ble_eq_true rfl⟩) hS (fun q _ h => hFc q h) hFc (fun u2_ t H1 locs ht hvm hw hB hz1 hk1 hS => ?_)
  replace hw : (0 ≤ (u2_ 0).toInt ∧ (u2_ 0).toInt ≤ 12) := hw
  have b_ := hw
  obtain ⟨w2_, a2_, b2_, hB2_0, hB2_1, hP1, hK1, hD1⟩ := hB
  have hB2_0 : 0 ≤ x1.toInt → x1.toInt ≤ 600 → zRl f1 (v0 2).toInt x1.toInt (a2_ 0) (u2_ 0).toInt := hB2_0
  have hB2_1 : 0 ≤ x1.toInt → x1.toInt ≤ 600 → ((u2_ 0).toInt = 12 ∨ ¬ zIn f1 (v0 2).toInt (x1.toInt + (u2_ 0).toInt)) := hB2_1
  rw [ht] at hP1
  obtain ⟨hP, hD⟩ := va_join (wr := []) (w1 := [(h0, .inr (9, mX9 h1 h2 (upd v0 3 (u2_ 0)))), (h1, zi k1 600 f1), (h2, zi k2 12 (a2_ 0))]) hP hD [0, 1, 2] [] rfl rfl (by decide) (by decide) hk1 hFc hP1 hD1
  have hP : va_P (dC, dI) vwCl [(h0, .inr (9, mX9 h1 h2 (upd v0 3 (u2_ 0)))), (h1, zi k1 600 f1), (h2, zi k2 12 (a2_ 0))] H1 := hP.sub [0, 1, 2] rfl
  have hD : va_D A [(h0, .inr (9, mX9 h1 h2 (upd v0 3 (u2_ 0)))), (h1, zi k1 600 f1), (h2, zi k2 12 (a2_ 0))] := hD.sub [0, 1, 2] (by decide) rfl
  generalize H1 = H at hP hS ⊢
  clear hz1
  refine lv_aload_n hx hb dX9_startOf_5 rfl (lv_at hl 0 rfl) ?_
  refine va_get (D := (dC, dI)) (ci := 9) (v := .ref h2) (C := RX9) (T := TX9) (N := 4) hx hb hG zuX9 hown hK hP 0 rfl rfl 1 (by decide) (hG _ zv170) (fun _ h9 => h9) rfl dX9_startOf_6 ?_
  refine lv_aload_n hx hb dX9_startOf_9 rfl (lv_at hl 0 rfl) ?_
  refine va_get (D := (dC, dI)) (ci := 9) (v := .int (u2_ 0)) (C := RX9) (T := TX9) (N := 4) hx hb hG zuX9 hown hK hP 0 rfl rfl 3 (by decide) (hG _ zv172) (fun _ h9 => h9) rfl dX9_startOf_10 ?_
  have hPc := hP.sub (ws' := [(h2, zi k2 12 (a2_ 0))]) [2] rfl
  have hDc := hD.sub (ws' := [(h2, zi k2 12 (a2_ 0))]) [2] (by decide) rfl
  have hKc := hK.sub (tys' := [(k2, .byte)]) [1] rfl
  have hFc := va_free (wc := [(h2, zi k2 12 (a2_ 0))]) hD hS hA [2] rfl
  refine va_calll (va_runS (As := [.ref h2, .int (u2_ 0)]) (rest := []) ⟨hx, hb, hml, hown, hG⟩ (sX10_pack_0 l dC dI adK adV h2 k2 H.size (a2_ 0) (u2_ 0)) (va_cwS 2 hG (zgS zv731 zv732 zv131 zv733) rfl rfl rfl (by decide +kernel) ⟨Nat.le_of_ble_eq_true rfl, Nat.le_of_ble_eq_true rfl⟩) ⟨zPc_blind, zPc_pre hPc hKc hDc hE hS hFc hZ⟩ rfl rfl hl.1 rfl (lv_room (Nat.le_of_ble_eq_true rfl)) dX9_startOf_13 ⟨Nat.le_of_ble_eq_true rfl, Nat.le_of_ble_eq_true rfl⟩) hS (fun q _ h => hFc q h) hFc (fun r13_ u13_ t H1 locs ht hvm hw hB hz1 hk1 hS => ?_)
  replace hw : (zpV (a2_ 0) (u2_ 0).toInt → r13_.toInt = zpk (fun k => ((a2_ 0) k).toInt) ((u2_ 0).toInt).toNat 12) := hw
  have hX13_0 := hw
  obtain ⟨w13_, a13_, b13_, hP1, hK1, hD1⟩ := hB
  rw [ht] at hP1
  obtain ⟨hP, hD⟩ := va_join (wr := [(h0, .inr (9, mX9 h1 h2 (upd v0 3 (u2_ 0)))), (h1, zi k1 600 f1)]) (w1 := [(h2, zi k2 12 (a2_ 0))]) hP hD [2] [0, 1] rfl rfl (by decide) (by decide) hk1 hFc hP1 hD1
  have hP : va_P (dC, dI) vwCl [(h0, .inr (9, mX9 h1 h2 (upd v0 3 (u2_ 0)))), (h1, zi k1 600 f1), (h2, zi k2 12 (a2_ 0))] H1 := hP.sub [0, 1, 2] rfl
  have hD : va_D A [(h0, .inr (9, mX9 h1 h2 (upd v0 3 (u2_ 0)))), (h1, zi k1 600 f1), (h2, zi k2 12 (a2_ 0))] := hD.sub [0, 1, 2] (by decide) rfl
  generalize H1 = H at hP hS ⊢
  clear hz1
  refine W.widen (k := 0) (n := 0) (by decide) (by decide) ?_
  have hpost : (0 ≤ (u2_ 0).toInt ∧ (u2_ 0).toInt ≤ 12) := (by first | with_reducible assumption | exact ⟨by omega, by omega⟩)
  have hP9 : va_P (dC, dI) vwCl [(h0, .inr (9, mX9 h1 h2 (upd v0 3 (u2_ 0)))), (h1, zi k1 600 f1), (h2, zi k2 12 (a2_ 0))] H := hP
  have hD9 : va_D A [(h0, .inr (9, mX9 h1 h2 (upd v0 3 (u2_ 0)))), (h1, zi k1 600 f1), (h2, zi k2 12 (a2_ 0))] := hD
  exact W.lret (v := r13_) hx hb hr (fun t ht hW => ⟨⟨r13_, (fun i => ([(u2_ 0)] : List (Int32)).getD i 0), rfl, hpost, (fun _ => 0), (fun i => ([(a2_ 0)] : List (Nat → Int32)).getD i (fun _ => 0)), (fun _ => (fun _ => 0)), by rw [ht]; exact hP9, va_K.moved hW.alike hK, hD9⟩, hS.F ht⟩) hS.2.2 dX9_startOf_16
set_option maxHeartbeats 8000000 in
set_option maxRecDepth 100000 in
theorem sX9_lettersRead_0 (l : Launch) (dC : Nat → ClassId) (dI : Nat → Nat → Nat) (adK adV : Nat → Nat) (h0 : Nat) (h1 : Nat) (h2 : Nat) (sz : Nat) (v0 : Nat → Int32) (hv0 : zR rg_Tape v0) : Met l yX9_lettersRead (zw yX9_lettersRead cX9_lettersRead 1 (some .int)) { frames := 0, cells := 0, slots := 0, locals := 0 } (zPc dC dI adK adV [.ref h0] sz [(h0, .inr (9, mX9 h1 h2 v0))] []) (va_Qi (fun (r : Int32) (u : Nat → Int32) => (0 ≤ r.toInt ∧ r.toInt ≤ 12)) (fun (u : Nat → Int32) (t : State) => ∃ (ww : Nat → Int64) (aa : Nat → Nat → Int32) (bb : Nat → Nat → Int64), va_P (dC, dI) vwCl [(h0, .inr (9, mX9 h1 h2 v0))] t.heap ∧ va_K (dC, dI) vwCl [] t ∧ va_D (va_A [(h0, .inr (9, mX9 h1 h2 v0))] sz) [(h0, .inr (9, mX9 h1 h2 v0))]) (va_A [(h0, .inr (9, mX9 h1 h2 v0))] sz)) 0 0 (va_A [(h0, .inr (9, mX9 h1 h2 v0))] sz) := by
  refine Met.ofW (cc := cX9_lettersRead) (maxL := 1) (ret := (some .int)) (by decide) rfl ?_
  intro p e s m args below meth c s₁ B hml hv
  obtain ⟨rfl, hsz, hP, hK, hD0, hE, hZ⟩ := hv
  have hx := B.exec
  have hb := B.bytes
  have hr := B.returns
  have hG : ∀ w ∈ zG, w.before _ s = true := fun w h => atoms_spec (ws := (zw yX9_lettersRead cX9_lettersRead 1 (some .int))) B.pre w (List.mem_cons_of_mem _ h)
  have hown : s.vm.findClass RX9 = some m.cls := findClass_of_methodNamed B.named
  have hlocks := B.notSynchronized

  subst hsz
  have hD := hD0.self (sz := s.heap.size)
  generalize hAe : va_A [(h0, .inr (9, mX9 h1 h2 v0))] s.heap.size = A at hD hZ ⊢
  have hA : ∀ q : Nat, s.heap.size ≤ q → A q := fun q h => by rw [← hAe]; exact Or.inr h
  have hS : va_S A s.heap s.heap [] := va_S.rf
  have hl := lv_entry ([.ref h0]) (n := 1) (Nat.le_of_ble_eq_true rfl)
  rw [lg_entry_eq]
  generalize (lg_sl ([.ref h0]) ++ List.replicate (1 - (lg_sl ([.ref h0])).length) Slot.unset).toArray = ls at hl ⊢
  have hl : lv_has ls 1 [(0, .ref h0)] := hl
  refine lv_aload_n hx hb dX9_lettersRead_0 rfl (lv_at hl 0 rfl) ?_
  have b_ : 0 ≤ (v0 3).toInt ∧ (v0 3).toInt ≤ 12 := hv0 3
  refine va_get (D := (dC, dI)) (ci := 9) (v := .int (v0 3)) (C := RX9) (T := TX9) (N := 4) hx hb hG zuX9 hown hK hP 0 rfl rfl 3 (by decide) (hG _ zv172) (fun _ h9 => h9) rfl dX9_lettersRead_1 ?_
  refine W.widen (k := 0) (n := 0) (by decide) (by decide) ?_
  have hpost : (0 ≤ (v0 3).toInt ∧ (v0 3).toInt ≤ 12) := (by first | with_reducible assumption | exact ⟨by omega, by omega⟩)
  have hP9 : va_P (dC, dI) vwCl [(h0, .inr (9, mX9 h1 h2 v0))] s.heap := hP
  have hD9 : va_D A [(h0, .inr (9, mX9 h1 h2 v0))] := hD
  exact W.iret (v := (v0 3)) hx hb hr (fun t ht hW => ⟨⟨(v0 3), (fun _ => 0), rfl, hpost, (fun _ => 0), (fun _ => (fun _ => 0)), (fun _ => (fun _ => 0)), by rw [ht]; exact hP9, va_K.moved hW.alike hK, hD9⟩, hS.F ht⟩) hS.2.2 dX9_lettersRead_4
set_option maxHeartbeats 8000000 in
set_option maxRecDepth 100000 in
theorem sX10_behindStart_0 (l : Launch) (dC : Nat → ClassId) (dI : Nat → Nat → Nat) (adK adV : Nat → Nat) (sz : Nat) (y0 : Int64) (x1 : Int32) : Met l yX10_behindStart (zw yX10_behindStart cX10_behindStart 6 (some .long)) { frames := 0, cells := 0, slots := 0, locals := 0 } (zPc dC dI adK adV [.long y0, .int x1] sz [] []) (va_Ql (fun (r : Int64) (u : Nat → Int32) => True) (fun (u : Nat → Int32) (t : State) => ∃ (ww : Nat → Int64) (aa : Nat → Nat → Int32) (bb : Nat → Nat → Int64), va_P (dC, dI) vwCl [] t.heap ∧ va_K (dC, dI) vwCl [] t ∧ va_D (va_A [] sz) []) (va_A [] sz)) 0 0 (va_A [] sz) := by
  refine Met.ofW (cc := cX10_behindStart) (maxL := 6) (ret := (some .long)) (by decide) rfl ?_
  intro p e s m args below meth c s₁ B hml hv
  obtain ⟨rfl, hsz, hP, hK, hD0, hE, hZ⟩ := hv
  have hx := B.exec
  have hb := B.bytes
  have hr := B.returns
  have hG : ∀ w ∈ zG, w.before _ s = true := fun w h => atoms_spec (ws := (zw yX10_behindStart cX10_behindStart 6 (some .long))) B.pre w (List.mem_cons_of_mem _ h)
  have hown : s.vm.findClass RX10 = some m.cls := findClass_of_methodNamed B.named
  have hlocks := B.notSynchronized

  subst hsz
  have hD := hD0.self (sz := s.heap.size)
  generalize hAe : va_A [] s.heap.size = A at hD hZ ⊢
  have hA : ∀ q : Nat, s.heap.size ≤ q → A q := fun q h => by rw [← hAe]; exact Or.inr h
  have hS : va_S A s.heap s.heap [] := va_S.rf
  have hl := lv_entry ([.long y0, .int x1]) (n := 6) (Nat.le_of_ble_eq_true rfl)
  rw [lg_entry_eq]
  generalize (lg_sl ([.long y0, .int x1]) ++ List.replicate (6 - (lg_sl ([.long y0, .int x1])).length) Slot.unset).toArray = ls at hl ⊢
  have hl : lv_has ls 6 [(0, .long y0), (2, .int x1)] := hl
  refine lv_lconst (v := 1) hx hb dX10_behindStart_0 (by decide) ?_
  refine lv_lstore_n (lv' := [(3, .long 1), (0, .long y0), (2, .int x1)]) hx hb dX10_behindStart_1 rfl hl (by decide) rfl (fun ls hl => ?_)
  refine lv_iload_n hx hb dX10_behindStart_2 rfl (lv_at hl 2 rfl) ?_
  refine lv_istore (lv' := [(5, .int x1), (3, .long 1), (0, .long y0), (2, .int x1)]) hx hb dX10_behindStart_3 hl (by decide) rfl (fun ls hl => ?_)
  refine zcutL (fun u5_ => (2147483647 - (u5_ 0).toInt).toNat) (fun H locs ls u5_ w5_ a5_ b5_ => va_P (dC, dI) vwCl [] H ∧ va_D A [] ∧ va_S A s.heap H locs ∧ lv_has ls 6 [(0, .long y0), (2, .int x1), (3, .long (w5_ 0)), (5, .int (u5_ 0))]) (fun ls u5_ w5_ => F0 m 5 ls []) 0 0 ?_ (fun hJ5 => ?_)
  · skip
    intro H locs ls u5_ w5_ a5_ b5_ hc hJ5
    obtain ⟨hP, hD, hS, hl⟩ := hc
    refine lv_iload hx hb dX10_behindStart_5 (lv_at hl 3 rfl) ?_
    refine lv_bipush (v := 12) hx hb dX10_behindStart_7 (by decide) ?_
    have b_ : -2147483648 ≤ (u5_ 0).toInt ∧ (u5_ 0).toInt ≤ 2147483647 := ⟨zlo _, zhi _⟩
    refine lv_icmp_ge (tgt := 24) hx hb dX10_behindStart_9 (by decide) (fun c_ => ?_) (fun c_ => ?_)
    · skip
      have b_ := zT_ge rfl zk_12 c_
      refine lv_lload_n hx hb dX10_behindStart_24 rfl (lv_at hl 0 rfl) ?_
      refine lv_lload_n hx hb dX10_behindStart_25 rfl (lv_at hl 2 rfl) ?_
      refine lv_ladd hx hb dX10_behindStart_26 ?_
      refine lv_topl (fun y_26 e_y_26 => ?_)
      refine W.widen (k := 0) (n := 0) (by decide) (by decide) ?_
      have hpost : True := trivial
      have hP9 : va_P (dC, dI) vwCl [] H := hP
      have hD9 : va_D A [] := hD
      exact W.lret (v := y_26) hx hb hr (fun t ht hW => ⟨⟨y_26, (fun _ => 0), rfl, hpost, (fun _ => 0), (fun _ => (fun _ => 0)), (fun _ => (fun _ => 0)), by rw [ht]; exact hP9, va_K.moved hW.alike hK, hD9⟩, hS.F ht⟩) hS.2.2 dX10_behindStart_27
    · skip
      have b_ := zF_ge rfl zk_12 c_
      refine lv_lload_n hx hb dX10_behindStart_12 rfl (lv_at hl 2 rfl) ?_
      refine lv_ldc2 hx hb hown (hG _ zv734) dX10_behindStart_13 ?_
      refine lv_lmul hx hb dX10_behindStart_16 ?_
      refine lv_topl (fun y_16 e_y_16 => ?_)
      refine lv_lstore_n (lv' := [(3, .long y_16), (0, .long y0), (2, .int x1), (5, .int (u5_ 0))]) hx hb dX10_behindStart_17 rfl hl (by decide) rfl (fun ls hl => ?_)
      obtain ⟨z18, e_z18⟩ : ∃ z : Int32, z = (u5_ 0) + Int32.ofInt 1 := ⟨_, rfl⟩
      have b_ := zadd (x := (u5_ 0)) (y := Int32.ofInt 1) rfl (show (Int32.ofInt 1).toInt = 1 from by decide) e_z18 (by omega) (by omega)
      refine lv_iinc (v := z18) (lv' := [(5, .int z18), (3, .long y_16), (0, .long y0), (2, .int x1)]) hx hb dX10_behindStart_18 hl (k := 3) rfl e_z18.symm (by decide) rfl (fun ls hl => ?_)
      refine lv_goto (tgt := 5) hx hb dX10_behindStart_21 (by decide) ?_
      have b_ : -2147483648 ≤ x1.toInt ∧ x1.toInt ≤ 2147483647 := ⟨zlo _, zhi _⟩
      have hc : va_P (dC, dI) vwCl [] H ∧ va_D A [] ∧ va_S A s.heap H locs ∧ lv_has ls 6 [(0, .long y0), (2, .int x1), (3, .long y_16), (5, .int z18)] := ⟨hP, hD, hS, lv_sub hl [2, 3, 1, 0] rfl⟩
      exact hJ5 H locs ls (fun i => ([z18] : List (Int32)).getD i 0) (fun i => ([y_16] : List (Int64)).getD i 0) (fun _ => (fun _ => 0)) (fun _ => (fun _ => 0)) hc (show (2147483647 - z18.toInt).toNat < (2147483647 - (u5_ 0).toInt).toNat from by omega)
  · skip
    have b_ : -2147483648 ≤ x1.toInt ∧ x1.toInt ≤ 2147483647 := ⟨zlo _, zhi _⟩
    have hc : va_P (dC, dI) vwCl [] s.heap ∧ va_D A [] ∧ va_S A s.heap s.heap [] ∧ lv_has ls 6 [(0, .long y0), (2, .int x1), (3, .long 1), (5, .int x1)] := ⟨hP, hD, hS, lv_sub hl [2, 3, 1, 0] rfl⟩
    exact hJ5 s.heap [] ls (fun i => ([x1] : List (Int32)).getD i 0) (fun i => ([1] : List (Int64)).getD i 0) (fun _ => (fun _ => 0)) (fun _ => (fun _ => 0)) hc
set_option maxHeartbeats 8000000 in
set_option maxRecDepth 100000 in
theorem sX4_readToken_0 (l : Launch) (dC : Nat → ClassId) (dI : Nat → Nat → Nat) (adK adV : Nat → Nat) (h0 : Nat) (h18 : Nat) (h1 : Nat) (h2 : Nat) (h3 : Nat) (h4 : Nat) (h5 : Nat) (h11 : Nat) (h12 : Nat) (h19 : Nat) (h20 : Nat) (h21 : Nat) (h22 : Nat) (h23 : Nat) (h25 : Nat) (h24 : Nat) (h6 : Nat) (h7 : Nat) (h8 : Nat) (h9 : Nat) (h10 : Nat) (h13 : Nat) (h14 : Nat) (h15 : Nat) (h16 : Nat) (h17 : Nat) (k2 : ClassId) (k3 : ClassId) (k5 : ClassId) (k12 : ClassId) (k19 : ClassId) (k20 : ClassId) (k21 : ClassId) (k22 : ClassId) (k23 : ClassId) (k25 : ClassId) (sz : Nat) (v0 : Nat → Int32) (v18 : Nat → Int32) (v1 : Nat → Int32) (f2 : Nat → Int32) (f3 : Nat → Int32) (v4 : Nat → Int32) (f5 : Nat → Int64) (v11 : Nat → Int32) (f12 : Nat → Int64) (f19 : Nat → Int32) (f20 : Nat → Int32) (f21 : Nat → Int32) (f22 : Nat → Int32) (f23 : Nat → Int32) (f25 : Nat → Int32) (x1 : Int32) (hv0 : zR rg_Parser v0) (hv18 : zR rg_Query v18) (hv1 : zR rg_Tape v1) (hv4 : zR rg_Words400 v4) (hv11 : zR rg_Words10 v11) (hf25 : zA 0 12000 f25) : Met l yX4_readToken (zw yX4_readToken cX4_readToken 7 none) { frames := 8, cells := 0, slots := 0, locals := 173 } (zPc dC dI adK adV [.ref h0, .int x1] sz [(h0, .inr (4, mX4 h1 h4 h11 h18 v0)), (h18, .inr (7, mX7 h19 h20 h21 h22 h23 h24 h25 v18)), (h1, .inr (9, mX9 h2 h3 v1)), (h2, zi k2 600 f2), (h3, zi k3 12 f3), (h4, .inr (10, mX10 h5 h6 h7 h8 h9 h10 v4)), (h5, .inl (k5, 400, .inr (.inl f5))), (h11, .inr (10, mX10 h12 h13 h14 h15 h16 h17 v11)), (h12, .inl (k12, 10, .inr (.inl f12))), (h19, zi k19 40 f19), (h20, zi k20 40 f20), (h21, zi k21 40 f21), (h22, zi k22 40 f22), (h23, zi k23 40 f23), (h25, zi k25 270 f25)] [(k2, .byte), (k3, .byte), (k5, .long), (k12, .long), (k19, .int), (k20, .int), (k21, .int), (k22, .int), (k23, .boolean), (k25, .int)]) (va_Qv (fun (u : Nat → Int32) => (0 ≤ (u 0).toInt ∧ (u 0).toInt ≤ 265) ∧ (0 ≤ (u 4).toInt ∧ (u 4).toInt ≤ 1) ∧ (1 ≤ (u 5).toInt ∧ (u 5).toInt ≤ 40) ∧ (0 ≤ (u 6).toInt ∧ (u 6).toInt ≤ 270) ∧ (0 ≤ (u 9).toInt ∧ (u 9).toInt ≤ 12)) (fun (u : Nat → Int32) (t : State) => ∃ (ww : Nat → Int64) (aa : Nat → Nat → Int32) (bb : Nat → Nat → Int64), zA 0 12000 (aa 6) ∧ va_P (dC, dI) vwCl [(h0, .inr (4, mX4 h1 h4 h11 h18 (upd (upd (upd (upd (upd v0 4 (u 0)) 5 (u 1)) 6 (u 2)) 7 (u 3)) 9 (u 4)))), (h18, .inr (7, mX7 h19 h20 h21 h22 h23 h24 h25 (upd (upd (upd (upd v18 7 (u 5)) 9 (u 6)) 10 (u 7)) 11 (u 8)))), (h1, .inr (9, mX9 h2 h3 (upd v1 3 (u 9)))), (h2, zi k2 600 f2), (h3, zi k3 12 (aa 0)), (h4, .inr (10, mX10 h5 h6 h7 h8 h9 h10 v4)), (h5, .inl (k5, 400, .inr (.inl f5))), (h11, .inr (10, mX10 h12 h13 h14 h15 h16 h17 v11)), (h12, .inl (k12, 10, .inr (.inl f12))), (h19, zi k19 40 (aa 1)), (h20, zi k20 40 (aa 2)), (h21, zi k21 40 (aa 3)), (h22, zi k22 40 (aa 4)), (h23, zi k23 40 (aa 5)), (h25, zi k25 270 (aa 6))] t.heap ∧ va_K (dC, dI) vwCl [(k2, .byte), (k3, .byte), (k5, .long), (k12, .long), (k19, .int), (k20, .int), (k21, .int), (k22, .int), (k23, .boolean), (k25, .int)] t ∧ va_D (va_A [(h0, .inr (4, mX4 h1 h4 h11 h18 v0)), (h18, .inr (7, mX7 h19 h20 h21 h22 h23 h24 h25 v18)), (h1, .inr (9, mX9 h2 h3 v1)), (h2, zi k2 600 f2), (h3, zi k3 12 f3), (h4, .inr (10, mX10 h5 h6 h7 h8 h9 h10 v4)), (h5, .inl (k5, 400, .inr (.inl f5))), (h11, .inr (10, mX10 h12 h13 h14 h15 h16 h17 v11)), (h12, .inl (k12, 10, .inr (.inl f12))), (h19, zi k19 40 f19), (h20, zi k20 40 f20), (h21, zi k21 40 f21), (h22, zi k22 40 f22), (h23, zi k23 40 f23), (h25, zi k25 270 f25)] sz) [(h0, .inr (4, mX4 h1 h4 h11 h18 (upd (upd (upd (upd (upd v0 4 (u 0)) 5 (u 1)) 6 (u 2)) 7 (u 3)) 9 (u 4)))), (h18, .inr (7, mX7 h19 h20 h21 h22 h23 h24 h25 (upd (upd (upd (upd v18 7 (u 5)) 9 (u 6)) 10 (u 7)) 11 (u 8)))), (h1, .inr (9, mX9 h2 h3 (upd v1 3 (u 9)))), (h2, zi k2 600 f2), (h3, zi k3 12 (aa 0)), (h4, .inr (10, mX10 h5 h6 h7 h8 h9 h10 v4)), (h5, .inl (k5, 400, .inr (.inl f5))), (h11, .inr (10, mX10 h12 h13 h14 h15 h16 h17 v11)), (h12, .inl (k12, 10, .inr (.inl f12))), (h19, zi k19 40 (aa 1)), (h20, zi k20 40 (aa 2)), (h21, zi k21 40 (aa 3)), (h22, zi k22 40 (aa 4)), (h23, zi k23 40 (aa 5)), (h25, zi k25 270 (aa 6))]) (va_A [(h0, .inr (4, mX4 h1 h4 h11 h18 v0)), (h18, .inr (7, mX7 h19 h20 h21 h22 h23 h24 h25 v18)), (h1, .inr (9, mX9 h2 h3 v1)), (h2, zi k2 600 f2), (h3, zi k3 12 f3), (h4, .inr (10, mX10 h5 h6 h7 h8 h9 h10 v4)), (h5, .inl (k5, 400, .inr (.inl f5))), (h11, .inr (10, mX10 h12 h13 h14 h15 h16 h17 v11)), (h12, .inl (k12, 10, .inr (.inl f12))), (h19, zi k19 40 f19), (h20, zi k20 40 f20), (h21, zi k21 40 f21), (h22, zi k22 40 f22), (h23, zi k23 40 f23), (h25, zi k25 270 f25)] sz)) 0 0 (va_A [(h0, .inr (4, mX4 h1 h4 h11 h18 v0)), (h18, .inr (7, mX7 h19 h20 h21 h22 h23 h24 h25 v18)), (h1, .inr (9, mX9 h2 h3 v1)), (h2, zi k2 600 f2), (h3, zi k3 12 f3), (h4, .inr (10, mX10 h5 h6 h7 h8 h9 h10 v4)), (h5, .inl (k5, 400, .inr (.inl f5))), (h11, .inr (10, mX10 h12 h13 h14 h15 h16 h17 v11)), (h12, .inl (k12, 10, .inr (.inl f12))), (h19, zi k19 40 f19), (h20, zi k20 40 f20), (h21, zi k21 40 f21), (h22, zi k22 40 f22), (h23, zi k23 40 f23), (h25, zi k25 270 f25)] sz) := by
  refine Met.ofW (cc := cX4_readToken) (maxL := 7) (ret := none) (by decide) rfl ?_
  intro p e s m args below meth c s₁ B hml hv
  obtain ⟨rfl, hsz, hP, hK, hD0, hE, hZ⟩ := hv
  have hx := B.exec
  have hb := B.bytes
  have hr := B.returns
  have hG : ∀ w ∈ zG, w.before _ s = true := fun w h => atoms_spec (ws := (zw yX4_readToken cX4_readToken 7 none)) B.pre w (List.mem_cons_of_mem _ h)
  have hown : s.vm.findClass RX4 = some m.cls := findClass_of_methodNamed B.named
  have hlocks := B.notSynchronized

  subst hsz
  have hD := hD0.self (sz := s.heap.size)
  generalize hAe : va_A [(h0, .inr (4, mX4 h1 h4 h11 h18 v0)), (h18, .inr (7, mX7 h19 h20 h21 h22 h23 h24 h25 v18)), (h1, .inr (9, mX9 h2 h3 v1)), (h2, zi k2 600 f2), (h3, zi k3 12 f3), (h4, .inr (10, mX10 h5 h6 h7 h8 h9 h10 v4)), (h5, .inl (k5, 400, .inr (.inl f5))), (h11, .inr (10, mX10 h12 h13 h14 h15 h16 h17 v11)), (h12, .inl (k12, 10, .inr (.inl f12))), (h19, zi k19 40 f19), (h20, zi k20 40 f20), (h21, zi k21 40 f21), (h22, zi k22 40 f22), (h23, zi k23 40 f23), (h25, zi k25 270 f25)] s.heap.size = A at hD hZ ⊢
  have hA : ∀ q : Nat, s.heap.size ≤ q → A q := fun q h => by rw [← hAe]; exact Or.inr h
  have hS : va_S A s.heap s.heap [] := va_S.rf
  have hl := lv_entry ([.ref h0, .int x1]) (n := 7) (Nat.le_of_ble_eq_true rfl)
  rw [lg_entry_eq]
  generalize (lg_sl ([.ref h0, .int x1]) ++ List.replicate (7 - (lg_sl ([.ref h0, .int x1])).length) Slot.unset).toArray = ls at hl ⊢
  have hl : lv_has ls 7 [(0, .ref h0), (1, .int x1)] := hl
  have b_ := zk_0
  have b_ := zk_1
  refine lv_aload_n hx hb dX4_readToken_0 rfl (lv_at hl 0 rfl) ?_
  have hPc := hP.sub (ws' := [(h0, .inr (4, mX4 h1 h4 h11 h18 v0)), (h18, .inr (7, mX7 h19 h20 h21 h22 h23 h24 h25 v18))]) [0, 1] rfl
  have hDc := hD.sub (ws' := [(h0, .inr (4, mX4 h1 h4 h11 h18 v0)), (h18, .inr (7, mX7 h19 h20 h21 h22 h23 h24 h25 v18))]) [0, 1] (by decide) rfl
  have hKc := hK.sub (tys' := []) [] rfl
  have hFc := va_free (wc := [(h0, .inr (4, mX4 h1 h4 h11 h18 v0)), (h18, .inr (7, mX7 h19 h20 h21 h22 h23 h24 h25 v18))]) hD hS hA [0, 1] rfl
  refine va_callv (va_runV (As := []) (rest := []) ⟨hx, hb, hml, hown, hG⟩ (sX4_testLeafRoom_0 l dC dI adK adV h0 h18 h1 h4 h11 h19 h20 h21 h22 h23 h24 h25 s.heap.size v0 v18 hv0 hv18) (cwV 0 hG (zgV zv1088 zv1090 zv24 zv137 zv1091) rfl rfl rfl (by decide +kernel) ⟨Nat.le_of_ble_eq_true rfl, Nat.le_of_ble_eq_true rfl⟩) ⟨zPc_blind, va_recv hKc hPc (ci := 4) (q0 := 0) rfl rfl, zPc_pre hPc hKc hDc hE hS hFc hZ⟩ rfl rfl hl.1 rfl (lv_room (Nat.le_of_ble_eq_true rfl)) dX4_readToken_1 ⟨Nat.le_of_ble_eq_true rfl, Nat.le_of_ble_eq_true rfl⟩) hS (fun q _ h => hFc q h) hFc (fun u1_ t H1 locs ht hvm hw hB hz1 hk1 hS => ?_)
  obtain ⟨w1_, a1_, b1_, hP1, hK1, hD1⟩ := hB
  rw [ht] at hP1
  obtain ⟨hP, hD⟩ := va_join (wr := [(h1, .inr (9, mX9 h2 h3 v1)), (h2, zi k2 600 f2), (h3, zi k3 12 f3), (h4, .inr (10, mX10 h5 h6 h7 h8 h9 h10 v4)), (h5, .inl (k5, 400, .inr (.inl f5))), (h11, .inr (10, mX10 h12 h13 h14 h15 h16 h17 v11)), (h12, .inl (k12, 10, .inr (.inl f12))), (h19, zi k19 40 f19), (h20, zi k20 40 f20), (h21, zi k21 40 f21), (h22, zi k22 40 f22), (h23, zi k23 40 f23), (h25, zi k25 270 f25)]) (w1 := [(h0, .inr (4, mX4 h1 h4 h11 h18 (upd (upd v0 4 (u1_ 0)) 7 (u1_ 1)))), (h18, .inr (7, mX7 h19 h20 h21 h22 h23 h24 h25 v18))]) hP hD [0, 1] [2, 3, 4, 5, 6, 7, 8, 9, 10, 11, 12, 13, 14] rfl rfl (by decide) (by decide) hk1 hFc hP1 hD1
  have hP : va_P (dC, dI) vwCl [(h0, .inr (4, mX4 h1 h4 h11 h18 (upd (upd v0 4 (u1_ 0)) 7 (u1_ 1)))), (h18, .inr (7, mX7 h19 h20 h21 h22 h23 h24 h25 v18)), (h1, .inr (9, mX9 h2 h3 v1)), (h2, zi k2 600 f2), (h3, zi k3 12 f3), (h4, .inr (10, mX10 h5 h6 h7 h8 h9 h10 v4)), (h5, .inl (k5, 400, .inr (.inl f5))), (h11, .inr (10, mX10 h12 h13 h14 h15 h16 h17 v11)), (h12, .inl (k12, 10, .inr (.inl f12))), (h19, zi k19 40 f19), (h20, zi k20 40 f20), (h21, zi k21 40 f21), (h22, zi k22 40 f22), (h23, zi k23 40 f23), (h25, zi k25 270 f25)] H1 := hP.sub [13, 14, 0, 1, 2, 3, 4, 5, 6, 7, 8, 9, 10, 11, 12] rfl
  have hD : va_D A [(h0, .inr (4, mX4 h1 h4 h11 h18 (upd (upd v0 4 (u1_ 0)) 7 (u1_ 1)))), (h18, .inr (7, mX7 h19 h20 h21 h22 h23 h24 h25 v18)), (h1, .inr (9, mX9 h2 h3 v1)), (h2, zi k2 600 f2), (h3, zi k3 12 f3), (h4, .inr (10, mX10 h5 h6 h7 h8 h9 h10 v4)), (h5, .inl (k5, 400, .inr (.inl f5))), (h11, .inr (10, mX10 h12 h13 h14 h15 h16 h17 v11)), (h12, .inl (k12, 10, .inr (.inl f12))), (h19, zi k19 40 f19), (h20, zi k20 40 f20), (h21, zi k21 40 f21), (h22, zi k22 40 f22), (h23, zi k23 40 f23), (h25, zi k25 270 f25)] := hD.sub [13, 14, 0, 1, 2, 3, 4, 5, 6, 7, 8, 9, 10, 11, 12] (by decide) rfl
  generalize H1 = H at hP hS ⊢
  clear hz1
  refine lv_aload_n hx hb dX4_readToken_4 rfl (lv_at hl 0 rfl) ?_
  refine va_get (D := (dC, dI)) (ci := 4) (v := .int (v0 5)) (C := RX4) (T := TX4) (N := 12) hx hb hG zuX4 hown hK hP 0 rfl rfl 5 (by decide) (hG _ zv413) (fun _ h9 => h9) rfl dX4_readToken_5 ?_
  refine lv_istore_n (lv' := [(2, .int (v0 5)), (0, .ref h0), (1, .int x1)]) hx hb dX4_readToken_8 rfl hl (by decide) rfl (fun ls hl => ?_)
  refine lv_aload_n hx hb dX4_readToken_9 rfl (lv_at hl 1 rfl) ?_
  have b_ : -2147483648 ≤ (u1_ 0).toInt ∧ (u1_ 0).toInt ≤ 2147483647 := ⟨zlo _, zhi _⟩
  have b_ : -2147483648 ≤ (u1_ 1).toInt ∧ (u1_ 1).toInt ≤ 2147483647 := ⟨zlo _, zhi _⟩
  have hPc := hP.sub (ws' := [(h0, .inr (4, mX4 h1 h4 h11 h18 (upd (upd v0 4 (u1_ 0)) 7 (u1_ 1)))), (h1, .inr (9, mX9 h2 h3 v1)), (h2, zi k2 600 f2)]) [0, 2, 3] rfl
  have hDc := hD.sub (ws' := [(h0, .inr (4, mX4 h1 h4 h11 h18 (upd (upd v0 4 (u1_ 0)) 7 (u1_ 1)))), (h1, .inr (9, mX9 h2 h3 v1)), (h2, zi k2 600 f2)]) [0, 2, 3] (by decide) rfl
  have hKc := hK.sub (tys' := [(k2, .byte)]) [0] rfl
  have hFc := va_free (wc := [(h0, .inr (4, mX4 h1 h4 h11 h18 (upd (upd v0 4 (u1_ 0)) 7 (u1_ 1)))), (h1, .inr (9, mX9 h2 h3 v1)), (h2, zi k2 600 f2)]) hD hS hA [0, 2, 3] rfl
  refine va_callv (va_runV (As := []) (rest := []) ⟨hx, hb, hml, hown, hG⟩ (sX4_next_0 l dC dI adK adV h0 h1 h2 h4 h11 h18 h3 k2 H.size (upd (upd v0 4 (u1_ 0)) 7 (u1_ 1)) v1 f2 (zR_updF (zR_updF hv0 4 rfl) 7 rfl) hv1) (cwV 0 hG (zgV zv1013 zv1015 zv11 zv137 zv1016) rfl rfl rfl (by decide +kernel) ⟨Nat.le_of_ble_eq_true rfl, Nat.le_of_ble_eq_true rfl⟩) ⟨zPc_blind, va_recv hKc hPc (ci := 4) (q0 := 0) rfl rfl, zPc_pre hPc hKc hDc hE hS hFc hZ⟩ rfl rfl hl.1 rfl (lv_room (Nat.le_of_ble_eq_true rfl)) dX4_readToken_10 ⟨Nat.le_of_ble_eq_true rfl, Nat.le_of_ble_eq_true rfl⟩) hS (fun q _ h => hFc q h) hFc (fun u10_ t H1 locs ht hvm hw hB hz1 hk1 hS => ?_)
  replace hw : (0 ≤ (u10_ 0).toInt ∧ (u10_ 0).toInt ≤ 265) := hw
  have b_ := hw
  obtain ⟨w10_, a10_, b10_, hP1, hK1, hD1⟩ := hB
  rw [ht] at hP1
  obtain ⟨hP, hD⟩ := va_join (wr := [(h18, .inr (7, mX7 h19 h20 h21 h22 h23 h24 h25 v18)), (h3, zi k3 12 f3), (h4, .inr (10, mX10 h5 h6 h7 h8 h9 h10 v4)), (h5, .inl (k5, 400, .inr (.inl f5))), (h11, .inr (10, mX10 h12 h13 h14 h15 h16 h17 v11)), (h12, .inl (k12, 10, .inr (.inl f12))), (h19, zi k19 40 f19), (h20, zi k20 40 f20), (h21, zi k21 40 f21), (h22, zi k22 40 f22), (h23, zi k23 40 f23), (h25, zi k25 270 f25)]) (w1 := [(h0, .inr (4, mX4 h1 h4 h11 h18 (upd (upd (upd (upd v0 4 (u10_ 0)) 5 (u10_ 1)) 6 (u10_ 2)) 7 (u10_ 3)))), (h1, .inr (9, mX9 h2 h3 v1)), (h2, zi k2 600 f2)]) hP hD [0, 2, 3] [1, 4, 5, 6, 7, 8, 9, 10, 11, 12, 13, 14] rfl rfl (by decide) (by decide) hk1 hFc hP1 hD1
  have hP : va_P (dC, dI) vwCl [(h0, .inr (4, mX4 h1 h4 h11 h18 (upd (upd (upd (upd v0 4 (u10_ 0)) 5 (u10_ 1)) 6 (u10_ 2)) 7 (u10_ 3)))), (h18, .inr (7, mX7 h19 h20 h21 h22 h23 h24 h25 v18)), (h1, .inr (9, mX9 h2 h3 v1)), (h2, zi k2 600 f2), (h3, zi k3 12 f3), (h4, .inr (10, mX10 h5 h6 h7 h8 h9 h10 v4)), (h5, .inl (k5, 400, .inr (.inl f5))), (h11, .inr (10, mX10 h12 h13 h14 h15 h16 h17 v11)), (h12, .inl (k12, 10, .inr (.inl f12))), (h19, zi k19 40 f19), (h20, zi k20 40 f20), (h21, zi k21 40 f21), (h22, zi k22 40 f22), (h23, zi k23 40 f23), (h25, zi k25 270 f25)] H1 := hP.sub [12, 0, 13, 14, 1, 2, 3, 4, 5, 6, 7, 8, 9, 10, 11] rfl
  have hD : va_D A [(h0, .inr (4, mX4 h1 h4 h11 h18 (upd (upd (upd (upd v0 4 (u10_ 0)) 5 (u10_ 1)) 6 (u10_ 2)) 7 (u10_ 3)))), (h18, .inr (7, mX7 h19 h20 h21 h22 h23 h24 h25 v18)), (h1, .inr (9, mX9 h2 h3 v1)), (h2, zi k2 600 f2), (h3, zi k3 12 f3), (h4, .inr (10, mX10 h5 h6 h7 h8 h9 h10 v4)), (h5, .inl (k5, 400, .inr (.inl f5))), (h11, .inr (10, mX10 h12 h13 h14 h15 h16 h17 v11)), (h12, .inl (k12, 10, .inr (.inl f12))), (h19, zi k19 40 f19), (h20, zi k20 40 f20), (h21, zi k21 40 f21), (h22, zi k22 40 f22), (h23, zi k23 40 f23), (h25, zi k25 270 f25)] := hD.sub [12, 0, 13, 14, 1, 2, 3, 4, 5, 6, 7, 8, 9, 10, 11] (by decide) rfl
  generalize H1 = H at hP hS ⊢
  clear hz1
  refine lv_aload_n hx hb dX4_readToken_13 rfl (lv_at hl 1 rfl) ?_
  refine lv_aload_n hx hb dX4_readToken_14 rfl (lv_at hl 1 rfl) ?_
  refine va_get (D := (dC, dI)) (ci := 4) (v := .int (u10_ 0)) (C := RX4) (T := TX4) (N := 12) hx hb hG zuX4 hown hK hP 0 rfl rfl 4 (by decide) (hG _ zv412) (fun _ h9 => h9) rfl dX4_readToken_15 ?_
  refine lv_bipush (v := 42) hx hb dX4_readToken_18 (by decide) ?_
  refine zcutW (fun H locs ls u28_ w28_ a28_ b28_ => va_P (dC, dI) vwCl [(h0, .inr (4, mX4 h1 h4 h11 h18 (upd (upd (upd (upd v0 4 (u10_ 0)) 5 (u10_ 1)) 6 (u10_ 2)) 7 (u10_ 3)))), (h18, .inr (7, mX7 h19 h20 h21 h22 h23 h24 h25 v18)), (h1, .inr (9, mX9 h2 h3 v1)), (h2, zi k2 600 f2), (h3, zi k3 12 f3), (h4, .inr (10, mX10 h5 h6 h7 h8 h9 h10 v4)), (h5, .inl (k5, 400, .inr (.inl f5))), (h11, .inr (10, mX10 h12 h13 h14 h15 h16 h17 v11)), (h12, .inl (k12, 10, .inr (.inl f12))), (h19, zi k19 40 f19), (h20, zi k20 40 f20), (h21, zi k21 40 f21), (h22, zi k22 40 f22), (h23, zi k23 40 f23), (h25, zi k25 270 f25)] H ∧ va_D A [(h0, .inr (4, mX4 h1 h4 h11 h18 (upd (upd (upd (upd v0 4 (u10_ 0)) 5 (u10_ 1)) 6 (u10_ 2)) 7 (u10_ 3)))), (h18, .inr (7, mX7 h19 h20 h21 h22 h23 h24 h25 v18)), (h1, .inr (9, mX9 h2 h3 v1)), (h2, zi k2 600 f2), (h3, zi k3 12 f3), (h4, .inr (10, mX10 h5 h6 h7 h8 h9 h10 v4)), (h5, .inl (k5, 400, .inr (.inl f5))), (h11, .inr (10, mX10 h12 h13 h14 h15 h16 h17 v11)), (h12, .inl (k12, 10, .inr (.inl f12))), (h19, zi k19 40 f19), (h20, zi k20 40 f20), (h21, zi k21 40 f21), (h22, zi k22 40 f22), (h23, zi k23 40 f23), (h25, zi k25 270 f25)] ∧ va_S A s.heap H locs ∧ lv_has ls 7 [(0, .ref h0), (1, .int x1), (2, .int (v0 5))] ∧ (0 ≤ (u28_ 0).toInt ∧ (u28_ 0).toInt ≤ 1)) (fun ls u28_ w28_ => F0 m 28 ls [.int (u28_ 0), .ref h0]) 0 0 ?_ (fun hJ28 => ?_)
  · skip
    intro H locs ls u28_ w28_ a28_ b28_ hc
    obtain ⟨hP, hD, hS, hl, b_⟩ := hc
    refine va_put (D := (dC, dI)) (ci := 4) (v := .int (u28_ 0)) (ty := .boolean) (C := RX4) (T := TX4) (N := 12) hx hb hG zuX4 tyX4 tyX4_ok nmX4 hown hK hP hD hS 0 rfl rfl 9 (by decide) (hG _ zv417) (fun _ h9 => h9) rfl (by decide +kernel) (zbn ⟨by omega, by omega⟩) (zbf ⟨by omega, by omega⟩) (Nat.le_of_ble_eq_true rfl) dX4_readToken_28 (fun H locs hP hD hS => ?_)
    have hP : va_P (dC, dI) vwCl [(h0, .inr (4, mX4 h1 h4 h11 h18 (upd (upd (upd (upd (upd v0 4 (u10_ 0)) 5 (u10_ 1)) 6 (u10_ 2)) 7 (u10_ 3)) 9 (u28_ 0)))), (h18, .inr (7, mX7 h19 h20 h21 h22 h23 h24 h25 v18)), (h1, .inr (9, mX9 h2 h3 v1)), (h2, zi k2 600 f2), (h3, zi k3 12 f3), (h4, .inr (10, mX10 h5 h6 h7 h8 h9 h10 v4)), (h5, .inl (k5, 400, .inr (.inl f5))), (h11, .inr (10, mX10 h12 h13 h14 h15 h16 h17 v11)), (h12, .inl (k12, 10, .inr (.inl f12))), (h19, zi k19 40 f19), (h20, zi k20 40 f20), (h21, zi k21 40 f21), (h22, zi k22 40 f22), (h23, zi k23 40 f23), (h25, zi k25 270 f25)] H := hP
    have hD : va_D A [(h0, .inr (4, mX4 h1 h4 h11 h18 (upd (upd (upd (upd (upd v0 4 (u10_ 0)) 5 (u10_ 1)) 6 (u10_ 2)) 7 (u10_ 3)) 9 (u28_ 0)))), (h18, .inr (7, mX7 h19 h20 h21 h22 h23 h24 h25 v18)), (h1, .inr (9, mX9 h2 h3 v1)), (h2, zi k2 600 f2), (h3, zi k3 12 f3), (h4, .inr (10, mX10 h5 h6 h7 h8 h9 h10 v4)), (h5, .inl (k5, 400, .inr (.inl f5))), (h11, .inr (10, mX10 h12 h13 h14 h15 h16 h17 v11)), (h12, .inl (k12, 10, .inr (.inl f12))), (h19, zi k19 40 f19), (h20, zi k20 40 f20), (h21, zi k21 40 f21), (h22, zi k22 40 f22), (h23, zi k23 40 f23), (h25, zi k25 270 f25)] := hD
    refine lv_aload_n hx hb dX4_readToken_31 rfl (lv_at hl 0 rfl) ?_
    refine va_get (D := (dC, dI)) (ci := 4) (v := .int (u28_ 0)) (C := RX4) (T := TX4) (N := 12) hx hb hG zuX4 hown hK hP 0 rfl rfl 9 (by decide) (hG _ zv417) (fun _ h9 => h9) rfl dX4_readToken_32 ?_
    refine lv_if_eq (tgt := 72) hx hb dX4_readToken_35 (by decide) (fun c_ => ?_) (fun c_ => ?_)
    · skip
      have b_ := zT_eq rfl zk_0 c_
      refine lv_aload_n hx hb dX4_readToken_72 rfl (lv_at hl 0 rfl) ?_
      refine va_get (D := (dC, dI)) (ci := 4) (v := .ref h1) (C := RX4) (T := TX4) (N := 12) hx hb hG zuX4 hown hK hP 0 rfl rfl 0 (by decide) (hG _ zv408) (fun _ h9 => h9) rfl dX4_readToken_73 ?_
      refine lv_iload_n hx hb dX4_readToken_76 rfl (lv_at hl 2 rfl) ?_
      have hPc := hP.sub (ws' := [(h1, .inr (9, mX9 h2 h3 v1)), (h2, zi k2 600 f2), (h3, zi k3 12 f3)]) [2, 3, 4] rfl
      have hDc := hD.sub (ws' := [(h1, .inr (9, mX9 h2 h3 v1)), (h2, zi k2 600 f2), (h3, zi k3 12 f3)]) [2, 3, 4] (by decide) rfl
      have hKc := hK.sub (tys' := [(k2, .byte), (k3, .byte)]) [0, 1] rfl
      have hFc := va_free (wc := [(h1, .inr (9, mX9 h2 h3 v1)), (h2, zi k2 600 f2), (h3, zi k3 12 f3)]) hD hS hA [2, 3, 4] rfl
      refine va_calll (va_runV (As := [.int (v0 5)]) (rest := []) ⟨hx, hb, hml, hown, hG⟩ (sX9_startOf_0 l dC dI adK adV h1 h2 h3 k2 k3 H.size v1 f2 f3 (v0 5) hv1) (cwV 1 hG (zgV zv1145 zv1146 zv1147 zv130 zv1148) rfl rfl rfl (by decide +kernel) ⟨Nat.le_of_ble_eq_true rfl, Nat.le_of_ble_eq_true rfl⟩) ⟨zPc_blind, va_recv hKc hPc (ci := 9) (q0 := 0) rfl rfl, zPc_pre hPc hKc hDc hE hS hFc hZ⟩ rfl rfl hl.1 rfl (lv_room (Nat.le_of_ble_eq_true rfl)) dX4_readToken_77 ⟨Nat.le_of_ble_eq_true rfl, Nat.le_of_ble_eq_true rfl⟩) hS (fun q _ h => hFc q h) hFc (fun r77_ u77_ t H1 locs ht hvm hw hB hz1 hk1 hS => ?_)
      replace hw : (0 ≤ (u77_ 0).toInt ∧ (u77_ 0).toInt ≤ 12) := hw
      have b_ := hw
      obtain ⟨w77_, a77_, b77_, hP1, hK1, hD1⟩ := hB
      rw [ht] at hP1
      obtain ⟨hP, hD⟩ := va_join (wr := [(h0, .inr (4, mX4 h1 h4 h11 h18 (upd (upd (upd (upd (upd v0 4 (u10_ 0)) 5 (u10_ 1)) 6 (u10_ 2)) 7 (u10_ 3)) 9 (u28_ 0)))), (h18, .inr (7, mX7 h19 h20 h21 h22 h23 h24 h25 v18)), (h4, .inr (10, mX10 h5 h6 h7 h8 h9 h10 v4)), (h5, .inl (k5, 400, .inr (.inl f5))), (h11, .inr (10, mX10 h12 h13 h14 h15 h16 h17 v11)), (h12, .inl (k12, 10, .inr (.inl f12))), (h19, zi k19 40 f19), (h20, zi k20 40 f20), (h21, zi k21 40 f21), (h22, zi k22 40 f22), (h23, zi k23 40 f23), (h25, zi k25 270 f25)]) (w1 := [(h1, .inr (9, mX9 h2 h3 (upd v1 3 (u77_ 0)))), (h2, zi k2 600 f2), (h3, zi k3 12 (a77_ 0))]) hP hD [2, 3, 4] [0, 1, 5, 6, 7, 8, 9, 10, 11, 12, 13, 14] rfl rfl (by decide) (by decide) hk1 hFc hP1 hD1
      have hP : va_P (dC, dI) vwCl [(h0, .inr (4, mX4 h1 h4 h11 h18 (upd (upd (upd (upd (upd v0 4 (u10_ 0)) 5 (u10_ 1)) 6 (u10_ 2)) 7 (u10_ 3)) 9 (u28_ 0)))), (h18, .inr (7, mX7 h19 h20 h21 h22 h23 h24 h25 v18)), (h1, .inr (9, mX9 h2 h3 (upd v1 3 (u77_ 0)))), (h2, zi k2 600 f2), (h3, zi k3 12 (a77_ 0)), (h4, .inr (10, mX10 h5 h6 h7 h8 h9 h10 v4)), (h5, .inl (k5, 400, .inr (.inl f5))), (h11, .inr (10, mX10 h12 h13 h14 h15 h16 h17 v11)), (h12, .inl (k12, 10, .inr (.inl f12))), (h19, zi k19 40 f19), (h20, zi k20 40 f20), (h21, zi k21 40 f21), (h22, zi k22 40 f22), (h23, zi k23 40 f23), (h25, zi k25 270 f25)] H1 := hP.sub [0, 1, 12, 13, 14, 2, 3, 4, 5, 6, 7, 8, 9, 10, 11] rfl
      have hD : va_D A [(h0, .inr (4, mX4 h1 h4 h11 h18 (upd (upd (upd (upd (upd v0 4 (u10_ 0)) 5 (u10_ 1)) 6 (u10_ 2)) 7 (u10_ 3)) 9 (u28_ 0)))), (h18, .inr (7, mX7 h19 h20 h21 h22 h23 h24 h25 v18)), (h1, .inr (9, mX9 h2 h3 (upd v1 3 (u77_ 0)))), (h2, zi k2 600 f2), (h3, zi k3 12 (a77_ 0)), (h4, .inr (10, mX10 h5 h6 h7 h8 h9 h10 v4)), (h5, .inl (k5, 400, .inr (.inl f5))), (h11, .inr (10, mX10 h12 h13 h14 h15 h16 h17 v11)), (h12, .inl (k12, 10, .inr (.inl f12))), (h19, zi k19 40 f19), (h20, zi k20 40 f20), (h21, zi k21 40 f21), (h22, zi k22 40 f22), (h23, zi k23 40 f23), (h25, zi k25 270 f25)] := hD.sub [0, 1, 12, 13, 14, 2, 3, 4, 5, 6, 7, 8, 9, 10, 11] (by decide) rfl
      generalize H1 = H at hP hS ⊢
      clear hz1
      refine lv_lstore_n (lv' := [(3, .long r77_), (0, .ref h0), (1, .int x1), (2, .int (v0 5))]) hx hb dX4_readToken_80 rfl hl (by decide) rfl (fun ls hl => ?_)
      refine lv_lload_n hx hb dX4_readToken_81 rfl (lv_at hl 0 rfl) ?_
      refine lv_aload_n hx hb dX4_readToken_82 rfl (lv_at hl 1 rfl) ?_
      refine va_get (D := (dC, dI)) (ci := 4) (v := .ref h1) (C := RX4) (T := TX4) (N := 12) hx hb hG zuX4 hown hK hP 0 rfl rfl 0 (by decide) (hG _ zv408) (fun _ h9 => h9) rfl dX4_readToken_83 ?_
      have hPc := hP.sub (ws' := [(h1, .inr (9, mX9 h2 h3 (upd v1 3 (u77_ 0))))]) [2] rfl
      have hDc := hD.sub (ws' := [(h1, .inr (9, mX9 h2 h3 (upd v1 3 (u77_ 0))))]) [2] (by decide) rfl
      have hKc := hK.sub (tys' := []) [] rfl
      have hFc := va_free (wc := [(h1, .inr (9, mX9 h2 h3 (upd v1 3 (u77_ 0))))]) hD hS hA [2] rfl
      refine va_calli (va_runV (As := []) (rest := [.long r77_]) ⟨hx, hb, hml, hown, hG⟩ (sX9_lettersRead_0 l dC dI adK adV h1 h2 h3 H.size (upd v1 3 (u77_ 0)) (zR_up2 hv1 3 (show (0 : Int) ≤ ((u77_ 0) : Int32).toInt ∧ ((u77_ 0) : Int32).toInt ≤ (12 : Int) from (by first | with_reducible assumption | exact ⟨by omega, by omega⟩)))) (cwV 0 hG (zgV zv1149 zv1150 zv1151 zv130 zv1152) rfl rfl rfl (by decide +kernel) ⟨Nat.le_of_ble_eq_true rfl, Nat.le_of_ble_eq_true rfl⟩) ⟨zPc_blind, va_recv hKc hPc (ci := 9) (q0 := 0) rfl rfl, zPc_pre hPc hKc hDc hE hS hFc hZ⟩ rfl rfl hl.1 rfl (lv_room (Nat.le_of_ble_eq_true rfl)) dX4_readToken_86 ⟨Nat.le_of_ble_eq_true rfl, Nat.le_of_ble_eq_true rfl⟩) hS (fun q _ h => hFc q h) hFc (fun r86_ u86_ t H1 locs ht hvm hw hB hz1 hk1 hS => ?_)
      replace hw : (0 ≤ r86_.toInt ∧ r86_.toInt ≤ 12) := hw
      have b_ := hw
      obtain ⟨w86_, a86_, b86_, hP1, hK1, hD1⟩ := hB
      rw [ht] at hP1
      obtain ⟨hP, hD⟩ := va_join (wr := [(h0, .inr (4, mX4 h1 h4 h11 h18 (upd (upd (upd (upd (upd v0 4 (u10_ 0)) 5 (u10_ 1)) 6 (u10_ 2)) 7 (u10_ 3)) 9 (u28_ 0)))), (h18, .inr (7, mX7 h19 h20 h21 h22 h23 h24 h25 v18)), (h2, zi k2 600 f2), (h3, zi k3 12 (a77_ 0)), (h4, .inr (10, mX10 h5 h6 h7 h8 h9 h10 v4)), (h5, .inl (k5, 400, .inr (.inl f5))), (h11, .inr (10, mX10 h12 h13 h14 h15 h16 h17 v11)), (h12, .inl (k12, 10, .inr (.inl f12))), (h19, zi k19 40 f19), (h20, zi k20 40 f20), (h21, zi k21 40 f21), (h22, zi k22 40 f22), (h23, zi k23 40 f23), (h25, zi k25 270 f25)]) (w1 := [(h1, .inr (9, mX9 h2 h3 (upd v1 3 (u77_ 0))))]) hP hD [2] [0, 1, 3, 4, 5, 6, 7, 8, 9, 10, 11, 12, 13, 14] rfl rfl (by decide) (by decide) hk1 hFc hP1 hD1
      have hP : va_P (dC, dI) vwCl [(h0, .inr (4, mX4 h1 h4 h11 h18 (upd (upd (upd (upd (upd v0 4 (u10_ 0)) 5 (u10_ 1)) 6 (u10_ 2)) 7 (u10_ 3)) 9 (u28_ 0)))), (h18, .inr (7, mX7 h19 h20 h21 h22 h23 h24 h25 v18)), (h1, .inr (9, mX9 h2 h3 (upd v1 3 (u77_ 0)))), (h2, zi k2 600 f2), (h3, zi k3 12 (a77_ 0)), (h4, .inr (10, mX10 h5 h6 h7 h8 h9 h10 v4)), (h5, .inl (k5, 400, .inr (.inl f5))), (h11, .inr (10, mX10 h12 h13 h14 h15 h16 h17 v11)), (h12, .inl (k12, 10, .inr (.inl f12))), (h19, zi k19 40 f19), (h20, zi k20 40 f20), (h21, zi k21 40 f21), (h22, zi k22 40 f22), (h23, zi k23 40 f23), (h25, zi k25 270 f25)] H1 := hP.sub [0, 1, 14, 2, 3, 4, 5, 6, 7, 8, 9, 10, 11, 12, 13] rfl
      have hD : va_D A [(h0, .inr (4, mX4 h1 h4 h11 h18 (upd (upd (upd (upd (upd v0 4 (u10_ 0)) 5 (u10_ 1)) 6 (u10_ 2)) 7 (u10_ 3)) 9 (u28_ 0)))), (h18, .inr (7, mX7 h19 h20 h21 h22 h23 h24 h25 v18)), (h1, .inr (9, mX9 h2 h3 (upd v1 3 (u77_ 0)))), (h2, zi k2 600 f2), (h3, zi k3 12 (a77_ 0)), (h4, .inr (10, mX10 h5 h6 h7 h8 h9 h10 v4)), (h5, .inl (k5, 400, .inr (.inl f5))), (h11, .inr (10, mX10 h12 h13 h14 h15 h16 h17 v11)), (h12, .inl (k12, 10, .inr (.inl f12))), (h19, zi k19 40 f19), (h20, zi k20 40 f20), (h21, zi k21 40 f21), (h22, zi k22 40 f22), (h23, zi k23 40 f23), (h25, zi k25 270 f25)] := hD.sub [0, 1, 14, 2, 3, 4, 5, 6, 7, 8, 9, 10, 11, 12, 13] (by decide) rfl
      generalize H1 = H at hP hS ⊢
      clear hz1
      have hPc := hP.sub (ws' := []) [] rfl
      have hDc := hD.sub (ws' := []) [] (by decide) rfl
      have hKc := hK.sub (tys' := []) [] rfl
      have hFc := va_free (wc := []) hD hS hA [] rfl
      refine va_calll (va_runS (As := [.long r77_, .int r86_]) (rest := []) ⟨hx, hb, hml, hown, hG⟩ (sX10_behindStart_0 l dC dI adK adV H.size r77_ r86_) (va_cwS 2 hG (zgS zv1153 zv1154 zv131 zv1155) rfl rfl rfl (by decide +kernel) ⟨Nat.le_of_ble_eq_true rfl, Nat.le_of_ble_eq_true rfl⟩) ⟨zPc_blind, zPc_pre hPc hKc hDc hE hS hFc hZ⟩ rfl rfl hl.1 rfl (lv_room (Nat.le_of_ble_eq_true rfl)) dX4_readToken_89 ⟨Nat.le_of_ble_eq_true rfl, Nat.le_of_ble_eq_true rfl⟩) hS (fun q _ h => hFc q h) hFc (fun r89_ u89_ t H1 locs ht hvm hw hB hz1 hk1 hS => ?_)
      obtain ⟨w89_, a89_, b89_, hP1, hK1, hD1⟩ := hB
      rw [ht] at hP1
      obtain ⟨hP, hD⟩ := va_join (wr := [(h0, .inr (4, mX4 h1 h4 h11 h18 (upd (upd (upd (upd (upd v0 4 (u10_ 0)) 5 (u10_ 1)) 6 (u10_ 2)) 7 (u10_ 3)) 9 (u28_ 0)))), (h18, .inr (7, mX7 h19 h20 h21 h22 h23 h24 h25 v18)), (h1, .inr (9, mX9 h2 h3 (upd v1 3 (u77_ 0)))), (h2, zi k2 600 f2), (h3, zi k3 12 (a77_ 0)), (h4, .inr (10, mX10 h5 h6 h7 h8 h9 h10 v4)), (h5, .inl (k5, 400, .inr (.inl f5))), (h11, .inr (10, mX10 h12 h13 h14 h15 h16 h17 v11)), (h12, .inl (k12, 10, .inr (.inl f12))), (h19, zi k19 40 f19), (h20, zi k20 40 f20), (h21, zi k21 40 f21), (h22, zi k22 40 f22), (h23, zi k23 40 f23), (h25, zi k25 270 f25)]) (w1 := []) hP hD [] [0, 1, 2, 3, 4, 5, 6, 7, 8, 9, 10, 11, 12, 13, 14] rfl rfl (by decide) (by decide) hk1 hFc hP1 hD1
      have hP : va_P (dC, dI) vwCl [(h0, .inr (4, mX4 h1 h4 h11 h18 (upd (upd (upd (upd (upd v0 4 (u10_ 0)) 5 (u10_ 1)) 6 (u10_ 2)) 7 (u10_ 3)) 9 (u28_ 0)))), (h18, .inr (7, mX7 h19 h20 h21 h22 h23 h24 h25 v18)), (h1, .inr (9, mX9 h2 h3 (upd v1 3 (u77_ 0)))), (h2, zi k2 600 f2), (h3, zi k3 12 (a77_ 0)), (h4, .inr (10, mX10 h5 h6 h7 h8 h9 h10 v4)), (h5, .inl (k5, 400, .inr (.inl f5))), (h11, .inr (10, mX10 h12 h13 h14 h15 h16 h17 v11)), (h12, .inl (k12, 10, .inr (.inl f12))), (h19, zi k19 40 f19), (h20, zi k20 40 f20), (h21, zi k21 40 f21), (h22, zi k22 40 f22), (h23, zi k23 40 f23), (h25, zi k25 270 f25)] H1 := hP.sub [0, 1, 2, 3, 4, 5, 6, 7, 8, 9, 10, 11, 12, 13, 14] rfl
      have hD : va_D A [(h0, .inr (4, mX4 h1 h4 h11 h18 (upd (upd (upd (upd (upd v0 4 (u10_ 0)) 5 (u10_ 1)) 6 (u10_ 2)) 7 (u10_ 3)) 9 (u28_ 0)))), (h18, .inr (7, mX7 h19 h20 h21 h22 h23 h24 h25 v18)), (h1, .inr (9, mX9 h2 h3 (upd v1 3 (u77_ 0)))), (h2, zi k2 600 f2), (h3, zi k3 12 (a77_ 0)), (h4, .inr (10, mX10 h5 h6 h7 h8 h9 h10 v4)), (h5, .inl (k5, 400, .inr (.inl f5))), (h11, .inr (10, mX10 h12 h13 h14 h15 h16 h17 v11)), (h12, .inl (k12, 10, .inr (.inl f12))), (h19, zi k19 40 f19), (h20, zi k20 40 f20), (h21, zi k21 40 f21), (h22, zi k22 40 f22), (h23, zi k23 40 f23), (h25, zi k25 270 f25)] := hD.sub [0, 1, 2, 3, 4, 5, 6, 7, 8, 9, 10, 11, 12, 13, 14] (by decide) rfl
      generalize H1 = H at hP hS ⊢
      clear hz1
      refine lv_lstore (lv' := [(5, .long r89_), (3, .long r77_), (0, .ref h0), (1, .int x1), (2, .int (v0 5))]) hx hb dX4_readToken_92 hl (by decide) rfl (fun ls hl => ?_)
      refine lv_aload_n hx hb dX4_readToken_94 rfl (lv_at hl 2 rfl) ?_
      refine va_get (D := (dC, dI)) (ci := 4) (v := .ref h18) (C := RX4) (T := TX4) (N := 12) hx hb hG zuX4 hown hK hP 0 rfl rfl 3 (by decide) (hG _ zv411) (fun _ h9 => h9) rfl dX4_readToken_95 ?_
      refine lv_iconst (v := 2) hx hb dX4_readToken_98 (by decide) ?_
      refine lv_aload_n hx hb dX4_readToken_99 rfl (lv_at hl 2 rfl) ?_
      refine va_get (D := (dC, dI)) (ci := 4) (v := .ref h4) (C := RX4) (T := TX4) (N := 12) hx hb hG zuX4 hown hK hP 0 rfl rfl 1 (by decide) (hG _ zv409) (fun _ h9 => h9) rfl dX4_readToken_100 ?_
      refine lv_lload_n hx hb dX4_readToken_103 rfl (lv_at hl 1 rfl) ?_
      have hPc := hP.sub (ws' := [(h4, .inr (10, mX10 h5 h6 h7 h8 h9 h10 v4)), (h5, .inl (k5, 400, .inr (.inl f5)))]) [5, 6] rfl
      have hDc := hD.sub (ws' := [(h4, .inr (10, mX10 h5 h6 h7 h8 h9 h10 v4)), (h5, .inl (k5, 400, .inr (.inl f5)))]) [5, 6] (by decide) rfl
      have hKc := hK.sub (tys' := [(k5, .long)]) [2] rfl
      have hFc := va_free (wc := [(h4, .inr (10, mX10 h5 h6 h7 h8 h9 h10 v4)), (h5, .inl (k5, 400, .inr (.inl f5)))]) hD hS hA [5, 6] rfl
      refine va_calli (va_runV (As := [.long r77_]) (rest := [.int 2, .ref h18]) ⟨hx, hb, hml, hown, hG⟩ (sX10_rankAhead_1 l dC dI adK adV h4 h5 h6 h7 h8 h9 h10 k5 H.size v4 f5 r77_ hv4) (cwV 1 hG (zgV zv1156 zv744 zv745 zv131 zv746) rfl rfl rfl (by decide +kernel) ⟨Nat.le_of_ble_eq_true rfl, Nat.le_of_ble_eq_true rfl⟩) ⟨zPc_blind, va_recv hKc hPc (ci := 10) (q0 := 0) rfl rfl, zPc_pre hPc hKc hDc hE hS hFc hZ⟩ rfl rfl hl.1 rfl (lv_room (Nat.le_of_ble_eq_true rfl)) dX4_readToken_104 ⟨Nat.le_of_ble_eq_true rfl, Nat.le_of_ble_eq_true rfl⟩) hS (fun q _ h => hFc q h) hFc (fun r104_ u104_ t H1 locs ht hvm hw hB hz1 hk1 hS => ?_)
      replace hw : (0 ≤ r104_.toInt ∧ r104_.toInt ≤ 400) ∧ (r104_.toInt ≤ (v4 7).toInt) ∧ (zRk f5 (v4 7).toInt r77_.toInt r104_.toInt r104_.toInt) := hw
      obtain ⟨b_, hX104_0, hX104_1⟩ := hw
      obtain ⟨w104_, a104_, b104_, hP1, hK1, hD1⟩ := hB
      rw [ht] at hP1
      obtain ⟨hP, hD⟩ := va_join (wr := [(h0, .inr (4, mX4 h1 h4 h11 h18 (upd (upd (upd (upd (upd v0 4 (u10_ 0)) 5 (u10_ 1)) 6 (u10_ 2)) 7 (u10_ 3)) 9 (u28_ 0)))), (h18, .inr (7, mX7 h19 h20 h21 h22 h23 h24 h25 v18)), (h1, .inr (9, mX9 h2 h3 (upd v1 3 (u77_ 0)))), (h2, zi k2 600 f2), (h3, zi k3 12 (a77_ 0)), (h11, .inr (10, mX10 h12 h13 h14 h15 h16 h17 v11)), (h12, .inl (k12, 10, .inr (.inl f12))), (h19, zi k19 40 f19), (h20, zi k20 40 f20), (h21, zi k21 40 f21), (h22, zi k22 40 f22), (h23, zi k23 40 f23), (h25, zi k25 270 f25)]) (w1 := [(h4, .inr (10, mX10 h5 h6 h7 h8 h9 h10 v4)), (h5, .inl (k5, 400, .inr (.inl f5)))]) hP hD [5, 6] [0, 1, 2, 3, 4, 7, 8, 9, 10, 11, 12, 13, 14] rfl rfl (by decide) (by decide) hk1 hFc hP1 hD1
      have hP : va_P (dC, dI) vwCl [(h0, .inr (4, mX4 h1 h4 h11 h18 (upd (upd (upd (upd (upd v0 4 (u10_ 0)) 5 (u10_ 1)) 6 (u10_ 2)) 7 (u10_ 3)) 9 (u28_ 0)))), (h18, .inr (7, mX7 h19 h20 h21 h22 h23 h24 h25 v18)), (h1, .inr (9, mX9 h2 h3 (upd v1 3 (u77_ 0)))), (h2, zi k2 600 f2), (h3, zi k3 12 (a77_ 0)), (h4, .inr (10, mX10 h5 h6 h7 h8 h9 h10 v4)), (h5, .inl (k5, 400, .inr (.inl f5))), (h11, .inr (10, mX10 h12 h13 h14 h15 h16 h17 v11)), (h12, .inl (k12, 10, .inr (.inl f12))), (h19, zi k19 40 f19), (h20, zi k20 40 f20), (h21, zi k21 40 f21), (h22, zi k22 40 f22), (h23, zi k23 40 f23), (h25, zi k25 270 f25)] H1 := hP.sub [0, 1, 2, 3, 4, 13, 14, 5, 6, 7, 8, 9, 10, 11, 12] rfl
      have hD : va_D A [(h0, .inr (4, mX4 h1 h4 h11 h18 (upd (upd (upd (upd (upd v0 4 (u10_ 0)) 5 (u10_ 1)) 6 (u10_ 2)) 7 (u10_ 3)) 9 (u28_ 0)))), (h18, .inr (7, mX7 h19 h20 h21 h22 h23 h24 h25 v18)), (h1, .inr (9, mX9 h2 h3 (upd v1 3 (u77_ 0)))), (h2, zi k2 600 f2), (h3, zi k3 12 (a77_ 0)), (h4, .inr (10, mX10 h5 h6 h7 h8 h9 h10 v4)), (h5, .inl (k5, 400, .inr (.inl f5))), (h11, .inr (10, mX10 h12 h13 h14 h15 h16 h17 v11)), (h12, .inl (k12, 10, .inr (.inl f12))), (h19, zi k19 40 f19), (h20, zi k20 40 f20), (h21, zi k21 40 f21), (h22, zi k22 40 f22), (h23, zi k23 40 f23), (h25, zi k25 270 f25)] := hD.sub [0, 1, 2, 3, 4, 13, 14, 5, 6, 7, 8, 9, 10, 11, 12] (by decide) rfl
      generalize H1 = H at hP hS ⊢
      clear hz1
      refine lv_aload_n hx hb dX4_readToken_107 rfl (lv_at hl 2 rfl) ?_
      refine va_get (D := (dC, dI)) (ci := 4) (v := .ref h4) (C := RX4) (T := TX4) (N := 12) hx hb hG zuX4 hown hK hP 0 rfl rfl 1 (by decide) (hG _ zv409) (fun _ h9 => h9) rfl dX4_readToken_108 ?_
      refine lv_lload hx hb dX4_readToken_111 (lv_at hl 0 rfl) ?_
      have hPc := hP.sub (ws' := [(h4, .inr (10, mX10 h5 h6 h7 h8 h9 h10 v4)), (h5, .inl (k5, 400, .inr (.inl f5)))]) [5, 6] rfl
      have hDc := hD.sub (ws' := [(h4, .inr (10, mX10 h5 h6 h7 h8 h9 h10 v4)), (h5, .inl (k5, 400, .inr (.inl f5)))]) [5, 6] (by decide) rfl
      have hKc := hK.sub (tys' := [(k5, .long)]) [2] rfl
      have hFc := va_free (wc := [(h4, .inr (10, mX10 h5 h6 h7 h8 h9 h10 v4)), (h5, .inl (k5, 400, .inr (.inl f5)))]) hD hS hA [5, 6] rfl
      refine va_calli (va_runV (As := [.long r89_]) (rest := [.int r104_, .int 2, .ref h18]) ⟨hx, hb, hml, hown, hG⟩ (sX10_rankAhead_1 l dC dI adK adV h4 h5 h6 h7 h8 h9 h10 k5 H.size v4 f5 r89_ hv4) (cwV 1 hG (zgV zv1156 zv744 zv745 zv131 zv746) rfl rfl rfl (by decide +kernel) ⟨Nat.le_of_ble_eq_true rfl, Nat.le_of_ble_eq_true rfl⟩) ⟨zPc_blind, va_recv hKc hPc (ci := 10) (q0 := 0) rfl rfl, zPc_pre hPc hKc hDc hE hS hFc hZ⟩ rfl rfl hl.1 rfl (lv_room (Nat.le_of_ble_eq_true rfl)) dX4_readToken_113 ⟨Nat.le_of_ble_eq_true rfl, Nat.le_of_ble_eq_true rfl⟩) hS (fun q _ h => hFc q h) hFc (fun r113_ u113_ t H1 locs ht hvm hw hB hz1 hk1 hS => ?_)
      replace hw : (0 ≤ r113_.toInt ∧ r113_.toInt ≤ 400) ∧ (r113_.toInt ≤ (v4 7).toInt) ∧ (zRk f5 (v4 7).toInt r89_.toInt r113_.toInt r113_.toInt) := hw
      obtain ⟨b_, hX113_0, hX113_1⟩ := hw
      obtain ⟨w113_, a113_, b113_, hP1, hK1, hD1⟩ := hB
      rw [ht] at hP1
      obtain ⟨hP, hD⟩ := va_join (wr := [(h0, .inr (4, mX4 h1 h4 h11 h18 (upd (upd (upd (upd (upd v0 4 (u10_ 0)) 5 (u10_ 1)) 6 (u10_ 2)) 7 (u10_ 3)) 9 (u28_ 0)))), (h18, .inr (7, mX7 h19 h20 h21 h22 h23 h24 h25 v18)), (h1, .inr (9, mX9 h2 h3 (upd v1 3 (u77_ 0)))), (h2, zi k2 600 f2), (h3, zi k3 12 (a77_ 0)), (h11, .inr (10, mX10 h12 h13 h14 h15 h16 h17 v11)), (h12, .inl (k12, 10, .inr (.inl f12))), (h19, zi k19 40 f19), (h20, zi k20 40 f20), (h21, zi k21 40 f21), (h22, zi k22 40 f22), (h23, zi k23 40 f23), (h25, zi k25 270 f25)]) (w1 := [(h4, .inr (10, mX10 h5 h6 h7 h8 h9 h10 v4)), (h5, .inl (k5, 400, .inr (.inl f5)))]) hP hD [5, 6] [0, 1, 2, 3, 4, 7, 8, 9, 10, 11, 12, 13, 14] rfl rfl (by decide) (by decide) hk1 hFc hP1 hD1
      have hP : va_P (dC, dI) vwCl [(h0, .inr (4, mX4 h1 h4 h11 h18 (upd (upd (upd (upd (upd v0 4 (u10_ 0)) 5 (u10_ 1)) 6 (u10_ 2)) 7 (u10_ 3)) 9 (u28_ 0)))), (h18, .inr (7, mX7 h19 h20 h21 h22 h23 h24 h25 v18)), (h1, .inr (9, mX9 h2 h3 (upd v1 3 (u77_ 0)))), (h2, zi k2 600 f2), (h3, zi k3 12 (a77_ 0)), (h4, .inr (10, mX10 h5 h6 h7 h8 h9 h10 v4)), (h5, .inl (k5, 400, .inr (.inl f5))), (h11, .inr (10, mX10 h12 h13 h14 h15 h16 h17 v11)), (h12, .inl (k12, 10, .inr (.inl f12))), (h19, zi k19 40 f19), (h20, zi k20 40 f20), (h21, zi k21 40 f21), (h22, zi k22 40 f22), (h23, zi k23 40 f23), (h25, zi k25 270 f25)] H1 := hP.sub [0, 1, 2, 3, 4, 13, 14, 5, 6, 7, 8, 9, 10, 11, 12] rfl
      have hD : va_D A [(h0, .inr (4, mX4 h1 h4 h11 h18 (upd (upd (upd (upd (upd v0 4 (u10_ 0)) 5 (u10_ 1)) 6 (u10_ 2)) 7 (u10_ 3)) 9 (u28_ 0)))), (h18, .inr (7, mX7 h19 h20 h21 h22 h23 h24 h25 v18)), (h1, .inr (9, mX9 h2 h3 (upd v1 3 (u77_ 0)))), (h2, zi k2 600 f2), (h3, zi k3 12 (a77_ 0)), (h4, .inr (10, mX10 h5 h6 h7 h8 h9 h10 v4)), (h5, .inl (k5, 400, .inr (.inl f5))), (h11, .inr (10, mX10 h12 h13 h14 h15 h16 h17 v11)), (h12, .inl (k12, 10, .inr (.inl f12))), (h19, zi k19 40 f19), (h20, zi k20 40 f20), (h21, zi k21 40 f21), (h22, zi k22 40 f22), (h23, zi k23 40 f23), (h25, zi k25 270 f25)] := hD.sub [0, 1, 2, 3, 4, 13, 14, 5, 6, 7, 8, 9, 10, 11, 12] (by decide) rfl
      generalize H1 = H at hP hS ⊢
      clear hz1
      refine lv_iload_n hx hb dX4_readToken_116 rfl (lv_at hl 3 rfl) ?_
      refine lv_aload_n hx hb dX4_readToken_117 rfl (lv_at hl 2 rfl) ?_
      refine va_get (D := (dC, dI)) (ci := 4) (v := .int (v0 10)) (C := RX4) (T := TX4) (N := 12) hx hb hG zuX4 hown hK hP 0 rfl rfl 10 (by decide) (hG _ zv418) (fun _ h9 => h9) rfl dX4_readToken_118 ?_
      refine zcutW (fun H locs ls u129_ w129_ a129_ b129_ => va_P (dC, dI) vwCl [(h0, .inr (4, mX4 h1 h4 h11 h18 (upd (upd (upd (upd (upd v0 4 (u10_ 0)) 5 (u10_ 1)) 6 (u10_ 2)) 7 (u10_ 3)) 9 (u28_ 0)))), (h18, .inr (7, mX7 h19 h20 h21 h22 h23 h24 h25 v18)), (h1, .inr (9, mX9 h2 h3 (upd v1 3 (u77_ 0)))), (h2, zi k2 600 f2), (h3, zi k3 12 (a77_ 0)), (h4, .inr (10, mX10 h5 h6 h7 h8 h9 h10 v4)), (h5, .inl (k5, 400, .inr (.inl f5))), (h11, .inr (10, mX10 h12 h13 h14 h15 h16 h17 v11)), (h12, .inl (k12, 10, .inr (.inl f12))), (h19, zi k19 40 f19), (h20, zi k20 40 f20), (h21, zi k21 40 f21), (h22, zi k22 40 f22), (h23, zi k23 40 f23), (h25, zi k25 270 f25)] H ∧ va_D A [(h0, .inr (4, mX4 h1 h4 h11 h18 (upd (upd (upd (upd (upd v0 4 (u10_ 0)) 5 (u10_ 1)) 6 (u10_ 2)) 7 (u10_ 3)) 9 (u28_ 0)))), (h18, .inr (7, mX7 h19 h20 h21 h22 h23 h24 h25 v18)), (h1, .inr (9, mX9 h2 h3 (upd v1 3 (u77_ 0)))), (h2, zi k2 600 f2), (h3, zi k3 12 (a77_ 0)), (h4, .inr (10, mX10 h5 h6 h7 h8 h9 h10 v4)), (h5, .inl (k5, 400, .inr (.inl f5))), (h11, .inr (10, mX10 h12 h13 h14 h15 h16 h17 v11)), (h12, .inl (k12, 10, .inr (.inl f12))), (h19, zi k19 40 f19), (h20, zi k20 40 f20), (h21, zi k21 40 f21), (h22, zi k22 40 f22), (h23, zi k23 40 f23), (h25, zi k25 270 f25)] ∧ va_S A s.heap H locs ∧ lv_has ls 7 [(0, .ref h0), (1, .int x1), (2, .int (v0 5)), (3, .long r77_), (5, .long r89_)] ∧ (0 ≤ (u129_ 0).toInt ∧ (u129_ 0).toInt ≤ 1)) (fun ls u129_ w129_ => F0 m 129 ls [.int (u129_ 0), .int x1, .int r113_, .int r104_, .int 2, .ref h18]) 0 0 ?_ (fun hJ129 => ?_)
      · skip
        intro H locs ls u129_ w129_ a129_ b129_ hc
        obtain ⟨hP, hD, hS, hl, b_⟩ := hc
        have hPc := hP.sub (ws' := [(h18, .inr (7, mX7 h19 h20 h21 h22 h23 h24 h25 v18)), (h19, zi k19 40 f19), (h20, zi k20 40 f20), (h21, zi k21 40 f21), (h22, zi k22 40 f22), (h23, zi k23 40 f23), (h25, zi k25 270 f25)]) [1, 9, 10, 11, 12, 13, 14] rfl
        have hDc := hD.sub (ws' := [(h18, .inr (7, mX7 h19 h20 h21 h22 h23 h24 h25 v18)), (h19, zi k19 40 f19), (h20, zi k20 40 f20), (h21, zi k21 40 f21), (h22, zi k22 40 f22), (h23, zi k23 40 f23), (h25, zi k25 270 f25)]) [1, 9, 10, 11, 12, 13, 14] (by decide) rfl
        have hKc := hK.sub (tys' := [(k19, .int), (k20, .int), (k21, .int), (k22, .int), (k23, .boolean), (k25, .int)]) [4, 5, 6, 7, 8, 9] rfl
        have hFc := va_free (wc := [(h18, .inr (7, mX7 h19 h20 h21 h22 h23 h24 h25 v18)), (h19, zi k19 40 f19), (h20, zi k20 40 f20), (h21, zi k21 40 f21), (h22, zi k22 40 f22), (h23, zi k23 40 f23), (h25, zi k25 270 f25)]) hD hS hA [1, 9, 10, 11, 12, 13, 14] rfl
        refine va_callv (va_runV (As := [.int 2, .int r104_, .int r113_, .int x1, .int (u129_ 0)]) (rest := []) ⟨hx, hb, hml, hown, hG⟩ (sX7_addLeaf_0 l dC dI adK adV h18 h19 h20 h21 h22 h23 h25 h24 k19 k20 k21 k22 k23 k25 H.size v18 f19 f20 f21 f22 f23 f25 2 r104_ r113_ x1 (u129_ 0) hv18 hf25 ⟨show (1 : Int) ≤ (2 : Int32).toInt from by decide, show (2 : Int32).toInt ≤ (4 : Int) from by decide⟩ (show (0 : Int) ≤ ((u129_ 0) : Int32).toInt ∧ ((u129_ 0) : Int32).toInt ≤ (1 : Int) from (by first | with_reducible assumption | exact ⟨by omega, by omega⟩))) (cwV 5 hG (zgV zv1108 zv1109 zv1110 zv136 zv1111) rfl rfl rfl (by decide +kernel) ⟨Nat.le_of_ble_eq_true rfl, Nat.le_of_ble_eq_true rfl⟩) ⟨zPc_blind, va_recv hKc hPc (ci := 7) (q0 := 0) rfl rfl, zPc_pre hPc hKc hDc hE hS hFc hZ⟩ rfl rfl hl.1 rfl (lv_room (Nat.le_of_ble_eq_true rfl)) dX4_readToken_129 ⟨Nat.le_of_ble_eq_true rfl, Nat.le_of_ble_eq_true rfl⟩) hS (fun q _ h => hFc q h) hFc (fun u129_ t H1 locs ht hvm hw hB hz1 hk1 hS => ?_)
        replace hw : (1 ≤ (u129_ 0).toInt ∧ (u129_ 0).toInt ≤ 40) ∧ (0 ≤ (u129_ 1).toInt ∧ (u129_ 1).toInt ≤ 270) := hw
        obtain ⟨b_, b_⟩ := hw
        obtain ⟨w129_, a129_, b129_, ha129_5, hP1, hK1, hD1⟩ := hB
        rw [ht] at hP1
        obtain ⟨hP, hD⟩ := va_join (wr := [(h0, .inr (4, mX4 h1 h4 h11 h18 (upd (upd (upd (upd (upd v0 4 (u10_ 0)) 5 (u10_ 1)) 6 (u10_ 2)) 7 (u10_ 3)) 9 (u28_ 0)))), (h1, .inr (9, mX9 h2 h3 (upd v1 3 (u77_ 0)))), (h2, zi k2 600 f2), (h3, zi k3 12 (a77_ 0)), (h4, .inr (10, mX10 h5 h6 h7 h8 h9 h10 v4)), (h5, .inl (k5, 400, .inr (.inl f5))), (h11, .inr (10, mX10 h12 h13 h14 h15 h16 h17 v11)), (h12, .inl (k12, 10, .inr (.inl f12)))]) (w1 := [(h18, .inr (7, mX7 h19 h20 h21 h22 h23 h24 h25 (upd (upd (upd (upd v18 7 (u129_ 0)) 9 (u129_ 1)) 10 (u129_ 2)) 11 (u129_ 3)))), (h19, zi k19 40 (a129_ 0)), (h20, zi k20 40 (a129_ 1)), (h21, zi k21 40 (a129_ 2)), (h22, zi k22 40 (a129_ 3)), (h23, zi k23 40 (a129_ 4)), (h25, zi k25 270 (a129_ 5))]) hP hD [1, 9, 10, 11, 12, 13, 14] [0, 2, 3, 4, 5, 6, 7, 8] rfl rfl (by decide) (by decide) hk1 hFc hP1 hD1
        have hP : va_P (dC, dI) vwCl [(h0, .inr (4, mX4 h1 h4 h11 h18 (upd (upd (upd (upd (upd v0 4 (u10_ 0)) 5 (u10_ 1)) 6 (u10_ 2)) 7 (u10_ 3)) 9 (u28_ 0)))), (h18, .inr (7, mX7 h19 h20 h21 h22 h23 h24 h25 (upd (upd (upd (upd v18 7 (u129_ 0)) 9 (u129_ 1)) 10 (u129_ 2)) 11 (u129_ 3)))), (h1, .inr (9, mX9 h2 h3 (upd v1 3 (u77_ 0)))), (h2, zi k2 600 f2), (h3, zi k3 12 (a77_ 0)), (h4, .inr (10, mX10 h5 h6 h7 h8 h9 h10 v4)), (h5, .inl (k5, 400, .inr (.inl f5))), (h11, .inr (10, mX10 h12 h13 h14 h15 h16 h17 v11)), (h12, .inl (k12, 10, .inr (.inl f12))), (h19, zi k19 40 (a129_ 0)), (h20, zi k20 40 (a129_ 1)), (h21, zi k21 40 (a129_ 2)), (h22, zi k22 40 (a129_ 3)), (h23, zi k23 40 (a129_ 4)), (h25, zi k25 270 (a129_ 5))] H1 := hP.sub [0, 8, 1, 2, 3, 4, 5, 6, 7, 9, 10, 11, 12, 13, 14] rfl
        have hD : va_D A [(h0, .inr (4, mX4 h1 h4 h11 h18 (upd (upd (upd (upd (upd v0 4 (u10_ 0)) 5 (u10_ 1)) 6 (u10_ 2)) 7 (u10_ 3)) 9 (u28_ 0)))), (h18, .inr (7, mX7 h19 h20 h21 h22 h23 h24 h25 (upd (upd (upd (upd v18 7 (u129_ 0)) 9 (u129_ 1)) 10 (u129_ 2)) 11 (u129_ 3)))), (h1, .inr (9, mX9 h2 h3 (upd v1 3 (u77_ 0)))), (h2, zi k2 600 f2), (h3, zi k3 12 (a77_ 0)), (h4, .inr (10, mX10 h5 h6 h7 h8 h9 h10 v4)), (h5, .inl (k5, 400, .inr (.inl f5))), (h11, .inr (10, mX10 h12 h13 h14 h15 h16 h17 v11)), (h12, .inl (k12, 10, .inr (.inl f12))), (h19, zi k19 40 (a129_ 0)), (h20, zi k20 40 (a129_ 1)), (h21, zi k21 40 (a129_ 2)), (h22, zi k22 40 (a129_ 3)), (h23, zi k23 40 (a129_ 4)), (h25, zi k25 270 (a129_ 5))] := hD.sub [0, 8, 1, 2, 3, 4, 5, 6, 7, 9, 10, 11, 12, 13, 14] (by decide) rfl
        generalize H1 = H at hP hS ⊢
        clear hz1
        refine lv_aload_n hx hb dX4_readToken_132 rfl (lv_at hl 0 rfl) ?_
        have b_ : -2147483648 ≤ (u10_ 3).toInt ∧ (u10_ 3).toInt ≤ 2147483647 := ⟨zlo _, zhi _⟩
        have b_ : -2147483648 ≤ (u10_ 1).toInt ∧ (u10_ 1).toInt ≤ 2147483647 := ⟨zlo _, zhi _⟩
        have b_ : -2147483648 ≤ (u10_ 2).toInt ∧ (u10_ 2).toInt ≤ 2147483647 := ⟨zlo _, zhi _⟩
        have hPc := hP.sub (ws' := [(h0, .inr (4, mX4 h1 h4 h11 h18 (upd (upd (upd (upd (upd v0 4 (u10_ 0)) 5 (u10_ 1)) 6 (u10_ 2)) 7 (u10_ 3)) 9 (u28_ 0)))), (h1, .inr (9, mX9 h2 h3 (upd v1 3 (u77_ 0)))), (h2, zi k2 600 f2)]) [0, 2, 3] rfl
        have hDc := hD.sub (ws' := [(h0, .inr (4, mX4 h1 h4 h11 h18 (upd (upd (upd (upd (upd v0 4 (u10_ 0)) 5 (u10_ 1)) 6 (u10_ 2)) 7 (u10_ 3)) 9 (u28_ 0)))), (h1, .inr (9, mX9 h2 h3 (upd v1 3 (u77_ 0)))), (h2, zi k2 600 f2)]) [0, 2, 3] (by decide) rfl
        have hKc := hK.sub (tys' := [(k2, .byte)]) [0] rfl
        have hFc := va_free (wc := [(h0, .inr (4, mX4 h1 h4 h11 h18 (upd (upd (upd (upd (upd v0 4 (u10_ 0)) 5 (u10_ 1)) 6 (u10_ 2)) 7 (u10_ 3)) 9 (u28_ 0)))), (h1, .inr (9, mX9 h2 h3 (upd v1 3 (u77_ 0)))), (h2, zi k2 600 f2)]) hD hS hA [0, 2, 3] rfl
        refine va_callv (va_runV (As := []) (rest := []) ⟨hx, hb, hml, hown, hG⟩ (sX4_next_0 l dC dI adK adV h0 h1 h2 h4 h11 h18 h3 k2 H.size (upd (upd (upd (upd (upd v0 4 (u10_ 0)) 5 (u10_ 1)) 6 (u10_ 2)) 7 (u10_ 3)) 9 (u28_ 0)) (upd v1 3 (u77_ 0)) f2 (zR_up2 (zR_updF (zR_updF (zR_updF (zR_updF hv0 4 rfl) 5 rfl) 6 rfl) 7 rfl) 9 (show (0 : Int) ≤ ((u28_ 0) : Int32).toInt ∧ ((u28_ 0) : Int32).toInt ≤ (1 : Int) from (by first | with_reducible assumption | exact ⟨by omega, by omega⟩))) (zR_up2 hv1 3 (show (0 : Int) ≤ ((u77_ 0) : Int32).toInt ∧ ((u77_ 0) : Int32).toInt ≤ (12 : Int) from (by first | with_reducible assumption | exact ⟨by omega, by omega⟩)))) (cwV 0 hG (zgV zv1013 zv1015 zv11 zv137 zv1016) rfl rfl rfl (by decide +kernel) ⟨Nat.le_of_ble_eq_true rfl, Nat.le_of_ble_eq_true rfl⟩) ⟨zPc_blind, va_recv hKc hPc (ci := 4) (q0 := 0) rfl rfl, zPc_pre hPc hKc hDc hE hS hFc hZ⟩ rfl rfl hl.1 rfl (lv_room (Nat.le_of_ble_eq_true rfl)) dX4_readToken_133 ⟨Nat.le_of_ble_eq_true rfl, Nat.le_of_ble_eq_true rfl⟩) hS (fun q _ h => hFc q h) hFc (fun u133_ t H1 locs ht hvm hw hB hz1 hk1 hS => ?_)
        replace hw : (0 ≤ (u133_ 0).toInt ∧ (u133_ 0).toInt ≤ 265) := hw
        have b_ := hw
        obtain ⟨w133_, a133_, b133_, hP1, hK1, hD1⟩ := hB
        rw [ht] at hP1
        obtain ⟨hP, hD⟩ := va_join (wr := [(h18, .inr (7, mX7 h19 h20 h21 h22 h23 h24 h25 (upd (upd (upd (upd v18 7 (u129_ 0)) 9 (u129_ 1)) 10 (u129_ 2)) 11 (u129_ 3)))), (h3, zi k3 12 (a77_ 0)), (h4, .inr (10, mX10 h5 h6 h7 h8 h9 h10 v4)), (h5, .inl (k5, 400, .inr (.inl f5))), (h11, .inr (10, mX10 h12 h13 h14 h15 h16 h17 v11)), (h12, .inl (k12, 10, .inr (.inl f12))), (h19, zi k19 40 (a129_ 0)), (h20, zi k20 40 (a129_ 1)), (h21, zi k21 40 (a129_ 2)), (h22, zi k22 40 (a129_ 3)), (h23, zi k23 40 (a129_ 4)), (h25, zi k25 270 (a129_ 5))]) (w1 := [(h0, .inr (4, mX4 h1 h4 h11 h18 (upd (upd (upd (upd (upd v0 4 (u133_ 0)) 5 (u133_ 1)) 6 (u133_ 2)) 7 (u133_ 3)) 9 (u28_ 0)))), (h1, .inr (9, mX9 h2 h3 (upd v1 3 (u77_ 0)))), (h2, zi k2 600 f2)]) hP hD [0, 2, 3] [1, 4, 5, 6, 7, 8, 9, 10, 11, 12, 13, 14] rfl rfl (by decide) (by decide) hk1 hFc hP1 hD1
        have hP : va_P (dC, dI) vwCl [(h0, .inr (4, mX4 h1 h4 h11 h18 (upd (upd (upd (upd (upd v0 4 (u133_ 0)) 5 (u133_ 1)) 6 (u133_ 2)) 7 (u133_ 3)) 9 (u28_ 0)))), (h18, .inr (7, mX7 h19 h20 h21 h22 h23 h24 h25 (upd (upd (upd (upd v18 7 (u129_ 0)) 9 (u129_ 1)) 10 (u129_ 2)) 11 (u129_ 3)))), (h1, .inr (9, mX9 h2 h3 (upd v1 3 (u77_ 0)))), (h2, zi k2 600 f2), (h3, zi k3 12 (a77_ 0)), (h4, .inr (10, mX10 h5 h6 h7 h8 h9 h10 v4)), (h5, .inl (k5, 400, .inr (.inl f5))), (h11, .inr (10, mX10 h12 h13 h14 h15 h16 h17 v11)), (h12, .inl (k12, 10, .inr (.inl f12))), (h19, zi k19 40 (a129_ 0)), (h20, zi k20 40 (a129_ 1)), (h21, zi k21 40 (a129_ 2)), (h22, zi k22 40 (a129_ 3)), (h23, zi k23 40 (a129_ 4)), (h25, zi k25 270 (a129_ 5))] H1 := hP.sub [12, 0, 13, 14, 1, 2, 3, 4, 5, 6, 7, 8, 9, 10, 11] rfl
        have hD : va_D A [(h0, .inr (4, mX4 h1 h4 h11 h18 (upd (upd (upd (upd (upd v0 4 (u133_ 0)) 5 (u133_ 1)) 6 (u133_ 2)) 7 (u133_ 3)) 9 (u28_ 0)))), (h18, .inr (7, mX7 h19 h20 h21 h22 h23 h24 h25 (upd (upd (upd (upd v18 7 (u129_ 0)) 9 (u129_ 1)) 10 (u129_ 2)) 11 (u129_ 3)))), (h1, .inr (9, mX9 h2 h3 (upd v1 3 (u77_ 0)))), (h2, zi k2 600 f2), (h3, zi k3 12 (a77_ 0)), (h4, .inr (10, mX10 h5 h6 h7 h8 h9 h10 v4)), (h5, .inl (k5, 400, .inr (.inl f5))), (h11, .inr (10, mX10 h12 h13 h14 h15 h16 h17 v11)), (h12, .inl (k12, 10, .inr (.inl f12))), (h19, zi k19 40 (a129_ 0)), (h20, zi k20 40 (a129_ 1)), (h21, zi k21 40 (a129_ 2)), (h22, zi k22 40 (a129_ 3)), (h23, zi k23 40 (a129_ 4)), (h25, zi k25 270 (a129_ 5))] := hD.sub [12, 0, 13, 14, 1, 2, 3, 4, 5, 6, 7, 8, 9, 10, 11] (by decide) rfl
        generalize H1 = H at hP hS ⊢
        clear hz1
        refine W.widen (k := 0) (n := 0) (by decide) (by decide) ?_
        have b_ : -2147483648 ≤ (u133_ 1).toInt ∧ (u133_ 1).toInt ≤ 2147483647 := ⟨zlo _, zhi _⟩
        have b_ : -2147483648 ≤ (u133_ 2).toInt ∧ (u133_ 2).toInt ≤ 2147483647 := ⟨zlo _, zhi _⟩
        have b_ : -2147483648 ≤ (u133_ 3).toInt ∧ (u133_ 3).toInt ≤ 2147483647 := ⟨zlo _, zhi _⟩
        have b_ : -2147483648 ≤ (u129_ 2).toInt ∧ (u129_ 2).toInt ≤ 2147483647 := ⟨zlo _, zhi _⟩
        have b_ : -2147483648 ≤ (u129_ 3).toInt ∧ (u129_ 3).toInt ≤ 2147483647 := ⟨zlo _, zhi _⟩
        have hpost : (0 ≤ (u133_ 0).toInt ∧ (u133_ 0).toInt ≤ 265) ∧ (0 ≤ (u28_ 0).toInt ∧ (u28_ 0).toInt ≤ 1) ∧ (1 ≤ (u129_ 0).toInt ∧ (u129_ 0).toInt ≤ 40) ∧ (0 ≤ (u129_ 1).toInt ∧ (u129_ 1).toInt ≤ 270) ∧ (0 ≤ (u77_ 0).toInt ∧ (u77_ 0).toInt ≤ 12) := ⟨(by first | with_reducible assumption | exact ⟨by omega, by omega⟩), (by first | with_reducible assumption | exact ⟨by omega, by omega⟩), (by first | with_reducible assumption | exact ⟨by omega, by omega⟩), (by first | with_reducible assumption | exact ⟨by omega, by omega⟩), (by first | with_reducible assumption | exact ⟨by omega, by omega⟩)⟩
        have hP9 : va_P (dC, dI) vwCl [(h0, .inr (4, mX4 h1 h4 h11 h18 (upd (upd (upd (upd (upd v0 4 (u133_ 0)) 5 (u133_ 1)) 6 (u133_ 2)) 7 (u133_ 3)) 9 (u28_ 0)))), (h18, .inr (7, mX7 h19 h20 h21 h22 h23 h24 h25 (upd (upd (upd (upd v18 7 (u129_ 0)) 9 (u129_ 1)) 10 (u129_ 2)) 11 (u129_ 3)))), (h1, .inr (9, mX9 h2 h3 (upd v1 3 (u77_ 0)))), (h2, zi k2 600 f2), (h3, zi k3 12 (a77_ 0)), (h4, .inr (10, mX10 h5 h6 h7 h8 h9 h10 v4)), (h5, .inl (k5, 400, .inr (.inl f5))), (h11, .inr (10, mX10 h12 h13 h14 h15 h16 h17 v11)), (h12, .inl (k12, 10, .inr (.inl f12))), (h19, zi k19 40 (a129_ 0)), (h20, zi k20 40 (a129_ 1)), (h21, zi k21 40 (a129_ 2)), (h22, zi k22 40 (a129_ 3)), (h23, zi k23 40 (a129_ 4)), (h25, zi k25 270 (a129_ 5))] H := hP
        have hD9 : va_D A [(h0, .inr (4, mX4 h1 h4 h11 h18 (upd (upd (upd (upd (upd v0 4 (u133_ 0)) 5 (u133_ 1)) 6 (u133_ 2)) 7 (u133_ 3)) 9 (u28_ 0)))), (h18, .inr (7, mX7 h19 h20 h21 h22 h23 h24 h25 (upd (upd (upd (upd v18 7 (u129_ 0)) 9 (u129_ 1)) 10 (u129_ 2)) 11 (u129_ 3)))), (h1, .inr (9, mX9 h2 h3 (upd v1 3 (u77_ 0)))), (h2, zi k2 600 f2), (h3, zi k3 12 (a77_ 0)), (h4, .inr (10, mX10 h5 h6 h7 h8 h9 h10 v4)), (h5, .inl (k5, 400, .inr (.inl f5))), (h11, .inr (10, mX10 h12 h13 h14 h15 h16 h17 v11)), (h12, .inl (k12, 10, .inr (.inl f12))), (h19, zi k19 40 (a129_ 0)), (h20, zi k20 40 (a129_ 1)), (h21, zi k21 40 (a129_ 2)), (h22, zi k22 40 (a129_ 3)), (h23, zi k23 40 (a129_ 4)), (h25, zi k25 270 (a129_ 5))] := hD
        exact W.vret hx hb hr (fun t ht hW => ⟨⟨(fun i => ([(u133_ 0), (u133_ 1), (u133_ 2), (u133_ 3), (u28_ 0), (u129_ 0), (u129_ 1), (u129_ 2), (u129_ 3), (u77_ 0)] : List (Int32)).getD i 0), rfl, hpost, (fun _ => 0), (fun i => ([(a77_ 0), (a129_ 0), (a129_ 1), (a129_ 2), (a129_ 3), (a129_ 4), (a129_ 5)] : List (Nat → Int32)).getD i (fun _ => 0)), (fun _ => (fun _ => 0)), ha129_5, by rw [ht]; exact hP9, va_K.moved hW.alike hK, hD9⟩, hS.F ht⟩) hS.2.2 dX4_readToken_136
      · skip
        have b_ : -2147483648 ≤ (v0 10).toInt ∧ (v0 10).toInt ≤ 2147483647 := ⟨zlo _, zhi _⟩
        refine lv_if_ne (tgt := 128) hx hb dX4_readToken_121 (by decide) (fun c_ => ?_) (fun c_ => ?_)
        · skip
          have b_ := zT_ne rfl zk_0 c_
          refine lv_iconst (v := 0) hx hb dX4_readToken_128 (by decide) ?_
          have hc : va_P (dC, dI) vwCl [(h0, .inr (4, mX4 h1 h4 h11 h18 (upd (upd (upd (upd (upd v0 4 (u10_ 0)) 5 (u10_ 1)) 6 (u10_ 2)) 7 (u10_ 3)) 9 (u28_ 0)))), (h18, .inr (7, mX7 h19 h20 h21 h22 h23 h24 h25 v18)), (h1, .inr (9, mX9 h2 h3 (upd v1 3 (u77_ 0)))), (h2, zi k2 600 f2), (h3, zi k3 12 (a77_ 0)), (h4, .inr (10, mX10 h5 h6 h7 h8 h9 h10 v4)), (h5, .inl (k5, 400, .inr (.inl f5))), (h11, .inr (10, mX10 h12 h13 h14 h15 h16 h17 v11)), (h12, .inl (k12, 10, .inr (.inl f12))), (h19, zi k19 40 f19), (h20, zi k20 40 f20), (h21, zi k21 40 f21), (h22, zi k22 40 f22), (h23, zi k23 40 f23), (h25, zi k25 270 f25)] H ∧ va_D A [(h0, .inr (4, mX4 h1 h4 h11 h18 (upd (upd (upd (upd (upd v0 4 (u10_ 0)) 5 (u10_ 1)) 6 (u10_ 2)) 7 (u10_ 3)) 9 (u28_ 0)))), (h18, .inr (7, mX7 h19 h20 h21 h22 h23 h24 h25 v18)), (h1, .inr (9, mX9 h2 h3 (upd v1 3 (u77_ 0)))), (h2, zi k2 600 f2), (h3, zi k3 12 (a77_ 0)), (h4, .inr (10, mX10 h5 h6 h7 h8 h9 h10 v4)), (h5, .inl (k5, 400, .inr (.inl f5))), (h11, .inr (10, mX10 h12 h13 h14 h15 h16 h17 v11)), (h12, .inl (k12, 10, .inr (.inl f12))), (h19, zi k19 40 f19), (h20, zi k20 40 f20), (h21, zi k21 40 f21), (h22, zi k22 40 f22), (h23, zi k23 40 f23), (h25, zi k25 270 f25)] ∧ va_S A s.heap H locs ∧ lv_has ls 7 [(0, .ref h0), (1, .int x1), (2, .int (v0 5)), (3, .long r77_), (5, .long r89_)] ∧ (0 ≤ (0 : Int32).toInt ∧ (0 : Int32).toInt ≤ 1) := ⟨hP, hD, hS, lv_sub hl [2, 3, 4, 1, 0] rfl, (by first | with_reducible assumption | exact ⟨by omega, by omega⟩)⟩
          exact hJ129 H locs ls (fun i => ([0] : List (Int32)).getD i 0) (fun _ => 0) (fun _ => (fun _ => 0)) (fun _ => (fun _ => 0)) hc
        · skip
          have b_ := zF_ne rfl zk_0 c_
          refine lv_iconst (v := 1) hx hb dX4_readToken_124 (by decide) ?_
          refine lv_goto (tgt := 129) hx hb dX4_readToken_125 (by decide) ?_
          have hc : va_P (dC, dI) vwCl [(h0, .inr (4, mX4 h1 h4 h11 h18 (upd (upd (upd (upd (upd v0 4 (u10_ 0)) 5 (u10_ 1)) 6 (u10_ 2)) 7 (u10_ 3)) 9 (u28_ 0)))), (h18, .inr (7, mX7 h19 h20 h21 h22 h23 h24 h25 v18)), (h1, .inr (9, mX9 h2 h3 (upd v1 3 (u77_ 0)))), (h2, zi k2 600 f2), (h3, zi k3 12 (a77_ 0)), (h4, .inr (10, mX10 h5 h6 h7 h8 h9 h10 v4)), (h5, .inl (k5, 400, .inr (.inl f5))), (h11, .inr (10, mX10 h12 h13 h14 h15 h16 h17 v11)), (h12, .inl (k12, 10, .inr (.inl f12))), (h19, zi k19 40 f19), (h20, zi k20 40 f20), (h21, zi k21 40 f21), (h22, zi k22 40 f22), (h23, zi k23 40 f23), (h25, zi k25 270 f25)] H ∧ va_D A [(h0, .inr (4, mX4 h1 h4 h11 h18 (upd (upd (upd (upd (upd v0 4 (u10_ 0)) 5 (u10_ 1)) 6 (u10_ 2)) 7 (u10_ 3)) 9 (u28_ 0)))), (h18, .inr (7, mX7 h19 h20 h21 h22 h23 h24 h25 v18)), (h1, .inr (9, mX9 h2 h3 (upd v1 3 (u77_ 0)))), (h2, zi k2 600 f2), (h3, zi k3 12 (a77_ 0)), (h4, .inr (10, mX10 h5 h6 h7 h8 h9 h10 v4)), (h5, .inl (k5, 400, .inr (.inl f5))), (h11, .inr (10, mX10 h12 h13 h14 h15 h16 h17 v11)), (h12, .inl (k12, 10, .inr (.inl f12))), (h19, zi k19 40 f19), (h20, zi k20 40 f20), (h21, zi k21 40 f21), (h22, zi k22 40 f22), (h23, zi k23 40 f23), (h25, zi k25 270 f25)] ∧ va_S A s.heap H locs ∧ lv_has ls 7 [(0, .ref h0), (1, .int x1), (2, .int (v0 5)), (3, .long r77_), (5, .long r89_)] ∧ (0 ≤ (1 : Int32).toInt ∧ (1 : Int32).toInt ≤ 1) := ⟨hP, hD, hS, lv_sub hl [2, 3, 4, 1, 0] rfl, (by first | with_reducible assumption | exact ⟨by omega, by omega⟩)⟩
          exact hJ129 H locs ls (fun i => ([1] : List (Int32)).getD i 0) (fun _ => 0) (fun _ => (fun _ => 0)) (fun _ => (fun _ => 0)) hc
    · skip
      have b_ := zF_eq rfl zk_0 c_
      refine lv_aload_n hx hb dX4_readToken_38 rfl (lv_at hl 0 rfl) ?_
      refine lv_iload_n hx hb dX4_readToken_39 rfl (lv_at hl 2 rfl) ?_
      have b_ : -2147483648 ≤ (u10_ 3).toInt ∧ (u10_ 3).toInt ≤ 2147483647 := ⟨zlo _, zhi _⟩
      have b_ : -2147483648 ≤ (u10_ 1).toInt ∧ (u10_ 1).toInt ≤ 2147483647 := ⟨zlo _, zhi _⟩
      have b_ : -2147483648 ≤ (u10_ 2).toInt ∧ (u10_ 2).toInt ≤ 2147483647 := ⟨zlo _, zhi _⟩
      have hPc := hP.sub (ws' := [(h0, .inr (4, mX4 h1 h4 h11 h18 (upd (upd (upd (upd (upd v0 4 (u10_ 0)) 5 (u10_ 1)) 6 (u10_ 2)) 7 (u10_ 3)) 9 (u28_ 0)))), (h1, .inr (9, mX9 h2 h3 v1)), (h2, zi k2 600 f2), (h3, zi k3 12 f3), (h11, .inr (10, mX10 h12 h13 h14 h15 h16 h17 v11)), (h12, .inl (k12, 10, .inr (.inl f12))), (h4, .inr (10, mX10 h5 h6 h7 h8 h9 h10 v4)), (h5, .inl (k5, 400, .inr (.inl f5)))]) [0, 2, 3, 4, 7, 8, 5, 6] rfl
      have hDc := hD.sub (ws' := [(h0, .inr (4, mX4 h1 h4 h11 h18 (upd (upd (upd (upd (upd v0 4 (u10_ 0)) 5 (u10_ 1)) 6 (u10_ 2)) 7 (u10_ 3)) 9 (u28_ 0)))), (h1, .inr (9, mX9 h2 h3 v1)), (h2, zi k2 600 f2), (h3, zi k3 12 f3), (h11, .inr (10, mX10 h12 h13 h14 h15 h16 h17 v11)), (h12, .inl (k12, 10, .inr (.inl f12))), (h4, .inr (10, mX10 h5 h6 h7 h8 h9 h10 v4)), (h5, .inl (k5, 400, .inr (.inl f5)))]) [0, 2, 3, 4, 7, 8, 5, 6] (by decide) rfl
      have hKc := hK.sub (tys' := [(k2, .byte), (k3, .byte), (k12, .long), (k5, .long)]) [0, 1, 3, 2] rfl
      have hFc := va_free (wc := [(h0, .inr (4, mX4 h1 h4 h11 h18 (upd (upd (upd (upd (upd v0 4 (u10_ 0)) 5 (u10_ 1)) 6 (u10_ 2)) 7 (u10_ 3)) 9 (u28_ 0)))), (h1, .inr (9, mX9 h2 h3 v1)), (h2, zi k2 600 f2), (h3, zi k3 12 f3), (h11, .inr (10, mX10 h12 h13 h14 h15 h16 h17 v11)), (h12, .inl (k12, 10, .inr (.inl f12))), (h4, .inr (10, mX10 h5 h6 h7 h8 h9 h10 v4)), (h5, .inl (k5, 400, .inr (.inl f5)))]) hD hS hA [0, 2, 3, 4, 7, 8, 5, 6] rfl
      refine va_calli (va_runV (As := [.int (v0 5)]) (rest := []) ⟨hx, hb, hml, hown, hG⟩ (sX4_wantedWord_0 l dC dI adK adV h0 h1 h2 h3 h11 h12 h4 h5 h18 h13 h14 h15 h16 h17 h6 h7 h8 h9 h10 k2 k3 k12 k5 H.size (upd (upd (upd (upd (upd v0 4 (u10_ 0)) 5 (u10_ 1)) 6 (u10_ 2)) 7 (u10_ 3)) 9 (u28_ 0)) v1 f2 f3 v11 f12 v4 f5 (v0 5) (zR_up2 (zR_updF (zR_updF (zR_updF (zR_updF hv0 4 rfl) 5 rfl) 6 rfl) 7 rfl) 9 (show (0 : Int) ≤ ((u28_ 0) : Int32).toInt ∧ ((u28_ 0) : Int32).toInt ≤ (1 : Int) from (by first | with_reducible assumption | exact ⟨by omega, by omega⟩))) hv1 hv11 hv4) (cwV 1 hG (zgV zv1131 zv1133 zv28 zv137 zv1134) rfl rfl rfl (by decide +kernel) ⟨Nat.le_of_ble_eq_true rfl, Nat.le_of_ble_eq_true rfl⟩) ⟨zPc_blind, va_recv hKc hPc (ci := 4) (q0 := 0) rfl rfl, zPc_pre hPc hKc hDc hE hS hFc hZ⟩ rfl rfl hl.1 rfl (lv_room (Nat.le_of_ble_eq_true rfl)) dX4_readToken_40 ⟨Nat.le_of_ble_eq_true rfl, Nat.le_of_ble_eq_true rfl⟩) hS (fun q _ h => hFc q h) hFc (fun r40_ u40_ t H1 locs ht hvm hw hB hz1 hk1 hS => ?_)
      replace hw : ((-3) ≤ r40_.toInt ∧ r40_.toInt ≤ 399) ∧ (0 ≤ (u40_ 0).toInt ∧ (u40_ 0).toInt ≤ 12) := hw
      obtain ⟨b_, b_⟩ := hw
      obtain ⟨w40_, a40_, b40_, hP1, hK1, hD1⟩ := hB
      rw [ht] at hP1
      obtain ⟨hP, hD⟩ := va_join (wr := [(h18, .inr (7, mX7 h19 h20 h21 h22 h23 h24 h25 v18)), (h19, zi k19 40 f19), (h20, zi k20 40 f20), (h21, zi k21 40 f21), (h22, zi k22 40 f22), (h23, zi k23 40 f23), (h25, zi k25 270 f25)]) (w1 := [(h0, .inr (4, mX4 h1 h4 h11 h18 (upd (upd (upd (upd (upd v0 4 (u10_ 0)) 5 (u10_ 1)) 6 (u10_ 2)) 7 (u10_ 3)) 9 (u28_ 0)))), (h1, .inr (9, mX9 h2 h3 (upd v1 3 (u40_ 0)))), (h2, zi k2 600 f2), (h3, zi k3 12 (a40_ 0)), (h11, .inr (10, mX10 h12 h13 h14 h15 h16 h17 v11)), (h12, .inl (k12, 10, .inr (.inl f12))), (h4, .inr (10, mX10 h5 h6 h7 h8 h9 h10 v4)), (h5, .inl (k5, 400, .inr (.inl f5)))]) hP hD [0, 2, 3, 4, 7, 8, 5, 6] [1, 9, 10, 11, 12, 13, 14] rfl rfl (by decide) (by decide) hk1 hFc hP1 hD1
      have hP : va_P (dC, dI) vwCl [(h0, .inr (4, mX4 h1 h4 h11 h18 (upd (upd (upd (upd (upd v0 4 (u10_ 0)) 5 (u10_ 1)) 6 (u10_ 2)) 7 (u10_ 3)) 9 (u28_ 0)))), (h18, .inr (7, mX7 h19 h20 h21 h22 h23 h24 h25 v18)), (h1, .inr (9, mX9 h2 h3 (upd v1 3 (u40_ 0)))), (h2, zi k2 600 f2), (h3, zi k3 12 (a40_ 0)), (h4, .inr (10, mX10 h5 h6 h7 h8 h9 h10 v4)), (h5, .inl (k5, 400, .inr (.inl f5))), (h11, .inr (10, mX10 h12 h13 h14 h15 h16 h17 v11)), (h12, .inl (k12, 10, .inr (.inl f12))), (h19, zi k19 40 f19), (h20, zi k20 40 f20), (h21, zi k21 40 f21), (h22, zi k22 40 f22), (h23, zi k23 40 f23), (h25, zi k25 270 f25)] H1 := hP.sub [7, 0, 8, 9, 10, 13, 14, 11, 12, 1, 2, 3, 4, 5, 6] rfl
      have hD : va_D A [(h0, .inr (4, mX4 h1 h4 h11 h18 (upd (upd (upd (upd (upd v0 4 (u10_ 0)) 5 (u10_ 1)) 6 (u10_ 2)) 7 (u10_ 3)) 9 (u28_ 0)))), (h18, .inr (7, mX7 h19 h20 h21 h22 h23 h24 h25 v18)), (h1, .inr (9, mX9 h2 h3 (upd v1 3 (u40_ 0)))), (h2, zi k2 600 f2), (h3, zi k3 12 (a40_ 0)), (h4, .inr (10, mX10 h5 h6 h7 h8 h9 h10 v4)), (h5, .inl (k5, 400, .inr (.inl f5))), (h11, .inr (10, mX10 h12 h13 h14 h15 h16 h17 v11)), (h12, .inl (k12, 10, .inr (.inl f12))), (h19, zi k19 40 f19), (h20, zi k20 40 f20), (h21, zi k21 40 f21), (h22, zi k22 40 f22), (h23, zi k23 40 f23), (h25, zi k25 270 f25)] := hD.sub [7, 0, 8, 9, 10, 13, 14, 11, 12, 1, 2, 3, 4, 5, 6] (by decide) rfl
      generalize H1 = H at hP hS ⊢
      clear hz1
      refine lv_istore_n (lv' := [(3, .int r40_), (0, .ref h0), (1, .int x1), (2, .int (v0 5))]) hx hb dX4_readToken_43 rfl hl (by decide) rfl (fun ls hl => ?_)
      refine lv_aload_n hx hb dX4_readToken_44 rfl (lv_at hl 1 rfl) ?_
      refine va_get (D := (dC, dI)) (ci := 4) (v := .ref h18) (C := RX4) (T := TX4) (N := 12) hx hb hG zuX4 hown hK hP 0 rfl rfl 3 (by decide) (hG _ zv411) (fun _ h9 => h9) rfl dX4_readToken_45 ?_
      refine lv_iconst (v := 1) hx hb dX4_readToken_48 (by decide) ?_
      refine lv_iload_n hx hb dX4_readToken_49 rfl (lv_at hl 0 rfl) ?_
      refine lv_iload_n hx hb dX4_readToken_50 rfl (lv_at hl 0 rfl) ?_
      refine lv_iconst (v := 1) hx hb dX4_readToken_51 (by decide) ?_
      refine lv_iadd hx hb dX4_readToken_52 ?_
      refine lv_topi (fun z52 e_z52 => ?_)
      have b_ := zadd rfl zk_1 e_z52 (by omega) (by omega)
      refine lv_iload_n hx hb dX4_readToken_53 rfl (lv_at hl 2 rfl) ?_
      refine lv_aload_n hx hb dX4_readToken_54 rfl (lv_at hl 1 rfl) ?_
      refine va_get (D := (dC, dI)) (ci := 4) (v := .int (v0 10)) (C := RX4) (T := TX4) (N := 12) hx hb hG zuX4 hown hK hP 0 rfl rfl 10 (by decide) (hG _ zv418) (fun _ h9 => h9) rfl dX4_readToken_55 ?_
      refine zcutW (fun H locs ls u66_ w66_ a66_ b66_ => va_P (dC, dI) vwCl [(h0, .inr (4, mX4 h1 h4 h11 h18 (upd (upd (upd (upd (upd v0 4 (u10_ 0)) 5 (u10_ 1)) 6 (u10_ 2)) 7 (u10_ 3)) 9 (u28_ 0)))), (h18, .inr (7, mX7 h19 h20 h21 h22 h23 h24 h25 v18)), (h1, .inr (9, mX9 h2 h3 (upd v1 3 (u40_ 0)))), (h2, zi k2 600 f2), (h3, zi k3 12 (a40_ 0)), (h4, .inr (10, mX10 h5 h6 h7 h8 h9 h10 v4)), (h5, .inl (k5, 400, .inr (.inl f5))), (h11, .inr (10, mX10 h12 h13 h14 h15 h16 h17 v11)), (h12, .inl (k12, 10, .inr (.inl f12))), (h19, zi k19 40 f19), (h20, zi k20 40 f20), (h21, zi k21 40 f21), (h22, zi k22 40 f22), (h23, zi k23 40 f23), (h25, zi k25 270 f25)] H ∧ va_D A [(h0, .inr (4, mX4 h1 h4 h11 h18 (upd (upd (upd (upd (upd v0 4 (u10_ 0)) 5 (u10_ 1)) 6 (u10_ 2)) 7 (u10_ 3)) 9 (u28_ 0)))), (h18, .inr (7, mX7 h19 h20 h21 h22 h23 h24 h25 v18)), (h1, .inr (9, mX9 h2 h3 (upd v1 3 (u40_ 0)))), (h2, zi k2 600 f2), (h3, zi k3 12 (a40_ 0)), (h4, .inr (10, mX10 h5 h6 h7 h8 h9 h10 v4)), (h5, .inl (k5, 400, .inr (.inl f5))), (h11, .inr (10, mX10 h12 h13 h14 h15 h16 h17 v11)), (h12, .inl (k12, 10, .inr (.inl f12))), (h19, zi k19 40 f19), (h20, zi k20 40 f20), (h21, zi k21 40 f21), (h22, zi k22 40 f22), (h23, zi k23 40 f23), (h25, zi k25 270 f25)] ∧ va_S A s.heap H locs ∧ lv_has ls 7 [(0, .ref h0), (1, .int x1), (2, .int (v0 5)), (3, .int r40_)] ∧ (0 ≤ (u66_ 0).toInt ∧ (u66_ 0).toInt ≤ 1)) (fun ls u66_ w66_ => F0 m 66 ls [.int (u66_ 0), .int x1, .int z52, .int r40_, .int 1, .ref h18]) 0 0 ?_ (fun hJ66 => ?_)
      · skip
        intro H locs ls u66_ w66_ a66_ b66_ hc
        obtain ⟨hP, hD, hS, hl, b_⟩ := hc
        have hPc := hP.sub (ws' := [(h18, .inr (7, mX7 h19 h20 h21 h22 h23 h24 h25 v18)), (h19, zi k19 40 f19), (h20, zi k20 40 f20), (h21, zi k21 40 f21), (h22, zi k22 40 f22), (h23, zi k23 40 f23), (h25, zi k25 270 f25)]) [1, 9, 10, 11, 12, 13, 14] rfl
        have hDc := hD.sub (ws' := [(h18, .inr (7, mX7 h19 h20 h21 h22 h23 h24 h25 v18)), (h19, zi k19 40 f19), (h20, zi k20 40 f20), (h21, zi k21 40 f21), (h22, zi k22 40 f22), (h23, zi k23 40 f23), (h25, zi k25 270 f25)]) [1, 9, 10, 11, 12, 13, 14] (by decide) rfl
        have hKc := hK.sub (tys' := [(k19, .int), (k20, .int), (k21, .int), (k22, .int), (k23, .boolean), (k25, .int)]) [4, 5, 6, 7, 8, 9] rfl
        have hFc := va_free (wc := [(h18, .inr (7, mX7 h19 h20 h21 h22 h23 h24 h25 v18)), (h19, zi k19 40 f19), (h20, zi k20 40 f20), (h21, zi k21 40 f21), (h22, zi k22 40 f22), (h23, zi k23 40 f23), (h25, zi k25 270 f25)]) hD hS hA [1, 9, 10, 11, 12, 13, 14] rfl
        refine va_callv (va_runV (As := [.int 1, .int r40_, .int z52, .int x1, .int (u66_ 0)]) (rest := []) ⟨hx, hb, hml, hown, hG⟩ (sX7_addLeaf_0 l dC dI adK adV h18 h19 h20 h21 h22 h23 h25 h24 k19 k20 k21 k22 k23 k25 H.size v18 f19 f20 f21 f22 f23 f25 1 r40_ z52 x1 (u66_ 0) hv18 hf25 ⟨show (1 : Int) ≤ (1 : Int32).toInt from by decide, show (1 : Int32).toInt ≤ (4 : Int) from by decide⟩ (show (0 : Int) ≤ ((u66_ 0) : Int32).toInt ∧ ((u66_ 0) : Int32).toInt ≤ (1 : Int) from (by first | with_reducible assumption | exact ⟨by omega, by omega⟩))) (cwV 5 hG (zgV zv1108 zv1109 zv1110 zv136 zv1111) rfl rfl rfl (by decide +kernel) ⟨Nat.le_of_ble_eq_true rfl, Nat.le_of_ble_eq_true rfl⟩) ⟨zPc_blind, va_recv hKc hPc (ci := 7) (q0 := 0) rfl rfl, zPc_pre hPc hKc hDc hE hS hFc hZ⟩ rfl rfl hl.1 rfl (lv_room (Nat.le_of_ble_eq_true rfl)) dX4_readToken_66 ⟨Nat.le_of_ble_eq_true rfl, Nat.le_of_ble_eq_true rfl⟩) hS (fun q _ h => hFc q h) hFc (fun u66_ t H1 locs ht hvm hw hB hz1 hk1 hS => ?_)
        replace hw : (1 ≤ (u66_ 0).toInt ∧ (u66_ 0).toInt ≤ 40) ∧ (0 ≤ (u66_ 1).toInt ∧ (u66_ 1).toInt ≤ 270) := hw
        obtain ⟨b_, b_⟩ := hw
        obtain ⟨w66_, a66_, b66_, ha66_5, hP1, hK1, hD1⟩ := hB
        rw [ht] at hP1
        obtain ⟨hP, hD⟩ := va_join (wr := [(h0, .inr (4, mX4 h1 h4 h11 h18 (upd (upd (upd (upd (upd v0 4 (u10_ 0)) 5 (u10_ 1)) 6 (u10_ 2)) 7 (u10_ 3)) 9 (u28_ 0)))), (h1, .inr (9, mX9 h2 h3 (upd v1 3 (u40_ 0)))), (h2, zi k2 600 f2), (h3, zi k3 12 (a40_ 0)), (h4, .inr (10, mX10 h5 h6 h7 h8 h9 h10 v4)), (h5, .inl (k5, 400, .inr (.inl f5))), (h11, .inr (10, mX10 h12 h13 h14 h15 h16 h17 v11)), (h12, .inl (k12, 10, .inr (.inl f12)))]) (w1 := [(h18, .inr (7, mX7 h19 h20 h21 h22 h23 h24 h25 (upd (upd (upd (upd v18 7 (u66_ 0)) 9 (u66_ 1)) 10 (u66_ 2)) 11 (u66_ 3)))), (h19, zi k19 40 (a66_ 0)), (h20, zi k20 40 (a66_ 1)), (h21, zi k21 40 (a66_ 2)), (h22, zi k22 40 (a66_ 3)), (h23, zi k23 40 (a66_ 4)), (h25, zi k25 270 (a66_ 5))]) hP hD [1, 9, 10, 11, 12, 13, 14] [0, 2, 3, 4, 5, 6, 7, 8] rfl rfl (by decide) (by decide) hk1 hFc hP1 hD1
        have hP : va_P (dC, dI) vwCl [(h0, .inr (4, mX4 h1 h4 h11 h18 (upd (upd (upd (upd (upd v0 4 (u10_ 0)) 5 (u10_ 1)) 6 (u10_ 2)) 7 (u10_ 3)) 9 (u28_ 0)))), (h18, .inr (7, mX7 h19 h20 h21 h22 h23 h24 h25 (upd (upd (upd (upd v18 7 (u66_ 0)) 9 (u66_ 1)) 10 (u66_ 2)) 11 (u66_ 3)))), (h1, .inr (9, mX9 h2 h3 (upd v1 3 (u40_ 0)))), (h2, zi k2 600 f2), (h3, zi k3 12 (a40_ 0)), (h4, .inr (10, mX10 h5 h6 h7 h8 h9 h10 v4)), (h5, .inl (k5, 400, .inr (.inl f5))), (h11, .inr (10, mX10 h12 h13 h14 h15 h16 h17 v11)), (h12, .inl (k12, 10, .inr (.inl f12))), (h19, zi k19 40 (a66_ 0)), (h20, zi k20 40 (a66_ 1)), (h21, zi k21 40 (a66_ 2)), (h22, zi k22 40 (a66_ 3)), (h23, zi k23 40 (a66_ 4)), (h25, zi k25 270 (a66_ 5))] H1 := hP.sub [0, 8, 1, 2, 3, 4, 5, 6, 7, 9, 10, 11, 12, 13, 14] rfl
        have hD : va_D A [(h0, .inr (4, mX4 h1 h4 h11 h18 (upd (upd (upd (upd (upd v0 4 (u10_ 0)) 5 (u10_ 1)) 6 (u10_ 2)) 7 (u10_ 3)) 9 (u28_ 0)))), (h18, .inr (7, mX7 h19 h20 h21 h22 h23 h24 h25 (upd (upd (upd (upd v18 7 (u66_ 0)) 9 (u66_ 1)) 10 (u66_ 2)) 11 (u66_ 3)))), (h1, .inr (9, mX9 h2 h3 (upd v1 3 (u40_ 0)))), (h2, zi k2 600 f2), (h3, zi k3 12 (a40_ 0)), (h4, .inr (10, mX10 h5 h6 h7 h8 h9 h10 v4)), (h5, .inl (k5, 400, .inr (.inl f5))), (h11, .inr (10, mX10 h12 h13 h14 h15 h16 h17 v11)), (h12, .inl (k12, 10, .inr (.inl f12))), (h19, zi k19 40 (a66_ 0)), (h20, zi k20 40 (a66_ 1)), (h21, zi k21 40 (a66_ 2)), (h22, zi k22 40 (a66_ 3)), (h23, zi k23 40 (a66_ 4)), (h25, zi k25 270 (a66_ 5))] := hD.sub [0, 8, 1, 2, 3, 4, 5, 6, 7, 9, 10, 11, 12, 13, 14] (by decide) rfl
        generalize H1 = H at hP hS ⊢
        clear hz1
        refine lv_goto (tgt := 136) hx hb dX4_readToken_69 (by decide) ?_
        refine W.widen (k := 0) (n := 0) (by decide) (by decide) ?_
        have b_ : -2147483648 ≤ (u66_ 2).toInt ∧ (u66_ 2).toInt ≤ 2147483647 := ⟨zlo _, zhi _⟩
        have b_ : -2147483648 ≤ (u66_ 3).toInt ∧ (u66_ 3).toInt ≤ 2147483647 := ⟨zlo _, zhi _⟩
        have hpost : (0 ≤ (u10_ 0).toInt ∧ (u10_ 0).toInt ≤ 265) ∧ (0 ≤ (u28_ 0).toInt ∧ (u28_ 0).toInt ≤ 1) ∧ (1 ≤ (u66_ 0).toInt ∧ (u66_ 0).toInt ≤ 40) ∧ (0 ≤ (u66_ 1).toInt ∧ (u66_ 1).toInt ≤ 270) ∧ (0 ≤ (u40_ 0).toInt ∧ (u40_ 0).toInt ≤ 12) := ⟨(by first | with_reducible assumption | exact ⟨by omega, by omega⟩), (by first | with_reducible assumption | exact ⟨by omega, by omega⟩), (by first | with_reducible assumption | exact ⟨by omega, by omega⟩), (by first | with_reducible assumption | exact ⟨by omega, by omega⟩), (by first | with_reducible assumption | exact ⟨by omega, by omega⟩)⟩
        have hP9 : va_P (dC, dI) vwCl [(h0, .inr (4, mX4 h1 h4 h11 h18 (upd (upd (upd (upd (upd v0 4 (u10_ 0)) 5 (u10_ 1)) 6 (u10_ 2)) 7 (u10_ 3)) 9 (u28_ 0)))), (h18, .inr (7, mX7 h19 h20 h21 h22 h23 h24 h25 (upd (upd (upd (upd v18 7 (u66_ 0)) 9 (u66_ 1)) 10 (u66_ 2)) 11 (u66_ 3)))), (h1, .inr (9, mX9 h2 h3 (upd v1 3 (u40_ 0)))), (h2, zi k2 600 f2), (h3, zi k3 12 (a40_ 0)), (h4, .inr (10, mX10 h5 h6 h7 h8 h9 h10 v4)), (h5, .inl (k5, 400, .inr (.inl f5))), (h11, .inr (10, mX10 h12 h13 h14 h15 h16 h17 v11)), (h12, .inl (k12, 10, .inr (.inl f12))), (h19, zi k19 40 (a66_ 0)), (h20, zi k20 40 (a66_ 1)), (h21, zi k21 40 (a66_ 2)), (h22, zi k22 40 (a66_ 3)), (h23, zi k23 40 (a66_ 4)), (h25, zi k25 270 (a66_ 5))] H := hP
        have hD9 : va_D A [(h0, .inr (4, mX4 h1 h4 h11 h18 (upd (upd (upd (upd (upd v0 4 (u10_ 0)) 5 (u10_ 1)) 6 (u10_ 2)) 7 (u10_ 3)) 9 (u28_ 0)))), (h18, .inr (7, mX7 h19 h20 h21 h22 h23 h24 h25 (upd (upd (upd (upd v18 7 (u66_ 0)) 9 (u66_ 1)) 10 (u66_ 2)) 11 (u66_ 3)))), (h1, .inr (9, mX9 h2 h3 (upd v1 3 (u40_ 0)))), (h2, zi k2 600 f2), (h3, zi k3 12 (a40_ 0)), (h4, .inr (10, mX10 h5 h6 h7 h8 h9 h10 v4)), (h5, .inl (k5, 400, .inr (.inl f5))), (h11, .inr (10, mX10 h12 h13 h14 h15 h16 h17 v11)), (h12, .inl (k12, 10, .inr (.inl f12))), (h19, zi k19 40 (a66_ 0)), (h20, zi k20 40 (a66_ 1)), (h21, zi k21 40 (a66_ 2)), (h22, zi k22 40 (a66_ 3)), (h23, zi k23 40 (a66_ 4)), (h25, zi k25 270 (a66_ 5))] := hD
        exact W.vret hx hb hr (fun t ht hW => ⟨⟨(fun i => ([(u10_ 0), (u10_ 1), (u10_ 2), (u10_ 3), (u28_ 0), (u66_ 0), (u66_ 1), (u66_ 2), (u66_ 3), (u40_ 0)] : List (Int32)).getD i 0), rfl, hpost, (fun _ => 0), (fun i => ([(a40_ 0), (a66_ 0), (a66_ 1), (a66_ 2), (a66_ 3), (a66_ 4), (a66_ 5)] : List (Nat → Int32)).getD i (fun _ => 0)), (fun _ => (fun _ => 0)), ha66_5, by rw [ht]; exact hP9, va_K.moved hW.alike hK, hD9⟩, hS.F ht⟩) hS.2.2 dX4_readToken_136
      · skip
        have b_ : -2147483648 ≤ (v0 10).toInt ∧ (v0 10).toInt ≤ 2147483647 := ⟨zlo _, zhi _⟩
        refine lv_if_ne (tgt := 65) hx hb dX4_readToken_58 (by decide) (fun c_ => ?_) (fun c_ => ?_)
        · skip
          have b_ := zT_ne rfl zk_0 c_
          refine lv_iconst (v := 0) hx hb dX4_readToken_65 (by decide) ?_
          have hc : va_P (dC, dI) vwCl [(h0, .inr (4, mX4 h1 h4 h11 h18 (upd (upd (upd (upd (upd v0 4 (u10_ 0)) 5 (u10_ 1)) 6 (u10_ 2)) 7 (u10_ 3)) 9 (u28_ 0)))), (h18, .inr (7, mX7 h19 h20 h21 h22 h23 h24 h25 v18)), (h1, .inr (9, mX9 h2 h3 (upd v1 3 (u40_ 0)))), (h2, zi k2 600 f2), (h3, zi k3 12 (a40_ 0)), (h4, .inr (10, mX10 h5 h6 h7 h8 h9 h10 v4)), (h5, .inl (k5, 400, .inr (.inl f5))), (h11, .inr (10, mX10 h12 h13 h14 h15 h16 h17 v11)), (h12, .inl (k12, 10, .inr (.inl f12))), (h19, zi k19 40 f19), (h20, zi k20 40 f20), (h21, zi k21 40 f21), (h22, zi k22 40 f22), (h23, zi k23 40 f23), (h25, zi k25 270 f25)] H ∧ va_D A [(h0, .inr (4, mX4 h1 h4 h11 h18 (upd (upd (upd (upd (upd v0 4 (u10_ 0)) 5 (u10_ 1)) 6 (u10_ 2)) 7 (u10_ 3)) 9 (u28_ 0)))), (h18, .inr (7, mX7 h19 h20 h21 h22 h23 h24 h25 v18)), (h1, .inr (9, mX9 h2 h3 (upd v1 3 (u40_ 0)))), (h2, zi k2 600 f2), (h3, zi k3 12 (a40_ 0)), (h4, .inr (10, mX10 h5 h6 h7 h8 h9 h10 v4)), (h5, .inl (k5, 400, .inr (.inl f5))), (h11, .inr (10, mX10 h12 h13 h14 h15 h16 h17 v11)), (h12, .inl (k12, 10, .inr (.inl f12))), (h19, zi k19 40 f19), (h20, zi k20 40 f20), (h21, zi k21 40 f21), (h22, zi k22 40 f22), (h23, zi k23 40 f23), (h25, zi k25 270 f25)] ∧ va_S A s.heap H locs ∧ lv_has ls 7 [(0, .ref h0), (1, .int x1), (2, .int (v0 5)), (3, .int r40_)] ∧ (0 ≤ (0 : Int32).toInt ∧ (0 : Int32).toInt ≤ 1) := ⟨hP, hD, hS, lv_sub hl [1, 2, 3, 0] rfl, (by first | with_reducible assumption | exact ⟨by omega, by omega⟩)⟩
          exact hJ66 H locs ls (fun i => ([0] : List (Int32)).getD i 0) (fun _ => 0) (fun _ => (fun _ => 0)) (fun _ => (fun _ => 0)) hc
        · skip
          have b_ := zF_ne rfl zk_0 c_
          refine lv_iconst (v := 1) hx hb dX4_readToken_61 (by decide) ?_
          refine lv_goto (tgt := 66) hx hb dX4_readToken_62 (by decide) ?_
          have hc : va_P (dC, dI) vwCl [(h0, .inr (4, mX4 h1 h4 h11 h18 (upd (upd (upd (upd (upd v0 4 (u10_ 0)) 5 (u10_ 1)) 6 (u10_ 2)) 7 (u10_ 3)) 9 (u28_ 0)))), (h18, .inr (7, mX7 h19 h20 h21 h22 h23 h24 h25 v18)), (h1, .inr (9, mX9 h2 h3 (upd v1 3 (u40_ 0)))), (h2, zi k2 600 f2), (h3, zi k3 12 (a40_ 0)), (h4, .inr (10, mX10 h5 h6 h7 h8 h9 h10 v4)), (h5, .inl (k5, 400, .inr (.inl f5))), (h11, .inr (10, mX10 h12 h13 h14 h15 h16 h17 v11)), (h12, .inl (k12, 10, .inr (.inl f12))), (h19, zi k19 40 f19), (h20, zi k20 40 f20), (h21, zi k21 40 f21), (h22, zi k22 40 f22), (h23, zi k23 40 f23), (h25, zi k25 270 f25)] H ∧ va_D A [(h0, .inr (4, mX4 h1 h4 h11 h18 (upd (upd (upd (upd (upd v0 4 (u10_ 0)) 5 (u10_ 1)) 6 (u10_ 2)) 7 (u10_ 3)) 9 (u28_ 0)))), (h18, .inr (7, mX7 h19 h20 h21 h22 h23 h24 h25 v18)), (h1, .inr (9, mX9 h2 h3 (upd v1 3 (u40_ 0)))), (h2, zi k2 600 f2), (h3, zi k3 12 (a40_ 0)), (h4, .inr (10, mX10 h5 h6 h7 h8 h9 h10 v4)), (h5, .inl (k5, 400, .inr (.inl f5))), (h11, .inr (10, mX10 h12 h13 h14 h15 h16 h17 v11)), (h12, .inl (k12, 10, .inr (.inl f12))), (h19, zi k19 40 f19), (h20, zi k20 40 f20), (h21, zi k21 40 f21), (h22, zi k22 40 f22), (h23, zi k23 40 f23), (h25, zi k25 270 f25)] ∧ va_S A s.heap H locs ∧ lv_has ls 7 [(0, .ref h0), (1, .int x1), (2, .int (v0 5)), (3, .int r40_)] ∧ (0 ≤ (1 : Int32).toInt ∧ (1 : Int32).toInt ≤ 1) := ⟨hP, hD, hS, lv_sub hl [1, 2, 3, 0] rfl, (by first | with_reducible assumption | exact ⟨by omega, by omega⟩)⟩
          exact hJ66 H locs ls (fun i => ([1] : List (Int32)).getD i 0) (fun _ => 0) (fun _ => (fun _ => 0)) (fun _ => (fun _ => 0)) hc
  · skip
    refine lv_icmp_eq (tgt := 27) hx hb dX4_readToken_20 (by decide) (fun c_ => ?_) (fun c_ => ?_)
    · skip
      have b_ := zT_eq rfl zk_42 c_
      refine lv_iconst (v := 0) hx hb dX4_readToken_27 (by decide) ?_
      have hc : va_P (dC, dI) vwCl [(h0, .inr (4, mX4 h1 h4 h11 h18 (upd (upd (upd (upd v0 4 (u10_ 0)) 5 (u10_ 1)) 6 (u10_ 2)) 7 (u10_ 3)))), (h18, .inr (7, mX7 h19 h20 h21 h22 h23 h24 h25 v18)), (h1, .inr (9, mX9 h2 h3 v1)), (h2, zi k2 600 f2), (h3, zi k3 12 f3), (h4, .inr (10, mX10 h5 h6 h7 h8 h9 h10 v4)), (h5, .inl (k5, 400, .inr (.inl f5))), (h11, .inr (10, mX10 h12 h13 h14 h15 h16 h17 v11)), (h12, .inl (k12, 10, .inr (.inl f12))), (h19, zi k19 40 f19), (h20, zi k20 40 f20), (h21, zi k21 40 f21), (h22, zi k22 40 f22), (h23, zi k23 40 f23), (h25, zi k25 270 f25)] H ∧ va_D A [(h0, .inr (4, mX4 h1 h4 h11 h18 (upd (upd (upd (upd v0 4 (u10_ 0)) 5 (u10_ 1)) 6 (u10_ 2)) 7 (u10_ 3)))), (h18, .inr (7, mX7 h19 h20 h21 h22 h23 h24 h25 v18)), (h1, .inr (9, mX9 h2 h3 v1)), (h2, zi k2 600 f2), (h3, zi k3 12 f3), (h4, .inr (10, mX10 h5 h6 h7 h8 h9 h10 v4)), (h5, .inl (k5, 400, .inr (.inl f5))), (h11, .inr (10, mX10 h12 h13 h14 h15 h16 h17 v11)), (h12, .inl (k12, 10, .inr (.inl f12))), (h19, zi k19 40 f19), (h20, zi k20 40 f20), (h21, zi k21 40 f21), (h22, zi k22 40 f22), (h23, zi k23 40 f23), (h25, zi k25 270 f25)] ∧ va_S A s.heap H locs ∧ lv_has ls 7 [(0, .ref h0), (1, .int x1), (2, .int (v0 5))] ∧ (0 ≤ (0 : Int32).toInt ∧ (0 : Int32).toInt ≤ 1) := ⟨hP, hD, hS, lv_sub hl [1, 2, 0] rfl, (by first | with_reducible assumption | exact ⟨by omega, by omega⟩)⟩
      exact hJ28 H locs ls (fun i => ([0] : List (Int32)).getD i 0) (fun _ => 0) (fun _ => (fun _ => 0)) (fun _ => (fun _ => 0)) hc
    · skip
      have b_ := zF_eq rfl zk_42 c_
      refine lv_iconst (v := 1) hx hb dX4_readToken_23 (by decide) ?_
      refine lv_goto (tgt := 28) hx hb dX4_readToken_24 (by decide) ?_
      have hc : va_P (dC, dI) vwCl [(h0, .inr (4, mX4 h1 h4 h11 h18 (upd (upd (upd (upd v0 4 (u10_ 0)) 5 (u10_ 1)) 6 (u10_ 2)) 7 (u10_ 3)))), (h18, .inr (7, mX7 h19 h20 h21 h22 h23 h24 h25 v18)), (h1, .inr (9, mX9 h2 h3 v1)), (h2, zi k2 600 f2), (h3, zi k3 12 f3), (h4, .inr (10, mX10 h5 h6 h7 h8 h9 h10 v4)), (h5, .inl (k5, 400, .inr (.inl f5))), (h11, .inr (10, mX10 h12 h13 h14 h15 h16 h17 v11)), (h12, .inl (k12, 10, .inr (.inl f12))), (h19, zi k19 40 f19), (h20, zi k20 40 f20), (h21, zi k21 40 f21), (h22, zi k22 40 f22), (h23, zi k23 40 f23), (h25, zi k25 270 f25)] H ∧ va_D A [(h0, .inr (4, mX4 h1 h4 h11 h18 (upd (upd (upd (upd v0 4 (u10_ 0)) 5 (u10_ 1)) 6 (u10_ 2)) 7 (u10_ 3)))), (h18, .inr (7, mX7 h19 h20 h21 h22 h23 h24 h25 v18)), (h1, .inr (9, mX9 h2 h3 v1)), (h2, zi k2 600 f2), (h3, zi k3 12 f3), (h4, .inr (10, mX10 h5 h6 h7 h8 h9 h10 v4)), (h5, .inl (k5, 400, .inr (.inl f5))), (h11, .inr (10, mX10 h12 h13 h14 h15 h16 h17 v11)), (h12, .inl (k12, 10, .inr (.inl f12))), (h19, zi k19 40 f19), (h20, zi k20 40 f20), (h21, zi k21 40 f21), (h22, zi k22 40 f22), (h23, zi k23 40 f23), (h25, zi k25 270 f25)] ∧ va_S A s.heap H locs ∧ lv_has ls 7 [(0, .ref h0), (1, .int x1), (2, .int (v0 5))] ∧ (0 ≤ (1 : Int32).toInt ∧ (1 : Int32).toInt ≤ 1) := ⟨hP, hD, hS, lv_sub hl [1, 2, 0] rfl, (by first | with_reducible assumption | exact ⟨by omega, by omega⟩)⟩
      exact hJ28 H locs ls (fun i => ([1] : List (Int32)).getD i 0) (fun _ => 0) (fun _ => (fun _ => 0)) (fun _ => (fun _ => 0)) hc
