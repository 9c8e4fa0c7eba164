set_option maxHeartbeats 8000000 in
set_option maxRecDepth 100000 in
theorem sX13_order_0 (l : Launch) (dC : Nat → ClassId) (dI : Nat → Nat → Nat) (adK adV : Nat → Nat) (h0 : Nat) (q0 : Nat → Nat) (k3 : ClassId) (k2 : ClassId) (sz : Nat) (v0 : Nat → Int32) (f3 : Nat → Int32) (f2 : Nat → Int32) (x1 : Int32) (x2 : Int32) (hv0 : zR rg_Model v0) (hf3 : zA 0 12 f3) (hx1 : 0 ≤ x1.toInt ∧ x1.toInt ≤ 399) (hx2 : 0 ≤ x2.toInt ∧ x2.toInt ≤ 399) : Met l yX13_order (zw yX13_order cX13_order 4 (some .int)) { frames := 0, cells := 0, slots := 0, locals := 0 } (zPc dC dI adK adV [.ref h0, .int x1, .int x2] sz [(h0, .inr (13, mX13 q0 v0)), ((q0 3), .inl (k3, 400, .inl f3)), ((q0 2), .inl (k2, 4800, .inl f2))] [(k3, .int), (k2, .byte)]) (va_Qi (fun (r : Int32) (u : Nat → Int32) => True) (fun (u : Nat → Int32) (t : State) => ∃ (ww : Nat → Int64) (aa : Nat → Nat → Int32) (bb : Nat → Nat → Int64), va_P (dC, dI) vwCl [(h0, .inr (13, mX13 q0 v0)), ((q0 3), .inl (k3, 400, .inl f3)), ((q0 2), .inl (k2, 4800, .inl f2))] t.heap ∧ va_K (dC, dI) vwCl [(k3, .int), (k2, .byte)] t ∧ va_D (va_A [(h0, .inr (13, mX13 q0 v0)), ((q0 3), .inl (k3, 400, .inl f3)), ((q0 2), .inl (k2, 4800, .inl f2))] sz) [(h0, .inr (13, mX13 q0 v0)), ((q0 3), .inl (k3, 400, .inl f3)), ((q0 2), .inl (k2, 4800, .inl f2))]) (va_A [(h0, .inr (13, mX13 q0 v0)), ((q0 3), .inl (k3, 400, .inl f3)), ((q0 2), .inl (k2, 4800, .inl f2))] sz)) 0 0 (va_A [(h0, .inr (13, mX13 q0 v0)), ((q0 3), .inl (k3, 400, .inl f3)), ((q0 2), .inl (k2, 4800, .inl f2))] sz) := by
  refine Met.ofW (cc := cX13_order) (maxL := 4) (ret := (some .int)) (by decide) rfl ?_
  intro p e s m args below meth c s₁ B hml hv
  obtain ⟨rfl, hsz, hP, hK, hD0, hE, hZ⟩ := hv
  have hx := B.exec
  have hb := B.bytes
  have hr := B.returns
  have hG : ∀ w ∈ zG, w.before _ s = true := fun w h => atoms_spec (ws := (zw yX13_order cX13_order 4 (some .int))) B.pre w (List.mem_cons_of_mem _ h)
  have hown : s.vm.findClass RX13 = some m.cls := findClass_of_methodNamed B.named
  have hlocks := B.notSynchronized
  subst hsz
  have hD := hD0.self (sz := s.heap.size)
  generalize hAe : va_A [(h0, .inr (13, mX13 q0 v0)), ((q0 3), .inl (k3, 400, .inl f3)), ((q0 2), .inl (k2, 4800, .inl f2))] s.heap.size = A at hD hZ ⊢
  have hA : ∀ q : Nat, s.heap.size ≤ q → A q := fun q h => by rw [← hAe]; exact Or.inr h
  have hS : va_S A s.heap s.heap [] := va_S.rf
  have hl := lv_entry ([.ref h0, .int x1, .int x2]) (n := 4) (Nat.le_of_ble_eq_true rfl)
  rw [lg_entry_eq]
  generalize (lg_sl ([.ref h0, .int x1, .int x2]) ++ List.replicate (4 - (lg_sl ([.ref h0, .int x1, .int x2])).length) Slot.unset).toArray = ls at hl ⊢
  have hl : lv_has ls 4 [(0, .ref h0), (1, .int x1), (2, .int x2)] := hl
  have b_ := zk_0
  refine lv_iconst (v := 0) hx hb dX13_order_0 (by decide) ?_
  refine lv_istore_n (lv' := [(3, .int 0), (0, .ref h0), (1, .int x1), (2, .int x2)]) hx hb dX13_order_1 rfl hl (by decide) rfl (fun ls hl => ?_)
  refine zcutL (fun u2_ => (12 - (u2_ 0).toInt).toNat) (fun H locs ls u2_ w2_ a2_ b2_ => va_P (dC, dI) vwCl [(h0, .inr (13, mX13 q0 v0)), ((q0 3), .inl (k3, 400, .inl f3)), ((q0 2), .inl (k2, 4800, .inl f2))] H ∧ va_D A [(h0, .inr (13, mX13 q0 v0)), ((q0 3), .inl (k3, 400, .inl f3)), ((q0 2), .inl (k2, 4800, .inl f2))] ∧ va_S A s.heap H locs ∧ lv_has ls 4 [(0, .ref h0), (1, .int x1), (2, .int x2), (3, .int (u2_ 0))] ∧ (0 ≤ (u2_ 0).toInt ∧ (u2_ 0).toInt ≤ 12)) (fun ls u2_ w2_ => F0 m 2 ls []) 0 0 ?_ (fun hJ2 => ?_)
  · skip
    intro H locs ls u2_ w2_ a2_ b2_ hc hJ2
    obtain ⟨hP, hD, hS, hl, b_⟩ := hc
    refine lv_iload_n hx hb dX13_order_2 rfl (lv_at hl 3 rfl) ?_
    refine lv_aload_n hx hb dX13_order_3 rfl (lv_at hl 0 rfl) ?_
    refine va_get (D := (dC, dI)) (ci := 13) (v := .ref (q0 3)) (C := RX13) (T := TX13) (N := 75) hx hb hG zuX13 hown hK hP 0 rfl rfl 3 (by decide) (hG _ zw553) (fun _ h9 => h9) rfl dX13_order_4 ?_
    refine lv_iload_n hx hb dX13_order_7 rfl (lv_at hl 1 rfl) ?_
    refine va_iald hx hb hK hP 1 0 rfl rfl (zin_lit ⟨by omega, by omega⟩) dX13_order_8 ?_
    refine lv_topi (fun z8 e_z8 => ?_)
    have b_ : 0 ≤ z8.toInt ∧ z8.toInt ≤ 12 := by rw [e_z8]; exact hf3 _
    refine zcutW (fun H locs ls u77_ w77_ a77_ b77_ => va_P (dC, dI) vwCl [(h0, .inr (13, mX13 q0 v0)), ((q0 3), .inl (k3, 400, .inl f3)), ((q0 2), .inl (k2, 4800, .inl f2))] H ∧ va_D A [(h0, .inr (13, mX13 q0 v0)), ((q0 3), .inl (k3, 400, .inl f3)), ((q0 2), .inl (k2, 4800, .inl f2))] ∧ va_S A s.heap H locs ∧ lv_has ls 4 [(0, .ref h0), (1, .int x1), (2, .int x2), (3, .int (u2_ 0))] ∧ (0 ≤ (u2_ 0).toInt ∧ (u2_ 0).toInt ≤ 12) ∧ (0 ≤ z8.toInt ∧ z8.toInt ≤ 12)) (fun ls u77_ w77_ => F0 m 77 ls []) 0 0 ?_ (fun hJ77 => ?_)
    · skip
      intro H locs ls u77_ w77_ a77_ b77_ hc
      obtain ⟨hP, hD, hS, hl, b_, b_⟩ := hc
      refine lv_aload_n hx hb dX13_order_77 rfl (lv_at hl 0 rfl) ?_
      refine va_get (D := (dC, dI)) (ci := 13) (v := .ref (q0 3)) (C := RX13) (T := TX13) (N := 75) hx hb hG zuX13 hown hK hP 0 rfl rfl 3 (by decide) (hG _ zw553) (fun _ h9 => h9) rfl dX13_order_78 ?_
      refine lv_iload_n hx hb dX13_order_81 rfl (lv_at hl 1 rfl) ?_
      refine va_iald hx hb hK hP 1 0 rfl rfl (zin_lit ⟨by omega, by omega⟩) dX13_order_82 ?_
      refine lv_topi (fun z82 e_z82 => ?_)
      have b_ : 0 ≤ z82.toInt ∧ z82.toInt ≤ 12 := by rw [e_z82]; exact hf3 _
      refine lv_aload_n hx hb dX13_order_83 rfl (lv_at hl 0 rfl) ?_
      refine va_get (D := (dC, dI)) (ci := 13) (v := .ref (q0 3)) (C := RX13) (T := TX13) (N := 75) hx hb hG zuX13 hown hK hP 0 rfl rfl 3 (by decide) (hG _ zw553) (fun _ h9 => h9) rfl dX13_order_84 ?_
      refine lv_iload_n hx hb dX13_order_87 rfl (lv_at hl 2 rfl) ?_
      refine va_iald hx hb hK hP 1 0 rfl rfl (zin_lit ⟨by omega, by omega⟩) dX13_order_88 ?_
      refine lv_topi (fun z88 e_z88 => ?_)
      have b_ : 0 ≤ z88.toInt ∧ z88.toInt ≤ 12 := by rw [e_z88]; exact hf3 _
      refine lv_isub hx hb dX13_order_89 ?_
      refine lv_topi (fun z89 e_z89 => ?_)
      have b_ := zsub rfl rfl e_z89 (by omega) (by omega)
      refine W.widen (k := 0) (n := 0) (by decide) (by decide) ?_
      have hpost : True := trivial
      have hP9 : va_P (dC, dI) vwCl [(h0, .inr (13, mX13 q0 v0)), ((q0 3), .inl (k3, 400, .inl f3)), ((q0 2), .inl (k2, 4800, .inl f2))] H := hP
      have hD9 : va_D A [(h0, .inr (13, mX13 q0 v0)), ((q0 3), .inl (k3, 400, .inl f3)), ((q0 2), .inl (k2, 4800, .inl f2))] := hD
      exact W.iret (v := z89) hx hb hr (fun t ht hW => ⟨⟨z89, (fun _ => 0), rfl, hpost, (fun _ => 0), (fun _ => (fun _ => 0)), (fun _ => (fun _ => 0)), by rw [ht]; exact hP9, va_K.moved hW.alike hK, hD9⟩, hS.F ht⟩) hS.2.2 dX13_order_90
    · skip
      refine lv_icmp_ge (tgt := 77) hx hb dX13_order_9 (by decide) (fun c_ => ?_) (fun c_ => ?_)
      · skip
        have b_ := zT_ge rfl rfl c_
        have hc : va_P (dC, dI) vwCl [(h0, .inr (13, mX13 q0 v0)), ((q0 3), .inl (k3, 400, .inl f3)), ((q0 2), .inl (k2, 4800, .inl f2))] H ∧ va_D A [(h0, .inr (13, mX13 q0 v0)), ((q0 3), .inl (k3, 400, .inl f3)), ((q0 2), .inl (k2, 4800, .inl f2))] ∧ va_S A s.heap H locs ∧ lv_has ls 4 [(0, .ref h0), (1, .int x1), (2, .int x2), (3, .int (u2_ 0))] ∧ (0 ≤ (u2_ 0).toInt ∧ (u2_ 0).toInt ≤ 12) ∧ (0 ≤ z8.toInt ∧ z8.toInt ≤ 12) := ⟨hP, hD, hS, lv_sub hl [0, 1, 2, 3] rfl, ⟨by omega, by omega⟩, ⟨by omega, by omega⟩⟩
        exact hJ77 H locs ls (fun _ => 0) (fun _ => 0) (fun _ => (fun _ => 0)) (fun _ => (fun _ => 0)) hc
      · skip
        have b_ := zF_ge rfl rfl c_
        refine lv_iload_n hx hb dX13_order_12 rfl (lv_at hl 3 rfl) ?_
        refine lv_aload_n hx hb dX13_order_13 rfl (lv_at hl 0 rfl) ?_
        refine va_get (D := (dC, dI)) (ci := 13) (v := .ref (q0 3)) (C := RX13) (T := TX13) (N := 75) hx hb hG zuX13 hown hK hP 0 rfl rfl 3 (by decide) (hG _ zw553) (fun _ h9 => h9) rfl dX13_order_14 ?_
        refine lv_iload_n hx hb dX13_order_17 rfl (lv_at hl 2 rfl) ?_
        refine va_iald hx hb hK hP 1 0 rfl rfl (zin_lit ⟨by omega, by omega⟩) dX13_order_18 ?_
        refine lv_topi (fun z18 e_z18 => ?_)
        have b_ : 0 ≤ z18.toInt ∧ z18.toInt ≤ 12 := by rw [e_z18]; exact hf3 _
        refine lv_icmp_ge (tgt := 77) hx hb dX13_order_19 (by decide) (fun c_ => ?_) (fun c_ => ?_)
        · skip
          have b_ := zT_ge rfl rfl c_
          have hc : va_P (dC, dI) vwCl [(h0, .inr (13, mX13 q0 v0)), ((q0 3), .inl (k3, 400, .inl f3)), ((q0 2), .inl (k2, 4800, .inl f2))] H ∧ va_D A [(h0, .inr (13, mX13 q0 v0)), ((q0 3), .inl (k3, 400, .inl f3)), ((q0 2), .inl (k2, 4800, .inl f2))] ∧ va_S A s.heap H locs ∧ lv_has ls 4 [(0, .ref h0), (1, .int x1), (2, .int x2), (3, .int (u2_ 0))] ∧ (0 ≤ (u2_ 0).toInt ∧ (u2_ 0).toInt ≤ 12) ∧ (0 ≤ z8.toInt ∧ z8.toInt ≤ 12) := ⟨hP, hD, hS, lv_sub hl [0, 1, 2, 3] rfl, ⟨by omega, by omega⟩, ⟨by omega, by omega⟩⟩
          exact hJ77 H locs ls (fun _ => 0) (fun _ => 0) (fun _ => (fun _ => 0)) (fun _ => (fun _ => 0)) hc
        · skip
          have b_ := zF_ge rfl rfl c_
          refine lv_aload_n hx hb dX13_order_22 rfl (lv_at hl 0 rfl) ?_
          refine va_get (D := (dC, dI)) (ci := 13) (v := .ref (q0 2)) (C := RX13) (T := TX13) (N := 75) hx hb hG zuX13 hown hK hP 0 rfl rfl 2 (by decide) (hG _ zw552) (fun _ h9 => h9) rfl dX13_order_23 ?_
          refine lv_bipush (v := 12) hx hb dX13_order_26 (by decide) ?_
          refine lv_iload_n hx hb dX13_order_28 rfl (lv_at hl 1 rfl) ?_
          refine lv_imul hx hb dX13_order_29 ?_
          refine lv_topi (fun z29 e_z29 => ?_)
          have b_ := zmul zk_12 rfl e_z29 (by omega) (by omega)
          refine lv_iload_n hx hb dX13_order_30 rfl (lv_at hl 3 rfl) ?_
          refine lv_iadd hx hb dX13_order_31 ?_
          refine lv_topi (fun z31 e_z31 => ?_)
          have b_ := zadd rfl rfl e_z31 (by omega) (by omega)
          refine va_bald hx hb hK hP 2 1 rfl rfl (zin_lit ⟨by omega, by omega⟩) dX13_order_32 ?_
          refine lv_topi (fun z32 e_z32 => ?_)
          refine lv_aload_n hx hb dX13_order_33 rfl (lv_at hl 0 rfl) ?_
          refine va_get (D := (dC, dI)) (ci := 13) (v := .ref (q0 2)) (C := RX13) (T := TX13) (N := 75) hx hb hG zuX13 hown hK hP 0 rfl rfl 2 (by decide) (hG _ zw552) (fun _ h9 => h9) rfl dX13_order_34 ?_
          refine lv_bipush (v := 12) hx hb dX13_order_37 (by decide) ?_
          refine lv_iload_n hx hb dX13_order_39 rfl (lv_at hl 2 rfl) ?_
          refine lv_imul hx hb dX13_order_40 ?_
          refine lv_topi (fun z40 e_z40 => ?_)
          have b_ := zmul zk_12 rfl e_z40 (by omega) (by omega)
          refine lv_iload_n hx hb dX13_order_41 rfl (lv_at hl 3 rfl) ?_
          refine lv_iadd hx hb dX13_order_42 ?_
          refine lv_topi (fun z42 e_z42 => ?_)
          have b_ := zadd rfl rfl e_z42 (by omega) (by omega)
          refine va_bald hx hb hK hP 2 1 rfl rfl (zin_lit ⟨by omega, by omega⟩) dX13_order_43 ?_
          refine lv_topi (fun z43 e_z43 => ?_)
          have b_ : -2147483648 ≤ z32.toInt ∧ z32.toInt ≤ 2147483647 := ⟨zlo _, zhi _⟩
          have b_ : -2147483648 ≤ z43.toInt ∧ z43.toInt ≤ 2147483647 := ⟨zlo _, zhi _⟩
          refine lv_icmp_eq (tgt := 71) hx hb dX13_order_44 (by decide) (fun c_ => ?_) (fun c_ => ?_)
          · skip
            have b_ := zT_eq rfl rfl c_
            obtain ⟨z71, e_z71⟩ : ∃ z : Int32, z = (u2_ 0) + Int32.ofInt 1 := ⟨_, rfl⟩
            have b_ := zadd (x := (u2_ 0)) (y := Int32.ofInt 1) rfl (show (Int32.ofInt 1).toInt = 1 from by decide) e_z71 (by omega) (by omega)
            refine lv_iinc (v := z71) (lv' := [(3, .int z71), (0, .ref h0), (1, .int x1), (2, .int x2)]) hx hb dX13_order_71 hl (k := 3) rfl e_z71.symm (by decide) rfl (fun ls hl => ?_)
            refine lv_goto (tgt := 2) hx hb dX13_order_74 (by decide) ?_
            have hc : va_P (dC, dI) vwCl [(h0, .inr (13, mX13 q0 v0)), ((q0 3), .inl (k3, 400, .inl f3)), ((q0 2), .inl (k2, 4800, .inl f2))] H ∧ va_D A [(h0, .inr (13, mX13 q0 v0)), ((q0 3), .inl (k3, 400, .inl f3)), ((q0 2), .inl (k2, 4800, .inl f2))] ∧ va_S A s.heap H locs ∧ lv_has ls 4 [(0, .ref h0), (1, .int x1), (2, .int x2), (3, .int z71)] ∧ (0 ≤ z71.toInt ∧ z71.toInt ≤ 12) := ⟨hP, hD, hS, lv_sub hl [1, 2, 3, 0] rfl, ⟨by omega, by omega⟩⟩
            exact hJ2 H locs ls (fun i => ([z71] : List (Int32)).getD i 0) (fun _ => 0) (fun _ => (fun _ => 0)) (fun _ => (fun _ => 0)) hc (show (12 - z71.toInt).toNat < (12 - (u2_ 0).toInt).toNat from by omega)
          · skip
            have b_ := zF_eq rfl rfl c_
            refine lv_aload_n hx hb dX13_order_47 rfl (lv_at hl 0 rfl) ?_
            refine va_get (D := (dC, dI)) (ci := 13) (v := .ref (q0 2)) (C := RX13) (T := TX13) (N := 75) hx hb hG zuX13 hown hK hP 0 rfl rfl 2 (by decide) (hG _ zw552) (fun _ h9 => h9) rfl dX13_order_48 ?_
            refine lv_bipush (v := 12) hx hb dX13_order_51 (by decide) ?_
            refine lv_iload_n hx hb dX13_order_53 rfl (lv_at hl 1 rfl) ?_
            refine lv_imul hx hb dX13_order_54 ?_
            refine lv_topi (fun z54 e_z54 => ?_)
            have b_ := zmul zk_12 rfl e_z54 (by omega) (by omega)
            refine lv_iload_n hx hb dX13_order_55 rfl (lv_at hl 3 rfl) ?_
            refine lv_iadd hx hb dX13_order_56 ?_
            refine lv_topi (fun z56 e_z56 => ?_)
            have b_ := zadd rfl rfl e_z56 (by omega) (by omega)
            refine va_bald hx hb hK hP 2 1 rfl rfl (zin_lit ⟨by omega, by omega⟩) dX13_order_57 ?_
            refine lv_topi (fun z57 e_z57 => ?_)
            refine lv_aload_n hx hb dX13_order_58 rfl (lv_at hl 0 rfl) ?_
            refine va_get (D := (dC, dI)) (ci := 13) (v := .ref (q0 2)) (C := RX13) (T := TX13) (N := 75) hx hb hG zuX13 hown hK hP 0 rfl rfl 2 (by decide) (hG _ zw552) (fun _ h9 => h9) rfl dX13_order_59 ?_
            refine lv_bipush (v := 12) hx hb dX13_order_62 (by decide) ?_
            refine lv_iload_n hx hb dX13_order_64 rfl (lv_at hl 2 rfl) ?_
            refine lv_imul hx hb dX13_order_65 ?_
            refine lv_topi (fun z65 e_z65 => ?_)
            have b_ := zmul zk_12 rfl e_z65 (by omega) (by omega)
            refine lv_iload_n hx hb dX13_order_66 rfl (lv_at hl 3 rfl) ?_
            refine lv_iadd hx hb dX13_order_67 ?_
            refine lv_topi (fun z67 e_z67 => ?_)
            have b_ := zadd rfl rfl e_z67 (by omega) (by omega)
            refine va_bald hx hb hK hP 2 1 rfl rfl (zin_lit ⟨by omega, by omega⟩) dX13_order_68 ?_
            refine lv_topi (fun z68 e_z68 => ?_)
            have b_ : -2147483648 ≤ z57.toInt ∧ z57.toInt ≤ 2147483647 := ⟨zlo _, zhi _⟩
            have b_ : -2147483648 ≤ z68.toInt ∧ z68.toInt ≤ 2147483647 := ⟨zlo _, zhi _⟩
            refine lv_isub hx hb dX13_order_69 ?_
            refine lv_topi (fun z69 e_z69 => ?_)
            refine W.widen (k := 0) (n := 0) (by decide) (by decide) ?_
            have b_ : -2147483648 ≤ z69.toInt ∧ z69.toInt ≤ 2147483647 := ⟨zlo _, zhi _⟩
            have hpost : True := trivial
            have hP9 : va_P (dC, dI) vwCl [(h0, .inr (13, mX13 q0 v0)), ((q0 3), .inl (k3, 400, .inl f3)), ((q0 2), .inl (k2, 4800, .inl f2))] H := hP
            have hD9 : va_D A [(h0, .inr (13, mX13 q0 v0)), ((q0 3), .inl (k3, 400, .inl f3)), ((q0 2), .inl (k2, 4800, .inl f2))] := hD
            exact W.iret (v := z69) hx hb hr (fun t ht hW => ⟨⟨z69, (fun _ => 0), rfl, hpost, (fun _ => 0), (fun _ => (fun _ => 0)), (fun _ => (fun _ => 0)), by rw [ht]; exact hP9, va_K.moved hW.alike hK, hD9⟩, hS.F ht⟩) hS.2.2 dX13_order_70
  · skip
    have hc : va_P (dC, dI) vwCl [(h0, .inr (13, mX13 q0 v0)), ((q0 3), .inl (k3, 400, .inl f3)), ((q0 2), .inl (k2, 4800, .inl f2))] s.heap ∧ va_D A [(h0, .inr (13, mX13 q0 v0)), ((q0 3), .inl (k3, 400, .inl f3)), ((q0 2), .inl (k2, 4800, .inl f2))] ∧ va_S A s.heap s.heap [] ∧ lv_has ls 4 [(0, .ref h0), (1, .int x1), (2, .int x2), (3, .int 0)] ∧ (0 ≤ (0 : Int32).toInt ∧ (0 : Int32).toInt ≤ 12) := ⟨hP, hD, hS, lv_sub hl [1, 2, 3, 0] rfl, ⟨by omega, by omega⟩⟩
    exact hJ2 s.heap [] ls (fun i => ([0] : List (Int32)).getD i 0) (fun _ => 0) (fun _ => (fun _ => 0)) (fun _ => (fun _ => 0)) hc
set_option maxHeartbeats 8000000 in
set_option maxRecDepth 100000 in
theorem sX13_ahead_0 (l : Launch) (dC : Nat → ClassId) (dI : Nat → Nat → Nat) (adK adV : Nat → Nat) (h0 : Nat) (q0 : Nat → Nat) (k3 : ClassId) (k2 : ClassId) (sz : Nat) (v0 : Nat → Int32) (f3 : Nat → Int32) (f2 : Nat → Int32) (x1 : Int32) (hv0 : zR rg_Model v0) (hf3 : zA 0 12 f3) (hx1 : 0 ≤ x1.toInt ∧ x1.toInt ≤ 399) : Met l yX13_ahead (zw yX13_ahead cX13_ahead 4 (some .int)) { frames := 1, cells := 0, slots := 0, locals := 23 } (zPc dC dI adK adV [.ref h0, .int x1] sz [(h0, .inr (13, mX13 q0 v0)), ((q0 3), .inl (k3, 400, .inl f3)), ((q0 2), .inl (k2, 4800, .inl f2))] [(k3, .int), (k2, .byte)]) (va_Qi (fun (r : Int32) (u : Nat → Int32) => True) (fun (u : Nat → Int32) (t : State) => ∃ (ww : Nat → Int64) (aa : Nat → Nat → Int32) (bb : Nat → Nat → Int64), va_P (dC, dI) vwCl [(h0, .inr (13, mX13 q0 v0)), ((q0 3), .inl (k3, 400, .inl f3)), ((q0 2), .inl (k2, 4800, .inl f2))] t.heap ∧ va_K (dC, dI) vwCl [(k3, .int), (k2, .byte)] t ∧ va_D (va_A [(h0, .inr (13, mX13 q0 v0)), ((q0 3), .inl (k3, 400, .inl f3)), ((q0 2), .inl (k2, 4800, .inl f2))] sz) [(h0, .inr (13, mX13 q0 v0)), ((q0 3), .inl (k3, 400, .inl f3)), ((q0 2), .inl (k2, 4800, .inl f2))]) (va_A [(h0, .inr (13, mX13 q0 v0)), ((q0 3), .inl (k3, 400, .inl f3)), ((q0 2), .inl (k2, 4800, .inl f2))] sz)) 0 0 (va_A [(h0, .inr (13, mX13 q0 v0)), ((q0 3), .inl (k3, 400, .inl f3)), ((q0 2), .inl (k2, 4800, .inl f2))] sz) := by
  refine Met.ofW (cc := cX13_ahead) (maxL := 4) (ret := (some .int)) (by decide) rfl ?_
  intro p e s m args below meth c s₁ B hml hv
  obtain ⟨rfl, hsz, hP, hK, hD0, hE, hZ⟩ := hv
  have hx := B.exec
  have hb := B.bytes
  have hr := B.returns
  have hG : ∀ w ∈ zG, w.before _ s = true := fun w h => atoms_spec (ws := (zw yX13_ahead cX13_ahead 4 (some .int))) B.pre w (List.mem_cons_of_mem _ h)
  have hown : s.vm.findClass RX13 = some m.cls := findClass_of_methodNamed B.named
  have hlocks := B.notSynchronized
  subst hsz
  have hD := hD0.self (sz := s.heap.size)
  generalize hAe : va_A [(h0, .inr (13, mX13 q0 v0)), ((q0 3), .inl (k3, 400, .inl f3)), ((q0 2), .inl (k2, 4800, .inl f2))] s.heap.size = A at hD hZ ⊢
  have hA : ∀ q : Nat, s.heap.size ≤ q → A q := fun q h => by rw [← hAe]; exact Or.inr h
  have hS : va_S A s.heap s.heap [] := va_S.rf
  have hl := lv_entry ([.ref h0, .int x1]) (n := 4) (Nat.le_of_ble_eq_true rfl)
  rw [lg_entry_eq]
  generalize (lg_sl ([.ref h0, .int x1]) ++ List.replicate (4 - (lg_sl ([.ref h0, .int x1])).length) Slot.unset).toArray = ls at hl ⊢
  have hl : lv_has ls 4 [(0, .ref h0), (1, .int x1)] := hl
  have b_ := zk_0
  refine lv_iconst (v := 0) hx hb dX13_ahead_0 (by decide) ?_
  refine lv_istore_n (lv' := [(2, .int 0), (0, .ref h0), (1, .int x1)]) hx hb dX13_ahead_1 rfl hl (by decide) rfl (fun ls hl => ?_)
  refine lv_iconst (v := 0) hx hb dX13_ahead_2 (by decide) ?_
  refine lv_istore_n (lv' := [(3, .int 0), (2, .int 0), (0, .ref h0), (1, .int x1)]) hx hb dX13_ahead_3 rfl hl (by decide) rfl (fun ls hl => ?_)
  refine zcutL (fun u4_ => (400 - (u4_ 1).toInt).toNat) (fun H locs ls u4_ w4_ a4_ b4_ => va_P (dC, dI) vwCl [(h0, .inr (13, mX13 q0 v0)), ((q0 3), .inl (k3, 400, .inl f3)), ((q0 2), .inl (k2, 4800, .inl f2))] H ∧ va_D A [(h0, .inr (13, mX13 q0 v0)), ((q0 3), .inl (k3, 400, .inl f3)), ((q0 2), .inl (k2, 4800, .inl f2))] ∧ va_S A s.heap H locs ∧ lv_has ls 4 [(0, .ref h0), (1, .int x1), (2, .int (u4_ 0)), (3, .int (u4_ 1))] ∧ (0 ≤ (u4_ 1).toInt ∧ (u4_ 1).toInt ≤ 400)) (fun ls u4_ w4_ => F0 m 4 ls []) 0 0 ?_ (fun hJ4 => ?_)
  · skip
    intro H locs ls u4_ w4_ a4_ b4_ hc hJ4
    obtain ⟨hP, hD, hS, hl, b_⟩ := hc
    refine lv_iload_n hx hb dX13_ahead_4 rfl (lv_at hl 3 rfl) ?_
    refine lv_aload_n hx hb dX13_ahead_5 rfl (lv_at hl 0 rfl) ?_
    have b_ : 0 ≤ (v0 4).toInt ∧ (v0 4).toInt ≤ 400 := hv0 4
    refine va_get (D := (dC, dI)) (ci := 13) (v := .int (v0 4)) (C := RX13) (T := TX13) (N := 75) hx hb hG zuX13 hown hK hP 0 rfl rfl 4 (by decide) (hG _ zw551) (fun _ h9 => h9) rfl dX13_ahead_6 ?_
    refine lv_icmp_ge (tgt := 35) hx hb dX13_ahead_9 (by decide) (fun c_ => ?_) (fun c_ => ?_)
    · skip
      have b_ := zT_ge rfl rfl c_
      refine lv_iload_n hx hb dX13_ahead_35 rfl (lv_at hl 2 rfl) ?_
      refine W.widen (k := 0) (n := 0) (by decide) (by decide) ?_
      have b_ : -2147483648 ≤ (u4_ 0).toInt ∧ (u4_ 0).toInt ≤ 2147483647 := ⟨zlo _, zhi _⟩
      have hpost : True := trivial
      have hP9 : va_P (dC, dI) vwCl [(h0, .inr (13, mX13 q0 v0)), ((q0 3), .inl (k3, 400, .inl f3)), ((q0 2), .inl (k2, 4800, .inl f2))] H := hP
      have hD9 : va_D A [(h0, .inr (13, mX13 q0 v0)), ((q0 3), .inl (k3, 400, .inl f3)), ((q0 2), .inl (k2, 4800, .inl f2))] := hD
      exact W.iret (v := (u4_ 0)) hx hb hr (fun t ht hW => ⟨⟨(u4_ 0), (fun _ => 0), rfl, hpost, (fun _ => 0), (fun _ => (fun _ => 0)), (fun _ => (fun _ => 0)), by rw [ht]; exact hP9, va_K.moved hW.alike hK, hD9⟩, hS.F ht⟩) hS.2.2 dX13_ahead_36
    · skip
      have b_ := zF_ge rfl rfl c_
      refine lv_iload_n hx hb dX13_ahead_12 rfl (lv_at hl 2 rfl) ?_
      refine lv_aload_n hx hb dX13_ahead_13 rfl (lv_at hl 0 rfl) ?_
      refine lv_iload_n hx hb dX13_ahead_14 rfl (lv_at hl 3 rfl) ?_
      refine lv_iload_n hx hb dX13_ahead_15 rfl (lv_at hl 1 rfl) ?_
      have hPc := hP.sub (ws' := [(h0, .inr (13, mX13 q0 v0)), ((q0 3), .inl (k3, 400, .inl f3)), ((q0 2), .inl (k2, 4800, .inl f2))]) [0, 1, 2] rfl
      have hDc := hD.sub (ws' := [(h0, .inr (13, mX13 q0 v0)), ((q0 3), .inl (k3, 400, .inl f3)), ((q0 2), .inl (k2, 4800, .inl f2))]) [0, 1, 2] (by decide) rfl
      have hKc := hK.sub (tys' := [(k3, .int), (k2, .byte)]) [0, 1] rfl
      have hFc := va_free (wc := [(h0, .inr (13, mX13 q0 v0)), ((q0 3), .inl (k3, 400, .inl f3)), ((q0 2), .inl (k2, 4800, .inl f2))]) hD hS hA [0, 1, 2] rfl
      refine va_calli (va_runV (As := [.int (u4_ 1), .int x1]) (rest := [.int (u4_ 0)]) ⟨hx, hb, hml, hown, hG⟩ (sX13_order_0 l dC dI adK adV h0 q0 k3 k2 H.size v0 f3 f2 (u4_ 1) x1 hv0 hf3 ⟨show (0 : Int) ≤ ((u4_ 1) : Int32).toInt from by omega, show ((u4_ 1) : Int32).toInt ≤ (399 : Int) from by omega⟩ ⟨show (0 : Int) ≤ (x1 : Int32).toInt from by omega, show (x1 : Int32).toInt ≤ (399 : Int) from by omega⟩) (cwV 2 hG (zgV zw561 zw562 zw563 zw524 zw564) rfl rfl rfl (by decide +kernel) ⟨Nat.le_of_ble_eq_true rfl, Nat.le_of_ble_eq_true rfl⟩) ⟨zPc_blind, va_recv hKc hPc (ci := 13) (q0 := 0) rfl rfl, zPc_pre hPc hKc hDc hE hS hFc hZ⟩ rfl rfl hl.1 rfl (lv_room (Nat.le_of_ble_eq_true rfl)) dX13_ahead_16 ⟨Nat.le_of_ble_eq_true rfl, Nat.le_of_ble_eq_true rfl⟩) hS (fun q _ h => hFc q h) hFc (fun r16_ u16_ t H1 locs ht hvm hw hB hz1 hk1 hS => ?_)
      obtain ⟨w16_, a16_, b16_, hP1, hK1, hD1⟩ := hB
      rw [ht] at hP1
      obtain ⟨hP, hD⟩ := va_join (wr := []) (w1 := [(h0, .inr (13, mX13 q0 v0)), ((q0 3), .inl (k3, 400, .inl f3)), ((q0 2), .inl (k2, 4800, .inl f2))]) hP hD [0, 1, 2] [] rfl rfl (by decide) (by decide) hk1 hFc hP1 hD1
      have hP : va_P (dC, dI) vwCl [(h0, .inr (13, mX13 q0 v0)), ((q0 3), .inl (k3, 400, .inl f3)), ((q0 2), .inl (k2, 4800, .inl f2))] H1 := hP.sub [0, 1, 2] rfl
      have hD : va_D A [(h0, .inr (13, mX13 q0 v0)), ((q0 3), .inl (k3, 400, .inl f3)), ((q0 2), .inl (k2, 4800, .inl f2))] := hD.sub [0, 1, 2] (by decide) rfl
      generalize H1 = H at hP hS ⊢
      clear hz1
      have b_ : -2147483648 ≤ r16_.toInt ∧ r16_.toInt ≤ 2147483647 := ⟨zlo _, zhi _⟩
      refine lv_if_ge (tgt := 26) hx hb dX13_ahead_19 (by decide) (fun c_ => ?_) (fun c_ => ?_)
      · skip
        have b_ := zT_ge rfl zk_0 c_
        refine lv_iconst (v := 0) hx hb dX13_ahead_26 (by decide) ?_
        have b_ : -2147483648 ≤ (u4_ 0).toInt ∧ (u4_ 0).toInt ≤ 2147483647 := ⟨zlo _, zhi _⟩
        refine lv_iadd hx hb dX13_ahead_27 ?_
        refine lv_topi (fun z27 e_z27 => ?_)
        have b_ := zadd rfl zk_0 e_z27 (by omega) (by omega)
        refine lv_istore_n (lv' := [(2, .int z27), (0, .ref h0), (1, .int x1), (3, .int (u4_ 1))]) hx hb dX13_ahead_28 rfl hl (by decide) rfl (fun ls hl => ?_)
        obtain ⟨z29, e_z29⟩ : ∃ z : Int32, z = (u4_ 1) + Int32.ofInt 1 := ⟨_, rfl⟩
        have b_ := zadd (x := (u4_ 1)) (y := Int32.ofInt 1) rfl (show (Int32.ofInt 1).toInt = 1 from by decide) e_z29 (by omega) (by omega)
        refine lv_iinc (v := z29) (lv' := [(3, .int z29), (2, .int z27), (0, .ref h0), (1, .int x1)]) hx hb dX13_ahead_29 hl (k := 3) rfl e_z29.symm (by decide) rfl (fun ls hl => ?_)
        refine lv_goto (tgt := 4) hx hb dX13_ahead_32 (by decide) ?_
        have hc : va_P (dC, dI) vwCl [(h0, .inr (13, mX13 q0 v0)), ((q0 3), .inl (k3, 400, .inl f3)), ((q0 2), .inl (k2, 4800, .inl f2))] H ∧ va_D A [(h0, .inr (13, mX13 q0 v0)), ((q0 3), .inl (k3, 400, .inl f3)), ((q0 2), .inl (k2, 4800, .inl f2))] ∧ va_S A s.heap H locs ∧ lv_has ls 4 [(0, .ref h0), (1, .int x1), (2, .int z27), (3, .int z29)] ∧ (0 ≤ z29.toInt ∧ z29.toInt ≤ 400) := ⟨hP, hD, hS, lv_sub hl [2, 3, 1, 0] rfl, ⟨by omega, by omega⟩⟩
        exact hJ4 H locs ls (fun i => ([z27, z29] : List (Int32)).getD i 0) (fun _ => 0) (fun _ => (fun _ => 0)) (fun _ => (fun _ => 0)) hc (show (400 - z29.toInt).toNat < (400 - (u4_ 1).toInt).toNat from by omega)
      · skip
        have b_ := zF_ge rfl zk_0 c_
        refine lv_iconst (v := 1) hx hb dX13_ahead_22 (by decide) ?_
        refine lv_goto (tgt := 27) hx hb dX13_ahead_23 (by decide) ?_
        have b_ : -2147483648 ≤ (u4_ 0).toInt ∧ (u4_ 0).toInt ≤ 2147483647 := ⟨zlo _, zhi _⟩
        refine lv_iadd hx hb dX13_ahead_27 ?_
        refine lv_topi (fun z27 e_z27 => ?_)
        refine lv_istore_n (lv' := [(2, .int z27), (0, .ref h0), (1, .int x1), (3, .int (u4_ 1))]) hx hb dX13_ahead_28 rfl hl (by decide) rfl (fun ls hl => ?_)
        obtain ⟨z29, e_z29⟩ : ∃ z : Int32, z = (u4_ 1) + Int32.ofInt 1 := ⟨_, rfl⟩
        have b_ := zadd (x := (u4_ 1)) (y := Int32.ofInt 1) rfl (show (Int32.ofInt 1).toInt = 1 from by decide) e_z29 (by omega) (by omega)
        refine lv_iinc (v := z29) (lv' := [(3, .int z29), (2, .int z27), (0, .ref h0), (1, .int x1)]) hx hb dX13_ahead_29 hl (k := 3) rfl e_z29.symm (by decide) rfl (fun ls hl => ?_)
        refine lv_goto (tgt := 4) hx hb dX13_ahead_32 (by decide) ?_
        have b_ : -2147483648 ≤ z27.toInt ∧ z27.toInt ≤ 2147483647 := ⟨zlo _, zhi _⟩
        have hc : va_P (dC, dI) vwCl [(h0, .inr (13, mX13 q0 v0)), ((q0 3), .inl (k3, 400, .inl f3)), ((q0 2), .inl (k2, 4800, .inl f2))] H ∧ va_D A [(h0, .inr (13, mX13 q0 v0)), ((q0 3), .inl (k3, 400, .inl f3)), ((q0 2), .inl (k2, 4800, .inl f2))] ∧ va_S A s.heap H locs ∧ lv_has ls 4 [(0, .ref h0), (1, .int x1), (2, .int z27), (3, .int z29)] ∧ (0 ≤ z29.toInt ∧ z29.toInt ≤ 400) := ⟨hP, hD, hS, lv_sub hl [2, 3, 1, 0] rfl, ⟨by omega, by omega⟩⟩
        exact hJ4 H locs ls (fun i => ([z27, z29] : List (Int32)).getD i 0) (fun _ => 0) (fun _ => (fun _ => 0)) (fun _ => (fun _ => 0)) hc (show (400 - z29.toInt).toNat < (400 - (u4_ 1).toInt).toNat from by omega)
  · skip
    have hc : va_P (dC, dI) vwCl [(h0, .inr (13, mX13 q0 v0)), ((q0 3), .inl (k3, 400, .inl f3)), ((q0 2), .inl (k2, 4800, .inl f2))] s.heap ∧ va_D A [(h0, .inr (13, mX13 q0 v0)), ((q0 3), .inl (k3, 400, .inl f3)), ((q0 2), .inl (k2, 4800, .inl f2))] ∧ va_S A s.heap s.heap [] ∧ lv_has ls 4 [(0, .ref h0), (1, .int x1), (2, .int 0), (3, .int 0)] ∧ (0 ≤ (0 : Int32).toInt ∧ (0 : Int32).toInt ≤ 400) := ⟨hP, hD, hS, lv_sub hl [2, 3, 1, 0] rfl, ⟨by omega, by omega⟩⟩
    exact hJ4 s.heap [] ls (fun i => ([0, 0] : List (Int32)).getD i 0) (fun _ => 0) (fun _ => (fun _ => 0)) (fun _ => (fun _ => 0)) hc
set_option maxHeartbeats 8000000 in
set_option maxRecDepth 100000 in
theorem sX13_newWord_0 (l : Launch) (dC : Nat → ClassId) (dI : Nat → Nat → Nat) (adK adV : Nat → Nat) (h0 : Nat) (q0 : Nat → Nat) (k3 : ClassId) (k15 : ClassId) (k2 : ClassId) (sz : Nat) (v0 : Nat → Int32) (f3 : Nat → Int32) (f15 : Nat → Int32) (f2 : Nat → Int32) (hv0 : zR rg_Model v0) (hf3 : zA 0 12 f3) (hp0_ : (v0 4).toInt ≤ 399) : Met l yX13_newWord (zw yX13_newWord cX13_newWord 2 (some .int)) { frames := 0, cells := 0, slots := 0, locals := 0 } (zPc dC dI adK adV [.ref h0] sz [(h0, .inr (13, mX13 q0 v0)), ((q0 3), .inl (k3, 400, .inl f3)), ((q0 19), .inl (k15, 12, .inl f15)), ((q0 2), .inl (k2, 4800, .inl f2))] [(k3, .int), (k15, .byte), (k2, .byte)]) (va_Qi (fun (r : Int32) (u : Nat → Int32) => (0 ≤ r.toInt ∧ r.toInt ≤ 399) ∧ (1 ≤ (u 0).toInt ∧ (u 0).toInt ≤ 400) ∧ (0 ≤ (u 1).toInt ∧ (u 1).toInt ≤ 0) ∧ ((u 0).toInt = (v0 4).toInt + 1) ∧ (r.toInt = (v0 4).toInt)) (fun (u : Nat → Int32) (t : State) => ∃ (ww : Nat → Int64) (aa : Nat → Nat → Int32) (bb : Nat → Nat → Int64), zA 0 12 (aa 0) ∧ va_P (dC, dI) vwCl [(h0, .inr (13, mX13 q0 (upd (upd v0 4 (u 0)) 30 (u 1)))), ((q0 3), .inl (k3, 400, .inl (aa 0))), ((q0 19), .inl (k15, 12, .inl f15)), ((q0 2), .inl (k2, 4800, .inl (aa 1)))] t.heap ∧ va_K (dC, dI) vwCl [(k3, .int), (k15, .byte), (k2, .byte)] t ∧ va_D (va_A [(h0, .inr (13, mX13 q0 v0)), ((q0 3), .inl (k3, 400, .inl f3)), ((q0 19), .inl (k15, 12, .inl f15)), ((q0 2), .inl (k2, 4800, .inl f2))] sz) [(h0, .inr (13, mX13 q0 (upd (upd v0 4 (u 0)) 30 (u 1)))), ((q0 3), .inl (k3, 400, .inl (aa 0))), ((q0 19), .inl (k15, 12, .inl f15)), ((q0 2), .inl (k2, 4800, .inl (aa 1)))]) (va_A [(h0, .inr (13, mX13 q0 v0)), ((q0 3), .inl (k3, 400, .inl f3)), ((q0 19), .inl (k15, 12, .inl f15)), ((q0 2), .inl (k2, 4800, .inl f2))] sz)) 0 0 (va_A [(h0, .inr (13, mX13 q0 v0)), ((q0 3), .inl (k3, 400, .inl f3)), ((q0 19), .inl (k15, 12, .inl f15)), ((q0 2), .inl (k2, 4800, .inl f2))] sz) := by
  refine Met.ofW (cc := cX13_newWord) (maxL := 2) (ret := (some .int)) (by decide) rfl ?_
  intro p e s m args below meth c s₁ B hml hv
  obtain ⟨rfl, hsz, hP, hK, hD0, hE, hZ⟩ := hv
  have hx := B.exec
  have hb := B.bytes
  have hr := B.returns
  have hG : ∀ w ∈ zG, w.before _ s = true := fun w h => atoms_spec (ws := (zw yX13_newWord cX13_newWord 2 (some .int))) B.pre w (List.mem_cons_of_mem _ h)
  have hown : s.vm.findClass RX13 = some m.cls := findClass_of_methodNamed B.named
  have hlocks := B.notSynchronized
  subst hsz
  have hD := hD0.self (sz := s.heap.size)
  generalize hAe : va_A [(h0, .inr (13, mX13 q0 v0)), ((q0 3), .inl (k3, 400, .inl f3)), ((q0 19), .inl (k15, 12, .inl f15)), ((q0 2), .inl (k2, 4800, .inl f2))] s.heap.size = A at hD hZ ⊢
  have hA : ∀ q : Nat, s.heap.size ≤ q → A q := fun q h => by rw [← hAe]; exact Or.inr h
  have hS : va_S A s.heap s.heap [] := va_S.rf
  have hl := lv_entry ([.ref h0]) (n := 2) (Nat.le_of_ble_eq_true rfl)
  rw [lg_entry_eq]
  generalize (lg_sl ([.ref h0]) ++ List.replicate (2 - (lg_sl ([.ref h0])).length) Slot.unset).toArray = ls at hl ⊢
  have hl : lv_has ls 2 [(0, .ref h0)] := hl
  have b_ := zk_0
  have b_ : 0 ≤ (v0 4).toInt ∧ (v0 4).toInt ≤ 400 := hv0 4
  refine lv_iconst (v := 0) hx hb dX13_newWord_0 (by decide) ?_
  refine lv_istore_n (lv' := [(1, .int 0), (0, .ref h0)]) hx hb dX13_newWord_1 rfl hl (by decide) rfl (fun ls hl => ?_)
  refine zcutL (fun u2_ => (12 - (u2_ 0).toInt).toNat) (fun H locs ls u2_ w2_ a2_ b2_ => va_P (dC, dI) vwCl [(h0, .inr (13, mX13 q0 v0)), ((q0 3), .inl (k3, 400, .inl f3)), ((q0 19), .inl (k15, 12, .inl f15)), ((q0 2), .inl (k2, 4800, .inl (a2_ 0)))] H ∧ va_D A [(h0, .inr (13, mX13 q0 v0)), ((q0 3), .inl (k3, 400, .inl f3)), ((q0 19), .inl (k15, 12, .inl f15)), ((q0 2), .inl (k2, 4800, .inl (a2_ 0)))] ∧ va_S A s.heap H locs ∧ lv_has ls 2 [(0, .ref h0), (1, .int (u2_ 0))] ∧ (0 ≤ (u2_ 0).toInt ∧ (u2_ 0).toInt ≤ 12)) (fun ls u2_ w2_ => F0 m 2 ls []) 0 0 ?_ (fun hJ2 => ?_)
  · skip
    intro H locs ls u2_ w2_ a2_ b2_ hc hJ2
    obtain ⟨hP, hD, hS, hl, b_⟩ := hc
    refine lv_iload_n hx hb dX13_newWord_2 rfl (lv_at hl 1 rfl) ?_
    refine lv_aload_n hx hb dX13_newWord_3 rfl (lv_at hl 0 rfl) ?_
    have b_ : 0 ≤ (v0 20).toInt ∧ (v0 20).toInt ≤ 12 := hv0 20
    refine va_get (D := (dC, dI)) (ci := 13) (v := .int (v0 20)) (C := RX13) (T := TX13) (N := 75) hx hb hG zuX13 hown hK hP 0 rfl rfl 20 (by decide) (hG _ zw538) (fun _ h9 => h9) rfl dX13_newWord_4 ?_
    refine lv_icmp_ge (tgt := 36) hx hb dX13_newWord_7 (by decide) (fun c_ => ?_) (fun c_ => ?_)
    · skip
      have b_ := zT_ge rfl rfl c_
      refine lv_aload_n hx hb dX13_newWord_36 rfl (lv_at hl 0 rfl) ?_
      refine va_get (D := (dC, dI)) (ci := 13) (v := .ref (q0 3)) (C := RX13) (T := TX13) (N := 75) hx hb hG zuX13 hown hK hP 0 rfl rfl 3 (by decide) (hG _ zw553) (fun _ h9 => h9) rfl dX13_newWord_37 ?_
      refine lv_aload_n hx hb dX13_newWord_40 rfl (lv_at hl 0 rfl) ?_
      refine va_get (D := (dC, dI)) (ci := 13) (v := .int (v0 4)) (C := RX13) (T := TX13) (N := 75) hx hb hG zuX13 hown hK hP 0 rfl rfl 4 (by decide) (hG _ zw551) (fun _ h9 => h9) rfl dX13_newWord_41 ?_
      refine lv_aload_n hx hb dX13_newWord_44 rfl (lv_at hl 0 rfl) ?_
      refine va_get (D := (dC, dI)) (ci := 13) (v := .int (v0 20)) (C := RX13) (T := TX13) (N := 75) hx hb hG zuX13 hown hK hP 0 rfl rfl 20 (by decide) (hG _ zw538) (fun _ h9 => h9) rfl dX13_newWord_45 ?_
      refine va_iast hx hb hK hP hD hS 1 0 rfl rfl (zin_lit ⟨by omega, by omega⟩) dX13_newWord_48 (fun H locs hP hD hS => ?_)
      obtain ⟨f_48, e_f_48⟩ : ∃ z : Nat → Int32, z = upd f3 ((v0 4) : Int32).toNatClampNeg (v0 20) := ⟨_, rfl⟩
      have hP : va_P (dC, dI) vwCl [(h0, .inr (13, mX13 q0 v0)), ((q0 3), .inl (k3, 400, .inl f_48)), ((q0 19), .inl (k15, 12, .inl f15)), ((q0 2), .inl (k2, 4800, .inl (a2_ 0)))] H := by rw [e_f_48]; exact hP
      have hD : va_D A [(h0, .inr (13, mX13 q0 v0)), ((q0 3), .inl (k3, 400, .inl f_48)), ((q0 19), .inl (k15, 12, .inl f15)), ((q0 2), .inl (k2, 4800, .inl (a2_ 0)))] := by rw [e_f_48]; exact hD
      have hf_48 : zA 0 12 f_48 := by rw [e_f_48]; exact zA_upd hf3 (show 0 ≤ ((v0 20) : Int32).toInt from by omega) (show ((v0 20) : Int32).toInt ≤ 12 from by omega)
      refine lv_aload_n hx hb dX13_newWord_49 rfl (lv_at hl 0 rfl) ?_
      refine lv_dup hx hb dX13_newWord_50 rfl ?_
      refine va_get (D := (dC, dI)) (ci := 13) (v := .int (v0 4)) (C := RX13) (T := TX13) (N := 75) hx hb hG zuX13 hown hK hP 0 rfl rfl 4 (by decide) (hG _ zw551) (fun _ h9 => h9) rfl dX13_newWord_51 ?_
      refine lv_iconst (v := 1) hx hb dX13_newWord_54 (by decide) ?_
      refine lv_iadd hx hb dX13_newWord_55 ?_
      refine lv_topi (fun z55 e_z55 => ?_)
      have b_ := zadd rfl zk_1 e_z55 (by omega) (by omega)
      have b_ : 0 ≤ z55.toInt ∧ z55.toInt ≤ 400 := ⟨by omega, by omega⟩
      refine va_put (D := (dC, dI)) (ci := 13) (v := .int z55) (ty := .int) (C := RX13) (T := TX13) (N := 75) hx hb hG zuX13 tyX13 tyX13_ok nmX13 hown hK hP hD hS 0 rfl rfl 4 (by decide) (hG _ zw551) (fun _ h9 => h9) rfl (by decide +kernel) rfl rfl (Nat.le_of_ble_eq_true rfl) dX13_newWord_56 (fun H locs hP hD hS => ?_)
      have hP : va_P (dC, dI) vwCl [(h0, .inr (13, mX13 q0 (upd v0 4 z55))), ((q0 3), .inl (k3, 400, .inl f_48)), ((q0 19), .inl (k15, 12, .inl f15)), ((q0 2), .inl (k2, 4800, .inl (a2_ 0)))] H := hP
      have hD : va_D A [(h0, .inr (13, mX13 q0 (upd v0 4 z55))), ((q0 3), .inl (k3, 400, .inl f_48)), ((q0 19), .inl (k15, 12, .inl f15)), ((q0 2), .inl (k2, 4800, .inl (a2_ 0)))] := hD
      refine lv_aload_n hx hb dX13_newWord_59 rfl (lv_at hl 0 rfl) ?_
      refine lv_iconst (v := 0) hx hb dX13_newWord_60 (by decide) ?_
      refine va_put (D := (dC, dI)) (ci := 13) (v := .int 0) (ty := .boolean) (C := RX13) (T := TX13) (N := 75) hx hb hG zuX13 tyX13 tyX13_ok nmX13 hown hK hP hD hS 0 rfl rfl 30 (by decide) (hG _ zw568) (fun _ h9 => h9) rfl (by decide +kernel) rfl rfl (Nat.le_of_ble_eq_true rfl) dX13_newWord_61 (fun H locs hP hD hS => ?_)
      have hP : va_P (dC, dI) vwCl [(h0, .inr (13, mX13 q0 (upd (upd v0 4 z55) 30 0))), ((q0 3), .inl (k3, 400, .inl f_48)), ((q0 19), .inl (k15, 12, .inl f15)), ((q0 2), .inl (k2, 4800, .inl (a2_ 0)))] H := hP
      have hD : va_D A [(h0, .inr (13, mX13 q0 (upd (upd v0 4 z55) 30 0))), ((q0 3), .inl (k3, 400, .inl f_48)), ((q0 19), .inl (k15, 12, .inl f15)), ((q0 2), .inl (k2, 4800, .inl (a2_ 0)))] := hD
      refine lv_aload_n hx hb dX13_newWord_64 rfl (lv_at hl 0 rfl) ?_
      refine va_get (D := (dC, dI)) (ci := 13) (v := .int z55) (C := RX13) (T := TX13) (N := 75) hx hb hG zuX13 hown hK hP 0 rfl rfl 4 (by decide) (hG _ zw551) (fun _ h9 => h9) rfl dX13_newWord_65 ?_
      refine lv_iconst (v := 1) hx hb dX13_newWord_68 (by decide) ?_
      refine lv_isub hx hb dX13_newWord_69 ?_
      refine lv_topi (fun z69 e_z69 => ?_)
      have b_ := zsub rfl zk_1 e_z69 (by omega) (by omega)
      refine W.widen (k := 0) (n := 0) (by decide) (by decide) ?_
      have hpost : (0 ≤ z69.toInt ∧ z69.toInt ≤ 399) ∧ (1 ≤ z55.toInt ∧ z55.toInt ≤ 400) ∧ (0 ≤ (0 : Int32).toInt ∧ (0 : Int32).toInt ≤ 0) ∧ (z55.toInt = (v0 4).toInt + 1) ∧ (z69.toInt = (v0 4).toInt) := ⟨⟨by omega, by omega⟩, ⟨by omega, by omega⟩, ⟨by omega, by omega⟩, by omega, by omega⟩
      have hP9 : va_P (dC, dI) vwCl [(h0, .inr (13, mX13 q0 (upd (upd v0 4 z55) 30 0))), ((q0 3), .inl (k3, 400, .inl f_48)), ((q0 19), .inl (k15, 12, .inl f15)), ((q0 2), .inl (k2, 4800, .inl (a2_ 0)))] H := hP
      have hD9 : va_D A [(h0, .inr (13, mX13 q0 (upd (upd v0 4 z55) 30 0))), ((q0 3), .inl (k3, 400, .inl f_48)), ((q0 19), .inl (k15, 12, .inl f15)), ((q0 2), .inl (k2, 4800, .inl (a2_ 0)))] := hD
      exact W.iret (v := z69) hx hb hr (fun t ht hW => ⟨⟨z69, (fun i => ([z55, 0] : List (Int32)).getD i 0), rfl, hpost, (fun _ => 0), (fun i => ([f_48, (a2_ 0)] : List (Nat → Int32)).getD i (fun _ => 0)), (fun _ => (fun _ => 0)), hf_48, by rw [ht]; exact hP9, va_K.moved hW.alike hK, hD9⟩, hS.F ht⟩) hS.2.2 dX13_newWord_70
    · skip
      have b_ := zF_ge rfl rfl c_
      refine lv_aload_n hx hb dX13_newWord_10 rfl (lv_at hl 0 rfl) ?_
      refine va_get (D := (dC, dI)) (ci := 13) (v := .ref (q0 2)) (C := RX13) (T := TX13) (N := 75) hx hb hG zuX13 hown hK hP 0 rfl rfl 2 (by decide) (hG _ zw552) (fun _ h9 => h9) rfl dX13_newWord_11 ?_
      refine lv_bipush (v := 12) hx hb dX13_newWord_14 (by decide) ?_
      refine lv_aload_n hx hb dX13_newWord_16 rfl (lv_at hl 0 rfl) ?_
      refine va_get (D := (dC, dI)) (ci := 13) (v := .int (v0 4)) (C := RX13) (T := TX13) (N := 75) hx hb hG zuX13 hown hK hP 0 rfl rfl 4 (by decide) (hG _ zw551) (fun _ h9 => h9) rfl dX13_newWord_17 ?_
      refine lv_imul hx hb dX13_newWord_20 ?_
      refine lv_topi (fun z20 e_z20 => ?_)
      have b_ := zmul zk_12 rfl e_z20 (by omega) (by omega)
      refine lv_iload_n hx hb dX13_newWord_21 rfl (lv_at hl 1 rfl) ?_
      refine lv_iadd hx hb dX13_newWord_22 ?_
      refine lv_topi (fun z22 e_z22 => ?_)
      have b_ := zadd rfl rfl e_z22 (by omega) (by omega)
      refine lv_aload_n hx hb dX13_newWord_23 rfl (lv_at hl 0 rfl) ?_
      refine va_get (D := (dC, dI)) (ci := 13) (v := .ref (q0 19)) (C := RX13) (T := TX13) (N := 75) hx hb hG zuX13 hown hK hP 0 rfl rfl 19 (by decide) (hG _ zw539) (fun _ h9 => h9) rfl dX13_newWord_24 ?_
      refine lv_iload_n hx hb dX13_newWord_27 rfl (lv_at hl 1 rfl) ?_
      refine va_bald hx hb hK hP 2 1 rfl rfl (zin_lit ⟨by omega, by omega⟩) dX13_newWord_28 ?_
      refine lv_topi (fun z28 e_z28 => ?_)
      refine va_bast hx hb hK hP hD hS 3 2 rfl rfl (zin_lit ⟨by omega, by omega⟩) dX13_newWord_29 (fun H locs hP hD hS => ?_)
      obtain ⟨f_29, e_f_29⟩ : ∃ z : Nat → Int32, z = upd (a2_ 0) (z22 : Int32).toNatClampNeg (vp_nar .byte z28) := ⟨_, rfl⟩
      have hP : va_P (dC, dI) vwCl [(h0, .inr (13, mX13 q0 v0)), ((q0 3), .inl (k3, 400, .inl f3)), ((q0 19), .inl (k15, 12, .inl f15)), ((q0 2), .inl (k2, 4800, .inl f_29))] H := by rw [e_f_29]; exact hP
      have hD : va_D A [(h0, .inr (13, mX13 q0 v0)), ((q0 3), .inl (k3, 400, .inl f3)), ((q0 19), .inl (k15, 12, .inl f15)), ((q0 2), .inl (k2, 4800, .inl f_29))] := by rw [e_f_29]; exact hD
      obtain ⟨z30, e_z30⟩ : ∃ z : Int32, z = (u2_ 0) + Int32.ofInt 1 := ⟨_, rfl⟩
      have b_ := zadd (x := (u2_ 0)) (y := Int32.ofInt 1) rfl (show (Int32.ofInt 1).toInt = 1 from by decide) e_z30 (by omega) (by omega)
      refine lv_iinc (v := z30) (lv' := [(1, .int z30), (0, .ref h0)]) hx hb dX13_newWord_30 hl (k := 1) rfl e_z30.symm (by decide) rfl (fun ls hl => ?_)
      refine lv_goto (tgt := 2) hx hb dX13_newWord_33 (by decide) ?_
      have hc : va_P (dC, dI) vwCl [(h0, .inr (13, mX13 q0 v0)), ((q0 3), .inl (k3, 400, .inl f3)), ((q0 19), .inl (k15, 12, .inl f15)), ((q0 2), .inl (k2, 4800, .inl f_29))] H ∧ va_D A [(h0, .inr (13, mX13 q0 v0)), ((q0 3), .inl (k3, 400, .inl f3)), ((q0 19), .inl (k15, 12, .inl f15)), ((q0 2), .inl (k2, 4800, .inl f_29))] ∧ va_S A s.heap H locs ∧ lv_has ls 2 [(0, .ref h0), (1, .int z30)] ∧ (0 ≤ z30.toInt ∧ z30.toInt ≤ 12) := ⟨hP, hD, hS, lv_sub hl [1, 0] rfl, ⟨by omega, by omega⟩⟩
      exact hJ2 H locs ls (fun i => ([z30] : List (Int32)).getD i 0) (fun _ => 0) (fun i => ([f_29] : List (Nat → Int32)).getD i (fun _ => 0)) (fun _ => (fun _ => 0)) hc (show (12 - z30.toInt).toNat < (12 - (u2_ 0).toInt).toNat from by omega)
  · skip
    have hc : va_P (dC, dI) vwCl [(h0, .inr (13, mX13 q0 v0)), ((q0 3), .inl (k3, 400, .inl f3)), ((q0 19), .inl (k15, 12, .inl f15)), ((q0 2), .inl (k2, 4800, .inl f2))] s.heap ∧ va_D A [(h0, .inr (13, mX13 q0 v0)), ((q0 3), .inl (k3, 400, .inl f3)), ((q0 19), .inl (k15, 12, .inl f15)), ((q0 2), .inl (k2, 4800, .inl f2))] ∧ va_S A s.heap s.heap [] ∧ lv_has ls 2 [(0, .ref h0), (1, .int 0)] ∧ (0 ≤ (0 : Int32).toInt ∧ (0 : Int32).toInt ≤ 12) := ⟨hP, hD, hS, lv_sub hl [1, 0] rfl, ⟨by omega, by omega⟩⟩
    exact hJ2 s.heap [] ls (fun i => ([0] : List (Int32)).getD i 0) (fun _ => 0) (fun i => ([f2] : List (Nat → Int32)).getD i (fun _ => 0)) (fun _ => (fun _ => 0)) hc
set_option maxHeartbeats 8000000 in
set_option maxRecDepth 100000 in
theorem sX13_digits_0 (l : Launch) (dC : Nat → ClassId) (dI : Nat → Nat → Nat) (adK adV : Nat → Nat) (sz : Nat) (x0 : Int32) : Met l yX13_digits (zw yX13_digits cX13_digits 3 (some .int)) { frames := 0, cells := 0, slots := 0, locals := 0 } (zPc dC dI adK adV [.int x0] sz [] []) (va_Qi (fun (r : Int32) (u : Nat → Int32) => True) (fun (u : Nat → Int32) (t : State) => ∃ (ww : Nat → Int64) (aa : Nat → Nat → Int32) (bb : Nat → Nat → Int64), va_P (dC, dI) vwCl [] t.heap ∧ va_K (dC, dI) vwCl [] t ∧ va_D (va_A [] sz) []) (va_A [] sz)) 0 0 (va_A [] sz) := by
  refine Met.ofW (cc := cX13_digits) (maxL := 3) (ret := (some .int)) (by decide) rfl ?_
  intro p e s m args below meth c s₁ B hml hv
  obtain ⟨rfl, hsz, hP, hK, hD0, hE, hZ⟩ := hv
  have hx := B.exec
  have hb := B.bytes
  have hr := B.returns
  have hG : ∀ w ∈ zG, w.before _ s = true := fun w h => atoms_spec (ws := (zw yX13_digits cX13_digits 3 (some .int))) B.pre w (List.mem_cons_of_mem _ h)
  have hown : s.vm.findClass RX13 = some m.cls := findClass_of_methodNamed B.named
  have hlocks := B.notSynchronized
  subst hsz
  have hD := hD0.self (sz := s.heap.size)
  generalize hAe : va_A [] s.heap.size = A at hD hZ ⊢
  have hA : ∀ q : Nat, s.heap.size ≤ q → A q := fun q h => by rw [← hAe]; exact Or.inr h
  have hS : va_S A s.heap s.heap [] := va_S.rf
  have hl := lv_entry ([.int x0]) (n := 3) (Nat.le_of_ble_eq_true rfl)
  rw [lg_entry_eq]
  generalize (lg_sl ([.int x0]) ++ List.replicate (3 - (lg_sl ([.int x0])).length) Slot.unset).toArray = ls at hl ⊢
  have hl : lv_has ls 3 [(0, .int x0)] := hl
  refine lv_iconst (v := 0) hx hb dX13_digits_0 (by decide) ?_
  refine lv_istore_n (lv' := [(1, .int 0), (0, .int x0)]) hx hb dX13_digits_1 rfl hl (by decide) rfl (fun ls hl => ?_)
  refine lv_iload_n hx hb dX13_digits_2 rfl (lv_at hl 1 rfl) ?_
  refine lv_istore_n (lv' := [(2, .int x0), (1, .int 0), (0, .int x0)]) hx hb dX13_digits_3 rfl hl (by decide) rfl (fun ls hl => ?_)
  refine zcutL (fun u4_ => ((u4_ 1).toInt).toNat) (fun H locs ls u4_ w4_ a4_ b4_ => va_P (dC, dI) vwCl [] H ∧ va_D A [] ∧ va_S A s.heap H locs ∧ lv_has ls 3 [(0, .int x0), (1, .int (u4_ 0)), (2, .int (u4_ 1))]) (fun ls u4_ w4_ => F0 m 4 ls []) 0 0 ?_ (fun hJ4 => ?_)
  · skip
    intro H locs ls u4_ w4_ a4_ b4_ hc hJ4
    obtain ⟨hP, hD, hS, hl⟩ := hc
    refine lv_iload_n hx hb dX13_digits_4 rfl (lv_at hl 2 rfl) ?_
    have b_ : -2147483648 ≤ (u4_ 1).toInt ∧ (u4_ 1).toInt ≤ 2147483647 := ⟨zlo _, zhi _⟩
    refine lv_if_le (tgt := 18) hx hb dX13_digits_5 (by decide) (fun c_ => ?_) (fun c_ => ?_)
    · skip
      have b_ := zT_le rfl zk_0 c_
      refine lv_iload_n hx hb dX13_digits_18 rfl (lv_at hl 1 rfl) ?_
      refine W.widen (k := 0) (n := 0) (by decide) (by decide) ?_
      have b_ : -2147483648 ≤ (u4_ 0).toInt ∧ (u4_ 0).toInt ≤ 2147483647 := ⟨zlo _, zhi _⟩
      have hpost : True := trivial
      have hP9 : va_P (dC, dI) vwCl [] H := hP
      have hD9 : va_D A [] := hD
      exact W.iret (v := (u4_ 0)) hx hb hr (fun t ht hW => ⟨⟨(u4_ 0), (fun _ => 0), rfl, hpost, (fun _ => 0), (fun _ => (fun _ => 0)), (fun _ => (fun _ => 0)), by rw [ht]; exact hP9, va_K.moved hW.alike hK, hD9⟩, hS.F ht⟩) hS.2.2 dX13_digits_19
    · skip
      have b_ := zF_le rfl zk_0 c_
      have b_ : -2147483648 ≤ (u4_ 0).toInt ∧ (u4_ 0).toInt ≤ 2147483647 := ⟨zlo _, zhi _⟩
      obtain ⟨z8, e_z8⟩ : ∃ z : Int32, z = (u4_ 0) + Int32.ofInt 1 := ⟨_, rfl⟩
      refine lv_iinc (v := z8) (lv' := [(1, .int z8), (0, .int x0), (2, .int (u4_ 1))]) hx hb dX13_digits_8 hl (k := 1) rfl e_z8.symm (by decide) rfl (fun ls hl => ?_)
      refine lv_iload_n hx hb dX13_digits_11 rfl (lv_at hl 2 rfl) ?_
      refine lv_iconst (v := 2) hx hb dX13_digits_12 (by decide) ?_
      refine lv_idiv hx hb dX13_digits_13 (by decide) ?_
      refine lv_topi (fun z13 e_z13 => ?_)
      have b_ := zdiv rfl zk_2 e_z13 (by omega) (by decide)
      refine lv_istore_n (lv' := [(2, .int z13), (1, .int z8), (0, .int x0)]) hx hb dX13_digits_14 rfl hl (by decide) rfl (fun ls hl => ?_)
      refine lv_goto (tgt := 4) hx hb dX13_digits_15 (by decide) ?_
      have b_ : -2147483648 ≤ x0.toInt ∧ x0.toInt ≤ 2147483647 := ⟨zlo _, zhi _⟩
      have b_ : -2147483648 ≤ z8.toInt ∧ z8.toInt ≤ 2147483647 := ⟨zlo _, zhi _⟩
      have hc : va_P (dC, dI) vwCl [] H ∧ va_D A [] ∧ va_S A s.heap H locs ∧ lv_has ls 3 [(0, .int x0), (1, .int z8), (2, .int z13)] := ⟨hP, hD, hS, lv_sub hl [2, 1, 0] rfl⟩
      exact hJ4 H locs ls (fun i => ([z8, z13] : List (Int32)).getD i 0) (fun _ => 0) (fun _ => (fun _ => 0)) (fun _ => (fun _ => 0)) hc (show (z13.toInt).toNat < ((u4_ 1).toInt).toNat from by omega)
  · skip
    have b_ : -2147483648 ≤ x0.toInt ∧ x0.toInt ≤ 2147483647 := ⟨zlo _, zhi _⟩
    have hc : va_P (dC, dI) vwCl [] s.heap ∧ va_D A [] ∧ va_S A s.heap s.heap [] ∧ lv_has ls 3 [(0, .int x0), (1, .int 0), (2, .int x0)] := ⟨hP, hD, hS, lv_sub hl [2, 1, 0] rfl⟩
    exact hJ4 s.heap [] ls (fun i => ([0, x0] : List (Int32)).getD i 0) (fun _ => 0) (fun _ => (fun _ => 0)) (fun _ => (fun _ => 0)) hc
set_option maxHeartbeats 8000000 in
set_option maxRecDepth 100000 in
theorem sX13_gamma_0 (l : Launch) (dC : Nat → ClassId) (dI : Nat → Nat → Nat) (adK adV : Nat → Nat) (sz : Nat) (x0 : Int32) : Met l yX13_gamma (zw yX13_gamma cX13_gamma 1 (some .int)) { frames := 1, cells := 0, slots := 0, locals := 22 } (zPc dC dI adK adV [.int x0] sz [] []) (va_Qi (fun (r : Int32) (u : Nat → Int32) => True) (fun (u : Nat → Int32) (t : State) => ∃ (ww : Nat → Int64) (aa : Nat → Nat → Int32) (bb : Nat → Nat → Int64), va_P (dC, dI) vwCl [] t.heap ∧ va_K (dC, dI) vwCl [] t ∧ va_D (va_A [] sz) []) (va_A [] sz)) 0 0 (va_A [] sz) := by
  refine Met.ofW (cc := cX13_gamma) (maxL := 1) (ret := (some .int)) (by decide) rfl ?_
  intro p e s m args below meth c s₁ B hml hv
  obtain ⟨rfl, hsz, hP, hK, hD0, hE, hZ⟩ := hv
  have hx := B.exec
  have hb := B.bytes
  have hr := B.returns
  have hG : ∀ w ∈ zG, w.before _ s = true := fun w h => atoms_spec (ws := (zw yX13_gamma cX13_gamma 1 (some .int))) B.pre w (List.mem_cons_of_mem _ h)
  have hown : s.vm.findClass RX13 = some m.cls := findClass_of_methodNamed B.named
  have hlocks := B.notSynchronized
  subst hsz
  have hD := hD0.self (sz := s.heap.size)
  generalize hAe : va_A [] s.heap.size = A at hD hZ ⊢
  have hA : ∀ q : Nat, s.heap.size ≤ q → A q := fun q h => by rw [← hAe]; exact Or.inr h
  have hS : va_S A s.heap s.heap [] := va_S.rf
  have hl := lv_entry ([.int x0]) (n := 1) (Nat.le_of_ble_eq_true rfl)
  rw [lg_entry_eq]
  generalize (lg_sl ([.int x0]) ++ List.replicate (1 - (lg_sl ([.int x0])).length) Slot.unset).toArray = ls at hl ⊢
  have hl : lv_has ls 1 [(0, .int x0)] := hl
  refine lv_iconst (v := 2) hx hb dX13_gamma_0 (by decide) ?_
  refine lv_iload_n hx hb dX13_gamma_1 rfl (lv_at hl 0 rfl) ?_
  have hPc := hP.sub (ws' := []) [] rfl
  have hDc := hD.sub (ws' := []) [] (by decide) rfl
  have hKc := hK.sub (tys' := []) [] rfl
  have hFc := va_free (wc := []) hD hS hA [] rfl
  refine va_calli (va_runS (As := [.int x0]) (rest := [.int 2]) ⟨hx, hb, hml, hown, hG⟩ (sX13_digits_0 l dC dI adK adV s.heap.size x0) (va_cwS 1 hG (zgS zw576 zw577 zw524 zw578) rfl rfl rfl (by decide +kernel) ⟨Nat.le_of_ble_eq_true rfl, Nat.le_of_ble_eq_true rfl⟩) ⟨zPc_blind, zPc_pre hPc hKc hDc hE hS hFc hZ⟩ rfl rfl hl.1 rfl (lv_room (Nat.le_of_ble_eq_true rfl)) dX13_gamma_2 ⟨Nat.le_of_ble_eq_true rfl, Nat.le_of_ble_eq_true rfl⟩) hS (fun q _ h => hFc q h) hFc (fun r2_ u2_ t H1 locs ht hvm hw hB hz1 hk1 hS => ?_)
  obtain ⟨w2_, a2_, b2_, hP1, hK1, hD1⟩ := hB
  rw [ht] at hP1
  obtain ⟨hP, hD⟩ := va_join (wr := []) (w1 := []) hP hD [] [] rfl rfl (by decide) (by decide) hk1 hFc hP1 hD1
  have hP : va_P (dC, dI) vwCl [] H1 := hP.sub [] rfl
  have hD : va_D A [] := hD.sub [] (by decide) rfl
  generalize H1 = H at hP hS ⊢
  clear hz1
  have b_ : -2147483648 ≤ r2_.toInt ∧ r2_.toInt ≤ 2147483647 := ⟨zlo _, zhi _⟩
  refine lv_imul hx hb dX13_gamma_5 ?_
  refine lv_topi (fun z5 e_z5 => ?_)
  refine lv_iconst (v := 1) hx hb dX13_gamma_6 (by decide) ?_
  have b_ : -2147483648 ≤ z5.toInt ∧ z5.toInt ≤ 2147483647 := ⟨zlo _, zhi _⟩
  refine lv_isub hx hb dX13_gamma_7 ?_
  refine lv_topi (fun z7 e_z7 => ?_)
  refine W.widen (k := 0) (n := 0) (by decide) (by decide) ?_
  have b_ : -2147483648 ≤ z7.toInt ∧ z7.toInt ≤ 2147483647 := ⟨zlo _, zhi _⟩
  have hpost : True := trivial
  have hP9 : va_P (dC, dI) vwCl [] H := hP
  have hD9 : va_D A [] := hD
  exact W.iret (v := z7) hx hb hr (fun t ht hW => ⟨⟨z7, (fun _ => 0), rfl, hpost, (fun _ => 0), (fun _ => (fun _ => 0)), (fun _ => (fun _ => 0)), by rw [ht]; exact hP9, va_K.moved hW.alike hK, hD9⟩, hS.F ht⟩) hS.2.2 dX13_gamma_8
set_option maxHeartbeats 8000000 in
set_option maxRecDepth 100000 in
theorem sX13_measure_0 (l : Launch) (dC : Nat → ClassId) (dI : Nat → Nat → Nat) (adK adV : Nat → Nat) (h0 : Nat) (q0 : Nat → Nat) (k17 : ClassId) (k18 : ClassId) (k6 : ClassId) (k4 : ClassId) (k20 : ClassId) (k19 : ClassId) (sz : Nat) (v0 : Nat → Int32) (f17 : Nat → Int32) (f18 : Nat → Int32) (f6 : Nat → Int32) (f4 : Nat → Int32) (f20 : Nat → Int32) (f19 : Nat → Int32) (hv0 : zR rg_Model v0) (hf18 : zA (-1) 119 f18) (hf4 : zA 0 400 f4) (hf19 : zA (-1) 1023 f19) : Met l yX13_measure (zw yX13_measure cX13_measure 4 none) { frames := 2, cells := 0, slots := 0, locals := 42 } (zPc dC dI adK adV [.ref h0] sz [(h0, .inr (13, mX13 q0 v0)), ((q0 25), .inl (k17, 400, .inl f17)), ((q0 26), .inl (k18, 400, .inl f18)), ((q0 7), .inl (k6, 120, .inl f6)), ((q0 5), .inl (k4, 122880, .inl f4)), ((q0 28), .inl (k20, 400, .inl f20)), ((q0 27), .inl (k19, 400, .inl f19))] [(k17, .int), (k18, .int), (k6, .boolean), (k4, .short), (k20, .int), (k19, .int)]) (va_Qv (fun (u : Nat → Int32) => True) (fun (u : Nat → Int32) (t : State) => ∃ (ww : Nat → Int64) (aa : Nat → Nat → Int32) (bb : Nat → Nat → Int64), zA (-1) 119 (aa 1) ∧ zA (-1) 1023 (aa 3) ∧ va_P (dC, dI) vwCl [(h0, .inr (13, mX13 q0 v0)), ((q0 25), .inl (k17, 400, .inl (aa 0))), ((q0 26), .inl (k18, 400, .inl (aa 1))), ((q0 7), .inl (k6, 120, .inl f6)), ((q0 5), .inl (k4, 122880, .inl f4)), ((q0 28), .inl (k20, 400, .inl (aa 2))), ((q0 27), .inl (k19, 400, .inl (aa 3)))] t.heap ∧ va_K (dC, dI) vwCl [(k17, .int), (k18, .int), (k6, .boolean), (k4, .short), (k20, .int), (k19, .int)] t ∧ va_D (va_A [(h0, .inr (13, mX13 q0 v0)), ((q0 25), .inl (k17, 400, .inl f17)), ((q0 26), .inl (k18, 400, .inl f18)), ((q0 7), .inl (k6, 120, .inl f6)), ((q0 5), .inl (k4, 122880, .inl f4)), ((q0 28), .inl (k20, 400, .inl f20)), ((q0 27), .inl (k19, 400, .inl f19))] sz) [(h0, .inr (13, mX13 q0 v0)), ((q0 25), .inl (k17, 400, .inl (aa 0))), ((q0 26), .inl (k18, 400, .inl (aa 1))), ((q0 7), .inl (k6, 120, .inl f6)), ((q0 5), .inl (k4, 122880, .inl f4)), ((q0 28), .inl (k20, 400, .inl (aa 2))), ((q0 27), .inl (k19, 400, .inl (aa 3)))]) (va_A [(h0, .inr (13, mX13 q0 v0)), ((q0 25), .inl (k17, 400, .inl f17)), ((q0 26), .inl (k18, 400, .inl f18)), ((q0 7), .inl (k6, 120, .inl f6)), ((q0 5), .inl (k4, 122880, .inl f4)), ((q0 28), .inl (k20, 400, .inl f20)), ((q0 27), .inl (k19, 400, .inl f19))] sz)) 0 0 (va_A [(h0, .inr (13, mX13 q0 v0)), ((q0 25), .inl (k17, 400, .inl f17)), ((q0 26), .inl (k18, 400, .inl f18)), ((q0 7), .inl (k6, 120, .inl f6)), ((q0 5), .inl (k4, 122880, .inl f4)), ((q0 28), .inl (k20, 400, .inl f20)), ((q0 27), .inl (k19, 400, .inl f19))] sz) := by
  refine Met.ofW (cc := cX13_measure) (maxL := 4) (ret := none) (by decide) rfl ?_
  intro p e s m args below meth c s₁ B hml hv
  obtain ⟨rfl, hsz, hP, hK, hD0, hE, hZ⟩ := hv
  have hx := B.exec
  have hb := B.bytes
  have hr := B.returns
  have hG : ∀ w ∈ zG, w.before _ s = true := fun w h => atoms_spec (ws := (zw yX13_measure cX13_measure 4 none)) B.pre w (List.mem_cons_of_mem _ h)
  have hown : s.vm.findClass RX13 = some m.cls := findClass_of_methodNamed B.named
  have hlocks := B.notSynchronized
  subst hsz
  have hD := hD0.self (sz := s.heap.size)
  generalize hAe : va_A [(h0, .inr (13, mX13 q0 v0)), ((q0 25), .inl (k17, 400, .inl f17)), ((q0 26), .inl (k18, 400, .inl f18)), ((q0 7), .inl (k6, 120, .inl f6)), ((q0 5), .inl (k4, 122880, .inl f4)), ((q0 28), .inl (k20, 400, .inl f20)), ((q0 27), .inl (k19, 400, .inl f19))] s.heap.size = A at hD hZ ⊢
  have hA : ∀ q : Nat, s.heap.size ≤ q → A q := fun q h => by rw [← hAe]; exact Or.inr h
  have hS : va_S A s.heap s.heap [] := va_S.rf
  have hl := lv_entry ([.ref h0]) (n := 4) (Nat.le_of_ble_eq_true rfl)
  rw [lg_entry_eq]
  generalize (lg_sl ([.ref h0]) ++ List.replicate (4 - (lg_sl ([.ref h0])).length) Slot.unset).toArray = ls at hl ⊢
  have hl : lv_has ls 4 [(0, .ref h0)] := hl
  have b_ := zk_0
  refine lv_iconst (v := 0) hx hb dX13_measure_0 (by decide) ?_
  refine lv_istore_n (lv' := [(1, .int 0), (0, .ref h0)]) hx hb dX13_measure_1 rfl hl (by decide) rfl (fun ls hl => ?_)
  refine zcutL (fun u2_ => (400 - (u2_ 0).toInt).toNat) (fun H locs ls u2_ w2_ a2_ b2_ => va_P (dC, dI) vwCl [(h0, .inr (13, mX13 q0 v0)), ((q0 25), .inl (k17, 400, .inl (a2_ 0))), ((q0 26), .inl (k18, 400, .inl (a2_ 1))), ((q0 7), .inl (k6, 120, .inl f6)), ((q0 5), .inl (k4, 122880, .inl f4)), ((q0 28), .inl (k20, 400, .inl f20)), ((q0 27), .inl (k19, 400, .inl f19))] H ∧ va_D A [(h0, .inr (13, mX13 q0 v0)), ((q0 25), .inl (k17, 400, .inl (a2_ 0))), ((q0 26), .inl (k18, 400, .inl (a2_ 1))), ((q0 7), .inl (k6, 120, .inl f6)), ((q0 5), .inl (k4, 122880, .inl f4)), ((q0 28), .inl (k20, 400, .inl f20)), ((q0 27), .inl (k19, 400, .inl f19))] ∧ va_S A s.heap H locs ∧ lv_has ls 4 [(0, .ref h0), (1, .int (u2_ 0))] ∧ zA (-1) 119 (a2_ 1) ∧ (0 ≤ (u2_ 0).toInt ∧ (u2_ 0).toInt ≤ 400)) (fun ls u2_ w2_ => F0 m 2 ls []) 0 0 ?_ (fun hJ2 => ?_)
  · skip
    intro H locs ls u2_ w2_ a2_ b2_ hc hJ2
    obtain ⟨hP, hD, hS, hl, ha2_1, b_⟩ := hc
    refine lv_iload_n hx hb dX13_measure_2 rfl (lv_at hl 1 rfl) ?_
    refine lv_aload_n hx hb dX13_measure_3 rfl (lv_at hl 0 rfl) ?_
    have b_ : 0 ≤ (v0 4).toInt ∧ (v0 4).toInt ≤ 400 := hv0 4
    refine va_get (D := (dC, dI)) (ci := 13) (v := .int (v0 4)) (C := RX13) (T := TX13) (N := 75) hx hb hG zuX13 hown hK hP 0 rfl rfl 4 (by decide) (hG _ zw551) (fun _ h9 => h9) rfl dX13_measure_4 ?_
    refine lv_icmp_ge (tgt := 30) hx hb dX13_measure_7 (by decide) (fun c_ => ?_) (fun c_ => ?_)
    · skip
      have b_ := zT_ge rfl rfl c_
      refine lv_iconst (v := 0) hx hb dX13_measure_30 (by decide) ?_
      refine lv_istore_n (lv' := [(1, .int 0), (0, .ref h0)]) hx hb dX13_measure_31 rfl hl (by decide) rfl (fun ls hl => ?_)
      refine zcutL (fun u32_ => (120 - (u32_ 0).toInt).toNat) (fun H locs ls u32_ w32_ a32_ b32_ => va_P (dC, dI) vwCl [(h0, .inr (13, mX13 q0 v0)), ((q0 25), .inl (k17, 400, .inl (a32_ 0))), ((q0 26), .inl (k18, 400, .inl (a32_ 1))), ((q0 7), .inl (k6, 120, .inl f6)), ((q0 5), .inl (k4, 122880, .inl f4)), ((q0 28), .inl (k20, 400, .inl (a32_ 3))), ((q0 27), .inl (k19, 400, .inl (a32_ 2)))] H ∧ va_D A [(h0, .inr (13, mX13 q0 v0)), ((q0 25), .inl (k17, 400, .inl (a32_ 0))), ((q0 26), .inl (k18, 400, .inl (a32_ 1))), ((q0 7), .inl (k6, 120, .inl f6)), ((q0 5), .inl (k4, 122880, .inl f4)), ((q0 28), .inl (k20, 400, .inl (a32_ 3))), ((q0 27), .inl (k19, 400, .inl (a32_ 2)))] ∧ va_S A s.heap H locs ∧ lv_has ls 4 [(0, .ref h0), (1, .int (u32_ 0))] ∧ zA (-1) 119 (a32_ 1) ∧ zA (-1) 1023 (a32_ 2) ∧ (0 ≤ (u32_ 0).toInt ∧ (u32_ 0).toInt ≤ 120)) (fun ls u32_ w32_ => F0 m 32 ls []) 0 0 ?_ (fun hJ32 => ?_)
      · skip
        intro H locs ls u32_ w32_ a32_ b32_ hc hJ32
        obtain ⟨hP, hD, hS, hl, ha32_1, ha32_2, b_⟩ := hc
        refine lv_iload_n hx hb dX13_measure_32 rfl (lv_at hl 1 rfl) ?_
        refine lv_aload_n hx hb dX13_measure_33 rfl (lv_at hl 0 rfl) ?_
        have b_ : 0 ≤ (v0 13).toInt ∧ (v0 13).toInt ≤ 120 := hv0 13
        refine va_get (D := (dC, dI)) (ci := 13) (v := .int (v0 13)) (C := RX13) (T := TX13) (N := 75) hx hb hG zuX13 hown hK hP 0 rfl rfl 13 (by decide) (hG _ zw565) (fun _ h9 => h9) rfl dX13_measure_34 ?_
        refine lv_icmp_ge (tgt := 227) hx hb dX13_measure_37 (by decide) (fun c_ => ?_) (fun c_ => ?_)
        · skip
          have b_ := zT_ge rfl rfl c_
          refine W.widen (k := 0) (n := 0) (by decide) (by decide) ?_
          have hpost : True := trivial
          have hP9 : va_P (dC, dI) vwCl [(h0, .inr (13, mX13 q0 v0)), ((q0 25), .inl (k17, 400, .inl (a32_ 0))), ((q0 26), .inl (k18, 400, .inl (a32_ 1))), ((q0 7), .inl (k6, 120, .inl f6)), ((q0 5), .inl (k4, 122880, .inl f4)), ((q0 28), .inl (k20, 400, .inl (a32_ 3))), ((q0 27), .inl (k19, 400, .inl (a32_ 2)))] H := hP
          have hD9 : va_D A [(h0, .inr (13, mX13 q0 v0)), ((q0 25), .inl (k17, 400, .inl (a32_ 0))), ((q0 26), .inl (k18, 400, .inl (a32_ 1))), ((q0 7), .inl (k6, 120, .inl f6)), ((q0 5), .inl (k4, 122880, .inl f4)), ((q0 28), .inl (k20, 400, .inl (a32_ 3))), ((q0 27), .inl (k19, 400, .inl (a32_ 2)))] := hD
          exact W.vret hx hb hr (fun t ht hW => ⟨⟨(fun _ => 0), rfl, hpost, (fun _ => 0), (fun i => ([(a32_ 0), (a32_ 1), (a32_ 3), (a32_ 2)] : List (Nat → Int32)).getD i (fun _ => 0)), (fun _ => (fun _ => 0)), ha32_1, ha32_2, by rw [ht]; exact hP9, va_K.moved hW.alike hK, hD9⟩, hS.F ht⟩) hS.2.2 dX13_measure_227
        · skip
          have b_ := zF_ge rfl rfl c_
          refine lv_aload_n hx hb dX13_measure_40 rfl (lv_at hl 0 rfl) ?_
          refine va_get (D := (dC, dI)) (ci := 13) (v := .ref (q0 7)) (C := RX13) (T := TX13) (N := 75) hx hb hG zuX13 hown hK hP 0 rfl rfl 7 (by decide) (hG _ zw571) (fun _ h9 => h9) rfl dX13_measure_41 ?_
          refine lv_iload_n hx hb dX13_measure_44 rfl (lv_at hl 1 rfl) ?_
          refine va_zald hx hb hK hP 3 2 rfl rfl (zin_lit ⟨by omega, by omega⟩) dX13_measure_45 ?_
          refine lv_topi (fun z45 e_z45 => ?_)
          have b_ : -2147483648 ≤ z45.toInt ∧ z45.toInt ≤ 2147483647 := ⟨zlo _, zhi _⟩
          refine lv_if_ne (tgt := 52) hx hb dX13_measure_46 (by decide) (fun c_ => ?_) (fun c_ => ?_)
          · skip
            have b_ := zT_ne rfl zk_0 c_
            refine lv_iconst (v := 0) hx hb dX13_measure_52 (by decide) ?_
            refine lv_istore_n (lv' := [(2, .int 0), (0, .ref h0), (1, .int (u32_ 0))]) hx hb dX13_measure_53 rfl hl (by decide) rfl (fun ls hl => ?_)
            refine zcutL (fun u54_ => (400 - (u54_ 0).toInt).toNat) (fun H locs ls u54_ w54_ a54_ b54_ => va_P (dC, dI) vwCl [(h0, .inr (13, mX13 q0 v0)), ((q0 25), .inl (k17, 400, .inl (a32_ 0))), ((q0 26), .inl (k18, 400, .inl (a32_ 1))), ((q0 7), .inl (k6, 120, .inl f6)), ((q0 5), .inl (k4, 122880, .inl f4)), ((q0 28), .inl (k20, 400, .inl (a54_ 1))), ((q0 27), .inl (k19, 400, .inl (a54_ 0)))] H ∧ va_D A [(h0, .inr (13, mX13 q0 v0)), ((q0 25), .inl (k17, 400, .inl (a32_ 0))), ((q0 26), .inl (k18, 400, .inl (a32_ 1))), ((q0 7), .inl (k6, 120, .inl f6)), ((q0 5), .inl (k4, 122880, .inl f4)), ((q0 28), .inl (k20, 400, .inl (a54_ 1))), ((q0 27), .inl (k19, 400, .inl (a54_ 0)))] ∧ va_S A s.heap H locs ∧ lv_has ls 4 [(0, .ref h0), (1, .int (u32_ 0)), (2, .int (u54_ 0))] ∧ zA (-1) 1023 (a54_ 0) ∧ (0 ≤ (u54_ 0).toInt ∧ (u54_ 0).toInt ≤ 400)) (fun ls u54_ w54_ => F0 m 54 ls []) 0 0 ?_ (fun hJ54 => ?_)
            · skip
              intro H locs ls u54_ w54_ a54_ b54_ hc hJ54
              obtain ⟨hP, hD, hS, hl, ha54_0, b_⟩ := hc
              refine lv_iload_n hx hb dX13_measure_54 rfl (lv_at hl 2 rfl) ?_
              refine lv_aload_n hx hb dX13_measure_55 rfl (lv_at hl 0 rfl) ?_
              refine va_get (D := (dC, dI)) (ci := 13) (v := .int (v0 4)) (C := RX13) (T := TX13) (N := 75) hx hb hG zuX13 hown hK hP 0 rfl rfl 4 (by decide) (hG _ zw551) (fun _ h9 => h9) rfl dX13_measure_56 ?_
              refine lv_icmp_ge (tgt := 82) hx hb dX13_measure_59 (by decide) (fun c_ => ?_) (fun c_ => ?_)
              · skip
                have b_ := zT_ge rfl rfl c_
                refine lv_iconst (v := 0) hx hb dX13_measure_82 (by decide) ?_
                refine lv_istore_n (lv' := [(2, .int 0), (0, .ref h0), (1, .int (u32_ 0))]) hx hb dX13_measure_83 rfl hl (by decide) rfl (fun ls hl => ?_)
                refine zcutL (fun u84_ => (1024 - (u84_ 0).toInt).toNat) (fun H locs ls u84_ w84_ a84_ b84_ => va_P (dC, dI) vwCl [(h0, .inr (13, mX13 q0 v0)), ((q0 25), .inl (k17, 400, .inl (a84_ 0))), ((q0 26), .inl (k18, 400, .inl (a32_ 1))), ((q0 7), .inl (k6, 120, .inl f6)), ((q0 5), .inl (k4, 122880, .inl f4)), ((q0 28), .inl (k20, 400, .inl (a84_ 2))), ((q0 27), .inl (k19, 400, .inl (a84_ 1)))] H ∧ va_D A [(h0, .inr (13, mX13 q0 v0)), ((q0 25), .inl (k17, 400, .inl (a84_ 0))), ((q0 26), .inl (k18, 400, .inl (a32_ 1))), ((q0 7), .inl (k6, 120, .inl f6)), ((q0 5), .inl (k4, 122880, .inl f4)), ((q0 28), .inl (k20, 400, .inl (a84_ 2))), ((q0 27), .inl (k19, 400, .inl (a84_ 1)))] ∧ va_S A s.heap H locs ∧ lv_has ls 4 [(0, .ref h0), (1, .int (u32_ 0)), (2, .int (u84_ 0))] ∧ zA (-1) 1023 (a84_ 1) ∧ (0 ≤ (u84_ 0).toInt ∧ (u84_ 0).toInt ≤ 1024)) (fun ls u84_ w84_ => F0 m 84 ls []) 0 0 ?_ (fun hJ84 => ?_)
                · skip
                  intro H locs ls u84_ w84_ a84_ b84_ hc hJ84
                  obtain ⟨hP, hD, hS, hl, ha84_1, b_⟩ := hc
                  refine lv_iload_n hx hb dX13_measure_84 rfl (lv_at hl 2 rfl) ?_
                  refine lv_sipush (v := 1024) hx hb dX13_measure_85 (by decide) ?_
                  refine lv_icmp_ge (tgt := 156) hx hb dX13_measure_88 (by decide) (fun c_ => ?_) (fun c_ => ?_)
                  · skip
                    have b_ := zT_ge rfl zk_1024 c_
                    refine lv_iconst (v := 0) hx hb dX13_measure_156 (by decide) ?_
                    refine lv_istore_n (lv' := [(2, .int 0), (0, .ref h0), (1, .int (u32_ 0))]) hx hb dX13_measure_157 rfl hl (by decide) rfl (fun ls hl => ?_)
                    refine zcutL (fun u158_ => (400 - (u158_ 0).toInt).toNat) (fun H locs ls u158_ w158_ a158_ b158_ => va_P (dC, dI) vwCl [(h0, .inr (13, mX13 q0 v0)), ((q0 25), .inl (k17, 400, .inl (a158_ 0))), ((q0 26), .inl (k18, 400, .inl (a158_ 1))), ((q0 7), .inl (k6, 120, .inl f6)), ((q0 5), .inl (k4, 122880, .inl f4)), ((q0 28), .inl (k20, 400, .inl (a84_ 2))), ((q0 27), .inl (k19, 400, .inl (a84_ 1)))] H ∧ va_D A [(h0, .inr (13, mX13 q0 v0)), ((q0 25), .inl (k17, 400, .inl (a158_ 0))), ((q0 26), .inl (k18, 400, .inl (a158_ 1))), ((q0 7), .inl (k6, 120, .inl f6)), ((q0 5), .inl (k4, 122880, .inl f4)), ((q0 28), .inl (k20, 400, .inl (a84_ 2))), ((q0 27), .inl (k19, 400, .inl (a84_ 1)))] ∧ va_S A s.heap H locs ∧ lv_has ls 4 [(0, .ref h0), (1, .int (u32_ 0)), (2, .int (u158_ 0))] ∧ zA (-1) 119 (a158_ 1) ∧ (0 ≤ (u158_ 0).toInt ∧ (u158_ 0).toInt ≤ 400)) (fun ls u158_ w158_ => F0 m 158 ls []) 0 0 ?_ (fun hJ158 => ?_)
                    · skip
                      intro H locs ls u158_ w158_ a158_ b158_ hc hJ158
                      obtain ⟨hP, hD, hS, hl, ha158_1, b_⟩ := hc
                      refine lv_iload_n hx hb dX13_measure_158 rfl (lv_at hl 2 rfl) ?_
                      refine lv_aload_n hx hb dX13_measure_159 rfl (lv_at hl 0 rfl) ?_
                      refine va_get (D := (dC, dI)) (ci := 13) (v := .int (v0 4)) (C := RX13) (T := TX13) (N := 75) hx hb hG zuX13 hown hK hP 0 rfl rfl 4 (by decide) (hG _ zw551) (fun _ h9 => h9) rfl dX13_measure_160 ?_
                      refine lv_icmp_ge (tgt := 221) hx hb dX13_measure_163 (by decide) (fun c_ => ?_) (fun c_ => ?_)
                      · skip
                        have b_ := zT_ge rfl rfl c_
                        obtain ⟨z221, e_z221⟩ : ∃ z : Int32, z = (u32_ 0) + Int32.ofInt 1 := ⟨_, rfl⟩
                        have b_ := zadd (x := (u32_ 0)) (y := Int32.ofInt 1) rfl (show (Int32.ofInt 1).toInt = 1 from by decide) e_z221 (by omega) (by omega)
                        refine lv_iinc (v := z221) (lv' := [(1, .int z221), (0, .ref h0), (2, .int (u158_ 0))]) hx hb dX13_measure_221 hl (k := 1) rfl e_z221.symm (by decide) rfl (fun ls hl => ?_)
                        refine lv_goto (tgt := 32) hx hb dX13_measure_224 (by decide) ?_
                        have hc : va_P (dC, dI) vwCl [(h0, .inr (13, mX13 q0 v0)), ((q0 25), .inl (k17, 400, .inl (a158_ 0))), ((q0 26), .inl (k18, 400, .inl (a158_ 1))), ((q0 7), .inl (k6, 120, .inl f6)), ((q0 5), .inl (k4, 122880, .inl f4)), ((q0 28), .inl (k20, 400, .inl (a84_ 2))), ((q0 27), .inl (k19, 400, .inl (a84_ 1)))] H ∧ va_D A [(h0, .inr (13, mX13 q0 v0)), ((q0 25), .inl (k17, 400, .inl (a158_ 0))), ((q0 26), .inl (k18, 400, .inl (a158_ 1))), ((q0 7), .inl (k6, 120, .inl f6)), ((q0 5), .inl (k4, 122880, .inl f4)), ((q0 28), .inl (k20, 400, .inl (a84_ 2))), ((q0 27), .inl (k19, 400, .inl (a84_ 1)))] ∧ va_S A s.heap H locs ∧ lv_has ls 4 [(0, .ref h0), (1, .int z221)] ∧ zA (-1) 119 (a158_ 1) ∧ zA (-1) 1023 (a84_ 1) ∧ (0 ≤ z221.toInt ∧ z221.toInt ≤ 120) := ⟨hP, hD, hS, lv_sub hl [1, 0] rfl, ha158_1, ha84_1, ⟨by omega, by omega⟩⟩
                        exact hJ32 H locs ls (fun i => ([z221] : List (Int32)).getD i 0) (fun _ => 0) (fun i => ([(a158_ 0), (a158_ 1), (a84_ 1), (a84_ 2)] : List (Nat → Int32)).getD i (fun _ => 0)) (fun _ => (fun _ => 0)) hc (show (120 - z221.toInt).toNat < (120 - (u32_ 0).toInt).toNat from by omega)
                      · skip
                        have b_ := zF_ge rfl rfl c_
                        refine lv_aload_n hx hb dX13_measure_166 rfl (lv_at hl 0 rfl) ?_
                        refine va_get (D := (dC, dI)) (ci := 13) (v := .ref (q0 28)) (C := RX13) (T := TX13) (N := 75) hx hb hG zuX13 hown hK hP 0 rfl rfl 28 (by decide) (hG _ zw574) (fun _ h9 => h9) rfl dX13_measure_167 ?_
                        refine lv_iload_n hx hb dX13_measure_170 rfl (lv_at hl 2 rfl) ?_
                        refine va_iald hx hb hK hP 5 4 rfl rfl (zin_lit ⟨by omega, by omega⟩) dX13_measure_171 ?_
                        refine lv_topi (fun z171 e_z171 => ?_)
                        have b_ : -2147483648 ≤ z171.toInt ∧ z171.toInt ≤ 2147483647 := ⟨zlo _, zhi _⟩
                        refine lv_if_ne (tgt := 178) hx hb dX13_measure_172 (by decide) (fun c_ => ?_) (fun c_ => ?_)
                        · skip
                          have b_ := zT_ne rfl zk_0 c_
                          refine lv_aload_n hx hb dX13_measure_178 rfl (lv_at hl 0 rfl) ?_
                          refine va_get (D := (dC, dI)) (ci := 13) (v := .ref (q0 25)) (C := RX13) (T := TX13) (N := 75) hx hb hG zuX13 hown hK hP 0 rfl rfl 25 (by decide) (hG _ zw572) (fun _ h9 => h9) rfl dX13_measure_179 ?_
                          refine lv_iload_n hx hb dX13_measure_182 rfl (lv_at hl 2 rfl) ?_
                          refine lv_dup2_11 hx hb dX13_measure_183 rfl rfl ?_
                          refine va_iald hx hb hK hP 1 0 rfl rfl (zin_lit ⟨by omega, by omega⟩) dX13_measure_184 ?_
                          refine lv_topi (fun z184 e_z184 => ?_)
                          refine lv_iload_n hx hb dX13_measure_185 rfl (lv_at hl 1 rfl) ?_
                          refine lv_aload_n hx hb dX13_measure_186 rfl (lv_at hl 0 rfl) ?_
                          refine va_get (D := (dC, dI)) (ci := 13) (v := .ref (q0 26)) (C := RX13) (T := TX13) (N := 75) hx hb hG zuX13 hown hK hP 0 rfl rfl 26 (by decide) (hG _ zw573) (fun _ h9 => h9) rfl dX13_measure_187 ?_
                          refine lv_iload_n hx hb dX13_measure_190 rfl (lv_at hl 2 rfl) ?_
                          refine va_iald hx hb hK hP 2 1 rfl rfl (zin_lit ⟨by omega, by omega⟩) dX13_measure_191 ?_
                          refine lv_topi (fun z191 e_z191 => ?_)
                          have b_ : (-1) ≤ z191.toInt ∧ z191.toInt ≤ 119 := by rw [e_z191]; exact ha158_1 _
                          refine lv_isub hx hb dX13_measure_192 ?_
                          refine lv_topi (fun z192 e_z192 => ?_)
                          have b_ := zsub rfl rfl e_z192 (by omega) (by omega)
                          have hPc := hP.sub (ws' := []) [] rfl
                          have hDc := hD.sub (ws' := []) [] (by decide) rfl
                          have hKc := hK.sub (tys' := []) [] rfl
                          have hFc := va_free (wc := []) hD hS hA [] rfl
                          refine va_calli (va_runS (As := [.int z192]) (rest := [.int z184, .int (u158_ 0), .ref (q0 25)]) ⟨hx, hb, hml, hown, hG⟩ (sX13_gamma_0 l dC dI adK adV H.size z192) (va_cwS 1 hG (zgS zw579 zw580 zw524 zw581) rfl rfl rfl (by decide +kernel) ⟨Nat.le_of_ble_eq_true rfl, Nat.le_of_ble_eq_true rfl⟩) ⟨zPc_blind, zPc_pre hPc hKc hDc hE hS hFc hZ⟩ rfl rfl hl.1 rfl (lv_room (Nat.le_of_ble_eq_true rfl)) dX13_measure_193 ⟨Nat.le_of_ble_eq_true rfl, Nat.le_of_ble_eq_true rfl⟩) hS (fun q _ h => hFc q h) hFc (fun r193_ u193_ t H1 locs ht hvm hw hB hz1 hk1 hS => ?_)
                          obtain ⟨w193_, a193_, b193_, hP1, hK1, hD1⟩ := hB
                          rw [ht] at hP1
                          obtain ⟨hP, hD⟩ := va_join (wr := [(h0, .inr (13, mX13 q0 v0)), ((q0 25), .inl (k17, 400, .inl (a158_ 0))), ((q0 26), .inl (k18, 400, .inl (a158_ 1))), ((q0 7), .inl (k6, 120, .inl f6)), ((q0 5), .inl (k4, 122880, .inl f4)), ((q0 28), .inl (k20, 400, .inl (a84_ 2))), ((q0 27), .inl (k19, 400, .inl (a84_ 1)))]) (w1 := []) hP hD [] [0, 1, 2, 3, 4, 5, 6] rfl rfl (by decide) (by decide) hk1 hFc hP1 hD1
                          have hP : va_P (dC, dI) vwCl [(h0, .inr (13, mX13 q0 v0)), ((q0 25), .inl (k17, 400, .inl (a158_ 0))), ((q0 26), .inl (k18, 400, .inl (a158_ 1))), ((q0 7), .inl (k6, 120, .inl f6)), ((q0 5), .inl (k4, 122880, .inl f4)), ((q0 28), .inl (k20, 400, .inl (a84_ 2))), ((q0 27), .inl (k19, 400, .inl (a84_ 1)))] H1 := hP.sub [0, 1, 2, 3, 4, 5, 6] rfl
                          have hD : va_D A [(h0, .inr (13, mX13 q0 v0)), ((q0 25), .inl (k17, 400, .inl (a158_ 0))), ((q0 26), .inl (k18, 400, .inl (a158_ 1))), ((q0 7), .inl (k6, 120, .inl f6)), ((q0 5), .inl (k4, 122880, .inl f4)), ((q0 28), .inl (k20, 400, .inl (a84_ 2))), ((q0 27), .inl (k19, 400, .inl (a84_ 1)))] := hD.sub [0, 1, 2, 3, 4, 5, 6] (by decide) rfl
                          generalize H1 = H at hP hS ⊢
                          clear hz1
                          refine lv_aload_n hx hb dX13_measure_196 rfl (lv_at hl 0 rfl) ?_
                          refine va_get (D := (dC, dI)) (ci := 13) (v := .ref (q0 28)) (C := RX13) (T := TX13) (N := 75) hx hb hG zuX13 hown hK hP 0 rfl rfl 28 (by decide) (hG _ zw574) (fun _ h9 => h9) rfl dX13_measure_197 ?_
                          refine lv_iload_n hx hb dX13_measure_200 rfl (lv_at hl 2 rfl) ?_
                          refine va_iald hx hb hK hP 5 4 rfl rfl (zin_lit ⟨by omega, by omega⟩) dX13_measure_201 ?_
                          refine lv_topi (fun z201 e_z201 => ?_)
                          have hPc := hP.sub (ws' := []) [] rfl
                          have hDc := hD.sub (ws' := []) [] (by decide) rfl
                          have hKc := hK.sub (tys' := []) [] rfl
                          have hFc := va_free (wc := []) hD hS hA [] rfl
                          refine va_calli (va_runS (As := [.int z201]) (rest := [.int r193_, .int z184, .int (u158_ 0), .ref (q0 25)]) ⟨hx, hb, hml, hown, hG⟩ (sX13_gamma_0 l dC dI adK adV H.size z201) (va_cwS 1 hG (zgS zw579 zw580 zw524 zw581) rfl rfl rfl (by decide +kernel) ⟨Nat.le_of_ble_eq_true rfl, Nat.le_of_ble_eq_true rfl⟩) ⟨zPc_blind, zPc_pre hPc hKc hDc hE hS hFc hZ⟩ rfl rfl hl.1 rfl (lv_room (Nat.le_of_ble_eq_true rfl)) dX13_measure_202 ⟨Nat.le_of_ble_eq_true rfl, Nat.le_of_ble_eq_true rfl⟩) hS (fun q _ h => hFc q h) hFc (fun r202_ u202_ t H1 locs ht hvm hw hB hz1 hk1 hS => ?_)
                          obtain ⟨w202_, a202_, b202_, hP1, hK1, hD1⟩ := hB
                          rw [ht] at hP1
                          obtain ⟨hP, hD⟩ := va_join (wr := [(h0, .inr (13, mX13 q0 v0)), ((q0 25), .inl (k17, 400, .inl (a158_ 0))), ((q0 26), .inl (k18, 400, .inl (a158_ 1))), ((q0 7), .inl (k6, 120, .inl f6)), ((q0 5), .inl (k4, 122880, .inl f4)), ((q0 28), .inl (k20, 400, .inl (a84_ 2))), ((q0 27), .inl (k19, 400, .inl (a84_ 1)))]) (w1 := []) hP hD [] [0, 1, 2, 3, 4, 5, 6] rfl rfl (by decide) (by decide) hk1 hFc hP1 hD1
                          have hP : va_P (dC, dI) vwCl [(h0, .inr (13, mX13 q0 v0)), ((q0 25), .inl (k17, 400, .inl (a158_ 0))), ((q0 26), .inl (k18, 400, .inl (a158_ 1))), ((q0 7), .inl (k6, 120, .inl f6)), ((q0 5), .inl (k4, 122880, .inl f4)), ((q0 28), .inl (k20, 400, .inl (a84_ 2))), ((q0 27), .inl (k19, 400, .inl (a84_ 1)))] H1 := hP.sub [0, 1, 2, 3, 4, 5, 6] rfl
                          have hD : va_D A [(h0, .inr (13, mX13 q0 v0)), ((q0 25), .inl (k17, 400, .inl (a158_ 0))), ((q0 26), .inl (k18, 400, .inl (a158_ 1))), ((q0 7), .inl (k6, 120, .inl f6)), ((q0 5), .inl (k4, 122880, .inl f4)), ((q0 28), .inl (k20, 400, .inl (a84_ 2))), ((q0 27), .inl (k19, 400, .inl (a84_ 1)))] := hD.sub [0, 1, 2, 3, 4, 5, 6] (by decide) rfl
                          generalize H1 = H at hP hS ⊢
                          clear hz1
                          have b_ : -2147483648 ≤ r193_.toInt ∧ r193_.toInt ≤ 2147483647 := ⟨zlo _, zhi _⟩
                          have b_ : -2147483648 ≤ r202_.toInt ∧ r202_.toInt ≤ 2147483647 := ⟨zlo _, zhi _⟩
                          refine lv_iadd hx hb dX13_measure_205 ?_
                          refine lv_topi (fun z205 e_z205 => ?_)
                          have b_ : -2147483648 ≤ z184.toInt ∧ z184.toInt ≤ 2147483647 := ⟨zlo _, zhi _⟩
                          have b_ : -2147483648 ≤ z205.toInt ∧ z205.toInt ≤ 2147483647 := ⟨zlo _, zhi _⟩
                          refine lv_iadd hx hb dX13_measure_206 ?_
                          refine lv_topi (fun z206 e_z206 => ?_)
                          refine va_iast hx hb hK hP hD hS 1 0 rfl rfl (zin_lit ⟨by omega, by omega⟩) dX13_measure_207 (fun H locs hP hD hS => ?_)
                          obtain ⟨f_207, e_f_207⟩ : ∃ z : Nat → Int32, z = upd (a158_ 0) ((u158_ 0) : Int32).toNatClampNeg z206 := ⟨_, rfl⟩
                          have hP : va_P (dC, dI) vwCl [(h0, .inr (13, mX13 q0 v0)), ((q0 25), .inl (k17, 400, .inl f_207)), ((q0 26), .inl (k18, 400, .inl (a158_ 1))), ((q0 7), .inl (k6, 120, .inl f6)), ((q0 5), .inl (k4, 122880, .inl f4)), ((q0 28), .inl (k20, 400, .inl (a84_ 2))), ((q0 27), .inl (k19, 400, .inl (a84_ 1)))] H := by rw [e_f_207]; exact hP
                          have hD : va_D A [(h0, .inr (13, mX13 q0 v0)), ((q0 25), .inl (k17, 400, .inl f_207)), ((q0 26), .inl (k18, 400, .inl (a158_ 1))), ((q0 7), .inl (k6, 120, .inl f6)), ((q0 5), .inl (k4, 122880, .inl f4)), ((q0 28), .inl (k20, 400, .inl (a84_ 2))), ((q0 27), .inl (k19, 400, .inl (a84_ 1)))] := by rw [e_f_207]; exact hD
                          refine lv_aload_n hx hb dX13_measure_208 rfl (lv_at hl 0 rfl) ?_
                          refine va_get (D := (dC, dI)) (ci := 13) (v := .ref (q0 26)) (C := RX13) (T := TX13) (N := 75) hx hb hG zuX13 hown hK hP 0 rfl rfl 26 (by decide) (hG _ zw573) (fun _ h9 => h9) rfl dX13_measure_209 ?_
                          refine lv_iload_n hx hb dX13_measure_212 rfl (lv_at hl 2 rfl) ?_
                          refine lv_iload_n hx hb dX13_measure_213 rfl (lv_at hl 1 rfl) ?_
                          refine va_iast hx hb hK hP hD hS 2 1 rfl rfl (zin_lit ⟨by omega, by omega⟩) dX13_measure_214 (fun H locs hP hD hS => ?_)
                          obtain ⟨f_214, e_f_214⟩ : ∃ z : Nat → Int32, z = upd (a158_ 1) ((u158_ 0) : Int32).toNatClampNeg (u32_ 0) := ⟨_, rfl⟩
                          have hP : va_P (dC, dI) vwCl [(h0, .inr (13, mX13 q0 v0)), ((q0 25), .inl (k17, 400, .inl f_207)), ((q0 26), .inl (k18, 400, .inl f_214)), ((q0 7), .inl (k6, 120, .inl f6)), ((q0 5), .inl (k4, 122880, .inl f4)), ((q0 28), .inl (k20, 400, .inl (a84_ 2))), ((q0 27), .inl (k19, 400, .inl (a84_ 1)))] H := by rw [e_f_214]; exact hP
                          have hD : va_D A [(h0, .inr (13, mX13 q0 v0)), ((q0 25), .inl (k17, 400, .inl f_207)), ((q0 26), .inl (k18, 400, .inl f_214)), ((q0 7), .inl (k6, 120, .inl f6)), ((q0 5), .inl (k4, 122880, .inl f4)), ((q0 28), .inl (k20, 400, .inl (a84_ 2))), ((q0 27), .inl (k19, 400, .inl (a84_ 1)))] := by rw [e_f_214]; exact hD
                          have hf_214 : zA (-1) 119 f_214 := by rw [e_f_214]; exact zA_upd ha158_1 (show (-1) ≤ ((u32_ 0) : Int32).toInt from by omega) (show ((u32_ 0) : Int32).toInt ≤ 119 from by omega)
                          obtain ⟨z215, e_z215⟩ : ∃ z : Int32, z = (u158_ 0) + Int32.ofInt 1 := ⟨_, rfl⟩
                          have b_ := zadd (x := (u158_ 0)) (y := Int32.ofInt 1) rfl (show (Int32.ofInt 1).toInt = 1 from by decide) e_z215 (by omega) (by omega)
                          refine lv_iinc (v := z215) (lv' := [(2, .int z215), (0, .ref h0), (1, .int (u32_ 0))]) hx hb dX13_measure_215 hl (k := 2) rfl e_z215.symm (by decide) rfl (fun ls hl => ?_)
                          refine lv_goto (tgt := 158) hx hb dX13_measure_218 (by decide) ?_
                          have hc : va_P (dC, dI) vwCl [(h0, .inr (13, mX13 q0 v0)), ((q0 25), .inl (k17, 400, .inl f_207)), ((q0 26), .inl (k18, 400, .inl f_214)), ((q0 7), .inl (k6, 120, .inl f6)), ((q0 5), .inl (k4, 122880, .inl f4)), ((q0 28), .inl (k20, 400, .inl (a84_ 2))), ((q0 27), .inl (k19, 400, .inl (a84_ 1)))] H ∧ va_D A [(h0, .inr (13, mX13 q0 v0)), ((q0 25), .inl (k17, 400, .inl f_207)), ((q0 26), .inl (k18, 400, .inl f_214)), ((q0 7), .inl (k6, 120, .inl f6)), ((q0 5), .inl (k4, 122880, .inl f4)), ((q0 28), .inl (k20, 400, .inl (a84_ 2))), ((q0 27), .inl (k19, 400, .inl (a84_ 1)))] ∧ va_S A s.heap H locs ∧ lv_has ls 4 [(0, .ref h0), (1, .int (u32_ 0)), (2, .int z215)] ∧ zA (-1) 119 f_214 ∧ (0 ≤ z215.toInt ∧ z215.toInt ≤ 400) := ⟨hP, hD, hS, lv_sub hl [1, 2, 0] rfl, hf_214, ⟨by omega, by omega⟩⟩
                          exact hJ158 H locs ls (fun i => ([z215] : List (Int32)).getD i 0) (fun _ => 0) (fun i => ([f_207, f_214] : List (Nat → Int32)).getD i (fun _ => 0)) (fun _ => (fun _ => 0)) hc (show (400 - z215.toInt).toNat < (400 - (u158_ 0).toInt).toNat from by omega)
                        · skip
                          have b_ := zF_ne rfl zk_0 c_
                          refine lv_goto (tgt := 215) hx hb dX13_measure_175 (by decide) ?_
                          obtain ⟨z215, e_z215⟩ : ∃ z : Int32, z = (u158_ 0) + Int32.ofInt 1 := ⟨_, rfl⟩
                          have b_ := zadd (x := (u158_ 0)) (y := Int32.ofInt 1) rfl (show (Int32.ofInt 1).toInt = 1 from by decide) e_z215 (by omega) (by omega)
                          refine lv_iinc (v := z215) (lv' := [(2, .int z215), (0, .ref h0), (1, .int (u32_ 0))]) hx hb dX13_measure_215 hl (k := 2) rfl e_z215.symm (by decide) rfl (fun ls hl => ?_)
                          refine lv_goto (tgt := 158) hx hb dX13_measure_218 (by decide) ?_
                          have hc : va_P (dC, dI) vwCl [(h0, .inr (13, mX13 q0 v0)), ((q0 25), .inl (k17, 400, .inl (a158_ 0))), ((q0 26), .inl (k18, 400, .inl (a158_ 1))), ((q0 7), .inl (k6, 120, .inl f6)), ((q0 5), .inl (k4, 122880, .inl f4)), ((q0 28), .inl (k20, 400, .inl (a84_ 2))), ((q0 27), .inl (k19, 400, .inl (a84_ 1)))] H ∧ va_D A [(h0, .inr (13, mX13 q0 v0)), ((q0 25), .inl (k17, 400, .inl (a158_ 0))), ((q0 26), .inl (k18, 400, .inl (a158_ 1))), ((q0 7), .inl (k6, 120, .inl f6)), ((q0 5), .inl (k4, 122880, .inl f4)), ((q0 28), .inl (k20, 400, .inl (a84_ 2))), ((q0 27), .inl (k19, 400, .inl (a84_ 1)))] ∧ va_S A s.heap H locs ∧ lv_has ls 4 [(0, .ref h0), (1, .int (u32_ 0)), (2, .int z215)] ∧ zA (-1) 119 (a158_ 1) ∧ (0 ≤ z215.toInt ∧ z215.toInt ≤ 400) := ⟨hP, hD, hS, lv_sub hl [1, 2, 0] rfl, ha158_1, ⟨by omega, by omega⟩⟩
                          exact hJ158 H locs ls (fun i => ([z215] : List (Int32)).getD i 0) (fun _ => 0) (fun i => ([(a158_ 0), (a158_ 1)] : List (Nat → Int32)).getD i (fun _ => 0)) (fun _ => (fun _ => 0)) hc (show (400 - z215.toInt).toNat < (400 - (u158_ 0).toInt).toNat from by omega)
                    · skip
                      have hc : va_P (dC, dI) vwCl [(h0, .inr (13, mX13 q0 v0)), ((q0 25), .inl (k17, 400, .inl (a84_ 0))), ((q0 26), .inl (k18, 400, .inl (a32_ 1))), ((q0 7), .inl (k6, 120, .inl f6)), ((q0 5), .inl (k4, 122880, .inl f4)), ((q0 28), .inl (k20, 400, .inl (a84_ 2))), ((q0 27), .inl (k19, 400, .inl (a84_ 1)))] H ∧ va_D A [(h0, .inr (13, mX13 q0 v0)), ((q0 25), .inl (k17, 400, .inl (a84_ 0))), ((q0 26), .inl (k18, 400, .inl (a32_ 1))), ((q0 7), .inl (k6, 120, .inl f6)), ((q0 5), .inl (k4, 122880, .inl f4)), ((q0 28), .inl (k20, 400, .inl (a84_ 2))), ((q0 27), .inl (k19, 400, .inl (a84_ 1)))] ∧ va_S A s.heap H locs ∧ lv_has ls 4 [(0, .ref h0), (1, .int (u32_ 0)), (2, .int 0)] ∧ zA (-1) 119 (a32_ 1) ∧ (0 ≤ (0 : Int32).toInt ∧ (0 : Int32).toInt ≤ 400) := ⟨hP, hD, hS, lv_sub hl [1, 2, 0] rfl, ha32_1, ⟨by omega, by omega⟩⟩
                      exact hJ158 H locs ls (fun i => ([0] : List (Int32)).getD i 0) (fun _ => 0) (fun i => ([(a84_ 0), (a32_ 1)] : List (Nat → Int32)).getD i (fun _ => 0)) (fun _ => (fun _ => 0)) hc
                  · skip
                    have b_ := zF_ge rfl zk_1024 c_
                    refine lv_aload_n hx hb dX13_measure_91 rfl (lv_at hl 0 rfl) ?_
                    refine va_get (D := (dC, dI)) (ci := 13) (v := .ref (q0 5)) (C := RX13) (T := TX13) (N := 75) hx hb hG zuX13 hown hK hP 0 rfl rfl 5 (by decide) (hG _ zw567) (fun _ h9 => h9) rfl dX13_measure_92 ?_
                    refine lv_sipush (v := 1024) hx hb dX13_measure_95 (by decide) ?_
                    refine lv_iload_n hx hb dX13_measure_98 rfl (lv_at hl 1 rfl) ?_
                    refine lv_imul hx hb dX13_measure_99 ?_
                    refine lv_topi (fun z99 e_z99 => ?_)
                    have b_ := zmul zk_1024 rfl e_z99 (by omega) (by omega)
                    refine lv_iload_n hx hb dX13_measure_100 rfl (lv_at hl 2 rfl) ?_
                    refine lv_iadd hx hb dX13_measure_101 ?_
                    refine lv_topi (fun z101 e_z101 => ?_)
                    have b_ := zadd rfl rfl e_z101 (by omega) (by omega)
                    refine va_sald hx hb hK hP 4 3 rfl rfl (zin_lit ⟨by omega, by omega⟩) dX13_measure_102 ?_
                    refine lv_topi (fun z102 e_z102 => ?_)
                    have b_ : 0 ≤ z102.toInt ∧ z102.toInt ≤ 400 := by rw [e_z102]; exact hf4 _
                    refine lv_iconst (v := 1) hx hb dX13_measure_103 (by decide) ?_
                    refine lv_isub hx hb dX13_measure_104 ?_
                    refine lv_topi (fun z104 e_z104 => ?_)
                    have b_ := zsub rfl zk_1 e_z104 (by omega) (by omega)
                    refine lv_istore_n (lv' := [(3, .int z104), (0, .ref h0), (1, .int (u32_ 0)), (2, .int (u84_ 0))]) hx hb dX13_measure_105 rfl hl (by decide) rfl (fun ls hl => ?_)
                    refine lv_iload_n hx hb dX13_measure_106 rfl (lv_at hl 0 rfl) ?_
                    refine lv_if_ge (tgt := 113) hx hb dX13_measure_107 (by decide) (fun c_ => ?_) (fun c_ => ?_)
                    · skip
                      have b_ := zT_ge rfl zk_0 c_
                      refine lv_aload_n hx hb dX13_measure_113 rfl (lv_at hl 1 rfl) ?_
                      refine va_get (D := (dC, dI)) (ci := 13) (v := .ref (q0 28)) (C := RX13) (T := TX13) (N := 75) hx hb hG zuX13 hown hK hP 0 rfl rfl 28 (by decide) (hG _ zw574) (fun _ h9 => h9) rfl dX13_measure_114 ?_
                      refine lv_iload_n hx hb dX13_measure_117 rfl (lv_at hl 0 rfl) ?_
                      refine lv_dup2_11 hx hb dX13_measure_118 rfl rfl ?_
                      refine va_iald hx hb hK hP 5 4 rfl rfl (zin_lit ⟨by omega, by omega⟩) dX13_measure_119 ?_
                      refine lv_topi (fun z119 e_z119 => ?_)
                      refine lv_iconst (v := 1) hx hb dX13_measure_120 (by decide) ?_
                      have b_ : -2147483648 ≤ z119.toInt ∧ z119.toInt ≤ 2147483647 := ⟨zlo _, zhi _⟩
                      refine lv_iadd hx hb dX13_measure_121 ?_
                      refine lv_topi (fun z121 e_z121 => ?_)
                      refine va_iast hx hb hK hP hD hS 5 4 rfl rfl (zin_lit ⟨by omega, by omega⟩) dX13_measure_122 (fun H locs hP hD hS => ?_)
                      obtain ⟨f_122, e_f_122⟩ : ∃ z : Nat → Int32, z = upd (a84_ 2) (z104 : Int32).toNatClampNeg z121 := ⟨_, rfl⟩
                      have hP : va_P (dC, dI) vwCl [(h0, .inr (13, mX13 q0 v0)), ((q0 25), .inl (k17, 400, .inl (a84_ 0))), ((q0 26), .inl (k18, 400, .inl (a32_ 1))), ((q0 7), .inl (k6, 120, .inl f6)), ((q0 5), .inl (k4, 122880, .inl f4)), ((q0 28), .inl (k20, 400, .inl f_122)), ((q0 27), .inl (k19, 400, .inl (a84_ 1)))] H := by rw [e_f_122]; exact hP
                      have hD : va_D A [(h0, .inr (13, mX13 q0 v0)), ((q0 25), .inl (k17, 400, .inl (a84_ 0))), ((q0 26), .inl (k18, 400, .inl (a32_ 1))), ((q0 7), .inl (k6, 120, .inl f6)), ((q0 5), .inl (k4, 122880, .inl f4)), ((q0 28), .inl (k20, 400, .inl f_122)), ((q0 27), .inl (k19, 400, .inl (a84_ 1)))] := by rw [e_f_122]; exact hD
                      refine lv_aload_n hx hb dX13_measure_123 rfl (lv_at hl 1 rfl) ?_
                      refine va_get (D := (dC, dI)) (ci := 13) (v := .ref (q0 25)) (C := RX13) (T := TX13) (N := 75) hx hb hG zuX13 hown hK hP 0 rfl rfl 25 (by decide) (hG _ zw572) (fun _ h9 => h9) rfl dX13_measure_124 ?_
                      refine lv_iload_n hx hb dX13_measure_127 rfl (lv_at hl 0 rfl) ?_
                      refine lv_dup2_11 hx hb dX13_measure_128 rfl rfl ?_
                      refine va_iald hx hb hK hP 1 0 rfl rfl (zin_lit ⟨by omega, by omega⟩) dX13_measure_129 ?_
                      refine lv_topi (fun z129 e_z129 => ?_)
                      refine lv_iload_n hx hb dX13_measure_130 rfl (lv_at hl 3 rfl) ?_
                      refine lv_aload_n hx hb dX13_measure_131 rfl (lv_at hl 1 rfl) ?_
                      refine va_get (D := (dC, dI)) (ci := 13) (v := .ref (q0 27)) (C := RX13) (T := TX13) (N := 75) hx hb hG zuX13 hown hK hP 0 rfl rfl 27 (by decide) (hG _ zw575) (fun _ h9 => h9) rfl dX13_measure_132 ?_
                      refine lv_iload_n hx hb dX13_measure_135 rfl (lv_at hl 0 rfl) ?_
                      refine va_iald hx hb hK hP 6 5 rfl rfl (zin_lit ⟨by omega, by omega⟩) dX13_measure_136 ?_
                      refine lv_topi (fun z136 e_z136 => ?_)
                      have b_ : (-1) ≤ z136.toInt ∧ z136.toInt ≤ 1023 := by rw [e_z136]; exact ha84_1 _
                      refine lv_isub hx hb dX13_measure_137 ?_
                      refine lv_topi (fun z137 e_z137 => ?_)
                      have b_ := zsub rfl rfl e_z137 (by omega) (by omega)
                      have hPc := hP.sub (ws' := []) [] rfl
                      have hDc := hD.sub (ws' := []) [] (by decide) rfl
                      have hKc := hK.sub (tys' := []) [] rfl
                      have hFc := va_free (wc := []) hD hS hA [] rfl
                      refine va_calli (va_runS (As := [.int z137]) (rest := [.int z129, .int z104, .ref (q0 25)]) ⟨hx, hb, hml, hown, hG⟩ (sX13_gamma_0 l dC dI adK adV H.size z137) (va_cwS 1 hG (zgS zw579 zw580 zw524 zw581) rfl rfl rfl (by decide +kernel) ⟨Nat.le_of_ble_eq_true rfl, Nat.le_of_ble_eq_true rfl⟩) ⟨zPc_blind, zPc_pre hPc hKc hDc hE hS hFc hZ⟩ rfl rfl hl.1 rfl (lv_room (Nat.le_of_ble_eq_true rfl)) dX13_measure_138 ⟨Nat.le_of_ble_eq_true rfl, Nat.le_of_ble_eq_true rfl⟩) hS (fun q _ h => hFc q h) hFc (fun r138_ u138_ t H1 locs ht hvm hw hB hz1 hk1 hS => ?_)
                      obtain ⟨w138_, a138_, b138_, hP1, hK1, hD1⟩ := hB
                      rw [ht] at hP1
                      obtain ⟨hP, hD⟩ := va_join (wr := [(h0, .inr (13, mX13 q0 v0)), ((q0 25), .inl (k17, 400, .inl (a84_ 0))), ((q0 26), .inl (k18, 400, .inl (a32_ 1))), ((q0 7), .inl (k6, 120, .inl f6)), ((q0 5), .inl (k4, 122880, .inl f4)), ((q0 28), .inl (k20, 400, .inl f_122)), ((q0 27), .inl (k19, 400, .inl (a84_ 1)))]) (w1 := []) hP hD [] [0, 1, 2, 3, 4, 5, 6] rfl rfl (by decide) (by decide) hk1 hFc hP1 hD1
                      have hP : va_P (dC, dI) vwCl [(h0, .inr (13, mX13 q0 v0)), ((q0 25), .inl (k17, 400, .inl (a84_ 0))), ((q0 26), .inl (k18, 400, .inl (a32_ 1))), ((q0 7), .inl (k6, 120, .inl f6)), ((q0 5), .inl (k4, 122880, .inl f4)), ((q0 28), .inl (k20, 400, .inl f_122)), ((q0 27), .inl (k19, 400, .inl (a84_ 1)))] H1 := hP.sub [0, 1, 2, 3, 4, 5, 6] rfl
                      have hD : va_D A [(h0, .inr (13, mX13 q0 v0)), ((q0 25), .inl (k17, 400, .inl (a84_ 0))), ((q0 26), .inl (k18, 400, .inl (a32_ 1))), ((q0 7), .inl (k6, 120, .inl f6)), ((q0 5), .inl (k4, 122880, .inl f4)), ((q0 28), .inl (k20, 400, .inl f_122)), ((q0 27), .inl (k19, 400, .inl (a84_ 1)))] := hD.sub [0, 1, 2, 3, 4, 5, 6] (by decide) rfl
                      generalize H1 = H at hP hS ⊢
                      clear hz1
                      have b_ : -2147483648 ≤ z129.toInt ∧ z129.toInt ≤ 2147483647 := ⟨zlo _, zhi _⟩
                      have b_ : -2147483648 ≤ r138_.toInt ∧ r138_.toInt ≤ 2147483647 := ⟨zlo _, zhi _⟩
                      refine lv_iadd hx hb dX13_measure_141 ?_
                      refine lv_topi (fun z141 e_z141 => ?_)
                      refine va_iast hx hb hK hP hD hS 1 0 rfl rfl (zin_lit ⟨by omega, by omega⟩) dX13_measure_142 (fun H locs hP hD hS => ?_)
                      obtain ⟨f_142, e_f_142⟩ : ∃ z : Nat → Int32, z = upd (a84_ 0) (z104 : Int32).toNatClampNeg z141 := ⟨_, rfl⟩
                      have hP : va_P (dC, dI) vwCl [(h0, .inr (13, mX13 q0 v0)), ((q0 25), .inl (k17, 400, .inl f_142)), ((q0 26), .inl (k18, 400, .inl (a32_ 1))), ((q0 7), .inl (k6, 120, .inl f6)), ((q0 5), .inl (k4, 122880, .inl f4)), ((q0 28), .inl (k20, 400, .inl f_122)), ((q0 27), .inl (k19, 400, .inl (a84_ 1)))] H := by rw [e_f_142]; exact hP
                      have hD : va_D A [(h0, .inr (13, mX13 q0 v0)), ((q0 25), .inl (k17, 400, .inl f_142)), ((q0 26), .inl (k18, 400, .inl (a32_ 1))), ((q0 7), .inl (k6, 120, .inl f6)), ((q0 5), .inl (k4, 122880, .inl f4)), ((q0 28), .inl (k20, 400, .inl f_122)), ((q0 27), .inl (k19, 400, .inl (a84_ 1)))] := by rw [e_f_142]; exact hD
                      refine lv_aload_n hx hb dX13_measure_143 rfl (lv_at hl 1 rfl) ?_
                      refine va_get (D := (dC, dI)) (ci := 13) (v := .ref (q0 27)) (C := RX13) (T := TX13) (N := 75) hx hb hG zuX13 hown hK hP 0 rfl rfl 27 (by decide) (hG _ zw575) (fun _ h9 => h9) rfl dX13_measure_144 ?_
                      refine lv_iload_n hx hb dX13_measure_147 rfl (lv_at hl 0 rfl) ?_
                      refine lv_iload_n hx hb dX13_measure_148 rfl (lv_at hl 3 rfl) ?_
                      refine va_iast hx hb hK hP hD hS 6 5 rfl rfl (zin_lit ⟨by omega, by omega⟩) dX13_measure_149 (fun H locs hP hD hS => ?_)
                      obtain ⟨f_149, e_f_149⟩ : ∃ z : Nat → Int32, z = upd (a84_ 1) (z104 : Int32).toNatClampNeg (u84_ 0) := ⟨_, rfl⟩
                      have hP : va_P (dC, dI) vwCl [(h0, .inr (13, mX13 q0 v0)), ((q0 25), .inl (k17, 400, .inl f_142)), ((q0 26), .inl (k18, 400, .inl (a32_ 1))), ((q0 7), .inl (k6, 120, .inl f6)), ((q0 5), .inl (k4, 122880, .inl f4)), ((q0 28), .inl (k20, 400, .inl f_122)), ((q0 27), .inl (k19, 400, .inl f_149))] H := by rw [e_f_149]; exact hP
                      have hD : va_D A [(h0, .inr (13, mX13 q0 v0)), ((q0 25), .inl (k17, 400, .inl f_142)), ((q0 26), .inl (k18, 400, .inl (a32_ 1))), ((q0 7), .inl (k6, 120, .inl f6)), ((q0 5), .inl (k4, 122880, .inl f4)), ((q0 28), .inl (k20, 400, .inl f_122)), ((q0 27), .inl (k19, 400, .inl f_149))] := by rw [e_f_149]; exact hD
                      have hf_149 : zA (-1) 1023 f_149 := by rw [e_f_149]; exact zA_upd ha84_1 (show (-1) ≤ ((u84_ 0) : Int32).toInt from by omega) (show ((u84_ 0) : Int32).toInt ≤ 1023 from by omega)
                      obtain ⟨z150, e_z150⟩ : ∃ z : Int32, z = (u84_ 0) + Int32.ofInt 1 := ⟨_, rfl⟩
                      have b_ := zadd (x := (u84_ 0)) (y := Int32.ofInt 1) rfl (show (Int32.ofInt 1).toInt = 1 from by decide) e_z150 (by omega) (by omega)
                      refine lv_iinc (v := z150) (lv' := [(2, .int z150), (3, .int z104), (0, .ref h0), (1, .int (u32_ 0))]) hx hb dX13_measure_150 hl (k := 3) rfl e_z150.symm (by decide) rfl (fun ls hl => ?_)
                      refine lv_goto (tgt := 84) hx hb dX13_measure_153 (by decide) ?_
                      have hc : va_P (dC, dI) vwCl [(h0, .inr (13, mX13 q0 v0)), ((q0 25), .inl (k17, 400, .inl f_142)), ((q0 26), .inl (k18, 400, .inl (a32_ 1))), ((q0 7), .inl (k6, 120, .inl f6)), ((q0 5), .inl (k4, 122880, .inl f4)), ((q0 28), .inl (k20, 400, .inl f_122)), ((q0 27), .inl (k19, 400, .inl f_149))] H ∧ va_D A [(h0, .inr (13, mX13 q0 v0)), ((q0 25), .inl (k17, 400, .inl f_142)), ((q0 26), .inl (k18, 400, .inl (a32_ 1))), ((q0 7), .inl (k6, 120, .inl f6)), ((q0 5), .inl (k4, 122880, .inl f4)), ((q0 28), .inl (k20, 400, .inl f_122)), ((q0 27), .inl (k19, 400, .inl f_149))] ∧ va_S A s.heap H locs ∧ lv_has ls 4 [(0, .ref h0), (1, .int (u32_ 0)), (2, .int z150)] ∧ zA (-1) 1023 f_149 ∧ (0 ≤ z150.toInt ∧ z150.toInt ≤ 1024) := ⟨hP, hD, hS, lv_sub hl [2, 3, 0] rfl, hf_149, ⟨by omega, by omega⟩⟩
                      exact hJ84 H locs ls (fun i => ([z150] : List (Int32)).getD i 0) (fun _ => 0) (fun i => ([f_142, f_149, f_122] : List (Nat → Int32)).getD i (fun _ => 0)) (fun _ => (fun _ => 0)) hc (show (1024 - z150.toInt).toNat < (1024 - (u84_ 0).toInt).toNat from by omega)
                    · skip
                      have b_ := zF_ge rfl zk_0 c_
                      refine lv_goto (tgt := 150) hx hb dX13_measure_110 (by decide) ?_
                      obtain ⟨z150, e_z150⟩ : ∃ z : Int32, z = (u84_ 0) + Int32.ofInt 1 := ⟨_, rfl⟩
                      have b_ := zadd (x := (u84_ 0)) (y := Int32.ofInt 1) rfl (show (Int32.ofInt 1).toInt = 1 from by decide) e_z150 (by omega) (by omega)
                      refine lv_iinc (v := z150) (lv' := [(2, .int z150), (3, .int z104), (0, .ref h0), (1, .int (u32_ 0))]) hx hb dX13_measure_150 hl (k := 3) rfl e_z150.symm (by decide) rfl (fun ls hl => ?_)
                      refine lv_goto (tgt := 84) hx hb dX13_measure_153 (by decide) ?_
                      have hc : va_P (dC, dI) vwCl [(h0, .inr (13, mX13 q0 v0)), ((q0 25), .inl (k17, 400, .inl (a84_ 0))), ((q0 26), .inl (k18, 400, .inl (a32_ 1))), ((q0 7), .inl (k6, 120, .inl f6)), ((q0 5), .inl (k4, 122880, .inl f4)), ((q0 28), .inl (k20, 400, .inl (a84_ 2))), ((q0 27), .inl (k19, 400, .inl (a84_ 1)))] H ∧ va_D A [(h0, .inr (13, mX13 q0 v0)), ((q0 25), .inl (k17, 400, .inl (a84_ 0))), ((q0 26), .inl (k18, 400, .inl (a32_ 1))), ((q0 7), .inl (k6, 120, .inl f6)), ((q0 5), .inl (k4, 122880, .inl f4)), ((q0 28), .inl (k20, 400, .inl (a84_ 2))), ((q0 27), .inl (k19, 400, .inl (a84_ 1)))] ∧ va_S A s.heap H locs ∧ lv_has ls 4 [(0, .ref h0), (1, .int (u32_ 0)), (2, .int z150)] ∧ zA (-1) 1023 (a84_ 1) ∧ (0 ≤ z150.toInt ∧ z150.toInt ≤ 1024) := ⟨hP, hD, hS, lv_sub hl [2, 3, 0] rfl, ha84_1, ⟨by omega, by omega⟩⟩
                      exact hJ84 H locs ls (fun i => ([z150] : List (Int32)).getD i 0) (fun _ => 0) (fun i => ([(a84_ 0), (a84_ 1), (a84_ 2)] : List (Nat → Int32)).getD i (fun _ => 0)) (fun _ => (fun _ => 0)) hc (show (1024 - z150.toInt).toNat < (1024 - (u84_ 0).toInt).toNat from by omega)
                · skip
                  have hc : va_P (dC, dI) vwCl [(h0, .inr (13, mX13 q0 v0)), ((q0 25), .inl (k17, 400, .inl (a32_ 0))), ((q0 26), .inl (k18, 400, .inl (a32_ 1))), ((q0 7), .inl (k6, 120, .inl f6)), ((q0 5), .inl (k4, 122880, .inl f4)), ((q0 28), .inl (k20, 400, .inl (a54_ 1))), ((q0 27), .inl (k19, 400, .inl (a54_ 0)))] H ∧ va_D A [(h0, .inr (13, mX13 q0 v0)), ((q0 25), .inl (k17, 400, .inl (a32_ 0))), ((q0 26), .inl (k18, 400, .inl (a32_ 1))), ((q0 7), .inl (k6, 120, .inl f6)), ((q0 5), .inl (k4, 122880, .inl f4)), ((q0 28), .inl (k20, 400, .inl (a54_ 1))), ((q0 27), .inl (k19, 400, .inl (a54_ 0)))] ∧ va_S A s.heap H locs ∧ lv_has ls 4 [(0, .ref h0), (1, .int (u32_ 0)), (2, .int 0)] ∧ zA (-1) 1023 (a54_ 0) ∧ (0 ≤ (0 : Int32).toInt ∧ (0 : Int32).toInt ≤ 1024) := ⟨hP, hD, hS, lv_sub hl [1, 2, 0] rfl, ha54_0, ⟨by omega, by omega⟩⟩
                  exact hJ84 H locs ls (fun i => ([0] : List (Int32)).getD i 0) (fun _ => 0) (fun i => ([(a32_ 0), (a54_ 0), (a54_ 1)] : List (Nat → Int32)).getD i (fun _ => 0)) (fun _ => (fun _ => 0)) hc
              · skip
                have b_ := zF_ge rfl rfl c_
                refine lv_aload_n hx hb dX13_measure_62 rfl (lv_at hl 0 rfl) ?_
                refine va_get (D := (dC, dI)) (ci := 13) (v := .ref (q0 28)) (C := RX13) (T := TX13) (N := 75) hx hb hG zuX13 hown hK hP 0 rfl rfl 28 (by decide) (hG _ zw574) (fun _ h9 => h9) rfl dX13_measure_63 ?_
                refine lv_iload_n hx hb dX13_measure_66 rfl (lv_at hl 2 rfl) ?_
                refine lv_iconst (v := 0) hx hb dX13_measure_67 (by decide) ?_
                refine va_iast hx hb hK hP hD hS 5 4 rfl rfl (zin_lit ⟨by omega, by omega⟩) dX13_measure_68 (fun H locs hP hD hS => ?_)
                obtain ⟨f_68, e_f_68⟩ : ∃ z : Nat → Int32, z = upd (a54_ 1) ((u54_ 0) : Int32).toNatClampNeg 0 := ⟨_, rfl⟩
                have hP : va_P (dC, dI) vwCl [(h0, .inr (13, mX13 q0 v0)), ((q0 25), .inl (k17, 400, .inl (a32_ 0))), ((q0 26), .inl (k18, 400, .inl (a32_ 1))), ((q0 7), .inl (k6, 120, .inl f6)), ((q0 5), .inl (k4, 122880, .inl f4)), ((q0 28), .inl (k20, 400, .inl f_68)), ((q0 27), .inl (k19, 400, .inl (a54_ 0)))] H := by rw [e_f_68]; exact hP
                have hD : va_D A [(h0, .inr (13, mX13 q0 v0)), ((q0 25), .inl (k17, 400, .inl (a32_ 0))), ((q0 26), .inl (k18, 400, .inl (a32_ 1))), ((q0 7), .inl (k6, 120, .inl f6)), ((q0 5), .inl (k4, 122880, .inl f4)), ((q0 28), .inl (k20, 400, .inl f_68)), ((q0 27), .inl (k19, 400, .inl (a54_ 0)))] := by rw [e_f_68]; exact hD
                refine lv_aload_n hx hb dX13_measure_69 rfl (lv_at hl 0 rfl) ?_
                refine va_get (D := (dC, dI)) (ci := 13) (v := .ref (q0 27)) (C := RX13) (T := TX13) (N := 75) hx hb hG zuX13 hown hK hP 0 rfl rfl 27 (by decide) (hG _ zw575) (fun _ h9 => h9) rfl dX13_measure_70 ?_
                refine lv_iload_n hx hb dX13_measure_73 rfl (lv_at hl 2 rfl) ?_
                refine lv_iconst (v := (-1)) hx hb dX13_measure_74 (by decide) ?_
                refine va_iast hx hb hK hP hD hS 6 5 rfl rfl (zin_lit ⟨by omega, by omega⟩) dX13_measure_75 (fun H locs hP hD hS => ?_)
                obtain ⟨f_75, e_f_75⟩ : ∃ z : Nat → Int32, z = upd (a54_ 0) ((u54_ 0) : Int32).toNatClampNeg (-1) := ⟨_, rfl⟩
                have hP : va_P (dC, dI) vwCl [(h0, .inr (13, mX13 q0 v0)), ((q0 25), .inl (k17, 400, .inl (a32_ 0))), ((q0 26), .inl (k18, 400, .inl (a32_ 1))), ((q0 7), .inl (k6, 120, .inl f6)), ((q0 5), .inl (k4, 122880, .inl f4)), ((q0 28), .inl (k20, 400, .inl f_68)), ((q0 27), .inl (k19, 400, .inl f_75))] H := by rw [e_f_75]; exact hP
                have hD : va_D A [(h0, .inr (13, mX13 q0 v0)), ((q0 25), .inl (k17, 400, .inl (a32_ 0))), ((q0 26), .inl (k18, 400, .inl (a32_ 1))), ((q0 7), .inl (k6, 120, .inl f6)), ((q0 5), .inl (k4, 122880, .inl f4)), ((q0 28), .inl (k20, 400, .inl f_68)), ((q0 27), .inl (k19, 400, .inl f_75))] := by rw [e_f_75]; exact hD
                have hf_75 : zA (-1) 1023 f_75 := by rw [e_f_75]; exact zA_upd ha54_0 (show (-1) ≤ ((-1) : Int32).toInt from by decide) (show ((-1) : Int32).toInt ≤ 1023 from by decide)
                obtain ⟨z76, e_z76⟩ : ∃ z : Int32, z = (u54_ 0) + Int32.ofInt 1 := ⟨_, rfl⟩
                have b_ := zadd (x := (u54_ 0)) (y := Int32.ofInt 1) rfl (show (Int32.ofInt 1).toInt = 1 from by decide) e_z76 (by omega) (by omega)
                refine lv_iinc (v := z76) (lv' := [(2, .int z76), (0, .ref h0), (1, .int (u32_ 0))]) hx hb dX13_measure_76 hl (k := 2) rfl e_z76.symm (by decide) rfl (fun ls hl => ?_)
                refine lv_goto (tgt := 54) hx hb dX13_measure_79 (by decide) ?_
                have hc : va_P (dC, dI) vwCl [(h0, .inr (13, mX13 q0 v0)), ((q0 25), .inl (k17, 400, .inl (a32_ 0))), ((q0 26), .inl (k18, 400, .inl (a32_ 1))), ((q0 7), .inl (k6, 120, .inl f6)), ((q0 5), .inl (k4, 122880, .inl f4)), ((q0 28), .inl (k20, 400, .inl f_68)), ((q0 27), .inl (k19, 400, .inl f_75))] H ∧ va_D A [(h0, .inr (13, mX13 q0 v0)), ((q0 25), .inl (k17, 400, .inl (a32_ 0))), ((q0 26), .inl (k18, 400, .inl (a32_ 1))), ((q0 7), .inl (k6, 120, .inl f6)), ((q0 5), .inl (k4, 122880, .inl f4)), ((q0 28), .inl (k20, 400, .inl f_68)), ((q0 27), .inl (k19, 400, .inl f_75))] ∧ va_S A s.heap H locs ∧ lv_has ls 4 [(0, .ref h0), (1, .int (u32_ 0)), (2, .int z76)] ∧ zA (-1) 1023 f_75 ∧ (0 ≤ z76.toInt ∧ z76.toInt ≤ 400) := ⟨hP, hD, hS, lv_sub hl [1, 2, 0] rfl, hf_75, ⟨by omega, by omega⟩⟩
                exact hJ54 H locs ls (fun i => ([z76] : List (Int32)).getD i 0) (fun _ => 0) (fun i => ([f_75, f_68] : List (Nat → Int32)).getD i (fun _ => 0)) (fun _ => (fun _ => 0)) hc (show (400 - z76.toInt).toNat < (400 - (u54_ 0).toInt).toNat from by omega)
            · skip
              have hc : va_P (dC, dI) vwCl [(h0, .inr (13, mX13 q0 v0)), ((q0 25), .inl (k17, 400, .inl (a32_ 0))), ((q0 26), .inl (k18, 400, .inl (a32_ 1))), ((q0 7), .inl (k6, 120, .inl f6)), ((q0 5), .inl (k4, 122880, .inl f4)), ((q0 28), .inl (k20, 400, .inl (a32_ 3))), ((q0 27), .inl (k19, 400, .inl (a32_ 2)))] H ∧ va_D A [(h0, .inr (13, mX13 q0 v0)), ((q0 25), .inl (k17, 400, .inl (a32_ 0))), ((q0 26), .inl (k18, 400, .inl (a32_ 1))), ((q0 7), .inl (k6, 120, .inl f6)), ((q0 5), .inl (k4, 122880, .inl f4)), ((q0 28), .inl (k20, 400, .inl (a32_ 3))), ((q0 27), .inl (k19, 400, .inl (a32_ 2)))] ∧ va_S A s.heap H locs ∧ lv_has ls 4 [(0, .ref h0), (1, .int (u32_ 0)), (2, .int 0)] ∧ zA (-1) 1023 (a32_ 2) ∧ (0 ≤ (0 : Int32).toInt ∧ (0 : Int32).toInt ≤ 400) := ⟨hP, hD, hS, lv_sub hl [1, 2, 0] rfl, ha32_2, ⟨by omega, by omega⟩⟩
              exact hJ54 H locs ls (fun i => ([0] : List (Int32)).getD i 0) (fun _ => 0) (fun i => ([(a32_ 2), (a32_ 3)] : List (Nat → Int32)).getD i (fun _ => 0)) (fun _ => (fun _ => 0)) hc
          · skip
            have b_ := zF_ne rfl zk_0 c_
            refine lv_goto (tgt := 221) hx hb dX13_measure_49 (by decide) ?_
            obtain ⟨z221, e_z221⟩ : ∃ z : Int32, z = (u32_ 0) + Int32.ofInt 1 := ⟨_, rfl⟩
            have b_ := zadd (x := (u32_ 0)) (y := Int32.ofInt 1) rfl (show (Int32.ofInt 1).toInt = 1 from by decide) e_z221 (by omega) (by omega)
            refine lv_iinc (v := z221) (lv' := [(1, .int z221), (0, .ref h0)]) hx hb dX13_measure_221 hl (k := 1) rfl e_z221.symm (by decide) rfl (fun ls hl => ?_)
            refine lv_goto (tgt := 32) hx hb dX13_measure_224 (by decide) ?_
            have hc : va_P (dC, dI) vwCl [(h0, .inr (13, mX13 q0 v0)), ((q0 25), .inl (k17, 400, .inl (a32_ 0))), ((q0 26), .inl (k18, 400, .inl (a32_ 1))), ((q0 7), .inl (k6, 120, .inl f6)), ((q0 5), .inl (k4, 122880, .inl f4)), ((q0 28), .inl (k20, 400, .inl (a32_ 3))), ((q0 27), .inl (k19, 400, .inl (a32_ 2)))] H ∧ va_D A [(h0, .inr (13, mX13 q0 v0)), ((q0 25), .inl (k17, 400, .inl (a32_ 0))), ((q0 26), .inl (k18, 400, .inl (a32_ 1))), ((q0 7), .inl (k6, 120, .inl f6)), ((q0 5), .inl (k4, 122880, .inl f4)), ((q0 28), .inl (k20, 400, .inl (a32_ 3))), ((q0 27), .inl (k19, 400, .inl (a32_ 2)))] ∧ va_S A s.heap H locs ∧ lv_has ls 4 [(0, .ref h0), (1, .int z221)] ∧ zA (-1) 119 (a32_ 1) ∧ zA (-1) 1023 (a32_ 2) ∧ (0 ≤ z221.toInt ∧ z221.toInt ≤ 120) := ⟨hP, hD, hS, lv_sub hl [1, 0] rfl, ha32_1, ha32_2, ⟨by omega, by omega⟩⟩
            exact hJ32 H locs ls (fun i => ([z221] : List (Int32)).getD i 0) (fun _ => 0) (fun i => ([(a32_ 0), (a32_ 1), (a32_ 2), (a32_ 3)] : List (Nat → Int32)).getD i (fun _ => 0)) (fun _ => (fun _ => 0)) hc (show (120 - z221.toInt).toNat < (120 - (u32_ 0).toInt).toNat from by omega)
      · skip
        have hc : va_P (dC, dI) vwCl [(h0, .inr (13, mX13 q0 v0)), ((q0 25), .inl (k17, 400, .inl (a2_ 0))), ((q0 26), .inl (k18, 400, .inl (a2_ 1))), ((q0 7), .inl (k6, 120, .inl f6)), ((q0 5), .inl (k4, 122880, .inl f4)), ((q0 28), .inl (k20, 400, .inl f20)), ((q0 27), .inl (k19, 400, .inl f19))] H ∧ va_D A [(h0, .inr (13, mX13 q0 v0)), ((q0 25), .inl (k17, 400, .inl (a2_ 0))), ((q0 26), .inl (k18, 400, .inl (a2_ 1))), ((q0 7), .inl (k6, 120, .inl f6)), ((q0 5), .inl (k4, 122880, .inl f4)), ((q0 28), .inl (k20, 400, .inl f20)), ((q0 27), .inl (k19, 400, .inl f19))] ∧ va_S A s.heap H locs ∧ lv_has ls 4 [(0, .ref h0), (1, .int 0)] ∧ zA (-1) 119 (a2_ 1) ∧ zA (-1) 1023 f19 ∧ (0 ≤ (0 : Int32).toInt ∧ (0 : Int32).toInt ≤ 120) := ⟨hP, hD, hS, lv_sub hl [1, 0] rfl, ha2_1, hf19, ⟨by omega, by omega⟩⟩
        exact hJ32 H locs ls (fun i => ([0] : List (Int32)).getD i 0) (fun _ => 0) (fun i => ([(a2_ 0), (a2_ 1), f19, f20] : List (Nat → Int32)).getD i (fun _ => 0)) (fun _ => (fun _ => 0)) hc
    · skip
      have b_ := zF_ge rfl rfl c_
      refine lv_aload_n hx hb dX13_measure_10 rfl (lv_at hl 0 rfl) ?_
      refine va_get (D := (dC, dI)) (ci := 13) (v := .ref (q0 25)) (C := RX13) (T := TX13) (N := 75) hx hb hG zuX13 hown hK hP 0 rfl rfl 25 (by decide) (hG _ zw572) (fun _ h9 => h9) rfl dX13_measure_11 ?_
      refine lv_iload_n hx hb dX13_measure_14 rfl (lv_at hl 1 rfl) ?_
      refine lv_iconst (v := 0) hx hb dX13_measure_15 (by decide) ?_
      refine va_iast hx hb hK hP hD hS 1 0 rfl rfl (zin_lit ⟨by omega, by omega⟩) dX13_measure_16 (fun H locs hP hD hS => ?_)
      obtain ⟨f_16, e_f_16⟩ : ∃ z : Nat → Int32, z = upd (a2_ 0) ((u2_ 0) : Int32).toNatClampNeg 0 := ⟨_, rfl⟩
      have hP : va_P (dC, dI) vwCl [(h0, .inr (13, mX13 q0 v0)), ((q0 25), .inl (k17, 400, .inl f_16)), ((q0 26), .inl (k18, 400, .inl (a2_ 1))), ((q0 7), .inl (k6, 120, .inl f6)), ((q0 5), .inl (k4, 122880, .inl f4)), ((q0 28), .inl (k20, 400, .inl f20)), ((q0 27), .inl (k19, 400, .inl f19))] H := by rw [e_f_16]; exact hP
      have hD : va_D A [(h0, .inr (13, mX13 q0 v0)), ((q0 25), .inl (k17, 400, .inl f_16)), ((q0 26), .inl (k18, 400, .inl (a2_ 1))), ((q0 7), .inl (k6, 120, .inl f6)), ((q0 5), .inl (k4, 122880, .inl f4)), ((q0 28), .inl (k20, 400, .inl f20)), ((q0 27), .inl (k19, 400, .inl f19))] := by rw [e_f_16]; exact hD
      refine lv_aload_n hx hb dX13_measure_17 rfl (lv_at hl 0 rfl) ?_
      refine va_get (D := (dC, dI)) (ci := 13) (v := .ref (q0 26)) (C := RX13) (T := TX13) (N := 75) hx hb hG zuX13 hown hK hP 0 rfl rfl 26 (by decide) (hG _ zw573) (fun _ h9 => h9) rfl dX13_measure_18 ?_
      refine lv_iload_n hx hb dX13_measure_21 rfl (lv_at hl 1 rfl) ?_
      refine lv_iconst (v := (-1)) hx hb dX13_measure_22 (by decide) ?_
      refine va_iast hx hb hK hP hD hS 2 1 rfl rfl (zin_lit ⟨by omega, by omega⟩) dX13_measure_23 (fun H locs hP hD hS => ?_)
      obtain ⟨f_23, e_f_23⟩ : ∃ z : Nat → Int32, z = upd (a2_ 1) ((u2_ 0) : Int32).toNatClampNeg (-1) := ⟨_, rfl⟩
      have hP : va_P (dC, dI) vwCl [(h0, .inr (13, mX13 q0 v0)), ((q0 25), .inl (k17, 400, .inl f_16)), ((q0 26), .inl (k18, 400, .inl f_23)), ((q0 7), .inl (k6, 120, .inl f6)), ((q0 5), .inl (k4, 122880, .inl f4)), ((q0 28), .inl (k20, 400, .inl f20)), ((q0 27), .inl (k19, 400, .inl f19))] H := by rw [e_f_23]; exact hP
      have hD : va_D A [(h0, .inr (13, mX13 q0 v0)), ((q0 25), .inl (k17, 400, .inl f_16)), ((q0 26), .inl (k18, 400, .inl f_23)), ((q0 7), .inl (k6, 120, .inl f6)), ((q0 5), .inl (k4, 122880, .inl f4)), ((q0 28), .inl (k20, 400, .inl f20)), ((q0 27), .inl (k19, 400, .inl f19))] := by rw [e_f_23]; exact hD
      have hf_23 : zA (-1) 119 f_23 := by rw [e_f_23]; exact zA_upd ha2_1 (show (-1) ≤ ((-1) : Int32).toInt from by decide) (show ((-1) : Int32).toInt ≤ 119 from by decide)
      obtain ⟨z24, e_z24⟩ : ∃ z : Int32, z = (u2_ 0) + Int32.ofInt 1 := ⟨_, rfl⟩
      have b_ := zadd (x := (u2_ 0)) (y := Int32.ofInt 1) rfl (show (Int32.ofInt 1).toInt = 1 from by decide) e_z24 (by omega) (by omega)
      refine lv_iinc (v := z24) (lv' := [(1, .int z24), (0, .ref h0)]) hx hb dX13_measure_24 hl (k := 1) rfl e_z24.symm (by decide) rfl (fun ls hl => ?_)
      refine lv_goto (tgt := 2) hx hb dX13_measure_27 (by decide) ?_
      have hc : va_P (dC, dI) vwCl [(h0, .inr (13, mX13 q0 v0)), ((q0 25), .inl (k17, 400, .inl f_16)), ((q0 26), .inl (k18, 400, .inl f_23)), ((q0 7), .inl (k6, 120, .inl f6)), ((q0 5), .inl (k4, 122880, .inl f4)), ((q0 28), .inl (k20, 400, .inl f20)), ((q0 27), .inl (k19, 400, .inl f19))] H ∧ va_D A [(h0, .inr (13, mX13 q0 v0)), ((q0 25), .inl (k17, 400, .inl f_16)), ((q0 26), .inl (k18, 400, .inl f_23)), ((q0 7), .inl (k6, 120, .inl f6)), ((q0 5), .inl (k4, 122880, .inl f4)), ((q0 28), .inl (k20, 400, .inl f20)), ((q0 27), .inl (k19, 400, .inl f19))] ∧ va_S A s.heap H locs ∧ lv_has ls 4 [(0, .ref h0), (1, .int z24)] ∧ zA (-1) 119 f_23 ∧ (0 ≤ z24.toInt ∧ z24.toInt ≤ 400) := ⟨hP, hD, hS, lv_sub hl [1, 0] rfl, hf_23, ⟨by omega, by omega⟩⟩
      exact hJ2 H locs ls (fun i => ([z24] : List (Int32)).getD i 0) (fun _ => 0) (fun i => ([f_16, f_23] : List (Nat → Int32)).getD i (fun _ => 0)) (fun _ => (fun _ => 0)) hc (show (400 - z24.toInt).toNat < (400 - (u2_ 0).toInt).toNat from by omega)
  · skip
    have hc : va_P (dC, dI) vwCl [(h0, .inr (13, mX13 q0 v0)), ((q0 25), .inl (k17, 400, .inl f17)), ((q0 26), .inl (k18, 400, .inl f18)), ((q0 7), .inl (k6, 120, .inl f6)), ((q0 5), .inl (k4, 122880, .inl f4)), ((q0 28), .inl (k20, 400, .inl f20)), ((q0 27), .inl (k19, 400, .inl f19))] s.heap ∧ va_D A [(h0, .inr (13, mX13 q0 v0)), ((q0 25), .inl (k17, 400, .inl f17)), ((q0 26), .inl (k18, 400, .inl f18)), ((q0 7), .inl (k6, 120, .inl f6)), ((q0 5), .inl (k4, 122880, .inl f4)), ((q0 28), .inl (k20, 400, .inl f20)), ((q0 27), .inl (k19, 400, .inl f19))] ∧ va_S A s.heap s.heap [] ∧ lv_has ls 4 [(0, .ref h0), (1, .int 0)] ∧ zA (-1) 119 f18 ∧ (0 ≤ (0 : Int32).toInt ∧ (0 : Int32).toInt ≤ 400) := ⟨hP, hD, hS, lv_sub hl [1, 0] rfl, hf18, ⟨by omega, by omega⟩⟩
    exact hJ2 s.heap [] ls (fun i => ([0] : List (Int32)).getD i 0) (fun _ => 0) (fun i => ([f17, f18] : List (Nat → Int32)).getD i (fun _ => 0)) (fun _ => (fun _ => 0)) hc
set_option maxHeartbeats 8000000 in
set_option maxRecDepth 100000 in
theorem sX13_cost_0 (l : Launch) (dC : Nat → ClassId) (dI : Nat → Nat → Nat) (adK adV : Nat → Nat) (sz : Nat) (x0 : Int32) : Met l yX13_cost (zw yX13_cost cX13_cost 4 (some .int)) { frames := 1, cells := 0, slots := 0, locals := 40 } (zPc dC dI adK adV [.int x0] sz [] []) (va_Qi (fun (r : Int32) (u : Nat → Int32) => True) (fun (u : Nat → Int32) (t : State) => ∃ (ww : Nat → Int64) (aa : Nat → Nat → Int32) (bb : Nat → Nat → Int64), va_P (dC, dI) vwCl [] t.heap ∧ va_K (dC, dI) vwCl [] t ∧ va_D (va_A [] sz) []) (va_A [] sz)) 0 0 (va_A [] sz) := by
  refine Met.ofW (cc := cX13_cost) (maxL := 4) (ret := (some .int)) (by decide) rfl ?_
  intro p e s m args below meth c s₁ B hml hv
  obtain ⟨rfl, hsz, hP, hK, hD0, hE, hZ⟩ := hv
  have hx := B.exec
  have hb := B.bytes
  have hr := B.returns
  have hG : ∀ w ∈ zG, w.before _ s = true := fun w h => atoms_spec (ws := (zw yX13_cost cX13_cost 4 (some .int))) B.pre w (List.mem_cons_of_mem _ h)
  have hown : s.vm.findClass RX13 = some m.cls := findClass_of_methodNamed B.named
  have hlocks := B.notSynchronized
  subst hsz
  have hD := hD0.self (sz := s.heap.size)
  generalize hAe : va_A [] s.heap.size = A at hD hZ ⊢
  have hA : ∀ q : Nat, s.heap.size ≤ q → A q := fun q h => by rw [← hAe]; exact Or.inr h
  have hS : va_S A s.heap s.heap [] := va_S.rf
  have hl := lv_entry ([.int x0]) (n := 4) (Nat.le_of_ble_eq_true rfl)
  rw [lg_entry_eq]
  generalize (lg_sl ([.int x0]) ++ List.replicate (4 - (lg_sl ([.int x0])).length) Slot.unset).toArray = ls at hl ⊢
  have hl : lv_has ls 4 [(0, .int x0)] := hl
  have b_ := zk_32
  refine lv_iconst (v := 0) hx hb dX13_cost_0 (by decide) ?_
  refine lv_istore_n (lv' := [(1, .int 0), (0, .int x0)]) hx hb dX13_cost_1 rfl hl (by decide) rfl (fun ls hl => ?_)
  refine lv_iload_n hx hb dX13_cost_2 rfl (lv_at hl 1 rfl) ?_
  refine lv_istore_n (lv' := [(2, .int x0), (1, .int 0), (0, .int x0)]) hx hb dX13_cost_3 rfl hl (by decide) rfl (fun ls hl => ?_)
  refine lv_bipush (v := 32) hx hb dX13_cost_4 (by decide) ?_
  refine lv_istore_n (lv' := [(3, .int 32), (2, .int x0), (1, .int 0), (0, .int x0)]) hx hb dX13_cost_6 rfl hl (by decide) rfl (fun ls hl => ?_)
  refine zcutL (fun u7_ => ((u7_ 1).toInt).toNat) (fun H locs ls u7_ w7_ a7_ b7_ => va_P (dC, dI) vwCl [] H ∧ va_D A [] ∧ va_S A s.heap H locs ∧ lv_has ls 4 [(0, .int x0), (1, .int (u7_ 0)), (2, .int (u7_ 1)), (3, .int (u7_ 2))] ∧ (32 ≤ (u7_ 2).toInt ∧ (u7_ 2).toInt ≤ 256)) (fun ls u7_ w7_ => F0 m 7 ls []) 0 0 ?_ (fun hJ7 => ?_)
  · skip
    intro H locs ls u7_ w7_ a7_ b7_ hc hJ7
    obtain ⟨hP, hD, hS, hl, b_⟩ := hc
    refine lv_iload_n hx hb dX13_cost_7 rfl (lv_at hl 2 rfl) ?_
    have b_ : -2147483648 ≤ (u7_ 1).toInt ∧ (u7_ 1).toInt ≤ 2147483647 := ⟨zlo _, zhi _⟩
    refine lv_if_le (tgt := 35) hx hb dX13_cost_8 (by decide) (fun c_ => ?_) (fun c_ => ?_)
    · skip
      have b_ := zT_le rfl zk_0 c_
      refine lv_iload_n hx hb dX13_cost_35 rfl (lv_at hl 1 rfl) ?_
      refine W.widen (k := 0) (n := 0) (by decide) (by decide) ?_
      have b_ : -2147483648 ≤ (u7_ 0).toInt ∧ (u7_ 0).toInt ≤ 2147483647 := ⟨zlo _, zhi _⟩
      have hpost : True := trivial
      have hP9 : va_P (dC, dI) vwCl [] H := hP
      have hD9 : va_D A [] := hD
      exact W.iret (v := (u7_ 0)) hx hb hr (fun t ht hW => ⟨⟨(u7_ 0), (fun _ => 0), rfl, hpost, (fun _ => 0), (fun _ => (fun _ => 0)), (fun _ => (fun _ => 0)), by rw [ht]; exact hP9, va_K.moved hW.alike hK, hD9⟩, hS.F ht⟩) hS.2.2 dX13_cost_36
    · skip
      have b_ := zF_le rfl zk_0 c_
      refine lv_iload_n hx hb dX13_cost_11 rfl (lv_at hl 1 rfl) ?_
      refine lv_iload_n hx hb dX13_cost_12 rfl (lv_at hl 3 rfl) ?_
      refine lv_bipush (v := 16) hx hb dX13_cost_13 (by decide) ?_
      refine lv_iadd hx hb dX13_cost_15 ?_
      refine lv_topi (fun z15 e_z15 => ?_)
      have b_ := zadd rfl zk_16 e_z15 (by omega) (by omega)
      have b_ : -2147483648 ≤ (u7_ 0).toInt ∧ (u7_ 0).toInt ≤ 2147483647 := ⟨zlo _, zhi _⟩
      refine lv_iadd hx hb dX13_cost_16 ?_
      refine lv_topi (fun z16 e_z16 => ?_)
      refine lv_istore_n (lv' := [(1, .int z16), (0, .int x0), (2, .int (u7_ 1)), (3, .int (u7_ 2))]) hx hb dX13_cost_17 rfl hl (by decide) rfl (fun ls hl => ?_)
      refine lv_iload_n hx hb dX13_cost_18 rfl (lv_at hl 2 rfl) ?_
      refine lv_iload_n hx hb dX13_cost_19 rfl (lv_at hl 3 rfl) ?_
      refine lv_isub hx hb dX13_cost_20 ?_
      refine lv_topi (fun z20 e_z20 => ?_)
      have b_ := zsub rfl rfl e_z20 (by omega) (by omega)
      refine lv_istore_n (lv' := [(2, .int z20), (1, .int z16), (0, .int x0), (3, .int (u7_ 2))]) hx hb dX13_cost_21 rfl hl (by decide) rfl (fun ls hl => ?_)
      refine lv_sipush (v := 256) hx hb dX13_cost_22 (by decide) ?_
      refine lv_iconst (v := 2) hx hb dX13_cost_25 (by decide) ?_
      refine lv_iload_n hx hb dX13_cost_26 rfl (lv_at hl 3 rfl) ?_
      refine lv_imul hx hb dX13_cost_27 ?_
      refine lv_topi (fun z27 e_z27 => ?_)
      have b_ := zmul zk_2 rfl e_z27 (by omega) (by omega)
      refine va_mmin hx hb (by rw [hml]; exact hl.1.symm) hown (hG _ zw569) (hG _ zw120) (hG _ zw9) (hG _ zw121) (Nat.le_of_ble_eq_true rfl) (Nat.le_of_ble_eq_true rfl) (Nat.le_of_ble_eq_true rfl) (Nat.le_of_ble_eq_true rfl) dX13_cost_28 ?_
      refine lv_topi (fun z28 e_z28 => ?_)
      have b_ := zmin zk_256 rfl e_z28
      refine lv_istore_n (lv' := [(3, .int z28), (2, .int z20), (1, .int z16), (0, .int x0)]) hx hb dX13_cost_31 rfl hl (by decide) rfl (fun ls hl => ?_)
      refine lv_goto (tgt := 7) hx hb dX13_cost_32 (by decide) ?_
      have b_ : -2147483648 ≤ x0.toInt ∧ x0.toInt ≤ 2147483647 := ⟨zlo _, zhi _⟩
      have b_ : -2147483648 ≤ z16.toInt ∧ z16.toInt ≤ 2147483647 := ⟨zlo _, zhi _⟩
      have hc : va_P (dC, dI) vwCl [] H ∧ va_D A [] ∧ va_S A s.heap H locs ∧ lv_has ls 4 [(0, .int x0), (1, .int z16), (2, .int z20), (3, .int z28)] ∧ (32 ≤ z28.toInt ∧ z28.toInt ≤ 256) := ⟨hP, hD, hS, lv_sub hl [3, 2, 1, 0] rfl, ⟨by omega, by omega⟩⟩
      exact hJ7 H locs ls (fun i => ([z16, z20, z28] : List (Int32)).getD i 0) (fun _ => 0) (fun _ => (fun _ => 0)) (fun _ => (fun _ => 0)) hc (show (z20.toInt).toNat < ((u7_ 1).toInt).toNat from by omega)
  · skip
    have b_ : -2147483648 ≤ x0.toInt ∧ x0.toInt ≤ 2147483647 := ⟨zlo _, zhi _⟩
    have hc : va_P (dC, dI) vwCl [] s.heap ∧ va_D A [] ∧ va_S A s.heap s.heap [] ∧ lv_has ls 4 [(0, .int x0), (1, .int 0), (2, .int x0), (3, .int 32)] ∧ (32 ≤ (32 : Int32).toInt ∧ (32 : Int32).toInt ≤ 256) := ⟨hP, hD, hS, lv_sub hl [3, 2, 1, 0] rfl, ⟨by omega, by omega⟩⟩
    exact hJ7 s.heap [] ls (fun i => ([0, x0, 32] : List (Int32)).getD i 0) (fun _ => 0) (fun _ => (fun _ => 0)) (fun _ => (fun _ => 0)) hc
set_option maxHeartbeats 8000000 in
set_option maxRecDepth 100000 in
theorem sX13_taken_0 (l : Launch) (dC : Nat → ClassId) (dI : Nat → Nat → Nat) (adK adV : Nat → Nat) (h0 : Nat) (q0 : Nat → Nat) (k17 : ClassId) (k18 : ClassId) (k6 : ClassId) (k4 : ClassId) (k20 : ClassId) (k19 : ClassId) (sz : Nat) (v0 : Nat → Int32) (f17 : Nat → Int32) (f18 : Nat → Int32) (f6 : Nat → Int32) (f4 : Nat → Int32) (f20 : Nat → Int32) (f19 : Nat → Int32) (hv0 : zR rg_Model v0) (hf18 : zA (-1) 119 f18) (hf4 : zA 0 400 f4) (hf19 : zA (-1) 1023 f19) : Met l yX13_taken (zw yX13_taken cX13_taken 3 (some .int)) { frames := 3, cells := 0, slots := 0, locals := 65 } (zPc dC dI adK adV [.ref h0] sz [(h0, .inr (13, mX13 q0 v0)), ((q0 25), .inl (k17, 400, .inl f17)), ((q0 26), .inl (k18, 400, .inl f18)), ((q0 7), .inl (k6, 120, .inl f6)), ((q0 5), .inl (k4, 122880, .inl f4)), ((q0 28), .inl (k20, 400, .inl f20)), ((q0 27), .inl (k19, 400, .inl f19))] [(k17, .int), (k18, .int), (k6, .boolean), (k4, .short), (k20, .int), (k19, .int)]) (va_Qi (fun (r : Int32) (u : Nat → Int32) => True) (fun (u : Nat → Int32) (t : State) => ∃ (ww : Nat → Int64) (aa : Nat → Nat → Int32) (bb : Nat → Nat → Int64), zA (-1) 119 (aa 1) ∧ zA (-1) 1023 (aa 3) ∧ va_P (dC, dI) vwCl [(h0, .inr (13, mX13 q0 v0)), ((q0 25), .inl (k17, 400, .inl (aa 0))), ((q0 26), .inl (k18, 400, .inl (aa 1))), ((q0 7), .inl (k6, 120, .inl f6)), ((q0 5), .inl (k4, 122880, .inl f4)), ((q0 28), .inl (k20, 400, .inl (aa 2))), ((q0 27), .inl (k19, 400, .inl (aa 3)))] t.heap ∧ va_K (dC, dI) vwCl [(k17, .int), (k18, .int), (k6, .boolean), (k4, .short), (k20, .int), (k19, .int)] t ∧ va_D (va_A [(h0, .inr (13, mX13 q0 v0)), ((q0 25), .inl (k17, 400, .inl f17)), ((q0 26), .inl (k18, 400, .inl f18)), ((q0 7), .inl (k6, 120, .inl f6)), ((q0 5), .inl (k4, 122880, .inl f4)), ((q0 28), .inl (k20, 400, .inl f20)), ((q0 27), .inl (k19, 400, .inl f19))] sz) [(h0, .inr (13, mX13 q0 v0)), ((q0 25), .inl (k17, 400, .inl (aa 0))), ((q0 26), .inl (k18, 400, .inl (aa 1))), ((q0 7), .inl (k6, 120, .inl f6)), ((q0 5), .inl (k4, 122880, .inl f4)), ((q0 28), .inl (k20, 400, .inl (aa 2))), ((q0 27), .inl (k19, 400, .inl (aa 3)))]) (va_A [(h0, .inr (13, mX13 q0 v0)), ((q0 25), .inl (k17, 400, .inl f17)), ((q0 26), .inl (k18, 400, .inl f18)), ((q0 7), .inl (k6, 120, .inl f6)), ((q0 5), .inl (k4, 122880, .inl f4)), ((q0 28), .inl (k20, 400, .inl f20)), ((q0 27), .inl (k19, 400, .inl f19))] sz)) 0 0 (va_A [(h0, .inr (13, mX13 q0 v0)), ((q0 25), .inl (k17, 400, .inl f17)), ((q0 26), .inl (k18, 400, .inl f18)), ((q0 7), .inl (k6, 120, .inl f6)), ((q0 5), .inl (k4, 122880, .inl f4)), ((q0 28), .inl (k20, 400, .inl f20)), ((q0 27), .inl (k19, 400, .inl f19))] sz) := by
  refine Met.ofW (cc := cX13_taken) (maxL := 3) (ret := (some .int)) (by decide) rfl ?_
  intro p e s m args below meth c s₁ B hml hv
  obtain ⟨rfl, hsz, hP, hK, hD0, hE, hZ⟩ := hv
  have hx := B.exec
  have hb := B.bytes
  have hr := B.returns
  have hG : ∀ w ∈ zG, w.before _ s = true := fun w h => atoms_spec (ws := (zw yX13_taken cX13_taken 3 (some .int))) B.pre w (List.mem_cons_of_mem _ h)
  have hown : s.vm.findClass RX13 = some m.cls := findClass_of_methodNamed B.named
  have hlocks := B.notSynchronized
  subst hsz
  have hD := hD0.self (sz := s.heap.size)
  generalize hAe : va_A [(h0, .inr (13, mX13 q0 v0)), ((q0 25), .inl (k17, 400, .inl f17)), ((q0 26), .inl (k18, 400, .inl f18)), ((q0 7), .inl (k6, 120, .inl f6)), ((q0 5), .inl (k4, 122880, .inl f4)), ((q0 28), .inl (k20, 400, .inl f20)), ((q0 27), .inl (k19, 400, .inl f19))] s.heap.size = A at hD hZ ⊢
  have hA : ∀ q : Nat, s.heap.size ≤ q → A q := fun q h => by rw [← hAe]; exact Or.inr h
  have hS : va_S A s.heap s.heap [] := va_S.rf
  have hl := lv_entry ([.ref h0]) (n := 3) (Nat.le_of_ble_eq_true rfl)
  rw [lg_entry_eq]
  generalize (lg_sl ([.ref h0]) ++ List.replicate (3 - (lg_sl ([.ref h0])).length) Slot.unset).toArray = ls at hl ⊢
  have hl : lv_has ls 3 [(0, .ref h0)] := hl
  have b_ := zk_0
  refine lv_aload_n hx hb dX13_taken_0 rfl (lv_at hl 0 rfl) ?_
  have hPc := hP.sub (ws' := [(h0, .inr (13, mX13 q0 v0)), ((q0 25), .inl (k17, 400, .inl f17)), ((q0 26), .inl (k18, 400, .inl f18)), ((q0 7), .inl (k6, 120, .inl f6)), ((q0 5), .inl (k4, 122880, .inl f4)), ((q0 28), .inl (k20, 400, .inl f20)), ((q0 27), .inl (k19, 400, .inl f19))]) [0, 1, 2, 3, 4, 5, 6] rfl
  have hDc := hD.sub (ws' := [(h0, .inr (13, mX13 q0 v0)), ((q0 25), .inl (k17, 400, .inl f17)), ((q0 26), .inl (k18, 400, .inl f18)), ((q0 7), .inl (k6, 120, .inl f6)), ((q0 5), .inl (k4, 122880, .inl f4)), ((q0 28), .inl (k20, 400, .inl f20)), ((q0 27), .inl (k19, 400, .inl f19))]) [0, 1, 2, 3, 4, 5, 6] (by decide) rfl
  have hKc := hK.sub (tys' := [(k17, .int), (k18, .int), (k6, .boolean), (k4, .short), (k20, .int), (k19, .int)]) [0, 1, 2, 3, 4, 5] rfl
  have hFc := va_free (wc := [(h0, .inr (13, mX13 q0 v0)), ((q0 25), .inl (k17, 400, .inl f17)), ((q0 26), .inl (k18, 400, .inl f18)), ((q0 7), .inl (k6, 120, .inl f6)), ((q0 5), .inl (k4, 122880, .inl f4)), ((q0 28), .inl (k20, 400, .inl f20)), ((q0 27), .inl (k19, 400, .inl f19))]) hD hS hA [0, 1, 2, 3, 4, 5, 6] rfl
  refine va_callv (va_runV (As := []) (rest := []) ⟨hx, hb, hml, hown, hG⟩ (sX13_measure_0 l dC dI adK adV h0 q0 k17 k18 k6 k4 k20 k19 s.heap.size v0 f17 f18 f6 f4 f20 f19 hv0 hf18 hf4 hf19) (cwV 0 hG (zgV zw582 zw583 zw584 zw524 zw585) rfl rfl rfl (by decide +kernel) ⟨Nat.le_of_ble_eq_true rfl, Nat.le_of_ble_eq_true rfl⟩) ⟨zPc_blind, va_recv hKc hPc (ci := 13) (q0 := 0) rfl rfl, zPc_pre hPc hKc hDc hE hS hFc hZ⟩ rfl rfl hl.1 rfl (lv_room (Nat.le_of_ble_eq_true rfl)) dX13_taken_1 ⟨Nat.le_of_ble_eq_true rfl, Nat.le_of_ble_eq_true rfl⟩) hS (fun q _ h => hFc q h) hFc (fun u1_ t H1 locs ht hvm hw hB hz1 hk1 hS => ?_)
  obtain ⟨w1_, a1_, b1_, ha1_1, ha1_3, hP1, hK1, hD1⟩ := hB
  rw [ht] at hP1
  obtain ⟨hP, hD⟩ := va_join (wr := []) (w1 := [(h0, .inr (13, mX13 q0 v0)), ((q0 25), .inl (k17, 400, .inl (a1_ 0))), ((q0 26), .inl (k18, 400, .inl (a1_ 1))), ((q0 7), .inl (k6, 120, .inl f6)), ((q0 5), .inl (k4, 122880, .inl f4)), ((q0 28), .inl (k20, 400, .inl (a1_ 2))), ((q0 27), .inl (k19, 400, .inl (a1_ 3)))]) hP hD [0, 1, 2, 3, 4, 5, 6] [] rfl rfl (by decide) (by decide) hk1 hFc hP1 hD1
  have hP : va_P (dC, dI) vwCl [(h0, .inr (13, mX13 q0 v0)), ((q0 25), .inl (k17, 400, .inl (a1_ 0))), ((q0 26), .inl (k18, 400, .inl (a1_ 1))), ((q0 7), .inl (k6, 120, .inl f6)), ((q0 5), .inl (k4, 122880, .inl f4)), ((q0 28), .inl (k20, 400, .inl (a1_ 2))), ((q0 27), .inl (k19, 400, .inl (a1_ 3)))] H1 := hP.sub [0, 1, 2, 3, 4, 5, 6] rfl
  have hD : va_D A [(h0, .inr (13, mX13 q0 v0)), ((q0 25), .inl (k17, 400, .inl (a1_ 0))), ((q0 26), .inl (k18, 400, .inl (a1_ 1))), ((q0 7), .inl (k6, 120, .inl f6)), ((q0 5), .inl (k4, 122880, .inl f4)), ((q0 28), .inl (k20, 400, .inl (a1_ 2))), ((q0 27), .inl (k19, 400, .inl (a1_ 3)))] := hD.sub [0, 1, 2, 3, 4, 5, 6] (by decide) rfl
  generalize H1 = H at hP hS ⊢
  clear hz1
  refine lv_iconst (v := 0) hx hb dX13_taken_4 (by decide) ?_
  refine lv_istore_n (lv' := [(1, .int 0), (0, .ref h0)]) hx hb dX13_taken_5 rfl hl (by decide) rfl (fun ls hl => ?_)
  refine lv_iconst (v := 0) hx hb dX13_taken_6 (by decide) ?_
  refine lv_istore_n (lv' := [(2, .int 0), (1, .int 0), (0, .ref h0)]) hx hb dX13_taken_7 rfl hl (by decide) rfl (fun ls hl => ?_)
  refine zcutL (fun u8_ => (400 - (u8_ 1).toInt).toNat) (fun H locs ls u8_ w8_ a8_ b8_ => va_P (dC, dI) vwCl [(h0, .inr (13, mX13 q0 v0)), ((q0 25), .inl (k17, 400, .inl (a1_ 0))), ((q0 26), .inl (k18, 400, .inl (a1_ 1))), ((q0 7), .inl (k6, 120, .inl f6)), ((q0 5), .inl (k4, 122880, .inl f4)), ((q0 28), .inl (k20, 400, .inl (a1_ 2))), ((q0 27), .inl (k19, 400, .inl (a1_ 3)))] H ∧ va_D A [(h0, .inr (13, mX13 q0 v0)), ((q0 25), .inl (k17, 400, .inl (a1_ 0))), ((q0 26), .inl (k18, 400, .inl (a1_ 1))), ((q0 7), .inl (k6, 120, .inl f6)), ((q0 5), .inl (k4, 122880, .inl f4)), ((q0 28), .inl (k20, 400, .inl (a1_ 2))), ((q0 27), .inl (k19, 400, .inl (a1_ 3)))] ∧ va_S A s.heap H locs ∧ lv_has ls 3 [(0, .ref h0), (1, .int (u8_ 0)), (2, .int (u8_ 1))] ∧ (0 ≤ (u8_ 1).toInt ∧ (u8_ 1).toInt ≤ 400)) (fun ls u8_ w8_ => F0 m 8 ls []) 0 0 ?_ (fun hJ8 => ?_)
  · skip
    intro H locs ls u8_ w8_ a8_ b8_ hc hJ8
    obtain ⟨hP, hD, hS, hl, b_⟩ := hc
    refine lv_iload_n hx hb dX13_taken_8 rfl (lv_at hl 2 rfl) ?_
    refine lv_aload_n hx hb dX13_taken_9 rfl (lv_at hl 0 rfl) ?_
    have b_ : 0 ≤ (v0 4).toInt ∧ (v0 4).toInt ≤ 400 := hv0 4
    refine va_get (D := (dC, dI)) (ci := 13) (v := .int (v0 4)) (C := RX13) (T := TX13) (N := 75) hx hb hG zuX13 hown hK hP 0 rfl rfl 4 (by decide) (hG _ zw551) (fun _ h9 => h9) rfl dX13_taken_10 ?_
    refine lv_icmp_ge (tgt := 34) hx hb dX13_taken_13 (by decide) (fun c_ => ?_) (fun c_ => ?_)
    · skip
      have b_ := zT_ge rfl rfl c_
      refine lv_iload_n hx hb dX13_taken_34 rfl (lv_at hl 1 rfl) ?_
      refine W.widen (k := 0) (n := 0) (by decide) (by decide) ?_
      have b_ : -2147483648 ≤ (u8_ 0).toInt ∧ (u8_ 0).toInt ≤ 2147483647 := ⟨zlo _, zhi _⟩
      have hpost : True := trivial
      have hP9 : va_P (dC, dI) vwCl [(h0, .inr (13, mX13 q0 v0)), ((q0 25), .inl (k17, 400, .inl (a1_ 0))), ((q0 26), .inl (k18, 400, .inl (a1_ 1))), ((q0 7), .inl (k6, 120, .inl f6)), ((q0 5), .inl (k4, 122880, .inl f4)), ((q0 28), .inl (k20, 400, .inl (a1_ 2))), ((q0 27), .inl (k19, 400, .inl (a1_ 3)))] H := hP
      have hD9 : va_D A [(h0, .inr (13, mX13 q0 v0)), ((q0 25), .inl (k17, 400, .inl (a1_ 0))), ((q0 26), .inl (k18, 400, .inl (a1_ 1))), ((q0 7), .inl (k6, 120, .inl f6)), ((q0 5), .inl (k4, 122880, .inl f4)), ((q0 28), .inl (k20, 400, .inl (a1_ 2))), ((q0 27), .inl (k19, 400, .inl (a1_ 3)))] := hD
      exact W.iret (v := (u8_ 0)) hx hb hr (fun t ht hW => ⟨⟨(u8_ 0), (fun _ => 0), rfl, hpost, (fun _ => 0), (fun i => ([(a1_ 0), (a1_ 1), (a1_ 2), (a1_ 3)] : List (Nat → Int32)).getD i (fun _ => 0)), (fun _ => (fun _ => 0)), ha1_1, ha1_3, by rw [ht]; exact hP9, va_K.moved hW.alike hK, hD9⟩, hS.F ht⟩) hS.2.2 dX13_taken_35
    · skip
      have b_ := zF_ge rfl rfl c_
      refine lv_iload_n hx hb dX13_taken_16 rfl (lv_at hl 1 rfl) ?_
      refine lv_aload_n hx hb dX13_taken_17 rfl (lv_at hl 0 rfl) ?_
      refine va_get (D := (dC, dI)) (ci := 13) (v := .ref (q0 25)) (C := RX13) (T := TX13) (N := 75) hx hb hG zuX13 hown hK hP 0 rfl rfl 25 (by decide) (hG _ zw572) (fun _ h9 => h9) rfl dX13_taken_18 ?_
      refine lv_iload_n hx hb dX13_taken_21 rfl (lv_at hl 2 rfl) ?_
      refine va_iald hx hb hK hP 1 0 rfl rfl (zin_lit ⟨by omega, by omega⟩) dX13_taken_22 ?_
      refine lv_topi (fun z22 e_z22 => ?_)
      have hPc := hP.sub (ws' := []) [] rfl
      have hDc := hD.sub (ws' := []) [] (by decide) rfl
      have hKc := hK.sub (tys' := []) [] rfl
      have hFc := va_free (wc := []) hD hS hA [] rfl
      refine va_calli (va_runS (As := [.int z22]) (rest := [.int (u8_ 0)]) ⟨hx, hb, hml, hown, hG⟩ (sX13_cost_0 l dC dI adK adV H.size z22) (va_cwS 1 hG (zgS zw586 zw587 zw524 zw588) rfl rfl rfl (by decide +kernel) ⟨Nat.le_of_ble_eq_true rfl, Nat.le_of_ble_eq_true rfl⟩) ⟨zPc_blind, zPc_pre hPc hKc hDc hE hS hFc hZ⟩ rfl rfl hl.1 rfl (lv_room (Nat.le_of_ble_eq_true rfl)) dX13_taken_23 ⟨Nat.le_of_ble_eq_true rfl, Nat.le_of_ble_eq_true rfl⟩) hS (fun q _ h => hFc q h) hFc (fun r23_ u23_ t H1 locs ht hvm hw hB hz1 hk1 hS => ?_)
      obtain ⟨w23_, a23_, b23_, hP1, hK1, hD1⟩ := hB
      rw [ht] at hP1
      obtain ⟨hP, hD⟩ := va_join (wr := [(h0, .inr (13, mX13 q0 v0)), ((q0 25), .inl (k17, 400, .inl (a1_ 0))), ((q0 26), .inl (k18, 400, .inl (a1_ 1))), ((q0 7), .inl (k6, 120, .inl f6)), ((q0 5), .inl (k4, 122880, .inl f4)), ((q0 28), .inl (k20, 400, .inl (a1_ 2))), ((q0 27), .inl (k19, 400, .inl (a1_ 3)))]) (w1 := []) hP hD [] [0, 1, 2, 3, 4, 5, 6] rfl rfl (by decide) (by decide) hk1 hFc hP1 hD1
      have hP : va_P (dC, dI) vwCl [(h0, .inr (13, mX13 q0 v0)), ((q0 25), .inl (k17, 400, .inl (a1_ 0))), ((q0 26), .inl (k18, 400, .inl (a1_ 1))), ((q0 7), .inl (k6, 120, .inl f6)), ((q0 5), .inl (k4, 122880, .inl f4)), ((q0 28), .inl (k20, 400, .inl (a1_ 2))), ((q0 27), .inl (k19, 400, .inl (a1_ 3)))] H1 := hP.sub [0, 1, 2, 3, 4, 5, 6] rfl
      have hD : va_D A [(h0, .inr (13, mX13 q0 v0)), ((q0 25), .inl (k17, 400, .inl (a1_ 0))), ((q0 26), .inl (k18, 400, .inl (a1_ 1))), ((q0 7), .inl (k6, 120, .inl f6)), ((q0 5), .inl (k4, 122880, .inl f4)), ((q0 28), .inl (k20, 400, .inl (a1_ 2))), ((q0 27), .inl (k19, 400, .inl (a1_ 3)))] := hD.sub [0, 1, 2, 3, 4, 5, 6] (by decide) rfl
      generalize H1 = H at hP hS ⊢
      clear hz1
      have b_ : -2147483648 ≤ (u8_ 0).toInt ∧ (u8_ 0).toInt ≤ 2147483647 := ⟨zlo _, zhi _⟩
      have b_ : -2147483648 ≤ r23_.toInt ∧ r23_.toInt ≤ 2147483647 := ⟨zlo _, zhi _⟩
      refine lv_iadd hx hb dX13_taken_26 ?_
      refine lv_topi (fun z26 e_z26 => ?_)
      refine lv_istore_n (lv' := [(1, .int z26), (0, .ref h0), (2, .int (u8_ 1))]) hx hb dX13_taken_27 rfl hl (by decide) rfl (fun ls hl => ?_)
      obtain ⟨z28, e_z28⟩ : ∃ z : Int32, z = (u8_ 1) + Int32.ofInt 1 := ⟨_, rfl⟩
      have b_ := zadd (x := (u8_ 1)) (y := Int32.ofInt 1) rfl (show (Int32.ofInt 1).toInt = 1 from by decide) e_z28 (by omega) (by omega)
      refine lv_iinc (v := z28) (lv' := [(2, .int z28), (1, .int z26), (0, .ref h0)]) hx hb dX13_taken_28 hl (k := 2) rfl e_z28.symm (by decide) rfl (fun ls hl => ?_)
      refine lv_goto (tgt := 8) hx hb dX13_taken_31 (by decide) ?_
      have b_ : -2147483648 ≤ z26.toInt ∧ z26.toInt ≤ 2147483647 := ⟨zlo _, zhi _⟩
      have hc : va_P (dC, dI) vwCl [(h0, .inr (13, mX13 q0 v0)), ((q0 25), .inl (k17, 400, .inl (a1_ 0))), ((q0 26), .inl (k18, 400, .inl (a1_ 1))), ((q0 7), .inl (k6, 120, .inl f6)), ((q0 5), .inl (k4, 122880, .inl f4)), ((q0 28), .inl (k20, 400, .inl (a1_ 2))), ((q0 27), .inl (k19, 400, .inl (a1_ 3)))] H ∧ va_D A [(h0, .inr (13, mX13 q0 v0)), ((q0 25), .inl (k17, 400, .inl (a1_ 0))), ((q0 26), .inl (k18, 400, .inl (a1_ 1))), ((q0 7), .inl (k6, 120, .inl f6)), ((q0 5), .inl (k4, 122880, .inl f4)), ((q0 28), .inl (k20, 400, .inl (a1_ 2))), ((q0 27), .inl (k19, 400, .inl (a1_ 3)))] ∧ va_S A s.heap H locs ∧ lv_has ls 3 [(0, .ref h0), (1, .int z26), (2, .int z28)] ∧ (0 ≤ z28.toInt ∧ z28.toInt ≤ 400) := ⟨hP, hD, hS, lv_sub hl [2, 1, 0] rfl, ⟨by omega, by omega⟩⟩
      exact hJ8 H locs ls (fun i => ([z26, z28] : List (Int32)).getD i 0) (fun _ => 0) (fun _ => (fun _ => 0)) (fun _ => (fun _ => 0)) hc (show (400 - z28.toInt).toNat < (400 - (u8_ 1).toInt).toNat from by omega)
  · skip
    have hc : va_P (dC, dI) vwCl [(h0, .inr (13, mX13 q0 v0)), ((q0 25), .inl (k17, 400, .inl (a1_ 0))), ((q0 26), .inl (k18, 400, .inl (a1_ 1))), ((q0 7), .inl (k6, 120, .inl f6)), ((q0 5), .inl (k4, 122880, .inl f4)), ((q0 28), .inl (k20, 400, .inl (a1_ 2))), ((q0 27), .inl (k19, 400, .inl (a1_ 3)))] H ∧ va_D A [(h0, .inr (13, mX13 q0 v0)), ((q0 25), .inl (k17, 400, .inl (a1_ 0))), ((q0 26), .inl (k18, 400, .inl (a1_ 1))), ((q0 7), .inl (k6, 120, .inl f6)), ((q0 5), .inl (k4, 122880, .inl f4)), ((q0 28), .inl (k20, 400, .inl (a1_ 2))), ((q0 27), .inl (k19, 400, .inl (a1_ 3)))] ∧ va_S A s.heap H locs ∧ lv_has ls 3 [(0, .ref h0), (1, .int 0), (2, .int 0)] ∧ (0 ≤ (0 : Int32).toInt ∧ (0 : Int32).toInt ≤ 400) := ⟨hP, hD, hS, lv_sub hl [2, 1, 0] rfl, ⟨by omega, by omega⟩⟩
    exact hJ8 H locs ls (fun i => ([0, 0] : List (Int32)).getD i 0) (fun _ => 0) (fun _ => (fun _ => 0)) (fun _ => (fun _ => 0)) hc
set_option maxHeartbeats 8000000 in
set_option maxRecDepth 100000 in
theorem sX13_tally_0 (l : Launch) (dC : Nat → ClassId) (dI : Nat → Nat → Nat) (adK adV : Nat → Nat) (h0 : Nat) (q0 : Nat → Nat) (h50 : Nat) (k50 : ClassId) (k10 : ClassId) (k4 : ClassId) (k11 : ClassId) (sz : Nat) (v0 : Nat → Int32) (f50 : Nat → Int32) (f10 : Nat → Int32) (f4 : Nat → Int32) (f11 : Nat → Int32) (x1 : Int32) (hv0 : zR rg_Model v0) (hf10 : zA 0 512 f10) (hf4 : zA 0 400 f4) (hf11 : zA 0 512 f11) (hx1 : 0 ≤ x1.toInt ∧ x1.toInt ≤ 119) : Met l yX13_tally (zw yX13_tally cX13_tally 4 none) { frames := 0, cells := 0, slots := 0, locals := 0 } (zPc dC dI adK adV [.ref h0, .int x1, .ref h50] sz [(h0, .inr (13, mX13 q0 v0)), (h50, .inl (k50, 400, .inl f50)), ((q0 11), .inl (k10, 120, .inl f10)), ((q0 5), .inl (k4, 122880, .inl f4)), ((q0 12), .inl (k11, 120, .inl f11))] [(k50, .int), (k10, .int), (k4, .short), (k11, .int)]) (va_Qv (fun (u : Nat → Int32) => True) (fun (u : Nat → Int32) (t : State) => ∃ (ww : Nat → Int64) (aa : Nat → Nat → Int32) (bb : Nat → Nat → Int64), va_P (dC, dI) vwCl [(h0, .inr (13, mX13 q0 v0)), (h50, .inl (k50, 400, .inl (aa 0))), ((q0 11), .inl (k10, 120, .inl f10)), ((q0 5), .inl (k4, 122880, .inl f4)), ((q0 12), .inl (k11, 120, .inl f11))] t.heap ∧ va_K (dC, dI) vwCl [(k50, .int), (k10, .int), (k4, .short), (k11, .int)] t ∧ va_D (va_A [(h0, .inr (13, mX13 q0 v0)), (h50, .inl (k50, 400, .inl f50)), ((q0 11), .inl (k10, 120, .inl f10)), ((q0 5), .inl (k4, 122880, .inl f4)), ((q0 12), .inl (k11, 120, .inl f11))] sz) [(h0, .inr (13, mX13 q0 v0)), (h50, .inl (k50, 400, .inl (aa 0))), ((q0 11), .inl (k10, 120, .inl f10)), ((q0 5), .inl (k4, 122880, .inl f4)), ((q0 12), .inl (k11, 120, .inl f11))]) (va_A [(h0, .inr (13, mX13 q0 v0)), (h50, .inl (k50, 400, .inl f50)), ((q0 11), .inl (k10, 120, .inl f10)), ((q0 5), .inl (k4, 122880, .inl f4)), ((q0 12), .inl (k11, 120, .inl f11))] sz)) 0 0 (va_A [(h0, .inr (13, mX13 q0 v0)), (h50, .inl (k50, 400, .inl f50)), ((q0 11), .inl (k10, 120, .inl f10)), ((q0 5), .inl (k4, 122880, .inl f4)), ((q0 12), .inl (k11, 120, .inl f11))] sz) := by
  refine Met.ofW (cc := cX13_tally) (maxL := 4) (ret := none) (by decide) rfl ?_
  intro p e s m args below meth c s₁ B hml hv
  obtain ⟨rfl, hsz, hP, hK, hD0, hE, hZ⟩ := hv
  have hx := B.exec
  have hb := B.bytes
  have hr := B.returns
  have hG : ∀ w ∈ zG, w.before _ s = true := fun w h => atoms_spec (ws := (zw yX13_tally cX13_tally 4 none)) B.pre w (List.mem_cons_of_mem _ h)
  have hown : s.vm.findClass RX13 = some m.cls := findClass_of_methodNamed B.named
  have hlocks := B.notSynchronized
  subst hsz
  have hD := hD0.self (sz := s.heap.size)
  generalize hAe : va_A [(h0, .inr (13, mX13 q0 v0)), (h50, .inl (k50, 400, .inl f50)), ((q0 11), .inl (k10, 120, .inl f10)), ((q0 5), .inl (k4, 122880, .inl f4)), ((q0 12), .inl (k11, 120, .inl f11))] s.heap.size = A at hD hZ ⊢
  have hA : ∀ q : Nat, s.heap.size ≤ q → A q := fun q h => by rw [← hAe]; exact Or.inr h
  have hS : va_S A s.heap s.heap [] := va_S.rf
  have hl := lv_entry ([.ref h0, .int x1, .ref h50]) (n := 4) (Nat.le_of_ble_eq_true rfl)
  rw [lg_entry_eq]
  generalize (lg_sl ([.ref h0, .int x1, .ref h50]) ++ List.replicate (4 - (lg_sl ([.ref h0, .int x1, .ref h50])).length) Slot.unset).toArray = ls at hl ⊢
  have hl : lv_has ls 4 [(0, .ref h0), (1, .int x1), (2, .ref h50)] := hl
  have b_ := zk_0
  have b_ := zk_512
  refine lv_iconst (v := 0) hx hb dX13_tally_0 (by decide) ?_
  refine lv_istore_n (lv' := [(3, .int 0), (0, .ref h0), (1, .int x1), (2, .ref h50)]) hx hb dX13_tally_1 rfl hl (by decide) rfl (fun ls hl => ?_)
  refine zcutL (fun u2_ => (400 - (u2_ 0).toInt).toNat) (fun H locs ls u2_ w2_ a2_ b2_ => va_P (dC, dI) vwCl [(h0, .inr (13, mX13 q0 v0)), (h50, .inl (k50, 400, .inl (a2_ 0))), ((q0 11), .inl (k10, 120, .inl f10)), ((q0 5), .inl (k4, 122880, .inl f4)), ((q0 12), .inl (k11, 120, .inl f11))] H ∧ va_D A [(h0, .inr (13, mX13 q0 v0)), (h50, .inl (k50, 400, .inl (a2_ 0))), ((q0 11), .inl (k10, 120, .inl f10)), ((q0 5), .inl (k4, 122880, .inl f4)), ((q0 12), .inl (k11, 120, .inl f11))] ∧ va_S A s.heap H locs ∧ lv_has ls 4 [(0, .ref h0), (1, .int x1), (2, .ref h50), (3, .int (u2_ 0))] ∧ (0 ≤ (u2_ 0).toInt ∧ (u2_ 0).toInt ≤ 400)) (fun ls u2_ w2_ => F0 m 2 ls []) 0 0 ?_ (fun hJ2 => ?_)
  · skip
    intro H locs ls u2_ w2_ a2_ b2_ hc hJ2
    obtain ⟨hP, hD, hS, hl, b_⟩ := hc
    refine lv_iload_n hx hb dX13_tally_2 rfl (lv_at hl 3 rfl) ?_
    refine lv_aload_n hx hb dX13_tally_3 rfl (lv_at hl 0 rfl) ?_
    have b_ : 0 ≤ (v0 4).toInt ∧ (v0 4).toInt ≤ 400 := hv0 4
    refine va_get (D := (dC, dI)) (ci := 13) (v := .int (v0 4)) (C := RX13) (T := TX13) (N := 75) hx hb hG zuX13 hown hK hP 0 rfl rfl 4 (by decide) (hG _ zw551) (fun _ h9 => h9) rfl dX13_tally_4 ?_
    refine lv_icmp_ge (tgt := 20) hx hb dX13_tally_7 (by decide) (fun c_ => ?_) (fun c_ => ?_)
    · skip
      have b_ := zT_ge rfl rfl c_
      refine lv_iconst (v := 0) hx hb dX13_tally_20 (by decide) ?_
      refine lv_istore_n (lv' := [(3, .int 0), (0, .ref h0), (1, .int x1), (2, .ref h50)]) hx hb dX13_tally_21 rfl hl (by decide) rfl (fun ls hl => ?_)
      refine zcutL (fun u22_ => (512 - (u22_ 0).toInt).toNat) (fun H locs ls u22_ w22_ a22_ b22_ => va_P (dC, dI) vwCl [(h0, .inr (13, mX13 q0 v0)), (h50, .inl (k50, 400, .inl (a22_ 0))), ((q0 11), .inl (k10, 120, .inl f10)), ((q0 5), .inl (k4, 122880, .inl f4)), ((q0 12), .inl (k11, 120, .inl f11))] H ∧ va_D A [(h0, .inr (13, mX13 q0 v0)), (h50, .inl (k50, 400, .inl (a22_ 0))), ((q0 11), .inl (k10, 120, .inl f10)), ((q0 5), .inl (k4, 122880, .inl f4)), ((q0 12), .inl (k11, 120, .inl f11))] ∧ va_S A s.heap H locs ∧ lv_has ls 4 [(0, .ref h0), (1, .int x1), (2, .ref h50), (3, .int (u22_ 0))] ∧ (0 ≤ (u22_ 0).toInt ∧ (u22_ 0).toInt ≤ 512)) (fun ls u22_ w22_ => F0 m 22 ls []) 0 0 ?_ (fun hJ22 => ?_)
      · skip
        intro H locs ls u22_ w22_ a22_ b22_ hc hJ22
        obtain ⟨hP, hD, hS, hl, b_⟩ := hc
        refine lv_iload_n hx hb dX13_tally_22 rfl (lv_at hl 3 rfl) ?_
        refine lv_aload_n hx hb dX13_tally_23 rfl (lv_at hl 0 rfl) ?_
        refine va_get (D := (dC, dI)) (ci := 13) (v := .ref (q0 11)) (C := RX13) (T := TX13) (N := 75) hx hb hG zuX13 hown hK hP 0 rfl rfl 11 (by decide) (hG _ zw566) (fun _ h9 => h9) rfl dX13_tally_24 ?_
        refine lv_iload_n hx hb dX13_tally_27 rfl (lv_at hl 1 rfl) ?_
        refine va_iald hx hb hK hP 2 1 rfl rfl (zin_lit ⟨by omega, by omega⟩) dX13_tally_28 ?_
        refine lv_topi (fun z28 e_z28 => ?_)
        have b_ : 0 ≤ z28.toInt ∧ z28.toInt ≤ 512 := by rw [e_z28]; exact hf10 _
        refine lv_icmp_ge (tgt := 73) hx hb dX13_tally_29 (by decide) (fun c_ => ?_) (fun c_ => ?_)
        · skip
          have b_ := zT_ge rfl rfl c_
          refine lv_sipush (v := 512) hx hb dX13_tally_73 (by decide) ?_
          refine lv_istore_n (lv' := [(3, .int 512), (0, .ref h0), (1, .int x1), (2, .ref h50)]) hx hb dX13_tally_76 rfl hl (by decide) rfl (fun ls hl => ?_)
          refine zcutL (fun u77_ => (1024 - (u77_ 0).toInt).toNat) (fun H locs ls u77_ w77_ a77_ b77_ => va_P (dC, dI) vwCl [(h0, .inr (13, mX13 q0 v0)), (h50, .inl (k50, 400, .inl (a77_ 0))), ((q0 11), .inl (k10, 120, .inl f10)), ((q0 5), .inl (k4, 122880, .inl f4)), ((q0 12), .inl (k11, 120, .inl f11))] H ∧ va_D A [(h0, .inr (13, mX13 q0 v0)), (h50, .inl (k50, 400, .inl (a77_ 0))), ((q0 11), .inl (k10, 120, .inl f10)), ((q0 5), .inl (k4, 122880, .inl f4)), ((q0 12), .inl (k11, 120, .inl f11))] ∧ va_S A s.heap H locs ∧ lv_has ls 4 [(0, .ref h0), (1, .int x1), (2, .ref h50), (3, .int (u77_ 0))] ∧ (512 ≤ (u77_ 0).toInt ∧ (u77_ 0).toInt ≤ 1024)) (fun ls u77_ w77_ => F0 m 77 ls []) 0 0 ?_ (fun hJ77 => ?_)
          · skip
            intro H locs ls u77_ w77_ a77_ b77_ hc hJ77
            obtain ⟨hP, hD, hS, hl, b_⟩ := hc
            refine lv_iload_n hx hb dX13_tally_77 rfl (lv_at hl 3 rfl) ?_
            refine lv_sipush (v := 512) hx hb dX13_tally_78 (by decide) ?_
            refine lv_aload_n hx hb dX13_tally_81 rfl (lv_at hl 0 rfl) ?_
            refine va_get (D := (dC, dI)) (ci := 13) (v := .ref (q0 12)) (C := RX13) (T := TX13) (N := 75) hx hb hG zuX13 hown hK hP 0 rfl rfl 12 (by decide) (hG _ zw570) (fun _ h9 => h9) rfl dX13_tally_82 ?_
            refine lv_iload_n hx hb dX13_tally_85 rfl (lv_at hl 1 rfl) ?_
            refine va_iald hx hb hK hP 4 3 rfl rfl (zin_lit ⟨by omega, by omega⟩) dX13_tally_86 ?_
            refine lv_topi (fun z86 e_z86 => ?_)
            have b_ : 0 ≤ z86.toInt ∧ z86.toInt ≤ 512 := by rw [e_z86]; exact hf11 _
            refine lv_iadd hx hb dX13_tally_87 ?_
            refine lv_topi (fun z87 e_z87 => ?_)
            have b_ := zadd zk_512 rfl e_z87 (by omega) (by omega)
            refine lv_icmp_ge (tgt := 132) hx hb dX13_tally_88 (by decide) (fun c_ => ?_) (fun c_ => ?_)
            · skip
              have b_ := zT_ge rfl rfl c_
              refine W.widen (k := 0) (n := 0) (by decide) (by decide) ?_
              have hpost : True := trivial
              have hP9 : va_P (dC, dI) vwCl [(h0, .inr (13, mX13 q0 v0)), (h50, .inl (k50, 400, .inl (a77_ 0))), ((q0 11), .inl (k10, 120, .inl f10)), ((q0 5), .inl (k4, 122880, .inl f4)), ((q0 12), .inl (k11, 120, .inl f11))] H := hP
              have hD9 : va_D A [(h0, .inr (13, mX13 q0 v0)), (h50, .inl (k50, 400, .inl (a77_ 0))), ((q0 11), .inl (k10, 120, .inl f10)), ((q0 5), .inl (k4, 122880, .inl f4)), ((q0 12), .inl (k11, 120, .inl f11))] := hD
              exact W.vret hx hb hr (fun t ht hW => ⟨⟨(fun _ => 0), rfl, hpost, (fun _ => 0), (fun i => ([(a77_ 0)] : List (Nat → Int32)).getD i (fun _ => 0)), (fun _ => (fun _ => 0)), by rw [ht]; exact hP9, va_K.moved hW.alike hK, hD9⟩, hS.F ht⟩) hS.2.2 dX13_tally_132
            · skip
              have b_ := zF_ge rfl rfl c_
              refine lv_aload_n hx hb dX13_tally_91 rfl (lv_at hl 0 rfl) ?_
              refine va_get (D := (dC, dI)) (ci := 13) (v := .ref (q0 5)) (C := RX13) (T := TX13) (N := 75) hx hb hG zuX13 hown hK hP 0 rfl rfl 5 (by decide) (hG _ zw567) (fun _ h9 => h9) rfl dX13_tally_92 ?_
              refine lv_sipush (v := 1024) hx hb dX13_tally_95 (by decide) ?_
              refine lv_iload_n hx hb dX13_tally_98 rfl (lv_at hl 1 rfl) ?_
              refine lv_imul hx hb dX13_tally_99 ?_
              refine lv_topi (fun z99 e_z99 => ?_)
              have b_ := zmul zk_1024 rfl e_z99 (by omega) (by omega)
              refine lv_iload_n hx hb dX13_tally_100 rfl (lv_at hl 3 rfl) ?_
              refine lv_iadd hx hb dX13_tally_101 ?_
              refine lv_topi (fun z101 e_z101 => ?_)
              have b_ := zadd rfl rfl e_z101 (by omega) (by omega)
              refine va_sald hx hb hK hP 3 2 rfl rfl (zin_lit ⟨by omega, by omega⟩) dX13_tally_102 ?_
              refine lv_topi (fun z102 e_z102 => ?_)
              have b_ : 0 ≤ z102.toInt ∧ z102.toInt ≤ 400 := by rw [e_z102]; exact hf4 _
              refine lv_if_le (tgt := 126) hx hb dX13_tally_103 (by decide) (fun c_ => ?_) (fun c_ => ?_)
              · skip
                have b_ := zT_le rfl zk_0 c_
                obtain ⟨z126, e_z126⟩ : ∃ z : Int32, z = (u77_ 0) + Int32.ofInt 1 := ⟨_, rfl⟩
                have b_ := zadd (x := (u77_ 0)) (y := Int32.ofInt 1) rfl (show (Int32.ofInt 1).toInt = 1 from by decide) e_z126 (by omega) (by omega)
                refine lv_iinc (v := z126) (lv' := [(3, .int z126), (0, .ref h0), (1, .int x1), (2, .ref h50)]) hx hb dX13_tally_126 hl (k := 3) rfl e_z126.symm (by decide) rfl (fun ls hl => ?_)
                refine lv_goto (tgt := 77) hx hb dX13_tally_129 (by decide) ?_
                have hc : va_P (dC, dI) vwCl [(h0, .inr (13, mX13 q0 v0)), (h50, .inl (k50, 400, .inl (a77_ 0))), ((q0 11), .inl (k10, 120, .inl f10)), ((q0 5), .inl (k4, 122880, .inl f4)), ((q0 12), .inl (k11, 120, .inl f11))] H ∧ va_D A [(h0, .inr (13, mX13 q0 v0)), (h50, .inl (k50, 400, .inl (a77_ 0))), ((q0 11), .inl (k10, 120, .inl f10)), ((q0 5), .inl (k4, 122880, .inl f4)), ((q0 12), .inl (k11, 120, .inl f11))] ∧ va_S A s.heap H locs ∧ lv_has ls 4 [(0, .ref h0), (1, .int x1), (2, .ref h50), (3, .int z126)] ∧ (512 ≤ z126.toInt ∧ z126.toInt ≤ 1024) := ⟨hP, hD, hS, lv_sub hl [1, 2, 3, 0] rfl, ⟨by omega, by omega⟩⟩
                exact hJ77 H locs ls (fun i => ([z126] : List (Int32)).getD i 0) (fun _ => 0) (fun i => ([(a77_ 0)] : List (Nat → Int32)).getD i (fun _ => 0)) (fun _ => (fun _ => 0)) hc (show (1024 - z126.toInt).toNat < (1024 - (u77_ 0).toInt).toNat from by omega)
              · skip
                have b_ := zF_le rfl zk_0 c_
                refine lv_aload_n hx hb dX13_tally_106 rfl (lv_at hl 2 rfl) ?_
                refine lv_aload_n hx hb dX13_tally_107 rfl (lv_at hl 0 rfl) ?_
                refine va_get (D := (dC, dI)) (ci := 13) (v := .ref (q0 5)) (C := RX13) (T := TX13) (N := 75) hx hb hG zuX13 hown hK hP 0 rfl rfl 5 (by decide) (hG _ zw567) (fun _ h9 => h9) rfl dX13_tally_108 ?_
                refine lv_sipush (v := 1024) hx hb dX13_tally_111 (by decide) ?_
                refine lv_iload_n hx hb dX13_tally_114 rfl (lv_at hl 1 rfl) ?_
                refine lv_imul hx hb dX13_tally_115 ?_
                refine lv_topi (fun z115 e_z115 => ?_)
                have b_ := zmul zk_1024 rfl e_z115 (by omega) (by omega)
                refine lv_iload_n hx hb dX13_tally_116 rfl (lv_at hl 3 rfl) ?_
                refine lv_iadd hx hb dX13_tally_117 ?_
                refine lv_topi (fun z117 e_z117 => ?_)
                have b_ := zadd rfl rfl e_z117 (by omega) (by omega)
                refine va_sald hx hb hK hP 3 2 rfl rfl (zin_lit ⟨by omega, by omega⟩) dX13_tally_118 ?_
                refine lv_topi (fun z118 e_z118 => ?_)
                have b_ : 0 ≤ z118.toInt ∧ z118.toInt ≤ 400 := by rw [e_z118]; exact hf4 _
                have b_ : z118.toInt = z102.toInt := by rw [e_z118, e_z102, show z117 = z101 from zeqi.mpr (by omega)]
                refine lv_iconst (v := 1) hx hb dX13_tally_119 (by decide) ?_
                refine lv_isub hx hb dX13_tally_120 ?_
                refine lv_topi (fun z120 e_z120 => ?_)
                have b_ := zsub rfl zk_1 e_z120 (by omega) (by omega)
                refine lv_dup2_11 hx hb dX13_tally_121 rfl rfl ?_
                refine va_iald hx hb hK hP 1 0 rfl rfl (zin_lit ⟨by omega, by omega⟩) dX13_tally_122 ?_
                refine lv_topi (fun z122 e_z122 => ?_)
                refine lv_iconst (v := 1) hx hb dX13_tally_123 (by decide) ?_
                have b_ : -2147483648 ≤ z122.toInt ∧ z122.toInt ≤ 2147483647 := ⟨zlo _, zhi _⟩
                refine lv_iadd hx hb dX13_tally_124 ?_
                refine lv_topi (fun z124 e_z124 => ?_)
                refine va_iast hx hb hK hP hD hS 1 0 rfl rfl (zin_lit ⟨by omega, by omega⟩) dX13_tally_125 (fun H locs hP hD hS => ?_)
                obtain ⟨f_125, e_f_125⟩ : ∃ z : Nat → Int32, z = upd (a77_ 0) (z120 : Int32).toNatClampNeg z124 := ⟨_, rfl⟩
                have hP : va_P (dC, dI) vwCl [(h0, .inr (13, mX13 q0 v0)), (h50, .inl (k50, 400, .inl f_125)), ((q0 11), .inl (k10, 120, .inl f10)), ((q0 5), .inl (k4, 122880, .inl f4)), ((q0 12), .inl (k11, 120, .inl f11))] H := by rw [e_f_125]; exact hP
                have hD : va_D A [(h0, .inr (13, mX13 q0 v0)), (h50, .inl (k50, 400, .inl f_125)), ((q0 11), .inl (k10, 120, .inl f10)), ((q0 5), .inl (k4, 122880, .inl f4)), ((q0 12), .inl (k11, 120, .inl f11))] := by rw [e_f_125]; exact hD
                obtain ⟨z126, e_z126⟩ : ∃ z : Int32, z = (u77_ 0) + Int32.ofInt 1 := ⟨_, rfl⟩
                have b_ := zadd (x := (u77_ 0)) (y := Int32.ofInt 1) rfl (show (Int32.ofInt 1).toInt = 1 from by decide) e_z126 (by omega) (by omega)
                refine lv_iinc (v := z126) (lv' := [(3, .int z126), (0, .ref h0), (1, .int x1), (2, .ref h50)]) hx hb dX13_tally_126 hl (k := 3) rfl e_z126.symm (by decide) rfl (fun ls hl => ?_)
                refine lv_goto (tgt := 77) hx hb dX13_tally_129 (by decide) ?_
                have hc : va_P (dC, dI) vwCl [(h0, .inr (13, mX13 q0 v0)), (h50, .inl (k50, 400, .inl f_125)), ((q0 11), .inl (k10, 120, .inl f10)), ((q0 5), .inl (k4, 122880, .inl f4)), ((q0 12), .inl (k11, 120, .inl f11))] H ∧ va_D A [(h0, .inr (13, mX13 q0 v0)), (h50, .inl (k50, 400, .inl f_125)), ((q0 11), .inl (k10, 120, .inl f10)), ((q0 5), .inl (k4, 122880, .inl f4)), ((q0 12), .inl (k11, 120, .inl f11))] ∧ va_S A s.heap H locs ∧ lv_has ls 4 [(0, .ref h0), (1, .int x1), (2, .ref h50), (3, .int z126)] ∧ (512 ≤ z126.toInt ∧ z126.toInt ≤ 1024) := ⟨hP, hD, hS, lv_sub hl [1, 2, 3, 0] rfl, ⟨by omega, by omega⟩⟩
                exact hJ77 H locs ls (fun i => ([z126] : List (Int32)).getD i 0) (fun _ => 0) (fun i => ([f_125] : List (Nat → Int32)).getD i (fun _ => 0)) (fun _ => (fun _ => 0)) hc (show (1024 - z126.toInt).toNat < (1024 - (u77_ 0).toInt).toNat from by omega)
          · skip
            have hc : va_P (dC, dI) vwCl [(h0, .inr (13, mX13 q0 v0)), (h50, .inl (k50, 400, .inl (a22_ 0))), ((q0 11), .inl (k10, 120, .inl f10)), ((q0 5), .inl (k4, 122880, .inl f4)), ((q0 12), .inl (k11, 120, .inl f11))] H ∧ va_D A [(h0, .inr (13, mX13 q0 v0)), (h50, .inl (k50, 400, .inl (a22_ 0))), ((q0 11), .inl (k10, 120, .inl f10)), ((q0 5), .inl (k4, 122880, .inl f4)), ((q0 12), .inl (k11, 120, .inl f11))] ∧ va_S A s.heap H locs ∧ lv_has ls 4 [(0, .ref h0), (1, .int x1), (2, .ref h50), (3, .int 512)] ∧ (512 ≤ (512 : Int32).toInt ∧ (512 : Int32).toInt ≤ 1024) := ⟨hP, hD, hS, lv_sub hl [1, 2, 3, 0] rfl, ⟨by omega, by omega⟩⟩
            exact hJ77 H locs ls (fun i => ([512] : List (Int32)).getD i 0) (fun _ => 0) (fun i => ([(a22_ 0)] : List (Nat → Int32)).getD i (fun _ => 0)) (fun _ => (fun _ => 0)) hc
        · skip
          have b_ := zF_ge rfl rfl c_
          refine lv_aload_n hx hb dX13_tally_32 rfl (lv_at hl 0 rfl) ?_
          refine va_get (D := (dC, dI)) (ci := 13) (v := .ref (q0 5)) (C := RX13) (T := TX13) (N := 75) hx hb hG zuX13 hown hK hP 0 rfl rfl 5 (by decide) (hG _ zw567) (fun _ h9 => h9) rfl dX13_tally_33 ?_
          refine lv_sipush (v := 1024) hx hb dX13_tally_36 (by decide) ?_
          refine lv_iload_n hx hb dX13_tally_39 rfl (lv_at hl 1 rfl) ?_
          refine lv_imul hx hb dX13_tally_40 ?_
          refine lv_topi (fun z40 e_z40 => ?_)
          have b_ := zmul zk_1024 rfl e_z40 (by omega) (by omega)
          refine lv_iload_n hx hb dX13_tally_41 rfl (lv_at hl 3 rfl) ?_
          refine lv_iadd hx hb dX13_tally_42 ?_
          refine lv_topi (fun z42 e_z42 => ?_)
          have b_ := zadd rfl rfl e_z42 (by omega) (by omega)
          refine va_sald hx hb hK hP 3 2 rfl rfl (zin_lit ⟨by omega, by omega⟩) dX13_tally_43 ?_
          refine lv_topi (fun z43 e_z43 => ?_)
          have b_ : 0 ≤ z43.toInt ∧ z43.toInt ≤ 400 := by rw [e_z43]; exact hf4 _
          refine lv_if_le (tgt := 67) hx hb dX13_tally_44 (by decide) (fun c_ => ?_) (fun c_ => ?_)
          · skip
            have b_ := zT_le rfl zk_0 c_
            obtain ⟨z67, e_z67⟩ : ∃ z : Int32, z = (u22_ 0) + Int32.ofInt 1 := ⟨_, rfl⟩
            have b_ := zadd (x := (u22_ 0)) (y := Int32.ofInt 1) rfl (show (Int32.ofInt 1).toInt = 1 from by decide) e_z67 (by omega) (by omega)
            refine lv_iinc (v := z67) (lv' := [(3, .int z67), (0, .ref h0), (1, .int x1), (2, .ref h50)]) hx hb dX13_tally_67 hl (k := 3) rfl e_z67.symm (by decide) rfl (fun ls hl => ?_)
            refine lv_goto (tgt := 22) hx hb dX13_tally_70 (by decide) ?_
            have hc : va_P (dC, dI) vwCl [(h0, .inr (13, mX13 q0 v0)), (h50, .inl (k50, 400, .inl (a22_ 0))), ((q0 11), .inl (k10, 120, .inl f10)), ((q0 5), .inl (k4, 122880, .inl f4)), ((q0 12), .inl (k11, 120, .inl f11))] H ∧ va_D A [(h0, .inr (13, mX13 q0 v0)), (h50, .inl (k50, 400, .inl (a22_ 0))), ((q0 11), .inl (k10, 120, .inl f10)), ((q0 5), .inl (k4, 122880, .inl f4)), ((q0 12), .inl (k11, 120, .inl f11))] ∧ va_S A s.heap H locs ∧ lv_has ls 4 [(0, .ref h0), (1, .int x1), (2, .ref h50), (3, .int z67)] ∧ (0 ≤ z67.toInt ∧ z67.toInt ≤ 512) := ⟨hP, hD, hS, lv_sub hl [1, 2, 3, 0] rfl, ⟨by omega, by omega⟩⟩
            exact hJ22 H locs ls (fun i => ([z67] : List (Int32)).getD i 0) (fun _ => 0) (fun i => ([(a22_ 0)] : List (Nat → Int32)).getD i (fun _ => 0)) (fun _ => (fun _ => 0)) hc (show (512 - z67.toInt).toNat < (512 - (u22_ 0).toInt).toNat from by omega)
          · skip
            have b_ := zF_le rfl zk_0 c_
            refine lv_aload_n hx hb dX13_tally_47 rfl (lv_at hl 2 rfl) ?_
            refine lv_aload_n hx hb dX13_tally_48 rfl (lv_at hl 0 rfl) ?_
            refine va_get (D := (dC, dI)) (ci := 13) (v := .ref (q0 5)) (C := RX13) (T := TX13) (N := 75) hx hb hG zuX13 hown hK hP 0 rfl rfl 5 (by decide) (hG _ zw567) (fun _ h9 => h9) rfl dX13_tally_49 ?_
            refine lv_sipush (v := 1024) hx hb dX13_tally_52 (by decide) ?_
            refine lv_iload_n hx hb dX13_tally_55 rfl (lv_at hl 1 rfl) ?_
            refine lv_imul hx hb dX13_tally_56 ?_
            refine lv_topi (fun z56 e_z56 => ?_)
            have b_ := zmul zk_1024 rfl e_z56 (by omega) (by omega)
            refine lv_iload_n hx hb dX13_tally_57 rfl (lv_at hl 3 rfl) ?_
            refine lv_iadd hx hb dX13_tally_58 ?_
            refine lv_topi (fun z58 e_z58 => ?_)
            have b_ := zadd rfl rfl e_z58 (by omega) (by omega)
            refine va_sald hx hb hK hP 3 2 rfl rfl (zin_lit ⟨by omega, by omega⟩) dX13_tally_59 ?_
            refine lv_topi (fun z59 e_z59 => ?_)
            have b_ : 0 ≤ z59.toInt ∧ z59.toInt ≤ 400 := by rw [e_z59]; exact hf4 _
            have b_ : z59.toInt = z43.toInt := by rw [e_z59, e_z43, show z58 = z42 from zeqi.mpr (by omega)]
            refine lv_iconst (v := 1) hx hb dX13_tally_60 (by decide) ?_
            refine lv_isub hx hb dX13_tally_61 ?_
            refine lv_topi (fun z61 e_z61 => ?_)
            have b_ := zsub rfl zk_1 e_z61 (by omega) (by omega)
            refine lv_dup2_11 hx hb dX13_tally_62 rfl rfl ?_
            refine va_iald hx hb hK hP 1 0 rfl rfl (zin_lit ⟨by omega, by omega⟩) dX13_tally_63 ?_
            refine lv_topi (fun z63 e_z63 => ?_)
            refine lv_iconst (v := 1) hx hb dX13_tally_64 (by decide) ?_
            have b_ : -2147483648 ≤ z63.toInt ∧ z63.toInt ≤ 2147483647 := ⟨zlo _, zhi _⟩
            refine lv_iadd hx hb dX13_tally_65 ?_
            refine lv_topi (fun z65 e_z65 => ?_)
            refine va_iast hx hb hK hP hD hS 1 0 rfl rfl (zin_lit ⟨by omega, by omega⟩) dX13_tally_66 (fun H locs hP hD hS => ?_)
            obtain ⟨f_66, e_f_66⟩ : ∃ z : Nat → Int32, z = upd (a22_ 0) (z61 : Int32).toNatClampNeg z65 := ⟨_, rfl⟩
            have hP : va_P (dC, dI) vwCl [(h0, .inr (13, mX13 q0 v0)), (h50, .inl (k50, 400, .inl f_66)), ((q0 11), .inl (k10, 120, .inl f10)), ((q0 5), .inl (k4, 122880, .inl f4)), ((q0 12), .inl (k11, 120, .inl f11))] H := by rw [e_f_66]; exact hP
            have hD : va_D A [(h0, .inr (13, mX13 q0 v0)), (h50, .inl (k50, 400, .inl f_66)), ((q0 11), .inl (k10, 120, .inl f10)), ((q0 5), .inl (k4, 122880, .inl f4)), ((q0 12), .inl (k11, 120, .inl f11))] := by rw [e_f_66]; exact hD
            obtain ⟨z67, e_z67⟩ : ∃ z : Int32, z = (u22_ 0) + Int32.ofInt 1 := ⟨_, rfl⟩
            have b_ := zadd (x := (u22_ 0)) (y := Int32.ofInt 1) rfl (show (Int32.ofInt 1).toInt = 1 from by decide) e_z67 (by omega) (by omega)
            refine lv_iinc (v := z67) (lv' := [(3, .int z67), (0, .ref h0), (1, .int x1), (2, .ref h50)]) hx hb dX13_tally_67 hl (k := 3) rfl e_z67.symm (by decide) rfl (fun ls hl => ?_)
            refine lv_goto (tgt := 22) hx hb dX13_tally_70 (by decide) ?_
            have hc : va_P (dC, dI) vwCl [(h0, .inr (13, mX13 q0 v0)), (h50, .inl (k50, 400, .inl f_66)), ((q0 11), .inl (k10, 120, .inl f10)), ((q0 5), .inl (k4, 122880, .inl f4)), ((q0 12), .inl (k11, 120, .inl f11))] H ∧ va_D A [(h0, .inr (13, mX13 q0 v0)), (h50, .inl (k50, 400, .inl f_66)), ((q0 11), .inl (k10, 120, .inl f10)), ((q0 5), .inl (k4, 122880, .inl f4)), ((q0 12), .inl (k11, 120, .inl f11))] ∧ va_S A s.heap H locs ∧ lv_has ls 4 [(0, .ref h0), (1, .int x1), (2, .ref h50), (3, .int z67)] ∧ (0 ≤ z67.toInt ∧ z67.toInt ≤ 512) := ⟨hP, hD, hS, lv_sub hl [1, 2, 3, 0] rfl, ⟨by omega, by omega⟩⟩
            exact hJ22 H locs ls (fun i => ([z67] : List (Int32)).getD i 0) (fun _ => 0) (fun i => ([f_66] : List (Nat → Int32)).getD i (fun _ => 0)) (fun _ => (fun _ => 0)) hc (show (512 - z67.toInt).toNat < (512 - (u22_ 0).toInt).toNat from by omega)
      · skip
        have hc : va_P (dC, dI) vwCl [(h0, .inr (13, mX13 q0 v0)), (h50, .inl (k50, 400, .inl (a2_ 0))), ((q0 11), .inl (k10, 120, .inl f10)), ((q0 5), .inl (k4, 122880, .inl f4)), ((q0 12), .inl (k11, 120, .inl f11))] H ∧ va_D A [(h0, .inr (13, mX13 q0 v0)), (h50, .inl (k50, 400, .inl (a2_ 0))), ((q0 11), .inl (k10, 120, .inl f10)), ((q0 5), .inl (k4, 122880, .inl f4)), ((q0 12), .inl (k11, 120, .inl f11))] ∧ va_S A s.heap H locs ∧ lv_has ls 4 [(0, .ref h0), (1, .int x1), (2, .ref h50), (3, .int 0)] ∧ (0 ≤ (0 : Int32).toInt ∧ (0 : Int32).toInt ≤ 512) := ⟨hP, hD, hS, lv_sub hl [1, 2, 3, 0] rfl, ⟨by omega, by omega⟩⟩
        exact hJ22 H locs ls (fun i => ([0] : List (Int32)).getD i 0) (fun _ => 0) (fun i => ([(a2_ 0)] : List (Nat → Int32)).getD i (fun _ => 0)) (fun _ => (fun _ => 0)) hc
    · skip
      have b_ := zF_ge rfl rfl c_
      refine lv_aload_n hx hb dX13_tally_10 rfl (lv_at hl 2 rfl) ?_
      refine lv_iload_n hx hb dX13_tally_11 rfl (lv_at hl 3 rfl) ?_
      refine lv_iconst (v := 0) hx hb dX13_tally_12 (by decide) ?_
      refine va_iast hx hb hK hP hD hS 1 0 rfl rfl (zin_lit ⟨by omega, by omega⟩) dX13_tally_13 (fun H locs hP hD hS => ?_)
      obtain ⟨f_13, e_f_13⟩ : ∃ z : Nat → Int32, z = upd (a2_ 0) ((u2_ 0) : Int32).toNatClampNeg 0 := ⟨_, rfl⟩
      have hP : va_P (dC, dI) vwCl [(h0, .inr (13, mX13 q0 v0)), (h50, .inl (k50, 400, .inl f_13)), ((q0 11), .inl (k10, 120, .inl f10)), ((q0 5), .inl (k4, 122880, .inl f4)), ((q0 12), .inl (k11, 120, .inl f11))] H := by rw [e_f_13]; exact hP
      have hD : va_D A [(h0, .inr (13, mX13 q0 v0)), (h50, .inl (k50, 400, .inl f_13)), ((q0 11), .inl (k10, 120, .inl f10)), ((q0 5), .inl (k4, 122880, .inl f4)), ((q0 12), .inl (k11, 120, .inl f11))] := by rw [e_f_13]; exact hD
      obtain ⟨z14, e_z14⟩ : ∃ z : Int32, z = (u2_ 0) + Int32.ofInt 1 := ⟨_, rfl⟩
      have b_ := zadd (x := (u2_ 0)) (y := Int32.ofInt 1) rfl (show (Int32.ofInt 1).toInt = 1 from by decide) e_z14 (by omega) (by omega)
      refine lv_iinc (v := z14) (lv' := [(3, .int z14), (0, .ref h0), (1, .int x1), (2, .ref h50)]) hx hb dX13_tally_14 hl (k := 3) rfl e_z14.symm (by decide) rfl (fun ls hl => ?_)
      refine lv_goto (tgt := 2) hx hb dX13_tally_17 (by decide) ?_
      have hc : va_P (dC, dI) vwCl [(h0, .inr (13, mX13 q0 v0)), (h50, .inl (k50, 400, .inl f_13)), ((q0 11), .inl (k10, 120, .inl f10)), ((q0 5), .inl (k4, 122880, .inl f4)), ((q0 12), .inl (k11, 120, .inl f11))] H ∧ va_D A [(h0, .inr (13, mX13 q0 v0)), (h50, .inl (k50, 400, .inl f_13)), ((q0 11), .inl (k10, 120, .inl f10)), ((q0 5), .inl (k4, 122880, .inl f4)), ((q0 12), .inl (k11, 120, .inl f11))] ∧ va_S A s.heap H locs ∧ lv_has ls 4 [(0, .ref h0), (1, .int x1), (2, .ref h50), (3, .int z14)] ∧ (0 ≤ z14.toInt ∧ z14.toInt ≤ 400) := ⟨hP, hD, hS, lv_sub hl [1, 2, 3, 0] rfl, ⟨by omega, by omega⟩⟩
      exact hJ2 H locs ls (fun i => ([z14] : List (Int32)).getD i 0) (fun _ => 0) (fun i => ([f_13] : List (Nat → Int32)).getD i (fun _ => 0)) (fun _ => (fun _ => 0)) hc (show (400 - z14.toInt).toNat < (400 - (u2_ 0).toInt).toNat from by omega)
  · skip
    have hc : va_P (dC, dI) vwCl [(h0, .inr (13, mX13 q0 v0)), (h50, .inl (k50, 400, .inl f50)), ((q0 11), .inl (k10, 120, .inl f10)), ((q0 5), .inl (k4, 122880, .inl f4)), ((q0 12), .inl (k11, 120, .inl f11))] s.heap ∧ va_D A [(h0, .inr (13, mX13 q0 v0)), (h50, .inl (k50, 400, .inl f50)), ((q0 11), .inl (k10, 120, .inl f10)), ((q0 5), .inl (k4, 122880, .inl f4)), ((q0 12), .inl (k11, 120, .inl f11))] ∧ va_S A s.heap s.heap [] ∧ lv_has ls 4 [(0, .ref h0), (1, .int x1), (2, .ref h50), (3, .int 0)] ∧ (0 ≤ (0 : Int32).toInt ∧ (0 : Int32).toInt ≤ 400) := ⟨hP, hD, hS, lv_sub hl [1, 2, 3, 0] rfl, ⟨by omega, by omega⟩⟩
    exact hJ2 s.heap [] ls (fun i => ([0] : List (Int32)).getD i 0) (fun _ => 0) (fun i => ([f50] : List (Nat → Int32)).getD i (fun _ => 0)) (fun _ => (fun _ => 0)) hc
