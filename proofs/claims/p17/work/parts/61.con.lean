set_option maxHeartbeats 8000000 in
set_option maxRecDepth 100000 in
theorem sX13_endsBy_0 (l : Launch) (dC : Nat → ClassId) (dI : Nat → Nat → Nat) (adK adV : Nat → Nat) (h0 : Nat) (q0 : Nat → Nat) (k15 : ClassId) (sz : Nat) (v0 : Nat → Int32) (f15 : Nat → Int32) (x1 : Int32) (x2 : Int32) (x3 : Int32) (x4 : Int32) (hv0 : zR rg_Model v0) (hx4 : 4 ≤ x4.toInt ∧ x4.toInt ≤ 6) : Met l yX13_endsBy (zw yX13_endsBy cX13_endsBy 5 (some .boolean)) { frames := 0, cells := 0, slots := 0, locals := 0 } (zPc dC dI adK adV [.ref h0, .int x1, .int x2, .int x3, .int x4] sz [(h0, .inr (13, mX13 q0 v0)), ((q0 19), zi k15 12 f15)] [(k15, .byte)]) (va_Qi (fun (r : Int32) (u : Nat → Int32) => (0 ≤ r.toInt ∧ r.toInt ≤ 1) ∧ (r.toInt = 1 → x4.toInt ≤ (v0 20).toInt) ∧ (r.toInt = 1 → zMe f15 (v0 20).toInt x1.toInt x2.toInt x3.toInt x4.toInt) ∧ (r.toInt = 0 → ¬ zMe f15 (v0 20).toInt x1.toInt x2.toInt x3.toInt x4.toInt)) (fun (u : Nat → Int32) (t : State) => ∃ (ww : Nat → Int64) (aa : Nat → Nat → Int32) (bb : Nat → Nat → Int64), va_P (dC, dI) vwCl [(h0, .inr (13, mX13 q0 v0)), ((q0 19), zi k15 12 f15)] t.heap ∧ va_K (dC, dI) vwCl [(k15, .byte)] t ∧ va_D (va_A [(h0, .inr (13, mX13 q0 v0)), ((q0 19), zi k15 12 f15)] sz) [(h0, .inr (13, mX13 q0 v0)), ((q0 19), zi k15 12 f15)]) (va_A [(h0, .inr (13, mX13 q0 v0)), ((q0 19), zi k15 12 f15)] sz)) 0 0 (va_A [(h0, .inr (13, mX13 q0 v0)), ((q0 19), zi k15 12 f15)] sz) := by
  refine Met.ofW (cc := cX13_endsBy) (maxL := 5) (ret := (some .boolean)) (by decide) rfl ?_
  intro p e s m args below meth c s₁ B hml hv
  obtain ⟨rfl, hsz, hP, hK, hD0, hE, hZ⟩ := hv
  have hx := B.exec
  have hb := B.bytes
  have hr := B.returns
  have hG : ∀ w ∈ zG, w.before _ s = true := fun w h => atoms_spec (ws := (zw yX13_endsBy cX13_endsBy 5 (some .boolean))) B.pre w (List.mem_cons_of_mem _ h)
  have hown : s.vm.findClass RX13 = some m.cls := findClass_of_methodNamed B.named
  have hlocks := B.notSynchronized

  subst hsz
  have hD := hD0.self (sz := s.heap.size)
  generalize hAe : va_A [(h0, .inr (13, mX13 q0 v0)), ((q0 19), zi k15 12 f15)] s.heap.size = A at hD hZ ⊢
  have hA : ∀ q : Nat, s.heap.size ≤ q → A q := fun q h => by rw [← hAe]; exact Or.inr h
  have hS : va_S A s.heap s.heap [] := va_S.rf
  have hl := lv_entry ([.ref h0, .int x1, .int x2, .int x3, .int x4]) (n := 5) (Nat.le_of_ble_eq_true rfl)
  rw [lg_entry_eq]
  generalize (lg_sl ([.ref h0, .int x1, .int x2, .int x3, .int x4]) ++ List.replicate (5 - (lg_sl ([.ref h0, .int x1, .int x2, .int x3, .int x4])).length) Slot.unset).toArray = ls at hl ⊢
  have hl : lv_has ls 5 [(0, .ref h0), (1, .int x1), (2, .int x2), (3, .int x3), (4, .int x4)] := hl
  have b_ := zk_0
  have b_ := zk_1
  have b_ : 0 ≤ (v0 20).toInt ∧ (v0 20).toInt ≤ 12 := hv0 20
  refine lv_aload_n hx hb dX13_endsBy_0 rfl (lv_at hl 0 rfl) ?_
  refine va_get (D := (dC, dI)) (ci := 13) (v := .int (v0 20)) (C := RX13) (T := TX13) (N := 75) hx hb hG zuX13 hown hK hP 0 rfl rfl 20 (by decide) (hG _ zv1624) (fun _ h9 => h9) rfl dX13_endsBy_1 ?_
  refine lv_iload hx hb dX13_endsBy_4 (lv_at hl 4 rfl) ?_
  refine lv_icmp_ge (tgt := 11) hx hb dX13_endsBy_6 (by decide) (fun c_ => ?_) (fun c_ => ?_)
  · skip
    have b_ := zT_ge rfl rfl c_
    refine lv_aload_n hx hb dX13_endsBy_11 rfl (lv_at hl 0 rfl) ?_
    refine va_get (D := (dC, dI)) (ci := 13) (v := .ref (q0 19)) (C := RX13) (T := TX13) (N := 75) hx hb hG zuX13 hown hK hP 0 rfl rfl 19 (by decide) (hG _ zv1623) (fun _ h9 => h9) rfl dX13_endsBy_12 ?_
    refine lv_aload_n hx hb dX13_endsBy_15 rfl (lv_at hl 0 rfl) ?_
    refine va_get (D := (dC, dI)) (ci := 13) (v := .int (v0 20)) (C := RX13) (T := TX13) (N := 75) hx hb hG zuX13 hown hK hP 0 rfl rfl 20 (by decide) (hG _ zv1624) (fun _ h9 => h9) rfl dX13_endsBy_16 ?_
    refine lv_iconst (v := 1) hx hb dX13_endsBy_19 (by decide) ?_
    refine lv_isub hx hb dX13_endsBy_20 ?_
    refine lv_topi (fun z20 e_z20 => ?_)
    have b_ := zsub rfl zk_1 e_z20 (by omega) (by omega)
    refine va_bald hx hb hK hP 1 0 rfl rfl (zin_lit ⟨by omega, by omega⟩) dX13_endsBy_21 ?_
    refine lv_topi (fun z21 e_z21 => ?_)
    refine lv_iload_n hx hb dX13_endsBy_22 rfl (lv_at hl 3 rfl) ?_
    have b_ : -2147483648 ≤ z21.toInt ∧ z21.toInt ≤ 2147483647 := ⟨zlo _, zhi _⟩
    have b_ : -2147483648 ≤ x3.toInt ∧ x3.toInt ≤ 2147483647 := ⟨zlo _, zhi _⟩
    refine lv_icmp_ne (tgt := 68) hx hb dX13_endsBy_23 (by decide) (fun c_ => ?_) (fun c_ => ?_)
    · skip
      have b_ := zT_ne rfl rfl c_
      refine lv_iconst (v := 0) hx hb dX13_endsBy_68 (by decide) ?_
      refine W.widen (k := 0) (n := 0) (by decide) (by decide) ?_
      have hpost : (0 ≤ (0 : Int32).toInt ∧ (0 : Int32).toInt ≤ 1) ∧ ((0 : Int32).toInt = 1 → x4.toInt ≤ (v0 20).toInt) ∧ ((0 : Int32).toInt = 1 → zMe f15 (v0 20).toInt x1.toInt x2.toInt x3.toInt x4.toInt) ∧ ((0 : Int32).toInt = 0 → ¬ zMe f15 (v0 20).toInt x1.toInt x2.toInt x3.toInt x4.toInt) := ⟨(by first | with_reducible assumption | exact ⟨by omega, by omega⟩), by omega, by first | (intro q; exact absurd q (by decide)) | (intro _; exact ⟨by omega, zgt e_z21 (by omega) (by omega), by first | exact Or.inl (by omega) | exact Or.inr (zgt e_z40 (by omega) (by omega)), by first | exact Or.inl (by omega) | exact Or.inr (zgt e_z59 (by omega) (by omega))⟩), by first | (intro q; exact absurd q (by decide)) | exact fun _ => zMe_n0 (by omega) | exact fun _ => zMe_n1 e_z21 (by omega) (by omega) | exact fun _ => zMe_n2 e_z40 (by omega) (by omega) (by omega) | exact fun _ => zMe_n3 e_z59 (by omega) (by omega) (by omega)⟩
      have hP9 : va_P (dC, dI) vwCl [(h0, .inr (13, mX13 q0 v0)), ((q0 19), zi k15 12 f15)] s.heap := hP
      have hD9 : va_D A [(h0, .inr (13, mX13 q0 v0)), ((q0 19), zi k15 12 f15)] := hD
      exact W.zret (v := 0) hx hb hr rfl (fun t ht hW => ⟨⟨0, (fun _ => 0), rfl, hpost, (fun _ => 0), (fun _ => (fun _ => 0)), (fun _ => (fun _ => 0)), by rw [ht]; exact hP9, va_K.moved hW.alike hK, hD9⟩, hS.F ht⟩) hS.2.2 dX13_endsBy_69
    · skip
      have b_ := zF_ne rfl rfl c_
      refine lv_iload_n hx hb dX13_endsBy_26 rfl (lv_at hl 2 rfl) ?_
      have b_ : -2147483648 ≤ x2.toInt ∧ x2.toInt ≤ 2147483647 := ⟨zlo _, zhi _⟩
      refine lv_if_eq (tgt := 45) hx hb dX13_endsBy_27 (by decide) (fun c_ => ?_) (fun c_ => ?_)
      · skip
        have b_ := zT_eq rfl zk_0 c_
        refine lv_iload_n hx hb dX13_endsBy_45 rfl (lv_at hl 1 rfl) ?_
        have b_ : -2147483648 ≤ x1.toInt ∧ x1.toInt ≤ 2147483647 := ⟨zlo _, zhi _⟩
        refine lv_if_eq (tgt := 64) hx hb dX13_endsBy_46 (by decide) (fun c_ => ?_) (fun c_ => ?_)
        · skip
          have b_ := zT_eq rfl zk_0 c_
          refine lv_iconst (v := 1) hx hb dX13_endsBy_64 (by decide) ?_
          refine lv_goto (tgt := 69) hx hb dX13_endsBy_65 (by decide) ?_
          refine W.widen (k := 0) (n := 0) (by decide) (by decide) ?_
          have hpost : (0 ≤ (1 : Int32).toInt ∧ (1 : Int32).toInt ≤ 1) ∧ ((1 : Int32).toInt = 1 → x4.toInt ≤ (v0 20).toInt) ∧ ((1 : Int32).toInt = 1 → zMe f15 (v0 20).toInt x1.toInt x2.toInt x3.toInt x4.toInt) ∧ ((1 : Int32).toInt = 0 → ¬ zMe f15 (v0 20).toInt x1.toInt x2.toInt x3.toInt x4.toInt) := ⟨(by first | with_reducible assumption | exact ⟨by omega, by omega⟩), by omega, by first | (intro q; exact absurd q (by decide)) | (intro _; exact ⟨by omega, zgt e_z21 (by omega) (by omega), by first | exact Or.inl (by omega) | exact Or.inr (zgt e_z40 (by omega) (by omega)), by first | exact Or.inl (by omega) | exact Or.inr (zgt e_z59 (by omega) (by omega))⟩), by first | (intro q; exact absurd q (by decide)) | exact fun _ => zMe_n0 (by omega) | exact fun _ => zMe_n1 e_z21 (by omega) (by omega) | exact fun _ => zMe_n2 e_z40 (by omega) (by omega) (by omega) | exact fun _ => zMe_n3 e_z59 (by omega) (by omega) (by omega)⟩
          have hP9 : va_P (dC, dI) vwCl [(h0, .inr (13, mX13 q0 v0)), ((q0 19), zi k15 12 f15)] s.heap := hP
          have hD9 : va_D A [(h0, .inr (13, mX13 q0 v0)), ((q0 19), zi k15 12 f15)] := hD
          exact W.zret (v := 1) hx hb hr rfl (fun t ht hW => ⟨⟨1, (fun _ => 0), rfl, hpost, (fun _ => 0), (fun _ => (fun _ => 0)), (fun _ => (fun _ => 0)), by rw [ht]; exact hP9, va_K.moved hW.alike hK, hD9⟩, hS.F ht⟩) hS.2.2 dX13_endsBy_69
        · skip
          have b_ := zF_eq rfl zk_0 c_
          refine lv_aload_n hx hb dX13_endsBy_49 rfl (lv_at hl 0 rfl) ?_
          refine va_get (D := (dC, dI)) (ci := 13) (v := .ref (q0 19)) (C := RX13) (T := TX13) (N := 75) hx hb hG zuX13 hown hK hP 0 rfl rfl 19 (by decide) (hG _ zv1623) (fun _ h9 => h9) rfl dX13_endsBy_50 ?_
          refine lv_aload_n hx hb dX13_endsBy_53 rfl (lv_at hl 0 rfl) ?_
          refine va_get (D := (dC, dI)) (ci := 13) (v := .int (v0 20)) (C := RX13) (T := TX13) (N := 75) hx hb hG zuX13 hown hK hP 0 rfl rfl 20 (by decide) (hG _ zv1624) (fun _ h9 => h9) rfl dX13_endsBy_54 ?_
          refine lv_iconst (v := 3) hx hb dX13_endsBy_57 (by decide) ?_
          refine lv_isub hx hb dX13_endsBy_58 ?_
          refine lv_topi (fun z58 e_z58 => ?_)
          have b_ := zsub rfl zk_3 e_z58 (by omega) (by omega)
          refine va_bald hx hb hK hP 1 0 rfl rfl (zin_lit ⟨by omega, by omega⟩) dX13_endsBy_59 ?_
          refine lv_topi (fun z59 e_z59 => ?_)
          refine lv_iload_n hx hb dX13_endsBy_60 rfl (lv_at hl 1 rfl) ?_
          have b_ : -2147483648 ≤ z59.toInt ∧ z59.toInt ≤ 2147483647 := ⟨zlo _, zhi _⟩
          refine lv_icmp_ne (tgt := 68) hx hb dX13_endsBy_61 (by decide) (fun c_ => ?_) (fun c_ => ?_)
          · skip
            have b_ := zT_ne rfl rfl c_
            refine lv_iconst (v := 0) hx hb dX13_endsBy_68 (by decide) ?_
            refine W.widen (k := 0) (n := 0) (by decide) (by decide) ?_
            have hpost : (0 ≤ (0 : Int32).toInt ∧ (0 : Int32).toInt ≤ 1) ∧ ((0 : Int32).toInt = 1 → x4.toInt ≤ (v0 20).toInt) ∧ ((0 : Int32).toInt = 1 → zMe f15 (v0 20).toInt x1.toInt x2.toInt x3.toInt x4.toInt) ∧ ((0 : Int32).toInt = 0 → ¬ zMe f15 (v0 20).toInt x1.toInt x2.toInt x3.toInt x4.toInt) := ⟨(by first | with_reducible assumption | exact ⟨by omega, by omega⟩), by omega, by first | (intro q; exact absurd q (by decide)) | (intro _; exact ⟨by omega, zgt e_z21 (by omega) (by omega), by first | exact Or.inl (by omega) | exact Or.inr (zgt e_z40 (by omega) (by omega)), by first | exact Or.inl (by omega) | exact Or.inr (zgt e_z59 (by omega) (by omega))⟩), by first | (intro q; exact absurd q (by decide)) | exact fun _ => zMe_n0 (by omega) | exact fun _ => zMe_n1 e_z21 (by omega) (by omega) | exact fun _ => zMe_n2 e_z40 (by omega) (by omega) (by omega) | exact fun _ => zMe_n3 e_z59 (by omega) (by omega) (by omega)⟩
            have hP9 : va_P (dC, dI) vwCl [(h0, .inr (13, mX13 q0 v0)), ((q0 19), zi k15 12 f15)] s.heap := hP
            have hD9 : va_D A [(h0, .inr (13, mX13 q0 v0)), ((q0 19), zi k15 12 f15)] := hD
            exact W.zret (v := 0) hx hb hr rfl (fun t ht hW => ⟨⟨0, (fun _ => 0), rfl, hpost, (fun _ => 0), (fun _ => (fun _ => 0)), (fun _ => (fun _ => 0)), by rw [ht]; exact hP9, va_K.moved hW.alike hK, hD9⟩, hS.F ht⟩) hS.2.2 dX13_endsBy_69
          · skip
            have b_ := zF_ne rfl rfl c_
            refine lv_iconst (v := 1) hx hb dX13_endsBy_64 (by decide) ?_
            refine lv_goto (tgt := 69) hx hb dX13_endsBy_65 (by decide) ?_
            refine W.widen (k := 0) (n := 0) (by decide) (by decide) ?_
            have hpost : (0 ≤ (1 : Int32).toInt ∧ (1 : Int32).toInt ≤ 1) ∧ ((1 : Int32).toInt = 1 → x4.toInt ≤ (v0 20).toInt) ∧ ((1 : Int32).toInt = 1 → zMe f15 (v0 20).toInt x1.toInt x2.toInt x3.toInt x4.toInt) ∧ ((1 : Int32).toInt = 0 → ¬ zMe f15 (v0 20).toInt x1.toInt x2.toInt x3.toInt x4.toInt) := ⟨(by first | with_reducible assumption | exact ⟨by omega, by omega⟩), by omega, by first | (intro q; exact absurd q (by decide)) | (intro _; exact ⟨by omega, zgt e_z21 (by omega) (by omega), by first | exact Or.inl (by omega) | exact Or.inr (zgt e_z40 (by omega) (by omega)), by first | exact Or.inl (by omega) | exact Or.inr (zgt e_z59 (by omega) (by omega))⟩), by first | (intro q; exact absurd q (by decide)) | exact fun _ => zMe_n0 (by omega) | exact fun _ => zMe_n1 e_z21 (by omega) (by omega) | exact fun _ => zMe_n2 e_z40 (by omega) (by omega) (by omega) | exact fun _ => zMe_n3 e_z59 (by omega) (by omega) (by omega)⟩
            have hP9 : va_P (dC, dI) vwCl [(h0, .inr (13, mX13 q0 v0)), ((q0 19), zi k15 12 f15)] s.heap := hP
            have hD9 : va_D A [(h0, .inr (13, mX13 q0 v0)), ((q0 19), zi k15 12 f15)] := hD
            exact W.zret (v := 1) hx hb hr rfl (fun t ht hW => ⟨⟨1, (fun _ => 0), rfl, hpost, (fun _ => 0), (fun _ => (fun _ => 0)), (fun _ => (fun _ => 0)), by rw [ht]; exact hP9, va_K.moved hW.alike hK, hD9⟩, hS.F ht⟩) hS.2.2 dX13_endsBy_69
      · skip
        have b_ := zF_eq rfl zk_0 c_
        refine lv_aload_n hx hb dX13_endsBy_30 rfl (lv_at hl 0 rfl) ?_
        refine va_get (D := (dC, dI)) (ci := 13) (v := .ref (q0 19)) (C := RX13) (T := TX13) (N := 75) hx hb hG zuX13 hown hK hP 0 rfl rfl 19 (by decide) (hG _ zv1623) (fun _ h9 => h9) rfl dX13_endsBy_31 ?_
        refine lv_aload_n hx hb dX13_endsBy_34 rfl (lv_at hl 0 rfl) ?_
        refine va_get (D := (dC, dI)) (ci := 13) (v := .int (v0 20)) (C := RX13) (T := TX13) (N := 75) hx hb hG zuX13 hown hK hP 0 rfl rfl 20 (by decide) (hG _ zv1624) (fun _ h9 => h9) rfl dX13_endsBy_35 ?_
        refine lv_iconst (v := 2) hx hb dX13_endsBy_38 (by decide) ?_
        refine lv_isub hx hb dX13_endsBy_39 ?_
        refine lv_topi (fun z39 e_z39 => ?_)
        have b_ := zsub rfl zk_2 e_z39 (by omega) (by omega)
        refine va_bald hx hb hK hP 1 0 rfl rfl (zin_lit ⟨by omega, by omega⟩) dX13_endsBy_40 ?_
        refine lv_topi (fun z40 e_z40 => ?_)
        refine lv_iload_n hx hb dX13_endsBy_41 rfl (lv_at hl 2 rfl) ?_
        have b_ : -2147483648 ≤ z40.toInt ∧ z40.toInt ≤ 2147483647 := ⟨zlo _, zhi _⟩
        refine lv_icmp_ne (tgt := 68) hx hb dX13_endsBy_42 (by decide) (fun c_ => ?_) (fun c_ => ?_)
        · skip
          have b_ := zT_ne rfl rfl c_
          refine lv_iconst (v := 0) hx hb dX13_endsBy_68 (by decide) ?_
          refine W.widen (k := 0) (n := 0) (by decide) (by decide) ?_
          have hpost : (0 ≤ (0 : Int32).toInt ∧ (0 : Int32).toInt ≤ 1) ∧ ((0 : Int32).toInt = 1 → x4.toInt ≤ (v0 20).toInt) ∧ ((0 : Int32).toInt = 1 → zMe f15 (v0 20).toInt x1.toInt x2.toInt x3.toInt x4.toInt) ∧ ((0 : Int32).toInt = 0 → ¬ zMe f15 (v0 20).toInt x1.toInt x2.toInt x3.toInt x4.toInt) := ⟨(by first | with_reducible assumption | exact ⟨by omega, by omega⟩), by omega, by first | (intro q; exact absurd q (by decide)) | (intro _; exact ⟨by omega, zgt e_z21 (by omega) (by omega), by first | exact Or.inl (by omega) | exact Or.inr (zgt e_z40 (by omega) (by omega)), by first | exact Or.inl (by omega) | exact Or.inr (zgt e_z59 (by omega) (by omega))⟩), by first | (intro q; exact absurd q (by decide)) | exact fun _ => zMe_n0 (by omega) | exact fun _ => zMe_n1 e_z21 (by omega) (by omega) | exact fun _ => zMe_n2 e_z40 (by omega) (by omega) (by omega) | exact fun _ => zMe_n3 e_z59 (by omega) (by omega) (by omega)⟩
          have hP9 : va_P (dC, dI) vwCl [(h0, .inr (13, mX13 q0 v0)), ((q0 19), zi k15 12 f15)] s.heap := hP
          have hD9 : va_D A [(h0, .inr (13, mX13 q0 v0)), ((q0 19), zi k15 12 f15)] := hD
          exact W.zret (v := 0) hx hb hr rfl (fun t ht hW => ⟨⟨0, (fun _ => 0), rfl, hpost, (fun _ => 0), (fun _ => (fun _ => 0)), (fun _ => (fun _ => 0)), by rw [ht]; exact hP9, va_K.moved hW.alike hK, hD9⟩, hS.F ht⟩) hS.2.2 dX13_endsBy_69
        · skip
          have b_ := zF_ne rfl rfl c_
          refine lv_iload_n hx hb dX13_endsBy_45 rfl (lv_at hl 1 rfl) ?_
          have b_ : -2147483648 ≤ x1.toInt ∧ x1.toInt ≤ 2147483647 := ⟨zlo _, zhi _⟩
          refine lv_if_eq (tgt := 64) hx hb dX13_endsBy_46 (by decide) (fun c_ => ?_) (fun c_ => ?_)
          · skip
            have b_ := zT_eq rfl zk_0 c_
            refine lv_iconst (v := 1) hx hb dX13_endsBy_64 (by decide) ?_
            refine lv_goto (tgt := 69) hx hb dX13_endsBy_65 (by decide) ?_
            refine W.widen (k := 0) (n := 0) (by decide) (by decide) ?_
            have hpost : (0 ≤ (1 : Int32).toInt ∧ (1 : Int32).toInt ≤ 1) ∧ ((1 : Int32).toInt = 1 → x4.toInt ≤ (v0 20).toInt) ∧ ((1 : Int32).toInt = 1 → zMe f15 (v0 20).toInt x1.toInt x2.toInt x3.toInt x4.toInt) ∧ ((1 : Int32).toInt = 0 → ¬ zMe f15 (v0 20).toInt x1.toInt x2.toInt x3.toInt x4.toInt) := ⟨(by first | with_reducible assumption | exact ⟨by omega, by omega⟩), by omega, by first | (intro q; exact absurd q (by decide)) | (intro _; exact ⟨by omega, zgt e_z21 (by omega) (by omega), by first | exact Or.inl (by omega) | exact Or.inr (zgt e_z40 (by omega) (by omega)), by first | exact Or.inl (by omega) | exact Or.inr (zgt e_z59 (by omega) (by omega))⟩), by first | (intro q; exact absurd q (by decide)) | exact fun _ => zMe_n0 (by omega) | exact fun _ => zMe_n1 e_z21 (by omega) (by omega) | exact fun _ => zMe_n2 e_z40 (by omega) (by omega) (by omega) | exact fun _ => zMe_n3 e_z59 (by omega) (by omega) (by omega)⟩
            have hP9 : va_P (dC, dI) vwCl [(h0, .inr (13, mX13 q0 v0)), ((q0 19), zi k15 12 f15)] s.heap := hP
            have hD9 : va_D A [(h0, .inr (13, mX13 q0 v0)), ((q0 19), zi k15 12 f15)] := hD
            exact W.zret (v := 1) hx hb hr rfl (fun t ht hW => ⟨⟨1, (fun _ => 0), rfl, hpost, (fun _ => 0), (fun _ => (fun _ => 0)), (fun _ => (fun _ => 0)), by rw [ht]; exact hP9, va_K.moved hW.alike hK, hD9⟩, hS.F ht⟩) hS.2.2 dX13_endsBy_69
          · skip
            have b_ := zF_eq rfl zk_0 c_
            refine lv_aload_n hx hb dX13_endsBy_49 rfl (lv_at hl 0 rfl) ?_
            refine va_get (D := (dC, dI)) (ci := 13) (v := .ref (q0 19)) (C := RX13) (T := TX13) (N := 75) hx hb hG zuX13 hown hK hP 0 rfl rfl 19 (by decide) (hG _ zv1623) (fun _ h9 => h9) rfl dX13_endsBy_50 ?_
            refine lv_aload_n hx hb dX13_endsBy_53 rfl (lv_at hl 0 rfl) ?_
            refine va_get (D := (dC, dI)) (ci := 13) (v := .int (v0 20)) (C := RX13) (T := TX13) (N := 75) hx hb hG zuX13 hown hK hP 0 rfl rfl 20 (by decide) (hG _ zv1624) (fun _ h9 => h9) rfl dX13_endsBy_54 ?_
            refine lv_iconst (v := 3) hx hb dX13_endsBy_57 (by decide) ?_
            refine lv_isub hx hb dX13_endsBy_58 ?_
            refine lv_topi (fun z58 e_z58 => ?_)
            have b_ := zsub rfl zk_3 e_z58 (by omega) (by omega)
            refine va_bald hx hb hK hP 1 0 rfl rfl (zin_lit ⟨by omega, by omega⟩) dX13_endsBy_59 ?_
            refine lv_topi (fun z59 e_z59 => ?_)
            refine lv_iload_n hx hb dX13_endsBy_60 rfl (lv_at hl 1 rfl) ?_
            have b_ : -2147483648 ≤ z59.toInt ∧ z59.toInt ≤ 2147483647 := ⟨zlo _, zhi _⟩
            refine lv_icmp_ne (tgt := 68) hx hb dX13_endsBy_61 (by decide) (fun c_ => ?_) (fun c_ => ?_)
            · skip
              have b_ := zT_ne rfl rfl c_
              refine lv_iconst (v := 0) hx hb dX13_endsBy_68 (by decide) ?_
              refine W.widen (k := 0) (n := 0) (by decide) (by decide) ?_
              have hpost : (0 ≤ (0 : Int32).toInt ∧ (0 : Int32).toInt ≤ 1) ∧ ((0 : Int32).toInt = 1 → x4.toInt ≤ (v0 20).toInt) ∧ ((0 : Int32).toInt = 1 → zMe f15 (v0 20).toInt x1.toInt x2.toInt x3.toInt x4.toInt) ∧ ((0 : Int32).toInt = 0 → ¬ zMe f15 (v0 20).toInt x1.toInt x2.toInt x3.toInt x4.toInt) := ⟨(by first | with_reducible assumption | exact ⟨by omega, by omega⟩), by omega, by first | (intro q; exact absurd q (by decide)) | (intro _; exact ⟨by omega, zgt e_z21 (by omega) (by omega), by first | exact Or.inl (by omega) | exact Or.inr (zgt e_z40 (by omega) (by omega)), by first | exact Or.inl (by omega) | exact Or.inr (zgt e_z59 (by omega) (by omega))⟩), by first | (intro q; exact absurd q (by decide)) | exact fun _ => zMe_n0 (by omega) | exact fun _ => zMe_n1 e_z21 (by omega) (by omega) | exact fun _ => zMe_n2 e_z40 (by omega) (by omega) (by omega) | exact fun _ => zMe_n3 e_z59 (by omega) (by omega) (by omega)⟩
              have hP9 : va_P (dC, dI) vwCl [(h0, .inr (13, mX13 q0 v0)), ((q0 19), zi k15 12 f15)] s.heap := hP
              have hD9 : va_D A [(h0, .inr (13, mX13 q0 v0)), ((q0 19), zi k15 12 f15)] := hD
              exact W.zret (v := 0) hx hb hr rfl (fun t ht hW => ⟨⟨0, (fun _ => 0), rfl, hpost, (fun _ => 0), (fun _ => (fun _ => 0)), (fun _ => (fun _ => 0)), by rw [ht]; exact hP9, va_K.moved hW.alike hK, hD9⟩, hS.F ht⟩) hS.2.2 dX13_endsBy_69
            · skip
              have b_ := zF_ne rfl rfl c_
              refine lv_iconst (v := 1) hx hb dX13_endsBy_64 (by decide) ?_
              refine lv_goto (tgt := 69) hx hb dX13_endsBy_65 (by decide) ?_
              refine W.widen (k := 0) (n := 0) (by decide) (by decide) ?_
              have hpost : (0 ≤ (1 : Int32).toInt ∧ (1 : Int32).toInt ≤ 1) ∧ ((1 : Int32).toInt = 1 → x4.toInt ≤ (v0 20).toInt) ∧ ((1 : Int32).toInt = 1 → zMe f15 (v0 20).toInt x1.toInt x2.toInt x3.toInt x4.toInt) ∧ ((1 : Int32).toInt = 0 → ¬ zMe f15 (v0 20).toInt x1.toInt x2.toInt x3.toInt x4.toInt) := ⟨(by first | with_reducible assumption | exact ⟨by omega, by omega⟩), by omega, by first | (intro q; exact absurd q (by decide)) | (intro _; exact ⟨by omega, zgt e_z21 (by omega) (by omega), by first | exact Or.inl (by omega) | exact Or.inr (zgt e_z40 (by omega) (by omega)), by first | exact Or.inl (by omega) | exact Or.inr (zgt e_z59 (by omega) (by omega))⟩), by first | (intro q; exact absurd q (by decide)) | exact fun _ => zMe_n0 (by omega) | exact fun _ => zMe_n1 e_z21 (by omega) (by omega) | exact fun _ => zMe_n2 e_z40 (by omega) (by omega) (by omega) | exact fun _ => zMe_n3 e_z59 (by omega) (by omega) (by omega)⟩
              have hP9 : va_P (dC, dI) vwCl [(h0, .inr (13, mX13 q0 v0)), ((q0 19), zi k15 12 f15)] s.heap := hP
              have hD9 : va_D A [(h0, .inr (13, mX13 q0 v0)), ((q0 19), zi k15 12 f15)] := hD
              exact W.zret (v := 1) hx hb hr rfl (fun t ht hW => ⟨⟨1, (fun _ => 0), rfl, hpost, (fun _ => 0), (fun _ => (fun _ => 0)), (fun _ => (fun _ => 0)), by rw [ht]; exact hP9, va_K.moved hW.alike hK, hD9⟩, hS.F ht⟩) hS.2.2 dX13_endsBy_69
  · skip
    have b_ := zF_ge rfl rfl c_
    refine lv_iconst (v := 0) hx hb dX13_endsBy_9 (by decide) ?_
    refine W.widen (k := 0) (n := 0) (by decide) (by decide) ?_
    have hpost : (0 ≤ (0 : Int32).toInt ∧ (0 : Int32).toInt ≤ 1) ∧ ((0 : Int32).toInt = 1 → x4.toInt ≤ (v0 20).toInt) ∧ ((0 : Int32).toInt = 1 → zMe f15 (v0 20).toInt x1.toInt x2.toInt x3.toInt x4.toInt) ∧ ((0 : Int32).toInt = 0 → ¬ zMe f15 (v0 20).toInt x1.toInt x2.toInt x3.toInt x4.toInt) := ⟨(by first | with_reducible assumption | exact ⟨by omega, by omega⟩), by omega, by first | (intro q; exact absurd q (by decide)) | (intro _; exact ⟨by omega, zgt e_z21 (by omega) (by omega), by first | exact Or.inl (by omega) | exact Or.inr (zgt e_z40 (by omega) (by omega)), by first | exact Or.inl (by omega) | exact Or.inr (zgt e_z59 (by omega) (by omega))⟩), by first | (intro q; exact absurd q (by decide)) | exact fun _ => zMe_n0 (by omega) | exact fun _ => zMe_n1 e_z21 (by omega) (by omega) | exact fun _ => zMe_n2 e_z40 (by omega) (by omega) (by omega) | exact fun _ => zMe_n3 e_z59 (by omega) (by omega) (by omega)⟩
    have hP9 : va_P (dC, dI) vwCl [(h0, .inr (13, mX13 q0 v0)), ((q0 19), zi k15 12 f15)] s.heap := hP
    have hD9 : va_D A [(h0, .inr (13, mX13 q0 v0)), ((q0 19), zi k15 12 f15)] := hD
    exact W.zret (v := 0) hx hb hr rfl (fun t ht hW => ⟨⟨0, (fun _ => 0), rfl, hpost, (fun _ => 0), (fun _ => (fun _ => 0)), (fun _ => (fun _ => 0)), by rw [ht]; exact hP9, va_K.moved hW.alike hK, hD9⟩, hS.F ht⟩) hS.2.2 dX13_endsBy_10
set_option maxHeartbeats 8000000 in
set_option maxRecDepth 100000 in
theorem sX13_takeWord_0 (l : Launch) (dC : Nat → ClassId) (dI : Nat → Nat → Nat) (adK adV : Nat → Nat) (h0 : Nat) (q0 : Nat → Nat) (k1 : ClassId) (k15 : ClassId) (sz : Nat) (v0 : Nat → Int32) (f1 : Nat → Int32) (f15 : Nat → Int32) (x1 : Int32) (x2 : Int32) (hv0 : zR rg_Model v0) (hx1 : 0 ≤ x1.toInt ∧ x1.toInt ≤ 600) (hx2 : 0 ≤ x2.toInt ∧ x2.toInt ≤ 600) : Met l yX13_takeWord (zw yX13_takeWord cX13_takeWord 4 none) { frames := 3, cells := 0, slots := 0, locals := 63 } (zPc dC dI adK adV [.ref h0, .int x1, .int x2] sz [(h0, .inr (13, mX13 q0 v0)), ((q0 0), zi k1 600 f1), ((q0 19), zi k15 12 f15)] [(k1, .byte), (k15, .byte)]) (va_Qv (fun (u : Nat → Int32) => (0 ≤ (u 0).toInt ∧ (u 0).toInt ≤ 12)) (fun (u : Nat → Int32) (t : State) => ∃ (ww : Nat → Int64) (aa : Nat → Nat → Int32) (bb : Nat → Nat → Int64), (zMw f1 x1.toInt x2.toInt (aa 0) (u 0).toInt) ∧ va_P (dC, dI) vwCl [(h0, .inr (13, mX13 q0 (upd v0 20 (u 0)))), ((q0 0), zi k1 600 f1), ((q0 19), zi k15 12 (aa 0))] t.heap ∧ va_K (dC, dI) vwCl [(k1, .byte), (k15, .byte)] t ∧ va_D (va_A [(h0, .inr (13, mX13 q0 v0)), ((q0 0), zi k1 600 f1), ((q0 19), zi k15 12 f15)] sz) [(h0, .inr (13, mX13 q0 (upd v0 20 (u 0)))), ((q0 0), zi k1 600 f1), ((q0 19), zi k15 12 (aa 0))]) (va_A [(h0, .inr (13, mX13 q0 v0)), ((q0 0), zi k1 600 f1), ((q0 19), zi k15 12 f15)] sz)) 0 0 (va_A [(h0, .inr (13, mX13 q0 v0)), ((q0 0), zi k1 600 f1), ((q0 19), zi k15 12 f15)] sz) := by
  refine Met.ofW (cc := cX13_takeWord) (maxL := 4) (ret := none) (by decide) rfl ?_
  intro p e s m args below meth c s₁ B hml hv
  obtain ⟨rfl, hsz, hP, hK, hD0, hE, hZ⟩ := hv
  have hx := B.exec
  have hb := B.bytes
  have hr := B.returns
  have hG : ∀ w ∈ zG, w.before _ s = true := fun w h => atoms_spec (ws := (zw yX13_takeWord cX13_takeWord 4 none)) B.pre w (List.mem_cons_of_mem _ h)
  have hown : s.vm.findClass RX13 = some m.cls := findClass_of_methodNamed B.named
  have hlocks := B.notSynchronized

  subst hsz
  have hD := hD0.self (sz := s.heap.size)
  generalize hAe : va_A [(h0, .inr (13, mX13 q0 v0)), ((q0 0), zi k1 600 f1), ((q0 19), zi k15 12 f15)] s.heap.size = A at hD hZ ⊢
  have hA : ∀ q : Nat, s.heap.size ≤ q → A q := fun q h => by rw [← hAe]; exact Or.inr h
  have hS : va_S A s.heap s.heap [] := va_S.rf
  have hl := lv_entry ([.ref h0, .int x1, .int x2]) (n := 4) (Nat.le_of_ble_eq_true rfl)
  rw [lg_entry_eq]
  generalize (lg_sl ([.ref h0, .int x1, .int x2]) ++ List.replicate (4 - (lg_sl ([.ref h0, .int x1, .int x2])).length) Slot.unset).toArray = ls at hl ⊢
  have hl : lv_has ls 4 [(0, .ref h0), (1, .int x1), (2, .int x2)] := hl
  have b_ := zk_0
  have b_ := zk_4
  have b_ := zk_5
  have b_ := zk_6
  have b_ := zk_100
  have b_ := zk_101
  have b_ := zk_103
  have b_ := zk_105
  have b_ := zk_110
  have b_ := zk_115
  have b_ := zk_117
  refine lv_aload_n hx hb dX13_takeWord_0 rfl (lv_at hl 0 rfl) ?_
  refine lv_iload_n hx hb dX13_takeWord_1 rfl (lv_at hl 1 rfl) ?_
  refine lv_iload_n hx hb dX13_takeWord_2 rfl (lv_at hl 2 rfl) ?_
  have hPc := hP.sub (ws' := [(h0, .inr (13, mX13 q0 v0)), ((q0 0), zi k1 600 f1), ((q0 19), zi k15 12 f15)]) [0, 1, 2] rfl
  have hDc := hD.sub (ws' := [(h0, .inr (13, mX13 q0 v0)), ((q0 0), zi k1 600 f1), ((q0 19), zi k15 12 f15)]) [0, 1, 2] (by decide) rfl
  have hKc := hK.sub (tys' := [(k1, .byte), (k15, .byte)]) [0, 1] rfl
  have hFc := va_free (wc := [(h0, .inr (13, mX13 q0 v0)), ((q0 0), zi k1 600 f1), ((q0 19), zi k15 12 f15)]) hD hS hA [0, 1, 2] rfl
  refine va_callv (va_runV (As := [.int x1, .int x2]) (rest := []) ⟨hx, hb, hml, hown, hG⟩ (sX13_takeBytes_0 l dC dI adK adV h0 q0 k1 k15 s.heap.size v0 f1 f15 x1 x2 hv0 (show (0 : Int) ≤ (x1 : Int32).toInt ∧ (x1 : Int32).toInt ≤ (600 : Int) from (by first | with_reducible assumption | exact ⟨by omega, by omega⟩)) (show (0 : Int) ≤ (x2 : Int32).toInt ∧ (x2 : Int32).toInt ≤ (600 : Int) from (by first | with_reducible assumption | exact ⟨by omega, by omega⟩))) (cwV 2 hG (zgV zv1870 zv1872 zv53 zv142 zv1873) rfl rfl rfl (by decide +kernel) ⟨Nat.le_of_ble_eq_true rfl, Nat.le_of_ble_eq_true rfl⟩) ⟨zPc_blind, va_recv hKc hPc (ci := 13) (q0 := 0) rfl rfl, zPc_pre hPc hKc hDc hE hS hFc hZ⟩ rfl rfl hl.1 rfl (lv_room (Nat.le_of_ble_eq_true rfl)) dX13_takeWord_3 ⟨Nat.le_of_ble_eq_true rfl, Nat.le_of_ble_eq_true rfl⟩) hS (fun q _ h => hFc q h) hFc (fun u3_ t H1 locs ht hvm hw hB hz1 hk1 hS => ?_)
  replace hw : (0 ≤ (u3_ 0).toInt ∧ (u3_ 0).toInt ≤ 12) ∧ (x1.toInt ≤ x2.toInt → ((u3_ 0).toInt = 12 ∨ x1.toInt + (u3_ 0).toInt = x2.toInt) ∧ x1.toInt + (u3_ 0).toInt ≤ x2.toInt) := hw
  obtain ⟨b_, hX3_0⟩ := hw
  obtain ⟨w3_, a3_, b3_, hB3_0, hP1, hK1, hD1⟩ := hB
  have hB3_0 : zTkb f1 x1.toInt x2.toInt (a3_ 0) (u3_ 0).toInt := hB3_0
  rw [ht] at hP1
  obtain ⟨hP, hD⟩ := va_join (wr := []) (w1 := [(h0, .inr (13, mX13 q0 (upd v0 20 (u3_ 0)))), ((q0 0), zi k1 600 f1), ((q0 19), zi k15 12 (a3_ 0))]) hP hD [0, 1, 2] [] rfl rfl (by decide) (by decide) hk1 hFc hP1 hD1
  have hP : va_P (dC, dI) vwCl [(h0, .inr (13, mX13 q0 (upd v0 20 (u3_ 0)))), ((q0 0), zi k1 600 f1), ((q0 19), zi k15 12 (a3_ 0))] H1 := hP.sub [0, 1, 2] rfl
  have hD : va_D A [(h0, .inr (13, mX13 q0 (upd v0 20 (u3_ 0)))), ((q0 0), zi k1 600 f1), ((q0 19), zi k15 12 (a3_ 0))] := hD.sub [0, 1, 2] (by decide) rfl
  generalize H1 = H at hP hS ⊢
  clear hz1
  refine lv_iconst (v := 0) hx hb dX13_takeWord_6 (by decide) ?_
  refine lv_istore_n (lv' := [(3, .int 0), (0, .ref h0), (1, .int x1), (2, .int x2)]) hx hb dX13_takeWord_7 rfl hl (by decide) rfl (fun ls hl => ?_)
  refine zcutL (fun u8_ => (12 - (u8_ 0).toInt).toNat) (fun H locs ls u8_ w8_ a8_ b8_ => va_P (dC, dI) vwCl [(h0, .inr (13, mX13 q0 (upd v0 20 (u3_ 0)))), ((q0 0), zi k1 600 f1), ((q0 19), zi k15 12 (a3_ 0))] H ∧ va_D A [(h0, .inr (13, mX13 q0 (upd v0 20 (u3_ 0)))), ((q0 0), zi k1 600 f1), ((q0 19), zi k15 12 (a3_ 0))] ∧ va_S A s.heap H locs ∧ lv_has ls 4 [(0, .ref h0), (1, .int x1), (2, .int x2), (3, .int (u8_ 0))] ∧ (0 ≤ (u8_ 0).toInt ∧ (u8_ 0).toInt ≤ 12) ∧ (x1.toInt ≤ x2.toInt → zAt f1 x1.toInt x2.toInt → zhd (fun k => ((a3_ 0) k).toInt) ((u8_ 0).toInt).toNat = false) ∧ ((u8_ 0).toInt ≤ (u3_ 0).toInt)) (fun ls u8_ w8_ => F0 m 8 ls []) 0 0 ?_ (fun hJ8 => ?_)
  · skip
    intro H locs ls u8_ w8_ a8_ b8_ hc hJ8
    obtain ⟨hP, hD, hS, hl, b_, hI8_0, b_⟩ := hc
    refine lv_iload_n hx hb dX13_takeWord_8 rfl (lv_at hl 3 rfl) ?_
    refine lv_aload_n hx hb dX13_takeWord_9 rfl (lv_at hl 0 rfl) ?_
    refine va_get (D := (dC, dI)) (ci := 13) (v := .int (u3_ 0)) (C := RX13) (T := TX13) (N := 75) hx hb hG zuX13 hown hK hP 0 rfl rfl 20 (by decide) (hG _ zv1624) (fun _ h9 => h9) rfl dX13_takeWord_10 ?_
    refine lv_icmp_ge (tgt := 35) hx hb dX13_takeWord_13 (by decide) (fun c_ => ?_) (fun c_ => ?_)
    · skip
      have b_ := zT_ge rfl rfl c_
      have hhd : x1.toInt ≤ x2.toInt → zAt f1 x1.toInt x2.toInt → zhd (fun k => ((a3_ 0) k).toInt) ((u3_ 0).toInt).toNat = false := fun p_ a_ => zhd_e (hI8_0 p_ a_) (by omega)
      refine lv_aload_n hx hb dX13_takeWord_35 rfl (lv_at hl 0 rfl) ?_
      refine lv_bipush (v := 105) hx hb dX13_takeWord_36 (by decide) ?_
      refine lv_bipush (v := 101) hx hb dX13_takeWord_38 (by decide) ?_
      refine lv_bipush (v := 115) hx hb dX13_takeWord_40 (by decide) ?_
      refine lv_iconst (v := 5) hx hb dX13_takeWord_42 (by decide) ?_
      have hPc := hP.sub (ws' := [(h0, .inr (13, mX13 q0 (upd v0 20 (u3_ 0)))), ((q0 19), zi k15 12 (a3_ 0))]) [0, 2] rfl
      have hDc := hD.sub (ws' := [(h0, .inr (13, mX13 q0 (upd v0 20 (u3_ 0)))), ((q0 19), zi k15 12 (a3_ 0))]) [0, 2] (by decide) rfl
      have hKc := hK.sub (tys' := [(k15, .byte)]) [1] rfl
      have hFc := va_free (wc := [(h0, .inr (13, mX13 q0 (upd v0 20 (u3_ 0)))), ((q0 19), zi k15 12 (a3_ 0))]) hD hS hA [0, 2] rfl
      refine va_calli (va_runV (As := [.int 105, .int 101, .int 115, .int 5]) (rest := []) ⟨hx, hb, hml, hown, hG⟩ (sX13_endsBy_0 l dC dI adK adV h0 q0 k15 H.size (upd v0 20 (u3_ 0)) (a3_ 0) 105 101 115 5 (zR_up2 hv0 20 (show (0 : Int) ≤ ((u3_ 0) : Int32).toInt ∧ ((u3_ 0) : Int32).toInt ≤ (12 : Int) from (by first | with_reducible assumption | exact ⟨by omega, by omega⟩))) ⟨show (4 : Int) ≤ (5 : Int32).toInt from by decide, show (5 : Int32).toInt ≤ (6 : Int) from by decide⟩) (cwV 4 hG (zgV zv1877 zv1879 zv54 zv142 zv1880) rfl rfl rfl (by decide +kernel) ⟨Nat.le_of_ble_eq_true rfl, Nat.le_of_ble_eq_true rfl⟩) ⟨zPc_blind, va_recv hKc hPc (ci := 13) (q0 := 0) rfl rfl, zPc_pre hPc hKc hDc hE hS hFc hZ⟩ rfl rfl hl.1 rfl (lv_room (Nat.le_of_ble_eq_true rfl)) dX13_takeWord_43 ⟨Nat.le_of_ble_eq_true rfl, Nat.le_of_ble_eq_true rfl⟩) hS (fun q _ h => hFc q h) hFc (fun r43_ u43_ t H1 locs ht hvm hw hB hz1 hk1 hS => ?_)
      replace hw : (0 ≤ r43_.toInt ∧ r43_.toInt ≤ 1) ∧ (r43_.toInt = 1 → (5 : Int32).toInt ≤ (u3_ 0).toInt) ∧ (r43_.toInt = 1 → zMe (a3_ 0) (u3_ 0).toInt (105 : Int32).toInt (101 : Int32).toInt (115 : Int32).toInt (5 : Int32).toInt) ∧ (r43_.toInt = 0 → ¬ zMe (a3_ 0) (u3_ 0).toInt (105 : Int32).toInt (101 : Int32).toInt (115 : Int32).toInt (5 : Int32).toInt) := hw
      obtain ⟨b_, hX43_0, hX43_1, hX43_2⟩ := hw
      obtain ⟨w43_, a43_, b43_, hP1, hK1, hD1⟩ := hB
      rw [ht] at hP1
      obtain ⟨hP, hD⟩ := va_join (wr := [((q0 0), zi k1 600 f1)]) (w1 := [(h0, .inr (13, mX13 q0 (upd v0 20 (u3_ 0)))), ((q0 19), zi k15 12 (a3_ 0))]) hP hD [0, 2] [1] rfl rfl (by decide) (by decide) hk1 hFc hP1 hD1
      have hP : va_P (dC, dI) vwCl [(h0, .inr (13, mX13 q0 (upd v0 20 (u3_ 0)))), ((q0 0), zi k1 600 f1), ((q0 19), zi k15 12 (a3_ 0))] H1 := hP.sub [1, 0, 2] rfl
      have hD : va_D A [(h0, .inr (13, mX13 q0 (upd v0 20 (u3_ 0)))), ((q0 0), zi k1 600 f1), ((q0 19), zi k15 12 (a3_ 0))] := hD.sub [1, 0, 2] (by decide) rfl
      generalize H1 = H at hP hS ⊢
      clear hz1
      refine lv_if_eq (tgt := 75) hx hb dX13_takeWord_46 (by decide) (fun c_ => ?_) (fun c_ => ?_)
      · skip
        have b_ := zT_eq rfl zk_0 c_
        have hie : zies (fun k => ((a3_ 0) k).toInt) ((u3_ 0).toInt).toNat = false := by first | exact zmies_f (hX43_2 (by omega))
        refine lv_aload_n hx hb dX13_takeWord_75 rfl (lv_at hl 0 rfl) ?_
        refine lv_bipush (v := 105) hx hb dX13_takeWord_76 (by decide) ?_
        refine lv_bipush (v := 110) hx hb dX13_takeWord_78 (by decide) ?_
        refine lv_bipush (v := 103) hx hb dX13_takeWord_80 (by decide) ?_
        refine lv_bipush (v := 6) hx hb dX13_takeWord_82 (by decide) ?_
        have hPc := hP.sub (ws' := [(h0, .inr (13, mX13 q0 (upd v0 20 (u3_ 0)))), ((q0 19), zi k15 12 (a3_ 0))]) [0, 2] rfl
        have hDc := hD.sub (ws' := [(h0, .inr (13, mX13 q0 (upd v0 20 (u3_ 0)))), ((q0 19), zi k15 12 (a3_ 0))]) [0, 2] (by decide) rfl
        have hKc := hK.sub (tys' := [(k15, .byte)]) [1] rfl
        have hFc := va_free (wc := [(h0, .inr (13, mX13 q0 (upd v0 20 (u3_ 0)))), ((q0 19), zi k15 12 (a3_ 0))]) hD hS hA [0, 2] rfl
        refine va_calli (va_runV (As := [.int 105, .int 110, .int 103, .int 6]) (rest := []) ⟨hx, hb, hml, hown, hG⟩ (sX13_endsBy_0 l dC dI adK adV h0 q0 k15 H.size (upd v0 20 (u3_ 0)) (a3_ 0) 105 110 103 6 (zR_up2 hv0 20 (show (0 : Int) ≤ ((u3_ 0) : Int32).toInt ∧ ((u3_ 0) : Int32).toInt ≤ (12 : Int) from (by first | with_reducible assumption | exact ⟨by omega, by omega⟩))) ⟨show (4 : Int) ≤ (6 : Int32).toInt from by decide, show (6 : Int32).toInt ≤ (6 : Int) from by decide⟩) (cwV 4 hG (zgV zv1877 zv1879 zv54 zv142 zv1880) rfl rfl rfl (by decide +kernel) ⟨Nat.le_of_ble_eq_true rfl, Nat.le_of_ble_eq_true rfl⟩) ⟨zPc_blind, va_recv hKc hPc (ci := 13) (q0 := 0) rfl rfl, zPc_pre hPc hKc hDc hE hS hFc hZ⟩ rfl rfl hl.1 rfl (lv_room (Nat.le_of_ble_eq_true rfl)) dX13_takeWord_84 ⟨Nat.le_of_ble_eq_true rfl, Nat.le_of_ble_eq_true rfl⟩) hS (fun q _ h => hFc q h) hFc (fun r84_ u84_ t H1 locs ht hvm hw hB hz1 hk1 hS => ?_)
        replace hw : (0 ≤ r84_.toInt ∧ r84_.toInt ≤ 1) ∧ (r84_.toInt = 1 → (6 : Int32).toInt ≤ (u3_ 0).toInt) ∧ (r84_.toInt = 1 → zMe (a3_ 0) (u3_ 0).toInt (105 : Int32).toInt (110 : Int32).toInt (103 : Int32).toInt (6 : Int32).toInt) ∧ (r84_.toInt = 0 → ¬ zMe (a3_ 0) (u3_ 0).toInt (105 : Int32).toInt (110 : Int32).toInt (103 : Int32).toInt (6 : Int32).toInt) := hw
        obtain ⟨b_, hX84_0, hX84_1, hX84_2⟩ := hw
        obtain ⟨w84_, a84_, b84_, hP1, hK1, hD1⟩ := hB
        rw [ht] at hP1
        obtain ⟨hP, hD⟩ := va_join (wr := [((q0 0), zi k1 600 f1)]) (w1 := [(h0, .inr (13, mX13 q0 (upd v0 20 (u3_ 0)))), ((q0 19), zi k15 12 (a3_ 0))]) hP hD [0, 2] [1] rfl rfl (by decide) (by decide) hk1 hFc hP1 hD1
        have hP : va_P (dC, dI) vwCl [(h0, .inr (13, mX13 q0 (upd v0 20 (u3_ 0)))), ((q0 0), zi k1 600 f1), ((q0 19), zi k15 12 (a3_ 0))] H1 := hP.sub [1, 0, 2] rfl
        have hD : va_D A [(h0, .inr (13, mX13 q0 (upd v0 20 (u3_ 0)))), ((q0 0), zi k1 600 f1), ((q0 19), zi k15 12 (a3_ 0))] := hD.sub [1, 0, 2] (by decide) rfl
        generalize H1 = H at hP hS ⊢
        clear hz1
        refine lv_if_eq (tgt := 103) hx hb dX13_takeWord_87 (by decide) (fun c_ => ?_) (fun c_ => ?_)
        · skip
          have b_ := zT_eq rfl zk_0 c_
          have hin : zing (fun k => ((a3_ 0) k).toInt) ((u3_ 0).toInt).toNat = false := by first | exact zming_f (hX84_2 (by omega))
          refine lv_aload_n hx hb dX13_takeWord_103 rfl (lv_at hl 0 rfl) ?_
          refine lv_iconst (v := 0) hx hb dX13_takeWord_104 (by decide) ?_
          refine lv_bipush (v := 101) hx hb dX13_takeWord_105 (by decide) ?_
          refine lv_bipush (v := 100) hx hb dX13_takeWord_107 (by decide) ?_
          refine lv_iconst (v := 5) hx hb dX13_takeWord_109 (by decide) ?_
          have hPc := hP.sub (ws' := [(h0, .inr (13, mX13 q0 (upd v0 20 (u3_ 0)))), ((q0 19), zi k15 12 (a3_ 0))]) [0, 2] rfl
          have hDc := hD.sub (ws' := [(h0, .inr (13, mX13 q0 (upd v0 20 (u3_ 0)))), ((q0 19), zi k15 12 (a3_ 0))]) [0, 2] (by decide) rfl
          have hKc := hK.sub (tys' := [(k15, .byte)]) [1] rfl
          have hFc := va_free (wc := [(h0, .inr (13, mX13 q0 (upd v0 20 (u3_ 0)))), ((q0 19), zi k15 12 (a3_ 0))]) hD hS hA [0, 2] rfl
          refine va_calli (va_runV (As := [.int 0, .int 101, .int 100, .int 5]) (rest := []) ⟨hx, hb, hml, hown, hG⟩ (sX13_endsBy_0 l dC dI adK adV h0 q0 k15 H.size (upd v0 20 (u3_ 0)) (a3_ 0) 0 101 100 5 (zR_up2 hv0 20 (show (0 : Int) ≤ ((u3_ 0) : Int32).toInt ∧ ((u3_ 0) : Int32).toInt ≤ (12 : Int) from (by first | with_reducible assumption | exact ⟨by omega, by omega⟩))) ⟨show (4 : Int) ≤ (5 : Int32).toInt from by decide, show (5 : Int32).toInt ≤ (6 : Int) from by decide⟩) (cwV 4 hG (zgV zv1877 zv1879 zv54 zv142 zv1880) rfl rfl rfl (by decide +kernel) ⟨Nat.le_of_ble_eq_true rfl, Nat.le_of_ble_eq_true rfl⟩) ⟨zPc_blind, va_recv hKc hPc (ci := 13) (q0 := 0) rfl rfl, zPc_pre hPc hKc hDc hE hS hFc hZ⟩ rfl rfl hl.1 rfl (lv_room (Nat.le_of_ble_eq_true rfl)) dX13_takeWord_110 ⟨Nat.le_of_ble_eq_true rfl, Nat.le_of_ble_eq_true rfl⟩) hS (fun q _ h => hFc q h) hFc (fun r110_ u110_ t H1 locs ht hvm hw hB hz1 hk1 hS => ?_)
          replace hw : (0 ≤ r110_.toInt ∧ r110_.toInt ≤ 1) ∧ (r110_.toInt = 1 → (5 : Int32).toInt ≤ (u3_ 0).toInt) ∧ (r110_.toInt = 1 → zMe (a3_ 0) (u3_ 0).toInt (0 : Int32).toInt (101 : Int32).toInt (100 : Int32).toInt (5 : Int32).toInt) ∧ (r110_.toInt = 0 → ¬ zMe (a3_ 0) (u3_ 0).toInt (0 : Int32).toInt (101 : Int32).toInt (100 : Int32).toInt (5 : Int32).toInt) := hw
          obtain ⟨b_, hX110_0, hX110_1, hX110_2⟩ := hw
          obtain ⟨w110_, a110_, b110_, hP1, hK1, hD1⟩ := hB
          rw [ht] at hP1
          obtain ⟨hP, hD⟩ := va_join (wr := [((q0 0), zi k1 600 f1)]) (w1 := [(h0, .inr (13, mX13 q0 (upd v0 20 (u3_ 0)))), ((q0 19), zi k15 12 (a3_ 0))]) hP hD [0, 2] [1] rfl rfl (by decide) (by decide) hk1 hFc hP1 hD1
          have hP : va_P (dC, dI) vwCl [(h0, .inr (13, mX13 q0 (upd v0 20 (u3_ 0)))), ((q0 0), zi k1 600 f1), ((q0 19), zi k15 12 (a3_ 0))] H1 := hP.sub [1, 0, 2] rfl
          have hD : va_D A [(h0, .inr (13, mX13 q0 (upd v0 20 (u3_ 0)))), ((q0 0), zi k1 600 f1), ((q0 19), zi k15 12 (a3_ 0))] := hD.sub [1, 0, 2] (by decide) rfl
          generalize H1 = H at hP hS ⊢
          clear hz1
          refine lv_if_eq (tgt := 129) hx hb dX13_takeWord_113 (by decide) (fun c_ => ?_) (fun c_ => ?_)
          · skip
            have b_ := zT_eq rfl zk_0 c_
            have hed : zed (fun k => ((a3_ 0) k).toInt) ((u3_ 0).toInt).toNat = false := by first | exact zmed_f (hX110_2 (by omega))
            refine lv_aload_n hx hb dX13_takeWord_129 rfl (lv_at hl 0 rfl) ?_
            refine lv_iconst (v := 0) hx hb dX13_takeWord_130 (by decide) ?_
            refine lv_iconst (v := 0) hx hb dX13_takeWord_131 (by decide) ?_
            refine lv_bipush (v := 115) hx hb dX13_takeWord_132 (by decide) ?_
            refine lv_iconst (v := 4) hx hb dX13_takeWord_134 (by decide) ?_
            have hPc := hP.sub (ws' := [(h0, .inr (13, mX13 q0 (upd v0 20 (u3_ 0)))), ((q0 19), zi k15 12 (a3_ 0))]) [0, 2] rfl
            have hDc := hD.sub (ws' := [(h0, .inr (13, mX13 q0 (upd v0 20 (u3_ 0)))), ((q0 19), zi k15 12 (a3_ 0))]) [0, 2] (by decide) rfl
            have hKc := hK.sub (tys' := [(k15, .byte)]) [1] rfl
            have hFc := va_free (wc := [(h0, .inr (13, mX13 q0 (upd v0 20 (u3_ 0)))), ((q0 19), zi k15 12 (a3_ 0))]) hD hS hA [0, 2] rfl
            refine va_calli (va_runV (As := [.int 0, .int 0, .int 115, .int 4]) (rest := []) ⟨hx, hb, hml, hown, hG⟩ (sX13_endsBy_0 l dC dI adK adV h0 q0 k15 H.size (upd v0 20 (u3_ 0)) (a3_ 0) 0 0 115 4 (zR_up2 hv0 20 (show (0 : Int) ≤ ((u3_ 0) : Int32).toInt ∧ ((u3_ 0) : Int32).toInt ≤ (12 : Int) from (by first | with_reducible assumption | exact ⟨by omega, by omega⟩))) ⟨show (4 : Int) ≤ (4 : Int32).toInt from by decide, show (4 : Int32).toInt ≤ (6 : Int) from by decide⟩) (cwV 4 hG (zgV zv1877 zv1879 zv54 zv142 zv1880) rfl rfl rfl (by decide +kernel) ⟨Nat.le_of_ble_eq_true rfl, Nat.le_of_ble_eq_true rfl⟩) ⟨zPc_blind, va_recv hKc hPc (ci := 13) (q0 := 0) rfl rfl, zPc_pre hPc hKc hDc hE hS hFc hZ⟩ rfl rfl hl.1 rfl (lv_room (Nat.le_of_ble_eq_true rfl)) dX13_takeWord_135 ⟨Nat.le_of_ble_eq_true rfl, Nat.le_of_ble_eq_true rfl⟩) hS (fun q _ h => hFc q h) hFc (fun r135_ u135_ t H1 locs ht hvm hw hB hz1 hk1 hS => ?_)
            replace hw : (0 ≤ r135_.toInt ∧ r135_.toInt ≤ 1) ∧ (r135_.toInt = 1 → (4 : Int32).toInt ≤ (u3_ 0).toInt) ∧ (r135_.toInt = 1 → zMe (a3_ 0) (u3_ 0).toInt (0 : Int32).toInt (0 : Int32).toInt (115 : Int32).toInt (4 : Int32).toInt) ∧ (r135_.toInt = 0 → ¬ zMe (a3_ 0) (u3_ 0).toInt (0 : Int32).toInt (0 : Int32).toInt (115 : Int32).toInt (4 : Int32).toInt) := hw
            obtain ⟨b_, hX135_0, hX135_1, hX135_2⟩ := hw
            obtain ⟨w135_, a135_, b135_, hP1, hK1, hD1⟩ := hB
            rw [ht] at hP1
            obtain ⟨hP, hD⟩ := va_join (wr := [((q0 0), zi k1 600 f1)]) (w1 := [(h0, .inr (13, mX13 q0 (upd v0 20 (u3_ 0)))), ((q0 19), zi k15 12 (a3_ 0))]) hP hD [0, 2] [1] rfl rfl (by decide) (by decide) hk1 hFc hP1 hD1
            have hP : va_P (dC, dI) vwCl [(h0, .inr (13, mX13 q0 (upd v0 20 (u3_ 0)))), ((q0 0), zi k1 600 f1), ((q0 19), zi k15 12 (a3_ 0))] H1 := hP.sub [1, 0, 2] rfl
            have hD : va_D A [(h0, .inr (13, mX13 q0 (upd v0 20 (u3_ 0)))), ((q0 0), zi k1 600 f1), ((q0 19), zi k15 12 (a3_ 0))] := hD.sub [1, 0, 2] (by decide) rfl
            generalize H1 = H at hP hS ⊢
            clear hz1
            refine lv_if_eq (tgt := 190) hx hb dX13_takeWord_138 (by decide) (fun c_ => ?_) (fun c_ => ?_)
            · skip
              have b_ := zT_eq rfl zk_0 c_
              have hes : zes (fun k => ((a3_ 0) k).toInt) ((u3_ 0).toInt).toNat = false := by first | exact zmes_f (Or.inl (hX135_2 (by omega))) | exact zmes_f (Or.inr (Or.inl (hX148_1 (by omega)))) | exact zmes_f (Or.inr (Or.inr (Or.inl (hX161_1 (by omega))))) | exact zmes_f (Or.inr (Or.inr (Or.inr (hX174_1 (by omega)))))
              refine W.widen (k := 0) (n := 0) (by decide) (by decide) ?_
              have hpost : (0 ≤ (u3_ 0).toInt ∧ (u3_ 0).toInt ≤ 12) := (by first | with_reducible assumption | exact ⟨by omega, by omega⟩)
              have hP9 : va_P (dC, dI) vwCl [(h0, .inr (13, mX13 q0 (upd v0 20 (u3_ 0)))), ((q0 0), zi k1 600 f1), ((q0 19), zi k15 12 (a3_ 0))] H := hP
              have hD9 : va_D A [(h0, .inr (13, mX13 q0 (upd v0 20 (u3_ 0)))), ((q0 0), zi k1 600 f1), ((q0 19), zi k15 12 (a3_ 0))] := hD
              have hB0 : zMw f1 x1.toInt x2.toInt (a3_ 0) (u3_ 0).toInt := by first | exact zMw_i hB3_0 (by omega) hX3_0 (fun _ _ => zsm1 hhd (by omega) (by omega)) (fun _ _ => zsl1 hhd) | exact zMw_i hB3_0 (by omega) hX3_0 (fun p_ a_ => zsm2 (hhd p_ a_) hie (by omega) (by omega)) (fun p_ a_ => by rw [e_f_71]; exact zsl2 (hhd p_ a_) hie (by omega) (by omega)) | exact zMw_i hB3_0 (by omega) hX3_0 (fun p_ a_ => zsm3 (hhd p_ a_) hie hin (by omega) (by omega)) (fun _ _ => zsl3 hie) | exact zMw_i hB3_0 (by omega) hX3_0 (fun p_ a_ => zsm4 (hhd p_ a_) hie hin hed (by omega) (by omega)) (fun _ _ => zsl3 hie) | exact zMw_i hB3_0 (by omega) hX3_0 (fun p_ a_ => zsm5 (hhd p_ a_) hie hin hed hes (by omega) (by omega)) (fun _ _ => zsl3 hie) | exact zMw_i hB3_0 (by omega) hX3_0 (fun p_ a_ => zsm6 (hhd p_ a_) hie hin hed hes (by omega) (by omega)) (fun _ _ => zsl3 hie)
              exact W.vret hx hb hr (fun t ht hW => ⟨⟨(fun i => ([(u3_ 0)] : List (Int32)).getD i 0), rfl, hpost, (fun _ => 0), (fun i => ([(a3_ 0)] : List (Nat → Int32)).getD i (fun _ => 0)), (fun _ => (fun _ => 0)), hB0, by rw [ht]; exact hP9, va_K.moved hW.alike hK, hD9⟩, hS.F ht⟩) hS.2.2 dX13_takeWord_190
            · skip
              have b_ := zF_eq rfl zk_0 c_
              refine lv_aload_n hx hb dX13_takeWord_141 rfl (lv_at hl 0 rfl) ?_
              refine lv_iconst (v := 0) hx hb dX13_takeWord_142 (by decide) ?_
              refine lv_bipush (v := 115) hx hb dX13_takeWord_143 (by decide) ?_
              refine lv_bipush (v := 115) hx hb dX13_takeWord_145 (by decide) ?_
              refine lv_iconst (v := 4) hx hb dX13_takeWord_147 (by decide) ?_
              have hPc := hP.sub (ws' := [(h0, .inr (13, mX13 q0 (upd v0 20 (u3_ 0)))), ((q0 19), zi k15 12 (a3_ 0))]) [0, 2] rfl
              have hDc := hD.sub (ws' := [(h0, .inr (13, mX13 q0 (upd v0 20 (u3_ 0)))), ((q0 19), zi k15 12 (a3_ 0))]) [0, 2] (by decide) rfl
              have hKc := hK.sub (tys' := [(k15, .byte)]) [1] rfl
              have hFc := va_free (wc := [(h0, .inr (13, mX13 q0 (upd v0 20 (u3_ 0)))), ((q0 19), zi k15 12 (a3_ 0))]) hD hS hA [0, 2] rfl
              refine va_calli (va_runV (As := [.int 0, .int 115, .int 115, .int 4]) (rest := []) ⟨hx, hb, hml, hown, hG⟩ (sX13_endsBy_0 l dC dI adK adV h0 q0 k15 H.size (upd v0 20 (u3_ 0)) (a3_ 0) 0 115 115 4 (zR_up2 hv0 20 (show (0 : Int) ≤ ((u3_ 0) : Int32).toInt ∧ ((u3_ 0) : Int32).toInt ≤ (12 : Int) from (by first | with_reducible assumption | exact ⟨by omega, by omega⟩))) ⟨show (4 : Int) ≤ (4 : Int32).toInt from by decide, show (4 : Int32).toInt ≤ (6 : Int) from by decide⟩) (cwV 4 hG (zgV zv1877 zv1879 zv54 zv142 zv1880) rfl rfl rfl (by decide +kernel) ⟨Nat.le_of_ble_eq_true rfl, Nat.le_of_ble_eq_true rfl⟩) ⟨zPc_blind, va_recv hKc hPc (ci := 13) (q0 := 0) rfl rfl, zPc_pre hPc hKc hDc hE hS hFc hZ⟩ rfl rfl hl.1 rfl (lv_room (Nat.le_of_ble_eq_true rfl)) dX13_takeWord_148 ⟨Nat.le_of_ble_eq_true rfl, Nat.le_of_ble_eq_true rfl⟩) hS (fun q _ h => hFc q h) hFc (fun r148_ u148_ t H1 locs ht hvm hw hB hz1 hk1 hS => ?_)
              replace hw : (0 ≤ r148_.toInt ∧ r148_.toInt ≤ 1) ∧ (r148_.toInt = 1 → (4 : Int32).toInt ≤ (u3_ 0).toInt) ∧ (r148_.toInt = 1 → zMe (a3_ 0) (u3_ 0).toInt (0 : Int32).toInt (115 : Int32).toInt (115 : Int32).toInt (4 : Int32).toInt) ∧ (r148_.toInt = 0 → ¬ zMe (a3_ 0) (u3_ 0).toInt (0 : Int32).toInt (115 : Int32).toInt (115 : Int32).toInt (4 : Int32).toInt) := hw
              obtain ⟨b_, hX148_0, hX148_1, hX148_2⟩ := hw
              obtain ⟨w148_, a148_, b148_, hP1, hK1, hD1⟩ := hB
              rw [ht] at hP1
              obtain ⟨hP, hD⟩ := va_join (wr := [((q0 0), zi k1 600 f1)]) (w1 := [(h0, .inr (13, mX13 q0 (upd v0 20 (u3_ 0)))), ((q0 19), zi k15 12 (a3_ 0))]) hP hD [0, 2] [1] rfl rfl (by decide) (by decide) hk1 hFc hP1 hD1
              have hP : va_P (dC, dI) vwCl [(h0, .inr (13, mX13 q0 (upd v0 20 (u3_ 0)))), ((q0 0), zi k1 600 f1), ((q0 19), zi k15 12 (a3_ 0))] H1 := hP.sub [1, 0, 2] rfl
              have hD : va_D A [(h0, .inr (13, mX13 q0 (upd v0 20 (u3_ 0)))), ((q0 0), zi k1 600 f1), ((q0 19), zi k15 12 (a3_ 0))] := hD.sub [1, 0, 2] (by decide) rfl
              generalize H1 = H at hP hS ⊢
              clear hz1
              refine lv_if_ne (tgt := 190) hx hb dX13_takeWord_151 (by decide) (fun c_ => ?_) (fun c_ => ?_)
              · skip
                have b_ := zT_ne rfl zk_0 c_
                have hes : zes (fun k => ((a3_ 0) k).toInt) ((u3_ 0).toInt).toNat = false := by first | exact zmes_f (Or.inl (hX135_2 (by omega))) | exact zmes_f (Or.inr (Or.inl (hX148_1 (by omega)))) | exact zmes_f (Or.inr (Or.inr (Or.inl (hX161_1 (by omega))))) | exact zmes_f (Or.inr (Or.inr (Or.inr (hX174_1 (by omega)))))
                refine W.widen (k := 0) (n := 0) (by decide) (by decide) ?_
                have hpost : (0 ≤ (u3_ 0).toInt ∧ (u3_ 0).toInt ≤ 12) := (by first | with_reducible assumption | exact ⟨by omega, by omega⟩)
                have hP9 : va_P (dC, dI) vwCl [(h0, .inr (13, mX13 q0 (upd v0 20 (u3_ 0)))), ((q0 0), zi k1 600 f1), ((q0 19), zi k15 12 (a3_ 0))] H := hP
                have hD9 : va_D A [(h0, .inr (13, mX13 q0 (upd v0 20 (u3_ 0)))), ((q0 0), zi k1 600 f1), ((q0 19), zi k15 12 (a3_ 0))] := hD
                have hB0 : zMw f1 x1.toInt x2.toInt (a3_ 0) (u3_ 0).toInt := by first | exact zMw_i hB3_0 (by omega) hX3_0 (fun _ _ => zsm1 hhd (by omega) (by omega)) (fun _ _ => zsl1 hhd) | exact zMw_i hB3_0 (by omega) hX3_0 (fun p_ a_ => zsm2 (hhd p_ a_) hie (by omega) (by omega)) (fun p_ a_ => by rw [e_f_71]; exact zsl2 (hhd p_ a_) hie (by omega) (by omega)) | exact zMw_i hB3_0 (by omega) hX3_0 (fun p_ a_ => zsm3 (hhd p_ a_) hie hin (by omega) (by omega)) (fun _ _ => zsl3 hie) | exact zMw_i hB3_0 (by omega) hX3_0 (fun p_ a_ => zsm4 (hhd p_ a_) hie hin hed (by omega) (by omega)) (fun _ _ => zsl3 hie) | exact zMw_i hB3_0 (by omega) hX3_0 (fun p_ a_ => zsm5 (hhd p_ a_) hie hin hed hes (by omega) (by omega)) (fun _ _ => zsl3 hie) | exact zMw_i hB3_0 (by omega) hX3_0 (fun p_ a_ => zsm6 (hhd p_ a_) hie hin hed hes (by omega) (by omega)) (fun _ _ => zsl3 hie)
                exact W.vret hx hb hr (fun t ht hW => ⟨⟨(fun i => ([(u3_ 0)] : List (Int32)).getD i 0), rfl, hpost, (fun _ => 0), (fun i => ([(a3_ 0)] : List (Nat → Int32)).getD i (fun _ => 0)), (fun _ => (fun _ => 0)), hB0, by rw [ht]; exact hP9, va_K.moved hW.alike hK, hD9⟩, hS.F ht⟩) hS.2.2 dX13_takeWord_190
              · skip
                have b_ := zF_ne rfl zk_0 c_
                refine lv_aload_n hx hb dX13_takeWord_154 rfl (lv_at hl 0 rfl) ?_
                refine lv_iconst (v := 0) hx hb dX13_takeWord_155 (by decide) ?_
                refine lv_bipush (v := 117) hx hb dX13_takeWord_156 (by decide) ?_
                refine lv_bipush (v := 115) hx hb dX13_takeWord_158 (by decide) ?_
                refine lv_iconst (v := 4) hx hb dX13_takeWord_160 (by decide) ?_
                have hPc := hP.sub (ws' := [(h0, .inr (13, mX13 q0 (upd v0 20 (u3_ 0)))), ((q0 19), zi k15 12 (a3_ 0))]) [0, 2] rfl
                have hDc := hD.sub (ws' := [(h0, .inr (13, mX13 q0 (upd v0 20 (u3_ 0)))), ((q0 19), zi k15 12 (a3_ 0))]) [0, 2] (by decide) rfl
                have hKc := hK.sub (tys' := [(k15, .byte)]) [1] rfl
                have hFc := va_free (wc := [(h0, .inr (13, mX13 q0 (upd v0 20 (u3_ 0)))), ((q0 19), zi k15 12 (a3_ 0))]) hD hS hA [0, 2] rfl
                refine va_calli (va_runV (As := [.int 0, .int 117, .int 115, .int 4]) (rest := []) ⟨hx, hb, hml, hown, hG⟩ (sX13_endsBy_0 l dC dI adK adV h0 q0 k15 H.size (upd v0 20 (u3_ 0)) (a3_ 0) 0 117 115 4 (zR_up2 hv0 20 (show (0 : Int) ≤ ((u3_ 0) : Int32).toInt ∧ ((u3_ 0) : Int32).toInt ≤ (12 : Int) from (by first | with_reducible assumption | exact ⟨by omega, by omega⟩))) ⟨show (4 : Int) ≤ (4 : Int32).toInt from by decide, show (4 : Int32).toInt ≤ (6 : Int) from by decide⟩) (cwV 4 hG (zgV zv1877 zv1879 zv54 zv142 zv1880) rfl rfl rfl (by decide +kernel) ⟨Nat.le_of_ble_eq_true rfl, Nat.le_of_ble_eq_true rfl⟩) ⟨zPc_blind, va_recv hKc hPc (ci := 13) (q0 := 0) rfl rfl, zPc_pre hPc hKc hDc hE hS hFc hZ⟩ rfl rfl hl.1 rfl (lv_room (Nat.le_of_ble_eq_true rfl)) dX13_takeWord_161 ⟨Nat.le_of_ble_eq_true rfl, Nat.le_of_ble_eq_true rfl⟩) hS (fun q _ h => hFc q h) hFc (fun r161_ u161_ t H1 locs ht hvm hw hB hz1 hk1 hS => ?_)
                replace hw : (0 ≤ r161_.toInt ∧ r161_.toInt ≤ 1) ∧ (r161_.toInt = 1 → (4 : Int32).toInt ≤ (u3_ 0).toInt) ∧ (r161_.toInt = 1 → zMe (a3_ 0) (u3_ 0).toInt (0 : Int32).toInt (117 : Int32).toInt (115 : Int32).toInt (4 : Int32).toInt) ∧ (r161_.toInt = 0 → ¬ zMe (a3_ 0) (u3_ 0).toInt (0 : Int32).toInt (117 : Int32).toInt (115 : Int32).toInt (4 : Int32).toInt) := hw
                obtain ⟨b_, hX161_0, hX161_1, hX161_2⟩ := hw
                obtain ⟨w161_, a161_, b161_, hP1, hK1, hD1⟩ := hB
                rw [ht] at hP1
                obtain ⟨hP, hD⟩ := va_join (wr := [((q0 0), zi k1 600 f1)]) (w1 := [(h0, .inr (13, mX13 q0 (upd v0 20 (u3_ 0)))), ((q0 19), zi k15 12 (a3_ 0))]) hP hD [0, 2] [1] rfl rfl (by decide) (by decide) hk1 hFc hP1 hD1
                have hP : va_P (dC, dI) vwCl [(h0, .inr (13, mX13 q0 (upd v0 20 (u3_ 0)))), ((q0 0), zi k1 600 f1), ((q0 19), zi k15 12 (a3_ 0))] H1 := hP.sub [1, 0, 2] rfl
                have hD : va_D A [(h0, .inr (13, mX13 q0 (upd v0 20 (u3_ 0)))), ((q0 0), zi k1 600 f1), ((q0 19), zi k15 12 (a3_ 0))] := hD.sub [1, 0, 2] (by decide) rfl
                generalize H1 = H at hP hS ⊢
                clear hz1
                refine lv_if_ne (tgt := 190) hx hb dX13_takeWord_164 (by decide) (fun c_ => ?_) (fun c_ => ?_)
                · skip
                  have b_ := zT_ne rfl zk_0 c_
                  have hes : zes (fun k => ((a3_ 0) k).toInt) ((u3_ 0).toInt).toNat = false := by first | exact zmes_f (Or.inl (hX135_2 (by omega))) | exact zmes_f (Or.inr (Or.inl (hX148_1 (by omega)))) | exact zmes_f (Or.inr (Or.inr (Or.inl (hX161_1 (by omega))))) | exact zmes_f (Or.inr (Or.inr (Or.inr (hX174_1 (by omega)))))
                  refine W.widen (k := 0) (n := 0) (by decide) (by decide) ?_
                  have hpost : (0 ≤ (u3_ 0).toInt ∧ (u3_ 0).toInt ≤ 12) := (by first | with_reducible assumption | exact ⟨by omega, by omega⟩)
                  have hP9 : va_P (dC, dI) vwCl [(h0, .inr (13, mX13 q0 (upd v0 20 (u3_ 0)))), ((q0 0), zi k1 600 f1), ((q0 19), zi k15 12 (a3_ 0))] H := hP
                  have hD9 : va_D A [(h0, .inr (13, mX13 q0 (upd v0 20 (u3_ 0)))), ((q0 0), zi k1 600 f1), ((q0 19), zi k15 12 (a3_ 0))] := hD
                  have hB0 : zMw f1 x1.toInt x2.toInt (a3_ 0) (u3_ 0).toInt := by first | exact zMw_i hB3_0 (by omega) hX3_0 (fun _ _ => zsm1 hhd (by omega) (by omega)) (fun _ _ => zsl1 hhd) | exact zMw_i hB3_0 (by omega) hX3_0 (fun p_ a_ => zsm2 (hhd p_ a_) hie (by omega) (by omega)) (fun p_ a_ => by rw [e_f_71]; exact zsl2 (hhd p_ a_) hie (by omega) (by omega)) | exact zMw_i hB3_0 (by omega) hX3_0 (fun p_ a_ => zsm3 (hhd p_ a_) hie hin (by omega) (by omega)) (fun _ _ => zsl3 hie) | exact zMw_i hB3_0 (by omega) hX3_0 (fun p_ a_ => zsm4 (hhd p_ a_) hie hin hed (by omega) (by omega)) (fun _ _ => zsl3 hie) | exact zMw_i hB3_0 (by omega) hX3_0 (fun p_ a_ => zsm5 (hhd p_ a_) hie hin hed hes (by omega) (by omega)) (fun _ _ => zsl3 hie) | exact zMw_i hB3_0 (by omega) hX3_0 (fun p_ a_ => zsm6 (hhd p_ a_) hie hin hed hes (by omega) (by omega)) (fun _ _ => zsl3 hie)
                  exact W.vret hx hb hr (fun t ht hW => ⟨⟨(fun i => ([(u3_ 0)] : List (Int32)).getD i 0), rfl, hpost, (fun _ => 0), (fun i => ([(a3_ 0)] : List (Nat → Int32)).getD i (fun _ => 0)), (fun _ => (fun _ => 0)), hB0, by rw [ht]; exact hP9, va_K.moved hW.alike hK, hD9⟩, hS.F ht⟩) hS.2.2 dX13_takeWord_190
                · skip
                  have b_ := zF_ne rfl zk_0 c_
                  refine lv_aload_n hx hb dX13_takeWord_167 rfl (lv_at hl 0 rfl) ?_
                  refine lv_iconst (v := 0) hx hb dX13_takeWord_168 (by decide) ?_
                  refine lv_bipush (v := 105) hx hb dX13_takeWord_169 (by decide) ?_
                  refine lv_bipush (v := 115) hx hb dX13_takeWord_171 (by decide) ?_
                  refine lv_iconst (v := 4) hx hb dX13_takeWord_173 (by decide) ?_
                  have hPc := hP.sub (ws' := [(h0, .inr (13, mX13 q0 (upd v0 20 (u3_ 0)))), ((q0 19), zi k15 12 (a3_ 0))]) [0, 2] rfl
                  have hDc := hD.sub (ws' := [(h0, .inr (13, mX13 q0 (upd v0 20 (u3_ 0)))), ((q0 19), zi k15 12 (a3_ 0))]) [0, 2] (by decide) rfl
                  have hKc := hK.sub (tys' := [(k15, .byte)]) [1] rfl
                  have hFc := va_free (wc := [(h0, .inr (13, mX13 q0 (upd v0 20 (u3_ 0)))), ((q0 19), zi k15 12 (a3_ 0))]) hD hS hA [0, 2] rfl
                  refine va_calli (va_runV (As := [.int 0, .int 105, .int 115, .int 4]) (rest := []) ⟨hx, hb, hml, hown, hG⟩ (sX13_endsBy_0 l dC dI adK adV h0 q0 k15 H.size (upd v0 20 (u3_ 0)) (a3_ 0) 0 105 115 4 (zR_up2 hv0 20 (show (0 : Int) ≤ ((u3_ 0) : Int32).toInt ∧ ((u3_ 0) : Int32).toInt ≤ (12 : Int) from (by first | with_reducible assumption | exact ⟨by omega, by omega⟩))) ⟨show (4 : Int) ≤ (4 : Int32).toInt from by decide, show (4 : Int32).toInt ≤ (6 : Int) from by decide⟩) (cwV 4 hG (zgV zv1877 zv1879 zv54 zv142 zv1880) rfl rfl rfl (by decide +kernel) ⟨Nat.le_of_ble_eq_true rfl, Nat.le_of_ble_eq_true rfl⟩) ⟨zPc_blind, va_recv hKc hPc (ci := 13) (q0 := 0) rfl rfl, zPc_pre hPc hKc hDc hE hS hFc hZ⟩ rfl rfl hl.1 rfl (lv_room (Nat.le_of_ble_eq_true rfl)) dX13_takeWord_174 ⟨Nat.le_of_ble_eq_true rfl, Nat.le_of_ble_eq_true rfl⟩) hS (fun q _ h => hFc q h) hFc (fun r174_ u174_ t H1 locs ht hvm hw hB hz1 hk1 hS => ?_)
                  replace hw : (0 ≤ r174_.toInt ∧ r174_.toInt ≤ 1) ∧ (r174_.toInt = 1 → (4 : Int32).toInt ≤ (u3_ 0).toInt) ∧ (r174_.toInt = 1 → zMe (a3_ 0) (u3_ 0).toInt (0 : Int32).toInt (105 : Int32).toInt (115 : Int32).toInt (4 : Int32).toInt) ∧ (r174_.toInt = 0 → ¬ zMe (a3_ 0) (u3_ 0).toInt (0 : Int32).toInt (105 : Int32).toInt (115 : Int32).toInt (4 : Int32).toInt) := hw
                  obtain ⟨b_, hX174_0, hX174_1, hX174_2⟩ := hw
                  obtain ⟨w174_, a174_, b174_, hP1, hK1, hD1⟩ := hB
                  rw [ht] at hP1
                  obtain ⟨hP, hD⟩ := va_join (wr := [((q0 0), zi k1 600 f1)]) (w1 := [(h0, .inr (13, mX13 q0 (upd v0 20 (u3_ 0)))), ((q0 19), zi k15 12 (a3_ 0))]) hP hD [0, 2] [1] rfl rfl (by decide) (by decide) hk1 hFc hP1 hD1
                  have hP : va_P (dC, dI) vwCl [(h0, .inr (13, mX13 q0 (upd v0 20 (u3_ 0)))), ((q0 0), zi k1 600 f1), ((q0 19), zi k15 12 (a3_ 0))] H1 := hP.sub [1, 0, 2] rfl
                  have hD : va_D A [(h0, .inr (13, mX13 q0 (upd v0 20 (u3_ 0)))), ((q0 0), zi k1 600 f1), ((q0 19), zi k15 12 (a3_ 0))] := hD.sub [1, 0, 2] (by decide) rfl
                  generalize H1 = H at hP hS ⊢
                  clear hz1
                  refine lv_if_ne (tgt := 190) hx hb dX13_takeWord_177 (by decide) (fun c_ => ?_) (fun c_ => ?_)
                  · skip
                    have b_ := zT_ne rfl zk_0 c_
                    have hes : zes (fun k => ((a3_ 0) k).toInt) ((u3_ 0).toInt).toNat = false := by first | exact zmes_f (Or.inl (hX135_2 (by omega))) | exact zmes_f (Or.inr (Or.inl (hX148_1 (by omega)))) | exact zmes_f (Or.inr (Or.inr (Or.inl (hX161_1 (by omega))))) | exact zmes_f (Or.inr (Or.inr (Or.inr (hX174_1 (by omega)))))
                    refine W.widen (k := 0) (n := 0) (by decide) (by decide) ?_
                    have hpost : (0 ≤ (u3_ 0).toInt ∧ (u3_ 0).toInt ≤ 12) := (by first | with_reducible assumption | exact ⟨by omega, by omega⟩)
                    have hP9 : va_P (dC, dI) vwCl [(h0, .inr (13, mX13 q0 (upd v0 20 (u3_ 0)))), ((q0 0), zi k1 600 f1), ((q0 19), zi k15 12 (a3_ 0))] H := hP
                    have hD9 : va_D A [(h0, .inr (13, mX13 q0 (upd v0 20 (u3_ 0)))), ((q0 0), zi k1 600 f1), ((q0 19), zi k15 12 (a3_ 0))] := hD
                    have hB0 : zMw f1 x1.toInt x2.toInt (a3_ 0) (u3_ 0).toInt := by first | exact zMw_i hB3_0 (by omega) hX3_0 (fun _ _ => zsm1 hhd (by omega) (by omega)) (fun _ _ => zsl1 hhd) | exact zMw_i hB3_0 (by omega) hX3_0 (fun p_ a_ => zsm2 (hhd p_ a_) hie (by omega) (by omega)) (fun p_ a_ => by rw [e_f_71]; exact zsl2 (hhd p_ a_) hie (by omega) (by omega)) | exact zMw_i hB3_0 (by omega) hX3_0 (fun p_ a_ => zsm3 (hhd p_ a_) hie hin (by omega) (by omega)) (fun _ _ => zsl3 hie) | exact zMw_i hB3_0 (by omega) hX3_0 (fun p_ a_ => zsm4 (hhd p_ a_) hie hin hed (by omega) (by omega)) (fun _ _ => zsl3 hie) | exact zMw_i hB3_0 (by omega) hX3_0 (fun p_ a_ => zsm5 (hhd p_ a_) hie hin hed hes (by omega) (by omega)) (fun _ _ => zsl3 hie) | exact zMw_i hB3_0 (by omega) hX3_0 (fun p_ a_ => zsm6 (hhd p_ a_) hie hin hed hes (by omega) (by omega)) (fun _ _ => zsl3 hie)
                    exact W.vret hx hb hr (fun t ht hW => ⟨⟨(fun i => ([(u3_ 0)] : List (Int32)).getD i 0), rfl, hpost, (fun _ => 0), (fun i => ([(a3_ 0)] : List (Nat → Int32)).getD i (fun _ => 0)), (fun _ => (fun _ => 0)), hB0, by rw [ht]; exact hP9, va_K.moved hW.alike hK, hD9⟩, hS.F ht⟩) hS.2.2 dX13_takeWord_190
                  · skip
                    have b_ := zF_ne rfl zk_0 c_
                    have hes : zes (fun k => ((a3_ 0) k).toInt) ((u3_ 0).toInt).toNat = true := by first | exact zmes_t (hX135_1 (by omega)) (hX148_2 (by omega)) (hX161_2 (by omega)) (hX174_2 (by omega))
                    refine lv_aload_n hx hb dX13_takeWord_180 rfl (lv_at hl 0 rfl) ?_
                    refine lv_dup hx hb dX13_takeWord_181 rfl ?_
                    refine va_get (D := (dC, dI)) (ci := 13) (v := .int (u3_ 0)) (C := RX13) (T := TX13) (N := 75) hx hb hG zuX13 hown hK hP 0 rfl rfl 20 (by decide) (hG _ zv1624) (fun _ h9 => h9) rfl dX13_takeWord_182 ?_
                    refine lv_iconst (v := 1) hx hb dX13_takeWord_185 (by decide) ?_
                    refine lv_isub hx hb dX13_takeWord_186 ?_
                    refine lv_topi (fun z186 e_z186 => ?_)
                    have b_ := zsub rfl zk_1 e_z186 (by omega) (by omega)
                    have b_ : 0 ≤ z186.toInt ∧ z186.toInt ≤ 12 := ⟨by omega, by omega⟩
                    refine va_put (D := (dC, dI)) (ci := 13) (v := .int z186) (ty := .int) (C := RX13) (T := TX13) (N := 75) hx hb hG zuX13 tyX13 tyX13_ok nmX13 hown hK hP hD hS 0 rfl rfl 20 (by decide) (hG _ zv1624) (fun _ h9 => h9) rfl (by decide +kernel) rfl rfl (Nat.le_of_ble_eq_true rfl) dX13_takeWord_187 (fun H locs hP hD hS => ?_)
                    have hP : va_P (dC, dI) vwCl [(h0, .inr (13, mX13 q0 (upd v0 20 z186))), ((q0 0), zi k1 600 f1), ((q0 19), zi k15 12 (a3_ 0))] H := hP
                    have hD : va_D A [(h0, .inr (13, mX13 q0 (upd v0 20 z186))), ((q0 0), zi k1 600 f1), ((q0 19), zi k15 12 (a3_ 0))] := hD
                    refine W.widen (k := 0) (n := 0) (by decide) (by decide) ?_
                    have hpost : (0 ≤ z186.toInt ∧ z186.toInt ≤ 12) := (by first | with_reducible assumption | exact ⟨by omega, by omega⟩)
                    have hP9 : va_P (dC, dI) vwCl [(h0, .inr (13, mX13 q0 (upd v0 20 z186))), ((q0 0), zi k1 600 f1), ((q0 19), zi k15 12 (a3_ 0))] H := hP
                    have hD9 : va_D A [(h0, .inr (13, mX13 q0 (upd v0 20 z186))), ((q0 0), zi k1 600 f1), ((q0 19), zi k15 12 (a3_ 0))] := hD
                    have hB0 : zMw f1 x1.toInt x2.toInt (a3_ 0) z186.toInt := by first | exact zMw_i hB3_0 (by omega) hX3_0 (fun _ _ => zsm1 hhd (by omega) (by omega)) (fun _ _ => zsl1 hhd) | exact zMw_i hB3_0 (by omega) hX3_0 (fun p_ a_ => zsm2 (hhd p_ a_) hie (by omega) (by omega)) (fun p_ a_ => by rw [e_f_71]; exact zsl2 (hhd p_ a_) hie (by omega) (by omega)) | exact zMw_i hB3_0 (by omega) hX3_0 (fun p_ a_ => zsm3 (hhd p_ a_) hie hin (by omega) (by omega)) (fun _ _ => zsl3 hie) | exact zMw_i hB3_0 (by omega) hX3_0 (fun p_ a_ => zsm4 (hhd p_ a_) hie hin hed (by omega) (by omega)) (fun _ _ => zsl3 hie) | exact zMw_i hB3_0 (by omega) hX3_0 (fun p_ a_ => zsm5 (hhd p_ a_) hie hin hed hes (by omega) (by omega)) (fun _ _ => zsl3 hie) | exact zMw_i hB3_0 (by omega) hX3_0 (fun p_ a_ => zsm6 (hhd p_ a_) hie hin hed hes (by omega) (by omega)) (fun _ _ => zsl3 hie)
                    exact W.vret hx hb hr (fun t ht hW => ⟨⟨(fun i => ([z186] : List (Int32)).getD i 0), rfl, hpost, (fun _ => 0), (fun i => ([(a3_ 0)] : List (Nat → Int32)).getD i (fun _ => 0)), (fun _ => (fun _ => 0)), hB0, by rw [ht]; exact hP9, va_K.moved hW.alike hK, hD9⟩, hS.F ht⟩) hS.2.2 dX13_takeWord_190
          · skip
            have b_ := zF_eq rfl zk_0 c_
            have hed : zed (fun k => ((a3_ 0) k).toInt) ((u3_ 0).toInt).toNat = true := by first | exact zmed_t (hX110_1 (by omega))
            refine lv_aload_n hx hb dX13_takeWord_116 rfl (lv_at hl 0 rfl) ?_
            refine lv_dup hx hb dX13_takeWord_117 rfl ?_
            refine va_get (D := (dC, dI)) (ci := 13) (v := .int (u3_ 0)) (C := RX13) (T := TX13) (N := 75) hx hb hG zuX13 hown hK hP 0 rfl rfl 20 (by decide) (hG _ zv1624) (fun _ h9 => h9) rfl dX13_takeWord_118 ?_
            refine lv_iconst (v := 2) hx hb dX13_takeWord_121 (by decide) ?_
            refine lv_isub hx hb dX13_takeWord_122 ?_
            refine lv_topi (fun z122 e_z122 => ?_)
            have b_ := zsub rfl zk_2 e_z122 (by omega) (by omega)
            have b_ : 0 ≤ z122.toInt ∧ z122.toInt ≤ 12 := ⟨by omega, by omega⟩
            refine va_put (D := (dC, dI)) (ci := 13) (v := .int z122) (ty := .int) (C := RX13) (T := TX13) (N := 75) hx hb hG zuX13 tyX13 tyX13_ok nmX13 hown hK hP hD hS 0 rfl rfl 20 (by decide) (hG _ zv1624) (fun _ h9 => h9) rfl (by decide +kernel) rfl rfl (Nat.le_of_ble_eq_true rfl) dX13_takeWord_123 (fun H locs hP hD hS => ?_)
            have hP : va_P (dC, dI) vwCl [(h0, .inr (13, mX13 q0 (upd v0 20 z122))), ((q0 0), zi k1 600 f1), ((q0 19), zi k15 12 (a3_ 0))] H := hP
            have hD : va_D A [(h0, .inr (13, mX13 q0 (upd v0 20 z122))), ((q0 0), zi k1 600 f1), ((q0 19), zi k15 12 (a3_ 0))] := hD
            refine lv_goto (tgt := 190) hx hb dX13_takeWord_126 (by decide) ?_
            refine W.widen (k := 0) (n := 0) (by decide) (by decide) ?_
            have hpost : (0 ≤ z122.toInt ∧ z122.toInt ≤ 12) := (by first | with_reducible assumption | exact ⟨by omega, by omega⟩)
            have hP9 : va_P (dC, dI) vwCl [(h0, .inr (13, mX13 q0 (upd v0 20 z122))), ((q0 0), zi k1 600 f1), ((q0 19), zi k15 12 (a3_ 0))] H := hP
            have hD9 : va_D A [(h0, .inr (13, mX13 q0 (upd v0 20 z122))), ((q0 0), zi k1 600 f1), ((q0 19), zi k15 12 (a3_ 0))] := hD
            have hB0 : zMw f1 x1.toInt x2.toInt (a3_ 0) z122.toInt := by first | exact zMw_i hB3_0 (by omega) hX3_0 (fun _ _ => zsm1 hhd (by omega) (by omega)) (fun _ _ => zsl1 hhd) | exact zMw_i hB3_0 (by omega) hX3_0 (fun p_ a_ => zsm2 (hhd p_ a_) hie (by omega) (by omega)) (fun p_ a_ => by rw [e_f_71]; exact zsl2 (hhd p_ a_) hie (by omega) (by omega)) | exact zMw_i hB3_0 (by omega) hX3_0 (fun p_ a_ => zsm3 (hhd p_ a_) hie hin (by omega) (by omega)) (fun _ _ => zsl3 hie) | exact zMw_i hB3_0 (by omega) hX3_0 (fun p_ a_ => zsm4 (hhd p_ a_) hie hin hed (by omega) (by omega)) (fun _ _ => zsl3 hie) | exact zMw_i hB3_0 (by omega) hX3_0 (fun p_ a_ => zsm5 (hhd p_ a_) hie hin hed hes (by omega) (by omega)) (fun _ _ => zsl3 hie) | exact zMw_i hB3_0 (by omega) hX3_0 (fun p_ a_ => zsm6 (hhd p_ a_) hie hin hed hes (by omega) (by omega)) (fun _ _ => zsl3 hie)
            exact W.vret hx hb hr (fun t ht hW => ⟨⟨(fun i => ([z122] : List (Int32)).getD i 0), rfl, hpost, (fun _ => 0), (fun i => ([(a3_ 0)] : List (Nat → Int32)).getD i (fun _ => 0)), (fun _ => (fun _ => 0)), hB0, by rw [ht]; exact hP9, va_K.moved hW.alike hK, hD9⟩, hS.F ht⟩) hS.2.2 dX13_takeWord_190
        · skip
          have b_ := zF_eq rfl zk_0 c_
          have hin : zing (fun k => ((a3_ 0) k).toInt) ((u3_ 0).toInt).toNat = true := by first | exact zming_t (hX84_1 (by omega))
          refine lv_aload_n hx hb dX13_takeWord_90 rfl (lv_at hl 0 rfl) ?_
          refine lv_dup hx hb dX13_takeWord_91 rfl ?_
          refine va_get (D := (dC, dI)) (ci := 13) (v := .int (u3_ 0)) (C := RX13) (T := TX13) (N := 75) hx hb hG zuX13 hown hK hP 0 rfl rfl 20 (by decide) (hG _ zv1624) (fun _ h9 => h9) rfl dX13_takeWord_92 ?_
          refine lv_iconst (v := 3) hx hb dX13_takeWord_95 (by decide) ?_
          refine lv_isub hx hb dX13_takeWord_96 ?_
          refine lv_topi (fun z96 e_z96 => ?_)
          have b_ := zsub rfl zk_3 e_z96 (by omega) (by omega)
          have b_ : 0 ≤ z96.toInt ∧ z96.toInt ≤ 12 := ⟨by omega, by omega⟩
          refine va_put (D := (dC, dI)) (ci := 13) (v := .int z96) (ty := .int) (C := RX13) (T := TX13) (N := 75) hx hb hG zuX13 tyX13 tyX13_ok nmX13 hown hK hP hD hS 0 rfl rfl 20 (by decide) (hG _ zv1624) (fun _ h9 => h9) rfl (by decide +kernel) rfl rfl (Nat.le_of_ble_eq_true rfl) dX13_takeWord_97 (fun H locs hP hD hS => ?_)
          have hP : va_P (dC, dI) vwCl [(h0, .inr (13, mX13 q0 (upd v0 20 z96))), ((q0 0), zi k1 600 f1), ((q0 19), zi k15 12 (a3_ 0))] H := hP
          have hD : va_D A [(h0, .inr (13, mX13 q0 (upd v0 20 z96))), ((q0 0), zi k1 600 f1), ((q0 19), zi k15 12 (a3_ 0))] := hD
          refine lv_goto (tgt := 190) hx hb dX13_takeWord_100 (by decide) ?_
          refine W.widen (k := 0) (n := 0) (by decide) (by decide) ?_
          have hpost : (0 ≤ z96.toInt ∧ z96.toInt ≤ 12) := (by first | with_reducible assumption | exact ⟨by omega, by omega⟩)
          have hP9 : va_P (dC, dI) vwCl [(h0, .inr (13, mX13 q0 (upd v0 20 z96))), ((q0 0), zi k1 600 f1), ((q0 19), zi k15 12 (a3_ 0))] H := hP
          have hD9 : va_D A [(h0, .inr (13, mX13 q0 (upd v0 20 z96))), ((q0 0), zi k1 600 f1), ((q0 19), zi k15 12 (a3_ 0))] := hD
          have hB0 : zMw f1 x1.toInt x2.toInt (a3_ 0) z96.toInt := by first | exact zMw_i hB3_0 (by omega) hX3_0 (fun _ _ => zsm1 hhd (by omega) (by omega)) (fun _ _ => zsl1 hhd) | exact zMw_i hB3_0 (by omega) hX3_0 (fun p_ a_ => zsm2 (hhd p_ a_) hie (by omega) (by omega)) (fun p_ a_ => by rw [e_f_71]; exact zsl2 (hhd p_ a_) hie (by omega) (by omega)) | exact zMw_i hB3_0 (by omega) hX3_0 (fun p_ a_ => zsm3 (hhd p_ a_) hie hin (by omega) (by omega)) (fun _ _ => zsl3 hie) | exact zMw_i hB3_0 (by omega) hX3_0 (fun p_ a_ => zsm4 (hhd p_ a_) hie hin hed (by omega) (by omega)) (fun _ _ => zsl3 hie) | exact zMw_i hB3_0 (by omega) hX3_0 (fun p_ a_ => zsm5 (hhd p_ a_) hie hin hed hes (by omega) (by omega)) (fun _ _ => zsl3 hie) | exact zMw_i hB3_0 (by omega) hX3_0 (fun p_ a_ => zsm6 (hhd p_ a_) hie hin hed hes (by omega) (by omega)) (fun _ _ => zsl3 hie)
          exact W.vret hx hb hr (fun t ht hW => ⟨⟨(fun i => ([z96] : List (Int32)).getD i 0), rfl, hpost, (fun _ => 0), (fun i => ([(a3_ 0)] : List (Nat → Int32)).getD i (fun _ => 0)), (fun _ => (fun _ => 0)), hB0, by rw [ht]; exact hP9, va_K.moved hW.alike hK, hD9⟩, hS.F ht⟩) hS.2.2 dX13_takeWord_190
      · skip
        have b_ := zF_eq rfl zk_0 c_
        have hie : zies (fun k => ((a3_ 0) k).toInt) ((u3_ 0).toInt).toNat = true := by first | exact zmies_t (hX43_1 (by omega))
        refine lv_aload_n hx hb dX13_takeWord_49 rfl (lv_at hl 0 rfl) ?_
        refine lv_dup hx hb dX13_takeWord_50 rfl ?_
        refine va_get (D := (dC, dI)) (ci := 13) (v := .int (u3_ 0)) (C := RX13) (T := TX13) (N := 75) hx hb hG zuX13 hown hK hP 0 rfl rfl 20 (by decide) (hG _ zv1624) (fun _ h9 => h9) rfl dX13_takeWord_51 ?_
        refine lv_iconst (v := 2) hx hb dX13_takeWord_54 (by decide) ?_
        refine lv_isub hx hb dX13_takeWord_55 ?_
        refine lv_topi (fun z55 e_z55 => ?_)
        have b_ := zsub rfl zk_2 e_z55 (by omega) (by omega)
        have b_ : 0 ≤ z55.toInt ∧ z55.toInt ≤ 12 := ⟨by omega, by omega⟩
        refine va_put (D := (dC, dI)) (ci := 13) (v := .int z55) (ty := .int) (C := RX13) (T := TX13) (N := 75) hx hb hG zuX13 tyX13 tyX13_ok nmX13 hown hK hP hD hS 0 rfl rfl 20 (by decide) (hG _ zv1624) (fun _ h9 => h9) rfl (by decide +kernel) rfl rfl (Nat.le_of_ble_eq_true rfl) dX13_takeWord_56 (fun H locs hP hD hS => ?_)
        have hP : va_P (dC, dI) vwCl [(h0, .inr (13, mX13 q0 (upd v0 20 z55))), ((q0 0), zi k1 600 f1), ((q0 19), zi k15 12 (a3_ 0))] H := hP
        have hD : va_D A [(h0, .inr (13, mX13 q0 (upd v0 20 z55))), ((q0 0), zi k1 600 f1), ((q0 19), zi k15 12 (a3_ 0))] := hD
        refine lv_aload_n hx hb dX13_takeWord_59 rfl (lv_at hl 0 rfl) ?_
        refine va_get (D := (dC, dI)) (ci := 13) (v := .ref (q0 19)) (C := RX13) (T := TX13) (N := 75) hx hb hG zuX13 hown hK hP 0 rfl rfl 19 (by decide) (hG _ zv1623) (fun _ h9 => h9) rfl dX13_takeWord_60 ?_
        refine lv_aload_n hx hb dX13_takeWord_63 rfl (lv_at hl 0 rfl) ?_
        refine va_get (D := (dC, dI)) (ci := 13) (v := .int z55) (C := RX13) (T := TX13) (N := 75) hx hb hG zuX13 hown hK hP 0 rfl rfl 20 (by decide) (hG _ zv1624) (fun _ h9 => h9) rfl dX13_takeWord_64 ?_
        refine lv_iconst (v := 1) hx hb dX13_takeWord_67 (by decide) ?_
        refine lv_isub hx hb dX13_takeWord_68 ?_
        refine lv_topi (fun z68 e_z68 => ?_)
        have b_ := zsub rfl zk_1 e_z68 (by omega) (by omega)
        refine lv_bipush (v := 121) hx hb dX13_takeWord_69 (by decide) ?_
        refine va_bast hx hb hK hP hD hS 2 1 rfl rfl (zin_lit ⟨by omega, by omega⟩) dX13_takeWord_71 (fun H locs hP hD hS => ?_)
        obtain ⟨f_71, e_f_71⟩ : ∃ z : Nat → Int32, z = upd (a3_ 0) (z68 : Int32).toNatClampNeg (vp_nar .byte 121) := ⟨_, rfl⟩
        have hP : va_P (dC, dI) vwCl [(h0, .inr (13, mX13 q0 (upd v0 20 z55))), ((q0 0), zi k1 600 f1), ((q0 19), zi k15 12 f_71)] H := by rw [e_f_71]; exact hP
        have hD : va_D A [(h0, .inr (13, mX13 q0 (upd v0 20 z55))), ((q0 0), zi k1 600 f1), ((q0 19), zi k15 12 f_71)] := by rw [e_f_71]; exact hD
        refine lv_goto (tgt := 190) hx hb dX13_takeWord_72 (by decide) ?_
        refine W.widen (k := 0) (n := 0) (by decide) (by decide) ?_
        have hpost : (0 ≤ z55.toInt ∧ z55.toInt ≤ 12) := (by first | with_reducible assumption | exact ⟨by omega, by omega⟩)
        have hP9 : va_P (dC, dI) vwCl [(h0, .inr (13, mX13 q0 (upd v0 20 z55))), ((q0 0), zi k1 600 f1), ((q0 19), zi k15 12 f_71)] H := hP
        have hD9 : va_D A [(h0, .inr (13, mX13 q0 (upd v0 20 z55))), ((q0 0), zi k1 600 f1), ((q0 19), zi k15 12 f_71)] := hD
        have hB0 : zMw f1 x1.toInt x2.toInt f_71 z55.toInt := by first | exact zMw_i hB3_0 (by omega) hX3_0 (fun _ _ => zsm1 hhd (by omega) (by omega)) (fun _ _ => zsl1 hhd) | exact zMw_i hB3_0 (by omega) hX3_0 (fun p_ a_ => zsm2 (hhd p_ a_) hie (by omega) (by omega)) (fun p_ a_ => by rw [e_f_71]; exact zsl2 (hhd p_ a_) hie (by omega) (by omega)) | exact zMw_i hB3_0 (by omega) hX3_0 (fun p_ a_ => zsm3 (hhd p_ a_) hie hin (by omega) (by omega)) (fun _ _ => zsl3 hie) | exact zMw_i hB3_0 (by omega) hX3_0 (fun p_ a_ => zsm4 (hhd p_ a_) hie hin hed (by omega) (by omega)) (fun _ _ => zsl3 hie) | exact zMw_i hB3_0 (by omega) hX3_0 (fun p_ a_ => zsm5 (hhd p_ a_) hie hin hed hes (by omega) (by omega)) (fun _ _ => zsl3 hie) | exact zMw_i hB3_0 (by omega) hX3_0 (fun p_ a_ => zsm6 (hhd p_ a_) hie hin hed hes (by omega) (by omega)) (fun _ _ => zsl3 hie)
        exact W.vret hx hb hr (fun t ht hW => ⟨⟨(fun i => ([z55] : List (Int32)).getD i 0), rfl, hpost, (fun _ => 0), (fun i => ([f_71] : List (Nat → Int32)).getD i (fun _ => 0)), (fun _ => (fun _ => 0)), hB0, by rw [ht]; exact hP9, va_K.moved hW.alike hK, hD9⟩, hS.F ht⟩) hS.2.2 dX13_takeWord_190
    · skip
      have b_ := zF_ge rfl rfl c_
      refine lv_aload_n hx hb dX13_takeWord_16 rfl (lv_at hl 0 rfl) ?_
      refine va_get (D := (dC, dI)) (ci := 13) (v := .ref (q0 19)) (C := RX13) (T := TX13) (N := 75) hx hb hG zuX13 hown hK hP 0 rfl rfl 19 (by decide) (hG _ zv1623) (fun _ h9 => h9) rfl dX13_takeWord_17 ?_
      refine lv_iload_n hx hb dX13_takeWord_20 rfl (lv_at hl 3 rfl) ?_
      refine va_bald hx hb hK hP 2 1 rfl rfl (zin_lit ⟨by omega, by omega⟩) dX13_takeWord_21 ?_
      refine lv_topi (fun z21 e_z21 => ?_)
      have hPc := hP.sub (ws' := []) [] rfl
      have hDc := hD.sub (ws' := []) [] (by decide) rfl
      have hKc := hK.sub (tys' := []) [] rfl
      have hFc := va_free (wc := []) hD hS hA [] rfl
      refine va_calli (va_runS (As := [.int z21]) (rest := []) ⟨hx, hb, hml, hown, hG⟩ (sX13_isDigit_0 l dC dI adK adV H.size z21) (va_cwS 1 hG (zgS zv1853 zv1854 zv142 zv1855) rfl rfl rfl (by decide +kernel) ⟨Nat.le_of_ble_eq_true rfl, Nat.le_of_ble_eq_true rfl⟩) ⟨zPc_blind, zPc_pre hPc hKc hDc hE hS hFc hZ⟩ rfl rfl hl.1 rfl (lv_room (Nat.le_of_ble_eq_true rfl)) dX13_takeWord_22 ⟨Nat.le_of_ble_eq_true rfl, Nat.le_of_ble_eq_true rfl⟩) hS (fun q _ h => hFc q h) hFc (fun r22_ u22_ t H1 locs ht hvm hw hB hz1 hk1 hS => ?_)
      replace hw : (0 ≤ r22_.toInt ∧ r22_.toInt ≤ 1) ∧ (r22_.toInt = 1 → 48 ≤ z21.toInt ∧ z21.toInt ≤ 57) ∧ (r22_.toInt = 0 → z21.toInt < 48 ∨ 57 < z21.toInt) := hw
      obtain ⟨b_, hX22_0, hX22_1⟩ := hw
      obtain ⟨w22_, a22_, b22_, hP1, hK1, hD1⟩ := hB
      rw [ht] at hP1
      obtain ⟨hP, hD⟩ := va_join (wr := [(h0, .inr (13, mX13 q0 (upd v0 20 (u3_ 0)))), ((q0 0), zi k1 600 f1), ((q0 19), zi k15 12 (a3_ 0))]) (w1 := []) hP hD [] [0, 1, 2] rfl rfl (by decide) (by decide) hk1 hFc hP1 hD1
      have hP : va_P (dC, dI) vwCl [(h0, .inr (13, mX13 q0 (upd v0 20 (u3_ 0)))), ((q0 0), zi k1 600 f1), ((q0 19), zi k15 12 (a3_ 0))] H1 := hP.sub [0, 1, 2] rfl
      have hD : va_D A [(h0, .inr (13, mX13 q0 (upd v0 20 (u3_ 0)))), ((q0 0), zi k1 600 f1), ((q0 19), zi k15 12 (a3_ 0))] := hD.sub [0, 1, 2] (by decide) rfl
      generalize H1 = H at hP hS ⊢
      clear hz1
      refine lv_if_eq (tgt := 29) hx hb dX13_takeWord_25 (by decide) (fun c_ => ?_) (fun c_ => ?_)
      · skip
        have b_ := zT_eq rfl zk_0 c_
        obtain ⟨z29, e_z29⟩ : ∃ z : Int32, z = (u8_ 0) + Int32.ofInt 1 := ⟨_, rfl⟩
        have b_ := zadd (x := (u8_ 0)) (y := Int32.ofInt 1) rfl (show (Int32.ofInt 1).toInt = 1 from by decide) e_z29 (by omega) (by omega)
        refine lv_iinc (v := z29) (lv' := [(3, .int z29), (0, .ref h0), (1, .int x1), (2, .int x2)]) hx hb dX13_takeWord_29 hl (k := 3) rfl e_z29.symm (by decide) rfl (fun ls hl => ?_)
        refine lv_goto (tgt := 8) hx hb dX13_takeWord_32 (by decide) ?_
        have hc : va_P (dC, dI) vwCl [(h0, .inr (13, mX13 q0 (upd v0 20 (u3_ 0)))), ((q0 0), zi k1 600 f1), ((q0 19), zi k15 12 (a3_ 0))] H ∧ va_D A [(h0, .inr (13, mX13 q0 (upd v0 20 (u3_ 0)))), ((q0 0), zi k1 600 f1), ((q0 19), zi k15 12 (a3_ 0))] ∧ va_S A s.heap H locs ∧ lv_has ls 4 [(0, .ref h0), (1, .int x1), (2, .int x2), (3, .int z29)] ∧ (0 ≤ z29.toInt ∧ z29.toInt ≤ 12) ∧ (x1.toInt ≤ x2.toInt → zAt f1 x1.toInt x2.toInt → zhd (fun k => ((a3_ 0) k).toInt) (z29.toInt).toNat = false) ∧ (z29.toInt ≤ (u3_ 0).toInt) := ⟨hP, hD, hS, lv_sub hl [1, 2, 3, 0] rfl, (by first | with_reducible assumption | exact ⟨by omega, by omega⟩), by first | exact fun _ _ => zhd_0 (by omega) | (intro pq_; exact zhd_m (hI8_0 pq_) hB3_0 e_z21 (by omega) (by omega) (by omega) (by omega) (by omega) (by omega)), by omega⟩
        exact hJ8 H locs ls (fun i => ([z29] : List (Int32)).getD i 0) (fun _ => 0) (fun _ => (fun _ => 0)) (fun _ => (fun _ => 0)) hc (show (12 - z29.toInt).toNat < (12 - (u8_ 0).toInt).toNat from by omega)
      · skip
        have b_ := zF_eq rfl zk_0 c_
        have hhd : zhd (fun k => ((a3_ 0) k).toInt) ((u3_ 0).toInt).toNat = true := by first | exact zhd_t e_z21 (by omega) (by omega) (by omega)
        refine W.widen (k := 0) (n := 0) (by decide) (by decide) ?_
        have hpost : (0 ≤ (u3_ 0).toInt ∧ (u3_ 0).toInt ≤ 12) := (by first | with_reducible assumption | exact ⟨by omega, by omega⟩)
        have hP9 : va_P (dC, dI) vwCl [(h0, .inr (13, mX13 q0 (upd v0 20 (u3_ 0)))), ((q0 0), zi k1 600 f1), ((q0 19), zi k15 12 (a3_ 0))] H := hP
        have hD9 : va_D A [(h0, .inr (13, mX13 q0 (upd v0 20 (u3_ 0)))), ((q0 0), zi k1 600 f1), ((q0 19), zi k15 12 (a3_ 0))] := hD
        have hB0 : zMw f1 x1.toInt x2.toInt (a3_ 0) (u3_ 0).toInt := by first | exact zMw_i hB3_0 (by omega) hX3_0 (fun _ _ => zsm1 hhd (by omega) (by omega)) (fun _ _ => zsl1 hhd) | exact zMw_i hB3_0 (by omega) hX3_0 (fun p_ a_ => zsm2 (hhd p_ a_) hie (by omega) (by omega)) (fun p_ a_ => by rw [e_f_71]; exact zsl2 (hhd p_ a_) hie (by omega) (by omega)) | exact zMw_i hB3_0 (by omega) hX3_0 (fun p_ a_ => zsm3 (hhd p_ a_) hie hin (by omega) (by omega)) (fun _ _ => zsl3 hie) | exact zMw_i hB3_0 (by omega) hX3_0 (fun p_ a_ => zsm4 (hhd p_ a_) hie hin hed (by omega) (by omega)) (fun _ _ => zsl3 hie) | exact zMw_i hB3_0 (by omega) hX3_0 (fun p_ a_ => zsm5 (hhd p_ a_) hie hin hed hes (by omega) (by omega)) (fun _ _ => zsl3 hie) | exact zMw_i hB3_0 (by omega) hX3_0 (fun p_ a_ => zsm6 (hhd p_ a_) hie hin hed hes (by omega) (by omega)) (fun _ _ => zsl3 hie)
        exact W.vret hx hb hr (fun t ht hW => ⟨⟨(fun i => ([(u3_ 0)] : List (Int32)).getD i 0), rfl, hpost, (fun _ => 0), (fun i => ([(a3_ 0)] : List (Nat → Int32)).getD i (fun _ => 0)), (fun _ => (fun _ => 0)), hB0, by rw [ht]; exact hP9, va_K.moved hW.alike hK, hD9⟩, hS.F ht⟩) hS.2.2 dX13_takeWord_28
  · skip
    have hc : va_P (dC, dI) vwCl [(h0, .inr (13, mX13 q0 (upd v0 20 (u3_ 0)))), ((q0 0), zi k1 600 f1), ((q0 19), zi k15 12 (a3_ 0))] H ∧ va_D A [(h0, .inr (13, mX13 q0 (upd v0 20 (u3_ 0)))), ((q0 0), zi k1 600 f1), ((q0 19), zi k15 12 (a3_ 0))] ∧ va_S A s.heap H locs ∧ lv_has ls 4 [(0, .ref h0), (1, .int x1), (2, .int x2), (3, .int 0)] ∧ (0 ≤ (0 : Int32).toInt ∧ (0 : Int32).toInt ≤ 12) ∧ (x1.toInt ≤ x2.toInt → zAt f1 x1.toInt x2.toInt → zhd (fun k => ((a3_ 0) k).toInt) ((0 : Int32).toInt).toNat = false) ∧ ((0 : Int32).toInt ≤ (u3_ 0).toInt) := ⟨hP, hD, hS, lv_sub hl [1, 2, 3, 0] rfl, (by first | with_reducible assumption | exact ⟨by omega, by omega⟩), by first | exact fun _ _ => zhd_0 (by omega) | (intro pq_; exact zhd_m (hI8_0 pq_) hB3_0 e_z21 (by omega) (by omega) (by omega) (by omega) (by omega) (by omega)), by omega⟩
    exact hJ8 H locs ls (fun i => ([0] : List (Int32)).getD i 0) (fun _ => 0) (fun _ => (fun _ => 0)) (fun _ => (fun _ => 0)) hc
set_option maxHeartbeats 8000000 in
set_option maxRecDepth 100000 in
theorem sX13_takesToken_0 (l : Launch) (dC : Nat → ClassId) (dI : Nat → Nat → Nat) (adK adV : Nat → Nat) (h0 : Nat) (q0 : Nat → Nat) (k1 : ClassId) (k15 : ClassId) (sz : Nat) (v0 : Nat → Int32) (f1 : Nat → Int32) (f15 : Nat → Int32) (hv0 : zR rg_Model v0) : Met l yX13_takesToken (zw yX13_takesToken cX13_takesToken 3 (some .boolean)) { frames := 4, cells := 0, slots := 0, locals := 86 } (zPc dC dI adK adV [.ref h0] sz [(h0, .inr (13, mX13 q0 v0)), ((q0 0), zi k1 600 f1), ((q0 19), zi k15 12 f15)] [(k1, .byte), (k15, .byte)]) (va_Qi (fun (r : Int32) (u : Nat → Int32) => (0 ≤ r.toInt ∧ r.toInt ≤ 1) ∧ (0 ≤ (u 0).toInt ∧ (u 0).toInt ≤ 0) ∧ (0 ≤ (u 1).toInt ∧ (u 1).toInt ≤ 12) ∧ (r.toInt = 0 → ∀ i : Int, ¬ zIn f1 (v0 1).toInt i) ∧ (r.toInt = (u 2).toInt)) (fun (u : Nat → Int32) (t : State) => ∃ (ww : Nat → Int64) (aa : Nat → Nat → Int32) (bb : Nat → Nat → Int64), ((u 2).toInt = 1 → zTw f1 (v0 1).toInt (aa 0) (u 1).toInt) ∧ va_P (dC, dI) vwCl [(h0, .inr (13, mX13 q0 (upd (upd v0 1 (u 0)) 20 (u 1)))), ((q0 0), zi k1 600 f1), ((q0 19), zi k15 12 (aa 0))] t.heap ∧ va_K (dC, dI) vwCl [(k1, .byte), (k15, .byte)] t ∧ va_D (va_A [(h0, .inr (13, mX13 q0 v0)), ((q0 0), zi k1 600 f1), ((q0 19), zi k15 12 f15)] sz) [(h0, .inr (13, mX13 q0 (upd (upd v0 1 (u 0)) 20 (u 1)))), ((q0 0), zi k1 600 f1), ((q0 19), zi k15 12 (aa 0))]) (va_A [(h0, .inr (13, mX13 q0 v0)), ((q0 0), zi k1 600 f1), ((q0 19), zi k15 12 f15)] sz)) 0 0 (va_A [(h0, .inr (13, mX13 q0 v0)), ((q0 0), zi k1 600 f1), ((q0 19), zi k15 12 f15)] sz) := by
  refine Met.ofW (cc := cX13_takesToken) (maxL := 3) (ret := (some .boolean)) (by decide) rfl ?_
  intro p e s m args below meth c s₁ B hml hv
  obtain ⟨rfl, hsz, hP, hK, hD0, hE, hZ⟩ := hv
  have hx := B.exec
  have hb := B.bytes
  have hr := B.returns
  have hG : ∀ w ∈ zG, w.before _ s = true := fun w h => atoms_spec (ws := (zw yX13_takesToken cX13_takesToken 3 (some .boolean))) B.pre w (List.mem_cons_of_mem _ h)
  have hown : s.vm.findClass RX13 = some m.cls := findClass_of_methodNamed B.named
  have hlocks := B.notSynchronized

  subst hsz
  have hD := hD0.self (sz := s.heap.size)
  generalize hAe : va_A [(h0, .inr (13, mX13 q0 v0)), ((q0 0), zi k1 600 f1), ((q0 19), zi k15 12 f15)] s.heap.size = A at hD hZ ⊢
  have hA : ∀ q : Nat, s.heap.size ≤ q → A q := fun q h => by rw [← hAe]; exact Or.inr h
  have hS : va_S A s.heap s.heap [] := va_S.rf
  have hl := lv_entry ([.ref h0]) (n := 3) (Nat.le_of_ble_eq_true rfl)
  rw [lg_entry_eq]
  generalize (lg_sl ([.ref h0]) ++ List.replicate (3 - (lg_sl ([.ref h0])).length) Slot.unset).toArray = ls at hl ⊢
  have hl : lv_has ls 3 [(0, .ref h0)] := hl
  have b_ := zk_0
  have b_ := zk_1
  have b_ : 0 ≤ (v0 1).toInt ∧ (v0 1).toInt ≤ 600 := hv0 1
  refine lv_aload_n hx hb dX13_takesToken_0 rfl (lv_at hl 0 rfl) ?_
  refine va_get (D := (dC, dI)) (ci := 13) (v := .int (v0 1)) (C := RX13) (T := TX13) (N := 75) hx hb hG zuX13 hown hK hP 0 rfl rfl 1 (by decide) (hG _ zv1605) (fun _ h9 => h9) rfl dX13_takesToken_1 ?_
  refine lv_istore_n (lv' := [(1, .int (v0 1)), (0, .ref h0)]) hx hb dX13_takesToken_4 rfl hl (by decide) rfl (fun ls hl => ?_)
  refine lv_aload_n hx hb dX13_takesToken_5 rfl (lv_at hl 1 rfl) ?_
  refine lv_iconst (v := 0) hx hb dX13_takesToken_6 (by decide) ?_
  refine va_put (D := (dC, dI)) (ci := 13) (v := .int 0) (ty := .int) (C := RX13) (T := TX13) (N := 75) hx hb hG zuX13 tyX13 tyX13_ok nmX13 hown hK hP hD hS 0 rfl rfl 1 (by decide) (hG _ zv1605) (fun _ h9 => h9) rfl (by decide +kernel) rfl rfl (Nat.le_of_ble_eq_true rfl) dX13_takesToken_7 (fun H locs hP hD hS => ?_)
  have hP : va_P (dC, dI) vwCl [(h0, .inr (13, mX13 q0 (upd v0 1 0))), ((q0 0), zi k1 600 f1), ((q0 19), zi k15 12 f15)] H := hP
  have hD : va_D A [(h0, .inr (13, mX13 q0 (upd v0 1 0))), ((q0 0), zi k1 600 f1), ((q0 19), zi k15 12 f15)] := hD
  refine lv_aload_n hx hb dX13_takesToken_10 rfl (lv_at hl 1 rfl) ?_
  refine lv_iconst (v := 0) hx hb dX13_takesToken_11 (by decide) ?_
  refine lv_iload_n hx hb dX13_takesToken_12 rfl (lv_at hl 0 rfl) ?_
  have hPc := hP.sub (ws' := [(h0, .inr (13, mX13 q0 (upd v0 1 0))), ((q0 0), zi k1 600 f1)]) [0, 1] rfl
  have hDc := hD.sub (ws' := [(h0, .inr (13, mX13 q0 (upd v0 1 0))), ((q0 0), zi k1 600 f1)]) [0, 1] (by decide) rfl
  have hKc := hK.sub (tys' := [(k1, .byte)]) [0] rfl
  have hFc := va_free (wc := [(h0, .inr (13, mX13 q0 (upd v0 1 0))), ((q0 0), zi k1 600 f1)]) hD hS hA [0, 1] rfl
  refine va_calli (va_runV (As := [.int 0, .int (v0 1)]) (rest := []) ⟨hx, hb, hml, hown, hG⟩ (sX13_runFrom_0 l dC dI adK adV h0 q0 k1 H.size (upd v0 1 0) f1 0 (v0 1) (zR_upd hv0 1 (show (0 : Int) ≤ (0 : Int32).toInt from by decide) (show (0 : Int32).toInt ≤ (600 : Int) from by decide)) ⟨show (0 : Int) ≤ (0 : Int32).toInt from by decide, show (0 : Int32).toInt ≤ (600 : Int) from by decide⟩ (show (0 : Int) ≤ ((v0 1) : Int32).toInt ∧ ((v0 1) : Int32).toInt ≤ (600 : Int) from (by first | with_reducible assumption | exact ⟨by omega, by omega⟩))) (cwV 2 hG (zgV zv1955 zv1957 zv67 zv142 zv1958) rfl rfl rfl (by decide +kernel) ⟨Nat.le_of_ble_eq_true rfl, Nat.le_of_ble_eq_true rfl⟩) ⟨zPc_blind, va_recv hKc hPc (ci := 13) (q0 := 0) rfl rfl, zPc_pre hPc hKc hDc hE hS hFc hZ⟩ rfl rfl hl.1 rfl (lv_room (Nat.le_of_ble_eq_true rfl)) dX13_takesToken_13 ⟨Nat.le_of_ble_eq_true rfl, Nat.le_of_ble_eq_true rfl⟩) hS (fun q _ h => hFc q h) hFc (fun r13_ u13_ t H1 locs ht hvm hw hB hz1 hk1 hS => ?_)
  replace hw : (0 ≤ r13_.toInt ∧ r13_.toInt ≤ 600) ∧ ((0 : Int32).toInt ≤ r13_.toInt) ∧ (r13_.toInt ≤ (v0 1).toInt ∨ r13_.toInt = (0 : Int32).toInt) ∧ (zNt f1 (0 : Int32).toInt r13_.toInt) ∧ (r13_.toInt < (v0 1).toInt → zTok (f1 ((r13_ : Int32)).toNatClampNeg).toInt) := hw
  obtain ⟨b_, hX13_0, hX13_1, hX13_2, hX13_3⟩ := hw
  obtain ⟨w13_, a13_, b13_, hP1, hK1, hD1⟩ := hB
  rw [ht] at hP1
  obtain ⟨hP, hD⟩ := va_join (wr := [((q0 19), zi k15 12 f15)]) (w1 := [(h0, .inr (13, mX13 q0 (upd v0 1 0))), ((q0 0), zi k1 600 f1)]) hP hD [0, 1] [2] rfl rfl (by decide) (by decide) hk1 hFc hP1 hD1
  have hP : va_P (dC, dI) vwCl [(h0, .inr (13, mX13 q0 (upd v0 1 0))), ((q0 0), zi k1 600 f1), ((q0 19), zi k15 12 f15)] H1 := hP.sub [1, 2, 0] rfl
  have hD : va_D A [(h0, .inr (13, mX13 q0 (upd v0 1 0))), ((q0 0), zi k1 600 f1), ((q0 19), zi k15 12 f15)] := hD.sub [1, 2, 0] (by decide) rfl
  generalize H1 = H at hP hS ⊢
  clear hz1
  refine lv_istore_n (lv' := [(2, .int r13_), (1, .int (v0 1)), (0, .ref h0)]) hx hb dX13_takesToken_16 rfl hl (by decide) rfl (fun ls hl => ?_)
  refine lv_iload_n hx hb dX13_takesToken_17 rfl (lv_at hl 0 rfl) ?_
  refine lv_iload_n hx hb dX13_takesToken_18 rfl (lv_at hl 1 rfl) ?_
  refine lv_icmp_ne (tgt := 24) hx hb dX13_takesToken_19 (by decide) (fun c_ => ?_) (fun c_ => ?_)
  · skip
    have b_ := zT_ne rfl rfl c_
    refine lv_aload_n hx hb dX13_takesToken_24 rfl (lv_at hl 2 rfl) ?_
    refine lv_iload_n hx hb dX13_takesToken_25 rfl (lv_at hl 0 rfl) ?_
    refine lv_aload_n hx hb dX13_takesToken_26 rfl (lv_at hl 2 rfl) ?_
    refine lv_iload_n hx hb dX13_takesToken_27 rfl (lv_at hl 0 rfl) ?_
    refine lv_iload_n hx hb dX13_takesToken_28 rfl (lv_at hl 1 rfl) ?_
    have hPc := hP.sub (ws' := [(h0, .inr (13, mX13 q0 (upd v0 1 0))), ((q0 0), zi k1 600 f1)]) [0, 1] rfl
    have hDc := hD.sub (ws' := [(h0, .inr (13, mX13 q0 (upd v0 1 0))), ((q0 0), zi k1 600 f1)]) [0, 1] (by decide) rfl
    have hKc := hK.sub (tys' := [(k1, .byte)]) [0] rfl
    have hFc := va_free (wc := [(h0, .inr (13, mX13 q0 (upd v0 1 0))), ((q0 0), zi k1 600 f1)]) hD hS hA [0, 1] rfl
    refine va_calli (va_runV (As := [.int r13_, .int (v0 1)]) (rest := [.int r13_, .ref h0]) ⟨hx, hb, hml, hown, hG⟩ (sX13_runEnd_0 l dC dI adK adV h0 q0 k1 H.size (upd v0 1 0) f1 r13_ (v0 1) (zR_upd hv0 1 (show (0 : Int) ≤ (0 : Int32).toInt from by decide) (show (0 : Int32).toInt ≤ (600 : Int) from by decide)) (show (0 : Int) ≤ (r13_ : Int32).toInt ∧ (r13_ : Int32).toInt ≤ (600 : Int) from (by first | with_reducible assumption | exact ⟨by omega, by omega⟩)) (show (0 : Int) ≤ ((v0 1) : Int32).toInt ∧ ((v0 1) : Int32).toInt ≤ (600 : Int) from (by first | with_reducible assumption | exact ⟨by omega, by omega⟩))) (cwV 2 hG (zgV zv1862 zv1864 zv51 zv142 zv1865) rfl rfl rfl (by decide +kernel) ⟨Nat.le_of_ble_eq_true rfl, Nat.le_of_ble_eq_true rfl⟩) ⟨zPc_blind, va_recv hKc hPc (ci := 13) (q0 := 0) rfl rfl, zPc_pre hPc hKc hDc hE hS hFc hZ⟩ rfl rfl hl.1 rfl (lv_room (Nat.le_of_ble_eq_true rfl)) dX13_takesToken_29 ⟨Nat.le_of_ble_eq_true rfl, Nat.le_of_ble_eq_true rfl⟩) hS (fun q _ h => hFc q h) hFc (fun r29_ u29_ t H1 locs ht hvm hw hB hz1 hk1 hS => ?_)
    replace hw : (0 ≤ r29_.toInt ∧ r29_.toInt ≤ 600) ∧ (r13_.toInt ≤ r29_.toInt) ∧ (r29_.toInt ≤ (v0 1).toInt ∨ r29_.toInt = r13_.toInt) ∧ (r29_.toInt ≤ 600) ∧ (r29_.toInt < (v0 1).toInt → ¬ zTok (f1 ((r29_ : Int32)).toNatClampNeg).toInt) ∧ (r13_.toInt < (v0 1).toInt → zTok (f1 ((r13_ : Int32)).toNatClampNeg).toInt → r13_.toInt < r29_.toInt) ∧ (zAt f1 r13_.toInt r29_.toInt) := hw
    obtain ⟨b_, hX29_0, hX29_1, hX29_2, hX29_3, hX29_4, hX29_5⟩ := hw
    obtain ⟨w29_, a29_, b29_, hP1, hK1, hD1⟩ := hB
    rw [ht] at hP1
    obtain ⟨hP, hD⟩ := va_join (wr := [((q0 19), zi k15 12 f15)]) (w1 := [(h0, .inr (13, mX13 q0 (upd v0 1 0))), ((q0 0), zi k1 600 f1)]) hP hD [0, 1] [2] rfl rfl (by decide) (by decide) hk1 hFc hP1 hD1
    have hP : va_P (dC, dI) vwCl [(h0, .inr (13, mX13 q0 (upd v0 1 0))), ((q0 0), zi k1 600 f1), ((q0 19), zi k15 12 f15)] H1 := hP.sub [1, 2, 0] rfl
    have hD : va_D A [(h0, .inr (13, mX13 q0 (upd v0 1 0))), ((q0 0), zi k1 600 f1), ((q0 19), zi k15 12 f15)] := hD.sub [1, 2, 0] (by decide) rfl
    generalize H1 = H at hP hS ⊢
    clear hz1
    have hPc := hP.sub (ws' := [(h0, .inr (13, mX13 q0 (upd v0 1 0))), ((q0 0), zi k1 600 f1), ((q0 19), zi k15 12 f15)]) [0, 1, 2] rfl
    have hDc := hD.sub (ws' := [(h0, .inr (13, mX13 q0 (upd v0 1 0))), ((q0 0), zi k1 600 f1), ((q0 19), zi k15 12 f15)]) [0, 1, 2] (by decide) rfl
    have hKc := hK.sub (tys' := [(k1, .byte), (k15, .byte)]) [0, 1] rfl
    have hFc := va_free (wc := [(h0, .inr (13, mX13 q0 (upd v0 1 0))), ((q0 0), zi k1 600 f1), ((q0 19), zi k15 12 f15)]) hD hS hA [0, 1, 2] rfl
    refine va_callv (va_runV (As := [.int r13_, .int r29_]) (rest := []) ⟨hx, hb, hml, hown, hG⟩ (sX13_takeWord_0 l dC dI adK adV h0 q0 k1 k15 H.size (upd v0 1 0) f1 f15 r13_ r29_ (zR_upd hv0 1 (show (0 : Int) ≤ (0 : Int32).toInt from by decide) (show (0 : Int32).toInt ≤ (600 : Int) from by decide)) (show (0 : Int) ≤ (r13_ : Int32).toInt ∧ (r13_ : Int32).toInt ≤ (600 : Int) from (by first | with_reducible assumption | exact ⟨by omega, by omega⟩)) (show (0 : Int) ≤ (r29_ : Int32).toInt ∧ (r29_ : Int32).toInt ≤ (600 : Int) from (by first | with_reducible assumption | exact ⟨by omega, by omega⟩))) (cwV 2 hG (zgV zv1866 zv1868 zv52 zv142 zv1869) rfl rfl rfl (by decide +kernel) ⟨Nat.le_of_ble_eq_true rfl, Nat.le_of_ble_eq_true rfl⟩) ⟨zPc_blind, va_recv hKc hPc (ci := 13) (q0 := 0) rfl rfl, zPc_pre hPc hKc hDc hE hS hFc hZ⟩ rfl rfl hl.1 rfl (lv_room (Nat.le_of_ble_eq_true rfl)) dX13_takesToken_32 ⟨Nat.le_of_ble_eq_true rfl, Nat.le_of_ble_eq_true rfl⟩) hS (fun q _ h => hFc q h) hFc (fun u32_ t H1 locs ht hvm hw hB hz1 hk1 hS => ?_)
    replace hw : (0 ≤ (u32_ 0).toInt ∧ (u32_ 0).toInt ≤ 12) := hw
    have b_ := hw
    obtain ⟨w32_, a32_, b32_, hB32_0, hP1, hK1, hD1⟩ := hB
    have hB32_0 : zMw f1 r13_.toInt r29_.toInt (a32_ 0) (u32_ 0).toInt := hB32_0
    rw [ht] at hP1
    obtain ⟨hP, hD⟩ := va_join (wr := []) (w1 := [(h0, .inr (13, mX13 q0 (upd (upd v0 1 0) 20 (u32_ 0)))), ((q0 0), zi k1 600 f1), ((q0 19), zi k15 12 (a32_ 0))]) hP hD [0, 1, 2] [] rfl rfl (by decide) (by decide) hk1 hFc hP1 hD1
    have hP : va_P (dC, dI) vwCl [(h0, .inr (13, mX13 q0 (upd (upd v0 1 0) 20 (u32_ 0)))), ((q0 0), zi k1 600 f1), ((q0 19), zi k15 12 (a32_ 0))] H1 := hP.sub [0, 1, 2] rfl
    have hD : va_D A [(h0, .inr (13, mX13 q0 (upd (upd v0 1 0) 20 (u32_ 0)))), ((q0 0), zi k1 600 f1), ((q0 19), zi k15 12 (a32_ 0))] := hD.sub [0, 1, 2] (by decide) rfl
    generalize H1 = H at hP hS ⊢
    clear hz1
    refine lv_iconst (v := 1) hx hb dX13_takesToken_35 (by decide) ?_
    refine W.widen (k := 0) (n := 0) (by decide) (by decide) ?_
    have hpost : (0 ≤ (1 : Int32).toInt ∧ (1 : Int32).toInt ≤ 1) ∧ (0 ≤ (0 : Int32).toInt ∧ (0 : Int32).toInt ≤ 0) ∧ (0 ≤ (u32_ 0).toInt ∧ (u32_ 0).toInt ≤ 12) ∧ ((1 : Int32).toInt = 0 → ∀ i : Int, ¬ zIn f1 (v0 1).toInt i) ∧ ((1 : Int32).toInt = (1 : Int32).toInt) := ⟨(by first | with_reducible assumption | exact ⟨by omega, by omega⟩), (by first | with_reducible assumption | exact ⟨by omega, by omega⟩), (by first | with_reducible assumption | exact ⟨by omega, by omega⟩), by first | (intro q; exact absurd q (by decide)) | exact fun _ => zNo_i hX13_2 (by first | decide | omega) (by omega), rfl⟩
    have hP9 : va_P (dC, dI) vwCl [(h0, .inr (13, mX13 q0 (upd (upd v0 1 0) 20 (u32_ 0)))), ((q0 0), zi k1 600 f1), ((q0 19), zi k15 12 (a32_ 0))] H := hP
    have hD9 : va_D A [(h0, .inr (13, mX13 q0 (upd (upd v0 1 0) 20 (u32_ 0)))), ((q0 0), zi k1 600 f1), ((q0 19), zi k15 12 (a32_ 0))] := hD
    have hB0 : (1 : Int32).toInt = 1 → zTw f1 (v0 1).toInt (a32_ 0) (u32_ 0).toInt := by first | (intro q; exact absurd q (by decide)) | exact fun _ => zTw_i hX13_2 (by first | decide | omega) hX13_3 (by omega) (by omega) (by omega) (by omega) hX29_5 hX29_3 hB32_0
    exact W.zret (v := 1) hx hb hr rfl (fun t ht hW => ⟨⟨1, (fun i => ([0, (u32_ 0), 1] : List (Int32)).getD i 0), rfl, hpost, (fun _ => 0), (fun i => ([(a32_ 0)] : List (Nat → Int32)).getD i (fun _ => 0)), (fun _ => (fun _ => 0)), hB0, by rw [ht]; exact hP9, va_K.moved hW.alike hK, hD9⟩, hS.F ht⟩) hS.2.2 dX13_takesToken_36
  · skip
    have b_ := zF_ne rfl rfl c_
    refine lv_iconst (v := 0) hx hb dX13_takesToken_22 (by decide) ?_
    refine W.widen (k := 0) (n := 0) (by decide) (by decide) ?_
    have b_ : 0 ≤ (v0 20).toInt ∧ (v0 20).toInt ≤ 12 := hv0 20
    have hpost : (0 ≤ (0 : Int32).toInt ∧ (0 : Int32).toInt ≤ 1) ∧ (0 ≤ (0 : Int32).toInt ∧ (0 : Int32).toInt ≤ 0) ∧ (0 ≤ (v0 20).toInt ∧ (v0 20).toInt ≤ 12) ∧ ((0 : Int32).toInt = 0 → ∀ i : Int, ¬ zIn f1 (v0 1).toInt i) ∧ ((0 : Int32).toInt = (0 : Int32).toInt) := ⟨(by first | with_reducible assumption | exact ⟨by omega, by omega⟩), (by first | with_reducible assumption | exact ⟨by omega, by omega⟩), (by first | with_reducible assumption | exact ⟨by omega, by omega⟩), by first | (intro q; exact absurd q (by decide)) | exact fun _ => zNo_i hX13_2 (by first | decide | omega) (by omega), rfl⟩
    have hP9 : va_P (dC, dI) vwCl [(h0, .inr (13, mX13 q0 (upd (upd v0 1 0) 20 (v0 20)))), ((q0 0), zi k1 600 f1), ((q0 19), zi k15 12 f15)] H := hP
    have hD9 : va_D A [(h0, .inr (13, mX13 q0 (upd (upd v0 1 0) 20 (v0 20)))), ((q0 0), zi k1 600 f1), ((q0 19), zi k15 12 f15)] := hD
    have hB0 : (0 : Int32).toInt = 1 → zTw f1 (v0 1).toInt f15 (v0 20).toInt := by first | (intro q; exact absurd q (by decide)) | exact fun _ => zTw_i hX13_2 (by first | decide | omega) hX13_3 (by omega) (by omega) (by omega) (by omega) hX29_5 hX29_3 hB32_0
    exact W.zret (v := 0) hx hb hr rfl (fun t ht hW => ⟨⟨0, (fun i => ([0, (v0 20), 0] : List (Int32)).getD i 0), rfl, hpost, (fun _ => 0), (fun i => ([f15] : List (Nat → Int32)).getD i (fun _ => 0)), (fun _ => (fun _ => 0)), hB0, by rw [ht]; exact hP9, va_K.moved hW.alike hK, hD9⟩, hS.F ht⟩) hS.2.2 dX13_takesToken_23
set_option maxHeartbeats 8000000 in
set_option maxRecDepth 100000 in
theorem sX13_distance_0 (l : Launch) (dC : Nat → ClassId) (dI : Nat → Nat → Nat) (adK adV : Nat → Nat) (h0 : Nat) (q0 : Nat → Nat) (k3 : ClassId) (k47 : ClassId) (k15 : ClassId) (k2 : ClassId) (sz : Nat) (v0 : Nat → Int32) (f3 : Nat → Int32) (f47 : Nat → Int32) (f15 : Nat → Int32) (f2 : Nat → Int32) (x1 : Int32) (hv0 : zR rg_Model v0) (hf3 : zA 0 12 f3) (hx1 : 0 ≤ x1.toInt ∧ x1.toInt ≤ 399) : Met l yX13_distance (zw yX13_distance cX13_distance 6 (some .int)) { frames := 1, cells := 0, slots := 0, locals := 40 } (zPc dC dI adK adV [.ref h0, .int x1] sz [(h0, .inr (13, mX13 q0 v0)), ((q0 3), zi k3 400 f3), ((q0 72), zi k47 13 f47), ((q0 19), zi k15 12 f15), ((q0 2), zi k2 4800 f2)] [(k3, .int), (k47, .int), (k15, .byte), (k2, .byte)]) (va_Qi (fun (r : Int32) (u : Nat → Int32) => True) (fun (u : Nat → Int32) (t : State) => ∃ (ww : Nat → Int64) (aa : Nat → Nat → Int32) (bb : Nat → Nat → Int64), va_P (dC, dI) vwCl [(h0, .inr (13, mX13 q0 v0)), ((q0 3), zi k3 400 f3), ((q0 72), zi k47 13 (aa 0)), ((q0 19), zi k15 12 f15), ((q0 2), zi k2 4800 f2)] t.heap ∧ va_K (dC, dI) vwCl [(k3, .int), (k47, .int), (k15, .byte), (k2, .byte)] t ∧ va_D (va_A [(h0, .inr (13, mX13 q0 v0)), ((q0 3), zi k3 400 f3), ((q0 72), zi k47 13 f47), ((q0 19), zi k15 12 f15), ((q0 2), zi k2 4800 f2)] sz) [(h0, .inr (13, mX13 q0 v0)), ((q0 3), zi k3 400 f3), ((q0 72), zi k47 13 (aa 0)), ((q0 19), zi k15 12 f15), ((q0 2), zi k2 4800 f2)]) (va_A [(h0, .inr (13, mX13 q0 v0)), ((q0 3), zi k3 400 f3), ((q0 72), zi k47 13 f47), ((q0 19), zi k15 12 f15), ((q0 2), zi k2 4800 f2)] sz)) 0 0 (va_A [(h0, .inr (13, mX13 q0 v0)), ((q0 3), zi k3 400 f3), ((q0 72), zi k47 13 f47), ((q0 19), zi k15 12 f15), ((q0 2), zi k2 4800 f2)] sz) := by
  refine Met.ofW (cc := cX13_distance) (maxL := 6) (ret := (some .int)) (by decide) rfl ?_
  intro p e s m args below meth c s₁ B hml hv
  obtain ⟨rfl, hsz, hP, hK, hD0, hE, hZ⟩ := hv
  have hx := B.exec
  have hb := B.bytes
  have hr := B.returns
  have hG : ∀ w ∈ zG, w.before _ s = true := fun w h => atoms_spec (ws := (zw yX13_distance cX13_distance 6 (some .int))) B.pre w (List.mem_cons_of_mem _ h)
  have hown : s.vm.findClass RX13 = some m.cls := findClass_of_methodNamed B.named
  have hlocks := B.notSynchronized

  subst hsz
  have hD := hD0.self (sz := s.heap.size)
  generalize hAe : va_A [(h0, .inr (13, mX13 q0 v0)), ((q0 3), zi k3 400 f3), ((q0 72), zi k47 13 f47), ((q0 19), zi k15 12 f15), ((q0 2), zi k2 4800 f2)] s.heap.size = A at hD hZ ⊢
  have hA : ∀ q : Nat, s.heap.size ≤ q → A q := fun q h => by rw [← hAe]; exact Or.inr h
  have hS : va_S A s.heap s.heap [] := va_S.rf
  have hl := lv_entry ([.ref h0, .int x1]) (n := 6) (Nat.le_of_ble_eq_true rfl)
  rw [lg_entry_eq]
  generalize (lg_sl ([.ref h0, .int x1]) ++ List.replicate (6 - (lg_sl ([.ref h0, .int x1])).length) Slot.unset).toArray = ls at hl ⊢
  have hl : lv_has ls 6 [(0, .ref h0), (1, .int x1)] := hl
  have b_ := zk_0
  have b_ := zk_1
  refine lv_iconst (v := 0) hx hb dX13_distance_0 (by decide) ?_
  refine lv_istore_n (lv' := [(2, .int 0), (0, .ref h0), (1, .int x1)]) hx hb dX13_distance_1 rfl hl (by decide) rfl (fun ls hl => ?_)
  refine zcutL (fun u2_ => (13 - (u2_ 0).toInt).toNat) (fun H locs ls u2_ w2_ a2_ b2_ => va_P (dC, dI) vwCl [(h0, .inr (13, mX13 q0 v0)), ((q0 3), zi k3 400 f3), ((q0 72), zi k47 13 (a2_ 0)), ((q0 19), zi k15 12 f15), ((q0 2), zi k2 4800 f2)] H ∧ va_D A [(h0, .inr (13, mX13 q0 v0)), ((q0 3), zi k3 400 f3), ((q0 72), zi k47 13 (a2_ 0)), ((q0 19), zi k15 12 f15), ((q0 2), zi k2 4800 f2)] ∧ va_S A s.heap H locs ∧ lv_has ls 6 [(0, .ref h0), (1, .int x1), (2, .int (u2_ 0))] ∧ (0 ≤ (u2_ 0).toInt ∧ (u2_ 0).toInt ≤ 13)) (fun ls u2_ w2_ => F0 m 2 ls []) 0 0 ?_ (fun hJ2 => ?_)
  · skip
    intro H locs ls u2_ w2_ a2_ b2_ hc hJ2
    obtain ⟨hP, hD, hS, hl, b_⟩ := hc
    refine lv_iload_n hx hb dX13_distance_2 rfl (lv_at hl 2 rfl) ?_
    refine lv_aload_n hx hb dX13_distance_3 rfl (lv_at hl 0 rfl) ?_
    refine va_get (D := (dC, dI)) (ci := 13) (v := .ref (q0 3)) (C := RX13) (T := TX13) (N := 75) hx hb hG zuX13 hown hK hP 0 rfl rfl 3 (by decide) (hG _ zv1607) (fun _ h9 => h9) rfl dX13_distance_4 ?_
    refine lv_iload_n hx hb dX13_distance_7 rfl (lv_at hl 1 rfl) ?_
    refine va_iald hx hb hK hP 1 0 rfl rfl (zin_lit ⟨by omega, by omega⟩) dX13_distance_8 ?_
    refine lv_topi (fun z8 e_z8 => ?_)
    have b_ : 0 ≤ z8.toInt ∧ z8.toInt ≤ 12 := by rw [e_z8]; exact hf3 _
    refine lv_icmp_gt (tgt := 25) hx hb dX13_distance_9 (by decide) (fun c_ => ?_) (fun c_ => ?_)
    · skip
      have b_ := zT_gt rfl rfl c_
      refine lv_iconst (v := 1) hx hb dX13_distance_25 (by decide) ?_
      refine lv_istore_n (lv' := [(2, .int 1), (0, .ref h0), (1, .int x1)]) hx hb dX13_distance_26 rfl hl (by decide) rfl (fun ls hl => ?_)
      refine zcutL (fun u27_ => (13 - (u27_ 0).toInt).toNat) (fun H locs ls u27_ w27_ a27_ b27_ => va_P (dC, dI) vwCl [(h0, .inr (13, mX13 q0 v0)), ((q0 3), zi k3 400 f3), ((q0 72), zi k47 13 (a27_ 0)), ((q0 19), zi k15 12 f15), ((q0 2), zi k2 4800 f2)] H ∧ va_D A [(h0, .inr (13, mX13 q0 v0)), ((q0 3), zi k3 400 f3), ((q0 72), zi k47 13 (a27_ 0)), ((q0 19), zi k15 12 f15), ((q0 2), zi k2 4800 f2)] ∧ va_S A s.heap H locs ∧ lv_has ls 6 [(0, .ref h0), (1, .int x1), (2, .int (u27_ 0))] ∧ (1 ≤ (u27_ 0).toInt ∧ (u27_ 0).toInt ≤ 13)) (fun ls u27_ w27_ => F0 m 27 ls []) 0 0 ?_ (fun hJ27 => ?_)
      · skip
        intro H locs ls u27_ w27_ a27_ b27_ hc hJ27
        obtain ⟨hP, hD, hS, hl, b_⟩ := hc
        refine lv_iload_n hx hb dX13_distance_27 rfl (lv_at hl 2 rfl) ?_
        refine lv_aload_n hx hb dX13_distance_28 rfl (lv_at hl 0 rfl) ?_
        have b_ : 0 ≤ (v0 20).toInt ∧ (v0 20).toInt ≤ 12 := hv0 20
        refine va_get (D := (dC, dI)) (ci := 13) (v := .int (v0 20)) (C := RX13) (T := TX13) (N := 75) hx hb hG zuX13 hown hK hP 0 rfl rfl 20 (by decide) (hG _ zv1624) (fun _ h9 => h9) rfl dX13_distance_29 ?_
        refine lv_icmp_gt (tgt := 150) hx hb dX13_distance_32 (by decide) (fun c_ => ?_) (fun c_ => ?_)
        · skip
          have b_ := zT_gt rfl rfl c_
          refine lv_aload_n hx hb dX13_distance_150 rfl (lv_at hl 0 rfl) ?_
          refine va_get (D := (dC, dI)) (ci := 13) (v := .ref (q0 72)) (C := RX13) (T := TX13) (N := 75) hx hb hG zuX13 hown hK hP 0 rfl rfl 72 (by decide) (hG _ zv1676) (fun _ h9 => h9) rfl dX13_distance_151 ?_
          refine lv_aload_n hx hb dX13_distance_154 rfl (lv_at hl 0 rfl) ?_
          refine va_get (D := (dC, dI)) (ci := 13) (v := .ref (q0 3)) (C := RX13) (T := TX13) (N := 75) hx hb hG zuX13 hown hK hP 0 rfl rfl 3 (by decide) (hG _ zv1607) (fun _ h9 => h9) rfl dX13_distance_155 ?_
          refine lv_iload_n hx hb dX13_distance_158 rfl (lv_at hl 1 rfl) ?_
          refine va_iald hx hb hK hP 1 0 rfl rfl (zin_lit ⟨by omega, by omega⟩) dX13_distance_159 ?_
          refine lv_topi (fun z159 e_z159 => ?_)
          have b_ : 0 ≤ z159.toInt ∧ z159.toInt ≤ 12 := by rw [e_z159]; exact hf3 _
          refine va_iald hx hb hK hP 2 1 rfl rfl (zin_lit ⟨by omega, by omega⟩) dX13_distance_160 ?_
          refine lv_topi (fun z160 e_z160 => ?_)
          refine W.widen (k := 0) (n := 0) (by decide) (by decide) ?_
          have b_ : -2147483648 ≤ z160.toInt ∧ z160.toInt ≤ 2147483647 := ⟨zlo _, zhi _⟩
          have hpost : True := trivial
          have hP9 : va_P (dC, dI) vwCl [(h0, .inr (13, mX13 q0 v0)), ((q0 3), zi k3 400 f3), ((q0 72), zi k47 13 (a27_ 0)), ((q0 19), zi k15 12 f15), ((q0 2), zi k2 4800 f2)] H := hP
          have hD9 : va_D A [(h0, .inr (13, mX13 q0 v0)), ((q0 3), zi k3 400 f3), ((q0 72), zi k47 13 (a27_ 0)), ((q0 19), zi k15 12 f15), ((q0 2), zi k2 4800 f2)] := hD
          exact W.iret (v := z160) hx hb hr (fun t ht hW => ⟨⟨z160, (fun _ => 0), rfl, hpost, (fun _ => 0), (fun i => ([(a27_ 0)] : List (Nat → Int32)).getD i (fun _ => 0)), (fun _ => (fun _ => 0)), by rw [ht]; exact hP9, va_K.moved hW.alike hK, hD9⟩, hS.F ht⟩) hS.2.2 dX13_distance_161
        · skip
          have b_ := zF_gt rfl rfl c_
          refine lv_aload_n hx hb dX13_distance_35 rfl (lv_at hl 0 rfl) ?_
          refine va_get (D := (dC, dI)) (ci := 13) (v := .ref (q0 72)) (C := RX13) (T := TX13) (N := 75) hx hb hG zuX13 hown hK hP 0 rfl rfl 72 (by decide) (hG _ zv1676) (fun _ h9 => h9) rfl dX13_distance_36 ?_
          refine lv_iconst (v := 0) hx hb dX13_distance_39 (by decide) ?_
          refine va_iald hx hb hK hP 2 1 rfl rfl (zin_lit (by decide)) dX13_distance_40 ?_
          refine lv_topi (fun z40 e_z40 => ?_)
          refine lv_istore_n (lv' := [(3, .int z40), (0, .ref h0), (1, .int x1), (2, .int (u27_ 0))]) hx hb dX13_distance_41 rfl hl (by decide) rfl (fun ls hl => ?_)
          refine lv_aload_n hx hb dX13_distance_42 rfl (lv_at hl 1 rfl) ?_
          refine va_get (D := (dC, dI)) (ci := 13) (v := .ref (q0 72)) (C := RX13) (T := TX13) (N := 75) hx hb hG zuX13 hown hK hP 0 rfl rfl 72 (by decide) (hG _ zv1676) (fun _ h9 => h9) rfl dX13_distance_43 ?_
          refine lv_iconst (v := 0) hx hb dX13_distance_46 (by decide) ?_
          refine lv_iload_n hx hb dX13_distance_47 rfl (lv_at hl 3 rfl) ?_
          refine va_iast hx hb hK hP hD hS 2 1 rfl rfl (zin_lit (by decide)) dX13_distance_48 (fun H locs hP hD hS => ?_)
          obtain ⟨f_48, e_f_48⟩ : ∃ z : Nat → Int32, z = upd (a27_ 0) (0 : Int32).toNatClampNeg (u27_ 0) := ⟨_, rfl⟩
          have hP : va_P (dC, dI) vwCl [(h0, .inr (13, mX13 q0 v0)), ((q0 3), zi k3 400 f3), ((q0 72), zi k47 13 f_48), ((q0 19), zi k15 12 f15), ((q0 2), zi k2 4800 f2)] H := by rw [e_f_48]; exact hP
          have hD : va_D A [(h0, .inr (13, mX13 q0 v0)), ((q0 3), zi k3 400 f3), ((q0 72), zi k47 13 f_48), ((q0 19), zi k15 12 f15), ((q0 2), zi k2 4800 f2)] := by rw [e_f_48]; exact hD
          refine lv_iconst (v := 1) hx hb dX13_distance_49 (by decide) ?_
          refine lv_istore (lv' := [(4, .int 1), (3, .int z40), (0, .ref h0), (1, .int x1), (2, .int (u27_ 0))]) hx hb dX13_distance_50 hl (by decide) rfl (fun ls hl => ?_)
          refine zcutL (fun u52_ => (13 - (u52_ 1).toInt).toNat) (fun H locs ls u52_ w52_ a52_ b52_ => va_P (dC, dI) vwCl [(h0, .inr (13, mX13 q0 v0)), ((q0 3), zi k3 400 f3), ((q0 72), zi k47 13 (a52_ 0)), ((q0 19), zi k15 12 f15), ((q0 2), zi k2 4800 f2)] H ∧ va_D A [(h0, .inr (13, mX13 q0 v0)), ((q0 3), zi k3 400 f3), ((q0 72), zi k47 13 (a52_ 0)), ((q0 19), zi k15 12 f15), ((q0 2), zi k2 4800 f2)] ∧ va_S A s.heap H locs ∧ lv_has ls 6 [(0, .ref h0), (1, .int x1), (2, .int (u27_ 0)), (3, .int (u52_ 0)), (4, .int (u52_ 1))] ∧ (1 ≤ (u52_ 1).toInt ∧ (u52_ 1).toInt ≤ 13)) (fun ls u52_ w52_ => F0 m 52 ls []) 0 0 ?_ (fun hJ52 => ?_)
          · skip
            intro H locs ls u52_ w52_ a52_ b52_ hc hJ52
            obtain ⟨hP, hD, hS, hl, b_⟩ := hc
            refine lv_iload hx hb dX13_distance_52 (lv_at hl 4 rfl) ?_
            refine lv_aload_n hx hb dX13_distance_54 rfl (lv_at hl 0 rfl) ?_
            refine va_get (D := (dC, dI)) (ci := 13) (v := .ref (q0 3)) (C := RX13) (T := TX13) (N := 75) hx hb hG zuX13 hown hK hP 0 rfl rfl 3 (by decide) (hG _ zv1607) (fun _ h9 => h9) rfl dX13_distance_55 ?_
            refine lv_iload_n hx hb dX13_distance_58 rfl (lv_at hl 1 rfl) ?_
            refine va_iald hx hb hK hP 1 0 rfl rfl (zin_lit ⟨by omega, by omega⟩) dX13_distance_59 ?_
            refine lv_topi (fun z59 e_z59 => ?_)
            have b_ : 0 ≤ z59.toInt ∧ z59.toInt ≤ 12 := by rw [e_z59]; exact hf3 _
            refine lv_icmp_gt (tgt := 144) hx hb dX13_distance_60 (by decide) (fun c_ => ?_) (fun c_ => ?_)
            · skip
              have b_ := zT_gt rfl rfl c_
              obtain ⟨z144, e_z144⟩ : ∃ z : Int32, z = (u27_ 0) + Int32.ofInt 1 := ⟨_, rfl⟩
              have b_ := zadd (x := (u27_ 0)) (y := Int32.ofInt 1) rfl (show (Int32.ofInt 1).toInt = 1 from by decide) e_z144 (by omega) (by omega)
              refine lv_iinc (v := z144) (lv' := [(2, .int z144), (0, .ref h0), (1, .int x1), (3, .int (u52_ 0)), (4, .int (u52_ 1))]) hx hb dX13_distance_144 hl (k := 2) rfl e_z144.symm (by decide) rfl (fun ls hl => ?_)
              refine lv_goto (tgt := 27) hx hb dX13_distance_147 (by decide) ?_
              have hc : va_P (dC, dI) vwCl [(h0, .inr (13, mX13 q0 v0)), ((q0 3), zi k3 400 f3), ((q0 72), zi k47 13 (a52_ 0)), ((q0 19), zi k15 12 f15), ((q0 2), zi k2 4800 f2)] H ∧ va_D A [(h0, .inr (13, mX13 q0 v0)), ((q0 3), zi k3 400 f3), ((q0 72), zi k47 13 (a52_ 0)), ((q0 19), zi k15 12 f15), ((q0 2), zi k2 4800 f2)] ∧ va_S A s.heap H locs ∧ lv_has ls 6 [(0, .ref h0), (1, .int x1), (2, .int z144)] ∧ (1 ≤ z144.toInt ∧ z144.toInt ≤ 13) := ⟨hP, hD, hS, lv_sub hl [1, 2, 0] rfl, (by first | with_reducible assumption | exact ⟨by omega, by omega⟩)⟩
              exact hJ27 H locs ls (fun i => ([z144] : List (Int32)).getD i 0) (fun _ => 0) (fun i => ([(a52_ 0)] : List (Nat → Int32)).getD i (fun _ => 0)) (fun _ => (fun _ => 0)) hc (show (13 - z144.toInt).toNat < (13 - (u27_ 0).toInt).toNat from by omega)
            · skip
              have b_ := zF_gt rfl rfl c_
              refine lv_iload_n hx hb dX13_distance_63 rfl (lv_at hl 3 rfl) ?_
              refine lv_aload_n hx hb dX13_distance_64 rfl (lv_at hl 0 rfl) ?_
              refine va_get (D := (dC, dI)) (ci := 13) (v := .ref (q0 19)) (C := RX13) (T := TX13) (N := 75) hx hb hG zuX13 hown hK hP 0 rfl rfl 19 (by decide) (hG _ zv1623) (fun _ h9 => h9) rfl dX13_distance_65 ?_
              refine lv_iload_n hx hb dX13_distance_68 rfl (lv_at hl 2 rfl) ?_
              refine lv_iconst (v := 1) hx hb dX13_distance_69 (by decide) ?_
              refine lv_isub hx hb dX13_distance_70 ?_
              refine lv_topi (fun z70 e_z70 => ?_)
              have b_ := zsub rfl zk_1 e_z70 (by omega) (by omega)
              refine va_bald hx hb hK hP 3 2 rfl rfl (zin_lit ⟨by omega, by omega⟩) dX13_distance_71 ?_
              refine lv_topi (fun z71 e_z71 => ?_)
              refine lv_aload_n hx hb dX13_distance_72 rfl (lv_at hl 0 rfl) ?_
              refine va_get (D := (dC, dI)) (ci := 13) (v := .ref (q0 2)) (C := RX13) (T := TX13) (N := 75) hx hb hG zuX13 hown hK hP 0 rfl rfl 2 (by decide) (hG _ zv1606) (fun _ h9 => h9) rfl dX13_distance_73 ?_
              refine lv_bipush (v := 12) hx hb dX13_distance_76 (by decide) ?_
              refine lv_iload_n hx hb dX13_distance_78 rfl (lv_at hl 1 rfl) ?_
              refine lv_imul hx hb dX13_distance_79 ?_
              refine lv_topi (fun z79 e_z79 => ?_)
              have b_ := zmul zk_12 rfl e_z79 (by omega) (by omega)
              refine lv_iload hx hb dX13_distance_80 (lv_at hl 4 rfl) ?_
              refine lv_iadd hx hb dX13_distance_82 ?_
              refine lv_topi (fun z82 e_z82 => ?_)
              have b_ := zadd rfl rfl e_z82 (by omega) (by omega)
              refine lv_iconst (v := 1) hx hb dX13_distance_83 (by decide) ?_
              refine lv_isub hx hb dX13_distance_84 ?_
              refine lv_topi (fun z84 e_z84 => ?_)
              have b_ := zsub rfl zk_1 e_z84 (by omega) (by omega)
              refine va_bald hx hb hK hP 4 3 rfl rfl (zin_lit ⟨by omega, by omega⟩) dX13_distance_85 ?_
              refine lv_topi (fun z85 e_z85 => ?_)
              refine zcutW (fun H locs ls u94_ w94_ a94_ b94_ => va_P (dC, dI) vwCl [(h0, .inr (13, mX13 q0 v0)), ((q0 3), zi k3 400 f3), ((q0 72), zi k47 13 (a52_ 0)), ((q0 19), zi k15 12 f15), ((q0 2), zi k2 4800 f2)] H ∧ va_D A [(h0, .inr (13, mX13 q0 v0)), ((q0 3), zi k3 400 f3), ((q0 72), zi k47 13 (a52_ 0)), ((q0 19), zi k15 12 f15), ((q0 2), zi k2 4800 f2)] ∧ va_S A s.heap H locs ∧ lv_has ls 6 [(0, .ref h0), (1, .int x1), (2, .int (u27_ 0)), (3, .int (u52_ 0)), (4, .int (u52_ 1))] ∧ (0 ≤ (u94_ 0).toInt ∧ (u94_ 0).toInt ≤ 1)) (fun ls u94_ w94_ => F0 m 94 ls [.int (u94_ 0), .int (u52_ 0)]) 0 0 ?_ (fun hJ94 => ?_)
              · skip
                intro H locs ls u94_ w94_ a94_ b94_ hc
                obtain ⟨hP, hD, hS, hl, b_⟩ := hc
                have b_ : -2147483648 ≤ (u52_ 0).toInt ∧ (u52_ 0).toInt ≤ 2147483647 := ⟨zlo _, zhi _⟩
                refine lv_iadd hx hb dX13_distance_94 ?_
                refine lv_topi (fun z94 e_z94 => ?_)
                refine lv_istore (lv' := [(5, .int z94), (0, .ref h0), (1, .int x1), (2, .int (u27_ 0)), (3, .int (u52_ 0)), (4, .int (u52_ 1))]) hx hb dX13_distance_95 hl (by decide) rfl (fun ls hl => ?_)
                refine lv_aload_n hx hb dX13_distance_97 rfl (lv_at hl 1 rfl) ?_
                refine va_get (D := (dC, dI)) (ci := 13) (v := .ref (q0 72)) (C := RX13) (T := TX13) (N := 75) hx hb hG zuX13 hown hK hP 0 rfl rfl 72 (by decide) (hG _ zv1676) (fun _ h9 => h9) rfl dX13_distance_98 ?_
                refine lv_iload hx hb dX13_distance_101 (lv_at hl 5 rfl) ?_
                refine va_iald hx hb hK hP 2 1 rfl rfl (zin_lit ⟨by omega, by omega⟩) dX13_distance_103 ?_
                refine lv_topi (fun z103 e_z103 => ?_)
                refine lv_istore_n (lv' := [(3, .int z103), (5, .int z94), (0, .ref h0), (1, .int x1), (2, .int (u27_ 0)), (4, .int (u52_ 1))]) hx hb dX13_distance_104 rfl hl (by decide) rfl (fun ls hl => ?_)
                refine lv_aload_n hx hb dX13_distance_105 rfl (lv_at hl 2 rfl) ?_
                refine va_get (D := (dC, dI)) (ci := 13) (v := .ref (q0 72)) (C := RX13) (T := TX13) (N := 75) hx hb hG zuX13 hown hK hP 0 rfl rfl 72 (by decide) (hG _ zv1676) (fun _ h9 => h9) rfl dX13_distance_106 ?_
                refine lv_iload hx hb dX13_distance_109 (lv_at hl 5 rfl) ?_
                refine lv_iload hx hb dX13_distance_111 (lv_at hl 1 rfl) ?_
                refine lv_aload_n hx hb dX13_distance_113 rfl (lv_at hl 2 rfl) ?_
                refine va_get (D := (dC, dI)) (ci := 13) (v := .ref (q0 72)) (C := RX13) (T := TX13) (N := 75) hx hb hG zuX13 hown hK hP 0 rfl rfl 72 (by decide) (hG _ zv1676) (fun _ h9 => h9) rfl dX13_distance_114 ?_
                refine lv_iload hx hb dX13_distance_117 (lv_at hl 5 rfl) ?_
                refine va_iald hx hb hK hP 2 1 rfl rfl (zin_lit ⟨by omega, by omega⟩) dX13_distance_119 ?_
                refine lv_topi (fun z119 e_z119 => ?_)
                refine lv_aload_n hx hb dX13_distance_120 rfl (lv_at hl 2 rfl) ?_
                refine va_get (D := (dC, dI)) (ci := 13) (v := .ref (q0 72)) (C := RX13) (T := TX13) (N := 75) hx hb hG zuX13 hown hK hP 0 rfl rfl 72 (by decide) (hG _ zv1676) (fun _ h9 => h9) rfl dX13_distance_121 ?_
                refine lv_iload hx hb dX13_distance_124 (lv_at hl 5 rfl) ?_
                refine lv_iconst (v := 1) hx hb dX13_distance_126 (by decide) ?_
                refine lv_isub hx hb dX13_distance_127 ?_
                refine lv_topi (fun z127 e_z127 => ?_)
                have b_ := zsub rfl zk_1 e_z127 (by omega) (by omega)
                refine va_iald hx hb hK hP 2 1 rfl rfl (zin_lit ⟨by omega, by omega⟩) dX13_distance_128 ?_
                refine lv_topi (fun z128 e_z128 => ?_)
                have b_ : -2147483648 ≤ z119.toInt ∧ z119.toInt ≤ 2147483647 := ⟨zlo _, zhi _⟩
                have b_ : -2147483648 ≤ z128.toInt ∧ z128.toInt ≤ 2147483647 := ⟨zlo _, zhi _⟩
                refine va_mmin hx hb (by rw [hml]; exact hl.1.symm) hown (hG _ zv1897) (hG _ zv1385) (hG _ zv152) (hG _ zv1386) (Nat.le_of_ble_eq_true rfl) (Nat.le_of_ble_eq_true rfl) (Nat.le_of_ble_eq_true rfl) (Nat.le_of_ble_eq_true rfl) dX13_distance_129 ?_
                refine lv_topi (fun z129 e_z129 => ?_)
                have b_ := zmin rfl rfl e_z129
                refine lv_iconst (v := 1) hx hb dX13_distance_132 (by decide) ?_
                refine lv_iadd hx hb dX13_distance_133 ?_
                refine lv_topi (fun z133 e_z133 => ?_)
                have b_ : -2147483648 ≤ z94.toInt ∧ z94.toInt ≤ 2147483647 := ⟨zlo _, zhi _⟩
                have b_ : -2147483648 ≤ z133.toInt ∧ z133.toInt ≤ 2147483647 := ⟨zlo _, zhi _⟩
                refine va_mmin hx hb (by rw [hml]; exact hl.1.symm) hown (hG _ zv1897) (hG _ zv1385) (hG _ zv152) (hG _ zv1386) (Nat.le_of_ble_eq_true rfl) (Nat.le_of_ble_eq_true rfl) (Nat.le_of_ble_eq_true rfl) (Nat.le_of_ble_eq_true rfl) dX13_distance_134 ?_
                refine lv_topi (fun z134 e_z134 => ?_)
                have b_ := zmin rfl rfl e_z134
                refine va_iast hx hb hK hP hD hS 2 1 rfl rfl (zin_lit ⟨by omega, by omega⟩) dX13_distance_137 (fun H locs hP hD hS => ?_)
                obtain ⟨f_137, e_f_137⟩ : ∃ z : Nat → Int32, z = upd (a52_ 0) ((u52_ 1) : Int32).toNatClampNeg z134 := ⟨_, rfl⟩
                have hP : va_P (dC, dI) vwCl [(h0, .inr (13, mX13 q0 v0)), ((q0 3), zi k3 400 f3), ((q0 72), zi k47 13 f_137), ((q0 19), zi k15 12 f15), ((q0 2), zi k2 4800 f2)] H := by rw [e_f_137]; exact hP
                have hD : va_D A [(h0, .inr (13, mX13 q0 v0)), ((q0 3), zi k3 400 f3), ((q0 72), zi k47 13 f_137), ((q0 19), zi k15 12 f15), ((q0 2), zi k2 4800 f2)] := by rw [e_f_137]; exact hD
                obtain ⟨z138, e_z138⟩ : ∃ z : Int32, z = (u52_ 1) + Int32.ofInt 1 := ⟨_, rfl⟩
                have b_ := zadd (x := (u52_ 1)) (y := Int32.ofInt 1) rfl (show (Int32.ofInt 1).toInt = 1 from by decide) e_z138 (by omega) (by omega)
                refine lv_iinc (v := z138) (lv' := [(4, .int z138), (3, .int z103), (5, .int z94), (0, .ref h0), (1, .int x1), (2, .int (u27_ 0))]) hx hb dX13_distance_138 hl (k := 5) rfl e_z138.symm (by decide) rfl (fun ls hl => ?_)
                refine lv_goto (tgt := 52) hx hb dX13_distance_141 (by decide) ?_
                have b_ : -2147483648 ≤ z103.toInt ∧ z103.toInt ≤ 2147483647 := ⟨zlo _, zhi _⟩
                have hc : va_P (dC, dI) vwCl [(h0, .inr (13, mX13 q0 v0)), ((q0 3), zi k3 400 f3), ((q0 72), zi k47 13 f_137), ((q0 19), zi k15 12 f15), ((q0 2), zi k2 4800 f2)] H ∧ va_D A [(h0, .inr (13, mX13 q0 v0)), ((q0 3), zi k3 400 f3), ((q0 72), zi k47 13 f_137), ((q0 19), zi k15 12 f15), ((q0 2), zi k2 4800 f2)] ∧ va_S A s.heap H locs ∧ lv_has ls 6 [(0, .ref h0), (1, .int x1), (2, .int (u27_ 0)), (3, .int z103), (4, .int z138)] ∧ (1 ≤ z138.toInt ∧ z138.toInt ≤ 13) := ⟨hP, hD, hS, lv_sub hl [3, 4, 5, 1, 0] rfl, (by first | with_reducible assumption | exact ⟨by omega, by omega⟩)⟩
                exact hJ52 H locs ls (fun i => ([z103, z138] : List (Int32)).getD i 0) (fun _ => 0) (fun i => ([f_137] : List (Nat → Int32)).getD i (fun _ => 0)) (fun _ => (fun _ => 0)) hc (show (13 - z138.toInt).toNat < (13 - (u52_ 1).toInt).toNat from by omega)
              · skip
                have b_ : -2147483648 ≤ z71.toInt ∧ z71.toInt ≤ 2147483647 := ⟨zlo _, zhi _⟩
                have b_ : -2147483648 ≤ z85.toInt ∧ z85.toInt ≤ 2147483647 := ⟨zlo _, zhi _⟩
                refine lv_icmp_ne (tgt := 93) hx hb dX13_distance_86 (by decide) (fun c_ => ?_) (fun c_ => ?_)
                · skip
                  have b_ := zT_ne rfl rfl c_
                  refine lv_iconst (v := 1) hx hb dX13_distance_93 (by decide) ?_
                  have hc : va_P (dC, dI) vwCl [(h0, .inr (13, mX13 q0 v0)), ((q0 3), zi k3 400 f3), ((q0 72), zi k47 13 (a52_ 0)), ((q0 19), zi k15 12 f15), ((q0 2), zi k2 4800 f2)] H ∧ va_D A [(h0, .inr (13, mX13 q0 v0)), ((q0 3), zi k3 400 f3), ((q0 72), zi k47 13 (a52_ 0)), ((q0 19), zi k15 12 f15), ((q0 2), zi k2 4800 f2)] ∧ va_S A s.heap H locs ∧ lv_has ls 6 [(0, .ref h0), (1, .int x1), (2, .int (u27_ 0)), (3, .int (u52_ 0)), (4, .int (u52_ 1))] ∧ (0 ≤ (1 : Int32).toInt ∧ (1 : Int32).toInt ≤ 1) := ⟨hP, hD, hS, lv_sub hl [0, 1, 2, 3, 4] rfl, (by first | with_reducible assumption | exact ⟨by omega, by omega⟩)⟩
                  exact hJ94 H locs ls (fun i => ([1] : List (Int32)).getD i 0) (fun _ => 0) (fun _ => (fun _ => 0)) (fun _ => (fun _ => 0)) hc
                · skip
                  have b_ := zF_ne rfl rfl c_
                  refine lv_iconst (v := 0) hx hb dX13_distance_89 (by decide) ?_
                  refine lv_goto (tgt := 94) hx hb dX13_distance_90 (by decide) ?_
                  have hc : va_P (dC, dI) vwCl [(h0, .inr (13, mX13 q0 v0)), ((q0 3), zi k3 400 f3), ((q0 72), zi k47 13 (a52_ 0)), ((q0 19), zi k15 12 f15), ((q0 2), zi k2 4800 f2)] H ∧ va_D A [(h0, .inr (13, mX13 q0 v0)), ((q0 3), zi k3 400 f3), ((q0 72), zi k47 13 (a52_ 0)), ((q0 19), zi k15 12 f15), ((q0 2), zi k2 4800 f2)] ∧ va_S A s.heap H locs ∧ lv_has ls 6 [(0, .ref h0), (1, .int x1), (2, .int (u27_ 0)), (3, .int (u52_ 0)), (4, .int (u52_ 1))] ∧ (0 ≤ (0 : Int32).toInt ∧ (0 : Int32).toInt ≤ 1) := ⟨hP, hD, hS, lv_sub hl [0, 1, 2, 3, 4] rfl, (by first | with_reducible assumption | exact ⟨by omega, by omega⟩)⟩
                  exact hJ94 H locs ls (fun i => ([0] : List (Int32)).getD i 0) (fun _ => 0) (fun _ => (fun _ => 0)) (fun _ => (fun _ => 0)) hc
          · skip
            have b_ : -2147483648 ≤ z40.toInt ∧ z40.toInt ≤ 2147483647 := ⟨zlo _, zhi _⟩
            have hc : va_P (dC, dI) vwCl [(h0, .inr (13, mX13 q0 v0)), ((q0 3), zi k3 400 f3), ((q0 72), zi k47 13 f_48), ((q0 19), zi k15 12 f15), ((q0 2), zi k2 4800 f2)] H ∧ va_D A [(h0, .inr (13, mX13 q0 v0)), ((q0 3), zi k3 400 f3), ((q0 72), zi k47 13 f_48), ((q0 19), zi k15 12 f15), ((q0 2), zi k2 4800 f2)] ∧ va_S A s.heap H locs ∧ lv_has ls 6 [(0, .ref h0), (1, .int x1), (2, .int (u27_ 0)), (3, .int z40), (4, .int 1)] ∧ (1 ≤ (1 : Int32).toInt ∧ (1 : Int32).toInt ≤ 13) := ⟨hP, hD, hS, lv_sub hl [2, 3, 4, 1, 0] rfl, (by first | with_reducible assumption | exact ⟨by omega, by omega⟩)⟩
            exact hJ52 H locs ls (fun i => ([z40, 1] : List (Int32)).getD i 0) (fun _ => 0) (fun i => ([f_48] : List (Nat → Int32)).getD i (fun _ => 0)) (fun _ => (fun _ => 0)) hc
      · skip
        have hc : va_P (dC, dI) vwCl [(h0, .inr (13, mX13 q0 v0)), ((q0 3), zi k3 400 f3), ((q0 72), zi k47 13 (a2_ 0)), ((q0 19), zi k15 12 f15), ((q0 2), zi k2 4800 f2)] H ∧ va_D A [(h0, .inr (13, mX13 q0 v0)), ((q0 3), zi k3 400 f3), ((q0 72), zi k47 13 (a2_ 0)), ((q0 19), zi k15 12 f15), ((q0 2), zi k2 4800 f2)] ∧ va_S A s.heap H locs ∧ lv_has ls 6 [(0, .ref h0), (1, .int x1), (2, .int 1)] ∧ (1 ≤ (1 : Int32).toInt ∧ (1 : Int32).toInt ≤ 13) := ⟨hP, hD, hS, lv_sub hl [1, 2, 0] rfl, (by first | with_reducible assumption | exact ⟨by omega, by omega⟩)⟩
        exact hJ27 H locs ls (fun i => ([1] : List (Int32)).getD i 0) (fun _ => 0) (fun i => ([(a2_ 0)] : List (Nat → Int32)).getD i (fun _ => 0)) (fun _ => (fun _ => 0)) hc
    · skip
      have b_ := zF_gt rfl rfl c_
      refine lv_aload_n hx hb dX13_distance_12 rfl (lv_at hl 0 rfl) ?_
      refine va_get (D := (dC, dI)) (ci := 13) (v := .ref (q0 72)) (C := RX13) (T := TX13) (N := 75) hx hb hG zuX13 hown hK hP 0 rfl rfl 72 (by decide) (hG _ zv1676) (fun _ h9 => h9) rfl dX13_distance_13 ?_
      refine lv_iload_n hx hb dX13_distance_16 rfl (lv_at hl 2 rfl) ?_
      refine lv_iload_n hx hb dX13_distance_17 rfl (lv_at hl 2 rfl) ?_
      refine va_iast hx hb hK hP hD hS 2 1 rfl rfl (zin_lit ⟨by omega, by omega⟩) dX13_distance_18 (fun H locs hP hD hS => ?_)
      obtain ⟨f_18, e_f_18⟩ : ∃ z : Nat → Int32, z = upd (a2_ 0) ((u2_ 0) : Int32).toNatClampNeg (u2_ 0) := ⟨_, rfl⟩
      have hP : va_P (dC, dI) vwCl [(h0, .inr (13, mX13 q0 v0)), ((q0 3), zi k3 400 f3), ((q0 72), zi k47 13 f_18), ((q0 19), zi k15 12 f15), ((q0 2), zi k2 4800 f2)] H := by rw [e_f_18]; exact hP
      have hD : va_D A [(h0, .inr (13, mX13 q0 v0)), ((q0 3), zi k3 400 f3), ((q0 72), zi k47 13 f_18), ((q0 19), zi k15 12 f15), ((q0 2), zi k2 4800 f2)] := by rw [e_f_18]; exact hD
      obtain ⟨z19, e_z19⟩ : ∃ z : Int32, z = (u2_ 0) + Int32.ofInt 1 := ⟨_, rfl⟩
      have b_ := zadd (x := (u2_ 0)) (y := Int32.ofInt 1) rfl (show (Int32.ofInt 1).toInt = 1 from by decide) e_z19 (by omega) (by omega)
      refine lv_iinc (v := z19) (lv' := [(2, .int z19), (0, .ref h0), (1, .int x1)]) hx hb dX13_distance_19 hl (k := 2) rfl e_z19.symm (by decide) rfl (fun ls hl => ?_)
      refine lv_goto (tgt := 2) hx hb dX13_distance_22 (by decide) ?_
      have hc : va_P (dC, dI) vwCl [(h0, .inr (13, mX13 q0 v0)), ((q0 3), zi k3 400 f3), ((q0 72), zi k47 13 f_18), ((q0 19), zi k15 12 f15), ((q0 2), zi k2 4800 f2)] H ∧ va_D A [(h0, .inr (13, mX13 q0 v0)), ((q0 3), zi k3 400 f3), ((q0 72), zi k47 13 f_18), ((q0 19), zi k15 12 f15), ((q0 2), zi k2 4800 f2)] ∧ va_S A s.heap H locs ∧ lv_has ls 6 [(0, .ref h0), (1, .int x1), (2, .int z19)] ∧ (0 ≤ z19.toInt ∧ z19.toInt ≤ 13) := ⟨hP, hD, hS, lv_sub hl [1, 2, 0] rfl, (by first | with_reducible assumption | exact ⟨by omega, by omega⟩)⟩
      exact hJ2 H locs ls (fun i => ([z19] : List (Int32)).getD i 0) (fun _ => 0) (fun i => ([f_18] : List (Nat → Int32)).getD i (fun _ => 0)) (fun _ => (fun _ => 0)) hc (show (13 - z19.toInt).toNat < (13 - (u2_ 0).toInt).toNat from by omega)
  · skip
    have hc : va_P (dC, dI) vwCl [(h0, .inr (13, mX13 q0 v0)), ((q0 3), zi k3 400 f3), ((q0 72), zi k47 13 f47), ((q0 19), zi k15 12 f15), ((q0 2), zi k2 4800 f2)] s.heap ∧ va_D A [(h0, .inr (13, mX13 q0 v0)), ((q0 3), zi k3 400 f3), ((q0 72), zi k47 13 f47), ((q0 19), zi k15 12 f15), ((q0 2), zi k2 4800 f2)] ∧ va_S A s.heap s.heap [] ∧ lv_has ls 6 [(0, .ref h0), (1, .int x1), (2, .int 0)] ∧ (0 ≤ (0 : Int32).toInt ∧ (0 : Int32).toInt ≤ 13) := ⟨hP, hD, hS, lv_sub hl [1, 2, 0] rfl, (by first | with_reducible assumption | exact ⟨by omega, by omega⟩)⟩
    exact hJ2 s.heap [] ls (fun i => ([0] : List (Int32)).getD i 0) (fun _ => 0) (fun i => ([f47] : List (Nat → Int32)).getD i (fun _ => 0)) (fun _ => (fun _ => 0)) hc
set_option maxHeartbeats 8000000 in
set_option maxRecDepth 100000 in
theorem sX13_lookAt_0 (l : Launch) (dC : Nat → ClassId) (dI : Nat → Nat → Nat) (adK adV : Nat → Nat) (h0 : Nat) (q0 : Nat → Nat) (k15 : ClassId) (k14 : ClassId) (sz : Nat) (v0 : Nat → Int32) (f15 : Nat → Int32) (f14 : Nat → Int32) (hv0 : zR rg_Model v0) : Met l yX13_lookAt (zw yX13_lookAt cX13_lookAt 2 none) { frames := 0, cells := 0, slots := 0, locals := 0 } (zPc dC dI adK adV [.ref h0] sz [(h0, .inr (13, mX13 q0 v0)), ((q0 19), zi k15 12 f15), ((q0 17), zi k14 12 f14)] [(k15, .byte), (k14, .byte)]) (va_Qv (fun (u : Nat → Int32) => (0 ≤ (u 0).toInt ∧ (u 0).toInt ≤ 12)) (fun (u : Nat → Int32) (t : State) => ∃ (ww : Nat → Int64) (aa : Nat → Nat → Int32) (bb : Nat → Nat → Int64), va_P (dC, dI) vwCl [(h0, .inr (13, mX13 q0 (upd v0 18 (u 0)))), ((q0 19), zi k15 12 f15), ((q0 17), zi k14 12 (aa 0))] t.heap ∧ va_K (dC, dI) vwCl [(k15, .byte), (k14, .byte)] t ∧ va_D (va_A [(h0, .inr (13, mX13 q0 v0)), ((q0 19), zi k15 12 f15), ((q0 17), zi k14 12 f14)] sz) [(h0, .inr (13, mX13 q0 (upd v0 18 (u 0)))), ((q0 19), zi k15 12 f15), ((q0 17), zi k14 12 (aa 0))]) (va_A [(h0, .inr (13, mX13 q0 v0)), ((q0 19), zi k15 12 f15), ((q0 17), zi k14 12 f14)] sz)) 0 0 (va_A [(h0, .inr (13, mX13 q0 v0)), ((q0 19), zi k15 12 f15), ((q0 17), zi k14 12 f14)] sz) := by
  refine Met.ofW (cc := cX13_lookAt) (maxL := 2) (ret := none) (by decide) rfl ?_
  intro p e s m args below meth c s₁ B hml hv
  obtain ⟨rfl, hsz, hP, hK, hD0, hE, hZ⟩ := hv
  have hx := B.exec
  have hb := B.bytes
  have hr := B.returns
  have hG : ∀ w ∈ zG, w.before _ s = true := fun w h => atoms_spec (ws := (zw yX13_lookAt cX13_lookAt 2 none)) B.pre w (List.mem_cons_of_mem _ h)
  have hown : s.vm.findClass RX13 = some m.cls := findClass_of_methodNamed B.named
  have hlocks := B.notSynchronized

  subst hsz
  have hD := hD0.self (sz := s.heap.size)
  generalize hAe : va_A [(h0, .inr (13, mX13 q0 v0)), ((q0 19), zi k15 12 f15), ((q0 17), zi k14 12 f14)] s.heap.size = A at hD hZ ⊢
  have hA : ∀ q : Nat, s.heap.size ≤ q → A q := fun q h => by rw [← hAe]; exact Or.inr h
  have hS : va_S A s.heap s.heap [] := va_S.rf
  have hl := lv_entry ([.ref h0]) (n := 2) (Nat.le_of_ble_eq_true rfl)
  rw [lg_entry_eq]
  generalize (lg_sl ([.ref h0]) ++ List.replicate (2 - (lg_sl ([.ref h0])).length) Slot.unset).toArray = ls at hl ⊢
  have hl : lv_has ls 2 [(0, .ref h0)] := hl
  have b_ := zk_0
  refine lv_iconst (v := 0) hx hb dX13_lookAt_0 (by decide) ?_
  refine lv_istore_n (lv' := [(1, .int 0), (0, .ref h0)]) hx hb dX13_lookAt_1 rfl hl (by decide) rfl (fun ls hl => ?_)
  refine zcutL (fun u2_ => (12 - (u2_ 0).toInt).toNat) (fun H locs ls u2_ w2_ a2_ b2_ => va_P (dC, dI) vwCl [(h0, .inr (13, mX13 q0 v0)), ((q0 19), zi k15 12 f15), ((q0 17), zi k14 12 (a2_ 0))] H ∧ va_D A [(h0, .inr (13, mX13 q0 v0)), ((q0 19), zi k15 12 f15), ((q0 17), zi k14 12 (a2_ 0))] ∧ va_S A s.heap H locs ∧ lv_has ls 2 [(0, .ref h0), (1, .int (u2_ 0))] ∧ (0 ≤ (u2_ 0).toInt ∧ (u2_ 0).toInt ≤ 12)) (fun ls u2_ w2_ => F0 m 2 ls []) 0 0 ?_ (fun hJ2 => ?_)
  · skip
    intro H locs ls u2_ w2_ a2_ b2_ hc hJ2
    obtain ⟨hP, hD, hS, hl, b_⟩ := hc
    refine lv_iload_n hx hb dX13_lookAt_2 rfl (lv_at hl 1 rfl) ?_
    refine lv_aload_n hx hb dX13_lookAt_3 rfl (lv_at hl 0 rfl) ?_
    have b_ : 0 ≤ (v0 20).toInt ∧ (v0 20).toInt ≤ 12 := hv0 20
    refine va_get (D := (dC, dI)) (ci := 13) (v := .int (v0 20)) (C := RX13) (T := TX13) (N := 75) hx hb hG zuX13 hown hK hP 0 rfl rfl 20 (by decide) (hG _ zv1624) (fun _ h9 => h9) rfl dX13_lookAt_4 ?_
    refine lv_icmp_ge (tgt := 28) hx hb dX13_lookAt_7 (by decide) (fun c_ => ?_) (fun c_ => ?_)
    · skip
      have b_ := zT_ge rfl rfl c_
      refine lv_aload_n hx hb dX13_lookAt_28 rfl (lv_at hl 0 rfl) ?_
      refine lv_aload_n hx hb dX13_lookAt_29 rfl (lv_at hl 0 rfl) ?_
      refine va_get (D := (dC, dI)) (ci := 13) (v := .int (v0 20)) (C := RX13) (T := TX13) (N := 75) hx hb hG zuX13 hown hK hP 0 rfl rfl 20 (by decide) (hG _ zv1624) (fun _ h9 => h9) rfl dX13_lookAt_30 ?_
      refine va_put (D := (dC, dI)) (ci := 13) (v := .int (v0 20)) (ty := .int) (C := RX13) (T := TX13) (N := 75) hx hb hG zuX13 tyX13 tyX13_ok nmX13 hown hK hP hD hS 0 rfl rfl 18 (by decide) (hG _ zv1622) (fun _ h9 => h9) rfl (by decide +kernel) rfl rfl (Nat.le_of_ble_eq_true rfl) dX13_lookAt_33 (fun H locs hP hD hS => ?_)
      have hP : va_P (dC, dI) vwCl [(h0, .inr (13, mX13 q0 (upd v0 18 (v0 20)))), ((q0 19), zi k15 12 f15), ((q0 17), zi k14 12 (a2_ 0))] H := hP
      have hD : va_D A [(h0, .inr (13, mX13 q0 (upd v0 18 (v0 20)))), ((q0 19), zi k15 12 f15), ((q0 17), zi k14 12 (a2_ 0))] := hD
      refine W.widen (k := 0) (n := 0) (by decide) (by decide) ?_
      have hpost : (0 ≤ (v0 20).toInt ∧ (v0 20).toInt ≤ 12) := (by first | with_reducible assumption | exact ⟨by omega, by omega⟩)
      have hP9 : va_P (dC, dI) vwCl [(h0, .inr (13, mX13 q0 (upd v0 18 (v0 20)))), ((q0 19), zi k15 12 f15), ((q0 17), zi k14 12 (a2_ 0))] H := hP
      have hD9 : va_D A [(h0, .inr (13, mX13 q0 (upd v0 18 (v0 20)))), ((q0 19), zi k15 12 f15), ((q0 17), zi k14 12 (a2_ 0))] := hD
      exact W.vret hx hb hr (fun t ht hW => ⟨⟨(fun i => ([(v0 20)] : List (Int32)).getD i 0), rfl, hpost, (fun _ => 0), (fun i => ([(a2_ 0)] : List (Nat → Int32)).getD i (fun _ => 0)), (fun _ => (fun _ => 0)), by rw [ht]; exact hP9, va_K.moved hW.alike hK, hD9⟩, hS.F ht⟩) hS.2.2 dX13_lookAt_36
    · skip
      have b_ := zF_ge rfl rfl c_
      refine lv_aload_n hx hb dX13_lookAt_10 rfl (lv_at hl 0 rfl) ?_
      refine va_get (D := (dC, dI)) (ci := 13) (v := .ref (q0 17)) (C := RX13) (T := TX13) (N := 75) hx hb hG zuX13 hown hK hP 0 rfl rfl 17 (by decide) (hG _ zv1621) (fun _ h9 => h9) rfl dX13_lookAt_11 ?_
      refine lv_iload_n hx hb dX13_lookAt_14 rfl (lv_at hl 1 rfl) ?_
      refine lv_aload_n hx hb dX13_lookAt_15 rfl (lv_at hl 0 rfl) ?_
      refine va_get (D := (dC, dI)) (ci := 13) (v := .ref (q0 19)) (C := RX13) (T := TX13) (N := 75) hx hb hG zuX13 hown hK hP 0 rfl rfl 19 (by decide) (hG _ zv1623) (fun _ h9 => h9) rfl dX13_lookAt_16 ?_
      refine lv_iload_n hx hb dX13_lookAt_19 rfl (lv_at hl 1 rfl) ?_
      refine va_bald hx hb hK hP 1 0 rfl rfl (zin_lit ⟨by omega, by omega⟩) dX13_lookAt_20 ?_
      refine lv_topi (fun z20 e_z20 => ?_)
      refine va_bast hx hb hK hP hD hS 2 1 rfl rfl (zin_lit ⟨by omega, by omega⟩) dX13_lookAt_21 (fun H locs hP hD hS => ?_)
      obtain ⟨f_21, e_f_21⟩ : ∃ z : Nat → Int32, z = upd (a2_ 0) ((u2_ 0) : Int32).toNatClampNeg (vp_nar .byte z20) := ⟨_, rfl⟩
      have hP : va_P (dC, dI) vwCl [(h0, .inr (13, mX13 q0 v0)), ((q0 19), zi k15 12 f15), ((q0 17), zi k14 12 f_21)] H := by rw [e_f_21]; exact hP
      have hD : va_D A [(h0, .inr (13, mX13 q0 v0)), ((q0 19), zi k15 12 f15), ((q0 17), zi k14 12 f_21)] := by rw [e_f_21]; exact hD
      obtain ⟨z22, e_z22⟩ : ∃ z : Int32, z = (u2_ 0) + Int32.ofInt 1 := ⟨_, rfl⟩
      have b_ := zadd (x := (u2_ 0)) (y := Int32.ofInt 1) rfl (show (Int32.ofInt 1).toInt = 1 from by decide) e_z22 (by omega) (by omega)
      refine lv_iinc (v := z22) (lv' := [(1, .int z22), (0, .ref h0)]) hx hb dX13_lookAt_22 hl (k := 1) rfl e_z22.symm (by decide) rfl (fun ls hl => ?_)
      refine lv_goto (tgt := 2) hx hb dX13_lookAt_25 (by decide) ?_
      have hc : va_P (dC, dI) vwCl [(h0, .inr (13, mX13 q0 v0)), ((q0 19), zi k15 12 f15), ((q0 17), zi k14 12 f_21)] H ∧ va_D A [(h0, .inr (13, mX13 q0 v0)), ((q0 19), zi k15 12 f15), ((q0 17), zi k14 12 f_21)] ∧ va_S A s.heap H locs ∧ lv_has ls 2 [(0, .ref h0), (1, .int z22)] ∧ (0 ≤ z22.toInt ∧ z22.toInt ≤ 12) := ⟨hP, hD, hS, lv_sub hl [1, 0] rfl, (by first | with_reducible assumption | exact ⟨by omega, by omega⟩)⟩
      exact hJ2 H locs ls (fun i => ([z22] : List (Int32)).getD i 0) (fun _ => 0) (fun i => ([f_21] : List (Nat → Int32)).getD i (fun _ => 0)) (fun _ => (fun _ => 0)) hc (show (12 - z22.toInt).toNat < (12 - (u2_ 0).toInt).toNat from by omega)
  · skip
    have hc : va_P (dC, dI) vwCl [(h0, .inr (13, mX13 q0 v0)), ((q0 19), zi k15 12 f15), ((q0 17), zi k14 12 f14)] s.heap ∧ va_D A [(h0, .inr (13, mX13 q0 v0)), ((q0 19), zi k15 12 f15), ((q0 17), zi k14 12 f14)] ∧ va_S A s.heap s.heap [] ∧ lv_has ls 2 [(0, .ref h0), (1, .int 0)] ∧ (0 ≤ (0 : Int32).toInt ∧ (0 : Int32).toInt ≤ 12) := ⟨hP, hD, hS, lv_sub hl [1, 0] rfl, (by first | with_reducible assumption | exact ⟨by omega, by omega⟩)⟩
    exact hJ2 s.heap [] ls (fun i => ([0] : List (Int32)).getD i 0) (fun _ => 0) (fun i => ([f14] : List (Nat → Int32)).getD i (fun _ => 0)) (fun _ => (fun _ => 0)) hc
set_option maxHeartbeats 8000000 in
set_option maxRecDepth 100000 in
theorem sX13_nearest_0 (l : Launch) (dC : Nat → ClassId) (dI : Nat → Nat → Nat) (adK adV : Nat → Nat) (h0 : Nat) (q0 : Nat → Nat) (k1 : ClassId) (k15 : ClassId) (k48 : ClassId) (k5 : ClassId) (k4 : ClassId) (k10 : ClassId) (k11 : ClassId) (k20 : ClassId) (k3 : ClassId) (k47 : ClassId) (k2 : ClassId) (k14 : ClassId) (sz : Nat) (v0 : Nat → Int32) (f1 : Nat → Int32) (f15 : Nat → Int32) (f48 : Nat → Int32) (f5 : Nat → Int32) (f4 : Nat → Int32) (f10 : Nat → Int32) (f11 : Nat → Int32) (f20 : Nat → Int32) (f3 : Nat → Int32) (f47 : Nat → Int32) (f2 : Nat → Int32) (f14 : Nat → Int32) (hv0 : zR rg_Model v0) (hf4 : zA 0 400 f4) (hf10 : zA 0 512 f10) (hf11 : zA 0 512 f11) (hf3 : zA 0 12 f3) : Met l yX13_nearest (zw yX13_nearest cX13_nearest 5 (some .int)) { frames := 5, cells := 0, slots := 0, locals := 108 } (zPc dC dI adK adV [.ref h0] sz [(h0, .inr (13, mX13 q0 v0)), ((q0 0), zi k1 600 f1), ((q0 19), zi k15 12 f15), ((q0 73), zi k48 400 f48), ((q0 6), zi k5 120 f5), ((q0 5), zi k4 122880 f4), ((q0 11), zi k10 120 f10), ((q0 12), zi k11 120 f11), ((q0 28), zi k20 400 f20), ((q0 3), zi k3 400 f3), ((q0 72), zi k47 13 f47), ((q0 2), zi k2 4800 f2), ((q0 17), zi k14 12 f14)] [(k1, .byte), (k15, .byte), (k48, .int), (k5, .boolean), (k4, .short), (k10, .int), (k11, .int), (k20, .int), (k3, .int), (k47, .int), (k2, .byte), (k14, .byte)]) (va_Qi (fun (r : Int32) (u : Nat → Int32) => ((-2147483648) ≤ r.toInt ∧ r.toInt ≤ 3) ∧ (0 ≤ (u 0).toInt ∧ (u 0).toInt ≤ 0) ∧ ((-1) ≤ (u 1).toInt ∧ (u 1).toInt ≤ 12) ∧ (0 ≤ (u 2).toInt ∧ (u 2).toInt ≤ 12) ∧ (0 ≤ (u 3).toInt ∧ (u 3).toInt ≤ 0)) (fun (u : Nat → Int32) (t : State) => ∃ (ww : Nat → Int64) (aa : Nat → Nat → Int32) (bb : Nat → Nat → Int64), va_P (dC, dI) vwCl [(h0, .inr (13, mX13 q0 (upd (upd (upd (upd v0 1 (u 0)) 18 (u 1)) 20 (u 2)) 21 (u 3)))), ((q0 0), zi k1 600 f1), ((q0 19), zi k15 12 (aa 0)), ((q0 73), zi k48 400 (aa 1)), ((q0 6), zi k5 120 f5), ((q0 5), zi k4 122880 f4), ((q0 11), zi k10 120 f10), ((q0 12), zi k11 120 f11), ((q0 28), zi k20 400 (aa 2)), ((q0 3), zi k3 400 f3), ((q0 72), zi k47 13 (aa 3)), ((q0 2), zi k2 4800 f2), ((q0 17), zi k14 12 (aa 4))] t.heap ∧ va_K (dC, dI) vwCl [(k1, .byte), (k15, .byte), (k48, .int), (k5, .boolean), (k4, .short), (k10, .int), (k11, .int), (k20, .int), (k3, .int), (k47, .int), (k2, .byte), (k14, .byte)] t ∧ va_D (va_A [(h0, .inr (13, mX13 q0 v0)), ((q0 0), zi k1 600 f1), ((q0 19), zi k15 12 f15), ((q0 73), zi k48 400 f48), ((q0 6), zi k5 120 f5), ((q0 5), zi k4 122880 f4), ((q0 11), zi k10 120 f10), ((q0 12), zi k11 120 f11), ((q0 28), zi k20 400 f20), ((q0 3), zi k3 400 f3), ((q0 72), zi k47 13 f47), ((q0 2), zi k2 4800 f2), ((q0 17), zi k14 12 f14)] sz) [(h0, .inr (13, mX13 q0 (upd (upd (upd (upd v0 1 (u 0)) 18 (u 1)) 20 (u 2)) 21 (u 3)))), ((q0 0), zi k1 600 f1), ((q0 19), zi k15 12 (aa 0)), ((q0 73), zi k48 400 (aa 1)), ((q0 6), zi k5 120 f5), ((q0 5), zi k4 122880 f4), ((q0 11), zi k10 120 f10), ((q0 12), zi k11 120 f11), ((q0 28), zi k20 400 (aa 2)), ((q0 3), zi k3 400 f3), ((q0 72), zi k47 13 (aa 3)), ((q0 2), zi k2 4800 f2), ((q0 17), zi k14 12 (aa 4))]) (va_A [(h0, .inr (13, mX13 q0 v0)), ((q0 0), zi k1 600 f1), ((q0 19), zi k15 12 f15), ((q0 73), zi k48 400 f48), ((q0 6), zi k5 120 f5), ((q0 5), zi k4 122880 f4), ((q0 11), zi k10 120 f10), ((q0 12), zi k11 120 f11), ((q0 28), zi k20 400 f20), ((q0 3), zi k3 400 f3), ((q0 72), zi k47 13 f47), ((q0 2), zi k2 4800 f2), ((q0 17), zi k14 12 f14)] sz)) 0 0 (va_A [(h0, .inr (13, mX13 q0 v0)), ((q0 0), zi k1 600 f1), ((q0 19), zi k15 12 f15), ((q0 73), zi k48 400 f48), ((q0 6), zi k5 120 f5), ((q0 5), zi k4 122880 f4), ((q0 11), zi k10 120 f10), ((q0 12), zi k11 120 f11), ((q0 28), zi k20 400 f20), ((q0 3), zi k3 400 f3), ((q0 72), zi k47 13 f47), ((q0 2), zi k2 4800 f2), ((q0 17), zi k14 12 f14)] sz) := by
  refine Met.ofW (cc := cX13_nearest) (maxL := 5) (ret := (some .int)) (by decide) rfl ?_
  intro p e s m args below meth c s₁ B hml hv
  obtain ⟨rfl, hsz, hP, hK, hD0, hE, hZ⟩ := hv
  have hx := B.exec
  have hb := B.bytes
  have hr := B.returns
  have hG : ∀ w ∈ zG, w.before _ s = true := fun w h => atoms_spec (ws := (zw yX13_nearest cX13_nearest 5 (some .int))) B.pre w (List.mem_cons_of_mem _ h)
  have hown : s.vm.findClass RX13 = some m.cls := findClass_of_methodNamed B.named
  have hlocks := B.notSynchronized

  subst hsz
  have hD := hD0.self (sz := s.heap.size)
  generalize hAe : va_A [(h0, .inr (13, mX13 q0 v0)), ((q0 0), zi k1 600 f1), ((q0 19), zi k15 12 f15), ((q0 73), zi k48 400 f48), ((q0 6), zi k5 120 f5), ((q0 5), zi k4 122880 f4), ((q0 11), zi k10 120 f10), ((q0 12), zi k11 120 f11), ((q0 28), zi k20 400 f20), ((q0 3), zi k3 400 f3), ((q0 72), zi k47 13 f47), ((q0 2), zi k2 4800 f2), ((q0 17), zi k14 12 f14)] s.heap.size = A at hD hZ ⊢
  have hA : ∀ q : Nat, s.heap.size ≤ q → A q := fun q h => by rw [← hAe]; exact Or.inr h
  have hS : va_S A s.heap s.heap [] := va_S.rf
  have hl := lv_entry ([.ref h0]) (n := 5) (Nat.le_of_ble_eq_true rfl)
  rw [lg_entry_eq]
  generalize (lg_sl ([.ref h0]) ++ List.replicate (5 - (lg_sl ([.ref h0])).length) Slot.unset).toArray = ls at hl ⊢
  have hl : lv_has ls 5 [(0, .ref h0)] := hl
  have b_ := zk_m1
  have b_ := zk_0
  have b_ := zk_3
  refine lv_aload_n hx hb dX13_nearest_0 rfl (lv_at hl 0 rfl) ?_
  refine lv_iconst (v := 0) hx hb dX13_nearest_1 (by decide) ?_
  refine va_put (D := (dC, dI)) (ci := 13) (v := .int 0) (ty := .int) (C := RX13) (T := TX13) (N := 75) hx hb hG zuX13 tyX13 tyX13_ok nmX13 hown hK hP hD hS 0 rfl rfl 21 (by decide) (hG _ zv1625) (fun _ h9 => h9) rfl (by decide +kernel) rfl rfl (Nat.le_of_ble_eq_true rfl) dX13_nearest_2 (fun H locs hP hD hS => ?_)
  have hP : va_P (dC, dI) vwCl [(h0, .inr (13, mX13 q0 (upd v0 21 0))), ((q0 0), zi k1 600 f1), ((q0 19), zi k15 12 f15), ((q0 73), zi k48 400 f48), ((q0 6), zi k5 120 f5), ((q0 5), zi k4 122880 f4), ((q0 11), zi k10 120 f10), ((q0 12), zi k11 120 f11), ((q0 28), zi k20 400 f20), ((q0 3), zi k3 400 f3), ((q0 72), zi k47 13 f47), ((q0 2), zi k2 4800 f2), ((q0 17), zi k14 12 f14)] H := hP
  have hD : va_D A [(h0, .inr (13, mX13 q0 (upd v0 21 0))), ((q0 0), zi k1 600 f1), ((q0 19), zi k15 12 f15), ((q0 73), zi k48 400 f48), ((q0 6), zi k5 120 f5), ((q0 5), zi k4 122880 f4), ((q0 11), zi k10 120 f10), ((q0 12), zi k11 120 f11), ((q0 28), zi k20 400 f20), ((q0 3), zi k3 400 f3), ((q0 72), zi k47 13 f47), ((q0 2), zi k2 4800 f2), ((q0 17), zi k14 12 f14)] := hD
  refine lv_aload_n hx hb dX13_nearest_5 rfl (lv_at hl 0 rfl) ?_
  have hPc := hP.sub (ws' := [(h0, .inr (13, mX13 q0 (upd v0 21 0))), ((q0 0), zi k1 600 f1), ((q0 19), zi k15 12 f15)]) [0, 1, 2] rfl
  have hDc := hD.sub (ws' := [(h0, .inr (13, mX13 q0 (upd v0 21 0))), ((q0 0), zi k1 600 f1), ((q0 19), zi k15 12 f15)]) [0, 1, 2] (by decide) rfl
  have hKc := hK.sub (tys' := [(k1, .byte), (k15, .byte)]) [0, 1] rfl
  have hFc := va_free (wc := [(h0, .inr (13, mX13 q0 (upd v0 21 0))), ((q0 0), zi k1 600 f1), ((q0 19), zi k15 12 f15)]) hD hS hA [0, 1, 2] rfl
  refine va_calli (va_runV (As := []) (rest := []) ⟨hx, hb, hml, hown, hG⟩ (sX13_takesToken_0 l dC dI adK adV h0 q0 k1 k15 H.size (upd v0 21 0) f1 f15 (zR_updF hv0 21 rfl)) (cwV 0 hG (zgV zv1951 zv1953 zv66 zv142 zv1954) rfl rfl rfl (by decide +kernel) ⟨Nat.le_of_ble_eq_true rfl, Nat.le_of_ble_eq_true rfl⟩) ⟨zPc_blind, va_recv hKc hPc (ci := 13) (q0 := 0) rfl rfl, zPc_pre hPc hKc hDc hE hS hFc hZ⟩ rfl rfl hl.1 rfl (lv_room (Nat.le_of_ble_eq_true rfl)) dX13_nearest_6 ⟨Nat.le_of_ble_eq_true rfl, Nat.le_of_ble_eq_true rfl⟩) hS (fun q _ h => hFc q h) hFc (fun r6_ u6_ t H1 locs ht hvm hw hB hz1 hk1 hS => ?_)
  replace hw : (0 ≤ r6_.toInt ∧ r6_.toInt ≤ 1) ∧ (0 ≤ (u6_ 0).toInt ∧ (u6_ 0).toInt ≤ 0) ∧ (0 ≤ (u6_ 1).toInt ∧ (u6_ 1).toInt ≤ 12) ∧ (r6_.toInt = 0 → ∀ i : Int, ¬ zIn f1 (v0 1).toInt i) ∧ (r6_.toInt = (u6_ 2).toInt) := hw
  obtain ⟨b_, b_, b_, hX6_0, b_⟩ := hw
  obtain ⟨w6_, a6_, b6_, hB6_0, hP1, hK1, hD1⟩ := hB
  have hB6_0 : (u6_ 2).toInt = 1 → zTw f1 (v0 1).toInt (a6_ 0) (u6_ 1).toInt := hB6_0
  rw [ht] at hP1
  obtain ⟨hP, hD⟩ := va_join (wr := [((q0 73), zi k48 400 f48), ((q0 6), zi k5 120 f5), ((q0 5), zi k4 122880 f4), ((q0 11), zi k10 120 f10), ((q0 12), zi k11 120 f11), ((q0 28), zi k20 400 f20), ((q0 3), zi k3 400 f3), ((q0 72), zi k47 13 f47), ((q0 2), zi k2 4800 f2), ((q0 17), zi k14 12 f14)]) (w1 := [(h0, .inr (13, mX13 q0 (upd (upd (upd v0 1 (u6_ 0)) 20 (u6_ 1)) 21 0))), ((q0 0), zi k1 600 f1), ((q0 19), zi k15 12 (a6_ 0))]) hP hD [0, 1, 2] [3, 4, 5, 6, 7, 8, 9, 10, 11, 12] rfl rfl (by decide) (by decide) hk1 hFc hP1 hD1
  have hP : va_P (dC, dI) vwCl [(h0, .inr (13, mX13 q0 (upd (upd (upd v0 1 (u6_ 0)) 20 (u6_ 1)) 21 0))), ((q0 0), zi k1 600 f1), ((q0 19), zi k15 12 (a6_ 0)), ((q0 73), zi k48 400 f48), ((q0 6), zi k5 120 f5), ((q0 5), zi k4 122880 f4), ((q0 11), zi k10 120 f10), ((q0 12), zi k11 120 f11), ((q0 28), zi k20 400 f20), ((q0 3), zi k3 400 f3), ((q0 72), zi k47 13 f47), ((q0 2), zi k2 4800 f2), ((q0 17), zi k14 12 f14)] H1 := hP.sub [10, 11, 12, 0, 1, 2, 3, 4, 5, 6, 7, 8, 9] rfl
  have hD : va_D A [(h0, .inr (13, mX13 q0 (upd (upd (upd v0 1 (u6_ 0)) 20 (u6_ 1)) 21 0))), ((q0 0), zi k1 600 f1), ((q0 19), zi k15 12 (a6_ 0)), ((q0 73), zi k48 400 f48), ((q0 6), zi k5 120 f5), ((q0 5), zi k4 122880 f4), ((q0 11), zi k10 120 f10), ((q0 12), zi k11 120 f11), ((q0 28), zi k20 400 f20), ((q0 3), zi k3 400 f3), ((q0 72), zi k47 13 f47), ((q0 2), zi k2 4800 f2), ((q0 17), zi k14 12 f14)] := hD.sub [10, 11, 12, 0, 1, 2, 3, 4, 5, 6, 7, 8, 9] (by decide) rfl
  generalize H1 = H at hP hS ⊢
  clear hz1
  refine lv_if_ne (tgt := 14) hx hb dX13_nearest_9 (by decide) (fun c_ => ?_) (fun c_ => ?_)
  · skip
    have b_ := zT_ne rfl zk_0 c_
    refine lv_aload_n hx hb dX13_nearest_14 rfl (lv_at hl 0 rfl) ?_
    have hPc := hP.sub (ws' := [(h0, .inr (13, mX13 q0 (upd (upd (upd v0 1 (u6_ 0)) 20 (u6_ 1)) 21 0))), ((q0 73), zi k48 400 f48), ((q0 6), zi k5 120 f5), ((q0 5), zi k4 122880 f4), ((q0 11), zi k10 120 f10), ((q0 12), zi k11 120 f11), ((q0 28), zi k20 400 f20)]) [0, 3, 4, 5, 6, 7, 8] rfl
    have hDc := hD.sub (ws' := [(h0, .inr (13, mX13 q0 (upd (upd (upd v0 1 (u6_ 0)) 20 (u6_ 1)) 21 0))), ((q0 73), zi k48 400 f48), ((q0 6), zi k5 120 f5), ((q0 5), zi k4 122880 f4), ((q0 11), zi k10 120 f10), ((q0 12), zi k11 120 f11), ((q0 28), zi k20 400 f20)]) [0, 3, 4, 5, 6, 7, 8] (by decide) rfl
    have hKc := hK.sub (tys' := [(k48, .int), (k5, .boolean), (k4, .short), (k10, .int), (k11, .int), (k20, .int)]) [2, 3, 4, 5, 6, 7] rfl
    have hFc := va_free (wc := [(h0, .inr (13, mX13 q0 (upd (upd (upd v0 1 (u6_ 0)) 20 (u6_ 1)) 21 0))), ((q0 73), zi k48 400 f48), ((q0 6), zi k5 120 f5), ((q0 5), zi k4 122880 f4), ((q0 11), zi k10 120 f10), ((q0 12), zi k11 120 f11), ((q0 28), zi k20 400 f20)]) hD hS hA [0, 3, 4, 5, 6, 7, 8] rfl
    refine va_callv (va_runV (As := []) (rest := []) ⟨hx, hb, hml, hown, hG⟩ (sX13_hold_0 l dC dI adK adV h0 q0 k48 k5 k4 k10 k11 k20 H.size (upd (upd (upd v0 1 (u6_ 0)) 20 (u6_ 1)) 21 0) f48 f5 f4 f10 f11 f20 (zR_updF (zR_up2 (zR_up2 hv0 1 (show (0 : Int) ≤ ((u6_ 0) : Int32).toInt ∧ ((u6_ 0) : Int32).toInt ≤ (600 : Int) from (by first | with_reducible assumption | exact ⟨by omega, by omega⟩))) 20 (show (0 : Int) ≤ ((u6_ 1) : Int32).toInt ∧ ((u6_ 1) : Int32).toInt ≤ (12 : Int) from (by first | with_reducible assumption | exact ⟨by omega, by omega⟩))) 21 rfl) hf4 hf10 hf11) (cwV 0 hG (zgV zv2240 zv2242 zv125 zv142 zv2243) rfl rfl rfl (by decide +kernel) ⟨Nat.le_of_ble_eq_true rfl, Nat.le_of_ble_eq_true rfl⟩) ⟨zPc_blind, va_recv hKc hPc (ci := 13) (q0 := 0) rfl rfl, zPc_pre hPc hKc hDc hE hS hFc hZ⟩ rfl rfl hl.1 rfl (lv_room (Nat.le_of_ble_eq_true rfl)) dX13_nearest_15 ⟨Nat.le_of_ble_eq_true rfl, Nat.le_of_ble_eq_true rfl⟩) hS (fun q _ h => hFc q h) hFc (fun u15_ t H1 locs ht hvm hw hB hz1 hk1 hS => ?_)
    obtain ⟨w15_, a15_, b15_, hB15_0, hP1, hK1, hD1⟩ := hB
    have hB15_0 : zHo (a15_ 0) f5 f4 f10 f11 (v0 4).toInt (v0 13).toInt := hB15_0
    rw [ht] at hP1
    obtain ⟨hP, hD⟩ := va_join (wr := [((q0 0), zi k1 600 f1), ((q0 19), zi k15 12 (a6_ 0)), ((q0 3), zi k3 400 f3), ((q0 72), zi k47 13 f47), ((q0 2), zi k2 4800 f2), ((q0 17), zi k14 12 f14)]) (w1 := [(h0, .inr (13, mX13 q0 (upd (upd (upd v0 1 (u6_ 0)) 20 (u6_ 1)) 21 0))), ((q0 73), zi k48 400 (a15_ 0)), ((q0 6), zi k5 120 f5), ((q0 5), zi k4 122880 f4), ((q0 11), zi k10 120 f10), ((q0 12), zi k11 120 f11), ((q0 28), zi k20 400 (a15_ 1))]) hP hD [0, 3, 4, 5, 6, 7, 8] [1, 2, 9, 10, 11, 12] rfl rfl (by decide) (by decide) hk1 hFc hP1 hD1
    have hP : va_P (dC, dI) vwCl [(h0, .inr (13, mX13 q0 (upd (upd (upd v0 1 (u6_ 0)) 20 (u6_ 1)) 21 0))), ((q0 0), zi k1 600 f1), ((q0 19), zi k15 12 (a6_ 0)), ((q0 73), zi k48 400 (a15_ 0)), ((q0 6), zi k5 120 f5), ((q0 5), zi k4 122880 f4), ((q0 11), zi k10 120 f10), ((q0 12), zi k11 120 f11), ((q0 28), zi k20 400 (a15_ 1)), ((q0 3), zi k3 400 f3), ((q0 72), zi k47 13 f47), ((q0 2), zi k2 4800 f2), ((q0 17), zi k14 12 f14)] H1 := hP.sub [6, 0, 1, 7, 8, 9, 10, 11, 12, 2, 3, 4, 5] rfl
    have hD : va_D A [(h0, .inr (13, mX13 q0 (upd (upd (upd v0 1 (u6_ 0)) 20 (u6_ 1)) 21 0))), ((q0 0), zi k1 600 f1), ((q0 19), zi k15 12 (a6_ 0)), ((q0 73), zi k48 400 (a15_ 0)), ((q0 6), zi k5 120 f5), ((q0 5), zi k4 122880 f4), ((q0 11), zi k10 120 f10), ((q0 12), zi k11 120 f11), ((q0 28), zi k20 400 (a15_ 1)), ((q0 3), zi k3 400 f3), ((q0 72), zi k47 13 f47), ((q0 2), zi k2 4800 f2), ((q0 17), zi k14 12 f14)] := hD.sub [6, 0, 1, 7, 8, 9, 10, 11, 12, 2, 3, 4, 5] (by decide) rfl
    generalize H1 = H at hP hS ⊢
    clear hz1
    refine lv_iconst (v := (-1)) hx hb dX13_nearest_18 (by decide) ?_
    refine lv_istore_n (lv' := [(1, .int (-1)), (0, .ref h0)]) hx hb dX13_nearest_19 rfl hl (by decide) rfl (fun ls hl => ?_)
    refine lv_iconst (v := 3) hx hb dX13_nearest_20 (by decide) ?_
    refine lv_istore_n (lv' := [(2, .int 3), (1, .int (-1)), (0, .ref h0)]) hx hb dX13_nearest_21 rfl hl (by decide) rfl (fun ls hl => ?_)
    refine lv_iconst (v := 0) hx hb dX13_nearest_22 (by decide) ?_
    refine lv_istore_n (lv' := [(3, .int 0), (2, .int 3), (1, .int (-1)), (0, .ref h0)]) hx hb dX13_nearest_23 rfl hl (by decide) rfl (fun ls hl => ?_)
    refine zcutL (fun u24_ => (400 - (u24_ 2).toInt).toNat) (fun H locs ls u24_ w24_ a24_ b24_ => va_P (dC, dI) vwCl [(h0, .inr (13, mX13 q0 (upd (upd (upd v0 1 (u6_ 0)) 20 (u6_ 1)) 21 0))), ((q0 0), zi k1 600 f1), ((q0 19), zi k15 12 (a6_ 0)), ((q0 73), zi k48 400 (a15_ 0)), ((q0 6), zi k5 120 f5), ((q0 5), zi k4 122880 f4), ((q0 11), zi k10 120 f10), ((q0 12), zi k11 120 f11), ((q0 28), zi k20 400 (a15_ 1)), ((q0 3), zi k3 400 f3), ((q0 72), zi k47 13 (a24_ 0)), ((q0 2), zi k2 4800 f2), ((q0 17), zi k14 12 f14)] H ∧ va_D A [(h0, .inr (13, mX13 q0 (upd (upd (upd v0 1 (u6_ 0)) 20 (u6_ 1)) 21 0))), ((q0 0), zi k1 600 f1), ((q0 19), zi k15 12 (a6_ 0)), ((q0 73), zi k48 400 (a15_ 0)), ((q0 6), zi k5 120 f5), ((q0 5), zi k4 122880 f4), ((q0 11), zi k10 120 f10), ((q0 12), zi k11 120 f11), ((q0 28), zi k20 400 (a15_ 1)), ((q0 3), zi k3 400 f3), ((q0 72), zi k47 13 (a24_ 0)), ((q0 2), zi k2 4800 f2), ((q0 17), zi k14 12 f14)] ∧ va_S A s.heap H locs ∧ lv_has ls 5 [(0, .ref h0), (1, .int (u24_ 0)), (2, .int (u24_ 1)), (3, .int (u24_ 2))] ∧ ((-1) ≤ (u24_ 0).toInt ∧ (u24_ 0).toInt ≤ 399) ∧ ((-2147483648) ≤ (u24_ 1).toInt ∧ (u24_ 1).toInt ≤ 3) ∧ (0 ≤ (u24_ 2).toInt ∧ (u24_ 2).toInt ≤ 400)) (fun ls u24_ w24_ => F0 m 24 ls []) 0 0 ?_ (fun hJ24 => ?_)
    · skip
      intro H locs ls u24_ w24_ a24_ b24_ hc hJ24
      obtain ⟨hP, hD, hS, hl, b_, b_, b_⟩ := hc
      refine lv_iload_n hx hb dX13_nearest_24 rfl (lv_at hl 3 rfl) ?_
      refine lv_aload_n hx hb dX13_nearest_25 rfl (lv_at hl 0 rfl) ?_
      have b_ : 0 ≤ (v0 4).toInt ∧ (v0 4).toInt ≤ 400 := hv0 4
      refine va_get (D := (dC, dI)) (ci := 13) (v := .int (v0 4)) (C := RX13) (T := TX13) (N := 75) hx hb hG zuX13 hown hK hP 0 rfl rfl 4 (by decide) (hG _ zv1608) (fun _ h9 => h9) rfl dX13_nearest_26 ?_
      refine lv_icmp_ge (tgt := 118) hx hb dX13_nearest_29 (by decide) (fun c_ => ?_) (fun c_ => ?_)
      · skip
        have b_ := zT_ge rfl rfl c_
        refine lv_iload_n hx hb dX13_nearest_118 rfl (lv_at hl 1 rfl) ?_
        refine lv_iconst (v := (-1)) hx hb dX13_nearest_119 (by decide) ?_
        refine lv_icmp_ne (tgt := 125) hx hb dX13_nearest_120 (by decide) (fun c_ => ?_) (fun c_ => ?_)
        · skip
          have b_ := zT_ne rfl zk_m1 c_
          refine lv_aload_n hx hb dX13_nearest_125 rfl (lv_at hl 0 rfl) ?_
          refine lv_aload_n hx hb dX13_nearest_126 rfl (lv_at hl 0 rfl) ?_
          refine va_get (D := (dC, dI)) (ci := 13) (v := .ref (q0 3)) (C := RX13) (T := TX13) (N := 75) hx hb hG zuX13 hown hK hP 0 rfl rfl 3 (by decide) (hG _ zv1607) (fun _ h9 => h9) rfl dX13_nearest_127 ?_
          refine lv_iload_n hx hb dX13_nearest_130 rfl (lv_at hl 1 rfl) ?_
          refine va_iald hx hb hK hP 9 8 rfl rfl (zin_lit ⟨by omega, by omega⟩) dX13_nearest_131 ?_
          refine lv_topi (fun z131 e_z131 => ?_)
          have b_ : 0 ≤ z131.toInt ∧ z131.toInt ≤ 12 := by rw [e_z131]; exact hf3 _
          refine va_put (D := (dC, dI)) (ci := 13) (v := .int z131) (ty := .int) (C := RX13) (T := TX13) (N := 75) hx hb hG zuX13 tyX13 tyX13_ok nmX13 hown hK hP hD hS 0 rfl rfl 20 (by decide) (hG _ zv1624) (fun _ h9 => h9) rfl (by decide +kernel) rfl rfl (Nat.le_of_ble_eq_true rfl) dX13_nearest_132 (fun H locs hP hD hS => ?_)
          have hP : va_P (dC, dI) vwCl [(h0, .inr (13, mX13 q0 (upd (upd (upd v0 1 (u6_ 0)) 20 z131) 21 0))), ((q0 0), zi k1 600 f1), ((q0 19), zi k15 12 (a6_ 0)), ((q0 73), zi k48 400 (a15_ 0)), ((q0 6), zi k5 120 f5), ((q0 5), zi k4 122880 f4), ((q0 11), zi k10 120 f10), ((q0 12), zi k11 120 f11), ((q0 28), zi k20 400 (a15_ 1)), ((q0 3), zi k3 400 f3), ((q0 72), zi k47 13 (a24_ 0)), ((q0 2), zi k2 4800 f2), ((q0 17), zi k14 12 f14)] H := hP
          have hD : va_D A [(h0, .inr (13, mX13 q0 (upd (upd (upd v0 1 (u6_ 0)) 20 z131) 21 0))), ((q0 0), zi k1 600 f1), ((q0 19), zi k15 12 (a6_ 0)), ((q0 73), zi k48 400 (a15_ 0)), ((q0 6), zi k5 120 f5), ((q0 5), zi k4 122880 f4), ((q0 11), zi k10 120 f10), ((q0 12), zi k11 120 f11), ((q0 28), zi k20 400 (a15_ 1)), ((q0 3), zi k3 400 f3), ((q0 72), zi k47 13 (a24_ 0)), ((q0 2), zi k2 4800 f2), ((q0 17), zi k14 12 f14)] := hD
          refine lv_iconst (v := 0) hx hb dX13_nearest_135 (by decide) ?_
          refine lv_istore_n (lv' := [(3, .int 0), (0, .ref h0), (1, .int (u24_ 0)), (2, .int (u24_ 1))]) hx hb dX13_nearest_136 rfl hl (by decide) rfl (fun ls hl => ?_)
          refine zcutL (fun u137_ => (12 - (u137_ 0).toInt).toNat) (fun H locs ls u137_ w137_ a137_ b137_ => va_P (dC, dI) vwCl [(h0, .inr (13, mX13 q0 (upd (upd (upd v0 1 (u6_ 0)) 20 z131) 21 0))), ((q0 0), zi k1 600 f1), ((q0 19), zi k15 12 (a137_ 0)), ((q0 73), zi k48 400 (a15_ 0)), ((q0 6), zi k5 120 f5), ((q0 5), zi k4 122880 f4), ((q0 11), zi k10 120 f10), ((q0 12), zi k11 120 f11), ((q0 28), zi k20 400 (a15_ 1)), ((q0 3), zi k3 400 f3), ((q0 72), zi k47 13 (a24_ 0)), ((q0 2), zi k2 4800 f2), ((q0 17), zi k14 12 f14)] H ∧ va_D A [(h0, .inr (13, mX13 q0 (upd (upd (upd v0 1 (u6_ 0)) 20 z131) 21 0))), ((q0 0), zi k1 600 f1), ((q0 19), zi k15 12 (a137_ 0)), ((q0 73), zi k48 400 (a15_ 0)), ((q0 6), zi k5 120 f5), ((q0 5), zi k4 122880 f4), ((q0 11), zi k10 120 f10), ((q0 12), zi k11 120 f11), ((q0 28), zi k20 400 (a15_ 1)), ((q0 3), zi k3 400 f3), ((q0 72), zi k47 13 (a24_ 0)), ((q0 2), zi k2 4800 f2), ((q0 17), zi k14 12 f14)] ∧ va_S A s.heap H locs ∧ lv_has ls 5 [(0, .ref h0), (1, .int (u24_ 0)), (2, .int (u24_ 1)), (3, .int (u137_ 0))] ∧ (0 ≤ (u137_ 0).toInt ∧ (u137_ 0).toInt ≤ 12)) (fun ls u137_ w137_ => F0 m 137 ls []) 0 0 ?_ (fun hJ137 => ?_)
          · skip
            intro H locs ls u137_ w137_ a137_ b137_ hc hJ137
            obtain ⟨hP, hD, hS, hl, b_⟩ := hc
            refine lv_iload_n hx hb dX13_nearest_137 rfl (lv_at hl 3 rfl) ?_
            refine lv_aload_n hx hb dX13_nearest_138 rfl (lv_at hl 0 rfl) ?_
            refine va_get (D := (dC, dI)) (ci := 13) (v := .int z131) (C := RX13) (T := TX13) (N := 75) hx hb hG zuX13 hown hK hP 0 rfl rfl 20 (by decide) (hG _ zv1624) (fun _ h9 => h9) rfl dX13_nearest_139 ?_
            refine lv_icmp_ge (tgt := 168) hx hb dX13_nearest_142 (by decide) (fun c_ => ?_) (fun c_ => ?_)
            · skip
              have b_ := zT_ge rfl rfl c_
              refine lv_aload_n hx hb dX13_nearest_168 rfl (lv_at hl 0 rfl) ?_
              have hPc := hP.sub (ws' := [(h0, .inr (13, mX13 q0 (upd (upd (upd v0 1 (u6_ 0)) 20 z131) 21 0))), ((q0 19), zi k15 12 (a137_ 0)), ((q0 17), zi k14 12 f14)]) [0, 2, 12] rfl
              have hDc := hD.sub (ws' := [(h0, .inr (13, mX13 q0 (upd (upd (upd v0 1 (u6_ 0)) 20 z131) 21 0))), ((q0 19), zi k15 12 (a137_ 0)), ((q0 17), zi k14 12 f14)]) [0, 2, 12] (by decide) rfl
              have hKc := hK.sub (tys' := [(k15, .byte), (k14, .byte)]) [1, 11] rfl
              have hFc := va_free (wc := [(h0, .inr (13, mX13 q0 (upd (upd (upd v0 1 (u6_ 0)) 20 z131) 21 0))), ((q0 19), zi k15 12 (a137_ 0)), ((q0 17), zi k14 12 f14)]) hD hS hA [0, 2, 12] rfl
              refine va_callv (va_runV (As := []) (rest := []) ⟨hx, hb, hml, hown, hG⟩ (sX13_lookAt_0 l dC dI adK adV h0 q0 k15 k14 H.size (upd (upd (upd v0 1 (u6_ 0)) 20 z131) 21 0) (a137_ 0) f14 (zR_updF (zR_up2 (zR_up2 hv0 1 (show (0 : Int) ≤ ((u6_ 0) : Int32).toInt ∧ ((u6_ 0) : Int32).toInt ≤ (600 : Int) from (by first | with_reducible assumption | exact ⟨by omega, by omega⟩))) 20 (show (0 : Int) ≤ (z131 : Int32).toInt ∧ (z131 : Int32).toInt ≤ (12 : Int) from (by first | with_reducible assumption | exact ⟨by omega, by omega⟩))) 21 rfl)) (cwV 0 hG (zgV zv1971 zv1973 zv69 zv142 zv1974) rfl rfl rfl (by decide +kernel) ⟨Nat.le_of_ble_eq_true rfl, Nat.le_of_ble_eq_true rfl⟩) ⟨zPc_blind, va_recv hKc hPc (ci := 13) (q0 := 0) rfl rfl, zPc_pre hPc hKc hDc hE hS hFc hZ⟩ rfl rfl hl.1 rfl (lv_room (Nat.le_of_ble_eq_true rfl)) dX13_nearest_169 ⟨Nat.le_of_ble_eq_true rfl, Nat.le_of_ble_eq_true rfl⟩) hS (fun q _ h => hFc q h) hFc (fun u169_ t H1 locs ht hvm hw hB hz1 hk1 hS => ?_)
              replace hw : (0 ≤ (u169_ 0).toInt ∧ (u169_ 0).toInt ≤ 12) := hw
              have b_ := hw
              obtain ⟨w169_, a169_, b169_, hP1, hK1, hD1⟩ := hB
              rw [ht] at hP1
              obtain ⟨hP, hD⟩ := va_join (wr := [((q0 0), zi k1 600 f1), ((q0 73), zi k48 400 (a15_ 0)), ((q0 6), zi k5 120 f5), ((q0 5), zi k4 122880 f4), ((q0 11), zi k10 120 f10), ((q0 12), zi k11 120 f11), ((q0 28), zi k20 400 (a15_ 1)), ((q0 3), zi k3 400 f3), ((q0 72), zi k47 13 (a24_ 0)), ((q0 2), zi k2 4800 f2)]) (w1 := [(h0, .inr (13, mX13 q0 (upd (upd (upd (upd v0 1 (u6_ 0)) 18 (u169_ 0)) 20 z131) 21 0))), ((q0 19), zi k15 12 (a137_ 0)), ((q0 17), zi k14 12 (a169_ 0))]) hP hD [0, 2, 12] [1, 3, 4, 5, 6, 7, 8, 9, 10, 11] rfl rfl (by decide) (by decide) hk1 hFc hP1 hD1
              have hP : va_P (dC, dI) vwCl [(h0, .inr (13, mX13 q0 (upd (upd (upd (upd v0 1 (u6_ 0)) 18 (u169_ 0)) 20 z131) 21 0))), ((q0 0), zi k1 600 f1), ((q0 19), zi k15 12 (a137_ 0)), ((q0 73), zi k48 400 (a15_ 0)), ((q0 6), zi k5 120 f5), ((q0 5), zi k4 122880 f4), ((q0 11), zi k10 120 f10), ((q0 12), zi k11 120 f11), ((q0 28), zi k20 400 (a15_ 1)), ((q0 3), zi k3 400 f3), ((q0 72), zi k47 13 (a24_ 0)), ((q0 2), zi k2 4800 f2), ((q0 17), zi k14 12 (a169_ 0))] H1 := hP.sub [10, 0, 11, 1, 2, 3, 4, 5, 6, 7, 8, 9, 12] rfl
              have hD : va_D A [(h0, .inr (13, mX13 q0 (upd (upd (upd (upd v0 1 (u6_ 0)) 18 (u169_ 0)) 20 z131) 21 0))), ((q0 0), zi k1 600 f1), ((q0 19), zi k15 12 (a137_ 0)), ((q0 73), zi k48 400 (a15_ 0)), ((q0 6), zi k5 120 f5), ((q0 5), zi k4 122880 f4), ((q0 11), zi k10 120 f10), ((q0 12), zi k11 120 f11), ((q0 28), zi k20 400 (a15_ 1)), ((q0 3), zi k3 400 f3), ((q0 72), zi k47 13 (a24_ 0)), ((q0 2), zi k2 4800 f2), ((q0 17), zi k14 12 (a169_ 0))] := hD.sub [10, 0, 11, 1, 2, 3, 4, 5, 6, 7, 8, 9, 12] (by decide) rfl
              generalize H1 = H at hP hS ⊢
              clear hz1
              refine lv_iload_n hx hb dX13_nearest_172 rfl (lv_at hl 2 rfl) ?_
              refine W.widen (k := 0) (n := 0) (by decide) (by decide) ?_
              have hpost : ((-2147483648) ≤ (u24_ 1).toInt ∧ (u24_ 1).toInt ≤ 3) ∧ (0 ≤ (u6_ 0).toInt ∧ (u6_ 0).toInt ≤ 0) ∧ ((-1) ≤ (u169_ 0).toInt ∧ (u169_ 0).toInt ≤ 12) ∧ (0 ≤ z131.toInt ∧ z131.toInt ≤ 12) ∧ (0 ≤ (0 : Int32).toInt ∧ (0 : Int32).toInt ≤ 0) := ⟨(by first | with_reducible assumption | exact ⟨by omega, by omega⟩), (by first | with_reducible assumption | exact ⟨by omega, by omega⟩), (by first | with_reducible assumption | exact ⟨by omega, by omega⟩), (by first | with_reducible assumption | exact ⟨by omega, by omega⟩), (by first | with_reducible assumption | exact ⟨by omega, by omega⟩)⟩
              have hP9 : va_P (dC, dI) vwCl [(h0, .inr (13, mX13 q0 (upd (upd (upd (upd v0 1 (u6_ 0)) 18 (u169_ 0)) 20 z131) 21 0))), ((q0 0), zi k1 600 f1), ((q0 19), zi k15 12 (a137_ 0)), ((q0 73), zi k48 400 (a15_ 0)), ((q0 6), zi k5 120 f5), ((q0 5), zi k4 122880 f4), ((q0 11), zi k10 120 f10), ((q0 12), zi k11 120 f11), ((q0 28), zi k20 400 (a15_ 1)), ((q0 3), zi k3 400 f3), ((q0 72), zi k47 13 (a24_ 0)), ((q0 2), zi k2 4800 f2), ((q0 17), zi k14 12 (a169_ 0))] H := hP
              have hD9 : va_D A [(h0, .inr (13, mX13 q0 (upd (upd (upd (upd v0 1 (u6_ 0)) 18 (u169_ 0)) 20 z131) 21 0))), ((q0 0), zi k1 600 f1), ((q0 19), zi k15 12 (a137_ 0)), ((q0 73), zi k48 400 (a15_ 0)), ((q0 6), zi k5 120 f5), ((q0 5), zi k4 122880 f4), ((q0 11), zi k10 120 f10), ((q0 12), zi k11 120 f11), ((q0 28), zi k20 400 (a15_ 1)), ((q0 3), zi k3 400 f3), ((q0 72), zi k47 13 (a24_ 0)), ((q0 2), zi k2 4800 f2), ((q0 17), zi k14 12 (a169_ 0))] := hD
              exact W.iret (v := (u24_ 1)) hx hb hr (fun t ht hW => ⟨⟨(u24_ 1), (fun i => ([(u6_ 0), (u169_ 0), z131, 0] : List (Int32)).getD i 0), rfl, hpost, (fun _ => 0), (fun i => ([(a137_ 0), (a15_ 0), (a15_ 1), (a24_ 0), (a169_ 0)] : List (Nat → Int32)).getD i (fun _ => 0)), (fun _ => (fun _ => 0)), by rw [ht]; exact hP9, va_K.moved hW.alike hK, hD9⟩, hS.F ht⟩) hS.2.2 dX13_nearest_173
            · skip
              have b_ := zF_ge rfl rfl c_
              refine lv_aload_n hx hb dX13_nearest_145 rfl (lv_at hl 0 rfl) ?_
              refine va_get (D := (dC, dI)) (ci := 13) (v := .ref (q0 19)) (C := RX13) (T := TX13) (N := 75) hx hb hG zuX13 hown hK hP 0 rfl rfl 19 (by decide) (hG _ zv1623) (fun _ h9 => h9) rfl dX13_nearest_146 ?_
              refine lv_iload_n hx hb dX13_nearest_149 rfl (lv_at hl 3 rfl) ?_
              refine lv_aload_n hx hb dX13_nearest_150 rfl (lv_at hl 0 rfl) ?_
              refine va_get (D := (dC, dI)) (ci := 13) (v := .ref (q0 2)) (C := RX13) (T := TX13) (N := 75) hx hb hG zuX13 hown hK hP 0 rfl rfl 2 (by decide) (hG _ zv1606) (fun _ h9 => h9) rfl dX13_nearest_151 ?_
              refine lv_bipush (v := 12) hx hb dX13_nearest_154 (by decide) ?_
              refine lv_iload_n hx hb dX13_nearest_156 rfl (lv_at hl 1 rfl) ?_
              refine lv_imul hx hb dX13_nearest_157 ?_
              refine lv_topi (fun z157 e_z157 => ?_)
              have b_ := zmul zk_12 rfl e_z157 (by omega) (by omega)
              refine lv_iload_n hx hb dX13_nearest_158 rfl (lv_at hl 3 rfl) ?_
              refine lv_iadd hx hb dX13_nearest_159 ?_
              refine lv_topi (fun z159 e_z159 => ?_)
              have b_ := zadd rfl rfl e_z159 (by omega) (by omega)
              refine va_bald hx hb hK hP 11 10 rfl rfl (zin_lit ⟨by omega, by omega⟩) dX13_nearest_160 ?_
              refine lv_topi (fun z160 e_z160 => ?_)
              refine va_bast hx hb hK hP hD hS 2 1 rfl rfl (zin_lit ⟨by omega, by omega⟩) dX13_nearest_161 (fun H locs hP hD hS => ?_)
              obtain ⟨f_161, e_f_161⟩ : ∃ z : Nat → Int32, z = upd (a137_ 0) ((u137_ 0) : Int32).toNatClampNeg (vp_nar .byte z160) := ⟨_, rfl⟩
              have hP : va_P (dC, dI) vwCl [(h0, .inr (13, mX13 q0 (upd (upd (upd v0 1 (u6_ 0)) 20 z131) 21 0))), ((q0 0), zi k1 600 f1), ((q0 19), zi k15 12 f_161), ((q0 73), zi k48 400 (a15_ 0)), ((q0 6), zi k5 120 f5), ((q0 5), zi k4 122880 f4), ((q0 11), zi k10 120 f10), ((q0 12), zi k11 120 f11), ((q0 28), zi k20 400 (a15_ 1)), ((q0 3), zi k3 400 f3), ((q0 72), zi k47 13 (a24_ 0)), ((q0 2), zi k2 4800 f2), ((q0 17), zi k14 12 f14)] H := by rw [e_f_161]; exact hP
              have hD : va_D A [(h0, .inr (13, mX13 q0 (upd (upd (upd v0 1 (u6_ 0)) 20 z131) 21 0))), ((q0 0), zi k1 600 f1), ((q0 19), zi k15 12 f_161), ((q0 73), zi k48 400 (a15_ 0)), ((q0 6), zi k5 120 f5), ((q0 5), zi k4 122880 f4), ((q0 11), zi k10 120 f10), ((q0 12), zi k11 120 f11), ((q0 28), zi k20 400 (a15_ 1)), ((q0 3), zi k3 400 f3), ((q0 72), zi k47 13 (a24_ 0)), ((q0 2), zi k2 4800 f2), ((q0 17), zi k14 12 f14)] := by rw [e_f_161]; exact hD
              obtain ⟨z162, e_z162⟩ : ∃ z : Int32, z = (u137_ 0) + Int32.ofInt 1 := ⟨_, rfl⟩
              have b_ := zadd (x := (u137_ 0)) (y := Int32.ofInt 1) rfl (show (Int32.ofInt 1).toInt = 1 from by decide) e_z162 (by omega) (by omega)
              refine lv_iinc (v := z162) (lv' := [(3, .int z162), (0, .ref h0), (1, .int (u24_ 0)), (2, .int (u24_ 1))]) hx hb dX13_nearest_162 hl (k := 3) rfl e_z162.symm (by decide) rfl (fun ls hl => ?_)
              refine lv_goto (tgt := 137) hx hb dX13_nearest_165 (by decide) ?_
              have hc : va_P (dC, dI) vwCl [(h0, .inr (13, mX13 q0 (upd (upd (upd v0 1 (u6_ 0)) 20 z131) 21 0))), ((q0 0), zi k1 600 f1), ((q0 19), zi k15 12 f_161), ((q0 73), zi k48 400 (a15_ 0)), ((q0 6), zi k5 120 f5), ((q0 5), zi k4 122880 f4), ((q0 11), zi k10 120 f10), ((q0 12), zi k11 120 f11), ((q0 28), zi k20 400 (a15_ 1)), ((q0 3), zi k3 400 f3), ((q0 72), zi k47 13 (a24_ 0)), ((q0 2), zi k2 4800 f2), ((q0 17), zi k14 12 f14)] H ∧ va_D A [(h0, .inr (13, mX13 q0 (upd (upd (upd v0 1 (u6_ 0)) 20 z131) 21 0))), ((q0 0), zi k1 600 f1), ((q0 19), zi k15 12 f_161), ((q0 73), zi k48 400 (a15_ 0)), ((q0 6), zi k5 120 f5), ((q0 5), zi k4 122880 f4), ((q0 11), zi k10 120 f10), ((q0 12), zi k11 120 f11), ((q0 28), zi k20 400 (a15_ 1)), ((q0 3), zi k3 400 f3), ((q0 72), zi k47 13 (a24_ 0)), ((q0 2), zi k2 4800 f2), ((q0 17), zi k14 12 f14)] ∧ va_S A s.heap H locs ∧ lv_has ls 5 [(0, .ref h0), (1, .int (u24_ 0)), (2, .int (u24_ 1)), (3, .int z162)] ∧ (0 ≤ z162.toInt ∧ z162.toInt ≤ 12) := ⟨hP, hD, hS, lv_sub hl [1, 2, 3, 0] rfl, (by first | with_reducible assumption | exact ⟨by omega, by omega⟩)⟩
              exact hJ137 H locs ls (fun i => ([z162] : List (Int32)).getD i 0) (fun _ => 0) (fun i => ([f_161] : List (Nat → Int32)).getD i (fun _ => 0)) (fun _ => (fun _ => 0)) hc (show (12 - z162.toInt).toNat < (12 - (u137_ 0).toInt).toNat from by omega)
          · skip
            have hc : va_P (dC, dI) vwCl [(h0, .inr (13, mX13 q0 (upd (upd (upd v0 1 (u6_ 0)) 20 z131) 21 0))), ((q0 0), zi k1 600 f1), ((q0 19), zi k15 12 (a6_ 0)), ((q0 73), zi k48 400 (a15_ 0)), ((q0 6), zi k5 120 f5), ((q0 5), zi k4 122880 f4), ((q0 11), zi k10 120 f10), ((q0 12), zi k11 120 f11), ((q0 28), zi k20 400 (a15_ 1)), ((q0 3), zi k3 400 f3), ((q0 72), zi k47 13 (a24_ 0)), ((q0 2), zi k2 4800 f2), ((q0 17), zi k14 12 f14)] H ∧ va_D A [(h0, .inr (13, mX13 q0 (upd (upd (upd v0 1 (u6_ 0)) 20 z131) 21 0))), ((q0 0), zi k1 600 f1), ((q0 19), zi k15 12 (a6_ 0)), ((q0 73), zi k48 400 (a15_ 0)), ((q0 6), zi k5 120 f5), ((q0 5), zi k4 122880 f4), ((q0 11), zi k10 120 f10), ((q0 12), zi k11 120 f11), ((q0 28), zi k20 400 (a15_ 1)), ((q0 3), zi k3 400 f3), ((q0 72), zi k47 13 (a24_ 0)), ((q0 2), zi k2 4800 f2), ((q0 17), zi k14 12 f14)] ∧ va_S A s.heap H locs ∧ lv_has ls 5 [(0, .ref h0), (1, .int (u24_ 0)), (2, .int (u24_ 1)), (3, .int 0)] ∧ (0 ≤ (0 : Int32).toInt ∧ (0 : Int32).toInt ≤ 12) := ⟨hP, hD, hS, lv_sub hl [1, 2, 3, 0] rfl, (by first | with_reducible assumption | exact ⟨by omega, by omega⟩)⟩
            exact hJ137 H locs ls (fun i => ([0] : List (Int32)).getD i 0) (fun _ => 0) (fun i => ([(a6_ 0)] : List (Nat → Int32)).getD i (fun _ => 0)) (fun _ => (fun _ => 0)) hc
        · skip
          have b_ := zF_ne rfl zk_m1 c_
          refine lv_iconst (v := (-1)) hx hb dX13_nearest_123 (by decide) ?_
          refine W.widen (k := 0) (n := 0) (by decide) (by decide) ?_
          have b_ : (-1) ≤ (v0 18).toInt ∧ (v0 18).toInt ≤ 12 := hv0 18
          have hpost : ((-2147483648) ≤ ((-1) : Int32).toInt ∧ ((-1) : Int32).toInt ≤ 3) ∧ (0 ≤ (u6_ 0).toInt ∧ (u6_ 0).toInt ≤ 0) ∧ ((-1) ≤ (v0 18).toInt ∧ (v0 18).toInt ≤ 12) ∧ (0 ≤ (u6_ 1).toInt ∧ (u6_ 1).toInt ≤ 12) ∧ (0 ≤ (0 : Int32).toInt ∧ (0 : Int32).toInt ≤ 0) := ⟨(by first | with_reducible assumption | exact ⟨by omega, by omega⟩), (by first | with_reducible assumption | exact ⟨by omega, by omega⟩), (by first | with_reducible assumption | exact ⟨by omega, by omega⟩), (by first | with_reducible assumption | exact ⟨by omega, by omega⟩), (by first | with_reducible assumption | exact ⟨by omega, by omega⟩)⟩
          have hP9 : va_P (dC, dI) vwCl [(h0, .inr (13, mX13 q0 (upd (upd (upd (upd v0 1 (u6_ 0)) 18 (v0 18)) 20 (u6_ 1)) 21 0))), ((q0 0), zi k1 600 f1), ((q0 19), zi k15 12 (a6_ 0)), ((q0 73), zi k48 400 (a15_ 0)), ((q0 6), zi k5 120 f5), ((q0 5), zi k4 122880 f4), ((q0 11), zi k10 120 f10), ((q0 12), zi k11 120 f11), ((q0 28), zi k20 400 (a15_ 1)), ((q0 3), zi k3 400 f3), ((q0 72), zi k47 13 (a24_ 0)), ((q0 2), zi k2 4800 f2), ((q0 17), zi k14 12 f14)] H := hP
          have hD9 : va_D A [(h0, .inr (13, mX13 q0 (upd (upd (upd (upd v0 1 (u6_ 0)) 18 (v0 18)) 20 (u6_ 1)) 21 0))), ((q0 0), zi k1 600 f1), ((q0 19), zi k15 12 (a6_ 0)), ((q0 73), zi k48 400 (a15_ 0)), ((q0 6), zi k5 120 f5), ((q0 5), zi k4 122880 f4), ((q0 11), zi k10 120 f10), ((q0 12), zi k11 120 f11), ((q0 28), zi k20 400 (a15_ 1)), ((q0 3), zi k3 400 f3), ((q0 72), zi k47 13 (a24_ 0)), ((q0 2), zi k2 4800 f2), ((q0 17), zi k14 12 f14)] := hD
          exact W.iret (v := (-1)) hx hb hr (fun t ht hW => ⟨⟨(-1), (fun i => ([(u6_ 0), (v0 18), (u6_ 1), 0] : List (Int32)).getD i 0), rfl, hpost, (fun _ => 0), (fun i => ([(a6_ 0), (a15_ 0), (a15_ 1), (a24_ 0), f14] : List (Nat → Int32)).getD i (fun _ => 0)), (fun _ => (fun _ => 0)), by rw [ht]; exact hP9, va_K.moved hW.alike hK, hD9⟩, hS.F ht⟩) hS.2.2 dX13_nearest_124
      · skip
        have b_ := zF_ge rfl rfl c_
        refine lv_aload_n hx hb dX13_nearest_32 rfl (lv_at hl 0 rfl) ?_
        refine lv_iload_n hx hb dX13_nearest_33 rfl (lv_at hl 3 rfl) ?_
        have hPc := hP.sub (ws' := [(h0, .inr (13, mX13 q0 (upd (upd (upd v0 1 (u6_ 0)) 20 (u6_ 1)) 21 0))), ((q0 3), zi k3 400 f3), ((q0 72), zi k47 13 (a24_ 0)), ((q0 19), zi k15 12 (a6_ 0)), ((q0 2), zi k2 4800 f2)]) [0, 9, 10, 2, 11] rfl
        have hDc := hD.sub (ws' := [(h0, .inr (13, mX13 q0 (upd (upd (upd v0 1 (u6_ 0)) 20 (u6_ 1)) 21 0))), ((q0 3), zi k3 400 f3), ((q0 72), zi k47 13 (a24_ 0)), ((q0 19), zi k15 12 (a6_ 0)), ((q0 2), zi k2 4800 f2)]) [0, 9, 10, 2, 11] (by decide) rfl
        have hKc := hK.sub (tys' := [(k3, .int), (k47, .int), (k15, .byte), (k2, .byte)]) [8, 9, 1, 10] rfl
        have hFc := va_free (wc := [(h0, .inr (13, mX13 q0 (upd (upd (upd v0 1 (u6_ 0)) 20 (u6_ 1)) 21 0))), ((q0 3), zi k3 400 f3), ((q0 72), zi k47 13 (a24_ 0)), ((q0 19), zi k15 12 (a6_ 0)), ((q0 2), zi k2 4800 f2)]) hD hS hA [0, 9, 10, 2, 11] rfl
        refine va_calli (va_runV (As := [.int (u24_ 2)]) (rest := []) ⟨hx, hb, hml, hown, hG⟩ (sX13_distance_0 l dC dI adK adV h0 q0 k3 k47 k15 k2 H.size (upd (upd (upd v0 1 (u6_ 0)) 20 (u6_ 1)) 21 0) f3 (a24_ 0) (a6_ 0) f2 (u24_ 2) (zR_updF (zR_up2 (zR_up2 hv0 1 (show (0 : Int) ≤ ((u6_ 0) : Int32).toInt ∧ ((u6_ 0) : Int32).toInt ≤ (600 : Int) from (by first | with_reducible assumption | exact ⟨by omega, by omega⟩))) 20 (show (0 : Int) ≤ ((u6_ 1) : Int32).toInt ∧ ((u6_ 1) : Int32).toInt ≤ (12 : Int) from (by first | with_reducible assumption | exact ⟨by omega, by omega⟩))) 21 rfl) hf3 (show (0 : Int) ≤ ((u24_ 2) : Int32).toInt ∧ ((u24_ 2) : Int32).toInt ≤ (399 : Int) from (by first | with_reducible assumption | exact ⟨by omega, by omega⟩))) (cwV 1 hG (zgV zv2244 zv2246 zv126 zv142 zv2247) rfl rfl rfl (by decide +kernel) ⟨Nat.le_of_ble_eq_true rfl, Nat.le_of_ble_eq_true rfl⟩) ⟨zPc_blind, va_recv hKc hPc (ci := 13) (q0 := 0) rfl rfl, zPc_pre hPc hKc hDc hE hS hFc hZ⟩ rfl rfl hl.1 rfl (lv_room (Nat.le_of_ble_eq_true rfl)) dX13_nearest_34 ⟨Nat.le_of_ble_eq_true rfl, Nat.le_of_ble_eq_true rfl⟩) hS (fun q _ h => hFc q h) hFc (fun r34_ u34_ t H1 locs ht hvm hw hB hz1 hk1 hS => ?_)
        obtain ⟨w34_, a34_, b34_, hP1, hK1, hD1⟩ := hB
        rw [ht] at hP1
        obtain ⟨hP, hD⟩ := va_join (wr := [((q0 0), zi k1 600 f1), ((q0 73), zi k48 400 (a15_ 0)), ((q0 6), zi k5 120 f5), ((q0 5), zi k4 122880 f4), ((q0 11), zi k10 120 f10), ((q0 12), zi k11 120 f11), ((q0 28), zi k20 400 (a15_ 1)), ((q0 17), zi k14 12 f14)]) (w1 := [(h0, .inr (13, mX13 q0 (upd (upd (upd v0 1 (u6_ 0)) 20 (u6_ 1)) 21 0))), ((q0 3), zi k3 400 f3), ((q0 72), zi k47 13 (a34_ 0)), ((q0 19), zi k15 12 (a6_ 0)), ((q0 2), zi k2 4800 f2)]) hP hD [0, 9, 10, 2, 11] [1, 3, 4, 5, 6, 7, 8, 12] rfl rfl (by decide) (by decide) hk1 hFc hP1 hD1
        have hP : va_P (dC, dI) vwCl [(h0, .inr (13, mX13 q0 (upd (upd (upd v0 1 (u6_ 0)) 20 (u6_ 1)) 21 0))), ((q0 0), zi k1 600 f1), ((q0 19), zi k15 12 (a6_ 0)), ((q0 73), zi k48 400 (a15_ 0)), ((q0 6), zi k5 120 f5), ((q0 5), zi k4 122880 f4), ((q0 11), zi k10 120 f10), ((q0 12), zi k11 120 f11), ((q0 28), zi k20 400 (a15_ 1)), ((q0 3), zi k3 400 f3), ((q0 72), zi k47 13 (a34_ 0)), ((q0 2), zi k2 4800 f2), ((q0 17), zi k14 12 f14)] H1 := hP.sub [8, 0, 11, 1, 2, 3, 4, 5, 6, 9, 10, 12, 7] rfl
        have hD : va_D A [(h0, .inr (13, mX13 q0 (upd (upd (upd v0 1 (u6_ 0)) 20 (u6_ 1)) 21 0))), ((q0 0), zi k1 600 f1), ((q0 19), zi k15 12 (a6_ 0)), ((q0 73), zi k48 400 (a15_ 0)), ((q0 6), zi k5 120 f5), ((q0 5), zi k4 122880 f4), ((q0 11), zi k10 120 f10), ((q0 12), zi k11 120 f11), ((q0 28), zi k20 400 (a15_ 1)), ((q0 3), zi k3 400 f3), ((q0 72), zi k47 13 (a34_ 0)), ((q0 2), zi k2 4800 f2), ((q0 17), zi k14 12 f14)] := hD.sub [8, 0, 11, 1, 2, 3, 4, 5, 6, 9, 10, 12, 7] (by decide) rfl
        generalize H1 = H at hP hS ⊢
        clear hz1
        refine lv_istore (lv' := [(4, .int r34_), (0, .ref h0), (1, .int (u24_ 0)), (2, .int (u24_ 1)), (3, .int (u24_ 2))]) hx hb dX13_nearest_37 hl (by decide) rfl (fun ls hl => ?_)
        refine lv_iload hx hb dX13_nearest_39 (lv_at hl 0 rfl) ?_
        refine lv_iconst (v := 2) hx hb dX13_nearest_41 (by decide) ?_
        have b_ : -2147483648 ≤ r34_.toInt ∧ r34_.toInt ≤ 2147483647 := ⟨zlo _, zhi _⟩
        refine lv_icmp_gt (tgt := 112) hx hb dX13_nearest_42 (by decide) (fun c_ => ?_) (fun c_ => ?_)
        · skip
          have b_ := zT_gt rfl zk_2 c_
          obtain ⟨z112, e_z112⟩ : ∃ z : Int32, z = (u24_ 2) + Int32.ofInt 1 := ⟨_, rfl⟩
          have b_ := zadd (x := (u24_ 2)) (y := Int32.ofInt 1) rfl (show (Int32.ofInt 1).toInt = 1 from by decide) e_z112 (by omega) (by omega)
          refine lv_iinc (v := z112) (lv' := [(3, .int z112), (4, .int r34_), (0, .ref h0), (1, .int (u24_ 0)), (2, .int (u24_ 1))]) hx hb dX13_nearest_112 hl (k := 4) rfl e_z112.symm (by decide) rfl (fun ls hl => ?_)
          refine lv_goto (tgt := 24) hx hb dX13_nearest_115 (by decide) ?_
          have hc : va_P (dC, dI) vwCl [(h0, .inr (13, mX13 q0 (upd (upd (upd v0 1 (u6_ 0)) 20 (u6_ 1)) 21 0))), ((q0 0), zi k1 600 f1), ((q0 19), zi k15 12 (a6_ 0)), ((q0 73), zi k48 400 (a15_ 0)), ((q0 6), zi k5 120 f5), ((q0 5), zi k4 122880 f4), ((q0 11), zi k10 120 f10), ((q0 12), zi k11 120 f11), ((q0 28), zi k20 400 (a15_ 1)), ((q0 3), zi k3 400 f3), ((q0 72), zi k47 13 (a34_ 0)), ((q0 2), zi k2 4800 f2), ((q0 17), zi k14 12 f14)] H ∧ va_D A [(h0, .inr (13, mX13 q0 (upd (upd (upd v0 1 (u6_ 0)) 20 (u6_ 1)) 21 0))), ((q0 0), zi k1 600 f1), ((q0 19), zi k15 12 (a6_ 0)), ((q0 73), zi k48 400 (a15_ 0)), ((q0 6), zi k5 120 f5), ((q0 5), zi k4 122880 f4), ((q0 11), zi k10 120 f10), ((q0 12), zi k11 120 f11), ((q0 28), zi k20 400 (a15_ 1)), ((q0 3), zi k3 400 f3), ((q0 72), zi k47 13 (a34_ 0)), ((q0 2), zi k2 4800 f2), ((q0 17), zi k14 12 f14)] ∧ va_S A s.heap H locs ∧ lv_has ls 5 [(0, .ref h0), (1, .int (u24_ 0)), (2, .int (u24_ 1)), (3, .int z112)] ∧ ((-1) ≤ (u24_ 0).toInt ∧ (u24_ 0).toInt ≤ 399) ∧ ((-2147483648) ≤ (u24_ 1).toInt ∧ (u24_ 1).toInt ≤ 3) ∧ (0 ≤ z112.toInt ∧ z112.toInt ≤ 400) := ⟨hP, hD, hS, lv_sub hl [2, 3, 4, 0] rfl, (by first | with_reducible assumption | exact ⟨by omega, by omega⟩), (by first | with_reducible assumption | exact ⟨by omega, by omega⟩), (by first | with_reducible assumption | exact ⟨by omega, by omega⟩)⟩
          exact hJ24 H locs ls (fun i => ([(u24_ 0), (u24_ 1), z112] : List (Int32)).getD i 0) (fun _ => 0) (fun i => ([(a34_ 0)] : List (Nat → Int32)).getD i (fun _ => 0)) (fun _ => (fun _ => 0)) hc (show (400 - z112.toInt).toNat < (400 - (u24_ 2).toInt).toNat from by omega)
        · skip
          have b_ := zF_gt rfl zk_2 c_
          refine lv_iload hx hb dX13_nearest_45 (lv_at hl 0 rfl) ?_
          refine lv_iload_n hx hb dX13_nearest_47 rfl (lv_at hl 3 rfl) ?_
          refine lv_icmp_le (tgt := 54) hx hb dX13_nearest_48 (by decide) (fun c_ => ?_) (fun c_ => ?_)
          · skip
            have b_ := zT_le rfl rfl c_
            refine lv_iload_n hx hb dX13_nearest_54 rfl (lv_at hl 2 rfl) ?_
            refine lv_iconst (v := (-1)) hx hb dX13_nearest_55 (by decide) ?_
            refine zcutW (fun H locs ls u107_ w107_ a107_ b107_ => va_P (dC, dI) vwCl [(h0, .inr (13, mX13 q0 (upd (upd (upd v0 1 (u6_ 0)) 20 (u6_ 1)) 21 0))), ((q0 0), zi k1 600 f1), ((q0 19), zi k15 12 (a6_ 0)), ((q0 73), zi k48 400 (a15_ 0)), ((q0 6), zi k5 120 f5), ((q0 5), zi k4 122880 f4), ((q0 11), zi k10 120 f10), ((q0 12), zi k11 120 f11), ((q0 28), zi k20 400 (a15_ 1)), ((q0 3), zi k3 400 f3), ((q0 72), zi k47 13 (a34_ 0)), ((q0 2), zi k2 4800 f2), ((q0 17), zi k14 12 f14)] H ∧ va_D A [(h0, .inr (13, mX13 q0 (upd (upd (upd v0 1 (u6_ 0)) 20 (u6_ 1)) 21 0))), ((q0 0), zi k1 600 f1), ((q0 19), zi k15 12 (a6_ 0)), ((q0 73), zi k48 400 (a15_ 0)), ((q0 6), zi k5 120 f5), ((q0 5), zi k4 122880 f4), ((q0 11), zi k10 120 f10), ((q0 12), zi k11 120 f11), ((q0 28), zi k20 400 (a15_ 1)), ((q0 3), zi k3 400 f3), ((q0 72), zi k47 13 (a34_ 0)), ((q0 2), zi k2 4800 f2), ((q0 17), zi k14 12 f14)] ∧ va_S A s.heap H locs ∧ lv_has ls 5 [(0, .ref h0), (1, .int (u24_ 0)), (2, .int (u24_ 1)), (3, .int (u24_ 2)), (4, .int r34_)] ∧ ((-1) ≤ (u24_ 0).toInt ∧ (u24_ 0).toInt ≤ 399)) (fun ls u107_ w107_ => F0 m 107 ls []) 0 0 ?_ (fun hJ107 => ?_)
            · skip
              intro H locs ls u107_ w107_ a107_ b107_ hc
              obtain ⟨hP, hD, hS, hl, b_⟩ := hc
              refine lv_iload_n hx hb dX13_nearest_107 rfl (lv_at hl 3 rfl) ?_
              refine lv_istore_n (lv' := [(1, .int (u24_ 2)), (0, .ref h0), (2, .int (u24_ 1)), (3, .int (u24_ 2)), (4, .int r34_)]) hx hb dX13_nearest_108 rfl hl (by decide) rfl (fun ls hl => ?_)
              refine lv_iload hx hb dX13_nearest_109 (lv_at hl 4 rfl) ?_
              refine lv_istore_n (lv' := [(2, .int r34_), (1, .int (u24_ 2)), (0, .ref h0), (3, .int (u24_ 2)), (4, .int r34_)]) hx hb dX13_nearest_111 rfl hl (by decide) rfl (fun ls hl => ?_)
              obtain ⟨z112, e_z112⟩ : ∃ z : Int32, z = (u24_ 2) + Int32.ofInt 1 := ⟨_, rfl⟩
              have b_ := zadd (x := (u24_ 2)) (y := Int32.ofInt 1) rfl (show (Int32.ofInt 1).toInt = 1 from by decide) e_z112 (by omega) (by omega)
              refine lv_iinc (v := z112) (lv' := [(3, .int z112), (2, .int r34_), (1, .int (u24_ 2)), (0, .ref h0), (4, .int r34_)]) hx hb dX13_nearest_112 hl (k := 3) rfl e_z112.symm (by decide) rfl (fun ls hl => ?_)
              refine lv_goto (tgt := 24) hx hb dX13_nearest_115 (by decide) ?_
              have hc : va_P (dC, dI) vwCl [(h0, .inr (13, mX13 q0 (upd (upd (upd v0 1 (u6_ 0)) 20 (u6_ 1)) 21 0))), ((q0 0), zi k1 600 f1), ((q0 19), zi k15 12 (a6_ 0)), ((q0 73), zi k48 400 (a15_ 0)), ((q0 6), zi k5 120 f5), ((q0 5), zi k4 122880 f4), ((q0 11), zi k10 120 f10), ((q0 12), zi k11 120 f11), ((q0 28), zi k20 400 (a15_ 1)), ((q0 3), zi k3 400 f3), ((q0 72), zi k47 13 (a34_ 0)), ((q0 2), zi k2 4800 f2), ((q0 17), zi k14 12 f14)] H ∧ va_D A [(h0, .inr (13, mX13 q0 (upd (upd (upd v0 1 (u6_ 0)) 20 (u6_ 1)) 21 0))), ((q0 0), zi k1 600 f1), ((q0 19), zi k15 12 (a6_ 0)), ((q0 73), zi k48 400 (a15_ 0)), ((q0 6), zi k5 120 f5), ((q0 5), zi k4 122880 f4), ((q0 11), zi k10 120 f10), ((q0 12), zi k11 120 f11), ((q0 28), zi k20 400 (a15_ 1)), ((q0 3), zi k3 400 f3), ((q0 72), zi k47 13 (a34_ 0)), ((q0 2), zi k2 4800 f2), ((q0 17), zi k14 12 f14)] ∧ va_S A s.heap H locs ∧ lv_has ls 5 [(0, .ref h0), (1, .int (u24_ 2)), (2, .int r34_), (3, .int z112)] ∧ ((-1) ≤ (u24_ 2).toInt ∧ (u24_ 2).toInt ≤ 399) ∧ ((-2147483648) ≤ r34_.toInt ∧ r34_.toInt ≤ 3) ∧ (0 ≤ z112.toInt ∧ z112.toInt ≤ 400) := ⟨hP, hD, hS, lv_sub hl [3, 2, 1, 0] rfl, (by first | with_reducible assumption | exact ⟨by omega, by omega⟩), (by first | with_reducible assumption | exact ⟨by omega, by omega⟩), (by first | with_reducible assumption | exact ⟨by omega, by omega⟩)⟩
              exact hJ24 H locs ls (fun i => ([(u24_ 2), r34_, z112] : List (Int32)).getD i 0) (fun _ => 0) (fun i => ([(a34_ 0)] : List (Nat → Int32)).getD i (fun _ => 0)) (fun _ => (fun _ => 0)) hc (show (400 - z112.toInt).toNat < (400 - (u24_ 2).toInt).toNat from by omega)
            · skip
              refine lv_icmp_eq (tgt := 107) hx hb dX13_nearest_56 (by decide) (fun c_ => ?_) (fun c_ => ?_)
              · skip
                have b_ := zT_eq rfl zk_m1 c_
                have hc : va_P (dC, dI) vwCl [(h0, .inr (13, mX13 q0 (upd (upd (upd v0 1 (u6_ 0)) 20 (u6_ 1)) 21 0))), ((q0 0), zi k1 600 f1), ((q0 19), zi k15 12 (a6_ 0)), ((q0 73), zi k48 400 (a15_ 0)), ((q0 6), zi k5 120 f5), ((q0 5), zi k4 122880 f4), ((q0 11), zi k10 120 f10), ((q0 12), zi k11 120 f11), ((q0 28), zi k20 400 (a15_ 1)), ((q0 3), zi k3 400 f3), ((q0 72), zi k47 13 (a34_ 0)), ((q0 2), zi k2 4800 f2), ((q0 17), zi k14 12 f14)] H ∧ va_D A [(h0, .inr (13, mX13 q0 (upd (upd (upd v0 1 (u6_ 0)) 20 (u6_ 1)) 21 0))), ((q0 0), zi k1 600 f1), ((q0 19), zi k15 12 (a6_ 0)), ((q0 73), zi k48 400 (a15_ 0)), ((q0 6), zi k5 120 f5), ((q0 5), zi k4 122880 f4), ((q0 11), zi k10 120 f10), ((q0 12), zi k11 120 f11), ((q0 28), zi k20 400 (a15_ 1)), ((q0 3), zi k3 400 f3), ((q0 72), zi k47 13 (a34_ 0)), ((q0 2), zi k2 4800 f2), ((q0 17), zi k14 12 f14)] ∧ va_S A s.heap H locs ∧ lv_has ls 5 [(0, .ref h0), (1, .int (u24_ 0)), (2, .int (u24_ 1)), (3, .int (u24_ 2)), (4, .int r34_)] ∧ ((-1) ≤ (u24_ 0).toInt ∧ (u24_ 0).toInt ≤ 399) := ⟨hP, hD, hS, lv_sub hl [1, 2, 3, 4, 0] rfl, (by first | with_reducible assumption | exact ⟨by omega, by omega⟩)⟩
                exact hJ107 H locs ls (fun _ => 0) (fun _ => 0) (fun _ => (fun _ => 0)) (fun _ => (fun _ => 0)) hc
              · skip
                have b_ := zF_eq rfl zk_m1 c_
                refine lv_iload hx hb dX13_nearest_59 (lv_at hl 0 rfl) ?_
                refine lv_iload_n hx hb dX13_nearest_61 rfl (lv_at hl 3 rfl) ?_
                refine lv_icmp_ne (tgt := 107) hx hb dX13_nearest_62 (by decide) (fun c_ => ?_) (fun c_ => ?_)
                · skip
                  have b_ := zT_ne rfl rfl c_
                  have hc : va_P (dC, dI) vwCl [(h0, .inr (13, mX13 q0 (upd (upd (upd v0 1 (u6_ 0)) 20 (u6_ 1)) 21 0))), ((q0 0), zi k1 600 f1), ((q0 19), zi k15 12 (a6_ 0)), ((q0 73), zi k48 400 (a15_ 0)), ((q0 6), zi k5 120 f5), ((q0 5), zi k4 122880 f4), ((q0 11), zi k10 120 f10), ((q0 12), zi k11 120 f11), ((q0 28), zi k20 400 (a15_ 1)), ((q0 3), zi k3 400 f3), ((q0 72), zi k47 13 (a34_ 0)), ((q0 2), zi k2 4800 f2), ((q0 17), zi k14 12 f14)] H ∧ va_D A [(h0, .inr (13, mX13 q0 (upd (upd (upd v0 1 (u6_ 0)) 20 (u6_ 1)) 21 0))), ((q0 0), zi k1 600 f1), ((q0 19), zi k15 12 (a6_ 0)), ((q0 73), zi k48 400 (a15_ 0)), ((q0 6), zi k5 120 f5), ((q0 5), zi k4 122880 f4), ((q0 11), zi k10 120 f10), ((q0 12), zi k11 120 f11), ((q0 28), zi k20 400 (a15_ 1)), ((q0 3), zi k3 400 f3), ((q0 72), zi k47 13 (a34_ 0)), ((q0 2), zi k2 4800 f2), ((q0 17), zi k14 12 f14)] ∧ va_S A s.heap H locs ∧ lv_has ls 5 [(0, .ref h0), (1, .int (u24_ 0)), (2, .int (u24_ 1)), (3, .int (u24_ 2)), (4, .int r34_)] ∧ ((-1) ≤ (u24_ 0).toInt ∧ (u24_ 0).toInt ≤ 399) := ⟨hP, hD, hS, lv_sub hl [1, 2, 3, 4, 0] rfl, (by first | with_reducible assumption | exact ⟨by omega, by omega⟩)⟩
                  exact hJ107 H locs ls (fun _ => 0) (fun _ => 0) (fun _ => (fun _ => 0)) (fun _ => (fun _ => 0)) hc
                · skip
                  have b_ := zF_ne rfl rfl c_
                  refine lv_aload_n hx hb dX13_nearest_65 rfl (lv_at hl 1 rfl) ?_
                  refine va_get (D := (dC, dI)) (ci := 13) (v := .ref (q0 73)) (C := RX13) (T := TX13) (N := 75) hx hb hG zuX13 hown hK hP 0 rfl rfl 73 (by decide) (hG _ zv1677) (fun _ h9 => h9) rfl dX13_nearest_66 ?_
                  refine lv_iload_n hx hb dX13_nearest_69 rfl (lv_at hl 4 rfl) ?_
                  refine va_iald hx hb hK hP 3 2 rfl rfl (zin_lit ⟨by omega, by omega⟩) dX13_nearest_70 ?_
                  refine lv_topi (fun z70 e_z70 => ?_)
                  refine lv_aload_n hx hb dX13_nearest_71 rfl (lv_at hl 1 rfl) ?_
                  refine va_get (D := (dC, dI)) (ci := 13) (v := .ref (q0 73)) (C := RX13) (T := TX13) (N := 75) hx hb hG zuX13 hown hK hP 0 rfl rfl 73 (by decide) (hG _ zv1677) (fun _ h9 => h9) rfl dX13_nearest_72 ?_
                  refine lv_iload_n hx hb dX13_nearest_75 rfl (lv_at hl 2 rfl) ?_
                  refine va_iald hx hb hK hP 3 2 rfl rfl (zin_lit ⟨by omega, by omega⟩) dX13_nearest_76 ?_
                  refine lv_topi (fun z76 e_z76 => ?_)
                  have b_ : -2147483648 ≤ z70.toInt ∧ z70.toInt ≤ 2147483647 := ⟨zlo _, zhi _⟩
                  have b_ : -2147483648 ≤ z76.toInt ∧ z76.toInt ≤ 2147483647 := ⟨zlo _, zhi _⟩
                  refine lv_icmp_lt (tgt := 112) hx hb dX13_nearest_77 (by decide) (fun c_ => ?_) (fun c_ => ?_)
                  · skip
                    have b_ := zT_lt rfl rfl c_
                    obtain ⟨z112, e_z112⟩ : ∃ z : Int32, z = (u24_ 2) + Int32.ofInt 1 := ⟨_, rfl⟩
                    have b_ := zadd (x := (u24_ 2)) (y := Int32.ofInt 1) rfl (show (Int32.ofInt 1).toInt = 1 from by decide) e_z112 (by omega) (by omega)
                    refine lv_iinc (v := z112) (lv' := [(3, .int z112), (4, .int r34_), (0, .ref h0), (1, .int (u24_ 0)), (2, .int (u24_ 1))]) hx hb dX13_nearest_112 hl (k := 4) rfl e_z112.symm (by decide) rfl (fun ls hl => ?_)
                    refine lv_goto (tgt := 24) hx hb dX13_nearest_115 (by decide) ?_
                    have hc : va_P (dC, dI) vwCl [(h0, .inr (13, mX13 q0 (upd (upd (upd v0 1 (u6_ 0)) 20 (u6_ 1)) 21 0))), ((q0 0), zi k1 600 f1), ((q0 19), zi k15 12 (a6_ 0)), ((q0 73), zi k48 400 (a15_ 0)), ((q0 6), zi k5 120 f5), ((q0 5), zi k4 122880 f4), ((q0 11), zi k10 120 f10), ((q0 12), zi k11 120 f11), ((q0 28), zi k20 400 (a15_ 1)), ((q0 3), zi k3 400 f3), ((q0 72), zi k47 13 (a34_ 0)), ((q0 2), zi k2 4800 f2), ((q0 17), zi k14 12 f14)] H ∧ va_D A [(h0, .inr (13, mX13 q0 (upd (upd (upd v0 1 (u6_ 0)) 20 (u6_ 1)) 21 0))), ((q0 0), zi k1 600 f1), ((q0 19), zi k15 12 (a6_ 0)), ((q0 73), zi k48 400 (a15_ 0)), ((q0 6), zi k5 120 f5), ((q0 5), zi k4 122880 f4), ((q0 11), zi k10 120 f10), ((q0 12), zi k11 120 f11), ((q0 28), zi k20 400 (a15_ 1)), ((q0 3), zi k3 400 f3), ((q0 72), zi k47 13 (a34_ 0)), ((q0 2), zi k2 4800 f2), ((q0 17), zi k14 12 f14)] ∧ va_S A s.heap H locs ∧ lv_has ls 5 [(0, .ref h0), (1, .int (u24_ 0)), (2, .int (u24_ 1)), (3, .int z112)] ∧ ((-1) ≤ (u24_ 0).toInt ∧ (u24_ 0).toInt ≤ 399) ∧ ((-2147483648) ≤ (u24_ 1).toInt ∧ (u24_ 1).toInt ≤ 3) ∧ (0 ≤ z112.toInt ∧ z112.toInt ≤ 400) := ⟨hP, hD, hS, lv_sub hl [2, 3, 4, 0] rfl, (by first | with_reducible assumption | exact ⟨by omega, by omega⟩), (by first | with_reducible assumption | exact ⟨by omega, by omega⟩), (by first | with_reducible assumption | exact ⟨by omega, by omega⟩)⟩
                    exact hJ24 H locs ls (fun i => ([(u24_ 0), (u24_ 1), z112] : List (Int32)).getD i 0) (fun _ => 0) (fun i => ([(a34_ 0)] : List (Nat → Int32)).getD i (fun _ => 0)) (fun _ => (fun _ => 0)) hc (show (400 - z112.toInt).toNat < (400 - (u24_ 2).toInt).toNat from by omega)
                  · skip
                    have b_ := zF_lt rfl rfl c_
                    refine lv_aload_n hx hb dX13_nearest_80 rfl (lv_at hl 1 rfl) ?_
                    refine va_get (D := (dC, dI)) (ci := 13) (v := .ref (q0 73)) (C := RX13) (T := TX13) (N := 75) hx hb hG zuX13 hown hK hP 0 rfl rfl 73 (by decide) (hG _ zv1677) (fun _ h9 => h9) rfl dX13_nearest_81 ?_
                    refine lv_iload_n hx hb dX13_nearest_84 rfl (lv_at hl 4 rfl) ?_
                    refine va_iald hx hb hK hP 3 2 rfl rfl (zin_lit ⟨by omega, by omega⟩) dX13_nearest_85 ?_
                    refine lv_topi (fun z85 e_z85 => ?_)
                    refine lv_aload_n hx hb dX13_nearest_86 rfl (lv_at hl 1 rfl) ?_
                    refine va_get (D := (dC, dI)) (ci := 13) (v := .ref (q0 73)) (C := RX13) (T := TX13) (N := 75) hx hb hG zuX13 hown hK hP 0 rfl rfl 73 (by decide) (hG _ zv1677) (fun _ h9 => h9) rfl dX13_nearest_87 ?_
                    refine lv_iload_n hx hb dX13_nearest_90 rfl (lv_at hl 2 rfl) ?_
                    refine va_iald hx hb hK hP 3 2 rfl rfl (zin_lit ⟨by omega, by omega⟩) dX13_nearest_91 ?_
                    refine lv_topi (fun z91 e_z91 => ?_)
                    have b_ : -2147483648 ≤ z85.toInt ∧ z85.toInt ≤ 2147483647 := ⟨zlo _, zhi _⟩
                    have b_ : -2147483648 ≤ z91.toInt ∧ z91.toInt ≤ 2147483647 := ⟨zlo _, zhi _⟩
                    refine lv_icmp_ne (tgt := 107) hx hb dX13_nearest_92 (by decide) (fun c_ => ?_) (fun c_ => ?_)
                    · skip
                      have b_ := zT_ne rfl rfl c_
                      have hc : va_P (dC, dI) vwCl [(h0, .inr (13, mX13 q0 (upd (upd (upd v0 1 (u6_ 0)) 20 (u6_ 1)) 21 0))), ((q0 0), zi k1 600 f1), ((q0 19), zi k15 12 (a6_ 0)), ((q0 73), zi k48 400 (a15_ 0)), ((q0 6), zi k5 120 f5), ((q0 5), zi k4 122880 f4), ((q0 11), zi k10 120 f10), ((q0 12), zi k11 120 f11), ((q0 28), zi k20 400 (a15_ 1)), ((q0 3), zi k3 400 f3), ((q0 72), zi k47 13 (a34_ 0)), ((q0 2), zi k2 4800 f2), ((q0 17), zi k14 12 f14)] H ∧ va_D A [(h0, .inr (13, mX13 q0 (upd (upd (upd v0 1 (u6_ 0)) 20 (u6_ 1)) 21 0))), ((q0 0), zi k1 600 f1), ((q0 19), zi k15 12 (a6_ 0)), ((q0 73), zi k48 400 (a15_ 0)), ((q0 6), zi k5 120 f5), ((q0 5), zi k4 122880 f4), ((q0 11), zi k10 120 f10), ((q0 12), zi k11 120 f11), ((q0 28), zi k20 400 (a15_ 1)), ((q0 3), zi k3 400 f3), ((q0 72), zi k47 13 (a34_ 0)), ((q0 2), zi k2 4800 f2), ((q0 17), zi k14 12 f14)] ∧ va_S A s.heap H locs ∧ lv_has ls 5 [(0, .ref h0), (1, .int (u24_ 0)), (2, .int (u24_ 1)), (3, .int (u24_ 2)), (4, .int r34_)] ∧ ((-1) ≤ (u24_ 0).toInt ∧ (u24_ 0).toInt ≤ 399) := ⟨hP, hD, hS, lv_sub hl [1, 2, 3, 4, 0] rfl, (by first | with_reducible assumption | exact ⟨by omega, by omega⟩)⟩
                      exact hJ107 H locs ls (fun _ => 0) (fun _ => 0) (fun _ => (fun _ => 0)) (fun _ => (fun _ => 0)) hc
                    · skip
                      have b_ := zF_ne rfl rfl c_
                      refine lv_aload_n hx hb dX13_nearest_95 rfl (lv_at hl 1 rfl) ?_
                      refine lv_iload_n hx hb dX13_nearest_96 rfl (lv_at hl 4 rfl) ?_
                      refine lv_iload_n hx hb dX13_nearest_97 rfl (lv_at hl 2 rfl) ?_
                      have hPc := hP.sub (ws' := [(h0, .inr (13, mX13 q0 (upd (upd (upd v0 1 (u6_ 0)) 20 (u6_ 1)) 21 0))), ((q0 3), zi k3 400 f3), ((q0 2), zi k2 4800 f2)]) [0, 9, 11] rfl
                      have hDc := hD.sub (ws' := [(h0, .inr (13, mX13 q0 (upd (upd (upd v0 1 (u6_ 0)) 20 (u6_ 1)) 21 0))), ((q0 3), zi k3 400 f3), ((q0 2), zi k2 4800 f2)]) [0, 9, 11] (by decide) rfl
                      have hKc := hK.sub (tys' := [(k3, .int), (k2, .byte)]) [8, 10] rfl
                      have hFc := va_free (wc := [(h0, .inr (13, mX13 q0 (upd (upd (upd v0 1 (u6_ 0)) 20 (u6_ 1)) 21 0))), ((q0 3), zi k3 400 f3), ((q0 2), zi k2 4800 f2)]) hD hS hA [0, 9, 11] rfl
                      refine va_calli (va_runV (As := [.int (u24_ 2), .int (u24_ 0)]) (rest := []) ⟨hx, hb, hml, hown, hG⟩ (sX13_order_0 l dC dI adK adV h0 q0 k3 k2 H.size (upd (upd (upd v0 1 (u6_ 0)) 20 (u6_ 1)) 21 0) f3 f2 (u24_ 2) (u24_ 0) (zR_updF (zR_up2 (zR_up2 hv0 1 (show (0 : Int) ≤ ((u6_ 0) : Int32).toInt ∧ ((u6_ 0) : Int32).toInt ≤ (600 : Int) from (by first | with_reducible assumption | exact ⟨by omega, by omega⟩))) 20 (show (0 : Int) ≤ ((u6_ 1) : Int32).toInt ∧ ((u6_ 1) : Int32).toInt ≤ (12 : Int) from (by first | with_reducible assumption | exact ⟨by omega, by omega⟩))) 21 rfl) hf3 (show (0 : Int) ≤ ((u24_ 2) : Int32).toInt ∧ ((u24_ 2) : Int32).toInt ≤ (399 : Int) from (by first | with_reducible assumption | exact ⟨by omega, by omega⟩)) (show (0 : Int) ≤ ((u24_ 0) : Int32).toInt ∧ ((u24_ 0) : Int32).toInt ≤ (399 : Int) from (by first | with_reducible assumption | exact ⟨by omega, by omega⟩))) (cwV 2 hG (zgV zv2010 zv2012 zv77 zv142 zv2013) rfl rfl rfl (by decide +kernel) ⟨Nat.le_of_ble_eq_true rfl, Nat.le_of_ble_eq_true rfl⟩) ⟨zPc_blind, va_recv hKc hPc (ci := 13) (q0 := 0) rfl rfl, zPc_pre hPc hKc hDc hE hS hFc hZ⟩ rfl rfl hl.1 rfl (lv_room (Nat.le_of_ble_eq_true rfl)) dX13_nearest_98 ⟨Nat.le_of_ble_eq_true rfl, Nat.le_of_ble_eq_true rfl⟩) hS (fun q _ h => hFc q h) hFc (fun r98_ u98_ t H1 locs ht hvm hw hB hz1 hk1 hS => ?_)
                      obtain ⟨w98_, a98_, b98_, hP1, hK1, hD1⟩ := hB
                      rw [ht] at hP1
                      obtain ⟨hP, hD⟩ := va_join (wr := [((q0 0), zi k1 600 f1), ((q0 19), zi k15 12 (a6_ 0)), ((q0 73), zi k48 400 (a15_ 0)), ((q0 6), zi k5 120 f5), ((q0 5), zi k4 122880 f4), ((q0 11), zi k10 120 f10), ((q0 12), zi k11 120 f11), ((q0 28), zi k20 400 (a15_ 1)), ((q0 72), zi k47 13 (a34_ 0)), ((q0 17), zi k14 12 f14)]) (w1 := [(h0, .inr (13, mX13 q0 (upd (upd (upd v0 1 (u6_ 0)) 20 (u6_ 1)) 21 0))), ((q0 3), zi k3 400 f3), ((q0 2), zi k2 4800 f2)]) hP hD [0, 9, 11] [1, 2, 3, 4, 5, 6, 7, 8, 10, 12] rfl rfl (by decide) (by decide) hk1 hFc hP1 hD1
                      have hP : va_P (dC, dI) vwCl [(h0, .inr (13, mX13 q0 (upd (upd (upd v0 1 (u6_ 0)) 20 (u6_ 1)) 21 0))), ((q0 0), zi k1 600 f1), ((q0 19), zi k15 12 (a6_ 0)), ((q0 73), zi k48 400 (a15_ 0)), ((q0 6), zi k5 120 f5), ((q0 5), zi k4 122880 f4), ((q0 11), zi k10 120 f10), ((q0 12), zi k11 120 f11), ((q0 28), zi k20 400 (a15_ 1)), ((q0 3), zi k3 400 f3), ((q0 72), zi k47 13 (a34_ 0)), ((q0 2), zi k2 4800 f2), ((q0 17), zi k14 12 f14)] H1 := hP.sub [10, 0, 1, 2, 3, 4, 5, 6, 7, 11, 8, 12, 9] rfl
                      have hD : va_D A [(h0, .inr (13, mX13 q0 (upd (upd (upd v0 1 (u6_ 0)) 20 (u6_ 1)) 21 0))), ((q0 0), zi k1 600 f1), ((q0 19), zi k15 12 (a6_ 0)), ((q0 73), zi k48 400 (a15_ 0)), ((q0 6), zi k5 120 f5), ((q0 5), zi k4 122880 f4), ((q0 11), zi k10 120 f10), ((q0 12), zi k11 120 f11), ((q0 28), zi k20 400 (a15_ 1)), ((q0 3), zi k3 400 f3), ((q0 72), zi k47 13 (a34_ 0)), ((q0 2), zi k2 4800 f2), ((q0 17), zi k14 12 f14)] := hD.sub [10, 0, 1, 2, 3, 4, 5, 6, 7, 11, 8, 12, 9] (by decide) rfl
                      generalize H1 = H at hP hS ⊢
                      clear hz1
                      have b_ : -2147483648 ≤ r98_.toInt ∧ r98_.toInt ≤ 2147483647 := ⟨zlo _, zhi _⟩
                      refine lv_if_le (tgt := 107) hx hb dX13_nearest_101 (by decide) (fun c_ => ?_) (fun c_ => ?_)
                      · skip
                        have b_ := zT_le rfl zk_0 c_
                        have hc : va_P (dC, dI) vwCl [(h0, .inr (13, mX13 q0 (upd (upd (upd v0 1 (u6_ 0)) 20 (u6_ 1)) 21 0))), ((q0 0), zi k1 600 f1), ((q0 19), zi k15 12 (a6_ 0)), ((q0 73), zi k48 400 (a15_ 0)), ((q0 6), zi k5 120 f5), ((q0 5), zi k4 122880 f4), ((q0 11), zi k10 120 f10), ((q0 12), zi k11 120 f11), ((q0 28), zi k20 400 (a15_ 1)), ((q0 3), zi k3 400 f3), ((q0 72), zi k47 13 (a34_ 0)), ((q0 2), zi k2 4800 f2), ((q0 17), zi k14 12 f14)] H ∧ va_D A [(h0, .inr (13, mX13 q0 (upd (upd (upd v0 1 (u6_ 0)) 20 (u6_ 1)) 21 0))), ((q0 0), zi k1 600 f1), ((q0 19), zi k15 12 (a6_ 0)), ((q0 73), zi k48 400 (a15_ 0)), ((q0 6), zi k5 120 f5), ((q0 5), zi k4 122880 f4), ((q0 11), zi k10 120 f10), ((q0 12), zi k11 120 f11), ((q0 28), zi k20 400 (a15_ 1)), ((q0 3), zi k3 400 f3), ((q0 72), zi k47 13 (a34_ 0)), ((q0 2), zi k2 4800 f2), ((q0 17), zi k14 12 f14)] ∧ va_S A s.heap H locs ∧ lv_has ls 5 [(0, .ref h0), (1, .int (u24_ 0)), (2, .int (u24_ 1)), (3, .int (u24_ 2)), (4, .int r34_)] ∧ ((-1) ≤ (u24_ 0).toInt ∧ (u24_ 0).toInt ≤ 399) := ⟨hP, hD, hS, lv_sub hl [1, 2, 3, 4, 0] rfl, (by first | with_reducible assumption | exact ⟨by omega, by omega⟩)⟩
                        exact hJ107 H locs ls (fun _ => 0) (fun _ => 0) (fun _ => (fun _ => 0)) (fun _ => (fun _ => 0)) hc
                      · skip
                        have b_ := zF_le rfl zk_0 c_
                        refine lv_goto (tgt := 112) hx hb dX13_nearest_104 (by decide) ?_
                        obtain ⟨z112, e_z112⟩ : ∃ z : Int32, z = (u24_ 2) + Int32.ofInt 1 := ⟨_, rfl⟩
                        have b_ := zadd (x := (u24_ 2)) (y := Int32.ofInt 1) rfl (show (Int32.ofInt 1).toInt = 1 from by decide) e_z112 (by omega) (by omega)
                        refine lv_iinc (v := z112) (lv' := [(3, .int z112), (4, .int r34_), (0, .ref h0), (1, .int (u24_ 0)), (2, .int (u24_ 1))]) hx hb dX13_nearest_112 hl (k := 4) rfl e_z112.symm (by decide) rfl (fun ls hl => ?_)
                        refine lv_goto (tgt := 24) hx hb dX13_nearest_115 (by decide) ?_
                        have hc : va_P (dC, dI) vwCl [(h0, .inr (13, mX13 q0 (upd (upd (upd v0 1 (u6_ 0)) 20 (u6_ 1)) 21 0))), ((q0 0), zi k1 600 f1), ((q0 19), zi k15 12 (a6_ 0)), ((q0 73), zi k48 400 (a15_ 0)), ((q0 6), zi k5 120 f5), ((q0 5), zi k4 122880 f4), ((q0 11), zi k10 120 f10), ((q0 12), zi k11 120 f11), ((q0 28), zi k20 400 (a15_ 1)), ((q0 3), zi k3 400 f3), ((q0 72), zi k47 13 (a34_ 0)), ((q0 2), zi k2 4800 f2), ((q0 17), zi k14 12 f14)] H ∧ va_D A [(h0, .inr (13, mX13 q0 (upd (upd (upd v0 1 (u6_ 0)) 20 (u6_ 1)) 21 0))), ((q0 0), zi k1 600 f1), ((q0 19), zi k15 12 (a6_ 0)), ((q0 73), zi k48 400 (a15_ 0)), ((q0 6), zi k5 120 f5), ((q0 5), zi k4 122880 f4), ((q0 11), zi k10 120 f10), ((q0 12), zi k11 120 f11), ((q0 28), zi k20 400 (a15_ 1)), ((q0 3), zi k3 400 f3), ((q0 72), zi k47 13 (a34_ 0)), ((q0 2), zi k2 4800 f2), ((q0 17), zi k14 12 f14)] ∧ va_S A s.heap H locs ∧ lv_has ls 5 [(0, .ref h0), (1, .int (u24_ 0)), (2, .int (u24_ 1)), (3, .int z112)] ∧ ((-1) ≤ (u24_ 0).toInt ∧ (u24_ 0).toInt ≤ 399) ∧ ((-2147483648) ≤ (u24_ 1).toInt ∧ (u24_ 1).toInt ≤ 3) ∧ (0 ≤ z112.toInt ∧ z112.toInt ≤ 400) := ⟨hP, hD, hS, lv_sub hl [2, 3, 4, 0] rfl, (by first | with_reducible assumption | exact ⟨by omega, by omega⟩), (by first | with_reducible assumption | exact ⟨by omega, by omega⟩), (by first | with_reducible assumption | exact ⟨by omega, by omega⟩)⟩
                        exact hJ24 H locs ls (fun i => ([(u24_ 0), (u24_ 1), z112] : List (Int32)).getD i 0) (fun _ => 0) (fun i => ([(a34_ 0)] : List (Nat → Int32)).getD i (fun _ => 0)) (fun _ => (fun _ => 0)) hc (show (400 - z112.toInt).toNat < (400 - (u24_ 2).toInt).toNat from by omega)
          · skip
            have b_ := zF_le rfl rfl c_
            refine lv_goto (tgt := 112) hx hb dX13_nearest_51 (by decide) ?_
            obtain ⟨z112, e_z112⟩ : ∃ z : Int32, z = (u24_ 2) + Int32.ofInt 1 := ⟨_, rfl⟩
            have b_ := zadd (x := (u24_ 2)) (y := Int32.ofInt 1) rfl (show (Int32.ofInt 1).toInt = 1 from by decide) e_z112 (by omega) (by omega)
            refine lv_iinc (v := z112) (lv' := [(3, .int z112), (4, .int r34_), (0, .ref h0), (1, .int (u24_ 0)), (2, .int (u24_ 1))]) hx hb dX13_nearest_112 hl (k := 4) rfl e_z112.symm (by decide) rfl (fun ls hl => ?_)
            refine lv_goto (tgt := 24) hx hb dX13_nearest_115 (by decide) ?_
            have hc : va_P (dC, dI) vwCl [(h0, .inr (13, mX13 q0 (upd (upd (upd v0 1 (u6_ 0)) 20 (u6_ 1)) 21 0))), ((q0 0), zi k1 600 f1), ((q0 19), zi k15 12 (a6_ 0)), ((q0 73), zi k48 400 (a15_ 0)), ((q0 6), zi k5 120 f5), ((q0 5), zi k4 122880 f4), ((q0 11), zi k10 120 f10), ((q0 12), zi k11 120 f11), ((q0 28), zi k20 400 (a15_ 1)), ((q0 3), zi k3 400 f3), ((q0 72), zi k47 13 (a34_ 0)), ((q0 2), zi k2 4800 f2), ((q0 17), zi k14 12 f14)] H ∧ va_D A [(h0, .inr (13, mX13 q0 (upd (upd (upd v0 1 (u6_ 0)) 20 (u6_ 1)) 21 0))), ((q0 0), zi k1 600 f1), ((q0 19), zi k15 12 (a6_ 0)), ((q0 73), zi k48 400 (a15_ 0)), ((q0 6), zi k5 120 f5), ((q0 5), zi k4 122880 f4), ((q0 11), zi k10 120 f10), ((q0 12), zi k11 120 f11), ((q0 28), zi k20 400 (a15_ 1)), ((q0 3), zi k3 400 f3), ((q0 72), zi k47 13 (a34_ 0)), ((q0 2), zi k2 4800 f2), ((q0 17), zi k14 12 f14)] ∧ va_S A s.heap H locs ∧ lv_has ls 5 [(0, .ref h0), (1, .int (u24_ 0)), (2, .int (u24_ 1)), (3, .int z112)] ∧ ((-1) ≤ (u24_ 0).toInt ∧ (u24_ 0).toInt ≤ 399) ∧ ((-2147483648) ≤ (u24_ 1).toInt ∧ (u24_ 1).toInt ≤ 3) ∧ (0 ≤ z112.toInt ∧ z112.toInt ≤ 400) := ⟨hP, hD, hS, lv_sub hl [2, 3, 4, 0] rfl, (by first | with_reducible assumption | exact ⟨by omega, by omega⟩), (by first | with_reducible assumption | exact ⟨by omega, by omega⟩), (by first | with_reducible assumption | exact ⟨by omega, by omega⟩)⟩
            exact hJ24 H locs ls (fun i => ([(u24_ 0), (u24_ 1), z112] : List (Int32)).getD i 0) (fun _ => 0) (fun i => ([(a34_ 0)] : List (Nat → Int32)).getD i (fun _ => 0)) (fun _ => (fun _ => 0)) hc (show (400 - z112.toInt).toNat < (400 - (u24_ 2).toInt).toNat from by omega)
    · skip
      have hc : va_P (dC, dI) vwCl [(h0, .inr (13, mX13 q0 (upd (upd (upd v0 1 (u6_ 0)) 20 (u6_ 1)) 21 0))), ((q0 0), zi k1 600 f1), ((q0 19), zi k15 12 (a6_ 0)), ((q0 73), zi k48 400 (a15_ 0)), ((q0 6), zi k5 120 f5), ((q0 5), zi k4 122880 f4), ((q0 11), zi k10 120 f10), ((q0 12), zi k11 120 f11), ((q0 28), zi k20 400 (a15_ 1)), ((q0 3), zi k3 400 f3), ((q0 72), zi k47 13 f47), ((q0 2), zi k2 4800 f2), ((q0 17), zi k14 12 f14)] H ∧ va_D A [(h0, .inr (13, mX13 q0 (upd (upd (upd v0 1 (u6_ 0)) 20 (u6_ 1)) 21 0))), ((q0 0), zi k1 600 f1), ((q0 19), zi k15 12 (a6_ 0)), ((q0 73), zi k48 400 (a15_ 0)), ((q0 6), zi k5 120 f5), ((q0 5), zi k4 122880 f4), ((q0 11), zi k10 120 f10), ((q0 12), zi k11 120 f11), ((q0 28), zi k20 400 (a15_ 1)), ((q0 3), zi k3 400 f3), ((q0 72), zi k47 13 f47), ((q0 2), zi k2 4800 f2), ((q0 17), zi k14 12 f14)] ∧ va_S A s.heap H locs ∧ lv_has ls 5 [(0, .ref h0), (1, .int (-1)), (2, .int 3), (3, .int 0)] ∧ ((-1) ≤ ((-1) : Int32).toInt ∧ ((-1) : Int32).toInt ≤ 399) ∧ ((-2147483648) ≤ (3 : Int32).toInt ∧ (3 : Int32).toInt ≤ 3) ∧ (0 ≤ (0 : Int32).toInt ∧ (0 : Int32).toInt ≤ 400) := ⟨hP, hD, hS, lv_sub hl [3, 2, 1, 0] rfl, (by first | with_reducible assumption | exact ⟨by omega, by omega⟩), (by first | with_reducible assumption | exact ⟨by omega, by omega⟩), (by first | with_reducible assumption | exact ⟨by omega, by omega⟩)⟩
      exact hJ24 H locs ls (fun i => ([(-1), 3, 0] : List (Int32)).getD i 0) (fun _ => 0) (fun i => ([f47] : List (Nat → Int32)).getD i (fun _ => 0)) (fun _ => (fun _ => 0)) hc
  · skip
    have b_ := zF_ne rfl zk_0 c_
    refine lv_iconst (v := (-1)) hx hb dX13_nearest_12 (by decide) ?_
    refine W.widen (k := 0) (n := 0) (by decide) (by decide) ?_
    have b_ : (-1) ≤ (v0 18).toInt ∧ (v0 18).toInt ≤ 12 := hv0 18
    have hpost : ((-2147483648) ≤ ((-1) : Int32).toInt ∧ ((-1) : Int32).toInt ≤ 3) ∧ (0 ≤ (u6_ 0).toInt ∧ (u6_ 0).toInt ≤ 0) ∧ ((-1) ≤ (v0 18).toInt ∧ (v0 18).toInt ≤ 12) ∧ (0 ≤ (u6_ 1).toInt ∧ (u6_ 1).toInt ≤ 12) ∧ (0 ≤ (0 : Int32).toInt ∧ (0 : Int32).toInt ≤ 0) := ⟨(by first | with_reducible assumption | exact ⟨by omega, by omega⟩), (by first | with_reducible assumption | exact ⟨by omega, by omega⟩), (by first | with_reducible assumption | exact ⟨by omega, by omega⟩), (by first | with_reducible assumption | exact ⟨by omega, by omega⟩), (by first | with_reducible assumption | exact ⟨by omega, by omega⟩)⟩
    have hP9 : va_P (dC, dI) vwCl [(h0, .inr (13, mX13 q0 (upd (upd (upd (upd v0 1 (u6_ 0)) 18 (v0 18)) 20 (u6_ 1)) 21 0))), ((q0 0), zi k1 600 f1), ((q0 19), zi k15 12 (a6_ 0)), ((q0 73), zi k48 400 f48), ((q0 6), zi k5 120 f5), ((q0 5), zi k4 122880 f4), ((q0 11), zi k10 120 f10), ((q0 12), zi k11 120 f11), ((q0 28), zi k20 400 f20), ((q0 3), zi k3 400 f3), ((q0 72), zi k47 13 f47), ((q0 2), zi k2 4800 f2), ((q0 17), zi k14 12 f14)] H := hP
    have hD9 : va_D A [(h0, .inr (13, mX13 q0 (upd (upd (upd (upd v0 1 (u6_ 0)) 18 (v0 18)) 20 (u6_ 1)) 21 0))), ((q0 0), zi k1 600 f1), ((q0 19), zi k15 12 (a6_ 0)), ((q0 73), zi k48 400 f48), ((q0 6), zi k5 120 f5), ((q0 5), zi k4 122880 f4), ((q0 11), zi k10 120 f10), ((q0 12), zi k11 120 f11), ((q0 28), zi k20 400 f20), ((q0 3), zi k3 400 f3), ((q0 72), zi k47 13 f47), ((q0 2), zi k2 4800 f2), ((q0 17), zi k14 12 f14)] := hD
    exact W.iret (v := (-1)) hx hb hr (fun t ht hW => ⟨⟨(-1), (fun i => ([(u6_ 0), (v0 18), (u6_ 1), 0] : List (Int32)).getD i 0), rfl, hpost, (fun _ => 0), (fun i => ([(a6_ 0), f48, f20, f47, f14] : List (Nat → Int32)).getD i (fun _ => 0)), (fun _ => (fun _ => 0)), by rw [ht]; exact hP9, va_K.moved hW.alike hK, hD9⟩, hS.F ht⟩) hS.2.2 dX13_nearest_13
