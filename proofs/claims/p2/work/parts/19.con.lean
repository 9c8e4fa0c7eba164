set_option maxHeartbeats 8000000 in
set_option maxRecDepth 100000 in
theorem sX5_tenFrom_0 (l : Launch) (dC : Nat → ClassId) (dI : Nat → Nat → Nat) (adK adV : Nat → Nat) (h0 : Nat) (h1 : Nat) (k1 : ClassId) (sz : Nat) (f1 : Nat → Int32) (x1 : Int32) (hx1 : 0 ≤ x1.toInt ∧ x1.toInt ≤ 831) : Met l yX5_tenFrom (zw yX5_tenFrom cX5_tenFrom 5 (some .int)) { frames := 0, cells := 0, slots := 0, locals := 0 } (zPc dC dI adK adV [.ref h0, .int x1] sz [(h0, .inr (5, mX5 h1)), (h1, .inl (k1, 26, .inl f1))] [(k1, .int)]) (va_Qi (fun (r : Int32) (u : Nat → Int32) => (0 ≤ r.toInt ∧ r.toInt ≤ 1023)) (fun (u : Nat → Int32) (t : State) => ∃ (ww : Nat → Int64) (aa : Nat → Nat → Int32) (bb : Nat → Nat → Int64), va_P (dC, dI) vwCl [(h0, .inr (5, mX5 h1)), (h1, .inl (k1, 26, .inl f1))] t.heap ∧ va_K (dC, dI) vwCl [(k1, .int)] t ∧ va_D (va_A [(h0, .inr (5, mX5 h1)), (h1, .inl (k1, 26, .inl f1))] sz) [(h0, .inr (5, mX5 h1)), (h1, .inl (k1, 26, .inl f1))]) (va_A [(h0, .inr (5, mX5 h1)), (h1, .inl (k1, 26, .inl f1))] sz)) 0 0 (va_A [(h0, .inr (5, mX5 h1)), (h1, .inl (k1, 26, .inl f1))] sz) := by
  refine Met.ofW (cc := cX5_tenFrom) (maxL := 5) (ret := (some .int)) (by decide) rfl ?_
  intro p e s m args below meth c s₁ B hml hv
  obtain ⟨rfl, hsz, hP, hK, hD0, hE, hZ⟩ := hv
  have hx := B.exec
  have hb := B.bytes
  have hr := B.returns
  have hG : ∀ w ∈ zG, w.before _ s = true := fun w h => atoms_spec (ws := (zw yX5_tenFrom cX5_tenFrom 5 (some .int))) B.pre w (List.mem_cons_of_mem _ h)
  have hown : s.vm.findClass RX5 = some m.cls := findClass_of_methodNamed B.named
  have hlocks := B.notSynchronized
  subst hsz
  have hD := hD0.self (sz := s.heap.size)
  generalize hAe : va_A [(h0, .inr (5, mX5 h1)), (h1, .inl (k1, 26, .inl f1))] s.heap.size = A at hD hZ ⊢
  have hA : ∀ q : Nat, s.heap.size ≤ q → A q := fun q h => by rw [← hAe]; exact Or.inr h
  have hS : va_S A s.heap s.heap [] := va_S.rf
  have hl := lv_entry ([.ref h0, .int x1]) (n := 5) (Nat.le_of_ble_eq_true rfl)
  rw [lg_entry_eq]
  generalize (lg_sl ([.ref h0, .int x1]) ++ List.replicate (5 - (lg_sl ([.ref h0, .int x1])).length) Slot.unset).toArray = ls at hl ⊢
  have hl : lv_has ls 5 [(0, .ref h0), (1, .int x1)] := hl
  refine lv_iload_n hx hb dX5_tenFrom_0 rfl (lv_at hl 1 rfl) ?_
  refine lv_bipush (v := 32) hx hb dX5_tenFrom_1 (by decide) ?_
  refine lv_idiv hx hb dX5_tenFrom_3 (by decide) ?_
  refine lv_topi (fun z3 e_z3 => ?_)
  have b_ := zdiv rfl zk_32 e_z3 (by omega) (by decide)
  refine lv_istore_n (lv' := [(2, .int z3), (0, .ref h0), (1, .int x1)]) hx hb dX5_tenFrom_4 rfl hl (by decide) rfl (fun ls hl => ?_)
  refine lv_aload_n hx hb dX5_tenFrom_5 rfl (lv_at hl 1 rfl) ?_
  refine va_get (D := (dC, dI)) (ci := 5) (v := .ref h1) (C := RX5) (T := TX5) (N := 1) hx hb hG zuX5 hown hK hP 0 rfl rfl 0 (by decide) (hG _ zw280) (fun _ h9 => h9) rfl dX5_tenFrom_6 ?_
  refine lv_iload_n hx hb dX5_tenFrom_9 rfl (lv_at hl 0 rfl) ?_
  refine va_iald hx hb hK hP 1 0 rfl rfl (zin_lit ⟨by omega, by omega⟩) dX5_tenFrom_10 ?_
  refine lv_topi (fun z10 e_z10 => ?_)
  refine lv_i2l hx hb dX5_tenFrom_11 rfl ?_
  refine lv_topl (fun y_11 e_y_11 => ?_)
  refine lv_ldc2 hx hb hown (hG _ zw297) dX5_tenFrom_12 ?_
  refine lv_land hx hb dX5_tenFrom_15 ?_
  refine lv_topl (fun y_15 e_y_15 => ?_)
  refine lv_lstore_n (lv' := [(3, .long y_15), (2, .int z3), (0, .ref h0), (1, .int x1)]) hx hb dX5_tenFrom_16 rfl hl (by decide) rfl (fun ls hl => ?_)
  refine lv_iload_n hx hb dX5_tenFrom_17 rfl (lv_at hl 1 rfl) ?_
  refine lv_iconst (v := 1) hx hb dX5_tenFrom_18 (by decide) ?_
  refine lv_iadd hx hb dX5_tenFrom_19 ?_
  refine lv_topi (fun z19 e_z19 => ?_)
  have b_ := zadd rfl zk_1 e_z19 (by omega) (by omega)
  refine lv_bipush (v := 26) hx hb dX5_tenFrom_20 (by decide) ?_
  refine zcutW (fun H locs ls u40_ w40_ a40_ b40_ => va_P (dC, dI) vwCl [(h0, .inr (5, mX5 h1)), (h1, .inl (k1, 26, .inl f1))] H ∧ va_D A [(h0, .inr (5, mX5 h1)), (h1, .inl (k1, 26, .inl f1))] ∧ va_S A s.heap H locs ∧ lv_has ls 5 [(0, .ref h0), (1, .int x1), (2, .int z3), (3, .long (w40_ 0))] ∧ (1 ≤ z19.toInt ∧ z19.toInt ≤ 26) ∧ (0 ≤ z3.toInt ∧ z3.toInt ≤ 25)) (fun ls u40_ w40_ => F0 m 40 ls []) 0 0 ?_ (fun hJ40 => ?_)
  · skip
    intro H locs ls u40_ w40_ a40_ b40_ hc
    obtain ⟨hP, hD, hS, hl, b_, b_⟩ := hc
    refine lv_lload_n hx hb dX5_tenFrom_40 rfl (lv_at hl 3 rfl) ?_
    refine lv_iload_n hx hb dX5_tenFrom_41 rfl (lv_at hl 1 rfl) ?_
    refine lv_bipush (v := 32) hx hb dX5_tenFrom_42 (by decide) ?_
    refine lv_irem hx hb dX5_tenFrom_44 (by decide) ?_
    refine lv_topi (fun z44 e_z44 => ?_)
    have b_ := zrem rfl zk_32 e_z44 (by omega) (by decide)
    refine lv_lushr hx hb dX5_tenFrom_45 rfl ?_
    refine lv_topl (fun y_45 e_y_45 => ?_)
    refine lv_l2i hx hb dX5_tenFrom_46 rfl ?_
    refine lv_topi (fun z46 e_z46 => ?_)
    refine lv_sipush (v := 1023) hx hb dX5_tenFrom_47 (by decide) ?_
    have b_ : -2147483648 ≤ z46.toInt ∧ z46.toInt ≤ 2147483647 := ⟨zlo _, zhi _⟩
    refine lv_iand hx hb dX5_tenFrom_50 ?_
    refine lv_topi (fun z50 e_z50 => ?_)
    have b_ := zand (x := z46) zk_1023 e_z50 (by decide)
    refine W.widen (k := 0) (n := 0) (by decide) (by decide) ?_
    have hpost : (0 ≤ z50.toInt ∧ z50.toInt ≤ 1023) := ⟨by omega, by omega⟩
    have hP9 : va_P (dC, dI) vwCl [(h0, .inr (5, mX5 h1)), (h1, .inl (k1, 26, .inl f1))] H := hP
    have hD9 : va_D A [(h0, .inr (5, mX5 h1)), (h1, .inl (k1, 26, .inl f1))] := hD
    exact W.iret (v := z50) hx hb hr (fun t ht hW => ⟨⟨z50, (fun _ => 0), rfl, hpost, (fun _ => 0), (fun _ => (fun _ => 0)), (fun _ => (fun _ => 0)), by rw [ht]; exact hP9, va_K.moved hW.alike hK, hD9⟩, hS.F ht⟩) hS.2.2 dX5_tenFrom_51
  · skip
    refine lv_icmp_ge (tgt := 40) hx hb dX5_tenFrom_22 (by decide) (fun c_ => ?_) (fun c_ => ?_)
    · skip
      have b_ := zT_ge rfl zk_26 c_
      have hc : va_P (dC, dI) vwCl [(h0, .inr (5, mX5 h1)), (h1, .inl (k1, 26, .inl f1))] s.heap ∧ va_D A [(h0, .inr (5, mX5 h1)), (h1, .inl (k1, 26, .inl f1))] ∧ va_S A s.heap s.heap [] ∧ lv_has ls 5 [(0, .ref h0), (1, .int x1), (2, .int z3), (3, .long y_15)] ∧ (1 ≤ z19.toInt ∧ z19.toInt ≤ 26) ∧ (0 ≤ z3.toInt ∧ z3.toInt ≤ 25) := ⟨hP, hD, hS, lv_sub hl [2, 3, 1, 0] rfl, ⟨by omega, by omega⟩, ⟨by omega, by omega⟩⟩
      exact hJ40 s.heap [] ls (fun _ => 0) (fun i => ([y_15] : List (Int64)).getD i 0) (fun _ => (fun _ => 0)) (fun _ => (fun _ => 0)) hc
    · skip
      have b_ := zF_ge rfl zk_26 c_
      refine lv_lload_n hx hb dX5_tenFrom_25 rfl (lv_at hl 0 rfl) ?_
      refine lv_aload_n hx hb dX5_tenFrom_26 rfl (lv_at hl 2 rfl) ?_
      refine va_get (D := (dC, dI)) (ci := 5) (v := .ref h1) (C := RX5) (T := TX5) (N := 1) hx hb hG zuX5 hown hK hP 0 rfl rfl 0 (by decide) (hG _ zw280) (fun _ h9 => h9) rfl dX5_tenFrom_27 ?_
      refine lv_iload_n hx hb dX5_tenFrom_30 rfl (lv_at hl 1 rfl) ?_
      refine lv_iconst (v := 1) hx hb dX5_tenFrom_31 (by decide) ?_
      refine lv_iadd hx hb dX5_tenFrom_32 ?_
      refine lv_topi (fun z32 e_z32 => ?_)
      have b_ := zadd rfl zk_1 e_z32 (by omega) (by omega)
      refine va_iald hx hb hK hP 1 0 rfl rfl (zin_lit ⟨by omega, by omega⟩) dX5_tenFrom_33 ?_
      refine lv_topi (fun z33 e_z33 => ?_)
      refine lv_i2l hx hb dX5_tenFrom_34 rfl ?_
      refine lv_topl (fun y_34 e_y_34 => ?_)
      refine lv_bipush (v := 32) hx hb dX5_tenFrom_35 (by decide) ?_
      refine lv_lshl hx hb dX5_tenFrom_37 rfl ?_
      refine lv_topl (fun y_37 e_y_37 => ?_)
      refine lv_lor hx hb dX5_tenFrom_38 ?_
      refine lv_topl (fun y_38 e_y_38 => ?_)
      refine lv_lstore_n (lv' := [(3, .long y_38), (2, .int z3), (0, .ref h0), (1, .int x1)]) hx hb dX5_tenFrom_39 rfl hl (by decide) rfl (fun ls hl => ?_)
      have hc : va_P (dC, dI) vwCl [(h0, .inr (5, mX5 h1)), (h1, .inl (k1, 26, .inl f1))] s.heap ∧ va_D A [(h0, .inr (5, mX5 h1)), (h1, .inl (k1, 26, .inl f1))] ∧ va_S A s.heap s.heap [] ∧ lv_has ls 5 [(0, .ref h0), (1, .int x1), (2, .int z3), (3, .long y_38)] ∧ (1 ≤ z19.toInt ∧ z19.toInt ≤ 26) ∧ (0 ≤ z3.toInt ∧ z3.toInt ≤ 25) := ⟨hP, hD, hS, lv_sub hl [2, 3, 1, 0] rfl, ⟨by omega, by omega⟩, ⟨by omega, by omega⟩⟩
      exact hJ40 s.heap [] ls (fun _ => 0) (fun i => ([y_38] : List (Int64)).getD i 0) (fun _ => (fun _ => 0)) (fun _ => (fun _ => 0)) hc
