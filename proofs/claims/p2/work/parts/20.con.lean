set_option maxHeartbeats 8000000 in
set_option maxRecDepth 100000 in
theorem sX5_tenFrom_0 (l : Launch) (dC : Nat → ClassId) (dI : Nat → Nat → Nat) (adK adV : Nat → Nat) (h0 : Nat) (h1 : Nat) (k1 : ClassId) (sz : Nat) (f1 : Nat → Int32) (x1 : Int32) (hx1 : 0 ≤ x1.toInt ∧ x1.toInt ≤ 831) : Met l yX5_tenFrom (zw yX5_tenFrom cX5_tenFrom 5 (some .int)) { frames := 0, cells := 0, slots := 0, locals := 0 } (zPc dC dI adK adV [.ref h0, .int x1] sz [(h0, .inr (5, mX5 h1)), (h1, .inl (k1, 26, .inl f1))] [(k1, .int)]) (va_Qi (fun (r : Int32) (u : Nat → Int32) => (0 ≤ r.toInt ∧ r.toInt ≤ 1023)) (fun (u : Nat → Int32) (t : State) => ∃ (ww : Nat → Int64) (aa : Nat → Nat → Int32) (bb : Nat → Nat → Int64), va_P (dC, dI) vwCl [(h0, .inr (5, mX5 h1)), (h1, .inl (k1, 26, .inl f1))] t.heap ∧ va_K (dC, dI) vwCl [(k1, .int)] t ∧ va_D (va_A [(h0, .inr (5, mX5 h1)), (h1, .inl (k1, 26, .inl f1))] sz) [(h0, .inr (5, mX5 h1)), (h1, .inl (k1, 26, .inl f1))]) (va_A [(h0, .inr (5, mX5 h1)), (h1, .inl (k1, 26, .inl f1))] sz)) 0 0 (va_A [(h0, .inr (5, mX5 h1)), (h1, .inl (k1, 26, .inl f1))] sz) := by
  refine Met.ofW (cc := cX5_tenFrom) (maxL := 5) (ret := (some .int)) (by decide) rfl ?_
  intro p e s m args below meth c s₁ B hml hv
  obtain ⟨rfl, hsz, hP, hK, hD0, hE, hZ⟩ := hv
  have hx := B.exec
  have hb := B.bytes
  have hr := B.returns
  have hG : ∀ w ∈ zG, w.before _ s = true := fun w h => atoms_spec (ws := (zw yX5_tenFrom cX5_tenFrom 5 (some .int))) B.pre w (List.mem_cons_of_mem _ h)
  have hown : s.vm.findClass RX5 = some m.cls := findClass_of_methodNamed B.named
  have hlocks := B.notSynchronized

  subst hsz
  have hD := hD0.self (sz := s.heap.size)
  generalize hAe : va_A [(h0, .inr (5, mX5 h1)), (h1, .inl (k1, 26, .inl f1))] s.heap.size = A at hD hZ ⊢
  have hA : ∀ q : Nat, s.heap.size ≤ q → A q := fun q h => by rw [← hAe]; exact Or.inr h
  have hS : va_S A s.heap s.heap [] := va_S.rf
  have hl := lv_entry ([.ref h0, .int x1]) (n := 5) (Nat.le_of_ble_eq_true rfl)
  rw [lg_entry_eq]
  generalize (lg_sl ([.ref h0, .int x1]) ++ List.replicate (5 - (lg_sl ([.ref h0, .int x1])).length) Slot.unset).toArray = ls at hl ⊢
  have hl : lv_has ls 5 [(0, .ref h0), (1, .int x1)] := hl
  refine lv_iload_n hx hb dX5_tenFrom_0 rfl (lv_at hl 1 rfl) ?_
  refine lv_bipush (v := 32) hx hb dX5_tenFrom_1 (by decide) ?_
  refine lv_idiv hx hb dX5_tenFrom_3 (by decide) ?_
  refine lv_topi (fun z3 e_z3 => ?_)
  have b_ := zdiv rfl zk_32 e_z3 (by omega) (by decide)
  refine lv_istore_n (lv' := [(2, .int z3), (0, .ref h0), (1, .int x1)]) hx hb dX5_tenFrom_4 rfl hl (by decide) rfl (fun ls hl => ?_)
  refine lv_aload_n hx hb dX5_tenFrom_5 rfl (lv_at hl 1 rfl) ?_
  refine va_get (D := (dC, dI)) (ci := 5) (v := .ref h1) (C := RX5) (T := TX5) (N := 1) hx hb hG zuX5 hown hK hP 0 rfl rfl 0 (by decide) (hG _ zw280) (fun _ h9 => h9) rfl dX5_tenFrom_6 ?_
  refine lv_iload_n hx hb dX5_tenFrom_9 rfl (lv_at hl 0 rfl) ?_
  refine va_iald hx hb hK hP 1 0 rfl rfl (zin_lit ⟨by omega, by omega⟩) dX5_tenFrom_10 ?_
  refine lv_topi (fun z10 e_z10 => ?_)
  refine lv_i2l hx hb dX5_tenFrom_11 rfl ?_
  refine lv_topl (fun y_11 e_y_11 => ?_)
  refine lv_ldc2 hx hb hown (hG _ zw297) dX5_tenFrom_12 ?_
  refine lv_land hx hb dX5_tenFrom_15 ?_
  refine lv_topl (fun y_15 e_y_15 => ?_)
  refine lv_lstore_n (lv' := [(3, .long y_15), (2, .int z3), (0, .ref h0), (1, .int x1)]) hx hb dX5_tenFrom_16 rfl hl (by decide) rfl (fun ls hl => ?_)
  refine lv_iload_n hx hb dX5_tenFrom_17 rfl (lv_at hl 1 rfl) ?_
  refine lv_iconst (v := 1) hx hb dX5_tenFrom_18 (by decide) ?_
  refine lv_iadd hx hb dX5_tenFrom_19 ?_
  refine lv_topi (fun z19 e_z19 => ?_)
  have b_ := zadd rfl zk_1 e_z19 (by omega) (by omega)
  refine lv_bipush (v := 26) hx hb dX5_tenFrom_20 (by decide) ?_
  refine zcutW (fun H locs ls u40_ w40_ a40_ b40_ => va_P (dC, dI) vwCl [(h0, .inr (5, mX5 h1)), (h1, .inl (k1, 26, .inl f1))] H ∧ va_D A [(h0, .inr (5, mX5 h1)), (h1, .inl (k1, 26, .inl f1))] ∧ va_S A s.heap H locs ∧ lv_has ls 5 [(0, .ref h0), (1, .int x1), (2, .int z3), (3, .long (w40_ 0))] ∧ (1 ≤ z19.toInt ∧ z19.toInt ≤ 26) ∧ (0 ≤ z3.toInt ∧ z3.toInt ≤ 25)) (fun ls u40_ w40_ => F0 m 40 ls []) 0 0 ?_ (fun hJ40 => ?_)
  · skip
    intro H locs ls u40_ w40_ a40_ b40_ hc
    obtain ⟨hP, hD, hS, hl, b_, b_⟩ := hc
    refine lv_lload_n hx hb dX5_tenFrom_40 rfl (lv_at hl 3 rfl) ?_
    refine lv_iload_n hx hb dX5_tenFrom_41 rfl (lv_at hl 1 rfl) ?_
    refine lv_bipush (v := 32) hx hb dX5_tenFrom_42 (by decide) ?_
    refine lv_irem hx hb dX5_tenFrom_44 (by decide) ?_
    refine lv_topi (fun z44 e_z44 => ?_)
    have b_ := zrem rfl zk_32 e_z44 (by omega) (by decide)
    refine lv_lushr hx hb dX5_tenFrom_45 rfl ?_
    refine lv_topl (fun y_45 e_y_45 => ?_)
    refine lv_l2i hx hb dX5_tenFrom_46 rfl ?_
    refine lv_topi (fun z46 e_z46 => ?_)
    refine lv_sipush (v := 1023) hx hb dX5_tenFrom_47 (by decide) ?_
    have b_ : -2147483648 ≤ z46.toInt ∧ z46.toInt ≤ 2147483647 := ⟨zlo _, zhi _⟩
    refine lv_iand hx hb dX5_tenFrom_50 ?_
    refine lv_topi (fun z50 e_z50 => ?_)
    have b_ := zand (x := z46) zk_1023 e_z50 (by decide)
    refine W.widen (k := 0) (n := 0) (by decide) (by decide) ?_
    have hpost : (0 ≤ z50.toInt ∧ z50.toInt ≤ 1023) := ⟨by omega, by omega⟩
    have hP9 : va_P (dC, dI) vwCl [(h0, .inr (5, mX5 h1)), (h1, .inl (k1, 26, .inl f1))] H := hP
    have hD9 : va_D A [(h0, .inr (5, mX5 h1)), (h1, .inl (k1, 26, .inl f1))] := hD
    exact W.iret (v := z50) hx hb hr (fun t ht hW => ⟨⟨z50, (fun _ => 0), rfl, hpost, (fun _ => 0), (fun _ => (fun _ => 0)), (fun _ => (fun _ => 0)), by rw [ht]; exact hP9, va_K.moved hW.alike hK, hD9⟩, hS.F ht⟩) hS.2.2 dX5_tenFrom_51
  · skip
    refine lv_icmp_ge (tgt := 40) hx hb dX5_tenFrom_22 (by decide) (fun c_ => ?_) (fun c_ => ?_)
    · skip
      have b_ := zT_ge rfl zk_26 c_
      have hc : va_P (dC, dI) vwCl [(h0, .inr (5, mX5 h1)), (h1, .inl (k1, 26, .inl f1))] s.heap ∧ va_D A [(h0, .inr (5, mX5 h1)), (h1, .inl (k1, 26, .inl f1))] ∧ va_S A s.heap s.heap [] ∧ lv_has ls 5 [(0, .ref h0), (1, .int x1), (2, .int z3), (3, .long y_15)] ∧ (1 ≤ z19.toInt ∧ z19.toInt ≤ 26) ∧ (0 ≤ z3.toInt ∧ z3.toInt ≤ 25) := ⟨hP, hD, hS, lv_sub hl [2, 3, 1, 0] rfl, ⟨by omega, by omega⟩, ⟨by omega, by omega⟩⟩
      exact hJ40 s.heap [] ls (fun _ => 0) (fun i => ([y_15] : List (Int64)).getD i 0) (fun _ => (fun _ => 0)) (fun _ => (fun _ => 0)) hc
    · skip
      have b_ := zF_ge rfl zk_26 c_
      refine lv_lload_n hx hb dX5_tenFrom_25 rfl (lv_at hl 0 rfl) ?_
      refine lv_aload_n hx hb dX5_tenFrom_26 rfl (lv_at hl 2 rfl) ?_
      refine va_get (D := (dC, dI)) (ci := 5) (v := .ref h1) (C := RX5) (T := TX5) (N := 1) hx hb hG zuX5 hown hK hP 0 rfl rfl 0 (by decide) (hG _ zw280) (fun _ h9 => h9) rfl dX5_tenFrom_27 ?_
      refine lv_iload_n hx hb dX5_tenFrom_30 rfl (lv_at hl 1 rfl) ?_
      refine lv_iconst (v := 1) hx hb dX5_tenFrom_31 (by decide) ?_
      refine lv_iadd hx hb dX5_tenFrom_32 ?_
      refine lv_topi (fun z32 e_z32 => ?_)
      have b_ := zadd rfl zk_1 e_z32 (by omega) (by omega)
      refine va_iald hx hb hK hP 1 0 rfl rfl (zin_lit ⟨by omega, by omega⟩) dX5_tenFrom_33 ?_
      refine lv_topi (fun z33 e_z33 => ?_)
      refine lv_i2l hx hb dX5_tenFrom_34 rfl ?_
      refine lv_topl (fun y_34 e_y_34 => ?_)
      refine lv_bipush (v := 32) hx hb dX5_tenFrom_35 (by decide) ?_
      refine lv_lshl hx hb dX5_tenFrom_37 rfl ?_
      refine lv_topl (fun y_37 e_y_37 => ?_)
      refine lv_lor hx hb dX5_tenFrom_38 ?_
      refine lv_topl (fun y_38 e_y_38 => ?_)
      refine lv_lstore_n (lv' := [(3, .long y_38), (2, .int z3), (0, .ref h0), (1, .int x1)]) hx hb dX5_tenFrom_39 rfl hl (by decide) rfl (fun ls hl => ?_)
      have hc : va_P (dC, dI) vwCl [(h0, .inr (5, mX5 h1)), (h1, .inl (k1, 26, .inl f1))] s.heap ∧ va_D A [(h0, .inr (5, mX5 h1)), (h1, .inl (k1, 26, .inl f1))] ∧ va_S A s.heap s.heap [] ∧ lv_has ls 5 [(0, .ref h0), (1, .int x1), (2, .int z3), (3, .long y_38)] ∧ (1 ≤ z19.toInt ∧ z19.toInt ≤ 26) ∧ (0 ≤ z3.toInt ∧ z3.toInt ≤ 25) := ⟨hP, hD, hS, lv_sub hl [2, 3, 1, 0] rfl, ⟨by omega, by omega⟩, ⟨by omega, by omega⟩⟩
      exact hJ40 s.heap [] ls (fun _ => 0) (fun i => ([y_38] : List (Int64)).getD i 0) (fun _ => (fun _ => 0)) (fun _ => (fun _ => 0)) hc
set_option maxHeartbeats 8000000 in
set_option maxRecDepth 100000 in
theorem sX5_fullest_0 (l : Launch) (dC : Nat → ClassId) (dI : Nat → Nat → Nat) (adK adV : Nat → Nat) (h0 : Nat) (h1 : Nat) (k1 : ClassId) (sz : Nat) (f1 : Nat → Int32) : Met l yX5_fullest (zw yX5_fullest cX5_fullest 6 (some .int)) { frames := 2, cells := 0, slots := 0, locals := 44 } (zPc dC dI adK adV [.ref h0] sz [(h0, .inr (5, mX5 h1)), (h1, .inl (k1, 26, .inl f1))] [(k1, .int)]) (va_Qi (fun (r : Int32) (u : Nat → Int32) => ((-1) ≤ r.toInt ∧ r.toInt ≤ 832)) (fun (u : Nat → Int32) (t : State) => ∃ (ww : Nat → Int64) (aa : Nat → Nat → Int32) (bb : Nat → Nat → Int64), va_P (dC, dI) vwCl [(h0, .inr (5, mX5 h1)), (h1, .inl (k1, 26, .inl f1))] t.heap ∧ va_K (dC, dI) vwCl [(k1, .int)] t ∧ va_D (va_A [(h0, .inr (5, mX5 h1)), (h1, .inl (k1, 26, .inl f1))] sz) [(h0, .inr (5, mX5 h1)), (h1, .inl (k1, 26, .inl f1))]) (va_A [(h0, .inr (5, mX5 h1)), (h1, .inl (k1, 26, .inl f1))] sz)) 0 0 (va_A [(h0, .inr (5, mX5 h1)), (h1, .inl (k1, 26, .inl f1))] sz) := by
  refine Met.ofW (cc := cX5_fullest) (maxL := 6) (ret := (some .int)) (by decide) rfl ?_
  intro p e s m args below meth c s₁ B hml hv
  obtain ⟨rfl, hsz, hP, hK, hD0, hE, hZ⟩ := hv
  have hx := B.exec
  have hb := B.bytes
  have hr := B.returns
  have hG : ∀ w ∈ zG, w.before _ s = true := fun w h => atoms_spec (ws := (zw yX5_fullest cX5_fullest 6 (some .int))) B.pre w (List.mem_cons_of_mem _ h)
  have hown : s.vm.findClass RX5 = some m.cls := findClass_of_methodNamed B.named
  have hlocks := B.notSynchronized

  subst hsz
  have hD := hD0.self (sz := s.heap.size)
  generalize hAe : va_A [(h0, .inr (5, mX5 h1)), (h1, .inl (k1, 26, .inl f1))] s.heap.size = A at hD hZ ⊢
  have hA : ∀ q : Nat, s.heap.size ≤ q → A q := fun q h => by rw [← hAe]; exact Or.inr h
  have hS : va_S A s.heap s.heap [] := va_S.rf
  have hl := lv_entry ([.ref h0]) (n := 6) (Nat.le_of_ble_eq_true rfl)
  rw [lg_entry_eq]
  generalize (lg_sl ([.ref h0]) ++ List.replicate (6 - (lg_sl ([.ref h0])).length) Slot.unset).toArray = ls at hl ⊢
  have hl : lv_has ls 6 [(0, .ref h0)] := hl
  have b_ := zk_m1
  have b_ := zk_0
  refine lv_iconst (v := (-1)) hx hb dX5_fullest_0 (by decide) ?_
  refine lv_istore_n (lv' := [(1, .int (-1)), (0, .ref h0)]) hx hb dX5_fullest_1 rfl hl (by decide) rfl (fun ls hl => ?_)
  refine lv_iconst (v := 0) hx hb dX5_fullest_2 (by decide) ?_
  refine lv_istore_n (lv' := [(2, .int 0), (1, .int (-1)), (0, .ref h0)]) hx hb dX5_fullest_3 rfl hl (by decide) rfl (fun ls hl => ?_)
  refine lv_aload_n hx hb dX5_fullest_4 rfl (lv_at hl 2 rfl) ?_
  refine lv_iconst (v := 0) hx hb dX5_fullest_5 (by decide) ?_
  have hPc := hP.sub (ws' := [(h0, .inr (5, mX5 h1)), (h1, .inl (k1, 26, .inl f1))]) [0, 1] rfl
  have hDc := hD.sub (ws' := [(h0, .inr (5, mX5 h1)), (h1, .inl (k1, 26, .inl f1))]) [0, 1] (by decide) rfl
  have hKc := hK.sub (tys' := [(k1, .int)]) [0] rfl
  have hFc := va_free (wc := [(h0, .inr (5, mX5 h1)), (h1, .inl (k1, 26, .inl f1))]) hD hS hA [0, 1] rfl
  refine va_calli (va_runV (As := [.int 0]) (rest := []) ⟨hx, hb, hml, hown, hG⟩ (sX5_nextFrom_0 l dC dI adK adV h0 h1 k1 s.heap.size f1 0) (cwV 1 hG (zgV zw292 zw293 zw294 zw295 zw296) rfl rfl rfl (by decide +kernel) ⟨Nat.le_of_ble_eq_true rfl, Nat.le_of_ble_eq_true rfl⟩) ⟨zPc_blind, va_recv hKc hPc (ci := 5) (q0 := 0) rfl rfl, zPc_pre hPc hKc hDc hE hS hFc hZ⟩ rfl rfl hl.1 rfl (lv_room (Nat.le_of_ble_eq_true rfl)) dX5_fullest_6 ⟨Nat.le_of_ble_eq_true rfl, Nat.le_of_ble_eq_true rfl⟩) hS (fun q _ h => hFc q h) hFc (fun r6_ u6_ t H1 locs ht hvm hw hB hz1 hk1 hS => ?_)
  have hw : ((-1) ≤ r6_.toInt ∧ r6_.toInt ≤ 832) ∧ (r6_.toInt ≤ 831) := hw
  obtain ⟨b_, hX6_0⟩ := hw
  obtain ⟨w6_, a6_, b6_, hP1, hK1, hD1⟩ := hB
  rw [ht] at hP1
  obtain ⟨hP, hD⟩ := va_join (wr := []) (w1 := [(h0, .inr (5, mX5 h1)), (h1, .inl (k1, 26, .inl f1))]) hP hD [0, 1] [] rfl rfl (by decide) (by decide) hk1 hFc hP1 hD1
  have hP : va_P (dC, dI) vwCl [(h0, .inr (5, mX5 h1)), (h1, .inl (k1, 26, .inl f1))] H1 := hP.sub [0, 1] rfl
  have hD : va_D A [(h0, .inr (5, mX5 h1)), (h1, .inl (k1, 26, .inl f1))] := hD.sub [0, 1] (by decide) rfl
  generalize H1 = H at hP hS ⊢
  clear hz1
  refine lv_istore_n (lv' := [(3, .int r6_), (2, .int 0), (1, .int (-1)), (0, .ref h0)]) hx hb dX5_fullest_9 rfl hl (by decide) rfl (fun ls hl => ?_)
  refine lv_iconst (v := 0) hx hb dX5_fullest_10 (by decide) ?_
  refine lv_istore (lv' := [(4, .int 0), (3, .int r6_), (2, .int 0), (1, .int (-1)), (0, .ref h0)]) hx hb dX5_fullest_11 hl (by decide) rfl (fun ls hl => ?_)
  refine zcutL (fun u13_ => (832 - (u13_ 3).toInt).toNat) (fun H locs ls u13_ w13_ a13_ b13_ => va_P (dC, dI) vwCl [(h0, .inr (5, mX5 h1)), (h1, .inl (k1, 26, .inl f1))] H ∧ va_D A [(h0, .inr (5, mX5 h1)), (h1, .inl (k1, 26, .inl f1))] ∧ va_S A s.heap H locs ∧ lv_has ls 6 [(0, .ref h0), (1, .int (u13_ 0)), (2, .int (u13_ 1)), (3, .int (u13_ 2)), (4, .int (u13_ 3))] ∧ ((-1) ≤ (u13_ 0).toInt ∧ (u13_ 0).toInt ≤ 832) ∧ (0 ≤ (u13_ 1).toInt ∧ (u13_ 1).toInt ≤ 63) ∧ ((-1) ≤ (u13_ 2).toInt ∧ (u13_ 2).toInt ≤ 831) ∧ (0 ≤ (u13_ 3).toInt ∧ (u13_ 3).toInt ≤ 832)) (fun ls u13_ w13_ => F0 m 13 ls []) 0 0 ?_ (fun hJ13 => ?_)
  · skip
    intro H locs ls u13_ w13_ a13_ b13_ hc hJ13
    obtain ⟨hP, hD, hS, hl, b_, b_, b_, b_⟩ := hc
    refine lv_iload hx hb dX5_fullest_13 (lv_at hl 4 rfl) ?_
    refine lv_sipush (v := 832) hx hb dX5_fullest_15 (by decide) ?_
    refine lv_icmp_ge (tgt := 61) hx hb dX5_fullest_18 (by decide) (fun c_ => ?_) (fun c_ => ?_)
    · skip
      have b_ := zT_ge rfl zk_832 c_
      refine lv_iload_n hx hb dX5_fullest_61 rfl (lv_at hl 1 rfl) ?_
      refine W.widen (k := 0) (n := 0) (by decide) (by decide) ?_
      have hpost : ((-1) ≤ (u13_ 0).toInt ∧ (u13_ 0).toInt ≤ 832) := ⟨by omega, by omega⟩
      have hP9 : va_P (dC, dI) vwCl [(h0, .inr (5, mX5 h1)), (h1, .inl (k1, 26, .inl f1))] H := hP
      have hD9 : va_D A [(h0, .inr (5, mX5 h1)), (h1, .inl (k1, 26, .inl f1))] := hD
      exact W.iret (v := (u13_ 0)) hx hb hr (fun t ht hW => ⟨⟨(u13_ 0), (fun _ => 0), rfl, hpost, (fun _ => 0), (fun _ => (fun _ => 0)), (fun _ => (fun _ => 0)), by rw [ht]; exact hP9, va_K.moved hW.alike hK, hD9⟩, hS.F ht⟩) hS.2.2 dX5_fullest_62
    · skip
      have b_ := zF_ge rfl zk_832 c_
      refine lv_iload_n hx hb dX5_fullest_21 rfl (lv_at hl 3 rfl) ?_
      refine lv_iconst (v := (-1)) hx hb dX5_fullest_22 (by decide) ?_
      refine lv_icmp_eq (tgt := 61) hx hb dX5_fullest_23 (by decide) (fun c_ => ?_) (fun c_ => ?_)
      · skip
        have b_ := zT_eq rfl zk_m1 c_
        refine lv_iload_n hx hb dX5_fullest_61 rfl (lv_at hl 1 rfl) ?_
        refine W.widen (k := 0) (n := 0) (by decide) (by decide) ?_
        have hpost : ((-1) ≤ (u13_ 0).toInt ∧ (u13_ 0).toInt ≤ 832) := ⟨by omega, by omega⟩
        have hP9 : va_P (dC, dI) vwCl [(h0, .inr (5, mX5 h1)), (h1, .inl (k1, 26, .inl f1))] H := hP
        have hD9 : va_D A [(h0, .inr (5, mX5 h1)), (h1, .inl (k1, 26, .inl f1))] := hD
        exact W.iret (v := (u13_ 0)) hx hb hr (fun t ht hW => ⟨⟨(u13_ 0), (fun _ => 0), rfl, hpost, (fun _ => 0), (fun _ => (fun _ => 0)), (fun _ => (fun _ => 0)), by rw [ht]; exact hP9, va_K.moved hW.alike hK, hD9⟩, hS.F ht⟩) hS.2.2 dX5_fullest_62
      · skip
        have b_ := zF_eq rfl zk_m1 c_
        refine lv_aload_n hx hb dX5_fullest_26 rfl (lv_at hl 0 rfl) ?_
        refine lv_iload_n hx hb dX5_fullest_27 rfl (lv_at hl 3 rfl) ?_
        have hPc := hP.sub (ws' := [(h0, .inr (5, mX5 h1)), (h1, .inl (k1, 26, .inl f1))]) [0, 1] rfl
        have hDc := hD.sub (ws' := [(h0, .inr (5, mX5 h1)), (h1, .inl (k1, 26, .inl f1))]) [0, 1] (by decide) rfl
        have hKc := hK.sub (tys' := [(k1, .int)]) [0] rfl
        have hFc := va_free (wc := [(h0, .inr (5, mX5 h1)), (h1, .inl (k1, 26, .inl f1))]) hD hS hA [0, 1] rfl
        refine va_calli (va_runV (As := [.int (u13_ 2)]) (rest := []) ⟨hx, hb, hml, hown, hG⟩ (sX5_tenFrom_0 l dC dI adK adV h0 h1 k1 H.size f1 (u13_ 2) ⟨show (0 : Int) ≤ ((u13_ 2) : Int32).toInt from by omega, show ((u13_ 2) : Int32).toInt ≤ (831 : Int) from by omega⟩) (cwV 1 hG (zgV zw298 zw299 zw300 zw295 zw301) rfl rfl rfl (by decide +kernel) ⟨Nat.le_of_ble_eq_true rfl, Nat.le_of_ble_eq_true rfl⟩) ⟨zPc_blind, va_recv hKc hPc (ci := 5) (q0 := 0) rfl rfl, zPc_pre hPc hKc hDc hE hS hFc hZ⟩ rfl rfl hl.1 rfl (lv_room (Nat.le_of_ble_eq_true rfl)) dX5_fullest_28 ⟨Nat.le_of_ble_eq_true rfl, Nat.le_of_ble_eq_true rfl⟩) hS (fun q _ h => hFc q h) hFc (fun r28_ u28_ t H1 locs ht hvm hw hB hz1 hk1 hS => ?_)
        have hw : (0 ≤ r28_.toInt ∧ r28_.toInt ≤ 1023) := hw
        have b_ := hw
        obtain ⟨w28_, a28_, b28_, hP1, hK1, hD1⟩ := hB
        rw [ht] at hP1
        obtain ⟨hP, hD⟩ := va_join (wr := []) (w1 := [(h0, .inr (5, mX5 h1)), (h1, .inl (k1, 26, .inl f1))]) hP hD [0, 1] [] rfl rfl (by decide) (by decide) hk1 hFc hP1 hD1
        have hP : va_P (dC, dI) vwCl [(h0, .inr (5, mX5 h1)), (h1, .inl (k1, 26, .inl f1))] H1 := hP.sub [0, 1] rfl
        have hD : va_D A [(h0, .inr (5, mX5 h1)), (h1, .inl (k1, 26, .inl f1))] := hD.sub [0, 1] (by decide) rfl
        generalize H1 = H at hP hS ⊢
        clear hz1
        have hPc := hP.sub (ws' := []) [] rfl
        have hDc := hD.sub (ws' := []) [] (by decide) rfl
        have hKc := hK.sub (tys' := []) [] rfl
        have hFc := va_free (wc := []) hD hS hA [] rfl
        refine va_calli (va_runS (As := [.int r28_]) (rest := []) ⟨hx, hb, hml, hown, hG⟩ (sJ6_bitCount_0f7a4_0 l dC dI adK adV H.size r28_) (va_cwS 1 hG (zgS zw288 zw289 zw157 zw290) rfl rfl rfl (by decide +kernel) ⟨Nat.le_of_ble_eq_true rfl, Nat.le_of_ble_eq_true rfl⟩) ⟨zPc_blind, zPc_pre hPc hKc hDc hE hS hFc hZ⟩ rfl rfl hl.1 rfl (lv_room (Nat.le_of_ble_eq_true rfl)) dX5_fullest_31 ⟨Nat.le_of_ble_eq_true rfl, Nat.le_of_ble_eq_true rfl⟩) hS (fun q _ h => hFc q h) hFc (fun r31_ u31_ t H1 locs ht hvm hw hB hz1 hk1 hS => ?_)
        have hw : (0 ≤ r31_.toInt ∧ r31_.toInt ≤ 63) := hw
        have b_ := hw
        obtain ⟨w31_, a31_, b31_, hP1, hK1, hD1⟩ := hB
        rw [ht] at hP1
        obtain ⟨hP, hD⟩ := va_join (wr := [(h0, .inr (5, mX5 h1)), (h1, .inl (k1, 26, .inl f1))]) (w1 := []) hP hD [] [0, 1] rfl rfl (by decide) (by decide) hk1 hFc hP1 hD1
        have hP : va_P (dC, dI) vwCl [(h0, .inr (5, mX5 h1)), (h1, .inl (k1, 26, .inl f1))] H1 := hP.sub [0, 1] rfl
        have hD : va_D A [(h0, .inr (5, mX5 h1)), (h1, .inl (k1, 26, .inl f1))] := hD.sub [0, 1] (by decide) rfl
        generalize H1 = H at hP hS ⊢
        clear hz1
        refine lv_istore (lv' := [(5, .int r31_), (0, .ref h0), (1, .int (u13_ 0)), (2, .int (u13_ 1)), (3, .int (u13_ 2)), (4, .int (u13_ 3))]) hx hb dX5_fullest_34 hl (by decide) rfl (fun ls hl => ?_)
        refine lv_iload hx hb dX5_fullest_36 (lv_at hl 0 rfl) ?_
        refine lv_iload_n hx hb dX5_fullest_38 rfl (lv_at hl 3 rfl) ?_
        refine zcutW (fun H locs ls u47_ w47_ a47_ b47_ => va_P (dC, dI) vwCl [(h0, .inr (5, mX5 h1)), (h1, .inl (k1, 26, .inl f1))] H ∧ va_D A [(h0, .inr (5, mX5 h1)), (h1, .inl (k1, 26, .inl f1))] ∧ va_S A s.heap H locs ∧ lv_has ls 6 [(0, .ref h0), (1, .int (u47_ 0)), (2, .int (u47_ 1)), (3, .int (u13_ 2)), (4, .int (u13_ 3)), (5, .int r31_)] ∧ ((-1) ≤ (u47_ 0).toInt ∧ (u47_ 0).toInt ≤ 832) ∧ (0 ≤ (u47_ 1).toInt ∧ (u47_ 1).toInt ≤ 63) ∧ (0 ≤ r31_.toInt ∧ r31_.toInt ≤ 63) ∧ (0 ≤ (u13_ 1).toInt ∧ (u13_ 1).toInt ≤ 63)) (fun ls u47_ w47_ => F0 m 47 ls []) 0 0 ?_ (fun hJ47 => ?_)
        · skip
          intro H locs ls u47_ w47_ a47_ b47_ hc
          obtain ⟨hP, hD, hS, hl, b_, b_, b_, b_⟩ := hc
          refine lv_aload_n hx hb dX5_fullest_47 rfl (lv_at hl 0 rfl) ?_
          refine lv_iload_n hx hb dX5_fullest_48 rfl (lv_at hl 3 rfl) ?_
          refine lv_iconst (v := 1) hx hb dX5_fullest_49 (by decide) ?_
          refine lv_iadd hx hb dX5_fullest_50 ?_
          refine lv_topi (fun z50 e_z50 => ?_)
          have b_ := zadd rfl zk_1 e_z50 (by omega) (by omega)
          have hPc := hP.sub (ws' := [(h0, .inr (5, mX5 h1)), (h1, .inl (k1, 26, .inl f1))]) [0, 1] rfl
          have hDc := hD.sub (ws' := [(h0, .inr (5, mX5 h1)), (h1, .inl (k1, 26, .inl f1))]) [0, 1] (by decide) rfl
          have hKc := hK.sub (tys' := [(k1, .int)]) [0] rfl
          have hFc := va_free (wc := [(h0, .inr (5, mX5 h1)), (h1, .inl (k1, 26, .inl f1))]) hD hS hA [0, 1] rfl
          refine va_calli (va_runV (As := [.int z50]) (rest := []) ⟨hx, hb, hml, hown, hG⟩ (sX5_nextFrom_0 l dC dI adK adV h0 h1 k1 H.size f1 z50) (cwV 1 hG (zgV zw292 zw293 zw294 zw295 zw296) rfl rfl rfl (by decide +kernel) ⟨Nat.le_of_ble_eq_true rfl, Nat.le_of_ble_eq_true rfl⟩) ⟨zPc_blind, va_recv hKc hPc (ci := 5) (q0 := 0) rfl rfl, zPc_pre hPc hKc hDc hE hS hFc hZ⟩ rfl rfl hl.1 rfl (lv_room (Nat.le_of_ble_eq_true rfl)) dX5_fullest_51 ⟨Nat.le_of_ble_eq_true rfl, Nat.le_of_ble_eq_true rfl⟩) hS (fun q _ h => hFc q h) hFc (fun r51_ u51_ t H1 locs ht hvm hw hB hz1 hk1 hS => ?_)
          have hw : ((-1) ≤ r51_.toInt ∧ r51_.toInt ≤ 832) ∧ (r51_.toInt ≤ 831) := hw
          obtain ⟨b_, hX51_0⟩ := hw
          obtain ⟨w51_, a51_, b51_, hP1, hK1, hD1⟩ := hB
          rw [ht] at hP1
          obtain ⟨hP, hD⟩ := va_join (wr := []) (w1 := [(h0, .inr (5, mX5 h1)), (h1, .inl (k1, 26, .inl f1))]) hP hD [0, 1] [] rfl rfl (by decide) (by decide) hk1 hFc hP1 hD1
          have hP : va_P (dC, dI) vwCl [(h0, .inr (5, mX5 h1)), (h1, .inl (k1, 26, .inl f1))] H1 := hP.sub [0, 1] rfl
          have hD : va_D A [(h0, .inr (5, mX5 h1)), (h1, .inl (k1, 26, .inl f1))] := hD.sub [0, 1] (by decide) rfl
          generalize H1 = H at hP hS ⊢
          clear hz1
          refine lv_istore_n (lv' := [(3, .int r51_), (0, .ref h0), (1, .int (u47_ 0)), (2, .int (u47_ 1)), (4, .int (u13_ 3)), (5, .int r31_)]) hx hb dX5_fullest_54 rfl hl (by decide) rfl (fun ls hl => ?_)
          obtain ⟨z55, e_z55⟩ : ∃ z : Int32, z = (u13_ 3) + Int32.ofInt 1 := ⟨_, rfl⟩
          have b_ := zadd (x := (u13_ 3)) (y := Int32.ofInt 1) rfl (show (Int32.ofInt 1).toInt = 1 from by decide) e_z55 (by omega) (by omega)
          refine lv_iinc (v := z55) (lv' := [(4, .int z55), (3, .int r51_), (0, .ref h0), (1, .int (u47_ 0)), (2, .int (u47_ 1)), (5, .int r31_)]) hx hb dX5_fullest_55 hl (k := 4) rfl e_z55.symm (by decide) rfl (fun ls hl => ?_)
          refine lv_goto (tgt := 13) hx hb dX5_fullest_58 (by decide) ?_
          have hc : va_P (dC, dI) vwCl [(h0, .inr (5, mX5 h1)), (h1, .inl (k1, 26, .inl f1))] H ∧ va_D A [(h0, .inr (5, mX5 h1)), (h1, .inl (k1, 26, .inl f1))] ∧ va_S A s.heap H locs ∧ lv_has ls 6 [(0, .ref h0), (1, .int (u47_ 0)), (2, .int (u47_ 1)), (3, .int r51_), (4, .int z55)] ∧ ((-1) ≤ (u47_ 0).toInt ∧ (u47_ 0).toInt ≤ 832) ∧ (0 ≤ (u47_ 1).toInt ∧ (u47_ 1).toInt ≤ 63) ∧ ((-1) ≤ r51_.toInt ∧ r51_.toInt ≤ 831) ∧ (0 ≤ z55.toInt ∧ z55.toInt ≤ 832) := ⟨hP, hD, hS, lv_sub hl [2, 3, 4, 1, 0] rfl, ⟨by omega, by omega⟩, ⟨by omega, by omega⟩, ⟨by omega, by omega⟩, ⟨by omega, by omega⟩⟩
          exact hJ13 H locs ls (fun i => ([(u47_ 0), (u47_ 1), r51_, z55] : List (Int32)).getD i 0) (fun _ => 0) (fun _ => (fun _ => 0)) (fun _ => (fun _ => 0)) hc (show (832 - z55.toInt).toNat < (832 - (u13_ 3).toInt).toNat from by omega)
        · skip
          refine lv_icmp_le (tgt := 47) hx hb dX5_fullest_39 (by decide) (fun c_ => ?_) (fun c_ => ?_)
          · skip
            have b_ := zT_le rfl rfl c_
            have hc : va_P (dC, dI) vwCl [(h0, .inr (5, mX5 h1)), (h1, .inl (k1, 26, .inl f1))] H ∧ va_D A [(h0, .inr (5, mX5 h1)), (h1, .inl (k1, 26, .inl f1))] ∧ va_S A s.heap H locs ∧ lv_has ls 6 [(0, .ref h0), (1, .int (u13_ 0)), (2, .int (u13_ 1)), (3, .int (u13_ 2)), (4, .int (u13_ 3)), (5, .int r31_)] ∧ ((-1) ≤ (u13_ 0).toInt ∧ (u13_ 0).toInt ≤ 832) ∧ (0 ≤ (u13_ 1).toInt ∧ (u13_ 1).toInt ≤ 63) ∧ (0 ≤ r31_.toInt ∧ r31_.toInt ≤ 63) ∧ (0 ≤ (u13_ 1).toInt ∧ (u13_ 1).toInt ≤ 63) := ⟨hP, hD, hS, lv_sub hl [1, 2, 3, 4, 5, 0] rfl, ⟨by omega, by omega⟩, ⟨by omega, by omega⟩, ⟨by omega, by omega⟩, ⟨by omega, by omega⟩⟩
            exact hJ47 H locs ls (fun i => ([(u13_ 0), (u13_ 1)] : List (Int32)).getD i 0) (fun _ => 0) (fun _ => (fun _ => 0)) (fun _ => (fun _ => 0)) hc
          · skip
            have b_ := zF_le rfl rfl c_
            refine lv_iload hx hb dX5_fullest_42 (lv_at hl 0 rfl) ?_
            refine lv_istore_n (lv' := [(2, .int r31_), (5, .int r31_), (0, .ref h0), (1, .int (u13_ 0)), (3, .int (u13_ 2)), (4, .int (u13_ 3))]) hx hb dX5_fullest_44 rfl hl (by decide) rfl (fun ls hl => ?_)
            refine lv_iload_n hx hb dX5_fullest_45 rfl (lv_at hl 4 rfl) ?_
            refine lv_istore_n (lv' := [(1, .int (u13_ 2)), (2, .int r31_), (5, .int r31_), (0, .ref h0), (3, .int (u13_ 2)), (4, .int (u13_ 3))]) hx hb dX5_fullest_46 rfl hl (by decide) rfl (fun ls hl => ?_)
            have hc : va_P (dC, dI) vwCl [(h0, .inr (5, mX5 h1)), (h1, .inl (k1, 26, .inl f1))] H ∧ va_D A [(h0, .inr (5, mX5 h1)), (h1, .inl (k1, 26, .inl f1))] ∧ va_S A s.heap H locs ∧ lv_has ls 6 [(0, .ref h0), (1, .int (u13_ 2)), (2, .int r31_), (3, .int (u13_ 2)), (4, .int (u13_ 3)), (5, .int r31_)] ∧ ((-1) ≤ (u13_ 2).toInt ∧ (u13_ 2).toInt ≤ 832) ∧ (0 ≤ r31_.toInt ∧ r31_.toInt ≤ 63) ∧ (0 ≤ r31_.toInt ∧ r31_.toInt ≤ 63) ∧ (0 ≤ (u13_ 1).toInt ∧ (u13_ 1).toInt ≤ 63) := ⟨hP, hD, hS, lv_sub hl [3, 0, 1, 4, 5, 2] rfl, ⟨by omega, by omega⟩, ⟨by omega, by omega⟩, ⟨by omega, by omega⟩, ⟨by omega, by omega⟩⟩
            exact hJ47 H locs ls (fun i => ([(u13_ 2), r31_] : List (Int32)).getD i 0) (fun _ => 0) (fun _ => (fun _ => 0)) (fun _ => (fun _ => 0)) hc
  · skip
    have hc : va_P (dC, dI) vwCl [(h0, .inr (5, mX5 h1)), (h1, .inl (k1, 26, .inl f1))] H ∧ va_D A [(h0, .inr (5, mX5 h1)), (h1, .inl (k1, 26, .inl f1))] ∧ va_S A s.heap H locs ∧ lv_has ls 6 [(0, .ref h0), (1, .int (-1)), (2, .int 0), (3, .int r6_), (4, .int 0)] ∧ ((-1) ≤ ((-1) : Int32).toInt ∧ ((-1) : Int32).toInt ≤ 832) ∧ (0 ≤ (0 : Int32).toInt ∧ (0 : Int32).toInt ≤ 63) ∧ ((-1) ≤ r6_.toInt ∧ r6_.toInt ≤ 831) ∧ (0 ≤ (0 : Int32).toInt ∧ (0 : Int32).toInt ≤ 832) := ⟨hP, hD, hS, lv_sub hl [4, 3, 2, 1, 0] rfl, ⟨by omega, by omega⟩, ⟨by omega, by omega⟩, ⟨by omega, by omega⟩, ⟨by omega, by omega⟩⟩
    exact hJ13 H locs ls (fun i => ([(-1), 0, r6_, 0] : List (Int32)).getD i 0) (fun _ => 0) (fun _ => (fun _ => 0)) (fun _ => (fun _ => 0)) hc
set_option maxHeartbeats 8000000 in
set_option maxRecDepth 100000 in
theorem sX4_fail_0 (l : Launch) (dC : Nat → ClassId) (dI : Nat → Nat → Nat) (adK adV : Nat → Nat) (h0 : Nat) (h1 : Nat) (h4 : Nat) (h11 : Nat) (h18 : Nat) (sz : Nat) (v0 : Nat → Int32) (x1 : Int32) (x2 : Int32) (hv0 : zR rg_Parser v0) : Met l yX4_fail (zw yX4_fail cX4_fail 3 none) { frames := 0, cells := 0, slots := 0, locals := 0 } (zPc dC dI adK adV [.ref h0, .int x1, .int x2] sz [(h0, .inr (4, mX4 h1 h4 h11 h18 v0))] []) (va_Qv (fun (u : Nat → Int32) => (265 ≤ (u 0).toInt ∧ (u 0).toInt ≤ 265)) (fun (u : Nat → Int32) (t : State) => ∃ (ww : Nat → Int64) (aa : Nat → Nat → Int32) (bb : Nat → Nat → Int64), va_P (dC, dI) vwCl [(h0, .inr (4, mX4 h1 h4 h11 h18 (upd (upd v0 4 (u 0)) 7 (u 1))))] t.heap ∧ va_K (dC, dI) vwCl [] t ∧ va_D (va_A [(h0, .inr (4, mX4 h1 h4 h11 h18 v0))] sz) [(h0, .inr (4, mX4 h1 h4 h11 h18 (upd (upd v0 4 (u 0)) 7 (u 1))))]) (va_A [(h0, .inr (4, mX4 h1 h4 h11 h18 v0))] sz)) 0 0 (va_A [(h0, .inr (4, mX4 h1 h4 h11 h18 v0))] sz) := by
  refine Met.ofW (cc := cX4_fail) (maxL := 3) (ret := none) (by decide) rfl ?_
  intro p e s m args below meth c s₁ B hml hv
  obtain ⟨rfl, hsz, hP, hK, hD0, hE, hZ⟩ := hv
  have hx := B.exec
  have hb := B.bytes
  have hr := B.returns
  have hG : ∀ w ∈ zG, w.before _ s = true := fun w h => atoms_spec (ws := (zw yX4_fail cX4_fail 3 none)) B.pre w (List.mem_cons_of_mem _ h)
  have hown : s.vm.findClass RX4 = some m.cls := findClass_of_methodNamed B.named
  have hlocks := B.notSynchronized

  subst hsz
  have hD := hD0.self (sz := s.heap.size)
  generalize hAe : va_A [(h0, .inr (4, mX4 h1 h4 h11 h18 v0))] s.heap.size = A at hD hZ ⊢
  have hA : ∀ q : Nat, s.heap.size ≤ q → A q := fun q h => by rw [← hAe]; exact Or.inr h
  have hS : va_S A s.heap s.heap [] := va_S.rf
  have hl := lv_entry ([.ref h0, .int x1, .int x2]) (n := 3) (Nat.le_of_ble_eq_true rfl)
  rw [lg_entry_eq]
  generalize (lg_sl ([.ref h0, .int x1, .int x2]) ++ List.replicate (3 - (lg_sl ([.ref h0, .int x1, .int x2])).length) Slot.unset).toArray = ls at hl ⊢
  have hl : lv_has ls 3 [(0, .ref h0), (1, .int x1), (2, .int x2)] := hl
  have b_ := zk_265
  refine lv_aload_n hx hb dX4_fail_0 rfl (lv_at hl 0 rfl) ?_
  refine va_get (D := (dC, dI)) (ci := 4) (v := .int (v0 7)) (C := RX4) (T := TX4) (N := 12) hx hb hG zuX4 hown hK hP 0 rfl rfl 7 (by decide) (hG _ zw305) (fun _ h9 => h9) rfl dX4_fail_1 ?_
  refine zcutW (fun H locs ls u20_ w20_ a20_ b20_ => va_P (dC, dI) vwCl [(h0, .inr (4, mX4 h1 h4 h11 h18 (upd v0 7 (u20_ 0))))] H ∧ va_D A [(h0, .inr (4, mX4 h1 h4 h11 h18 (upd v0 7 (u20_ 0))))] ∧ va_S A s.heap H locs ∧ lv_has ls 3 [(0, .ref h0), (1, .int x1), (2, .int x2)]) (fun ls u20_ w20_ => F0 m 20 ls []) 0 0 ?_ (fun hJ20 => ?_)
  · skip
    intro H locs ls u20_ w20_ a20_ b20_ hc
    obtain ⟨hP, hD, hS, hl⟩ := hc
    refine lv_aload_n hx hb dX4_fail_20 rfl (lv_at hl 0 rfl) ?_
    refine lv_sipush (v := 265) hx hb dX4_fail_21 (by decide) ?_
    refine va_put (D := (dC, dI)) (ci := 4) (v := .int 265) (ty := .int) (C := RX4) (T := TX4) (N := 12) hx hb hG zuX4 tyX4 tyX4_ok nmX4 hown hK hP hD hS 0 rfl rfl 4 (by decide) (hG _ zw303) (fun _ h9 => h9) rfl (by decide +kernel) rfl rfl (Nat.le_of_ble_eq_true rfl) dX4_fail_24 (fun H locs hP hD hS => ?_)
    have hP : va_P (dC, dI) vwCl [(h0, .inr (4, mX4 h1 h4 h11 h18 (upd (upd v0 4 265) 7 (u20_ 0))))] H := hP
    have hD : va_D A [(h0, .inr (4, mX4 h1 h4 h11 h18 (upd (upd v0 4 265) 7 (u20_ 0))))] := hD
    refine W.widen (k := 0) (n := 0) (by decide) (by decide) ?_
    have b_ : -2147483648 ≤ (u20_ 0).toInt ∧ (u20_ 0).toInt ≤ 2147483647 := ⟨zlo _, zhi _⟩
    have hpost : (265 ≤ (265 : Int32).toInt ∧ (265 : Int32).toInt ≤ 265) := ⟨by omega, by omega⟩
    have hP9 : va_P (dC, dI) vwCl [(h0, .inr (4, mX4 h1 h4 h11 h18 (upd (upd v0 4 265) 7 (u20_ 0))))] H := hP
    have hD9 : va_D A [(h0, .inr (4, mX4 h1 h4 h11 h18 (upd (upd v0 4 265) 7 (u20_ 0))))] := hD
    exact W.vret hx hb hr (fun t ht hW => ⟨⟨(fun i => ([265, (u20_ 0)] : List (Int32)).getD i 0), rfl, hpost, (fun _ => 0), (fun _ => (fun _ => 0)), (fun _ => (fun _ => 0)), by rw [ht]; exact hP9, va_K.moved hW.alike hK, hD9⟩, hS.F ht⟩) hS.2.2 dX4_fail_27
  · skip
    have b_ : -2147483648 ≤ (v0 7).toInt ∧ (v0 7).toInt ≤ 2147483647 := ⟨zlo _, zhi _⟩
    refine lv_if_ne (tgt := 20) hx hb dX4_fail_4 (by decide) (fun c_ => ?_) (fun c_ => ?_)
    · skip
      have b_ := zT_ne rfl zk_0 c_
      have hc : va_P (dC, dI) vwCl [(h0, .inr (4, mX4 h1 h4 h11 h18 (upd v0 7 (v0 7))))] s.heap ∧ va_D A [(h0, .inr (4, mX4 h1 h4 h11 h18 (upd v0 7 (v0 7))))] ∧ va_S A s.heap s.heap [] ∧ lv_has ls 3 [(0, .ref h0), (1, .int x1), (2, .int x2)] := ⟨hP, hD, hS, lv_sub hl [0, 1, 2] rfl⟩
      exact hJ20 s.heap [] ls (fun i => ([(v0 7)] : List (Int32)).getD i 0) (fun _ => 0) (fun _ => (fun _ => 0)) (fun _ => (fun _ => 0)) hc
    · skip
      have b_ := zF_ne rfl zk_0 c_
      refine lv_aload_n hx hb dX4_fail_7 rfl (lv_at hl 0 rfl) ?_
      refine lv_sipush (v := 1000) hx hb dX4_fail_8 (by decide) ?_
      refine lv_iload_n hx hb dX4_fail_11 rfl (lv_at hl 1 rfl) ?_
      have b_ : -2147483648 ≤ x1.toInt ∧ x1.toInt ≤ 2147483647 := ⟨zlo _, zhi _⟩
      refine lv_imul hx hb dX4_fail_12 ?_
      refine lv_topi (fun z12 e_z12 => ?_)
      refine lv_iload_n hx hb dX4_fail_13 rfl (lv_at hl 2 rfl) ?_
      have b_ : -2147483648 ≤ z12.toInt ∧ z12.toInt ≤ 2147483647 := ⟨zlo _, zhi _⟩
      have b_ : -2147483648 ≤ x2.toInt ∧ x2.toInt ≤ 2147483647 := ⟨zlo _, zhi _⟩
      refine lv_iadd hx hb dX4_fail_14 ?_
      refine lv_topi (fun z14 e_z14 => ?_)
      refine lv_iconst (v := 1) hx hb dX4_fail_15 (by decide) ?_
      have b_ : -2147483648 ≤ z14.toInt ∧ z14.toInt ≤ 2147483647 := ⟨zlo _, zhi _⟩
      refine lv_iadd hx hb dX4_fail_16 ?_
      refine lv_topi (fun z16 e_z16 => ?_)
      refine va_put (D := (dC, dI)) (ci := 4) (v := .int z16) (ty := .int) (C := RX4) (T := TX4) (N := 12) hx hb hG zuX4 tyX4 tyX4_ok nmX4 hown hK hP hD hS 0 rfl rfl 7 (by decide) (hG _ zw305) (fun _ h9 => h9) rfl (by decide +kernel) rfl rfl (Nat.le_of_ble_eq_true rfl) dX4_fail_17 (fun H locs hP hD hS => ?_)
      have hP : va_P (dC, dI) vwCl [(h0, .inr (4, mX4 h1 h4 h11 h18 (upd v0 7 z16)))] H := hP
      have hD : va_D A [(h0, .inr (4, mX4 h1 h4 h11 h18 (upd v0 7 z16)))] := hD
      have hc : va_P (dC, dI) vwCl [(h0, .inr (4, mX4 h1 h4 h11 h18 (upd v0 7 z16)))] H ∧ va_D A [(h0, .inr (4, mX4 h1 h4 h11 h18 (upd v0 7 z16)))] ∧ va_S A s.heap H locs ∧ lv_has ls 3 [(0, .ref h0), (1, .int x1), (2, .int x2)] := ⟨hP, hD, hS, lv_sub hl [0, 1, 2] rfl⟩
      exact hJ20 H locs ls (fun i => ([z16] : List (Int32)).getD i 0) (fun _ => 0) (fun _ => (fun _ => 0)) (fun _ => (fun _ => 0)) hc
set_option maxHeartbeats 8000000 in
set_option maxRecDepth 100000 in
theorem sX4_settleNear_0 (l : Launch) (dC : Nat → ClassId) (dI : Nat → Nat → Nat) (adK adV : Nat → Nat) (h0 : Nat) (h1 : Nat) (h4 : Nat) (h11 : Nat) (h18 : Nat) (sz : Nat) (v0 : Nat → Int32) (hv0 : zR rg_Parser v0) : Met l yX4_settleNear (zw yX4_settleNear cX4_settleNear 1 none) { frames := 1, cells := 0, slots := 0, locals := 22 } (zPc dC dI adK adV [.ref h0] sz [(h0, .inr (4, mX4 h1 h4 h11 h18 v0))] []) (va_Qv (fun (u : Nat → Int32) => True) (fun (u : Nat → Int32) (t : State) => ∃ (ww : Nat → Int64) (aa : Nat → Nat → Int32) (bb : Nat → Nat → Int64), va_P (dC, dI) vwCl [(h0, .inr (4, mX4 h1 h4 h11 h18 (upd (upd v0 4 (u 0)) 7 (u 1))))] t.heap ∧ va_K (dC, dI) vwCl [] t ∧ va_D (va_A [(h0, .inr (4, mX4 h1 h4 h11 h18 v0))] sz) [(h0, .inr (4, mX4 h1 h4 h11 h18 (upd (upd v0 4 (u 0)) 7 (u 1))))]) (va_A [(h0, .inr (4, mX4 h1 h4 h11 h18 v0))] sz)) 0 0 (va_A [(h0, .inr (4, mX4 h1 h4 h11 h18 v0))] sz) := by
  refine Met.ofW (cc := cX4_settleNear) (maxL := 1) (ret := none) (by decide) rfl ?_
  intro p e s m args below meth c s₁ B hml hv
  obtain ⟨rfl, hsz, hP, hK, hD0, hE, hZ⟩ := hv
  have hx := B.exec
  have hb := B.bytes
  have hr := B.returns
  have hG : ∀ w ∈ zG, w.before _ s = true := fun w h => atoms_spec (ws := (zw yX4_settleNear cX4_settleNear 1 none)) B.pre w (List.mem_cons_of_mem _ h)
  have hown : s.vm.findClass RX4 = some m.cls := findClass_of_methodNamed B.named
  have hlocks := B.notSynchronized

  subst hsz
  have hD := hD0.self (sz := s.heap.size)
  generalize hAe : va_A [(h0, .inr (4, mX4 h1 h4 h11 h18 v0))] s.heap.size = A at hD hZ ⊢
  have hA : ∀ q : Nat, s.heap.size ≤ q → A q := fun q h => by rw [← hAe]; exact Or.inr h
  have hS : va_S A s.heap s.heap [] := va_S.rf
  have hl := lv_entry ([.ref h0]) (n := 1) (Nat.le_of_ble_eq_true rfl)
  rw [lg_entry_eq]
  generalize (lg_sl ([.ref h0]) ++ List.replicate (1 - (lg_sl ([.ref h0])).length) Slot.unset).toArray = ls at hl ⊢
  have hl : lv_has ls 1 [(0, .ref h0)] := hl
  refine lv_aload_n hx hb dX4_settleNear_0 rfl (lv_at hl 0 rfl) ?_
  refine va_get (D := (dC, dI)) (ci := 4) (v := .int (v0 8)) (C := RX4) (T := TX4) (N := 12) hx hb hG zuX4 hown hK hP 0 rfl rfl 8 (by decide) (hG _ zw306) (fun _ h9 => h9) rfl dX4_settleNear_1 ?_
  refine lv_iconst (v := (-1)) hx hb dX4_settleNear_4 (by decide) ?_
  have b_ : -2147483648 ≤ (v0 8).toInt ∧ (v0 8).toInt ≤ 2147483647 := ⟨zlo _, zhi _⟩
  refine lv_icmp_eq (tgt := 17) hx hb dX4_settleNear_5 (by decide) (fun c_ => ?_) (fun c_ => ?_)
  · skip
    have b_ := zT_eq rfl zk_m1 c_
    refine W.widen (k := 0) (n := 0) (by decide) (by decide) ?_
    have b_ : -2147483648 ≤ (v0 4).toInt ∧ (v0 4).toInt ≤ 2147483647 := ⟨zlo _, zhi _⟩
    have b_ : -2147483648 ≤ (v0 7).toInt ∧ (v0 7).toInt ≤ 2147483647 := ⟨zlo _, zhi _⟩
    have hpost : True := trivial
    have hP9 : va_P (dC, dI) vwCl [(h0, .inr (4, mX4 h1 h4 h11 h18 (upd (upd v0 4 (v0 4)) 7 (v0 7))))] s.heap := hP
    have hD9 : va_D A [(h0, .inr (4, mX4 h1 h4 h11 h18 (upd (upd v0 4 (v0 4)) 7 (v0 7))))] := hD
    exact W.vret hx hb hr (fun t ht hW => ⟨⟨(fun i => ([(v0 4), (v0 7)] : List (Int32)).getD i 0), rfl, hpost, (fun _ => 0), (fun _ => (fun _ => 0)), (fun _ => (fun _ => 0)), by rw [ht]; exact hP9, va_K.moved hW.alike hK, hD9⟩, hS.F ht⟩) hS.2.2 dX4_settleNear_17
  · skip
    have b_ := zF_eq rfl zk_m1 c_
    refine lv_aload_n hx hb dX4_settleNear_8 rfl (lv_at hl 0 rfl) ?_
    refine lv_iconst (v := 4) hx hb dX4_settleNear_9 (by decide) ?_
    refine lv_aload_n hx hb dX4_settleNear_10 rfl (lv_at hl 0 rfl) ?_
    refine va_get (D := (dC, dI)) (ci := 4) (v := .int (v0 8)) (C := RX4) (T := TX4) (N := 12) hx hb hG zuX4 hown hK hP 0 rfl rfl 8 (by decide) (hG _ zw306) (fun _ h9 => h9) rfl dX4_settleNear_11 ?_
    have hPc := hP.sub (ws' := [(h0, .inr (4, mX4 h1 h4 h11 h18 v0))]) [0] rfl
    have hDc := hD.sub (ws' := [(h0, .inr (4, mX4 h1 h4 h11 h18 v0))]) [0] (by decide) rfl
    have hKc := hK.sub (tys' := []) [] rfl
    have hFc := va_free (wc := [(h0, .inr (4, mX4 h1 h4 h11 h18 v0))]) hD hS hA [0] rfl
    refine va_callv (va_runV (As := [.int 4, .int (v0 8)]) (rest := []) ⟨hx, hb, hml, hown, hG⟩ (sX4_fail_0 l dC dI adK adV h0 h1 h4 h11 h18 s.heap.size v0 4 (v0 8) hv0) (cwV 2 hG (zgV zw309 zw310 zw311 zw312 zw313) rfl rfl rfl (by decide +kernel) ⟨Nat.le_of_ble_eq_true rfl, Nat.le_of_ble_eq_true rfl⟩) ⟨zPc_blind, va_recv hKc hPc (ci := 4) (q0 := 0) rfl rfl, zPc_pre hPc hKc hDc hE hS hFc hZ⟩ rfl rfl hl.1 rfl (lv_room (Nat.le_of_ble_eq_true rfl)) dX4_settleNear_14 ⟨Nat.le_of_ble_eq_true rfl, Nat.le_of_ble_eq_true rfl⟩) hS (fun q _ h => hFc q h) hFc (fun u14_ t H1 locs ht hvm hw hB hz1 hk1 hS => ?_)
    have hw : (265 ≤ (u14_ 0).toInt ∧ (u14_ 0).toInt ≤ 265) := hw
    have b_ := hw
    obtain ⟨w14_, a14_, b14_, hP1, hK1, hD1⟩ := hB
    rw [ht] at hP1
    obtain ⟨hP, hD⟩ := va_join (wr := []) (w1 := [(h0, .inr (4, mX4 h1 h4 h11 h18 (upd (upd v0 4 (u14_ 0)) 7 (u14_ 1))))]) hP hD [0] [] rfl rfl (by decide) (by decide) hk1 hFc hP1 hD1
    have hP : va_P (dC, dI) vwCl [(h0, .inr (4, mX4 h1 h4 h11 h18 (upd (upd v0 4 (u14_ 0)) 7 (u14_ 1))))] H1 := hP.sub [0] rfl
    have hD : va_D A [(h0, .inr (4, mX4 h1 h4 h11 h18 (upd (upd v0 4 (u14_ 0)) 7 (u14_ 1))))] := hD.sub [0] (by decide) rfl
    generalize H1 = H at hP hS ⊢
    clear hz1
    refine W.widen (k := 0) (n := 0) (by decide) (by decide) ?_
    have b_ : -2147483648 ≤ (u14_ 1).toInt ∧ (u14_ 1).toInt ≤ 2147483647 := ⟨zlo _, zhi _⟩
    have hpost : True := trivial
    have hP9 : va_P (dC, dI) vwCl [(h0, .inr (4, mX4 h1 h4 h11 h18 (upd (upd v0 4 (u14_ 0)) 7 (u14_ 1))))] H := hP
    have hD9 : va_D A [(h0, .inr (4, mX4 h1 h4 h11 h18 (upd (upd v0 4 (u14_ 0)) 7 (u14_ 1))))] := hD
    exact W.vret hx hb hr (fun t ht hW => ⟨⟨(fun i => ([(u14_ 0), (u14_ 1)] : List (Int32)).getD i 0), rfl, hpost, (fun _ => 0), (fun _ => (fun _ => 0)), (fun _ => (fun _ => 0)), by rw [ht]; exact hP9, va_K.moved hW.alike hK, hD9⟩, hS.F ht⟩) hS.2.2 dX4_settleNear_17
set_option maxHeartbeats 8000000 in
set_option maxRecDepth 100000 in
theorem sJ0_coder_7d493_7 (l : Launch) (dC : Nat → ClassId) (dI : Nat → Nat → Nat) (adK adV : Nat → Nat) (sz : Nat) : Met l yJ0_coder_7d493 (zw yJ0_coder_7d493 cJ0_coder_7d493 1 (some .byte)) { frames := 0, cells := 0, slots := 0, locals := 0 } (zPc dC dI adK adV [.ref (adK 7)] sz [] []) (va_Qi (fun (r : Int32) (u : Nat → Int32) => (0 ≤ r.toInt ∧ r.toInt ≤ 0)) (fun (u : Nat → Int32) (t : State) => ∃ (ww : Nat → Int64) (aa : Nat → Nat → Int32) (bb : Nat → Nat → Int64), va_P (dC, dI) vwCl [] t.heap ∧ va_K (dC, dI) vwCl [] t ∧ va_D (va_A [] sz) []) (va_A [] sz)) 0 0 (va_A [] sz) := by
  refine Met.ofW (cc := cJ0_coder_7d493) (maxL := 1) (ret := (some .byte)) (by decide) rfl ?_
  intro p e s m args below meth c s₁ B hml hv
  obtain ⟨rfl, hsz, hP, hK, hD0, hE, hZ⟩ := hv
  have hx := B.exec
  have hb := B.bytes
  have hr := B.returns
  have hG : ∀ w ∈ zG, w.before _ s = true := fun w h => atoms_spec (ws := (zw yJ0_coder_7d493 cJ0_coder_7d493 1 (some .byte))) B.pre w (List.mem_cons_of_mem _ h)
  have hown : s.vm.findClass RJ0 = some m.cls := findClass_of_methodNamed B.named
  have hlocks := B.notSynchronized

  subst hsz
  have hD := hD0.self (sz := s.heap.size)
  generalize hAe : va_A [] s.heap.size = A at hD hZ ⊢
  have hA : ∀ q : Nat, s.heap.size ≤ q → A q := fun q h => by rw [← hAe]; exact Or.inr h
  have hS : va_S A s.heap s.heap [] := va_S.rf
  have hl := lv_entry ([.ref (adK 7)]) (n := 1) (Nat.le_of_ble_eq_true rfl)
  rw [lg_entry_eq]
  generalize (lg_sl ([.ref (adK 7)]) ++ List.replicate (1 - (lg_sl ([.ref (adK 7)])).length) Slot.unset).toArray = ls at hl ⊢
  have hl : lv_has ls 1 [(0, .ref (adK 7))] := hl
  have b_ := zk_0
  refine va_gets hx hb hZ.2.2.1 hS hown (hG _ zw24) (fun _ h => h) dJ0_coder_7d493_0 ?_
  refine lv_if_eq (tgt := 13) hx hb dJ0_coder_7d493_3 (by decide) (fun c_ => absurd c_ (by decide)) (fun c_ => ?_)
  refine lv_aload_n hx hb dJ0_coder_7d493_6 rfl (lv_at hl 0 rfl) ?_
  refine vk_getf hx hb (hZ.2.2.2.1.1 7 (by decide)).2.1 hS hown (hG _ zw25) (fun _ h => h) dJ0_coder_7d493_7 ?_
  refine lv_goto (tgt := 14) hx hb dJ0_coder_7d493_10 (by decide) ?_
  refine W.widen (k := 0) (n := 0) (by decide) (by decide) ?_
  have hpost : (0 ≤ (0 : Int32).toInt ∧ (0 : Int32).toInt ≤ 0) := ⟨by omega, by omega⟩
  have hP9 : va_P (dC, dI) vwCl [] s.heap := hP
  have hD9 : va_D A [] := hD
  exact W.zret (v := 0) hx hb hr rfl (fun t ht hW => ⟨⟨0, (fun _ => 0), rfl, hpost, (fun _ => 0), (fun _ => (fun _ => 0)), (fun _ => (fun _ => 0)), by rw [ht]; exact hP9, va_K.moved hW.alike hK, hD9⟩, hS.F ht⟩) hS.2.2 dJ0_coder_7d493_14
set_option maxHeartbeats 8000000 in
set_option maxRecDepth 100000 in
theorem sJ0_length_8abf5_7 (l : Launch) (dC : Nat → ClassId) (dI : Nat → Nat → Nat) (adK adV : Nat → Nat) (sz : Nat) : Met l yJ0_length_8abf5 (zw yJ0_length_8abf5 cJ0_length_8abf5 1 (some .int)) { frames := 1, cells := 0, slots := 0, locals := 20 } (zPc dC dI adK adV [.ref (adK 7)] sz [] []) (va_Qi (fun (r : Int32) (u : Nat → Int32) => (2 ≤ r.toInt ∧ r.toInt ≤ 2)) (fun (u : Nat → Int32) (t : State) => ∃ (ww : Nat → Int64) (aa : Nat → Nat → Int32) (bb : Nat → Nat → Int64), va_P (dC, dI) vwCl [] t.heap ∧ va_K (dC, dI) vwCl [] t ∧ va_D (va_A [] sz) []) (va_A [] sz)) 0 0 (va_A [] sz) := by
  refine Met.ofW (cc := cJ0_length_8abf5) (maxL := 1) (ret := (some .int)) (by decide) rfl ?_
  intro p e s m args below meth c s₁ B hml hv
  obtain ⟨rfl, hsz, hP, hK, hD0, hE, hZ⟩ := hv
  have hx := B.exec
  have hb := B.bytes
  have hr := B.returns
  have hG : ∀ w ∈ zG, w.before _ s = true := fun w h => atoms_spec (ws := (zw yJ0_length_8abf5 cJ0_length_8abf5 1 (some .int))) B.pre w (List.mem_cons_of_mem _ h)
  have hown : s.vm.findClass RJ0 = some m.cls := findClass_of_methodNamed B.named
  have hlocks := B.notSynchronized

  subst hsz
  have hD := hD0.self (sz := s.heap.size)
  generalize hAe : va_A [] s.heap.size = A at hD hZ ⊢
  have hA : ∀ q : Nat, s.heap.size ≤ q → A q := fun q h => by rw [← hAe]; exact Or.inr h
  have hS : va_S A s.heap s.heap [] := va_S.rf
  have hl := lv_entry ([.ref (adK 7)]) (n := 1) (Nat.le_of_ble_eq_true rfl)
  rw [lg_entry_eq]
  generalize (lg_sl ([.ref (adK 7)]) ++ List.replicate (1 - (lg_sl ([.ref (adK 7)])).length) Slot.unset).toArray = ls at hl ⊢
  have hl : lv_has ls 1 [(0, .ref (adK 7))] := hl
  have b_ := zk_2
  refine lv_aload_n hx hb dJ0_length_8abf5_0 rfl (lv_at hl 0 rfl) ?_
  refine vk_getf hx hb (hZ.2.2.2.1.1 7 (by decide)).2.2.1 hS hown (hG _ zw23) (fun _ h => h) dJ0_length_8abf5_1 ?_
  refine va_tlen (v := 2) hx hb (hZ.2.2.2.1.1 7 (by decide)).2.2.2 hS (by decide) dJ0_length_8abf5_4 ?_
  refine lv_aload_n hx hb dJ0_length_8abf5_5 rfl (lv_at hl 0 rfl) ?_
  have hPc := hP.sub (ws' := []) [] rfl
  have hDc := hD.sub (ws' := []) [] (by decide) rfl
  have hKc := hK.sub (tys' := []) [] rfl
  have hFc := va_free (wc := []) hD hS hA [] rfl
  refine va_calli (va_runV (As := []) (rest := [.int 2]) ⟨hx, hb, hml, hown, hG⟩ (sJ0_coder_7d493_7 l dC dI adK adV s.heap.size) (cwV 0 hG (zgV zw26 zw27 zw28 zw29 zw30) rfl rfl rfl (by decide +kernel) ⟨Nat.le_of_ble_eq_true rfl, Nat.le_of_ble_eq_true rfl⟩) ⟨zPc_blind, vk_recv hZ.2.2.2.1 (i := 7) (by decide) hS, zPc_pre hPc hKc hDc hE hS hFc hZ⟩ rfl rfl hl.1 rfl (lv_room (Nat.le_of_ble_eq_true rfl)) dJ0_length_8abf5_6 ⟨Nat.le_of_ble_eq_true rfl, Nat.le_of_ble_eq_true rfl⟩) hS (fun q _ h => hFc q h) hFc (fun r6_ u6_ t H1 locs ht hvm hw hB hz1 hk1 hS => ?_)
  have hw : (0 ≤ r6_.toInt ∧ r6_.toInt ≤ 0) := hw
  have b_ := hw
  obtain rfl : r6_ = (0 : Int32) := zeqi.mpr ((show r6_.toInt = 0 from by omega).trans zk_0.symm)
  obtain ⟨w6_, a6_, b6_, hP1, hK1, hD1⟩ := hB
  rw [ht] at hP1
  obtain ⟨hP, hD⟩ := va_join (wr := []) (w1 := []) hP hD [] [] rfl rfl (by decide) (by decide) hk1 hFc hP1 hD1
  have hP : va_P (dC, dI) vwCl [] H1 := hP.sub [] rfl
  have hD : va_D A [] := hD.sub [] (by decide) rfl
  generalize H1 = H at hP hS ⊢
  clear hz1
  refine lv_ishr hx hb dJ0_length_8abf5_9 ?_
  refine lv_topi (fun z9 e_z9 => ?_)
  obtain rfl : z9 = (2 : Int32) := e_z9.trans (by decide)
  refine W.widen (k := 0) (n := 0) (by decide) (by decide) ?_
  have hpost : (2 ≤ (2 : Int32).toInt ∧ (2 : Int32).toInt ≤ 2) := ⟨by omega, by omega⟩
  have hP9 : va_P (dC, dI) vwCl [] H := hP
  have hD9 : va_D A [] := hD
  exact W.iret (v := 2) hx hb hr (fun t ht hW => ⟨⟨2, (fun _ => 0), rfl, hpost, (fun _ => 0), (fun _ => (fun _ => 0)), (fun _ => (fun _ => 0)), by rw [ht]; exact hP9, va_K.moved hW.alike hK, hD9⟩, hS.F ht⟩) hS.2.2 dJ0_length_8abf5_10
set_option maxHeartbeats 8000000 in
set_option maxRecDepth 100000 in
theorem sJ0_isLatin1_aae02_7 (l : Launch) (dC : Nat → ClassId) (dI : Nat → Nat → Nat) (adK adV : Nat → Nat) (sz : Nat) : Met l yJ0_isLatin1_aae02 (zw yJ0_isLatin1_aae02 cJ0_isLatin1_aae02 1 (some .boolean)) { frames := 0, cells := 0, slots := 0, locals := 0 } (zPc dC dI adK adV [.ref (adK 7)] sz [] []) (va_Qi (fun (r : Int32) (u : Nat → Int32) => (1 ≤ r.toInt ∧ r.toInt ≤ 1)) (fun (u : Nat → Int32) (t : State) => ∃ (ww : Nat → Int64) (aa : Nat → Nat → Int32) (bb : Nat → Nat → Int64), va_P (dC, dI) vwCl [] t.heap ∧ va_K (dC, dI) vwCl [] t ∧ va_D (va_A [] sz) []) (va_A [] sz)) 0 0 (va_A [] sz) := by
  refine Met.ofW (cc := cJ0_isLatin1_aae02) (maxL := 1) (ret := (some .boolean)) (by decide) rfl ?_
  intro p e s m args below meth c s₁ B hml hv
  obtain ⟨rfl, hsz, hP, hK, hD0, hE, hZ⟩ := hv
  have hx := B.exec
  have hb := B.bytes
  have hr := B.returns
  have hG : ∀ w ∈ zG, w.before _ s = true := fun w h => atoms_spec (ws := (zw yJ0_isLatin1_aae02 cJ0_isLatin1_aae02 1 (some .boolean))) B.pre w (List.mem_cons_of_mem _ h)
  have hown : s.vm.findClass RJ0 = some m.cls := findClass_of_methodNamed B.named
  have hlocks := B.notSynchronized

  subst hsz
  have hD := hD0.self (sz := s.heap.size)
  generalize hAe : va_A [] s.heap.size = A at hD hZ ⊢
  have hA : ∀ q : Nat, s.heap.size ≤ q → A q := fun q h => by rw [← hAe]; exact Or.inr h
  have hS : va_S A s.heap s.heap [] := va_S.rf
  have hl := lv_entry ([.ref (adK 7)]) (n := 1) (Nat.le_of_ble_eq_true rfl)
  rw [lg_entry_eq]
  generalize (lg_sl ([.ref (adK 7)]) ++ List.replicate (1 - (lg_sl ([.ref (adK 7)])).length) Slot.unset).toArray = ls at hl ⊢
  have hl : lv_has ls 1 [(0, .ref (adK 7))] := hl
  have b_ := zk_1
  refine va_gets hx hb hZ.2.2.1 hS hown (hG _ zw24) (fun _ h => h) dJ0_isLatin1_aae02_0 ?_
  refine lv_if_eq (tgt := 17) hx hb dJ0_isLatin1_aae02_3 (by decide) (fun c_ => absurd c_ (by decide)) (fun c_ => ?_)
  refine lv_aload_n hx hb dJ0_isLatin1_aae02_6 rfl (lv_at hl 0 rfl) ?_
  refine vk_getf hx hb (hZ.2.2.2.1.1 7 (by decide)).2.1 hS hown (hG _ zw25) (fun _ h => h) dJ0_isLatin1_aae02_7 ?_
  refine lv_if_ne (tgt := 17) hx hb dJ0_isLatin1_aae02_10 (by decide) (fun c_ => absurd c_ (by decide)) (fun c_ => ?_)
  refine lv_iconst (v := 1) hx hb dJ0_isLatin1_aae02_13 (by decide) ?_
  refine lv_goto (tgt := 18) hx hb dJ0_isLatin1_aae02_14 (by decide) ?_
  refine W.widen (k := 0) (n := 0) (by decide) (by decide) ?_
  have hpost : (1 ≤ (1 : Int32).toInt ∧ (1 : Int32).toInt ≤ 1) := ⟨by omega, by omega⟩
  have hP9 : va_P (dC, dI) vwCl [] s.heap := hP
  have hD9 : va_D A [] := hD
  exact W.zret (v := 1) hx hb hr rfl (fun t ht hW => ⟨⟨1, (fun _ => 0), rfl, hpost, (fun _ => 0), (fun _ => (fun _ => 0)), (fun _ => (fun _ => 0)), by rw [ht]; exact hP9, va_K.moved hW.alike hK, hD9⟩, hS.F ht⟩) hS.2.2 dJ0_isLatin1_aae02_18
set_option maxHeartbeats 8000000 in
set_option maxRecDepth 100000 in
theorem sJ1_charAt_3b067_7 (l : Launch) (dC : Nat → ClassId) (dI : Nat → Nat → Nat) (adK adV : Nat → Nat) (sz : Nat) (x1 : Int32) (hx1 : 0 ≤ x1.toInt ∧ x1.toInt ≤ 1) : Met l yJ1_charAt_3b067 (zw yJ1_charAt_3b067 cJ1_charAt_3b067 2 (some .char)) { frames := 2, cells := 0, slots := 0, locals := 43 } (zPc dC dI adK adV [.ref (adV 7), .int x1] sz [] []) (va_Qi (fun (r : Int32) (u : Nat → Int32) => (0 ≤ r.toInt ∧ r.toInt ≤ 255)) (fun (u : Nat → Int32) (t : State) => ∃ (ww : Nat → Int64) (aa : Nat → Nat → Int32) (bb : Nat → Nat → Int64), va_P (dC, dI) vwCl [] t.heap ∧ va_K (dC, dI) vwCl [] t ∧ va_D (va_A [] sz) []) (va_A [] sz)) 0 0 (va_A [] sz) := by
  refine Met.ofW (cc := cJ1_charAt_3b067) (maxL := 2) (ret := (some .char)) (by decide) rfl ?_
  intro p e s m args below meth c s₁ B hml hv
  obtain ⟨rfl, hsz, hP, hK, hD0, hE, hZ⟩ := hv
  have hx := B.exec
  have hb := B.bytes
  have hr := B.returns
  have hG : ∀ w ∈ zG, w.before _ s = true := fun w h => atoms_spec (ws := (zw yJ1_charAt_3b067 cJ1_charAt_3b067 2 (some .char))) B.pre w (List.mem_cons_of_mem _ h)
  have hown : s.vm.findClass RJ1 = some m.cls := findClass_of_methodNamed B.named
  have hlocks := B.notSynchronized

  subst hsz
  have hD := hD0.self (sz := s.heap.size)
  generalize hAe : va_A [] s.heap.size = A at hD hZ ⊢
  have hA : ∀ q : Nat, s.heap.size ≤ q → A q := fun q h => by rw [← hAe]; exact Or.inr h
  have hS : va_S A s.heap s.heap [] := va_S.rf
  have hl := lv_entry ([.ref (adV 7), .int x1]) (n := 2) (Nat.le_of_ble_eq_true rfl)
  rw [lg_entry_eq]
  generalize (lg_sl ([.ref (adV 7), .int x1]) ++ List.replicate (2 - (lg_sl ([.ref (adV 7), .int x1])).length) Slot.unset).toArray = ls at hl ⊢
  have hl : lv_has ls 2 [(0, .ref (adV 7)), (1, .int x1)] := hl
  have b_ := zk_2
  refine lv_iload_n hx hb dJ1_charAt_3b067_0 rfl (lv_at hl 1 rfl) ?_
  refine lv_aload_n hx hb dJ1_charAt_3b067_1 rfl (lv_at hl 0 rfl) ?_
  refine va_tlen (v := 2) hx hb (hZ.2.2.2.1.1 7 (by decide)).2.2.2 hS (by decide) dJ1_charAt_3b067_2 ?_
  have hPc := hP.sub (ws' := []) [] rfl
  have hDc := hD.sub (ws' := []) [] (by decide) rfl
  have hKc := hK.sub (tys' := []) [] rfl
  have hFc := va_free (wc := []) hD hS hA [] rfl
  refine va_callv (va_runS (As := [.int x1, .int 2]) (rest := []) ⟨hx, hb, hml, hown, hG⟩ (sJ0_checkIndex_df160_0 l dC dI adK adV s.heap.size x1 2 ⟨show (0 : Int) ≤ (x1 : Int32).toInt from by omega, show (x1 : Int32).toInt ≤ (4 : Int) from by omega⟩ ⟨show (1 : Int) ≤ (2 : Int32).toInt from by decide, show (2 : Int32).toInt ≤ (5 : Int) from by decide⟩ (show x1.toInt < (2 : Int32).toInt from by omega)) (va_cwS 2 hG (zgS zw36 zw37 zw29 zw38) rfl rfl rfl (by decide +kernel) ⟨Nat.le_of_ble_eq_true rfl, Nat.le_of_ble_eq_true rfl⟩) ⟨zPc_blind, zPc_pre hPc hKc hDc hE hS hFc hZ⟩ rfl rfl hl.1 rfl (lv_room (Nat.le_of_ble_eq_true rfl)) dJ1_charAt_3b067_3 ⟨Nat.le_of_ble_eq_true rfl, Nat.le_of_ble_eq_true rfl⟩) hS (fun q _ h => hFc q h) hFc (fun u3_ t H1 locs ht hvm hw hB hz1 hk1 hS => ?_)
  obtain ⟨w3_, a3_, b3_, hP1, hK1, hD1⟩ := hB
  rw [ht] at hP1
  obtain ⟨hP, hD⟩ := va_join (wr := []) (w1 := []) hP hD [] [] rfl rfl (by decide) (by decide) hk1 hFc hP1 hD1
  have hP : va_P (dC, dI) vwCl [] H1 := hP.sub [] rfl
  have hD : va_D A [] := hD.sub [] (by decide) rfl
  generalize H1 = H at hP hS ⊢
  clear hz1
  refine lv_aload_n hx hb dJ1_charAt_3b067_6 rfl (lv_at hl 0 rfl) ?_
  refine lv_iload_n hx hb dJ1_charAt_3b067_7 rfl (lv_at hl 1 rfl) ?_
  refine va_tb (N := 2) hx hb (hZ.2.2.2.1.1 7 (by decide)).2.2.2 hS (zin_lit (n := 2) ⟨by omega, by omega⟩) rfl dJ1_charAt_3b067_8 ?_
  refine lv_topi (fun z8 e_z8 => ?_)
  refine lv_sipush (v := 255) hx hb dJ1_charAt_3b067_9 (by decide) ?_
  have b_ : -2147483648 ≤ z8.toInt ∧ z8.toInt ≤ 2147483647 := ⟨zlo _, zhi _⟩
  refine lv_iand hx hb dJ1_charAt_3b067_12 ?_
  refine lv_topi (fun z12 e_z12 => ?_)
  have b_ := zand (x := z8) zk_255 e_z12 (by decide)
  refine lv_i2c hx hb dJ1_charAt_3b067_13 rfl ?_
  refine lv_topi (fun z13 e_z13 => ?_)
  have b_ := zi2c rfl e_z13 (by omega) (by omega)
  refine W.widen (k := 0) (n := 0) (by decide) (by decide) ?_
  have hpost : (0 ≤ z13.toInt ∧ z13.toInt ≤ 255) := ⟨by omega, by omega⟩
  have hP9 : va_P (dC, dI) vwCl [] H := hP
  have hD9 : va_D A [] := hD
  exact W.zret (v := z13) hx hb hr (zn_char ⟨by omega, by omega⟩) (fun t ht hW => ⟨⟨z13, (fun _ => 0), rfl, hpost, (fun _ => 0), (fun _ => (fun _ => 0)), (fun _ => (fun _ => 0)), by rw [ht]; exact hP9, va_K.moved hW.alike hK, hD9⟩, hS.F ht⟩) hS.2.2 dJ1_charAt_3b067_14
set_option maxHeartbeats 8000000 in
set_option maxRecDepth 100000 in
theorem sJ0_charAt_5068e_7 (l : Launch) (dC : Nat → ClassId) (dI : Nat → Nat → Nat) (adK adV : Nat → Nat) (sz : Nat) (x1 : Int32) (hx1 : 0 ≤ x1.toInt ∧ x1.toInt ≤ 1) : Met l yJ0_charAt_5068e (zw yJ0_charAt_5068e cJ0_charAt_5068e 2 (some .char)) { frames := 3, cells := 0, slots := 0, locals := 64 } (zPc dC dI adK adV [.ref (adK 7), .int x1] sz [] []) (va_Qi (fun (r : Int32) (u : Nat → Int32) => (0 ≤ r.toInt ∧ r.toInt ≤ 255)) (fun (u : Nat → Int32) (t : State) => ∃ (ww : Nat → Int64) (aa : Nat → Nat → Int32) (bb : Nat → Nat → Int64), va_P (dC, dI) vwCl [] t.heap ∧ va_K (dC, dI) vwCl [] t ∧ va_D (va_A [] sz) []) (va_A [] sz)) 0 0 (va_A [] sz) := by
  refine Met.ofW (cc := cJ0_charAt_5068e) (maxL := 2) (ret := (some .char)) (by decide) rfl ?_
  intro p e s m args below meth c s₁ B hml hv
  obtain ⟨rfl, hsz, hP, hK, hD0, hE, hZ⟩ := hv
  have hx := B.exec
  have hb := B.bytes
  have hr := B.returns
  have hG : ∀ w ∈ zG, w.before _ s = true := fun w h => atoms_spec (ws := (zw yJ0_charAt_5068e cJ0_charAt_5068e 2 (some .char))) B.pre w (List.mem_cons_of_mem _ h)
  have hown : s.vm.findClass RJ0 = some m.cls := findClass_of_methodNamed B.named
  have hlocks := B.notSynchronized

  subst hsz
  have hD := hD0.self (sz := s.heap.size)
  generalize hAe : va_A [] s.heap.size = A at hD hZ ⊢
  have hA : ∀ q : Nat, s.heap.size ≤ q → A q := fun q h => by rw [← hAe]; exact Or.inr h
  have hS : va_S A s.heap s.heap [] := va_S.rf
  have hl := lv_entry ([.ref (adK 7), .int x1]) (n := 2) (Nat.le_of_ble_eq_true rfl)
  rw [lg_entry_eq]
  generalize (lg_sl ([.ref (adK 7), .int x1]) ++ List.replicate (2 - (lg_sl ([.ref (adK 7), .int x1])).length) Slot.unset).toArray = ls at hl ⊢
  have hl : lv_has ls 2 [(0, .ref (adK 7)), (1, .int x1)] := hl
  refine lv_aload_n hx hb dJ0_charAt_5068e_0 rfl (lv_at hl 0 rfl) ?_
  have hPc := hP.sub (ws' := []) [] rfl
  have hDc := hD.sub (ws' := []) [] (by decide) rfl
  have hKc := hK.sub (tys' := []) [] rfl
  have hFc := va_free (wc := []) hD hS hA [] rfl
  refine va_calli (va_runV (As := []) (rest := []) ⟨hx, hb, hml, hown, hG⟩ (sJ0_isLatin1_aae02_7 l dC dI adK adV s.heap.size) (cwV 0 hG (zgV zw39 zw40 zw41 zw29 zw42) rfl rfl rfl (by decide +kernel) ⟨Nat.le_of_ble_eq_true rfl, Nat.le_of_ble_eq_true rfl⟩) ⟨zPc_blind, vk_recv hZ.2.2.2.1 (i := 7) (by decide) hS, zPc_pre hPc hKc hDc hE hS hFc hZ⟩ rfl rfl hl.1 rfl (lv_room (Nat.le_of_ble_eq_true rfl)) dJ0_charAt_5068e_1 ⟨Nat.le_of_ble_eq_true rfl, Nat.le_of_ble_eq_true rfl⟩) hS (fun q _ h => hFc q h) hFc (fun r1_ u1_ t H1 locs ht hvm hw hB hz1 hk1 hS => ?_)
  have hw : (1 ≤ r1_.toInt ∧ r1_.toInt ≤ 1) := hw
  have b_ := hw
  obtain rfl : r1_ = (1 : Int32) := zeqi.mpr ((show r1_.toInt = 1 from by omega).trans zk_1.symm)
  obtain ⟨w1_, a1_, b1_, hP1, hK1, hD1⟩ := hB
  rw [ht] at hP1
  obtain ⟨hP, hD⟩ := va_join (wr := []) (w1 := []) hP hD [] [] rfl rfl (by decide) (by decide) hk1 hFc hP1 hD1
  have hP : va_P (dC, dI) vwCl [] H1 := hP.sub [] rfl
  have hD : va_D A [] := hD.sub [] (by decide) rfl
  generalize H1 = H at hP hS ⊢
  clear hz1
  refine lv_if_eq (tgt := 16) hx hb dJ0_charAt_5068e_4 (by decide) (fun c_ => absurd c_ (by decide)) (fun c_ => ?_)
  refine lv_aload_n hx hb dJ0_charAt_5068e_7 rfl (lv_at hl 0 rfl) ?_
  refine vk_getf hx hb (hZ.2.2.2.1.1 7 (by decide)).2.2.1 hS hown (hG _ zw23) (fun _ h => h) dJ0_charAt_5068e_8 ?_
  refine lv_iload_n hx hb dJ0_charAt_5068e_11 rfl (lv_at hl 1 rfl) ?_
  have hPc := hP.sub (ws' := []) [] rfl
  have hDc := hD.sub (ws' := []) [] (by decide) rfl
  have hKc := hK.sub (tys' := []) [] rfl
  have hFc := va_free (wc := []) hD hS hA [] rfl
  refine va_calli (va_runS (As := [.ref (adV 7), .int x1]) (rest := []) ⟨hx, hb, hml, hown, hG⟩ (sJ1_charAt_3b067_7 l dC dI adK adV H.size x1 ⟨show (0 : Int) ≤ (x1 : Int32).toInt from by omega, show (x1 : Int32).toInt ≤ (1 : Int) from by omega⟩) (va_cwS 2 hG (zgS zw43 zw44 zw45 zw46) rfl rfl rfl (by decide +kernel) ⟨Nat.le_of_ble_eq_true rfl, Nat.le_of_ble_eq_true rfl⟩) ⟨zPc_blind, zPc_pre hPc hKc hDc hE hS hFc hZ⟩ rfl rfl hl.1 rfl (lv_room (Nat.le_of_ble_eq_true rfl)) dJ0_charAt_5068e_12 ⟨Nat.le_of_ble_eq_true rfl, Nat.le_of_ble_eq_true rfl⟩) hS (fun q _ h => hFc q h) hFc (fun r12_ u12_ t H1 locs ht hvm hw hB hz1 hk1 hS => ?_)
  have hw : (0 ≤ r12_.toInt ∧ r12_.toInt ≤ 255) := hw
  have b_ := hw
  obtain ⟨w12_, a12_, b12_, hP1, hK1, hD1⟩ := hB
  rw [ht] at hP1
  obtain ⟨hP, hD⟩ := va_join (wr := []) (w1 := []) hP hD [] [] rfl rfl (by decide) (by decide) hk1 hFc hP1 hD1
  have hP : va_P (dC, dI) vwCl [] H1 := hP.sub [] rfl
  have hD : va_D A [] := hD.sub [] (by decide) rfl
  generalize H1 = H at hP hS ⊢
  clear hz1
  refine W.widen (k := 0) (n := 0) (by decide) (by decide) ?_
  have hpost : (0 ≤ r12_.toInt ∧ r12_.toInt ≤ 255) := ⟨by omega, by omega⟩
  have hP9 : va_P (dC, dI) vwCl [] H := hP
  have hD9 : va_D A [] := hD
  exact W.zret (v := r12_) hx hb hr (zn_char ⟨by omega, by omega⟩) (fun t ht hW => ⟨⟨r12_, (fun _ => 0), rfl, hpost, (fun _ => 0), (fun _ => (fun _ => 0)), (fun _ => (fun _ => 0)), by rw [ht]; exact hP9, va_K.moved hW.alike hK, hD9⟩, hS.F ht⟩) hS.2.2 dJ0_charAt_5068e_15
set_option maxHeartbeats 8000000 in
set_option maxRecDepth 100000 in
theorem sX9_spells_0 (l : Launch) (dC : Nat → ClassId) (dI : Nat → Nat → Nat) (adK adV : Nat → Nat) (h0 : Nat) (h1 : Nat) (h2 : Nat) (k1 : ClassId) (sz : Nat) (v0 : Nat → Int32) (f1 : Nat → Int32) (x1 : Int32) (x2 : Int32) (hv0 : zR rg_Tape v0) (hx1 : 0 ≤ x1.toInt ∧ x1.toInt ≤ 600) (hx2 : 0 ≤ x2.toInt ∧ x2.toInt ≤ 601) : Met l yX9_spells (zw yX9_spells cX9_spells 5 (some .boolean)) { frames := 4, cells := 0, slots := 0, locals := 85 } (zPc dC dI adK adV [.ref h0, .int x1, .int x2, .ref (adK 7)] sz [(h0, .inr (9, mX9 h1 h2 v0)), (h1, .inl (k1, 600, .inl f1))] [(k1, .byte)]) (va_Qi (fun (r : Int32) (u : Nat → Int32) => (0 ≤ r.toInt ∧ r.toInt ≤ 1)) (fun (u : Nat → Int32) (t : State) => ∃ (ww : Nat → Int64) (aa : Nat → Nat → Int32) (bb : Nat → Nat → Int64), va_P (dC, dI) vwCl [(h0, .inr (9, mX9 h1 h2 v0)), (h1, .inl (k1, 600, .inl f1))] t.heap ∧ va_K (dC, dI) vwCl [(k1, .byte)] t ∧ va_D (va_A [(h0, .inr (9, mX9 h1 h2 v0)), (h1, .inl (k1, 600, .inl f1))] sz) [(h0, .inr (9, mX9 h1 h2 v0)), (h1, .inl (k1, 600, .inl f1))]) (va_A [(h0, .inr (9, mX9 h1 h2 v0)), (h1, .inl (k1, 600, .inl f1))] sz)) 0 0 (va_A [(h0, .inr (9, mX9 h1 h2 v0)), (h1, .inl (k1, 600, .inl f1))] sz) := by
  refine Met.ofW (cc := cX9_spells) (maxL := 5) (ret := (some .boolean)) (by decide) rfl ?_
  intro p e s m args below meth c s₁ B hml hv
  obtain ⟨rfl, hsz, hP, hK, hD0, hE, hZ⟩ := hv
  have hx := B.exec
  have hb := B.bytes
  have hr := B.returns
  have hG : ∀ w ∈ zG, w.before _ s = true := fun w h => atoms_spec (ws := (zw yX9_spells cX9_spells 5 (some .boolean))) B.pre w (List.mem_cons_of_mem _ h)
  have hown : s.vm.findClass RX9 = some m.cls := findClass_of_methodNamed B.named
  have hlocks := B.notSynchronized

  subst hsz
  have hD := hD0.self (sz := s.heap.size)
  generalize hAe : va_A [(h0, .inr (9, mX9 h1 h2 v0)), (h1, .inl (k1, 600, .inl f1))] s.heap.size = A at hD hZ ⊢
  have hA : ∀ q : Nat, s.heap.size ≤ q → A q := fun q h => by rw [← hAe]; exact Or.inr h
  have hS : va_S A s.heap s.heap [] := va_S.rf
  have hl := lv_entry ([.ref h0, .int x1, .int x2, .ref (adK 7)]) (n := 5) (Nat.le_of_ble_eq_true rfl)
  rw [lg_entry_eq]
  generalize (lg_sl ([.ref h0, .int x1, .int x2, .ref (adK 7)]) ++ List.replicate (5 - (lg_sl ([.ref h0, .int x1, .int x2, .ref (adK 7)])).length) Slot.unset).toArray = ls at hl ⊢
  have hl : lv_has ls 5 [(0, .ref h0), (1, .int x1), (2, .int x2), (3, .ref (adK 7))] := hl
  have b_ := zk_0
  have b_ := zk_1
  refine lv_iload_n hx hb dX9_spells_0 rfl (lv_at hl 2 rfl) ?_
  refine lv_iload_n hx hb dX9_spells_1 rfl (lv_at hl 1 rfl) ?_
  refine lv_isub hx hb dX9_spells_2 ?_
  refine lv_topi (fun z2 e_z2 => ?_)
  have b_ := zsub rfl rfl e_z2 (by omega) (by omega)
  refine lv_aload_n hx hb dX9_spells_3 rfl (lv_at hl 3 rfl) ?_
  have hPc := hP.sub (ws' := []) [] rfl
  have hDc := hD.sub (ws' := []) [] (by decide) rfl
  have hKc := hK.sub (tys' := []) [] rfl
  have hFc := va_free (wc := []) hD hS hA [] rfl
  refine va_calli (va_runV (As := []) (rest := [.int z2]) ⟨hx, hb, hml, hown, hG⟩ (sJ0_length_8abf5_7 l dC dI adK adV s.heap.size) (cwV 0 hG (zgV zw47 zw48 zw49 zw29 zw50) rfl rfl rfl (by decide +kernel) ⟨Nat.le_of_ble_eq_true rfl, Nat.le_of_ble_eq_true rfl⟩) ⟨zPc_blind, vk_recv hZ.2.2.2.1 (i := 7) (by decide) hS, zPc_pre hPc hKc hDc hE hS hFc hZ⟩ rfl rfl hl.1 rfl (lv_room (Nat.le_of_ble_eq_true rfl)) dX9_spells_4 ⟨Nat.le_of_ble_eq_true rfl, Nat.le_of_ble_eq_true rfl⟩) hS (fun q _ h => hFc q h) hFc (fun r4_ u4_ t H1 locs ht hvm hw hB hz1 hk1 hS => ?_)
  have hw : (2 ≤ r4_.toInt ∧ r4_.toInt ≤ 2) := hw
  have b_ := hw
  obtain rfl : r4_ = (2 : Int32) := zeqi.mpr ((show r4_.toInt = 2 from by omega).trans zk_2.symm)
  obtain ⟨w4_, a4_, b4_, hP1, hK1, hD1⟩ := hB
  rw [ht] at hP1
  obtain ⟨hP, hD⟩ := va_join (wr := [(h0, .inr (9, mX9 h1 h2 v0)), (h1, .inl (k1, 600, .inl f1))]) (w1 := []) hP hD [] [0, 1] rfl rfl (by decide) (by decide) hk1 hFc hP1 hD1
  have hP : va_P (dC, dI) vwCl [(h0, .inr (9, mX9 h1 h2 v0)), (h1, .inl (k1, 600, .inl f1))] H1 := hP.sub [0, 1] rfl
  have hD : va_D A [(h0, .inr (9, mX9 h1 h2 v0)), (h1, .inl (k1, 600, .inl f1))] := hD.sub [0, 1] (by decide) rfl
  generalize H1 = H at hP hS ⊢
  clear hz1
  refine lv_icmp_ne (tgt := 22) hx hb dX9_spells_7 (by decide) (fun c_ => ?_) (fun c_ => ?_)
  · skip
    have b_ := zT_ne rfl zk_2 c_
    refine lv_iconst (v := 0) hx hb dX9_spells_22 (by decide) ?_
    refine W.widen (k := 0) (n := 0) (by decide) (by decide) ?_
    have hpost : (0 ≤ (0 : Int32).toInt ∧ (0 : Int32).toInt ≤ 1) := ⟨by omega, by omega⟩
    have hP9 : va_P (dC, dI) vwCl [(h0, .inr (9, mX9 h1 h2 v0)), (h1, .inl (k1, 600, .inl f1))] H := hP
    have hD9 : va_D A [(h0, .inr (9, mX9 h1 h2 v0)), (h1, .inl (k1, 600, .inl f1))] := hD
    exact W.zret (v := 0) hx hb hr rfl (fun t ht hW => ⟨⟨0, (fun _ => 0), rfl, hpost, (fun _ => 0), (fun _ => (fun _ => 0)), (fun _ => (fun _ => 0)), by rw [ht]; exact hP9, va_K.moved hW.alike hK, hD9⟩, hS.F ht⟩) hS.2.2 dX9_spells_23
  · skip
    have b_ := zF_ne rfl zk_2 c_
    refine lv_iload_n hx hb dX9_spells_10 rfl (lv_at hl 1 rfl) ?_
    refine lv_if_lt (tgt := 22) hx hb dX9_spells_11 (by decide) (fun c_ => False.elim (by have b_ := zT_lt rfl zk_0 c_; omega)) (fun c_ => ?_)
    have b_ := zF_lt rfl zk_0 c_
    refine lv_iload_n hx hb dX9_spells_14 rfl (lv_at hl 2 rfl) ?_
    refine lv_aload_n hx hb dX9_spells_15 rfl (lv_at hl 0 rfl) ?_
    have b_ : 0 ≤ (v0 2).toInt ∧ (v0 2).toInt ≤ 600 := hv0 2
    refine va_get (D := (dC, dI)) (ci := 9) (v := .int (v0 2)) (C := RX9) (T := TX9) (N := 4) hx hb hG zuX9 hown hK hP 0 rfl rfl 2 (by decide) (hG _ zw0) (fun _ h9 => h9) rfl dX9_spells_16 ?_
    refine lv_icmp_le (tgt := 24) hx hb dX9_spells_19 (by decide) (fun c_ => ?_) (fun c_ => ?_)
    · skip
      have b_ := zT_le rfl rfl c_
      refine lv_iconst (v := 0) hx hb dX9_spells_24 (by decide) ?_
      refine lv_istore (lv' := [(4, .int 0), (0, .ref h0), (1, .int x1), (2, .int x2), (3, .ref (adK 7))]) hx hb dX9_spells_25 hl (by decide) rfl (fun ls hl => ?_)
      refine zcutL (fun u27_ => (2 - (u27_ 0).toInt).toNat) (fun H locs ls u27_ w27_ a27_ b27_ => va_P (dC, dI) vwCl [(h0, .inr (9, mX9 h1 h2 v0)), (h1, .inl (k1, 600, .inl f1))] H ∧ va_D A [(h0, .inr (9, mX9 h1 h2 v0)), (h1, .inl (k1, 600, .inl f1))] ∧ va_S A s.heap H locs ∧ lv_has ls 5 [(0, .ref h0), (1, .int x1), (2, .int x2), (3, .ref (adK 7)), (4, .int (u27_ 0))] ∧ (0 ≤ (u27_ 0).toInt ∧ (u27_ 0).toInt ≤ 2)) (fun ls u27_ w27_ => F0 m 27 ls []) 0 0 ?_ (fun hJ27 => ?_)
      · skip
        intro H locs ls u27_ w27_ a27_ b27_ hc hJ27
        obtain ⟨hP, hD, hS, hl, b_⟩ := hc
        refine lv_iload hx hb dX9_spells_27 (lv_at hl 4 rfl) ?_
        refine lv_aload_n hx hb dX9_spells_29 rfl (lv_at hl 3 rfl) ?_
        have hPc := hP.sub (ws' := []) [] rfl
        have hDc := hD.sub (ws' := []) [] (by decide) rfl
        have hKc := hK.sub (tys' := []) [] rfl
        have hFc := va_free (wc := []) hD hS hA [] rfl
        refine va_calli (va_runV (As := []) (rest := [.int (u27_ 0)]) ⟨hx, hb, hml, hown, hG⟩ (sJ0_length_8abf5_7 l dC dI adK adV H.size) (cwV 0 hG (zgV zw47 zw48 zw49 zw29 zw50) rfl rfl rfl (by decide +kernel) ⟨Nat.le_of_ble_eq_true rfl, Nat.le_of_ble_eq_true rfl⟩) ⟨zPc_blind, vk_recv hZ.2.2.2.1 (i := 7) (by decide) hS, zPc_pre hPc hKc hDc hE hS hFc hZ⟩ rfl rfl hl.1 rfl (lv_room (Nat.le_of_ble_eq_true rfl)) dX9_spells_30 ⟨Nat.le_of_ble_eq_true rfl, Nat.le_of_ble_eq_true rfl⟩) hS (fun q _ h => hFc q h) hFc (fun r30_ u30_ t H1 locs ht hvm hw hB hz1 hk1 hS => ?_)
        have hw : (2 ≤ r30_.toInt ∧ r30_.toInt ≤ 2) := hw
        have b_ := hw
        obtain rfl : r30_ = (2 : Int32) := zeqi.mpr ((show r30_.toInt = 2 from by omega).trans zk_2.symm)
        obtain ⟨w30_, a30_, b30_, hP1, hK1, hD1⟩ := hB
        rw [ht] at hP1
        obtain ⟨hP, hD⟩ := va_join (wr := [(h0, .inr (9, mX9 h1 h2 v0)), (h1, .inl (k1, 600, .inl f1))]) (w1 := []) hP hD [] [0, 1] rfl rfl (by decide) (by decide) hk1 hFc hP1 hD1
        have hP : va_P (dC, dI) vwCl [(h0, .inr (9, mX9 h1 h2 v0)), (h1, .inl (k1, 600, .inl f1))] H1 := hP.sub [0, 1] rfl
        have hD : va_D A [(h0, .inr (9, mX9 h1 h2 v0)), (h1, .inl (k1, 600, .inl f1))] := hD.sub [0, 1] (by decide) rfl
        generalize H1 = H at hP hS ⊢
        clear hz1
        refine lv_icmp_ge (tgt := 65) hx hb dX9_spells_33 (by decide) (fun c_ => ?_) (fun c_ => ?_)
        · skip
          have b_ := zT_ge rfl zk_2 c_
          refine lv_iconst (v := 1) hx hb dX9_spells_65 (by decide) ?_
          refine W.widen (k := 0) (n := 0) (by decide) (by decide) ?_
          have hpost : (0 ≤ (1 : Int32).toInt ∧ (1 : Int32).toInt ≤ 1) := ⟨by omega, by omega⟩
          have hP9 : va_P (dC, dI) vwCl [(h0, .inr (9, mX9 h1 h2 v0)), (h1, .inl (k1, 600, .inl f1))] H := hP
          have hD9 : va_D A [(h0, .inr (9, mX9 h1 h2 v0)), (h1, .inl (k1, 600, .inl f1))] := hD
          exact W.zret (v := 1) hx hb hr rfl (fun t ht hW => ⟨⟨1, (fun _ => 0), rfl, hpost, (fun _ => 0), (fun _ => (fun _ => 0)), (fun _ => (fun _ => 0)), by rw [ht]; exact hP9, va_K.moved hW.alike hK, hD9⟩, hS.F ht⟩) hS.2.2 dX9_spells_66
        · skip
          have b_ := zF_ge rfl zk_2 c_
          refine lv_aload_n hx hb dX9_spells_36 rfl (lv_at hl 0 rfl) ?_
          refine va_get (D := (dC, dI)) (ci := 9) (v := .ref h1) (C := RX9) (T := TX9) (N := 4) hx hb hG zuX9 hown hK hP 0 rfl rfl 0 (by decide) (hG _ zw1) (fun _ h9 => h9) rfl dX9_spells_37 ?_
          refine lv_iload_n hx hb dX9_spells_40 rfl (lv_at hl 1 rfl) ?_
          refine lv_iload hx hb dX9_spells_41 (lv_at hl 4 rfl) ?_
          refine lv_iadd hx hb dX9_spells_43 ?_
          refine lv_topi (fun z43 e_z43 => ?_)
          have b_ := zadd rfl rfl e_z43 (by omega) (by omega)
          refine va_bald hx hb hK hP 1 0 rfl rfl (zin_lit ⟨by omega, by omega⟩) dX9_spells_44 ?_
          refine lv_topi (fun z44 e_z44 => ?_)
          refine lv_bipush (v := 32) hx hb dX9_spells_45 (by decide) ?_
          have b_ : -2147483648 ≤ z44.toInt ∧ z44.toInt ≤ 2147483647 := ⟨zlo _, zhi _⟩
          refine lv_ior hx hb dX9_spells_47 ?_
          refine lv_topi (fun z47 e_z47 => ?_)
          refine lv_aload_n hx hb dX9_spells_48 rfl (lv_at hl 3 rfl) ?_
          refine lv_iload hx hb dX9_spells_49 (lv_at hl 4 rfl) ?_
          have hPc := hP.sub (ws' := []) [] rfl
          have hDc := hD.sub (ws' := []) [] (by decide) rfl
          have hKc := hK.sub (tys' := []) [] rfl
          have hFc := va_free (wc := []) hD hS hA [] rfl
          refine va_calli (va_runV (As := [.int (u27_ 0)]) (rest := [.int z47]) ⟨hx, hb, hml, hown, hG⟩ (sJ0_charAt_5068e_7 l dC dI adK adV H.size (u27_ 0) ⟨show (0 : Int) ≤ ((u27_ 0) : Int32).toInt from by omega, show ((u27_ 0) : Int32).toInt ≤ (1 : Int) from by omega⟩) (cwV 1 hG (zgV zw51 zw52 zw53 zw29 zw54) rfl rfl rfl (by decide +kernel) ⟨Nat.le_of_ble_eq_true rfl, Nat.le_of_ble_eq_true rfl⟩) ⟨zPc_blind, vk_recv hZ.2.2.2.1 (i := 7) (by decide) hS, zPc_pre hPc hKc hDc hE hS hFc hZ⟩ rfl rfl hl.1 rfl (lv_room (Nat.le_of_ble_eq_true rfl)) dX9_spells_51 ⟨Nat.le_of_ble_eq_true rfl, Nat.le_of_ble_eq_true rfl⟩) hS (fun q _ h => hFc q h) hFc (fun r51_ u51_ t H1 locs ht hvm hw hB hz1 hk1 hS => ?_)
          have hw : (0 ≤ r51_.toInt ∧ r51_.toInt ≤ 255) := hw
          have b_ := hw
          obtain ⟨w51_, a51_, b51_, hP1, hK1, hD1⟩ := hB
          rw [ht] at hP1
          obtain ⟨hP, hD⟩ := va_join (wr := [(h0, .inr (9, mX9 h1 h2 v0)), (h1, .inl (k1, 600, .inl f1))]) (w1 := []) hP hD [] [0, 1] rfl rfl (by decide) (by decide) hk1 hFc hP1 hD1
          have hP : va_P (dC, dI) vwCl [(h0, .inr (9, mX9 h1 h2 v0)), (h1, .inl (k1, 600, .inl f1))] H1 := hP.sub [0, 1] rfl
          have hD : va_D A [(h0, .inr (9, mX9 h1 h2 v0)), (h1, .inl (k1, 600, .inl f1))] := hD.sub [0, 1] (by decide) rfl
          generalize H1 = H at hP hS ⊢
          clear hz1
          have b_ : -2147483648 ≤ z47.toInt ∧ z47.toInt ≤ 2147483647 := ⟨zlo _, zhi _⟩
          refine lv_icmp_eq (tgt := 59) hx hb dX9_spells_54 (by decide) (fun c_ => ?_) (fun c_ => ?_)
          · skip
            have b_ := zT_eq rfl rfl c_
            obtain ⟨z59, e_z59⟩ : ∃ z : Int32, z = (u27_ 0) + Int32.ofInt 1 := ⟨_, rfl⟩
            have b_ := zadd (x := (u27_ 0)) (y := Int32.ofInt 1) rfl (show (Int32.ofInt 1).toInt = 1 from by decide) e_z59 (by omega) (by omega)
            refine lv_iinc (v := z59) (lv' := [(4, .int z59), (0, .ref h0), (1, .int x1), (2, .int x2), (3, .ref (adK 7))]) hx hb dX9_spells_59 hl (k := 4) rfl e_z59.symm (by decide) rfl (fun ls hl => ?_)
            refine lv_goto (tgt := 27) hx hb dX9_spells_62 (by decide) ?_
            have hc : va_P (dC, dI) vwCl [(h0, .inr (9, mX9 h1 h2 v0)), (h1, .inl (k1, 600, .inl f1))] H ∧ va_D A [(h0, .inr (9, mX9 h1 h2 v0)), (h1, .inl (k1, 600, .inl f1))] ∧ va_S A s.heap H locs ∧ lv_has ls 5 [(0, .ref h0), (1, .int x1), (2, .int x2), (3, .ref (adK 7)), (4, .int z59)] ∧ (0 ≤ z59.toInt ∧ z59.toInt ≤ 2) := ⟨hP, hD, hS, lv_sub hl [1, 2, 3, 4, 0] rfl, ⟨by omega, by omega⟩⟩
            exact hJ27 H locs ls (fun i => ([z59] : List (Int32)).getD i 0) (fun _ => 0) (fun _ => (fun _ => 0)) (fun _ => (fun _ => 0)) hc (show (2 - z59.toInt).toNat < (2 - (u27_ 0).toInt).toNat from by omega)
          · skip
            have b_ := zF_eq rfl rfl c_
            refine lv_iconst (v := 0) hx hb dX9_spells_57 (by decide) ?_
            refine W.widen (k := 0) (n := 0) (by decide) (by decide) ?_
            have hpost : (0 ≤ (0 : Int32).toInt ∧ (0 : Int32).toInt ≤ 1) := ⟨by omega, by omega⟩
            have hP9 : va_P (dC, dI) vwCl [(h0, .inr (9, mX9 h1 h2 v0)), (h1, .inl (k1, 600, .inl f1))] H := hP
            have hD9 : va_D A [(h0, .inr (9, mX9 h1 h2 v0)), (h1, .inl (k1, 600, .inl f1))] := hD
            exact W.zret (v := 0) hx hb hr rfl (fun t ht hW => ⟨⟨0, (fun _ => 0), rfl, hpost, (fun _ => 0), (fun _ => (fun _ => 0)), (fun _ => (fun _ => 0)), by rw [ht]; exact hP9, va_K.moved hW.alike hK, hD9⟩, hS.F ht⟩) hS.2.2 dX9_spells_58
      · skip
        have hc : va_P (dC, dI) vwCl [(h0, .inr (9, mX9 h1 h2 v0)), (h1, .inl (k1, 600, .inl f1))] H ∧ va_D A [(h0, .inr (9, mX9 h1 h2 v0)), (h1, .inl (k1, 600, .inl f1))] ∧ va_S A s.heap H locs ∧ lv_has ls 5 [(0, .ref h0), (1, .int x1), (2, .int x2), (3, .ref (adK 7)), (4, .int 0)] ∧ (0 ≤ (0 : Int32).toInt ∧ (0 : Int32).toInt ≤ 2) := ⟨hP, hD, hS, lv_sub hl [1, 2, 3, 4, 0] rfl, ⟨by omega, by omega⟩⟩
        exact hJ27 H locs ls (fun i => ([0] : List (Int32)).getD i 0) (fun _ => 0) (fun _ => (fun _ => 0)) (fun _ => (fun _ => 0)) hc
    · skip
      have b_ := zF_le rfl rfl c_
      refine lv_iconst (v := 0) hx hb dX9_spells_22 (by decide) ?_
      refine W.widen (k := 0) (n := 0) (by decide) (by decide) ?_
      have hpost : (0 ≤ (0 : Int32).toInt ∧ (0 : Int32).toInt ≤ 1) := ⟨by omega, by omega⟩
      have hP9 : va_P (dC, dI) vwCl [(h0, .inr (9, mX9 h1 h2 v0)), (h1, .inl (k1, 600, .inl f1))] H := hP
      have hD9 : va_D A [(h0, .inr (9, mX9 h1 h2 v0)), (h1, .inl (k1, 600, .inl f1))] := hD
      exact W.zret (v := 0) hx hb hr rfl (fun t ht hW => ⟨⟨0, (fun _ => 0), rfl, hpost, (fun _ => 0), (fun _ => (fun _ => 0)), (fun _ => (fun _ => 0)), by rw [ht]; exact hP9, va_K.moved hW.alike hK, hD9⟩, hS.F ht⟩) hS.2.2 dX9_spells_23
set_option maxHeartbeats 8000000 in
set_option maxRecDepth 100000 in
theorem sJ0_coder_7d493_8 (l : Launch) (dC : Nat → ClassId) (dI : Nat → Nat → Nat) (adK adV : Nat → Nat) (sz : Nat) : Met l yJ0_coder_7d493 (zw yJ0_coder_7d493 cJ0_coder_7d493 1 (some .byte)) { frames := 0, cells := 0, slots := 0, locals := 0 } (zPc dC dI adK adV [.ref (adK 8)] sz [] []) (va_Qi (fun (r : Int32) (u : Nat → Int32) => (0 ≤ r.toInt ∧ r.toInt ≤ 0)) (fun (u : Nat → Int32) (t : State) => ∃ (ww : Nat → Int64) (aa : Nat → Nat → Int32) (bb : Nat → Nat → Int64), va_P (dC, dI) vwCl [] t.heap ∧ va_K (dC, dI) vwCl [] t ∧ va_D (va_A [] sz) []) (va_A [] sz)) 0 0 (va_A [] sz) := by
  refine Met.ofW (cc := cJ0_coder_7d493) (maxL := 1) (ret := (some .byte)) (by decide) rfl ?_
  intro p e s m args below meth c s₁ B hml hv
  obtain ⟨rfl, hsz, hP, hK, hD0, hE, hZ⟩ := hv
  have hx := B.exec
  have hb := B.bytes
  have hr := B.returns
  have hG : ∀ w ∈ zG, w.before _ s = true := fun w h => atoms_spec (ws := (zw yJ0_coder_7d493 cJ0_coder_7d493 1 (some .byte))) B.pre w (List.mem_cons_of_mem _ h)
  have hown : s.vm.findClass RJ0 = some m.cls := findClass_of_methodNamed B.named
  have hlocks := B.notSynchronized

  subst hsz
  have hD := hD0.self (sz := s.heap.size)
  generalize hAe : va_A [] s.heap.size = A at hD hZ ⊢
  have hA : ∀ q : Nat, s.heap.size ≤ q → A q := fun q h => by rw [← hAe]; exact Or.inr h
  have hS : va_S A s.heap s.heap [] := va_S.rf
  have hl := lv_entry ([.ref (adK 8)]) (n := 1) (Nat.le_of_ble_eq_true rfl)
  rw [lg_entry_eq]
  generalize (lg_sl ([.ref (adK 8)]) ++ List.replicate (1 - (lg_sl ([.ref (adK 8)])).length) Slot.unset).toArray = ls at hl ⊢
  have hl : lv_has ls 1 [(0, .ref (adK 8))] := hl
  have b_ := zk_0
  refine va_gets hx hb hZ.2.2.1 hS hown (hG _ zw24) (fun _ h => h) dJ0_coder_7d493_0 ?_
  refine lv_if_eq (tgt := 13) hx hb dJ0_coder_7d493_3 (by decide) (fun c_ => absurd c_ (by decide)) (fun c_ => ?_)
  refine lv_aload_n hx hb dJ0_coder_7d493_6 rfl (lv_at hl 0 rfl) ?_
  refine vk_getf hx hb (hZ.2.2.2.1.1 8 (by decide)).2.1 hS hown (hG _ zw25) (fun _ h => h) dJ0_coder_7d493_7 ?_
  refine lv_goto (tgt := 14) hx hb dJ0_coder_7d493_10 (by decide) ?_
  refine W.widen (k := 0) (n := 0) (by decide) (by decide) ?_
  have hpost : (0 ≤ (0 : Int32).toInt ∧ (0 : Int32).toInt ≤ 0) := ⟨by omega, by omega⟩
  have hP9 : va_P (dC, dI) vwCl [] s.heap := hP
  have hD9 : va_D A [] := hD
  exact W.zret (v := 0) hx hb hr rfl (fun t ht hW => ⟨⟨0, (fun _ => 0), rfl, hpost, (fun _ => 0), (fun _ => (fun _ => 0)), (fun _ => (fun _ => 0)), by rw [ht]; exact hP9, va_K.moved hW.alike hK, hD9⟩, hS.F ht⟩) hS.2.2 dJ0_coder_7d493_14
set_option maxHeartbeats 8000000 in
set_option maxRecDepth 100000 in
theorem sJ0_length_8abf5_8 (l : Launch) (dC : Nat → ClassId) (dI : Nat → Nat → Nat) (adK adV : Nat → Nat) (sz : Nat) : Met l yJ0_length_8abf5 (zw yJ0_length_8abf5 cJ0_length_8abf5 1 (some .int)) { frames := 1, cells := 0, slots := 0, locals := 20 } (zPc dC dI adK adV [.ref (adK 8)] sz [] []) (va_Qi (fun (r : Int32) (u : Nat → Int32) => (3 ≤ r.toInt ∧ r.toInt ≤ 3)) (fun (u : Nat → Int32) (t : State) => ∃ (ww : Nat → Int64) (aa : Nat → Nat → Int32) (bb : Nat → Nat → Int64), va_P (dC, dI) vwCl [] t.heap ∧ va_K (dC, dI) vwCl [] t ∧ va_D (va_A [] sz) []) (va_A [] sz)) 0 0 (va_A [] sz) := by
  refine Met.ofW (cc := cJ0_length_8abf5) (maxL := 1) (ret := (some .int)) (by decide) rfl ?_
  intro p e s m args below meth c s₁ B hml hv
  obtain ⟨rfl, hsz, hP, hK, hD0, hE, hZ⟩ := hv
  have hx := B.exec
  have hb := B.bytes
  have hr := B.returns
  have hG : ∀ w ∈ zG, w.before _ s = true := fun w h => atoms_spec (ws := (zw yJ0_length_8abf5 cJ0_length_8abf5 1 (some .int))) B.pre w (List.mem_cons_of_mem _ h)
  have hown : s.vm.findClass RJ0 = some m.cls := findClass_of_methodNamed B.named
  have hlocks := B.notSynchronized

  subst hsz
  have hD := hD0.self (sz := s.heap.size)
  generalize hAe : va_A [] s.heap.size = A at hD hZ ⊢
  have hA : ∀ q : Nat, s.heap.size ≤ q → A q := fun q h => by rw [← hAe]; exact Or.inr h
  have hS : va_S A s.heap s.heap [] := va_S.rf
  have hl := lv_entry ([.ref (adK 8)]) (n := 1) (Nat.le_of_ble_eq_true rfl)
  rw [lg_entry_eq]
  generalize (lg_sl ([.ref (adK 8)]) ++ List.replicate (1 - (lg_sl ([.ref (adK 8)])).length) Slot.unset).toArray = ls at hl ⊢
  have hl : lv_has ls 1 [(0, .ref (adK 8))] := hl
  have b_ := zk_3
  refine lv_aload_n hx hb dJ0_length_8abf5_0 rfl (lv_at hl 0 rfl) ?_
  refine vk_getf hx hb (hZ.2.2.2.1.1 8 (by decide)).2.2.1 hS hown (hG _ zw23) (fun _ h => h) dJ0_length_8abf5_1 ?_
  refine va_tlen (v := 3) hx hb (hZ.2.2.2.1.1 8 (by decide)).2.2.2 hS (by decide) dJ0_length_8abf5_4 ?_
  refine lv_aload_n hx hb dJ0_length_8abf5_5 rfl (lv_at hl 0 rfl) ?_
  have hPc := hP.sub (ws' := []) [] rfl
  have hDc := hD.sub (ws' := []) [] (by decide) rfl
  have hKc := hK.sub (tys' := []) [] rfl
  have hFc := va_free (wc := []) hD hS hA [] rfl
  refine va_calli (va_runV (As := []) (rest := [.int 3]) ⟨hx, hb, hml, hown, hG⟩ (sJ0_coder_7d493_8 l dC dI adK adV s.heap.size) (cwV 0 hG (zgV zw26 zw27 zw28 zw29 zw30) rfl rfl rfl (by decide +kernel) ⟨Nat.le_of_ble_eq_true rfl, Nat.le_of_ble_eq_true rfl⟩) ⟨zPc_blind, vk_recv hZ.2.2.2.1 (i := 8) (by decide) hS, zPc_pre hPc hKc hDc hE hS hFc hZ⟩ rfl rfl hl.1 rfl (lv_room (Nat.le_of_ble_eq_true rfl)) dJ0_length_8abf5_6 ⟨Nat.le_of_ble_eq_true rfl, Nat.le_of_ble_eq_true rfl⟩) hS (fun q _ h => hFc q h) hFc (fun r6_ u6_ t H1 locs ht hvm hw hB hz1 hk1 hS => ?_)
  have hw : (0 ≤ r6_.toInt ∧ r6_.toInt ≤ 0) := hw
  have b_ := hw
  obtain rfl : r6_ = (0 : Int32) := zeqi.mpr ((show r6_.toInt = 0 from by omega).trans zk_0.symm)
  obtain ⟨w6_, a6_, b6_, hP1, hK1, hD1⟩ := hB
  rw [ht] at hP1
  obtain ⟨hP, hD⟩ := va_join (wr := []) (w1 := []) hP hD [] [] rfl rfl (by decide) (by decide) hk1 hFc hP1 hD1
  have hP : va_P (dC, dI) vwCl [] H1 := hP.sub [] rfl
  have hD : va_D A [] := hD.sub [] (by decide) rfl
  generalize H1 = H at hP hS ⊢
  clear hz1
  refine lv_ishr hx hb dJ0_length_8abf5_9 ?_
  refine lv_topi (fun z9 e_z9 => ?_)
  obtain rfl : z9 = (3 : Int32) := e_z9.trans (by decide)
  refine W.widen (k := 0) (n := 0) (by decide) (by decide) ?_
  have hpost : (3 ≤ (3 : Int32).toInt ∧ (3 : Int32).toInt ≤ 3) := ⟨by omega, by omega⟩
  have hP9 : va_P (dC, dI) vwCl [] H := hP
  have hD9 : va_D A [] := hD
  exact W.iret (v := 3) hx hb hr (fun t ht hW => ⟨⟨3, (fun _ => 0), rfl, hpost, (fun _ => 0), (fun _ => (fun _ => 0)), (fun _ => (fun _ => 0)), by rw [ht]; exact hP9, va_K.moved hW.alike hK, hD9⟩, hS.F ht⟩) hS.2.2 dJ0_length_8abf5_10
set_option maxHeartbeats 8000000 in
set_option maxRecDepth 100000 in
theorem sJ0_isLatin1_aae02_8 (l : Launch) (dC : Nat → ClassId) (dI : Nat → Nat → Nat) (adK adV : Nat → Nat) (sz : Nat) : Met l yJ0_isLatin1_aae02 (zw yJ0_isLatin1_aae02 cJ0_isLatin1_aae02 1 (some .boolean)) { frames := 0, cells := 0, slots := 0, locals := 0 } (zPc dC dI adK adV [.ref (adK 8)] sz [] []) (va_Qi (fun (r : Int32) (u : Nat → Int32) => (1 ≤ r.toInt ∧ r.toInt ≤ 1)) (fun (u : Nat → Int32) (t : State) => ∃ (ww : Nat → Int64) (aa : Nat → Nat → Int32) (bb : Nat → Nat → Int64), va_P (dC, dI) vwCl [] t.heap ∧ va_K (dC, dI) vwCl [] t ∧ va_D (va_A [] sz) []) (va_A [] sz)) 0 0 (va_A [] sz) := by
  refine Met.ofW (cc := cJ0_isLatin1_aae02) (maxL := 1) (ret := (some .boolean)) (by decide) rfl ?_
  intro p e s m args below meth c s₁ B hml hv
  obtain ⟨rfl, hsz, hP, hK, hD0, hE, hZ⟩ := hv
  have hx := B.exec
  have hb := B.bytes
  have hr := B.returns
  have hG : ∀ w ∈ zG, w.before _ s = true := fun w h => atoms_spec (ws := (zw yJ0_isLatin1_aae02 cJ0_isLatin1_aae02 1 (some .boolean))) B.pre w (List.mem_cons_of_mem _ h)
  have hown : s.vm.findClass RJ0 = some m.cls := findClass_of_methodNamed B.named
  have hlocks := B.notSynchronized

  subst hsz
  have hD := hD0.self (sz := s.heap.size)
  generalize hAe : va_A [] s.heap.size = A at hD hZ ⊢
  have hA : ∀ q : Nat, s.heap.size ≤ q → A q := fun q h => by rw [← hAe]; exact Or.inr h
  have hS : va_S A s.heap s.heap [] := va_S.rf
  have hl := lv_entry ([.ref (adK 8)]) (n := 1) (Nat.le_of_ble_eq_true rfl)
  rw [lg_entry_eq]
  generalize (lg_sl ([.ref (adK 8)]) ++ List.replicate (1 - (lg_sl ([.ref (adK 8)])).length) Slot.unset).toArray = ls at hl ⊢
  have hl : lv_has ls 1 [(0, .ref (adK 8))] := hl
  have b_ := zk_1
  refine va_gets hx hb hZ.2.2.1 hS hown (hG _ zw24) (fun _ h => h) dJ0_isLatin1_aae02_0 ?_
  refine lv_if_eq (tgt := 17) hx hb dJ0_isLatin1_aae02_3 (by decide) (fun c_ => absurd c_ (by decide)) (fun c_ => ?_)
  refine lv_aload_n hx hb dJ0_isLatin1_aae02_6 rfl (lv_at hl 0 rfl) ?_
  refine vk_getf hx hb (hZ.2.2.2.1.1 8 (by decide)).2.1 hS hown (hG _ zw25) (fun _ h => h) dJ0_isLatin1_aae02_7 ?_
  refine lv_if_ne (tgt := 17) hx hb dJ0_isLatin1_aae02_10 (by decide) (fun c_ => absurd c_ (by decide)) (fun c_ => ?_)
  refine lv_iconst (v := 1) hx hb dJ0_isLatin1_aae02_13 (by decide) ?_
  refine lv_goto (tgt := 18) hx hb dJ0_isLatin1_aae02_14 (by decide) ?_
  refine W.widen (k := 0) (n := 0) (by decide) (by decide) ?_
  have hpost : (1 ≤ (1 : Int32).toInt ∧ (1 : Int32).toInt ≤ 1) := ⟨by omega, by omega⟩
  have hP9 : va_P (dC, dI) vwCl [] s.heap := hP
  have hD9 : va_D A [] := hD
  exact W.zret (v := 1) hx hb hr rfl (fun t ht hW => ⟨⟨1, (fun _ => 0), rfl, hpost, (fun _ => 0), (fun _ => (fun _ => 0)), (fun _ => (fun _ => 0)), by rw [ht]; exact hP9, va_K.moved hW.alike hK, hD9⟩, hS.F ht⟩) hS.2.2 dJ0_isLatin1_aae02_18
set_option maxHeartbeats 8000000 in
set_option maxRecDepth 100000 in
theorem sJ1_charAt_3b067_8 (l : Launch) (dC : Nat → ClassId) (dI : Nat → Nat → Nat) (adK adV : Nat → Nat) (sz : Nat) (x1 : Int32) (hx1 : 0 ≤ x1.toInt ∧ x1.toInt ≤ 2) : Met l yJ1_charAt_3b067 (zw yJ1_charAt_3b067 cJ1_charAt_3b067 2 (some .char)) { frames := 2, cells := 0, slots := 0, locals := 43 } (zPc dC dI adK adV [.ref (adV 8), .int x1] sz [] []) (va_Qi (fun (r : Int32) (u : Nat → Int32) => (0 ≤ r.toInt ∧ r.toInt ≤ 255)) (fun (u : Nat → Int32) (t : State) => ∃ (ww : Nat → Int64) (aa : Nat → Nat → Int32) (bb : Nat → Nat → Int64), va_P (dC, dI) vwCl [] t.heap ∧ va_K (dC, dI) vwCl [] t ∧ va_D (va_A [] sz) []) (va_A [] sz)) 0 0 (va_A [] sz) := by
  refine Met.ofW (cc := cJ1_charAt_3b067) (maxL := 2) (ret := (some .char)) (by decide) rfl ?_
  intro p e s m args below meth c s₁ B hml hv
  obtain ⟨rfl, hsz, hP, hK, hD0, hE, hZ⟩ := hv
  have hx := B.exec
  have hb := B.bytes
  have hr := B.returns
  have hG : ∀ w ∈ zG, w.before _ s = true := fun w h => atoms_spec (ws := (zw yJ1_charAt_3b067 cJ1_charAt_3b067 2 (some .char))) B.pre w (List.mem_cons_of_mem _ h)
  have hown : s.vm.findClass RJ1 = some m.cls := findClass_of_methodNamed B.named
  have hlocks := B.notSynchronized

  subst hsz
  have hD := hD0.self (sz := s.heap.size)
  generalize hAe : va_A [] s.heap.size = A at hD hZ ⊢
  have hA : ∀ q : Nat, s.heap.size ≤ q → A q := fun q h => by rw [← hAe]; exact Or.inr h
  have hS : va_S A s.heap s.heap [] := va_S.rf
  have hl := lv_entry ([.ref (adV 8), .int x1]) (n := 2) (Nat.le_of_ble_eq_true rfl)
  rw [lg_entry_eq]
  generalize (lg_sl ([.ref (adV 8), .int x1]) ++ List.replicate (2 - (lg_sl ([.ref (adV 8), .int x1])).length) Slot.unset).toArray = ls at hl ⊢
  have hl : lv_has ls 2 [(0, .ref (adV 8)), (1, .int x1)] := hl
  have b_ := zk_3
  refine lv_iload_n hx hb dJ1_charAt_3b067_0 rfl (lv_at hl 1 rfl) ?_
  refine lv_aload_n hx hb dJ1_charAt_3b067_1 rfl (lv_at hl 0 rfl) ?_
  refine va_tlen (v := 3) hx hb (hZ.2.2.2.1.1 8 (by decide)).2.2.2 hS (by decide) dJ1_charAt_3b067_2 ?_
  have hPc := hP.sub (ws' := []) [] rfl
  have hDc := hD.sub (ws' := []) [] (by decide) rfl
  have hKc := hK.sub (tys' := []) [] rfl
  have hFc := va_free (wc := []) hD hS hA [] rfl
  refine va_callv (va_runS (As := [.int x1, .int 3]) (rest := []) ⟨hx, hb, hml, hown, hG⟩ (sJ0_checkIndex_df160_0 l dC dI adK adV s.heap.size x1 3 ⟨show (0 : Int) ≤ (x1 : Int32).toInt from by omega, show (x1 : Int32).toInt ≤ (4 : Int) from by omega⟩ ⟨show (1 : Int) ≤ (3 : Int32).toInt from by decide, show (3 : Int32).toInt ≤ (5 : Int) from by decide⟩ (show x1.toInt < (3 : Int32).toInt from by omega)) (va_cwS 2 hG (zgS zw36 zw37 zw29 zw38) rfl rfl rfl (by decide +kernel) ⟨Nat.le_of_ble_eq_true rfl, Nat.le_of_ble_eq_true rfl⟩) ⟨zPc_blind, zPc_pre hPc hKc hDc hE hS hFc hZ⟩ rfl rfl hl.1 rfl (lv_room (Nat.le_of_ble_eq_true rfl)) dJ1_charAt_3b067_3 ⟨Nat.le_of_ble_eq_true rfl, Nat.le_of_ble_eq_true rfl⟩) hS (fun q _ h => hFc q h) hFc (fun u3_ t H1 locs ht hvm hw hB hz1 hk1 hS => ?_)
  obtain ⟨w3_, a3_, b3_, hP1, hK1, hD1⟩ := hB
  rw [ht] at hP1
  obtain ⟨hP, hD⟩ := va_join (wr := []) (w1 := []) hP hD [] [] rfl rfl (by decide) (by decide) hk1 hFc hP1 hD1
  have hP : va_P (dC, dI) vwCl [] H1 := hP.sub [] rfl
  have hD : va_D A [] := hD.sub [] (by decide) rfl
  generalize H1 = H at hP hS ⊢
  clear hz1
  refine lv_aload_n hx hb dJ1_charAt_3b067_6 rfl (lv_at hl 0 rfl) ?_
  refine lv_iload_n hx hb dJ1_charAt_3b067_7 rfl (lv_at hl 1 rfl) ?_
  refine va_tb (N := 3) hx hb (hZ.2.2.2.1.1 8 (by decide)).2.2.2 hS (zin_lit (n := 3) ⟨by omega, by omega⟩) rfl dJ1_charAt_3b067_8 ?_
  refine lv_topi (fun z8 e_z8 => ?_)
  refine lv_sipush (v := 255) hx hb dJ1_charAt_3b067_9 (by decide) ?_
  have b_ : -2147483648 ≤ z8.toInt ∧ z8.toInt ≤ 2147483647 := ⟨zlo _, zhi _⟩
  refine lv_iand hx hb dJ1_charAt_3b067_12 ?_
  refine lv_topi (fun z12 e_z12 => ?_)
  have b_ := zand (x := z8) zk_255 e_z12 (by decide)
  refine lv_i2c hx hb dJ1_charAt_3b067_13 rfl ?_
  refine lv_topi (fun z13 e_z13 => ?_)
  have b_ := zi2c rfl e_z13 (by omega) (by omega)
  refine W.widen (k := 0) (n := 0) (by decide) (by decide) ?_
  have hpost : (0 ≤ z13.toInt ∧ z13.toInt ≤ 255) := ⟨by omega, by omega⟩
  have hP9 : va_P (dC, dI) vwCl [] H := hP
  have hD9 : va_D A [] := hD
  exact W.zret (v := z13) hx hb hr (zn_char ⟨by omega, by omega⟩) (fun t ht hW => ⟨⟨z13, (fun _ => 0), rfl, hpost, (fun _ => 0), (fun _ => (fun _ => 0)), (fun _ => (fun _ => 0)), by rw [ht]; exact hP9, va_K.moved hW.alike hK, hD9⟩, hS.F ht⟩) hS.2.2 dJ1_charAt_3b067_14
set_option maxHeartbeats 8000000 in
set_option maxRecDepth 100000 in
theorem sJ0_charAt_5068e_8 (l : Launch) (dC : Nat → ClassId) (dI : Nat → Nat → Nat) (adK adV : Nat → Nat) (sz : Nat) (x1 : Int32) (hx1 : 0 ≤ x1.toInt ∧ x1.toInt ≤ 2) : Met l yJ0_charAt_5068e (zw yJ0_charAt_5068e cJ0_charAt_5068e 2 (some .char)) { frames := 3, cells := 0, slots := 0, locals := 64 } (zPc dC dI adK adV [.ref (adK 8), .int x1] sz [] []) (va_Qi (fun (r : Int32) (u : Nat → Int32) => (0 ≤ r.toInt ∧ r.toInt ≤ 255)) (fun (u : Nat → Int32) (t : State) => ∃ (ww : Nat → Int64) (aa : Nat → Nat → Int32) (bb : Nat → Nat → Int64), va_P (dC, dI) vwCl [] t.heap ∧ va_K (dC, dI) vwCl [] t ∧ va_D (va_A [] sz) []) (va_A [] sz)) 0 0 (va_A [] sz) := by
  refine Met.ofW (cc := cJ0_charAt_5068e) (maxL := 2) (ret := (some .char)) (by decide) rfl ?_
  intro p e s m args below meth c s₁ B hml hv
  obtain ⟨rfl, hsz, hP, hK, hD0, hE, hZ⟩ := hv
  have hx := B.exec
  have hb := B.bytes
  have hr := B.returns
  have hG : ∀ w ∈ zG, w.before _ s = true := fun w h => atoms_spec (ws := (zw yJ0_charAt_5068e cJ0_charAt_5068e 2 (some .char))) B.pre w (List.mem_cons_of_mem _ h)
  have hown : s.vm.findClass RJ0 = some m.cls := findClass_of_methodNamed B.named
  have hlocks := B.notSynchronized

  subst hsz
  have hD := hD0.self (sz := s.heap.size)
  generalize hAe : va_A [] s.heap.size = A at hD hZ ⊢
  have hA : ∀ q : Nat, s.heap.size ≤ q → A q := fun q h => by rw [← hAe]; exact Or.inr h
  have hS : va_S A s.heap s.heap [] := va_S.rf
  have hl := lv_entry ([.ref (adK 8), .int x1]) (n := 2) (Nat.le_of_ble_eq_true rfl)
  rw [lg_entry_eq]
  generalize (lg_sl ([.ref (adK 8), .int x1]) ++ List.replicate (2 - (lg_sl ([.ref (adK 8), .int x1])).length) Slot.unset).toArray = ls at hl ⊢
  have hl : lv_has ls 2 [(0, .ref (adK 8)), (1, .int x1)] := hl
  refine lv_aload_n hx hb dJ0_charAt_5068e_0 rfl (lv_at hl 0 rfl) ?_
  have hPc := hP.sub (ws' := []) [] rfl
  have hDc := hD.sub (ws' := []) [] (by decide) rfl
  have hKc := hK.sub (tys' := []) [] rfl
  have hFc := va_free (wc := []) hD hS hA [] rfl
  refine va_calli (va_runV (As := []) (rest := []) ⟨hx, hb, hml, hown, hG⟩ (sJ0_isLatin1_aae02_8 l dC dI adK adV s.heap.size) (cwV 0 hG (zgV zw39 zw40 zw41 zw29 zw42) rfl rfl rfl (by decide +kernel) ⟨Nat.le_of_ble_eq_true rfl, Nat.le_of_ble_eq_true rfl⟩) ⟨zPc_blind, vk_recv hZ.2.2.2.1 (i := 8) (by decide) hS, zPc_pre hPc hKc hDc hE hS hFc hZ⟩ rfl rfl hl.1 rfl (lv_room (Nat.le_of_ble_eq_true rfl)) dJ0_charAt_5068e_1 ⟨Nat.le_of_ble_eq_true rfl, Nat.le_of_ble_eq_true rfl⟩) hS (fun q _ h => hFc q h) hFc (fun r1_ u1_ t H1 locs ht hvm hw hB hz1 hk1 hS => ?_)
  have hw : (1 ≤ r1_.toInt ∧ r1_.toInt ≤ 1) := hw
  have b_ := hw
  obtain rfl : r1_ = (1 : Int32) := zeqi.mpr ((show r1_.toInt = 1 from by omega).trans zk_1.symm)
  obtain ⟨w1_, a1_, b1_, hP1, hK1, hD1⟩ := hB
  rw [ht] at hP1
  obtain ⟨hP, hD⟩ := va_join (wr := []) (w1 := []) hP hD [] [] rfl rfl (by decide) (by decide) hk1 hFc hP1 hD1
  have hP : va_P (dC, dI) vwCl [] H1 := hP.sub [] rfl
  have hD : va_D A [] := hD.sub [] (by decide) rfl
  generalize H1 = H at hP hS ⊢
  clear hz1
  refine lv_if_eq (tgt := 16) hx hb dJ0_charAt_5068e_4 (by decide) (fun c_ => absurd c_ (by decide)) (fun c_ => ?_)
  refine lv_aload_n hx hb dJ0_charAt_5068e_7 rfl (lv_at hl 0 rfl) ?_
  refine vk_getf hx hb (hZ.2.2.2.1.1 8 (by decide)).2.2.1 hS hown (hG _ zw23) (fun _ h => h) dJ0_charAt_5068e_8 ?_
  refine lv_iload_n hx hb dJ0_charAt_5068e_11 rfl (lv_at hl 1 rfl) ?_
  have hPc := hP.sub (ws' := []) [] rfl
  have hDc := hD.sub (ws' := []) [] (by decide) rfl
  have hKc := hK.sub (tys' := []) [] rfl
  have hFc := va_free (wc := []) hD hS hA [] rfl
  refine va_calli (va_runS (As := [.ref (adV 8), .int x1]) (rest := []) ⟨hx, hb, hml, hown, hG⟩ (sJ1_charAt_3b067_8 l dC dI adK adV H.size x1 ⟨show (0 : Int) ≤ (x1 : Int32).toInt from by omega, show (x1 : Int32).toInt ≤ (2 : Int) from by omega⟩) (va_cwS 2 hG (zgS zw43 zw44 zw45 zw46) rfl rfl rfl (by decide +kernel) ⟨Nat.le_of_ble_eq_true rfl, Nat.le_of_ble_eq_true rfl⟩) ⟨zPc_blind, zPc_pre hPc hKc hDc hE hS hFc hZ⟩ rfl rfl hl.1 rfl (lv_room (Nat.le_of_ble_eq_true rfl)) dJ0_charAt_5068e_12 ⟨Nat.le_of_ble_eq_true rfl, Nat.le_of_ble_eq_true rfl⟩) hS (fun q _ h => hFc q h) hFc (fun r12_ u12_ t H1 locs ht hvm hw hB hz1 hk1 hS => ?_)
  have hw : (0 ≤ r12_.toInt ∧ r12_.toInt ≤ 255) := hw
  have b_ := hw
  obtain ⟨w12_, a12_, b12_, hP1, hK1, hD1⟩ := hB
  rw [ht] at hP1
  obtain ⟨hP, hD⟩ := va_join (wr := []) (w1 := []) hP hD [] [] rfl rfl (by decide) (by decide) hk1 hFc hP1 hD1
  have hP : va_P (dC, dI) vwCl [] H1 := hP.sub [] rfl
  have hD : va_D A [] := hD.sub [] (by decide) rfl
  generalize H1 = H at hP hS ⊢
  clear hz1
  refine W.widen (k := 0) (n := 0) (by decide) (by decide) ?_
  have hpost : (0 ≤ r12_.toInt ∧ r12_.toInt ≤ 255) := ⟨by omega, by omega⟩
  have hP9 : va_P (dC, dI) vwCl [] H := hP
  have hD9 : va_D A [] := hD
  exact W.zret (v := r12_) hx hb hr (zn_char ⟨by omega, by omega⟩) (fun t ht hW => ⟨⟨r12_, (fun _ => 0), rfl, hpost, (fun _ => 0), (fun _ => (fun _ => 0)), (fun _ => (fun _ => 0)), by rw [ht]; exact hP9, va_K.moved hW.alike hK, hD9⟩, hS.F ht⟩) hS.2.2 dJ0_charAt_5068e_15
set_option maxHeartbeats 8000000 in
set_option maxRecDepth 100000 in
theorem sX9_spells_1 (l : Launch) (dC : Nat → ClassId) (dI : Nat → Nat → Nat) (adK adV : Nat → Nat) (h0 : Nat) (h1 : Nat) (h2 : Nat) (k1 : ClassId) (sz : Nat) (v0 : Nat → Int32) (f1 : Nat → Int32) (x1 : Int32) (x2 : Int32) (hv0 : zR rg_Tape v0) (hx1 : 0 ≤ x1.toInt ∧ x1.toInt ≤ 600) (hx2 : 0 ≤ x2.toInt ∧ x2.toInt ≤ 601) : Met l yX9_spells (zw yX9_spells cX9_spells 5 (some .boolean)) { frames := 4, cells := 0, slots := 0, locals := 85 } (zPc dC dI adK adV [.ref h0, .int x1, .int x2, .ref (adK 8)] sz [(h0, .inr (9, mX9 h1 h2 v0)), (h1, .inl (k1, 600, .inl f1))] [(k1, .byte)]) (va_Qi (fun (r : Int32) (u : Nat → Int32) => (0 ≤ r.toInt ∧ r.toInt ≤ 1)) (fun (u : Nat → Int32) (t : State) => ∃ (ww : Nat → Int64) (aa : Nat → Nat → Int32) (bb : Nat → Nat → Int64), va_P (dC, dI) vwCl [(h0, .inr (9, mX9 h1 h2 v0)), (h1, .inl (k1, 600, .inl f1))] t.heap ∧ va_K (dC, dI) vwCl [(k1, .byte)] t ∧ va_D (va_A [(h0, .inr (9, mX9 h1 h2 v0)), (h1, .inl (k1, 600, .inl f1))] sz) [(h0, .inr (9, mX9 h1 h2 v0)), (h1, .inl (k1, 600, .inl f1))]) (va_A [(h0, .inr (9, mX9 h1 h2 v0)), (h1, .inl (k1, 600, .inl f1))] sz)) 0 0 (va_A [(h0, .inr (9, mX9 h1 h2 v0)), (h1, .inl (k1, 600, .inl f1))] sz) := by
  refine Met.ofW (cc := cX9_spells) (maxL := 5) (ret := (some .boolean)) (by decide) rfl ?_
  intro p e s m args below meth c s₁ B hml hv
  obtain ⟨rfl, hsz, hP, hK, hD0, hE, hZ⟩ := hv
  have hx := B.exec
  have hb := B.bytes
  have hr := B.returns
  have hG : ∀ w ∈ zG, w.before _ s = true := fun w h => atoms_spec (ws := (zw yX9_spells cX9_spells 5 (some .boolean))) B.pre w (List.mem_cons_of_mem _ h)
  have hown : s.vm.findClass RX9 = some m.cls := findClass_of_methodNamed B.named
  have hlocks := B.notSynchronized

  subst hsz
  have hD := hD0.self (sz := s.heap.size)
  generalize hAe : va_A [(h0, .inr (9, mX9 h1 h2 v0)), (h1, .inl (k1, 600, .inl f1))] s.heap.size = A at hD hZ ⊢
  have hA : ∀ q : Nat, s.heap.size ≤ q → A q := fun q h => by rw [← hAe]; exact Or.inr h
  have hS : va_S A s.heap s.heap [] := va_S.rf
  have hl := lv_entry ([.ref h0, .int x1, .int x2, .ref (adK 8)]) (n := 5) (Nat.le_of_ble_eq_true rfl)
  rw [lg_entry_eq]
  generalize (lg_sl ([.ref h0, .int x1, .int x2, .ref (adK 8)]) ++ List.replicate (5 - (lg_sl ([.ref h0, .int x1, .int x2, .ref (adK 8)])).length) Slot.unset).toArray = ls at hl ⊢
  have hl : lv_has ls 5 [(0, .ref h0), (1, .int x1), (2, .int x2), (3, .ref (adK 8))] := hl
  have b_ := zk_0
  have b_ := zk_1
  refine lv_iload_n hx hb dX9_spells_0 rfl (lv_at hl 2 rfl) ?_
  refine lv_iload_n hx hb dX9_spells_1 rfl (lv_at hl 1 rfl) ?_
  refine lv_isub hx hb dX9_spells_2 ?_
  refine lv_topi (fun z2 e_z2 => ?_)
  have b_ := zsub rfl rfl e_z2 (by omega) (by omega)
  refine lv_aload_n hx hb dX9_spells_3 rfl (lv_at hl 3 rfl) ?_
  have hPc := hP.sub (ws' := []) [] rfl
  have hDc := hD.sub (ws' := []) [] (by decide) rfl
  have hKc := hK.sub (tys' := []) [] rfl
  have hFc := va_free (wc := []) hD hS hA [] rfl
  refine va_calli (va_runV (As := []) (rest := [.int z2]) ⟨hx, hb, hml, hown, hG⟩ (sJ0_length_8abf5_8 l dC dI adK adV s.heap.size) (cwV 0 hG (zgV zw47 zw48 zw49 zw29 zw50) rfl rfl rfl (by decide +kernel) ⟨Nat.le_of_ble_eq_true rfl, Nat.le_of_ble_eq_true rfl⟩) ⟨zPc_blind, vk_recv hZ.2.2.2.1 (i := 8) (by decide) hS, zPc_pre hPc hKc hDc hE hS hFc hZ⟩ rfl rfl hl.1 rfl (lv_room (Nat.le_of_ble_eq_true rfl)) dX9_spells_4 ⟨Nat.le_of_ble_eq_true rfl, Nat.le_of_ble_eq_true rfl⟩) hS (fun q _ h => hFc q h) hFc (fun r4_ u4_ t H1 locs ht hvm hw hB hz1 hk1 hS => ?_)
  have hw : (3 ≤ r4_.toInt ∧ r4_.toInt ≤ 3) := hw
  have b_ := hw
  obtain rfl : r4_ = (3 : Int32) := zeqi.mpr ((show r4_.toInt = 3 from by omega).trans zk_3.symm)
  obtain ⟨w4_, a4_, b4_, hP1, hK1, hD1⟩ := hB
  rw [ht] at hP1
  obtain ⟨hP, hD⟩ := va_join (wr := [(h0, .inr (9, mX9 h1 h2 v0)), (h1, .inl (k1, 600, .inl f1))]) (w1 := []) hP hD [] [0, 1] rfl rfl (by decide) (by decide) hk1 hFc hP1 hD1
  have hP : va_P (dC, dI) vwCl [(h0, .inr (9, mX9 h1 h2 v0)), (h1, .inl (k1, 600, .inl f1))] H1 := hP.sub [0, 1] rfl
  have hD : va_D A [(h0, .inr (9, mX9 h1 h2 v0)), (h1, .inl (k1, 600, .inl f1))] := hD.sub [0, 1] (by decide) rfl
  generalize H1 = H at hP hS ⊢
  clear hz1
  refine lv_icmp_ne (tgt := 22) hx hb dX9_spells_7 (by decide) (fun c_ => ?_) (fun c_ => ?_)
  · skip
    have b_ := zT_ne rfl zk_3 c_
    refine lv_iconst (v := 0) hx hb dX9_spells_22 (by decide) ?_
    refine W.widen (k := 0) (n := 0) (by decide) (by decide) ?_
    have hpost : (0 ≤ (0 : Int32).toInt ∧ (0 : Int32).toInt ≤ 1) := ⟨by omega, by omega⟩
    have hP9 : va_P (dC, dI) vwCl [(h0, .inr (9, mX9 h1 h2 v0)), (h1, .inl (k1, 600, .inl f1))] H := hP
    have hD9 : va_D A [(h0, .inr (9, mX9 h1 h2 v0)), (h1, .inl (k1, 600, .inl f1))] := hD
    exact W.zret (v := 0) hx hb hr rfl (fun t ht hW => ⟨⟨0, (fun _ => 0), rfl, hpost, (fun _ => 0), (fun _ => (fun _ => 0)), (fun _ => (fun _ => 0)), by rw [ht]; exact hP9, va_K.moved hW.alike hK, hD9⟩, hS.F ht⟩) hS.2.2 dX9_spells_23
  · skip
    have b_ := zF_ne rfl zk_3 c_
    refine lv_iload_n hx hb dX9_spells_10 rfl (lv_at hl 1 rfl) ?_
    refine lv_if_lt (tgt := 22) hx hb dX9_spells_11 (by decide) (fun c_ => False.elim (by have b_ := zT_lt rfl zk_0 c_; omega)) (fun c_ => ?_)
    have b_ := zF_lt rfl zk_0 c_
    refine lv_iload_n hx hb dX9_spells_14 rfl (lv_at hl 2 rfl) ?_
    refine lv_aload_n hx hb dX9_spells_15 rfl (lv_at hl 0 rfl) ?_
    have b_ : 0 ≤ (v0 2).toInt ∧ (v0 2).toInt ≤ 600 := hv0 2
    refine va_get (D := (dC, dI)) (ci := 9) (v := .int (v0 2)) (C := RX9) (T := TX9) (N := 4) hx hb hG zuX9 hown hK hP 0 rfl rfl 2 (by decide) (hG _ zw0) (fun _ h9 => h9) rfl dX9_spells_16 ?_
    refine lv_icmp_le (tgt := 24) hx hb dX9_spells_19 (by decide) (fun c_ => ?_) (fun c_ => ?_)
    · skip
      have b_ := zT_le rfl rfl c_
      refine lv_iconst (v := 0) hx hb dX9_spells_24 (by decide) ?_
      refine lv_istore (lv' := [(4, .int 0), (0, .ref h0), (1, .int x1), (2, .int x2), (3, .ref (adK 8))]) hx hb dX9_spells_25 hl (by decide) rfl (fun ls hl => ?_)
      refine zcutL (fun u27_ => (3 - (u27_ 0).toInt).toNat) (fun H locs ls u27_ w27_ a27_ b27_ => va_P (dC, dI) vwCl [(h0, .inr (9, mX9 h1 h2 v0)), (h1, .inl (k1, 600, .inl f1))] H ∧ va_D A [(h0, .inr (9, mX9 h1 h2 v0)), (h1, .inl (k1, 600, .inl f1))] ∧ va_S A s.heap H locs ∧ lv_has ls 5 [(0, .ref h0), (1, .int x1), (2, .int x2), (3, .ref (adK 8)), (4, .int (u27_ 0))] ∧ (0 ≤ (u27_ 0).toInt ∧ (u27_ 0).toInt ≤ 3)) (fun ls u27_ w27_ => F0 m 27 ls []) 0 0 ?_ (fun hJ27 => ?_)
      · skip
        intro H locs ls u27_ w27_ a27_ b27_ hc hJ27
        obtain ⟨hP, hD, hS, hl, b_⟩ := hc
        refine lv_iload hx hb dX9_spells_27 (lv_at hl 4 rfl) ?_
        refine lv_aload_n hx hb dX9_spells_29 rfl (lv_at hl 3 rfl) ?_
        have hPc := hP.sub (ws' := []) [] rfl
        have hDc := hD.sub (ws' := []) [] (by decide) rfl
        have hKc := hK.sub (tys' := []) [] rfl
        have hFc := va_free (wc := []) hD hS hA [] rfl
        refine va_calli (va_runV (As := []) (rest := [.int (u27_ 0)]) ⟨hx, hb, hml, hown, hG⟩ (sJ0_length_8abf5_8 l dC dI adK adV H.size) (cwV 0 hG (zgV zw47 zw48 zw49 zw29 zw50) rfl rfl rfl (by decide +kernel) ⟨Nat.le_of_ble_eq_true rfl, Nat.le_of_ble_eq_true rfl⟩) ⟨zPc_blind, vk_recv hZ.2.2.2.1 (i := 8) (by decide) hS, zPc_pre hPc hKc hDc hE hS hFc hZ⟩ rfl rfl hl.1 rfl (lv_room (Nat.le_of_ble_eq_true rfl)) dX9_spells_30 ⟨Nat.le_of_ble_eq_true rfl, Nat.le_of_ble_eq_true rfl⟩) hS (fun q _ h => hFc q h) hFc (fun r30_ u30_ t H1 locs ht hvm hw hB hz1 hk1 hS => ?_)
        have hw : (3 ≤ r30_.toInt ∧ r30_.toInt ≤ 3) := hw
        have b_ := hw
        obtain rfl : r30_ = (3 : Int32) := zeqi.mpr ((show r30_.toInt = 3 from by omega).trans zk_3.symm)
        obtain ⟨w30_, a30_, b30_, hP1, hK1, hD1⟩ := hB
        rw [ht] at hP1
        obtain ⟨hP, hD⟩ := va_join (wr := [(h0, .inr (9, mX9 h1 h2 v0)), (h1, .inl (k1, 600, .inl f1))]) (w1 := []) hP hD [] [0, 1] rfl rfl (by decide) (by decide) hk1 hFc hP1 hD1
        have hP : va_P (dC, dI) vwCl [(h0, .inr (9, mX9 h1 h2 v0)), (h1, .inl (k1, 600, .inl f1))] H1 := hP.sub [0, 1] rfl
        have hD : va_D A [(h0, .inr (9, mX9 h1 h2 v0)), (h1, .inl (k1, 600, .inl f1))] := hD.sub [0, 1] (by decide) rfl
        generalize H1 = H at hP hS ⊢
        clear hz1
        refine lv_icmp_ge (tgt := 65) hx hb dX9_spells_33 (by decide) (fun c_ => ?_) (fun c_ => ?_)
        · skip
          have b_ := zT_ge rfl zk_3 c_
          refine lv_iconst (v := 1) hx hb dX9_spells_65 (by decide) ?_
          refine W.widen (k := 0) (n := 0) (by decide) (by decide) ?_
          have hpost : (0 ≤ (1 : Int32).toInt ∧ (1 : Int32).toInt ≤ 1) := ⟨by omega, by omega⟩
          have hP9 : va_P (dC, dI) vwCl [(h0, .inr (9, mX9 h1 h2 v0)), (h1, .inl (k1, 600, .inl f1))] H := hP
          have hD9 : va_D A [(h0, .inr (9, mX9 h1 h2 v0)), (h1, .inl (k1, 600, .inl f1))] := hD
          exact W.zret (v := 1) hx hb hr rfl (fun t ht hW => ⟨⟨1, (fun _ => 0), rfl, hpost, (fun _ => 0), (fun _ => (fun _ => 0)), (fun _ => (fun _ => 0)), by rw [ht]; exact hP9, va_K.moved hW.alike hK, hD9⟩, hS.F ht⟩) hS.2.2 dX9_spells_66
        · skip
          have b_ := zF_ge rfl zk_3 c_
          refine lv_aload_n hx hb dX9_spells_36 rfl (lv_at hl 0 rfl) ?_
          refine va_get (D := (dC, dI)) (ci := 9) (v := .ref h1) (C := RX9) (T := TX9) (N := 4) hx hb hG zuX9 hown hK hP 0 rfl rfl 0 (by decide) (hG _ zw1) (fun _ h9 => h9) rfl dX9_spells_37 ?_
          refine lv_iload_n hx hb dX9_spells_40 rfl (lv_at hl 1 rfl) ?_
          refine lv_iload hx hb dX9_spells_41 (lv_at hl 4 rfl) ?_
          refine lv_iadd hx hb dX9_spells_43 ?_
          refine lv_topi (fun z43 e_z43 => ?_)
          have b_ := zadd rfl rfl e_z43 (by omega) (by omega)
          refine va_bald hx hb hK hP 1 0 rfl rfl (zin_lit ⟨by omega, by omega⟩) dX9_spells_44 ?_
          refine lv_topi (fun z44 e_z44 => ?_)
          refine lv_bipush (v := 32) hx hb dX9_spells_45 (by decide) ?_
          have b_ : -2147483648 ≤ z44.toInt ∧ z44.toInt ≤ 2147483647 := ⟨zlo _, zhi _⟩
          refine lv_ior hx hb dX9_spells_47 ?_
          refine lv_topi (fun z47 e_z47 => ?_)
          refine lv_aload_n hx hb dX9_spells_48 rfl (lv_at hl 3 rfl) ?_
          refine lv_iload hx hb dX9_spells_49 (lv_at hl 4 rfl) ?_
          have hPc := hP.sub (ws' := []) [] rfl
          have hDc := hD.sub (ws' := []) [] (by decide) rfl
          have hKc := hK.sub (tys' := []) [] rfl
          have hFc := va_free (wc := []) hD hS hA [] rfl
          refine va_calli (va_runV (As := [.int (u27_ 0)]) (rest := [.int z47]) ⟨hx, hb, hml, hown, hG⟩ (sJ0_charAt_5068e_8 l dC dI adK adV H.size (u27_ 0) ⟨show (0 : Int) ≤ ((u27_ 0) : Int32).toInt from by omega, show ((u27_ 0) : Int32).toInt ≤ (2 : Int) from by omega⟩) (cwV 1 hG (zgV zw51 zw52 zw53 zw29 zw54) rfl rfl rfl (by decide +kernel) ⟨Nat.le_of_ble_eq_true rfl, Nat.le_of_ble_eq_true rfl⟩) ⟨zPc_blind, vk_recv hZ.2.2.2.1 (i := 8) (by decide) hS, zPc_pre hPc hKc hDc hE hS hFc hZ⟩ rfl rfl hl.1 rfl (lv_room (Nat.le_of_ble_eq_true rfl)) dX9_spells_51 ⟨Nat.le_of_ble_eq_true rfl, Nat.le_of_ble_eq_true rfl⟩) hS (fun q _ h => hFc q h) hFc (fun r51_ u51_ t H1 locs ht hvm hw hB hz1 hk1 hS => ?_)
          have hw : (0 ≤ r51_.toInt ∧ r51_.toInt ≤ 255) := hw
          have b_ := hw
          obtain ⟨w51_, a51_, b51_, hP1, hK1, hD1⟩ := hB
          rw [ht] at hP1
          obtain ⟨hP, hD⟩ := va_join (wr := [(h0, .inr (9, mX9 h1 h2 v0)), (h1, .inl (k1, 600, .inl f1))]) (w1 := []) hP hD [] [0, 1] rfl rfl (by decide) (by decide) hk1 hFc hP1 hD1
          have hP : va_P (dC, dI) vwCl [(h0, .inr (9, mX9 h1 h2 v0)), (h1, .inl (k1, 600, .inl f1))] H1 := hP.sub [0, 1] rfl
          have hD : va_D A [(h0, .inr (9, mX9 h1 h2 v0)), (h1, .inl (k1, 600, .inl f1))] := hD.sub [0, 1] (by decide) rfl
          generalize H1 = H at hP hS ⊢
          clear hz1
          have b_ : -2147483648 ≤ z47.toInt ∧ z47.toInt ≤ 2147483647 := ⟨zlo _, zhi _⟩
          refine lv_icmp_eq (tgt := 59) hx hb dX9_spells_54 (by decide) (fun c_ => ?_) (fun c_ => ?_)
          · skip
            have b_ := zT_eq rfl rfl c_
            obtain ⟨z59, e_z59⟩ : ∃ z : Int32, z = (u27_ 0) + Int32.ofInt 1 := ⟨_, rfl⟩
            have b_ := zadd (x := (u27_ 0)) (y := Int32.ofInt 1) rfl (show (Int32.ofInt 1).toInt = 1 from by decide) e_z59 (by omega) (by omega)
            refine lv_iinc (v := z59) (lv' := [(4, .int z59), (0, .ref h0), (1, .int x1), (2, .int x2), (3, .ref (adK 8))]) hx hb dX9_spells_59 hl (k := 4) rfl e_z59.symm (by decide) rfl (fun ls hl => ?_)
            refine lv_goto (tgt := 27) hx hb dX9_spells_62 (by decide) ?_
            have hc : va_P (dC, dI) vwCl [(h0, .inr (9, mX9 h1 h2 v0)), (h1, .inl (k1, 600, .inl f1))] H ∧ va_D A [(h0, .inr (9, mX9 h1 h2 v0)), (h1, .inl (k1, 600, .inl f1))] ∧ va_S A s.heap H locs ∧ lv_has ls 5 [(0, .ref h0), (1, .int x1), (2, .int x2), (3, .ref (adK 8)), (4, .int z59)] ∧ (0 ≤ z59.toInt ∧ z59.toInt ≤ 3) := ⟨hP, hD, hS, lv_sub hl [1, 2, 3, 4, 0] rfl, ⟨by omega, by omega⟩⟩
            exact hJ27 H locs ls (fun i => ([z59] : List (Int32)).getD i 0) (fun _ => 0) (fun _ => (fun _ => 0)) (fun _ => (fun _ => 0)) hc (show (3 - z59.toInt).toNat < (3 - (u27_ 0).toInt).toNat from by omega)
          · skip
            have b_ := zF_eq rfl rfl c_
            refine lv_iconst (v := 0) hx hb dX9_spells_57 (by decide) ?_
            refine W.widen (k := 0) (n := 0) (by decide) (by decide) ?_
            have hpost : (0 ≤ (0 : Int32).toInt ∧ (0 : Int32).toInt ≤ 1) := ⟨by omega, by omega⟩
            have hP9 : va_P (dC, dI) vwCl [(h0, .inr (9, mX9 h1 h2 v0)), (h1, .inl (k1, 600, .inl f1))] H := hP
            have hD9 : va_D A [(h0, .inr (9, mX9 h1 h2 v0)), (h1, .inl (k1, 600, .inl f1))] := hD
            exact W.zret (v := 0) hx hb hr rfl (fun t ht hW => ⟨⟨0, (fun _ => 0), rfl, hpost, (fun _ => 0), (fun _ => (fun _ => 0)), (fun _ => (fun _ => 0)), by rw [ht]; exact hP9, va_K.moved hW.alike hK, hD9⟩, hS.F ht⟩) hS.2.2 dX9_spells_58
      · skip
        have hc : va_P (dC, dI) vwCl [(h0, .inr (9, mX9 h1 h2 v0)), (h1, .inl (k1, 600, .inl f1))] H ∧ va_D A [(h0, .inr (9, mX9 h1 h2 v0)), (h1, .inl (k1, 600, .inl f1))] ∧ va_S A s.heap H locs ∧ lv_has ls 5 [(0, .ref h0), (1, .int x1), (2, .int x2), (3, .ref (adK 8)), (4, .int 0)] ∧ (0 ≤ (0 : Int32).toInt ∧ (0 : Int32).toInt ≤ 3) := ⟨hP, hD, hS, lv_sub hl [1, 2, 3, 4, 0] rfl, ⟨by omega, by omega⟩⟩
        exact hJ27 H locs ls (fun i => ([0] : List (Int32)).getD i 0) (fun _ => 0) (fun _ => (fun _ => 0)) (fun _ => (fun _ => 0)) hc
    · skip
      have b_ := zF_le rfl rfl c_
      refine lv_iconst (v := 0) hx hb dX9_spells_22 (by decide) ?_
      refine W.widen (k := 0) (n := 0) (by decide) (by decide) ?_
      have hpost : (0 ≤ (0 : Int32).toInt ∧ (0 : Int32).toInt ≤ 1) := ⟨by omega, by omega⟩
      have hP9 : va_P (dC, dI) vwCl [(h0, .inr (9, mX9 h1 h2 v0)), (h1, .inl (k1, 600, .inl f1))] H := hP
      have hD9 : va_D A [(h0, .inr (9, mX9 h1 h2 v0)), (h1, .inl (k1, 600, .inl f1))] := hD
      exact W.zret (v := 0) hx hb hr rfl (fun t ht hW => ⟨⟨0, (fun _ => 0), rfl, hpost, (fun _ => 0), (fun _ => (fun _ => 0)), (fun _ => (fun _ => 0)), by rw [ht]; exact hP9, va_K.moved hW.alike hK, hD9⟩, hS.F ht⟩) hS.2.2 dX9_spells_23
set_option maxHeartbeats 8000000 in
set_option maxRecDepth 100000 in
theorem sJ0_coder_7d493_9 (l : Launch) (dC : Nat → ClassId) (dI : Nat → Nat → Nat) (adK adV : Nat → Nat) (sz : Nat) : Met l yJ0_coder_7d493 (zw yJ0_coder_7d493 cJ0_coder_7d493 1 (some .byte)) { frames := 0, cells := 0, slots := 0, locals := 0 } (zPc dC dI adK adV [.ref (adK 9)] sz [] []) (va_Qi (fun (r : Int32) (u : Nat → Int32) => (0 ≤ r.toInt ∧ r.toInt ≤ 0)) (fun (u : Nat → Int32) (t : State) => ∃ (ww : Nat → Int64) (aa : Nat → Nat → Int32) (bb : Nat → Nat → Int64), va_P (dC, dI) vwCl [] t.heap ∧ va_K (dC, dI) vwCl [] t ∧ va_D (va_A [] sz) []) (va_A [] sz)) 0 0 (va_A [] sz) := by
  refine Met.ofW (cc := cJ0_coder_7d493) (maxL := 1) (ret := (some .byte)) (by decide) rfl ?_
  intro p e s m args below meth c s₁ B hml hv
  obtain ⟨rfl, hsz, hP, hK, hD0, hE, hZ⟩ := hv
  have hx := B.exec
  have hb := B.bytes
  have hr := B.returns
  have hG : ∀ w ∈ zG, w.before _ s = true := fun w h => atoms_spec (ws := (zw yJ0_coder_7d493 cJ0_coder_7d493 1 (some .byte))) B.pre w (List.mem_cons_of_mem _ h)
  have hown : s.vm.findClass RJ0 = some m.cls := findClass_of_methodNamed B.named
  have hlocks := B.notSynchronized

  subst hsz
  have hD := hD0.self (sz := s.heap.size)
  generalize hAe : va_A [] s.heap.size = A at hD hZ ⊢
  have hA : ∀ q : Nat, s.heap.size ≤ q → A q := fun q h => by rw [← hAe]; exact Or.inr h
  have hS : va_S A s.heap s.heap [] := va_S.rf
  have hl := lv_entry ([.ref (adK 9)]) (n := 1) (Nat.le_of_ble_eq_true rfl)
  rw [lg_entry_eq]
  generalize (lg_sl ([.ref (adK 9)]) ++ List.replicate (1 - (lg_sl ([.ref (adK 9)])).length) Slot.unset).toArray = ls at hl ⊢
  have hl : lv_has ls 1 [(0, .ref (adK 9))] := hl
  have b_ := zk_0
  refine va_gets hx hb hZ.2.2.1 hS hown (hG _ zw24) (fun _ h => h) dJ0_coder_7d493_0 ?_
  refine lv_if_eq (tgt := 13) hx hb dJ0_coder_7d493_3 (by decide) (fun c_ => absurd c_ (by decide)) (fun c_ => ?_)
  refine lv_aload_n hx hb dJ0_coder_7d493_6 rfl (lv_at hl 0 rfl) ?_
  refine vk_getf hx hb (hZ.2.2.2.1.1 9 (by decide)).2.1 hS hown (hG _ zw25) (fun _ h => h) dJ0_coder_7d493_7 ?_
  refine lv_goto (tgt := 14) hx hb dJ0_coder_7d493_10 (by decide) ?_
  refine W.widen (k := 0) (n := 0) (by decide) (by decide) ?_
  have hpost : (0 ≤ (0 : Int32).toInt ∧ (0 : Int32).toInt ≤ 0) := ⟨by omega, by omega⟩
  have hP9 : va_P (dC, dI) vwCl [] s.heap := hP
  have hD9 : va_D A [] := hD
  exact W.zret (v := 0) hx hb hr rfl (fun t ht hW => ⟨⟨0, (fun _ => 0), rfl, hpost, (fun _ => 0), (fun _ => (fun _ => 0)), (fun _ => (fun _ => 0)), by rw [ht]; exact hP9, va_K.moved hW.alike hK, hD9⟩, hS.F ht⟩) hS.2.2 dJ0_coder_7d493_14
set_option maxHeartbeats 8000000 in
set_option maxRecDepth 100000 in
theorem sJ0_length_8abf5_9 (l : Launch) (dC : Nat → ClassId) (dI : Nat → Nat → Nat) (adK adV : Nat → Nat) (sz : Nat) : Met l yJ0_length_8abf5 (zw yJ0_length_8abf5 cJ0_length_8abf5 1 (some .int)) { frames := 1, cells := 0, slots := 0, locals := 20 } (zPc dC dI adK adV [.ref (adK 9)] sz [] []) (va_Qi (fun (r : Int32) (u : Nat → Int32) => (3 ≤ r.toInt ∧ r.toInt ≤ 3)) (fun (u : Nat → Int32) (t : State) => ∃ (ww : Nat → Int64) (aa : Nat → Nat → Int32) (bb : Nat → Nat → Int64), va_P (dC, dI) vwCl [] t.heap ∧ va_K (dC, dI) vwCl [] t ∧ va_D (va_A [] sz) []) (va_A [] sz)) 0 0 (va_A [] sz) := by
  refine Met.ofW (cc := cJ0_length_8abf5) (maxL := 1) (ret := (some .int)) (by decide) rfl ?_
  intro p e s m args below meth c s₁ B hml hv
  obtain ⟨rfl, hsz, hP, hK, hD0, hE, hZ⟩ := hv
  have hx := B.exec
  have hb := B.bytes
  have hr := B.returns
  have hG : ∀ w ∈ zG, w.before _ s = true := fun w h => atoms_spec (ws := (zw yJ0_length_8abf5 cJ0_length_8abf5 1 (some .int))) B.pre w (List.mem_cons_of_mem _ h)
  have hown : s.vm.findClass RJ0 = some m.cls := findClass_of_methodNamed B.named
  have hlocks := B.notSynchronized

  subst hsz
  have hD := hD0.self (sz := s.heap.size)
  generalize hAe : va_A [] s.heap.size = A at hD hZ ⊢
  have hA : ∀ q : Nat, s.heap.size ≤ q → A q := fun q h => by rw [← hAe]; exact Or.inr h
  have hS : va_S A s.heap s.heap [] := va_S.rf
  have hl := lv_entry ([.ref (adK 9)]) (n := 1) (Nat.le_of_ble_eq_true rfl)
  rw [lg_entry_eq]
  generalize (lg_sl ([.ref (adK 9)]) ++ List.replicate (1 - (lg_sl ([.ref (adK 9)])).length) Slot.unset).toArray = ls at hl ⊢
  have hl : lv_has ls 1 [(0, .ref (adK 9))] := hl
  have b_ := zk_3
  refine lv_aload_n hx hb dJ0_length_8abf5_0 rfl (lv_at hl 0 rfl) ?_
  refine vk_getf hx hb (hZ.2.2.2.1.1 9 (by decide)).2.2.1 hS hown (hG _ zw23) (fun _ h => h) dJ0_length_8abf5_1 ?_
  refine va_tlen (v := 3) hx hb (hZ.2.2.2.1.1 9 (by decide)).2.2.2 hS (by decide) dJ0_length_8abf5_4 ?_
  refine lv_aload_n hx hb dJ0_length_8abf5_5 rfl (lv_at hl 0 rfl) ?_
  have hPc := hP.sub (ws' := []) [] rfl
  have hDc := hD.sub (ws' := []) [] (by decide) rfl
  have hKc := hK.sub (tys' := []) [] rfl
  have hFc := va_free (wc := []) hD hS hA [] rfl
  refine va_calli (va_runV (As := []) (rest := [.int 3]) ⟨hx, hb, hml, hown, hG⟩ (sJ0_coder_7d493_9 l dC dI adK adV s.heap.size) (cwV 0 hG (zgV zw26 zw27 zw28 zw29 zw30) rfl rfl rfl (by decide +kernel) ⟨Nat.le_of_ble_eq_true rfl, Nat.le_of_ble_eq_true rfl⟩) ⟨zPc_blind, vk_recv hZ.2.2.2.1 (i := 9) (by decide) hS, zPc_pre hPc hKc hDc hE hS hFc hZ⟩ rfl rfl hl.1 rfl (lv_room (Nat.le_of_ble_eq_true rfl)) dJ0_length_8abf5_6 ⟨Nat.le_of_ble_eq_true rfl, Nat.le_of_ble_eq_true rfl⟩) hS (fun q _ h => hFc q h) hFc (fun r6_ u6_ t H1 locs ht hvm hw hB hz1 hk1 hS => ?_)
  have hw : (0 ≤ r6_.toInt ∧ r6_.toInt ≤ 0) := hw
  have b_ := hw
  obtain rfl : r6_ = (0 : Int32) := zeqi.mpr ((show r6_.toInt = 0 from by omega).trans zk_0.symm)
  obtain ⟨w6_, a6_, b6_, hP1, hK1, hD1⟩ := hB
  rw [ht] at hP1
  obtain ⟨hP, hD⟩ := va_join (wr := []) (w1 := []) hP hD [] [] rfl rfl (by decide) (by decide) hk1 hFc hP1 hD1
  have hP : va_P (dC, dI) vwCl [] H1 := hP.sub [] rfl
  have hD : va_D A [] := hD.sub [] (by decide) rfl
  generalize H1 = H at hP hS ⊢
  clear hz1
  refine lv_ishr hx hb dJ0_length_8abf5_9 ?_
  refine lv_topi (fun z9 e_z9 => ?_)
  obtain rfl : z9 = (3 : Int32) := e_z9.trans (by decide)
  refine W.widen (k := 0) (n := 0) (by decide) (by decide) ?_
  have hpost : (3 ≤ (3 : Int32).toInt ∧ (3 : Int32).toInt ≤ 3) := ⟨by omega, by omega⟩
  have hP9 : va_P (dC, dI) vwCl [] H := hP
  have hD9 : va_D A [] := hD
  exact W.iret (v := 3) hx hb hr (fun t ht hW => ⟨⟨3, (fun _ => 0), rfl, hpost, (fun _ => 0), (fun _ => (fun _ => 0)), (fun _ => (fun _ => 0)), by rw [ht]; exact hP9, va_K.moved hW.alike hK, hD9⟩, hS.F ht⟩) hS.2.2 dJ0_length_8abf5_10
set_option maxHeartbeats 8000000 in
set_option maxRecDepth 100000 in
theorem sJ0_isLatin1_aae02_9 (l : Launch) (dC : Nat → ClassId) (dI : Nat → Nat → Nat) (adK adV : Nat → Nat) (sz : Nat) : Met l yJ0_isLatin1_aae02 (zw yJ0_isLatin1_aae02 cJ0_isLatin1_aae02 1 (some .boolean)) { frames := 0, cells := 0, slots := 0, locals := 0 } (zPc dC dI adK adV [.ref (adK 9)] sz [] []) (va_Qi (fun (r : Int32) (u : Nat → Int32) => (1 ≤ r.toInt ∧ r.toInt ≤ 1)) (fun (u : Nat → Int32) (t : State) => ∃ (ww : Nat → Int64) (aa : Nat → Nat → Int32) (bb : Nat → Nat → Int64), va_P (dC, dI) vwCl [] t.heap ∧ va_K (dC, dI) vwCl [] t ∧ va_D (va_A [] sz) []) (va_A [] sz)) 0 0 (va_A [] sz) := by
  refine Met.ofW (cc := cJ0_isLatin1_aae02) (maxL := 1) (ret := (some .boolean)) (by decide) rfl ?_
  intro p e s m args below meth c s₁ B hml hv
  obtain ⟨rfl, hsz, hP, hK, hD0, hE, hZ⟩ := hv
  have hx := B.exec
  have hb := B.bytes
  have hr := B.returns
  have hG : ∀ w ∈ zG, w.before _ s = true := fun w h => atoms_spec (ws := (zw yJ0_isLatin1_aae02 cJ0_isLatin1_aae02 1 (some .boolean))) B.pre w (List.mem_cons_of_mem _ h)
  have hown : s.vm.findClass RJ0 = some m.cls := findClass_of_methodNamed B.named
  have hlocks := B.notSynchronized

  subst hsz
  have hD := hD0.self (sz := s.heap.size)
  generalize hAe : va_A [] s.heap.size = A at hD hZ ⊢
  have hA : ∀ q : Nat, s.heap.size ≤ q → A q := fun q h => by rw [← hAe]; exact Or.inr h
  have hS : va_S A s.heap s.heap [] := va_S.rf
  have hl := lv_entry ([.ref (adK 9)]) (n := 1) (Nat.le_of_ble_eq_true rfl)
  rw [lg_entry_eq]
  generalize (lg_sl ([.ref (adK 9)]) ++ List.replicate (1 - (lg_sl ([.ref (adK 9)])).length) Slot.unset).toArray = ls at hl ⊢
  have hl : lv_has ls 1 [(0, .ref (adK 9))] := hl
  have b_ := zk_1
  refine va_gets hx hb hZ.2.2.1 hS hown (hG _ zw24) (fun _ h => h) dJ0_isLatin1_aae02_0 ?_
  refine lv_if_eq (tgt := 17) hx hb dJ0_isLatin1_aae02_3 (by decide) (fun c_ => absurd c_ (by decide)) (fun c_ => ?_)
  refine lv_aload_n hx hb dJ0_isLatin1_aae02_6 rfl (lv_at hl 0 rfl) ?_
  refine vk_getf hx hb (hZ.2.2.2.1.1 9 (by decide)).2.1 hS hown (hG _ zw25) (fun _ h => h) dJ0_isLatin1_aae02_7 ?_
  refine lv_if_ne (tgt := 17) hx hb dJ0_isLatin1_aae02_10 (by decide) (fun c_ => absurd c_ (by decide)) (fun c_ => ?_)
  refine lv_iconst (v := 1) hx hb dJ0_isLatin1_aae02_13 (by decide) ?_
  refine lv_goto (tgt := 18) hx hb dJ0_isLatin1_aae02_14 (by decide) ?_
  refine W.widen (k := 0) (n := 0) (by decide) (by decide) ?_
  have hpost : (1 ≤ (1 : Int32).toInt ∧ (1 : Int32).toInt ≤ 1) := ⟨by omega, by omega⟩
  have hP9 : va_P (dC, dI) vwCl [] s.heap := hP
  have hD9 : va_D A [] := hD
  exact W.zret (v := 1) hx hb hr rfl (fun t ht hW => ⟨⟨1, (fun _ => 0), rfl, hpost, (fun _ => 0), (fun _ => (fun _ => 0)), (fun _ => (fun _ => 0)), by rw [ht]; exact hP9, va_K.moved hW.alike hK, hD9⟩, hS.F ht⟩) hS.2.2 dJ0_isLatin1_aae02_18
set_option maxHeartbeats 8000000 in
set_option maxRecDepth 100000 in
theorem sJ1_charAt_3b067_9 (l : Launch) (dC : Nat → ClassId) (dI : Nat → Nat → Nat) (adK adV : Nat → Nat) (sz : Nat) (x1 : Int32) (hx1 : 0 ≤ x1.toInt ∧ x1.toInt ≤ 2) : Met l yJ1_charAt_3b067 (zw yJ1_charAt_3b067 cJ1_charAt_3b067 2 (some .char)) { frames := 2, cells := 0, slots := 0, locals := 43 } (zPc dC dI adK adV [.ref (adV 9), .int x1] sz [] []) (va_Qi (fun (r : Int32) (u : Nat → Int32) => (0 ≤ r.toInt ∧ r.toInt ≤ 255)) (fun (u : Nat → Int32) (t : State) => ∃ (ww : Nat → Int64) (aa : Nat → Nat → Int32) (bb : Nat → Nat → Int64), va_P (dC, dI) vwCl [] t.heap ∧ va_K (dC, dI) vwCl [] t ∧ va_D (va_A [] sz) []) (va_A [] sz)) 0 0 (va_A [] sz) := by
  refine Met.ofW (cc := cJ1_charAt_3b067) (maxL := 2) (ret := (some .char)) (by decide) rfl ?_
  intro p e s m args below meth c s₁ B hml hv
  obtain ⟨rfl, hsz, hP, hK, hD0, hE, hZ⟩ := hv
  have hx := B.exec
  have hb := B.bytes
  have hr := B.returns
  have hG : ∀ w ∈ zG, w.before _ s = true := fun w h => atoms_spec (ws := (zw yJ1_charAt_3b067 cJ1_charAt_3b067 2 (some .char))) B.pre w (List.mem_cons_of_mem _ h)
  have hown : s.vm.findClass RJ1 = some m.cls := findClass_of_methodNamed B.named
  have hlocks := B.notSynchronized

  subst hsz
  have hD := hD0.self (sz := s.heap.size)
  generalize hAe : va_A [] s.heap.size = A at hD hZ ⊢
  have hA : ∀ q : Nat, s.heap.size ≤ q → A q := fun q h => by rw [← hAe]; exact Or.inr h
  have hS : va_S A s.heap s.heap [] := va_S.rf
  have hl := lv_entry ([.ref (adV 9), .int x1]) (n := 2) (Nat.le_of_ble_eq_true rfl)
  rw [lg_entry_eq]
  generalize (lg_sl ([.ref (adV 9), .int x1]) ++ List.replicate (2 - (lg_sl ([.ref (adV 9), .int x1])).length) Slot.unset).toArray = ls at hl ⊢
  have hl : lv_has ls 2 [(0, .ref (adV 9)), (1, .int x1)] := hl
  have b_ := zk_3
  refine lv_iload_n hx hb dJ1_charAt_3b067_0 rfl (lv_at hl 1 rfl) ?_
  refine lv_aload_n hx hb dJ1_charAt_3b067_1 rfl (lv_at hl 0 rfl) ?_
  refine va_tlen (v := 3) hx hb (hZ.2.2.2.1.1 9 (by decide)).2.2.2 hS (by decide) dJ1_charAt_3b067_2 ?_
  have hPc := hP.sub (ws' := []) [] rfl
  have hDc := hD.sub (ws' := []) [] (by decide) rfl
  have hKc := hK.sub (tys' := []) [] rfl
  have hFc := va_free (wc := []) hD hS hA [] rfl
  refine va_callv (va_runS (As := [.int x1, .int 3]) (rest := []) ⟨hx, hb, hml, hown, hG⟩ (sJ0_checkIndex_df160_0 l dC dI adK adV s.heap.size x1 3 ⟨show (0 : Int) ≤ (x1 : Int32).toInt from by omega, show (x1 : Int32).toInt ≤ (4 : Int) from by omega⟩ ⟨show (1 : Int) ≤ (3 : Int32).toInt from by decide, show (3 : Int32).toInt ≤ (5 : Int) from by decide⟩ (show x1.toInt < (3 : Int32).toInt from by omega)) (va_cwS 2 hG (zgS zw36 zw37 zw29 zw38) rfl rfl rfl (by decide +kernel) ⟨Nat.le_of_ble_eq_true rfl, Nat.le_of_ble_eq_true rfl⟩) ⟨zPc_blind, zPc_pre hPc hKc hDc hE hS hFc hZ⟩ rfl rfl hl.1 rfl (lv_room (Nat.le_of_ble_eq_true rfl)) dJ1_charAt_3b067_3 ⟨Nat.le_of_ble_eq_true rfl, Nat.le_of_ble_eq_true rfl⟩) hS (fun q _ h => hFc q h) hFc (fun u3_ t H1 locs ht hvm hw hB hz1 hk1 hS => ?_)
  obtain ⟨w3_, a3_, b3_, hP1, hK1, hD1⟩ := hB
  rw [ht] at hP1
  obtain ⟨hP, hD⟩ := va_join (wr := []) (w1 := []) hP hD [] [] rfl rfl (by decide) (by decide) hk1 hFc hP1 hD1
  have hP : va_P (dC, dI) vwCl [] H1 := hP.sub [] rfl
  have hD : va_D A [] := hD.sub [] (by decide) rfl
  generalize H1 = H at hP hS ⊢
  clear hz1
  refine lv_aload_n hx hb dJ1_charAt_3b067_6 rfl (lv_at hl 0 rfl) ?_
  refine lv_iload_n hx hb dJ1_charAt_3b067_7 rfl (lv_at hl 1 rfl) ?_
  refine va_tb (N := 3) hx hb (hZ.2.2.2.1.1 9 (by decide)).2.2.2 hS (zin_lit (n := 3) ⟨by omega, by omega⟩) rfl dJ1_charAt_3b067_8 ?_
  refine lv_topi (fun z8 e_z8 => ?_)
  refine lv_sipush (v := 255) hx hb dJ1_charAt_3b067_9 (by decide) ?_
  have b_ : -2147483648 ≤ z8.toInt ∧ z8.toInt ≤ 2147483647 := ⟨zlo _, zhi _⟩
  refine lv_iand hx hb dJ1_charAt_3b067_12 ?_
  refine lv_topi (fun z12 e_z12 => ?_)
  have b_ := zand (x := z8) zk_255 e_z12 (by decide)
  refine lv_i2c hx hb dJ1_charAt_3b067_13 rfl ?_
  refine lv_topi (fun z13 e_z13 => ?_)
  have b_ := zi2c rfl e_z13 (by omega) (by omega)
  refine W.widen (k := 0) (n := 0) (by decide) (by decide) ?_
  have hpost : (0 ≤ z13.toInt ∧ z13.toInt ≤ 255) := ⟨by omega, by omega⟩
  have hP9 : va_P (dC, dI) vwCl [] H := hP
  have hD9 : va_D A [] := hD
  exact W.zret (v := z13) hx hb hr (zn_char ⟨by omega, by omega⟩) (fun t ht hW => ⟨⟨z13, (fun _ => 0), rfl, hpost, (fun _ => 0), (fun _ => (fun _ => 0)), (fun _ => (fun _ => 0)), by rw [ht]; exact hP9, va_K.moved hW.alike hK, hD9⟩, hS.F ht⟩) hS.2.2 dJ1_charAt_3b067_14
set_option maxHeartbeats 8000000 in
set_option maxRecDepth 100000 in
theorem sJ0_charAt_5068e_9 (l : Launch) (dC : Nat → ClassId) (dI : Nat → Nat → Nat) (adK adV : Nat → Nat) (sz : Nat) (x1 : Int32) (hx1 : 0 ≤ x1.toInt ∧ x1.toInt ≤ 2) : Met l yJ0_charAt_5068e (zw yJ0_charAt_5068e cJ0_charAt_5068e 2 (some .char)) { frames := 3, cells := 0, slots := 0, locals := 64 } (zPc dC dI adK adV [.ref (adK 9), .int x1] sz [] []) (va_Qi (fun (r : Int32) (u : Nat → Int32) => (0 ≤ r.toInt ∧ r.toInt ≤ 255)) (fun (u : Nat → Int32) (t : State) => ∃ (ww : Nat → Int64) (aa : Nat → Nat → Int32) (bb : Nat → Nat → Int64), va_P (dC, dI) vwCl [] t.heap ∧ va_K (dC, dI) vwCl [] t ∧ va_D (va_A [] sz) []) (va_A [] sz)) 0 0 (va_A [] sz) := by
  refine Met.ofW (cc := cJ0_charAt_5068e) (maxL := 2) (ret := (some .char)) (by decide) rfl ?_
  intro p e s m args below meth c s₁ B hml hv
  obtain ⟨rfl, hsz, hP, hK, hD0, hE, hZ⟩ := hv
  have hx := B.exec
  have hb := B.bytes
  have hr := B.returns
  have hG : ∀ w ∈ zG, w.before _ s = true := fun w h => atoms_spec (ws := (zw yJ0_charAt_5068e cJ0_charAt_5068e 2 (some .char))) B.pre w (List.mem_cons_of_mem _ h)
  have hown : s.vm.findClass RJ0 = some m.cls := findClass_of_methodNamed B.named
  have hlocks := B.notSynchronized

  subst hsz
  have hD := hD0.self (sz := s.heap.size)
  generalize hAe : va_A [] s.heap.size = A at hD hZ ⊢
  have hA : ∀ q : Nat, s.heap.size ≤ q → A q := fun q h => by rw [← hAe]; exact Or.inr h
  have hS : va_S A s.heap s.heap [] := va_S.rf
  have hl := lv_entry ([.ref (adK 9), .int x1]) (n := 2) (Nat.le_of_ble_eq_true rfl)
  rw [lg_entry_eq]
  generalize (lg_sl ([.ref (adK 9), .int x1]) ++ List.replicate (2 - (lg_sl ([.ref (adK 9), .int x1])).length) Slot.unset).toArray = ls at hl ⊢
  have hl : lv_has ls 2 [(0, .ref (adK 9)), (1, .int x1)] := hl
  refine lv_aload_n hx hb dJ0_charAt_5068e_0 rfl (lv_at hl 0 rfl) ?_
  have hPc := hP.sub (ws' := []) [] rfl
  have hDc := hD.sub (ws' := []) [] (by decide) rfl
  have hKc := hK.sub (tys' := []) [] rfl
  have hFc := va_free (wc := []) hD hS hA [] rfl
  refine va_calli (va_runV (As := []) (rest := []) ⟨hx, hb, hml, hown, hG⟩ (sJ0_isLatin1_aae02_9 l dC dI adK adV s.heap.size) (cwV 0 hG (zgV zw39 zw40 zw41 zw29 zw42) rfl rfl rfl (by decide +kernel) ⟨Nat.le_of_ble_eq_true rfl, Nat.le_of_ble_eq_true rfl⟩) ⟨zPc_blind, vk_recv hZ.2.2.2.1 (i := 9) (by decide) hS, zPc_pre hPc hKc hDc hE hS hFc hZ⟩ rfl rfl hl.1 rfl (lv_room (Nat.le_of_ble_eq_true rfl)) dJ0_charAt_5068e_1 ⟨Nat.le_of_ble_eq_true rfl, Nat.le_of_ble_eq_true rfl⟩) hS (fun q _ h => hFc q h) hFc (fun r1_ u1_ t H1 locs ht hvm hw hB hz1 hk1 hS => ?_)
  have hw : (1 ≤ r1_.toInt ∧ r1_.toInt ≤ 1) := hw
  have b_ := hw
  obtain rfl : r1_ = (1 : Int32) := zeqi.mpr ((show r1_.toInt = 1 from by omega).trans zk_1.symm)
  obtain ⟨w1_, a1_, b1_, hP1, hK1, hD1⟩ := hB
  rw [ht] at hP1
  obtain ⟨hP, hD⟩ := va_join (wr := []) (w1 := []) hP hD [] [] rfl rfl (by decide) (by decide) hk1 hFc hP1 hD1
  have hP : va_P (dC, dI) vwCl [] H1 := hP.sub [] rfl
  have hD : va_D A [] := hD.sub [] (by decide) rfl
  generalize H1 = H at hP hS ⊢
  clear hz1
  refine lv_if_eq (tgt := 16) hx hb dJ0_charAt_5068e_4 (by decide) (fun c_ => absurd c_ (by decide)) (fun c_ => ?_)
  refine lv_aload_n hx hb dJ0_charAt_5068e_7 rfl (lv_at hl 0 rfl) ?_
  refine vk_getf hx hb (hZ.2.2.2.1.1 9 (by decide)).2.2.1 hS hown (hG _ zw23) (fun _ h => h) dJ0_charAt_5068e_8 ?_
  refine lv_iload_n hx hb dJ0_charAt_5068e_11 rfl (lv_at hl 1 rfl) ?_
  have hPc := hP.sub (ws' := []) [] rfl
  have hDc := hD.sub (ws' := []) [] (by decide) rfl
  have hKc := hK.sub (tys' := []) [] rfl
  have hFc := va_free (wc := []) hD hS hA [] rfl
  refine va_calli (va_runS (As := [.ref (adV 9), .int x1]) (rest := []) ⟨hx, hb, hml, hown, hG⟩ (sJ1_charAt_3b067_9 l dC dI adK adV H.size x1 ⟨show (0 : Int) ≤ (x1 : Int32).toInt from by omega, show (x1 : Int32).toInt ≤ (2 : Int) from by omega⟩) (va_cwS 2 hG (zgS zw43 zw44 zw45 zw46) rfl rfl rfl (by decide +kernel) ⟨Nat.le_of_ble_eq_true rfl, Nat.le_of_ble_eq_true rfl⟩) ⟨zPc_blind, zPc_pre hPc hKc hDc hE hS hFc hZ⟩ rfl rfl hl.1 rfl (lv_room (Nat.le_of_ble_eq_true rfl)) dJ0_charAt_5068e_12 ⟨Nat.le_of_ble_eq_true rfl, Nat.le_of_ble_eq_true rfl⟩) hS (fun q _ h => hFc q h) hFc (fun r12_ u12_ t H1 locs ht hvm hw hB hz1 hk1 hS => ?_)
  have hw : (0 ≤ r12_.toInt ∧ r12_.toInt ≤ 255) := hw
  have b_ := hw
  obtain ⟨w12_, a12_, b12_, hP1, hK1, hD1⟩ := hB
  rw [ht] at hP1
  obtain ⟨hP, hD⟩ := va_join (wr := []) (w1 := []) hP hD [] [] rfl rfl (by decide) (by decide) hk1 hFc hP1 hD1
  have hP : va_P (dC, dI) vwCl [] H1 := hP.sub [] rfl
  have hD : va_D A [] := hD.sub [] (by decide) rfl
  generalize H1 = H at hP hS ⊢
  clear hz1
  refine W.widen (k := 0) (n := 0) (by decide) (by decide) ?_
  have hpost : (0 ≤ r12_.toInt ∧ r12_.toInt ≤ 255) := ⟨by omega, by omega⟩
  have hP9 : va_P (dC, dI) vwCl [] H := hP
  have hD9 : va_D A [] := hD
  exact W.zret (v := r12_) hx hb hr (zn_char ⟨by omega, by omega⟩) (fun t ht hW => ⟨⟨r12_, (fun _ => 0), rfl, hpost, (fun _ => 0), (fun _ => (fun _ => 0)), (fun _ => (fun _ => 0)), by rw [ht]; exact hP9, va_K.moved hW.alike hK, hD9⟩, hS.F ht⟩) hS.2.2 dJ0_charAt_5068e_15
set_option maxHeartbeats 8000000 in
set_option maxRecDepth 100000 in
theorem sX9_spells_2 (l : Launch) (dC : Nat → ClassId) (dI : Nat → Nat → Nat) (adK adV : Nat → Nat) (h0 : Nat) (h1 : Nat) (h2 : Nat) (k1 : ClassId) (sz : Nat) (v0 : Nat → Int32) (f1 : Nat → Int32) (x1 : Int32) (x2 : Int32) (hv0 : zR rg_Tape v0) (hx1 : 0 ≤ x1.toInt ∧ x1.toInt ≤ 600) (hx2 : 0 ≤ x2.toInt ∧ x2.toInt ≤ 601) : Met l yX9_spells (zw yX9_spells cX9_spells 5 (some .boolean)) { frames := 4, cells := 0, slots := 0, locals := 85 } (zPc dC dI adK adV [.ref h0, .int x1, .int x2, .ref (adK 9)] sz [(h0, .inr (9, mX9 h1 h2 v0)), (h1, .inl (k1, 600, .inl f1))] [(k1, .byte)]) (va_Qi (fun (r : Int32) (u : Nat → Int32) => (0 ≤ r.toInt ∧ r.toInt ≤ 1)) (fun (u : Nat → Int32) (t : State) => ∃ (ww : Nat → Int64) (aa : Nat → Nat → Int32) (bb : Nat → Nat → Int64), va_P (dC, dI) vwCl [(h0, .inr (9, mX9 h1 h2 v0)), (h1, .inl (k1, 600, .inl f1))] t.heap ∧ va_K (dC, dI) vwCl [(k1, .byte)] t ∧ va_D (va_A [(h0, .inr (9, mX9 h1 h2 v0)), (h1, .inl (k1, 600, .inl f1))] sz) [(h0, .inr (9, mX9 h1 h2 v0)), (h1, .inl (k1, 600, .inl f1))]) (va_A [(h0, .inr (9, mX9 h1 h2 v0)), (h1, .inl (k1, 600, .inl f1))] sz)) 0 0 (va_A [(h0, .inr (9, mX9 h1 h2 v0)), (h1, .inl (k1, 600, .inl f1))] sz) := by
  refine Met.ofW (cc := cX9_spells) (maxL := 5) (ret := (some .boolean)) (by decide) rfl ?_
  intro p e s m args below meth c s₁ B hml hv
  obtain ⟨rfl, hsz, hP, hK, hD0, hE, hZ⟩ := hv
  have hx := B.exec
  have hb := B.bytes
  have hr := B.returns
  have hG : ∀ w ∈ zG, w.before _ s = true := fun w h => atoms_spec (ws := (zw yX9_spells cX9_spells 5 (some .boolean))) B.pre w (List.mem_cons_of_mem _ h)
  have hown : s.vm.findClass RX9 = some m.cls := findClass_of_methodNamed B.named
  have hlocks := B.notSynchronized

  subst hsz
  have hD := hD0.self (sz := s.heap.size)
  generalize hAe : va_A [(h0, .inr (9, mX9 h1 h2 v0)), (h1, .inl (k1, 600, .inl f1))] s.heap.size = A at hD hZ ⊢
  have hA : ∀ q : Nat, s.heap.size ≤ q → A q := fun q h => by rw [← hAe]; exact Or.inr h
  have hS : va_S A s.heap s.heap [] := va_S.rf
  have hl := lv_entry ([.ref h0, .int x1, .int x2, .ref (adK 9)]) (n := 5) (Nat.le_of_ble_eq_true rfl)
  rw [lg_entry_eq]
  generalize (lg_sl ([.ref h0, .int x1, .int x2, .ref (adK 9)]) ++ List.replicate (5 - (lg_sl ([.ref h0, .int x1, .int x2, .ref (adK 9)])).length) Slot.unset).toArray = ls at hl ⊢
  have hl : lv_has ls 5 [(0, .ref h0), (1, .int x1), (2, .int x2), (3, .ref (adK 9))] := hl
  have b_ := zk_0
  have b_ := zk_1
  refine lv_iload_n hx hb dX9_spells_0 rfl (lv_at hl 2 rfl) ?_
  refine lv_iload_n hx hb dX9_spells_1 rfl (lv_at hl 1 rfl) ?_
  refine lv_isub hx hb dX9_spells_2 ?_
  refine lv_topi (fun z2 e_z2 => ?_)
  have b_ := zsub rfl rfl e_z2 (by omega) (by omega)
  refine lv_aload_n hx hb dX9_spells_3 rfl (lv_at hl 3 rfl) ?_
  have hPc := hP.sub (ws' := []) [] rfl
  have hDc := hD.sub (ws' := []) [] (by decide) rfl
  have hKc := hK.sub (tys' := []) [] rfl
  have hFc := va_free (wc := []) hD hS hA [] rfl
  refine va_calli (va_runV (As := []) (rest := [.int z2]) ⟨hx, hb, hml, hown, hG⟩ (sJ0_length_8abf5_9 l dC dI adK adV s.heap.size) (cwV 0 hG (zgV zw47 zw48 zw49 zw29 zw50) rfl rfl rfl (by decide +kernel) ⟨Nat.le_of_ble_eq_true rfl, Nat.le_of_ble_eq_true rfl⟩) ⟨zPc_blind, vk_recv hZ.2.2.2.1 (i := 9) (by decide) hS, zPc_pre hPc hKc hDc hE hS hFc hZ⟩ rfl rfl hl.1 rfl (lv_room (Nat.le_of_ble_eq_true rfl)) dX9_spells_4 ⟨Nat.le_of_ble_eq_true rfl, Nat.le_of_ble_eq_true rfl⟩) hS (fun q _ h => hFc q h) hFc (fun r4_ u4_ t H1 locs ht hvm hw hB hz1 hk1 hS => ?_)
  have hw : (3 ≤ r4_.toInt ∧ r4_.toInt ≤ 3) := hw
  have b_ := hw
  obtain rfl : r4_ = (3 : Int32) := zeqi.mpr ((show r4_.toInt = 3 from by omega).trans zk_3.symm)
  obtain ⟨w4_, a4_, b4_, hP1, hK1, hD1⟩ := hB
  rw [ht] at hP1
  obtain ⟨hP, hD⟩ := va_join (wr := [(h0, .inr (9, mX9 h1 h2 v0)), (h1, .inl (k1, 600, .inl f1))]) (w1 := []) hP hD [] [0, 1] rfl rfl (by decide) (by decide) hk1 hFc hP1 hD1
  have hP : va_P (dC, dI) vwCl [(h0, .inr (9, mX9 h1 h2 v0)), (h1, .inl (k1, 600, .inl f1))] H1 := hP.sub [0, 1] rfl
  have hD : va_D A [(h0, .inr (9, mX9 h1 h2 v0)), (h1, .inl (k1, 600, .inl f1))] := hD.sub [0, 1] (by decide) rfl
  generalize H1 = H at hP hS ⊢
  clear hz1
  refine lv_icmp_ne (tgt := 22) hx hb dX9_spells_7 (by decide) (fun c_ => ?_) (fun c_ => ?_)
  · skip
    have b_ := zT_ne rfl zk_3 c_
    refine lv_iconst (v := 0) hx hb dX9_spells_22 (by decide) ?_
    refine W.widen (k := 0) (n := 0) (by decide) (by decide) ?_
    have hpost : (0 ≤ (0 : Int32).toInt ∧ (0 : Int32).toInt ≤ 1) := ⟨by omega, by omega⟩
    have hP9 : va_P (dC, dI) vwCl [(h0, .inr (9, mX9 h1 h2 v0)), (h1, .inl (k1, 600, .inl f1))] H := hP
    have hD9 : va_D A [(h0, .inr (9, mX9 h1 h2 v0)), (h1, .inl (k1, 600, .inl f1))] := hD
    exact W.zret (v := 0) hx hb hr rfl (fun t ht hW => ⟨⟨0, (fun _ => 0), rfl, hpost, (fun _ => 0), (fun _ => (fun _ => 0)), (fun _ => (fun _ => 0)), by rw [ht]; exact hP9, va_K.moved hW.alike hK, hD9⟩, hS.F ht⟩) hS.2.2 dX9_spells_23
  · skip
    have b_ := zF_ne rfl zk_3 c_
    refine lv_iload_n hx hb dX9_spells_10 rfl (lv_at hl 1 rfl) ?_
    refine lv_if_lt (tgt := 22) hx hb dX9_spells_11 (by decide) (fun c_ => False.elim (by have b_ := zT_lt rfl zk_0 c_; omega)) (fun c_ => ?_)
    have b_ := zF_lt rfl zk_0 c_
    refine lv_iload_n hx hb dX9_spells_14 rfl (lv_at hl 2 rfl) ?_
    refine lv_aload_n hx hb dX9_spells_15 rfl (lv_at hl 0 rfl) ?_
    have b_ : 0 ≤ (v0 2).toInt ∧ (v0 2).toInt ≤ 600 := hv0 2
    refine va_get (D := (dC, dI)) (ci := 9) (v := .int (v0 2)) (C := RX9) (T := TX9) (N := 4) hx hb hG zuX9 hown hK hP 0 rfl rfl 2 (by decide) (hG _ zw0) (fun _ h9 => h9) rfl dX9_spells_16 ?_
    refine lv_icmp_le (tgt := 24) hx hb dX9_spells_19 (by decide) (fun c_ => ?_) (fun c_ => ?_)
    · skip
      have b_ := zT_le rfl rfl c_
      refine lv_iconst (v := 0) hx hb dX9_spells_24 (by decide) ?_
      refine lv_istore (lv' := [(4, .int 0), (0, .ref h0), (1, .int x1), (2, .int x2), (3, .ref (adK 9))]) hx hb dX9_spells_25 hl (by decide) rfl (fun ls hl => ?_)
      refine zcutL (fun u27_ => (3 - (u27_ 0).toInt).toNat) (fun H locs ls u27_ w27_ a27_ b27_ => va_P (dC, dI) vwCl [(h0, .inr (9, mX9 h1 h2 v0)), (h1, .inl (k1, 600, .inl f1))] H ∧ va_D A [(h0, .inr (9, mX9 h1 h2 v0)), (h1, .inl (k1, 600, .inl f1))] ∧ va_S A s.heap H locs ∧ lv_has ls 5 [(0, .ref h0), (1, .int x1), (2, .int x2), (3, .ref (adK 9)), (4, .int (u27_ 0))] ∧ (0 ≤ (u27_ 0).toInt ∧ (u27_ 0).toInt ≤ 3)) (fun ls u27_ w27_ => F0 m 27 ls []) 0 0 ?_ (fun hJ27 => ?_)
      · skip
        intro H locs ls u27_ w27_ a27_ b27_ hc hJ27
        obtain ⟨hP, hD, hS, hl, b_⟩ := hc
        refine lv_iload hx hb dX9_spells_27 (lv_at hl 4 rfl) ?_
        refine lv_aload_n hx hb dX9_spells_29 rfl (lv_at hl 3 rfl) ?_
        have hPc := hP.sub (ws' := []) [] rfl
        have hDc := hD.sub (ws' := []) [] (by decide) rfl
        have hKc := hK.sub (tys' := []) [] rfl
        have hFc := va_free (wc := []) hD hS hA [] rfl
        refine va_calli (va_runV (As := []) (rest := [.int (u27_ 0)]) ⟨hx, hb, hml, hown, hG⟩ (sJ0_length_8abf5_9 l dC dI adK adV H.size) (cwV 0 hG (zgV zw47 zw48 zw49 zw29 zw50) rfl rfl rfl (by decide +kernel) ⟨Nat.le_of_ble_eq_true rfl, Nat.le_of_ble_eq_true rfl⟩) ⟨zPc_blind, vk_recv hZ.2.2.2.1 (i := 9) (by decide) hS, zPc_pre hPc hKc hDc hE hS hFc hZ⟩ rfl rfl hl.1 rfl (lv_room (Nat.le_of_ble_eq_true rfl)) dX9_spells_30 ⟨Nat.le_of_ble_eq_true rfl, Nat.le_of_ble_eq_true rfl⟩) hS (fun q _ h => hFc q h) hFc (fun r30_ u30_ t H1 locs ht hvm hw hB hz1 hk1 hS => ?_)
        have hw : (3 ≤ r30_.toInt ∧ r30_.toInt ≤ 3) := hw
        have b_ := hw
        obtain rfl : r30_ = (3 : Int32) := zeqi.mpr ((show r30_.toInt = 3 from by omega).trans zk_3.symm)
        obtain ⟨w30_, a30_, b30_, hP1, hK1, hD1⟩ := hB
        rw [ht] at hP1
        obtain ⟨hP, hD⟩ := va_join (wr := [(h0, .inr (9, mX9 h1 h2 v0)), (h1, .inl (k1, 600, .inl f1))]) (w1 := []) hP hD [] [0, 1] rfl rfl (by decide) (by decide) hk1 hFc hP1 hD1
        have hP : va_P (dC, dI) vwCl [(h0, .inr (9, mX9 h1 h2 v0)), (h1, .inl (k1, 600, .inl f1))] H1 := hP.sub [0, 1] rfl
        have hD : va_D A [(h0, .inr (9, mX9 h1 h2 v0)), (h1, .inl (k1, 600, .inl f1))] := hD.sub [0, 1] (by decide) rfl
        generalize H1 = H at hP hS ⊢
        clear hz1
        refine lv_icmp_ge (tgt := 65) hx hb dX9_spells_33 (by decide) (fun c_ => ?_) (fun c_ => ?_)
        · skip
          have b_ := zT_ge rfl zk_3 c_
          refine lv_iconst (v := 1) hx hb dX9_spells_65 (by decide) ?_
          refine W.widen (k := 0) (n := 0) (by decide) (by decide) ?_
          have hpost : (0 ≤ (1 : Int32).toInt ∧ (1 : Int32).toInt ≤ 1) := ⟨by omega, by omega⟩
          have hP9 : va_P (dC, dI) vwCl [(h0, .inr (9, mX9 h1 h2 v0)), (h1, .inl (k1, 600, .inl f1))] H := hP
          have hD9 : va_D A [(h0, .inr (9, mX9 h1 h2 v0)), (h1, .inl (k1, 600, .inl f1))] := hD
          exact W.zret (v := 1) hx hb hr rfl (fun t ht hW => ⟨⟨1, (fun _ => 0), rfl, hpost, (fun _ => 0), (fun _ => (fun _ => 0)), (fun _ => (fun _ => 0)), by rw [ht]; exact hP9, va_K.moved hW.alike hK, hD9⟩, hS.F ht⟩) hS.2.2 dX9_spells_66
        · skip
          have b_ := zF_ge rfl zk_3 c_
          refine lv_aload_n hx hb dX9_spells_36 rfl (lv_at hl 0 rfl) ?_
          refine va_get (D := (dC, dI)) (ci := 9) (v := .ref h1) (C := RX9) (T := TX9) (N := 4) hx hb hG zuX9 hown hK hP 0 rfl rfl 0 (by decide) (hG _ zw1) (fun _ h9 => h9) rfl dX9_spells_37 ?_
          refine lv_iload_n hx hb dX9_spells_40 rfl (lv_at hl 1 rfl) ?_
          refine lv_iload hx hb dX9_spells_41 (lv_at hl 4 rfl) ?_
          refine lv_iadd hx hb dX9_spells_43 ?_
          refine lv_topi (fun z43 e_z43 => ?_)
          have b_ := zadd rfl rfl e_z43 (by omega) (by omega)
          refine va_bald hx hb hK hP 1 0 rfl rfl (zin_lit ⟨by omega, by omega⟩) dX9_spells_44 ?_
          refine lv_topi (fun z44 e_z44 => ?_)
          refine lv_bipush (v := 32) hx hb dX9_spells_45 (by decide) ?_
          have b_ : -2147483648 ≤ z44.toInt ∧ z44.toInt ≤ 2147483647 := ⟨zlo _, zhi _⟩
          refine lv_ior hx hb dX9_spells_47 ?_
          refine lv_topi (fun z47 e_z47 => ?_)
          refine lv_aload_n hx hb dX9_spells_48 rfl (lv_at hl 3 rfl) ?_
          refine lv_iload hx hb dX9_spells_49 (lv_at hl 4 rfl) ?_
          have hPc := hP.sub (ws' := []) [] rfl
          have hDc := hD.sub (ws' := []) [] (by decide) rfl
          have hKc := hK.sub (tys' := []) [] rfl
          have hFc := va_free (wc := []) hD hS hA [] rfl
          refine va_calli (va_runV (As := [.int (u27_ 0)]) (rest := [.int z47]) ⟨hx, hb, hml, hown, hG⟩ (sJ0_charAt_5068e_9 l dC dI adK adV H.size (u27_ 0) ⟨show (0 : Int) ≤ ((u27_ 0) : Int32).toInt from by omega, show ((u27_ 0) : Int32).toInt ≤ (2 : Int) from by omega⟩) (cwV 1 hG (zgV zw51 zw52 zw53 zw29 zw54) rfl rfl rfl (by decide +kernel) ⟨Nat.le_of_ble_eq_true rfl, Nat.le_of_ble_eq_true rfl⟩) ⟨zPc_blind, vk_recv hZ.2.2.2.1 (i := 9) (by decide) hS, zPc_pre hPc hKc hDc hE hS hFc hZ⟩ rfl rfl hl.1 rfl (lv_room (Nat.le_of_ble_eq_true rfl)) dX9_spells_51 ⟨Nat.le_of_ble_eq_true rfl, Nat.le_of_ble_eq_true rfl⟩) hS (fun q _ h => hFc q h) hFc (fun r51_ u51_ t H1 locs ht hvm hw hB hz1 hk1 hS => ?_)
          have hw : (0 ≤ r51_.toInt ∧ r51_.toInt ≤ 255) := hw
          have b_ := hw
          obtain ⟨w51_, a51_, b51_, hP1, hK1, hD1⟩ := hB
          rw [ht] at hP1
          obtain ⟨hP, hD⟩ := va_join (wr := [(h0, .inr (9, mX9 h1 h2 v0)), (h1, .inl (k1, 600, .inl f1))]) (w1 := []) hP hD [] [0, 1] rfl rfl (by decide) (by decide) hk1 hFc hP1 hD1
          have hP : va_P (dC, dI) vwCl [(h0, .inr (9, mX9 h1 h2 v0)), (h1, .inl (k1, 600, .inl f1))] H1 := hP.sub [0, 1] rfl
          have hD : va_D A [(h0, .inr (9, mX9 h1 h2 v0)), (h1, .inl (k1, 600, .inl f1))] := hD.sub [0, 1] (by decide) rfl
          generalize H1 = H at hP hS ⊢
          clear hz1
          have b_ : -2147483648 ≤ z47.toInt ∧ z47.toInt ≤ 2147483647 := ⟨zlo _, zhi _⟩
          refine lv_icmp_eq (tgt := 59) hx hb dX9_spells_54 (by decide) (fun c_ => ?_) (fun c_ => ?_)
          · skip
            have b_ := zT_eq rfl rfl c_
            obtain ⟨z59, e_z59⟩ : ∃ z : Int32, z = (u27_ 0) + Int32.ofInt 1 := ⟨_, rfl⟩
            have b_ := zadd (x := (u27_ 0)) (y := Int32.ofInt 1) rfl (show (Int32.ofInt 1).toInt = 1 from by decide) e_z59 (by omega) (by omega)
            refine lv_iinc (v := z59) (lv' := [(4, .int z59), (0, .ref h0), (1, .int x1), (2, .int x2), (3, .ref (adK 9))]) hx hb dX9_spells_59 hl (k := 4) rfl e_z59.symm (by decide) rfl (fun ls hl => ?_)
            refine lv_goto (tgt := 27) hx hb dX9_spells_62 (by decide) ?_
            have hc : va_P (dC, dI) vwCl [(h0, .inr (9, mX9 h1 h2 v0)), (h1, .inl (k1, 600, .inl f1))] H ∧ va_D A [(h0, .inr (9, mX9 h1 h2 v0)), (h1, .inl (k1, 600, .inl f1))] ∧ va_S A s.heap H locs ∧ lv_has ls 5 [(0, .ref h0), (1, .int x1), (2, .int x2), (3, .ref (adK 9)), (4, .int z59)] ∧ (0 ≤ z59.toInt ∧ z59.toInt ≤ 3) := ⟨hP, hD, hS, lv_sub hl [1, 2, 3, 4, 0] rfl, ⟨by omega, by omega⟩⟩
            exact hJ27 H locs ls (fun i => ([z59] : List (Int32)).getD i 0) (fun _ => 0) (fun _ => (fun _ => 0)) (fun _ => (fun _ => 0)) hc (show (3 - z59.toInt).toNat < (3 - (u27_ 0).toInt).toNat from by omega)
          · skip
            have b_ := zF_eq rfl rfl c_
            refine lv_iconst (v := 0) hx hb dX9_spells_57 (by decide) ?_
            refine W.widen (k := 0) (n := 0) (by decide) (by decide) ?_
            have hpost : (0 ≤ (0 : Int32).toInt ∧ (0 : Int32).toInt ≤ 1) := ⟨by omega, by omega⟩
            have hP9 : va_P (dC, dI) vwCl [(h0, .inr (9, mX9 h1 h2 v0)), (h1, .inl (k1, 600, .inl f1))] H := hP
            have hD9 : va_D A [(h0, .inr (9, mX9 h1 h2 v0)), (h1, .inl (k1, 600, .inl f1))] := hD
            exact W.zret (v := 0) hx hb hr rfl (fun t ht hW => ⟨⟨0, (fun _ => 0), rfl, hpost, (fun _ => 0), (fun _ => (fun _ => 0)), (fun _ => (fun _ => 0)), by rw [ht]; exact hP9, va_K.moved hW.alike hK, hD9⟩, hS.F ht⟩) hS.2.2 dX9_spells_58
      · skip
        have hc : va_P (dC, dI) vwCl [(h0, .inr (9, mX9 h1 h2 v0)), (h1, .inl (k1, 600, .inl f1))] H ∧ va_D A [(h0, .inr (9, mX9 h1 h2 v0)), (h1, .inl (k1, 600, .inl f1))] ∧ va_S A s.heap H locs ∧ lv_has ls 5 [(0, .ref h0), (1, .int x1), (2, .int x2), (3, .ref (adK 9)), (4, .int 0)] ∧ (0 ≤ (0 : Int32).toInt ∧ (0 : Int32).toInt ≤ 3) := ⟨hP, hD, hS, lv_sub hl [1, 2, 3, 4, 0] rfl, ⟨by omega, by omega⟩⟩
        exact hJ27 H locs ls (fun i => ([0] : List (Int32)).getD i 0) (fun _ => 0) (fun _ => (fun _ => 0)) (fun _ => (fun _ => 0)) hc
    · skip
      have b_ := zF_le rfl rfl c_
      refine lv_iconst (v := 0) hx hb dX9_spells_22 (by decide) ?_
      refine W.widen (k := 0) (n := 0) (by decide) (by decide) ?_
      have hpost : (0 ≤ (0 : Int32).toInt ∧ (0 : Int32).toInt ≤ 1) := ⟨by omega, by omega⟩
      have hP9 : va_P (dC, dI) vwCl [(h0, .inr (9, mX9 h1 h2 v0)), (h1, .inl (k1, 600, .inl f1))] H := hP
      have hD9 : va_D A [(h0, .inr (9, mX9 h1 h2 v0)), (h1, .inl (k1, 600, .inl f1))] := hD
      exact W.zret (v := 0) hx hb hr rfl (fun t ht hW => ⟨⟨0, (fun _ => 0), rfl, hpost, (fun _ => 0), (fun _ => (fun _ => 0)), (fun _ => (fun _ => 0)), by rw [ht]; exact hP9, va_K.moved hW.alike hK, hD9⟩, hS.F ht⟩) hS.2.2 dX9_spells_23
set_option maxHeartbeats 8000000 in
set_option maxRecDepth 100000 in
theorem sJ0_coder_7d493_10 (l : Launch) (dC : Nat → ClassId) (dI : Nat → Nat → Nat) (adK adV : Nat → Nat) (sz : Nat) : Met l yJ0_coder_7d493 (zw yJ0_coder_7d493 cJ0_coder_7d493 1 (some .byte)) { frames := 0, cells := 0, slots := 0, locals := 0 } (zPc dC dI adK adV [.ref (adK 10)] sz [] []) (va_Qi (fun (r : Int32) (u : Nat → Int32) => (0 ≤ r.toInt ∧ r.toInt ≤ 0)) (fun (u : Nat → Int32) (t : State) => ∃ (ww : Nat → Int64) (aa : Nat → Nat → Int32) (bb : Nat → Nat → Int64), va_P (dC, dI) vwCl [] t.heap ∧ va_K (dC, dI) vwCl [] t ∧ va_D (va_A [] sz) []) (va_A [] sz)) 0 0 (va_A [] sz) := by
  refine Met.ofW (cc := cJ0_coder_7d493) (maxL := 1) (ret := (some .byte)) (by decide) rfl ?_
  intro p e s m args below meth c s₁ B hml hv
  obtain ⟨rfl, hsz, hP, hK, hD0, hE, hZ⟩ := hv
  have hx := B.exec
  have hb := B.bytes
  have hr := B.returns
  have hG : ∀ w ∈ zG, w.before _ s = true := fun w h => atoms_spec (ws := (zw yJ0_coder_7d493 cJ0_coder_7d493 1 (some .byte))) B.pre w (List.mem_cons_of_mem _ h)
  have hown : s.vm.findClass RJ0 = some m.cls := findClass_of_methodNamed B.named
  have hlocks := B.notSynchronized

  subst hsz
  have hD := hD0.self (sz := s.heap.size)
  generalize hAe : va_A [] s.heap.size = A at hD hZ ⊢
  have hA : ∀ q : Nat, s.heap.size ≤ q → A q := fun q h => by rw [← hAe]; exact Or.inr h
  have hS : va_S A s.heap s.heap [] := va_S.rf
  have hl := lv_entry ([.ref (adK 10)]) (n := 1) (Nat.le_of_ble_eq_true rfl)
  rw [lg_entry_eq]
  generalize (lg_sl ([.ref (adK 10)]) ++ List.replicate (1 - (lg_sl ([.ref (adK 10)])).length) Slot.unset).toArray = ls at hl ⊢
  have hl : lv_has ls 1 [(0, .ref (adK 10))] := hl
  have b_ := zk_0
  refine va_gets hx hb hZ.2.2.1 hS hown (hG _ zw24) (fun _ h => h) dJ0_coder_7d493_0 ?_
  refine lv_if_eq (tgt := 13) hx hb dJ0_coder_7d493_3 (by decide) (fun c_ => absurd c_ (by decide)) (fun c_ => ?_)
  refine lv_aload_n hx hb dJ0_coder_7d493_6 rfl (lv_at hl 0 rfl) ?_
  refine vk_getf hx hb (hZ.2.2.2.1.1 10 (by decide)).2.1 hS hown (hG _ zw25) (fun _ h => h) dJ0_coder_7d493_7 ?_
  refine lv_goto (tgt := 14) hx hb dJ0_coder_7d493_10 (by decide) ?_
  refine W.widen (k := 0) (n := 0) (by decide) (by decide) ?_
  have hpost : (0 ≤ (0 : Int32).toInt ∧ (0 : Int32).toInt ≤ 0) := ⟨by omega, by omega⟩
  have hP9 : va_P (dC, dI) vwCl [] s.heap := hP
  have hD9 : va_D A [] := hD
  exact W.zret (v := 0) hx hb hr rfl (fun t ht hW => ⟨⟨0, (fun _ => 0), rfl, hpost, (fun _ => 0), (fun _ => (fun _ => 0)), (fun _ => (fun _ => 0)), by rw [ht]; exact hP9, va_K.moved hW.alike hK, hD9⟩, hS.F ht⟩) hS.2.2 dJ0_coder_7d493_14
set_option maxHeartbeats 8000000 in
set_option maxRecDepth 100000 in
theorem sJ0_length_8abf5_10 (l : Launch) (dC : Nat → ClassId) (dI : Nat → Nat → Nat) (adK adV : Nat → Nat) (sz : Nat) : Met l yJ0_length_8abf5 (zw yJ0_length_8abf5 cJ0_length_8abf5 1 (some .int)) { frames := 1, cells := 0, slots := 0, locals := 20 } (zPc dC dI adK adV [.ref (adK 10)] sz [] []) (va_Qi (fun (r : Int32) (u : Nat → Int32) => (4 ≤ r.toInt ∧ r.toInt ≤ 4)) (fun (u : Nat → Int32) (t : State) => ∃ (ww : Nat → Int64) (aa : Nat → Nat → Int32) (bb : Nat → Nat → Int64), va_P (dC, dI) vwCl [] t.heap ∧ va_K (dC, dI) vwCl [] t ∧ va_D (va_A [] sz) []) (va_A [] sz)) 0 0 (va_A [] sz) := by
  refine Met.ofW (cc := cJ0_length_8abf5) (maxL := 1) (ret := (some .int)) (by decide) rfl ?_
  intro p e s m args below meth c s₁ B hml hv
  obtain ⟨rfl, hsz, hP, hK, hD0, hE, hZ⟩ := hv
  have hx := B.exec
  have hb := B.bytes
  have hr := B.returns
  have hG : ∀ w ∈ zG, w.before _ s = true := fun w h => atoms_spec (ws := (zw yJ0_length_8abf5 cJ0_length_8abf5 1 (some .int))) B.pre w (List.mem_cons_of_mem _ h)
  have hown : s.vm.findClass RJ0 = some m.cls := findClass_of_methodNamed B.named
  have hlocks := B.notSynchronized

  subst hsz
  have hD := hD0.self (sz := s.heap.size)
  generalize hAe : va_A [] s.heap.size = A at hD hZ ⊢
  have hA : ∀ q : Nat, s.heap.size ≤ q → A q := fun q h => by rw [← hAe]; exact Or.inr h
  have hS : va_S A s.heap s.heap [] := va_S.rf
  have hl := lv_entry ([.ref (adK 10)]) (n := 1) (Nat.le_of_ble_eq_true rfl)
  rw [lg_entry_eq]
  generalize (lg_sl ([.ref (adK 10)]) ++ List.replicate (1 - (lg_sl ([.ref (adK 10)])).length) Slot.unset).toArray = ls at hl ⊢
  have hl : lv_has ls 1 [(0, .ref (adK 10))] := hl
  have b_ := zk_4
  refine lv_aload_n hx hb dJ0_length_8abf5_0 rfl (lv_at hl 0 rfl) ?_
  refine vk_getf hx hb (hZ.2.2.2.1.1 10 (by decide)).2.2.1 hS hown (hG _ zw23) (fun _ h => h) dJ0_length_8abf5_1 ?_
  refine va_tlen (v := 4) hx hb (hZ.2.2.2.1.1 10 (by decide)).2.2.2 hS (by decide) dJ0_length_8abf5_4 ?_
  refine lv_aload_n hx hb dJ0_length_8abf5_5 rfl (lv_at hl 0 rfl) ?_
  have hPc := hP.sub (ws' := []) [] rfl
  have hDc := hD.sub (ws' := []) [] (by decide) rfl
  have hKc := hK.sub (tys' := []) [] rfl
  have hFc := va_free (wc := []) hD hS hA [] rfl
  refine va_calli (va_runV (As := []) (rest := [.int 4]) ⟨hx, hb, hml, hown, hG⟩ (sJ0_coder_7d493_10 l dC dI adK adV s.heap.size) (cwV 0 hG (zgV zw26 zw27 zw28 zw29 zw30) rfl rfl rfl (by decide +kernel) ⟨Nat.le_of_ble_eq_true rfl, Nat.le_of_ble_eq_true rfl⟩) ⟨zPc_blind, vk_recv hZ.2.2.2.1 (i := 10) (by decide) hS, zPc_pre hPc hKc hDc hE hS hFc hZ⟩ rfl rfl hl.1 rfl (lv_room (Nat.le_of_ble_eq_true rfl)) dJ0_length_8abf5_6 ⟨Nat.le_of_ble_eq_true rfl, Nat.le_of_ble_eq_true rfl⟩) hS (fun q _ h => hFc q h) hFc (fun r6_ u6_ t H1 locs ht hvm hw hB hz1 hk1 hS => ?_)
  have hw : (0 ≤ r6_.toInt ∧ r6_.toInt ≤ 0) := hw
  have b_ := hw
  obtain rfl : r6_ = (0 : Int32) := zeqi.mpr ((show r6_.toInt = 0 from by omega).trans zk_0.symm)
  obtain ⟨w6_, a6_, b6_, hP1, hK1, hD1⟩ := hB
  rw [ht] at hP1
  obtain ⟨hP, hD⟩ := va_join (wr := []) (w1 := []) hP hD [] [] rfl rfl (by decide) (by decide) hk1 hFc hP1 hD1
  have hP : va_P (dC, dI) vwCl [] H1 := hP.sub [] rfl
  have hD : va_D A [] := hD.sub [] (by decide) rfl
  generalize H1 = H at hP hS ⊢
  clear hz1
  refine lv_ishr hx hb dJ0_length_8abf5_9 ?_
  refine lv_topi (fun z9 e_z9 => ?_)
  obtain rfl : z9 = (4 : Int32) := e_z9.trans (by decide)
  refine W.widen (k := 0) (n := 0) (by decide) (by decide) ?_
  have hpost : (4 ≤ (4 : Int32).toInt ∧ (4 : Int32).toInt ≤ 4) := ⟨by omega, by omega⟩
  have hP9 : va_P (dC, dI) vwCl [] H := hP
  have hD9 : va_D A [] := hD
  exact W.iret (v := 4) hx hb hr (fun t ht hW => ⟨⟨4, (fun _ => 0), rfl, hpost, (fun _ => 0), (fun _ => (fun _ => 0)), (fun _ => (fun _ => 0)), by rw [ht]; exact hP9, va_K.moved hW.alike hK, hD9⟩, hS.F ht⟩) hS.2.2 dJ0_length_8abf5_10
set_option maxHeartbeats 8000000 in
set_option maxRecDepth 100000 in
theorem sJ0_isLatin1_aae02_10 (l : Launch) (dC : Nat → ClassId) (dI : Nat → Nat → Nat) (adK adV : Nat → Nat) (sz : Nat) : Met l yJ0_isLatin1_aae02 (zw yJ0_isLatin1_aae02 cJ0_isLatin1_aae02 1 (some .boolean)) { frames := 0, cells := 0, slots := 0, locals := 0 } (zPc dC dI adK adV [.ref (adK 10)] sz [] []) (va_Qi (fun (r : Int32) (u : Nat → Int32) => (1 ≤ r.toInt ∧ r.toInt ≤ 1)) (fun (u : Nat → Int32) (t : State) => ∃ (ww : Nat → Int64) (aa : Nat → Nat → Int32) (bb : Nat → Nat → Int64), va_P (dC, dI) vwCl [] t.heap ∧ va_K (dC, dI) vwCl [] t ∧ va_D (va_A [] sz) []) (va_A [] sz)) 0 0 (va_A [] sz) := by
  refine Met.ofW (cc := cJ0_isLatin1_aae02) (maxL := 1) (ret := (some .boolean)) (by decide) rfl ?_
  intro p e s m args below meth c s₁ B hml hv
  obtain ⟨rfl, hsz, hP, hK, hD0, hE, hZ⟩ := hv
  have hx := B.exec
  have hb := B.bytes
  have hr := B.returns
  have hG : ∀ w ∈ zG, w.before _ s = true := fun w h => atoms_spec (ws := (zw yJ0_isLatin1_aae02 cJ0_isLatin1_aae02 1 (some .boolean))) B.pre w (List.mem_cons_of_mem _ h)
  have hown : s.vm.findClass RJ0 = some m.cls := findClass_of_methodNamed B.named
  have hlocks := B.notSynchronized

  subst hsz
  have hD := hD0.self (sz := s.heap.size)
  generalize hAe : va_A [] s.heap.size = A at hD hZ ⊢
  have hA : ∀ q : Nat, s.heap.size ≤ q → A q := fun q h => by rw [← hAe]; exact Or.inr h
  have hS : va_S A s.heap s.heap [] := va_S.rf
  have hl := lv_entry ([.ref (adK 10)]) (n := 1) (Nat.le_of_ble_eq_true rfl)
  rw [lg_entry_eq]
  generalize (lg_sl ([.ref (adK 10)]) ++ List.replicate (1 - (lg_sl ([.ref (adK 10)])).length) Slot.unset).toArray = ls at hl ⊢
  have hl : lv_has ls 1 [(0, .ref (adK 10))] := hl
  have b_ := zk_1
  refine va_gets hx hb hZ.2.2.1 hS hown (hG _ zw24) (fun _ h => h) dJ0_isLatin1_aae02_0 ?_
  refine lv_if_eq (tgt := 17) hx hb dJ0_isLatin1_aae02_3 (by decide) (fun c_ => absurd c_ (by decide)) (fun c_ => ?_)
  refine lv_aload_n hx hb dJ0_isLatin1_aae02_6 rfl (lv_at hl 0 rfl) ?_
  refine vk_getf hx hb (hZ.2.2.2.1.1 10 (by decide)).2.1 hS hown (hG _ zw25) (fun _ h => h) dJ0_isLatin1_aae02_7 ?_
  refine lv_if_ne (tgt := 17) hx hb dJ0_isLatin1_aae02_10 (by decide) (fun c_ => absurd c_ (by decide)) (fun c_ => ?_)
  refine lv_iconst (v := 1) hx hb dJ0_isLatin1_aae02_13 (by decide) ?_
  refine lv_goto (tgt := 18) hx hb dJ0_isLatin1_aae02_14 (by decide) ?_
  refine W.widen (k := 0) (n := 0) (by decide) (by decide) ?_
  have hpost : (1 ≤ (1 : Int32).toInt ∧ (1 : Int32).toInt ≤ 1) := ⟨by omega, by omega⟩
  have hP9 : va_P (dC, dI) vwCl [] s.heap := hP
  have hD9 : va_D A [] := hD
  exact W.zret (v := 1) hx hb hr rfl (fun t ht hW => ⟨⟨1, (fun _ => 0), rfl, hpost, (fun _ => 0), (fun _ => (fun _ => 0)), (fun _ => (fun _ => 0)), by rw [ht]; exact hP9, va_K.moved hW.alike hK, hD9⟩, hS.F ht⟩) hS.2.2 dJ0_isLatin1_aae02_18
