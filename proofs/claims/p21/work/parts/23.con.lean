set_option maxHeartbeats 8000000 in
set_option maxRecDepth 100000 in
theorem sX5_tenFrom_0 (l : Launch) (dC : Nat → ClassId) (dI : Nat → Nat → Nat) (adK adV : Nat → Nat) (h0 : Nat) (h1 : Nat) (k1 : ClassId) (sz : Nat) (f1 : Nat → Int32) (x1 : Int32) (hx1 : 0 ≤ x1.toInt ∧ x1.toInt ≤ 831) : Met l yX5_tenFrom (zw yX5_tenFrom cX5_tenFrom 5 (some .int)) { frames := 0, cells := 0, slots := 0, locals := 0 } (zPc dC dI adK adV [.ref h0, .int x1] sz [(h0, .inr (5, mX5 h1)), (h1, zi k1 26 f1)] [(k1, .int)]) (va_Qi (fun (r : Int32) (u : Nat → Int32) => (0 ≤ r.toInt ∧ r.toInt ≤ 1023)) (fun (u : Nat → Int32) (t : State) => ∃ (ww : Nat → Int64) (aa : Nat → Nat → Int32) (bb : Nat → Nat → Int64), va_P (dC, dI) vwCl [(h0, .inr (5, mX5 h1)), (h1, zi k1 26 f1)] t.heap ∧ va_K (dC, dI) vwCl [(k1, .int)] t ∧ va_D (va_A [(h0, .inr (5, mX5 h1)), (h1, zi k1 26 f1)] sz) [(h0, .inr (5, mX5 h1)), (h1, zi k1 26 f1)]) (va_A [(h0, .inr (5, mX5 h1)), (h1, zi k1 26 f1)] sz)) 0 0 (va_A [(h0, .inr (5, mX5 h1)), (h1, zi k1 26 f1)] sz) := by
  refine Met.ofW (cc := cX5_tenFrom) (maxL := 5) (ret := (some .int)) (by decide) rfl ?_
  intro p e s m args below meth c s₁ B hml hv
  obtain ⟨rfl, hsz, hP, hK, hD0, hE, hZ⟩ := hv
  have hx := B.exec
  have hb := B.bytes
  have hr := B.returns
  have hG : ∀ w ∈ zG, w.before _ s = true := fun w h => atoms_spec (ws := (zw yX5_tenFrom cX5_tenFrom 5 (some .int))) B.pre w (List.mem_cons_of_mem _ h)
  have hown : s.vm.findClass RX5 = some m.cls := findClass_of_methodNamed B.named
  have hlocks := B.notSynchronized

  subst hsz
  have hD := hD0.self (sz := s.heap.size)
  generalize hAe : va_A [(h0, .inr (5, mX5 h1)), (h1, zi k1 26 f1)] s.heap.size = A at hD hZ ⊢
  have hA : ∀ q : Nat, s.heap.size ≤ q → A q := fun q h => by rw [← hAe]; exact Or.inr h
  have hS : va_S A s.heap s.heap [] := va_S.rf
  have hl := lv_entry ([.ref h0, .int x1]) (n := 5) (Nat.le_of_ble_eq_true rfl)
  rw [lg_entry_eq]
  generalize (lg_sl ([.ref h0, .int x1]) ++ List.replicate (5 - (lg_sl ([.ref h0, .int x1])).length) Slot.unset).toArray = ls at hl ⊢
  have hl : lv_has ls 5 [(0, .ref h0), (1, .int x1)] := hl
  refine lv_iload_n hx hb dX5_tenFrom_0 rfl (lv_at hl 1 rfl) ?_
  refine lv_bipush (v := 32) hx hb dX5_tenFrom_1 (by decide) ?_
  refine lv_idiv hx hb dX5_tenFrom_3 (by decide) ?_
  refine lv_topi (fun z3 e_z3 => ?_)
  have b_ := zdiv rfl zk_32 e_z3 (by omega) (by decide)
  refine lv_istore_n (lv' := [(2, .int z3), (0, .ref h0), (1, .int x1)]) hx hb dX5_tenFrom_4 rfl hl (by decide) rfl (fun ls hl => ?_)
  refine lv_aload_n hx hb dX5_tenFrom_5 rfl (lv_at hl 1 rfl) ?_
  refine va_get (D := (dC, dI)) (ci := 5) (v := .ref h1) (C := RX5) (T := TX5) (N := 1) hx hb hG zuX5 hown hK hP 0 rfl rfl 0 (by decide) (hG _ zv458) (fun _ h9 => h9) rfl dX5_tenFrom_6 ?_
  refine lv_iload_n hx hb dX5_tenFrom_9 rfl (lv_at hl 0 rfl) ?_
  refine va_iald hx hb hK hP 1 0 rfl rfl (zin_lit ⟨by omega, by omega⟩) dX5_tenFrom_10 ?_
  refine lv_topi (fun z10 e_z10 => ?_)
  refine lv_i2l hx hb dX5_tenFrom_11 rfl ?_
  refine lv_topl (fun y_11 e_y_11 => ?_)
  refine lv_ldc2 hx hb hown (hG _ zv1346) dX5_tenFrom_12 ?_
  refine lv_land hx hb dX5_tenFrom_15 ?_
  refine lv_topl (fun y_15 e_y_15 => ?_)
  refine lv_lstore_n (lv' := [(3, .long y_15), (2, .int z3), (0, .ref h0), (1, .int x1)]) hx hb dX5_tenFrom_16 rfl hl (by decide) rfl (fun ls hl => ?_)
  refine lv_iload_n hx hb dX5_tenFrom_17 rfl (lv_at hl 1 rfl) ?_
  refine lv_iconst (v := 1) hx hb dX5_tenFrom_18 (by decide) ?_
  refine lv_iadd hx hb dX5_tenFrom_19 ?_
  refine lv_topi (fun z19 e_z19 => ?_)
  have b_ := zadd rfl zk_1 e_z19 (by omega) (by omega)
  refine lv_bipush (v := 26) hx hb dX5_tenFrom_20 (by decide) ?_
  refine zcutW (fun H locs ls u40_ w40_ a40_ b40_ => va_P (dC, dI) vwCl [(h0, .inr (5, mX5 h1)), (h1, zi k1 26 f1)] H ∧ va_D A [(h0, .inr (5, mX5 h1)), (h1, zi k1 26 f1)] ∧ va_S A s.heap H locs ∧ lv_has ls 5 [(0, .ref h0), (1, .int x1), (2, .int z3), (3, .long (w40_ 0))] ∧ (1 ≤ z19.toInt ∧ z19.toInt ≤ 26) ∧ (0 ≤ z3.toInt ∧ z3.toInt ≤ 25)) (fun ls u40_ w40_ => F0 m 40 ls []) 0 0 ?_ (fun hJ40 => ?_)
  · skip
    intro H locs ls u40_ w40_ a40_ b40_ hc
    obtain ⟨hP, hD, hS, hl, b_, b_⟩ := hc
    refine lv_lload_n hx hb dX5_tenFrom_40 rfl (lv_at hl 3 rfl) ?_
    refine lv_iload_n hx hb dX5_tenFrom_41 rfl (lv_at hl 1 rfl) ?_
    refine lv_bipush (v := 32) hx hb dX5_tenFrom_42 (by decide) ?_
    refine lv_irem hx hb dX5_tenFrom_44 (by decide) ?_
    refine lv_topi (fun z44 e_z44 => ?_)
    have b_ := zrem rfl zk_32 e_z44 (by omega) (by decide)
    refine lv_lushr hx hb dX5_tenFrom_45 rfl ?_
    refine lv_topl (fun y_45 e_y_45 => ?_)
    refine lv_l2i hx hb dX5_tenFrom_46 rfl ?_
    refine lv_topi (fun z46 e_z46 => ?_)
    refine lv_sipush (v := 1023) hx hb dX5_tenFrom_47 (by decide) ?_
    have b_ : -2147483648 ≤ z46.toInt ∧ z46.toInt ≤ 2147483647 := ⟨zlo _, zhi _⟩
    refine lv_iand hx hb dX5_tenFrom_50 ?_
    refine lv_topi (fun z50 e_z50 => ?_)
    have b_ := zand (x := z46) zk_1023 e_z50 (by decide)
    refine W.widen (k := 0) (n := 0) (by decide) (by decide) ?_
    have hpost : (0 ≤ z50.toInt ∧ z50.toInt ≤ 1023) := (by first | with_reducible assumption | exact ⟨by omega, by omega⟩)
    have hP9 : va_P (dC, dI) vwCl [(h0, .inr (5, mX5 h1)), (h1, zi k1 26 f1)] H := hP
    have hD9 : va_D A [(h0, .inr (5, mX5 h1)), (h1, zi k1 26 f1)] := hD
    exact W.iret (v := z50) hx hb hr (fun t ht hW => ⟨⟨z50, (fun _ => 0), rfl, hpost, (fun _ => 0), (fun _ => (fun _ => 0)), (fun _ => (fun _ => 0)), by rw [ht]; exact hP9, va_K.moved hW.alike hK, hD9⟩, hS.F ht⟩) hS.2.2 dX5_tenFrom_51
  · skip
    refine lv_icmp_ge (tgt := 40) hx hb dX5_tenFrom_22 (by decide) (fun c_ => ?_) (fun c_ => ?_)
    · skip
      have b_ := zT_ge rfl zk_26 c_
      have hc : va_P (dC, dI) vwCl [(h0, .inr (5, mX5 h1)), (h1, zi k1 26 f1)] s.heap ∧ va_D A [(h0, .inr (5, mX5 h1)), (h1, zi k1 26 f1)] ∧ va_S A s.heap s.heap [] ∧ lv_has ls 5 [(0, .ref h0), (1, .int x1), (2, .int z3), (3, .long y_15)] ∧ (1 ≤ z19.toInt ∧ z19.toInt ≤ 26) ∧ (0 ≤ z3.toInt ∧ z3.toInt ≤ 25) := ⟨hP, hD, hS, lv_sub hl [2, 3, 1, 0] rfl, (by first | with_reducible assumption | exact ⟨by omega, by omega⟩), (by first | with_reducible assumption | exact ⟨by omega, by omega⟩)⟩
      exact hJ40 s.heap [] ls (fun _ => 0) (fun i => ([y_15] : List (Int64)).getD i 0) (fun _ => (fun _ => 0)) (fun _ => (fun _ => 0)) hc
    · skip
      have b_ := zF_ge rfl zk_26 c_
      refine lv_lload_n hx hb dX5_tenFrom_25 rfl (lv_at hl 0 rfl) ?_
      refine lv_aload_n hx hb dX5_tenFrom_26 rfl (lv_at hl 2 rfl) ?_
      refine va_get (D := (dC, dI)) (ci := 5) (v := .ref h1) (C := RX5) (T := TX5) (N := 1) hx hb hG zuX5 hown hK hP 0 rfl rfl 0 (by decide) (hG _ zv458) (fun _ h9 => h9) rfl dX5_tenFrom_27 ?_
      refine lv_iload_n hx hb dX5_tenFrom_30 rfl (lv_at hl 1 rfl) ?_
      refine lv_iconst (v := 1) hx hb dX5_tenFrom_31 (by decide) ?_
      refine lv_iadd hx hb dX5_tenFrom_32 ?_
      refine lv_topi (fun z32 e_z32 => ?_)
      have b_ := zadd rfl zk_1 e_z32 (by omega) (by omega)
      refine va_iald hx hb hK hP 1 0 rfl rfl (zin_lit ⟨by omega, by omega⟩) dX5_tenFrom_33 ?_
      refine lv_topi (fun z33 e_z33 => ?_)
      refine lv_i2l hx hb dX5_tenFrom_34 rfl ?_
      refine lv_topl (fun y_34 e_y_34 => ?_)
      refine lv_bipush (v := 32) hx hb dX5_tenFrom_35 (by decide) ?_
      refine lv_lshl hx hb dX5_tenFrom_37 rfl ?_
      refine lv_topl (fun y_37 e_y_37 => ?_)
      refine lv_lor hx hb dX5_tenFrom_38 ?_
      refine lv_topl (fun y_38 e_y_38 => ?_)
      refine lv_lstore_n (lv' := [(3, .long y_38), (2, .int z3), (0, .ref h0), (1, .int x1)]) hx hb dX5_tenFrom_39 rfl hl (by decide) rfl (fun ls hl => ?_)
      have hc : va_P (dC, dI) vwCl [(h0, .inr (5, mX5 h1)), (h1, zi k1 26 f1)] s.heap ∧ va_D A [(h0, .inr (5, mX5 h1)), (h1, zi k1 26 f1)] ∧ va_S A s.heap s.heap [] ∧ lv_has ls 5 [(0, .ref h0), (1, .int x1), (2, .int z3), (3, .long y_38)] ∧ (1 ≤ z19.toInt ∧ z19.toInt ≤ 26) ∧ (0 ≤ z3.toInt ∧ z3.toInt ≤ 25) := ⟨hP, hD, hS, lv_sub hl [2, 3, 1, 0] rfl, (by first | with_reducible assumption | exact ⟨by omega, by omega⟩), (by first | with_reducible assumption | exact ⟨by omega, by omega⟩)⟩
      exact hJ40 s.heap [] ls (fun _ => 0) (fun i => ([y_38] : List (Int64)).getD i 0) (fun _ => (fun _ => 0)) (fun _ => (fun _ => 0)) hc
set_option maxHeartbeats 8000000 in
set_option maxRecDepth 100000 in
theorem sX5_fullest_0 (l : Launch) (dC : Nat → ClassId) (dI : Nat → Nat → Nat) (adK adV : Nat → Nat) (h0 : Nat) (h1 : Nat) (k1 : ClassId) (sz : Nat) (f1 : Nat → Int32) : Met l yX5_fullest (zw yX5_fullest cX5_fullest 6 (some .int)) { frames := 2, cells := 0, slots := 0, locals := 44 } (zPc dC dI adK adV [.ref h0] sz [(h0, .inr (5, mX5 h1)), (h1, zi k1 26 f1)] [(k1, .int)]) (va_Qi (fun (r : Int32) (u : Nat → Int32) => ((-1) ≤ r.toInt ∧ r.toInt ≤ 832)) (fun (u : Nat → Int32) (t : State) => ∃ (ww : Nat → Int64) (aa : Nat → Nat → Int32) (bb : Nat → Nat → Int64), va_P (dC, dI) vwCl [(h0, .inr (5, mX5 h1)), (h1, zi k1 26 f1)] t.heap ∧ va_K (dC, dI) vwCl [(k1, .int)] t ∧ va_D (va_A [(h0, .inr (5, mX5 h1)), (h1, zi k1 26 f1)] sz) [(h0, .inr (5, mX5 h1)), (h1, zi k1 26 f1)]) (va_A [(h0, .inr (5, mX5 h1)), (h1, zi k1 26 f1)] sz)) 0 0 (va_A [(h0, .inr (5, mX5 h1)), (h1, zi k1 26 f1)] sz) := by
  refine Met.ofW (cc := cX5_fullest) (maxL := 6) (ret := (some .int)) (by decide) rfl ?_
  intro p e s m args below meth c s₁ B hml hv
  obtain ⟨rfl, hsz, hP, hK, hD0, hE, hZ⟩ := hv
  have hx := B.exec
  have hb := B.bytes
  have hr := B.returns
  have hG : ∀ w ∈ zG, w.before _ s = true := fun w h => atoms_spec (ws := (zw yX5_fullest cX5_fullest 6 (some .int))) B.pre w (List.mem_cons_of_mem _ h)
  have hown : s.vm.findClass RX5 = some m.cls := findClass_of_methodNamed B.named
  have hlocks := B.notSynchronized

  subst hsz
  have hD := hD0.self (sz := s.heap.size)
  generalize hAe : va_A [(h0, .inr (5, mX5 h1)), (h1, zi k1 26 f1)] s.heap.size = A at hD hZ ⊢
  have hA : ∀ q : Nat, s.heap.size ≤ q → A q := fun q h => by rw [← hAe]; exact Or.inr h
  have hS : va_S A s.heap s.heap [] := va_S.rf
  have hl := lv_entry ([.ref h0]) (n := 6) (Nat.le_of_ble_eq_true rfl)
  rw [lg_entry_eq]
  generalize (lg_sl ([.ref h0]) ++ List.replicate (6 - (lg_sl ([.ref h0])).length) Slot.unset).toArray = ls at hl ⊢
  have hl : lv_has ls 6 [(0, .ref h0)] := hl
  have b_ := zk_m1
  have b_ := zk_0
  refine lv_iconst (v := (-1)) hx hb dX5_fullest_0 (by decide) ?_
  refine lv_istore_n (lv' := [(1, .int (-1)), (0, .ref h0)]) hx hb dX5_fullest_1 rfl hl (by decide) rfl (fun ls hl => ?_)
  refine lv_iconst (v := 0) hx hb dX5_fullest_2 (by decide) ?_
  refine lv_istore_n (lv' := [(2, .int 0), (1, .int (-1)), (0, .ref h0)]) hx hb dX5_fullest_3 rfl hl (by decide) rfl (fun ls hl => ?_)
  refine lv_aload_n hx hb dX5_fullest_4 rfl (lv_at hl 2 rfl) ?_
  refine lv_iconst (v := 0) hx hb dX5_fullest_5 (by decide) ?_
  have hPc := hP.sub (ws' := [(h0, .inr (5, mX5 h1)), (h1, zi k1 26 f1)]) [0, 1] rfl
  have hDc := hD.sub (ws' := [(h0, .inr (5, mX5 h1)), (h1, zi k1 26 f1)]) [0, 1] (by decide) rfl
  have hKc := hK.sub (tys' := [(k1, .int)]) [0] rfl
  have hFc := va_free (wc := [(h0, .inr (5, mX5 h1)), (h1, zi k1 26 f1)]) hD hS hA [0, 1] rfl
  refine va_calli (va_runV (As := [.int 0]) (rest := []) ⟨hx, hb, hml, hown, hG⟩ (sX5_nextFrom_0 l dC dI adK adV h0 h1 k1 s.heap.size f1 0) (cwV 1 hG (zgV zv1314 zv1315 zv1316 zv139 zv1317) rfl rfl rfl (by decide +kernel) ⟨Nat.le_of_ble_eq_true rfl, Nat.le_of_ble_eq_true rfl⟩) ⟨zPc_blind, va_recv hKc hPc (ci := 5) (q0 := 0) rfl rfl, zPc_pre hPc hKc hDc hE hS hFc hZ⟩ rfl rfl hl.1 rfl (lv_room (Nat.le_of_ble_eq_true rfl)) dX5_fullest_6 ⟨Nat.le_of_ble_eq_true rfl, Nat.le_of_ble_eq_true rfl⟩) hS (fun q _ h => hFc q h) hFc (fun r6_ u6_ t H1 locs ht hvm hw hB hz1 hk1 hS => ?_)
  replace hw : ((-1) ≤ r6_.toInt ∧ r6_.toInt ≤ 832) ∧ (r6_.toInt ≤ 831) := hw
  obtain ⟨b_, hX6_0⟩ := hw
  obtain ⟨w6_, a6_, b6_, hP1, hK1, hD1⟩ := hB
  rw [ht] at hP1
  obtain ⟨hP, hD⟩ := va_join (wr := []) (w1 := [(h0, .inr (5, mX5 h1)), (h1, zi k1 26 f1)]) hP hD [0, 1] [] rfl rfl (by decide) (by decide) hk1 hFc hP1 hD1
  have hP : va_P (dC, dI) vwCl [(h0, .inr (5, mX5 h1)), (h1, zi k1 26 f1)] H1 := hP.sub [0, 1] rfl
  have hD : va_D A [(h0, .inr (5, mX5 h1)), (h1, zi k1 26 f1)] := hD.sub [0, 1] (by decide) rfl
  generalize H1 = H at hP hS ⊢
  clear hz1
  refine lv_istore_n (lv' := [(3, .int r6_), (2, .int 0), (1, .int (-1)), (0, .ref h0)]) hx hb dX5_fullest_9 rfl hl (by decide) rfl (fun ls hl => ?_)
  refine lv_iconst (v := 0) hx hb dX5_fullest_10 (by decide) ?_
  refine lv_istore (lv' := [(4, .int 0), (3, .int r6_), (2, .int 0), (1, .int (-1)), (0, .ref h0)]) hx hb dX5_fullest_11 hl (by decide) rfl (fun ls hl => ?_)
  refine zcutL (fun u13_ => (832 - (u13_ 3).toInt).toNat) (fun H locs ls u13_ w13_ a13_ b13_ => va_P (dC, dI) vwCl [(h0, .inr (5, mX5 h1)), (h1, zi k1 26 f1)] H ∧ va_D A [(h0, .inr (5, mX5 h1)), (h1, zi k1 26 f1)] ∧ va_S A s.heap H locs ∧ lv_has ls 6 [(0, .ref h0), (1, .int (u13_ 0)), (2, .int (u13_ 1)), (3, .int (u13_ 2)), (4, .int (u13_ 3))] ∧ ((-1) ≤ (u13_ 0).toInt ∧ (u13_ 0).toInt ≤ 832) ∧ (0 ≤ (u13_ 1).toInt ∧ (u13_ 1).toInt ≤ 63) ∧ ((-1) ≤ (u13_ 2).toInt ∧ (u13_ 2).toInt ≤ 831) ∧ (0 ≤ (u13_ 3).toInt ∧ (u13_ 3).toInt ≤ 832)) (fun ls u13_ w13_ => F0 m 13 ls []) 0 0 ?_ (fun hJ13 => ?_)
  · skip
    intro H locs ls u13_ w13_ a13_ b13_ hc hJ13
    obtain ⟨hP, hD, hS, hl, b_, b_, b_, b_⟩ := hc
    refine lv_iload hx hb dX5_fullest_13 (lv_at hl 4 rfl) ?_
    refine lv_sipush (v := 832) hx hb dX5_fullest_15 (by decide) ?_
    refine lv_icmp_ge (tgt := 61) hx hb dX5_fullest_18 (by decide) (fun c_ => ?_) (fun c_ => ?_)
    · skip
      have b_ := zT_ge rfl zk_832 c_
      refine lv_iload_n hx hb dX5_fullest_61 rfl (lv_at hl 1 rfl) ?_
      refine W.widen (k := 0) (n := 0) (by decide) (by decide) ?_
      have hpost : ((-1) ≤ (u13_ 0).toInt ∧ (u13_ 0).toInt ≤ 832) := (by first | with_reducible assumption | exact ⟨by omega, by omega⟩)
      have hP9 : va_P (dC, dI) vwCl [(h0, .inr (5, mX5 h1)), (h1, zi k1 26 f1)] H := hP
      have hD9 : va_D A [(h0, .inr (5, mX5 h1)), (h1, zi k1 26 f1)] := hD
      exact W.iret (v := (u13_ 0)) hx hb hr (fun t ht hW => ⟨⟨(u13_ 0), (fun _ => 0), rfl, hpost, (fun _ => 0), (fun _ => (fun _ => 0)), (fun _ => (fun _ => 0)), by rw [ht]; exact hP9, va_K.moved hW.alike hK, hD9⟩, hS.F ht⟩) hS.2.2 dX5_fullest_62
    · skip
      have b_ := zF_ge rfl zk_832 c_
      refine lv_iload_n hx hb dX5_fullest_21 rfl (lv_at hl 3 rfl) ?_
      refine lv_iconst (v := (-1)) hx hb dX5_fullest_22 (by decide) ?_
      refine lv_icmp_eq (tgt := 61) hx hb dX5_fullest_23 (by decide) (fun c_ => ?_) (fun c_ => ?_)
      · skip
        have b_ := zT_eq rfl zk_m1 c_
        refine lv_iload_n hx hb dX5_fullest_61 rfl (lv_at hl 1 rfl) ?_
        refine W.widen (k := 0) (n := 0) (by decide) (by decide) ?_
        have hpost : ((-1) ≤ (u13_ 0).toInt ∧ (u13_ 0).toInt ≤ 832) := (by first | with_reducible assumption | exact ⟨by omega, by omega⟩)
        have hP9 : va_P (dC, dI) vwCl [(h0, .inr (5, mX5 h1)), (h1, zi k1 26 f1)] H := hP
        have hD9 : va_D A [(h0, .inr (5, mX5 h1)), (h1, zi k1 26 f1)] := hD
        exact W.iret (v := (u13_ 0)) hx hb hr (fun t ht hW => ⟨⟨(u13_ 0), (fun _ => 0), rfl, hpost, (fun _ => 0), (fun _ => (fun _ => 0)), (fun _ => (fun _ => 0)), by rw [ht]; exact hP9, va_K.moved hW.alike hK, hD9⟩, hS.F ht⟩) hS.2.2 dX5_fullest_62
      · skip
        have b_ := zF_eq rfl zk_m1 c_
        refine lv_aload_n hx hb dX5_fullest_26 rfl (lv_at hl 0 rfl) ?_
        refine lv_iload_n hx hb dX5_fullest_27 rfl (lv_at hl 3 rfl) ?_
        have hPc := hP.sub (ws' := [(h0, .inr (5, mX5 h1)), (h1, zi k1 26 f1)]) [0, 1] rfl
        have hDc := hD.sub (ws' := [(h0, .inr (5, mX5 h1)), (h1, zi k1 26 f1)]) [0, 1] (by decide) rfl
        have hKc := hK.sub (tys' := [(k1, .int)]) [0] rfl
        have hFc := va_free (wc := [(h0, .inr (5, mX5 h1)), (h1, zi k1 26 f1)]) hD hS hA [0, 1] rfl
        refine va_calli (va_runV (As := [.int (u13_ 2)]) (rest := []) ⟨hx, hb, hml, hown, hG⟩ (sX5_tenFrom_0 l dC dI adK adV h0 h1 k1 H.size f1 (u13_ 2) (show (0 : Int) ≤ ((u13_ 2) : Int32).toInt ∧ ((u13_ 2) : Int32).toInt ≤ (831 : Int) from (by first | with_reducible assumption | exact ⟨by omega, by omega⟩))) (cwV 1 hG (zgV zv1342 zv1344 zv44 zv139 zv1345) rfl rfl rfl (by decide +kernel) ⟨Nat.le_of_ble_eq_true rfl, Nat.le_of_ble_eq_true rfl⟩) ⟨zPc_blind, va_recv hKc hPc (ci := 5) (q0 := 0) rfl rfl, zPc_pre hPc hKc hDc hE hS hFc hZ⟩ rfl rfl hl.1 rfl (lv_room (Nat.le_of_ble_eq_true rfl)) dX5_fullest_28 ⟨Nat.le_of_ble_eq_true rfl, Nat.le_of_ble_eq_true rfl⟩) hS (fun q _ h => hFc q h) hFc (fun r28_ u28_ t H1 locs ht hvm hw hB hz1 hk1 hS => ?_)
        replace hw : (0 ≤ r28_.toInt ∧ r28_.toInt ≤ 1023) := hw
        have b_ := hw
        obtain ⟨w28_, a28_, b28_, hP1, hK1, hD1⟩ := hB
        rw [ht] at hP1
        obtain ⟨hP, hD⟩ := va_join (wr := []) (w1 := [(h0, .inr (5, mX5 h1)), (h1, zi k1 26 f1)]) hP hD [0, 1] [] rfl rfl (by decide) (by decide) hk1 hFc hP1 hD1
        have hP : va_P (dC, dI) vwCl [(h0, .inr (5, mX5 h1)), (h1, zi k1 26 f1)] H1 := hP.sub [0, 1] rfl
        have hD : va_D A [(h0, .inr (5, mX5 h1)), (h1, zi k1 26 f1)] := hD.sub [0, 1] (by decide) rfl
        generalize H1 = H at hP hS ⊢
        clear hz1
        have hPc := hP.sub (ws' := []) [] rfl
        have hDc := hD.sub (ws' := []) [] (by decide) rfl
        have hKc := hK.sub (tys' := []) [] rfl
        have hFc := va_free (wc := []) hD hS hA [] rfl
        refine va_calli (va_runS (As := [.int r28_]) (rest := []) ⟨hx, hb, hml, hown, hG⟩ (sJ6_bitCount_0f7a4_0 l dC dI adK adV H.size r28_) (va_cwS 1 hG (zgS zv1292 zv1293 zv151 zv1294) rfl rfl rfl (by decide +kernel) ⟨Nat.le_of_ble_eq_true rfl, Nat.le_of_ble_eq_true rfl⟩) ⟨zPc_blind, zPc_pre hPc hKc hDc hE hS hFc hZ⟩ rfl rfl hl.1 rfl (lv_room (Nat.le_of_ble_eq_true rfl)) dX5_fullest_31 ⟨Nat.le_of_ble_eq_true rfl, Nat.le_of_ble_eq_true rfl⟩) hS (fun q _ h => hFc q h) hFc (fun r31_ u31_ t H1 locs ht hvm hw hB hz1 hk1 hS => ?_)
        replace hw : (0 ≤ r31_.toInt ∧ r31_.toInt ≤ 63) := hw
        have b_ := hw
        obtain ⟨w31_, a31_, b31_, hP1, hK1, hD1⟩ := hB
        rw [ht] at hP1
        obtain ⟨hP, hD⟩ := va_join (wr := [(h0, .inr (5, mX5 h1)), (h1, zi k1 26 f1)]) (w1 := []) hP hD [] [0, 1] rfl rfl (by decide) (by decide) hk1 hFc hP1 hD1
        have hP : va_P (dC, dI) vwCl [(h0, .inr (5, mX5 h1)), (h1, zi k1 26 f1)] H1 := hP.sub [0, 1] rfl
        have hD : va_D A [(h0, .inr (5, mX5 h1)), (h1, zi k1 26 f1)] := hD.sub [0, 1] (by decide) rfl
        generalize H1 = H at hP hS ⊢
        clear hz1
        refine lv_istore (lv' := [(5, .int r31_), (0, .ref h0), (1, .int (u13_ 0)), (2, .int (u13_ 1)), (3, .int (u13_ 2)), (4, .int (u13_ 3))]) hx hb dX5_fullest_34 hl (by decide) rfl (fun ls hl => ?_)
        refine lv_iload hx hb dX5_fullest_36 (lv_at hl 0 rfl) ?_
        refine lv_iload_n hx hb dX5_fullest_38 rfl (lv_at hl 3 rfl) ?_
        refine zcutW (fun H locs ls u47_ w47_ a47_ b47_ => va_P (dC, dI) vwCl [(h0, .inr (5, mX5 h1)), (h1, zi k1 26 f1)] H ∧ va_D A [(h0, .inr (5, mX5 h1)), (h1, zi k1 26 f1)] ∧ va_S A s.heap H locs ∧ lv_has ls 6 [(0, .ref h0), (1, .int (u47_ 0)), (2, .int (u47_ 1)), (3, .int (u13_ 2)), (4, .int (u13_ 3)), (5, .int r31_)] ∧ ((-1) ≤ (u47_ 0).toInt ∧ (u47_ 0).toInt ≤ 832) ∧ (0 ≤ (u47_ 1).toInt ∧ (u47_ 1).toInt ≤ 63) ∧ (0 ≤ r31_.toInt ∧ r31_.toInt ≤ 63) ∧ (0 ≤ (u13_ 1).toInt ∧ (u13_ 1).toInt ≤ 63)) (fun ls u47_ w47_ => F0 m 47 ls []) 0 0 ?_ (fun hJ47 => ?_)
        · skip
          intro H locs ls u47_ w47_ a47_ b47_ hc
          obtain ⟨hP, hD, hS, hl, b_, b_, b_, b_⟩ := hc
          refine lv_aload_n hx hb dX5_fullest_47 rfl (lv_at hl 0 rfl) ?_
          refine lv_iload_n hx hb dX5_fullest_48 rfl (lv_at hl 3 rfl) ?_
          refine lv_iconst (v := 1) hx hb dX5_fullest_49 (by decide) ?_
          refine lv_iadd hx hb dX5_fullest_50 ?_
          refine lv_topi (fun z50 e_z50 => ?_)
          have b_ := zadd rfl zk_1 e_z50 (by omega) (by omega)
          have hPc := hP.sub (ws' := [(h0, .inr (5, mX5 h1)), (h1, zi k1 26 f1)]) [0, 1] rfl
          have hDc := hD.sub (ws' := [(h0, .inr (5, mX5 h1)), (h1, zi k1 26 f1)]) [0, 1] (by decide) rfl
          have hKc := hK.sub (tys' := [(k1, .int)]) [0] rfl
          have hFc := va_free (wc := [(h0, .inr (5, mX5 h1)), (h1, zi k1 26 f1)]) hD hS hA [0, 1] rfl
          refine va_calli (va_runV (As := [.int z50]) (rest := []) ⟨hx, hb, hml, hown, hG⟩ (sX5_nextFrom_0 l dC dI adK adV h0 h1 k1 H.size f1 z50) (cwV 1 hG (zgV zv1314 zv1315 zv1316 zv139 zv1317) rfl rfl rfl (by decide +kernel) ⟨Nat.le_of_ble_eq_true rfl, Nat.le_of_ble_eq_true rfl⟩) ⟨zPc_blind, va_recv hKc hPc (ci := 5) (q0 := 0) rfl rfl, zPc_pre hPc hKc hDc hE hS hFc hZ⟩ rfl rfl hl.1 rfl (lv_room (Nat.le_of_ble_eq_true rfl)) dX5_fullest_51 ⟨Nat.le_of_ble_eq_true rfl, Nat.le_of_ble_eq_true rfl⟩) hS (fun q _ h => hFc q h) hFc (fun r51_ u51_ t H1 locs ht hvm hw hB hz1 hk1 hS => ?_)
          replace hw : ((-1) ≤ r51_.toInt ∧ r51_.toInt ≤ 832) ∧ (r51_.toInt ≤ 831) := hw
          obtain ⟨b_, hX51_0⟩ := hw
          obtain ⟨w51_, a51_, b51_, hP1, hK1, hD1⟩ := hB
          rw [ht] at hP1
          obtain ⟨hP, hD⟩ := va_join (wr := []) (w1 := [(h0, .inr (5, mX5 h1)), (h1, zi k1 26 f1)]) hP hD [0, 1] [] rfl rfl (by decide) (by decide) hk1 hFc hP1 hD1
          have hP : va_P (dC, dI) vwCl [(h0, .inr (5, mX5 h1)), (h1, zi k1 26 f1)] H1 := hP.sub [0, 1] rfl
          have hD : va_D A [(h0, .inr (5, mX5 h1)), (h1, zi k1 26 f1)] := hD.sub [0, 1] (by decide) rfl
          generalize H1 = H at hP hS ⊢
          clear hz1
          refine lv_istore_n (lv' := [(3, .int r51_), (0, .ref h0), (1, .int (u47_ 0)), (2, .int (u47_ 1)), (4, .int (u13_ 3)), (5, .int r31_)]) hx hb dX5_fullest_54 rfl hl (by decide) rfl (fun ls hl => ?_)
          obtain ⟨z55, e_z55⟩ : ∃ z : Int32, z = (u13_ 3) + Int32.ofInt 1 := ⟨_, rfl⟩
          have b_ := zadd (x := (u13_ 3)) (y := Int32.ofInt 1) rfl (show (Int32.ofInt 1).toInt = 1 from by decide) e_z55 (by omega) (by omega)
          refine lv_iinc (v := z55) (lv' := [(4, .int z55), (3, .int r51_), (0, .ref h0), (1, .int (u47_ 0)), (2, .int (u47_ 1)), (5, .int r31_)]) hx hb dX5_fullest_55 hl (k := 4) rfl e_z55.symm (by decide) rfl (fun ls hl => ?_)
          refine lv_goto (tgt := 13) hx hb dX5_fullest_58 (by decide) ?_
          have hc : va_P (dC, dI) vwCl [(h0, .inr (5, mX5 h1)), (h1, zi k1 26 f1)] H ∧ va_D A [(h0, .inr (5, mX5 h1)), (h1, zi k1 26 f1)] ∧ va_S A s.heap H locs ∧ lv_has ls 6 [(0, .ref h0), (1, .int (u47_ 0)), (2, .int (u47_ 1)), (3, .int r51_), (4, .int z55)] ∧ ((-1) ≤ (u47_ 0).toInt ∧ (u47_ 0).toInt ≤ 832) ∧ (0 ≤ (u47_ 1).toInt ∧ (u47_ 1).toInt ≤ 63) ∧ ((-1) ≤ r51_.toInt ∧ r51_.toInt ≤ 831) ∧ (0 ≤ z55.toInt ∧ z55.toInt ≤ 832) := ⟨hP, hD, hS, lv_sub hl [2, 3, 4, 1, 0] rfl, (by first | with_reducible assumption | exact ⟨by omega, by omega⟩), (by first | with_reducible assumption | exact ⟨by omega, by omega⟩), (by first | with_reducible assumption | exact ⟨by omega, by omega⟩), (by first | with_reducible assumption | exact ⟨by omega, by omega⟩)⟩
          exact hJ13 H locs ls (fun i => ([(u47_ 0), (u47_ 1), r51_, z55] : List (Int32)).getD i 0) (fun _ => 0) (fun _ => (fun _ => 0)) (fun _ => (fun _ => 0)) hc (show (832 - z55.toInt).toNat < (832 - (u13_ 3).toInt).toNat from by omega)
        · skip
          refine lv_icmp_le (tgt := 47) hx hb dX5_fullest_39 (by decide) (fun c_ => ?_) (fun c_ => ?_)
          · skip
            have b_ := zT_le rfl rfl c_
            have hc : va_P (dC, dI) vwCl [(h0, .inr (5, mX5 h1)), (h1, zi k1 26 f1)] H ∧ va_D A [(h0, .inr (5, mX5 h1)), (h1, zi k1 26 f1)] ∧ va_S A s.heap H locs ∧ lv_has ls 6 [(0, .ref h0), (1, .int (u13_ 0)), (2, .int (u13_ 1)), (3, .int (u13_ 2)), (4, .int (u13_ 3)), (5, .int r31_)] ∧ ((-1) ≤ (u13_ 0).toInt ∧ (u13_ 0).toInt ≤ 832) ∧ (0 ≤ (u13_ 1).toInt ∧ (u13_ 1).toInt ≤ 63) ∧ (0 ≤ r31_.toInt ∧ r31_.toInt ≤ 63) ∧ (0 ≤ (u13_ 1).toInt ∧ (u13_ 1).toInt ≤ 63) := ⟨hP, hD, hS, lv_sub hl [1, 2, 3, 4, 5, 0] rfl, (by first | with_reducible assumption | exact ⟨by omega, by omega⟩), (by first | with_reducible assumption | exact ⟨by omega, by omega⟩), (by first | with_reducible assumption | exact ⟨by omega, by omega⟩), (by first | with_reducible assumption | exact ⟨by omega, by omega⟩)⟩
            exact hJ47 H locs ls (fun i => ([(u13_ 0), (u13_ 1)] : List (Int32)).getD i 0) (fun _ => 0) (fun _ => (fun _ => 0)) (fun _ => (fun _ => 0)) hc
          · skip
            have b_ := zF_le rfl rfl c_
            refine lv_iload hx hb dX5_fullest_42 (lv_at hl 0 rfl) ?_
            refine lv_istore_n (lv' := [(2, .int r31_), (5, .int r31_), (0, .ref h0), (1, .int (u13_ 0)), (3, .int (u13_ 2)), (4, .int (u13_ 3))]) hx hb dX5_fullest_44 rfl hl (by decide) rfl (fun ls hl => ?_)
            refine lv_iload_n hx hb dX5_fullest_45 rfl (lv_at hl 4 rfl) ?_
            refine lv_istore_n (lv' := [(1, .int (u13_ 2)), (2, .int r31_), (5, .int r31_), (0, .ref h0), (3, .int (u13_ 2)), (4, .int (u13_ 3))]) hx hb dX5_fullest_46 rfl hl (by decide) rfl (fun ls hl => ?_)
            have hc : va_P (dC, dI) vwCl [(h0, .inr (5, mX5 h1)), (h1, zi k1 26 f1)] H ∧ va_D A [(h0, .inr (5, mX5 h1)), (h1, zi k1 26 f1)] ∧ va_S A s.heap H locs ∧ lv_has ls 6 [(0, .ref h0), (1, .int (u13_ 2)), (2, .int r31_), (3, .int (u13_ 2)), (4, .int (u13_ 3)), (5, .int r31_)] ∧ ((-1) ≤ (u13_ 2).toInt ∧ (u13_ 2).toInt ≤ 832) ∧ (0 ≤ r31_.toInt ∧ r31_.toInt ≤ 63) ∧ (0 ≤ r31_.toInt ∧ r31_.toInt ≤ 63) ∧ (0 ≤ (u13_ 1).toInt ∧ (u13_ 1).toInt ≤ 63) := ⟨hP, hD, hS, lv_sub hl [3, 0, 1, 4, 5, 2] rfl, (by first | with_reducible assumption | exact ⟨by omega, by omega⟩), (by first | with_reducible assumption | exact ⟨by omega, by omega⟩), (by first | with_reducible assumption | exact ⟨by omega, by omega⟩), (by first | with_reducible assumption | exact ⟨by omega, by omega⟩)⟩
            exact hJ47 H locs ls (fun i => ([(u13_ 2), r31_] : List (Int32)).getD i 0) (fun _ => 0) (fun _ => (fun _ => 0)) (fun _ => (fun _ => 0)) hc
  · skip
    have hc : va_P (dC, dI) vwCl [(h0, .inr (5, mX5 h1)), (h1, zi k1 26 f1)] H ∧ va_D A [(h0, .inr (5, mX5 h1)), (h1, zi k1 26 f1)] ∧ va_S A s.heap H locs ∧ lv_has ls 6 [(0, .ref h0), (1, .int (-1)), (2, .int 0), (3, .int r6_), (4, .int 0)] ∧ ((-1) ≤ ((-1) : Int32).toInt ∧ ((-1) : Int32).toInt ≤ 832) ∧ (0 ≤ (0 : Int32).toInt ∧ (0 : Int32).toInt ≤ 63) ∧ ((-1) ≤ r6_.toInt ∧ r6_.toInt ≤ 831) ∧ (0 ≤ (0 : Int32).toInt ∧ (0 : Int32).toInt ≤ 832) := ⟨hP, hD, hS, lv_sub hl [4, 3, 2, 1, 0] rfl, (by first | with_reducible assumption | exact ⟨by omega, by omega⟩), (by first | with_reducible assumption | exact ⟨by omega, by omega⟩), (by first | with_reducible assumption | exact ⟨by omega, by omega⟩), (by first | with_reducible assumption | exact ⟨by omega, by omega⟩)⟩
    exact hJ13 H locs ls (fun i => ([(-1), 0, r6_, 0] : List (Int32)).getD i 0) (fun _ => 0) (fun _ => (fun _ => 0)) (fun _ => (fun _ => 0)) hc
set_option maxHeartbeats 8000000 in
set_option maxRecDepth 100000 in
theorem sX7_isCounted_0 (l : Launch) (dC : Nat → ClassId) (dI : Nat → Nat → Nat) (adK adV : Nat → Nat) (h0 : Nat) (h5 : Nat) (h1 : Nat) (h2 : Nat) (h3 : Nat) (h4 : Nat) (h6 : Nat) (h7 : Nat) (k5 : ClassId) (sz : Nat) (v0 : Nat → Int32) (f5 : Nat → Int32) (x1 : Int32) (hv0 : zR rg_Query v0) : Met l yX7_isCounted (zw yX7_isCounted cX7_isCounted 2 (some .boolean)) { frames := 1, cells := 0, slots := 0, locals := 20 } (zPc dC dI adK adV [.ref h0, .int x1] sz [(h0, .inr (7, mX7 h1 h2 h3 h4 h5 h6 h7 v0)), (h5, zi k5 40 f5)] [(k5, .boolean)]) (va_Qi (fun (r : Int32) (u : Nat → Int32) => (0 ≤ r.toInt ∧ r.toInt ≤ 1)) (fun (u : Nat → Int32) (t : State) => ∃ (ww : Nat → Int64) (aa : Nat → Nat → Int32) (bb : Nat → Nat → Int64), va_P (dC, dI) vwCl [(h0, .inr (7, mX7 h1 h2 h3 h4 h5 h6 h7 v0)), (h5, zi k5 40 f5)] t.heap ∧ va_K (dC, dI) vwCl [(k5, .boolean)] t ∧ va_D (va_A [(h0, .inr (7, mX7 h1 h2 h3 h4 h5 h6 h7 v0)), (h5, zi k5 40 f5)] sz) [(h0, .inr (7, mX7 h1 h2 h3 h4 h5 h6 h7 v0)), (h5, zi k5 40 f5)]) (va_A [(h0, .inr (7, mX7 h1 h2 h3 h4 h5 h6 h7 v0)), (h5, zi k5 40 f5)] sz)) 0 0 (va_A [(h0, .inr (7, mX7 h1 h2 h3 h4 h5 h6 h7 v0)), (h5, zi k5 40 f5)] sz) := by
  refine Met.ofW (cc := cX7_isCounted) (maxL := 2) (ret := (some .boolean)) (by decide) rfl ?_
  intro p e s m args below meth c s₁ B hml hv
  obtain ⟨rfl, hsz, hP, hK, hD0, hE, hZ⟩ := hv
  have hx := B.exec
  have hb := B.bytes
  have hr := B.returns
  have hG : ∀ w ∈ zG, w.before _ s = true := fun w h => atoms_spec (ws := (zw yX7_isCounted cX7_isCounted 2 (some .boolean))) B.pre w (List.mem_cons_of_mem _ h)
  have hown : s.vm.findClass RX7 = some m.cls := findClass_of_methodNamed B.named
  have hlocks := B.notSynchronized

  subst hsz
  have hD := hD0.self (sz := s.heap.size)
  generalize hAe : va_A [(h0, .inr (7, mX7 h1 h2 h3 h4 h5 h6 h7 v0)), (h5, zi k5 40 f5)] s.heap.size = A at hD hZ ⊢
  have hA : ∀ q : Nat, s.heap.size ≤ q → A q := fun q h => by rw [← hAe]; exact Or.inr h
  have hS : va_S A s.heap s.heap [] := va_S.rf
  have hl := lv_entry ([.ref h0, .int x1]) (n := 2) (Nat.le_of_ble_eq_true rfl)
  rw [lg_entry_eq]
  generalize (lg_sl ([.ref h0, .int x1]) ++ List.replicate (2 - (lg_sl ([.ref h0, .int x1])).length) Slot.unset).toArray = ls at hl ⊢
  have hl : lv_has ls 2 [(0, .ref h0), (1, .int x1)] := hl
  have b_ := zk_0
  have b_ := zk_1
  refine lv_iload_n hx hb dX7_isCounted_0 rfl (lv_at hl 1 rfl) ?_
  have hPc := hP.sub (ws' := []) [] rfl
  have hDc := hD.sub (ws' := []) [] (by decide) rfl
  have hKc := hK.sub (tys' := []) [] rfl
  have hFc := va_free (wc := []) hD hS hA [] rfl
  refine va_calli (va_runS (As := [.int x1]) (rest := []) ⟨hx, hb, hml, hown, hG⟩ (sX7_isLeaf_0 l dC dI adK adV s.heap.size x1) (va_cwS 1 hG (zgS zv1188 zv1189 zv136 zv1190) rfl rfl rfl (by decide +kernel) ⟨Nat.le_of_ble_eq_true rfl, Nat.le_of_ble_eq_true rfl⟩) ⟨zPc_blind, zPc_pre hPc hKc hDc hE hS hFc hZ⟩ rfl rfl hl.1 rfl (lv_room (Nat.le_of_ble_eq_true rfl)) dX7_isCounted_1 ⟨Nat.le_of_ble_eq_true rfl, Nat.le_of_ble_eq_true rfl⟩) hS (fun q _ h => hFc q h) hFc (fun r1_ u1_ t H1 locs ht hvm hw hB hz1 hk1 hS => ?_)
  replace hw : (0 ≤ r1_.toInt ∧ r1_.toInt ≤ 1) ∧ (r1_.toInt = 1 → (0 ≤ x1.toInt ∧ x1.toInt ≤ 39)) := hw
  obtain ⟨b_, hX1_0⟩ := hw
  obtain ⟨w1_, a1_, b1_, hP1, hK1, hD1⟩ := hB
  rw [ht] at hP1
  obtain ⟨hP, hD⟩ := va_join (wr := [(h0, .inr (7, mX7 h1 h2 h3 h4 h5 h6 h7 v0)), (h5, zi k5 40 f5)]) (w1 := []) hP hD [] [0, 1] rfl rfl (by decide) (by decide) hk1 hFc hP1 hD1
  have hP : va_P (dC, dI) vwCl [(h0, .inr (7, mX7 h1 h2 h3 h4 h5 h6 h7 v0)), (h5, zi k5 40 f5)] H1 := hP.sub [0, 1] rfl
  have hD : va_D A [(h0, .inr (7, mX7 h1 h2 h3 h4 h5 h6 h7 v0)), (h5, zi k5 40 f5)] := hD.sub [0, 1] (by decide) rfl
  generalize H1 = H at hP hS ⊢
  clear hz1
  refine lv_if_eq (tgt := 20) hx hb dX7_isCounted_4 (by decide) (fun c_ => ?_) (fun c_ => ?_)
  · skip
    have b_ := zT_eq rfl zk_0 c_
    refine lv_iconst (v := 0) hx hb dX7_isCounted_20 (by decide) ?_
    refine W.widen (k := 0) (n := 0) (by decide) (by decide) ?_
    have hpost : (0 ≤ (0 : Int32).toInt ∧ (0 : Int32).toInt ≤ 1) := (by first | with_reducible assumption | exact ⟨by omega, by omega⟩)
    have hP9 : va_P (dC, dI) vwCl [(h0, .inr (7, mX7 h1 h2 h3 h4 h5 h6 h7 v0)), (h5, zi k5 40 f5)] H := hP
    have hD9 : va_D A [(h0, .inr (7, mX7 h1 h2 h3 h4 h5 h6 h7 v0)), (h5, zi k5 40 f5)] := hD
    exact W.zret (v := 0) hx hb hr rfl (fun t ht hW => ⟨⟨0, (fun _ => 0), rfl, hpost, (fun _ => 0), (fun _ => (fun _ => 0)), (fun _ => (fun _ => 0)), by rw [ht]; exact hP9, va_K.moved hW.alike hK, hD9⟩, hS.F ht⟩) hS.2.2 dX7_isCounted_21
  · skip
    have b_ := zF_eq rfl zk_0 c_
    refine lv_aload_n hx hb dX7_isCounted_7 rfl (lv_at hl 0 rfl) ?_
    refine va_get (D := (dC, dI)) (ci := 7) (v := .ref h5) (C := RX7) (T := TX7) (N := 12) hx hb hG zuX7 hown hK hP 0 rfl rfl 4 (by decide) (hG _ zv369) (fun _ h9 => h9) rfl dX7_isCounted_8 ?_
    refine lv_iload_n hx hb dX7_isCounted_11 rfl (lv_at hl 1 rfl) ?_
    refine va_zald hx hb hK hP 1 0 rfl rfl (zin_lit ⟨by omega, by omega⟩) dX7_isCounted_12 ?_
    refine lv_topi (fun z12 e_z12 => ?_)
    have b_ : -2147483648 ≤ z12.toInt ∧ z12.toInt ≤ 2147483647 := ⟨zlo _, zhi _⟩
    refine lv_if_eq (tgt := 20) hx hb dX7_isCounted_13 (by decide) (fun c_ => ?_) (fun c_ => ?_)
    · skip
      have b_ := zT_eq rfl zk_0 c_
      refine lv_iconst (v := 0) hx hb dX7_isCounted_20 (by decide) ?_
      refine W.widen (k := 0) (n := 0) (by decide) (by decide) ?_
      have hpost : (0 ≤ (0 : Int32).toInt ∧ (0 : Int32).toInt ≤ 1) := (by first | with_reducible assumption | exact ⟨by omega, by omega⟩)
      have hP9 : va_P (dC, dI) vwCl [(h0, .inr (7, mX7 h1 h2 h3 h4 h5 h6 h7 v0)), (h5, zi k5 40 f5)] H := hP
      have hD9 : va_D A [(h0, .inr (7, mX7 h1 h2 h3 h4 h5 h6 h7 v0)), (h5, zi k5 40 f5)] := hD
      exact W.zret (v := 0) hx hb hr rfl (fun t ht hW => ⟨⟨0, (fun _ => 0), rfl, hpost, (fun _ => 0), (fun _ => (fun _ => 0)), (fun _ => (fun _ => 0)), by rw [ht]; exact hP9, va_K.moved hW.alike hK, hD9⟩, hS.F ht⟩) hS.2.2 dX7_isCounted_21
    · skip
      have b_ := zF_eq rfl zk_0 c_
      refine lv_iconst (v := 1) hx hb dX7_isCounted_16 (by decide) ?_
      refine lv_goto (tgt := 21) hx hb dX7_isCounted_17 (by decide) ?_
      refine W.widen (k := 0) (n := 0) (by decide) (by decide) ?_
      have hpost : (0 ≤ (1 : Int32).toInt ∧ (1 : Int32).toInt ≤ 1) := (by first | with_reducible assumption | exact ⟨by omega, by omega⟩)
      have hP9 : va_P (dC, dI) vwCl [(h0, .inr (7, mX7 h1 h2 h3 h4 h5 h6 h7 v0)), (h5, zi k5 40 f5)] H := hP
      have hD9 : va_D A [(h0, .inr (7, mX7 h1 h2 h3 h4 h5 h6 h7 v0)), (h5, zi k5 40 f5)] := hD
      exact W.zret (v := 1) hx hb hr rfl (fun t ht hW => ⟨⟨1, (fun _ => 0), rfl, hpost, (fun _ => 0), (fun _ => (fun _ => 0)), (fun _ => (fun _ => 0)), by rw [ht]; exact hP9, va_K.moved hW.alike hK, hD9⟩, hS.F ht⟩) hS.2.2 dX7_isCounted_21
set_option maxHeartbeats 8000000 in
set_option maxRecDepth 100000 in
theorem sX5_putAll_0 (l : Launch) (dC : Nat → ClassId) (dI : Nat → Nat → Nat) (adK adV : Nat → Nat) (h0 : Nat) (h1 : Nat) (h2 : Nat) (h3 : Nat) (k1 : ClassId) (k3 : ClassId) (sz : Nat) (f1 : Nat → Int32) (f3 : Nat → Int32) : Met l yX5_putAll (zw yX5_putAll cX5_putAll 3 none) { frames := 0, cells := 0, slots := 0, locals := 0 } (zPc dC dI adK adV [.ref h0, .ref h2] sz [(h0, .inr (5, mX5 h1)), (h1, zi k1 26 f1), (h2, .inr (5, mX5 h3)), (h3, zi k3 26 f3)] [(k1, .int), (k3, .int)]) (va_Qv (fun (u : Nat → Int32) => True) (fun (u : Nat → Int32) (t : State) => ∃ (ww : Nat → Int64) (aa : Nat → Nat → Int32) (bb : Nat → Nat → Int64), va_P (dC, dI) vwCl [(h0, .inr (5, mX5 h1)), (h1, zi k1 26 (aa 0)), (h2, .inr (5, mX5 h3)), (h3, zi k3 26 f3)] t.heap ∧ va_K (dC, dI) vwCl [(k1, .int), (k3, .int)] t ∧ va_D (va_A [(h0, .inr (5, mX5 h1)), (h1, zi k1 26 f1), (h2, .inr (5, mX5 h3)), (h3, zi k3 26 f3)] sz) [(h0, .inr (5, mX5 h1)), (h1, zi k1 26 (aa 0)), (h2, .inr (5, mX5 h3)), (h3, zi k3 26 f3)]) (va_A [(h0, .inr (5, mX5 h1)), (h1, zi k1 26 f1), (h2, .inr (5, mX5 h3)), (h3, zi k3 26 f3)] sz)) 0 0 (va_A [(h0, .inr (5, mX5 h1)), (h1, zi k1 26 f1), (h2, .inr (5, mX5 h3)), (h3, zi k3 26 f3)] sz) := by
  refine Met.ofW (cc := cX5_putAll) (maxL := 3) (ret := none) (by decide) rfl ?_
  intro p e s m args below meth c s₁ B hml hv
  obtain ⟨rfl, hsz, hP, hK, hD0, hE, hZ⟩ := hv
  have hx := B.exec
  have hb := B.bytes
  have hr := B.returns
  have hG : ∀ w ∈ zG, w.before _ s = true := fun w h => atoms_spec (ws := (zw yX5_putAll cX5_putAll 3 none)) B.pre w (List.mem_cons_of_mem _ h)
  have hown : s.vm.findClass RX5 = some m.cls := findClass_of_methodNamed B.named
  have hlocks := B.notSynchronized

  subst hsz
  have hD := hD0.self (sz := s.heap.size)
  generalize hAe : va_A [(h0, .inr (5, mX5 h1)), (h1, zi k1 26 f1), (h2, .inr (5, mX5 h3)), (h3, zi k3 26 f3)] s.heap.size = A at hD hZ ⊢
  have hA : ∀ q : Nat, s.heap.size ≤ q → A q := fun q h => by rw [← hAe]; exact Or.inr h
  have hS : va_S A s.heap s.heap [] := va_S.rf
  have hl := lv_entry ([.ref h0, .ref h2]) (n := 3) (Nat.le_of_ble_eq_true rfl)
  rw [lg_entry_eq]
  generalize (lg_sl ([.ref h0, .ref h2]) ++ List.replicate (3 - (lg_sl ([.ref h0, .ref h2])).length) Slot.unset).toArray = ls at hl ⊢
  have hl : lv_has ls 3 [(0, .ref h0), (1, .ref h2)] := hl
  have b_ := zk_0
  refine lv_iconst (v := 0) hx hb dX5_putAll_0 (by decide) ?_
  refine lv_istore_n (lv' := [(2, .int 0), (0, .ref h0), (1, .ref h2)]) hx hb dX5_putAll_1 rfl hl (by decide) rfl (fun ls hl => ?_)
  refine zcutL (fun u2_ => (26 - (u2_ 0).toInt).toNat) (fun H locs ls u2_ w2_ a2_ b2_ => va_P (dC, dI) vwCl [(h0, .inr (5, mX5 h1)), (h1, zi k1 26 (a2_ 0)), (h2, .inr (5, mX5 h3)), (h3, zi k3 26 f3)] H ∧ va_D A [(h0, .inr (5, mX5 h1)), (h1, zi k1 26 (a2_ 0)), (h2, .inr (5, mX5 h3)), (h3, zi k3 26 f3)] ∧ va_S A s.heap H locs ∧ lv_has ls 3 [(0, .ref h0), (1, .ref h2), (2, .int (u2_ 0))] ∧ (0 ≤ (u2_ 0).toInt ∧ (u2_ 0).toInt ≤ 26)) (fun ls u2_ w2_ => F0 m 2 ls []) 0 0 ?_ (fun hJ2 => ?_)
  · skip
    intro H locs ls u2_ w2_ a2_ b2_ hc hJ2
    obtain ⟨hP, hD, hS, hl, b_⟩ := hc
    refine lv_iload_n hx hb dX5_putAll_2 rfl (lv_at hl 2 rfl) ?_
    refine lv_bipush (v := 26) hx hb dX5_putAll_3 (by decide) ?_
    refine lv_icmp_ge (tgt := 29) hx hb dX5_putAll_5 (by decide) (fun c_ => ?_) (fun c_ => ?_)
    · skip
      have b_ := zT_ge rfl zk_26 c_
      refine W.widen (k := 0) (n := 0) (by decide) (by decide) ?_
      have hpost : True := trivial
      have hP9 : va_P (dC, dI) vwCl [(h0, .inr (5, mX5 h1)), (h1, zi k1 26 (a2_ 0)), (h2, .inr (5, mX5 h3)), (h3, zi k3 26 f3)] H := hP
      have hD9 : va_D A [(h0, .inr (5, mX5 h1)), (h1, zi k1 26 (a2_ 0)), (h2, .inr (5, mX5 h3)), (h3, zi k3 26 f3)] := hD
      exact W.vret hx hb hr (fun t ht hW => ⟨⟨(fun _ => 0), rfl, hpost, (fun _ => 0), (fun i => ([(a2_ 0)] : List (Nat → Int32)).getD i (fun _ => 0)), (fun _ => (fun _ => 0)), by rw [ht]; exact hP9, va_K.moved hW.alike hK, hD9⟩, hS.F ht⟩) hS.2.2 dX5_putAll_29
    · skip
      have b_ := zF_ge rfl zk_26 c_
      refine lv_aload_n hx hb dX5_putAll_8 rfl (lv_at hl 0 rfl) ?_
      refine va_get (D := (dC, dI)) (ci := 5) (v := .ref h1) (C := RX5) (T := TX5) (N := 1) hx hb hG zuX5 hown hK hP 0 rfl rfl 0 (by decide) (hG _ zv458) (fun _ h9 => h9) rfl dX5_putAll_9 ?_
      refine lv_iload_n hx hb dX5_putAll_12 rfl (lv_at hl 2 rfl) ?_
      refine lv_dup2_11 hx hb dX5_putAll_13 rfl rfl ?_
      refine va_iald hx hb hK hP 1 0 rfl rfl (zin_lit ⟨by omega, by omega⟩) dX5_putAll_14 ?_
      refine lv_topi (fun z14 e_z14 => ?_)
      refine lv_aload_n hx hb dX5_putAll_15 rfl (lv_at hl 1 rfl) ?_
      refine va_get (D := (dC, dI)) (ci := 5) (v := .ref h3) (C := RX5) (T := TX5) (N := 1) hx hb hG zuX5 hown hK hP 2 rfl rfl 0 (by decide) (hG _ zv458) (fun _ h9 => h9) rfl dX5_putAll_16 ?_
      refine lv_iload_n hx hb dX5_putAll_19 rfl (lv_at hl 2 rfl) ?_
      refine va_iald hx hb hK hP 3 1 rfl rfl (zin_lit ⟨by omega, by omega⟩) dX5_putAll_20 ?_
      refine lv_topi (fun z20 e_z20 => ?_)
      have b_ : -2147483648 ≤ z14.toInt ∧ z14.toInt ≤ 2147483647 := ⟨zlo _, zhi _⟩
      have b_ : -2147483648 ≤ z20.toInt ∧ z20.toInt ≤ 2147483647 := ⟨zlo _, zhi _⟩
      refine lv_ior hx hb dX5_putAll_21 ?_
      refine lv_topi (fun z21 e_z21 => ?_)
      refine va_iast hx hb hK hP hD hS 1 0 rfl rfl (zin_lit ⟨by omega, by omega⟩) dX5_putAll_22 (fun H locs hP hD hS => ?_)
      obtain ⟨f_22, e_f_22⟩ : ∃ z : Nat → Int32, z = upd (a2_ 0) ((u2_ 0) : Int32).toNatClampNeg z21 := ⟨_, rfl⟩
      have hP : va_P (dC, dI) vwCl [(h0, .inr (5, mX5 h1)), (h1, zi k1 26 f_22), (h2, .inr (5, mX5 h3)), (h3, zi k3 26 f3)] H := by rw [e_f_22]; exact hP
      have hD : va_D A [(h0, .inr (5, mX5 h1)), (h1, zi k1 26 f_22), (h2, .inr (5, mX5 h3)), (h3, zi k3 26 f3)] := by rw [e_f_22]; exact hD
      obtain ⟨z23, e_z23⟩ : ∃ z : Int32, z = (u2_ 0) + Int32.ofInt 1 := ⟨_, rfl⟩
      have b_ := zadd (x := (u2_ 0)) (y := Int32.ofInt 1) rfl (show (Int32.ofInt 1).toInt = 1 from by decide) e_z23 (by omega) (by omega)
      refine lv_iinc (v := z23) (lv' := [(2, .int z23), (0, .ref h0), (1, .ref h2)]) hx hb dX5_putAll_23 hl (k := 2) rfl e_z23.symm (by decide) rfl (fun ls hl => ?_)
      refine lv_goto (tgt := 2) hx hb dX5_putAll_26 (by decide) ?_
      have hc : va_P (dC, dI) vwCl [(h0, .inr (5, mX5 h1)), (h1, zi k1 26 f_22), (h2, .inr (5, mX5 h3)), (h3, zi k3 26 f3)] H ∧ va_D A [(h0, .inr (5, mX5 h1)), (h1, zi k1 26 f_22), (h2, .inr (5, mX5 h3)), (h3, zi k3 26 f3)] ∧ va_S A s.heap H locs ∧ lv_has ls 3 [(0, .ref h0), (1, .ref h2), (2, .int z23)] ∧ (0 ≤ z23.toInt ∧ z23.toInt ≤ 26) := ⟨hP, hD, hS, lv_sub hl [1, 2, 0] rfl, (by first | with_reducible assumption | exact ⟨by omega, by omega⟩)⟩
      exact hJ2 H locs ls (fun i => ([z23] : List (Int32)).getD i 0) (fun _ => 0) (fun i => ([f_22] : List (Nat → Int32)).getD i (fun _ => 0)) (fun _ => (fun _ => 0)) hc (show (26 - z23.toInt).toNat < (26 - (u2_ 0).toInt).toNat from by omega)
  · skip
    have hc : va_P (dC, dI) vwCl [(h0, .inr (5, mX5 h1)), (h1, zi k1 26 f1), (h2, .inr (5, mX5 h3)), (h3, zi k3 26 f3)] s.heap ∧ va_D A [(h0, .inr (5, mX5 h1)), (h1, zi k1 26 f1), (h2, .inr (5, mX5 h3)), (h3, zi k3 26 f3)] ∧ va_S A s.heap s.heap [] ∧ lv_has ls 3 [(0, .ref h0), (1, .ref h2), (2, .int 0)] ∧ (0 ≤ (0 : Int32).toInt ∧ (0 : Int32).toInt ≤ 26) := ⟨hP, hD, hS, lv_sub hl [1, 2, 0] rfl, (by first | with_reducible assumption | exact ⟨by omega, by omega⟩)⟩
    exact hJ2 s.heap [] ls (fun i => ([0] : List (Int32)).getD i 0) (fun _ => 0) (fun i => ([f1] : List (Nat → Int32)).getD i (fun _ => 0)) (fun _ => (fun _ => 0)) hc
set_option maxHeartbeats 8000000 in
set_option maxRecDepth 100000 in
theorem sX1_keep_0 (l : Launch) (dC : Nat → ClassId) (dI : Nat → Nat → Nat) (adK adV : Nat → Nat) (h0 : Nat) (h37 : Nat) (h38 : Nat) (h13 : Nat) (h42 : Nat) (h43 : Nat) (h18 : Nat) (h36 : Nat) (h41 : Nat) (h31 : Nat) (h1 : Nat) (h6 : Nat) (h21 : Nat) (h39 : Nat) (h40 : Nat) (h44 : Nat) (h45 : Nat) (h46 : Nat) (h47 : Nat) (h48 : Nat) (h14 : Nat) (h15 : Nat) (h16 : Nat) (h17 : Nat) (h19 : Nat) (h20 : Nat) (h22 : Nat) (k38 : ClassId) (k42 : ClassId) (k43 : ClassId) (k18 : ClassId) (k36 : ClassId) (k41 : ClassId) (k31 : ClassId) (pl0 : va_W) (sz : Nat) (v0 : Nat → Int32) (f38 : Nat → Int32) (v13 : Nat → Int32) (f42 : Nat → Int32) (f43 : Nat → Int32) (f18 : Nat → Int32) (f36 : Nat → Option Nat) (f41 : Nat → Int32) (f31 : Nat → Option Nat) (x1 : Int32) (hv0 : zR rg_Finder v0) (hv13 : zR rg_Query v13) (hf42 : zA 0 119 f42) (hx1 : 0 ≤ x1.toInt ∧ x1.toInt ≤ 119) (hp0_ : zRd h22 f31 pl0) (hp1_ : zPs k41 f36 pl0) : Met l yX1_keep (zw yX1_keep cX1_keep 3 none) { frames := 3, cells := 0, slots := 0, locals := 69 } (zPc dC dI adK adV [.ref h0, .int x1] sz ([(h0, .inr (1, mX1 h1 h6 h13 h21 h36 h37 h39 h40 h41 h42 h43 h44 h45 h46 h47 h48 v0)), (h37, .inr (5, mX5 h38)), (h38, zi k38 26 f38), (h13, .inr (7, mX7 h14 h15 h16 h17 h18 h19 h20 v13)), (h42, zi k42 120 f42), (h43, zi k43 120 f43), (h18, zi k18 40 f18), (h36, .inl (k36, 40, .inr (.inr (.inr (.inr f36))))), (h41, zi k41 40 f41), (h31, .inl (k31, 400, .inr (.inr (.inr (.inr f31)))))] ++ pl0) [(k38, .int), (k42, .int), (k43, .int), (k18, .boolean), (k36, .object RX5), (k41, .int), (k31, .object RX8)]) (va_Qv (fun (u : Nat → Int32) => (1 ≤ (u 0).toInt ∧ (u 0).toInt ≤ 120)) (fun (u : Nat → Int32) (t : State) => ∃ (ww : Nat → Int64) (aa : Nat → Nat → Int32) (bb : Nat → Nat → Int64) (qq : Nat → Nat → Option Nat) (pl1 : va_W), zA 0 119 (aa 1) ∧ (zRd h22 f31 pl1) ∧ (zPs k41 f36 pl1) ∧ (zOt pl0 pl1) ∧ va_P (dC, dI) vwCl ([(h0, .inr (1, mX1 h1 h6 h13 h21 h36 h37 h39 h40 h41 h42 h43 h44 h45 h46 h47 h48 (upd v0 16 (u 0)))), (h37, .inr (5, mX5 h38)), (h38, zi k38 26 (aa 0)), (h13, .inr (7, mX7 h14 h15 h16 h17 h18 h19 h20 v13)), (h42, zi k42 120 (aa 1)), (h43, zi k43 120 (aa 2)), (h18, zi k18 40 f18), (h36, .inl (k36, 40, .inr (.inr (.inr (.inr f36))))), (h41, zi k41 40 f41), (h31, .inl (k31, 400, .inr (.inr (.inr (.inr f31)))))] ++ pl1) t.heap ∧ va_K (dC, dI) vwCl [(k38, .int), (k42, .int), (k43, .int), (k18, .boolean), (k36, .object RX5), (k41, .int), (k31, .object RX8)] t ∧ va_D (va_A ([(h0, .inr (1, mX1 h1 h6 h13 h21 h36 h37 h39 h40 h41 h42 h43 h44 h45 h46 h47 h48 v0)), (h37, .inr (5, mX5 h38)), (h38, zi k38 26 f38), (h13, .inr (7, mX7 h14 h15 h16 h17 h18 h19 h20 v13)), (h42, zi k42 120 f42), (h43, zi k43 120 f43), (h18, zi k18 40 f18), (h36, .inl (k36, 40, .inr (.inr (.inr (.inr f36))))), (h41, zi k41 40 f41), (h31, .inl (k31, 400, .inr (.inr (.inr (.inr f31)))))] ++ pl0) sz) ([(h0, .inr (1, mX1 h1 h6 h13 h21 h36 h37 h39 h40 h41 h42 h43 h44 h45 h46 h47 h48 (upd v0 16 (u 0)))), (h37, .inr (5, mX5 h38)), (h38, zi k38 26 (aa 0)), (h13, .inr (7, mX7 h14 h15 h16 h17 h18 h19 h20 v13)), (h42, zi k42 120 (aa 1)), (h43, zi k43 120 (aa 2)), (h18, zi k18 40 f18), (h36, .inl (k36, 40, .inr (.inr (.inr (.inr f36))))), (h41, zi k41 40 f41), (h31, .inl (k31, 400, .inr (.inr (.inr (.inr f31)))))] ++ pl1)) (va_A ([(h0, .inr (1, mX1 h1 h6 h13 h21 h36 h37 h39 h40 h41 h42 h43 h44 h45 h46 h47 h48 v0)), (h37, .inr (5, mX5 h38)), (h38, zi k38 26 f38), (h13, .inr (7, mX7 h14 h15 h16 h17 h18 h19 h20 v13)), (h42, zi k42 120 f42), (h43, zi k43 120 f43), (h18, zi k18 40 f18), (h36, .inl (k36, 40, .inr (.inr (.inr (.inr f36))))), (h41, zi k41 40 f41), (h31, .inl (k31, 400, .inr (.inr (.inr (.inr f31)))))] ++ pl0) sz)) 0 0 (va_A ([(h0, .inr (1, mX1 h1 h6 h13 h21 h36 h37 h39 h40 h41 h42 h43 h44 h45 h46 h47 h48 v0)), (h37, .inr (5, mX5 h38)), (h38, zi k38 26 f38), (h13, .inr (7, mX7 h14 h15 h16 h17 h18 h19 h20 v13)), (h42, zi k42 120 f42), (h43, zi k43 120 f43), (h18, zi k18 40 f18), (h36, .inl (k36, 40, .inr (.inr (.inr (.inr f36))))), (h41, zi k41 40 f41), (h31, .inl (k31, 400, .inr (.inr (.inr (.inr f31)))))] ++ pl0) sz) := by
  refine Met.ofW (cc := cX1_keep) (maxL := 3) (ret := none) (by decide) rfl ?_
  intro p e s m args below meth c s₁ B hml hv
  obtain ⟨rfl, hsz, hP, hK, hD0, hE, hZ⟩ := hv
  have hx := B.exec
  have hb := B.bytes
  have hr := B.returns
  have hG : ∀ w ∈ zG, w.before _ s = true := fun w h => atoms_spec (ws := (zw yX1_keep cX1_keep 3 none)) B.pre w (List.mem_cons_of_mem _ h)
  have hown : s.vm.findClass RX1 = some m.cls := findClass_of_methodNamed B.named
  have hlocks := B.notSynchronized

  subst hsz
  have hD := hD0.self (sz := s.heap.size)
  generalize hAe : va_A ([(h0, .inr (1, mX1 h1 h6 h13 h21 h36 h37 h39 h40 h41 h42 h43 h44 h45 h46 h47 h48 v0)), (h37, .inr (5, mX5 h38)), (h38, zi k38 26 f38), (h13, .inr (7, mX7 h14 h15 h16 h17 h18 h19 h20 v13)), (h42, zi k42 120 f42), (h43, zi k43 120 f43), (h18, zi k18 40 f18), (h36, .inl (k36, 40, .inr (.inr (.inr (.inr f36))))), (h41, zi k41 40 f41), (h31, .inl (k31, 400, .inr (.inr (.inr (.inr f31)))))] ++ pl0) s.heap.size = A at hD hZ ⊢
  have hA : ∀ q : Nat, s.heap.size ≤ q → A q := fun q h => by rw [← hAe]; exact Or.inr h
  have hS : va_S A s.heap s.heap [] := va_S.rf
  have hl := lv_entry ([.ref h0, .int x1]) (n := 3) (Nat.le_of_ble_eq_true rfl)
  rw [lg_entry_eq]
  generalize (lg_sl ([.ref h0, .int x1]) ++ List.replicate (3 - (lg_sl ([.ref h0, .int x1])).length) Slot.unset).toArray = ls at hl ⊢
  have hl : lv_has ls 3 [(0, .ref h0), (1, .int x1)] := hl
  have b_ := zk_0
  refine lv_aload_n hx hb dX1_keep_0 rfl (lv_at hl 0 rfl) ?_
  have b_ : 0 ≤ (v0 16).toInt ∧ (v0 16).toInt ≤ 120 := hv0 16
  refine va_get (D := (dC, dI)) (ci := 1) (v := .int (v0 16)) (C := RX1) (T := TX1) (N := 17) hx hb hG zuX1 hown hK hP 0 rfl rfl 16 (by decide) (hG _ zv520) (fun _ h9 => h9) rfl dX1_keep_1 ?_
  refine lv_bipush (v := 120) hx hb dX1_keep_4 (by decide) ?_
  refine lv_icmp_lt (tgt := 10) hx hb dX1_keep_6 (by decide) (fun c_ => ?_) (fun c_ => ?_)
  · skip
    have b_ := zT_lt rfl zk_120 c_
    refine lv_aload_n hx hb dX1_keep_10 rfl (lv_at hl 0 rfl) ?_
    refine va_get (D := (dC, dI)) (ci := 1) (v := .ref h37) (C := RX1) (T := TX1) (N := 17) hx hb hG zuX1 hown hK hP 0 rfl rfl 5 (by decide) (hG _ zv509) (fun _ h9 => h9) rfl dX1_keep_11 ?_
    have hPc := hP.sub (ws' := [(h37, .inr (5, mX5 h38)), (h38, zi k38 26 f38)]) [1, 2] rfl
    have hDc := hD.sub (ws' := [(h37, .inr (5, mX5 h38)), (h38, zi k38 26 f38)]) [1, 2] (by decide) rfl
    have hKc := hK.sub (tys' := [(k38, .int)]) [0] rfl
    have hFc := va_free (wc := [(h37, .inr (5, mX5 h38)), (h38, zi k38 26 f38)]) hD hS hA [1, 2] rfl
    refine va_callv (va_runV (As := []) (rest := []) ⟨hx, hb, hml, hown, hG⟩ (sX5_clear_0 l dC dI adK adV h37 h38 k38 s.heap.size f38) (cwV 0 hG (zgV zv1329 zv1252 zv1253 zv139 zv1254) rfl rfl rfl (by decide +kernel) ⟨Nat.le_of_ble_eq_true rfl, Nat.le_of_ble_eq_true rfl⟩) ⟨zPc_blind, va_recv hKc hPc (ci := 5) (q0 := 0) rfl rfl, zPc_pre hPc hKc hDc hE hS hFc hZ⟩ rfl rfl hl.1 rfl (lv_room (Nat.le_of_ble_eq_true rfl)) dX1_keep_14 ⟨Nat.le_of_ble_eq_true rfl, Nat.le_of_ble_eq_true rfl⟩) hS (fun q _ h => hFc q h) hFc (fun u14_ t H1 locs ht hvm hw hB hz1 hk1 hS => ?_)
    obtain ⟨w14_, a14_, b14_, hP1, hK1, hD1⟩ := hB
    rw [ht] at hP1
    obtain ⟨hP, hD⟩ := va_joinQ (wr := [(h0, .inr (1, mX1 h1 h6 h13 h21 h36 h37 h39 h40 h41 h42 h43 h44 h45 h46 h47 h48 v0)), (h13, .inr (7, mX7 h14 h15 h16 h17 h18 h19 h20 v13)), (h42, zi k42 120 f42), (h43, zi k43 120 f43), (h18, zi k18 40 f18), (h36, .inl (k36, 40, .inr (.inr (.inr (.inr f36))))), (h41, zi k41 40 f41), (h31, .inl (k31, 400, .inr (.inr (.inr (.inr f31)))))]) (w1 := [(h37, .inr (5, mX5 h38)), (h38, zi k38 26 (a14_ 0))]) hP hD [1, 2] [0, 3, 4, 5, 6, 7, 8, 9] rfl rfl (by decide) (by decide) hk1 hFc hP1 hD1
    have hP : va_P (dC, dI) vwCl ([(h0, .inr (1, mX1 h1 h6 h13 h21 h36 h37 h39 h40 h41 h42 h43 h44 h45 h46 h47 h48 v0)), (h37, .inr (5, mX5 h38)), (h38, zi k38 26 (a14_ 0)), (h13, .inr (7, mX7 h14 h15 h16 h17 h18 h19 h20 v13)), (h42, zi k42 120 f42), (h43, zi k43 120 f43), (h18, zi k18 40 f18), (h36, .inl (k36, 40, .inr (.inr (.inr (.inr f36))))), (h41, zi k41 40 f41), (h31, .inl (k31, 400, .inr (.inr (.inr (.inr f31)))))] ++ pl0) H1 := hP.part [0, 8, 9, 1, 2, 3, 4, 5, 6, 7] rfl
    have hD : va_D A ([(h0, .inr (1, mX1 h1 h6 h13 h21 h36 h37 h39 h40 h41 h42 h43 h44 h45 h46 h47 h48 v0)), (h37, .inr (5, mX5 h38)), (h38, zi k38 26 (a14_ 0)), (h13, .inr (7, mX7 h14 h15 h16 h17 h18 h19 h20 v13)), (h42, zi k42 120 f42), (h43, zi k43 120 f43), (h18, zi k18 40 f18), (h36, .inl (k36, 40, .inr (.inr (.inr (.inr f36))))), (h41, zi k41 40 f41), (h31, .inl (k31, 400, .inr (.inr (.inr (.inr f31)))))] ++ pl0) := hD.part [0, 8, 9, 1, 2, 3, 4, 5, 6, 7] (by decide) rfl
    generalize H1 = H at hP hS ⊢
    clear hz1
    refine lv_iconst (v := 0) hx hb dX1_keep_17 (by decide) ?_
    refine lv_istore_n (lv' := [(2, .int 0), (0, .ref h0), (1, .int x1)]) hx hb dX1_keep_18 rfl hl (by decide) rfl (fun ls hl => ?_)
    refine zcutL (fun u19_ => (40 - (u19_ 0).toInt).toNat) (fun H locs ls u19_ w19_ a19_ b19_ => ∃ (q19_ : Nat → Nat → Option Nat) (pl19 : va_W), va_P (dC, dI) vwCl ([(h0, .inr (1, mX1 h1 h6 h13 h21 h36 h37 h39 h40 h41 h42 h43 h44 h45 h46 h47 h48 v0)), (h37, .inr (5, mX5 h38)), (h38, zi k38 26 (a19_ 0)), (h13, .inr (7, mX7 h14 h15 h16 h17 h18 h19 h20 v13)), (h42, zi k42 120 f42), (h43, zi k43 120 f43), (h18, zi k18 40 f18), (h36, .inl (k36, 40, .inr (.inr (.inr (.inr f36))))), (h41, zi k41 40 f41), (h31, .inl (k31, 400, .inr (.inr (.inr (.inr f31)))))] ++ pl19) H ∧ va_D A ([(h0, .inr (1, mX1 h1 h6 h13 h21 h36 h37 h39 h40 h41 h42 h43 h44 h45 h46 h47 h48 v0)), (h37, .inr (5, mX5 h38)), (h38, zi k38 26 (a19_ 0)), (h13, .inr (7, mX7 h14 h15 h16 h17 h18 h19 h20 v13)), (h42, zi k42 120 f42), (h43, zi k43 120 f43), (h18, zi k18 40 f18), (h36, .inl (k36, 40, .inr (.inr (.inr (.inr f36))))), (h41, zi k41 40 f41), (h31, .inl (k31, 400, .inr (.inr (.inr (.inr f31)))))] ++ pl19) ∧ va_S A s.heap H locs ∧ lv_has ls 3 [(0, .ref h0), (1, .int x1), (2, .int (u19_ 0))] ∧ (0 ≤ (u19_ 0).toInt ∧ (u19_ 0).toInt ≤ 40) ∧ (zRd h22 f31 pl19) ∧ (zPs k41 f36 pl19) ∧ (zOt pl0 pl19)) (fun ls u19_ w19_ => F0 m 19 ls []) 0 0 ?_ (fun hJ19 => ?_)
    · skip
      intro H locs ls u19_ w19_ a19_ b19_ hc hJ19
      obtain ⟨q19_, pl19, hP, hD, hS, hl, b_, hI19_0, hI19_1, hI19_2⟩ := hc
      refine lv_iload_n hx hb dX1_keep_19 rfl (lv_at hl 2 rfl) ?_
      refine lv_aload_n hx hb dX1_keep_20 rfl (lv_at hl 0 rfl) ?_
      refine va_get (D := (dC, dI)) (ci := 1) (v := .ref h13) (C := RX1) (T := TX1) (N := 17) hx hb hG zuX1 hown hK hP 0 rfl rfl 2 (by decide) (hG _ zv506) (fun _ h9 => h9) rfl dX1_keep_21 ?_
      have hPc := hP.sub (ws' := [(h13, .inr (7, mX7 h14 h15 h16 h17 h18 h19 h20 v13))]) [3] rfl
      have hDc := hD.sub (ws' := [(h13, .inr (7, mX7 h14 h15 h16 h17 h18 h19 h20 v13))]) [3] (by decide) rfl
      have hKc := hK.sub (tys' := []) [] rfl
      have hFc := va_free (wc := [(h13, .inr (7, mX7 h14 h15 h16 h17 h18 h19 h20 v13))]) hD hS hA [3] rfl
      refine va_calli (va_runV (As := []) (rest := [.int (u19_ 0)]) ⟨hx, hb, hml, hown, hG⟩ (sX7_leaves_0 l dC dI adK adV h13 h14 h15 h16 h17 h18 h19 h20 H.size v13 hv13) (cwV 0 hG (zgV zv1211 zv1093 zv1094 zv136 zv1095) rfl rfl rfl (by decide +kernel) ⟨Nat.le_of_ble_eq_true rfl, Nat.le_of_ble_eq_true rfl⟩) ⟨zPc_blind, va_recv hKc hPc (ci := 7) (q0 := 0) rfl rfl, zPc_pre hPc hKc hDc hE hS hFc hZ⟩ rfl rfl hl.1 rfl (lv_room (Nat.le_of_ble_eq_true rfl)) dX1_keep_24 ⟨Nat.le_of_ble_eq_true rfl, Nat.le_of_ble_eq_true rfl⟩) hS (fun q _ h => hFc q h) hFc (fun r24_ u24_ t H1 locs ht hvm hw hB hz1 hk1 hS => ?_)
      replace hw : (0 ≤ r24_.toInt ∧ r24_.toInt ≤ 40) ∧ (r24_.toInt = (v13 7).toInt) := hw
      obtain ⟨b_, hX24_0⟩ := hw
      obtain ⟨w24_, a24_, b24_, hP1, hK1, hD1⟩ := hB
      rw [ht] at hP1
      obtain ⟨hP, hD⟩ := va_joinQ (wr := [(h0, .inr (1, mX1 h1 h6 h13 h21 h36 h37 h39 h40 h41 h42 h43 h44 h45 h46 h47 h48 v0)), (h37, .inr (5, mX5 h38)), (h38, zi k38 26 (a19_ 0)), (h42, zi k42 120 f42), (h43, zi k43 120 f43), (h18, zi k18 40 f18), (h36, .inl (k36, 40, .inr (.inr (.inr (.inr f36))))), (h41, zi k41 40 f41), (h31, .inl (k31, 400, .inr (.inr (.inr (.inr f31)))))]) (w1 := [(h13, .inr (7, mX7 h14 h15 h16 h17 h18 h19 h20 v13))]) hP hD [3] [0, 1, 2, 4, 5, 6, 7, 8, 9] rfl rfl (by decide) (by decide) hk1 hFc hP1 hD1
      have hP : va_P (dC, dI) vwCl ([(h0, .inr (1, mX1 h1 h6 h13 h21 h36 h37 h39 h40 h41 h42 h43 h44 h45 h46 h47 h48 v0)), (h37, .inr (5, mX5 h38)), (h38, zi k38 26 (a19_ 0)), (h13, .inr (7, mX7 h14 h15 h16 h17 h18 h19 h20 v13)), (h42, zi k42 120 f42), (h43, zi k43 120 f43), (h18, zi k18 40 f18), (h36, .inl (k36, 40, .inr (.inr (.inr (.inr f36))))), (h41, zi k41 40 f41), (h31, .inl (k31, 400, .inr (.inr (.inr (.inr f31)))))] ++ pl19) H1 := hP.part [0, 1, 2, 9, 3, 4, 5, 6, 7, 8] rfl
      have hD : va_D A ([(h0, .inr (1, mX1 h1 h6 h13 h21 h36 h37 h39 h40 h41 h42 h43 h44 h45 h46 h47 h48 v0)), (h37, .inr (5, mX5 h38)), (h38, zi k38 26 (a19_ 0)), (h13, .inr (7, mX7 h14 h15 h16 h17 h18 h19 h20 v13)), (h42, zi k42 120 f42), (h43, zi k43 120 f43), (h18, zi k18 40 f18), (h36, .inl (k36, 40, .inr (.inr (.inr (.inr f36))))), (h41, zi k41 40 f41), (h31, .inl (k31, 400, .inr (.inr (.inr (.inr f31)))))] ++ pl19) := hD.part [0, 1, 2, 9, 3, 4, 5, 6, 7, 8] (by decide) rfl
      generalize H1 = H at hP hS ⊢
      clear hz1
      refine lv_icmp_ge (tgt := 69) hx hb dX1_keep_27 (by decide) (fun c_ => ?_) (fun c_ => ?_)
      · skip
        have b_ := zT_ge rfl rfl c_
        refine lv_aload_n hx hb dX1_keep_69 rfl (lv_at hl 0 rfl) ?_
        refine va_get (D := (dC, dI)) (ci := 1) (v := .ref h42) (C := RX1) (T := TX1) (N := 17) hx hb hG zuX1 hown hK hP 0 rfl rfl 9 (by decide) (hG _ zv513) (fun _ h9 => h9) rfl dX1_keep_70 ?_
        refine lv_aload_n hx hb dX1_keep_73 rfl (lv_at hl 0 rfl) ?_
        refine va_get (D := (dC, dI)) (ci := 1) (v := .int (v0 16)) (C := RX1) (T := TX1) (N := 17) hx hb hG zuX1 hown hK hP 0 rfl rfl 16 (by decide) (hG _ zv520) (fun _ h9 => h9) rfl dX1_keep_74 ?_
        refine lv_iload_n hx hb dX1_keep_77 rfl (lv_at hl 1 rfl) ?_
        refine va_iast hx hb hK hP hD hS 4 1 rfl rfl (zin_lit ⟨by omega, by omega⟩) dX1_keep_78 (fun H locs hP hD hS => ?_)
        obtain ⟨f_78, e_f_78⟩ : ∃ z : Nat → Int32, z = upd f42 ((v0 16) : Int32).toNatClampNeg x1 := ⟨_, rfl⟩
        have hP : va_P (dC, dI) vwCl ([(h0, .inr (1, mX1 h1 h6 h13 h21 h36 h37 h39 h40 h41 h42 h43 h44 h45 h46 h47 h48 v0)), (h37, .inr (5, mX5 h38)), (h38, zi k38 26 (a19_ 0)), (h13, .inr (7, mX7 h14 h15 h16 h17 h18 h19 h20 v13)), (h42, zi k42 120 f_78), (h43, zi k43 120 f43), (h18, zi k18 40 f18), (h36, .inl (k36, 40, .inr (.inr (.inr (.inr f36))))), (h41, zi k41 40 f41), (h31, .inl (k31, 400, .inr (.inr (.inr (.inr f31)))))] ++ pl19) H := by rw [e_f_78]; exact hP
        have hD : va_D A ([(h0, .inr (1, mX1 h1 h6 h13 h21 h36 h37 h39 h40 h41 h42 h43 h44 h45 h46 h47 h48 v0)), (h37, .inr (5, mX5 h38)), (h38, zi k38 26 (a19_ 0)), (h13, .inr (7, mX7 h14 h15 h16 h17 h18 h19 h20 v13)), (h42, zi k42 120 f_78), (h43, zi k43 120 f43), (h18, zi k18 40 f18), (h36, .inl (k36, 40, .inr (.inr (.inr (.inr f36))))), (h41, zi k41 40 f41), (h31, .inl (k31, 400, .inr (.inr (.inr (.inr f31)))))] ++ pl19) := by rw [e_f_78]; exact hD
        have hf_78 : zA 0 119 f_78 := by rw [e_f_78]; exact zA_upd hf42 (show 0 ≤ (x1 : Int32).toInt from by omega) (show (x1 : Int32).toInt ≤ 119 from by omega)
        refine lv_aload_n hx hb dX1_keep_79 rfl (lv_at hl 0 rfl) ?_
        refine va_get (D := (dC, dI)) (ci := 1) (v := .ref h43) (C := RX1) (T := TX1) (N := 17) hx hb hG zuX1 hown hK hP 0 rfl rfl 10 (by decide) (hG _ zv514) (fun _ h9 => h9) rfl dX1_keep_80 ?_
        refine lv_aload_n hx hb dX1_keep_83 rfl (lv_at hl 0 rfl) ?_
        refine va_get (D := (dC, dI)) (ci := 1) (v := .int (v0 16)) (C := RX1) (T := TX1) (N := 17) hx hb hG zuX1 hown hK hP 0 rfl rfl 16 (by decide) (hG _ zv520) (fun _ h9 => h9) rfl dX1_keep_84 ?_
        refine lv_aload_n hx hb dX1_keep_87 rfl (lv_at hl 0 rfl) ?_
        refine va_get (D := (dC, dI)) (ci := 1) (v := .ref h37) (C := RX1) (T := TX1) (N := 17) hx hb hG zuX1 hown hK hP 0 rfl rfl 5 (by decide) (hG _ zv509) (fun _ h9 => h9) rfl dX1_keep_88 ?_
        have hPc := hP.sub (ws' := [(h37, .inr (5, mX5 h38)), (h38, zi k38 26 (a19_ 0))]) [1, 2] rfl
        have hDc := hD.sub (ws' := [(h37, .inr (5, mX5 h38)), (h38, zi k38 26 (a19_ 0))]) [1, 2] (by decide) rfl
        have hKc := hK.sub (tys' := [(k38, .int)]) [0] rfl
        have hFc := va_free (wc := [(h37, .inr (5, mX5 h38)), (h38, zi k38 26 (a19_ 0))]) hD hS hA [1, 2] rfl
        refine va_calli (va_runV (As := []) (rest := [.int (v0 16), .ref h43]) ⟨hx, hb, hml, hown, hG⟩ (sX5_fullest_0 l dC dI adK adV h37 h38 k38 H.size (a19_ 0)) (cwV 0 hG (zgV zv1338 zv1339 zv1340 zv139 zv1341) rfl rfl rfl (by decide +kernel) ⟨Nat.le_of_ble_eq_true rfl, Nat.le_of_ble_eq_true rfl⟩) ⟨zPc_blind, va_recv hKc hPc (ci := 5) (q0 := 0) rfl rfl, zPc_pre hPc hKc hDc hE hS hFc hZ⟩ rfl rfl hl.1 rfl (lv_room (Nat.le_of_ble_eq_true rfl)) dX1_keep_91 ⟨Nat.le_of_ble_eq_true rfl, Nat.le_of_ble_eq_true rfl⟩) hS (fun q _ h => hFc q h) hFc (fun r91_ u91_ t H1 locs ht hvm hw hB hz1 hk1 hS => ?_)
        replace hw : ((-1) ≤ r91_.toInt ∧ r91_.toInt ≤ 832) := hw
        have b_ := hw
        obtain ⟨w91_, a91_, b91_, hP1, hK1, hD1⟩ := hB
        rw [ht] at hP1
        obtain ⟨hP, hD⟩ := va_joinQ (wr := [(h0, .inr (1, mX1 h1 h6 h13 h21 h36 h37 h39 h40 h41 h42 h43 h44 h45 h46 h47 h48 v0)), (h13, .inr (7, mX7 h14 h15 h16 h17 h18 h19 h20 v13)), (h42, zi k42 120 f_78), (h43, zi k43 120 f43), (h18, zi k18 40 f18), (h36, .inl (k36, 40, .inr (.inr (.inr (.inr f36))))), (h41, zi k41 40 f41), (h31, .inl (k31, 400, .inr (.inr (.inr (.inr f31)))))]) (w1 := [(h37, .inr (5, mX5 h38)), (h38, zi k38 26 (a19_ 0))]) hP hD [1, 2] [0, 3, 4, 5, 6, 7, 8, 9] rfl rfl (by decide) (by decide) hk1 hFc hP1 hD1
        have hP : va_P (dC, dI) vwCl ([(h0, .inr (1, mX1 h1 h6 h13 h21 h36 h37 h39 h40 h41 h42 h43 h44 h45 h46 h47 h48 v0)), (h37, .inr (5, mX5 h38)), (h38, zi k38 26 (a19_ 0)), (h13, .inr (7, mX7 h14 h15 h16 h17 h18 h19 h20 v13)), (h42, zi k42 120 f_78), (h43, zi k43 120 f43), (h18, zi k18 40 f18), (h36, .inl (k36, 40, .inr (.inr (.inr (.inr f36))))), (h41, zi k41 40 f41), (h31, .inl (k31, 400, .inr (.inr (.inr (.inr f31)))))] ++ pl19) H1 := hP.part [0, 8, 9, 1, 2, 3, 4, 5, 6, 7] rfl
        have hD : va_D A ([(h0, .inr (1, mX1 h1 h6 h13 h21 h36 h37 h39 h40 h41 h42 h43 h44 h45 h46 h47 h48 v0)), (h37, .inr (5, mX5 h38)), (h38, zi k38 26 (a19_ 0)), (h13, .inr (7, mX7 h14 h15 h16 h17 h18 h19 h20 v13)), (h42, zi k42 120 f_78), (h43, zi k43 120 f43), (h18, zi k18 40 f18), (h36, .inl (k36, 40, .inr (.inr (.inr (.inr f36))))), (h41, zi k41 40 f41), (h31, .inl (k31, 400, .inr (.inr (.inr (.inr f31)))))] ++ pl19) := hD.part [0, 8, 9, 1, 2, 3, 4, 5, 6, 7] (by decide) rfl
        generalize H1 = H at hP hS ⊢
        clear hz1
        refine va_iast hx hb hK hP hD hS 5 2 rfl rfl (zin_lit ⟨by omega, by omega⟩) dX1_keep_94 (fun H locs hP hD hS => ?_)
        obtain ⟨f_94, e_f_94⟩ : ∃ z : Nat → Int32, z = upd f43 ((v0 16) : Int32).toNatClampNeg r91_ := ⟨_, rfl⟩
        have hP : va_P (dC, dI) vwCl ([(h0, .inr (1, mX1 h1 h6 h13 h21 h36 h37 h39 h40 h41 h42 h43 h44 h45 h46 h47 h48 v0)), (h37, .inr (5, mX5 h38)), (h38, zi k38 26 (a19_ 0)), (h13, .inr (7, mX7 h14 h15 h16 h17 h18 h19 h20 v13)), (h42, zi k42 120 f_78), (h43, zi k43 120 f_94), (h18, zi k18 40 f18), (h36, .inl (k36, 40, .inr (.inr (.inr (.inr f36))))), (h41, zi k41 40 f41), (h31, .inl (k31, 400, .inr (.inr (.inr (.inr f31)))))] ++ pl19) H := by rw [e_f_94]; exact hP
        have hD : va_D A ([(h0, .inr (1, mX1 h1 h6 h13 h21 h36 h37 h39 h40 h41 h42 h43 h44 h45 h46 h47 h48 v0)), (h37, .inr (5, mX5 h38)), (h38, zi k38 26 (a19_ 0)), (h13, .inr (7, mX7 h14 h15 h16 h17 h18 h19 h20 v13)), (h42, zi k42 120 f_78), (h43, zi k43 120 f_94), (h18, zi k18 40 f18), (h36, .inl (k36, 40, .inr (.inr (.inr (.inr f36))))), (h41, zi k41 40 f41), (h31, .inl (k31, 400, .inr (.inr (.inr (.inr f31)))))] ++ pl19) := by rw [e_f_94]; exact hD
        refine lv_aload_n hx hb dX1_keep_95 rfl (lv_at hl 0 rfl) ?_
        refine lv_dup hx hb dX1_keep_96 rfl ?_
        refine va_get (D := (dC, dI)) (ci := 1) (v := .int (v0 16)) (C := RX1) (T := TX1) (N := 17) hx hb hG zuX1 hown hK hP 0 rfl rfl 16 (by decide) (hG _ zv520) (fun _ h9 => h9) rfl dX1_keep_97 ?_
        refine lv_iconst (v := 1) hx hb dX1_keep_100 (by decide) ?_
        refine lv_iadd hx hb dX1_keep_101 ?_
        refine lv_topi (fun z101 e_z101 => ?_)
        have b_ := zadd rfl zk_1 e_z101 (by omega) (by omega)
        refine va_put (D := (dC, dI)) (ci := 1) (v := .int z101) (ty := .int) (C := RX1) (T := TX1) (N := 17) hx hb hG zuX1 tyX1 tyX1_ok nmX1 hown hK hP hD hS 0 rfl rfl 16 (by decide) (hG _ zv520) (fun _ h9 => h9) rfl (by decide +kernel) rfl rfl (Nat.le_of_ble_eq_true rfl) dX1_keep_102 (fun H locs hP hD hS => ?_)
        have hP : va_P (dC, dI) vwCl ([(h0, .inr (1, mX1 h1 h6 h13 h21 h36 h37 h39 h40 h41 h42 h43 h44 h45 h46 h47 h48 (upd v0 16 z101))), (h37, .inr (5, mX5 h38)), (h38, zi k38 26 (a19_ 0)), (h13, .inr (7, mX7 h14 h15 h16 h17 h18 h19 h20 v13)), (h42, zi k42 120 f_78), (h43, zi k43 120 f_94), (h18, zi k18 40 f18), (h36, .inl (k36, 40, .inr (.inr (.inr (.inr f36))))), (h41, zi k41 40 f41), (h31, .inl (k31, 400, .inr (.inr (.inr (.inr f31)))))] ++ pl19) H := hP
        have hD : va_D A ([(h0, .inr (1, mX1 h1 h6 h13 h21 h36 h37 h39 h40 h41 h42 h43 h44 h45 h46 h47 h48 (upd v0 16 z101))), (h37, .inr (5, mX5 h38)), (h38, zi k38 26 (a19_ 0)), (h13, .inr (7, mX7 h14 h15 h16 h17 h18 h19 h20 v13)), (h42, zi k42 120 f_78), (h43, zi k43 120 f_94), (h18, zi k18 40 f18), (h36, .inl (k36, 40, .inr (.inr (.inr (.inr f36))))), (h41, zi k41 40 f41), (h31, .inl (k31, 400, .inr (.inr (.inr (.inr f31)))))] ++ pl19) := hD
        refine W.widen (k := 0) (n := 0) (by decide) (by decide) ?_
        have hpost : (1 ≤ z101.toInt ∧ z101.toInt ≤ 120) := (by first | with_reducible assumption | exact ⟨by omega, by omega⟩)
        have hP9 : va_P (dC, dI) vwCl ([(h0, .inr (1, mX1 h1 h6 h13 h21 h36 h37 h39 h40 h41 h42 h43 h44 h45 h46 h47 h48 (upd v0 16 z101))), (h37, .inr (5, mX5 h38)), (h38, zi k38 26 (a19_ 0)), (h13, .inr (7, mX7 h14 h15 h16 h17 h18 h19 h20 v13)), (h42, zi k42 120 f_78), (h43, zi k43 120 f_94), (h18, zi k18 40 f18), (h36, .inl (k36, 40, .inr (.inr (.inr (.inr f36))))), (h41, zi k41 40 f41), (h31, .inl (k31, 400, .inr (.inr (.inr (.inr f31)))))] ++ pl19) H := hP
        have hD9 : va_D A ([(h0, .inr (1, mX1 h1 h6 h13 h21 h36 h37 h39 h40 h41 h42 h43 h44 h45 h46 h47 h48 (upd v0 16 z101))), (h37, .inr (5, mX5 h38)), (h38, zi k38 26 (a19_ 0)), (h13, .inr (7, mX7 h14 h15 h16 h17 h18 h19 h20 v13)), (h42, zi k42 120 f_78), (h43, zi k43 120 f_94), (h18, zi k18 40 f18), (h36, .inl (k36, 40, .inr (.inr (.inr (.inr f36))))), (h41, zi k41 40 f41), (h31, .inl (k31, 400, .inr (.inr (.inr (.inr f31)))))] ++ pl19) := hD
        have hB0 : zRd h22 f31 pl19 := by assumption
        have hB1 : zPs k41 f36 pl19 := by assumption
        have hB2 : zOt pl0 pl19 := by first | assumption | exact zOt_rf
        exact W.vret hx hb hr (fun t ht hW => ⟨⟨(fun i => ([z101] : List (Int32)).getD i 0), rfl, hpost, (fun _ => 0), (fun i => ([(a19_ 0), f_78, f_94] : List (Nat → Int32)).getD i (fun _ => 0)), (fun _ => (fun _ => 0)), (fun _ => (fun _ => none)), pl19, hf_78, hB0, hB1, hB2, by rw [ht]; exact hP9, va_K.moved hW.alike hK, hD9⟩, hS.F ht⟩) hS.2.2 dX1_keep_105
      · skip
        have b_ := zF_ge rfl rfl c_
        refine lv_aload_n hx hb dX1_keep_30 rfl (lv_at hl 0 rfl) ?_
        refine va_get (D := (dC, dI)) (ci := 1) (v := .ref h13) (C := RX1) (T := TX1) (N := 17) hx hb hG zuX1 hown hK hP 0 rfl rfl 2 (by decide) (hG _ zv506) (fun _ h9 => h9) rfl dX1_keep_31 ?_
        refine lv_iload_n hx hb dX1_keep_34 rfl (lv_at hl 2 rfl) ?_
        have hPc := hP.sub (ws' := [(h13, .inr (7, mX7 h14 h15 h16 h17 h18 h19 h20 v13)), (h18, zi k18 40 f18)]) [3, 6] rfl
        have hDc := hD.sub (ws' := [(h13, .inr (7, mX7 h14 h15 h16 h17 h18 h19 h20 v13)), (h18, zi k18 40 f18)]) [3, 6] (by decide) rfl
        have hKc := hK.sub (tys' := [(k18, .boolean)]) [3] rfl
        have hFc := va_free (wc := [(h13, .inr (7, mX7 h14 h15 h16 h17 h18 h19 h20 v13)), (h18, zi k18 40 f18)]) hD hS hA [3, 6] rfl
        refine va_calli (va_runV (As := [.int (u19_ 0)]) (rest := []) ⟨hx, hb, hml, hown, hG⟩ (sX7_isCounted_0 l dC dI adK adV h13 h18 h14 h15 h16 h17 h19 h20 k18 H.size v13 f18 (u19_ 0) hv13) (cwV 1 hG (zgV zv1330 zv1331 zv1332 zv136 zv1333) rfl rfl rfl (by decide +kernel) ⟨Nat.le_of_ble_eq_true rfl, Nat.le_of_ble_eq_true rfl⟩) ⟨zPc_blind, va_recv hKc hPc (ci := 7) (q0 := 0) rfl rfl, zPc_pre hPc hKc hDc hE hS hFc hZ⟩ rfl rfl hl.1 rfl (lv_room (Nat.le_of_ble_eq_true rfl)) dX1_keep_35 ⟨Nat.le_of_ble_eq_true rfl, Nat.le_of_ble_eq_true rfl⟩) hS (fun q _ h => hFc q h) hFc (fun r35_ u35_ t H1 locs ht hvm hw hB hz1 hk1 hS => ?_)
        replace hw : (0 ≤ r35_.toInt ∧ r35_.toInt ≤ 1) := hw
        have b_ := hw
        obtain ⟨w35_, a35_, b35_, hP1, hK1, hD1⟩ := hB
        rw [ht] at hP1
        obtain ⟨hP, hD⟩ := va_joinQ (wr := [(h0, .inr (1, mX1 h1 h6 h13 h21 h36 h37 h39 h40 h41 h42 h43 h44 h45 h46 h47 h48 v0)), (h37, .inr (5, mX5 h38)), (h38, zi k38 26 (a19_ 0)), (h42, zi k42 120 f42), (h43, zi k43 120 f43), (h36, .inl (k36, 40, .inr (.inr (.inr (.inr f36))))), (h41, zi k41 40 f41), (h31, .inl (k31, 400, .inr (.inr (.inr (.inr f31)))))]) (w1 := [(h13, .inr (7, mX7 h14 h15 h16 h17 h18 h19 h20 v13)), (h18, zi k18 40 f18)]) hP hD [3, 6] [0, 1, 2, 4, 5, 7, 8, 9] rfl rfl (by decide) (by decide) hk1 hFc hP1 hD1
        have hP : va_P (dC, dI) vwCl ([(h0, .inr (1, mX1 h1 h6 h13 h21 h36 h37 h39 h40 h41 h42 h43 h44 h45 h46 h47 h48 v0)), (h37, .inr (5, mX5 h38)), (h38, zi k38 26 (a19_ 0)), (h13, .inr (7, mX7 h14 h15 h16 h17 h18 h19 h20 v13)), (h42, zi k42 120 f42), (h43, zi k43 120 f43), (h18, zi k18 40 f18), (h36, .inl (k36, 40, .inr (.inr (.inr (.inr f36))))), (h41, zi k41 40 f41), (h31, .inl (k31, 400, .inr (.inr (.inr (.inr f31)))))] ++ pl19) H1 := hP.part [0, 1, 2, 8, 3, 4, 9, 5, 6, 7] rfl
        have hD : va_D A ([(h0, .inr (1, mX1 h1 h6 h13 h21 h36 h37 h39 h40 h41 h42 h43 h44 h45 h46 h47 h48 v0)), (h37, .inr (5, mX5 h38)), (h38, zi k38 26 (a19_ 0)), (h13, .inr (7, mX7 h14 h15 h16 h17 h18 h19 h20 v13)), (h42, zi k42 120 f42), (h43, zi k43 120 f43), (h18, zi k18 40 f18), (h36, .inl (k36, 40, .inr (.inr (.inr (.inr f36))))), (h41, zi k41 40 f41), (h31, .inl (k31, 400, .inr (.inr (.inr (.inr f31)))))] ++ pl19) := hD.part [0, 1, 2, 8, 3, 4, 9, 5, 6, 7] (by decide) rfl
        generalize H1 = H at hP hS ⊢
        clear hz1
        refine lv_if_eq (tgt := 63) hx hb dX1_keep_38 (by decide) (fun c_ => ?_) (fun c_ => ?_)
        · skip
          have b_ := zT_eq rfl zk_0 c_
          obtain ⟨z63, e_z63⟩ : ∃ z : Int32, z = (u19_ 0) + Int32.ofInt 1 := ⟨_, rfl⟩
          have b_ := zadd (x := (u19_ 0)) (y := Int32.ofInt 1) rfl (show (Int32.ofInt 1).toInt = 1 from by decide) e_z63 (by omega) (by omega)
          refine lv_iinc (v := z63) (lv' := [(2, .int z63), (0, .ref h0), (1, .int x1)]) hx hb dX1_keep_63 hl (k := 2) rfl e_z63.symm (by decide) rfl (fun ls hl => ?_)
          refine lv_goto (tgt := 19) hx hb dX1_keep_66 (by decide) ?_
          have hc : va_P (dC, dI) vwCl ([(h0, .inr (1, mX1 h1 h6 h13 h21 h36 h37 h39 h40 h41 h42 h43 h44 h45 h46 h47 h48 v0)), (h37, .inr (5, mX5 h38)), (h38, zi k38 26 (a19_ 0)), (h13, .inr (7, mX7 h14 h15 h16 h17 h18 h19 h20 v13)), (h42, zi k42 120 f42), (h43, zi k43 120 f43), (h18, zi k18 40 f18), (h36, .inl (k36, 40, .inr (.inr (.inr (.inr f36))))), (h41, zi k41 40 f41), (h31, .inl (k31, 400, .inr (.inr (.inr (.inr f31)))))] ++ pl19) H ∧ va_D A ([(h0, .inr (1, mX1 h1 h6 h13 h21 h36 h37 h39 h40 h41 h42 h43 h44 h45 h46 h47 h48 v0)), (h37, .inr (5, mX5 h38)), (h38, zi k38 26 (a19_ 0)), (h13, .inr (7, mX7 h14 h15 h16 h17 h18 h19 h20 v13)), (h42, zi k42 120 f42), (h43, zi k43 120 f43), (h18, zi k18 40 f18), (h36, .inl (k36, 40, .inr (.inr (.inr (.inr f36))))), (h41, zi k41 40 f41), (h31, .inl (k31, 400, .inr (.inr (.inr (.inr f31)))))] ++ pl19) ∧ va_S A s.heap H locs ∧ lv_has ls 3 [(0, .ref h0), (1, .int x1), (2, .int z63)] ∧ (0 ≤ z63.toInt ∧ z63.toInt ≤ 40) ∧ (zRd h22 f31 pl19) ∧ (zPs k41 f36 pl19) ∧ (zOt pl0 pl19) := ⟨hP, hD, hS, lv_sub hl [1, 2, 0] rfl, (by first | with_reducible assumption | exact ⟨by omega, by omega⟩), by assumption, by assumption, by first | assumption | exact zOt_rf⟩
          exact hJ19 H locs ls (fun i => ([z63] : List (Int32)).getD i 0) (fun _ => 0) (fun i => ([(a19_ 0)] : List (Nat → Int32)).getD i (fun _ => 0)) (fun _ => (fun _ => 0)) ⟨(fun _ => (fun _ => none)), pl19, hc⟩ (show (40 - z63.toInt).toNat < (40 - (u19_ 0).toInt).toNat from by omega)
        · skip
          have b_ := zF_eq rfl zk_0 c_
          refine lv_aload_n hx hb dX1_keep_41 rfl (lv_at hl 0 rfl) ?_
          refine va_get (D := (dC, dI)) (ci := 1) (v := .ref h36) (C := RX1) (T := TX1) (N := 17) hx hb hG zuX1 hown hK hP 0 rfl rfl 4 (by decide) (hG _ zv508) (fun _ h9 => h9) rfl dX1_keep_42 ?_
          refine lv_iload_n hx hb dX1_keep_45 rfl (lv_at hl 2 rfl) ?_
          refine va_aldq hx hb hK hP 7 4 rfl rfl (zin_lit ⟨by omega, by omega⟩) dX1_keep_46 ?_
          refine lv_topq (fun o46 e_o46 => ?_)
          rcases o46 with _ | a46_
          · skip
            refine W.eq (g2 := F0 m 47 ls [.null]) rfl ?_
            refine lv_ifnullN (tgt := 63) hx hb dX1_keep_47 (by decide) ?_
            obtain ⟨z63, e_z63⟩ : ∃ z : Int32, z = (u19_ 0) + Int32.ofInt 1 := ⟨_, rfl⟩
            have b_ := zadd (x := (u19_ 0)) (y := Int32.ofInt 1) rfl (show (Int32.ofInt 1).toInt = 1 from by decide) e_z63 (by omega) (by omega)
            refine lv_iinc (v := z63) (lv' := [(2, .int z63), (0, .ref h0), (1, .int x1)]) hx hb dX1_keep_63 hl (k := 2) rfl e_z63.symm (by decide) rfl (fun ls hl => ?_)
            refine lv_goto (tgt := 19) hx hb dX1_keep_66 (by decide) ?_
            have hc : va_P (dC, dI) vwCl ([(h0, .inr (1, mX1 h1 h6 h13 h21 h36 h37 h39 h40 h41 h42 h43 h44 h45 h46 h47 h48 v0)), (h37, .inr (5, mX5 h38)), (h38, zi k38 26 (a19_ 0)), (h13, .inr (7, mX7 h14 h15 h16 h17 h18 h19 h20 v13)), (h42, zi k42 120 f42), (h43, zi k43 120 f43), (h18, zi k18 40 f18), (h36, .inl (k36, 40, .inr (.inr (.inr (.inr f36))))), (h41, zi k41 40 f41), (h31, .inl (k31, 400, .inr (.inr (.inr (.inr f31)))))] ++ pl19) H ∧ va_D A ([(h0, .inr (1, mX1 h1 h6 h13 h21 h36 h37 h39 h40 h41 h42 h43 h44 h45 h46 h47 h48 v0)), (h37, .inr (5, mX5 h38)), (h38, zi k38 26 (a19_ 0)), (h13, .inr (7, mX7 h14 h15 h16 h17 h18 h19 h20 v13)), (h42, zi k42 120 f42), (h43, zi k43 120 f43), (h18, zi k18 40 f18), (h36, .inl (k36, 40, .inr (.inr (.inr (.inr f36))))), (h41, zi k41 40 f41), (h31, .inl (k31, 400, .inr (.inr (.inr (.inr f31)))))] ++ pl19) ∧ va_S A s.heap H locs ∧ lv_has ls 3 [(0, .ref h0), (1, .int x1), (2, .int z63)] ∧ (0 ≤ z63.toInt ∧ z63.toInt ≤ 40) ∧ (zRd h22 f31 pl19) ∧ (zPs k41 f36 pl19) ∧ (zOt pl0 pl19) := ⟨hP, hD, hS, lv_sub hl [1, 2, 0] rfl, (by first | with_reducible assumption | exact ⟨by omega, by omega⟩), by assumption, by assumption, by first | assumption | exact zOt_rf⟩
            exact hJ19 H locs ls (fun i => ([z63] : List (Int32)).getD i 0) (fun _ => 0) (fun i => ([(a19_ 0)] : List (Nat → Int32)).getD i (fun _ => 0)) (fun _ => (fun _ => 0)) ⟨(fun _ => (fun _ => none)), pl19, hc⟩ (show (40 - z63.toInt).toNat < (40 - (u19_ 0).toInt).toNat from by omega)
          · skip
            refine W.eq (g2 := F0 m 47 ls [.ref a46_]) rfl ?_
            have hnn_ : f36 ((u19_ 0) : Int32).toNatClampNeg ≠ none := fun h => by rw [h] at e_o46; cases e_o46
            refine lv_ifnull hx hb dX1_keep_47 ?_
            refine lv_aload_n hx hb dX1_keep_50 rfl (lv_at hl 0 rfl) ?_
            refine va_get (D := (dC, dI)) (ci := 1) (v := .ref h37) (C := RX1) (T := TX1) (N := 17) hx hb hG zuX1 hown hK hP 0 rfl rfl 5 (by decide) (hG _ zv509) (fun _ h9 => h9) rfl dX1_keep_51 ?_
            refine lv_aload_n hx hb dX1_keep_54 rfl (lv_at hl 0 rfl) ?_
            refine va_get (D := (dC, dI)) (ci := 1) (v := .ref h36) (C := RX1) (T := TX1) (N := 17) hx hb hG zuX1 hown hK hP 0 rfl rfl 4 (by decide) (hG _ zv508) (fun _ h9 => h9) rfl dX1_keep_55 ?_
            refine lv_iload_n hx hb dX1_keep_58 rfl (lv_at hl 2 rfl) ?_
            refine va_aldq hx hb hK hP 7 4 rfl rfl (zin_lit ⟨by omega, by omega⟩) dX1_keep_59 ?_
            refine lv_topq (fun o59 e_o59 => ?_)
            rcases o59 with _ | a59_
            · skip
              exact absurd e_o59.symm (by assumption)
            · skip
              refine W.eq (g2 := F0 m 60 ls [.ref a59_, .ref h37]) rfl ?_
              have hnn_ : f36 ((u19_ 0) : Int32).toNatClampNeg ≠ none := fun h => by rw [h] at e_o59; cases e_o59
              obtain ⟨b59_, f59_, p59, e_pl59, hzp59⟩ := zPs_out (show zPs k41 f36 pl19 from by assumption) (zltc (by omega) (by omega)) e_o59.symm
              have hP : va_P (dC, dI) vwCl ([(h0, .inr (1, mX1 h1 h6 h13 h21 h36 h37 h39 h40 h41 h42 h43 h44 h45 h46 h47 h48 v0)), (h37, .inr (5, mX5 h38)), (h38, zi k38 26 (a19_ 0)), (h13, .inr (7, mX7 h14 h15 h16 h17 h18 h19 h20 v13)), (h42, zi k42 120 f42), (h43, zi k43 120 f43), (h18, zi k18 40 f18), (h36, .inl (k36, 40, .inr (.inr (.inr (.inr f36))))), (h41, zi k41 40 f41), (h31, .inl (k31, 400, .inr (.inr (.inr (.inr f31))))), (a59_, .inr (5, mX5 b59_)), (b59_, zi k41 26 f59_)] ++ p59) H := zfocPm e_pl59 hP
              have hD : va_D A ([(h0, .inr (1, mX1 h1 h6 h13 h21 h36 h37 h39 h40 h41 h42 h43 h44 h45 h46 h47 h48 v0)), (h37, .inr (5, mX5 h38)), (h38, zi k38 26 (a19_ 0)), (h13, .inr (7, mX7 h14 h15 h16 h17 h18 h19 h20 v13)), (h42, zi k42 120 f42), (h43, zi k43 120 f43), (h18, zi k18 40 f18), (h36, .inl (k36, 40, .inr (.inr (.inr (.inr f36))))), (h41, zi k41 40 f41), (h31, .inl (k31, 400, .inr (.inr (.inr (.inr f31))))), (a59_, .inr (5, mX5 b59_)), (b59_, zi k41 26 f59_)] ++ p59) := zfocDm e_pl59 hD
              have hPc := hP.sub (ws' := [(h37, .inr (5, mX5 h38)), (h38, zi k38 26 (a19_ 0)), (a59_, .inr (5, mX5 b59_)), (b59_, zi k41 26 f59_)]) [1, 2, 10, 11] rfl
              have hDc := hD.sub (ws' := [(h37, .inr (5, mX5 h38)), (h38, zi k38 26 (a19_ 0)), (a59_, .inr (5, mX5 b59_)), (b59_, zi k41 26 f59_)]) [1, 2, 10, 11] (by decide) rfl
              have hKc := hK.sub (tys' := [(k38, .int), (k41, .int)]) [0, 5] rfl
              have hFc := va_free (wc := [(h37, .inr (5, mX5 h38)), (h38, zi k38 26 (a19_ 0)), (a59_, .inr (5, mX5 b59_)), (b59_, zi k41 26 f59_)]) hD hS hA [1, 2, 10, 11] rfl
              refine va_callv (va_runV (As := [.ref a59_]) (rest := []) ⟨hx, hb, hml, hown, hG⟩ (sX5_putAll_0 l dC dI adK adV h37 h38 a59_ b59_ k38 k41 H.size (a19_ 0) f59_) (cwV 1 hG (zgV zv1334 zv1335 zv1336 zv139 zv1337) rfl rfl rfl (by decide +kernel) ⟨Nat.le_of_ble_eq_true rfl, Nat.le_of_ble_eq_true rfl⟩) ⟨zPc_blind, va_recv hKc hPc (ci := 5) (q0 := 0) rfl rfl, zPc_pre hPc hKc hDc hE hS hFc hZ⟩ rfl rfl hl.1 rfl (lv_room (Nat.le_of_ble_eq_true rfl)) dX1_keep_60 ⟨Nat.le_of_ble_eq_true rfl, Nat.le_of_ble_eq_true rfl⟩) hS (fun q _ h => hFc q h) hFc (fun u60_ t H1 locs ht hvm hw hB hz1 hk1 hS => ?_)
              obtain ⟨w60_, a60_, b60_, hP1, hK1, hD1⟩ := hB
              rw [ht] at hP1
              obtain ⟨hP, hD⟩ := va_joinQ (wr := [(h0, .inr (1, mX1 h1 h6 h13 h21 h36 h37 h39 h40 h41 h42 h43 h44 h45 h46 h47 h48 v0)), (h13, .inr (7, mX7 h14 h15 h16 h17 h18 h19 h20 v13)), (h42, zi k42 120 f42), (h43, zi k43 120 f43), (h18, zi k18 40 f18), (h36, .inl (k36, 40, .inr (.inr (.inr (.inr f36))))), (h41, zi k41 40 f41), (h31, .inl (k31, 400, .inr (.inr (.inr (.inr f31)))))]) (w1 := [(h37, .inr (5, mX5 h38)), (h38, zi k38 26 (a60_ 0)), (a59_, .inr (5, mX5 b59_)), (b59_, zi k41 26 f59_)]) hP hD [1, 2, 10, 11] [0, 3, 4, 5, 6, 7, 8, 9] rfl rfl (by decide) (by decide) hk1 hFc hP1 hD1
              have hP : va_P (dC, dI) vwCl ([(h0, .inr (1, mX1 h1 h6 h13 h21 h36 h37 h39 h40 h41 h42 h43 h44 h45 h46 h47 h48 v0)), (h37, .inr (5, mX5 h38)), (h38, zi k38 26 (a60_ 0)), (h13, .inr (7, mX7 h14 h15 h16 h17 h18 h19 h20 v13)), (h42, zi k42 120 f42), (h43, zi k43 120 f43), (h18, zi k18 40 f18), (h36, .inl (k36, 40, .inr (.inr (.inr (.inr f36))))), (h41, zi k41 40 f41), (h31, .inl (k31, 400, .inr (.inr (.inr (.inr f31))))), (a59_, .inr (5, mX5 b59_)), (b59_, zi k41 26 f59_)] ++ p59) H1 := hP.part [0, 8, 9, 1, 2, 3, 4, 5, 6, 7, 10, 11] rfl
              have hD : va_D A ([(h0, .inr (1, mX1 h1 h6 h13 h21 h36 h37 h39 h40 h41 h42 h43 h44 h45 h46 h47 h48 v0)), (h37, .inr (5, mX5 h38)), (h38, zi k38 26 (a60_ 0)), (h13, .inr (7, mX7 h14 h15 h16 h17 h18 h19 h20 v13)), (h42, zi k42 120 f42), (h43, zi k43 120 f43), (h18, zi k18 40 f18), (h36, .inl (k36, 40, .inr (.inr (.inr (.inr f36))))), (h41, zi k41 40 f41), (h31, .inl (k31, 400, .inr (.inr (.inr (.inr f31))))), (a59_, .inr (5, mX5 b59_)), (b59_, zi k41 26 f59_)] ++ p59) := hD.part [0, 8, 9, 1, 2, 3, 4, 5, 6, 7, 10, 11] (by decide) rfl
              generalize H1 = H at hP hS ⊢
              clear hz1
              obtain ⟨z63, e_z63⟩ : ∃ z : Int32, z = (u19_ 0) + Int32.ofInt 1 := ⟨_, rfl⟩
              have b_ := zadd (x := (u19_ 0)) (y := Int32.ofInt 1) rfl (show (Int32.ofInt 1).toInt = 1 from by decide) e_z63 (by omega) (by omega)
              refine lv_iinc (v := z63) (lv' := [(2, .int z63), (0, .ref h0), (1, .int x1)]) hx hb dX1_keep_63 hl (k := 2) rfl e_z63.symm (by decide) rfl (fun ls hl => ?_)
              refine lv_goto (tgt := 19) hx hb dX1_keep_66 (by decide) ?_
              obtain ⟨plx21, e_plx21⟩ : ∃ z : va_W, z = (a59_, .inr (5, mX5 b59_)) :: (b59_, zi k41 26 f59_) :: p59 := ⟨_, rfl⟩
              have hP : va_P (dC, dI) vwCl ([(h0, .inr (1, mX1 h1 h6 h13 h21 h36 h37 h39 h40 h41 h42 h43 h44 h45 h46 h47 h48 v0)), (h37, .inr (5, mX5 h38)), (h38, zi k38 26 (a60_ 0)), (h13, .inr (7, mX7 h14 h15 h16 h17 h18 h19 h20 v13)), (h42, zi k42 120 f42), (h43, zi k43 120 f43), (h18, zi k18 40 f18), (h36, .inl (k36, 40, .inr (.inr (.inr (.inr f36))))), (h41, zi k41 40 f41), (h31, .inl (k31, 400, .inr (.inr (.inr (.inr f31)))))] ++ plx21) H := by rw [e_plx21]; exact hP
              have hD : va_D A ([(h0, .inr (1, mX1 h1 h6 h13 h21 h36 h37 h39 h40 h41 h42 h43 h44 h45 h46 h47 h48 v0)), (h37, .inr (5, mX5 h38)), (h38, zi k38 26 (a60_ 0)), (h13, .inr (7, mX7 h14 h15 h16 h17 h18 h19 h20 v13)), (h42, zi k42 120 f42), (h43, zi k43 120 f43), (h18, zi k18 40 f18), (h36, .inl (k36, 40, .inr (.inr (.inr (.inr f36))))), (h41, zi k41 40 f41), (h31, .inl (k31, 400, .inr (.inr (.inr (.inr f31)))))] ++ plx21) := by rw [e_plx21]; exact hD
              have hpl_ : zRd h22 f31 plx21 := by rw [e_plx21]; exact zRd_putP (show zRd h22 f31 pl19 from by first | assumption | exact zKp_rf | exact zOt_rf) e_pl59
              have hpl_ : zPs k41 f36 plx21 := by rw [e_plx21]; exact zPs_putP (show zPs k41 f36 pl19 from by first | assumption | exact zKp_rf | exact zOt_rf) e_pl59
              have hpl_ : zOt pl0 plx21 := by rw [e_plx21]; exact zOt_putP (show zOt pl0 pl19 from by first | assumption | exact zKp_rf | exact zOt_rf) e_pl59
              have hc : va_P (dC, dI) vwCl ([(h0, .inr (1, mX1 h1 h6 h13 h21 h36 h37 h39 h40 h41 h42 h43 h44 h45 h46 h47 h48 v0)), (h37, .inr (5, mX5 h38)), (h38, zi k38 26 (a60_ 0)), (h13, .inr (7, mX7 h14 h15 h16 h17 h18 h19 h20 v13)), (h42, zi k42 120 f42), (h43, zi k43 120 f43), (h18, zi k18 40 f18), (h36, .inl (k36, 40, .inr (.inr (.inr (.inr f36))))), (h41, zi k41 40 f41), (h31, .inl (k31, 400, .inr (.inr (.inr (.inr f31)))))] ++ plx21) H ∧ va_D A ([(h0, .inr (1, mX1 h1 h6 h13 h21 h36 h37 h39 h40 h41 h42 h43 h44 h45 h46 h47 h48 v0)), (h37, .inr (5, mX5 h38)), (h38, zi k38 26 (a60_ 0)), (h13, .inr (7, mX7 h14 h15 h16 h17 h18 h19 h20 v13)), (h42, zi k42 120 f42), (h43, zi k43 120 f43), (h18, zi k18 40 f18), (h36, .inl (k36, 40, .inr (.inr (.inr (.inr f36))))), (h41, zi k41 40 f41), (h31, .inl (k31, 400, .inr (.inr (.inr (.inr f31)))))] ++ plx21) ∧ va_S A s.heap H locs ∧ lv_has ls 3 [(0, .ref h0), (1, .int x1), (2, .int z63)] ∧ (0 ≤ z63.toInt ∧ z63.toInt ≤ 40) ∧ (zRd h22 f31 plx21) ∧ (zPs k41 f36 plx21) ∧ (zOt pl0 plx21) := ⟨hP, hD, hS, lv_sub hl [1, 2, 0] rfl, (by first | with_reducible assumption | exact ⟨by omega, by omega⟩), by assumption, by assumption, by first | assumption | exact zOt_rf⟩
              exact hJ19 H locs ls (fun i => ([z63] : List (Int32)).getD i 0) (fun _ => 0) (fun i => ([(a60_ 0)] : List (Nat → Int32)).getD i (fun _ => 0)) (fun _ => (fun _ => 0)) ⟨(fun _ => (fun _ => none)), plx21, hc⟩ (show (40 - z63.toInt).toNat < (40 - (u19_ 0).toInt).toNat from by omega)
    · skip
      have hc : va_P (dC, dI) vwCl ([(h0, .inr (1, mX1 h1 h6 h13 h21 h36 h37 h39 h40 h41 h42 h43 h44 h45 h46 h47 h48 v0)), (h37, .inr (5, mX5 h38)), (h38, zi k38 26 (a14_ 0)), (h13, .inr (7, mX7 h14 h15 h16 h17 h18 h19 h20 v13)), (h42, zi k42 120 f42), (h43, zi k43 120 f43), (h18, zi k18 40 f18), (h36, .inl (k36, 40, .inr (.inr (.inr (.inr f36))))), (h41, zi k41 40 f41), (h31, .inl (k31, 400, .inr (.inr (.inr (.inr f31)))))] ++ pl0) H ∧ va_D A ([(h0, .inr (1, mX1 h1 h6 h13 h21 h36 h37 h39 h40 h41 h42 h43 h44 h45 h46 h47 h48 v0)), (h37, .inr (5, mX5 h38)), (h38, zi k38 26 (a14_ 0)), (h13, .inr (7, mX7 h14 h15 h16 h17 h18 h19 h20 v13)), (h42, zi k42 120 f42), (h43, zi k43 120 f43), (h18, zi k18 40 f18), (h36, .inl (k36, 40, .inr (.inr (.inr (.inr f36))))), (h41, zi k41 40 f41), (h31, .inl (k31, 400, .inr (.inr (.inr (.inr f31)))))] ++ pl0) ∧ va_S A s.heap H locs ∧ lv_has ls 3 [(0, .ref h0), (1, .int x1), (2, .int 0)] ∧ (0 ≤ (0 : Int32).toInt ∧ (0 : Int32).toInt ≤ 40) ∧ (zRd h22 f31 pl0) ∧ (zPs k41 f36 pl0) ∧ (zOt pl0 pl0) := ⟨hP, hD, hS, lv_sub hl [1, 2, 0] rfl, (by first | with_reducible assumption | exact ⟨by omega, by omega⟩), by assumption, by assumption, by first | assumption | exact zOt_rf⟩
      exact hJ19 H locs ls (fun i => ([0] : List (Int32)).getD i 0) (fun _ => 0) (fun i => ([(a14_ 0)] : List (Nat → Int32)).getD i (fun _ => 0)) (fun _ => (fun _ => 0)) ⟨(fun _ => (fun _ => none)), pl0, hc⟩
  · skip
    have b_ := zF_lt rfl zk_120 c_
    refine W.widen (k := 0) (n := 0) (by decide) (by decide) ?_
    have hpost : (1 ≤ (v0 16).toInt ∧ (v0 16).toInt ≤ 120) := (by first | with_reducible assumption | exact ⟨by omega, by omega⟩)
    have hP9 : va_P (dC, dI) vwCl ([(h0, .inr (1, mX1 h1 h6 h13 h21 h36 h37 h39 h40 h41 h42 h43 h44 h45 h46 h47 h48 (upd v0 16 (v0 16)))), (h37, .inr (5, mX5 h38)), (h38, zi k38 26 f38), (h13, .inr (7, mX7 h14 h15 h16 h17 h18 h19 h20 v13)), (h42, zi k42 120 f42), (h43, zi k43 120 f43), (h18, zi k18 40 f18), (h36, .inl (k36, 40, .inr (.inr (.inr (.inr f36))))), (h41, zi k41 40 f41), (h31, .inl (k31, 400, .inr (.inr (.inr (.inr f31)))))] ++ pl0) s.heap := hP
    have hD9 : va_D A ([(h0, .inr (1, mX1 h1 h6 h13 h21 h36 h37 h39 h40 h41 h42 h43 h44 h45 h46 h47 h48 (upd v0 16 (v0 16)))), (h37, .inr (5, mX5 h38)), (h38, zi k38 26 f38), (h13, .inr (7, mX7 h14 h15 h16 h17 h18 h19 h20 v13)), (h42, zi k42 120 f42), (h43, zi k43 120 f43), (h18, zi k18 40 f18), (h36, .inl (k36, 40, .inr (.inr (.inr (.inr f36))))), (h41, zi k41 40 f41), (h31, .inl (k31, 400, .inr (.inr (.inr (.inr f31)))))] ++ pl0) := hD
    have hB0 : zRd h22 f31 pl0 := by assumption
    have hB1 : zPs k41 f36 pl0 := by assumption
    have hB2 : zOt pl0 pl0 := by first | assumption | exact zOt_rf
    exact W.vret hx hb hr (fun t ht hW => ⟨⟨(fun i => ([(v0 16)] : List (Int32)).getD i 0), rfl, hpost, (fun _ => 0), (fun i => ([f38, f42, f43] : List (Nat → Int32)).getD i (fun _ => 0)), (fun _ => (fun _ => 0)), (fun _ => (fun _ => none)), pl0, hf42, hB0, hB1, hB2, by rw [ht]; exact hP9, va_K.moved hW.alike hK, hD9⟩, hS.F ht⟩) hS.2.2 dX1_keep_9
set_option maxHeartbeats 8000000 in
set_option maxRecDepth 100000 in
theorem sX0_lengthOf_0 (l : Launch) (dC : Nat → ClassId) (dI : Nat → Nat → Nat) (adK adV : Nat → Nat) (h0 : Nat) (h2 : Nat) (h1 : Nat) (h3 : Nat) (h4 : Nat) (k2 : ClassId) (sz : Nat) (v0 : Nat → Int32) (f2 : Nat → Int32) (x1 : Int32) (hv0 : zR rg_Documents v0) (hf2 : zA 0 300 f2) : Met l yX0_lengthOf (zw yX0_lengthOf cX0_lengthOf 2 (some .int)) { frames := 1, cells := 0, slots := 0, locals := 21 } (zPc dC dI adK adV [.ref h0, .int x1] sz [(h0, .inr (0, mX0 h1 h2 h3 h4 v0)), (h2, zi k2 120 f2)] [(k2, .int)]) (va_Qi (fun (r : Int32) (u : Nat → Int32) => (0 ≤ r.toInt ∧ r.toInt ≤ 300)) (fun (u : Nat → Int32) (t : State) => ∃ (ww : Nat → Int64) (aa : Nat → Nat → Int32) (bb : Nat → Nat → Int64), va_P (dC, dI) vwCl [(h0, .inr (0, mX0 h1 h2 h3 h4 v0)), (h2, zi k2 120 f2)] t.heap ∧ va_K (dC, dI) vwCl [(k2, .int)] t ∧ va_D (va_A [(h0, .inr (0, mX0 h1 h2 h3 h4 v0)), (h2, zi k2 120 f2)] sz) [(h0, .inr (0, mX0 h1 h2 h3 h4 v0)), (h2, zi k2 120 f2)]) (va_A [(h0, .inr (0, mX0 h1 h2 h3 h4 v0)), (h2, zi k2 120 f2)] sz)) 0 0 (va_A [(h0, .inr (0, mX0 h1 h2 h3 h4 v0)), (h2, zi k2 120 f2)] sz) := by
  refine Met.ofW (cc := cX0_lengthOf) (maxL := 2) (ret := (some .int)) (by decide) rfl ?_
  intro p e s m args below meth c s₁ B hml hv
  obtain ⟨rfl, hsz, hP, hK, hD0, hE, hZ⟩ := hv
  have hx := B.exec
  have hb := B.bytes
  have hr := B.returns
  have hG : ∀ w ∈ zG, w.before _ s = true := fun w h => atoms_spec (ws := (zw yX0_lengthOf cX0_lengthOf 2 (some .int))) B.pre w (List.mem_cons_of_mem _ h)
  have hown : s.vm.findClass RX0 = some m.cls := findClass_of_methodNamed B.named
  have hlocks := B.notSynchronized

  subst hsz
  have hD := hD0.self (sz := s.heap.size)
  generalize hAe : va_A [(h0, .inr (0, mX0 h1 h2 h3 h4 v0)), (h2, zi k2 120 f2)] s.heap.size = A at hD hZ ⊢
  have hA : ∀ q : Nat, s.heap.size ≤ q → A q := fun q h => by rw [← hAe]; exact Or.inr h
  have hS : va_S A s.heap s.heap [] := va_S.rf
  have hl := lv_entry ([.ref h0, .int x1]) (n := 2) (Nat.le_of_ble_eq_true rfl)
  rw [lg_entry_eq]
  generalize (lg_sl ([.ref h0, .int x1]) ++ List.replicate (2 - (lg_sl ([.ref h0, .int x1])).length) Slot.unset).toArray = ls at hl ⊢
  have hl : lv_has ls 2 [(0, .ref h0), (1, .int x1)] := hl
  have b_ := zk_0
  refine lv_aload_n hx hb dX0_lengthOf_0 rfl (lv_at hl 0 rfl) ?_
  refine lv_iload_n hx hb dX0_lengthOf_1 rfl (lv_at hl 1 rfl) ?_
  have hPc := hP.sub (ws' := [(h0, .inr (0, mX0 h1 h2 h3 h4 v0))]) [0] rfl
  have hDc := hD.sub (ws' := [(h0, .inr (0, mX0 h1 h2 h3 h4 v0))]) [0] (by decide) rfl
  have hKc := hK.sub (tys' := []) [] rfl
  have hFc := va_free (wc := [(h0, .inr (0, mX0 h1 h2 h3 h4 v0))]) hD hS hA [0] rfl
  refine va_calli (va_runV (As := [.int x1]) (rest := []) ⟨hx, hb, hml, hown, hG⟩ (sX0_came_0 l dC dI adK adV h0 h1 h2 h3 h4 s.heap.size v0 x1 hv0) (cwV 1 hG (zgV zv875 zv876 zv877 zv132 zv878) rfl rfl rfl (by decide +kernel) ⟨Nat.le_of_ble_eq_true rfl, Nat.le_of_ble_eq_true rfl⟩) ⟨zPc_blind, va_recv hKc hPc (ci := 0) (q0 := 0) rfl rfl, zPc_pre hPc hKc hDc hE hS hFc hZ⟩ rfl rfl hl.1 rfl (lv_room (Nat.le_of_ble_eq_true rfl)) dX0_lengthOf_2 ⟨Nat.le_of_ble_eq_true rfl, Nat.le_of_ble_eq_true rfl⟩) hS (fun q _ h => hFc q h) hFc (fun r2_ u2_ t H1 locs ht hvm hw hB hz1 hk1 hS => ?_)
  replace hw : (0 ≤ r2_.toInt ∧ r2_.toInt ≤ 1) ∧ (r2_.toInt = 1 → (0 ≤ x1.toInt ∧ x1.toInt ≤ 119)) ∧ (r2_.toInt = 1 → x1.toInt < (v0 4).toInt) ∧ (r2_.toInt = 0 → x1.toInt < 0 ∨ (v0 4).toInt ≤ x1.toInt) := hw
  obtain ⟨b_, hX2_0, hX2_1, hX2_2⟩ := hw
  obtain ⟨w2_, a2_, b2_, hP1, hK1, hD1⟩ := hB
  rw [ht] at hP1
  obtain ⟨hP, hD⟩ := va_join (wr := [(h2, zi k2 120 f2)]) (w1 := [(h0, .inr (0, mX0 h1 h2 h3 h4 v0))]) hP hD [0] [1] rfl rfl (by decide) (by decide) hk1 hFc hP1 hD1
  have hP : va_P (dC, dI) vwCl [(h0, .inr (0, mX0 h1 h2 h3 h4 v0)), (h2, zi k2 120 f2)] H1 := hP.sub [1, 0] rfl
  have hD : va_D A [(h0, .inr (0, mX0 h1 h2 h3 h4 v0)), (h2, zi k2 120 f2)] := hD.sub [1, 0] (by decide) rfl
  generalize H1 = H at hP hS ⊢
  clear hz1
  refine lv_if_eq (tgt := 17) hx hb dX0_lengthOf_5 (by decide) (fun c_ => ?_) (fun c_ => ?_)
  · skip
    have b_ := zT_eq rfl zk_0 c_
    refine lv_iconst (v := 0) hx hb dX0_lengthOf_17 (by decide) ?_
    refine W.widen (k := 0) (n := 0) (by decide) (by decide) ?_
    have hpost : (0 ≤ (0 : Int32).toInt ∧ (0 : Int32).toInt ≤ 300) := (by first | with_reducible assumption | exact ⟨by omega, by omega⟩)
    have hP9 : va_P (dC, dI) vwCl [(h0, .inr (0, mX0 h1 h2 h3 h4 v0)), (h2, zi k2 120 f2)] H := hP
    have hD9 : va_D A [(h0, .inr (0, mX0 h1 h2 h3 h4 v0)), (h2, zi k2 120 f2)] := hD
    exact W.iret (v := 0) hx hb hr (fun t ht hW => ⟨⟨0, (fun _ => 0), rfl, hpost, (fun _ => 0), (fun _ => (fun _ => 0)), (fun _ => (fun _ => 0)), by rw [ht]; exact hP9, va_K.moved hW.alike hK, hD9⟩, hS.F ht⟩) hS.2.2 dX0_lengthOf_18
  · skip
    have b_ := zF_eq rfl zk_0 c_
    refine lv_aload_n hx hb dX0_lengthOf_8 rfl (lv_at hl 0 rfl) ?_
    refine va_get (D := (dC, dI)) (ci := 0) (v := .ref h2) (C := RX0) (T := TX0) (N := 6) hx hb hG zuX0 hown hK hP 0 rfl rfl 1 (by decide) (hG _ zv223) (fun _ h9 => h9) rfl dX0_lengthOf_9 ?_
    refine lv_iload_n hx hb dX0_lengthOf_12 rfl (lv_at hl 1 rfl) ?_
    refine va_iald hx hb hK hP 1 0 rfl rfl (zin_lit ⟨by omega, by omega⟩) dX0_lengthOf_13 ?_
    refine lv_topi (fun z13 e_z13 => ?_)
    have b_ : 0 ≤ z13.toInt ∧ z13.toInt ≤ 300 := by rw [e_z13]; exact hf2 _
    refine lv_goto (tgt := 18) hx hb dX0_lengthOf_14 (by decide) ?_
    refine W.widen (k := 0) (n := 0) (by decide) (by decide) ?_
    have hpost : (0 ≤ z13.toInt ∧ z13.toInt ≤ 300) := (by first | with_reducible assumption | exact ⟨by omega, by omega⟩)
    have hP9 : va_P (dC, dI) vwCl [(h0, .inr (0, mX0 h1 h2 h3 h4 v0)), (h2, zi k2 120 f2)] H := hP
    have hD9 : va_D A [(h0, .inr (0, mX0 h1 h2 h3 h4 v0)), (h2, zi k2 120 f2)] := hD
    exact W.iret (v := z13) hx hb hr (fun t ht hW => ⟨⟨z13, (fun _ => 0), rfl, hpost, (fun _ => 0), (fun _ => (fun _ => 0)), (fun _ => (fun _ => 0)), by rw [ht]; exact hP9, va_K.moved hW.alike hK, hD9⟩, hS.F ht⟩) hS.2.2 dX0_lengthOf_18
set_option maxHeartbeats 8000000 in
set_option maxRecDepth 100000 in
theorem sX0_onShelf_0 (l : Launch) (dC : Nat → ClassId) (dI : Nat → Nat → Nat) (adK adV : Nat → Nat) (h0 : Nat) (h1 : Nat) (h2 : Nat) (h3 : Nat) (h4 : Nat) (sz : Nat) (v0 : Nat → Int32) (hv0 : zR rg_Documents v0) : Met l yX0_onShelf (zw yX0_onShelf cX0_onShelf 1 (some .int)) { frames := 0, cells := 0, slots := 0, locals := 0 } (zPc dC dI adK adV [.ref h0] sz [(h0, .inr (0, mX0 h1 h2 h3 h4 v0))] []) (va_Qi (fun (r : Int32) (u : Nat → Int32) => (r.toInt = (v0 5).toInt)) (fun (u : Nat → Int32) (t : State) => ∃ (ww : Nat → Int64) (aa : Nat → Nat → Int32) (bb : Nat → Nat → Int64), va_P (dC, dI) vwCl [(h0, .inr (0, mX0 h1 h2 h3 h4 v0))] t.heap ∧ va_K (dC, dI) vwCl [] t ∧ va_D (va_A [(h0, .inr (0, mX0 h1 h2 h3 h4 v0))] sz) [(h0, .inr (0, mX0 h1 h2 h3 h4 v0))]) (va_A [(h0, .inr (0, mX0 h1 h2 h3 h4 v0))] sz)) 0 0 (va_A [(h0, .inr (0, mX0 h1 h2 h3 h4 v0))] sz) := by
  refine Met.ofW (cc := cX0_onShelf) (maxL := 1) (ret := (some .int)) (by decide) rfl ?_
  intro p e s m args below meth c s₁ B hml hv
  obtain ⟨rfl, hsz, hP, hK, hD0, hE, hZ⟩ := hv
  have hx := B.exec
  have hb := B.bytes
  have hr := B.returns
  have hG : ∀ w ∈ zG, w.before _ s = true := fun w h => atoms_spec (ws := (zw yX0_onShelf cX0_onShelf 1 (some .int))) B.pre w (List.mem_cons_of_mem _ h)
  have hown : s.vm.findClass RX0 = some m.cls := findClass_of_methodNamed B.named
  have hlocks := B.notSynchronized

  subst hsz
  have hD := hD0.self (sz := s.heap.size)
  generalize hAe : va_A [(h0, .inr (0, mX0 h1 h2 h3 h4 v0))] s.heap.size = A at hD hZ ⊢
  have hA : ∀ q : Nat, s.heap.size ≤ q → A q := fun q h => by rw [← hAe]; exact Or.inr h
  have hS : va_S A s.heap s.heap [] := va_S.rf
  have hl := lv_entry ([.ref h0]) (n := 1) (Nat.le_of_ble_eq_true rfl)
  rw [lg_entry_eq]
  generalize (lg_sl ([.ref h0]) ++ List.replicate (1 - (lg_sl ([.ref h0])).length) Slot.unset).toArray = ls at hl ⊢
  have hl : lv_has ls 1 [(0, .ref h0)] := hl
  have b_ : -2147483648 ≤ (v0 5).toInt ∧ (v0 5).toInt ≤ 2147483647 := ⟨zlo _, zhi _⟩
  refine lv_aload_n hx hb dX0_onShelf_0 rfl (lv_at hl 0 rfl) ?_
  refine va_get (D := (dC, dI)) (ci := 0) (v := .int (v0 5)) (C := RX0) (T := TX0) (N := 6) hx hb hG zuX0 hown hK hP 0 rfl rfl 5 (by decide) (hG _ zv227) (fun _ h9 => h9) rfl dX0_onShelf_1 ?_
  refine W.widen (k := 0) (n := 0) (by decide) (by decide) ?_
  have hpost : ((v0 5).toInt = (v0 5).toInt) := by omega
  have hP9 : va_P (dC, dI) vwCl [(h0, .inr (0, mX0 h1 h2 h3 h4 v0))] s.heap := hP
  have hD9 : va_D A [(h0, .inr (0, mX0 h1 h2 h3 h4 v0))] := hD
  exact W.iret (v := (v0 5)) hx hb hr (fun t ht hW => ⟨⟨(v0 5), (fun _ => 0), rfl, hpost, (fun _ => 0), (fun _ => (fun _ => 0)), (fun _ => (fun _ => 0)), by rw [ht]; exact hP9, va_K.moved hW.alike hK, hD9⟩, hS.F ht⟩) hS.2.2 dX0_onShelf_4
set_option maxHeartbeats 8000000 in
set_option maxRecDepth 100000 in
theorem sJ6_numberOfLeadingZeros_0f7a4_0 (l : Launch) (dC : Nat → ClassId) (dI : Nat → Nat → Nat) (adK adV : Nat → Nat) (sz : Nat) (x0 : Int32) : Met l yJ6_numberOfLeadingZeros_0f7a4 (zw yJ6_numberOfLeadingZeros_0f7a4 cJ6_numberOfLeadingZeros_0f7a4 2 (some .int)) { frames := 0, cells := 0, slots := 0, locals := 0 } (zPc dC dI adK adV [.int x0] sz [] []) (va_Qi (fun (r : Int32) (u : Nat → Int32) => (0 ≤ r.toInt ∧ r.toInt ≤ 32) ∧ (0 < x0.toInt → r.toInt = 32 - (zbd (x0.toInt).toNat : Int))) (fun (u : Nat → Int32) (t : State) => ∃ (ww : Nat → Int64) (aa : Nat → Nat → Int32) (bb : Nat → Nat → Int64), va_P (dC, dI) vwCl [] t.heap ∧ va_K (dC, dI) vwCl [] t ∧ va_D (va_A [] sz) []) (va_A [] sz)) 0 0 (va_A [] sz) := by
  refine Met.ofW (cc := cJ6_numberOfLeadingZeros_0f7a4) (maxL := 2) (ret := (some .int)) (by decide) rfl ?_
  intro p e s m args below meth c s₁ B hml hv
  obtain ⟨rfl, hsz, hP, hK, hD0, hE, hZ⟩ := hv
  have hx := B.exec
  have hb := B.bytes
  have hr := B.returns
  have hG : ∀ w ∈ zG, w.before _ s = true := fun w h => atoms_spec (ws := (zw yJ6_numberOfLeadingZeros_0f7a4 cJ6_numberOfLeadingZeros_0f7a4 2 (some .int))) B.pre w (List.mem_cons_of_mem _ h)
  have hown : s.vm.findClass RJ6 = some m.cls := findClass_of_methodNamed B.named
  have hlocks := B.notSynchronized

  subst hsz
  have hD := hD0.self (sz := s.heap.size)
  generalize hAe : va_A [] s.heap.size = A at hD hZ ⊢
  have hA : ∀ q : Nat, s.heap.size ≤ q → A q := fun q h => by rw [← hAe]; exact Or.inr h
  have hS : va_S A s.heap s.heap [] := va_S.rf
  have hl := lv_entry ([.int x0]) (n := 2) (Nat.le_of_ble_eq_true rfl)
  rw [lg_entry_eq]
  generalize (lg_sl ([.int x0]) ++ List.replicate (2 - (lg_sl ([.int x0])).length) Slot.unset).toArray = ls at hl ⊢
  have hl : lv_has ls 2 [(0, .int x0)] := hl
  have b_ := zk_0
  have b_ := zk_15
  have b_ := zk_31
  have b_ := zk_32
  refine lv_iload_n hx hb dJ6_numberOfLeadingZeros_0f7a4_0 rfl (lv_at hl 0 rfl) ?_
  have b_ : -2147483648 ≤ x0.toInt ∧ x0.toInt ≤ 2147483647 := ⟨zlo _, zhi _⟩
  refine lv_if_gt (tgt := 15) hx hb dJ6_numberOfLeadingZeros_0f7a4_1 (by decide) (fun c_ => ?_) (fun c_ => ?_)
  · skip
    have b_ := zT_gt rfl zk_0 c_
    refine lv_bipush (v := 31) hx hb dJ6_numberOfLeadingZeros_0f7a4_15 (by decide) ?_
    refine lv_istore_n (lv' := [(1, .int 31), (0, .int x0)]) hx hb dJ6_numberOfLeadingZeros_0f7a4_17 rfl hl (by decide) rfl (fun ls hl => ?_)
    refine lv_iload_n hx hb dJ6_numberOfLeadingZeros_0f7a4_18 rfl (lv_at hl 1 rfl) ?_
    refine lv_ldcw hx hb hown (hG _ zv795) dJ6_numberOfLeadingZeros_0f7a4_19 ?_
    refine zcutW (fun H locs ls u33_ w33_ a33_ b33_ => va_P (dC, dI) vwCl [] H ∧ va_D A [] ∧ va_S A s.heap H locs ∧ lv_has ls 2 [(0, .int (u33_ 0)), (1, .int (u33_ 1))] ∧ (1 ≤ (u33_ 0).toInt ∧ (u33_ 0).toInt ≤ 65535) ∧ (15 ≤ (u33_ 1).toInt ∧ (u33_ 1).toInt ≤ 31) ∧ (zLz x0.toInt (u33_ 0).toInt (u33_ 1).toInt)) (fun ls u33_ w33_ => F0 m 33 ls []) 0 0 ?_ (fun hJ33 => ?_)
    · skip
      intro H locs ls u33_ w33_ a33_ b33_ hc
      obtain ⟨hP, hD, hS, hl, b_, b_, hI33_0⟩ := hc
      refine lv_iload_n hx hb dJ6_numberOfLeadingZeros_0f7a4_33 rfl (lv_at hl 0 rfl) ?_
      refine lv_sipush (v := 256) hx hb dJ6_numberOfLeadingZeros_0f7a4_34 (by decide) ?_
      refine zcutW (fun H locs ls u48_ w48_ a48_ b48_ => va_P (dC, dI) vwCl [] H ∧ va_D A [] ∧ va_S A s.heap H locs ∧ lv_has ls 2 [(0, .int (u48_ 0)), (1, .int (u48_ 1))] ∧ (1 ≤ (u48_ 0).toInt ∧ (u48_ 0).toInt ≤ 255) ∧ (7 ≤ (u48_ 1).toInt ∧ (u48_ 1).toInt ≤ 31) ∧ (1 ≤ (u33_ 0).toInt ∧ (u33_ 0).toInt ≤ 65535) ∧ (zLz x0.toInt (u48_ 0).toInt (u48_ 1).toInt)) (fun ls u48_ w48_ => F0 m 48 ls []) 0 0 ?_ (fun hJ48 => ?_)
      · skip
        intro H locs ls u48_ w48_ a48_ b48_ hc
        obtain ⟨hP, hD, hS, hl, b_, b_, b_, hI48_0⟩ := hc
        refine lv_iload_n hx hb dJ6_numberOfLeadingZeros_0f7a4_48 rfl (lv_at hl 0 rfl) ?_
        refine lv_bipush (v := 16) hx hb dJ6_numberOfLeadingZeros_0f7a4_49 (by decide) ?_
        refine zcutW (fun H locs ls u61_ w61_ a61_ b61_ => va_P (dC, dI) vwCl [] H ∧ va_D A [] ∧ va_S A s.heap H locs ∧ lv_has ls 2 [(0, .int (u61_ 0)), (1, .int (u61_ 1))] ∧ (1 ≤ (u61_ 0).toInt ∧ (u61_ 0).toInt ≤ 15) ∧ (3 ≤ (u61_ 1).toInt ∧ (u61_ 1).toInt ≤ 31) ∧ (1 ≤ (u48_ 0).toInt ∧ (u48_ 0).toInt ≤ 255) ∧ (zLz x0.toInt (u61_ 0).toInt (u61_ 1).toInt)) (fun ls u61_ w61_ => F0 m 61 ls []) 0 0 ?_ (fun hJ61 => ?_)
        · skip
          intro H locs ls u61_ w61_ a61_ b61_ hc
          obtain ⟨hP, hD, hS, hl, b_, b_, b_, hI61_0⟩ := hc
          refine lv_iload_n hx hb dJ6_numberOfLeadingZeros_0f7a4_61 rfl (lv_at hl 0 rfl) ?_
          refine lv_iconst (v := 4) hx hb dJ6_numberOfLeadingZeros_0f7a4_62 (by decide) ?_
          refine zcutW (fun H locs ls u73_ w73_ a73_ b73_ => va_P (dC, dI) vwCl [] H ∧ va_D A [] ∧ va_S A s.heap H locs ∧ lv_has ls 2 [(0, .int (u73_ 0)), (1, .int (u73_ 1))] ∧ (1 ≤ (u73_ 0).toInt ∧ (u73_ 0).toInt ≤ 3) ∧ (1 ≤ (u73_ 1).toInt ∧ (u73_ 1).toInt ≤ 31) ∧ (1 ≤ (u61_ 0).toInt ∧ (u61_ 0).toInt ≤ 15) ∧ (zLz x0.toInt (u73_ 0).toInt (u73_ 1).toInt)) (fun ls u73_ w73_ => F0 m 73 ls []) 0 0 ?_ (fun hJ73 => ?_)
          · skip
            intro H locs ls u73_ w73_ a73_ b73_ hc
            obtain ⟨hP, hD, hS, hl, b_, b_, b_, hI73_0⟩ := hc
            refine lv_iload_n hx hb dJ6_numberOfLeadingZeros_0f7a4_73 rfl (lv_at hl 1 rfl) ?_
            refine lv_iload_n hx hb dJ6_numberOfLeadingZeros_0f7a4_74 rfl (lv_at hl 0 rfl) ?_
            refine lv_iconst (v := 1) hx hb dJ6_numberOfLeadingZeros_0f7a4_75 (by decide) ?_
            refine lv_iushr hx hb dJ6_numberOfLeadingZeros_0f7a4_76 rfl ?_
            refine lv_topi (fun z76 e_z76 => ?_)
            have b_ := zushr1 rfl e_z76 (by omega)
            refine lv_isub hx hb dJ6_numberOfLeadingZeros_0f7a4_77 ?_
            refine lv_topi (fun z77 e_z77 => ?_)
            have b_ := zsub rfl rfl e_z77 (by omega) (by omega)
            refine W.widen (k := 0) (n := 0) (by decide) (by decide) ?_
            have hpost : (0 ≤ z77.toInt ∧ z77.toInt ≤ 32) ∧ (0 < x0.toInt → z77.toInt = 32 - (zbd (x0.toInt).toNat : Int)) := ⟨(by first | with_reducible assumption | exact ⟨by omega, by omega⟩), by first | (intro q; omega) | exact zLz_e hI73_0 (by omega) (by omega)⟩
            have hP9 : va_P (dC, dI) vwCl [] H := hP
            have hD9 : va_D A [] := hD
            exact W.iret (v := z77) hx hb hr (fun t ht hW => ⟨⟨z77, (fun _ => 0), rfl, hpost, (fun _ => 0), (fun _ => (fun _ => 0)), (fun _ => (fun _ => 0)), by rw [ht]; exact hP9, va_K.moved hW.alike hK, hD9⟩, hS.F ht⟩) hS.2.2 dJ6_numberOfLeadingZeros_0f7a4_78
          · skip
            refine lv_icmp_lt (tgt := 73) hx hb dJ6_numberOfLeadingZeros_0f7a4_63 (by decide) (fun c_ => ?_) (fun c_ => ?_)
            · skip
              have b_ := zT_lt rfl zk_4 c_
              have hc : va_P (dC, dI) vwCl [] H ∧ va_D A [] ∧ va_S A s.heap H locs ∧ lv_has ls 2 [(0, .int (u61_ 0)), (1, .int (u61_ 1))] ∧ (1 ≤ (u61_ 0).toInt ∧ (u61_ 0).toInt ≤ 3) ∧ (1 ≤ (u61_ 1).toInt ∧ (u61_ 1).toInt ≤ 31) ∧ (1 ≤ (u61_ 0).toInt ∧ (u61_ 0).toInt ≤ 15) ∧ (zLz x0.toInt (u61_ 0).toInt (u61_ 1).toInt) := ⟨hP, hD, hS, lv_sub hl [0, 1] rfl, (by first | with_reducible assumption | exact ⟨by omega, by omega⟩), (by first | with_reducible assumption | exact ⟨by omega, by omega⟩), (by first | with_reducible assumption | exact ⟨by omega, by omega⟩), by first | exact hI61_0 | exact zLz_s 2 hI61_0 (by omega) (by omega) (by omega)⟩
              exact hJ73 H locs ls (fun i => ([(u61_ 0), (u61_ 1)] : List (Int32)).getD i 0) (fun _ => 0) (fun _ => (fun _ => 0)) (fun _ => (fun _ => 0)) hc
            · skip
              have b_ := zF_lt rfl zk_4 c_
              obtain ⟨z66, e_z66⟩ : ∃ z : Int32, z = (u61_ 1) + Int32.ofInt (-2) := ⟨_, rfl⟩
              have b_ := zadd (x := (u61_ 1)) (y := Int32.ofInt (-2)) rfl (show (Int32.ofInt (-2)).toInt = (-2) from by decide) e_z66 (by omega) (by omega)
              refine lv_iinc (v := z66) (lv' := [(1, .int z66), (0, .int (u61_ 0))]) hx hb dJ6_numberOfLeadingZeros_0f7a4_66 hl (k := 1) rfl e_z66.symm (by decide) rfl (fun ls hl => ?_)
              refine lv_iload_n hx hb dJ6_numberOfLeadingZeros_0f7a4_69 rfl (lv_at hl 1 rfl) ?_
              refine lv_iconst (v := 2) hx hb dJ6_numberOfLeadingZeros_0f7a4_70 (by decide) ?_
              refine lv_iushr hx hb dJ6_numberOfLeadingZeros_0f7a4_71 rfl ?_
              refine lv_topi (fun z71 e_z71 => ?_)
              have b_ := zushr2 rfl e_z71 (by omega)
              refine lv_istore_n (lv' := [(0, .int z71), (1, .int z66)]) hx hb dJ6_numberOfLeadingZeros_0f7a4_72 rfl hl (by decide) rfl (fun ls hl => ?_)
              have hc : va_P (dC, dI) vwCl [] H ∧ va_D A [] ∧ va_S A s.heap H locs ∧ lv_has ls 2 [(0, .int z71), (1, .int z66)] ∧ (1 ≤ z71.toInt ∧ z71.toInt ≤ 3) ∧ (1 ≤ z66.toInt ∧ z66.toInt ≤ 31) ∧ (1 ≤ (u61_ 0).toInt ∧ (u61_ 0).toInt ≤ 15) ∧ (zLz x0.toInt z71.toInt z66.toInt) := ⟨hP, hD, hS, lv_sub hl [0, 1] rfl, (by first | with_reducible assumption | exact ⟨by omega, by omega⟩), (by first | with_reducible assumption | exact ⟨by omega, by omega⟩), (by first | with_reducible assumption | exact ⟨by omega, by omega⟩), by first | exact hI61_0 | exact zLz_s 2 hI61_0 (by omega) (by omega) (by omega)⟩
              exact hJ73 H locs ls (fun i => ([z71, z66] : List (Int32)).getD i 0) (fun _ => 0) (fun _ => (fun _ => 0)) (fun _ => (fun _ => 0)) hc
        · skip
          refine lv_icmp_lt (tgt := 61) hx hb dJ6_numberOfLeadingZeros_0f7a4_51 (by decide) (fun c_ => ?_) (fun c_ => ?_)
          · skip
            have b_ := zT_lt rfl zk_16 c_
            have hc : va_P (dC, dI) vwCl [] H ∧ va_D A [] ∧ va_S A s.heap H locs ∧ lv_has ls 2 [(0, .int (u48_ 0)), (1, .int (u48_ 1))] ∧ (1 ≤ (u48_ 0).toInt ∧ (u48_ 0).toInt ≤ 15) ∧ (3 ≤ (u48_ 1).toInt ∧ (u48_ 1).toInt ≤ 31) ∧ (1 ≤ (u48_ 0).toInt ∧ (u48_ 0).toInt ≤ 255) ∧ (zLz x0.toInt (u48_ 0).toInt (u48_ 1).toInt) := ⟨hP, hD, hS, lv_sub hl [0, 1] rfl, (by first | with_reducible assumption | exact ⟨by omega, by omega⟩), (by first | with_reducible assumption | exact ⟨by omega, by omega⟩), (by first | with_reducible assumption | exact ⟨by omega, by omega⟩), by first | exact hI48_0 | exact zLz_s 4 hI48_0 (by omega) (by omega) (by omega)⟩
            exact hJ61 H locs ls (fun i => ([(u48_ 0), (u48_ 1)] : List (Int32)).getD i 0) (fun _ => 0) (fun _ => (fun _ => 0)) (fun _ => (fun _ => 0)) hc
          · skip
            have b_ := zF_lt rfl zk_16 c_
            obtain ⟨z54, e_z54⟩ : ∃ z : Int32, z = (u48_ 1) + Int32.ofInt (-4) := ⟨_, rfl⟩
            have b_ := zadd (x := (u48_ 1)) (y := Int32.ofInt (-4)) rfl (show (Int32.ofInt (-4)).toInt = (-4) from by decide) e_z54 (by omega) (by omega)
            refine lv_iinc (v := z54) (lv' := [(1, .int z54), (0, .int (u48_ 0))]) hx hb dJ6_numberOfLeadingZeros_0f7a4_54 hl (k := 1) rfl e_z54.symm (by decide) rfl (fun ls hl => ?_)
            refine lv_iload_n hx hb dJ6_numberOfLeadingZeros_0f7a4_57 rfl (lv_at hl 1 rfl) ?_
            refine lv_iconst (v := 4) hx hb dJ6_numberOfLeadingZeros_0f7a4_58 (by decide) ?_
            refine lv_iushr hx hb dJ6_numberOfLeadingZeros_0f7a4_59 rfl ?_
            refine lv_topi (fun z59 e_z59 => ?_)
            have b_ := zushr4 rfl e_z59 (by omega)
            refine lv_istore_n (lv' := [(0, .int z59), (1, .int z54)]) hx hb dJ6_numberOfLeadingZeros_0f7a4_60 rfl hl (by decide) rfl (fun ls hl => ?_)
            have hc : va_P (dC, dI) vwCl [] H ∧ va_D A [] ∧ va_S A s.heap H locs ∧ lv_has ls 2 [(0, .int z59), (1, .int z54)] ∧ (1 ≤ z59.toInt ∧ z59.toInt ≤ 15) ∧ (3 ≤ z54.toInt ∧ z54.toInt ≤ 31) ∧ (1 ≤ (u48_ 0).toInt ∧ (u48_ 0).toInt ≤ 255) ∧ (zLz x0.toInt z59.toInt z54.toInt) := ⟨hP, hD, hS, lv_sub hl [0, 1] rfl, (by first | with_reducible assumption | exact ⟨by omega, by omega⟩), (by first | with_reducible assumption | exact ⟨by omega, by omega⟩), (by first | with_reducible assumption | exact ⟨by omega, by omega⟩), by first | exact hI48_0 | exact zLz_s 4 hI48_0 (by omega) (by omega) (by omega)⟩
            exact hJ61 H locs ls (fun i => ([z59, z54] : List (Int32)).getD i 0) (fun _ => 0) (fun _ => (fun _ => 0)) (fun _ => (fun _ => 0)) hc
      · skip
        refine lv_icmp_lt (tgt := 48) hx hb dJ6_numberOfLeadingZeros_0f7a4_37 (by decide) (fun c_ => ?_) (fun c_ => ?_)
        · skip
          have b_ := zT_lt rfl zk_256 c_
          have hc : va_P (dC, dI) vwCl [] H ∧ va_D A [] ∧ va_S A s.heap H locs ∧ lv_has ls 2 [(0, .int (u33_ 0)), (1, .int (u33_ 1))] ∧ (1 ≤ (u33_ 0).toInt ∧ (u33_ 0).toInt ≤ 255) ∧ (7 ≤ (u33_ 1).toInt ∧ (u33_ 1).toInt ≤ 31) ∧ (1 ≤ (u33_ 0).toInt ∧ (u33_ 0).toInt ≤ 65535) ∧ (zLz x0.toInt (u33_ 0).toInt (u33_ 1).toInt) := ⟨hP, hD, hS, lv_sub hl [0, 1] rfl, (by first | with_reducible assumption | exact ⟨by omega, by omega⟩), (by first | with_reducible assumption | exact ⟨by omega, by omega⟩), (by first | with_reducible assumption | exact ⟨by omega, by omega⟩), by first | exact hI33_0 | exact zLz_s 8 hI33_0 (by omega) (by omega) (by omega)⟩
          exact hJ48 H locs ls (fun i => ([(u33_ 0), (u33_ 1)] : List (Int32)).getD i 0) (fun _ => 0) (fun _ => (fun _ => 0)) (fun _ => (fun _ => 0)) hc
        · skip
          have b_ := zF_lt rfl zk_256 c_
          obtain ⟨z40, e_z40⟩ : ∃ z : Int32, z = (u33_ 1) + Int32.ofInt (-8) := ⟨_, rfl⟩
          have b_ := zadd (x := (u33_ 1)) (y := Int32.ofInt (-8)) rfl (show (Int32.ofInt (-8)).toInt = (-8) from by decide) e_z40 (by omega) (by omega)
          refine lv_iinc (v := z40) (lv' := [(1, .int z40), (0, .int (u33_ 0))]) hx hb dJ6_numberOfLeadingZeros_0f7a4_40 hl (k := 1) rfl e_z40.symm (by decide) rfl (fun ls hl => ?_)
          refine lv_iload_n hx hb dJ6_numberOfLeadingZeros_0f7a4_43 rfl (lv_at hl 1 rfl) ?_
          refine lv_bipush (v := 8) hx hb dJ6_numberOfLeadingZeros_0f7a4_44 (by decide) ?_
          refine lv_iushr hx hb dJ6_numberOfLeadingZeros_0f7a4_46 rfl ?_
          refine lv_topi (fun z46 e_z46 => ?_)
          have b_ := zushr8 rfl e_z46 (by omega)
          refine lv_istore_n (lv' := [(0, .int z46), (1, .int z40)]) hx hb dJ6_numberOfLeadingZeros_0f7a4_47 rfl hl (by decide) rfl (fun ls hl => ?_)
          have hc : va_P (dC, dI) vwCl [] H ∧ va_D A [] ∧ va_S A s.heap H locs ∧ lv_has ls 2 [(0, .int z46), (1, .int z40)] ∧ (1 ≤ z46.toInt ∧ z46.toInt ≤ 255) ∧ (7 ≤ z40.toInt ∧ z40.toInt ≤ 31) ∧ (1 ≤ (u33_ 0).toInt ∧ (u33_ 0).toInt ≤ 65535) ∧ (zLz x0.toInt z46.toInt z40.toInt) := ⟨hP, hD, hS, lv_sub hl [0, 1] rfl, (by first | with_reducible assumption | exact ⟨by omega, by omega⟩), (by first | with_reducible assumption | exact ⟨by omega, by omega⟩), (by first | with_reducible assumption | exact ⟨by omega, by omega⟩), by first | exact hI33_0 | exact zLz_s 8 hI33_0 (by omega) (by omega) (by omega)⟩
          exact hJ48 H locs ls (fun i => ([z46, z40] : List (Int32)).getD i 0) (fun _ => 0) (fun _ => (fun _ => 0)) (fun _ => (fun _ => 0)) hc
    · skip
      refine lv_icmp_lt (tgt := 33) hx hb dJ6_numberOfLeadingZeros_0f7a4_22 (by decide) (fun c_ => ?_) (fun c_ => ?_)
      · skip
        have b_ := zT_lt rfl zk_65536 c_
        have hc : va_P (dC, dI) vwCl [] s.heap ∧ va_D A [] ∧ va_S A s.heap s.heap [] ∧ lv_has ls 2 [(0, .int x0), (1, .int 31)] ∧ (1 ≤ x0.toInt ∧ x0.toInt ≤ 65535) ∧ (15 ≤ (31 : Int32).toInt ∧ (31 : Int32).toInt ≤ 31) ∧ (zLz x0.toInt x0.toInt (31 : Int32).toInt) := ⟨hP, hD, hS, lv_sub hl [1, 0] rfl, (by first | with_reducible assumption | exact ⟨by omega, by omega⟩), (by first | with_reducible assumption | exact ⟨by omega, by omega⟩), by first | exact zLz_0 rfl (by omega) | exact zLz_s 16 (zLz_0 (b := 31) rfl rfl) (by omega) (by omega) (by omega)⟩
        exact hJ33 s.heap [] ls (fun i => ([x0, 31] : List (Int32)).getD i 0) (fun _ => 0) (fun _ => (fun _ => 0)) (fun _ => (fun _ => 0)) hc
      · skip
        have b_ := zF_lt rfl zk_65536 c_
        refine lv_iinc (v := 15) (lv' := [(1, .int 15), (0, .int x0)]) hx hb dJ6_numberOfLeadingZeros_0f7a4_25 hl (k := 0) rfl (by decide) (by decide) rfl (fun ls hl => ?_)
        refine lv_iload_n hx hb dJ6_numberOfLeadingZeros_0f7a4_28 rfl (lv_at hl 1 rfl) ?_
        refine lv_bipush (v := 16) hx hb dJ6_numberOfLeadingZeros_0f7a4_29 (by decide) ?_
        refine lv_iushr hx hb dJ6_numberOfLeadingZeros_0f7a4_31 rfl ?_
        refine lv_topi (fun z31 e_z31 => ?_)
        have b_ := zushr16 rfl e_z31 (by omega)
        refine lv_istore_n (lv' := [(0, .int z31), (1, .int 15)]) hx hb dJ6_numberOfLeadingZeros_0f7a4_32 rfl hl (by decide) rfl (fun ls hl => ?_)
        have hc : va_P (dC, dI) vwCl [] s.heap ∧ va_D A [] ∧ va_S A s.heap s.heap [] ∧ lv_has ls 2 [(0, .int z31), (1, .int 15)] ∧ (1 ≤ z31.toInt ∧ z31.toInt ≤ 65535) ∧ (15 ≤ (15 : Int32).toInt ∧ (15 : Int32).toInt ≤ 31) ∧ (zLz x0.toInt z31.toInt (15 : Int32).toInt) := ⟨hP, hD, hS, lv_sub hl [0, 1] rfl, (by first | with_reducible assumption | exact ⟨by omega, by omega⟩), (by first | with_reducible assumption | exact ⟨by omega, by omega⟩), by first | exact zLz_0 rfl (by omega) | exact zLz_s 16 (zLz_0 (b := 31) rfl rfl) (by omega) (by omega) (by omega)⟩
        exact hJ33 s.heap [] ls (fun i => ([z31, 15] : List (Int32)).getD i 0) (fun _ => 0) (fun _ => (fun _ => 0)) (fun _ => (fun _ => 0)) hc
  · skip
    have b_ := zF_gt rfl zk_0 c_
    refine lv_iload_n hx hb dJ6_numberOfLeadingZeros_0f7a4_4 rfl (lv_at hl 0 rfl) ?_
    refine lv_if_ne (tgt := 13) hx hb dJ6_numberOfLeadingZeros_0f7a4_5 (by decide) (fun c_ => ?_) (fun c_ => ?_)
    · skip
      have b_ := zT_ne rfl zk_0 c_
      refine lv_iconst (v := 0) hx hb dJ6_numberOfLeadingZeros_0f7a4_13 (by decide) ?_
      refine W.widen (k := 0) (n := 0) (by decide) (by decide) ?_
      have hpost : (0 ≤ (0 : Int32).toInt ∧ (0 : Int32).toInt ≤ 32) ∧ (0 < x0.toInt → (0 : Int32).toInt = 32 - (zbd (x0.toInt).toNat : Int)) := ⟨(by first | with_reducible assumption | exact ⟨by omega, by omega⟩), by first | (intro q; omega) | exact zLz_e hI73_0 (by omega) (by omega)⟩
      have hP9 : va_P (dC, dI) vwCl [] s.heap := hP
      have hD9 : va_D A [] := hD
      exact W.iret (v := 0) hx hb hr (fun t ht hW => ⟨⟨0, (fun _ => 0), rfl, hpost, (fun _ => 0), (fun _ => (fun _ => 0)), (fun _ => (fun _ => 0)), by rw [ht]; exact hP9, va_K.moved hW.alike hK, hD9⟩, hS.F ht⟩) hS.2.2 dJ6_numberOfLeadingZeros_0f7a4_14
    · skip
      have b_ := zF_ne rfl zk_0 c_
      refine lv_bipush (v := 32) hx hb dJ6_numberOfLeadingZeros_0f7a4_8 (by decide) ?_
      refine lv_goto (tgt := 14) hx hb dJ6_numberOfLeadingZeros_0f7a4_10 (by decide) ?_
      refine W.widen (k := 0) (n := 0) (by decide) (by decide) ?_
      have hpost : (0 ≤ (32 : Int32).toInt ∧ (32 : Int32).toInt ≤ 32) ∧ (0 < x0.toInt → (32 : Int32).toInt = 32 - (zbd (x0.toInt).toNat : Int)) := ⟨(by first | with_reducible assumption | exact ⟨by omega, by omega⟩), by first | (intro q; omega) | exact zLz_e hI73_0 (by omega) (by omega)⟩
      have hP9 : va_P (dC, dI) vwCl [] s.heap := hP
      have hD9 : va_D A [] := hD
      exact W.iret (v := 32) hx hb hr (fun t ht hW => ⟨⟨32, (fun _ => 0), rfl, hpost, (fun _ => 0), (fun _ => (fun _ => 0)), (fun _ => (fun _ => 0)), by rw [ht]; exact hP9, va_K.moved hW.alike hK, hD9⟩, hS.F ht⟩) hS.2.2 dJ6_numberOfLeadingZeros_0f7a4_14
set_option maxHeartbeats 8000000 in
set_option maxRecDepth 100000 in
theorem sX11_binaryDigits_0 (l : Launch) (dC : Nat → ClassId) (dI : Nat → Nat → Nat) (adK adV : Nat → Nat) (sz : Nat) (x0 : Int32) : Met l yX11_binaryDigits (zw yX11_binaryDigits cX11_binaryDigits 1 (some .int)) { frames := 1, cells := 0, slots := 0, locals := 21 } (zPc dC dI adK adV [.int x0] sz [] []) (va_Qi (fun (r : Int32) (u : Nat → Int32) => (0 ≤ r.toInt ∧ r.toInt ≤ 32) ∧ (0 < x0.toInt → r.toInt = (zbd (x0.toInt).toNat : Int))) (fun (u : Nat → Int32) (t : State) => ∃ (ww : Nat → Int64) (aa : Nat → Nat → Int32) (bb : Nat → Nat → Int64), va_P (dC, dI) vwCl [] t.heap ∧ va_K (dC, dI) vwCl [] t ∧ va_D (va_A [] sz) []) (va_A [] sz)) 0 0 (va_A [] sz) := by
  refine Met.ofW (cc := cX11_binaryDigits) (maxL := 1) (ret := (some .int)) (by decide) rfl ?_
  intro p e s m args below meth c s₁ B hml hv
  obtain ⟨rfl, hsz, hP, hK, hD0, hE, hZ⟩ := hv
  have hx := B.exec
  have hb := B.bytes
  have hr := B.returns
  have hG : ∀ w ∈ zG, w.before _ s = true := fun w h => atoms_spec (ws := (zw yX11_binaryDigits cX11_binaryDigits 1 (some .int))) B.pre w (List.mem_cons_of_mem _ h)
  have hown : s.vm.findClass RX11 = some m.cls := findClass_of_methodNamed B.named
  have hlocks := B.notSynchronized

  subst hsz
  have hD := hD0.self (sz := s.heap.size)
  generalize hAe : va_A [] s.heap.size = A at hD hZ ⊢
  have hA : ∀ q : Nat, s.heap.size ≤ q → A q := fun q h => by rw [← hAe]; exact Or.inr h
  have hS : va_S A s.heap s.heap [] := va_S.rf
  have hl := lv_entry ([.int x0]) (n := 1) (Nat.le_of_ble_eq_true rfl)
  rw [lg_entry_eq]
  generalize (lg_sl ([.int x0]) ++ List.replicate (1 - (lg_sl ([.int x0])).length) Slot.unset).toArray = ls at hl ⊢
  have hl : lv_has ls 1 [(0, .int x0)] := hl
  have b_ := zbd_i x0
  refine lv_bipush (v := 32) hx hb dX11_binaryDigits_0 (by decide) ?_
  refine lv_iload_n hx hb dX11_binaryDigits_2 rfl (lv_at hl 0 rfl) ?_
  have hPc := hP.sub (ws' := []) [] rfl
  have hDc := hD.sub (ws' := []) [] (by decide) rfl
  have hKc := hK.sub (tys' := []) [] rfl
  have hFc := va_free (wc := []) hD hS hA [] rfl
  refine va_calli (va_runS (As := [.int x0]) (rest := [.int 32]) ⟨hx, hb, hml, hown, hG⟩ (sJ6_numberOfLeadingZeros_0f7a4_0 l dC dI adK adV s.heap.size x0) (va_cwS 1 hG (zgS zv792 zv793 zv151 zv794) rfl rfl rfl (by decide +kernel) ⟨Nat.le_of_ble_eq_true rfl, Nat.le_of_ble_eq_true rfl⟩) ⟨zPc_blind, zPc_pre hPc hKc hDc hE hS hFc hZ⟩ rfl rfl hl.1 rfl (lv_room (Nat.le_of_ble_eq_true rfl)) dX11_binaryDigits_3 ⟨Nat.le_of_ble_eq_true rfl, Nat.le_of_ble_eq_true rfl⟩) hS (fun q _ h => hFc q h) hFc (fun r3_ u3_ t H1 locs ht hvm hw hB hz1 hk1 hS => ?_)
  replace hw : (0 ≤ r3_.toInt ∧ r3_.toInt ≤ 32) ∧ (0 < x0.toInt → r3_.toInt = 32 - (zbd (x0.toInt).toNat : Int)) := hw
  obtain ⟨b_, hX3_0⟩ := hw
  obtain ⟨w3_, a3_, b3_, hP1, hK1, hD1⟩ := hB
  rw [ht] at hP1
  obtain ⟨hP, hD⟩ := va_join (wr := []) (w1 := []) hP hD [] [] rfl rfl (by decide) (by decide) hk1 hFc hP1 hD1
  have hP : va_P (dC, dI) vwCl [] H1 := hP.sub [] rfl
  have hD : va_D A [] := hD.sub [] (by decide) rfl
  generalize H1 = H at hP hS ⊢
  clear hz1
  refine lv_isub hx hb dX11_binaryDigits_6 ?_
  refine lv_topi (fun z6 e_z6 => ?_)
  have b_ := zsub zk_32 rfl e_z6 (by omega) (by omega)
  refine W.widen (k := 0) (n := 0) (by decide) (by decide) ?_
  have hpost : (0 ≤ z6.toInt ∧ z6.toInt ≤ 32) ∧ (0 < x0.toInt → z6.toInt = (zbd (x0.toInt).toNat : Int)) := ⟨(by first | with_reducible assumption | exact ⟨by omega, by omega⟩), by omega⟩
  have hP9 : va_P (dC, dI) vwCl [] H := hP
  have hD9 : va_D A [] := hD
  exact W.iret (v := z6) hx hb hr (fun t ht hW => ⟨⟨z6, (fun _ => 0), rfl, hpost, (fun _ => 0), (fun _ => (fun _ => 0)), (fun _ => (fun _ => 0)), by rw [ht]; exact hP9, va_K.moved hW.alike hK, hD9⟩, hS.F ht⟩) hS.2.2 dX11_binaryDigits_7
set_option maxHeartbeats 8000000 in
set_option maxRecDepth 100000 in
theorem sX11_rarity_0 (l : Launch) (dC : Nat → ClassId) (dI : Nat → Nat → Nat) (adK adV : Nat → Nat) (sz : Nat) (x0 : Int32) (x1 : Int32) : Met l yX11_rarity (zw yX11_rarity cX11_rarity 2 (some .int)) { frames := 2, cells := 0, slots := 0, locals := 41 } (zPc dC dI adK adV [.int x0, .int x1] sz [] []) (va_Qi (fun (r : Int32) (u : Nat → Int32) => (0 ≤ r.toInt ∧ r.toInt ≤ 32) ∧ (zW (0 ≤ x0.toInt → x0.toInt ≤ 120 → x1.toInt ≤ x0.toInt → r.toInt = zrr x0.toInt x1.toInt))) (fun (u : Nat → Int32) (t : State) => ∃ (ww : Nat → Int64) (aa : Nat → Nat → Int32) (bb : Nat → Nat → Int64), va_P (dC, dI) vwCl [] t.heap ∧ va_K (dC, dI) vwCl [] t ∧ va_D (va_A [] sz) []) (va_A [] sz)) 0 0 (va_A [] sz) := by
  refine Met.ofW (cc := cX11_rarity) (maxL := 2) (ret := (some .int)) (by decide) rfl ?_
  intro p e s m args below meth c s₁ B hml hv
  obtain ⟨rfl, hsz, hP, hK, hD0, hE, hZ⟩ := hv
  have hx := B.exec
  have hb := B.bytes
  have hr := B.returns
  have hG : ∀ w ∈ zG, w.before _ s = true := fun w h => atoms_spec (ws := (zw yX11_rarity cX11_rarity 2 (some .int))) B.pre w (List.mem_cons_of_mem _ h)
  have hown : s.vm.findClass RX11 = some m.cls := findClass_of_methodNamed B.named
  have hlocks := B.notSynchronized

  subst hsz
  have hD := hD0.self (sz := s.heap.size)
  generalize hAe : va_A [] s.heap.size = A at hD hZ ⊢
  have hA : ∀ q : Nat, s.heap.size ≤ q → A q := fun q h => by rw [← hAe]; exact Or.inr h
  have hS : va_S A s.heap s.heap [] := va_S.rf
  have hl := lv_entry ([.int x0, .int x1]) (n := 2) (Nat.le_of_ble_eq_true rfl)
  rw [lg_entry_eq]
  generalize (lg_sl ([.int x0, .int x1]) ++ List.replicate (2 - (lg_sl ([.int x0, .int x1])).length) Slot.unset).toArray = ls at hl ⊢
  have hl : lv_has ls 2 [(0, .int x0), (1, .int x1)] := hl
  have b_ := zk_0
  refine lv_iload_n hx hb dX11_rarity_0 rfl (lv_at hl 1 rfl) ?_
  have b_ : -2147483648 ≤ x1.toInt ∧ x1.toInt ≤ 2147483647 := ⟨zlo _, zhi _⟩
  refine lv_if_le (tgt := 16) hx hb dX11_rarity_1 (by decide) (fun c_ => ?_) (fun c_ => ?_)
  · skip
    have b_ := zT_le rfl zk_0 c_
    refine lv_iconst (v := 0) hx hb dX11_rarity_16 (by decide) ?_
    refine W.widen (k := 0) (n := 0) (by decide) (by decide) ?_
    have hpost : (0 ≤ (0 : Int32).toInt ∧ (0 : Int32).toInt ≤ 32) ∧ (zW (0 ≤ x0.toInt → x0.toInt ≤ 120 → x1.toInt ≤ x0.toInt → (0 : Int32).toInt = zrr x0.toInt x1.toInt)) := ⟨(by first | with_reducible assumption | exact ⟨by omega, by omega⟩), by first | exact zRt_1 (by omega) e_z7 e_z9 hX10_0 | exact zRt_0 (by omega) (by decide)⟩
    have hP9 : va_P (dC, dI) vwCl [] s.heap := hP
    have hD9 : va_D A [] := hD
    exact W.iret (v := 0) hx hb hr (fun t ht hW => ⟨⟨0, (fun _ => 0), rfl, hpost, (fun _ => 0), (fun _ => (fun _ => 0)), (fun _ => (fun _ => 0)), by rw [ht]; exact hP9, va_K.moved hW.alike hK, hD9⟩, hS.F ht⟩) hS.2.2 dX11_rarity_17
  · skip
    have b_ := zF_le rfl zk_0 c_
    refine lv_bipush (v := 16) hx hb dX11_rarity_4 (by decide) ?_
    refine lv_iload_n hx hb dX11_rarity_6 rfl (lv_at hl 0 rfl) ?_
    have b_ : -2147483648 ≤ x0.toInt ∧ x0.toInt ≤ 2147483647 := ⟨zlo _, zhi _⟩
    refine lv_imul hx hb dX11_rarity_7 ?_
    refine lv_topi (fun z7 e_z7 => ?_)
    refine lv_iload_n hx hb dX11_rarity_8 rfl (lv_at hl 1 rfl) ?_
    have b_ : -2147483648 ≤ z7.toInt ∧ z7.toInt ≤ 2147483647 := ⟨zlo _, zhi _⟩
    refine lv_idiv hx hb dX11_rarity_9 (zne0 (show (x1 : Int32).toInt ≠ 0 from by omega)) ?_
    refine lv_topi (fun z9 e_z9 => ?_)
    have hPc := hP.sub (ws' := []) [] rfl
    have hDc := hD.sub (ws' := []) [] (by decide) rfl
    have hKc := hK.sub (tys' := []) [] rfl
    have hFc := va_free (wc := []) hD hS hA [] rfl
    refine va_calli (va_runS (As := [.int z9]) (rest := []) ⟨hx, hb, hml, hown, hG⟩ (sX11_binaryDigits_0 l dC dI adK adV s.heap.size z9) (va_cwS 1 hG (zgS zv1359 zv790 zv129 zv791) rfl rfl rfl (by decide +kernel) ⟨Nat.le_of_ble_eq_true rfl, Nat.le_of_ble_eq_true rfl⟩) ⟨zPc_blind, zPc_pre hPc hKc hDc hE hS hFc hZ⟩ rfl rfl hl.1 rfl (lv_room (Nat.le_of_ble_eq_true rfl)) dX11_rarity_10 ⟨Nat.le_of_ble_eq_true rfl, Nat.le_of_ble_eq_true rfl⟩) hS (fun q _ h => hFc q h) hFc (fun r10_ u10_ t H1 locs ht hvm hw hB hz1 hk1 hS => ?_)
    replace hw : (0 ≤ r10_.toInt ∧ r10_.toInt ≤ 32) ∧ (0 < z9.toInt → r10_.toInt = (zbd (z9.toInt).toNat : Int)) := hw
    obtain ⟨b_, hX10_0⟩ := hw
    obtain ⟨w10_, a10_, b10_, hP1, hK1, hD1⟩ := hB
    rw [ht] at hP1
    obtain ⟨hP, hD⟩ := va_join (wr := []) (w1 := []) hP hD [] [] rfl rfl (by decide) (by decide) hk1 hFc hP1 hD1
    have hP : va_P (dC, dI) vwCl [] H1 := hP.sub [] rfl
    have hD : va_D A [] := hD.sub [] (by decide) rfl
    generalize H1 = H at hP hS ⊢
    clear hz1
    refine lv_goto (tgt := 17) hx hb dX11_rarity_13 (by decide) ?_
    refine W.widen (k := 0) (n := 0) (by decide) (by decide) ?_
    have hpost : (0 ≤ r10_.toInt ∧ r10_.toInt ≤ 32) ∧ (zW (0 ≤ x0.toInt → x0.toInt ≤ 120 → x1.toInt ≤ x0.toInt → r10_.toInt = zrr x0.toInt x1.toInt)) := ⟨(by first | with_reducible assumption | exact ⟨by omega, by omega⟩), by first | exact zRt_1 (by omega) e_z7 e_z9 hX10_0 | exact zRt_0 (by omega) (by decide)⟩
    have hP9 : va_P (dC, dI) vwCl [] H := hP
    have hD9 : va_D A [] := hD
    exact W.iret (v := r10_) hx hb hr (fun t ht hW => ⟨⟨r10_, (fun _ => 0), rfl, hpost, (fun _ => 0), (fun _ => (fun _ => 0)), (fun _ => (fun _ => 0)), by rw [ht]; exact hP9, va_K.moved hW.alike hK, hD9⟩, hS.F ht⟩) hS.2.2 dX11_rarity_17
set_option maxHeartbeats 8000000 in
set_option maxRecDepth 100000 in
theorem sX1_score_0 (l : Launch) (dC : Nat → ClassId) (dI : Nat → Nat → Nat) (adK adV : Nat → Nat) (h0 : Nat) (h13 : Nat) (h18 : Nat) (h48 : Nat) (h1 : Nat) (h3 : Nat) (h41 : Nat) (h6 : Nat) (h21 : Nat) (h36 : Nat) (h37 : Nat) (h39 : Nat) (h40 : Nat) (h42 : Nat) (h43 : Nat) (h44 : Nat) (h45 : Nat) (h46 : Nat) (h47 : Nat) (h14 : Nat) (h15 : Nat) (h16 : Nat) (h17 : Nat) (h19 : Nat) (h20 : Nat) (h2 : Nat) (h4 : Nat) (h5 : Nat) (k18 : ClassId) (n48 : Nat) (k3 : ClassId) (k41 : ClassId) (sz : Nat) (v0 : Nat → Int32) (v13 : Nat → Int32) (f18 : Nat → Int32) (f48 : Nat → Int32) (v1 : Nat → Int32) (f3 : Nat → Int32) (f41 : Nat → Int32) (x1 : Int32) (hv0 : zR rg_Finder v0) (hv13 : zR rg_Query v13) (hf48 : zA 0 4914 f48) (hn48 : n48 ≤ 4800) (hv1 : zR rg_Documents v1) (hf3 : zA 0 300 f3) (hx1 : 0 ≤ x1.toInt ∧ x1.toInt ≤ 119) : Met l yX1_score (zw yX1_score cX1_score 7 (some .int)) { frames := 3, cells := 0, slots := 0, locals := 62 } (zPc dC dI adK adV [.ref h0, .int x1] sz [(h0, .inr (1, mX1 h1 h6 h13 h21 h36 h37 h39 h40 h41 h42 h43 h44 h45 h46 h47 h48 v0)), (h13, .inr (7, mX7 h14 h15 h16 h17 h18 h19 h20 v13)), (h18, zi k18 40 f18), (h48, zi k41 n48 f48), (h1, .inr (0, mX0 h2 h3 h4 h5 v1)), (h3, zi k3 120 f3), (h41, zi k41 40 f41)] [(k18, .boolean), (k41, .int), (k3, .int), (k41, .int)]) (va_Qi (fun (r : Int32) (u : Nat → Int32) => True) (fun (u : Nat → Int32) (t : State) => ∃ (ww : Nat → Int64) (aa : Nat → Nat → Int32) (bb : Nat → Nat → Int64), va_P (dC, dI) vwCl [(h0, .inr (1, mX1 h1 h6 h13 h21 h36 h37 h39 h40 h41 h42 h43 h44 h45 h46 h47 h48 v0)), (h13, .inr (7, mX7 h14 h15 h16 h17 h18 h19 h20 v13)), (h18, zi k18 40 f18), (h48, zi k41 n48 f48), (h1, .inr (0, mX0 h2 h3 h4 h5 v1)), (h3, zi k3 120 f3), (h41, zi k41 40 f41)] t.heap ∧ va_K (dC, dI) vwCl [(k18, .boolean), (k41, .int), (k3, .int), (k41, .int)] t ∧ va_D (va_A [(h0, .inr (1, mX1 h1 h6 h13 h21 h36 h37 h39 h40 h41 h42 h43 h44 h45 h46 h47 h48 v0)), (h13, .inr (7, mX7 h14 h15 h16 h17 h18 h19 h20 v13)), (h18, zi k18 40 f18), (h48, zi k41 n48 f48), (h1, .inr (0, mX0 h2 h3 h4 h5 v1)), (h3, zi k3 120 f3), (h41, zi k41 40 f41)] sz) [(h0, .inr (1, mX1 h1 h6 h13 h21 h36 h37 h39 h40 h41 h42 h43 h44 h45 h46 h47 h48 v0)), (h13, .inr (7, mX7 h14 h15 h16 h17 h18 h19 h20 v13)), (h18, zi k18 40 f18), (h48, zi k41 n48 f48), (h1, .inr (0, mX0 h2 h3 h4 h5 v1)), (h3, zi k3 120 f3), (h41, zi k41 40 f41)]) (va_A [(h0, .inr (1, mX1 h1 h6 h13 h21 h36 h37 h39 h40 h41 h42 h43 h44 h45 h46 h47 h48 v0)), (h13, .inr (7, mX7 h14 h15 h16 h17 h18 h19 h20 v13)), (h18, zi k18 40 f18), (h48, zi k41 n48 f48), (h1, .inr (0, mX0 h2 h3 h4 h5 v1)), (h3, zi k3 120 f3), (h41, zi k41 40 f41)] sz)) 0 0 (va_A [(h0, .inr (1, mX1 h1 h6 h13 h21 h36 h37 h39 h40 h41 h42 h43 h44 h45 h46 h47 h48 v0)), (h13, .inr (7, mX7 h14 h15 h16 h17 h18 h19 h20 v13)), (h18, zi k18 40 f18), (h48, zi k41 n48 f48), (h1, .inr (0, mX0 h2 h3 h4 h5 v1)), (h3, zi k3 120 f3), (h41, zi k41 40 f41)] sz) := by
  refine Met.ofW (cc := cX1_score) (maxL := 7) (ret := (some .int)) (by decide) rfl ?_
  intro p e s m args below meth c s₁ B hml hv
  obtain ⟨rfl, hsz, hP, hK, hD0, hE, hZ⟩ := hv
  have hx := B.exec
  have hb := B.bytes
  have hr := B.returns
  have hG : ∀ w ∈ zG, w.before _ s = true := fun w h => atoms_spec (ws := (zw yX1_score cX1_score 7 (some .int))) B.pre w (List.mem_cons_of_mem _ h)
  have hown : s.vm.findClass RX1 = some m.cls := findClass_of_methodNamed B.named
  have hlocks := B.notSynchronized

  subst hsz
  have hD := hD0.self (sz := s.heap.size)
  generalize hAe : va_A [(h0, .inr (1, mX1 h1 h6 h13 h21 h36 h37 h39 h40 h41 h42 h43 h44 h45 h46 h47 h48 v0)), (h13, .inr (7, mX7 h14 h15 h16 h17 h18 h19 h20 v13)), (h18, zi k18 40 f18), (h48, zi k41 n48 f48), (h1, .inr (0, mX0 h2 h3 h4 h5 v1)), (h3, zi k3 120 f3), (h41, zi k41 40 f41)] s.heap.size = A at hD hZ ⊢
  have hA : ∀ q : Nat, s.heap.size ≤ q → A q := fun q h => by rw [← hAe]; exact Or.inr h
  have hS : va_S A s.heap s.heap [] := va_S.rf
  have hl := lv_entry ([.ref h0, .int x1]) (n := 7) (Nat.le_of_ble_eq_true rfl)
  rw [lg_entry_eq]
  generalize (lg_sl ([.ref h0, .int x1]) ++ List.replicate (7 - (lg_sl ([.ref h0, .int x1])).length) Slot.unset).toArray = ls at hl ⊢
  have hl : lv_has ls 7 [(0, .ref h0), (1, .int x1)] := hl
  have b_ := zk_0
  refine lv_iconst (v := 0) hx hb dX1_score_0 (by decide) ?_
  refine lv_istore_n (lv' := [(2, .int 0), (0, .ref h0), (1, .int x1)]) hx hb dX1_score_1 rfl hl (by decide) rfl (fun ls hl => ?_)
  refine lv_iconst (v := 0) hx hb dX1_score_2 (by decide) ?_
  refine lv_istore_n (lv' := [(3, .int 0), (2, .int 0), (0, .ref h0), (1, .int x1)]) hx hb dX1_score_3 rfl hl (by decide) rfl (fun ls hl => ?_)
  refine zcutL (fun u4_ => (40 - (u4_ 1).toInt).toNat) (fun H locs ls u4_ w4_ a4_ b4_ => va_P (dC, dI) vwCl [(h0, .inr (1, mX1 h1 h6 h13 h21 h36 h37 h39 h40 h41 h42 h43 h44 h45 h46 h47 h48 v0)), (h13, .inr (7, mX7 h14 h15 h16 h17 h18 h19 h20 v13)), (h18, zi k18 40 f18), (h48, zi k41 n48 f48), (h1, .inr (0, mX0 h2 h3 h4 h5 v1)), (h3, zi k3 120 f3), (h41, zi k41 40 f41)] H ∧ va_D A [(h0, .inr (1, mX1 h1 h6 h13 h21 h36 h37 h39 h40 h41 h42 h43 h44 h45 h46 h47 h48 v0)), (h13, .inr (7, mX7 h14 h15 h16 h17 h18 h19 h20 v13)), (h18, zi k18 40 f18), (h48, zi k41 n48 f48), (h1, .inr (0, mX0 h2 h3 h4 h5 v1)), (h3, zi k3 120 f3), (h41, zi k41 40 f41)] ∧ va_S A s.heap H locs ∧ lv_has ls 7 [(0, .ref h0), (1, .int x1), (2, .int (u4_ 0)), (3, .int (u4_ 1))] ∧ (0 ≤ (u4_ 1).toInt ∧ (u4_ 1).toInt ≤ 40)) (fun ls u4_ w4_ => F0 m 4 ls []) 0 0 ?_ (fun hJ4 => ?_)
  · skip
    intro H locs ls u4_ w4_ a4_ b4_ hc hJ4
    obtain ⟨hP, hD, hS, hl, b_⟩ := hc
    refine lv_iload_n hx hb dX1_score_4 rfl (lv_at hl 3 rfl) ?_
    refine lv_aload_n hx hb dX1_score_5 rfl (lv_at hl 0 rfl) ?_
    refine va_get (D := (dC, dI)) (ci := 1) (v := .ref h13) (C := RX1) (T := TX1) (N := 17) hx hb hG zuX1 hown hK hP 0 rfl rfl 2 (by decide) (hG _ zv506) (fun _ h9 => h9) rfl dX1_score_6 ?_
    have hPc := hP.sub (ws' := [(h13, .inr (7, mX7 h14 h15 h16 h17 h18 h19 h20 v13))]) [1] rfl
    have hDc := hD.sub (ws' := [(h13, .inr (7, mX7 h14 h15 h16 h17 h18 h19 h20 v13))]) [1] (by decide) rfl
    have hKc := hK.sub (tys' := []) [] rfl
    have hFc := va_free (wc := [(h13, .inr (7, mX7 h14 h15 h16 h17 h18 h19 h20 v13))]) hD hS hA [1] rfl
    refine va_calli (va_runV (As := []) (rest := [.int (u4_ 1)]) ⟨hx, hb, hml, hown, hG⟩ (sX7_leaves_0 l dC dI adK adV h13 h14 h15 h16 h17 h18 h19 h20 H.size v13 hv13) (cwV 0 hG (zgV zv1211 zv1093 zv1094 zv136 zv1095) rfl rfl rfl (by decide +kernel) ⟨Nat.le_of_ble_eq_true rfl, Nat.le_of_ble_eq_true rfl⟩) ⟨zPc_blind, va_recv hKc hPc (ci := 7) (q0 := 0) rfl rfl, zPc_pre hPc hKc hDc hE hS hFc hZ⟩ rfl rfl hl.1 rfl (lv_room (Nat.le_of_ble_eq_true rfl)) dX1_score_9 ⟨Nat.le_of_ble_eq_true rfl, Nat.le_of_ble_eq_true rfl⟩) hS (fun q _ h => hFc q h) hFc (fun r9_ u9_ t H1 locs ht hvm hw hB hz1 hk1 hS => ?_)
    replace hw : (0 ≤ r9_.toInt ∧ r9_.toInt ≤ 40) ∧ (r9_.toInt = (v13 7).toInt) := hw
    obtain ⟨b_, hX9_0⟩ := hw
    obtain ⟨w9_, a9_, b9_, hP1, hK1, hD1⟩ := hB
    rw [ht] at hP1
    obtain ⟨hP, hD⟩ := va_join (wr := [(h0, .inr (1, mX1 h1 h6 h13 h21 h36 h37 h39 h40 h41 h42 h43 h44 h45 h46 h47 h48 v0)), (h18, zi k18 40 f18), (h48, zi k41 n48 f48), (h1, .inr (0, mX0 h2 h3 h4 h5 v1)), (h3, zi k3 120 f3), (h41, zi k41 40 f41)]) (w1 := [(h13, .inr (7, mX7 h14 h15 h16 h17 h18 h19 h20 v13))]) hP hD [1] [0, 2, 3, 4, 5, 6] rfl rfl (by decide) (by decide) hk1 hFc hP1 hD1
    have hP : va_P (dC, dI) vwCl [(h0, .inr (1, mX1 h1 h6 h13 h21 h36 h37 h39 h40 h41 h42 h43 h44 h45 h46 h47 h48 v0)), (h13, .inr (7, mX7 h14 h15 h16 h17 h18 h19 h20 v13)), (h18, zi k18 40 f18), (h48, zi k41 n48 f48), (h1, .inr (0, mX0 h2 h3 h4 h5 v1)), (h3, zi k3 120 f3), (h41, zi k41 40 f41)] H1 := hP.sub [0, 6, 1, 2, 3, 4, 5] rfl
    have hD : va_D A [(h0, .inr (1, mX1 h1 h6 h13 h21 h36 h37 h39 h40 h41 h42 h43 h44 h45 h46 h47 h48 v0)), (h13, .inr (7, mX7 h14 h15 h16 h17 h18 h19 h20 v13)), (h18, zi k18 40 f18), (h48, zi k41 n48 f48), (h1, .inr (0, mX0 h2 h3 h4 h5 v1)), (h3, zi k3 120 f3), (h41, zi k41 40 f41)] := hD.sub [0, 6, 1, 2, 3, 4, 5] (by decide) rfl
    generalize H1 = H at hP hS ⊢
    clear hz1
    refine lv_icmp_ge (tgt := 105) hx hb dX1_score_12 (by decide) (fun c_ => ?_) (fun c_ => ?_)
    · skip
      have b_ := zT_ge rfl rfl c_
      refine lv_iload_n hx hb dX1_score_105 rfl (lv_at hl 2 rfl) ?_
      refine W.widen (k := 0) (n := 0) (by decide) (by decide) ?_
      have b_ : -2147483648 ≤ (u4_ 0).toInt ∧ (u4_ 0).toInt ≤ 2147483647 := ⟨zlo _, zhi _⟩
      have hpost : True := trivial
      have hP9 : va_P (dC, dI) vwCl [(h0, .inr (1, mX1 h1 h6 h13 h21 h36 h37 h39 h40 h41 h42 h43 h44 h45 h46 h47 h48 v0)), (h13, .inr (7, mX7 h14 h15 h16 h17 h18 h19 h20 v13)), (h18, zi k18 40 f18), (h48, zi k41 n48 f48), (h1, .inr (0, mX0 h2 h3 h4 h5 v1)), (h3, zi k3 120 f3), (h41, zi k41 40 f41)] H := hP
      have hD9 : va_D A [(h0, .inr (1, mX1 h1 h6 h13 h21 h36 h37 h39 h40 h41 h42 h43 h44 h45 h46 h47 h48 v0)), (h13, .inr (7, mX7 h14 h15 h16 h17 h18 h19 h20 v13)), (h18, zi k18 40 f18), (h48, zi k41 n48 f48), (h1, .inr (0, mX0 h2 h3 h4 h5 v1)), (h3, zi k3 120 f3), (h41, zi k41 40 f41)] := hD
      exact W.iret (v := (u4_ 0)) hx hb hr (fun t ht hW => ⟨⟨(u4_ 0), (fun _ => 0), rfl, hpost, (fun _ => 0), (fun _ => (fun _ => 0)), (fun _ => (fun _ => 0)), by rw [ht]; exact hP9, va_K.moved hW.alike hK, hD9⟩, hS.F ht⟩) hS.2.2 dX1_score_106
    · skip
      have b_ := zF_ge rfl rfl c_
      refine lv_iload_n hx hb dX1_score_15 rfl (lv_at hl 3 rfl) ?_
      refine lv_bipush (v := 120) hx hb dX1_score_16 (by decide) ?_
      refine lv_imul hx hb dX1_score_18 ?_
      refine lv_topi (fun z18 e_z18 => ?_)
      have b_ := zmul rfl zk_120 e_z18 (by omega) (by omega)
      refine lv_iload_n hx hb dX1_score_19 rfl (lv_at hl 1 rfl) ?_
      refine lv_iadd hx hb dX1_score_20 ?_
      refine lv_topi (fun z20 e_z20 => ?_)
      have b_ := zadd rfl rfl e_z20 (by omega) (by omega)
      refine lv_istore (lv' := [(4, .int z20), (0, .ref h0), (1, .int x1), (2, .int (u4_ 0)), (3, .int (u4_ 1))]) hx hb dX1_score_21 hl (by decide) rfl (fun ls hl => ?_)
      refine lv_aload_n hx hb dX1_score_23 rfl (lv_at hl 1 rfl) ?_
      refine va_get (D := (dC, dI)) (ci := 1) (v := .ref h13) (C := RX1) (T := TX1) (N := 17) hx hb hG zuX1 hown hK hP 0 rfl rfl 2 (by decide) (hG _ zv506) (fun _ h9 => h9) rfl dX1_score_24 ?_
      refine lv_iload_n hx hb dX1_score_27 rfl (lv_at hl 4 rfl) ?_
      have hPc := hP.sub (ws' := [(h13, .inr (7, mX7 h14 h15 h16 h17 h18 h19 h20 v13)), (h18, zi k18 40 f18)]) [1, 2] rfl
      have hDc := hD.sub (ws' := [(h13, .inr (7, mX7 h14 h15 h16 h17 h18 h19 h20 v13)), (h18, zi k18 40 f18)]) [1, 2] (by decide) rfl
      have hKc := hK.sub (tys' := [(k18, .boolean)]) [0] rfl
      have hFc := va_free (wc := [(h13, .inr (7, mX7 h14 h15 h16 h17 h18 h19 h20 v13)), (h18, zi k18 40 f18)]) hD hS hA [1, 2] rfl
      refine va_calli (va_runV (As := [.int (u4_ 1)]) (rest := []) ⟨hx, hb, hml, hown, hG⟩ (sX7_isCounted_0 l dC dI adK adV h13 h18 h14 h15 h16 h17 h19 h20 k18 H.size v13 f18 (u4_ 1) hv13) (cwV 1 hG (zgV zv1330 zv1331 zv1332 zv136 zv1333) rfl rfl rfl (by decide +kernel) ⟨Nat.le_of_ble_eq_true rfl, Nat.le_of_ble_eq_true rfl⟩) ⟨zPc_blind, va_recv hKc hPc (ci := 7) (q0 := 0) rfl rfl, zPc_pre hPc hKc hDc hE hS hFc hZ⟩ rfl rfl hl.1 rfl (lv_room (Nat.le_of_ble_eq_true rfl)) dX1_score_28 ⟨Nat.le_of_ble_eq_true rfl, Nat.le_of_ble_eq_true rfl⟩) hS (fun q _ h => hFc q h) hFc (fun r28_ u28_ t H1 locs ht hvm hw hB hz1 hk1 hS => ?_)
      replace hw : (0 ≤ r28_.toInt ∧ r28_.toInt ≤ 1) := hw
      have b_ := hw
      obtain ⟨w28_, a28_, b28_, hP1, hK1, hD1⟩ := hB
      rw [ht] at hP1
      obtain ⟨hP, hD⟩ := va_join (wr := [(h0, .inr (1, mX1 h1 h6 h13 h21 h36 h37 h39 h40 h41 h42 h43 h44 h45 h46 h47 h48 v0)), (h48, zi k41 n48 f48), (h1, .inr (0, mX0 h2 h3 h4 h5 v1)), (h3, zi k3 120 f3), (h41, zi k41 40 f41)]) (w1 := [(h13, .inr (7, mX7 h14 h15 h16 h17 h18 h19 h20 v13)), (h18, zi k18 40 f18)]) hP hD [1, 2] [0, 3, 4, 5, 6] rfl rfl (by decide) (by decide) hk1 hFc hP1 hD1
      have hP : va_P (dC, dI) vwCl [(h0, .inr (1, mX1 h1 h6 h13 h21 h36 h37 h39 h40 h41 h42 h43 h44 h45 h46 h47 h48 v0)), (h13, .inr (7, mX7 h14 h15 h16 h17 h18 h19 h20 v13)), (h18, zi k18 40 f18), (h48, zi k41 n48 f48), (h1, .inr (0, mX0 h2 h3 h4 h5 v1)), (h3, zi k3 120 f3), (h41, zi k41 40 f41)] H1 := hP.sub [0, 5, 6, 1, 2, 3, 4] rfl
      have hD : va_D A [(h0, .inr (1, mX1 h1 h6 h13 h21 h36 h37 h39 h40 h41 h42 h43 h44 h45 h46 h47 h48 v0)), (h13, .inr (7, mX7 h14 h15 h16 h17 h18 h19 h20 v13)), (h18, zi k18 40 f18), (h48, zi k41 n48 f48), (h1, .inr (0, mX0 h2 h3 h4 h5 v1)), (h3, zi k3 120 f3), (h41, zi k41 40 f41)] := hD.sub [0, 5, 6, 1, 2, 3, 4] (by decide) rfl
      generalize H1 = H at hP hS ⊢
      clear hz1
      refine lv_if_eq (tgt := 99) hx hb dX1_score_31 (by decide) (fun c_ => ?_) (fun c_ => ?_)
      · skip
        have b_ := zT_eq rfl zk_0 c_
        obtain ⟨z99, e_z99⟩ : ∃ z : Int32, z = (u4_ 1) + Int32.ofInt 1 := ⟨_, rfl⟩
        have b_ := zadd (x := (u4_ 1)) (y := Int32.ofInt 1) rfl (show (Int32.ofInt 1).toInt = 1 from by decide) e_z99 (by omega) (by omega)
        refine lv_iinc (v := z99) (lv' := [(3, .int z99), (4, .int z20), (0, .ref h0), (1, .int x1), (2, .int (u4_ 0))]) hx hb dX1_score_99 hl (k := 4) rfl e_z99.symm (by decide) rfl (fun ls hl => ?_)
        refine lv_goto (tgt := 4) hx hb dX1_score_102 (by decide) ?_
        have b_ : -2147483648 ≤ (u4_ 0).toInt ∧ (u4_ 0).toInt ≤ 2147483647 := ⟨zlo _, zhi _⟩
        have hc : va_P (dC, dI) vwCl [(h0, .inr (1, mX1 h1 h6 h13 h21 h36 h37 h39 h40 h41 h42 h43 h44 h45 h46 h47 h48 v0)), (h13, .inr (7, mX7 h14 h15 h16 h17 h18 h19 h20 v13)), (h18, zi k18 40 f18), (h48, zi k41 n48 f48), (h1, .inr (0, mX0 h2 h3 h4 h5 v1)), (h3, zi k3 120 f3), (h41, zi k41 40 f41)] H ∧ va_D A [(h0, .inr (1, mX1 h1 h6 h13 h21 h36 h37 h39 h40 h41 h42 h43 h44 h45 h46 h47 h48 v0)), (h13, .inr (7, mX7 h14 h15 h16 h17 h18 h19 h20 v13)), (h18, zi k18 40 f18), (h48, zi k41 n48 f48), (h1, .inr (0, mX0 h2 h3 h4 h5 v1)), (h3, zi k3 120 f3), (h41, zi k41 40 f41)] ∧ va_S A s.heap H locs ∧ lv_has ls 7 [(0, .ref h0), (1, .int x1), (2, .int (u4_ 0)), (3, .int z99)] ∧ (0 ≤ z99.toInt ∧ z99.toInt ≤ 40) := ⟨hP, hD, hS, lv_sub hl [2, 3, 4, 0] rfl, (by first | with_reducible assumption | exact ⟨by omega, by omega⟩)⟩
        exact hJ4 H locs ls (fun i => ([(u4_ 0), z99] : List (Int32)).getD i 0) (fun _ => 0) (fun _ => (fun _ => 0)) (fun _ => (fun _ => 0)) hc (show (40 - z99.toInt).toNat < (40 - (u4_ 1).toInt).toNat from by omega)
      · skip
        have b_ := zF_eq rfl zk_0 c_
        refine lv_iload hx hb dX1_score_34 (lv_at hl 0 rfl) ?_
        refine lv_aload_n hx hb dX1_score_36 rfl (lv_at hl 1 rfl) ?_
        refine va_get (D := (dC, dI)) (ci := 1) (v := .ref h48) (C := RX1) (T := TX1) (N := 17) hx hb hG zuX1 hown hK hP 0 rfl rfl 15 (by decide) (hG _ zv519) (fun _ h9 => h9) rfl dX1_score_37 ?_
        refine va_alen (v := (Int32.ofNat n48)) hx hb hK hP 3 1 rfl rfl rfl dX1_score_40 ?_
        have b_ := zofn hn48
        refine lv_icmp_ge (tgt := 99) hx hb dX1_score_41 (by decide) (fun c_ => ?_) (fun c_ => ?_)
        · skip
          have b_ := zT_ge rfl rfl c_
          obtain ⟨z99, e_z99⟩ : ∃ z : Int32, z = (u4_ 1) + Int32.ofInt 1 := ⟨_, rfl⟩
          have b_ := zadd (x := (u4_ 1)) (y := Int32.ofInt 1) rfl (show (Int32.ofInt 1).toInt = 1 from by decide) e_z99 (by omega) (by omega)
          refine lv_iinc (v := z99) (lv' := [(3, .int z99), (4, .int z20), (0, .ref h0), (1, .int x1), (2, .int (u4_ 0))]) hx hb dX1_score_99 hl (k := 4) rfl e_z99.symm (by decide) rfl (fun ls hl => ?_)
          refine lv_goto (tgt := 4) hx hb dX1_score_102 (by decide) ?_
          have b_ : -2147483648 ≤ (u4_ 0).toInt ∧ (u4_ 0).toInt ≤ 2147483647 := ⟨zlo _, zhi _⟩
          have hc : va_P (dC, dI) vwCl [(h0, .inr (1, mX1 h1 h6 h13 h21 h36 h37 h39 h40 h41 h42 h43 h44 h45 h46 h47 h48 v0)), (h13, .inr (7, mX7 h14 h15 h16 h17 h18 h19 h20 v13)), (h18, zi k18 40 f18), (h48, zi k41 n48 f48), (h1, .inr (0, mX0 h2 h3 h4 h5 v1)), (h3, zi k3 120 f3), (h41, zi k41 40 f41)] H ∧ va_D A [(h0, .inr (1, mX1 h1 h6 h13 h21 h36 h37 h39 h40 h41 h42 h43 h44 h45 h46 h47 h48 v0)), (h13, .inr (7, mX7 h14 h15 h16 h17 h18 h19 h20 v13)), (h18, zi k18 40 f18), (h48, zi k41 n48 f48), (h1, .inr (0, mX0 h2 h3 h4 h5 v1)), (h3, zi k3 120 f3), (h41, zi k41 40 f41)] ∧ va_S A s.heap H locs ∧ lv_has ls 7 [(0, .ref h0), (1, .int x1), (2, .int (u4_ 0)), (3, .int z99)] ∧ (0 ≤ z99.toInt ∧ z99.toInt ≤ 40) := ⟨hP, hD, hS, lv_sub hl [2, 3, 4, 0] rfl, (by first | with_reducible assumption | exact ⟨by omega, by omega⟩)⟩
          exact hJ4 H locs ls (fun i => ([(u4_ 0), z99] : List (Int32)).getD i 0) (fun _ => 0) (fun _ => (fun _ => 0)) (fun _ => (fun _ => 0)) hc (show (40 - z99.toInt).toNat < (40 - (u4_ 1).toInt).toNat from by omega)
        · skip
          have b_ := zF_ge rfl rfl c_
          refine lv_aload_n hx hb dX1_score_44 rfl (lv_at hl 1 rfl) ?_
          refine va_get (D := (dC, dI)) (ci := 1) (v := .ref h48) (C := RX1) (T := TX1) (N := 17) hx hb hG zuX1 hown hK hP 0 rfl rfl 15 (by decide) (hG _ zv519) (fun _ h9 => h9) rfl dX1_score_45 ?_
          refine lv_iload hx hb dX1_score_48 (lv_at hl 0 rfl) ?_
          refine va_iald hx hb hK hP 3 1 rfl rfl (zin_lit ⟨by omega, by omega⟩) dX1_score_50 ?_
          refine lv_topi (fun z50 e_z50 => ?_)
          have b_ : 0 ≤ z50.toInt ∧ z50.toInt ≤ 4914 := by rw [e_z50]; exact hf48 _
          refine lv_istore (lv' := [(5, .int z50), (4, .int z20), (0, .ref h0), (1, .int x1), (2, .int (u4_ 0)), (3, .int (u4_ 1))]) hx hb dX1_score_51 hl (by decide) rfl (fun ls hl => ?_)
          refine lv_bipush (v := 100) hx hb dX1_score_53 (by decide) ?_
          refine lv_iload hx hb dX1_score_55 (lv_at hl 0 rfl) ?_
          refine lv_imul hx hb dX1_score_57 ?_
          refine lv_topi (fun z57 e_z57 => ?_)
          have b_ := zmul zk_100 rfl e_z57 (by omega) (by omega)
          refine lv_iload hx hb dX1_score_58 (lv_at hl 0 rfl) ?_
          refine lv_iconst (v := 1) hx hb dX1_score_60 (by decide) ?_
          refine lv_iadd hx hb dX1_score_61 ?_
          refine lv_topi (fun z61 e_z61 => ?_)
          have b_ := zadd rfl zk_1 e_z61 (by omega) (by omega)
          refine lv_aload_n hx hb dX1_score_62 rfl (lv_at hl 2 rfl) ?_
          refine va_get (D := (dC, dI)) (ci := 1) (v := .ref h1) (C := RX1) (T := TX1) (N := 17) hx hb hG zuX1 hown hK hP 0 rfl rfl 0 (by decide) (hG _ zv504) (fun _ h9 => h9) rfl dX1_score_63 ?_
          refine lv_iload_n hx hb dX1_score_66 rfl (lv_at hl 3 rfl) ?_
          have hPc := hP.sub (ws' := [(h1, .inr (0, mX0 h2 h3 h4 h5 v1)), (h3, zi k3 120 f3)]) [4, 5] rfl
          have hDc := hD.sub (ws' := [(h1, .inr (0, mX0 h2 h3 h4 h5 v1)), (h3, zi k3 120 f3)]) [4, 5] (by decide) rfl
          have hKc := hK.sub (tys' := [(k3, .int)]) [2] rfl
          have hFc := va_free (wc := [(h1, .inr (0, mX0 h2 h3 h4 h5 v1)), (h3, zi k3 120 f3)]) hD hS hA [4, 5] rfl
          refine va_calli (va_runV (As := [.int x1]) (rest := [.int z61, .int z57]) ⟨hx, hb, hml, hown, hG⟩ (sX0_lengthOf_0 l dC dI adK adV h1 h3 h2 h4 h5 k3 H.size v1 f3 x1 hv1 hf3) (cwV 1 hG (zgV zv1351 zv1352 zv1353 zv132 zv1354) rfl rfl rfl (by decide +kernel) ⟨Nat.le_of_ble_eq_true rfl, Nat.le_of_ble_eq_true rfl⟩) ⟨zPc_blind, va_recv hKc hPc (ci := 0) (q0 := 0) rfl rfl, zPc_pre hPc hKc hDc hE hS hFc hZ⟩ rfl rfl hl.1 rfl (lv_room (Nat.le_of_ble_eq_true rfl)) dX1_score_67 ⟨Nat.le_of_ble_eq_true rfl, Nat.le_of_ble_eq_true rfl⟩) hS (fun q _ h => hFc q h) hFc (fun r67_ u67_ t H1 locs ht hvm hw hB hz1 hk1 hS => ?_)
          replace hw : (0 ≤ r67_.toInt ∧ r67_.toInt ≤ 300) := hw
          have b_ := hw
          obtain ⟨w67_, a67_, b67_, hP1, hK1, hD1⟩ := hB
          rw [ht] at hP1
          obtain ⟨hP, hD⟩ := va_join (wr := [(h0, .inr (1, mX1 h1 h6 h13 h21 h36 h37 h39 h40 h41 h42 h43 h44 h45 h46 h47 h48 v0)), (h13, .inr (7, mX7 h14 h15 h16 h17 h18 h19 h20 v13)), (h18, zi k18 40 f18), (h48, zi k41 n48 f48), (h41, zi k41 40 f41)]) (w1 := [(h1, .inr (0, mX0 h2 h3 h4 h5 v1)), (h3, zi k3 120 f3)]) hP hD [4, 5] [0, 1, 2, 3, 6] rfl rfl (by decide) (by decide) hk1 hFc hP1 hD1
          have hP : va_P (dC, dI) vwCl [(h0, .inr (1, mX1 h1 h6 h13 h21 h36 h37 h39 h40 h41 h42 h43 h44 h45 h46 h47 h48 v0)), (h13, .inr (7, mX7 h14 h15 h16 h17 h18 h19 h20 v13)), (h18, zi k18 40 f18), (h48, zi k41 n48 f48), (h1, .inr (0, mX0 h2 h3 h4 h5 v1)), (h3, zi k3 120 f3), (h41, zi k41 40 f41)] H1 := hP.sub [0, 1, 2, 3, 5, 6, 4] rfl
          have hD : va_D A [(h0, .inr (1, mX1 h1 h6 h13 h21 h36 h37 h39 h40 h41 h42 h43 h44 h45 h46 h47 h48 v0)), (h13, .inr (7, mX7 h14 h15 h16 h17 h18 h19 h20 v13)), (h18, zi k18 40 f18), (h48, zi k41 n48 f48), (h1, .inr (0, mX0 h2 h3 h4 h5 v1)), (h3, zi k3 120 f3), (h41, zi k41 40 f41)] := hD.sub [0, 1, 2, 3, 5, 6, 4] (by decide) rfl
          generalize H1 = H at hP hS ⊢
          clear hz1
          refine lv_bipush (v := 8) hx hb dX1_score_70 (by decide) ?_
          refine lv_idiv hx hb dX1_score_72 (by decide) ?_
          refine lv_topi (fun z72 e_z72 => ?_)
          have b_ := zdiv rfl zk_8 e_z72 (by omega) (by decide)
          refine lv_iadd hx hb dX1_score_73 ?_
          refine lv_topi (fun z73 e_z73 => ?_)
          have b_ := zadd rfl rfl e_z73 (by omega) (by omega)
          refine lv_idiv hx hb dX1_score_74 (zne0 (show (z73 : Int32).toInt ≠ 0 from by omega)) ?_
          refine lv_topi (fun z74 e_z74 => ?_)
          have b_ := zdivV rfl rfl e_z74 (by omega) (by omega)
          refine lv_istore (lv' := [(6, .int z74), (5, .int z50), (4, .int z20), (0, .ref h0), (1, .int x1), (2, .int (u4_ 0)), (3, .int (u4_ 1))]) hx hb dX1_score_75 hl (by decide) rfl (fun ls hl => ?_)
          refine lv_iload_n hx hb dX1_score_77 rfl (lv_at hl 5 rfl) ?_
          refine lv_iload hx hb dX1_score_78 (lv_at hl 0 rfl) ?_
          refine lv_aload_n hx hb dX1_score_80 rfl (lv_at hl 3 rfl) ?_
          refine va_get (D := (dC, dI)) (ci := 1) (v := .ref h1) (C := RX1) (T := TX1) (N := 17) hx hb hG zuX1 hown hK hP 0 rfl rfl 0 (by decide) (hG _ zv504) (fun _ h9 => h9) rfl dX1_score_81 ?_
          have hPc := hP.sub (ws' := [(h1, .inr (0, mX0 h2 h3 h4 h5 v1))]) [4] rfl
          have hDc := hD.sub (ws' := [(h1, .inr (0, mX0 h2 h3 h4 h5 v1))]) [4] (by decide) rfl
          have hKc := hK.sub (tys' := []) [] rfl
          have hFc := va_free (wc := [(h1, .inr (0, mX0 h2 h3 h4 h5 v1))]) hD hS hA [4] rfl
          refine va_calli (va_runV (As := []) (rest := [.int z74, .int (u4_ 0)]) ⟨hx, hb, hml, hown, hG⟩ (sX0_onShelf_0 l dC dI adK adV h1 h2 h3 h4 h5 H.size v1 hv1) (cwV 0 hG (zgV zv1355 zv994 zv995 zv132 zv996) rfl rfl rfl (by decide +kernel) ⟨Nat.le_of_ble_eq_true rfl, Nat.le_of_ble_eq_true rfl⟩) ⟨zPc_blind, va_recv hKc hPc (ci := 0) (q0 := 0) rfl rfl, zPc_pre hPc hKc hDc hE hS hFc hZ⟩ rfl rfl hl.1 rfl (lv_room (Nat.le_of_ble_eq_true rfl)) dX1_score_84 ⟨Nat.le_of_ble_eq_true rfl, Nat.le_of_ble_eq_true rfl⟩) hS (fun q _ h => hFc q h) hFc (fun r84_ u84_ t H1 locs ht hvm hw hB hz1 hk1 hS => ?_)
          replace hw : (r84_.toInt = (v1 5).toInt) := hw
          have hX84_0 := hw
          obtain ⟨w84_, a84_, b84_, hP1, hK1, hD1⟩ := hB
          rw [ht] at hP1
          obtain ⟨hP, hD⟩ := va_join (wr := [(h0, .inr (1, mX1 h1 h6 h13 h21 h36 h37 h39 h40 h41 h42 h43 h44 h45 h46 h47 h48 v0)), (h13, .inr (7, mX7 h14 h15 h16 h17 h18 h19 h20 v13)), (h18, zi k18 40 f18), (h48, zi k41 n48 f48), (h3, zi k3 120 f3), (h41, zi k41 40 f41)]) (w1 := [(h1, .inr (0, mX0 h2 h3 h4 h5 v1))]) hP hD [4] [0, 1, 2, 3, 5, 6] rfl rfl (by decide) (by decide) hk1 hFc hP1 hD1
          have hP : va_P (dC, dI) vwCl [(h0, .inr (1, mX1 h1 h6 h13 h21 h36 h37 h39 h40 h41 h42 h43 h44 h45 h46 h47 h48 v0)), (h13, .inr (7, mX7 h14 h15 h16 h17 h18 h19 h20 v13)), (h18, zi k18 40 f18), (h48, zi k41 n48 f48), (h1, .inr (0, mX0 h2 h3 h4 h5 v1)), (h3, zi k3 120 f3), (h41, zi k41 40 f41)] H1 := hP.sub [0, 1, 2, 3, 6, 4, 5] rfl
          have hD : va_D A [(h0, .inr (1, mX1 h1 h6 h13 h21 h36 h37 h39 h40 h41 h42 h43 h44 h45 h46 h47 h48 v0)), (h13, .inr (7, mX7 h14 h15 h16 h17 h18 h19 h20 v13)), (h18, zi k18 40 f18), (h48, zi k41 n48 f48), (h1, .inr (0, mX0 h2 h3 h4 h5 v1)), (h3, zi k3 120 f3), (h41, zi k41 40 f41)] := hD.sub [0, 1, 2, 3, 6, 4, 5] (by decide) rfl
          generalize H1 = H at hP hS ⊢
          clear hz1
          refine lv_aload_n hx hb dX1_score_87 rfl (lv_at hl 3 rfl) ?_
          refine va_get (D := (dC, dI)) (ci := 1) (v := .ref h41) (C := RX1) (T := TX1) (N := 17) hx hb hG zuX1 hown hK hP 0 rfl rfl 8 (by decide) (hG _ zv512) (fun _ h9 => h9) rfl dX1_score_88 ?_
          refine lv_iload_n hx hb dX1_score_91 rfl (lv_at hl 6 rfl) ?_
          refine va_iald hx hb hK hP 6 3 rfl rfl (zin_lit ⟨by omega, by omega⟩) dX1_score_92 ?_
          refine lv_topi (fun z92 e_z92 => ?_)
          have hPc := hP.sub (ws' := []) [] rfl
          have hDc := hD.sub (ws' := []) [] (by decide) rfl
          have hKc := hK.sub (tys' := []) [] rfl
          have hFc := va_free (wc := []) hD hS hA [] rfl
          refine va_calli (va_runSN (As := [.int r84_, .int z92]) (rest := [.int z74, .int (u4_ 0)]) ⟨hx, hb, hml, hown, hG⟩ (sX11_rarity_0 l dC dI adK adV H.size r84_ z92) ⟨va_cnB 2 hG (zgI zv1358) rfl rfl rfl (zE_RX1_181 hE) (hG _ zv129) (by decide +kernel) ⟨Nat.le_of_ble_eq_true rfl, Nat.le_of_ble_eq_true rfl⟩, hG _ zv1357, trivial⟩ ⟨zPc_blind, zPc_pre hPc hKc hDc hE hS hFc hZ⟩ rfl rfl hl.1 rfl (lv_room (Nat.le_of_ble_eq_true rfl)) dX1_score_93 ⟨Nat.le_of_ble_eq_true rfl, Nat.le_of_ble_eq_true rfl⟩) hS (fun q _ h => hFc q h) hFc (fun r93_ u93_ t H1 locs ht hvm hw hB hz1 hk1 hS => ?_)
          replace hw : (0 ≤ r93_.toInt ∧ r93_.toInt ≤ 32) ∧ (zW (0 ≤ r84_.toInt → r84_.toInt ≤ 120 → z92.toInt ≤ r84_.toInt → r93_.toInt = zrr r84_.toInt z92.toInt)) := hw
          obtain ⟨b_, hX93_0⟩ := hw
          obtain ⟨w93_, a93_, b93_, hP1, hK1, hD1⟩ := hB
          rw [ht] at hP1
          obtain ⟨hP, hD⟩ := va_join (wr := [(h0, .inr (1, mX1 h1 h6 h13 h21 h36 h37 h39 h40 h41 h42 h43 h44 h45 h46 h47 h48 v0)), (h13, .inr (7, mX7 h14 h15 h16 h17 h18 h19 h20 v13)), (h18, zi k18 40 f18), (h48, zi k41 n48 f48), (h1, .inr (0, mX0 h2 h3 h4 h5 v1)), (h3, zi k3 120 f3), (h41, zi k41 40 f41)]) (w1 := []) hP hD [] [0, 1, 2, 3, 4, 5, 6] rfl rfl (by decide) (by decide) hk1 hFc hP1 hD1
          have hP : va_P (dC, dI) vwCl [(h0, .inr (1, mX1 h1 h6 h13 h21 h36 h37 h39 h40 h41 h42 h43 h44 h45 h46 h47 h48 v0)), (h13, .inr (7, mX7 h14 h15 h16 h17 h18 h19 h20 v13)), (h18, zi k18 40 f18), (h48, zi k41 n48 f48), (h1, .inr (0, mX0 h2 h3 h4 h5 v1)), (h3, zi k3 120 f3), (h41, zi k41 40 f41)] H1 := hP.sub [0, 1, 2, 3, 4, 5, 6] rfl
          have hD : va_D A [(h0, .inr (1, mX1 h1 h6 h13 h21 h36 h37 h39 h40 h41 h42 h43 h44 h45 h46 h47 h48 v0)), (h13, .inr (7, mX7 h14 h15 h16 h17 h18 h19 h20 v13)), (h18, zi k18 40 f18), (h48, zi k41 n48 f48), (h1, .inr (0, mX0 h2 h3 h4 h5 v1)), (h3, zi k3 120 f3), (h41, zi k41 40 f41)] := hD.sub [0, 1, 2, 3, 4, 5, 6] (by decide) rfl
          generalize H1 = H at hP hS ⊢
          clear hz1
          refine lv_imul hx hb dX1_score_96 ?_
          refine lv_topi (fun z96 e_z96 => ?_)
          have b_ := zmulN (M := 491400) (N := 32) rfl rfl e_z96 ⟨by omega, by omega⟩ ⟨by omega, by omega⟩ (by decide)
          have b_ : -2147483648 ≤ (u4_ 0).toInt ∧ (u4_ 0).toInt ≤ 2147483647 := ⟨zlo _, zhi _⟩
          refine lv_iadd hx hb dX1_score_97 ?_
          refine lv_topi (fun z97 e_z97 => ?_)
          refine lv_istore_n (lv' := [(2, .int z97), (6, .int z74), (5, .int z50), (4, .int z20), (0, .ref h0), (1, .int x1), (3, .int (u4_ 1))]) hx hb dX1_score_98 rfl hl (by decide) rfl (fun ls hl => ?_)
          obtain ⟨z99, e_z99⟩ : ∃ z : Int32, z = (u4_ 1) + Int32.ofInt 1 := ⟨_, rfl⟩
          have b_ := zadd (x := (u4_ 1)) (y := Int32.ofInt 1) rfl (show (Int32.ofInt 1).toInt = 1 from by decide) e_z99 (by omega) (by omega)
          refine lv_iinc (v := z99) (lv' := [(3, .int z99), (2, .int z97), (6, .int z74), (5, .int z50), (4, .int z20), (0, .ref h0), (1, .int x1)]) hx hb dX1_score_99 hl (k := 6) rfl e_z99.symm (by decide) rfl (fun ls hl => ?_)
          refine lv_goto (tgt := 4) hx hb dX1_score_102 (by decide) ?_
          have b_ : -2147483648 ≤ z97.toInt ∧ z97.toInt ≤ 2147483647 := ⟨zlo _, zhi _⟩
          have hc : va_P (dC, dI) vwCl [(h0, .inr (1, mX1 h1 h6 h13 h21 h36 h37 h39 h40 h41 h42 h43 h44 h45 h46 h47 h48 v0)), (h13, .inr (7, mX7 h14 h15 h16 h17 h18 h19 h20 v13)), (h18, zi k18 40 f18), (h48, zi k41 n48 f48), (h1, .inr (0, mX0 h2 h3 h4 h5 v1)), (h3, zi k3 120 f3), (h41, zi k41 40 f41)] H ∧ va_D A [(h0, .inr (1, mX1 h1 h6 h13 h21 h36 h37 h39 h40 h41 h42 h43 h44 h45 h46 h47 h48 v0)), (h13, .inr (7, mX7 h14 h15 h16 h17 h18 h19 h20 v13)), (h18, zi k18 40 f18), (h48, zi k41 n48 f48), (h1, .inr (0, mX0 h2 h3 h4 h5 v1)), (h3, zi k3 120 f3), (h41, zi k41 40 f41)] ∧ va_S A s.heap H locs ∧ lv_has ls 7 [(0, .ref h0), (1, .int x1), (2, .int z97), (3, .int z99)] ∧ (0 ≤ z99.toInt ∧ z99.toInt ≤ 40) := ⟨hP, hD, hS, lv_sub hl [5, 6, 1, 0] rfl, (by first | with_reducible assumption | exact ⟨by omega, by omega⟩)⟩
          exact hJ4 H locs ls (fun i => ([z97, z99] : List (Int32)).getD i 0) (fun _ => 0) (fun _ => (fun _ => 0)) (fun _ => (fun _ => 0)) hc (show (40 - z99.toInt).toNat < (40 - (u4_ 1).toInt).toNat from by omega)
  · skip
    have hc : va_P (dC, dI) vwCl [(h0, .inr (1, mX1 h1 h6 h13 h21 h36 h37 h39 h40 h41 h42 h43 h44 h45 h46 h47 h48 v0)), (h13, .inr (7, mX7 h14 h15 h16 h17 h18 h19 h20 v13)), (h18, zi k18 40 f18), (h48, zi k41 n48 f48), (h1, .inr (0, mX0 h2 h3 h4 h5 v1)), (h3, zi k3 120 f3), (h41, zi k41 40 f41)] s.heap ∧ va_D A [(h0, .inr (1, mX1 h1 h6 h13 h21 h36 h37 h39 h40 h41 h42 h43 h44 h45 h46 h47 h48 v0)), (h13, .inr (7, mX7 h14 h15 h16 h17 h18 h19 h20 v13)), (h18, zi k18 40 f18), (h48, zi k41 n48 f48), (h1, .inr (0, mX0 h2 h3 h4 h5 v1)), (h3, zi k3 120 f3), (h41, zi k41 40 f41)] ∧ va_S A s.heap s.heap [] ∧ lv_has ls 7 [(0, .ref h0), (1, .int x1), (2, .int 0), (3, .int 0)] ∧ (0 ≤ (0 : Int32).toInt ∧ (0 : Int32).toInt ≤ 40) := ⟨hP, hD, hS, lv_sub hl [2, 3, 1, 0] rfl, (by first | with_reducible assumption | exact ⟨by omega, by omega⟩)⟩
    exact hJ4 s.heap [] ls (fun i => ([0, 0] : List (Int32)).getD i 0) (fun _ => 0) (fun _ => (fun _ => 0)) (fun _ => (fun _ => 0)) hc
