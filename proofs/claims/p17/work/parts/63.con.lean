set_option maxHeartbeats 8000000 in
set_option maxRecDepth 100000 in
theorem sX13_wrong_0 (l : Launch) (dC : Nat → ClassId) (dI : Nat → Nat → Nat) (adK adV : Nat → Nat) (h0 : Nat) (q0 : Nat → Nat) (sz : Nat) (v0 : Nat → Int32) (x1 : Int32) (x2 : Int32) (hv0 : zR rg_Model v0) : Met l yX13_wrong (zw yX13_wrong cX13_wrong 3 (some (.object "GammaShelfModel$Stop"))) { frames := 0, cells := 0, slots := 0, locals := 0 } (zPc dC dI adK adV [.ref h0, .int x1, .int x2] sz [(h0, .inr (13, mX13 q0 v0))] []) (va_Qr (fun (u : Nat → Int32) => True) (fun (u : Nat → Int32) (ra : Nat) (t : State) => ra = (q0 31) ∧ ∃ (ww : Nat → Int64) (aa : Nat → Nat → Int32) (bb : Nat → Nat → Int64), va_P (dC, dI) vwCl [(h0, .inr (13, mX13 q0 (upd (upd v0 32 (u 0)) 33 (u 1))))] t.heap ∧ va_K (dC, dI) vwCl [] t ∧ va_D (va_A [(h0, .inr (13, mX13 q0 v0))] sz) [(h0, .inr (13, mX13 q0 (upd (upd v0 32 (u 0)) 33 (u 1))))]) (va_A [(h0, .inr (13, mX13 q0 v0))] sz)) 0 0 (va_A [(h0, .inr (13, mX13 q0 v0))] sz) := by
  refine Met.ofW (cc := cX13_wrong) (maxL := 3) (ret := (some (.object "GammaShelfModel$Stop"))) (by decide) rfl ?_
  intro p e s m args below meth c s₁ B hml hv
  obtain ⟨rfl, hsz, hP, hK, hD0, hE, hZ⟩ := hv
  have hx := B.exec
  have hb := B.bytes
  have hr := B.returns
  have hG : ∀ w ∈ zG, w.before _ s = true := fun w h => atoms_spec (ws := (zw yX13_wrong cX13_wrong 3 (some (.object "GammaShelfModel$Stop")))) B.pre w (List.mem_cons_of_mem _ h)
  have hown : s.vm.findClass RX13 = some m.cls := findClass_of_methodNamed B.named
  have hlocks := B.notSynchronized

  subst hsz
  have hD := hD0.self (sz := s.heap.size)
  generalize hAe : va_A [(h0, .inr (13, mX13 q0 v0))] s.heap.size = A at hD hZ ⊢
  have hA : ∀ q : Nat, s.heap.size ≤ q → A q := fun q h => by rw [← hAe]; exact Or.inr h
  have hS : va_S A s.heap s.heap [] := va_S.rf
  have hl := lv_entry ([.ref h0, .int x1, .int x2]) (n := 3) (Nat.le_of_ble_eq_true rfl)
  rw [lg_entry_eq]
  generalize (lg_sl ([.ref h0, .int x1, .int x2]) ++ List.replicate (3 - (lg_sl ([.ref h0, .int x1, .int x2])).length) Slot.unset).toArray = ls at hl ⊢
  have hl : lv_has ls 3 [(0, .ref h0), (1, .int x1), (2, .int x2)] := hl
  refine lv_aload_n hx hb dX13_wrong_0 rfl (lv_at hl 0 rfl) ?_
  refine lv_iload_n hx hb dX13_wrong_1 rfl (lv_at hl 1 rfl) ?_
  refine va_put (D := (dC, dI)) (ci := 13) (v := .int x1) (ty := .int) (C := RX13) (T := TX13) (N := 75) hx hb hG zuX13 tyX13 tyX13_ok nmX13 hown hK hP hD hS 0 rfl rfl 32 (by decide) (hG _ zv1636) (fun _ h9 => h9) rfl (by decide +kernel) rfl rfl (Nat.le_of_ble_eq_true rfl) dX13_wrong_2 (fun H locs hP hD hS => ?_)
  have hP : va_P (dC, dI) vwCl [(h0, .inr (13, mX13 q0 (upd v0 32 x1)))] H := hP
  have hD : va_D A [(h0, .inr (13, mX13 q0 (upd v0 32 x1)))] := hD
  refine lv_aload_n hx hb dX13_wrong_5 rfl (lv_at hl 0 rfl) ?_
  refine lv_iload_n hx hb dX13_wrong_6 rfl (lv_at hl 2 rfl) ?_
  refine va_put (D := (dC, dI)) (ci := 13) (v := .int x2) (ty := .int) (C := RX13) (T := TX13) (N := 75) hx hb hG zuX13 tyX13 tyX13_ok nmX13 hown hK hP hD hS 0 rfl rfl 33 (by decide) (hG _ zv1637) (fun _ h9 => h9) rfl (by decide +kernel) rfl rfl (Nat.le_of_ble_eq_true rfl) dX13_wrong_7 (fun H locs hP hD hS => ?_)
  have hP : va_P (dC, dI) vwCl [(h0, .inr (13, mX13 q0 (upd (upd v0 32 x1) 33 x2)))] H := hP
  have hD : va_D A [(h0, .inr (13, mX13 q0 (upd (upd v0 32 x1) 33 x2)))] := hD
  refine lv_aload_n hx hb dX13_wrong_10 rfl (lv_at hl 0 rfl) ?_
  refine va_get (D := (dC, dI)) (ci := 13) (v := .ref (q0 31)) (C := RX13) (T := TX13) (N := 75) hx hb hG zuX13 hown hK hP 0 rfl rfl 31 (by decide) (hG _ zv1635) (fun _ h9 => h9) rfl dX13_wrong_11 ?_
  refine W.widen (k := 0) (n := 0) (by decide) (by decide) ?_
  have b_ : -2147483648 ≤ x1.toInt ∧ x1.toInt ≤ 2147483647 := ⟨zlo _, zhi _⟩
  have b_ : -2147483648 ≤ x2.toInt ∧ x2.toInt ≤ 2147483647 := ⟨zlo _, zhi _⟩
  have hpost : True := trivial
  have hP9 : va_P (dC, dI) vwCl [(h0, .inr (13, mX13 q0 (upd (upd v0 32 x1) 33 x2)))] H := hP
  have hD9 : va_D A [(h0, .inr (13, mX13 q0 (upd (upd v0 32 x1) 33 x2)))] := hD
  exact W.aret (v := .ref (q0 31)) hx hb hr (Or.inl ⟨_, rfl⟩) (Or.inr ⟨_, rfl⟩) (fun t ht hW => ⟨⟨(fun i => ([x1, x2] : List (Int32)).getD i 0), (q0 31), rfl, hpost, rfl, (fun _ => 0), (fun _ => (fun _ => 0)), (fun _ => (fun _ => 0)), by rw [ht]; exact hP9, va_K.moved hW.alike hK, hD9⟩, hS.F ht⟩) hS.2.2 dX13_wrong_14
set_option maxHeartbeats 8000000 in
set_option maxRecDepth 100000 in
theorem sX13_leaf_0 (l : Launch) (dC : Nat → ClassId) (dI : Nat → Nat → Nat) (adK adV : Nat → Nat) (h0 : Nat) (q0 : Nat → Nat) (k27 : ClassId) (sz : Nat) (v0 : Nat → Int32) (f27 : Nat → Int32) (sf22 : List Value) (x1 : Int32) (hv0 : zR rg_Model v0) : vx_Met l yX13_leaf (zw yX13_leaf cX13_leaf 2 (some .int)) { frames := 1, cells := 0, slots := 0, locals := 22 } (zPc dC dI adK adV [.ref h0, .int x1] sz [(h0, .inr (13, mX13 q0 v0)), ((q0 43), zi k27 40 f27), ((q0 31), .inr (12, sf22))] [(k27, .int)]) (va_Qi (fun (r : Int32) (u : Nat → Int32) => (0 ≤ r.toInt ∧ r.toInt ≤ 39) ∧ (1 ≤ (u 2).toInt ∧ (u 2).toInt ≤ 40) ∧ (r.toInt = (v0 47).toInt) ∧ ((u 2).toInt = (v0 47).toInt + 1) ∧ ((v0 47).toInt < 40)) (fun (u : Nat → Int32) (t : State) => ∃ (ww : Nat → Int64) (aa : Nat → Nat → Int32) (bb : Nat → Nat → Int64), ((aa 0) = upd f27 ((v0 47)).toNatClampNeg (x1 : Int32)) ∧ va_P (dC, dI) vwCl [(h0, .inr (13, mX13 q0 (upd (upd (upd v0 32 (u 0)) 33 (u 1)) 47 (u 2)))), ((q0 43), zi k27 40 (aa 0)), ((q0 31), .inr (12, sf22))] t.heap ∧ va_K (dC, dI) vwCl [(k27, .int)] t ∧ va_D (va_A [(h0, .inr (13, mX13 q0 v0)), ((q0 43), zi k27 40 f27), ((q0 31), .inr (12, sf22))] sz) [(h0, .inr (13, mX13 q0 (upd (upd (upd v0 32 (u 0)) 33 (u 1)) 47 (u 2)))), ((q0 43), zi k27 40 (aa 0)), ((q0 31), .inr (12, sf22))]) (va_A [(h0, .inr (13, mX13 q0 v0)), ((q0 43), zi k27 40 f27), ((q0 31), .inr (12, sf22))] sz)) (vx_X (fun (u : Nat → Int32) => (40 ≤ (u 2).toInt ∧ (u 2).toInt ≤ 40) ∧ (40 ≤ (v0 47).toInt)) (fun (E : String) (u : Nat → Int32) (t : State) => E = RX12 ∧ ∃ (ww : Nat → Int64) (aa : Nat → Nat → Int32) (bb : Nat → Nat → Int64), va_P (dC, dI) vwCl [(h0, .inr (13, mX13 q0 (upd (upd (upd v0 32 (u 0)) 33 (u 1)) 47 (u 2)))), ((q0 43), zi k27 40 (aa 0)), ((q0 31), .inr (12, sf22))] t.heap ∧ va_K (dC, dI) vwCl [(k27, .int)] t ∧ va_D (va_A [(h0, .inr (13, mX13 q0 v0)), ((q0 43), zi k27 40 f27), ((q0 31), .inr (12, sf22))] sz) [(h0, .inr (13, mX13 q0 (upd (upd (upd v0 32 (u 0)) 33 (u 1)) 47 (u 2)))), ((q0 43), zi k27 40 (aa 0)), ((q0 31), .inr (12, sf22))]) (va_A [(h0, .inr (13, mX13 q0 v0)), ((q0 43), zi k27 40 f27), ((q0 31), .inr (12, sf22))] sz)) 0 0 (va_A [(h0, .inr (13, mX13 q0 v0)), ((q0 43), zi k27 40 f27), ((q0 31), .inr (12, sf22))] sz) := by
  refine vx_ofW (cc := cX13_leaf) (maxL := 2) (ret := (some .int)) (by decide) rfl ?_
  intro p e s m args below meth c s₁ B hml hout hv
  obtain ⟨rfl, hsz, hP, hK, hD0, hE, hZ⟩ := hv
  have hx := B.exec
  have hb := B.bytes
  have hr := B.returns
  have hG : ∀ w ∈ zG, w.before _ s = true := fun w h => atoms_spec (ws := (zw yX13_leaf cX13_leaf 2 (some .int))) B.pre w (List.mem_cons_of_mem _ h)
  have hown : s.vm.findClass RX13 = some m.cls := findClass_of_methodNamed B.named
  have hlocks := B.notSynchronized

  subst hsz
  have hD := hD0.self (sz := s.heap.size)
  generalize hAe : va_A [(h0, .inr (13, mX13 q0 v0)), ((q0 43), zi k27 40 f27), ((q0 31), .inr (12, sf22))] s.heap.size = A at hD hZ ⊢
  have hA : ∀ q : Nat, s.heap.size ≤ q → A q := fun q h => by rw [← hAe]; exact Or.inr h
  have hS : va_S A s.heap s.heap [] := va_S.rf
  have hl := lv_entry ([.ref h0, .int x1]) (n := 2) (Nat.le_of_ble_eq_true rfl)
  rw [lg_entry_eq]
  generalize (lg_sl ([.ref h0, .int x1]) ++ List.replicate (2 - (lg_sl ([.ref h0, .int x1])).length) Slot.unset).toArray = ls at hl ⊢
  have hl : lv_has ls 2 [(0, .ref h0), (1, .int x1)] := hl
  have b_ : 0 ≤ (v0 47).toInt ∧ (v0 47).toInt ≤ 40 := hv0 47
  refine lv_aload_n hx hb dX13_leaf_0 rfl (lv_at hl 0 rfl) ?_
  refine va_get (D := (dC, dI)) (ci := 13) (v := .int (v0 47)) (C := RX13) (T := TX13) (N := 75) hx hb hG zuX13 hown hK hP 0 rfl rfl 47 (by decide) (hG _ zv1651) (fun _ h9 => h9) rfl dX13_leaf_1 ?_
  refine lv_bipush (v := 40) hx hb dX13_leaf_4 (by decide) ?_
  refine lv_icmp_ne (tgt := 19) hx hb dX13_leaf_6 (by decide) (fun c_ => ?_) (fun c_ => ?_)
  · skip
    have b_ := zT_ne rfl zk_40 c_
    refine lv_aload_n hx hb dX13_leaf_19 rfl (lv_at hl 0 rfl) ?_
    refine va_get (D := (dC, dI)) (ci := 13) (v := .ref (q0 43)) (C := RX13) (T := TX13) (N := 75) hx hb hG zuX13 hown hK hP 0 rfl rfl 43 (by decide) (hG _ zv1647) (fun _ h9 => h9) rfl dX13_leaf_20 ?_
    refine lv_aload_n hx hb dX13_leaf_23 rfl (lv_at hl 0 rfl) ?_
    refine va_get (D := (dC, dI)) (ci := 13) (v := .int (v0 47)) (C := RX13) (T := TX13) (N := 75) hx hb hG zuX13 hown hK hP 0 rfl rfl 47 (by decide) (hG _ zv1651) (fun _ h9 => h9) rfl dX13_leaf_24 ?_
    refine lv_iload_n hx hb dX13_leaf_27 rfl (lv_at hl 1 rfl) ?_
    refine va_iast hx hb hK hP hD hS 1 0 rfl rfl (zin_lit ⟨by omega, by omega⟩) dX13_leaf_28 (fun H locs hP hD hS => ?_)
    obtain ⟨f_28, e_f_28⟩ : ∃ z : Nat → Int32, z = upd f27 ((v0 47) : Int32).toNatClampNeg x1 := ⟨_, rfl⟩
    have hP : va_P (dC, dI) vwCl [(h0, .inr (13, mX13 q0 v0)), ((q0 43), zi k27 40 f_28), ((q0 31), .inr (12, sf22))] H := by rw [e_f_28]; exact hP
    have hD : va_D A [(h0, .inr (13, mX13 q0 v0)), ((q0 43), zi k27 40 f_28), ((q0 31), .inr (12, sf22))] := by rw [e_f_28]; exact hD
    refine lv_aload_n hx hb dX13_leaf_29 rfl (lv_at hl 0 rfl) ?_
    refine lv_dup hx hb dX13_leaf_30 rfl ?_
    refine va_get (D := (dC, dI)) (ci := 13) (v := .int (v0 47)) (C := RX13) (T := TX13) (N := 75) hx hb hG zuX13 hown hK hP 0 rfl rfl 47 (by decide) (hG _ zv1651) (fun _ h9 => h9) rfl dX13_leaf_31 ?_
    refine lv_iconst (v := 1) hx hb dX13_leaf_34 (by decide) ?_
    refine lv_iadd hx hb dX13_leaf_35 ?_
    refine lv_topi (fun z35 e_z35 => ?_)
    have b_ := zadd rfl zk_1 e_z35 (by omega) (by omega)
    refine va_put (D := (dC, dI)) (ci := 13) (v := .int z35) (ty := .int) (C := RX13) (T := TX13) (N := 75) hx hb hG zuX13 tyX13 tyX13_ok nmX13 hown hK hP hD hS 0 rfl rfl 47 (by decide) (hG _ zv1651) (fun _ h9 => h9) rfl (by decide +kernel) rfl rfl (Nat.le_of_ble_eq_true rfl) dX13_leaf_36 (fun H locs hP hD hS => ?_)
    have hP : va_P (dC, dI) vwCl [(h0, .inr (13, mX13 q0 (upd v0 47 z35))), ((q0 43), zi k27 40 f_28), ((q0 31), .inr (12, sf22))] H := hP
    have hD : va_D A [(h0, .inr (13, mX13 q0 (upd v0 47 z35))), ((q0 43), zi k27 40 f_28), ((q0 31), .inr (12, sf22))] := hD
    refine lv_aload_n hx hb dX13_leaf_39 rfl (lv_at hl 0 rfl) ?_
    refine va_get (D := (dC, dI)) (ci := 13) (v := .int z35) (C := RX13) (T := TX13) (N := 75) hx hb hG zuX13 hown hK hP 0 rfl rfl 47 (by decide) (hG _ zv1651) (fun _ h9 => h9) rfl dX13_leaf_40 ?_
    refine lv_iconst (v := 1) hx hb dX13_leaf_43 (by decide) ?_
    refine lv_isub hx hb dX13_leaf_44 ?_
    refine lv_topi (fun z44 e_z44 => ?_)
    have b_ := zsub rfl zk_1 e_z44 (by omega) (by omega)
    refine W.widen (k := 0) (n := 0) (by decide) (by decide) ?_
    have b_ : -2147483648 ≤ (v0 32).toInt ∧ (v0 32).toInt ≤ 2147483647 := ⟨zlo _, zhi _⟩
    have b_ : -2147483648 ≤ (v0 33).toInt ∧ (v0 33).toInt ≤ 2147483647 := ⟨zlo _, zhi _⟩
    have hpost : (0 ≤ z44.toInt ∧ z44.toInt ≤ 39) ∧ (1 ≤ z35.toInt ∧ z35.toInt ≤ 40) ∧ (z44.toInt = (v0 47).toInt) ∧ (z35.toInt = (v0 47).toInt + 1) ∧ ((v0 47).toInt < 40) := ⟨(by first | with_reducible assumption | exact ⟨by omega, by omega⟩), (by first | with_reducible assumption | exact ⟨by omega, by omega⟩), by omega, by omega, by omega⟩
    have hP9 : va_P (dC, dI) vwCl [(h0, .inr (13, mX13 q0 (upd (upd (upd v0 32 (v0 32)) 33 (v0 33)) 47 z35))), ((q0 43), zi k27 40 f_28), ((q0 31), .inr (12, sf22))] H := hP
    have hD9 : va_D A [(h0, .inr (13, mX13 q0 (upd (upd (upd v0 32 (v0 32)) 33 (v0 33)) 47 z35))), ((q0 43), zi k27 40 f_28), ((q0 31), .inr (12, sf22))] := hD
    have hB0 : f_28 = upd f27 ((v0 47)).toNatClampNeg (x1 : Int32) := by first | exact e_f_28 | assumption
    exact vx_ret (W.iret (v := z44) hx hb hr (fun t ht hW => ⟨⟨z44, (fun i => ([(v0 32), (v0 33), z35] : List (Int32)).getD i 0), rfl, hpost, (fun _ => 0), (fun i => ([f_28] : List (Nat → Int32)).getD i (fun _ => 0)), (fun _ => (fun _ => 0)), hB0, by rw [ht]; exact hP9, va_K.moved hW.alike hK, hD9⟩, hS.F ht⟩) hS.2.2 dX13_leaf_45)
  · skip
    have b_ := zF_ne rfl zk_40 c_
    refine lv_aload_n hx hb dX13_leaf_9 rfl (lv_at hl 0 rfl) ?_
    refine lv_iconst (v := 3) hx hb dX13_leaf_10 (by decide) ?_
    refine lv_aload_n hx hb dX13_leaf_11 rfl (lv_at hl 0 rfl) ?_
    have b_ : 0 ≤ (v0 37).toInt ∧ (v0 37).toInt ≤ 600 := hv0 37
    refine va_get (D := (dC, dI)) (ci := 13) (v := .int (v0 37)) (C := RX13) (T := TX13) (N := 75) hx hb hG zuX13 hown hK hP 0 rfl rfl 37 (by decide) (hG _ zv1641) (fun _ h9 => h9) rfl dX13_leaf_12 ?_
    have hPc := hP.sub (ws' := [(h0, .inr (13, mX13 q0 v0))]) [0] rfl
    have hDc := hD.sub (ws' := [(h0, .inr (13, mX13 q0 v0))]) [0] (by decide) rfl
    have hKc := hK.sub (tys' := []) [] rfl
    have hFc := va_free (wc := [(h0, .inr (13, mX13 q0 v0))]) hD hS hA [0] rfl
    refine va_callr (va_runV (As := [.int 3, .int (v0 37)]) (rest := []) ⟨hx, hb, hml, hown, hG⟩ (sX13_wrong_0 l dC dI adK adV h0 q0 s.heap.size v0 3 (v0 37) hv0) (cwV 2 hG (zgV zv2074 zv2076 zv89 zv142 zv2077) rfl rfl rfl (by decide +kernel) ⟨Nat.le_of_ble_eq_true rfl, Nat.le_of_ble_eq_true rfl⟩) ⟨zPc_blind, va_recv hKc hPc (ci := 13) (q0 := 0) rfl rfl, zPc_pre hPc hKc hDc hE hS hFc hZ⟩ rfl rfl hl.1 rfl (lv_room (Nat.le_of_ble_eq_true rfl)) dX13_leaf_15 ⟨Nat.le_of_ble_eq_true rfl, Nat.le_of_ble_eq_true rfl⟩) hS (fun q _ h => hFc q h) hFc (fun u15_ r15_ t H1 locs ht hvm hw hB hz1 hk1 hS => ?_)
    obtain ⟨hra, hB⟩ := hB
    subst hra
    obtain ⟨w15_, a15_, b15_, hP1, hK1, hD1⟩ := hB
    rw [ht] at hP1
    obtain ⟨hP, hD⟩ := va_join (wr := [((q0 43), zi k27 40 f27), ((q0 31), .inr (12, sf22))]) (w1 := [(h0, .inr (13, mX13 q0 (upd (upd v0 32 (u15_ 0)) 33 (u15_ 1))))]) hP hD [0] [1, 2] rfl rfl (by decide) (by decide) hk1 hFc hP1 hD1
    have hP : va_P (dC, dI) vwCl [(h0, .inr (13, mX13 q0 (upd (upd v0 32 (u15_ 0)) 33 (u15_ 1)))), ((q0 43), zi k27 40 f27), ((q0 31), .inr (12, sf22))] H1 := hP.sub [2, 0, 1] rfl
    have hD : va_D A [(h0, .inr (13, mX13 q0 (upd (upd v0 32 (u15_ 0)) 33 (u15_ 1)))), ((q0 43), zi k27 40 f27), ((q0 31), .inr (12, sf22))] := hD.sub [2, 0, 1] (by decide) rfl
    generalize H1 = H at hP hS ⊢
    clear hz1
    have b_ : -2147483648 ≤ (u15_ 0).toInt ∧ (u15_ 0).toInt ≤ 2147483647 := ⟨zlo _, zhi _⟩
    have b_ : -2147483648 ≤ (u15_ 1).toInt ∧ (u15_ 1).toInt ≤ 2147483647 := ⟨zlo _, zhi _⟩
    have hpost : (40 ≤ (v0 47).toInt ∧ (v0 47).toInt ≤ 40) ∧ (40 ≤ (v0 47).toInt) := ⟨(by first | with_reducible assumption | exact ⟨by omega, by omega⟩), by omega⟩
    have hP9 : va_P (dC, dI) vwCl [(h0, .inr (13, mX13 q0 (upd (upd (upd v0 32 (u15_ 0)) 33 (u15_ 1)) 47 (v0 47)))), ((q0 43), zi k27 40 f27), ((q0 31), .inr (12, sf22))] H := hP
    have hD9 : va_D A [(h0, .inr (13, mX13 q0 (upd (upd (upd v0 32 (u15_ 0)) 33 (u15_ 1)) 47 (v0 47)))), ((q0 43), zi k27 40 f27), ((q0 31), .inr (12, sf22))] := hD
    obtain ⟨ce, hce, hcv, hcl⟩ := zthrown hK hP (ci := 12) (q0 := 2) rfl rfl
    exact z_athrow (E := RX12) hx hb (fun x h => (hout x h).elim) hlocks hce hcv hcl dX13_leaf_18 (fun t ht hvm => ⟨(fun i => ([(u15_ 0), (u15_ 1), (v0 47)] : List (Int32)).getD i 0), hpost, ⟨rfl, (fun _ => 0), (fun i => ([f27] : List (Nat → Int32)).getD i (fun _ => 0)), (fun _ => (fun _ => 0)), by rw [ht]; exact hP9, va_K.moved hvm hK, hD9⟩, hS.F ht⟩) hS.2.2 (by decide) (by decide)
set_option maxHeartbeats 8000000 in
set_option maxRecDepth 100000 in
theorem sX13_byteAt_0 (l : Launch) (dC : Nat → ClassId) (dI : Nat → Nat → Nat) (adK adV : Nat → Nat) (h0 : Nat) (q0 : Nat → Nat) (k1 : ClassId) (sz : Nat) (v0 : Nat → Int32) (f1 : Nat → Int32) (x1 : Int32) (hv0 : zR rg_Model v0) (hx1 : 0 ≤ x1.toInt ∧ x1.toInt ≤ 602) : Met l yX13_byteAt (zw yX13_byteAt cX13_byteAt 2 (some .int)) { frames := 0, cells := 0, slots := 0, locals := 0 } (zPc dC dI adK adV [.ref h0, .int x1] sz [(h0, .inr (13, mX13 q0 v0)), ((q0 0), zi k1 600 f1)] [(k1, .byte)]) (va_Qi (fun (r : Int32) (u : Nat → Int32) => (r.toInt ≠ 0 → x1.toInt < (v0 34).toInt) ∧ (x1.toInt < (v0 34).toInt → r.toInt = (f1 ((x1 : Int32)).toNatClampNeg).toInt) ∧ ((v0 34).toInt ≤ x1.toInt → r.toInt = 0)) (fun (u : Nat → Int32) (t : State) => ∃ (ww : Nat → Int64) (aa : Nat → Nat → Int32) (bb : Nat → Nat → Int64), va_P (dC, dI) vwCl [(h0, .inr (13, mX13 q0 v0)), ((q0 0), zi k1 600 f1)] t.heap ∧ va_K (dC, dI) vwCl [(k1, .byte)] t ∧ va_D (va_A [(h0, .inr (13, mX13 q0 v0)), ((q0 0), zi k1 600 f1)] sz) [(h0, .inr (13, mX13 q0 v0)), ((q0 0), zi k1 600 f1)]) (va_A [(h0, .inr (13, mX13 q0 v0)), ((q0 0), zi k1 600 f1)] sz)) 0 0 (va_A [(h0, .inr (13, mX13 q0 v0)), ((q0 0), zi k1 600 f1)] sz) := by
  refine Met.ofW (cc := cX13_byteAt) (maxL := 2) (ret := (some .int)) (by decide) rfl ?_
  intro p e s m args below meth c s₁ B hml hv
  obtain ⟨rfl, hsz, hP, hK, hD0, hE, hZ⟩ := hv
  have hx := B.exec
  have hb := B.bytes
  have hr := B.returns
  have hG : ∀ w ∈ zG, w.before _ s = true := fun w h => atoms_spec (ws := (zw yX13_byteAt cX13_byteAt 2 (some .int))) B.pre w (List.mem_cons_of_mem _ h)
  have hown : s.vm.findClass RX13 = some m.cls := findClass_of_methodNamed B.named
  have hlocks := B.notSynchronized

  subst hsz
  have hD := hD0.self (sz := s.heap.size)
  generalize hAe : va_A [(h0, .inr (13, mX13 q0 v0)), ((q0 0), zi k1 600 f1)] s.heap.size = A at hD hZ ⊢
  have hA : ∀ q : Nat, s.heap.size ≤ q → A q := fun q h => by rw [← hAe]; exact Or.inr h
  have hS : va_S A s.heap s.heap [] := va_S.rf
  have hl := lv_entry ([.ref h0, .int x1]) (n := 2) (Nat.le_of_ble_eq_true rfl)
  rw [lg_entry_eq]
  generalize (lg_sl ([.ref h0, .int x1]) ++ List.replicate (2 - (lg_sl ([.ref h0, .int x1])).length) Slot.unset).toArray = ls at hl ⊢
  have hl : lv_has ls 2 [(0, .ref h0), (1, .int x1)] := hl
  have b_ := zk_0
  have b_ : 0 ≤ (v0 34).toInt ∧ (v0 34).toInt ≤ 600 := hv0 34
  refine lv_iload_n hx hb dX13_byteAt_0 rfl (lv_at hl 1 rfl) ?_
  refine lv_aload_n hx hb dX13_byteAt_1 rfl (lv_at hl 0 rfl) ?_
  refine va_get (D := (dC, dI)) (ci := 13) (v := .int (v0 34)) (C := RX13) (T := TX13) (N := 75) hx hb hG zuX13 hown hK hP 0 rfl rfl 34 (by decide) (hG _ zv1638) (fun _ h9 => h9) rfl dX13_byteAt_2 ?_
  refine lv_icmp_ge (tgt := 17) hx hb dX13_byteAt_5 (by decide) (fun c_ => ?_) (fun c_ => ?_)
  · skip
    have b_ := zT_ge rfl rfl c_
    refine lv_iconst (v := 0) hx hb dX13_byteAt_17 (by decide) ?_
    refine W.widen (k := 0) (n := 0) (by decide) (by decide) ?_
    have hpost : ((0 : Int32).toInt ≠ 0 → x1.toInt < (v0 34).toInt) ∧ (x1.toInt < (v0 34).toInt → (0 : Int32).toInt = (f1 ((x1 : Int32)).toNatClampNeg).toInt) ∧ ((v0 34).toInt ≤ x1.toInt → (0 : Int32).toInt = 0) := ⟨by omega, by first | (intro _; omega) | (intro _; rw [e_z13]), by omega⟩
    have hP9 : va_P (dC, dI) vwCl [(h0, .inr (13, mX13 q0 v0)), ((q0 0), zi k1 600 f1)] s.heap := hP
    have hD9 : va_D A [(h0, .inr (13, mX13 q0 v0)), ((q0 0), zi k1 600 f1)] := hD
    exact W.iret (v := 0) hx hb hr (fun t ht hW => ⟨⟨0, (fun _ => 0), rfl, hpost, (fun _ => 0), (fun _ => (fun _ => 0)), (fun _ => (fun _ => 0)), by rw [ht]; exact hP9, va_K.moved hW.alike hK, hD9⟩, hS.F ht⟩) hS.2.2 dX13_byteAt_18
  · skip
    have b_ := zF_ge rfl rfl c_
    refine lv_aload_n hx hb dX13_byteAt_8 rfl (lv_at hl 0 rfl) ?_
    refine va_get (D := (dC, dI)) (ci := 13) (v := .ref (q0 0)) (C := RX13) (T := TX13) (N := 75) hx hb hG zuX13 hown hK hP 0 rfl rfl 0 (by decide) (hG _ zv1604) (fun _ h9 => h9) rfl dX13_byteAt_9 ?_
    refine lv_iload_n hx hb dX13_byteAt_12 rfl (lv_at hl 1 rfl) ?_
    refine va_bald hx hb hK hP 1 0 rfl rfl (zin_lit ⟨by omega, by omega⟩) dX13_byteAt_13 ?_
    refine lv_topi (fun z13 e_z13 => ?_)
    refine lv_goto (tgt := 18) hx hb dX13_byteAt_14 (by decide) ?_
    refine W.widen (k := 0) (n := 0) (by decide) (by decide) ?_
    have b_ : -2147483648 ≤ z13.toInt ∧ z13.toInt ≤ 2147483647 := ⟨zlo _, zhi _⟩
    have hpost : (z13.toInt ≠ 0 → x1.toInt < (v0 34).toInt) ∧ (x1.toInt < (v0 34).toInt → z13.toInt = (f1 ((x1 : Int32)).toNatClampNeg).toInt) ∧ ((v0 34).toInt ≤ x1.toInt → z13.toInt = 0) := ⟨by omega, by first | (intro _; omega) | (intro _; rw [e_z13]), by omega⟩
    have hP9 : va_P (dC, dI) vwCl [(h0, .inr (13, mX13 q0 v0)), ((q0 0), zi k1 600 f1)] s.heap := hP
    have hD9 : va_D A [(h0, .inr (13, mX13 q0 v0)), ((q0 0), zi k1 600 f1)] := hD
    exact W.iret (v := z13) hx hb hr (fun t ht hW => ⟨⟨z13, (fun _ => 0), rfl, hpost, (fun _ => 0), (fun _ => (fun _ => 0)), (fun _ => (fun _ => 0)), by rw [ht]; exact hP9, va_K.moved hW.alike hK, hD9⟩, hS.F ht⟩) hS.2.2 dX13_byteAt_18
set_option maxHeartbeats 8000000 in
set_option maxRecDepth 100000 in
theorem sX13_isBlank_0 (l : Launch) (dC : Nat → ClassId) (dI : Nat → Nat → Nat) (adK adV : Nat → Nat) (h0 : Nat) (sz : Nat) (x1 : Int32) : Met l yX13_isBlank (zw yX13_isBlank cX13_isBlank 2 (some .boolean)) { frames := 0, cells := 0, slots := 0, locals := 0 } (zPc dC dI adK adV [.ref h0, .int x1] sz [] []) (va_Qi (fun (r : Int32) (u : Nat → Int32) => (0 ≤ r.toInt ∧ r.toInt ≤ 1) ∧ (r.toInt = 1 → zqBk x1.toInt) ∧ (r.toInt = 0 → ¬ zqBk x1.toInt)) (fun (u : Nat → Int32) (t : State) => ∃ (ww : Nat → Int64) (aa : Nat → Nat → Int32) (bb : Nat → Nat → Int64), va_P (dC, dI) vwCl [] t.heap ∧ va_K (dC, dI) vwCl [] t ∧ va_D (va_A [] sz) []) (va_A [] sz)) 0 0 (va_A [] sz) := by
  refine Met.ofW (cc := cX13_isBlank) (maxL := 2) (ret := (some .boolean)) (by decide) rfl ?_
  intro p e s m args below meth c s₁ B hml hv
  obtain ⟨rfl, hsz, hP, hK, hD0, hE, hZ⟩ := hv
  have hx := B.exec
  have hb := B.bytes
  have hr := B.returns
  have hG : ∀ w ∈ zG, w.before _ s = true := fun w h => atoms_spec (ws := (zw yX13_isBlank cX13_isBlank 2 (some .boolean))) B.pre w (List.mem_cons_of_mem _ h)
  have hown : s.vm.findClass RX13 = some m.cls := findClass_of_methodNamed B.named
  have hlocks := B.notSynchronized

  subst hsz
  have hD := hD0.self (sz := s.heap.size)
  generalize hAe : va_A [] s.heap.size = A at hD hZ ⊢
  have hA : ∀ q : Nat, s.heap.size ≤ q → A q := fun q h => by rw [← hAe]; exact Or.inr h
  have hS : va_S A s.heap s.heap [] := va_S.rf
  have hl := lv_entry ([.ref h0, .int x1]) (n := 2) (Nat.le_of_ble_eq_true rfl)
  rw [lg_entry_eq]
  generalize (lg_sl ([.ref h0, .int x1]) ++ List.replicate (2 - (lg_sl ([.ref h0, .int x1])).length) Slot.unset).toArray = ls at hl ⊢
  have hl : lv_has ls 2 [(0, .ref h0), (1, .int x1)] := hl
  have b_ := zk_0
  have b_ := zk_1
  refine lv_iload_n hx hb dX13_isBlank_0 rfl (lv_at hl 1 rfl) ?_
  refine lv_bipush (v := 32) hx hb dX13_isBlank_1 (by decide) ?_
  have b_ : -2147483648 ≤ x1.toInt ∧ x1.toInt ≤ 2147483647 := ⟨zlo _, zhi _⟩
  refine lv_icmp_eq (tgt := 12) hx hb dX13_isBlank_3 (by decide) (fun c_ => ?_) (fun c_ => ?_)
  · skip
    have b_ := zT_eq rfl zk_32 c_
    refine lv_iconst (v := 1) hx hb dX13_isBlank_12 (by decide) ?_
    refine lv_goto (tgt := 17) hx hb dX13_isBlank_13 (by decide) ?_
    refine W.widen (k := 0) (n := 0) (by decide) (by decide) ?_
    have hpost : (0 ≤ (1 : Int32).toInt ∧ (1 : Int32).toInt ≤ 1) ∧ ((1 : Int32).toInt = 1 → zqBk x1.toInt) ∧ ((1 : Int32).toInt = 0 → ¬ zqBk x1.toInt) := ⟨(by first | with_reducible assumption | exact ⟨by omega, by omega⟩), by first | (intro q; exact absurd q (by decide)) | (intro _; unfold zqBk; omega), by first | (intro q; exact absurd q (by decide)) | (intro _; unfold zqBk; omega)⟩
    have hP9 : va_P (dC, dI) vwCl [] s.heap := hP
    have hD9 : va_D A [] := hD
    exact W.zret (v := 1) hx hb hr rfl (fun t ht hW => ⟨⟨1, (fun _ => 0), rfl, hpost, (fun _ => 0), (fun _ => (fun _ => 0)), (fun _ => (fun _ => 0)), by rw [ht]; exact hP9, va_K.moved hW.alike hK, hD9⟩, hS.F ht⟩) hS.2.2 dX13_isBlank_17
  · skip
    have b_ := zF_eq rfl zk_32 c_
    refine lv_iload_n hx hb dX13_isBlank_6 rfl (lv_at hl 1 rfl) ?_
    refine lv_bipush (v := 10) hx hb dX13_isBlank_7 (by decide) ?_
    refine lv_icmp_ne (tgt := 16) hx hb dX13_isBlank_9 (by decide) (fun c_ => ?_) (fun c_ => ?_)
    · skip
      have b_ := zT_ne rfl zk_10 c_
      refine lv_iconst (v := 0) hx hb dX13_isBlank_16 (by decide) ?_
      refine W.widen (k := 0) (n := 0) (by decide) (by decide) ?_
      have hpost : (0 ≤ (0 : Int32).toInt ∧ (0 : Int32).toInt ≤ 1) ∧ ((0 : Int32).toInt = 1 → zqBk x1.toInt) ∧ ((0 : Int32).toInt = 0 → ¬ zqBk x1.toInt) := ⟨(by first | with_reducible assumption | exact ⟨by omega, by omega⟩), by first | (intro q; exact absurd q (by decide)) | (intro _; unfold zqBk; omega), by first | (intro q; exact absurd q (by decide)) | (intro _; unfold zqBk; omega)⟩
      have hP9 : va_P (dC, dI) vwCl [] s.heap := hP
      have hD9 : va_D A [] := hD
      exact W.zret (v := 0) hx hb hr rfl (fun t ht hW => ⟨⟨0, (fun _ => 0), rfl, hpost, (fun _ => 0), (fun _ => (fun _ => 0)), (fun _ => (fun _ => 0)), by rw [ht]; exact hP9, va_K.moved hW.alike hK, hD9⟩, hS.F ht⟩) hS.2.2 dX13_isBlank_17
    · skip
      have b_ := zF_ne rfl zk_10 c_
      refine lv_iconst (v := 1) hx hb dX13_isBlank_12 (by decide) ?_
      refine lv_goto (tgt := 17) hx hb dX13_isBlank_13 (by decide) ?_
      refine W.widen (k := 0) (n := 0) (by decide) (by decide) ?_
      have hpost : (0 ≤ (1 : Int32).toInt ∧ (1 : Int32).toInt ≤ 1) ∧ ((1 : Int32).toInt = 1 → zqBk x1.toInt) ∧ ((1 : Int32).toInt = 0 → ¬ zqBk x1.toInt) := ⟨(by first | with_reducible assumption | exact ⟨by omega, by omega⟩), by first | (intro q; exact absurd q (by decide)) | (intro _; unfold zqBk; omega), by first | (intro q; exact absurd q (by decide)) | (intro _; unfold zqBk; omega)⟩
      have hP9 : va_P (dC, dI) vwCl [] s.heap := hP
      have hD9 : va_D A [] := hD
      exact W.zret (v := 1) hx hb hr rfl (fun t ht hW => ⟨⟨1, (fun _ => 0), rfl, hpost, (fun _ => 0), (fun _ => (fun _ => 0)), (fun _ => (fun _ => 0)), by rw [ht]; exact hP9, va_K.moved hW.alike hK, hD9⟩, hS.F ht⟩) hS.2.2 dX13_isBlank_17
set_option maxHeartbeats 8000000 in
set_option maxRecDepth 100000 in
theorem sX13_look1_0 (l : Launch) (dC : Nat → ClassId) (dI : Nat → Nat → Nat) (adK adV : Nat → Nat) (h0 : Nat) (q0 : Nat → Nat) (k1 : ClassId) (sz : Nat) (v0 : Nat → Int32) (f1 : Nat → Int32) (hv0 : zR rg_Model v0) (hp0_ : (v0 35).toInt ≤ (v0 34).toInt) : Met l yX13_look1 (zw yX13_look1 cX13_look1 1 none) { frames := 3, cells := 0, slots := 0, locals := 63 } (zPc dC dI adK adV [.ref h0] sz [(h0, .inr (13, mX13 q0 v0)), ((q0 0), zi k1 600 f1)] [(k1, .byte)]) (va_Qv (fun (u : Nat → Int32) => (0 ≤ (u 0).toInt ∧ (u 0).toInt ≤ 600) ∧ (0 ≤ (u 1).toInt ∧ (u 1).toInt ≤ 3) ∧ (0 ≤ (u 2).toInt ∧ (u 2).toInt ≤ 600) ∧ ((u 0).toInt ≤ (v0 34).toInt) ∧ ((v0 35).toInt ≤ (u 2).toInt) ∧ ((u 2).toInt ≤ (u 0).toInt) ∧ ((u 1).toInt ≠ 0 → (u 2).toInt < (u 0).toInt) ∧ ((u 1).toInt = 0 → (u 2).toInt = (v0 34).toInt) ∧ (zBl f1 (v0 34).toInt (v0 35).toInt (u 2).toInt) ∧ (zMl f1 (v0 34).toInt (u 2).toInt (u 1).toInt (u 0).toInt)) (fun (u : Nat → Int32) (t : State) => ∃ (ww : Nat → Int64) (aa : Nat → Nat → Int32) (bb : Nat → Nat → Int64), va_P (dC, dI) vwCl [(h0, .inr (13, mX13 q0 (upd (upd (upd v0 35 (u 0)) 36 (u 1)) 37 (u 2)))), ((q0 0), zi k1 600 f1)] t.heap ∧ va_K (dC, dI) vwCl [(k1, .byte)] t ∧ va_D (va_A [(h0, .inr (13, mX13 q0 v0)), ((q0 0), zi k1 600 f1)] sz) [(h0, .inr (13, mX13 q0 (upd (upd (upd v0 35 (u 0)) 36 (u 1)) 37 (u 2)))), ((q0 0), zi k1 600 f1)]) (va_A [(h0, .inr (13, mX13 q0 v0)), ((q0 0), zi k1 600 f1)] sz)) 0 0 (va_A [(h0, .inr (13, mX13 q0 v0)), ((q0 0), zi k1 600 f1)] sz) := by
  refine Met.ofW (cc := cX13_look1) (maxL := 1) (ret := none) (by decide) rfl ?_
  intro p e s m args below meth c s₁ B hml hv
  obtain ⟨rfl, hsz, hP, hK, hD0, hE, hZ⟩ := hv
  have hx := B.exec
  have hb := B.bytes
  have hr := B.returns
  have hG : ∀ w ∈ zG, w.before _ s = true := fun w h => atoms_spec (ws := (zw yX13_look1 cX13_look1 1 none)) B.pre w (List.mem_cons_of_mem _ h)
  have hown : s.vm.findClass RX13 = some m.cls := findClass_of_methodNamed B.named
  have hlocks := B.notSynchronized

  subst hsz
  have hD := hD0.self (sz := s.heap.size)
  generalize hAe : va_A [(h0, .inr (13, mX13 q0 v0)), ((q0 0), zi k1 600 f1)] s.heap.size = A at hD hZ ⊢
  have hA : ∀ q : Nat, s.heap.size ≤ q → A q := fun q h => by rw [← hAe]; exact Or.inr h
  have hS : va_S A s.heap s.heap [] := va_S.rf
  have hl := lv_entry ([.ref h0]) (n := 1) (Nat.le_of_ble_eq_true rfl)
  rw [lg_entry_eq]
  generalize (lg_sl ([.ref h0]) ++ List.replicate (1 - (lg_sl ([.ref h0])).length) Slot.unset).toArray = ls at hl ⊢
  have hl : lv_has ls 1 [(0, .ref h0)] := hl
  have b_ := zk_0
  have b_ := zk_1
  have b_ := zk_2
  have b_ := zk_3
  have b_ : 0 ≤ (v0 35).toInt ∧ (v0 35).toInt ≤ 600 := hv0 35
  have b_ : 0 ≤ (v0 34).toInt ∧ (v0 34).toInt ≤ 600 := hv0 34
  have b_ : 0 ≤ (v0 37).toInt ∧ (v0 37).toInt ≤ 600 := hv0 37
  have b_ : 0 ≤ (v0 36).toInt ∧ (v0 36).toInt ≤ 3 := hv0 36
  refine zcutL (fun u0_ => (600 - (u0_ 0).toInt).toNat) (fun H locs ls u0_ w0_ a0_ b0_ => va_P (dC, dI) vwCl [(h0, .inr (13, mX13 q0 (upd v0 35 (u0_ 0)))), ((q0 0), zi k1 600 f1)] H ∧ va_D A [(h0, .inr (13, mX13 q0 (upd v0 35 (u0_ 0)))), ((q0 0), zi k1 600 f1)] ∧ va_S A s.heap H locs ∧ lv_has ls 1 [(0, .ref h0)] ∧ (0 ≤ (u0_ 0).toInt ∧ (u0_ 0).toInt ≤ 600) ∧ ((u0_ 0).toInt ≤ (v0 34).toInt) ∧ ((v0 35).toInt ≤ (u0_ 0).toInt) ∧ (zBq f1 (v0 35).toInt (u0_ 0).toInt)) (fun ls u0_ w0_ => F0 m 0 ls []) 0 0 ?_ (fun hJ0 => ?_)
  · skip
    intro H locs ls u0_ w0_ a0_ b0_ hc hJ0
    obtain ⟨hP, hD, hS, hl, b_, b_, b_, hI0_2⟩ := hc
    refine lv_aload_n hx hb dX13_look1_0 rfl (lv_at hl 0 rfl) ?_
    refine va_get (D := (dC, dI)) (ci := 13) (v := .int (u0_ 0)) (C := RX13) (T := TX13) (N := 75) hx hb hG zuX13 hown hK hP 0 rfl rfl 35 (by decide) (hG _ zv1639) (fun _ h9 => h9) rfl dX13_look1_1 ?_
    refine lv_aload_n hx hb dX13_look1_4 rfl (lv_at hl 0 rfl) ?_
    refine va_get (D := (dC, dI)) (ci := 13) (v := .int (v0 34)) (C := RX13) (T := TX13) (N := 75) hx hb hG zuX13 hown hK hP 0 rfl rfl 34 (by decide) (hG _ zv1638) (fun _ h9 => h9) rfl dX13_look1_5 ?_
    refine lv_icmp_ge (tgt := 40) hx hb dX13_look1_8 (by decide) (fun c_ => ?_) (fun c_ => ?_)
    · skip
      have b_ := zT_ge rfl rfl c_
      refine lv_aload_n hx hb dX13_look1_40 rfl (lv_at hl 0 rfl) ?_
      refine lv_aload_n hx hb dX13_look1_41 rfl (lv_at hl 0 rfl) ?_
      refine va_get (D := (dC, dI)) (ci := 13) (v := .int (u0_ 0)) (C := RX13) (T := TX13) (N := 75) hx hb hG zuX13 hown hK hP 0 rfl rfl 35 (by decide) (hG _ zv1639) (fun _ h9 => h9) rfl dX13_look1_42 ?_
      refine va_put (D := (dC, dI)) (ci := 13) (v := .int (u0_ 0)) (ty := .int) (C := RX13) (T := TX13) (N := 75) hx hb hG zuX13 tyX13 tyX13_ok nmX13 hown hK hP hD hS 0 rfl rfl 37 (by decide) (hG _ zv1641) (fun _ h9 => h9) rfl (by decide +kernel) rfl rfl (Nat.le_of_ble_eq_true rfl) dX13_look1_45 (fun H locs hP hD hS => ?_)
      have hP : va_P (dC, dI) vwCl [(h0, .inr (13, mX13 q0 (upd (upd v0 35 (u0_ 0)) 37 (u0_ 0)))), ((q0 0), zi k1 600 f1)] H := hP
      have hD : va_D A [(h0, .inr (13, mX13 q0 (upd (upd v0 35 (u0_ 0)) 37 (u0_ 0)))), ((q0 0), zi k1 600 f1)] := hD
      refine lv_aload_n hx hb dX13_look1_48 rfl (lv_at hl 0 rfl) ?_
      refine va_get (D := (dC, dI)) (ci := 13) (v := .int (u0_ 0)) (C := RX13) (T := TX13) (N := 75) hx hb hG zuX13 hown hK hP 0 rfl rfl 37 (by decide) (hG _ zv1641) (fun _ h9 => h9) rfl dX13_look1_49 ?_
      refine lv_aload_n hx hb dX13_look1_52 rfl (lv_at hl 0 rfl) ?_
      refine va_get (D := (dC, dI)) (ci := 13) (v := .int (v0 34)) (C := RX13) (T := TX13) (N := 75) hx hb hG zuX13 hown hK hP 0 rfl rfl 34 (by decide) (hG _ zv1638) (fun _ h9 => h9) rfl dX13_look1_53 ?_
      refine lv_icmp_ne (tgt := 67) hx hb dX13_look1_56 (by decide) (fun c_ => ?_) (fun c_ => ?_)
      · skip
        have b_ := zT_ne rfl rfl c_
        refine lv_aload_n hx hb dX13_look1_67 rfl (lv_at hl 0 rfl) ?_
        refine va_get (D := (dC, dI)) (ci := 13) (v := .ref (q0 0)) (C := RX13) (T := TX13) (N := 75) hx hb hG zuX13 hown hK hP 0 rfl rfl 0 (by decide) (hG _ zv1604) (fun _ h9 => h9) rfl dX13_look1_68 ?_
        refine lv_aload_n hx hb dX13_look1_71 rfl (lv_at hl 0 rfl) ?_
        refine va_get (D := (dC, dI)) (ci := 13) (v := .int (u0_ 0)) (C := RX13) (T := TX13) (N := 75) hx hb hG zuX13 hown hK hP 0 rfl rfl 37 (by decide) (hG _ zv1641) (fun _ h9 => h9) rfl dX13_look1_72 ?_
        refine va_bald hx hb hK hP 1 0 rfl rfl (zin_lit ⟨by omega, by omega⟩) dX13_look1_75 ?_
        refine lv_topi (fun z75 e_z75 => ?_)
        have hPc := hP.sub (ws' := []) [] rfl
        have hDc := hD.sub (ws' := []) [] (by decide) rfl
        have hKc := hK.sub (tys' := []) [] rfl
        have hFc := va_free (wc := []) hD hS hA [] rfl
        refine va_calli (va_runS (As := [.int z75]) (rest := []) ⟨hx, hb, hml, hown, hG⟩ (sX13_isToken_0 l dC dI adK adV H.size z75) (va_cwS 1 hG (zgS zv1850 zv1851 zv142 zv1852) rfl rfl rfl (by decide +kernel) ⟨Nat.le_of_ble_eq_true rfl, Nat.le_of_ble_eq_true rfl⟩) ⟨zPc_blind, zPc_pre hPc hKc hDc hE hS hFc hZ⟩ rfl rfl hl.1 rfl (lv_room (Nat.le_of_ble_eq_true rfl)) dX13_look1_76 ⟨Nat.le_of_ble_eq_true rfl, Nat.le_of_ble_eq_true rfl⟩) hS (fun q _ h => hFc q h) hFc (fun r76_ u76_ t H1 locs ht hvm hw hB hz1 hk1 hS => ?_)
        replace hw : (0 ≤ r76_.toInt ∧ r76_.toInt ≤ 1) ∧ (r76_.toInt = 1 → zTok z75.toInt) ∧ (r76_.toInt = 0 → ¬ zTok z75.toInt) := hw
        obtain ⟨b_, hX76_0, hX76_1⟩ := hw
        obtain ⟨w76_, a76_, b76_, hP1, hK1, hD1⟩ := hB
        rw [ht] at hP1
        obtain ⟨hP, hD⟩ := va_join (wr := [(h0, .inr (13, mX13 q0 (upd (upd v0 35 (u0_ 0)) 37 (u0_ 0)))), ((q0 0), zi k1 600 f1)]) (w1 := []) hP hD [] [0, 1] rfl rfl (by decide) (by decide) hk1 hFc hP1 hD1
        have hP : va_P (dC, dI) vwCl [(h0, .inr (13, mX13 q0 (upd (upd v0 35 (u0_ 0)) 37 (u0_ 0)))), ((q0 0), zi k1 600 f1)] H1 := hP.sub [0, 1] rfl
        have hD : va_D A [(h0, .inr (13, mX13 q0 (upd (upd v0 35 (u0_ 0)) 37 (u0_ 0)))), ((q0 0), zi k1 600 f1)] := hD.sub [0, 1] (by decide) rfl
        generalize H1 = H at hP hS ⊢
        clear hz1
        refine lv_if_eq (tgt := 106) hx hb dX13_look1_79 (by decide) (fun c_ => ?_) (fun c_ => ?_)
        · skip
          have b_ := zT_eq rfl zk_0 c_
          refine lv_aload_n hx hb dX13_look1_106 rfl (lv_at hl 0 rfl) ?_
          refine va_get (D := (dC, dI)) (ci := 13) (v := .ref (q0 0)) (C := RX13) (T := TX13) (N := 75) hx hb hG zuX13 hown hK hP 0 rfl rfl 0 (by decide) (hG _ zv1604) (fun _ h9 => h9) rfl dX13_look1_107 ?_
          refine lv_aload_n hx hb dX13_look1_110 rfl (lv_at hl 0 rfl) ?_
          refine va_get (D := (dC, dI)) (ci := 13) (v := .int (u0_ 0)) (C := RX13) (T := TX13) (N := 75) hx hb hG zuX13 hown hK hP 0 rfl rfl 37 (by decide) (hG _ zv1641) (fun _ h9 => h9) rfl dX13_look1_111 ?_
          refine va_bald hx hb hK hP 1 0 rfl rfl (zin_lit ⟨by omega, by omega⟩) dX13_look1_114 ?_
          refine lv_topi (fun z114 e_z114 => ?_)
          refine lv_bipush (v := 46) hx hb dX13_look1_115 (by decide) ?_
          have b_ : -2147483648 ≤ z114.toInt ∧ z114.toInt ≤ 2147483647 := ⟨zlo _, zhi _⟩
          refine lv_icmp_ne (tgt := 153) hx hb dX13_look1_117 (by decide) (fun c_ => ?_) (fun c_ => ?_)
          · skip
            have b_ := zT_ne rfl zk_46 c_
            refine lv_aload_n hx hb dX13_look1_153 rfl (lv_at hl 0 rfl) ?_
            refine lv_iconst (v := 2) hx hb dX13_look1_154 (by decide) ?_
            refine va_put (D := (dC, dI)) (ci := 13) (v := .int 2) (ty := .int) (C := RX13) (T := TX13) (N := 75) hx hb hG zuX13 tyX13 tyX13_ok nmX13 hown hK hP hD hS 0 rfl rfl 36 (by decide) (hG _ zv1640) (fun _ h9 => h9) rfl (by decide +kernel) rfl rfl (Nat.le_of_ble_eq_true rfl) dX13_look1_155 (fun H locs hP hD hS => ?_)
            have hP : va_P (dC, dI) vwCl [(h0, .inr (13, mX13 q0 (upd (upd (upd v0 35 (u0_ 0)) 36 2) 37 (u0_ 0)))), ((q0 0), zi k1 600 f1)] H := hP
            have hD : va_D A [(h0, .inr (13, mX13 q0 (upd (upd (upd v0 35 (u0_ 0)) 36 2) 37 (u0_ 0)))), ((q0 0), zi k1 600 f1)] := hD
            refine lv_aload_n hx hb dX13_look1_158 rfl (lv_at hl 0 rfl) ?_
            refine lv_aload_n hx hb dX13_look1_159 rfl (lv_at hl 0 rfl) ?_
            refine va_get (D := (dC, dI)) (ci := 13) (v := .int (u0_ 0)) (C := RX13) (T := TX13) (N := 75) hx hb hG zuX13 hown hK hP 0 rfl rfl 37 (by decide) (hG _ zv1641) (fun _ h9 => h9) rfl dX13_look1_160 ?_
            refine lv_iconst (v := 1) hx hb dX13_look1_163 (by decide) ?_
            refine lv_iadd hx hb dX13_look1_164 ?_
            refine lv_topi (fun z164 e_z164 => ?_)
            have b_ := zadd rfl zk_1 e_z164 (by omega) (by omega)
            have b_ : 0 ≤ z164.toInt ∧ z164.toInt ≤ 600 := ⟨by omega, by omega⟩
            refine va_put (D := (dC, dI)) (ci := 13) (v := .int z164) (ty := .int) (C := RX13) (T := TX13) (N := 75) hx hb hG zuX13 tyX13 tyX13_ok nmX13 hown hK hP hD hS 0 rfl rfl 35 (by decide) (hG _ zv1639) (fun _ h9 => h9) rfl (by decide +kernel) rfl rfl (Nat.le_of_ble_eq_true rfl) dX13_look1_165 (fun H locs hP hD hS => ?_)
            have hP : va_P (dC, dI) vwCl [(h0, .inr (13, mX13 q0 (upd (upd (upd v0 35 z164) 36 2) 37 (u0_ 0)))), ((q0 0), zi k1 600 f1)] H := hP
            have hD : va_D A [(h0, .inr (13, mX13 q0 (upd (upd (upd v0 35 z164) 36 2) 37 (u0_ 0)))), ((q0 0), zi k1 600 f1)] := hD
            refine W.widen (k := 0) (n := 0) (by decide) (by decide) ?_
            have hpost : (0 ≤ z164.toInt ∧ z164.toInt ≤ 600) ∧ (0 ≤ (2 : Int32).toInt ∧ (2 : Int32).toInt ≤ 3) ∧ (0 ≤ (u0_ 0).toInt ∧ (u0_ 0).toInt ≤ 600) ∧ (z164.toInt ≤ (v0 34).toInt) ∧ ((v0 35).toInt ≤ (u0_ 0).toInt) ∧ ((u0_ 0).toInt ≤ z164.toInt) ∧ ((2 : Int32).toInt ≠ 0 → (u0_ 0).toInt < z164.toInt) ∧ ((2 : Int32).toInt = 0 → (u0_ 0).toInt = (v0 34).toInt) ∧ (zBl f1 (v0 34).toInt (v0 35).toInt (u0_ 0).toInt) ∧ (zMl f1 (v0 34).toInt (u0_ 0).toInt (2 : Int32).toInt z164.toInt) := ⟨(by first | with_reducible assumption | exact ⟨by omega, by omega⟩), (by first | with_reducible assumption | exact ⟨by omega, by omega⟩), (by first | with_reducible assumption | exact ⟨by omega, by omega⟩), by omega, by omega, by omega, by omega, by omega, by first | exact ⟨by omega, hI0_2, fun h_ => by omega, by omega⟩ | exact ⟨by omega, hI0_2, fun h_ => by have b9 := hX21_1 (by omega); rw [e_z20] at b9; exact b9, by omega⟩, by first | exact Or.inl ⟨by omega, by first | omega | decide⟩ | exact Or.inr (Or.inl ⟨by omega, by have t_ := hX76_0 (by omega); rw [e_z75] at t_; exact t_, by first | omega | decide, ⟨by omega, hX97_5, hX97_3, by omega⟩⟩) | exact Or.inr (Or.inr (Or.inl ⟨by omega, fun t_ => hX76_1 (by omega) (by rw [e_z75]; exact t_), ⟨zgt e_z114 (by omega) (by omega), by omega, zgu (hX127_1 (by omega)) (by omega) (by omega)⟩, by first | omega | decide, by omega⟩)) | exact Or.inr (Or.inr (Or.inr ⟨by omega, fun t_ => hX76_1 (by omega) (by rw [e_z75]; exact t_), fun d_ => absurd ((zgt e_z114 (by omega) rfl).symm.trans d_.1) (by omega), by first | omega | decide, by omega⟩)) | exact Or.inr (Or.inr (Or.inr ⟨by omega, fun t_ => hX76_1 (by omega) (by rw [e_z75]; exact t_), fun d_ => absurd ((zgu (hX127_1 (by have d1_ := d_.2.1; omega)) (by omega) rfl).symm.trans d_.2.2) (by omega), by first | omega | decide, by omega⟩))⟩
            have hP9 : va_P (dC, dI) vwCl [(h0, .inr (13, mX13 q0 (upd (upd (upd v0 35 z164) 36 2) 37 (u0_ 0)))), ((q0 0), zi k1 600 f1)] H := hP
            have hD9 : va_D A [(h0, .inr (13, mX13 q0 (upd (upd (upd v0 35 z164) 36 2) 37 (u0_ 0)))), ((q0 0), zi k1 600 f1)] := hD
            exact W.vret hx hb hr (fun t ht hW => ⟨⟨(fun i => ([z164, 2, (u0_ 0)] : List (Int32)).getD i 0), rfl, hpost, (fun _ => 0), (fun _ => (fun _ => 0)), (fun _ => (fun _ => 0)), by rw [ht]; exact hP9, va_K.moved hW.alike hK, hD9⟩, hS.F ht⟩) hS.2.2 dX13_look1_168
          · skip
            have b_ := zF_ne rfl zk_46 c_
            refine lv_aload_n hx hb dX13_look1_120 rfl (lv_at hl 0 rfl) ?_
            refine lv_aload_n hx hb dX13_look1_121 rfl (lv_at hl 0 rfl) ?_
            refine va_get (D := (dC, dI)) (ci := 13) (v := .int (u0_ 0)) (C := RX13) (T := TX13) (N := 75) hx hb hG zuX13 hown hK hP 0 rfl rfl 37 (by decide) (hG _ zv1641) (fun _ h9 => h9) rfl dX13_look1_122 ?_
            refine lv_iconst (v := 1) hx hb dX13_look1_125 (by decide) ?_
            refine lv_iadd hx hb dX13_look1_126 ?_
            refine lv_topi (fun z126 e_z126 => ?_)
            have b_ := zadd rfl zk_1 e_z126 (by omega) (by omega)
            have hPc := hP.sub (ws' := [(h0, .inr (13, mX13 q0 (upd (upd v0 35 (u0_ 0)) 37 (u0_ 0)))), ((q0 0), zi k1 600 f1)]) [0, 1] rfl
            have hDc := hD.sub (ws' := [(h0, .inr (13, mX13 q0 (upd (upd v0 35 (u0_ 0)) 37 (u0_ 0)))), ((q0 0), zi k1 600 f1)]) [0, 1] (by decide) rfl
            have hKc := hK.sub (tys' := [(k1, .byte)]) [0] rfl
            have hFc := va_free (wc := [(h0, .inr (13, mX13 q0 (upd (upd v0 35 (u0_ 0)) 37 (u0_ 0)))), ((q0 0), zi k1 600 f1)]) hD hS hA [0, 1] rfl
            refine va_calli (va_runV (As := [.int z126]) (rest := []) ⟨hx, hb, hml, hown, hG⟩ (sX13_byteAt_0 l dC dI adK adV h0 q0 k1 H.size (upd (upd v0 35 (u0_ 0)) 37 (u0_ 0)) f1 z126 (zR_up2 (zR_up2 hv0 35 (show (0 : Int) ≤ ((u0_ 0) : Int32).toInt ∧ ((u0_ 0) : Int32).toInt ≤ (600 : Int) from (by first | with_reducible assumption | exact ⟨by omega, by omega⟩))) 37 (show (0 : Int) ≤ ((u0_ 0) : Int32).toInt ∧ ((u0_ 0) : Int32).toInt ≤ (600 : Int) from (by first | with_reducible assumption | exact ⟨by omega, by omega⟩))) (show (0 : Int) ≤ (z126 : Int32).toInt ∧ (z126 : Int32).toInt ≤ (602 : Int) from (by first | with_reducible assumption | exact ⟨by omega, by omega⟩))) (cwV 1 hG (zgV zv2050 zv2052 zv83 zv142 zv2053) rfl rfl rfl (by decide +kernel) ⟨Nat.le_of_ble_eq_true rfl, Nat.le_of_ble_eq_true rfl⟩) ⟨zPc_blind, va_recv hKc hPc (ci := 13) (q0 := 0) rfl rfl, zPc_pre hPc hKc hDc hE hS hFc hZ⟩ rfl rfl hl.1 rfl (lv_room (Nat.le_of_ble_eq_true rfl)) dX13_look1_127 ⟨Nat.le_of_ble_eq_true rfl, Nat.le_of_ble_eq_true rfl⟩) hS (fun q _ h => hFc q h) hFc (fun r127_ u127_ t H1 locs ht hvm hw hB hz1 hk1 hS => ?_)
            replace hw : (r127_.toInt ≠ 0 → z126.toInt < (v0 34).toInt) ∧ (z126.toInt < (v0 34).toInt → r127_.toInt = (f1 ((z126 : Int32)).toNatClampNeg).toInt) ∧ ((v0 34).toInt ≤ z126.toInt → r127_.toInt = 0) := hw
            obtain ⟨hX127_0, hX127_1, hX127_2⟩ := hw
            obtain ⟨w127_, a127_, b127_, hP1, hK1, hD1⟩ := hB
            rw [ht] at hP1
            obtain ⟨hP, hD⟩ := va_join (wr := []) (w1 := [(h0, .inr (13, mX13 q0 (upd (upd v0 35 (u0_ 0)) 37 (u0_ 0)))), ((q0 0), zi k1 600 f1)]) hP hD [0, 1] [] rfl rfl (by decide) (by decide) hk1 hFc hP1 hD1
            have hP : va_P (dC, dI) vwCl [(h0, .inr (13, mX13 q0 (upd (upd v0 35 (u0_ 0)) 37 (u0_ 0)))), ((q0 0), zi k1 600 f1)] H1 := hP.sub [0, 1] rfl
            have hD : va_D A [(h0, .inr (13, mX13 q0 (upd (upd v0 35 (u0_ 0)) 37 (u0_ 0)))), ((q0 0), zi k1 600 f1)] := hD.sub [0, 1] (by decide) rfl
            generalize H1 = H at hP hS ⊢
            clear hz1
            refine lv_bipush (v := 46) hx hb dX13_look1_130 (by decide) ?_
            have b_ : -2147483648 ≤ r127_.toInt ∧ r127_.toInt ≤ 2147483647 := ⟨zlo _, zhi _⟩
            refine lv_icmp_ne (tgt := 153) hx hb dX13_look1_132 (by decide) (fun c_ => ?_) (fun c_ => ?_)
            · skip
              have b_ := zT_ne rfl zk_46 c_
              refine lv_aload_n hx hb dX13_look1_153 rfl (lv_at hl 0 rfl) ?_
              refine lv_iconst (v := 2) hx hb dX13_look1_154 (by decide) ?_
              refine va_put (D := (dC, dI)) (ci := 13) (v := .int 2) (ty := .int) (C := RX13) (T := TX13) (N := 75) hx hb hG zuX13 tyX13 tyX13_ok nmX13 hown hK hP hD hS 0 rfl rfl 36 (by decide) (hG _ zv1640) (fun _ h9 => h9) rfl (by decide +kernel) rfl rfl (Nat.le_of_ble_eq_true rfl) dX13_look1_155 (fun H locs hP hD hS => ?_)
              have hP : va_P (dC, dI) vwCl [(h0, .inr (13, mX13 q0 (upd (upd (upd v0 35 (u0_ 0)) 36 2) 37 (u0_ 0)))), ((q0 0), zi k1 600 f1)] H := hP
              have hD : va_D A [(h0, .inr (13, mX13 q0 (upd (upd (upd v0 35 (u0_ 0)) 36 2) 37 (u0_ 0)))), ((q0 0), zi k1 600 f1)] := hD
              refine lv_aload_n hx hb dX13_look1_158 rfl (lv_at hl 0 rfl) ?_
              refine lv_aload_n hx hb dX13_look1_159 rfl (lv_at hl 0 rfl) ?_
              refine va_get (D := (dC, dI)) (ci := 13) (v := .int (u0_ 0)) (C := RX13) (T := TX13) (N := 75) hx hb hG zuX13 hown hK hP 0 rfl rfl 37 (by decide) (hG _ zv1641) (fun _ h9 => h9) rfl dX13_look1_160 ?_
              refine lv_iconst (v := 1) hx hb dX13_look1_163 (by decide) ?_
              refine lv_iadd hx hb dX13_look1_164 ?_
              refine lv_topi (fun z164 e_z164 => ?_)
              have b_ := zadd rfl zk_1 e_z164 (by omega) (by omega)
              have b_ : 0 ≤ z164.toInt ∧ z164.toInt ≤ 600 := ⟨by omega, by omega⟩
              refine va_put (D := (dC, dI)) (ci := 13) (v := .int z164) (ty := .int) (C := RX13) (T := TX13) (N := 75) hx hb hG zuX13 tyX13 tyX13_ok nmX13 hown hK hP hD hS 0 rfl rfl 35 (by decide) (hG _ zv1639) (fun _ h9 => h9) rfl (by decide +kernel) rfl rfl (Nat.le_of_ble_eq_true rfl) dX13_look1_165 (fun H locs hP hD hS => ?_)
              have hP : va_P (dC, dI) vwCl [(h0, .inr (13, mX13 q0 (upd (upd (upd v0 35 z164) 36 2) 37 (u0_ 0)))), ((q0 0), zi k1 600 f1)] H := hP
              have hD : va_D A [(h0, .inr (13, mX13 q0 (upd (upd (upd v0 35 z164) 36 2) 37 (u0_ 0)))), ((q0 0), zi k1 600 f1)] := hD
              refine W.widen (k := 0) (n := 0) (by decide) (by decide) ?_
              have hpost : (0 ≤ z164.toInt ∧ z164.toInt ≤ 600) ∧ (0 ≤ (2 : Int32).toInt ∧ (2 : Int32).toInt ≤ 3) ∧ (0 ≤ (u0_ 0).toInt ∧ (u0_ 0).toInt ≤ 600) ∧ (z164.toInt ≤ (v0 34).toInt) ∧ ((v0 35).toInt ≤ (u0_ 0).toInt) ∧ ((u0_ 0).toInt ≤ z164.toInt) ∧ ((2 : Int32).toInt ≠ 0 → (u0_ 0).toInt < z164.toInt) ∧ ((2 : Int32).toInt = 0 → (u0_ 0).toInt = (v0 34).toInt) ∧ (zBl f1 (v0 34).toInt (v0 35).toInt (u0_ 0).toInt) ∧ (zMl f1 (v0 34).toInt (u0_ 0).toInt (2 : Int32).toInt z164.toInt) := ⟨(by first | with_reducible assumption | exact ⟨by omega, by omega⟩), (by first | with_reducible assumption | exact ⟨by omega, by omega⟩), (by first | with_reducible assumption | exact ⟨by omega, by omega⟩), by omega, by omega, by omega, by omega, by omega, by first | exact ⟨by omega, hI0_2, fun h_ => by omega, by omega⟩ | exact ⟨by omega, hI0_2, fun h_ => by have b9 := hX21_1 (by omega); rw [e_z20] at b9; exact b9, by omega⟩, by first | exact Or.inl ⟨by omega, by first | omega | decide⟩ | exact Or.inr (Or.inl ⟨by omega, by have t_ := hX76_0 (by omega); rw [e_z75] at t_; exact t_, by first | omega | decide, ⟨by omega, hX97_5, hX97_3, by omega⟩⟩) | exact Or.inr (Or.inr (Or.inl ⟨by omega, fun t_ => hX76_1 (by omega) (by rw [e_z75]; exact t_), ⟨zgt e_z114 (by omega) (by omega), by omega, zgu (hX127_1 (by omega)) (by omega) (by omega)⟩, by first | omega | decide, by omega⟩)) | exact Or.inr (Or.inr (Or.inr ⟨by omega, fun t_ => hX76_1 (by omega) (by rw [e_z75]; exact t_), fun d_ => absurd ((zgt e_z114 (by omega) rfl).symm.trans d_.1) (by omega), by first | omega | decide, by omega⟩)) | exact Or.inr (Or.inr (Or.inr ⟨by omega, fun t_ => hX76_1 (by omega) (by rw [e_z75]; exact t_), fun d_ => absurd ((zgu (hX127_1 (by have d1_ := d_.2.1; omega)) (by omega) rfl).symm.trans d_.2.2) (by omega), by first | omega | decide, by omega⟩))⟩
              have hP9 : va_P (dC, dI) vwCl [(h0, .inr (13, mX13 q0 (upd (upd (upd v0 35 z164) 36 2) 37 (u0_ 0)))), ((q0 0), zi k1 600 f1)] H := hP
              have hD9 : va_D A [(h0, .inr (13, mX13 q0 (upd (upd (upd v0 35 z164) 36 2) 37 (u0_ 0)))), ((q0 0), zi k1 600 f1)] := hD
              exact W.vret hx hb hr (fun t ht hW => ⟨⟨(fun i => ([z164, 2, (u0_ 0)] : List (Int32)).getD i 0), rfl, hpost, (fun _ => 0), (fun _ => (fun _ => 0)), (fun _ => (fun _ => 0)), by rw [ht]; exact hP9, va_K.moved hW.alike hK, hD9⟩, hS.F ht⟩) hS.2.2 dX13_look1_168
            · skip
              have b_ := zF_ne rfl zk_46 c_
              refine lv_aload_n hx hb dX13_look1_135 rfl (lv_at hl 0 rfl) ?_
              refine lv_iconst (v := 3) hx hb dX13_look1_136 (by decide) ?_
              refine va_put (D := (dC, dI)) (ci := 13) (v := .int 3) (ty := .int) (C := RX13) (T := TX13) (N := 75) hx hb hG zuX13 tyX13 tyX13_ok nmX13 hown hK hP hD hS 0 rfl rfl 36 (by decide) (hG _ zv1640) (fun _ h9 => h9) rfl (by decide +kernel) rfl rfl (Nat.le_of_ble_eq_true rfl) dX13_look1_137 (fun H locs hP hD hS => ?_)
              have hP : va_P (dC, dI) vwCl [(h0, .inr (13, mX13 q0 (upd (upd (upd v0 35 (u0_ 0)) 36 3) 37 (u0_ 0)))), ((q0 0), zi k1 600 f1)] H := hP
              have hD : va_D A [(h0, .inr (13, mX13 q0 (upd (upd (upd v0 35 (u0_ 0)) 36 3) 37 (u0_ 0)))), ((q0 0), zi k1 600 f1)] := hD
              refine lv_aload_n hx hb dX13_look1_140 rfl (lv_at hl 0 rfl) ?_
              refine lv_aload_n hx hb dX13_look1_141 rfl (lv_at hl 0 rfl) ?_
              refine va_get (D := (dC, dI)) (ci := 13) (v := .int (u0_ 0)) (C := RX13) (T := TX13) (N := 75) hx hb hG zuX13 hown hK hP 0 rfl rfl 37 (by decide) (hG _ zv1641) (fun _ h9 => h9) rfl dX13_look1_142 ?_
              refine lv_iconst (v := 2) hx hb dX13_look1_145 (by decide) ?_
              refine lv_iadd hx hb dX13_look1_146 ?_
              refine lv_topi (fun z146 e_z146 => ?_)
              have b_ := zadd rfl zk_2 e_z146 (by omega) (by omega)
              have b_ : 0 ≤ z146.toInt ∧ z146.toInt ≤ 600 := ⟨by omega, by omega⟩
              refine va_put (D := (dC, dI)) (ci := 13) (v := .int z146) (ty := .int) (C := RX13) (T := TX13) (N := 75) hx hb hG zuX13 tyX13 tyX13_ok nmX13 hown hK hP hD hS 0 rfl rfl 35 (by decide) (hG _ zv1639) (fun _ h9 => h9) rfl (by decide +kernel) rfl rfl (Nat.le_of_ble_eq_true rfl) dX13_look1_147 (fun H locs hP hD hS => ?_)
              have hP : va_P (dC, dI) vwCl [(h0, .inr (13, mX13 q0 (upd (upd (upd v0 35 z146) 36 3) 37 (u0_ 0)))), ((q0 0), zi k1 600 f1)] H := hP
              have hD : va_D A [(h0, .inr (13, mX13 q0 (upd (upd (upd v0 35 z146) 36 3) 37 (u0_ 0)))), ((q0 0), zi k1 600 f1)] := hD
              refine lv_goto (tgt := 168) hx hb dX13_look1_150 (by decide) ?_
              refine W.widen (k := 0) (n := 0) (by decide) (by decide) ?_
              have hpost : (0 ≤ z146.toInt ∧ z146.toInt ≤ 600) ∧ (0 ≤ (3 : Int32).toInt ∧ (3 : Int32).toInt ≤ 3) ∧ (0 ≤ (u0_ 0).toInt ∧ (u0_ 0).toInt ≤ 600) ∧ (z146.toInt ≤ (v0 34).toInt) ∧ ((v0 35).toInt ≤ (u0_ 0).toInt) ∧ ((u0_ 0).toInt ≤ z146.toInt) ∧ ((3 : Int32).toInt ≠ 0 → (u0_ 0).toInt < z146.toInt) ∧ ((3 : Int32).toInt = 0 → (u0_ 0).toInt = (v0 34).toInt) ∧ (zBl f1 (v0 34).toInt (v0 35).toInt (u0_ 0).toInt) ∧ (zMl f1 (v0 34).toInt (u0_ 0).toInt (3 : Int32).toInt z146.toInt) := ⟨(by first | with_reducible assumption | exact ⟨by omega, by omega⟩), (by first | with_reducible assumption | exact ⟨by omega, by omega⟩), (by first | with_reducible assumption | exact ⟨by omega, by omega⟩), by omega, by omega, by omega, by omega, by omega, by first | exact ⟨by omega, hI0_2, fun h_ => by omega, by omega⟩ | exact ⟨by omega, hI0_2, fun h_ => by have b9 := hX21_1 (by omega); rw [e_z20] at b9; exact b9, by omega⟩, by first | exact Or.inl ⟨by omega, by first | omega | decide⟩ | exact Or.inr (Or.inl ⟨by omega, by have t_ := hX76_0 (by omega); rw [e_z75] at t_; exact t_, by first | omega | decide, ⟨by omega, hX97_5, hX97_3, by omega⟩⟩) | exact Or.inr (Or.inr (Or.inl ⟨by omega, fun t_ => hX76_1 (by omega) (by rw [e_z75]; exact t_), ⟨zgt e_z114 (by omega) (by omega), by omega, zgu (hX127_1 (by omega)) (by omega) (by omega)⟩, by first | omega | decide, by omega⟩)) | exact Or.inr (Or.inr (Or.inr ⟨by omega, fun t_ => hX76_1 (by omega) (by rw [e_z75]; exact t_), fun d_ => absurd ((zgt e_z114 (by omega) rfl).symm.trans d_.1) (by omega), by first | omega | decide, by omega⟩)) | exact Or.inr (Or.inr (Or.inr ⟨by omega, fun t_ => hX76_1 (by omega) (by rw [e_z75]; exact t_), fun d_ => absurd ((zgu (hX127_1 (by have d1_ := d_.2.1; omega)) (by omega) rfl).symm.trans d_.2.2) (by omega), by first | omega | decide, by omega⟩))⟩
              have hP9 : va_P (dC, dI) vwCl [(h0, .inr (13, mX13 q0 (upd (upd (upd v0 35 z146) 36 3) 37 (u0_ 0)))), ((q0 0), zi k1 600 f1)] H := hP
              have hD9 : va_D A [(h0, .inr (13, mX13 q0 (upd (upd (upd v0 35 z146) 36 3) 37 (u0_ 0)))), ((q0 0), zi k1 600 f1)] := hD
              exact W.vret hx hb hr (fun t ht hW => ⟨⟨(fun i => ([z146, 3, (u0_ 0)] : List (Int32)).getD i 0), rfl, hpost, (fun _ => 0), (fun _ => (fun _ => 0)), (fun _ => (fun _ => 0)), by rw [ht]; exact hP9, va_K.moved hW.alike hK, hD9⟩, hS.F ht⟩) hS.2.2 dX13_look1_168
        · skip
          have b_ := zF_eq rfl zk_0 c_
          refine lv_aload_n hx hb dX13_look1_82 rfl (lv_at hl 0 rfl) ?_
          refine lv_iconst (v := 1) hx hb dX13_look1_83 (by decide) ?_
          refine va_put (D := (dC, dI)) (ci := 13) (v := .int 1) (ty := .int) (C := RX13) (T := TX13) (N := 75) hx hb hG zuX13 tyX13 tyX13_ok nmX13 hown hK hP hD hS 0 rfl rfl 36 (by decide) (hG _ zv1640) (fun _ h9 => h9) rfl (by decide +kernel) rfl rfl (Nat.le_of_ble_eq_true rfl) dX13_look1_84 (fun H locs hP hD hS => ?_)
          have hP : va_P (dC, dI) vwCl [(h0, .inr (13, mX13 q0 (upd (upd (upd v0 35 (u0_ 0)) 36 1) 37 (u0_ 0)))), ((q0 0), zi k1 600 f1)] H := hP
          have hD : va_D A [(h0, .inr (13, mX13 q0 (upd (upd (upd v0 35 (u0_ 0)) 36 1) 37 (u0_ 0)))), ((q0 0), zi k1 600 f1)] := hD
          refine lv_aload_n hx hb dX13_look1_87 rfl (lv_at hl 0 rfl) ?_
          refine lv_aload_n hx hb dX13_look1_88 rfl (lv_at hl 0 rfl) ?_
          refine lv_aload_n hx hb dX13_look1_89 rfl (lv_at hl 0 rfl) ?_
          refine va_get (D := (dC, dI)) (ci := 13) (v := .int (u0_ 0)) (C := RX13) (T := TX13) (N := 75) hx hb hG zuX13 hown hK hP 0 rfl rfl 37 (by decide) (hG _ zv1641) (fun _ h9 => h9) rfl dX13_look1_90 ?_
          refine lv_aload_n hx hb dX13_look1_93 rfl (lv_at hl 0 rfl) ?_
          refine va_get (D := (dC, dI)) (ci := 13) (v := .int (v0 34)) (C := RX13) (T := TX13) (N := 75) hx hb hG zuX13 hown hK hP 0 rfl rfl 34 (by decide) (hG _ zv1638) (fun _ h9 => h9) rfl dX13_look1_94 ?_
          have hPc := hP.sub (ws' := [(h0, .inr (13, mX13 q0 (upd (upd (upd v0 35 (u0_ 0)) 36 1) 37 (u0_ 0)))), ((q0 0), zi k1 600 f1)]) [0, 1] rfl
          have hDc := hD.sub (ws' := [(h0, .inr (13, mX13 q0 (upd (upd (upd v0 35 (u0_ 0)) 36 1) 37 (u0_ 0)))), ((q0 0), zi k1 600 f1)]) [0, 1] (by decide) rfl
          have hKc := hK.sub (tys' := [(k1, .byte)]) [0] rfl
          have hFc := va_free (wc := [(h0, .inr (13, mX13 q0 (upd (upd (upd v0 35 (u0_ 0)) 36 1) 37 (u0_ 0)))), ((q0 0), zi k1 600 f1)]) hD hS hA [0, 1] rfl
          refine va_calli (va_runV (As := [.int (u0_ 0), .int (v0 34)]) (rest := [.ref h0]) ⟨hx, hb, hml, hown, hG⟩ (sX13_runEnd_0 l dC dI adK adV h0 q0 k1 H.size (upd (upd (upd v0 35 (u0_ 0)) 36 1) 37 (u0_ 0)) f1 (u0_ 0) (v0 34) (zR_up2 (zR_upd (zR_up2 hv0 35 (show (0 : Int) ≤ ((u0_ 0) : Int32).toInt ∧ ((u0_ 0) : Int32).toInt ≤ (600 : Int) from (by first | with_reducible assumption | exact ⟨by omega, by omega⟩))) 36 (show (0 : Int) ≤ (1 : Int32).toInt from by decide) (show (1 : Int32).toInt ≤ (3 : Int) from by decide)) 37 (show (0 : Int) ≤ ((u0_ 0) : Int32).toInt ∧ ((u0_ 0) : Int32).toInt ≤ (600 : Int) from (by first | with_reducible assumption | exact ⟨by omega, by omega⟩))) (show (0 : Int) ≤ ((u0_ 0) : Int32).toInt ∧ ((u0_ 0) : Int32).toInt ≤ (600 : Int) from (by first | with_reducible assumption | exact ⟨by omega, by omega⟩)) (show (0 : Int) ≤ ((v0 34) : Int32).toInt ∧ ((v0 34) : Int32).toInt ≤ (600 : Int) from (by first | with_reducible assumption | exact ⟨by omega, by omega⟩))) (cwV 2 hG (zgV zv1862 zv1864 zv51 zv142 zv1865) rfl rfl rfl (by decide +kernel) ⟨Nat.le_of_ble_eq_true rfl, Nat.le_of_ble_eq_true rfl⟩) ⟨zPc_blind, va_recv hKc hPc (ci := 13) (q0 := 0) rfl rfl, zPc_pre hPc hKc hDc hE hS hFc hZ⟩ rfl rfl hl.1 rfl (lv_room (Nat.le_of_ble_eq_true rfl)) dX13_look1_97 ⟨Nat.le_of_ble_eq_true rfl, Nat.le_of_ble_eq_true rfl⟩) hS (fun q _ h => hFc q h) hFc (fun r97_ u97_ t H1 locs ht hvm hw hB hz1 hk1 hS => ?_)
          replace hw : (0 ≤ r97_.toInt ∧ r97_.toInt ≤ 600) ∧ ((u0_ 0).toInt ≤ r97_.toInt) ∧ (r97_.toInt ≤ (v0 34).toInt ∨ r97_.toInt = (u0_ 0).toInt) ∧ (r97_.toInt ≤ 600) ∧ (r97_.toInt < (v0 34).toInt → ¬ zTok (f1 ((r97_ : Int32)).toNatClampNeg).toInt) ∧ ((u0_ 0).toInt < (v0 34).toInt → zTok (f1 (((u0_ 0) : Int32)).toNatClampNeg).toInt → (u0_ 0).toInt < r97_.toInt) ∧ (zAt f1 (u0_ 0).toInt r97_.toInt) := hw
          obtain ⟨b_, hX97_0, hX97_1, hX97_2, hX97_3, hX97_4, hX97_5⟩ := hw
          obtain ⟨w97_, a97_, b97_, hP1, hK1, hD1⟩ := hB
          rw [ht] at hP1
          obtain ⟨hP, hD⟩ := va_join (wr := []) (w1 := [(h0, .inr (13, mX13 q0 (upd (upd (upd v0 35 (u0_ 0)) 36 1) 37 (u0_ 0)))), ((q0 0), zi k1 600 f1)]) hP hD [0, 1] [] rfl rfl (by decide) (by decide) hk1 hFc hP1 hD1
          have hP : va_P (dC, dI) vwCl [(h0, .inr (13, mX13 q0 (upd (upd (upd v0 35 (u0_ 0)) 36 1) 37 (u0_ 0)))), ((q0 0), zi k1 600 f1)] H1 := hP.sub [0, 1] rfl
          have hD : va_D A [(h0, .inr (13, mX13 q0 (upd (upd (upd v0 35 (u0_ 0)) 36 1) 37 (u0_ 0)))), ((q0 0), zi k1 600 f1)] := hD.sub [0, 1] (by decide) rfl
          generalize H1 = H at hP hS ⊢
          clear hz1
          have b_ := hX97_4 (by omega) (by rw [← e_z75]; exact hX76_0 (by omega))
          refine va_put (D := (dC, dI)) (ci := 13) (v := .int r97_) (ty := .int) (C := RX13) (T := TX13) (N := 75) hx hb hG zuX13 tyX13 tyX13_ok nmX13 hown hK hP hD hS 0 rfl rfl 35 (by decide) (hG _ zv1639) (fun _ h9 => h9) rfl (by decide +kernel) rfl rfl (Nat.le_of_ble_eq_true rfl) dX13_look1_100 (fun H locs hP hD hS => ?_)
          have hP : va_P (dC, dI) vwCl [(h0, .inr (13, mX13 q0 (upd (upd (upd v0 35 r97_) 36 1) 37 (u0_ 0)))), ((q0 0), zi k1 600 f1)] H := hP
          have hD : va_D A [(h0, .inr (13, mX13 q0 (upd (upd (upd v0 35 r97_) 36 1) 37 (u0_ 0)))), ((q0 0), zi k1 600 f1)] := hD
          refine lv_goto (tgt := 168) hx hb dX13_look1_103 (by decide) ?_
          refine W.widen (k := 0) (n := 0) (by decide) (by decide) ?_
          have hpost : (0 ≤ r97_.toInt ∧ r97_.toInt ≤ 600) ∧ (0 ≤ (1 : Int32).toInt ∧ (1 : Int32).toInt ≤ 3) ∧ (0 ≤ (u0_ 0).toInt ∧ (u0_ 0).toInt ≤ 600) ∧ (r97_.toInt ≤ (v0 34).toInt) ∧ ((v0 35).toInt ≤ (u0_ 0).toInt) ∧ ((u0_ 0).toInt ≤ r97_.toInt) ∧ ((1 : Int32).toInt ≠ 0 → (u0_ 0).toInt < r97_.toInt) ∧ ((1 : Int32).toInt = 0 → (u0_ 0).toInt = (v0 34).toInt) ∧ (zBl f1 (v0 34).toInt (v0 35).toInt (u0_ 0).toInt) ∧ (zMl f1 (v0 34).toInt (u0_ 0).toInt (1 : Int32).toInt r97_.toInt) := ⟨(by first | with_reducible assumption | exact ⟨by omega, by omega⟩), (by first | with_reducible assumption | exact ⟨by omega, by omega⟩), (by first | with_reducible assumption | exact ⟨by omega, by omega⟩), by omega, by omega, by omega, by omega, by omega, by first | exact ⟨by omega, hI0_2, fun h_ => by omega, by omega⟩ | exact ⟨by omega, hI0_2, fun h_ => by have b9 := hX21_1 (by omega); rw [e_z20] at b9; exact b9, by omega⟩, by first | exact Or.inl ⟨by omega, by first | omega | decide⟩ | exact Or.inr (Or.inl ⟨by omega, by have t_ := hX76_0 (by omega); rw [e_z75] at t_; exact t_, by first | omega | decide, ⟨by omega, hX97_5, hX97_3, by omega⟩⟩) | exact Or.inr (Or.inr (Or.inl ⟨by omega, fun t_ => hX76_1 (by omega) (by rw [e_z75]; exact t_), ⟨zgt e_z114 (by omega) (by omega), by omega, zgu (hX127_1 (by omega)) (by omega) (by omega)⟩, by first | omega | decide, by omega⟩)) | exact Or.inr (Or.inr (Or.inr ⟨by omega, fun t_ => hX76_1 (by omega) (by rw [e_z75]; exact t_), fun d_ => absurd ((zgt e_z114 (by omega) rfl).symm.trans d_.1) (by omega), by first | omega | decide, by omega⟩)) | exact Or.inr (Or.inr (Or.inr ⟨by omega, fun t_ => hX76_1 (by omega) (by rw [e_z75]; exact t_), fun d_ => absurd ((zgu (hX127_1 (by have d1_ := d_.2.1; omega)) (by omega) rfl).symm.trans d_.2.2) (by omega), by first | omega | decide, by omega⟩))⟩
          have hP9 : va_P (dC, dI) vwCl [(h0, .inr (13, mX13 q0 (upd (upd (upd v0 35 r97_) 36 1) 37 (u0_ 0)))), ((q0 0), zi k1 600 f1)] H := hP
          have hD9 : va_D A [(h0, .inr (13, mX13 q0 (upd (upd (upd v0 35 r97_) 36 1) 37 (u0_ 0)))), ((q0 0), zi k1 600 f1)] := hD
          exact W.vret hx hb hr (fun t ht hW => ⟨⟨(fun i => ([r97_, 1, (u0_ 0)] : List (Int32)).getD i 0), rfl, hpost, (fun _ => 0), (fun _ => (fun _ => 0)), (fun _ => (fun _ => 0)), by rw [ht]; exact hP9, va_K.moved hW.alike hK, hD9⟩, hS.F ht⟩) hS.2.2 dX13_look1_168
      · skip
        have b_ := zF_ne rfl rfl c_
        refine lv_aload_n hx hb dX13_look1_59 rfl (lv_at hl 0 rfl) ?_
        refine lv_iconst (v := 0) hx hb dX13_look1_60 (by decide) ?_
        refine va_put (D := (dC, dI)) (ci := 13) (v := .int 0) (ty := .int) (C := RX13) (T := TX13) (N := 75) hx hb hG zuX13 tyX13 tyX13_ok nmX13 hown hK hP hD hS 0 rfl rfl 36 (by decide) (hG _ zv1640) (fun _ h9 => h9) rfl (by decide +kernel) rfl rfl (Nat.le_of_ble_eq_true rfl) dX13_look1_61 (fun H locs hP hD hS => ?_)
        have hP : va_P (dC, dI) vwCl [(h0, .inr (13, mX13 q0 (upd (upd (upd v0 35 (u0_ 0)) 36 0) 37 (u0_ 0)))), ((q0 0), zi k1 600 f1)] H := hP
        have hD : va_D A [(h0, .inr (13, mX13 q0 (upd (upd (upd v0 35 (u0_ 0)) 36 0) 37 (u0_ 0)))), ((q0 0), zi k1 600 f1)] := hD
        refine lv_goto (tgt := 168) hx hb dX13_look1_64 (by decide) ?_
        refine W.widen (k := 0) (n := 0) (by decide) (by decide) ?_
        have hpost : (0 ≤ (u0_ 0).toInt ∧ (u0_ 0).toInt ≤ 600) ∧ (0 ≤ (0 : Int32).toInt ∧ (0 : Int32).toInt ≤ 3) ∧ (0 ≤ (u0_ 0).toInt ∧ (u0_ 0).toInt ≤ 600) ∧ ((u0_ 0).toInt ≤ (v0 34).toInt) ∧ ((v0 35).toInt ≤ (u0_ 0).toInt) ∧ ((u0_ 0).toInt ≤ (u0_ 0).toInt) ∧ ((0 : Int32).toInt ≠ 0 → (u0_ 0).toInt < (u0_ 0).toInt) ∧ ((0 : Int32).toInt = 0 → (u0_ 0).toInt = (v0 34).toInt) ∧ (zBl f1 (v0 34).toInt (v0 35).toInt (u0_ 0).toInt) ∧ (zMl f1 (v0 34).toInt (u0_ 0).toInt (0 : Int32).toInt (u0_ 0).toInt) := ⟨(by first | with_reducible assumption | exact ⟨by omega, by omega⟩), (by first | with_reducible assumption | exact ⟨by omega, by omega⟩), (by first | with_reducible assumption | exact ⟨by omega, by omega⟩), by omega, by omega, by omega, by omega, by omega, by first | exact ⟨by omega, hI0_2, fun h_ => by omega, by omega⟩ | exact ⟨by omega, hI0_2, fun h_ => by have b9 := hX21_1 (by omega); rw [e_z20] at b9; exact b9, by omega⟩, by first | exact Or.inl ⟨by omega, by first | omega | decide⟩ | exact Or.inr (Or.inl ⟨by omega, by have t_ := hX76_0 (by omega); rw [e_z75] at t_; exact t_, by first | omega | decide, ⟨by omega, hX97_5, hX97_3, by omega⟩⟩) | exact Or.inr (Or.inr (Or.inl ⟨by omega, fun t_ => hX76_1 (by omega) (by rw [e_z75]; exact t_), ⟨zgt e_z114 (by omega) (by omega), by omega, zgu (hX127_1 (by omega)) (by omega) (by omega)⟩, by first | omega | decide, by omega⟩)) | exact Or.inr (Or.inr (Or.inr ⟨by omega, fun t_ => hX76_1 (by omega) (by rw [e_z75]; exact t_), fun d_ => absurd ((zgt e_z114 (by omega) rfl).symm.trans d_.1) (by omega), by first | omega | decide, by omega⟩)) | exact Or.inr (Or.inr (Or.inr ⟨by omega, fun t_ => hX76_1 (by omega) (by rw [e_z75]; exact t_), fun d_ => absurd ((zgu (hX127_1 (by have d1_ := d_.2.1; omega)) (by omega) rfl).symm.trans d_.2.2) (by omega), by first | omega | decide, by omega⟩))⟩
        have hP9 : va_P (dC, dI) vwCl [(h0, .inr (13, mX13 q0 (upd (upd (upd v0 35 (u0_ 0)) 36 0) 37 (u0_ 0)))), ((q0 0), zi k1 600 f1)] H := hP
        have hD9 : va_D A [(h0, .inr (13, mX13 q0 (upd (upd (upd v0 35 (u0_ 0)) 36 0) 37 (u0_ 0)))), ((q0 0), zi k1 600 f1)] := hD
        exact W.vret hx hb hr (fun t ht hW => ⟨⟨(fun i => ([(u0_ 0), 0, (u0_ 0)] : List (Int32)).getD i 0), rfl, hpost, (fun _ => 0), (fun _ => (fun _ => 0)), (fun _ => (fun _ => 0)), by rw [ht]; exact hP9, va_K.moved hW.alike hK, hD9⟩, hS.F ht⟩) hS.2.2 dX13_look1_168
    · skip
      have b_ := zF_ge rfl rfl c_
      refine lv_aload_n hx hb dX13_look1_11 rfl (lv_at hl 0 rfl) ?_
      refine lv_aload_n hx hb dX13_look1_12 rfl (lv_at hl 0 rfl) ?_
      refine va_get (D := (dC, dI)) (ci := 13) (v := .ref (q0 0)) (C := RX13) (T := TX13) (N := 75) hx hb hG zuX13 hown hK hP 0 rfl rfl 0 (by decide) (hG _ zv1604) (fun _ h9 => h9) rfl dX13_look1_13 ?_
      refine lv_aload_n hx hb dX13_look1_16 rfl (lv_at hl 0 rfl) ?_
      refine va_get (D := (dC, dI)) (ci := 13) (v := .int (u0_ 0)) (C := RX13) (T := TX13) (N := 75) hx hb hG zuX13 hown hK hP 0 rfl rfl 35 (by decide) (hG _ zv1639) (fun _ h9 => h9) rfl dX13_look1_17 ?_
      refine va_bald hx hb hK hP 1 0 rfl rfl (zin_lit ⟨by omega, by omega⟩) dX13_look1_20 ?_
      refine lv_topi (fun z20 e_z20 => ?_)
      have hPc := hP.sub (ws' := []) [] rfl
      have hDc := hD.sub (ws' := []) [] (by decide) rfl
      have hKc := hK.sub (tys' := []) [] rfl
      have hFc := va_free (wc := []) hD hS hA [] rfl
      refine va_calli (va_runV (As := [.int z20]) (rest := []) ⟨hx, hb, hml, hown, hG⟩ (sX13_isBlank_0 l dC dI adK adV h0 H.size z20) (cwV 1 hG (zgV zv2046 zv2048 zv82 zv142 zv2049) rfl rfl rfl (by decide +kernel) ⟨Nat.le_of_ble_eq_true rfl, Nat.le_of_ble_eq_true rfl⟩) ⟨zPc_blind, va_recv hK hP (ci := 13) (q0 := 0) rfl rfl, zPc_pre hPc hKc hDc hE hS hFc hZ⟩ rfl rfl hl.1 rfl (lv_room (Nat.le_of_ble_eq_true rfl)) dX13_look1_21 ⟨Nat.le_of_ble_eq_true rfl, Nat.le_of_ble_eq_true rfl⟩) hS (fun q _ h => hFc q h) hFc (fun r21_ u21_ t H1 locs ht hvm hw hB hz1 hk1 hS => ?_)
      replace hw : (0 ≤ r21_.toInt ∧ r21_.toInt ≤ 1) ∧ (r21_.toInt = 1 → zqBk z20.toInt) ∧ (r21_.toInt = 0 → ¬ zqBk z20.toInt) := hw
      obtain ⟨b_, hX21_0, hX21_1⟩ := hw
      obtain ⟨w21_, a21_, b21_, hP1, hK1, hD1⟩ := hB
      rw [ht] at hP1
      obtain ⟨hP, hD⟩ := va_join (wr := [(h0, .inr (13, mX13 q0 (upd v0 35 (u0_ 0)))), ((q0 0), zi k1 600 f1)]) (w1 := []) hP hD [] [0, 1] rfl rfl (by decide) (by decide) hk1 hFc hP1 hD1
      have hP : va_P (dC, dI) vwCl [(h0, .inr (13, mX13 q0 (upd v0 35 (u0_ 0)))), ((q0 0), zi k1 600 f1)] H1 := hP.sub [0, 1] rfl
      have hD : va_D A [(h0, .inr (13, mX13 q0 (upd v0 35 (u0_ 0)))), ((q0 0), zi k1 600 f1)] := hD.sub [0, 1] (by decide) rfl
      generalize H1 = H at hP hS ⊢
      clear hz1
      refine lv_if_eq (tgt := 40) hx hb dX13_look1_24 (by decide) (fun c_ => ?_) (fun c_ => ?_)
      · skip
        have b_ := zT_eq rfl zk_0 c_
        refine lv_aload_n hx hb dX13_look1_40 rfl (lv_at hl 0 rfl) ?_
        refine lv_aload_n hx hb dX13_look1_41 rfl (lv_at hl 0 rfl) ?_
        refine va_get (D := (dC, dI)) (ci := 13) (v := .int (u0_ 0)) (C := RX13) (T := TX13) (N := 75) hx hb hG zuX13 hown hK hP 0 rfl rfl 35 (by decide) (hG _ zv1639) (fun _ h9 => h9) rfl dX13_look1_42 ?_
        refine va_put (D := (dC, dI)) (ci := 13) (v := .int (u0_ 0)) (ty := .int) (C := RX13) (T := TX13) (N := 75) hx hb hG zuX13 tyX13 tyX13_ok nmX13 hown hK hP hD hS 0 rfl rfl 37 (by decide) (hG _ zv1641) (fun _ h9 => h9) rfl (by decide +kernel) rfl rfl (Nat.le_of_ble_eq_true rfl) dX13_look1_45 (fun H locs hP hD hS => ?_)
        have hP : va_P (dC, dI) vwCl [(h0, .inr (13, mX13 q0 (upd (upd v0 35 (u0_ 0)) 37 (u0_ 0)))), ((q0 0), zi k1 600 f1)] H := hP
        have hD : va_D A [(h0, .inr (13, mX13 q0 (upd (upd v0 35 (u0_ 0)) 37 (u0_ 0)))), ((q0 0), zi k1 600 f1)] := hD
        refine lv_aload_n hx hb dX13_look1_48 rfl (lv_at hl 0 rfl) ?_
        refine va_get (D := (dC, dI)) (ci := 13) (v := .int (u0_ 0)) (C := RX13) (T := TX13) (N := 75) hx hb hG zuX13 hown hK hP 0 rfl rfl 37 (by decide) (hG _ zv1641) (fun _ h9 => h9) rfl dX13_look1_49 ?_
        refine lv_aload_n hx hb dX13_look1_52 rfl (lv_at hl 0 rfl) ?_
        refine va_get (D := (dC, dI)) (ci := 13) (v := .int (v0 34)) (C := RX13) (T := TX13) (N := 75) hx hb hG zuX13 hown hK hP 0 rfl rfl 34 (by decide) (hG _ zv1638) (fun _ h9 => h9) rfl dX13_look1_53 ?_
        refine lv_icmp_ne (tgt := 67) hx hb dX13_look1_56 (by decide) (fun c_ => ?_) (fun c_ => ?_)
        · skip
          have b_ := zT_ne rfl rfl c_
          refine lv_aload_n hx hb dX13_look1_67 rfl (lv_at hl 0 rfl) ?_
          refine va_get (D := (dC, dI)) (ci := 13) (v := .ref (q0 0)) (C := RX13) (T := TX13) (N := 75) hx hb hG zuX13 hown hK hP 0 rfl rfl 0 (by decide) (hG _ zv1604) (fun _ h9 => h9) rfl dX13_look1_68 ?_
          refine lv_aload_n hx hb dX13_look1_71 rfl (lv_at hl 0 rfl) ?_
          refine va_get (D := (dC, dI)) (ci := 13) (v := .int (u0_ 0)) (C := RX13) (T := TX13) (N := 75) hx hb hG zuX13 hown hK hP 0 rfl rfl 37 (by decide) (hG _ zv1641) (fun _ h9 => h9) rfl dX13_look1_72 ?_
          refine va_bald hx hb hK hP 1 0 rfl rfl (zin_lit ⟨by omega, by omega⟩) dX13_look1_75 ?_
          refine lv_topi (fun z75 e_z75 => ?_)
          have hPc := hP.sub (ws' := []) [] rfl
          have hDc := hD.sub (ws' := []) [] (by decide) rfl
          have hKc := hK.sub (tys' := []) [] rfl
          have hFc := va_free (wc := []) hD hS hA [] rfl
          refine va_calli (va_runS (As := [.int z75]) (rest := []) ⟨hx, hb, hml, hown, hG⟩ (sX13_isToken_0 l dC dI adK adV H.size z75) (va_cwS 1 hG (zgS zv1850 zv1851 zv142 zv1852) rfl rfl rfl (by decide +kernel) ⟨Nat.le_of_ble_eq_true rfl, Nat.le_of_ble_eq_true rfl⟩) ⟨zPc_blind, zPc_pre hPc hKc hDc hE hS hFc hZ⟩ rfl rfl hl.1 rfl (lv_room (Nat.le_of_ble_eq_true rfl)) dX13_look1_76 ⟨Nat.le_of_ble_eq_true rfl, Nat.le_of_ble_eq_true rfl⟩) hS (fun q _ h => hFc q h) hFc (fun r76_ u76_ t H1 locs ht hvm hw hB hz1 hk1 hS => ?_)
          replace hw : (0 ≤ r76_.toInt ∧ r76_.toInt ≤ 1) ∧ (r76_.toInt = 1 → zTok z75.toInt) ∧ (r76_.toInt = 0 → ¬ zTok z75.toInt) := hw
          obtain ⟨b_, hX76_0, hX76_1⟩ := hw
          obtain ⟨w76_, a76_, b76_, hP1, hK1, hD1⟩ := hB
          rw [ht] at hP1
          obtain ⟨hP, hD⟩ := va_join (wr := [(h0, .inr (13, mX13 q0 (upd (upd v0 35 (u0_ 0)) 37 (u0_ 0)))), ((q0 0), zi k1 600 f1)]) (w1 := []) hP hD [] [0, 1] rfl rfl (by decide) (by decide) hk1 hFc hP1 hD1
          have hP : va_P (dC, dI) vwCl [(h0, .inr (13, mX13 q0 (upd (upd v0 35 (u0_ 0)) 37 (u0_ 0)))), ((q0 0), zi k1 600 f1)] H1 := hP.sub [0, 1] rfl
          have hD : va_D A [(h0, .inr (13, mX13 q0 (upd (upd v0 35 (u0_ 0)) 37 (u0_ 0)))), ((q0 0), zi k1 600 f1)] := hD.sub [0, 1] (by decide) rfl
          generalize H1 = H at hP hS ⊢
          clear hz1
          refine lv_if_eq (tgt := 106) hx hb dX13_look1_79 (by decide) (fun c_ => ?_) (fun c_ => ?_)
          · skip
            have b_ := zT_eq rfl zk_0 c_
            refine lv_aload_n hx hb dX13_look1_106 rfl (lv_at hl 0 rfl) ?_
            refine va_get (D := (dC, dI)) (ci := 13) (v := .ref (q0 0)) (C := RX13) (T := TX13) (N := 75) hx hb hG zuX13 hown hK hP 0 rfl rfl 0 (by decide) (hG _ zv1604) (fun _ h9 => h9) rfl dX13_look1_107 ?_
            refine lv_aload_n hx hb dX13_look1_110 rfl (lv_at hl 0 rfl) ?_
            refine va_get (D := (dC, dI)) (ci := 13) (v := .int (u0_ 0)) (C := RX13) (T := TX13) (N := 75) hx hb hG zuX13 hown hK hP 0 rfl rfl 37 (by decide) (hG _ zv1641) (fun _ h9 => h9) rfl dX13_look1_111 ?_
            refine va_bald hx hb hK hP 1 0 rfl rfl (zin_lit ⟨by omega, by omega⟩) dX13_look1_114 ?_
            refine lv_topi (fun z114 e_z114 => ?_)
            refine lv_bipush (v := 46) hx hb dX13_look1_115 (by decide) ?_
            have b_ : -2147483648 ≤ z114.toInt ∧ z114.toInt ≤ 2147483647 := ⟨zlo _, zhi _⟩
            refine lv_icmp_ne (tgt := 153) hx hb dX13_look1_117 (by decide) (fun c_ => ?_) (fun c_ => ?_)
            · skip
              have b_ := zT_ne rfl zk_46 c_
              refine lv_aload_n hx hb dX13_look1_153 rfl (lv_at hl 0 rfl) ?_
              refine lv_iconst (v := 2) hx hb dX13_look1_154 (by decide) ?_
              refine va_put (D := (dC, dI)) (ci := 13) (v := .int 2) (ty := .int) (C := RX13) (T := TX13) (N := 75) hx hb hG zuX13 tyX13 tyX13_ok nmX13 hown hK hP hD hS 0 rfl rfl 36 (by decide) (hG _ zv1640) (fun _ h9 => h9) rfl (by decide +kernel) rfl rfl (Nat.le_of_ble_eq_true rfl) dX13_look1_155 (fun H locs hP hD hS => ?_)
              have hP : va_P (dC, dI) vwCl [(h0, .inr (13, mX13 q0 (upd (upd (upd v0 35 (u0_ 0)) 36 2) 37 (u0_ 0)))), ((q0 0), zi k1 600 f1)] H := hP
              have hD : va_D A [(h0, .inr (13, mX13 q0 (upd (upd (upd v0 35 (u0_ 0)) 36 2) 37 (u0_ 0)))), ((q0 0), zi k1 600 f1)] := hD
              refine lv_aload_n hx hb dX13_look1_158 rfl (lv_at hl 0 rfl) ?_
              refine lv_aload_n hx hb dX13_look1_159 rfl (lv_at hl 0 rfl) ?_
              refine va_get (D := (dC, dI)) (ci := 13) (v := .int (u0_ 0)) (C := RX13) (T := TX13) (N := 75) hx hb hG zuX13 hown hK hP 0 rfl rfl 37 (by decide) (hG _ zv1641) (fun _ h9 => h9) rfl dX13_look1_160 ?_
              refine lv_iconst (v := 1) hx hb dX13_look1_163 (by decide) ?_
              refine lv_iadd hx hb dX13_look1_164 ?_
              refine lv_topi (fun z164 e_z164 => ?_)
              have b_ := zadd rfl zk_1 e_z164 (by omega) (by omega)
              refine va_put (D := (dC, dI)) (ci := 13) (v := .int z164) (ty := .int) (C := RX13) (T := TX13) (N := 75) hx hb hG zuX13 tyX13 tyX13_ok nmX13 hown hK hP hD hS 0 rfl rfl 35 (by decide) (hG _ zv1639) (fun _ h9 => h9) rfl (by decide +kernel) rfl rfl (Nat.le_of_ble_eq_true rfl) dX13_look1_165 (fun H locs hP hD hS => ?_)
              have hP : va_P (dC, dI) vwCl [(h0, .inr (13, mX13 q0 (upd (upd (upd v0 35 z164) 36 2) 37 (u0_ 0)))), ((q0 0), zi k1 600 f1)] H := hP
              have hD : va_D A [(h0, .inr (13, mX13 q0 (upd (upd (upd v0 35 z164) 36 2) 37 (u0_ 0)))), ((q0 0), zi k1 600 f1)] := hD
              refine W.widen (k := 0) (n := 0) (by decide) (by decide) ?_
              have hpost : (0 ≤ z164.toInt ∧ z164.toInt ≤ 600) ∧ (0 ≤ (2 : Int32).toInt ∧ (2 : Int32).toInt ≤ 3) ∧ (0 ≤ (u0_ 0).toInt ∧ (u0_ 0).toInt ≤ 600) ∧ (z164.toInt ≤ (v0 34).toInt) ∧ ((v0 35).toInt ≤ (u0_ 0).toInt) ∧ ((u0_ 0).toInt ≤ z164.toInt) ∧ ((2 : Int32).toInt ≠ 0 → (u0_ 0).toInt < z164.toInt) ∧ ((2 : Int32).toInt = 0 → (u0_ 0).toInt = (v0 34).toInt) ∧ (zBl f1 (v0 34).toInt (v0 35).toInt (u0_ 0).toInt) ∧ (zMl f1 (v0 34).toInt (u0_ 0).toInt (2 : Int32).toInt z164.toInt) := ⟨(by first | with_reducible assumption | exact ⟨by omega, by omega⟩), (by first | with_reducible assumption | exact ⟨by omega, by omega⟩), (by first | with_reducible assumption | exact ⟨by omega, by omega⟩), by omega, by omega, by omega, by omega, by omega, by first | exact ⟨by omega, hI0_2, fun h_ => by omega, by omega⟩ | exact ⟨by omega, hI0_2, fun h_ => by have b9 := hX21_1 (by omega); rw [e_z20] at b9; exact b9, by omega⟩, by first | exact Or.inl ⟨by omega, by first | omega | decide⟩ | exact Or.inr (Or.inl ⟨by omega, by have t_ := hX76_0 (by omega); rw [e_z75] at t_; exact t_, by first | omega | decide, ⟨by omega, hX97_5, hX97_3, by omega⟩⟩) | exact Or.inr (Or.inr (Or.inl ⟨by omega, fun t_ => hX76_1 (by omega) (by rw [e_z75]; exact t_), ⟨zgt e_z114 (by omega) (by omega), by omega, zgu (hX127_1 (by omega)) (by omega) (by omega)⟩, by first | omega | decide, by omega⟩)) | exact Or.inr (Or.inr (Or.inr ⟨by omega, fun t_ => hX76_1 (by omega) (by rw [e_z75]; exact t_), fun d_ => absurd ((zgt e_z114 (by omega) rfl).symm.trans d_.1) (by omega), by first | omega | decide, by omega⟩)) | exact Or.inr (Or.inr (Or.inr ⟨by omega, fun t_ => hX76_1 (by omega) (by rw [e_z75]; exact t_), fun d_ => absurd ((zgu (hX127_1 (by have d1_ := d_.2.1; omega)) (by omega) rfl).symm.trans d_.2.2) (by omega), by first | omega | decide, by omega⟩))⟩
              have hP9 : va_P (dC, dI) vwCl [(h0, .inr (13, mX13 q0 (upd (upd (upd v0 35 z164) 36 2) 37 (u0_ 0)))), ((q0 0), zi k1 600 f1)] H := hP
              have hD9 : va_D A [(h0, .inr (13, mX13 q0 (upd (upd (upd v0 35 z164) 36 2) 37 (u0_ 0)))), ((q0 0), zi k1 600 f1)] := hD
              exact W.vret hx hb hr (fun t ht hW => ⟨⟨(fun i => ([z164, 2, (u0_ 0)] : List (Int32)).getD i 0), rfl, hpost, (fun _ => 0), (fun _ => (fun _ => 0)), (fun _ => (fun _ => 0)), by rw [ht]; exact hP9, va_K.moved hW.alike hK, hD9⟩, hS.F ht⟩) hS.2.2 dX13_look1_168
            · skip
              have b_ := zF_ne rfl zk_46 c_
              refine lv_aload_n hx hb dX13_look1_120 rfl (lv_at hl 0 rfl) ?_
              refine lv_aload_n hx hb dX13_look1_121 rfl (lv_at hl 0 rfl) ?_
              refine va_get (D := (dC, dI)) (ci := 13) (v := .int (u0_ 0)) (C := RX13) (T := TX13) (N := 75) hx hb hG zuX13 hown hK hP 0 rfl rfl 37 (by decide) (hG _ zv1641) (fun _ h9 => h9) rfl dX13_look1_122 ?_
              refine lv_iconst (v := 1) hx hb dX13_look1_125 (by decide) ?_
              refine lv_iadd hx hb dX13_look1_126 ?_
              refine lv_topi (fun z126 e_z126 => ?_)
              have b_ := zadd rfl zk_1 e_z126 (by omega) (by omega)
              have hPc := hP.sub (ws' := [(h0, .inr (13, mX13 q0 (upd (upd v0 35 (u0_ 0)) 37 (u0_ 0)))), ((q0 0), zi k1 600 f1)]) [0, 1] rfl
              have hDc := hD.sub (ws' := [(h0, .inr (13, mX13 q0 (upd (upd v0 35 (u0_ 0)) 37 (u0_ 0)))), ((q0 0), zi k1 600 f1)]) [0, 1] (by decide) rfl
              have hKc := hK.sub (tys' := [(k1, .byte)]) [0] rfl
              have hFc := va_free (wc := [(h0, .inr (13, mX13 q0 (upd (upd v0 35 (u0_ 0)) 37 (u0_ 0)))), ((q0 0), zi k1 600 f1)]) hD hS hA [0, 1] rfl
              refine va_calli (va_runV (As := [.int z126]) (rest := []) ⟨hx, hb, hml, hown, hG⟩ (sX13_byteAt_0 l dC dI adK adV h0 q0 k1 H.size (upd (upd v0 35 (u0_ 0)) 37 (u0_ 0)) f1 z126 (zR_up2 (zR_up2 hv0 35 (show (0 : Int) ≤ ((u0_ 0) : Int32).toInt ∧ ((u0_ 0) : Int32).toInt ≤ (600 : Int) from (by first | with_reducible assumption | exact ⟨by omega, by omega⟩))) 37 (show (0 : Int) ≤ ((u0_ 0) : Int32).toInt ∧ ((u0_ 0) : Int32).toInt ≤ (600 : Int) from (by first | with_reducible assumption | exact ⟨by omega, by omega⟩))) (show (0 : Int) ≤ (z126 : Int32).toInt ∧ (z126 : Int32).toInt ≤ (602 : Int) from (by first | with_reducible assumption | exact ⟨by omega, by omega⟩))) (cwV 1 hG (zgV zv2050 zv2052 zv83 zv142 zv2053) rfl rfl rfl (by decide +kernel) ⟨Nat.le_of_ble_eq_true rfl, Nat.le_of_ble_eq_true rfl⟩) ⟨zPc_blind, va_recv hKc hPc (ci := 13) (q0 := 0) rfl rfl, zPc_pre hPc hKc hDc hE hS hFc hZ⟩ rfl rfl hl.1 rfl (lv_room (Nat.le_of_ble_eq_true rfl)) dX13_look1_127 ⟨Nat.le_of_ble_eq_true rfl, Nat.le_of_ble_eq_true rfl⟩) hS (fun q _ h => hFc q h) hFc (fun r127_ u127_ t H1 locs ht hvm hw hB hz1 hk1 hS => ?_)
              replace hw : (r127_.toInt ≠ 0 → z126.toInt < (v0 34).toInt) ∧ (z126.toInt < (v0 34).toInt → r127_.toInt = (f1 ((z126 : Int32)).toNatClampNeg).toInt) ∧ ((v0 34).toInt ≤ z126.toInt → r127_.toInt = 0) := hw
              obtain ⟨hX127_0, hX127_1, hX127_2⟩ := hw
              obtain ⟨w127_, a127_, b127_, hP1, hK1, hD1⟩ := hB
              rw [ht] at hP1
              obtain ⟨hP, hD⟩ := va_join (wr := []) (w1 := [(h0, .inr (13, mX13 q0 (upd (upd v0 35 (u0_ 0)) 37 (u0_ 0)))), ((q0 0), zi k1 600 f1)]) hP hD [0, 1] [] rfl rfl (by decide) (by decide) hk1 hFc hP1 hD1
              have hP : va_P (dC, dI) vwCl [(h0, .inr (13, mX13 q0 (upd (upd v0 35 (u0_ 0)) 37 (u0_ 0)))), ((q0 0), zi k1 600 f1)] H1 := hP.sub [0, 1] rfl
              have hD : va_D A [(h0, .inr (13, mX13 q0 (upd (upd v0 35 (u0_ 0)) 37 (u0_ 0)))), ((q0 0), zi k1 600 f1)] := hD.sub [0, 1] (by decide) rfl
              generalize H1 = H at hP hS ⊢
              clear hz1
              refine lv_bipush (v := 46) hx hb dX13_look1_130 (by decide) ?_
              have b_ : -2147483648 ≤ r127_.toInt ∧ r127_.toInt ≤ 2147483647 := ⟨zlo _, zhi _⟩
              refine lv_icmp_ne (tgt := 153) hx hb dX13_look1_132 (by decide) (fun c_ => ?_) (fun c_ => ?_)
              · skip
                have b_ := zT_ne rfl zk_46 c_
                refine lv_aload_n hx hb dX13_look1_153 rfl (lv_at hl 0 rfl) ?_
                refine lv_iconst (v := 2) hx hb dX13_look1_154 (by decide) ?_
                refine va_put (D := (dC, dI)) (ci := 13) (v := .int 2) (ty := .int) (C := RX13) (T := TX13) (N := 75) hx hb hG zuX13 tyX13 tyX13_ok nmX13 hown hK hP hD hS 0 rfl rfl 36 (by decide) (hG _ zv1640) (fun _ h9 => h9) rfl (by decide +kernel) rfl rfl (Nat.le_of_ble_eq_true rfl) dX13_look1_155 (fun H locs hP hD hS => ?_)
                have hP : va_P (dC, dI) vwCl [(h0, .inr (13, mX13 q0 (upd (upd (upd v0 35 (u0_ 0)) 36 2) 37 (u0_ 0)))), ((q0 0), zi k1 600 f1)] H := hP
                have hD : va_D A [(h0, .inr (13, mX13 q0 (upd (upd (upd v0 35 (u0_ 0)) 36 2) 37 (u0_ 0)))), ((q0 0), zi k1 600 f1)] := hD
                refine lv_aload_n hx hb dX13_look1_158 rfl (lv_at hl 0 rfl) ?_
                refine lv_aload_n hx hb dX13_look1_159 rfl (lv_at hl 0 rfl) ?_
                refine va_get (D := (dC, dI)) (ci := 13) (v := .int (u0_ 0)) (C := RX13) (T := TX13) (N := 75) hx hb hG zuX13 hown hK hP 0 rfl rfl 37 (by decide) (hG _ zv1641) (fun _ h9 => h9) rfl dX13_look1_160 ?_
                refine lv_iconst (v := 1) hx hb dX13_look1_163 (by decide) ?_
                refine lv_iadd hx hb dX13_look1_164 ?_
                refine lv_topi (fun z164 e_z164 => ?_)
                have b_ := zadd rfl zk_1 e_z164 (by omega) (by omega)
                refine va_put (D := (dC, dI)) (ci := 13) (v := .int z164) (ty := .int) (C := RX13) (T := TX13) (N := 75) hx hb hG zuX13 tyX13 tyX13_ok nmX13 hown hK hP hD hS 0 rfl rfl 35 (by decide) (hG _ zv1639) (fun _ h9 => h9) rfl (by decide +kernel) rfl rfl (Nat.le_of_ble_eq_true rfl) dX13_look1_165 (fun H locs hP hD hS => ?_)
                have hP : va_P (dC, dI) vwCl [(h0, .inr (13, mX13 q0 (upd (upd (upd v0 35 z164) 36 2) 37 (u0_ 0)))), ((q0 0), zi k1 600 f1)] H := hP
                have hD : va_D A [(h0, .inr (13, mX13 q0 (upd (upd (upd v0 35 z164) 36 2) 37 (u0_ 0)))), ((q0 0), zi k1 600 f1)] := hD
                refine W.widen (k := 0) (n := 0) (by decide) (by decide) ?_
                have hpost : (0 ≤ z164.toInt ∧ z164.toInt ≤ 600) ∧ (0 ≤ (2 : Int32).toInt ∧ (2 : Int32).toInt ≤ 3) ∧ (0 ≤ (u0_ 0).toInt ∧ (u0_ 0).toInt ≤ 600) ∧ (z164.toInt ≤ (v0 34).toInt) ∧ ((v0 35).toInt ≤ (u0_ 0).toInt) ∧ ((u0_ 0).toInt ≤ z164.toInt) ∧ ((2 : Int32).toInt ≠ 0 → (u0_ 0).toInt < z164.toInt) ∧ ((2 : Int32).toInt = 0 → (u0_ 0).toInt = (v0 34).toInt) ∧ (zBl f1 (v0 34).toInt (v0 35).toInt (u0_ 0).toInt) ∧ (zMl f1 (v0 34).toInt (u0_ 0).toInt (2 : Int32).toInt z164.toInt) := ⟨(by first | with_reducible assumption | exact ⟨by omega, by omega⟩), (by first | with_reducible assumption | exact ⟨by omega, by omega⟩), (by first | with_reducible assumption | exact ⟨by omega, by omega⟩), by omega, by omega, by omega, by omega, by omega, by first | exact ⟨by omega, hI0_2, fun h_ => by omega, by omega⟩ | exact ⟨by omega, hI0_2, fun h_ => by have b9 := hX21_1 (by omega); rw [e_z20] at b9; exact b9, by omega⟩, by first | exact Or.inl ⟨by omega, by first | omega | decide⟩ | exact Or.inr (Or.inl ⟨by omega, by have t_ := hX76_0 (by omega); rw [e_z75] at t_; exact t_, by first | omega | decide, ⟨by omega, hX97_5, hX97_3, by omega⟩⟩) | exact Or.inr (Or.inr (Or.inl ⟨by omega, fun t_ => hX76_1 (by omega) (by rw [e_z75]; exact t_), ⟨zgt e_z114 (by omega) (by omega), by omega, zgu (hX127_1 (by omega)) (by omega) (by omega)⟩, by first | omega | decide, by omega⟩)) | exact Or.inr (Or.inr (Or.inr ⟨by omega, fun t_ => hX76_1 (by omega) (by rw [e_z75]; exact t_), fun d_ => absurd ((zgt e_z114 (by omega) rfl).symm.trans d_.1) (by omega), by first | omega | decide, by omega⟩)) | exact Or.inr (Or.inr (Or.inr ⟨by omega, fun t_ => hX76_1 (by omega) (by rw [e_z75]; exact t_), fun d_ => absurd ((zgu (hX127_1 (by have d1_ := d_.2.1; omega)) (by omega) rfl).symm.trans d_.2.2) (by omega), by first | omega | decide, by omega⟩))⟩
                have hP9 : va_P (dC, dI) vwCl [(h0, .inr (13, mX13 q0 (upd (upd (upd v0 35 z164) 36 2) 37 (u0_ 0)))), ((q0 0), zi k1 600 f1)] H := hP
                have hD9 : va_D A [(h0, .inr (13, mX13 q0 (upd (upd (upd v0 35 z164) 36 2) 37 (u0_ 0)))), ((q0 0), zi k1 600 f1)] := hD
                exact W.vret hx hb hr (fun t ht hW => ⟨⟨(fun i => ([z164, 2, (u0_ 0)] : List (Int32)).getD i 0), rfl, hpost, (fun _ => 0), (fun _ => (fun _ => 0)), (fun _ => (fun _ => 0)), by rw [ht]; exact hP9, va_K.moved hW.alike hK, hD9⟩, hS.F ht⟩) hS.2.2 dX13_look1_168
              · skip
                have b_ := zF_ne rfl zk_46 c_
                refine lv_aload_n hx hb dX13_look1_135 rfl (lv_at hl 0 rfl) ?_
                refine lv_iconst (v := 3) hx hb dX13_look1_136 (by decide) ?_
                refine va_put (D := (dC, dI)) (ci := 13) (v := .int 3) (ty := .int) (C := RX13) (T := TX13) (N := 75) hx hb hG zuX13 tyX13 tyX13_ok nmX13 hown hK hP hD hS 0 rfl rfl 36 (by decide) (hG _ zv1640) (fun _ h9 => h9) rfl (by decide +kernel) rfl rfl (Nat.le_of_ble_eq_true rfl) dX13_look1_137 (fun H locs hP hD hS => ?_)
                have hP : va_P (dC, dI) vwCl [(h0, .inr (13, mX13 q0 (upd (upd (upd v0 35 (u0_ 0)) 36 3) 37 (u0_ 0)))), ((q0 0), zi k1 600 f1)] H := hP
                have hD : va_D A [(h0, .inr (13, mX13 q0 (upd (upd (upd v0 35 (u0_ 0)) 36 3) 37 (u0_ 0)))), ((q0 0), zi k1 600 f1)] := hD
                refine lv_aload_n hx hb dX13_look1_140 rfl (lv_at hl 0 rfl) ?_
                refine lv_aload_n hx hb dX13_look1_141 rfl (lv_at hl 0 rfl) ?_
                refine va_get (D := (dC, dI)) (ci := 13) (v := .int (u0_ 0)) (C := RX13) (T := TX13) (N := 75) hx hb hG zuX13 hown hK hP 0 rfl rfl 37 (by decide) (hG _ zv1641) (fun _ h9 => h9) rfl dX13_look1_142 ?_
                refine lv_iconst (v := 2) hx hb dX13_look1_145 (by decide) ?_
                refine lv_iadd hx hb dX13_look1_146 ?_
                refine lv_topi (fun z146 e_z146 => ?_)
                have b_ := zadd rfl zk_2 e_z146 (by omega) (by omega)
                have b_ : 0 ≤ z146.toInt ∧ z146.toInt ≤ 600 := ⟨by omega, by omega⟩
                refine va_put (D := (dC, dI)) (ci := 13) (v := .int z146) (ty := .int) (C := RX13) (T := TX13) (N := 75) hx hb hG zuX13 tyX13 tyX13_ok nmX13 hown hK hP hD hS 0 rfl rfl 35 (by decide) (hG _ zv1639) (fun _ h9 => h9) rfl (by decide +kernel) rfl rfl (Nat.le_of_ble_eq_true rfl) dX13_look1_147 (fun H locs hP hD hS => ?_)
                have hP : va_P (dC, dI) vwCl [(h0, .inr (13, mX13 q0 (upd (upd (upd v0 35 z146) 36 3) 37 (u0_ 0)))), ((q0 0), zi k1 600 f1)] H := hP
                have hD : va_D A [(h0, .inr (13, mX13 q0 (upd (upd (upd v0 35 z146) 36 3) 37 (u0_ 0)))), ((q0 0), zi k1 600 f1)] := hD
                refine lv_goto (tgt := 168) hx hb dX13_look1_150 (by decide) ?_
                refine W.widen (k := 0) (n := 0) (by decide) (by decide) ?_
                have hpost : (0 ≤ z146.toInt ∧ z146.toInt ≤ 600) ∧ (0 ≤ (3 : Int32).toInt ∧ (3 : Int32).toInt ≤ 3) ∧ (0 ≤ (u0_ 0).toInt ∧ (u0_ 0).toInt ≤ 600) ∧ (z146.toInt ≤ (v0 34).toInt) ∧ ((v0 35).toInt ≤ (u0_ 0).toInt) ∧ ((u0_ 0).toInt ≤ z146.toInt) ∧ ((3 : Int32).toInt ≠ 0 → (u0_ 0).toInt < z146.toInt) ∧ ((3 : Int32).toInt = 0 → (u0_ 0).toInt = (v0 34).toInt) ∧ (zBl f1 (v0 34).toInt (v0 35).toInt (u0_ 0).toInt) ∧ (zMl f1 (v0 34).toInt (u0_ 0).toInt (3 : Int32).toInt z146.toInt) := ⟨(by first | with_reducible assumption | exact ⟨by omega, by omega⟩), (by first | with_reducible assumption | exact ⟨by omega, by omega⟩), (by first | with_reducible assumption | exact ⟨by omega, by omega⟩), by omega, by omega, by omega, by omega, by omega, by first | exact ⟨by omega, hI0_2, fun h_ => by omega, by omega⟩ | exact ⟨by omega, hI0_2, fun h_ => by have b9 := hX21_1 (by omega); rw [e_z20] at b9; exact b9, by omega⟩, by first | exact Or.inl ⟨by omega, by first | omega | decide⟩ | exact Or.inr (Or.inl ⟨by omega, by have t_ := hX76_0 (by omega); rw [e_z75] at t_; exact t_, by first | omega | decide, ⟨by omega, hX97_5, hX97_3, by omega⟩⟩) | exact Or.inr (Or.inr (Or.inl ⟨by omega, fun t_ => hX76_1 (by omega) (by rw [e_z75]; exact t_), ⟨zgt e_z114 (by omega) (by omega), by omega, zgu (hX127_1 (by omega)) (by omega) (by omega)⟩, by first | omega | decide, by omega⟩)) | exact Or.inr (Or.inr (Or.inr ⟨by omega, fun t_ => hX76_1 (by omega) (by rw [e_z75]; exact t_), fun d_ => absurd ((zgt e_z114 (by omega) rfl).symm.trans d_.1) (by omega), by first | omega | decide, by omega⟩)) | exact Or.inr (Or.inr (Or.inr ⟨by omega, fun t_ => hX76_1 (by omega) (by rw [e_z75]; exact t_), fun d_ => absurd ((zgu (hX127_1 (by have d1_ := d_.2.1; omega)) (by omega) rfl).symm.trans d_.2.2) (by omega), by first | omega | decide, by omega⟩))⟩
                have hP9 : va_P (dC, dI) vwCl [(h0, .inr (13, mX13 q0 (upd (upd (upd v0 35 z146) 36 3) 37 (u0_ 0)))), ((q0 0), zi k1 600 f1)] H := hP
                have hD9 : va_D A [(h0, .inr (13, mX13 q0 (upd (upd (upd v0 35 z146) 36 3) 37 (u0_ 0)))), ((q0 0), zi k1 600 f1)] := hD
                exact W.vret hx hb hr (fun t ht hW => ⟨⟨(fun i => ([z146, 3, (u0_ 0)] : List (Int32)).getD i 0), rfl, hpost, (fun _ => 0), (fun _ => (fun _ => 0)), (fun _ => (fun _ => 0)), by rw [ht]; exact hP9, va_K.moved hW.alike hK, hD9⟩, hS.F ht⟩) hS.2.2 dX13_look1_168
          · skip
            have b_ := zF_eq rfl zk_0 c_
            refine lv_aload_n hx hb dX13_look1_82 rfl (lv_at hl 0 rfl) ?_
            refine lv_iconst (v := 1) hx hb dX13_look1_83 (by decide) ?_
            refine va_put (D := (dC, dI)) (ci := 13) (v := .int 1) (ty := .int) (C := RX13) (T := TX13) (N := 75) hx hb hG zuX13 tyX13 tyX13_ok nmX13 hown hK hP hD hS 0 rfl rfl 36 (by decide) (hG _ zv1640) (fun _ h9 => h9) rfl (by decide +kernel) rfl rfl (Nat.le_of_ble_eq_true rfl) dX13_look1_84 (fun H locs hP hD hS => ?_)
            have hP : va_P (dC, dI) vwCl [(h0, .inr (13, mX13 q0 (upd (upd (upd v0 35 (u0_ 0)) 36 1) 37 (u0_ 0)))), ((q0 0), zi k1 600 f1)] H := hP
            have hD : va_D A [(h0, .inr (13, mX13 q0 (upd (upd (upd v0 35 (u0_ 0)) 36 1) 37 (u0_ 0)))), ((q0 0), zi k1 600 f1)] := hD
            refine lv_aload_n hx hb dX13_look1_87 rfl (lv_at hl 0 rfl) ?_
            refine lv_aload_n hx hb dX13_look1_88 rfl (lv_at hl 0 rfl) ?_
            refine lv_aload_n hx hb dX13_look1_89 rfl (lv_at hl 0 rfl) ?_
            refine va_get (D := (dC, dI)) (ci := 13) (v := .int (u0_ 0)) (C := RX13) (T := TX13) (N := 75) hx hb hG zuX13 hown hK hP 0 rfl rfl 37 (by decide) (hG _ zv1641) (fun _ h9 => h9) rfl dX13_look1_90 ?_
            refine lv_aload_n hx hb dX13_look1_93 rfl (lv_at hl 0 rfl) ?_
            refine va_get (D := (dC, dI)) (ci := 13) (v := .int (v0 34)) (C := RX13) (T := TX13) (N := 75) hx hb hG zuX13 hown hK hP 0 rfl rfl 34 (by decide) (hG _ zv1638) (fun _ h9 => h9) rfl dX13_look1_94 ?_
            have hPc := hP.sub (ws' := [(h0, .inr (13, mX13 q0 (upd (upd (upd v0 35 (u0_ 0)) 36 1) 37 (u0_ 0)))), ((q0 0), zi k1 600 f1)]) [0, 1] rfl
            have hDc := hD.sub (ws' := [(h0, .inr (13, mX13 q0 (upd (upd (upd v0 35 (u0_ 0)) 36 1) 37 (u0_ 0)))), ((q0 0), zi k1 600 f1)]) [0, 1] (by decide) rfl
            have hKc := hK.sub (tys' := [(k1, .byte)]) [0] rfl
            have hFc := va_free (wc := [(h0, .inr (13, mX13 q0 (upd (upd (upd v0 35 (u0_ 0)) 36 1) 37 (u0_ 0)))), ((q0 0), zi k1 600 f1)]) hD hS hA [0, 1] rfl
            refine va_calli (va_runV (As := [.int (u0_ 0), .int (v0 34)]) (rest := [.ref h0]) ⟨hx, hb, hml, hown, hG⟩ (sX13_runEnd_0 l dC dI adK adV h0 q0 k1 H.size (upd (upd (upd v0 35 (u0_ 0)) 36 1) 37 (u0_ 0)) f1 (u0_ 0) (v0 34) (zR_up2 (zR_upd (zR_up2 hv0 35 (show (0 : Int) ≤ ((u0_ 0) : Int32).toInt ∧ ((u0_ 0) : Int32).toInt ≤ (600 : Int) from (by first | with_reducible assumption | exact ⟨by omega, by omega⟩))) 36 (show (0 : Int) ≤ (1 : Int32).toInt from by decide) (show (1 : Int32).toInt ≤ (3 : Int) from by decide)) 37 (show (0 : Int) ≤ ((u0_ 0) : Int32).toInt ∧ ((u0_ 0) : Int32).toInt ≤ (600 : Int) from (by first | with_reducible assumption | exact ⟨by omega, by omega⟩))) (show (0 : Int) ≤ ((u0_ 0) : Int32).toInt ∧ ((u0_ 0) : Int32).toInt ≤ (600 : Int) from (by first | with_reducible assumption | exact ⟨by omega, by omega⟩)) (show (0 : Int) ≤ ((v0 34) : Int32).toInt ∧ ((v0 34) : Int32).toInt ≤ (600 : Int) from (by first | with_reducible assumption | exact ⟨by omega, by omega⟩))) (cwV 2 hG (zgV zv1862 zv1864 zv51 zv142 zv1865) rfl rfl rfl (by decide +kernel) ⟨Nat.le_of_ble_eq_true rfl, Nat.le_of_ble_eq_true rfl⟩) ⟨zPc_blind, va_recv hKc hPc (ci := 13) (q0 := 0) rfl rfl, zPc_pre hPc hKc hDc hE hS hFc hZ⟩ rfl rfl hl.1 rfl (lv_room (Nat.le_of_ble_eq_true rfl)) dX13_look1_97 ⟨Nat.le_of_ble_eq_true rfl, Nat.le_of_ble_eq_true rfl⟩) hS (fun q _ h => hFc q h) hFc (fun r97_ u97_ t H1 locs ht hvm hw hB hz1 hk1 hS => ?_)
            replace hw : (0 ≤ r97_.toInt ∧ r97_.toInt ≤ 600) ∧ ((u0_ 0).toInt ≤ r97_.toInt) ∧ (r97_.toInt ≤ (v0 34).toInt ∨ r97_.toInt = (u0_ 0).toInt) ∧ (r97_.toInt ≤ 600) ∧ (r97_.toInt < (v0 34).toInt → ¬ zTok (f1 ((r97_ : Int32)).toNatClampNeg).toInt) ∧ ((u0_ 0).toInt < (v0 34).toInt → zTok (f1 (((u0_ 0) : Int32)).toNatClampNeg).toInt → (u0_ 0).toInt < r97_.toInt) ∧ (zAt f1 (u0_ 0).toInt r97_.toInt) := hw
            obtain ⟨b_, hX97_0, hX97_1, hX97_2, hX97_3, hX97_4, hX97_5⟩ := hw
            obtain ⟨w97_, a97_, b97_, hP1, hK1, hD1⟩ := hB
            rw [ht] at hP1
            obtain ⟨hP, hD⟩ := va_join (wr := []) (w1 := [(h0, .inr (13, mX13 q0 (upd (upd (upd v0 35 (u0_ 0)) 36 1) 37 (u0_ 0)))), ((q0 0), zi k1 600 f1)]) hP hD [0, 1] [] rfl rfl (by decide) (by decide) hk1 hFc hP1 hD1
            have hP : va_P (dC, dI) vwCl [(h0, .inr (13, mX13 q0 (upd (upd (upd v0 35 (u0_ 0)) 36 1) 37 (u0_ 0)))), ((q0 0), zi k1 600 f1)] H1 := hP.sub [0, 1] rfl
            have hD : va_D A [(h0, .inr (13, mX13 q0 (upd (upd (upd v0 35 (u0_ 0)) 36 1) 37 (u0_ 0)))), ((q0 0), zi k1 600 f1)] := hD.sub [0, 1] (by decide) rfl
            generalize H1 = H at hP hS ⊢
            clear hz1
            have b_ := hX97_4 (by omega) (by rw [← e_z75]; exact hX76_0 (by omega))
            refine va_put (D := (dC, dI)) (ci := 13) (v := .int r97_) (ty := .int) (C := RX13) (T := TX13) (N := 75) hx hb hG zuX13 tyX13 tyX13_ok nmX13 hown hK hP hD hS 0 rfl rfl 35 (by decide) (hG _ zv1639) (fun _ h9 => h9) rfl (by decide +kernel) rfl rfl (Nat.le_of_ble_eq_true rfl) dX13_look1_100 (fun H locs hP hD hS => ?_)
            have hP : va_P (dC, dI) vwCl [(h0, .inr (13, mX13 q0 (upd (upd (upd v0 35 r97_) 36 1) 37 (u0_ 0)))), ((q0 0), zi k1 600 f1)] H := hP
            have hD : va_D A [(h0, .inr (13, mX13 q0 (upd (upd (upd v0 35 r97_) 36 1) 37 (u0_ 0)))), ((q0 0), zi k1 600 f1)] := hD
            refine lv_goto (tgt := 168) hx hb dX13_look1_103 (by decide) ?_
            refine W.widen (k := 0) (n := 0) (by decide) (by decide) ?_
            have hpost : (0 ≤ r97_.toInt ∧ r97_.toInt ≤ 600) ∧ (0 ≤ (1 : Int32).toInt ∧ (1 : Int32).toInt ≤ 3) ∧ (0 ≤ (u0_ 0).toInt ∧ (u0_ 0).toInt ≤ 600) ∧ (r97_.toInt ≤ (v0 34).toInt) ∧ ((v0 35).toInt ≤ (u0_ 0).toInt) ∧ ((u0_ 0).toInt ≤ r97_.toInt) ∧ ((1 : Int32).toInt ≠ 0 → (u0_ 0).toInt < r97_.toInt) ∧ ((1 : Int32).toInt = 0 → (u0_ 0).toInt = (v0 34).toInt) ∧ (zBl f1 (v0 34).toInt (v0 35).toInt (u0_ 0).toInt) ∧ (zMl f1 (v0 34).toInt (u0_ 0).toInt (1 : Int32).toInt r97_.toInt) := ⟨(by first | with_reducible assumption | exact ⟨by omega, by omega⟩), (by first | with_reducible assumption | exact ⟨by omega, by omega⟩), (by first | with_reducible assumption | exact ⟨by omega, by omega⟩), by omega, by omega, by omega, by omega, by omega, by first | exact ⟨by omega, hI0_2, fun h_ => by omega, by omega⟩ | exact ⟨by omega, hI0_2, fun h_ => by have b9 := hX21_1 (by omega); rw [e_z20] at b9; exact b9, by omega⟩, by first | exact Or.inl ⟨by omega, by first | omega | decide⟩ | exact Or.inr (Or.inl ⟨by omega, by have t_ := hX76_0 (by omega); rw [e_z75] at t_; exact t_, by first | omega | decide, ⟨by omega, hX97_5, hX97_3, by omega⟩⟩) | exact Or.inr (Or.inr (Or.inl ⟨by omega, fun t_ => hX76_1 (by omega) (by rw [e_z75]; exact t_), ⟨zgt e_z114 (by omega) (by omega), by omega, zgu (hX127_1 (by omega)) (by omega) (by omega)⟩, by first | omega | decide, by omega⟩)) | exact Or.inr (Or.inr (Or.inr ⟨by omega, fun t_ => hX76_1 (by omega) (by rw [e_z75]; exact t_), fun d_ => absurd ((zgt e_z114 (by omega) rfl).symm.trans d_.1) (by omega), by first | omega | decide, by omega⟩)) | exact Or.inr (Or.inr (Or.inr ⟨by omega, fun t_ => hX76_1 (by omega) (by rw [e_z75]; exact t_), fun d_ => absurd ((zgu (hX127_1 (by have d1_ := d_.2.1; omega)) (by omega) rfl).symm.trans d_.2.2) (by omega), by first | omega | decide, by omega⟩))⟩
            have hP9 : va_P (dC, dI) vwCl [(h0, .inr (13, mX13 q0 (upd (upd (upd v0 35 r97_) 36 1) 37 (u0_ 0)))), ((q0 0), zi k1 600 f1)] H := hP
            have hD9 : va_D A [(h0, .inr (13, mX13 q0 (upd (upd (upd v0 35 r97_) 36 1) 37 (u0_ 0)))), ((q0 0), zi k1 600 f1)] := hD
            exact W.vret hx hb hr (fun t ht hW => ⟨⟨(fun i => ([r97_, 1, (u0_ 0)] : List (Int32)).getD i 0), rfl, hpost, (fun _ => 0), (fun _ => (fun _ => 0)), (fun _ => (fun _ => 0)), by rw [ht]; exact hP9, va_K.moved hW.alike hK, hD9⟩, hS.F ht⟩) hS.2.2 dX13_look1_168
        · skip
          have b_ := zF_ne rfl rfl c_
          refine lv_aload_n hx hb dX13_look1_59 rfl (lv_at hl 0 rfl) ?_
          refine lv_iconst (v := 0) hx hb dX13_look1_60 (by decide) ?_
          refine va_put (D := (dC, dI)) (ci := 13) (v := .int 0) (ty := .int) (C := RX13) (T := TX13) (N := 75) hx hb hG zuX13 tyX13 tyX13_ok nmX13 hown hK hP hD hS 0 rfl rfl 36 (by decide) (hG _ zv1640) (fun _ h9 => h9) rfl (by decide +kernel) rfl rfl (Nat.le_of_ble_eq_true rfl) dX13_look1_61 (fun H locs hP hD hS => ?_)
          have hP : va_P (dC, dI) vwCl [(h0, .inr (13, mX13 q0 (upd (upd (upd v0 35 (u0_ 0)) 36 0) 37 (u0_ 0)))), ((q0 0), zi k1 600 f1)] H := hP
          have hD : va_D A [(h0, .inr (13, mX13 q0 (upd (upd (upd v0 35 (u0_ 0)) 36 0) 37 (u0_ 0)))), ((q0 0), zi k1 600 f1)] := hD
          refine lv_goto (tgt := 168) hx hb dX13_look1_64 (by decide) ?_
          refine W.widen (k := 0) (n := 0) (by decide) (by decide) ?_
          have hpost : (0 ≤ (u0_ 0).toInt ∧ (u0_ 0).toInt ≤ 600) ∧ (0 ≤ (0 : Int32).toInt ∧ (0 : Int32).toInt ≤ 3) ∧ (0 ≤ (u0_ 0).toInt ∧ (u0_ 0).toInt ≤ 600) ∧ ((u0_ 0).toInt ≤ (v0 34).toInt) ∧ ((v0 35).toInt ≤ (u0_ 0).toInt) ∧ ((u0_ 0).toInt ≤ (u0_ 0).toInt) ∧ ((0 : Int32).toInt ≠ 0 → (u0_ 0).toInt < (u0_ 0).toInt) ∧ ((0 : Int32).toInt = 0 → (u0_ 0).toInt = (v0 34).toInt) ∧ (zBl f1 (v0 34).toInt (v0 35).toInt (u0_ 0).toInt) ∧ (zMl f1 (v0 34).toInt (u0_ 0).toInt (0 : Int32).toInt (u0_ 0).toInt) := ⟨(by first | with_reducible assumption | exact ⟨by omega, by omega⟩), (by first | with_reducible assumption | exact ⟨by omega, by omega⟩), (by first | with_reducible assumption | exact ⟨by omega, by omega⟩), by omega, by omega, by omega, by omega, by omega, by first | exact ⟨by omega, hI0_2, fun h_ => by omega, by omega⟩ | exact ⟨by omega, hI0_2, fun h_ => by have b9 := hX21_1 (by omega); rw [e_z20] at b9; exact b9, by omega⟩, by first | exact Or.inl ⟨by omega, by first | omega | decide⟩ | exact Or.inr (Or.inl ⟨by omega, by have t_ := hX76_0 (by omega); rw [e_z75] at t_; exact t_, by first | omega | decide, ⟨by omega, hX97_5, hX97_3, by omega⟩⟩) | exact Or.inr (Or.inr (Or.inl ⟨by omega, fun t_ => hX76_1 (by omega) (by rw [e_z75]; exact t_), ⟨zgt e_z114 (by omega) (by omega), by omega, zgu (hX127_1 (by omega)) (by omega) (by omega)⟩, by first | omega | decide, by omega⟩)) | exact Or.inr (Or.inr (Or.inr ⟨by omega, fun t_ => hX76_1 (by omega) (by rw [e_z75]; exact t_), fun d_ => absurd ((zgt e_z114 (by omega) rfl).symm.trans d_.1) (by omega), by first | omega | decide, by omega⟩)) | exact Or.inr (Or.inr (Or.inr ⟨by omega, fun t_ => hX76_1 (by omega) (by rw [e_z75]; exact t_), fun d_ => absurd ((zgu (hX127_1 (by have d1_ := d_.2.1; omega)) (by omega) rfl).symm.trans d_.2.2) (by omega), by first | omega | decide, by omega⟩))⟩
          have hP9 : va_P (dC, dI) vwCl [(h0, .inr (13, mX13 q0 (upd (upd (upd v0 35 (u0_ 0)) 36 0) 37 (u0_ 0)))), ((q0 0), zi k1 600 f1)] H := hP
          have hD9 : va_D A [(h0, .inr (13, mX13 q0 (upd (upd (upd v0 35 (u0_ 0)) 36 0) 37 (u0_ 0)))), ((q0 0), zi k1 600 f1)] := hD
          exact W.vret hx hb hr (fun t ht hW => ⟨⟨(fun i => ([(u0_ 0), 0, (u0_ 0)] : List (Int32)).getD i 0), rfl, hpost, (fun _ => 0), (fun _ => (fun _ => 0)), (fun _ => (fun _ => 0)), by rw [ht]; exact hP9, va_K.moved hW.alike hK, hD9⟩, hS.F ht⟩) hS.2.2 dX13_look1_168
      · skip
        have b_ := zF_eq rfl zk_0 c_
        refine lv_aload_n hx hb dX13_look1_27 rfl (lv_at hl 0 rfl) ?_
        refine lv_dup hx hb dX13_look1_28 rfl ?_
        refine va_get (D := (dC, dI)) (ci := 13) (v := .int (u0_ 0)) (C := RX13) (T := TX13) (N := 75) hx hb hG zuX13 hown hK hP 0 rfl rfl 35 (by decide) (hG _ zv1639) (fun _ h9 => h9) rfl dX13_look1_29 ?_
        refine lv_iconst (v := 1) hx hb dX13_look1_32 (by decide) ?_
        refine lv_iadd hx hb dX13_look1_33 ?_
        refine lv_topi (fun z33 e_z33 => ?_)
        have b_ := zadd rfl zk_1 e_z33 (by omega) (by omega)
        refine va_put (D := (dC, dI)) (ci := 13) (v := .int z33) (ty := .int) (C := RX13) (T := TX13) (N := 75) hx hb hG zuX13 tyX13 tyX13_ok nmX13 hown hK hP hD hS 0 rfl rfl 35 (by decide) (hG _ zv1639) (fun _ h9 => h9) rfl (by decide +kernel) rfl rfl (Nat.le_of_ble_eq_true rfl) dX13_look1_34 (fun H locs hP hD hS => ?_)
        have hP : va_P (dC, dI) vwCl [(h0, .inr (13, mX13 q0 (upd v0 35 z33))), ((q0 0), zi k1 600 f1)] H := hP
        have hD : va_D A [(h0, .inr (13, mX13 q0 (upd v0 35 z33))), ((q0 0), zi k1 600 f1)] := hD
        refine lv_goto (tgt := 0) hx hb dX13_look1_37 (by decide) ?_
        have hc : va_P (dC, dI) vwCl [(h0, .inr (13, mX13 q0 (upd v0 35 z33))), ((q0 0), zi k1 600 f1)] H ∧ va_D A [(h0, .inr (13, mX13 q0 (upd v0 35 z33))), ((q0 0), zi k1 600 f1)] ∧ va_S A s.heap H locs ∧ lv_has ls 1 [(0, .ref h0)] ∧ (0 ≤ z33.toInt ∧ z33.toInt ≤ 600) ∧ (z33.toInt ≤ (v0 34).toInt) ∧ ((v0 35).toInt ≤ z33.toInt) ∧ (zBq f1 (v0 35).toInt z33.toInt) := ⟨hP, hD, hS, lv_sub hl [0] rfl, (by first | with_reducible assumption | exact ⟨by omega, by omega⟩), by omega, by omega, by first | exact zBq_0 (by omega) | exact zBq_s (by assumption) e_z20 (hX21_0 (by omega)) (by omega) (by omega)⟩
        exact hJ0 H locs ls (fun i => ([z33] : List (Int32)).getD i 0) (fun _ => 0) (fun _ => (fun _ => 0)) (fun _ => (fun _ => 0)) hc (show (600 - z33.toInt).toNat < (600 - (u0_ 0).toInt).toNat from by omega)
  · skip
    have hc : va_P (dC, dI) vwCl [(h0, .inr (13, mX13 q0 (upd v0 35 (v0 35)))), ((q0 0), zi k1 600 f1)] s.heap ∧ va_D A [(h0, .inr (13, mX13 q0 (upd v0 35 (v0 35)))), ((q0 0), zi k1 600 f1)] ∧ va_S A s.heap s.heap [] ∧ lv_has ls 1 [(0, .ref h0)] ∧ (0 ≤ (v0 35).toInt ∧ (v0 35).toInt ≤ 600) ∧ ((v0 35).toInt ≤ (v0 34).toInt) ∧ ((v0 35).toInt ≤ (v0 35).toInt) ∧ (zBq f1 (v0 35).toInt (v0 35).toInt) := ⟨hP, hD, hS, lv_sub hl [0] rfl, (by first | with_reducible assumption | exact ⟨by omega, by omega⟩), by omega, by omega, by first | exact zBq_0 (by omega) | exact zBq_s (by assumption) e_z20 (hX21_0 (by omega)) (by omega) (by omega)⟩
    exact hJ0 s.heap [] ls (fun i => ([(v0 35)] : List (Int32)).getD i 0) (fun _ => 0) (fun _ => (fun _ => 0)) (fun _ => (fun _ => 0)) hc
set_option maxHeartbeats 8000000 in
set_option maxRecDepth 100000 in
theorem sX13_isSign_0 (l : Launch) (dC : Nat → ClassId) (dI : Nat → Nat → Nat) (adK adV : Nat → Nat) (h0 : Nat) (q0 : Nat → Nat) (k1 : ClassId) (sz : Nat) (v0 : Nat → Int32) (f1 : Nat → Int32) (x1 : Int32) (hv0 : zR rg_Model v0) (hp0_ : (v0 36).toInt ≠ 0 → (v0 37).toInt < (v0 34).toInt) : Met l yX13_isSign (zw yX13_isSign cX13_isSign 2 (some .boolean)) { frames := 0, cells := 0, slots := 0, locals := 0 } (zPc dC dI adK adV [.ref h0, .int x1] sz [(h0, .inr (13, mX13 q0 v0)), ((q0 0), zi k1 600 f1)] [(k1, .byte)]) (va_Qi (fun (r : Int32) (u : Nat → Int32) => (0 ≤ r.toInt ∧ r.toInt ≤ 1) ∧ (r.toInt = 1 → (v0 36).toInt = 2) ∧ (r.toInt = 1 → zSg f1 (v0 37).toInt (v0 36).toInt x1.toInt) ∧ (r.toInt = 0 → ¬ zSg f1 (v0 37).toInt (v0 36).toInt x1.toInt)) (fun (u : Nat → Int32) (t : State) => ∃ (ww : Nat → Int64) (aa : Nat → Nat → Int32) (bb : Nat → Nat → Int64), va_P (dC, dI) vwCl [(h0, .inr (13, mX13 q0 v0)), ((q0 0), zi k1 600 f1)] t.heap ∧ va_K (dC, dI) vwCl [(k1, .byte)] t ∧ va_D (va_A [(h0, .inr (13, mX13 q0 v0)), ((q0 0), zi k1 600 f1)] sz) [(h0, .inr (13, mX13 q0 v0)), ((q0 0), zi k1 600 f1)]) (va_A [(h0, .inr (13, mX13 q0 v0)), ((q0 0), zi k1 600 f1)] sz)) 0 0 (va_A [(h0, .inr (13, mX13 q0 v0)), ((q0 0), zi k1 600 f1)] sz) := by
  refine Met.ofW (cc := cX13_isSign) (maxL := 2) (ret := (some .boolean)) (by decide) rfl ?_
  intro p e s m args below meth c s₁ B hml hv
  obtain ⟨rfl, hsz, hP, hK, hD0, hE, hZ⟩ := hv
  have hx := B.exec
  have hb := B.bytes
  have hr := B.returns
  have hG : ∀ w ∈ zG, w.before _ s = true := fun w h => atoms_spec (ws := (zw yX13_isSign cX13_isSign 2 (some .boolean))) B.pre w (List.mem_cons_of_mem _ h)
  have hown : s.vm.findClass RX13 = some m.cls := findClass_of_methodNamed B.named
  have hlocks := B.notSynchronized

  subst hsz
  have hD := hD0.self (sz := s.heap.size)
  generalize hAe : va_A [(h0, .inr (13, mX13 q0 v0)), ((q0 0), zi k1 600 f1)] s.heap.size = A at hD hZ ⊢
  have hA : ∀ q : Nat, s.heap.size ≤ q → A q := fun q h => by rw [← hAe]; exact Or.inr h
  have hS : va_S A s.heap s.heap [] := va_S.rf
  have hl := lv_entry ([.ref h0, .int x1]) (n := 2) (Nat.le_of_ble_eq_true rfl)
  rw [lg_entry_eq]
  generalize (lg_sl ([.ref h0, .int x1]) ++ List.replicate (2 - (lg_sl ([.ref h0, .int x1])).length) Slot.unset).toArray = ls at hl ⊢
  have hl : lv_has ls 2 [(0, .ref h0), (1, .int x1)] := hl
  have b_ := zk_0
  have b_ := zk_1
  have b_ : 0 ≤ (v0 36).toInt ∧ (v0 36).toInt ≤ 3 := hv0 36
  have b_ : 0 ≤ (v0 37).toInt ∧ (v0 37).toInt ≤ 600 := hv0 37
  have b_ : 0 ≤ (v0 34).toInt ∧ (v0 34).toInt ≤ 600 := hv0 34
  refine lv_aload_n hx hb dX13_isSign_0 rfl (lv_at hl 0 rfl) ?_
  refine va_get (D := (dC, dI)) (ci := 13) (v := .int (v0 36)) (C := RX13) (T := TX13) (N := 75) hx hb hG zuX13 hown hK hP 0 rfl rfl 36 (by decide) (hG _ zv1640) (fun _ h9 => h9) rfl dX13_isSign_1 ?_
  refine lv_iconst (v := 2) hx hb dX13_isSign_4 (by decide) ?_
  refine lv_icmp_ne (tgt := 25) hx hb dX13_isSign_5 (by decide) (fun c_ => ?_) (fun c_ => ?_)
  · skip
    have b_ := zT_ne rfl zk_2 c_
    refine lv_iconst (v := 0) hx hb dX13_isSign_25 (by decide) ?_
    refine W.widen (k := 0) (n := 0) (by decide) (by decide) ?_
    have hpost : (0 ≤ (0 : Int32).toInt ∧ (0 : Int32).toInt ≤ 1) ∧ ((0 : Int32).toInt = 1 → (v0 36).toInt = 2) ∧ ((0 : Int32).toInt = 1 → zSg f1 (v0 37).toInt (v0 36).toInt x1.toInt) ∧ ((0 : Int32).toInt = 0 → ¬ zSg f1 (v0 37).toInt (v0 36).toInt x1.toInt) := ⟨(by first | with_reducible assumption | exact ⟨by omega, by omega⟩), by omega, by first | (intro q; exact absurd q (by decide)) | exact fun _ => ⟨by omega, zgt e_z16 rfl (by omega)⟩, by first | (intro q; exact absurd q (by decide)) | exact fun _ y => absurd ((zgt e_z16 rfl rfl).symm.trans y.2) (by omega) | exact fun _ y => absurd y.1 (by omega)⟩
    have hP9 : va_P (dC, dI) vwCl [(h0, .inr (13, mX13 q0 v0)), ((q0 0), zi k1 600 f1)] s.heap := hP
    have hD9 : va_D A [(h0, .inr (13, mX13 q0 v0)), ((q0 0), zi k1 600 f1)] := hD
    exact W.zret (v := 0) hx hb hr rfl (fun t ht hW => ⟨⟨0, (fun _ => 0), rfl, hpost, (fun _ => 0), (fun _ => (fun _ => 0)), (fun _ => (fun _ => 0)), by rw [ht]; exact hP9, va_K.moved hW.alike hK, hD9⟩, hS.F ht⟩) hS.2.2 dX13_isSign_26
  · skip
    have b_ := zF_ne rfl zk_2 c_
    refine lv_aload_n hx hb dX13_isSign_8 rfl (lv_at hl 0 rfl) ?_
    refine va_get (D := (dC, dI)) (ci := 13) (v := .ref (q0 0)) (C := RX13) (T := TX13) (N := 75) hx hb hG zuX13 hown hK hP 0 rfl rfl 0 (by decide) (hG _ zv1604) (fun _ h9 => h9) rfl dX13_isSign_9 ?_
    refine lv_aload_n hx hb dX13_isSign_12 rfl (lv_at hl 0 rfl) ?_
    refine va_get (D := (dC, dI)) (ci := 13) (v := .int (v0 37)) (C := RX13) (T := TX13) (N := 75) hx hb hG zuX13 hown hK hP 0 rfl rfl 37 (by decide) (hG _ zv1641) (fun _ h9 => h9) rfl dX13_isSign_13 ?_
    refine va_bald hx hb hK hP 1 0 rfl rfl (zin_lit ⟨by omega, by omega⟩) dX13_isSign_16 ?_
    refine lv_topi (fun z16 e_z16 => ?_)
    refine lv_iload_n hx hb dX13_isSign_17 rfl (lv_at hl 1 rfl) ?_
    have b_ : -2147483648 ≤ z16.toInt ∧ z16.toInt ≤ 2147483647 := ⟨zlo _, zhi _⟩
    have b_ : -2147483648 ≤ x1.toInt ∧ x1.toInt ≤ 2147483647 := ⟨zlo _, zhi _⟩
    refine lv_icmp_ne (tgt := 25) hx hb dX13_isSign_18 (by decide) (fun c_ => ?_) (fun c_ => ?_)
    · skip
      have b_ := zT_ne rfl rfl c_
      refine lv_iconst (v := 0) hx hb dX13_isSign_25 (by decide) ?_
      refine W.widen (k := 0) (n := 0) (by decide) (by decide) ?_
      have hpost : (0 ≤ (0 : Int32).toInt ∧ (0 : Int32).toInt ≤ 1) ∧ ((0 : Int32).toInt = 1 → (v0 36).toInt = 2) ∧ ((0 : Int32).toInt = 1 → zSg f1 (v0 37).toInt (v0 36).toInt x1.toInt) ∧ ((0 : Int32).toInt = 0 → ¬ zSg f1 (v0 37).toInt (v0 36).toInt x1.toInt) := ⟨(by first | with_reducible assumption | exact ⟨by omega, by omega⟩), by omega, by first | (intro q; exact absurd q (by decide)) | exact fun _ => ⟨by omega, zgt e_z16 rfl (by omega)⟩, by first | (intro q; exact absurd q (by decide)) | exact fun _ y => absurd ((zgt e_z16 rfl rfl).symm.trans y.2) (by omega) | exact fun _ y => absurd y.1 (by omega)⟩
      have hP9 : va_P (dC, dI) vwCl [(h0, .inr (13, mX13 q0 v0)), ((q0 0), zi k1 600 f1)] s.heap := hP
      have hD9 : va_D A [(h0, .inr (13, mX13 q0 v0)), ((q0 0), zi k1 600 f1)] := hD
      exact W.zret (v := 0) hx hb hr rfl (fun t ht hW => ⟨⟨0, (fun _ => 0), rfl, hpost, (fun _ => 0), (fun _ => (fun _ => 0)), (fun _ => (fun _ => 0)), by rw [ht]; exact hP9, va_K.moved hW.alike hK, hD9⟩, hS.F ht⟩) hS.2.2 dX13_isSign_26
    · skip
      have b_ := zF_ne rfl rfl c_
      refine lv_iconst (v := 1) hx hb dX13_isSign_21 (by decide) ?_
      refine lv_goto (tgt := 26) hx hb dX13_isSign_22 (by decide) ?_
      refine W.widen (k := 0) (n := 0) (by decide) (by decide) ?_
      have hpost : (0 ≤ (1 : Int32).toInt ∧ (1 : Int32).toInt ≤ 1) ∧ ((1 : Int32).toInt = 1 → (v0 36).toInt = 2) ∧ ((1 : Int32).toInt = 1 → zSg f1 (v0 37).toInt (v0 36).toInt x1.toInt) ∧ ((1 : Int32).toInt = 0 → ¬ zSg f1 (v0 37).toInt (v0 36).toInt x1.toInt) := ⟨(by first | with_reducible assumption | exact ⟨by omega, by omega⟩), by omega, by first | (intro q; exact absurd q (by decide)) | exact fun _ => ⟨by omega, zgt e_z16 rfl (by omega)⟩, by first | (intro q; exact absurd q (by decide)) | exact fun _ y => absurd ((zgt e_z16 rfl rfl).symm.trans y.2) (by omega) | exact fun _ y => absurd y.1 (by omega)⟩
      have hP9 : va_P (dC, dI) vwCl [(h0, .inr (13, mX13 q0 v0)), ((q0 0), zi k1 600 f1)] s.heap := hP
      have hD9 : va_D A [(h0, .inr (13, mX13 q0 v0)), ((q0 0), zi k1 600 f1)] := hD
      exact W.zret (v := 1) hx hb hr rfl (fun t ht hW => ⟨⟨1, (fun _ => 0), rfl, hpost, (fun _ => 0), (fun _ => (fun _ => 0)), (fun _ => (fun _ => 0)), by rw [ht]; exact hP9, va_K.moved hW.alike hK, hD9⟩, hS.F ht⟩) hS.2.2 dX13_isSign_26
set_option maxHeartbeats 8000000 in
set_option maxRecDepth 100000 in
theorem sX13_want_0 (l : Launch) (dC : Nat → ClassId) (dI : Nat → Nat → Nat) (adK adV : Nat → Nat) (h0 : Nat) (q0 : Nat → Nat) (k32 : ClassId) (k15 : ClassId) (k31 : ClassId) (sz : Nat) (v0 : Nat → Int32) (f32 : Nat → Int32) (f15 : Nat → Int32) (f31 : Nat → Int32) (hv0 : zR rg_Model v0) (hf32 : zA 0 12 f32) (hp0_ : (v0 50).toInt ≤ 199) : Met l yX13_want (zw yX13_want cX13_want 2 none) { frames := 0, cells := 0, slots := 0, locals := 0 } (zPc dC dI adK adV [.ref h0] sz [(h0, .inr (13, mX13 q0 v0)), ((q0 49), zi k32 200 f32), ((q0 19), zi k15 12 f15), ((q0 48), zi k31 2400 f31)] [(k32, .int), (k15, .byte), (k31, .byte)]) (va_Qv (fun (u : Nat → Int32) => (1 ≤ (u 0).toInt ∧ (u 0).toInt ≤ 200) ∧ ((u 0).toInt = (v0 50).toInt + 1)) (fun (u : Nat → Int32) (t : State) => ∃ (ww : Nat → Int64) (aa : Nat → Nat → Int32) (bb : Nat → Nat → Int64), zA 0 12 (aa 0) ∧ (zC f31 (aa 1) f15 (12 * (v0 50).toInt) (v0 20).toInt) ∧ ((aa 0) = upd f32 ((v0 50)).toNatClampNeg (v0 20)) ∧ va_P (dC, dI) vwCl [(h0, .inr (13, mX13 q0 (upd v0 50 (u 0)))), ((q0 49), zi k32 200 (aa 0)), ((q0 19), zi k15 12 f15), ((q0 48), zi k31 2400 (aa 1))] t.heap ∧ va_K (dC, dI) vwCl [(k32, .int), (k15, .byte), (k31, .byte)] t ∧ va_D (va_A [(h0, .inr (13, mX13 q0 v0)), ((q0 49), zi k32 200 f32), ((q0 19), zi k15 12 f15), ((q0 48), zi k31 2400 f31)] sz) [(h0, .inr (13, mX13 q0 (upd v0 50 (u 0)))), ((q0 49), zi k32 200 (aa 0)), ((q0 19), zi k15 12 f15), ((q0 48), zi k31 2400 (aa 1))]) (va_A [(h0, .inr (13, mX13 q0 v0)), ((q0 49), zi k32 200 f32), ((q0 19), zi k15 12 f15), ((q0 48), zi k31 2400 f31)] sz)) 0 0 (va_A [(h0, .inr (13, mX13 q0 v0)), ((q0 49), zi k32 200 f32), ((q0 19), zi k15 12 f15), ((q0 48), zi k31 2400 f31)] sz) := by
  refine Met.ofW (cc := cX13_want) (maxL := 2) (ret := none) (by decide) rfl ?_
  intro p e s m args below meth c s₁ B hml hv
  obtain ⟨rfl, hsz, hP, hK, hD0, hE, hZ⟩ := hv
  have hx := B.exec
  have hb := B.bytes
  have hr := B.returns
  have hG : ∀ w ∈ zG, w.before _ s = true := fun w h => atoms_spec (ws := (zw yX13_want cX13_want 2 none)) B.pre w (List.mem_cons_of_mem _ h)
  have hown : s.vm.findClass RX13 = some m.cls := findClass_of_methodNamed B.named
  have hlocks := B.notSynchronized

  subst hsz
  have hD := hD0.self (sz := s.heap.size)
  generalize hAe : va_A [(h0, .inr (13, mX13 q0 v0)), ((q0 49), zi k32 200 f32), ((q0 19), zi k15 12 f15), ((q0 48), zi k31 2400 f31)] s.heap.size = A at hD hZ ⊢
  have hA : ∀ q : Nat, s.heap.size ≤ q → A q := fun q h => by rw [← hAe]; exact Or.inr h
  have hS : va_S A s.heap s.heap [] := va_S.rf
  have hl := lv_entry ([.ref h0]) (n := 2) (Nat.le_of_ble_eq_true rfl)
  rw [lg_entry_eq]
  generalize (lg_sl ([.ref h0]) ++ List.replicate (2 - (lg_sl ([.ref h0])).length) Slot.unset).toArray = ls at hl ⊢
  have hl : lv_has ls 2 [(0, .ref h0)] := hl
  have b_ := zk_0
  have b_ : 0 ≤ (v0 50).toInt ∧ (v0 50).toInt ≤ 200 := hv0 50
  have b_ : 0 ≤ (v0 20).toInt ∧ (v0 20).toInt ≤ 12 := hv0 20
  refine lv_iconst (v := 0) hx hb dX13_want_0 (by decide) ?_
  refine lv_istore_n (lv' := [(1, .int 0), (0, .ref h0)]) hx hb dX13_want_1 rfl hl (by decide) rfl (fun ls hl => ?_)
  refine zcutL (fun u2_ => (12 - (u2_ 0).toInt).toNat) (fun H locs ls u2_ w2_ a2_ b2_ => va_P (dC, dI) vwCl [(h0, .inr (13, mX13 q0 v0)), ((q0 49), zi k32 200 f32), ((q0 19), zi k15 12 f15), ((q0 48), zi k31 2400 (a2_ 0))] H ∧ va_D A [(h0, .inr (13, mX13 q0 v0)), ((q0 49), zi k32 200 f32), ((q0 19), zi k15 12 f15), ((q0 48), zi k31 2400 (a2_ 0))] ∧ va_S A s.heap H locs ∧ lv_has ls 2 [(0, .ref h0), (1, .int (u2_ 0))] ∧ (0 ≤ (u2_ 0).toInt ∧ (u2_ 0).toInt ≤ 12) ∧ (zC f31 (a2_ 0) f15 (12 * (v0 50).toInt) (u2_ 0).toInt) ∧ ((u2_ 0).toInt ≤ (v0 20).toInt)) (fun ls u2_ w2_ => F0 m 2 ls []) 0 0 ?_ (fun hJ2 => ?_)
  · skip
    intro H locs ls u2_ w2_ a2_ b2_ hc hJ2
    obtain ⟨hP, hD, hS, hl, b_, hI2_0, b_⟩ := hc
    refine lv_iload_n hx hb dX13_want_2 rfl (lv_at hl 1 rfl) ?_
    refine lv_aload_n hx hb dX13_want_3 rfl (lv_at hl 0 rfl) ?_
    refine va_get (D := (dC, dI)) (ci := 13) (v := .int (v0 20)) (C := RX13) (T := TX13) (N := 75) hx hb hG zuX13 hown hK hP 0 rfl rfl 20 (by decide) (hG _ zv1624) (fun _ h9 => h9) rfl dX13_want_4 ?_
    refine lv_icmp_ge (tgt := 36) hx hb dX13_want_7 (by decide) (fun c_ => ?_) (fun c_ => ?_)
    · skip
      have b_ := zT_ge rfl rfl c_
      refine lv_aload_n hx hb dX13_want_36 rfl (lv_at hl 0 rfl) ?_
      refine va_get (D := (dC, dI)) (ci := 13) (v := .ref (q0 49)) (C := RX13) (T := TX13) (N := 75) hx hb hG zuX13 hown hK hP 0 rfl rfl 49 (by decide) (hG _ zv1653) (fun _ h9 => h9) rfl dX13_want_37 ?_
      refine lv_aload_n hx hb dX13_want_40 rfl (lv_at hl 0 rfl) ?_
      refine va_get (D := (dC, dI)) (ci := 13) (v := .int (v0 50)) (C := RX13) (T := TX13) (N := 75) hx hb hG zuX13 hown hK hP 0 rfl rfl 50 (by decide) (hG _ zv1654) (fun _ h9 => h9) rfl dX13_want_41 ?_
      refine lv_aload_n hx hb dX13_want_44 rfl (lv_at hl 0 rfl) ?_
      refine va_get (D := (dC, dI)) (ci := 13) (v := .int (v0 20)) (C := RX13) (T := TX13) (N := 75) hx hb hG zuX13 hown hK hP 0 rfl rfl 20 (by decide) (hG _ zv1624) (fun _ h9 => h9) rfl dX13_want_45 ?_
      refine va_iast hx hb hK hP hD hS 1 0 rfl rfl (zin_lit ⟨by omega, by omega⟩) dX13_want_48 (fun H locs hP hD hS => ?_)
      obtain ⟨f_48, e_f_48⟩ : ∃ z : Nat → Int32, z = upd f32 ((v0 50) : Int32).toNatClampNeg (v0 20) := ⟨_, rfl⟩
      have hP : va_P (dC, dI) vwCl [(h0, .inr (13, mX13 q0 v0)), ((q0 49), zi k32 200 f_48), ((q0 19), zi k15 12 f15), ((q0 48), zi k31 2400 (a2_ 0))] H := by rw [e_f_48]; exact hP
      have hD : va_D A [(h0, .inr (13, mX13 q0 v0)), ((q0 49), zi k32 200 f_48), ((q0 19), zi k15 12 f15), ((q0 48), zi k31 2400 (a2_ 0))] := by rw [e_f_48]; exact hD
      have hf_48 : zA 0 12 f_48 := by rw [e_f_48]; exact zA_upd hf32 (show 0 ≤ ((v0 20) : Int32).toInt from by omega) (show ((v0 20) : Int32).toInt ≤ 12 from by omega)
      refine lv_aload_n hx hb dX13_want_49 rfl (lv_at hl 0 rfl) ?_
      refine lv_dup hx hb dX13_want_50 rfl ?_
      refine va_get (D := (dC, dI)) (ci := 13) (v := .int (v0 50)) (C := RX13) (T := TX13) (N := 75) hx hb hG zuX13 hown hK hP 0 rfl rfl 50 (by decide) (hG _ zv1654) (fun _ h9 => h9) rfl dX13_want_51 ?_
      refine lv_iconst (v := 1) hx hb dX13_want_54 (by decide) ?_
      refine lv_iadd hx hb dX13_want_55 ?_
      refine lv_topi (fun z55 e_z55 => ?_)
      have b_ := zadd rfl zk_1 e_z55 (by omega) (by omega)
      have b_ : 0 ≤ z55.toInt ∧ z55.toInt ≤ 200 := ⟨by omega, by omega⟩
      refine va_put (D := (dC, dI)) (ci := 13) (v := .int z55) (ty := .int) (C := RX13) (T := TX13) (N := 75) hx hb hG zuX13 tyX13 tyX13_ok nmX13 hown hK hP hD hS 0 rfl rfl 50 (by decide) (hG _ zv1654) (fun _ h9 => h9) rfl (by decide +kernel) rfl rfl (Nat.le_of_ble_eq_true rfl) dX13_want_56 (fun H locs hP hD hS => ?_)
      have hP : va_P (dC, dI) vwCl [(h0, .inr (13, mX13 q0 (upd v0 50 z55))), ((q0 49), zi k32 200 f_48), ((q0 19), zi k15 12 f15), ((q0 48), zi k31 2400 (a2_ 0))] H := hP
      have hD : va_D A [(h0, .inr (13, mX13 q0 (upd v0 50 z55))), ((q0 49), zi k32 200 f_48), ((q0 19), zi k15 12 f15), ((q0 48), zi k31 2400 (a2_ 0))] := hD
      refine W.widen (k := 0) (n := 0) (by decide) (by decide) ?_
      have hpost : (1 ≤ z55.toInt ∧ z55.toInt ≤ 200) ∧ (z55.toInt = (v0 50).toInt + 1) := ⟨(by first | with_reducible assumption | exact ⟨by omega, by omega⟩), by omega⟩
      have hP9 : va_P (dC, dI) vwCl [(h0, .inr (13, mX13 q0 (upd v0 50 z55))), ((q0 49), zi k32 200 f_48), ((q0 19), zi k15 12 f15), ((q0 48), zi k31 2400 (a2_ 0))] H := hP
      have hD9 : va_D A [(h0, .inr (13, mX13 q0 (upd v0 50 z55))), ((q0 49), zi k32 200 f_48), ((q0 19), zi k15 12 f15), ((q0 48), zi k31 2400 (a2_ 0))] := hD
      have hB0 : zC f31 (a2_ 0) f15 (12 * (v0 50).toInt) (v0 20).toInt := by exact zC_e (by assumption) rfl (by omega)
      have hB1 : f_48 = upd f32 ((v0 50)).toNatClampNeg (v0 20) := by exact e_f_48
      exact W.vret hx hb hr (fun t ht hW => ⟨⟨(fun i => ([z55] : List (Int32)).getD i 0), rfl, hpost, (fun _ => 0), (fun i => ([f_48, (a2_ 0)] : List (Nat → Int32)).getD i (fun _ => 0)), (fun _ => (fun _ => 0)), hf_48, hB0, hB1, by rw [ht]; exact hP9, va_K.moved hW.alike hK, hD9⟩, hS.F ht⟩) hS.2.2 dX13_want_59
    · skip
      have b_ := zF_ge rfl rfl c_
      refine lv_aload_n hx hb dX13_want_10 rfl (lv_at hl 0 rfl) ?_
      refine va_get (D := (dC, dI)) (ci := 13) (v := .ref (q0 48)) (C := RX13) (T := TX13) (N := 75) hx hb hG zuX13 hown hK hP 0 rfl rfl 48 (by decide) (hG _ zv1652) (fun _ h9 => h9) rfl dX13_want_11 ?_
      refine lv_bipush (v := 12) hx hb dX13_want_14 (by decide) ?_
      refine lv_aload_n hx hb dX13_want_16 rfl (lv_at hl 0 rfl) ?_
      refine va_get (D := (dC, dI)) (ci := 13) (v := .int (v0 50)) (C := RX13) (T := TX13) (N := 75) hx hb hG zuX13 hown hK hP 0 rfl rfl 50 (by decide) (hG _ zv1654) (fun _ h9 => h9) rfl dX13_want_17 ?_
      refine lv_imul hx hb dX13_want_20 ?_
      refine lv_topi (fun z20 e_z20 => ?_)
      have b_ := zmul zk_12 rfl e_z20 (by omega) (by omega)
      refine lv_iload_n hx hb dX13_want_21 rfl (lv_at hl 1 rfl) ?_
      refine lv_iadd hx hb dX13_want_22 ?_
      refine lv_topi (fun z22 e_z22 => ?_)
      have b_ := zadd rfl rfl e_z22 (by omega) (by omega)
      refine lv_aload_n hx hb dX13_want_23 rfl (lv_at hl 0 rfl) ?_
      refine va_get (D := (dC, dI)) (ci := 13) (v := .ref (q0 19)) (C := RX13) (T := TX13) (N := 75) hx hb hG zuX13 hown hK hP 0 rfl rfl 19 (by decide) (hG _ zv1623) (fun _ h9 => h9) rfl dX13_want_24 ?_
      refine lv_iload_n hx hb dX13_want_27 rfl (lv_at hl 1 rfl) ?_
      refine va_bald hx hb hK hP 2 1 rfl rfl (zin_lit ⟨by omega, by omega⟩) dX13_want_28 ?_
      refine lv_topi (fun z28 e_z28 => ?_)
      refine va_bast hx hb hK hP hD hS 3 2 rfl rfl (zin_lit ⟨by omega, by omega⟩) dX13_want_29 (fun H locs hP hD hS => ?_)
      obtain ⟨f_29, e_f_29⟩ : ∃ z : Nat → Int32, z = upd (a2_ 0) (z22 : Int32).toNatClampNeg (vp_nar .byte z28) := ⟨_, rfl⟩
      have hP : va_P (dC, dI) vwCl [(h0, .inr (13, mX13 q0 v0)), ((q0 49), zi k32 200 f32), ((q0 19), zi k15 12 f15), ((q0 48), zi k31 2400 f_29)] H := by rw [e_f_29]; exact hP
      have hD : va_D A [(h0, .inr (13, mX13 q0 v0)), ((q0 49), zi k32 200 f32), ((q0 19), zi k15 12 f15), ((q0 48), zi k31 2400 f_29)] := by rw [e_f_29]; exact hD
      obtain ⟨z30, e_z30⟩ : ∃ z : Int32, z = (u2_ 0) + Int32.ofInt 1 := ⟨_, rfl⟩
      have b_ := zadd (x := (u2_ 0)) (y := Int32.ofInt 1) rfl (show (Int32.ofInt 1).toInt = 1 from by decide) e_z30 (by omega) (by omega)
      refine lv_iinc (v := z30) (lv' := [(1, .int z30), (0, .ref h0)]) hx hb dX13_want_30 hl (k := 1) rfl e_z30.symm (by decide) rfl (fun ls hl => ?_)
      refine lv_goto (tgt := 2) hx hb dX13_want_33 (by decide) ?_
      have hc : va_P (dC, dI) vwCl [(h0, .inr (13, mX13 q0 v0)), ((q0 49), zi k32 200 f32), ((q0 19), zi k15 12 f15), ((q0 48), zi k31 2400 f_29)] H ∧ va_D A [(h0, .inr (13, mX13 q0 v0)), ((q0 49), zi k32 200 f32), ((q0 19), zi k15 12 f15), ((q0 48), zi k31 2400 f_29)] ∧ va_S A s.heap H locs ∧ lv_has ls 2 [(0, .ref h0), (1, .int z30)] ∧ (0 ≤ z30.toInt ∧ z30.toInt ≤ 12) ∧ (zC f31 f_29 f15 (12 * (v0 50).toInt) z30.toInt) ∧ (z30.toInt ≤ (v0 20).toInt) := ⟨hP, hD, hS, lv_sub hl [1, 0] rfl, (by first | with_reducible assumption | exact ⟨by omega, by omega⟩), by first | (rw [e_f_29]; exact zC_s (by assumption) e_z28 (by omega) (by omega) (by omega) (by omega)) | exact zC_0 (by omega), by omega⟩
      exact hJ2 H locs ls (fun i => ([z30] : List (Int32)).getD i 0) (fun _ => 0) (fun i => ([f_29] : List (Nat → Int32)).getD i (fun _ => 0)) (fun _ => (fun _ => 0)) hc (show (12 - z30.toInt).toNat < (12 - (u2_ 0).toInt).toNat from by omega)
  · skip
    have hc : va_P (dC, dI) vwCl [(h0, .inr (13, mX13 q0 v0)), ((q0 49), zi k32 200 f32), ((q0 19), zi k15 12 f15), ((q0 48), zi k31 2400 f31)] s.heap ∧ va_D A [(h0, .inr (13, mX13 q0 v0)), ((q0 49), zi k32 200 f32), ((q0 19), zi k15 12 f15), ((q0 48), zi k31 2400 f31)] ∧ va_S A s.heap s.heap [] ∧ lv_has ls 2 [(0, .ref h0), (1, .int 0)] ∧ (0 ≤ (0 : Int32).toInt ∧ (0 : Int32).toInt ≤ 12) ∧ (zC f31 f31 f15 (12 * (v0 50).toInt) (0 : Int32).toInt) ∧ ((0 : Int32).toInt ≤ (v0 20).toInt) := ⟨hP, hD, hS, lv_sub hl [1, 0] rfl, (by first | with_reducible assumption | exact ⟨by omega, by omega⟩), by first | (rw [e_f_29]; exact zC_s (by assumption) e_z28 (by omega) (by omega) (by omega) (by omega)) | exact zC_0 (by omega), by omega⟩
    exact hJ2 s.heap [] ls (fun i => ([0] : List (Int32)).getD i 0) (fun _ => 0) (fun i => ([f31] : List (Nat → Int32)).getD i (fun _ => 0)) (fun _ => (fun _ => 0)) hc
set_option maxHeartbeats 8000000 in
set_option maxRecDepth 100000 in
theorem sX13_node_0 (l : Launch) (dC : Nat → ClassId) (dI : Nat → Nat → Nat) (adK adV : Nat → Nat) (h0 : Nat) (q0 : Nat → Nat) (k23 : ClassId) (k24 : ClassId) (k25 : ClassId) (k26 : ClassId) (k34 : ClassId) (k33 : ClassId) (sz : Nat) (v0 : Nat → Int32) (f23 : Nat → Int32) (f24 : Nat → Int32) (f25 : Nat → Int32) (f26 : Nat → Int32) (f34 : Nat → Int32) (f33 : Nat → Int32) (x1 : Int32) (x2 : Int32) (x3 : Int32) (x4 : Int32) (hv0 : zR rg_Model v0) (hf24 : zA (-1) 1299 f24) (hf25 : zA (-1) 1299 f25) (hx2 : (-1) ≤ x2.toInt ∧ x2.toInt ≤ 1299) (hx3 : (-1) ≤ x3.toInt ∧ x3.toInt ≤ 1299) (hp0_ : (v0 42).toInt ≤ 1299) (hp1_ : (v0 53).toInt ≤ 1299) (hp2_ : zTr f23 f24 f25 f26 (v0 42).toInt (v0 47).toInt) (hp3_ : zNd f23 (v0 42).toInt (v0 47).toInt x1.toInt x2.toInt x3.toInt x4.toInt) : Met l yX13_node (zw yX13_node cX13_node 5 (some .int)) { frames := 0, cells := 0, slots := 0, locals := 0 } (zPc dC dI adK adV [.ref h0, .int x1, .int x2, .int x3, .int x4] sz [(h0, .inr (13, mX13 q0 v0)), ((q0 38), zi k23 1300 f23), ((q0 39), zi k24 1300 f24), ((q0 40), zi k25 1300 f25), ((q0 41), zi k26 1300 f26), ((q0 56), zi k34 1300 f34), ((q0 52), zi k33 1300 f33)] [(k23, .int), (k24, .int), (k25, .int), (k26, .int), (k34, .boolean), (k33, .int)]) (va_Qi (fun (r : Int32) (u : Nat → Int32) => (0 ≤ r.toInt ∧ r.toInt ≤ 1299) ∧ (1 ≤ (u 0).toInt ∧ (u 0).toInt ≤ 1300) ∧ (1 ≤ (u 1).toInt ∧ (u 1).toInt ≤ 1300) ∧ (r.toInt = (v0 42).toInt) ∧ ((u 0).toInt = (v0 42).toInt + 1) ∧ ((u 1).toInt = (v0 53).toInt + 1)) (fun (u : Nat → Int32) (t : State) => ∃ (ww : Nat → Int64) (aa : Nat → Nat → Int32) (bb : Nat → Nat → Int64), zA (-1) 1299 (aa 1) ∧ zA (-1) 1299 (aa 2) ∧ (zTr (aa 0) (aa 1) (aa 2) (aa 3) (u 0).toInt (v0 47).toInt) ∧ (∀ (f_ g_ h_ i_ j_ k_ : Nat → Int32) (lv_ wn_ : Int) (W_ : Int → Int → (Nat → Int32) → (Nat → Int32) → Int → Int → Int → Prop), zxN f23 f34 (aa 0) (aa 4) (zma f33 f23 f24 f25 f26 f_ g_ h_ i_ j_ k_, lv_, wn_, W_) (zma (aa 5) (aa 0) (aa 1) (aa 2) (aa 3) f_ g_ h_ i_ j_ k_, lv_, wn_, W_) (v0 42).toInt (v0 53).toInt (u 1).toInt x1.toInt x4.toInt x2.toInt x3.toInt) ∧ va_P (dC, dI) vwCl [(h0, .inr (13, mX13 q0 (upd (upd v0 42 (u 0)) 53 (u 1)))), ((q0 38), zi k23 1300 (aa 0)), ((q0 39), zi k24 1300 (aa 1)), ((q0 40), zi k25 1300 (aa 2)), ((q0 41), zi k26 1300 (aa 3)), ((q0 56), zi k34 1300 (aa 4)), ((q0 52), zi k33 1300 (aa 5))] t.heap ∧ va_K (dC, dI) vwCl [(k23, .int), (k24, .int), (k25, .int), (k26, .int), (k34, .boolean), (k33, .int)] t ∧ va_D (va_A [(h0, .inr (13, mX13 q0 v0)), ((q0 38), zi k23 1300 f23), ((q0 39), zi k24 1300 f24), ((q0 40), zi k25 1300 f25), ((q0 41), zi k26 1300 f26), ((q0 56), zi k34 1300 f34), ((q0 52), zi k33 1300 f33)] sz) [(h0, .inr (13, mX13 q0 (upd (upd v0 42 (u 0)) 53 (u 1)))), ((q0 38), zi k23 1300 (aa 0)), ((q0 39), zi k24 1300 (aa 1)), ((q0 40), zi k25 1300 (aa 2)), ((q0 41), zi k26 1300 (aa 3)), ((q0 56), zi k34 1300 (aa 4)), ((q0 52), zi k33 1300 (aa 5))]) (va_A [(h0, .inr (13, mX13 q0 v0)), ((q0 38), zi k23 1300 f23), ((q0 39), zi k24 1300 f24), ((q0 40), zi k25 1300 f25), ((q0 41), zi k26 1300 f26), ((q0 56), zi k34 1300 f34), ((q0 52), zi k33 1300 f33)] sz)) 0 0 (va_A [(h0, .inr (13, mX13 q0 v0)), ((q0 38), zi k23 1300 f23), ((q0 39), zi k24 1300 f24), ((q0 40), zi k25 1300 f25), ((q0 41), zi k26 1300 f26), ((q0 56), zi k34 1300 f34), ((q0 52), zi k33 1300 f33)] sz) := by
  refine Met.ofW (cc := cX13_node) (maxL := 5) (ret := (some .int)) (by decide) rfl ?_
  intro p e s m args below meth c s₁ B hml hv
  obtain ⟨rfl, hsz, hP, hK, hD0, hE, hZ⟩ := hv
  have hx := B.exec
  have hb := B.bytes
  have hr := B.returns
  have hG : ∀ w ∈ zG, w.before _ s = true := fun w h => atoms_spec (ws := (zw yX13_node cX13_node 5 (some .int))) B.pre w (List.mem_cons_of_mem _ h)
  have hown : s.vm.findClass RX13 = some m.cls := findClass_of_methodNamed B.named
  have hlocks := B.notSynchronized

  subst hsz
  have hD := hD0.self (sz := s.heap.size)
  generalize hAe : va_A [(h0, .inr (13, mX13 q0 v0)), ((q0 38), zi k23 1300 f23), ((q0 39), zi k24 1300 f24), ((q0 40), zi k25 1300 f25), ((q0 41), zi k26 1300 f26), ((q0 56), zi k34 1300 f34), ((q0 52), zi k33 1300 f33)] s.heap.size = A at hD hZ ⊢
  have hA : ∀ q : Nat, s.heap.size ≤ q → A q := fun q h => by rw [← hAe]; exact Or.inr h
  have hS : va_S A s.heap s.heap [] := va_S.rf
  have hl := lv_entry ([.ref h0, .int x1, .int x2, .int x3, .int x4]) (n := 5) (Nat.le_of_ble_eq_true rfl)
  rw [lg_entry_eq]
  generalize (lg_sl ([.ref h0, .int x1, .int x2, .int x3, .int x4]) ++ List.replicate (5 - (lg_sl ([.ref h0, .int x1, .int x2, .int x3, .int x4])).length) Slot.unset).toArray = ls at hl ⊢
  have hl : lv_has ls 5 [(0, .ref h0), (1, .int x1), (2, .int x2), (3, .int x3), (4, .int x4)] := hl
  have b_ : 0 ≤ (v0 42).toInt ∧ (v0 42).toInt ≤ 1300 := hv0 42
  have b_ : 0 ≤ (v0 53).toInt ∧ (v0 53).toInt ≤ 1300 := hv0 53
  have b_ : 0 ≤ (v0 47).toInt ∧ (v0 47).toInt ≤ 40 := hv0 47
  refine lv_aload_n hx hb dX13_node_0 rfl (lv_at hl 0 rfl) ?_
  refine va_get (D := (dC, dI)) (ci := 13) (v := .ref (q0 38)) (C := RX13) (T := TX13) (N := 75) hx hb hG zuX13 hown hK hP 0 rfl rfl 38 (by decide) (hG _ zv1642) (fun _ h9 => h9) rfl dX13_node_1 ?_
  refine lv_aload_n hx hb dX13_node_4 rfl (lv_at hl 0 rfl) ?_
  refine va_get (D := (dC, dI)) (ci := 13) (v := .int (v0 42)) (C := RX13) (T := TX13) (N := 75) hx hb hG zuX13 hown hK hP 0 rfl rfl 42 (by decide) (hG _ zv1646) (fun _ h9 => h9) rfl dX13_node_5 ?_
  refine lv_iload_n hx hb dX13_node_8 rfl (lv_at hl 1 rfl) ?_
  refine va_iast hx hb hK hP hD hS 1 0 rfl rfl (zin_lit ⟨by omega, by omega⟩) dX13_node_9 (fun H locs hP hD hS => ?_)
  obtain ⟨f_9, e_f_9⟩ : ∃ z : Nat → Int32, z = upd f23 ((v0 42) : Int32).toNatClampNeg x1 := ⟨_, rfl⟩
  have hP : va_P (dC, dI) vwCl [(h0, .inr (13, mX13 q0 v0)), ((q0 38), zi k23 1300 f_9), ((q0 39), zi k24 1300 f24), ((q0 40), zi k25 1300 f25), ((q0 41), zi k26 1300 f26), ((q0 56), zi k34 1300 f34), ((q0 52), zi k33 1300 f33)] H := by rw [e_f_9]; exact hP
  have hD : va_D A [(h0, .inr (13, mX13 q0 v0)), ((q0 38), zi k23 1300 f_9), ((q0 39), zi k24 1300 f24), ((q0 40), zi k25 1300 f25), ((q0 41), zi k26 1300 f26), ((q0 56), zi k34 1300 f34), ((q0 52), zi k33 1300 f33)] := by rw [e_f_9]; exact hD
  refine lv_aload_n hx hb dX13_node_10 rfl (lv_at hl 0 rfl) ?_
  refine va_get (D := (dC, dI)) (ci := 13) (v := .ref (q0 39)) (C := RX13) (T := TX13) (N := 75) hx hb hG zuX13 hown hK hP 0 rfl rfl 39 (by decide) (hG _ zv1643) (fun _ h9 => h9) rfl dX13_node_11 ?_
  refine lv_aload_n hx hb dX13_node_14 rfl (lv_at hl 0 rfl) ?_
  refine va_get (D := (dC, dI)) (ci := 13) (v := .int (v0 42)) (C := RX13) (T := TX13) (N := 75) hx hb hG zuX13 hown hK hP 0 rfl rfl 42 (by decide) (hG _ zv1646) (fun _ h9 => h9) rfl dX13_node_15 ?_
  refine lv_iload_n hx hb dX13_node_18 rfl (lv_at hl 2 rfl) ?_
  refine va_iast hx hb hK hP hD hS 2 1 rfl rfl (zin_lit ⟨by omega, by omega⟩) dX13_node_19 (fun H locs hP hD hS => ?_)
  obtain ⟨f_19, e_f_19⟩ : ∃ z : Nat → Int32, z = upd f24 ((v0 42) : Int32).toNatClampNeg x2 := ⟨_, rfl⟩
  have hP : va_P (dC, dI) vwCl [(h0, .inr (13, mX13 q0 v0)), ((q0 38), zi k23 1300 f_9), ((q0 39), zi k24 1300 f_19), ((q0 40), zi k25 1300 f25), ((q0 41), zi k26 1300 f26), ((q0 56), zi k34 1300 f34), ((q0 52), zi k33 1300 f33)] H := by rw [e_f_19]; exact hP
  have hD : va_D A [(h0, .inr (13, mX13 q0 v0)), ((q0 38), zi k23 1300 f_9), ((q0 39), zi k24 1300 f_19), ((q0 40), zi k25 1300 f25), ((q0 41), zi k26 1300 f26), ((q0 56), zi k34 1300 f34), ((q0 52), zi k33 1300 f33)] := by rw [e_f_19]; exact hD
  have hf_19 : zA (-1) 1299 f_19 := by rw [e_f_19]; exact zA_upd hf24 (show (-1) ≤ (x2 : Int32).toInt from by omega) (show (x2 : Int32).toInt ≤ 1299 from by omega)
  refine lv_aload_n hx hb dX13_node_20 rfl (lv_at hl 0 rfl) ?_
  refine va_get (D := (dC, dI)) (ci := 13) (v := .ref (q0 40)) (C := RX13) (T := TX13) (N := 75) hx hb hG zuX13 hown hK hP 0 rfl rfl 40 (by decide) (hG _ zv1644) (fun _ h9 => h9) rfl dX13_node_21 ?_
  refine lv_aload_n hx hb dX13_node_24 rfl (lv_at hl 0 rfl) ?_
  refine va_get (D := (dC, dI)) (ci := 13) (v := .int (v0 42)) (C := RX13) (T := TX13) (N := 75) hx hb hG zuX13 hown hK hP 0 rfl rfl 42 (by decide) (hG _ zv1646) (fun _ h9 => h9) rfl dX13_node_25 ?_
  refine lv_iload_n hx hb dX13_node_28 rfl (lv_at hl 3 rfl) ?_
  refine va_iast hx hb hK hP hD hS 3 2 rfl rfl (zin_lit ⟨by omega, by omega⟩) dX13_node_29 (fun H locs hP hD hS => ?_)
  obtain ⟨f_29, e_f_29⟩ : ∃ z : Nat → Int32, z = upd f25 ((v0 42) : Int32).toNatClampNeg x3 := ⟨_, rfl⟩
  have hP : va_P (dC, dI) vwCl [(h0, .inr (13, mX13 q0 v0)), ((q0 38), zi k23 1300 f_9), ((q0 39), zi k24 1300 f_19), ((q0 40), zi k25 1300 f_29), ((q0 41), zi k26 1300 f26), ((q0 56), zi k34 1300 f34), ((q0 52), zi k33 1300 f33)] H := by rw [e_f_29]; exact hP
  have hD : va_D A [(h0, .inr (13, mX13 q0 v0)), ((q0 38), zi k23 1300 f_9), ((q0 39), zi k24 1300 f_19), ((q0 40), zi k25 1300 f_29), ((q0 41), zi k26 1300 f26), ((q0 56), zi k34 1300 f34), ((q0 52), zi k33 1300 f33)] := by rw [e_f_29]; exact hD
  have hf_29 : zA (-1) 1299 f_29 := by rw [e_f_29]; exact zA_upd hf25 (show (-1) ≤ (x3 : Int32).toInt from by omega) (show (x3 : Int32).toInt ≤ 1299 from by omega)
  refine lv_aload_n hx hb dX13_node_30 rfl (lv_at hl 0 rfl) ?_
  refine va_get (D := (dC, dI)) (ci := 13) (v := .ref (q0 41)) (C := RX13) (T := TX13) (N := 75) hx hb hG zuX13 hown hK hP 0 rfl rfl 41 (by decide) (hG _ zv1645) (fun _ h9 => h9) rfl dX13_node_31 ?_
  refine lv_aload_n hx hb dX13_node_34 rfl (lv_at hl 0 rfl) ?_
  refine va_get (D := (dC, dI)) (ci := 13) (v := .int (v0 42)) (C := RX13) (T := TX13) (N := 75) hx hb hG zuX13 hown hK hP 0 rfl rfl 42 (by decide) (hG _ zv1646) (fun _ h9 => h9) rfl dX13_node_35 ?_
  refine lv_iload hx hb dX13_node_38 (lv_at hl 4 rfl) ?_
  refine va_iast hx hb hK hP hD hS 4 3 rfl rfl (zin_lit ⟨by omega, by omega⟩) dX13_node_40 (fun H locs hP hD hS => ?_)
  obtain ⟨f_40, e_f_40⟩ : ∃ z : Nat → Int32, z = upd f26 ((v0 42) : Int32).toNatClampNeg x4 := ⟨_, rfl⟩
  have hP : va_P (dC, dI) vwCl [(h0, .inr (13, mX13 q0 v0)), ((q0 38), zi k23 1300 f_9), ((q0 39), zi k24 1300 f_19), ((q0 40), zi k25 1300 f_29), ((q0 41), zi k26 1300 f_40), ((q0 56), zi k34 1300 f34), ((q0 52), zi k33 1300 f33)] H := by rw [e_f_40]; exact hP
  have hD : va_D A [(h0, .inr (13, mX13 q0 v0)), ((q0 38), zi k23 1300 f_9), ((q0 39), zi k24 1300 f_19), ((q0 40), zi k25 1300 f_29), ((q0 41), zi k26 1300 f_40), ((q0 56), zi k34 1300 f34), ((q0 52), zi k33 1300 f33)] := by rw [e_f_40]; exact hD
  refine lv_aload_n hx hb dX13_node_41 rfl (lv_at hl 0 rfl) ?_
  refine va_get (D := (dC, dI)) (ci := 13) (v := .ref (q0 56)) (C := RX13) (T := TX13) (N := 75) hx hb hG zuX13 hown hK hP 0 rfl rfl 56 (by decide) (hG _ zv1660) (fun _ h9 => h9) rfl dX13_node_42 ?_
  refine lv_aload_n hx hb dX13_node_45 rfl (lv_at hl 0 rfl) ?_
  refine va_get (D := (dC, dI)) (ci := 13) (v := .int (v0 42)) (C := RX13) (T := TX13) (N := 75) hx hb hG zuX13 hown hK hP 0 rfl rfl 42 (by decide) (hG _ zv1646) (fun _ h9 => h9) rfl dX13_node_46 ?_
  refine lv_iconst (v := 0) hx hb dX13_node_49 (by decide) ?_
  refine va_zast hx hb hK hP hD hS 5 4 rfl rfl (zin_lit ⟨by omega, by omega⟩) dX13_node_50 (fun H locs hP hD hS => ?_)
  obtain ⟨f_50, e_f_50⟩ : ∃ z : Nat → Int32, z = upd f34 ((v0 42) : Int32).toNatClampNeg (vp_nar .boolean 0) := ⟨_, rfl⟩
  have hP : va_P (dC, dI) vwCl [(h0, .inr (13, mX13 q0 v0)), ((q0 38), zi k23 1300 f_9), ((q0 39), zi k24 1300 f_19), ((q0 40), zi k25 1300 f_29), ((q0 41), zi k26 1300 f_40), ((q0 56), zi k34 1300 f_50), ((q0 52), zi k33 1300 f33)] H := by rw [e_f_50]; exact hP
  have hD : va_D A [(h0, .inr (13, mX13 q0 v0)), ((q0 38), zi k23 1300 f_9), ((q0 39), zi k24 1300 f_19), ((q0 40), zi k25 1300 f_29), ((q0 41), zi k26 1300 f_40), ((q0 56), zi k34 1300 f_50), ((q0 52), zi k33 1300 f33)] := by rw [e_f_50]; exact hD
  refine lv_aload_n hx hb dX13_node_51 rfl (lv_at hl 0 rfl) ?_
  refine lv_dup hx hb dX13_node_52 rfl ?_
  refine va_get (D := (dC, dI)) (ci := 13) (v := .int (v0 42)) (C := RX13) (T := TX13) (N := 75) hx hb hG zuX13 hown hK hP 0 rfl rfl 42 (by decide) (hG _ zv1646) (fun _ h9 => h9) rfl dX13_node_53 ?_
  refine lv_iconst (v := 1) hx hb dX13_node_56 (by decide) ?_
  refine lv_iadd hx hb dX13_node_57 ?_
  refine lv_topi (fun z57 e_z57 => ?_)
  have b_ := zadd rfl zk_1 e_z57 (by omega) (by omega)
  have b_ : 0 ≤ z57.toInt ∧ z57.toInt ≤ 1300 := ⟨by omega, by omega⟩
  refine va_put (D := (dC, dI)) (ci := 13) (v := .int z57) (ty := .int) (C := RX13) (T := TX13) (N := 75) hx hb hG zuX13 tyX13 tyX13_ok nmX13 hown hK hP hD hS 0 rfl rfl 42 (by decide) (hG _ zv1646) (fun _ h9 => h9) rfl (by decide +kernel) rfl rfl (Nat.le_of_ble_eq_true rfl) dX13_node_58 (fun H locs hP hD hS => ?_)
  have hP : va_P (dC, dI) vwCl [(h0, .inr (13, mX13 q0 (upd v0 42 z57))), ((q0 38), zi k23 1300 f_9), ((q0 39), zi k24 1300 f_19), ((q0 40), zi k25 1300 f_29), ((q0 41), zi k26 1300 f_40), ((q0 56), zi k34 1300 f_50), ((q0 52), zi k33 1300 f33)] H := hP
  have hD : va_D A [(h0, .inr (13, mX13 q0 (upd v0 42 z57))), ((q0 38), zi k23 1300 f_9), ((q0 39), zi k24 1300 f_19), ((q0 40), zi k25 1300 f_29), ((q0 41), zi k26 1300 f_40), ((q0 56), zi k34 1300 f_50), ((q0 52), zi k33 1300 f33)] := hD
  refine lv_aload_n hx hb dX13_node_61 rfl (lv_at hl 0 rfl) ?_
  refine va_get (D := (dC, dI)) (ci := 13) (v := .ref (q0 52)) (C := RX13) (T := TX13) (N := 75) hx hb hG zuX13 hown hK hP 0 rfl rfl 52 (by decide) (hG _ zv1656) (fun _ h9 => h9) rfl dX13_node_62 ?_
  refine lv_aload_n hx hb dX13_node_65 rfl (lv_at hl 0 rfl) ?_
  refine va_get (D := (dC, dI)) (ci := 13) (v := .int (v0 53)) (C := RX13) (T := TX13) (N := 75) hx hb hG zuX13 hown hK hP 0 rfl rfl 53 (by decide) (hG _ zv1657) (fun _ h9 => h9) rfl dX13_node_66 ?_
  refine lv_sipush (v := 1000) hx hb dX13_node_69 (by decide) ?_
  refine lv_iload_n hx hb dX13_node_72 rfl (lv_at hl 1 rfl) ?_
  have b_ : -2147483648 ≤ x1.toInt ∧ x1.toInt ≤ 2147483647 := ⟨zlo _, zhi _⟩
  refine lv_imul hx hb dX13_node_73 ?_
  refine lv_topi (fun z73 e_z73 => ?_)
  refine lv_iload hx hb dX13_node_74 (lv_at hl 4 rfl) ?_
  have b_ : -2147483648 ≤ z73.toInt ∧ z73.toInt ≤ 2147483647 := ⟨zlo _, zhi _⟩
  have b_ : -2147483648 ≤ x4.toInt ∧ x4.toInt ≤ 2147483647 := ⟨zlo _, zhi _⟩
  refine lv_iadd hx hb dX13_node_76 ?_
  refine lv_topi (fun z76 e_z76 => ?_)
  refine va_iast hx hb hK hP hD hS 6 5 rfl rfl (zin_lit ⟨by omega, by omega⟩) dX13_node_77 (fun H locs hP hD hS => ?_)
  obtain ⟨f_77, e_f_77⟩ : ∃ z : Nat → Int32, z = upd f33 ((v0 53) : Int32).toNatClampNeg z76 := ⟨_, rfl⟩
  have hP : va_P (dC, dI) vwCl [(h0, .inr (13, mX13 q0 (upd v0 42 z57))), ((q0 38), zi k23 1300 f_9), ((q0 39), zi k24 1300 f_19), ((q0 40), zi k25 1300 f_29), ((q0 41), zi k26 1300 f_40), ((q0 56), zi k34 1300 f_50), ((q0 52), zi k33 1300 f_77)] H := by rw [e_f_77]; exact hP
  have hD : va_D A [(h0, .inr (13, mX13 q0 (upd v0 42 z57))), ((q0 38), zi k23 1300 f_9), ((q0 39), zi k24 1300 f_19), ((q0 40), zi k25 1300 f_29), ((q0 41), zi k26 1300 f_40), ((q0 56), zi k34 1300 f_50), ((q0 52), zi k33 1300 f_77)] := by rw [e_f_77]; exact hD
  refine lv_aload_n hx hb dX13_node_78 rfl (lv_at hl 0 rfl) ?_
  refine lv_dup hx hb dX13_node_79 rfl ?_
  refine va_get (D := (dC, dI)) (ci := 13) (v := .int (v0 53)) (C := RX13) (T := TX13) (N := 75) hx hb hG zuX13 hown hK hP 0 rfl rfl 53 (by decide) (hG _ zv1657) (fun _ h9 => h9) rfl dX13_node_80 ?_
  refine lv_iconst (v := 1) hx hb dX13_node_83 (by decide) ?_
  refine lv_iadd hx hb dX13_node_84 ?_
  refine lv_topi (fun z84 e_z84 => ?_)
  have b_ := zadd rfl zk_1 e_z84 (by omega) (by omega)
  have b_ : 0 ≤ z84.toInt ∧ z84.toInt ≤ 1300 := ⟨by omega, by omega⟩
  refine va_put (D := (dC, dI)) (ci := 13) (v := .int z84) (ty := .int) (C := RX13) (T := TX13) (N := 75) hx hb hG zuX13 tyX13 tyX13_ok nmX13 hown hK hP hD hS 0 rfl rfl 53 (by decide) (hG _ zv1657) (fun _ h9 => h9) rfl (by decide +kernel) rfl rfl (Nat.le_of_ble_eq_true rfl) dX13_node_85 (fun H locs hP hD hS => ?_)
  have hP : va_P (dC, dI) vwCl [(h0, .inr (13, mX13 q0 (upd (upd v0 42 z57) 53 z84))), ((q0 38), zi k23 1300 f_9), ((q0 39), zi k24 1300 f_19), ((q0 40), zi k25 1300 f_29), ((q0 41), zi k26 1300 f_40), ((q0 56), zi k34 1300 f_50), ((q0 52), zi k33 1300 f_77)] H := hP
  have hD : va_D A [(h0, .inr (13, mX13 q0 (upd (upd v0 42 z57) 53 z84))), ((q0 38), zi k23 1300 f_9), ((q0 39), zi k24 1300 f_19), ((q0 40), zi k25 1300 f_29), ((q0 41), zi k26 1300 f_40), ((q0 56), zi k34 1300 f_50), ((q0 52), zi k33 1300 f_77)] := hD
  refine lv_aload_n hx hb dX13_node_88 rfl (lv_at hl 0 rfl) ?_
  refine va_get (D := (dC, dI)) (ci := 13) (v := .int z57) (C := RX13) (T := TX13) (N := 75) hx hb hG zuX13 hown hK hP 0 rfl rfl 42 (by decide) (hG _ zv1646) (fun _ h9 => h9) rfl dX13_node_89 ?_
  refine lv_iconst (v := 1) hx hb dX13_node_92 (by decide) ?_
  refine lv_isub hx hb dX13_node_93 ?_
  refine lv_topi (fun z93 e_z93 => ?_)
  have b_ := zsub rfl zk_1 e_z93 (by omega) (by omega)
  have htr : zTr f_9 f_19 f_29 f_40 z57.toInt (v0 47).toInt := by rw [show z57.toInt = (v0 42).toInt + 1 from by omega, e_f_9, e_f_19, e_f_29, e_f_40]; exact zTr_push hp2_ rfl (by omega) hp3_
  refine W.widen (k := 0) (n := 0) (by decide) (by decide) ?_
  have hpost : (0 ≤ z93.toInt ∧ z93.toInt ≤ 1299) ∧ (1 ≤ z57.toInt ∧ z57.toInt ≤ 1300) ∧ (1 ≤ z84.toInt ∧ z84.toInt ≤ 1300) ∧ (z93.toInt = (v0 42).toInt) ∧ (z57.toInt = (v0 42).toInt + 1) ∧ (z84.toInt = (v0 53).toInt + 1) := ⟨(by first | with_reducible assumption | exact ⟨by omega, by omega⟩), (by first | with_reducible assumption | exact ⟨by omega, by omega⟩), (by first | with_reducible assumption | exact ⟨by omega, by omega⟩), by omega, by omega, by omega⟩
  have hP9 : va_P (dC, dI) vwCl [(h0, .inr (13, mX13 q0 (upd (upd v0 42 z57) 53 z84))), ((q0 38), zi k23 1300 f_9), ((q0 39), zi k24 1300 f_19), ((q0 40), zi k25 1300 f_29), ((q0 41), zi k26 1300 f_40), ((q0 56), zi k34 1300 f_50), ((q0 52), zi k33 1300 f_77)] H := hP
  have hD9 : va_D A [(h0, .inr (13, mX13 q0 (upd (upd v0 42 z57) 53 z84))), ((q0 38), zi k23 1300 f_9), ((q0 39), zi k24 1300 f_19), ((q0 40), zi k25 1300 f_29), ((q0 41), zi k26 1300 f_40), ((q0 56), zi k34 1300 f_50), ((q0 52), zi k33 1300 f_77)] := hD
  have hB0 : zTr f_9 f_19 f_29 f_40 z57.toInt (v0 47).toInt := by assumption
  have hB1 : ∀ (f_ g_ h_ i_ j_ k_ : Nat → Int32) (lv_ wn_ : Int) (W_ : Int → Int → (Nat → Int32) → (Nat → Int32) → Int → Int → Int → Prop), zxN f23 f34 f_9 f_50 (zma f33 f23 f24 f25 f26 f_ g_ h_ i_ j_ k_, lv_, wn_, W_) (zma f_77 f_9 f_19 f_29 f_40 f_ g_ h_ i_ j_ k_, lv_, wn_, W_) (v0 42).toInt (v0 53).toInt z84.toInt x1.toInt x4.toInt x2.toInt x3.toInt := by exact fun f_ g_ h_ i_ j_ k_ lv_ wn_ W_ => zxN_i e_f_9 e_f_19 e_f_29 e_f_40 e_f_50 e_f_77 e_z73 e_z76 (by omega) (by omega)
  exact W.iret (v := z93) hx hb hr (fun t ht hW => ⟨⟨z93, (fun i => ([z57, z84] : List (Int32)).getD i 0), rfl, hpost, (fun _ => 0), (fun i => ([f_9, f_19, f_29, f_40, f_50, f_77] : List (Nat → Int32)).getD i (fun _ => 0)), (fun _ => (fun _ => 0)), hf_19, hf_29, hB0, hB1, by rw [ht]; exact hP9, va_K.moved hW.alike hK, hD9⟩, hS.F ht⟩) hS.2.2 dX13_node_94
set_option maxHeartbeats 8000000 in
set_option maxRecDepth 100000 in
theorem sX13_leafNode_0 (l : Launch) (dC : Nat → ClassId) (dI : Nat → Nat → Nat) (adK adV : Nat → Nat) (h0 : Nat) (q0 : Nat → Nat) (k27 : ClassId) (k23 : ClassId) (k24 : ClassId) (k25 : ClassId) (k26 : ClassId) (k34 : ClassId) (k33 : ClassId) (k28 : ClassId) (k29 : ClassId) (sz : Nat) (v0 : Nat → Int32) (f27 : Nat → Int32) (f23 : Nat → Int32) (f24 : Nat → Int32) (f25 : Nat → Int32) (f26 : Nat → Int32) (f34 : Nat → Int32) (f33 : Nat → Int32) (f28 : Nat → Int32) (f29 : Nat → Int32) (x1 : Int32) (hv0 : zR rg_Model v0) (hf24 : zA (-1) 1299 f24) (hf25 : zA (-1) 1299 f25) (hx1 : 0 ≤ x1.toInt ∧ x1.toInt ≤ 39) (hp0_ : (v0 42).toInt ≤ 1299) (hp1_ : (v0 53).toInt ≤ 1299) (hp2_ : zTr f23 f24 f25 f26 (v0 42).toInt (v0 47).toInt) (hp3_ : zLf f27 f28 f29 (v0 47).toInt) (hp4_ : x1.toInt < (v0 47).toInt) : Met l yX13_leafNode (zw yX13_leafNode cX13_leafNode 2 (some .int)) { frames := 1, cells := 0, slots := 0, locals := 24 } (zPc dC dI adK adV [.ref h0, .int x1] sz [(h0, .inr (13, mX13 q0 v0)), ((q0 43), zi k27 40 f27), ((q0 38), zi k23 1300 f23), ((q0 39), zi k24 1300 f24), ((q0 40), zi k25 1300 f25), ((q0 41), zi k26 1300 f26), ((q0 56), zi k34 1300 f34), ((q0 52), zi k33 1300 f33), ((q0 44), zi k28 40 f28), ((q0 45), zi k29 40 f29)] [(k27, .int), (k23, .int), (k24, .int), (k25, .int), (k26, .int), (k34, .boolean), (k33, .int), (k28, .int), (k29, .int)]) (va_Qi (fun (r : Int32) (u : Nat → Int32) => (0 ≤ r.toInt ∧ r.toInt ≤ 1299) ∧ (1 ≤ (u 0).toInt ∧ (u 0).toInt ≤ 1300) ∧ (1 ≤ (u 1).toInt ∧ (u 1).toInt ≤ 1300) ∧ (r.toInt = (v0 42).toInt) ∧ ((u 0).toInt = (v0 42).toInt + 1) ∧ ((u 1).toInt = (v0 53).toInt + 1)) (fun (u : Nat → Int32) (t : State) => ∃ (ww : Nat → Int64) (aa : Nat → Nat → Int32) (bb : Nat → Nat → Int64), zA (-1) 1299 (aa 1) ∧ zA (-1) 1299 (aa 2) ∧ (zTr (aa 0) (aa 1) (aa 2) (aa 3) (u 0).toInt (v0 47).toInt) ∧ (∀ (f_ g_ h_ i_ j_ k_ : Nat → Int32) (lv_ wn_ : Int) (W_ : Int → Int → (Nat → Int32) → (Nat → Int32) → Int → Int → Int → Prop), zxN f23 f34 (aa 0) (aa 4) (zma f33 f23 f24 f25 f26 f_ g_ h_ i_ j_ k_, lv_, wn_, W_) (zma (aa 5) (aa 0) (aa 1) (aa 2) (aa 3) f_ g_ h_ i_ j_ k_, lv_, wn_, W_) (v0 42).toInt (v0 53).toInt (u 1).toInt (f27 ((x1 : Int32)).toNatClampNeg).toInt x1.toInt ((-1) : Int32).toInt ((-1) : Int32).toInt) ∧ va_P (dC, dI) vwCl [(h0, .inr (13, mX13 q0 (upd (upd v0 42 (u 0)) 53 (u 1)))), ((q0 43), zi k27 40 f27), ((q0 38), zi k23 1300 (aa 0)), ((q0 39), zi k24 1300 (aa 1)), ((q0 40), zi k25 1300 (aa 2)), ((q0 41), zi k26 1300 (aa 3)), ((q0 56), zi k34 1300 (aa 4)), ((q0 52), zi k33 1300 (aa 5)), ((q0 44), zi k28 40 f28), ((q0 45), zi k29 40 f29)] t.heap ∧ va_K (dC, dI) vwCl [(k27, .int), (k23, .int), (k24, .int), (k25, .int), (k26, .int), (k34, .boolean), (k33, .int), (k28, .int), (k29, .int)] t ∧ va_D (va_A [(h0, .inr (13, mX13 q0 v0)), ((q0 43), zi k27 40 f27), ((q0 38), zi k23 1300 f23), ((q0 39), zi k24 1300 f24), ((q0 40), zi k25 1300 f25), ((q0 41), zi k26 1300 f26), ((q0 56), zi k34 1300 f34), ((q0 52), zi k33 1300 f33), ((q0 44), zi k28 40 f28), ((q0 45), zi k29 40 f29)] sz) [(h0, .inr (13, mX13 q0 (upd (upd v0 42 (u 0)) 53 (u 1)))), ((q0 43), zi k27 40 f27), ((q0 38), zi k23 1300 (aa 0)), ((q0 39), zi k24 1300 (aa 1)), ((q0 40), zi k25 1300 (aa 2)), ((q0 41), zi k26 1300 (aa 3)), ((q0 56), zi k34 1300 (aa 4)), ((q0 52), zi k33 1300 (aa 5)), ((q0 44), zi k28 40 f28), ((q0 45), zi k29 40 f29)]) (va_A [(h0, .inr (13, mX13 q0 v0)), ((q0 43), zi k27 40 f27), ((q0 38), zi k23 1300 f23), ((q0 39), zi k24 1300 f24), ((q0 40), zi k25 1300 f25), ((q0 41), zi k26 1300 f26), ((q0 56), zi k34 1300 f34), ((q0 52), zi k33 1300 f33), ((q0 44), zi k28 40 f28), ((q0 45), zi k29 40 f29)] sz)) 0 0 (va_A [(h0, .inr (13, mX13 q0 v0)), ((q0 43), zi k27 40 f27), ((q0 38), zi k23 1300 f23), ((q0 39), zi k24 1300 f24), ((q0 40), zi k25 1300 f25), ((q0 41), zi k26 1300 f26), ((q0 56), zi k34 1300 f34), ((q0 52), zi k33 1300 f33), ((q0 44), zi k28 40 f28), ((q0 45), zi k29 40 f29)] sz) := by
  refine Met.ofW (cc := cX13_leafNode) (maxL := 2) (ret := (some .int)) (by decide) rfl ?_
  intro p e s m args below meth c s₁ B hml hv
  obtain ⟨rfl, hsz, hP, hK, hD0, hE, hZ⟩ := hv
  have hx := B.exec
  have hb := B.bytes
  have hr := B.returns
  have hG : ∀ w ∈ zG, w.before _ s = true := fun w h => atoms_spec (ws := (zw yX13_leafNode cX13_leafNode 2 (some .int))) B.pre w (List.mem_cons_of_mem _ h)
  have hown : s.vm.findClass RX13 = some m.cls := findClass_of_methodNamed B.named
  have hlocks := B.notSynchronized

  subst hsz
  have hD := hD0.self (sz := s.heap.size)
  generalize hAe : va_A [(h0, .inr (13, mX13 q0 v0)), ((q0 43), zi k27 40 f27), ((q0 38), zi k23 1300 f23), ((q0 39), zi k24 1300 f24), ((q0 40), zi k25 1300 f25), ((q0 41), zi k26 1300 f26), ((q0 56), zi k34 1300 f34), ((q0 52), zi k33 1300 f33), ((q0 44), zi k28 40 f28), ((q0 45), zi k29 40 f29)] s.heap.size = A at hD hZ ⊢
  have hA : ∀ q : Nat, s.heap.size ≤ q → A q := fun q h => by rw [← hAe]; exact Or.inr h
  have hS : va_S A s.heap s.heap [] := va_S.rf
  have hl := lv_entry ([.ref h0, .int x1]) (n := 2) (Nat.le_of_ble_eq_true rfl)
  rw [lg_entry_eq]
  generalize (lg_sl ([.ref h0, .int x1]) ++ List.replicate (2 - (lg_sl ([.ref h0, .int x1])).length) Slot.unset).toArray = ls at hl ⊢
  have hl : lv_has ls 2 [(0, .ref h0), (1, .int x1)] := hl
  have b_ := zk_m1
  have b_ : 0 ≤ (v0 42).toInt ∧ (v0 42).toInt ≤ 1300 := hv0 42
  have b_ : 0 ≤ (v0 53).toInt ∧ (v0 53).toInt ≤ 1300 := hv0 53
  have b_ : 0 ≤ (v0 47).toInt ∧ (v0 47).toInt ≤ 40 := hv0 47
  refine lv_aload_n hx hb dX13_leafNode_0 rfl (lv_at hl 0 rfl) ?_
  refine lv_aload_n hx hb dX13_leafNode_1 rfl (lv_at hl 0 rfl) ?_
  refine va_get (D := (dC, dI)) (ci := 13) (v := .ref (q0 43)) (C := RX13) (T := TX13) (N := 75) hx hb hG zuX13 hown hK hP 0 rfl rfl 43 (by decide) (hG _ zv1647) (fun _ h9 => h9) rfl dX13_leafNode_2 ?_
  refine lv_iload_n hx hb dX13_leafNode_5 rfl (lv_at hl 1 rfl) ?_
  refine va_iald hx hb hK hP 1 0 rfl rfl (zin_lit ⟨by omega, by omega⟩) dX13_leafNode_6 ?_
  refine lv_topi (fun z6 e_z6 => ?_)
  refine lv_iconst (v := (-1)) hx hb dX13_leafNode_7 (by decide) ?_
  refine lv_iconst (v := (-1)) hx hb dX13_leafNode_8 (by decide) ?_
  refine lv_iload_n hx hb dX13_leafNode_9 rfl (lv_at hl 1 rfl) ?_
  have hg := zLf_get hp3_ hp4_ (by omega)
  have b_ : -2147483648 ≤ z6.toInt ∧ z6.toInt ≤ 2147483647 := ⟨zlo _, zhi _⟩
  have hnd : zNd f23 (v0 42).toInt (v0 47).toInt z6.toInt ((-1) : Int32).toInt ((-1) : Int32).toInt x1.toInt := zNd_leaf (by rw [e_z6]; exact ⟨hg.1, hg.2.1⟩) ⟨by omega, by omega⟩
  have hPc := hP.sub (ws' := [(h0, .inr (13, mX13 q0 v0)), ((q0 38), zi k23 1300 f23), ((q0 39), zi k24 1300 f24), ((q0 40), zi k25 1300 f25), ((q0 41), zi k26 1300 f26), ((q0 56), zi k34 1300 f34), ((q0 52), zi k33 1300 f33)]) [0, 2, 3, 4, 5, 6, 7] rfl
  have hDc := hD.sub (ws' := [(h0, .inr (13, mX13 q0 v0)), ((q0 38), zi k23 1300 f23), ((q0 39), zi k24 1300 f24), ((q0 40), zi k25 1300 f25), ((q0 41), zi k26 1300 f26), ((q0 56), zi k34 1300 f34), ((q0 52), zi k33 1300 f33)]) [0, 2, 3, 4, 5, 6, 7] (by decide) rfl
  have hKc := hK.sub (tys' := [(k23, .int), (k24, .int), (k25, .int), (k26, .int), (k34, .boolean), (k33, .int)]) [1, 2, 3, 4, 5, 6] rfl
  have hFc := va_free (wc := [(h0, .inr (13, mX13 q0 v0)), ((q0 38), zi k23 1300 f23), ((q0 39), zi k24 1300 f24), ((q0 40), zi k25 1300 f25), ((q0 41), zi k26 1300 f26), ((q0 56), zi k34 1300 f34), ((q0 52), zi k33 1300 f33)]) hD hS hA [0, 2, 3, 4, 5, 6, 7] rfl
  refine va_calli (va_runV (As := [.int z6, .int (-1), .int (-1), .int x1]) (rest := []) ⟨hx, hb, hml, hown, hG⟩ (sX13_node_0 l dC dI adK adV h0 q0 k23 k24 k25 k26 k34 k33 s.heap.size v0 f23 f24 f25 f26 f34 f33 z6 (-1) (-1) x1 hv0 hf24 hf25 ⟨show ((-1) : Int) ≤ ((-1) : Int32).toInt from by decide, show ((-1) : Int32).toInt ≤ (1299 : Int) from by decide⟩ ⟨show ((-1) : Int) ≤ ((-1) : Int32).toInt from by decide, show ((-1) : Int32).toInt ≤ (1299 : Int) from by decide⟩ (show (v0 42).toInt ≤ 1299 from by omega) (show (v0 53).toInt ≤ 1299 from by omega) (show zTr f23 f24 f25 f26 (v0 42).toInt (v0 47).toInt from by first | with_reducible assumption | assumption) (show zNd f23 (v0 42).toInt (v0 47).toInt z6.toInt ((-1) : Int32).toInt ((-1) : Int32).toInt x1.toInt from by first | with_reducible assumption | assumption)) (cwV 4 hG (zgV zv2118 zv2120 zv100 zv142 zv2121) rfl rfl rfl (by decide +kernel) ⟨Nat.le_of_ble_eq_true rfl, Nat.le_of_ble_eq_true rfl⟩) ⟨zPc_blind, va_recv hKc hPc (ci := 13) (q0 := 0) rfl rfl, zPc_pre hPc hKc hDc hE hS hFc hZ⟩ rfl rfl hl.1 rfl (lv_room (Nat.le_of_ble_eq_true rfl)) dX13_leafNode_10 ⟨Nat.le_of_ble_eq_true rfl, Nat.le_of_ble_eq_true rfl⟩) hS (fun q _ h => hFc q h) hFc (fun r10_ u10_ t H1 locs ht hvm hw hB hz1 hk1 hS => ?_)
  replace hw : (0 ≤ r10_.toInt ∧ r10_.toInt ≤ 1299) ∧ (1 ≤ (u10_ 0).toInt ∧ (u10_ 0).toInt ≤ 1300) ∧ (1 ≤ (u10_ 1).toInt ∧ (u10_ 1).toInt ≤ 1300) ∧ (r10_.toInt = (v0 42).toInt) ∧ ((u10_ 0).toInt = (v0 42).toInt + 1) ∧ ((u10_ 1).toInt = (v0 53).toInt + 1) := hw
  obtain ⟨b_, b_, b_, hX10_0, hX10_1, hX10_2⟩ := hw
  obtain ⟨w10_, a10_, b10_, ha10_1, ha10_2, hB10_0, hB10_1, hP1, hK1, hD1⟩ := hB
  have hB10_0 : zTr (a10_ 0) (a10_ 1) (a10_ 2) (a10_ 3) (u10_ 0).toInt (v0 47).toInt := hB10_0
  have hB10_1 : ∀ (f_ g_ h_ i_ j_ k_ : Nat → Int32) (lv_ wn_ : Int) (W_ : Int → Int → (Nat → Int32) → (Nat → Int32) → Int → Int → Int → Prop), zxN f23 f34 (a10_ 0) (a10_ 4) (zma f33 f23 f24 f25 f26 f_ g_ h_ i_ j_ k_, lv_, wn_, W_) (zma (a10_ 5) (a10_ 0) (a10_ 1) (a10_ 2) (a10_ 3) f_ g_ h_ i_ j_ k_, lv_, wn_, W_) (v0 42).toInt (v0 53).toInt (u10_ 1).toInt z6.toInt x1.toInt ((-1) : Int32).toInt ((-1) : Int32).toInt := hB10_1
  rw [ht] at hP1
  obtain ⟨hP, hD⟩ := va_join (wr := [((q0 43), zi k27 40 f27), ((q0 44), zi k28 40 f28), ((q0 45), zi k29 40 f29)]) (w1 := [(h0, .inr (13, mX13 q0 (upd (upd v0 42 (u10_ 0)) 53 (u10_ 1)))), ((q0 38), zi k23 1300 (a10_ 0)), ((q0 39), zi k24 1300 (a10_ 1)), ((q0 40), zi k25 1300 (a10_ 2)), ((q0 41), zi k26 1300 (a10_ 3)), ((q0 56), zi k34 1300 (a10_ 4)), ((q0 52), zi k33 1300 (a10_ 5))]) hP hD [0, 2, 3, 4, 5, 6, 7] [1, 8, 9] rfl rfl (by decide) (by decide) hk1 hFc hP1 hD1
  have hP : va_P (dC, dI) vwCl [(h0, .inr (13, mX13 q0 (upd (upd v0 42 (u10_ 0)) 53 (u10_ 1)))), ((q0 43), zi k27 40 f27), ((q0 38), zi k23 1300 (a10_ 0)), ((q0 39), zi k24 1300 (a10_ 1)), ((q0 40), zi k25 1300 (a10_ 2)), ((q0 41), zi k26 1300 (a10_ 3)), ((q0 56), zi k34 1300 (a10_ 4)), ((q0 52), zi k33 1300 (a10_ 5)), ((q0 44), zi k28 40 f28), ((q0 45), zi k29 40 f29)] H1 := hP.sub [3, 0, 4, 5, 6, 7, 8, 9, 1, 2] rfl
  have hD : va_D A [(h0, .inr (13, mX13 q0 (upd (upd v0 42 (u10_ 0)) 53 (u10_ 1)))), ((q0 43), zi k27 40 f27), ((q0 38), zi k23 1300 (a10_ 0)), ((q0 39), zi k24 1300 (a10_ 1)), ((q0 40), zi k25 1300 (a10_ 2)), ((q0 41), zi k26 1300 (a10_ 3)), ((q0 56), zi k34 1300 (a10_ 4)), ((q0 52), zi k33 1300 (a10_ 5)), ((q0 44), zi k28 40 f28), ((q0 45), zi k29 40 f29)] := hD.sub [3, 0, 4, 5, 6, 7, 8, 9, 1, 2] (by decide) rfl
  generalize H1 = H at hP hS ⊢
  clear hz1
  refine W.widen (k := 0) (n := 0) (by decide) (by decide) ?_
  have hpost : (0 ≤ r10_.toInt ∧ r10_.toInt ≤ 1299) ∧ (1 ≤ (u10_ 0).toInt ∧ (u10_ 0).toInt ≤ 1300) ∧ (1 ≤ (u10_ 1).toInt ∧ (u10_ 1).toInt ≤ 1300) ∧ (r10_.toInt = (v0 42).toInt) ∧ ((u10_ 0).toInt = (v0 42).toInt + 1) ∧ ((u10_ 1).toInt = (v0 53).toInt + 1) := ⟨(by first | with_reducible assumption | exact ⟨by omega, by omega⟩), (by first | with_reducible assumption | exact ⟨by omega, by omega⟩), (by first | with_reducible assumption | exact ⟨by omega, by omega⟩), by omega, by omega, by omega⟩
  have hP9 : va_P (dC, dI) vwCl [(h0, .inr (13, mX13 q0 (upd (upd v0 42 (u10_ 0)) 53 (u10_ 1)))), ((q0 43), zi k27 40 f27), ((q0 38), zi k23 1300 (a10_ 0)), ((q0 39), zi k24 1300 (a10_ 1)), ((q0 40), zi k25 1300 (a10_ 2)), ((q0 41), zi k26 1300 (a10_ 3)), ((q0 56), zi k34 1300 (a10_ 4)), ((q0 52), zi k33 1300 (a10_ 5)), ((q0 44), zi k28 40 f28), ((q0 45), zi k29 40 f29)] H := hP
  have hD9 : va_D A [(h0, .inr (13, mX13 q0 (upd (upd v0 42 (u10_ 0)) 53 (u10_ 1)))), ((q0 43), zi k27 40 f27), ((q0 38), zi k23 1300 (a10_ 0)), ((q0 39), zi k24 1300 (a10_ 1)), ((q0 40), zi k25 1300 (a10_ 2)), ((q0 41), zi k26 1300 (a10_ 3)), ((q0 56), zi k34 1300 (a10_ 4)), ((q0 52), zi k33 1300 (a10_ 5)), ((q0 44), zi k28 40 f28), ((q0 45), zi k29 40 f29)] := hD
  have hB0 : zTr (a10_ 0) (a10_ 1) (a10_ 2) (a10_ 3) (u10_ 0).toInt (v0 47).toInt := by assumption
  have hB1 : ∀ (f_ g_ h_ i_ j_ k_ : Nat → Int32) (lv_ wn_ : Int) (W_ : Int → Int → (Nat → Int32) → (Nat → Int32) → Int → Int → Int → Prop), zxN f23 f34 (a10_ 0) (a10_ 4) (zma f33 f23 f24 f25 f26 f_ g_ h_ i_ j_ k_, lv_, wn_, W_) (zma (a10_ 5) (a10_ 0) (a10_ 1) (a10_ 2) (a10_ 3) f_ g_ h_ i_ j_ k_, lv_, wn_, W_) (v0 42).toInt (v0 53).toInt (u10_ 1).toInt (f27 ((x1 : Int32)).toNatClampNeg).toInt x1.toInt ((-1) : Int32).toInt ((-1) : Int32).toInt := by (rw [← e_z6]; exact hB10_1)
  exact W.iret (v := r10_) hx hb hr (fun t ht hW => ⟨⟨r10_, (fun i => ([(u10_ 0), (u10_ 1)] : List (Int32)).getD i 0), rfl, hpost, (fun _ => 0), (fun i => ([(a10_ 0), (a10_ 1), (a10_ 2), (a10_ 3), (a10_ 4), (a10_ 5)] : List (Nat → Int32)).getD i (fun _ => 0)), (fun _ => (fun _ => 0)), ha10_1, ha10_2, hB0, hB1, by rw [ht]; exact hP9, va_K.moved hW.alike hK, hD9⟩, hS.F ht⟩) hS.2.2 dX13_leafNode_13
set_option maxHeartbeats 8000000 in
set_option maxRecDepth 100000 in
theorem sX13_token_0 (l : Launch) (dC : Nat → ClassId) (dI : Nat → Nat → Nat) (adK adV : Nat → Nat) (h0 : Nat) (q0 : Nat → Nat) (k27 : ClassId) (k1 : ClassId) (k28 : ClassId) (k29 : ClassId) (k15 : ClassId) (k32 : ClassId) (k31 : ClassId) (k23 : ClassId) (k24 : ClassId) (k25 : ClassId) (k26 : ClassId) (k34 : ClassId) (k33 : ClassId) (k30 : ClassId) (sz : Nat) (v0 : Nat → Int32) (f27 : Nat → Int32) (sf22 : List Value) (f1 : Nat → Int32) (f28 : Nat → Int32) (f29 : Nat → Int32) (f15 : Nat → Int32) (f32 : Nat → Int32) (f31 : Nat → Int32) (f23 : Nat → Int32) (f24 : Nat → Int32) (f25 : Nat → Int32) (f26 : Nat → Int32) (f34 : Nat → Int32) (f33 : Nat → Int32) (f30 : Nat → Int32) (hv0 : zR rg_Model v0) (hf32 : zA 0 12 f32) (hf24 : zA (-1) 1299 f24) (hf25 : zA (-1) 1299 f25) (hp0_ : (v0 36).toInt ≠ 0 → (v0 37).toInt < (v0 35).toInt) (hp1_ : (v0 35).toInt ≤ (v0 34).toInt) (hp2_ : (v0 37).toInt ≤ (v0 35).toInt) (hp3_ : (v0 53).toInt = (v0 42).toInt) (hp4_ : (v0 50).toInt ≤ (v0 47).toInt + (v0 51).toInt) (hp5_ : (v0 42).toInt ≤ 2 * (v0 37).toInt) (hp6_ : (v0 36).toInt ≠ 0) (hp7_ : zTr f23 f24 f25 f26 (v0 42).toInt (v0 47).toInt) (hp8_ : zLf f27 f28 f29 (v0 47).toInt) : vx_Met l yX13_token (zw yX13_token cX13_token 4 (some .int)) { frames := 4, cells := 0, slots := 0, locals := 86 } (zPc dC dI adK adV [.ref h0] sz [(h0, .inr (13, mX13 q0 v0)), ((q0 43), zi k27 40 f27), ((q0 31), .inr (12, sf22)), ((q0 0), zi k1 600 f1), ((q0 44), zi k28 40 f28), ((q0 45), zi k29 40 f29), ((q0 19), zi k15 12 f15), ((q0 49), zi k32 200 f32), ((q0 48), zi k31 2400 f31), ((q0 38), zi k23 1300 f23), ((q0 39), zi k24 1300 f24), ((q0 40), zi k25 1300 f25), ((q0 41), zi k26 1300 f26), ((q0 56), zi k34 1300 f34), ((q0 52), zi k33 1300 f33), ((q0 46), zi k30 40 f30)] [(k27, .int), (k1, .byte), (k28, .int), (k29, .int), (k15, .byte), (k32, .int), (k31, .byte), (k23, .int), (k24, .int), (k25, .int), (k26, .int), (k34, .boolean), (k33, .int), (k30, .int)]) (va_Qi (fun (r : Int32) (u : Nat → Int32) => (0 ≤ r.toInt ∧ r.toInt ≤ 1299) ∧ (0 ≤ (u 0).toInt ∧ (u 0).toInt ≤ 12) ∧ (0 ≤ (u 3).toInt ∧ (u 3).toInt ≤ 600) ∧ (0 ≤ (u 4).toInt ∧ (u 4).toInt ≤ 3) ∧ (0 ≤ (u 5).toInt ∧ (u 5).toInt ≤ 600) ∧ (1 ≤ (u 6).toInt ∧ (u 6).toInt ≤ 1300) ∧ (1 ≤ (u 7).toInt ∧ (u 7).toInt ≤ 40) ∧ (1 ≤ (u 8).toInt ∧ (u 8).toInt ≤ 200) ∧ (1 ≤ (u 9).toInt ∧ (u 9).toInt ≤ 1300) ∧ ((u 4).toInt ≠ 0 → (u 5).toInt < (u 3).toInt) ∧ ((u 3).toInt ≤ (v0 34).toInt) ∧ ((u 5).toInt ≤ (u 3).toInt) ∧ ((u 9).toInt = (u 6).toInt) ∧ ((u 8).toInt ≤ (u 7).toInt + (v0 51).toInt) ∧ (2 * (v0 37).toInt - (v0 42).toInt + 1 ≤ 2 * (u 5).toInt - (u 6).toInt) ∧ ((v0 37).toInt + 1 ≤ (u 5).toInt) ∧ (0 ≤ r.toInt ∧ r.toInt < (u 6).toInt) ∧ ((v0 42).toInt + 1 ≤ (u 6).toInt) ∧ ((v0 42).toInt ≤ r.toInt) ∧ (r.toInt = (u 9).toInt - 1) ∧ (r.toInt = (u 10).toInt)) (fun (u : Nat → Int32) (t : State) => ∃ (ww : Nat → Int64) (aa : Nat → Nat → Int32) (bb : Nat → Nat → Int64), zA 0 12 (aa 4) ∧ zA (-1) 1299 (aa 7) ∧ zA (-1) 1299 (aa 8) ∧ (zTr (aa 6) (aa 7) (aa 8) (aa 9) (u 6).toInt (u 7).toInt) ∧ (zLf (aa 0) (aa 1) (aa 2) (u 7).toInt) ∧ (∀ sd_ : Int, 0 ≤ sd_ → (v0 36).toInt = 1 → zxS (zTkn f1 (v0 34).toInt sd_) f1 (v0 34).toInt (v0 37).toInt (v0 36).toInt (v0 35).toInt (v0 47).toInt (v0 51).toInt (v0 53).toInt (zma f33 f23 f24 f25 f26 f27 f28 f29 f30 f31 f32, (v0 47).toInt, (v0 50).toInt, zWmq f1 (v0 34).toInt) (u 5).toInt (u 4).toInt (u 3).toInt (u 7).toInt (v0 51).toInt (u 9).toInt (zma (aa 11) (aa 6) (aa 7) (aa 8) (aa 9) (aa 0) (aa 1) (aa 2) f30 (aa 5) (aa 4), (u 7).toInt, (u 8).toInt, zWmq f1 (v0 34).toInt) (fun pl => pl = true ↔ zHp (aa 6) (aa 10) (u 10).toInt)) ∧ (zNk f23 f34 (aa 6) (aa 10) (v0 42).toInt) ∧ va_P (dC, dI) vwCl [(h0, .inr (13, mX13 q0 (upd (upd (upd (upd (upd (upd (upd (upd (upd (upd v0 20 (u 0)) 32 (u 1)) 33 (u 2)) 35 (u 3)) 36 (u 4)) 37 (u 5)) 42 (u 6)) 47 (u 7)) 50 (u 8)) 53 (u 9)))), ((q0 43), zi k27 40 (aa 0)), ((q0 31), .inr (12, sf22)), ((q0 0), zi k1 600 f1), ((q0 44), zi k28 40 (aa 1)), ((q0 45), zi k29 40 (aa 2)), ((q0 19), zi k15 12 (aa 3)), ((q0 49), zi k32 200 (aa 4)), ((q0 48), zi k31 2400 (aa 5)), ((q0 38), zi k23 1300 (aa 6)), ((q0 39), zi k24 1300 (aa 7)), ((q0 40), zi k25 1300 (aa 8)), ((q0 41), zi k26 1300 (aa 9)), ((q0 56), zi k34 1300 (aa 10)), ((q0 52), zi k33 1300 (aa 11)), ((q0 46), zi k30 40 f30)] t.heap ∧ va_K (dC, dI) vwCl [(k27, .int), (k1, .byte), (k28, .int), (k29, .int), (k15, .byte), (k32, .int), (k31, .byte), (k23, .int), (k24, .int), (k25, .int), (k26, .int), (k34, .boolean), (k33, .int), (k30, .int)] t ∧ va_D (va_A [(h0, .inr (13, mX13 q0 v0)), ((q0 43), zi k27 40 f27), ((q0 31), .inr (12, sf22)), ((q0 0), zi k1 600 f1), ((q0 44), zi k28 40 f28), ((q0 45), zi k29 40 f29), ((q0 19), zi k15 12 f15), ((q0 49), zi k32 200 f32), ((q0 48), zi k31 2400 f31), ((q0 38), zi k23 1300 f23), ((q0 39), zi k24 1300 f24), ((q0 40), zi k25 1300 f25), ((q0 41), zi k26 1300 f26), ((q0 56), zi k34 1300 f34), ((q0 52), zi k33 1300 f33), ((q0 46), zi k30 40 f30)] sz) [(h0, .inr (13, mX13 q0 (upd (upd (upd (upd (upd (upd (upd (upd (upd (upd v0 20 (u 0)) 32 (u 1)) 33 (u 2)) 35 (u 3)) 36 (u 4)) 37 (u 5)) 42 (u 6)) 47 (u 7)) 50 (u 8)) 53 (u 9)))), ((q0 43), zi k27 40 (aa 0)), ((q0 31), .inr (12, sf22)), ((q0 0), zi k1 600 f1), ((q0 44), zi k28 40 (aa 1)), ((q0 45), zi k29 40 (aa 2)), ((q0 19), zi k15 12 (aa 3)), ((q0 49), zi k32 200 (aa 4)), ((q0 48), zi k31 2400 (aa 5)), ((q0 38), zi k23 1300 (aa 6)), ((q0 39), zi k24 1300 (aa 7)), ((q0 40), zi k25 1300 (aa 8)), ((q0 41), zi k26 1300 (aa 9)), ((q0 56), zi k34 1300 (aa 10)), ((q0 52), zi k33 1300 (aa 11)), ((q0 46), zi k30 40 f30)]) (va_A [(h0, .inr (13, mX13 q0 v0)), ((q0 43), zi k27 40 f27), ((q0 31), .inr (12, sf22)), ((q0 0), zi k1 600 f1), ((q0 44), zi k28 40 f28), ((q0 45), zi k29 40 f29), ((q0 19), zi k15 12 f15), ((q0 49), zi k32 200 f32), ((q0 48), zi k31 2400 f31), ((q0 38), zi k23 1300 f23), ((q0 39), zi k24 1300 f24), ((q0 40), zi k25 1300 f25), ((q0 41), zi k26 1300 f26), ((q0 56), zi k34 1300 f34), ((q0 52), zi k33 1300 f33), ((q0 46), zi k30 40 f30)] sz)) (vx_X (fun (u : Nat → Int32) => (0 ≤ (u 0).toInt ∧ (u 0).toInt ≤ 12) ∧ (0 ≤ (u 3).toInt ∧ (u 3).toInt ≤ 600) ∧ (0 ≤ (u 4).toInt ∧ (u 4).toInt ≤ 3) ∧ (0 ≤ (u 5).toInt ∧ (u 5).toInt ≤ 600) ∧ (0 ≤ (u 6).toInt ∧ (u 6).toInt ≤ 1300) ∧ (40 ≤ (u 7).toInt ∧ (u 7).toInt ≤ 40) ∧ (0 ≤ (u 8).toInt ∧ (u 8).toInt ≤ 200) ∧ (0 ≤ (u 9).toInt ∧ (u 9).toInt ≤ 1300) ∧ (∀ sd_ : Int, zxX (zTkn f1 (v0 34).toInt sd_) f1 (v0 34).toInt (v0 37).toInt (v0 36).toInt (v0 35).toInt (v0 47).toInt (v0 51).toInt (v0 53).toInt (zma f33 f23 f24 f25 f26 f27 f28 f29 f30 f31 f32, (v0 47).toInt, (v0 50).toInt, zWmq f1 (v0 34).toInt))) (fun (E : String) (u : Nat → Int32) (t : State) => E = RX12 ∧ ∃ (ww : Nat → Int64) (aa : Nat → Nat → Int32) (bb : Nat → Nat → Int64), zA 0 12 (aa 4) ∧ zA (-1) 1299 (aa 7) ∧ zA (-1) 1299 (aa 8) ∧ va_P (dC, dI) vwCl [(h0, .inr (13, mX13 q0 (upd (upd (upd (upd (upd (upd (upd (upd (upd (upd v0 20 (u 0)) 32 (u 1)) 33 (u 2)) 35 (u 3)) 36 (u 4)) 37 (u 5)) 42 (u 6)) 47 (u 7)) 50 (u 8)) 53 (u 9)))), ((q0 43), zi k27 40 (aa 0)), ((q0 31), .inr (12, sf22)), ((q0 0), zi k1 600 f1), ((q0 44), zi k28 40 (aa 1)), ((q0 45), zi k29 40 (aa 2)), ((q0 19), zi k15 12 (aa 3)), ((q0 49), zi k32 200 (aa 4)), ((q0 48), zi k31 2400 (aa 5)), ((q0 38), zi k23 1300 (aa 6)), ((q0 39), zi k24 1300 (aa 7)), ((q0 40), zi k25 1300 (aa 8)), ((q0 41), zi k26 1300 (aa 9)), ((q0 56), zi k34 1300 (aa 10)), ((q0 52), zi k33 1300 (aa 11)), ((q0 46), zi k30 40 f30)] t.heap ∧ va_K (dC, dI) vwCl [(k27, .int), (k1, .byte), (k28, .int), (k29, .int), (k15, .byte), (k32, .int), (k31, .byte), (k23, .int), (k24, .int), (k25, .int), (k26, .int), (k34, .boolean), (k33, .int), (k30, .int)] t ∧ va_D (va_A [(h0, .inr (13, mX13 q0 v0)), ((q0 43), zi k27 40 f27), ((q0 31), .inr (12, sf22)), ((q0 0), zi k1 600 f1), ((q0 44), zi k28 40 f28), ((q0 45), zi k29 40 f29), ((q0 19), zi k15 12 f15), ((q0 49), zi k32 200 f32), ((q0 48), zi k31 2400 f31), ((q0 38), zi k23 1300 f23), ((q0 39), zi k24 1300 f24), ((q0 40), zi k25 1300 f25), ((q0 41), zi k26 1300 f26), ((q0 56), zi k34 1300 f34), ((q0 52), zi k33 1300 f33), ((q0 46), zi k30 40 f30)] sz) [(h0, .inr (13, mX13 q0 (upd (upd (upd (upd (upd (upd (upd (upd (upd (upd v0 20 (u 0)) 32 (u 1)) 33 (u 2)) 35 (u 3)) 36 (u 4)) 37 (u 5)) 42 (u 6)) 47 (u 7)) 50 (u 8)) 53 (u 9)))), ((q0 43), zi k27 40 (aa 0)), ((q0 31), .inr (12, sf22)), ((q0 0), zi k1 600 f1), ((q0 44), zi k28 40 (aa 1)), ((q0 45), zi k29 40 (aa 2)), ((q0 19), zi k15 12 (aa 3)), ((q0 49), zi k32 200 (aa 4)), ((q0 48), zi k31 2400 (aa 5)), ((q0 38), zi k23 1300 (aa 6)), ((q0 39), zi k24 1300 (aa 7)), ((q0 40), zi k25 1300 (aa 8)), ((q0 41), zi k26 1300 (aa 9)), ((q0 56), zi k34 1300 (aa 10)), ((q0 52), zi k33 1300 (aa 11)), ((q0 46), zi k30 40 f30)]) (va_A [(h0, .inr (13, mX13 q0 v0)), ((q0 43), zi k27 40 f27), ((q0 31), .inr (12, sf22)), ((q0 0), zi k1 600 f1), ((q0 44), zi k28 40 f28), ((q0 45), zi k29 40 f29), ((q0 19), zi k15 12 f15), ((q0 49), zi k32 200 f32), ((q0 48), zi k31 2400 f31), ((q0 38), zi k23 1300 f23), ((q0 39), zi k24 1300 f24), ((q0 40), zi k25 1300 f25), ((q0 41), zi k26 1300 f26), ((q0 56), zi k34 1300 f34), ((q0 52), zi k33 1300 f33), ((q0 46), zi k30 40 f30)] sz)) 0 0 (va_A [(h0, .inr (13, mX13 q0 v0)), ((q0 43), zi k27 40 f27), ((q0 31), .inr (12, sf22)), ((q0 0), zi k1 600 f1), ((q0 44), zi k28 40 f28), ((q0 45), zi k29 40 f29), ((q0 19), zi k15 12 f15), ((q0 49), zi k32 200 f32), ((q0 48), zi k31 2400 f31), ((q0 38), zi k23 1300 f23), ((q0 39), zi k24 1300 f24), ((q0 40), zi k25 1300 f25), ((q0 41), zi k26 1300 f26), ((q0 56), zi k34 1300 f34), ((q0 52), zi k33 1300 f33), ((q0 46), zi k30 40 f30)] sz) := by
  refine vx_ofW (cc := cX13_token) (maxL := 4) (ret := (some .int)) (by decide) rfl ?_
  intro p e s m args below meth c s₁ B hml hout hv
  obtain ⟨rfl, hsz, hP, hK, hD0, hE, hZ⟩ := hv
  have hx := B.exec
  have hb := B.bytes
  have hr := B.returns
  have hG : ∀ w ∈ zG, w.before _ s = true := fun w h => atoms_spec (ws := (zw yX13_token cX13_token 4 (some .int))) B.pre w (List.mem_cons_of_mem _ h)
  have hown : s.vm.findClass RX13 = some m.cls := findClass_of_methodNamed B.named
  have hlocks := B.notSynchronized

  subst hsz
  have hD := hD0.self (sz := s.heap.size)
  generalize hAe : va_A [(h0, .inr (13, mX13 q0 v0)), ((q0 43), zi k27 40 f27), ((q0 31), .inr (12, sf22)), ((q0 0), zi k1 600 f1), ((q0 44), zi k28 40 f28), ((q0 45), zi k29 40 f29), ((q0 19), zi k15 12 f15), ((q0 49), zi k32 200 f32), ((q0 48), zi k31 2400 f31), ((q0 38), zi k23 1300 f23), ((q0 39), zi k24 1300 f24), ((q0 40), zi k25 1300 f25), ((q0 41), zi k26 1300 f26), ((q0 56), zi k34 1300 f34), ((q0 52), zi k33 1300 f33), ((q0 46), zi k30 40 f30)] s.heap.size = A at hD hZ ⊢
  have hA : ∀ q : Nat, s.heap.size ≤ q → A q := fun q h => by rw [← hAe]; exact Or.inr h
  have hS : va_S A s.heap s.heap [] := va_S.rf
  have hl := lv_entry ([.ref h0]) (n := 4) (Nat.le_of_ble_eq_true rfl)
  rw [lg_entry_eq]
  generalize (lg_sl ([.ref h0]) ++ List.replicate (4 - (lg_sl ([.ref h0])).length) Slot.unset).toArray = ls at hl ⊢
  have hl : lv_has ls 4 [(0, .ref h0)] := hl
  have b_ := zk_1
  have b_ := zk_2
  have b_ := zk_3
  have b_ := zk_4
  have b_ := zk_42
  have b_ : 0 ≤ (v0 36).toInt ∧ (v0 36).toInt ≤ 3 := hv0 36
  have b_ : 0 ≤ (v0 37).toInt ∧ (v0 37).toInt ≤ 600 := hv0 37
  have b_ : 0 ≤ (v0 35).toInt ∧ (v0 35).toInt ≤ 600 := hv0 35
  have b_ : 0 ≤ (v0 34).toInt ∧ (v0 34).toInt ≤ 600 := hv0 34
  have b_ : 0 ≤ (v0 53).toInt ∧ (v0 53).toInt ≤ 1300 := hv0 53
  have b_ : 0 ≤ (v0 42).toInt ∧ (v0 42).toInt ≤ 1300 := hv0 42
  have b_ : 0 ≤ (v0 50).toInt ∧ (v0 50).toInt ≤ 200 := hv0 50
  have b_ : 0 ≤ (v0 47).toInt ∧ (v0 47).toInt ≤ 40 := hv0 47
  have b_ : 0 ≤ (v0 51).toInt ∧ (v0 51).toInt ≤ 160 := hv0 51
  refine lv_aload_n hx hb dX13_token_0 rfl (lv_at hl 0 rfl) ?_
  refine lv_iconst (v := 1) hx hb dX13_token_1 (by decide) ?_
  have hPc := hP.sub (ws' := [(h0, .inr (13, mX13 q0 v0)), ((q0 43), zi k27 40 f27), ((q0 31), .inr (12, sf22))]) [0, 1, 2] rfl
  have hDc := hD.sub (ws' := [(h0, .inr (13, mX13 q0 v0)), ((q0 43), zi k27 40 f27), ((q0 31), .inr (12, sf22))]) [0, 1, 2] (by decide) rfl
  have hKc := hK.sub (tys' := [(k27, .int)]) [0] rfl
  have hFc := va_free (wc := [(h0, .inr (13, mX13 q0 v0)), ((q0 43), zi k27 40 f27), ((q0 31), .inr (12, sf22))]) hD hS hA [0, 1, 2] rfl
  refine vx_calli (vx_runV (As := [.int 1]) (rest := []) ⟨hx, hb, hml, hown, hG⟩ (sX13_leaf_0 l dC dI adK adV h0 q0 k27 s.heap.size v0 f27 sf22 1 hv0) (cwV 1 hG (zgV zv2102 zv2104 zv96 zv142 zv2105) rfl rfl rfl (by decide +kernel) ⟨Nat.le_of_ble_eq_true rfl, Nat.le_of_ble_eq_true rfl⟩) ⟨zPc_blind, va_recv hKc hPc (ci := 13) (q0 := 0) rfl rfl, zPc_pre hPc hKc hDc hE hS hFc hZ⟩ rfl rfl hl.1 rfl (lv_room (Nat.le_of_ble_eq_true rfl)) dX13_token_2 ⟨Nat.le_of_ble_eq_true rfl, Nat.le_of_ble_eq_true rfl⟩) hS (fun q _ h => hFc q h) hFc (fun q _ h => hFc q h) (fun E ce q9 x2_ t H1 locs ht hvm hpx hBX hz1 hk1 hS hce hcv hcl => ?_) (fun r2_ u2_ t H1 locs ht hvm hw hB hz1 hk1 hS => ?_)
  · skip
    replace hpx : (40 ≤ (x2_ 2).toInt ∧ (x2_ 2).toInt ≤ 40) ∧ (40 ≤ (v0 47).toInt) := hpx
    obtain ⟨b_, hE2_0⟩ := hpx
    obtain ⟨rfl, w2_, a2_, b2_, hP1, hK1, hD1⟩ := hBX
    rw [ht] at hP1
    obtain ⟨hP, hD⟩ := va_join (wr := [((q0 0), zi k1 600 f1), ((q0 44), zi k28 40 f28), ((q0 45), zi k29 40 f29), ((q0 19), zi k15 12 f15), ((q0 49), zi k32 200 f32), ((q0 48), zi k31 2400 f31), ((q0 38), zi k23 1300 f23), ((q0 39), zi k24 1300 f24), ((q0 40), zi k25 1300 f25), ((q0 41), zi k26 1300 f26), ((q0 56), zi k34 1300 f34), ((q0 52), zi k33 1300 f33), ((q0 46), zi k30 40 f30)]) (w1 := [(h0, .inr (13, mX13 q0 (upd (upd (upd v0 32 (x2_ 0)) 33 (x2_ 1)) 47 (x2_ 2)))), ((q0 43), zi k27 40 (a2_ 0)), ((q0 31), .inr (12, sf22))]) hP hD [0, 1, 2] [3, 4, 5, 6, 7, 8, 9, 10, 11, 12, 13, 14, 15] rfl rfl (by decide) (by decide) hk1 hFc hP1 hD1
    have hP : va_P (dC, dI) vwCl [(h0, .inr (13, mX13 q0 (upd (upd (upd v0 32 (x2_ 0)) 33 (x2_ 1)) 47 (x2_ 2)))), ((q0 43), zi k27 40 (a2_ 0)), ((q0 31), .inr (12, sf22)), ((q0 0), zi k1 600 f1), ((q0 44), zi k28 40 f28), ((q0 45), zi k29 40 f29), ((q0 19), zi k15 12 f15), ((q0 49), zi k32 200 f32), ((q0 48), zi k31 2400 f31), ((q0 38), zi k23 1300 f23), ((q0 39), zi k24 1300 f24), ((q0 40), zi k25 1300 f25), ((q0 41), zi k26 1300 f26), ((q0 56), zi k34 1300 f34), ((q0 52), zi k33 1300 f33), ((q0 46), zi k30 40 f30)] H1 := hP.sub [13, 14, 15, 0, 1, 2, 3, 4, 5, 6, 7, 8, 9, 10, 11, 12] rfl
    have hD : va_D A [(h0, .inr (13, mX13 q0 (upd (upd (upd v0 32 (x2_ 0)) 33 (x2_ 1)) 47 (x2_ 2)))), ((q0 43), zi k27 40 (a2_ 0)), ((q0 31), .inr (12, sf22)), ((q0 0), zi k1 600 f1), ((q0 44), zi k28 40 f28), ((q0 45), zi k29 40 f29), ((q0 19), zi k15 12 f15), ((q0 49), zi k32 200 f32), ((q0 48), zi k31 2400 f31), ((q0 38), zi k23 1300 f23), ((q0 39), zi k24 1300 f24), ((q0 40), zi k25 1300 f25), ((q0 41), zi k26 1300 f26), ((q0 56), zi k34 1300 f34), ((q0 52), zi k33 1300 f33), ((q0 46), zi k30 40 f30)] := hD.sub [13, 14, 15, 0, 1, 2, 3, 4, 5, 6, 7, 8, 9, 10, 11, 12] (by decide) rfl
    clear hz1
    have b_ : 0 ≤ (v0 20).toInt ∧ (v0 20).toInt ≤ 12 := hv0 20
    have b_ : -2147483648 ≤ (x2_ 0).toInt ∧ (x2_ 0).toInt ≤ 2147483647 := ⟨zlo _, zhi _⟩
    have b_ : -2147483648 ≤ (x2_ 1).toInt ∧ (x2_ 1).toInt ≤ 2147483647 := ⟨zlo _, zhi _⟩
    have hpost : (0 ≤ (v0 20).toInt ∧ (v0 20).toInt ≤ 12) ∧ (0 ≤ (v0 35).toInt ∧ (v0 35).toInt ≤ 600) ∧ (0 ≤ (v0 36).toInt ∧ (v0 36).toInt ≤ 3) ∧ (0 ≤ (v0 37).toInt ∧ (v0 37).toInt ≤ 600) ∧ (0 ≤ (v0 42).toInt ∧ (v0 42).toInt ≤ 1300) ∧ (40 ≤ (x2_ 2).toInt ∧ (x2_ 2).toInt ≤ 40) ∧ (0 ≤ (v0 50).toInt ∧ (v0 50).toInt ≤ 200) ∧ (0 ≤ (v0 53).toInt ∧ (v0 53).toInt ≤ 1300) ∧ (∀ sd_ : Int, zxX (zTkn f1 (v0 34).toInt sd_) f1 (v0 34).toInt (v0 37).toInt (v0 36).toInt (v0 35).toInt (v0 47).toInt (v0 51).toInt (v0 53).toInt (zma f33 f23 f24 f25 f26 f27 f28 f29 f30 f31 f32, (v0 47).toInt, (v0 50).toInt, zWmq f1 (v0 34).toInt)) := ⟨(by first | with_reducible assumption | exact ⟨by omega, by omega⟩), (by first | with_reducible assumption | exact ⟨by omega, by omega⟩), (by first | with_reducible assumption | exact ⟨by omega, by omega⟩), (by first | with_reducible assumption | exact ⟨by omega, by omega⟩), (by first | with_reducible assumption | exact ⟨by omega, by omega⟩), (by first | with_reducible assumption | exact ⟨by omega, by omega⟩), (by first | with_reducible assumption | exact ⟨by omega, by omega⟩), (by first | with_reducible assumption | exact ⟨by omega, by omega⟩), by exact fun _ => zxT_x hE2_0⟩
    have hP9 : va_P (dC, dI) vwCl [(h0, .inr (13, mX13 q0 (upd (upd (upd (upd (upd (upd (upd (upd (upd (upd v0 20 (v0 20)) 32 (x2_ 0)) 33 (x2_ 1)) 35 (v0 35)) 36 (v0 36)) 37 (v0 37)) 42 (v0 42)) 47 (x2_ 2)) 50 (v0 50)) 53 (v0 53)))), ((q0 43), zi k27 40 (a2_ 0)), ((q0 31), .inr (12, sf22)), ((q0 0), zi k1 600 f1), ((q0 44), zi k28 40 f28), ((q0 45), zi k29 40 f29), ((q0 19), zi k15 12 f15), ((q0 49), zi k32 200 f32), ((q0 48), zi k31 2400 f31), ((q0 38), zi k23 1300 f23), ((q0 39), zi k24 1300 f24), ((q0 40), zi k25 1300 f25), ((q0 41), zi k26 1300 f26), ((q0 56), zi k34 1300 f34), ((q0 52), zi k33 1300 f33), ((q0 46), zi k30 40 f30)] H1 := hP
    have hD9 : va_D A [(h0, .inr (13, mX13 q0 (upd (upd (upd (upd (upd (upd (upd (upd (upd (upd v0 20 (v0 20)) 32 (x2_ 0)) 33 (x2_ 1)) 35 (v0 35)) 36 (v0 36)) 37 (v0 37)) 42 (v0 42)) 47 (x2_ 2)) 50 (v0 50)) 53 (v0 53)))), ((q0 43), zi k27 40 (a2_ 0)), ((q0 31), .inr (12, sf22)), ((q0 0), zi k1 600 f1), ((q0 44), zi k28 40 f28), ((q0 45), zi k29 40 f29), ((q0 19), zi k15 12 f15), ((q0 49), zi k32 200 f32), ((q0 48), zi k31 2400 f31), ((q0 38), zi k23 1300 f23), ((q0 39), zi k24 1300 f24), ((q0 40), zi k25 1300 f25), ((q0 41), zi k26 1300 f26), ((q0 56), zi k34 1300 f34), ((q0 52), zi k33 1300 f33), ((q0 46), zi k30 40 f30)] := hD
    exact vx_out (fun x h => (hout x h).elim) hlocks hce hcv hcl (fun t ht hvm => ⟨(fun i => ([(v0 20), (x2_ 0), (x2_ 1), (v0 35), (v0 36), (v0 37), (v0 42), (x2_ 2), (v0 50), (v0 53), 0] : List (Int32)).getD i 0), hpost, ⟨rfl, (fun _ => 0), (fun i => ([(a2_ 0), f28, f29, f15, f32, f31, f23, f24, f25, f26, f34, f33] : List (Nat → Int32)).getD i (fun _ => 0)), (fun _ => (fun _ => 0)), hf32, hf24, hf25, by rw [ht]; exact hP9, va_K.moved hvm hK, hD9⟩, hS.F ht⟩) hS.2.2 (by decide) (by decide)
  · skip
    replace hw : (0 ≤ r2_.toInt ∧ r2_.toInt ≤ 39) ∧ (1 ≤ (u2_ 2).toInt ∧ (u2_ 2).toInt ≤ 40) ∧ (r2_.toInt = (v0 47).toInt) ∧ ((u2_ 2).toInt = (v0 47).toInt + 1) ∧ ((v0 47).toInt < 40) := hw
    obtain ⟨b_, b_, hX2_0, hX2_1, hX2_2⟩ := hw
    obtain ⟨w2_, a2_, b2_, hB2_0, hP1, hK1, hD1⟩ := hB
    have hB2_0 : (a2_ 0) = upd f27 (((v0 47) : Int32)).toNatClampNeg (1 : Int32) := hB2_0
    rw [ht] at hP1
    obtain ⟨hP, hD⟩ := va_join (wr := [((q0 0), zi k1 600 f1), ((q0 44), zi k28 40 f28), ((q0 45), zi k29 40 f29), ((q0 19), zi k15 12 f15), ((q0 49), zi k32 200 f32), ((q0 48), zi k31 2400 f31), ((q0 38), zi k23 1300 f23), ((q0 39), zi k24 1300 f24), ((q0 40), zi k25 1300 f25), ((q0 41), zi k26 1300 f26), ((q0 56), zi k34 1300 f34), ((q0 52), zi k33 1300 f33), ((q0 46), zi k30 40 f30)]) (w1 := [(h0, .inr (13, mX13 q0 (upd (upd (upd v0 32 (u2_ 0)) 33 (u2_ 1)) 47 (u2_ 2)))), ((q0 43), zi k27 40 (a2_ 0)), ((q0 31), .inr (12, sf22))]) hP hD [0, 1, 2] [3, 4, 5, 6, 7, 8, 9, 10, 11, 12, 13, 14, 15] rfl rfl (by decide) (by decide) hk1 hFc hP1 hD1
    have hP : va_P (dC, dI) vwCl [(h0, .inr (13, mX13 q0 (upd (upd (upd v0 32 (u2_ 0)) 33 (u2_ 1)) 47 (u2_ 2)))), ((q0 43), zi k27 40 (a2_ 0)), ((q0 31), .inr (12, sf22)), ((q0 0), zi k1 600 f1), ((q0 44), zi k28 40 f28), ((q0 45), zi k29 40 f29), ((q0 19), zi k15 12 f15), ((q0 49), zi k32 200 f32), ((q0 48), zi k31 2400 f31), ((q0 38), zi k23 1300 f23), ((q0 39), zi k24 1300 f24), ((q0 40), zi k25 1300 f25), ((q0 41), zi k26 1300 f26), ((q0 56), zi k34 1300 f34), ((q0 52), zi k33 1300 f33), ((q0 46), zi k30 40 f30)] H1 := hP.sub [13, 14, 15, 0, 1, 2, 3, 4, 5, 6, 7, 8, 9, 10, 11, 12] rfl
    have hD : va_D A [(h0, .inr (13, mX13 q0 (upd (upd (upd v0 32 (u2_ 0)) 33 (u2_ 1)) 47 (u2_ 2)))), ((q0 43), zi k27 40 (a2_ 0)), ((q0 31), .inr (12, sf22)), ((q0 0), zi k1 600 f1), ((q0 44), zi k28 40 f28), ((q0 45), zi k29 40 f29), ((q0 19), zi k15 12 f15), ((q0 49), zi k32 200 f32), ((q0 48), zi k31 2400 f31), ((q0 38), zi k23 1300 f23), ((q0 39), zi k24 1300 f24), ((q0 40), zi k25 1300 f25), ((q0 41), zi k26 1300 f26), ((q0 56), zi k34 1300 f34), ((q0 52), zi k33 1300 f33), ((q0 46), zi k30 40 f30)] := hD.sub [13, 14, 15, 0, 1, 2, 3, 4, 5, 6, 7, 8, 9, 10, 11, 12] (by decide) rfl
    generalize H1 = H at hP hS ⊢
    clear hz1
    refine lv_istore_n (lv' := [(1, .int r2_), (0, .ref h0)]) hx hb dX13_token_5 rfl hl (by decide) rfl (fun ls hl => ?_)
    refine lv_aload_n hx hb dX13_token_6 rfl (lv_at hl 1 rfl) ?_
    refine va_get (D := (dC, dI)) (ci := 13) (v := .int (v0 37)) (C := RX13) (T := TX13) (N := 75) hx hb hG zuX13 hown hK hP 0 rfl rfl 37 (by decide) (hG _ zv1641) (fun _ h9 => h9) rfl dX13_token_7 ?_
    refine lv_istore_n (lv' := [(2, .int (v0 37)), (1, .int r2_), (0, .ref h0)]) hx hb dX13_token_10 rfl hl (by decide) rfl (fun ls hl => ?_)
    refine lv_aload_n hx hb dX13_token_11 rfl (lv_at hl 2 rfl) ?_
    refine va_get (D := (dC, dI)) (ci := 13) (v := .int (v0 35)) (C := RX13) (T := TX13) (N := 75) hx hb hG zuX13 hown hK hP 0 rfl rfl 35 (by decide) (hG _ zv1639) (fun _ h9 => h9) rfl dX13_token_12 ?_
    refine lv_istore_n (lv' := [(3, .int (v0 35)), (2, .int (v0 37)), (1, .int r2_), (0, .ref h0)]) hx hb dX13_token_15 rfl hl (by decide) rfl (fun ls hl => ?_)
    refine lv_aload_n hx hb dX13_token_16 rfl (lv_at hl 3 rfl) ?_
    have b_ : -2147483648 ≤ (u2_ 0).toInt ∧ (u2_ 0).toInt ≤ 2147483647 := ⟨zlo _, zhi _⟩
    have b_ : -2147483648 ≤ (u2_ 1).toInt ∧ (u2_ 1).toInt ≤ 2147483647 := ⟨zlo _, zhi _⟩
    have hPc := hP.sub (ws' := [(h0, .inr (13, mX13 q0 (upd (upd (upd v0 32 (u2_ 0)) 33 (u2_ 1)) 47 (u2_ 2)))), ((q0 0), zi k1 600 f1)]) [0, 3] rfl
    have hDc := hD.sub (ws' := [(h0, .inr (13, mX13 q0 (upd (upd (upd v0 32 (u2_ 0)) 33 (u2_ 1)) 47 (u2_ 2)))), ((q0 0), zi k1 600 f1)]) [0, 3] (by decide) rfl
    have hKc := hK.sub (tys' := [(k1, .byte)]) [1] rfl
    have hFc := va_free (wc := [(h0, .inr (13, mX13 q0 (upd (upd (upd v0 32 (u2_ 0)) 33 (u2_ 1)) 47 (u2_ 2)))), ((q0 0), zi k1 600 f1)]) hD hS hA [0, 3] rfl
    refine va_callv (va_runV (As := []) (rest := []) ⟨hx, hb, hml, hown, hG⟩ (sX13_look1_0 l dC dI adK adV h0 q0 k1 H.size (upd (upd (upd v0 32 (u2_ 0)) 33 (u2_ 1)) 47 (u2_ 2)) f1 (zR_up2 (zR_updF (zR_updF hv0 32 rfl) 33 rfl) 47 (show (0 : Int) ≤ ((u2_ 2) : Int32).toInt ∧ ((u2_ 2) : Int32).toInt ≤ (40 : Int) from (by first | with_reducible assumption | exact ⟨by omega, by omega⟩))) (show (v0 35).toInt ≤ (v0 34).toInt from by omega)) (cwV 0 hG (zgV zv2042 zv2044 zv81 zv142 zv2045) rfl rfl rfl (by decide +kernel) ⟨Nat.le_of_ble_eq_true rfl, Nat.le_of_ble_eq_true rfl⟩) ⟨zPc_blind, va_recv hKc hPc (ci := 13) (q0 := 0) rfl rfl, zPc_pre hPc hKc hDc hE hS hFc hZ⟩ rfl rfl hl.1 rfl (lv_room (Nat.le_of_ble_eq_true rfl)) dX13_token_17 ⟨Nat.le_of_ble_eq_true rfl, Nat.le_of_ble_eq_true rfl⟩) hS (fun q _ h => hFc q h) hFc (fun u17_ t H1 locs ht hvm hw hB hz1 hk1 hS => ?_)
    replace hw : (0 ≤ (u17_ 0).toInt ∧ (u17_ 0).toInt ≤ 600) ∧ (0 ≤ (u17_ 1).toInt ∧ (u17_ 1).toInt ≤ 3) ∧ (0 ≤ (u17_ 2).toInt ∧ (u17_ 2).toInt ≤ 600) ∧ ((u17_ 0).toInt ≤ (v0 34).toInt) ∧ ((v0 35).toInt ≤ (u17_ 2).toInt) ∧ ((u17_ 2).toInt ≤ (u17_ 0).toInt) ∧ ((u17_ 1).toInt ≠ 0 → (u17_ 2).toInt < (u17_ 0).toInt) ∧ ((u17_ 1).toInt = 0 → (u17_ 2).toInt = (v0 34).toInt) ∧ (zBl f1 (v0 34).toInt (v0 35).toInt (u17_ 2).toInt) ∧ (zMl f1 (v0 34).toInt (u17_ 2).toInt (u17_ 1).toInt (u17_ 0).toInt) := hw
    obtain ⟨b_, b_, b_, hX17_0, hX17_1, hX17_2, hX17_3, hX17_4, hX17_5, hX17_6⟩ := hw
    obtain ⟨w17_, a17_, b17_, hP1, hK1, hD1⟩ := hB
    rw [ht] at hP1
    obtain ⟨hP, hD⟩ := va_join (wr := [((q0 43), zi k27 40 (a2_ 0)), ((q0 31), .inr (12, sf22)), ((q0 44), zi k28 40 f28), ((q0 45), zi k29 40 f29), ((q0 19), zi k15 12 f15), ((q0 49), zi k32 200 f32), ((q0 48), zi k31 2400 f31), ((q0 38), zi k23 1300 f23), ((q0 39), zi k24 1300 f24), ((q0 40), zi k25 1300 f25), ((q0 41), zi k26 1300 f26), ((q0 56), zi k34 1300 f34), ((q0 52), zi k33 1300 f33), ((q0 46), zi k30 40 f30)]) (w1 := [(h0, .inr (13, mX13 q0 (upd (upd (upd (upd (upd (upd v0 32 (u2_ 0)) 33 (u2_ 1)) 35 (u17_ 0)) 36 (u17_ 1)) 37 (u17_ 2)) 47 (u2_ 2)))), ((q0 0), zi k1 600 f1)]) hP hD [0, 3] [1, 2, 4, 5, 6, 7, 8, 9, 10, 11, 12, 13, 14, 15] rfl rfl (by decide) (by decide) hk1 hFc hP1 hD1
    have hP : va_P (dC, dI) vwCl [(h0, .inr (13, mX13 q0 (upd (upd (upd (upd (upd (upd v0 32 (u2_ 0)) 33 (u2_ 1)) 35 (u17_ 0)) 36 (u17_ 1)) 37 (u17_ 2)) 47 (u2_ 2)))), ((q0 43), zi k27 40 (a2_ 0)), ((q0 31), .inr (12, sf22)), ((q0 0), zi k1 600 f1), ((q0 44), zi k28 40 f28), ((q0 45), zi k29 40 f29), ((q0 19), zi k15 12 f15), ((q0 49), zi k32 200 f32), ((q0 48), zi k31 2400 f31), ((q0 38), zi k23 1300 f23), ((q0 39), zi k24 1300 f24), ((q0 40), zi k25 1300 f25), ((q0 41), zi k26 1300 f26), ((q0 56), zi k34 1300 f34), ((q0 52), zi k33 1300 f33), ((q0 46), zi k30 40 f30)] H1 := hP.sub [14, 0, 1, 15, 2, 3, 4, 5, 6, 7, 8, 9, 10, 11, 12, 13] rfl
    have hD : va_D A [(h0, .inr (13, mX13 q0 (upd (upd (upd (upd (upd (upd v0 32 (u2_ 0)) 33 (u2_ 1)) 35 (u17_ 0)) 36 (u17_ 1)) 37 (u17_ 2)) 47 (u2_ 2)))), ((q0 43), zi k27 40 (a2_ 0)), ((q0 31), .inr (12, sf22)), ((q0 0), zi k1 600 f1), ((q0 44), zi k28 40 f28), ((q0 45), zi k29 40 f29), ((q0 19), zi k15 12 f15), ((q0 49), zi k32 200 f32), ((q0 48), zi k31 2400 f31), ((q0 38), zi k23 1300 f23), ((q0 39), zi k24 1300 f24), ((q0 40), zi k25 1300 f25), ((q0 41), zi k26 1300 f26), ((q0 56), zi k34 1300 f34), ((q0 52), zi k33 1300 f33), ((q0 46), zi k30 40 f30)] := hD.sub [14, 0, 1, 15, 2, 3, 4, 5, 6, 7, 8, 9, 10, 11, 12, 13] (by decide) rfl
    generalize H1 = H at hP hS ⊢
    clear hz1
    refine lv_aload_n hx hb dX13_token_20 rfl (lv_at hl 3 rfl) ?_
    refine va_get (D := (dC, dI)) (ci := 13) (v := .ref (q0 44)) (C := RX13) (T := TX13) (N := 75) hx hb hG zuX13 hown hK hP 0 rfl rfl 44 (by decide) (hG _ zv1648) (fun _ h9 => h9) rfl dX13_token_21 ?_
    refine lv_iload_n hx hb dX13_token_24 rfl (lv_at hl 2 rfl) ?_
    refine lv_aload_n hx hb dX13_token_25 rfl (lv_at hl 3 rfl) ?_
    refine va_get (D := (dC, dI)) (ci := 13) (v := .int (v0 50)) (C := RX13) (T := TX13) (N := 75) hx hb hG zuX13 hown hK hP 0 rfl rfl 50 (by decide) (hG _ zv1654) (fun _ h9 => h9) rfl dX13_token_26 ?_
    refine va_iast hx hb hK hP hD hS 4 2 rfl rfl (zin_lit ⟨by omega, by omega⟩) dX13_token_29 (fun H locs hP hD hS => ?_)
    obtain ⟨f_29, e_f_29⟩ : ∃ z : Nat → Int32, z = upd f28 (r2_ : Int32).toNatClampNeg (v0 50) := ⟨_, rfl⟩
    have hP : va_P (dC, dI) vwCl [(h0, .inr (13, mX13 q0 (upd (upd (upd (upd (upd (upd v0 32 (u2_ 0)) 33 (u2_ 1)) 35 (u17_ 0)) 36 (u17_ 1)) 37 (u17_ 2)) 47 (u2_ 2)))), ((q0 43), zi k27 40 (a2_ 0)), ((q0 31), .inr (12, sf22)), ((q0 0), zi k1 600 f1), ((q0 44), zi k28 40 f_29), ((q0 45), zi k29 40 f29), ((q0 19), zi k15 12 f15), ((q0 49), zi k32 200 f32), ((q0 48), zi k31 2400 f31), ((q0 38), zi k23 1300 f23), ((q0 39), zi k24 1300 f24), ((q0 40), zi k25 1300 f25), ((q0 41), zi k26 1300 f26), ((q0 56), zi k34 1300 f34), ((q0 52), zi k33 1300 f33), ((q0 46), zi k30 40 f30)] H := by rw [e_f_29]; exact hP
    have hD : va_D A [(h0, .inr (13, mX13 q0 (upd (upd (upd (upd (upd (upd v0 32 (u2_ 0)) 33 (u2_ 1)) 35 (u17_ 0)) 36 (u17_ 1)) 37 (u17_ 2)) 47 (u2_ 2)))), ((q0 43), zi k27 40 (a2_ 0)), ((q0 31), .inr (12, sf22)), ((q0 0), zi k1 600 f1), ((q0 44), zi k28 40 f_29), ((q0 45), zi k29 40 f29), ((q0 19), zi k15 12 f15), ((q0 49), zi k32 200 f32), ((q0 48), zi k31 2400 f31), ((q0 38), zi k23 1300 f23), ((q0 39), zi k24 1300 f24), ((q0 40), zi k25 1300 f25), ((q0 41), zi k26 1300 f26), ((q0 56), zi k34 1300 f34), ((q0 52), zi k33 1300 f33), ((q0 46), zi k30 40 f30)] := by rw [e_f_29]; exact hD
    refine lv_aload_n hx hb dX13_token_30 rfl (lv_at hl 3 rfl) ?_
    refine va_get (D := (dC, dI)) (ci := 13) (v := .ref (q0 45)) (C := RX13) (T := TX13) (N := 75) hx hb hG zuX13 hown hK hP 0 rfl rfl 45 (by decide) (hG _ zv1649) (fun _ h9 => h9) rfl dX13_token_31 ?_
    refine lv_iload_n hx hb dX13_token_34 rfl (lv_at hl 2 rfl) ?_
    refine lv_iconst (v := 1) hx hb dX13_token_35 (by decide) ?_
    refine va_iast hx hb hK hP hD hS 5 3 rfl rfl (zin_lit ⟨by omega, by omega⟩) dX13_token_36 (fun H locs hP hD hS => ?_)
    obtain ⟨f_36, e_f_36⟩ : ∃ z : Nat → Int32, z = upd f29 (r2_ : Int32).toNatClampNeg 1 := ⟨_, rfl⟩
    have hP : va_P (dC, dI) vwCl [(h0, .inr (13, mX13 q0 (upd (upd (upd (upd (upd (upd v0 32 (u2_ 0)) 33 (u2_ 1)) 35 (u17_ 0)) 36 (u17_ 1)) 37 (u17_ 2)) 47 (u2_ 2)))), ((q0 43), zi k27 40 (a2_ 0)), ((q0 31), .inr (12, sf22)), ((q0 0), zi k1 600 f1), ((q0 44), zi k28 40 f_29), ((q0 45), zi k29 40 f_36), ((q0 19), zi k15 12 f15), ((q0 49), zi k32 200 f32), ((q0 48), zi k31 2400 f31), ((q0 38), zi k23 1300 f23), ((q0 39), zi k24 1300 f24), ((q0 40), zi k25 1300 f25), ((q0 41), zi k26 1300 f26), ((q0 56), zi k34 1300 f34), ((q0 52), zi k33 1300 f33), ((q0 46), zi k30 40 f30)] H := by rw [e_f_36]; exact hP
    have hD : va_D A [(h0, .inr (13, mX13 q0 (upd (upd (upd (upd (upd (upd v0 32 (u2_ 0)) 33 (u2_ 1)) 35 (u17_ 0)) 36 (u17_ 1)) 37 (u17_ 2)) 47 (u2_ 2)))), ((q0 43), zi k27 40 (a2_ 0)), ((q0 31), .inr (12, sf22)), ((q0 0), zi k1 600 f1), ((q0 44), zi k28 40 f_29), ((q0 45), zi k29 40 f_36), ((q0 19), zi k15 12 f15), ((q0 49), zi k32 200 f32), ((q0 48), zi k31 2400 f31), ((q0 38), zi k23 1300 f23), ((q0 39), zi k24 1300 f24), ((q0 40), zi k25 1300 f25), ((q0 41), zi k26 1300 f26), ((q0 56), zi k34 1300 f34), ((q0 52), zi k33 1300 f33), ((q0 46), zi k30 40 f30)] := by rw [e_f_36]; exact hD
    refine lv_aload_n hx hb dX13_token_37 rfl (lv_at hl 3 rfl) ?_
    refine lv_bipush (v := 42) hx hb dX13_token_38 (by decide) ?_
    have hPc := hP.sub (ws' := [(h0, .inr (13, mX13 q0 (upd (upd (upd (upd (upd (upd v0 32 (u2_ 0)) 33 (u2_ 1)) 35 (u17_ 0)) 36 (u17_ 1)) 37 (u17_ 2)) 47 (u2_ 2)))), ((q0 0), zi k1 600 f1)]) [0, 3] rfl
    have hDc := hD.sub (ws' := [(h0, .inr (13, mX13 q0 (upd (upd (upd (upd (upd (upd v0 32 (u2_ 0)) 33 (u2_ 1)) 35 (u17_ 0)) 36 (u17_ 1)) 37 (u17_ 2)) 47 (u2_ 2)))), ((q0 0), zi k1 600 f1)]) [0, 3] (by decide) rfl
    have hKc := hK.sub (tys' := [(k1, .byte)]) [1] rfl
    have hFc := va_free (wc := [(h0, .inr (13, mX13 q0 (upd (upd (upd (upd (upd (upd v0 32 (u2_ 0)) 33 (u2_ 1)) 35 (u17_ 0)) 36 (u17_ 1)) 37 (u17_ 2)) 47 (u2_ 2)))), ((q0 0), zi k1 600 f1)]) hD hS hA [0, 3] rfl
    refine va_calli (va_runV (As := [.int 42]) (rest := []) ⟨hx, hb, hml, hown, hG⟩ (sX13_isSign_0 l dC dI adK adV h0 q0 k1 H.size (upd (upd (upd (upd (upd (upd v0 32 (u2_ 0)) 33 (u2_ 1)) 35 (u17_ 0)) 36 (u17_ 1)) 37 (u17_ 2)) 47 (u2_ 2)) f1 42 (zR_up2 (zR_up2 (zR_up2 (zR_up2 (zR_updF (zR_updF hv0 32 rfl) 33 rfl) 35 (show (0 : Int) ≤ ((u17_ 0) : Int32).toInt ∧ ((u17_ 0) : Int32).toInt ≤ (600 : Int) from (by first | with_reducible assumption | exact ⟨by omega, by omega⟩))) 36 (show (0 : Int) ≤ ((u17_ 1) : Int32).toInt ∧ ((u17_ 1) : Int32).toInt ≤ (3 : Int) from (by first | with_reducible assumption | exact ⟨by omega, by omega⟩))) 37 (show (0 : Int) ≤ ((u17_ 2) : Int32).toInt ∧ ((u17_ 2) : Int32).toInt ≤ (600 : Int) from (by first | with_reducible assumption | exact ⟨by omega, by omega⟩))) 47 (show (0 : Int) ≤ ((u2_ 2) : Int32).toInt ∧ ((u2_ 2) : Int32).toInt ≤ (40 : Int) from (by first | with_reducible assumption | exact ⟨by omega, by omega⟩))) (show (u17_ 1).toInt ≠ 0 → (u17_ 2).toInt < (v0 34).toInt from by omega)) (cwV 1 hG (zgV zv2094 zv2096 zv94 zv142 zv2097) rfl rfl rfl (by decide +kernel) ⟨Nat.le_of_ble_eq_true rfl, Nat.le_of_ble_eq_true rfl⟩) ⟨zPc_blind, va_recv hKc hPc (ci := 13) (q0 := 0) rfl rfl, zPc_pre hPc hKc hDc hE hS hFc hZ⟩ rfl rfl hl.1 rfl (lv_room (Nat.le_of_ble_eq_true rfl)) dX13_token_40 ⟨Nat.le_of_ble_eq_true rfl, Nat.le_of_ble_eq_true rfl⟩) hS (fun q _ h => hFc q h) hFc (fun r40_ u40_ t H1 locs ht hvm hw hB hz1 hk1 hS => ?_)
    replace hw : (0 ≤ r40_.toInt ∧ r40_.toInt ≤ 1) ∧ (r40_.toInt = 1 → (u17_ 1).toInt = 2) ∧ (r40_.toInt = 1 → zSg f1 (u17_ 2).toInt (u17_ 1).toInt (42 : Int32).toInt) ∧ (r40_.toInt = 0 → ¬ zSg f1 (u17_ 2).toInt (u17_ 1).toInt (42 : Int32).toInt) := hw
    obtain ⟨b_, hX40_0, hX40_1, hX40_2⟩ := hw
    obtain ⟨w40_, a40_, b40_, hP1, hK1, hD1⟩ := hB
    rw [ht] at hP1
    obtain ⟨hP, hD⟩ := va_join (wr := [((q0 43), zi k27 40 (a2_ 0)), ((q0 31), .inr (12, sf22)), ((q0 44), zi k28 40 f_29), ((q0 45), zi k29 40 f_36), ((q0 19), zi k15 12 f15), ((q0 49), zi k32 200 f32), ((q0 48), zi k31 2400 f31), ((q0 38), zi k23 1300 f23), ((q0 39), zi k24 1300 f24), ((q0 40), zi k25 1300 f25), ((q0 41), zi k26 1300 f26), ((q0 56), zi k34 1300 f34), ((q0 52), zi k33 1300 f33), ((q0 46), zi k30 40 f30)]) (w1 := [(h0, .inr (13, mX13 q0 (upd (upd (upd (upd (upd (upd v0 32 (u2_ 0)) 33 (u2_ 1)) 35 (u17_ 0)) 36 (u17_ 1)) 37 (u17_ 2)) 47 (u2_ 2)))), ((q0 0), zi k1 600 f1)]) hP hD [0, 3] [1, 2, 4, 5, 6, 7, 8, 9, 10, 11, 12, 13, 14, 15] rfl rfl (by decide) (by decide) hk1 hFc hP1 hD1
    have hP : va_P (dC, dI) vwCl [(h0, .inr (13, mX13 q0 (upd (upd (upd (upd (upd (upd v0 32 (u2_ 0)) 33 (u2_ 1)) 35 (u17_ 0)) 36 (u17_ 1)) 37 (u17_ 2)) 47 (u2_ 2)))), ((q0 43), zi k27 40 (a2_ 0)), ((q0 31), .inr (12, sf22)), ((q0 0), zi k1 600 f1), ((q0 44), zi k28 40 f_29), ((q0 45), zi k29 40 f_36), ((q0 19), zi k15 12 f15), ((q0 49), zi k32 200 f32), ((q0 48), zi k31 2400 f31), ((q0 38), zi k23 1300 f23), ((q0 39), zi k24 1300 f24), ((q0 40), zi k25 1300 f25), ((q0 41), zi k26 1300 f26), ((q0 56), zi k34 1300 f34), ((q0 52), zi k33 1300 f33), ((q0 46), zi k30 40 f30)] H1 := hP.sub [14, 0, 1, 15, 2, 3, 4, 5, 6, 7, 8, 9, 10, 11, 12, 13] rfl
    have hD : va_D A [(h0, .inr (13, mX13 q0 (upd (upd (upd (upd (upd (upd v0 32 (u2_ 0)) 33 (u2_ 1)) 35 (u17_ 0)) 36 (u17_ 1)) 37 (u17_ 2)) 47 (u2_ 2)))), ((q0 43), zi k27 40 (a2_ 0)), ((q0 31), .inr (12, sf22)), ((q0 0), zi k1 600 f1), ((q0 44), zi k28 40 f_29), ((q0 45), zi k29 40 f_36), ((q0 19), zi k15 12 f15), ((q0 49), zi k32 200 f32), ((q0 48), zi k31 2400 f31), ((q0 38), zi k23 1300 f23), ((q0 39), zi k24 1300 f24), ((q0 40), zi k25 1300 f25), ((q0 41), zi k26 1300 f26), ((q0 56), zi k34 1300 f34), ((q0 52), zi k33 1300 f33), ((q0 46), zi k30 40 f30)] := hD.sub [14, 0, 1, 15, 2, 3, 4, 5, 6, 7, 8, 9, 10, 11, 12, 13] (by decide) rfl
    generalize H1 = H at hP hS ⊢
    clear hz1
    refine lv_if_eq (tgt := 66) hx hb dX13_token_43 (by decide) (fun c_ => ?_) (fun c_ => ?_)
    · skip
      have b_ := zT_eq rfl zk_0 c_
      refine lv_aload_n hx hb dX13_token_66 rfl (lv_at hl 3 rfl) ?_
      refine lv_iload_n hx hb dX13_token_67 rfl (lv_at hl 1 rfl) ?_
      refine lv_iload_n hx hb dX13_token_68 rfl (lv_at hl 0 rfl) ?_
      have hPc := hP.sub (ws' := [(h0, .inr (13, mX13 q0 (upd (upd (upd (upd (upd (upd v0 32 (u2_ 0)) 33 (u2_ 1)) 35 (u17_ 0)) 36 (u17_ 1)) 37 (u17_ 2)) 47 (u2_ 2)))), ((q0 0), zi k1 600 f1), ((q0 19), zi k15 12 f15)]) [0, 3, 6] rfl
      have hDc := hD.sub (ws' := [(h0, .inr (13, mX13 q0 (upd (upd (upd (upd (upd (upd v0 32 (u2_ 0)) 33 (u2_ 1)) 35 (u17_ 0)) 36 (u17_ 1)) 37 (u17_ 2)) 47 (u2_ 2)))), ((q0 0), zi k1 600 f1), ((q0 19), zi k15 12 f15)]) [0, 3, 6] (by decide) rfl
      have hKc := hK.sub (tys' := [(k1, .byte), (k15, .byte)]) [1, 4] rfl
      have hFc := va_free (wc := [(h0, .inr (13, mX13 q0 (upd (upd (upd (upd (upd (upd v0 32 (u2_ 0)) 33 (u2_ 1)) 35 (u17_ 0)) 36 (u17_ 1)) 37 (u17_ 2)) 47 (u2_ 2)))), ((q0 0), zi k1 600 f1), ((q0 19), zi k15 12 f15)]) hD hS hA [0, 3, 6] rfl
      refine va_callv (va_runV (As := [.int (v0 37), .int (v0 35)]) (rest := []) ⟨hx, hb, hml, hown, hG⟩ (sX13_takeWord_0 l dC dI adK adV h0 q0 k1 k15 H.size (upd (upd (upd (upd (upd (upd v0 32 (u2_ 0)) 33 (u2_ 1)) 35 (u17_ 0)) 36 (u17_ 1)) 37 (u17_ 2)) 47 (u2_ 2)) f1 f15 (v0 37) (v0 35) (zR_up2 (zR_up2 (zR_up2 (zR_up2 (zR_updF (zR_updF hv0 32 rfl) 33 rfl) 35 (show (0 : Int) ≤ ((u17_ 0) : Int32).toInt ∧ ((u17_ 0) : Int32).toInt ≤ (600 : Int) from (by first | with_reducible assumption | exact ⟨by omega, by omega⟩))) 36 (show (0 : Int) ≤ ((u17_ 1) : Int32).toInt ∧ ((u17_ 1) : Int32).toInt ≤ (3 : Int) from (by first | with_reducible assumption | exact ⟨by omega, by omega⟩))) 37 (show (0 : Int) ≤ ((u17_ 2) : Int32).toInt ∧ ((u17_ 2) : Int32).toInt ≤ (600 : Int) from (by first | with_reducible assumption | exact ⟨by omega, by omega⟩))) 47 (show (0 : Int) ≤ ((u2_ 2) : Int32).toInt ∧ ((u2_ 2) : Int32).toInt ≤ (40 : Int) from (by first | with_reducible assumption | exact ⟨by omega, by omega⟩))) (show (0 : Int) ≤ ((v0 37) : Int32).toInt ∧ ((v0 37) : Int32).toInt ≤ (600 : Int) from (by first | with_reducible assumption | exact ⟨by omega, by omega⟩)) (show (0 : Int) ≤ ((v0 35) : Int32).toInt ∧ ((v0 35) : Int32).toInt ≤ (600 : Int) from (by first | with_reducible assumption | exact ⟨by omega, by omega⟩))) (cwV 2 hG (zgV zv1866 zv1868 zv52 zv142 zv1869) rfl rfl rfl (by decide +kernel) ⟨Nat.le_of_ble_eq_true rfl, Nat.le_of_ble_eq_true rfl⟩) ⟨zPc_blind, va_recv hKc hPc (ci := 13) (q0 := 0) rfl rfl, zPc_pre hPc hKc hDc hE hS hFc hZ⟩ rfl rfl hl.1 rfl (lv_room (Nat.le_of_ble_eq_true rfl)) dX13_token_69 ⟨Nat.le_of_ble_eq_true rfl, Nat.le_of_ble_eq_true rfl⟩) hS (fun q _ h => hFc q h) hFc (fun u69_ t H1 locs ht hvm hw hB hz1 hk1 hS => ?_)
      replace hw : (0 ≤ (u69_ 0).toInt ∧ (u69_ 0).toInt ≤ 12) := hw
      have b_ := hw
      obtain ⟨w69_, a69_, b69_, hB69_0, hP1, hK1, hD1⟩ := hB
      have hB69_0 : zMw f1 (v0 37).toInt (v0 35).toInt (a69_ 0) (u69_ 0).toInt := hB69_0
      rw [ht] at hP1
      obtain ⟨hP, hD⟩ := va_join (wr := [((q0 43), zi k27 40 (a2_ 0)), ((q0 31), .inr (12, sf22)), ((q0 44), zi k28 40 f_29), ((q0 45), zi k29 40 f_36), ((q0 49), zi k32 200 f32), ((q0 48), zi k31 2400 f31), ((q0 38), zi k23 1300 f23), ((q0 39), zi k24 1300 f24), ((q0 40), zi k25 1300 f25), ((q0 41), zi k26 1300 f26), ((q0 56), zi k34 1300 f34), ((q0 52), zi k33 1300 f33), ((q0 46), zi k30 40 f30)]) (w1 := [(h0, .inr (13, mX13 q0 (upd (upd (upd (upd (upd (upd (upd v0 20 (u69_ 0)) 32 (u2_ 0)) 33 (u2_ 1)) 35 (u17_ 0)) 36 (u17_ 1)) 37 (u17_ 2)) 47 (u2_ 2)))), ((q0 0), zi k1 600 f1), ((q0 19), zi k15 12 (a69_ 0))]) hP hD [0, 3, 6] [1, 2, 4, 5, 7, 8, 9, 10, 11, 12, 13, 14, 15] rfl rfl (by decide) (by decide) hk1 hFc hP1 hD1
      have hP : va_P (dC, dI) vwCl [(h0, .inr (13, mX13 q0 (upd (upd (upd (upd (upd (upd (upd v0 20 (u69_ 0)) 32 (u2_ 0)) 33 (u2_ 1)) 35 (u17_ 0)) 36 (u17_ 1)) 37 (u17_ 2)) 47 (u2_ 2)))), ((q0 43), zi k27 40 (a2_ 0)), ((q0 31), .inr (12, sf22)), ((q0 0), zi k1 600 f1), ((q0 44), zi k28 40 f_29), ((q0 45), zi k29 40 f_36), ((q0 19), zi k15 12 (a69_ 0)), ((q0 49), zi k32 200 f32), ((q0 48), zi k31 2400 f31), ((q0 38), zi k23 1300 f23), ((q0 39), zi k24 1300 f24), ((q0 40), zi k25 1300 f25), ((q0 41), zi k26 1300 f26), ((q0 56), zi k34 1300 f34), ((q0 52), zi k33 1300 f33), ((q0 46), zi k30 40 f30)] H1 := hP.sub [13, 0, 1, 14, 2, 3, 15, 4, 5, 6, 7, 8, 9, 10, 11, 12] rfl
      have hD : va_D A [(h0, .inr (13, mX13 q0 (upd (upd (upd (upd (upd (upd (upd v0 20 (u69_ 0)) 32 (u2_ 0)) 33 (u2_ 1)) 35 (u17_ 0)) 36 (u17_ 1)) 37 (u17_ 2)) 47 (u2_ 2)))), ((q0 43), zi k27 40 (a2_ 0)), ((q0 31), .inr (12, sf22)), ((q0 0), zi k1 600 f1), ((q0 44), zi k28 40 f_29), ((q0 45), zi k29 40 f_36), ((q0 19), zi k15 12 (a69_ 0)), ((q0 49), zi k32 200 f32), ((q0 48), zi k31 2400 f31), ((q0 38), zi k23 1300 f23), ((q0 39), zi k24 1300 f24), ((q0 40), zi k25 1300 f25), ((q0 41), zi k26 1300 f26), ((q0 56), zi k34 1300 f34), ((q0 52), zi k33 1300 f33), ((q0 46), zi k30 40 f30)] := hD.sub [13, 0, 1, 14, 2, 3, 15, 4, 5, 6, 7, 8, 9, 10, 11, 12] (by decide) rfl
      generalize H1 = H at hP hS ⊢
      clear hz1
      refine lv_aload_n hx hb dX13_token_72 rfl (lv_at hl 3 rfl) ?_
      have hPc := hP.sub (ws' := [(h0, .inr (13, mX13 q0 (upd (upd (upd (upd (upd (upd (upd v0 20 (u69_ 0)) 32 (u2_ 0)) 33 (u2_ 1)) 35 (u17_ 0)) 36 (u17_ 1)) 37 (u17_ 2)) 47 (u2_ 2)))), ((q0 49), zi k32 200 f32), ((q0 19), zi k15 12 (a69_ 0)), ((q0 48), zi k31 2400 f31)]) [0, 7, 6, 8] rfl
      have hDc := hD.sub (ws' := [(h0, .inr (13, mX13 q0 (upd (upd (upd (upd (upd (upd (upd v0 20 (u69_ 0)) 32 (u2_ 0)) 33 (u2_ 1)) 35 (u17_ 0)) 36 (u17_ 1)) 37 (u17_ 2)) 47 (u2_ 2)))), ((q0 49), zi k32 200 f32), ((q0 19), zi k15 12 (a69_ 0)), ((q0 48), zi k31 2400 f31)]) [0, 7, 6, 8] (by decide) rfl
      have hKc := hK.sub (tys' := [(k32, .int), (k15, .byte), (k31, .byte)]) [5, 4, 6] rfl
      have hFc := va_free (wc := [(h0, .inr (13, mX13 q0 (upd (upd (upd (upd (upd (upd (upd v0 20 (u69_ 0)) 32 (u2_ 0)) 33 (u2_ 1)) 35 (u17_ 0)) 36 (u17_ 1)) 37 (u17_ 2)) 47 (u2_ 2)))), ((q0 49), zi k32 200 f32), ((q0 19), zi k15 12 (a69_ 0)), ((q0 48), zi k31 2400 f31)]) hD hS hA [0, 7, 6, 8] rfl
      refine va_callv (va_runV (As := []) (rest := []) ⟨hx, hb, hml, hown, hG⟩ (sX13_want_0 l dC dI adK adV h0 q0 k32 k15 k31 H.size (upd (upd (upd (upd (upd (upd (upd v0 20 (u69_ 0)) 32 (u2_ 0)) 33 (u2_ 1)) 35 (u17_ 0)) 36 (u17_ 1)) 37 (u17_ 2)) 47 (u2_ 2)) f32 (a69_ 0) f31 (zR_up2 (zR_up2 (zR_up2 (zR_up2 (zR_updF (zR_updF (zR_up2 hv0 20 (show (0 : Int) ≤ ((u69_ 0) : Int32).toInt ∧ ((u69_ 0) : Int32).toInt ≤ (12 : Int) from (by first | with_reducible assumption | exact ⟨by omega, by omega⟩))) 32 rfl) 33 rfl) 35 (show (0 : Int) ≤ ((u17_ 0) : Int32).toInt ∧ ((u17_ 0) : Int32).toInt ≤ (600 : Int) from (by first | with_reducible assumption | exact ⟨by omega, by omega⟩))) 36 (show (0 : Int) ≤ ((u17_ 1) : Int32).toInt ∧ ((u17_ 1) : Int32).toInt ≤ (3 : Int) from (by first | with_reducible assumption | exact ⟨by omega, by omega⟩))) 37 (show (0 : Int) ≤ ((u17_ 2) : Int32).toInt ∧ ((u17_ 2) : Int32).toInt ≤ (600 : Int) from (by first | with_reducible assumption | exact ⟨by omega, by omega⟩))) 47 (show (0 : Int) ≤ ((u2_ 2) : Int32).toInt ∧ ((u2_ 2) : Int32).toInt ≤ (40 : Int) from (by first | with_reducible assumption | exact ⟨by omega, by omega⟩))) hf32 (show (v0 50).toInt ≤ 199 from by omega)) (cwV 0 hG (zgV zv2126 zv2128 zv102 zv142 zv2129) rfl rfl rfl (by decide +kernel) ⟨Nat.le_of_ble_eq_true rfl, Nat.le_of_ble_eq_true rfl⟩) ⟨zPc_blind, va_recv hKc hPc (ci := 13) (q0 := 0) rfl rfl, zPc_pre hPc hKc hDc hE hS hFc hZ⟩ rfl rfl hl.1 rfl (lv_room (Nat.le_of_ble_eq_true rfl)) dX13_token_73 ⟨Nat.le_of_ble_eq_true rfl, Nat.le_of_ble_eq_true rfl⟩) hS (fun q _ h => hFc q h) hFc (fun u73_ t H1 locs ht hvm hw hB hz1 hk1 hS => ?_)
      replace hw : (1 ≤ (u73_ 0).toInt ∧ (u73_ 0).toInt ≤ 200) ∧ ((u73_ 0).toInt = (v0 50).toInt + 1) := hw
      obtain ⟨b_, hX73_0⟩ := hw
      obtain ⟨w73_, a73_, b73_, ha73_0, hB73_0, hB73_1, hP1, hK1, hD1⟩ := hB
      have hB73_0 : zC f31 (a73_ 1) (a69_ 0) (12 * (v0 50).toInt) (u69_ 0).toInt := hB73_0
      have hB73_1 : (a73_ 0) = upd f32 (((v0 50) : Int32)).toNatClampNeg ((u69_ 0) : Int32) := hB73_1
      rw [ht] at hP1
      obtain ⟨hP, hD⟩ := va_join (wr := [((q0 43), zi k27 40 (a2_ 0)), ((q0 31), .inr (12, sf22)), ((q0 0), zi k1 600 f1), ((q0 44), zi k28 40 f_29), ((q0 45), zi k29 40 f_36), ((q0 38), zi k23 1300 f23), ((q0 39), zi k24 1300 f24), ((q0 40), zi k25 1300 f25), ((q0 41), zi k26 1300 f26), ((q0 56), zi k34 1300 f34), ((q0 52), zi k33 1300 f33), ((q0 46), zi k30 40 f30)]) (w1 := [(h0, .inr (13, mX13 q0 (upd (upd (upd (upd (upd (upd (upd (upd v0 20 (u69_ 0)) 32 (u2_ 0)) 33 (u2_ 1)) 35 (u17_ 0)) 36 (u17_ 1)) 37 (u17_ 2)) 47 (u2_ 2)) 50 (u73_ 0)))), ((q0 49), zi k32 200 (a73_ 0)), ((q0 19), zi k15 12 (a69_ 0)), ((q0 48), zi k31 2400 (a73_ 1))]) hP hD [0, 7, 6, 8] [1, 2, 3, 4, 5, 9, 10, 11, 12, 13, 14, 15] rfl rfl (by decide) (by decide) hk1 hFc hP1 hD1
      have hP : va_P (dC, dI) vwCl [(h0, .inr (13, mX13 q0 (upd (upd (upd (upd (upd (upd (upd (upd v0 20 (u69_ 0)) 32 (u2_ 0)) 33 (u2_ 1)) 35 (u17_ 0)) 36 (u17_ 1)) 37 (u17_ 2)) 47 (u2_ 2)) 50 (u73_ 0)))), ((q0 43), zi k27 40 (a2_ 0)), ((q0 31), .inr (12, sf22)), ((q0 0), zi k1 600 f1), ((q0 44), zi k28 40 f_29), ((q0 45), zi k29 40 f_36), ((q0 19), zi k15 12 (a69_ 0)), ((q0 49), zi k32 200 (a73_ 0)), ((q0 48), zi k31 2400 (a73_ 1)), ((q0 38), zi k23 1300 f23), ((q0 39), zi k24 1300 f24), ((q0 40), zi k25 1300 f25), ((q0 41), zi k26 1300 f26), ((q0 56), zi k34 1300 f34), ((q0 52), zi k33 1300 f33), ((q0 46), zi k30 40 f30)] H1 := hP.sub [12, 0, 1, 2, 3, 4, 14, 13, 15, 5, 6, 7, 8, 9, 10, 11] rfl
      have hD : va_D A [(h0, .inr (13, mX13 q0 (upd (upd (upd (upd (upd (upd (upd (upd v0 20 (u69_ 0)) 32 (u2_ 0)) 33 (u2_ 1)) 35 (u17_ 0)) 36 (u17_ 1)) 37 (u17_ 2)) 47 (u2_ 2)) 50 (u73_ 0)))), ((q0 43), zi k27 40 (a2_ 0)), ((q0 31), .inr (12, sf22)), ((q0 0), zi k1 600 f1), ((q0 44), zi k28 40 f_29), ((q0 45), zi k29 40 f_36), ((q0 19), zi k15 12 (a69_ 0)), ((q0 49), zi k32 200 (a73_ 0)), ((q0 48), zi k31 2400 (a73_ 1)), ((q0 38), zi k23 1300 f23), ((q0 39), zi k24 1300 f24), ((q0 40), zi k25 1300 f25), ((q0 41), zi k26 1300 f26), ((q0 56), zi k34 1300 f34), ((q0 52), zi k33 1300 f33), ((q0 46), zi k30 40 f30)] := hD.sub [12, 0, 1, 2, 3, 4, 14, 13, 15, 5, 6, 7, 8, 9, 10, 11] (by decide) rfl
      generalize H1 = H at hP hS ⊢
      clear hz1
      refine lv_aload_n hx hb dX13_token_76 rfl (lv_at hl 3 rfl) ?_
      refine lv_iload_n hx hb dX13_token_77 rfl (lv_at hl 2 rfl) ?_
      have hr2 : r2_ = (v0 47) := zeqi.mpr (by omega)
      have hlf : zLf (a2_ 0) f_29 f_36 (u2_ 2).toInt := by
        rw [show (u2_ 2).toInt = (v0 47).toInt + 1 from by omega]
        refine zLf_push (lv := (v0 47)) (by assumption) rfl (by omega) (fun j hj => ?_) (fun j hj => ?_) (fun j hj => ?_) ?_
        · simp only [hB2_0, hr2, e_f_29, e_f_36, pk_un hj]
        · simp only [hB2_0, hr2, e_f_29, e_f_36, pk_un hj]
        · simp only [hB2_0, hr2, e_f_29, e_f_36, pk_un hj]
        · simp only [hB2_0, hr2, e_f_29, e_f_36, pk_us]
          exact ⟨⟨by omega, by omega⟩, fun _ => ⟨by omega, by omega, by omega⟩⟩
      have htr : zTr f23 f24 f25 f26 (v0 42).toInt (u2_ 2).toInt := zTr_mono (by assumption) (by omega)
      have hPc := hP.sub (ws' := [(h0, .inr (13, mX13 q0 (upd (upd (upd (upd (upd (upd (upd (upd v0 20 (u69_ 0)) 32 (u2_ 0)) 33 (u2_ 1)) 35 (u17_ 0)) 36 (u17_ 1)) 37 (u17_ 2)) 47 (u2_ 2)) 50 (u73_ 0)))), ((q0 43), zi k27 40 (a2_ 0)), ((q0 38), zi k23 1300 f23), ((q0 39), zi k24 1300 f24), ((q0 40), zi k25 1300 f25), ((q0 41), zi k26 1300 f26), ((q0 56), zi k34 1300 f34), ((q0 52), zi k33 1300 f33), ((q0 44), zi k28 40 f_29), ((q0 45), zi k29 40 f_36)]) [0, 1, 9, 10, 11, 12, 13, 14, 4, 5] rfl
      have hDc := hD.sub (ws' := [(h0, .inr (13, mX13 q0 (upd (upd (upd (upd (upd (upd (upd (upd v0 20 (u69_ 0)) 32 (u2_ 0)) 33 (u2_ 1)) 35 (u17_ 0)) 36 (u17_ 1)) 37 (u17_ 2)) 47 (u2_ 2)) 50 (u73_ 0)))), ((q0 43), zi k27 40 (a2_ 0)), ((q0 38), zi k23 1300 f23), ((q0 39), zi k24 1300 f24), ((q0 40), zi k25 1300 f25), ((q0 41), zi k26 1300 f26), ((q0 56), zi k34 1300 f34), ((q0 52), zi k33 1300 f33), ((q0 44), zi k28 40 f_29), ((q0 45), zi k29 40 f_36)]) [0, 1, 9, 10, 11, 12, 13, 14, 4, 5] (by decide) rfl
      have hKc := hK.sub (tys' := [(k27, .int), (k23, .int), (k24, .int), (k25, .int), (k26, .int), (k34, .boolean), (k33, .int), (k28, .int), (k29, .int)]) [0, 7, 8, 9, 10, 11, 12, 2, 3] rfl
      have hFc := va_free (wc := [(h0, .inr (13, mX13 q0 (upd (upd (upd (upd (upd (upd (upd (upd v0 20 (u69_ 0)) 32 (u2_ 0)) 33 (u2_ 1)) 35 (u17_ 0)) 36 (u17_ 1)) 37 (u17_ 2)) 47 (u2_ 2)) 50 (u73_ 0)))), ((q0 43), zi k27 40 (a2_ 0)), ((q0 38), zi k23 1300 f23), ((q0 39), zi k24 1300 f24), ((q0 40), zi k25 1300 f25), ((q0 41), zi k26 1300 f26), ((q0 56), zi k34 1300 f34), ((q0 52), zi k33 1300 f33), ((q0 44), zi k28 40 f_29), ((q0 45), zi k29 40 f_36)]) hD hS hA [0, 1, 9, 10, 11, 12, 13, 14, 4, 5] rfl
      refine va_calli (va_runV (As := [.int r2_]) (rest := []) ⟨hx, hb, hml, hown, hG⟩ (sX13_leafNode_0 l dC dI adK adV h0 q0 k27 k23 k24 k25 k26 k34 k33 k28 k29 H.size (upd (upd (upd (upd (upd (upd (upd (upd v0 20 (u69_ 0)) 32 (u2_ 0)) 33 (u2_ 1)) 35 (u17_ 0)) 36 (u17_ 1)) 37 (u17_ 2)) 47 (u2_ 2)) 50 (u73_ 0)) (a2_ 0) f23 f24 f25 f26 f34 f33 f_29 f_36 r2_ (zR_up2 (zR_up2 (zR_up2 (zR_up2 (zR_up2 (zR_updF (zR_updF (zR_up2 hv0 20 (show (0 : Int) ≤ ((u69_ 0) : Int32).toInt ∧ ((u69_ 0) : Int32).toInt ≤ (12 : Int) from (by first | with_reducible assumption | exact ⟨by omega, by omega⟩))) 32 rfl) 33 rfl) 35 (show (0 : Int) ≤ ((u17_ 0) : Int32).toInt ∧ ((u17_ 0) : Int32).toInt ≤ (600 : Int) from (by first | with_reducible assumption | exact ⟨by omega, by omega⟩))) 36 (show (0 : Int) ≤ ((u17_ 1) : Int32).toInt ∧ ((u17_ 1) : Int32).toInt ≤ (3 : Int) from (by first | with_reducible assumption | exact ⟨by omega, by omega⟩))) 37 (show (0 : Int) ≤ ((u17_ 2) : Int32).toInt ∧ ((u17_ 2) : Int32).toInt ≤ (600 : Int) from (by first | with_reducible assumption | exact ⟨by omega, by omega⟩))) 47 (show (0 : Int) ≤ ((u2_ 2) : Int32).toInt ∧ ((u2_ 2) : Int32).toInt ≤ (40 : Int) from (by first | with_reducible assumption | exact ⟨by omega, by omega⟩))) 50 (show (0 : Int) ≤ ((u73_ 0) : Int32).toInt ∧ ((u73_ 0) : Int32).toInt ≤ (200 : Int) from (by first | with_reducible assumption | exact ⟨by omega, by omega⟩))) hf24 hf25 (show (0 : Int) ≤ (r2_ : Int32).toInt ∧ (r2_ : Int32).toInt ≤ (39 : Int) from (by first | with_reducible assumption | exact ⟨by omega, by omega⟩)) (show (v0 42).toInt ≤ 1299 from by omega) (show (v0 53).toInt ≤ 1299 from by omega) (show zTr f23 f24 f25 f26 (v0 42).toInt (u2_ 2).toInt from by first | with_reducible assumption | assumption) (show zLf (a2_ 0) f_29 f_36 (u2_ 2).toInt from by first | with_reducible assumption | assumption) (show r2_.toInt < (u2_ 2).toInt from by omega)) (cwV 1 hG (zgV zv2114 zv2116 zv99 zv142 zv2117) rfl rfl rfl (by decide +kernel) ⟨Nat.le_of_ble_eq_true rfl, Nat.le_of_ble_eq_true rfl⟩) ⟨zPc_blind, va_recv hKc hPc (ci := 13) (q0 := 0) rfl rfl, zPc_pre hPc hKc hDc hE hS hFc hZ⟩ rfl rfl hl.1 rfl (lv_room (Nat.le_of_ble_eq_true rfl)) dX13_token_78 ⟨Nat.le_of_ble_eq_true rfl, Nat.le_of_ble_eq_true rfl⟩) hS (fun q _ h => hFc q h) hFc (fun r78_ u78_ t H1 locs ht hvm hw hB hz1 hk1 hS => ?_)
      replace hw : (0 ≤ r78_.toInt ∧ r78_.toInt ≤ 1299) ∧ (1 ≤ (u78_ 0).toInt ∧ (u78_ 0).toInt ≤ 1300) ∧ (1 ≤ (u78_ 1).toInt ∧ (u78_ 1).toInt ≤ 1300) ∧ (r78_.toInt = (v0 42).toInt) ∧ ((u78_ 0).toInt = (v0 42).toInt + 1) ∧ ((u78_ 1).toInt = (v0 53).toInt + 1) := hw
      obtain ⟨b_, b_, b_, hX78_0, hX78_1, hX78_2⟩ := hw
      obtain ⟨w78_, a78_, b78_, ha78_1, ha78_2, hB78_0, hB78_1, hP1, hK1, hD1⟩ := hB
      have hB78_0 : zTr (a78_ 0) (a78_ 1) (a78_ 2) (a78_ 3) (u78_ 0).toInt (u2_ 2).toInt := hB78_0
      have hB78_1 : ∀ (f_ g_ h_ i_ j_ k_ : Nat → Int32) (lv_ wn_ : Int) (W_ : Int → Int → (Nat → Int32) → (Nat → Int32) → Int → Int → Int → Prop), zxN f23 f34 (a78_ 0) (a78_ 4) (zma f33 f23 f24 f25 f26 f_ g_ h_ i_ j_ k_, lv_, wn_, W_) (zma (a78_ 5) (a78_ 0) (a78_ 1) (a78_ 2) (a78_ 3) f_ g_ h_ i_ j_ k_, lv_, wn_, W_) (v0 42).toInt (v0 53).toInt (u78_ 1).toInt ((a2_ 0) ((r2_ : Int32)).toNatClampNeg).toInt r2_.toInt ((-1) : Int32).toInt ((-1) : Int32).toInt := hB78_1
      rw [ht] at hP1
      obtain ⟨hP, hD⟩ := va_join (wr := [((q0 31), .inr (12, sf22)), ((q0 0), zi k1 600 f1), ((q0 19), zi k15 12 (a69_ 0)), ((q0 49), zi k32 200 (a73_ 0)), ((q0 48), zi k31 2400 (a73_ 1)), ((q0 46), zi k30 40 f30)]) (w1 := [(h0, .inr (13, mX13 q0 (upd (upd (upd (upd (upd (upd (upd (upd (upd (upd v0 20 (u69_ 0)) 32 (u2_ 0)) 33 (u2_ 1)) 35 (u17_ 0)) 36 (u17_ 1)) 37 (u17_ 2)) 42 (u78_ 0)) 47 (u2_ 2)) 50 (u73_ 0)) 53 (u78_ 1)))), ((q0 43), zi k27 40 (a2_ 0)), ((q0 38), zi k23 1300 (a78_ 0)), ((q0 39), zi k24 1300 (a78_ 1)), ((q0 40), zi k25 1300 (a78_ 2)), ((q0 41), zi k26 1300 (a78_ 3)), ((q0 56), zi k34 1300 (a78_ 4)), ((q0 52), zi k33 1300 (a78_ 5)), ((q0 44), zi k28 40 f_29), ((q0 45), zi k29 40 f_36)]) hP hD [0, 1, 9, 10, 11, 12, 13, 14, 4, 5] [2, 3, 6, 7, 8, 15] rfl rfl (by decide) (by decide) hk1 hFc hP1 hD1
      have hP : va_P (dC, dI) vwCl [(h0, .inr (13, mX13 q0 (upd (upd (upd (upd (upd (upd (upd (upd (upd (upd v0 20 (u69_ 0)) 32 (u2_ 0)) 33 (u2_ 1)) 35 (u17_ 0)) 36 (u17_ 1)) 37 (u17_ 2)) 42 (u78_ 0)) 47 (u2_ 2)) 50 (u73_ 0)) 53 (u78_ 1)))), ((q0 43), zi k27 40 (a2_ 0)), ((q0 31), .inr (12, sf22)), ((q0 0), zi k1 600 f1), ((q0 44), zi k28 40 f_29), ((q0 45), zi k29 40 f_36), ((q0 19), zi k15 12 (a69_ 0)), ((q0 49), zi k32 200 (a73_ 0)), ((q0 48), zi k31 2400 (a73_ 1)), ((q0 38), zi k23 1300 (a78_ 0)), ((q0 39), zi k24 1300 (a78_ 1)), ((q0 40), zi k25 1300 (a78_ 2)), ((q0 41), zi k26 1300 (a78_ 3)), ((q0 56), zi k34 1300 (a78_ 4)), ((q0 52), zi k33 1300 (a78_ 5)), ((q0 46), zi k30 40 f30)] H1 := hP.sub [6, 7, 0, 1, 14, 15, 2, 3, 4, 8, 9, 10, 11, 12, 13, 5] rfl
      have hD : va_D A [(h0, .inr (13, mX13 q0 (upd (upd (upd (upd (upd (upd (upd (upd (upd (upd v0 20 (u69_ 0)) 32 (u2_ 0)) 33 (u2_ 1)) 35 (u17_ 0)) 36 (u17_ 1)) 37 (u17_ 2)) 42 (u78_ 0)) 47 (u2_ 2)) 50 (u73_ 0)) 53 (u78_ 1)))), ((q0 43), zi k27 40 (a2_ 0)), ((q0 31), .inr (12, sf22)), ((q0 0), zi k1 600 f1), ((q0 44), zi k28 40 f_29), ((q0 45), zi k29 40 f_36), ((q0 19), zi k15 12 (a69_ 0)), ((q0 49), zi k32 200 (a73_ 0)), ((q0 48), zi k31 2400 (a73_ 1)), ((q0 38), zi k23 1300 (a78_ 0)), ((q0 39), zi k24 1300 (a78_ 1)), ((q0 40), zi k25 1300 (a78_ 2)), ((q0 41), zi k26 1300 (a78_ 3)), ((q0 56), zi k34 1300 (a78_ 4)), ((q0 52), zi k33 1300 (a78_ 5)), ((q0 46), zi k30 40 f30)] := hD.sub [6, 7, 0, 1, 14, 15, 2, 3, 4, 8, 9, 10, 11, 12, 13, 5] (by decide) rfl
      generalize H1 = H at hP hS ⊢
      clear hz1
      refine W.widen (k := 0) (n := 0) (by decide) (by decide) ?_
      have hpost : (0 ≤ r78_.toInt ∧ r78_.toInt ≤ 1299) ∧ (0 ≤ (u69_ 0).toInt ∧ (u69_ 0).toInt ≤ 12) ∧ (0 ≤ (u17_ 0).toInt ∧ (u17_ 0).toInt ≤ 600) ∧ (0 ≤ (u17_ 1).toInt ∧ (u17_ 1).toInt ≤ 3) ∧ (0 ≤ (u17_ 2).toInt ∧ (u17_ 2).toInt ≤ 600) ∧ (1 ≤ (u78_ 0).toInt ∧ (u78_ 0).toInt ≤ 1300) ∧ (1 ≤ (u2_ 2).toInt ∧ (u2_ 2).toInt ≤ 40) ∧ (1 ≤ (u73_ 0).toInt ∧ (u73_ 0).toInt ≤ 200) ∧ (1 ≤ (u78_ 1).toInt ∧ (u78_ 1).toInt ≤ 1300) ∧ ((u17_ 1).toInt ≠ 0 → (u17_ 2).toInt < (u17_ 0).toInt) ∧ ((u17_ 0).toInt ≤ (v0 34).toInt) ∧ ((u17_ 2).toInt ≤ (u17_ 0).toInt) ∧ ((u78_ 1).toInt = (u78_ 0).toInt) ∧ ((u73_ 0).toInt ≤ (u2_ 2).toInt + (v0 51).toInt) ∧ (2 * (v0 37).toInt - (v0 42).toInt + 1 ≤ 2 * (u17_ 2).toInt - (u78_ 0).toInt) ∧ ((v0 37).toInt + 1 ≤ (u17_ 2).toInt) ∧ (0 ≤ r78_.toInt ∧ r78_.toInt < (u78_ 0).toInt) ∧ ((v0 42).toInt + 1 ≤ (u78_ 0).toInt) ∧ ((v0 42).toInt ≤ r78_.toInt) ∧ (r78_.toInt = (u78_ 1).toInt - 1) ∧ (r78_.toInt = r78_.toInt) := ⟨(by first | with_reducible assumption | exact ⟨by omega, by omega⟩), (by first | with_reducible assumption | exact ⟨by omega, by omega⟩), (by first | with_reducible assumption | exact ⟨by omega, by omega⟩), (by first | with_reducible assumption | exact ⟨by omega, by omega⟩), (by first | with_reducible assumption | exact ⟨by omega, by omega⟩), (by first | with_reducible assumption | exact ⟨by omega, by omega⟩), (by first | with_reducible assumption | exact ⟨by omega, by omega⟩), (by first | with_reducible assumption | exact ⟨by omega, by omega⟩), (by first | with_reducible assumption | exact ⟨by omega, by omega⟩), by omega, by omega, by omega, by omega, by omega, by omega, by omega, by omega, by omega, by omega, by omega, rfl⟩
      have hP9 : va_P (dC, dI) vwCl [(h0, .inr (13, mX13 q0 (upd (upd (upd (upd (upd (upd (upd (upd (upd (upd v0 20 (u69_ 0)) 32 (u2_ 0)) 33 (u2_ 1)) 35 (u17_ 0)) 36 (u17_ 1)) 37 (u17_ 2)) 42 (u78_ 0)) 47 (u2_ 2)) 50 (u73_ 0)) 53 (u78_ 1)))), ((q0 43), zi k27 40 (a2_ 0)), ((q0 31), .inr (12, sf22)), ((q0 0), zi k1 600 f1), ((q0 44), zi k28 40 f_29), ((q0 45), zi k29 40 f_36), ((q0 19), zi k15 12 (a69_ 0)), ((q0 49), zi k32 200 (a73_ 0)), ((q0 48), zi k31 2400 (a73_ 1)), ((q0 38), zi k23 1300 (a78_ 0)), ((q0 39), zi k24 1300 (a78_ 1)), ((q0 40), zi k25 1300 (a78_ 2)), ((q0 41), zi k26 1300 (a78_ 3)), ((q0 56), zi k34 1300 (a78_ 4)), ((q0 52), zi k33 1300 (a78_ 5)), ((q0 46), zi k30 40 f30)] H := hP
      have hD9 : va_D A [(h0, .inr (13, mX13 q0 (upd (upd (upd (upd (upd (upd (upd (upd (upd (upd v0 20 (u69_ 0)) 32 (u2_ 0)) 33 (u2_ 1)) 35 (u17_ 0)) 36 (u17_ 1)) 37 (u17_ 2)) 42 (u78_ 0)) 47 (u2_ 2)) 50 (u73_ 0)) 53 (u78_ 1)))), ((q0 43), zi k27 40 (a2_ 0)), ((q0 31), .inr (12, sf22)), ((q0 0), zi k1 600 f1), ((q0 44), zi k28 40 f_29), ((q0 45), zi k29 40 f_36), ((q0 19), zi k15 12 (a69_ 0)), ((q0 49), zi k32 200 (a73_ 0)), ((q0 48), zi k31 2400 (a73_ 1)), ((q0 38), zi k23 1300 (a78_ 0)), ((q0 39), zi k24 1300 (a78_ 1)), ((q0 40), zi k25 1300 (a78_ 2)), ((q0 41), zi k26 1300 (a78_ 3)), ((q0 56), zi k34 1300 (a78_ 4)), ((q0 52), zi k33 1300 (a78_ 5)), ((q0 46), zi k30 40 f30)] := hD
      have hB0 : zTr (a78_ 0) (a78_ 1) (a78_ 2) (a78_ 3) (u78_ 0).toInt (u2_ 2).toInt := by assumption
      have hB1 : zLf (a2_ 0) f_29 f_36 (u2_ 2).toInt := by assumption
      have hB2 : ∀ sd_ : Int, 0 ≤ sd_ → (v0 36).toInt = 1 → zxS (zTkn f1 (v0 34).toInt sd_) f1 (v0 34).toInt (v0 37).toInt (v0 36).toInt (v0 35).toInt (v0 47).toInt (v0 51).toInt (v0 53).toInt (zma f33 f23 f24 f25 f26 f27 f28 f29 f30 f31 f32, (v0 47).toInt, (v0 50).toInt, zWmq f1 (v0 34).toInt) (u17_ 2).toInt (u17_ 1).toInt (u17_ 0).toInt (u2_ 2).toInt (v0 51).toInt (u78_ 1).toInt (zma (a78_ 5) (a78_ 0) (a78_ 1) (a78_ 2) (a78_ 3) (a2_ 0) f_29 f_36 f30 (a73_ 1) (a73_ 0), (u2_ 2).toInt, (u73_ 0).toInt, zWmq f1 (v0 34).toInt) (fun pl => pl = true ↔ zHp (a78_ 0) (a78_ 4) r78_.toInt) := by first | exact fun sd_ d0_ h_ => zxT_a h_ (by omega) (by omega) hX17_5 hX17_6 (hX40_2 (by omega)) (zMch_i (zup_k hB2_0 rfl (by omega)) (zup_k e_f_29 (by omega) (by omega)) (zup_k e_f_36 (by omega) (by omega)) zup_r (zC_k hB73_0) (zup_k hB73_1 rfl (by omega)) (by omega) (by omega)) (by omega) (by omega) d0_ (fun m_ => zL_1 (by omega) (by omega) (by omega) (by omega) (by omega) ((zup_g hB2_0 rfl).trans (by decide)) (zup_g e_f_29 (by omega)) ((zup_g e_f_36 (by omega)).trans (by decide)) (by omega) (by omega) (zWdl_i (zWnw_i hB69_0 (by omega) (zMl_1 m_ h_).1 (zMl_1 m_ h_).2.2) (by omega) hB73_0 hB73_1 rfl rfl (by omega))) (hB78_1 _ _ _ _ _ _ _ _ _) (by omega) ((zup_g hB2_0 (by omega)).trans (by decide)) (by omega) (by omega) | exact fun sd_ d0_ h_ => zxT_b h_ (by omega) (by omega) hX17_5 hX17_6 (hX40_1 (by omega)) hX60_5 hX60_6 (zMch_i (zup_t (zup_k hB2_0 rfl (by omega)) (zup_k e_f_52 (by omega) (by omega))) (zup_k e_f_29 (by omega) (by omega)) (zup_k e_f_36 (by omega) (by omega)) zup_r (zC_k hB73_0) (zup_k hB73_1 rfl (by omega)) (by omega) (by omega)) (by omega) (by omega) d0_ (fun m_ => zL_2 (by omega) (by omega) (by omega) (by omega) (by omega) ((zup_g e_f_52 (by omega)).trans (by decide)) (zup_g e_f_29 (by omega)) ((zup_g e_f_36 (by omega)).trans (by decide)) (by omega) (by omega) (zWdq_i (zWnq_i hB56_0 (by omega) (zMl_1 m_ h_).1 (zMl_1 m_ h_).2.2 (by omega) (by omega) hX56_0) (by omega) hB73_0 hB73_1 rfl rfl (by omega))) (hB78_1 _ _ _ _ _ _ _ _ _) (by omega) (by rw [e_f_52, pk_us]; decide) (by omega) (by omega)
      have hB3 : zNk f23 f34 (a78_ 0) (a78_ 4) (v0 42).toInt := by exact (hB78_1 (fun _ => 0) (fun _ => 0) (fun _ => 0) (fun _ => 0) (fun _ => 0) (fun _ => 0) 0 0 (fun _ _ _ _ _ _ _ => True)).1
      exact vx_ret (W.iret (v := r78_) hx hb hr (fun t ht hW => ⟨⟨r78_, (fun i => ([(u69_ 0), (u2_ 0), (u2_ 1), (u17_ 0), (u17_ 1), (u17_ 2), (u78_ 0), (u2_ 2), (u73_ 0), (u78_ 1), r78_] : List (Int32)).getD i 0), rfl, hpost, (fun _ => 0), (fun i => ([(a2_ 0), f_29, f_36, (a69_ 0), (a73_ 0), (a73_ 1), (a78_ 0), (a78_ 1), (a78_ 2), (a78_ 3), (a78_ 4), (a78_ 5)] : List (Nat → Int32)).getD i (fun _ => 0)), (fun _ => (fun _ => 0)), ha73_0, ha78_1, ha78_2, hB0, hB1, hB2, hB3, by rw [ht]; exact hP9, va_K.moved hW.alike hK, hD9⟩, hS.F ht⟩) hS.2.2 dX13_token_81)
    · skip
      have b_ := zF_eq rfl zk_0 c_
      refine lv_aload_n hx hb dX13_token_46 rfl (lv_at hl 3 rfl) ?_
      refine va_get (D := (dC, dI)) (ci := 13) (v := .ref (q0 43)) (C := RX13) (T := TX13) (N := 75) hx hb hG zuX13 hown hK hP 0 rfl rfl 43 (by decide) (hG _ zv1647) (fun _ h9 => h9) rfl dX13_token_47 ?_
      refine lv_iload_n hx hb dX13_token_50 rfl (lv_at hl 2 rfl) ?_
      refine lv_iconst (v := 2) hx hb dX13_token_51 (by decide) ?_
      refine va_iast hx hb hK hP hD hS 1 0 rfl rfl (zin_lit ⟨by omega, by omega⟩) dX13_token_52 (fun H locs hP hD hS => ?_)
      obtain ⟨f_52, e_f_52⟩ : ∃ z : Nat → Int32, z = upd (a2_ 0) (r2_ : Int32).toNatClampNeg 2 := ⟨_, rfl⟩
      have hP : va_P (dC, dI) vwCl [(h0, .inr (13, mX13 q0 (upd (upd (upd (upd (upd (upd v0 32 (u2_ 0)) 33 (u2_ 1)) 35 (u17_ 0)) 36 (u17_ 1)) 37 (u17_ 2)) 47 (u2_ 2)))), ((q0 43), zi k27 40 f_52), ((q0 31), .inr (12, sf22)), ((q0 0), zi k1 600 f1), ((q0 44), zi k28 40 f_29), ((q0 45), zi k29 40 f_36), ((q0 19), zi k15 12 f15), ((q0 49), zi k32 200 f32), ((q0 48), zi k31 2400 f31), ((q0 38), zi k23 1300 f23), ((q0 39), zi k24 1300 f24), ((q0 40), zi k25 1300 f25), ((q0 41), zi k26 1300 f26), ((q0 56), zi k34 1300 f34), ((q0 52), zi k33 1300 f33), ((q0 46), zi k30 40 f30)] H := by rw [e_f_52]; exact hP
      have hD : va_D A [(h0, .inr (13, mX13 q0 (upd (upd (upd (upd (upd (upd v0 32 (u2_ 0)) 33 (u2_ 1)) 35 (u17_ 0)) 36 (u17_ 1)) 37 (u17_ 2)) 47 (u2_ 2)))), ((q0 43), zi k27 40 f_52), ((q0 31), .inr (12, sf22)), ((q0 0), zi k1 600 f1), ((q0 44), zi k28 40 f_29), ((q0 45), zi k29 40 f_36), ((q0 19), zi k15 12 f15), ((q0 49), zi k32 200 f32), ((q0 48), zi k31 2400 f31), ((q0 38), zi k23 1300 f23), ((q0 39), zi k24 1300 f24), ((q0 40), zi k25 1300 f25), ((q0 41), zi k26 1300 f26), ((q0 56), zi k34 1300 f34), ((q0 52), zi k33 1300 f33), ((q0 46), zi k30 40 f30)] := by rw [e_f_52]; exact hD
      refine lv_aload_n hx hb dX13_token_53 rfl (lv_at hl 3 rfl) ?_
      refine lv_iload_n hx hb dX13_token_54 rfl (lv_at hl 1 rfl) ?_
      refine lv_iload_n hx hb dX13_token_55 rfl (lv_at hl 0 rfl) ?_
      have hPc := hP.sub (ws' := [(h0, .inr (13, mX13 q0 (upd (upd (upd (upd (upd (upd v0 32 (u2_ 0)) 33 (u2_ 1)) 35 (u17_ 0)) 36 (u17_ 1)) 37 (u17_ 2)) 47 (u2_ 2)))), ((q0 0), zi k1 600 f1), ((q0 19), zi k15 12 f15)]) [0, 3, 6] rfl
      have hDc := hD.sub (ws' := [(h0, .inr (13, mX13 q0 (upd (upd (upd (upd (upd (upd v0 32 (u2_ 0)) 33 (u2_ 1)) 35 (u17_ 0)) 36 (u17_ 1)) 37 (u17_ 2)) 47 (u2_ 2)))), ((q0 0), zi k1 600 f1), ((q0 19), zi k15 12 f15)]) [0, 3, 6] (by decide) rfl
      have hKc := hK.sub (tys' := [(k1, .byte), (k15, .byte)]) [1, 4] rfl
      have hFc := va_free (wc := [(h0, .inr (13, mX13 q0 (upd (upd (upd (upd (upd (upd v0 32 (u2_ 0)) 33 (u2_ 1)) 35 (u17_ 0)) 36 (u17_ 1)) 37 (u17_ 2)) 47 (u2_ 2)))), ((q0 0), zi k1 600 f1), ((q0 19), zi k15 12 f15)]) hD hS hA [0, 3, 6] rfl
      refine va_callv (va_runV (As := [.int (v0 37), .int (v0 35)]) (rest := []) ⟨hx, hb, hml, hown, hG⟩ (sX13_takeBytes_0 l dC dI adK adV h0 q0 k1 k15 H.size (upd (upd (upd (upd (upd (upd v0 32 (u2_ 0)) 33 (u2_ 1)) 35 (u17_ 0)) 36 (u17_ 1)) 37 (u17_ 2)) 47 (u2_ 2)) f1 f15 (v0 37) (v0 35) (zR_up2 (zR_up2 (zR_up2 (zR_up2 (zR_updF (zR_updF hv0 32 rfl) 33 rfl) 35 (show (0 : Int) ≤ ((u17_ 0) : Int32).toInt ∧ ((u17_ 0) : Int32).toInt ≤ (600 : Int) from (by first | with_reducible assumption | exact ⟨by omega, by omega⟩))) 36 (show (0 : Int) ≤ ((u17_ 1) : Int32).toInt ∧ ((u17_ 1) : Int32).toInt ≤ (3 : Int) from (by first | with_reducible assumption | exact ⟨by omega, by omega⟩))) 37 (show (0 : Int) ≤ ((u17_ 2) : Int32).toInt ∧ ((u17_ 2) : Int32).toInt ≤ (600 : Int) from (by first | with_reducible assumption | exact ⟨by omega, by omega⟩))) 47 (show (0 : Int) ≤ ((u2_ 2) : Int32).toInt ∧ ((u2_ 2) : Int32).toInt ≤ (40 : Int) from (by first | with_reducible assumption | exact ⟨by omega, by omega⟩))) (show (0 : Int) ≤ ((v0 37) : Int32).toInt ∧ ((v0 37) : Int32).toInt ≤ (600 : Int) from (by first | with_reducible assumption | exact ⟨by omega, by omega⟩)) (show (0 : Int) ≤ ((v0 35) : Int32).toInt ∧ ((v0 35) : Int32).toInt ≤ (600 : Int) from (by first | with_reducible assumption | exact ⟨by omega, by omega⟩))) (cwV 2 hG (zgV zv1870 zv1872 zv53 zv142 zv1873) rfl rfl rfl (by decide +kernel) ⟨Nat.le_of_ble_eq_true rfl, Nat.le_of_ble_eq_true rfl⟩) ⟨zPc_blind, va_recv hKc hPc (ci := 13) (q0 := 0) rfl rfl, zPc_pre hPc hKc hDc hE hS hFc hZ⟩ rfl rfl hl.1 rfl (lv_room (Nat.le_of_ble_eq_true rfl)) dX13_token_56 ⟨Nat.le_of_ble_eq_true rfl, Nat.le_of_ble_eq_true rfl⟩) hS (fun q _ h => hFc q h) hFc (fun u56_ t H1 locs ht hvm hw hB hz1 hk1 hS => ?_)
      replace hw : (0 ≤ (u56_ 0).toInt ∧ (u56_ 0).toInt ≤ 12) ∧ ((v0 37).toInt ≤ (v0 35).toInt → ((u56_ 0).toInt = 12 ∨ (v0 37).toInt + (u56_ 0).toInt = (v0 35).toInt) ∧ (v0 37).toInt + (u56_ 0).toInt ≤ (v0 35).toInt) := hw
      obtain ⟨b_, hX56_0⟩ := hw
      obtain ⟨w56_, a56_, b56_, hB56_0, hP1, hK1, hD1⟩ := hB
      have hB56_0 : zTkb f1 (v0 37).toInt (v0 35).toInt (a56_ 0) (u56_ 0).toInt := hB56_0
      rw [ht] at hP1
      obtain ⟨hP, hD⟩ := va_join (wr := [((q0 43), zi k27 40 f_52), ((q0 31), .inr (12, sf22)), ((q0 44), zi k28 40 f_29), ((q0 45), zi k29 40 f_36), ((q0 49), zi k32 200 f32), ((q0 48), zi k31 2400 f31), ((q0 38), zi k23 1300 f23), ((q0 39), zi k24 1300 f24), ((q0 40), zi k25 1300 f25), ((q0 41), zi k26 1300 f26), ((q0 56), zi k34 1300 f34), ((q0 52), zi k33 1300 f33), ((q0 46), zi k30 40 f30)]) (w1 := [(h0, .inr (13, mX13 q0 (upd (upd (upd (upd (upd (upd (upd v0 20 (u56_ 0)) 32 (u2_ 0)) 33 (u2_ 1)) 35 (u17_ 0)) 36 (u17_ 1)) 37 (u17_ 2)) 47 (u2_ 2)))), ((q0 0), zi k1 600 f1), ((q0 19), zi k15 12 (a56_ 0))]) hP hD [0, 3, 6] [1, 2, 4, 5, 7, 8, 9, 10, 11, 12, 13, 14, 15] rfl rfl (by decide) (by decide) hk1 hFc hP1 hD1
      have hP : va_P (dC, dI) vwCl [(h0, .inr (13, mX13 q0 (upd (upd (upd (upd (upd (upd (upd v0 20 (u56_ 0)) 32 (u2_ 0)) 33 (u2_ 1)) 35 (u17_ 0)) 36 (u17_ 1)) 37 (u17_ 2)) 47 (u2_ 2)))), ((q0 43), zi k27 40 f_52), ((q0 31), .inr (12, sf22)), ((q0 0), zi k1 600 f1), ((q0 44), zi k28 40 f_29), ((q0 45), zi k29 40 f_36), ((q0 19), zi k15 12 (a56_ 0)), ((q0 49), zi k32 200 f32), ((q0 48), zi k31 2400 f31), ((q0 38), zi k23 1300 f23), ((q0 39), zi k24 1300 f24), ((q0 40), zi k25 1300 f25), ((q0 41), zi k26 1300 f26), ((q0 56), zi k34 1300 f34), ((q0 52), zi k33 1300 f33), ((q0 46), zi k30 40 f30)] H1 := hP.sub [13, 0, 1, 14, 2, 3, 15, 4, 5, 6, 7, 8, 9, 10, 11, 12] rfl
      have hD : va_D A [(h0, .inr (13, mX13 q0 (upd (upd (upd (upd (upd (upd (upd v0 20 (u56_ 0)) 32 (u2_ 0)) 33 (u2_ 1)) 35 (u17_ 0)) 36 (u17_ 1)) 37 (u17_ 2)) 47 (u2_ 2)))), ((q0 43), zi k27 40 f_52), ((q0 31), .inr (12, sf22)), ((q0 0), zi k1 600 f1), ((q0 44), zi k28 40 f_29), ((q0 45), zi k29 40 f_36), ((q0 19), zi k15 12 (a56_ 0)), ((q0 49), zi k32 200 f32), ((q0 48), zi k31 2400 f31), ((q0 38), zi k23 1300 f23), ((q0 39), zi k24 1300 f24), ((q0 40), zi k25 1300 f25), ((q0 41), zi k26 1300 f26), ((q0 56), zi k34 1300 f34), ((q0 52), zi k33 1300 f33), ((q0 46), zi k30 40 f30)] := hD.sub [13, 0, 1, 14, 2, 3, 15, 4, 5, 6, 7, 8, 9, 10, 11, 12] (by decide) rfl
      generalize H1 = H at hP hS ⊢
      clear hz1
      refine lv_aload_n hx hb dX13_token_59 rfl (lv_at hl 3 rfl) ?_
      have hPc := hP.sub (ws' := [(h0, .inr (13, mX13 q0 (upd (upd (upd (upd (upd (upd (upd v0 20 (u56_ 0)) 32 (u2_ 0)) 33 (u2_ 1)) 35 (u17_ 0)) 36 (u17_ 1)) 37 (u17_ 2)) 47 (u2_ 2)))), ((q0 0), zi k1 600 f1)]) [0, 3] rfl
      have hDc := hD.sub (ws' := [(h0, .inr (13, mX13 q0 (upd (upd (upd (upd (upd (upd (upd v0 20 (u56_ 0)) 32 (u2_ 0)) 33 (u2_ 1)) 35 (u17_ 0)) 36 (u17_ 1)) 37 (u17_ 2)) 47 (u2_ 2)))), ((q0 0), zi k1 600 f1)]) [0, 3] (by decide) rfl
      have hKc := hK.sub (tys' := [(k1, .byte)]) [1] rfl
      have hFc := va_free (wc := [(h0, .inr (13, mX13 q0 (upd (upd (upd (upd (upd (upd (upd v0 20 (u56_ 0)) 32 (u2_ 0)) 33 (u2_ 1)) 35 (u17_ 0)) 36 (u17_ 1)) 37 (u17_ 2)) 47 (u2_ 2)))), ((q0 0), zi k1 600 f1)]) hD hS hA [0, 3] rfl
      refine va_callv (va_runV (As := []) (rest := []) ⟨hx, hb, hml, hown, hG⟩ (sX13_look1_0 l dC dI adK adV h0 q0 k1 H.size (upd (upd (upd (upd (upd (upd (upd v0 20 (u56_ 0)) 32 (u2_ 0)) 33 (u2_ 1)) 35 (u17_ 0)) 36 (u17_ 1)) 37 (u17_ 2)) 47 (u2_ 2)) f1 (zR_up2 (zR_up2 (zR_up2 (zR_up2 (zR_updF (zR_updF (zR_up2 hv0 20 (show (0 : Int) ≤ ((u56_ 0) : Int32).toInt ∧ ((u56_ 0) : Int32).toInt ≤ (12 : Int) from (by first | with_reducible assumption | exact ⟨by omega, by omega⟩))) 32 rfl) 33 rfl) 35 (show (0 : Int) ≤ ((u17_ 0) : Int32).toInt ∧ ((u17_ 0) : Int32).toInt ≤ (600 : Int) from (by first | with_reducible assumption | exact ⟨by omega, by omega⟩))) 36 (show (0 : Int) ≤ ((u17_ 1) : Int32).toInt ∧ ((u17_ 1) : Int32).toInt ≤ (3 : Int) from (by first | with_reducible assumption | exact ⟨by omega, by omega⟩))) 37 (show (0 : Int) ≤ ((u17_ 2) : Int32).toInt ∧ ((u17_ 2) : Int32).toInt ≤ (600 : Int) from (by first | with_reducible assumption | exact ⟨by omega, by omega⟩))) 47 (show (0 : Int) ≤ ((u2_ 2) : Int32).toInt ∧ ((u2_ 2) : Int32).toInt ≤ (40 : Int) from (by first | with_reducible assumption | exact ⟨by omega, by omega⟩))) (show (u17_ 0).toInt ≤ (v0 34).toInt from by omega)) (cwV 0 hG (zgV zv2042 zv2044 zv81 zv142 zv2045) rfl rfl rfl (by decide +kernel) ⟨Nat.le_of_ble_eq_true rfl, Nat.le_of_ble_eq_true rfl⟩) ⟨zPc_blind, va_recv hKc hPc (ci := 13) (q0 := 0) rfl rfl, zPc_pre hPc hKc hDc hE hS hFc hZ⟩ rfl rfl hl.1 rfl (lv_room (Nat.le_of_ble_eq_true rfl)) dX13_token_60 ⟨Nat.le_of_ble_eq_true rfl, Nat.le_of_ble_eq_true rfl⟩) hS (fun q _ h => hFc q h) hFc (fun u60_ t H1 locs ht hvm hw hB hz1 hk1 hS => ?_)
      replace hw : (0 ≤ (u60_ 0).toInt ∧ (u60_ 0).toInt ≤ 600) ∧ (0 ≤ (u60_ 1).toInt ∧ (u60_ 1).toInt ≤ 3) ∧ (0 ≤ (u60_ 2).toInt ∧ (u60_ 2).toInt ≤ 600) ∧ ((u60_ 0).toInt ≤ (v0 34).toInt) ∧ ((u17_ 0).toInt ≤ (u60_ 2).toInt) ∧ ((u60_ 2).toInt ≤ (u60_ 0).toInt) ∧ ((u60_ 1).toInt ≠ 0 → (u60_ 2).toInt < (u60_ 0).toInt) ∧ ((u60_ 1).toInt = 0 → (u60_ 2).toInt = (v0 34).toInt) ∧ (zBl f1 (v0 34).toInt (u17_ 0).toInt (u60_ 2).toInt) ∧ (zMl f1 (v0 34).toInt (u60_ 2).toInt (u60_ 1).toInt (u60_ 0).toInt) := hw
      obtain ⟨b_, b_, b_, hX60_0, hX60_1, hX60_2, hX60_3, hX60_4, hX60_5, hX60_6⟩ := hw
      obtain ⟨w60_, a60_, b60_, hP1, hK1, hD1⟩ := hB
      rw [ht] at hP1
      obtain ⟨hP, hD⟩ := va_join (wr := [((q0 43), zi k27 40 f_52), ((q0 31), .inr (12, sf22)), ((q0 44), zi k28 40 f_29), ((q0 45), zi k29 40 f_36), ((q0 19), zi k15 12 (a56_ 0)), ((q0 49), zi k32 200 f32), ((q0 48), zi k31 2400 f31), ((q0 38), zi k23 1300 f23), ((q0 39), zi k24 1300 f24), ((q0 40), zi k25 1300 f25), ((q0 41), zi k26 1300 f26), ((q0 56), zi k34 1300 f34), ((q0 52), zi k33 1300 f33), ((q0 46), zi k30 40 f30)]) (w1 := [(h0, .inr (13, mX13 q0 (upd (upd (upd (upd (upd (upd (upd v0 20 (u56_ 0)) 32 (u2_ 0)) 33 (u2_ 1)) 35 (u60_ 0)) 36 (u60_ 1)) 37 (u60_ 2)) 47 (u2_ 2)))), ((q0 0), zi k1 600 f1)]) hP hD [0, 3] [1, 2, 4, 5, 6, 7, 8, 9, 10, 11, 12, 13, 14, 15] rfl rfl (by decide) (by decide) hk1 hFc hP1 hD1
      have hP : va_P (dC, dI) vwCl [(h0, .inr (13, mX13 q0 (upd (upd (upd (upd (upd (upd (upd v0 20 (u56_ 0)) 32 (u2_ 0)) 33 (u2_ 1)) 35 (u60_ 0)) 36 (u60_ 1)) 37 (u60_ 2)) 47 (u2_ 2)))), ((q0 43), zi k27 40 f_52), ((q0 31), .inr (12, sf22)), ((q0 0), zi k1 600 f1), ((q0 44), zi k28 40 f_29), ((q0 45), zi k29 40 f_36), ((q0 19), zi k15 12 (a56_ 0)), ((q0 49), zi k32 200 f32), ((q0 48), zi k31 2400 f31), ((q0 38), zi k23 1300 f23), ((q0 39), zi k24 1300 f24), ((q0 40), zi k25 1300 f25), ((q0 41), zi k26 1300 f26), ((q0 56), zi k34 1300 f34), ((q0 52), zi k33 1300 f33), ((q0 46), zi k30 40 f30)] H1 := hP.sub [14, 0, 1, 15, 2, 3, 4, 5, 6, 7, 8, 9, 10, 11, 12, 13] rfl
      have hD : va_D A [(h0, .inr (13, mX13 q0 (upd (upd (upd (upd (upd (upd (upd v0 20 (u56_ 0)) 32 (u2_ 0)) 33 (u2_ 1)) 35 (u60_ 0)) 36 (u60_ 1)) 37 (u60_ 2)) 47 (u2_ 2)))), ((q0 43), zi k27 40 f_52), ((q0 31), .inr (12, sf22)), ((q0 0), zi k1 600 f1), ((q0 44), zi k28 40 f_29), ((q0 45), zi k29 40 f_36), ((q0 19), zi k15 12 (a56_ 0)), ((q0 49), zi k32 200 f32), ((q0 48), zi k31 2400 f31), ((q0 38), zi k23 1300 f23), ((q0 39), zi k24 1300 f24), ((q0 40), zi k25 1300 f25), ((q0 41), zi k26 1300 f26), ((q0 56), zi k34 1300 f34), ((q0 52), zi k33 1300 f33), ((q0 46), zi k30 40 f30)] := hD.sub [14, 0, 1, 15, 2, 3, 4, 5, 6, 7, 8, 9, 10, 11, 12, 13] (by decide) rfl
      generalize H1 = H at hP hS ⊢
      clear hz1
      refine lv_goto (tgt := 72) hx hb dX13_token_63 (by decide) ?_
      refine lv_aload_n hx hb dX13_token_72 rfl (lv_at hl 3 rfl) ?_
      have hPc := hP.sub (ws' := [(h0, .inr (13, mX13 q0 (upd (upd (upd (upd (upd (upd (upd v0 20 (u56_ 0)) 32 (u2_ 0)) 33 (u2_ 1)) 35 (u60_ 0)) 36 (u60_ 1)) 37 (u60_ 2)) 47 (u2_ 2)))), ((q0 49), zi k32 200 f32), ((q0 19), zi k15 12 (a56_ 0)), ((q0 48), zi k31 2400 f31)]) [0, 7, 6, 8] rfl
      have hDc := hD.sub (ws' := [(h0, .inr (13, mX13 q0 (upd (upd (upd (upd (upd (upd (upd v0 20 (u56_ 0)) 32 (u2_ 0)) 33 (u2_ 1)) 35 (u60_ 0)) 36 (u60_ 1)) 37 (u60_ 2)) 47 (u2_ 2)))), ((q0 49), zi k32 200 f32), ((q0 19), zi k15 12 (a56_ 0)), ((q0 48), zi k31 2400 f31)]) [0, 7, 6, 8] (by decide) rfl
      have hKc := hK.sub (tys' := [(k32, .int), (k15, .byte), (k31, .byte)]) [5, 4, 6] rfl
      have hFc := va_free (wc := [(h0, .inr (13, mX13 q0 (upd (upd (upd (upd (upd (upd (upd v0 20 (u56_ 0)) 32 (u2_ 0)) 33 (u2_ 1)) 35 (u60_ 0)) 36 (u60_ 1)) 37 (u60_ 2)) 47 (u2_ 2)))), ((q0 49), zi k32 200 f32), ((q0 19), zi k15 12 (a56_ 0)), ((q0 48), zi k31 2400 f31)]) hD hS hA [0, 7, 6, 8] rfl
      refine va_callv (va_runV (As := []) (rest := []) ⟨hx, hb, hml, hown, hG⟩ (sX13_want_0 l dC dI adK adV h0 q0 k32 k15 k31 H.size (upd (upd (upd (upd (upd (upd (upd v0 20 (u56_ 0)) 32 (u2_ 0)) 33 (u2_ 1)) 35 (u60_ 0)) 36 (u60_ 1)) 37 (u60_ 2)) 47 (u2_ 2)) f32 (a56_ 0) f31 (zR_up2 (zR_up2 (zR_up2 (zR_up2 (zR_updF (zR_updF (zR_up2 hv0 20 (show (0 : Int) ≤ ((u56_ 0) : Int32).toInt ∧ ((u56_ 0) : Int32).toInt ≤ (12 : Int) from (by first | with_reducible assumption | exact ⟨by omega, by omega⟩))) 32 rfl) 33 rfl) 35 (show (0 : Int) ≤ ((u60_ 0) : Int32).toInt ∧ ((u60_ 0) : Int32).toInt ≤ (600 : Int) from (by first | with_reducible assumption | exact ⟨by omega, by omega⟩))) 36 (show (0 : Int) ≤ ((u60_ 1) : Int32).toInt ∧ ((u60_ 1) : Int32).toInt ≤ (3 : Int) from (by first | with_reducible assumption | exact ⟨by omega, by omega⟩))) 37 (show (0 : Int) ≤ ((u60_ 2) : Int32).toInt ∧ ((u60_ 2) : Int32).toInt ≤ (600 : Int) from (by first | with_reducible assumption | exact ⟨by omega, by omega⟩))) 47 (show (0 : Int) ≤ ((u2_ 2) : Int32).toInt ∧ ((u2_ 2) : Int32).toInt ≤ (40 : Int) from (by first | with_reducible assumption | exact ⟨by omega, by omega⟩))) hf32 (show (v0 50).toInt ≤ 199 from by omega)) (cwV 0 hG (zgV zv2126 zv2128 zv102 zv142 zv2129) rfl rfl rfl (by decide +kernel) ⟨Nat.le_of_ble_eq_true rfl, Nat.le_of_ble_eq_true rfl⟩) ⟨zPc_blind, va_recv hKc hPc (ci := 13) (q0 := 0) rfl rfl, zPc_pre hPc hKc hDc hE hS hFc hZ⟩ rfl rfl hl.1 rfl (lv_room (Nat.le_of_ble_eq_true rfl)) dX13_token_73 ⟨Nat.le_of_ble_eq_true rfl, Nat.le_of_ble_eq_true rfl⟩) hS (fun q _ h => hFc q h) hFc (fun u73_ t H1 locs ht hvm hw hB hz1 hk1 hS => ?_)
      replace hw : (1 ≤ (u73_ 0).toInt ∧ (u73_ 0).toInt ≤ 200) ∧ ((u73_ 0).toInt = (v0 50).toInt + 1) := hw
      obtain ⟨b_, hX73_0⟩ := hw
      obtain ⟨w73_, a73_, b73_, ha73_0, hB73_0, hB73_1, hP1, hK1, hD1⟩ := hB
      have hB73_0 : zC f31 (a73_ 1) (a56_ 0) (12 * (v0 50).toInt) (u56_ 0).toInt := hB73_0
      have hB73_1 : (a73_ 0) = upd f32 (((v0 50) : Int32)).toNatClampNeg ((u56_ 0) : Int32) := hB73_1
      rw [ht] at hP1
      obtain ⟨hP, hD⟩ := va_join (wr := [((q0 43), zi k27 40 f_52), ((q0 31), .inr (12, sf22)), ((q0 0), zi k1 600 f1), ((q0 44), zi k28 40 f_29), ((q0 45), zi k29 40 f_36), ((q0 38), zi k23 1300 f23), ((q0 39), zi k24 1300 f24), ((q0 40), zi k25 1300 f25), ((q0 41), zi k26 1300 f26), ((q0 56), zi k34 1300 f34), ((q0 52), zi k33 1300 f33), ((q0 46), zi k30 40 f30)]) (w1 := [(h0, .inr (13, mX13 q0 (upd (upd (upd (upd (upd (upd (upd (upd v0 20 (u56_ 0)) 32 (u2_ 0)) 33 (u2_ 1)) 35 (u60_ 0)) 36 (u60_ 1)) 37 (u60_ 2)) 47 (u2_ 2)) 50 (u73_ 0)))), ((q0 49), zi k32 200 (a73_ 0)), ((q0 19), zi k15 12 (a56_ 0)), ((q0 48), zi k31 2400 (a73_ 1))]) hP hD [0, 7, 6, 8] [1, 2, 3, 4, 5, 9, 10, 11, 12, 13, 14, 15] rfl rfl (by decide) (by decide) hk1 hFc hP1 hD1
      have hP : va_P (dC, dI) vwCl [(h0, .inr (13, mX13 q0 (upd (upd (upd (upd (upd (upd (upd (upd v0 20 (u56_ 0)) 32 (u2_ 0)) 33 (u2_ 1)) 35 (u60_ 0)) 36 (u60_ 1)) 37 (u60_ 2)) 47 (u2_ 2)) 50 (u73_ 0)))), ((q0 43), zi k27 40 f_52), ((q0 31), .inr (12, sf22)), ((q0 0), zi k1 600 f1), ((q0 44), zi k28 40 f_29), ((q0 45), zi k29 40 f_36), ((q0 19), zi k15 12 (a56_ 0)), ((q0 49), zi k32 200 (a73_ 0)), ((q0 48), zi k31 2400 (a73_ 1)), ((q0 38), zi k23 1300 f23), ((q0 39), zi k24 1300 f24), ((q0 40), zi k25 1300 f25), ((q0 41), zi k26 1300 f26), ((q0 56), zi k34 1300 f34), ((q0 52), zi k33 1300 f33), ((q0 46), zi k30 40 f30)] H1 := hP.sub [12, 0, 1, 2, 3, 4, 14, 13, 15, 5, 6, 7, 8, 9, 10, 11] rfl
      have hD : va_D A [(h0, .inr (13, mX13 q0 (upd (upd (upd (upd (upd (upd (upd (upd v0 20 (u56_ 0)) 32 (u2_ 0)) 33 (u2_ 1)) 35 (u60_ 0)) 36 (u60_ 1)) 37 (u60_ 2)) 47 (u2_ 2)) 50 (u73_ 0)))), ((q0 43), zi k27 40 f_52), ((q0 31), .inr (12, sf22)), ((q0 0), zi k1 600 f1), ((q0 44), zi k28 40 f_29), ((q0 45), zi k29 40 f_36), ((q0 19), zi k15 12 (a56_ 0)), ((q0 49), zi k32 200 (a73_ 0)), ((q0 48), zi k31 2400 (a73_ 1)), ((q0 38), zi k23 1300 f23), ((q0 39), zi k24 1300 f24), ((q0 40), zi k25 1300 f25), ((q0 41), zi k26 1300 f26), ((q0 56), zi k34 1300 f34), ((q0 52), zi k33 1300 f33), ((q0 46), zi k30 40 f30)] := hD.sub [12, 0, 1, 2, 3, 4, 14, 13, 15, 5, 6, 7, 8, 9, 10, 11] (by decide) rfl
      generalize H1 = H at hP hS ⊢
      clear hz1
      refine lv_aload_n hx hb dX13_token_76 rfl (lv_at hl 3 rfl) ?_
      refine lv_iload_n hx hb dX13_token_77 rfl (lv_at hl 2 rfl) ?_
      have hr2 : r2_ = (v0 47) := zeqi.mpr (by omega)
      have hlf : zLf f_52 f_29 f_36 (u2_ 2).toInt := by
        rw [show (u2_ 2).toInt = (v0 47).toInt + 1 from by omega]
        refine zLf_push (lv := (v0 47)) (by assumption) rfl (by omega) (fun j hj => ?_) (fun j hj => ?_) (fun j hj => ?_) ?_
        · simp only [hB2_0, hr2, e_f_29, e_f_36, e_f_52, pk_un hj]
        · simp only [hB2_0, hr2, e_f_29, e_f_36, e_f_52, pk_un hj]
        · simp only [hB2_0, hr2, e_f_29, e_f_36, e_f_52, pk_un hj]
        · simp only [hB2_0, hr2, e_f_29, e_f_36, e_f_52, pk_us]
          exact ⟨⟨by omega, by omega⟩, fun _ => ⟨by omega, by omega, by omega⟩⟩
      have htr : zTr f23 f24 f25 f26 (v0 42).toInt (u2_ 2).toInt := zTr_mono (by assumption) (by omega)
      have hPc := hP.sub (ws' := [(h0, .inr (13, mX13 q0 (upd (upd (upd (upd (upd (upd (upd (upd v0 20 (u56_ 0)) 32 (u2_ 0)) 33 (u2_ 1)) 35 (u60_ 0)) 36 (u60_ 1)) 37 (u60_ 2)) 47 (u2_ 2)) 50 (u73_ 0)))), ((q0 43), zi k27 40 f_52), ((q0 38), zi k23 1300 f23), ((q0 39), zi k24 1300 f24), ((q0 40), zi k25 1300 f25), ((q0 41), zi k26 1300 f26), ((q0 56), zi k34 1300 f34), ((q0 52), zi k33 1300 f33), ((q0 44), zi k28 40 f_29), ((q0 45), zi k29 40 f_36)]) [0, 1, 9, 10, 11, 12, 13, 14, 4, 5] rfl
      have hDc := hD.sub (ws' := [(h0, .inr (13, mX13 q0 (upd (upd (upd (upd (upd (upd (upd (upd v0 20 (u56_ 0)) 32 (u2_ 0)) 33 (u2_ 1)) 35 (u60_ 0)) 36 (u60_ 1)) 37 (u60_ 2)) 47 (u2_ 2)) 50 (u73_ 0)))), ((q0 43), zi k27 40 f_52), ((q0 38), zi k23 1300 f23), ((q0 39), zi k24 1300 f24), ((q0 40), zi k25 1300 f25), ((q0 41), zi k26 1300 f26), ((q0 56), zi k34 1300 f34), ((q0 52), zi k33 1300 f33), ((q0 44), zi k28 40 f_29), ((q0 45), zi k29 40 f_36)]) [0, 1, 9, 10, 11, 12, 13, 14, 4, 5] (by decide) rfl
      have hKc := hK.sub (tys' := [(k27, .int), (k23, .int), (k24, .int), (k25, .int), (k26, .int), (k34, .boolean), (k33, .int), (k28, .int), (k29, .int)]) [0, 7, 8, 9, 10, 11, 12, 2, 3] rfl
      have hFc := va_free (wc := [(h0, .inr (13, mX13 q0 (upd (upd (upd (upd (upd (upd (upd (upd v0 20 (u56_ 0)) 32 (u2_ 0)) 33 (u2_ 1)) 35 (u60_ 0)) 36 (u60_ 1)) 37 (u60_ 2)) 47 (u2_ 2)) 50 (u73_ 0)))), ((q0 43), zi k27 40 f_52), ((q0 38), zi k23 1300 f23), ((q0 39), zi k24 1300 f24), ((q0 40), zi k25 1300 f25), ((q0 41), zi k26 1300 f26), ((q0 56), zi k34 1300 f34), ((q0 52), zi k33 1300 f33), ((q0 44), zi k28 40 f_29), ((q0 45), zi k29 40 f_36)]) hD hS hA [0, 1, 9, 10, 11, 12, 13, 14, 4, 5] rfl
      refine va_calli (va_runV (As := [.int r2_]) (rest := []) ⟨hx, hb, hml, hown, hG⟩ (sX13_leafNode_0 l dC dI adK adV h0 q0 k27 k23 k24 k25 k26 k34 k33 k28 k29 H.size (upd (upd (upd (upd (upd (upd (upd (upd v0 20 (u56_ 0)) 32 (u2_ 0)) 33 (u2_ 1)) 35 (u60_ 0)) 36 (u60_ 1)) 37 (u60_ 2)) 47 (u2_ 2)) 50 (u73_ 0)) f_52 f23 f24 f25 f26 f34 f33 f_29 f_36 r2_ (zR_up2 (zR_up2 (zR_up2 (zR_up2 (zR_up2 (zR_updF (zR_updF (zR_up2 hv0 20 (show (0 : Int) ≤ ((u56_ 0) : Int32).toInt ∧ ((u56_ 0) : Int32).toInt ≤ (12 : Int) from (by first | with_reducible assumption | exact ⟨by omega, by omega⟩))) 32 rfl) 33 rfl) 35 (show (0 : Int) ≤ ((u60_ 0) : Int32).toInt ∧ ((u60_ 0) : Int32).toInt ≤ (600 : Int) from (by first | with_reducible assumption | exact ⟨by omega, by omega⟩))) 36 (show (0 : Int) ≤ ((u60_ 1) : Int32).toInt ∧ ((u60_ 1) : Int32).toInt ≤ (3 : Int) from (by first | with_reducible assumption | exact ⟨by omega, by omega⟩))) 37 (show (0 : Int) ≤ ((u60_ 2) : Int32).toInt ∧ ((u60_ 2) : Int32).toInt ≤ (600 : Int) from (by first | with_reducible assumption | exact ⟨by omega, by omega⟩))) 47 (show (0 : Int) ≤ ((u2_ 2) : Int32).toInt ∧ ((u2_ 2) : Int32).toInt ≤ (40 : Int) from (by first | with_reducible assumption | exact ⟨by omega, by omega⟩))) 50 (show (0 : Int) ≤ ((u73_ 0) : Int32).toInt ∧ ((u73_ 0) : Int32).toInt ≤ (200 : Int) from (by first | with_reducible assumption | exact ⟨by omega, by omega⟩))) hf24 hf25 (show (0 : Int) ≤ (r2_ : Int32).toInt ∧ (r2_ : Int32).toInt ≤ (39 : Int) from (by first | with_reducible assumption | exact ⟨by omega, by omega⟩)) (show (v0 42).toInt ≤ 1299 from by omega) (show (v0 53).toInt ≤ 1299 from by omega) (show zTr f23 f24 f25 f26 (v0 42).toInt (u2_ 2).toInt from by first | with_reducible assumption | assumption) (show zLf f_52 f_29 f_36 (u2_ 2).toInt from by first | with_reducible assumption | assumption) (show r2_.toInt < (u2_ 2).toInt from by omega)) (cwV 1 hG (zgV zv2114 zv2116 zv99 zv142 zv2117) rfl rfl rfl (by decide +kernel) ⟨Nat.le_of_ble_eq_true rfl, Nat.le_of_ble_eq_true rfl⟩) ⟨zPc_blind, va_recv hKc hPc (ci := 13) (q0 := 0) rfl rfl, zPc_pre hPc hKc hDc hE hS hFc hZ⟩ rfl rfl hl.1 rfl (lv_room (Nat.le_of_ble_eq_true rfl)) dX13_token_78 ⟨Nat.le_of_ble_eq_true rfl, Nat.le_of_ble_eq_true rfl⟩) hS (fun q _ h => hFc q h) hFc (fun r78_ u78_ t H1 locs ht hvm hw hB hz1 hk1 hS => ?_)
      replace hw : (0 ≤ r78_.toInt ∧ r78_.toInt ≤ 1299) ∧ (1 ≤ (u78_ 0).toInt ∧ (u78_ 0).toInt ≤ 1300) ∧ (1 ≤ (u78_ 1).toInt ∧ (u78_ 1).toInt ≤ 1300) ∧ (r78_.toInt = (v0 42).toInt) ∧ ((u78_ 0).toInt = (v0 42).toInt + 1) ∧ ((u78_ 1).toInt = (v0 53).toInt + 1) := hw
      obtain ⟨b_, b_, b_, hX78_0, hX78_1, hX78_2⟩ := hw
      obtain ⟨w78_, a78_, b78_, ha78_1, ha78_2, hB78_0, hB78_1, hP1, hK1, hD1⟩ := hB
      have hB78_0 : zTr (a78_ 0) (a78_ 1) (a78_ 2) (a78_ 3) (u78_ 0).toInt (u2_ 2).toInt := hB78_0
      have hB78_1 : ∀ (f_ g_ h_ i_ j_ k_ : Nat → Int32) (lv_ wn_ : Int) (W_ : Int → Int → (Nat → Int32) → (Nat → Int32) → Int → Int → Int → Prop), zxN f23 f34 (a78_ 0) (a78_ 4) (zma f33 f23 f24 f25 f26 f_ g_ h_ i_ j_ k_, lv_, wn_, W_) (zma (a78_ 5) (a78_ 0) (a78_ 1) (a78_ 2) (a78_ 3) f_ g_ h_ i_ j_ k_, lv_, wn_, W_) (v0 42).toInt (v0 53).toInt (u78_ 1).toInt (f_52 ((r2_ : Int32)).toNatClampNeg).toInt r2_.toInt ((-1) : Int32).toInt ((-1) : Int32).toInt := hB78_1
      rw [ht] at hP1
      obtain ⟨hP, hD⟩ := va_join (wr := [((q0 31), .inr (12, sf22)), ((q0 0), zi k1 600 f1), ((q0 19), zi k15 12 (a56_ 0)), ((q0 49), zi k32 200 (a73_ 0)), ((q0 48), zi k31 2400 (a73_ 1)), ((q0 46), zi k30 40 f30)]) (w1 := [(h0, .inr (13, mX13 q0 (upd (upd (upd (upd (upd (upd (upd (upd (upd (upd v0 20 (u56_ 0)) 32 (u2_ 0)) 33 (u2_ 1)) 35 (u60_ 0)) 36 (u60_ 1)) 37 (u60_ 2)) 42 (u78_ 0)) 47 (u2_ 2)) 50 (u73_ 0)) 53 (u78_ 1)))), ((q0 43), zi k27 40 f_52), ((q0 38), zi k23 1300 (a78_ 0)), ((q0 39), zi k24 1300 (a78_ 1)), ((q0 40), zi k25 1300 (a78_ 2)), ((q0 41), zi k26 1300 (a78_ 3)), ((q0 56), zi k34 1300 (a78_ 4)), ((q0 52), zi k33 1300 (a78_ 5)), ((q0 44), zi k28 40 f_29), ((q0 45), zi k29 40 f_36)]) hP hD [0, 1, 9, 10, 11, 12, 13, 14, 4, 5] [2, 3, 6, 7, 8, 15] rfl rfl (by decide) (by decide) hk1 hFc hP1 hD1
      have hP : va_P (dC, dI) vwCl [(h0, .inr (13, mX13 q0 (upd (upd (upd (upd (upd (upd (upd (upd (upd (upd v0 20 (u56_ 0)) 32 (u2_ 0)) 33 (u2_ 1)) 35 (u60_ 0)) 36 (u60_ 1)) 37 (u60_ 2)) 42 (u78_ 0)) 47 (u2_ 2)) 50 (u73_ 0)) 53 (u78_ 1)))), ((q0 43), zi k27 40 f_52), ((q0 31), .inr (12, sf22)), ((q0 0), zi k1 600 f1), ((q0 44), zi k28 40 f_29), ((q0 45), zi k29 40 f_36), ((q0 19), zi k15 12 (a56_ 0)), ((q0 49), zi k32 200 (a73_ 0)), ((q0 48), zi k31 2400 (a73_ 1)), ((q0 38), zi k23 1300 (a78_ 0)), ((q0 39), zi k24 1300 (a78_ 1)), ((q0 40), zi k25 1300 (a78_ 2)), ((q0 41), zi k26 1300 (a78_ 3)), ((q0 56), zi k34 1300 (a78_ 4)), ((q0 52), zi k33 1300 (a78_ 5)), ((q0 46), zi k30 40 f30)] H1 := hP.sub [6, 7, 0, 1, 14, 15, 2, 3, 4, 8, 9, 10, 11, 12, 13, 5] rfl
      have hD : va_D A [(h0, .inr (13, mX13 q0 (upd (upd (upd (upd (upd (upd (upd (upd (upd (upd v0 20 (u56_ 0)) 32 (u2_ 0)) 33 (u2_ 1)) 35 (u60_ 0)) 36 (u60_ 1)) 37 (u60_ 2)) 42 (u78_ 0)) 47 (u2_ 2)) 50 (u73_ 0)) 53 (u78_ 1)))), ((q0 43), zi k27 40 f_52), ((q0 31), .inr (12, sf22)), ((q0 0), zi k1 600 f1), ((q0 44), zi k28 40 f_29), ((q0 45), zi k29 40 f_36), ((q0 19), zi k15 12 (a56_ 0)), ((q0 49), zi k32 200 (a73_ 0)), ((q0 48), zi k31 2400 (a73_ 1)), ((q0 38), zi k23 1300 (a78_ 0)), ((q0 39), zi k24 1300 (a78_ 1)), ((q0 40), zi k25 1300 (a78_ 2)), ((q0 41), zi k26 1300 (a78_ 3)), ((q0 56), zi k34 1300 (a78_ 4)), ((q0 52), zi k33 1300 (a78_ 5)), ((q0 46), zi k30 40 f30)] := hD.sub [6, 7, 0, 1, 14, 15, 2, 3, 4, 8, 9, 10, 11, 12, 13, 5] (by decide) rfl
      generalize H1 = H at hP hS ⊢
      clear hz1
      refine W.widen (k := 0) (n := 0) (by decide) (by decide) ?_
      have hpost : (0 ≤ r78_.toInt ∧ r78_.toInt ≤ 1299) ∧ (0 ≤ (u56_ 0).toInt ∧ (u56_ 0).toInt ≤ 12) ∧ (0 ≤ (u60_ 0).toInt ∧ (u60_ 0).toInt ≤ 600) ∧ (0 ≤ (u60_ 1).toInt ∧ (u60_ 1).toInt ≤ 3) ∧ (0 ≤ (u60_ 2).toInt ∧ (u60_ 2).toInt ≤ 600) ∧ (1 ≤ (u78_ 0).toInt ∧ (u78_ 0).toInt ≤ 1300) ∧ (1 ≤ (u2_ 2).toInt ∧ (u2_ 2).toInt ≤ 40) ∧ (1 ≤ (u73_ 0).toInt ∧ (u73_ 0).toInt ≤ 200) ∧ (1 ≤ (u78_ 1).toInt ∧ (u78_ 1).toInt ≤ 1300) ∧ ((u60_ 1).toInt ≠ 0 → (u60_ 2).toInt < (u60_ 0).toInt) ∧ ((u60_ 0).toInt ≤ (v0 34).toInt) ∧ ((u60_ 2).toInt ≤ (u60_ 0).toInt) ∧ ((u78_ 1).toInt = (u78_ 0).toInt) ∧ ((u73_ 0).toInt ≤ (u2_ 2).toInt + (v0 51).toInt) ∧ (2 * (v0 37).toInt - (v0 42).toInt + 1 ≤ 2 * (u60_ 2).toInt - (u78_ 0).toInt) ∧ ((v0 37).toInt + 1 ≤ (u60_ 2).toInt) ∧ (0 ≤ r78_.toInt ∧ r78_.toInt < (u78_ 0).toInt) ∧ ((v0 42).toInt + 1 ≤ (u78_ 0).toInt) ∧ ((v0 42).toInt ≤ r78_.toInt) ∧ (r78_.toInt = (u78_ 1).toInt - 1) ∧ (r78_.toInt = r78_.toInt) := ⟨(by first | with_reducible assumption | exact ⟨by omega, by omega⟩), (by first | with_reducible assumption | exact ⟨by omega, by omega⟩), (by first | with_reducible assumption | exact ⟨by omega, by omega⟩), (by first | with_reducible assumption | exact ⟨by omega, by omega⟩), (by first | with_reducible assumption | exact ⟨by omega, by omega⟩), (by first | with_reducible assumption | exact ⟨by omega, by omega⟩), (by first | with_reducible assumption | exact ⟨by omega, by omega⟩), (by first | with_reducible assumption | exact ⟨by omega, by omega⟩), (by first | with_reducible assumption | exact ⟨by omega, by omega⟩), by omega, by omega, by omega, by omega, by omega, by omega, by omega, by omega, by omega, by omega, by omega, rfl⟩
      have hP9 : va_P (dC, dI) vwCl [(h0, .inr (13, mX13 q0 (upd (upd (upd (upd (upd (upd (upd (upd (upd (upd v0 20 (u56_ 0)) 32 (u2_ 0)) 33 (u2_ 1)) 35 (u60_ 0)) 36 (u60_ 1)) 37 (u60_ 2)) 42 (u78_ 0)) 47 (u2_ 2)) 50 (u73_ 0)) 53 (u78_ 1)))), ((q0 43), zi k27 40 f_52), ((q0 31), .inr (12, sf22)), ((q0 0), zi k1 600 f1), ((q0 44), zi k28 40 f_29), ((q0 45), zi k29 40 f_36), ((q0 19), zi k15 12 (a56_ 0)), ((q0 49), zi k32 200 (a73_ 0)), ((q0 48), zi k31 2400 (a73_ 1)), ((q0 38), zi k23 1300 (a78_ 0)), ((q0 39), zi k24 1300 (a78_ 1)), ((q0 40), zi k25 1300 (a78_ 2)), ((q0 41), zi k26 1300 (a78_ 3)), ((q0 56), zi k34 1300 (a78_ 4)), ((q0 52), zi k33 1300 (a78_ 5)), ((q0 46), zi k30 40 f30)] H := hP
      have hD9 : va_D A [(h0, .inr (13, mX13 q0 (upd (upd (upd (upd (upd (upd (upd (upd (upd (upd v0 20 (u56_ 0)) 32 (u2_ 0)) 33 (u2_ 1)) 35 (u60_ 0)) 36 (u60_ 1)) 37 (u60_ 2)) 42 (u78_ 0)) 47 (u2_ 2)) 50 (u73_ 0)) 53 (u78_ 1)))), ((q0 43), zi k27 40 f_52), ((q0 31), .inr (12, sf22)), ((q0 0), zi k1 600 f1), ((q0 44), zi k28 40 f_29), ((q0 45), zi k29 40 f_36), ((q0 19), zi k15 12 (a56_ 0)), ((q0 49), zi k32 200 (a73_ 0)), ((q0 48), zi k31 2400 (a73_ 1)), ((q0 38), zi k23 1300 (a78_ 0)), ((q0 39), zi k24 1300 (a78_ 1)), ((q0 40), zi k25 1300 (a78_ 2)), ((q0 41), zi k26 1300 (a78_ 3)), ((q0 56), zi k34 1300 (a78_ 4)), ((q0 52), zi k33 1300 (a78_ 5)), ((q0 46), zi k30 40 f30)] := hD
      have hB0 : zTr (a78_ 0) (a78_ 1) (a78_ 2) (a78_ 3) (u78_ 0).toInt (u2_ 2).toInt := by assumption
      have hB1 : zLf f_52 f_29 f_36 (u2_ 2).toInt := by assumption
      have hB2 : ∀ sd_ : Int, 0 ≤ sd_ → (v0 36).toInt = 1 → zxS (zTkn f1 (v0 34).toInt sd_) f1 (v0 34).toInt (v0 37).toInt (v0 36).toInt (v0 35).toInt (v0 47).toInt (v0 51).toInt (v0 53).toInt (zma f33 f23 f24 f25 f26 f27 f28 f29 f30 f31 f32, (v0 47).toInt, (v0 50).toInt, zWmq f1 (v0 34).toInt) (u60_ 2).toInt (u60_ 1).toInt (u60_ 0).toInt (u2_ 2).toInt (v0 51).toInt (u78_ 1).toInt (zma (a78_ 5) (a78_ 0) (a78_ 1) (a78_ 2) (a78_ 3) f_52 f_29 f_36 f30 (a73_ 1) (a73_ 0), (u2_ 2).toInt, (u73_ 0).toInt, zWmq f1 (v0 34).toInt) (fun pl => pl = true ↔ zHp (a78_ 0) (a78_ 4) r78_.toInt) := by first | exact fun sd_ d0_ h_ => zxT_a h_ (by omega) (by omega) hX17_5 hX17_6 (hX40_2 (by omega)) (zMch_i (zup_k hB2_0 rfl (by omega)) (zup_k e_f_29 (by omega) (by omega)) (zup_k e_f_36 (by omega) (by omega)) zup_r (zC_k hB73_0) (zup_k hB73_1 rfl (by omega)) (by omega) (by omega)) (by omega) (by omega) d0_ (fun m_ => zL_1 (by omega) (by omega) (by omega) (by omega) (by omega) ((zup_g hB2_0 rfl).trans (by decide)) (zup_g e_f_29 (by omega)) ((zup_g e_f_36 (by omega)).trans (by decide)) (by omega) (by omega) (zWdl_i (zWnw_i hB69_0 (by omega) (zMl_1 m_ h_).1 (zMl_1 m_ h_).2.2) (by omega) hB73_0 hB73_1 rfl rfl (by omega))) (hB78_1 _ _ _ _ _ _ _ _ _) (by omega) ((zup_g hB2_0 (by omega)).trans (by decide)) (by omega) (by omega) | exact fun sd_ d0_ h_ => zxT_b h_ (by omega) (by omega) hX17_5 hX17_6 (hX40_1 (by omega)) hX60_5 hX60_6 (zMch_i (zup_t (zup_k hB2_0 rfl (by omega)) (zup_k e_f_52 (by omega) (by omega))) (zup_k e_f_29 (by omega) (by omega)) (zup_k e_f_36 (by omega) (by omega)) zup_r (zC_k hB73_0) (zup_k hB73_1 rfl (by omega)) (by omega) (by omega)) (by omega) (by omega) d0_ (fun m_ => zL_2 (by omega) (by omega) (by omega) (by omega) (by omega) ((zup_g e_f_52 (by omega)).trans (by decide)) (zup_g e_f_29 (by omega)) ((zup_g e_f_36 (by omega)).trans (by decide)) (by omega) (by omega) (zWdq_i (zWnq_i hB56_0 (by omega) (zMl_1 m_ h_).1 (zMl_1 m_ h_).2.2 (by omega) (by omega) hX56_0) (by omega) hB73_0 hB73_1 rfl rfl (by omega))) (hB78_1 _ _ _ _ _ _ _ _ _) (by omega) (by rw [e_f_52, pk_us]; decide) (by omega) (by omega)
      have hB3 : zNk f23 f34 (a78_ 0) (a78_ 4) (v0 42).toInt := by exact (hB78_1 (fun _ => 0) (fun _ => 0) (fun _ => 0) (fun _ => 0) (fun _ => 0) (fun _ => 0) 0 0 (fun _ _ _ _ _ _ _ => True)).1
      exact vx_ret (W.iret (v := r78_) hx hb hr (fun t ht hW => ⟨⟨r78_, (fun i => ([(u56_ 0), (u2_ 0), (u2_ 1), (u60_ 0), (u60_ 1), (u60_ 2), (u78_ 0), (u2_ 2), (u73_ 0), (u78_ 1), r78_] : List (Int32)).getD i 0), rfl, hpost, (fun _ => 0), (fun i => ([f_52, f_29, f_36, (a56_ 0), (a73_ 0), (a73_ 1), (a78_ 0), (a78_ 1), (a78_ 2), (a78_ 3), (a78_ 4), (a78_ 5)] : List (Nat → Int32)).getD i (fun _ => 0)), (fun _ => (fun _ => 0)), ha73_0, ha78_1, ha78_2, hB0, hB1, hB2, hB3, by rw [ht]; exact hP9, va_K.moved hW.alike hK, hD9⟩, hS.F ht⟩) hS.2.2 dX13_token_81)
