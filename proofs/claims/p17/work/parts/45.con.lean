set_option maxHeartbeats 8000000 in
set_option maxRecDepth 100000 in
theorem sX4_next_0 (l : Launch) (dC : Nat → ClassId) (dI : Nat → Nat → Nat) (adK adV : Nat → Nat) (h0 : Nat) (h1 : Nat) (h2 : Nat) (h4 : Nat) (h11 : Nat) (h18 : Nat) (h3 : Nat) (k2 : ClassId) (sz : Nat) (v0 : Nat → Int32) (v1 : Nat → Int32) (f2 : Nat → Int32) (hv0 : zR rg_Parser v0) (hv1 : zR rg_Tape v1) : Met l yX4_next (zw yX4_next cX4_next 2 none) { frames := 6, cells := 0, slots := 0, locals := 131 } (zPc dC dI adK adV [.ref h0] sz [(h0, .inr (4, mX4 h1 h4 h11 h18 v0)), (h1, .inr (9, mX9 h2 h3 v1)), (h2, zi k2 600 f2)] [(k2, .byte)]) (va_Qv (fun (u : Nat → Int32) => (0 ≤ (u 0).toInt ∧ (u 0).toInt ≤ 265) ∧ ((v0 4).toInt = 265 ∨ (v0 8).toInt ≠ -1 → (u 0).toInt = 265) ∧ ((v0 8).toInt = -1 → (u 3).toInt = (v0 7).toInt) ∧ ((v0 7).toInt ≠ 0 → (u 3).toInt = (v0 7).toInt) ∧ ((v0 8).toInt ≠ -1 → (v0 7).toInt = 0 → 0 ≤ (v0 8).toInt → (v0 8).toInt ≤ 700 → (u 3).toInt ≠ 0) ∧ (zqTy f2 (v1 2).toInt → 0 ≤ (v0 6).toInt → (v0 6).toInt ≤ 602 → (v0 4).toInt ≠ 265 ∧ (v0 8).toInt = -1 → zBl f2 (v1 2).toInt (v0 6).toInt (u 1).toInt ∧ zLk f2 (v1 2).toInt (u 1).toInt (u 0).toInt (u 2).toInt)) (fun (u : Nat → Int32) (t : State) => ∃ (ww : Nat → Int64) (aa : Nat → Nat → Int32) (bb : Nat → Nat → Int64), va_P (dC, dI) vwCl [(h0, .inr (4, mX4 h1 h4 h11 h18 (upd (upd (upd (upd v0 4 (u 0)) 5 (u 1)) 6 (u 2)) 7 (u 3)))), (h1, .inr (9, mX9 h2 h3 v1)), (h2, zi k2 600 f2)] t.heap ∧ va_K (dC, dI) vwCl [(k2, .byte)] t ∧ va_D (va_A [(h0, .inr (4, mX4 h1 h4 h11 h18 v0)), (h1, .inr (9, mX9 h2 h3 v1)), (h2, zi k2 600 f2)] sz) [(h0, .inr (4, mX4 h1 h4 h11 h18 (upd (upd (upd (upd v0 4 (u 0)) 5 (u 1)) 6 (u 2)) 7 (u 3)))), (h1, .inr (9, mX9 h2 h3 v1)), (h2, zi k2 600 f2)]) (va_A [(h0, .inr (4, mX4 h1 h4 h11 h18 v0)), (h1, .inr (9, mX9 h2 h3 v1)), (h2, zi k2 600 f2)] sz)) 0 0 (va_A [(h0, .inr (4, mX4 h1 h4 h11 h18 v0)), (h1, .inr (9, mX9 h2 h3 v1)), (h2, zi k2 600 f2)] sz) := by
  refine Met.ofW (cc := cX4_next) (maxL := 2) (ret := none) (by decide) rfl ?_
  intro p e s m args below meth c s₁ B hml hv
  obtain ⟨rfl, hsz, hP, hK, hD0, hE, hZ⟩ := hv
  have hx := B.exec
  have hb := B.bytes
  have hr := B.returns
  have hG : ∀ w ∈ zG, w.before _ s = true := fun w h => atoms_spec (ws := (zw yX4_next cX4_next 2 none)) B.pre w (List.mem_cons_of_mem _ h)
  have hown : s.vm.findClass RX4 = some m.cls := findClass_of_methodNamed B.named
  have hlocks := B.notSynchronized

  subst hsz
  have hD := hD0.self (sz := s.heap.size)
  generalize hAe : va_A [(h0, .inr (4, mX4 h1 h4 h11 h18 v0)), (h1, .inr (9, mX9 h2 h3 v1)), (h2, zi k2 600 f2)] s.heap.size = A at hD hZ ⊢
  have hA : ∀ q : Nat, s.heap.size ≤ q → A q := fun q h => by rw [← hAe]; exact Or.inr h
  have hS : va_S A s.heap s.heap [] := va_S.rf
  have hl := lv_entry ([.ref h0]) (n := 2) (Nat.le_of_ble_eq_true rfl)
  rw [lg_entry_eq]
  generalize (lg_sl ([.ref h0]) ++ List.replicate (2 - (lg_sl ([.ref h0])).length) Slot.unset).toArray = ls at hl ⊢
  have hl : lv_has ls 2 [(0, .ref h0)] := hl
  have b_ := zk_256
  have b_ := zk_264
  have b_ : -2147483648 ≤ (v0 4).toInt ∧ (v0 4).toInt ≤ 2147483647 := ⟨zlo _, zhi _⟩
  have b_ : -2147483648 ≤ (v0 8).toInt ∧ (v0 8).toInt ≤ 2147483647 := ⟨zlo _, zhi _⟩
  have b_ : -2147483648 ≤ (v0 7).toInt ∧ (v0 7).toInt ≤ 2147483647 := ⟨zlo _, zhi _⟩
  have b_ : 0 ≤ (v1 2).toInt ∧ (v1 2).toInt ≤ 600 := hv1 2
  have b_ : -2147483648 ≤ (v0 6).toInt ∧ (v0 6).toInt ≤ 2147483647 := ⟨zlo _, zhi _⟩
  have b_ : -2147483648 ≤ (v0 5).toInt ∧ (v0 5).toInt ≤ 2147483647 := ⟨zlo _, zhi _⟩
  refine lv_aload_n hx hb dX4_next_0 rfl (lv_at hl 0 rfl) ?_
  have hPc := hP.sub (ws' := [(h0, .inr (4, mX4 h1 h4 h11 h18 v0))]) [0] rfl
  have hDc := hD.sub (ws' := [(h0, .inr (4, mX4 h1 h4 h11 h18 v0))]) [0] (by decide) rfl
  have hKc := hK.sub (tys' := []) [] rfl
  have hFc := va_free (wc := [(h0, .inr (4, mX4 h1 h4 h11 h18 v0))]) hD hS hA [0] rfl
  refine va_callv (va_runV (As := []) (rest := []) ⟨hx, hb, hml, hown, hG⟩ (sX4_settleNear_0 l dC dI adK adV h0 h1 h4 h11 h18 s.heap.size v0 hv0) (cwV 0 hG (zgV zv1017 zv1019 zv12 zv137 zv1020) rfl rfl rfl (by decide +kernel) ⟨Nat.le_of_ble_eq_true rfl, Nat.le_of_ble_eq_true rfl⟩) ⟨zPc_blind, va_recv hKc hPc (ci := 4) (q0 := 0) rfl rfl, zPc_pre hPc hKc hDc hE hS hFc hZ⟩ rfl rfl hl.1 rfl (lv_room (Nat.le_of_ble_eq_true rfl)) dX4_next_1 ⟨Nat.le_of_ble_eq_true rfl, Nat.le_of_ble_eq_true rfl⟩) hS (fun q _ h => hFc q h) hFc (fun u1_ t H1 locs ht hvm hw hB hz1 hk1 hS => ?_)
  replace hw : ((v0 8).toInt = -1 → (u1_ 0).toInt = (v0 4).toInt ∧ (u1_ 1).toInt = (v0 7).toInt) ∧ ((v0 8).toInt ≠ -1 → (u1_ 0).toInt = 265) ∧ ((v0 7).toInt ≠ 0 → (u1_ 1).toInt = (v0 7).toInt) ∧ ((v0 8).toInt ≠ -1 → (v0 7).toInt = 0 → 0 ≤ (v0 8).toInt → (v0 8).toInt ≤ 700 → (u1_ 1).toInt ≠ 0) := hw
  obtain ⟨hX1_0, hX1_1, hX1_2, hX1_3⟩ := hw
  obtain ⟨w1_, a1_, b1_, hP1, hK1, hD1⟩ := hB
  rw [ht] at hP1
  obtain ⟨hP, hD⟩ := va_join (wr := [(h1, .inr (9, mX9 h2 h3 v1)), (h2, zi k2 600 f2)]) (w1 := [(h0, .inr (4, mX4 h1 h4 h11 h18 (upd (upd v0 4 (u1_ 0)) 7 (u1_ 1))))]) hP hD [0] [1, 2] rfl rfl (by decide) (by decide) hk1 hFc hP1 hD1
  have hP : va_P (dC, dI) vwCl [(h0, .inr (4, mX4 h1 h4 h11 h18 (upd (upd v0 4 (u1_ 0)) 7 (u1_ 1)))), (h1, .inr (9, mX9 h2 h3 v1)), (h2, zi k2 600 f2)] H1 := hP.sub [2, 0, 1] rfl
  have hD : va_D A [(h0, .inr (4, mX4 h1 h4 h11 h18 (upd (upd v0 4 (u1_ 0)) 7 (u1_ 1)))), (h1, .inr (9, mX9 h2 h3 v1)), (h2, zi k2 600 f2)] := hD.sub [2, 0, 1] (by decide) rfl
  generalize H1 = H at hP hS ⊢
  clear hz1
  have hs_ : ((v0 8).toInt = -1 ∧ (u1_ 0).toInt = (v0 4).toInt ∧ (u1_ 1).toInt = (v0 7).toInt) ∨ ((v0 8).toInt ≠ -1 ∧ (u1_ 0).toInt = 265) := by omega
  replace hX1_0 := fun (_ : Nat) => hX1_0
  replace hX1_1 := fun (_ : Nat) => hX1_1
  replace hX1_2 := fun (_ : Nat) => hX1_2
  replace hX1_3 := fun (_ : Nat) => hX1_3
  refine lv_aload_n hx hb dX4_next_4 rfl (lv_at hl 0 rfl) ?_
  refine va_get (D := (dC, dI)) (ci := 4) (v := .int (u1_ 0)) (C := RX4) (T := TX4) (N := 12) hx hb hG zuX4 hown hK hP 0 rfl rfl 4 (by decide) (hG _ zv412) (fun _ h9 => h9) rfl dX4_next_5 ?_
  refine lv_sipush (v := 265) hx hb dX4_next_8 (by decide) ?_
  have b_ : -2147483648 ≤ (u1_ 0).toInt ∧ (u1_ 0).toInt ≤ 2147483647 := ⟨zlo _, zhi _⟩
  refine lv_icmp_ne (tgt := 15) hx hb dX4_next_11 (by decide) (fun c_ => ?_) (fun c_ => ?_)
  · skip
    have b_ := zT_ne rfl zk_265 c_
    obtain ⟨b_, b_, b_⟩ : (v0 8).toInt = -1 ∧ (u1_ 0).toInt = (v0 4).toInt ∧ (u1_ 1).toInt = (v0 7).toInt := by omega
    clear hs_
    refine lv_aload_n hx hb dX4_next_15 rfl (lv_at hl 0 rfl) ?_
    refine lv_aload_n hx hb dX4_next_16 rfl (lv_at hl 0 rfl) ?_
    refine va_get (D := (dC, dI)) (ci := 4) (v := .ref h1) (C := RX4) (T := TX4) (N := 12) hx hb hG zuX4 hown hK hP 0 rfl rfl 0 (by decide) (hG _ zv408) (fun _ h9 => h9) rfl dX4_next_17 ?_
    refine lv_aload_n hx hb dX4_next_20 rfl (lv_at hl 0 rfl) ?_
    refine va_get (D := (dC, dI)) (ci := 4) (v := .int (v0 6)) (C := RX4) (T := TX4) (N := 12) hx hb hG zuX4 hown hK hP 0 rfl rfl 6 (by decide) (hG _ zv414) (fun _ h9 => h9) rfl dX4_next_21 ?_
    have hPc := hP.sub (ws' := [(h1, .inr (9, mX9 h2 h3 v1)), (h2, zi k2 600 f2)]) [1, 2] rfl
    have hDc := hD.sub (ws' := [(h1, .inr (9, mX9 h2 h3 v1)), (h2, zi k2 600 f2)]) [1, 2] (by decide) rfl
    have hKc := hK.sub (tys' := [(k2, .byte)]) [0] rfl
    have hFc := va_free (wc := [(h1, .inr (9, mX9 h2 h3 v1)), (h2, zi k2 600 f2)]) hD hS hA [1, 2] rfl
    refine va_calli (va_runV (As := [.int (v0 6)]) (rest := [.ref h0]) ⟨hx, hb, hml, hown, hG⟩ (sX9_behindBlanks_0 l dC dI adK adV h1 h2 h3 k2 H.size v1 f2 (v0 6) hv1) (cwV 1 hG (zgV zv1025 zv1026 zv1027 zv130 zv1028) rfl rfl rfl (by decide +kernel) ⟨Nat.le_of_ble_eq_true rfl, Nat.le_of_ble_eq_true rfl⟩) ⟨zPc_blind, va_recv hKc hPc (ci := 9) (q0 := 0) rfl rfl, zPc_pre hPc hKc hDc hE hS hFc hZ⟩ rfl rfl hl.1 rfl (lv_room (Nat.le_of_ble_eq_true rfl)) dX4_next_24 ⟨Nat.le_of_ble_eq_true rfl, Nat.le_of_ble_eq_true rfl⟩) hS (fun q _ h => hFc q h) hFc (fun r24_ u24_ t H1 locs ht hvm hw hB hz1 hk1 hS => ?_)
    replace hw : (0 ≤ r24_.toInt ∧ r24_.toInt ≤ 2147483647) ∧ (0 ≤ (v0 6).toInt → zBl f2 (v1 2).toInt (v0 6).toInt r24_.toInt) := hw
    obtain ⟨b_, hX24_0⟩ := hw
    obtain ⟨w24_, a24_, b24_, hP1, hK1, hD1⟩ := hB
    rw [ht] at hP1
    obtain ⟨hP, hD⟩ := va_join (wr := [(h0, .inr (4, mX4 h1 h4 h11 h18 (upd (upd v0 4 (u1_ 0)) 7 (u1_ 1))))]) (w1 := [(h1, .inr (9, mX9 h2 h3 v1)), (h2, zi k2 600 f2)]) hP hD [1, 2] [0] rfl rfl (by decide) (by decide) hk1 hFc hP1 hD1
    have hP : va_P (dC, dI) vwCl [(h0, .inr (4, mX4 h1 h4 h11 h18 (upd (upd v0 4 (u1_ 0)) 7 (u1_ 1)))), (h1, .inr (9, mX9 h2 h3 v1)), (h2, zi k2 600 f2)] H1 := hP.sub [0, 1, 2] rfl
    have hD : va_D A [(h0, .inr (4, mX4 h1 h4 h11 h18 (upd (upd v0 4 (u1_ 0)) 7 (u1_ 1)))), (h1, .inr (9, mX9 h2 h3 v1)), (h2, zi k2 600 f2)] := hD.sub [0, 1, 2] (by decide) rfl
    generalize H1 = H at hP hS ⊢
    clear hz1
    refine va_put (D := (dC, dI)) (ci := 4) (v := .int r24_) (ty := .int) (C := RX4) (T := TX4) (N := 12) hx hb hG zuX4 tyX4 tyX4_ok nmX4 hown hK hP hD hS 0 rfl rfl 5 (by decide) (hG _ zv413) (fun _ h9 => h9) rfl (by decide +kernel) rfl rfl (Nat.le_of_ble_eq_true rfl) dX4_next_27 (fun H locs hP hD hS => ?_)
    have hP : va_P (dC, dI) vwCl [(h0, .inr (4, mX4 h1 h4 h11 h18 (upd (upd (upd v0 4 (u1_ 0)) 5 r24_) 7 (u1_ 1)))), (h1, .inr (9, mX9 h2 h3 v1)), (h2, zi k2 600 f2)] H := hP
    have hD : va_D A [(h0, .inr (4, mX4 h1 h4 h11 h18 (upd (upd (upd v0 4 (u1_ 0)) 5 r24_) 7 (u1_ 1)))), (h1, .inr (9, mX9 h2 h3 v1)), (h2, zi k2 600 f2)] := hD
    refine lv_aload_n hx hb dX4_next_30 rfl (lv_at hl 0 rfl) ?_
    refine va_get (D := (dC, dI)) (ci := 4) (v := .ref h1) (C := RX4) (T := TX4) (N := 12) hx hb hG zuX4 hown hK hP 0 rfl rfl 0 (by decide) (hG _ zv408) (fun _ h9 => h9) rfl dX4_next_31 ?_
    refine lv_aload_n hx hb dX4_next_34 rfl (lv_at hl 0 rfl) ?_
    refine va_get (D := (dC, dI)) (ci := 4) (v := .int r24_) (C := RX4) (T := TX4) (N := 12) hx hb hG zuX4 hown hK hP 0 rfl rfl 5 (by decide) (hG _ zv413) (fun _ h9 => h9) rfl dX4_next_35 ?_
    have hPc := hP.sub (ws' := [(h1, .inr (9, mX9 h2 h3 v1)), (h2, zi k2 600 f2)]) [1, 2] rfl
    have hDc := hD.sub (ws' := [(h1, .inr (9, mX9 h2 h3 v1)), (h2, zi k2 600 f2)]) [1, 2] (by decide) rfl
    have hKc := hK.sub (tys' := [(k2, .byte)]) [0] rfl
    have hFc := va_free (wc := [(h1, .inr (9, mX9 h2 h3 v1)), (h2, zi k2 600 f2)]) hD hS hA [1, 2] rfl
    refine va_calli (va_runV (As := [.int r24_]) (rest := []) ⟨hx, hb, hml, hown, hG⟩ (sX9_at_0 l dC dI adK adV h1 h2 h3 k2 H.size v1 f2 r24_ hv1) (cwV 1 hG (zgV zv1032 zv641 zv642 zv130 zv643) rfl rfl rfl (by decide +kernel) ⟨Nat.le_of_ble_eq_true rfl, Nat.le_of_ble_eq_true rfl⟩) ⟨zPc_blind, va_recv hKc hPc (ci := 9) (q0 := 0) rfl rfl, zPc_pre hPc hKc hDc hE hS hFc hZ⟩ rfl rfl hl.1 rfl (lv_room (Nat.le_of_ble_eq_true rfl)) dX4_next_38 ⟨Nat.le_of_ble_eq_true rfl, Nat.le_of_ble_eq_true rfl⟩) hS (fun q _ h => hFc q h) hFc (fun r38_ u38_ t H1 locs ht hvm hw hB hz1 hk1 hS => ?_)
    replace hw : ((-1) ≤ r38_.toInt ∧ r38_.toInt ≤ 255) ∧ (0 ≤ r24_.toInt ∧ r24_.toInt < (v1 2).toInt → r38_.toInt = (f2 ((r24_ : Int32)).toNatClampNeg &&& 255).toInt) ∧ (r38_.toInt ≠ -1 → 0 ≤ r24_.toInt ∧ r24_.toInt < (v1 2).toInt ∧ r24_.toInt < 600) := hw
    obtain ⟨b_, hX38_0, hX38_1⟩ := hw
    obtain ⟨w38_, a38_, b38_, hP1, hK1, hD1⟩ := hB
    rw [ht] at hP1
    obtain ⟨hP, hD⟩ := va_join (wr := [(h0, .inr (4, mX4 h1 h4 h11 h18 (upd (upd (upd v0 4 (u1_ 0)) 5 r24_) 7 (u1_ 1))))]) (w1 := [(h1, .inr (9, mX9 h2 h3 v1)), (h2, zi k2 600 f2)]) hP hD [1, 2] [0] rfl rfl (by decide) (by decide) hk1 hFc hP1 hD1
    have hP : va_P (dC, dI) vwCl [(h0, .inr (4, mX4 h1 h4 h11 h18 (upd (upd (upd v0 4 (u1_ 0)) 5 r24_) 7 (u1_ 1)))), (h1, .inr (9, mX9 h2 h3 v1)), (h2, zi k2 600 f2)] H1 := hP.sub [0, 1, 2] rfl
    have hD : va_D A [(h0, .inr (4, mX4 h1 h4 h11 h18 (upd (upd (upd v0 4 (u1_ 0)) 5 r24_) 7 (u1_ 1)))), (h1, .inr (9, mX9 h2 h3 v1)), (h2, zi k2 600 f2)] := hD.sub [0, 1, 2] (by decide) rfl
    generalize H1 = H at hP hS ⊢
    clear hz1
    refine lv_istore_n (lv' := [(1, .int r38_), (0, .ref h0)]) hx hb dX4_next_41 rfl hl (by decide) rfl (fun ls hl => ?_)
    refine lv_aload_n hx hb dX4_next_42 rfl (lv_at hl 1 rfl) ?_
    refine lv_aload_n hx hb dX4_next_43 rfl (lv_at hl 1 rfl) ?_
    refine va_get (D := (dC, dI)) (ci := 4) (v := .int r24_) (C := RX4) (T := TX4) (N := 12) hx hb hG zuX4 hown hK hP 0 rfl rfl 5 (by decide) (hG _ zv413) (fun _ h9 => h9) rfl dX4_next_44 ?_
    refine lv_iconst (v := 1) hx hb dX4_next_47 (by decide) ?_
    refine lv_iadd hx hb dX4_next_48 ?_
    refine lv_topi (fun z48 e_z48 => ?_)
    have hz48 : Nat → 0 ≤ (v0 6).toInt → (v0 6).toInt ≤ 602 → z48.toInt = r24_.toInt + 1 := fun _ h1 h2 => by have z_ := hX24_0 (by omega); have z1_ := z_.1; have z2_ := z_.2.2.2; exact zadd rfl (by decide : (1 : Int32).toInt = 1) e_z48 (by omega) (by omega)
    refine va_put (D := (dC, dI)) (ci := 4) (v := .int z48) (ty := .int) (C := RX4) (T := TX4) (N := 12) hx hb hG zuX4 tyX4 tyX4_ok nmX4 hown hK hP hD hS 0 rfl rfl 6 (by decide) (hG _ zv414) (fun _ h9 => h9) rfl (by decide +kernel) rfl rfl (Nat.le_of_ble_eq_true rfl) dX4_next_49 (fun H locs hP hD hS => ?_)
    have hP : va_P (dC, dI) vwCl [(h0, .inr (4, mX4 h1 h4 h11 h18 (upd (upd (upd (upd v0 4 (u1_ 0)) 5 r24_) 6 z48) 7 (u1_ 1)))), (h1, .inr (9, mX9 h2 h3 v1)), (h2, zi k2 600 f2)] H := hP
    have hD : va_D A [(h0, .inr (4, mX4 h1 h4 h11 h18 (upd (upd (upd (upd v0 4 (u1_ 0)) 5 r24_) 6 z48) 7 (u1_ 1)))), (h1, .inr (9, mX9 h2 h3 v1)), (h2, zi k2 600 f2)] := hD
    refine lv_iload_n hx hb dX4_next_52 rfl (lv_at hl 0 rfl) ?_
    refine lv_iconst (v := (-1)) hx hb dX4_next_53 (by decide) ?_
    refine lv_icmp_ne (tgt := 67) hx hb dX4_next_54 (by decide) (fun c_ => ?_) (fun c_ => ?_)
    · skip
      have b_ := zT_ne rfl zk_m1 c_
      refine lv_aload_n hx hb dX4_next_67 rfl (lv_at hl 1 rfl) ?_
      refine va_get (D := (dC, dI)) (ci := 4) (v := .ref h1) (C := RX4) (T := TX4) (N := 12) hx hb hG zuX4 hown hK hP 0 rfl rfl 0 (by decide) (hG _ zv408) (fun _ h9 => h9) rfl dX4_next_68 ?_
      refine lv_aload_n hx hb dX4_next_71 rfl (lv_at hl 1 rfl) ?_
      refine va_get (D := (dC, dI)) (ci := 4) (v := .int r24_) (C := RX4) (T := TX4) (N := 12) hx hb hG zuX4 hown hK hP 0 rfl rfl 5 (by decide) (hG _ zv413) (fun _ h9 => h9) rfl dX4_next_72 ?_
      have hPc := hP.sub (ws' := [(h1, .inr (9, mX9 h2 h3 v1)), (h2, zi k2 600 f2)]) [1, 2] rfl
      have hDc := hD.sub (ws' := [(h1, .inr (9, mX9 h2 h3 v1)), (h2, zi k2 600 f2)]) [1, 2] (by decide) rfl
      have hKc := hK.sub (tys' := [(k2, .byte)]) [0] rfl
      have hFc := va_free (wc := [(h1, .inr (9, mX9 h2 h3 v1)), (h2, zi k2 600 f2)]) hD hS hA [1, 2] rfl
      refine va_calli (va_runV (As := [.int r24_]) (rest := []) ⟨hx, hb, hml, hown, hG⟩ (sX9_inToken_0 l dC dI adK adV h1 h2 h3 k2 H.size v1 f2 r24_ hv1) (cwV 1 hG (zgV zv1033 zv649 zv650 zv130 zv651) rfl rfl rfl (by decide +kernel) ⟨Nat.le_of_ble_eq_true rfl, Nat.le_of_ble_eq_true rfl⟩) ⟨zPc_blind, va_recv hKc hPc (ci := 9) (q0 := 0) rfl rfl, zPc_pre hPc hKc hDc hE hS hFc hZ⟩ rfl rfl hl.1 rfl (lv_room (Nat.le_of_ble_eq_true rfl)) dX4_next_75 ⟨Nat.le_of_ble_eq_true rfl, Nat.le_of_ble_eq_true rfl⟩) hS (fun q _ h => hFc q h) hFc (fun r75_ u75_ t H1 locs ht hvm hw hB hz1 hk1 hS => ?_)
      replace hw : (0 ≤ r75_.toInt ∧ r75_.toInt ≤ 1) ∧ (r75_.toInt = 1 → (0 ≤ r24_.toInt ∧ r24_.toInt ≤ 599)) ∧ (r75_.toInt = 1 → r24_.toInt < (v1 2).toInt) ∧ (r75_.toInt = 1 → zIn f2 (v1 2).toInt r24_.toInt) ∧ (r75_.toInt = 0 → ¬ zIn f2 (v1 2).toInt r24_.toInt) := hw
      obtain ⟨b_, hX75_0, hX75_1, hX75_2, hX75_3⟩ := hw
      obtain ⟨w75_, a75_, b75_, hP1, hK1, hD1⟩ := hB
      rw [ht] at hP1
      obtain ⟨hP, hD⟩ := va_join (wr := [(h0, .inr (4, mX4 h1 h4 h11 h18 (upd (upd (upd (upd v0 4 (u1_ 0)) 5 r24_) 6 z48) 7 (u1_ 1))))]) (w1 := [(h1, .inr (9, mX9 h2 h3 v1)), (h2, zi k2 600 f2)]) hP hD [1, 2] [0] rfl rfl (by decide) (by decide) hk1 hFc hP1 hD1
      have hP : va_P (dC, dI) vwCl [(h0, .inr (4, mX4 h1 h4 h11 h18 (upd (upd (upd (upd v0 4 (u1_ 0)) 5 r24_) 6 z48) 7 (u1_ 1)))), (h1, .inr (9, mX9 h2 h3 v1)), (h2, zi k2 600 f2)] H1 := hP.sub [0, 1, 2] rfl
      have hD : va_D A [(h0, .inr (4, mX4 h1 h4 h11 h18 (upd (upd (upd (upd v0 4 (u1_ 0)) 5 r24_) 6 z48) 7 (u1_ 1)))), (h1, .inr (9, mX9 h2 h3 v1)), (h2, zi k2 600 f2)] := hD.sub [0, 1, 2] (by decide) rfl
      generalize H1 = H at hP hS ⊢
      clear hz1
      refine lv_if_eq (tgt := 107) hx hb dX4_next_78 (by decide) (fun c_ => ?_) (fun c_ => ?_)
      · skip
        have b_ := zT_eq rfl zk_0 c_
        refine lv_iload_n hx hb dX4_next_107 rfl (lv_at hl 0 rfl) ?_
        refine lv_bipush (v := 46) hx hb dX4_next_108 (by decide) ?_
        refine lv_icmp_ne (tgt := 151) hx hb dX4_next_110 (by decide) (fun c_ => ?_) (fun c_ => ?_)
        · skip
          have b_ := zT_ne rfl zk_46 c_
          refine lv_aload_n hx hb dX4_next_151 rfl (lv_at hl 1 rfl) ?_
          refine lv_iload_n hx hb dX4_next_152 rfl (lv_at hl 0 rfl) ?_
          refine va_put (D := (dC, dI)) (ci := 4) (v := .int r38_) (ty := .int) (C := RX4) (T := TX4) (N := 12) hx hb hG zuX4 tyX4 tyX4_ok nmX4 hown hK hP hD hS 0 rfl rfl 4 (by decide) (hG _ zv412) (fun _ h9 => h9) rfl (by decide +kernel) rfl rfl (Nat.le_of_ble_eq_true rfl) dX4_next_153 (fun H locs hP hD hS => ?_)
          have hP : va_P (dC, dI) vwCl [(h0, .inr (4, mX4 h1 h4 h11 h18 (upd (upd (upd (upd v0 4 r38_) 5 r24_) 6 z48) 7 (u1_ 1)))), (h1, .inr (9, mX9 h2 h3 v1)), (h2, zi k2 600 f2)] H := hP
          have hD : va_D A [(h0, .inr (4, mX4 h1 h4 h11 h18 (upd (upd (upd (upd v0 4 r38_) 5 r24_) 6 z48) 7 (u1_ 1)))), (h1, .inr (9, mX9 h2 h3 v1)), (h2, zi k2 600 f2)] := hD
          refine W.widen (k := 0) (n := 0) (by decide) (by decide) ?_
          have b_ : -2147483648 ≤ z48.toInt ∧ z48.toInt ≤ 2147483647 := ⟨zlo _, zhi _⟩
          have b_ : -2147483648 ≤ (u1_ 1).toInt ∧ (u1_ 1).toInt ≤ 2147483647 := ⟨zlo _, zhi _⟩
          have hpost : (0 ≤ r38_.toInt ∧ r38_.toInt ≤ 265) ∧ ((v0 4).toInt = 265 ∨ (v0 8).toInt ≠ -1 → r38_.toInt = 265) ∧ ((v0 8).toInt = -1 → (u1_ 1).toInt = (v0 7).toInt) ∧ ((v0 7).toInt ≠ 0 → (u1_ 1).toInt = (v0 7).toInt) ∧ ((v0 8).toInt ≠ -1 → (v0 7).toInt = 0 → 0 ≤ (v0 8).toInt → (v0 8).toInt ≤ 700 → (u1_ 1).toInt ≠ 0) ∧ (zqTy f2 (v1 2).toInt → 0 ≤ (v0 6).toInt → (v0 6).toInt ≤ 602 → (v0 4).toInt ≠ 265 ∧ (v0 8).toInt = -1 → zBl f2 (v1 2).toInt (v0 6).toInt r24_.toInt ∧ zLk f2 (v1 2).toInt r24_.toInt r38_.toInt z48.toInt) := ⟨(by first | with_reducible assumption | exact ⟨by omega, by omega⟩), by first | omega | (have h7_ := hX1_0 0; have h8_ := hX1_2 0; have h9_ := hX1_3 0; omega), by first | omega | (have h7_ := hX1_0 0; have h8_ := hX1_2 0; have h9_ := hX1_3 0; omega), by first | omega | (have h7_ := hX1_0 0; have h8_ := hX1_2 0; have h9_ := hX1_3 0; omega), by first | omega | (have h7_ := hX1_0 0; have h8_ := hX1_2 0; have h9_ := hX1_3 0; omega), by (intro tb_ p_ q_ g_; first | (exfalso; omega) | (have z_ := hX24_0 (by omega); have z1_ := z_.1; have z2_ := z_.2.2.2; have z3_ := hz48 0 p_ q_; first | exact ⟨z_, Or.inl ⟨zat_n hX38_0 (by omega) (by omega), by first | omega | decide, by omega⟩⟩ | exact ⟨z_, Or.inr (Or.inl ⟨by have t_ := hX75_2 (by omega); exact t_.2.1, by have t_ := hX75_2 (by omega); exact t_.2.2, _, hX90_2 (by omega), hX98_0 tb_ (by have t_ := hX75_2 (by omega); exact t_.2.1) (hX90_2 (by omega))⟩)⟩ | exact ⟨z_, Or.inr (Or.inr (Or.inl ⟨by omega, fun t_ => hX75_3 (by omega) ⟨by omega, by omega, t_⟩, zDd_y tb_ hX38_0 hX123_0 (by omega) (by omega) (by omega) (by omega) (by omega) (by omega), by first | omega | decide, by omega⟩))⟩ | exact ⟨z_, Or.inr (Or.inr (Or.inr ⟨by omega, fun t_ => hX75_3 (by omega) ⟨by omega, by omega, t_⟩, zDd_a hX38_0 (by omega) (by omega) (by omega), zat_m hX38_0 (by omega) (by omega), by omega⟩))⟩ | exact ⟨z_, Or.inr (Or.inr (Or.inr ⟨by omega, fun t_ => hX75_3 (by omega) ⟨by omega, by omega, t_⟩, zDd_b hX123_0 (by omega) (by omega) (by omega), zat_m hX38_0 (by omega) (by omega), by omega⟩))⟩))⟩
          have hP9 : va_P (dC, dI) vwCl [(h0, .inr (4, mX4 h1 h4 h11 h18 (upd (upd (upd (upd v0 4 r38_) 5 r24_) 6 z48) 7 (u1_ 1)))), (h1, .inr (9, mX9 h2 h3 v1)), (h2, zi k2 600 f2)] H := hP
          have hD9 : va_D A [(h0, .inr (4, mX4 h1 h4 h11 h18 (upd (upd (upd (upd v0 4 r38_) 5 r24_) 6 z48) 7 (u1_ 1)))), (h1, .inr (9, mX9 h2 h3 v1)), (h2, zi k2 600 f2)] := hD
          exact W.vret hx hb hr (fun t ht hW => ⟨⟨(fun i => ([r38_, r24_, z48, (u1_ 1)] : List (Int32)).getD i 0), rfl, hpost, (fun _ => 0), (fun _ => (fun _ => 0)), (fun _ => (fun _ => 0)), by rw [ht]; exact hP9, va_K.moved hW.alike hK, hD9⟩, hS.F ht⟩) hS.2.2 dX4_next_156
        · skip
          have b_ := zF_ne rfl zk_46 c_
          have b_ := hX38_1 (by omega)
          have b_ : 0 ≤ r24_.toInt ∧ r24_.toInt ≤ 599 := ⟨by omega, by omega⟩
          refine lv_aload_n hx hb dX4_next_113 rfl (lv_at hl 1 rfl) ?_
          refine va_get (D := (dC, dI)) (ci := 4) (v := .ref h1) (C := RX4) (T := TX4) (N := 12) hx hb hG zuX4 hown hK hP 0 rfl rfl 0 (by decide) (hG _ zv408) (fun _ h9 => h9) rfl dX4_next_114 ?_
          refine lv_aload_n hx hb dX4_next_117 rfl (lv_at hl 1 rfl) ?_
          refine va_get (D := (dC, dI)) (ci := 4) (v := .int r24_) (C := RX4) (T := TX4) (N := 12) hx hb hG zuX4 hown hK hP 0 rfl rfl 5 (by decide) (hG _ zv413) (fun _ h9 => h9) rfl dX4_next_118 ?_
          refine lv_iconst (v := 1) hx hb dX4_next_121 (by decide) ?_
          refine lv_iadd hx hb dX4_next_122 ?_
          refine lv_topi (fun z122 e_z122 => ?_)
          have b_ := zadd rfl zk_1 e_z122 (by omega) (by omega)
          have hPc := hP.sub (ws' := [(h1, .inr (9, mX9 h2 h3 v1)), (h2, zi k2 600 f2)]) [1, 2] rfl
          have hDc := hD.sub (ws' := [(h1, .inr (9, mX9 h2 h3 v1)), (h2, zi k2 600 f2)]) [1, 2] (by decide) rfl
          have hKc := hK.sub (tys' := [(k2, .byte)]) [0] rfl
          have hFc := va_free (wc := [(h1, .inr (9, mX9 h2 h3 v1)), (h2, zi k2 600 f2)]) hD hS hA [1, 2] rfl
          refine va_calli (va_runV (As := [.int z122]) (rest := []) ⟨hx, hb, hml, hown, hG⟩ (sX9_at_0 l dC dI adK adV h1 h2 h3 k2 H.size v1 f2 z122 hv1) (cwV 1 hG (zgV zv1032 zv641 zv642 zv130 zv643) rfl rfl rfl (by decide +kernel) ⟨Nat.le_of_ble_eq_true rfl, Nat.le_of_ble_eq_true rfl⟩) ⟨zPc_blind, va_recv hKc hPc (ci := 9) (q0 := 0) rfl rfl, zPc_pre hPc hKc hDc hE hS hFc hZ⟩ rfl rfl hl.1 rfl (lv_room (Nat.le_of_ble_eq_true rfl)) dX4_next_123 ⟨Nat.le_of_ble_eq_true rfl, Nat.le_of_ble_eq_true rfl⟩) hS (fun q _ h => hFc q h) hFc (fun r123_ u123_ t H1 locs ht hvm hw hB hz1 hk1 hS => ?_)
          replace hw : ((-1) ≤ r123_.toInt ∧ r123_.toInt ≤ 255) ∧ (0 ≤ z122.toInt ∧ z122.toInt < (v1 2).toInt → r123_.toInt = (f2 ((z122 : Int32)).toNatClampNeg &&& 255).toInt) ∧ (r123_.toInt ≠ -1 → 0 ≤ z122.toInt ∧ z122.toInt < (v1 2).toInt ∧ z122.toInt < 600) := hw
          obtain ⟨b_, hX123_0, hX123_1⟩ := hw
          obtain ⟨w123_, a123_, b123_, hP1, hK1, hD1⟩ := hB
          rw [ht] at hP1
          obtain ⟨hP, hD⟩ := va_join (wr := [(h0, .inr (4, mX4 h1 h4 h11 h18 (upd (upd (upd (upd v0 4 (u1_ 0)) 5 r24_) 6 z48) 7 (u1_ 1))))]) (w1 := [(h1, .inr (9, mX9 h2 h3 v1)), (h2, zi k2 600 f2)]) hP hD [1, 2] [0] rfl rfl (by decide) (by decide) hk1 hFc hP1 hD1
          have hP : va_P (dC, dI) vwCl [(h0, .inr (4, mX4 h1 h4 h11 h18 (upd (upd (upd (upd v0 4 (u1_ 0)) 5 r24_) 6 z48) 7 (u1_ 1)))), (h1, .inr (9, mX9 h2 h3 v1)), (h2, zi k2 600 f2)] H1 := hP.sub [0, 1, 2] rfl
          have hD : va_D A [(h0, .inr (4, mX4 h1 h4 h11 h18 (upd (upd (upd (upd v0 4 (u1_ 0)) 5 r24_) 6 z48) 7 (u1_ 1)))), (h1, .inr (9, mX9 h2 h3 v1)), (h2, zi k2 600 f2)] := hD.sub [0, 1, 2] (by decide) rfl
          generalize H1 = H at hP hS ⊢
          clear hz1
          refine lv_bipush (v := 46) hx hb dX4_next_126 (by decide) ?_
          refine lv_icmp_ne (tgt := 151) hx hb dX4_next_128 (by decide) (fun c_ => ?_) (fun c_ => ?_)
          · skip
            have b_ := zT_ne rfl zk_46 c_
            refine lv_aload_n hx hb dX4_next_151 rfl (lv_at hl 1 rfl) ?_
            refine lv_iload_n hx hb dX4_next_152 rfl (lv_at hl 0 rfl) ?_
            refine va_put (D := (dC, dI)) (ci := 4) (v := .int r38_) (ty := .int) (C := RX4) (T := TX4) (N := 12) hx hb hG zuX4 tyX4 tyX4_ok nmX4 hown hK hP hD hS 0 rfl rfl 4 (by decide) (hG _ zv412) (fun _ h9 => h9) rfl (by decide +kernel) rfl rfl (Nat.le_of_ble_eq_true rfl) dX4_next_153 (fun H locs hP hD hS => ?_)
            have hP : va_P (dC, dI) vwCl [(h0, .inr (4, mX4 h1 h4 h11 h18 (upd (upd (upd (upd v0 4 r38_) 5 r24_) 6 z48) 7 (u1_ 1)))), (h1, .inr (9, mX9 h2 h3 v1)), (h2, zi k2 600 f2)] H := hP
            have hD : va_D A [(h0, .inr (4, mX4 h1 h4 h11 h18 (upd (upd (upd (upd v0 4 r38_) 5 r24_) 6 z48) 7 (u1_ 1)))), (h1, .inr (9, mX9 h2 h3 v1)), (h2, zi k2 600 f2)] := hD
            refine W.widen (k := 0) (n := 0) (by decide) (by decide) ?_
            have b_ : -2147483648 ≤ z48.toInt ∧ z48.toInt ≤ 2147483647 := ⟨zlo _, zhi _⟩
            have b_ : -2147483648 ≤ (u1_ 1).toInt ∧ (u1_ 1).toInt ≤ 2147483647 := ⟨zlo _, zhi _⟩
            have hpost : (0 ≤ r38_.toInt ∧ r38_.toInt ≤ 265) ∧ ((v0 4).toInt = 265 ∨ (v0 8).toInt ≠ -1 → r38_.toInt = 265) ∧ ((v0 8).toInt = -1 → (u1_ 1).toInt = (v0 7).toInt) ∧ ((v0 7).toInt ≠ 0 → (u1_ 1).toInt = (v0 7).toInt) ∧ ((v0 8).toInt ≠ -1 → (v0 7).toInt = 0 → 0 ≤ (v0 8).toInt → (v0 8).toInt ≤ 700 → (u1_ 1).toInt ≠ 0) ∧ (zqTy f2 (v1 2).toInt → 0 ≤ (v0 6).toInt → (v0 6).toInt ≤ 602 → (v0 4).toInt ≠ 265 ∧ (v0 8).toInt = -1 → zBl f2 (v1 2).toInt (v0 6).toInt r24_.toInt ∧ zLk f2 (v1 2).toInt r24_.toInt r38_.toInt z48.toInt) := ⟨(by first | with_reducible assumption | exact ⟨by omega, by omega⟩), by first | omega | (have h7_ := hX1_0 0; have h8_ := hX1_2 0; have h9_ := hX1_3 0; omega), by first | omega | (have h7_ := hX1_0 0; have h8_ := hX1_2 0; have h9_ := hX1_3 0; omega), by first | omega | (have h7_ := hX1_0 0; have h8_ := hX1_2 0; have h9_ := hX1_3 0; omega), by first | omega | (have h7_ := hX1_0 0; have h8_ := hX1_2 0; have h9_ := hX1_3 0; omega), by (intro tb_ p_ q_ g_; first | (exfalso; omega) | (have z_ := hX24_0 (by omega); have z1_ := z_.1; have z2_ := z_.2.2.2; have z3_ := hz48 0 p_ q_; first | exact ⟨z_, Or.inl ⟨zat_n hX38_0 (by omega) (by omega), by first | omega | decide, by omega⟩⟩ | exact ⟨z_, Or.inr (Or.inl ⟨by have t_ := hX75_2 (by omega); exact t_.2.1, by have t_ := hX75_2 (by omega); exact t_.2.2, _, hX90_2 (by omega), hX98_0 tb_ (by have t_ := hX75_2 (by omega); exact t_.2.1) (hX90_2 (by omega))⟩)⟩ | exact ⟨z_, Or.inr (Or.inr (Or.inl ⟨by omega, fun t_ => hX75_3 (by omega) ⟨by omega, by omega, t_⟩, zDd_y tb_ hX38_0 hX123_0 (by omega) (by omega) (by omega) (by omega) (by omega) (by omega), by first | omega | decide, by omega⟩))⟩ | exact ⟨z_, Or.inr (Or.inr (Or.inr ⟨by omega, fun t_ => hX75_3 (by omega) ⟨by omega, by omega, t_⟩, zDd_a hX38_0 (by omega) (by omega) (by omega), zat_m hX38_0 (by omega) (by omega), by omega⟩))⟩ | exact ⟨z_, Or.inr (Or.inr (Or.inr ⟨by omega, fun t_ => hX75_3 (by omega) ⟨by omega, by omega, t_⟩, zDd_b hX123_0 (by omega) (by omega) (by omega), zat_m hX38_0 (by omega) (by omega), by omega⟩))⟩))⟩
            have hP9 : va_P (dC, dI) vwCl [(h0, .inr (4, mX4 h1 h4 h11 h18 (upd (upd (upd (upd v0 4 r38_) 5 r24_) 6 z48) 7 (u1_ 1)))), (h1, .inr (9, mX9 h2 h3 v1)), (h2, zi k2 600 f2)] H := hP
            have hD9 : va_D A [(h0, .inr (4, mX4 h1 h4 h11 h18 (upd (upd (upd (upd v0 4 r38_) 5 r24_) 6 z48) 7 (u1_ 1)))), (h1, .inr (9, mX9 h2 h3 v1)), (h2, zi k2 600 f2)] := hD
            exact W.vret hx hb hr (fun t ht hW => ⟨⟨(fun i => ([r38_, r24_, z48, (u1_ 1)] : List (Int32)).getD i 0), rfl, hpost, (fun _ => 0), (fun _ => (fun _ => 0)), (fun _ => (fun _ => 0)), by rw [ht]; exact hP9, va_K.moved hW.alike hK, hD9⟩, hS.F ht⟩) hS.2.2 dX4_next_156
          · skip
            have b_ := zF_ne rfl zk_46 c_
            refine lv_aload_n hx hb dX4_next_131 rfl (lv_at hl 1 rfl) ?_
            refine lv_aload_n hx hb dX4_next_132 rfl (lv_at hl 1 rfl) ?_
            refine va_get (D := (dC, dI)) (ci := 4) (v := .int r24_) (C := RX4) (T := TX4) (N := 12) hx hb hG zuX4 hown hK hP 0 rfl rfl 5 (by decide) (hG _ zv413) (fun _ h9 => h9) rfl dX4_next_133 ?_
            refine lv_iconst (v := 2) hx hb dX4_next_136 (by decide) ?_
            refine lv_iadd hx hb dX4_next_137 ?_
            refine lv_topi (fun z137 e_z137 => ?_)
            have b_ := zadd rfl zk_2 e_z137 (by omega) (by omega)
            refine va_put (D := (dC, dI)) (ci := 4) (v := .int z137) (ty := .int) (C := RX4) (T := TX4) (N := 12) hx hb hG zuX4 tyX4 tyX4_ok nmX4 hown hK hP hD hS 0 rfl rfl 6 (by decide) (hG _ zv414) (fun _ h9 => h9) rfl (by decide +kernel) rfl rfl (Nat.le_of_ble_eq_true rfl) dX4_next_138 (fun H locs hP hD hS => ?_)
            have hP : va_P (dC, dI) vwCl [(h0, .inr (4, mX4 h1 h4 h11 h18 (upd (upd (upd (upd v0 4 (u1_ 0)) 5 r24_) 6 z137) 7 (u1_ 1)))), (h1, .inr (9, mX9 h2 h3 v1)), (h2, zi k2 600 f2)] H := hP
            have hD : va_D A [(h0, .inr (4, mX4 h1 h4 h11 h18 (upd (upd (upd (upd v0 4 (u1_ 0)) 5 r24_) 6 z137) 7 (u1_ 1)))), (h1, .inr (9, mX9 h2 h3 v1)), (h2, zi k2 600 f2)] := hD
            refine lv_aload_n hx hb dX4_next_141 rfl (lv_at hl 1 rfl) ?_
            refine lv_sipush (v := 264) hx hb dX4_next_142 (by decide) ?_
            refine va_put (D := (dC, dI)) (ci := 4) (v := .int 264) (ty := .int) (C := RX4) (T := TX4) (N := 12) hx hb hG zuX4 tyX4 tyX4_ok nmX4 hown hK hP hD hS 0 rfl rfl 4 (by decide) (hG _ zv412) (fun _ h9 => h9) rfl (by decide +kernel) rfl rfl (Nat.le_of_ble_eq_true rfl) dX4_next_145 (fun H locs hP hD hS => ?_)
            have hP : va_P (dC, dI) vwCl [(h0, .inr (4, mX4 h1 h4 h11 h18 (upd (upd (upd (upd v0 4 264) 5 r24_) 6 z137) 7 (u1_ 1)))), (h1, .inr (9, mX9 h2 h3 v1)), (h2, zi k2 600 f2)] H := hP
            have hD : va_D A [(h0, .inr (4, mX4 h1 h4 h11 h18 (upd (upd (upd (upd v0 4 264) 5 r24_) 6 z137) 7 (u1_ 1)))), (h1, .inr (9, mX9 h2 h3 v1)), (h2, zi k2 600 f2)] := hD
            refine lv_goto (tgt := 156) hx hb dX4_next_148 (by decide) ?_
            refine W.widen (k := 0) (n := 0) (by decide) (by decide) ?_
            have b_ : -2147483648 ≤ (u1_ 1).toInt ∧ (u1_ 1).toInt ≤ 2147483647 := ⟨zlo _, zhi _⟩
            have hpost : (0 ≤ (264 : Int32).toInt ∧ (264 : Int32).toInt ≤ 265) ∧ ((v0 4).toInt = 265 ∨ (v0 8).toInt ≠ -1 → (264 : Int32).toInt = 265) ∧ ((v0 8).toInt = -1 → (u1_ 1).toInt = (v0 7).toInt) ∧ ((v0 7).toInt ≠ 0 → (u1_ 1).toInt = (v0 7).toInt) ∧ ((v0 8).toInt ≠ -1 → (v0 7).toInt = 0 → 0 ≤ (v0 8).toInt → (v0 8).toInt ≤ 700 → (u1_ 1).toInt ≠ 0) ∧ (zqTy f2 (v1 2).toInt → 0 ≤ (v0 6).toInt → (v0 6).toInt ≤ 602 → (v0 4).toInt ≠ 265 ∧ (v0 8).toInt = -1 → zBl f2 (v1 2).toInt (v0 6).toInt r24_.toInt ∧ zLk f2 (v1 2).toInt r24_.toInt (264 : Int32).toInt z137.toInt) := ⟨(by first | with_reducible assumption | exact ⟨by omega, by omega⟩), by first | omega | (have h7_ := hX1_0 0; have h8_ := hX1_2 0; have h9_ := hX1_3 0; omega), by first | omega | (have h7_ := hX1_0 0; have h8_ := hX1_2 0; have h9_ := hX1_3 0; omega), by first | omega | (have h7_ := hX1_0 0; have h8_ := hX1_2 0; have h9_ := hX1_3 0; omega), by first | omega | (have h7_ := hX1_0 0; have h8_ := hX1_2 0; have h9_ := hX1_3 0; omega), by (intro tb_ p_ q_ g_; first | (exfalso; omega) | (have z_ := hX24_0 (by omega); have z1_ := z_.1; have z2_ := z_.2.2.2; have z3_ := hz48 0 p_ q_; first | exact ⟨z_, Or.inl ⟨zat_n hX38_0 (by omega) (by omega), by first | omega | decide, by omega⟩⟩ | exact ⟨z_, Or.inr (Or.inl ⟨by have t_ := hX75_2 (by omega); exact t_.2.1, by have t_ := hX75_2 (by omega); exact t_.2.2, _, hX90_2 (by omega), hX98_0 tb_ (by have t_ := hX75_2 (by omega); exact t_.2.1) (hX90_2 (by omega))⟩)⟩ | exact ⟨z_, Or.inr (Or.inr (Or.inl ⟨by omega, fun t_ => hX75_3 (by omega) ⟨by omega, by omega, t_⟩, zDd_y tb_ hX38_0 hX123_0 (by omega) (by omega) (by omega) (by omega) (by omega) (by omega), by first | omega | decide, by omega⟩))⟩ | exact ⟨z_, Or.inr (Or.inr (Or.inr ⟨by omega, fun t_ => hX75_3 (by omega) ⟨by omega, by omega, t_⟩, zDd_a hX38_0 (by omega) (by omega) (by omega), zat_m hX38_0 (by omega) (by omega), by omega⟩))⟩ | exact ⟨z_, Or.inr (Or.inr (Or.inr ⟨by omega, fun t_ => hX75_3 (by omega) ⟨by omega, by omega, t_⟩, zDd_b hX123_0 (by omega) (by omega) (by omega), zat_m hX38_0 (by omega) (by omega), by omega⟩))⟩))⟩
            have hP9 : va_P (dC, dI) vwCl [(h0, .inr (4, mX4 h1 h4 h11 h18 (upd (upd (upd (upd v0 4 264) 5 r24_) 6 z137) 7 (u1_ 1)))), (h1, .inr (9, mX9 h2 h3 v1)), (h2, zi k2 600 f2)] H := hP
            have hD9 : va_D A [(h0, .inr (4, mX4 h1 h4 h11 h18 (upd (upd (upd (upd v0 4 264) 5 r24_) 6 z137) 7 (u1_ 1)))), (h1, .inr (9, mX9 h2 h3 v1)), (h2, zi k2 600 f2)] := hD
            exact W.vret hx hb hr (fun t ht hW => ⟨⟨(fun i => ([264, r24_, z137, (u1_ 1)] : List (Int32)).getD i 0), rfl, hpost, (fun _ => 0), (fun _ => (fun _ => 0)), (fun _ => (fun _ => 0)), by rw [ht]; exact hP9, va_K.moved hW.alike hK, hD9⟩, hS.F ht⟩) hS.2.2 dX4_next_156
      · skip
        have b_ := zF_eq rfl zk_0 c_
        refine lv_aload_n hx hb dX4_next_81 rfl (lv_at hl 1 rfl) ?_
        refine lv_aload_n hx hb dX4_next_82 rfl (lv_at hl 1 rfl) ?_
        refine va_get (D := (dC, dI)) (ci := 4) (v := .ref h1) (C := RX4) (T := TX4) (N := 12) hx hb hG zuX4 hown hK hP 0 rfl rfl 0 (by decide) (hG _ zv408) (fun _ h9 => h9) rfl dX4_next_83 ?_
        refine lv_aload_n hx hb dX4_next_86 rfl (lv_at hl 1 rfl) ?_
        refine va_get (D := (dC, dI)) (ci := 4) (v := .int r24_) (C := RX4) (T := TX4) (N := 12) hx hb hG zuX4 hown hK hP 0 rfl rfl 5 (by decide) (hG _ zv413) (fun _ h9 => h9) rfl dX4_next_87 ?_
        have hPc := hP.sub (ws' := [(h1, .inr (9, mX9 h2 h3 v1)), (h2, zi k2 600 f2)]) [1, 2] rfl
        have hDc := hD.sub (ws' := [(h1, .inr (9, mX9 h2 h3 v1)), (h2, zi k2 600 f2)]) [1, 2] (by decide) rfl
        have hKc := hK.sub (tys' := [(k2, .byte)]) [0] rfl
        have hFc := va_free (wc := [(h1, .inr (9, mX9 h2 h3 v1)), (h2, zi k2 600 f2)]) hD hS hA [1, 2] rfl
        refine va_calli (va_runV (As := [.int r24_]) (rest := [.ref h0]) ⟨hx, hb, hml, hown, hG⟩ (sX9_tokenEnd_0 l dC dI adK adV h1 h2 h3 k2 H.size v1 f2 r24_ hv1) (cwV 1 hG (zgV zv1034 zv1035 zv1036 zv130 zv1037) rfl rfl rfl (by decide +kernel) ⟨Nat.le_of_ble_eq_true rfl, Nat.le_of_ble_eq_true rfl⟩) ⟨zPc_blind, va_recv hKc hPc (ci := 9) (q0 := 0) rfl rfl, zPc_pre hPc hKc hDc hE hS hFc hZ⟩ rfl rfl hl.1 rfl (lv_room (Nat.le_of_ble_eq_true rfl)) dX4_next_90 ⟨Nat.le_of_ble_eq_true rfl, Nat.le_of_ble_eq_true rfl⟩) hS (fun q _ h => hFc q h) hFc (fun r90_ u90_ t H1 locs ht hvm hw hB hz1 hk1 hS => ?_)
        replace hw : (r24_.toInt ≤ r90_.toInt) ∧ (r24_.toInt ≤ 600 → r90_.toInt ≤ 600) ∧ (0 ≤ r24_.toInt → zqRe f2 (v1 2).toInt r24_.toInt r90_.toInt) := hw
        obtain ⟨hX90_0, hX90_1, hX90_2⟩ := hw
        obtain ⟨w90_, a90_, b90_, hP1, hK1, hD1⟩ := hB
        rw [ht] at hP1
        obtain ⟨hP, hD⟩ := va_join (wr := [(h0, .inr (4, mX4 h1 h4 h11 h18 (upd (upd (upd (upd v0 4 (u1_ 0)) 5 r24_) 6 z48) 7 (u1_ 1))))]) (w1 := [(h1, .inr (9, mX9 h2 h3 v1)), (h2, zi k2 600 f2)]) hP hD [1, 2] [0] rfl rfl (by decide) (by decide) hk1 hFc hP1 hD1
        have hP : va_P (dC, dI) vwCl [(h0, .inr (4, mX4 h1 h4 h11 h18 (upd (upd (upd (upd v0 4 (u1_ 0)) 5 r24_) 6 z48) 7 (u1_ 1)))), (h1, .inr (9, mX9 h2 h3 v1)), (h2, zi k2 600 f2)] H1 := hP.sub [0, 1, 2] rfl
        have hD : va_D A [(h0, .inr (4, mX4 h1 h4 h11 h18 (upd (upd (upd (upd v0 4 (u1_ 0)) 5 r24_) 6 z48) 7 (u1_ 1)))), (h1, .inr (9, mX9 h2 h3 v1)), (h2, zi k2 600 f2)] := hD.sub [0, 1, 2] (by decide) rfl
        generalize H1 = H at hP hS ⊢
        clear hz1
        refine va_put (D := (dC, dI)) (ci := 4) (v := .int r90_) (ty := .int) (C := RX4) (T := TX4) (N := 12) hx hb hG zuX4 tyX4 tyX4_ok nmX4 hown hK hP hD hS 0 rfl rfl 6 (by decide) (hG _ zv414) (fun _ h9 => h9) rfl (by decide +kernel) rfl rfl (Nat.le_of_ble_eq_true rfl) dX4_next_93 (fun H locs hP hD hS => ?_)
        have hP : va_P (dC, dI) vwCl [(h0, .inr (4, mX4 h1 h4 h11 h18 (upd (upd (upd (upd v0 4 (u1_ 0)) 5 r24_) 6 r90_) 7 (u1_ 1)))), (h1, .inr (9, mX9 h2 h3 v1)), (h2, zi k2 600 f2)] H := hP
        have hD : va_D A [(h0, .inr (4, mX4 h1 h4 h11 h18 (upd (upd (upd (upd v0 4 (u1_ 0)) 5 r24_) 6 r90_) 7 (u1_ 1)))), (h1, .inr (9, mX9 h2 h3 v1)), (h2, zi k2 600 f2)] := hD
        refine lv_aload_n hx hb dX4_next_96 rfl (lv_at hl 1 rfl) ?_
        refine lv_aload_n hx hb dX4_next_97 rfl (lv_at hl 1 rfl) ?_
        have b_ : -2147483648 ≤ (u1_ 1).toInt ∧ (u1_ 1).toInt ≤ 2147483647 := ⟨zlo _, zhi _⟩
        have b_ : -2147483648 ≤ r90_.toInt ∧ r90_.toInt ≤ 2147483647 := ⟨zlo _, zhi _⟩
        have hPc := hP.sub (ws' := [(h0, .inr (4, mX4 h1 h4 h11 h18 (upd (upd (upd (upd v0 4 (u1_ 0)) 5 r24_) 6 r90_) 7 (u1_ 1)))), (h1, .inr (9, mX9 h2 h3 v1)), (h2, zi k2 600 f2)]) [0, 1, 2] rfl
        have hDc := hD.sub (ws' := [(h0, .inr (4, mX4 h1 h4 h11 h18 (upd (upd (upd (upd v0 4 (u1_ 0)) 5 r24_) 6 r90_) 7 (u1_ 1)))), (h1, .inr (9, mX9 h2 h3 v1)), (h2, zi k2 600 f2)]) [0, 1, 2] (by decide) rfl
        have hKc := hK.sub (tys' := [(k2, .byte)]) [0] rfl
        have hFc := va_free (wc := [(h0, .inr (4, mX4 h1 h4 h11 h18 (upd (upd (upd (upd v0 4 (u1_ 0)) 5 r24_) 6 r90_) 7 (u1_ 1)))), (h1, .inr (9, mX9 h2 h3 v1)), (h2, zi k2 600 f2)]) hD hS hA [0, 1, 2] rfl
        refine va_calli (va_runV (As := []) (rest := [.ref h0]) ⟨hx, hb, hml, hown, hG⟩ (sX4_sortOfRun_0 l dC dI adK adV h0 h1 h2 h4 h11 h18 h3 k2 H.size (upd (upd (upd (upd v0 4 (u1_ 0)) 5 r24_) 6 r90_) 7 (u1_ 1)) v1 f2 (zR_updF (zR_updF (zR_updF (zR_updF hv0 4 rfl) 5 rfl) 6 rfl) 7 rfl) hv1 (show 0 ≤ r24_.toInt ∧ r24_.toInt ≤ 599 ∧ 0 ≤ r90_.toInt ∧ r90_.toInt ≤ 601 from by omega)) (cwV 0 hG (zgV zv1038 zv1040 zv14 zv137 zv1041) rfl rfl rfl (by decide +kernel) ⟨Nat.le_of_ble_eq_true rfl, Nat.le_of_ble_eq_true rfl⟩) ⟨zPc_blind, va_recv hKc hPc (ci := 4) (q0 := 0) rfl rfl, zPc_pre hPc hKc hDc hE hS hFc hZ⟩ rfl rfl hl.1 rfl (lv_room (Nat.le_of_ble_eq_true rfl)) dX4_next_98 ⟨Nat.le_of_ble_eq_true rfl, Nat.le_of_ble_eq_true rfl⟩) hS (fun q _ h => hFc q h) hFc (fun r98_ u98_ t H1 locs ht hvm hw hB hz1 hk1 hS => ?_)
        replace hw : (257 ≤ r98_.toInt ∧ r98_.toInt ≤ 263) ∧ (zqTy f2 (v1 2).toInt → r24_.toInt < (v1 2).toInt → zqRe f2 (v1 2).toInt r24_.toInt r90_.toInt → zKw f2 (v1 2).toInt r24_.toInt r90_.toInt r98_.toInt (u98_ 0).toInt) := hw
        obtain ⟨b_, hX98_0⟩ := hw
        obtain ⟨w98_, a98_, b98_, hP1, hK1, hD1⟩ := hB
        rw [ht] at hP1
        obtain ⟨hP, hD⟩ := va_join (wr := []) (w1 := [(h0, .inr (4, mX4 h1 h4 h11 h18 (upd (upd (upd (upd v0 4 (u1_ 0)) 5 r24_) 6 (u98_ 0)) 7 (u1_ 1)))), (h1, .inr (9, mX9 h2 h3 v1)), (h2, zi k2 600 f2)]) hP hD [0, 1, 2] [] rfl rfl (by decide) (by decide) hk1 hFc hP1 hD1
        have hP : va_P (dC, dI) vwCl [(h0, .inr (4, mX4 h1 h4 h11 h18 (upd (upd (upd (upd v0 4 (u1_ 0)) 5 r24_) 6 (u98_ 0)) 7 (u1_ 1)))), (h1, .inr (9, mX9 h2 h3 v1)), (h2, zi k2 600 f2)] H1 := hP.sub [0, 1, 2] rfl
        have hD : va_D A [(h0, .inr (4, mX4 h1 h4 h11 h18 (upd (upd (upd (upd v0 4 (u1_ 0)) 5 r24_) 6 (u98_ 0)) 7 (u1_ 1)))), (h1, .inr (9, mX9 h2 h3 v1)), (h2, zi k2 600 f2)] := hD.sub [0, 1, 2] (by decide) rfl
        generalize H1 = H at hP hS ⊢
        clear hz1
        refine va_put (D := (dC, dI)) (ci := 4) (v := .int r98_) (ty := .int) (C := RX4) (T := TX4) (N := 12) hx hb hG zuX4 tyX4 tyX4_ok nmX4 hown hK hP hD hS 0 rfl rfl 4 (by decide) (hG _ zv412) (fun _ h9 => h9) rfl (by decide +kernel) rfl rfl (Nat.le_of_ble_eq_true rfl) dX4_next_101 (fun H locs hP hD hS => ?_)
        have hP : va_P (dC, dI) vwCl [(h0, .inr (4, mX4 h1 h4 h11 h18 (upd (upd (upd (upd v0 4 r98_) 5 r24_) 6 (u98_ 0)) 7 (u1_ 1)))), (h1, .inr (9, mX9 h2 h3 v1)), (h2, zi k2 600 f2)] H := hP
        have hD : va_D A [(h0, .inr (4, mX4 h1 h4 h11 h18 (upd (upd (upd (upd v0 4 r98_) 5 r24_) 6 (u98_ 0)) 7 (u1_ 1)))), (h1, .inr (9, mX9 h2 h3 v1)), (h2, zi k2 600 f2)] := hD
        refine lv_goto (tgt := 156) hx hb dX4_next_104 (by decide) ?_
        refine W.widen (k := 0) (n := 0) (by decide) (by decide) ?_
        have b_ : -2147483648 ≤ (u98_ 0).toInt ∧ (u98_ 0).toInt ≤ 2147483647 := ⟨zlo _, zhi _⟩
        have hpost : (0 ≤ r98_.toInt ∧ r98_.toInt ≤ 265) ∧ ((v0 4).toInt = 265 ∨ (v0 8).toInt ≠ -1 → r98_.toInt = 265) ∧ ((v0 8).toInt = -1 → (u1_ 1).toInt = (v0 7).toInt) ∧ ((v0 7).toInt ≠ 0 → (u1_ 1).toInt = (v0 7).toInt) ∧ ((v0 8).toInt ≠ -1 → (v0 7).toInt = 0 → 0 ≤ (v0 8).toInt → (v0 8).toInt ≤ 700 → (u1_ 1).toInt ≠ 0) ∧ (zqTy f2 (v1 2).toInt → 0 ≤ (v0 6).toInt → (v0 6).toInt ≤ 602 → (v0 4).toInt ≠ 265 ∧ (v0 8).toInt = -1 → zBl f2 (v1 2).toInt (v0 6).toInt r24_.toInt ∧ zLk f2 (v1 2).toInt r24_.toInt r98_.toInt (u98_ 0).toInt) := ⟨(by first | with_reducible assumption | exact ⟨by omega, by omega⟩), by first | omega | (have h7_ := hX1_0 0; have h8_ := hX1_2 0; have h9_ := hX1_3 0; omega), by first | omega | (have h7_ := hX1_0 0; have h8_ := hX1_2 0; have h9_ := hX1_3 0; omega), by first | omega | (have h7_ := hX1_0 0; have h8_ := hX1_2 0; have h9_ := hX1_3 0; omega), by first | omega | (have h7_ := hX1_0 0; have h8_ := hX1_2 0; have h9_ := hX1_3 0; omega), by (intro tb_ p_ q_ g_; first | (exfalso; omega) | (have z_ := hX24_0 (by omega); have z1_ := z_.1; have z2_ := z_.2.2.2; have z3_ := hz48 0 p_ q_; first | exact ⟨z_, Or.inl ⟨zat_n hX38_0 (by omega) (by omega), by first | omega | decide, by omega⟩⟩ | exact ⟨z_, Or.inr (Or.inl ⟨by have t_ := hX75_2 (by omega); exact t_.2.1, by have t_ := hX75_2 (by omega); exact t_.2.2, _, hX90_2 (by omega), hX98_0 tb_ (by have t_ := hX75_2 (by omega); exact t_.2.1) (hX90_2 (by omega))⟩)⟩ | exact ⟨z_, Or.inr (Or.inr (Or.inl ⟨by omega, fun t_ => hX75_3 (by omega) ⟨by omega, by omega, t_⟩, zDd_y tb_ hX38_0 hX123_0 (by omega) (by omega) (by omega) (by omega) (by omega) (by omega), by first | omega | decide, by omega⟩))⟩ | exact ⟨z_, Or.inr (Or.inr (Or.inr ⟨by omega, fun t_ => hX75_3 (by omega) ⟨by omega, by omega, t_⟩, zDd_a hX38_0 (by omega) (by omega) (by omega), zat_m hX38_0 (by omega) (by omega), by omega⟩))⟩ | exact ⟨z_, Or.inr (Or.inr (Or.inr ⟨by omega, fun t_ => hX75_3 (by omega) ⟨by omega, by omega, t_⟩, zDd_b hX123_0 (by omega) (by omega) (by omega), zat_m hX38_0 (by omega) (by omega), by omega⟩))⟩))⟩
        have hP9 : va_P (dC, dI) vwCl [(h0, .inr (4, mX4 h1 h4 h11 h18 (upd (upd (upd (upd v0 4 r98_) 5 r24_) 6 (u98_ 0)) 7 (u1_ 1)))), (h1, .inr (9, mX9 h2 h3 v1)), (h2, zi k2 600 f2)] H := hP
        have hD9 : va_D A [(h0, .inr (4, mX4 h1 h4 h11 h18 (upd (upd (upd (upd v0 4 r98_) 5 r24_) 6 (u98_ 0)) 7 (u1_ 1)))), (h1, .inr (9, mX9 h2 h3 v1)), (h2, zi k2 600 f2)] := hD
        exact W.vret hx hb hr (fun t ht hW => ⟨⟨(fun i => ([r98_, r24_, (u98_ 0), (u1_ 1)] : List (Int32)).getD i 0), rfl, hpost, (fun _ => 0), (fun _ => (fun _ => 0)), (fun _ => (fun _ => 0)), by rw [ht]; exact hP9, va_K.moved hW.alike hK, hD9⟩, hS.F ht⟩) hS.2.2 dX4_next_156
    · skip
      have b_ := zF_ne rfl zk_m1 c_
      refine lv_aload_n hx hb dX4_next_57 rfl (lv_at hl 1 rfl) ?_
      refine lv_sipush (v := 256) hx hb dX4_next_58 (by decide) ?_
      refine va_put (D := (dC, dI)) (ci := 4) (v := .int 256) (ty := .int) (C := RX4) (T := TX4) (N := 12) hx hb hG zuX4 tyX4 tyX4_ok nmX4 hown hK hP hD hS 0 rfl rfl 4 (by decide) (hG _ zv412) (fun _ h9 => h9) rfl (by decide +kernel) rfl rfl (Nat.le_of_ble_eq_true rfl) dX4_next_61 (fun H locs hP hD hS => ?_)
      have hP : va_P (dC, dI) vwCl [(h0, .inr (4, mX4 h1 h4 h11 h18 (upd (upd (upd (upd v0 4 256) 5 r24_) 6 z48) 7 (u1_ 1)))), (h1, .inr (9, mX9 h2 h3 v1)), (h2, zi k2 600 f2)] H := hP
      have hD : va_D A [(h0, .inr (4, mX4 h1 h4 h11 h18 (upd (upd (upd (upd v0 4 256) 5 r24_) 6 z48) 7 (u1_ 1)))), (h1, .inr (9, mX9 h2 h3 v1)), (h2, zi k2 600 f2)] := hD
      refine lv_goto (tgt := 156) hx hb dX4_next_64 (by decide) ?_
      refine W.widen (k := 0) (n := 0) (by decide) (by decide) ?_
      have b_ : -2147483648 ≤ z48.toInt ∧ z48.toInt ≤ 2147483647 := ⟨zlo _, zhi _⟩
      have b_ : -2147483648 ≤ (u1_ 1).toInt ∧ (u1_ 1).toInt ≤ 2147483647 := ⟨zlo _, zhi _⟩
      have hpost : (0 ≤ (256 : Int32).toInt ∧ (256 : Int32).toInt ≤ 265) ∧ ((v0 4).toInt = 265 ∨ (v0 8).toInt ≠ -1 → (256 : Int32).toInt = 265) ∧ ((v0 8).toInt = -1 → (u1_ 1).toInt = (v0 7).toInt) ∧ ((v0 7).toInt ≠ 0 → (u1_ 1).toInt = (v0 7).toInt) ∧ ((v0 8).toInt ≠ -1 → (v0 7).toInt = 0 → 0 ≤ (v0 8).toInt → (v0 8).toInt ≤ 700 → (u1_ 1).toInt ≠ 0) ∧ (zqTy f2 (v1 2).toInt → 0 ≤ (v0 6).toInt → (v0 6).toInt ≤ 602 → (v0 4).toInt ≠ 265 ∧ (v0 8).toInt = -1 → zBl f2 (v1 2).toInt (v0 6).toInt r24_.toInt ∧ zLk f2 (v1 2).toInt r24_.toInt (256 : Int32).toInt z48.toInt) := ⟨(by first | with_reducible assumption | exact ⟨by omega, by omega⟩), by first | omega | (have h7_ := hX1_0 0; have h8_ := hX1_2 0; have h9_ := hX1_3 0; omega), by first | omega | (have h7_ := hX1_0 0; have h8_ := hX1_2 0; have h9_ := hX1_3 0; omega), by first | omega | (have h7_ := hX1_0 0; have h8_ := hX1_2 0; have h9_ := hX1_3 0; omega), by first | omega | (have h7_ := hX1_0 0; have h8_ := hX1_2 0; have h9_ := hX1_3 0; omega), by (intro tb_ p_ q_ g_; first | (exfalso; omega) | (have z_ := hX24_0 (by omega); have z1_ := z_.1; have z2_ := z_.2.2.2; have z3_ := hz48 0 p_ q_; first | exact ⟨z_, Or.inl ⟨zat_n hX38_0 (by omega) (by omega), by first | omega | decide, by omega⟩⟩ | exact ⟨z_, Or.inr (Or.inl ⟨by have t_ := hX75_2 (by omega); exact t_.2.1, by have t_ := hX75_2 (by omega); exact t_.2.2, _, hX90_2 (by omega), hX98_0 tb_ (by have t_ := hX75_2 (by omega); exact t_.2.1) (hX90_2 (by omega))⟩)⟩ | exact ⟨z_, Or.inr (Or.inr (Or.inl ⟨by omega, fun t_ => hX75_3 (by omega) ⟨by omega, by omega, t_⟩, zDd_y tb_ hX38_0 hX123_0 (by omega) (by omega) (by omega) (by omega) (by omega) (by omega), by first | omega | decide, by omega⟩))⟩ | exact ⟨z_, Or.inr (Or.inr (Or.inr ⟨by omega, fun t_ => hX75_3 (by omega) ⟨by omega, by omega, t_⟩, zDd_a hX38_0 (by omega) (by omega) (by omega), zat_m hX38_0 (by omega) (by omega), by omega⟩))⟩ | exact ⟨z_, Or.inr (Or.inr (Or.inr ⟨by omega, fun t_ => hX75_3 (by omega) ⟨by omega, by omega, t_⟩, zDd_b hX123_0 (by omega) (by omega) (by omega), zat_m hX38_0 (by omega) (by omega), by omega⟩))⟩))⟩
      have hP9 : va_P (dC, dI) vwCl [(h0, .inr (4, mX4 h1 h4 h11 h18 (upd (upd (upd (upd v0 4 256) 5 r24_) 6 z48) 7 (u1_ 1)))), (h1, .inr (9, mX9 h2 h3 v1)), (h2, zi k2 600 f2)] H := hP
      have hD9 : va_D A [(h0, .inr (4, mX4 h1 h4 h11 h18 (upd (upd (upd (upd v0 4 256) 5 r24_) 6 z48) 7 (u1_ 1)))), (h1, .inr (9, mX9 h2 h3 v1)), (h2, zi k2 600 f2)] := hD
      exact W.vret hx hb hr (fun t ht hW => ⟨⟨(fun i => ([256, r24_, z48, (u1_ 1)] : List (Int32)).getD i 0), rfl, hpost, (fun _ => 0), (fun _ => (fun _ => 0)), (fun _ => (fun _ => 0)), by rw [ht]; exact hP9, va_K.moved hW.alike hK, hD9⟩, hS.F ht⟩) hS.2.2 dX4_next_156
  · skip
    have b_ := zF_ne rfl zk_265 c_
    refine W.widen (k := 0) (n := 0) (by decide) (by decide) ?_
    have b_ : -2147483648 ≤ (u1_ 1).toInt ∧ (u1_ 1).toInt ≤ 2147483647 := ⟨zlo _, zhi _⟩
    have hpost : (0 ≤ (u1_ 0).toInt ∧ (u1_ 0).toInt ≤ 265) ∧ ((v0 4).toInt = 265 ∨ (v0 8).toInt ≠ -1 → (u1_ 0).toInt = 265) ∧ ((v0 8).toInt = -1 → (u1_ 1).toInt = (v0 7).toInt) ∧ ((v0 7).toInt ≠ 0 → (u1_ 1).toInt = (v0 7).toInt) ∧ ((v0 8).toInt ≠ -1 → (v0 7).toInt = 0 → 0 ≤ (v0 8).toInt → (v0 8).toInt ≤ 700 → (u1_ 1).toInt ≠ 0) ∧ (zqTy f2 (v1 2).toInt → 0 ≤ (v0 6).toInt → (v0 6).toInt ≤ 602 → (v0 4).toInt ≠ 265 ∧ (v0 8).toInt = -1 → zBl f2 (v1 2).toInt (v0 6).toInt (v0 5).toInt ∧ zLk f2 (v1 2).toInt (v0 5).toInt (u1_ 0).toInt (v0 6).toInt) := ⟨(by first | with_reducible assumption | exact ⟨by omega, by omega⟩), by first | omega | (have h7_ := hX1_0 0; have h8_ := hX1_2 0; have h9_ := hX1_3 0; omega), by first | omega | (have h7_ := hX1_0 0; have h8_ := hX1_2 0; have h9_ := hX1_3 0; omega), by first | omega | (have h7_ := hX1_0 0; have h8_ := hX1_2 0; have h9_ := hX1_3 0; omega), by first | omega | (have h7_ := hX1_0 0; have h8_ := hX1_2 0; have h9_ := hX1_3 0; omega), by (intro tb_ p_ q_ g_; first | (exfalso; omega) | (have z_ := hX24_0 (by omega); have z1_ := z_.1; have z2_ := z_.2.2.2; have z3_ := hz48 0 p_ q_; first | exact ⟨z_, Or.inl ⟨zat_n hX38_0 (by omega) (by omega), by first | omega | decide, by omega⟩⟩ | exact ⟨z_, Or.inr (Or.inl ⟨by have t_ := hX75_2 (by omega); exact t_.2.1, by have t_ := hX75_2 (by omega); exact t_.2.2, _, hX90_2 (by omega), hX98_0 tb_ (by have t_ := hX75_2 (by omega); exact t_.2.1) (hX90_2 (by omega))⟩)⟩ | exact ⟨z_, Or.inr (Or.inr (Or.inl ⟨by omega, fun t_ => hX75_3 (by omega) ⟨by omega, by omega, t_⟩, zDd_y tb_ hX38_0 hX123_0 (by omega) (by omega) (by omega) (by omega) (by omega) (by omega), by first | omega | decide, by omega⟩))⟩ | exact ⟨z_, Or.inr (Or.inr (Or.inr ⟨by omega, fun t_ => hX75_3 (by omega) ⟨by omega, by omega, t_⟩, zDd_a hX38_0 (by omega) (by omega) (by omega), zat_m hX38_0 (by omega) (by omega), by omega⟩))⟩ | exact ⟨z_, Or.inr (Or.inr (Or.inr ⟨by omega, fun t_ => hX75_3 (by omega) ⟨by omega, by omega, t_⟩, zDd_b hX123_0 (by omega) (by omega) (by omega), zat_m hX38_0 (by omega) (by omega), by omega⟩))⟩))⟩
    have hP9 : va_P (dC, dI) vwCl [(h0, .inr (4, mX4 h1 h4 h11 h18 (upd (upd (upd (upd v0 4 (u1_ 0)) 5 (v0 5)) 6 (v0 6)) 7 (u1_ 1)))), (h1, .inr (9, mX9 h2 h3 v1)), (h2, zi k2 600 f2)] H := hP
    have hD9 : va_D A [(h0, .inr (4, mX4 h1 h4 h11 h18 (upd (upd (upd (upd v0 4 (u1_ 0)) 5 (v0 5)) 6 (v0 6)) 7 (u1_ 1)))), (h1, .inr (9, mX9 h2 h3 v1)), (h2, zi k2 600 f2)] := hD
    exact W.vret hx hb hr (fun t ht hW => ⟨⟨(fun i => ([(u1_ 0), (v0 5), (v0 6), (u1_ 1)] : List (Int32)).getD i 0), rfl, hpost, (fun _ => 0), (fun _ => (fun _ => 0)), (fun _ => (fun _ => 0)), by rw [ht]; exact hP9, va_K.moved hW.alike hK, hD9⟩, hS.F ht⟩) hS.2.2 dX4_next_14
set_option maxHeartbeats 8000000 in
set_option maxRecDepth 100000 in
theorem sX4_testLeafRoom_0 (l : Launch) (dC : Nat → ClassId) (dI : Nat → Nat → Nat) (adK adV : Nat → Nat) (h0 : Nat) (h18 : Nat) (h2 : Nat) (h1 : Nat) (h4 : Nat) (h11 : Nat) (h19 : Nat) (h20 : Nat) (h21 : Nat) (h22 : Nat) (h23 : Nat) (h24 : Nat) (h25 : Nat) (h3 : Nat) (k2 : ClassId) (sz : Nat) (v0 : Nat → Int32) (v18 : Nat → Int32) (f2 : Nat → Int32) (v1 : Nat → Int32) (hv0 : zR rg_Parser v0) (hv18 : zR rg_Query v18) (hv1 : zR rg_Tape v1) : Met l yX4_testLeafRoom (zw yX4_testLeafRoom cX4_testLeafRoom 1 none) { frames := 1, cells := 0, slots := 0, locals := 22 } (zPc dC dI adK adV [.ref h0] sz [(h0, .inr (4, mX4 h1 h4 h11 h18 v0)), (h18, .inr (7, mX7 h19 h20 h21 h22 h23 h24 h25 v18)), (h2, zi k2 600 f2), (h1, .inr (9, mX9 h2 h3 v1))] [(k2, .byte)]) (va_Qv (fun (u : Nat → Int32) => ((v18 7).toInt < 40 → (u 0).toInt = (v0 4).toInt ∧ (u 1).toInt = (v0 7).toInt) ∧ (40 ≤ (v18 7).toInt → (u 0).toInt = 265) ∧ ((v0 4).toInt = 265 → (u 0).toInt = 265) ∧ (zqW f2 (v1 2).toInt (v0 4).toInt (v0 5).toInt (v0 6).toInt (v0 7).toInt (v0 8).toInt → zqW f2 (v1 2).toInt (u 0).toInt (v0 5).toInt (v0 6).toInt (u 1).toInt (v0 8).toInt)) (fun (u : Nat → Int32) (t : State) => ∃ (ww : Nat → Int64) (aa : Nat → Nat → Int32) (bb : Nat → Nat → Int64), va_P (dC, dI) vwCl [(h0, .inr (4, mX4 h1 h4 h11 h18 (upd (upd v0 4 (u 0)) 7 (u 1)))), (h18, .inr (7, mX7 h19 h20 h21 h22 h23 h24 h25 v18)), (h2, zi k2 600 f2), (h1, .inr (9, mX9 h2 h3 v1))] t.heap ∧ va_K (dC, dI) vwCl [(k2, .byte)] t ∧ va_D (va_A [(h0, .inr (4, mX4 h1 h4 h11 h18 v0)), (h18, .inr (7, mX7 h19 h20 h21 h22 h23 h24 h25 v18)), (h2, zi k2 600 f2), (h1, .inr (9, mX9 h2 h3 v1))] sz) [(h0, .inr (4, mX4 h1 h4 h11 h18 (upd (upd v0 4 (u 0)) 7 (u 1)))), (h18, .inr (7, mX7 h19 h20 h21 h22 h23 h24 h25 v18)), (h2, zi k2 600 f2), (h1, .inr (9, mX9 h2 h3 v1))]) (va_A [(h0, .inr (4, mX4 h1 h4 h11 h18 v0)), (h18, .inr (7, mX7 h19 h20 h21 h22 h23 h24 h25 v18)), (h2, zi k2 600 f2), (h1, .inr (9, mX9 h2 h3 v1))] sz)) 0 0 (va_A [(h0, .inr (4, mX4 h1 h4 h11 h18 v0)), (h18, .inr (7, mX7 h19 h20 h21 h22 h23 h24 h25 v18)), (h2, zi k2 600 f2), (h1, .inr (9, mX9 h2 h3 v1))] sz) := by
  refine Met.ofW (cc := cX4_testLeafRoom) (maxL := 1) (ret := none) (by decide) rfl ?_
  intro p e s m args below meth c s₁ B hml hv
  obtain ⟨rfl, hsz, hP, hK, hD0, hE, hZ⟩ := hv
  have hx := B.exec
  have hb := B.bytes
  have hr := B.returns
  have hG : ∀ w ∈ zG, w.before _ s = true := fun w h => atoms_spec (ws := (zw yX4_testLeafRoom cX4_testLeafRoom 1 none)) B.pre w (List.mem_cons_of_mem _ h)
  have hown : s.vm.findClass RX4 = some m.cls := findClass_of_methodNamed B.named
  have hlocks := B.notSynchronized

  subst hsz
  have hD := hD0.self (sz := s.heap.size)
  generalize hAe : va_A [(h0, .inr (4, mX4 h1 h4 h11 h18 v0)), (h18, .inr (7, mX7 h19 h20 h21 h22 h23 h24 h25 v18)), (h2, zi k2 600 f2), (h1, .inr (9, mX9 h2 h3 v1))] s.heap.size = A at hD hZ ⊢
  have hA : ∀ q : Nat, s.heap.size ≤ q → A q := fun q h => by rw [← hAe]; exact Or.inr h
  have hS : va_S A s.heap s.heap [] := va_S.rf
  have hl := lv_entry ([.ref h0]) (n := 1) (Nat.le_of_ble_eq_true rfl)
  rw [lg_entry_eq]
  generalize (lg_sl ([.ref h0]) ++ List.replicate (1 - (lg_sl ([.ref h0])).length) Slot.unset).toArray = ls at hl ⊢
  have hl : lv_has ls 1 [(0, .ref h0)] := hl
  have b_ := zk_3
  have b_ : 0 ≤ (v18 7).toInt ∧ (v18 7).toInt ≤ 40 := hv18 7
  have b_ : -2147483648 ≤ (v0 4).toInt ∧ (v0 4).toInt ≤ 2147483647 := ⟨zlo _, zhi _⟩
  have b_ : -2147483648 ≤ (v0 7).toInt ∧ (v0 7).toInt ≤ 2147483647 := ⟨zlo _, zhi _⟩
  have b_ : 0 ≤ (v1 2).toInt ∧ (v1 2).toInt ≤ 600 := hv1 2
  have b_ : -2147483648 ≤ (v0 5).toInt ∧ (v0 5).toInt ≤ 2147483647 := ⟨zlo _, zhi _⟩
  have b_ : -2147483648 ≤ (v0 6).toInt ∧ (v0 6).toInt ≤ 2147483647 := ⟨zlo _, zhi _⟩
  have b_ : -2147483648 ≤ (v0 8).toInt ∧ (v0 8).toInt ≤ 2147483647 := ⟨zlo _, zhi _⟩
  refine lv_aload_n hx hb dX4_testLeafRoom_0 rfl (lv_at hl 0 rfl) ?_
  refine va_get (D := (dC, dI)) (ci := 4) (v := .ref h18) (C := RX4) (T := TX4) (N := 12) hx hb hG zuX4 hown hK hP 0 rfl rfl 3 (by decide) (hG _ zv411) (fun _ h9 => h9) rfl dX4_testLeafRoom_1 ?_
  have hPc := hP.sub (ws' := [(h18, .inr (7, mX7 h19 h20 h21 h22 h23 h24 h25 v18))]) [1] rfl
  have hDc := hD.sub (ws' := [(h18, .inr (7, mX7 h19 h20 h21 h22 h23 h24 h25 v18))]) [1] (by decide) rfl
  have hKc := hK.sub (tys' := []) [] rfl
  have hFc := va_free (wc := [(h18, .inr (7, mX7 h19 h20 h21 h22 h23 h24 h25 v18))]) hD hS hA [1] rfl
  refine va_calli (va_runV (As := []) (rest := []) ⟨hx, hb, hml, hown, hG⟩ (sX7_leaves_0 l dC dI adK adV h18 h19 h20 h21 h22 h23 h24 h25 s.heap.size v18 hv18) (cwV 0 hG (zgV zv1092 zv1093 zv1094 zv136 zv1095) rfl rfl rfl (by decide +kernel) ⟨Nat.le_of_ble_eq_true rfl, Nat.le_of_ble_eq_true rfl⟩) ⟨zPc_blind, va_recv hKc hPc (ci := 7) (q0 := 0) rfl rfl, zPc_pre hPc hKc hDc hE hS hFc hZ⟩ rfl rfl hl.1 rfl (lv_room (Nat.le_of_ble_eq_true rfl)) dX4_testLeafRoom_4 ⟨Nat.le_of_ble_eq_true rfl, Nat.le_of_ble_eq_true rfl⟩) hS (fun q _ h => hFc q h) hFc (fun r4_ u4_ t H1 locs ht hvm hw hB hz1 hk1 hS => ?_)
  replace hw : (0 ≤ r4_.toInt ∧ r4_.toInt ≤ 40) ∧ (r4_.toInt = (v18 7).toInt) := hw
  obtain ⟨b_, hX4_0⟩ := hw
  obtain ⟨w4_, a4_, b4_, hP1, hK1, hD1⟩ := hB
  rw [ht] at hP1
  obtain ⟨hP, hD⟩ := va_join (wr := [(h0, .inr (4, mX4 h1 h4 h11 h18 v0)), (h2, zi k2 600 f2), (h1, .inr (9, mX9 h2 h3 v1))]) (w1 := [(h18, .inr (7, mX7 h19 h20 h21 h22 h23 h24 h25 v18))]) hP hD [1] [0, 2, 3] rfl rfl (by decide) (by decide) hk1 hFc hP1 hD1
  have hP : va_P (dC, dI) vwCl [(h0, .inr (4, mX4 h1 h4 h11 h18 v0)), (h18, .inr (7, mX7 h19 h20 h21 h22 h23 h24 h25 v18)), (h2, zi k2 600 f2), (h1, .inr (9, mX9 h2 h3 v1))] H1 := hP.sub [0, 3, 1, 2] rfl
  have hD : va_D A [(h0, .inr (4, mX4 h1 h4 h11 h18 v0)), (h18, .inr (7, mX7 h19 h20 h21 h22 h23 h24 h25 v18)), (h2, zi k2 600 f2), (h1, .inr (9, mX9 h2 h3 v1))] := hD.sub [0, 3, 1, 2] (by decide) rfl
  generalize H1 = H at hP hS ⊢
  clear hz1
  refine lv_bipush (v := 40) hx hb dX4_testLeafRoom_7 (by decide) ?_
  refine lv_icmp_lt (tgt := 21) hx hb dX4_testLeafRoom_9 (by decide) (fun c_ => ?_) (fun c_ => ?_)
  · skip
    have b_ := zT_lt rfl zk_40 c_
    refine W.widen (k := 0) (n := 0) (by decide) (by decide) ?_
    have hpost : ((v18 7).toInt < 40 → (v0 4).toInt = (v0 4).toInt ∧ (v0 7).toInt = (v0 7).toInt) ∧ (40 ≤ (v18 7).toInt → (v0 4).toInt = 265) ∧ ((v0 4).toInt = 265 → (v0 4).toInt = 265) ∧ (zqW f2 (v1 2).toInt (v0 4).toInt (v0 5).toInt (v0 6).toInt (v0 7).toInt (v0 8).toInt → zqW f2 (v1 2).toInt (v0 4).toInt (v0 5).toInt (v0 6).toInt (v0 7).toInt (v0 8).toInt) := ⟨by omega, by omega, by omega, by first | exact fun h_ => h_ | exact fun h_ => zW_f h_ (by omega) hX18_0 hX18_1 hX18_2 ⟨by decide, by decide⟩ (fun _ a_ b_ => ⟨a_, by omega⟩)⟩
    have hP9 : va_P (dC, dI) vwCl [(h0, .inr (4, mX4 h1 h4 h11 h18 (upd (upd v0 4 (v0 4)) 7 (v0 7)))), (h18, .inr (7, mX7 h19 h20 h21 h22 h23 h24 h25 v18)), (h2, zi k2 600 f2), (h1, .inr (9, mX9 h2 h3 v1))] H := hP
    have hD9 : va_D A [(h0, .inr (4, mX4 h1 h4 h11 h18 (upd (upd v0 4 (v0 4)) 7 (v0 7)))), (h18, .inr (7, mX7 h19 h20 h21 h22 h23 h24 h25 v18)), (h2, zi k2 600 f2), (h1, .inr (9, mX9 h2 h3 v1))] := hD
    exact W.vret hx hb hr (fun t ht hW => ⟨⟨(fun i => ([(v0 4), (v0 7)] : List (Int32)).getD i 0), rfl, hpost, (fun _ => 0), (fun _ => (fun _ => 0)), (fun _ => (fun _ => 0)), by rw [ht]; exact hP9, va_K.moved hW.alike hK, hD9⟩, hS.F ht⟩) hS.2.2 dX4_testLeafRoom_21
  · skip
    have b_ := zF_lt rfl zk_40 c_
    refine lv_aload_n hx hb dX4_testLeafRoom_12 rfl (lv_at hl 0 rfl) ?_
    refine lv_iconst (v := 3) hx hb dX4_testLeafRoom_13 (by decide) ?_
    refine lv_aload_n hx hb dX4_testLeafRoom_14 rfl (lv_at hl 0 rfl) ?_
    refine va_get (D := (dC, dI)) (ci := 4) (v := .int (v0 5)) (C := RX4) (T := TX4) (N := 12) hx hb hG zuX4 hown hK hP 0 rfl rfl 5 (by decide) (hG _ zv413) (fun _ h9 => h9) rfl dX4_testLeafRoom_15 ?_
    have hPc := hP.sub (ws' := [(h0, .inr (4, mX4 h1 h4 h11 h18 v0))]) [0] rfl
    have hDc := hD.sub (ws' := [(h0, .inr (4, mX4 h1 h4 h11 h18 v0))]) [0] (by decide) rfl
    have hKc := hK.sub (tys' := []) [] rfl
    have hFc := va_free (wc := [(h0, .inr (4, mX4 h1 h4 h11 h18 v0))]) hD hS hA [0] rfl
    refine va_callv (va_runV (As := [.int 3, .int (v0 5)]) (rest := []) ⟨hx, hb, hml, hown, hG⟩ (sX4_fail_0 l dC dI adK adV h0 h1 h4 h11 h18 H.size v0 3 (v0 5) hv0) (cwV 2 hG (zgV zv1021 zv1023 zv13 zv137 zv1024) rfl rfl rfl (by decide +kernel) ⟨Nat.le_of_ble_eq_true rfl, Nat.le_of_ble_eq_true rfl⟩) ⟨zPc_blind, va_recv hKc hPc (ci := 4) (q0 := 0) rfl rfl, zPc_pre hPc hKc hDc hE hS hFc hZ⟩ rfl rfl hl.1 rfl (lv_room (Nat.le_of_ble_eq_true rfl)) dX4_testLeafRoom_18 ⟨Nat.le_of_ble_eq_true rfl, Nat.le_of_ble_eq_true rfl⟩) hS (fun q _ h => hFc q h) hFc (fun u18_ t H1 locs ht hvm hw hB hz1 hk1 hS => ?_)
    replace hw : (265 ≤ (u18_ 0).toInt ∧ (u18_ 0).toInt ≤ 265) ∧ ((u18_ 0).toInt = 265) ∧ ((v0 7).toInt ≠ 0 → (u18_ 1).toInt = (v0 7).toInt) ∧ ((v0 7).toInt = 0 → 1 ≤ (3 : Int32).toInt → (3 : Int32).toInt ≤ 4 → 0 ≤ (v0 5).toInt → (v0 5).toInt ≤ 700 → (u18_ 1).toInt ≠ 0) := hw
    obtain ⟨b_, hX18_0, hX18_1, hX18_2⟩ := hw
    obtain ⟨w18_, a18_, b18_, hP1, hK1, hD1⟩ := hB
    rw [ht] at hP1
    obtain ⟨hP, hD⟩ := va_join (wr := [(h18, .inr (7, mX7 h19 h20 h21 h22 h23 h24 h25 v18)), (h2, zi k2 600 f2), (h1, .inr (9, mX9 h2 h3 v1))]) (w1 := [(h0, .inr (4, mX4 h1 h4 h11 h18 (upd (upd v0 4 (u18_ 0)) 7 (u18_ 1))))]) hP hD [0] [1, 2, 3] rfl rfl (by decide) (by decide) hk1 hFc hP1 hD1
    have hP : va_P (dC, dI) vwCl [(h0, .inr (4, mX4 h1 h4 h11 h18 (upd (upd v0 4 (u18_ 0)) 7 (u18_ 1)))), (h18, .inr (7, mX7 h19 h20 h21 h22 h23 h24 h25 v18)), (h2, zi k2 600 f2), (h1, .inr (9, mX9 h2 h3 v1))] H1 := hP.sub [3, 0, 1, 2] rfl
    have hD : va_D A [(h0, .inr (4, mX4 h1 h4 h11 h18 (upd (upd v0 4 (u18_ 0)) 7 (u18_ 1)))), (h18, .inr (7, mX7 h19 h20 h21 h22 h23 h24 h25 v18)), (h2, zi k2 600 f2), (h1, .inr (9, mX9 h2 h3 v1))] := hD.sub [3, 0, 1, 2] (by decide) rfl
    generalize H1 = H at hP hS ⊢
    clear hz1
    refine W.widen (k := 0) (n := 0) (by decide) (by decide) ?_
    have b_ : -2147483648 ≤ (u18_ 1).toInt ∧ (u18_ 1).toInt ≤ 2147483647 := ⟨zlo _, zhi _⟩
    have hpost : ((v18 7).toInt < 40 → (u18_ 0).toInt = (v0 4).toInt ∧ (u18_ 1).toInt = (v0 7).toInt) ∧ (40 ≤ (v18 7).toInt → (u18_ 0).toInt = 265) ∧ ((v0 4).toInt = 265 → (u18_ 0).toInt = 265) ∧ (zqW f2 (v1 2).toInt (v0 4).toInt (v0 5).toInt (v0 6).toInt (v0 7).toInt (v0 8).toInt → zqW f2 (v1 2).toInt (u18_ 0).toInt (v0 5).toInt (v0 6).toInt (u18_ 1).toInt (v0 8).toInt) := ⟨by omega, by omega, by omega, by first | exact fun h_ => h_ | exact fun h_ => zW_f h_ (by omega) hX18_0 hX18_1 hX18_2 ⟨by decide, by decide⟩ (fun _ a_ b_ => ⟨a_, by omega⟩)⟩
    have hP9 : va_P (dC, dI) vwCl [(h0, .inr (4, mX4 h1 h4 h11 h18 (upd (upd v0 4 (u18_ 0)) 7 (u18_ 1)))), (h18, .inr (7, mX7 h19 h20 h21 h22 h23 h24 h25 v18)), (h2, zi k2 600 f2), (h1, .inr (9, mX9 h2 h3 v1))] H := hP
    have hD9 : va_D A [(h0, .inr (4, mX4 h1 h4 h11 h18 (upd (upd v0 4 (u18_ 0)) 7 (u18_ 1)))), (h18, .inr (7, mX7 h19 h20 h21 h22 h23 h24 h25 v18)), (h2, zi k2 600 f2), (h1, .inr (9, mX9 h2 h3 v1))] := hD
    exact W.vret hx hb hr (fun t ht hW => ⟨⟨(fun i => ([(u18_ 0), (u18_ 1)] : List (Int32)).getD i 0), rfl, hpost, (fun _ => 0), (fun _ => (fun _ => 0)), (fun _ => (fun _ => 0)), by rw [ht]; exact hP9, va_K.moved hW.alike hK, hD9⟩, hS.F ht⟩) hS.2.2 dX4_testLeafRoom_21
set_option maxHeartbeats 8000000 in
set_option maxRecDepth 100000 in
theorem sX7_phraseWords_0 (l : Launch) (dC : Nat → ClassId) (dI : Nat → Nat → Nat) (adK adV : Nat → Nat) (h0 : Nat) (h1 : Nat) (h2 : Nat) (h3 : Nat) (h4 : Nat) (h5 : Nat) (h6 : Nat) (h7 : Nat) (sz : Nat) (v0 : Nat → Int32) (hv0 : zR rg_Query v0) : Met l yX7_phraseWords (zw yX7_phraseWords cX7_phraseWords 1 (some .int)) { frames := 0, cells := 0, slots := 0, locals := 0 } (zPc dC dI adK adV [.ref h0] sz [(h0, .inr (7, mX7 h1 h2 h3 h4 h5 h6 h7 v0))] []) (va_Qi (fun (r : Int32) (u : Nat → Int32) => (0 ≤ r.toInt ∧ r.toInt ≤ 160) ∧ (r.toInt = (v0 8).toInt)) (fun (u : Nat → Int32) (t : State) => ∃ (ww : Nat → Int64) (aa : Nat → Nat → Int32) (bb : Nat → Nat → Int64), va_P (dC, dI) vwCl [(h0, .inr (7, mX7 h1 h2 h3 h4 h5 h6 h7 v0))] t.heap ∧ va_K (dC, dI) vwCl [] t ∧ va_D (va_A [(h0, .inr (7, mX7 h1 h2 h3 h4 h5 h6 h7 v0))] sz) [(h0, .inr (7, mX7 h1 h2 h3 h4 h5 h6 h7 v0))]) (va_A [(h0, .inr (7, mX7 h1 h2 h3 h4 h5 h6 h7 v0))] sz)) 0 0 (va_A [(h0, .inr (7, mX7 h1 h2 h3 h4 h5 h6 h7 v0))] sz) := by
  refine Met.ofW (cc := cX7_phraseWords) (maxL := 1) (ret := (some .int)) (by decide) rfl ?_
  intro p e s m args below meth c s₁ B hml hv
  obtain ⟨rfl, hsz, hP, hK, hD0, hE, hZ⟩ := hv
  have hx := B.exec
  have hb := B.bytes
  have hr := B.returns
  have hG : ∀ w ∈ zG, w.before _ s = true := fun w h => atoms_spec (ws := (zw yX7_phraseWords cX7_phraseWords 1 (some .int))) B.pre w (List.mem_cons_of_mem _ h)
  have hown : s.vm.findClass RX7 = some m.cls := findClass_of_methodNamed B.named
  have hlocks := B.notSynchronized

  subst hsz
  have hD := hD0.self (sz := s.heap.size)
  generalize hAe : va_A [(h0, .inr (7, mX7 h1 h2 h3 h4 h5 h6 h7 v0))] s.heap.size = A at hD hZ ⊢
  have hA : ∀ q : Nat, s.heap.size ≤ q → A q := fun q h => by rw [← hAe]; exact Or.inr h
  have hS : va_S A s.heap s.heap [] := va_S.rf
  have hl := lv_entry ([.ref h0]) (n := 1) (Nat.le_of_ble_eq_true rfl)
  rw [lg_entry_eq]
  generalize (lg_sl ([.ref h0]) ++ List.replicate (1 - (lg_sl ([.ref h0])).length) Slot.unset).toArray = ls at hl ⊢
  have hl : lv_has ls 1 [(0, .ref h0)] := hl
  have b_ : 0 ≤ (v0 8).toInt ∧ (v0 8).toInt ≤ 160 := hv0 8
  refine lv_aload_n hx hb dX7_phraseWords_0 rfl (lv_at hl 0 rfl) ?_
  refine va_get (D := (dC, dI)) (ci := 7) (v := .int (v0 8)) (C := RX7) (T := TX7) (N := 12) hx hb hG zuX7 hown hK hP 0 rfl rfl 8 (by decide) (hG _ zv373) (fun _ h9 => h9) rfl dX7_phraseWords_1 ?_
  refine W.widen (k := 0) (n := 0) (by decide) (by decide) ?_
  have hpost : (0 ≤ (v0 8).toInt ∧ (v0 8).toInt ≤ 160) ∧ ((v0 8).toInt = (v0 8).toInt) := ⟨(by first | with_reducible assumption | exact ⟨by omega, by omega⟩), by omega⟩
  have hP9 : va_P (dC, dI) vwCl [(h0, .inr (7, mX7 h1 h2 h3 h4 h5 h6 h7 v0))] s.heap := hP
  have hD9 : va_D A [(h0, .inr (7, mX7 h1 h2 h3 h4 h5 h6 h7 v0))] := hD
  exact W.iret (v := (v0 8)) hx hb hr (fun t ht hW => ⟨⟨(v0 8), (fun _ => 0), rfl, hpost, (fun _ => 0), (fun _ => (fun _ => 0)), (fun _ => (fun _ => 0)), by rw [ht]; exact hP9, va_K.moved hW.alike hK, hD9⟩, hS.F ht⟩) hS.2.2 dX7_phraseWords_4
set_option maxHeartbeats 8000000 in
set_option maxRecDepth 100000 in
theorem sX4_wantedWord_0 (l : Launch) (dC : Nat → ClassId) (dI : Nat → Nat → Nat) (adK adV : Nat → Nat) (h0 : Nat) (h1 : Nat) (h2 : Nat) (h3 : Nat) (h11 : Nat) (h12 : Nat) (h4 : Nat) (h5 : Nat) (h18 : Nat) (h13 : Nat) (h14 : Nat) (h15 : Nat) (h16 : Nat) (h17 : Nat) (h6 : Nat) (h7 : Nat) (h8 : Nat) (h9 : Nat) (h10 : Nat) (k2 : ClassId) (k3 : ClassId) (k12 : ClassId) (k5 : ClassId) (sz : Nat) (v0 : Nat → Int32) (v1 : Nat → Int32) (f2 : Nat → Int32) (f3 : Nat → Int32) (v11 : Nat → Int32) (f12 : Nat → Int64) (v4 : Nat → Int32) (f5 : Nat → Int64) (x1 : Int32) (hv0 : zR rg_Parser v0) (hv1 : zR rg_Tape v1) (hv11 : zR rg_Words10 v11) (hv4 : zR rg_Words400 v4) : Met l yX4_wantedWord (zw yX4_wantedWord cX4_wantedWord 5 (some .int)) { frames := 7, cells := 0, slots := 0, locals := 149 } (zPc dC dI adK adV [.ref h0, .int x1] sz [(h0, .inr (4, mX4 h1 h4 h11 h18 v0)), (h1, .inr (9, mX9 h2 h3 v1)), (h2, zi k2 600 f2), (h3, zi k3 12 f3), (h11, .inr (10, mX10 h12 h13 h14 h15 h16 h17 v11)), (h12, .inl (k12, 10, .inr (.inl f12))), (h4, .inr (10, mX10 h5 h6 h7 h8 h9 h10 v4)), (h5, .inl (k5, 400, .inr (.inl f5)))] [(k2, .byte), (k3, .byte), (k12, .long), (k5, .long)]) (va_Qi (fun (r : Int32) (u : Nat → Int32) => ((-3) ≤ r.toInt ∧ r.toInt ≤ 399) ∧ (0 ≤ (u 0).toInt ∧ (u 0).toInt ≤ 12) ∧ (0 ≤ x1.toInt → x1.toInt ≤ 600 → zWnd f2 (v1 2).toInt f5 (v4 7).toInt f12 (v11 7).toInt x1.toInt r.toInt)) (fun (u : Nat → Int32) (t : State) => ∃ (ww : Nat → Int64) (aa : Nat → Nat → Int32) (bb : Nat → Nat → Int64), va_P (dC, dI) vwCl [(h0, .inr (4, mX4 h1 h4 h11 h18 v0)), (h1, .inr (9, mX9 h2 h3 (upd v1 3 (u 0)))), (h2, zi k2 600 f2), (h3, zi k3 12 (aa 0)), (h11, .inr (10, mX10 h12 h13 h14 h15 h16 h17 v11)), (h12, .inl (k12, 10, .inr (.inl f12))), (h4, .inr (10, mX10 h5 h6 h7 h8 h9 h10 v4)), (h5, .inl (k5, 400, .inr (.inl f5)))] t.heap ∧ va_K (dC, dI) vwCl [(k2, .byte), (k3, .byte), (k12, .long), (k5, .long)] t ∧ va_D (va_A [(h0, .inr (4, mX4 h1 h4 h11 h18 v0)), (h1, .inr (9, mX9 h2 h3 v1)), (h2, zi k2 600 f2), (h3, zi k3 12 f3), (h11, .inr (10, mX10 h12 h13 h14 h15 h16 h17 v11)), (h12, .inl (k12, 10, .inr (.inl f12))), (h4, .inr (10, mX10 h5 h6 h7 h8 h9 h10 v4)), (h5, .inl (k5, 400, .inr (.inl f5)))] sz) [(h0, .inr (4, mX4 h1 h4 h11 h18 v0)), (h1, .inr (9, mX9 h2 h3 (upd v1 3 (u 0)))), (h2, zi k2 600 f2), (h3, zi k3 12 (aa 0)), (h11, .inr (10, mX10 h12 h13 h14 h15 h16 h17 v11)), (h12, .inl (k12, 10, .inr (.inl f12))), (h4, .inr (10, mX10 h5 h6 h7 h8 h9 h10 v4)), (h5, .inl (k5, 400, .inr (.inl f5)))]) (va_A [(h0, .inr (4, mX4 h1 h4 h11 h18 v0)), (h1, .inr (9, mX9 h2 h3 v1)), (h2, zi k2 600 f2), (h3, zi k3 12 f3), (h11, .inr (10, mX10 h12 h13 h14 h15 h16 h17 v11)), (h12, .inl (k12, 10, .inr (.inl f12))), (h4, .inr (10, mX10 h5 h6 h7 h8 h9 h10 v4)), (h5, .inl (k5, 400, .inr (.inl f5)))] sz)) 0 0 (va_A [(h0, .inr (4, mX4 h1 h4 h11 h18 v0)), (h1, .inr (9, mX9 h2 h3 v1)), (h2, zi k2 600 f2), (h3, zi k3 12 f3), (h11, .inr (10, mX10 h12 h13 h14 h15 h16 h17 v11)), (h12, .inl (k12, 10, .inr (.inl f12))), (h4, .inr (10, mX10 h5 h6 h7 h8 h9 h10 v4)), (h5, .inl (k5, 400, .inr (.inl f5)))] sz) := by
  refine Met.ofW (cc := cX4_wantedWord) (maxL := 5) (ret := (some .int)) (by decide) rfl ?_
  intro p e s m args below meth c s₁ B hml hv
  obtain ⟨rfl, hsz, hP, hK, hD0, hE, hZ⟩ := hv
  have hx := B.exec
  have hb := B.bytes
  have hr := B.returns
  have hG : ∀ w ∈ zG, w.before _ s = true := fun w h => atoms_spec (ws := (zw yX4_wantedWord cX4_wantedWord 5 (some .int))) B.pre w (List.mem_cons_of_mem _ h)
  have hown : s.vm.findClass RX4 = some m.cls := findClass_of_methodNamed B.named
  have hlocks := B.notSynchronized

  subst hsz
  have hD := hD0.self (sz := s.heap.size)
  generalize hAe : va_A [(h0, .inr (4, mX4 h1 h4 h11 h18 v0)), (h1, .inr (9, mX9 h2 h3 v1)), (h2, zi k2 600 f2), (h3, zi k3 12 f3), (h11, .inr (10, mX10 h12 h13 h14 h15 h16 h17 v11)), (h12, .inl (k12, 10, .inr (.inl f12))), (h4, .inr (10, mX10 h5 h6 h7 h8 h9 h10 v4)), (h5, .inl (k5, 400, .inr (.inl f5)))] s.heap.size = A at hD hZ ⊢
  have hA : ∀ q : Nat, s.heap.size ≤ q → A q := fun q h => by rw [← hAe]; exact Or.inr h
  have hS : va_S A s.heap s.heap [] := va_S.rf
  have hl := lv_entry ([.ref h0, .int x1]) (n := 5) (Nat.le_of_ble_eq_true rfl)
  rw [lg_entry_eq]
  generalize (lg_sl ([.ref h0, .int x1]) ++ List.replicate (5 - (lg_sl ([.ref h0, .int x1])).length) Slot.unset).toArray = ls at hl ⊢
  have hl : lv_has ls 5 [(0, .ref h0), (1, .int x1)] := hl
  have b_ := zk_m3
  have b_ := zk_m2
  have b_ : 0 ≤ (v1 2).toInt ∧ (v1 2).toInt ≤ 600 := hv1 2
  have b_ : 0 ≤ (v4 7).toInt ∧ (v4 7).toInt ≤ 400 := hv4 7
  have b_ : 0 ≤ (v11 7).toInt ∧ (v11 7).toInt ≤ 10 := hv11 7
  refine lv_aload_n hx hb dX4_wantedWord_0 rfl (lv_at hl 0 rfl) ?_
  refine va_get (D := (dC, dI)) (ci := 4) (v := .ref h1) (C := RX4) (T := TX4) (N := 12) hx hb hG zuX4 hown hK hP 0 rfl rfl 0 (by decide) (hG _ zv408) (fun _ h9 => h9) rfl dX4_wantedWord_1 ?_
  refine lv_iload_n hx hb dX4_wantedWord_4 rfl (lv_at hl 1 rfl) ?_
  have hPc := hP.sub (ws' := [(h1, .inr (9, mX9 h2 h3 v1)), (h2, zi k2 600 f2), (h3, zi k3 12 f3)]) [1, 2, 3] rfl
  have hDc := hD.sub (ws' := [(h1, .inr (9, mX9 h2 h3 v1)), (h2, zi k2 600 f2), (h3, zi k3 12 f3)]) [1, 2, 3] (by decide) rfl
  have hKc := hK.sub (tys' := [(k2, .byte), (k3, .byte)]) [0, 1] rfl
  have hFc := va_free (wc := [(h1, .inr (9, mX9 h2 h3 v1)), (h2, zi k2 600 f2), (h3, zi k3 12 f3)]) hD hS hA [1, 2, 3] rfl
  refine va_calll (va_runV (As := [.int x1]) (rest := []) ⟨hx, hb, hml, hown, hG⟩ (sX9_wordOf_0 l dC dI adK adV h1 h2 h3 k2 k3 s.heap.size v1 f2 f3 x1 hv1) (cwV 1 hG (zgV zv1135 zv653 zv654 zv130 zv655) rfl rfl rfl (by decide +kernel) ⟨Nat.le_of_ble_eq_true rfl, Nat.le_of_ble_eq_true rfl⟩) ⟨zPc_blind, va_recv hKc hPc (ci := 9) (q0 := 0) rfl rfl, zPc_pre hPc hKc hDc hE hS hFc hZ⟩ rfl rfl hl.1 rfl (lv_room (Nat.le_of_ble_eq_true rfl)) dX4_wantedWord_5 ⟨Nat.le_of_ble_eq_true rfl, Nat.le_of_ble_eq_true rfl⟩) hS (fun q _ h => hFc q h) hFc (fun r5_ u5_ t H1 locs ht hvm hw hB hz1 hk1 hS => ?_)
  replace hw : (0 ≤ (u5_ 0).toInt ∧ (u5_ 0).toInt ≤ 12) ∧ (0 ≤ x1.toInt → x1.toInt ≤ 600 → ∃ m : Nat, zRaw f2 (v1 2).toInt x1.toInt m ∧ r5_.toInt = zWrd f2 x1.toInt m) := hw
  obtain ⟨b_, hX5_0⟩ := hw
  obtain ⟨w5_, a5_, b5_, hP1, hK1, hD1⟩ := hB
  rw [ht] at hP1
  obtain ⟨hP, hD⟩ := va_join (wr := [(h0, .inr (4, mX4 h1 h4 h11 h18 v0)), (h11, .inr (10, mX10 h12 h13 h14 h15 h16 h17 v11)), (h12, .inl (k12, 10, .inr (.inl f12))), (h4, .inr (10, mX10 h5 h6 h7 h8 h9 h10 v4)), (h5, .inl (k5, 400, .inr (.inl f5)))]) (w1 := [(h1, .inr (9, mX9 h2 h3 (upd v1 3 (u5_ 0)))), (h2, zi k2 600 f2), (h3, zi k3 12 (a5_ 0))]) hP hD [1, 2, 3] [0, 4, 5, 6, 7] rfl rfl (by decide) (by decide) hk1 hFc hP1 hD1
  have hP : va_P (dC, dI) vwCl [(h0, .inr (4, mX4 h1 h4 h11 h18 v0)), (h1, .inr (9, mX9 h2 h3 (upd v1 3 (u5_ 0)))), (h2, zi k2 600 f2), (h3, zi k3 12 (a5_ 0)), (h11, .inr (10, mX10 h12 h13 h14 h15 h16 h17 v11)), (h12, .inl (k12, 10, .inr (.inl f12))), (h4, .inr (10, mX10 h5 h6 h7 h8 h9 h10 v4)), (h5, .inl (k5, 400, .inr (.inl f5)))] H1 := hP.sub [0, 5, 6, 7, 1, 2, 3, 4] rfl
  have hD : va_D A [(h0, .inr (4, mX4 h1 h4 h11 h18 v0)), (h1, .inr (9, mX9 h2 h3 (upd v1 3 (u5_ 0)))), (h2, zi k2 600 f2), (h3, zi k3 12 (a5_ 0)), (h11, .inr (10, mX10 h12 h13 h14 h15 h16 h17 v11)), (h12, .inl (k12, 10, .inr (.inl f12))), (h4, .inr (10, mX10 h5 h6 h7 h8 h9 h10 v4)), (h5, .inl (k5, 400, .inr (.inl f5)))] := hD.sub [0, 5, 6, 7, 1, 2, 3, 4] (by decide) rfl
  generalize H1 = H at hP hS ⊢
  clear hz1
  refine lv_lstore_n (lv' := [(2, .long r5_), (0, .ref h0), (1, .int x1)]) hx hb dX4_wantedWord_8 rfl hl (by decide) rfl (fun ls hl => ?_)
  refine lv_aload_n hx hb dX4_wantedWord_9 rfl (lv_at hl 1 rfl) ?_
  refine va_get (D := (dC, dI)) (ci := 4) (v := .ref h11) (C := RX4) (T := TX4) (N := 12) hx hb hG zuX4 hown hK hP 0 rfl rfl 2 (by decide) (hG _ zv410) (fun _ h9 => h9) rfl dX4_wantedWord_10 ?_
  refine lv_lload_n hx hb dX4_wantedWord_13 rfl (lv_at hl 0 rfl) ?_
  have hPc := hP.sub (ws' := [(h11, .inr (10, mX10 h12 h13 h14 h15 h16 h17 v11)), (h12, .inl (k12, 10, .inr (.inl f12)))]) [4, 5] rfl
  have hDc := hD.sub (ws' := [(h11, .inr (10, mX10 h12 h13 h14 h15 h16 h17 v11)), (h12, .inl (k12, 10, .inr (.inl f12)))]) [4, 5] (by decide) rfl
  have hKc := hK.sub (tys' := [(k12, .long)]) [2] rfl
  have hFc := va_free (wc := [(h11, .inr (10, mX10 h12 h13 h14 h15 h16 h17 v11)), (h12, .inl (k12, 10, .inr (.inl f12)))]) hD hS hA [4, 5] rfl
  refine va_calli (va_runV (As := [.long r5_]) (rest := []) ⟨hx, hb, hml, hown, hG⟩ (sX10_rankOf_0 l dC dI adK adV h11 h12 h13 h14 h15 h16 h17 k12 H.size v11 f12 r5_ hv11) (cwV 1 hG (zgV zv1136 zv740 zv741 zv131 zv742) rfl rfl rfl (by decide +kernel) ⟨Nat.le_of_ble_eq_true rfl, Nat.le_of_ble_eq_true rfl⟩) ⟨zPc_blind, va_recv hKc hPc (ci := 10) (q0 := 0) rfl rfl, zPc_pre hPc hKc hDc hE hS hFc hZ⟩ rfl rfl hl.1 rfl (lv_room (Nat.le_of_ble_eq_true rfl)) dX4_wantedWord_14 ⟨Nat.le_of_ble_eq_true rfl, Nat.le_of_ble_eq_true rfl⟩) hS (fun q _ h => hFc q h) hFc (fun r14_ u14_ t H1 locs ht hvm hw hB hz1 hk1 hS => ?_)
  replace hw : ((-1) ≤ r14_.toInt ∧ r14_.toInt ≤ 9) ∧ (r14_.toInt < (v11 7).toInt) ∧ (zRf f12 (v11 7).toInt r5_.toInt r14_.toInt) := hw
  obtain ⟨b_, hX14_0, hX14_1⟩ := hw
  obtain ⟨w14_, a14_, b14_, hP1, hK1, hD1⟩ := hB
  rw [ht] at hP1
  obtain ⟨hP, hD⟩ := va_join (wr := [(h0, .inr (4, mX4 h1 h4 h11 h18 v0)), (h1, .inr (9, mX9 h2 h3 (upd v1 3 (u5_ 0)))), (h2, zi k2 600 f2), (h3, zi k3 12 (a5_ 0)), (h4, .inr (10, mX10 h5 h6 h7 h8 h9 h10 v4)), (h5, .inl (k5, 400, .inr (.inl f5)))]) (w1 := [(h11, .inr (10, mX10 h12 h13 h14 h15 h16 h17 v11)), (h12, .inl (k12, 10, .inr (.inl f12)))]) hP hD [4, 5] [0, 1, 2, 3, 6, 7] rfl rfl (by decide) (by decide) hk1 hFc hP1 hD1
  have hP : va_P (dC, dI) vwCl [(h0, .inr (4, mX4 h1 h4 h11 h18 v0)), (h1, .inr (9, mX9 h2 h3 (upd v1 3 (u5_ 0)))), (h2, zi k2 600 f2), (h3, zi k3 12 (a5_ 0)), (h11, .inr (10, mX10 h12 h13 h14 h15 h16 h17 v11)), (h12, .inl (k12, 10, .inr (.inl f12))), (h4, .inr (10, mX10 h5 h6 h7 h8 h9 h10 v4)), (h5, .inl (k5, 400, .inr (.inl f5)))] H1 := hP.sub [0, 1, 2, 3, 6, 7, 4, 5] rfl
  have hD : va_D A [(h0, .inr (4, mX4 h1 h4 h11 h18 v0)), (h1, .inr (9, mX9 h2 h3 (upd v1 3 (u5_ 0)))), (h2, zi k2 600 f2), (h3, zi k3 12 (a5_ 0)), (h11, .inr (10, mX10 h12 h13 h14 h15 h16 h17 v11)), (h12, .inl (k12, 10, .inr (.inl f12))), (h4, .inr (10, mX10 h5 h6 h7 h8 h9 h10 v4)), (h5, .inl (k5, 400, .inr (.inl f5)))] := hD.sub [0, 1, 2, 3, 6, 7, 4, 5] (by decide) rfl
  generalize H1 = H at hP hS ⊢
  clear hz1
  refine lv_iconst (v := (-1)) hx hb dX4_wantedWord_17 (by decide) ?_
  refine lv_icmp_eq (tgt := 24) hx hb dX4_wantedWord_18 (by decide) (fun c_ => ?_) (fun c_ => ?_)
  · skip
    have b_ := zT_eq rfl zk_m1 c_
    refine lv_aload_n hx hb dX4_wantedWord_24 rfl (lv_at hl 1 rfl) ?_
    refine va_get (D := (dC, dI)) (ci := 4) (v := .ref h4) (C := RX4) (T := TX4) (N := 12) hx hb hG zuX4 hown hK hP 0 rfl rfl 1 (by decide) (hG _ zv409) (fun _ h9 => h9) rfl dX4_wantedWord_25 ?_
    refine lv_lload_n hx hb dX4_wantedWord_28 rfl (lv_at hl 0 rfl) ?_
    have hPc := hP.sub (ws' := [(h4, .inr (10, mX10 h5 h6 h7 h8 h9 h10 v4)), (h5, .inl (k5, 400, .inr (.inl f5)))]) [6, 7] rfl
    have hDc := hD.sub (ws' := [(h4, .inr (10, mX10 h5 h6 h7 h8 h9 h10 v4)), (h5, .inl (k5, 400, .inr (.inl f5)))]) [6, 7] (by decide) rfl
    have hKc := hK.sub (tys' := [(k5, .long)]) [3] rfl
    have hFc := va_free (wc := [(h4, .inr (10, mX10 h5 h6 h7 h8 h9 h10 v4)), (h5, .inl (k5, 400, .inr (.inl f5)))]) hD hS hA [6, 7] rfl
    refine va_calli (va_runV (As := [.long r5_]) (rest := []) ⟨hx, hb, hml, hown, hG⟩ (sX10_rankOf_1 l dC dI adK adV h4 h5 h6 h7 h8 h9 h10 k5 H.size v4 f5 r5_ hv4) (cwV 1 hG (zgV zv1136 zv740 zv741 zv131 zv742) rfl rfl rfl (by decide +kernel) ⟨Nat.le_of_ble_eq_true rfl, Nat.le_of_ble_eq_true rfl⟩) ⟨zPc_blind, va_recv hKc hPc (ci := 10) (q0 := 0) rfl rfl, zPc_pre hPc hKc hDc hE hS hFc hZ⟩ rfl rfl hl.1 rfl (lv_room (Nat.le_of_ble_eq_true rfl)) dX4_wantedWord_29 ⟨Nat.le_of_ble_eq_true rfl, Nat.le_of_ble_eq_true rfl⟩) hS (fun q _ h => hFc q h) hFc (fun r29_ u29_ t H1 locs ht hvm hw hB hz1 hk1 hS => ?_)
    replace hw : ((-1) ≤ r29_.toInt ∧ r29_.toInt ≤ 399) ∧ (r29_.toInt < (v4 7).toInt) ∧ (zRf f5 (v4 7).toInt r5_.toInt r29_.toInt) := hw
    obtain ⟨b_, hX29_0, hX29_1⟩ := hw
    obtain ⟨w29_, a29_, b29_, hP1, hK1, hD1⟩ := hB
    rw [ht] at hP1
    obtain ⟨hP, hD⟩ := va_join (wr := [(h0, .inr (4, mX4 h1 h4 h11 h18 v0)), (h1, .inr (9, mX9 h2 h3 (upd v1 3 (u5_ 0)))), (h2, zi k2 600 f2), (h3, zi k3 12 (a5_ 0)), (h11, .inr (10, mX10 h12 h13 h14 h15 h16 h17 v11)), (h12, .inl (k12, 10, .inr (.inl f12)))]) (w1 := [(h4, .inr (10, mX10 h5 h6 h7 h8 h9 h10 v4)), (h5, .inl (k5, 400, .inr (.inl f5)))]) hP hD [6, 7] [0, 1, 2, 3, 4, 5] rfl rfl (by decide) (by decide) hk1 hFc hP1 hD1
    have hP : va_P (dC, dI) vwCl [(h0, .inr (4, mX4 h1 h4 h11 h18 v0)), (h1, .inr (9, mX9 h2 h3 (upd v1 3 (u5_ 0)))), (h2, zi k2 600 f2), (h3, zi k3 12 (a5_ 0)), (h11, .inr (10, mX10 h12 h13 h14 h15 h16 h17 v11)), (h12, .inl (k12, 10, .inr (.inl f12))), (h4, .inr (10, mX10 h5 h6 h7 h8 h9 h10 v4)), (h5, .inl (k5, 400, .inr (.inl f5)))] H1 := hP.sub [0, 1, 2, 3, 4, 5, 6, 7] rfl
    have hD : va_D A [(h0, .inr (4, mX4 h1 h4 h11 h18 v0)), (h1, .inr (9, mX9 h2 h3 (upd v1 3 (u5_ 0)))), (h2, zi k2 600 f2), (h3, zi k3 12 (a5_ 0)), (h11, .inr (10, mX10 h12 h13 h14 h15 h16 h17 v11)), (h12, .inl (k12, 10, .inr (.inl f12))), (h4, .inr (10, mX10 h5 h6 h7 h8 h9 h10 v4)), (h5, .inl (k5, 400, .inr (.inl f5)))] := hD.sub [0, 1, 2, 3, 4, 5, 6, 7] (by decide) rfl
    generalize H1 = H at hP hS ⊢
    clear hz1
    refine lv_istore (lv' := [(4, .int r29_), (2, .long r5_), (0, .ref h0), (1, .int x1)]) hx hb dX4_wantedWord_32 hl (by decide) rfl (fun ls hl => ?_)
    refine lv_iload hx hb dX4_wantedWord_34 (lv_at hl 0 rfl) ?_
    refine lv_iconst (v := (-1)) hx hb dX4_wantedWord_36 (by decide) ?_
    refine lv_icmp_ne (tgt := 45) hx hb dX4_wantedWord_37 (by decide) (fun c_ => ?_) (fun c_ => ?_)
    · skip
      have b_ := zT_ne rfl zk_m1 c_
      refine lv_iload hx hb dX4_wantedWord_45 (lv_at hl 0 rfl) ?_
      refine W.widen (k := 0) (n := 0) (by decide) (by decide) ?_
      have hpost : ((-3) ≤ r29_.toInt ∧ r29_.toInt ≤ 399) ∧ (0 ≤ (u5_ 0).toInt ∧ (u5_ 0).toInt ≤ 12) ∧ (0 ≤ x1.toInt → x1.toInt ≤ 600 → zWnd f2 (v1 2).toInt f5 (v4 7).toInt f12 (v11 7).toInt x1.toInt r29_.toInt) := ⟨(by first | with_reducible assumption | exact ⟨by omega, by omega⟩), (by first | with_reducible assumption | exact ⟨by omega, by omega⟩), by first | exact fun p0_ p1_ => zWnd_s (hX5_0 p0_ p1_) hX14_1 (by omega) (by decide) | exact fun p0_ p1_ => zWnd_u (hX5_0 p0_ p1_) hX14_1 (by omega) hX29_1 (by omega) (by decide) | exact fun p0_ p1_ => zWnd_k (hX5_0 p0_ p1_) hX14_1 (by omega) hX29_1 (by omega)⟩
      have hP9 : va_P (dC, dI) vwCl [(h0, .inr (4, mX4 h1 h4 h11 h18 v0)), (h1, .inr (9, mX9 h2 h3 (upd v1 3 (u5_ 0)))), (h2, zi k2 600 f2), (h3, zi k3 12 (a5_ 0)), (h11, .inr (10, mX10 h12 h13 h14 h15 h16 h17 v11)), (h12, .inl (k12, 10, .inr (.inl f12))), (h4, .inr (10, mX10 h5 h6 h7 h8 h9 h10 v4)), (h5, .inl (k5, 400, .inr (.inl f5)))] H := hP
      have hD9 : va_D A [(h0, .inr (4, mX4 h1 h4 h11 h18 v0)), (h1, .inr (9, mX9 h2 h3 (upd v1 3 (u5_ 0)))), (h2, zi k2 600 f2), (h3, zi k3 12 (a5_ 0)), (h11, .inr (10, mX10 h12 h13 h14 h15 h16 h17 v11)), (h12, .inl (k12, 10, .inr (.inl f12))), (h4, .inr (10, mX10 h5 h6 h7 h8 h9 h10 v4)), (h5, .inl (k5, 400, .inr (.inl f5)))] := hD
      exact W.iret (v := r29_) hx hb hr (fun t ht hW => ⟨⟨r29_, (fun i => ([(u5_ 0)] : List (Int32)).getD i 0), rfl, hpost, (fun _ => 0), (fun i => ([(a5_ 0)] : List (Nat → Int32)).getD i (fun _ => 0)), (fun _ => (fun _ => 0)), by rw [ht]; exact hP9, va_K.moved hW.alike hK, hD9⟩, hS.F ht⟩) hS.2.2 dX4_wantedWord_47
    · skip
      have b_ := zF_ne rfl zk_m1 c_
      refine lv_bipush (v := (-3)) hx hb dX4_wantedWord_40 (by decide) ?_
      refine lv_goto (tgt := 47) hx hb dX4_wantedWord_42 (by decide) ?_
      refine W.widen (k := 0) (n := 0) (by decide) (by decide) ?_
      have hpost : ((-3) ≤ ((-3) : Int32).toInt ∧ ((-3) : Int32).toInt ≤ 399) ∧ (0 ≤ (u5_ 0).toInt ∧ (u5_ 0).toInt ≤ 12) ∧ (0 ≤ x1.toInt → x1.toInt ≤ 600 → zWnd f2 (v1 2).toInt f5 (v4 7).toInt f12 (v11 7).toInt x1.toInt ((-3) : Int32).toInt) := ⟨(by first | with_reducible assumption | exact ⟨by omega, by omega⟩), (by first | with_reducible assumption | exact ⟨by omega, by omega⟩), by first | exact fun p0_ p1_ => zWnd_s (hX5_0 p0_ p1_) hX14_1 (by omega) (by decide) | exact fun p0_ p1_ => zWnd_u (hX5_0 p0_ p1_) hX14_1 (by omega) hX29_1 (by omega) (by decide) | exact fun p0_ p1_ => zWnd_k (hX5_0 p0_ p1_) hX14_1 (by omega) hX29_1 (by omega)⟩
      have hP9 : va_P (dC, dI) vwCl [(h0, .inr (4, mX4 h1 h4 h11 h18 v0)), (h1, .inr (9, mX9 h2 h3 (upd v1 3 (u5_ 0)))), (h2, zi k2 600 f2), (h3, zi k3 12 (a5_ 0)), (h11, .inr (10, mX10 h12 h13 h14 h15 h16 h17 v11)), (h12, .inl (k12, 10, .inr (.inl f12))), (h4, .inr (10, mX10 h5 h6 h7 h8 h9 h10 v4)), (h5, .inl (k5, 400, .inr (.inl f5)))] H := hP
      have hD9 : va_D A [(h0, .inr (4, mX4 h1 h4 h11 h18 v0)), (h1, .inr (9, mX9 h2 h3 (upd v1 3 (u5_ 0)))), (h2, zi k2 600 f2), (h3, zi k3 12 (a5_ 0)), (h11, .inr (10, mX10 h12 h13 h14 h15 h16 h17 v11)), (h12, .inl (k12, 10, .inr (.inl f12))), (h4, .inr (10, mX10 h5 h6 h7 h8 h9 h10 v4)), (h5, .inl (k5, 400, .inr (.inl f5)))] := hD
      exact W.iret (v := (-3)) hx hb hr (fun t ht hW => ⟨⟨(-3), (fun i => ([(u5_ 0)] : List (Int32)).getD i 0), rfl, hpost, (fun _ => 0), (fun i => ([(a5_ 0)] : List (Nat → Int32)).getD i (fun _ => 0)), (fun _ => (fun _ => 0)), by rw [ht]; exact hP9, va_K.moved hW.alike hK, hD9⟩, hS.F ht⟩) hS.2.2 dX4_wantedWord_47
  · skip
    have b_ := zF_eq rfl zk_m1 c_
    refine lv_bipush (v := (-2)) hx hb dX4_wantedWord_21 (by decide) ?_
    refine W.widen (k := 0) (n := 0) (by decide) (by decide) ?_
    have hpost : ((-3) ≤ ((-2) : Int32).toInt ∧ ((-2) : Int32).toInt ≤ 399) ∧ (0 ≤ (u5_ 0).toInt ∧ (u5_ 0).toInt ≤ 12) ∧ (0 ≤ x1.toInt → x1.toInt ≤ 600 → zWnd f2 (v1 2).toInt f5 (v4 7).toInt f12 (v11 7).toInt x1.toInt ((-2) : Int32).toInt) := ⟨(by first | with_reducible assumption | exact ⟨by omega, by omega⟩), (by first | with_reducible assumption | exact ⟨by omega, by omega⟩), by first | exact fun p0_ p1_ => zWnd_s (hX5_0 p0_ p1_) hX14_1 (by omega) (by decide) | exact fun p0_ p1_ => zWnd_u (hX5_0 p0_ p1_) hX14_1 (by omega) hX29_1 (by omega) (by decide) | exact fun p0_ p1_ => zWnd_k (hX5_0 p0_ p1_) hX14_1 (by omega) hX29_1 (by omega)⟩
    have hP9 : va_P (dC, dI) vwCl [(h0, .inr (4, mX4 h1 h4 h11 h18 v0)), (h1, .inr (9, mX9 h2 h3 (upd v1 3 (u5_ 0)))), (h2, zi k2 600 f2), (h3, zi k3 12 (a5_ 0)), (h11, .inr (10, mX10 h12 h13 h14 h15 h16 h17 v11)), (h12, .inl (k12, 10, .inr (.inl f12))), (h4, .inr (10, mX10 h5 h6 h7 h8 h9 h10 v4)), (h5, .inl (k5, 400, .inr (.inl f5)))] H := hP
    have hD9 : va_D A [(h0, .inr (4, mX4 h1 h4 h11 h18 v0)), (h1, .inr (9, mX9 h2 h3 (upd v1 3 (u5_ 0)))), (h2, zi k2 600 f2), (h3, zi k3 12 (a5_ 0)), (h11, .inr (10, mX10 h12 h13 h14 h15 h16 h17 v11)), (h12, .inl (k12, 10, .inr (.inl f12))), (h4, .inr (10, mX10 h5 h6 h7 h8 h9 h10 v4)), (h5, .inl (k5, 400, .inr (.inl f5)))] := hD
    exact W.iret (v := (-2)) hx hb hr (fun t ht hW => ⟨⟨(-2), (fun i => ([(u5_ 0)] : List (Int32)).getD i 0), rfl, hpost, (fun _ => 0), (fun i => ([(a5_ 0)] : List (Nat → Int32)).getD i (fun _ => 0)), (fun _ => (fun _ => 0)), by rw [ht]; exact hP9, va_K.moved hW.alike hK, hD9⟩, hS.F ht⟩) hS.2.2 dX4_wantedWord_23
set_option maxHeartbeats 8000000 in
set_option maxRecDepth 100000 in
theorem sX7_addPhraseWord_0 (l : Launch) (dC : Nat → ClassId) (dI : Nat → Nat → Nat) (adK adV : Nat → Nat) (h0 : Nat) (h6 : Nat) (h1 : Nat) (h2 : Nat) (h3 : Nat) (h4 : Nat) (h5 : Nat) (h7 : Nat) (k6 : ClassId) (sz : Nat) (v0 : Nat → Int32) (f6 : Nat → Int32) (x1 : Int32) (hv0 : zR rg_Query v0) : Met l yX7_addPhraseWord (zw yX7_addPhraseWord cX7_addPhraseWord 2 none) { frames := 0, cells := 0, slots := 0, locals := 0 } (zPc dC dI adK adV [.ref h0, .int x1] sz [(h0, .inr (7, mX7 h1 h2 h3 h4 h5 h6 h7 v0)), (h6, zi k6 160 f6)] [(k6, .int)]) (va_Qv (fun (u : Nat → Int32) => (1 ≤ (u 0).toInt ∧ (u 0).toInt ≤ 160) ∧ ((v0 8).toInt < 160 → (u 0).toInt = (v0 8).toInt + 1)) (fun (u : Nat → Int32) (t : State) => ∃ (ww : Nat → Int64) (aa : Nat → Nat → Int32) (bb : Nat → Nat → Int64), ((v0 8).toInt < 160 → (aa 0) = upd f6 ((v0 8)).toNatClampNeg (x1 : Int32)) ∧ va_P (dC, dI) vwCl [(h0, .inr (7, mX7 h1 h2 h3 h4 h5 h6 h7 (upd v0 8 (u 0)))), (h6, zi k6 160 (aa 0))] t.heap ∧ va_K (dC, dI) vwCl [(k6, .int)] t ∧ va_D (va_A [(h0, .inr (7, mX7 h1 h2 h3 h4 h5 h6 h7 v0)), (h6, zi k6 160 f6)] sz) [(h0, .inr (7, mX7 h1 h2 h3 h4 h5 h6 h7 (upd v0 8 (u 0)))), (h6, zi k6 160 (aa 0))]) (va_A [(h0, .inr (7, mX7 h1 h2 h3 h4 h5 h6 h7 v0)), (h6, zi k6 160 f6)] sz)) 0 0 (va_A [(h0, .inr (7, mX7 h1 h2 h3 h4 h5 h6 h7 v0)), (h6, zi k6 160 f6)] sz) := by
  refine Met.ofW (cc := cX7_addPhraseWord) (maxL := 2) (ret := none) (by decide) rfl ?_
  intro p e s m args below meth c s₁ B hml hv
  obtain ⟨rfl, hsz, hP, hK, hD0, hE, hZ⟩ := hv
  have hx := B.exec
  have hb := B.bytes
  have hr := B.returns
  have hG : ∀ w ∈ zG, w.before _ s = true := fun w h => atoms_spec (ws := (zw yX7_addPhraseWord cX7_addPhraseWord 2 none)) B.pre w (List.mem_cons_of_mem _ h)
  have hown : s.vm.findClass RX7 = some m.cls := findClass_of_methodNamed B.named
  have hlocks := B.notSynchronized

  subst hsz
  have hD := hD0.self (sz := s.heap.size)
  generalize hAe : va_A [(h0, .inr (7, mX7 h1 h2 h3 h4 h5 h6 h7 v0)), (h6, zi k6 160 f6)] s.heap.size = A at hD hZ ⊢
  have hA : ∀ q : Nat, s.heap.size ≤ q → A q := fun q h => by rw [← hAe]; exact Or.inr h
  have hS : va_S A s.heap s.heap [] := va_S.rf
  have hl := lv_entry ([.ref h0, .int x1]) (n := 2) (Nat.le_of_ble_eq_true rfl)
  rw [lg_entry_eq]
  generalize (lg_sl ([.ref h0, .int x1]) ++ List.replicate (2 - (lg_sl ([.ref h0, .int x1])).length) Slot.unset).toArray = ls at hl ⊢
  have hl : lv_has ls 2 [(0, .ref h0), (1, .int x1)] := hl
  have b_ : 0 ≤ (v0 8).toInt ∧ (v0 8).toInt ≤ 160 := hv0 8
  refine lv_aload_n hx hb dX7_addPhraseWord_0 rfl (lv_at hl 0 rfl) ?_
  refine va_get (D := (dC, dI)) (ci := 7) (v := .int (v0 8)) (C := RX7) (T := TX7) (N := 12) hx hb hG zuX7 hown hK hP 0 rfl rfl 8 (by decide) (hG _ zv373) (fun _ h9 => h9) rfl dX7_addPhraseWord_1 ?_
  refine lv_sipush (v := 160) hx hb dX7_addPhraseWord_4 (by decide) ?_
  refine lv_icmp_ge (tgt := 30) hx hb dX7_addPhraseWord_7 (by decide) (fun c_ => ?_) (fun c_ => ?_)
  · skip
    have b_ := zT_ge rfl zk_160 c_
    refine W.widen (k := 0) (n := 0) (by decide) (by decide) ?_
    have hpost : (1 ≤ (v0 8).toInt ∧ (v0 8).toInt ≤ 160) ∧ ((v0 8).toInt < 160 → (v0 8).toInt = (v0 8).toInt + 1) := ⟨(by first | with_reducible assumption | exact ⟨by omega, by omega⟩), by omega⟩
    have hP9 : va_P (dC, dI) vwCl [(h0, .inr (7, mX7 h1 h2 h3 h4 h5 h6 h7 (upd v0 8 (v0 8)))), (h6, zi k6 160 f6)] s.heap := hP
    have hD9 : va_D A [(h0, .inr (7, mX7 h1 h2 h3 h4 h5 h6 h7 (upd v0 8 (v0 8)))), (h6, zi k6 160 f6)] := hD
    have hB0 : (v0 8).toInt < 160 → f6 = upd f6 ((v0 8)).toNatClampNeg (x1 : Int32) := by first | exact fun _ => e_f_19 | (intro q_; exact False.elim (by omega))
    exact W.vret hx hb hr (fun t ht hW => ⟨⟨(fun i => ([(v0 8)] : List (Int32)).getD i 0), rfl, hpost, (fun _ => 0), (fun i => ([f6] : List (Nat → Int32)).getD i (fun _ => 0)), (fun _ => (fun _ => 0)), hB0, by rw [ht]; exact hP9, va_K.moved hW.alike hK, hD9⟩, hS.F ht⟩) hS.2.2 dX7_addPhraseWord_30
  · skip
    have b_ := zF_ge rfl zk_160 c_
    refine lv_aload_n hx hb dX7_addPhraseWord_10 rfl (lv_at hl 0 rfl) ?_
    refine va_get (D := (dC, dI)) (ci := 7) (v := .ref h6) (C := RX7) (T := TX7) (N := 12) hx hb hG zuX7 hown hK hP 0 rfl rfl 5 (by decide) (hG _ zv370) (fun _ h9 => h9) rfl dX7_addPhraseWord_11 ?_
    refine lv_aload_n hx hb dX7_addPhraseWord_14 rfl (lv_at hl 0 rfl) ?_
    refine va_get (D := (dC, dI)) (ci := 7) (v := .int (v0 8)) (C := RX7) (T := TX7) (N := 12) hx hb hG zuX7 hown hK hP 0 rfl rfl 8 (by decide) (hG _ zv373) (fun _ h9 => h9) rfl dX7_addPhraseWord_15 ?_
    refine lv_iload_n hx hb dX7_addPhraseWord_18 rfl (lv_at hl 1 rfl) ?_
    refine va_iast hx hb hK hP hD hS 1 0 rfl rfl (zin_lit ⟨by omega, by omega⟩) dX7_addPhraseWord_19 (fun H locs hP hD hS => ?_)
    obtain ⟨f_19, e_f_19⟩ : ∃ z : Nat → Int32, z = upd f6 ((v0 8) : Int32).toNatClampNeg x1 := ⟨_, rfl⟩
    have hP : va_P (dC, dI) vwCl [(h0, .inr (7, mX7 h1 h2 h3 h4 h5 h6 h7 v0)), (h6, zi k6 160 f_19)] H := by rw [e_f_19]; exact hP
    have hD : va_D A [(h0, .inr (7, mX7 h1 h2 h3 h4 h5 h6 h7 v0)), (h6, zi k6 160 f_19)] := by rw [e_f_19]; exact hD
    refine lv_aload_n hx hb dX7_addPhraseWord_20 rfl (lv_at hl 0 rfl) ?_
    refine lv_dup hx hb dX7_addPhraseWord_21 rfl ?_
    refine va_get (D := (dC, dI)) (ci := 7) (v := .int (v0 8)) (C := RX7) (T := TX7) (N := 12) hx hb hG zuX7 hown hK hP 0 rfl rfl 8 (by decide) (hG _ zv373) (fun _ h9 => h9) rfl dX7_addPhraseWord_22 ?_
    refine lv_iconst (v := 1) hx hb dX7_addPhraseWord_25 (by decide) ?_
    refine lv_iadd hx hb dX7_addPhraseWord_26 ?_
    refine lv_topi (fun z26 e_z26 => ?_)
    have b_ := zadd rfl zk_1 e_z26 (by omega) (by omega)
    refine va_put (D := (dC, dI)) (ci := 7) (v := .int z26) (ty := .int) (C := RX7) (T := TX7) (N := 12) hx hb hG zuX7 tyX7 tyX7_ok nmX7 hown hK hP hD hS 0 rfl rfl 8 (by decide) (hG _ zv373) (fun _ h9 => h9) rfl (by decide +kernel) rfl rfl (Nat.le_of_ble_eq_true rfl) dX7_addPhraseWord_27 (fun H locs hP hD hS => ?_)
    have hP : va_P (dC, dI) vwCl [(h0, .inr (7, mX7 h1 h2 h3 h4 h5 h6 h7 (upd v0 8 z26))), (h6, zi k6 160 f_19)] H := hP
    have hD : va_D A [(h0, .inr (7, mX7 h1 h2 h3 h4 h5 h6 h7 (upd v0 8 z26))), (h6, zi k6 160 f_19)] := hD
    refine W.widen (k := 0) (n := 0) (by decide) (by decide) ?_
    have hpost : (1 ≤ z26.toInt ∧ z26.toInt ≤ 160) ∧ ((v0 8).toInt < 160 → z26.toInt = (v0 8).toInt + 1) := ⟨(by first | with_reducible assumption | exact ⟨by omega, by omega⟩), by omega⟩
    have hP9 : va_P (dC, dI) vwCl [(h0, .inr (7, mX7 h1 h2 h3 h4 h5 h6 h7 (upd v0 8 z26))), (h6, zi k6 160 f_19)] H := hP
    have hD9 : va_D A [(h0, .inr (7, mX7 h1 h2 h3 h4 h5 h6 h7 (upd v0 8 z26))), (h6, zi k6 160 f_19)] := hD
    have hB0 : (v0 8).toInt < 160 → f_19 = upd f6 ((v0 8)).toNatClampNeg (x1 : Int32) := by first | exact fun _ => e_f_19 | (intro q_; exact False.elim (by omega))
    exact W.vret hx hb hr (fun t ht hW => ⟨⟨(fun i => ([z26] : List (Int32)).getD i 0), rfl, hpost, (fun _ => 0), (fun i => ([f_19] : List (Nat → Int32)).getD i (fun _ => 0)), (fun _ => (fun _ => 0)), hB0, by rw [ht]; exact hP9, va_K.moved hW.alike hK, hD9⟩, hS.F ht⟩) hS.2.2 dX7_addPhraseWord_30
set_option maxHeartbeats 8000000 in
set_option maxRecDepth 100000 in
theorem sX7_addStep_0 (l : Launch) (dC : Nat → ClassId) (dI : Nat → Nat → Nat) (adK adV : Nat → Nat) (h0 : Nat) (h7 : Nat) (h1 : Nat) (h2 : Nat) (h3 : Nat) (h4 : Nat) (h5 : Nat) (h6 : Nat) (k7 : ClassId) (sz : Nat) (v0 : Nat → Int32) (f7 : Nat → Int32) (x1 : Int32) (x2 : Int32) (hv0 : zR rg_Query v0) (hf7 : zA 0 12000 f7) (hx1 : 1 ≤ x1.toInt ∧ x1.toInt ≤ 11) (hx2 : (-1) ≤ x2.toInt ∧ x2.toInt ≤ 999) : Met l yX7_addStep (zw yX7_addStep cX7_addStep 3 none) { frames := 0, cells := 0, slots := 0, locals := 0 } (zPc dC dI adK adV [.ref h0, .int x1, .int x2] sz [(h0, .inr (7, mX7 h1 h2 h3 h4 h5 h6 h7 v0)), (h7, zi k7 270 f7)] [(k7, .int)]) (va_Qv (fun (u : Nat → Int32) => (1 ≤ (u 0).toInt ∧ (u 0).toInt ≤ 270) ∧ ((v0 9).toInt < 270 → (u 0).toInt = (v0 9).toInt + 1)) (fun (u : Nat → Int32) (t : State) => ∃ (ww : Nat → Int64) (aa : Nat → Nat → Int32) (bb : Nat → Nat → Int64), zA 0 12000 (aa 0) ∧ (∀ (L : List Int) (e : Int), e % 1000000 = 1000 * x1.toInt + x2.toInt → zCd f7 (v0 9).toInt L → (v0 9).toInt < 270 → zCd (aa 0) (u 0).toInt (L ++ [e])) ∧ va_P (dC, dI) vwCl [(h0, .inr (7, mX7 h1 h2 h3 h4 h5 h6 h7 (upd v0 9 (u 0)))), (h7, zi k7 270 (aa 0))] t.heap ∧ va_K (dC, dI) vwCl [(k7, .int)] t ∧ va_D (va_A [(h0, .inr (7, mX7 h1 h2 h3 h4 h5 h6 h7 v0)), (h7, zi k7 270 f7)] sz) [(h0, .inr (7, mX7 h1 h2 h3 h4 h5 h6 h7 (upd v0 9 (u 0)))), (h7, zi k7 270 (aa 0))]) (va_A [(h0, .inr (7, mX7 h1 h2 h3 h4 h5 h6 h7 v0)), (h7, zi k7 270 f7)] sz)) 0 0 (va_A [(h0, .inr (7, mX7 h1 h2 h3 h4 h5 h6 h7 v0)), (h7, zi k7 270 f7)] sz) := by
  refine Met.ofW (cc := cX7_addStep) (maxL := 3) (ret := none) (by decide) rfl ?_
  intro p e s m args below meth c s₁ B hml hv
  obtain ⟨rfl, hsz, hP, hK, hD0, hE, hZ⟩ := hv
  have hx := B.exec
  have hb := B.bytes
  have hr := B.returns
  have hG : ∀ w ∈ zG, w.before _ s = true := fun w h => atoms_spec (ws := (zw yX7_addStep cX7_addStep 3 none)) B.pre w (List.mem_cons_of_mem _ h)
  have hown : s.vm.findClass RX7 = some m.cls := findClass_of_methodNamed B.named
  have hlocks := B.notSynchronized

  subst hsz
  have hD := hD0.self (sz := s.heap.size)
  generalize hAe : va_A [(h0, .inr (7, mX7 h1 h2 h3 h4 h5 h6 h7 v0)), (h7, zi k7 270 f7)] s.heap.size = A at hD hZ ⊢
  have hA : ∀ q : Nat, s.heap.size ≤ q → A q := fun q h => by rw [← hAe]; exact Or.inr h
  have hS : va_S A s.heap s.heap [] := va_S.rf
  have hl := lv_entry ([.ref h0, .int x1, .int x2]) (n := 3) (Nat.le_of_ble_eq_true rfl)
  rw [lg_entry_eq]
  generalize (lg_sl ([.ref h0, .int x1, .int x2]) ++ List.replicate (3 - (lg_sl ([.ref h0, .int x1, .int x2])).length) Slot.unset).toArray = ls at hl ⊢
  have hl : lv_has ls 3 [(0, .ref h0), (1, .int x1), (2, .int x2)] := hl
  have b_ : 0 ≤ (v0 9).toInt ∧ (v0 9).toInt ≤ 270 := hv0 9
  refine lv_aload_n hx hb dX7_addStep_0 rfl (lv_at hl 0 rfl) ?_
  refine va_get (D := (dC, dI)) (ci := 7) (v := .int (v0 9)) (C := RX7) (T := TX7) (N := 12) hx hb hG zuX7 hown hK hP 0 rfl rfl 9 (by decide) (hG _ zv374) (fun _ h9 => h9) rfl dX7_addStep_1 ?_
  refine lv_sipush (v := 270) hx hb dX7_addStep_4 (by decide) ?_
  refine lv_icmp_ge (tgt := 36) hx hb dX7_addStep_7 (by decide) (fun c_ => ?_) (fun c_ => ?_)
  · skip
    have b_ := zT_ge rfl zk_270 c_
    refine W.widen (k := 0) (n := 0) (by decide) (by decide) ?_
    have hpost : (1 ≤ (v0 9).toInt ∧ (v0 9).toInt ≤ 270) ∧ ((v0 9).toInt < 270 → (v0 9).toInt = (v0 9).toInt + 1) := ⟨(by first | with_reducible assumption | exact ⟨by omega, by omega⟩), by omega⟩
    have hP9 : va_P (dC, dI) vwCl [(h0, .inr (7, mX7 h1 h2 h3 h4 h5 h6 h7 (upd v0 9 (v0 9)))), (h7, zi k7 270 f7)] s.heap := hP
    have hD9 : va_D A [(h0, .inr (7, mX7 h1 h2 h3 h4 h5 h6 h7 (upd v0 9 (v0 9)))), (h7, zi k7 270 f7)] := hD
    have hB0 : ∀ (L : List Int) (e : Int), e % 1000000 = 1000 * x1.toInt + x2.toInt → zCd f7 (v0 9).toInt L → (v0 9).toInt < 270 → zCd f7 (v0 9).toInt (L ++ [e]) := by first | (intro L_ e_ he_ h_ q_; exact False.elim (by omega)) | (intro L_ e_ he_ h_ q_; rw [e_f_25]; exact zCd_p h_ (by omega) (by omega) (by omega))
    exact W.vret hx hb hr (fun t ht hW => ⟨⟨(fun i => ([(v0 9)] : List (Int32)).getD i 0), rfl, hpost, (fun _ => 0), (fun i => ([f7] : List (Nat → Int32)).getD i (fun _ => 0)), (fun _ => (fun _ => 0)), hf7, hB0, by rw [ht]; exact hP9, va_K.moved hW.alike hK, hD9⟩, hS.F ht⟩) hS.2.2 dX7_addStep_36
  · skip
    have b_ := zF_ge rfl zk_270 c_
    refine lv_aload_n hx hb dX7_addStep_10 rfl (lv_at hl 0 rfl) ?_
    refine va_get (D := (dC, dI)) (ci := 7) (v := .ref h7) (C := RX7) (T := TX7) (N := 12) hx hb hG zuX7 hown hK hP 0 rfl rfl 6 (by decide) (hG _ zv371) (fun _ h9 => h9) rfl dX7_addStep_11 ?_
    refine lv_aload_n hx hb dX7_addStep_14 rfl (lv_at hl 0 rfl) ?_
    refine va_get (D := (dC, dI)) (ci := 7) (v := .int (v0 9)) (C := RX7) (T := TX7) (N := 12) hx hb hG zuX7 hown hK hP 0 rfl rfl 9 (by decide) (hG _ zv374) (fun _ h9 => h9) rfl dX7_addStep_15 ?_
    refine lv_sipush (v := 1000) hx hb dX7_addStep_18 (by decide) ?_
    refine lv_iload_n hx hb dX7_addStep_21 rfl (lv_at hl 1 rfl) ?_
    refine lv_imul hx hb dX7_addStep_22 ?_
    refine lv_topi (fun z22 e_z22 => ?_)
    have b_ := zmul zk_1000 rfl e_z22 (by omega) (by omega)
    refine lv_iload_n hx hb dX7_addStep_23 rfl (lv_at hl 2 rfl) ?_
    refine lv_iadd hx hb dX7_addStep_24 ?_
    refine lv_topi (fun z24 e_z24 => ?_)
    have b_ := zadd rfl rfl e_z24 (by omega) (by omega)
    refine va_iast hx hb hK hP hD hS 1 0 rfl rfl (zin_lit ⟨by omega, by omega⟩) dX7_addStep_25 (fun H locs hP hD hS => ?_)
    obtain ⟨f_25, e_f_25⟩ : ∃ z : Nat → Int32, z = upd f7 ((v0 9) : Int32).toNatClampNeg z24 := ⟨_, rfl⟩
    have hP : va_P (dC, dI) vwCl [(h0, .inr (7, mX7 h1 h2 h3 h4 h5 h6 h7 v0)), (h7, zi k7 270 f_25)] H := by rw [e_f_25]; exact hP
    have hD : va_D A [(h0, .inr (7, mX7 h1 h2 h3 h4 h5 h6 h7 v0)), (h7, zi k7 270 f_25)] := by rw [e_f_25]; exact hD
    have hf_25 : zA 0 12000 f_25 := by rw [e_f_25]; exact zA_upd hf7 (show 0 ≤ (z24 : Int32).toInt from by omega) (show (z24 : Int32).toInt ≤ 12000 from by omega)
    refine lv_aload_n hx hb dX7_addStep_26 rfl (lv_at hl 0 rfl) ?_
    refine lv_dup hx hb dX7_addStep_27 rfl ?_
    refine va_get (D := (dC, dI)) (ci := 7) (v := .int (v0 9)) (C := RX7) (T := TX7) (N := 12) hx hb hG zuX7 hown hK hP 0 rfl rfl 9 (by decide) (hG _ zv374) (fun _ h9 => h9) rfl dX7_addStep_28 ?_
    refine lv_iconst (v := 1) hx hb dX7_addStep_31 (by decide) ?_
    refine lv_iadd hx hb dX7_addStep_32 ?_
    refine lv_topi (fun z32 e_z32 => ?_)
    have b_ := zadd rfl zk_1 e_z32 (by omega) (by omega)
    refine va_put (D := (dC, dI)) (ci := 7) (v := .int z32) (ty := .int) (C := RX7) (T := TX7) (N := 12) hx hb hG zuX7 tyX7 tyX7_ok nmX7 hown hK hP hD hS 0 rfl rfl 9 (by decide) (hG _ zv374) (fun _ h9 => h9) rfl (by decide +kernel) rfl rfl (Nat.le_of_ble_eq_true rfl) dX7_addStep_33 (fun H locs hP hD hS => ?_)
    have hP : va_P (dC, dI) vwCl [(h0, .inr (7, mX7 h1 h2 h3 h4 h5 h6 h7 (upd v0 9 z32))), (h7, zi k7 270 f_25)] H := hP
    have hD : va_D A [(h0, .inr (7, mX7 h1 h2 h3 h4 h5 h6 h7 (upd v0 9 z32))), (h7, zi k7 270 f_25)] := hD
    refine W.widen (k := 0) (n := 0) (by decide) (by decide) ?_
    have hpost : (1 ≤ z32.toInt ∧ z32.toInt ≤ 270) ∧ ((v0 9).toInt < 270 → z32.toInt = (v0 9).toInt + 1) := ⟨(by first | with_reducible assumption | exact ⟨by omega, by omega⟩), by omega⟩
    have hP9 : va_P (dC, dI) vwCl [(h0, .inr (7, mX7 h1 h2 h3 h4 h5 h6 h7 (upd v0 9 z32))), (h7, zi k7 270 f_25)] H := hP
    have hD9 : va_D A [(h0, .inr (7, mX7 h1 h2 h3 h4 h5 h6 h7 (upd v0 9 z32))), (h7, zi k7 270 f_25)] := hD
    have hB0 : ∀ (L : List Int) (e : Int), e % 1000000 = 1000 * x1.toInt + x2.toInt → zCd f7 (v0 9).toInt L → (v0 9).toInt < 270 → zCd f_25 z32.toInt (L ++ [e]) := by first | (intro L_ e_ he_ h_ q_; exact False.elim (by omega)) | (intro L_ e_ he_ h_ q_; rw [e_f_25]; exact zCd_p h_ (by omega) (by omega) (by omega))
    exact W.vret hx hb hr (fun t ht hW => ⟨⟨(fun i => ([z32] : List (Int32)).getD i 0), rfl, hpost, (fun _ => 0), (fun i => ([f_25] : List (Nat → Int32)).getD i (fun _ => 0)), (fun _ => (fun _ => 0)), hf_25, hB0, by rw [ht]; exact hP9, va_K.moved hW.alike hK, hD9⟩, hS.F ht⟩) hS.2.2 dX7_addStep_36
set_option maxHeartbeats 8000000 in
set_option maxRecDepth 100000 in
theorem sX7_addLeaf_0 (l : Launch) (dC : Nat → ClassId) (dI : Nat → Nat → Nat) (adK adV : Nat → Nat) (h0 : Nat) (h1 : Nat) (h2 : Nat) (h3 : Nat) (h4 : Nat) (h5 : Nat) (h7 : Nat) (h6 : Nat) (k1 : ClassId) (k2 : ClassId) (k3 : ClassId) (k4 : ClassId) (k5 : ClassId) (k7 : ClassId) (k6 : ClassId) (sz : Nat) (v0 : Nat → Int32) (f1 : Nat → Int32) (f2 : Nat → Int32) (f3 : Nat → Int32) (f4 : Nat → Int32) (f5 : Nat → Int32) (f7 : Nat → Int32) (f6 : Nat → Int32) (x1 : Int32) (x2 : Int32) (x3 : Int32) (x4 : Int32) (x5 : Int32) (hv0 : zR rg_Query v0) (hf7 : zA 0 12000 f7) (hx1 : 1 ≤ x1.toInt ∧ x1.toInt ≤ 4) (hx5 : 0 ≤ x5.toInt ∧ x5.toInt ≤ 1) : Met l yX7_addLeaf (zw yX7_addLeaf cX7_addLeaf 6 none) { frames := 1, cells := 0, slots := 0, locals := 40 } (zPc dC dI adK adV [.ref h0, .int x1, .int x2, .int x3, .int x4, .int x5] sz [(h0, .inr (7, mX7 h1 h2 h3 h4 h5 h6 h7 v0)), (h1, zi k1 40 f1), (h2, zi k2 40 f2), (h3, zi k3 40 f3), (h4, zi k4 40 f4), (h5, zi k5 40 f5), (h7, zi k7 270 f7), (h6, zi k6 160 f6)] [(k1, .int), (k2, .int), (k3, .int), (k4, .int), (k5, .boolean), (k7, .int), (k6, .int)]) (va_Qv (fun (u : Nat → Int32) => (1 ≤ (u 0).toInt ∧ (u 0).toInt ≤ 40) ∧ (0 ≤ (u 1).toInt ∧ (u 1).toInt ≤ 270) ∧ ((v0 7).toInt < 40 → (u 0).toInt = (v0 7).toInt + 1) ∧ (40 ≤ (v0 7).toInt → (u 0).toInt = (v0 7).toInt) ∧ ((v0 7).toInt < 40 → (v0 9).toInt < 270 → (u 1).toInt = (v0 9).toInt + 1)) (fun (u : Nat → Int32) (t : State) => ∃ (ww : Nat → Int64) (aa : Nat → Nat → Int32) (bb : Nat → Nat → Int64), zA 0 12000 (aa 5) ∧ ((v0 7).toInt < 40 → 1 ≤ x1.toInt → x1.toInt ≤ 4 → 0 ≤ x4.toInt → x4.toInt ≤ 3 → zAl (zqa f7 f1 f2 f3 f4 f6 f5) (zqa (aa 5) (aa 0) (aa 1) (aa 2) (aa 3) f6 (aa 4)) (v0 7).toInt (u 0).toInt (v0 8).toInt (v0 9).toInt (u 1).toInt x1.toInt x2.toInt x3.toInt x4.toInt x5.toInt) ∧ va_P (dC, dI) vwCl [(h0, .inr (7, mX7 h1 h2 h3 h4 h5 h6 h7 (upd (upd (upd (upd v0 7 (u 0)) 9 (u 1)) 10 (u 2)) 11 (u 3)))), (h1, zi k1 40 (aa 0)), (h2, zi k2 40 (aa 1)), (h3, zi k3 40 (aa 2)), (h4, zi k4 40 (aa 3)), (h5, zi k5 40 (aa 4)), (h7, zi k7 270 (aa 5)), (h6, zi k6 160 f6)] t.heap ∧ va_K (dC, dI) vwCl [(k1, .int), (k2, .int), (k3, .int), (k4, .int), (k5, .boolean), (k7, .int), (k6, .int)] t ∧ va_D (va_A [(h0, .inr (7, mX7 h1 h2 h3 h4 h5 h6 h7 v0)), (h1, zi k1 40 f1), (h2, zi k2 40 f2), (h3, zi k3 40 f3), (h4, zi k4 40 f4), (h5, zi k5 40 f5), (h7, zi k7 270 f7), (h6, zi k6 160 f6)] sz) [(h0, .inr (7, mX7 h1 h2 h3 h4 h5 h6 h7 (upd (upd (upd (upd v0 7 (u 0)) 9 (u 1)) 10 (u 2)) 11 (u 3)))), (h1, zi k1 40 (aa 0)), (h2, zi k2 40 (aa 1)), (h3, zi k3 40 (aa 2)), (h4, zi k4 40 (aa 3)), (h5, zi k5 40 (aa 4)), (h7, zi k7 270 (aa 5)), (h6, zi k6 160 f6)]) (va_A [(h0, .inr (7, mX7 h1 h2 h3 h4 h5 h6 h7 v0)), (h1, zi k1 40 f1), (h2, zi k2 40 f2), (h3, zi k3 40 f3), (h4, zi k4 40 f4), (h5, zi k5 40 f5), (h7, zi k7 270 f7), (h6, zi k6 160 f6)] sz)) 0 0 (va_A [(h0, .inr (7, mX7 h1 h2 h3 h4 h5 h6 h7 v0)), (h1, zi k1 40 f1), (h2, zi k2 40 f2), (h3, zi k3 40 f3), (h4, zi k4 40 f4), (h5, zi k5 40 f5), (h7, zi k7 270 f7), (h6, zi k6 160 f6)] sz) := by
  refine Met.ofW (cc := cX7_addLeaf) (maxL := 6) (ret := none) (by decide) rfl ?_
  intro p e s m args below meth c s₁ B hml hv
  obtain ⟨rfl, hsz, hP, hK, hD0, hE, hZ⟩ := hv
  have hx := B.exec
  have hb := B.bytes
  have hr := B.returns
  have hG : ∀ w ∈ zG, w.before _ s = true := fun w h => atoms_spec (ws := (zw yX7_addLeaf cX7_addLeaf 6 none)) B.pre w (List.mem_cons_of_mem _ h)
  have hown : s.vm.findClass RX7 = some m.cls := findClass_of_methodNamed B.named
  have hlocks := B.notSynchronized

  subst hsz
  have hD := hD0.self (sz := s.heap.size)
  generalize hAe : va_A [(h0, .inr (7, mX7 h1 h2 h3 h4 h5 h6 h7 v0)), (h1, zi k1 40 f1), (h2, zi k2 40 f2), (h3, zi k3 40 f3), (h4, zi k4 40 f4), (h5, zi k5 40 f5), (h7, zi k7 270 f7), (h6, zi k6 160 f6)] s.heap.size = A at hD hZ ⊢
  have hA : ∀ q : Nat, s.heap.size ≤ q → A q := fun q h => by rw [← hAe]; exact Or.inr h
  have hS : va_S A s.heap s.heap [] := va_S.rf
  have hl := lv_entry ([.ref h0, .int x1, .int x2, .int x3, .int x4, .int x5]) (n := 6) (Nat.le_of_ble_eq_true rfl)
  rw [lg_entry_eq]
  generalize (lg_sl ([.ref h0, .int x1, .int x2, .int x3, .int x4, .int x5]) ++ List.replicate (6 - (lg_sl ([.ref h0, .int x1, .int x2, .int x3, .int x4, .int x5])).length) Slot.unset).toArray = ls at hl ⊢
  have hl : lv_has ls 6 [(0, .ref h0), (1, .int x1), (2, .int x2), (3, .int x3), (4, .int x4), (5, .int x5)] := hl
  have b_ : 0 ≤ (v0 7).toInt ∧ (v0 7).toInt ≤ 40 := hv0 7
  have b_ : 0 ≤ (v0 9).toInt ∧ (v0 9).toInt ≤ 270 := hv0 9
  refine lv_aload_n hx hb dX7_addLeaf_0 rfl (lv_at hl 0 rfl) ?_
  refine va_get (D := (dC, dI)) (ci := 7) (v := .int (v0 7)) (C := RX7) (T := TX7) (N := 12) hx hb hG zuX7 hown hK hP 0 rfl rfl 7 (by decide) (hG _ zv372) (fun _ h9 => h9) rfl dX7_addLeaf_1 ?_
  refine lv_bipush (v := 40) hx hb dX7_addLeaf_4 (by decide) ?_
  refine lv_icmp_ge (tgt := 105) hx hb dX7_addLeaf_6 (by decide) (fun c_ => ?_) (fun c_ => ?_)
  · skip
    have b_ := zT_ge rfl zk_40 c_
    refine W.widen (k := 0) (n := 0) (by decide) (by decide) ?_
    have b_ : -2147483648 ≤ (v0 10).toInt ∧ (v0 10).toInt ≤ 2147483647 := ⟨zlo _, zhi _⟩
    have b_ : -2147483648 ≤ (v0 11).toInt ∧ (v0 11).toInt ≤ 2147483647 := ⟨zlo _, zhi _⟩
    have hpost : (1 ≤ (v0 7).toInt ∧ (v0 7).toInt ≤ 40) ∧ (0 ≤ (v0 9).toInt ∧ (v0 9).toInt ≤ 270) ∧ ((v0 7).toInt < 40 → (v0 7).toInt = (v0 7).toInt + 1) ∧ (40 ≤ (v0 7).toInt → (v0 7).toInt = (v0 7).toInt) ∧ ((v0 7).toInt < 40 → (v0 9).toInt < 270 → (v0 9).toInt = (v0 9).toInt + 1) := ⟨(by first | with_reducible assumption | exact ⟨by omega, by omega⟩), (by first | with_reducible assumption | exact ⟨by omega, by omega⟩), by omega, by omega, by omega⟩
    have hP9 : va_P (dC, dI) vwCl [(h0, .inr (7, mX7 h1 h2 h3 h4 h5 h6 h7 (upd (upd (upd (upd v0 7 (v0 7)) 9 (v0 9)) 10 (v0 10)) 11 (v0 11)))), (h1, zi k1 40 f1), (h2, zi k2 40 f2), (h3, zi k3 40 f3), (h4, zi k4 40 f4), (h5, zi k5 40 f5), (h7, zi k7 270 f7), (h6, zi k6 160 f6)] s.heap := hP
    have hD9 : va_D A [(h0, .inr (7, mX7 h1 h2 h3 h4 h5 h6 h7 (upd (upd (upd (upd v0 7 (v0 7)) 9 (v0 9)) 10 (v0 10)) 11 (v0 11)))), (h1, zi k1 40 f1), (h2, zi k2 40 f2), (h3, zi k3 40 f3), (h4, zi k4 40 f4), (h5, zi k5 40 f5), (h7, zi k7 270 f7), (h6, zi k6 160 f6)] := hD
    have hB0 : (v0 7).toInt < 40 → 1 ≤ x1.toInt → x1.toInt ≤ 4 → 0 ≤ x4.toInt → x4.toInt ≤ 3 → zAl (zqa f7 f1 f2 f3 f4 f6 f5) (zqa f7 f1 f2 f3 f4 f6 f5) (v0 7).toInt (v0 7).toInt (v0 8).toInt (v0 9).toInt (v0 9).toInt x1.toInt x2.toInt x3.toInt x4.toInt x5.toInt := by first | (intro l_ k1_ k4_ s0_ s3_; exact False.elim (by omega)) | exact fun l_ k1_ k4_ s0_ s3_ => zAl_i e_f_18 e_f_28 e_f_38 e_f_49 e_f_60 s0_ s3_ (by omega) (by omega) rfl (by omega) (by omega) k1_ k4_ hB67_0
    exact W.vret hx hb hr (fun t ht hW => ⟨⟨(fun i => ([(v0 7), (v0 9), (v0 10), (v0 11)] : List (Int32)).getD i 0), rfl, hpost, (fun _ => 0), (fun i => ([f1, f2, f3, f4, f5, f7] : List (Nat → Int32)).getD i (fun _ => 0)), (fun _ => (fun _ => 0)), hf7, hB0, by rw [ht]; exact hP9, va_K.moved hW.alike hK, hD9⟩, hS.F ht⟩) hS.2.2 dX7_addLeaf_105
  · skip
    have b_ := zF_ge rfl zk_40 c_
    refine lv_aload_n hx hb dX7_addLeaf_9 rfl (lv_at hl 0 rfl) ?_
    refine va_get (D := (dC, dI)) (ci := 7) (v := .ref h1) (C := RX7) (T := TX7) (N := 12) hx hb hG zuX7 hown hK hP 0 rfl rfl 0 (by decide) (hG _ zv365) (fun _ h9 => h9) rfl dX7_addLeaf_10 ?_
    refine lv_aload_n hx hb dX7_addLeaf_13 rfl (lv_at hl 0 rfl) ?_
    refine va_get (D := (dC, dI)) (ci := 7) (v := .int (v0 7)) (C := RX7) (T := TX7) (N := 12) hx hb hG zuX7 hown hK hP 0 rfl rfl 7 (by decide) (hG _ zv372) (fun _ h9 => h9) rfl dX7_addLeaf_14 ?_
    refine lv_iload_n hx hb dX7_addLeaf_17 rfl (lv_at hl 1 rfl) ?_
    refine va_iast hx hb hK hP hD hS 1 0 rfl rfl (zin_lit ⟨by omega, by omega⟩) dX7_addLeaf_18 (fun H locs hP hD hS => ?_)
    obtain ⟨f_18, e_f_18⟩ : ∃ z : Nat → Int32, z = upd f1 ((v0 7) : Int32).toNatClampNeg x1 := ⟨_, rfl⟩
    have hP : va_P (dC, dI) vwCl [(h0, .inr (7, mX7 h1 h2 h3 h4 h5 h6 h7 v0)), (h1, zi k1 40 f_18), (h2, zi k2 40 f2), (h3, zi k3 40 f3), (h4, zi k4 40 f4), (h5, zi k5 40 f5), (h7, zi k7 270 f7), (h6, zi k6 160 f6)] H := by rw [e_f_18]; exact hP
    have hD : va_D A [(h0, .inr (7, mX7 h1 h2 h3 h4 h5 h6 h7 v0)), (h1, zi k1 40 f_18), (h2, zi k2 40 f2), (h3, zi k3 40 f3), (h4, zi k4 40 f4), (h5, zi k5 40 f5), (h7, zi k7 270 f7), (h6, zi k6 160 f6)] := by rw [e_f_18]; exact hD
    refine lv_aload_n hx hb dX7_addLeaf_19 rfl (lv_at hl 0 rfl) ?_
    refine va_get (D := (dC, dI)) (ci := 7) (v := .ref h2) (C := RX7) (T := TX7) (N := 12) hx hb hG zuX7 hown hK hP 0 rfl rfl 1 (by decide) (hG _ zv366) (fun _ h9 => h9) rfl dX7_addLeaf_20 ?_
    refine lv_aload_n hx hb dX7_addLeaf_23 rfl (lv_at hl 0 rfl) ?_
    refine va_get (D := (dC, dI)) (ci := 7) (v := .int (v0 7)) (C := RX7) (T := TX7) (N := 12) hx hb hG zuX7 hown hK hP 0 rfl rfl 7 (by decide) (hG _ zv372) (fun _ h9 => h9) rfl dX7_addLeaf_24 ?_
    refine lv_iload_n hx hb dX7_addLeaf_27 rfl (lv_at hl 2 rfl) ?_
    refine va_iast hx hb hK hP hD hS 2 1 rfl rfl (zin_lit ⟨by omega, by omega⟩) dX7_addLeaf_28 (fun H locs hP hD hS => ?_)
    obtain ⟨f_28, e_f_28⟩ : ∃ z : Nat → Int32, z = upd f2 ((v0 7) : Int32).toNatClampNeg x2 := ⟨_, rfl⟩
    have hP : va_P (dC, dI) vwCl [(h0, .inr (7, mX7 h1 h2 h3 h4 h5 h6 h7 v0)), (h1, zi k1 40 f_18), (h2, zi k2 40 f_28), (h3, zi k3 40 f3), (h4, zi k4 40 f4), (h5, zi k5 40 f5), (h7, zi k7 270 f7), (h6, zi k6 160 f6)] H := by rw [e_f_28]; exact hP
    have hD : va_D A [(h0, .inr (7, mX7 h1 h2 h3 h4 h5 h6 h7 v0)), (h1, zi k1 40 f_18), (h2, zi k2 40 f_28), (h3, zi k3 40 f3), (h4, zi k4 40 f4), (h5, zi k5 40 f5), (h7, zi k7 270 f7), (h6, zi k6 160 f6)] := by rw [e_f_28]; exact hD
    refine lv_aload_n hx hb dX7_addLeaf_29 rfl (lv_at hl 0 rfl) ?_
    refine va_get (D := (dC, dI)) (ci := 7) (v := .ref h3) (C := RX7) (T := TX7) (N := 12) hx hb hG zuX7 hown hK hP 0 rfl rfl 2 (by decide) (hG _ zv367) (fun _ h9 => h9) rfl dX7_addLeaf_30 ?_
    refine lv_aload_n hx hb dX7_addLeaf_33 rfl (lv_at hl 0 rfl) ?_
    refine va_get (D := (dC, dI)) (ci := 7) (v := .int (v0 7)) (C := RX7) (T := TX7) (N := 12) hx hb hG zuX7 hown hK hP 0 rfl rfl 7 (by decide) (hG _ zv372) (fun _ h9 => h9) rfl dX7_addLeaf_34 ?_
    refine lv_iload_n hx hb dX7_addLeaf_37 rfl (lv_at hl 3 rfl) ?_
    refine va_iast hx hb hK hP hD hS 3 2 rfl rfl (zin_lit ⟨by omega, by omega⟩) dX7_addLeaf_38 (fun H locs hP hD hS => ?_)
    obtain ⟨f_38, e_f_38⟩ : ∃ z : Nat → Int32, z = upd f3 ((v0 7) : Int32).toNatClampNeg x3 := ⟨_, rfl⟩
    have hP : va_P (dC, dI) vwCl [(h0, .inr (7, mX7 h1 h2 h3 h4 h5 h6 h7 v0)), (h1, zi k1 40 f_18), (h2, zi k2 40 f_28), (h3, zi k3 40 f_38), (h4, zi k4 40 f4), (h5, zi k5 40 f5), (h7, zi k7 270 f7), (h6, zi k6 160 f6)] H := by rw [e_f_38]; exact hP
    have hD : va_D A [(h0, .inr (7, mX7 h1 h2 h3 h4 h5 h6 h7 v0)), (h1, zi k1 40 f_18), (h2, zi k2 40 f_28), (h3, zi k3 40 f_38), (h4, zi k4 40 f4), (h5, zi k5 40 f5), (h7, zi k7 270 f7), (h6, zi k6 160 f6)] := by rw [e_f_38]; exact hD
    refine lv_aload_n hx hb dX7_addLeaf_39 rfl (lv_at hl 0 rfl) ?_
    refine va_get (D := (dC, dI)) (ci := 7) (v := .ref h4) (C := RX7) (T := TX7) (N := 12) hx hb hG zuX7 hown hK hP 0 rfl rfl 3 (by decide) (hG _ zv368) (fun _ h9 => h9) rfl dX7_addLeaf_40 ?_
    refine lv_aload_n hx hb dX7_addLeaf_43 rfl (lv_at hl 0 rfl) ?_
    refine va_get (D := (dC, dI)) (ci := 7) (v := .int (v0 7)) (C := RX7) (T := TX7) (N := 12) hx hb hG zuX7 hown hK hP 0 rfl rfl 7 (by decide) (hG _ zv372) (fun _ h9 => h9) rfl dX7_addLeaf_44 ?_
    refine lv_iload hx hb dX7_addLeaf_47 (lv_at hl 4 rfl) ?_
    refine va_iast hx hb hK hP hD hS 4 3 rfl rfl (zin_lit ⟨by omega, by omega⟩) dX7_addLeaf_49 (fun H locs hP hD hS => ?_)
    obtain ⟨f_49, e_f_49⟩ : ∃ z : Nat → Int32, z = upd f4 ((v0 7) : Int32).toNatClampNeg x4 := ⟨_, rfl⟩
    have hP : va_P (dC, dI) vwCl [(h0, .inr (7, mX7 h1 h2 h3 h4 h5 h6 h7 v0)), (h1, zi k1 40 f_18), (h2, zi k2 40 f_28), (h3, zi k3 40 f_38), (h4, zi k4 40 f_49), (h5, zi k5 40 f5), (h7, zi k7 270 f7), (h6, zi k6 160 f6)] H := by rw [e_f_49]; exact hP
    have hD : va_D A [(h0, .inr (7, mX7 h1 h2 h3 h4 h5 h6 h7 v0)), (h1, zi k1 40 f_18), (h2, zi k2 40 f_28), (h3, zi k3 40 f_38), (h4, zi k4 40 f_49), (h5, zi k5 40 f5), (h7, zi k7 270 f7), (h6, zi k6 160 f6)] := by rw [e_f_49]; exact hD
    refine lv_aload_n hx hb dX7_addLeaf_50 rfl (lv_at hl 0 rfl) ?_
    refine va_get (D := (dC, dI)) (ci := 7) (v := .ref h5) (C := RX7) (T := TX7) (N := 12) hx hb hG zuX7 hown hK hP 0 rfl rfl 4 (by decide) (hG _ zv369) (fun _ h9 => h9) rfl dX7_addLeaf_51 ?_
    refine lv_aload_n hx hb dX7_addLeaf_54 rfl (lv_at hl 0 rfl) ?_
    refine va_get (D := (dC, dI)) (ci := 7) (v := .int (v0 7)) (C := RX7) (T := TX7) (N := 12) hx hb hG zuX7 hown hK hP 0 rfl rfl 7 (by decide) (hG _ zv372) (fun _ h9 => h9) rfl dX7_addLeaf_55 ?_
    refine lv_iload hx hb dX7_addLeaf_58 (lv_at hl 5 rfl) ?_
    refine va_zast hx hb hK hP hD hS 5 4 rfl rfl (zin_lit ⟨by omega, by omega⟩) dX7_addLeaf_60 (fun H locs hP hD hS => ?_)
    obtain ⟨f_60, e_f_60⟩ : ∃ z : Nat → Int32, z = upd f5 ((v0 7) : Int32).toNatClampNeg (vp_nar .boolean x5) := ⟨_, rfl⟩
    have hP : va_P (dC, dI) vwCl [(h0, .inr (7, mX7 h1 h2 h3 h4 h5 h6 h7 v0)), (h1, zi k1 40 f_18), (h2, zi k2 40 f_28), (h3, zi k3 40 f_38), (h4, zi k4 40 f_49), (h5, zi k5 40 f_60), (h7, zi k7 270 f7), (h6, zi k6 160 f6)] H := by rw [e_f_60]; exact hP
    have hD : va_D A [(h0, .inr (7, mX7 h1 h2 h3 h4 h5 h6 h7 v0)), (h1, zi k1 40 f_18), (h2, zi k2 40 f_28), (h3, zi k3 40 f_38), (h4, zi k4 40 f_49), (h5, zi k5 40 f_60), (h7, zi k7 270 f7), (h6, zi k6 160 f6)] := by rw [e_f_60]; exact hD
    refine lv_aload_n hx hb dX7_addLeaf_61 rfl (lv_at hl 0 rfl) ?_
    refine lv_iload_n hx hb dX7_addLeaf_62 rfl (lv_at hl 1 rfl) ?_
    refine lv_aload_n hx hb dX7_addLeaf_63 rfl (lv_at hl 0 rfl) ?_
    refine va_get (D := (dC, dI)) (ci := 7) (v := .int (v0 7)) (C := RX7) (T := TX7) (N := 12) hx hb hG zuX7 hown hK hP 0 rfl rfl 7 (by decide) (hG _ zv372) (fun _ h9 => h9) rfl dX7_addLeaf_64 ?_
    have hPc := hP.sub (ws' := [(h0, .inr (7, mX7 h1 h2 h3 h4 h5 h6 h7 v0)), (h7, zi k7 270 f7)]) [0, 6] rfl
    have hDc := hD.sub (ws' := [(h0, .inr (7, mX7 h1 h2 h3 h4 h5 h6 h7 v0)), (h7, zi k7 270 f7)]) [0, 6] (by decide) rfl
    have hKc := hK.sub (tys' := [(k7, .int)]) [5] rfl
    have hFc := va_free (wc := [(h0, .inr (7, mX7 h1 h2 h3 h4 h5 h6 h7 v0)), (h7, zi k7 270 f7)]) hD hS hA [0, 6] rfl
    refine va_callv (va_runV (As := [.int x1, .int (v0 7)]) (rest := []) ⟨hx, hb, hml, hown, hG⟩ (sX7_addStep_0 l dC dI adK adV h0 h7 h1 h2 h3 h4 h5 h6 k7 H.size v0 f7 x1 (v0 7) hv0 hf7 (show (1 : Int) ≤ (x1 : Int32).toInt ∧ (x1 : Int32).toInt ≤ (11 : Int) from (by first | with_reducible assumption | exact ⟨by omega, by omega⟩)) (show ((-1) : Int) ≤ ((v0 7) : Int32).toInt ∧ ((v0 7) : Int32).toInt ≤ (999 : Int) from (by first | with_reducible assumption | exact ⟨by omega, by omega⟩))) (cwV 2 hG (zgV zv1112 zv1113 zv1114 zv136 zv1115) rfl rfl rfl (by decide +kernel) ⟨Nat.le_of_ble_eq_true rfl, Nat.le_of_ble_eq_true rfl⟩) ⟨zPc_blind, va_recv hKc hPc (ci := 7) (q0 := 0) rfl rfl, zPc_pre hPc hKc hDc hE hS hFc hZ⟩ rfl rfl hl.1 rfl (lv_room (Nat.le_of_ble_eq_true rfl)) dX7_addLeaf_67 ⟨Nat.le_of_ble_eq_true rfl, Nat.le_of_ble_eq_true rfl⟩) hS (fun q _ h => hFc q h) hFc (fun u67_ t H1 locs ht hvm hw hB hz1 hk1 hS => ?_)
    replace hw : (1 ≤ (u67_ 0).toInt ∧ (u67_ 0).toInt ≤ 270) ∧ ((v0 9).toInt < 270 → (u67_ 0).toInt = (v0 9).toInt + 1) := hw
    obtain ⟨b_, hX67_0⟩ := hw
    obtain ⟨w67_, a67_, b67_, ha67_0, hB67_0, hP1, hK1, hD1⟩ := hB
    have hB67_0 : ∀ (L : List Int) (e : Int), e % 1000000 = 1000 * x1.toInt + (v0 7).toInt → zCd f7 (v0 9).toInt L → (v0 9).toInt < 270 → zCd (a67_ 0) (u67_ 0).toInt (L ++ [e]) := hB67_0
    rw [ht] at hP1
    obtain ⟨hP, hD⟩ := va_join (wr := [(h1, zi k1 40 f_18), (h2, zi k2 40 f_28), (h3, zi k3 40 f_38), (h4, zi k4 40 f_49), (h5, zi k5 40 f_60), (h6, zi k6 160 f6)]) (w1 := [(h0, .inr (7, mX7 h1 h2 h3 h4 h5 h6 h7 (upd v0 9 (u67_ 0)))), (h7, zi k7 270 (a67_ 0))]) hP hD [0, 6] [1, 2, 3, 4, 5, 7] rfl rfl (by decide) (by decide) hk1 hFc hP1 hD1
    have hP : va_P (dC, dI) vwCl [(h0, .inr (7, mX7 h1 h2 h3 h4 h5 h6 h7 (upd v0 9 (u67_ 0)))), (h1, zi k1 40 f_18), (h2, zi k2 40 f_28), (h3, zi k3 40 f_38), (h4, zi k4 40 f_49), (h5, zi k5 40 f_60), (h7, zi k7 270 (a67_ 0)), (h6, zi k6 160 f6)] H1 := hP.sub [6, 0, 1, 2, 3, 4, 7, 5] rfl
    have hD : va_D A [(h0, .inr (7, mX7 h1 h2 h3 h4 h5 h6 h7 (upd v0 9 (u67_ 0)))), (h1, zi k1 40 f_18), (h2, zi k2 40 f_28), (h3, zi k3 40 f_38), (h4, zi k4 40 f_49), (h5, zi k5 40 f_60), (h7, zi k7 270 (a67_ 0)), (h6, zi k6 160 f6)] := hD.sub [6, 0, 1, 2, 3, 4, 7, 5] (by decide) rfl
    generalize H1 = H at hP hS ⊢
    clear hz1
    refine lv_aload_n hx hb dX7_addLeaf_70 rfl (lv_at hl 0 rfl) ?_
    refine lv_dup hx hb dX7_addLeaf_71 rfl ?_
    refine va_get (D := (dC, dI)) (ci := 7) (v := .int (v0 7)) (C := RX7) (T := TX7) (N := 12) hx hb hG zuX7 hown hK hP 0 rfl rfl 7 (by decide) (hG _ zv372) (fun _ h9 => h9) rfl dX7_addLeaf_72 ?_
    refine lv_iconst (v := 1) hx hb dX7_addLeaf_75 (by decide) ?_
    refine lv_iadd hx hb dX7_addLeaf_76 ?_
    refine lv_topi (fun z76 e_z76 => ?_)
    have b_ := zadd rfl zk_1 e_z76 (by omega) (by omega)
    refine va_put (D := (dC, dI)) (ci := 7) (v := .int z76) (ty := .int) (C := RX7) (T := TX7) (N := 12) hx hb hG zuX7 tyX7 tyX7_ok nmX7 hown hK hP hD hS 0 rfl rfl 7 (by decide) (hG _ zv372) (fun _ h9 => h9) rfl (by decide +kernel) rfl rfl (Nat.le_of_ble_eq_true rfl) dX7_addLeaf_77 (fun H locs hP hD hS => ?_)
    have hP : va_P (dC, dI) vwCl [(h0, .inr (7, mX7 h1 h2 h3 h4 h5 h6 h7 (upd (upd v0 7 z76) 9 (u67_ 0)))), (h1, zi k1 40 f_18), (h2, zi k2 40 f_28), (h3, zi k3 40 f_38), (h4, zi k4 40 f_49), (h5, zi k5 40 f_60), (h7, zi k7 270 (a67_ 0)), (h6, zi k6 160 f6)] H := hP
    have hD : va_D A [(h0, .inr (7, mX7 h1 h2 h3 h4 h5 h6 h7 (upd (upd v0 7 z76) 9 (u67_ 0)))), (h1, zi k1 40 f_18), (h2, zi k2 40 f_28), (h3, zi k3 40 f_38), (h4, zi k4 40 f_49), (h5, zi k5 40 f_60), (h7, zi k7 270 (a67_ 0)), (h6, zi k6 160 f6)] := hD
    refine lv_aload_n hx hb dX7_addLeaf_80 rfl (lv_at hl 0 rfl) ?_
    refine lv_dup hx hb dX7_addLeaf_81 rfl ?_
    refine va_get (D := (dC, dI)) (ci := 7) (v := .int (v0 10)) (C := RX7) (T := TX7) (N := 12) hx hb hG zuX7 hown hK hP 0 rfl rfl 10 (by decide) (hG _ zv375) (fun _ h9 => h9) rfl dX7_addLeaf_82 ?_
    refine lv_iconst (v := 1) hx hb dX7_addLeaf_85 (by decide) ?_
    have b_ : -2147483648 ≤ (v0 10).toInt ∧ (v0 10).toInt ≤ 2147483647 := ⟨zlo _, zhi _⟩
    refine lv_iadd hx hb dX7_addLeaf_86 ?_
    refine lv_topi (fun z86 e_z86 => ?_)
    refine va_put (D := (dC, dI)) (ci := 7) (v := .int z86) (ty := .int) (C := RX7) (T := TX7) (N := 12) hx hb hG zuX7 tyX7 tyX7_ok nmX7 hown hK hP hD hS 0 rfl rfl 10 (by decide) (hG _ zv375) (fun _ h9 => h9) rfl (by decide +kernel) rfl rfl (Nat.le_of_ble_eq_true rfl) dX7_addLeaf_87 (fun H locs hP hD hS => ?_)
    have hP : va_P (dC, dI) vwCl [(h0, .inr (7, mX7 h1 h2 h3 h4 h5 h6 h7 (upd (upd (upd v0 7 z76) 9 (u67_ 0)) 10 z86))), (h1, zi k1 40 f_18), (h2, zi k2 40 f_28), (h3, zi k3 40 f_38), (h4, zi k4 40 f_49), (h5, zi k5 40 f_60), (h7, zi k7 270 (a67_ 0)), (h6, zi k6 160 f6)] H := hP
    have hD : va_D A [(h0, .inr (7, mX7 h1 h2 h3 h4 h5 h6 h7 (upd (upd (upd v0 7 z76) 9 (u67_ 0)) 10 z86))), (h1, zi k1 40 f_18), (h2, zi k2 40 f_28), (h3, zi k3 40 f_38), (h4, zi k4 40 f_49), (h5, zi k5 40 f_60), (h7, zi k7 270 (a67_ 0)), (h6, zi k6 160 f6)] := hD
    refine lv_aload_n hx hb dX7_addLeaf_90 rfl (lv_at hl 0 rfl) ?_
    refine lv_aload_n hx hb dX7_addLeaf_91 rfl (lv_at hl 0 rfl) ?_
    refine va_get (D := (dC, dI)) (ci := 7) (v := .int (v0 11)) (C := RX7) (T := TX7) (N := 12) hx hb hG zuX7 hown hK hP 0 rfl rfl 11 (by decide) (hG _ zv376) (fun _ h9 => h9) rfl dX7_addLeaf_92 ?_
    refine lv_aload_n hx hb dX7_addLeaf_95 rfl (lv_at hl 0 rfl) ?_
    refine va_get (D := (dC, dI)) (ci := 7) (v := .int z86) (C := RX7) (T := TX7) (N := 12) hx hb hG zuX7 hown hK hP 0 rfl rfl 10 (by decide) (hG _ zv375) (fun _ h9 => h9) rfl dX7_addLeaf_96 ?_
    have b_ : -2147483648 ≤ (v0 11).toInt ∧ (v0 11).toInt ≤ 2147483647 := ⟨zlo _, zhi _⟩
    have b_ : -2147483648 ≤ z86.toInt ∧ z86.toInt ≤ 2147483647 := ⟨zlo _, zhi _⟩
    refine va_mmax hx hb (by rw [hml]; exact hl.1.symm) hown (hG _ zv1116) (hG _ zv1030) (hG _ zv152) (hG _ zv1031) (Nat.le_of_ble_eq_true rfl) (Nat.le_of_ble_eq_true rfl) (Nat.le_of_ble_eq_true rfl) (Nat.le_of_ble_eq_true rfl) dX7_addLeaf_99 ?_
    refine lv_topi (fun z99 e_z99 => ?_)
    have b_ := zmax rfl rfl e_z99
    refine va_put (D := (dC, dI)) (ci := 7) (v := .int z99) (ty := .int) (C := RX7) (T := TX7) (N := 12) hx hb hG zuX7 tyX7 tyX7_ok nmX7 hown hK hP hD hS 0 rfl rfl 11 (by decide) (hG _ zv376) (fun _ h9 => h9) rfl (by decide +kernel) rfl rfl (Nat.le_of_ble_eq_true rfl) dX7_addLeaf_102 (fun H locs hP hD hS => ?_)
    have hP : va_P (dC, dI) vwCl [(h0, .inr (7, mX7 h1 h2 h3 h4 h5 h6 h7 (upd (upd (upd (upd v0 7 z76) 9 (u67_ 0)) 10 z86) 11 z99))), (h1, zi k1 40 f_18), (h2, zi k2 40 f_28), (h3, zi k3 40 f_38), (h4, zi k4 40 f_49), (h5, zi k5 40 f_60), (h7, zi k7 270 (a67_ 0)), (h6, zi k6 160 f6)] H := hP
    have hD : va_D A [(h0, .inr (7, mX7 h1 h2 h3 h4 h5 h6 h7 (upd (upd (upd (upd v0 7 z76) 9 (u67_ 0)) 10 z86) 11 z99))), (h1, zi k1 40 f_18), (h2, zi k2 40 f_28), (h3, zi k3 40 f_38), (h4, zi k4 40 f_49), (h5, zi k5 40 f_60), (h7, zi k7 270 (a67_ 0)), (h6, zi k6 160 f6)] := hD
    refine W.widen (k := 0) (n := 0) (by decide) (by decide) ?_
    have hpost : (1 ≤ z76.toInt ∧ z76.toInt ≤ 40) ∧ (0 ≤ (u67_ 0).toInt ∧ (u67_ 0).toInt ≤ 270) ∧ ((v0 7).toInt < 40 → z76.toInt = (v0 7).toInt + 1) ∧ (40 ≤ (v0 7).toInt → z76.toInt = (v0 7).toInt) ∧ ((v0 7).toInt < 40 → (v0 9).toInt < 270 → (u67_ 0).toInt = (v0 9).toInt + 1) := ⟨(by first | with_reducible assumption | exact ⟨by omega, by omega⟩), (by first | with_reducible assumption | exact ⟨by omega, by omega⟩), by omega, by omega, by omega⟩
    have hP9 : va_P (dC, dI) vwCl [(h0, .inr (7, mX7 h1 h2 h3 h4 h5 h6 h7 (upd (upd (upd (upd v0 7 z76) 9 (u67_ 0)) 10 z86) 11 z99))), (h1, zi k1 40 f_18), (h2, zi k2 40 f_28), (h3, zi k3 40 f_38), (h4, zi k4 40 f_49), (h5, zi k5 40 f_60), (h7, zi k7 270 (a67_ 0)), (h6, zi k6 160 f6)] H := hP
    have hD9 : va_D A [(h0, .inr (7, mX7 h1 h2 h3 h4 h5 h6 h7 (upd (upd (upd (upd v0 7 z76) 9 (u67_ 0)) 10 z86) 11 z99))), (h1, zi k1 40 f_18), (h2, zi k2 40 f_28), (h3, zi k3 40 f_38), (h4, zi k4 40 f_49), (h5, zi k5 40 f_60), (h7, zi k7 270 (a67_ 0)), (h6, zi k6 160 f6)] := hD
    have hB0 : (v0 7).toInt < 40 → 1 ≤ x1.toInt → x1.toInt ≤ 4 → 0 ≤ x4.toInt → x4.toInt ≤ 3 → zAl (zqa f7 f1 f2 f3 f4 f6 f5) (zqa (a67_ 0) f_18 f_28 f_38 f_49 f6 f_60) (v0 7).toInt z76.toInt (v0 8).toInt (v0 9).toInt (u67_ 0).toInt x1.toInt x2.toInt x3.toInt x4.toInt x5.toInt := by first | (intro l_ k1_ k4_ s0_ s3_; exact False.elim (by omega)) | exact fun l_ k1_ k4_ s0_ s3_ => zAl_i e_f_18 e_f_28 e_f_38 e_f_49 e_f_60 s0_ s3_ (by omega) (by omega) rfl (by omega) (by omega) k1_ k4_ hB67_0
    exact W.vret hx hb hr (fun t ht hW => ⟨⟨(fun i => ([z76, (u67_ 0), z86, z99] : List (Int32)).getD i 0), rfl, hpost, (fun _ => 0), (fun i => ([f_18, f_28, f_38, f_49, f_60, (a67_ 0)] : List (Nat → Int32)).getD i (fun _ => 0)), (fun _ => (fun _ => 0)), ha67_0, hB0, by rw [ht]; exact hP9, va_K.moved hW.alike hK, hD9⟩, hS.F ht⟩) hS.2.2 dX7_addLeaf_105
set_option maxHeartbeats 8000000 in
set_option maxRecDepth 100000 in
theorem sX4_closePhrase_0 (l : Launch) (dC : Nat → ClassId) (dI : Nat → Nat → Nat) (adK adV : Nat → Nat) (h0 : Nat) (h18 : Nat) (h19 : Nat) (h20 : Nat) (h21 : Nat) (h22 : Nat) (h23 : Nat) (h25 : Nat) (h24 : Nat) (h1 : Nat) (h2 : Nat) (h4 : Nat) (h11 : Nat) (h3 : Nat) (k19 : ClassId) (k20 : ClassId) (k21 : ClassId) (k22 : ClassId) (k23 : ClassId) (k25 : ClassId) (k24 : ClassId) (k2 : ClassId) (sz : Nat) (v0 : Nat → Int32) (v18 : Nat → Int32) (f19 : Nat → Int32) (f20 : Nat → Int32) (f21 : Nat → Int32) (f22 : Nat → Int32) (f23 : Nat → Int32) (f25 : Nat → Int32) (f24 : Nat → Int32) (v1 : Nat → Int32) (f2 : Nat → Int32) (x1 : Int32) (x2 : Int32) (x3 : Int32) (hv0 : zR rg_Parser v0) (hv18 : zR rg_Query v18) (hf25 : zA 0 12000 f25) (hv1 : zR rg_Tape v1) (hx2 : 0 ≤ x2.toInt ∧ x2.toInt ≤ 600) (hx3 : 0 ≤ x3.toInt ∧ x3.toInt ≤ 3) : Met l yX4_closePhrase (zw yX4_closePhrase cX4_closePhrase 4 none) { frames := 7, cells := 0, slots := 0, locals := 152 } (zPc dC dI adK adV [.ref h0, .int x1, .int x2, .int x3] sz [(h0, .inr (4, mX4 h1 h4 h11 h18 v0)), (h18, .inr (7, mX7 h19 h20 h21 h22 h23 h24 h25 v18)), (h19, zi k19 40 f19), (h20, zi k20 40 f20), (h21, zi k21 40 f21), (h22, zi k22 40 f22), (h23, zi k23 40 f23), (h25, zi k25 270 f25), (h24, zi k24 160 f24), (h1, .inr (9, mX9 h2 h3 v1)), (h2, zi k2 600 f2)] [(k19, .int), (k20, .int), (k21, .int), (k22, .int), (k23, .boolean), (k25, .int), (k24, .int), (k2, .byte)]) (va_Qv (fun (u : Nat → Int32) => (0 ≤ (u 0).toInt ∧ (u 0).toInt ≤ 265) ∧ (0 ≤ (u 4).toInt ∧ (u 4).toInt ≤ 0) ∧ (1 ≤ (u 5).toInt ∧ (u 5).toInt ≤ 40) ∧ (0 ≤ (u 6).toInt ∧ (u 6).toInt ≤ 270) ∧ ((v18 7).toInt < 40 → (u 5).toInt = (v18 7).toInt + 1) ∧ (zyH f2 (v1 2).toInt (v0 4).toInt (v0 5).toInt (v0 6).toInt (v0 7).toInt (v0 8).toInt (v18 8).toInt x1.toInt x2.toInt (u 0).toInt (u 1).toInt (u 2).toInt (u 3).toInt)) (fun (u : Nat → Int32) (t : State) => ∃ (ww : Nat → Int64) (aa : Nat → Nat → Int32) (bb : Nat → Nat → Int64), zA 0 12000 (aa 5) ∧ ((v18 7).toInt < 40 → zAl (zqa f25 f19 f20 f21 f22 f24 f23) (zqa (aa 5) (aa 0) (aa 1) (aa 2) (aa 3) f24 (aa 4)) (v18 7).toInt (u 5).toInt (v18 8).toInt (v18 9).toInt (u 6).toInt 3 x1.toInt (v18 8).toInt x3.toInt (zu0 (v0 10).toInt)) ∧ va_P (dC, dI) vwCl [(h0, .inr (4, mX4 h1 h4 h11 h18 (upd (upd (upd (upd (upd v0 4 (u 0)) 5 (u 1)) 6 (u 2)) 7 (u 3)) 9 (u 4)))), (h18, .inr (7, mX7 h19 h20 h21 h22 h23 h24 h25 (upd (upd (upd (upd v18 7 (u 5)) 9 (u 6)) 10 (u 7)) 11 (u 8)))), (h19, zi k19 40 (aa 0)), (h20, zi k20 40 (aa 1)), (h21, zi k21 40 (aa 2)), (h22, zi k22 40 (aa 3)), (h23, zi k23 40 (aa 4)), (h25, zi k25 270 (aa 5)), (h24, zi k24 160 f24), (h1, .inr (9, mX9 h2 h3 v1)), (h2, zi k2 600 f2)] t.heap ∧ va_K (dC, dI) vwCl [(k19, .int), (k20, .int), (k21, .int), (k22, .int), (k23, .boolean), (k25, .int), (k24, .int), (k2, .byte)] t ∧ va_D (va_A [(h0, .inr (4, mX4 h1 h4 h11 h18 v0)), (h18, .inr (7, mX7 h19 h20 h21 h22 h23 h24 h25 v18)), (h19, zi k19 40 f19), (h20, zi k20 40 f20), (h21, zi k21 40 f21), (h22, zi k22 40 f22), (h23, zi k23 40 f23), (h25, zi k25 270 f25), (h24, zi k24 160 f24), (h1, .inr (9, mX9 h2 h3 v1)), (h2, zi k2 600 f2)] sz) [(h0, .inr (4, mX4 h1 h4 h11 h18 (upd (upd (upd (upd (upd v0 4 (u 0)) 5 (u 1)) 6 (u 2)) 7 (u 3)) 9 (u 4)))), (h18, .inr (7, mX7 h19 h20 h21 h22 h23 h24 h25 (upd (upd (upd (upd v18 7 (u 5)) 9 (u 6)) 10 (u 7)) 11 (u 8)))), (h19, zi k19 40 (aa 0)), (h20, zi k20 40 (aa 1)), (h21, zi k21 40 (aa 2)), (h22, zi k22 40 (aa 3)), (h23, zi k23 40 (aa 4)), (h25, zi k25 270 (aa 5)), (h24, zi k24 160 f24), (h1, .inr (9, mX9 h2 h3 v1)), (h2, zi k2 600 f2)]) (va_A [(h0, .inr (4, mX4 h1 h4 h11 h18 v0)), (h18, .inr (7, mX7 h19 h20 h21 h22 h23 h24 h25 v18)), (h19, zi k19 40 f19), (h20, zi k20 40 f20), (h21, zi k21 40 f21), (h22, zi k22 40 f22), (h23, zi k23 40 f23), (h25, zi k25 270 f25), (h24, zi k24 160 f24), (h1, .inr (9, mX9 h2 h3 v1)), (h2, zi k2 600 f2)] sz)) 0 0 (va_A [(h0, .inr (4, mX4 h1 h4 h11 h18 v0)), (h18, .inr (7, mX7 h19 h20 h21 h22 h23 h24 h25 v18)), (h19, zi k19 40 f19), (h20, zi k20 40 f20), (h21, zi k21 40 f21), (h22, zi k22 40 f22), (h23, zi k23 40 f23), (h25, zi k25 270 f25), (h24, zi k24 160 f24), (h1, .inr (9, mX9 h2 h3 v1)), (h2, zi k2 600 f2)] sz) := by
  refine Met.ofW (cc := cX4_closePhrase) (maxL := 4) (ret := none) (by decide) rfl ?_
  intro p e s m args below meth c s₁ B hml hv
  obtain ⟨rfl, hsz, hP, hK, hD0, hE, hZ⟩ := hv
  have hx := B.exec
  have hb := B.bytes
  have hr := B.returns
  have hG : ∀ w ∈ zG, w.before _ s = true := fun w h => atoms_spec (ws := (zw yX4_closePhrase cX4_closePhrase 4 none)) B.pre w (List.mem_cons_of_mem _ h)
  have hown : s.vm.findClass RX4 = some m.cls := findClass_of_methodNamed B.named
  have hlocks := B.notSynchronized

  subst hsz
  have hD := hD0.self (sz := s.heap.size)
  generalize hAe : va_A [(h0, .inr (4, mX4 h1 h4 h11 h18 v0)), (h18, .inr (7, mX7 h19 h20 h21 h22 h23 h24 h25 v18)), (h19, zi k19 40 f19), (h20, zi k20 40 f20), (h21, zi k21 40 f21), (h22, zi k22 40 f22), (h23, zi k23 40 f23), (h25, zi k25 270 f25), (h24, zi k24 160 f24), (h1, .inr (9, mX9 h2 h3 v1)), (h2, zi k2 600 f2)] s.heap.size = A at hD hZ ⊢
  have hA : ∀ q : Nat, s.heap.size ≤ q → A q := fun q h => by rw [← hAe]; exact Or.inr h
  have hS : va_S A s.heap s.heap [] := va_S.rf
  have hl := lv_entry ([.ref h0, .int x1, .int x2, .int x3]) (n := 4) (Nat.le_of_ble_eq_true rfl)
  rw [lg_entry_eq]
  generalize (lg_sl ([.ref h0, .int x1, .int x2, .int x3]) ++ List.replicate (4 - (lg_sl ([.ref h0, .int x1, .int x2, .int x3])).length) Slot.unset).toArray = ls at hl ⊢
  have hl : lv_has ls 4 [(0, .ref h0), (1, .int x1), (2, .int x2), (3, .int x3)] := hl
  have b_ := zk_0
  have b_ := zk_1
  have b_ := zk_3
  have b_ : 0 ≤ (v18 7).toInt ∧ (v18 7).toInt ≤ 40 := hv18 7
  have b_ : 0 ≤ (v1 2).toInt ∧ (v1 2).toInt ≤ 600 := hv1 2
  have b_ : -2147483648 ≤ (v0 4).toInt ∧ (v0 4).toInt ≤ 2147483647 := ⟨zlo _, zhi _⟩
  have b_ : -2147483648 ≤ (v0 5).toInt ∧ (v0 5).toInt ≤ 2147483647 := ⟨zlo _, zhi _⟩
  have b_ : -2147483648 ≤ (v0 6).toInt ∧ (v0 6).toInt ≤ 2147483647 := ⟨zlo _, zhi _⟩
  have b_ : -2147483648 ≤ (v0 7).toInt ∧ (v0 7).toInt ≤ 2147483647 := ⟨zlo _, zhi _⟩
  have b_ : -2147483648 ≤ (v0 8).toInt ∧ (v0 8).toInt ≤ 2147483647 := ⟨zlo _, zhi _⟩
  have b_ : 0 ≤ (v18 8).toInt ∧ (v18 8).toInt ≤ 160 := hv18 8
  have b_ : 0 ≤ (v18 9).toInt ∧ (v18 9).toInt ≤ 270 := hv18 9
  have b_ : -2147483648 ≤ (v0 10).toInt ∧ (v0 10).toInt ≤ 2147483647 := ⟨zlo _, zhi _⟩
  refine lv_aload_n hx hb dX4_closePhrase_0 rfl (lv_at hl 0 rfl) ?_
  refine va_get (D := (dC, dI)) (ci := 4) (v := .ref h18) (C := RX4) (T := TX4) (N := 12) hx hb hG zuX4 hown hK hP 0 rfl rfl 3 (by decide) (hG _ zv411) (fun _ h9 => h9) rfl dX4_closePhrase_1 ?_
  have hPc := hP.sub (ws' := [(h18, .inr (7, mX7 h19 h20 h21 h22 h23 h24 h25 v18))]) [1] rfl
  have hDc := hD.sub (ws' := [(h18, .inr (7, mX7 h19 h20 h21 h22 h23 h24 h25 v18))]) [1] (by decide) rfl
  have hKc := hK.sub (tys' := []) [] rfl
  have hFc := va_free (wc := [(h18, .inr (7, mX7 h19 h20 h21 h22 h23 h24 h25 v18))]) hD hS hA [1] rfl
  refine va_calli (va_runV (As := []) (rest := []) ⟨hx, hb, hml, hown, hG⟩ (sX7_phraseWords_0 l dC dI adK adV h18 h19 h20 h21 h22 h23 h24 h25 s.heap.size v18 hv18) (cwV 0 hG (zgV zv1121 zv1122 zv1123 zv136 zv1124) rfl rfl rfl (by decide +kernel) ⟨Nat.le_of_ble_eq_true rfl, Nat.le_of_ble_eq_true rfl⟩) ⟨zPc_blind, va_recv hKc hPc (ci := 7) (q0 := 0) rfl rfl, zPc_pre hPc hKc hDc hE hS hFc hZ⟩ rfl rfl hl.1 rfl (lv_room (Nat.le_of_ble_eq_true rfl)) dX4_closePhrase_4 ⟨Nat.le_of_ble_eq_true rfl, Nat.le_of_ble_eq_true rfl⟩) hS (fun q _ h => hFc q h) hFc (fun r4_ u4_ t H1 locs ht hvm hw hB hz1 hk1 hS => ?_)
  replace hw : (0 ≤ r4_.toInt ∧ r4_.toInt ≤ 160) ∧ (r4_.toInt = (v18 8).toInt) := hw
  obtain ⟨b_, hX4_0⟩ := hw
  obtain ⟨w4_, a4_, b4_, hP1, hK1, hD1⟩ := hB
  rw [ht] at hP1
  obtain ⟨hP, hD⟩ := va_join (wr := [(h0, .inr (4, mX4 h1 h4 h11 h18 v0)), (h19, zi k19 40 f19), (h20, zi k20 40 f20), (h21, zi k21 40 f21), (h22, zi k22 40 f22), (h23, zi k23 40 f23), (h25, zi k25 270 f25), (h24, zi k24 160 f24), (h1, .inr (9, mX9 h2 h3 v1)), (h2, zi k2 600 f2)]) (w1 := [(h18, .inr (7, mX7 h19 h20 h21 h22 h23 h24 h25 v18))]) hP hD [1] [0, 2, 3, 4, 5, 6, 7, 8, 9, 10] rfl rfl (by decide) (by decide) hk1 hFc hP1 hD1
  have hP : va_P (dC, dI) vwCl [(h0, .inr (4, mX4 h1 h4 h11 h18 v0)), (h18, .inr (7, mX7 h19 h20 h21 h22 h23 h24 h25 v18)), (h19, zi k19 40 f19), (h20, zi k20 40 f20), (h21, zi k21 40 f21), (h22, zi k22 40 f22), (h23, zi k23 40 f23), (h25, zi k25 270 f25), (h24, zi k24 160 f24), (h1, .inr (9, mX9 h2 h3 v1)), (h2, zi k2 600 f2)] H1 := hP.sub [0, 10, 1, 2, 3, 4, 5, 6, 7, 8, 9] rfl
  have hD : va_D A [(h0, .inr (4, mX4 h1 h4 h11 h18 v0)), (h18, .inr (7, mX7 h19 h20 h21 h22 h23 h24 h25 v18)), (h19, zi k19 40 f19), (h20, zi k20 40 f20), (h21, zi k21 40 f21), (h22, zi k22 40 f22), (h23, zi k23 40 f23), (h25, zi k25 270 f25), (h24, zi k24 160 f24), (h1, .inr (9, mX9 h2 h3 v1)), (h2, zi k2 600 f2)] := hD.sub [0, 10, 1, 2, 3, 4, 5, 6, 7, 8, 9] (by decide) rfl
  generalize H1 = H at hP hS ⊢
  clear hz1
  refine lv_iload_n hx hb dX4_closePhrase_7 rfl (lv_at hl 1 rfl) ?_
  have b_ : -2147483648 ≤ x1.toInt ∧ x1.toInt ≤ 2147483647 := ⟨zlo _, zhi _⟩
  refine lv_icmp_ne (tgt := 17) hx hb dX4_closePhrase_8 (by decide) (fun c_ => ?_) (fun c_ => ?_)
  · skip
    have b_ := zT_ne rfl rfl c_
    refine lv_aload_n hx hb dX4_closePhrase_17 rfl (lv_at hl 0 rfl) ?_
    refine va_get (D := (dC, dI)) (ci := 4) (v := .ref h18) (C := RX4) (T := TX4) (N := 12) hx hb hG zuX4 hown hK hP 0 rfl rfl 3 (by decide) (hG _ zv411) (fun _ h9 => h9) rfl dX4_closePhrase_18 ?_
    refine lv_iconst (v := 3) hx hb dX4_closePhrase_21 (by decide) ?_
    refine lv_iload_n hx hb dX4_closePhrase_22 rfl (lv_at hl 1 rfl) ?_
    refine lv_aload_n hx hb dX4_closePhrase_23 rfl (lv_at hl 0 rfl) ?_
    refine va_get (D := (dC, dI)) (ci := 4) (v := .ref h18) (C := RX4) (T := TX4) (N := 12) hx hb hG zuX4 hown hK hP 0 rfl rfl 3 (by decide) (hG _ zv411) (fun _ h9 => h9) rfl dX4_closePhrase_24 ?_
    have hPc := hP.sub (ws' := [(h18, .inr (7, mX7 h19 h20 h21 h22 h23 h24 h25 v18))]) [1] rfl
    have hDc := hD.sub (ws' := [(h18, .inr (7, mX7 h19 h20 h21 h22 h23 h24 h25 v18))]) [1] (by decide) rfl
    have hKc := hK.sub (tys' := []) [] rfl
    have hFc := va_free (wc := [(h18, .inr (7, mX7 h19 h20 h21 h22 h23 h24 h25 v18))]) hD hS hA [1] rfl
    refine va_calli (va_runV (As := []) (rest := [.int x1, .int 3, .ref h18]) ⟨hx, hb, hml, hown, hG⟩ (sX7_phraseWords_0 l dC dI adK adV h18 h19 h20 h21 h22 h23 h24 h25 H.size v18 hv18) (cwV 0 hG (zgV zv1121 zv1122 zv1123 zv136 zv1124) rfl rfl rfl (by decide +kernel) ⟨Nat.le_of_ble_eq_true rfl, Nat.le_of_ble_eq_true rfl⟩) ⟨zPc_blind, va_recv hKc hPc (ci := 7) (q0 := 0) rfl rfl, zPc_pre hPc hKc hDc hE hS hFc hZ⟩ rfl rfl hl.1 rfl (lv_room (Nat.le_of_ble_eq_true rfl)) dX4_closePhrase_27 ⟨Nat.le_of_ble_eq_true rfl, Nat.le_of_ble_eq_true rfl⟩) hS (fun q _ h => hFc q h) hFc (fun r27_ u27_ t H1 locs ht hvm hw hB hz1 hk1 hS => ?_)
    replace hw : (0 ≤ r27_.toInt ∧ r27_.toInt ≤ 160) ∧ (r27_.toInt = (v18 8).toInt) := hw
    obtain ⟨b_, hX27_0⟩ := hw
    obtain ⟨w27_, a27_, b27_, hP1, hK1, hD1⟩ := hB
    rw [ht] at hP1
    obtain ⟨hP, hD⟩ := va_join (wr := [(h0, .inr (4, mX4 h1 h4 h11 h18 v0)), (h19, zi k19 40 f19), (h20, zi k20 40 f20), (h21, zi k21 40 f21), (h22, zi k22 40 f22), (h23, zi k23 40 f23), (h25, zi k25 270 f25), (h24, zi k24 160 f24), (h1, .inr (9, mX9 h2 h3 v1)), (h2, zi k2 600 f2)]) (w1 := [(h18, .inr (7, mX7 h19 h20 h21 h22 h23 h24 h25 v18))]) hP hD [1] [0, 2, 3, 4, 5, 6, 7, 8, 9, 10] rfl rfl (by decide) (by decide) hk1 hFc hP1 hD1
    have hP : va_P (dC, dI) vwCl [(h0, .inr (4, mX4 h1 h4 h11 h18 v0)), (h18, .inr (7, mX7 h19 h20 h21 h22 h23 h24 h25 v18)), (h19, zi k19 40 f19), (h20, zi k20 40 f20), (h21, zi k21 40 f21), (h22, zi k22 40 f22), (h23, zi k23 40 f23), (h25, zi k25 270 f25), (h24, zi k24 160 f24), (h1, .inr (9, mX9 h2 h3 v1)), (h2, zi k2 600 f2)] H1 := hP.sub [0, 10, 1, 2, 3, 4, 5, 6, 7, 8, 9] rfl
    have hD : va_D A [(h0, .inr (4, mX4 h1 h4 h11 h18 v0)), (h18, .inr (7, mX7 h19 h20 h21 h22 h23 h24 h25 v18)), (h19, zi k19 40 f19), (h20, zi k20 40 f20), (h21, zi k21 40 f21), (h22, zi k22 40 f22), (h23, zi k23 40 f23), (h25, zi k25 270 f25), (h24, zi k24 160 f24), (h1, .inr (9, mX9 h2 h3 v1)), (h2, zi k2 600 f2)] := hD.sub [0, 10, 1, 2, 3, 4, 5, 6, 7, 8, 9] (by decide) rfl
    generalize H1 = H at hP hS ⊢
    clear hz1
    refine lv_iload_n hx hb dX4_closePhrase_30 rfl (lv_at hl 3 rfl) ?_
    refine lv_aload_n hx hb dX4_closePhrase_31 rfl (lv_at hl 0 rfl) ?_
    refine va_get (D := (dC, dI)) (ci := 4) (v := .int (v0 10)) (C := RX4) (T := TX4) (N := 12) hx hb hG zuX4 hown hK hP 0 rfl rfl 10 (by decide) (hG _ zv418) (fun _ h9 => h9) rfl dX4_closePhrase_32 ?_
    refine lv_if_ne (tgt := 42) hx hb dX4_closePhrase_35 (by decide) (fun c_ => ?_) (fun c_ => ?_)
    · skip
      have b_ := zT_ne rfl zk_0 c_
      refine lv_iconst (v := 0) hx hb dX4_closePhrase_42 (by decide) ?_
      have hPc := hP.sub (ws' := [(h18, .inr (7, mX7 h19 h20 h21 h22 h23 h24 h25 v18)), (h19, zi k19 40 f19), (h20, zi k20 40 f20), (h21, zi k21 40 f21), (h22, zi k22 40 f22), (h23, zi k23 40 f23), (h25, zi k25 270 f25), (h24, zi k24 160 f24)]) [1, 2, 3, 4, 5, 6, 7, 8] rfl
      have hDc := hD.sub (ws' := [(h18, .inr (7, mX7 h19 h20 h21 h22 h23 h24 h25 v18)), (h19, zi k19 40 f19), (h20, zi k20 40 f20), (h21, zi k21 40 f21), (h22, zi k22 40 f22), (h23, zi k23 40 f23), (h25, zi k25 270 f25), (h24, zi k24 160 f24)]) [1, 2, 3, 4, 5, 6, 7, 8] (by decide) rfl
      have hKc := hK.sub (tys' := [(k19, .int), (k20, .int), (k21, .int), (k22, .int), (k23, .boolean), (k25, .int), (k24, .int)]) [0, 1, 2, 3, 4, 5, 6] rfl
      have hFc := va_free (wc := [(h18, .inr (7, mX7 h19 h20 h21 h22 h23 h24 h25 v18)), (h19, zi k19 40 f19), (h20, zi k20 40 f20), (h21, zi k21 40 f21), (h22, zi k22 40 f22), (h23, zi k23 40 f23), (h25, zi k25 270 f25), (h24, zi k24 160 f24)]) hD hS hA [1, 2, 3, 4, 5, 6, 7, 8] rfl
      refine va_callv (va_runV (As := [.int 3, .int x1, .int r27_, .int x3, .int 0]) (rest := []) ⟨hx, hb, hml, hown, hG⟩ (sX7_addLeaf_0 l dC dI adK adV h18 h19 h20 h21 h22 h23 h25 h24 k19 k20 k21 k22 k23 k25 k24 H.size v18 f19 f20 f21 f22 f23 f25 f24 3 x1 r27_ x3 0 hv18 hf25 ⟨show (1 : Int) ≤ (3 : Int32).toInt from by decide, show (3 : Int32).toInt ≤ (4 : Int) from by decide⟩ ⟨show (0 : Int) ≤ (0 : Int32).toInt from by decide, show (0 : Int32).toInt ≤ (1 : Int) from by decide⟩) (cwV 5 hG (zgV zv1108 zv1109 zv1110 zv136 zv1111) rfl rfl rfl (by decide +kernel) ⟨Nat.le_of_ble_eq_true rfl, Nat.le_of_ble_eq_true rfl⟩) ⟨zPc_blind, va_recv hKc hPc (ci := 7) (q0 := 0) rfl rfl, zPc_pre hPc hKc hDc hE hS hFc hZ⟩ rfl rfl hl.1 rfl (lv_room (Nat.le_of_ble_eq_true rfl)) dX4_closePhrase_43 ⟨Nat.le_of_ble_eq_true rfl, Nat.le_of_ble_eq_true rfl⟩) hS (fun q _ h => hFc q h) hFc (fun u43_ t H1 locs ht hvm hw hB hz1 hk1 hS => ?_)
      replace hw : (1 ≤ (u43_ 0).toInt ∧ (u43_ 0).toInt ≤ 40) ∧ (0 ≤ (u43_ 1).toInt ∧ (u43_ 1).toInt ≤ 270) ∧ ((v18 7).toInt < 40 → (u43_ 0).toInt = (v18 7).toInt + 1) ∧ (40 ≤ (v18 7).toInt → (u43_ 0).toInt = (v18 7).toInt) ∧ ((v18 7).toInt < 40 → (v18 9).toInt < 270 → (u43_ 1).toInt = (v18 9).toInt + 1) := hw
      obtain ⟨b_, b_, hX43_0, hX43_1, hX43_2⟩ := hw
      obtain ⟨w43_, a43_, b43_, ha43_5, hB43_0, hP1, hK1, hD1⟩ := hB
      have hB43_0 : (v18 7).toInt < 40 → 1 ≤ (3 : Int32).toInt → (3 : Int32).toInt ≤ 4 → 0 ≤ x3.toInt → x3.toInt ≤ 3 → zAl (zqa f25 f19 f20 f21 f22 f24 f23) (zqa (a43_ 5) (a43_ 0) (a43_ 1) (a43_ 2) (a43_ 3) f24 (a43_ 4)) (v18 7).toInt (u43_ 0).toInt (v18 8).toInt (v18 9).toInt (u43_ 1).toInt (3 : Int32).toInt x1.toInt r27_.toInt x3.toInt (0 : Int32).toInt := hB43_0
      rw [ht] at hP1
      obtain ⟨hP, hD⟩ := va_join (wr := [(h0, .inr (4, mX4 h1 h4 h11 h18 v0)), (h1, .inr (9, mX9 h2 h3 v1)), (h2, zi k2 600 f2)]) (w1 := [(h18, .inr (7, mX7 h19 h20 h21 h22 h23 h24 h25 (upd (upd (upd (upd v18 7 (u43_ 0)) 9 (u43_ 1)) 10 (u43_ 2)) 11 (u43_ 3)))), (h19, zi k19 40 (a43_ 0)), (h20, zi k20 40 (a43_ 1)), (h21, zi k21 40 (a43_ 2)), (h22, zi k22 40 (a43_ 3)), (h23, zi k23 40 (a43_ 4)), (h25, zi k25 270 (a43_ 5)), (h24, zi k24 160 f24)]) hP hD [1, 2, 3, 4, 5, 6, 7, 8] [0, 9, 10] rfl rfl (by decide) (by decide) hk1 hFc hP1 hD1
      have hP : va_P (dC, dI) vwCl [(h0, .inr (4, mX4 h1 h4 h11 h18 v0)), (h18, .inr (7, mX7 h19 h20 h21 h22 h23 h24 h25 (upd (upd (upd (upd v18 7 (u43_ 0)) 9 (u43_ 1)) 10 (u43_ 2)) 11 (u43_ 3)))), (h19, zi k19 40 (a43_ 0)), (h20, zi k20 40 (a43_ 1)), (h21, zi k21 40 (a43_ 2)), (h22, zi k22 40 (a43_ 3)), (h23, zi k23 40 (a43_ 4)), (h25, zi k25 270 (a43_ 5)), (h24, zi k24 160 f24), (h1, .inr (9, mX9 h2 h3 v1)), (h2, zi k2 600 f2)] H1 := hP.sub [0, 3, 4, 5, 6, 7, 8, 9, 10, 1, 2] rfl
      have hD : va_D A [(h0, .inr (4, mX4 h1 h4 h11 h18 v0)), (h18, .inr (7, mX7 h19 h20 h21 h22 h23 h24 h25 (upd (upd (upd (upd v18 7 (u43_ 0)) 9 (u43_ 1)) 10 (u43_ 2)) 11 (u43_ 3)))), (h19, zi k19 40 (a43_ 0)), (h20, zi k20 40 (a43_ 1)), (h21, zi k21 40 (a43_ 2)), (h22, zi k22 40 (a43_ 3)), (h23, zi k23 40 (a43_ 4)), (h25, zi k25 270 (a43_ 5)), (h24, zi k24 160 f24), (h1, .inr (9, mX9 h2 h3 v1)), (h2, zi k2 600 f2)] := hD.sub [0, 3, 4, 5, 6, 7, 8, 9, 10, 1, 2] (by decide) rfl
      generalize H1 = H at hP hS ⊢
      clear hz1
      refine lv_aload_n hx hb dX4_closePhrase_46 rfl (lv_at hl 0 rfl) ?_
      refine lv_iconst (v := 0) hx hb dX4_closePhrase_47 (by decide) ?_
      refine va_put (D := (dC, dI)) (ci := 4) (v := .int 0) (ty := .boolean) (C := RX4) (T := TX4) (N := 12) hx hb hG zuX4 tyX4 tyX4_ok nmX4 hown hK hP hD hS 0 rfl rfl 9 (by decide) (hG _ zv417) (fun _ h9 => h9) rfl (by decide +kernel) rfl rfl (Nat.le_of_ble_eq_true rfl) dX4_closePhrase_48 (fun H locs hP hD hS => ?_)
      have hP : va_P (dC, dI) vwCl [(h0, .inr (4, mX4 h1 h4 h11 h18 (upd v0 9 0))), (h18, .inr (7, mX7 h19 h20 h21 h22 h23 h24 h25 (upd (upd (upd (upd v18 7 (u43_ 0)) 9 (u43_ 1)) 10 (u43_ 2)) 11 (u43_ 3)))), (h19, zi k19 40 (a43_ 0)), (h20, zi k20 40 (a43_ 1)), (h21, zi k21 40 (a43_ 2)), (h22, zi k22 40 (a43_ 3)), (h23, zi k23 40 (a43_ 4)), (h25, zi k25 270 (a43_ 5)), (h24, zi k24 160 f24), (h1, .inr (9, mX9 h2 h3 v1)), (h2, zi k2 600 f2)] H := hP
      have hD : va_D A [(h0, .inr (4, mX4 h1 h4 h11 h18 (upd v0 9 0))), (h18, .inr (7, mX7 h19 h20 h21 h22 h23 h24 h25 (upd (upd (upd (upd v18 7 (u43_ 0)) 9 (u43_ 1)) 10 (u43_ 2)) 11 (u43_ 3)))), (h19, zi k19 40 (a43_ 0)), (h20, zi k20 40 (a43_ 1)), (h21, zi k21 40 (a43_ 2)), (h22, zi k22 40 (a43_ 3)), (h23, zi k23 40 (a43_ 4)), (h25, zi k25 270 (a43_ 5)), (h24, zi k24 160 f24), (h1, .inr (9, mX9 h2 h3 v1)), (h2, zi k2 600 f2)] := hD
      refine lv_aload_n hx hb dX4_closePhrase_51 rfl (lv_at hl 0 rfl) ?_
      refine lv_iload_n hx hb dX4_closePhrase_52 rfl (lv_at hl 2 rfl) ?_
      refine lv_iconst (v := 1) hx hb dX4_closePhrase_53 (by decide) ?_
      refine lv_iadd hx hb dX4_closePhrase_54 ?_
      refine lv_topi (fun z54 e_z54 => ?_)
      have b_ := zadd rfl zk_1 e_z54 (by omega) (by omega)
      refine va_put (D := (dC, dI)) (ci := 4) (v := .int z54) (ty := .int) (C := RX4) (T := TX4) (N := 12) hx hb hG zuX4 tyX4 tyX4_ok nmX4 hown hK hP hD hS 0 rfl rfl 6 (by decide) (hG _ zv414) (fun _ h9 => h9) rfl (by decide +kernel) rfl rfl (Nat.le_of_ble_eq_true rfl) dX4_closePhrase_55 (fun H locs hP hD hS => ?_)
      have hP : va_P (dC, dI) vwCl [(h0, .inr (4, mX4 h1 h4 h11 h18 (upd (upd v0 6 z54) 9 0))), (h18, .inr (7, mX7 h19 h20 h21 h22 h23 h24 h25 (upd (upd (upd (upd v18 7 (u43_ 0)) 9 (u43_ 1)) 10 (u43_ 2)) 11 (u43_ 3)))), (h19, zi k19 40 (a43_ 0)), (h20, zi k20 40 (a43_ 1)), (h21, zi k21 40 (a43_ 2)), (h22, zi k22 40 (a43_ 3)), (h23, zi k23 40 (a43_ 4)), (h25, zi k25 270 (a43_ 5)), (h24, zi k24 160 f24), (h1, .inr (9, mX9 h2 h3 v1)), (h2, zi k2 600 f2)] H := hP
      have hD : va_D A [(h0, .inr (4, mX4 h1 h4 h11 h18 (upd (upd v0 6 z54) 9 0))), (h18, .inr (7, mX7 h19 h20 h21 h22 h23 h24 h25 (upd (upd (upd (upd v18 7 (u43_ 0)) 9 (u43_ 1)) 10 (u43_ 2)) 11 (u43_ 3)))), (h19, zi k19 40 (a43_ 0)), (h20, zi k20 40 (a43_ 1)), (h21, zi k21 40 (a43_ 2)), (h22, zi k22 40 (a43_ 3)), (h23, zi k23 40 (a43_ 4)), (h25, zi k25 270 (a43_ 5)), (h24, zi k24 160 f24), (h1, .inr (9, mX9 h2 h3 v1)), (h2, zi k2 600 f2)] := hD
      refine lv_aload_n hx hb dX4_closePhrase_58 rfl (lv_at hl 0 rfl) ?_
      have hPc := hP.sub (ws' := [(h0, .inr (4, mX4 h1 h4 h11 h18 (upd (upd v0 6 z54) 9 0))), (h1, .inr (9, mX9 h2 h3 v1)), (h2, zi k2 600 f2)]) [0, 9, 10] rfl
      have hDc := hD.sub (ws' := [(h0, .inr (4, mX4 h1 h4 h11 h18 (upd (upd v0 6 z54) 9 0))), (h1, .inr (9, mX9 h2 h3 v1)), (h2, zi k2 600 f2)]) [0, 9, 10] (by decide) rfl
      have hKc := hK.sub (tys' := [(k2, .byte)]) [7] rfl
      have hFc := va_free (wc := [(h0, .inr (4, mX4 h1 h4 h11 h18 (upd (upd v0 6 z54) 9 0))), (h1, .inr (9, mX9 h2 h3 v1)), (h2, zi k2 600 f2)]) hD hS hA [0, 9, 10] rfl
      refine va_callv (va_runV (As := []) (rest := []) ⟨hx, hb, hml, hown, hG⟩ (sX4_next_0 l dC dI adK adV h0 h1 h2 h4 h11 h18 h3 k2 H.size (upd (upd v0 6 z54) 9 0) v1 f2 (zR_upd (zR_updF hv0 6 rfl) 9 (show (0 : Int) ≤ (0 : Int32).toInt from by decide) (show (0 : Int32).toInt ≤ (1 : Int) from by decide)) hv1) (cwV 0 hG (zgV zv1013 zv1015 zv11 zv137 zv1016) rfl rfl rfl (by decide +kernel) ⟨Nat.le_of_ble_eq_true rfl, Nat.le_of_ble_eq_true rfl⟩) ⟨zPc_blind, va_recv hKc hPc (ci := 4) (q0 := 0) rfl rfl, zPc_pre hPc hKc hDc hE hS hFc hZ⟩ rfl rfl hl.1 rfl (lv_room (Nat.le_of_ble_eq_true rfl)) dX4_closePhrase_59 ⟨Nat.le_of_ble_eq_true rfl, Nat.le_of_ble_eq_true rfl⟩) hS (fun q _ h => hFc q h) hFc (fun u59_ t H1 locs ht hvm hw hB hz1 hk1 hS => ?_)
      replace hw : (0 ≤ (u59_ 0).toInt ∧ (u59_ 0).toInt ≤ 265) ∧ ((v0 4).toInt = 265 ∨ (v0 8).toInt ≠ -1 → (u59_ 0).toInt = 265) ∧ ((v0 8).toInt = -1 → (u59_ 3).toInt = (v0 7).toInt) ∧ ((v0 7).toInt ≠ 0 → (u59_ 3).toInt = (v0 7).toInt) ∧ ((v0 8).toInt ≠ -1 → (v0 7).toInt = 0 → 0 ≤ (v0 8).toInt → (v0 8).toInt ≤ 700 → (u59_ 3).toInt ≠ 0) ∧ (zqTy f2 (v1 2).toInt → 0 ≤ z54.toInt → z54.toInt ≤ 602 → (v0 4).toInt ≠ 265 ∧ (v0 8).toInt = -1 → zBl f2 (v1 2).toInt z54.toInt (u59_ 1).toInt ∧ zLk f2 (v1 2).toInt (u59_ 1).toInt (u59_ 0).toInt (u59_ 2).toInt) := hw
      obtain ⟨b_, hX59_0, hX59_1, hX59_2, hX59_3, hX59_4⟩ := hw
      obtain ⟨w59_, a59_, b59_, hP1, hK1, hD1⟩ := hB
      rw [ht] at hP1
      obtain ⟨hP, hD⟩ := va_join (wr := [(h18, .inr (7, mX7 h19 h20 h21 h22 h23 h24 h25 (upd (upd (upd (upd v18 7 (u43_ 0)) 9 (u43_ 1)) 10 (u43_ 2)) 11 (u43_ 3)))), (h19, zi k19 40 (a43_ 0)), (h20, zi k20 40 (a43_ 1)), (h21, zi k21 40 (a43_ 2)), (h22, zi k22 40 (a43_ 3)), (h23, zi k23 40 (a43_ 4)), (h25, zi k25 270 (a43_ 5)), (h24, zi k24 160 f24)]) (w1 := [(h0, .inr (4, mX4 h1 h4 h11 h18 (upd (upd (upd (upd (upd v0 4 (u59_ 0)) 5 (u59_ 1)) 6 (u59_ 2)) 7 (u59_ 3)) 9 0))), (h1, .inr (9, mX9 h2 h3 v1)), (h2, zi k2 600 f2)]) hP hD [0, 9, 10] [1, 2, 3, 4, 5, 6, 7, 8] rfl rfl (by decide) (by decide) hk1 hFc hP1 hD1
      have hP : va_P (dC, dI) vwCl [(h0, .inr (4, mX4 h1 h4 h11 h18 (upd (upd (upd (upd (upd v0 4 (u59_ 0)) 5 (u59_ 1)) 6 (u59_ 2)) 7 (u59_ 3)) 9 0))), (h18, .inr (7, mX7 h19 h20 h21 h22 h23 h24 h25 (upd (upd (upd (upd v18 7 (u43_ 0)) 9 (u43_ 1)) 10 (u43_ 2)) 11 (u43_ 3)))), (h19, zi k19 40 (a43_ 0)), (h20, zi k20 40 (a43_ 1)), (h21, zi k21 40 (a43_ 2)), (h22, zi k22 40 (a43_ 3)), (h23, zi k23 40 (a43_ 4)), (h25, zi k25 270 (a43_ 5)), (h24, zi k24 160 f24), (h1, .inr (9, mX9 h2 h3 v1)), (h2, zi k2 600 f2)] H1 := hP.sub [8, 0, 1, 2, 3, 4, 5, 6, 7, 9, 10] rfl
      have hD : va_D A [(h0, .inr (4, mX4 h1 h4 h11 h18 (upd (upd (upd (upd (upd v0 4 (u59_ 0)) 5 (u59_ 1)) 6 (u59_ 2)) 7 (u59_ 3)) 9 0))), (h18, .inr (7, mX7 h19 h20 h21 h22 h23 h24 h25 (upd (upd (upd (upd v18 7 (u43_ 0)) 9 (u43_ 1)) 10 (u43_ 2)) 11 (u43_ 3)))), (h19, zi k19 40 (a43_ 0)), (h20, zi k20 40 (a43_ 1)), (h21, zi k21 40 (a43_ 2)), (h22, zi k22 40 (a43_ 3)), (h23, zi k23 40 (a43_ 4)), (h25, zi k25 270 (a43_ 5)), (h24, zi k24 160 f24), (h1, .inr (9, mX9 h2 h3 v1)), (h2, zi k2 600 f2)] := hD.sub [8, 0, 1, 2, 3, 4, 5, 6, 7, 9, 10] (by decide) rfl
      generalize H1 = H at hP hS ⊢
      clear hz1
      have hN59 := fun (tb_ : zqTy f2 (v1 2).toInt) => zNx_i hX59_0 hX59_1 hX59_2 hX59_3 (hX59_4 tb_)
      clear hX59_0 hX59_1 hX59_2 hX59_3 hX59_4
      refine W.widen (k := 0) (n := 0) (by decide) (by decide) ?_
      have b_ : -2147483648 ≤ (u59_ 1).toInt ∧ (u59_ 1).toInt ≤ 2147483647 := ⟨zlo _, zhi _⟩
      have b_ : -2147483648 ≤ (u59_ 2).toInt ∧ (u59_ 2).toInt ≤ 2147483647 := ⟨zlo _, zhi _⟩
      have b_ : -2147483648 ≤ (u59_ 3).toInt ∧ (u59_ 3).toInt ≤ 2147483647 := ⟨zlo _, zhi _⟩
      have b_ : -2147483648 ≤ (u43_ 2).toInt ∧ (u43_ 2).toInt ≤ 2147483647 := ⟨zlo _, zhi _⟩
      have b_ : -2147483648 ≤ (u43_ 3).toInt ∧ (u43_ 3).toInt ≤ 2147483647 := ⟨zlo _, zhi _⟩
      have hpost : (0 ≤ (u59_ 0).toInt ∧ (u59_ 0).toInt ≤ 265) ∧ (0 ≤ (0 : Int32).toInt ∧ (0 : Int32).toInt ≤ 0) ∧ (1 ≤ (u43_ 0).toInt ∧ (u43_ 0).toInt ≤ 40) ∧ (0 ≤ (u43_ 1).toInt ∧ (u43_ 1).toInt ≤ 270) ∧ ((v18 7).toInt < 40 → (u43_ 0).toInt = (v18 7).toInt + 1) ∧ (zyH f2 (v1 2).toInt (v0 4).toInt (v0 5).toInt (v0 6).toInt (v0 7).toInt (v0 8).toInt (v18 8).toInt x1.toInt x2.toInt (u59_ 0).toInt (u59_ 1).toInt (u59_ 2).toInt (u59_ 3).toInt) := ⟨(by first | with_reducible assumption | exact ⟨by omega, by omega⟩), (by first | with_reducible assumption | exact ⟨by omega, by omega⟩), (by first | with_reducible assumption | exact ⟨by omega, by omega⟩), (by first | with_reducible assumption | exact ⟨by omega, by omega⟩), by omega, by first | exact zyH_f (by omega) (by omega) hF14 (by omega) hN59 | exact zyH_n (by omega) (by omega) (by omega) hN59⟩
      have hP9 : va_P (dC, dI) vwCl [(h0, .inr (4, mX4 h1 h4 h11 h18 (upd (upd (upd (upd (upd v0 4 (u59_ 0)) 5 (u59_ 1)) 6 (u59_ 2)) 7 (u59_ 3)) 9 0))), (h18, .inr (7, mX7 h19 h20 h21 h22 h23 h24 h25 (upd (upd (upd (upd v18 7 (u43_ 0)) 9 (u43_ 1)) 10 (u43_ 2)) 11 (u43_ 3)))), (h19, zi k19 40 (a43_ 0)), (h20, zi k20 40 (a43_ 1)), (h21, zi k21 40 (a43_ 2)), (h22, zi k22 40 (a43_ 3)), (h23, zi k23 40 (a43_ 4)), (h25, zi k25 270 (a43_ 5)), (h24, zi k24 160 f24), (h1, .inr (9, mX9 h2 h3 v1)), (h2, zi k2 600 f2)] H := hP
      have hD9 : va_D A [(h0, .inr (4, mX4 h1 h4 h11 h18 (upd (upd (upd (upd (upd v0 4 (u59_ 0)) 5 (u59_ 1)) 6 (u59_ 2)) 7 (u59_ 3)) 9 0))), (h18, .inr (7, mX7 h19 h20 h21 h22 h23 h24 h25 (upd (upd (upd (upd v18 7 (u43_ 0)) 9 (u43_ 1)) 10 (u43_ 2)) 11 (u43_ 3)))), (h19, zi k19 40 (a43_ 0)), (h20, zi k20 40 (a43_ 1)), (h21, zi k21 40 (a43_ 2)), (h22, zi k22 40 (a43_ 3)), (h23, zi k23 40 (a43_ 4)), (h25, zi k25 270 (a43_ 5)), (h24, zi k24 160 f24), (h1, .inr (9, mX9 h2 h3 v1)), (h2, zi k2 600 f2)] := hD
      have hB0 : (v18 7).toInt < 40 → zAl (zqa f25 f19 f20 f21 f22 f24 f23) (zqa (a43_ 5) (a43_ 0) (a43_ 1) (a43_ 2) (a43_ 3) f24 (a43_ 4)) (v18 7).toInt (u43_ 0).toInt (v18 8).toInt (v18 9).toInt (u43_ 1).toInt 3 x1.toInt (v18 8).toInt x3.toInt (zu0 (v0 10).toInt) := by exact fun l_ => zAl_c (hB43_0 l_ (by decide) (by decide) (by first | omega | decide) (by first | omega | decide)) (by decide) rfl (by omega) (zu0_f (by first | exact Or.inl ⟨by omega, by decide⟩ | exact Or.inr ⟨by omega, by decide⟩))
      exact W.vret hx hb hr (fun t ht hW => ⟨⟨(fun i => ([(u59_ 0), (u59_ 1), (u59_ 2), (u59_ 3), 0, (u43_ 0), (u43_ 1), (u43_ 2), (u43_ 3)] : List (Int32)).getD i 0), rfl, hpost, (fun _ => 0), (fun i => ([(a43_ 0), (a43_ 1), (a43_ 2), (a43_ 3), (a43_ 4), (a43_ 5)] : List (Nat → Int32)).getD i (fun _ => 0)), (fun _ => (fun _ => 0)), ha43_5, hB0, by rw [ht]; exact hP9, va_K.moved hW.alike hK, hD9⟩, hS.F ht⟩) hS.2.2 dX4_closePhrase_62
    · skip
      have b_ := zF_ne rfl zk_0 c_
      refine lv_iconst (v := 1) hx hb dX4_closePhrase_38 (by decide) ?_
      refine lv_goto (tgt := 43) hx hb dX4_closePhrase_39 (by decide) ?_
      have hPc := hP.sub (ws' := [(h18, .inr (7, mX7 h19 h20 h21 h22 h23 h24 h25 v18)), (h19, zi k19 40 f19), (h20, zi k20 40 f20), (h21, zi k21 40 f21), (h22, zi k22 40 f22), (h23, zi k23 40 f23), (h25, zi k25 270 f25), (h24, zi k24 160 f24)]) [1, 2, 3, 4, 5, 6, 7, 8] rfl
      have hDc := hD.sub (ws' := [(h18, .inr (7, mX7 h19 h20 h21 h22 h23 h24 h25 v18)), (h19, zi k19 40 f19), (h20, zi k20 40 f20), (h21, zi k21 40 f21), (h22, zi k22 40 f22), (h23, zi k23 40 f23), (h25, zi k25 270 f25), (h24, zi k24 160 f24)]) [1, 2, 3, 4, 5, 6, 7, 8] (by decide) rfl
      have hKc := hK.sub (tys' := [(k19, .int), (k20, .int), (k21, .int), (k22, .int), (k23, .boolean), (k25, .int), (k24, .int)]) [0, 1, 2, 3, 4, 5, 6] rfl
      have hFc := va_free (wc := [(h18, .inr (7, mX7 h19 h20 h21 h22 h23 h24 h25 v18)), (h19, zi k19 40 f19), (h20, zi k20 40 f20), (h21, zi k21 40 f21), (h22, zi k22 40 f22), (h23, zi k23 40 f23), (h25, zi k25 270 f25), (h24, zi k24 160 f24)]) hD hS hA [1, 2, 3, 4, 5, 6, 7, 8] rfl
      refine va_callv (va_runV (As := [.int 3, .int x1, .int r27_, .int x3, .int 1]) (rest := []) ⟨hx, hb, hml, hown, hG⟩ (sX7_addLeaf_0 l dC dI adK adV h18 h19 h20 h21 h22 h23 h25 h24 k19 k20 k21 k22 k23 k25 k24 H.size v18 f19 f20 f21 f22 f23 f25 f24 3 x1 r27_ x3 1 hv18 hf25 ⟨show (1 : Int) ≤ (3 : Int32).toInt from by decide, show (3 : Int32).toInt ≤ (4 : Int) from by decide⟩ ⟨show (0 : Int) ≤ (1 : Int32).toInt from by decide, show (1 : Int32).toInt ≤ (1 : Int) from by decide⟩) (cwV 5 hG (zgV zv1108 zv1109 zv1110 zv136 zv1111) rfl rfl rfl (by decide +kernel) ⟨Nat.le_of_ble_eq_true rfl, Nat.le_of_ble_eq_true rfl⟩) ⟨zPc_blind, va_recv hKc hPc (ci := 7) (q0 := 0) rfl rfl, zPc_pre hPc hKc hDc hE hS hFc hZ⟩ rfl rfl hl.1 rfl (lv_room (Nat.le_of_ble_eq_true rfl)) dX4_closePhrase_43 ⟨Nat.le_of_ble_eq_true rfl, Nat.le_of_ble_eq_true rfl⟩) hS (fun q _ h => hFc q h) hFc (fun u43_ t H1 locs ht hvm hw hB hz1 hk1 hS => ?_)
      replace hw : (1 ≤ (u43_ 0).toInt ∧ (u43_ 0).toInt ≤ 40) ∧ (0 ≤ (u43_ 1).toInt ∧ (u43_ 1).toInt ≤ 270) ∧ ((v18 7).toInt < 40 → (u43_ 0).toInt = (v18 7).toInt + 1) ∧ (40 ≤ (v18 7).toInt → (u43_ 0).toInt = (v18 7).toInt) ∧ ((v18 7).toInt < 40 → (v18 9).toInt < 270 → (u43_ 1).toInt = (v18 9).toInt + 1) := hw
      obtain ⟨b_, b_, hX43_0, hX43_1, hX43_2⟩ := hw
      obtain ⟨w43_, a43_, b43_, ha43_5, hB43_0, hP1, hK1, hD1⟩ := hB
      have hB43_0 : (v18 7).toInt < 40 → 1 ≤ (3 : Int32).toInt → (3 : Int32).toInt ≤ 4 → 0 ≤ x3.toInt → x3.toInt ≤ 3 → zAl (zqa f25 f19 f20 f21 f22 f24 f23) (zqa (a43_ 5) (a43_ 0) (a43_ 1) (a43_ 2) (a43_ 3) f24 (a43_ 4)) (v18 7).toInt (u43_ 0).toInt (v18 8).toInt (v18 9).toInt (u43_ 1).toInt (3 : Int32).toInt x1.toInt r27_.toInt x3.toInt (1 : Int32).toInt := hB43_0
      rw [ht] at hP1
      obtain ⟨hP, hD⟩ := va_join (wr := [(h0, .inr (4, mX4 h1 h4 h11 h18 v0)), (h1, .inr (9, mX9 h2 h3 v1)), (h2, zi k2 600 f2)]) (w1 := [(h18, .inr (7, mX7 h19 h20 h21 h22 h23 h24 h25 (upd (upd (upd (upd v18 7 (u43_ 0)) 9 (u43_ 1)) 10 (u43_ 2)) 11 (u43_ 3)))), (h19, zi k19 40 (a43_ 0)), (h20, zi k20 40 (a43_ 1)), (h21, zi k21 40 (a43_ 2)), (h22, zi k22 40 (a43_ 3)), (h23, zi k23 40 (a43_ 4)), (h25, zi k25 270 (a43_ 5)), (h24, zi k24 160 f24)]) hP hD [1, 2, 3, 4, 5, 6, 7, 8] [0, 9, 10] rfl rfl (by decide) (by decide) hk1 hFc hP1 hD1
      have hP : va_P (dC, dI) vwCl [(h0, .inr (4, mX4 h1 h4 h11 h18 v0)), (h18, .inr (7, mX7 h19 h20 h21 h22 h23 h24 h25 (upd (upd (upd (upd v18 7 (u43_ 0)) 9 (u43_ 1)) 10 (u43_ 2)) 11 (u43_ 3)))), (h19, zi k19 40 (a43_ 0)), (h20, zi k20 40 (a43_ 1)), (h21, zi k21 40 (a43_ 2)), (h22, zi k22 40 (a43_ 3)), (h23, zi k23 40 (a43_ 4)), (h25, zi k25 270 (a43_ 5)), (h24, zi k24 160 f24), (h1, .inr (9, mX9 h2 h3 v1)), (h2, zi k2 600 f2)] H1 := hP.sub [0, 3, 4, 5, 6, 7, 8, 9, 10, 1, 2] rfl
      have hD : va_D A [(h0, .inr (4, mX4 h1 h4 h11 h18 v0)), (h18, .inr (7, mX7 h19 h20 h21 h22 h23 h24 h25 (upd (upd (upd (upd v18 7 (u43_ 0)) 9 (u43_ 1)) 10 (u43_ 2)) 11 (u43_ 3)))), (h19, zi k19 40 (a43_ 0)), (h20, zi k20 40 (a43_ 1)), (h21, zi k21 40 (a43_ 2)), (h22, zi k22 40 (a43_ 3)), (h23, zi k23 40 (a43_ 4)), (h25, zi k25 270 (a43_ 5)), (h24, zi k24 160 f24), (h1, .inr (9, mX9 h2 h3 v1)), (h2, zi k2 600 f2)] := hD.sub [0, 3, 4, 5, 6, 7, 8, 9, 10, 1, 2] (by decide) rfl
      generalize H1 = H at hP hS ⊢
      clear hz1
      refine lv_aload_n hx hb dX4_closePhrase_46 rfl (lv_at hl 0 rfl) ?_
      refine lv_iconst (v := 0) hx hb dX4_closePhrase_47 (by decide) ?_
      refine va_put (D := (dC, dI)) (ci := 4) (v := .int 0) (ty := .boolean) (C := RX4) (T := TX4) (N := 12) hx hb hG zuX4 tyX4 tyX4_ok nmX4 hown hK hP hD hS 0 rfl rfl 9 (by decide) (hG _ zv417) (fun _ h9 => h9) rfl (by decide +kernel) rfl rfl (Nat.le_of_ble_eq_true rfl) dX4_closePhrase_48 (fun H locs hP hD hS => ?_)
      have hP : va_P (dC, dI) vwCl [(h0, .inr (4, mX4 h1 h4 h11 h18 (upd v0 9 0))), (h18, .inr (7, mX7 h19 h20 h21 h22 h23 h24 h25 (upd (upd (upd (upd v18 7 (u43_ 0)) 9 (u43_ 1)) 10 (u43_ 2)) 11 (u43_ 3)))), (h19, zi k19 40 (a43_ 0)), (h20, zi k20 40 (a43_ 1)), (h21, zi k21 40 (a43_ 2)), (h22, zi k22 40 (a43_ 3)), (h23, zi k23 40 (a43_ 4)), (h25, zi k25 270 (a43_ 5)), (h24, zi k24 160 f24), (h1, .inr (9, mX9 h2 h3 v1)), (h2, zi k2 600 f2)] H := hP
      have hD : va_D A [(h0, .inr (4, mX4 h1 h4 h11 h18 (upd v0 9 0))), (h18, .inr (7, mX7 h19 h20 h21 h22 h23 h24 h25 (upd (upd (upd (upd v18 7 (u43_ 0)) 9 (u43_ 1)) 10 (u43_ 2)) 11 (u43_ 3)))), (h19, zi k19 40 (a43_ 0)), (h20, zi k20 40 (a43_ 1)), (h21, zi k21 40 (a43_ 2)), (h22, zi k22 40 (a43_ 3)), (h23, zi k23 40 (a43_ 4)), (h25, zi k25 270 (a43_ 5)), (h24, zi k24 160 f24), (h1, .inr (9, mX9 h2 h3 v1)), (h2, zi k2 600 f2)] := hD
      refine lv_aload_n hx hb dX4_closePhrase_51 rfl (lv_at hl 0 rfl) ?_
      refine lv_iload_n hx hb dX4_closePhrase_52 rfl (lv_at hl 2 rfl) ?_
      refine lv_iconst (v := 1) hx hb dX4_closePhrase_53 (by decide) ?_
      refine lv_iadd hx hb dX4_closePhrase_54 ?_
      refine lv_topi (fun z54 e_z54 => ?_)
      have b_ := zadd rfl zk_1 e_z54 (by omega) (by omega)
      refine va_put (D := (dC, dI)) (ci := 4) (v := .int z54) (ty := .int) (C := RX4) (T := TX4) (N := 12) hx hb hG zuX4 tyX4 tyX4_ok nmX4 hown hK hP hD hS 0 rfl rfl 6 (by decide) (hG _ zv414) (fun _ h9 => h9) rfl (by decide +kernel) rfl rfl (Nat.le_of_ble_eq_true rfl) dX4_closePhrase_55 (fun H locs hP hD hS => ?_)
      have hP : va_P (dC, dI) vwCl [(h0, .inr (4, mX4 h1 h4 h11 h18 (upd (upd v0 6 z54) 9 0))), (h18, .inr (7, mX7 h19 h20 h21 h22 h23 h24 h25 (upd (upd (upd (upd v18 7 (u43_ 0)) 9 (u43_ 1)) 10 (u43_ 2)) 11 (u43_ 3)))), (h19, zi k19 40 (a43_ 0)), (h20, zi k20 40 (a43_ 1)), (h21, zi k21 40 (a43_ 2)), (h22, zi k22 40 (a43_ 3)), (h23, zi k23 40 (a43_ 4)), (h25, zi k25 270 (a43_ 5)), (h24, zi k24 160 f24), (h1, .inr (9, mX9 h2 h3 v1)), (h2, zi k2 600 f2)] H := hP
      have hD : va_D A [(h0, .inr (4, mX4 h1 h4 h11 h18 (upd (upd v0 6 z54) 9 0))), (h18, .inr (7, mX7 h19 h20 h21 h22 h23 h24 h25 (upd (upd (upd (upd v18 7 (u43_ 0)) 9 (u43_ 1)) 10 (u43_ 2)) 11 (u43_ 3)))), (h19, zi k19 40 (a43_ 0)), (h20, zi k20 40 (a43_ 1)), (h21, zi k21 40 (a43_ 2)), (h22, zi k22 40 (a43_ 3)), (h23, zi k23 40 (a43_ 4)), (h25, zi k25 270 (a43_ 5)), (h24, zi k24 160 f24), (h1, .inr (9, mX9 h2 h3 v1)), (h2, zi k2 600 f2)] := hD
      refine lv_aload_n hx hb dX4_closePhrase_58 rfl (lv_at hl 0 rfl) ?_
      have hPc := hP.sub (ws' := [(h0, .inr (4, mX4 h1 h4 h11 h18 (upd (upd v0 6 z54) 9 0))), (h1, .inr (9, mX9 h2 h3 v1)), (h2, zi k2 600 f2)]) [0, 9, 10] rfl
      have hDc := hD.sub (ws' := [(h0, .inr (4, mX4 h1 h4 h11 h18 (upd (upd v0 6 z54) 9 0))), (h1, .inr (9, mX9 h2 h3 v1)), (h2, zi k2 600 f2)]) [0, 9, 10] (by decide) rfl
      have hKc := hK.sub (tys' := [(k2, .byte)]) [7] rfl
      have hFc := va_free (wc := [(h0, .inr (4, mX4 h1 h4 h11 h18 (upd (upd v0 6 z54) 9 0))), (h1, .inr (9, mX9 h2 h3 v1)), (h2, zi k2 600 f2)]) hD hS hA [0, 9, 10] rfl
      refine va_callv (va_runV (As := []) (rest := []) ⟨hx, hb, hml, hown, hG⟩ (sX4_next_0 l dC dI adK adV h0 h1 h2 h4 h11 h18 h3 k2 H.size (upd (upd v0 6 z54) 9 0) v1 f2 (zR_upd (zR_updF hv0 6 rfl) 9 (show (0 : Int) ≤ (0 : Int32).toInt from by decide) (show (0 : Int32).toInt ≤ (1 : Int) from by decide)) hv1) (cwV 0 hG (zgV zv1013 zv1015 zv11 zv137 zv1016) rfl rfl rfl (by decide +kernel) ⟨Nat.le_of_ble_eq_true rfl, Nat.le_of_ble_eq_true rfl⟩) ⟨zPc_blind, va_recv hKc hPc (ci := 4) (q0 := 0) rfl rfl, zPc_pre hPc hKc hDc hE hS hFc hZ⟩ rfl rfl hl.1 rfl (lv_room (Nat.le_of_ble_eq_true rfl)) dX4_closePhrase_59 ⟨Nat.le_of_ble_eq_true rfl, Nat.le_of_ble_eq_true rfl⟩) hS (fun q _ h => hFc q h) hFc (fun u59_ t H1 locs ht hvm hw hB hz1 hk1 hS => ?_)
      replace hw : (0 ≤ (u59_ 0).toInt ∧ (u59_ 0).toInt ≤ 265) ∧ ((v0 4).toInt = 265 ∨ (v0 8).toInt ≠ -1 → (u59_ 0).toInt = 265) ∧ ((v0 8).toInt = -1 → (u59_ 3).toInt = (v0 7).toInt) ∧ ((v0 7).toInt ≠ 0 → (u59_ 3).toInt = (v0 7).toInt) ∧ ((v0 8).toInt ≠ -1 → (v0 7).toInt = 0 → 0 ≤ (v0 8).toInt → (v0 8).toInt ≤ 700 → (u59_ 3).toInt ≠ 0) ∧ (zqTy f2 (v1 2).toInt → 0 ≤ z54.toInt → z54.toInt ≤ 602 → (v0 4).toInt ≠ 265 ∧ (v0 8).toInt = -1 → zBl f2 (v1 2).toInt z54.toInt (u59_ 1).toInt ∧ zLk f2 (v1 2).toInt (u59_ 1).toInt (u59_ 0).toInt (u59_ 2).toInt) := hw
      obtain ⟨b_, hX59_0, hX59_1, hX59_2, hX59_3, hX59_4⟩ := hw
      obtain ⟨w59_, a59_, b59_, hP1, hK1, hD1⟩ := hB
      rw [ht] at hP1
      obtain ⟨hP, hD⟩ := va_join (wr := [(h18, .inr (7, mX7 h19 h20 h21 h22 h23 h24 h25 (upd (upd (upd (upd v18 7 (u43_ 0)) 9 (u43_ 1)) 10 (u43_ 2)) 11 (u43_ 3)))), (h19, zi k19 40 (a43_ 0)), (h20, zi k20 40 (a43_ 1)), (h21, zi k21 40 (a43_ 2)), (h22, zi k22 40 (a43_ 3)), (h23, zi k23 40 (a43_ 4)), (h25, zi k25 270 (a43_ 5)), (h24, zi k24 160 f24)]) (w1 := [(h0, .inr (4, mX4 h1 h4 h11 h18 (upd (upd (upd (upd (upd v0 4 (u59_ 0)) 5 (u59_ 1)) 6 (u59_ 2)) 7 (u59_ 3)) 9 0))), (h1, .inr (9, mX9 h2 h3 v1)), (h2, zi k2 600 f2)]) hP hD [0, 9, 10] [1, 2, 3, 4, 5, 6, 7, 8] rfl rfl (by decide) (by decide) hk1 hFc hP1 hD1
      have hP : va_P (dC, dI) vwCl [(h0, .inr (4, mX4 h1 h4 h11 h18 (upd (upd (upd (upd (upd v0 4 (u59_ 0)) 5 (u59_ 1)) 6 (u59_ 2)) 7 (u59_ 3)) 9 0))), (h18, .inr (7, mX7 h19 h20 h21 h22 h23 h24 h25 (upd (upd (upd (upd v18 7 (u43_ 0)) 9 (u43_ 1)) 10 (u43_ 2)) 11 (u43_ 3)))), (h19, zi k19 40 (a43_ 0)), (h20, zi k20 40 (a43_ 1)), (h21, zi k21 40 (a43_ 2)), (h22, zi k22 40 (a43_ 3)), (h23, zi k23 40 (a43_ 4)), (h25, zi k25 270 (a43_ 5)), (h24, zi k24 160 f24), (h1, .inr (9, mX9 h2 h3 v1)), (h2, zi k2 600 f2)] H1 := hP.sub [8, 0, 1, 2, 3, 4, 5, 6, 7, 9, 10] rfl
      have hD : va_D A [(h0, .inr (4, mX4 h1 h4 h11 h18 (upd (upd (upd (upd (upd v0 4 (u59_ 0)) 5 (u59_ 1)) 6 (u59_ 2)) 7 (u59_ 3)) 9 0))), (h18, .inr (7, mX7 h19 h20 h21 h22 h23 h24 h25 (upd (upd (upd (upd v18 7 (u43_ 0)) 9 (u43_ 1)) 10 (u43_ 2)) 11 (u43_ 3)))), (h19, zi k19 40 (a43_ 0)), (h20, zi k20 40 (a43_ 1)), (h21, zi k21 40 (a43_ 2)), (h22, zi k22 40 (a43_ 3)), (h23, zi k23 40 (a43_ 4)), (h25, zi k25 270 (a43_ 5)), (h24, zi k24 160 f24), (h1, .inr (9, mX9 h2 h3 v1)), (h2, zi k2 600 f2)] := hD.sub [8, 0, 1, 2, 3, 4, 5, 6, 7, 9, 10] (by decide) rfl
      generalize H1 = H at hP hS ⊢
      clear hz1
      have hN59 := fun (tb_ : zqTy f2 (v1 2).toInt) => zNx_i hX59_0 hX59_1 hX59_2 hX59_3 (hX59_4 tb_)
      clear hX59_0 hX59_1 hX59_2 hX59_3 hX59_4
      refine W.widen (k := 0) (n := 0) (by decide) (by decide) ?_
      have b_ : -2147483648 ≤ (u59_ 1).toInt ∧ (u59_ 1).toInt ≤ 2147483647 := ⟨zlo _, zhi _⟩
      have b_ : -2147483648 ≤ (u59_ 2).toInt ∧ (u59_ 2).toInt ≤ 2147483647 := ⟨zlo _, zhi _⟩
      have b_ : -2147483648 ≤ (u59_ 3).toInt ∧ (u59_ 3).toInt ≤ 2147483647 := ⟨zlo _, zhi _⟩
      have b_ : -2147483648 ≤ (u43_ 2).toInt ∧ (u43_ 2).toInt ≤ 2147483647 := ⟨zlo _, zhi _⟩
      have b_ : -2147483648 ≤ (u43_ 3).toInt ∧ (u43_ 3).toInt ≤ 2147483647 := ⟨zlo _, zhi _⟩
      have hpost : (0 ≤ (u59_ 0).toInt ∧ (u59_ 0).toInt ≤ 265) ∧ (0 ≤ (0 : Int32).toInt ∧ (0 : Int32).toInt ≤ 0) ∧ (1 ≤ (u43_ 0).toInt ∧ (u43_ 0).toInt ≤ 40) ∧ (0 ≤ (u43_ 1).toInt ∧ (u43_ 1).toInt ≤ 270) ∧ ((v18 7).toInt < 40 → (u43_ 0).toInt = (v18 7).toInt + 1) ∧ (zyH f2 (v1 2).toInt (v0 4).toInt (v0 5).toInt (v0 6).toInt (v0 7).toInt (v0 8).toInt (v18 8).toInt x1.toInt x2.toInt (u59_ 0).toInt (u59_ 1).toInt (u59_ 2).toInt (u59_ 3).toInt) := ⟨(by first | with_reducible assumption | exact ⟨by omega, by omega⟩), (by first | with_reducible assumption | exact ⟨by omega, by omega⟩), (by first | with_reducible assumption | exact ⟨by omega, by omega⟩), (by first | with_reducible assumption | exact ⟨by omega, by omega⟩), by omega, by first | exact zyH_f (by omega) (by omega) hF14 (by omega) hN59 | exact zyH_n (by omega) (by omega) (by omega) hN59⟩
      have hP9 : va_P (dC, dI) vwCl [(h0, .inr (4, mX4 h1 h4 h11 h18 (upd (upd (upd (upd (upd v0 4 (u59_ 0)) 5 (u59_ 1)) 6 (u59_ 2)) 7 (u59_ 3)) 9 0))), (h18, .inr (7, mX7 h19 h20 h21 h22 h23 h24 h25 (upd (upd (upd (upd v18 7 (u43_ 0)) 9 (u43_ 1)) 10 (u43_ 2)) 11 (u43_ 3)))), (h19, zi k19 40 (a43_ 0)), (h20, zi k20 40 (a43_ 1)), (h21, zi k21 40 (a43_ 2)), (h22, zi k22 40 (a43_ 3)), (h23, zi k23 40 (a43_ 4)), (h25, zi k25 270 (a43_ 5)), (h24, zi k24 160 f24), (h1, .inr (9, mX9 h2 h3 v1)), (h2, zi k2 600 f2)] H := hP
      have hD9 : va_D A [(h0, .inr (4, mX4 h1 h4 h11 h18 (upd (upd (upd (upd (upd v0 4 (u59_ 0)) 5 (u59_ 1)) 6 (u59_ 2)) 7 (u59_ 3)) 9 0))), (h18, .inr (7, mX7 h19 h20 h21 h22 h23 h24 h25 (upd (upd (upd (upd v18 7 (u43_ 0)) 9 (u43_ 1)) 10 (u43_ 2)) 11 (u43_ 3)))), (h19, zi k19 40 (a43_ 0)), (h20, zi k20 40 (a43_ 1)), (h21, zi k21 40 (a43_ 2)), (h22, zi k22 40 (a43_ 3)), (h23, zi k23 40 (a43_ 4)), (h25, zi k25 270 (a43_ 5)), (h24, zi k24 160 f24), (h1, .inr (9, mX9 h2 h3 v1)), (h2, zi k2 600 f2)] := hD
      have hB0 : (v18 7).toInt < 40 → zAl (zqa f25 f19 f20 f21 f22 f24 f23) (zqa (a43_ 5) (a43_ 0) (a43_ 1) (a43_ 2) (a43_ 3) f24 (a43_ 4)) (v18 7).toInt (u43_ 0).toInt (v18 8).toInt (v18 9).toInt (u43_ 1).toInt 3 x1.toInt (v18 8).toInt x3.toInt (zu0 (v0 10).toInt) := by exact fun l_ => zAl_c (hB43_0 l_ (by decide) (by decide) (by first | omega | decide) (by first | omega | decide)) (by decide) rfl (by omega) (zu0_f (by first | exact Or.inl ⟨by omega, by decide⟩ | exact Or.inr ⟨by omega, by decide⟩))
      exact W.vret hx hb hr (fun t ht hW => ⟨⟨(fun i => ([(u59_ 0), (u59_ 1), (u59_ 2), (u59_ 3), 0, (u43_ 0), (u43_ 1), (u43_ 2), (u43_ 3)] : List (Int32)).getD i 0), rfl, hpost, (fun _ => 0), (fun i => ([(a43_ 0), (a43_ 1), (a43_ 2), (a43_ 3), (a43_ 4), (a43_ 5)] : List (Nat → Int32)).getD i (fun _ => 0)), (fun _ => (fun _ => 0)), ha43_5, hB0, by rw [ht]; exact hP9, va_K.moved hW.alike hK, hD9⟩, hS.F ht⟩) hS.2.2 dX4_closePhrase_62
  · skip
    have b_ := zF_ne rfl rfl c_
    refine lv_aload_n hx hb dX4_closePhrase_11 rfl (lv_at hl 0 rfl) ?_
    refine lv_iconst (v := 1) hx hb dX4_closePhrase_12 (by decide) ?_
    refine lv_iload_n hx hb dX4_closePhrase_13 rfl (lv_at hl 2 rfl) ?_
    have hPc := hP.sub (ws' := [(h0, .inr (4, mX4 h1 h4 h11 h18 v0))]) [0] rfl
    have hDc := hD.sub (ws' := [(h0, .inr (4, mX4 h1 h4 h11 h18 v0))]) [0] (by decide) rfl
    have hKc := hK.sub (tys' := []) [] rfl
    have hFc := va_free (wc := [(h0, .inr (4, mX4 h1 h4 h11 h18 v0))]) hD hS hA [0] rfl
    refine va_callv (va_runV (As := [.int 1, .int x2]) (rest := []) ⟨hx, hb, hml, hown, hG⟩ (sX4_fail_0 l dC dI adK adV h0 h1 h4 h11 h18 H.size v0 1 x2 hv0) (cwV 2 hG (zgV zv1021 zv1023 zv13 zv137 zv1024) rfl rfl rfl (by decide +kernel) ⟨Nat.le_of_ble_eq_true rfl, Nat.le_of_ble_eq_true rfl⟩) ⟨zPc_blind, va_recv hKc hPc (ci := 4) (q0 := 0) rfl rfl, zPc_pre hPc hKc hDc hE hS hFc hZ⟩ rfl rfl hl.1 rfl (lv_room (Nat.le_of_ble_eq_true rfl)) dX4_closePhrase_14 ⟨Nat.le_of_ble_eq_true rfl, Nat.le_of_ble_eq_true rfl⟩) hS (fun q _ h => hFc q h) hFc (fun u14_ t H1 locs ht hvm hw hB hz1 hk1 hS => ?_)
    replace hw : (265 ≤ (u14_ 0).toInt ∧ (u14_ 0).toInt ≤ 265) ∧ ((u14_ 0).toInt = 265) ∧ ((v0 7).toInt ≠ 0 → (u14_ 1).toInt = (v0 7).toInt) ∧ ((v0 7).toInt = 0 → 1 ≤ (1 : Int32).toInt → (1 : Int32).toInt ≤ 4 → 0 ≤ x2.toInt → x2.toInt ≤ 700 → (u14_ 1).toInt ≠ 0) := hw
    obtain ⟨b_, hX14_0, hX14_1, hX14_2⟩ := hw
    obtain ⟨w14_, a14_, b14_, hP1, hK1, hD1⟩ := hB
    rw [ht] at hP1
    obtain ⟨hP, hD⟩ := va_join (wr := [(h18, .inr (7, mX7 h19 h20 h21 h22 h23 h24 h25 v18)), (h19, zi k19 40 f19), (h20, zi k20 40 f20), (h21, zi k21 40 f21), (h22, zi k22 40 f22), (h23, zi k23 40 f23), (h25, zi k25 270 f25), (h24, zi k24 160 f24), (h1, .inr (9, mX9 h2 h3 v1)), (h2, zi k2 600 f2)]) (w1 := [(h0, .inr (4, mX4 h1 h4 h11 h18 (upd (upd v0 4 (u14_ 0)) 7 (u14_ 1))))]) hP hD [0] [1, 2, 3, 4, 5, 6, 7, 8, 9, 10] rfl rfl (by decide) (by decide) hk1 hFc hP1 hD1
    have hP : va_P (dC, dI) vwCl [(h0, .inr (4, mX4 h1 h4 h11 h18 (upd (upd v0 4 (u14_ 0)) 7 (u14_ 1)))), (h18, .inr (7, mX7 h19 h20 h21 h22 h23 h24 h25 v18)), (h19, zi k19 40 f19), (h20, zi k20 40 f20), (h21, zi k21 40 f21), (h22, zi k22 40 f22), (h23, zi k23 40 f23), (h25, zi k25 270 f25), (h24, zi k24 160 f24), (h1, .inr (9, mX9 h2 h3 v1)), (h2, zi k2 600 f2)] H1 := hP.sub [10, 0, 1, 2, 3, 4, 5, 6, 7, 8, 9] rfl
    have hD : va_D A [(h0, .inr (4, mX4 h1 h4 h11 h18 (upd (upd v0 4 (u14_ 0)) 7 (u14_ 1)))), (h18, .inr (7, mX7 h19 h20 h21 h22 h23 h24 h25 v18)), (h19, zi k19 40 f19), (h20, zi k20 40 f20), (h21, zi k21 40 f21), (h22, zi k22 40 f22), (h23, zi k23 40 f23), (h25, zi k25 270 f25), (h24, zi k24 160 f24), (h1, .inr (9, mX9 h2 h3 v1)), (h2, zi k2 600 f2)] := hD.sub [10, 0, 1, 2, 3, 4, 5, 6, 7, 8, 9] (by decide) rfl
    generalize H1 = H at hP hS ⊢
    clear hz1
    have hF14 := zFb_i hX14_0 hX14_1 hX14_2
    clear hX14_1 hX14_2
    refine lv_aload_n hx hb dX4_closePhrase_17 rfl (lv_at hl 0 rfl) ?_
    refine va_get (D := (dC, dI)) (ci := 4) (v := .ref h18) (C := RX4) (T := TX4) (N := 12) hx hb hG zuX4 hown hK hP 0 rfl rfl 3 (by decide) (hG _ zv411) (fun _ h9 => h9) rfl dX4_closePhrase_18 ?_
    refine lv_iconst (v := 3) hx hb dX4_closePhrase_21 (by decide) ?_
    refine lv_iload_n hx hb dX4_closePhrase_22 rfl (lv_at hl 1 rfl) ?_
    refine lv_aload_n hx hb dX4_closePhrase_23 rfl (lv_at hl 0 rfl) ?_
    refine va_get (D := (dC, dI)) (ci := 4) (v := .ref h18) (C := RX4) (T := TX4) (N := 12) hx hb hG zuX4 hown hK hP 0 rfl rfl 3 (by decide) (hG _ zv411) (fun _ h9 => h9) rfl dX4_closePhrase_24 ?_
    have hPc := hP.sub (ws' := [(h18, .inr (7, mX7 h19 h20 h21 h22 h23 h24 h25 v18))]) [1] rfl
    have hDc := hD.sub (ws' := [(h18, .inr (7, mX7 h19 h20 h21 h22 h23 h24 h25 v18))]) [1] (by decide) rfl
    have hKc := hK.sub (tys' := []) [] rfl
    have hFc := va_free (wc := [(h18, .inr (7, mX7 h19 h20 h21 h22 h23 h24 h25 v18))]) hD hS hA [1] rfl
    refine va_calli (va_runV (As := []) (rest := [.int x1, .int 3, .ref h18]) ⟨hx, hb, hml, hown, hG⟩ (sX7_phraseWords_0 l dC dI adK adV h18 h19 h20 h21 h22 h23 h24 h25 H.size v18 hv18) (cwV 0 hG (zgV zv1121 zv1122 zv1123 zv136 zv1124) rfl rfl rfl (by decide +kernel) ⟨Nat.le_of_ble_eq_true rfl, Nat.le_of_ble_eq_true rfl⟩) ⟨zPc_blind, va_recv hKc hPc (ci := 7) (q0 := 0) rfl rfl, zPc_pre hPc hKc hDc hE hS hFc hZ⟩ rfl rfl hl.1 rfl (lv_room (Nat.le_of_ble_eq_true rfl)) dX4_closePhrase_27 ⟨Nat.le_of_ble_eq_true rfl, Nat.le_of_ble_eq_true rfl⟩) hS (fun q _ h => hFc q h) hFc (fun r27_ u27_ t H1 locs ht hvm hw hB hz1 hk1 hS => ?_)
    replace hw : (0 ≤ r27_.toInt ∧ r27_.toInt ≤ 160) ∧ (r27_.toInt = (v18 8).toInt) := hw
    obtain ⟨b_, hX27_0⟩ := hw
    obtain ⟨w27_, a27_, b27_, hP1, hK1, hD1⟩ := hB
    rw [ht] at hP1
    obtain ⟨hP, hD⟩ := va_join (wr := [(h0, .inr (4, mX4 h1 h4 h11 h18 (upd (upd v0 4 (u14_ 0)) 7 (u14_ 1)))), (h19, zi k19 40 f19), (h20, zi k20 40 f20), (h21, zi k21 40 f21), (h22, zi k22 40 f22), (h23, zi k23 40 f23), (h25, zi k25 270 f25), (h24, zi k24 160 f24), (h1, .inr (9, mX9 h2 h3 v1)), (h2, zi k2 600 f2)]) (w1 := [(h18, .inr (7, mX7 h19 h20 h21 h22 h23 h24 h25 v18))]) hP hD [1] [0, 2, 3, 4, 5, 6, 7, 8, 9, 10] rfl rfl (by decide) (by decide) hk1 hFc hP1 hD1
    have hP : va_P (dC, dI) vwCl [(h0, .inr (4, mX4 h1 h4 h11 h18 (upd (upd v0 4 (u14_ 0)) 7 (u14_ 1)))), (h18, .inr (7, mX7 h19 h20 h21 h22 h23 h24 h25 v18)), (h19, zi k19 40 f19), (h20, zi k20 40 f20), (h21, zi k21 40 f21), (h22, zi k22 40 f22), (h23, zi k23 40 f23), (h25, zi k25 270 f25), (h24, zi k24 160 f24), (h1, .inr (9, mX9 h2 h3 v1)), (h2, zi k2 600 f2)] H1 := hP.sub [0, 10, 1, 2, 3, 4, 5, 6, 7, 8, 9] rfl
    have hD : va_D A [(h0, .inr (4, mX4 h1 h4 h11 h18 (upd (upd v0 4 (u14_ 0)) 7 (u14_ 1)))), (h18, .inr (7, mX7 h19 h20 h21 h22 h23 h24 h25 v18)), (h19, zi k19 40 f19), (h20, zi k20 40 f20), (h21, zi k21 40 f21), (h22, zi k22 40 f22), (h23, zi k23 40 f23), (h25, zi k25 270 f25), (h24, zi k24 160 f24), (h1, .inr (9, mX9 h2 h3 v1)), (h2, zi k2 600 f2)] := hD.sub [0, 10, 1, 2, 3, 4, 5, 6, 7, 8, 9] (by decide) rfl
    generalize H1 = H at hP hS ⊢
    clear hz1
    refine lv_iload_n hx hb dX4_closePhrase_30 rfl (lv_at hl 3 rfl) ?_
    refine lv_aload_n hx hb dX4_closePhrase_31 rfl (lv_at hl 0 rfl) ?_
    refine va_get (D := (dC, dI)) (ci := 4) (v := .int (v0 10)) (C := RX4) (T := TX4) (N := 12) hx hb hG zuX4 hown hK hP 0 rfl rfl 10 (by decide) (hG _ zv418) (fun _ h9 => h9) rfl dX4_closePhrase_32 ?_
    refine lv_if_ne (tgt := 42) hx hb dX4_closePhrase_35 (by decide) (fun c_ => ?_) (fun c_ => ?_)
    · skip
      have b_ := zT_ne rfl zk_0 c_
      refine lv_iconst (v := 0) hx hb dX4_closePhrase_42 (by decide) ?_
      have hPc := hP.sub (ws' := [(h18, .inr (7, mX7 h19 h20 h21 h22 h23 h24 h25 v18)), (h19, zi k19 40 f19), (h20, zi k20 40 f20), (h21, zi k21 40 f21), (h22, zi k22 40 f22), (h23, zi k23 40 f23), (h25, zi k25 270 f25), (h24, zi k24 160 f24)]) [1, 2, 3, 4, 5, 6, 7, 8] rfl
      have hDc := hD.sub (ws' := [(h18, .inr (7, mX7 h19 h20 h21 h22 h23 h24 h25 v18)), (h19, zi k19 40 f19), (h20, zi k20 40 f20), (h21, zi k21 40 f21), (h22, zi k22 40 f22), (h23, zi k23 40 f23), (h25, zi k25 270 f25), (h24, zi k24 160 f24)]) [1, 2, 3, 4, 5, 6, 7, 8] (by decide) rfl
      have hKc := hK.sub (tys' := [(k19, .int), (k20, .int), (k21, .int), (k22, .int), (k23, .boolean), (k25, .int), (k24, .int)]) [0, 1, 2, 3, 4, 5, 6] rfl
      have hFc := va_free (wc := [(h18, .inr (7, mX7 h19 h20 h21 h22 h23 h24 h25 v18)), (h19, zi k19 40 f19), (h20, zi k20 40 f20), (h21, zi k21 40 f21), (h22, zi k22 40 f22), (h23, zi k23 40 f23), (h25, zi k25 270 f25), (h24, zi k24 160 f24)]) hD hS hA [1, 2, 3, 4, 5, 6, 7, 8] rfl
      refine va_callv (va_runV (As := [.int 3, .int x1, .int r27_, .int x3, .int 0]) (rest := []) ⟨hx, hb, hml, hown, hG⟩ (sX7_addLeaf_0 l dC dI adK adV h18 h19 h20 h21 h22 h23 h25 h24 k19 k20 k21 k22 k23 k25 k24 H.size v18 f19 f20 f21 f22 f23 f25 f24 3 x1 r27_ x3 0 hv18 hf25 ⟨show (1 : Int) ≤ (3 : Int32).toInt from by decide, show (3 : Int32).toInt ≤ (4 : Int) from by decide⟩ ⟨show (0 : Int) ≤ (0 : Int32).toInt from by decide, show (0 : Int32).toInt ≤ (1 : Int) from by decide⟩) (cwV 5 hG (zgV zv1108 zv1109 zv1110 zv136 zv1111) rfl rfl rfl (by decide +kernel) ⟨Nat.le_of_ble_eq_true rfl, Nat.le_of_ble_eq_true rfl⟩) ⟨zPc_blind, va_recv hKc hPc (ci := 7) (q0 := 0) rfl rfl, zPc_pre hPc hKc hDc hE hS hFc hZ⟩ rfl rfl hl.1 rfl (lv_room (Nat.le_of_ble_eq_true rfl)) dX4_closePhrase_43 ⟨Nat.le_of_ble_eq_true rfl, Nat.le_of_ble_eq_true rfl⟩) hS (fun q _ h => hFc q h) hFc (fun u43_ t H1 locs ht hvm hw hB hz1 hk1 hS => ?_)
      replace hw : (1 ≤ (u43_ 0).toInt ∧ (u43_ 0).toInt ≤ 40) ∧ (0 ≤ (u43_ 1).toInt ∧ (u43_ 1).toInt ≤ 270) ∧ ((v18 7).toInt < 40 → (u43_ 0).toInt = (v18 7).toInt + 1) ∧ (40 ≤ (v18 7).toInt → (u43_ 0).toInt = (v18 7).toInt) ∧ ((v18 7).toInt < 40 → (v18 9).toInt < 270 → (u43_ 1).toInt = (v18 9).toInt + 1) := hw
      obtain ⟨b_, b_, hX43_0, hX43_1, hX43_2⟩ := hw
      obtain ⟨w43_, a43_, b43_, ha43_5, hB43_0, hP1, hK1, hD1⟩ := hB
      have hB43_0 : (v18 7).toInt < 40 → 1 ≤ (3 : Int32).toInt → (3 : Int32).toInt ≤ 4 → 0 ≤ x3.toInt → x3.toInt ≤ 3 → zAl (zqa f25 f19 f20 f21 f22 f24 f23) (zqa (a43_ 5) (a43_ 0) (a43_ 1) (a43_ 2) (a43_ 3) f24 (a43_ 4)) (v18 7).toInt (u43_ 0).toInt (v18 8).toInt (v18 9).toInt (u43_ 1).toInt (3 : Int32).toInt x1.toInt r27_.toInt x3.toInt (0 : Int32).toInt := hB43_0
      rw [ht] at hP1
      obtain ⟨hP, hD⟩ := va_join (wr := [(h0, .inr (4, mX4 h1 h4 h11 h18 (upd (upd v0 4 (u14_ 0)) 7 (u14_ 1)))), (h1, .inr (9, mX9 h2 h3 v1)), (h2, zi k2 600 f2)]) (w1 := [(h18, .inr (7, mX7 h19 h20 h21 h22 h23 h24 h25 (upd (upd (upd (upd v18 7 (u43_ 0)) 9 (u43_ 1)) 10 (u43_ 2)) 11 (u43_ 3)))), (h19, zi k19 40 (a43_ 0)), (h20, zi k20 40 (a43_ 1)), (h21, zi k21 40 (a43_ 2)), (h22, zi k22 40 (a43_ 3)), (h23, zi k23 40 (a43_ 4)), (h25, zi k25 270 (a43_ 5)), (h24, zi k24 160 f24)]) hP hD [1, 2, 3, 4, 5, 6, 7, 8] [0, 9, 10] rfl rfl (by decide) (by decide) hk1 hFc hP1 hD1
      have hP : va_P (dC, dI) vwCl [(h0, .inr (4, mX4 h1 h4 h11 h18 (upd (upd v0 4 (u14_ 0)) 7 (u14_ 1)))), (h18, .inr (7, mX7 h19 h20 h21 h22 h23 h24 h25 (upd (upd (upd (upd v18 7 (u43_ 0)) 9 (u43_ 1)) 10 (u43_ 2)) 11 (u43_ 3)))), (h19, zi k19 40 (a43_ 0)), (h20, zi k20 40 (a43_ 1)), (h21, zi k21 40 (a43_ 2)), (h22, zi k22 40 (a43_ 3)), (h23, zi k23 40 (a43_ 4)), (h25, zi k25 270 (a43_ 5)), (h24, zi k24 160 f24), (h1, .inr (9, mX9 h2 h3 v1)), (h2, zi k2 600 f2)] H1 := hP.sub [0, 3, 4, 5, 6, 7, 8, 9, 10, 1, 2] rfl
      have hD : va_D A [(h0, .inr (4, mX4 h1 h4 h11 h18 (upd (upd v0 4 (u14_ 0)) 7 (u14_ 1)))), (h18, .inr (7, mX7 h19 h20 h21 h22 h23 h24 h25 (upd (upd (upd (upd v18 7 (u43_ 0)) 9 (u43_ 1)) 10 (u43_ 2)) 11 (u43_ 3)))), (h19, zi k19 40 (a43_ 0)), (h20, zi k20 40 (a43_ 1)), (h21, zi k21 40 (a43_ 2)), (h22, zi k22 40 (a43_ 3)), (h23, zi k23 40 (a43_ 4)), (h25, zi k25 270 (a43_ 5)), (h24, zi k24 160 f24), (h1, .inr (9, mX9 h2 h3 v1)), (h2, zi k2 600 f2)] := hD.sub [0, 3, 4, 5, 6, 7, 8, 9, 10, 1, 2] (by decide) rfl
      generalize H1 = H at hP hS ⊢
      clear hz1
      refine lv_aload_n hx hb dX4_closePhrase_46 rfl (lv_at hl 0 rfl) ?_
      refine lv_iconst (v := 0) hx hb dX4_closePhrase_47 (by decide) ?_
      refine va_put (D := (dC, dI)) (ci := 4) (v := .int 0) (ty := .boolean) (C := RX4) (T := TX4) (N := 12) hx hb hG zuX4 tyX4 tyX4_ok nmX4 hown hK hP hD hS 0 rfl rfl 9 (by decide) (hG _ zv417) (fun _ h9 => h9) rfl (by decide +kernel) rfl rfl (Nat.le_of_ble_eq_true rfl) dX4_closePhrase_48 (fun H locs hP hD hS => ?_)
      have hP : va_P (dC, dI) vwCl [(h0, .inr (4, mX4 h1 h4 h11 h18 (upd (upd (upd v0 4 (u14_ 0)) 7 (u14_ 1)) 9 0))), (h18, .inr (7, mX7 h19 h20 h21 h22 h23 h24 h25 (upd (upd (upd (upd v18 7 (u43_ 0)) 9 (u43_ 1)) 10 (u43_ 2)) 11 (u43_ 3)))), (h19, zi k19 40 (a43_ 0)), (h20, zi k20 40 (a43_ 1)), (h21, zi k21 40 (a43_ 2)), (h22, zi k22 40 (a43_ 3)), (h23, zi k23 40 (a43_ 4)), (h25, zi k25 270 (a43_ 5)), (h24, zi k24 160 f24), (h1, .inr (9, mX9 h2 h3 v1)), (h2, zi k2 600 f2)] H := hP
      have hD : va_D A [(h0, .inr (4, mX4 h1 h4 h11 h18 (upd (upd (upd v0 4 (u14_ 0)) 7 (u14_ 1)) 9 0))), (h18, .inr (7, mX7 h19 h20 h21 h22 h23 h24 h25 (upd (upd (upd (upd v18 7 (u43_ 0)) 9 (u43_ 1)) 10 (u43_ 2)) 11 (u43_ 3)))), (h19, zi k19 40 (a43_ 0)), (h20, zi k20 40 (a43_ 1)), (h21, zi k21 40 (a43_ 2)), (h22, zi k22 40 (a43_ 3)), (h23, zi k23 40 (a43_ 4)), (h25, zi k25 270 (a43_ 5)), (h24, zi k24 160 f24), (h1, .inr (9, mX9 h2 h3 v1)), (h2, zi k2 600 f2)] := hD
      refine lv_aload_n hx hb dX4_closePhrase_51 rfl (lv_at hl 0 rfl) ?_
      refine lv_iload_n hx hb dX4_closePhrase_52 rfl (lv_at hl 2 rfl) ?_
      refine lv_iconst (v := 1) hx hb dX4_closePhrase_53 (by decide) ?_
      refine lv_iadd hx hb dX4_closePhrase_54 ?_
      refine lv_topi (fun z54 e_z54 => ?_)
      have b_ := zadd rfl zk_1 e_z54 (by omega) (by omega)
      refine va_put (D := (dC, dI)) (ci := 4) (v := .int z54) (ty := .int) (C := RX4) (T := TX4) (N := 12) hx hb hG zuX4 tyX4 tyX4_ok nmX4 hown hK hP hD hS 0 rfl rfl 6 (by decide) (hG _ zv414) (fun _ h9 => h9) rfl (by decide +kernel) rfl rfl (Nat.le_of_ble_eq_true rfl) dX4_closePhrase_55 (fun H locs hP hD hS => ?_)
      have hP : va_P (dC, dI) vwCl [(h0, .inr (4, mX4 h1 h4 h11 h18 (upd (upd (upd (upd v0 4 (u14_ 0)) 6 z54) 7 (u14_ 1)) 9 0))), (h18, .inr (7, mX7 h19 h20 h21 h22 h23 h24 h25 (upd (upd (upd (upd v18 7 (u43_ 0)) 9 (u43_ 1)) 10 (u43_ 2)) 11 (u43_ 3)))), (h19, zi k19 40 (a43_ 0)), (h20, zi k20 40 (a43_ 1)), (h21, zi k21 40 (a43_ 2)), (h22, zi k22 40 (a43_ 3)), (h23, zi k23 40 (a43_ 4)), (h25, zi k25 270 (a43_ 5)), (h24, zi k24 160 f24), (h1, .inr (9, mX9 h2 h3 v1)), (h2, zi k2 600 f2)] H := hP
      have hD : va_D A [(h0, .inr (4, mX4 h1 h4 h11 h18 (upd (upd (upd (upd v0 4 (u14_ 0)) 6 z54) 7 (u14_ 1)) 9 0))), (h18, .inr (7, mX7 h19 h20 h21 h22 h23 h24 h25 (upd (upd (upd (upd v18 7 (u43_ 0)) 9 (u43_ 1)) 10 (u43_ 2)) 11 (u43_ 3)))), (h19, zi k19 40 (a43_ 0)), (h20, zi k20 40 (a43_ 1)), (h21, zi k21 40 (a43_ 2)), (h22, zi k22 40 (a43_ 3)), (h23, zi k23 40 (a43_ 4)), (h25, zi k25 270 (a43_ 5)), (h24, zi k24 160 f24), (h1, .inr (9, mX9 h2 h3 v1)), (h2, zi k2 600 f2)] := hD
      refine lv_aload_n hx hb dX4_closePhrase_58 rfl (lv_at hl 0 rfl) ?_
      have b_ : -2147483648 ≤ (u14_ 1).toInt ∧ (u14_ 1).toInt ≤ 2147483647 := ⟨zlo _, zhi _⟩
      have hPc := hP.sub (ws' := [(h0, .inr (4, mX4 h1 h4 h11 h18 (upd (upd (upd (upd v0 4 (u14_ 0)) 6 z54) 7 (u14_ 1)) 9 0))), (h1, .inr (9, mX9 h2 h3 v1)), (h2, zi k2 600 f2)]) [0, 9, 10] rfl
      have hDc := hD.sub (ws' := [(h0, .inr (4, mX4 h1 h4 h11 h18 (upd (upd (upd (upd v0 4 (u14_ 0)) 6 z54) 7 (u14_ 1)) 9 0))), (h1, .inr (9, mX9 h2 h3 v1)), (h2, zi k2 600 f2)]) [0, 9, 10] (by decide) rfl
      have hKc := hK.sub (tys' := [(k2, .byte)]) [7] rfl
      have hFc := va_free (wc := [(h0, .inr (4, mX4 h1 h4 h11 h18 (upd (upd (upd (upd v0 4 (u14_ 0)) 6 z54) 7 (u14_ 1)) 9 0))), (h1, .inr (9, mX9 h2 h3 v1)), (h2, zi k2 600 f2)]) hD hS hA [0, 9, 10] rfl
      refine va_callv (va_runV (As := []) (rest := []) ⟨hx, hb, hml, hown, hG⟩ (sX4_next_0 l dC dI adK adV h0 h1 h2 h4 h11 h18 h3 k2 H.size (upd (upd (upd (upd v0 4 (u14_ 0)) 6 z54) 7 (u14_ 1)) 9 0) v1 f2 (zR_upd (zR_updF (zR_updF (zR_updF hv0 4 rfl) 6 rfl) 7 rfl) 9 (show (0 : Int) ≤ (0 : Int32).toInt from by decide) (show (0 : Int32).toInt ≤ (1 : Int) from by decide)) hv1) (cwV 0 hG (zgV zv1013 zv1015 zv11 zv137 zv1016) rfl rfl rfl (by decide +kernel) ⟨Nat.le_of_ble_eq_true rfl, Nat.le_of_ble_eq_true rfl⟩) ⟨zPc_blind, va_recv hKc hPc (ci := 4) (q0 := 0) rfl rfl, zPc_pre hPc hKc hDc hE hS hFc hZ⟩ rfl rfl hl.1 rfl (lv_room (Nat.le_of_ble_eq_true rfl)) dX4_closePhrase_59 ⟨Nat.le_of_ble_eq_true rfl, Nat.le_of_ble_eq_true rfl⟩) hS (fun q _ h => hFc q h) hFc (fun u59_ t H1 locs ht hvm hw hB hz1 hk1 hS => ?_)
      replace hw : (0 ≤ (u59_ 0).toInt ∧ (u59_ 0).toInt ≤ 265) ∧ ((u14_ 0).toInt = 265 ∨ (v0 8).toInt ≠ -1 → (u59_ 0).toInt = 265) ∧ ((v0 8).toInt = -1 → (u59_ 3).toInt = (u14_ 1).toInt) ∧ ((u14_ 1).toInt ≠ 0 → (u59_ 3).toInt = (u14_ 1).toInt) ∧ ((v0 8).toInt ≠ -1 → (u14_ 1).toInt = 0 → 0 ≤ (v0 8).toInt → (v0 8).toInt ≤ 700 → (u59_ 3).toInt ≠ 0) ∧ (zqTy f2 (v1 2).toInt → 0 ≤ z54.toInt → z54.toInt ≤ 602 → (u14_ 0).toInt ≠ 265 ∧ (v0 8).toInt = -1 → zBl f2 (v1 2).toInt z54.toInt (u59_ 1).toInt ∧ zLk f2 (v1 2).toInt (u59_ 1).toInt (u59_ 0).toInt (u59_ 2).toInt) := hw
      obtain ⟨b_, hX59_0, hX59_1, hX59_2, hX59_3, hX59_4⟩ := hw
      obtain ⟨w59_, a59_, b59_, hP1, hK1, hD1⟩ := hB
      rw [ht] at hP1
      obtain ⟨hP, hD⟩ := va_join (wr := [(h18, .inr (7, mX7 h19 h20 h21 h22 h23 h24 h25 (upd (upd (upd (upd v18 7 (u43_ 0)) 9 (u43_ 1)) 10 (u43_ 2)) 11 (u43_ 3)))), (h19, zi k19 40 (a43_ 0)), (h20, zi k20 40 (a43_ 1)), (h21, zi k21 40 (a43_ 2)), (h22, zi k22 40 (a43_ 3)), (h23, zi k23 40 (a43_ 4)), (h25, zi k25 270 (a43_ 5)), (h24, zi k24 160 f24)]) (w1 := [(h0, .inr (4, mX4 h1 h4 h11 h18 (upd (upd (upd (upd (upd v0 4 (u59_ 0)) 5 (u59_ 1)) 6 (u59_ 2)) 7 (u59_ 3)) 9 0))), (h1, .inr (9, mX9 h2 h3 v1)), (h2, zi k2 600 f2)]) hP hD [0, 9, 10] [1, 2, 3, 4, 5, 6, 7, 8] rfl rfl (by decide) (by decide) hk1 hFc hP1 hD1
      have hP : va_P (dC, dI) vwCl [(h0, .inr (4, mX4 h1 h4 h11 h18 (upd (upd (upd (upd (upd v0 4 (u59_ 0)) 5 (u59_ 1)) 6 (u59_ 2)) 7 (u59_ 3)) 9 0))), (h18, .inr (7, mX7 h19 h20 h21 h22 h23 h24 h25 (upd (upd (upd (upd v18 7 (u43_ 0)) 9 (u43_ 1)) 10 (u43_ 2)) 11 (u43_ 3)))), (h19, zi k19 40 (a43_ 0)), (h20, zi k20 40 (a43_ 1)), (h21, zi k21 40 (a43_ 2)), (h22, zi k22 40 (a43_ 3)), (h23, zi k23 40 (a43_ 4)), (h25, zi k25 270 (a43_ 5)), (h24, zi k24 160 f24), (h1, .inr (9, mX9 h2 h3 v1)), (h2, zi k2 600 f2)] H1 := hP.sub [8, 0, 1, 2, 3, 4, 5, 6, 7, 9, 10] rfl
      have hD : va_D A [(h0, .inr (4, mX4 h1 h4 h11 h18 (upd (upd (upd (upd (upd v0 4 (u59_ 0)) 5 (u59_ 1)) 6 (u59_ 2)) 7 (u59_ 3)) 9 0))), (h18, .inr (7, mX7 h19 h20 h21 h22 h23 h24 h25 (upd (upd (upd (upd v18 7 (u43_ 0)) 9 (u43_ 1)) 10 (u43_ 2)) 11 (u43_ 3)))), (h19, zi k19 40 (a43_ 0)), (h20, zi k20 40 (a43_ 1)), (h21, zi k21 40 (a43_ 2)), (h22, zi k22 40 (a43_ 3)), (h23, zi k23 40 (a43_ 4)), (h25, zi k25 270 (a43_ 5)), (h24, zi k24 160 f24), (h1, .inr (9, mX9 h2 h3 v1)), (h2, zi k2 600 f2)] := hD.sub [8, 0, 1, 2, 3, 4, 5, 6, 7, 9, 10] (by decide) rfl
      generalize H1 = H at hP hS ⊢
      clear hz1
      have hN59 := fun (tb_ : zqTy f2 (v1 2).toInt) => zNx_i hX59_0 hX59_1 hX59_2 hX59_3 (hX59_4 tb_)
      clear hX59_0 hX59_1 hX59_2 hX59_3 hX59_4
      refine W.widen (k := 0) (n := 0) (by decide) (by decide) ?_
      have b_ : -2147483648 ≤ (u59_ 1).toInt ∧ (u59_ 1).toInt ≤ 2147483647 := ⟨zlo _, zhi _⟩
      have b_ : -2147483648 ≤ (u59_ 2).toInt ∧ (u59_ 2).toInt ≤ 2147483647 := ⟨zlo _, zhi _⟩
      have b_ : -2147483648 ≤ (u59_ 3).toInt ∧ (u59_ 3).toInt ≤ 2147483647 := ⟨zlo _, zhi _⟩
      have b_ : -2147483648 ≤ (u43_ 2).toInt ∧ (u43_ 2).toInt ≤ 2147483647 := ⟨zlo _, zhi _⟩
      have b_ : -2147483648 ≤ (u43_ 3).toInt ∧ (u43_ 3).toInt ≤ 2147483647 := ⟨zlo _, zhi _⟩
      have hpost : (0 ≤ (u59_ 0).toInt ∧ (u59_ 0).toInt ≤ 265) ∧ (0 ≤ (0 : Int32).toInt ∧ (0 : Int32).toInt ≤ 0) ∧ (1 ≤ (u43_ 0).toInt ∧ (u43_ 0).toInt ≤ 40) ∧ (0 ≤ (u43_ 1).toInt ∧ (u43_ 1).toInt ≤ 270) ∧ ((v18 7).toInt < 40 → (u43_ 0).toInt = (v18 7).toInt + 1) ∧ (zyH f2 (v1 2).toInt (v0 4).toInt (v0 5).toInt (v0 6).toInt (v0 7).toInt (v0 8).toInt (v18 8).toInt x1.toInt x2.toInt (u59_ 0).toInt (u59_ 1).toInt (u59_ 2).toInt (u59_ 3).toInt) := ⟨(by first | with_reducible assumption | exact ⟨by omega, by omega⟩), (by first | with_reducible assumption | exact ⟨by omega, by omega⟩), (by first | with_reducible assumption | exact ⟨by omega, by omega⟩), (by first | with_reducible assumption | exact ⟨by omega, by omega⟩), by omega, by first | exact zyH_f (by omega) (by omega) hF14 (by omega) hN59 | exact zyH_n (by omega) (by omega) (by omega) hN59⟩
      have hP9 : va_P (dC, dI) vwCl [(h0, .inr (4, mX4 h1 h4 h11 h18 (upd (upd (upd (upd (upd v0 4 (u59_ 0)) 5 (u59_ 1)) 6 (u59_ 2)) 7 (u59_ 3)) 9 0))), (h18, .inr (7, mX7 h19 h20 h21 h22 h23 h24 h25 (upd (upd (upd (upd v18 7 (u43_ 0)) 9 (u43_ 1)) 10 (u43_ 2)) 11 (u43_ 3)))), (h19, zi k19 40 (a43_ 0)), (h20, zi k20 40 (a43_ 1)), (h21, zi k21 40 (a43_ 2)), (h22, zi k22 40 (a43_ 3)), (h23, zi k23 40 (a43_ 4)), (h25, zi k25 270 (a43_ 5)), (h24, zi k24 160 f24), (h1, .inr (9, mX9 h2 h3 v1)), (h2, zi k2 600 f2)] H := hP
      have hD9 : va_D A [(h0, .inr (4, mX4 h1 h4 h11 h18 (upd (upd (upd (upd (upd v0 4 (u59_ 0)) 5 (u59_ 1)) 6 (u59_ 2)) 7 (u59_ 3)) 9 0))), (h18, .inr (7, mX7 h19 h20 h21 h22 h23 h24 h25 (upd (upd (upd (upd v18 7 (u43_ 0)) 9 (u43_ 1)) 10 (u43_ 2)) 11 (u43_ 3)))), (h19, zi k19 40 (a43_ 0)), (h20, zi k20 40 (a43_ 1)), (h21, zi k21 40 (a43_ 2)), (h22, zi k22 40 (a43_ 3)), (h23, zi k23 40 (a43_ 4)), (h25, zi k25 270 (a43_ 5)), (h24, zi k24 160 f24), (h1, .inr (9, mX9 h2 h3 v1)), (h2, zi k2 600 f2)] := hD
      have hB0 : (v18 7).toInt < 40 → zAl (zqa f25 f19 f20 f21 f22 f24 f23) (zqa (a43_ 5) (a43_ 0) (a43_ 1) (a43_ 2) (a43_ 3) f24 (a43_ 4)) (v18 7).toInt (u43_ 0).toInt (v18 8).toInt (v18 9).toInt (u43_ 1).toInt 3 x1.toInt (v18 8).toInt x3.toInt (zu0 (v0 10).toInt) := by exact fun l_ => zAl_c (hB43_0 l_ (by decide) (by decide) (by first | omega | decide) (by first | omega | decide)) (by decide) rfl (by omega) (zu0_f (by first | exact Or.inl ⟨by omega, by decide⟩ | exact Or.inr ⟨by omega, by decide⟩))
      exact W.vret hx hb hr (fun t ht hW => ⟨⟨(fun i => ([(u59_ 0), (u59_ 1), (u59_ 2), (u59_ 3), 0, (u43_ 0), (u43_ 1), (u43_ 2), (u43_ 3)] : List (Int32)).getD i 0), rfl, hpost, (fun _ => 0), (fun i => ([(a43_ 0), (a43_ 1), (a43_ 2), (a43_ 3), (a43_ 4), (a43_ 5)] : List (Nat → Int32)).getD i (fun _ => 0)), (fun _ => (fun _ => 0)), ha43_5, hB0, by rw [ht]; exact hP9, va_K.moved hW.alike hK, hD9⟩, hS.F ht⟩) hS.2.2 dX4_closePhrase_62
    · skip
      have b_ := zF_ne rfl zk_0 c_
      refine lv_iconst (v := 1) hx hb dX4_closePhrase_38 (by decide) ?_
      refine lv_goto (tgt := 43) hx hb dX4_closePhrase_39 (by decide) ?_
      have hPc := hP.sub (ws' := [(h18, .inr (7, mX7 h19 h20 h21 h22 h23 h24 h25 v18)), (h19, zi k19 40 f19), (h20, zi k20 40 f20), (h21, zi k21 40 f21), (h22, zi k22 40 f22), (h23, zi k23 40 f23), (h25, zi k25 270 f25), (h24, zi k24 160 f24)]) [1, 2, 3, 4, 5, 6, 7, 8] rfl
      have hDc := hD.sub (ws' := [(h18, .inr (7, mX7 h19 h20 h21 h22 h23 h24 h25 v18)), (h19, zi k19 40 f19), (h20, zi k20 40 f20), (h21, zi k21 40 f21), (h22, zi k22 40 f22), (h23, zi k23 40 f23), (h25, zi k25 270 f25), (h24, zi k24 160 f24)]) [1, 2, 3, 4, 5, 6, 7, 8] (by decide) rfl
      have hKc := hK.sub (tys' := [(k19, .int), (k20, .int), (k21, .int), (k22, .int), (k23, .boolean), (k25, .int), (k24, .int)]) [0, 1, 2, 3, 4, 5, 6] rfl
      have hFc := va_free (wc := [(h18, .inr (7, mX7 h19 h20 h21 h22 h23 h24 h25 v18)), (h19, zi k19 40 f19), (h20, zi k20 40 f20), (h21, zi k21 40 f21), (h22, zi k22 40 f22), (h23, zi k23 40 f23), (h25, zi k25 270 f25), (h24, zi k24 160 f24)]) hD hS hA [1, 2, 3, 4, 5, 6, 7, 8] rfl
      refine va_callv (va_runV (As := [.int 3, .int x1, .int r27_, .int x3, .int 1]) (rest := []) ⟨hx, hb, hml, hown, hG⟩ (sX7_addLeaf_0 l dC dI adK adV h18 h19 h20 h21 h22 h23 h25 h24 k19 k20 k21 k22 k23 k25 k24 H.size v18 f19 f20 f21 f22 f23 f25 f24 3 x1 r27_ x3 1 hv18 hf25 ⟨show (1 : Int) ≤ (3 : Int32).toInt from by decide, show (3 : Int32).toInt ≤ (4 : Int) from by decide⟩ ⟨show (0 : Int) ≤ (1 : Int32).toInt from by decide, show (1 : Int32).toInt ≤ (1 : Int) from by decide⟩) (cwV 5 hG (zgV zv1108 zv1109 zv1110 zv136 zv1111) rfl rfl rfl (by decide +kernel) ⟨Nat.le_of_ble_eq_true rfl, Nat.le_of_ble_eq_true rfl⟩) ⟨zPc_blind, va_recv hKc hPc (ci := 7) (q0 := 0) rfl rfl, zPc_pre hPc hKc hDc hE hS hFc hZ⟩ rfl rfl hl.1 rfl (lv_room (Nat.le_of_ble_eq_true rfl)) dX4_closePhrase_43 ⟨Nat.le_of_ble_eq_true rfl, Nat.le_of_ble_eq_true rfl⟩) hS (fun q _ h => hFc q h) hFc (fun u43_ t H1 locs ht hvm hw hB hz1 hk1 hS => ?_)
      replace hw : (1 ≤ (u43_ 0).toInt ∧ (u43_ 0).toInt ≤ 40) ∧ (0 ≤ (u43_ 1).toInt ∧ (u43_ 1).toInt ≤ 270) ∧ ((v18 7).toInt < 40 → (u43_ 0).toInt = (v18 7).toInt + 1) ∧ (40 ≤ (v18 7).toInt → (u43_ 0).toInt = (v18 7).toInt) ∧ ((v18 7).toInt < 40 → (v18 9).toInt < 270 → (u43_ 1).toInt = (v18 9).toInt + 1) := hw
      obtain ⟨b_, b_, hX43_0, hX43_1, hX43_2⟩ := hw
      obtain ⟨w43_, a43_, b43_, ha43_5, hB43_0, hP1, hK1, hD1⟩ := hB
      have hB43_0 : (v18 7).toInt < 40 → 1 ≤ (3 : Int32).toInt → (3 : Int32).toInt ≤ 4 → 0 ≤ x3.toInt → x3.toInt ≤ 3 → zAl (zqa f25 f19 f20 f21 f22 f24 f23) (zqa (a43_ 5) (a43_ 0) (a43_ 1) (a43_ 2) (a43_ 3) f24 (a43_ 4)) (v18 7).toInt (u43_ 0).toInt (v18 8).toInt (v18 9).toInt (u43_ 1).toInt (3 : Int32).toInt x1.toInt r27_.toInt x3.toInt (1 : Int32).toInt := hB43_0
      rw [ht] at hP1
      obtain ⟨hP, hD⟩ := va_join (wr := [(h0, .inr (4, mX4 h1 h4 h11 h18 (upd (upd v0 4 (u14_ 0)) 7 (u14_ 1)))), (h1, .inr (9, mX9 h2 h3 v1)), (h2, zi k2 600 f2)]) (w1 := [(h18, .inr (7, mX7 h19 h20 h21 h22 h23 h24 h25 (upd (upd (upd (upd v18 7 (u43_ 0)) 9 (u43_ 1)) 10 (u43_ 2)) 11 (u43_ 3)))), (h19, zi k19 40 (a43_ 0)), (h20, zi k20 40 (a43_ 1)), (h21, zi k21 40 (a43_ 2)), (h22, zi k22 40 (a43_ 3)), (h23, zi k23 40 (a43_ 4)), (h25, zi k25 270 (a43_ 5)), (h24, zi k24 160 f24)]) hP hD [1, 2, 3, 4, 5, 6, 7, 8] [0, 9, 10] rfl rfl (by decide) (by decide) hk1 hFc hP1 hD1
      have hP : va_P (dC, dI) vwCl [(h0, .inr (4, mX4 h1 h4 h11 h18 (upd (upd v0 4 (u14_ 0)) 7 (u14_ 1)))), (h18, .inr (7, mX7 h19 h20 h21 h22 h23 h24 h25 (upd (upd (upd (upd v18 7 (u43_ 0)) 9 (u43_ 1)) 10 (u43_ 2)) 11 (u43_ 3)))), (h19, zi k19 40 (a43_ 0)), (h20, zi k20 40 (a43_ 1)), (h21, zi k21 40 (a43_ 2)), (h22, zi k22 40 (a43_ 3)), (h23, zi k23 40 (a43_ 4)), (h25, zi k25 270 (a43_ 5)), (h24, zi k24 160 f24), (h1, .inr (9, mX9 h2 h3 v1)), (h2, zi k2 600 f2)] H1 := hP.sub [0, 3, 4, 5, 6, 7, 8, 9, 10, 1, 2] rfl
      have hD : va_D A [(h0, .inr (4, mX4 h1 h4 h11 h18 (upd (upd v0 4 (u14_ 0)) 7 (u14_ 1)))), (h18, .inr (7, mX7 h19 h20 h21 h22 h23 h24 h25 (upd (upd (upd (upd v18 7 (u43_ 0)) 9 (u43_ 1)) 10 (u43_ 2)) 11 (u43_ 3)))), (h19, zi k19 40 (a43_ 0)), (h20, zi k20 40 (a43_ 1)), (h21, zi k21 40 (a43_ 2)), (h22, zi k22 40 (a43_ 3)), (h23, zi k23 40 (a43_ 4)), (h25, zi k25 270 (a43_ 5)), (h24, zi k24 160 f24), (h1, .inr (9, mX9 h2 h3 v1)), (h2, zi k2 600 f2)] := hD.sub [0, 3, 4, 5, 6, 7, 8, 9, 10, 1, 2] (by decide) rfl
      generalize H1 = H at hP hS ⊢
      clear hz1
      refine lv_aload_n hx hb dX4_closePhrase_46 rfl (lv_at hl 0 rfl) ?_
      refine lv_iconst (v := 0) hx hb dX4_closePhrase_47 (by decide) ?_
      refine va_put (D := (dC, dI)) (ci := 4) (v := .int 0) (ty := .boolean) (C := RX4) (T := TX4) (N := 12) hx hb hG zuX4 tyX4 tyX4_ok nmX4 hown hK hP hD hS 0 rfl rfl 9 (by decide) (hG _ zv417) (fun _ h9 => h9) rfl (by decide +kernel) rfl rfl (Nat.le_of_ble_eq_true rfl) dX4_closePhrase_48 (fun H locs hP hD hS => ?_)
      have hP : va_P (dC, dI) vwCl [(h0, .inr (4, mX4 h1 h4 h11 h18 (upd (upd (upd v0 4 (u14_ 0)) 7 (u14_ 1)) 9 0))), (h18, .inr (7, mX7 h19 h20 h21 h22 h23 h24 h25 (upd (upd (upd (upd v18 7 (u43_ 0)) 9 (u43_ 1)) 10 (u43_ 2)) 11 (u43_ 3)))), (h19, zi k19 40 (a43_ 0)), (h20, zi k20 40 (a43_ 1)), (h21, zi k21 40 (a43_ 2)), (h22, zi k22 40 (a43_ 3)), (h23, zi k23 40 (a43_ 4)), (h25, zi k25 270 (a43_ 5)), (h24, zi k24 160 f24), (h1, .inr (9, mX9 h2 h3 v1)), (h2, zi k2 600 f2)] H := hP
      have hD : va_D A [(h0, .inr (4, mX4 h1 h4 h11 h18 (upd (upd (upd v0 4 (u14_ 0)) 7 (u14_ 1)) 9 0))), (h18, .inr (7, mX7 h19 h20 h21 h22 h23 h24 h25 (upd (upd (upd (upd v18 7 (u43_ 0)) 9 (u43_ 1)) 10 (u43_ 2)) 11 (u43_ 3)))), (h19, zi k19 40 (a43_ 0)), (h20, zi k20 40 (a43_ 1)), (h21, zi k21 40 (a43_ 2)), (h22, zi k22 40 (a43_ 3)), (h23, zi k23 40 (a43_ 4)), (h25, zi k25 270 (a43_ 5)), (h24, zi k24 160 f24), (h1, .inr (9, mX9 h2 h3 v1)), (h2, zi k2 600 f2)] := hD
      refine lv_aload_n hx hb dX4_closePhrase_51 rfl (lv_at hl 0 rfl) ?_
      refine lv_iload_n hx hb dX4_closePhrase_52 rfl (lv_at hl 2 rfl) ?_
      refine lv_iconst (v := 1) hx hb dX4_closePhrase_53 (by decide) ?_
      refine lv_iadd hx hb dX4_closePhrase_54 ?_
      refine lv_topi (fun z54 e_z54 => ?_)
      have b_ := zadd rfl zk_1 e_z54 (by omega) (by omega)
      refine va_put (D := (dC, dI)) (ci := 4) (v := .int z54) (ty := .int) (C := RX4) (T := TX4) (N := 12) hx hb hG zuX4 tyX4 tyX4_ok nmX4 hown hK hP hD hS 0 rfl rfl 6 (by decide) (hG _ zv414) (fun _ h9 => h9) rfl (by decide +kernel) rfl rfl (Nat.le_of_ble_eq_true rfl) dX4_closePhrase_55 (fun H locs hP hD hS => ?_)
      have hP : va_P (dC, dI) vwCl [(h0, .inr (4, mX4 h1 h4 h11 h18 (upd (upd (upd (upd v0 4 (u14_ 0)) 6 z54) 7 (u14_ 1)) 9 0))), (h18, .inr (7, mX7 h19 h20 h21 h22 h23 h24 h25 (upd (upd (upd (upd v18 7 (u43_ 0)) 9 (u43_ 1)) 10 (u43_ 2)) 11 (u43_ 3)))), (h19, zi k19 40 (a43_ 0)), (h20, zi k20 40 (a43_ 1)), (h21, zi k21 40 (a43_ 2)), (h22, zi k22 40 (a43_ 3)), (h23, zi k23 40 (a43_ 4)), (h25, zi k25 270 (a43_ 5)), (h24, zi k24 160 f24), (h1, .inr (9, mX9 h2 h3 v1)), (h2, zi k2 600 f2)] H := hP
      have hD : va_D A [(h0, .inr (4, mX4 h1 h4 h11 h18 (upd (upd (upd (upd v0 4 (u14_ 0)) 6 z54) 7 (u14_ 1)) 9 0))), (h18, .inr (7, mX7 h19 h20 h21 h22 h23 h24 h25 (upd (upd (upd (upd v18 7 (u43_ 0)) 9 (u43_ 1)) 10 (u43_ 2)) 11 (u43_ 3)))), (h19, zi k19 40 (a43_ 0)), (h20, zi k20 40 (a43_ 1)), (h21, zi k21 40 (a43_ 2)), (h22, zi k22 40 (a43_ 3)), (h23, zi k23 40 (a43_ 4)), (h25, zi k25 270 (a43_ 5)), (h24, zi k24 160 f24), (h1, .inr (9, mX9 h2 h3 v1)), (h2, zi k2 600 f2)] := hD
      refine lv_aload_n hx hb dX4_closePhrase_58 rfl (lv_at hl 0 rfl) ?_
      have b_ : -2147483648 ≤ (u14_ 1).toInt ∧ (u14_ 1).toInt ≤ 2147483647 := ⟨zlo _, zhi _⟩
      have hPc := hP.sub (ws' := [(h0, .inr (4, mX4 h1 h4 h11 h18 (upd (upd (upd (upd v0 4 (u14_ 0)) 6 z54) 7 (u14_ 1)) 9 0))), (h1, .inr (9, mX9 h2 h3 v1)), (h2, zi k2 600 f2)]) [0, 9, 10] rfl
      have hDc := hD.sub (ws' := [(h0, .inr (4, mX4 h1 h4 h11 h18 (upd (upd (upd (upd v0 4 (u14_ 0)) 6 z54) 7 (u14_ 1)) 9 0))), (h1, .inr (9, mX9 h2 h3 v1)), (h2, zi k2 600 f2)]) [0, 9, 10] (by decide) rfl
      have hKc := hK.sub (tys' := [(k2, .byte)]) [7] rfl
      have hFc := va_free (wc := [(h0, .inr (4, mX4 h1 h4 h11 h18 (upd (upd (upd (upd v0 4 (u14_ 0)) 6 z54) 7 (u14_ 1)) 9 0))), (h1, .inr (9, mX9 h2 h3 v1)), (h2, zi k2 600 f2)]) hD hS hA [0, 9, 10] rfl
      refine va_callv (va_runV (As := []) (rest := []) ⟨hx, hb, hml, hown, hG⟩ (sX4_next_0 l dC dI adK adV h0 h1 h2 h4 h11 h18 h3 k2 H.size (upd (upd (upd (upd v0 4 (u14_ 0)) 6 z54) 7 (u14_ 1)) 9 0) v1 f2 (zR_upd (zR_updF (zR_updF (zR_updF hv0 4 rfl) 6 rfl) 7 rfl) 9 (show (0 : Int) ≤ (0 : Int32).toInt from by decide) (show (0 : Int32).toInt ≤ (1 : Int) from by decide)) hv1) (cwV 0 hG (zgV zv1013 zv1015 zv11 zv137 zv1016) rfl rfl rfl (by decide +kernel) ⟨Nat.le_of_ble_eq_true rfl, Nat.le_of_ble_eq_true rfl⟩) ⟨zPc_blind, va_recv hKc hPc (ci := 4) (q0 := 0) rfl rfl, zPc_pre hPc hKc hDc hE hS hFc hZ⟩ rfl rfl hl.1 rfl (lv_room (Nat.le_of_ble_eq_true rfl)) dX4_closePhrase_59 ⟨Nat.le_of_ble_eq_true rfl, Nat.le_of_ble_eq_true rfl⟩) hS (fun q _ h => hFc q h) hFc (fun u59_ t H1 locs ht hvm hw hB hz1 hk1 hS => ?_)
      replace hw : (0 ≤ (u59_ 0).toInt ∧ (u59_ 0).toInt ≤ 265) ∧ ((u14_ 0).toInt = 265 ∨ (v0 8).toInt ≠ -1 → (u59_ 0).toInt = 265) ∧ ((v0 8).toInt = -1 → (u59_ 3).toInt = (u14_ 1).toInt) ∧ ((u14_ 1).toInt ≠ 0 → (u59_ 3).toInt = (u14_ 1).toInt) ∧ ((v0 8).toInt ≠ -1 → (u14_ 1).toInt = 0 → 0 ≤ (v0 8).toInt → (v0 8).toInt ≤ 700 → (u59_ 3).toInt ≠ 0) ∧ (zqTy f2 (v1 2).toInt → 0 ≤ z54.toInt → z54.toInt ≤ 602 → (u14_ 0).toInt ≠ 265 ∧ (v0 8).toInt = -1 → zBl f2 (v1 2).toInt z54.toInt (u59_ 1).toInt ∧ zLk f2 (v1 2).toInt (u59_ 1).toInt (u59_ 0).toInt (u59_ 2).toInt) := hw
      obtain ⟨b_, hX59_0, hX59_1, hX59_2, hX59_3, hX59_4⟩ := hw
      obtain ⟨w59_, a59_, b59_, hP1, hK1, hD1⟩ := hB
      rw [ht] at hP1
      obtain ⟨hP, hD⟩ := va_join (wr := [(h18, .inr (7, mX7 h19 h20 h21 h22 h23 h24 h25 (upd (upd (upd (upd v18 7 (u43_ 0)) 9 (u43_ 1)) 10 (u43_ 2)) 11 (u43_ 3)))), (h19, zi k19 40 (a43_ 0)), (h20, zi k20 40 (a43_ 1)), (h21, zi k21 40 (a43_ 2)), (h22, zi k22 40 (a43_ 3)), (h23, zi k23 40 (a43_ 4)), (h25, zi k25 270 (a43_ 5)), (h24, zi k24 160 f24)]) (w1 := [(h0, .inr (4, mX4 h1 h4 h11 h18 (upd (upd (upd (upd (upd v0 4 (u59_ 0)) 5 (u59_ 1)) 6 (u59_ 2)) 7 (u59_ 3)) 9 0))), (h1, .inr (9, mX9 h2 h3 v1)), (h2, zi k2 600 f2)]) hP hD [0, 9, 10] [1, 2, 3, 4, 5, 6, 7, 8] rfl rfl (by decide) (by decide) hk1 hFc hP1 hD1
      have hP : va_P (dC, dI) vwCl [(h0, .inr (4, mX4 h1 h4 h11 h18 (upd (upd (upd (upd (upd v0 4 (u59_ 0)) 5 (u59_ 1)) 6 (u59_ 2)) 7 (u59_ 3)) 9 0))), (h18, .inr (7, mX7 h19 h20 h21 h22 h23 h24 h25 (upd (upd (upd (upd v18 7 (u43_ 0)) 9 (u43_ 1)) 10 (u43_ 2)) 11 (u43_ 3)))), (h19, zi k19 40 (a43_ 0)), (h20, zi k20 40 (a43_ 1)), (h21, zi k21 40 (a43_ 2)), (h22, zi k22 40 (a43_ 3)), (h23, zi k23 40 (a43_ 4)), (h25, zi k25 270 (a43_ 5)), (h24, zi k24 160 f24), (h1, .inr (9, mX9 h2 h3 v1)), (h2, zi k2 600 f2)] H1 := hP.sub [8, 0, 1, 2, 3, 4, 5, 6, 7, 9, 10] rfl
      have hD : va_D A [(h0, .inr (4, mX4 h1 h4 h11 h18 (upd (upd (upd (upd (upd v0 4 (u59_ 0)) 5 (u59_ 1)) 6 (u59_ 2)) 7 (u59_ 3)) 9 0))), (h18, .inr (7, mX7 h19 h20 h21 h22 h23 h24 h25 (upd (upd (upd (upd v18 7 (u43_ 0)) 9 (u43_ 1)) 10 (u43_ 2)) 11 (u43_ 3)))), (h19, zi k19 40 (a43_ 0)), (h20, zi k20 40 (a43_ 1)), (h21, zi k21 40 (a43_ 2)), (h22, zi k22 40 (a43_ 3)), (h23, zi k23 40 (a43_ 4)), (h25, zi k25 270 (a43_ 5)), (h24, zi k24 160 f24), (h1, .inr (9, mX9 h2 h3 v1)), (h2, zi k2 600 f2)] := hD.sub [8, 0, 1, 2, 3, 4, 5, 6, 7, 9, 10] (by decide) rfl
      generalize H1 = H at hP hS ⊢
      clear hz1
      have hN59 := fun (tb_ : zqTy f2 (v1 2).toInt) => zNx_i hX59_0 hX59_1 hX59_2 hX59_3 (hX59_4 tb_)
      clear hX59_0 hX59_1 hX59_2 hX59_3 hX59_4
      refine W.widen (k := 0) (n := 0) (by decide) (by decide) ?_
      have b_ : -2147483648 ≤ (u59_ 1).toInt ∧ (u59_ 1).toInt ≤ 2147483647 := ⟨zlo _, zhi _⟩
      have b_ : -2147483648 ≤ (u59_ 2).toInt ∧ (u59_ 2).toInt ≤ 2147483647 := ⟨zlo _, zhi _⟩
      have b_ : -2147483648 ≤ (u59_ 3).toInt ∧ (u59_ 3).toInt ≤ 2147483647 := ⟨zlo _, zhi _⟩
      have b_ : -2147483648 ≤ (u43_ 2).toInt ∧ (u43_ 2).toInt ≤ 2147483647 := ⟨zlo _, zhi _⟩
      have b_ : -2147483648 ≤ (u43_ 3).toInt ∧ (u43_ 3).toInt ≤ 2147483647 := ⟨zlo _, zhi _⟩
      have hpost : (0 ≤ (u59_ 0).toInt ∧ (u59_ 0).toInt ≤ 265) ∧ (0 ≤ (0 : Int32).toInt ∧ (0 : Int32).toInt ≤ 0) ∧ (1 ≤ (u43_ 0).toInt ∧ (u43_ 0).toInt ≤ 40) ∧ (0 ≤ (u43_ 1).toInt ∧ (u43_ 1).toInt ≤ 270) ∧ ((v18 7).toInt < 40 → (u43_ 0).toInt = (v18 7).toInt + 1) ∧ (zyH f2 (v1 2).toInt (v0 4).toInt (v0 5).toInt (v0 6).toInt (v0 7).toInt (v0 8).toInt (v18 8).toInt x1.toInt x2.toInt (u59_ 0).toInt (u59_ 1).toInt (u59_ 2).toInt (u59_ 3).toInt) := ⟨(by first | with_reducible assumption | exact ⟨by omega, by omega⟩), (by first | with_reducible assumption | exact ⟨by omega, by omega⟩), (by first | with_reducible assumption | exact ⟨by omega, by omega⟩), (by first | with_reducible assumption | exact ⟨by omega, by omega⟩), by omega, by first | exact zyH_f (by omega) (by omega) hF14 (by omega) hN59 | exact zyH_n (by omega) (by omega) (by omega) hN59⟩
      have hP9 : va_P (dC, dI) vwCl [(h0, .inr (4, mX4 h1 h4 h11 h18 (upd (upd (upd (upd (upd v0 4 (u59_ 0)) 5 (u59_ 1)) 6 (u59_ 2)) 7 (u59_ 3)) 9 0))), (h18, .inr (7, mX7 h19 h20 h21 h22 h23 h24 h25 (upd (upd (upd (upd v18 7 (u43_ 0)) 9 (u43_ 1)) 10 (u43_ 2)) 11 (u43_ 3)))), (h19, zi k19 40 (a43_ 0)), (h20, zi k20 40 (a43_ 1)), (h21, zi k21 40 (a43_ 2)), (h22, zi k22 40 (a43_ 3)), (h23, zi k23 40 (a43_ 4)), (h25, zi k25 270 (a43_ 5)), (h24, zi k24 160 f24), (h1, .inr (9, mX9 h2 h3 v1)), (h2, zi k2 600 f2)] H := hP
      have hD9 : va_D A [(h0, .inr (4, mX4 h1 h4 h11 h18 (upd (upd (upd (upd (upd v0 4 (u59_ 0)) 5 (u59_ 1)) 6 (u59_ 2)) 7 (u59_ 3)) 9 0))), (h18, .inr (7, mX7 h19 h20 h21 h22 h23 h24 h25 (upd (upd (upd (upd v18 7 (u43_ 0)) 9 (u43_ 1)) 10 (u43_ 2)) 11 (u43_ 3)))), (h19, zi k19 40 (a43_ 0)), (h20, zi k20 40 (a43_ 1)), (h21, zi k21 40 (a43_ 2)), (h22, zi k22 40 (a43_ 3)), (h23, zi k23 40 (a43_ 4)), (h25, zi k25 270 (a43_ 5)), (h24, zi k24 160 f24), (h1, .inr (9, mX9 h2 h3 v1)), (h2, zi k2 600 f2)] := hD
      have hB0 : (v18 7).toInt < 40 → zAl (zqa f25 f19 f20 f21 f22 f24 f23) (zqa (a43_ 5) (a43_ 0) (a43_ 1) (a43_ 2) (a43_ 3) f24 (a43_ 4)) (v18 7).toInt (u43_ 0).toInt (v18 8).toInt (v18 9).toInt (u43_ 1).toInt 3 x1.toInt (v18 8).toInt x3.toInt (zu0 (v0 10).toInt) := by exact fun l_ => zAl_c (hB43_0 l_ (by decide) (by decide) (by first | omega | decide) (by first | omega | decide)) (by decide) rfl (by omega) (zu0_f (by first | exact Or.inl ⟨by omega, by decide⟩ | exact Or.inr ⟨by omega, by decide⟩))
      exact W.vret hx hb hr (fun t ht hW => ⟨⟨(fun i => ([(u59_ 0), (u59_ 1), (u59_ 2), (u59_ 3), 0, (u43_ 0), (u43_ 1), (u43_ 2), (u43_ 3)] : List (Int32)).getD i 0), rfl, hpost, (fun _ => 0), (fun i => ([(a43_ 0), (a43_ 1), (a43_ 2), (a43_ 3), (a43_ 4), (a43_ 5)] : List (Nat → Int32)).getD i (fun _ => 0)), (fun _ => (fun _ => 0)), ha43_5, hB0, by rw [ht]; exact hP9, va_K.moved hW.alike hK, hD9⟩, hS.F ht⟩) hS.2.2 dX4_closePhrase_62
