set_option maxHeartbeats 8000000 in
set_option maxRecDepth 100000 in
theorem sX13_wholeFrom_0 (l : Launch) (dC : Nat → ClassId) (dI : Nat → Nat → Nat) (adK adV : Nat → Nat) (h0 : Nat) (q0 : Nat → Nat) (k1 : ClassId) (sz : Nat) (v0 : Nat → Int32) (f1 : Nat → Int32) (sf22 : List Value) (x1 : Int32) (hv0 : zR rg_Model v0) (hp0_ : (v0 36).toInt ≠ 0 → (v0 37).toInt < (v0 35).toInt) (hp1_ : (v0 35).toInt ≤ (v0 34).toInt) (hp2_ : (v0 37).toInt ≤ (v0 35).toInt) : vx_Met l yX13_wholeFrom (zw yX13_wholeFrom cX13_wholeFrom 3 (some .int)) { frames := 5, cells := 0, slots := 0, locals := 107 } (zPc dC dI adK adV [.ref h0, .int x1] sz [(h0, .inr (13, mX13 q0 v0)), ((q0 0), zi k1 600 f1), ((q0 31), .inr (12, sf22))] [(k1, .byte)]) (va_Qi (fun (r : Int32) (u : Nat → Int32) => (0 ≤ (u 2).toInt ∧ (u 2).toInt ≤ 600) ∧ (0 ≤ (u 3).toInt ∧ (u 3).toInt ≤ 3) ∧ (0 ≤ (u 4).toInt ∧ (u 4).toInt ≤ 600) ∧ (0 ≤ (u 5).toInt ∧ (u 5).toInt ≤ 600) ∧ ((u 3).toInt ≠ 0 → (u 4).toInt < (u 2).toInt) ∧ ((u 2).toInt ≤ (v0 34).toInt) ∧ ((u 4).toInt ≤ (u 2).toInt) ∧ ((v0 37).toInt ≤ (u 4).toInt)) (fun (u : Nat → Int32) (t : State) => ∃ (ww : Nat → Int64) (aa : Nat → Nat → Int32) (bb : Nat → Nat → Int64), va_P (dC, dI) vwCl [(h0, .inr (13, mX13 q0 (upd (upd (upd (upd (upd (upd v0 32 (u 0)) 33 (u 1)) 35 (u 2)) 36 (u 3)) 37 (u 4)) 60 (u 5)))), ((q0 0), zi k1 600 f1), ((q0 31), .inr (12, sf22))] t.heap ∧ va_K (dC, dI) vwCl [(k1, .byte)] t ∧ va_D (va_A [(h0, .inr (13, mX13 q0 v0)), ((q0 0), zi k1 600 f1), ((q0 31), .inr (12, sf22))] sz) [(h0, .inr (13, mX13 q0 (upd (upd (upd (upd (upd (upd v0 32 (u 0)) 33 (u 1)) 35 (u 2)) 36 (u 3)) 37 (u 4)) 60 (u 5)))), ((q0 0), zi k1 600 f1), ((q0 31), .inr (12, sf22))]) (va_A [(h0, .inr (13, mX13 q0 v0)), ((q0 0), zi k1 600 f1), ((q0 31), .inr (12, sf22))] sz)) (vx_X (fun (u : Nat → Int32) => (0 ≤ (u 2).toInt ∧ (u 2).toInt ≤ 600) ∧ (0 ≤ (u 3).toInt ∧ (u 3).toInt ≤ 3) ∧ (0 ≤ (u 4).toInt ∧ (u 4).toInt ≤ 600)) (fun (E : String) (u : Nat → Int32) (t : State) => E = RX12 ∧ ∃ (ww : Nat → Int64) (aa : Nat → Nat → Int32) (bb : Nat → Nat → Int64), va_P (dC, dI) vwCl [(h0, .inr (13, mX13 q0 (upd (upd (upd (upd (upd (upd v0 32 (u 0)) 33 (u 1)) 35 (u 2)) 36 (u 3)) 37 (u 4)) 60 (u 5)))), ((q0 0), zi k1 600 f1), ((q0 31), .inr (12, sf22))] t.heap ∧ va_K (dC, dI) vwCl [(k1, .byte)] t ∧ va_D (va_A [(h0, .inr (13, mX13 q0 v0)), ((q0 0), zi k1 600 f1), ((q0 31), .inr (12, sf22))] sz) [(h0, .inr (13, mX13 q0 (upd (upd (upd (upd (upd (upd v0 32 (u 0)) 33 (u 1)) 35 (u 2)) 36 (u 3)) 37 (u 4)) 60 (u 5)))), ((q0 0), zi k1 600 f1), ((q0 31), .inr (12, sf22))]) (va_A [(h0, .inr (13, mX13 q0 v0)), ((q0 0), zi k1 600 f1), ((q0 31), .inr (12, sf22))] sz)) 0 0 (va_A [(h0, .inr (13, mX13 q0 v0)), ((q0 0), zi k1 600 f1), ((q0 31), .inr (12, sf22))] sz) := by
  refine vx_ofW (cc := cX13_wholeFrom) (maxL := 3) (ret := (some .int)) (by decide) rfl ?_
  intro p e s m args below meth c s₁ B hml hout hv
  obtain ⟨rfl, hsz, hP, hK, hD0, hE, hZ⟩ := hv
  have hx := B.exec
  have hb := B.bytes
  have hr := B.returns
  have hG : ∀ w ∈ zG, w.before _ s = true := fun w h => atoms_spec (ws := (zw yX13_wholeFrom cX13_wholeFrom 3 (some .int))) B.pre w (List.mem_cons_of_mem _ h)
  have hown : s.vm.findClass RX13 = some m.cls := findClass_of_methodNamed B.named
  have hlocks := B.notSynchronized

  subst hsz
  have hD := hD0.self (sz := s.heap.size)
  generalize hAe : va_A [(h0, .inr (13, mX13 q0 v0)), ((q0 0), zi k1 600 f1), ((q0 31), .inr (12, sf22))] s.heap.size = A at hD hZ ⊢
  have hA : ∀ q : Nat, s.heap.size ≤ q → A q := fun q h => by rw [← hAe]; exact Or.inr h
  have hS : va_S A s.heap s.heap [] := va_S.rf
  have hl := lv_entry ([.ref h0, .int x1]) (n := 3) (Nat.le_of_ble_eq_true rfl)
  rw [lg_entry_eq]
  generalize (lg_sl ([.ref h0, .int x1]) ++ List.replicate (3 - (lg_sl ([.ref h0, .int x1])).length) Slot.unset).toArray = ls at hl ⊢
  have hl : lv_has ls 3 [(0, .ref h0), (1, .int x1)] := hl
  have b_ : 0 ≤ (v0 36).toInt ∧ (v0 36).toInt ≤ 3 := hv0 36
  have b_ : 0 ≤ (v0 37).toInt ∧ (v0 37).toInt ≤ 600 := hv0 37
  have b_ : 0 ≤ (v0 35).toInt ∧ (v0 35).toInt ≤ 600 := hv0 35
  have b_ : 0 ≤ (v0 34).toInt ∧ (v0 34).toInt ≤ 600 := hv0 34
  refine lv_aload_n hx hb dX13_wholeFrom_0 rfl (lv_at hl 0 rfl) ?_
  have hPc := hP.sub (ws' := [(h0, .inr (13, mX13 q0 v0)), ((q0 0), zi k1 600 f1), ((q0 31), .inr (12, sf22))]) [0, 1, 2] rfl
  have hDc := hD.sub (ws' := [(h0, .inr (13, mX13 q0 v0)), ((q0 0), zi k1 600 f1), ((q0 31), .inr (12, sf22))]) [0, 1, 2] (by decide) rfl
  have hKc := hK.sub (tys' := [(k1, .byte)]) [0] rfl
  have hFc := va_free (wc := [(h0, .inr (13, mX13 q0 v0)), ((q0 0), zi k1 600 f1), ((q0 31), .inr (12, sf22))]) hD hS hA [0, 1, 2] rfl
  refine vx_calli (vx_runV (As := []) (rest := []) ⟨hx, hb, hml, hown, hG⟩ (sX13_whole_0 l dC dI adK adV h0 q0 k1 s.heap.size v0 f1 sf22 hv0 (show (v0 36).toInt ≠ 0 → (v0 37).toInt < (v0 35).toInt from by omega) (show (v0 35).toInt ≤ (v0 34).toInt from by omega) (show (v0 37).toInt ≤ (v0 35).toInt from by omega)) (cwV 0 hG (zgV zv2106 zv2108 zv97 zv142 zv2109) rfl rfl rfl (by decide +kernel) ⟨Nat.le_of_ble_eq_true rfl, Nat.le_of_ble_eq_true rfl⟩) ⟨zPc_blind, va_recv hKc hPc (ci := 13) (q0 := 0) rfl rfl, zPc_pre hPc hKc hDc hE hS hFc hZ⟩ rfl rfl hl.1 rfl (lv_room (Nat.le_of_ble_eq_true rfl)) dX13_wholeFrom_1 ⟨Nat.le_of_ble_eq_true rfl, Nat.le_of_ble_eq_true rfl⟩) hS (fun q _ h => hFc q h) hFc (fun q _ h => hFc q h) (fun E ce q9 x1_ t H1 locs ht hvm hpx hBX hz1 hk1 hS hce hcv hcl => ?_) (fun r1_ u1_ t H1 locs ht hvm hw hB hz1 hk1 hS => ?_)
  · skip
    have b_ : (0 ≤ (x1_ 2).toInt ∧ (x1_ 2).toInt ≤ 600) ∧ (0 ≤ (x1_ 3).toInt ∧ (x1_ 3).toInt ≤ 3) ∧ (0 ≤ (x1_ 4).toInt ∧ (x1_ 4).toInt ≤ 600) := hpx
    obtain ⟨rfl, w1_, a1_, b1_, hP1, hK1, hD1⟩ := hBX
    rw [ht] at hP1
    obtain ⟨hP, hD⟩ := va_join (wr := []) (w1 := [(h0, .inr (13, mX13 q0 (upd (upd (upd (upd (upd (upd v0 32 (x1_ 0)) 33 (x1_ 1)) 35 (x1_ 2)) 36 (x1_ 3)) 37 (x1_ 4)) 60 (x1_ 5)))), ((q0 0), zi k1 600 f1), ((q0 31), .inr (12, sf22))]) hP hD [0, 1, 2] [] rfl rfl (by decide) (by decide) hk1 hFc hP1 hD1
    have hP : va_P (dC, dI) vwCl [(h0, .inr (13, mX13 q0 (upd (upd (upd (upd (upd (upd v0 32 (x1_ 0)) 33 (x1_ 1)) 35 (x1_ 2)) 36 (x1_ 3)) 37 (x1_ 4)) 60 (x1_ 5)))), ((q0 0), zi k1 600 f1), ((q0 31), .inr (12, sf22))] H1 := hP.sub [0, 1, 2] rfl
    have hD : va_D A [(h0, .inr (13, mX13 q0 (upd (upd (upd (upd (upd (upd v0 32 (x1_ 0)) 33 (x1_ 1)) 35 (x1_ 2)) 36 (x1_ 3)) 37 (x1_ 4)) 60 (x1_ 5)))), ((q0 0), zi k1 600 f1), ((q0 31), .inr (12, sf22))] := hD.sub [0, 1, 2] (by decide) rfl
    clear hz1
    have b_ : -2147483648 ≤ (x1_ 0).toInt ∧ (x1_ 0).toInt ≤ 2147483647 := ⟨zlo _, zhi _⟩
    have b_ : -2147483648 ≤ (x1_ 1).toInt ∧ (x1_ 1).toInt ≤ 2147483647 := ⟨zlo _, zhi _⟩
    have b_ : -2147483648 ≤ (x1_ 5).toInt ∧ (x1_ 5).toInt ≤ 2147483647 := ⟨zlo _, zhi _⟩
    have hpost : (0 ≤ (x1_ 2).toInt ∧ (x1_ 2).toInt ≤ 600) ∧ (0 ≤ (x1_ 3).toInt ∧ (x1_ 3).toInt ≤ 3) ∧ (0 ≤ (x1_ 4).toInt ∧ (x1_ 4).toInt ≤ 600) := ⟨(by first | with_reducible assumption | exact ⟨by omega, by omega⟩), (by first | with_reducible assumption | exact ⟨by omega, by omega⟩), (by first | with_reducible assumption | exact ⟨by omega, by omega⟩)⟩
    have hP9 : va_P (dC, dI) vwCl [(h0, .inr (13, mX13 q0 (upd (upd (upd (upd (upd (upd v0 32 (x1_ 0)) 33 (x1_ 1)) 35 (x1_ 2)) 36 (x1_ 3)) 37 (x1_ 4)) 60 (x1_ 5)))), ((q0 0), zi k1 600 f1), ((q0 31), .inr (12, sf22))] H1 := hP
    have hD9 : va_D A [(h0, .inr (13, mX13 q0 (upd (upd (upd (upd (upd (upd v0 32 (x1_ 0)) 33 (x1_ 1)) 35 (x1_ 2)) 36 (x1_ 3)) 37 (x1_ 4)) 60 (x1_ 5)))), ((q0 0), zi k1 600 f1), ((q0 31), .inr (12, sf22))] := hD
    exact vx_out (fun x h => (hout x h).elim) hlocks hce hcv hcl (fun t ht hvm => ⟨(fun i => ([(x1_ 0), (x1_ 1), (x1_ 2), (x1_ 3), (x1_ 4), (x1_ 5)] : List (Int32)).getD i 0), hpost, ⟨rfl, (fun _ => 0), (fun _ => (fun _ => 0)), (fun _ => (fun _ => 0)), by rw [ht]; exact hP9, va_K.moved hvm hK, hD9⟩, hS.F ht⟩) hS.2.2 (by decide) (by decide)
  · skip
    replace hw : (0 ≤ (u1_ 2).toInt ∧ (u1_ 2).toInt ≤ 600) ∧ (0 ≤ (u1_ 3).toInt ∧ (u1_ 3).toInt ≤ 3) ∧ (0 ≤ (u1_ 4).toInt ∧ (u1_ 4).toInt ≤ 600) ∧ (0 ≤ (u1_ 5).toInt ∧ (u1_ 5).toInt ≤ 600) ∧ ((u1_ 3).toInt ≠ 0 → (u1_ 4).toInt < (u1_ 2).toInt) ∧ ((u1_ 2).toInt ≤ (v0 34).toInt) ∧ ((u1_ 4).toInt ≤ (u1_ 2).toInt) ∧ ((v0 37).toInt ≤ (u1_ 4).toInt) := hw
    obtain ⟨b_, b_, b_, b_, hX1_0, hX1_1, hX1_2, hX1_3⟩ := hw
    obtain ⟨w1_, a1_, b1_, hP1, hK1, hD1⟩ := hB
    rw [ht] at hP1
    obtain ⟨hP, hD⟩ := va_join (wr := []) (w1 := [(h0, .inr (13, mX13 q0 (upd (upd (upd (upd (upd (upd v0 32 (u1_ 0)) 33 (u1_ 1)) 35 (u1_ 2)) 36 (u1_ 3)) 37 (u1_ 4)) 60 (u1_ 5)))), ((q0 0), zi k1 600 f1), ((q0 31), .inr (12, sf22))]) hP hD [0, 1, 2] [] rfl rfl (by decide) (by decide) hk1 hFc hP1 hD1
    have hP : va_P (dC, dI) vwCl [(h0, .inr (13, mX13 q0 (upd (upd (upd (upd (upd (upd v0 32 (u1_ 0)) 33 (u1_ 1)) 35 (u1_ 2)) 36 (u1_ 3)) 37 (u1_ 4)) 60 (u1_ 5)))), ((q0 0), zi k1 600 f1), ((q0 31), .inr (12, sf22))] H1 := hP.sub [0, 1, 2] rfl
    have hD : va_D A [(h0, .inr (13, mX13 q0 (upd (upd (upd (upd (upd (upd v0 32 (u1_ 0)) 33 (u1_ 1)) 35 (u1_ 2)) 36 (u1_ 3)) 37 (u1_ 4)) 60 (u1_ 5)))), ((q0 0), zi k1 600 f1), ((q0 31), .inr (12, sf22))] := hD.sub [0, 1, 2] (by decide) rfl
    generalize H1 = H at hP hS ⊢
    clear hz1
    refine lv_istore_n (lv' := [(2, .int r1_), (0, .ref h0), (1, .int x1)]) hx hb dX13_wholeFrom_4 rfl hl (by decide) rfl (fun ls hl => ?_)
    refine lv_iload_n hx hb dX13_wholeFrom_5 rfl (lv_at hl 0 rfl) ?_
    refine lv_iload_n hx hb dX13_wholeFrom_6 rfl (lv_at hl 2 rfl) ?_
    have b_ : -2147483648 ≤ r1_.toInt ∧ r1_.toInt ≤ 2147483647 := ⟨zlo _, zhi _⟩
    have b_ : -2147483648 ≤ x1.toInt ∧ x1.toInt ≤ 2147483647 := ⟨zlo _, zhi _⟩
    refine lv_icmp_ge (tgt := 20) hx hb dX13_wholeFrom_7 (by decide) (fun c_ => ?_) (fun c_ => ?_)
    · skip
      have b_ := zT_ge rfl rfl c_
      refine lv_iload_n hx hb dX13_wholeFrom_20 rfl (lv_at hl 0 rfl) ?_
      refine W.widen (k := 0) (n := 0) (by decide) (by decide) ?_
      have b_ : -2147483648 ≤ (u1_ 0).toInt ∧ (u1_ 0).toInt ≤ 2147483647 := ⟨zlo _, zhi _⟩
      have b_ : -2147483648 ≤ (u1_ 1).toInt ∧ (u1_ 1).toInt ≤ 2147483647 := ⟨zlo _, zhi _⟩
      have hpost : (0 ≤ (u1_ 2).toInt ∧ (u1_ 2).toInt ≤ 600) ∧ (0 ≤ (u1_ 3).toInt ∧ (u1_ 3).toInt ≤ 3) ∧ (0 ≤ (u1_ 4).toInt ∧ (u1_ 4).toInt ≤ 600) ∧ (0 ≤ (u1_ 5).toInt ∧ (u1_ 5).toInt ≤ 600) ∧ ((u1_ 3).toInt ≠ 0 → (u1_ 4).toInt < (u1_ 2).toInt) ∧ ((u1_ 2).toInt ≤ (v0 34).toInt) ∧ ((u1_ 4).toInt ≤ (u1_ 2).toInt) ∧ ((v0 37).toInt ≤ (u1_ 4).toInt) := ⟨(by first | with_reducible assumption | exact ⟨by omega, by omega⟩), (by first | with_reducible assumption | exact ⟨by omega, by omega⟩), (by first | with_reducible assumption | exact ⟨by omega, by omega⟩), (by first | with_reducible assumption | exact ⟨by omega, by omega⟩), by omega, by omega, by omega, by omega⟩
      have hP9 : va_P (dC, dI) vwCl [(h0, .inr (13, mX13 q0 (upd (upd (upd (upd (upd (upd v0 32 (u1_ 0)) 33 (u1_ 1)) 35 (u1_ 2)) 36 (u1_ 3)) 37 (u1_ 4)) 60 (u1_ 5)))), ((q0 0), zi k1 600 f1), ((q0 31), .inr (12, sf22))] H := hP
      have hD9 : va_D A [(h0, .inr (13, mX13 q0 (upd (upd (upd (upd (upd (upd v0 32 (u1_ 0)) 33 (u1_ 1)) 35 (u1_ 2)) 36 (u1_ 3)) 37 (u1_ 4)) 60 (u1_ 5)))), ((q0 0), zi k1 600 f1), ((q0 31), .inr (12, sf22))] := hD
      exact vx_ret (W.iret (v := r1_) hx hb hr (fun t ht hW => ⟨⟨r1_, (fun i => ([(u1_ 0), (u1_ 1), (u1_ 2), (u1_ 3), (u1_ 4), (u1_ 5)] : List (Int32)).getD i 0), rfl, hpost, (fun _ => 0), (fun _ => (fun _ => 0)), (fun _ => (fun _ => 0)), by rw [ht]; exact hP9, va_K.moved hW.alike hK, hD9⟩, hS.F ht⟩) hS.2.2 dX13_wholeFrom_21)
    · skip
      have b_ := zF_ge rfl rfl c_
      refine lv_aload_n hx hb dX13_wholeFrom_10 rfl (lv_at hl 1 rfl) ?_
      refine lv_iconst (v := 2) hx hb dX13_wholeFrom_11 (by decide) ?_
      refine lv_aload_n hx hb dX13_wholeFrom_12 rfl (lv_at hl 1 rfl) ?_
      refine va_get (D := (dC, dI)) (ci := 13) (v := .int (u1_ 5)) (C := RX13) (T := TX13) (N := 75) hx hb hG zuX13 hown hK hP 0 rfl rfl 60 (by decide) (hG _ zv1664) (fun _ h9 => h9) rfl dX13_wholeFrom_13 ?_
      have b_ : -2147483648 ≤ (u1_ 0).toInt ∧ (u1_ 0).toInt ≤ 2147483647 := ⟨zlo _, zhi _⟩
      have b_ : -2147483648 ≤ (u1_ 1).toInt ∧ (u1_ 1).toInt ≤ 2147483647 := ⟨zlo _, zhi _⟩
      have hPc := hP.sub (ws' := [(h0, .inr (13, mX13 q0 (upd (upd (upd (upd (upd (upd v0 32 (u1_ 0)) 33 (u1_ 1)) 35 (u1_ 2)) 36 (u1_ 3)) 37 (u1_ 4)) 60 (u1_ 5))))]) [0] rfl
      have hDc := hD.sub (ws' := [(h0, .inr (13, mX13 q0 (upd (upd (upd (upd (upd (upd v0 32 (u1_ 0)) 33 (u1_ 1)) 35 (u1_ 2)) 36 (u1_ 3)) 37 (u1_ 4)) 60 (u1_ 5))))]) [0] (by decide) rfl
      have hKc := hK.sub (tys' := []) [] rfl
      have hFc := va_free (wc := [(h0, .inr (13, mX13 q0 (upd (upd (upd (upd (upd (upd v0 32 (u1_ 0)) 33 (u1_ 1)) 35 (u1_ 2)) 36 (u1_ 3)) 37 (u1_ 4)) 60 (u1_ 5))))]) hD hS hA [0] rfl
      refine va_callr (va_runV (As := [.int 2, .int (u1_ 5)]) (rest := []) ⟨hx, hb, hml, hown, hG⟩ (sX13_wrong_0 l dC dI adK adV h0 q0 H.size (upd (upd (upd (upd (upd (upd v0 32 (u1_ 0)) 33 (u1_ 1)) 35 (u1_ 2)) 36 (u1_ 3)) 37 (u1_ 4)) 60 (u1_ 5)) 2 (u1_ 5) (zR_updF (zR_up2 (zR_up2 (zR_up2 (zR_updF (zR_updF hv0 32 rfl) 33 rfl) 35 (show (0 : Int) ≤ ((u1_ 2) : Int32).toInt ∧ ((u1_ 2) : Int32).toInt ≤ (600 : Int) from (by first | with_reducible assumption | exact ⟨by omega, by omega⟩))) 36 (show (0 : Int) ≤ ((u1_ 3) : Int32).toInt ∧ ((u1_ 3) : Int32).toInt ≤ (3 : Int) from (by first | with_reducible assumption | exact ⟨by omega, by omega⟩))) 37 (show (0 : Int) ≤ ((u1_ 4) : Int32).toInt ∧ ((u1_ 4) : Int32).toInt ≤ (600 : Int) from (by first | with_reducible assumption | exact ⟨by omega, by omega⟩))) 60 rfl)) (cwV 2 hG (zgV zv2074 zv2076 zv89 zv142 zv2077) rfl rfl rfl (by decide +kernel) ⟨Nat.le_of_ble_eq_true rfl, Nat.le_of_ble_eq_true rfl⟩) ⟨zPc_blind, va_recv hKc hPc (ci := 13) (q0 := 0) rfl rfl, zPc_pre hPc hKc hDc hE hS hFc hZ⟩ rfl rfl hl.1 rfl (lv_room (Nat.le_of_ble_eq_true rfl)) dX13_wholeFrom_16 ⟨Nat.le_of_ble_eq_true rfl, Nat.le_of_ble_eq_true rfl⟩) hS (fun q _ h => hFc q h) hFc (fun u16_ r16_ t H1 locs ht hvm hw hB hz1 hk1 hS => ?_)
      obtain ⟨hra, hB⟩ := hB
      subst hra
      obtain ⟨w16_, a16_, b16_, hP1, hK1, hD1⟩ := hB
      rw [ht] at hP1
      obtain ⟨hP, hD⟩ := va_join (wr := [((q0 0), zi k1 600 f1), ((q0 31), .inr (12, sf22))]) (w1 := [(h0, .inr (13, mX13 q0 (upd (upd (upd (upd (upd (upd v0 32 (u16_ 0)) 33 (u16_ 1)) 35 (u1_ 2)) 36 (u1_ 3)) 37 (u1_ 4)) 60 (u1_ 5))))]) hP hD [0] [1, 2] rfl rfl (by decide) (by decide) hk1 hFc hP1 hD1
      have hP : va_P (dC, dI) vwCl [(h0, .inr (13, mX13 q0 (upd (upd (upd (upd (upd (upd v0 32 (u16_ 0)) 33 (u16_ 1)) 35 (u1_ 2)) 36 (u1_ 3)) 37 (u1_ 4)) 60 (u1_ 5)))), ((q0 0), zi k1 600 f1), ((q0 31), .inr (12, sf22))] H1 := hP.sub [2, 0, 1] rfl
      have hD : va_D A [(h0, .inr (13, mX13 q0 (upd (upd (upd (upd (upd (upd v0 32 (u16_ 0)) 33 (u16_ 1)) 35 (u1_ 2)) 36 (u1_ 3)) 37 (u1_ 4)) 60 (u1_ 5)))), ((q0 0), zi k1 600 f1), ((q0 31), .inr (12, sf22))] := hD.sub [2, 0, 1] (by decide) rfl
      generalize H1 = H at hP hS ⊢
      clear hz1
      have b_ : -2147483648 ≤ (u16_ 0).toInt ∧ (u16_ 0).toInt ≤ 2147483647 := ⟨zlo _, zhi _⟩
      have b_ : -2147483648 ≤ (u16_ 1).toInt ∧ (u16_ 1).toInt ≤ 2147483647 := ⟨zlo _, zhi _⟩
      have hpost : (0 ≤ (u1_ 2).toInt ∧ (u1_ 2).toInt ≤ 600) ∧ (0 ≤ (u1_ 3).toInt ∧ (u1_ 3).toInt ≤ 3) ∧ (0 ≤ (u1_ 4).toInt ∧ (u1_ 4).toInt ≤ 600) := ⟨(by first | with_reducible assumption | exact ⟨by omega, by omega⟩), (by first | with_reducible assumption | exact ⟨by omega, by omega⟩), (by first | with_reducible assumption | exact ⟨by omega, by omega⟩)⟩
      have hP9 : va_P (dC, dI) vwCl [(h0, .inr (13, mX13 q0 (upd (upd (upd (upd (upd (upd v0 32 (u16_ 0)) 33 (u16_ 1)) 35 (u1_ 2)) 36 (u1_ 3)) 37 (u1_ 4)) 60 (u1_ 5)))), ((q0 0), zi k1 600 f1), ((q0 31), .inr (12, sf22))] H := hP
      have hD9 : va_D A [(h0, .inr (13, mX13 q0 (upd (upd (upd (upd (upd (upd v0 32 (u16_ 0)) 33 (u16_ 1)) 35 (u1_ 2)) 36 (u1_ 3)) 37 (u1_ 4)) 60 (u1_ 5)))), ((q0 0), zi k1 600 f1), ((q0 31), .inr (12, sf22))] := hD
      obtain ⟨ce, hce, hcv, hcl⟩ := zthrown hK hP (ci := 12) (q0 := 2) rfl rfl
      exact z_athrow (E := RX12) hx hb (fun x h => (hout x h).elim) hlocks hce hcv hcl dX13_wholeFrom_19 (fun t ht hvm => ⟨(fun i => ([(u16_ 0), (u16_ 1), (u1_ 2), (u1_ 3), (u1_ 4), (u1_ 5)] : List (Int32)).getD i 0), hpost, ⟨rfl, (fun _ => 0), (fun _ => (fun _ => 0)), (fun _ => (fun _ => 0)), by rw [ht]; exact hP9, va_K.moved hvm hK, hD9⟩, hS.F ht⟩) hS.2.2 (by decide) (by decide)
set_option maxHeartbeats 8000000 in
set_option maxRecDepth 100000 in
theorem sX13_marksOf_0 (l : Launch) (dC : Nat → ClassId) (dI : Nat → Nat → Nat) (adK adV : Nat → Nat) (h0 : Nat) (q0 : Nat → Nat) (k27 : ClassId) (k1 : ClassId) (k28 : ClassId) (k30 : ClassId) (k29 : ClassId) (k23 : ClassId) (k24 : ClassId) (k25 : ClassId) (k26 : ClassId) (k34 : ClassId) (k33 : ClassId) (sz : Nat) (v0 : Nat → Int32) (f27 : Nat → Int32) (sf22 : List Value) (f1 : Nat → Int32) (f28 : Nat → Int32) (f30 : Nat → Int32) (f29 : Nat → Int32) (f23 : Nat → Int32) (f24 : Nat → Int32) (f25 : Nat → Int32) (f26 : Nat → Int32) (f34 : Nat → Int32) (f33 : Nat → Int32) (hv0 : zR rg_Model v0) (hf24 : zA (-1) 1299 f24) (hf25 : zA (-1) 1299 f25) (hp0_ : (v0 36).toInt ≠ 0 → (v0 37).toInt < (v0 35).toInt) (hp1_ : (v0 35).toInt ≤ (v0 34).toInt) (hp2_ : (v0 37).toInt ≤ (v0 35).toInt) (hp3_ : (v0 53).toInt = (v0 42).toInt) (hp4_ : (v0 50).toInt ≤ (v0 47).toInt + (v0 51).toInt) (hp5_ : (v0 42).toInt ≤ 2 * (v0 37).toInt) (hp6_ : (v0 36).toInt ≠ 0) (hp7_ : zTr f23 f24 f25 f26 (v0 42).toInt (v0 47).toInt) (hp8_ : zLf f27 f28 f29 (v0 47).toInt) : vx_Met l yX13_marksOf (zw yX13_marksOf cX13_marksOf 4 (some .int)) { frames := 6, cells := 0, slots := 0, locals := 129 } (zPc dC dI adK adV [.ref h0] sz [(h0, .inr (13, mX13 q0 v0)), ((q0 43), zi k27 40 f27), ((q0 31), .inr (12, sf22)), ((q0 0), zi k1 600 f1), ((q0 44), zi k28 40 f28), ((q0 46), zi k30 40 f30), ((q0 45), zi k29 40 f29), ((q0 38), zi k23 1300 f23), ((q0 39), zi k24 1300 f24), ((q0 40), zi k25 1300 f25), ((q0 41), zi k26 1300 f26), ((q0 56), zi k34 1300 f34), ((q0 52), zi k33 1300 f33)] [(k27, .int), (k1, .byte), (k28, .int), (k30, .int), (k29, .int), (k23, .int), (k24, .int), (k25, .int), (k26, .int), (k34, .boolean), (k33, .int)]) (va_Qi (fun (r : Int32) (u : Nat → Int32) => (0 ≤ r.toInt ∧ r.toInt ≤ 1299) ∧ (0 ≤ (u 2).toInt ∧ (u 2).toInt ≤ 600) ∧ (0 ≤ (u 3).toInt ∧ (u 3).toInt ≤ 3) ∧ (0 ≤ (u 4).toInt ∧ (u 4).toInt ≤ 600) ∧ (1 ≤ (u 5).toInt ∧ (u 5).toInt ≤ 1300) ∧ (1 ≤ (u 6).toInt ∧ (u 6).toInt ≤ 40) ∧ (1 ≤ (u 7).toInt ∧ (u 7).toInt ≤ 1300) ∧ (0 ≤ (u 8).toInt ∧ (u 8).toInt ≤ 600) ∧ ((u 3).toInt ≠ 0 → (u 4).toInt < (u 2).toInt) ∧ ((u 2).toInt ≤ (v0 34).toInt) ∧ ((u 4).toInt ≤ (u 2).toInt) ∧ ((u 7).toInt = (u 5).toInt) ∧ ((v0 50).toInt ≤ (u 6).toInt + (v0 51).toInt) ∧ (2 * (v0 37).toInt - (v0 42).toInt + 1 ≤ 2 * (u 4).toInt - (u 5).toInt) ∧ ((v0 37).toInt + 1 ≤ (u 4).toInt) ∧ (0 ≤ r.toInt ∧ r.toInt < (u 5).toInt) ∧ ((v0 42).toInt + 1 ≤ (u 5).toInt)) (fun (u : Nat → Int32) (t : State) => ∃ (ww : Nat → Int64) (aa : Nat → Nat → Int32) (bb : Nat → Nat → Int64), zA (-1) 1299 (aa 4) ∧ zA (-1) 1299 (aa 5) ∧ (zTr (aa 3) (aa 4) (aa 5) (aa 6) (u 5).toInt (u 6).toInt) ∧ (zLf (aa 0) (aa 1) f29 (u 6).toInt) ∧ va_P (dC, dI) vwCl [(h0, .inr (13, mX13 q0 (upd (upd (upd (upd (upd (upd (upd (upd (upd v0 32 (u 0)) 33 (u 1)) 35 (u 2)) 36 (u 3)) 37 (u 4)) 42 (u 5)) 47 (u 6)) 53 (u 7)) 60 (u 8)))), ((q0 43), zi k27 40 (aa 0)), ((q0 31), .inr (12, sf22)), ((q0 0), zi k1 600 f1), ((q0 44), zi k28 40 (aa 1)), ((q0 46), zi k30 40 (aa 2)), ((q0 45), zi k29 40 f29), ((q0 38), zi k23 1300 (aa 3)), ((q0 39), zi k24 1300 (aa 4)), ((q0 40), zi k25 1300 (aa 5)), ((q0 41), zi k26 1300 (aa 6)), ((q0 56), zi k34 1300 (aa 7)), ((q0 52), zi k33 1300 (aa 8))] t.heap ∧ va_K (dC, dI) vwCl [(k27, .int), (k1, .byte), (k28, .int), (k30, .int), (k29, .int), (k23, .int), (k24, .int), (k25, .int), (k26, .int), (k34, .boolean), (k33, .int)] t ∧ va_D (va_A [(h0, .inr (13, mX13 q0 v0)), ((q0 43), zi k27 40 f27), ((q0 31), .inr (12, sf22)), ((q0 0), zi k1 600 f1), ((q0 44), zi k28 40 f28), ((q0 46), zi k30 40 f30), ((q0 45), zi k29 40 f29), ((q0 38), zi k23 1300 f23), ((q0 39), zi k24 1300 f24), ((q0 40), zi k25 1300 f25), ((q0 41), zi k26 1300 f26), ((q0 56), zi k34 1300 f34), ((q0 52), zi k33 1300 f33)] sz) [(h0, .inr (13, mX13 q0 (upd (upd (upd (upd (upd (upd (upd (upd (upd v0 32 (u 0)) 33 (u 1)) 35 (u 2)) 36 (u 3)) 37 (u 4)) 42 (u 5)) 47 (u 6)) 53 (u 7)) 60 (u 8)))), ((q0 43), zi k27 40 (aa 0)), ((q0 31), .inr (12, sf22)), ((q0 0), zi k1 600 f1), ((q0 44), zi k28 40 (aa 1)), ((q0 46), zi k30 40 (aa 2)), ((q0 45), zi k29 40 f29), ((q0 38), zi k23 1300 (aa 3)), ((q0 39), zi k24 1300 (aa 4)), ((q0 40), zi k25 1300 (aa 5)), ((q0 41), zi k26 1300 (aa 6)), ((q0 56), zi k34 1300 (aa 7)), ((q0 52), zi k33 1300 (aa 8))]) (va_A [(h0, .inr (13, mX13 q0 v0)), ((q0 43), zi k27 40 f27), ((q0 31), .inr (12, sf22)), ((q0 0), zi k1 600 f1), ((q0 44), zi k28 40 f28), ((q0 46), zi k30 40 f30), ((q0 45), zi k29 40 f29), ((q0 38), zi k23 1300 f23), ((q0 39), zi k24 1300 f24), ((q0 40), zi k25 1300 f25), ((q0 41), zi k26 1300 f26), ((q0 56), zi k34 1300 f34), ((q0 52), zi k33 1300 f33)] sz)) (vx_X (fun (u : Nat → Int32) => (0 ≤ (u 2).toInt ∧ (u 2).toInt ≤ 600) ∧ (0 ≤ (u 3).toInt ∧ (u 3).toInt ≤ 3) ∧ (0 ≤ (u 4).toInt ∧ (u 4).toInt ≤ 600) ∧ (0 ≤ (u 5).toInt ∧ (u 5).toInt ≤ 1300) ∧ (1 ≤ (u 6).toInt ∧ (u 6).toInt ≤ 40) ∧ (0 ≤ (u 7).toInt ∧ (u 7).toInt ≤ 1300)) (fun (E : String) (u : Nat → Int32) (t : State) => E = RX12 ∧ ∃ (ww : Nat → Int64) (aa : Nat → Nat → Int32) (bb : Nat → Nat → Int64), zA (-1) 1299 (aa 4) ∧ zA (-1) 1299 (aa 5) ∧ va_P (dC, dI) vwCl [(h0, .inr (13, mX13 q0 (upd (upd (upd (upd (upd (upd (upd (upd (upd v0 32 (u 0)) 33 (u 1)) 35 (u 2)) 36 (u 3)) 37 (u 4)) 42 (u 5)) 47 (u 6)) 53 (u 7)) 60 (u 8)))), ((q0 43), zi k27 40 (aa 0)), ((q0 31), .inr (12, sf22)), ((q0 0), zi k1 600 f1), ((q0 44), zi k28 40 (aa 1)), ((q0 46), zi k30 40 (aa 2)), ((q0 45), zi k29 40 f29), ((q0 38), zi k23 1300 (aa 3)), ((q0 39), zi k24 1300 (aa 4)), ((q0 40), zi k25 1300 (aa 5)), ((q0 41), zi k26 1300 (aa 6)), ((q0 56), zi k34 1300 (aa 7)), ((q0 52), zi k33 1300 (aa 8))] t.heap ∧ va_K (dC, dI) vwCl [(k27, .int), (k1, .byte), (k28, .int), (k30, .int), (k29, .int), (k23, .int), (k24, .int), (k25, .int), (k26, .int), (k34, .boolean), (k33, .int)] t ∧ va_D (va_A [(h0, .inr (13, mX13 q0 v0)), ((q0 43), zi k27 40 f27), ((q0 31), .inr (12, sf22)), ((q0 0), zi k1 600 f1), ((q0 44), zi k28 40 f28), ((q0 46), zi k30 40 f30), ((q0 45), zi k29 40 f29), ((q0 38), zi k23 1300 f23), ((q0 39), zi k24 1300 f24), ((q0 40), zi k25 1300 f25), ((q0 41), zi k26 1300 f26), ((q0 56), zi k34 1300 f34), ((q0 52), zi k33 1300 f33)] sz) [(h0, .inr (13, mX13 q0 (upd (upd (upd (upd (upd (upd (upd (upd (upd v0 32 (u 0)) 33 (u 1)) 35 (u 2)) 36 (u 3)) 37 (u 4)) 42 (u 5)) 47 (u 6)) 53 (u 7)) 60 (u 8)))), ((q0 43), zi k27 40 (aa 0)), ((q0 31), .inr (12, sf22)), ((q0 0), zi k1 600 f1), ((q0 44), zi k28 40 (aa 1)), ((q0 46), zi k30 40 (aa 2)), ((q0 45), zi k29 40 f29), ((q0 38), zi k23 1300 (aa 3)), ((q0 39), zi k24 1300 (aa 4)), ((q0 40), zi k25 1300 (aa 5)), ((q0 41), zi k26 1300 (aa 6)), ((q0 56), zi k34 1300 (aa 7)), ((q0 52), zi k33 1300 (aa 8))]) (va_A [(h0, .inr (13, mX13 q0 v0)), ((q0 43), zi k27 40 f27), ((q0 31), .inr (12, sf22)), ((q0 0), zi k1 600 f1), ((q0 44), zi k28 40 f28), ((q0 46), zi k30 40 f30), ((q0 45), zi k29 40 f29), ((q0 38), zi k23 1300 f23), ((q0 39), zi k24 1300 f24), ((q0 40), zi k25 1300 f25), ((q0 41), zi k26 1300 f26), ((q0 56), zi k34 1300 f34), ((q0 52), zi k33 1300 f33)] sz)) 0 0 (va_A [(h0, .inr (13, mX13 q0 v0)), ((q0 43), zi k27 40 f27), ((q0 31), .inr (12, sf22)), ((q0 0), zi k1 600 f1), ((q0 44), zi k28 40 f28), ((q0 46), zi k30 40 f30), ((q0 45), zi k29 40 f29), ((q0 38), zi k23 1300 f23), ((q0 39), zi k24 1300 f24), ((q0 40), zi k25 1300 f25), ((q0 41), zi k26 1300 f26), ((q0 56), zi k34 1300 f34), ((q0 52), zi k33 1300 f33)] sz) := by
  refine vx_ofW (cc := cX13_marksOf) (maxL := 4) (ret := (some .int)) (by decide) rfl ?_
  intro p e s m args below meth c s₁ B hml hout hv
  obtain ⟨rfl, hsz, hP, hK, hD0, hE, hZ⟩ := hv
  have hx := B.exec
  have hb := B.bytes
  have hr := B.returns
  have hG : ∀ w ∈ zG, w.before _ s = true := fun w h => atoms_spec (ws := (zw yX13_marksOf cX13_marksOf 4 (some .int))) B.pre w (List.mem_cons_of_mem _ h)
  have hown : s.vm.findClass RX13 = some m.cls := findClass_of_methodNamed B.named
  have hlocks := B.notSynchronized

  subst hsz
  have hD := hD0.self (sz := s.heap.size)
  generalize hAe : va_A [(h0, .inr (13, mX13 q0 v0)), ((q0 43), zi k27 40 f27), ((q0 31), .inr (12, sf22)), ((q0 0), zi k1 600 f1), ((q0 44), zi k28 40 f28), ((q0 46), zi k30 40 f30), ((q0 45), zi k29 40 f29), ((q0 38), zi k23 1300 f23), ((q0 39), zi k24 1300 f24), ((q0 40), zi k25 1300 f25), ((q0 41), zi k26 1300 f26), ((q0 56), zi k34 1300 f34), ((q0 52), zi k33 1300 f33)] s.heap.size = A at hD hZ ⊢
  have hA : ∀ q : Nat, s.heap.size ≤ q → A q := fun q h => by rw [← hAe]; exact Or.inr h
  have hS : va_S A s.heap s.heap [] := va_S.rf
  have hl := lv_entry ([.ref h0]) (n := 4) (Nat.le_of_ble_eq_true rfl)
  rw [lg_entry_eq]
  generalize (lg_sl ([.ref h0]) ++ List.replicate (4 - (lg_sl ([.ref h0])).length) Slot.unset).toArray = ls at hl ⊢
  have hl : lv_has ls 4 [(0, .ref h0)] := hl
  have b_ := zk_1
  have b_ := zk_2
  have b_ := zk_3
  have b_ := zk_4
  have b_ : 0 ≤ (v0 36).toInt ∧ (v0 36).toInt ≤ 3 := hv0 36
  have b_ : 0 ≤ (v0 37).toInt ∧ (v0 37).toInt ≤ 600 := hv0 37
  have b_ : 0 ≤ (v0 35).toInt ∧ (v0 35).toInt ≤ 600 := hv0 35
  have b_ : 0 ≤ (v0 34).toInt ∧ (v0 34).toInt ≤ 600 := hv0 34
  have b_ : 0 ≤ (v0 53).toInt ∧ (v0 53).toInt ≤ 1300 := hv0 53
  have b_ : 0 ≤ (v0 42).toInt ∧ (v0 42).toInt ≤ 1300 := hv0 42
  have b_ : 0 ≤ (v0 50).toInt ∧ (v0 50).toInt ≤ 200 := hv0 50
  have b_ : 0 ≤ (v0 47).toInt ∧ (v0 47).toInt ≤ 40 := hv0 47
  have b_ : 0 ≤ (v0 51).toInt ∧ (v0 51).toInt ≤ 160 := hv0 51
  refine lv_aload_n hx hb dX13_marksOf_0 rfl (lv_at hl 0 rfl) ?_
  refine lv_iconst (v := 4) hx hb dX13_marksOf_1 (by decide) ?_
  have hPc := hP.sub (ws' := [(h0, .inr (13, mX13 q0 v0)), ((q0 43), zi k27 40 f27), ((q0 31), .inr (12, sf22))]) [0, 1, 2] rfl
  have hDc := hD.sub (ws' := [(h0, .inr (13, mX13 q0 v0)), ((q0 43), zi k27 40 f27), ((q0 31), .inr (12, sf22))]) [0, 1, 2] (by decide) rfl
  have hKc := hK.sub (tys' := [(k27, .int)]) [0] rfl
  have hFc := va_free (wc := [(h0, .inr (13, mX13 q0 v0)), ((q0 43), zi k27 40 f27), ((q0 31), .inr (12, sf22))]) hD hS hA [0, 1, 2] rfl
  refine vx_calli (vx_runV (As := [.int 4]) (rest := []) ⟨hx, hb, hml, hown, hG⟩ (sX13_leaf_0 l dC dI adK adV h0 q0 k27 s.heap.size v0 f27 sf22 4 hv0) (cwV 1 hG (zgV zv2102 zv2104 zv96 zv142 zv2105) rfl rfl rfl (by decide +kernel) ⟨Nat.le_of_ble_eq_true rfl, Nat.le_of_ble_eq_true rfl⟩) ⟨zPc_blind, va_recv hKc hPc (ci := 13) (q0 := 0) rfl rfl, zPc_pre hPc hKc hDc hE hS hFc hZ⟩ rfl rfl hl.1 rfl (lv_room (Nat.le_of_ble_eq_true rfl)) dX13_marksOf_2 ⟨Nat.le_of_ble_eq_true rfl, Nat.le_of_ble_eq_true rfl⟩) hS (fun q _ h => hFc q h) hFc (fun q _ h => hFc q h) (fun E ce q9 x2_ t H1 locs ht hvm hpx hBX hz1 hk1 hS hce hcv hcl => ?_) (fun r2_ u2_ t H1 locs ht hvm hw hB hz1 hk1 hS => ?_)
  · skip
    have b_ : (40 ≤ (x2_ 2).toInt ∧ (x2_ 2).toInt ≤ 40) := hpx
    obtain ⟨rfl, w2_, a2_, b2_, hP1, hK1, hD1⟩ := hBX
    rw [ht] at hP1
    obtain ⟨hP, hD⟩ := va_join (wr := [((q0 0), zi k1 600 f1), ((q0 44), zi k28 40 f28), ((q0 46), zi k30 40 f30), ((q0 45), zi k29 40 f29), ((q0 38), zi k23 1300 f23), ((q0 39), zi k24 1300 f24), ((q0 40), zi k25 1300 f25), ((q0 41), zi k26 1300 f26), ((q0 56), zi k34 1300 f34), ((q0 52), zi k33 1300 f33)]) (w1 := [(h0, .inr (13, mX13 q0 (upd (upd (upd v0 32 (x2_ 0)) 33 (x2_ 1)) 47 (x2_ 2)))), ((q0 43), zi k27 40 (a2_ 0)), ((q0 31), .inr (12, sf22))]) hP hD [0, 1, 2] [3, 4, 5, 6, 7, 8, 9, 10, 11, 12] rfl rfl (by decide) (by decide) hk1 hFc hP1 hD1
    have hP : va_P (dC, dI) vwCl [(h0, .inr (13, mX13 q0 (upd (upd (upd v0 32 (x2_ 0)) 33 (x2_ 1)) 47 (x2_ 2)))), ((q0 43), zi k27 40 (a2_ 0)), ((q0 31), .inr (12, sf22)), ((q0 0), zi k1 600 f1), ((q0 44), zi k28 40 f28), ((q0 46), zi k30 40 f30), ((q0 45), zi k29 40 f29), ((q0 38), zi k23 1300 f23), ((q0 39), zi k24 1300 f24), ((q0 40), zi k25 1300 f25), ((q0 41), zi k26 1300 f26), ((q0 56), zi k34 1300 f34), ((q0 52), zi k33 1300 f33)] H1 := hP.sub [10, 11, 12, 0, 1, 2, 3, 4, 5, 6, 7, 8, 9] rfl
    have hD : va_D A [(h0, .inr (13, mX13 q0 (upd (upd (upd v0 32 (x2_ 0)) 33 (x2_ 1)) 47 (x2_ 2)))), ((q0 43), zi k27 40 (a2_ 0)), ((q0 31), .inr (12, sf22)), ((q0 0), zi k1 600 f1), ((q0 44), zi k28 40 f28), ((q0 46), zi k30 40 f30), ((q0 45), zi k29 40 f29), ((q0 38), zi k23 1300 f23), ((q0 39), zi k24 1300 f24), ((q0 40), zi k25 1300 f25), ((q0 41), zi k26 1300 f26), ((q0 56), zi k34 1300 f34), ((q0 52), zi k33 1300 f33)] := hD.sub [10, 11, 12, 0, 1, 2, 3, 4, 5, 6, 7, 8, 9] (by decide) rfl
    clear hz1
    have b_ : -2147483648 ≤ (x2_ 0).toInt ∧ (x2_ 0).toInt ≤ 2147483647 := ⟨zlo _, zhi _⟩
    have b_ : -2147483648 ≤ (x2_ 1).toInt ∧ (x2_ 1).toInt ≤ 2147483647 := ⟨zlo _, zhi _⟩
    have b_ : -2147483648 ≤ (v0 60).toInt ∧ (v0 60).toInt ≤ 2147483647 := ⟨zlo _, zhi _⟩
    have hpost : (0 ≤ (v0 35).toInt ∧ (v0 35).toInt ≤ 600) ∧ (0 ≤ (v0 36).toInt ∧ (v0 36).toInt ≤ 3) ∧ (0 ≤ (v0 37).toInt ∧ (v0 37).toInt ≤ 600) ∧ (0 ≤ (v0 42).toInt ∧ (v0 42).toInt ≤ 1300) ∧ (1 ≤ (x2_ 2).toInt ∧ (x2_ 2).toInt ≤ 40) ∧ (0 ≤ (v0 53).toInt ∧ (v0 53).toInt ≤ 1300) := ⟨(by first | with_reducible assumption | exact ⟨by omega, by omega⟩), (by first | with_reducible assumption | exact ⟨by omega, by omega⟩), (by first | with_reducible assumption | exact ⟨by omega, by omega⟩), (by first | with_reducible assumption | exact ⟨by omega, by omega⟩), (by first | with_reducible assumption | exact ⟨by omega, by omega⟩), (by first | with_reducible assumption | exact ⟨by omega, by omega⟩)⟩
    have hP9 : va_P (dC, dI) vwCl [(h0, .inr (13, mX13 q0 (upd (upd (upd (upd (upd (upd (upd (upd (upd v0 32 (x2_ 0)) 33 (x2_ 1)) 35 (v0 35)) 36 (v0 36)) 37 (v0 37)) 42 (v0 42)) 47 (x2_ 2)) 53 (v0 53)) 60 (v0 60)))), ((q0 43), zi k27 40 (a2_ 0)), ((q0 31), .inr (12, sf22)), ((q0 0), zi k1 600 f1), ((q0 44), zi k28 40 f28), ((q0 46), zi k30 40 f30), ((q0 45), zi k29 40 f29), ((q0 38), zi k23 1300 f23), ((q0 39), zi k24 1300 f24), ((q0 40), zi k25 1300 f25), ((q0 41), zi k26 1300 f26), ((q0 56), zi k34 1300 f34), ((q0 52), zi k33 1300 f33)] H1 := hP
    have hD9 : va_D A [(h0, .inr (13, mX13 q0 (upd (upd (upd (upd (upd (upd (upd (upd (upd v0 32 (x2_ 0)) 33 (x2_ 1)) 35 (v0 35)) 36 (v0 36)) 37 (v0 37)) 42 (v0 42)) 47 (x2_ 2)) 53 (v0 53)) 60 (v0 60)))), ((q0 43), zi k27 40 (a2_ 0)), ((q0 31), .inr (12, sf22)), ((q0 0), zi k1 600 f1), ((q0 44), zi k28 40 f28), ((q0 46), zi k30 40 f30), ((q0 45), zi k29 40 f29), ((q0 38), zi k23 1300 f23), ((q0 39), zi k24 1300 f24), ((q0 40), zi k25 1300 f25), ((q0 41), zi k26 1300 f26), ((q0 56), zi k34 1300 f34), ((q0 52), zi k33 1300 f33)] := hD
    exact vx_out (fun x h => (hout x h).elim) hlocks hce hcv hcl (fun t ht hvm => ⟨(fun i => ([(x2_ 0), (x2_ 1), (v0 35), (v0 36), (v0 37), (v0 42), (x2_ 2), (v0 53), (v0 60)] : List (Int32)).getD i 0), hpost, ⟨rfl, (fun _ => 0), (fun i => ([(a2_ 0), f28, f30, f23, f24, f25, f26, f34, f33] : List (Nat → Int32)).getD i (fun _ => 0)), (fun _ => (fun _ => 0)), hf24, hf25, by rw [ht]; exact hP9, va_K.moved hvm hK, hD9⟩, hS.F ht⟩) hS.2.2 (by decide) (by decide)
  · skip
    replace hw : (0 ≤ r2_.toInt ∧ r2_.toInt ≤ 39) ∧ (1 ≤ (u2_ 2).toInt ∧ (u2_ 2).toInt ≤ 40) ∧ (r2_.toInt = (v0 47).toInt) ∧ ((u2_ 2).toInt = (v0 47).toInt + 1) := hw
    obtain ⟨b_, b_, hX2_0, hX2_1⟩ := hw
    obtain ⟨w2_, a2_, b2_, hB2_0, hP1, hK1, hD1⟩ := hB
    have hB2_0 : (a2_ 0) = upd f27 (((v0 47) : Int32)).toNatClampNeg (4 : Int32) := hB2_0
    rw [ht] at hP1
    obtain ⟨hP, hD⟩ := va_join (wr := [((q0 0), zi k1 600 f1), ((q0 44), zi k28 40 f28), ((q0 46), zi k30 40 f30), ((q0 45), zi k29 40 f29), ((q0 38), zi k23 1300 f23), ((q0 39), zi k24 1300 f24), ((q0 40), zi k25 1300 f25), ((q0 41), zi k26 1300 f26), ((q0 56), zi k34 1300 f34), ((q0 52), zi k33 1300 f33)]) (w1 := [(h0, .inr (13, mX13 q0 (upd (upd (upd v0 32 (u2_ 0)) 33 (u2_ 1)) 47 (u2_ 2)))), ((q0 43), zi k27 40 (a2_ 0)), ((q0 31), .inr (12, sf22))]) hP hD [0, 1, 2] [3, 4, 5, 6, 7, 8, 9, 10, 11, 12] rfl rfl (by decide) (by decide) hk1 hFc hP1 hD1
    have hP : va_P (dC, dI) vwCl [(h0, .inr (13, mX13 q0 (upd (upd (upd v0 32 (u2_ 0)) 33 (u2_ 1)) 47 (u2_ 2)))), ((q0 43), zi k27 40 (a2_ 0)), ((q0 31), .inr (12, sf22)), ((q0 0), zi k1 600 f1), ((q0 44), zi k28 40 f28), ((q0 46), zi k30 40 f30), ((q0 45), zi k29 40 f29), ((q0 38), zi k23 1300 f23), ((q0 39), zi k24 1300 f24), ((q0 40), zi k25 1300 f25), ((q0 41), zi k26 1300 f26), ((q0 56), zi k34 1300 f34), ((q0 52), zi k33 1300 f33)] H1 := hP.sub [10, 11, 12, 0, 1, 2, 3, 4, 5, 6, 7, 8, 9] rfl
    have hD : va_D A [(h0, .inr (13, mX13 q0 (upd (upd (upd v0 32 (u2_ 0)) 33 (u2_ 1)) 47 (u2_ 2)))), ((q0 43), zi k27 40 (a2_ 0)), ((q0 31), .inr (12, sf22)), ((q0 0), zi k1 600 f1), ((q0 44), zi k28 40 f28), ((q0 46), zi k30 40 f30), ((q0 45), zi k29 40 f29), ((q0 38), zi k23 1300 f23), ((q0 39), zi k24 1300 f24), ((q0 40), zi k25 1300 f25), ((q0 41), zi k26 1300 f26), ((q0 56), zi k34 1300 f34), ((q0 52), zi k33 1300 f33)] := hD.sub [10, 11, 12, 0, 1, 2, 3, 4, 5, 6, 7, 8, 9] (by decide) rfl
    generalize H1 = H at hP hS ⊢
    clear hz1
    refine lv_istore_n (lv' := [(1, .int r2_), (0, .ref h0)]) hx hb dX13_marksOf_5 rfl hl (by decide) rfl (fun ls hl => ?_)
    refine lv_aload_n hx hb dX13_marksOf_6 rfl (lv_at hl 1 rfl) ?_
    have b_ : -2147483648 ≤ (u2_ 0).toInt ∧ (u2_ 0).toInt ≤ 2147483647 := ⟨zlo _, zhi _⟩
    have b_ : -2147483648 ≤ (u2_ 1).toInt ∧ (u2_ 1).toInt ≤ 2147483647 := ⟨zlo _, zhi _⟩
    have hPc := hP.sub (ws' := [(h0, .inr (13, mX13 q0 (upd (upd (upd v0 32 (u2_ 0)) 33 (u2_ 1)) 47 (u2_ 2)))), ((q0 0), zi k1 600 f1)]) [0, 3] rfl
    have hDc := hD.sub (ws' := [(h0, .inr (13, mX13 q0 (upd (upd (upd v0 32 (u2_ 0)) 33 (u2_ 1)) 47 (u2_ 2)))), ((q0 0), zi k1 600 f1)]) [0, 3] (by decide) rfl
    have hKc := hK.sub (tys' := [(k1, .byte)]) [1] rfl
    have hFc := va_free (wc := [(h0, .inr (13, mX13 q0 (upd (upd (upd v0 32 (u2_ 0)) 33 (u2_ 1)) 47 (u2_ 2)))), ((q0 0), zi k1 600 f1)]) hD hS hA [0, 3] rfl
    refine va_callv (va_runV (As := []) (rest := []) ⟨hx, hb, hml, hown, hG⟩ (sX13_look1_0 l dC dI adK adV h0 q0 k1 H.size (upd (upd (upd v0 32 (u2_ 0)) 33 (u2_ 1)) 47 (u2_ 2)) f1 (zR_up2 (zR_updF (zR_updF hv0 32 rfl) 33 rfl) 47 (show (0 : Int) ≤ ((u2_ 2) : Int32).toInt ∧ ((u2_ 2) : Int32).toInt ≤ (40 : Int) from (by first | with_reducible assumption | exact ⟨by omega, by omega⟩))) (show (v0 35).toInt ≤ (v0 34).toInt from by omega)) (cwV 0 hG (zgV zv2042 zv2044 zv81 zv142 zv2045) rfl rfl rfl (by decide +kernel) ⟨Nat.le_of_ble_eq_true rfl, Nat.le_of_ble_eq_true rfl⟩) ⟨zPc_blind, va_recv hKc hPc (ci := 13) (q0 := 0) rfl rfl, zPc_pre hPc hKc hDc hE hS hFc hZ⟩ rfl rfl hl.1 rfl (lv_room (Nat.le_of_ble_eq_true rfl)) dX13_marksOf_7 ⟨Nat.le_of_ble_eq_true rfl, Nat.le_of_ble_eq_true rfl⟩) hS (fun q _ h => hFc q h) hFc (fun u7_ t H1 locs ht hvm hw hB hz1 hk1 hS => ?_)
    replace hw : (0 ≤ (u7_ 0).toInt ∧ (u7_ 0).toInt ≤ 600) ∧ (0 ≤ (u7_ 1).toInt ∧ (u7_ 1).toInt ≤ 3) ∧ (0 ≤ (u7_ 2).toInt ∧ (u7_ 2).toInt ≤ 600) ∧ ((u7_ 0).toInt ≤ (v0 34).toInt) ∧ ((v0 35).toInt ≤ (u7_ 2).toInt) ∧ ((u7_ 2).toInt ≤ (u7_ 0).toInt) ∧ ((u7_ 1).toInt ≠ 0 → (u7_ 2).toInt < (u7_ 0).toInt) ∧ ((u7_ 1).toInt = 0 → (u7_ 2).toInt = (v0 34).toInt) := hw
    obtain ⟨b_, b_, b_, hX7_0, hX7_1, hX7_2, hX7_3, hX7_4⟩ := hw
    obtain ⟨w7_, a7_, b7_, hP1, hK1, hD1⟩ := hB
    rw [ht] at hP1
    obtain ⟨hP, hD⟩ := va_join (wr := [((q0 43), zi k27 40 (a2_ 0)), ((q0 31), .inr (12, sf22)), ((q0 44), zi k28 40 f28), ((q0 46), zi k30 40 f30), ((q0 45), zi k29 40 f29), ((q0 38), zi k23 1300 f23), ((q0 39), zi k24 1300 f24), ((q0 40), zi k25 1300 f25), ((q0 41), zi k26 1300 f26), ((q0 56), zi k34 1300 f34), ((q0 52), zi k33 1300 f33)]) (w1 := [(h0, .inr (13, mX13 q0 (upd (upd (upd (upd (upd (upd v0 32 (u2_ 0)) 33 (u2_ 1)) 35 (u7_ 0)) 36 (u7_ 1)) 37 (u7_ 2)) 47 (u2_ 2)))), ((q0 0), zi k1 600 f1)]) hP hD [0, 3] [1, 2, 4, 5, 6, 7, 8, 9, 10, 11, 12] rfl rfl (by decide) (by decide) hk1 hFc hP1 hD1
    have hP : va_P (dC, dI) vwCl [(h0, .inr (13, mX13 q0 (upd (upd (upd (upd (upd (upd v0 32 (u2_ 0)) 33 (u2_ 1)) 35 (u7_ 0)) 36 (u7_ 1)) 37 (u7_ 2)) 47 (u2_ 2)))), ((q0 43), zi k27 40 (a2_ 0)), ((q0 31), .inr (12, sf22)), ((q0 0), zi k1 600 f1), ((q0 44), zi k28 40 f28), ((q0 46), zi k30 40 f30), ((q0 45), zi k29 40 f29), ((q0 38), zi k23 1300 f23), ((q0 39), zi k24 1300 f24), ((q0 40), zi k25 1300 f25), ((q0 41), zi k26 1300 f26), ((q0 56), zi k34 1300 f34), ((q0 52), zi k33 1300 f33)] H1 := hP.sub [11, 0, 1, 12, 2, 3, 4, 5, 6, 7, 8, 9, 10] rfl
    have hD : va_D A [(h0, .inr (13, mX13 q0 (upd (upd (upd (upd (upd (upd v0 32 (u2_ 0)) 33 (u2_ 1)) 35 (u7_ 0)) 36 (u7_ 1)) 37 (u7_ 2)) 47 (u2_ 2)))), ((q0 43), zi k27 40 (a2_ 0)), ((q0 31), .inr (12, sf22)), ((q0 0), zi k1 600 f1), ((q0 44), zi k28 40 f28), ((q0 46), zi k30 40 f30), ((q0 45), zi k29 40 f29), ((q0 38), zi k23 1300 f23), ((q0 39), zi k24 1300 f24), ((q0 40), zi k25 1300 f25), ((q0 41), zi k26 1300 f26), ((q0 56), zi k34 1300 f34), ((q0 52), zi k33 1300 f33)] := hD.sub [11, 0, 1, 12, 2, 3, 4, 5, 6, 7, 8, 9, 10] (by decide) rfl
    generalize H1 = H at hP hS ⊢
    clear hz1
    refine lv_aload_n hx hb dX13_marksOf_10 rfl (lv_at hl 1 rfl) ?_
    have hPc := hP.sub (ws' := [(h0, .inr (13, mX13 q0 (upd (upd (upd (upd (upd (upd v0 32 (u2_ 0)) 33 (u2_ 1)) 35 (u7_ 0)) 36 (u7_ 1)) 37 (u7_ 2)) 47 (u2_ 2)))), ((q0 0), zi k1 600 f1), ((q0 31), .inr (12, sf22))]) [0, 3, 2] rfl
    have hDc := hD.sub (ws' := [(h0, .inr (13, mX13 q0 (upd (upd (upd (upd (upd (upd v0 32 (u2_ 0)) 33 (u2_ 1)) 35 (u7_ 0)) 36 (u7_ 1)) 37 (u7_ 2)) 47 (u2_ 2)))), ((q0 0), zi k1 600 f1), ((q0 31), .inr (12, sf22))]) [0, 3, 2] (by decide) rfl
    have hKc := hK.sub (tys' := [(k1, .byte)]) [1] rfl
    have hFc := va_free (wc := [(h0, .inr (13, mX13 q0 (upd (upd (upd (upd (upd (upd v0 32 (u2_ 0)) 33 (u2_ 1)) 35 (u7_ 0)) 36 (u7_ 1)) 37 (u7_ 2)) 47 (u2_ 2)))), ((q0 0), zi k1 600 f1), ((q0 31), .inr (12, sf22))]) hD hS hA [0, 3, 2] rfl
    refine vx_calli (vx_runV (As := []) (rest := []) ⟨hx, hb, hml, hown, hG⟩ (sX13_whole_0 l dC dI adK adV h0 q0 k1 H.size (upd (upd (upd (upd (upd (upd v0 32 (u2_ 0)) 33 (u2_ 1)) 35 (u7_ 0)) 36 (u7_ 1)) 37 (u7_ 2)) 47 (u2_ 2)) f1 sf22 (zR_up2 (zR_up2 (zR_up2 (zR_up2 (zR_updF (zR_updF hv0 32 rfl) 33 rfl) 35 (show (0 : Int) ≤ ((u7_ 0) : Int32).toInt ∧ ((u7_ 0) : Int32).toInt ≤ (600 : Int) from (by first | with_reducible assumption | exact ⟨by omega, by omega⟩))) 36 (show (0 : Int) ≤ ((u7_ 1) : Int32).toInt ∧ ((u7_ 1) : Int32).toInt ≤ (3 : Int) from (by first | with_reducible assumption | exact ⟨by omega, by omega⟩))) 37 (show (0 : Int) ≤ ((u7_ 2) : Int32).toInt ∧ ((u7_ 2) : Int32).toInt ≤ (600 : Int) from (by first | with_reducible assumption | exact ⟨by omega, by omega⟩))) 47 (show (0 : Int) ≤ ((u2_ 2) : Int32).toInt ∧ ((u2_ 2) : Int32).toInt ≤ (40 : Int) from (by first | with_reducible assumption | exact ⟨by omega, by omega⟩))) (show (u7_ 1).toInt ≠ 0 → (u7_ 2).toInt < (u7_ 0).toInt from by omega) (show (u7_ 0).toInt ≤ (v0 34).toInt from by omega) (show (u7_ 2).toInt ≤ (u7_ 0).toInt from by omega)) (cwV 0 hG (zgV zv2106 zv2108 zv97 zv142 zv2109) rfl rfl rfl (by decide +kernel) ⟨Nat.le_of_ble_eq_true rfl, Nat.le_of_ble_eq_true rfl⟩) ⟨zPc_blind, va_recv hKc hPc (ci := 13) (q0 := 0) rfl rfl, zPc_pre hPc hKc hDc hE hS hFc hZ⟩ rfl rfl hl.1 rfl (lv_room (Nat.le_of_ble_eq_true rfl)) dX13_marksOf_11 ⟨Nat.le_of_ble_eq_true rfl, Nat.le_of_ble_eq_true rfl⟩) hS (fun q _ h => hFc q h) hFc (fun q _ h => hFc q h) (fun E ce q9 x11_ t H1 locs ht hvm hpx hBX hz1 hk1 hS hce hcv hcl => ?_) (fun r11_ u11_ t H1 locs ht hvm hw hB hz1 hk1 hS => ?_)
    · skip
      have b_ : (0 ≤ (x11_ 2).toInt ∧ (x11_ 2).toInt ≤ 600) ∧ (0 ≤ (x11_ 3).toInt ∧ (x11_ 3).toInt ≤ 3) ∧ (0 ≤ (x11_ 4).toInt ∧ (x11_ 4).toInt ≤ 600) := hpx
      obtain ⟨rfl, w11_, a11_, b11_, hP1, hK1, hD1⟩ := hBX
      rw [ht] at hP1
      obtain ⟨hP, hD⟩ := va_join (wr := [((q0 43), zi k27 40 (a2_ 0)), ((q0 44), zi k28 40 f28), ((q0 46), zi k30 40 f30), ((q0 45), zi k29 40 f29), ((q0 38), zi k23 1300 f23), ((q0 39), zi k24 1300 f24), ((q0 40), zi k25 1300 f25), ((q0 41), zi k26 1300 f26), ((q0 56), zi k34 1300 f34), ((q0 52), zi k33 1300 f33)]) (w1 := [(h0, .inr (13, mX13 q0 (upd (upd (upd (upd (upd (upd (upd v0 32 (x11_ 0)) 33 (x11_ 1)) 35 (x11_ 2)) 36 (x11_ 3)) 37 (x11_ 4)) 47 (u2_ 2)) 60 (x11_ 5)))), ((q0 0), zi k1 600 f1), ((q0 31), .inr (12, sf22))]) hP hD [0, 3, 2] [1, 4, 5, 6, 7, 8, 9, 10, 11, 12] rfl rfl (by decide) (by decide) hk1 hFc hP1 hD1
      have hP : va_P (dC, dI) vwCl [(h0, .inr (13, mX13 q0 (upd (upd (upd (upd (upd (upd (upd v0 32 (x11_ 0)) 33 (x11_ 1)) 35 (x11_ 2)) 36 (x11_ 3)) 37 (x11_ 4)) 47 (u2_ 2)) 60 (x11_ 5)))), ((q0 43), zi k27 40 (a2_ 0)), ((q0 31), .inr (12, sf22)), ((q0 0), zi k1 600 f1), ((q0 44), zi k28 40 f28), ((q0 46), zi k30 40 f30), ((q0 45), zi k29 40 f29), ((q0 38), zi k23 1300 f23), ((q0 39), zi k24 1300 f24), ((q0 40), zi k25 1300 f25), ((q0 41), zi k26 1300 f26), ((q0 56), zi k34 1300 f34), ((q0 52), zi k33 1300 f33)] H1 := hP.sub [10, 0, 12, 11, 1, 2, 3, 4, 5, 6, 7, 8, 9] rfl
      have hD : va_D A [(h0, .inr (13, mX13 q0 (upd (upd (upd (upd (upd (upd (upd v0 32 (x11_ 0)) 33 (x11_ 1)) 35 (x11_ 2)) 36 (x11_ 3)) 37 (x11_ 4)) 47 (u2_ 2)) 60 (x11_ 5)))), ((q0 43), zi k27 40 (a2_ 0)), ((q0 31), .inr (12, sf22)), ((q0 0), zi k1 600 f1), ((q0 44), zi k28 40 f28), ((q0 46), zi k30 40 f30), ((q0 45), zi k29 40 f29), ((q0 38), zi k23 1300 f23), ((q0 39), zi k24 1300 f24), ((q0 40), zi k25 1300 f25), ((q0 41), zi k26 1300 f26), ((q0 56), zi k34 1300 f34), ((q0 52), zi k33 1300 f33)] := hD.sub [10, 0, 12, 11, 1, 2, 3, 4, 5, 6, 7, 8, 9] (by decide) rfl
      clear hz1
      have b_ : -2147483648 ≤ (x11_ 0).toInt ∧ (x11_ 0).toInt ≤ 2147483647 := ⟨zlo _, zhi _⟩
      have b_ : -2147483648 ≤ (x11_ 1).toInt ∧ (x11_ 1).toInt ≤ 2147483647 := ⟨zlo _, zhi _⟩
      have b_ : -2147483648 ≤ (x11_ 5).toInt ∧ (x11_ 5).toInt ≤ 2147483647 := ⟨zlo _, zhi _⟩
      have hpost : (0 ≤ (x11_ 2).toInt ∧ (x11_ 2).toInt ≤ 600) ∧ (0 ≤ (x11_ 3).toInt ∧ (x11_ 3).toInt ≤ 3) ∧ (0 ≤ (x11_ 4).toInt ∧ (x11_ 4).toInt ≤ 600) ∧ (0 ≤ (v0 42).toInt ∧ (v0 42).toInt ≤ 1300) ∧ (1 ≤ (u2_ 2).toInt ∧ (u2_ 2).toInt ≤ 40) ∧ (0 ≤ (v0 53).toInt ∧ (v0 53).toInt ≤ 1300) := ⟨(by first | with_reducible assumption | exact ⟨by omega, by omega⟩), (by first | with_reducible assumption | exact ⟨by omega, by omega⟩), (by first | with_reducible assumption | exact ⟨by omega, by omega⟩), (by first | with_reducible assumption | exact ⟨by omega, by omega⟩), (by first | with_reducible assumption | exact ⟨by omega, by omega⟩), (by first | with_reducible assumption | exact ⟨by omega, by omega⟩)⟩
      have hP9 : va_P (dC, dI) vwCl [(h0, .inr (13, mX13 q0 (upd (upd (upd (upd (upd (upd (upd (upd (upd v0 32 (x11_ 0)) 33 (x11_ 1)) 35 (x11_ 2)) 36 (x11_ 3)) 37 (x11_ 4)) 42 (v0 42)) 47 (u2_ 2)) 53 (v0 53)) 60 (x11_ 5)))), ((q0 43), zi k27 40 (a2_ 0)), ((q0 31), .inr (12, sf22)), ((q0 0), zi k1 600 f1), ((q0 44), zi k28 40 f28), ((q0 46), zi k30 40 f30), ((q0 45), zi k29 40 f29), ((q0 38), zi k23 1300 f23), ((q0 39), zi k24 1300 f24), ((q0 40), zi k25 1300 f25), ((q0 41), zi k26 1300 f26), ((q0 56), zi k34 1300 f34), ((q0 52), zi k33 1300 f33)] H1 := hP
      have hD9 : va_D A [(h0, .inr (13, mX13 q0 (upd (upd (upd (upd (upd (upd (upd (upd (upd v0 32 (x11_ 0)) 33 (x11_ 1)) 35 (x11_ 2)) 36 (x11_ 3)) 37 (x11_ 4)) 42 (v0 42)) 47 (u2_ 2)) 53 (v0 53)) 60 (x11_ 5)))), ((q0 43), zi k27 40 (a2_ 0)), ((q0 31), .inr (12, sf22)), ((q0 0), zi k1 600 f1), ((q0 44), zi k28 40 f28), ((q0 46), zi k30 40 f30), ((q0 45), zi k29 40 f29), ((q0 38), zi k23 1300 f23), ((q0 39), zi k24 1300 f24), ((q0 40), zi k25 1300 f25), ((q0 41), zi k26 1300 f26), ((q0 56), zi k34 1300 f34), ((q0 52), zi k33 1300 f33)] := hD
      exact vx_out (fun x h => (hout x h).elim) hlocks hce hcv hcl (fun t ht hvm => ⟨(fun i => ([(x11_ 0), (x11_ 1), (x11_ 2), (x11_ 3), (x11_ 4), (v0 42), (u2_ 2), (v0 53), (x11_ 5)] : List (Int32)).getD i 0), hpost, ⟨rfl, (fun _ => 0), (fun i => ([(a2_ 0), f28, f30, f23, f24, f25, f26, f34, f33] : List (Nat → Int32)).getD i (fun _ => 0)), (fun _ => (fun _ => 0)), hf24, hf25, by rw [ht]; exact hP9, va_K.moved hvm hK, hD9⟩, hS.F ht⟩) hS.2.2 (by decide) (by decide)
    · skip
      replace hw : (0 ≤ (u11_ 2).toInt ∧ (u11_ 2).toInt ≤ 600) ∧ (0 ≤ (u11_ 3).toInt ∧ (u11_ 3).toInt ≤ 3) ∧ (0 ≤ (u11_ 4).toInt ∧ (u11_ 4).toInt ≤ 600) ∧ (0 ≤ (u11_ 5).toInt ∧ (u11_ 5).toInt ≤ 600) ∧ ((u11_ 3).toInt ≠ 0 → (u11_ 4).toInt < (u11_ 2).toInt) ∧ ((u11_ 2).toInt ≤ (v0 34).toInt) ∧ ((u11_ 4).toInt ≤ (u11_ 2).toInt) ∧ ((u7_ 2).toInt ≤ (u11_ 4).toInt) := hw
      obtain ⟨b_, b_, b_, b_, hX11_0, hX11_1, hX11_2, hX11_3⟩ := hw
      obtain ⟨w11_, a11_, b11_, hP1, hK1, hD1⟩ := hB
      rw [ht] at hP1
      obtain ⟨hP, hD⟩ := va_join (wr := [((q0 43), zi k27 40 (a2_ 0)), ((q0 44), zi k28 40 f28), ((q0 46), zi k30 40 f30), ((q0 45), zi k29 40 f29), ((q0 38), zi k23 1300 f23), ((q0 39), zi k24 1300 f24), ((q0 40), zi k25 1300 f25), ((q0 41), zi k26 1300 f26), ((q0 56), zi k34 1300 f34), ((q0 52), zi k33 1300 f33)]) (w1 := [(h0, .inr (13, mX13 q0 (upd (upd (upd (upd (upd (upd (upd v0 32 (u11_ 0)) 33 (u11_ 1)) 35 (u11_ 2)) 36 (u11_ 3)) 37 (u11_ 4)) 47 (u2_ 2)) 60 (u11_ 5)))), ((q0 0), zi k1 600 f1), ((q0 31), .inr (12, sf22))]) hP hD [0, 3, 2] [1, 4, 5, 6, 7, 8, 9, 10, 11, 12] rfl rfl (by decide) (by decide) hk1 hFc hP1 hD1
      have hP : va_P (dC, dI) vwCl [(h0, .inr (13, mX13 q0 (upd (upd (upd (upd (upd (upd (upd v0 32 (u11_ 0)) 33 (u11_ 1)) 35 (u11_ 2)) 36 (u11_ 3)) 37 (u11_ 4)) 47 (u2_ 2)) 60 (u11_ 5)))), ((q0 43), zi k27 40 (a2_ 0)), ((q0 31), .inr (12, sf22)), ((q0 0), zi k1 600 f1), ((q0 44), zi k28 40 f28), ((q0 46), zi k30 40 f30), ((q0 45), zi k29 40 f29), ((q0 38), zi k23 1300 f23), ((q0 39), zi k24 1300 f24), ((q0 40), zi k25 1300 f25), ((q0 41), zi k26 1300 f26), ((q0 56), zi k34 1300 f34), ((q0 52), zi k33 1300 f33)] H1 := hP.sub [10, 0, 12, 11, 1, 2, 3, 4, 5, 6, 7, 8, 9] rfl
      have hD : va_D A [(h0, .inr (13, mX13 q0 (upd (upd (upd (upd (upd (upd (upd v0 32 (u11_ 0)) 33 (u11_ 1)) 35 (u11_ 2)) 36 (u11_ 3)) 37 (u11_ 4)) 47 (u2_ 2)) 60 (u11_ 5)))), ((q0 43), zi k27 40 (a2_ 0)), ((q0 31), .inr (12, sf22)), ((q0 0), zi k1 600 f1), ((q0 44), zi k28 40 f28), ((q0 46), zi k30 40 f30), ((q0 45), zi k29 40 f29), ((q0 38), zi k23 1300 f23), ((q0 39), zi k24 1300 f24), ((q0 40), zi k25 1300 f25), ((q0 41), zi k26 1300 f26), ((q0 56), zi k34 1300 f34), ((q0 52), zi k33 1300 f33)] := hD.sub [10, 0, 12, 11, 1, 2, 3, 4, 5, 6, 7, 8, 9] (by decide) rfl
      generalize H1 = H at hP hS ⊢
      clear hz1
      refine lv_istore_n (lv' := [(2, .int r11_), (1, .int r2_), (0, .ref h0)]) hx hb dX13_marksOf_14 rfl hl (by decide) rfl (fun ls hl => ?_)
      refine lv_aload_n hx hb dX13_marksOf_15 rfl (lv_at hl 2 rfl) ?_
      refine va_get (D := (dC, dI)) (ci := 13) (v := .int (u11_ 3)) (C := RX13) (T := TX13) (N := 75) hx hb hG zuX13 hown hK hP 0 rfl rfl 36 (by decide) (hG _ zv1640) (fun _ h9 => h9) rfl dX13_marksOf_16 ?_
      refine lv_iconst (v := 3) hx hb dX13_marksOf_19 (by decide) ?_
      refine lv_icmp_eq (tgt := 33) hx hb dX13_marksOf_20 (by decide) (fun c_ => ?_) (fun c_ => ?_)
      · skip
        have b_ := zT_eq rfl zk_3 c_
        refine lv_aload_n hx hb dX13_marksOf_33 rfl (lv_at hl 2 rfl) ?_
        have b_ : -2147483648 ≤ (u11_ 0).toInt ∧ (u11_ 0).toInt ≤ 2147483647 := ⟨zlo _, zhi _⟩
        have b_ : -2147483648 ≤ (u11_ 1).toInt ∧ (u11_ 1).toInt ≤ 2147483647 := ⟨zlo _, zhi _⟩
        have hPc := hP.sub (ws' := [(h0, .inr (13, mX13 q0 (upd (upd (upd (upd (upd (upd (upd v0 32 (u11_ 0)) 33 (u11_ 1)) 35 (u11_ 2)) 36 (u11_ 3)) 37 (u11_ 4)) 47 (u2_ 2)) 60 (u11_ 5)))), ((q0 0), zi k1 600 f1)]) [0, 3] rfl
        have hDc := hD.sub (ws' := [(h0, .inr (13, mX13 q0 (upd (upd (upd (upd (upd (upd (upd v0 32 (u11_ 0)) 33 (u11_ 1)) 35 (u11_ 2)) 36 (u11_ 3)) 37 (u11_ 4)) 47 (u2_ 2)) 60 (u11_ 5)))), ((q0 0), zi k1 600 f1)]) [0, 3] (by decide) rfl
        have hKc := hK.sub (tys' := [(k1, .byte)]) [1] rfl
        have hFc := va_free (wc := [(h0, .inr (13, mX13 q0 (upd (upd (upd (upd (upd (upd (upd v0 32 (u11_ 0)) 33 (u11_ 1)) 35 (u11_ 2)) 36 (u11_ 3)) 37 (u11_ 4)) 47 (u2_ 2)) 60 (u11_ 5)))), ((q0 0), zi k1 600 f1)]) hD hS hA [0, 3] rfl
        refine va_callv (va_runV (As := []) (rest := []) ⟨hx, hb, hml, hown, hG⟩ (sX13_look1_0 l dC dI adK adV h0 q0 k1 H.size (upd (upd (upd (upd (upd (upd (upd v0 32 (u11_ 0)) 33 (u11_ 1)) 35 (u11_ 2)) 36 (u11_ 3)) 37 (u11_ 4)) 47 (u2_ 2)) 60 (u11_ 5)) f1 (zR_updF (zR_up2 (zR_up2 (zR_up2 (zR_up2 (zR_updF (zR_updF hv0 32 rfl) 33 rfl) 35 (show (0 : Int) ≤ ((u11_ 2) : Int32).toInt ∧ ((u11_ 2) : Int32).toInt ≤ (600 : Int) from (by first | with_reducible assumption | exact ⟨by omega, by omega⟩))) 36 (show (0 : Int) ≤ ((u11_ 3) : Int32).toInt ∧ ((u11_ 3) : Int32).toInt ≤ (3 : Int) from (by first | with_reducible assumption | exact ⟨by omega, by omega⟩))) 37 (show (0 : Int) ≤ ((u11_ 4) : Int32).toInt ∧ ((u11_ 4) : Int32).toInt ≤ (600 : Int) from (by first | with_reducible assumption | exact ⟨by omega, by omega⟩))) 47 (show (0 : Int) ≤ ((u2_ 2) : Int32).toInt ∧ ((u2_ 2) : Int32).toInt ≤ (40 : Int) from (by first | with_reducible assumption | exact ⟨by omega, by omega⟩))) 60 rfl) (show (u11_ 2).toInt ≤ (v0 34).toInt from by omega)) (cwV 0 hG (zgV zv2042 zv2044 zv81 zv142 zv2045) rfl rfl rfl (by decide +kernel) ⟨Nat.le_of_ble_eq_true rfl, Nat.le_of_ble_eq_true rfl⟩) ⟨zPc_blind, va_recv hKc hPc (ci := 13) (q0 := 0) rfl rfl, zPc_pre hPc hKc hDc hE hS hFc hZ⟩ rfl rfl hl.1 rfl (lv_room (Nat.le_of_ble_eq_true rfl)) dX13_marksOf_34 ⟨Nat.le_of_ble_eq_true rfl, Nat.le_of_ble_eq_true rfl⟩) hS (fun q _ h => hFc q h) hFc (fun u34_ t H1 locs ht hvm hw hB hz1 hk1 hS => ?_)
        replace hw : (0 ≤ (u34_ 0).toInt ∧ (u34_ 0).toInt ≤ 600) ∧ (0 ≤ (u34_ 1).toInt ∧ (u34_ 1).toInt ≤ 3) ∧ (0 ≤ (u34_ 2).toInt ∧ (u34_ 2).toInt ≤ 600) ∧ ((u34_ 0).toInt ≤ (v0 34).toInt) ∧ ((u11_ 2).toInt ≤ (u34_ 2).toInt) ∧ ((u34_ 2).toInt ≤ (u34_ 0).toInt) ∧ ((u34_ 1).toInt ≠ 0 → (u34_ 2).toInt < (u34_ 0).toInt) ∧ ((u34_ 1).toInt = 0 → (u34_ 2).toInt = (v0 34).toInt) := hw
        obtain ⟨b_, b_, b_, hX34_0, hX34_1, hX34_2, hX34_3, hX34_4⟩ := hw
        obtain ⟨w34_, a34_, b34_, hP1, hK1, hD1⟩ := hB
        rw [ht] at hP1
        obtain ⟨hP, hD⟩ := va_join (wr := [((q0 43), zi k27 40 (a2_ 0)), ((q0 31), .inr (12, sf22)), ((q0 44), zi k28 40 f28), ((q0 46), zi k30 40 f30), ((q0 45), zi k29 40 f29), ((q0 38), zi k23 1300 f23), ((q0 39), zi k24 1300 f24), ((q0 40), zi k25 1300 f25), ((q0 41), zi k26 1300 f26), ((q0 56), zi k34 1300 f34), ((q0 52), zi k33 1300 f33)]) (w1 := [(h0, .inr (13, mX13 q0 (upd (upd (upd (upd (upd (upd (upd v0 32 (u11_ 0)) 33 (u11_ 1)) 35 (u34_ 0)) 36 (u34_ 1)) 37 (u34_ 2)) 47 (u2_ 2)) 60 (u11_ 5)))), ((q0 0), zi k1 600 f1)]) hP hD [0, 3] [1, 2, 4, 5, 6, 7, 8, 9, 10, 11, 12] rfl rfl (by decide) (by decide) hk1 hFc hP1 hD1
        have hP : va_P (dC, dI) vwCl [(h0, .inr (13, mX13 q0 (upd (upd (upd (upd (upd (upd (upd v0 32 (u11_ 0)) 33 (u11_ 1)) 35 (u34_ 0)) 36 (u34_ 1)) 37 (u34_ 2)) 47 (u2_ 2)) 60 (u11_ 5)))), ((q0 43), zi k27 40 (a2_ 0)), ((q0 31), .inr (12, sf22)), ((q0 0), zi k1 600 f1), ((q0 44), zi k28 40 f28), ((q0 46), zi k30 40 f30), ((q0 45), zi k29 40 f29), ((q0 38), zi k23 1300 f23), ((q0 39), zi k24 1300 f24), ((q0 40), zi k25 1300 f25), ((q0 41), zi k26 1300 f26), ((q0 56), zi k34 1300 f34), ((q0 52), zi k33 1300 f33)] H1 := hP.sub [11, 0, 1, 12, 2, 3, 4, 5, 6, 7, 8, 9, 10] rfl
        have hD : va_D A [(h0, .inr (13, mX13 q0 (upd (upd (upd (upd (upd (upd (upd v0 32 (u11_ 0)) 33 (u11_ 1)) 35 (u34_ 0)) 36 (u34_ 1)) 37 (u34_ 2)) 47 (u2_ 2)) 60 (u11_ 5)))), ((q0 43), zi k27 40 (a2_ 0)), ((q0 31), .inr (12, sf22)), ((q0 0), zi k1 600 f1), ((q0 44), zi k28 40 f28), ((q0 46), zi k30 40 f30), ((q0 45), zi k29 40 f29), ((q0 38), zi k23 1300 f23), ((q0 39), zi k24 1300 f24), ((q0 40), zi k25 1300 f25), ((q0 41), zi k26 1300 f26), ((q0 56), zi k34 1300 f34), ((q0 52), zi k33 1300 f33)] := hD.sub [11, 0, 1, 12, 2, 3, 4, 5, 6, 7, 8, 9, 10] (by decide) rfl
        generalize H1 = H at hP hS ⊢
        clear hz1
        refine lv_aload_n hx hb dX13_marksOf_37 rfl (lv_at hl 2 rfl) ?_
        refine lv_iload_n hx hb dX13_marksOf_38 rfl (lv_at hl 0 rfl) ?_
        have hPc := hP.sub (ws' := [(h0, .inr (13, mX13 q0 (upd (upd (upd (upd (upd (upd (upd v0 32 (u11_ 0)) 33 (u11_ 1)) 35 (u34_ 0)) 36 (u34_ 1)) 37 (u34_ 2)) 47 (u2_ 2)) 60 (u11_ 5)))), ((q0 0), zi k1 600 f1), ((q0 31), .inr (12, sf22))]) [0, 3, 2] rfl
        have hDc := hD.sub (ws' := [(h0, .inr (13, mX13 q0 (upd (upd (upd (upd (upd (upd (upd v0 32 (u11_ 0)) 33 (u11_ 1)) 35 (u34_ 0)) 36 (u34_ 1)) 37 (u34_ 2)) 47 (u2_ 2)) 60 (u11_ 5)))), ((q0 0), zi k1 600 f1), ((q0 31), .inr (12, sf22))]) [0, 3, 2] (by decide) rfl
        have hKc := hK.sub (tys' := [(k1, .byte)]) [1] rfl
        have hFc := va_free (wc := [(h0, .inr (13, mX13 q0 (upd (upd (upd (upd (upd (upd (upd v0 32 (u11_ 0)) 33 (u11_ 1)) 35 (u34_ 0)) 36 (u34_ 1)) 37 (u34_ 2)) 47 (u2_ 2)) 60 (u11_ 5)))), ((q0 0), zi k1 600 f1), ((q0 31), .inr (12, sf22))]) hD hS hA [0, 3, 2] rfl
        refine vx_calli (vx_runV (As := [.int r11_]) (rest := []) ⟨hx, hb, hml, hown, hG⟩ (sX13_wholeFrom_0 l dC dI adK adV h0 q0 k1 H.size (upd (upd (upd (upd (upd (upd (upd v0 32 (u11_ 0)) 33 (u11_ 1)) 35 (u34_ 0)) 36 (u34_ 1)) 37 (u34_ 2)) 47 (u2_ 2)) 60 (u11_ 5)) f1 sf22 r11_ (zR_updF (zR_up2 (zR_up2 (zR_up2 (zR_up2 (zR_updF (zR_updF hv0 32 rfl) 33 rfl) 35 (show (0 : Int) ≤ ((u34_ 0) : Int32).toInt ∧ ((u34_ 0) : Int32).toInt ≤ (600 : Int) from (by first | with_reducible assumption | exact ⟨by omega, by omega⟩))) 36 (show (0 : Int) ≤ ((u34_ 1) : Int32).toInt ∧ ((u34_ 1) : Int32).toInt ≤ (3 : Int) from (by first | with_reducible assumption | exact ⟨by omega, by omega⟩))) 37 (show (0 : Int) ≤ ((u34_ 2) : Int32).toInt ∧ ((u34_ 2) : Int32).toInt ≤ (600 : Int) from (by first | with_reducible assumption | exact ⟨by omega, by omega⟩))) 47 (show (0 : Int) ≤ ((u2_ 2) : Int32).toInt ∧ ((u2_ 2) : Int32).toInt ≤ (40 : Int) from (by first | with_reducible assumption | exact ⟨by omega, by omega⟩))) 60 rfl) (show (u34_ 1).toInt ≠ 0 → (u34_ 2).toInt < (u34_ 0).toInt from by omega) (show (u34_ 0).toInt ≤ (v0 34).toInt from by omega) (show (u34_ 2).toInt ≤ (u34_ 0).toInt from by omega)) (cwV 1 hG (zgV zv2110 zv2112 zv98 zv142 zv2113) rfl rfl rfl (by decide +kernel) ⟨Nat.le_of_ble_eq_true rfl, Nat.le_of_ble_eq_true rfl⟩) ⟨zPc_blind, va_recv hKc hPc (ci := 13) (q0 := 0) rfl rfl, zPc_pre hPc hKc hDc hE hS hFc hZ⟩ rfl rfl hl.1 rfl (lv_room (Nat.le_of_ble_eq_true rfl)) dX13_marksOf_39 ⟨Nat.le_of_ble_eq_true rfl, Nat.le_of_ble_eq_true rfl⟩) hS (fun q _ h => hFc q h) hFc (fun q _ h => hFc q h) (fun E ce q9 x39_ t H1 locs ht hvm hpx hBX hz1 hk1 hS hce hcv hcl => ?_) (fun r39_ u39_ t H1 locs ht hvm hw hB hz1 hk1 hS => ?_)
        · skip
          have b_ : (0 ≤ (x39_ 2).toInt ∧ (x39_ 2).toInt ≤ 600) ∧ (0 ≤ (x39_ 3).toInt ∧ (x39_ 3).toInt ≤ 3) ∧ (0 ≤ (x39_ 4).toInt ∧ (x39_ 4).toInt ≤ 600) := hpx
          obtain ⟨rfl, w39_, a39_, b39_, hP1, hK1, hD1⟩ := hBX
          rw [ht] at hP1
          obtain ⟨hP, hD⟩ := va_join (wr := [((q0 43), zi k27 40 (a2_ 0)), ((q0 44), zi k28 40 f28), ((q0 46), zi k30 40 f30), ((q0 45), zi k29 40 f29), ((q0 38), zi k23 1300 f23), ((q0 39), zi k24 1300 f24), ((q0 40), zi k25 1300 f25), ((q0 41), zi k26 1300 f26), ((q0 56), zi k34 1300 f34), ((q0 52), zi k33 1300 f33)]) (w1 := [(h0, .inr (13, mX13 q0 (upd (upd (upd (upd (upd (upd (upd v0 32 (x39_ 0)) 33 (x39_ 1)) 35 (x39_ 2)) 36 (x39_ 3)) 37 (x39_ 4)) 47 (u2_ 2)) 60 (x39_ 5)))), ((q0 0), zi k1 600 f1), ((q0 31), .inr (12, sf22))]) hP hD [0, 3, 2] [1, 4, 5, 6, 7, 8, 9, 10, 11, 12] rfl rfl (by decide) (by decide) hk1 hFc hP1 hD1
          have hP : va_P (dC, dI) vwCl [(h0, .inr (13, mX13 q0 (upd (upd (upd (upd (upd (upd (upd v0 32 (x39_ 0)) 33 (x39_ 1)) 35 (x39_ 2)) 36 (x39_ 3)) 37 (x39_ 4)) 47 (u2_ 2)) 60 (x39_ 5)))), ((q0 43), zi k27 40 (a2_ 0)), ((q0 31), .inr (12, sf22)), ((q0 0), zi k1 600 f1), ((q0 44), zi k28 40 f28), ((q0 46), zi k30 40 f30), ((q0 45), zi k29 40 f29), ((q0 38), zi k23 1300 f23), ((q0 39), zi k24 1300 f24), ((q0 40), zi k25 1300 f25), ((q0 41), zi k26 1300 f26), ((q0 56), zi k34 1300 f34), ((q0 52), zi k33 1300 f33)] H1 := hP.sub [10, 0, 12, 11, 1, 2, 3, 4, 5, 6, 7, 8, 9] rfl
          have hD : va_D A [(h0, .inr (13, mX13 q0 (upd (upd (upd (upd (upd (upd (upd v0 32 (x39_ 0)) 33 (x39_ 1)) 35 (x39_ 2)) 36 (x39_ 3)) 37 (x39_ 4)) 47 (u2_ 2)) 60 (x39_ 5)))), ((q0 43), zi k27 40 (a2_ 0)), ((q0 31), .inr (12, sf22)), ((q0 0), zi k1 600 f1), ((q0 44), zi k28 40 f28), ((q0 46), zi k30 40 f30), ((q0 45), zi k29 40 f29), ((q0 38), zi k23 1300 f23), ((q0 39), zi k24 1300 f24), ((q0 40), zi k25 1300 f25), ((q0 41), zi k26 1300 f26), ((q0 56), zi k34 1300 f34), ((q0 52), zi k33 1300 f33)] := hD.sub [10, 0, 12, 11, 1, 2, 3, 4, 5, 6, 7, 8, 9] (by decide) rfl
          clear hz1
          have b_ : -2147483648 ≤ (x39_ 0).toInt ∧ (x39_ 0).toInt ≤ 2147483647 := ⟨zlo _, zhi _⟩
          have b_ : -2147483648 ≤ (x39_ 1).toInt ∧ (x39_ 1).toInt ≤ 2147483647 := ⟨zlo _, zhi _⟩
          have b_ : -2147483648 ≤ (x39_ 5).toInt ∧ (x39_ 5).toInt ≤ 2147483647 := ⟨zlo _, zhi _⟩
          have hpost : (0 ≤ (x39_ 2).toInt ∧ (x39_ 2).toInt ≤ 600) ∧ (0 ≤ (x39_ 3).toInt ∧ (x39_ 3).toInt ≤ 3) ∧ (0 ≤ (x39_ 4).toInt ∧ (x39_ 4).toInt ≤ 600) ∧ (0 ≤ (v0 42).toInt ∧ (v0 42).toInt ≤ 1300) ∧ (1 ≤ (u2_ 2).toInt ∧ (u2_ 2).toInt ≤ 40) ∧ (0 ≤ (v0 53).toInt ∧ (v0 53).toInt ≤ 1300) := ⟨(by first | with_reducible assumption | exact ⟨by omega, by omega⟩), (by first | with_reducible assumption | exact ⟨by omega, by omega⟩), (by first | with_reducible assumption | exact ⟨by omega, by omega⟩), (by first | with_reducible assumption | exact ⟨by omega, by omega⟩), (by first | with_reducible assumption | exact ⟨by omega, by omega⟩), (by first | with_reducible assumption | exact ⟨by omega, by omega⟩)⟩
          have hP9 : va_P (dC, dI) vwCl [(h0, .inr (13, mX13 q0 (upd (upd (upd (upd (upd (upd (upd (upd (upd v0 32 (x39_ 0)) 33 (x39_ 1)) 35 (x39_ 2)) 36 (x39_ 3)) 37 (x39_ 4)) 42 (v0 42)) 47 (u2_ 2)) 53 (v0 53)) 60 (x39_ 5)))), ((q0 43), zi k27 40 (a2_ 0)), ((q0 31), .inr (12, sf22)), ((q0 0), zi k1 600 f1), ((q0 44), zi k28 40 f28), ((q0 46), zi k30 40 f30), ((q0 45), zi k29 40 f29), ((q0 38), zi k23 1300 f23), ((q0 39), zi k24 1300 f24), ((q0 40), zi k25 1300 f25), ((q0 41), zi k26 1300 f26), ((q0 56), zi k34 1300 f34), ((q0 52), zi k33 1300 f33)] H1 := hP
          have hD9 : va_D A [(h0, .inr (13, mX13 q0 (upd (upd (upd (upd (upd (upd (upd (upd (upd v0 32 (x39_ 0)) 33 (x39_ 1)) 35 (x39_ 2)) 36 (x39_ 3)) 37 (x39_ 4)) 42 (v0 42)) 47 (u2_ 2)) 53 (v0 53)) 60 (x39_ 5)))), ((q0 43), zi k27 40 (a2_ 0)), ((q0 31), .inr (12, sf22)), ((q0 0), zi k1 600 f1), ((q0 44), zi k28 40 f28), ((q0 46), zi k30 40 f30), ((q0 45), zi k29 40 f29), ((q0 38), zi k23 1300 f23), ((q0 39), zi k24 1300 f24), ((q0 40), zi k25 1300 f25), ((q0 41), zi k26 1300 f26), ((q0 56), zi k34 1300 f34), ((q0 52), zi k33 1300 f33)] := hD
          exact vx_out (fun x h => (hout x h).elim) hlocks hce hcv hcl (fun t ht hvm => ⟨(fun i => ([(x39_ 0), (x39_ 1), (x39_ 2), (x39_ 3), (x39_ 4), (v0 42), (u2_ 2), (v0 53), (x39_ 5)] : List (Int32)).getD i 0), hpost, ⟨rfl, (fun _ => 0), (fun i => ([(a2_ 0), f28, f30, f23, f24, f25, f26, f34, f33] : List (Nat → Int32)).getD i (fun _ => 0)), (fun _ => (fun _ => 0)), hf24, hf25, by rw [ht]; exact hP9, va_K.moved hvm hK, hD9⟩, hS.F ht⟩) hS.2.2 (by decide) (by decide)
        · skip
          replace hw : (0 ≤ (u39_ 2).toInt ∧ (u39_ 2).toInt ≤ 600) ∧ (0 ≤ (u39_ 3).toInt ∧ (u39_ 3).toInt ≤ 3) ∧ (0 ≤ (u39_ 4).toInt ∧ (u39_ 4).toInt ≤ 600) ∧ (0 ≤ (u39_ 5).toInt ∧ (u39_ 5).toInt ≤ 600) ∧ ((u39_ 3).toInt ≠ 0 → (u39_ 4).toInt < (u39_ 2).toInt) ∧ ((u39_ 2).toInt ≤ (v0 34).toInt) ∧ ((u39_ 4).toInt ≤ (u39_ 2).toInt) ∧ ((u34_ 2).toInt ≤ (u39_ 4).toInt) := hw
          obtain ⟨b_, b_, b_, b_, hX39_0, hX39_1, hX39_2, hX39_3⟩ := hw
          obtain ⟨w39_, a39_, b39_, hP1, hK1, hD1⟩ := hB
          rw [ht] at hP1
          obtain ⟨hP, hD⟩ := va_join (wr := [((q0 43), zi k27 40 (a2_ 0)), ((q0 44), zi k28 40 f28), ((q0 46), zi k30 40 f30), ((q0 45), zi k29 40 f29), ((q0 38), zi k23 1300 f23), ((q0 39), zi k24 1300 f24), ((q0 40), zi k25 1300 f25), ((q0 41), zi k26 1300 f26), ((q0 56), zi k34 1300 f34), ((q0 52), zi k33 1300 f33)]) (w1 := [(h0, .inr (13, mX13 q0 (upd (upd (upd (upd (upd (upd (upd v0 32 (u39_ 0)) 33 (u39_ 1)) 35 (u39_ 2)) 36 (u39_ 3)) 37 (u39_ 4)) 47 (u2_ 2)) 60 (u39_ 5)))), ((q0 0), zi k1 600 f1), ((q0 31), .inr (12, sf22))]) hP hD [0, 3, 2] [1, 4, 5, 6, 7, 8, 9, 10, 11, 12] rfl rfl (by decide) (by decide) hk1 hFc hP1 hD1
          have hP : va_P (dC, dI) vwCl [(h0, .inr (13, mX13 q0 (upd (upd (upd (upd (upd (upd (upd v0 32 (u39_ 0)) 33 (u39_ 1)) 35 (u39_ 2)) 36 (u39_ 3)) 37 (u39_ 4)) 47 (u2_ 2)) 60 (u39_ 5)))), ((q0 43), zi k27 40 (a2_ 0)), ((q0 31), .inr (12, sf22)), ((q0 0), zi k1 600 f1), ((q0 44), zi k28 40 f28), ((q0 46), zi k30 40 f30), ((q0 45), zi k29 40 f29), ((q0 38), zi k23 1300 f23), ((q0 39), zi k24 1300 f24), ((q0 40), zi k25 1300 f25), ((q0 41), zi k26 1300 f26), ((q0 56), zi k34 1300 f34), ((q0 52), zi k33 1300 f33)] H1 := hP.sub [10, 0, 12, 11, 1, 2, 3, 4, 5, 6, 7, 8, 9] rfl
          have hD : va_D A [(h0, .inr (13, mX13 q0 (upd (upd (upd (upd (upd (upd (upd v0 32 (u39_ 0)) 33 (u39_ 1)) 35 (u39_ 2)) 36 (u39_ 3)) 37 (u39_ 4)) 47 (u2_ 2)) 60 (u39_ 5)))), ((q0 43), zi k27 40 (a2_ 0)), ((q0 31), .inr (12, sf22)), ((q0 0), zi k1 600 f1), ((q0 44), zi k28 40 f28), ((q0 46), zi k30 40 f30), ((q0 45), zi k29 40 f29), ((q0 38), zi k23 1300 f23), ((q0 39), zi k24 1300 f24), ((q0 40), zi k25 1300 f25), ((q0 41), zi k26 1300 f26), ((q0 56), zi k34 1300 f34), ((q0 52), zi k33 1300 f33)] := hD.sub [10, 0, 12, 11, 1, 2, 3, 4, 5, 6, 7, 8, 9] (by decide) rfl
          generalize H1 = H at hP hS ⊢
          clear hz1
          refine lv_istore_n (lv' := [(3, .int r39_), (2, .int r11_), (1, .int r2_), (0, .ref h0)]) hx hb dX13_marksOf_42 rfl hl (by decide) rfl (fun ls hl => ?_)
          refine lv_aload_n hx hb dX13_marksOf_43 rfl (lv_at hl 3 rfl) ?_
          refine lv_bipush (v := 93) hx hb dX13_marksOf_44 (by decide) ?_
          have b_ : -2147483648 ≤ (u39_ 0).toInt ∧ (u39_ 0).toInt ≤ 2147483647 := ⟨zlo _, zhi _⟩
          have b_ : -2147483648 ≤ (u39_ 1).toInt ∧ (u39_ 1).toInt ≤ 2147483647 := ⟨zlo _, zhi _⟩
          have hPc := hP.sub (ws' := [(h0, .inr (13, mX13 q0 (upd (upd (upd (upd (upd (upd (upd v0 32 (u39_ 0)) 33 (u39_ 1)) 35 (u39_ 2)) 36 (u39_ 3)) 37 (u39_ 4)) 47 (u2_ 2)) 60 (u39_ 5)))), ((q0 0), zi k1 600 f1)]) [0, 3] rfl
          have hDc := hD.sub (ws' := [(h0, .inr (13, mX13 q0 (upd (upd (upd (upd (upd (upd (upd v0 32 (u39_ 0)) 33 (u39_ 1)) 35 (u39_ 2)) 36 (u39_ 3)) 37 (u39_ 4)) 47 (u2_ 2)) 60 (u39_ 5)))), ((q0 0), zi k1 600 f1)]) [0, 3] (by decide) rfl
          have hKc := hK.sub (tys' := [(k1, .byte)]) [1] rfl
          have hFc := va_free (wc := [(h0, .inr (13, mX13 q0 (upd (upd (upd (upd (upd (upd (upd v0 32 (u39_ 0)) 33 (u39_ 1)) 35 (u39_ 2)) 36 (u39_ 3)) 37 (u39_ 4)) 47 (u2_ 2)) 60 (u39_ 5)))), ((q0 0), zi k1 600 f1)]) hD hS hA [0, 3] rfl
          refine va_calli (va_runV (As := [.int 93]) (rest := []) ⟨hx, hb, hml, hown, hG⟩ (sX13_isSign_0 l dC dI adK adV h0 q0 k1 H.size (upd (upd (upd (upd (upd (upd (upd v0 32 (u39_ 0)) 33 (u39_ 1)) 35 (u39_ 2)) 36 (u39_ 3)) 37 (u39_ 4)) 47 (u2_ 2)) 60 (u39_ 5)) f1 93 (zR_updF (zR_up2 (zR_up2 (zR_up2 (zR_up2 (zR_updF (zR_updF hv0 32 rfl) 33 rfl) 35 (show (0 : Int) ≤ ((u39_ 2) : Int32).toInt ∧ ((u39_ 2) : Int32).toInt ≤ (600 : Int) from (by first | with_reducible assumption | exact ⟨by omega, by omega⟩))) 36 (show (0 : Int) ≤ ((u39_ 3) : Int32).toInt ∧ ((u39_ 3) : Int32).toInt ≤ (3 : Int) from (by first | with_reducible assumption | exact ⟨by omega, by omega⟩))) 37 (show (0 : Int) ≤ ((u39_ 4) : Int32).toInt ∧ ((u39_ 4) : Int32).toInt ≤ (600 : Int) from (by first | with_reducible assumption | exact ⟨by omega, by omega⟩))) 47 (show (0 : Int) ≤ ((u2_ 2) : Int32).toInt ∧ ((u2_ 2) : Int32).toInt ≤ (40 : Int) from (by first | with_reducible assumption | exact ⟨by omega, by omega⟩))) 60 rfl) (show (u39_ 3).toInt ≠ 0 → (u39_ 4).toInt < (v0 34).toInt from by omega)) (cwV 1 hG (zgV zv2094 zv2096 zv94 zv142 zv2097) rfl rfl rfl (by decide +kernel) ⟨Nat.le_of_ble_eq_true rfl, Nat.le_of_ble_eq_true rfl⟩) ⟨zPc_blind, va_recv hKc hPc (ci := 13) (q0 := 0) rfl rfl, zPc_pre hPc hKc hDc hE hS hFc hZ⟩ rfl rfl hl.1 rfl (lv_room (Nat.le_of_ble_eq_true rfl)) dX13_marksOf_46 ⟨Nat.le_of_ble_eq_true rfl, Nat.le_of_ble_eq_true rfl⟩) hS (fun q _ h => hFc q h) hFc (fun r46_ u46_ t H1 locs ht hvm hw hB hz1 hk1 hS => ?_)
          replace hw : (0 ≤ r46_.toInt ∧ r46_.toInt ≤ 1) ∧ (r46_.toInt = 1 → (u39_ 3).toInt = 2) := hw
          obtain ⟨b_, hX46_0⟩ := hw
          obtain ⟨w46_, a46_, b46_, hP1, hK1, hD1⟩ := hB
          rw [ht] at hP1
          obtain ⟨hP, hD⟩ := va_join (wr := [((q0 43), zi k27 40 (a2_ 0)), ((q0 31), .inr (12, sf22)), ((q0 44), zi k28 40 f28), ((q0 46), zi k30 40 f30), ((q0 45), zi k29 40 f29), ((q0 38), zi k23 1300 f23), ((q0 39), zi k24 1300 f24), ((q0 40), zi k25 1300 f25), ((q0 41), zi k26 1300 f26), ((q0 56), zi k34 1300 f34), ((q0 52), zi k33 1300 f33)]) (w1 := [(h0, .inr (13, mX13 q0 (upd (upd (upd (upd (upd (upd (upd v0 32 (u39_ 0)) 33 (u39_ 1)) 35 (u39_ 2)) 36 (u39_ 3)) 37 (u39_ 4)) 47 (u2_ 2)) 60 (u39_ 5)))), ((q0 0), zi k1 600 f1)]) hP hD [0, 3] [1, 2, 4, 5, 6, 7, 8, 9, 10, 11, 12] rfl rfl (by decide) (by decide) hk1 hFc hP1 hD1
          have hP : va_P (dC, dI) vwCl [(h0, .inr (13, mX13 q0 (upd (upd (upd (upd (upd (upd (upd v0 32 (u39_ 0)) 33 (u39_ 1)) 35 (u39_ 2)) 36 (u39_ 3)) 37 (u39_ 4)) 47 (u2_ 2)) 60 (u39_ 5)))), ((q0 43), zi k27 40 (a2_ 0)), ((q0 31), .inr (12, sf22)), ((q0 0), zi k1 600 f1), ((q0 44), zi k28 40 f28), ((q0 46), zi k30 40 f30), ((q0 45), zi k29 40 f29), ((q0 38), zi k23 1300 f23), ((q0 39), zi k24 1300 f24), ((q0 40), zi k25 1300 f25), ((q0 41), zi k26 1300 f26), ((q0 56), zi k34 1300 f34), ((q0 52), zi k33 1300 f33)] H1 := hP.sub [11, 0, 1, 12, 2, 3, 4, 5, 6, 7, 8, 9, 10] rfl
          have hD : va_D A [(h0, .inr (13, mX13 q0 (upd (upd (upd (upd (upd (upd (upd v0 32 (u39_ 0)) 33 (u39_ 1)) 35 (u39_ 2)) 36 (u39_ 3)) 37 (u39_ 4)) 47 (u2_ 2)) 60 (u39_ 5)))), ((q0 43), zi k27 40 (a2_ 0)), ((q0 31), .inr (12, sf22)), ((q0 0), zi k1 600 f1), ((q0 44), zi k28 40 f28), ((q0 46), zi k30 40 f30), ((q0 45), zi k29 40 f29), ((q0 38), zi k23 1300 f23), ((q0 39), zi k24 1300 f24), ((q0 40), zi k25 1300 f25), ((q0 41), zi k26 1300 f26), ((q0 56), zi k34 1300 f34), ((q0 52), zi k33 1300 f33)] := hD.sub [11, 0, 1, 12, 2, 3, 4, 5, 6, 7, 8, 9, 10] (by decide) rfl
          generalize H1 = H at hP hS ⊢
          clear hz1
          refine lv_if_ne (tgt := 62) hx hb dX13_marksOf_49 (by decide) (fun c_ => ?_) (fun c_ => ?_)
          · skip
            have b_ := zT_ne rfl zk_0 c_
            refine lv_aload_n hx hb dX13_marksOf_62 rfl (lv_at hl 3 rfl) ?_
            have hPc := hP.sub (ws' := [(h0, .inr (13, mX13 q0 (upd (upd (upd (upd (upd (upd (upd v0 32 (u39_ 0)) 33 (u39_ 1)) 35 (u39_ 2)) 36 (u39_ 3)) 37 (u39_ 4)) 47 (u2_ 2)) 60 (u39_ 5)))), ((q0 0), zi k1 600 f1)]) [0, 3] rfl
            have hDc := hD.sub (ws' := [(h0, .inr (13, mX13 q0 (upd (upd (upd (upd (upd (upd (upd v0 32 (u39_ 0)) 33 (u39_ 1)) 35 (u39_ 2)) 36 (u39_ 3)) 37 (u39_ 4)) 47 (u2_ 2)) 60 (u39_ 5)))), ((q0 0), zi k1 600 f1)]) [0, 3] (by decide) rfl
            have hKc := hK.sub (tys' := [(k1, .byte)]) [1] rfl
            have hFc := va_free (wc := [(h0, .inr (13, mX13 q0 (upd (upd (upd (upd (upd (upd (upd v0 32 (u39_ 0)) 33 (u39_ 1)) 35 (u39_ 2)) 36 (u39_ 3)) 37 (u39_ 4)) 47 (u2_ 2)) 60 (u39_ 5)))), ((q0 0), zi k1 600 f1)]) hD hS hA [0, 3] rfl
            refine va_callv (va_runV (As := []) (rest := []) ⟨hx, hb, hml, hown, hG⟩ (sX13_look1_0 l dC dI adK adV h0 q0 k1 H.size (upd (upd (upd (upd (upd (upd (upd v0 32 (u39_ 0)) 33 (u39_ 1)) 35 (u39_ 2)) 36 (u39_ 3)) 37 (u39_ 4)) 47 (u2_ 2)) 60 (u39_ 5)) f1 (zR_updF (zR_up2 (zR_up2 (zR_up2 (zR_up2 (zR_updF (zR_updF hv0 32 rfl) 33 rfl) 35 (show (0 : Int) ≤ ((u39_ 2) : Int32).toInt ∧ ((u39_ 2) : Int32).toInt ≤ (600 : Int) from (by first | with_reducible assumption | exact ⟨by omega, by omega⟩))) 36 (show (0 : Int) ≤ ((u39_ 3) : Int32).toInt ∧ ((u39_ 3) : Int32).toInt ≤ (3 : Int) from (by first | with_reducible assumption | exact ⟨by omega, by omega⟩))) 37 (show (0 : Int) ≤ ((u39_ 4) : Int32).toInt ∧ ((u39_ 4) : Int32).toInt ≤ (600 : Int) from (by first | with_reducible assumption | exact ⟨by omega, by omega⟩))) 47 (show (0 : Int) ≤ ((u2_ 2) : Int32).toInt ∧ ((u2_ 2) : Int32).toInt ≤ (40 : Int) from (by first | with_reducible assumption | exact ⟨by omega, by omega⟩))) 60 rfl) (show (u39_ 2).toInt ≤ (v0 34).toInt from by omega)) (cwV 0 hG (zgV zv2042 zv2044 zv81 zv142 zv2045) rfl rfl rfl (by decide +kernel) ⟨Nat.le_of_ble_eq_true rfl, Nat.le_of_ble_eq_true rfl⟩) ⟨zPc_blind, va_recv hKc hPc (ci := 13) (q0 := 0) rfl rfl, zPc_pre hPc hKc hDc hE hS hFc hZ⟩ rfl rfl hl.1 rfl (lv_room (Nat.le_of_ble_eq_true rfl)) dX13_marksOf_63 ⟨Nat.le_of_ble_eq_true rfl, Nat.le_of_ble_eq_true rfl⟩) hS (fun q _ h => hFc q h) hFc (fun u63_ t H1 locs ht hvm hw hB hz1 hk1 hS => ?_)
            replace hw : (0 ≤ (u63_ 0).toInt ∧ (u63_ 0).toInt ≤ 600) ∧ (0 ≤ (u63_ 1).toInt ∧ (u63_ 1).toInt ≤ 3) ∧ (0 ≤ (u63_ 2).toInt ∧ (u63_ 2).toInt ≤ 600) ∧ ((u63_ 0).toInt ≤ (v0 34).toInt) ∧ ((u39_ 2).toInt ≤ (u63_ 2).toInt) ∧ ((u63_ 2).toInt ≤ (u63_ 0).toInt) ∧ ((u63_ 1).toInt ≠ 0 → (u63_ 2).toInt < (u63_ 0).toInt) ∧ ((u63_ 1).toInt = 0 → (u63_ 2).toInt = (v0 34).toInt) := hw
            obtain ⟨b_, b_, b_, hX63_0, hX63_1, hX63_2, hX63_3, hX63_4⟩ := hw
            obtain ⟨w63_, a63_, b63_, hP1, hK1, hD1⟩ := hB
            rw [ht] at hP1
            obtain ⟨hP, hD⟩ := va_join (wr := [((q0 43), zi k27 40 (a2_ 0)), ((q0 31), .inr (12, sf22)), ((q0 44), zi k28 40 f28), ((q0 46), zi k30 40 f30), ((q0 45), zi k29 40 f29), ((q0 38), zi k23 1300 f23), ((q0 39), zi k24 1300 f24), ((q0 40), zi k25 1300 f25), ((q0 41), zi k26 1300 f26), ((q0 56), zi k34 1300 f34), ((q0 52), zi k33 1300 f33)]) (w1 := [(h0, .inr (13, mX13 q0 (upd (upd (upd (upd (upd (upd (upd v0 32 (u39_ 0)) 33 (u39_ 1)) 35 (u63_ 0)) 36 (u63_ 1)) 37 (u63_ 2)) 47 (u2_ 2)) 60 (u39_ 5)))), ((q0 0), zi k1 600 f1)]) hP hD [0, 3] [1, 2, 4, 5, 6, 7, 8, 9, 10, 11, 12] rfl rfl (by decide) (by decide) hk1 hFc hP1 hD1
            have hP : va_P (dC, dI) vwCl [(h0, .inr (13, mX13 q0 (upd (upd (upd (upd (upd (upd (upd v0 32 (u39_ 0)) 33 (u39_ 1)) 35 (u63_ 0)) 36 (u63_ 1)) 37 (u63_ 2)) 47 (u2_ 2)) 60 (u39_ 5)))), ((q0 43), zi k27 40 (a2_ 0)), ((q0 31), .inr (12, sf22)), ((q0 0), zi k1 600 f1), ((q0 44), zi k28 40 f28), ((q0 46), zi k30 40 f30), ((q0 45), zi k29 40 f29), ((q0 38), zi k23 1300 f23), ((q0 39), zi k24 1300 f24), ((q0 40), zi k25 1300 f25), ((q0 41), zi k26 1300 f26), ((q0 56), zi k34 1300 f34), ((q0 52), zi k33 1300 f33)] H1 := hP.sub [11, 0, 1, 12, 2, 3, 4, 5, 6, 7, 8, 9, 10] rfl
            have hD : va_D A [(h0, .inr (13, mX13 q0 (upd (upd (upd (upd (upd (upd (upd v0 32 (u39_ 0)) 33 (u39_ 1)) 35 (u63_ 0)) 36 (u63_ 1)) 37 (u63_ 2)) 47 (u2_ 2)) 60 (u39_ 5)))), ((q0 43), zi k27 40 (a2_ 0)), ((q0 31), .inr (12, sf22)), ((q0 0), zi k1 600 f1), ((q0 44), zi k28 40 f28), ((q0 46), zi k30 40 f30), ((q0 45), zi k29 40 f29), ((q0 38), zi k23 1300 f23), ((q0 39), zi k24 1300 f24), ((q0 40), zi k25 1300 f25), ((q0 41), zi k26 1300 f26), ((q0 56), zi k34 1300 f34), ((q0 52), zi k33 1300 f33)] := hD.sub [11, 0, 1, 12, 2, 3, 4, 5, 6, 7, 8, 9, 10] (by decide) rfl
            generalize H1 = H at hP hS ⊢
            clear hz1
            refine lv_aload_n hx hb dX13_marksOf_66 rfl (lv_at hl 3 rfl) ?_
            refine va_get (D := (dC, dI)) (ci := 13) (v := .ref (q0 44)) (C := RX13) (T := TX13) (N := 75) hx hb hG zuX13 hown hK hP 0 rfl rfl 44 (by decide) (hG _ zv1648) (fun _ h9 => h9) rfl dX13_marksOf_67 ?_
            refine lv_iload_n hx hb dX13_marksOf_70 rfl (lv_at hl 2 rfl) ?_
            refine lv_iload_n hx hb dX13_marksOf_71 rfl (lv_at hl 1 rfl) ?_
            refine va_iast hx hb hK hP hD hS 4 2 rfl rfl (zin_lit ⟨by omega, by omega⟩) dX13_marksOf_72 (fun H locs hP hD hS => ?_)
            obtain ⟨f_72, e_f_72⟩ : ∃ z : Nat → Int32, z = upd f28 (r2_ : Int32).toNatClampNeg r11_ := ⟨_, rfl⟩
            have hP : va_P (dC, dI) vwCl [(h0, .inr (13, mX13 q0 (upd (upd (upd (upd (upd (upd (upd v0 32 (u39_ 0)) 33 (u39_ 1)) 35 (u63_ 0)) 36 (u63_ 1)) 37 (u63_ 2)) 47 (u2_ 2)) 60 (u39_ 5)))), ((q0 43), zi k27 40 (a2_ 0)), ((q0 31), .inr (12, sf22)), ((q0 0), zi k1 600 f1), ((q0 44), zi k28 40 f_72), ((q0 46), zi k30 40 f30), ((q0 45), zi k29 40 f29), ((q0 38), zi k23 1300 f23), ((q0 39), zi k24 1300 f24), ((q0 40), zi k25 1300 f25), ((q0 41), zi k26 1300 f26), ((q0 56), zi k34 1300 f34), ((q0 52), zi k33 1300 f33)] H := by rw [e_f_72]; exact hP
            have hD : va_D A [(h0, .inr (13, mX13 q0 (upd (upd (upd (upd (upd (upd (upd v0 32 (u39_ 0)) 33 (u39_ 1)) 35 (u63_ 0)) 36 (u63_ 1)) 37 (u63_ 2)) 47 (u2_ 2)) 60 (u39_ 5)))), ((q0 43), zi k27 40 (a2_ 0)), ((q0 31), .inr (12, sf22)), ((q0 0), zi k1 600 f1), ((q0 44), zi k28 40 f_72), ((q0 46), zi k30 40 f30), ((q0 45), zi k29 40 f29), ((q0 38), zi k23 1300 f23), ((q0 39), zi k24 1300 f24), ((q0 40), zi k25 1300 f25), ((q0 41), zi k26 1300 f26), ((q0 56), zi k34 1300 f34), ((q0 52), zi k33 1300 f33)] := by rw [e_f_72]; exact hD
            refine lv_aload_n hx hb dX13_marksOf_73 rfl (lv_at hl 3 rfl) ?_
            refine va_get (D := (dC, dI)) (ci := 13) (v := .ref (q0 46)) (C := RX13) (T := TX13) (N := 75) hx hb hG zuX13 hown hK hP 0 rfl rfl 46 (by decide) (hG _ zv1650) (fun _ h9 => h9) rfl dX13_marksOf_74 ?_
            refine lv_iload_n hx hb dX13_marksOf_77 rfl (lv_at hl 2 rfl) ?_
            refine lv_iload_n hx hb dX13_marksOf_78 rfl (lv_at hl 0 rfl) ?_
            refine va_iast hx hb hK hP hD hS 5 3 rfl rfl (zin_lit ⟨by omega, by omega⟩) dX13_marksOf_79 (fun H locs hP hD hS => ?_)
            obtain ⟨f_79, e_f_79⟩ : ∃ z : Nat → Int32, z = upd f30 (r2_ : Int32).toNatClampNeg r39_ := ⟨_, rfl⟩
            have hP : va_P (dC, dI) vwCl [(h0, .inr (13, mX13 q0 (upd (upd (upd (upd (upd (upd (upd v0 32 (u39_ 0)) 33 (u39_ 1)) 35 (u63_ 0)) 36 (u63_ 1)) 37 (u63_ 2)) 47 (u2_ 2)) 60 (u39_ 5)))), ((q0 43), zi k27 40 (a2_ 0)), ((q0 31), .inr (12, sf22)), ((q0 0), zi k1 600 f1), ((q0 44), zi k28 40 f_72), ((q0 46), zi k30 40 f_79), ((q0 45), zi k29 40 f29), ((q0 38), zi k23 1300 f23), ((q0 39), zi k24 1300 f24), ((q0 40), zi k25 1300 f25), ((q0 41), zi k26 1300 f26), ((q0 56), zi k34 1300 f34), ((q0 52), zi k33 1300 f33)] H := by rw [e_f_79]; exact hP
            have hD : va_D A [(h0, .inr (13, mX13 q0 (upd (upd (upd (upd (upd (upd (upd v0 32 (u39_ 0)) 33 (u39_ 1)) 35 (u63_ 0)) 36 (u63_ 1)) 37 (u63_ 2)) 47 (u2_ 2)) 60 (u39_ 5)))), ((q0 43), zi k27 40 (a2_ 0)), ((q0 31), .inr (12, sf22)), ((q0 0), zi k1 600 f1), ((q0 44), zi k28 40 f_72), ((q0 46), zi k30 40 f_79), ((q0 45), zi k29 40 f29), ((q0 38), zi k23 1300 f23), ((q0 39), zi k24 1300 f24), ((q0 40), zi k25 1300 f25), ((q0 41), zi k26 1300 f26), ((q0 56), zi k34 1300 f34), ((q0 52), zi k33 1300 f33)] := by rw [e_f_79]; exact hD
            refine lv_aload_n hx hb dX13_marksOf_80 rfl (lv_at hl 3 rfl) ?_
            refine lv_iload_n hx hb dX13_marksOf_81 rfl (lv_at hl 2 rfl) ?_
            have hr2 : r2_ = (v0 47) := zeqi.mpr (by omega)
            have hlf : zLf (a2_ 0) f_72 f29 (u2_ 2).toInt := by
              rw [show (u2_ 2).toInt = (v0 47).toInt + 1 from by omega]
              refine zLf_push (lv := (v0 47)) (by assumption) rfl (by omega) (fun j hj => ?_) (fun j hj => ?_) (fun j hj => ?_) ?_
              · simp only [hB2_0, hr2, e_f_72, pk_un hj]
              · simp only [hB2_0, hr2, e_f_72, pk_un hj]
              · simp only [hB2_0, hr2, e_f_72, pk_un hj]
              · simp only [hB2_0, hr2, e_f_72, pk_us]
                exact ⟨⟨by omega, by omega⟩, fun q => by omega⟩
            have htr : zTr f23 f24 f25 f26 (v0 42).toInt (u2_ 2).toInt := zTr_mono (by assumption) (by omega)
            have hPc := hP.sub (ws' := [(h0, .inr (13, mX13 q0 (upd (upd (upd (upd (upd (upd (upd v0 32 (u39_ 0)) 33 (u39_ 1)) 35 (u63_ 0)) 36 (u63_ 1)) 37 (u63_ 2)) 47 (u2_ 2)) 60 (u39_ 5)))), ((q0 43), zi k27 40 (a2_ 0)), ((q0 38), zi k23 1300 f23), ((q0 39), zi k24 1300 f24), ((q0 40), zi k25 1300 f25), ((q0 41), zi k26 1300 f26), ((q0 56), zi k34 1300 f34), ((q0 52), zi k33 1300 f33), ((q0 44), zi k28 40 f_72), ((q0 45), zi k29 40 f29)]) [0, 1, 7, 8, 9, 10, 11, 12, 4, 6] rfl
            have hDc := hD.sub (ws' := [(h0, .inr (13, mX13 q0 (upd (upd (upd (upd (upd (upd (upd v0 32 (u39_ 0)) 33 (u39_ 1)) 35 (u63_ 0)) 36 (u63_ 1)) 37 (u63_ 2)) 47 (u2_ 2)) 60 (u39_ 5)))), ((q0 43), zi k27 40 (a2_ 0)), ((q0 38), zi k23 1300 f23), ((q0 39), zi k24 1300 f24), ((q0 40), zi k25 1300 f25), ((q0 41), zi k26 1300 f26), ((q0 56), zi k34 1300 f34), ((q0 52), zi k33 1300 f33), ((q0 44), zi k28 40 f_72), ((q0 45), zi k29 40 f29)]) [0, 1, 7, 8, 9, 10, 11, 12, 4, 6] (by decide) rfl
            have hKc := hK.sub (tys' := [(k27, .int), (k23, .int), (k24, .int), (k25, .int), (k26, .int), (k34, .boolean), (k33, .int), (k28, .int), (k29, .int)]) [0, 5, 6, 7, 8, 9, 10, 2, 4] rfl
            have hFc := va_free (wc := [(h0, .inr (13, mX13 q0 (upd (upd (upd (upd (upd (upd (upd v0 32 (u39_ 0)) 33 (u39_ 1)) 35 (u63_ 0)) 36 (u63_ 1)) 37 (u63_ 2)) 47 (u2_ 2)) 60 (u39_ 5)))), ((q0 43), zi k27 40 (a2_ 0)), ((q0 38), zi k23 1300 f23), ((q0 39), zi k24 1300 f24), ((q0 40), zi k25 1300 f25), ((q0 41), zi k26 1300 f26), ((q0 56), zi k34 1300 f34), ((q0 52), zi k33 1300 f33), ((q0 44), zi k28 40 f_72), ((q0 45), zi k29 40 f29)]) hD hS hA [0, 1, 7, 8, 9, 10, 11, 12, 4, 6] rfl
            refine va_calli (va_runV (As := [.int r2_]) (rest := []) ⟨hx, hb, hml, hown, hG⟩ (sX13_leafNode_0 l dC dI adK adV h0 q0 k27 k23 k24 k25 k26 k34 k33 k28 k29 H.size (upd (upd (upd (upd (upd (upd (upd v0 32 (u39_ 0)) 33 (u39_ 1)) 35 (u63_ 0)) 36 (u63_ 1)) 37 (u63_ 2)) 47 (u2_ 2)) 60 (u39_ 5)) (a2_ 0) f23 f24 f25 f26 f34 f33 f_72 f29 r2_ (zR_updF (zR_up2 (zR_up2 (zR_up2 (zR_up2 (zR_updF (zR_updF hv0 32 rfl) 33 rfl) 35 (show (0 : Int) ≤ ((u63_ 0) : Int32).toInt ∧ ((u63_ 0) : Int32).toInt ≤ (600 : Int) from (by first | with_reducible assumption | exact ⟨by omega, by omega⟩))) 36 (show (0 : Int) ≤ ((u63_ 1) : Int32).toInt ∧ ((u63_ 1) : Int32).toInt ≤ (3 : Int) from (by first | with_reducible assumption | exact ⟨by omega, by omega⟩))) 37 (show (0 : Int) ≤ ((u63_ 2) : Int32).toInt ∧ ((u63_ 2) : Int32).toInt ≤ (600 : Int) from (by first | with_reducible assumption | exact ⟨by omega, by omega⟩))) 47 (show (0 : Int) ≤ ((u2_ 2) : Int32).toInt ∧ ((u2_ 2) : Int32).toInt ≤ (40 : Int) from (by first | with_reducible assumption | exact ⟨by omega, by omega⟩))) 60 rfl) hf24 hf25 (show (0 : Int) ≤ (r2_ : Int32).toInt ∧ (r2_ : Int32).toInt ≤ (39 : Int) from (by first | with_reducible assumption | exact ⟨by omega, by omega⟩)) (show (v0 42).toInt ≤ 1299 from by omega) (show (v0 53).toInt ≤ 1299 from by omega) (show zTr f23 f24 f25 f26 (v0 42).toInt (u2_ 2).toInt from by first | with_reducible assumption | assumption) (show zLf (a2_ 0) f_72 f29 (u2_ 2).toInt from by first | with_reducible assumption | assumption) (show r2_.toInt < (u2_ 2).toInt from by omega)) (cwV 1 hG (zgV zv2114 zv2116 zv99 zv142 zv2117) rfl rfl rfl (by decide +kernel) ⟨Nat.le_of_ble_eq_true rfl, Nat.le_of_ble_eq_true rfl⟩) ⟨zPc_blind, va_recv hKc hPc (ci := 13) (q0 := 0) rfl rfl, zPc_pre hPc hKc hDc hE hS hFc hZ⟩ rfl rfl hl.1 rfl (lv_room (Nat.le_of_ble_eq_true rfl)) dX13_marksOf_82 ⟨Nat.le_of_ble_eq_true rfl, Nat.le_of_ble_eq_true rfl⟩) hS (fun q _ h => hFc q h) hFc (fun r82_ u82_ t H1 locs ht hvm hw hB hz1 hk1 hS => ?_)
            replace hw : (0 ≤ r82_.toInt ∧ r82_.toInt ≤ 1299) ∧ (1 ≤ (u82_ 0).toInt ∧ (u82_ 0).toInt ≤ 1300) ∧ (1 ≤ (u82_ 1).toInt ∧ (u82_ 1).toInt ≤ 1300) ∧ (r82_.toInt = (v0 42).toInt) ∧ ((u82_ 0).toInt = (v0 42).toInt + 1) ∧ ((u82_ 1).toInt = (v0 53).toInt + 1) := hw
            obtain ⟨b_, b_, b_, hX82_0, hX82_1, hX82_2⟩ := hw
            obtain ⟨w82_, a82_, b82_, ha82_1, ha82_2, hB82_0, hP1, hK1, hD1⟩ := hB
            have hB82_0 : zTr (a82_ 0) (a82_ 1) (a82_ 2) (a82_ 3) (u82_ 0).toInt (u2_ 2).toInt := hB82_0
            rw [ht] at hP1
            obtain ⟨hP, hD⟩ := va_join (wr := [((q0 31), .inr (12, sf22)), ((q0 0), zi k1 600 f1), ((q0 46), zi k30 40 f_79)]) (w1 := [(h0, .inr (13, mX13 q0 (upd (upd (upd (upd (upd (upd (upd (upd (upd v0 32 (u39_ 0)) 33 (u39_ 1)) 35 (u63_ 0)) 36 (u63_ 1)) 37 (u63_ 2)) 42 (u82_ 0)) 47 (u2_ 2)) 53 (u82_ 1)) 60 (u39_ 5)))), ((q0 43), zi k27 40 (a2_ 0)), ((q0 38), zi k23 1300 (a82_ 0)), ((q0 39), zi k24 1300 (a82_ 1)), ((q0 40), zi k25 1300 (a82_ 2)), ((q0 41), zi k26 1300 (a82_ 3)), ((q0 56), zi k34 1300 (a82_ 4)), ((q0 52), zi k33 1300 (a82_ 5)), ((q0 44), zi k28 40 f_72), ((q0 45), zi k29 40 f29)]) hP hD [0, 1, 7, 8, 9, 10, 11, 12, 4, 6] [2, 3, 5] rfl rfl (by decide) (by decide) hk1 hFc hP1 hD1
            have hP : va_P (dC, dI) vwCl [(h0, .inr (13, mX13 q0 (upd (upd (upd (upd (upd (upd (upd (upd (upd v0 32 (u39_ 0)) 33 (u39_ 1)) 35 (u63_ 0)) 36 (u63_ 1)) 37 (u63_ 2)) 42 (u82_ 0)) 47 (u2_ 2)) 53 (u82_ 1)) 60 (u39_ 5)))), ((q0 43), zi k27 40 (a2_ 0)), ((q0 31), .inr (12, sf22)), ((q0 0), zi k1 600 f1), ((q0 44), zi k28 40 f_72), ((q0 46), zi k30 40 f_79), ((q0 45), zi k29 40 f29), ((q0 38), zi k23 1300 (a82_ 0)), ((q0 39), zi k24 1300 (a82_ 1)), ((q0 40), zi k25 1300 (a82_ 2)), ((q0 41), zi k26 1300 (a82_ 3)), ((q0 56), zi k34 1300 (a82_ 4)), ((q0 52), zi k33 1300 (a82_ 5))] H1 := hP.sub [3, 4, 0, 1, 11, 2, 12, 5, 6, 7, 8, 9, 10] rfl
            have hD : va_D A [(h0, .inr (13, mX13 q0 (upd (upd (upd (upd (upd (upd (upd (upd (upd v0 32 (u39_ 0)) 33 (u39_ 1)) 35 (u63_ 0)) 36 (u63_ 1)) 37 (u63_ 2)) 42 (u82_ 0)) 47 (u2_ 2)) 53 (u82_ 1)) 60 (u39_ 5)))), ((q0 43), zi k27 40 (a2_ 0)), ((q0 31), .inr (12, sf22)), ((q0 0), zi k1 600 f1), ((q0 44), zi k28 40 f_72), ((q0 46), zi k30 40 f_79), ((q0 45), zi k29 40 f29), ((q0 38), zi k23 1300 (a82_ 0)), ((q0 39), zi k24 1300 (a82_ 1)), ((q0 40), zi k25 1300 (a82_ 2)), ((q0 41), zi k26 1300 (a82_ 3)), ((q0 56), zi k34 1300 (a82_ 4)), ((q0 52), zi k33 1300 (a82_ 5))] := hD.sub [3, 4, 0, 1, 11, 2, 12, 5, 6, 7, 8, 9, 10] (by decide) rfl
            generalize H1 = H at hP hS ⊢
            clear hz1
            refine W.widen (k := 0) (n := 0) (by decide) (by decide) ?_
            have hpost : (0 ≤ r82_.toInt ∧ r82_.toInt ≤ 1299) ∧ (0 ≤ (u63_ 0).toInt ∧ (u63_ 0).toInt ≤ 600) ∧ (0 ≤ (u63_ 1).toInt ∧ (u63_ 1).toInt ≤ 3) ∧ (0 ≤ (u63_ 2).toInt ∧ (u63_ 2).toInt ≤ 600) ∧ (1 ≤ (u82_ 0).toInt ∧ (u82_ 0).toInt ≤ 1300) ∧ (1 ≤ (u2_ 2).toInt ∧ (u2_ 2).toInt ≤ 40) ∧ (1 ≤ (u82_ 1).toInt ∧ (u82_ 1).toInt ≤ 1300) ∧ (0 ≤ (u39_ 5).toInt ∧ (u39_ 5).toInt ≤ 600) ∧ ((u63_ 1).toInt ≠ 0 → (u63_ 2).toInt < (u63_ 0).toInt) ∧ ((u63_ 0).toInt ≤ (v0 34).toInt) ∧ ((u63_ 2).toInt ≤ (u63_ 0).toInt) ∧ ((u82_ 1).toInt = (u82_ 0).toInt) ∧ ((v0 50).toInt ≤ (u2_ 2).toInt + (v0 51).toInt) ∧ (2 * (v0 37).toInt - (v0 42).toInt + 1 ≤ 2 * (u63_ 2).toInt - (u82_ 0).toInt) ∧ ((v0 37).toInt + 1 ≤ (u63_ 2).toInt) ∧ (0 ≤ r82_.toInt ∧ r82_.toInt < (u82_ 0).toInt) ∧ ((v0 42).toInt + 1 ≤ (u82_ 0).toInt) := ⟨(by first | with_reducible assumption | exact ⟨by omega, by omega⟩), (by first | with_reducible assumption | exact ⟨by omega, by omega⟩), (by first | with_reducible assumption | exact ⟨by omega, by omega⟩), (by first | with_reducible assumption | exact ⟨by omega, by omega⟩), (by first | with_reducible assumption | exact ⟨by omega, by omega⟩), (by first | with_reducible assumption | exact ⟨by omega, by omega⟩), (by first | with_reducible assumption | exact ⟨by omega, by omega⟩), (by first | with_reducible assumption | exact ⟨by omega, by omega⟩), by omega, by omega, by omega, by omega, by omega, by omega, by omega, by omega, by omega⟩
            have hP9 : va_P (dC, dI) vwCl [(h0, .inr (13, mX13 q0 (upd (upd (upd (upd (upd (upd (upd (upd (upd v0 32 (u39_ 0)) 33 (u39_ 1)) 35 (u63_ 0)) 36 (u63_ 1)) 37 (u63_ 2)) 42 (u82_ 0)) 47 (u2_ 2)) 53 (u82_ 1)) 60 (u39_ 5)))), ((q0 43), zi k27 40 (a2_ 0)), ((q0 31), .inr (12, sf22)), ((q0 0), zi k1 600 f1), ((q0 44), zi k28 40 f_72), ((q0 46), zi k30 40 f_79), ((q0 45), zi k29 40 f29), ((q0 38), zi k23 1300 (a82_ 0)), ((q0 39), zi k24 1300 (a82_ 1)), ((q0 40), zi k25 1300 (a82_ 2)), ((q0 41), zi k26 1300 (a82_ 3)), ((q0 56), zi k34 1300 (a82_ 4)), ((q0 52), zi k33 1300 (a82_ 5))] H := hP
            have hD9 : va_D A [(h0, .inr (13, mX13 q0 (upd (upd (upd (upd (upd (upd (upd (upd (upd v0 32 (u39_ 0)) 33 (u39_ 1)) 35 (u63_ 0)) 36 (u63_ 1)) 37 (u63_ 2)) 42 (u82_ 0)) 47 (u2_ 2)) 53 (u82_ 1)) 60 (u39_ 5)))), ((q0 43), zi k27 40 (a2_ 0)), ((q0 31), .inr (12, sf22)), ((q0 0), zi k1 600 f1), ((q0 44), zi k28 40 f_72), ((q0 46), zi k30 40 f_79), ((q0 45), zi k29 40 f29), ((q0 38), zi k23 1300 (a82_ 0)), ((q0 39), zi k24 1300 (a82_ 1)), ((q0 40), zi k25 1300 (a82_ 2)), ((q0 41), zi k26 1300 (a82_ 3)), ((q0 56), zi k34 1300 (a82_ 4)), ((q0 52), zi k33 1300 (a82_ 5))] := hD
            have hB0 : zTr (a82_ 0) (a82_ 1) (a82_ 2) (a82_ 3) (u82_ 0).toInt (u2_ 2).toInt := by assumption
            have hB1 : zLf (a2_ 0) f_72 f29 (u2_ 2).toInt := by assumption
            exact vx_ret (W.iret (v := r82_) hx hb hr (fun t ht hW => ⟨⟨r82_, (fun i => ([(u39_ 0), (u39_ 1), (u63_ 0), (u63_ 1), (u63_ 2), (u82_ 0), (u2_ 2), (u82_ 1), (u39_ 5)] : List (Int32)).getD i 0), rfl, hpost, (fun _ => 0), (fun i => ([(a2_ 0), f_72, f_79, (a82_ 0), (a82_ 1), (a82_ 2), (a82_ 3), (a82_ 4), (a82_ 5)] : List (Nat → Int32)).getD i (fun _ => 0)), (fun _ => (fun _ => 0)), ha82_1, ha82_2, hB0, hB1, by rw [ht]; exact hP9, va_K.moved hW.alike hK, hD9⟩, hS.F ht⟩) hS.2.2 dX13_marksOf_85)
          · skip
            have b_ := zF_ne rfl zk_0 c_
            refine lv_aload_n hx hb dX13_marksOf_52 rfl (lv_at hl 3 rfl) ?_
            refine lv_iconst (v := 1) hx hb dX13_marksOf_53 (by decide) ?_
            refine lv_aload_n hx hb dX13_marksOf_54 rfl (lv_at hl 3 rfl) ?_
            refine va_get (D := (dC, dI)) (ci := 13) (v := .int (u39_ 4)) (C := RX13) (T := TX13) (N := 75) hx hb hG zuX13 hown hK hP 0 rfl rfl 37 (by decide) (hG _ zv1641) (fun _ h9 => h9) rfl dX13_marksOf_55 ?_
            have hPc := hP.sub (ws' := [(h0, .inr (13, mX13 q0 (upd (upd (upd (upd (upd (upd (upd v0 32 (u39_ 0)) 33 (u39_ 1)) 35 (u39_ 2)) 36 (u39_ 3)) 37 (u39_ 4)) 47 (u2_ 2)) 60 (u39_ 5))))]) [0] rfl
            have hDc := hD.sub (ws' := [(h0, .inr (13, mX13 q0 (upd (upd (upd (upd (upd (upd (upd v0 32 (u39_ 0)) 33 (u39_ 1)) 35 (u39_ 2)) 36 (u39_ 3)) 37 (u39_ 4)) 47 (u2_ 2)) 60 (u39_ 5))))]) [0] (by decide) rfl
            have hKc := hK.sub (tys' := []) [] rfl
            have hFc := va_free (wc := [(h0, .inr (13, mX13 q0 (upd (upd (upd (upd (upd (upd (upd v0 32 (u39_ 0)) 33 (u39_ 1)) 35 (u39_ 2)) 36 (u39_ 3)) 37 (u39_ 4)) 47 (u2_ 2)) 60 (u39_ 5))))]) hD hS hA [0] rfl
            refine va_callr (va_runV (As := [.int 1, .int (u39_ 4)]) (rest := []) ⟨hx, hb, hml, hown, hG⟩ (sX13_wrong_0 l dC dI adK adV h0 q0 H.size (upd (upd (upd (upd (upd (upd (upd v0 32 (u39_ 0)) 33 (u39_ 1)) 35 (u39_ 2)) 36 (u39_ 3)) 37 (u39_ 4)) 47 (u2_ 2)) 60 (u39_ 5)) 1 (u39_ 4) (zR_updF (zR_up2 (zR_up2 (zR_up2 (zR_up2 (zR_updF (zR_updF hv0 32 rfl) 33 rfl) 35 (show (0 : Int) ≤ ((u39_ 2) : Int32).toInt ∧ ((u39_ 2) : Int32).toInt ≤ (600 : Int) from (by first | with_reducible assumption | exact ⟨by omega, by omega⟩))) 36 (show (0 : Int) ≤ ((u39_ 3) : Int32).toInt ∧ ((u39_ 3) : Int32).toInt ≤ (3 : Int) from (by first | with_reducible assumption | exact ⟨by omega, by omega⟩))) 37 (show (0 : Int) ≤ ((u39_ 4) : Int32).toInt ∧ ((u39_ 4) : Int32).toInt ≤ (600 : Int) from (by first | with_reducible assumption | exact ⟨by omega, by omega⟩))) 47 (show (0 : Int) ≤ ((u2_ 2) : Int32).toInt ∧ ((u2_ 2) : Int32).toInt ≤ (40 : Int) from (by first | with_reducible assumption | exact ⟨by omega, by omega⟩))) 60 rfl)) (cwV 2 hG (zgV zv2074 zv2076 zv89 zv142 zv2077) rfl rfl rfl (by decide +kernel) ⟨Nat.le_of_ble_eq_true rfl, Nat.le_of_ble_eq_true rfl⟩) ⟨zPc_blind, va_recv hKc hPc (ci := 13) (q0 := 0) rfl rfl, zPc_pre hPc hKc hDc hE hS hFc hZ⟩ rfl rfl hl.1 rfl (lv_room (Nat.le_of_ble_eq_true rfl)) dX13_marksOf_58 ⟨Nat.le_of_ble_eq_true rfl, Nat.le_of_ble_eq_true rfl⟩) hS (fun q _ h => hFc q h) hFc (fun u58_ r58_ t H1 locs ht hvm hw hB hz1 hk1 hS => ?_)
            obtain ⟨hra, hB⟩ := hB
            subst hra
            obtain ⟨w58_, a58_, b58_, hP1, hK1, hD1⟩ := hB
            rw [ht] at hP1
            obtain ⟨hP, hD⟩ := va_join (wr := [((q0 43), zi k27 40 (a2_ 0)), ((q0 31), .inr (12, sf22)), ((q0 0), zi k1 600 f1), ((q0 44), zi k28 40 f28), ((q0 46), zi k30 40 f30), ((q0 45), zi k29 40 f29), ((q0 38), zi k23 1300 f23), ((q0 39), zi k24 1300 f24), ((q0 40), zi k25 1300 f25), ((q0 41), zi k26 1300 f26), ((q0 56), zi k34 1300 f34), ((q0 52), zi k33 1300 f33)]) (w1 := [(h0, .inr (13, mX13 q0 (upd (upd (upd (upd (upd (upd (upd v0 32 (u58_ 0)) 33 (u58_ 1)) 35 (u39_ 2)) 36 (u39_ 3)) 37 (u39_ 4)) 47 (u2_ 2)) 60 (u39_ 5))))]) hP hD [0] [1, 2, 3, 4, 5, 6, 7, 8, 9, 10, 11, 12] rfl rfl (by decide) (by decide) hk1 hFc hP1 hD1
            have hP : va_P (dC, dI) vwCl [(h0, .inr (13, mX13 q0 (upd (upd (upd (upd (upd (upd (upd v0 32 (u58_ 0)) 33 (u58_ 1)) 35 (u39_ 2)) 36 (u39_ 3)) 37 (u39_ 4)) 47 (u2_ 2)) 60 (u39_ 5)))), ((q0 43), zi k27 40 (a2_ 0)), ((q0 31), .inr (12, sf22)), ((q0 0), zi k1 600 f1), ((q0 44), zi k28 40 f28), ((q0 46), zi k30 40 f30), ((q0 45), zi k29 40 f29), ((q0 38), zi k23 1300 f23), ((q0 39), zi k24 1300 f24), ((q0 40), zi k25 1300 f25), ((q0 41), zi k26 1300 f26), ((q0 56), zi k34 1300 f34), ((q0 52), zi k33 1300 f33)] H1 := hP.sub [12, 0, 1, 2, 3, 4, 5, 6, 7, 8, 9, 10, 11] rfl
            have hD : va_D A [(h0, .inr (13, mX13 q0 (upd (upd (upd (upd (upd (upd (upd v0 32 (u58_ 0)) 33 (u58_ 1)) 35 (u39_ 2)) 36 (u39_ 3)) 37 (u39_ 4)) 47 (u2_ 2)) 60 (u39_ 5)))), ((q0 43), zi k27 40 (a2_ 0)), ((q0 31), .inr (12, sf22)), ((q0 0), zi k1 600 f1), ((q0 44), zi k28 40 f28), ((q0 46), zi k30 40 f30), ((q0 45), zi k29 40 f29), ((q0 38), zi k23 1300 f23), ((q0 39), zi k24 1300 f24), ((q0 40), zi k25 1300 f25), ((q0 41), zi k26 1300 f26), ((q0 56), zi k34 1300 f34), ((q0 52), zi k33 1300 f33)] := hD.sub [12, 0, 1, 2, 3, 4, 5, 6, 7, 8, 9, 10, 11] (by decide) rfl
            generalize H1 = H at hP hS ⊢
            clear hz1
            have b_ : -2147483648 ≤ (u58_ 0).toInt ∧ (u58_ 0).toInt ≤ 2147483647 := ⟨zlo _, zhi _⟩
            have b_ : -2147483648 ≤ (u58_ 1).toInt ∧ (u58_ 1).toInt ≤ 2147483647 := ⟨zlo _, zhi _⟩
            have hpost : (0 ≤ (u39_ 2).toInt ∧ (u39_ 2).toInt ≤ 600) ∧ (0 ≤ (u39_ 3).toInt ∧ (u39_ 3).toInt ≤ 3) ∧ (0 ≤ (u39_ 4).toInt ∧ (u39_ 4).toInt ≤ 600) ∧ (0 ≤ (v0 42).toInt ∧ (v0 42).toInt ≤ 1300) ∧ (1 ≤ (u2_ 2).toInt ∧ (u2_ 2).toInt ≤ 40) ∧ (0 ≤ (v0 53).toInt ∧ (v0 53).toInt ≤ 1300) := ⟨(by first | with_reducible assumption | exact ⟨by omega, by omega⟩), (by first | with_reducible assumption | exact ⟨by omega, by omega⟩), (by first | with_reducible assumption | exact ⟨by omega, by omega⟩), (by first | with_reducible assumption | exact ⟨by omega, by omega⟩), (by first | with_reducible assumption | exact ⟨by omega, by omega⟩), (by first | with_reducible assumption | exact ⟨by omega, by omega⟩)⟩
            have hP9 : va_P (dC, dI) vwCl [(h0, .inr (13, mX13 q0 (upd (upd (upd (upd (upd (upd (upd (upd (upd v0 32 (u58_ 0)) 33 (u58_ 1)) 35 (u39_ 2)) 36 (u39_ 3)) 37 (u39_ 4)) 42 (v0 42)) 47 (u2_ 2)) 53 (v0 53)) 60 (u39_ 5)))), ((q0 43), zi k27 40 (a2_ 0)), ((q0 31), .inr (12, sf22)), ((q0 0), zi k1 600 f1), ((q0 44), zi k28 40 f28), ((q0 46), zi k30 40 f30), ((q0 45), zi k29 40 f29), ((q0 38), zi k23 1300 f23), ((q0 39), zi k24 1300 f24), ((q0 40), zi k25 1300 f25), ((q0 41), zi k26 1300 f26), ((q0 56), zi k34 1300 f34), ((q0 52), zi k33 1300 f33)] H := hP
            have hD9 : va_D A [(h0, .inr (13, mX13 q0 (upd (upd (upd (upd (upd (upd (upd (upd (upd v0 32 (u58_ 0)) 33 (u58_ 1)) 35 (u39_ 2)) 36 (u39_ 3)) 37 (u39_ 4)) 42 (v0 42)) 47 (u2_ 2)) 53 (v0 53)) 60 (u39_ 5)))), ((q0 43), zi k27 40 (a2_ 0)), ((q0 31), .inr (12, sf22)), ((q0 0), zi k1 600 f1), ((q0 44), zi k28 40 f28), ((q0 46), zi k30 40 f30), ((q0 45), zi k29 40 f29), ((q0 38), zi k23 1300 f23), ((q0 39), zi k24 1300 f24), ((q0 40), zi k25 1300 f25), ((q0 41), zi k26 1300 f26), ((q0 56), zi k34 1300 f34), ((q0 52), zi k33 1300 f33)] := hD
            obtain ⟨ce, hce, hcv, hcl⟩ := zthrown hK hP (ci := 12) (q0 := 2) rfl rfl
            exact z_athrow (E := RX12) hx hb (fun x h => (hout x h).elim) hlocks hce hcv hcl dX13_marksOf_61 (fun t ht hvm => ⟨(fun i => ([(u58_ 0), (u58_ 1), (u39_ 2), (u39_ 3), (u39_ 4), (v0 42), (u2_ 2), (v0 53), (u39_ 5)] : List (Int32)).getD i 0), hpost, ⟨rfl, (fun _ => 0), (fun i => ([(a2_ 0), f28, f30, f23, f24, f25, f26, f34, f33] : List (Nat → Int32)).getD i (fun _ => 0)), (fun _ => (fun _ => 0)), hf24, hf25, by rw [ht]; exact hP9, va_K.moved hvm hK, hD9⟩, hS.F ht⟩) hS.2.2 (by decide) (by decide)
      · skip
        have b_ := zF_eq rfl zk_3 c_
        refine lv_aload_n hx hb dX13_marksOf_23 rfl (lv_at hl 2 rfl) ?_
        refine lv_iconst (v := 1) hx hb dX13_marksOf_24 (by decide) ?_
        refine lv_aload_n hx hb dX13_marksOf_25 rfl (lv_at hl 2 rfl) ?_
        refine va_get (D := (dC, dI)) (ci := 13) (v := .int (u11_ 4)) (C := RX13) (T := TX13) (N := 75) hx hb hG zuX13 hown hK hP 0 rfl rfl 37 (by decide) (hG _ zv1641) (fun _ h9 => h9) rfl dX13_marksOf_26 ?_
        have b_ : -2147483648 ≤ (u11_ 0).toInt ∧ (u11_ 0).toInt ≤ 2147483647 := ⟨zlo _, zhi _⟩
        have b_ : -2147483648 ≤ (u11_ 1).toInt ∧ (u11_ 1).toInt ≤ 2147483647 := ⟨zlo _, zhi _⟩
        have hPc := hP.sub (ws' := [(h0, .inr (13, mX13 q0 (upd (upd (upd (upd (upd (upd (upd v0 32 (u11_ 0)) 33 (u11_ 1)) 35 (u11_ 2)) 36 (u11_ 3)) 37 (u11_ 4)) 47 (u2_ 2)) 60 (u11_ 5))))]) [0] rfl
        have hDc := hD.sub (ws' := [(h0, .inr (13, mX13 q0 (upd (upd (upd (upd (upd (upd (upd v0 32 (u11_ 0)) 33 (u11_ 1)) 35 (u11_ 2)) 36 (u11_ 3)) 37 (u11_ 4)) 47 (u2_ 2)) 60 (u11_ 5))))]) [0] (by decide) rfl
        have hKc := hK.sub (tys' := []) [] rfl
        have hFc := va_free (wc := [(h0, .inr (13, mX13 q0 (upd (upd (upd (upd (upd (upd (upd v0 32 (u11_ 0)) 33 (u11_ 1)) 35 (u11_ 2)) 36 (u11_ 3)) 37 (u11_ 4)) 47 (u2_ 2)) 60 (u11_ 5))))]) hD hS hA [0] rfl
        refine va_callr (va_runV (As := [.int 1, .int (u11_ 4)]) (rest := []) ⟨hx, hb, hml, hown, hG⟩ (sX13_wrong_0 l dC dI adK adV h0 q0 H.size (upd (upd (upd (upd (upd (upd (upd v0 32 (u11_ 0)) 33 (u11_ 1)) 35 (u11_ 2)) 36 (u11_ 3)) 37 (u11_ 4)) 47 (u2_ 2)) 60 (u11_ 5)) 1 (u11_ 4) (zR_updF (zR_up2 (zR_up2 (zR_up2 (zR_up2 (zR_updF (zR_updF hv0 32 rfl) 33 rfl) 35 (show (0 : Int) ≤ ((u11_ 2) : Int32).toInt ∧ ((u11_ 2) : Int32).toInt ≤ (600 : Int) from (by first | with_reducible assumption | exact ⟨by omega, by omega⟩))) 36 (show (0 : Int) ≤ ((u11_ 3) : Int32).toInt ∧ ((u11_ 3) : Int32).toInt ≤ (3 : Int) from (by first | with_reducible assumption | exact ⟨by omega, by omega⟩))) 37 (show (0 : Int) ≤ ((u11_ 4) : Int32).toInt ∧ ((u11_ 4) : Int32).toInt ≤ (600 : Int) from (by first | with_reducible assumption | exact ⟨by omega, by omega⟩))) 47 (show (0 : Int) ≤ ((u2_ 2) : Int32).toInt ∧ ((u2_ 2) : Int32).toInt ≤ (40 : Int) from (by first | with_reducible assumption | exact ⟨by omega, by omega⟩))) 60 rfl)) (cwV 2 hG (zgV zv2074 zv2076 zv89 zv142 zv2077) rfl rfl rfl (by decide +kernel) ⟨Nat.le_of_ble_eq_true rfl, Nat.le_of_ble_eq_true rfl⟩) ⟨zPc_blind, va_recv hKc hPc (ci := 13) (q0 := 0) rfl rfl, zPc_pre hPc hKc hDc hE hS hFc hZ⟩ rfl rfl hl.1 rfl (lv_room (Nat.le_of_ble_eq_true rfl)) dX13_marksOf_29 ⟨Nat.le_of_ble_eq_true rfl, Nat.le_of_ble_eq_true rfl⟩) hS (fun q _ h => hFc q h) hFc (fun u29_ r29_ t H1 locs ht hvm hw hB hz1 hk1 hS => ?_)
        obtain ⟨hra, hB⟩ := hB
        subst hra
        obtain ⟨w29_, a29_, b29_, hP1, hK1, hD1⟩ := hB
        rw [ht] at hP1
        obtain ⟨hP, hD⟩ := va_join (wr := [((q0 43), zi k27 40 (a2_ 0)), ((q0 31), .inr (12, sf22)), ((q0 0), zi k1 600 f1), ((q0 44), zi k28 40 f28), ((q0 46), zi k30 40 f30), ((q0 45), zi k29 40 f29), ((q0 38), zi k23 1300 f23), ((q0 39), zi k24 1300 f24), ((q0 40), zi k25 1300 f25), ((q0 41), zi k26 1300 f26), ((q0 56), zi k34 1300 f34), ((q0 52), zi k33 1300 f33)]) (w1 := [(h0, .inr (13, mX13 q0 (upd (upd (upd (upd (upd (upd (upd v0 32 (u29_ 0)) 33 (u29_ 1)) 35 (u11_ 2)) 36 (u11_ 3)) 37 (u11_ 4)) 47 (u2_ 2)) 60 (u11_ 5))))]) hP hD [0] [1, 2, 3, 4, 5, 6, 7, 8, 9, 10, 11, 12] rfl rfl (by decide) (by decide) hk1 hFc hP1 hD1
        have hP : va_P (dC, dI) vwCl [(h0, .inr (13, mX13 q0 (upd (upd (upd (upd (upd (upd (upd v0 32 (u29_ 0)) 33 (u29_ 1)) 35 (u11_ 2)) 36 (u11_ 3)) 37 (u11_ 4)) 47 (u2_ 2)) 60 (u11_ 5)))), ((q0 43), zi k27 40 (a2_ 0)), ((q0 31), .inr (12, sf22)), ((q0 0), zi k1 600 f1), ((q0 44), zi k28 40 f28), ((q0 46), zi k30 40 f30), ((q0 45), zi k29 40 f29), ((q0 38), zi k23 1300 f23), ((q0 39), zi k24 1300 f24), ((q0 40), zi k25 1300 f25), ((q0 41), zi k26 1300 f26), ((q0 56), zi k34 1300 f34), ((q0 52), zi k33 1300 f33)] H1 := hP.sub [12, 0, 1, 2, 3, 4, 5, 6, 7, 8, 9, 10, 11] rfl
        have hD : va_D A [(h0, .inr (13, mX13 q0 (upd (upd (upd (upd (upd (upd (upd v0 32 (u29_ 0)) 33 (u29_ 1)) 35 (u11_ 2)) 36 (u11_ 3)) 37 (u11_ 4)) 47 (u2_ 2)) 60 (u11_ 5)))), ((q0 43), zi k27 40 (a2_ 0)), ((q0 31), .inr (12, sf22)), ((q0 0), zi k1 600 f1), ((q0 44), zi k28 40 f28), ((q0 46), zi k30 40 f30), ((q0 45), zi k29 40 f29), ((q0 38), zi k23 1300 f23), ((q0 39), zi k24 1300 f24), ((q0 40), zi k25 1300 f25), ((q0 41), zi k26 1300 f26), ((q0 56), zi k34 1300 f34), ((q0 52), zi k33 1300 f33)] := hD.sub [12, 0, 1, 2, 3, 4, 5, 6, 7, 8, 9, 10, 11] (by decide) rfl
        generalize H1 = H at hP hS ⊢
        clear hz1
        have b_ : -2147483648 ≤ (u29_ 0).toInt ∧ (u29_ 0).toInt ≤ 2147483647 := ⟨zlo _, zhi _⟩
        have b_ : -2147483648 ≤ (u29_ 1).toInt ∧ (u29_ 1).toInt ≤ 2147483647 := ⟨zlo _, zhi _⟩
        have hpost : (0 ≤ (u11_ 2).toInt ∧ (u11_ 2).toInt ≤ 600) ∧ (0 ≤ (u11_ 3).toInt ∧ (u11_ 3).toInt ≤ 3) ∧ (0 ≤ (u11_ 4).toInt ∧ (u11_ 4).toInt ≤ 600) ∧ (0 ≤ (v0 42).toInt ∧ (v0 42).toInt ≤ 1300) ∧ (1 ≤ (u2_ 2).toInt ∧ (u2_ 2).toInt ≤ 40) ∧ (0 ≤ (v0 53).toInt ∧ (v0 53).toInt ≤ 1300) := ⟨(by first | with_reducible assumption | exact ⟨by omega, by omega⟩), (by first | with_reducible assumption | exact ⟨by omega, by omega⟩), (by first | with_reducible assumption | exact ⟨by omega, by omega⟩), (by first | with_reducible assumption | exact ⟨by omega, by omega⟩), (by first | with_reducible assumption | exact ⟨by omega, by omega⟩), (by first | with_reducible assumption | exact ⟨by omega, by omega⟩)⟩
        have hP9 : va_P (dC, dI) vwCl [(h0, .inr (13, mX13 q0 (upd (upd (upd (upd (upd (upd (upd (upd (upd v0 32 (u29_ 0)) 33 (u29_ 1)) 35 (u11_ 2)) 36 (u11_ 3)) 37 (u11_ 4)) 42 (v0 42)) 47 (u2_ 2)) 53 (v0 53)) 60 (u11_ 5)))), ((q0 43), zi k27 40 (a2_ 0)), ((q0 31), .inr (12, sf22)), ((q0 0), zi k1 600 f1), ((q0 44), zi k28 40 f28), ((q0 46), zi k30 40 f30), ((q0 45), zi k29 40 f29), ((q0 38), zi k23 1300 f23), ((q0 39), zi k24 1300 f24), ((q0 40), zi k25 1300 f25), ((q0 41), zi k26 1300 f26), ((q0 56), zi k34 1300 f34), ((q0 52), zi k33 1300 f33)] H := hP
        have hD9 : va_D A [(h0, .inr (13, mX13 q0 (upd (upd (upd (upd (upd (upd (upd (upd (upd v0 32 (u29_ 0)) 33 (u29_ 1)) 35 (u11_ 2)) 36 (u11_ 3)) 37 (u11_ 4)) 42 (v0 42)) 47 (u2_ 2)) 53 (v0 53)) 60 (u11_ 5)))), ((q0 43), zi k27 40 (a2_ 0)), ((q0 31), .inr (12, sf22)), ((q0 0), zi k1 600 f1), ((q0 44), zi k28 40 f28), ((q0 46), zi k30 40 f30), ((q0 45), zi k29 40 f29), ((q0 38), zi k23 1300 f23), ((q0 39), zi k24 1300 f24), ((q0 40), zi k25 1300 f25), ((q0 41), zi k26 1300 f26), ((q0 56), zi k34 1300 f34), ((q0 52), zi k33 1300 f33)] := hD
        obtain ⟨ce, hce, hcv, hcl⟩ := zthrown hK hP (ci := 12) (q0 := 2) rfl rfl
        exact z_athrow (E := RX12) hx hb (fun x h => (hout x h).elim) hlocks hce hcv hcl dX13_marksOf_32 (fun t ht hvm => ⟨(fun i => ([(u29_ 0), (u29_ 1), (u11_ 2), (u11_ 3), (u11_ 4), (v0 42), (u2_ 2), (v0 53), (u11_ 5)] : List (Int32)).getD i 0), hpost, ⟨rfl, (fun _ => 0), (fun i => ([(a2_ 0), f28, f30, f23, f24, f25, f26, f34, f33] : List (Nat → Int32)).getD i (fun _ => 0)), (fun _ => (fun _ => 0)), hf24, hf25, by rw [ht]; exact hP9, va_K.moved hvm hK, hD9⟩, hS.F ht⟩) hS.2.2 (by decide) (by decide)
set_option maxHeartbeats 8000000 in
set_option maxRecDepth 100000 in
theorem sX13_isRun_0 (l : Launch) (dC : Nat → ClassId) (dI : Nat → Nat → Nat) (adK adV : Nat → Nat) (h0 : Nat) (q0 : Nat → Nat) (k1 : ClassId) (sz : Nat) (v0 : Nat → Int32) (f1 : Nat → Int32) (x1 : Int32) (x2 : Int32) (x3 : Int32) (x4 : Int32) (x5 : Int32) (hv0 : zR rg_Model v0) : Met l yX13_isRun (zw yX13_isRun cX13_isRun 7 (some .boolean)) { frames := 2, cells := 0, slots := 0, locals := 40 } (zPc dC dI adK adV [.ref h0, .int x1, .int x2, .int x3, .int x4, .int x5] sz [(h0, .inr (13, mX13 q0 v0)), ((q0 0), zi k1 600 f1)] [(k1, .byte)]) (va_Qi (fun (r : Int32) (u : Nat → Int32) => (0 ≤ r.toInt ∧ r.toInt ≤ 1) ∧ (r.toInt = 1 → (v0 36).toInt = 1)) (fun (u : Nat → Int32) (t : State) => ∃ (ww : Nat → Int64) (aa : Nat → Nat → Int32) (bb : Nat → Nat → Int64), va_P (dC, dI) vwCl [(h0, .inr (13, mX13 q0 v0)), ((q0 0), zi k1 600 f1)] t.heap ∧ va_K (dC, dI) vwCl [(k1, .byte)] t ∧ va_D (va_A [(h0, .inr (13, mX13 q0 v0)), ((q0 0), zi k1 600 f1)] sz) [(h0, .inr (13, mX13 q0 v0)), ((q0 0), zi k1 600 f1)]) (va_A [(h0, .inr (13, mX13 q0 v0)), ((q0 0), zi k1 600 f1)] sz)) 0 0 (va_A [(h0, .inr (13, mX13 q0 v0)), ((q0 0), zi k1 600 f1)] sz) := by
  refine Met.ofW (cc := cX13_isRun) (maxL := 7) (ret := (some .boolean)) (by decide) rfl ?_
  intro p e s m args below meth c s₁ B hml hv
  obtain ⟨rfl, hsz, hP, hK, hD0, hE, hZ⟩ := hv
  have hx := B.exec
  have hb := B.bytes
  have hr := B.returns
  have hG : ∀ w ∈ zG, w.before _ s = true := fun w h => atoms_spec (ws := (zw yX13_isRun cX13_isRun 7 (some .boolean))) B.pre w (List.mem_cons_of_mem _ h)
  have hown : s.vm.findClass RX13 = some m.cls := findClass_of_methodNamed B.named
  have hlocks := B.notSynchronized

  subst hsz
  have hD := hD0.self (sz := s.heap.size)
  generalize hAe : va_A [(h0, .inr (13, mX13 q0 v0)), ((q0 0), zi k1 600 f1)] s.heap.size = A at hD hZ ⊢
  have hA : ∀ q : Nat, s.heap.size ≤ q → A q := fun q h => by rw [← hAe]; exact Or.inr h
  have hS : va_S A s.heap s.heap [] := va_S.rf
  have hl := lv_entry ([.ref h0, .int x1, .int x2, .int x3, .int x4, .int x5]) (n := 7) (Nat.le_of_ble_eq_true rfl)
  rw [lg_entry_eq]
  generalize (lg_sl ([.ref h0, .int x1, .int x2, .int x3, .int x4, .int x5]) ++ List.replicate (7 - (lg_sl ([.ref h0, .int x1, .int x2, .int x3, .int x4, .int x5])).length) Slot.unset).toArray = ls at hl ⊢
  have hl : lv_has ls 7 [(0, .ref h0), (1, .int x1), (2, .int x2), (3, .int x3), (4, .int x4), (5, .int x5)] := hl
  have b_ := zk_0
  have b_ := zk_1
  have b_ := zk_2
  have b_ := zk_3
  have b_ := zk_4
  have b_ := zk_5
  have b_ : 0 ≤ (v0 36).toInt ∧ (v0 36).toInt ≤ 3 := hv0 36
  refine lv_aload_n hx hb dX13_isRun_0 rfl (lv_at hl 0 rfl) ?_
  refine va_get (D := (dC, dI)) (ci := 13) (v := .int (v0 36)) (C := RX13) (T := TX13) (N := 75) hx hb hG zuX13 hown hK hP 0 rfl rfl 36 (by decide) (hG _ zv1640) (fun _ h9 => h9) rfl dX13_isRun_1 ?_
  refine lv_iconst (v := 1) hx hb dX13_isRun_4 (by decide) ?_
  refine lv_icmp_eq (tgt := 10) hx hb dX13_isRun_5 (by decide) (fun c_ => ?_) (fun c_ => ?_)
  · skip
    have b_ := zT_eq rfl zk_1 c_
    refine lv_iload hx hb dX13_isRun_10 (lv_at hl 5 rfl) ?_
    refine zcutW (fun H locs ls u37_ w37_ a37_ b37_ => va_P (dC, dI) vwCl [(h0, .inr (13, mX13 q0 v0)), ((q0 0), zi k1 600 f1)] H ∧ va_D A [(h0, .inr (13, mX13 q0 v0)), ((q0 0), zi k1 600 f1)] ∧ va_S A s.heap H locs ∧ lv_has ls 7 [(0, .ref h0), (1, .int x1), (2, .int x2), (3, .int x3), (4, .int x4), (5, .int x5)] ∧ (2 ≤ (u37_ 0).toInt ∧ (u37_ 0).toInt ≤ 5)) (fun ls u37_ w37_ => F0 m 37 ls [.int (u37_ 0)]) 0 0 ?_ (fun hJ37 => ?_)
    · skip
      intro H locs ls u37_ w37_ a37_ b37_ hc
      obtain ⟨hP, hD, hS, hl, b_⟩ := hc
      refine lv_istore (lv' := [(6, .int (u37_ 0)), (0, .ref h0), (1, .int x1), (2, .int x2), (3, .int x3), (4, .int x4), (5, .int x5)]) hx hb dX13_isRun_37 hl (by decide) rfl (fun ls hl => ?_)
      refine lv_aload_n hx hb dX13_isRun_39 rfl (lv_at hl 1 rfl) ?_
      have b_ : 0 ≤ (v0 35).toInt ∧ (v0 35).toInt ≤ 600 := hv0 35
      refine va_get (D := (dC, dI)) (ci := 13) (v := .int (v0 35)) (C := RX13) (T := TX13) (N := 75) hx hb hG zuX13 hown hK hP 0 rfl rfl 35 (by decide) (hG _ zv1639) (fun _ h9 => h9) rfl dX13_isRun_40 ?_
      refine lv_aload_n hx hb dX13_isRun_43 rfl (lv_at hl 1 rfl) ?_
      have b_ : 0 ≤ (v0 37).toInt ∧ (v0 37).toInt ≤ 600 := hv0 37
      refine va_get (D := (dC, dI)) (ci := 13) (v := .int (v0 37)) (C := RX13) (T := TX13) (N := 75) hx hb hG zuX13 hown hK hP 0 rfl rfl 37 (by decide) (hG _ zv1641) (fun _ h9 => h9) rfl dX13_isRun_44 ?_
      refine lv_isub hx hb dX13_isRun_47 ?_
      refine lv_topi (fun z47 e_z47 => ?_)
      have b_ := zsub rfl rfl e_z47 (by omega) (by omega)
      refine lv_iload hx hb dX13_isRun_48 (lv_at hl 0 rfl) ?_
      refine lv_icmp_ne (tgt := 87) hx hb dX13_isRun_50 (by decide) (fun c_ => ?_) (fun c_ => ?_)
      · skip
        have b_ := zT_ne rfl rfl c_
        refine lv_iconst (v := 0) hx hb dX13_isRun_87 (by decide) ?_
        refine W.widen (k := 0) (n := 0) (by decide) (by decide) ?_
        have hpost : (0 ≤ (0 : Int32).toInt ∧ (0 : Int32).toInt ≤ 1) ∧ ((0 : Int32).toInt = 1 → (v0 36).toInt = 1) := ⟨(by first | with_reducible assumption | exact ⟨by omega, by omega⟩), by omega⟩
        have hP9 : va_P (dC, dI) vwCl [(h0, .inr (13, mX13 q0 v0)), ((q0 0), zi k1 600 f1)] H := hP
        have hD9 : va_D A [(h0, .inr (13, mX13 q0 v0)), ((q0 0), zi k1 600 f1)] := hD
        exact W.zret (v := 0) hx hb hr rfl (fun t ht hW => ⟨⟨0, (fun _ => 0), rfl, hpost, (fun _ => 0), (fun _ => (fun _ => 0)), (fun _ => (fun _ => 0)), by rw [ht]; exact hP9, va_K.moved hW.alike hK, hD9⟩, hS.F ht⟩) hS.2.2 dX13_isRun_88
      · skip
        have b_ := zF_ne rfl rfl c_
        refine lv_aload_n hx hb dX13_isRun_53 rfl (lv_at hl 1 rfl) ?_
        refine va_get (D := (dC, dI)) (ci := 13) (v := .ref (q0 0)) (C := RX13) (T := TX13) (N := 75) hx hb hG zuX13 hown hK hP 0 rfl rfl 0 (by decide) (hG _ zv1604) (fun _ h9 => h9) rfl dX13_isRun_54 ?_
        refine lv_aload_n hx hb dX13_isRun_57 rfl (lv_at hl 1 rfl) ?_
        refine va_get (D := (dC, dI)) (ci := 13) (v := .int (v0 37)) (C := RX13) (T := TX13) (N := 75) hx hb hG zuX13 hown hK hP 0 rfl rfl 37 (by decide) (hG _ zv1641) (fun _ h9 => h9) rfl dX13_isRun_58 ?_
        refine va_bald hx hb hK hP 1 0 rfl rfl (zin_lit ⟨by omega, by omega⟩) dX13_isRun_61 ?_
        refine lv_topi (fun z61 e_z61 => ?_)
        have hPc := hP.sub (ws' := []) [] rfl
        have hDc := hD.sub (ws' := []) [] (by decide) rfl
        have hKc := hK.sub (tys' := []) [] rfl
        have hFc := va_free (wc := []) hD hS hA [] rfl
        refine va_calli (va_runS (As := [.int z61]) (rest := []) ⟨hx, hb, hml, hown, hG⟩ (sX13_small_0 l dC dI adK adV H.size z61) (va_cwS 1 hG (zgS zv1874 zv1875 zv142 zv1876) rfl rfl rfl (by decide +kernel) ⟨Nat.le_of_ble_eq_true rfl, Nat.le_of_ble_eq_true rfl⟩) ⟨zPc_blind, zPc_pre hPc hKc hDc hE hS hFc hZ⟩ rfl rfl hl.1 rfl (lv_room (Nat.le_of_ble_eq_true rfl)) dX13_isRun_62 ⟨Nat.le_of_ble_eq_true rfl, Nat.le_of_ble_eq_true rfl⟩) hS (fun q _ h => hFc q h) hFc (fun r62_ u62_ t H1 locs ht hvm hw hB hz1 hk1 hS => ?_)
        replace hw : (r62_.toInt = zSml z61.toInt) := hw
        have hX62_0 := hw
        obtain ⟨w62_, a62_, b62_, hP1, hK1, hD1⟩ := hB
        rw [ht] at hP1
        obtain ⟨hP, hD⟩ := va_join (wr := [(h0, .inr (13, mX13 q0 v0)), ((q0 0), zi k1 600 f1)]) (w1 := []) hP hD [] [0, 1] rfl rfl (by decide) (by decide) hk1 hFc hP1 hD1
        have hP : va_P (dC, dI) vwCl [(h0, .inr (13, mX13 q0 v0)), ((q0 0), zi k1 600 f1)] H1 := hP.sub [0, 1] rfl
        have hD : va_D A [(h0, .inr (13, mX13 q0 v0)), ((q0 0), zi k1 600 f1)] := hD.sub [0, 1] (by decide) rfl
        generalize H1 = H at hP hS ⊢
        clear hz1
        refine lv_iload_n hx hb dX13_isRun_65 rfl (lv_at hl 2 rfl) ?_
        have b_ : -2147483648 ≤ r62_.toInt ∧ r62_.toInt ≤ 2147483647 := ⟨zlo _, zhi _⟩
        have b_ : -2147483648 ≤ x1.toInt ∧ x1.toInt ≤ 2147483647 := ⟨zlo _, zhi _⟩
        refine lv_icmp_ne (tgt := 87) hx hb dX13_isRun_66 (by decide) (fun c_ => ?_) (fun c_ => ?_)
        · skip
          have b_ := zT_ne rfl rfl c_
          refine lv_iconst (v := 0) hx hb dX13_isRun_87 (by decide) ?_
          refine W.widen (k := 0) (n := 0) (by decide) (by decide) ?_
          have hpost : (0 ≤ (0 : Int32).toInt ∧ (0 : Int32).toInt ≤ 1) ∧ ((0 : Int32).toInt = 1 → (v0 36).toInt = 1) := ⟨(by first | with_reducible assumption | exact ⟨by omega, by omega⟩), by omega⟩
          have hP9 : va_P (dC, dI) vwCl [(h0, .inr (13, mX13 q0 v0)), ((q0 0), zi k1 600 f1)] H := hP
          have hD9 : va_D A [(h0, .inr (13, mX13 q0 v0)), ((q0 0), zi k1 600 f1)] := hD
          exact W.zret (v := 0) hx hb hr rfl (fun t ht hW => ⟨⟨0, (fun _ => 0), rfl, hpost, (fun _ => 0), (fun _ => (fun _ => 0)), (fun _ => (fun _ => 0)), by rw [ht]; exact hP9, va_K.moved hW.alike hK, hD9⟩, hS.F ht⟩) hS.2.2 dX13_isRun_88
        · skip
          have b_ := zF_ne rfl rfl c_
          refine lv_aload_n hx hb dX13_isRun_69 rfl (lv_at hl 1 rfl) ?_
          refine va_get (D := (dC, dI)) (ci := 13) (v := .ref (q0 0)) (C := RX13) (T := TX13) (N := 75) hx hb hG zuX13 hown hK hP 0 rfl rfl 0 (by decide) (hG _ zv1604) (fun _ h9 => h9) rfl dX13_isRun_70 ?_
          refine lv_aload_n hx hb dX13_isRun_73 rfl (lv_at hl 1 rfl) ?_
          refine va_get (D := (dC, dI)) (ci := 13) (v := .int (v0 37)) (C := RX13) (T := TX13) (N := 75) hx hb hG zuX13 hown hK hP 0 rfl rfl 37 (by decide) (hG _ zv1641) (fun _ h9 => h9) rfl dX13_isRun_74 ?_
          refine lv_iconst (v := 1) hx hb dX13_isRun_77 (by decide) ?_
          refine lv_iadd hx hb dX13_isRun_78 ?_
          refine lv_topi (fun z78 e_z78 => ?_)
          have b_ := zadd rfl zk_1 e_z78 (by omega) (by omega)
          refine va_bald hx hb hK hP 1 0 rfl rfl (zin_lit ⟨by omega, by omega⟩) dX13_isRun_79 ?_
          refine lv_topi (fun z79 e_z79 => ?_)
          have hPc := hP.sub (ws' := []) [] rfl
          have hDc := hD.sub (ws' := []) [] (by decide) rfl
          have hKc := hK.sub (tys' := []) [] rfl
          have hFc := va_free (wc := []) hD hS hA [] rfl
          refine va_calli (va_runS (As := [.int z79]) (rest := []) ⟨hx, hb, hml, hown, hG⟩ (sX13_small_0 l dC dI adK adV H.size z79) (va_cwS 1 hG (zgS zv1874 zv1875 zv142 zv1876) rfl rfl rfl (by decide +kernel) ⟨Nat.le_of_ble_eq_true rfl, Nat.le_of_ble_eq_true rfl⟩) ⟨zPc_blind, zPc_pre hPc hKc hDc hE hS hFc hZ⟩ rfl rfl hl.1 rfl (lv_room (Nat.le_of_ble_eq_true rfl)) dX13_isRun_80 ⟨Nat.le_of_ble_eq_true rfl, Nat.le_of_ble_eq_true rfl⟩) hS (fun q _ h => hFc q h) hFc (fun r80_ u80_ t H1 locs ht hvm hw hB hz1 hk1 hS => ?_)
          replace hw : (r80_.toInt = zSml z79.toInt) := hw
          have hX80_0 := hw
          obtain ⟨w80_, a80_, b80_, hP1, hK1, hD1⟩ := hB
          rw [ht] at hP1
          obtain ⟨hP, hD⟩ := va_join (wr := [(h0, .inr (13, mX13 q0 v0)), ((q0 0), zi k1 600 f1)]) (w1 := []) hP hD [] [0, 1] rfl rfl (by decide) (by decide) hk1 hFc hP1 hD1
          have hP : va_P (dC, dI) vwCl [(h0, .inr (13, mX13 q0 v0)), ((q0 0), zi k1 600 f1)] H1 := hP.sub [0, 1] rfl
          have hD : va_D A [(h0, .inr (13, mX13 q0 v0)), ((q0 0), zi k1 600 f1)] := hD.sub [0, 1] (by decide) rfl
          generalize H1 = H at hP hS ⊢
          clear hz1
          refine lv_iload_n hx hb dX13_isRun_83 rfl (lv_at hl 3 rfl) ?_
          have b_ : -2147483648 ≤ r80_.toInt ∧ r80_.toInt ≤ 2147483647 := ⟨zlo _, zhi _⟩
          have b_ : -2147483648 ≤ x2.toInt ∧ x2.toInt ≤ 2147483647 := ⟨zlo _, zhi _⟩
          refine lv_icmp_eq (tgt := 89) hx hb dX13_isRun_84 (by decide) (fun c_ => ?_) (fun c_ => ?_)
          · skip
            have b_ := zT_eq rfl rfl c_
            refine lv_iload hx hb dX13_isRun_89 (lv_at hl 0 rfl) ?_
            refine lv_iconst (v := 3) hx hb dX13_isRun_91 (by decide) ?_
            refine zcutW (fun H locs ls u113_ w113_ a113_ b113_ => va_P (dC, dI) vwCl [(h0, .inr (13, mX13 q0 v0)), ((q0 0), zi k1 600 f1)] H ∧ va_D A [(h0, .inr (13, mX13 q0 v0)), ((q0 0), zi k1 600 f1)] ∧ va_S A s.heap H locs ∧ lv_has ls 7 [(0, .ref h0), (1, .int x1), (2, .int x2), (3, .int x3), (4, .int x4), (5, .int x5), (6, .int (u37_ 0))]) (fun ls u113_ w113_ => F0 m 113 ls []) 0 0 ?_ (fun hJ113 => ?_)
            · skip
              intro H locs ls u113_ w113_ a113_ b113_ hc
              obtain ⟨hP, hD, hS, hl⟩ := hc
              refine lv_iload hx hb dX13_isRun_113 (lv_at hl 6 rfl) ?_
              refine lv_iconst (v := 4) hx hb dX13_isRun_115 (by decide) ?_
              refine zcutW (fun H locs ls u138_ w138_ a138_ b138_ => va_P (dC, dI) vwCl [(h0, .inr (13, mX13 q0 v0)), ((q0 0), zi k1 600 f1)] H ∧ va_D A [(h0, .inr (13, mX13 q0 v0)), ((q0 0), zi k1 600 f1)] ∧ va_S A s.heap H locs ∧ lv_has ls 7 [(0, .ref h0), (1, .int x1), (2, .int x2), (3, .int x3), (4, .int x4), (5, .int x5), (6, .int (u37_ 0))]) (fun ls u138_ w138_ => F0 m 138 ls []) 0 0 ?_ (fun hJ138 => ?_)
              · skip
                intro H locs ls u138_ w138_ a138_ b138_ hc
                obtain ⟨hP, hD, hS, hl⟩ := hc
                refine lv_iload hx hb dX13_isRun_138 (lv_at hl 6 rfl) ?_
                refine lv_iconst (v := 5) hx hb dX13_isRun_140 (by decide) ?_
                refine lv_icmp_lt (tgt := 163) hx hb dX13_isRun_141 (by decide) (fun c_ => ?_) (fun c_ => ?_)
                · skip
                  have b_ := zT_lt rfl zk_5 c_
                  refine lv_iconst (v := 1) hx hb dX13_isRun_163 (by decide) ?_
                  refine lv_goto (tgt := 168) hx hb dX13_isRun_164 (by decide) ?_
                  refine W.widen (k := 0) (n := 0) (by decide) (by decide) ?_
                  have hpost : (0 ≤ (1 : Int32).toInt ∧ (1 : Int32).toInt ≤ 1) ∧ ((1 : Int32).toInt = 1 → (v0 36).toInt = 1) := ⟨(by first | with_reducible assumption | exact ⟨by omega, by omega⟩), by omega⟩
                  have hP9 : va_P (dC, dI) vwCl [(h0, .inr (13, mX13 q0 v0)), ((q0 0), zi k1 600 f1)] H := hP
                  have hD9 : va_D A [(h0, .inr (13, mX13 q0 v0)), ((q0 0), zi k1 600 f1)] := hD
                  exact W.zret (v := 1) hx hb hr rfl (fun t ht hW => ⟨⟨1, (fun _ => 0), rfl, hpost, (fun _ => 0), (fun _ => (fun _ => 0)), (fun _ => (fun _ => 0)), by rw [ht]; exact hP9, va_K.moved hW.alike hK, hD9⟩, hS.F ht⟩) hS.2.2 dX13_isRun_168
                · skip
                  have b_ := zF_lt rfl zk_5 c_
                  refine lv_aload_n hx hb dX13_isRun_144 rfl (lv_at hl 0 rfl) ?_
                  refine va_get (D := (dC, dI)) (ci := 13) (v := .ref (q0 0)) (C := RX13) (T := TX13) (N := 75) hx hb hG zuX13 hown hK hP 0 rfl rfl 0 (by decide) (hG _ zv1604) (fun _ h9 => h9) rfl dX13_isRun_145 ?_
                  refine lv_aload_n hx hb dX13_isRun_148 rfl (lv_at hl 0 rfl) ?_
                  refine va_get (D := (dC, dI)) (ci := 13) (v := .int (v0 37)) (C := RX13) (T := TX13) (N := 75) hx hb hG zuX13 hown hK hP 0 rfl rfl 37 (by decide) (hG _ zv1641) (fun _ h9 => h9) rfl dX13_isRun_149 ?_
                  refine lv_iconst (v := 4) hx hb dX13_isRun_152 (by decide) ?_
                  refine lv_iadd hx hb dX13_isRun_153 ?_
                  refine lv_topi (fun z153 e_z153 => ?_)
                  have b_ := zadd rfl zk_4 e_z153 (by omega) (by omega)
                  refine va_bald hx hb hK hP 1 0 rfl rfl (zin_lit ⟨by omega, by omega⟩) dX13_isRun_154 ?_
                  refine lv_topi (fun z154 e_z154 => ?_)
                  have hPc := hP.sub (ws' := []) [] rfl
                  have hDc := hD.sub (ws' := []) [] (by decide) rfl
                  have hKc := hK.sub (tys' := []) [] rfl
                  have hFc := va_free (wc := []) hD hS hA [] rfl
                  refine va_calli (va_runS (As := [.int z154]) (rest := []) ⟨hx, hb, hml, hown, hG⟩ (sX13_small_0 l dC dI adK adV H.size z154) (va_cwS 1 hG (zgS zv1874 zv1875 zv142 zv1876) rfl rfl rfl (by decide +kernel) ⟨Nat.le_of_ble_eq_true rfl, Nat.le_of_ble_eq_true rfl⟩) ⟨zPc_blind, zPc_pre hPc hKc hDc hE hS hFc hZ⟩ rfl rfl hl.1 rfl (lv_room (Nat.le_of_ble_eq_true rfl)) dX13_isRun_155 ⟨Nat.le_of_ble_eq_true rfl, Nat.le_of_ble_eq_true rfl⟩) hS (fun q _ h => hFc q h) hFc (fun r155_ u155_ t H1 locs ht hvm hw hB hz1 hk1 hS => ?_)
                  replace hw : (r155_.toInt = zSml z154.toInt) := hw
                  have hX155_0 := hw
                  obtain ⟨w155_, a155_, b155_, hP1, hK1, hD1⟩ := hB
                  rw [ht] at hP1
                  obtain ⟨hP, hD⟩ := va_join (wr := [(h0, .inr (13, mX13 q0 v0)), ((q0 0), zi k1 600 f1)]) (w1 := []) hP hD [] [0, 1] rfl rfl (by decide) (by decide) hk1 hFc hP1 hD1
                  have hP : va_P (dC, dI) vwCl [(h0, .inr (13, mX13 q0 v0)), ((q0 0), zi k1 600 f1)] H1 := hP.sub [0, 1] rfl
                  have hD : va_D A [(h0, .inr (13, mX13 q0 v0)), ((q0 0), zi k1 600 f1)] := hD.sub [0, 1] (by decide) rfl
                  generalize H1 = H at hP hS ⊢
                  clear hz1
                  refine lv_iload hx hb dX13_isRun_158 (lv_at hl 5 rfl) ?_
                  have b_ : -2147483648 ≤ r155_.toInt ∧ r155_.toInt ≤ 2147483647 := ⟨zlo _, zhi _⟩
                  have b_ : -2147483648 ≤ x5.toInt ∧ x5.toInt ≤ 2147483647 := ⟨zlo _, zhi _⟩
                  refine lv_icmp_ne (tgt := 167) hx hb dX13_isRun_160 (by decide) (fun c_ => ?_) (fun c_ => ?_)
                  · skip
                    have b_ := zT_ne rfl rfl c_
                    refine lv_iconst (v := 0) hx hb dX13_isRun_167 (by decide) ?_
                    refine W.widen (k := 0) (n := 0) (by decide) (by decide) ?_
                    have hpost : (0 ≤ (0 : Int32).toInt ∧ (0 : Int32).toInt ≤ 1) ∧ ((0 : Int32).toInt = 1 → (v0 36).toInt = 1) := ⟨(by first | with_reducible assumption | exact ⟨by omega, by omega⟩), by omega⟩
                    have hP9 : va_P (dC, dI) vwCl [(h0, .inr (13, mX13 q0 v0)), ((q0 0), zi k1 600 f1)] H := hP
                    have hD9 : va_D A [(h0, .inr (13, mX13 q0 v0)), ((q0 0), zi k1 600 f1)] := hD
                    exact W.zret (v := 0) hx hb hr rfl (fun t ht hW => ⟨⟨0, (fun _ => 0), rfl, hpost, (fun _ => 0), (fun _ => (fun _ => 0)), (fun _ => (fun _ => 0)), by rw [ht]; exact hP9, va_K.moved hW.alike hK, hD9⟩, hS.F ht⟩) hS.2.2 dX13_isRun_168
                  · skip
                    have b_ := zF_ne rfl rfl c_
                    refine lv_iconst (v := 1) hx hb dX13_isRun_163 (by decide) ?_
                    refine lv_goto (tgt := 168) hx hb dX13_isRun_164 (by decide) ?_
                    refine W.widen (k := 0) (n := 0) (by decide) (by decide) ?_
                    have hpost : (0 ≤ (1 : Int32).toInt ∧ (1 : Int32).toInt ≤ 1) ∧ ((1 : Int32).toInt = 1 → (v0 36).toInt = 1) := ⟨(by first | with_reducible assumption | exact ⟨by omega, by omega⟩), by omega⟩
                    have hP9 : va_P (dC, dI) vwCl [(h0, .inr (13, mX13 q0 v0)), ((q0 0), zi k1 600 f1)] H := hP
                    have hD9 : va_D A [(h0, .inr (13, mX13 q0 v0)), ((q0 0), zi k1 600 f1)] := hD
                    exact W.zret (v := 1) hx hb hr rfl (fun t ht hW => ⟨⟨1, (fun _ => 0), rfl, hpost, (fun _ => 0), (fun _ => (fun _ => 0)), (fun _ => (fun _ => 0)), by rw [ht]; exact hP9, va_K.moved hW.alike hK, hD9⟩, hS.F ht⟩) hS.2.2 dX13_isRun_168
              · skip
                refine lv_icmp_lt (tgt := 138) hx hb dX13_isRun_116 (by decide) (fun c_ => ?_) (fun c_ => ?_)
                · skip
                  have b_ := zT_lt rfl zk_4 c_
                  have hc : va_P (dC, dI) vwCl [(h0, .inr (13, mX13 q0 v0)), ((q0 0), zi k1 600 f1)] H ∧ va_D A [(h0, .inr (13, mX13 q0 v0)), ((q0 0), zi k1 600 f1)] ∧ va_S A s.heap H locs ∧ lv_has ls 7 [(0, .ref h0), (1, .int x1), (2, .int x2), (3, .int x3), (4, .int x4), (5, .int x5), (6, .int (u37_ 0))] := ⟨hP, hD, hS, lv_sub hl [0, 1, 2, 3, 4, 5, 6] rfl⟩
                  exact hJ138 H locs ls (fun _ => 0) (fun _ => 0) (fun _ => (fun _ => 0)) (fun _ => (fun _ => 0)) hc
                · skip
                  have b_ := zF_lt rfl zk_4 c_
                  refine lv_aload_n hx hb dX13_isRun_119 rfl (lv_at hl 0 rfl) ?_
                  refine va_get (D := (dC, dI)) (ci := 13) (v := .ref (q0 0)) (C := RX13) (T := TX13) (N := 75) hx hb hG zuX13 hown hK hP 0 rfl rfl 0 (by decide) (hG _ zv1604) (fun _ h9 => h9) rfl dX13_isRun_120 ?_
                  refine lv_aload_n hx hb dX13_isRun_123 rfl (lv_at hl 0 rfl) ?_
                  refine va_get (D := (dC, dI)) (ci := 13) (v := .int (v0 37)) (C := RX13) (T := TX13) (N := 75) hx hb hG zuX13 hown hK hP 0 rfl rfl 37 (by decide) (hG _ zv1641) (fun _ h9 => h9) rfl dX13_isRun_124 ?_
                  refine lv_iconst (v := 3) hx hb dX13_isRun_127 (by decide) ?_
                  refine lv_iadd hx hb dX13_isRun_128 ?_
                  refine lv_topi (fun z128 e_z128 => ?_)
                  have b_ := zadd rfl zk_3 e_z128 (by omega) (by omega)
                  refine va_bald hx hb hK hP 1 0 rfl rfl (zin_lit ⟨by omega, by omega⟩) dX13_isRun_129 ?_
                  refine lv_topi (fun z129 e_z129 => ?_)
                  have hPc := hP.sub (ws' := []) [] rfl
                  have hDc := hD.sub (ws' := []) [] (by decide) rfl
                  have hKc := hK.sub (tys' := []) [] rfl
                  have hFc := va_free (wc := []) hD hS hA [] rfl
                  refine va_calli (va_runS (As := [.int z129]) (rest := []) ⟨hx, hb, hml, hown, hG⟩ (sX13_small_0 l dC dI adK adV H.size z129) (va_cwS 1 hG (zgS zv1874 zv1875 zv142 zv1876) rfl rfl rfl (by decide +kernel) ⟨Nat.le_of_ble_eq_true rfl, Nat.le_of_ble_eq_true rfl⟩) ⟨zPc_blind, zPc_pre hPc hKc hDc hE hS hFc hZ⟩ rfl rfl hl.1 rfl (lv_room (Nat.le_of_ble_eq_true rfl)) dX13_isRun_130 ⟨Nat.le_of_ble_eq_true rfl, Nat.le_of_ble_eq_true rfl⟩) hS (fun q _ h => hFc q h) hFc (fun r130_ u130_ t H1 locs ht hvm hw hB hz1 hk1 hS => ?_)
                  replace hw : (r130_.toInt = zSml z129.toInt) := hw
                  have hX130_0 := hw
                  obtain ⟨w130_, a130_, b130_, hP1, hK1, hD1⟩ := hB
                  rw [ht] at hP1
                  obtain ⟨hP, hD⟩ := va_join (wr := [(h0, .inr (13, mX13 q0 v0)), ((q0 0), zi k1 600 f1)]) (w1 := []) hP hD [] [0, 1] rfl rfl (by decide) (by decide) hk1 hFc hP1 hD1
                  have hP : va_P (dC, dI) vwCl [(h0, .inr (13, mX13 q0 v0)), ((q0 0), zi k1 600 f1)] H1 := hP.sub [0, 1] rfl
                  have hD : va_D A [(h0, .inr (13, mX13 q0 v0)), ((q0 0), zi k1 600 f1)] := hD.sub [0, 1] (by decide) rfl
                  generalize H1 = H at hP hS ⊢
                  clear hz1
                  refine lv_iload hx hb dX13_isRun_133 (lv_at hl 4 rfl) ?_
                  have b_ : -2147483648 ≤ r130_.toInt ∧ r130_.toInt ≤ 2147483647 := ⟨zlo _, zhi _⟩
                  have b_ : -2147483648 ≤ x4.toInt ∧ x4.toInt ≤ 2147483647 := ⟨zlo _, zhi _⟩
                  refine lv_icmp_ne (tgt := 167) hx hb dX13_isRun_135 (by decide) (fun c_ => ?_) (fun c_ => ?_)
                  · skip
                    have b_ := zT_ne rfl rfl c_
                    refine lv_iconst (v := 0) hx hb dX13_isRun_167 (by decide) ?_
                    refine W.widen (k := 0) (n := 0) (by decide) (by decide) ?_
                    have hpost : (0 ≤ (0 : Int32).toInt ∧ (0 : Int32).toInt ≤ 1) ∧ ((0 : Int32).toInt = 1 → (v0 36).toInt = 1) := ⟨(by first | with_reducible assumption | exact ⟨by omega, by omega⟩), by omega⟩
                    have hP9 : va_P (dC, dI) vwCl [(h0, .inr (13, mX13 q0 v0)), ((q0 0), zi k1 600 f1)] H := hP
                    have hD9 : va_D A [(h0, .inr (13, mX13 q0 v0)), ((q0 0), zi k1 600 f1)] := hD
                    exact W.zret (v := 0) hx hb hr rfl (fun t ht hW => ⟨⟨0, (fun _ => 0), rfl, hpost, (fun _ => 0), (fun _ => (fun _ => 0)), (fun _ => (fun _ => 0)), by rw [ht]; exact hP9, va_K.moved hW.alike hK, hD9⟩, hS.F ht⟩) hS.2.2 dX13_isRun_168
                  · skip
                    have b_ := zF_ne rfl rfl c_
                    have hc : va_P (dC, dI) vwCl [(h0, .inr (13, mX13 q0 v0)), ((q0 0), zi k1 600 f1)] H ∧ va_D A [(h0, .inr (13, mX13 q0 v0)), ((q0 0), zi k1 600 f1)] ∧ va_S A s.heap H locs ∧ lv_has ls 7 [(0, .ref h0), (1, .int x1), (2, .int x2), (3, .int x3), (4, .int x4), (5, .int x5), (6, .int (u37_ 0))] := ⟨hP, hD, hS, lv_sub hl [0, 1, 2, 3, 4, 5, 6] rfl⟩
                    exact hJ138 H locs ls (fun _ => 0) (fun _ => 0) (fun _ => (fun _ => 0)) (fun _ => (fun _ => 0)) hc
            · skip
              refine lv_icmp_lt (tgt := 113) hx hb dX13_isRun_92 (by decide) (fun c_ => ?_) (fun c_ => ?_)
              · skip
                have b_ := zT_lt rfl zk_3 c_
                have hc : va_P (dC, dI) vwCl [(h0, .inr (13, mX13 q0 v0)), ((q0 0), zi k1 600 f1)] H ∧ va_D A [(h0, .inr (13, mX13 q0 v0)), ((q0 0), zi k1 600 f1)] ∧ va_S A s.heap H locs ∧ lv_has ls 7 [(0, .ref h0), (1, .int x1), (2, .int x2), (3, .int x3), (4, .int x4), (5, .int x5), (6, .int (u37_ 0))] := ⟨hP, hD, hS, lv_sub hl [1, 2, 3, 4, 5, 6, 0] rfl⟩
                exact hJ113 H locs ls (fun _ => 0) (fun _ => 0) (fun _ => (fun _ => 0)) (fun _ => (fun _ => 0)) hc
              · skip
                have b_ := zF_lt rfl zk_3 c_
                refine lv_aload_n hx hb dX13_isRun_95 rfl (lv_at hl 1 rfl) ?_
                refine va_get (D := (dC, dI)) (ci := 13) (v := .ref (q0 0)) (C := RX13) (T := TX13) (N := 75) hx hb hG zuX13 hown hK hP 0 rfl rfl 0 (by decide) (hG _ zv1604) (fun _ h9 => h9) rfl dX13_isRun_96 ?_
                refine lv_aload_n hx hb dX13_isRun_99 rfl (lv_at hl 1 rfl) ?_
                refine va_get (D := (dC, dI)) (ci := 13) (v := .int (v0 37)) (C := RX13) (T := TX13) (N := 75) hx hb hG zuX13 hown hK hP 0 rfl rfl 37 (by decide) (hG _ zv1641) (fun _ h9 => h9) rfl dX13_isRun_100 ?_
                refine lv_iconst (v := 2) hx hb dX13_isRun_103 (by decide) ?_
                refine lv_iadd hx hb dX13_isRun_104 ?_
                refine lv_topi (fun z104 e_z104 => ?_)
                have b_ := zadd rfl zk_2 e_z104 (by omega) (by omega)
                refine va_bald hx hb hK hP 1 0 rfl rfl (zin_lit ⟨by omega, by omega⟩) dX13_isRun_105 ?_
                refine lv_topi (fun z105 e_z105 => ?_)
                have hPc := hP.sub (ws' := []) [] rfl
                have hDc := hD.sub (ws' := []) [] (by decide) rfl
                have hKc := hK.sub (tys' := []) [] rfl
                have hFc := va_free (wc := []) hD hS hA [] rfl
                refine va_calli (va_runS (As := [.int z105]) (rest := []) ⟨hx, hb, hml, hown, hG⟩ (sX13_small_0 l dC dI adK adV H.size z105) (va_cwS 1 hG (zgS zv1874 zv1875 zv142 zv1876) rfl rfl rfl (by decide +kernel) ⟨Nat.le_of_ble_eq_true rfl, Nat.le_of_ble_eq_true rfl⟩) ⟨zPc_blind, zPc_pre hPc hKc hDc hE hS hFc hZ⟩ rfl rfl hl.1 rfl (lv_room (Nat.le_of_ble_eq_true rfl)) dX13_isRun_106 ⟨Nat.le_of_ble_eq_true rfl, Nat.le_of_ble_eq_true rfl⟩) hS (fun q _ h => hFc q h) hFc (fun r106_ u106_ t H1 locs ht hvm hw hB hz1 hk1 hS => ?_)
                replace hw : (r106_.toInt = zSml z105.toInt) := hw
                have hX106_0 := hw
                obtain ⟨w106_, a106_, b106_, hP1, hK1, hD1⟩ := hB
                rw [ht] at hP1
                obtain ⟨hP, hD⟩ := va_join (wr := [(h0, .inr (13, mX13 q0 v0)), ((q0 0), zi k1 600 f1)]) (w1 := []) hP hD [] [0, 1] rfl rfl (by decide) (by decide) hk1 hFc hP1 hD1
                have hP : va_P (dC, dI) vwCl [(h0, .inr (13, mX13 q0 v0)), ((q0 0), zi k1 600 f1)] H1 := hP.sub [0, 1] rfl
                have hD : va_D A [(h0, .inr (13, mX13 q0 v0)), ((q0 0), zi k1 600 f1)] := hD.sub [0, 1] (by decide) rfl
                generalize H1 = H at hP hS ⊢
                clear hz1
                refine lv_iload_n hx hb dX13_isRun_109 rfl (lv_at hl 4 rfl) ?_
                have b_ : -2147483648 ≤ r106_.toInt ∧ r106_.toInt ≤ 2147483647 := ⟨zlo _, zhi _⟩
                have b_ : -2147483648 ≤ x3.toInt ∧ x3.toInt ≤ 2147483647 := ⟨zlo _, zhi _⟩
                refine lv_icmp_ne (tgt := 167) hx hb dX13_isRun_110 (by decide) (fun c_ => ?_) (fun c_ => ?_)
                · skip
                  have b_ := zT_ne rfl rfl c_
                  refine lv_iconst (v := 0) hx hb dX13_isRun_167 (by decide) ?_
                  refine W.widen (k := 0) (n := 0) (by decide) (by decide) ?_
                  have hpost : (0 ≤ (0 : Int32).toInt ∧ (0 : Int32).toInt ≤ 1) ∧ ((0 : Int32).toInt = 1 → (v0 36).toInt = 1) := ⟨(by first | with_reducible assumption | exact ⟨by omega, by omega⟩), by omega⟩
                  have hP9 : va_P (dC, dI) vwCl [(h0, .inr (13, mX13 q0 v0)), ((q0 0), zi k1 600 f1)] H := hP
                  have hD9 : va_D A [(h0, .inr (13, mX13 q0 v0)), ((q0 0), zi k1 600 f1)] := hD
                  exact W.zret (v := 0) hx hb hr rfl (fun t ht hW => ⟨⟨0, (fun _ => 0), rfl, hpost, (fun _ => 0), (fun _ => (fun _ => 0)), (fun _ => (fun _ => 0)), by rw [ht]; exact hP9, va_K.moved hW.alike hK, hD9⟩, hS.F ht⟩) hS.2.2 dX13_isRun_168
                · skip
                  have b_ := zF_ne rfl rfl c_
                  have hc : va_P (dC, dI) vwCl [(h0, .inr (13, mX13 q0 v0)), ((q0 0), zi k1 600 f1)] H ∧ va_D A [(h0, .inr (13, mX13 q0 v0)), ((q0 0), zi k1 600 f1)] ∧ va_S A s.heap H locs ∧ lv_has ls 7 [(0, .ref h0), (1, .int x1), (2, .int x2), (3, .int x3), (4, .int x4), (5, .int x5), (6, .int (u37_ 0))] := ⟨hP, hD, hS, lv_sub hl [1, 2, 3, 4, 5, 6, 0] rfl⟩
                  exact hJ113 H locs ls (fun _ => 0) (fun _ => 0) (fun _ => (fun _ => 0)) (fun _ => (fun _ => 0)) hc
          · skip
            have b_ := zF_eq rfl rfl c_
            refine lv_iconst (v := 0) hx hb dX13_isRun_87 (by decide) ?_
            refine W.widen (k := 0) (n := 0) (by decide) (by decide) ?_
            have hpost : (0 ≤ (0 : Int32).toInt ∧ (0 : Int32).toInt ≤ 1) ∧ ((0 : Int32).toInt = 1 → (v0 36).toInt = 1) := ⟨(by first | with_reducible assumption | exact ⟨by omega, by omega⟩), by omega⟩
            have hP9 : va_P (dC, dI) vwCl [(h0, .inr (13, mX13 q0 v0)), ((q0 0), zi k1 600 f1)] H := hP
            have hD9 : va_D A [(h0, .inr (13, mX13 q0 v0)), ((q0 0), zi k1 600 f1)] := hD
            exact W.zret (v := 0) hx hb hr rfl (fun t ht hW => ⟨⟨0, (fun _ => 0), rfl, hpost, (fun _ => 0), (fun _ => (fun _ => 0)), (fun _ => (fun _ => 0)), by rw [ht]; exact hP9, va_K.moved hW.alike hK, hD9⟩, hS.F ht⟩) hS.2.2 dX13_isRun_88
    · skip
      have b_ : -2147483648 ≤ x5.toInt ∧ x5.toInt ≤ 2147483647 := ⟨zlo _, zhi _⟩
      refine lv_if_eq (tgt := 19) hx hb dX13_isRun_12 (by decide) (fun c_ => ?_) (fun c_ => ?_)
      · skip
        have b_ := zT_eq rfl zk_0 c_
        refine lv_iload hx hb dX13_isRun_19 (lv_at hl 4 rfl) ?_
        have b_ : -2147483648 ≤ x4.toInt ∧ x4.toInt ≤ 2147483647 := ⟨zlo _, zhi _⟩
        refine lv_if_eq (tgt := 28) hx hb dX13_isRun_21 (by decide) (fun c_ => ?_) (fun c_ => ?_)
        · skip
          have b_ := zT_eq rfl zk_0 c_
          refine lv_iload_n hx hb dX13_isRun_28 rfl (lv_at hl 3 rfl) ?_
          have b_ : -2147483648 ≤ x3.toInt ∧ x3.toInt ≤ 2147483647 := ⟨zlo _, zhi _⟩
          refine lv_if_eq (tgt := 36) hx hb dX13_isRun_29 (by decide) (fun c_ => ?_) (fun c_ => ?_)
          · skip
            have b_ := zT_eq rfl zk_0 c_
            refine lv_iconst (v := 2) hx hb dX13_isRun_36 (by decide) ?_
            have hc : va_P (dC, dI) vwCl [(h0, .inr (13, mX13 q0 v0)), ((q0 0), zi k1 600 f1)] s.heap ∧ va_D A [(h0, .inr (13, mX13 q0 v0)), ((q0 0), zi k1 600 f1)] ∧ va_S A s.heap s.heap [] ∧ lv_has ls 7 [(0, .ref h0), (1, .int x1), (2, .int x2), (3, .int x3), (4, .int x4), (5, .int x5)] ∧ (2 ≤ (2 : Int32).toInt ∧ (2 : Int32).toInt ≤ 5) := ⟨hP, hD, hS, lv_sub hl [0, 1, 2, 3, 4, 5] rfl, (by first | with_reducible assumption | exact ⟨by omega, by omega⟩)⟩
            exact hJ37 s.heap [] ls (fun i => ([2] : List (Int32)).getD i 0) (fun _ => 0) (fun _ => (fun _ => 0)) (fun _ => (fun _ => 0)) hc
          · skip
            have b_ := zF_eq rfl zk_0 c_
            refine lv_iconst (v := 3) hx hb dX13_isRun_32 (by decide) ?_
            refine lv_goto (tgt := 37) hx hb dX13_isRun_33 (by decide) ?_
            have hc : va_P (dC, dI) vwCl [(h0, .inr (13, mX13 q0 v0)), ((q0 0), zi k1 600 f1)] s.heap ∧ va_D A [(h0, .inr (13, mX13 q0 v0)), ((q0 0), zi k1 600 f1)] ∧ va_S A s.heap s.heap [] ∧ lv_has ls 7 [(0, .ref h0), (1, .int x1), (2, .int x2), (3, .int x3), (4, .int x4), (5, .int x5)] ∧ (2 ≤ (3 : Int32).toInt ∧ (3 : Int32).toInt ≤ 5) := ⟨hP, hD, hS, lv_sub hl [0, 1, 2, 3, 4, 5] rfl, (by first | with_reducible assumption | exact ⟨by omega, by omega⟩)⟩
            exact hJ37 s.heap [] ls (fun i => ([3] : List (Int32)).getD i 0) (fun _ => 0) (fun _ => (fun _ => 0)) (fun _ => (fun _ => 0)) hc
        · skip
          have b_ := zF_eq rfl zk_0 c_
          refine lv_iconst (v := 4) hx hb dX13_isRun_24 (by decide) ?_
          refine lv_goto (tgt := 37) hx hb dX13_isRun_25 (by decide) ?_
          have hc : va_P (dC, dI) vwCl [(h0, .inr (13, mX13 q0 v0)), ((q0 0), zi k1 600 f1)] s.heap ∧ va_D A [(h0, .inr (13, mX13 q0 v0)), ((q0 0), zi k1 600 f1)] ∧ va_S A s.heap s.heap [] ∧ lv_has ls 7 [(0, .ref h0), (1, .int x1), (2, .int x2), (3, .int x3), (4, .int x4), (5, .int x5)] ∧ (2 ≤ (4 : Int32).toInt ∧ (4 : Int32).toInt ≤ 5) := ⟨hP, hD, hS, lv_sub hl [0, 1, 2, 3, 4, 5] rfl, (by first | with_reducible assumption | exact ⟨by omega, by omega⟩)⟩
          exact hJ37 s.heap [] ls (fun i => ([4] : List (Int32)).getD i 0) (fun _ => 0) (fun _ => (fun _ => 0)) (fun _ => (fun _ => 0)) hc
      · skip
        have b_ := zF_eq rfl zk_0 c_
        refine lv_iconst (v := 5) hx hb dX13_isRun_15 (by decide) ?_
        refine lv_goto (tgt := 37) hx hb dX13_isRun_16 (by decide) ?_
        have hc : va_P (dC, dI) vwCl [(h0, .inr (13, mX13 q0 v0)), ((q0 0), zi k1 600 f1)] s.heap ∧ va_D A [(h0, .inr (13, mX13 q0 v0)), ((q0 0), zi k1 600 f1)] ∧ va_S A s.heap s.heap [] ∧ lv_has ls 7 [(0, .ref h0), (1, .int x1), (2, .int x2), (3, .int x3), (4, .int x4), (5, .int x5)] ∧ (2 ≤ (5 : Int32).toInt ∧ (5 : Int32).toInt ≤ 5) := ⟨hP, hD, hS, lv_sub hl [0, 1, 2, 3, 4, 5] rfl, (by first | with_reducible assumption | exact ⟨by omega, by omega⟩)⟩
        exact hJ37 s.heap [] ls (fun i => ([5] : List (Int32)).getD i 0) (fun _ => 0) (fun _ => (fun _ => 0)) (fun _ => (fun _ => 0)) hc
  · skip
    have b_ := zF_eq rfl zk_1 c_
    refine lv_iconst (v := 0) hx hb dX13_isRun_8 (by decide) ?_
    refine W.widen (k := 0) (n := 0) (by decide) (by decide) ?_
    have hpost : (0 ≤ (0 : Int32).toInt ∧ (0 : Int32).toInt ≤ 1) ∧ ((0 : Int32).toInt = 1 → (v0 36).toInt = 1) := ⟨(by first | with_reducible assumption | exact ⟨by omega, by omega⟩), by omega⟩
    have hP9 : va_P (dC, dI) vwCl [(h0, .inr (13, mX13 q0 v0)), ((q0 0), zi k1 600 f1)] s.heap := hP
    have hD9 : va_D A [(h0, .inr (13, mX13 q0 v0)), ((q0 0), zi k1 600 f1)] := hD
    exact W.zret (v := 0) hx hb hr rfl (fun t ht hW => ⟨⟨0, (fun _ => 0), rfl, hpost, (fun _ => 0), (fun _ => (fun _ => 0)), (fun _ => (fun _ => 0)), by rw [ht]; exact hP9, va_K.moved hW.alike hK, hD9⟩, hS.F ht⟩) hS.2.2 dX13_isRun_9
set_option maxHeartbeats 8000000 in
set_option maxRecDepth 100000 in
theorem sX13_isOr_0 (l : Launch) (dC : Nat → ClassId) (dI : Nat → Nat → Nat) (adK adV : Nat → Nat) (h0 : Nat) (q0 : Nat → Nat) (k1 : ClassId) (sz : Nat) (v0 : Nat → Int32) (f1 : Nat → Int32) (hv0 : zR rg_Model v0) : Met l yX13_isOr (zw yX13_isOr cX13_isOr 1 (some .boolean)) { frames := 3, cells := 0, slots := 0, locals := 66 } (zPc dC dI adK adV [.ref h0] sz [(h0, .inr (13, mX13 q0 v0)), ((q0 0), zi k1 600 f1)] [(k1, .byte)]) (va_Qi (fun (r : Int32) (u : Nat → Int32) => (0 ≤ r.toInt ∧ r.toInt ≤ 1) ∧ (r.toInt = 1 → (v0 36).toInt = 1)) (fun (u : Nat → Int32) (t : State) => ∃ (ww : Nat → Int64) (aa : Nat → Nat → Int32) (bb : Nat → Nat → Int64), va_P (dC, dI) vwCl [(h0, .inr (13, mX13 q0 v0)), ((q0 0), zi k1 600 f1)] t.heap ∧ va_K (dC, dI) vwCl [(k1, .byte)] t ∧ va_D (va_A [(h0, .inr (13, mX13 q0 v0)), ((q0 0), zi k1 600 f1)] sz) [(h0, .inr (13, mX13 q0 v0)), ((q0 0), zi k1 600 f1)]) (va_A [(h0, .inr (13, mX13 q0 v0)), ((q0 0), zi k1 600 f1)] sz)) 0 0 (va_A [(h0, .inr (13, mX13 q0 v0)), ((q0 0), zi k1 600 f1)] sz) := by
  refine Met.ofW (cc := cX13_isOr) (maxL := 1) (ret := (some .boolean)) (by decide) rfl ?_
  intro p e s m args below meth c s₁ B hml hv
  obtain ⟨rfl, hsz, hP, hK, hD0, hE, hZ⟩ := hv
  have hx := B.exec
  have hb := B.bytes
  have hr := B.returns
  have hG : ∀ w ∈ zG, w.before _ s = true := fun w h => atoms_spec (ws := (zw yX13_isOr cX13_isOr 1 (some .boolean))) B.pre w (List.mem_cons_of_mem _ h)
  have hown : s.vm.findClass RX13 = some m.cls := findClass_of_methodNamed B.named
  have hlocks := B.notSynchronized

  subst hsz
  have hD := hD0.self (sz := s.heap.size)
  generalize hAe : va_A [(h0, .inr (13, mX13 q0 v0)), ((q0 0), zi k1 600 f1)] s.heap.size = A at hD hZ ⊢
  have hA : ∀ q : Nat, s.heap.size ≤ q → A q := fun q h => by rw [← hAe]; exact Or.inr h
  have hS : va_S A s.heap s.heap [] := va_S.rf
  have hl := lv_entry ([.ref h0]) (n := 1) (Nat.le_of_ble_eq_true rfl)
  rw [lg_entry_eq]
  generalize (lg_sl ([.ref h0]) ++ List.replicate (1 - (lg_sl ([.ref h0])).length) Slot.unset).toArray = ls at hl ⊢
  have hl : lv_has ls 1 [(0, .ref h0)] := hl
  have b_ : 0 ≤ (v0 36).toInt ∧ (v0 36).toInt ≤ 3 := hv0 36
  refine lv_aload_n hx hb dX13_isOr_0 rfl (lv_at hl 0 rfl) ?_
  refine lv_bipush (v := 111) hx hb dX13_isOr_1 (by decide) ?_
  refine lv_bipush (v := 114) hx hb dX13_isOr_3 (by decide) ?_
  refine lv_iconst (v := 0) hx hb dX13_isOr_5 (by decide) ?_
  refine lv_iconst (v := 0) hx hb dX13_isOr_6 (by decide) ?_
  refine lv_iconst (v := 0) hx hb dX13_isOr_7 (by decide) ?_
  have hPc := hP.sub (ws' := [(h0, .inr (13, mX13 q0 v0)), ((q0 0), zi k1 600 f1)]) [0, 1] rfl
  have hDc := hD.sub (ws' := [(h0, .inr (13, mX13 q0 v0)), ((q0 0), zi k1 600 f1)]) [0, 1] (by decide) rfl
  have hKc := hK.sub (tys' := [(k1, .byte)]) [0] rfl
  have hFc := va_free (wc := [(h0, .inr (13, mX13 q0 v0)), ((q0 0), zi k1 600 f1)]) hD hS hA [0, 1] rfl
  refine va_calli (va_runV (As := [.int 111, .int 114, .int 0, .int 0, .int 0]) (rest := []) ⟨hx, hb, hml, hown, hG⟩ (sX13_isRun_0 l dC dI adK adV h0 q0 k1 s.heap.size v0 f1 111 114 0 0 0 hv0) (cwV 5 hG (zgV zv2070 zv2072 zv88 zv142 zv2073) rfl rfl rfl (by decide +kernel) ⟨Nat.le_of_ble_eq_true rfl, Nat.le_of_ble_eq_true rfl⟩) ⟨zPc_blind, va_recv hKc hPc (ci := 13) (q0 := 0) rfl rfl, zPc_pre hPc hKc hDc hE hS hFc hZ⟩ rfl rfl hl.1 rfl (lv_room (Nat.le_of_ble_eq_true rfl)) dX13_isOr_8 ⟨Nat.le_of_ble_eq_true rfl, Nat.le_of_ble_eq_true rfl⟩) hS (fun q _ h => hFc q h) hFc (fun r8_ u8_ t H1 locs ht hvm hw hB hz1 hk1 hS => ?_)
  replace hw : (0 ≤ r8_.toInt ∧ r8_.toInt ≤ 1) ∧ (r8_.toInt = 1 → (v0 36).toInt = 1) := hw
  obtain ⟨b_, hX8_0⟩ := hw
  obtain ⟨w8_, a8_, b8_, hP1, hK1, hD1⟩ := hB
  rw [ht] at hP1
  obtain ⟨hP, hD⟩ := va_join (wr := []) (w1 := [(h0, .inr (13, mX13 q0 v0)), ((q0 0), zi k1 600 f1)]) hP hD [0, 1] [] rfl rfl (by decide) (by decide) hk1 hFc hP1 hD1
  have hP : va_P (dC, dI) vwCl [(h0, .inr (13, mX13 q0 v0)), ((q0 0), zi k1 600 f1)] H1 := hP.sub [0, 1] rfl
  have hD : va_D A [(h0, .inr (13, mX13 q0 v0)), ((q0 0), zi k1 600 f1)] := hD.sub [0, 1] (by decide) rfl
  generalize H1 = H at hP hS ⊢
  clear hz1
  refine W.widen (k := 0) (n := 0) (by decide) (by decide) ?_
  have hpost : (0 ≤ r8_.toInt ∧ r8_.toInt ≤ 1) ∧ (r8_.toInt = 1 → (v0 36).toInt = 1) := ⟨(by first | with_reducible assumption | exact ⟨by omega, by omega⟩), by omega⟩
  have hP9 : va_P (dC, dI) vwCl [(h0, .inr (13, mX13 q0 v0)), ((q0 0), zi k1 600 f1)] H := hP
  have hD9 : va_D A [(h0, .inr (13, mX13 q0 v0)), ((q0 0), zi k1 600 f1)] := hD
  exact W.zret (v := r8_) hx hb hr (zbn ⟨by omega, by omega⟩) (fun t ht hW => ⟨⟨r8_, (fun _ => 0), rfl, hpost, (fun _ => 0), (fun _ => (fun _ => 0)), (fun _ => (fun _ => 0)), by rw [ht]; exact hP9, va_K.moved hW.alike hK, hD9⟩, hS.F ht⟩) hS.2.2 dX13_isOr_11
