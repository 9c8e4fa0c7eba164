set_option maxHeartbeats 8000000 in
set_option maxRecDepth 100000 in
theorem sX13_sort_0 (l : Launch) (dC : Nat → ClassId) (dI : Nat → Nat → Nat) (adK adV : Nat → Nat) (h0 : Nat) (q0 : Nat → Nat) (k21 : ClassId) (k3 : ClassId) (k2 : ClassId) (sz : Nat) (v0 : Nat → Int32) (f21 : Nat → Int32) (f3 : Nat → Int32) (f2 : Nat → Int32) (hv0 : zR rg_Model v0) (hf21 : zA 0 399 f21) (hf3 : zA 0 12 f3) : Met l yX13_sort (zw yX13_sort cX13_sort 3 none) { frames := 1, cells := 0, slots := 0, locals := 23 } (zPc dC dI adK adV [.ref h0] sz [(h0, .inr (13, mX13 q0 v0)), ((q0 29), zi k21 400 f21), ((q0 3), zi k3 400 f3), ((q0 2), zi k2 4800 f2)] [(k21, .short), (k3, .int), (k2, .byte)]) (va_Qv (fun (u : Nat → Int32) => (1 ≤ (u 0).toInt ∧ (u 0).toInt ≤ 1)) (fun (u : Nat → Int32) (t : State) => ∃ (ww : Nat → Int64) (aa : Nat → Nat → Int32) (bb : Nat → Nat → Int64), zA 0 399 (aa 0) ∧ va_P (dC, dI) vwCl [(h0, .inr (13, mX13 q0 (upd v0 30 (u 0)))), ((q0 29), zi k21 400 (aa 0)), ((q0 3), zi k3 400 f3), ((q0 2), zi k2 4800 f2)] t.heap ∧ va_K (dC, dI) vwCl [(k21, .short), (k3, .int), (k2, .byte)] t ∧ va_D (va_A [(h0, .inr (13, mX13 q0 v0)), ((q0 29), zi k21 400 f21), ((q0 3), zi k3 400 f3), ((q0 2), zi k2 4800 f2)] sz) [(h0, .inr (13, mX13 q0 (upd v0 30 (u 0)))), ((q0 29), zi k21 400 (aa 0)), ((q0 3), zi k3 400 f3), ((q0 2), zi k2 4800 f2)]) (va_A [(h0, .inr (13, mX13 q0 v0)), ((q0 29), zi k21 400 f21), ((q0 3), zi k3 400 f3), ((q0 2), zi k2 4800 f2)] sz)) 0 0 (va_A [(h0, .inr (13, mX13 q0 v0)), ((q0 29), zi k21 400 f21), ((q0 3), zi k3 400 f3), ((q0 2), zi k2 4800 f2)] sz) := by
  refine Met.ofW (cc := cX13_sort) (maxL := 3) (ret := none) (by decide) rfl ?_
  intro p e s m args below meth c s₁ B hml hv
  obtain ⟨rfl, hsz, hP, hK, hD0, hE, hZ⟩ := hv
  have hx := B.exec
  have hb := B.bytes
  have hr := B.returns
  have hG : ∀ w ∈ zG, w.before _ s = true := fun w h => atoms_spec (ws := (zw yX13_sort cX13_sort 3 none)) B.pre w (List.mem_cons_of_mem _ h)
  have hown : s.vm.findClass RX13 = some m.cls := findClass_of_methodNamed B.named
  have hlocks := B.notSynchronized

  subst hsz
  have hD := hD0.self (sz := s.heap.size)
  generalize hAe : va_A [(h0, .inr (13, mX13 q0 v0)), ((q0 29), zi k21 400 f21), ((q0 3), zi k3 400 f3), ((q0 2), zi k2 4800 f2)] s.heap.size = A at hD hZ ⊢
  have hA : ∀ q : Nat, s.heap.size ≤ q → A q := fun q h => by rw [← hAe]; exact Or.inr h
  have hS : va_S A s.heap s.heap [] := va_S.rf
  have hl := lv_entry ([.ref h0]) (n := 3) (Nat.le_of_ble_eq_true rfl)
  rw [lg_entry_eq]
  generalize (lg_sl ([.ref h0]) ++ List.replicate (3 - (lg_sl ([.ref h0])).length) Slot.unset).toArray = ls at hl ⊢
  have hl : lv_has ls 3 [(0, .ref h0)] := hl
  have b_ := zk_0
  have b_ := zk_1
  refine lv_iconst (v := 0) hx hb dX13_sort_0 (by decide) ?_
  refine lv_istore_n (lv' := [(1, .int 0), (0, .ref h0)]) hx hb dX13_sort_1 rfl hl (by decide) rfl (fun ls hl => ?_)
  refine zcutL (fun u2_ => (400 - (u2_ 0).toInt).toNat) (fun H locs ls u2_ w2_ a2_ b2_ => va_P (dC, dI) vwCl [(h0, .inr (13, mX13 q0 v0)), ((q0 29), zi k21 400 (a2_ 0)), ((q0 3), zi k3 400 f3), ((q0 2), zi k2 4800 f2)] H ∧ va_D A [(h0, .inr (13, mX13 q0 v0)), ((q0 29), zi k21 400 (a2_ 0)), ((q0 3), zi k3 400 f3), ((q0 2), zi k2 4800 f2)] ∧ va_S A s.heap H locs ∧ lv_has ls 3 [(0, .ref h0), (1, .int (u2_ 0))] ∧ zA 0 399 (a2_ 0) ∧ (0 ≤ (u2_ 0).toInt ∧ (u2_ 0).toInt ≤ 400)) (fun ls u2_ w2_ => F0 m 2 ls []) 0 0 ?_ (fun hJ2 => ?_)
  · skip
    intro H locs ls u2_ w2_ a2_ b2_ hc hJ2
    obtain ⟨hP, hD, hS, hl, ha2_0, b_⟩ := hc
    refine lv_iload_n hx hb dX13_sort_2 rfl (lv_at hl 1 rfl) ?_
    refine lv_aload_n hx hb dX13_sort_3 rfl (lv_at hl 0 rfl) ?_
    have b_ : 0 ≤ (v0 4).toInt ∧ (v0 4).toInt ≤ 400 := hv0 4
    refine va_get (D := (dC, dI)) (ci := 13) (v := .int (v0 4)) (C := RX13) (T := TX13) (N := 75) hx hb hG zuX13 hown hK hP 0 rfl rfl 4 (by decide) (hG _ zv1608) (fun _ h9 => h9) rfl dX13_sort_4 ?_
    refine lv_icmp_ge (tgt := 66) hx hb dX13_sort_7 (by decide) (fun c_ => ?_) (fun c_ => ?_)
    · skip
      have b_ := zT_ge rfl rfl c_
      refine lv_aload_n hx hb dX13_sort_66 rfl (lv_at hl 0 rfl) ?_
      refine lv_iconst (v := 1) hx hb dX13_sort_67 (by decide) ?_
      refine va_put (D := (dC, dI)) (ci := 13) (v := .int 1) (ty := .boolean) (C := RX13) (T := TX13) (N := 75) hx hb hG zuX13 tyX13 tyX13_ok nmX13 hown hK hP hD hS 0 rfl rfl 30 (by decide) (hG _ zv1634) (fun _ h9 => h9) rfl (by decide +kernel) rfl rfl (Nat.le_of_ble_eq_true rfl) dX13_sort_68 (fun H locs hP hD hS => ?_)
      have hP : va_P (dC, dI) vwCl [(h0, .inr (13, mX13 q0 (upd v0 30 1))), ((q0 29), zi k21 400 (a2_ 0)), ((q0 3), zi k3 400 f3), ((q0 2), zi k2 4800 f2)] H := hP
      have hD : va_D A [(h0, .inr (13, mX13 q0 (upd v0 30 1))), ((q0 29), zi k21 400 (a2_ 0)), ((q0 3), zi k3 400 f3), ((q0 2), zi k2 4800 f2)] := hD
      refine W.widen (k := 0) (n := 0) (by decide) (by decide) ?_
      have hpost : (1 ≤ (1 : Int32).toInt ∧ (1 : Int32).toInt ≤ 1) := (by first | with_reducible assumption | exact ⟨by omega, by omega⟩)
      have hP9 : va_P (dC, dI) vwCl [(h0, .inr (13, mX13 q0 (upd v0 30 1))), ((q0 29), zi k21 400 (a2_ 0)), ((q0 3), zi k3 400 f3), ((q0 2), zi k2 4800 f2)] H := hP
      have hD9 : va_D A [(h0, .inr (13, mX13 q0 (upd v0 30 1))), ((q0 29), zi k21 400 (a2_ 0)), ((q0 3), zi k3 400 f3), ((q0 2), zi k2 4800 f2)] := hD
      exact W.vret hx hb hr (fun t ht hW => ⟨⟨(fun i => ([1] : List (Int32)).getD i 0), rfl, hpost, (fun _ => 0), (fun i => ([(a2_ 0)] : List (Nat → Int32)).getD i (fun _ => 0)), (fun _ => (fun _ => 0)), ha2_0, by rw [ht]; exact hP9, va_K.moved hW.alike hK, hD9⟩, hS.F ht⟩) hS.2.2 dX13_sort_71
    · skip
      have b_ := zF_ge rfl rfl c_
      refine lv_iload_n hx hb dX13_sort_10 rfl (lv_at hl 1 rfl) ?_
      refine lv_istore_n (lv' := [(2, .int (u2_ 0)), (0, .ref h0), (1, .int (u2_ 0))]) hx hb dX13_sort_11 rfl hl (by decide) rfl (fun ls hl => ?_)
      refine zcutL (fun u12_ => ((u12_ 0).toInt - 0).toNat) (fun H locs ls u12_ w12_ a12_ b12_ => va_P (dC, dI) vwCl [(h0, .inr (13, mX13 q0 v0)), ((q0 29), zi k21 400 (a12_ 0)), ((q0 3), zi k3 400 f3), ((q0 2), zi k2 4800 f2)] H ∧ va_D A [(h0, .inr (13, mX13 q0 v0)), ((q0 29), zi k21 400 (a12_ 0)), ((q0 3), zi k3 400 f3), ((q0 2), zi k2 4800 f2)] ∧ va_S A s.heap H locs ∧ lv_has ls 3 [(0, .ref h0), (1, .int (u2_ 0)), (2, .int (u12_ 0))] ∧ zA 0 399 (a12_ 0) ∧ (0 ≤ (u12_ 0).toInt ∧ (u12_ 0).toInt ≤ 399)) (fun ls u12_ w12_ => F0 m 12 ls []) 0 0 ?_ (fun hJ12 => ?_)
      · skip
        intro H locs ls u12_ w12_ a12_ b12_ hc hJ12
        obtain ⟨hP, hD, hS, hl, ha12_0, b_⟩ := hc
        refine lv_iload_n hx hb dX13_sort_12 rfl (lv_at hl 2 rfl) ?_
        refine zcutW (fun H locs ls u52_ w52_ a52_ b52_ => va_P (dC, dI) vwCl [(h0, .inr (13, mX13 q0 v0)), ((q0 29), zi k21 400 (a12_ 0)), ((q0 3), zi k3 400 f3), ((q0 2), zi k2 4800 f2)] H ∧ va_D A [(h0, .inr (13, mX13 q0 v0)), ((q0 29), zi k21 400 (a12_ 0)), ((q0 3), zi k3 400 f3), ((q0 2), zi k2 4800 f2)] ∧ va_S A s.heap H locs ∧ lv_has ls 3 [(0, .ref h0), (1, .int (u2_ 0)), (2, .int (u12_ 0))] ∧ (0 ≤ (u12_ 0).toInt ∧ (u12_ 0).toInt ≤ 399)) (fun ls u52_ w52_ => F0 m 52 ls []) 0 0 ?_ (fun hJ52 => ?_)
        · skip
          intro H locs ls u52_ w52_ a52_ b52_ hc
          obtain ⟨hP, hD, hS, hl, b_⟩ := hc
          refine lv_aload_n hx hb dX13_sort_52 rfl (lv_at hl 0 rfl) ?_
          refine va_get (D := (dC, dI)) (ci := 13) (v := .ref (q0 29)) (C := RX13) (T := TX13) (N := 75) hx hb hG zuX13 hown hK hP 0 rfl rfl 29 (by decide) (hG _ zv1633) (fun _ h9 => h9) rfl dX13_sort_53 ?_
          refine lv_iload_n hx hb dX13_sort_56 rfl (lv_at hl 2 rfl) ?_
          refine lv_iload_n hx hb dX13_sort_57 rfl (lv_at hl 1 rfl) ?_
          refine lv_i2s hx hb dX13_sort_58 rfl ?_
          refine lv_topi (fun z58 e_z58 => ?_)
          have b_ := zi2s rfl e_z58 (by omega) (by omega)
          refine va_sast hx hb hK hP hD hS 1 0 rfl rfl (zin_lit ⟨by omega, by omega⟩) dX13_sort_59 (fun H locs hP hD hS => ?_)
          obtain ⟨f_59, e_f_59⟩ : ∃ z : Nat → Int32, z = upd (a12_ 0) ((u12_ 0) : Int32).toNatClampNeg (vp_nar .short z58) := ⟨_, rfl⟩
          have hP : va_P (dC, dI) vwCl [(h0, .inr (13, mX13 q0 v0)), ((q0 29), zi k21 400 f_59), ((q0 3), zi k3 400 f3), ((q0 2), zi k2 4800 f2)] H := by rw [e_f_59]; exact hP
          have hD : va_D A [(h0, .inr (13, mX13 q0 v0)), ((q0 29), zi k21 400 f_59), ((q0 3), zi k3 400 f3), ((q0 2), zi k2 4800 f2)] := by rw [e_f_59]; exact hD
          have hf_59 : zA 0 399 f_59 := by rw [e_f_59]; exact zA_updS ha12_0 (show 0 ≤ (z58 : Int32).toInt from by omega) (show (z58 : Int32).toInt ≤ 399 from by omega)
          obtain ⟨z60, e_z60⟩ : ∃ z : Int32, z = (u2_ 0) + Int32.ofInt 1 := ⟨_, rfl⟩
          have b_ := zadd (x := (u2_ 0)) (y := Int32.ofInt 1) rfl (show (Int32.ofInt 1).toInt = 1 from by decide) e_z60 (by omega) (by omega)
          refine lv_iinc (v := z60) (lv' := [(1, .int z60), (0, .ref h0), (2, .int (u12_ 0))]) hx hb dX13_sort_60 hl (k := 1) rfl e_z60.symm (by decide) rfl (fun ls hl => ?_)
          refine lv_goto (tgt := 2) hx hb dX13_sort_63 (by decide) ?_
          have hc : va_P (dC, dI) vwCl [(h0, .inr (13, mX13 q0 v0)), ((q0 29), zi k21 400 f_59), ((q0 3), zi k3 400 f3), ((q0 2), zi k2 4800 f2)] H ∧ va_D A [(h0, .inr (13, mX13 q0 v0)), ((q0 29), zi k21 400 f_59), ((q0 3), zi k3 400 f3), ((q0 2), zi k2 4800 f2)] ∧ va_S A s.heap H locs ∧ lv_has ls 3 [(0, .ref h0), (1, .int z60)] ∧ zA 0 399 f_59 ∧ (0 ≤ z60.toInt ∧ z60.toInt ≤ 400) := ⟨hP, hD, hS, lv_sub hl [1, 0] rfl, hf_59, (by first | with_reducible assumption | exact ⟨by omega, by omega⟩)⟩
          exact hJ2 H locs ls (fun i => ([z60] : List (Int32)).getD i 0) (fun _ => 0) (fun i => ([f_59] : List (Nat → Int32)).getD i (fun _ => 0)) (fun _ => (fun _ => 0)) hc (show (400 - z60.toInt).toNat < (400 - (u2_ 0).toInt).toNat from by omega)
        · skip
          refine lv_if_le (tgt := 52) hx hb dX13_sort_13 (by decide) (fun c_ => ?_) (fun c_ => ?_)
          · skip
            have b_ := zT_le rfl zk_0 c_
            have hc : va_P (dC, dI) vwCl [(h0, .inr (13, mX13 q0 v0)), ((q0 29), zi k21 400 (a12_ 0)), ((q0 3), zi k3 400 f3), ((q0 2), zi k2 4800 f2)] H ∧ va_D A [(h0, .inr (13, mX13 q0 v0)), ((q0 29), zi k21 400 (a12_ 0)), ((q0 3), zi k3 400 f3), ((q0 2), zi k2 4800 f2)] ∧ va_S A s.heap H locs ∧ lv_has ls 3 [(0, .ref h0), (1, .int (u2_ 0)), (2, .int (u12_ 0))] ∧ (0 ≤ (u12_ 0).toInt ∧ (u12_ 0).toInt ≤ 399) := ⟨hP, hD, hS, lv_sub hl [0, 1, 2] rfl, (by first | with_reducible assumption | exact ⟨by omega, by omega⟩)⟩
            exact hJ52 H locs ls (fun _ => 0) (fun _ => 0) (fun _ => (fun _ => 0)) (fun _ => (fun _ => 0)) hc
          · skip
            have b_ := zF_le rfl zk_0 c_
            refine lv_aload_n hx hb dX13_sort_16 rfl (lv_at hl 0 rfl) ?_
            refine lv_aload_n hx hb dX13_sort_17 rfl (lv_at hl 0 rfl) ?_
            refine va_get (D := (dC, dI)) (ci := 13) (v := .ref (q0 29)) (C := RX13) (T := TX13) (N := 75) hx hb hG zuX13 hown hK hP 0 rfl rfl 29 (by decide) (hG _ zv1633) (fun _ h9 => h9) rfl dX13_sort_18 ?_
            refine lv_iload_n hx hb dX13_sort_21 rfl (lv_at hl 2 rfl) ?_
            refine lv_iconst (v := 1) hx hb dX13_sort_22 (by decide) ?_
            refine lv_isub hx hb dX13_sort_23 ?_
            refine lv_topi (fun z23 e_z23 => ?_)
            have b_ := zsub rfl zk_1 e_z23 (by omega) (by omega)
            refine va_sald hx hb hK hP 1 0 rfl rfl (zin_lit ⟨by omega, by omega⟩) dX13_sort_24 ?_
            refine lv_topi (fun z24 e_z24 => ?_)
            have b_ : 0 ≤ z24.toInt ∧ z24.toInt ≤ 399 := by rw [e_z24]; exact ha12_0 _
            refine lv_iload_n hx hb dX13_sort_25 rfl (lv_at hl 1 rfl) ?_
            have hPc := hP.sub (ws' := [(h0, .inr (13, mX13 q0 v0)), ((q0 3), zi k3 400 f3), ((q0 2), zi k2 4800 f2)]) [0, 2, 3] rfl
            have hDc := hD.sub (ws' := [(h0, .inr (13, mX13 q0 v0)), ((q0 3), zi k3 400 f3), ((q0 2), zi k2 4800 f2)]) [0, 2, 3] (by decide) rfl
            have hKc := hK.sub (tys' := [(k3, .int), (k2, .byte)]) [1, 2] rfl
            have hFc := va_free (wc := [(h0, .inr (13, mX13 q0 v0)), ((q0 3), zi k3 400 f3), ((q0 2), zi k2 4800 f2)]) hD hS hA [0, 2, 3] rfl
            refine va_calli (va_runV (As := [.int z24, .int (u2_ 0)]) (rest := []) ⟨hx, hb, hml, hown, hG⟩ (sX13_order_0 l dC dI adK adV h0 q0 k3 k2 H.size v0 f3 f2 z24 (u2_ 0) hv0 hf3 (show (0 : Int) ≤ (z24 : Int32).toInt ∧ (z24 : Int32).toInt ≤ (399 : Int) from (by first | with_reducible assumption | exact ⟨by omega, by omega⟩)) (show (0 : Int) ≤ ((u2_ 0) : Int32).toInt ∧ ((u2_ 0) : Int32).toInt ≤ (399 : Int) from (by first | with_reducible assumption | exact ⟨by omega, by omega⟩))) (cwV 2 hG (zgV zv2010 zv2012 zv77 zv142 zv2013) rfl rfl rfl (by decide +kernel) ⟨Nat.le_of_ble_eq_true rfl, Nat.le_of_ble_eq_true rfl⟩) ⟨zPc_blind, va_recv hKc hPc (ci := 13) (q0 := 0) rfl rfl, zPc_pre hPc hKc hDc hE hS hFc hZ⟩ rfl rfl hl.1 rfl (lv_room (Nat.le_of_ble_eq_true rfl)) dX13_sort_26 ⟨Nat.le_of_ble_eq_true rfl, Nat.le_of_ble_eq_true rfl⟩) hS (fun q _ h => hFc q h) hFc (fun r26_ u26_ t H1 locs ht hvm hw hB hz1 hk1 hS => ?_)
            obtain ⟨w26_, a26_, b26_, hP1, hK1, hD1⟩ := hB
            rw [ht] at hP1
            obtain ⟨hP, hD⟩ := va_join (wr := [((q0 29), zi k21 400 (a12_ 0))]) (w1 := [(h0, .inr (13, mX13 q0 v0)), ((q0 3), zi k3 400 f3), ((q0 2), zi k2 4800 f2)]) hP hD [0, 2, 3] [1] rfl rfl (by decide) (by decide) hk1 hFc hP1 hD1
            have hP : va_P (dC, dI) vwCl [(h0, .inr (13, mX13 q0 v0)), ((q0 29), zi k21 400 (a12_ 0)), ((q0 3), zi k3 400 f3), ((q0 2), zi k2 4800 f2)] H1 := hP.sub [1, 0, 2, 3] rfl
            have hD : va_D A [(h0, .inr (13, mX13 q0 v0)), ((q0 29), zi k21 400 (a12_ 0)), ((q0 3), zi k3 400 f3), ((q0 2), zi k2 4800 f2)] := hD.sub [1, 0, 2, 3] (by decide) rfl
            generalize H1 = H at hP hS ⊢
            clear hz1
            have b_ : -2147483648 ≤ r26_.toInt ∧ r26_.toInt ≤ 2147483647 := ⟨zlo _, zhi _⟩
            refine lv_if_le (tgt := 52) hx hb dX13_sort_29 (by decide) (fun c_ => ?_) (fun c_ => ?_)
            · skip
              have b_ := zT_le rfl zk_0 c_
              have hc : va_P (dC, dI) vwCl [(h0, .inr (13, mX13 q0 v0)), ((q0 29), zi k21 400 (a12_ 0)), ((q0 3), zi k3 400 f3), ((q0 2), zi k2 4800 f2)] H ∧ va_D A [(h0, .inr (13, mX13 q0 v0)), ((q0 29), zi k21 400 (a12_ 0)), ((q0 3), zi k3 400 f3), ((q0 2), zi k2 4800 f2)] ∧ va_S A s.heap H locs ∧ lv_has ls 3 [(0, .ref h0), (1, .int (u2_ 0)), (2, .int (u12_ 0))] ∧ (0 ≤ (u12_ 0).toInt ∧ (u12_ 0).toInt ≤ 399) := ⟨hP, hD, hS, lv_sub hl [0, 1, 2] rfl, (by first | with_reducible assumption | exact ⟨by omega, by omega⟩)⟩
              exact hJ52 H locs ls (fun _ => 0) (fun _ => 0) (fun _ => (fun _ => 0)) (fun _ => (fun _ => 0)) hc
            · skip
              have b_ := zF_le rfl zk_0 c_
              refine lv_aload_n hx hb dX13_sort_32 rfl (lv_at hl 0 rfl) ?_
              refine va_get (D := (dC, dI)) (ci := 13) (v := .ref (q0 29)) (C := RX13) (T := TX13) (N := 75) hx hb hG zuX13 hown hK hP 0 rfl rfl 29 (by decide) (hG _ zv1633) (fun _ h9 => h9) rfl dX13_sort_33 ?_
              refine lv_iload_n hx hb dX13_sort_36 rfl (lv_at hl 2 rfl) ?_
              refine lv_aload_n hx hb dX13_sort_37 rfl (lv_at hl 0 rfl) ?_
              refine va_get (D := (dC, dI)) (ci := 13) (v := .ref (q0 29)) (C := RX13) (T := TX13) (N := 75) hx hb hG zuX13 hown hK hP 0 rfl rfl 29 (by decide) (hG _ zv1633) (fun _ h9 => h9) rfl dX13_sort_38 ?_
              refine lv_iload_n hx hb dX13_sort_41 rfl (lv_at hl 2 rfl) ?_
              refine lv_iconst (v := 1) hx hb dX13_sort_42 (by decide) ?_
              refine lv_isub hx hb dX13_sort_43 ?_
              refine lv_topi (fun z43 e_z43 => ?_)
              have b_ := zsub rfl zk_1 e_z43 (by omega) (by omega)
              refine va_sald hx hb hK hP 1 0 rfl rfl (zin_lit ⟨by omega, by omega⟩) dX13_sort_44 ?_
              refine lv_topi (fun z44 e_z44 => ?_)
              have b_ : 0 ≤ z44.toInt ∧ z44.toInt ≤ 399 := by rw [e_z44]; exact ha12_0 _
              refine va_sast hx hb hK hP hD hS 1 0 rfl rfl (zin_lit ⟨by omega, by omega⟩) dX13_sort_45 (fun H locs hP hD hS => ?_)
              obtain ⟨f_45, e_f_45⟩ : ∃ z : Nat → Int32, z = upd (a12_ 0) ((u12_ 0) : Int32).toNatClampNeg (vp_nar .short z44) := ⟨_, rfl⟩
              have hP : va_P (dC, dI) vwCl [(h0, .inr (13, mX13 q0 v0)), ((q0 29), zi k21 400 f_45), ((q0 3), zi k3 400 f3), ((q0 2), zi k2 4800 f2)] H := by rw [e_f_45]; exact hP
              have hD : va_D A [(h0, .inr (13, mX13 q0 v0)), ((q0 29), zi k21 400 f_45), ((q0 3), zi k3 400 f3), ((q0 2), zi k2 4800 f2)] := by rw [e_f_45]; exact hD
              have hf_45 : zA 0 399 f_45 := by rw [e_f_45]; exact zA_updS ha12_0 (show 0 ≤ (z44 : Int32).toInt from by omega) (show (z44 : Int32).toInt ≤ 399 from by omega)
              obtain ⟨z46, e_z46⟩ : ∃ z : Int32, z = (u12_ 0) + Int32.ofInt (-1) := ⟨_, rfl⟩
              have b_ := zadd (x := (u12_ 0)) (y := Int32.ofInt (-1)) rfl (show (Int32.ofInt (-1)).toInt = (-1) from by decide) e_z46 (by omega) (by omega)
              refine lv_iinc (v := z46) (lv' := [(2, .int z46), (0, .ref h0), (1, .int (u2_ 0))]) hx hb dX13_sort_46 hl (k := 2) rfl e_z46.symm (by decide) rfl (fun ls hl => ?_)
              refine lv_goto (tgt := 12) hx hb dX13_sort_49 (by decide) ?_
              have hc : va_P (dC, dI) vwCl [(h0, .inr (13, mX13 q0 v0)), ((q0 29), zi k21 400 f_45), ((q0 3), zi k3 400 f3), ((q0 2), zi k2 4800 f2)] H ∧ va_D A [(h0, .inr (13, mX13 q0 v0)), ((q0 29), zi k21 400 f_45), ((q0 3), zi k3 400 f3), ((q0 2), zi k2 4800 f2)] ∧ va_S A s.heap H locs ∧ lv_has ls 3 [(0, .ref h0), (1, .int (u2_ 0)), (2, .int z46)] ∧ zA 0 399 f_45 ∧ (0 ≤ z46.toInt ∧ z46.toInt ≤ 399) := ⟨hP, hD, hS, lv_sub hl [1, 2, 0] rfl, hf_45, (by first | with_reducible assumption | exact ⟨by omega, by omega⟩)⟩
              exact hJ12 H locs ls (fun i => ([z46] : List (Int32)).getD i 0) (fun _ => 0) (fun i => ([f_45] : List (Nat → Int32)).getD i (fun _ => 0)) (fun _ => (fun _ => 0)) hc (show (z46.toInt - 0).toNat < ((u12_ 0).toInt - 0).toNat from by omega)
      · skip
        have hc : va_P (dC, dI) vwCl [(h0, .inr (13, mX13 q0 v0)), ((q0 29), zi k21 400 (a2_ 0)), ((q0 3), zi k3 400 f3), ((q0 2), zi k2 4800 f2)] H ∧ va_D A [(h0, .inr (13, mX13 q0 v0)), ((q0 29), zi k21 400 (a2_ 0)), ((q0 3), zi k3 400 f3), ((q0 2), zi k2 4800 f2)] ∧ va_S A s.heap H locs ∧ lv_has ls 3 [(0, .ref h0), (1, .int (u2_ 0)), (2, .int (u2_ 0))] ∧ zA 0 399 (a2_ 0) ∧ (0 ≤ (u2_ 0).toInt ∧ (u2_ 0).toInt ≤ 399) := ⟨hP, hD, hS, lv_sub hl [1, 2, 0] rfl, ha2_0, (by first | with_reducible assumption | exact ⟨by omega, by omega⟩)⟩
        exact hJ12 H locs ls (fun i => ([(u2_ 0)] : List (Int32)).getD i 0) (fun _ => 0) (fun i => ([(a2_ 0)] : List (Nat → Int32)).getD i (fun _ => 0)) (fun _ => (fun _ => 0)) hc
  · skip
    have hc : va_P (dC, dI) vwCl [(h0, .inr (13, mX13 q0 v0)), ((q0 29), zi k21 400 f21), ((q0 3), zi k3 400 f3), ((q0 2), zi k2 4800 f2)] s.heap ∧ va_D A [(h0, .inr (13, mX13 q0 v0)), ((q0 29), zi k21 400 f21), ((q0 3), zi k3 400 f3), ((q0 2), zi k2 4800 f2)] ∧ va_S A s.heap s.heap [] ∧ lv_has ls 3 [(0, .ref h0), (1, .int 0)] ∧ zA 0 399 f21 ∧ (0 ≤ (0 : Int32).toInt ∧ (0 : Int32).toInt ≤ 400) := ⟨hP, hD, hS, lv_sub hl [1, 0] rfl, hf21, (by first | with_reducible assumption | exact ⟨by omega, by omega⟩)⟩
    exact hJ2 s.heap [] ls (fun i => ([0] : List (Int32)).getD i 0) (fun _ => 0) (fun i => ([f21] : List (Nat → Int32)).getD i (fun _ => 0)) (fun _ => (fun _ => 0)) hc
set_option maxHeartbeats 8000000 in
set_option maxRecDepth 100000 in
theorem sX13_letter_0 (l : Launch) (dC : Nat → ClassId) (dI : Nat → Nat → Nat) (adK adV : Nat → Nat) (h0 : Nat) (q0 : Nat → Nat) (k21 : ClassId) (k3 : ClassId) (k2 : ClassId) (sz : Nat) (v0 : Nat → Int32) (f21 : Nat → Int32) (f3 : Nat → Int32) (f2 : Nat → Int32) (x1 : Int32) (x2 : Int32) (hv0 : zR rg_Model v0) (hf21 : zA 0 399 f21) (hf3 : zA 0 12 f3) : Met l yX13_letter (zw yX13_letter cX13_letter 4 (some .int)) { frames := 2, cells := 0, slots := 0, locals := 45 } (zPc dC dI adK adV [.ref h0, .int x1, .int x2] sz [(h0, .inr (13, mX13 q0 v0)), ((q0 29), zi k21 400 f21), ((q0 3), zi k3 400 f3), ((q0 2), zi k2 4800 f2)] [(k21, .short), (k3, .int), (k2, .byte)]) (va_Qi (fun (r : Int32) (u : Nat → Int32) => (0 ≤ (u 0).toInt ∧ (u 0).toInt ≤ 1) ∧ (0 ≤ (u 1).toInt ∧ (u 1).toInt ≤ 1)) (fun (u : Nat → Int32) (t : State) => ∃ (ww : Nat → Int64) (aa : Nat → Nat → Int32) (bb : Nat → Nat → Int64), zA 0 399 (aa 0) ∧ va_P (dC, dI) vwCl [(h0, .inr (13, mX13 q0 (upd (upd v0 21 (u 0)) 30 (u 1)))), ((q0 29), zi k21 400 (aa 0)), ((q0 3), zi k3 400 f3), ((q0 2), zi k2 4800 f2)] t.heap ∧ va_K (dC, dI) vwCl [(k21, .short), (k3, .int), (k2, .byte)] t ∧ va_D (va_A [(h0, .inr (13, mX13 q0 v0)), ((q0 29), zi k21 400 f21), ((q0 3), zi k3 400 f3), ((q0 2), zi k2 4800 f2)] sz) [(h0, .inr (13, mX13 q0 (upd (upd v0 21 (u 0)) 30 (u 1)))), ((q0 29), zi k21 400 (aa 0)), ((q0 3), zi k3 400 f3), ((q0 2), zi k2 4800 f2)]) (va_A [(h0, .inr (13, mX13 q0 v0)), ((q0 29), zi k21 400 f21), ((q0 3), zi k3 400 f3), ((q0 2), zi k2 4800 f2)] sz)) 0 0 (va_A [(h0, .inr (13, mX13 q0 v0)), ((q0 29), zi k21 400 f21), ((q0 3), zi k3 400 f3), ((q0 2), zi k2 4800 f2)] sz) := by
  refine Met.ofW (cc := cX13_letter) (maxL := 4) (ret := (some .int)) (by decide) rfl ?_
  intro p e s m args below meth c s₁ B hml hv
  obtain ⟨rfl, hsz, hP, hK, hD0, hE, hZ⟩ := hv
  have hx := B.exec
  have hb := B.bytes
  have hr := B.returns
  have hG : ∀ w ∈ zG, w.before _ s = true := fun w h => atoms_spec (ws := (zw yX13_letter cX13_letter 4 (some .int))) B.pre w (List.mem_cons_of_mem _ h)
  have hown : s.vm.findClass RX13 = some m.cls := findClass_of_methodNamed B.named
  have hlocks := B.notSynchronized

  subst hsz
  have hD := hD0.self (sz := s.heap.size)
  generalize hAe : va_A [(h0, .inr (13, mX13 q0 v0)), ((q0 29), zi k21 400 f21), ((q0 3), zi k3 400 f3), ((q0 2), zi k2 4800 f2)] s.heap.size = A at hD hZ ⊢
  have hA : ∀ q : Nat, s.heap.size ≤ q → A q := fun q h => by rw [← hAe]; exact Or.inr h
  have hS : va_S A s.heap s.heap [] := va_S.rf
  have hl := lv_entry ([.ref h0, .int x1, .int x2]) (n := 4) (Nat.le_of_ble_eq_true rfl)
  rw [lg_entry_eq]
  generalize (lg_sl ([.ref h0, .int x1, .int x2]) ++ List.replicate (4 - (lg_sl ([.ref h0, .int x1, .int x2])).length) Slot.unset).toArray = ls at hl ⊢
  have hl : lv_has ls 4 [(0, .ref h0), (1, .int x1), (2, .int x2)] := hl
  have b_ := zk_0
  refine lv_aload_n hx hb dX13_letter_0 rfl (lv_at hl 0 rfl) ?_
  refine lv_iconst (v := 0) hx hb dX13_letter_1 (by decide) ?_
  refine va_put (D := (dC, dI)) (ci := 13) (v := .int 0) (ty := .int) (C := RX13) (T := TX13) (N := 75) hx hb hG zuX13 tyX13 tyX13_ok nmX13 hown hK hP hD hS 0 rfl rfl 21 (by decide) (hG _ zv1625) (fun _ h9 => h9) rfl (by decide +kernel) rfl rfl (Nat.le_of_ble_eq_true rfl) dX13_letter_2 (fun H locs hP hD hS => ?_)
  have hP : va_P (dC, dI) vwCl [(h0, .inr (13, mX13 q0 (upd v0 21 0))), ((q0 29), zi k21 400 f21), ((q0 3), zi k3 400 f3), ((q0 2), zi k2 4800 f2)] H := hP
  have hD : va_D A [(h0, .inr (13, mX13 q0 (upd v0 21 0))), ((q0 29), zi k21 400 f21), ((q0 3), zi k3 400 f3), ((q0 2), zi k2 4800 f2)] := hD
  refine lv_iload_n hx hb dX13_letter_5 rfl (lv_at hl 1 rfl) ?_
  refine zcutW (fun H locs ls u21_ w21_ a21_ b21_ => va_P (dC, dI) vwCl [(h0, .inr (13, mX13 q0 (upd v0 21 0))), ((q0 29), zi k21 400 f21), ((q0 3), zi k3 400 f3), ((q0 2), zi k2 4800 f2)] H ∧ va_D A [(h0, .inr (13, mX13 q0 (upd v0 21 0))), ((q0 29), zi k21 400 f21), ((q0 3), zi k3 400 f3), ((q0 2), zi k2 4800 f2)] ∧ va_S A s.heap H locs ∧ lv_has ls 4 [(0, .ref h0), (1, .int x1), (2, .int x2)]) (fun ls u21_ w21_ => F0 m 21 ls []) 0 0 ?_ (fun hJ21 => ?_)
  · skip
    intro H locs ls u21_ w21_ a21_ b21_ hc
    obtain ⟨hP, hD, hS, hl⟩ := hc
    refine lv_aload_n hx hb dX13_letter_21 rfl (lv_at hl 0 rfl) ?_
    have hPc := hP.sub (ws' := [(h0, .inr (13, mX13 q0 (upd v0 21 0)))]) [0] rfl
    have hDc := hD.sub (ws' := [(h0, .inr (13, mX13 q0 (upd v0 21 0)))]) [0] (by decide) rfl
    have hKc := hK.sub (tys' := []) [] rfl
    have hFc := va_free (wc := [(h0, .inr (13, mX13 q0 (upd v0 21 0)))]) hD hS hA [0] rfl
    refine va_calli (va_runV (As := []) (rest := []) ⟨hx, hb, hml, hown, hG⟩ (sX13_refuse_0 l dC dI adK adV h0 q0 H.size (upd v0 21 0) (zR_updF hv0 21 rfl)) (cwV 0 hG (zgV zv1963 zv1965 zv68 zv142 zv1966) rfl rfl rfl (by decide +kernel) ⟨Nat.le_of_ble_eq_true rfl, Nat.le_of_ble_eq_true rfl⟩) ⟨zPc_blind, va_recv hKc hPc (ci := 13) (q0 := 0) rfl rfl, zPc_pre hPc hKc hDc hE hS hFc hZ⟩ rfl rfl hl.1 rfl (lv_room (Nat.le_of_ble_eq_true rfl)) dX13_letter_22 ⟨Nat.le_of_ble_eq_true rfl, Nat.le_of_ble_eq_true rfl⟩) hS (fun q _ h => hFc q h) hFc (fun r22_ u22_ t H1 locs ht hvm hw hB hz1 hk1 hS => ?_)
    replace hw : (0 ≤ r22_.toInt ∧ r22_.toInt ≤ 0) ∧ (1 ≤ (u22_ 0).toInt ∧ (u22_ 0).toInt ≤ 1) := hw
    obtain ⟨b_, b_⟩ := hw
    obtain rfl : r22_ = (0 : Int32) := zeqi.mpr ((show r22_.toInt = 0 from by omega).trans zk_0.symm)
    obtain ⟨w22_, a22_, b22_, hP1, hK1, hD1⟩ := hB
    rw [ht] at hP1
    obtain ⟨hP, hD⟩ := va_join (wr := [((q0 29), zi k21 400 f21), ((q0 3), zi k3 400 f3), ((q0 2), zi k2 4800 f2)]) (w1 := [(h0, .inr (13, mX13 q0 (upd v0 21 (u22_ 0))))]) hP hD [0] [1, 2, 3] rfl rfl (by decide) (by decide) hk1 hFc hP1 hD1
    have hP : va_P (dC, dI) vwCl [(h0, .inr (13, mX13 q0 (upd v0 21 (u22_ 0)))), ((q0 29), zi k21 400 f21), ((q0 3), zi k3 400 f3), ((q0 2), zi k2 4800 f2)] H1 := hP.sub [3, 0, 1, 2] rfl
    have hD : va_D A [(h0, .inr (13, mX13 q0 (upd v0 21 (u22_ 0)))), ((q0 29), zi k21 400 f21), ((q0 3), zi k3 400 f3), ((q0 2), zi k2 4800 f2)] := hD.sub [3, 0, 1, 2] (by decide) rfl
    generalize H1 = H at hP hS ⊢
    clear hz1
    refine W.widen (k := 0) (n := 0) (by decide) (by decide) ?_
    have b_ : 0 ≤ (v0 30).toInt ∧ (v0 30).toInt ≤ 1 := hv0 30
    have hpost : (0 ≤ (u22_ 0).toInt ∧ (u22_ 0).toInt ≤ 1) ∧ (0 ≤ (v0 30).toInt ∧ (v0 30).toInt ≤ 1) := ⟨(by first | with_reducible assumption | exact ⟨by omega, by omega⟩), (by first | with_reducible assumption | exact ⟨by omega, by omega⟩)⟩
    have hP9 : va_P (dC, dI) vwCl [(h0, .inr (13, mX13 q0 (upd (upd v0 21 (u22_ 0)) 30 (v0 30)))), ((q0 29), zi k21 400 f21), ((q0 3), zi k3 400 f3), ((q0 2), zi k2 4800 f2)] H := hP
    have hD9 : va_D A [(h0, .inr (13, mX13 q0 (upd (upd v0 21 (u22_ 0)) 30 (v0 30)))), ((q0 29), zi k21 400 f21), ((q0 3), zi k3 400 f3), ((q0 2), zi k2 4800 f2)] := hD
    exact W.iret (v := 0) hx hb hr (fun t ht hW => ⟨⟨0, (fun i => ([(u22_ 0), (v0 30)] : List (Int32)).getD i 0), rfl, hpost, (fun _ => 0), (fun i => ([f21] : List (Nat → Int32)).getD i (fun _ => 0)), (fun _ => (fun _ => 0)), hf21, by rw [ht]; exact hP9, va_K.moved hW.alike hK, hD9⟩, hS.F ht⟩) hS.2.2 dX13_letter_25
  · skip
    have b_ : -2147483648 ≤ x1.toInt ∧ x1.toInt ≤ 2147483647 := ⟨zlo _, zhi _⟩
    refine lv_if_lt (tgt := 21) hx hb dX13_letter_6 (by decide) (fun c_ => ?_) (fun c_ => ?_)
    · skip
      have b_ := zT_lt rfl zk_0 c_
      have hc : va_P (dC, dI) vwCl [(h0, .inr (13, mX13 q0 (upd v0 21 0))), ((q0 29), zi k21 400 f21), ((q0 3), zi k3 400 f3), ((q0 2), zi k2 4800 f2)] H ∧ va_D A [(h0, .inr (13, mX13 q0 (upd v0 21 0))), ((q0 29), zi k21 400 f21), ((q0 3), zi k3 400 f3), ((q0 2), zi k2 4800 f2)] ∧ va_S A s.heap H locs ∧ lv_has ls 4 [(0, .ref h0), (1, .int x1), (2, .int x2)] := ⟨hP, hD, hS, lv_sub hl [0, 1, 2] rfl⟩
      exact hJ21 H locs ls (fun _ => 0) (fun _ => 0) (fun _ => (fun _ => 0)) (fun _ => (fun _ => 0)) hc
    · skip
      have b_ := zF_lt rfl zk_0 c_
      refine lv_iload_n hx hb dX13_letter_9 rfl (lv_at hl 1 rfl) ?_
      refine lv_aload_n hx hb dX13_letter_10 rfl (lv_at hl 0 rfl) ?_
      have b_ : 0 ≤ (v0 4).toInt ∧ (v0 4).toInt ≤ 400 := hv0 4
      refine va_get (D := (dC, dI)) (ci := 13) (v := .int (v0 4)) (C := RX13) (T := TX13) (N := 75) hx hb hG zuX13 hown hK hP 0 rfl rfl 4 (by decide) (hG _ zv1608) (fun _ h9 => h9) rfl dX13_letter_11 ?_
      refine lv_icmp_ge (tgt := 21) hx hb dX13_letter_14 (by decide) (fun c_ => ?_) (fun c_ => ?_)
      · skip
        have b_ := zT_ge rfl rfl c_
        have hc : va_P (dC, dI) vwCl [(h0, .inr (13, mX13 q0 (upd v0 21 0))), ((q0 29), zi k21 400 f21), ((q0 3), zi k3 400 f3), ((q0 2), zi k2 4800 f2)] H ∧ va_D A [(h0, .inr (13, mX13 q0 (upd v0 21 0))), ((q0 29), zi k21 400 f21), ((q0 3), zi k3 400 f3), ((q0 2), zi k2 4800 f2)] ∧ va_S A s.heap H locs ∧ lv_has ls 4 [(0, .ref h0), (1, .int x1), (2, .int x2)] := ⟨hP, hD, hS, lv_sub hl [0, 1, 2] rfl⟩
        exact hJ21 H locs ls (fun _ => 0) (fun _ => 0) (fun _ => (fun _ => 0)) (fun _ => (fun _ => 0)) hc
      · skip
        have b_ := zF_ge rfl rfl c_
        refine lv_iload_n hx hb dX13_letter_17 rfl (lv_at hl 2 rfl) ?_
        have b_ : -2147483648 ≤ x2.toInt ∧ x2.toInt ≤ 2147483647 := ⟨zlo _, zhi _⟩
        refine lv_if_ge (tgt := 26) hx hb dX13_letter_18 (by decide) (fun c_ => ?_) (fun c_ => ?_)
        · skip
          have b_ := zT_ge rfl zk_0 c_
          refine lv_aload_n hx hb dX13_letter_26 rfl (lv_at hl 0 rfl) ?_
          have b_ : 0 ≤ (v0 30).toInt ∧ (v0 30).toInt ≤ 1 := hv0 30
          refine va_get (D := (dC, dI)) (ci := 13) (v := .int (v0 30)) (C := RX13) (T := TX13) (N := 75) hx hb hG zuX13 hown hK hP 0 rfl rfl 30 (by decide) (hG _ zv1634) (fun _ h9 => h9) rfl dX13_letter_27 ?_
          refine zcutW (fun H locs ls u37_ w37_ a37_ b37_ => va_P (dC, dI) vwCl [(h0, .inr (13, mX13 q0 (upd (upd v0 21 0) 30 (u37_ 0)))), ((q0 29), zi k21 400 (a37_ 0)), ((q0 3), zi k3 400 f3), ((q0 2), zi k2 4800 f2)] H ∧ va_D A [(h0, .inr (13, mX13 q0 (upd (upd v0 21 0) 30 (u37_ 0)))), ((q0 29), zi k21 400 (a37_ 0)), ((q0 3), zi k3 400 f3), ((q0 2), zi k2 4800 f2)] ∧ va_S A s.heap H locs ∧ lv_has ls 4 [(0, .ref h0), (1, .int x1), (2, .int x2)] ∧ zA 0 399 (a37_ 0) ∧ (1 ≤ (u37_ 0).toInt ∧ (u37_ 0).toInt ≤ 1) ∧ (0 ≤ (v0 30).toInt ∧ (v0 30).toInt ≤ 1)) (fun ls u37_ w37_ => F0 m 37 ls []) 0 0 ?_ (fun hJ37 => ?_)
          · skip
            intro H locs ls u37_ w37_ a37_ b37_ hc
            obtain ⟨hP, hD, hS, hl, ha37_0, b_, b_⟩ := hc
            refine lv_aload_n hx hb dX13_letter_37 rfl (lv_at hl 0 rfl) ?_
            refine va_get (D := (dC, dI)) (ci := 13) (v := .ref (q0 29)) (C := RX13) (T := TX13) (N := 75) hx hb hG zuX13 hown hK hP 0 rfl rfl 29 (by decide) (hG _ zv1633) (fun _ h9 => h9) rfl dX13_letter_38 ?_
            refine lv_iload_n hx hb dX13_letter_41 rfl (lv_at hl 1 rfl) ?_
            refine va_sald hx hb hK hP 1 0 rfl rfl (zin_lit ⟨by omega, by omega⟩) dX13_letter_42 ?_
            refine lv_topi (fun z42 e_z42 => ?_)
            have b_ : 0 ≤ z42.toInt ∧ z42.toInt ≤ 399 := by rw [e_z42]; exact ha37_0 _
            refine lv_istore_n (lv' := [(3, .int z42), (0, .ref h0), (1, .int x1), (2, .int x2)]) hx hb dX13_letter_43 rfl hl (by decide) rfl (fun ls hl => ?_)
            refine lv_iload_n hx hb dX13_letter_44 rfl (lv_at hl 3 rfl) ?_
            refine lv_aload_n hx hb dX13_letter_45 rfl (lv_at hl 1 rfl) ?_
            refine va_get (D := (dC, dI)) (ci := 13) (v := .ref (q0 3)) (C := RX13) (T := TX13) (N := 75) hx hb hG zuX13 hown hK hP 0 rfl rfl 3 (by decide) (hG _ zv1607) (fun _ h9 => h9) rfl dX13_letter_46 ?_
            refine lv_iload_n hx hb dX13_letter_49 rfl (lv_at hl 0 rfl) ?_
            refine va_iald hx hb hK hP 2 1 rfl rfl (zin_lit ⟨by omega, by omega⟩) dX13_letter_50 ?_
            refine lv_topi (fun z50 e_z50 => ?_)
            have b_ : 0 ≤ z50.toInt ∧ z50.toInt ≤ 12 := by rw [e_z50]; exact hf3 _
            refine lv_icmp_ge (tgt := 68) hx hb dX13_letter_51 (by decide) (fun c_ => ?_) (fun c_ => ?_)
            · skip
              have b_ := zT_ge rfl rfl c_
              refine lv_iconst (v := 0) hx hb dX13_letter_68 (by decide) ?_
              refine W.widen (k := 0) (n := 0) (by decide) (by decide) ?_
              have hpost : (0 ≤ (0 : Int32).toInt ∧ (0 : Int32).toInt ≤ 1) ∧ (0 ≤ (u37_ 0).toInt ∧ (u37_ 0).toInt ≤ 1) := ⟨(by first | with_reducible assumption | exact ⟨by omega, by omega⟩), (by first | with_reducible assumption | exact ⟨by omega, by omega⟩)⟩
              have hP9 : va_P (dC, dI) vwCl [(h0, .inr (13, mX13 q0 (upd (upd v0 21 0) 30 (u37_ 0)))), ((q0 29), zi k21 400 (a37_ 0)), ((q0 3), zi k3 400 f3), ((q0 2), zi k2 4800 f2)] H := hP
              have hD9 : va_D A [(h0, .inr (13, mX13 q0 (upd (upd v0 21 0) 30 (u37_ 0)))), ((q0 29), zi k21 400 (a37_ 0)), ((q0 3), zi k3 400 f3), ((q0 2), zi k2 4800 f2)] := hD
              exact W.iret (v := 0) hx hb hr (fun t ht hW => ⟨⟨0, (fun i => ([0, (u37_ 0)] : List (Int32)).getD i 0), rfl, hpost, (fun _ => 0), (fun i => ([(a37_ 0)] : List (Nat → Int32)).getD i (fun _ => 0)), (fun _ => (fun _ => 0)), ha37_0, by rw [ht]; exact hP9, va_K.moved hW.alike hK, hD9⟩, hS.F ht⟩) hS.2.2 dX13_letter_69
            · skip
              have b_ := zF_ge rfl rfl c_
              refine lv_aload_n hx hb dX13_letter_54 rfl (lv_at hl 1 rfl) ?_
              refine va_get (D := (dC, dI)) (ci := 13) (v := .ref (q0 2)) (C := RX13) (T := TX13) (N := 75) hx hb hG zuX13 hown hK hP 0 rfl rfl 2 (by decide) (hG _ zv1606) (fun _ h9 => h9) rfl dX13_letter_55 ?_
              refine lv_bipush (v := 12) hx hb dX13_letter_58 (by decide) ?_
              refine lv_iload_n hx hb dX13_letter_60 rfl (lv_at hl 0 rfl) ?_
              refine lv_imul hx hb dX13_letter_61 ?_
              refine lv_topi (fun z61 e_z61 => ?_)
              have b_ := zmul zk_12 rfl e_z61 (by omega) (by omega)
              refine lv_iload_n hx hb dX13_letter_62 rfl (lv_at hl 3 rfl) ?_
              refine lv_iadd hx hb dX13_letter_63 ?_
              refine lv_topi (fun z63 e_z63 => ?_)
              have b_ := zadd rfl rfl e_z63 (by omega) (by omega)
              refine va_bald hx hb hK hP 3 2 rfl rfl (zin_lit ⟨by omega, by omega⟩) dX13_letter_64 ?_
              refine lv_topi (fun z64 e_z64 => ?_)
              refine lv_goto (tgt := 69) hx hb dX13_letter_65 (by decide) ?_
              refine W.widen (k := 0) (n := 0) (by decide) (by decide) ?_
              have b_ : -2147483648 ≤ z64.toInt ∧ z64.toInt ≤ 2147483647 := ⟨zlo _, zhi _⟩
              have hpost : (0 ≤ (0 : Int32).toInt ∧ (0 : Int32).toInt ≤ 1) ∧ (0 ≤ (u37_ 0).toInt ∧ (u37_ 0).toInt ≤ 1) := ⟨(by first | with_reducible assumption | exact ⟨by omega, by omega⟩), (by first | with_reducible assumption | exact ⟨by omega, by omega⟩)⟩
              have hP9 : va_P (dC, dI) vwCl [(h0, .inr (13, mX13 q0 (upd (upd v0 21 0) 30 (u37_ 0)))), ((q0 29), zi k21 400 (a37_ 0)), ((q0 3), zi k3 400 f3), ((q0 2), zi k2 4800 f2)] H := hP
              have hD9 : va_D A [(h0, .inr (13, mX13 q0 (upd (upd v0 21 0) 30 (u37_ 0)))), ((q0 29), zi k21 400 (a37_ 0)), ((q0 3), zi k3 400 f3), ((q0 2), zi k2 4800 f2)] := hD
              exact W.iret (v := z64) hx hb hr (fun t ht hW => ⟨⟨z64, (fun i => ([0, (u37_ 0)] : List (Int32)).getD i 0), rfl, hpost, (fun _ => 0), (fun i => ([(a37_ 0)] : List (Nat → Int32)).getD i (fun _ => 0)), (fun _ => (fun _ => 0)), ha37_0, by rw [ht]; exact hP9, va_K.moved hW.alike hK, hD9⟩, hS.F ht⟩) hS.2.2 dX13_letter_69
          · skip
            refine lv_if_ne (tgt := 37) hx hb dX13_letter_30 (by decide) (fun c_ => ?_) (fun c_ => ?_)
            · skip
              have b_ := zT_ne rfl zk_0 c_
              have hc : va_P (dC, dI) vwCl [(h0, .inr (13, mX13 q0 (upd (upd v0 21 0) 30 (v0 30)))), ((q0 29), zi k21 400 f21), ((q0 3), zi k3 400 f3), ((q0 2), zi k2 4800 f2)] H ∧ va_D A [(h0, .inr (13, mX13 q0 (upd (upd v0 21 0) 30 (v0 30)))), ((q0 29), zi k21 400 f21), ((q0 3), zi k3 400 f3), ((q0 2), zi k2 4800 f2)] ∧ va_S A s.heap H locs ∧ lv_has ls 4 [(0, .ref h0), (1, .int x1), (2, .int x2)] ∧ zA 0 399 f21 ∧ (1 ≤ (v0 30).toInt ∧ (v0 30).toInt ≤ 1) ∧ (0 ≤ (v0 30).toInt ∧ (v0 30).toInt ≤ 1) := ⟨hP, hD, hS, lv_sub hl [0, 1, 2] rfl, hf21, (by first | with_reducible assumption | exact ⟨by omega, by omega⟩), (by first | with_reducible assumption | exact ⟨by omega, by omega⟩)⟩
              exact hJ37 H locs ls (fun i => ([(v0 30)] : List (Int32)).getD i 0) (fun _ => 0) (fun i => ([f21] : List (Nat → Int32)).getD i (fun _ => 0)) (fun _ => (fun _ => 0)) hc
            · skip
              have b_ := zF_ne rfl zk_0 c_
              refine lv_aload_n hx hb dX13_letter_33 rfl (lv_at hl 0 rfl) ?_
              have hPc := hP.sub (ws' := [(h0, .inr (13, mX13 q0 (upd v0 21 0))), ((q0 29), zi k21 400 f21), ((q0 3), zi k3 400 f3), ((q0 2), zi k2 4800 f2)]) [0, 1, 2, 3] rfl
              have hDc := hD.sub (ws' := [(h0, .inr (13, mX13 q0 (upd v0 21 0))), ((q0 29), zi k21 400 f21), ((q0 3), zi k3 400 f3), ((q0 2), zi k2 4800 f2)]) [0, 1, 2, 3] (by decide) rfl
              have hKc := hK.sub (tys' := [(k21, .short), (k3, .int), (k2, .byte)]) [0, 1, 2] rfl
              have hFc := va_free (wc := [(h0, .inr (13, mX13 q0 (upd v0 21 0))), ((q0 29), zi k21 400 f21), ((q0 3), zi k3 400 f3), ((q0 2), zi k2 4800 f2)]) hD hS hA [0, 1, 2, 3] rfl
              refine va_callv (va_runV (As := []) (rest := []) ⟨hx, hb, hml, hown, hG⟩ (sX13_sort_0 l dC dI adK adV h0 q0 k21 k3 k2 H.size (upd v0 21 0) f21 f3 f2 (zR_updF hv0 21 rfl) hf21 hf3) (cwV 0 hG (zgV zv2034 zv2036 zv80 zv142 zv2037) rfl rfl rfl (by decide +kernel) ⟨Nat.le_of_ble_eq_true rfl, Nat.le_of_ble_eq_true rfl⟩) ⟨zPc_blind, va_recv hKc hPc (ci := 13) (q0 := 0) rfl rfl, zPc_pre hPc hKc hDc hE hS hFc hZ⟩ rfl rfl hl.1 rfl (lv_room (Nat.le_of_ble_eq_true rfl)) dX13_letter_34 ⟨Nat.le_of_ble_eq_true rfl, Nat.le_of_ble_eq_true rfl⟩) hS (fun q _ h => hFc q h) hFc (fun u34_ t H1 locs ht hvm hw hB hz1 hk1 hS => ?_)
              replace hw : (1 ≤ (u34_ 0).toInt ∧ (u34_ 0).toInt ≤ 1) := hw
              have b_ := hw
              obtain ⟨w34_, a34_, b34_, ha34_0, hP1, hK1, hD1⟩ := hB
              rw [ht] at hP1
              obtain ⟨hP, hD⟩ := va_join (wr := []) (w1 := [(h0, .inr (13, mX13 q0 (upd (upd v0 21 0) 30 (u34_ 0)))), ((q0 29), zi k21 400 (a34_ 0)), ((q0 3), zi k3 400 f3), ((q0 2), zi k2 4800 f2)]) hP hD [0, 1, 2, 3] [] rfl rfl (by decide) (by decide) hk1 hFc hP1 hD1
              have hP : va_P (dC, dI) vwCl [(h0, .inr (13, mX13 q0 (upd (upd v0 21 0) 30 (u34_ 0)))), ((q0 29), zi k21 400 (a34_ 0)), ((q0 3), zi k3 400 f3), ((q0 2), zi k2 4800 f2)] H1 := hP.sub [0, 1, 2, 3] rfl
              have hD : va_D A [(h0, .inr (13, mX13 q0 (upd (upd v0 21 0) 30 (u34_ 0)))), ((q0 29), zi k21 400 (a34_ 0)), ((q0 3), zi k3 400 f3), ((q0 2), zi k2 4800 f2)] := hD.sub [0, 1, 2, 3] (by decide) rfl
              generalize H1 = H at hP hS ⊢
              clear hz1
              have hc : va_P (dC, dI) vwCl [(h0, .inr (13, mX13 q0 (upd (upd v0 21 0) 30 (u34_ 0)))), ((q0 29), zi k21 400 (a34_ 0)), ((q0 3), zi k3 400 f3), ((q0 2), zi k2 4800 f2)] H ∧ va_D A [(h0, .inr (13, mX13 q0 (upd (upd v0 21 0) 30 (u34_ 0)))), ((q0 29), zi k21 400 (a34_ 0)), ((q0 3), zi k3 400 f3), ((q0 2), zi k2 4800 f2)] ∧ va_S A s.heap H locs ∧ lv_has ls 4 [(0, .ref h0), (1, .int x1), (2, .int x2)] ∧ zA 0 399 (a34_ 0) ∧ (1 ≤ (u34_ 0).toInt ∧ (u34_ 0).toInt ≤ 1) ∧ (0 ≤ (v0 30).toInt ∧ (v0 30).toInt ≤ 1) := ⟨hP, hD, hS, lv_sub hl [0, 1, 2] rfl, ha34_0, (by first | with_reducible assumption | exact ⟨by omega, by omega⟩), (by first | with_reducible assumption | exact ⟨by omega, by omega⟩)⟩
              exact hJ37 H locs ls (fun i => ([(u34_ 0)] : List (Int32)).getD i 0) (fun _ => 0) (fun i => ([(a34_ 0)] : List (Nat → Int32)).getD i (fun _ => 0)) (fun _ => (fun _ => 0)) hc
        · skip
          have b_ := zF_ge rfl zk_0 c_
          have hc : va_P (dC, dI) vwCl [(h0, .inr (13, mX13 q0 (upd v0 21 0))), ((q0 29), zi k21 400 f21), ((q0 3), zi k3 400 f3), ((q0 2), zi k2 4800 f2)] H ∧ va_D A [(h0, .inr (13, mX13 q0 (upd v0 21 0))), ((q0 29), zi k21 400 f21), ((q0 3), zi k3 400 f3), ((q0 2), zi k2 4800 f2)] ∧ va_S A s.heap H locs ∧ lv_has ls 4 [(0, .ref h0), (1, .int x1), (2, .int x2)] := ⟨hP, hD, hS, lv_sub hl [0, 1, 2] rfl⟩
          exact hJ21 H locs ls (fun _ => 0) (fun _ => 0) (fun _ => (fun _ => 0)) (fun _ => (fun _ => 0)) hc
set_option maxHeartbeats 8000000 in
set_option maxRecDepth 100000 in
theorem sX13_hit_0 (l : Launch) (dC : Nat → ClassId) (dI : Nat → Nat → Nat) (adK adV : Nat → Nat) (h0 : Nat) (q0 : Nat → Nat) (k43 : ClassId) (sz : Nat) (v0 : Nat → Int32) (f43 : Nat → Int32) (x1 : Int32) (hv0 : zR rg_Model v0) : Met l yX13_hit (zw yX13_hit cX13_hit 2 (some .int)) { frames := 1, cells := 0, slots := 0, locals := 20 } (zPc dC dI adK adV [.ref h0, .int x1] sz [(h0, .inr (13, mX13 q0 v0)), ((q0 67), zi k43 120 f43)] [(k43, .int)]) (va_Qi (fun (r : Int32) (u : Nat → Int32) => (0 ≤ (u 0).toInt ∧ (u 0).toInt ≤ 1) ∧ (x1.toInt < 0 → (u 0).toInt = 1) ∧ (0 ≤ x1.toInt → (u 0).toInt = 0) ∧ (zW (0 ≤ x1.toInt → r.toInt = zNm f43 (v0 71).toInt x1.toInt))) (fun (u : Nat → Int32) (t : State) => ∃ (ww : Nat → Int64) (aa : Nat → Nat → Int32) (bb : Nat → Nat → Int64), va_P (dC, dI) vwCl [(h0, .inr (13, mX13 q0 (upd v0 21 (u 0)))), ((q0 67), zi k43 120 f43)] t.heap ∧ va_K (dC, dI) vwCl [(k43, .int)] t ∧ va_D (va_A [(h0, .inr (13, mX13 q0 v0)), ((q0 67), zi k43 120 f43)] sz) [(h0, .inr (13, mX13 q0 (upd v0 21 (u 0)))), ((q0 67), zi k43 120 f43)]) (va_A [(h0, .inr (13, mX13 q0 v0)), ((q0 67), zi k43 120 f43)] sz)) 0 0 (va_A [(h0, .inr (13, mX13 q0 v0)), ((q0 67), zi k43 120 f43)] sz) := by
  refine Met.ofW (cc := cX13_hit) (maxL := 2) (ret := (some .int)) (by decide) rfl ?_
  intro p e s m args below meth c s₁ B hml hv
  obtain ⟨rfl, hsz, hP, hK, hD0, hE, hZ⟩ := hv
  have hx := B.exec
  have hb := B.bytes
  have hr := B.returns
  have hG : ∀ w ∈ zG, w.before _ s = true := fun w h => atoms_spec (ws := (zw yX13_hit cX13_hit 2 (some .int))) B.pre w (List.mem_cons_of_mem _ h)
  have hown : s.vm.findClass RX13 = some m.cls := findClass_of_methodNamed B.named
  have hlocks := B.notSynchronized

  subst hsz
  have hD := hD0.self (sz := s.heap.size)
  generalize hAe : va_A [(h0, .inr (13, mX13 q0 v0)), ((q0 67), zi k43 120 f43)] s.heap.size = A at hD hZ ⊢
  have hA : ∀ q : Nat, s.heap.size ≤ q → A q := fun q h => by rw [← hAe]; exact Or.inr h
  have hS : va_S A s.heap s.heap [] := va_S.rf
  have hl := lv_entry ([.ref h0, .int x1]) (n := 2) (Nat.le_of_ble_eq_true rfl)
  rw [lg_entry_eq]
  generalize (lg_sl ([.ref h0, .int x1]) ++ List.replicate (2 - (lg_sl ([.ref h0, .int x1])).length) Slot.unset).toArray = ls at hl ⊢
  have hl : lv_has ls 2 [(0, .ref h0), (1, .int x1)] := hl
  have b_ := zk_m1
  have b_ := zk_0
  have b_ : -2147483648 ≤ (v0 21).toInt ∧ (v0 21).toInt ≤ 2147483647 := ⟨zlo _, zhi _⟩
  have b_ : 0 ≤ (v0 71).toInt ∧ (v0 71).toInt ≤ 120 := hv0 71
  refine lv_aload_n hx hb dX13_hit_0 rfl (lv_at hl 0 rfl) ?_
  refine lv_iconst (v := 0) hx hb dX13_hit_1 (by decide) ?_
  refine va_put (D := (dC, dI)) (ci := 13) (v := .int 0) (ty := .int) (C := RX13) (T := TX13) (N := 75) hx hb hG zuX13 tyX13 tyX13_ok nmX13 hown hK hP hD hS 0 rfl rfl 21 (by decide) (hG _ zv1625) (fun _ h9 => h9) rfl (by decide +kernel) rfl rfl (Nat.le_of_ble_eq_true rfl) dX13_hit_2 (fun H locs hP hD hS => ?_)
  have hP : va_P (dC, dI) vwCl [(h0, .inr (13, mX13 q0 (upd v0 21 0))), ((q0 67), zi k43 120 f43)] H := hP
  have hD : va_D A [(h0, .inr (13, mX13 q0 (upd v0 21 0))), ((q0 67), zi k43 120 f43)] := hD
  refine lv_iload_n hx hb dX13_hit_5 rfl (lv_at hl 1 rfl) ?_
  have b_ : -2147483648 ≤ x1.toInt ∧ x1.toInt ≤ 2147483647 := ⟨zlo _, zhi _⟩
  refine lv_if_ge (tgt := 14) hx hb dX13_hit_6 (by decide) (fun c_ => ?_) (fun c_ => ?_)
  · skip
    have b_ := zT_ge rfl zk_0 c_
    refine lv_iload_n hx hb dX13_hit_14 rfl (lv_at hl 1 rfl) ?_
    refine lv_aload_n hx hb dX13_hit_15 rfl (lv_at hl 0 rfl) ?_
    refine va_get (D := (dC, dI)) (ci := 13) (v := .int (v0 71)) (C := RX13) (T := TX13) (N := 75) hx hb hG zuX13 hown hK hP 0 rfl rfl 71 (by decide) (hG _ zv1675) (fun _ h9 => h9) rfl dX13_hit_16 ?_
    refine lv_icmp_ge (tgt := 31) hx hb dX13_hit_19 (by decide) (fun c_ => ?_) (fun c_ => ?_)
    · skip
      have b_ := zT_ge rfl rfl c_
      refine lv_iconst (v := (-1)) hx hb dX13_hit_31 (by decide) ?_
      refine W.widen (k := 0) (n := 0) (by decide) (by decide) ?_
      have hpost : (0 ≤ (0 : Int32).toInt ∧ (0 : Int32).toInt ≤ 1) ∧ (x1.toInt < 0 → (0 : Int32).toInt = 1) ∧ (0 ≤ x1.toInt → (0 : Int32).toInt = 0) ∧ (zW (0 ≤ x1.toInt → ((-1) : Int32).toInt = zNm f43 (v0 71).toInt x1.toInt)) := ⟨(by first | with_reducible assumption | exact ⟨by omega, by omega⟩), by omega, by omega, by first | exact fun q_ => absurd q_ (by omega) | exact fun _ => zNm_y (by omega) (by omega) e_z27 | exact fun _ => zNm_n (by omega) (by decide)⟩
      have hP9 : va_P (dC, dI) vwCl [(h0, .inr (13, mX13 q0 (upd v0 21 0))), ((q0 67), zi k43 120 f43)] H := hP
      have hD9 : va_D A [(h0, .inr (13, mX13 q0 (upd v0 21 0))), ((q0 67), zi k43 120 f43)] := hD
      exact W.iret (v := (-1)) hx hb hr (fun t ht hW => ⟨⟨(-1), (fun i => ([0] : List (Int32)).getD i 0), rfl, hpost, (fun _ => 0), (fun _ => (fun _ => 0)), (fun _ => (fun _ => 0)), by rw [ht]; exact hP9, va_K.moved hW.alike hK, hD9⟩, hS.F ht⟩) hS.2.2 dX13_hit_32
    · skip
      have b_ := zF_ge rfl rfl c_
      refine lv_aload_n hx hb dX13_hit_22 rfl (lv_at hl 0 rfl) ?_
      refine va_get (D := (dC, dI)) (ci := 13) (v := .ref (q0 67)) (C := RX13) (T := TX13) (N := 75) hx hb hG zuX13 hown hK hP 0 rfl rfl 67 (by decide) (hG _ zv1671) (fun _ h9 => h9) rfl dX13_hit_23 ?_
      refine lv_iload_n hx hb dX13_hit_26 rfl (lv_at hl 1 rfl) ?_
      refine va_iald hx hb hK hP 1 0 rfl rfl (zin_lit ⟨by omega, by omega⟩) dX13_hit_27 ?_
      refine lv_topi (fun z27 e_z27 => ?_)
      refine lv_goto (tgt := 32) hx hb dX13_hit_28 (by decide) ?_
      refine W.widen (k := 0) (n := 0) (by decide) (by decide) ?_
      have b_ : -2147483648 ≤ z27.toInt ∧ z27.toInt ≤ 2147483647 := ⟨zlo _, zhi _⟩
      have hpost : (0 ≤ (0 : Int32).toInt ∧ (0 : Int32).toInt ≤ 1) ∧ (x1.toInt < 0 → (0 : Int32).toInt = 1) ∧ (0 ≤ x1.toInt → (0 : Int32).toInt = 0) ∧ (zW (0 ≤ x1.toInt → z27.toInt = zNm f43 (v0 71).toInt x1.toInt)) := ⟨(by first | with_reducible assumption | exact ⟨by omega, by omega⟩), by omega, by omega, by first | exact fun q_ => absurd q_ (by omega) | exact fun _ => zNm_y (by omega) (by omega) e_z27 | exact fun _ => zNm_n (by omega) (by decide)⟩
      have hP9 : va_P (dC, dI) vwCl [(h0, .inr (13, mX13 q0 (upd v0 21 0))), ((q0 67), zi k43 120 f43)] H := hP
      have hD9 : va_D A [(h0, .inr (13, mX13 q0 (upd v0 21 0))), ((q0 67), zi k43 120 f43)] := hD
      exact W.iret (v := z27) hx hb hr (fun t ht hW => ⟨⟨z27, (fun i => ([0] : List (Int32)).getD i 0), rfl, hpost, (fun _ => 0), (fun _ => (fun _ => 0)), (fun _ => (fun _ => 0)), by rw [ht]; exact hP9, va_K.moved hW.alike hK, hD9⟩, hS.F ht⟩) hS.2.2 dX13_hit_32
  · skip
    have b_ := zF_ge rfl zk_0 c_
    refine lv_aload_n hx hb dX13_hit_9 rfl (lv_at hl 0 rfl) ?_
    have hPc := hP.sub (ws' := [(h0, .inr (13, mX13 q0 (upd v0 21 0)))]) [0] rfl
    have hDc := hD.sub (ws' := [(h0, .inr (13, mX13 q0 (upd v0 21 0)))]) [0] (by decide) rfl
    have hKc := hK.sub (tys' := []) [] rfl
    have hFc := va_free (wc := [(h0, .inr (13, mX13 q0 (upd v0 21 0)))]) hD hS hA [0] rfl
    refine va_calli (va_runV (As := []) (rest := []) ⟨hx, hb, hml, hown, hG⟩ (sX13_refuse_0 l dC dI adK adV h0 q0 H.size (upd v0 21 0) (zR_updF hv0 21 rfl)) (cwV 0 hG (zgV zv1963 zv1965 zv68 zv142 zv1966) rfl rfl rfl (by decide +kernel) ⟨Nat.le_of_ble_eq_true rfl, Nat.le_of_ble_eq_true rfl⟩) ⟨zPc_blind, va_recv hKc hPc (ci := 13) (q0 := 0) rfl rfl, zPc_pre hPc hKc hDc hE hS hFc hZ⟩ rfl rfl hl.1 rfl (lv_room (Nat.le_of_ble_eq_true rfl)) dX13_hit_10 ⟨Nat.le_of_ble_eq_true rfl, Nat.le_of_ble_eq_true rfl⟩) hS (fun q _ h => hFc q h) hFc (fun r10_ u10_ t H1 locs ht hvm hw hB hz1 hk1 hS => ?_)
    replace hw : (0 ≤ r10_.toInt ∧ r10_.toInt ≤ 0) ∧ (1 ≤ (u10_ 0).toInt ∧ (u10_ 0).toInt ≤ 1) := hw
    obtain ⟨b_, b_⟩ := hw
    obtain rfl : r10_ = (0 : Int32) := zeqi.mpr ((show r10_.toInt = 0 from by omega).trans zk_0.symm)
    obtain ⟨w10_, a10_, b10_, hP1, hK1, hD1⟩ := hB
    rw [ht] at hP1
    obtain ⟨hP, hD⟩ := va_join (wr := [((q0 67), zi k43 120 f43)]) (w1 := [(h0, .inr (13, mX13 q0 (upd v0 21 (u10_ 0))))]) hP hD [0] [1] rfl rfl (by decide) (by decide) hk1 hFc hP1 hD1
    have hP : va_P (dC, dI) vwCl [(h0, .inr (13, mX13 q0 (upd v0 21 (u10_ 0)))), ((q0 67), zi k43 120 f43)] H1 := hP.sub [1, 0] rfl
    have hD : va_D A [(h0, .inr (13, mX13 q0 (upd v0 21 (u10_ 0)))), ((q0 67), zi k43 120 f43)] := hD.sub [1, 0] (by decide) rfl
    generalize H1 = H at hP hS ⊢
    clear hz1
    refine W.widen (k := 0) (n := 0) (by decide) (by decide) ?_
    have hpost : (0 ≤ (u10_ 0).toInt ∧ (u10_ 0).toInt ≤ 1) ∧ (x1.toInt < 0 → (u10_ 0).toInt = 1) ∧ (0 ≤ x1.toInt → (u10_ 0).toInt = 0) ∧ (zW (0 ≤ x1.toInt → (0 : Int32).toInt = zNm f43 (v0 71).toInt x1.toInt)) := ⟨(by first | with_reducible assumption | exact ⟨by omega, by omega⟩), by omega, by omega, by first | exact fun q_ => absurd q_ (by omega) | exact fun _ => zNm_y (by omega) (by omega) e_z27 | exact fun _ => zNm_n (by omega) (by decide)⟩
    have hP9 : va_P (dC, dI) vwCl [(h0, .inr (13, mX13 q0 (upd v0 21 (u10_ 0)))), ((q0 67), zi k43 120 f43)] H := hP
    have hD9 : va_D A [(h0, .inr (13, mX13 q0 (upd v0 21 (u10_ 0)))), ((q0 67), zi k43 120 f43)] := hD
    exact W.iret (v := 0) hx hb hr (fun t ht hW => ⟨⟨0, (fun i => ([(u10_ 0)] : List (Int32)).getD i 0), rfl, hpost, (fun _ => 0), (fun _ => (fun _ => 0)), (fun _ => (fun _ => 0)), by rw [ht]; exact hP9, va_K.moved hW.alike hK, hD9⟩, hS.F ht⟩) hS.2.2 dX13_hit_13
set_option maxHeartbeats 8000000 in
set_option maxRecDepth 100000 in
theorem sX13_rank_0 (l : Launch) (dC : Nat → ClassId) (dI : Nat → Nat → Nat) (adK adV : Nat → Nat) (h0 : Nat) (q0 : Nat → Nat) (k46 : ClassId) (k45 : ClassId) (k44 : ClassId) (sz : Nat) (v0 : Nat → Int32) (f46 : Nat → Int32) (f45 : Nat → Int32) (f44 : Nat → Int32) (x1 : Int32) (x2 : Int32) (hv0 : zR rg_Model v0) : Met l yX13_rank (zw yX13_rank cX13_rank 3 (some .int)) { frames := 1, cells := 0, slots := 0, locals := 20 } (zPc dC dI adK adV [.ref h0, .int x1, .int x2] sz [(h0, .inr (13, mX13 q0 v0)), ((q0 70), zi k46 120 f46), ((q0 69), zi k45 120 f45), ((q0 68), zi k44 120 f44)] [(k46, .int), (k45, .int), (k44, .int)]) (va_Qi (fun (r : Int32) (u : Nat → Int32) => (0 ≤ (u 0).toInt ∧ (u 0).toInt ≤ 1) ∧ (((u 0).toInt = 1 ∧ (x1.toInt < 0 ∨ (v0 71).toInt ≤ x1.toInt)) ∨ ((u 0).toInt = 0 ∧ 0 ≤ x1.toInt ∧ x1.toInt < (v0 71).toInt)) ∧ (zW (0 ≤ x1.toInt ∧ x1.toInt < (v0 71).toInt → r.toInt = zRna (zTrp f44 f45 f46 ((x1 : Int32)).toNatClampNeg) x2.toInt))) (fun (u : Nat → Int32) (t : State) => ∃ (ww : Nat → Int64) (aa : Nat → Nat → Int32) (bb : Nat → Nat → Int64), va_P (dC, dI) vwCl [(h0, .inr (13, mX13 q0 (upd v0 21 (u 0)))), ((q0 70), zi k46 120 f46), ((q0 69), zi k45 120 f45), ((q0 68), zi k44 120 f44)] t.heap ∧ va_K (dC, dI) vwCl [(k46, .int), (k45, .int), (k44, .int)] t ∧ va_D (va_A [(h0, .inr (13, mX13 q0 v0)), ((q0 70), zi k46 120 f46), ((q0 69), zi k45 120 f45), ((q0 68), zi k44 120 f44)] sz) [(h0, .inr (13, mX13 q0 (upd v0 21 (u 0)))), ((q0 70), zi k46 120 f46), ((q0 69), zi k45 120 f45), ((q0 68), zi k44 120 f44)]) (va_A [(h0, .inr (13, mX13 q0 v0)), ((q0 70), zi k46 120 f46), ((q0 69), zi k45 120 f45), ((q0 68), zi k44 120 f44)] sz)) 0 0 (va_A [(h0, .inr (13, mX13 q0 v0)), ((q0 70), zi k46 120 f46), ((q0 69), zi k45 120 f45), ((q0 68), zi k44 120 f44)] sz) := by
  refine Met.ofW (cc := cX13_rank) (maxL := 3) (ret := (some .int)) (by decide) rfl ?_
  intro p e s m args below meth c s₁ B hml hv
  obtain ⟨rfl, hsz, hP, hK, hD0, hE, hZ⟩ := hv
  have hx := B.exec
  have hb := B.bytes
  have hr := B.returns
  have hG : ∀ w ∈ zG, w.before _ s = true := fun w h => atoms_spec (ws := (zw yX13_rank cX13_rank 3 (some .int))) B.pre w (List.mem_cons_of_mem _ h)
  have hown : s.vm.findClass RX13 = some m.cls := findClass_of_methodNamed B.named
  have hlocks := B.notSynchronized

  subst hsz
  have hD := hD0.self (sz := s.heap.size)
  generalize hAe : va_A [(h0, .inr (13, mX13 q0 v0)), ((q0 70), zi k46 120 f46), ((q0 69), zi k45 120 f45), ((q0 68), zi k44 120 f44)] s.heap.size = A at hD hZ ⊢
  have hA : ∀ q : Nat, s.heap.size ≤ q → A q := fun q h => by rw [← hAe]; exact Or.inr h
  have hS : va_S A s.heap s.heap [] := va_S.rf
  have hl := lv_entry ([.ref h0, .int x1, .int x2]) (n := 3) (Nat.le_of_ble_eq_true rfl)
  rw [lg_entry_eq]
  generalize (lg_sl ([.ref h0, .int x1, .int x2]) ++ List.replicate (3 - (lg_sl ([.ref h0, .int x1, .int x2])).length) Slot.unset).toArray = ls at hl ⊢
  have hl : lv_has ls 3 [(0, .ref h0), (1, .int x1), (2, .int x2)] := hl
  have b_ := zk_m1
  have b_ := zk_0
  have b_ : -2147483648 ≤ (v0 21).toInt ∧ (v0 21).toInt ≤ 2147483647 := ⟨zlo _, zhi _⟩
  have b_ : 0 ≤ (v0 71).toInt ∧ (v0 71).toInt ≤ 120 := hv0 71
  refine lv_aload_n hx hb dX13_rank_0 rfl (lv_at hl 0 rfl) ?_
  refine lv_iconst (v := 0) hx hb dX13_rank_1 (by decide) ?_
  refine va_put (D := (dC, dI)) (ci := 13) (v := .int 0) (ty := .int) (C := RX13) (T := TX13) (N := 75) hx hb hG zuX13 tyX13 tyX13_ok nmX13 hown hK hP hD hS 0 rfl rfl 21 (by decide) (hG _ zv1625) (fun _ h9 => h9) rfl (by decide +kernel) rfl rfl (Nat.le_of_ble_eq_true rfl) dX13_rank_2 (fun H locs hP hD hS => ?_)
  have hP : va_P (dC, dI) vwCl [(h0, .inr (13, mX13 q0 (upd v0 21 0))), ((q0 70), zi k46 120 f46), ((q0 69), zi k45 120 f45), ((q0 68), zi k44 120 f44)] H := hP
  have hD : va_D A [(h0, .inr (13, mX13 q0 (upd v0 21 0))), ((q0 70), zi k46 120 f46), ((q0 69), zi k45 120 f45), ((q0 68), zi k44 120 f44)] := hD
  refine lv_iload_n hx hb dX13_rank_5 rfl (lv_at hl 1 rfl) ?_
  refine zcutW (fun H locs ls u17_ w17_ a17_ b17_ => va_P (dC, dI) vwCl [(h0, .inr (13, mX13 q0 (upd v0 21 0))), ((q0 70), zi k46 120 f46), ((q0 69), zi k45 120 f45), ((q0 68), zi k44 120 f44)] H ∧ va_D A [(h0, .inr (13, mX13 q0 (upd v0 21 0))), ((q0 70), zi k46 120 f46), ((q0 69), zi k45 120 f45), ((q0 68), zi k44 120 f44)] ∧ va_S A s.heap H locs ∧ lv_has ls 3 [(0, .ref h0), (1, .int x1), (2, .int x2)] ∧ (x1.toInt < 0 ∨ (v0 71).toInt ≤ x1.toInt)) (fun ls u17_ w17_ => F0 m 17 ls []) 0 0 ?_ (fun hJ17 => ?_)
  · skip
    intro H locs ls u17_ w17_ a17_ b17_ hc
    obtain ⟨hP, hD, hS, hl, b_⟩ := hc
    refine lv_aload_n hx hb dX13_rank_17 rfl (lv_at hl 0 rfl) ?_
    have hPc := hP.sub (ws' := [(h0, .inr (13, mX13 q0 (upd v0 21 0)))]) [0] rfl
    have hDc := hD.sub (ws' := [(h0, .inr (13, mX13 q0 (upd v0 21 0)))]) [0] (by decide) rfl
    have hKc := hK.sub (tys' := []) [] rfl
    have hFc := va_free (wc := [(h0, .inr (13, mX13 q0 (upd v0 21 0)))]) hD hS hA [0] rfl
    refine va_calli (va_runV (As := []) (rest := []) ⟨hx, hb, hml, hown, hG⟩ (sX13_refuse_0 l dC dI adK adV h0 q0 H.size (upd v0 21 0) (zR_updF hv0 21 rfl)) (cwV 0 hG (zgV zv1963 zv1965 zv68 zv142 zv1966) rfl rfl rfl (by decide +kernel) ⟨Nat.le_of_ble_eq_true rfl, Nat.le_of_ble_eq_true rfl⟩) ⟨zPc_blind, va_recv hKc hPc (ci := 13) (q0 := 0) rfl rfl, zPc_pre hPc hKc hDc hE hS hFc hZ⟩ rfl rfl hl.1 rfl (lv_room (Nat.le_of_ble_eq_true rfl)) dX13_rank_18 ⟨Nat.le_of_ble_eq_true rfl, Nat.le_of_ble_eq_true rfl⟩) hS (fun q _ h => hFc q h) hFc (fun r18_ u18_ t H1 locs ht hvm hw hB hz1 hk1 hS => ?_)
    replace hw : (0 ≤ r18_.toInt ∧ r18_.toInt ≤ 0) ∧ (1 ≤ (u18_ 0).toInt ∧ (u18_ 0).toInt ≤ 1) := hw
    obtain ⟨b_, b_⟩ := hw
    obtain rfl : r18_ = (0 : Int32) := zeqi.mpr ((show r18_.toInt = 0 from by omega).trans zk_0.symm)
    obtain ⟨w18_, a18_, b18_, hP1, hK1, hD1⟩ := hB
    rw [ht] at hP1
    obtain ⟨hP, hD⟩ := va_join (wr := [((q0 70), zi k46 120 f46), ((q0 69), zi k45 120 f45), ((q0 68), zi k44 120 f44)]) (w1 := [(h0, .inr (13, mX13 q0 (upd v0 21 (u18_ 0))))]) hP hD [0] [1, 2, 3] rfl rfl (by decide) (by decide) hk1 hFc hP1 hD1
    have hP : va_P (dC, dI) vwCl [(h0, .inr (13, mX13 q0 (upd v0 21 (u18_ 0)))), ((q0 70), zi k46 120 f46), ((q0 69), zi k45 120 f45), ((q0 68), zi k44 120 f44)] H1 := hP.sub [3, 0, 1, 2] rfl
    have hD : va_D A [(h0, .inr (13, mX13 q0 (upd v0 21 (u18_ 0)))), ((q0 70), zi k46 120 f46), ((q0 69), zi k45 120 f45), ((q0 68), zi k44 120 f44)] := hD.sub [3, 0, 1, 2] (by decide) rfl
    generalize H1 = H at hP hS ⊢
    clear hz1
    refine W.widen (k := 0) (n := 0) (by decide) (by decide) ?_
    have hpost : (0 ≤ (u18_ 0).toInt ∧ (u18_ 0).toInt ≤ 1) ∧ (((u18_ 0).toInt = 1 ∧ (x1.toInt < 0 ∨ (v0 71).toInt ≤ x1.toInt)) ∨ ((u18_ 0).toInt = 0 ∧ 0 ≤ x1.toInt ∧ x1.toInt < (v0 71).toInt)) ∧ (zW (0 ≤ x1.toInt ∧ x1.toInt < (v0 71).toInt → (0 : Int32).toInt = zRna (zTrp f44 f45 f46 ((x1 : Int32)).toNatClampNeg) x2.toInt)) := ⟨(by first | with_reducible assumption | exact ⟨by omega, by omega⟩), by omega, by first | exact fun q_ => absurd q_ (by omega) | exact fun _ => zRna_0 (by omega) (congrArg Int32.toInt e_z31) | exact fun _ => zRna_1 (by omega) (congrArg Int32.toInt e_z45) | exact fun _ => zRna_2 (by omega) (congrArg Int32.toInt e_z59) | exact fun _ => zRna_3 (by omega) (by decide)⟩
    have hP9 : va_P (dC, dI) vwCl [(h0, .inr (13, mX13 q0 (upd v0 21 (u18_ 0)))), ((q0 70), zi k46 120 f46), ((q0 69), zi k45 120 f45), ((q0 68), zi k44 120 f44)] H := hP
    have hD9 : va_D A [(h0, .inr (13, mX13 q0 (upd v0 21 (u18_ 0)))), ((q0 70), zi k46 120 f46), ((q0 69), zi k45 120 f45), ((q0 68), zi k44 120 f44)] := hD
    exact W.iret (v := 0) hx hb hr (fun t ht hW => ⟨⟨0, (fun i => ([(u18_ 0)] : List (Int32)).getD i 0), rfl, hpost, (fun _ => 0), (fun _ => (fun _ => 0)), (fun _ => (fun _ => 0)), by rw [ht]; exact hP9, va_K.moved hW.alike hK, hD9⟩, hS.F ht⟩) hS.2.2 dX13_rank_21
  · skip
    have b_ : -2147483648 ≤ x1.toInt ∧ x1.toInt ≤ 2147483647 := ⟨zlo _, zhi _⟩
    refine lv_if_lt (tgt := 17) hx hb dX13_rank_6 (by decide) (fun c_ => ?_) (fun c_ => ?_)
    · skip
      have b_ := zT_lt rfl zk_0 c_
      have b_ : -2147483648 ≤ x2.toInt ∧ x2.toInt ≤ 2147483647 := ⟨zlo _, zhi _⟩
      have hc : va_P (dC, dI) vwCl [(h0, .inr (13, mX13 q0 (upd v0 21 0))), ((q0 70), zi k46 120 f46), ((q0 69), zi k45 120 f45), ((q0 68), zi k44 120 f44)] H ∧ va_D A [(h0, .inr (13, mX13 q0 (upd v0 21 0))), ((q0 70), zi k46 120 f46), ((q0 69), zi k45 120 f45), ((q0 68), zi k44 120 f44)] ∧ va_S A s.heap H locs ∧ lv_has ls 3 [(0, .ref h0), (1, .int x1), (2, .int x2)] ∧ (x1.toInt < 0 ∨ (v0 71).toInt ≤ x1.toInt) := ⟨hP, hD, hS, lv_sub hl [0, 1, 2] rfl, by omega⟩
      exact hJ17 H locs ls (fun _ => 0) (fun _ => 0) (fun _ => (fun _ => 0)) (fun _ => (fun _ => 0)) hc
    · skip
      have b_ := zF_lt rfl zk_0 c_
      refine lv_iload_n hx hb dX13_rank_9 rfl (lv_at hl 1 rfl) ?_
      refine lv_aload_n hx hb dX13_rank_10 rfl (lv_at hl 0 rfl) ?_
      refine va_get (D := (dC, dI)) (ci := 13) (v := .int (v0 71)) (C := RX13) (T := TX13) (N := 75) hx hb hG zuX13 hown hK hP 0 rfl rfl 71 (by decide) (hG _ zv1675) (fun _ h9 => h9) rfl dX13_rank_11 ?_
      refine lv_icmp_lt (tgt := 22) hx hb dX13_rank_14 (by decide) (fun c_ => ?_) (fun c_ => ?_)
      · skip
        have b_ := zT_lt rfl rfl c_
        refine lv_iload_n hx hb dX13_rank_22 rfl (lv_at hl 2 rfl) ?_
        have b_ : -2147483648 ≤ x2.toInt ∧ x2.toInt ≤ 2147483647 := ⟨zlo _, zhi _⟩
        refine lv_if_ne (tgt := 35) hx hb dX13_rank_23 (by decide) (fun c_ => ?_) (fun c_ => ?_)
        · skip
          have b_ := zT_ne rfl zk_0 c_
          refine lv_iload_n hx hb dX13_rank_35 rfl (lv_at hl 2 rfl) ?_
          refine lv_iconst (v := 1) hx hb dX13_rank_36 (by decide) ?_
          refine lv_icmp_ne (tgt := 49) hx hb dX13_rank_37 (by decide) (fun c_ => ?_) (fun c_ => ?_)
          · skip
            have b_ := zT_ne rfl zk_1 c_
            refine lv_iload_n hx hb dX13_rank_49 rfl (lv_at hl 2 rfl) ?_
            refine lv_iconst (v := 2) hx hb dX13_rank_50 (by decide) ?_
            refine lv_icmp_ne (tgt := 63) hx hb dX13_rank_51 (by decide) (fun c_ => ?_) (fun c_ => ?_)
            · skip
              have b_ := zT_ne rfl zk_2 c_
              refine lv_iconst (v := (-1)) hx hb dX13_rank_63 (by decide) ?_
              refine W.widen (k := 0) (n := 0) (by decide) (by decide) ?_
              have hpost : (0 ≤ (0 : Int32).toInt ∧ (0 : Int32).toInt ≤ 1) ∧ (((0 : Int32).toInt = 1 ∧ (x1.toInt < 0 ∨ (v0 71).toInt ≤ x1.toInt)) ∨ ((0 : Int32).toInt = 0 ∧ 0 ≤ x1.toInt ∧ x1.toInt < (v0 71).toInt)) ∧ (zW (0 ≤ x1.toInt ∧ x1.toInt < (v0 71).toInt → ((-1) : Int32).toInt = zRna (zTrp f44 f45 f46 ((x1 : Int32)).toNatClampNeg) x2.toInt)) := ⟨(by first | with_reducible assumption | exact ⟨by omega, by omega⟩), by omega, by first | exact fun q_ => absurd q_ (by omega) | exact fun _ => zRna_0 (by omega) (congrArg Int32.toInt e_z31) | exact fun _ => zRna_1 (by omega) (congrArg Int32.toInt e_z45) | exact fun _ => zRna_2 (by omega) (congrArg Int32.toInt e_z59) | exact fun _ => zRna_3 (by omega) (by decide)⟩
              have hP9 : va_P (dC, dI) vwCl [(h0, .inr (13, mX13 q0 (upd v0 21 0))), ((q0 70), zi k46 120 f46), ((q0 69), zi k45 120 f45), ((q0 68), zi k44 120 f44)] H := hP
              have hD9 : va_D A [(h0, .inr (13, mX13 q0 (upd v0 21 0))), ((q0 70), zi k46 120 f46), ((q0 69), zi k45 120 f45), ((q0 68), zi k44 120 f44)] := hD
              exact W.iret (v := (-1)) hx hb hr (fun t ht hW => ⟨⟨(-1), (fun i => ([0] : List (Int32)).getD i 0), rfl, hpost, (fun _ => 0), (fun _ => (fun _ => 0)), (fun _ => (fun _ => 0)), by rw [ht]; exact hP9, va_K.moved hW.alike hK, hD9⟩, hS.F ht⟩) hS.2.2 dX13_rank_64
            · skip
              have b_ := zF_ne rfl zk_2 c_
              refine lv_aload_n hx hb dX13_rank_54 rfl (lv_at hl 0 rfl) ?_
              refine va_get (D := (dC, dI)) (ci := 13) (v := .ref (q0 70)) (C := RX13) (T := TX13) (N := 75) hx hb hG zuX13 hown hK hP 0 rfl rfl 70 (by decide) (hG _ zv1674) (fun _ h9 => h9) rfl dX13_rank_55 ?_
              refine lv_iload_n hx hb dX13_rank_58 rfl (lv_at hl 1 rfl) ?_
              refine va_iald hx hb hK hP 1 0 rfl rfl (zin_lit ⟨by omega, by omega⟩) dX13_rank_59 ?_
              refine lv_topi (fun z59 e_z59 => ?_)
              refine lv_goto (tgt := 64) hx hb dX13_rank_60 (by decide) ?_
              refine W.widen (k := 0) (n := 0) (by decide) (by decide) ?_
              have b_ : -2147483648 ≤ z59.toInt ∧ z59.toInt ≤ 2147483647 := ⟨zlo _, zhi _⟩
              have hpost : (0 ≤ (0 : Int32).toInt ∧ (0 : Int32).toInt ≤ 1) ∧ (((0 : Int32).toInt = 1 ∧ (x1.toInt < 0 ∨ (v0 71).toInt ≤ x1.toInt)) ∨ ((0 : Int32).toInt = 0 ∧ 0 ≤ x1.toInt ∧ x1.toInt < (v0 71).toInt)) ∧ (zW (0 ≤ x1.toInt ∧ x1.toInt < (v0 71).toInt → z59.toInt = zRna (zTrp f44 f45 f46 ((x1 : Int32)).toNatClampNeg) x2.toInt)) := ⟨(by first | with_reducible assumption | exact ⟨by omega, by omega⟩), by omega, by first | exact fun q_ => absurd q_ (by omega) | exact fun _ => zRna_0 (by omega) (congrArg Int32.toInt e_z31) | exact fun _ => zRna_1 (by omega) (congrArg Int32.toInt e_z45) | exact fun _ => zRna_2 (by omega) (congrArg Int32.toInt e_z59) | exact fun _ => zRna_3 (by omega) (by decide)⟩
              have hP9 : va_P (dC, dI) vwCl [(h0, .inr (13, mX13 q0 (upd v0 21 0))), ((q0 70), zi k46 120 f46), ((q0 69), zi k45 120 f45), ((q0 68), zi k44 120 f44)] H := hP
              have hD9 : va_D A [(h0, .inr (13, mX13 q0 (upd v0 21 0))), ((q0 70), zi k46 120 f46), ((q0 69), zi k45 120 f45), ((q0 68), zi k44 120 f44)] := hD
              exact W.iret (v := z59) hx hb hr (fun t ht hW => ⟨⟨z59, (fun i => ([0] : List (Int32)).getD i 0), rfl, hpost, (fun _ => 0), (fun _ => (fun _ => 0)), (fun _ => (fun _ => 0)), by rw [ht]; exact hP9, va_K.moved hW.alike hK, hD9⟩, hS.F ht⟩) hS.2.2 dX13_rank_64
          · skip
            have b_ := zF_ne rfl zk_1 c_
            refine lv_aload_n hx hb dX13_rank_40 rfl (lv_at hl 0 rfl) ?_
            refine va_get (D := (dC, dI)) (ci := 13) (v := .ref (q0 69)) (C := RX13) (T := TX13) (N := 75) hx hb hG zuX13 hown hK hP 0 rfl rfl 69 (by decide) (hG _ zv1673) (fun _ h9 => h9) rfl dX13_rank_41 ?_
            refine lv_iload_n hx hb dX13_rank_44 rfl (lv_at hl 1 rfl) ?_
            refine va_iald hx hb hK hP 2 1 rfl rfl (zin_lit ⟨by omega, by omega⟩) dX13_rank_45 ?_
            refine lv_topi (fun z45 e_z45 => ?_)
            refine lv_goto (tgt := 64) hx hb dX13_rank_46 (by decide) ?_
            refine W.widen (k := 0) (n := 0) (by decide) (by decide) ?_
            have b_ : -2147483648 ≤ z45.toInt ∧ z45.toInt ≤ 2147483647 := ⟨zlo _, zhi _⟩
            have hpost : (0 ≤ (0 : Int32).toInt ∧ (0 : Int32).toInt ≤ 1) ∧ (((0 : Int32).toInt = 1 ∧ (x1.toInt < 0 ∨ (v0 71).toInt ≤ x1.toInt)) ∨ ((0 : Int32).toInt = 0 ∧ 0 ≤ x1.toInt ∧ x1.toInt < (v0 71).toInt)) ∧ (zW (0 ≤ x1.toInt ∧ x1.toInt < (v0 71).toInt → z45.toInt = zRna (zTrp f44 f45 f46 ((x1 : Int32)).toNatClampNeg) x2.toInt)) := ⟨(by first | with_reducible assumption | exact ⟨by omega, by omega⟩), by omega, by first | exact fun q_ => absurd q_ (by omega) | exact fun _ => zRna_0 (by omega) (congrArg Int32.toInt e_z31) | exact fun _ => zRna_1 (by omega) (congrArg Int32.toInt e_z45) | exact fun _ => zRna_2 (by omega) (congrArg Int32.toInt e_z59) | exact fun _ => zRna_3 (by omega) (by decide)⟩
            have hP9 : va_P (dC, dI) vwCl [(h0, .inr (13, mX13 q0 (upd v0 21 0))), ((q0 70), zi k46 120 f46), ((q0 69), zi k45 120 f45), ((q0 68), zi k44 120 f44)] H := hP
            have hD9 : va_D A [(h0, .inr (13, mX13 q0 (upd v0 21 0))), ((q0 70), zi k46 120 f46), ((q0 69), zi k45 120 f45), ((q0 68), zi k44 120 f44)] := hD
            exact W.iret (v := z45) hx hb hr (fun t ht hW => ⟨⟨z45, (fun i => ([0] : List (Int32)).getD i 0), rfl, hpost, (fun _ => 0), (fun _ => (fun _ => 0)), (fun _ => (fun _ => 0)), by rw [ht]; exact hP9, va_K.moved hW.alike hK, hD9⟩, hS.F ht⟩) hS.2.2 dX13_rank_64
        · skip
          have b_ := zF_ne rfl zk_0 c_
          refine lv_aload_n hx hb dX13_rank_26 rfl (lv_at hl 0 rfl) ?_
          refine va_get (D := (dC, dI)) (ci := 13) (v := .ref (q0 68)) (C := RX13) (T := TX13) (N := 75) hx hb hG zuX13 hown hK hP 0 rfl rfl 68 (by decide) (hG _ zv1672) (fun _ h9 => h9) rfl dX13_rank_27 ?_
          refine lv_iload_n hx hb dX13_rank_30 rfl (lv_at hl 1 rfl) ?_
          refine va_iald hx hb hK hP 3 2 rfl rfl (zin_lit ⟨by omega, by omega⟩) dX13_rank_31 ?_
          refine lv_topi (fun z31 e_z31 => ?_)
          refine lv_goto (tgt := 64) hx hb dX13_rank_32 (by decide) ?_
          refine W.widen (k := 0) (n := 0) (by decide) (by decide) ?_
          have b_ : -2147483648 ≤ z31.toInt ∧ z31.toInt ≤ 2147483647 := ⟨zlo _, zhi _⟩
          have hpost : (0 ≤ (0 : Int32).toInt ∧ (0 : Int32).toInt ≤ 1) ∧ (((0 : Int32).toInt = 1 ∧ (x1.toInt < 0 ∨ (v0 71).toInt ≤ x1.toInt)) ∨ ((0 : Int32).toInt = 0 ∧ 0 ≤ x1.toInt ∧ x1.toInt < (v0 71).toInt)) ∧ (zW (0 ≤ x1.toInt ∧ x1.toInt < (v0 71).toInt → z31.toInt = zRna (zTrp f44 f45 f46 ((x1 : Int32)).toNatClampNeg) x2.toInt)) := ⟨(by first | with_reducible assumption | exact ⟨by omega, by omega⟩), by omega, by first | exact fun q_ => absurd q_ (by omega) | exact fun _ => zRna_0 (by omega) (congrArg Int32.toInt e_z31) | exact fun _ => zRna_1 (by omega) (congrArg Int32.toInt e_z45) | exact fun _ => zRna_2 (by omega) (congrArg Int32.toInt e_z59) | exact fun _ => zRna_3 (by omega) (by decide)⟩
          have hP9 : va_P (dC, dI) vwCl [(h0, .inr (13, mX13 q0 (upd v0 21 0))), ((q0 70), zi k46 120 f46), ((q0 69), zi k45 120 f45), ((q0 68), zi k44 120 f44)] H := hP
          have hD9 : va_D A [(h0, .inr (13, mX13 q0 (upd v0 21 0))), ((q0 70), zi k46 120 f46), ((q0 69), zi k45 120 f45), ((q0 68), zi k44 120 f44)] := hD
          exact W.iret (v := z31) hx hb hr (fun t ht hW => ⟨⟨z31, (fun i => ([0] : List (Int32)).getD i 0), rfl, hpost, (fun _ => 0), (fun _ => (fun _ => 0)), (fun _ => (fun _ => 0)), by rw [ht]; exact hP9, va_K.moved hW.alike hK, hD9⟩, hS.F ht⟩) hS.2.2 dX13_rank_64
      · skip
        have b_ := zF_lt rfl rfl c_
        have b_ : -2147483648 ≤ x2.toInt ∧ x2.toInt ≤ 2147483647 := ⟨zlo _, zhi _⟩
        have hc : va_P (dC, dI) vwCl [(h0, .inr (13, mX13 q0 (upd v0 21 0))), ((q0 70), zi k46 120 f46), ((q0 69), zi k45 120 f45), ((q0 68), zi k44 120 f44)] H ∧ va_D A [(h0, .inr (13, mX13 q0 (upd v0 21 0))), ((q0 70), zi k46 120 f46), ((q0 69), zi k45 120 f45), ((q0 68), zi k44 120 f44)] ∧ va_S A s.heap H locs ∧ lv_has ls 3 [(0, .ref h0), (1, .int x1), (2, .int x2)] ∧ (x1.toInt < 0 ∨ (v0 71).toInt ≤ x1.toInt) := ⟨hP, hD, hS, lv_sub hl [0, 1, 2] rfl, by omega⟩
        exact hJ17 H locs ls (fun _ => 0) (fun _ => 0) (fun _ => (fun _ => 0)) (fun _ => (fun _ => 0)) hc
set_option maxHeartbeats 8000000 in
set_option maxRecDepth 100000 in
theorem sX13_code_0 (l : Launch) (dC : Nat → ClassId) (dI : Nat → Nat → Nat) (adK adV : Nat → Nat) (h0 : Nat) (q0 : Nat → Nat) (k33 : ClassId) (sz : Nat) (v0 : Nat → Int32) (f33 : Nat → Int32) (x1 : Int32) (hv0 : zR rg_Model v0) : Met l yX13_code (zw yX13_code cX13_code 2 (some .int)) { frames := 1, cells := 0, slots := 0, locals := 20 } (zPc dC dI adK adV [.ref h0, .int x1] sz [(h0, .inr (13, mX13 q0 v0)), ((q0 52), zi k33 1300 f33)] [(k33, .int)]) (va_Qi (fun (r : Int32) (u : Nat → Int32) => (0 ≤ (u 0).toInt ∧ (u 0).toInt ≤ 1)) (fun (u : Nat → Int32) (t : State) => ∃ (ww : Nat → Int64) (aa : Nat → Nat → Int32) (bb : Nat → Nat → Int64), va_P (dC, dI) vwCl [(h0, .inr (13, mX13 q0 (upd v0 21 (u 0)))), ((q0 52), zi k33 1300 f33)] t.heap ∧ va_K (dC, dI) vwCl [(k33, .int)] t ∧ va_D (va_A [(h0, .inr (13, mX13 q0 v0)), ((q0 52), zi k33 1300 f33)] sz) [(h0, .inr (13, mX13 q0 (upd v0 21 (u 0)))), ((q0 52), zi k33 1300 f33)]) (va_A [(h0, .inr (13, mX13 q0 v0)), ((q0 52), zi k33 1300 f33)] sz)) 0 0 (va_A [(h0, .inr (13, mX13 q0 v0)), ((q0 52), zi k33 1300 f33)] sz) := by
  refine Met.ofW (cc := cX13_code) (maxL := 2) (ret := (some .int)) (by decide) rfl ?_
  intro p e s m args below meth c s₁ B hml hv
  obtain ⟨rfl, hsz, hP, hK, hD0, hE, hZ⟩ := hv
  have hx := B.exec
  have hb := B.bytes
  have hr := B.returns
  have hG : ∀ w ∈ zG, w.before _ s = true := fun w h => atoms_spec (ws := (zw yX13_code cX13_code 2 (some .int))) B.pre w (List.mem_cons_of_mem _ h)
  have hown : s.vm.findClass RX13 = some m.cls := findClass_of_methodNamed B.named
  have hlocks := B.notSynchronized

  subst hsz
  have hD := hD0.self (sz := s.heap.size)
  generalize hAe : va_A [(h0, .inr (13, mX13 q0 v0)), ((q0 52), zi k33 1300 f33)] s.heap.size = A at hD hZ ⊢
  have hA : ∀ q : Nat, s.heap.size ≤ q → A q := fun q h => by rw [← hAe]; exact Or.inr h
  have hS : va_S A s.heap s.heap [] := va_S.rf
  have hl := lv_entry ([.ref h0, .int x1]) (n := 2) (Nat.le_of_ble_eq_true rfl)
  rw [lg_entry_eq]
  generalize (lg_sl ([.ref h0, .int x1]) ++ List.replicate (2 - (lg_sl ([.ref h0, .int x1])).length) Slot.unset).toArray = ls at hl ⊢
  have hl : lv_has ls 2 [(0, .ref h0), (1, .int x1)] := hl
  have b_ := zk_0
  refine lv_aload_n hx hb dX13_code_0 rfl (lv_at hl 0 rfl) ?_
  refine lv_iconst (v := 0) hx hb dX13_code_1 (by decide) ?_
  refine va_put (D := (dC, dI)) (ci := 13) (v := .int 0) (ty := .int) (C := RX13) (T := TX13) (N := 75) hx hb hG zuX13 tyX13 tyX13_ok nmX13 hown hK hP hD hS 0 rfl rfl 21 (by decide) (hG _ zv1625) (fun _ h9 => h9) rfl (by decide +kernel) rfl rfl (Nat.le_of_ble_eq_true rfl) dX13_code_2 (fun H locs hP hD hS => ?_)
  have hP : va_P (dC, dI) vwCl [(h0, .inr (13, mX13 q0 (upd v0 21 0))), ((q0 52), zi k33 1300 f33)] H := hP
  have hD : va_D A [(h0, .inr (13, mX13 q0 (upd v0 21 0))), ((q0 52), zi k33 1300 f33)] := hD
  refine lv_iload_n hx hb dX13_code_5 rfl (lv_at hl 1 rfl) ?_
  have b_ : -2147483648 ≤ x1.toInt ∧ x1.toInt ≤ 2147483647 := ⟨zlo _, zhi _⟩
  refine lv_if_ge (tgt := 14) hx hb dX13_code_6 (by decide) (fun c_ => ?_) (fun c_ => ?_)
  · skip
    have b_ := zT_ge rfl zk_0 c_
    refine lv_iload_n hx hb dX13_code_14 rfl (lv_at hl 1 rfl) ?_
    refine lv_aload_n hx hb dX13_code_15 rfl (lv_at hl 0 rfl) ?_
    have b_ : 0 ≤ (v0 53).toInt ∧ (v0 53).toInt ≤ 1300 := hv0 53
    refine va_get (D := (dC, dI)) (ci := 13) (v := .int (v0 53)) (C := RX13) (T := TX13) (N := 75) hx hb hG zuX13 hown hK hP 0 rfl rfl 53 (by decide) (hG _ zv1657) (fun _ h9 => h9) rfl dX13_code_16 ?_
    refine lv_icmp_ge (tgt := 31) hx hb dX13_code_19 (by decide) (fun c_ => ?_) (fun c_ => ?_)
    · skip
      have b_ := zT_ge rfl rfl c_
      refine lv_iconst (v := (-1)) hx hb dX13_code_31 (by decide) ?_
      refine W.widen (k := 0) (n := 0) (by decide) (by decide) ?_
      have hpost : (0 ≤ (0 : Int32).toInt ∧ (0 : Int32).toInt ≤ 1) := (by first | with_reducible assumption | exact ⟨by omega, by omega⟩)
      have hP9 : va_P (dC, dI) vwCl [(h0, .inr (13, mX13 q0 (upd v0 21 0))), ((q0 52), zi k33 1300 f33)] H := hP
      have hD9 : va_D A [(h0, .inr (13, mX13 q0 (upd v0 21 0))), ((q0 52), zi k33 1300 f33)] := hD
      exact W.iret (v := (-1)) hx hb hr (fun t ht hW => ⟨⟨(-1), (fun i => ([0] : List (Int32)).getD i 0), rfl, hpost, (fun _ => 0), (fun _ => (fun _ => 0)), (fun _ => (fun _ => 0)), by rw [ht]; exact hP9, va_K.moved hW.alike hK, hD9⟩, hS.F ht⟩) hS.2.2 dX13_code_32
    · skip
      have b_ := zF_ge rfl rfl c_
      refine lv_aload_n hx hb dX13_code_22 rfl (lv_at hl 0 rfl) ?_
      refine va_get (D := (dC, dI)) (ci := 13) (v := .ref (q0 52)) (C := RX13) (T := TX13) (N := 75) hx hb hG zuX13 hown hK hP 0 rfl rfl 52 (by decide) (hG _ zv1656) (fun _ h9 => h9) rfl dX13_code_23 ?_
      refine lv_iload_n hx hb dX13_code_26 rfl (lv_at hl 1 rfl) ?_
      refine va_iald hx hb hK hP 1 0 rfl rfl (zin_lit ⟨by omega, by omega⟩) dX13_code_27 ?_
      refine lv_topi (fun z27 e_z27 => ?_)
      refine lv_goto (tgt := 32) hx hb dX13_code_28 (by decide) ?_
      refine W.widen (k := 0) (n := 0) (by decide) (by decide) ?_
      have b_ : -2147483648 ≤ z27.toInt ∧ z27.toInt ≤ 2147483647 := ⟨zlo _, zhi _⟩
      have hpost : (0 ≤ (0 : Int32).toInt ∧ (0 : Int32).toInt ≤ 1) := (by first | with_reducible assumption | exact ⟨by omega, by omega⟩)
      have hP9 : va_P (dC, dI) vwCl [(h0, .inr (13, mX13 q0 (upd v0 21 0))), ((q0 52), zi k33 1300 f33)] H := hP
      have hD9 : va_D A [(h0, .inr (13, mX13 q0 (upd v0 21 0))), ((q0 52), zi k33 1300 f33)] := hD
      exact W.iret (v := z27) hx hb hr (fun t ht hW => ⟨⟨z27, (fun i => ([0] : List (Int32)).getD i 0), rfl, hpost, (fun _ => 0), (fun _ => (fun _ => 0)), (fun _ => (fun _ => 0)), by rw [ht]; exact hP9, va_K.moved hW.alike hK, hD9⟩, hS.F ht⟩) hS.2.2 dX13_code_32
  · skip
    have b_ := zF_ge rfl zk_0 c_
    refine lv_aload_n hx hb dX13_code_9 rfl (lv_at hl 0 rfl) ?_
    have hPc := hP.sub (ws' := [(h0, .inr (13, mX13 q0 (upd v0 21 0)))]) [0] rfl
    have hDc := hD.sub (ws' := [(h0, .inr (13, mX13 q0 (upd v0 21 0)))]) [0] (by decide) rfl
    have hKc := hK.sub (tys' := []) [] rfl
    have hFc := va_free (wc := [(h0, .inr (13, mX13 q0 (upd v0 21 0)))]) hD hS hA [0] rfl
    refine va_calli (va_runV (As := []) (rest := []) ⟨hx, hb, hml, hown, hG⟩ (sX13_refuse_0 l dC dI adK adV h0 q0 H.size (upd v0 21 0) (zR_updF hv0 21 rfl)) (cwV 0 hG (zgV zv1963 zv1965 zv68 zv142 zv1966) rfl rfl rfl (by decide +kernel) ⟨Nat.le_of_ble_eq_true rfl, Nat.le_of_ble_eq_true rfl⟩) ⟨zPc_blind, va_recv hKc hPc (ci := 13) (q0 := 0) rfl rfl, zPc_pre hPc hKc hDc hE hS hFc hZ⟩ rfl rfl hl.1 rfl (lv_room (Nat.le_of_ble_eq_true rfl)) dX13_code_10 ⟨Nat.le_of_ble_eq_true rfl, Nat.le_of_ble_eq_true rfl⟩) hS (fun q _ h => hFc q h) hFc (fun r10_ u10_ t H1 locs ht hvm hw hB hz1 hk1 hS => ?_)
    replace hw : (0 ≤ r10_.toInt ∧ r10_.toInt ≤ 0) ∧ (1 ≤ (u10_ 0).toInt ∧ (u10_ 0).toInt ≤ 1) := hw
    obtain ⟨b_, b_⟩ := hw
    obtain rfl : r10_ = (0 : Int32) := zeqi.mpr ((show r10_.toInt = 0 from by omega).trans zk_0.symm)
    obtain ⟨w10_, a10_, b10_, hP1, hK1, hD1⟩ := hB
    rw [ht] at hP1
    obtain ⟨hP, hD⟩ := va_join (wr := [((q0 52), zi k33 1300 f33)]) (w1 := [(h0, .inr (13, mX13 q0 (upd v0 21 (u10_ 0))))]) hP hD [0] [1] rfl rfl (by decide) (by decide) hk1 hFc hP1 hD1
    have hP : va_P (dC, dI) vwCl [(h0, .inr (13, mX13 q0 (upd v0 21 (u10_ 0)))), ((q0 52), zi k33 1300 f33)] H1 := hP.sub [1, 0] rfl
    have hD : va_D A [(h0, .inr (13, mX13 q0 (upd v0 21 (u10_ 0)))), ((q0 52), zi k33 1300 f33)] := hD.sub [1, 0] (by decide) rfl
    generalize H1 = H at hP hS ⊢
    clear hz1
    refine W.widen (k := 0) (n := 0) (by decide) (by decide) ?_
    have hpost : (0 ≤ (u10_ 0).toInt ∧ (u10_ 0).toInt ≤ 1) := (by first | with_reducible assumption | exact ⟨by omega, by omega⟩)
    have hP9 : va_P (dC, dI) vwCl [(h0, .inr (13, mX13 q0 (upd v0 21 (u10_ 0)))), ((q0 52), zi k33 1300 f33)] H := hP
    have hD9 : va_D A [(h0, .inr (13, mX13 q0 (upd v0 21 (u10_ 0)))), ((q0 52), zi k33 1300 f33)] := hD
    exact W.iret (v := 0) hx hb hr (fun t ht hW => ⟨⟨0, (fun i => ([(u10_ 0)] : List (Int32)).getD i 0), rfl, hpost, (fun _ => 0), (fun _ => (fun _ => 0)), (fun _ => (fun _ => 0)), by rw [ht]; exact hP9, va_K.moved hW.alike hK, hD9⟩, hS.F ht⟩) hS.2.2 dX13_code_13
set_option maxHeartbeats 8000000 in
set_option maxRecDepth 100000 in
theorem sX13_deepest_0 (l : Launch) (dC : Nat → ClassId) (dI : Nat → Nat → Nat) (adK adV : Nat → Nat) (h0 : Nat) (q0 : Nat → Nat) (k33 : ClassId) (sz : Nat) (v0 : Nat → Int32) (f33 : Nat → Int32) (hv0 : zR rg_Model v0) : Met l yX13_deepest (zw yX13_deepest cX13_deepest 5 (some .int)) { frames := 1, cells := 0, slots := 0, locals := 40 } (zPc dC dI adK adV [.ref h0] sz [(h0, .inr (13, mX13 q0 v0)), ((q0 52), zi k33 1300 f33)] [(k33, .int)]) (va_Qi (fun (r : Int32) (u : Nat → Int32) => (0 ≤ r.toInt ∧ r.toInt ≤ 2147483647) ∧ (0 ≤ (u 0).toInt ∧ (u 0).toInt ≤ 0)) (fun (u : Nat → Int32) (t : State) => ∃ (ww : Nat → Int64) (aa : Nat → Nat → Int32) (bb : Nat → Nat → Int64), va_P (dC, dI) vwCl [(h0, .inr (13, mX13 q0 (upd v0 21 (u 0)))), ((q0 52), zi k33 1300 f33)] t.heap ∧ va_K (dC, dI) vwCl [(k33, .int)] t ∧ va_D (va_A [(h0, .inr (13, mX13 q0 v0)), ((q0 52), zi k33 1300 f33)] sz) [(h0, .inr (13, mX13 q0 (upd v0 21 (u 0)))), ((q0 52), zi k33 1300 f33)]) (va_A [(h0, .inr (13, mX13 q0 v0)), ((q0 52), zi k33 1300 f33)] sz)) 0 0 (va_A [(h0, .inr (13, mX13 q0 v0)), ((q0 52), zi k33 1300 f33)] sz) := by
  refine Met.ofW (cc := cX13_deepest) (maxL := 5) (ret := (some .int)) (by decide) rfl ?_
  intro p e s m args below meth c s₁ B hml hv
  obtain ⟨rfl, hsz, hP, hK, hD0, hE, hZ⟩ := hv
  have hx := B.exec
  have hb := B.bytes
  have hr := B.returns
  have hG : ∀ w ∈ zG, w.before _ s = true := fun w h => atoms_spec (ws := (zw yX13_deepest cX13_deepest 5 (some .int))) B.pre w (List.mem_cons_of_mem _ h)
  have hown : s.vm.findClass RX13 = some m.cls := findClass_of_methodNamed B.named
  have hlocks := B.notSynchronized

  subst hsz
  have hD := hD0.self (sz := s.heap.size)
  generalize hAe : va_A [(h0, .inr (13, mX13 q0 v0)), ((q0 52), zi k33 1300 f33)] s.heap.size = A at hD hZ ⊢
  have hA : ∀ q : Nat, s.heap.size ≤ q → A q := fun q h => by rw [← hAe]; exact Or.inr h
  have hS : va_S A s.heap s.heap [] := va_S.rf
  have hl := lv_entry ([.ref h0]) (n := 5) (Nat.le_of_ble_eq_true rfl)
  rw [lg_entry_eq]
  generalize (lg_sl ([.ref h0]) ++ List.replicate (5 - (lg_sl ([.ref h0])).length) Slot.unset).toArray = ls at hl ⊢
  have hl : lv_has ls 5 [(0, .ref h0)] := hl
  have b_ := zk_0
  refine lv_aload_n hx hb dX13_deepest_0 rfl (lv_at hl 0 rfl) ?_
  refine lv_iconst (v := 0) hx hb dX13_deepest_1 (by decide) ?_
  refine va_put (D := (dC, dI)) (ci := 13) (v := .int 0) (ty := .int) (C := RX13) (T := TX13) (N := 75) hx hb hG zuX13 tyX13 tyX13_ok nmX13 hown hK hP hD hS 0 rfl rfl 21 (by decide) (hG _ zv1625) (fun _ h9 => h9) rfl (by decide +kernel) rfl rfl (Nat.le_of_ble_eq_true rfl) dX13_deepest_2 (fun H locs hP hD hS => ?_)
  have hP : va_P (dC, dI) vwCl [(h0, .inr (13, mX13 q0 (upd v0 21 0))), ((q0 52), zi k33 1300 f33)] H := hP
  have hD : va_D A [(h0, .inr (13, mX13 q0 (upd v0 21 0))), ((q0 52), zi k33 1300 f33)] := hD
  refine lv_iconst (v := 0) hx hb dX13_deepest_5 (by decide) ?_
  refine lv_istore_n (lv' := [(1, .int 0), (0, .ref h0)]) hx hb dX13_deepest_6 rfl hl (by decide) rfl (fun ls hl => ?_)
  refine lv_iconst (v := 0) hx hb dX13_deepest_7 (by decide) ?_
  refine lv_istore_n (lv' := [(2, .int 0), (1, .int 0), (0, .ref h0)]) hx hb dX13_deepest_8 rfl hl (by decide) rfl (fun ls hl => ?_)
  refine lv_iconst (v := 0) hx hb dX13_deepest_9 (by decide) ?_
  refine lv_istore_n (lv' := [(3, .int 0), (2, .int 0), (1, .int 0), (0, .ref h0)]) hx hb dX13_deepest_10 rfl hl (by decide) rfl (fun ls hl => ?_)
  refine zcutL (fun u11_ => (1300 - (u11_ 2).toInt).toNat) (fun H locs ls u11_ w11_ a11_ b11_ => va_P (dC, dI) vwCl [(h0, .inr (13, mX13 q0 (upd v0 21 0))), ((q0 52), zi k33 1300 f33)] H ∧ va_D A [(h0, .inr (13, mX13 q0 (upd v0 21 0))), ((q0 52), zi k33 1300 f33)] ∧ va_S A s.heap H locs ∧ lv_has ls 5 [(0, .ref h0), (1, .int (u11_ 0)), (2, .int (u11_ 1)), (3, .int (u11_ 2))] ∧ (0 ≤ (u11_ 0).toInt ∧ (u11_ 0).toInt ≤ 2147483647) ∧ (0 ≤ (u11_ 2).toInt ∧ (u11_ 2).toInt ≤ 1300)) (fun ls u11_ w11_ => F0 m 11 ls []) 0 0 ?_ (fun hJ11 => ?_)
  · skip
    intro H locs ls u11_ w11_ a11_ b11_ hc hJ11
    obtain ⟨hP, hD, hS, hl, b_, b_⟩ := hc
    refine lv_iload_n hx hb dX13_deepest_11 rfl (lv_at hl 3 rfl) ?_
    refine lv_aload_n hx hb dX13_deepest_12 rfl (lv_at hl 0 rfl) ?_
    have b_ : 0 ≤ (v0 53).toInt ∧ (v0 53).toInt ≤ 1300 := hv0 53
    refine va_get (D := (dC, dI)) (ci := 13) (v := .int (v0 53)) (C := RX13) (T := TX13) (N := 75) hx hb hG zuX13 hown hK hP 0 rfl rfl 53 (by decide) (hG _ zv1657) (fun _ h9 => h9) rfl dX13_deepest_13 ?_
    refine lv_icmp_ge (tgt := 85) hx hb dX13_deepest_16 (by decide) (fun c_ => ?_) (fun c_ => ?_)
    · skip
      have b_ := zT_ge rfl rfl c_
      refine lv_iload_n hx hb dX13_deepest_85 rfl (lv_at hl 1 rfl) ?_
      refine W.widen (k := 0) (n := 0) (by decide) (by decide) ?_
      have hpost : (0 ≤ (u11_ 0).toInt ∧ (u11_ 0).toInt ≤ 2147483647) ∧ (0 ≤ (0 : Int32).toInt ∧ (0 : Int32).toInt ≤ 0) := ⟨(by first | with_reducible assumption | exact ⟨by omega, by omega⟩), (by first | with_reducible assumption | exact ⟨by omega, by omega⟩)⟩
      have hP9 : va_P (dC, dI) vwCl [(h0, .inr (13, mX13 q0 (upd v0 21 0))), ((q0 52), zi k33 1300 f33)] H := hP
      have hD9 : va_D A [(h0, .inr (13, mX13 q0 (upd v0 21 0))), ((q0 52), zi k33 1300 f33)] := hD
      exact W.iret (v := (u11_ 0)) hx hb hr (fun t ht hW => ⟨⟨(u11_ 0), (fun i => ([0] : List (Int32)).getD i 0), rfl, hpost, (fun _ => 0), (fun _ => (fun _ => 0)), (fun _ => (fun _ => 0)), by rw [ht]; exact hP9, va_K.moved hW.alike hK, hD9⟩, hS.F ht⟩) hS.2.2 dX13_deepest_86
    · skip
      have b_ := zF_ge rfl rfl c_
      refine lv_aload_n hx hb dX13_deepest_19 rfl (lv_at hl 0 rfl) ?_
      refine va_get (D := (dC, dI)) (ci := 13) (v := .ref (q0 52)) (C := RX13) (T := TX13) (N := 75) hx hb hG zuX13 hown hK hP 0 rfl rfl 52 (by decide) (hG _ zv1656) (fun _ h9 => h9) rfl dX13_deepest_20 ?_
      refine lv_iload_n hx hb dX13_deepest_23 rfl (lv_at hl 3 rfl) ?_
      refine va_iald hx hb hK hP 1 0 rfl rfl (zin_lit ⟨by omega, by omega⟩) dX13_deepest_24 ?_
      refine lv_topi (fun z24 e_z24 => ?_)
      refine lv_sipush (v := 1000) hx hb dX13_deepest_25 (by decide) ?_
      have b_ : -2147483648 ≤ z24.toInt ∧ z24.toInt ≤ 2147483647 := ⟨zlo _, zhi _⟩
      refine lv_idiv hx hb dX13_deepest_28 (by decide) ?_
      refine lv_topi (fun z28 e_z28 => ?_)
      refine lv_istore (lv' := [(4, .int z28), (0, .ref h0), (1, .int (u11_ 0)), (2, .int (u11_ 1)), (3, .int (u11_ 2))]) hx hb dX13_deepest_29 hl (by decide) rfl (fun ls hl => ?_)
      refine lv_iload hx hb dX13_deepest_31 (lv_at hl 0 rfl) ?_
      refine lv_iconst (v := 4) hx hb dX13_deepest_33 (by decide) ?_
      refine zcutW (fun H locs ls u73_ w73_ a73_ b73_ => va_P (dC, dI) vwCl [(h0, .inr (13, mX13 q0 (upd v0 21 0))), ((q0 52), zi k33 1300 f33)] H ∧ va_D A [(h0, .inr (13, mX13 q0 (upd v0 21 0))), ((q0 52), zi k33 1300 f33)] ∧ va_S A s.heap H locs ∧ lv_has ls 5 [(0, .ref h0), (1, .int (u11_ 0)), (2, .int (u73_ 0)), (3, .int (u11_ 2)), (4, .int z28)]) (fun ls u73_ w73_ => F0 m 73 ls []) 0 0 ?_ (fun hJ73 => ?_)
      · skip
        intro H locs ls u73_ w73_ a73_ b73_ hc
        obtain ⟨hP, hD, hS, hl⟩ := hc
        refine lv_iload_n hx hb dX13_deepest_73 rfl (lv_at hl 1 rfl) ?_
        refine lv_iload_n hx hb dX13_deepest_74 rfl (lv_at hl 2 rfl) ?_
        have b_ : -2147483648 ≤ (u73_ 0).toInt ∧ (u73_ 0).toInt ≤ 2147483647 := ⟨zlo _, zhi _⟩
        refine va_mmax hx hb (by rw [hml]; exact hl.1.symm) hown (hG _ zv2235) (hG _ zv1030) (hG _ zv152) (hG _ zv1031) (Nat.le_of_ble_eq_true rfl) (Nat.le_of_ble_eq_true rfl) (Nat.le_of_ble_eq_true rfl) (Nat.le_of_ble_eq_true rfl) dX13_deepest_75 ?_
        refine lv_topi (fun z75 e_z75 => ?_)
        have b_ := zmax rfl rfl e_z75
        refine lv_istore_n (lv' := [(1, .int z75), (0, .ref h0), (2, .int (u73_ 0)), (3, .int (u11_ 2)), (4, .int z28)]) hx hb dX13_deepest_78 rfl hl (by decide) rfl (fun ls hl => ?_)
        obtain ⟨z79, e_z79⟩ : ∃ z : Int32, z = (u11_ 2) + Int32.ofInt 1 := ⟨_, rfl⟩
        have b_ := zadd (x := (u11_ 2)) (y := Int32.ofInt 1) rfl (show (Int32.ofInt 1).toInt = 1 from by decide) e_z79 (by omega) (by omega)
        refine lv_iinc (v := z79) (lv' := [(3, .int z79), (1, .int z75), (0, .ref h0), (2, .int (u73_ 0)), (4, .int z28)]) hx hb dX13_deepest_79 hl (k := 3) rfl e_z79.symm (by decide) rfl (fun ls hl => ?_)
        refine lv_goto (tgt := 11) hx hb dX13_deepest_82 (by decide) ?_
        have hc : va_P (dC, dI) vwCl [(h0, .inr (13, mX13 q0 (upd v0 21 0))), ((q0 52), zi k33 1300 f33)] H ∧ va_D A [(h0, .inr (13, mX13 q0 (upd v0 21 0))), ((q0 52), zi k33 1300 f33)] ∧ va_S A s.heap H locs ∧ lv_has ls 5 [(0, .ref h0), (1, .int z75), (2, .int (u73_ 0)), (3, .int z79)] ∧ (0 ≤ z75.toInt ∧ z75.toInt ≤ 2147483647) ∧ (0 ≤ z79.toInt ∧ z79.toInt ≤ 1300) := ⟨hP, hD, hS, lv_sub hl [2, 1, 3, 0] rfl, (by first | with_reducible assumption | exact ⟨by omega, by omega⟩), (by first | with_reducible assumption | exact ⟨by omega, by omega⟩)⟩
        exact hJ11 H locs ls (fun i => ([z75, (u73_ 0), z79] : List (Int32)).getD i 0) (fun _ => 0) (fun _ => (fun _ => 0)) (fun _ => (fun _ => 0)) hc (show (1300 - z79.toInt).toNat < (1300 - (u11_ 2).toInt).toNat from by omega)
      · skip
        have b_ : -2147483648 ≤ z28.toInt ∧ z28.toInt ≤ 2147483647 := ⟨zlo _, zhi _⟩
        refine lv_icmp_gt (tgt := 43) hx hb dX13_deepest_34 (by decide) (fun c_ => ?_) (fun c_ => ?_)
        · skip
          have b_ := zT_gt rfl zk_4 c_
          refine lv_iload hx hb dX13_deepest_43 (lv_at hl 0 rfl) ?_
          refine lv_iconst (v := 5) hx hb dX13_deepest_45 (by decide) ?_
          refine zcutW (fun H locs ls u70_ w70_ a70_ b70_ => va_P (dC, dI) vwCl [(h0, .inr (13, mX13 q0 (upd v0 21 0))), ((q0 52), zi k33 1300 f33)] H ∧ va_D A [(h0, .inr (13, mX13 q0 (upd v0 21 0))), ((q0 52), zi k33 1300 f33)] ∧ va_S A s.heap H locs ∧ lv_has ls 5 [(0, .ref h0), (1, .int (u11_ 0)), (2, .int (u11_ 1)), (3, .int (u11_ 2)), (4, .int z28)] ∧ (5 ≤ z28.toInt ∧ z28.toInt ≤ 11)) (fun ls u70_ w70_ => F0 m 70 ls []) 0 0 ?_ (fun hJ70 => ?_)
          · skip
            intro H locs ls u70_ w70_ a70_ b70_ hc
            obtain ⟨hP, hD, hS, hl, b_⟩ := hc
            have b_ : -2147483648 ≤ (u11_ 1).toInt ∧ (u11_ 1).toInt ≤ 2147483647 := ⟨zlo _, zhi _⟩
            obtain ⟨z70, e_z70⟩ : ∃ z : Int32, z = (u11_ 1) + Int32.ofInt (-1) := ⟨_, rfl⟩
            refine lv_iinc (v := z70) (lv' := [(2, .int z70), (0, .ref h0), (1, .int (u11_ 0)), (3, .int (u11_ 2)), (4, .int z28)]) hx hb dX13_deepest_70 hl (k := 2) rfl e_z70.symm (by decide) rfl (fun ls hl => ?_)
            have hc : va_P (dC, dI) vwCl [(h0, .inr (13, mX13 q0 (upd v0 21 0))), ((q0 52), zi k33 1300 f33)] H ∧ va_D A [(h0, .inr (13, mX13 q0 (upd v0 21 0))), ((q0 52), zi k33 1300 f33)] ∧ va_S A s.heap H locs ∧ lv_has ls 5 [(0, .ref h0), (1, .int (u11_ 0)), (2, .int z70), (3, .int (u11_ 2)), (4, .int z28)] := ⟨hP, hD, hS, lv_sub hl [1, 2, 0, 3, 4] rfl⟩
            exact hJ73 H locs ls (fun i => ([z70] : List (Int32)).getD i 0) (fun _ => 0) (fun _ => (fun _ => 0)) (fun _ => (fun _ => 0)) hc
          · skip
            refine lv_icmp_eq (tgt := 70) hx hb dX13_deepest_46 (by decide) (fun c_ => ?_) (fun c_ => ?_)
            · skip
              have b_ := zT_eq rfl zk_5 c_
              have hc : va_P (dC, dI) vwCl [(h0, .inr (13, mX13 q0 (upd v0 21 0))), ((q0 52), zi k33 1300 f33)] H ∧ va_D A [(h0, .inr (13, mX13 q0 (upd v0 21 0))), ((q0 52), zi k33 1300 f33)] ∧ va_S A s.heap H locs ∧ lv_has ls 5 [(0, .ref h0), (1, .int (u11_ 0)), (2, .int (u11_ 1)), (3, .int (u11_ 2)), (4, .int z28)] ∧ (5 ≤ z28.toInt ∧ z28.toInt ≤ 11) := ⟨hP, hD, hS, lv_sub hl [1, 2, 3, 4, 0] rfl, (by first | with_reducible assumption | exact ⟨by omega, by omega⟩)⟩
              exact hJ70 H locs ls (fun _ => 0) (fun _ => 0) (fun _ => (fun _ => 0)) (fun _ => (fun _ => 0)) hc
            · skip
              have b_ := zF_eq rfl zk_5 c_
              refine lv_iload hx hb dX13_deepest_49 (lv_at hl 0 rfl) ?_
              refine lv_bipush (v := 8) hx hb dX13_deepest_51 (by decide) ?_
              refine lv_icmp_eq (tgt := 70) hx hb dX13_deepest_53 (by decide) (fun c_ => ?_) (fun c_ => ?_)
              · skip
                have b_ := zT_eq rfl zk_8 c_
                have hc : va_P (dC, dI) vwCl [(h0, .inr (13, mX13 q0 (upd v0 21 0))), ((q0 52), zi k33 1300 f33)] H ∧ va_D A [(h0, .inr (13, mX13 q0 (upd v0 21 0))), ((q0 52), zi k33 1300 f33)] ∧ va_S A s.heap H locs ∧ lv_has ls 5 [(0, .ref h0), (1, .int (u11_ 0)), (2, .int (u11_ 1)), (3, .int (u11_ 2)), (4, .int z28)] ∧ (5 ≤ z28.toInt ∧ z28.toInt ≤ 11) := ⟨hP, hD, hS, lv_sub hl [1, 2, 3, 4, 0] rfl, (by first | with_reducible assumption | exact ⟨by omega, by omega⟩)⟩
                exact hJ70 H locs ls (fun _ => 0) (fun _ => 0) (fun _ => (fun _ => 0)) (fun _ => (fun _ => 0)) hc
              · skip
                have b_ := zF_eq rfl zk_8 c_
                refine lv_iload hx hb dX13_deepest_56 (lv_at hl 0 rfl) ?_
                refine lv_bipush (v := 9) hx hb dX13_deepest_58 (by decide) ?_
                refine lv_icmp_eq (tgt := 70) hx hb dX13_deepest_60 (by decide) (fun c_ => ?_) (fun c_ => ?_)
                · skip
                  have b_ := zT_eq rfl zk_9 c_
                  have hc : va_P (dC, dI) vwCl [(h0, .inr (13, mX13 q0 (upd v0 21 0))), ((q0 52), zi k33 1300 f33)] H ∧ va_D A [(h0, .inr (13, mX13 q0 (upd v0 21 0))), ((q0 52), zi k33 1300 f33)] ∧ va_S A s.heap H locs ∧ lv_has ls 5 [(0, .ref h0), (1, .int (u11_ 0)), (2, .int (u11_ 1)), (3, .int (u11_ 2)), (4, .int z28)] ∧ (5 ≤ z28.toInt ∧ z28.toInt ≤ 11) := ⟨hP, hD, hS, lv_sub hl [1, 2, 3, 4, 0] rfl, (by first | with_reducible assumption | exact ⟨by omega, by omega⟩)⟩
                  exact hJ70 H locs ls (fun _ => 0) (fun _ => 0) (fun _ => (fun _ => 0)) (fun _ => (fun _ => 0)) hc
                · skip
                  have b_ := zF_eq rfl zk_9 c_
                  refine lv_iload hx hb dX13_deepest_63 (lv_at hl 0 rfl) ?_
                  refine lv_bipush (v := 11) hx hb dX13_deepest_65 (by decide) ?_
                  refine lv_icmp_ne (tgt := 73) hx hb dX13_deepest_67 (by decide) (fun c_ => ?_) (fun c_ => ?_)
                  · skip
                    have b_ := zT_ne rfl zk_11 c_
                    have hc : va_P (dC, dI) vwCl [(h0, .inr (13, mX13 q0 (upd v0 21 0))), ((q0 52), zi k33 1300 f33)] H ∧ va_D A [(h0, .inr (13, mX13 q0 (upd v0 21 0))), ((q0 52), zi k33 1300 f33)] ∧ va_S A s.heap H locs ∧ lv_has ls 5 [(0, .ref h0), (1, .int (u11_ 0)), (2, .int (u11_ 1)), (3, .int (u11_ 2)), (4, .int z28)] := ⟨hP, hD, hS, lv_sub hl [1, 2, 3, 4, 0] rfl⟩
                    exact hJ73 H locs ls (fun i => ([(u11_ 1)] : List (Int32)).getD i 0) (fun _ => 0) (fun _ => (fun _ => 0)) (fun _ => (fun _ => 0)) hc
                  · skip
                    have b_ := zF_ne rfl zk_11 c_
                    have hc : va_P (dC, dI) vwCl [(h0, .inr (13, mX13 q0 (upd v0 21 0))), ((q0 52), zi k33 1300 f33)] H ∧ va_D A [(h0, .inr (13, mX13 q0 (upd v0 21 0))), ((q0 52), zi k33 1300 f33)] ∧ va_S A s.heap H locs ∧ lv_has ls 5 [(0, .ref h0), (1, .int (u11_ 0)), (2, .int (u11_ 1)), (3, .int (u11_ 2)), (4, .int z28)] ∧ (5 ≤ z28.toInt ∧ z28.toInt ≤ 11) := ⟨hP, hD, hS, lv_sub hl [1, 2, 3, 4, 0] rfl, (by first | with_reducible assumption | exact ⟨by omega, by omega⟩)⟩
                    exact hJ70 H locs ls (fun _ => 0) (fun _ => 0) (fun _ => (fun _ => 0)) (fun _ => (fun _ => 0)) hc
        · skip
          have b_ := zF_gt rfl zk_4 c_
          have b_ : -2147483648 ≤ (u11_ 1).toInt ∧ (u11_ 1).toInt ≤ 2147483647 := ⟨zlo _, zhi _⟩
          obtain ⟨z37, e_z37⟩ : ∃ z : Int32, z = (u11_ 1) + Int32.ofInt 1 := ⟨_, rfl⟩
          refine lv_iinc (v := z37) (lv' := [(2, .int z37), (4, .int z28), (0, .ref h0), (1, .int (u11_ 0)), (3, .int (u11_ 2))]) hx hb dX13_deepest_37 hl (k := 3) rfl e_z37.symm (by decide) rfl (fun ls hl => ?_)
          refine lv_goto (tgt := 73) hx hb dX13_deepest_40 (by decide) ?_
          have hc : va_P (dC, dI) vwCl [(h0, .inr (13, mX13 q0 (upd v0 21 0))), ((q0 52), zi k33 1300 f33)] H ∧ va_D A [(h0, .inr (13, mX13 q0 (upd v0 21 0))), ((q0 52), zi k33 1300 f33)] ∧ va_S A s.heap H locs ∧ lv_has ls 5 [(0, .ref h0), (1, .int (u11_ 0)), (2, .int z37), (3, .int (u11_ 2)), (4, .int z28)] := ⟨hP, hD, hS, lv_sub hl [2, 3, 0, 4, 1] rfl⟩
          exact hJ73 H locs ls (fun i => ([z37] : List (Int32)).getD i 0) (fun _ => 0) (fun _ => (fun _ => 0)) (fun _ => (fun _ => 0)) hc
  · skip
    have hc : va_P (dC, dI) vwCl [(h0, .inr (13, mX13 q0 (upd v0 21 0))), ((q0 52), zi k33 1300 f33)] H ∧ va_D A [(h0, .inr (13, mX13 q0 (upd v0 21 0))), ((q0 52), zi k33 1300 f33)] ∧ va_S A s.heap H locs ∧ lv_has ls 5 [(0, .ref h0), (1, .int 0), (2, .int 0), (3, .int 0)] ∧ (0 ≤ (0 : Int32).toInt ∧ (0 : Int32).toInt ≤ 2147483647) ∧ (0 ≤ (0 : Int32).toInt ∧ (0 : Int32).toInt ≤ 1300) := ⟨hP, hD, hS, lv_sub hl [3, 2, 1, 0] rfl, (by first | with_reducible assumption | exact ⟨by omega, by omega⟩), (by first | with_reducible assumption | exact ⟨by omega, by omega⟩)⟩
    exact hJ11 H locs ls (fun i => ([0, 0, 0] : List (Int32)).getD i 0) (fun _ => 0) (fun _ => (fun _ => 0)) (fun _ => (fun _ => 0)) hc
