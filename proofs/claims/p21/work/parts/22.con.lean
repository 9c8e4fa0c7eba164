set_option maxHeartbeats 8000000 in
set_option maxRecDepth 100000 in
theorem sX5_nextFrom_0 (l : Launch) (dC : Nat → ClassId) (dI : Nat → Nat → Nat) (adK adV : Nat → Nat) (h0 : Nat) (h1 : Nat) (k1 : ClassId) (sz : Nat) (f1 : Nat → Int32) (x1 : Int32) : Met l yX5_nextFrom (zw yX5_nextFrom cX5_nextFrom 4 (some .int)) { frames := 1, cells := 0, slots := 0, locals := 21 } (zPc dC dI adK adV [.ref h0, .int x1] sz [(h0, .inr (5, mX5 h1)), (h1, zi k1 26 f1)] [(k1, .int)]) (va_Qi (fun (r : Int32) (u : Nat → Int32) => ((-1) ≤ r.toInt ∧ r.toInt ≤ 832) ∧ (r.toInt ≤ 831)) (fun (u : Nat → Int32) (t : State) => ∃ (ww : Nat → Int64) (aa : Nat → Nat → Int32) (bb : Nat → Nat → Int64), va_P (dC, dI) vwCl [(h0, .inr (5, mX5 h1)), (h1, zi k1 26 f1)] t.heap ∧ va_K (dC, dI) vwCl [(k1, .int)] t ∧ va_D (va_A [(h0, .inr (5, mX5 h1)), (h1, zi k1 26 f1)] sz) [(h0, .inr (5, mX5 h1)), (h1, zi k1 26 f1)]) (va_A [(h0, .inr (5, mX5 h1)), (h1, zi k1 26 f1)] sz)) 0 0 (va_A [(h0, .inr (5, mX5 h1)), (h1, zi k1 26 f1)] sz) := by
  refine Met.ofW (cc := cX5_nextFrom) (maxL := 4) (ret := (some .int)) (by decide) rfl ?_
  intro p e s m args below meth c s₁ B hml hv
  obtain ⟨rfl, hsz, hP, hK, hD0, hE, hZ⟩ := hv
  have hx := B.exec
  have hb := B.bytes
  have hr := B.returns
  have hG : ∀ w ∈ zG, w.before _ s = true := fun w h => atoms_spec (ws := (zw yX5_nextFrom cX5_nextFrom 4 (some .int))) B.pre w (List.mem_cons_of_mem _ h)
  have hown : s.vm.findClass RX5 = some m.cls := findClass_of_methodNamed B.named
  have hlocks := B.notSynchronized

  subst hsz
  have hD := hD0.self (sz := s.heap.size)
  generalize hAe : va_A [(h0, .inr (5, mX5 h1)), (h1, zi k1 26 f1)] s.heap.size = A at hD hZ ⊢
  have hA : ∀ q : Nat, s.heap.size ≤ q → A q := fun q h => by rw [← hAe]; exact Or.inr h
  have hS : va_S A s.heap s.heap [] := va_S.rf
  have hl := lv_entry ([.ref h0, .int x1]) (n := 4) (Nat.le_of_ble_eq_true rfl)
  rw [lg_entry_eq]
  generalize (lg_sl ([.ref h0, .int x1]) ++ List.replicate (4 - (lg_sl ([.ref h0, .int x1])).length) Slot.unset).toArray = ls at hl ⊢
  have hl : lv_has ls 4 [(0, .ref h0), (1, .int x1)] := hl
  have b_ := zk_m1
  refine lv_iload_n hx hb dX5_nextFrom_0 rfl (lv_at hl 1 rfl) ?_
  have b_ : -2147483648 ≤ x1.toInt ∧ x1.toInt ≤ 2147483647 := ⟨zlo _, zhi _⟩
  refine lv_if_lt (tgt := 11) hx hb dX5_nextFrom_1 (by decide) (fun c_ => ?_) (fun c_ => ?_)
  · skip
    have b_ := zT_lt rfl zk_0 c_
    refine lv_iconst (v := (-1)) hx hb dX5_nextFrom_11 (by decide) ?_
    refine W.widen (k := 0) (n := 0) (by decide) (by decide) ?_
    have hpost : ((-1) ≤ ((-1) : Int32).toInt ∧ ((-1) : Int32).toInt ≤ 832) ∧ (((-1) : Int32).toInt ≤ 831) := ⟨(by first | with_reducible assumption | exact ⟨by omega, by omega⟩), by omega⟩
    have hP9 : va_P (dC, dI) vwCl [(h0, .inr (5, mX5 h1)), (h1, zi k1 26 f1)] s.heap := hP
    have hD9 : va_D A [(h0, .inr (5, mX5 h1)), (h1, zi k1 26 f1)] := hD
    exact W.iret (v := (-1)) hx hb hr (fun t ht hW => ⟨⟨(-1), (fun _ => 0), rfl, hpost, (fun _ => 0), (fun _ => (fun _ => 0)), (fun _ => (fun _ => 0)), by rw [ht]; exact hP9, va_K.moved hW.alike hK, hD9⟩, hS.F ht⟩) hS.2.2 dX5_nextFrom_12
  · skip
    have b_ := zF_lt rfl zk_0 c_
    refine lv_iload_n hx hb dX5_nextFrom_4 rfl (lv_at hl 1 rfl) ?_
    refine lv_sipush (v := 832) hx hb dX5_nextFrom_5 (by decide) ?_
    refine lv_icmp_lt (tgt := 13) hx hb dX5_nextFrom_8 (by decide) (fun c_ => ?_) (fun c_ => ?_)
    · skip
      have b_ := zT_lt rfl zk_832 c_
      refine lv_aload_n hx hb dX5_nextFrom_13 rfl (lv_at hl 0 rfl) ?_
      refine va_get (D := (dC, dI)) (ci := 5) (v := .ref h1) (C := RX5) (T := TX5) (N := 1) hx hb hG zuX5 hown hK hP 0 rfl rfl 0 (by decide) (hG _ zv458) (fun _ h9 => h9) rfl dX5_nextFrom_14 ?_
      refine lv_iload_n hx hb dX5_nextFrom_17 rfl (lv_at hl 1 rfl) ?_
      refine lv_bipush (v := 32) hx hb dX5_nextFrom_18 (by decide) ?_
      refine lv_idiv hx hb dX5_nextFrom_20 (by decide) ?_
      refine lv_topi (fun z20 e_z20 => ?_)
      have b_ := zdiv rfl zk_32 e_z20 (by omega) (by decide)
      refine va_iald hx hb hK hP 1 0 rfl rfl (zin_lit ⟨by omega, by omega⟩) dX5_nextFrom_21 ?_
      refine lv_topi (fun z21 e_z21 => ?_)
      refine lv_iconst (v := (-1)) hx hb dX5_nextFrom_22 (by decide) ?_
      refine lv_iload_n hx hb dX5_nextFrom_23 rfl (lv_at hl 1 rfl) ?_
      refine lv_bipush (v := 32) hx hb dX5_nextFrom_24 (by decide) ?_
      refine lv_irem hx hb dX5_nextFrom_26 (by decide) ?_
      refine lv_topi (fun z26 e_z26 => ?_)
      have b_ := zrem rfl zk_32 e_z26 (by omega) (by decide)
      refine lv_ishl hx hb dX5_nextFrom_27 ?_
      refine lv_topi (fun z27 e_z27 => ?_)
      have b_ : -2147483648 ≤ z21.toInt ∧ z21.toInt ≤ 2147483647 := ⟨zlo _, zhi _⟩
      have b_ : -2147483648 ≤ z27.toInt ∧ z27.toInt ≤ 2147483647 := ⟨zlo _, zhi _⟩
      refine lv_iand hx hb dX5_nextFrom_28 ?_
      refine lv_topi (fun z28 e_z28 => ?_)
      refine lv_istore_n (lv' := [(2, .int z28), (0, .ref h0), (1, .int x1)]) hx hb dX5_nextFrom_29 rfl hl (by decide) rfl (fun ls hl => ?_)
      refine lv_iload_n hx hb dX5_nextFrom_30 rfl (lv_at hl 2 rfl) ?_
      refine lv_bipush (v := 32) hx hb dX5_nextFrom_31 (by decide) ?_
      refine lv_idiv hx hb dX5_nextFrom_33 (by decide) ?_
      refine lv_topi (fun z33 e_z33 => ?_)
      have b_ := zdiv rfl zk_32 e_z33 (by omega) (by decide)
      refine lv_istore_n (lv' := [(3, .int z33), (2, .int z28), (0, .ref h0), (1, .int x1)]) hx hb dX5_nextFrom_34 rfl hl (by decide) rfl (fun ls hl => ?_)
      refine zcutL (fun u35_ => (26 - (u35_ 1).toInt).toNat) (fun H locs ls u35_ w35_ a35_ b35_ => va_P (dC, dI) vwCl [(h0, .inr (5, mX5 h1)), (h1, zi k1 26 f1)] H ∧ va_D A [(h0, .inr (5, mX5 h1)), (h1, zi k1 26 f1)] ∧ va_S A s.heap H locs ∧ lv_has ls 4 [(0, .ref h0), (1, .int x1), (2, .int (u35_ 0)), (3, .int (u35_ 1))] ∧ (0 ≤ (u35_ 1).toInt ∧ (u35_ 1).toInt ≤ 26)) (fun ls u35_ w35_ => F0 m 35 ls []) 0 0 ?_ (fun hJ35 => ?_)
      · skip
        intro H locs ls u35_ w35_ a35_ b35_ hc hJ35
        obtain ⟨hP, hD, hS, hl, b_⟩ := hc
        refine lv_iload_n hx hb dX5_nextFrom_35 rfl (lv_at hl 3 rfl) ?_
        refine lv_bipush (v := 26) hx hb dX5_nextFrom_36 (by decide) ?_
        refine lv_icmp_ge (tgt := 76) hx hb dX5_nextFrom_38 (by decide) (fun c_ => ?_) (fun c_ => ?_)
        · skip
          have b_ := zT_ge rfl zk_26 c_
          refine lv_iconst (v := (-1)) hx hb dX5_nextFrom_76 (by decide) ?_
          refine W.widen (k := 0) (n := 0) (by decide) (by decide) ?_
          have hpost : ((-1) ≤ ((-1) : Int32).toInt ∧ ((-1) : Int32).toInt ≤ 832) ∧ (((-1) : Int32).toInt ≤ 831) := ⟨(by first | with_reducible assumption | exact ⟨by omega, by omega⟩), by omega⟩
          have hP9 : va_P (dC, dI) vwCl [(h0, .inr (5, mX5 h1)), (h1, zi k1 26 f1)] H := hP
          have hD9 : va_D A [(h0, .inr (5, mX5 h1)), (h1, zi k1 26 f1)] := hD
          exact W.iret (v := (-1)) hx hb hr (fun t ht hW => ⟨⟨(-1), (fun _ => 0), rfl, hpost, (fun _ => 0), (fun _ => (fun _ => 0)), (fun _ => (fun _ => 0)), by rw [ht]; exact hP9, va_K.moved hW.alike hK, hD9⟩, hS.F ht⟩) hS.2.2 dX5_nextFrom_77
        · skip
          have b_ := zF_ge rfl zk_26 c_
          refine lv_iload_n hx hb dX5_nextFrom_41 rfl (lv_at hl 3 rfl) ?_
          refine lv_iload_n hx hb dX5_nextFrom_42 rfl (lv_at hl 1 rfl) ?_
          refine lv_bipush (v := 32) hx hb dX5_nextFrom_43 (by decide) ?_
          refine lv_idiv hx hb dX5_nextFrom_45 (by decide) ?_
          refine lv_topi (fun z45 e_z45 => ?_)
          have b_ := zdiv rfl zk_32 e_z45 (by omega) (by decide)
          refine zcutW (fun H locs ls u56_ w56_ a56_ b56_ => va_P (dC, dI) vwCl [(h0, .inr (5, mX5 h1)), (h1, zi k1 26 f1)] H ∧ va_D A [(h0, .inr (5, mX5 h1)), (h1, zi k1 26 f1)] ∧ va_S A s.heap H locs ∧ lv_has ls 4 [(0, .ref h0), (1, .int x1), (2, .int (u56_ 0)), (3, .int (u35_ 1))] ∧ (0 ≤ z45.toInt ∧ z45.toInt ≤ 25)) (fun ls u56_ w56_ => F0 m 56 ls []) 0 0 ?_ (fun hJ56 => ?_)
          · skip
            intro H locs ls u56_ w56_ a56_ b56_ hc
            obtain ⟨hP, hD, hS, hl, b_⟩ := hc
            refine lv_iload_n hx hb dX5_nextFrom_56 rfl (lv_at hl 2 rfl) ?_
            have b_ : -2147483648 ≤ (u56_ 0).toInt ∧ (u56_ 0).toInt ≤ 2147483647 := ⟨zlo _, zhi _⟩
            refine lv_if_eq (tgt := 70) hx hb dX5_nextFrom_57 (by decide) (fun c_ => ?_) (fun c_ => ?_)
            · skip
              have b_ := zT_eq rfl zk_0 c_
              obtain ⟨z70, e_z70⟩ : ∃ z : Int32, z = (u35_ 1) + Int32.ofInt 1 := ⟨_, rfl⟩
              have b_ := zadd (x := (u35_ 1)) (y := Int32.ofInt 1) rfl (show (Int32.ofInt 1).toInt = 1 from by decide) e_z70 (by omega) (by omega)
              refine lv_iinc (v := z70) (lv' := [(3, .int z70), (0, .ref h0), (1, .int x1), (2, .int (u56_ 0))]) hx hb dX5_nextFrom_70 hl (k := 3) rfl e_z70.symm (by decide) rfl (fun ls hl => ?_)
              refine lv_goto (tgt := 35) hx hb dX5_nextFrom_73 (by decide) ?_
              have hc : va_P (dC, dI) vwCl [(h0, .inr (5, mX5 h1)), (h1, zi k1 26 f1)] H ∧ va_D A [(h0, .inr (5, mX5 h1)), (h1, zi k1 26 f1)] ∧ va_S A s.heap H locs ∧ lv_has ls 4 [(0, .ref h0), (1, .int x1), (2, .int (u56_ 0)), (3, .int z70)] ∧ (0 ≤ z70.toInt ∧ z70.toInt ≤ 26) := ⟨hP, hD, hS, lv_sub hl [1, 2, 3, 0] rfl, (by first | with_reducible assumption | exact ⟨by omega, by omega⟩)⟩
              exact hJ35 H locs ls (fun i => ([(u56_ 0), z70] : List (Int32)).getD i 0) (fun _ => 0) (fun _ => (fun _ => 0)) (fun _ => (fun _ => 0)) hc (show (26 - z70.toInt).toNat < (26 - (u35_ 1).toInt).toNat from by omega)
            · skip
              have b_ := zF_eq rfl zk_0 c_
              refine lv_iload_n hx hb dX5_nextFrom_60 rfl (lv_at hl 3 rfl) ?_
              refine lv_bipush (v := 32) hx hb dX5_nextFrom_61 (by decide) ?_
              refine lv_imul hx hb dX5_nextFrom_63 ?_
              refine lv_topi (fun z63 e_z63 => ?_)
              have b_ := zmul rfl zk_32 e_z63 (by omega) (by omega)
              refine lv_iload_n hx hb dX5_nextFrom_64 rfl (lv_at hl 2 rfl) ?_
              have hPc := hP.sub (ws' := []) [] rfl
              have hDc := hD.sub (ws' := []) [] (by decide) rfl
              have hKc := hK.sub (tys' := []) [] rfl
              have hFc := va_free (wc := []) hD hS hA [] rfl
              refine va_calli (va_runS (As := [.int (u56_ 0)]) (rest := [.int z63]) ⟨hx, hb, hml, hown, hG⟩ (sJ6_numberOfTrailingZeros_0f7a4_0 l dC dI adK adV H.size (u56_ 0)) (va_cwS 1 hG (zgS zv1318 zv1319 zv151 zv1320) rfl rfl rfl (by decide +kernel) ⟨Nat.le_of_ble_eq_true rfl, Nat.le_of_ble_eq_true rfl⟩) ⟨zPc_blind, zPc_pre hPc hKc hDc hE hS hFc hZ⟩ rfl rfl hl.1 rfl (lv_room (Nat.le_of_ble_eq_true rfl)) dX5_nextFrom_65 ⟨Nat.le_of_ble_eq_true rfl, Nat.le_of_ble_eq_true rfl⟩) hS (fun q _ h => hFc q h) hFc (fun r65_ u65_ t H1 locs ht hvm hw hB hz1 hk1 hS => ?_)
              replace hw : (0 ≤ r65_.toInt ∧ r65_.toInt ≤ 32) ∧ ((u56_ 0).toInt ≠ 0 → r65_.toInt ≤ 31) := hw
              obtain ⟨b_, hX65_0⟩ := hw
              obtain ⟨w65_, a65_, b65_, hP1, hK1, hD1⟩ := hB
              rw [ht] at hP1
              obtain ⟨hP, hD⟩ := va_join (wr := [(h0, .inr (5, mX5 h1)), (h1, zi k1 26 f1)]) (w1 := []) hP hD [] [0, 1] rfl rfl (by decide) (by decide) hk1 hFc hP1 hD1
              have hP : va_P (dC, dI) vwCl [(h0, .inr (5, mX5 h1)), (h1, zi k1 26 f1)] H1 := hP.sub [0, 1] rfl
              have hD : va_D A [(h0, .inr (5, mX5 h1)), (h1, zi k1 26 f1)] := hD.sub [0, 1] (by decide) rfl
              generalize H1 = H at hP hS ⊢
              clear hz1
              refine lv_iadd hx hb dX5_nextFrom_68 ?_
              refine lv_topi (fun z68 e_z68 => ?_)
              have b_ := zadd rfl rfl e_z68 (by omega) (by omega)
              refine W.widen (k := 0) (n := 0) (by decide) (by decide) ?_
              have hpost : ((-1) ≤ z68.toInt ∧ z68.toInt ≤ 832) ∧ (z68.toInt ≤ 831) := ⟨(by first | with_reducible assumption | exact ⟨by omega, by omega⟩), by omega⟩
              have hP9 : va_P (dC, dI) vwCl [(h0, .inr (5, mX5 h1)), (h1, zi k1 26 f1)] H := hP
              have hD9 : va_D A [(h0, .inr (5, mX5 h1)), (h1, zi k1 26 f1)] := hD
              exact W.iret (v := z68) hx hb hr (fun t ht hW => ⟨⟨z68, (fun _ => 0), rfl, hpost, (fun _ => 0), (fun _ => (fun _ => 0)), (fun _ => (fun _ => 0)), by rw [ht]; exact hP9, va_K.moved hW.alike hK, hD9⟩, hS.F ht⟩) hS.2.2 dX5_nextFrom_69
          · skip
            refine lv_icmp_le (tgt := 56) hx hb dX5_nextFrom_46 (by decide) (fun c_ => ?_) (fun c_ => ?_)
            · skip
              have b_ := zT_le rfl rfl c_
              have hc : va_P (dC, dI) vwCl [(h0, .inr (5, mX5 h1)), (h1, zi k1 26 f1)] H ∧ va_D A [(h0, .inr (5, mX5 h1)), (h1, zi k1 26 f1)] ∧ va_S A s.heap H locs ∧ lv_has ls 4 [(0, .ref h0), (1, .int x1), (2, .int (u35_ 0)), (3, .int (u35_ 1))] ∧ (0 ≤ z45.toInt ∧ z45.toInt ≤ 25) := ⟨hP, hD, hS, lv_sub hl [0, 1, 2, 3] rfl, (by first | with_reducible assumption | exact ⟨by omega, by omega⟩)⟩
              exact hJ56 H locs ls (fun i => ([(u35_ 0)] : List (Int32)).getD i 0) (fun _ => 0) (fun _ => (fun _ => 0)) (fun _ => (fun _ => 0)) hc
            · skip
              have b_ := zF_le rfl rfl c_
              refine lv_aload_n hx hb dX5_nextFrom_49 rfl (lv_at hl 0 rfl) ?_
              refine va_get (D := (dC, dI)) (ci := 5) (v := .ref h1) (C := RX5) (T := TX5) (N := 1) hx hb hG zuX5 hown hK hP 0 rfl rfl 0 (by decide) (hG _ zv458) (fun _ h9 => h9) rfl dX5_nextFrom_50 ?_
              refine lv_iload_n hx hb dX5_nextFrom_53 rfl (lv_at hl 3 rfl) ?_
              refine va_iald hx hb hK hP 1 0 rfl rfl (zin_lit ⟨by omega, by omega⟩) dX5_nextFrom_54 ?_
              refine lv_topi (fun z54 e_z54 => ?_)
              refine lv_istore_n (lv' := [(2, .int z54), (0, .ref h0), (1, .int x1), (3, .int (u35_ 1))]) hx hb dX5_nextFrom_55 rfl hl (by decide) rfl (fun ls hl => ?_)
              have hc : va_P (dC, dI) vwCl [(h0, .inr (5, mX5 h1)), (h1, zi k1 26 f1)] H ∧ va_D A [(h0, .inr (5, mX5 h1)), (h1, zi k1 26 f1)] ∧ va_S A s.heap H locs ∧ lv_has ls 4 [(0, .ref h0), (1, .int x1), (2, .int z54), (3, .int (u35_ 1))] ∧ (0 ≤ z45.toInt ∧ z45.toInt ≤ 25) := ⟨hP, hD, hS, lv_sub hl [1, 2, 0, 3] rfl, (by first | with_reducible assumption | exact ⟨by omega, by omega⟩)⟩
              exact hJ56 H locs ls (fun i => ([z54] : List (Int32)).getD i 0) (fun _ => 0) (fun _ => (fun _ => 0)) (fun _ => (fun _ => 0)) hc
      · skip
        have b_ : -2147483648 ≤ z28.toInt ∧ z28.toInt ≤ 2147483647 := ⟨zlo _, zhi _⟩
        have hc : va_P (dC, dI) vwCl [(h0, .inr (5, mX5 h1)), (h1, zi k1 26 f1)] s.heap ∧ va_D A [(h0, .inr (5, mX5 h1)), (h1, zi k1 26 f1)] ∧ va_S A s.heap s.heap [] ∧ lv_has ls 4 [(0, .ref h0), (1, .int x1), (2, .int z28), (3, .int z33)] ∧ (0 ≤ z33.toInt ∧ z33.toInt ≤ 26) := ⟨hP, hD, hS, lv_sub hl [2, 3, 1, 0] rfl, (by first | with_reducible assumption | exact ⟨by omega, by omega⟩)⟩
        exact hJ35 s.heap [] ls (fun i => ([z28, z33] : List (Int32)).getD i 0) (fun _ => 0) (fun _ => (fun _ => 0)) (fun _ => (fun _ => 0)) hc
    · skip
      have b_ := zF_lt rfl zk_832 c_
      refine lv_iconst (v := (-1)) hx hb dX5_nextFrom_11 (by decide) ?_
      refine W.widen (k := 0) (n := 0) (by decide) (by decide) ?_
      have hpost : ((-1) ≤ ((-1) : Int32).toInt ∧ ((-1) : Int32).toInt ≤ 832) ∧ (((-1) : Int32).toInt ≤ 831) := ⟨(by first | with_reducible assumption | exact ⟨by omega, by omega⟩), by omega⟩
      have hP9 : va_P (dC, dI) vwCl [(h0, .inr (5, mX5 h1)), (h1, zi k1 26 f1)] s.heap := hP
      have hD9 : va_D A [(h0, .inr (5, mX5 h1)), (h1, zi k1 26 f1)] := hD
      exact W.iret (v := (-1)) hx hb hr (fun t ht hW => ⟨⟨(-1), (fun _ => 0), rfl, hpost, (fun _ => 0), (fun _ => (fun _ => 0)), (fun _ => (fun _ => 0)), by rw [ht]; exact hP9, va_K.moved hW.alike hK, hD9⟩, hS.F ht⟩) hS.2.2 dX5_nextFrom_12
set_option maxHeartbeats 8000000 in
set_option maxRecDepth 100000 in
theorem sX5_isNear_0 (l : Launch) (dC : Nat → ClassId) (dI : Nat → Nat → Nat) (adK adV : Nat → Nat) (h0 : Nat) (h1 : Nat) (h2 : Nat) (h3 : Nat) (k1 : ClassId) (k3 : ClassId) (sz : Nat) (f1 : Nat → Int32) (f3 : Nat → Int32) (x2 : Int32) : Met l yX5_isNear (zw yX5_isNear cX5_isNear 8 (some .boolean)) { frames := 2, cells := 0, slots := 0, locals := 44 } (zPc dC dI adK adV [.ref h0, .ref h2, .int x2] sz [(h0, .inr (5, mX5 h1)), (h1, zi k1 26 f1), (h2, .inr (5, mX5 h3)), (h3, zi k3 26 f3)] [(k1, .int), (k3, .int)]) (va_Qi (fun (r : Int32) (u : Nat → Int32) => (0 ≤ r.toInt ∧ r.toInt ≤ 1)) (fun (u : Nat → Int32) (t : State) => ∃ (ww : Nat → Int64) (aa : Nat → Nat → Int32) (bb : Nat → Nat → Int64), va_P (dC, dI) vwCl [(h0, .inr (5, mX5 h1)), (h1, zi k1 26 f1), (h2, .inr (5, mX5 h3)), (h3, zi k3 26 f3)] t.heap ∧ va_K (dC, dI) vwCl [(k1, .int), (k3, .int)] t ∧ va_D (va_A [(h0, .inr (5, mX5 h1)), (h1, zi k1 26 f1), (h2, .inr (5, mX5 h3)), (h3, zi k3 26 f3)] sz) [(h0, .inr (5, mX5 h1)), (h1, zi k1 26 f1), (h2, .inr (5, mX5 h3)), (h3, zi k3 26 f3)]) (va_A [(h0, .inr (5, mX5 h1)), (h1, zi k1 26 f1), (h2, .inr (5, mX5 h3)), (h3, zi k3 26 f3)] sz)) 0 0 (va_A [(h0, .inr (5, mX5 h1)), (h1, zi k1 26 f1), (h2, .inr (5, mX5 h3)), (h3, zi k3 26 f3)] sz) := by
  refine Met.ofW (cc := cX5_isNear) (maxL := 8) (ret := (some .boolean)) (by decide) rfl ?_
  intro p e s m args below meth c s₁ B hml hv
  obtain ⟨rfl, hsz, hP, hK, hD0, hE, hZ⟩ := hv
  have hx := B.exec
  have hb := B.bytes
  have hr := B.returns
  have hG : ∀ w ∈ zG, w.before _ s = true := fun w h => atoms_spec (ws := (zw yX5_isNear cX5_isNear 8 (some .boolean))) B.pre w (List.mem_cons_of_mem _ h)
  have hown : s.vm.findClass RX5 = some m.cls := findClass_of_methodNamed B.named
  have hlocks := B.notSynchronized

  subst hsz
  have hD := hD0.self (sz := s.heap.size)
  generalize hAe : va_A [(h0, .inr (5, mX5 h1)), (h1, zi k1 26 f1), (h2, .inr (5, mX5 h3)), (h3, zi k3 26 f3)] s.heap.size = A at hD hZ ⊢
  have hA : ∀ q : Nat, s.heap.size ≤ q → A q := fun q h => by rw [← hAe]; exact Or.inr h
  have hS : va_S A s.heap s.heap [] := va_S.rf
  have hl := lv_entry ([.ref h0, .ref h2, .int x2]) (n := 8) (Nat.le_of_ble_eq_true rfl)
  rw [lg_entry_eq]
  generalize (lg_sl ([.ref h0, .ref h2, .int x2]) ++ List.replicate (8 - (lg_sl ([.ref h0, .ref h2, .int x2])).length) Slot.unset).toArray = ls at hl ⊢
  have hl : lv_has ls 8 [(0, .ref h0), (1, .ref h2), (2, .int x2)] := hl
  have b_ := zk_0
  have b_ := zk_1
  have b_ := zk_512
  have b_ := zk_832
  refine lv_aload_n hx hb dX5_isNear_0 rfl (lv_at hl 0 rfl) ?_
  refine lv_iconst (v := 0) hx hb dX5_isNear_1 (by decide) ?_
  have hPc := hP.sub (ws' := [(h0, .inr (5, mX5 h1)), (h1, zi k1 26 f1)]) [0, 1] rfl
  have hDc := hD.sub (ws' := [(h0, .inr (5, mX5 h1)), (h1, zi k1 26 f1)]) [0, 1] (by decide) rfl
  have hKc := hK.sub (tys' := [(k1, .int)]) [0] rfl
  have hFc := va_free (wc := [(h0, .inr (5, mX5 h1)), (h1, zi k1 26 f1)]) hD hS hA [0, 1] rfl
  refine va_calli (va_runV (As := [.int 0]) (rest := []) ⟨hx, hb, hml, hown, hG⟩ (sX5_nextFrom_0 l dC dI adK adV h0 h1 k1 s.heap.size f1 0) (cwV 1 hG (zgV zv1314 zv1315 zv1316 zv139 zv1317) rfl rfl rfl (by decide +kernel) ⟨Nat.le_of_ble_eq_true rfl, Nat.le_of_ble_eq_true rfl⟩) ⟨zPc_blind, va_recv hKc hPc (ci := 5) (q0 := 0) rfl rfl, zPc_pre hPc hKc hDc hE hS hFc hZ⟩ rfl rfl hl.1 rfl (lv_room (Nat.le_of_ble_eq_true rfl)) dX5_isNear_2 ⟨Nat.le_of_ble_eq_true rfl, Nat.le_of_ble_eq_true rfl⟩) hS (fun q _ h => hFc q h) hFc (fun r2_ u2_ t H1 locs ht hvm hw hB hz1 hk1 hS => ?_)
  replace hw : ((-1) ≤ r2_.toInt ∧ r2_.toInt ≤ 832) ∧ (r2_.toInt ≤ 831) := hw
  obtain ⟨b_, hX2_0⟩ := hw
  obtain ⟨w2_, a2_, b2_, hP1, hK1, hD1⟩ := hB
  rw [ht] at hP1
  obtain ⟨hP, hD⟩ := va_join (wr := [(h2, .inr (5, mX5 h3)), (h3, zi k3 26 f3)]) (w1 := [(h0, .inr (5, mX5 h1)), (h1, zi k1 26 f1)]) hP hD [0, 1] [2, 3] rfl rfl (by decide) (by decide) hk1 hFc hP1 hD1
  have hP : va_P (dC, dI) vwCl [(h0, .inr (5, mX5 h1)), (h1, zi k1 26 f1), (h2, .inr (5, mX5 h3)), (h3, zi k3 26 f3)] H1 := hP.sub [2, 3, 0, 1] rfl
  have hD : va_D A [(h0, .inr (5, mX5 h1)), (h1, zi k1 26 f1), (h2, .inr (5, mX5 h3)), (h3, zi k3 26 f3)] := hD.sub [2, 3, 0, 1] (by decide) rfl
  generalize H1 = H at hP hS ⊢
  clear hz1
  refine lv_istore_n (lv' := [(3, .int r2_), (0, .ref h0), (1, .ref h2), (2, .int x2)]) hx hb dX5_isNear_5 rfl hl (by decide) rfl (fun ls hl => ?_)
  refine lv_iconst (v := 0) hx hb dX5_isNear_6 (by decide) ?_
  refine lv_istore (lv' := [(4, .int 0), (3, .int r2_), (0, .ref h0), (1, .ref h2), (2, .int x2)]) hx hb dX5_isNear_7 hl (by decide) rfl (fun ls hl => ?_)
  refine zcutL (fun u9_ => (832 - (u9_ 1).toInt).toNat) (fun H locs ls u9_ w9_ a9_ b9_ => va_P (dC, dI) vwCl [(h0, .inr (5, mX5 h1)), (h1, zi k1 26 f1), (h2, .inr (5, mX5 h3)), (h3, zi k3 26 f3)] H ∧ va_D A [(h0, .inr (5, mX5 h1)), (h1, zi k1 26 f1), (h2, .inr (5, mX5 h3)), (h3, zi k3 26 f3)] ∧ va_S A s.heap H locs ∧ lv_has ls 8 [(0, .ref h0), (1, .ref h2), (2, .int x2), (3, .int (u9_ 0)), (4, .int (u9_ 1))] ∧ ((-1) ≤ (u9_ 0).toInt ∧ (u9_ 0).toInt ≤ 832) ∧ (0 ≤ (u9_ 1).toInt ∧ (u9_ 1).toInt ≤ 832)) (fun ls u9_ w9_ => F0 m 9 ls []) 0 0 ?_ (fun hJ9 => ?_)
  · skip
    intro H locs ls u9_ w9_ a9_ b9_ hc hJ9
    obtain ⟨hP, hD, hS, hl, b_, b_⟩ := hc
    refine lv_iload hx hb dX5_isNear_9 (lv_at hl 4 rfl) ?_
    refine lv_sipush (v := 832) hx hb dX5_isNear_11 (by decide) ?_
    refine lv_icmp_ge (tgt := 107) hx hb dX5_isNear_14 (by decide) (fun c_ => ?_) (fun c_ => ?_)
    · skip
      have b_ := zT_ge rfl zk_832 c_
      refine lv_iconst (v := 0) hx hb dX5_isNear_107 (by decide) ?_
      refine W.widen (k := 0) (n := 0) (by decide) (by decide) ?_
      have hpost : (0 ≤ (0 : Int32).toInt ∧ (0 : Int32).toInt ≤ 1) := (by first | with_reducible assumption | exact ⟨by omega, by omega⟩)
      have hP9 : va_P (dC, dI) vwCl [(h0, .inr (5, mX5 h1)), (h1, zi k1 26 f1), (h2, .inr (5, mX5 h3)), (h3, zi k3 26 f3)] H := hP
      have hD9 : va_D A [(h0, .inr (5, mX5 h1)), (h1, zi k1 26 f1), (h2, .inr (5, mX5 h3)), (h3, zi k3 26 f3)] := hD
      exact W.zret (v := 0) hx hb hr rfl (fun t ht hW => ⟨⟨0, (fun _ => 0), rfl, hpost, (fun _ => 0), (fun _ => (fun _ => 0)), (fun _ => (fun _ => 0)), by rw [ht]; exact hP9, va_K.moved hW.alike hK, hD9⟩, hS.F ht⟩) hS.2.2 dX5_isNear_108
    · skip
      have b_ := zF_ge rfl zk_832 c_
      refine lv_iload_n hx hb dX5_isNear_17 rfl (lv_at hl 3 rfl) ?_
      refine lv_iconst (v := (-1)) hx hb dX5_isNear_18 (by decide) ?_
      refine lv_icmp_eq (tgt := 107) hx hb dX5_isNear_19 (by decide) (fun c_ => ?_) (fun c_ => ?_)
      · skip
        have b_ := zT_eq rfl zk_m1 c_
        refine lv_iconst (v := 0) hx hb dX5_isNear_107 (by decide) ?_
        refine W.widen (k := 0) (n := 0) (by decide) (by decide) ?_
        have hpost : (0 ≤ (0 : Int32).toInt ∧ (0 : Int32).toInt ≤ 1) := (by first | with_reducible assumption | exact ⟨by omega, by omega⟩)
        have hP9 : va_P (dC, dI) vwCl [(h0, .inr (5, mX5 h1)), (h1, zi k1 26 f1), (h2, .inr (5, mX5 h3)), (h3, zi k3 26 f3)] H := hP
        have hD9 : va_D A [(h0, .inr (5, mX5 h1)), (h1, zi k1 26 f1), (h2, .inr (5, mX5 h3)), (h3, zi k3 26 f3)] := hD
        exact W.zret (v := 0) hx hb hr rfl (fun t ht hW => ⟨⟨0, (fun _ => 0), rfl, hpost, (fun _ => 0), (fun _ => (fun _ => 0)), (fun _ => (fun _ => 0)), by rw [ht]; exact hP9, va_K.moved hW.alike hK, hD9⟩, hS.F ht⟩) hS.2.2 dX5_isNear_108
      · skip
        have b_ := zF_eq rfl zk_m1 c_
        refine lv_iload_n hx hb dX5_isNear_22 rfl (lv_at hl 3 rfl) ?_
        refine lv_sipush (v := 512) hx hb dX5_isNear_23 (by decide) ?_
        refine zcutW (fun H locs ls u36_ w36_ a36_ b36_ => va_P (dC, dI) vwCl [(h0, .inr (5, mX5 h1)), (h1, zi k1 26 f1), (h2, .inr (5, mX5 h3)), (h3, zi k3 26 f3)] H ∧ va_D A [(h0, .inr (5, mX5 h1)), (h1, zi k1 26 f1), (h2, .inr (5, mX5 h3)), (h3, zi k3 26 f3)] ∧ va_S A s.heap H locs ∧ lv_has ls 8 [(0, .ref h0), (1, .ref h2), (2, .int x2), (3, .int (u9_ 0)), (4, .int (u9_ 1))] ∧ (0 ≤ (u36_ 0).toInt ∧ (u36_ 0).toInt ≤ 512)) (fun ls u36_ w36_ => F0 m 36 ls [.int (u36_ 0)]) 0 0 ?_ (fun hJ36 => ?_)
        · skip
          intro H locs ls u36_ w36_ a36_ b36_ hc
          obtain ⟨hP, hD, hS, hl, b_⟩ := hc
          refine lv_istore (lv' := [(5, .int (u36_ 0)), (0, .ref h0), (1, .ref h2), (2, .int x2), (3, .int (u9_ 0)), (4, .int (u9_ 1))]) hx hb dX5_isNear_36 hl (by decide) rfl (fun ls hl => ?_)
          refine lv_iload_n hx hb dX5_isNear_38 rfl (lv_at hl 4 rfl) ?_
          refine lv_sipush (v := 512) hx hb dX5_isNear_39 (by decide) ?_
          refine zcutW (fun H locs ls u54_ w54_ a54_ b54_ => va_P (dC, dI) vwCl [(h0, .inr (5, mX5 h1)), (h1, zi k1 26 f1), (h2, .inr (5, mX5 h3)), (h3, zi k3 26 f3)] H ∧ va_D A [(h0, .inr (5, mX5 h1)), (h1, zi k1 26 f1), (h2, .inr (5, mX5 h3)), (h3, zi k3 26 f3)] ∧ va_S A s.heap H locs ∧ lv_has ls 8 [(0, .ref h0), (1, .ref h2), (2, .int x2), (3, .int (u9_ 0)), (4, .int (u9_ 1)), (5, .int (u36_ 0))] ∧ (512 ≤ (u54_ 0).toInt ∧ (u54_ 0).toInt ≤ 832)) (fun ls u54_ w54_ => F0 m 54 ls [.int (u54_ 0)]) 0 0 ?_ (fun hJ54 => ?_)
          · skip
            intro H locs ls u54_ w54_ a54_ b54_ hc
            obtain ⟨hP, hD, hS, hl, b_⟩ := hc
            refine lv_istore (lv' := [(6, .int (u54_ 0)), (0, .ref h0), (1, .ref h2), (2, .int x2), (3, .int (u9_ 0)), (4, .int (u9_ 1)), (5, .int (u36_ 0))]) hx hb dX5_isNear_54 hl (by decide) rfl (fun ls hl => ?_)
            refine lv_aload_n hx hb dX5_isNear_56 rfl (lv_at hl 2 rfl) ?_
            refine lv_iload hx hb dX5_isNear_57 (lv_at hl 6 rfl) ?_
            refine lv_iload_n hx hb dX5_isNear_59 rfl (lv_at hl 4 rfl) ?_
            refine lv_iload_n hx hb dX5_isNear_60 rfl (lv_at hl 3 rfl) ?_
            have b_ : -2147483648 ≤ x2.toInt ∧ x2.toInt ≤ 2147483647 := ⟨zlo _, zhi _⟩
            refine lv_isub hx hb dX5_isNear_61 ?_
            refine lv_topi (fun z61 e_z61 => ?_)
            have b_ : -2147483648 ≤ z61.toInt ∧ z61.toInt ≤ 2147483647 := ⟨zlo _, zhi _⟩
            refine va_mmax hx hb (by rw [hml]; exact hl.1.symm) hown (hG _ zv1321) (hG _ zv1030) (hG _ zv152) (hG _ zv1031) (Nat.le_of_ble_eq_true rfl) (Nat.le_of_ble_eq_true rfl) (Nat.le_of_ble_eq_true rfl) (Nat.le_of_ble_eq_true rfl) dX5_isNear_62 ?_
            refine lv_topi (fun z62 e_z62 => ?_)
            have b_ := zmax rfl rfl e_z62
            have hPc := hP.sub (ws' := [(h2, .inr (5, mX5 h3)), (h3, zi k3 26 f3)]) [2, 3] rfl
            have hDc := hD.sub (ws' := [(h2, .inr (5, mX5 h3)), (h3, zi k3 26 f3)]) [2, 3] (by decide) rfl
            have hKc := hK.sub (tys' := [(k3, .int)]) [1] rfl
            have hFc := va_free (wc := [(h2, .inr (5, mX5 h3)), (h3, zi k3 26 f3)]) hD hS hA [2, 3] rfl
            refine va_calli (va_runV (As := [.int z62]) (rest := []) ⟨hx, hb, hml, hown, hG⟩ (sX5_nextFrom_0 l dC dI adK adV h2 h3 k3 H.size f3 z62) (cwV 1 hG (zgV zv1314 zv1315 zv1316 zv139 zv1317) rfl rfl rfl (by decide +kernel) ⟨Nat.le_of_ble_eq_true rfl, Nat.le_of_ble_eq_true rfl⟩) ⟨zPc_blind, va_recv hKc hPc (ci := 5) (q0 := 0) rfl rfl, zPc_pre hPc hKc hDc hE hS hFc hZ⟩ rfl rfl hl.1 rfl (lv_room (Nat.le_of_ble_eq_true rfl)) dX5_isNear_65 ⟨Nat.le_of_ble_eq_true rfl, Nat.le_of_ble_eq_true rfl⟩) hS (fun q _ h => hFc q h) hFc (fun r65_ u65_ t H1 locs ht hvm hw hB hz1 hk1 hS => ?_)
            replace hw : ((-1) ≤ r65_.toInt ∧ r65_.toInt ≤ 832) ∧ (r65_.toInt ≤ 831) := hw
            obtain ⟨b_, hX65_0⟩ := hw
            obtain ⟨w65_, a65_, b65_, hP1, hK1, hD1⟩ := hB
            rw [ht] at hP1
            obtain ⟨hP, hD⟩ := va_join (wr := [(h0, .inr (5, mX5 h1)), (h1, zi k1 26 f1)]) (w1 := [(h2, .inr (5, mX5 h3)), (h3, zi k3 26 f3)]) hP hD [2, 3] [0, 1] rfl rfl (by decide) (by decide) hk1 hFc hP1 hD1
            have hP : va_P (dC, dI) vwCl [(h0, .inr (5, mX5 h1)), (h1, zi k1 26 f1), (h2, .inr (5, mX5 h3)), (h3, zi k3 26 f3)] H1 := hP.sub [0, 1, 2, 3] rfl
            have hD : va_D A [(h0, .inr (5, mX5 h1)), (h1, zi k1 26 f1), (h2, .inr (5, mX5 h3)), (h3, zi k3 26 f3)] := hD.sub [0, 1, 2, 3] (by decide) rfl
            generalize H1 = H at hP hS ⊢
            clear hz1
            refine lv_istore (lv' := [(7, .int r65_), (6, .int (u54_ 0)), (0, .ref h0), (1, .ref h2), (2, .int x2), (3, .int (u9_ 0)), (4, .int (u9_ 1)), (5, .int (u36_ 0))]) hx hb dX5_isNear_68 hl (by decide) rfl (fun ls hl => ?_)
            refine lv_iload hx hb dX5_isNear_70 (lv_at hl 0 rfl) ?_
            refine lv_iconst (v := (-1)) hx hb dX5_isNear_72 (by decide) ?_
            refine zcutW (fun H locs ls u93_ w93_ a93_ b93_ => va_P (dC, dI) vwCl [(h0, .inr (5, mX5 h1)), (h1, zi k1 26 f1), (h2, .inr (5, mX5 h3)), (h3, zi k3 26 f3)] H ∧ va_D A [(h0, .inr (5, mX5 h1)), (h1, zi k1 26 f1), (h2, .inr (5, mX5 h3)), (h3, zi k3 26 f3)] ∧ va_S A s.heap H locs ∧ lv_has ls 8 [(0, .ref h0), (1, .ref h2), (2, .int x2), (3, .int (u9_ 0)), (4, .int (u9_ 1)), (5, .int (u36_ 0)), (6, .int (u54_ 0)), (7, .int r65_)] ∧ ((-1) ≤ r65_.toInt ∧ r65_.toInt ≤ 832)) (fun ls u93_ w93_ => F0 m 93 ls []) 0 0 ?_ (fun hJ93 => ?_)
            · skip
              intro H locs ls u93_ w93_ a93_ b93_ hc
              obtain ⟨hP, hD, hS, hl, b_⟩ := hc
              refine lv_aload_n hx hb dX5_isNear_93 rfl (lv_at hl 0 rfl) ?_
              refine lv_iload_n hx hb dX5_isNear_94 rfl (lv_at hl 3 rfl) ?_
              refine lv_iconst (v := 1) hx hb dX5_isNear_95 (by decide) ?_
              refine lv_iadd hx hb dX5_isNear_96 ?_
              refine lv_topi (fun z96 e_z96 => ?_)
              have b_ := zadd rfl zk_1 e_z96 (by omega) (by omega)
              have hPc := hP.sub (ws' := [(h0, .inr (5, mX5 h1)), (h1, zi k1 26 f1)]) [0, 1] rfl
              have hDc := hD.sub (ws' := [(h0, .inr (5, mX5 h1)), (h1, zi k1 26 f1)]) [0, 1] (by decide) rfl
              have hKc := hK.sub (tys' := [(k1, .int)]) [0] rfl
              have hFc := va_free (wc := [(h0, .inr (5, mX5 h1)), (h1, zi k1 26 f1)]) hD hS hA [0, 1] rfl
              refine va_calli (va_runV (As := [.int z96]) (rest := []) ⟨hx, hb, hml, hown, hG⟩ (sX5_nextFrom_0 l dC dI adK adV h0 h1 k1 H.size f1 z96) (cwV 1 hG (zgV zv1314 zv1315 zv1316 zv139 zv1317) rfl rfl rfl (by decide +kernel) ⟨Nat.le_of_ble_eq_true rfl, Nat.le_of_ble_eq_true rfl⟩) ⟨zPc_blind, va_recv hKc hPc (ci := 5) (q0 := 0) rfl rfl, zPc_pre hPc hKc hDc hE hS hFc hZ⟩ rfl rfl hl.1 rfl (lv_room (Nat.le_of_ble_eq_true rfl)) dX5_isNear_97 ⟨Nat.le_of_ble_eq_true rfl, Nat.le_of_ble_eq_true rfl⟩) hS (fun q _ h => hFc q h) hFc (fun r97_ u97_ t H1 locs ht hvm hw hB hz1 hk1 hS => ?_)
              replace hw : ((-1) ≤ r97_.toInt ∧ r97_.toInt ≤ 832) ∧ (r97_.toInt ≤ 831) := hw
              obtain ⟨b_, hX97_0⟩ := hw
              obtain ⟨w97_, a97_, b97_, hP1, hK1, hD1⟩ := hB
              rw [ht] at hP1
              obtain ⟨hP, hD⟩ := va_join (wr := [(h2, .inr (5, mX5 h3)), (h3, zi k3 26 f3)]) (w1 := [(h0, .inr (5, mX5 h1)), (h1, zi k1 26 f1)]) hP hD [0, 1] [2, 3] rfl rfl (by decide) (by decide) hk1 hFc hP1 hD1
              have hP : va_P (dC, dI) vwCl [(h0, .inr (5, mX5 h1)), (h1, zi k1 26 f1), (h2, .inr (5, mX5 h3)), (h3, zi k3 26 f3)] H1 := hP.sub [2, 3, 0, 1] rfl
              have hD : va_D A [(h0, .inr (5, mX5 h1)), (h1, zi k1 26 f1), (h2, .inr (5, mX5 h3)), (h3, zi k3 26 f3)] := hD.sub [2, 3, 0, 1] (by decide) rfl
              generalize H1 = H at hP hS ⊢
              clear hz1
              refine lv_istore_n (lv' := [(3, .int r97_), (0, .ref h0), (1, .ref h2), (2, .int x2), (4, .int (u9_ 1)), (5, .int (u36_ 0)), (6, .int (u54_ 0)), (7, .int r65_)]) hx hb dX5_isNear_100 rfl hl (by decide) rfl (fun ls hl => ?_)
              obtain ⟨z101, e_z101⟩ : ∃ z : Int32, z = (u9_ 1) + Int32.ofInt 1 := ⟨_, rfl⟩
              have b_ := zadd (x := (u9_ 1)) (y := Int32.ofInt 1) rfl (show (Int32.ofInt 1).toInt = 1 from by decide) e_z101 (by omega) (by omega)
              refine lv_iinc (v := z101) (lv' := [(4, .int z101), (3, .int r97_), (0, .ref h0), (1, .ref h2), (2, .int x2), (5, .int (u36_ 0)), (6, .int (u54_ 0)), (7, .int r65_)]) hx hb dX5_isNear_101 hl (k := 4) rfl e_z101.symm (by decide) rfl (fun ls hl => ?_)
              refine lv_goto (tgt := 9) hx hb dX5_isNear_104 (by decide) ?_
              have hc : va_P (dC, dI) vwCl [(h0, .inr (5, mX5 h1)), (h1, zi k1 26 f1), (h2, .inr (5, mX5 h3)), (h3, zi k3 26 f3)] H ∧ va_D A [(h0, .inr (5, mX5 h1)), (h1, zi k1 26 f1), (h2, .inr (5, mX5 h3)), (h3, zi k3 26 f3)] ∧ va_S A s.heap H locs ∧ lv_has ls 8 [(0, .ref h0), (1, .ref h2), (2, .int x2), (3, .int r97_), (4, .int z101)] ∧ ((-1) ≤ r97_.toInt ∧ r97_.toInt ≤ 832) ∧ (0 ≤ z101.toInt ∧ z101.toInt ≤ 832) := ⟨hP, hD, hS, lv_sub hl [2, 3, 4, 1, 0] rfl, (by first | with_reducible assumption | exact ⟨by omega, by omega⟩), (by first | with_reducible assumption | exact ⟨by omega, by omega⟩)⟩
              exact hJ9 H locs ls (fun i => ([r97_, z101] : List (Int32)).getD i 0) (fun _ => 0) (fun _ => (fun _ => 0)) (fun _ => (fun _ => 0)) hc (show (832 - z101.toInt).toNat < (832 - (u9_ 1).toInt).toNat from by omega)
            · skip
              refine lv_icmp_eq (tgt := 93) hx hb dX5_isNear_73 (by decide) (fun c_ => ?_) (fun c_ => ?_)
              · skip
                have b_ := zT_eq rfl zk_m1 c_
                have hc : va_P (dC, dI) vwCl [(h0, .inr (5, mX5 h1)), (h1, zi k1 26 f1), (h2, .inr (5, mX5 h3)), (h3, zi k3 26 f3)] H ∧ va_D A [(h0, .inr (5, mX5 h1)), (h1, zi k1 26 f1), (h2, .inr (5, mX5 h3)), (h3, zi k3 26 f3)] ∧ va_S A s.heap H locs ∧ lv_has ls 8 [(0, .ref h0), (1, .ref h2), (2, .int x2), (3, .int (u9_ 0)), (4, .int (u9_ 1)), (5, .int (u36_ 0)), (6, .int (u54_ 0)), (7, .int r65_)] ∧ ((-1) ≤ r65_.toInt ∧ r65_.toInt ≤ 832) := ⟨hP, hD, hS, lv_sub hl [2, 3, 4, 5, 6, 7, 1, 0] rfl, (by first | with_reducible assumption | exact ⟨by omega, by omega⟩)⟩
                exact hJ93 H locs ls (fun _ => 0) (fun _ => 0) (fun _ => (fun _ => 0)) (fun _ => (fun _ => 0)) hc
              · skip
                have b_ := zF_eq rfl zk_m1 c_
                refine lv_iload hx hb dX5_isNear_76 (lv_at hl 0 rfl) ?_
                refine lv_iload hx hb dX5_isNear_78 (lv_at hl 1 rfl) ?_
                refine lv_icmp_ge (tgt := 93) hx hb dX5_isNear_80 (by decide) (fun c_ => ?_) (fun c_ => ?_)
                · skip
                  have b_ := zT_ge rfl rfl c_
                  have hc : va_P (dC, dI) vwCl [(h0, .inr (5, mX5 h1)), (h1, zi k1 26 f1), (h2, .inr (5, mX5 h3)), (h3, zi k3 26 f3)] H ∧ va_D A [(h0, .inr (5, mX5 h1)), (h1, zi k1 26 f1), (h2, .inr (5, mX5 h3)), (h3, zi k3 26 f3)] ∧ va_S A s.heap H locs ∧ lv_has ls 8 [(0, .ref h0), (1, .ref h2), (2, .int x2), (3, .int (u9_ 0)), (4, .int (u9_ 1)), (5, .int (u36_ 0)), (6, .int (u54_ 0)), (7, .int r65_)] ∧ ((-1) ≤ r65_.toInt ∧ r65_.toInt ≤ 832) := ⟨hP, hD, hS, lv_sub hl [2, 3, 4, 5, 6, 7, 1, 0] rfl, (by first | with_reducible assumption | exact ⟨by omega, by omega⟩)⟩
                  exact hJ93 H locs ls (fun _ => 0) (fun _ => 0) (fun _ => (fun _ => 0)) (fun _ => (fun _ => 0)) hc
                · skip
                  have b_ := zF_ge rfl rfl c_
                  refine lv_iload hx hb dX5_isNear_83 (lv_at hl 0 rfl) ?_
                  refine lv_iload_n hx hb dX5_isNear_85 rfl (lv_at hl 5 rfl) ?_
                  refine lv_iload_n hx hb dX5_isNear_86 rfl (lv_at hl 4 rfl) ?_
                  refine lv_iadd hx hb dX5_isNear_87 ?_
                  refine lv_topi (fun z87 e_z87 => ?_)
                  have b_ : -2147483648 ≤ z87.toInt ∧ z87.toInt ≤ 2147483647 := ⟨zlo _, zhi _⟩
                  refine lv_icmp_gt (tgt := 93) hx hb dX5_isNear_88 (by decide) (fun c_ => ?_) (fun c_ => ?_)
                  · skip
                    have b_ := zT_gt rfl rfl c_
                    have hc : va_P (dC, dI) vwCl [(h0, .inr (5, mX5 h1)), (h1, zi k1 26 f1), (h2, .inr (5, mX5 h3)), (h3, zi k3 26 f3)] H ∧ va_D A [(h0, .inr (5, mX5 h1)), (h1, zi k1 26 f1), (h2, .inr (5, mX5 h3)), (h3, zi k3 26 f3)] ∧ va_S A s.heap H locs ∧ lv_has ls 8 [(0, .ref h0), (1, .ref h2), (2, .int x2), (3, .int (u9_ 0)), (4, .int (u9_ 1)), (5, .int (u36_ 0)), (6, .int (u54_ 0)), (7, .int r65_)] ∧ ((-1) ≤ r65_.toInt ∧ r65_.toInt ≤ 832) := ⟨hP, hD, hS, lv_sub hl [2, 3, 4, 5, 6, 7, 1, 0] rfl, (by first | with_reducible assumption | exact ⟨by omega, by omega⟩)⟩
                    exact hJ93 H locs ls (fun _ => 0) (fun _ => 0) (fun _ => (fun _ => 0)) (fun _ => (fun _ => 0)) hc
                  · skip
                    have b_ := zF_gt rfl rfl c_
                    refine lv_iconst (v := 1) hx hb dX5_isNear_91 (by decide) ?_
                    refine W.widen (k := 0) (n := 0) (by decide) (by decide) ?_
                    have hpost : (0 ≤ (1 : Int32).toInt ∧ (1 : Int32).toInt ≤ 1) := (by first | with_reducible assumption | exact ⟨by omega, by omega⟩)
                    have hP9 : va_P (dC, dI) vwCl [(h0, .inr (5, mX5 h1)), (h1, zi k1 26 f1), (h2, .inr (5, mX5 h3)), (h3, zi k3 26 f3)] H := hP
                    have hD9 : va_D A [(h0, .inr (5, mX5 h1)), (h1, zi k1 26 f1), (h2, .inr (5, mX5 h3)), (h3, zi k3 26 f3)] := hD
                    exact W.zret (v := 1) hx hb hr rfl (fun t ht hW => ⟨⟨1, (fun _ => 0), rfl, hpost, (fun _ => 0), (fun _ => (fun _ => 0)), (fun _ => (fun _ => 0)), by rw [ht]; exact hP9, va_K.moved hW.alike hK, hD9⟩, hS.F ht⟩) hS.2.2 dX5_isNear_92
          · skip
            refine lv_icmp_ge (tgt := 51) hx hb dX5_isNear_42 (by decide) (fun c_ => ?_) (fun c_ => ?_)
            · skip
              have b_ := zT_ge rfl zk_512 c_
              refine lv_sipush (v := 832) hx hb dX5_isNear_51 (by decide) ?_
              have hc : va_P (dC, dI) vwCl [(h0, .inr (5, mX5 h1)), (h1, zi k1 26 f1), (h2, .inr (5, mX5 h3)), (h3, zi k3 26 f3)] H ∧ va_D A [(h0, .inr (5, mX5 h1)), (h1, zi k1 26 f1), (h2, .inr (5, mX5 h3)), (h3, zi k3 26 f3)] ∧ va_S A s.heap H locs ∧ lv_has ls 8 [(0, .ref h0), (1, .ref h2), (2, .int x2), (3, .int (u9_ 0)), (4, .int (u9_ 1)), (5, .int (u36_ 0))] ∧ (512 ≤ (832 : Int32).toInt ∧ (832 : Int32).toInt ≤ 832) := ⟨hP, hD, hS, lv_sub hl [1, 2, 3, 4, 5, 0] rfl, (by first | with_reducible assumption | exact ⟨by omega, by omega⟩)⟩
              exact hJ54 H locs ls (fun i => ([832] : List (Int32)).getD i 0) (fun _ => 0) (fun _ => (fun _ => 0)) (fun _ => (fun _ => 0)) hc
            · skip
              have b_ := zF_ge rfl zk_512 c_
              refine lv_sipush (v := 512) hx hb dX5_isNear_45 (by decide) ?_
              refine lv_goto (tgt := 54) hx hb dX5_isNear_48 (by decide) ?_
              have hc : va_P (dC, dI) vwCl [(h0, .inr (5, mX5 h1)), (h1, zi k1 26 f1), (h2, .inr (5, mX5 h3)), (h3, zi k3 26 f3)] H ∧ va_D A [(h0, .inr (5, mX5 h1)), (h1, zi k1 26 f1), (h2, .inr (5, mX5 h3)), (h3, zi k3 26 f3)] ∧ va_S A s.heap H locs ∧ lv_has ls 8 [(0, .ref h0), (1, .ref h2), (2, .int x2), (3, .int (u9_ 0)), (4, .int (u9_ 1)), (5, .int (u36_ 0))] ∧ (512 ≤ (512 : Int32).toInt ∧ (512 : Int32).toInt ≤ 832) := ⟨hP, hD, hS, lv_sub hl [1, 2, 3, 4, 5, 0] rfl, (by first | with_reducible assumption | exact ⟨by omega, by omega⟩)⟩
              exact hJ54 H locs ls (fun i => ([512] : List (Int32)).getD i 0) (fun _ => 0) (fun _ => (fun _ => 0)) (fun _ => (fun _ => 0)) hc
        · skip
          refine lv_icmp_ge (tgt := 33) hx hb dX5_isNear_26 (by decide) (fun c_ => ?_) (fun c_ => ?_)
          · skip
            have b_ := zT_ge rfl zk_512 c_
            refine lv_sipush (v := 512) hx hb dX5_isNear_33 (by decide) ?_
            have hc : va_P (dC, dI) vwCl [(h0, .inr (5, mX5 h1)), (h1, zi k1 26 f1), (h2, .inr (5, mX5 h3)), (h3, zi k3 26 f3)] H ∧ va_D A [(h0, .inr (5, mX5 h1)), (h1, zi k1 26 f1), (h2, .inr (5, mX5 h3)), (h3, zi k3 26 f3)] ∧ va_S A s.heap H locs ∧ lv_has ls 8 [(0, .ref h0), (1, .ref h2), (2, .int x2), (3, .int (u9_ 0)), (4, .int (u9_ 1))] ∧ (0 ≤ (512 : Int32).toInt ∧ (512 : Int32).toInt ≤ 512) := ⟨hP, hD, hS, lv_sub hl [0, 1, 2, 3, 4] rfl, (by first | with_reducible assumption | exact ⟨by omega, by omega⟩)⟩
            exact hJ36 H locs ls (fun i => ([512] : List (Int32)).getD i 0) (fun _ => 0) (fun _ => (fun _ => 0)) (fun _ => (fun _ => 0)) hc
          · skip
            have b_ := zF_ge rfl zk_512 c_
            refine lv_iconst (v := 0) hx hb dX5_isNear_29 (by decide) ?_
            refine lv_goto (tgt := 36) hx hb dX5_isNear_30 (by decide) ?_
            have hc : va_P (dC, dI) vwCl [(h0, .inr (5, mX5 h1)), (h1, zi k1 26 f1), (h2, .inr (5, mX5 h3)), (h3, zi k3 26 f3)] H ∧ va_D A [(h0, .inr (5, mX5 h1)), (h1, zi k1 26 f1), (h2, .inr (5, mX5 h3)), (h3, zi k3 26 f3)] ∧ va_S A s.heap H locs ∧ lv_has ls 8 [(0, .ref h0), (1, .ref h2), (2, .int x2), (3, .int (u9_ 0)), (4, .int (u9_ 1))] ∧ (0 ≤ (0 : Int32).toInt ∧ (0 : Int32).toInt ≤ 512) := ⟨hP, hD, hS, lv_sub hl [0, 1, 2, 3, 4] rfl, (by first | with_reducible assumption | exact ⟨by omega, by omega⟩)⟩
            exact hJ36 H locs ls (fun i => ([0] : List (Int32)).getD i 0) (fun _ => 0) (fun _ => (fun _ => 0)) (fun _ => (fun _ => 0)) hc
  · skip
    have b_ : -2147483648 ≤ x2.toInt ∧ x2.toInt ≤ 2147483647 := ⟨zlo _, zhi _⟩
    have hc : va_P (dC, dI) vwCl [(h0, .inr (5, mX5 h1)), (h1, zi k1 26 f1), (h2, .inr (5, mX5 h3)), (h3, zi k3 26 f3)] H ∧ va_D A [(h0, .inr (5, mX5 h1)), (h1, zi k1 26 f1), (h2, .inr (5, mX5 h3)), (h3, zi k3 26 f3)] ∧ va_S A s.heap H locs ∧ lv_has ls 8 [(0, .ref h0), (1, .ref h2), (2, .int x2), (3, .int r2_), (4, .int 0)] ∧ ((-1) ≤ r2_.toInt ∧ r2_.toInt ≤ 832) ∧ (0 ≤ (0 : Int32).toInt ∧ (0 : Int32).toInt ≤ 832) := ⟨hP, hD, hS, lv_sub hl [2, 3, 4, 1, 0] rfl, (by first | with_reducible assumption | exact ⟨by omega, by omega⟩), (by first | with_reducible assumption | exact ⟨by omega, by omega⟩)⟩
    exact hJ9 H locs ls (fun i => ([r2_, 0] : List (Int32)).getD i 0) (fun _ => 0) (fun _ => (fun _ => 0)) (fun _ => (fun _ => 0)) hc
set_option maxHeartbeats 8000000 in
set_option maxRecDepth 100000 in
theorem sX1_areNear_0 (l : Launch) (dC : Nat → ClassId) (dI : Nat → Nat → Nat) (adK adV : Nat → Nat) (h0 : Nat) (h36 : Nat) (h41 : Nat) (h31 : Nat) (h1 : Nat) (h6 : Nat) (h13 : Nat) (h21 : Nat) (h37 : Nat) (h39 : Nat) (h40 : Nat) (h42 : Nat) (h43 : Nat) (h44 : Nat) (h45 : Nat) (h46 : Nat) (h47 : Nat) (h48 : Nat) (h22 : Nat) (k36 : ClassId) (k41 : ClassId) (k31 : ClassId) (pl0 : va_W) (sz : Nat) (v0 : Nat → Int32) (f36 : Nat → Option Nat) (f41 : Nat → Int32) (f31 : Nat → Option Nat) (x1 : Int32) (x2 : Int32) (x3 : Int32) (hv0 : zR rg_Finder v0) (hx1 : (-2) ≤ x1.toInt ∧ x1.toInt ≤ 38) (hx2 : (-1) ≤ x2.toInt ∧ x2.toInt ≤ 39) (hp0_ : zRd h22 f31 pl0) (hp1_ : zPs k41 f36 pl0) (hp2_ : x1.toInt = x2.toInt - 1) : Met l yX1_areNear (zw yX1_areNear cX1_areNear 4 (some .boolean)) { frames := 3, cells := 0, slots := 0, locals := 71 } (zPc dC dI adK adV [.ref h0, .int x1, .int x2, .int x3] sz ([(h0, .inr (1, mX1 h1 h6 h13 h21 h36 h37 h39 h40 h41 h42 h43 h44 h45 h46 h47 h48 v0)), (h36, .inl (k36, 40, .inr (.inr (.inr (.inr f36))))), (h41, zi k41 40 f41), (h31, .inl (k31, 400, .inr (.inr (.inr (.inr f31)))))] ++ pl0) [(k36, .object RX5), (k41, .int), (k31, .object RX8)]) (va_Qi (fun (r : Int32) (u : Nat → Int32) => (0 ≤ r.toInt ∧ r.toInt ≤ 1)) (fun (u : Nat → Int32) (t : State) => ∃ (ww : Nat → Int64) (aa : Nat → Nat → Int32) (bb : Nat → Nat → Int64) (qq : Nat → Nat → Option Nat) (pl1 : va_W), (zRd h22 f31 pl1) ∧ (zPs k41 f36 pl1) ∧ (zOt pl0 pl1) ∧ va_P (dC, dI) vwCl ([(h0, .inr (1, mX1 h1 h6 h13 h21 h36 h37 h39 h40 h41 h42 h43 h44 h45 h46 h47 h48 v0)), (h36, .inl (k36, 40, .inr (.inr (.inr (.inr f36))))), (h41, zi k41 40 f41), (h31, .inl (k31, 400, .inr (.inr (.inr (.inr f31)))))] ++ pl1) t.heap ∧ va_K (dC, dI) vwCl [(k36, .object RX5), (k41, .int), (k31, .object RX8)] t ∧ va_D (va_A ([(h0, .inr (1, mX1 h1 h6 h13 h21 h36 h37 h39 h40 h41 h42 h43 h44 h45 h46 h47 h48 v0)), (h36, .inl (k36, 40, .inr (.inr (.inr (.inr f36))))), (h41, zi k41 40 f41), (h31, .inl (k31, 400, .inr (.inr (.inr (.inr f31)))))] ++ pl0) sz) ([(h0, .inr (1, mX1 h1 h6 h13 h21 h36 h37 h39 h40 h41 h42 h43 h44 h45 h46 h47 h48 v0)), (h36, .inl (k36, 40, .inr (.inr (.inr (.inr f36))))), (h41, zi k41 40 f41), (h31, .inl (k31, 400, .inr (.inr (.inr (.inr f31)))))] ++ pl1)) (va_A ([(h0, .inr (1, mX1 h1 h6 h13 h21 h36 h37 h39 h40 h41 h42 h43 h44 h45 h46 h47 h48 v0)), (h36, .inl (k36, 40, .inr (.inr (.inr (.inr f36))))), (h41, zi k41 40 f41), (h31, .inl (k31, 400, .inr (.inr (.inr (.inr f31)))))] ++ pl0) sz)) 0 0 (va_A ([(h0, .inr (1, mX1 h1 h6 h13 h21 h36 h37 h39 h40 h41 h42 h43 h44 h45 h46 h47 h48 v0)), (h36, .inl (k36, 40, .inr (.inr (.inr (.inr f36))))), (h41, zi k41 40 f41), (h31, .inl (k31, 400, .inr (.inr (.inr (.inr f31)))))] ++ pl0) sz) := by
  refine Met.ofW (cc := cX1_areNear) (maxL := 4) (ret := (some .boolean)) (by decide) rfl ?_
  intro p e s m args below meth c s₁ B hml hv
  obtain ⟨rfl, hsz, hP, hK, hD0, hE, hZ⟩ := hv
  have hx := B.exec
  have hb := B.bytes
  have hr := B.returns
  have hG : ∀ w ∈ zG, w.before _ s = true := fun w h => atoms_spec (ws := (zw yX1_areNear cX1_areNear 4 (some .boolean))) B.pre w (List.mem_cons_of_mem _ h)
  have hown : s.vm.findClass RX1 = some m.cls := findClass_of_methodNamed B.named
  have hlocks := B.notSynchronized

  subst hsz
  have hD := hD0.self (sz := s.heap.size)
  generalize hAe : va_A ([(h0, .inr (1, mX1 h1 h6 h13 h21 h36 h37 h39 h40 h41 h42 h43 h44 h45 h46 h47 h48 v0)), (h36, .inl (k36, 40, .inr (.inr (.inr (.inr f36))))), (h41, zi k41 40 f41), (h31, .inl (k31, 400, .inr (.inr (.inr (.inr f31)))))] ++ pl0) s.heap.size = A at hD hZ ⊢
  have hA : ∀ q : Nat, s.heap.size ≤ q → A q := fun q h => by rw [← hAe]; exact Or.inr h
  have hS : va_S A s.heap s.heap [] := va_S.rf
  have hl := lv_entry ([.ref h0, .int x1, .int x2, .int x3]) (n := 4) (Nat.le_of_ble_eq_true rfl)
  rw [lg_entry_eq]
  generalize (lg_sl ([.ref h0, .int x1, .int x2, .int x3]) ++ List.replicate (4 - (lg_sl ([.ref h0, .int x1, .int x2, .int x3])).length) Slot.unset).toArray = ls at hl ⊢
  have hl : lv_has ls 4 [(0, .ref h0), (1, .int x1), (2, .int x2), (3, .int x3)] := hl
  have b_ := zk_0
  refine lv_iload_n hx hb dX1_areNear_0 rfl (lv_at hl 1 rfl) ?_
  refine lv_if_lt (tgt := 28) hx hb dX1_areNear_1 (by decide) (fun c_ => ?_) (fun c_ => ?_)
  · skip
    have b_ := zT_lt rfl zk_0 c_
    refine lv_iconst (v := 0) hx hb dX1_areNear_28 (by decide) ?_
    refine W.widen (k := 0) (n := 0) (by decide) (by decide) ?_
    have hpost : (0 ≤ (0 : Int32).toInt ∧ (0 : Int32).toInt ≤ 1) := (by first | with_reducible assumption | exact ⟨by omega, by omega⟩)
    have hP9 : va_P (dC, dI) vwCl ([(h0, .inr (1, mX1 h1 h6 h13 h21 h36 h37 h39 h40 h41 h42 h43 h44 h45 h46 h47 h48 v0)), (h36, .inl (k36, 40, .inr (.inr (.inr (.inr f36))))), (h41, zi k41 40 f41), (h31, .inl (k31, 400, .inr (.inr (.inr (.inr f31)))))] ++ pl0) s.heap := hP
    have hD9 : va_D A ([(h0, .inr (1, mX1 h1 h6 h13 h21 h36 h37 h39 h40 h41 h42 h43 h44 h45 h46 h47 h48 v0)), (h36, .inl (k36, 40, .inr (.inr (.inr (.inr f36))))), (h41, zi k41 40 f41), (h31, .inl (k31, 400, .inr (.inr (.inr (.inr f31)))))] ++ pl0) := hD
    have hB0 : zRd h22 f31 pl0 := by assumption
    have hB1 : zPs k41 f36 pl0 := by assumption
    have hB2 : zOt pl0 pl0 := by first | assumption | exact zOt_rf
    exact W.zret (v := 0) hx hb hr rfl (fun t ht hW => ⟨⟨0, (fun _ => 0), rfl, hpost, (fun _ => 0), (fun _ => (fun _ => 0)), (fun _ => (fun _ => 0)), (fun _ => (fun _ => none)), pl0, hB0, hB1, hB2, by rw [ht]; exact hP9, va_K.moved hW.alike hK, hD9⟩, hS.F ht⟩) hS.2.2 dX1_areNear_29
  · skip
    have b_ := zF_lt rfl zk_0 c_
    refine lv_iload_n hx hb dX1_areNear_4 rfl (lv_at hl 2 rfl) ?_
    refine lv_bipush (v := 40) hx hb dX1_areNear_5 (by decide) ?_
    refine lv_icmp_ge (tgt := 28) hx hb dX1_areNear_7 (by decide) (fun c_ => False.elim (by have b_ := zT_ge rfl zk_40 c_; omega)) (fun c_ => ?_)
    have b_ := zF_ge rfl zk_40 c_
    refine lv_aload_n hx hb dX1_areNear_10 rfl (lv_at hl 0 rfl) ?_
    refine va_get (D := (dC, dI)) (ci := 1) (v := .ref h36) (C := RX1) (T := TX1) (N := 17) hx hb hG zuX1 hown hK hP 0 rfl rfl 4 (by decide) (hG _ zv508) (fun _ h9 => h9) rfl dX1_areNear_11 ?_
    refine lv_iload_n hx hb dX1_areNear_14 rfl (lv_at hl 1 rfl) ?_
    refine va_aldq hx hb hK hP 1 0 rfl rfl (zin_lit ⟨by omega, by omega⟩) dX1_areNear_15 ?_
    refine lv_topq (fun o15 e_o15 => ?_)
    rcases o15 with _ | a15_
    · skip
      refine W.eq (g2 := F0 m 16 ls [.null]) rfl ?_
      refine lv_ifnullN (tgt := 28) hx hb dX1_areNear_16 (by decide) ?_
      refine lv_iconst (v := 0) hx hb dX1_areNear_28 (by decide) ?_
      refine W.widen (k := 0) (n := 0) (by decide) (by decide) ?_
      have hpost : (0 ≤ (0 : Int32).toInt ∧ (0 : Int32).toInt ≤ 1) := (by first | with_reducible assumption | exact ⟨by omega, by omega⟩)
      have hP9 : va_P (dC, dI) vwCl ([(h0, .inr (1, mX1 h1 h6 h13 h21 h36 h37 h39 h40 h41 h42 h43 h44 h45 h46 h47 h48 v0)), (h36, .inl (k36, 40, .inr (.inr (.inr (.inr f36))))), (h41, zi k41 40 f41), (h31, .inl (k31, 400, .inr (.inr (.inr (.inr f31)))))] ++ pl0) s.heap := hP
      have hD9 : va_D A ([(h0, .inr (1, mX1 h1 h6 h13 h21 h36 h37 h39 h40 h41 h42 h43 h44 h45 h46 h47 h48 v0)), (h36, .inl (k36, 40, .inr (.inr (.inr (.inr f36))))), (h41, zi k41 40 f41), (h31, .inl (k31, 400, .inr (.inr (.inr (.inr f31)))))] ++ pl0) := hD
      have hB0 : zRd h22 f31 pl0 := by assumption
      have hB1 : zPs k41 f36 pl0 := by assumption
      have hB2 : zOt pl0 pl0 := by first | assumption | exact zOt_rf
      exact W.zret (v := 0) hx hb hr rfl (fun t ht hW => ⟨⟨0, (fun _ => 0), rfl, hpost, (fun _ => 0), (fun _ => (fun _ => 0)), (fun _ => (fun _ => 0)), (fun _ => (fun _ => none)), pl0, hB0, hB1, hB2, by rw [ht]; exact hP9, va_K.moved hW.alike hK, hD9⟩, hS.F ht⟩) hS.2.2 dX1_areNear_29
    · skip
      refine W.eq (g2 := F0 m 16 ls [.ref a15_]) rfl ?_
      have hnn_ : f36 (x1 : Int32).toNatClampNeg ≠ none := fun h => by rw [h] at e_o15; cases e_o15
      refine lv_ifnull hx hb dX1_areNear_16 ?_
      refine lv_aload_n hx hb dX1_areNear_19 rfl (lv_at hl 0 rfl) ?_
      refine va_get (D := (dC, dI)) (ci := 1) (v := .ref h36) (C := RX1) (T := TX1) (N := 17) hx hb hG zuX1 hown hK hP 0 rfl rfl 4 (by decide) (hG _ zv508) (fun _ h9 => h9) rfl dX1_areNear_20 ?_
      refine lv_iload_n hx hb dX1_areNear_23 rfl (lv_at hl 2 rfl) ?_
      refine va_aldq hx hb hK hP 1 0 rfl rfl (zin_lit ⟨by omega, by omega⟩) dX1_areNear_24 ?_
      refine lv_topq (fun o24 e_o24 => ?_)
      rcases o24 with _ | a24_
      · skip
        refine W.eq (g2 := F0 m 25 ls [.null]) rfl ?_
        refine lv_ifnonnullN hx hb dX1_areNear_25 ?_
        refine lv_iconst (v := 0) hx hb dX1_areNear_28 (by decide) ?_
        refine W.widen (k := 0) (n := 0) (by decide) (by decide) ?_
        have hpost : (0 ≤ (0 : Int32).toInt ∧ (0 : Int32).toInt ≤ 1) := (by first | with_reducible assumption | exact ⟨by omega, by omega⟩)
        have hP9 : va_P (dC, dI) vwCl ([(h0, .inr (1, mX1 h1 h6 h13 h21 h36 h37 h39 h40 h41 h42 h43 h44 h45 h46 h47 h48 v0)), (h36, .inl (k36, 40, .inr (.inr (.inr (.inr f36))))), (h41, zi k41 40 f41), (h31, .inl (k31, 400, .inr (.inr (.inr (.inr f31)))))] ++ pl0) s.heap := hP
        have hD9 : va_D A ([(h0, .inr (1, mX1 h1 h6 h13 h21 h36 h37 h39 h40 h41 h42 h43 h44 h45 h46 h47 h48 v0)), (h36, .inl (k36, 40, .inr (.inr (.inr (.inr f36))))), (h41, zi k41 40 f41), (h31, .inl (k31, 400, .inr (.inr (.inr (.inr f31)))))] ++ pl0) := hD
        have hB0 : zRd h22 f31 pl0 := by assumption
        have hB1 : zPs k41 f36 pl0 := by assumption
        have hB2 : zOt pl0 pl0 := by first | assumption | exact zOt_rf
        exact W.zret (v := 0) hx hb hr rfl (fun t ht hW => ⟨⟨0, (fun _ => 0), rfl, hpost, (fun _ => 0), (fun _ => (fun _ => 0)), (fun _ => (fun _ => 0)), (fun _ => (fun _ => none)), pl0, hB0, hB1, hB2, by rw [ht]; exact hP9, va_K.moved hW.alike hK, hD9⟩, hS.F ht⟩) hS.2.2 dX1_areNear_29
      · skip
        refine W.eq (g2 := F0 m 25 ls [.ref a24_]) rfl ?_
        have hnn_ : f36 (x2 : Int32).toNatClampNeg ≠ none := fun h => by rw [h] at e_o24; cases e_o24
        refine lv_ifnonnull (tgt := 30) hx hb dX1_areNear_25 (by decide) ?_
        refine lv_aload_n hx hb dX1_areNear_30 rfl (lv_at hl 0 rfl) ?_
        refine va_get (D := (dC, dI)) (ci := 1) (v := .ref h36) (C := RX1) (T := TX1) (N := 17) hx hb hG zuX1 hown hK hP 0 rfl rfl 4 (by decide) (hG _ zv508) (fun _ h9 => h9) rfl dX1_areNear_31 ?_
        refine lv_iload_n hx hb dX1_areNear_34 rfl (lv_at hl 1 rfl) ?_
        refine va_aldq hx hb hK hP 1 0 rfl rfl (zin_lit ⟨by omega, by omega⟩) dX1_areNear_35 ?_
        refine lv_topq (fun o35 e_o35 => ?_)
        rcases o35 with _ | a35_
        · skip
          exact absurd e_o35.symm (by assumption)
        · skip
          refine W.eq (g2 := F0 m 36 ls [.ref a35_]) rfl ?_
          have hnn_ : f36 (x1 : Int32).toNatClampNeg ≠ none := fun h => by rw [h] at e_o35; cases e_o35
          refine lv_aload_n hx hb dX1_areNear_36 rfl (lv_at hl 0 rfl) ?_
          refine va_get (D := (dC, dI)) (ci := 1) (v := .ref h36) (C := RX1) (T := TX1) (N := 17) hx hb hG zuX1 hown hK hP 0 rfl rfl 4 (by decide) (hG _ zv508) (fun _ h9 => h9) rfl dX1_areNear_37 ?_
          refine lv_iload_n hx hb dX1_areNear_40 rfl (lv_at hl 2 rfl) ?_
          refine va_aldq hx hb hK hP 1 0 rfl rfl (zin_lit ⟨by omega, by omega⟩) dX1_areNear_41 ?_
          refine lv_topq (fun o41 e_o41 => ?_)
          rcases o41 with _ | a41_
          · skip
            exact absurd e_o41.symm (by assumption)
          · skip
            refine W.eq (g2 := F0 m 42 ls [.ref a41_, .ref a35_]) rfl ?_
            have hnn_ : f36 (x2 : Int32).toNatClampNeg ≠ none := fun h => by rw [h] at e_o41; cases e_o41
            refine lv_iload_n hx hb dX1_areNear_42 rfl (lv_at hl 3 rfl) ?_
            obtain ⟨b35_, f35_, p35, e_pl35, hzp35⟩ := zPs_out (show zPs k41 f36 pl0 from by assumption) (zltc (by omega) (by omega)) e_o35.symm
            have hP : va_P (dC, dI) vwCl ([(h0, .inr (1, mX1 h1 h6 h13 h21 h36 h37 h39 h40 h41 h42 h43 h44 h45 h46 h47 h48 v0)), (h36, .inl (k36, 40, .inr (.inr (.inr (.inr f36))))), (h41, zi k41 40 f41), (h31, .inl (k31, 400, .inr (.inr (.inr (.inr f31))))), (a35_, .inr (5, mX5 b35_)), (b35_, zi k41 26 f35_)] ++ p35) s.heap := zfocPm e_pl35 hP
            have hD : va_D A ([(h0, .inr (1, mX1 h1 h6 h13 h21 h36 h37 h39 h40 h41 h42 h43 h44 h45 h46 h47 h48 v0)), (h36, .inl (k36, 40, .inr (.inr (.inr (.inr f36))))), (h41, zi k41 40 f41), (h31, .inl (k31, 400, .inr (.inr (.inr (.inr f31))))), (a35_, .inr (5, mX5 b35_)), (b35_, zi k41 26 f35_)] ++ p35) := zfocDm e_pl35 hD
            obtain ⟨b41_, f41_, p41, e_pl41⟩ := hzp35 _ (zltc (by omega) (by omega)) (znec (by omega) (by omega) (by omega)) _ e_o41.symm
            have hP : va_P (dC, dI) vwCl ([(h0, .inr (1, mX1 h1 h6 h13 h21 h36 h37 h39 h40 h41 h42 h43 h44 h45 h46 h47 h48 v0)), (h36, .inl (k36, 40, .inr (.inr (.inr (.inr f36))))), (h41, zi k41 40 f41), (h31, .inl (k31, 400, .inr (.inr (.inr (.inr f31))))), (a35_, .inr (5, mX5 b35_)), (b35_, zi k41 26 f35_), (a41_, .inr (5, mX5 b41_)), (b41_, zi k41 26 f41_)] ++ p41) s.heap := zfocPm e_pl41 hP
            have hD : va_D A ([(h0, .inr (1, mX1 h1 h6 h13 h21 h36 h37 h39 h40 h41 h42 h43 h44 h45 h46 h47 h48 v0)), (h36, .inl (k36, 40, .inr (.inr (.inr (.inr f36))))), (h41, zi k41 40 f41), (h31, .inl (k31, 400, .inr (.inr (.inr (.inr f31))))), (a35_, .inr (5, mX5 b35_)), (b35_, zi k41 26 f35_), (a41_, .inr (5, mX5 b41_)), (b41_, zi k41 26 f41_)] ++ p41) := zfocDm e_pl41 hD
            have hPc := hP.sub (ws' := [(a35_, .inr (5, mX5 b35_)), (b35_, zi k41 26 f35_), (a41_, .inr (5, mX5 b41_)), (b41_, zi k41 26 f41_)]) [4, 5, 6, 7] rfl
            have hDc := hD.sub (ws' := [(a35_, .inr (5, mX5 b35_)), (b35_, zi k41 26 f35_), (a41_, .inr (5, mX5 b41_)), (b41_, zi k41 26 f41_)]) [4, 5, 6, 7] (by decide) rfl
            have hKc := hK.sub (tys' := [(k41, .int), (k41, .int)]) [1, 1] rfl
            have hFc := va_free (wc := [(a35_, .inr (5, mX5 b35_)), (b35_, zi k41 26 f35_), (a41_, .inr (5, mX5 b41_)), (b41_, zi k41 26 f41_)]) hD hS hA [4, 5, 6, 7] rfl
            refine va_calli (va_runV (As := [.ref a41_, .int x3]) (rest := []) ⟨hx, hb, hml, hown, hG⟩ (sX5_isNear_0 l dC dI adK adV a35_ b35_ a41_ b41_ k41 k41 s.heap.size f35_ f41_ x3) (cwV 2 hG (zgV zv1310 zv1311 zv1312 zv139 zv1313) rfl rfl rfl (by decide +kernel) ⟨Nat.le_of_ble_eq_true rfl, Nat.le_of_ble_eq_true rfl⟩) ⟨zPc_blind, va_recv hKc hPc (ci := 5) (q0 := 0) rfl rfl, zPc_pre hPc hKc hDc hE hS hFc hZ⟩ rfl rfl hl.1 rfl (lv_room (Nat.le_of_ble_eq_true rfl)) dX1_areNear_43 ⟨Nat.le_of_ble_eq_true rfl, Nat.le_of_ble_eq_true rfl⟩) hS (fun q _ h => hFc q h) hFc (fun r43_ u43_ t H1 locs ht hvm hw hB hz1 hk1 hS => ?_)
            replace hw : (0 ≤ r43_.toInt ∧ r43_.toInt ≤ 1) := hw
            have b_ := hw
            obtain ⟨w43_, a43_, b43_, hP1, hK1, hD1⟩ := hB
            rw [ht] at hP1
            obtain ⟨hP, hD⟩ := va_joinQ (wr := [(h0, .inr (1, mX1 h1 h6 h13 h21 h36 h37 h39 h40 h41 h42 h43 h44 h45 h46 h47 h48 v0)), (h36, .inl (k36, 40, .inr (.inr (.inr (.inr f36))))), (h41, zi k41 40 f41), (h31, .inl (k31, 400, .inr (.inr (.inr (.inr f31)))))]) (w1 := [(a35_, .inr (5, mX5 b35_)), (b35_, zi k41 26 f35_), (a41_, .inr (5, mX5 b41_)), (b41_, zi k41 26 f41_)]) hP hD [4, 5, 6, 7] [0, 1, 2, 3] rfl rfl (by decide) (by decide) hk1 hFc hP1 hD1
            have hP : va_P (dC, dI) vwCl ([(h0, .inr (1, mX1 h1 h6 h13 h21 h36 h37 h39 h40 h41 h42 h43 h44 h45 h46 h47 h48 v0)), (h36, .inl (k36, 40, .inr (.inr (.inr (.inr f36))))), (h41, zi k41 40 f41), (h31, .inl (k31, 400, .inr (.inr (.inr (.inr f31))))), (a35_, .inr (5, mX5 b35_)), (b35_, zi k41 26 f35_), (a41_, .inr (5, mX5 b41_)), (b41_, zi k41 26 f41_)] ++ p41) H1 := hP.part [0, 1, 2, 3, 4, 5, 6, 7] rfl
            have hD : va_D A ([(h0, .inr (1, mX1 h1 h6 h13 h21 h36 h37 h39 h40 h41 h42 h43 h44 h45 h46 h47 h48 v0)), (h36, .inl (k36, 40, .inr (.inr (.inr (.inr f36))))), (h41, zi k41 40 f41), (h31, .inl (k31, 400, .inr (.inr (.inr (.inr f31))))), (a35_, .inr (5, mX5 b35_)), (b35_, zi k41 26 f35_), (a41_, .inr (5, mX5 b41_)), (b41_, zi k41 26 f41_)] ++ p41) := hD.part [0, 1, 2, 3, 4, 5, 6, 7] (by decide) rfl
            generalize H1 = H at hP hS ⊢
            clear hz1
            obtain ⟨plx3, e_plx3⟩ : ∃ z : va_W, z = (a41_, .inr (5, mX5 b41_)) :: (b41_, zi k41 26 f41_) :: p41 := ⟨_, rfl⟩
            have hP : va_P (dC, dI) vwCl ([(h0, .inr (1, mX1 h1 h6 h13 h21 h36 h37 h39 h40 h41 h42 h43 h44 h45 h46 h47 h48 v0)), (h36, .inl (k36, 40, .inr (.inr (.inr (.inr f36))))), (h41, zi k41 40 f41), (h31, .inl (k31, 400, .inr (.inr (.inr (.inr f31))))), (a35_, .inr (5, mX5 b35_)), (b35_, zi k41 26 f35_)] ++ plx3) H := by rw [e_plx3]; exact hP
            have hD : va_D A ([(h0, .inr (1, mX1 h1 h6 h13 h21 h36 h37 h39 h40 h41 h42 h43 h44 h45 h46 h47 h48 v0)), (h36, .inl (k36, 40, .inr (.inr (.inr (.inr f36))))), (h41, zi k41 40 f41), (h31, .inl (k31, 400, .inr (.inr (.inr (.inr f31))))), (a35_, .inr (5, mX5 b35_)), (b35_, zi k41 26 f35_)] ++ plx3) := by rw [e_plx3]; exact hD
            have hpm : plx3.Perm p35 := by rw [e_plx3]; exact e_pl41.symm
            obtain ⟨plx4, e_plx4⟩ : ∃ z : va_W, z = (a35_, .inr (5, mX5 b35_)) :: (b35_, zi k41 26 f35_) :: plx3 := ⟨_, rfl⟩
            have hP : va_P (dC, dI) vwCl ([(h0, .inr (1, mX1 h1 h6 h13 h21 h36 h37 h39 h40 h41 h42 h43 h44 h45 h46 h47 h48 v0)), (h36, .inl (k36, 40, .inr (.inr (.inr (.inr f36))))), (h41, zi k41 40 f41), (h31, .inl (k31, 400, .inr (.inr (.inr (.inr f31)))))] ++ plx4) H := by rw [e_plx4]; exact hP
            have hD : va_D A ([(h0, .inr (1, mX1 h1 h6 h13 h21 h36 h37 h39 h40 h41 h42 h43 h44 h45 h46 h47 h48 v0)), (h36, .inl (k36, 40, .inr (.inr (.inr (.inr f36))))), (h41, zi k41 40 f41), (h31, .inl (k31, 400, .inr (.inr (.inr (.inr f31)))))] ++ plx4) := by rw [e_plx4]; exact hD
            have hpl_ : zRd h22 f31 plx4 := by rw [e_plx4]; exact zRd_perm (show zRd h22 f31 pl0 from by first | assumption | exact zOt_rf) (((hpm.cons _).cons _).trans e_pl35.symm)
            have hpl_ : zPs k41 f36 plx4 := by rw [e_plx4]; exact zPs_perm (show zPs k41 f36 pl0 from by first | assumption | exact zOt_rf) (((hpm.cons _).cons _).trans e_pl35.symm)
            have hpl_ : zOt pl0 plx4 := by rw [e_plx4]; exact zOt_perm (show zOt pl0 pl0 from by first | assumption | exact zOt_rf) (((hpm.cons _).cons _).trans e_pl35.symm)
            refine W.widen (k := 0) (n := 0) (by decide) (by decide) ?_
            have hpost : (0 ≤ r43_.toInt ∧ r43_.toInt ≤ 1) := (by first | with_reducible assumption | exact ⟨by omega, by omega⟩)
            have hP9 : va_P (dC, dI) vwCl ([(h0, .inr (1, mX1 h1 h6 h13 h21 h36 h37 h39 h40 h41 h42 h43 h44 h45 h46 h47 h48 v0)), (h36, .inl (k36, 40, .inr (.inr (.inr (.inr f36))))), (h41, zi k41 40 f41), (h31, .inl (k31, 400, .inr (.inr (.inr (.inr f31)))))] ++ plx4) H := hP
            have hD9 : va_D A ([(h0, .inr (1, mX1 h1 h6 h13 h21 h36 h37 h39 h40 h41 h42 h43 h44 h45 h46 h47 h48 v0)), (h36, .inl (k36, 40, .inr (.inr (.inr (.inr f36))))), (h41, zi k41 40 f41), (h31, .inl (k31, 400, .inr (.inr (.inr (.inr f31)))))] ++ plx4) := hD
            have hB0 : zRd h22 f31 plx4 := by assumption
            have hB1 : zPs k41 f36 plx4 := by assumption
            have hB2 : zOt pl0 plx4 := by first | assumption | exact zOt_rf
            exact W.zret (v := r43_) hx hb hr (zbn ⟨by omega, by omega⟩) (fun t ht hW => ⟨⟨r43_, (fun _ => 0), rfl, hpost, (fun _ => 0), (fun _ => (fun _ => 0)), (fun _ => (fun _ => 0)), (fun _ => (fun _ => none)), plx4, hB0, hB1, hB2, by rw [ht]; exact hP9, va_K.moved hW.alike hK, hD9⟩, hS.F ht⟩) hS.2.2 dX1_areNear_46
set_option maxHeartbeats 8000000 in
set_option maxRecDepth 100000 in
theorem sX1_joined_0 (l : Launch) (dC : Nat → ClassId) (dI : Nat → Nat → Nat) (adK adV : Nat → Nat) (sz : Nat) (x0 : Int32) (x1 : Int32) (x2 : Int32) : Met l yX1_joined (zw yX1_joined cX1_joined 3 (some .boolean)) { frames := 0, cells := 0, slots := 0, locals := 0 } (zPc dC dI adK adV [.int x0, .int x1, .int x2] sz [] []) (va_Qi (fun (r : Int32) (u : Nat → Int32) => (0 ≤ r.toInt ∧ r.toInt ≤ 1)) (fun (u : Nat → Int32) (t : State) => ∃ (ww : Nat → Int64) (aa : Nat → Nat → Int32) (bb : Nat → Nat → Int64), va_P (dC, dI) vwCl [] t.heap ∧ va_K (dC, dI) vwCl [] t ∧ va_D (va_A [] sz) []) (va_A [] sz)) 0 0 (va_A [] sz) := by
  refine Met.ofW (cc := cX1_joined) (maxL := 3) (ret := (some .boolean)) (by decide) rfl ?_
  intro p e s m args below meth c s₁ B hml hv
  obtain ⟨rfl, hsz, hP, hK, hD0, hE, hZ⟩ := hv
  have hx := B.exec
  have hb := B.bytes
  have hr := B.returns
  have hG : ∀ w ∈ zG, w.before _ s = true := fun w h => atoms_spec (ws := (zw yX1_joined cX1_joined 3 (some .boolean))) B.pre w (List.mem_cons_of_mem _ h)
  have hown : s.vm.findClass RX1 = some m.cls := findClass_of_methodNamed B.named
  have hlocks := B.notSynchronized

  subst hsz
  have hD := hD0.self (sz := s.heap.size)
  generalize hAe : va_A [] s.heap.size = A at hD hZ ⊢
  have hA : ∀ q : Nat, s.heap.size ≤ q → A q := fun q h => by rw [← hAe]; exact Or.inr h
  have hS : va_S A s.heap s.heap [] := va_S.rf
  have hl := lv_entry ([.int x0, .int x1, .int x2]) (n := 3) (Nat.le_of_ble_eq_true rfl)
  rw [lg_entry_eq]
  generalize (lg_sl ([.int x0, .int x1, .int x2]) ++ List.replicate (3 - (lg_sl ([.int x0, .int x1, .int x2])).length) Slot.unset).toArray = ls at hl ⊢
  have hl : lv_has ls 3 [(0, .int x0), (1, .int x1), (2, .int x2)] := hl
  have b_ := zk_0
  have b_ := zk_1
  have b_ := zk_8
  have b_ := zk_9
  refine lv_iload_n hx hb dX1_joined_0 rfl (lv_at hl 0 rfl) ?_
  rcases Classical.em (x0 = (8 : Int32)) with c_ | c_
  · skip
    have b_ : x0.toInt = 8 := by rw [c_]; exact zk_8
    refine lv_lookup (off := 27) (tgt := 28) hx hb dX1_joined_1 (by decide +kernel) (by rw [b_]; decide +kernel) (by decide) ?_
    refine lv_iload_n hx hb dX1_joined_28 rfl (lv_at hl 1 rfl) ?_
    have b_ : -2147483648 ≤ x1.toInt ∧ x1.toInt ≤ 2147483647 := ⟨zlo _, zhi _⟩
    refine lv_if_eq (tgt := 40) hx hb dX1_joined_29 (by decide) (fun c_ => ?_) (fun c_ => ?_)
    · skip
      have b_ := zT_eq rfl zk_0 c_
      refine lv_iconst (v := 0) hx hb dX1_joined_40 (by decide) ?_
      refine W.widen (k := 0) (n := 0) (by decide) (by decide) ?_
      have hpost : (0 ≤ (0 : Int32).toInt ∧ (0 : Int32).toInt ≤ 1) := (by first | with_reducible assumption | exact ⟨by omega, by omega⟩)
      have hP9 : va_P (dC, dI) vwCl [] s.heap := hP
      have hD9 : va_D A [] := hD
      exact W.zret (v := 0) hx hb hr rfl (fun t ht hW => ⟨⟨0, (fun _ => 0), rfl, hpost, (fun _ => 0), (fun _ => (fun _ => 0)), (fun _ => (fun _ => 0)), by rw [ht]; exact hP9, va_K.moved hW.alike hK, hD9⟩, hS.F ht⟩) hS.2.2 dX1_joined_41
    · skip
      have b_ := zF_eq rfl zk_0 c_
      refine lv_iload_n hx hb dX1_joined_32 rfl (lv_at hl 2 rfl) ?_
      have b_ : -2147483648 ≤ x2.toInt ∧ x2.toInt ≤ 2147483647 := ⟨zlo _, zhi _⟩
      refine lv_if_eq (tgt := 40) hx hb dX1_joined_33 (by decide) (fun c_ => ?_) (fun c_ => ?_)
      · skip
        have b_ := zT_eq rfl zk_0 c_
        refine lv_iconst (v := 0) hx hb dX1_joined_40 (by decide) ?_
        refine W.widen (k := 0) (n := 0) (by decide) (by decide) ?_
        have hpost : (0 ≤ (0 : Int32).toInt ∧ (0 : Int32).toInt ≤ 1) := (by first | with_reducible assumption | exact ⟨by omega, by omega⟩)
        have hP9 : va_P (dC, dI) vwCl [] s.heap := hP
        have hD9 : va_D A [] := hD
        exact W.zret (v := 0) hx hb hr rfl (fun t ht hW => ⟨⟨0, (fun _ => 0), rfl, hpost, (fun _ => 0), (fun _ => (fun _ => 0)), (fun _ => (fun _ => 0)), by rw [ht]; exact hP9, va_K.moved hW.alike hK, hD9⟩, hS.F ht⟩) hS.2.2 dX1_joined_41
      · skip
        have b_ := zF_eq rfl zk_0 c_
        refine lv_iconst (v := 1) hx hb dX1_joined_36 (by decide) ?_
        refine lv_goto (tgt := 41) hx hb dX1_joined_37 (by decide) ?_
        refine W.widen (k := 0) (n := 0) (by decide) (by decide) ?_
        have hpost : (0 ≤ (1 : Int32).toInt ∧ (1 : Int32).toInt ≤ 1) := (by first | with_reducible assumption | exact ⟨by omega, by omega⟩)
        have hP9 : va_P (dC, dI) vwCl [] s.heap := hP
        have hD9 : va_D A [] := hD
        exact W.zret (v := 1) hx hb hr rfl (fun t ht hW => ⟨⟨1, (fun _ => 0), rfl, hpost, (fun _ => 0), (fun _ => (fun _ => 0)), (fun _ => (fun _ => 0)), by rw [ht]; exact hP9, va_K.moved hW.alike hK, hD9⟩, hS.F ht⟩) hS.2.2 dX1_joined_41
  · skip
    have b_ : x0.toInt ≠ 8 := fun h => c_ (zeqi.mpr (h.trans zk_8.symm))
    rcases Classical.em (x0 = (9 : Int32)) with c_ | c_
    · skip
      have b_ : x0.toInt = 9 := by rw [c_]; exact zk_9
      refine lv_lookup (off := 41) (tgt := 42) hx hb dX1_joined_1 (by decide +kernel) (by rw [b_]; decide +kernel) (by decide) ?_
      refine lv_iload_n hx hb dX1_joined_42 rfl (lv_at hl 1 rfl) ?_
      have b_ : -2147483648 ≤ x1.toInt ∧ x1.toInt ≤ 2147483647 := ⟨zlo _, zhi _⟩
      refine lv_if_ne (tgt := 50) hx hb dX1_joined_43 (by decide) (fun c_ => ?_) (fun c_ => ?_)
      · skip
        have b_ := zT_ne rfl zk_0 c_
        refine lv_iconst (v := 1) hx hb dX1_joined_50 (by decide) ?_
        refine lv_goto (tgt := 55) hx hb dX1_joined_51 (by decide) ?_
        refine W.widen (k := 0) (n := 0) (by decide) (by decide) ?_
        have hpost : (0 ≤ (1 : Int32).toInt ∧ (1 : Int32).toInt ≤ 1) := (by first | with_reducible assumption | exact ⟨by omega, by omega⟩)
        have hP9 : va_P (dC, dI) vwCl [] s.heap := hP
        have hD9 : va_D A [] := hD
        exact W.zret (v := 1) hx hb hr rfl (fun t ht hW => ⟨⟨1, (fun _ => 0), rfl, hpost, (fun _ => 0), (fun _ => (fun _ => 0)), (fun _ => (fun _ => 0)), by rw [ht]; exact hP9, va_K.moved hW.alike hK, hD9⟩, hS.F ht⟩) hS.2.2 dX1_joined_55
      · skip
        have b_ := zF_ne rfl zk_0 c_
        refine lv_iload_n hx hb dX1_joined_46 rfl (lv_at hl 2 rfl) ?_
        have b_ : -2147483648 ≤ x2.toInt ∧ x2.toInt ≤ 2147483647 := ⟨zlo _, zhi _⟩
        refine lv_if_eq (tgt := 54) hx hb dX1_joined_47 (by decide) (fun c_ => ?_) (fun c_ => ?_)
        · skip
          have b_ := zT_eq rfl zk_0 c_
          refine lv_iconst (v := 0) hx hb dX1_joined_54 (by decide) ?_
          refine W.widen (k := 0) (n := 0) (by decide) (by decide) ?_
          have hpost : (0 ≤ (0 : Int32).toInt ∧ (0 : Int32).toInt ≤ 1) := (by first | with_reducible assumption | exact ⟨by omega, by omega⟩)
          have hP9 : va_P (dC, dI) vwCl [] s.heap := hP
          have hD9 : va_D A [] := hD
          exact W.zret (v := 0) hx hb hr rfl (fun t ht hW => ⟨⟨0, (fun _ => 0), rfl, hpost, (fun _ => 0), (fun _ => (fun _ => 0)), (fun _ => (fun _ => 0)), by rw [ht]; exact hP9, va_K.moved hW.alike hK, hD9⟩, hS.F ht⟩) hS.2.2 dX1_joined_55
        · skip
          have b_ := zF_eq rfl zk_0 c_
          refine lv_iconst (v := 1) hx hb dX1_joined_50 (by decide) ?_
          refine lv_goto (tgt := 55) hx hb dX1_joined_51 (by decide) ?_
          refine W.widen (k := 0) (n := 0) (by decide) (by decide) ?_
          have hpost : (0 ≤ (1 : Int32).toInt ∧ (1 : Int32).toInt ≤ 1) := (by first | with_reducible assumption | exact ⟨by omega, by omega⟩)
          have hP9 : va_P (dC, dI) vwCl [] s.heap := hP
          have hD9 : va_D A [] := hD
          exact W.zret (v := 1) hx hb hr rfl (fun t ht hW => ⟨⟨1, (fun _ => 0), rfl, hpost, (fun _ => 0), (fun _ => (fun _ => 0)), (fun _ => (fun _ => 0)), by rw [ht]; exact hP9, va_K.moved hW.alike hK, hD9⟩, hS.F ht⟩) hS.2.2 dX1_joined_55
    · skip
      have b_ : x0.toInt ≠ 9 := fun h => c_ (zeqi.mpr (h.trans zk_9.symm))
      refine lv_lookup (off := 55) (tgt := 56) hx hb dX1_joined_1 (by decide +kernel) (zlookup (by simp; omega)) (by decide) ?_
      refine lv_iload_n hx hb dX1_joined_56 rfl (lv_at hl 1 rfl) ?_
      have b_ : -2147483648 ≤ x1.toInt ∧ x1.toInt ≤ 2147483647 := ⟨zlo _, zhi _⟩
      refine lv_if_eq (tgt := 68) hx hb dX1_joined_57 (by decide) (fun c_ => ?_) (fun c_ => ?_)
      · skip
        have b_ := zT_eq rfl zk_0 c_
        refine lv_iconst (v := 0) hx hb dX1_joined_68 (by decide) ?_
        refine W.widen (k := 0) (n := 0) (by decide) (by decide) ?_
        have hpost : (0 ≤ (0 : Int32).toInt ∧ (0 : Int32).toInt ≤ 1) := (by first | with_reducible assumption | exact ⟨by omega, by omega⟩)
        have hP9 : va_P (dC, dI) vwCl [] s.heap := hP
        have hD9 : va_D A [] := hD
        exact W.zret (v := 0) hx hb hr rfl (fun t ht hW => ⟨⟨0, (fun _ => 0), rfl, hpost, (fun _ => 0), (fun _ => (fun _ => 0)), (fun _ => (fun _ => 0)), by rw [ht]; exact hP9, va_K.moved hW.alike hK, hD9⟩, hS.F ht⟩) hS.2.2 dX1_joined_69
      · skip
        have b_ := zF_eq rfl zk_0 c_
        refine lv_iload_n hx hb dX1_joined_60 rfl (lv_at hl 2 rfl) ?_
        have b_ : -2147483648 ≤ x2.toInt ∧ x2.toInt ≤ 2147483647 := ⟨zlo _, zhi _⟩
        refine lv_if_ne (tgt := 68) hx hb dX1_joined_61 (by decide) (fun c_ => ?_) (fun c_ => ?_)
        · skip
          have b_ := zT_ne rfl zk_0 c_
          refine lv_iconst (v := 0) hx hb dX1_joined_68 (by decide) ?_
          refine W.widen (k := 0) (n := 0) (by decide) (by decide) ?_
          have hpost : (0 ≤ (0 : Int32).toInt ∧ (0 : Int32).toInt ≤ 1) := (by first | with_reducible assumption | exact ⟨by omega, by omega⟩)
          have hP9 : va_P (dC, dI) vwCl [] s.heap := hP
          have hD9 : va_D A [] := hD
          exact W.zret (v := 0) hx hb hr rfl (fun t ht hW => ⟨⟨0, (fun _ => 0), rfl, hpost, (fun _ => 0), (fun _ => (fun _ => 0)), (fun _ => (fun _ => 0)), by rw [ht]; exact hP9, va_K.moved hW.alike hK, hD9⟩, hS.F ht⟩) hS.2.2 dX1_joined_69
        · skip
          have b_ := zF_ne rfl zk_0 c_
          refine lv_iconst (v := 1) hx hb dX1_joined_64 (by decide) ?_
          refine lv_goto (tgt := 69) hx hb dX1_joined_65 (by decide) ?_
          refine W.widen (k := 0) (n := 0) (by decide) (by decide) ?_
          have hpost : (0 ≤ (1 : Int32).toInt ∧ (1 : Int32).toInt ≤ 1) := (by first | with_reducible assumption | exact ⟨by omega, by omega⟩)
          have hP9 : va_P (dC, dI) vwCl [] s.heap := hP
          have hD9 : va_D A [] := hD
          exact W.zret (v := 1) hx hb hr rfl (fun t ht hW => ⟨⟨1, (fun _ => 0), rfl, hpost, (fun _ => 0), (fun _ => (fun _ => 0)), (fun _ => (fun _ => 0)), by rw [ht]; exact hP9, va_K.moved hW.alike hK, hD9⟩, hS.F ht⟩) hS.2.2 dX1_joined_69
set_option maxHeartbeats 8000000 in
set_option maxRecDepth 100000 in
theorem sX1_works_0 (l : Launch) (dC : Nat → ClassId) (dI : Nat → Nat → Nat) (adK adV : Nat → Nat) (h0 : Nat) (h13 : Nat) (h20 : Nat) (h39 : Nat) (h40 : Nat) (h36 : Nat) (h41 : Nat) (h31 : Nat) (h1 : Nat) (h6 : Nat) (h21 : Nat) (h37 : Nat) (h42 : Nat) (h43 : Nat) (h44 : Nat) (h45 : Nat) (h46 : Nat) (h47 : Nat) (h48 : Nat) (h14 : Nat) (h15 : Nat) (h16 : Nat) (h17 : Nat) (h18 : Nat) (h19 : Nat) (h22 : Nat) (k20 : ClassId) (k39 : ClassId) (k40 : ClassId) (k36 : ClassId) (k41 : ClassId) (k31 : ClassId) (pl0 : va_W) (sz : Nat) (v0 : Nat → Int32) (v13 : Nat → Int32) (f20 : Nat → Int32) (f39 : Nat → Int32) (f40 : Nat → Int32) (f36 : Nat → Option Nat) (f41 : Nat → Int32) (f31 : Nat → Option Nat) (hv0 : zR rg_Finder v0) (hv13 : zR rg_Query v13) (hf20 : zA 0 12000 f20) (hp0_ : zRd h22 f31 pl0) (hp1_ : zPs k41 f36 pl0) : Met l yX1_works (zw yX1_works cX1_works 6 (some .boolean)) { frames := 4, cells := 0, slots := 0, locals := 94 } (zPc dC dI adK adV [.ref h0] sz ([(h0, .inr (1, mX1 h1 h6 h13 h21 h36 h37 h39 h40 h41 h42 h43 h44 h45 h46 h47 h48 v0)), (h13, .inr (7, mX7 h14 h15 h16 h17 h18 h19 h20 v13)), (h20, zi k20 270 f20), (h39, zi k39 40 f39), (h40, zi k40 40 f40), (h36, .inl (k36, 40, .inr (.inr (.inr (.inr f36))))), (h41, zi k41 40 f41), (h31, .inl (k31, 400, .inr (.inr (.inr (.inr f31)))))] ++ pl0) [(k20, .int), (k39, .boolean), (k40, .boolean), (k36, .object RX5), (k41, .int), (k31, .object RX8)]) (va_Qi (fun (r : Int32) (u : Nat → Int32) => (0 ≤ r.toInt ∧ r.toInt ≤ 1)) (fun (u : Nat → Int32) (t : State) => ∃ (ww : Nat → Int64) (aa : Nat → Nat → Int32) (bb : Nat → Nat → Int64) (qq : Nat → Nat → Option Nat) (pl1 : va_W), (zRd h22 f31 pl1) ∧ (zPs k41 f36 pl1) ∧ (zOt pl0 pl1) ∧ va_P (dC, dI) vwCl ([(h0, .inr (1, mX1 h1 h6 h13 h21 h36 h37 h39 h40 h41 h42 h43 h44 h45 h46 h47 h48 v0)), (h13, .inr (7, mX7 h14 h15 h16 h17 h18 h19 h20 v13)), (h20, zi k20 270 f20), (h39, zi k39 40 f39), (h40, zi k40 40 (aa 0)), (h36, .inl (k36, 40, .inr (.inr (.inr (.inr f36))))), (h41, zi k41 40 f41), (h31, .inl (k31, 400, .inr (.inr (.inr (.inr f31)))))] ++ pl1) t.heap ∧ va_K (dC, dI) vwCl [(k20, .int), (k39, .boolean), (k40, .boolean), (k36, .object RX5), (k41, .int), (k31, .object RX8)] t ∧ va_D (va_A ([(h0, .inr (1, mX1 h1 h6 h13 h21 h36 h37 h39 h40 h41 h42 h43 h44 h45 h46 h47 h48 v0)), (h13, .inr (7, mX7 h14 h15 h16 h17 h18 h19 h20 v13)), (h20, zi k20 270 f20), (h39, zi k39 40 f39), (h40, zi k40 40 f40), (h36, .inl (k36, 40, .inr (.inr (.inr (.inr f36))))), (h41, zi k41 40 f41), (h31, .inl (k31, 400, .inr (.inr (.inr (.inr f31)))))] ++ pl0) sz) ([(h0, .inr (1, mX1 h1 h6 h13 h21 h36 h37 h39 h40 h41 h42 h43 h44 h45 h46 h47 h48 v0)), (h13, .inr (7, mX7 h14 h15 h16 h17 h18 h19 h20 v13)), (h20, zi k20 270 f20), (h39, zi k39 40 f39), (h40, zi k40 40 (aa 0)), (h36, .inl (k36, 40, .inr (.inr (.inr (.inr f36))))), (h41, zi k41 40 f41), (h31, .inl (k31, 400, .inr (.inr (.inr (.inr f31)))))] ++ pl1)) (va_A ([(h0, .inr (1, mX1 h1 h6 h13 h21 h36 h37 h39 h40 h41 h42 h43 h44 h45 h46 h47 h48 v0)), (h13, .inr (7, mX7 h14 h15 h16 h17 h18 h19 h20 v13)), (h20, zi k20 270 f20), (h39, zi k39 40 f39), (h40, zi k40 40 f40), (h36, .inl (k36, 40, .inr (.inr (.inr (.inr f36))))), (h41, zi k41 40 f41), (h31, .inl (k31, 400, .inr (.inr (.inr (.inr f31)))))] ++ pl0) sz)) 0 0 (va_A ([(h0, .inr (1, mX1 h1 h6 h13 h21 h36 h37 h39 h40 h41 h42 h43 h44 h45 h46 h47 h48 v0)), (h13, .inr (7, mX7 h14 h15 h16 h17 h18 h19 h20 v13)), (h20, zi k20 270 f20), (h39, zi k39 40 f39), (h40, zi k40 40 f40), (h36, .inl (k36, 40, .inr (.inr (.inr (.inr f36))))), (h41, zi k41 40 f41), (h31, .inl (k31, 400, .inr (.inr (.inr (.inr f31)))))] ++ pl0) sz) := by
  refine Met.ofW (cc := cX1_works) (maxL := 6) (ret := (some .boolean)) (by decide) rfl ?_
  intro p e s m args below meth c s₁ B hml hv
  obtain ⟨rfl, hsz, hP, hK, hD0, hE, hZ⟩ := hv
  have hx := B.exec
  have hb := B.bytes
  have hr := B.returns
  have hG : ∀ w ∈ zG, w.before _ s = true := fun w h => atoms_spec (ws := (zw yX1_works cX1_works 6 (some .boolean))) B.pre w (List.mem_cons_of_mem _ h)
  have hown : s.vm.findClass RX1 = some m.cls := findClass_of_methodNamed B.named
  have hlocks := B.notSynchronized

  subst hsz
  have hD := hD0.self (sz := s.heap.size)
  generalize hAe : va_A ([(h0, .inr (1, mX1 h1 h6 h13 h21 h36 h37 h39 h40 h41 h42 h43 h44 h45 h46 h47 h48 v0)), (h13, .inr (7, mX7 h14 h15 h16 h17 h18 h19 h20 v13)), (h20, zi k20 270 f20), (h39, zi k39 40 f39), (h40, zi k40 40 f40), (h36, .inl (k36, 40, .inr (.inr (.inr (.inr f36))))), (h41, zi k41 40 f41), (h31, .inl (k31, 400, .inr (.inr (.inr (.inr f31)))))] ++ pl0) s.heap.size = A at hD hZ ⊢
  have hA : ∀ q : Nat, s.heap.size ≤ q → A q := fun q h => by rw [← hAe]; exact Or.inr h
  have hS : va_S A s.heap s.heap [] := va_S.rf
  have hl := lv_entry ([.ref h0]) (n := 6) (Nat.le_of_ble_eq_true rfl)
  rw [lg_entry_eq]
  generalize (lg_sl ([.ref h0]) ++ List.replicate (6 - (lg_sl ([.ref h0])).length) Slot.unset).toArray = ls at hl ⊢
  have hl : lv_has ls 6 [(0, .ref h0)] := hl
  have b_ := zk_m1
  have b_ := zk_0
  have b_ := zk_1
  refine lv_iconst (v := 0) hx hb dX1_works_0 (by decide) ?_
  refine lv_istore_n (lv' := [(1, .int 0), (0, .ref h0)]) hx hb dX1_works_1 rfl hl (by decide) rfl (fun ls hl => ?_)
  refine lv_iconst (v := (-1)) hx hb dX1_works_2 (by decide) ?_
  refine lv_istore_n (lv' := [(2, .int (-1)), (1, .int 0), (0, .ref h0)]) hx hb dX1_works_3 rfl hl (by decide) rfl (fun ls hl => ?_)
  refine lv_iconst (v := 0) hx hb dX1_works_4 (by decide) ?_
  refine lv_istore_n (lv' := [(3, .int 0), (2, .int (-1)), (1, .int 0), (0, .ref h0)]) hx hb dX1_works_5 rfl hl (by decide) rfl (fun ls hl => ?_)
  refine zcutL (fun u6_ => (299 - (u6_ 2).toInt).toNat) (fun H locs ls u6_ w6_ a6_ b6_ => ∃ (q6_ : Nat → Nat → Option Nat) (pl6 : va_W), va_P (dC, dI) vwCl ([(h0, .inr (1, mX1 h1 h6 h13 h21 h36 h37 h39 h40 h41 h42 h43 h44 h45 h46 h47 h48 v0)), (h13, .inr (7, mX7 h14 h15 h16 h17 h18 h19 h20 v13)), (h20, zi k20 270 f20), (h39, zi k39 40 f39), (h40, zi k40 40 (a6_ 0)), (h36, .inl (k36, 40, .inr (.inr (.inr (.inr f36))))), (h41, zi k41 40 f41), (h31, .inl (k31, 400, .inr (.inr (.inr (.inr f31)))))] ++ pl6) H ∧ va_D A ([(h0, .inr (1, mX1 h1 h6 h13 h21 h36 h37 h39 h40 h41 h42 h43 h44 h45 h46 h47 h48 v0)), (h13, .inr (7, mX7 h14 h15 h16 h17 h18 h19 h20 v13)), (h20, zi k20 270 f20), (h39, zi k39 40 f39), (h40, zi k40 40 (a6_ 0)), (h36, .inl (k36, 40, .inr (.inr (.inr (.inr f36))))), (h41, zi k41 40 f41), (h31, .inl (k31, 400, .inr (.inr (.inr (.inr f31)))))] ++ pl6) ∧ va_S A s.heap H locs ∧ lv_has ls 6 [(0, .ref h0), (1, .int (u6_ 0)), (2, .int (u6_ 1)), (3, .int (u6_ 2))] ∧ (0 ≤ (u6_ 0).toInt ∧ (u6_ 0).toInt ≤ 40) ∧ ((-1) ≤ (u6_ 1).toInt ∧ (u6_ 1).toInt ≤ 39) ∧ (0 ≤ (u6_ 2).toInt ∧ (u6_ 2).toInt ≤ 299) ∧ (zRd h22 f31 pl6) ∧ (zPs k41 f36 pl6) ∧ (zOt pl0 pl6)) (fun ls u6_ w6_ => F0 m 6 ls []) 0 0 ?_ (fun hJ6 => ?_)
  · skip
    intro H locs ls u6_ w6_ a6_ b6_ hc hJ6
    obtain ⟨q6_, pl6, hP, hD, hS, hl, b_, b_, b_, hI6_0, hI6_1, hI6_2⟩ := hc
    refine lv_iload_n hx hb dX1_works_6 rfl (lv_at hl 3 rfl) ?_
    refine lv_aload_n hx hb dX1_works_7 rfl (lv_at hl 0 rfl) ?_
    refine va_get (D := (dC, dI)) (ci := 1) (v := .ref h13) (C := RX1) (T := TX1) (N := 17) hx hb hG zuX1 hown hK hP 0 rfl rfl 2 (by decide) (hG _ zv506) (fun _ h9 => h9) rfl dX1_works_8 ?_
    have hPc := hP.sub (ws' := [(h13, .inr (7, mX7 h14 h15 h16 h17 h18 h19 h20 v13))]) [1] rfl
    have hDc := hD.sub (ws' := [(h13, .inr (7, mX7 h14 h15 h16 h17 h18 h19 h20 v13))]) [1] (by decide) rfl
    have hKc := hK.sub (tys' := []) [] rfl
    have hFc := va_free (wc := [(h13, .inr (7, mX7 h14 h15 h16 h17 h18 h19 h20 v13))]) hD hS hA [1] rfl
    refine va_calli (va_runV (As := []) (rest := [.int (u6_ 2)]) ⟨hx, hb, hml, hown, hG⟩ (sX7_length_0 l dC dI adK adV h13 h14 h15 h16 h17 h18 h19 h20 H.size v13 hv13) (cwV 0 hG (zgV zv1212 zv1213 zv1214 zv136 zv1215) rfl rfl rfl (by decide +kernel) ⟨Nat.le_of_ble_eq_true rfl, Nat.le_of_ble_eq_true rfl⟩) ⟨zPc_blind, va_recv hKc hPc (ci := 7) (q0 := 0) rfl rfl, zPc_pre hPc hKc hDc hE hS hFc hZ⟩ rfl rfl hl.1 rfl (lv_room (Nat.le_of_ble_eq_true rfl)) dX1_works_11 ⟨Nat.le_of_ble_eq_true rfl, Nat.le_of_ble_eq_true rfl⟩) hS (fun q _ h => hFc q h) hFc (fun r11_ u11_ t H1 locs ht hvm hw hB hz1 hk1 hS => ?_)
    replace hw : (0 ≤ r11_.toInt ∧ r11_.toInt ≤ 270) ∧ (r11_.toInt = (v13 9).toInt) := hw
    obtain ⟨b_, hX11_0⟩ := hw
    obtain ⟨w11_, a11_, b11_, hP1, hK1, hD1⟩ := hB
    rw [ht] at hP1
    obtain ⟨hP, hD⟩ := va_joinQ (wr := [(h0, .inr (1, mX1 h1 h6 h13 h21 h36 h37 h39 h40 h41 h42 h43 h44 h45 h46 h47 h48 v0)), (h20, zi k20 270 f20), (h39, zi k39 40 f39), (h40, zi k40 40 (a6_ 0)), (h36, .inl (k36, 40, .inr (.inr (.inr (.inr f36))))), (h41, zi k41 40 f41), (h31, .inl (k31, 400, .inr (.inr (.inr (.inr f31)))))]) (w1 := [(h13, .inr (7, mX7 h14 h15 h16 h17 h18 h19 h20 v13))]) hP hD [1] [0, 2, 3, 4, 5, 6, 7] rfl rfl (by decide) (by decide) hk1 hFc hP1 hD1
    have hP : va_P (dC, dI) vwCl ([(h0, .inr (1, mX1 h1 h6 h13 h21 h36 h37 h39 h40 h41 h42 h43 h44 h45 h46 h47 h48 v0)), (h13, .inr (7, mX7 h14 h15 h16 h17 h18 h19 h20 v13)), (h20, zi k20 270 f20), (h39, zi k39 40 f39), (h40, zi k40 40 (a6_ 0)), (h36, .inl (k36, 40, .inr (.inr (.inr (.inr f36))))), (h41, zi k41 40 f41), (h31, .inl (k31, 400, .inr (.inr (.inr (.inr f31)))))] ++ pl6) H1 := hP.part [0, 7, 1, 2, 3, 4, 5, 6] rfl
    have hD : va_D A ([(h0, .inr (1, mX1 h1 h6 h13 h21 h36 h37 h39 h40 h41 h42 h43 h44 h45 h46 h47 h48 v0)), (h13, .inr (7, mX7 h14 h15 h16 h17 h18 h19 h20 v13)), (h20, zi k20 270 f20), (h39, zi k39 40 f39), (h40, zi k40 40 (a6_ 0)), (h36, .inl (k36, 40, .inr (.inr (.inr (.inr f36))))), (h41, zi k41 40 f41), (h31, .inl (k31, 400, .inr (.inr (.inr (.inr f31)))))] ++ pl6) := hD.part [0, 7, 1, 2, 3, 4, 5, 6] (by decide) rfl
    generalize H1 = H at hP hS ⊢
    clear hz1
    refine lv_icmp_ge (tgt := 206) hx hb dX1_works_14 (by decide) (fun c_ => ?_) (fun c_ => ?_)
    · skip
      have b_ := zT_ge rfl rfl c_
      refine lv_iload_n hx hb dX1_works_206 rfl (lv_at hl 1 rfl) ?_
      refine lv_iconst (v := 1) hx hb dX1_works_207 (by decide) ?_
      refine lv_icmp_ne (tgt := 224) hx hb dX1_works_208 (by decide) (fun c_ => ?_) (fun c_ => ?_)
      · skip
        have b_ := zT_ne rfl zk_1 c_
        refine lv_iconst (v := 0) hx hb dX1_works_224 (by decide) ?_
        refine W.widen (k := 0) (n := 0) (by decide) (by decide) ?_
        have hpost : (0 ≤ (0 : Int32).toInt ∧ (0 : Int32).toInt ≤ 1) := (by first | with_reducible assumption | exact ⟨by omega, by omega⟩)
        have hP9 : va_P (dC, dI) vwCl ([(h0, .inr (1, mX1 h1 h6 h13 h21 h36 h37 h39 h40 h41 h42 h43 h44 h45 h46 h47 h48 v0)), (h13, .inr (7, mX7 h14 h15 h16 h17 h18 h19 h20 v13)), (h20, zi k20 270 f20), (h39, zi k39 40 f39), (h40, zi k40 40 (a6_ 0)), (h36, .inl (k36, 40, .inr (.inr (.inr (.inr f36))))), (h41, zi k41 40 f41), (h31, .inl (k31, 400, .inr (.inr (.inr (.inr f31)))))] ++ pl6) H := hP
        have hD9 : va_D A ([(h0, .inr (1, mX1 h1 h6 h13 h21 h36 h37 h39 h40 h41 h42 h43 h44 h45 h46 h47 h48 v0)), (h13, .inr (7, mX7 h14 h15 h16 h17 h18 h19 h20 v13)), (h20, zi k20 270 f20), (h39, zi k39 40 f39), (h40, zi k40 40 (a6_ 0)), (h36, .inl (k36, 40, .inr (.inr (.inr (.inr f36))))), (h41, zi k41 40 f41), (h31, .inl (k31, 400, .inr (.inr (.inr (.inr f31)))))] ++ pl6) := hD
        have hB0 : zRd h22 f31 pl6 := by assumption
        have hB1 : zPs k41 f36 pl6 := by assumption
        have hB2 : zOt pl0 pl6 := by first | assumption | exact zOt_rf
        exact W.zret (v := 0) hx hb hr rfl (fun t ht hW => ⟨⟨0, (fun _ => 0), rfl, hpost, (fun _ => 0), (fun i => ([(a6_ 0)] : List (Nat → Int32)).getD i (fun _ => 0)), (fun _ => (fun _ => 0)), (fun _ => (fun _ => none)), pl6, hB0, hB1, hB2, by rw [ht]; exact hP9, va_K.moved hW.alike hK, hD9⟩, hS.F ht⟩) hS.2.2 dX1_works_225
      · skip
        have b_ := zF_ne rfl zk_1 c_
        refine lv_aload_n hx hb dX1_works_211 rfl (lv_at hl 0 rfl) ?_
        refine va_get (D := (dC, dI)) (ci := 1) (v := .ref h40) (C := RX1) (T := TX1) (N := 17) hx hb hG zuX1 hown hK hP 0 rfl rfl 7 (by decide) (hG _ zv511) (fun _ h9 => h9) rfl dX1_works_212 ?_
        refine lv_iconst (v := 0) hx hb dX1_works_215 (by decide) ?_
        refine va_zald hx hb hK hP 4 2 rfl rfl (zin_lit (by decide)) dX1_works_216 ?_
        refine lv_topi (fun z216 e_z216 => ?_)
        have b_ : -2147483648 ≤ z216.toInt ∧ z216.toInt ≤ 2147483647 := ⟨zlo _, zhi _⟩
        refine lv_if_eq (tgt := 224) hx hb dX1_works_217 (by decide) (fun c_ => ?_) (fun c_ => ?_)
        · skip
          have b_ := zT_eq rfl zk_0 c_
          refine lv_iconst (v := 0) hx hb dX1_works_224 (by decide) ?_
          refine W.widen (k := 0) (n := 0) (by decide) (by decide) ?_
          have hpost : (0 ≤ (0 : Int32).toInt ∧ (0 : Int32).toInt ≤ 1) := (by first | with_reducible assumption | exact ⟨by omega, by omega⟩)
          have hP9 : va_P (dC, dI) vwCl ([(h0, .inr (1, mX1 h1 h6 h13 h21 h36 h37 h39 h40 h41 h42 h43 h44 h45 h46 h47 h48 v0)), (h13, .inr (7, mX7 h14 h15 h16 h17 h18 h19 h20 v13)), (h20, zi k20 270 f20), (h39, zi k39 40 f39), (h40, zi k40 40 (a6_ 0)), (h36, .inl (k36, 40, .inr (.inr (.inr (.inr f36))))), (h41, zi k41 40 f41), (h31, .inl (k31, 400, .inr (.inr (.inr (.inr f31)))))] ++ pl6) H := hP
          have hD9 : va_D A ([(h0, .inr (1, mX1 h1 h6 h13 h21 h36 h37 h39 h40 h41 h42 h43 h44 h45 h46 h47 h48 v0)), (h13, .inr (7, mX7 h14 h15 h16 h17 h18 h19 h20 v13)), (h20, zi k20 270 f20), (h39, zi k39 40 f39), (h40, zi k40 40 (a6_ 0)), (h36, .inl (k36, 40, .inr (.inr (.inr (.inr f36))))), (h41, zi k41 40 f41), (h31, .inl (k31, 400, .inr (.inr (.inr (.inr f31)))))] ++ pl6) := hD
          have hB0 : zRd h22 f31 pl6 := by assumption
          have hB1 : zPs k41 f36 pl6 := by assumption
          have hB2 : zOt pl0 pl6 := by first | assumption | exact zOt_rf
          exact W.zret (v := 0) hx hb hr rfl (fun t ht hW => ⟨⟨0, (fun _ => 0), rfl, hpost, (fun _ => 0), (fun i => ([(a6_ 0)] : List (Nat → Int32)).getD i (fun _ => 0)), (fun _ => (fun _ => 0)), (fun _ => (fun _ => none)), pl6, hB0, hB1, hB2, by rw [ht]; exact hP9, va_K.moved hW.alike hK, hD9⟩, hS.F ht⟩) hS.2.2 dX1_works_225
        · skip
          have b_ := zF_eq rfl zk_0 c_
          refine lv_iconst (v := 1) hx hb dX1_works_220 (by decide) ?_
          refine lv_goto (tgt := 225) hx hb dX1_works_221 (by decide) ?_
          refine W.widen (k := 0) (n := 0) (by decide) (by decide) ?_
          have hpost : (0 ≤ (1 : Int32).toInt ∧ (1 : Int32).toInt ≤ 1) := (by first | with_reducible assumption | exact ⟨by omega, by omega⟩)
          have hP9 : va_P (dC, dI) vwCl ([(h0, .inr (1, mX1 h1 h6 h13 h21 h36 h37 h39 h40 h41 h42 h43 h44 h45 h46 h47 h48 v0)), (h13, .inr (7, mX7 h14 h15 h16 h17 h18 h19 h20 v13)), (h20, zi k20 270 f20), (h39, zi k39 40 f39), (h40, zi k40 40 (a6_ 0)), (h36, .inl (k36, 40, .inr (.inr (.inr (.inr f36))))), (h41, zi k41 40 f41), (h31, .inl (k31, 400, .inr (.inr (.inr (.inr f31)))))] ++ pl6) H := hP
          have hD9 : va_D A ([(h0, .inr (1, mX1 h1 h6 h13 h21 h36 h37 h39 h40 h41 h42 h43 h44 h45 h46 h47 h48 v0)), (h13, .inr (7, mX7 h14 h15 h16 h17 h18 h19 h20 v13)), (h20, zi k20 270 f20), (h39, zi k39 40 f39), (h40, zi k40 40 (a6_ 0)), (h36, .inl (k36, 40, .inr (.inr (.inr (.inr f36))))), (h41, zi k41 40 f41), (h31, .inl (k31, 400, .inr (.inr (.inr (.inr f31)))))] ++ pl6) := hD
          have hB0 : zRd h22 f31 pl6 := by assumption
          have hB1 : zPs k41 f36 pl6 := by assumption
          have hB2 : zOt pl0 pl6 := by first | assumption | exact zOt_rf
          exact W.zret (v := 1) hx hb hr rfl (fun t ht hW => ⟨⟨1, (fun _ => 0), rfl, hpost, (fun _ => 0), (fun i => ([(a6_ 0)] : List (Nat → Int32)).getD i (fun _ => 0)), (fun _ => (fun _ => 0)), (fun _ => (fun _ => none)), pl6, hB0, hB1, hB2, by rw [ht]; exact hP9, va_K.moved hW.alike hK, hD9⟩, hS.F ht⟩) hS.2.2 dX1_works_225
    · skip
      have b_ := zF_ge rfl rfl c_
      refine lv_aload_n hx hb dX1_works_17 rfl (lv_at hl 0 rfl) ?_
      refine va_get (D := (dC, dI)) (ci := 1) (v := .ref h13) (C := RX1) (T := TX1) (N := 17) hx hb hG zuX1 hown hK hP 0 rfl rfl 2 (by decide) (hG _ zv506) (fun _ h9 => h9) rfl dX1_works_18 ?_
      refine lv_iload_n hx hb dX1_works_21 rfl (lv_at hl 3 rfl) ?_
      have hPc := hP.sub (ws' := [(h13, .inr (7, mX7 h14 h15 h16 h17 h18 h19 h20 v13)), (h20, zi k20 270 f20)]) [1, 2] rfl
      have hDc := hD.sub (ws' := [(h13, .inr (7, mX7 h14 h15 h16 h17 h18 h19 h20 v13)), (h20, zi k20 270 f20)]) [1, 2] (by decide) rfl
      have hKc := hK.sub (tys' := [(k20, .int)]) [0] rfl
      have hFc := va_free (wc := [(h13, .inr (7, mX7 h14 h15 h16 h17 h18 h19 h20 v13)), (h20, zi k20 270 f20)]) hD hS hA [1, 2] rfl
      refine va_calli (va_runV (As := [.int (u6_ 2)]) (rest := []) ⟨hx, hb, hml, hown, hG⟩ (sX7_stepAt_0 l dC dI adK adV h13 h20 h14 h15 h16 h17 h18 h19 k20 H.size v13 f20 (u6_ 2) hv13 hf20) (cwV 1 hG (zgV zv1302 zv1303 zv1304 zv136 zv1305) rfl rfl rfl (by decide +kernel) ⟨Nat.le_of_ble_eq_true rfl, Nat.le_of_ble_eq_true rfl⟩) ⟨zPc_blind, va_recv hKc hPc (ci := 7) (q0 := 0) rfl rfl, zPc_pre hPc hKc hDc hE hS hFc hZ⟩ rfl rfl hl.1 rfl (lv_room (Nat.le_of_ble_eq_true rfl)) dX1_works_22 ⟨Nat.le_of_ble_eq_true rfl, Nat.le_of_ble_eq_true rfl⟩) hS (fun q _ h => hFc q h) hFc (fun r22_ u22_ t H1 locs ht hvm hw hB hz1 hk1 hS => ?_)
      replace hw : ((-1) ≤ r22_.toInt ∧ r22_.toInt ≤ 12000) ∧ (0 ≤ (u6_ 2).toInt ∧ (u6_ 2).toInt < (v13 9).toInt → 0 ≤ r22_.toInt) := hw
      obtain ⟨b_, hX22_0⟩ := hw
      obtain ⟨w22_, a22_, b22_, hP1, hK1, hD1⟩ := hB
      rw [ht] at hP1
      obtain ⟨hP, hD⟩ := va_joinQ (wr := [(h0, .inr (1, mX1 h1 h6 h13 h21 h36 h37 h39 h40 h41 h42 h43 h44 h45 h46 h47 h48 v0)), (h39, zi k39 40 f39), (h40, zi k40 40 (a6_ 0)), (h36, .inl (k36, 40, .inr (.inr (.inr (.inr f36))))), (h41, zi k41 40 f41), (h31, .inl (k31, 400, .inr (.inr (.inr (.inr f31)))))]) (w1 := [(h13, .inr (7, mX7 h14 h15 h16 h17 h18 h19 h20 v13)), (h20, zi k20 270 f20)]) hP hD [1, 2] [0, 3, 4, 5, 6, 7] rfl rfl (by decide) (by decide) hk1 hFc hP1 hD1
      have hP : va_P (dC, dI) vwCl ([(h0, .inr (1, mX1 h1 h6 h13 h21 h36 h37 h39 h40 h41 h42 h43 h44 h45 h46 h47 h48 v0)), (h13, .inr (7, mX7 h14 h15 h16 h17 h18 h19 h20 v13)), (h20, zi k20 270 f20), (h39, zi k39 40 f39), (h40, zi k40 40 (a6_ 0)), (h36, .inl (k36, 40, .inr (.inr (.inr (.inr f36))))), (h41, zi k41 40 f41), (h31, .inl (k31, 400, .inr (.inr (.inr (.inr f31)))))] ++ pl6) H1 := hP.part [0, 6, 7, 1, 2, 3, 4, 5] rfl
      have hD : va_D A ([(h0, .inr (1, mX1 h1 h6 h13 h21 h36 h37 h39 h40 h41 h42 h43 h44 h45 h46 h47 h48 v0)), (h13, .inr (7, mX7 h14 h15 h16 h17 h18 h19 h20 v13)), (h20, zi k20 270 f20), (h39, zi k39 40 f39), (h40, zi k40 40 (a6_ 0)), (h36, .inl (k36, 40, .inr (.inr (.inr (.inr f36))))), (h41, zi k41 40 f41), (h31, .inl (k31, 400, .inr (.inr (.inr (.inr f31)))))] ++ pl6) := hD.part [0, 6, 7, 1, 2, 3, 4, 5] (by decide) rfl
      generalize H1 = H at hP hS ⊢
      clear hz1
      have b_ : 0 ≤ r22_.toInt ∧ r22_.toInt ≤ 12000 := ⟨by omega, by omega⟩
      refine lv_sipush (v := 1000) hx hb dX1_works_25 (by decide) ?_
      refine lv_idiv hx hb dX1_works_28 (by decide) ?_
      refine lv_topi (fun z28 e_z28 => ?_)
      have b_ := zdiv rfl zk_1000 e_z28 (by omega) (by decide)
      refine lv_istore (lv' := [(4, .int z28), (0, .ref h0), (1, .int (u6_ 0)), (2, .int (u6_ 1)), (3, .int (u6_ 2))]) hx hb dX1_works_29 hl (by decide) rfl (fun ls hl => ?_)
      refine lv_aload_n hx hb dX1_works_31 rfl (lv_at hl 1 rfl) ?_
      refine va_get (D := (dC, dI)) (ci := 1) (v := .ref h13) (C := RX1) (T := TX1) (N := 17) hx hb hG zuX1 hown hK hP 0 rfl rfl 2 (by decide) (hG _ zv506) (fun _ h9 => h9) rfl dX1_works_32 ?_
      refine lv_iload_n hx hb dX1_works_35 rfl (lv_at hl 4 rfl) ?_
      have hPc := hP.sub (ws' := [(h13, .inr (7, mX7 h14 h15 h16 h17 h18 h19 h20 v13)), (h20, zi k20 270 f20)]) [1, 2] rfl
      have hDc := hD.sub (ws' := [(h13, .inr (7, mX7 h14 h15 h16 h17 h18 h19 h20 v13)), (h20, zi k20 270 f20)]) [1, 2] (by decide) rfl
      have hKc := hK.sub (tys' := [(k20, .int)]) [0] rfl
      have hFc := va_free (wc := [(h13, .inr (7, mX7 h14 h15 h16 h17 h18 h19 h20 v13)), (h20, zi k20 270 f20)]) hD hS hA [1, 2] rfl
      refine va_calli (va_runV (As := [.int (u6_ 2)]) (rest := []) ⟨hx, hb, hml, hown, hG⟩ (sX7_stepAt_0 l dC dI adK adV h13 h20 h14 h15 h16 h17 h18 h19 k20 H.size v13 f20 (u6_ 2) hv13 hf20) (cwV 1 hG (zgV zv1302 zv1303 zv1304 zv136 zv1305) rfl rfl rfl (by decide +kernel) ⟨Nat.le_of_ble_eq_true rfl, Nat.le_of_ble_eq_true rfl⟩) ⟨zPc_blind, va_recv hKc hPc (ci := 7) (q0 := 0) rfl rfl, zPc_pre hPc hKc hDc hE hS hFc hZ⟩ rfl rfl hl.1 rfl (lv_room (Nat.le_of_ble_eq_true rfl)) dX1_works_36 ⟨Nat.le_of_ble_eq_true rfl, Nat.le_of_ble_eq_true rfl⟩) hS (fun q _ h => hFc q h) hFc (fun r36_ u36_ t H1 locs ht hvm hw hB hz1 hk1 hS => ?_)
      replace hw : ((-1) ≤ r36_.toInt ∧ r36_.toInt ≤ 12000) ∧ (0 ≤ (u6_ 2).toInt ∧ (u6_ 2).toInt < (v13 9).toInt → 0 ≤ r36_.toInt) := hw
      obtain ⟨b_, hX36_0⟩ := hw
      obtain ⟨w36_, a36_, b36_, hP1, hK1, hD1⟩ := hB
      rw [ht] at hP1
      obtain ⟨hP, hD⟩ := va_joinQ (wr := [(h0, .inr (1, mX1 h1 h6 h13 h21 h36 h37 h39 h40 h41 h42 h43 h44 h45 h46 h47 h48 v0)), (h39, zi k39 40 f39), (h40, zi k40 40 (a6_ 0)), (h36, .inl (k36, 40, .inr (.inr (.inr (.inr f36))))), (h41, zi k41 40 f41), (h31, .inl (k31, 400, .inr (.inr (.inr (.inr f31)))))]) (w1 := [(h13, .inr (7, mX7 h14 h15 h16 h17 h18 h19 h20 v13)), (h20, zi k20 270 f20)]) hP hD [1, 2] [0, 3, 4, 5, 6, 7] rfl rfl (by decide) (by decide) hk1 hFc hP1 hD1
      have hP : va_P (dC, dI) vwCl ([(h0, .inr (1, mX1 h1 h6 h13 h21 h36 h37 h39 h40 h41 h42 h43 h44 h45 h46 h47 h48 v0)), (h13, .inr (7, mX7 h14 h15 h16 h17 h18 h19 h20 v13)), (h20, zi k20 270 f20), (h39, zi k39 40 f39), (h40, zi k40 40 (a6_ 0)), (h36, .inl (k36, 40, .inr (.inr (.inr (.inr f36))))), (h41, zi k41 40 f41), (h31, .inl (k31, 400, .inr (.inr (.inr (.inr f31)))))] ++ pl6) H1 := hP.part [0, 6, 7, 1, 2, 3, 4, 5] rfl
      have hD : va_D A ([(h0, .inr (1, mX1 h1 h6 h13 h21 h36 h37 h39 h40 h41 h42 h43 h44 h45 h46 h47 h48 v0)), (h13, .inr (7, mX7 h14 h15 h16 h17 h18 h19 h20 v13)), (h20, zi k20 270 f20), (h39, zi k39 40 f39), (h40, zi k40 40 (a6_ 0)), (h36, .inl (k36, 40, .inr (.inr (.inr (.inr f36))))), (h41, zi k41 40 f41), (h31, .inl (k31, 400, .inr (.inr (.inr (.inr f31)))))] ++ pl6) := hD.part [0, 6, 7, 1, 2, 3, 4, 5] (by decide) rfl
      generalize H1 = H at hP hS ⊢
      clear hz1
      have b_ : 0 ≤ r36_.toInt ∧ r36_.toInt ≤ 12000 := ⟨by omega, by omega⟩
      refine lv_sipush (v := 1000) hx hb dX1_works_39 (by decide) ?_
      refine lv_irem hx hb dX1_works_42 (by decide) ?_
      refine lv_topi (fun z42 e_z42 => ?_)
      have b_ := zrem rfl zk_1000 e_z42 (by omega) (by decide)
      refine lv_istore (lv' := [(5, .int z42), (4, .int z28), (0, .ref h0), (1, .int (u6_ 0)), (2, .int (u6_ 1)), (3, .int (u6_ 2))]) hx hb dX1_works_43 hl (by decide) rfl (fun ls hl => ?_)
      refine lv_iload hx hb dX1_works_45 (lv_at hl 1 rfl) ?_
      refine lv_iconst (v := 4) hx hb dX1_works_47 (by decide) ?_
      refine zcutW (fun H locs ls u85_ w85_ a85_ b85_ => ∃ (q85_ : Nat → Nat → Option Nat) (pl85 : va_W), va_P (dC, dI) vwCl ([(h0, .inr (1, mX1 h1 h6 h13 h21 h36 h37 h39 h40 h41 h42 h43 h44 h45 h46 h47 h48 v0)), (h13, .inr (7, mX7 h14 h15 h16 h17 h18 h19 h20 v13)), (h20, zi k20 270 f20), (h39, zi k39 40 f39), (h40, zi k40 40 (a6_ 0)), (h36, .inl (k36, 40, .inr (.inr (.inr (.inr f36))))), (h41, zi k41 40 f41), (h31, .inl (k31, 400, .inr (.inr (.inr (.inr f31)))))] ++ pl85) H ∧ va_D A ([(h0, .inr (1, mX1 h1 h6 h13 h21 h36 h37 h39 h40 h41 h42 h43 h44 h45 h46 h47 h48 v0)), (h13, .inr (7, mX7 h14 h15 h16 h17 h18 h19 h20 v13)), (h20, zi k20 270 f20), (h39, zi k39 40 f39), (h40, zi k40 40 (a6_ 0)), (h36, .inl (k36, 40, .inr (.inr (.inr (.inr f36))))), (h41, zi k41 40 f41), (h31, .inl (k31, 400, .inr (.inr (.inr (.inr f31)))))] ++ pl85) ∧ va_S A s.heap H locs ∧ lv_has ls 6 [(0, .ref h0), (1, .int (u6_ 0)), (2, .int (u6_ 1)), (3, .int (u6_ 2)), (4, .int z28), (5, .int z42)] ∧ (0 ≤ z28.toInt ∧ z28.toInt ≤ 12) ∧ (zRd h22 f31 pl85) ∧ (zPs k41 f36 pl85) ∧ (zOt pl0 pl85)) (fun ls u85_ w85_ => F0 m 85 ls []) 0 0 ?_ (fun hJ85 => ?_)
      · skip
        intro H locs ls u85_ w85_ a85_ b85_ hc
        obtain ⟨q85_, pl85, hP, hD, hS, hl, b_, hI85_0, hI85_1, hI85_2⟩ := hc
        refine lv_iload hx hb dX1_works_85 (lv_at hl 4 rfl) ?_
        refine lv_bipush (v := 10) hx hb dX1_works_87 (by decide) ?_
        refine zcutW (fun H locs ls u123_ w123_ a123_ b123_ => ∃ (q123_ : Nat → Nat → Option Nat) (pl123 : va_W), va_P (dC, dI) vwCl ([(h0, .inr (1, mX1 h1 h6 h13 h21 h36 h37 h39 h40 h41 h42 h43 h44 h45 h46 h47 h48 v0)), (h13, .inr (7, mX7 h14 h15 h16 h17 h18 h19 h20 v13)), (h20, zi k20 270 f20), (h39, zi k39 40 f39), (h40, zi k40 40 (a6_ 0)), (h36, .inl (k36, 40, .inr (.inr (.inr (.inr f36))))), (h41, zi k41 40 f41), (h31, .inl (k31, 400, .inr (.inr (.inr (.inr f31)))))] ++ pl123) H ∧ va_D A ([(h0, .inr (1, mX1 h1 h6 h13 h21 h36 h37 h39 h40 h41 h42 h43 h44 h45 h46 h47 h48 v0)), (h13, .inr (7, mX7 h14 h15 h16 h17 h18 h19 h20 v13)), (h20, zi k20 270 f20), (h39, zi k39 40 f39), (h40, zi k40 40 (a6_ 0)), (h36, .inl (k36, 40, .inr (.inr (.inr (.inr f36))))), (h41, zi k41 40 f41), (h31, .inl (k31, 400, .inr (.inr (.inr (.inr f31)))))] ++ pl123) ∧ va_S A s.heap H locs ∧ lv_has ls 6 [(0, .ref h0), (1, .int (u6_ 0)), (2, .int (u6_ 1)), (3, .int (u6_ 2)), (4, .int z28), (5, .int z42)] ∧ (zRd h22 f31 pl123) ∧ (zPs k41 f36 pl123) ∧ (zOt pl0 pl123)) (fun ls u123_ w123_ => F0 m 123 ls []) 0 0 ?_ (fun hJ123 => ?_)
        · skip
          intro H locs ls u123_ w123_ a123_ b123_ hc
          obtain ⟨q123_, pl123, hP, hD, hS, hl, hI123_0, hI123_1, hI123_2⟩ := hc
          refine lv_iload hx hb dX1_works_123 (lv_at hl 4 rfl) ?_
          refine lv_iconst (v := 5) hx hb dX1_works_125 (by decide) ?_
          refine zcutW (fun H locs ls u158_ w158_ a158_ b158_ => ∃ (q158_ : Nat → Nat → Option Nat) (pl158 : va_W), va_P (dC, dI) vwCl ([(h0, .inr (1, mX1 h1 h6 h13 h21 h36 h37 h39 h40 h41 h42 h43 h44 h45 h46 h47 h48 v0)), (h13, .inr (7, mX7 h14 h15 h16 h17 h18 h19 h20 v13)), (h20, zi k20 270 f20), (h39, zi k39 40 f39), (h40, zi k40 40 (a6_ 0)), (h36, .inl (k36, 40, .inr (.inr (.inr (.inr f36))))), (h41, zi k41 40 f41), (h31, .inl (k31, 400, .inr (.inr (.inr (.inr f31)))))] ++ pl158) H ∧ va_D A ([(h0, .inr (1, mX1 h1 h6 h13 h21 h36 h37 h39 h40 h41 h42 h43 h44 h45 h46 h47 h48 v0)), (h13, .inr (7, mX7 h14 h15 h16 h17 h18 h19 h20 v13)), (h20, zi k20 270 f20), (h39, zi k39 40 f39), (h40, zi k40 40 (a6_ 0)), (h36, .inl (k36, 40, .inr (.inr (.inr (.inr f36))))), (h41, zi k41 40 f41), (h31, .inl (k31, 400, .inr (.inr (.inr (.inr f31)))))] ++ pl158) ∧ va_S A s.heap H locs ∧ lv_has ls 6 [(0, .ref h0), (1, .int (u6_ 0)), (2, .int (u6_ 1)), (3, .int (u6_ 2)), (4, .int z28), (5, .int z42)] ∧ (zRd h22 f31 pl158) ∧ (zPs k41 f36 pl158) ∧ (zOt pl0 pl158)) (fun ls u158_ w158_ => F0 m 158 ls []) 0 0 ?_ (fun hJ158 => ?_)
          · skip
            intro H locs ls u158_ w158_ a158_ b158_ hc
            obtain ⟨q158_, pl158, hP, hD, hS, hl, hI158_0, hI158_1, hI158_2⟩ := hc
            refine lv_iload hx hb dX1_works_158 (lv_at hl 4 rfl) ?_
            refine lv_bipush (v := 8) hx hb dX1_works_160 (by decide) ?_
            refine lv_icmp_lt (tgt := 200) hx hb dX1_works_162 (by decide) (fun c_ => ?_) (fun c_ => ?_)
            · skip
              have b_ := zT_lt rfl zk_8 c_
              obtain ⟨z200, e_z200⟩ : ∃ z : Int32, z = (u6_ 2) + Int32.ofInt 1 := ⟨_, rfl⟩
              have b_ := zadd (x := (u6_ 2)) (y := Int32.ofInt 1) rfl (show (Int32.ofInt 1).toInt = 1 from by decide) e_z200 (by omega) (by omega)
              refine lv_iinc (v := z200) (lv' := [(3, .int z200), (0, .ref h0), (1, .int (u6_ 0)), (2, .int (u6_ 1)), (4, .int z28), (5, .int z42)]) hx hb dX1_works_200 hl (k := 3) rfl e_z200.symm (by decide) rfl (fun ls hl => ?_)
              refine lv_goto (tgt := 6) hx hb dX1_works_203 (by decide) ?_
              have hc : va_P (dC, dI) vwCl ([(h0, .inr (1, mX1 h1 h6 h13 h21 h36 h37 h39 h40 h41 h42 h43 h44 h45 h46 h47 h48 v0)), (h13, .inr (7, mX7 h14 h15 h16 h17 h18 h19 h20 v13)), (h20, zi k20 270 f20), (h39, zi k39 40 f39), (h40, zi k40 40 (a6_ 0)), (h36, .inl (k36, 40, .inr (.inr (.inr (.inr f36))))), (h41, zi k41 40 f41), (h31, .inl (k31, 400, .inr (.inr (.inr (.inr f31)))))] ++ pl158) H ∧ va_D A ([(h0, .inr (1, mX1 h1 h6 h13 h21 h36 h37 h39 h40 h41 h42 h43 h44 h45 h46 h47 h48 v0)), (h13, .inr (7, mX7 h14 h15 h16 h17 h18 h19 h20 v13)), (h20, zi k20 270 f20), (h39, zi k39 40 f39), (h40, zi k40 40 (a6_ 0)), (h36, .inl (k36, 40, .inr (.inr (.inr (.inr f36))))), (h41, zi k41 40 f41), (h31, .inl (k31, 400, .inr (.inr (.inr (.inr f31)))))] ++ pl158) ∧ va_S A s.heap H locs ∧ lv_has ls 6 [(0, .ref h0), (1, .int (u6_ 0)), (2, .int (u6_ 1)), (3, .int z200)] ∧ (0 ≤ (u6_ 0).toInt ∧ (u6_ 0).toInt ≤ 40) ∧ ((-1) ≤ (u6_ 1).toInt ∧ (u6_ 1).toInt ≤ 39) ∧ (0 ≤ z200.toInt ∧ z200.toInt ≤ 299) ∧ (zRd h22 f31 pl158) ∧ (zPs k41 f36 pl158) ∧ (zOt pl0 pl158) := ⟨hP, hD, hS, lv_sub hl [1, 2, 3, 0] rfl, (by first | with_reducible assumption | exact ⟨by omega, by omega⟩), (by first | with_reducible assumption | exact ⟨by omega, by omega⟩), (by first | with_reducible assumption | exact ⟨by omega, by omega⟩), by assumption, by assumption, by first | assumption | exact zOt_rf⟩
              exact hJ6 H locs ls (fun i => ([(u6_ 0), (u6_ 1), z200] : List (Int32)).getD i 0) (fun _ => 0) (fun i => ([(a6_ 0)] : List (Nat → Int32)).getD i (fun _ => 0)) (fun _ => (fun _ => 0)) ⟨(fun _ => (fun _ => none)), pl158, hc⟩ (show (299 - z200.toInt).toNat < (299 - (u6_ 2).toInt).toNat from by omega)
            · skip
              have b_ := zF_lt rfl zk_8 c_
              refine lv_iload_n hx hb dX1_works_165 rfl (lv_at hl 1 rfl) ?_
              refine lv_iconst (v := 1) hx hb dX1_works_166 (by decide) ?_
              refine lv_icmp_le (tgt := 200) hx hb dX1_works_167 (by decide) (fun c_ => ?_) (fun c_ => ?_)
              · skip
                have b_ := zT_le rfl zk_1 c_
                obtain ⟨z200, e_z200⟩ : ∃ z : Int32, z = (u6_ 2) + Int32.ofInt 1 := ⟨_, rfl⟩
                have b_ := zadd (x := (u6_ 2)) (y := Int32.ofInt 1) rfl (show (Int32.ofInt 1).toInt = 1 from by decide) e_z200 (by omega) (by omega)
                refine lv_iinc (v := z200) (lv' := [(3, .int z200), (0, .ref h0), (1, .int (u6_ 0)), (2, .int (u6_ 1)), (4, .int z28), (5, .int z42)]) hx hb dX1_works_200 hl (k := 3) rfl e_z200.symm (by decide) rfl (fun ls hl => ?_)
                refine lv_goto (tgt := 6) hx hb dX1_works_203 (by decide) ?_
                have hc : va_P (dC, dI) vwCl ([(h0, .inr (1, mX1 h1 h6 h13 h21 h36 h37 h39 h40 h41 h42 h43 h44 h45 h46 h47 h48 v0)), (h13, .inr (7, mX7 h14 h15 h16 h17 h18 h19 h20 v13)), (h20, zi k20 270 f20), (h39, zi k39 40 f39), (h40, zi k40 40 (a6_ 0)), (h36, .inl (k36, 40, .inr (.inr (.inr (.inr f36))))), (h41, zi k41 40 f41), (h31, .inl (k31, 400, .inr (.inr (.inr (.inr f31)))))] ++ pl158) H ∧ va_D A ([(h0, .inr (1, mX1 h1 h6 h13 h21 h36 h37 h39 h40 h41 h42 h43 h44 h45 h46 h47 h48 v0)), (h13, .inr (7, mX7 h14 h15 h16 h17 h18 h19 h20 v13)), (h20, zi k20 270 f20), (h39, zi k39 40 f39), (h40, zi k40 40 (a6_ 0)), (h36, .inl (k36, 40, .inr (.inr (.inr (.inr f36))))), (h41, zi k41 40 f41), (h31, .inl (k31, 400, .inr (.inr (.inr (.inr f31)))))] ++ pl158) ∧ va_S A s.heap H locs ∧ lv_has ls 6 [(0, .ref h0), (1, .int (u6_ 0)), (2, .int (u6_ 1)), (3, .int z200)] ∧ (0 ≤ (u6_ 0).toInt ∧ (u6_ 0).toInt ≤ 40) ∧ ((-1) ≤ (u6_ 1).toInt ∧ (u6_ 1).toInt ≤ 39) ∧ (0 ≤ z200.toInt ∧ z200.toInt ≤ 299) ∧ (zRd h22 f31 pl158) ∧ (zPs k41 f36 pl158) ∧ (zOt pl0 pl158) := ⟨hP, hD, hS, lv_sub hl [1, 2, 3, 0] rfl, (by first | with_reducible assumption | exact ⟨by omega, by omega⟩), (by first | with_reducible assumption | exact ⟨by omega, by omega⟩), (by first | with_reducible assumption | exact ⟨by omega, by omega⟩), by assumption, by assumption, by first | assumption | exact zOt_rf⟩
                exact hJ6 H locs ls (fun i => ([(u6_ 0), (u6_ 1), z200] : List (Int32)).getD i 0) (fun _ => 0) (fun i => ([(a6_ 0)] : List (Nat → Int32)).getD i (fun _ => 0)) (fun _ => (fun _ => 0)) ⟨(fun _ => (fun _ => none)), pl158, hc⟩ (show (299 - z200.toInt).toNat < (299 - (u6_ 2).toInt).toNat from by omega)
              · skip
                have b_ := zF_le rfl zk_1 c_
                obtain ⟨z170, e_z170⟩ : ∃ z : Int32, z = (u6_ 0) + Int32.ofInt (-1) := ⟨_, rfl⟩
                have b_ := zadd (x := (u6_ 0)) (y := Int32.ofInt (-1)) rfl (show (Int32.ofInt (-1)).toInt = (-1) from by decide) e_z170 (by omega) (by omega)
                refine lv_iinc (v := z170) (lv' := [(1, .int z170), (0, .ref h0), (2, .int (u6_ 1)), (3, .int (u6_ 2)), (4, .int z28), (5, .int z42)]) hx hb dX1_works_170 hl (k := 1) rfl e_z170.symm (by decide) rfl (fun ls hl => ?_)
                refine lv_aload_n hx hb dX1_works_173 rfl (lv_at hl 1 rfl) ?_
                refine va_get (D := (dC, dI)) (ci := 1) (v := .ref h40) (C := RX1) (T := TX1) (N := 17) hx hb hG zuX1 hown hK hP 0 rfl rfl 7 (by decide) (hG _ zv511) (fun _ h9 => h9) rfl dX1_works_174 ?_
                refine lv_iload_n hx hb dX1_works_177 rfl (lv_at hl 0 rfl) ?_
                refine lv_iconst (v := 1) hx hb dX1_works_178 (by decide) ?_
                refine lv_isub hx hb dX1_works_179 ?_
                refine lv_topi (fun z179 e_z179 => ?_)
                have b_ := zsub rfl zk_1 e_z179 (by omega) (by omega)
                refine lv_iload hx hb dX1_works_180 (lv_at hl 4 rfl) ?_
                refine lv_aload_n hx hb dX1_works_182 rfl (lv_at hl 1 rfl) ?_
                refine va_get (D := (dC, dI)) (ci := 1) (v := .ref h40) (C := RX1) (T := TX1) (N := 17) hx hb hG zuX1 hown hK hP 0 rfl rfl 7 (by decide) (hG _ zv511) (fun _ h9 => h9) rfl dX1_works_183 ?_
                refine lv_iload_n hx hb dX1_works_186 rfl (lv_at hl 0 rfl) ?_
                refine lv_iconst (v := 1) hx hb dX1_works_187 (by decide) ?_
                refine lv_isub hx hb dX1_works_188 ?_
                refine lv_topi (fun z188 e_z188 => ?_)
                have b_ := zsub rfl zk_1 e_z188 (by omega) (by omega)
                refine va_zald hx hb hK hP 4 2 rfl rfl (zin_lit ⟨by omega, by omega⟩) dX1_works_189 ?_
                refine lv_topi (fun z189 e_z189 => ?_)
                refine lv_aload_n hx hb dX1_works_190 rfl (lv_at hl 1 rfl) ?_
                refine va_get (D := (dC, dI)) (ci := 1) (v := .ref h40) (C := RX1) (T := TX1) (N := 17) hx hb hG zuX1 hown hK hP 0 rfl rfl 7 (by decide) (hG _ zv511) (fun _ h9 => h9) rfl dX1_works_191 ?_
                refine lv_iload_n hx hb dX1_works_194 rfl (lv_at hl 0 rfl) ?_
                refine va_zald hx hb hK hP 4 2 rfl rfl (zin_lit ⟨by omega, by omega⟩) dX1_works_195 ?_
                refine lv_topi (fun z195 e_z195 => ?_)
                have hPc := hP.sub (ws' := []) [] rfl
                have hDc := hD.sub (ws' := []) [] (by decide) rfl
                have hKc := hK.sub (tys' := []) [] rfl
                have hFc := va_free (wc := []) hD hS hA [] rfl
                refine va_calli (va_runS (As := [.int z28, .int z189, .int z195]) (rest := [.int z179, .ref h40]) ⟨hx, hb, hml, hown, hG⟩ (sX1_joined_0 l dC dI adK adV H.size z28 z189 z195) (va_cwS 3 hG (zgS zv1322 zv1323 zv138 zv1324) rfl rfl rfl (by decide +kernel) ⟨Nat.le_of_ble_eq_true rfl, Nat.le_of_ble_eq_true rfl⟩) ⟨zPc_blind, zPc_pre hPc hKc hDc hE hS hFc hZ⟩ rfl rfl hl.1 rfl (lv_room (Nat.le_of_ble_eq_true rfl)) dX1_works_196 ⟨Nat.le_of_ble_eq_true rfl, Nat.le_of_ble_eq_true rfl⟩) hS (fun q _ h => hFc q h) hFc (fun r196_ u196_ t H1 locs ht hvm hw hB hz1 hk1 hS => ?_)
                replace hw : (0 ≤ r196_.toInt ∧ r196_.toInt ≤ 1) := hw
                have b_ := hw
                obtain ⟨w196_, a196_, b196_, hP1, hK1, hD1⟩ := hB
                rw [ht] at hP1
                obtain ⟨hP, hD⟩ := va_joinQ (wr := [(h0, .inr (1, mX1 h1 h6 h13 h21 h36 h37 h39 h40 h41 h42 h43 h44 h45 h46 h47 h48 v0)), (h13, .inr (7, mX7 h14 h15 h16 h17 h18 h19 h20 v13)), (h20, zi k20 270 f20), (h39, zi k39 40 f39), (h40, zi k40 40 (a6_ 0)), (h36, .inl (k36, 40, .inr (.inr (.inr (.inr f36))))), (h41, zi k41 40 f41), (h31, .inl (k31, 400, .inr (.inr (.inr (.inr f31)))))]) (w1 := []) hP hD [] [0, 1, 2, 3, 4, 5, 6, 7] rfl rfl (by decide) (by decide) hk1 hFc hP1 hD1
                have hP : va_P (dC, dI) vwCl ([(h0, .inr (1, mX1 h1 h6 h13 h21 h36 h37 h39 h40 h41 h42 h43 h44 h45 h46 h47 h48 v0)), (h13, .inr (7, mX7 h14 h15 h16 h17 h18 h19 h20 v13)), (h20, zi k20 270 f20), (h39, zi k39 40 f39), (h40, zi k40 40 (a6_ 0)), (h36, .inl (k36, 40, .inr (.inr (.inr (.inr f36))))), (h41, zi k41 40 f41), (h31, .inl (k31, 400, .inr (.inr (.inr (.inr f31)))))] ++ pl158) H1 := hP.part [0, 1, 2, 3, 4, 5, 6, 7] rfl
                have hD : va_D A ([(h0, .inr (1, mX1 h1 h6 h13 h21 h36 h37 h39 h40 h41 h42 h43 h44 h45 h46 h47 h48 v0)), (h13, .inr (7, mX7 h14 h15 h16 h17 h18 h19 h20 v13)), (h20, zi k20 270 f20), (h39, zi k39 40 f39), (h40, zi k40 40 (a6_ 0)), (h36, .inl (k36, 40, .inr (.inr (.inr (.inr f36))))), (h41, zi k41 40 f41), (h31, .inl (k31, 400, .inr (.inr (.inr (.inr f31)))))] ++ pl158) := hD.part [0, 1, 2, 3, 4, 5, 6, 7] (by decide) rfl
                generalize H1 = H at hP hS ⊢
                clear hz1
                refine va_zast hx hb hK hP hD hS 4 2 rfl rfl (zin_lit ⟨by omega, by omega⟩) dX1_works_199 (fun H locs hP hD hS => ?_)
                obtain ⟨f_199, e_f_199⟩ : ∃ z : Nat → Int32, z = upd (a6_ 0) (z179 : Int32).toNatClampNeg (vp_nar .boolean r196_) := ⟨_, rfl⟩
                have hP : va_P (dC, dI) vwCl ([(h0, .inr (1, mX1 h1 h6 h13 h21 h36 h37 h39 h40 h41 h42 h43 h44 h45 h46 h47 h48 v0)), (h13, .inr (7, mX7 h14 h15 h16 h17 h18 h19 h20 v13)), (h20, zi k20 270 f20), (h39, zi k39 40 f39), (h40, zi k40 40 f_199), (h36, .inl (k36, 40, .inr (.inr (.inr (.inr f36))))), (h41, zi k41 40 f41), (h31, .inl (k31, 400, .inr (.inr (.inr (.inr f31)))))] ++ pl158) H := by rw [e_f_199]; exact hP
                have hD : va_D A ([(h0, .inr (1, mX1 h1 h6 h13 h21 h36 h37 h39 h40 h41 h42 h43 h44 h45 h46 h47 h48 v0)), (h13, .inr (7, mX7 h14 h15 h16 h17 h18 h19 h20 v13)), (h20, zi k20 270 f20), (h39, zi k39 40 f39), (h40, zi k40 40 f_199), (h36, .inl (k36, 40, .inr (.inr (.inr (.inr f36))))), (h41, zi k41 40 f41), (h31, .inl (k31, 400, .inr (.inr (.inr (.inr f31)))))] ++ pl158) := by rw [e_f_199]; exact hD
                obtain ⟨z200, e_z200⟩ : ∃ z : Int32, z = (u6_ 2) + Int32.ofInt 1 := ⟨_, rfl⟩
                have b_ := zadd (x := (u6_ 2)) (y := Int32.ofInt 1) rfl (show (Int32.ofInt 1).toInt = 1 from by decide) e_z200 (by omega) (by omega)
                refine lv_iinc (v := z200) (lv' := [(3, .int z200), (1, .int z170), (0, .ref h0), (2, .int (u6_ 1)), (4, .int z28), (5, .int z42)]) hx hb dX1_works_200 hl (k := 3) rfl e_z200.symm (by decide) rfl (fun ls hl => ?_)
                refine lv_goto (tgt := 6) hx hb dX1_works_203 (by decide) ?_
                have hc : va_P (dC, dI) vwCl ([(h0, .inr (1, mX1 h1 h6 h13 h21 h36 h37 h39 h40 h41 h42 h43 h44 h45 h46 h47 h48 v0)), (h13, .inr (7, mX7 h14 h15 h16 h17 h18 h19 h20 v13)), (h20, zi k20 270 f20), (h39, zi k39 40 f39), (h40, zi k40 40 f_199), (h36, .inl (k36, 40, .inr (.inr (.inr (.inr f36))))), (h41, zi k41 40 f41), (h31, .inl (k31, 400, .inr (.inr (.inr (.inr f31)))))] ++ pl158) H ∧ va_D A ([(h0, .inr (1, mX1 h1 h6 h13 h21 h36 h37 h39 h40 h41 h42 h43 h44 h45 h46 h47 h48 v0)), (h13, .inr (7, mX7 h14 h15 h16 h17 h18 h19 h20 v13)), (h20, zi k20 270 f20), (h39, zi k39 40 f39), (h40, zi k40 40 f_199), (h36, .inl (k36, 40, .inr (.inr (.inr (.inr f36))))), (h41, zi k41 40 f41), (h31, .inl (k31, 400, .inr (.inr (.inr (.inr f31)))))] ++ pl158) ∧ va_S A s.heap H locs ∧ lv_has ls 6 [(0, .ref h0), (1, .int z170), (2, .int (u6_ 1)), (3, .int z200)] ∧ (0 ≤ z170.toInt ∧ z170.toInt ≤ 40) ∧ ((-1) ≤ (u6_ 1).toInt ∧ (u6_ 1).toInt ≤ 39) ∧ (0 ≤ z200.toInt ∧ z200.toInt ≤ 299) ∧ (zRd h22 f31 pl158) ∧ (zPs k41 f36 pl158) ∧ (zOt pl0 pl158) := ⟨hP, hD, hS, lv_sub hl [2, 1, 3, 0] rfl, (by first | with_reducible assumption | exact ⟨by omega, by omega⟩), (by first | with_reducible assumption | exact ⟨by omega, by omega⟩), (by first | with_reducible assumption | exact ⟨by omega, by omega⟩), by assumption, by assumption, by first | assumption | exact zOt_rf⟩
                exact hJ6 H locs ls (fun i => ([z170, (u6_ 1), z200] : List (Int32)).getD i 0) (fun _ => 0) (fun i => ([f_199] : List (Nat → Int32)).getD i (fun _ => 0)) (fun _ => (fun _ => 0)) ⟨(fun _ => (fun _ => none)), pl158, hc⟩ (show (299 - z200.toInt).toNat < (299 - (u6_ 2).toInt).toNat from by omega)
          · skip
            refine lv_icmp_ne (tgt := 158) hx hb dX1_works_126 (by decide) (fun c_ => ?_) (fun c_ => ?_)
            · skip
              have b_ := zT_ne rfl zk_5 c_
              have hc : va_P (dC, dI) vwCl ([(h0, .inr (1, mX1 h1 h6 h13 h21 h36 h37 h39 h40 h41 h42 h43 h44 h45 h46 h47 h48 v0)), (h13, .inr (7, mX7 h14 h15 h16 h17 h18 h19 h20 v13)), (h20, zi k20 270 f20), (h39, zi k39 40 f39), (h40, zi k40 40 (a6_ 0)), (h36, .inl (k36, 40, .inr (.inr (.inr (.inr f36))))), (h41, zi k41 40 f41), (h31, .inl (k31, 400, .inr (.inr (.inr (.inr f31)))))] ++ pl123) H ∧ va_D A ([(h0, .inr (1, mX1 h1 h6 h13 h21 h36 h37 h39 h40 h41 h42 h43 h44 h45 h46 h47 h48 v0)), (h13, .inr (7, mX7 h14 h15 h16 h17 h18 h19 h20 v13)), (h20, zi k20 270 f20), (h39, zi k39 40 f39), (h40, zi k40 40 (a6_ 0)), (h36, .inl (k36, 40, .inr (.inr (.inr (.inr f36))))), (h41, zi k41 40 f41), (h31, .inl (k31, 400, .inr (.inr (.inr (.inr f31)))))] ++ pl123) ∧ va_S A s.heap H locs ∧ lv_has ls 6 [(0, .ref h0), (1, .int (u6_ 0)), (2, .int (u6_ 1)), (3, .int (u6_ 2)), (4, .int z28), (5, .int z42)] ∧ (zRd h22 f31 pl123) ∧ (zPs k41 f36 pl123) ∧ (zOt pl0 pl123) := ⟨hP, hD, hS, lv_sub hl [0, 1, 2, 3, 4, 5] rfl, by assumption, by assumption, by first | assumption | exact zOt_rf⟩
              exact hJ158 H locs ls (fun _ => 0) (fun _ => 0) (fun _ => (fun _ => 0)) (fun _ => (fun _ => 0)) ⟨(fun _ => (fun _ => none)), pl123, hc⟩
            · skip
              have b_ := zF_ne rfl zk_5 c_
              refine lv_iload_n hx hb dX1_works_129 rfl (lv_at hl 1 rfl) ?_
              refine lv_iconst (v := 1) hx hb dX1_works_130 (by decide) ?_
              refine lv_icmp_le (tgt := 158) hx hb dX1_works_131 (by decide) (fun c_ => ?_) (fun c_ => ?_)
              · skip
                have b_ := zT_le rfl zk_1 c_
                have hc : va_P (dC, dI) vwCl ([(h0, .inr (1, mX1 h1 h6 h13 h21 h36 h37 h39 h40 h41 h42 h43 h44 h45 h46 h47 h48 v0)), (h13, .inr (7, mX7 h14 h15 h16 h17 h18 h19 h20 v13)), (h20, zi k20 270 f20), (h39, zi k39 40 f39), (h40, zi k40 40 (a6_ 0)), (h36, .inl (k36, 40, .inr (.inr (.inr (.inr f36))))), (h41, zi k41 40 f41), (h31, .inl (k31, 400, .inr (.inr (.inr (.inr f31)))))] ++ pl123) H ∧ va_D A ([(h0, .inr (1, mX1 h1 h6 h13 h21 h36 h37 h39 h40 h41 h42 h43 h44 h45 h46 h47 h48 v0)), (h13, .inr (7, mX7 h14 h15 h16 h17 h18 h19 h20 v13)), (h20, zi k20 270 f20), (h39, zi k39 40 f39), (h40, zi k40 40 (a6_ 0)), (h36, .inl (k36, 40, .inr (.inr (.inr (.inr f36))))), (h41, zi k41 40 f41), (h31, .inl (k31, 400, .inr (.inr (.inr (.inr f31)))))] ++ pl123) ∧ va_S A s.heap H locs ∧ lv_has ls 6 [(0, .ref h0), (1, .int (u6_ 0)), (2, .int (u6_ 1)), (3, .int (u6_ 2)), (4, .int z28), (5, .int z42)] ∧ (zRd h22 f31 pl123) ∧ (zPs k41 f36 pl123) ∧ (zOt pl0 pl123) := ⟨hP, hD, hS, lv_sub hl [0, 1, 2, 3, 4, 5] rfl, by assumption, by assumption, by first | assumption | exact zOt_rf⟩
                exact hJ158 H locs ls (fun _ => 0) (fun _ => 0) (fun _ => (fun _ => 0)) (fun _ => (fun _ => 0)) ⟨(fun _ => (fun _ => none)), pl123, hc⟩
              · skip
                have b_ := zF_le rfl zk_1 c_
                obtain ⟨z134, e_z134⟩ : ∃ z : Int32, z = (u6_ 0) + Int32.ofInt (-1) := ⟨_, rfl⟩
                have b_ := zadd (x := (u6_ 0)) (y := Int32.ofInt (-1)) rfl (show (Int32.ofInt (-1)).toInt = (-1) from by decide) e_z134 (by omega) (by omega)
                refine lv_iinc (v := z134) (lv' := [(1, .int z134), (0, .ref h0), (2, .int (u6_ 1)), (3, .int (u6_ 2)), (4, .int z28), (5, .int z42)]) hx hb dX1_works_134 hl (k := 1) rfl e_z134.symm (by decide) rfl (fun ls hl => ?_)
                refine lv_aload_n hx hb dX1_works_137 rfl (lv_at hl 1 rfl) ?_
                refine va_get (D := (dC, dI)) (ci := 1) (v := .ref h40) (C := RX1) (T := TX1) (N := 17) hx hb hG zuX1 hown hK hP 0 rfl rfl 7 (by decide) (hG _ zv511) (fun _ h9 => h9) rfl dX1_works_138 ?_
                refine lv_iload_n hx hb dX1_works_141 rfl (lv_at hl 0 rfl) ?_
                refine lv_iconst (v := 1) hx hb dX1_works_142 (by decide) ?_
                refine lv_isub hx hb dX1_works_143 ?_
                refine lv_topi (fun z143 e_z143 => ?_)
                have b_ := zsub rfl zk_1 e_z143 (by omega) (by omega)
                refine lv_aload_n hx hb dX1_works_144 rfl (lv_at hl 1 rfl) ?_
                refine lv_iload_n hx hb dX1_works_145 rfl (lv_at hl 2 rfl) ?_
                refine lv_iconst (v := 1) hx hb dX1_works_146 (by decide) ?_
                refine lv_isub hx hb dX1_works_147 ?_
                refine lv_topi (fun z147 e_z147 => ?_)
                have b_ := zsub rfl zk_1 e_z147 (by omega) (by omega)
                refine lv_iload_n hx hb dX1_works_148 rfl (lv_at hl 2 rfl) ?_
                refine lv_iload hx hb dX1_works_149 (lv_at hl 5 rfl) ?_
                have hPc := hP.part (cx := [(h0, .inr (1, mX1 h1 h6 h13 h21 h36 h37 h39 h40 h41 h42 h43 h44 h45 h46 h47 h48 v0)), (h36, .inl (k36, 40, .inr (.inr (.inr (.inr f36))))), (h41, zi k41 40 f41), (h31, .inl (k31, 400, .inr (.inr (.inr (.inr f31)))))]) [0, 5, 6, 7] rfl
                have hDc := hD.part (cx := [(h0, .inr (1, mX1 h1 h6 h13 h21 h36 h37 h39 h40 h41 h42 h43 h44 h45 h46 h47 h48 v0)), (h36, .inl (k36, 40, .inr (.inr (.inr (.inr f36))))), (h41, zi k41 40 f41), (h31, .inl (k31, 400, .inr (.inr (.inr (.inr f31)))))]) [0, 5, 6, 7] (by decide) rfl
                have hKc := hK.sub (tys' := [(k36, .object RX5), (k41, .int), (k31, .object RX8)]) [3, 4, 5] rfl
                have hFc := va_freeP (cx := [(h0, .inr (1, mX1 h1 h6 h13 h21 h36 h37 h39 h40 h41 h42 h43 h44 h45 h46 h47 h48 v0)), (h36, .inl (k36, 40, .inr (.inr (.inr (.inr f36))))), (h41, zi k41 40 f41), (h31, .inl (k31, 400, .inr (.inr (.inr (.inr f31)))))]) hD hS hA [0, 5, 6, 7] rfl
                refine va_calli (va_runV (As := [.int z147, .int (u6_ 1), .int z42]) (rest := [.int z143, .ref h40]) ⟨hx, hb, hml, hown, hG⟩ (sX1_areNear_0 l dC dI adK adV h0 h36 h41 h31 h1 h6 h13 h21 h37 h39 h40 h42 h43 h44 h45 h46 h47 h48 h22 k36 k41 k31 pl123 H.size v0 f36 f41 f31 z147 (u6_ 1) z42 hv0 (show ((-2) : Int) ≤ (z147 : Int32).toInt ∧ (z147 : Int32).toInt ≤ (38 : Int) from (by first | with_reducible assumption | exact ⟨by omega, by omega⟩)) (show ((-1) : Int) ≤ ((u6_ 1) : Int32).toInt ∧ ((u6_ 1) : Int32).toInt ≤ (39 : Int) from (by first | with_reducible assumption | exact ⟨by omega, by omega⟩)) (show zRd h22 f31 pl123 from by first | with_reducible assumption | assumption) (show zPs k41 f36 pl123 from by first | with_reducible assumption | assumption) (show z147.toInt = (u6_ 1).toInt - 1 from by omega)) (cwV 3 hG (zgV zv1306 zv1308 zv42 zv138 zv1309) rfl rfl rfl (by decide +kernel) ⟨Nat.le_of_ble_eq_true rfl, Nat.le_of_ble_eq_true rfl⟩) ⟨zPc_blind, va_recv hKc hPc (ci := 1) (q0 := 0) rfl rfl, zPc_pre hPc hKc hDc hE hS hFc hZ⟩ rfl rfl hl.1 rfl (lv_room (Nat.le_of_ble_eq_true rfl)) dX1_works_151 ⟨Nat.le_of_ble_eq_true rfl, Nat.le_of_ble_eq_true rfl⟩) hS (fun q _ h => hFc q h) hFc (fun r151_ u151_ t H1 locs ht hvm hw hB hz1 hk1 hS => ?_)
                replace hw : (0 ≤ r151_.toInt ∧ r151_.toInt ≤ 1) := hw
                have b_ := hw
                obtain ⟨w151_, a151_, b151_, q151_, pl151_, hB151_0, hB151_1, hB151_2, hP1, hK1, hD1⟩ := hB
                have hB151_0 : zRd h22 f31 pl151_ := hB151_0
                have hB151_1 : zPs k41 f36 pl151_ := hB151_1
                have hB151_2 : zOt pl123 pl151_ := hB151_2
                rw [ht] at hP1
                obtain ⟨hP, hD⟩ := va_joinP (wr := [(h13, .inr (7, mX7 h14 h15 h16 h17 h18 h19 h20 v13)), (h20, zi k20 270 f20), (h39, zi k39 40 f39), (h40, zi k40 40 (a6_ 0))]) (rx := [(h0, .inr (1, mX1 h1 h6 h13 h21 h36 h37 h39 h40 h41 h42 h43 h44 h45 h46 h47 h48 v0)), (h36, .inl (k36, 40, .inr (.inr (.inr (.inr f36))))), (h41, zi k41 40 f41), (h31, .inl (k31, 400, .inr (.inr (.inr (.inr f31)))))]) hP hD [0, 5, 6, 7] [1, 2, 3, 4] rfl rfl (by decide) (by decide) hk1 hFc hP1 hD1
                have hP : va_P (dC, dI) vwCl ([(h0, .inr (1, mX1 h1 h6 h13 h21 h36 h37 h39 h40 h41 h42 h43 h44 h45 h46 h47 h48 v0)), (h13, .inr (7, mX7 h14 h15 h16 h17 h18 h19 h20 v13)), (h20, zi k20 270 f20), (h39, zi k39 40 f39), (h40, zi k40 40 (a6_ 0)), (h36, .inl (k36, 40, .inr (.inr (.inr (.inr f36))))), (h41, zi k41 40 f41), (h31, .inl (k31, 400, .inr (.inr (.inr (.inr f31)))))] ++ pl151_) H1 := hP.part [4, 0, 1, 2, 3, 5, 6, 7] rfl
                have hD : va_D A ([(h0, .inr (1, mX1 h1 h6 h13 h21 h36 h37 h39 h40 h41 h42 h43 h44 h45 h46 h47 h48 v0)), (h13, .inr (7, mX7 h14 h15 h16 h17 h18 h19 h20 v13)), (h20, zi k20 270 f20), (h39, zi k39 40 f39), (h40, zi k40 40 (a6_ 0)), (h36, .inl (k36, 40, .inr (.inr (.inr (.inr f36))))), (h41, zi k41 40 f41), (h31, .inl (k31, 400, .inr (.inr (.inr (.inr f31)))))] ++ pl151_) := hD.part [4, 0, 1, 2, 3, 5, 6, 7] (by decide) rfl
                generalize H1 = H at hP hS ⊢
                clear hz1
                have hot_ : zOt pl0 pl151_ := zOt_tr (show zOt pl0 pl123 from by first | assumption | exact zOt_rf) hB151_2
                refine va_zast hx hb hK hP hD hS 4 2 rfl rfl (zin_lit ⟨by omega, by omega⟩) dX1_works_154 (fun H locs hP hD hS => ?_)
                obtain ⟨f_154, e_f_154⟩ : ∃ z : Nat → Int32, z = upd (a6_ 0) (z143 : Int32).toNatClampNeg (vp_nar .boolean r151_) := ⟨_, rfl⟩
                have hP : va_P (dC, dI) vwCl ([(h0, .inr (1, mX1 h1 h6 h13 h21 h36 h37 h39 h40 h41 h42 h43 h44 h45 h46 h47 h48 v0)), (h13, .inr (7, mX7 h14 h15 h16 h17 h18 h19 h20 v13)), (h20, zi k20 270 f20), (h39, zi k39 40 f39), (h40, zi k40 40 f_154), (h36, .inl (k36, 40, .inr (.inr (.inr (.inr f36))))), (h41, zi k41 40 f41), (h31, .inl (k31, 400, .inr (.inr (.inr (.inr f31)))))] ++ pl151_) H := by rw [e_f_154]; exact hP
                have hD : va_D A ([(h0, .inr (1, mX1 h1 h6 h13 h21 h36 h37 h39 h40 h41 h42 h43 h44 h45 h46 h47 h48 v0)), (h13, .inr (7, mX7 h14 h15 h16 h17 h18 h19 h20 v13)), (h20, zi k20 270 f20), (h39, zi k39 40 f39), (h40, zi k40 40 f_154), (h36, .inl (k36, 40, .inr (.inr (.inr (.inr f36))))), (h41, zi k41 40 f41), (h31, .inl (k31, 400, .inr (.inr (.inr (.inr f31)))))] ++ pl151_) := by rw [e_f_154]; exact hD
                refine lv_goto (tgt := 200) hx hb dX1_works_155 (by decide) ?_
                obtain ⟨z200, e_z200⟩ : ∃ z : Int32, z = (u6_ 2) + Int32.ofInt 1 := ⟨_, rfl⟩
                have b_ := zadd (x := (u6_ 2)) (y := Int32.ofInt 1) rfl (show (Int32.ofInt 1).toInt = 1 from by decide) e_z200 (by omega) (by omega)
                refine lv_iinc (v := z200) (lv' := [(3, .int z200), (1, .int z134), (0, .ref h0), (2, .int (u6_ 1)), (4, .int z28), (5, .int z42)]) hx hb dX1_works_200 hl (k := 3) rfl e_z200.symm (by decide) rfl (fun ls hl => ?_)
                refine lv_goto (tgt := 6) hx hb dX1_works_203 (by decide) ?_
                have hc : va_P (dC, dI) vwCl ([(h0, .inr (1, mX1 h1 h6 h13 h21 h36 h37 h39 h40 h41 h42 h43 h44 h45 h46 h47 h48 v0)), (h13, .inr (7, mX7 h14 h15 h16 h17 h18 h19 h20 v13)), (h20, zi k20 270 f20), (h39, zi k39 40 f39), (h40, zi k40 40 f_154), (h36, .inl (k36, 40, .inr (.inr (.inr (.inr f36))))), (h41, zi k41 40 f41), (h31, .inl (k31, 400, .inr (.inr (.inr (.inr f31)))))] ++ pl151_) H ∧ va_D A ([(h0, .inr (1, mX1 h1 h6 h13 h21 h36 h37 h39 h40 h41 h42 h43 h44 h45 h46 h47 h48 v0)), (h13, .inr (7, mX7 h14 h15 h16 h17 h18 h19 h20 v13)), (h20, zi k20 270 f20), (h39, zi k39 40 f39), (h40, zi k40 40 f_154), (h36, .inl (k36, 40, .inr (.inr (.inr (.inr f36))))), (h41, zi k41 40 f41), (h31, .inl (k31, 400, .inr (.inr (.inr (.inr f31)))))] ++ pl151_) ∧ va_S A s.heap H locs ∧ lv_has ls 6 [(0, .ref h0), (1, .int z134), (2, .int (u6_ 1)), (3, .int z200)] ∧ (0 ≤ z134.toInt ∧ z134.toInt ≤ 40) ∧ ((-1) ≤ (u6_ 1).toInt ∧ (u6_ 1).toInt ≤ 39) ∧ (0 ≤ z200.toInt ∧ z200.toInt ≤ 299) ∧ (zRd h22 f31 pl151_) ∧ (zPs k41 f36 pl151_) ∧ (zOt pl0 pl151_) := ⟨hP, hD, hS, lv_sub hl [2, 1, 3, 0] rfl, (by first | with_reducible assumption | exact ⟨by omega, by omega⟩), (by first | with_reducible assumption | exact ⟨by omega, by omega⟩), (by first | with_reducible assumption | exact ⟨by omega, by omega⟩), by assumption, by assumption, by first | assumption | exact zOt_rf⟩
                exact hJ6 H locs ls (fun i => ([z134, (u6_ 1), z200] : List (Int32)).getD i 0) (fun _ => 0) (fun i => ([f_154] : List (Nat → Int32)).getD i (fun _ => 0)) (fun _ => (fun _ => 0)) ⟨(fun _ => (fun _ => none)), pl151_, hc⟩ (show (299 - z200.toInt).toNat < (299 - (u6_ 2).toInt).toNat from by omega)
        · skip
          refine lv_icmp_ne (tgt := 123) hx hb dX1_works_89 (by decide) (fun c_ => ?_) (fun c_ => ?_)
          · skip
            have b_ := zT_ne rfl zk_10 c_
            have hc : va_P (dC, dI) vwCl ([(h0, .inr (1, mX1 h1 h6 h13 h21 h36 h37 h39 h40 h41 h42 h43 h44 h45 h46 h47 h48 v0)), (h13, .inr (7, mX7 h14 h15 h16 h17 h18 h19 h20 v13)), (h20, zi k20 270 f20), (h39, zi k39 40 f39), (h40, zi k40 40 (a6_ 0)), (h36, .inl (k36, 40, .inr (.inr (.inr (.inr f36))))), (h41, zi k41 40 f41), (h31, .inl (k31, 400, .inr (.inr (.inr (.inr f31)))))] ++ pl85) H ∧ va_D A ([(h0, .inr (1, mX1 h1 h6 h13 h21 h36 h37 h39 h40 h41 h42 h43 h44 h45 h46 h47 h48 v0)), (h13, .inr (7, mX7 h14 h15 h16 h17 h18 h19 h20 v13)), (h20, zi k20 270 f20), (h39, zi k39 40 f39), (h40, zi k40 40 (a6_ 0)), (h36, .inl (k36, 40, .inr (.inr (.inr (.inr f36))))), (h41, zi k41 40 f41), (h31, .inl (k31, 400, .inr (.inr (.inr (.inr f31)))))] ++ pl85) ∧ va_S A s.heap H locs ∧ lv_has ls 6 [(0, .ref h0), (1, .int (u6_ 0)), (2, .int (u6_ 1)), (3, .int (u6_ 2)), (4, .int z28), (5, .int z42)] ∧ (zRd h22 f31 pl85) ∧ (zPs k41 f36 pl85) ∧ (zOt pl0 pl85) := ⟨hP, hD, hS, lv_sub hl [0, 1, 2, 3, 4, 5] rfl, by assumption, by assumption, by first | assumption | exact zOt_rf⟩
            exact hJ123 H locs ls (fun _ => 0) (fun _ => 0) (fun _ => (fun _ => 0)) (fun _ => (fun _ => 0)) ⟨(fun _ => (fun _ => none)), pl85, hc⟩
          · skip
            have b_ := zF_ne rfl zk_10 c_
            refine lv_iload_n hx hb dX1_works_92 rfl (lv_at hl 1 rfl) ?_
            refine lv_if_le (tgt := 123) hx hb dX1_works_93 (by decide) (fun c_ => ?_) (fun c_ => ?_)
            · skip
              have b_ := zT_le rfl zk_0 c_
              have hc : va_P (dC, dI) vwCl ([(h0, .inr (1, mX1 h1 h6 h13 h21 h36 h37 h39 h40 h41 h42 h43 h44 h45 h46 h47 h48 v0)), (h13, .inr (7, mX7 h14 h15 h16 h17 h18 h19 h20 v13)), (h20, zi k20 270 f20), (h39, zi k39 40 f39), (h40, zi k40 40 (a6_ 0)), (h36, .inl (k36, 40, .inr (.inr (.inr (.inr f36))))), (h41, zi k41 40 f41), (h31, .inl (k31, 400, .inr (.inr (.inr (.inr f31)))))] ++ pl85) H ∧ va_D A ([(h0, .inr (1, mX1 h1 h6 h13 h21 h36 h37 h39 h40 h41 h42 h43 h44 h45 h46 h47 h48 v0)), (h13, .inr (7, mX7 h14 h15 h16 h17 h18 h19 h20 v13)), (h20, zi k20 270 f20), (h39, zi k39 40 f39), (h40, zi k40 40 (a6_ 0)), (h36, .inl (k36, 40, .inr (.inr (.inr (.inr f36))))), (h41, zi k41 40 f41), (h31, .inl (k31, 400, .inr (.inr (.inr (.inr f31)))))] ++ pl85) ∧ va_S A s.heap H locs ∧ lv_has ls 6 [(0, .ref h0), (1, .int (u6_ 0)), (2, .int (u6_ 1)), (3, .int (u6_ 2)), (4, .int z28), (5, .int z42)] ∧ (zRd h22 f31 pl85) ∧ (zPs k41 f36 pl85) ∧ (zOt pl0 pl85) := ⟨hP, hD, hS, lv_sub hl [0, 1, 2, 3, 4, 5] rfl, by assumption, by assumption, by first | assumption | exact zOt_rf⟩
              exact hJ123 H locs ls (fun _ => 0) (fun _ => 0) (fun _ => (fun _ => 0)) (fun _ => (fun _ => 0)) ⟨(fun _ => (fun _ => none)), pl85, hc⟩
            · skip
              have b_ := zF_le rfl zk_0 c_
              refine lv_aload_n hx hb dX1_works_96 rfl (lv_at hl 0 rfl) ?_
              refine va_get (D := (dC, dI)) (ci := 1) (v := .ref h40) (C := RX1) (T := TX1) (N := 17) hx hb hG zuX1 hown hK hP 0 rfl rfl 7 (by decide) (hG _ zv511) (fun _ h9 => h9) rfl dX1_works_97 ?_
              refine lv_iload_n hx hb dX1_works_100 rfl (lv_at hl 1 rfl) ?_
              refine lv_iconst (v := 1) hx hb dX1_works_101 (by decide) ?_
              refine lv_isub hx hb dX1_works_102 ?_
              refine lv_topi (fun z102 e_z102 => ?_)
              have b_ := zsub rfl zk_1 e_z102 (by omega) (by omega)
              refine lv_aload_n hx hb dX1_works_103 rfl (lv_at hl 0 rfl) ?_
              refine va_get (D := (dC, dI)) (ci := 1) (v := .ref h40) (C := RX1) (T := TX1) (N := 17) hx hb hG zuX1 hown hK hP 0 rfl rfl 7 (by decide) (hG _ zv511) (fun _ h9 => h9) rfl dX1_works_104 ?_
              refine lv_iload_n hx hb dX1_works_107 rfl (lv_at hl 1 rfl) ?_
              refine lv_iconst (v := 1) hx hb dX1_works_108 (by decide) ?_
              refine lv_isub hx hb dX1_works_109 ?_
              refine lv_topi (fun z109 e_z109 => ?_)
              have b_ := zsub rfl zk_1 e_z109 (by omega) (by omega)
              refine va_zald hx hb hK hP 4 2 rfl rfl (zin_lit ⟨by omega, by omega⟩) dX1_works_110 ?_
              refine lv_topi (fun z110 e_z110 => ?_)
              refine zcutW (fun H locs ls u119_ w119_ a119_ b119_ => ∃ (q119_ : Nat → Nat → Option Nat) (pl119 : va_W), va_P (dC, dI) vwCl ([(h0, .inr (1, mX1 h1 h6 h13 h21 h36 h37 h39 h40 h41 h42 h43 h44 h45 h46 h47 h48 v0)), (h13, .inr (7, mX7 h14 h15 h16 h17 h18 h19 h20 v13)), (h20, zi k20 270 f20), (h39, zi k39 40 f39), (h40, zi k40 40 (a6_ 0)), (h36, .inl (k36, 40, .inr (.inr (.inr (.inr f36))))), (h41, zi k41 40 f41), (h31, .inl (k31, 400, .inr (.inr (.inr (.inr f31)))))] ++ pl119) H ∧ va_D A ([(h0, .inr (1, mX1 h1 h6 h13 h21 h36 h37 h39 h40 h41 h42 h43 h44 h45 h46 h47 h48 v0)), (h13, .inr (7, mX7 h14 h15 h16 h17 h18 h19 h20 v13)), (h20, zi k20 270 f20), (h39, zi k39 40 f39), (h40, zi k40 40 (a6_ 0)), (h36, .inl (k36, 40, .inr (.inr (.inr (.inr f36))))), (h41, zi k41 40 f41), (h31, .inl (k31, 400, .inr (.inr (.inr (.inr f31)))))] ++ pl119) ∧ va_S A s.heap H locs ∧ lv_has ls 6 [(0, .ref h0), (1, .int (u6_ 0)), (2, .int (u6_ 1)), (3, .int (u6_ 2)), (4, .int z28), (5, .int z42)] ∧ (0 ≤ (u119_ 0).toInt ∧ (u119_ 0).toInt ≤ 1) ∧ (zRd h22 f31 pl119) ∧ (zPs k41 f36 pl119) ∧ (zOt pl0 pl119)) (fun ls u119_ w119_ => F0 m 119 ls [.int (u119_ 0), .int z102, .ref h40]) 0 0 ?_ (fun hJ119 => ?_)
              · skip
                intro H locs ls u119_ w119_ a119_ b119_ hc
                obtain ⟨q119_, pl119, hP, hD, hS, hl, b_, hI119_0, hI119_1, hI119_2⟩ := hc
                refine va_zast hx hb hK hP hD hS 4 2 rfl rfl (zin_lit ⟨by omega, by omega⟩) dX1_works_119 (fun H locs hP hD hS => ?_)
                obtain ⟨f_119, e_f_119⟩ : ∃ z : Nat → Int32, z = upd (a6_ 0) (z102 : Int32).toNatClampNeg (vp_nar .boolean (u119_ 0)) := ⟨_, rfl⟩
                have hP : va_P (dC, dI) vwCl ([(h0, .inr (1, mX1 h1 h6 h13 h21 h36 h37 h39 h40 h41 h42 h43 h44 h45 h46 h47 h48 v0)), (h13, .inr (7, mX7 h14 h15 h16 h17 h18 h19 h20 v13)), (h20, zi k20 270 f20), (h39, zi k39 40 f39), (h40, zi k40 40 f_119), (h36, .inl (k36, 40, .inr (.inr (.inr (.inr f36))))), (h41, zi k41 40 f41), (h31, .inl (k31, 400, .inr (.inr (.inr (.inr f31)))))] ++ pl119) H := by rw [e_f_119]; exact hP
                have hD : va_D A ([(h0, .inr (1, mX1 h1 h6 h13 h21 h36 h37 h39 h40 h41 h42 h43 h44 h45 h46 h47 h48 v0)), (h13, .inr (7, mX7 h14 h15 h16 h17 h18 h19 h20 v13)), (h20, zi k20 270 f20), (h39, zi k39 40 f39), (h40, zi k40 40 f_119), (h36, .inl (k36, 40, .inr (.inr (.inr (.inr f36))))), (h41, zi k41 40 f41), (h31, .inl (k31, 400, .inr (.inr (.inr (.inr f31)))))] ++ pl119) := by rw [e_f_119]; exact hD
                refine lv_goto (tgt := 200) hx hb dX1_works_120 (by decide) ?_
                obtain ⟨z200, e_z200⟩ : ∃ z : Int32, z = (u6_ 2) + Int32.ofInt 1 := ⟨_, rfl⟩
                have b_ := zadd (x := (u6_ 2)) (y := Int32.ofInt 1) rfl (show (Int32.ofInt 1).toInt = 1 from by decide) e_z200 (by omega) (by omega)
                refine lv_iinc (v := z200) (lv' := [(3, .int z200), (0, .ref h0), (1, .int (u6_ 0)), (2, .int (u6_ 1)), (4, .int z28), (5, .int z42)]) hx hb dX1_works_200 hl (k := 3) rfl e_z200.symm (by decide) rfl (fun ls hl => ?_)
                refine lv_goto (tgt := 6) hx hb dX1_works_203 (by decide) ?_
                have hc : va_P (dC, dI) vwCl ([(h0, .inr (1, mX1 h1 h6 h13 h21 h36 h37 h39 h40 h41 h42 h43 h44 h45 h46 h47 h48 v0)), (h13, .inr (7, mX7 h14 h15 h16 h17 h18 h19 h20 v13)), (h20, zi k20 270 f20), (h39, zi k39 40 f39), (h40, zi k40 40 f_119), (h36, .inl (k36, 40, .inr (.inr (.inr (.inr f36))))), (h41, zi k41 40 f41), (h31, .inl (k31, 400, .inr (.inr (.inr (.inr f31)))))] ++ pl119) H ∧ va_D A ([(h0, .inr (1, mX1 h1 h6 h13 h21 h36 h37 h39 h40 h41 h42 h43 h44 h45 h46 h47 h48 v0)), (h13, .inr (7, mX7 h14 h15 h16 h17 h18 h19 h20 v13)), (h20, zi k20 270 f20), (h39, zi k39 40 f39), (h40, zi k40 40 f_119), (h36, .inl (k36, 40, .inr (.inr (.inr (.inr f36))))), (h41, zi k41 40 f41), (h31, .inl (k31, 400, .inr (.inr (.inr (.inr f31)))))] ++ pl119) ∧ va_S A s.heap H locs ∧ lv_has ls 6 [(0, .ref h0), (1, .int (u6_ 0)), (2, .int (u6_ 1)), (3, .int z200)] ∧ (0 ≤ (u6_ 0).toInt ∧ (u6_ 0).toInt ≤ 40) ∧ ((-1) ≤ (u6_ 1).toInt ∧ (u6_ 1).toInt ≤ 39) ∧ (0 ≤ z200.toInt ∧ z200.toInt ≤ 299) ∧ (zRd h22 f31 pl119) ∧ (zPs k41 f36 pl119) ∧ (zOt pl0 pl119) := ⟨hP, hD, hS, lv_sub hl [1, 2, 3, 0] rfl, (by first | with_reducible assumption | exact ⟨by omega, by omega⟩), (by first | with_reducible assumption | exact ⟨by omega, by omega⟩), (by first | with_reducible assumption | exact ⟨by omega, by omega⟩), by assumption, by assumption, by first | assumption | exact zOt_rf⟩
                exact hJ6 H locs ls (fun i => ([(u6_ 0), (u6_ 1), z200] : List (Int32)).getD i 0) (fun _ => 0) (fun i => ([f_119] : List (Nat → Int32)).getD i (fun _ => 0)) (fun _ => (fun _ => 0)) ⟨(fun _ => (fun _ => none)), pl119, hc⟩ (show (299 - z200.toInt).toNat < (299 - (u6_ 2).toInt).toNat from by omega)
              · skip
                have b_ : -2147483648 ≤ z110.toInt ∧ z110.toInt ≤ 2147483647 := ⟨zlo _, zhi _⟩
                refine lv_if_ne (tgt := 118) hx hb dX1_works_111 (by decide) (fun c_ => ?_) (fun c_ => ?_)
                · skip
                  have b_ := zT_ne rfl zk_0 c_
                  refine lv_iconst (v := 0) hx hb dX1_works_118 (by decide) ?_
                  have hc : va_P (dC, dI) vwCl ([(h0, .inr (1, mX1 h1 h6 h13 h21 h36 h37 h39 h40 h41 h42 h43 h44 h45 h46 h47 h48 v0)), (h13, .inr (7, mX7 h14 h15 h16 h17 h18 h19 h20 v13)), (h20, zi k20 270 f20), (h39, zi k39 40 f39), (h40, zi k40 40 (a6_ 0)), (h36, .inl (k36, 40, .inr (.inr (.inr (.inr f36))))), (h41, zi k41 40 f41), (h31, .inl (k31, 400, .inr (.inr (.inr (.inr f31)))))] ++ pl85) H ∧ va_D A ([(h0, .inr (1, mX1 h1 h6 h13 h21 h36 h37 h39 h40 h41 h42 h43 h44 h45 h46 h47 h48 v0)), (h13, .inr (7, mX7 h14 h15 h16 h17 h18 h19 h20 v13)), (h20, zi k20 270 f20), (h39, zi k39 40 f39), (h40, zi k40 40 (a6_ 0)), (h36, .inl (k36, 40, .inr (.inr (.inr (.inr f36))))), (h41, zi k41 40 f41), (h31, .inl (k31, 400, .inr (.inr (.inr (.inr f31)))))] ++ pl85) ∧ va_S A s.heap H locs ∧ lv_has ls 6 [(0, .ref h0), (1, .int (u6_ 0)), (2, .int (u6_ 1)), (3, .int (u6_ 2)), (4, .int z28), (5, .int z42)] ∧ (0 ≤ (0 : Int32).toInt ∧ (0 : Int32).toInt ≤ 1) ∧ (zRd h22 f31 pl85) ∧ (zPs k41 f36 pl85) ∧ (zOt pl0 pl85) := ⟨hP, hD, hS, lv_sub hl [0, 1, 2, 3, 4, 5] rfl, (by first | with_reducible assumption | exact ⟨by omega, by omega⟩), by assumption, by assumption, by first | assumption | exact zOt_rf⟩
                  exact hJ119 H locs ls (fun i => ([0] : List (Int32)).getD i 0) (fun _ => 0) (fun _ => (fun _ => 0)) (fun _ => (fun _ => 0)) ⟨(fun _ => (fun _ => none)), pl85, hc⟩
                · skip
                  have b_ := zF_ne rfl zk_0 c_
                  refine lv_iconst (v := 1) hx hb dX1_works_114 (by decide) ?_
                  refine lv_goto (tgt := 119) hx hb dX1_works_115 (by decide) ?_
                  have hc : va_P (dC, dI) vwCl ([(h0, .inr (1, mX1 h1 h6 h13 h21 h36 h37 h39 h40 h41 h42 h43 h44 h45 h46 h47 h48 v0)), (h13, .inr (7, mX7 h14 h15 h16 h17 h18 h19 h20 v13)), (h20, zi k20 270 f20), (h39, zi k39 40 f39), (h40, zi k40 40 (a6_ 0)), (h36, .inl (k36, 40, .inr (.inr (.inr (.inr f36))))), (h41, zi k41 40 f41), (h31, .inl (k31, 400, .inr (.inr (.inr (.inr f31)))))] ++ pl85) H ∧ va_D A ([(h0, .inr (1, mX1 h1 h6 h13 h21 h36 h37 h39 h40 h41 h42 h43 h44 h45 h46 h47 h48 v0)), (h13, .inr (7, mX7 h14 h15 h16 h17 h18 h19 h20 v13)), (h20, zi k20 270 f20), (h39, zi k39 40 f39), (h40, zi k40 40 (a6_ 0)), (h36, .inl (k36, 40, .inr (.inr (.inr (.inr f36))))), (h41, zi k41 40 f41), (h31, .inl (k31, 400, .inr (.inr (.inr (.inr f31)))))] ++ pl85) ∧ va_S A s.heap H locs ∧ lv_has ls 6 [(0, .ref h0), (1, .int (u6_ 0)), (2, .int (u6_ 1)), (3, .int (u6_ 2)), (4, .int z28), (5, .int z42)] ∧ (0 ≤ (1 : Int32).toInt ∧ (1 : Int32).toInt ≤ 1) ∧ (zRd h22 f31 pl85) ∧ (zPs k41 f36 pl85) ∧ (zOt pl0 pl85) := ⟨hP, hD, hS, lv_sub hl [0, 1, 2, 3, 4, 5] rfl, (by first | with_reducible assumption | exact ⟨by omega, by omega⟩), by assumption, by assumption, by first | assumption | exact zOt_rf⟩
                  exact hJ119 H locs ls (fun i => ([1] : List (Int32)).getD i 0) (fun _ => 0) (fun _ => (fun _ => 0)) (fun _ => (fun _ => 0)) ⟨(fun _ => (fun _ => none)), pl85, hc⟩
      · skip
        refine lv_icmp_gt (tgt := 85) hx hb dX1_works_48 (by decide) (fun c_ => ?_) (fun c_ => ?_)
        · skip
          have b_ := zT_gt rfl zk_4 c_
          have hc : va_P (dC, dI) vwCl ([(h0, .inr (1, mX1 h1 h6 h13 h21 h36 h37 h39 h40 h41 h42 h43 h44 h45 h46 h47 h48 v0)), (h13, .inr (7, mX7 h14 h15 h16 h17 h18 h19 h20 v13)), (h20, zi k20 270 f20), (h39, zi k39 40 f39), (h40, zi k40 40 (a6_ 0)), (h36, .inl (k36, 40, .inr (.inr (.inr (.inr f36))))), (h41, zi k41 40 f41), (h31, .inl (k31, 400, .inr (.inr (.inr (.inr f31)))))] ++ pl6) H ∧ va_D A ([(h0, .inr (1, mX1 h1 h6 h13 h21 h36 h37 h39 h40 h41 h42 h43 h44 h45 h46 h47 h48 v0)), (h13, .inr (7, mX7 h14 h15 h16 h17 h18 h19 h20 v13)), (h20, zi k20 270 f20), (h39, zi k39 40 f39), (h40, zi k40 40 (a6_ 0)), (h36, .inl (k36, 40, .inr (.inr (.inr (.inr f36))))), (h41, zi k41 40 f41), (h31, .inl (k31, 400, .inr (.inr (.inr (.inr f31)))))] ++ pl6) ∧ va_S A s.heap H locs ∧ lv_has ls 6 [(0, .ref h0), (1, .int (u6_ 0)), (2, .int (u6_ 1)), (3, .int (u6_ 2)), (4, .int z28), (5, .int z42)] ∧ (0 ≤ z28.toInt ∧ z28.toInt ≤ 12) ∧ (zRd h22 f31 pl6) ∧ (zPs k41 f36 pl6) ∧ (zOt pl0 pl6) := ⟨hP, hD, hS, lv_sub hl [2, 3, 4, 5, 1, 0] rfl, (by first | with_reducible assumption | exact ⟨by omega, by omega⟩), by assumption, by assumption, by first | assumption | exact zOt_rf⟩
          exact hJ85 H locs ls (fun _ => 0) (fun _ => 0) (fun _ => (fun _ => 0)) (fun _ => (fun _ => 0)) ⟨(fun _ => (fun _ => none)), pl6, hc⟩
        · skip
          have b_ := zF_gt rfl zk_4 c_
          refine lv_iload_n hx hb dX1_works_51 rfl (lv_at hl 3 rfl) ?_
          refine lv_bipush (v := 40) hx hb dX1_works_52 (by decide) ?_
          refine lv_icmp_ge (tgt := 85) hx hb dX1_works_54 (by decide) (fun c_ => ?_) (fun c_ => ?_)
          · skip
            have b_ := zT_ge rfl zk_40 c_
            have hc : va_P (dC, dI) vwCl ([(h0, .inr (1, mX1 h1 h6 h13 h21 h36 h37 h39 h40 h41 h42 h43 h44 h45 h46 h47 h48 v0)), (h13, .inr (7, mX7 h14 h15 h16 h17 h18 h19 h20 v13)), (h20, zi k20 270 f20), (h39, zi k39 40 f39), (h40, zi k40 40 (a6_ 0)), (h36, .inl (k36, 40, .inr (.inr (.inr (.inr f36))))), (h41, zi k41 40 f41), (h31, .inl (k31, 400, .inr (.inr (.inr (.inr f31)))))] ++ pl6) H ∧ va_D A ([(h0, .inr (1, mX1 h1 h6 h13 h21 h36 h37 h39 h40 h41 h42 h43 h44 h45 h46 h47 h48 v0)), (h13, .inr (7, mX7 h14 h15 h16 h17 h18 h19 h20 v13)), (h20, zi k20 270 f20), (h39, zi k39 40 f39), (h40, zi k40 40 (a6_ 0)), (h36, .inl (k36, 40, .inr (.inr (.inr (.inr f36))))), (h41, zi k41 40 f41), (h31, .inl (k31, 400, .inr (.inr (.inr (.inr f31)))))] ++ pl6) ∧ va_S A s.heap H locs ∧ lv_has ls 6 [(0, .ref h0), (1, .int (u6_ 0)), (2, .int (u6_ 1)), (3, .int (u6_ 2)), (4, .int z28), (5, .int z42)] ∧ (0 ≤ z28.toInt ∧ z28.toInt ≤ 12) ∧ (zRd h22 f31 pl6) ∧ (zPs k41 f36 pl6) ∧ (zOt pl0 pl6) := ⟨hP, hD, hS, lv_sub hl [2, 3, 4, 5, 1, 0] rfl, (by first | with_reducible assumption | exact ⟨by omega, by omega⟩), by assumption, by assumption, by first | assumption | exact zOt_rf⟩
            exact hJ85 H locs ls (fun _ => 0) (fun _ => 0) (fun _ => (fun _ => 0)) (fun _ => (fun _ => 0)) ⟨(fun _ => (fun _ => none)), pl6, hc⟩
          · skip
            have b_ := zF_ge rfl zk_40 c_
            refine lv_iload hx hb dX1_works_57 (lv_at hl 0 rfl) ?_
            refine lv_bipush (v := 40) hx hb dX1_works_59 (by decide) ?_
            refine lv_icmp_ge (tgt := 85) hx hb dX1_works_61 (by decide) (fun c_ => ?_) (fun c_ => ?_)
            · skip
              have b_ := zT_ge rfl zk_40 c_
              have hc : va_P (dC, dI) vwCl ([(h0, .inr (1, mX1 h1 h6 h13 h21 h36 h37 h39 h40 h41 h42 h43 h44 h45 h46 h47 h48 v0)), (h13, .inr (7, mX7 h14 h15 h16 h17 h18 h19 h20 v13)), (h20, zi k20 270 f20), (h39, zi k39 40 f39), (h40, zi k40 40 (a6_ 0)), (h36, .inl (k36, 40, .inr (.inr (.inr (.inr f36))))), (h41, zi k41 40 f41), (h31, .inl (k31, 400, .inr (.inr (.inr (.inr f31)))))] ++ pl6) H ∧ va_D A ([(h0, .inr (1, mX1 h1 h6 h13 h21 h36 h37 h39 h40 h41 h42 h43 h44 h45 h46 h47 h48 v0)), (h13, .inr (7, mX7 h14 h15 h16 h17 h18 h19 h20 v13)), (h20, zi k20 270 f20), (h39, zi k39 40 f39), (h40, zi k40 40 (a6_ 0)), (h36, .inl (k36, 40, .inr (.inr (.inr (.inr f36))))), (h41, zi k41 40 f41), (h31, .inl (k31, 400, .inr (.inr (.inr (.inr f31)))))] ++ pl6) ∧ va_S A s.heap H locs ∧ lv_has ls 6 [(0, .ref h0), (1, .int (u6_ 0)), (2, .int (u6_ 1)), (3, .int (u6_ 2)), (4, .int z28), (5, .int z42)] ∧ (0 ≤ z28.toInt ∧ z28.toInt ≤ 12) ∧ (zRd h22 f31 pl6) ∧ (zPs k41 f36 pl6) ∧ (zOt pl0 pl6) := ⟨hP, hD, hS, lv_sub hl [2, 3, 4, 5, 1, 0] rfl, (by first | with_reducible assumption | exact ⟨by omega, by omega⟩), by assumption, by assumption, by first | assumption | exact zOt_rf⟩
              exact hJ85 H locs ls (fun _ => 0) (fun _ => 0) (fun _ => (fun _ => 0)) (fun _ => (fun _ => 0)) ⟨(fun _ => (fun _ => none)), pl6, hc⟩
            · skip
              have b_ := zF_ge rfl zk_40 c_
              refine lv_iload hx hb dX1_works_64 (lv_at hl 0 rfl) ?_
              refine lv_istore_n (lv' := [(2, .int z42), (5, .int z42), (4, .int z28), (0, .ref h0), (1, .int (u6_ 0)), (3, .int (u6_ 2))]) hx hb dX1_works_66 rfl hl (by decide) rfl (fun ls hl => ?_)
              refine lv_aload_n hx hb dX1_works_67 rfl (lv_at hl 3 rfl) ?_
              refine va_get (D := (dC, dI)) (ci := 1) (v := .ref h40) (C := RX1) (T := TX1) (N := 17) hx hb hG zuX1 hown hK hP 0 rfl rfl 7 (by decide) (hG _ zv511) (fun _ h9 => h9) rfl dX1_works_68 ?_
              refine lv_iload_n hx hb dX1_works_71 rfl (lv_at hl 4 rfl) ?_
              refine lv_aload_n hx hb dX1_works_72 rfl (lv_at hl 3 rfl) ?_
              refine va_get (D := (dC, dI)) (ci := 1) (v := .ref h39) (C := RX1) (T := TX1) (N := 17) hx hb hG zuX1 hown hK hP 0 rfl rfl 6 (by decide) (hG _ zv510) (fun _ h9 => h9) rfl dX1_works_73 ?_
              refine lv_iload_n hx hb dX1_works_76 rfl (lv_at hl 0 rfl) ?_
              refine va_zald hx hb hK hP 3 1 rfl rfl (zin_lit ⟨by omega, by omega⟩) dX1_works_77 ?_
              refine lv_topi (fun z77 e_z77 => ?_)
              refine va_zast hx hb hK hP hD hS 4 2 rfl rfl (zin_lit ⟨by omega, by omega⟩) dX1_works_78 (fun H locs hP hD hS => ?_)
              obtain ⟨f_78, e_f_78⟩ : ∃ z : Nat → Int32, z = upd (a6_ 0) ((u6_ 0) : Int32).toNatClampNeg (vp_nar .boolean z77) := ⟨_, rfl⟩
              have hP : va_P (dC, dI) vwCl ([(h0, .inr (1, mX1 h1 h6 h13 h21 h36 h37 h39 h40 h41 h42 h43 h44 h45 h46 h47 h48 v0)), (h13, .inr (7, mX7 h14 h15 h16 h17 h18 h19 h20 v13)), (h20, zi k20 270 f20), (h39, zi k39 40 f39), (h40, zi k40 40 f_78), (h36, .inl (k36, 40, .inr (.inr (.inr (.inr f36))))), (h41, zi k41 40 f41), (h31, .inl (k31, 400, .inr (.inr (.inr (.inr f31)))))] ++ pl6) H := by rw [e_f_78]; exact hP
              have hD : va_D A ([(h0, .inr (1, mX1 h1 h6 h13 h21 h36 h37 h39 h40 h41 h42 h43 h44 h45 h46 h47 h48 v0)), (h13, .inr (7, mX7 h14 h15 h16 h17 h18 h19 h20 v13)), (h20, zi k20 270 f20), (h39, zi k39 40 f39), (h40, zi k40 40 f_78), (h36, .inl (k36, 40, .inr (.inr (.inr (.inr f36))))), (h41, zi k41 40 f41), (h31, .inl (k31, 400, .inr (.inr (.inr (.inr f31)))))] ++ pl6) := by rw [e_f_78]; exact hD
              obtain ⟨z79, e_z79⟩ : ∃ z : Int32, z = (u6_ 0) + Int32.ofInt 1 := ⟨_, rfl⟩
              have b_ := zadd (x := (u6_ 0)) (y := Int32.ofInt 1) rfl (show (Int32.ofInt 1).toInt = 1 from by decide) e_z79 (by omega) (by omega)
              refine lv_iinc (v := z79) (lv' := [(1, .int z79), (2, .int z42), (5, .int z42), (4, .int z28), (0, .ref h0), (3, .int (u6_ 2))]) hx hb dX1_works_79 hl (k := 4) rfl e_z79.symm (by decide) rfl (fun ls hl => ?_)
              refine lv_goto (tgt := 200) hx hb dX1_works_82 (by decide) ?_
              obtain ⟨z200, e_z200⟩ : ∃ z : Int32, z = (u6_ 2) + Int32.ofInt 1 := ⟨_, rfl⟩
              have b_ := zadd (x := (u6_ 2)) (y := Int32.ofInt 1) rfl (show (Int32.ofInt 1).toInt = 1 from by decide) e_z200 (by omega) (by omega)
              refine lv_iinc (v := z200) (lv' := [(3, .int z200), (1, .int z79), (2, .int z42), (5, .int z42), (4, .int z28), (0, .ref h0)]) hx hb dX1_works_200 hl (k := 5) rfl e_z200.symm (by decide) rfl (fun ls hl => ?_)
              refine lv_goto (tgt := 6) hx hb dX1_works_203 (by decide) ?_
              have hc : va_P (dC, dI) vwCl ([(h0, .inr (1, mX1 h1 h6 h13 h21 h36 h37 h39 h40 h41 h42 h43 h44 h45 h46 h47 h48 v0)), (h13, .inr (7, mX7 h14 h15 h16 h17 h18 h19 h20 v13)), (h20, zi k20 270 f20), (h39, zi k39 40 f39), (h40, zi k40 40 f_78), (h36, .inl (k36, 40, .inr (.inr (.inr (.inr f36))))), (h41, zi k41 40 f41), (h31, .inl (k31, 400, .inr (.inr (.inr (.inr f31)))))] ++ pl6) H ∧ va_D A ([(h0, .inr (1, mX1 h1 h6 h13 h21 h36 h37 h39 h40 h41 h42 h43 h44 h45 h46 h47 h48 v0)), (h13, .inr (7, mX7 h14 h15 h16 h17 h18 h19 h20 v13)), (h20, zi k20 270 f20), (h39, zi k39 40 f39), (h40, zi k40 40 f_78), (h36, .inl (k36, 40, .inr (.inr (.inr (.inr f36))))), (h41, zi k41 40 f41), (h31, .inl (k31, 400, .inr (.inr (.inr (.inr f31)))))] ++ pl6) ∧ va_S A s.heap H locs ∧ lv_has ls 6 [(0, .ref h0), (1, .int z79), (2, .int z42), (3, .int z200)] ∧ (0 ≤ z79.toInt ∧ z79.toInt ≤ 40) ∧ ((-1) ≤ z42.toInt ∧ z42.toInt ≤ 39) ∧ (0 ≤ z200.toInt ∧ z200.toInt ≤ 299) ∧ (zRd h22 f31 pl6) ∧ (zPs k41 f36 pl6) ∧ (zOt pl0 pl6) := ⟨hP, hD, hS, lv_sub hl [5, 1, 2, 0] rfl, (by first | with_reducible assumption | exact ⟨by omega, by omega⟩), (by first | with_reducible assumption | exact ⟨by omega, by omega⟩), (by first | with_reducible assumption | exact ⟨by omega, by omega⟩), by assumption, by assumption, by first | assumption | exact zOt_rf⟩
              exact hJ6 H locs ls (fun i => ([z79, z42, z200] : List (Int32)).getD i 0) (fun _ => 0) (fun i => ([f_78] : List (Nat → Int32)).getD i (fun _ => 0)) (fun _ => (fun _ => 0)) ⟨(fun _ => (fun _ => none)), pl6, hc⟩ (show (299 - z200.toInt).toNat < (299 - (u6_ 2).toInt).toNat from by omega)
  · skip
    have hc : va_P (dC, dI) vwCl ([(h0, .inr (1, mX1 h1 h6 h13 h21 h36 h37 h39 h40 h41 h42 h43 h44 h45 h46 h47 h48 v0)), (h13, .inr (7, mX7 h14 h15 h16 h17 h18 h19 h20 v13)), (h20, zi k20 270 f20), (h39, zi k39 40 f39), (h40, zi k40 40 f40), (h36, .inl (k36, 40, .inr (.inr (.inr (.inr f36))))), (h41, zi k41 40 f41), (h31, .inl (k31, 400, .inr (.inr (.inr (.inr f31)))))] ++ pl0) s.heap ∧ va_D A ([(h0, .inr (1, mX1 h1 h6 h13 h21 h36 h37 h39 h40 h41 h42 h43 h44 h45 h46 h47 h48 v0)), (h13, .inr (7, mX7 h14 h15 h16 h17 h18 h19 h20 v13)), (h20, zi k20 270 f20), (h39, zi k39 40 f39), (h40, zi k40 40 f40), (h36, .inl (k36, 40, .inr (.inr (.inr (.inr f36))))), (h41, zi k41 40 f41), (h31, .inl (k31, 400, .inr (.inr (.inr (.inr f31)))))] ++ pl0) ∧ va_S A s.heap s.heap [] ∧ lv_has ls 6 [(0, .ref h0), (1, .int 0), (2, .int (-1)), (3, .int 0)] ∧ (0 ≤ (0 : Int32).toInt ∧ (0 : Int32).toInt ≤ 40) ∧ ((-1) ≤ ((-1) : Int32).toInt ∧ ((-1) : Int32).toInt ≤ 39) ∧ (0 ≤ (0 : Int32).toInt ∧ (0 : Int32).toInt ≤ 299) ∧ (zRd h22 f31 pl0) ∧ (zPs k41 f36 pl0) ∧ (zOt pl0 pl0) := ⟨hP, hD, hS, lv_sub hl [3, 2, 1, 0] rfl, (by first | with_reducible assumption | exact ⟨by omega, by omega⟩), (by first | with_reducible assumption | exact ⟨by omega, by omega⟩), (by first | with_reducible assumption | exact ⟨by omega, by omega⟩), by assumption, by assumption, by first | assumption | exact zOt_rf⟩
    exact hJ6 s.heap [] ls (fun i => ([0, (-1), 0] : List (Int32)).getD i 0) (fun _ => 0) (fun i => ([f40] : List (Nat → Int32)).getD i (fun _ => 0)) (fun _ => (fun _ => 0)) ⟨(fun _ => (fun _ => none)), pl0, hc⟩
