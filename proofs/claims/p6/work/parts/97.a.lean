set_option maxHeartbeats 8000000 in
set_option maxRecDepth 100000 in
theorem p16_sX8_nextDocument_0 (l : Launch) (dC : Nat → ClassId) (dI : Nat → Nat → Nat) (adK adV : Nat → Nat) (h0 : Nat) (h1 : Nat) (h4 : Nat) (h3 : Nat) (h2 : Nat) (h5 : Nat) (h6 : Nat) (h7 : Nat) (h8 : Nat) (h9 : Nat) (k4 : ClassId) (k3 : ClassId) (k2 : ClassId) (k5 : ClassId) (k6 : ClassId) (k7 : ClassId) (sz : Nat) (v0 : Nat → Int32) (v1 : Nat → Int32) (f4 : Nat → Int32) (f3 : Nat → Int32) (f2 : Nat → Int32) (f5 : Nat → Int32) (f6 : Nat → Int32) (f7 : Nat → Int32) (hv1 : zR rg_Postings v1) (hf3 : zA 0 1250 f3) (hf6 : zA 0 832 f6) : Met l yX8_nextDocument (zw yX8_nextDocument cX8_nextDocument 2 (some .boolean)) { frames := 3, cells := 0, slots := 0, locals := 67 } (zPc dC dI adK adV [.ref h0] sz [(h0, .inr (8, mX8 h1 v0)), (h1, .inr (6, mX6 h2 h3 h4 h5 h6 h7 h8 h9 v1)), (h4, zi k4 833 f4), (h3, zi k3 833 f3), (h2, zi k2 1250 f2), (h5, zi k5 400 f5), (h6, zi k6 400 f6), (h7, zi k7 400 f7)] [(k4, .int), (k3, .int), (k2, .int), (k5, .int), (k6, .int), (k7, .int)]) (va_Qi (fun (r : Int32) (u : Nat → Int32) => (0 ≤ r.toInt ∧ r.toInt ≤ 1) ∧ (zNo f2 f3 f4 f5 f6 f7 (v1 8).toInt (v1 9).toInt (v1 10).toInt (v1 11).toInt (v0 1).toInt (v0 2).toInt (v0 3).toInt (v0 4).toInt (u 0).toInt (u 1).toInt (u 2).toInt (u 3).toInt (v0 7).toInt (v0 5).toInt (u 4).toInt (u 5).toInt (u 6).toInt (u 7).toInt r.toInt) ∧ (r.toInt = 0 → (u 4).toInt = 120)) (fun (u : Nat → Int32) (t : State) => ∃ (ww : Nat → Int64) (aa : Nat → Nat → Int32) (bb : Nat → Nat → Int64), va_P (dC, dI) vwCl [(h0, .inr (8, mX8 h1 (upd (upd (upd (upd (upd (upd (upd (upd v0 1 (u 0)) 2 (u 1)) 3 (u 2)) 4 (u 3)) 5 (u 4)) 6 (u 5)) 7 (u 6)) 8 (u 7)))), (h1, .inr (6, mX6 h2 h3 h4 h5 h6 h7 h8 h9 v1)), (h4, zi k4 833 f4), (h3, zi k3 833 f3), (h2, zi k2 1250 f2), (h5, zi k5 400 f5), (h6, zi k6 400 f6), (h7, zi k7 400 f7)] t.heap ∧ va_K (dC, dI) vwCl [(k4, .int), (k3, .int), (k2, .int), (k5, .int), (k6, .int), (k7, .int)] t ∧ va_D (va_A [(h0, .inr (8, mX8 h1 v0)), (h1, .inr (6, mX6 h2 h3 h4 h5 h6 h7 h8 h9 v1)), (h4, zi k4 833 f4), (h3, zi k3 833 f3), (h2, zi k2 1250 f2), (h5, zi k5 400 f5), (h6, zi k6 400 f6), (h7, zi k7 400 f7)] sz) [(h0, .inr (8, mX8 h1 (upd (upd (upd (upd (upd (upd (upd (upd v0 1 (u 0)) 2 (u 1)) 3 (u 2)) 4 (u 3)) 5 (u 4)) 6 (u 5)) 7 (u 6)) 8 (u 7)))), (h1, .inr (6, mX6 h2 h3 h4 h5 h6 h7 h8 h9 v1)), (h4, zi k4 833 f4), (h3, zi k3 833 f3), (h2, zi k2 1250 f2), (h5, zi k5 400 f5), (h6, zi k6 400 f6), (h7, zi k7 400 f7)]) (va_A [(h0, .inr (8, mX8 h1 v0)), (h1, .inr (6, mX6 h2 h3 h4 h5 h6 h7 h8 h9 v1)), (h4, zi k4 833 f4), (h3, zi k3 833 f3), (h2, zi k2 1250 f2), (h5, zi k5 400 f5), (h6, zi k6 400 f6), (h7, zi k7 400 f7)] sz)) 0 0 (va_A [(h0, .inr (8, mX8 h1 v0)), (h1, .inr (6, mX6 h2 h3 h4 h5 h6 h7 h8 h9 v1)), (h4, zi k4 833 f4), (h3, zi k3 833 f3), (h2, zi k2 1250 f2), (h5, zi k5 400 f5), (h6, zi k6 400 f6), (h7, zi k7 400 f7)] sz) := by
  refine Met.ofW (cc := cX8_nextDocument) (maxL := 2) (ret := (some .boolean)) (by decide) rfl ?_
  intro p e s m args below meth c s₁ B hml hv
  obtain ⟨rfl, hsz, hP, hK, hD0, hE, hZ⟩ := hv
  have hx := B.exec
  have hb := B.bytes
  have hr := B.returns
  have hG : ∀ w ∈ zG, w.before _ s = true := fun w h => atoms_spec (ws := (zw yX8_nextDocument cX8_nextDocument 2 (some .boolean))) B.pre w (List.mem_cons_of_mem _ h)
  have hown : s.vm.findClass RX8 = some m.cls := findClass_of_methodNamed B.named
  have hlocks := B.notSynchronized

  subst hsz
  have hD := hD0.self (sz := s.heap.size)
  generalize hAe : va_A [(h0, .inr (8, mX8 h1 v0)), (h1, .inr (6, mX6 h2 h3 h4 h5 h6 h7 h8 h9 v1)), (h4, zi k4 833 f4), (h3, zi k3 833 f3), (h2, zi k2 1250 f2), (h5, zi k5 400 f5), (h6, zi k6 400 f6), (h7, zi k7 400 f7)] s.heap.size = A at hD hZ ⊢
  have hA : ∀ q : Nat, s.heap.size ≤ q → A q := fun q h => by rw [← hAe]; exact Or.inr h
  have hS : va_S A s.heap s.heap [] := va_S.rf
  have hl := lv_entry ([.ref h0]) (n := 2) (Nat.le_of_ble_eq_true rfl)
  rw [lg_entry_eq]
  generalize (lg_sl ([.ref h0]) ++ List.replicate (2 - (lg_sl ([.ref h0])).length) Slot.unset).toArray = ls at hl ⊢
  have hl : lv_has ls 2 [(0, .ref h0)] := hl
  have b_ := zk_m1
  have b_ := zk_0
  have b_ := zk_1
  have b_ := zk_120
  have b_ : 0 ≤ (v1 8).toInt ∧ (v1 8).toInt ≤ 833 := hv1 8
  have b_ : 0 ≤ (v1 9).toInt ∧ (v1 9).toInt ≤ 1250 := hv1 9
  have b_ : -2147483648 ≤ (v1 10).toInt ∧ (v1 10).toInt ≤ 2147483647 := ⟨zlo _, zhi _⟩
  have b_ : -2147483648 ≤ (v1 11).toInt ∧ (v1 11).toInt ≤ 2147483647 := ⟨zlo _, zhi _⟩
  have b_ : -2147483648 ≤ (v0 1).toInt ∧ (v0 1).toInt ≤ 2147483647 := ⟨zlo _, zhi _⟩
  have b_ : -2147483648 ≤ (v0 2).toInt ∧ (v0 2).toInt ≤ 2147483647 := ⟨zlo _, zhi _⟩
  have b_ : -2147483648 ≤ (v0 3).toInt ∧ (v0 3).toInt ≤ 2147483647 := ⟨zlo _, zhi _⟩
  have b_ : -2147483648 ≤ (v0 4).toInt ∧ (v0 4).toInt ≤ 2147483647 := ⟨zlo _, zhi _⟩
  have b_ : -2147483648 ≤ (v0 7).toInt ∧ (v0 7).toInt ≤ 2147483647 := ⟨zlo _, zhi _⟩
  have b_ : -2147483648 ≤ (v0 5).toInt ∧ (v0 5).toInt ≤ 2147483647 := ⟨zlo _, zhi _⟩
  have b_ : -2147483648 ≤ (v0 6).toInt ∧ (v0 6).toInt ≤ 2147483647 := ⟨zlo _, zhi _⟩
  have b_ : -2147483648 ≤ (v0 8).toInt ∧ (v0 8).toInt ≤ 2147483647 := ⟨zlo _, zhi _⟩
  refine lv_aload_n hx hb dX8_nextDocument_0 rfl (lv_at hl 0 rfl) ?_
  refine va_get (D := (dC, dI)) (ci := 8) (v := .int (v0 7)) (C := RX8) (T := TX8) (N := 9) hx hb hG zuX8 hown hK hP 0 rfl rfl 7 (by decide) (hG _ zv298) (fun _ h9 => h9) rfl dX8_nextDocument_1 ?_
  refine lv_istore_n (lv' := [(1, .int (v0 7)), (0, .ref h0)]) hx hb dX8_nextDocument_4 rfl hl (by decide) rfl (fun ls hl => ?_)
  refine zcutL (fun u5_ => ((u5_ 0).toInt - (-2147483648)).toNat) (fun H locs ls u5_ w5_ a5_ b5_ => va_P (dC, dI) vwCl [(h0, .inr (8, mX8 h1 (upd (upd (upd (upd v0 1 (u5_ 1)) 2 (u5_ 2)) 3 (u5_ 3)) 4 (u5_ 4)))), (h1, .inr (6, mX6 h2 h3 h4 h5 h6 h7 h8 h9 v1)), (h4, zi k4 833 f4), (h3, zi k3 833 f3), (h2, zi k2 1250 f2), (h5, zi k5 400 f5), (h6, zi k6 400 f6), (h7, zi k7 400 f7)] H ∧ va_D A [(h0, .inr (8, mX8 h1 (upd (upd (upd (upd v0 1 (u5_ 1)) 2 (u5_ 2)) 3 (u5_ 3)) 4 (u5_ 4)))), (h1, .inr (6, mX6 h2 h3 h4 h5 h6 h7 h8 h9 v1)), (h4, zi k4 833 f4), (h3, zi k3 833 f3), (h2, zi k2 1250 f2), (h5, zi k5 400 f5), (h6, zi k6 400 f6), (h7, zi k7 400 f7)] ∧ va_S A s.heap H locs ∧ lv_has ls 2 [(0, .ref h0), (1, .int (u5_ 0))] ∧ (zNx f2 f3 f4 f5 f6 f7 (v1 8).toInt (v1 9).toInt (v1 10).toInt (v1 11).toInt (v0 1).toInt (v0 2).toInt (v0 3).toInt (v0 4).toInt (u5_ 1).toInt (u5_ 2).toInt (u5_ 3).toInt (u5_ 4).toInt (v0 7).toInt (u5_ 0).toInt)) (fun ls u5_ w5_ => F0 m 5 ls []) 0 0 ?_ (fun hJ5 => ?_)
  · skip
    intro H locs ls u5_ w5_ a5_ b5_ hc hJ5
    obtain ⟨hP, hD, hS, hl, hI5_0⟩ := hc
    refine lv_iload_n hx hb dX8_nextDocument_5 rfl (lv_at hl 1 rfl) ?_
    have b_ : -2147483648 ≤ (u5_ 0).toInt ∧ (u5_ 0).toInt ≤ 2147483647 := ⟨zlo _, zhi _⟩
    refine lv_if_le (tgt := 20) hx hb dX8_nextDocument_6 (by decide) (fun c_ => ?_) (fun c_ => ?_)
    · skip
      have b_ := zT_le rfl zk_0 c_
      refine lv_aload_n hx hb dX8_nextDocument_20 rfl (lv_at hl 0 rfl) ?_
      refine lv_iconst (v := 0) hx hb dX8_nextDocument_21 (by decide) ?_
      refine va_put (D := (dC, dI)) (ci := 8) (v := .int 0) (ty := .int) (C := RX8) (T := TX8) (N := 9) hx hb hG zuX8 tyX8 tyX8_ok nmX8 hown hK hP hD hS 0 rfl rfl 7 (by decide) (hG _ zv298) (fun _ h9 => h9) rfl (by decide +kernel) rfl rfl (Nat.le_of_ble_eq_true rfl) dX8_nextDocument_22 (fun H locs hP hD hS => ?_)
      have hP : va_P (dC, dI) vwCl [(h0, .inr (8, mX8 h1 (upd (upd (upd (upd (upd v0 1 (u5_ 1)) 2 (u5_ 2)) 3 (u5_ 3)) 4 (u5_ 4)) 7 0))), (h1, .inr (6, mX6 h2 h3 h4 h5 h6 h7 h8 h9 v1)), (h4, zi k4 833 f4), (h3, zi k3 833 f3), (h2, zi k2 1250 f2), (h5, zi k5 400 f5), (h6, zi k6 400 f6), (h7, zi k7 400 f7)] H := hP
      have hD : va_D A [(h0, .inr (8, mX8 h1 (upd (upd (upd (upd (upd v0 1 (u5_ 1)) 2 (u5_ 2)) 3 (u5_ 3)) 4 (u5_ 4)) 7 0))), (h1, .inr (6, mX6 h2 h3 h4 h5 h6 h7 h8 h9 v1)), (h4, zi k4 833 f4), (h3, zi k3 833 f3), (h2, zi k2 1250 f2), (h5, zi k5 400 f5), (h6, zi k6 400 f6), (h7, zi k7 400 f7)] := hD
      refine lv_aload_n hx hb dX8_nextDocument_25 rfl (lv_at hl 0 rfl) ?_
      refine lv_iconst (v := 0) hx hb dX8_nextDocument_26 (by decide) ?_
      refine va_put (D := (dC, dI)) (ci := 8) (v := .int 0) (ty := .int) (C := RX8) (T := TX8) (N := 9) hx hb hG zuX8 tyX8 tyX8_ok nmX8 hown hK hP hD hS 0 rfl rfl 6 (by decide) (hG _ zv297) (fun _ h9 => h9) rfl (by decide +kernel) rfl rfl (Nat.le_of_ble_eq_true rfl) dX8_nextDocument_27 (fun H locs hP hD hS => ?_)
      have hP : va_P (dC, dI) vwCl [(h0, .inr (8, mX8 h1 (upd (upd (upd (upd (upd (upd v0 1 (u5_ 1)) 2 (u5_ 2)) 3 (u5_ 3)) 4 (u5_ 4)) 6 0) 7 0))), (h1, .inr (6, mX6 h2 h3 h4 h5 h6 h7 h8 h9 v1)), (h4, zi k4 833 f4), (h3, zi k3 833 f3), (h2, zi k2 1250 f2), (h5, zi k5 400 f5), (h6, zi k6 400 f6), (h7, zi k7 400 f7)] H := hP
      have hD : va_D A [(h0, .inr (8, mX8 h1 (upd (upd (upd (upd (upd (upd v0 1 (u5_ 1)) 2 (u5_ 2)) 3 (u5_ 3)) 4 (u5_ 4)) 6 0) 7 0))), (h1, .inr (6, mX6 h2 h3 h4 h5 h6 h7 h8 h9 v1)), (h4, zi k4 833 f4), (h3, zi k3 833 f3), (h2, zi k2 1250 f2), (h5, zi k5 400 f5), (h6, zi k6 400 f6), (h7, zi k7 400 f7)] := hD
      refine lv_aload_n hx hb dX8_nextDocument_30 rfl (lv_at hl 0 rfl) ?_
      refine va_get (D := (dC, dI)) (ci := 8) (v := .int (u5_ 1)) (C := RX8) (T := TX8) (N := 9) hx hb hG zuX8 hown hK hP 0 rfl rfl 1 (by decide) (hG _ zv292) (fun _ h9 => h9) rfl dX8_nextDocument_31 ?_
      have b_ : -2147483648 ≤ (u5_ 1).toInt ∧ (u5_ 1).toInt ≤ 2147483647 := ⟨zlo _, zhi _⟩
      refine lv_if_ne (tgt := 45) hx hb dX8_nextDocument_34 (by decide) (fun c_ => ?_) (fun c_ => ?_)
      · skip
        have b_ := zT_ne rfl zk_0 c_
        refine lv_aload_n hx hb dX8_nextDocument_45 rfl (lv_at hl 0 rfl) ?_
        refine lv_dup hx hb dX8_nextDocument_46 rfl ?_
        refine va_get (D := (dC, dI)) (ci := 8) (v := .int (v0 5)) (C := RX8) (T := TX8) (N := 9) hx hb hG zuX8 hown hK hP 0 rfl rfl 5 (by decide) (hG _ zv296) (fun _ h9 => h9) rfl dX8_nextDocument_47 ?_
        refine lv_aload_n hx hb dX8_nextDocument_50 rfl (lv_at hl 0 rfl) ?_
        have b_ : -2147483648 ≤ (u5_ 2).toInt ∧ (u5_ 2).toInt ≤ 2147483647 := ⟨zlo _, zhi _⟩
        have b_ : -2147483648 ≤ (u5_ 3).toInt ∧ (u5_ 3).toInt ≤ 2147483647 := ⟨zlo _, zhi _⟩
        have b_ : -2147483648 ≤ (u5_ 4).toInt ∧ (u5_ 4).toInt ≤ 2147483647 := ⟨zlo _, zhi _⟩
        have hPc := hP.sub (ws' := [(h0, .inr (8, mX8 h1 (upd (upd (upd (upd (upd (upd v0 1 (u5_ 1)) 2 (u5_ 2)) 3 (u5_ 3)) 4 (u5_ 4)) 6 0) 7 0))), (h1, .inr (6, mX6 h2 h3 h4 h5 h6 h7 h8 h9 v1)), (h4, zi k4 833 f4), (h3, zi k3 833 f3), (h2, zi k2 1250 f2), (h5, zi k5 400 f5), (h6, zi k6 400 f6), (h7, zi k7 400 f7)]) [0, 1, 2, 3, 4, 5, 6, 7] rfl
        have hDc := hD.sub (ws' := [(h0, .inr (8, mX8 h1 (upd (upd (upd (upd (upd (upd v0 1 (u5_ 1)) 2 (u5_ 2)) 3 (u5_ 3)) 4 (u5_ 4)) 6 0) 7 0))), (h1, .inr (6, mX6 h2 h3 h4 h5 h6 h7 h8 h9 v1)), (h4, zi k4 833 f4), (h3, zi k3 833 f3), (h2, zi k2 1250 f2), (h5, zi k5 400 f5), (h6, zi k6 400 f6), (h7, zi k7 400 f7)]) [0, 1, 2, 3, 4, 5, 6, 7] (by decide) rfl
        have hKc := hK.sub (tys' := [(k4, .int), (k3, .int), (k2, .int), (k5, .int), (k6, .int), (k7, .int)]) [0, 1, 2, 3, 4, 5] rfl
        have hFc := va_free (wc := [(h0, .inr (8, mX8 h1 (upd (upd (upd (upd (upd (upd v0 1 (u5_ 1)) 2 (u5_ 2)) 3 (u5_ 3)) 4 (u5_ 4)) 6 0) 7 0))), (h1, .inr (6, mX6 h2 h3 h4 h5 h6 h7 h8 h9 v1)), (h4, zi k4 833 f4), (h3, zi k3 833 f3), (h2, zi k2 1250 f2), (h5, zi k5 400 f5), (h6, zi k6 400 f6), (h7, zi k7 400 f7)]) hD hS hA [0, 1, 2, 3, 4, 5, 6, 7] rfl
        refine va_calli (va_runV (As := []) (rest := [.int (v0 5), .ref h0]) ⟨hx, hb, hml, hown, hG⟩ (sX8_gamma_0 l dC dI adK adV h0 h1 h4 h3 h2 h5 h6 h7 h8 h9 k4 k3 k2 k5 k6 k7 H.size (upd (upd (upd (upd (upd (upd v0 1 (u5_ 1)) 2 (u5_ 2)) 3 (u5_ 3)) 4 (u5_ 4)) 6 0) 7 0) v1 f4 f3 f2 f5 f6 f7 hv1 hf3 hf6) (cwV 0 hG (zgV zv914 zv916 zv9 zv134 zv917) rfl rfl rfl (by decide +kernel) ⟨Nat.le_of_ble_eq_true rfl, Nat.le_of_ble_eq_true rfl⟩) ⟨zPc_blind, va_recv hKc hPc (ci := 8) (q0 := 0) rfl rfl, zPc_pre hPc hKc hDc hE hS hFc hZ⟩ rfl rfl hl.1 rfl (lv_room (Nat.le_of_ble_eq_true rfl)) dX8_nextDocument_51 ⟨Nat.le_of_ble_eq_true rfl, Nat.le_of_ble_eq_true rfl⟩) hS (fun q _ h => hFc q h) hFc (fun r51_ u51_ t H1 locs ht hvm hw hB hz1 hk1 hS => ?_)
        replace hw : (zGm f2 f3 f4 f5 f6 f7 (v1 8).toInt (v1 9).toInt (v1 10).toInt (v1 11).toInt (u5_ 1).toInt (u5_ 2).toInt (u5_ 3).toInt (u5_ 4).toInt (u51_ 0).toInt (u51_ 1).toInt (u51_ 2).toInt (u51_ 3).toInt r51_.toInt) := hw
        have hX51_0 := hw
        obtain ⟨w51_, a51_, b51_, hP1, hK1, hD1⟩ := hB
        rw [ht] at hP1
        obtain ⟨hP, hD⟩ := va_join (wr := []) (w1 := [(h0, .inr (8, mX8 h1 (upd (upd (upd (upd (upd (upd v0 1 (u51_ 0)) 2 (u51_ 1)) 3 (u51_ 2)) 4 (u51_ 3)) 6 0) 7 0))), (h1, .inr (6, mX6 h2 h3 h4 h5 h6 h7 h8 h9 v1)), (h4, zi k4 833 f4), (h3, zi k3 833 f3), (h2, zi k2 1250 f2), (h5, zi k5 400 f5), (h6, zi k6 400 f6), (h7, zi k7 400 f7)]) hP hD [0, 1, 2, 3, 4, 5, 6, 7] [] rfl rfl (by decide) (by decide) hk1 hFc hP1 hD1
        have hP : va_P (dC, dI) vwCl [(h0, .inr (8, mX8 h1 (upd (upd (upd (upd (upd (upd v0 1 (u51_ 0)) 2 (u51_ 1)) 3 (u51_ 2)) 4 (u51_ 3)) 6 0) 7 0))), (h1, .inr (6, mX6 h2 h3 h4 h5 h6 h7 h8 h9 v1)), (h4, zi k4 833 f4), (h3, zi k3 833 f3), (h2, zi k2 1250 f2), (h5, zi k5 400 f5), (h6, zi k6 400 f6), (h7, zi k7 400 f7)] H1 := hP.sub [0, 1, 2, 3, 4, 5, 6, 7] rfl
        have hD : va_D A [(h0, .inr (8, mX8 h1 (upd (upd (upd (upd (upd (upd v0 1 (u51_ 0)) 2 (u51_ 1)) 3 (u51_ 2)) 4 (u51_ 3)) 6 0) 7 0))), (h1, .inr (6, mX6 h2 h3 h4 h5 h6 h7 h8 h9 v1)), (h4, zi k4 833 f4), (h3, zi k3 833 f3), (h2, zi k2 1250 f2), (h5, zi k5 400 f5), (h6, zi k6 400 f6), (h7, zi k7 400 f7)] := hD.sub [0, 1, 2, 3, 4, 5, 6, 7] (by decide) rfl
        generalize H1 = H at hP hS ⊢
        clear hz1
        have b_ : -2147483648 ≤ r51_.toInt ∧ r51_.toInt ≤ 2147483647 := ⟨zlo _, zhi _⟩
        refine lv_iadd hx hb dX8_nextDocument_54 ?_
        refine lv_topi (fun z54 e_z54 => ?_)
        refine va_put (D := (dC, dI)) (ci := 8) (v := .int z54) (ty := .int) (C := RX8) (T := TX8) (N := 9) hx hb hG zuX8 tyX8 tyX8_ok nmX8 hown hK hP hD hS 0 rfl rfl 5 (by decide) (hG _ zv296) (fun _ h9 => h9) rfl (by decide +kernel) rfl rfl (Nat.le_of_ble_eq_true rfl) dX8_nextDocument_55 (fun H locs hP hD hS => ?_)
        have hP : va_P (dC, dI) vwCl [(h0, .inr (8, mX8 h1 (upd (upd (upd (upd (upd (upd (upd v0 1 (u51_ 0)) 2 (u51_ 1)) 3 (u51_ 2)) 4 (u51_ 3)) 5 z54) 6 0) 7 0))), (h1, .inr (6, mX6 h2 h3 h4 h5 h6 h7 h8 h9 v1)), (h4, zi k4 833 f4), (h3, zi k3 833 f3), (h2, zi k2 1250 f2), (h5, zi k5 400 f5), (h6, zi k6 400 f6), (h7, zi k7 400 f7)] H := hP
        have hD : va_D A [(h0, .inr (8, mX8 h1 (upd (upd (upd (upd (upd (upd (upd v0 1 (u51_ 0)) 2 (u51_ 1)) 3 (u51_ 2)) 4 (u51_ 3)) 5 z54) 6 0) 7 0))), (h1, .inr (6, mX6 h2 h3 h4 h5 h6 h7 h8 h9 v1)), (h4, zi k4 833 f4), (h3, zi k3 833 f3), (h2, zi k2 1250 f2), (h5, zi k5 400 f5), (h6, zi k6 400 f6), (h7, zi k7 400 f7)] := hD
        refine lv_aload_n hx hb dX8_nextDocument_58 rfl (lv_at hl 0 rfl) ?_
        refine lv_aload_n hx hb dX8_nextDocument_59 rfl (lv_at hl 0 rfl) ?_
        have b_ : -2147483648 ≤ (u51_ 0).toInt ∧ (u51_ 0).toInt ≤ 2147483647 := ⟨zlo _, zhi _⟩
        have b_ : -2147483648 ≤ (u51_ 1).toInt ∧ (u51_ 1).toInt ≤ 2147483647 := ⟨zlo _, zhi _⟩
        have b_ : -2147483648 ≤ (u51_ 2).toInt ∧ (u51_ 2).toInt ≤ 2147483647 := ⟨zlo _, zhi _⟩
        have b_ : -2147483648 ≤ (u51_ 3).toInt ∧ (u51_ 3).toInt ≤ 2147483647 := ⟨zlo _, zhi _⟩
        have b_ : -2147483648 ≤ z54.toInt ∧ z54.toInt ≤ 2147483647 := ⟨zlo _, zhi _⟩
        have hPc := hP.sub (ws' := [(h0, .inr (8, mX8 h1 (upd (upd (upd (upd (upd (upd (upd v0 1 (u51_ 0)) 2 (u51_ 1)) 3 (u51_ 2)) 4 (u51_ 3)) 5 z54) 6 0) 7 0))), (h1, .inr (6, mX6 h2 h3 h4 h5 h6 h7 h8 h9 v1)), (h4, zi k4 833 f4), (h3, zi k3 833 f3), (h2, zi k2 1250 f2), (h5, zi k5 400 f5), (h6, zi k6 400 f6), (h7, zi k7 400 f7)]) [0, 1, 2, 3, 4, 5, 6, 7] rfl
        have hDc := hD.sub (ws' := [(h0, .inr (8, mX8 h1 (upd (upd (upd (upd (upd (upd (upd v0 1 (u51_ 0)) 2 (u51_ 1)) 3 (u51_ 2)) 4 (u51_ 3)) 5 z54) 6 0) 7 0))), (h1, .inr (6, mX6 h2 h3 h4 h5 h6 h7 h8 h9 v1)), (h4, zi k4 833 f4), (h3, zi k3 833 f3), (h2, zi k2 1250 f2), (h5, zi k5 400 f5), (h6, zi k6 400 f6), (h7, zi k7 400 f7)]) [0, 1, 2, 3, 4, 5, 6, 7] (by decide) rfl
        have hKc := hK.sub (tys' := [(k4, .int), (k3, .int), (k2, .int), (k5, .int), (k6, .int), (k7, .int)]) [0, 1, 2, 3, 4, 5] rfl
        have hFc := va_free (wc := [(h0, .inr (8, mX8 h1 (upd (upd (upd (upd (upd (upd (upd v0 1 (u51_ 0)) 2 (u51_ 1)) 3 (u51_ 2)) 4 (u51_ 3)) 5 z54) 6 0) 7 0))), (h1, .inr (6, mX6 h2 h3 h4 h5 h6 h7 h8 h9 v1)), (h4, zi k4 833 f4), (h3, zi k3 833 f3), (h2, zi k2 1250 f2), (h5, zi k5 400 f5), (h6, zi k6 400 f6), (h7, zi k7 400 f7)]) hD hS hA [0, 1, 2, 3, 4, 5, 6, 7] rfl
        refine va_calli (va_runV (As := []) (rest := [.ref h0]) ⟨hx, hb, hml, hown, hG⟩ (sX8_gamma_0 l dC dI adK adV h0 h1 h4 h3 h2 h5 h6 h7 h8 h9 k4 k3 k2 k5 k6 k7 H.size (upd (upd (upd (upd (upd (upd (upd v0 1 (u51_ 0)) 2 (u51_ 1)) 3 (u51_ 2)) 4 (u51_ 3)) 5 z54) 6 0) 7 0) v1 f4 f3 f2 f5 f6 f7 hv1 hf3 hf6) (cwV 0 hG (zgV zv914 zv916 zv9 zv134 zv917) rfl rfl rfl (by decide +kernel) ⟨Nat.le_of_ble_eq_true rfl, Nat.le_of_ble_eq_true rfl⟩) ⟨zPc_blind, va_recv hKc hPc (ci := 8) (q0 := 0) rfl rfl, zPc_pre hPc hKc hDc hE hS hFc hZ⟩ rfl rfl hl.1 rfl (lv_room (Nat.le_of_ble_eq_true rfl)) dX8_nextDocument_60 ⟨Nat.le_of_ble_eq_true rfl, Nat.le_of_ble_eq_true rfl⟩) hS (fun q _ h => hFc q h) hFc (fun r60_ u60_ t H1 locs ht hvm hw hB hz1 hk1 hS => ?_)
        replace hw : (zGm f2 f3 f4 f5 f6 f7 (v1 8).toInt (v1 9).toInt (v1 10).toInt (v1 11).toInt (u51_ 0).toInt (u51_ 1).toInt (u51_ 2).toInt (u51_ 3).toInt (u60_ 0).toInt (u60_ 1).toInt (u60_ 2).toInt (u60_ 3).toInt r60_.toInt) := hw
        have hX60_0 := hw
        obtain ⟨w60_, a60_, b60_, hP1, hK1, hD1⟩ := hB
        rw [ht] at hP1
        obtain ⟨hP, hD⟩ := va_join (wr := []) (w1 := [(h0, .inr (8, mX8 h1 (upd (upd (upd (upd (upd (upd (upd v0 1 (u60_ 0)) 2 (u60_ 1)) 3 (u60_ 2)) 4 (u60_ 3)) 5 z54) 6 0) 7 0))), (h1, .inr (6, mX6 h2 h3 h4 h5 h6 h7 h8 h9 v1)), (h4, zi k4 833 f4), (h3, zi k3 833 f3), (h2, zi k2 1250 f2), (h5, zi k5 400 f5), (h6, zi k6 400 f6), (h7, zi k7 400 f7)]) hP hD [0, 1, 2, 3, 4, 5, 6, 7] [] rfl rfl (by decide) (by decide) hk1 hFc hP1 hD1
        have hP : va_P (dC, dI) vwCl [(h0, .inr (8, mX8 h1 (upd (upd (upd (upd (upd (upd (upd v0 1 (u60_ 0)) 2 (u60_ 1)) 3 (u60_ 2)) 4 (u60_ 3)) 5 z54) 6 0) 7 0))), (h1, .inr (6, mX6 h2 h3 h4 h5 h6 h7 h8 h9 v1)), (h4, zi k4 833 f4), (h3, zi k3 833 f3), (h2, zi k2 1250 f2), (h5, zi k5 400 f5), (h6, zi k6 400 f6), (h7, zi k7 400 f7)] H1 := hP.sub [0, 1, 2, 3, 4, 5, 6, 7] rfl
        have hD : va_D A [(h0, .inr (8, mX8 h1 (upd (upd (upd (upd (upd (upd (upd v0 1 (u60_ 0)) 2 (u60_ 1)) 3 (u60_ 2)) 4 (u60_ 3)) 5 z54) 6 0) 7 0))), (h1, .inr (6, mX6 h2 h3 h4 h5 h6 h7 h8 h9 v1)), (h4, zi k4 833 f4), (h3, zi k3 833 f3), (h2, zi k2 1250 f2), (h5, zi k5 400 f5), (h6, zi k6 400 f6), (h7, zi k7 400 f7)] := hD.sub [0, 1, 2, 3, 4, 5, 6, 7] (by decide) rfl
        generalize H1 = H at hP hS ⊢
        clear hz1
        refine va_put (D := (dC, dI)) (ci := 8) (v := .int r60_) (ty := .int) (C := RX8) (T := TX8) (N := 9) hx hb hG zuX8 tyX8 tyX8_ok nmX8 hown hK hP hD hS 0 rfl rfl 6 (by decide) (hG _ zv297) (fun _ h9 => h9) rfl (by decide +kernel) rfl rfl (Nat.le_of_ble_eq_true rfl) dX8_nextDocument_63 (fun H locs hP hD hS => ?_)
        have hP : va_P (dC, dI) vwCl [(h0, .inr (8, mX8 h1 (upd (upd (upd (upd (upd (upd (upd v0 1 (u60_ 0)) 2 (u60_ 1)) 3 (u60_ 2)) 4 (u60_ 3)) 5 z54) 6 r60_) 7 0))), (h1, .inr (6, mX6 h2 h3 h4 h5 h6 h7 h8 h9 v1)), (h4, zi k4 833 f4), (h3, zi k3 833 f3), (h2, zi k2 1250 f2), (h5, zi k5 400 f5), (h6, zi k6 400 f6), (h7, zi k7 400 f7)] H := hP
        have hD : va_D A [(h0, .inr (8, mX8 h1 (upd (upd (upd (upd (upd (upd (upd v0 1 (u60_ 0)) 2 (u60_ 1)) 3 (u60_ 2)) 4 (u60_ 3)) 5 z54) 6 r60_) 7 0))), (h1, .inr (6, mX6 h2 h3 h4 h5 h6 h7 h8 h9 v1)), (h4, zi k4 833 f4), (h3, zi k3 833 f3), (h2, zi k2 1250 f2), (h5, zi k5 400 f5), (h6, zi k6 400 f6), (h7, zi k7 400 f7)] := hD
        refine lv_aload_n hx hb dX8_nextDocument_66 rfl (lv_at hl 0 rfl) ?_
        refine lv_aload_n hx hb dX8_nextDocument_67 rfl (lv_at hl 0 rfl) ?_
        refine va_get (D := (dC, dI)) (ci := 8) (v := .int r60_) (C := RX8) (T := TX8) (N := 9) hx hb hG zuX8 hown hK hP 0 rfl rfl 6 (by decide) (hG _ zv297) (fun _ h9 => h9) rfl dX8_nextDocument_68 ?_
        refine va_put (D := (dC, dI)) (ci := 8) (v := .int r60_) (ty := .int) (C := RX8) (T := TX8) (N := 9) hx hb hG zuX8 tyX8 tyX8_ok nmX8 hown hK hP hD hS 0 rfl rfl 7 (by decide) (hG _ zv298) (fun _ h9 => h9) rfl (by decide +kernel) rfl rfl (Nat.le_of_ble_eq_true rfl) dX8_nextDocument_71 (fun H locs hP hD hS => ?_)
        have hP : va_P (dC, dI) vwCl [(h0, .inr (8, mX8 h1 (upd (upd (upd (upd (upd (upd (upd v0 1 (u60_ 0)) 2 (u60_ 1)) 3 (u60_ 2)) 4 (u60_ 3)) 5 z54) 6 r60_) 7 r60_))), (h1, .inr (6, mX6 h2 h3 h4 h5 h6 h7 h8 h9 v1)), (h4, zi k4 833 f4), (h3, zi k3 833 f3), (h2, zi k2 1250 f2), (h5, zi k5 400 f5), (h6, zi k6 400 f6), (h7, zi k7 400 f7)] H := hP
        have hD : va_D A [(h0, .inr (8, mX8 h1 (upd (upd (upd (upd (upd (upd (upd v0 1 (u60_ 0)) 2 (u60_ 1)) 3 (u60_ 2)) 4 (u60_ 3)) 5 z54) 6 r60_) 7 r60_))), (h1, .inr (6, mX6 h2 h3 h4 h5 h6 h7 h8 h9 v1)), (h4, zi k4 833 f4), (h3, zi k3 833 f3), (h2, zi k2 1250 f2), (h5, zi k5 400 f5), (h6, zi k6 400 f6), (h7, zi k7 400 f7)] := hD
        refine lv_aload_n hx hb dX8_nextDocument_74 rfl (lv_at hl 0 rfl) ?_
        refine lv_iconst (v := (-1)) hx hb dX8_nextDocument_75 (by decide) ?_
        refine va_put (D := (dC, dI)) (ci := 8) (v := .int (-1)) (ty := .int) (C := RX8) (T := TX8) (N := 9) hx hb hG zuX8 tyX8 tyX8_ok nmX8 hown hK hP hD hS 0 rfl rfl 8 (by decide) (hG _ zv299) (fun _ h9 => h9) rfl (by decide +kernel) rfl rfl (Nat.le_of_ble_eq_true rfl) dX8_nextDocument_76 (fun H locs hP hD hS => ?_)
        have hP : va_P (dC, dI) vwCl [(h0, .inr (8, mX8 h1 (upd (upd (upd (upd (upd (upd (upd (upd v0 1 (u60_ 0)) 2 (u60_ 1)) 3 (u60_ 2)) 4 (u60_ 3)) 5 z54) 6 r60_) 7 r60_) 8 (-1)))), (h1, .inr (6, mX6 h2 h3 h4 h5 h6 h7 h8 h9 v1)), (h4, zi k4 833 f4), (h3, zi k3 833 f3), (h2, zi k2 1250 f2), (h5, zi k5 400 f5), (h6, zi k6 400 f6), (h7, zi k7 400 f7)] H := hP
        have hD : va_D A [(h0, .inr (8, mX8 h1 (upd (upd (upd (upd (upd (upd (upd (upd v0 1 (u60_ 0)) 2 (u60_ 1)) 3 (u60_ 2)) 4 (u60_ 3)) 5 z54) 6 r60_) 7 r60_) 8 (-1)))), (h1, .inr (6, mX6 h2 h3 h4 h5 h6 h7 h8 h9 v1)), (h4, zi k4 833 f4), (h3, zi k3 833 f3), (h2, zi k2 1250 f2), (h5, zi k5 400 f5), (h6, zi k6 400 f6), (h7, zi k7 400 f7)] := hD
        refine lv_iconst (v := 1) hx hb dX8_nextDocument_79 (by decide) ?_
        refine W.widen (k := 0) (n := 0) (by decide) (by decide) ?_
        have b_ : -2147483648 ≤ (u60_ 0).toInt ∧ (u60_ 0).toInt ≤ 2147483647 := ⟨zlo _, zhi _⟩
        have b_ : -2147483648 ≤ (u60_ 1).toInt ∧ (u60_ 1).toInt ≤ 2147483647 := ⟨zlo _, zhi _⟩
        have b_ : -2147483648 ≤ (u60_ 2).toInt ∧ (u60_ 2).toInt ≤ 2147483647 := ⟨zlo _, zhi _⟩
        have b_ : -2147483648 ≤ (u60_ 3).toInt ∧ (u60_ 3).toInt ≤ 2147483647 := ⟨zlo _, zhi _⟩
        have b_ : -2147483648 ≤ r60_.toInt ∧ r60_.toInt ≤ 2147483647 := ⟨zlo _, zhi _⟩
        have hpost : (0 ≤ (1 : Int32).toInt ∧ (1 : Int32).toInt ≤ 1) ∧ (zNo f2 f3 f4 f5 f6 f7 (v1 8).toInt (v1 9).toInt (v1 10).toInt (v1 11).toInt (v0 1).toInt (v0 2).toInt (v0 3).toInt (v0 4).toInt (u60_ 0).toInt (u60_ 1).toInt (u60_ 2).toInt (u60_ 3).toInt (v0 7).toInt (v0 5).toInt z54.toInt r60_.toInt r60_.toInt ((-1) : Int32).toInt (1 : Int32).toInt) ∧ ((1 : Int32).toInt = 0 → z54.toInt = 120) := ⟨(by first | with_reducible assumption | exact ⟨by omega, by omega⟩), by first | exact zNo_1 hI5_0 (by omega) (by omega) hX51_0 hX60_0 e_z54 rfl rfl (by decide) (by decide) | exact zNo_z hI5_0 (by omega) (by omega) (by decide), by omega⟩
        have hP9 : va_P (dC, dI) vwCl [(h0, .inr (8, mX8 h1 (upd (upd (upd (upd (upd (upd (upd (upd v0 1 (u60_ 0)) 2 (u60_ 1)) 3 (u60_ 2)) 4 (u60_ 3)) 5 z54) 6 r60_) 7 r60_) 8 (-1)))), (h1, .inr (6, mX6 h2 h3 h4 h5 h6 h7 h8 h9 v1)), (h4, zi k4 833 f4), (h3, zi k3 833 f3), (h2, zi k2 1250 f2), (h5, zi k5 400 f5), (h6, zi k6 400 f6), (h7, zi k7 400 f7)] H := hP
        have hD9 : va_D A [(h0, .inr (8, mX8 h1 (upd (upd (upd (upd (upd (upd (upd (upd v0 1 (u60_ 0)) 2 (u60_ 1)) 3 (u60_ 2)) 4 (u60_ 3)) 5 z54) 6 r60_) 7 r60_) 8 (-1)))), (h1, .inr (6, mX6 h2 h3 h4 h5 h6 h7 h8 h9 v1)), (h4, zi k4 833 f4), (h3, zi k3 833 f3), (h2, zi k2 1250 f2), (h5, zi k5 400 f5), (h6, zi k6 400 f6), (h7, zi k7 400 f7)] := hD
        exact W.zret (v := 1) hx hb hr rfl (fun t ht hW => ⟨⟨1, (fun i => ([(u60_ 0), (u60_ 1), (u60_ 2), (u60_ 3), z54, r60_, r60_, (-1)] : List (Int32)).getD i 0), rfl, hpost, (fun _ => 0), (fun _ => (fun _ => 0)), (fun _ => (fun _ => 0)), by rw [ht]; exact hP9, va_K.moved hW.alike hK, hD9⟩, hS.F ht⟩) hS.2.2 dX8_nextDocument_80
      · skip
        have b_ := zF_ne rfl zk_0 c_
        refine lv_aload_n hx hb dX8_nextDocument_37 rfl (lv_at hl 0 rfl) ?_
        refine lv_bipush (v := 120) hx hb dX8_nextDocument_38 (by decide) ?_
        refine va_put (D := (dC, dI)) (ci := 8) (v := .int 120) (ty := .int) (C := RX8) (T := TX8) (N := 9) hx hb hG zuX8 tyX8 tyX8_ok nmX8 hown hK hP hD hS 0 rfl rfl 5 (by decide) (hG _ zv296) (fun _ h9 => h9) rfl (by decide +kernel) rfl rfl (Nat.le_of_ble_eq_true rfl) dX8_nextDocument_40 (fun H locs hP hD hS => ?_)
        have hP : va_P (dC, dI) vwCl [(h0, .inr (8, mX8 h1 (upd (upd (upd (upd (upd (upd (upd v0 1 (u5_ 1)) 2 (u5_ 2)) 3 (u5_ 3)) 4 (u5_ 4)) 5 120) 6 0) 7 0))), (h1, .inr (6, mX6 h2 h3 h4 h5 h6 h7 h8 h9 v1)), (h4, zi k4 833 f4), (h3, zi k3 833 f3), (h2, zi k2 1250 f2), (h5, zi k5 400 f5), (h6, zi k6 400 f6), (h7, zi k7 400 f7)] H := hP
        have hD : va_D A [(h0, .inr (8, mX8 h1 (upd (upd (upd (upd (upd (upd (upd v0 1 (u5_ 1)) 2 (u5_ 2)) 3 (u5_ 3)) 4 (u5_ 4)) 5 120) 6 0) 7 0))), (h1, .inr (6, mX6 h2 h3 h4 h5 h6 h7 h8 h9 v1)), (h4, zi k4 833 f4), (h3, zi k3 833 f3), (h2, zi k2 1250 f2), (h5, zi k5 400 f5), (h6, zi k6 400 f6), (h7, zi k7 400 f7)] := hD
        refine lv_iconst (v := 0) hx hb dX8_nextDocument_43 (by decide) ?_
        refine W.widen (k := 0) (n := 0) (by decide) (by decide) ?_
        have b_ : -2147483648 ≤ (u5_ 2).toInt ∧ (u5_ 2).toInt ≤ 2147483647 := ⟨zlo _, zhi _⟩
        have b_ : -2147483648 ≤ (u5_ 3).toInt ∧ (u5_ 3).toInt ≤ 2147483647 := ⟨zlo _, zhi _⟩
        have b_ : -2147483648 ≤ (u5_ 4).toInt ∧ (u5_ 4).toInt ≤ 2147483647 := ⟨zlo _, zhi _⟩
        have hpost : (0 ≤ (0 : Int32).toInt ∧ (0 : Int32).toInt ≤ 1) ∧ (zNo f2 f3 f4 f5 f6 f7 (v1 8).toInt (v1 9).toInt (v1 10).toInt (v1 11).toInt (v0 1).toInt (v0 2).toInt (v0 3).toInt (v0 4).toInt (u5_ 1).toInt (u5_ 2).toInt (u5_ 3).toInt (u5_ 4).toInt (v0 7).toInt (v0 5).toInt (120 : Int32).toInt (0 : Int32).toInt (0 : Int32).toInt (v0 8).toInt (0 : Int32).toInt) ∧ ((0 : Int32).toInt = 0 → (120 : Int32).toInt = 120) := ⟨(by first | with_reducible assumption | exact ⟨by omega, by omega⟩), by first | exact zNo_1 hI5_0 (by omega) (by omega) hX51_0 hX60_0 e_z54 rfl rfl (by decide) (by decide) | exact zNo_z hI5_0 (by omega) (by omega) (by decide), by omega⟩
        have hP9 : va_P (dC, dI) vwCl [(h0, .inr (8, mX8 h1 (upd (upd (upd (upd (upd (upd (upd (upd v0 1 (u5_ 1)) 2 (u5_ 2)) 3 (u5_ 3)) 4 (u5_ 4)) 5 120) 6 0) 7 0) 8 (v0 8)))), (h1, .inr (6, mX6 h2 h3 h4 h5 h6 h7 h8 h9 v1)), (h4, zi k4 833 f4), (h3, zi k3 833 f3), (h2, zi k2 1250 f2), (h5, zi k5 400 f5), (h6, zi k6 400 f6), (h7, zi k7 400 f7)] H := hP
        have hD9 : va_D A [(h0, .inr (8, mX8 h1 (upd (upd (upd (upd (upd (upd (upd (upd v0 1 (u5_ 1)) 2 (u5_ 2)) 3 (u5_ 3)) 4 (u5_ 4)) 5 120) 6 0) 7 0) 8 (v0 8)))), (h1, .inr (6, mX6 h2 h3 h4 h5 h6 h7 h8 h9 v1)), (h4, zi k4 833 f4), (h3, zi k3 833 f3), (h2, zi k2 1250 f2), (h5, zi k5 400 f5), (h6, zi k6 400 f6), (h7, zi k7 400 f7)] := hD
        exact W.zret (v := 0) hx hb hr rfl (fun t ht hW => ⟨⟨0, (fun i => ([(u5_ 1), (u5_ 2), (u5_ 3), (u5_ 4), 120, 0, 0, (v0 8)] : List (Int32)).getD i 0), rfl, hpost, (fun _ => 0), (fun _ => (fun _ => 0)), (fun _ => (fun _ => 0)), by rw [ht]; exact hP9, va_K.moved hW.alike hK, hD9⟩, hS.F ht⟩) hS.2.2 dX8_nextDocument_44
    · skip
      have b_ := zF_le rfl zk_0 c_
      refine lv_aload_n hx hb dX8_nextDocument_9 rfl (lv_at hl 0 rfl) ?_
      have b_ : -2147483648 ≤ (u5_ 1).toInt ∧ (u5_ 1).toInt ≤ 2147483647 := ⟨zlo _, zhi _⟩
      have b_ : -2147483648 ≤ (u5_ 2).toInt ∧ (u5_ 2).toInt ≤ 2147483647 := ⟨zlo _, zhi _⟩
      have b_ : -2147483648 ≤ (u5_ 3).toInt ∧ (u5_ 3).toInt ≤ 2147483647 := ⟨zlo _, zhi _⟩
      have b_ : -2147483648 ≤ (u5_ 4).toInt ∧ (u5_ 4).toInt ≤ 2147483647 := ⟨zlo _, zhi _⟩
      have hPc := hP.sub (ws' := [(h0, .inr (8, mX8 h1 (upd (upd (upd (upd v0 1 (u5_ 1)) 2 (u5_ 2)) 3 (u5_ 3)) 4 (u5_ 4)))), (h1, .inr (6, mX6 h2 h3 h4 h5 h6 h7 h8 h9 v1)), (h4, zi k4 833 f4), (h3, zi k3 833 f3), (h2, zi k2 1250 f2), (h5, zi k5 400 f5), (h6, zi k6 400 f6), (h7, zi k7 400 f7)]) [0, 1, 2, 3, 4, 5, 6, 7] rfl
      have hDc := hD.sub (ws' := [(h0, .inr (8, mX8 h1 (upd (upd (upd (upd v0 1 (u5_ 1)) 2 (u5_ 2)) 3 (u5_ 3)) 4 (u5_ 4)))), (h1, .inr (6, mX6 h2 h3 h4 h5 h6 h7 h8 h9 v1)), (h4, zi k4 833 f4), (h3, zi k3 833 f3), (h2, zi k2 1250 f2), (h5, zi k5 400 f5), (h6, zi k6 400 f6), (h7, zi k7 400 f7)]) [0, 1, 2, 3, 4, 5, 6, 7] (by decide) rfl
      have hKc := hK.sub (tys' := [(k4, .int), (k3, .int), (k2, .int), (k5, .int), (k6, .int), (k7, .int)]) [0, 1, 2, 3, 4, 5] rfl
      have hFc := va_free (wc := [(h0, .inr (8, mX8 h1 (upd (upd (upd (upd v0 1 (u5_ 1)) 2 (u5_ 2)) 3 (u5_ 3)) 4 (u5_ 4)))), (h1, .inr (6, mX6 h2 h3 h4 h5 h6 h7 h8 h9 v1)), (h4, zi k4 833 f4), (h3, zi k3 833 f3), (h2, zi k2 1250 f2), (h5, zi k5 400 f5), (h6, zi k6 400 f6), (h7, zi k7 400 f7)]) hD hS hA [0, 1, 2, 3, 4, 5, 6, 7] rfl
      refine va_calli (va_runV (As := []) (rest := []) ⟨hx, hb, hml, hown, hG⟩ (sX8_gamma_0 l dC dI adK adV h0 h1 h4 h3 h2 h5 h6 h7 h8 h9 k4 k3 k2 k5 k6 k7 H.size (upd (upd (upd (upd v0 1 (u5_ 1)) 2 (u5_ 2)) 3 (u5_ 3)) 4 (u5_ 4)) v1 f4 f3 f2 f5 f6 f7 hv1 hf3 hf6) (cwV 0 hG (zgV zv914 zv916 zv9 zv134 zv917) rfl rfl rfl (by decide +kernel) ⟨Nat.le_of_ble_eq_true rfl, Nat.le_of_ble_eq_true rfl⟩) ⟨zPc_blind, va_recv hKc hPc (ci := 8) (q0 := 0) rfl rfl, zPc_pre hPc hKc hDc hE hS hFc hZ⟩ rfl rfl hl.1 rfl (lv_room (Nat.le_of_ble_eq_true rfl)) dX8_nextDocument_10 ⟨Nat.le_of_ble_eq_true rfl, Nat.le_of_ble_eq_true rfl⟩) hS (fun q _ h => hFc q h) hFc (fun r10_ u10_ t H1 locs ht hvm hw hB hz1 hk1 hS => ?_)
      replace hw : (zGm f2 f3 f4 f5 f6 f7 (v1 8).toInt (v1 9).toInt (v1 10).toInt (v1 11).toInt (u5_ 1).toInt (u5_ 2).toInt (u5_ 3).toInt (u5_ 4).toInt (u10_ 0).toInt (u10_ 1).toInt (u10_ 2).toInt (u10_ 3).toInt r10_.toInt) := hw
      have hX10_0 := hw
      obtain ⟨w10_, a10_, b10_, hP1, hK1, hD1⟩ := hB
      rw [ht] at hP1
      obtain ⟨hP, hD⟩ := va_join (wr := []) (w1 := [(h0, .inr (8, mX8 h1 (upd (upd (upd (upd v0 1 (u10_ 0)) 2 (u10_ 1)) 3 (u10_ 2)) 4 (u10_ 3)))), (h1, .inr (6, mX6 h2 h3 h4 h5 h6 h7 h8 h9 v1)), (h4, zi k4 833 f4), (h3, zi k3 833 f3), (h2, zi k2 1250 f2), (h5, zi k5 400 f5), (h6, zi k6 400 f6), (h7, zi k7 400 f7)]) hP hD [0, 1, 2, 3, 4, 5, 6, 7] [] rfl rfl (by decide) (by decide) hk1 hFc hP1 hD1
      have hP : va_P (dC, dI) vwCl [(h0, .inr (8, mX8 h1 (upd (upd (upd (upd v0 1 (u10_ 0)) 2 (u10_ 1)) 3 (u10_ 2)) 4 (u10_ 3)))), (h1, .inr (6, mX6 h2 h3 h4 h5 h6 h7 h8 h9 v1)), (h4, zi k4 833 f4), (h3, zi k3 833 f3), (h2, zi k2 1250 f2), (h5, zi k5 400 f5), (h6, zi k6 400 f6), (h7, zi k7 400 f7)] H1 := hP.sub [0, 1, 2, 3, 4, 5, 6, 7] rfl
      have hD : va_D A [(h0, .inr (8, mX8 h1 (upd (upd (upd (upd v0 1 (u10_ 0)) 2 (u10_ 1)) 3 (u10_ 2)) 4 (u10_ 3)))), (h1, .inr (6, mX6 h2 h3 h4 h5 h6 h7 h8 h9 v1)), (h4, zi k4 833 f4), (h3, zi k3 833 f3), (h2, zi k2 1250 f2), (h5, zi k5 400 f5), (h6, zi k6 400 f6), (h7, zi k7 400 f7)] := hD.sub [0, 1, 2, 3, 4, 5, 6, 7] (by decide) rfl
      generalize H1 = H at hP hS ⊢
      clear hz1
      refine lv_pop hx hb dX8_nextDocument_13 rfl ?_
      obtain ⟨z14, e_z14⟩ : ∃ z : Int32, z = (u5_ 0) + Int32.ofInt (-1) := ⟨_, rfl⟩
      have b_ := zadd (x := (u5_ 0)) (y := Int32.ofInt (-1)) rfl (show (Int32.ofInt (-1)).toInt = (-1) from by decide) e_z14 (by omega) (by omega)
      refine lv_iinc (v := z14) (lv' := [(1, .int z14), (0, .ref h0)]) hx hb dX8_nextDocument_14 hl (k := 1) rfl e_z14.symm (by decide) rfl (fun ls hl => ?_)
      refine lv_goto (tgt := 5) hx hb dX8_nextDocument_17 (by decide) ?_
      have hc : va_P (dC, dI) vwCl [(h0, .inr (8, mX8 h1 (upd (upd (upd (upd v0 1 (u10_ 0)) 2 (u10_ 1)) 3 (u10_ 2)) 4 (u10_ 3)))), (h1, .inr (6, mX6 h2 h3 h4 h5 h6 h7 h8 h9 v1)), (h4, zi k4 833 f4), (h3, zi k3 833 f3), (h2, zi k2 1250 f2), (h5, zi k5 400 f5), (h6, zi k6 400 f6), (h7, zi k7 400 f7)] H ∧ va_D A [(h0, .inr (8, mX8 h1 (upd (upd (upd (upd v0 1 (u10_ 0)) 2 (u10_ 1)) 3 (u10_ 2)) 4 (u10_ 3)))), (h1, .inr (6, mX6 h2 h3 h4 h5 h6 h7 h8 h9 v1)), (h4, zi k4 833 f4), (h3, zi k3 833 f3), (h2, zi k2 1250 f2), (h5, zi k5 400 f5), (h6, zi k6 400 f6), (h7, zi k7 400 f7)] ∧ va_S A s.heap H locs ∧ lv_has ls 2 [(0, .ref h0), (1, .int z14)] ∧ (zNx f2 f3 f4 f5 f6 f7 (v1 8).toInt (v1 9).toInt (v1 10).toInt (v1 11).toInt (v0 1).toInt (v0 2).toInt (v0 3).toInt (v0 4).toInt (u10_ 0).toInt (u10_ 1).toInt (u10_ 2).toInt (u10_ 3).toInt (v0 7).toInt z14.toInt) := ⟨hP, hD, hS, lv_sub hl [1, 0] rfl, by first | exact zNx_s (by assumption) hX10_0 (by omega) (by omega) | exact zNx_0 rfl⟩
      exact hJ5 H locs ls (fun i => ([z14, (u10_ 0), (u10_ 1), (u10_ 2), (u10_ 3)] : List (Int32)).getD i 0) (fun _ => 0) (fun _ => (fun _ => 0)) (fun _ => (fun _ => 0)) hc (show (z14.toInt - (-2147483648)).toNat < ((u5_ 0).toInt - (-2147483648)).toNat from by omega)
  · skip
    have hc : va_P (dC, dI) vwCl [(h0, .inr (8, mX8 h1 (upd (upd (upd (upd v0 1 (v0 1)) 2 (v0 2)) 3 (v0 3)) 4 (v0 4)))), (h1, .inr (6, mX6 h2 h3 h4 h5 h6 h7 h8 h9 v1)), (h4, zi k4 833 f4), (h3, zi k3 833 f3), (h2, zi k2 1250 f2), (h5, zi k5 400 f5), (h6, zi k6 400 f6), (h7, zi k7 400 f7)] s.heap ∧ va_D A [(h0, .inr (8, mX8 h1 (upd (upd (upd (upd v0 1 (v0 1)) 2 (v0 2)) 3 (v0 3)) 4 (v0 4)))), (h1, .inr (6, mX6 h2 h3 h4 h5 h6 h7 h8 h9 v1)), (h4, zi k4 833 f4), (h3, zi k3 833 f3), (h2, zi k2 1250 f2), (h5, zi k5 400 f5), (h6, zi k6 400 f6), (h7, zi k7 400 f7)] ∧ va_S A s.heap s.heap [] ∧ lv_has ls 2 [(0, .ref h0), (1, .int (v0 7))] ∧ (zNx f2 f3 f4 f5 f6 f7 (v1 8).toInt (v1 9).toInt (v1 10).toInt (v1 11).toInt (v0 1).toInt (v0 2).toInt (v0 3).toInt (v0 4).toInt (v0 1).toInt (v0 2).toInt (v0 3).toInt (v0 4).toInt (v0 7).toInt (v0 7).toInt) := ⟨hP, hD, hS, lv_sub hl [1, 0] rfl, by first | exact zNx_s (by assumption) hX10_0 (by omega) (by omega) | exact zNx_0 rfl⟩
    exact hJ5 s.heap [] ls (fun i => ([(v0 7), (v0 1), (v0 2), (v0 3), (v0 4)] : List (Int32)).getD i 0) (fun _ => 0) (fun _ => (fun _ => 0)) (fun _ => (fun _ => 0)) hc
set_option maxHeartbeats 8000000 in
set_option maxRecDepth 100000 in
theorem p16_sX8_reaches_0 (l : Launch) (dC : Nat → ClassId) (dI : Nat → Nat → Nat) (adK adV : Nat → Nat) (h0 : Nat) (h1 : Nat) (h4 : Nat) (h3 : Nat) (h2 : Nat) (h5 : Nat) (h6 : Nat) (h7 : Nat) (h8 : Nat) (h9 : Nat) (k4 : ClassId) (k3 : ClassId) (k2 : ClassId) (k5 : ClassId) (k6 : ClassId) (k7 : ClassId) (sz : Nat) (v0 : Nat → Int32) (v1 : Nat → Int32) (f4 : Nat → Int32) (f3 : Nat → Int32) (f2 : Nat → Int32) (f5 : Nat → Int32) (f6 : Nat → Int32) (f7 : Nat → Int32) (x1 : Int32) (hv1 : zR rg_Postings v1) (hf3 : zA 0 1250 f3) (hf6 : zA 0 832 f6) (hx1 : 0 ≤ x1.toInt ∧ x1.toInt ≤ 119) : Met l yX8_reaches (zw yX8_reaches cX8_reaches 3 (some .boolean)) { frames := 4, cells := 0, slots := 0, locals := 88 } (zPc dC dI adK adV [.ref h0, .int x1] sz [(h0, .inr (8, mX8 h1 v0)), (h1, .inr (6, mX6 h2 h3 h4 h5 h6 h7 h8 h9 v1)), (h4, zi k4 833 f4), (h3, zi k3 833 f3), (h2, zi k2 1250 f2), (h5, zi k5 400 f5), (h6, zi k6 400 f6), (h7, zi k7 400 f7)] [(k4, .int), (k3, .int), (k2, .int), (k5, .int), (k6, .int), (k7, .int)]) (va_Qi (fun (r : Int32) (u : Nat → Int32) => (0 ≤ r.toInt ∧ r.toInt ≤ 1) ∧ (zRch f2 f3 f4 f5 f6 f7 (v1 8).toInt (v1 9).toInt (v1 10).toInt (v1 11).toInt (v0 1).toInt (v0 2).toInt (v0 3).toInt (v0 4).toInt (v0 5).toInt (v0 6).toInt (v0 7).toInt (v0 8).toInt (u 0).toInt (u 1).toInt (u 2).toInt (u 3).toInt (u 4).toInt (u 5).toInt (u 6).toInt (u 7).toInt x1.toInt r.toInt)) (fun (u : Nat → Int32) (t : State) => ∃ (ww : Nat → Int64) (aa : Nat → Nat → Int32) (bb : Nat → Nat → Int64), va_P (dC, dI) vwCl [(h0, .inr (8, mX8 h1 (upd (upd (upd (upd (upd (upd (upd (upd v0 1 (u 0)) 2 (u 1)) 3 (u 2)) 4 (u 3)) 5 (u 4)) 6 (u 5)) 7 (u 6)) 8 (u 7)))), (h1, .inr (6, mX6 h2 h3 h4 h5 h6 h7 h8 h9 v1)), (h4, zi k4 833 f4), (h3, zi k3 833 f3), (h2, zi k2 1250 f2), (h5, zi k5 400 f5), (h6, zi k6 400 f6), (h7, zi k7 400 f7)] t.heap ∧ va_K (dC, dI) vwCl [(k4, .int), (k3, .int), (k2, .int), (k5, .int), (k6, .int), (k7, .int)] t ∧ va_D (va_A [(h0, .inr (8, mX8 h1 v0)), (h1, .inr (6, mX6 h2 h3 h4 h5 h6 h7 h8 h9 v1)), (h4, zi k4 833 f4), (h3, zi k3 833 f3), (h2, zi k2 1250 f2), (h5, zi k5 400 f5), (h6, zi k6 400 f6), (h7, zi k7 400 f7)] sz) [(h0, .inr (8, mX8 h1 (upd (upd (upd (upd (upd (upd (upd (upd v0 1 (u 0)) 2 (u 1)) 3 (u 2)) 4 (u 3)) 5 (u 4)) 6 (u 5)) 7 (u 6)) 8 (u 7)))), (h1, .inr (6, mX6 h2 h3 h4 h5 h6 h7 h8 h9 v1)), (h4, zi k4 833 f4), (h3, zi k3 833 f3), (h2, zi k2 1250 f2), (h5, zi k5 400 f5), (h6, zi k6 400 f6), (h7, zi k7 400 f7)]) (va_A [(h0, .inr (8, mX8 h1 v0)), (h1, .inr (6, mX6 h2 h3 h4 h5 h6 h7 h8 h9 v1)), (h4, zi k4 833 f4), (h3, zi k3 833 f3), (h2, zi k2 1250 f2), (h5, zi k5 400 f5), (h6, zi k6 400 f6), (h7, zi k7 400 f7)] sz)) 0 0 (va_A [(h0, .inr (8, mX8 h1 v0)), (h1, .inr (6, mX6 h2 h3 h4 h5 h6 h7 h8 h9 v1)), (h4, zi k4 833 f4), (h3, zi k3 833 f3), (h2, zi k2 1250 f2), (h5, zi k5 400 f5), (h6, zi k6 400 f6), (h7, zi k7 400 f7)] sz) := by
  refine Met.ofW (cc := cX8_reaches) (maxL := 3) (ret := (some .boolean)) (by decide) rfl ?_
  intro p e s m args below meth c s₁ B hml hv
  obtain ⟨rfl, hsz, hP, hK, hD0, hE, hZ⟩ := hv
  have hx := B.exec
  have hb := B.bytes
  have hr := B.returns
  have hG : ∀ w ∈ zG, w.before _ s = true := fun w h => atoms_spec (ws := (zw yX8_reaches cX8_reaches 3 (some .boolean))) B.pre w (List.mem_cons_of_mem _ h)
  have hown : s.vm.findClass RX8 = some m.cls := findClass_of_methodNamed B.named
  have hlocks := B.notSynchronized

  subst hsz
  have hD := hD0.self (sz := s.heap.size)
  generalize hAe : va_A [(h0, .inr (8, mX8 h1 v0)), (h1, .inr (6, mX6 h2 h3 h4 h5 h6 h7 h8 h9 v1)), (h4, zi k4 833 f4), (h3, zi k3 833 f3), (h2, zi k2 1250 f2), (h5, zi k5 400 f5), (h6, zi k6 400 f6), (h7, zi k7 400 f7)] s.heap.size = A at hD hZ ⊢
  have hA : ∀ q : Nat, s.heap.size ≤ q → A q := fun q h => by rw [← hAe]; exact Or.inr h
  have hS : va_S A s.heap s.heap [] := va_S.rf
  have hl := lv_entry ([.ref h0, .int x1]) (n := 3) (Nat.le_of_ble_eq_true rfl)
  rw [lg_entry_eq]
  generalize (lg_sl ([.ref h0, .int x1]) ++ List.replicate (3 - (lg_sl ([.ref h0, .int x1])).length) Slot.unset).toArray = ls at hl ⊢
  have hl : lv_has ls 3 [(0, .ref h0), (1, .int x1)] := hl
  have b_ := zk_0
  have b_ := zk_1
  have b_ : 0 ≤ (v1 8).toInt ∧ (v1 8).toInt ≤ 833 := hv1 8
  have b_ : 0 ≤ (v1 9).toInt ∧ (v1 9).toInt ≤ 1250 := hv1 9
  have b_ : -2147483648 ≤ (v1 10).toInt ∧ (v1 10).toInt ≤ 2147483647 := ⟨zlo _, zhi _⟩
  have b_ : -2147483648 ≤ (v1 11).toInt ∧ (v1 11).toInt ≤ 2147483647 := ⟨zlo _, zhi _⟩
  have b_ : -2147483648 ≤ (v0 1).toInt ∧ (v0 1).toInt ≤ 2147483647 := ⟨zlo _, zhi _⟩
  have b_ : -2147483648 ≤ (v0 2).toInt ∧ (v0 2).toInt ≤ 2147483647 := ⟨zlo _, zhi _⟩
  have b_ : -2147483648 ≤ (v0 3).toInt ∧ (v0 3).toInt ≤ 2147483647 := ⟨zlo _, zhi _⟩
  have b_ : -2147483648 ≤ (v0 4).toInt ∧ (v0 4).toInt ≤ 2147483647 := ⟨zlo _, zhi _⟩
  have b_ : -2147483648 ≤ (v0 5).toInt ∧ (v0 5).toInt ≤ 2147483647 := ⟨zlo _, zhi _⟩
  have b_ : -2147483648 ≤ (v0 6).toInt ∧ (v0 6).toInt ≤ 2147483647 := ⟨zlo _, zhi _⟩
  have b_ : -2147483648 ≤ (v0 7).toInt ∧ (v0 7).toInt ≤ 2147483647 := ⟨zlo _, zhi _⟩
  have b_ : -2147483648 ≤ (v0 8).toInt ∧ (v0 8).toInt ≤ 2147483647 := ⟨zlo _, zhi _⟩
  refine lv_iconst (v := 0) hx hb dX8_reaches_0 (by decide) ?_
  refine lv_istore_n (lv' := [(2, .int 0), (0, .ref h0), (1, .int x1)]) hx hb dX8_reaches_1 rfl hl (by decide) rfl (fun ls hl => ?_)
  refine zcutL (fun u2_ => (120 - (u2_ 0).toInt).toNat) (fun H locs ls u2_ w2_ a2_ b2_ => va_P (dC, dI) vwCl [(h0, .inr (8, mX8 h1 (upd (upd (upd (upd (upd (upd (upd (upd v0 1 (u2_ 1)) 2 (u2_ 2)) 3 (u2_ 3)) 4 (u2_ 4)) 5 (u2_ 5)) 6 (u2_ 6)) 7 (u2_ 7)) 8 (u2_ 8)))), (h1, .inr (6, mX6 h2 h3 h4 h5 h6 h7 h8 h9 v1)), (h4, zi k4 833 f4), (h3, zi k3 833 f3), (h2, zi k2 1250 f2), (h5, zi k5 400 f5), (h6, zi k6 400 f6), (h7, zi k7 400 f7)] H ∧ va_D A [(h0, .inr (8, mX8 h1 (upd (upd (upd (upd (upd (upd (upd (upd v0 1 (u2_ 1)) 2 (u2_ 2)) 3 (u2_ 3)) 4 (u2_ 4)) 5 (u2_ 5)) 6 (u2_ 6)) 7 (u2_ 7)) 8 (u2_ 8)))), (h1, .inr (6, mX6 h2 h3 h4 h5 h6 h7 h8 h9 v1)), (h4, zi k4 833 f4), (h3, zi k3 833 f3), (h2, zi k2 1250 f2), (h5, zi k5 400 f5), (h6, zi k6 400 f6), (h7, zi k7 400 f7)] ∧ va_S A s.heap H locs ∧ lv_has ls 3 [(0, .ref h0), (1, .int x1), (2, .int (u2_ 0))] ∧ (0 ≤ (u2_ 0).toInt ∧ (u2_ 0).toInt ≤ 120) ∧ (zRa f2 f3 f4 f5 f6 f7 (v1 8).toInt (v1 9).toInt (v1 10).toInt (v1 11).toInt (v0 1).toInt (v0 2).toInt (v0 3).toInt (v0 4).toInt (v0 5).toInt (v0 6).toInt (v0 7).toInt (v0 8).toInt (u2_ 1).toInt (u2_ 2).toInt (u2_ 3).toInt (u2_ 4).toInt (u2_ 5).toInt (u2_ 6).toInt (u2_ 7).toInt (u2_ 8).toInt x1.toInt (u2_ 0).toInt) ∧ (0 ≤ (u2_ 0).toInt)) (fun ls u2_ w2_ => F0 m 2 ls []) 0 0 ?_ (fun hJ2 => ?_)
  · skip
    intro H locs ls u2_ w2_ a2_ b2_ hc hJ2
    obtain ⟨hP, hD, hS, hl, b_, hI2_0, b_⟩ := hc
    refine lv_iload_n hx hb dX8_reaches_2 rfl (lv_at hl 2 rfl) ?_
    refine lv_bipush (v := 120) hx hb dX8_reaches_3 (by decide) ?_
    refine lv_icmp_ge (tgt := 27) hx hb dX8_reaches_5 (by decide) (fun c_ => ?_) (fun c_ => ?_)
    · skip
      have b_ := zT_ge rfl zk_120 c_
      refine lv_aload_n hx hb dX8_reaches_27 rfl (lv_at hl 0 rfl) ?_
      refine va_get (D := (dC, dI)) (ci := 8) (v := .int (u2_ 5)) (C := RX8) (T := TX8) (N := 9) hx hb hG zuX8 hown hK hP 0 rfl rfl 5 (by decide) (hG _ zv296) (fun _ h9 => h9) rfl dX8_reaches_28 ?_
      refine lv_iload_n hx hb dX8_reaches_31 rfl (lv_at hl 1 rfl) ?_
      have b_ : -2147483648 ≤ (u2_ 5).toInt ∧ (u2_ 5).toInt ≤ 2147483647 := ⟨zlo _, zhi _⟩
      refine lv_icmp_ne (tgt := 39) hx hb dX8_reaches_32 (by decide) (fun c_ => ?_) (fun c_ => ?_)
      · skip
        have b_ := zT_ne rfl rfl c_
        refine lv_iconst (v := 0) hx hb dX8_reaches_39 (by decide) ?_
        refine W.widen (k := 0) (n := 0) (by decide) (by decide) ?_
        have b_ : -2147483648 ≤ (u2_ 1).toInt ∧ (u2_ 1).toInt ≤ 2147483647 := ⟨zlo _, zhi _⟩
        have b_ : -2147483648 ≤ (u2_ 2).toInt ∧ (u2_ 2).toInt ≤ 2147483647 := ⟨zlo _, zhi _⟩
        have b_ : -2147483648 ≤ (u2_ 3).toInt ∧ (u2_ 3).toInt ≤ 2147483647 := ⟨zlo _, zhi _⟩
        have b_ : -2147483648 ≤ (u2_ 4).toInt ∧ (u2_ 4).toInt ≤ 2147483647 := ⟨zlo _, zhi _⟩
        have b_ : -2147483648 ≤ (u2_ 6).toInt ∧ (u2_ 6).toInt ≤ 2147483647 := ⟨zlo _, zhi _⟩
        have b_ : -2147483648 ≤ (u2_ 7).toInt ∧ (u2_ 7).toInt ≤ 2147483647 := ⟨zlo _, zhi _⟩
        have b_ : -2147483648 ≤ (u2_ 8).toInt ∧ (u2_ 8).toInt ≤ 2147483647 := ⟨zlo _, zhi _⟩
        have hpost : (0 ≤ (0 : Int32).toInt ∧ (0 : Int32).toInt ≤ 1) ∧ (zRch f2 f3 f4 f5 f6 f7 (v1 8).toInt (v1 9).toInt (v1 10).toInt (v1 11).toInt (v0 1).toInt (v0 2).toInt (v0 3).toInt (v0 4).toInt (v0 5).toInt (v0 6).toInt (v0 7).toInt (v0 8).toInt (u2_ 1).toInt (u2_ 2).toInt (u2_ 3).toInt (u2_ 4).toInt (u2_ 5).toInt (u2_ 6).toInt (u2_ 7).toInt (u2_ 8).toInt x1.toInt (0 : Int32).toInt) := ⟨(by first | with_reducible assumption | exact ⟨by omega, by omega⟩), by exact zRch_e hI2_0 (by omega) (by omega) (by omega) (by omega)⟩
        have hP9 : va_P (dC, dI) vwCl [(h0, .inr (8, mX8 h1 (upd (upd (upd (upd (upd (upd (upd (upd v0 1 (u2_ 1)) 2 (u2_ 2)) 3 (u2_ 3)) 4 (u2_ 4)) 5 (u2_ 5)) 6 (u2_ 6)) 7 (u2_ 7)) 8 (u2_ 8)))), (h1, .inr (6, mX6 h2 h3 h4 h5 h6 h7 h8 h9 v1)), (h4, zi k4 833 f4), (h3, zi k3 833 f3), (h2, zi k2 1250 f2), (h5, zi k5 400 f5), (h6, zi k6 400 f6), (h7, zi k7 400 f7)] H := hP
        have hD9 : va_D A [(h0, .inr (8, mX8 h1 (upd (upd (upd (upd (upd (upd (upd (upd v0 1 (u2_ 1)) 2 (u2_ 2)) 3 (u2_ 3)) 4 (u2_ 4)) 5 (u2_ 5)) 6 (u2_ 6)) 7 (u2_ 7)) 8 (u2_ 8)))), (h1, .inr (6, mX6 h2 h3 h4 h5 h6 h7 h8 h9 v1)), (h4, zi k4 833 f4), (h3, zi k3 833 f3), (h2, zi k2 1250 f2), (h5, zi k5 400 f5), (h6, zi k6 400 f6), (h7, zi k7 400 f7)] := hD
        exact W.zret (v := 0) hx hb hr rfl (fun t ht hW => ⟨⟨0, (fun i => ([(u2_ 1), (u2_ 2), (u2_ 3), (u2_ 4), (u2_ 5), (u2_ 6), (u2_ 7), (u2_ 8)] : List (Int32)).getD i 0), rfl, hpost, (fun _ => 0), (fun _ => (fun _ => 0)), (fun _ => (fun _ => 0)), by rw [ht]; exact hP9, va_K.moved hW.alike hK, hD9⟩, hS.F ht⟩) hS.2.2 dX8_reaches_40
      · skip
        have b_ := zF_ne rfl rfl c_
        refine lv_iconst (v := 1) hx hb dX8_reaches_35 (by decide) ?_
        refine lv_goto (tgt := 40) hx hb dX8_reaches_36 (by decide) ?_
        refine W.widen (k := 0) (n := 0) (by decide) (by decide) ?_
        have b_ : -2147483648 ≤ (u2_ 1).toInt ∧ (u2_ 1).toInt ≤ 2147483647 := ⟨zlo _, zhi _⟩
        have b_ : -2147483648 ≤ (u2_ 2).toInt ∧ (u2_ 2).toInt ≤ 2147483647 := ⟨zlo _, zhi _⟩
        have b_ : -2147483648 ≤ (u2_ 3).toInt ∧ (u2_ 3).toInt ≤ 2147483647 := ⟨zlo _, zhi _⟩
        have b_ : -2147483648 ≤ (u2_ 4).toInt ∧ (u2_ 4).toInt ≤ 2147483647 := ⟨zlo _, zhi _⟩
        have b_ : -2147483648 ≤ (u2_ 6).toInt ∧ (u2_ 6).toInt ≤ 2147483647 := ⟨zlo _, zhi _⟩
        have b_ : -2147483648 ≤ (u2_ 7).toInt ∧ (u2_ 7).toInt ≤ 2147483647 := ⟨zlo _, zhi _⟩
        have b_ : -2147483648 ≤ (u2_ 8).toInt ∧ (u2_ 8).toInt ≤ 2147483647 := ⟨zlo _, zhi _⟩
        have hpost : (0 ≤ (1 : Int32).toInt ∧ (1 : Int32).toInt ≤ 1) ∧ (zRch f2 f3 f4 f5 f6 f7 (v1 8).toInt (v1 9).toInt (v1 10).toInt (v1 11).toInt (v0 1).toInt (v0 2).toInt (v0 3).toInt (v0 4).toInt (v0 5).toInt (v0 6).toInt (v0 7).toInt (v0 8).toInt (u2_ 1).toInt (u2_ 2).toInt (u2_ 3).toInt (u2_ 4).toInt (u2_ 5).toInt (u2_ 6).toInt (u2_ 7).toInt (u2_ 8).toInt x1.toInt (1 : Int32).toInt) := ⟨(by first | with_reducible assumption | exact ⟨by omega, by omega⟩), by exact zRch_e hI2_0 (by omega) (by omega) (by omega) (by omega)⟩
        have hP9 : va_P (dC, dI) vwCl [(h0, .inr (8, mX8 h1 (upd (upd (upd (upd (upd (upd (upd (upd v0 1 (u2_ 1)) 2 (u2_ 2)) 3 (u2_ 3)) 4 (u2_ 4)) 5 (u2_ 5)) 6 (u2_ 6)) 7 (u2_ 7)) 8 (u2_ 8)))), (h1, .inr (6, mX6 h2 h3 h4 h5 h6 h7 h8 h9 v1)), (h4, zi k4 833 f4), (h3, zi k3 833 f3), (h2, zi k2 1250 f2), (h5, zi k5 400 f5), (h6, zi k6 400 f6), (h7, zi k7 400 f7)] H := hP
        have hD9 : va_D A [(h0, .inr (8, mX8 h1 (upd (upd (upd (upd (upd (upd (upd (upd v0 1 (u2_ 1)) 2 (u2_ 2)) 3 (u2_ 3)) 4 (u2_ 4)) 5 (u2_ 5)) 6 (u2_ 6)) 7 (u2_ 7)) 8 (u2_ 8)))), (h1, .inr (6, mX6 h2 h3 h4 h5 h6 h7 h8 h9 v1)), (h4, zi k4 833 f4), (h3, zi k3 833 f3), (h2, zi k2 1250 f2), (h5, zi k5 400 f5), (h6, zi k6 400 f6), (h7, zi k7 400 f7)] := hD
        exact W.zret (v := 1) hx hb hr rfl (fun t ht hW => ⟨⟨1, (fun i => ([(u2_ 1), (u2_ 2), (u2_ 3), (u2_ 4), (u2_ 5), (u2_ 6), (u2_ 7), (u2_ 8)] : List (Int32)).getD i 0), rfl, hpost, (fun _ => 0), (fun _ => (fun _ => 0)), (fun _ => (fun _ => 0)), by rw [ht]; exact hP9, va_K.moved hW.alike hK, hD9⟩, hS.F ht⟩) hS.2.2 dX8_reaches_40
    · skip
      have b_ := zF_ge rfl zk_120 c_
      refine lv_aload_n hx hb dX8_reaches_8 rfl (lv_at hl 0 rfl) ?_
      refine va_get (D := (dC, dI)) (ci := 8) (v := .int (u2_ 5)) (C := RX8) (T := TX8) (N := 9) hx hb hG zuX8 hown hK hP 0 rfl rfl 5 (by decide) (hG _ zv296) (fun _ h9 => h9) rfl dX8_reaches_9 ?_
      refine lv_iload_n hx hb dX8_reaches_12 rfl (lv_at hl 1 rfl) ?_
      have b_ : -2147483648 ≤ (u2_ 5).toInt ∧ (u2_ 5).toInt ≤ 2147483647 := ⟨zlo _, zhi _⟩
      refine lv_icmp_ge (tgt := 27) hx hb dX8_reaches_13 (by decide) (fun c_ => ?_) (fun c_ => ?_)
      · skip
        have b_ := zT_ge rfl rfl c_
        refine lv_aload_n hx hb dX8_reaches_27 rfl (lv_at hl 0 rfl) ?_
        refine va_get (D := (dC, dI)) (ci := 8) (v := .int (u2_ 5)) (C := RX8) (T := TX8) (N := 9) hx hb hG zuX8 hown hK hP 0 rfl rfl 5 (by decide) (hG _ zv296) (fun _ h9 => h9) rfl dX8_reaches_28 ?_
        refine lv_iload_n hx hb dX8_reaches_31 rfl (lv_at hl 1 rfl) ?_
        refine lv_icmp_ne (tgt := 39) hx hb dX8_reaches_32 (by decide) (fun c_ => ?_) (fun c_ => ?_)
        · skip
          have b_ := zT_ne rfl rfl c_
          refine lv_iconst (v := 0) hx hb dX8_reaches_39 (by decide) ?_
          refine W.widen (k := 0) (n := 0) (by decide) (by decide) ?_
          have b_ : -2147483648 ≤ (u2_ 1).toInt ∧ (u2_ 1).toInt ≤ 2147483647 := ⟨zlo _, zhi _⟩
          have b_ : -2147483648 ≤ (u2_ 2).toInt ∧ (u2_ 2).toInt ≤ 2147483647 := ⟨zlo _, zhi _⟩
          have b_ : -2147483648 ≤ (u2_ 3).toInt ∧ (u2_ 3).toInt ≤ 2147483647 := ⟨zlo _, zhi _⟩
          have b_ : -2147483648 ≤ (u2_ 4).toInt ∧ (u2_ 4).toInt ≤ 2147483647 := ⟨zlo _, zhi _⟩
          have b_ : -2147483648 ≤ (u2_ 6).toInt ∧ (u2_ 6).toInt ≤ 2147483647 := ⟨zlo _, zhi _⟩
          have b_ : -2147483648 ≤ (u2_ 7).toInt ∧ (u2_ 7).toInt ≤ 2147483647 := ⟨zlo _, zhi _⟩
          have b_ : -2147483648 ≤ (u2_ 8).toInt ∧ (u2_ 8).toInt ≤ 2147483647 := ⟨zlo _, zhi _⟩
          have hpost : (0 ≤ (0 : Int32).toInt ∧ (0 : Int32).toInt ≤ 1) ∧ (zRch f2 f3 f4 f5 f6 f7 (v1 8).toInt (v1 9).toInt (v1 10).toInt (v1 11).toInt (v0 1).toInt (v0 2).toInt (v0 3).toInt (v0 4).toInt (v0 5).toInt (v0 6).toInt (v0 7).toInt (v0 8).toInt (u2_ 1).toInt (u2_ 2).toInt (u2_ 3).toInt (u2_ 4).toInt (u2_ 5).toInt (u2_ 6).toInt (u2_ 7).toInt (u2_ 8).toInt x1.toInt (0 : Int32).toInt) := ⟨(by first | with_reducible assumption | exact ⟨by omega, by omega⟩), by exact zRch_e hI2_0 (by omega) (by omega) (by omega) (by omega)⟩
          have hP9 : va_P (dC, dI) vwCl [(h0, .inr (8, mX8 h1 (upd (upd (upd (upd (upd (upd (upd (upd v0 1 (u2_ 1)) 2 (u2_ 2)) 3 (u2_ 3)) 4 (u2_ 4)) 5 (u2_ 5)) 6 (u2_ 6)) 7 (u2_ 7)) 8 (u2_ 8)))), (h1, .inr (6, mX6 h2 h3 h4 h5 h6 h7 h8 h9 v1)), (h4, zi k4 833 f4), (h3, zi k3 833 f3), (h2, zi k2 1250 f2), (h5, zi k5 400 f5), (h6, zi k6 400 f6), (h7, zi k7 400 f7)] H := hP
          have hD9 : va_D A [(h0, .inr (8, mX8 h1 (upd (upd (upd (upd (upd (upd (upd (upd v0 1 (u2_ 1)) 2 (u2_ 2)) 3 (u2_ 3)) 4 (u2_ 4)) 5 (u2_ 5)) 6 (u2_ 6)) 7 (u2_ 7)) 8 (u2_ 8)))), (h1, .inr (6, mX6 h2 h3 h4 h5 h6 h7 h8 h9 v1)), (h4, zi k4 833 f4), (h3, zi k3 833 f3), (h2, zi k2 1250 f2), (h5, zi k5 400 f5), (h6, zi k6 400 f6), (h7, zi k7 400 f7)] := hD
          exact W.zret (v := 0) hx hb hr rfl (fun t ht hW => ⟨⟨0, (fun i => ([(u2_ 1), (u2_ 2), (u2_ 3), (u2_ 4), (u2_ 5), (u2_ 6), (u2_ 7), (u2_ 8)] : List (Int32)).getD i 0), rfl, hpost, (fun _ => 0), (fun _ => (fun _ => 0)), (fun _ => (fun _ => 0)), by rw [ht]; exact hP9, va_K.moved hW.alike hK, hD9⟩, hS.F ht⟩) hS.2.2 dX8_reaches_40
        · skip
          have b_ := zF_ne rfl rfl c_
          refine lv_iconst (v := 1) hx hb dX8_reaches_35 (by decide) ?_
          refine lv_goto (tgt := 40) hx hb dX8_reaches_36 (by decide) ?_
          refine W.widen (k := 0) (n := 0) (by decide) (by decide) ?_
          have b_ : -2147483648 ≤ (u2_ 1).toInt ∧ (u2_ 1).toInt ≤ 2147483647 := ⟨zlo _, zhi _⟩
          have b_ : -2147483648 ≤ (u2_ 2).toInt ∧ (u2_ 2).toInt ≤ 2147483647 := ⟨zlo _, zhi _⟩
          have b_ : -2147483648 ≤ (u2_ 3).toInt ∧ (u2_ 3).toInt ≤ 2147483647 := ⟨zlo _, zhi _⟩
          have b_ : -2147483648 ≤ (u2_ 4).toInt ∧ (u2_ 4).toInt ≤ 2147483647 := ⟨zlo _, zhi _⟩
          have b_ : -2147483648 ≤ (u2_ 6).toInt ∧ (u2_ 6).toInt ≤ 2147483647 := ⟨zlo _, zhi _⟩
          have b_ : -2147483648 ≤ (u2_ 7).toInt ∧ (u2_ 7).toInt ≤ 2147483647 := ⟨zlo _, zhi _⟩
          have b_ : -2147483648 ≤ (u2_ 8).toInt ∧ (u2_ 8).toInt ≤ 2147483647 := ⟨zlo _, zhi _⟩
          have hpost : (0 ≤ (1 : Int32).toInt ∧ (1 : Int32).toInt ≤ 1) ∧ (zRch f2 f3 f4 f5 f6 f7 (v1 8).toInt (v1 9).toInt (v1 10).toInt (v1 11).toInt (v0 1).toInt (v0 2).toInt (v0 3).toInt (v0 4).toInt (v0 5).toInt (v0 6).toInt (v0 7).toInt (v0 8).toInt (u2_ 1).toInt (u2_ 2).toInt (u2_ 3).toInt (u2_ 4).toInt (u2_ 5).toInt (u2_ 6).toInt (u2_ 7).toInt (u2_ 8).toInt x1.toInt (1 : Int32).toInt) := ⟨(by first | with_reducible assumption | exact ⟨by omega, by omega⟩), by exact zRch_e hI2_0 (by omega) (by omega) (by omega) (by omega)⟩
          have hP9 : va_P (dC, dI) vwCl [(h0, .inr (8, mX8 h1 (upd (upd (upd (upd (upd (upd (upd (upd v0 1 (u2_ 1)) 2 (u2_ 2)) 3 (u2_ 3)) 4 (u2_ 4)) 5 (u2_ 5)) 6 (u2_ 6)) 7 (u2_ 7)) 8 (u2_ 8)))), (h1, .inr (6, mX6 h2 h3 h4 h5 h6 h7 h8 h9 v1)), (h4, zi k4 833 f4), (h3, zi k3 833 f3), (h2, zi k2 1250 f2), (h5, zi k5 400 f5), (h6, zi k6 400 f6), (h7, zi k7 400 f7)] H := hP
          have hD9 : va_D A [(h0, .inr (8, mX8 h1 (upd (upd (upd (upd (upd (upd (upd (upd v0 1 (u2_ 1)) 2 (u2_ 2)) 3 (u2_ 3)) 4 (u2_ 4)) 5 (u2_ 5)) 6 (u2_ 6)) 7 (u2_ 7)) 8 (u2_ 8)))), (h1, .inr (6, mX6 h2 h3 h4 h5 h6 h7 h8 h9 v1)), (h4, zi k4 833 f4), (h3, zi k3 833 f3), (h2, zi k2 1250 f2), (h5, zi k5 400 f5), (h6, zi k6 400 f6), (h7, zi k7 400 f7)] := hD
          exact W.zret (v := 1) hx hb hr rfl (fun t ht hW => ⟨⟨1, (fun i => ([(u2_ 1), (u2_ 2), (u2_ 3), (u2_ 4), (u2_ 5), (u2_ 6), (u2_ 7), (u2_ 8)] : List (Int32)).getD i 0), rfl, hpost, (fun _ => 0), (fun _ => (fun _ => 0)), (fun _ => (fun _ => 0)), by rw [ht]; exact hP9, va_K.moved hW.alike hK, hD9⟩, hS.F ht⟩) hS.2.2 dX8_reaches_40
      · skip
        have b_ := zF_ge rfl rfl c_
        refine lv_aload_n hx hb dX8_reaches_16 rfl (lv_at hl 0 rfl) ?_
        have b_ : -2147483648 ≤ (u2_ 1).toInt ∧ (u2_ 1).toInt ≤ 2147483647 := ⟨zlo _, zhi _⟩
        have b_ : -2147483648 ≤ (u2_ 2).toInt ∧ (u2_ 2).toInt ≤ 2147483647 := ⟨zlo _, zhi _⟩
        have b_ : -2147483648 ≤ (u2_ 3).toInt ∧ (u2_ 3).toInt ≤ 2147483647 := ⟨zlo _, zhi _⟩
        have b_ : -2147483648 ≤ (u2_ 4).toInt ∧ (u2_ 4).toInt ≤ 2147483647 := ⟨zlo _, zhi _⟩
        have b_ : -2147483648 ≤ (u2_ 6).toInt ∧ (u2_ 6).toInt ≤ 2147483647 := ⟨zlo _, zhi _⟩
        have b_ : -2147483648 ≤ (u2_ 7).toInt ∧ (u2_ 7).toInt ≤ 2147483647 := ⟨zlo _, zhi _⟩
        have b_ : -2147483648 ≤ (u2_ 8).toInt ∧ (u2_ 8).toInt ≤ 2147483647 := ⟨zlo _, zhi _⟩
        have hPc := hP.sub (ws' := [(h0, .inr (8, mX8 h1 (upd (upd (upd (upd (upd (upd (upd (upd v0 1 (u2_ 1)) 2 (u2_ 2)) 3 (u2_ 3)) 4 (u2_ 4)) 5 (u2_ 5)) 6 (u2_ 6)) 7 (u2_ 7)) 8 (u2_ 8)))), (h1, .inr (6, mX6 h2 h3 h4 h5 h6 h7 h8 h9 v1)), (h4, zi k4 833 f4), (h3, zi k3 833 f3), (h2, zi k2 1250 f2), (h5, zi k5 400 f5), (h6, zi k6 400 f6), (h7, zi k7 400 f7)]) [0, 1, 2, 3, 4, 5, 6, 7] rfl
        have hDc := hD.sub (ws' := [(h0, .inr (8, mX8 h1 (upd (upd (upd (upd (upd (upd (upd (upd v0 1 (u2_ 1)) 2 (u2_ 2)) 3 (u2_ 3)) 4 (u2_ 4)) 5 (u2_ 5)) 6 (u2_ 6)) 7 (u2_ 7)) 8 (u2_ 8)))), (h1, .inr (6, mX6 h2 h3 h4 h5 h6 h7 h8 h9 v1)), (h4, zi k4 833 f4), (h3, zi k3 833 f3), (h2, zi k2 1250 f2), (h5, zi k5 400 f5), (h6, zi k6 400 f6), (h7, zi k7 400 f7)]) [0, 1, 2, 3, 4, 5, 6, 7] (by decide) rfl
        have hKc := hK.sub (tys' := [(k4, .int), (k3, .int), (k2, .int), (k5, .int), (k6, .int), (k7, .int)]) [0, 1, 2, 3, 4, 5] rfl
        have hFc := va_free (wc := [(h0, .inr (8, mX8 h1 (upd (upd (upd (upd (upd (upd (upd (upd v0 1 (u2_ 1)) 2 (u2_ 2)) 3 (u2_ 3)) 4 (u2_ 4)) 5 (u2_ 5)) 6 (u2_ 6)) 7 (u2_ 7)) 8 (u2_ 8)))), (h1, .inr (6, mX6 h2 h3 h4 h5 h6 h7 h8 h9 v1)), (h4, zi k4 833 f4), (h3, zi k3 833 f3), (h2, zi k2 1250 f2), (h5, zi k5 400 f5), (h6, zi k6 400 f6), (h7, zi k7 400 f7)]) hD hS hA [0, 1, 2, 3, 4, 5, 6, 7] rfl
        refine va_calli (va_runV (As := []) (rest := []) ⟨hx, hb, hml, hown, hG⟩ (p16_sX8_nextDocument_0 l dC dI adK adV h0 h1 h4 h3 h2 h5 h6 h7 h8 h9 k4 k3 k2 k5 k6 k7 H.size (upd (upd (upd (upd (upd (upd (upd (upd v0 1 (u2_ 1)) 2 (u2_ 2)) 3 (u2_ 3)) 4 (u2_ 4)) 5 (u2_ 5)) 6 (u2_ 6)) 7 (u2_ 7)) 8 (u2_ 8)) v1 f4 f3 f2 f5 f6 f7 hv1 hf3 hf6) (cwV 0 hG (zgV zv983 zv911 zv912 zv134 zv913) rfl rfl rfl (by decide +kernel) ⟨Nat.le_of_ble_eq_true rfl, Nat.le_of_ble_eq_true rfl⟩) ⟨zPc_blind, va_recv hKc hPc (ci := 8) (q0 := 0) rfl rfl, zPc_pre hPc hKc hDc hE hS hFc hZ⟩ rfl rfl hl.1 rfl (lv_room (Nat.le_of_ble_eq_true rfl)) dX8_reaches_17 ⟨Nat.le_of_ble_eq_true rfl, Nat.le_of_ble_eq_true rfl⟩) hS (fun q _ h => hFc q h) hFc (fun r17_ u17_ t H1 locs ht hvm hw hB hz1 hk1 hS => ?_)
        replace hw : (0 ≤ r17_.toInt ∧ r17_.toInt ≤ 1) ∧ (zNo f2 f3 f4 f5 f6 f7 (v1 8).toInt (v1 9).toInt (v1 10).toInt (v1 11).toInt (u2_ 1).toInt (u2_ 2).toInt (u2_ 3).toInt (u2_ 4).toInt (u17_ 0).toInt (u17_ 1).toInt (u17_ 2).toInt (u17_ 3).toInt (u2_ 7).toInt (u2_ 5).toInt (u17_ 4).toInt (u17_ 5).toInt (u17_ 6).toInt (u17_ 7).toInt r17_.toInt) ∧ (r17_.toInt = 0 → (u17_ 4).toInt = 120) := hw
        obtain ⟨b_, hX17_0, hX17_1⟩ := hw
        obtain ⟨w17_, a17_, b17_, hP1, hK1, hD1⟩ := hB
        rw [ht] at hP1
        obtain ⟨hP, hD⟩ := va_join (wr := []) (w1 := [(h0, .inr (8, mX8 h1 (upd (upd (upd (upd (upd (upd (upd (upd v0 1 (u17_ 0)) 2 (u17_ 1)) 3 (u17_ 2)) 4 (u17_ 3)) 5 (u17_ 4)) 6 (u17_ 5)) 7 (u17_ 6)) 8 (u17_ 7)))), (h1, .inr (6, mX6 h2 h3 h4 h5 h6 h7 h8 h9 v1)), (h4, zi k4 833 f4), (h3, zi k3 833 f3), (h2, zi k2 1250 f2), (h5, zi k5 400 f5), (h6, zi k6 400 f6), (h7, zi k7 400 f7)]) hP hD [0, 1, 2, 3, 4, 5, 6, 7] [] rfl rfl (by decide) (by decide) hk1 hFc hP1 hD1
        have hP : va_P (dC, dI) vwCl [(h0, .inr (8, mX8 h1 (upd (upd (upd (upd (upd (upd (upd (upd v0 1 (u17_ 0)) 2 (u17_ 1)) 3 (u17_ 2)) 4 (u17_ 3)) 5 (u17_ 4)) 6 (u17_ 5)) 7 (u17_ 6)) 8 (u17_ 7)))), (h1, .inr (6, mX6 h2 h3 h4 h5 h6 h7 h8 h9 v1)), (h4, zi k4 833 f4), (h3, zi k3 833 f3), (h2, zi k2 1250 f2), (h5, zi k5 400 f5), (h6, zi k6 400 f6), (h7, zi k7 400 f7)] H1 := hP.sub [0, 1, 2, 3, 4, 5, 6, 7] rfl
        have hD : va_D A [(h0, .inr (8, mX8 h1 (upd (upd (upd (upd (upd (upd (upd (upd v0 1 (u17_ 0)) 2 (u17_ 1)) 3 (u17_ 2)) 4 (u17_ 3)) 5 (u17_ 4)) 6 (u17_ 5)) 7 (u17_ 6)) 8 (u17_ 7)))), (h1, .inr (6, mX6 h2 h3 h4 h5 h6 h7 h8 h9 v1)), (h4, zi k4 833 f4), (h3, zi k3 833 f3), (h2, zi k2 1250 f2), (h5, zi k5 400 f5), (h6, zi k6 400 f6), (h7, zi k7 400 f7)] := hD.sub [0, 1, 2, 3, 4, 5, 6, 7] (by decide) rfl
        generalize H1 = H at hP hS ⊢
        clear hz1
        refine lv_pop hx hb dX8_reaches_20 rfl ?_
        obtain ⟨z21, e_z21⟩ : ∃ z : Int32, z = (u2_ 0) + Int32.ofInt 1 := ⟨_, rfl⟩
        have b_ := zadd (x := (u2_ 0)) (y := Int32.ofInt 1) rfl (show (Int32.ofInt 1).toInt = 1 from by decide) e_z21 (by omega) (by omega)
        refine lv_iinc (v := z21) (lv' := [(2, .int z21), (0, .ref h0), (1, .int x1)]) hx hb dX8_reaches_21 hl (k := 2) rfl e_z21.symm (by decide) rfl (fun ls hl => ?_)
        refine lv_goto (tgt := 2) hx hb dX8_reaches_24 (by decide) ?_
        have hc : va_P (dC, dI) vwCl [(h0, .inr (8, mX8 h1 (upd (upd (upd (upd (upd (upd (upd (upd v0 1 (u17_ 0)) 2 (u17_ 1)) 3 (u17_ 2)) 4 (u17_ 3)) 5 (u17_ 4)) 6 (u17_ 5)) 7 (u17_ 6)) 8 (u17_ 7)))), (h1, .inr (6, mX6 h2 h3 h4 h5 h6 h7 h8 h9 v1)), (h4, zi k4 833 f4), (h3, zi k3 833 f3), (h2, zi k2 1250 f2), (h5, zi k5 400 f5), (h6, zi k6 400 f6), (h7, zi k7 400 f7)] H ∧ va_D A [(h0, .inr (8, mX8 h1 (upd (upd (upd (upd (upd (upd (upd (upd v0 1 (u17_ 0)) 2 (u17_ 1)) 3 (u17_ 2)) 4 (u17_ 3)) 5 (u17_ 4)) 6 (u17_ 5)) 7 (u17_ 6)) 8 (u17_ 7)))), (h1, .inr (6, mX6 h2 h3 h4 h5 h6 h7 h8 h9 v1)), (h4, zi k4 833 f4), (h3, zi k3 833 f3), (h2, zi k2 1250 f2), (h5, zi k5 400 f5), (h6, zi k6 400 f6), (h7, zi k7 400 f7)] ∧ va_S A s.heap H locs ∧ lv_has ls 3 [(0, .ref h0), (1, .int x1), (2, .int z21)] ∧ (0 ≤ z21.toInt ∧ z21.toInt ≤ 120) ∧ (zRa f2 f3 f4 f5 f6 f7 (v1 8).toInt (v1 9).toInt (v1 10).toInt (v1 11).toInt (v0 1).toInt (v0 2).toInt (v0 3).toInt (v0 4).toInt (v0 5).toInt (v0 6).toInt (v0 7).toInt (v0 8).toInt (u17_ 0).toInt (u17_ 1).toInt (u17_ 2).toInt (u17_ 3).toInt (u17_ 4).toInt (u17_ 5).toInt (u17_ 6).toInt (u17_ 7).toInt x1.toInt z21.toInt) ∧ (0 ≤ z21.toInt) := ⟨hP, hD, hS, lv_sub hl [1, 2, 0] rfl, (by first | with_reducible assumption | exact ⟨by omega, by omega⟩), by first | exact zRa_s hI2_0 hX17_0 hX17_1 (by omega) (by omega) (by omega) (by omega) | exact zRa_0 (by decide), by omega⟩
        exact hJ2 H locs ls (fun i => ([z21, (u17_ 0), (u17_ 1), (u17_ 2), (u17_ 3), (u17_ 4), (u17_ 5), (u17_ 6), (u17_ 7)] : List (Int32)).getD i 0) (fun _ => 0) (fun _ => (fun _ => 0)) (fun _ => (fun _ => 0)) hc (show (120 - z21.toInt).toNat < (120 - (u2_ 0).toInt).toNat from by omega)
  · skip
    have hc : va_P (dC, dI) vwCl [(h0, .inr (8, mX8 h1 (upd (upd (upd (upd (upd (upd (upd (upd v0 1 (v0 1)) 2 (v0 2)) 3 (v0 3)) 4 (v0 4)) 5 (v0 5)) 6 (v0 6)) 7 (v0 7)) 8 (v0 8)))), (h1, .inr (6, mX6 h2 h3 h4 h5 h6 h7 h8 h9 v1)), (h4, zi k4 833 f4), (h3, zi k3 833 f3), (h2, zi k2 1250 f2), (h5, zi k5 400 f5), (h6, zi k6 400 f6), (h7, zi k7 400 f7)] s.heap ∧ va_D A [(h0, .inr (8, mX8 h1 (upd (upd (upd (upd (upd (upd (upd (upd v0 1 (v0 1)) 2 (v0 2)) 3 (v0 3)) 4 (v0 4)) 5 (v0 5)) 6 (v0 6)) 7 (v0 7)) 8 (v0 8)))), (h1, .inr (6, mX6 h2 h3 h4 h5 h6 h7 h8 h9 v1)), (h4, zi k4 833 f4), (h3, zi k3 833 f3), (h2, zi k2 1250 f2), (h5, zi k5 400 f5), (h6, zi k6 400 f6), (h7, zi k7 400 f7)] ∧ va_S A s.heap s.heap [] ∧ lv_has ls 3 [(0, .ref h0), (1, .int x1), (2, .int 0)] ∧ (0 ≤ (0 : Int32).toInt ∧ (0 : Int32).toInt ≤ 120) ∧ (zRa f2 f3 f4 f5 f6 f7 (v1 8).toInt (v1 9).toInt (v1 10).toInt (v1 11).toInt (v0 1).toInt (v0 2).toInt (v0 3).toInt (v0 4).toInt (v0 5).toInt (v0 6).toInt (v0 7).toInt (v0 8).toInt (v0 1).toInt (v0 2).toInt (v0 3).toInt (v0 4).toInt (v0 5).toInt (v0 6).toInt (v0 7).toInt (v0 8).toInt x1.toInt (0 : Int32).toInt) ∧ (0 ≤ (0 : Int32).toInt) := ⟨hP, hD, hS, lv_sub hl [1, 2, 0] rfl, (by first | with_reducible assumption | exact ⟨by omega, by omega⟩), by first | exact zRa_s hI2_0 hX17_0 hX17_1 (by omega) (by omega) (by omega) (by omega) | exact zRa_0 (by decide), by omega⟩
    exact hJ2 s.heap [] ls (fun i => ([0, (v0 1), (v0 2), (v0 3), (v0 4), (v0 5), (v0 6), (v0 7), (v0 8)] : List (Int32)).getD i 0) (fun _ => 0) (fun _ => (fun _ => 0)) (fun _ => (fun _ => 0)) hc
set_option maxHeartbeats 8000000 in
set_option maxRecDepth 100000 in
theorem p16_sX3_turnTo_0 (l : Launch) (dC : Nat → ClassId) (dI : Nat → Nat → Nat) (adK adV : Nat → Nat) (h0 : Nat) (h29 : Nat) (h28 : Nat) (h25 : Nat) (h8 : Nat) (h11 : Nat) (h10 : Nat) (h9 : Nat) (h12 : Nat) (h13 : Nat) (h14 : Nat) (h26 : Nat) (h1 : Nat) (h17 : Nat) (h27 : Nat) (h15 : Nat) (h16 : Nat) (k29 : ClassId) (k28 : ClassId) (k25 : ClassId) (k11 : ClassId) (k10 : ClassId) (k9 : ClassId) (k12 : ClassId) (k13 : ClassId) (k14 : ClassId) (k26 : ClassId) (pl0 : va_W) (sz : Nat) (v0 : Nat → Int32) (f29 : Nat → Int32) (f28 : Nat → Int32) (f25 : Nat → Option Nat) (v8 : Nat → Int32) (f11 : Nat → Int32) (f10 : Nat → Int32) (f9 : Nat → Int32) (f12 : Nat → Int32) (f13 : Nat → Int32) (f14 : Nat → Int32) (f26 : Nat → Int32) (x1 : Int32) (hv0 : zR rg_Page v0) (hf29 : zA 0 831 f29) (hv8 : zR rg_Postings v8) (hf10 : zA 0 1250 f10) (hf13 : zA 0 832 f13) (hf26 : zA 0 399 f26) (hx1 : 0 ≤ x1.toInt ∧ x1.toInt ≤ 119) (hp0_ : zRd h8 f25 pl0) : Met l yX3_turnTo (zw yX3_turnTo cX3_turnTo 5 none) { frames := 5, cells := 0, slots := 0, locals := 110 } (zPc dC dI adK adV [.ref h0, .int x1] sz ([(h0, .inr (3, mX3 h1 h8 h17 h25 h26 h27 h28 h29 v0)), (h29, zi k29 300 f29), (h28, zi k28 832 f28), (h25, .inl (k25, 400, .inr (.inr (.inr (.inr f25))))), (h8, .inr (6, mX6 h9 h10 h11 h12 h13 h14 h15 h16 v8)), (h11, zi k11 833 f11), (h10, zi k10 833 f10), (h9, zi k9 1250 f9), (h12, zi k12 400 f12), (h13, zi k13 400 f13), (h14, zi k14 400 f14), (h26, zi k26 400 f26)] ++ pl0) [(k29, .int), (k28, .int), (k25, .object RX8), (k11, .int), (k10, .int), (k9, .int), (k12, .int), (k13, .int), (k14, .int), (k26, .int)]) (va_Qv (fun (u : Nat → Int32) => (0 ≤ (u 0).toInt ∧ (u 0).toInt ≤ 300)) (fun (u : Nat → Int32) (t : State) => ∃ (ww : Nat → Int64) (aa : Nat → Nat → Int32) (bb : Nat → Nat → Int64) (qq : Nat → Nat → Option Nat) (pl1 : va_W), zA 0 831 (aa 0) ∧ (zRd h8 f25 pl1) ∧ (zKp h8 pl0 pl1) ∧ va_P (dC, dI) vwCl ([(h0, .inr (3, mX3 h1 h8 h17 h25 h26 h27 h28 h29 (upd v0 9 (u 0)))), (h29, zi k29 300 (aa 0)), (h28, zi k28 832 (aa 1)), (h25, .inl (k25, 400, .inr (.inr (.inr (.inr f25))))), (h8, .inr (6, mX6 h9 h10 h11 h12 h13 h14 h15 h16 v8)), (h11, zi k11 833 f11), (h10, zi k10 833 f10), (h9, zi k9 1250 f9), (h12, zi k12 400 f12), (h13, zi k13 400 f13), (h14, zi k14 400 f14), (h26, zi k26 400 f26)] ++ pl1) t.heap ∧ va_K (dC, dI) vwCl [(k29, .int), (k28, .int), (k25, .object RX8), (k11, .int), (k10, .int), (k9, .int), (k12, .int), (k13, .int), (k14, .int), (k26, .int)] t ∧ va_D (va_A ([(h0, .inr (3, mX3 h1 h8 h17 h25 h26 h27 h28 h29 v0)), (h29, zi k29 300 f29), (h28, zi k28 832 f28), (h25, .inl (k25, 400, .inr (.inr (.inr (.inr f25))))), (h8, .inr (6, mX6 h9 h10 h11 h12 h13 h14 h15 h16 v8)), (h11, zi k11 833 f11), (h10, zi k10 833 f10), (h9, zi k9 1250 f9), (h12, zi k12 400 f12), (h13, zi k13 400 f13), (h14, zi k14 400 f14), (h26, zi k26 400 f26)] ++ pl0) sz) ([(h0, .inr (3, mX3 h1 h8 h17 h25 h26 h27 h28 h29 (upd v0 9 (u 0)))), (h29, zi k29 300 (aa 0)), (h28, zi k28 832 (aa 1)), (h25, .inl (k25, 400, .inr (.inr (.inr (.inr f25))))), (h8, .inr (6, mX6 h9 h10 h11 h12 h13 h14 h15 h16 v8)), (h11, zi k11 833 f11), (h10, zi k10 833 f10), (h9, zi k9 1250 f9), (h12, zi k12 400 f12), (h13, zi k13 400 f13), (h14, zi k14 400 f14), (h26, zi k26 400 f26)] ++ pl1)) (va_A ([(h0, .inr (3, mX3 h1 h8 h17 h25 h26 h27 h28 h29 v0)), (h29, zi k29 300 f29), (h28, zi k28 832 f28), (h25, .inl (k25, 400, .inr (.inr (.inr (.inr f25))))), (h8, .inr (6, mX6 h9 h10 h11 h12 h13 h14 h15 h16 v8)), (h11, zi k11 833 f11), (h10, zi k10 833 f10), (h9, zi k9 1250 f9), (h12, zi k12 400 f12), (h13, zi k13 400 f13), (h14, zi k14 400 f14), (h26, zi k26 400 f26)] ++ pl0) sz)) 0 0 (va_A ([(h0, .inr (3, mX3 h1 h8 h17 h25 h26 h27 h28 h29 v0)), (h29, zi k29 300 f29), (h28, zi k28 832 f28), (h25, .inl (k25, 400, .inr (.inr (.inr (.inr f25))))), (h8, .inr (6, mX6 h9 h10 h11 h12 h13 h14 h15 h16 v8)), (h11, zi k11 833 f11), (h10, zi k10 833 f10), (h9, zi k9 1250 f9), (h12, zi k12 400 f12), (h13, zi k13 400 f13), (h14, zi k14 400 f14), (h26, zi k26 400 f26)] ++ pl0) sz) := by
  refine Met.ofW (cc := cX3_turnTo) (maxL := 5) (ret := none) (by decide) rfl ?_
  intro p e s m args below meth c s₁ B hml hv
  obtain ⟨rfl, hsz, hP, hK, hD0, hE, hZ⟩ := hv
  have hx := B.exec
  have hb := B.bytes
  have hr := B.returns
  have hG : ∀ w ∈ zG, w.before _ s = true := fun w h => atoms_spec (ws := (zw yX3_turnTo cX3_turnTo 5 none)) B.pre w (List.mem_cons_of_mem _ h)
  have hown : s.vm.findClass RX3 = some m.cls := findClass_of_methodNamed B.named
  have hlocks := B.notSynchronized

  subst hsz
  have hD := hD0.self (sz := s.heap.size)
  generalize hAe : va_A ([(h0, .inr (3, mX3 h1 h8 h17 h25 h26 h27 h28 h29 v0)), (h29, zi k29 300 f29), (h28, zi k28 832 f28), (h25, .inl (k25, 400, .inr (.inr (.inr (.inr f25))))), (h8, .inr (6, mX6 h9 h10 h11 h12 h13 h14 h15 h16 v8)), (h11, zi k11 833 f11), (h10, zi k10 833 f10), (h9, zi k9 1250 f9), (h12, zi k12 400 f12), (h13, zi k13 400 f13), (h14, zi k14 400 f14), (h26, zi k26 400 f26)] ++ pl0) s.heap.size = A at hD hZ ⊢
  have hA : ∀ q : Nat, s.heap.size ≤ q → A q := fun q h => by rw [← hAe]; exact Or.inr h
  have hS : va_S A s.heap s.heap [] := va_S.rf
  have hl := lv_entry ([.ref h0, .int x1]) (n := 5) (Nat.le_of_ble_eq_true rfl)
  rw [lg_entry_eq]
  generalize (lg_sl ([.ref h0, .int x1]) ++ List.replicate (5 - (lg_sl ([.ref h0, .int x1])).length) Slot.unset).toArray = ls at hl ⊢
  have hl : lv_has ls 5 [(0, .ref h0), (1, .int x1)] := hl
  have b_ := zk_0
  refine lv_iconst (v := 0) hx hb dX3_turnTo_0 (by decide) ?_
  refine lv_istore_n (lv' := [(2, .int 0), (0, .ref h0), (1, .int x1)]) hx hb dX3_turnTo_1 rfl hl (by decide) rfl (fun ls hl => ?_)
  refine zcutL (fun u2_ => (300 - (u2_ 0).toInt).toNat) (fun H locs ls u2_ w2_ a2_ b2_ => ∃ (q2_ : Nat → Nat → Option Nat) (pl2 : va_W), va_P (dC, dI) vwCl ([(h0, .inr (3, mX3 h1 h8 h17 h25 h26 h27 h28 h29 v0)), (h29, zi k29 300 f29), (h28, zi k28 832 (a2_ 0)), (h25, .inl (k25, 400, .inr (.inr (.inr (.inr f25))))), (h8, .inr (6, mX6 h9 h10 h11 h12 h13 h14 h15 h16 v8)), (h11, zi k11 833 f11), (h10, zi k10 833 f10), (h9, zi k9 1250 f9), (h12, zi k12 400 f12), (h13, zi k13 400 f13), (h14, zi k14 400 f14), (h26, zi k26 400 f26)] ++ pl2) H ∧ va_D A ([(h0, .inr (3, mX3 h1 h8 h17 h25 h26 h27 h28 h29 v0)), (h29, zi k29 300 f29), (h28, zi k28 832 (a2_ 0)), (h25, .inl (k25, 400, .inr (.inr (.inr (.inr f25))))), (h8, .inr (6, mX6 h9 h10 h11 h12 h13 h14 h15 h16 v8)), (h11, zi k11 833 f11), (h10, zi k10 833 f10), (h9, zi k9 1250 f9), (h12, zi k12 400 f12), (h13, zi k13 400 f13), (h14, zi k14 400 f14), (h26, zi k26 400 f26)] ++ pl2) ∧ va_S A s.heap H locs ∧ lv_has ls 5 [(0, .ref h0), (1, .int x1), (2, .int (u2_ 0))] ∧ (0 ≤ (u2_ 0).toInt ∧ (u2_ 0).toInt ≤ 300) ∧ (zRd h8 f25 pl2) ∧ (zKp h8 pl0 pl2)) (fun ls u2_ w2_ => F0 m 2 ls []) 0 0 ?_ (fun hJ2 => ?_)
  · skip
    intro H locs ls u2_ w2_ a2_ b2_ hc hJ2
    obtain ⟨q2_, pl2, hP, hD, hS, hl, b_, hI2_0, hI2_1⟩ := hc
    refine lv_iload_n hx hb dX3_turnTo_2 rfl (lv_at hl 2 rfl) ?_
    refine lv_aload_n hx hb dX3_turnTo_3 rfl (lv_at hl 0 rfl) ?_
    have b_ : 0 ≤ (v0 9).toInt ∧ (v0 9).toInt ≤ 300 := hv0 9
    refine va_get (D := (dC, dI)) (ci := 3) (v := .int (v0 9)) (C := RX3) (T := TX3) (N := 10) hx hb hG zuX3 hown hK hP 0 rfl rfl 9 (by decide) (hG _ zv482) (fun _ h9 => h9) rfl dX3_turnTo_4 ?_
    refine lv_icmp_ge (tgt := 28) hx hb dX3_turnTo_7 (by decide) (fun c_ => ?_) (fun c_ => ?_)
    · skip
      have b_ := zT_ge rfl rfl c_
      refine lv_aload_n hx hb dX3_turnTo_28 rfl (lv_at hl 0 rfl) ?_
      refine lv_iconst (v := 0) hx hb dX3_turnTo_29 (by decide) ?_
      refine va_put (D := (dC, dI)) (ci := 3) (v := .int 0) (ty := .int) (C := RX3) (T := TX3) (N := 10) hx hb hG zuX3 tyX3 tyX3_ok nmX3 hown hK hP hD hS 0 rfl rfl 9 (by decide) (hG _ zv482) (fun _ h9 => h9) rfl (by decide +kernel) rfl rfl (Nat.le_of_ble_eq_true rfl) dX3_turnTo_30 (fun H locs hP hD hS => ?_)
      have hP : va_P (dC, dI) vwCl ([(h0, .inr (3, mX3 h1 h8 h17 h25 h26 h27 h28 h29 (upd v0 9 0))), (h29, zi k29 300 f29), (h28, zi k28 832 (a2_ 0)), (h25, .inl (k25, 400, .inr (.inr (.inr (.inr f25))))), (h8, .inr (6, mX6 h9 h10 h11 h12 h13 h14 h15 h16 v8)), (h11, zi k11 833 f11), (h10, zi k10 833 f10), (h9, zi k9 1250 f9), (h12, zi k12 400 f12), (h13, zi k13 400 f13), (h14, zi k14 400 f14), (h26, zi k26 400 f26)] ++ pl2) H := hP
      have hD : va_D A ([(h0, .inr (3, mX3 h1 h8 h17 h25 h26 h27 h28 h29 (upd v0 9 0))), (h29, zi k29 300 f29), (h28, zi k28 832 (a2_ 0)), (h25, .inl (k25, 400, .inr (.inr (.inr (.inr f25))))), (h8, .inr (6, mX6 h9 h10 h11 h12 h13 h14 h15 h16 v8)), (h11, zi k11 833 f11), (h10, zi k10 833 f10), (h9, zi k9 1250 f9), (h12, zi k12 400 f12), (h13, zi k13 400 f13), (h14, zi k14 400 f14), (h26, zi k26 400 f26)] ++ pl2) := hD
      refine lv_iconst (v := 0) hx hb dX3_turnTo_33 (by decide) ?_
      refine lv_istore_n (lv' := [(2, .int 0), (0, .ref h0), (1, .int x1)]) hx hb dX3_turnTo_34 rfl hl (by decide) rfl (fun ls hl => ?_)
      refine zcutL (fun u35_ => (400 - (u35_ 0).toInt).toNat) (fun H locs ls u35_ w35_ a35_ b35_ => ∃ (q35_ : Nat → Nat → Option Nat) (pl35 : va_W), va_P (dC, dI) vwCl ([(h0, .inr (3, mX3 h1 h8 h17 h25 h26 h27 h28 h29 (upd v0 9 (u35_ 1)))), (h29, zi k29 300 (a35_ 1)), (h28, zi k28 832 (a35_ 0)), (h25, .inl (k25, 400, .inr (.inr (.inr (.inr f25))))), (h8, .inr (6, mX6 h9 h10 h11 h12 h13 h14 h15 h16 v8)), (h11, zi k11 833 f11), (h10, zi k10 833 f10), (h9, zi k9 1250 f9), (h12, zi k12 400 f12), (h13, zi k13 400 f13), (h14, zi k14 400 f14), (h26, zi k26 400 f26)] ++ pl35) H ∧ va_D A ([(h0, .inr (3, mX3 h1 h8 h17 h25 h26 h27 h28 h29 (upd v0 9 (u35_ 1)))), (h29, zi k29 300 (a35_ 1)), (h28, zi k28 832 (a35_ 0)), (h25, .inl (k25, 400, .inr (.inr (.inr (.inr f25))))), (h8, .inr (6, mX6 h9 h10 h11 h12 h13 h14 h15 h16 v8)), (h11, zi k11 833 f11), (h10, zi k10 833 f10), (h9, zi k9 1250 f9), (h12, zi k12 400 f12), (h13, zi k13 400 f13), (h14, zi k14 400 f14), (h26, zi k26 400 f26)] ++ pl35) ∧ va_S A s.heap H locs ∧ lv_has ls 5 [(0, .ref h0), (1, .int x1), (2, .int (u35_ 0))] ∧ zA 0 831 (a35_ 1) ∧ (0 ≤ (u35_ 0).toInt ∧ (u35_ 0).toInt ≤ 400) ∧ (0 ≤ (u35_ 1).toInt ∧ (u35_ 1).toInt ≤ 300) ∧ (zRd h8 f25 pl35) ∧ (zKp h8 pl0 pl35)) (fun ls u35_ w35_ => F0 m 35 ls []) 0 0 ?_ (fun hJ35 => ?_)
      · skip
        intro H locs ls u35_ w35_ a35_ b35_ hc hJ35
        obtain ⟨q35_, pl35, hP, hD, hS, hl, ha35_1, b_, b_, hI35_0, hI35_1⟩ := hc
        refine lv_iload_n hx hb dX3_turnTo_35 rfl (lv_at hl 2 rfl) ?_
        refine lv_aload_n hx hb dX3_turnTo_36 rfl (lv_at hl 0 rfl) ?_
        have b_ : 0 ≤ (v0 8).toInt ∧ (v0 8).toInt ≤ 400 := hv0 8
        refine va_get (D := (dC, dI)) (ci := 3) (v := .int (v0 8)) (C := RX3) (T := TX3) (N := 10) hx hb hG zuX3 hown hK hP 0 rfl rfl 8 (by decide) (hG _ zv481) (fun _ h9 => h9) rfl dX3_turnTo_37 ?_
        refine lv_icmp_ge (tgt := 100) hx hb dX3_turnTo_40 (by decide) (fun c_ => ?_) (fun c_ => ?_)
        · skip
          have b_ := zT_ge rfl rfl c_
          refine W.widen (k := 0) (n := 0) (by decide) (by decide) ?_
          have hpost : (0 ≤ (u35_ 1).toInt ∧ (u35_ 1).toInt ≤ 300) := (by first | with_reducible assumption | exact ⟨by omega, by omega⟩)
          have hP9 : va_P (dC, dI) vwCl ([(h0, .inr (3, mX3 h1 h8 h17 h25 h26 h27 h28 h29 (upd v0 9 (u35_ 1)))), (h29, zi k29 300 (a35_ 1)), (h28, zi k28 832 (a35_ 0)), (h25, .inl (k25, 400, .inr (.inr (.inr (.inr f25))))), (h8, .inr (6, mX6 h9 h10 h11 h12 h13 h14 h15 h16 v8)), (h11, zi k11 833 f11), (h10, zi k10 833 f10), (h9, zi k9 1250 f9), (h12, zi k12 400 f12), (h13, zi k13 400 f13), (h14, zi k14 400 f14), (h26, zi k26 400 f26)] ++ pl35) H := hP
          have hD9 : va_D A ([(h0, .inr (3, mX3 h1 h8 h17 h25 h26 h27 h28 h29 (upd v0 9 (u35_ 1)))), (h29, zi k29 300 (a35_ 1)), (h28, zi k28 832 (a35_ 0)), (h25, .inl (k25, 400, .inr (.inr (.inr (.inr f25))))), (h8, .inr (6, mX6 h9 h10 h11 h12 h13 h14 h15 h16 v8)), (h11, zi k11 833 f11), (h10, zi k10 833 f10), (h9, zi k9 1250 f9), (h12, zi k12 400 f12), (h13, zi k13 400 f13), (h14, zi k14 400 f14), (h26, zi k26 400 f26)] ++ pl35) := hD
          have hB0 : zRd h8 f25 pl35 := by assumption
          have hB1 : zKp h8 pl0 pl35 := by first | assumption | exact zKp_rf
          exact W.vret hx hb hr (fun t ht hW => ⟨⟨(fun i => ([(u35_ 1)] : List (Int32)).getD i 0), rfl, hpost, (fun _ => 0), (fun i => ([(a35_ 1), (a35_ 0)] : List (Nat → Int32)).getD i (fun _ => 0)), (fun _ => (fun _ => 0)), (fun _ => (fun _ => none)), pl35, ha35_1, hB0, hB1, by rw [ht]; exact hP9, va_K.moved hW.alike hK, hD9⟩, hS.F ht⟩) hS.2.2 dX3_turnTo_100
        · skip
          have b_ := zF_ge rfl rfl c_
          refine lv_aload_n hx hb dX3_turnTo_43 rfl (lv_at hl 0 rfl) ?_
          refine va_get (D := (dC, dI)) (ci := 3) (v := .ref h25) (C := RX3) (T := TX3) (N := 10) hx hb hG zuX3 hown hK hP 0 rfl rfl 3 (by decide) (hG _ zv476) (fun _ h9 => h9) rfl dX3_turnTo_44 ?_
          refine lv_iload_n hx hb dX3_turnTo_47 rfl (lv_at hl 2 rfl) ?_
          refine va_aldq hx hb hK hP 3 2 rfl rfl (zin_lit ⟨by omega, by omega⟩) dX3_turnTo_48 ?_
          refine lv_topq (fun o48 e_o48 => ?_)
          rcases o48 with _ | a48_
          · skip
            refine W.eq (g2 := F0 m 49 ls [.null]) rfl ?_
            refine lv_astore_nN (lv' := [(3, .null), (0, .ref h0), (1, .int x1), (2, .int (u35_ 0))]) hx hb dX3_turnTo_49 rfl hl (by decide) rfl (fun ls hl => ?_)
            refine lv_aload_nN hx hb dX3_turnTo_50 rfl (lv_at hl 0 rfl) ?_
            refine lv_ifnullN (tgt := 94) hx hb dX3_turnTo_51 (by decide) ?_
            obtain ⟨z94, e_z94⟩ : ∃ z : Int32, z = (u35_ 0) + Int32.ofInt 1 := ⟨_, rfl⟩
            have b_ := zadd (x := (u35_ 0)) (y := Int32.ofInt 1) rfl (show (Int32.ofInt 1).toInt = 1 from by decide) e_z94 (by omega) (by omega)
            refine lv_iinc (v := z94) (lv' := [(2, .int z94), (3, .null), (0, .ref h0), (1, .int x1)]) hx hb dX3_turnTo_94 hl (k := 3) rfl e_z94.symm (by decide) rfl (fun ls hl => ?_)
            refine lv_goto (tgt := 35) hx hb dX3_turnTo_97 (by decide) ?_
            have hc : va_P (dC, dI) vwCl ([(h0, .inr (3, mX3 h1 h8 h17 h25 h26 h27 h28 h29 (upd v0 9 (u35_ 1)))), (h29, zi k29 300 (a35_ 1)), (h28, zi k28 832 (a35_ 0)), (h25, .inl (k25, 400, .inr (.inr (.inr (.inr f25))))), (h8, .inr (6, mX6 h9 h10 h11 h12 h13 h14 h15 h16 v8)), (h11, zi k11 833 f11), (h10, zi k10 833 f10), (h9, zi k9 1250 f9), (h12, zi k12 400 f12), (h13, zi k13 400 f13), (h14, zi k14 400 f14), (h26, zi k26 400 f26)] ++ pl35) H ∧ va_D A ([(h0, .inr (3, mX3 h1 h8 h17 h25 h26 h27 h28 h29 (upd v0 9 (u35_ 1)))), (h29, zi k29 300 (a35_ 1)), (h28, zi k28 832 (a35_ 0)), (h25, .inl (k25, 400, .inr (.inr (.inr (.inr f25))))), (h8, .inr (6, mX6 h9 h10 h11 h12 h13 h14 h15 h16 v8)), (h11, zi k11 833 f11), (h10, zi k10 833 f10), (h9, zi k9 1250 f9), (h12, zi k12 400 f12), (h13, zi k13 400 f13), (h14, zi k14 400 f14), (h26, zi k26 400 f26)] ++ pl35) ∧ va_S A s.heap H locs ∧ lv_has ls 5 [(0, .ref h0), (1, .int x1), (2, .int z94)] ∧ zA 0 831 (a35_ 1) ∧ (0 ≤ z94.toInt ∧ z94.toInt ≤ 400) ∧ (0 ≤ (u35_ 1).toInt ∧ (u35_ 1).toInt ≤ 300) ∧ (zRd h8 f25 pl35) ∧ (zKp h8 pl0 pl35) := ⟨hP, hD, hS, lv_sub hl [2, 3, 0] rfl, ha35_1, (by first | with_reducible assumption | exact ⟨by omega, by omega⟩), (by first | with_reducible assumption | exact ⟨by omega, by omega⟩), by assumption, by first | assumption | exact zKp_rf⟩
            exact hJ35 H locs ls (fun i => ([z94, (u35_ 1)] : List (Int32)).getD i 0) (fun _ => 0) (fun i => ([(a35_ 0), (a35_ 1)] : List (Nat → Int32)).getD i (fun _ => 0)) (fun _ => (fun _ => 0)) ⟨(fun _ => (fun _ => none)), pl35, hc⟩ (show (400 - z94.toInt).toNat < (400 - (u35_ 0).toInt).toNat from by omega)
          · skip
            refine W.eq (g2 := F0 m 49 ls [.ref a48_]) rfl ?_
            have hnn_ : f25 ((u35_ 0) : Int32).toNatClampNeg ≠ none := fun h => by rw [h] at e_o48; cases e_o48
            refine lv_astore_n (lv' := [(3, .ref a48_), (0, .ref h0), (1, .int x1), (2, .int (u35_ 0))]) hx hb dX3_turnTo_49 rfl hl (by decide) rfl (fun ls hl => ?_)
            refine lv_aload_n hx hb dX3_turnTo_50 rfl (lv_at hl 0 rfl) ?_
            refine lv_ifnull hx hb dX3_turnTo_51 ?_
            refine lv_aload_n hx hb dX3_turnTo_54 rfl (lv_at hl 0 rfl) ?_
            refine lv_iload_n hx hb dX3_turnTo_55 rfl (lv_at hl 2 rfl) ?_
            obtain ⟨v48_, hm48⟩ := (show zRd h8 f25 pl35 from by assumption) _ (zltc (by omega) (by omega)) _ e_o48.symm
            obtain ⟨p48, q48, e_pl48⟩ := List.append_of_mem hm48
            rw [e_pl48] at hP hD
            have hP : va_P (dC, dI) vwCl ([(h0, .inr (3, mX3 h1 h8 h17 h25 h26 h27 h28 h29 (upd v0 9 (u35_ 1)))), (h29, zi k29 300 (a35_ 1)), (h28, zi k28 832 (a35_ 0)), (h25, .inl (k25, 400, .inr (.inr (.inr (.inr f25))))), (h8, .inr (6, mX6 h9 h10 h11 h12 h13 h14 h15 h16 v8)), (h11, zi k11 833 f11), (h10, zi k10 833 f10), (h9, zi k9 1250 f9), (h12, zi k12 400 f12), (h13, zi k13 400 f13), (h14, zi k14 400 f14), (h26, zi k26 400 f26), (a48_, .inr (8, mX8 h8 v48_))] ++ (p48 ++ q48)) H := zfocP hP
            have hD : va_D A ([(h0, .inr (3, mX3 h1 h8 h17 h25 h26 h27 h28 h29 (upd v0 9 (u35_ 1)))), (h29, zi k29 300 (a35_ 1)), (h28, zi k28 832 (a35_ 0)), (h25, .inl (k25, 400, .inr (.inr (.inr (.inr f25))))), (h8, .inr (6, mX6 h9 h10 h11 h12 h13 h14 h15 h16 v8)), (h11, zi k11 833 f11), (h10, zi k10 833 f10), (h9, zi k9 1250 f9), (h12, zi k12 400 f12), (h13, zi k13 400 f13), (h14, zi k14 400 f14), (h26, zi k26 400 f26), (a48_, .inr (8, mX8 h8 v48_))] ++ (p48 ++ q48)) := zfocD hD
            have hPc := hP.sub (ws' := [(a48_, .inr (8, mX8 h8 v48_)), (h8, .inr (6, mX6 h9 h10 h11 h12 h13 h14 h15 h16 v8)), (h11, zi k11 833 f11), (h10, zi k10 833 f10), (h9, zi k9 1250 f9), (h12, zi k12 400 f12), (h13, zi k13 400 f13), (h14, zi k14 400 f14)]) [12, 4, 5, 6, 7, 8, 9, 10] rfl
            have hDc := hD.sub (ws' := [(a48_, .inr (8, mX8 h8 v48_)), (h8, .inr (6, mX6 h9 h10 h11 h12 h13 h14 h15 h16 v8)), (h11, zi k11 833 f11), (h10, zi k10 833 f10), (h9, zi k9 1250 f9), (h12, zi k12 400 f12), (h13, zi k13 400 f13), (h14, zi k14 400 f14)]) [12, 4, 5, 6, 7, 8, 9, 10] (by decide) rfl
            have hKc := hK.sub (tys' := [(k11, .int), (k10, .int), (k9, .int), (k12, .int), (k13, .int), (k14, .int)]) [3, 4, 5, 6, 7, 8] rfl
            have hFc := va_free (wc := [(a48_, .inr (8, mX8 h8 v48_)), (h8, .inr (6, mX6 h9 h10 h11 h12 h13 h14 h15 h16 v8)), (h11, zi k11 833 f11), (h10, zi k10 833 f10), (h9, zi k9 1250 f9), (h12, zi k12 400 f12), (h13, zi k13 400 f13), (h14, zi k14 400 f14)]) hD hS hA [12, 4, 5, 6, 7, 8, 9, 10] rfl
            refine va_calli (va_runV (As := [.int x1]) (rest := []) ⟨hx, hb, hml, hown, hG⟩ (p16_sX8_reaches_0 l dC dI adK adV a48_ h8 h11 h10 h9 h12 h13 h14 h15 h16 k11 k10 k9 k12 k13 k14 H.size v48_ v8 f11 f10 f9 f12 f13 f14 x1 hv8 hf10 hf13 (show (0 : Int) ≤ (x1 : Int32).toInt ∧ (x1 : Int32).toInt ≤ (119 : Int) from (by first | with_reducible assumption | exact ⟨by omega, by omega⟩))) (cwV 1 hG (zgV zv1222 zv1223 zv1224 zv134 zv1225) rfl rfl rfl (by decide +kernel) ⟨Nat.le_of_ble_eq_true rfl, Nat.le_of_ble_eq_true rfl⟩) ⟨zPc_blind, va_recv hKc hPc (ci := 8) (q0 := 0) rfl rfl, zPc_pre hPc hKc hDc hE hS hFc hZ⟩ rfl rfl hl.1 rfl (lv_room (Nat.le_of_ble_eq_true rfl)) dX3_turnTo_56 ⟨Nat.le_of_ble_eq_true rfl, Nat.le_of_ble_eq_true rfl⟩) hS (fun q _ h => hFc q h) hFc (fun r56_ u56_ t H1 locs ht hvm hw hB hz1 hk1 hS => ?_)
            replace hw : (0 ≤ r56_.toInt ∧ r56_.toInt ≤ 1) ∧ (zRch f9 f10 f11 f12 f13 f14 (v8 8).toInt (v8 9).toInt (v8 10).toInt (v8 11).toInt (v48_ 1).toInt (v48_ 2).toInt (v48_ 3).toInt (v48_ 4).toInt (v48_ 5).toInt (v48_ 6).toInt (v48_ 7).toInt (v48_ 8).toInt (u56_ 0).toInt (u56_ 1).toInt (u56_ 2).toInt (u56_ 3).toInt (u56_ 4).toInt (u56_ 5).toInt (u56_ 6).toInt (u56_ 7).toInt x1.toInt r56_.toInt) := hw
            obtain ⟨b_, hX56_0⟩ := hw
            obtain ⟨w56_, a56_, b56_, hP1, hK1, hD1⟩ := hB
            rw [ht] at hP1
            obtain ⟨hP, hD⟩ := va_joinQ (wr := [(h0, .inr (3, mX3 h1 h8 h17 h25 h26 h27 h28 h29 (upd v0 9 (u35_ 1)))), (h29, zi k29 300 (a35_ 1)), (h28, zi k28 832 (a35_ 0)), (h25, .inl (k25, 400, .inr (.inr (.inr (.inr f25))))), (h26, zi k26 400 f26)]) (w1 := [(a48_, .inr (8, mX8 h8 (upd (upd (upd (upd (upd (upd (upd (upd v48_ 1 (u56_ 0)) 2 (u56_ 1)) 3 (u56_ 2)) 4 (u56_ 3)) 5 (u56_ 4)) 6 (u56_ 5)) 7 (u56_ 6)) 8 (u56_ 7)))), (h8, .inr (6, mX6 h9 h10 h11 h12 h13 h14 h15 h16 v8)), (h11, zi k11 833 f11), (h10, zi k10 833 f10), (h9, zi k9 1250 f9), (h12, zi k12 400 f12), (h13, zi k13 400 f13), (h14, zi k14 400 f14)]) hP hD [12, 4, 5, 6, 7, 8, 9, 10] [0, 1, 2, 3, 11] rfl rfl (by decide) (by decide) hk1 hFc hP1 hD1
            have hP : va_P (dC, dI) vwCl ([(h0, .inr (3, mX3 h1 h8 h17 h25 h26 h27 h28 h29 (upd v0 9 (u35_ 1)))), (h29, zi k29 300 (a35_ 1)), (h28, zi k28 832 (a35_ 0)), (h25, .inl (k25, 400, .inr (.inr (.inr (.inr f25))))), (h8, .inr (6, mX6 h9 h10 h11 h12 h13 h14 h15 h16 v8)), (h11, zi k11 833 f11), (h10, zi k10 833 f10), (h9, zi k9 1250 f9), (h12, zi k12 400 f12), (h13, zi k13 400 f13), (h14, zi k14 400 f14), (h26, zi k26 400 f26), (a48_, .inr (8, mX8 h8 (upd (upd (upd (upd (upd (upd (upd (upd v48_ 1 (u56_ 0)) 2 (u56_ 1)) 3 (u56_ 2)) 4 (u56_ 3)) 5 (u56_ 4)) 6 (u56_ 5)) 7 (u56_ 6)) 8 (u56_ 7))))] ++ (p48 ++ q48)) H1 := hP.part [0, 1, 2, 3, 6, 7, 8, 9, 10, 11, 12, 4, 5] rfl
            have hD : va_D A ([(h0, .inr (3, mX3 h1 h8 h17 h25 h26 h27 h28 h29 (upd v0 9 (u35_ 1)))), (h29, zi k29 300 (a35_ 1)), (h28, zi k28 832 (a35_ 0)), (h25, .inl (k25, 400, .inr (.inr (.inr (.inr f25))))), (h8, .inr (6, mX6 h9 h10 h11 h12 h13 h14 h15 h16 v8)), (h11, zi k11 833 f11), (h10, zi k10 833 f10), (h9, zi k9 1250 f9), (h12, zi k12 400 f12), (h13, zi k13 400 f13), (h14, zi k14 400 f14), (h26, zi k26 400 f26), (a48_, .inr (8, mX8 h8 (upd (upd (upd (upd (upd (upd (upd (upd v48_ 1 (u56_ 0)) 2 (u56_ 1)) 3 (u56_ 2)) 4 (u56_ 3)) 5 (u56_ 4)) 6 (u56_ 5)) 7 (u56_ 6)) 8 (u56_ 7))))] ++ (p48 ++ q48)) := hD.part [0, 1, 2, 3, 6, 7, 8, 9, 10, 11, 12, 4, 5] (by decide) rfl
            generalize H1 = H at hP hS ⊢
            clear hz1
            refine lv_if_eq (tgt := 94) hx hb dX3_turnTo_59 (by decide) (fun c_ => ?_) (fun c_ => ?_)
            · skip
              have b_ := zT_eq rfl zk_0 c_
              obtain ⟨z94, e_z94⟩ : ∃ z : Int32, z = (u35_ 0) + Int32.ofInt 1 := ⟨_, rfl⟩
              have b_ := zadd (x := (u35_ 0)) (y := Int32.ofInt 1) rfl (show (Int32.ofInt 1).toInt = 1 from by decide) e_z94 (by omega) (by omega)
              refine lv_iinc (v := z94) (lv' := [(2, .int z94), (3, .ref a48_), (0, .ref h0), (1, .int x1)]) hx hb dX3_turnTo_94 hl (k := 3) rfl e_z94.symm (by decide) rfl (fun ls hl => ?_)
              refine lv_goto (tgt := 35) hx hb dX3_turnTo_97 (by decide) ?_
              obtain ⟨plx135, e_plx135⟩ : ∃ z : va_W, z = (a48_, .inr (8, mX8 h8 (upd (upd (upd (upd (upd (upd (upd (upd v48_ 1 (u56_ 0)) 2 (u56_ 1)) 3 (u56_ 2)) 4 (u56_ 3)) 5 (u56_ 4)) 6 (u56_ 5)) 7 (u56_ 6)) 8 (u56_ 7)))) :: (p48 ++ q48) := ⟨_, rfl⟩
              have hP : va_P (dC, dI) vwCl ([(h0, .inr (3, mX3 h1 h8 h17 h25 h26 h27 h28 h29 (upd v0 9 (u35_ 1)))), (h29, zi k29 300 (a35_ 1)), (h28, zi k28 832 (a35_ 0)), (h25, .inl (k25, 400, .inr (.inr (.inr (.inr f25))))), (h8, .inr (6, mX6 h9 h10 h11 h12 h13 h14 h15 h16 v8)), (h11, zi k11 833 f11), (h10, zi k10 833 f10), (h9, zi k9 1250 f9), (h12, zi k12 400 f12), (h13, zi k13 400 f13), (h14, zi k14 400 f14), (h26, zi k26 400 f26)] ++ plx135) H := by rw [e_plx135]; exact hP
              have hD : va_D A ([(h0, .inr (3, mX3 h1 h8 h17 h25 h26 h27 h28 h29 (upd v0 9 (u35_ 1)))), (h29, zi k29 300 (a35_ 1)), (h28, zi k28 832 (a35_ 0)), (h25, .inl (k25, 400, .inr (.inr (.inr (.inr f25))))), (h8, .inr (6, mX6 h9 h10 h11 h12 h13 h14 h15 h16 v8)), (h11, zi k11 833 f11), (h10, zi k10 833 f10), (h9, zi k9 1250 f9), (h12, zi k12 400 f12), (h13, zi k13 400 f13), (h14, zi k14 400 f14), (h26, zi k26 400 f26)] ++ plx135) := by rw [e_plx135]; exact hD
              have hpl_ : zRd h8 f25 plx135 := by rw [e_plx135]; exact zRd_put (show zRd h8 f25 pl35 from by first | assumption | exact zKp_rf | exact zOt_rf) e_pl48
              have hpl_ : zKp h8 pl0 plx135 := by rw [e_plx135]; exact zKp_put (show zKp h8 pl0 pl35 from by first | assumption | exact zKp_rf | exact zOt_rf) e_pl48
              have hc : va_P (dC, dI) vwCl ([(h0, .inr (3, mX3 h1 h8 h17 h25 h26 h27 h28 h29 (upd v0 9 (u35_ 1)))), (h29, zi k29 300 (a35_ 1)), (h28, zi k28 832 (a35_ 0)), (h25, .inl (k25, 400, .inr (.inr (.inr (.inr f25))))), (h8, .inr (6, mX6 h9 h10 h11 h12 h13 h14 h15 h16 v8)), (h11, zi k11 833 f11), (h10, zi k10 833 f10), (h9, zi k9 1250 f9), (h12, zi k12 400 f12), (h13, zi k13 400 f13), (h14, zi k14 400 f14), (h26, zi k26 400 f26)] ++ plx135) H ∧ va_D A ([(h0, .inr (3, mX3 h1 h8 h17 h25 h26 h27 h28 h29 (upd v0 9 (u35_ 1)))), (h29, zi k29 300 (a35_ 1)), (h28, zi k28 832 (a35_ 0)), (h25, .inl (k25, 400, .inr (.inr (.inr (.inr f25))))), (h8, .inr (6, mX6 h9 h10 h11 h12 h13 h14 h15 h16 v8)), (h11, zi k11 833 f11), (h10, zi k10 833 f10), (h9, zi k9 1250 f9), (h12, zi k12 400 f12), (h13, zi k13 400 f13), (h14, zi k14 400 f14), (h26, zi k26 400 f26)] ++ plx135) ∧ va_S A s.heap H locs ∧ lv_has ls 5 [(0, .ref h0), (1, .int x1), (2, .int z94)] ∧ zA 0 831 (a35_ 1) ∧ (0 ≤ z94.toInt ∧ z94.toInt ≤ 400) ∧ (0 ≤ (u35_ 1).toInt ∧ (u35_ 1).toInt ≤ 300) ∧ (zRd h8 f25 plx135) ∧ (zKp h8 pl0 plx135) := ⟨hP, hD, hS, lv_sub hl [2, 3, 0] rfl, ha35_1, (by first | with_reducible assumption | exact ⟨by omega, by omega⟩), (by first | with_reducible assumption | exact ⟨by omega, by omega⟩), by assumption, by first | assumption | exact zKp_rf⟩
              exact hJ35 H locs ls (fun i => ([z94, (u35_ 1)] : List (Int32)).getD i 0) (fun _ => 0) (fun i => ([(a35_ 0), (a35_ 1)] : List (Nat → Int32)).getD i (fun _ => 0)) (fun _ => (fun _ => 0)) ⟨(fun _ => (fun _ => none)), plx135, hc⟩ (show (400 - z94.toInt).toNat < (400 - (u35_ 0).toInt).toNat from by omega)
            · skip
              have b_ := zF_eq rfl zk_0 c_
              refine lv_iconst (v := 0) hx hb dX3_turnTo_62 (by decide) ?_
              refine lv_istore (lv' := [(4, .int 0), (3, .ref a48_), (0, .ref h0), (1, .int x1), (2, .int (u35_ 0))]) hx hb dX3_turnTo_63 hl (by decide) rfl (fun ls hl => ?_)
              refine zcutL (fun u65_ => (2147483647 - (u65_ 0).toInt).toNat) (fun H locs ls u65_ w65_ a65_ b65_ => ∃ (q65_ : Nat → Nat → Option Nat) (pl65 : va_W), va_P (dC, dI) vwCl ([(h0, .inr (3, mX3 h1 h8 h17 h25 h26 h27 h28 h29 (upd v0 9 (u65_ 7)))), (h29, zi k29 300 (a65_ 1)), (h28, zi k28 832 (a65_ 0)), (h25, .inl (k25, 400, .inr (.inr (.inr (.inr f25))))), (h8, .inr (6, mX6 h9 h10 h11 h12 h13 h14 h15 h16 v8)), (h11, zi k11 833 f11), (h10, zi k10 833 f10), (h9, zi k9 1250 f9), (h12, zi k12 400 f12), (h13, zi k13 400 f13), (h14, zi k14 400 f14), (h26, zi k26 400 f26), (a48_, .inr (8, mX8 h8 (upd (upd (upd (upd (upd (upd (upd (upd v48_ 1 (u65_ 1)) 2 (u65_ 2)) 3 (u65_ 3)) 4 (u65_ 4)) 5 (u56_ 4)) 6 (u56_ 5)) 7 (u65_ 5)) 8 (u65_ 6))))] ++ (p48 ++ q48)) H ∧ va_D A ([(h0, .inr (3, mX3 h1 h8 h17 h25 h26 h27 h28 h29 (upd v0 9 (u65_ 7)))), (h29, zi k29 300 (a65_ 1)), (h28, zi k28 832 (a65_ 0)), (h25, .inl (k25, 400, .inr (.inr (.inr (.inr f25))))), (h8, .inr (6, mX6 h9 h10 h11 h12 h13 h14 h15 h16 v8)), (h11, zi k11 833 f11), (h10, zi k10 833 f10), (h9, zi k9 1250 f9), (h12, zi k12 400 f12), (h13, zi k13 400 f13), (h14, zi k14 400 f14), (h26, zi k26 400 f26), (a48_, .inr (8, mX8 h8 (upd (upd (upd (upd (upd (upd (upd (upd v48_ 1 (u65_ 1)) 2 (u65_ 2)) 3 (u65_ 3)) 4 (u65_ 4)) 5 (u56_ 4)) 6 (u56_ 5)) 7 (u65_ 5)) 8 (u65_ 6))))] ++ (p48 ++ q48)) ∧ va_S A s.heap H locs ∧ lv_has ls 5 [(0, .ref h0), (1, .int x1), (2, .int (u35_ 0)), (3, .ref a48_), (4, .int (u65_ 0))] ∧ zA 0 831 (a65_ 1) ∧ (0 ≤ (u65_ 0).toInt ∧ (u65_ 0).toInt ≤ 2147483647) ∧ (0 ≤ (u65_ 7).toInt ∧ (u65_ 7).toInt ≤ 300)) (fun ls u65_ w65_ => F0 m 65 ls []) 0 0 ?_ (fun hJ65 => ?_)
              · skip
                intro H locs ls u65_ w65_ a65_ b65_ hc hJ65
                obtain ⟨q65_, pl65, hP, hD, hS, hl, ha65_1, b_, b_⟩ := hc
                refine lv_iload hx hb dX3_turnTo_65 (lv_at hl 4 rfl) ?_
                refine lv_aload_n hx hb dX3_turnTo_67 rfl (lv_at hl 3 rfl) ?_
                have b_ : -2147483648 ≤ (u65_ 1).toInt ∧ (u65_ 1).toInt ≤ 2147483647 := ⟨zlo _, zhi _⟩
                have b_ : -2147483648 ≤ (u65_ 2).toInt ∧ (u65_ 2).toInt ≤ 2147483647 := ⟨zlo _, zhi _⟩
                have b_ : -2147483648 ≤ (u65_ 3).toInt ∧ (u65_ 3).toInt ≤ 2147483647 := ⟨zlo _, zhi _⟩
                have b_ : -2147483648 ≤ (u65_ 4).toInt ∧ (u65_ 4).toInt ≤ 2147483647 := ⟨zlo _, zhi _⟩
                have b_ : -2147483648 ≤ (u56_ 4).toInt ∧ (u56_ 4).toInt ≤ 2147483647 := ⟨zlo _, zhi _⟩
                have b_ : -2147483648 ≤ (u56_ 5).toInt ∧ (u56_ 5).toInt ≤ 2147483647 := ⟨zlo _, zhi _⟩
                have b_ : -2147483648 ≤ (u65_ 5).toInt ∧ (u65_ 5).toInt ≤ 2147483647 := ⟨zlo _, zhi _⟩
                have b_ : -2147483648 ≤ (u65_ 6).toInt ∧ (u65_ 6).toInt ≤ 2147483647 := ⟨zlo _, zhi _⟩
                have hPc := hP.sub (ws' := [(a48_, .inr (8, mX8 h8 (upd (upd (upd (upd (upd (upd (upd (upd v48_ 1 (u65_ 1)) 2 (u65_ 2)) 3 (u65_ 3)) 4 (u65_ 4)) 5 (u56_ 4)) 6 (u56_ 5)) 7 (u65_ 5)) 8 (u65_ 6))))]) [12] rfl
                have hDc := hD.sub (ws' := [(a48_, .inr (8, mX8 h8 (upd (upd (upd (upd (upd (upd (upd (upd v48_ 1 (u65_ 1)) 2 (u65_ 2)) 3 (u65_ 3)) 4 (u65_ 4)) 5 (u56_ 4)) 6 (u56_ 5)) 7 (u65_ 5)) 8 (u65_ 6))))]) [12] (by decide) rfl
                have hKc := hK.sub (tys' := []) [] rfl
                have hFc := va_free (wc := [(a48_, .inr (8, mX8 h8 (upd (upd (upd (upd (upd (upd (upd (upd v48_ 1 (u65_ 1)) 2 (u65_ 2)) 3 (u65_ 3)) 4 (u65_ 4)) 5 (u56_ 4)) 6 (u56_ 5)) 7 (u65_ 5)) 8 (u65_ 6))))]) hD hS hA [12] rfl
                refine va_calli (va_runV (As := []) (rest := [.int (u65_ 0)]) ⟨hx, hb, hml, hown, hG⟩ (sX8_places_0 l dC dI adK adV a48_ h8 H.size (upd (upd (upd (upd (upd (upd (upd (upd v48_ 1 (u65_ 1)) 2 (u65_ 2)) 3 (u65_ 3)) 4 (u65_ 4)) 5 (u56_ 4)) 6 (u56_ 5)) 7 (u65_ 5)) 8 (u65_ 6))) (cwV 0 hG (zgV zv1226 zv937 zv938 zv134 zv939) rfl rfl rfl (by decide +kernel) ⟨Nat.le_of_ble_eq_true rfl, Nat.le_of_ble_eq_true rfl⟩) ⟨zPc_blind, va_recv hKc hPc (ci := 8) (q0 := 0) rfl rfl, zPc_pre hPc hKc hDc hE hS hFc hZ⟩ rfl rfl hl.1 rfl (lv_room (Nat.le_of_ble_eq_true rfl)) dX3_turnTo_68 ⟨Nat.le_of_ble_eq_true rfl, Nat.le_of_ble_eq_true rfl⟩) hS (fun q _ h => hFc q h) hFc (fun r68_ u68_ t H1 locs ht hvm hw hB hz1 hk1 hS => ?_)
                replace hw : (r68_.toInt = (u56_ 5).toInt) := hw
                have hX68_0 := hw
                obtain ⟨w68_, a68_, b68_, hP1, hK1, hD1⟩ := hB
                rw [ht] at hP1
                obtain ⟨hP, hD⟩ := va_joinQ (wr := [(h0, .inr (3, mX3 h1 h8 h17 h25 h26 h27 h28 h29 (upd v0 9 (u65_ 7)))), (h29, zi k29 300 (a65_ 1)), (h28, zi k28 832 (a65_ 0)), (h25, .inl (k25, 400, .inr (.inr (.inr (.inr f25))))), (h8, .inr (6, mX6 h9 h10 h11 h12 h13 h14 h15 h16 v8)), (h11, zi k11 833 f11), (h10, zi k10 833 f10), (h9, zi k9 1250 f9), (h12, zi k12 400 f12), (h13, zi k13 400 f13), (h14, zi k14 400 f14), (h26, zi k26 400 f26)]) (w1 := [(a48_, .inr (8, mX8 h8 (upd (upd (upd (upd (upd (upd (upd (upd v48_ 1 (u65_ 1)) 2 (u65_ 2)) 3 (u65_ 3)) 4 (u65_ 4)) 5 (u56_ 4)) 6 (u56_ 5)) 7 (u65_ 5)) 8 (u65_ 6))))]) hP hD [12] [0, 1, 2, 3, 4, 5, 6, 7, 8, 9, 10, 11] rfl rfl (by decide) (by decide) hk1 hFc hP1 hD1
                have hP : va_P (dC, dI) vwCl ([(h0, .inr (3, mX3 h1 h8 h17 h25 h26 h27 h28 h29 (upd v0 9 (u65_ 7)))), (h29, zi k29 300 (a65_ 1)), (h28, zi k28 832 (a65_ 0)), (h25, .inl (k25, 400, .inr (.inr (.inr (.inr f25))))), (h8, .inr (6, mX6 h9 h10 h11 h12 h13 h14 h15 h16 v8)), (h11, zi k11 833 f11), (h10, zi k10 833 f10), (h9, zi k9 1250 f9), (h12, zi k12 400 f12), (h13, zi k13 400 f13), (h14, zi k14 400 f14), (h26, zi k26 400 f26), (a48_, .inr (8, mX8 h8 (upd (upd (upd (upd (upd (upd (upd (upd v48_ 1 (u65_ 1)) 2 (u65_ 2)) 3 (u65_ 3)) 4 (u65_ 4)) 5 (u56_ 4)) 6 (u56_ 5)) 7 (u65_ 5)) 8 (u65_ 6))))] ++ (p48 ++ q48)) H1 := hP.part [0, 1, 2, 3, 4, 5, 6, 7, 8, 9, 10, 11, 12] rfl
                have hD : va_D A ([(h0, .inr (3, mX3 h1 h8 h17 h25 h26 h27 h28 h29 (upd v0 9 (u65_ 7)))), (h29, zi k29 300 (a65_ 1)), (h28, zi k28 832 (a65_ 0)), (h25, .inl (k25, 400, .inr (.inr (.inr (.inr f25))))), (h8, .inr (6, mX6 h9 h10 h11 h12 h13 h14 h15 h16 v8)), (h11, zi k11 833 f11), (h10, zi k10 833 f10), (h9, zi k9 1250 f9), (h12, zi k12 400 f12), (h13, zi k13 400 f13), (h14, zi k14 400 f14), (h26, zi k26 400 f26), (a48_, .inr (8, mX8 h8 (upd (upd (upd (upd (upd (upd (upd (upd v48_ 1 (u65_ 1)) 2 (u65_ 2)) 3 (u65_ 3)) 4 (u65_ 4)) 5 (u56_ 4)) 6 (u56_ 5)) 7 (u65_ 5)) 8 (u65_ 6))))] ++ (p48 ++ q48)) := hD.part [0, 1, 2, 3, 4, 5, 6, 7, 8, 9, 10, 11, 12] (by decide) rfl
                generalize H1 = H at hP hS ⊢
                clear hz1
                have b_ : -2147483648 ≤ r68_.toInt ∧ r68_.toInt ≤ 2147483647 := ⟨zlo _, zhi _⟩
                refine lv_icmp_ge (tgt := 94) hx hb dX3_turnTo_71 (by decide) (fun c_ => ?_) (fun c_ => ?_)
                · skip
                  have b_ := zT_ge rfl rfl c_
                  obtain ⟨z94, e_z94⟩ : ∃ z : Int32, z = (u35_ 0) + Int32.ofInt 1 := ⟨_, rfl⟩
                  have b_ := zadd (x := (u35_ 0)) (y := Int32.ofInt 1) rfl (show (Int32.ofInt 1).toInt = 1 from by decide) e_z94 (by omega) (by omega)
                  refine lv_iinc (v := z94) (lv' := [(2, .int z94), (0, .ref h0), (1, .int x1), (3, .ref a48_), (4, .int (u65_ 0))]) hx hb dX3_turnTo_94 hl (k := 2) rfl e_z94.symm (by decide) rfl (fun ls hl => ?_)
                  refine lv_goto (tgt := 35) hx hb dX3_turnTo_97 (by decide) ?_
                  obtain ⟨plx136, e_plx136⟩ : ∃ z : va_W, z = (a48_, .inr (8, mX8 h8 (upd (upd (upd (upd (upd (upd (upd (upd v48_ 1 (u65_ 1)) 2 (u65_ 2)) 3 (u65_ 3)) 4 (u65_ 4)) 5 (u56_ 4)) 6 (u56_ 5)) 7 (u65_ 5)) 8 (u65_ 6)))) :: (p48 ++ q48) := ⟨_, rfl⟩
                  have hP : va_P (dC, dI) vwCl ([(h0, .inr (3, mX3 h1 h8 h17 h25 h26 h27 h28 h29 (upd v0 9 (u65_ 7)))), (h29, zi k29 300 (a65_ 1)), (h28, zi k28 832 (a65_ 0)), (h25, .inl (k25, 400, .inr (.inr (.inr (.inr f25))))), (h8, .inr (6, mX6 h9 h10 h11 h12 h13 h14 h15 h16 v8)), (h11, zi k11 833 f11), (h10, zi k10 833 f10), (h9, zi k9 1250 f9), (h12, zi k12 400 f12), (h13, zi k13 400 f13), (h14, zi k14 400 f14), (h26, zi k26 400 f26)] ++ plx136) H := by rw [e_plx136]; exact hP
                  have hD : va_D A ([(h0, .inr (3, mX3 h1 h8 h17 h25 h26 h27 h28 h29 (upd v0 9 (u65_ 7)))), (h29, zi k29 300 (a65_ 1)), (h28, zi k28 832 (a65_ 0)), (h25, .inl (k25, 400, .inr (.inr (.inr (.inr f25))))), (h8, .inr (6, mX6 h9 h10 h11 h12 h13 h14 h15 h16 v8)), (h11, zi k11 833 f11), (h10, zi k10 833 f10), (h9, zi k9 1250 f9), (h12, zi k12 400 f12), (h13, zi k13 400 f13), (h14, zi k14 400 f14), (h26, zi k26 400 f26)] ++ plx136) := by rw [e_plx136]; exact hD
                  have hpl_ : zRd h8 f25 plx136 := by rw [e_plx136]; exact zRd_put (show zRd h8 f25 pl35 from by first | assumption | exact zKp_rf | exact zOt_rf) e_pl48
                  have hpl_ : zKp h8 pl0 plx136 := by rw [e_plx136]; exact zKp_put (show zKp h8 pl0 pl35 from by first | assumption | exact zKp_rf | exact zOt_rf) e_pl48
                  have hc : va_P (dC, dI) vwCl ([(h0, .inr (3, mX3 h1 h8 h17 h25 h26 h27 h28 h29 (upd v0 9 (u65_ 7)))), (h29, zi k29 300 (a65_ 1)), (h28, zi k28 832 (a65_ 0)), (h25, .inl (k25, 400, .inr (.inr (.inr (.inr f25))))), (h8, .inr (6, mX6 h9 h10 h11 h12 h13 h14 h15 h16 v8)), (h11, zi k11 833 f11), (h10, zi k10 833 f10), (h9, zi k9 1250 f9), (h12, zi k12 400 f12), (h13, zi k13 400 f13), (h14, zi k14 400 f14), (h26, zi k26 400 f26)] ++ plx136) H ∧ va_D A ([(h0, .inr (3, mX3 h1 h8 h17 h25 h26 h27 h28 h29 (upd v0 9 (u65_ 7)))), (h29, zi k29 300 (a65_ 1)), (h28, zi k28 832 (a65_ 0)), (h25, .inl (k25, 400, .inr (.inr (.inr (.inr f25))))), (h8, .inr (6, mX6 h9 h10 h11 h12 h13 h14 h15 h16 v8)), (h11, zi k11 833 f11), (h10, zi k10 833 f10), (h9, zi k9 1250 f9), (h12, zi k12 400 f12), (h13, zi k13 400 f13), (h14, zi k14 400 f14), (h26, zi k26 400 f26)] ++ plx136) ∧ va_S A s.heap H locs ∧ lv_has ls 5 [(0, .ref h0), (1, .int x1), (2, .int z94)] ∧ zA 0 831 (a65_ 1) ∧ (0 ≤ z94.toInt ∧ z94.toInt ≤ 400) ∧ (0 ≤ (u65_ 7).toInt ∧ (u65_ 7).toInt ≤ 300) ∧ (zRd h8 f25 plx136) ∧ (zKp h8 pl0 plx136) := ⟨hP, hD, hS, lv_sub hl [1, 2, 0] rfl, ha65_1, (by first | with_reducible assumption | exact ⟨by omega, by omega⟩), (by first | with_reducible assumption | exact ⟨by omega, by omega⟩), by assumption, by first | assumption | exact zKp_rf⟩
                  exact hJ35 H locs ls (fun i => ([z94, (u65_ 7)] : List (Int32)).getD i 0) (fun _ => 0) (fun i => ([(a65_ 0), (a65_ 1)] : List (Nat → Int32)).getD i (fun _ => 0)) (fun _ => (fun _ => 0)) ⟨(fun _ => (fun _ => none)), plx136, hc⟩ (show (400 - z94.toInt).toNat < (400 - (u35_ 0).toInt).toNat from by omega)
                · skip
                  have b_ := zF_ge rfl rfl c_
                  refine lv_aload_n hx hb dX3_turnTo_74 rfl (lv_at hl 0 rfl) ?_
                  refine lv_aload_n hx hb dX3_turnTo_75 rfl (lv_at hl 3 rfl) ?_
                  have hPc := hP.sub (ws' := [(a48_, .inr (8, mX8 h8 (upd (upd (upd (upd (upd (upd (upd (upd v48_ 1 (u65_ 1)) 2 (u65_ 2)) 3 (u65_ 3)) 4 (u65_ 4)) 5 (u56_ 4)) 6 (u56_ 5)) 7 (u65_ 5)) 8 (u65_ 6)))), (h8, .inr (6, mX6 h9 h10 h11 h12 h13 h14 h15 h16 v8)), (h11, zi k11 833 f11), (h10, zi k10 833 f10), (h9, zi k9 1250 f9), (h12, zi k12 400 f12), (h13, zi k13 400 f13), (h14, zi k14 400 f14)]) [12, 4, 5, 6, 7, 8, 9, 10] rfl
                  have hDc := hD.sub (ws' := [(a48_, .inr (8, mX8 h8 (upd (upd (upd (upd (upd (upd (upd (upd v48_ 1 (u65_ 1)) 2 (u65_ 2)) 3 (u65_ 3)) 4 (u65_ 4)) 5 (u56_ 4)) 6 (u56_ 5)) 7 (u65_ 5)) 8 (u65_ 6)))), (h8, .inr (6, mX6 h9 h10 h11 h12 h13 h14 h15 h16 v8)), (h11, zi k11 833 f11), (h10, zi k10 833 f10), (h9, zi k9 1250 f9), (h12, zi k12 400 f12), (h13, zi k13 400 f13), (h14, zi k14 400 f14)]) [12, 4, 5, 6, 7, 8, 9, 10] (by decide) rfl
                  have hKc := hK.sub (tys' := [(k11, .int), (k10, .int), (k9, .int), (k12, .int), (k13, .int), (k14, .int)]) [3, 4, 5, 6, 7, 8] rfl
                  have hFc := va_free (wc := [(a48_, .inr (8, mX8 h8 (upd (upd (upd (upd (upd (upd (upd (upd v48_ 1 (u65_ 1)) 2 (u65_ 2)) 3 (u65_ 3)) 4 (u65_ 4)) 5 (u56_ 4)) 6 (u56_ 5)) 7 (u65_ 5)) 8 (u65_ 6)))), (h8, .inr (6, mX6 h9 h10 h11 h12 h13 h14 h15 h16 v8)), (h11, zi k11 833 f11), (h10, zi k10 833 f10), (h9, zi k9 1250 f9), (h12, zi k12 400 f12), (h13, zi k13 400 f13), (h14, zi k14 400 f14)]) hD hS hA [12, 4, 5, 6, 7, 8, 9, 10] rfl
                  refine va_calli (va_runV (As := []) (rest := [.ref h0]) ⟨hx, hb, hml, hown, hG⟩ (sX8_nextPlace_0 l dC dI adK adV a48_ h8 h11 h10 h9 h12 h13 h14 h15 h16 k11 k10 k9 k12 k13 k14 H.size (upd (upd (upd (upd (upd (upd (upd (upd v48_ 1 (u65_ 1)) 2 (u65_ 2)) 3 (u65_ 3)) 4 (u65_ 4)) 5 (u56_ 4)) 6 (u56_ 5)) 7 (u65_ 5)) 8 (u65_ 6)) v8 f11 f10 f9 f12 f13 f14 hv8 hf10 hf13) (cwV 0 hG (zgV zv1227 zv942 zv943 zv134 zv944) rfl rfl rfl (by decide +kernel) ⟨Nat.le_of_ble_eq_true rfl, Nat.le_of_ble_eq_true rfl⟩) ⟨zPc_blind, va_recv hKc hPc (ci := 8) (q0 := 0) rfl rfl, zPc_pre hPc hKc hDc hE hS hFc hZ⟩ rfl rfl hl.1 rfl (lv_room (Nat.le_of_ble_eq_true rfl)) dX3_turnTo_76 ⟨Nat.le_of_ble_eq_true rfl, Nat.le_of_ble_eq_true rfl⟩) hS (fun q _ h => hFc q h) hFc (fun r76_ u76_ t H1 locs ht hvm hw hB hz1 hk1 hS => ?_)
                  replace hw : ((-2147483648) ≤ (u76_ 4).toInt ∧ (u76_ 4).toInt ≤ 2147483646) ∧ (zNp f9 f10 f11 f12 f13 f14 (v8 8).toInt (v8 9).toInt (v8 10).toInt (v8 11).toInt (u65_ 1).toInt (u65_ 2).toInt (u65_ 3).toInt (u65_ 4).toInt (u76_ 0).toInt (u76_ 1).toInt (u76_ 2).toInt (u76_ 3).toInt (u65_ 5).toInt (u65_ 6).toInt (u76_ 4).toInt (u76_ 5).toInt r76_.toInt) := hw
                  obtain ⟨b_, hX76_0⟩ := hw
                  obtain ⟨w76_, a76_, b76_, hP1, hK1, hD1⟩ := hB
                  rw [ht] at hP1
                  obtain ⟨hP, hD⟩ := va_joinQ (wr := [(h0, .inr (3, mX3 h1 h8 h17 h25 h26 h27 h28 h29 (upd v0 9 (u65_ 7)))), (h29, zi k29 300 (a65_ 1)), (h28, zi k28 832 (a65_ 0)), (h25, .inl (k25, 400, .inr (.inr (.inr (.inr f25))))), (h26, zi k26 400 f26)]) (w1 := [(a48_, .inr (8, mX8 h8 (upd (upd (upd (upd (upd (upd (upd (upd v48_ 1 (u76_ 0)) 2 (u76_ 1)) 3 (u76_ 2)) 4 (u76_ 3)) 5 (u56_ 4)) 6 (u56_ 5)) 7 (u76_ 4)) 8 (u76_ 5)))), (h8, .inr (6, mX6 h9 h10 h11 h12 h13 h14 h15 h16 v8)), (h11, zi k11 833 f11), (h10, zi k10 833 f10), (h9, zi k9 1250 f9), (h12, zi k12 400 f12), (h13, zi k13 400 f13), (h14, zi k14 400 f14)]) hP hD [12, 4, 5, 6, 7, 8, 9, 10] [0, 1, 2, 3, 11] rfl rfl (by decide) (by decide) hk1 hFc hP1 hD1
                  have hP : va_P (dC, dI) vwCl ([(h0, .inr (3, mX3 h1 h8 h17 h25 h26 h27 h28 h29 (upd v0 9 (u65_ 7)))), (h29, zi k29 300 (a65_ 1)), (h28, zi k28 832 (a65_ 0)), (h25, .inl (k25, 400, .inr (.inr (.inr (.inr f25))))), (h8, .inr (6, mX6 h9 h10 h11 h12 h13 h14 h15 h16 v8)), (h11, zi k11 833 f11), (h10, zi k10 833 f10), (h9, zi k9 1250 f9), (h12, zi k12 400 f12), (h13, zi k13 400 f13), (h14, zi k14 400 f14), (h26, zi k26 400 f26), (a48_, .inr (8, mX8 h8 (upd (upd (upd (upd (upd (upd (upd (upd v48_ 1 (u76_ 0)) 2 (u76_ 1)) 3 (u76_ 2)) 4 (u76_ 3)) 5 (u56_ 4)) 6 (u56_ 5)) 7 (u76_ 4)) 8 (u76_ 5))))] ++ (p48 ++ q48)) H1 := hP.part [0, 1, 2, 3, 6, 7, 8, 9, 10, 11, 12, 4, 5] rfl
                  have hD : va_D A ([(h0, .inr (3, mX3 h1 h8 h17 h25 h26 h27 h28 h29 (upd v0 9 (u65_ 7)))), (h29, zi k29 300 (a65_ 1)), (h28, zi k28 832 (a65_ 0)), (h25, .inl (k25, 400, .inr (.inr (.inr (.inr f25))))), (h8, .inr (6, mX6 h9 h10 h11 h12 h13 h14 h15 h16 v8)), (h11, zi k11 833 f11), (h10, zi k10 833 f10), (h9, zi k9 1250 f9), (h12, zi k12 400 f12), (h13, zi k13 400 f13), (h14, zi k14 400 f14), (h26, zi k26 400 f26), (a48_, .inr (8, mX8 h8 (upd (upd (upd (upd (upd (upd (upd (upd v48_ 1 (u76_ 0)) 2 (u76_ 1)) 3 (u76_ 2)) 4 (u76_ 3)) 5 (u56_ 4)) 6 (u56_ 5)) 7 (u76_ 4)) 8 (u76_ 5))))] ++ (p48 ++ q48)) := hD.part [0, 1, 2, 3, 6, 7, 8, 9, 10, 11, 12, 4, 5] (by decide) rfl
                  generalize H1 = H at hP hS ⊢
                  clear hz1
                  refine lv_aload_n hx hb dX3_turnTo_79 rfl (lv_at hl 0 rfl) ?_
                  refine va_get (D := (dC, dI)) (ci := 3) (v := .ref h26) (C := RX3) (T := TX3) (N := 10) hx hb hG zuX3 hown hK hP 0 rfl rfl 4 (by decide) (hG _ zv477) (fun _ h9 => h9) rfl dX3_turnTo_80 ?_
                  refine lv_iload_n hx hb dX3_turnTo_83 rfl (lv_at hl 2 rfl) ?_
                  refine va_iald hx hb hK hP 11 9 rfl rfl (zin_lit ⟨by omega, by omega⟩) dX3_turnTo_84 ?_
                  refine lv_topi (fun z84 e_z84 => ?_)
                  have b_ : 0 ≤ z84.toInt ∧ z84.toInt ≤ 399 := by rw [e_z84]; exact hf26 _
                  have hPc := hP.sub (ws' := [(h0, .inr (3, mX3 h1 h8 h17 h25 h26 h27 h28 h29 (upd v0 9 (u65_ 7)))), (h28, zi k28 832 (a65_ 0)), (h29, zi k29 300 (a65_ 1))]) [0, 2, 1] rfl
                  have hDc := hD.sub (ws' := [(h0, .inr (3, mX3 h1 h8 h17 h25 h26 h27 h28 h29 (upd v0 9 (u65_ 7)))), (h28, zi k28 832 (a65_ 0)), (h29, zi k29 300 (a65_ 1))]) [0, 2, 1] (by decide) rfl
                  have hKc := hK.sub (tys' := [(k28, .int), (k29, .int)]) [1, 0] rfl
                  have hFc := va_free (wc := [(h0, .inr (3, mX3 h1 h8 h17 h25 h26 h27 h28 h29 (upd v0 9 (u65_ 7)))), (h28, zi k28 832 (a65_ 0)), (h29, zi k29 300 (a65_ 1))]) hD hS hA [0, 2, 1] rfl
                  refine va_callv (va_runV (As := [.int r76_, .int z84]) (rest := []) ⟨hx, hb, hml, hown, hG⟩ (sX3_see_0 l dC dI adK adV h0 h28 h29 h1 h8 h17 h25 h26 h27 k28 k29 H.size (upd v0 9 (u65_ 7)) (a65_ 0) (a65_ 1) r76_ z84 (zR_up2 hv0 9 (show (0 : Int) ≤ ((u65_ 7) : Int32).toInt ∧ ((u65_ 7) : Int32).toInt ≤ (300 : Int) from (by first | with_reducible assumption | exact ⟨by omega, by omega⟩))) ha65_1) (cwV 2 hG (zgV zv1228 zv1230 zv34 zv140 zv1231) rfl rfl rfl (by decide +kernel) ⟨Nat.le_of_ble_eq_true rfl, Nat.le_of_ble_eq_true rfl⟩) ⟨zPc_blind, va_recv hKc hPc (ci := 3) (q0 := 0) rfl rfl, zPc_pre hPc hKc hDc hE hS hFc hZ⟩ rfl rfl hl.1 rfl (lv_room (Nat.le_of_ble_eq_true rfl)) dX3_turnTo_85 ⟨Nat.le_of_ble_eq_true rfl, Nat.le_of_ble_eq_true rfl⟩) hS (fun q _ h => hFc q h) hFc (fun u85_ t H1 locs ht hvm hw hB hz1 hk1 hS => ?_)
                  replace hw : (0 ≤ (u85_ 0).toInt ∧ (u85_ 0).toInt ≤ 300) := hw
                  have b_ := hw
                  obtain ⟨w85_, a85_, b85_, ha85_1, hP1, hK1, hD1⟩ := hB
                  rw [ht] at hP1
                  obtain ⟨hP, hD⟩ := va_joinQ (wr := [(h25, .inl (k25, 400, .inr (.inr (.inr (.inr f25))))), (h8, .inr (6, mX6 h9 h10 h11 h12 h13 h14 h15 h16 v8)), (h11, zi k11 833 f11), (h10, zi k10 833 f10), (h9, zi k9 1250 f9), (h12, zi k12 400 f12), (h13, zi k13 400 f13), (h14, zi k14 400 f14), (h26, zi k26 400 f26), (a48_, .inr (8, mX8 h8 (upd (upd (upd (upd (upd (upd (upd (upd v48_ 1 (u76_ 0)) 2 (u76_ 1)) 3 (u76_ 2)) 4 (u76_ 3)) 5 (u56_ 4)) 6 (u56_ 5)) 7 (u76_ 4)) 8 (u76_ 5))))]) (w1 := [(h0, .inr (3, mX3 h1 h8 h17 h25 h26 h27 h28 h29 (upd v0 9 (u85_ 0)))), (h28, zi k28 832 (a85_ 0)), (h29, zi k29 300 (a85_ 1))]) hP hD [0, 2, 1] [3, 4, 5, 6, 7, 8, 9, 10, 11, 12] rfl rfl (by decide) (by decide) hk1 hFc hP1 hD1
                  have hP : va_P (dC, dI) vwCl ([(h0, .inr (3, mX3 h1 h8 h17 h25 h26 h27 h28 h29 (upd v0 9 (u85_ 0)))), (h29, zi k29 300 (a85_ 1)), (h28, zi k28 832 (a85_ 0)), (h25, .inl (k25, 400, .inr (.inr (.inr (.inr f25))))), (h8, .inr (6, mX6 h9 h10 h11 h12 h13 h14 h15 h16 v8)), (h11, zi k11 833 f11), (h10, zi k10 833 f10), (h9, zi k9 1250 f9), (h12, zi k12 400 f12), (h13, zi k13 400 f13), (h14, zi k14 400 f14), (h26, zi k26 400 f26), (a48_, .inr (8, mX8 h8 (upd (upd (upd (upd (upd (upd (upd (upd v48_ 1 (u76_ 0)) 2 (u76_ 1)) 3 (u76_ 2)) 4 (u76_ 3)) 5 (u56_ 4)) 6 (u56_ 5)) 7 (u76_ 4)) 8 (u76_ 5))))] ++ (p48 ++ q48)) H1 := hP.part [10, 12, 11, 0, 1, 2, 3, 4, 5, 6, 7, 8, 9] rfl
                  have hD : va_D A ([(h0, .inr (3, mX3 h1 h8 h17 h25 h26 h27 h28 h29 (upd v0 9 (u85_ 0)))), (h29, zi k29 300 (a85_ 1)), (h28, zi k28 832 (a85_ 0)), (h25, .inl (k25, 400, .inr (.inr (.inr (.inr f25))))), (h8, .inr (6, mX6 h9 h10 h11 h12 h13 h14 h15 h16 v8)), (h11, zi k11 833 f11), (h10, zi k10 833 f10), (h9, zi k9 1250 f9), (h12, zi k12 400 f12), (h13, zi k13 400 f13), (h14, zi k14 400 f14), (h26, zi k26 400 f26), (a48_, .inr (8, mX8 h8 (upd (upd (upd (upd (upd (upd (upd (upd v48_ 1 (u76_ 0)) 2 (u76_ 1)) 3 (u76_ 2)) 4 (u76_ 3)) 5 (u56_ 4)) 6 (u56_ 5)) 7 (u76_ 4)) 8 (u76_ 5))))] ++ (p48 ++ q48)) := hD.part [10, 12, 11, 0, 1, 2, 3, 4, 5, 6, 7, 8, 9] (by decide) rfl
                  generalize H1 = H at hP hS ⊢
                  clear hz1
                  obtain ⟨z88, e_z88⟩ : ∃ z : Int32, z = (u65_ 0) + Int32.ofInt 1 := ⟨_, rfl⟩
                  have b_ := zadd (x := (u65_ 0)) (y := Int32.ofInt 1) rfl (show (Int32.ofInt 1).toInt = 1 from by decide) e_z88 (by omega) (by omega)
                  refine lv_iinc (v := z88) (lv' := [(4, .int z88), (0, .ref h0), (1, .int x1), (2, .int (u35_ 0)), (3, .ref a48_)]) hx hb dX3_turnTo_88 hl (k := 4) rfl e_z88.symm (by decide) rfl (fun ls hl => ?_)
                  refine lv_goto (tgt := 65) hx hb dX3_turnTo_91 (by decide) ?_
                  have hc : va_P (dC, dI) vwCl ([(h0, .inr (3, mX3 h1 h8 h17 h25 h26 h27 h28 h29 (upd v0 9 (u85_ 0)))), (h29, zi k29 300 (a85_ 1)), (h28, zi k28 832 (a85_ 0)), (h25, .inl (k25, 400, .inr (.inr (.inr (.inr f25))))), (h8, .inr (6, mX6 h9 h10 h11 h12 h13 h14 h15 h16 v8)), (h11, zi k11 833 f11), (h10, zi k10 833 f10), (h9, zi k9 1250 f9), (h12, zi k12 400 f12), (h13, zi k13 400 f13), (h14, zi k14 400 f14), (h26, zi k26 400 f26), (a48_, .inr (8, mX8 h8 (upd (upd (upd (upd (upd (upd (upd (upd v48_ 1 (u76_ 0)) 2 (u76_ 1)) 3 (u76_ 2)) 4 (u76_ 3)) 5 (u56_ 4)) 6 (u56_ 5)) 7 (u76_ 4)) 8 (u76_ 5))))] ++ (p48 ++ q48)) H ∧ va_D A ([(h0, .inr (3, mX3 h1 h8 h17 h25 h26 h27 h28 h29 (upd v0 9 (u85_ 0)))), (h29, zi k29 300 (a85_ 1)), (h28, zi k28 832 (a85_ 0)), (h25, .inl (k25, 400, .inr (.inr (.inr (.inr f25))))), (h8, .inr (6, mX6 h9 h10 h11 h12 h13 h14 h15 h16 v8)), (h11, zi k11 833 f11), (h10, zi k10 833 f10), (h9, zi k9 1250 f9), (h12, zi k12 400 f12), (h13, zi k13 400 f13), (h14, zi k14 400 f14), (h26, zi k26 400 f26), (a48_, .inr (8, mX8 h8 (upd (upd (upd (upd (upd (upd (upd (upd v48_ 1 (u76_ 0)) 2 (u76_ 1)) 3 (u76_ 2)) 4 (u76_ 3)) 5 (u56_ 4)) 6 (u56_ 5)) 7 (u76_ 4)) 8 (u76_ 5))))] ++ (p48 ++ q48)) ∧ va_S A s.heap H locs ∧ lv_has ls 5 [(0, .ref h0), (1, .int x1), (2, .int (u35_ 0)), (3, .ref a48_), (4, .int z88)] ∧ zA 0 831 (a85_ 1) ∧ (0 ≤ z88.toInt ∧ z88.toInt ≤ 2147483647) ∧ (0 ≤ (u85_ 0).toInt ∧ (u85_ 0).toInt ≤ 300) := ⟨hP, hD, hS, lv_sub hl [1, 2, 3, 4, 0] rfl, ha85_1, (by first | with_reducible assumption | exact ⟨by omega, by omega⟩), (by first | with_reducible assumption | exact ⟨by omega, by omega⟩)⟩
                  exact hJ65 H locs ls (fun i => ([z88, (u76_ 0), (u76_ 1), (u76_ 2), (u76_ 3), (u76_ 4), (u76_ 5), (u85_ 0)] : List (Int32)).getD i 0) (fun _ => 0) (fun i => ([(a85_ 0), (a85_ 1)] : List (Nat → Int32)).getD i (fun _ => 0)) (fun _ => (fun _ => 0)) ⟨(fun _ => (fun _ => none)), (p48 ++ q48), hc⟩ (show (2147483647 - z88.toInt).toNat < (2147483647 - (u65_ 0).toInt).toNat from by omega)
              · skip
                have hc : va_P (dC, dI) vwCl ([(h0, .inr (3, mX3 h1 h8 h17 h25 h26 h27 h28 h29 (upd v0 9 (u35_ 1)))), (h29, zi k29 300 (a35_ 1)), (h28, zi k28 832 (a35_ 0)), (h25, .inl (k25, 400, .inr (.inr (.inr (.inr f25))))), (h8, .inr (6, mX6 h9 h10 h11 h12 h13 h14 h15 h16 v8)), (h11, zi k11 833 f11), (h10, zi k10 833 f10), (h9, zi k9 1250 f9), (h12, zi k12 400 f12), (h13, zi k13 400 f13), (h14, zi k14 400 f14), (h26, zi k26 400 f26), (a48_, .inr (8, mX8 h8 (upd (upd (upd (upd (upd (upd (upd (upd v48_ 1 (u56_ 0)) 2 (u56_ 1)) 3 (u56_ 2)) 4 (u56_ 3)) 5 (u56_ 4)) 6 (u56_ 5)) 7 (u56_ 6)) 8 (u56_ 7))))] ++ (p48 ++ q48)) H ∧ va_D A ([(h0, .inr (3, mX3 h1 h8 h17 h25 h26 h27 h28 h29 (upd v0 9 (u35_ 1)))), (h29, zi k29 300 (a35_ 1)), (h28, zi k28 832 (a35_ 0)), (h25, .inl (k25, 400, .inr (.inr (.inr (.inr f25))))), (h8, .inr (6, mX6 h9 h10 h11 h12 h13 h14 h15 h16 v8)), (h11, zi k11 833 f11), (h10, zi k10 833 f10), (h9, zi k9 1250 f9), (h12, zi k12 400 f12), (h13, zi k13 400 f13), (h14, zi k14 400 f14), (h26, zi k26 400 f26), (a48_, .inr (8, mX8 h8 (upd (upd (upd (upd (upd (upd (upd (upd v48_ 1 (u56_ 0)) 2 (u56_ 1)) 3 (u56_ 2)) 4 (u56_ 3)) 5 (u56_ 4)) 6 (u56_ 5)) 7 (u56_ 6)) 8 (u56_ 7))))] ++ (p48 ++ q48)) ∧ va_S A s.heap H locs ∧ lv_has ls 5 [(0, .ref h0), (1, .int x1), (2, .int (u35_ 0)), (3, .ref a48_), (4, .int 0)] ∧ zA 0 831 (a35_ 1) ∧ (0 ≤ (0 : Int32).toInt ∧ (0 : Int32).toInt ≤ 2147483647) ∧ (0 ≤ (u35_ 1).toInt ∧ (u35_ 1).toInt ≤ 300) := ⟨hP, hD, hS, lv_sub hl [2, 3, 4, 1, 0] rfl, ha35_1, (by first | with_reducible assumption | exact ⟨by omega, by omega⟩), (by first | with_reducible assumption | exact ⟨by omega, by omega⟩)⟩
                exact hJ65 H locs ls (fun i => ([0, (u56_ 0), (u56_ 1), (u56_ 2), (u56_ 3), (u56_ 6), (u56_ 7), (u35_ 1)] : List (Int32)).getD i 0) (fun _ => 0) (fun i => ([(a35_ 0), (a35_ 1)] : List (Nat → Int32)).getD i (fun _ => 0)) (fun _ => (fun _ => 0)) ⟨(fun _ => (fun _ => none)), (p48 ++ q48), hc⟩
      · skip
        have hc : va_P (dC, dI) vwCl ([(h0, .inr (3, mX3 h1 h8 h17 h25 h26 h27 h28 h29 (upd v0 9 0))), (h29, zi k29 300 f29), (h28, zi k28 832 (a2_ 0)), (h25, .inl (k25, 400, .inr (.inr (.inr (.inr f25))))), (h8, .inr (6, mX6 h9 h10 h11 h12 h13 h14 h15 h16 v8)), (h11, zi k11 833 f11), (h10, zi k10 833 f10), (h9, zi k9 1250 f9), (h12, zi k12 400 f12), (h13, zi k13 400 f13), (h14, zi k14 400 f14), (h26, zi k26 400 f26)] ++ pl2) H ∧ va_D A ([(h0, .inr (3, mX3 h1 h8 h17 h25 h26 h27 h28 h29 (upd v0 9 0))), (h29, zi k29 300 f29), (h28, zi k28 832 (a2_ 0)), (h25, .inl (k25, 400, .inr (.inr (.inr (.inr f25))))), (h8, .inr (6, mX6 h9 h10 h11 h12 h13 h14 h15 h16 v8)), (h11, zi k11 833 f11), (h10, zi k10 833 f10), (h9, zi k9 1250 f9), (h12, zi k12 400 f12), (h13, zi k13 400 f13), (h14, zi k14 400 f14), (h26, zi k26 400 f26)] ++ pl2) ∧ va_S A s.heap H locs ∧ lv_has ls 5 [(0, .ref h0), (1, .int x1), (2, .int 0)] ∧ zA 0 831 f29 ∧ (0 ≤ (0 : Int32).toInt ∧ (0 : Int32).toInt ≤ 400) ∧ (0 ≤ (0 : Int32).toInt ∧ (0 : Int32).toInt ≤ 300) ∧ (zRd h8 f25 pl2) ∧ (zKp h8 pl0 pl2) := ⟨hP, hD, hS, lv_sub hl [1, 2, 0] rfl, hf29, (by first | with_reducible assumption | exact ⟨by omega, by omega⟩), (by first | with_reducible assumption | exact ⟨by omega, by omega⟩), by assumption, by first | assumption | exact zKp_rf⟩
        exact hJ35 H locs ls (fun i => ([0, 0] : List (Int32)).getD i 0) (fun _ => 0) (fun i => ([(a2_ 0), f29] : List (Nat → Int32)).getD i (fun _ => 0)) (fun _ => (fun _ => 0)) ⟨(fun _ => (fun _ => none)), pl2, hc⟩
    · skip
      have b_ := zF_ge rfl rfl c_
      refine lv_aload_n hx hb dX3_turnTo_10 rfl (lv_at hl 0 rfl) ?_
      refine va_get (D := (dC, dI)) (ci := 3) (v := .ref h28) (C := RX3) (T := TX3) (N := 10) hx hb hG zuX3 hown hK hP 0 rfl rfl 6 (by decide) (hG _ zv479) (fun _ h9 => h9) rfl dX3_turnTo_11 ?_
      refine lv_aload_n hx hb dX3_turnTo_14 rfl (lv_at hl 0 rfl) ?_
      refine va_get (D := (dC, dI)) (ci := 3) (v := .ref h29) (C := RX3) (T := TX3) (N := 10) hx hb hG zuX3 hown hK hP 0 rfl rfl 7 (by decide) (hG _ zv480) (fun _ h9 => h9) rfl dX3_turnTo_15 ?_
      refine lv_iload_n hx hb dX3_turnTo_18 rfl (lv_at hl 2 rfl) ?_
      refine va_iald hx hb hK hP 1 0 rfl rfl (zin_lit ⟨by omega, by omega⟩) dX3_turnTo_19 ?_
      refine lv_topi (fun z19 e_z19 => ?_)
      have b_ : 0 ≤ z19.toInt ∧ z19.toInt ≤ 831 := by rw [e_z19]; exact hf29 _
      refine lv_iconst (v := (-1)) hx hb dX3_turnTo_20 (by decide) ?_
      refine va_iast hx hb hK hP hD hS 2 1 rfl rfl (zin_lit ⟨by omega, by omega⟩) dX3_turnTo_21 (fun H locs hP hD hS => ?_)
      obtain ⟨f_21, e_f_21⟩ : ∃ z : Nat → Int32, z = upd (a2_ 0) (z19 : Int32).toNatClampNeg (-1) := ⟨_, rfl⟩
      have hP : va_P (dC, dI) vwCl ([(h0, .inr (3, mX3 h1 h8 h17 h25 h26 h27 h28 h29 v0)), (h29, zi k29 300 f29), (h28, zi k28 832 f_21), (h25, .inl (k25, 400, .inr (.inr (.inr (.inr f25))))), (h8, .inr (6, mX6 h9 h10 h11 h12 h13 h14 h15 h16 v8)), (h11, zi k11 833 f11), (h10, zi k10 833 f10), (h9, zi k9 1250 f9), (h12, zi k12 400 f12), (h13, zi k13 400 f13), (h14, zi k14 400 f14), (h26, zi k26 400 f26)] ++ pl2) H := by rw [e_f_21]; exact hP
      have hD : va_D A ([(h0, .inr (3, mX3 h1 h8 h17 h25 h26 h27 h28 h29 v0)), (h29, zi k29 300 f29), (h28, zi k28 832 f_21), (h25, .inl (k25, 400, .inr (.inr (.inr (.inr f25))))), (h8, .inr (6, mX6 h9 h10 h11 h12 h13 h14 h15 h16 v8)), (h11, zi k11 833 f11), (h10, zi k10 833 f10), (h9, zi k9 1250 f9), (h12, zi k12 400 f12), (h13, zi k13 400 f13), (h14, zi k14 400 f14), (h26, zi k26 400 f26)] ++ pl2) := by rw [e_f_21]; exact hD
      obtain ⟨z22, e_z22⟩ : ∃ z : Int32, z = (u2_ 0) + Int32.ofInt 1 := ⟨_, rfl⟩
      have b_ := zadd (x := (u2_ 0)) (y := Int32.ofInt 1) rfl (show (Int32.ofInt 1).toInt = 1 from by decide) e_z22 (by omega) (by omega)
      refine lv_iinc (v := z22) (lv' := [(2, .int z22), (0, .ref h0), (1, .int x1)]) hx hb dX3_turnTo_22 hl (k := 2) rfl e_z22.symm (by decide) rfl (fun ls hl => ?_)
      refine lv_goto (tgt := 2) hx hb dX3_turnTo_25 (by decide) ?_
      have hc : va_P (dC, dI) vwCl ([(h0, .inr (3, mX3 h1 h8 h17 h25 h26 h27 h28 h29 v0)), (h29, zi k29 300 f29), (h28, zi k28 832 f_21), (h25, .inl (k25, 400, .inr (.inr (.inr (.inr f25))))), (h8, .inr (6, mX6 h9 h10 h11 h12 h13 h14 h15 h16 v8)), (h11, zi k11 833 f11), (h10, zi k10 833 f10), (h9, zi k9 1250 f9), (h12, zi k12 400 f12), (h13, zi k13 400 f13), (h14, zi k14 400 f14), (h26, zi k26 400 f26)] ++ pl2) H ∧ va_D A ([(h0, .inr (3, mX3 h1 h8 h17 h25 h26 h27 h28 h29 v0)), (h29, zi k29 300 f29), (h28, zi k28 832 f_21), (h25, .inl (k25, 400, .inr (.inr (.inr (.inr f25))))), (h8, .inr (6, mX6 h9 h10 h11 h12 h13 h14 h15 h16 v8)), (h11, zi k11 833 f11), (h10, zi k10 833 f10), (h9, zi k9 1250 f9), (h12, zi k12 400 f12), (h13, zi k13 400 f13), (h14, zi k14 400 f14), (h26, zi k26 400 f26)] ++ pl2) ∧ va_S A s.heap H locs ∧ lv_has ls 5 [(0, .ref h0), (1, .int x1), (2, .int z22)] ∧ (0 ≤ z22.toInt ∧ z22.toInt ≤ 300) ∧ (zRd h8 f25 pl2) ∧ (zKp h8 pl0 pl2) := ⟨hP, hD, hS, lv_sub hl [1, 2, 0] rfl, (by first | with_reducible assumption | exact ⟨by omega, by omega⟩), by assumption, by first | assumption | exact zKp_rf⟩
      exact hJ2 H locs ls (fun i => ([z22] : List (Int32)).getD i 0) (fun _ => 0) (fun i => ([f_21] : List (Nat → Int32)).getD i (fun _ => 0)) (fun _ => (fun _ => 0)) ⟨(fun _ => (fun _ => none)), pl2, hc⟩ (show (300 - z22.toInt).toNat < (300 - (u2_ 0).toInt).toNat from by omega)
  · skip
    have hc : va_P (dC, dI) vwCl ([(h0, .inr (3, mX3 h1 h8 h17 h25 h26 h27 h28 h29 v0)), (h29, zi k29 300 f29), (h28, zi k28 832 f28), (h25, .inl (k25, 400, .inr (.inr (.inr (.inr f25))))), (h8, .inr (6, mX6 h9 h10 h11 h12 h13 h14 h15 h16 v8)), (h11, zi k11 833 f11), (h10, zi k10 833 f10), (h9, zi k9 1250 f9), (h12, zi k12 400 f12), (h13, zi k13 400 f13), (h14, zi k14 400 f14), (h26, zi k26 400 f26)] ++ pl0) s.heap ∧ va_D A ([(h0, .inr (3, mX3 h1 h8 h17 h25 h26 h27 h28 h29 v0)), (h29, zi k29 300 f29), (h28, zi k28 832 f28), (h25, .inl (k25, 400, .inr (.inr (.inr (.inr f25))))), (h8, .inr (6, mX6 h9 h10 h11 h12 h13 h14 h15 h16 v8)), (h11, zi k11 833 f11), (h10, zi k10 833 f10), (h9, zi k9 1250 f9), (h12, zi k12 400 f12), (h13, zi k13 400 f13), (h14, zi k14 400 f14), (h26, zi k26 400 f26)] ++ pl0) ∧ va_S A s.heap s.heap [] ∧ lv_has ls 5 [(0, .ref h0), (1, .int x1), (2, .int 0)] ∧ (0 ≤ (0 : Int32).toInt ∧ (0 : Int32).toInt ≤ 300) ∧ (zRd h8 f25 pl0) ∧ (zKp h8 pl0 pl0) := ⟨hP, hD, hS, lv_sub hl [1, 2, 0] rfl, (by first | with_reducible assumption | exact ⟨by omega, by omega⟩), by assumption, by first | assumption | exact zKp_rf⟩
    exact hJ2 s.heap [] ls (fun i => ([0] : List (Int32)).getD i 0) (fun _ => 0) (fun i => ([f28] : List (Nat → Int32)).getD i (fun _ => 0)) (fun _ => (fun _ => 0)) ⟨(fun _ => (fun _ => none)), pl0, hc⟩
set_option maxHeartbeats 8000000 in
set_option maxRecDepth 100000 in
theorem p16_sX5_clear_0 (l : Launch) (dC : Nat → ClassId) (dI : Nat → Nat → Nat) (adK adV : Nat → Nat) (h0 : Nat) (h1 : Nat) (k1 : ClassId) (sz : Nat) (f1 : Nat → Int32) : Met l yX5_clear (zw yX5_clear cX5_clear 1 none) { frames := 1, cells := 0, slots := 0, locals := 23 } (zPc dC dI adK adV [.ref h0] sz [(h0, .inr (5, mX5 h1)), (h1, zi k1 26 f1)] [(k1, .int)]) (va_Qv (fun (u : Nat → Int32) => True) (fun (u : Nat → Int32) (t : State) => ∃ (ww : Nat → Int64) (aa : Nat → Nat → Int32) (bb : Nat → Nat → Int64), (∀ q : Nat, q < 832 → zpb (aa 0) q = false) ∧ va_P (dC, dI) vwCl [(h0, .inr (5, mX5 h1)), (h1, zi k1 26 (aa 0))] t.heap ∧ va_K (dC, dI) vwCl [(k1, .int)] t ∧ va_D (va_A [(h0, .inr (5, mX5 h1)), (h1, zi k1 26 f1)] sz) [(h0, .inr (5, mX5 h1)), (h1, zi k1 26 (aa 0))]) (va_A [(h0, .inr (5, mX5 h1)), (h1, zi k1 26 f1)] sz)) 0 0 (va_A [(h0, .inr (5, mX5 h1)), (h1, zi k1 26 f1)] sz) := by
  refine Met.ofW (cc := cX5_clear) (maxL := 1) (ret := none) (by decide) rfl ?_
  intro p e s m args below meth c s₁ B hml hv
  obtain ⟨rfl, hsz, hP, hK, hD0, hE, hZ⟩ := hv
  have hx := B.exec
  have hb := B.bytes
  have hr := B.returns
  have hG : ∀ w ∈ zG, w.before _ s = true := fun w h => atoms_spec (ws := (zw yX5_clear cX5_clear 1 none)) B.pre w (List.mem_cons_of_mem _ h)
  have hown : s.vm.findClass RX5 = some m.cls := findClass_of_methodNamed B.named
  have hlocks := B.notSynchronized

  subst hsz
  have hD := hD0.self (sz := s.heap.size)
  generalize hAe : va_A [(h0, .inr (5, mX5 h1)), (h1, zi k1 26 f1)] s.heap.size = A at hD hZ ⊢
  have hA : ∀ q : Nat, s.heap.size ≤ q → A q := fun q h => by rw [← hAe]; exact Or.inr h
  have hS : va_S A s.heap s.heap [] := va_S.rf
  have hl := lv_entry ([.ref h0]) (n := 1) (Nat.le_of_ble_eq_true rfl)
  rw [lg_entry_eq]
  generalize (lg_sl ([.ref h0]) ++ List.replicate (1 - (lg_sl ([.ref h0])).length) Slot.unset).toArray = ls at hl ⊢
  have hl : lv_has ls 1 [(0, .ref h0)] := hl
  refine lv_aload_n hx hb dX5_clear_0 rfl (lv_at hl 0 rfl) ?_
  refine va_get (D := (dC, dI)) (ci := 5) (v := .ref h1) (C := RX5) (T := TX5) (N := 1) hx hb hG zuX5 hown hK hP 0 rfl rfl 0 (by decide) (hG _ zv458) (fun _ h9 => h9) rfl dX5_clear_1 ?_
  refine lv_iconst (v := 0) hx hb dX5_clear_4 (by decide) ?_
  have hPc := hP.sub (ws' := [(h1, zi k1 26 f1)]) [1] rfl
  have hDc := hD.sub (ws' := [(h1, zi k1 26 f1)]) [1] (by decide) rfl
  have hKc := hK.sub (tys' := [(k1, .int)]) [0] rfl
  have hFc := va_free (wc := [(h1, zi k1 26 f1)]) hD hS hA [1] rfl
  refine va_callv (va_runS (As := [.ref h1, .int 0]) (rest := []) ⟨hx, hb, hml, hown, hG⟩ (sJ7_fill_53178_0 l dC dI adK adV h1 k1 s.heap.size f1 0) (va_cwS 2 hG (zgS zv1255 zv471 zv141 zv472) rfl rfl rfl (by decide +kernel) ⟨Nat.le_of_ble_eq_true rfl, Nat.le_of_ble_eq_true rfl⟩) ⟨zPc_blind, zPc_pre hPc hKc hDc hE hS hFc hZ⟩ rfl rfl hl.1 rfl (lv_room (Nat.le_of_ble_eq_true rfl)) dX5_clear_5 ⟨Nat.le_of_ble_eq_true rfl, Nat.le_of_ble_eq_true rfl⟩) hS (fun q _ h => hFc q h) hFc (fun u5_ t H1 locs ht hvm hw hB hz1 hk1 hS => ?_)
  obtain ⟨w5_, a5_, b5_, hB5_0, hP1, hK1, hD1⟩ := hB
  have hB5_0 : ∀ j : Nat, (j : Int) < 26 → (a5_ 0) j = (0 : Int32) := hB5_0
  rw [ht] at hP1
  obtain ⟨hP, hD⟩ := va_join (wr := [(h0, .inr (5, mX5 h1))]) (w1 := [(h1, zi k1 26 (a5_ 0))]) hP hD [1] [0] rfl rfl (by decide) (by decide) hk1 hFc hP1 hD1
  have hP : va_P (dC, dI) vwCl [(h0, .inr (5, mX5 h1)), (h1, zi k1 26 (a5_ 0))] H1 := hP.sub [0, 1] rfl
  have hD : va_D A [(h0, .inr (5, mX5 h1)), (h1, zi k1 26 (a5_ 0))] := hD.sub [0, 1] (by decide) rfl
  generalize H1 = H at hP hS ⊢
  clear hz1
  refine W.widen (k := 0) (n := 0) (by decide) (by decide) ?_
  have hpost : True := trivial
  have hP9 : va_P (dC, dI) vwCl [(h0, .inr (5, mX5 h1)), (h1, zi k1 26 (a5_ 0))] H := hP
  have hD9 : va_D A [(h0, .inr (5, mX5 h1)), (h1, zi k1 26 (a5_ 0))] := hD
  have hB0 : ∀ q : Nat, q < 832 → zpb (a5_ 0) q = false := by exact zclr_z hB5_0
  exact W.vret hx hb hr (fun t ht hW => ⟨⟨(fun _ => 0), rfl, hpost, (fun _ => 0), (fun i => ([(a5_ 0)] : List (Nat → Int32)).getD i (fun _ => 0)), (fun _ => (fun _ => 0)), hB0, by rw [ht]; exact hP9, va_K.moved hW.alike hK, hD9⟩, hS.F ht⟩) hS.2.2 dX5_clear_8
set_option maxHeartbeats 8000000 in
set_option maxRecDepth 100000 in
theorem p16_sX5_put_0 (l : Launch) (dC : Nat → ClassId) (dI : Nat → Nat → Nat) (adK adV : Nat → Nat) (h0 : Nat) (h1 : Nat) (k1 : ClassId) (sz : Nat) (f1 : Nat → Int32) (x1 : Int32) : Met l yX5_put (zw yX5_put cX5_put 2 none) { frames := 0, cells := 0, slots := 0, locals := 0 } (zPc dC dI adK adV [.ref h0, .int x1] sz [(h0, .inr (5, mX5 h1)), (h1, zi k1 26 f1)] [(k1, .int)]) (va_Qv (fun (u : Nat → Int32) => True) (fun (u : Nat → Int32) (t : State) => ∃ (ww : Nat → Int64) (aa : Nat → Nat → Int32) (bb : Nat → Nat → Int64), (zpP f1 (aa 0) x1.toInt) ∧ va_P (dC, dI) vwCl [(h0, .inr (5, mX5 h1)), (h1, zi k1 26 (aa 0))] t.heap ∧ va_K (dC, dI) vwCl [(k1, .int)] t ∧ va_D (va_A [(h0, .inr (5, mX5 h1)), (h1, zi k1 26 f1)] sz) [(h0, .inr (5, mX5 h1)), (h1, zi k1 26 (aa 0))]) (va_A [(h0, .inr (5, mX5 h1)), (h1, zi k1 26 f1)] sz)) 0 0 (va_A [(h0, .inr (5, mX5 h1)), (h1, zi k1 26 f1)] sz) := by
  refine Met.ofW (cc := cX5_put) (maxL := 2) (ret := none) (by decide) rfl ?_
  intro p e s m args below meth c s₁ B hml hv
  obtain ⟨rfl, hsz, hP, hK, hD0, hE, hZ⟩ := hv
  have hx := B.exec
  have hb := B.bytes
  have hr := B.returns
  have hG : ∀ w ∈ zG, w.before _ s = true := fun w h => atoms_spec (ws := (zw yX5_put cX5_put 2 none)) B.pre w (List.mem_cons_of_mem _ h)
  have hown : s.vm.findClass RX5 = some m.cls := findClass_of_methodNamed B.named
  have hlocks := B.notSynchronized

  subst hsz
  have hD := hD0.self (sz := s.heap.size)
  generalize hAe : va_A [(h0, .inr (5, mX5 h1)), (h1, zi k1 26 f1)] s.heap.size = A at hD hZ ⊢
  have hA : ∀ q : Nat, s.heap.size ≤ q → A q := fun q h => by rw [← hAe]; exact Or.inr h
  have hS : va_S A s.heap s.heap [] := va_S.rf
  have hl := lv_entry ([.ref h0, .int x1]) (n := 2) (Nat.le_of_ble_eq_true rfl)
  rw [lg_entry_eq]
  generalize (lg_sl ([.ref h0, .int x1]) ++ List.replicate (2 - (lg_sl ([.ref h0, .int x1])).length) Slot.unset).toArray = ls at hl ⊢
  have hl : lv_has ls 2 [(0, .ref h0), (1, .int x1)] := hl
  refine lv_iload_n hx hb dX5_put_0 rfl (lv_at hl 1 rfl) ?_
  have b_ : -2147483648 ≤ x1.toInt ∧ x1.toInt ≤ 2147483647 := ⟨zlo _, zhi _⟩
  refine lv_if_lt (tgt := 29) hx hb dX5_put_1 (by decide) (fun c_ => ?_) (fun c_ => ?_)
  · skip
    have b_ := zT_lt rfl zk_0 c_
    refine W.widen (k := 0) (n := 0) (by decide) (by decide) ?_
    have hpost : True := trivial
    have hP9 : va_P (dC, dI) vwCl [(h0, .inr (5, mX5 h1)), (h1, zi k1 26 f1)] s.heap := hP
    have hD9 : va_D A [(h0, .inr (5, mX5 h1)), (h1, zi k1 26 f1)] := hD
    have hB0 : zpP f1 f1 x1.toInt := by first | exact zpP_i e_z20 e_z26 e_z27 e_f_28 (by omega) (by omega) (by omega) | exact zpP_o (by omega)
    exact W.vret hx hb hr (fun t ht hW => ⟨⟨(fun _ => 0), rfl, hpost, (fun _ => 0), (fun i => ([f1] : List (Nat → Int32)).getD i (fun _ => 0)), (fun _ => (fun _ => 0)), hB0, by rw [ht]; exact hP9, va_K.moved hW.alike hK, hD9⟩, hS.F ht⟩) hS.2.2 dX5_put_29
  · skip
    have b_ := zF_lt rfl zk_0 c_
    refine lv_iload_n hx hb dX5_put_4 rfl (lv_at hl 1 rfl) ?_
    refine lv_sipush (v := 832) hx hb dX5_put_5 (by decide) ?_
    refine lv_icmp_ge (tgt := 29) hx hb dX5_put_8 (by decide) (fun c_ => ?_) (fun c_ => ?_)
    · skip
      have b_ := zT_ge rfl zk_832 c_
      refine W.widen (k := 0) (n := 0) (by decide) (by decide) ?_
      have hpost : True := trivial
      have hP9 : va_P (dC, dI) vwCl [(h0, .inr (5, mX5 h1)), (h1, zi k1 26 f1)] s.heap := hP
      have hD9 : va_D A [(h0, .inr (5, mX5 h1)), (h1, zi k1 26 f1)] := hD
      have hB0 : zpP f1 f1 x1.toInt := by first | exact zpP_i e_z20 e_z26 e_z27 e_f_28 (by omega) (by omega) (by omega) | exact zpP_o (by omega)
      exact W.vret hx hb hr (fun t ht hW => ⟨⟨(fun _ => 0), rfl, hpost, (fun _ => 0), (fun i => ([f1] : List (Nat → Int32)).getD i (fun _ => 0)), (fun _ => (fun _ => 0)), hB0, by rw [ht]; exact hP9, va_K.moved hW.alike hK, hD9⟩, hS.F ht⟩) hS.2.2 dX5_put_29
    · skip
      have b_ := zF_ge rfl zk_832 c_
      refine lv_aload_n hx hb dX5_put_11 rfl (lv_at hl 0 rfl) ?_
      refine va_get (D := (dC, dI)) (ci := 5) (v := .ref h1) (C := RX5) (T := TX5) (N := 1) hx hb hG zuX5 hown hK hP 0 rfl rfl 0 (by decide) (hG _ zv458) (fun _ h9 => h9) rfl dX5_put_12 ?_
      refine lv_iload_n hx hb dX5_put_15 rfl (lv_at hl 1 rfl) ?_
      refine lv_bipush (v := 32) hx hb dX5_put_16 (by decide) ?_
      refine lv_idiv hx hb dX5_put_18 (by decide) ?_
      refine lv_topi (fun z18 e_z18 => ?_)
      have b_ := zdiv rfl zk_32 e_z18 (by omega) (by decide)
      refine lv_dup2_11 hx hb dX5_put_19 rfl rfl ?_
      refine va_iald hx hb hK hP 1 0 rfl rfl (zin_lit ⟨by omega, by omega⟩) dX5_put_20 ?_
      refine lv_topi (fun z20 e_z20 => ?_)
      refine lv_iconst (v := 1) hx hb dX5_put_21 (by decide) ?_
      refine lv_iload_n hx hb dX5_put_22 rfl (lv_at hl 1 rfl) ?_
      refine lv_bipush (v := 32) hx hb dX5_put_23 (by decide) ?_
      refine lv_irem hx hb dX5_put_25 (by decide) ?_
      refine lv_topi (fun z25 e_z25 => ?_)
      have b_ := zrem rfl zk_32 e_z25 (by omega) (by decide)
      refine lv_ishl hx hb dX5_put_26 ?_
      refine lv_topi (fun z26 e_z26 => ?_)
      have b_ : -2147483648 ≤ z20.toInt ∧ z20.toInt ≤ 2147483647 := ⟨zlo _, zhi _⟩
      have b_ : -2147483648 ≤ z26.toInt ∧ z26.toInt ≤ 2147483647 := ⟨zlo _, zhi _⟩
      refine lv_ior hx hb dX5_put_27 ?_
      refine lv_topi (fun z27 e_z27 => ?_)
      refine va_iast hx hb hK hP hD hS 1 0 rfl rfl (zin_lit ⟨by omega, by omega⟩) dX5_put_28 (fun H locs hP hD hS => ?_)
      obtain ⟨f_28, e_f_28⟩ : ∃ z : Nat → Int32, z = upd f1 (z18 : Int32).toNatClampNeg z27 := ⟨_, rfl⟩
      have hP : va_P (dC, dI) vwCl [(h0, .inr (5, mX5 h1)), (h1, zi k1 26 f_28)] H := by rw [e_f_28]; exact hP
      have hD : va_D A [(h0, .inr (5, mX5 h1)), (h1, zi k1 26 f_28)] := by rw [e_f_28]; exact hD
      refine W.widen (k := 0) (n := 0) (by decide) (by decide) ?_
      have hpost : True := trivial
      have hP9 : va_P (dC, dI) vwCl [(h0, .inr (5, mX5 h1)), (h1, zi k1 26 f_28)] H := hP
      have hD9 : va_D A [(h0, .inr (5, mX5 h1)), (h1, zi k1 26 f_28)] := hD
      have hB0 : zpP f1 f_28 x1.toInt := by first | exact zpP_i e_z20 e_z26 e_z27 e_f_28 (by omega) (by omega) (by omega) | exact zpP_o (by omega)
      exact W.vret hx hb hr (fun t ht hW => ⟨⟨(fun _ => 0), rfl, hpost, (fun _ => 0), (fun i => ([f_28] : List (Nat → Int32)).getD i (fun _ => 0)), (fun _ => (fun _ => 0)), hB0, by rw [ht]; exact hP9, va_K.moved hW.alike hK, hD9⟩, hS.F ht⟩) hS.2.2 dX5_put_29
set_option maxHeartbeats 8000000 in
set_option maxRecDepth 100000 in
theorem p16_sX5_clearTitle_0 (l : Launch) (dC : Nat → ClassId) (dI : Nat → Nat → Nat) (adK adV : Nat → Nat) (h0 : Nat) (h1 : Nat) (k1 : ClassId) (sz : Nat) (f1 : Nat → Int32) : Met l yX5_clearTitle (zw yX5_clearTitle cX5_clearTitle 2 none) { frames := 0, cells := 0, slots := 0, locals := 0 } (zPc dC dI adK adV [.ref h0] sz [(h0, .inr (5, mX5 h1)), (h1, zi k1 26 f1)] [(k1, .int)]) (va_Qv (fun (u : Nat → Int32) => True) (fun (u : Nat → Int32) (t : State) => ∃ (ww : Nat → Int64) (aa : Nat → Nat → Int32) (bb : Nat → Nat → Int64), (zclr f1 (aa 0) 0 512) ∧ va_P (dC, dI) vwCl [(h0, .inr (5, mX5 h1)), (h1, zi k1 26 (aa 0))] t.heap ∧ va_K (dC, dI) vwCl [(k1, .int)] t ∧ va_D (va_A [(h0, .inr (5, mX5 h1)), (h1, zi k1 26 f1)] sz) [(h0, .inr (5, mX5 h1)), (h1, zi k1 26 (aa 0))]) (va_A [(h0, .inr (5, mX5 h1)), (h1, zi k1 26 f1)] sz)) 0 0 (va_A [(h0, .inr (5, mX5 h1)), (h1, zi k1 26 f1)] sz) := by
  refine Met.ofW (cc := cX5_clearTitle) (maxL := 2) (ret := none) (by decide) rfl ?_
  intro p e s m args below meth c s₁ B hml hv
  obtain ⟨rfl, hsz, hP, hK, hD0, hE, hZ⟩ := hv
  have hx := B.exec
  have hb := B.bytes
  have hr := B.returns
  have hG : ∀ w ∈ zG, w.before _ s = true := fun w h => atoms_spec (ws := (zw yX5_clearTitle cX5_clearTitle 2 none)) B.pre w (List.mem_cons_of_mem _ h)
  have hown : s.vm.findClass RX5 = some m.cls := findClass_of_methodNamed B.named
  have hlocks := B.notSynchronized

  subst hsz
  have hD := hD0.self (sz := s.heap.size)
  generalize hAe : va_A [(h0, .inr (5, mX5 h1)), (h1, zi k1 26 f1)] s.heap.size = A at hD hZ ⊢
  have hA : ∀ q : Nat, s.heap.size ≤ q → A q := fun q h => by rw [← hAe]; exact Or.inr h
  have hS : va_S A s.heap s.heap [] := va_S.rf
  have hl := lv_entry ([.ref h0]) (n := 2) (Nat.le_of_ble_eq_true rfl)
  rw [lg_entry_eq]
  generalize (lg_sl ([.ref h0]) ++ List.replicate (2 - (lg_sl ([.ref h0])).length) Slot.unset).toArray = ls at hl ⊢
  have hl : lv_has ls 2 [(0, .ref h0)] := hl
  have b_ := zk_0
  refine lv_iconst (v := 0) hx hb dX5_clearTitle_0 (by decide) ?_
  refine lv_istore_n (lv' := [(1, .int 0), (0, .ref h0)]) hx hb dX5_clearTitle_1 rfl hl (by decide) rfl (fun ls hl => ?_)
  refine zcutL (fun u2_ => (16 - (u2_ 0).toInt).toNat) (fun H locs ls u2_ w2_ a2_ b2_ => va_P (dC, dI) vwCl [(h0, .inr (5, mX5 h1)), (h1, zi k1 26 (a2_ 0))] H ∧ va_D A [(h0, .inr (5, mX5 h1)), (h1, zi k1 26 (a2_ 0))] ∧ va_S A s.heap H locs ∧ lv_has ls 2 [(0, .ref h0), (1, .int (u2_ 0))] ∧ (0 ≤ (u2_ 0).toInt ∧ (u2_ 0).toInt ≤ 16) ∧ (zcp f1 (a2_ 0) 0 (u2_ 0).toInt) ∧ ((u2_ 0).toInt ≤ 16) ∧ (0 ≤ (u2_ 0).toInt)) (fun ls u2_ w2_ => F0 m 2 ls []) 0 0 ?_ (fun hJ2 => ?_)
  · skip
    intro H locs ls u2_ w2_ a2_ b2_ hc hJ2
    obtain ⟨hP, hD, hS, hl, b_, hI2_0, b_, b_⟩ := hc
    refine lv_iload_n hx hb dX5_clearTitle_2 rfl (lv_at hl 1 rfl) ?_
    refine lv_bipush (v := 16) hx hb dX5_clearTitle_3 (by decide) ?_
    refine lv_icmp_ge (tgt := 21) hx hb dX5_clearTitle_5 (by decide) (fun c_ => ?_) (fun c_ => ?_)
    · skip
      have b_ := zT_ge rfl zk_16 c_
      refine W.widen (k := 0) (n := 0) (by decide) (by decide) ?_
      have hpost : True := trivial
      have hP9 : va_P (dC, dI) vwCl [(h0, .inr (5, mX5 h1)), (h1, zi k1 26 (a2_ 0))] H := hP
      have hD9 : va_D A [(h0, .inr (5, mX5 h1)), (h1, zi k1 26 (a2_ 0))] := hD
      have hB0 : zclr f1 (a2_ 0) 0 512 := by exact zclr_e (a := 0) (b := 16) hI2_0 rfl (by omega) (by omega)
      exact W.vret hx hb hr (fun t ht hW => ⟨⟨(fun _ => 0), rfl, hpost, (fun _ => 0), (fun i => ([(a2_ 0)] : List (Nat → Int32)).getD i (fun _ => 0)), (fun _ => (fun _ => 0)), hB0, by rw [ht]; exact hP9, va_K.moved hW.alike hK, hD9⟩, hS.F ht⟩) hS.2.2 dX5_clearTitle_21
    · skip
      have b_ := zF_ge rfl zk_16 c_
      refine lv_aload_n hx hb dX5_clearTitle_8 rfl (lv_at hl 0 rfl) ?_
      refine va_get (D := (dC, dI)) (ci := 5) (v := .ref h1) (C := RX5) (T := TX5) (N := 1) hx hb hG zuX5 hown hK hP 0 rfl rfl 0 (by decide) (hG _ zv458) (fun _ h9 => h9) rfl dX5_clearTitle_9 ?_
      refine lv_iload_n hx hb dX5_clearTitle_12 rfl (lv_at hl 1 rfl) ?_
      refine lv_iconst (v := 0) hx hb dX5_clearTitle_13 (by decide) ?_
      refine va_iast hx hb hK hP hD hS 1 0 rfl rfl (zin_lit ⟨by omega, by omega⟩) dX5_clearTitle_14 (fun H locs hP hD hS => ?_)
      obtain ⟨f_14, e_f_14⟩ : ∃ z : Nat → Int32, z = upd (a2_ 0) ((u2_ 0) : Int32).toNatClampNeg 0 := ⟨_, rfl⟩
      have hP : va_P (dC, dI) vwCl [(h0, .inr (5, mX5 h1)), (h1, zi k1 26 f_14)] H := by rw [e_f_14]; exact hP
      have hD : va_D A [(h0, .inr (5, mX5 h1)), (h1, zi k1 26 f_14)] := by rw [e_f_14]; exact hD
      obtain ⟨z15, e_z15⟩ : ∃ z : Int32, z = (u2_ 0) + Int32.ofInt 1 := ⟨_, rfl⟩
      have b_ := zadd (x := (u2_ 0)) (y := Int32.ofInt 1) rfl (show (Int32.ofInt 1).toInt = 1 from by decide) e_z15 (by omega) (by omega)
      refine lv_iinc (v := z15) (lv' := [(1, .int z15), (0, .ref h0)]) hx hb dX5_clearTitle_15 hl (k := 1) rfl e_z15.symm (by decide) rfl (fun ls hl => ?_)
      refine lv_goto (tgt := 2) hx hb dX5_clearTitle_18 (by decide) ?_
      have hc : va_P (dC, dI) vwCl [(h0, .inr (5, mX5 h1)), (h1, zi k1 26 f_14)] H ∧ va_D A [(h0, .inr (5, mX5 h1)), (h1, zi k1 26 f_14)] ∧ va_S A s.heap H locs ∧ lv_has ls 2 [(0, .ref h0), (1, .int z15)] ∧ (0 ≤ z15.toInt ∧ z15.toInt ≤ 16) ∧ (zcp f1 f_14 0 z15.toInt) ∧ (z15.toInt ≤ 16) ∧ (0 ≤ z15.toInt) := ⟨hP, hD, hS, lv_sub hl [1, 0] rfl, (by first | with_reducible assumption | exact ⟨by omega, by omega⟩), by first | exact zcp_s hI2_0 (by omega) (by omega) e_f_14 (by omega) | exact zcp_0 (by decide), by omega, by omega⟩
      exact hJ2 H locs ls (fun i => ([z15] : List (Int32)).getD i 0) (fun _ => 0) (fun i => ([f_14] : List (Nat → Int32)).getD i (fun _ => 0)) (fun _ => (fun _ => 0)) hc (show (16 - z15.toInt).toNat < (16 - (u2_ 0).toInt).toNat from by omega)
  · skip
    have hc : va_P (dC, dI) vwCl [(h0, .inr (5, mX5 h1)), (h1, zi k1 26 f1)] s.heap ∧ va_D A [(h0, .inr (5, mX5 h1)), (h1, zi k1 26 f1)] ∧ va_S A s.heap s.heap [] ∧ lv_has ls 2 [(0, .ref h0), (1, .int 0)] ∧ (0 ≤ (0 : Int32).toInt ∧ (0 : Int32).toInt ≤ 16) ∧ (zcp f1 f1 0 (0 : Int32).toInt) ∧ ((0 : Int32).toInt ≤ 16) ∧ (0 ≤ (0 : Int32).toInt) := ⟨hP, hD, hS, lv_sub hl [1, 0] rfl, (by first | with_reducible assumption | exact ⟨by omega, by omega⟩), by first | exact zcp_s hI2_0 (by omega) (by omega) e_f_14 (by omega) | exact zcp_0 (by decide), by omega, by omega⟩
    exact hJ2 s.heap [] ls (fun i => ([0] : List (Int32)).getD i 0) (fun _ => 0) (fun i => ([f1] : List (Nat → Int32)).getD i (fun _ => 0)) (fun _ => (fun _ => 0)) hc
set_option maxHeartbeats 8000000 in
set_option maxRecDepth 100000 in
theorem p16_sX5_clearBody_0 (l : Launch) (dC : Nat → ClassId) (dI : Nat → Nat → Nat) (adK adV : Nat → Nat) (h0 : Nat) (h1 : Nat) (k1 : ClassId) (sz : Nat) (f1 : Nat → Int32) : Met l yX5_clearBody (zw yX5_clearBody cX5_clearBody 2 none) { frames := 0, cells := 0, slots := 0, locals := 0 } (zPc dC dI adK adV [.ref h0] sz [(h0, .inr (5, mX5 h1)), (h1, zi k1 26 f1)] [(k1, .int)]) (va_Qv (fun (u : Nat → Int32) => True) (fun (u : Nat → Int32) (t : State) => ∃ (ww : Nat → Int64) (aa : Nat → Nat → Int32) (bb : Nat → Nat → Int64), (zclr f1 (aa 0) 512 832) ∧ va_P (dC, dI) vwCl [(h0, .inr (5, mX5 h1)), (h1, zi k1 26 (aa 0))] t.heap ∧ va_K (dC, dI) vwCl [(k1, .int)] t ∧ va_D (va_A [(h0, .inr (5, mX5 h1)), (h1, zi k1 26 f1)] sz) [(h0, .inr (5, mX5 h1)), (h1, zi k1 26 (aa 0))]) (va_A [(h0, .inr (5, mX5 h1)), (h1, zi k1 26 f1)] sz)) 0 0 (va_A [(h0, .inr (5, mX5 h1)), (h1, zi k1 26 f1)] sz) := by
  refine Met.ofW (cc := cX5_clearBody) (maxL := 2) (ret := none) (by decide) rfl ?_
  intro p e s m args below meth c s₁ B hml hv
  obtain ⟨rfl, hsz, hP, hK, hD0, hE, hZ⟩ := hv
  have hx := B.exec
  have hb := B.bytes
  have hr := B.returns
  have hG : ∀ w ∈ zG, w.before _ s = true := fun w h => atoms_spec (ws := (zw yX5_clearBody cX5_clearBody 2 none)) B.pre w (List.mem_cons_of_mem _ h)
  have hown : s.vm.findClass RX5 = some m.cls := findClass_of_methodNamed B.named
  have hlocks := B.notSynchronized

  subst hsz
  have hD := hD0.self (sz := s.heap.size)
  generalize hAe : va_A [(h0, .inr (5, mX5 h1)), (h1, zi k1 26 f1)] s.heap.size = A at hD hZ ⊢
  have hA : ∀ q : Nat, s.heap.size ≤ q → A q := fun q h => by rw [← hAe]; exact Or.inr h
  have hS : va_S A s.heap s.heap [] := va_S.rf
  have hl := lv_entry ([.ref h0]) (n := 2) (Nat.le_of_ble_eq_true rfl)
  rw [lg_entry_eq]
  generalize (lg_sl ([.ref h0]) ++ List.replicate (2 - (lg_sl ([.ref h0])).length) Slot.unset).toArray = ls at hl ⊢
  have hl : lv_has ls 2 [(0, .ref h0)] := hl
  have b_ := zk_16
  refine lv_bipush (v := 16) hx hb dX5_clearBody_0 (by decide) ?_
  refine lv_istore_n (lv' := [(1, .int 16), (0, .ref h0)]) hx hb dX5_clearBody_2 rfl hl (by decide) rfl (fun ls hl => ?_)
  refine zcutL (fun u3_ => (26 - (u3_ 0).toInt).toNat) (fun H locs ls u3_ w3_ a3_ b3_ => va_P (dC, dI) vwCl [(h0, .inr (5, mX5 h1)), (h1, zi k1 26 (a3_ 0))] H ∧ va_D A [(h0, .inr (5, mX5 h1)), (h1, zi k1 26 (a3_ 0))] ∧ va_S A s.heap H locs ∧ lv_has ls 2 [(0, .ref h0), (1, .int (u3_ 0))] ∧ (16 ≤ (u3_ 0).toInt ∧ (u3_ 0).toInt ≤ 26) ∧ (zcp f1 (a3_ 0) 16 (u3_ 0).toInt) ∧ ((u3_ 0).toInt ≤ 26) ∧ (16 ≤ (u3_ 0).toInt)) (fun ls u3_ w3_ => F0 m 3 ls []) 0 0 ?_ (fun hJ3 => ?_)
  · skip
    intro H locs ls u3_ w3_ a3_ b3_ hc hJ3
    obtain ⟨hP, hD, hS, hl, b_, hI3_0, b_, b_⟩ := hc
    refine lv_iload_n hx hb dX5_clearBody_3 rfl (lv_at hl 1 rfl) ?_
    refine lv_bipush (v := 26) hx hb dX5_clearBody_4 (by decide) ?_
    refine lv_icmp_ge (tgt := 22) hx hb dX5_clearBody_6 (by decide) (fun c_ => ?_) (fun c_ => ?_)
    · skip
      have b_ := zT_ge rfl zk_26 c_
      refine W.widen (k := 0) (n := 0) (by decide) (by decide) ?_
      have hpost : True := trivial
      have hP9 : va_P (dC, dI) vwCl [(h0, .inr (5, mX5 h1)), (h1, zi k1 26 (a3_ 0))] H := hP
      have hD9 : va_D A [(h0, .inr (5, mX5 h1)), (h1, zi k1 26 (a3_ 0))] := hD
      have hB0 : zclr f1 (a3_ 0) 512 832 := by exact zclr_e (a := 16) (b := 26) hI3_0 rfl (by omega) (by omega)
      exact W.vret hx hb hr (fun t ht hW => ⟨⟨(fun _ => 0), rfl, hpost, (fun _ => 0), (fun i => ([(a3_ 0)] : List (Nat → Int32)).getD i (fun _ => 0)), (fun _ => (fun _ => 0)), hB0, by rw [ht]; exact hP9, va_K.moved hW.alike hK, hD9⟩, hS.F ht⟩) hS.2.2 dX5_clearBody_22
    · skip
      have b_ := zF_ge rfl zk_26 c_
      refine lv_aload_n hx hb dX5_clearBody_9 rfl (lv_at hl 0 rfl) ?_
      refine va_get (D := (dC, dI)) (ci := 5) (v := .ref h1) (C := RX5) (T := TX5) (N := 1) hx hb hG zuX5 hown hK hP 0 rfl rfl 0 (by decide) (hG _ zv458) (fun _ h9 => h9) rfl dX5_clearBody_10 ?_
      refine lv_iload_n hx hb dX5_clearBody_13 rfl (lv_at hl 1 rfl) ?_
      refine lv_iconst (v := 0) hx hb dX5_clearBody_14 (by decide) ?_
      refine va_iast hx hb hK hP hD hS 1 0 rfl rfl (zin_lit ⟨by omega, by omega⟩) dX5_clearBody_15 (fun H locs hP hD hS => ?_)
      obtain ⟨f_15, e_f_15⟩ : ∃ z : Nat → Int32, z = upd (a3_ 0) ((u3_ 0) : Int32).toNatClampNeg 0 := ⟨_, rfl⟩
      have hP : va_P (dC, dI) vwCl [(h0, .inr (5, mX5 h1)), (h1, zi k1 26 f_15)] H := by rw [e_f_15]; exact hP
      have hD : va_D A [(h0, .inr (5, mX5 h1)), (h1, zi k1 26 f_15)] := by rw [e_f_15]; exact hD
      obtain ⟨z16, e_z16⟩ : ∃ z : Int32, z = (u3_ 0) + Int32.ofInt 1 := ⟨_, rfl⟩
      have b_ := zadd (x := (u3_ 0)) (y := Int32.ofInt 1) rfl (show (Int32.ofInt 1).toInt = 1 from by decide) e_z16 (by omega) (by omega)
      refine lv_iinc (v := z16) (lv' := [(1, .int z16), (0, .ref h0)]) hx hb dX5_clearBody_16 hl (k := 1) rfl e_z16.symm (by decide) rfl (fun ls hl => ?_)
      refine lv_goto (tgt := 3) hx hb dX5_clearBody_19 (by decide) ?_
      have hc : va_P (dC, dI) vwCl [(h0, .inr (5, mX5 h1)), (h1, zi k1 26 f_15)] H ∧ va_D A [(h0, .inr (5, mX5 h1)), (h1, zi k1 26 f_15)] ∧ va_S A s.heap H locs ∧ lv_has ls 2 [(0, .ref h0), (1, .int z16)] ∧ (16 ≤ z16.toInt ∧ z16.toInt ≤ 26) ∧ (zcp f1 f_15 16 z16.toInt) ∧ (z16.toInt ≤ 26) ∧ (16 ≤ z16.toInt) := ⟨hP, hD, hS, lv_sub hl [1, 0] rfl, (by first | with_reducible assumption | exact ⟨by omega, by omega⟩), by first | exact zcp_s hI3_0 (by omega) (by omega) e_f_15 (by omega) | exact zcp_0 (by decide), by omega, by omega⟩
      exact hJ3 H locs ls (fun i => ([z16] : List (Int32)).getD i 0) (fun _ => 0) (fun i => ([f_15] : List (Nat → Int32)).getD i (fun _ => 0)) (fun _ => (fun _ => 0)) hc (show (26 - z16.toInt).toNat < (26 - (u3_ 0).toInt).toNat from by omega)
  · skip
    have hc : va_P (dC, dI) vwCl [(h0, .inr (5, mX5 h1)), (h1, zi k1 26 f1)] s.heap ∧ va_D A [(h0, .inr (5, mX5 h1)), (h1, zi k1 26 f1)] ∧ va_S A s.heap s.heap [] ∧ lv_has ls 2 [(0, .ref h0), (1, .int 16)] ∧ (16 ≤ (16 : Int32).toInt ∧ (16 : Int32).toInt ≤ 26) ∧ (zcp f1 f1 16 (16 : Int32).toInt) ∧ ((16 : Int32).toInt ≤ 26) ∧ (16 ≤ (16 : Int32).toInt) := ⟨hP, hD, hS, lv_sub hl [1, 0] rfl, (by first | with_reducible assumption | exact ⟨by omega, by omega⟩), by first | exact zcp_s hI3_0 (by omega) (by omega) e_f_15 (by omega) | exact zcp_0 (by decide), by omega, by omega⟩
    exact hJ3 s.heap [] ls (fun i => ([16] : List (Int32)).getD i 0) (fun _ => 0) (fun i => ([f1] : List (Nat → Int32)).getD i (fun _ => 0)) (fun _ => (fun _ => 0)) hc
set_option maxHeartbeats 8000000 in
set_option maxRecDepth 100000 in
theorem p16_sJ6_numberOfTrailingZeros_0f7a4_0 (l : Launch) (dC : Nat → ClassId) (dI : Nat → Nat → Nat) (adK adV : Nat → Nat) (sz : Nat) (x0 : Int32) : Met l yJ6_numberOfTrailingZeros_0f7a4 (zw yJ6_numberOfTrailingZeros_0f7a4 cJ6_numberOfTrailingZeros_0f7a4 2 (some .int)) { frames := 0, cells := 0, slots := 0, locals := 0 } (zPc dC dI adK adV [.int x0] sz [] []) (va_Qi (fun (r : Int32) (u : Nat → Int32) => (0 ≤ r.toInt ∧ r.toInt ≤ 32) ∧ (x0.toInt ≠ 0 → r.toInt ≤ 31) ∧ (zCtz (x0 : Int32) r.toInt)) (fun (u : Nat → Int32) (t : State) => ∃ (ww : Nat → Int64) (aa : Nat → Nat → Int32) (bb : Nat → Nat → Int64), va_P (dC, dI) vwCl [] t.heap ∧ va_K (dC, dI) vwCl [] t ∧ va_D (va_A [] sz) []) (va_A [] sz)) 0 0 (va_A [] sz) := by
  refine Met.ofW (cc := cJ6_numberOfTrailingZeros_0f7a4) (maxL := 2) (ret := (some .int)) (by decide) rfl ?_
  intro p e s m args below meth c s₁ B hml hv
  obtain ⟨rfl, hsz, hP, hK, hD0, hE, hZ⟩ := hv
  have hx := B.exec
  have hb := B.bytes
  have hr := B.returns
  have hG : ∀ w ∈ zG, w.before _ s = true := fun w h => atoms_spec (ws := (zw yJ6_numberOfTrailingZeros_0f7a4 cJ6_numberOfTrailingZeros_0f7a4 2 (some .int))) B.pre w (List.mem_cons_of_mem _ h)
  have hown : s.vm.findClass RJ6 = some m.cls := findClass_of_methodNamed B.named
  have hlocks := B.notSynchronized

  subst hsz
  have hD := hD0.self (sz := s.heap.size)
  generalize hAe : va_A [] s.heap.size = A at hD hZ ⊢
  have hA : ∀ q : Nat, s.heap.size ≤ q → A q := fun q h => by rw [← hAe]; exact Or.inr h
  have hS : va_S A s.heap s.heap [] := va_S.rf
  have hl := lv_entry ([.int x0]) (n := 2) (Nat.le_of_ble_eq_true rfl)
  rw [lg_entry_eq]
  generalize (lg_sl ([.int x0]) ++ List.replicate (2 - (lg_sl ([.int x0])).length) Slot.unset).toArray = ls at hl ⊢
  have hl : lv_has ls 2 [(0, .int x0)] := hl
  have b_ := zk_1
  have b_ := zk_3
  have b_ := zk_5
  have b_ := zk_7
  have b_ := zk_9
  have b_ := zk_11
  have b_ := zk_13
  have b_ := zk_15
  have b_ := zk_17
  have b_ := zk_19
  have b_ := zk_21
  have b_ := zk_23
  have b_ := zk_25
  have b_ := zk_27
  have b_ := zk_29
  have b_ := zk_31
  refine lv_iload_n hx hb dJ6_numberOfTrailingZeros_0f7a4_0 rfl (lv_at hl 0 rfl) ?_
  refine lv_iconst (v := (-1)) hx hb dJ6_numberOfTrailingZeros_0f7a4_1 (by decide) ?_
  have b_ : -2147483648 ≤ x0.toInt ∧ x0.toInt ≤ 2147483647 := ⟨zlo _, zhi _⟩
  refine lv_ixor hx hb dJ6_numberOfTrailingZeros_0f7a4_2 ?_
  refine lv_topi (fun z2 e_z2 => ?_)
  refine lv_iload_n hx hb dJ6_numberOfTrailingZeros_0f7a4_3 rfl (lv_at hl 0 rfl) ?_
  refine lv_iconst (v := 1) hx hb dJ6_numberOfTrailingZeros_0f7a4_4 (by decide) ?_
  refine lv_isub hx hb dJ6_numberOfTrailingZeros_0f7a4_5 ?_
  refine lv_topi (fun z5 e_z5 => ?_)
  have b_ : -2147483648 ≤ z2.toInt ∧ z2.toInt ≤ 2147483647 := ⟨zlo _, zhi _⟩
  have b_ : -2147483648 ≤ z5.toInt ∧ z5.toInt ≤ 2147483647 := ⟨zlo _, zhi _⟩
  refine lv_iand hx hb dJ6_numberOfTrailingZeros_0f7a4_6 ?_
  refine lv_topi (fun z6 e_z6 => ?_)
  refine lv_istore_n (lv' := [(0, .int z6)]) hx hb dJ6_numberOfTrailingZeros_0f7a4_7 rfl hl (by decide) rfl (fun ls hl => ?_)
  refine lv_iload_n hx hb dJ6_numberOfTrailingZeros_0f7a4_8 rfl (lv_at hl 0 rfl) ?_
  have b_ : -2147483648 ≤ z6.toInt ∧ z6.toInt ≤ 2147483647 := ⟨zlo _, zhi _⟩
  refine lv_if_gt (tgt := 17) hx hb dJ6_numberOfTrailingZeros_0f7a4_9 (by decide) (fun c_ => ?_) (fun c_ => ?_)
  · skip
    have b_ := zT_gt rfl zk_0 c_
    refine lv_iconst (v := 1) hx hb dJ6_numberOfTrailingZeros_0f7a4_17 (by decide) ?_
    refine lv_istore_n (lv' := [(1, .int 1), (0, .int z6)]) hx hb dJ6_numberOfTrailingZeros_0f7a4_18 rfl hl (by decide) rfl (fun ls hl => ?_)
    have htz : zTzC z6.toInt z6.toInt (1 : Int32).toInt := zTzC_0 rfl (by decide)
    refine lv_iload_n hx hb dJ6_numberOfTrailingZeros_0f7a4_19 rfl (lv_at hl 1 rfl) ?_
    refine lv_ldcw hx hb hown (hG _ zv795) dJ6_numberOfTrailingZeros_0f7a4_20 ?_
    refine lv_icmp_le (tgt := 34) hx hb dJ6_numberOfTrailingZeros_0f7a4_23 (by decide) (fun c_ => ?_) (fun c_ => ?_)
    · skip
      have b_ := zT_le rfl zk_65536 c_
      refine lv_iload_n hx hb dJ6_numberOfTrailingZeros_0f7a4_34 rfl (lv_at hl 1 rfl) ?_
      refine lv_sipush (v := 256) hx hb dJ6_numberOfTrailingZeros_0f7a4_35 (by decide) ?_
      refine lv_icmp_le (tgt := 49) hx hb dJ6_numberOfTrailingZeros_0f7a4_38 (by decide) (fun c_ => ?_) (fun c_ => ?_)
      · skip
        have b_ := zT_le rfl zk_256 c_
        refine lv_iload_n hx hb dJ6_numberOfTrailingZeros_0f7a4_49 rfl (lv_at hl 1 rfl) ?_
        refine lv_bipush (v := 16) hx hb dJ6_numberOfTrailingZeros_0f7a4_50 (by decide) ?_
        refine lv_icmp_le (tgt := 62) hx hb dJ6_numberOfTrailingZeros_0f7a4_52 (by decide) (fun c_ => ?_) (fun c_ => ?_)
        · skip
          have b_ := zT_le rfl zk_16 c_
          refine lv_iload_n hx hb dJ6_numberOfTrailingZeros_0f7a4_62 rfl (lv_at hl 1 rfl) ?_
          refine lv_iconst (v := 4) hx hb dJ6_numberOfTrailingZeros_0f7a4_63 (by decide) ?_
          refine lv_icmp_le (tgt := 74) hx hb dJ6_numberOfTrailingZeros_0f7a4_64 (by decide) (fun c_ => ?_) (fun c_ => ?_)
          · skip
            have b_ := zT_le rfl zk_4 c_
            refine lv_iload_n hx hb dJ6_numberOfTrailingZeros_0f7a4_74 rfl (lv_at hl 0 rfl) ?_
            refine lv_iload_n hx hb dJ6_numberOfTrailingZeros_0f7a4_75 rfl (lv_at hl 1 rfl) ?_
            refine lv_iconst (v := 1) hx hb dJ6_numberOfTrailingZeros_0f7a4_76 (by decide) ?_
            refine lv_iushr hx hb dJ6_numberOfTrailingZeros_0f7a4_77 rfl ?_
            refine lv_topi (fun z77 e_z77 => ?_)
            have b_ := zushr1 rfl e_z77 (by omega)
            refine lv_iadd hx hb dJ6_numberOfTrailingZeros_0f7a4_78 ?_
            refine lv_topi (fun z78 e_z78 => ?_)
            have b_ := zadd zk_1 rfl e_z78 (by omega) (by omega)
            refine W.widen (k := 0) (n := 0) (by decide) (by decide) ?_
            have hpost : (0 ≤ z78.toInt ∧ z78.toInt ≤ 32) ∧ (x0.toInt ≠ 0 → z78.toInt ≤ 31) ∧ (zCtz (x0 : Int32) z78.toInt) := ⟨(by first | with_reducible assumption | exact ⟨by omega, by omega⟩), by omega, by first | exact zCtz_i e_z2 e_z5 e_z6 (zTzC_e htz (by omega) (by omega)) (fun q_ => by omega) | exact zCtz_i e_z2 e_z5 e_z6 (fun q_ => by omega) (fun q_ => by rw [e_z15, show z6 = 0 from zeqi.mpr (q_.trans (by decide))]; decide)⟩
            have hP9 : va_P (dC, dI) vwCl [] s.heap := hP
            have hD9 : va_D A [] := hD
            exact W.iret (v := z78) hx hb hr (fun t ht hW => ⟨⟨z78, (fun _ => 0), rfl, hpost, (fun _ => 0), (fun _ => (fun _ => 0)), (fun _ => (fun _ => 0)), by rw [ht]; exact hP9, va_K.moved hW.alike hK, hD9⟩, hS.F ht⟩) hS.2.2 dJ6_numberOfTrailingZeros_0f7a4_79
          · skip
            have b_ := zF_le rfl zk_4 c_
            refine lv_iinc (v := 3) (lv' := [(1, .int 3), (0, .int z6)]) hx hb dJ6_numberOfTrailingZeros_0f7a4_67 hl (k := 0) rfl (by decide) (by decide) rfl (fun ls hl => ?_)
            refine lv_iload_n hx hb dJ6_numberOfTrailingZeros_0f7a4_70 rfl (lv_at hl 1 rfl) ?_
            refine lv_iconst (v := 2) hx hb dJ6_numberOfTrailingZeros_0f7a4_71 (by decide) ?_
            refine lv_iushr hx hb dJ6_numberOfTrailingZeros_0f7a4_72 rfl ?_
            refine lv_topi (fun z72 e_z72 => ?_)
            have b_ := zushr2 rfl e_z72 (by omega)
            refine lv_istore_n (lv' := [(0, .int z72), (1, .int 3)]) hx hb dJ6_numberOfTrailingZeros_0f7a4_73 rfl hl (by decide) rfl (fun ls hl => ?_)
            have htz : zTzC z6.toInt z72.toInt (3 : Int32).toInt := zTzC_s 2 htz (by omega) (by omega) (by omega)
            refine lv_iload_n hx hb dJ6_numberOfTrailingZeros_0f7a4_74 rfl (lv_at hl 1 rfl) ?_
            refine lv_iload_n hx hb dJ6_numberOfTrailingZeros_0f7a4_75 rfl (lv_at hl 0 rfl) ?_
            refine lv_iconst (v := 1) hx hb dJ6_numberOfTrailingZeros_0f7a4_76 (by decide) ?_
            refine lv_iushr hx hb dJ6_numberOfTrailingZeros_0f7a4_77 rfl ?_
            refine lv_topi (fun z77 e_z77 => ?_)
            have b_ := zushr1 rfl e_z77 (by omega)
            refine lv_iadd hx hb dJ6_numberOfTrailingZeros_0f7a4_78 ?_
            refine lv_topi (fun z78 e_z78 => ?_)
            have b_ := zadd zk_3 rfl e_z78 (by omega) (by omega)
            refine W.widen (k := 0) (n := 0) (by decide) (by decide) ?_
            have hpost : (0 ≤ z78.toInt ∧ z78.toInt ≤ 32) ∧ (x0.toInt ≠ 0 → z78.toInt ≤ 31) ∧ (zCtz (x0 : Int32) z78.toInt) := ⟨(by first | with_reducible assumption | exact ⟨by omega, by omega⟩), by omega, by first | exact zCtz_i e_z2 e_z5 e_z6 (zTzC_e htz (by omega) (by omega)) (fun q_ => by omega) | exact zCtz_i e_z2 e_z5 e_z6 (fun q_ => by omega) (fun q_ => by rw [e_z15, show z6 = 0 from zeqi.mpr (q_.trans (by decide))]; decide)⟩
            have hP9 : va_P (dC, dI) vwCl [] s.heap := hP
            have hD9 : va_D A [] := hD
            exact W.iret (v := z78) hx hb hr (fun t ht hW => ⟨⟨z78, (fun _ => 0), rfl, hpost, (fun _ => 0), (fun _ => (fun _ => 0)), (fun _ => (fun _ => 0)), by rw [ht]; exact hP9, va_K.moved hW.alike hK, hD9⟩, hS.F ht⟩) hS.2.2 dJ6_numberOfTrailingZeros_0f7a4_79
        · skip
          have b_ := zF_le rfl zk_16 c_
          refine lv_iinc (v := 5) (lv' := [(1, .int 5), (0, .int z6)]) hx hb dJ6_numberOfTrailingZeros_0f7a4_55 hl (k := 0) rfl (by decide) (by decide) rfl (fun ls hl => ?_)
          refine lv_iload_n hx hb dJ6_numberOfTrailingZeros_0f7a4_58 rfl (lv_at hl 1 rfl) ?_
          refine lv_iconst (v := 4) hx hb dJ6_numberOfTrailingZeros_0f7a4_59 (by decide) ?_
          refine lv_iushr hx hb dJ6_numberOfTrailingZeros_0f7a4_60 rfl ?_
          refine lv_topi (fun z60 e_z60 => ?_)
          have b_ := zushr4 rfl e_z60 (by omega)
          refine lv_istore_n (lv' := [(0, .int z60), (1, .int 5)]) hx hb dJ6_numberOfTrailingZeros_0f7a4_61 rfl hl (by decide) rfl (fun ls hl => ?_)
          have htz : zTzC z6.toInt z60.toInt (5 : Int32).toInt := zTzC_s 4 htz (by omega) (by omega) (by omega)
          refine lv_iload_n hx hb dJ6_numberOfTrailingZeros_0f7a4_62 rfl (lv_at hl 0 rfl) ?_
          refine lv_iconst (v := 4) hx hb dJ6_numberOfTrailingZeros_0f7a4_63 (by decide) ?_
          refine lv_icmp_le (tgt := 74) hx hb dJ6_numberOfTrailingZeros_0f7a4_64 (by decide) (fun c_ => ?_) (fun c_ => ?_)
          · skip
            have b_ := zT_le rfl zk_4 c_
            refine lv_iload_n hx hb dJ6_numberOfTrailingZeros_0f7a4_74 rfl (lv_at hl 1 rfl) ?_
            refine lv_iload_n hx hb dJ6_numberOfTrailingZeros_0f7a4_75 rfl (lv_at hl 0 rfl) ?_
            refine lv_iconst (v := 1) hx hb dJ6_numberOfTrailingZeros_0f7a4_76 (by decide) ?_
            refine lv_iushr hx hb dJ6_numberOfTrailingZeros_0f7a4_77 rfl ?_
            refine lv_topi (fun z77 e_z77 => ?_)
            have b_ := zushr1 rfl e_z77 (by omega)
            refine lv_iadd hx hb dJ6_numberOfTrailingZeros_0f7a4_78 ?_
            refine lv_topi (fun z78 e_z78 => ?_)
            have b_ := zadd zk_5 rfl e_z78 (by omega) (by omega)
            refine W.widen (k := 0) (n := 0) (by decide) (by decide) ?_
            have hpost : (0 ≤ z78.toInt ∧ z78.toInt ≤ 32) ∧ (x0.toInt ≠ 0 → z78.toInt ≤ 31) ∧ (zCtz (x0 : Int32) z78.toInt) := ⟨(by first | with_reducible assumption | exact ⟨by omega, by omega⟩), by omega, by first | exact zCtz_i e_z2 e_z5 e_z6 (zTzC_e htz (by omega) (by omega)) (fun q_ => by omega) | exact zCtz_i e_z2 e_z5 e_z6 (fun q_ => by omega) (fun q_ => by rw [e_z15, show z6 = 0 from zeqi.mpr (q_.trans (by decide))]; decide)⟩
            have hP9 : va_P (dC, dI) vwCl [] s.heap := hP
            have hD9 : va_D A [] := hD
            exact W.iret (v := z78) hx hb hr (fun t ht hW => ⟨⟨z78, (fun _ => 0), rfl, hpost, (fun _ => 0), (fun _ => (fun _ => 0)), (fun _ => (fun _ => 0)), by rw [ht]; exact hP9, va_K.moved hW.alike hK, hD9⟩, hS.F ht⟩) hS.2.2 dJ6_numberOfTrailingZeros_0f7a4_79
          · skip
            have b_ := zF_le rfl zk_4 c_
            refine lv_iinc (v := 7) (lv' := [(1, .int 7), (0, .int z60)]) hx hb dJ6_numberOfTrailingZeros_0f7a4_67 hl (k := 1) rfl (by decide) (by decide) rfl (fun ls hl => ?_)
            refine lv_iload_n hx hb dJ6_numberOfTrailingZeros_0f7a4_70 rfl (lv_at hl 1 rfl) ?_
            refine lv_iconst (v := 2) hx hb dJ6_numberOfTrailingZeros_0f7a4_71 (by decide) ?_
            refine lv_iushr hx hb dJ6_numberOfTrailingZeros_0f7a4_72 rfl ?_
            refine lv_topi (fun z72 e_z72 => ?_)
            have b_ := zushr2 rfl e_z72 (by omega)
            refine lv_istore_n (lv' := [(0, .int z72), (1, .int 7)]) hx hb dJ6_numberOfTrailingZeros_0f7a4_73 rfl hl (by decide) rfl (fun ls hl => ?_)
            have htz : zTzC z6.toInt z72.toInt (7 : Int32).toInt := zTzC_s 2 htz (by omega) (by omega) (by omega)
            refine lv_iload_n hx hb dJ6_numberOfTrailingZeros_0f7a4_74 rfl (lv_at hl 1 rfl) ?_
            refine lv_iload_n hx hb dJ6_numberOfTrailingZeros_0f7a4_75 rfl (lv_at hl 0 rfl) ?_
            refine lv_iconst (v := 1) hx hb dJ6_numberOfTrailingZeros_0f7a4_76 (by decide) ?_
            refine lv_iushr hx hb dJ6_numberOfTrailingZeros_0f7a4_77 rfl ?_
            refine lv_topi (fun z77 e_z77 => ?_)
            have b_ := zushr1 rfl e_z77 (by omega)
            refine lv_iadd hx hb dJ6_numberOfTrailingZeros_0f7a4_78 ?_
            refine lv_topi (fun z78 e_z78 => ?_)
            have b_ := zadd zk_7 rfl e_z78 (by omega) (by omega)
            refine W.widen (k := 0) (n := 0) (by decide) (by decide) ?_
            have hpost : (0 ≤ z78.toInt ∧ z78.toInt ≤ 32) ∧ (x0.toInt ≠ 0 → z78.toInt ≤ 31) ∧ (zCtz (x0 : Int32) z78.toInt) := ⟨(by first | with_reducible assumption | exact ⟨by omega, by omega⟩), by omega, by first | exact zCtz_i e_z2 e_z5 e_z6 (zTzC_e htz (by omega) (by omega)) (fun q_ => by omega) | exact zCtz_i e_z2 e_z5 e_z6 (fun q_ => by omega) (fun q_ => by rw [e_z15, show z6 = 0 from zeqi.mpr (q_.trans (by decide))]; decide)⟩
            have hP9 : va_P (dC, dI) vwCl [] s.heap := hP
            have hD9 : va_D A [] := hD
            exact W.iret (v := z78) hx hb hr (fun t ht hW => ⟨⟨z78, (fun _ => 0), rfl, hpost, (fun _ => 0), (fun _ => (fun _ => 0)), (fun _ => (fun _ => 0)), by rw [ht]; exact hP9, va_K.moved hW.alike hK, hD9⟩, hS.F ht⟩) hS.2.2 dJ6_numberOfTrailingZeros_0f7a4_79
      · skip
        have b_ := zF_le rfl zk_256 c_
        refine lv_iinc (v := 9) (lv' := [(1, .int 9), (0, .int z6)]) hx hb dJ6_numberOfTrailingZeros_0f7a4_41 hl (k := 0) rfl (by decide) (by decide) rfl (fun ls hl => ?_)
        refine lv_iload_n hx hb dJ6_numberOfTrailingZeros_0f7a4_44 rfl (lv_at hl 1 rfl) ?_
        refine lv_bipush (v := 8) hx hb dJ6_numberOfTrailingZeros_0f7a4_45 (by decide) ?_
        refine lv_iushr hx hb dJ6_numberOfTrailingZeros_0f7a4_47 rfl ?_
        refine lv_topi (fun z47 e_z47 => ?_)
        have b_ := zushr8 rfl e_z47 (by omega)
        refine lv_istore_n (lv' := [(0, .int z47), (1, .int 9)]) hx hb dJ6_numberOfTrailingZeros_0f7a4_48 rfl hl (by decide) rfl (fun ls hl => ?_)
        have htz : zTzC z6.toInt z47.toInt (9 : Int32).toInt := zTzC_s 8 htz (by omega) (by omega) (by omega)
        refine lv_iload_n hx hb dJ6_numberOfTrailingZeros_0f7a4_49 rfl (lv_at hl 0 rfl) ?_
        refine lv_bipush (v := 16) hx hb dJ6_numberOfTrailingZeros_0f7a4_50 (by decide) ?_
        refine lv_icmp_le (tgt := 62) hx hb dJ6_numberOfTrailingZeros_0f7a4_52 (by decide) (fun c_ => ?_) (fun c_ => ?_)
        · skip
          have b_ := zT_le rfl zk_16 c_
          refine lv_iload_n hx hb dJ6_numberOfTrailingZeros_0f7a4_62 rfl (lv_at hl 0 rfl) ?_
          refine lv_iconst (v := 4) hx hb dJ6_numberOfTrailingZeros_0f7a4_63 (by decide) ?_
          refine lv_icmp_le (tgt := 74) hx hb dJ6_numberOfTrailingZeros_0f7a4_64 (by decide) (fun c_ => ?_) (fun c_ => ?_)
          · skip
            have b_ := zT_le rfl zk_4 c_
            refine lv_iload_n hx hb dJ6_numberOfTrailingZeros_0f7a4_74 rfl (lv_at hl 1 rfl) ?_
            refine lv_iload_n hx hb dJ6_numberOfTrailingZeros_0f7a4_75 rfl (lv_at hl 0 rfl) ?_
            refine lv_iconst (v := 1) hx hb dJ6_numberOfTrailingZeros_0f7a4_76 (by decide) ?_
            refine lv_iushr hx hb dJ6_numberOfTrailingZeros_0f7a4_77 rfl ?_
            refine lv_topi (fun z77 e_z77 => ?_)
            have b_ := zushr1 rfl e_z77 (by omega)
            refine lv_iadd hx hb dJ6_numberOfTrailingZeros_0f7a4_78 ?_
            refine lv_topi (fun z78 e_z78 => ?_)
            have b_ := zadd zk_9 rfl e_z78 (by omega) (by omega)
            refine W.widen (k := 0) (n := 0) (by decide) (by decide) ?_
            have hpost : (0 ≤ z78.toInt ∧ z78.toInt ≤ 32) ∧ (x0.toInt ≠ 0 → z78.toInt ≤ 31) ∧ (zCtz (x0 : Int32) z78.toInt) := ⟨(by first | with_reducible assumption | exact ⟨by omega, by omega⟩), by omega, by first | exact zCtz_i e_z2 e_z5 e_z6 (zTzC_e htz (by omega) (by omega)) (fun q_ => by omega) | exact zCtz_i e_z2 e_z5 e_z6 (fun q_ => by omega) (fun q_ => by rw [e_z15, show z6 = 0 from zeqi.mpr (q_.trans (by decide))]; decide)⟩
            have hP9 : va_P (dC, dI) vwCl [] s.heap := hP
            have hD9 : va_D A [] := hD
            exact W.iret (v := z78) hx hb hr (fun t ht hW => ⟨⟨z78, (fun _ => 0), rfl, hpost, (fun _ => 0), (fun _ => (fun _ => 0)), (fun _ => (fun _ => 0)), by rw [ht]; exact hP9, va_K.moved hW.alike hK, hD9⟩, hS.F ht⟩) hS.2.2 dJ6_numberOfTrailingZeros_0f7a4_79
          · skip
            have b_ := zF_le rfl zk_4 c_
            refine lv_iinc (v := 11) (lv' := [(1, .int 11), (0, .int z47)]) hx hb dJ6_numberOfTrailingZeros_0f7a4_67 hl (k := 1) rfl (by decide) (by decide) rfl (fun ls hl => ?_)
            refine lv_iload_n hx hb dJ6_numberOfTrailingZeros_0f7a4_70 rfl (lv_at hl 1 rfl) ?_
            refine lv_iconst (v := 2) hx hb dJ6_numberOfTrailingZeros_0f7a4_71 (by decide) ?_
            refine lv_iushr hx hb dJ6_numberOfTrailingZeros_0f7a4_72 rfl ?_
            refine lv_topi (fun z72 e_z72 => ?_)
            have b_ := zushr2 rfl e_z72 (by omega)
            refine lv_istore_n (lv' := [(0, .int z72), (1, .int 11)]) hx hb dJ6_numberOfTrailingZeros_0f7a4_73 rfl hl (by decide) rfl (fun ls hl => ?_)
            have htz : zTzC z6.toInt z72.toInt (11 : Int32).toInt := zTzC_s 2 htz (by omega) (by omega) (by omega)
            refine lv_iload_n hx hb dJ6_numberOfTrailingZeros_0f7a4_74 rfl (lv_at hl 1 rfl) ?_
            refine lv_iload_n hx hb dJ6_numberOfTrailingZeros_0f7a4_75 rfl (lv_at hl 0 rfl) ?_
            refine lv_iconst (v := 1) hx hb dJ6_numberOfTrailingZeros_0f7a4_76 (by decide) ?_
            refine lv_iushr hx hb dJ6_numberOfTrailingZeros_0f7a4_77 rfl ?_
            refine lv_topi (fun z77 e_z77 => ?_)
            have b_ := zushr1 rfl e_z77 (by omega)
            refine lv_iadd hx hb dJ6_numberOfTrailingZeros_0f7a4_78 ?_
            refine lv_topi (fun z78 e_z78 => ?_)
            have b_ := zadd zk_11 rfl e_z78 (by omega) (by omega)
            refine W.widen (k := 0) (n := 0) (by decide) (by decide) ?_
            have hpost : (0 ≤ z78.toInt ∧ z78.toInt ≤ 32) ∧ (x0.toInt ≠ 0 → z78.toInt ≤ 31) ∧ (zCtz (x0 : Int32) z78.toInt) := ⟨(by first | with_reducible assumption | exact ⟨by omega, by omega⟩), by omega, by first | exact zCtz_i e_z2 e_z5 e_z6 (zTzC_e htz (by omega) (by omega)) (fun q_ => by omega) | exact zCtz_i e_z2 e_z5 e_z6 (fun q_ => by omega) (fun q_ => by rw [e_z15, show z6 = 0 from zeqi.mpr (q_.trans (by decide))]; decide)⟩
            have hP9 : va_P (dC, dI) vwCl [] s.heap := hP
            have hD9 : va_D A [] := hD
            exact W.iret (v := z78) hx hb hr (fun t ht hW => ⟨⟨z78, (fun _ => 0), rfl, hpost, (fun _ => 0), (fun _ => (fun _ => 0)), (fun _ => (fun _ => 0)), by rw [ht]; exact hP9, va_K.moved hW.alike hK, hD9⟩, hS.F ht⟩) hS.2.2 dJ6_numberOfTrailingZeros_0f7a4_79
        · skip
          have b_ := zF_le rfl zk_16 c_
          refine lv_iinc (v := 13) (lv' := [(1, .int 13), (0, .int z47)]) hx hb dJ6_numberOfTrailingZeros_0f7a4_55 hl (k := 1) rfl (by decide) (by decide) rfl (fun ls hl => ?_)
          refine lv_iload_n hx hb dJ6_numberOfTrailingZeros_0f7a4_58 rfl (lv_at hl 1 rfl) ?_
          refine lv_iconst (v := 4) hx hb dJ6_numberOfTrailingZeros_0f7a4_59 (by decide) ?_
          refine lv_iushr hx hb dJ6_numberOfTrailingZeros_0f7a4_60 rfl ?_
          refine lv_topi (fun z60 e_z60 => ?_)
          have b_ := zushr4 rfl e_z60 (by omega)
          refine lv_istore_n (lv' := [(0, .int z60), (1, .int 13)]) hx hb dJ6_numberOfTrailingZeros_0f7a4_61 rfl hl (by decide) rfl (fun ls hl => ?_)
          have htz : zTzC z6.toInt z60.toInt (13 : Int32).toInt := zTzC_s 4 htz (by omega) (by omega) (by omega)
          refine lv_iload_n hx hb dJ6_numberOfTrailingZeros_0f7a4_62 rfl (lv_at hl 0 rfl) ?_
          refine lv_iconst (v := 4) hx hb dJ6_numberOfTrailingZeros_0f7a4_63 (by decide) ?_
          refine lv_icmp_le (tgt := 74) hx hb dJ6_numberOfTrailingZeros_0f7a4_64 (by decide) (fun c_ => ?_) (fun c_ => ?_)
          · skip
            have b_ := zT_le rfl zk_4 c_
            refine lv_iload_n hx hb dJ6_numberOfTrailingZeros_0f7a4_74 rfl (lv_at hl 1 rfl) ?_
            refine lv_iload_n hx hb dJ6_numberOfTrailingZeros_0f7a4_75 rfl (lv_at hl 0 rfl) ?_
            refine lv_iconst (v := 1) hx hb dJ6_numberOfTrailingZeros_0f7a4_76 (by decide) ?_
            refine lv_iushr hx hb dJ6_numberOfTrailingZeros_0f7a4_77 rfl ?_
            refine lv_topi (fun z77 e_z77 => ?_)
            have b_ := zushr1 rfl e_z77 (by omega)
            refine lv_iadd hx hb dJ6_numberOfTrailingZeros_0f7a4_78 ?_
            refine lv_topi (fun z78 e_z78 => ?_)
            have b_ := zadd zk_13 rfl e_z78 (by omega) (by omega)
            refine W.widen (k := 0) (n := 0) (by decide) (by decide) ?_
            have hpost : (0 ≤ z78.toInt ∧ z78.toInt ≤ 32) ∧ (x0.toInt ≠ 0 → z78.toInt ≤ 31) ∧ (zCtz (x0 : Int32) z78.toInt) := ⟨(by first | with_reducible assumption | exact ⟨by omega, by omega⟩), by omega, by first | exact zCtz_i e_z2 e_z5 e_z6 (zTzC_e htz (by omega) (by omega)) (fun q_ => by omega) | exact zCtz_i e_z2 e_z5 e_z6 (fun q_ => by omega) (fun q_ => by rw [e_z15, show z6 = 0 from zeqi.mpr (q_.trans (by decide))]; decide)⟩
            have hP9 : va_P (dC, dI) vwCl [] s.heap := hP
            have hD9 : va_D A [] := hD
            exact W.iret (v := z78) hx hb hr (fun t ht hW => ⟨⟨z78, (fun _ => 0), rfl, hpost, (fun _ => 0), (fun _ => (fun _ => 0)), (fun _ => (fun _ => 0)), by rw [ht]; exact hP9, va_K.moved hW.alike hK, hD9⟩, hS.F ht⟩) hS.2.2 dJ6_numberOfTrailingZeros_0f7a4_79
          · skip
            have b_ := zF_le rfl zk_4 c_
            refine lv_iinc (v := 15) (lv' := [(1, .int 15), (0, .int z60)]) hx hb dJ6_numberOfTrailingZeros_0f7a4_67 hl (k := 1) rfl (by decide) (by decide) rfl (fun ls hl => ?_)
            refine lv_iload_n hx hb dJ6_numberOfTrailingZeros_0f7a4_70 rfl (lv_at hl 1 rfl) ?_
            refine lv_iconst (v := 2) hx hb dJ6_numberOfTrailingZeros_0f7a4_71 (by decide) ?_
            refine lv_iushr hx hb dJ6_numberOfTrailingZeros_0f7a4_72 rfl ?_
            refine lv_topi (fun z72 e_z72 => ?_)
            have b_ := zushr2 rfl e_z72 (by omega)
            refine lv_istore_n (lv' := [(0, .int z72), (1, .int 15)]) hx hb dJ6_numberOfTrailingZeros_0f7a4_73 rfl hl (by decide) rfl (fun ls hl => ?_)
            have htz : zTzC z6.toInt z72.toInt (15 : Int32).toInt := zTzC_s 2 htz (by omega) (by omega) (by omega)
            refine lv_iload_n hx hb dJ6_numberOfTrailingZeros_0f7a4_74 rfl (lv_at hl 1 rfl) ?_
            refine lv_iload_n hx hb dJ6_numberOfTrailingZeros_0f7a4_75 rfl (lv_at hl 0 rfl) ?_
            refine lv_iconst (v := 1) hx hb dJ6_numberOfTrailingZeros_0f7a4_76 (by decide) ?_
            refine lv_iushr hx hb dJ6_numberOfTrailingZeros_0f7a4_77 rfl ?_
            refine lv_topi (fun z77 e_z77 => ?_)
            have b_ := zushr1 rfl e_z77 (by omega)
            refine lv_iadd hx hb dJ6_numberOfTrailingZeros_0f7a4_78 ?_
            refine lv_topi (fun z78 e_z78 => ?_)
            have b_ := zadd zk_15 rfl e_z78 (by omega) (by omega)
            refine W.widen (k := 0) (n := 0) (by decide) (by decide) ?_
            have hpost : (0 ≤ z78.toInt ∧ z78.toInt ≤ 32) ∧ (x0.toInt ≠ 0 → z78.toInt ≤ 31) ∧ (zCtz (x0 : Int32) z78.toInt) := ⟨(by first | with_reducible assumption | exact ⟨by omega, by omega⟩), by omega, by first | exact zCtz_i e_z2 e_z5 e_z6 (zTzC_e htz (by omega) (by omega)) (fun q_ => by omega) | exact zCtz_i e_z2 e_z5 e_z6 (fun q_ => by omega) (fun q_ => by rw [e_z15, show z6 = 0 from zeqi.mpr (q_.trans (by decide))]; decide)⟩
            have hP9 : va_P (dC, dI) vwCl [] s.heap := hP
            have hD9 : va_D A [] := hD
            exact W.iret (v := z78) hx hb hr (fun t ht hW => ⟨⟨z78, (fun _ => 0), rfl, hpost, (fun _ => 0), (fun _ => (fun _ => 0)), (fun _ => (fun _ => 0)), by rw [ht]; exact hP9, va_K.moved hW.alike hK, hD9⟩, hS.F ht⟩) hS.2.2 dJ6_numberOfTrailingZeros_0f7a4_79
    · skip
      have b_ := zF_le rfl zk_65536 c_
      refine lv_iinc (v := 17) (lv' := [(1, .int 17), (0, .int z6)]) hx hb dJ6_numberOfTrailingZeros_0f7a4_26 hl (k := 0) rfl (by decide) (by decide) rfl (fun ls hl => ?_)
      refine lv_iload_n hx hb dJ6_numberOfTrailingZeros_0f7a4_29 rfl (lv_at hl 1 rfl) ?_
      refine lv_bipush (v := 16) hx hb dJ6_numberOfTrailingZeros_0f7a4_30 (by decide) ?_
      refine lv_iushr hx hb dJ6_numberOfTrailingZeros_0f7a4_32 rfl ?_
      refine lv_topi (fun z32 e_z32 => ?_)
      have b_ := zushr16 rfl e_z32 (by omega)
      refine lv_istore_n (lv' := [(0, .int z32), (1, .int 17)]) hx hb dJ6_numberOfTrailingZeros_0f7a4_33 rfl hl (by decide) rfl (fun ls hl => ?_)
      have htz : zTzC z6.toInt z32.toInt (17 : Int32).toInt := zTzC_s 16 htz (by omega) (by omega) (by omega)
      refine lv_iload_n hx hb dJ6_numberOfTrailingZeros_0f7a4_34 rfl (lv_at hl 0 rfl) ?_
      refine lv_sipush (v := 256) hx hb dJ6_numberOfTrailingZeros_0f7a4_35 (by decide) ?_
      refine lv_icmp_le (tgt := 49) hx hb dJ6_numberOfTrailingZeros_0f7a4_38 (by decide) (fun c_ => ?_) (fun c_ => ?_)
      · skip
        have b_ := zT_le rfl zk_256 c_
        refine lv_iload_n hx hb dJ6_numberOfTrailingZeros_0f7a4_49 rfl (lv_at hl 0 rfl) ?_
        refine lv_bipush (v := 16) hx hb dJ6_numberOfTrailingZeros_0f7a4_50 (by decide) ?_
        refine lv_icmp_le (tgt := 62) hx hb dJ6_numberOfTrailingZeros_0f7a4_52 (by decide) (fun c_ => ?_) (fun c_ => ?_)
        · skip
          have b_ := zT_le rfl zk_16 c_
          refine lv_iload_n hx hb dJ6_numberOfTrailingZeros_0f7a4_62 rfl (lv_at hl 0 rfl) ?_
          refine lv_iconst (v := 4) hx hb dJ6_numberOfTrailingZeros_0f7a4_63 (by decide) ?_
          refine lv_icmp_le (tgt := 74) hx hb dJ6_numberOfTrailingZeros_0f7a4_64 (by decide) (fun c_ => ?_) (fun c_ => ?_)
          · skip
            have b_ := zT_le rfl zk_4 c_
            refine lv_iload_n hx hb dJ6_numberOfTrailingZeros_0f7a4_74 rfl (lv_at hl 1 rfl) ?_
            refine lv_iload_n hx hb dJ6_numberOfTrailingZeros_0f7a4_75 rfl (lv_at hl 0 rfl) ?_
            refine lv_iconst (v := 1) hx hb dJ6_numberOfTrailingZeros_0f7a4_76 (by decide) ?_
            refine lv_iushr hx hb dJ6_numberOfTrailingZeros_0f7a4_77 rfl ?_
            refine lv_topi (fun z77 e_z77 => ?_)
            have b_ := zushr1 rfl e_z77 (by omega)
            refine lv_iadd hx hb dJ6_numberOfTrailingZeros_0f7a4_78 ?_
            refine lv_topi (fun z78 e_z78 => ?_)
            have b_ := zadd zk_17 rfl e_z78 (by omega) (by omega)
            refine W.widen (k := 0) (n := 0) (by decide) (by decide) ?_
            have hpost : (0 ≤ z78.toInt ∧ z78.toInt ≤ 32) ∧ (x0.toInt ≠ 0 → z78.toInt ≤ 31) ∧ (zCtz (x0 : Int32) z78.toInt) := ⟨(by first | with_reducible assumption | exact ⟨by omega, by omega⟩), by omega, by first | exact zCtz_i e_z2 e_z5 e_z6 (zTzC_e htz (by omega) (by omega)) (fun q_ => by omega) | exact zCtz_i e_z2 e_z5 e_z6 (fun q_ => by omega) (fun q_ => by rw [e_z15, show z6 = 0 from zeqi.mpr (q_.trans (by decide))]; decide)⟩
            have hP9 : va_P (dC, dI) vwCl [] s.heap := hP
            have hD9 : va_D A [] := hD
            exact W.iret (v := z78) hx hb hr (fun t ht hW => ⟨⟨z78, (fun _ => 0), rfl, hpost, (fun _ => 0), (fun _ => (fun _ => 0)), (fun _ => (fun _ => 0)), by rw [ht]; exact hP9, va_K.moved hW.alike hK, hD9⟩, hS.F ht⟩) hS.2.2 dJ6_numberOfTrailingZeros_0f7a4_79
          · skip
            have b_ := zF_le rfl zk_4 c_
            refine lv_iinc (v := 19) (lv' := [(1, .int 19), (0, .int z32)]) hx hb dJ6_numberOfTrailingZeros_0f7a4_67 hl (k := 1) rfl (by decide) (by decide) rfl (fun ls hl => ?_)
            refine lv_iload_n hx hb dJ6_numberOfTrailingZeros_0f7a4_70 rfl (lv_at hl 1 rfl) ?_
            refine lv_iconst (v := 2) hx hb dJ6_numberOfTrailingZeros_0f7a4_71 (by decide) ?_
            refine lv_iushr hx hb dJ6_numberOfTrailingZeros_0f7a4_72 rfl ?_
            refine lv_topi (fun z72 e_z72 => ?_)
            have b_ := zushr2 rfl e_z72 (by omega)
            refine lv_istore_n (lv' := [(0, .int z72), (1, .int 19)]) hx hb dJ6_numberOfTrailingZeros_0f7a4_73 rfl hl (by decide) rfl (fun ls hl => ?_)
            have htz : zTzC z6.toInt z72.toInt (19 : Int32).toInt := zTzC_s 2 htz (by omega) (by omega) (by omega)
            refine lv_iload_n hx hb dJ6_numberOfTrailingZeros_0f7a4_74 rfl (lv_at hl 1 rfl) ?_
            refine lv_iload_n hx hb dJ6_numberOfTrailingZeros_0f7a4_75 rfl (lv_at hl 0 rfl) ?_
            refine lv_iconst (v := 1) hx hb dJ6_numberOfTrailingZeros_0f7a4_76 (by decide) ?_
            refine lv_iushr hx hb dJ6_numberOfTrailingZeros_0f7a4_77 rfl ?_
            refine lv_topi (fun z77 e_z77 => ?_)
            have b_ := zushr1 rfl e_z77 (by omega)
            refine lv_iadd hx hb dJ6_numberOfTrailingZeros_0f7a4_78 ?_
            refine lv_topi (fun z78 e_z78 => ?_)
            have b_ := zadd zk_19 rfl e_z78 (by omega) (by omega)
            refine W.widen (k := 0) (n := 0) (by decide) (by decide) ?_
            have hpost : (0 ≤ z78.toInt ∧ z78.toInt ≤ 32) ∧ (x0.toInt ≠ 0 → z78.toInt ≤ 31) ∧ (zCtz (x0 : Int32) z78.toInt) := ⟨(by first | with_reducible assumption | exact ⟨by omega, by omega⟩), by omega, by first | exact zCtz_i e_z2 e_z5 e_z6 (zTzC_e htz (by omega) (by omega)) (fun q_ => by omega) | exact zCtz_i e_z2 e_z5 e_z6 (fun q_ => by omega) (fun q_ => by rw [e_z15, show z6 = 0 from zeqi.mpr (q_.trans (by decide))]; decide)⟩
            have hP9 : va_P (dC, dI) vwCl [] s.heap := hP
            have hD9 : va_D A [] := hD
            exact W.iret (v := z78) hx hb hr (fun t ht hW => ⟨⟨z78, (fun _ => 0), rfl, hpost, (fun _ => 0), (fun _ => (fun _ => 0)), (fun _ => (fun _ => 0)), by rw [ht]; exact hP9, va_K.moved hW.alike hK, hD9⟩, hS.F ht⟩) hS.2.2 dJ6_numberOfTrailingZeros_0f7a4_79
        · skip
          have b_ := zF_le rfl zk_16 c_
          refine lv_iinc (v := 21) (lv' := [(1, .int 21), (0, .int z32)]) hx hb dJ6_numberOfTrailingZeros_0f7a4_55 hl (k := 1) rfl (by decide) (by decide) rfl (fun ls hl => ?_)
          refine lv_iload_n hx hb dJ6_numberOfTrailingZeros_0f7a4_58 rfl (lv_at hl 1 rfl) ?_
          refine lv_iconst (v := 4) hx hb dJ6_numberOfTrailingZeros_0f7a4_59 (by decide) ?_
          refine lv_iushr hx hb dJ6_numberOfTrailingZeros_0f7a4_60 rfl ?_
          refine lv_topi (fun z60 e_z60 => ?_)
          have b_ := zushr4 rfl e_z60 (by omega)
          refine lv_istore_n (lv' := [(0, .int z60), (1, .int 21)]) hx hb dJ6_numberOfTrailingZeros_0f7a4_61 rfl hl (by decide) rfl (fun ls hl => ?_)
          have htz : zTzC z6.toInt z60.toInt (21 : Int32).toInt := zTzC_s 4 htz (by omega) (by omega) (by omega)
          refine lv_iload_n hx hb dJ6_numberOfTrailingZeros_0f7a4_62 rfl (lv_at hl 0 rfl) ?_
          refine lv_iconst (v := 4) hx hb dJ6_numberOfTrailingZeros_0f7a4_63 (by decide) ?_
          refine lv_icmp_le (tgt := 74) hx hb dJ6_numberOfTrailingZeros_0f7a4_64 (by decide) (fun c_ => ?_) (fun c_ => ?_)
          · skip
            have b_ := zT_le rfl zk_4 c_
            refine lv_iload_n hx hb dJ6_numberOfTrailingZeros_0f7a4_74 rfl (lv_at hl 1 rfl) ?_
            refine lv_iload_n hx hb dJ6_numberOfTrailingZeros_0f7a4_75 rfl (lv_at hl 0 rfl) ?_
            refine lv_iconst (v := 1) hx hb dJ6_numberOfTrailingZeros_0f7a4_76 (by decide) ?_
            refine lv_iushr hx hb dJ6_numberOfTrailingZeros_0f7a4_77 rfl ?_
            refine lv_topi (fun z77 e_z77 => ?_)
            have b_ := zushr1 rfl e_z77 (by omega)
            refine lv_iadd hx hb dJ6_numberOfTrailingZeros_0f7a4_78 ?_
            refine lv_topi (fun z78 e_z78 => ?_)
            have b_ := zadd zk_21 rfl e_z78 (by omega) (by omega)
            refine W.widen (k := 0) (n := 0) (by decide) (by decide) ?_
            have hpost : (0 ≤ z78.toInt ∧ z78.toInt ≤ 32) ∧ (x0.toInt ≠ 0 → z78.toInt ≤ 31) ∧ (zCtz (x0 : Int32) z78.toInt) := ⟨(by first | with_reducible assumption | exact ⟨by omega, by omega⟩), by omega, by first | exact zCtz_i e_z2 e_z5 e_z6 (zTzC_e htz (by omega) (by omega)) (fun q_ => by omega) | exact zCtz_i e_z2 e_z5 e_z6 (fun q_ => by omega) (fun q_ => by rw [e_z15, show z6 = 0 from zeqi.mpr (q_.trans (by decide))]; decide)⟩
            have hP9 : va_P (dC, dI) vwCl [] s.heap := hP
            have hD9 : va_D A [] := hD
            exact W.iret (v := z78) hx hb hr (fun t ht hW => ⟨⟨z78, (fun _ => 0), rfl, hpost, (fun _ => 0), (fun _ => (fun _ => 0)), (fun _ => (fun _ => 0)), by rw [ht]; exact hP9, va_K.moved hW.alike hK, hD9⟩, hS.F ht⟩) hS.2.2 dJ6_numberOfTrailingZeros_0f7a4_79
          · skip
            have b_ := zF_le rfl zk_4 c_
            refine lv_iinc (v := 23) (lv' := [(1, .int 23), (0, .int z60)]) hx hb dJ6_numberOfTrailingZeros_0f7a4_67 hl (k := 1) rfl (by decide) (by decide) rfl (fun ls hl => ?_)
            refine lv_iload_n hx hb dJ6_numberOfTrailingZeros_0f7a4_70 rfl (lv_at hl 1 rfl) ?_
            refine lv_iconst (v := 2) hx hb dJ6_numberOfTrailingZeros_0f7a4_71 (by decide) ?_
            refine lv_iushr hx hb dJ6_numberOfTrailingZeros_0f7a4_72 rfl ?_
            refine lv_topi (fun z72 e_z72 => ?_)
            have b_ := zushr2 rfl e_z72 (by omega)
            refine lv_istore_n (lv' := [(0, .int z72), (1, .int 23)]) hx hb dJ6_numberOfTrailingZeros_0f7a4_73 rfl hl (by decide) rfl (fun ls hl => ?_)
            have htz : zTzC z6.toInt z72.toInt (23 : Int32).toInt := zTzC_s 2 htz (by omega) (by omega) (by omega)
            refine lv_iload_n hx hb dJ6_numberOfTrailingZeros_0f7a4_74 rfl (lv_at hl 1 rfl) ?_
            refine lv_iload_n hx hb dJ6_numberOfTrailingZeros_0f7a4_75 rfl (lv_at hl 0 rfl) ?_
            refine lv_iconst (v := 1) hx hb dJ6_numberOfTrailingZeros_0f7a4_76 (by decide) ?_
            refine lv_iushr hx hb dJ6_numberOfTrailingZeros_0f7a4_77 rfl ?_
            refine lv_topi (fun z77 e_z77 => ?_)
            have b_ := zushr1 rfl e_z77 (by omega)
            refine lv_iadd hx hb dJ6_numberOfTrailingZeros_0f7a4_78 ?_
            refine lv_topi (fun z78 e_z78 => ?_)
            have b_ := zadd zk_23 rfl e_z78 (by omega) (by omega)
            refine W.widen (k := 0) (n := 0) (by decide) (by decide) ?_
            have hpost : (0 ≤ z78.toInt ∧ z78.toInt ≤ 32) ∧ (x0.toInt ≠ 0 → z78.toInt ≤ 31) ∧ (zCtz (x0 : Int32) z78.toInt) := ⟨(by first | with_reducible assumption | exact ⟨by omega, by omega⟩), by omega, by first | exact zCtz_i e_z2 e_z5 e_z6 (zTzC_e htz (by omega) (by omega)) (fun q_ => by omega) | exact zCtz_i e_z2 e_z5 e_z6 (fun q_ => by omega) (fun q_ => by rw [e_z15, show z6 = 0 from zeqi.mpr (q_.trans (by decide))]; decide)⟩
            have hP9 : va_P (dC, dI) vwCl [] s.heap := hP
            have hD9 : va_D A [] := hD
            exact W.iret (v := z78) hx hb hr (fun t ht hW => ⟨⟨z78, (fun _ => 0), rfl, hpost, (fun _ => 0), (fun _ => (fun _ => 0)), (fun _ => (fun _ => 0)), by rw [ht]; exact hP9, va_K.moved hW.alike hK, hD9⟩, hS.F ht⟩) hS.2.2 dJ6_numberOfTrailingZeros_0f7a4_79
      · skip
        have b_ := zF_le rfl zk_256 c_
        refine lv_iinc (v := 25) (lv' := [(1, .int 25), (0, .int z32)]) hx hb dJ6_numberOfTrailingZeros_0f7a4_41 hl (k := 1) rfl (by decide) (by decide) rfl (fun ls hl => ?_)
        refine lv_iload_n hx hb dJ6_numberOfTrailingZeros_0f7a4_44 rfl (lv_at hl 1 rfl) ?_
        refine lv_bipush (v := 8) hx hb dJ6_numberOfTrailingZeros_0f7a4_45 (by decide) ?_
        refine lv_iushr hx hb dJ6_numberOfTrailingZeros_0f7a4_47 rfl ?_
        refine lv_topi (fun z47 e_z47 => ?_)
        have b_ := zushr8 rfl e_z47 (by omega)
        refine lv_istore_n (lv' := [(0, .int z47), (1, .int 25)]) hx hb dJ6_numberOfTrailingZeros_0f7a4_48 rfl hl (by decide) rfl (fun ls hl => ?_)
        have htz : zTzC z6.toInt z47.toInt (25 : Int32).toInt := zTzC_s 8 htz (by omega) (by omega) (by omega)
        refine lv_iload_n hx hb dJ6_numberOfTrailingZeros_0f7a4_49 rfl (lv_at hl 0 rfl) ?_
        refine lv_bipush (v := 16) hx hb dJ6_numberOfTrailingZeros_0f7a4_50 (by decide) ?_
        refine lv_icmp_le (tgt := 62) hx hb dJ6_numberOfTrailingZeros_0f7a4_52 (by decide) (fun c_ => ?_) (fun c_ => ?_)
        · skip
          have b_ := zT_le rfl zk_16 c_
          refine lv_iload_n hx hb dJ6_numberOfTrailingZeros_0f7a4_62 rfl (lv_at hl 0 rfl) ?_
          refine lv_iconst (v := 4) hx hb dJ6_numberOfTrailingZeros_0f7a4_63 (by decide) ?_
          refine lv_icmp_le (tgt := 74) hx hb dJ6_numberOfTrailingZeros_0f7a4_64 (by decide) (fun c_ => ?_) (fun c_ => ?_)
          · skip
            have b_ := zT_le rfl zk_4 c_
            refine lv_iload_n hx hb dJ6_numberOfTrailingZeros_0f7a4_74 rfl (lv_at hl 1 rfl) ?_
            refine lv_iload_n hx hb dJ6_numberOfTrailingZeros_0f7a4_75 rfl (lv_at hl 0 rfl) ?_
            refine lv_iconst (v := 1) hx hb dJ6_numberOfTrailingZeros_0f7a4_76 (by decide) ?_
            refine lv_iushr hx hb dJ6_numberOfTrailingZeros_0f7a4_77 rfl ?_
            refine lv_topi (fun z77 e_z77 => ?_)
            have b_ := zushr1 rfl e_z77 (by omega)
            refine lv_iadd hx hb dJ6_numberOfTrailingZeros_0f7a4_78 ?_
            refine lv_topi (fun z78 e_z78 => ?_)
            have b_ := zadd zk_25 rfl e_z78 (by omega) (by omega)
            refine W.widen (k := 0) (n := 0) (by decide) (by decide) ?_
            have hpost : (0 ≤ z78.toInt ∧ z78.toInt ≤ 32) ∧ (x0.toInt ≠ 0 → z78.toInt ≤ 31) ∧ (zCtz (x0 : Int32) z78.toInt) := ⟨(by first | with_reducible assumption | exact ⟨by omega, by omega⟩), by omega, by first | exact zCtz_i e_z2 e_z5 e_z6 (zTzC_e htz (by omega) (by omega)) (fun q_ => by omega) | exact zCtz_i e_z2 e_z5 e_z6 (fun q_ => by omega) (fun q_ => by rw [e_z15, show z6 = 0 from zeqi.mpr (q_.trans (by decide))]; decide)⟩
            have hP9 : va_P (dC, dI) vwCl [] s.heap := hP
            have hD9 : va_D A [] := hD
            exact W.iret (v := z78) hx hb hr (fun t ht hW => ⟨⟨z78, (fun _ => 0), rfl, hpost, (fun _ => 0), (fun _ => (fun _ => 0)), (fun _ => (fun _ => 0)), by rw [ht]; exact hP9, va_K.moved hW.alike hK, hD9⟩, hS.F ht⟩) hS.2.2 dJ6_numberOfTrailingZeros_0f7a4_79
          · skip
            have b_ := zF_le rfl zk_4 c_
            refine lv_iinc (v := 27) (lv' := [(1, .int 27), (0, .int z47)]) hx hb dJ6_numberOfTrailingZeros_0f7a4_67 hl (k := 1) rfl (by decide) (by decide) rfl (fun ls hl => ?_)
            refine lv_iload_n hx hb dJ6_numberOfTrailingZeros_0f7a4_70 rfl (lv_at hl 1 rfl) ?_
            refine lv_iconst (v := 2) hx hb dJ6_numberOfTrailingZeros_0f7a4_71 (by decide) ?_
            refine lv_iushr hx hb dJ6_numberOfTrailingZeros_0f7a4_72 rfl ?_
            refine lv_topi (fun z72 e_z72 => ?_)
            have b_ := zushr2 rfl e_z72 (by omega)
            refine lv_istore_n (lv' := [(0, .int z72), (1, .int 27)]) hx hb dJ6_numberOfTrailingZeros_0f7a4_73 rfl hl (by decide) rfl (fun ls hl => ?_)
            have htz : zTzC z6.toInt z72.toInt (27 : Int32).toInt := zTzC_s 2 htz (by omega) (by omega) (by omega)
            refine lv_iload_n hx hb dJ6_numberOfTrailingZeros_0f7a4_74 rfl (lv_at hl 1 rfl) ?_
            refine lv_iload_n hx hb dJ6_numberOfTrailingZeros_0f7a4_75 rfl (lv_at hl 0 rfl) ?_
            refine lv_iconst (v := 1) hx hb dJ6_numberOfTrailingZeros_0f7a4_76 (by decide) ?_
            refine lv_iushr hx hb dJ6_numberOfTrailingZeros_0f7a4_77 rfl ?_
            refine lv_topi (fun z77 e_z77 => ?_)
            have b_ := zushr1 rfl e_z77 (by omega)
            refine lv_iadd hx hb dJ6_numberOfTrailingZeros_0f7a4_78 ?_
            refine lv_topi (fun z78 e_z78 => ?_)
            have b_ := zadd zk_27 rfl e_z78 (by omega) (by omega)
            refine W.widen (k := 0) (n := 0) (by decide) (by decide) ?_
            have hpost : (0 ≤ z78.toInt ∧ z78.toInt ≤ 32) ∧ (x0.toInt ≠ 0 → z78.toInt ≤ 31) ∧ (zCtz (x0 : Int32) z78.toInt) := ⟨(by first | with_reducible assumption | exact ⟨by omega, by omega⟩), by omega, by first | exact zCtz_i e_z2 e_z5 e_z6 (zTzC_e htz (by omega) (by omega)) (fun q_ => by omega) | exact zCtz_i e_z2 e_z5 e_z6 (fun q_ => by omega) (fun q_ => by rw [e_z15, show z6 = 0 from zeqi.mpr (q_.trans (by decide))]; decide)⟩
            have hP9 : va_P (dC, dI) vwCl [] s.heap := hP
            have hD9 : va_D A [] := hD
            exact W.iret (v := z78) hx hb hr (fun t ht hW => ⟨⟨z78, (fun _ => 0), rfl, hpost, (fun _ => 0), (fun _ => (fun _ => 0)), (fun _ => (fun _ => 0)), by rw [ht]; exact hP9, va_K.moved hW.alike hK, hD9⟩, hS.F ht⟩) hS.2.2 dJ6_numberOfTrailingZeros_0f7a4_79
        · skip
          have b_ := zF_le rfl zk_16 c_
          refine lv_iinc (v := 29) (lv' := [(1, .int 29), (0, .int z47)]) hx hb dJ6_numberOfTrailingZeros_0f7a4_55 hl (k := 1) rfl (by decide) (by decide) rfl (fun ls hl => ?_)
          refine lv_iload_n hx hb dJ6_numberOfTrailingZeros_0f7a4_58 rfl (lv_at hl 1 rfl) ?_
          refine lv_iconst (v := 4) hx hb dJ6_numberOfTrailingZeros_0f7a4_59 (by decide) ?_
          refine lv_iushr hx hb dJ6_numberOfTrailingZeros_0f7a4_60 rfl ?_
          refine lv_topi (fun z60 e_z60 => ?_)
          have b_ := zushr4 rfl e_z60 (by omega)
          refine lv_istore_n (lv' := [(0, .int z60), (1, .int 29)]) hx hb dJ6_numberOfTrailingZeros_0f7a4_61 rfl hl (by decide) rfl (fun ls hl => ?_)
          have htz : zTzC z6.toInt z60.toInt (29 : Int32).toInt := zTzC_s 4 htz (by omega) (by omega) (by omega)
          refine lv_iload_n hx hb dJ6_numberOfTrailingZeros_0f7a4_62 rfl (lv_at hl 0 rfl) ?_
          refine lv_iconst (v := 4) hx hb dJ6_numberOfTrailingZeros_0f7a4_63 (by decide) ?_
          refine lv_icmp_le (tgt := 74) hx hb dJ6_numberOfTrailingZeros_0f7a4_64 (by decide) (fun c_ => ?_) (fun c_ => ?_)
          · skip
            have b_ := zT_le rfl zk_4 c_
            refine lv_iload_n hx hb dJ6_numberOfTrailingZeros_0f7a4_74 rfl (lv_at hl 1 rfl) ?_
            refine lv_iload_n hx hb dJ6_numberOfTrailingZeros_0f7a4_75 rfl (lv_at hl 0 rfl) ?_
            refine lv_iconst (v := 1) hx hb dJ6_numberOfTrailingZeros_0f7a4_76 (by decide) ?_
            refine lv_iushr hx hb dJ6_numberOfTrailingZeros_0f7a4_77 rfl ?_
            refine lv_topi (fun z77 e_z77 => ?_)
            have b_ := zushr1 rfl e_z77 (by omega)
            refine lv_iadd hx hb dJ6_numberOfTrailingZeros_0f7a4_78 ?_
            refine lv_topi (fun z78 e_z78 => ?_)
            have b_ := zadd zk_29 rfl e_z78 (by omega) (by omega)
            refine W.widen (k := 0) (n := 0) (by decide) (by decide) ?_
            have hpost : (0 ≤ z78.toInt ∧ z78.toInt ≤ 32) ∧ (x0.toInt ≠ 0 → z78.toInt ≤ 31) ∧ (zCtz (x0 : Int32) z78.toInt) := ⟨(by first | with_reducible assumption | exact ⟨by omega, by omega⟩), by omega, by first | exact zCtz_i e_z2 e_z5 e_z6 (zTzC_e htz (by omega) (by omega)) (fun q_ => by omega) | exact zCtz_i e_z2 e_z5 e_z6 (fun q_ => by omega) (fun q_ => by rw [e_z15, show z6 = 0 from zeqi.mpr (q_.trans (by decide))]; decide)⟩
            have hP9 : va_P (dC, dI) vwCl [] s.heap := hP
            have hD9 : va_D A [] := hD
            exact W.iret (v := z78) hx hb hr (fun t ht hW => ⟨⟨z78, (fun _ => 0), rfl, hpost, (fun _ => 0), (fun _ => (fun _ => 0)), (fun _ => (fun _ => 0)), by rw [ht]; exact hP9, va_K.moved hW.alike hK, hD9⟩, hS.F ht⟩) hS.2.2 dJ6_numberOfTrailingZeros_0f7a4_79
          · skip
            have b_ := zF_le rfl zk_4 c_
            refine lv_iinc (v := 31) (lv' := [(1, .int 31), (0, .int z60)]) hx hb dJ6_numberOfTrailingZeros_0f7a4_67 hl (k := 1) rfl (by decide) (by decide) rfl (fun ls hl => ?_)
            refine lv_iload_n hx hb dJ6_numberOfTrailingZeros_0f7a4_70 rfl (lv_at hl 1 rfl) ?_
            refine lv_iconst (v := 2) hx hb dJ6_numberOfTrailingZeros_0f7a4_71 (by decide) ?_
            refine lv_iushr hx hb dJ6_numberOfTrailingZeros_0f7a4_72 rfl ?_
            refine lv_topi (fun z72 e_z72 => ?_)
            have b_ := zushr2 rfl e_z72 (by omega)
            refine lv_istore_n (lv' := [(0, .int z72), (1, .int 31)]) hx hb dJ6_numberOfTrailingZeros_0f7a4_73 rfl hl (by decide) rfl (fun ls hl => ?_)
            have htz : zTzC z6.toInt z72.toInt (31 : Int32).toInt := zTzC_s 2 htz (by omega) (by omega) (by omega)
            refine lv_iload_n hx hb dJ6_numberOfTrailingZeros_0f7a4_74 rfl (lv_at hl 1 rfl) ?_
            refine lv_iload_n hx hb dJ6_numberOfTrailingZeros_0f7a4_75 rfl (lv_at hl 0 rfl) ?_
            refine lv_iconst (v := 1) hx hb dJ6_numberOfTrailingZeros_0f7a4_76 (by decide) ?_
            refine lv_iushr hx hb dJ6_numberOfTrailingZeros_0f7a4_77 rfl ?_
            refine lv_topi (fun z77 e_z77 => ?_)
            have b_ := zushr1 rfl e_z77 (by omega)
            refine lv_iadd hx hb dJ6_numberOfTrailingZeros_0f7a4_78 ?_
            refine lv_topi (fun z78 e_z78 => ?_)
            have b_ := zadd zk_31 rfl e_z78 (by omega) (by omega)
            refine W.widen (k := 0) (n := 0) (by decide) (by decide) ?_
            have hpost : (0 ≤ z78.toInt ∧ z78.toInt ≤ 32) ∧ (x0.toInt ≠ 0 → z78.toInt ≤ 31) ∧ (zCtz (x0 : Int32) z78.toInt) := ⟨(by first | with_reducible assumption | exact ⟨by omega, by omega⟩), by omega, by first | exact zCtz_i e_z2 e_z5 e_z6 (zTzC_e htz (by omega) (by omega)) (fun q_ => by omega) | exact zCtz_i e_z2 e_z5 e_z6 (fun q_ => by omega) (fun q_ => by rw [e_z15, show z6 = 0 from zeqi.mpr (q_.trans (by decide))]; decide)⟩
            have hP9 : va_P (dC, dI) vwCl [] s.heap := hP
            have hD9 : va_D A [] := hD
            exact W.iret (v := z78) hx hb hr (fun t ht hW => ⟨⟨z78, (fun _ => 0), rfl, hpost, (fun _ => 0), (fun _ => (fun _ => 0)), (fun _ => (fun _ => 0)), by rw [ht]; exact hP9, va_K.moved hW.alike hK, hD9⟩, hS.F ht⟩) hS.2.2 dJ6_numberOfTrailingZeros_0f7a4_79
  · skip
    have b_ := zF_gt rfl zk_0 c_
    refine lv_iload_n hx hb dJ6_numberOfTrailingZeros_0f7a4_12 rfl (lv_at hl 0 rfl) ?_
    refine lv_bipush (v := 32) hx hb dJ6_numberOfTrailingZeros_0f7a4_13 (by decide) ?_
    refine lv_iand hx hb dJ6_numberOfTrailingZeros_0f7a4_15 ?_
    refine lv_topi (fun z15 e_z15 => ?_)
    have b_ := zand (x := z6) zk_32 e_z15 (by decide)
    have b_ := zntz e_z2 e_z5 e_z6 e_z15 (by omega)
    refine W.widen (k := 0) (n := 0) (by decide) (by decide) ?_
    have hpost : (0 ≤ z15.toInt ∧ z15.toInt ≤ 32) ∧ (x0.toInt ≠ 0 → z15.toInt ≤ 31) ∧ (zCtz (x0 : Int32) z15.toInt) := ⟨(by first | with_reducible assumption | exact ⟨by omega, by omega⟩), by omega, by first | exact zCtz_i e_z2 e_z5 e_z6 (zTzC_e htz (by omega) (by omega)) (fun q_ => by omega) | exact zCtz_i e_z2 e_z5 e_z6 (fun q_ => by omega) (fun q_ => by rw [e_z15, show z6 = 0 from zeqi.mpr (q_.trans (by decide))]; decide)⟩
    have hP9 : va_P (dC, dI) vwCl [] s.heap := hP
    have hD9 : va_D A [] := hD
    exact W.iret (v := z15) hx hb hr (fun t ht hW => ⟨⟨z15, (fun _ => 0), rfl, hpost, (fun _ => 0), (fun _ => (fun _ => 0)), (fun _ => (fun _ => 0)), by rw [ht]; exact hP9, va_K.moved hW.alike hK, hD9⟩, hS.F ht⟩) hS.2.2 dJ6_numberOfTrailingZeros_0f7a4_16
set_option maxHeartbeats 8000000 in
set_option maxRecDepth 100000 in
theorem p16_sX5_nextFrom_0 (l : Launch) (dC : Nat → ClassId) (dI : Nat → Nat → Nat) (adK adV : Nat → Nat) (h0 : Nat) (h1 : Nat) (k1 : ClassId) (sz : Nat) (f1 : Nat → Int32) (x1 : Int32) : Met l yX5_nextFrom (zw yX5_nextFrom cX5_nextFrom 4 (some .int)) { frames := 1, cells := 0, slots := 0, locals := 21 } (zPc dC dI adK adV [.ref h0, .int x1] sz [(h0, .inr (5, mX5 h1)), (h1, zi k1 26 f1)] [(k1, .int)]) (va_Qi (fun (r : Int32) (u : Nat → Int32) => ((-1) ≤ r.toInt ∧ r.toInt ≤ 832) ∧ (r.toInt ≤ 831) ∧ (zNf f1 x1.toInt r.toInt)) (fun (u : Nat → Int32) (t : State) => ∃ (ww : Nat → Int64) (aa : Nat → Nat → Int32) (bb : Nat → Nat → Int64), va_P (dC, dI) vwCl [(h0, .inr (5, mX5 h1)), (h1, zi k1 26 f1)] t.heap ∧ va_K (dC, dI) vwCl [(k1, .int)] t ∧ va_D (va_A [(h0, .inr (5, mX5 h1)), (h1, zi k1 26 f1)] sz) [(h0, .inr (5, mX5 h1)), (h1, zi k1 26 f1)]) (va_A [(h0, .inr (5, mX5 h1)), (h1, zi k1 26 f1)] sz)) 0 0 (va_A [(h0, .inr (5, mX5 h1)), (h1, zi k1 26 f1)] sz) := by
  refine Met.ofW (cc := cX5_nextFrom) (maxL := 4) (ret := (some .int)) (by decide) rfl ?_
  intro p e s m args below meth c s₁ B hml hv
  obtain ⟨rfl, hsz, hP, hK, hD0, hE, hZ⟩ := hv
  have hx := B.exec
  have hb := B.bytes
  have hr := B.returns
  have hG : ∀ w ∈ zG, w.before _ s = true := fun w h => atoms_spec (ws := (zw yX5_nextFrom cX5_nextFrom 4 (some .int))) B.pre w (List.mem_cons_of_mem _ h)
  have hown : s.vm.findClass RX5 = some m.cls := findClass_of_methodNamed B.named
  have hlocks := B.notSynchronized

  subst hsz
  have hD := hD0.self (sz := s.heap.size)
  generalize hAe : va_A [(h0, .inr (5, mX5 h1)), (h1, zi k1 26 f1)] s.heap.size = A at hD hZ ⊢
  have hA : ∀ q : Nat, s.heap.size ≤ q → A q := fun q h => by rw [← hAe]; exact Or.inr h
  have hS : va_S A s.heap s.heap [] := va_S.rf
  have hl := lv_entry ([.ref h0, .int x1]) (n := 4) (Nat.le_of_ble_eq_true rfl)
  rw [lg_entry_eq]
  generalize (lg_sl ([.ref h0, .int x1]) ++ List.replicate (4 - (lg_sl ([.ref h0, .int x1])).length) Slot.unset).toArray = ls at hl ⊢
  have hl : lv_has ls 4 [(0, .ref h0), (1, .int x1)] := hl
  have b_ := zk_m1
  refine lv_iload_n hx hb dX5_nextFrom_0 rfl (lv_at hl 1 rfl) ?_
  have b_ : -2147483648 ≤ x1.toInt ∧ x1.toInt ≤ 2147483647 := ⟨zlo _, zhi _⟩
  refine lv_if_lt (tgt := 11) hx hb dX5_nextFrom_1 (by decide) (fun c_ => ?_) (fun c_ => ?_)
  · skip
    have b_ := zT_lt rfl zk_0 c_
    refine lv_iconst (v := (-1)) hx hb dX5_nextFrom_11 (by decide) ?_
    refine W.widen (k := 0) (n := 0) (by decide) (by decide) ?_
    have hpost : ((-1) ≤ ((-1) : Int32).toInt ∧ ((-1) : Int32).toInt ≤ 832) ∧ (((-1) : Int32).toInt ≤ 831) ∧ (zNf f1 x1.toInt ((-1) : Int32).toInt) := ⟨(by first | with_reducible assumption | exact ⟨by omega, by omega⟩), by omega, by first | exact zNf_y hI35_0 (by omega) (by omega) (by omega) (Or.inl ⟨by omega, rfl⟩) (by omega) hX65_1 (by omega) | exact zNf_y hI35_0 (by omega) (by omega) (by omega) (Or.inr ⟨by omega, e_z54⟩) (by omega) hX65_1 (by omega) | exact zNf_e hI35_0 (by omega) (by decide) | exact zNf_o (by omega) (by decide)⟩
    have hP9 : va_P (dC, dI) vwCl [(h0, .inr (5, mX5 h1)), (h1, zi k1 26 f1)] s.heap := hP
    have hD9 : va_D A [(h0, .inr (5, mX5 h1)), (h1, zi k1 26 f1)] := hD
    exact W.iret (v := (-1)) hx hb hr (fun t ht hW => ⟨⟨(-1), (fun _ => 0), rfl, hpost, (fun _ => 0), (fun _ => (fun _ => 0)), (fun _ => (fun _ => 0)), by rw [ht]; exact hP9, va_K.moved hW.alike hK, hD9⟩, hS.F ht⟩) hS.2.2 dX5_nextFrom_12
  · skip
    have b_ := zF_lt rfl zk_0 c_
    refine lv_iload_n hx hb dX5_nextFrom_4 rfl (lv_at hl 1 rfl) ?_
    refine lv_sipush (v := 832) hx hb dX5_nextFrom_5 (by decide) ?_
    refine lv_icmp_lt (tgt := 13) hx hb dX5_nextFrom_8 (by decide) (fun c_ => ?_) (fun c_ => ?_)
    · skip
      have b_ := zT_lt rfl zk_832 c_
      refine lv_aload_n hx hb dX5_nextFrom_13 rfl (lv_at hl 0 rfl) ?_
      refine va_get (D := (dC, dI)) (ci := 5) (v := .ref h1) (C := RX5) (T := TX5) (N := 1) hx hb hG zuX5 hown hK hP 0 rfl rfl 0 (by decide) (hG _ zv458) (fun _ h9 => h9) rfl dX5_nextFrom_14 ?_
      refine lv_iload_n hx hb dX5_nextFrom_17 rfl (lv_at hl 1 rfl) ?_
      refine lv_bipush (v := 32) hx hb dX5_nextFrom_18 (by decide) ?_
      refine lv_idiv hx hb dX5_nextFrom_20 (by decide) ?_
      refine lv_topi (fun z20 e_z20 => ?_)
      have b_ := zdiv rfl zk_32 e_z20 (by omega) (by decide)
      refine va_iald hx hb hK hP 1 0 rfl rfl (zin_lit ⟨by omega, by omega⟩) dX5_nextFrom_21 ?_
      refine lv_topi (fun z21 e_z21 => ?_)
      refine lv_iconst (v := (-1)) hx hb dX5_nextFrom_22 (by decide) ?_
      refine lv_iload_n hx hb dX5_nextFrom_23 rfl (lv_at hl 1 rfl) ?_
      refine lv_bipush (v := 32) hx hb dX5_nextFrom_24 (by decide) ?_
      refine lv_irem hx hb dX5_nextFrom_26 (by decide) ?_
      refine lv_topi (fun z26 e_z26 => ?_)
      have b_ := zrem rfl zk_32 e_z26 (by omega) (by decide)
      refine lv_ishl hx hb dX5_nextFrom_27 ?_
      refine lv_topi (fun z27 e_z27 => ?_)
      have b_ : -2147483648 ≤ z21.toInt ∧ z21.toInt ≤ 2147483647 := ⟨zlo _, zhi _⟩
      have b_ : -2147483648 ≤ z27.toInt ∧ z27.toInt ≤ 2147483647 := ⟨zlo _, zhi _⟩
      refine lv_iand hx hb dX5_nextFrom_28 ?_
      refine lv_topi (fun z28 e_z28 => ?_)
      refine lv_istore_n (lv' := [(2, .int z28), (0, .ref h0), (1, .int x1)]) hx hb dX5_nextFrom_29 rfl hl (by decide) rfl (fun ls hl => ?_)
      refine lv_iload_n hx hb dX5_nextFrom_30 rfl (lv_at hl 2 rfl) ?_
      refine lv_bipush (v := 32) hx hb dX5_nextFrom_31 (by decide) ?_
      refine lv_idiv hx hb dX5_nextFrom_33 (by decide) ?_
      refine lv_topi (fun z33 e_z33 => ?_)
      have b_ := zdiv rfl zk_32 e_z33 (by omega) (by decide)
      refine lv_istore_n (lv' := [(3, .int z33), (2, .int z28), (0, .ref h0), (1, .int x1)]) hx hb dX5_nextFrom_34 rfl hl (by decide) rfl (fun ls hl => ?_)
      refine zcutL (fun u35_ => (26 - (u35_ 1).toInt).toNat) (fun H locs ls u35_ w35_ a35_ b35_ => va_P (dC, dI) vwCl [(h0, .inr (5, mX5 h1)), (h1, zi k1 26 f1)] H ∧ va_D A [(h0, .inr (5, mX5 h1)), (h1, zi k1 26 f1)] ∧ va_S A s.heap H locs ∧ lv_has ls 4 [(0, .ref h0), (1, .int x1), (2, .int (u35_ 0)), (3, .int (u35_ 1))] ∧ (0 ≤ (u35_ 1).toInt ∧ (u35_ 1).toInt ≤ 26) ∧ (zNi f1 x1.toInt ((u35_ 0) : Int32) (u35_ 1).toInt) ∧ (x1.toInt / 32 ≤ (u35_ 1).toInt)) (fun ls u35_ w35_ => F0 m 35 ls []) 0 0 ?_ (fun hJ35 => ?_)
      · skip
        intro H locs ls u35_ w35_ a35_ b35_ hc hJ35
        obtain ⟨hP, hD, hS, hl, b_, hI35_0, b_⟩ := hc
        refine lv_iload_n hx hb dX5_nextFrom_35 rfl (lv_at hl 3 rfl) ?_
        refine lv_bipush (v := 26) hx hb dX5_nextFrom_36 (by decide) ?_
        refine lv_icmp_ge (tgt := 76) hx hb dX5_nextFrom_38 (by decide) (fun c_ => ?_) (fun c_ => ?_)
        · skip
          have b_ := zT_ge rfl zk_26 c_
          refine lv_iconst (v := (-1)) hx hb dX5_nextFrom_76 (by decide) ?_
          refine W.widen (k := 0) (n := 0) (by decide) (by decide) ?_
          have hpost : ((-1) ≤ ((-1) : Int32).toInt ∧ ((-1) : Int32).toInt ≤ 832) ∧ (((-1) : Int32).toInt ≤ 831) ∧ (zNf f1 x1.toInt ((-1) : Int32).toInt) := ⟨(by first | with_reducible assumption | exact ⟨by omega, by omega⟩), by omega, by first | exact zNf_y hI35_0 (by omega) (by omega) (by omega) (Or.inl ⟨by omega, rfl⟩) (by omega) hX65_1 (by omega) | exact zNf_y hI35_0 (by omega) (by omega) (by omega) (Or.inr ⟨by omega, e_z54⟩) (by omega) hX65_1 (by omega) | exact zNf_e hI35_0 (by omega) (by decide) | exact zNf_o (by omega) (by decide)⟩
          have hP9 : va_P (dC, dI) vwCl [(h0, .inr (5, mX5 h1)), (h1, zi k1 26 f1)] H := hP
          have hD9 : va_D A [(h0, .inr (5, mX5 h1)), (h1, zi k1 26 f1)] := hD
          exact W.iret (v := (-1)) hx hb hr (fun t ht hW => ⟨⟨(-1), (fun _ => 0), rfl, hpost, (fun _ => 0), (fun _ => (fun _ => 0)), (fun _ => (fun _ => 0)), by rw [ht]; exact hP9, va_K.moved hW.alike hK, hD9⟩, hS.F ht⟩) hS.2.2 dX5_nextFrom_77
        · skip
          have b_ := zF_ge rfl zk_26 c_
          refine lv_iload_n hx hb dX5_nextFrom_41 rfl (lv_at hl 3 rfl) ?_
          refine lv_iload_n hx hb dX5_nextFrom_42 rfl (lv_at hl 1 rfl) ?_
          refine lv_bipush (v := 32) hx hb dX5_nextFrom_43 (by decide) ?_
          refine lv_idiv hx hb dX5_nextFrom_45 (by decide) ?_
          refine lv_topi (fun z45 e_z45 => ?_)
          have b_ := zdiv rfl zk_32 e_z45 (by omega) (by decide)
          refine lv_icmp_le (tgt := 56) hx hb dX5_nextFrom_46 (by decide) (fun c_ => ?_) (fun c_ => ?_)
          · skip
            have b_ := zT_le rfl rfl c_
            refine lv_iload_n hx hb dX5_nextFrom_56 rfl (lv_at hl 2 rfl) ?_
            have b_ : -2147483648 ≤ (u35_ 0).toInt ∧ (u35_ 0).toInt ≤ 2147483647 := ⟨zlo _, zhi _⟩
            refine lv_if_eq (tgt := 70) hx hb dX5_nextFrom_57 (by decide) (fun c_ => ?_) (fun c_ => ?_)
            · skip
              have b_ := zT_eq rfl zk_0 c_
              obtain ⟨z70, e_z70⟩ : ∃ z : Int32, z = (u35_ 1) + Int32.ofInt 1 := ⟨_, rfl⟩
              have b_ := zadd (x := (u35_ 1)) (y := Int32.ofInt 1) rfl (show (Int32.ofInt 1).toInt = 1 from by decide) e_z70 (by omega) (by omega)
              refine lv_iinc (v := z70) (lv' := [(3, .int z70), (0, .ref h0), (1, .int x1), (2, .int (u35_ 0))]) hx hb dX5_nextFrom_70 hl (k := 3) rfl e_z70.symm (by decide) rfl (fun ls hl => ?_)
              have hni : zNi f1 x1.toInt ((u35_ 0) : Int32) z70.toInt := zNi_z hI35_0 (by omega) (by omega) (Or.inl ⟨by omega, rfl⟩) (by omega) (by omega)
              refine lv_goto (tgt := 35) hx hb dX5_nextFrom_73 (by decide) ?_
              have hc : va_P (dC, dI) vwCl [(h0, .inr (5, mX5 h1)), (h1, zi k1 26 f1)] H ∧ va_D A [(h0, .inr (5, mX5 h1)), (h1, zi k1 26 f1)] ∧ va_S A s.heap H locs ∧ lv_has ls 4 [(0, .ref h0), (1, .int x1), (2, .int (u35_ 0)), (3, .int z70)] ∧ (0 ≤ z70.toInt ∧ z70.toInt ≤ 26) ∧ (zNi f1 x1.toInt ((u35_ 0) : Int32) z70.toInt) ∧ (x1.toInt / 32 ≤ z70.toInt) := ⟨hP, hD, hS, lv_sub hl [1, 2, 3, 0] rfl, (by first | with_reducible assumption | exact ⟨by omega, by omega⟩), by first | exact hni | exact zNi_0 (by omega) (by omega) (by omega) e_z21 e_z27 e_z28, by omega⟩
              exact hJ35 H locs ls (fun i => ([(u35_ 0), z70] : List (Int32)).getD i 0) (fun _ => 0) (fun _ => (fun _ => 0)) (fun _ => (fun _ => 0)) hc (show (26 - z70.toInt).toNat < (26 - (u35_ 1).toInt).toNat from by omega)
            · skip
              have b_ := zF_eq rfl zk_0 c_
              refine lv_iload_n hx hb dX5_nextFrom_60 rfl (lv_at hl 3 rfl) ?_
              refine lv_bipush (v := 32) hx hb dX5_nextFrom_61 (by decide) ?_
              refine lv_imul hx hb dX5_nextFrom_63 ?_
              refine lv_topi (fun z63 e_z63 => ?_)
              have b_ := zmul rfl zk_32 e_z63 (by omega) (by omega)
              refine lv_iload_n hx hb dX5_nextFrom_64 rfl (lv_at hl 2 rfl) ?_
              have hPc := hP.sub (ws' := []) [] rfl
              have hDc := hD.sub (ws' := []) [] (by decide) rfl
              have hKc := hK.sub (tys' := []) [] rfl
              have hFc := va_free (wc := []) hD hS hA [] rfl
              refine va_calli (va_runS (As := [.int (u35_ 0)]) (rest := [.int z63]) ⟨hx, hb, hml, hown, hG⟩ (p16_sJ6_numberOfTrailingZeros_0f7a4_0 l dC dI adK adV H.size (u35_ 0)) (va_cwS 1 hG (zgS zv1318 zv1319 zv151 zv1320) rfl rfl rfl (by decide +kernel) ⟨Nat.le_of_ble_eq_true rfl, Nat.le_of_ble_eq_true rfl⟩) ⟨zPc_blind, zPc_pre hPc hKc hDc hE hS hFc hZ⟩ rfl rfl hl.1 rfl (lv_room (Nat.le_of_ble_eq_true rfl)) dX5_nextFrom_65 ⟨Nat.le_of_ble_eq_true rfl, Nat.le_of_ble_eq_true rfl⟩) hS (fun q _ h => hFc q h) hFc (fun r65_ u65_ t H1 locs ht hvm hw hB hz1 hk1 hS => ?_)
              replace hw : (0 ≤ r65_.toInt ∧ r65_.toInt ≤ 32) ∧ ((u35_ 0).toInt ≠ 0 → r65_.toInt ≤ 31) ∧ (zCtz ((u35_ 0) : Int32) r65_.toInt) := hw
              obtain ⟨b_, hX65_0, hX65_1⟩ := hw
              obtain ⟨w65_, a65_, b65_, hP1, hK1, hD1⟩ := hB
              rw [ht] at hP1
              obtain ⟨hP, hD⟩ := va_join (wr := [(h0, .inr (5, mX5 h1)), (h1, zi k1 26 f1)]) (w1 := []) hP hD [] [0, 1] rfl rfl (by decide) (by decide) hk1 hFc hP1 hD1
              have hP : va_P (dC, dI) vwCl [(h0, .inr (5, mX5 h1)), (h1, zi k1 26 f1)] H1 := hP.sub [0, 1] rfl
              have hD : va_D A [(h0, .inr (5, mX5 h1)), (h1, zi k1 26 f1)] := hD.sub [0, 1] (by decide) rfl
              generalize H1 = H at hP hS ⊢
              clear hz1
              refine lv_iadd hx hb dX5_nextFrom_68 ?_
              refine lv_topi (fun z68 e_z68 => ?_)
              have b_ := zadd rfl rfl e_z68 (by omega) (by omega)
              refine W.widen (k := 0) (n := 0) (by decide) (by decide) ?_
              have hpost : ((-1) ≤ z68.toInt ∧ z68.toInt ≤ 832) ∧ (z68.toInt ≤ 831) ∧ (zNf f1 x1.toInt z68.toInt) := ⟨(by first | with_reducible assumption | exact ⟨by omega, by omega⟩), by omega, by first | exact zNf_y hI35_0 (by omega) (by omega) (by omega) (Or.inl ⟨by omega, rfl⟩) (by omega) hX65_1 (by omega) | exact zNf_y hI35_0 (by omega) (by omega) (by omega) (Or.inr ⟨by omega, e_z54⟩) (by omega) hX65_1 (by omega) | exact zNf_e hI35_0 (by omega) (by decide) | exact zNf_o (by omega) (by decide)⟩
              have hP9 : va_P (dC, dI) vwCl [(h0, .inr (5, mX5 h1)), (h1, zi k1 26 f1)] H := hP
              have hD9 : va_D A [(h0, .inr (5, mX5 h1)), (h1, zi k1 26 f1)] := hD
              exact W.iret (v := z68) hx hb hr (fun t ht hW => ⟨⟨z68, (fun _ => 0), rfl, hpost, (fun _ => 0), (fun _ => (fun _ => 0)), (fun _ => (fun _ => 0)), by rw [ht]; exact hP9, va_K.moved hW.alike hK, hD9⟩, hS.F ht⟩) hS.2.2 dX5_nextFrom_69
          · skip
            have b_ := zF_le rfl rfl c_
            refine lv_aload_n hx hb dX5_nextFrom_49 rfl (lv_at hl 0 rfl) ?_
            refine va_get (D := (dC, dI)) (ci := 5) (v := .ref h1) (C := RX5) (T := TX5) (N := 1) hx hb hG zuX5 hown hK hP 0 rfl rfl 0 (by decide) (hG _ zv458) (fun _ h9 => h9) rfl dX5_nextFrom_50 ?_
            refine lv_iload_n hx hb dX5_nextFrom_53 rfl (lv_at hl 3 rfl) ?_
            refine va_iald hx hb hK hP 1 0 rfl rfl (zin_lit ⟨by omega, by omega⟩) dX5_nextFrom_54 ?_
            refine lv_topi (fun z54 e_z54 => ?_)
            refine lv_istore_n (lv' := [(2, .int z54), (0, .ref h0), (1, .int x1), (3, .int (u35_ 1))]) hx hb dX5_nextFrom_55 rfl hl (by decide) rfl (fun ls hl => ?_)
            refine lv_iload_n hx hb dX5_nextFrom_56 rfl (lv_at hl 0 rfl) ?_
            have b_ : -2147483648 ≤ z54.toInt ∧ z54.toInt ≤ 2147483647 := ⟨zlo _, zhi _⟩
            refine lv_if_eq (tgt := 70) hx hb dX5_nextFrom_57 (by decide) (fun c_ => ?_) (fun c_ => ?_)
            · skip
              have b_ := zT_eq rfl zk_0 c_
              obtain ⟨z70, e_z70⟩ : ∃ z : Int32, z = (u35_ 1) + Int32.ofInt 1 := ⟨_, rfl⟩
              have b_ := zadd (x := (u35_ 1)) (y := Int32.ofInt 1) rfl (show (Int32.ofInt 1).toInt = 1 from by decide) e_z70 (by omega) (by omega)
              refine lv_iinc (v := z70) (lv' := [(3, .int z70), (2, .int z54), (0, .ref h0), (1, .int x1)]) hx hb dX5_nextFrom_70 hl (k := 3) rfl e_z70.symm (by decide) rfl (fun ls hl => ?_)
              have hni : zNi f1 x1.toInt (z54 : Int32) z70.toInt := zNi_z hI35_0 (by omega) (by omega) (Or.inr ⟨by omega, e_z54⟩) (by omega) (by omega)
              refine lv_goto (tgt := 35) hx hb dX5_nextFrom_73 (by decide) ?_
              have hc : va_P (dC, dI) vwCl [(h0, .inr (5, mX5 h1)), (h1, zi k1 26 f1)] H ∧ va_D A [(h0, .inr (5, mX5 h1)), (h1, zi k1 26 f1)] ∧ va_S A s.heap H locs ∧ lv_has ls 4 [(0, .ref h0), (1, .int x1), (2, .int z54), (3, .int z70)] ∧ (0 ≤ z70.toInt ∧ z70.toInt ≤ 26) ∧ (zNi f1 x1.toInt (z54 : Int32) z70.toInt) ∧ (x1.toInt / 32 ≤ z70.toInt) := ⟨hP, hD, hS, lv_sub hl [2, 3, 1, 0] rfl, (by first | with_reducible assumption | exact ⟨by omega, by omega⟩), by first | exact hni | exact zNi_0 (by omega) (by omega) (by omega) e_z21 e_z27 e_z28, by omega⟩
              exact hJ35 H locs ls (fun i => ([z54, z70] : List (Int32)).getD i 0) (fun _ => 0) (fun _ => (fun _ => 0)) (fun _ => (fun _ => 0)) hc (show (26 - z70.toInt).toNat < (26 - (u35_ 1).toInt).toNat from by omega)
            · skip
              have b_ := zF_eq rfl zk_0 c_
              refine lv_iload_n hx hb dX5_nextFrom_60 rfl (lv_at hl 3 rfl) ?_
              refine lv_bipush (v := 32) hx hb dX5_nextFrom_61 (by decide) ?_
              refine lv_imul hx hb dX5_nextFrom_63 ?_
              refine lv_topi (fun z63 e_z63 => ?_)
              have b_ := zmul rfl zk_32 e_z63 (by omega) (by omega)
              refine lv_iload_n hx hb dX5_nextFrom_64 rfl (lv_at hl 0 rfl) ?_
              have hPc := hP.sub (ws' := []) [] rfl
              have hDc := hD.sub (ws' := []) [] (by decide) rfl
              have hKc := hK.sub (tys' := []) [] rfl
              have hFc := va_free (wc := []) hD hS hA [] rfl
              refine va_calli (va_runS (As := [.int z54]) (rest := [.int z63]) ⟨hx, hb, hml, hown, hG⟩ (p16_sJ6_numberOfTrailingZeros_0f7a4_0 l dC dI adK adV H.size z54) (va_cwS 1 hG (zgS zv1318 zv1319 zv151 zv1320) rfl rfl rfl (by decide +kernel) ⟨Nat.le_of_ble_eq_true rfl, Nat.le_of_ble_eq_true rfl⟩) ⟨zPc_blind, zPc_pre hPc hKc hDc hE hS hFc hZ⟩ rfl rfl hl.1 rfl (lv_room (Nat.le_of_ble_eq_true rfl)) dX5_nextFrom_65 ⟨Nat.le_of_ble_eq_true rfl, Nat.le_of_ble_eq_true rfl⟩) hS (fun q _ h => hFc q h) hFc (fun r65_ u65_ t H1 locs ht hvm hw hB hz1 hk1 hS => ?_)
              replace hw : (0 ≤ r65_.toInt ∧ r65_.toInt ≤ 32) ∧ (z54.toInt ≠ 0 → r65_.toInt ≤ 31) ∧ (zCtz (z54 : Int32) r65_.toInt) := hw
              obtain ⟨b_, hX65_0, hX65_1⟩ := hw
              obtain ⟨w65_, a65_, b65_, hP1, hK1, hD1⟩ := hB
              rw [ht] at hP1
              obtain ⟨hP, hD⟩ := va_join (wr := [(h0, .inr (5, mX5 h1)), (h1, zi k1 26 f1)]) (w1 := []) hP hD [] [0, 1] rfl rfl (by decide) (by decide) hk1 hFc hP1 hD1
              have hP : va_P (dC, dI) vwCl [(h0, .inr (5, mX5 h1)), (h1, zi k1 26 f1)] H1 := hP.sub [0, 1] rfl
              have hD : va_D A [(h0, .inr (5, mX5 h1)), (h1, zi k1 26 f1)] := hD.sub [0, 1] (by decide) rfl
              generalize H1 = H at hP hS ⊢
              clear hz1
              refine lv_iadd hx hb dX5_nextFrom_68 ?_
              refine lv_topi (fun z68 e_z68 => ?_)
              have b_ := zadd rfl rfl e_z68 (by omega) (by omega)
              refine W.widen (k := 0) (n := 0) (by decide) (by decide) ?_
              have hpost : ((-1) ≤ z68.toInt ∧ z68.toInt ≤ 832) ∧ (z68.toInt ≤ 831) ∧ (zNf f1 x1.toInt z68.toInt) := ⟨(by first | with_reducible assumption | exact ⟨by omega, by omega⟩), by omega, by first | exact zNf_y hI35_0 (by omega) (by omega) (by omega) (Or.inl ⟨by omega, rfl⟩) (by omega) hX65_1 (by omega) | exact zNf_y hI35_0 (by omega) (by omega) (by omega) (Or.inr ⟨by omega, e_z54⟩) (by omega) hX65_1 (by omega) | exact zNf_e hI35_0 (by omega) (by decide) | exact zNf_o (by omega) (by decide)⟩
              have hP9 : va_P (dC, dI) vwCl [(h0, .inr (5, mX5 h1)), (h1, zi k1 26 f1)] H := hP
              have hD9 : va_D A [(h0, .inr (5, mX5 h1)), (h1, zi k1 26 f1)] := hD
              exact W.iret (v := z68) hx hb hr (fun t ht hW => ⟨⟨z68, (fun _ => 0), rfl, hpost, (fun _ => 0), (fun _ => (fun _ => 0)), (fun _ => (fun _ => 0)), by rw [ht]; exact hP9, va_K.moved hW.alike hK, hD9⟩, hS.F ht⟩) hS.2.2 dX5_nextFrom_69
      · skip
        have b_ : -2147483648 ≤ z28.toInt ∧ z28.toInt ≤ 2147483647 := ⟨zlo _, zhi _⟩
        have hc : va_P (dC, dI) vwCl [(h0, .inr (5, mX5 h1)), (h1, zi k1 26 f1)] s.heap ∧ va_D A [(h0, .inr (5, mX5 h1)), (h1, zi k1 26 f1)] ∧ va_S A s.heap s.heap [] ∧ lv_has ls 4 [(0, .ref h0), (1, .int x1), (2, .int z28), (3, .int z33)] ∧ (0 ≤ z33.toInt ∧ z33.toInt ≤ 26) ∧ (zNi f1 x1.toInt (z28 : Int32) z33.toInt) ∧ (x1.toInt / 32 ≤ z33.toInt) := ⟨hP, hD, hS, lv_sub hl [2, 3, 1, 0] rfl, (by first | with_reducible assumption | exact ⟨by omega, by omega⟩), by first | exact hni | exact zNi_0 (by omega) (by omega) (by omega) e_z21 e_z27 e_z28, by omega⟩
        exact hJ35 s.heap [] ls (fun i => ([z28, z33] : List (Int32)).getD i 0) (fun _ => 0) (fun _ => (fun _ => 0)) (fun _ => (fun _ => 0)) hc
    · skip
      have b_ := zF_lt rfl zk_832 c_
      refine lv_iconst (v := (-1)) hx hb dX5_nextFrom_11 (by decide) ?_
      refine W.widen (k := 0) (n := 0) (by decide) (by decide) ?_
      have hpost : ((-1) ≤ ((-1) : Int32).toInt ∧ ((-1) : Int32).toInt ≤ 832) ∧ (((-1) : Int32).toInt ≤ 831) ∧ (zNf f1 x1.toInt ((-1) : Int32).toInt) := ⟨(by first | with_reducible assumption | exact ⟨by omega, by omega⟩), by omega, by first | exact zNf_y hI35_0 (by omega) (by omega) (by omega) (Or.inl ⟨by omega, rfl⟩) (by omega) hX65_1 (by omega) | exact zNf_y hI35_0 (by omega) (by omega) (by omega) (Or.inr ⟨by omega, e_z54⟩) (by omega) hX65_1 (by omega) | exact zNf_e hI35_0 (by omega) (by decide) | exact zNf_o (by omega) (by decide)⟩
      have hP9 : va_P (dC, dI) vwCl [(h0, .inr (5, mX5 h1)), (h1, zi k1 26 f1)] s.heap := hP
      have hD9 : va_D A [(h0, .inr (5, mX5 h1)), (h1, zi k1 26 f1)] := hD
      exact W.iret (v := (-1)) hx hb hr (fun t ht hW => ⟨⟨(-1), (fun _ => 0), rfl, hpost, (fun _ => 0), (fun _ => (fun _ => 0)), (fun _ => (fun _ => 0)), by rw [ht]; exact hP9, va_K.moved hW.alike hK, hD9⟩, hS.F ht⟩) hS.2.2 dX5_nextFrom_12
set_option maxHeartbeats 8000000 in
set_option maxRecDepth 100000 in
theorem p16_sX5_isNear_0 (l : Launch) (dC : Nat → ClassId) (dI : Nat → Nat → Nat) (adK adV : Nat → Nat) (h0 : Nat) (h1 : Nat) (h2 : Nat) (h3 : Nat) (k1 : ClassId) (k3 : ClassId) (sz : Nat) (f1 : Nat → Int32) (f3 : Nat → Int32) (x2 : Int32) (hx2 : (-999) ≤ x2.toInt ∧ x2.toInt ≤ 999) : Met l yX5_isNear (zw yX5_isNear cX5_isNear 8 (some .boolean)) { frames := 2, cells := 0, slots := 0, locals := 44 } (zPc dC dI adK adV [.ref h0, .ref h2, .int x2] sz [(h0, .inr (5, mX5 h1)), (h1, zi k1 26 f1), (h2, .inr (5, mX5 h3)), (h3, zi k3 26 f3)] [(k1, .int), (k3, .int)]) (va_Qi (fun (r : Int32) (u : Nat → Int32) => (0 ≤ r.toInt ∧ r.toInt ≤ 1) ∧ (zNr f1 f3 x2.toInt r.toInt)) (fun (u : Nat → Int32) (t : State) => ∃ (ww : Nat → Int64) (aa : Nat → Nat → Int32) (bb : Nat → Nat → Int64), va_P (dC, dI) vwCl [(h0, .inr (5, mX5 h1)), (h1, zi k1 26 f1), (h2, .inr (5, mX5 h3)), (h3, zi k3 26 f3)] t.heap ∧ va_K (dC, dI) vwCl [(k1, .int), (k3, .int)] t ∧ va_D (va_A [(h0, .inr (5, mX5 h1)), (h1, zi k1 26 f1), (h2, .inr (5, mX5 h3)), (h3, zi k3 26 f3)] sz) [(h0, .inr (5, mX5 h1)), (h1, zi k1 26 f1), (h2, .inr (5, mX5 h3)), (h3, zi k3 26 f3)]) (va_A [(h0, .inr (5, mX5 h1)), (h1, zi k1 26 f1), (h2, .inr (5, mX5 h3)), (h3, zi k3 26 f3)] sz)) 0 0 (va_A [(h0, .inr (5, mX5 h1)), (h1, zi k1 26 f1), (h2, .inr (5, mX5 h3)), (h3, zi k3 26 f3)] sz) := by
  refine Met.ofW (cc := cX5_isNear) (maxL := 8) (ret := (some .boolean)) (by decide) rfl ?_
  intro p e s m args below meth c s₁ B hml hv
  obtain ⟨rfl, hsz, hP, hK, hD0, hE, hZ⟩ := hv
  have hx := B.exec
  have hb := B.bytes
  have hr := B.returns
  have hG : ∀ w ∈ zG, w.before _ s = true := fun w h => atoms_spec (ws := (zw yX5_isNear cX5_isNear 8 (some .boolean))) B.pre w (List.mem_cons_of_mem _ h)
  have hown : s.vm.findClass RX5 = some m.cls := findClass_of_methodNamed B.named
  have hlocks := B.notSynchronized

  subst hsz
  have hD := hD0.self (sz := s.heap.size)
  generalize hAe : va_A [(h0, .inr (5, mX5 h1)), (h1, zi k1 26 f1), (h2, .inr (5, mX5 h3)), (h3, zi k3 26 f3)] s.heap.size = A at hD hZ ⊢
  have hA : ∀ q : Nat, s.heap.size ≤ q → A q := fun q h => by rw [← hAe]; exact Or.inr h
  have hS : va_S A s.heap s.heap [] := va_S.rf
  have hl := lv_entry ([.ref h0, .ref h2, .int x2]) (n := 8) (Nat.le_of_ble_eq_true rfl)
  rw [lg_entry_eq]
  generalize (lg_sl ([.ref h0, .ref h2, .int x2]) ++ List.replicate (8 - (lg_sl ([.ref h0, .ref h2, .int x2])).length) Slot.unset).toArray = ls at hl ⊢
  have hl : lv_has ls 8 [(0, .ref h0), (1, .ref h2), (2, .int x2)] := hl
  have b_ := zk_0
  have b_ := zk_1
  refine lv_aload_n hx hb dX5_isNear_0 rfl (lv_at hl 0 rfl) ?_
  refine lv_iconst (v := 0) hx hb dX5_isNear_1 (by decide) ?_
  have hPc := hP.sub (ws' := [(h0, .inr (5, mX5 h1)), (h1, zi k1 26 f1)]) [0, 1] rfl
  have hDc := hD.sub (ws' := [(h0, .inr (5, mX5 h1)), (h1, zi k1 26 f1)]) [0, 1] (by decide) rfl
  have hKc := hK.sub (tys' := [(k1, .int)]) [0] rfl
  have hFc := va_free (wc := [(h0, .inr (5, mX5 h1)), (h1, zi k1 26 f1)]) hD hS hA [0, 1] rfl
  refine va_calli (va_runV (As := [.int 0]) (rest := []) ⟨hx, hb, hml, hown, hG⟩ (p16_sX5_nextFrom_0 l dC dI adK adV h0 h1 k1 s.heap.size f1 0) (cwV 1 hG (zgV zv1314 zv1315 zv1316 zv139 zv1317) rfl rfl rfl (by decide +kernel) ⟨Nat.le_of_ble_eq_true rfl, Nat.le_of_ble_eq_true rfl⟩) ⟨zPc_blind, va_recv hKc hPc (ci := 5) (q0 := 0) rfl rfl, zPc_pre hPc hKc hDc hE hS hFc hZ⟩ rfl rfl hl.1 rfl (lv_room (Nat.le_of_ble_eq_true rfl)) dX5_isNear_2 ⟨Nat.le_of_ble_eq_true rfl, Nat.le_of_ble_eq_true rfl⟩) hS (fun q _ h => hFc q h) hFc (fun r2_ u2_ t H1 locs ht hvm hw hB hz1 hk1 hS => ?_)
  replace hw : ((-1) ≤ r2_.toInt ∧ r2_.toInt ≤ 832) ∧ (r2_.toInt ≤ 831) ∧ (zNf f1 (0 : Int32).toInt r2_.toInt) := hw
  obtain ⟨b_, hX2_0, hX2_1⟩ := hw
  obtain ⟨w2_, a2_, b2_, hP1, hK1, hD1⟩ := hB
  rw [ht] at hP1
  obtain ⟨hP, hD⟩ := va_join (wr := [(h2, .inr (5, mX5 h3)), (h3, zi k3 26 f3)]) (w1 := [(h0, .inr (5, mX5 h1)), (h1, zi k1 26 f1)]) hP hD [0, 1] [2, 3] rfl rfl (by decide) (by decide) hk1 hFc hP1 hD1
  have hP : va_P (dC, dI) vwCl [(h0, .inr (5, mX5 h1)), (h1, zi k1 26 f1), (h2, .inr (5, mX5 h3)), (h3, zi k3 26 f3)] H1 := hP.sub [2, 3, 0, 1] rfl
  have hD : va_D A [(h0, .inr (5, mX5 h1)), (h1, zi k1 26 f1), (h2, .inr (5, mX5 h3)), (h3, zi k3 26 f3)] := hD.sub [2, 3, 0, 1] (by decide) rfl
  generalize H1 = H at hP hS ⊢
  clear hz1
  refine lv_istore_n (lv' := [(3, .int r2_), (0, .ref h0), (1, .ref h2), (2, .int x2)]) hx hb dX5_isNear_5 rfl hl (by decide) rfl (fun ls hl => ?_)
  refine lv_iconst (v := 0) hx hb dX5_isNear_6 (by decide) ?_
  refine lv_istore (lv' := [(4, .int 0), (3, .int r2_), (0, .ref h0), (1, .ref h2), (2, .int x2)]) hx hb dX5_isNear_7 hl (by decide) rfl (fun ls hl => ?_)
  refine zcutL (fun u9_ => (832 - (u9_ 1).toInt).toNat) (fun H locs ls u9_ w9_ a9_ b9_ => va_P (dC, dI) vwCl [(h0, .inr (5, mX5 h1)), (h1, zi k1 26 f1), (h2, .inr (5, mX5 h3)), (h3, zi k3 26 f3)] H ∧ va_D A [(h0, .inr (5, mX5 h1)), (h1, zi k1 26 f1), (h2, .inr (5, mX5 h3)), (h3, zi k3 26 f3)] ∧ va_S A s.heap H locs ∧ lv_has ls 8 [(0, .ref h0), (1, .ref h2), (2, .int x2), (3, .int (u9_ 0)), (4, .int (u9_ 1))] ∧ ((-1) ≤ (u9_ 0).toInt ∧ (u9_ 0).toInt ≤ 832) ∧ (0 ≤ (u9_ 1).toInt ∧ (u9_ 1).toInt ≤ 832) ∧ (0 ≤ x2.toInt → zNw f1 f3 x2.toInt (u9_ 0).toInt (u9_ 1).toInt)) (fun ls u9_ w9_ => F0 m 9 ls []) 0 0 ?_ (fun hJ9 => ?_)
  · skip
    intro H locs ls u9_ w9_ a9_ b9_ hc hJ9
    obtain ⟨hP, hD, hS, hl, b_, b_, hI9_0⟩ := hc
    refine lv_iload hx hb dX5_isNear_9 (lv_at hl 4 rfl) ?_
    refine lv_sipush (v := 832) hx hb dX5_isNear_11 (by decide) ?_
    refine lv_icmp_ge (tgt := 107) hx hb dX5_isNear_14 (by decide) (fun c_ => ?_) (fun c_ => ?_)
    · skip
      have b_ := zT_ge rfl zk_832 c_
      refine lv_iconst (v := 0) hx hb dX5_isNear_107 (by decide) ?_
      refine W.widen (k := 0) (n := 0) (by decide) (by decide) ?_
      have hpost : (0 ≤ (0 : Int32).toInt ∧ (0 : Int32).toInt ≤ 1) ∧ (zNr f1 f3 x2.toInt (0 : Int32).toInt) := ⟨(by first | with_reducible assumption | exact ⟨by omega, by omega⟩), by first | exact zNr_y hI9_0 (by omega) hX65_1 (by first | exact Or.inl ⟨by omega, by omega, by omega⟩ | exact Or.inr ⟨by omega, by omega, by omega⟩) (by omega) (by omega) (by omega) (by decide) | exact zNr_n hI9_0 (by omega) (by decide)⟩
      have hP9 : va_P (dC, dI) vwCl [(h0, .inr (5, mX5 h1)), (h1, zi k1 26 f1), (h2, .inr (5, mX5 h3)), (h3, zi k3 26 f3)] H := hP
      have hD9 : va_D A [(h0, .inr (5, mX5 h1)), (h1, zi k1 26 f1), (h2, .inr (5, mX5 h3)), (h3, zi k3 26 f3)] := hD
      exact W.zret (v := 0) hx hb hr rfl (fun t ht hW => ⟨⟨0, (fun _ => 0), rfl, hpost, (fun _ => 0), (fun _ => (fun _ => 0)), (fun _ => (fun _ => 0)), by rw [ht]; exact hP9, va_K.moved hW.alike hK, hD9⟩, hS.F ht⟩) hS.2.2 dX5_isNear_108
    · skip
      have b_ := zF_ge rfl zk_832 c_
      refine lv_iload_n hx hb dX5_isNear_17 rfl (lv_at hl 3 rfl) ?_
      refine lv_iconst (v := (-1)) hx hb dX5_isNear_18 (by decide) ?_
      refine lv_icmp_eq (tgt := 107) hx hb dX5_isNear_19 (by decide) (fun c_ => ?_) (fun c_ => ?_)
      · skip
        have b_ := zT_eq rfl zk_m1 c_
        refine lv_iconst (v := 0) hx hb dX5_isNear_107 (by decide) ?_
        refine W.widen (k := 0) (n := 0) (by decide) (by decide) ?_
        have hpost : (0 ≤ (0 : Int32).toInt ∧ (0 : Int32).toInt ≤ 1) ∧ (zNr f1 f3 x2.toInt (0 : Int32).toInt) := ⟨(by first | with_reducible assumption | exact ⟨by omega, by omega⟩), by first | exact zNr_y hI9_0 (by omega) hX65_1 (by first | exact Or.inl ⟨by omega, by omega, by omega⟩ | exact Or.inr ⟨by omega, by omega, by omega⟩) (by omega) (by omega) (by omega) (by decide) | exact zNr_n hI9_0 (by omega) (by decide)⟩
        have hP9 : va_P (dC, dI) vwCl [(h0, .inr (5, mX5 h1)), (h1, zi k1 26 f1), (h2, .inr (5, mX5 h3)), (h3, zi k3 26 f3)] H := hP
        have hD9 : va_D A [(h0, .inr (5, mX5 h1)), (h1, zi k1 26 f1), (h2, .inr (5, mX5 h3)), (h3, zi k3 26 f3)] := hD
        exact W.zret (v := 0) hx hb hr rfl (fun t ht hW => ⟨⟨0, (fun _ => 0), rfl, hpost, (fun _ => 0), (fun _ => (fun _ => 0)), (fun _ => (fun _ => 0)), by rw [ht]; exact hP9, va_K.moved hW.alike hK, hD9⟩, hS.F ht⟩) hS.2.2 dX5_isNear_108
      · skip
        have b_ := zF_eq rfl zk_m1 c_
        refine lv_iload_n hx hb dX5_isNear_22 rfl (lv_at hl 3 rfl) ?_
        refine lv_sipush (v := 512) hx hb dX5_isNear_23 (by decide) ?_
        refine lv_icmp_ge (tgt := 33) hx hb dX5_isNear_26 (by decide) (fun c_ => ?_) (fun c_ => ?_)
        · skip
          have b_ := zT_ge rfl zk_512 c_
          refine lv_sipush (v := 512) hx hb dX5_isNear_33 (by decide) ?_
          refine lv_istore (lv' := [(5, .int 512), (0, .ref h0), (1, .ref h2), (2, .int x2), (3, .int (u9_ 0)), (4, .int (u9_ 1))]) hx hb dX5_isNear_36 hl (by decide) rfl (fun ls hl => ?_)
          refine lv_iload_n hx hb dX5_isNear_38 rfl (lv_at hl 4 rfl) ?_
          refine lv_sipush (v := 512) hx hb dX5_isNear_39 (by decide) ?_
          refine lv_icmp_ge (tgt := 51) hx hb dX5_isNear_42 (by decide) (fun c_ => ?_) (fun c_ => False.elim (by have b_ := zF_ge rfl zk_512 c_; omega))
          have b_ := zT_ge rfl zk_512 c_
          refine lv_sipush (v := 832) hx hb dX5_isNear_51 (by decide) ?_
          refine lv_istore (lv' := [(6, .int 832), (5, .int 512), (0, .ref h0), (1, .ref h2), (2, .int x2), (3, .int (u9_ 0)), (4, .int (u9_ 1))]) hx hb dX5_isNear_54 hl (by decide) rfl (fun ls hl => ?_)
          refine lv_aload_n hx hb dX5_isNear_56 rfl (lv_at hl 3 rfl) ?_
          refine lv_iload hx hb dX5_isNear_57 (lv_at hl 1 rfl) ?_
          refine lv_iload_n hx hb dX5_isNear_59 rfl (lv_at hl 5 rfl) ?_
          refine lv_iload_n hx hb dX5_isNear_60 rfl (lv_at hl 4 rfl) ?_
          refine lv_isub hx hb dX5_isNear_61 ?_
          refine lv_topi (fun z61 e_z61 => ?_)
          have b_ := zsub rfl rfl e_z61 (by omega) (by omega)
          refine va_mmax hx hb (by rw [hml]; exact hl.1.symm) hown (hG _ zv1321) (hG _ zv1030) (hG _ zv152) (hG _ zv1031) (Nat.le_of_ble_eq_true rfl) (Nat.le_of_ble_eq_true rfl) (Nat.le_of_ble_eq_true rfl) (Nat.le_of_ble_eq_true rfl) dX5_isNear_62 ?_
          refine lv_topi (fun z62 e_z62 => ?_)
          have b_ := zmax zk_512 rfl e_z62
          have hPc := hP.sub (ws' := [(h2, .inr (5, mX5 h3)), (h3, zi k3 26 f3)]) [2, 3] rfl
          have hDc := hD.sub (ws' := [(h2, .inr (5, mX5 h3)), (h3, zi k3 26 f3)]) [2, 3] (by decide) rfl
          have hKc := hK.sub (tys' := [(k3, .int)]) [1] rfl
          have hFc := va_free (wc := [(h2, .inr (5, mX5 h3)), (h3, zi k3 26 f3)]) hD hS hA [2, 3] rfl
          refine va_calli (va_runV (As := [.int z62]) (rest := []) ⟨hx, hb, hml, hown, hG⟩ (p16_sX5_nextFrom_0 l dC dI adK adV h2 h3 k3 H.size f3 z62) (cwV 1 hG (zgV zv1314 zv1315 zv1316 zv139 zv1317) rfl rfl rfl (by decide +kernel) ⟨Nat.le_of_ble_eq_true rfl, Nat.le_of_ble_eq_true rfl⟩) ⟨zPc_blind, va_recv hKc hPc (ci := 5) (q0 := 0) rfl rfl, zPc_pre hPc hKc hDc hE hS hFc hZ⟩ rfl rfl hl.1 rfl (lv_room (Nat.le_of_ble_eq_true rfl)) dX5_isNear_65 ⟨Nat.le_of_ble_eq_true rfl, Nat.le_of_ble_eq_true rfl⟩) hS (fun q _ h => hFc q h) hFc (fun r65_ u65_ t H1 locs ht hvm hw hB hz1 hk1 hS => ?_)
          replace hw : ((-1) ≤ r65_.toInt ∧ r65_.toInt ≤ 832) ∧ (r65_.toInt ≤ 831) ∧ (zNf f3 z62.toInt r65_.toInt) := hw
          obtain ⟨b_, hX65_0, hX65_1⟩ := hw
          obtain ⟨w65_, a65_, b65_, hP1, hK1, hD1⟩ := hB
          rw [ht] at hP1
          obtain ⟨hP, hD⟩ := va_join (wr := [(h0, .inr (5, mX5 h1)), (h1, zi k1 26 f1)]) (w1 := [(h2, .inr (5, mX5 h3)), (h3, zi k3 26 f3)]) hP hD [2, 3] [0, 1] rfl rfl (by decide) (by decide) hk1 hFc hP1 hD1
          have hP : va_P (dC, dI) vwCl [(h0, .inr (5, mX5 h1)), (h1, zi k1 26 f1), (h2, .inr (5, mX5 h3)), (h3, zi k3 26 f3)] H1 := hP.sub [0, 1, 2, 3] rfl
          have hD : va_D A [(h0, .inr (5, mX5 h1)), (h1, zi k1 26 f1), (h2, .inr (5, mX5 h3)), (h3, zi k3 26 f3)] := hD.sub [0, 1, 2, 3] (by decide) rfl
          generalize H1 = H at hP hS ⊢
          clear hz1
          refine lv_istore (lv' := [(7, .int r65_), (6, .int 832), (5, .int 512), (0, .ref h0), (1, .ref h2), (2, .int x2), (3, .int (u9_ 0)), (4, .int (u9_ 1))]) hx hb dX5_isNear_68 hl (by decide) rfl (fun ls hl => ?_)
          refine lv_iload hx hb dX5_isNear_70 (lv_at hl 0 rfl) ?_
          refine lv_iconst (v := (-1)) hx hb dX5_isNear_72 (by decide) ?_
          refine lv_icmp_eq (tgt := 93) hx hb dX5_isNear_73 (by decide) (fun c_ => ?_) (fun c_ => ?_)
          · skip
            have b_ := zT_eq rfl zk_m1 c_
            refine lv_aload_n hx hb dX5_isNear_93 rfl (lv_at hl 3 rfl) ?_
            refine lv_iload_n hx hb dX5_isNear_94 rfl (lv_at hl 6 rfl) ?_
            refine lv_iconst (v := 1) hx hb dX5_isNear_95 (by decide) ?_
            refine lv_iadd hx hb dX5_isNear_96 ?_
            refine lv_topi (fun z96 e_z96 => ?_)
            have b_ := zadd rfl zk_1 e_z96 (by omega) (by omega)
            have hPc := hP.sub (ws' := [(h0, .inr (5, mX5 h1)), (h1, zi k1 26 f1)]) [0, 1] rfl
            have hDc := hD.sub (ws' := [(h0, .inr (5, mX5 h1)), (h1, zi k1 26 f1)]) [0, 1] (by decide) rfl
            have hKc := hK.sub (tys' := [(k1, .int)]) [0] rfl
            have hFc := va_free (wc := [(h0, .inr (5, mX5 h1)), (h1, zi k1 26 f1)]) hD hS hA [0, 1] rfl
            refine va_calli (va_runV (As := [.int z96]) (rest := []) ⟨hx, hb, hml, hown, hG⟩ (p16_sX5_nextFrom_0 l dC dI adK adV h0 h1 k1 H.size f1 z96) (cwV 1 hG (zgV zv1314 zv1315 zv1316 zv139 zv1317) rfl rfl rfl (by decide +kernel) ⟨Nat.le_of_ble_eq_true rfl, Nat.le_of_ble_eq_true rfl⟩) ⟨zPc_blind, va_recv hKc hPc (ci := 5) (q0 := 0) rfl rfl, zPc_pre hPc hKc hDc hE hS hFc hZ⟩ rfl rfl hl.1 rfl (lv_room (Nat.le_of_ble_eq_true rfl)) dX5_isNear_97 ⟨Nat.le_of_ble_eq_true rfl, Nat.le_of_ble_eq_true rfl⟩) hS (fun q _ h => hFc q h) hFc (fun r97_ u97_ t H1 locs ht hvm hw hB hz1 hk1 hS => ?_)
            replace hw : ((-1) ≤ r97_.toInt ∧ r97_.toInt ≤ 832) ∧ (r97_.toInt ≤ 831) ∧ (zNf f1 z96.toInt r97_.toInt) := hw
            obtain ⟨b_, hX97_0, hX97_1⟩ := hw
            obtain ⟨w97_, a97_, b97_, hP1, hK1, hD1⟩ := hB
            rw [ht] at hP1
            obtain ⟨hP, hD⟩ := va_join (wr := [(h2, .inr (5, mX5 h3)), (h3, zi k3 26 f3)]) (w1 := [(h0, .inr (5, mX5 h1)), (h1, zi k1 26 f1)]) hP hD [0, 1] [2, 3] rfl rfl (by decide) (by decide) hk1 hFc hP1 hD1
            have hP : va_P (dC, dI) vwCl [(h0, .inr (5, mX5 h1)), (h1, zi k1 26 f1), (h2, .inr (5, mX5 h3)), (h3, zi k3 26 f3)] H1 := hP.sub [2, 3, 0, 1] rfl
            have hD : va_D A [(h0, .inr (5, mX5 h1)), (h1, zi k1 26 f1), (h2, .inr (5, mX5 h3)), (h3, zi k3 26 f3)] := hD.sub [2, 3, 0, 1] (by decide) rfl
            generalize H1 = H at hP hS ⊢
            clear hz1
            refine lv_istore_n (lv' := [(3, .int r97_), (7, .int r65_), (6, .int 832), (5, .int 512), (0, .ref h0), (1, .ref h2), (2, .int x2), (4, .int (u9_ 1))]) hx hb dX5_isNear_100 rfl hl (by decide) rfl (fun ls hl => ?_)
            obtain ⟨z101, e_z101⟩ : ∃ z : Int32, z = (u9_ 1) + Int32.ofInt 1 := ⟨_, rfl⟩
            have b_ := zadd (x := (u9_ 1)) (y := Int32.ofInt 1) rfl (show (Int32.ofInt 1).toInt = 1 from by decide) e_z101 (by omega) (by omega)
            refine lv_iinc (v := z101) (lv' := [(4, .int z101), (3, .int r97_), (7, .int r65_), (6, .int 832), (5, .int 512), (0, .ref h0), (1, .ref h2), (2, .int x2)]) hx hb dX5_isNear_101 hl (k := 7) rfl e_z101.symm (by decide) rfl (fun ls hl => ?_)
            have hnw : 0 ≤ x2.toInt → zNw f1 f3 x2.toInt r97_.toInt z101.toInt := fun n0_ => zNw_s (hI9_0 n0_) n0_ (by omega) hX65_1 (by first | exact Or.inl ⟨by omega, by omega, by omega⟩ | exact Or.inr ⟨by omega, by omega, by omega⟩) (by omega) hX97_1 (by omega) (by omega)
            refine lv_goto (tgt := 9) hx hb dX5_isNear_104 (by decide) ?_
            have hc : va_P (dC, dI) vwCl [(h0, .inr (5, mX5 h1)), (h1, zi k1 26 f1), (h2, .inr (5, mX5 h3)), (h3, zi k3 26 f3)] H ∧ va_D A [(h0, .inr (5, mX5 h1)), (h1, zi k1 26 f1), (h2, .inr (5, mX5 h3)), (h3, zi k3 26 f3)] ∧ va_S A s.heap H locs ∧ lv_has ls 8 [(0, .ref h0), (1, .ref h2), (2, .int x2), (3, .int r97_), (4, .int z101)] ∧ ((-1) ≤ r97_.toInt ∧ r97_.toInt ≤ 832) ∧ (0 ≤ z101.toInt ∧ z101.toInt ≤ 832) ∧ (0 ≤ x2.toInt → zNw f1 f3 x2.toInt r97_.toInt z101.toInt) := ⟨hP, hD, hS, lv_sub hl [5, 6, 7, 1, 0] rfl, (by first | with_reducible assumption | exact ⟨by omega, by omega⟩), (by first | with_reducible assumption | exact ⟨by omega, by omega⟩), by first | exact hnw | exact fun _ => zNw_0 hX2_1 (by decide) (by decide)⟩
            exact hJ9 H locs ls (fun i => ([r97_, z101] : List (Int32)).getD i 0) (fun _ => 0) (fun _ => (fun _ => 0)) (fun _ => (fun _ => 0)) hc (show (832 - z101.toInt).toNat < (832 - (u9_ 1).toInt).toNat from by omega)
          · skip
            have b_ := zF_eq rfl zk_m1 c_
            refine lv_iload hx hb dX5_isNear_76 (lv_at hl 0 rfl) ?_
            refine lv_iload hx hb dX5_isNear_78 (lv_at hl 1 rfl) ?_
            refine lv_icmp_ge (tgt := 93) hx hb dX5_isNear_80 (by decide) (fun c_ => ?_) (fun c_ => ?_)
            · skip
              have b_ := zT_ge rfl zk_832 c_
              refine lv_aload_n hx hb dX5_isNear_93 rfl (lv_at hl 3 rfl) ?_
              refine lv_iload_n hx hb dX5_isNear_94 rfl (lv_at hl 6 rfl) ?_
              refine lv_iconst (v := 1) hx hb dX5_isNear_95 (by decide) ?_
              refine lv_iadd hx hb dX5_isNear_96 ?_
              refine lv_topi (fun z96 e_z96 => ?_)
              have b_ := zadd rfl zk_1 e_z96 (by omega) (by omega)
              have hPc := hP.sub (ws' := [(h0, .inr (5, mX5 h1)), (h1, zi k1 26 f1)]) [0, 1] rfl
              have hDc := hD.sub (ws' := [(h0, .inr (5, mX5 h1)), (h1, zi k1 26 f1)]) [0, 1] (by decide) rfl
              have hKc := hK.sub (tys' := [(k1, .int)]) [0] rfl
              have hFc := va_free (wc := [(h0, .inr (5, mX5 h1)), (h1, zi k1 26 f1)]) hD hS hA [0, 1] rfl
              refine va_calli (va_runV (As := [.int z96]) (rest := []) ⟨hx, hb, hml, hown, hG⟩ (p16_sX5_nextFrom_0 l dC dI adK adV h0 h1 k1 H.size f1 z96) (cwV 1 hG (zgV zv1314 zv1315 zv1316 zv139 zv1317) rfl rfl rfl (by decide +kernel) ⟨Nat.le_of_ble_eq_true rfl, Nat.le_of_ble_eq_true rfl⟩) ⟨zPc_blind, va_recv hKc hPc (ci := 5) (q0 := 0) rfl rfl, zPc_pre hPc hKc hDc hE hS hFc hZ⟩ rfl rfl hl.1 rfl (lv_room (Nat.le_of_ble_eq_true rfl)) dX5_isNear_97 ⟨Nat.le_of_ble_eq_true rfl, Nat.le_of_ble_eq_true rfl⟩) hS (fun q _ h => hFc q h) hFc (fun r97_ u97_ t H1 locs ht hvm hw hB hz1 hk1 hS => ?_)
              replace hw : ((-1) ≤ r97_.toInt ∧ r97_.toInt ≤ 832) ∧ (r97_.toInt ≤ 831) ∧ (zNf f1 z96.toInt r97_.toInt) := hw
              obtain ⟨b_, hX97_0, hX97_1⟩ := hw
              obtain ⟨w97_, a97_, b97_, hP1, hK1, hD1⟩ := hB
              rw [ht] at hP1
              obtain ⟨hP, hD⟩ := va_join (wr := [(h2, .inr (5, mX5 h3)), (h3, zi k3 26 f3)]) (w1 := [(h0, .inr (5, mX5 h1)), (h1, zi k1 26 f1)]) hP hD [0, 1] [2, 3] rfl rfl (by decide) (by decide) hk1 hFc hP1 hD1
              have hP : va_P (dC, dI) vwCl [(h0, .inr (5, mX5 h1)), (h1, zi k1 26 f1), (h2, .inr (5, mX5 h3)), (h3, zi k3 26 f3)] H1 := hP.sub [2, 3, 0, 1] rfl
              have hD : va_D A [(h0, .inr (5, mX5 h1)), (h1, zi k1 26 f1), (h2, .inr (5, mX5 h3)), (h3, zi k3 26 f3)] := hD.sub [2, 3, 0, 1] (by decide) rfl
              generalize H1 = H at hP hS ⊢
              clear hz1
              refine lv_istore_n (lv' := [(3, .int r97_), (7, .int r65_), (6, .int 832), (5, .int 512), (0, .ref h0), (1, .ref h2), (2, .int x2), (4, .int (u9_ 1))]) hx hb dX5_isNear_100 rfl hl (by decide) rfl (fun ls hl => ?_)
              obtain ⟨z101, e_z101⟩ : ∃ z : Int32, z = (u9_ 1) + Int32.ofInt 1 := ⟨_, rfl⟩
              have b_ := zadd (x := (u9_ 1)) (y := Int32.ofInt 1) rfl (show (Int32.ofInt 1).toInt = 1 from by decide) e_z101 (by omega) (by omega)
              refine lv_iinc (v := z101) (lv' := [(4, .int z101), (3, .int r97_), (7, .int r65_), (6, .int 832), (5, .int 512), (0, .ref h0), (1, .ref h2), (2, .int x2)]) hx hb dX5_isNear_101 hl (k := 7) rfl e_z101.symm (by decide) rfl (fun ls hl => ?_)
              have hnw : 0 ≤ x2.toInt → zNw f1 f3 x2.toInt r97_.toInt z101.toInt := fun n0_ => zNw_s (hI9_0 n0_) n0_ (by omega) hX65_1 (by first | exact Or.inl ⟨by omega, by omega, by omega⟩ | exact Or.inr ⟨by omega, by omega, by omega⟩) (by omega) hX97_1 (by omega) (by omega)
              refine lv_goto (tgt := 9) hx hb dX5_isNear_104 (by decide) ?_
              have hc : va_P (dC, dI) vwCl [(h0, .inr (5, mX5 h1)), (h1, zi k1 26 f1), (h2, .inr (5, mX5 h3)), (h3, zi k3 26 f3)] H ∧ va_D A [(h0, .inr (5, mX5 h1)), (h1, zi k1 26 f1), (h2, .inr (5, mX5 h3)), (h3, zi k3 26 f3)] ∧ va_S A s.heap H locs ∧ lv_has ls 8 [(0, .ref h0), (1, .ref h2), (2, .int x2), (3, .int r97_), (4, .int z101)] ∧ ((-1) ≤ r97_.toInt ∧ r97_.toInt ≤ 832) ∧ (0 ≤ z101.toInt ∧ z101.toInt ≤ 832) ∧ (0 ≤ x2.toInt → zNw f1 f3 x2.toInt r97_.toInt z101.toInt) := ⟨hP, hD, hS, lv_sub hl [5, 6, 7, 1, 0] rfl, (by first | with_reducible assumption | exact ⟨by omega, by omega⟩), (by first | with_reducible assumption | exact ⟨by omega, by omega⟩), by first | exact hnw | exact fun _ => zNw_0 hX2_1 (by decide) (by decide)⟩
              exact hJ9 H locs ls (fun i => ([r97_, z101] : List (Int32)).getD i 0) (fun _ => 0) (fun _ => (fun _ => 0)) (fun _ => (fun _ => 0)) hc (show (832 - z101.toInt).toNat < (832 - (u9_ 1).toInt).toNat from by omega)
            · skip
              have b_ := zF_ge rfl zk_832 c_
              refine lv_iload hx hb dX5_isNear_83 (lv_at hl 0 rfl) ?_
              refine lv_iload_n hx hb dX5_isNear_85 rfl (lv_at hl 6 rfl) ?_
              refine lv_iload_n hx hb dX5_isNear_86 rfl (lv_at hl 5 rfl) ?_
              refine lv_iadd hx hb dX5_isNear_87 ?_
              refine lv_topi (fun z87 e_z87 => ?_)
              have b_ := zadd rfl rfl e_z87 (by omega) (by omega)
              refine lv_icmp_gt (tgt := 93) hx hb dX5_isNear_88 (by decide) (fun c_ => ?_) (fun c_ => ?_)
              · skip
                have b_ := zT_gt rfl rfl c_
                refine lv_aload_n hx hb dX5_isNear_93 rfl (lv_at hl 3 rfl) ?_
                refine lv_iload_n hx hb dX5_isNear_94 rfl (lv_at hl 6 rfl) ?_
                refine lv_iconst (v := 1) hx hb dX5_isNear_95 (by decide) ?_
                refine lv_iadd hx hb dX5_isNear_96 ?_
                refine lv_topi (fun z96 e_z96 => ?_)
                have b_ := zadd rfl zk_1 e_z96 (by omega) (by omega)
                have hPc := hP.sub (ws' := [(h0, .inr (5, mX5 h1)), (h1, zi k1 26 f1)]) [0, 1] rfl
                have hDc := hD.sub (ws' := [(h0, .inr (5, mX5 h1)), (h1, zi k1 26 f1)]) [0, 1] (by decide) rfl
                have hKc := hK.sub (tys' := [(k1, .int)]) [0] rfl
                have hFc := va_free (wc := [(h0, .inr (5, mX5 h1)), (h1, zi k1 26 f1)]) hD hS hA [0, 1] rfl
                refine va_calli (va_runV (As := [.int z96]) (rest := []) ⟨hx, hb, hml, hown, hG⟩ (p16_sX5_nextFrom_0 l dC dI adK adV h0 h1 k1 H.size f1 z96) (cwV 1 hG (zgV zv1314 zv1315 zv1316 zv139 zv1317) rfl rfl rfl (by decide +kernel) ⟨Nat.le_of_ble_eq_true rfl, Nat.le_of_ble_eq_true rfl⟩) ⟨zPc_blind, va_recv hKc hPc (ci := 5) (q0 := 0) rfl rfl, zPc_pre hPc hKc hDc hE hS hFc hZ⟩ rfl rfl hl.1 rfl (lv_room (Nat.le_of_ble_eq_true rfl)) dX5_isNear_97 ⟨Nat.le_of_ble_eq_true rfl, Nat.le_of_ble_eq_true rfl⟩) hS (fun q _ h => hFc q h) hFc (fun r97_ u97_ t H1 locs ht hvm hw hB hz1 hk1 hS => ?_)
                replace hw : ((-1) ≤ r97_.toInt ∧ r97_.toInt ≤ 832) ∧ (r97_.toInt ≤ 831) ∧ (zNf f1 z96.toInt r97_.toInt) := hw
                obtain ⟨b_, hX97_0, hX97_1⟩ := hw
                obtain ⟨w97_, a97_, b97_, hP1, hK1, hD1⟩ := hB
                rw [ht] at hP1
                obtain ⟨hP, hD⟩ := va_join (wr := [(h2, .inr (5, mX5 h3)), (h3, zi k3 26 f3)]) (w1 := [(h0, .inr (5, mX5 h1)), (h1, zi k1 26 f1)]) hP hD [0, 1] [2, 3] rfl rfl (by decide) (by decide) hk1 hFc hP1 hD1
                have hP : va_P (dC, dI) vwCl [(h0, .inr (5, mX5 h1)), (h1, zi k1 26 f1), (h2, .inr (5, mX5 h3)), (h3, zi k3 26 f3)] H1 := hP.sub [2, 3, 0, 1] rfl
                have hD : va_D A [(h0, .inr (5, mX5 h1)), (h1, zi k1 26 f1), (h2, .inr (5, mX5 h3)), (h3, zi k3 26 f3)] := hD.sub [2, 3, 0, 1] (by decide) rfl
                generalize H1 = H at hP hS ⊢
                clear hz1
                refine lv_istore_n (lv' := [(3, .int r97_), (7, .int r65_), (6, .int 832), (5, .int 512), (0, .ref h0), (1, .ref h2), (2, .int x2), (4, .int (u9_ 1))]) hx hb dX5_isNear_100 rfl hl (by decide) rfl (fun ls hl => ?_)
                obtain ⟨z101, e_z101⟩ : ∃ z : Int32, z = (u9_ 1) + Int32.ofInt 1 := ⟨_, rfl⟩
                have b_ := zadd (x := (u9_ 1)) (y := Int32.ofInt 1) rfl (show (Int32.ofInt 1).toInt = 1 from by decide) e_z101 (by omega) (by omega)
                refine lv_iinc (v := z101) (lv' := [(4, .int z101), (3, .int r97_), (7, .int r65_), (6, .int 832), (5, .int 512), (0, .ref h0), (1, .ref h2), (2, .int x2)]) hx hb dX5_isNear_101 hl (k := 7) rfl e_z101.symm (by decide) rfl (fun ls hl => ?_)
                have hnw : 0 ≤ x2.toInt → zNw f1 f3 x2.toInt r97_.toInt z101.toInt := fun n0_ => zNw_s (hI9_0 n0_) n0_ (by omega) hX65_1 (by first | exact Or.inl ⟨by omega, by omega, by omega⟩ | exact Or.inr ⟨by omega, by omega, by omega⟩) (by omega) hX97_1 (by omega) (by omega)
                refine lv_goto (tgt := 9) hx hb dX5_isNear_104 (by decide) ?_
                have hc : va_P (dC, dI) vwCl [(h0, .inr (5, mX5 h1)), (h1, zi k1 26 f1), (h2, .inr (5, mX5 h3)), (h3, zi k3 26 f3)] H ∧ va_D A [(h0, .inr (5, mX5 h1)), (h1, zi k1 26 f1), (h2, .inr (5, mX5 h3)), (h3, zi k3 26 f3)] ∧ va_S A s.heap H locs ∧ lv_has ls 8 [(0, .ref h0), (1, .ref h2), (2, .int x2), (3, .int r97_), (4, .int z101)] ∧ ((-1) ≤ r97_.toInt ∧ r97_.toInt ≤ 832) ∧ (0 ≤ z101.toInt ∧ z101.toInt ≤ 832) ∧ (0 ≤ x2.toInt → zNw f1 f3 x2.toInt r97_.toInt z101.toInt) := ⟨hP, hD, hS, lv_sub hl [5, 6, 7, 1, 0] rfl, (by first | with_reducible assumption | exact ⟨by omega, by omega⟩), (by first | with_reducible assumption | exact ⟨by omega, by omega⟩), by first | exact hnw | exact fun _ => zNw_0 hX2_1 (by decide) (by decide)⟩
                exact hJ9 H locs ls (fun i => ([r97_, z101] : List (Int32)).getD i 0) (fun _ => 0) (fun _ => (fun _ => 0)) (fun _ => (fun _ => 0)) hc (show (832 - z101.toInt).toNat < (832 - (u9_ 1).toInt).toNat from by omega)
              · skip
                have b_ := zF_gt rfl rfl c_
                refine lv_iconst (v := 1) hx hb dX5_isNear_91 (by decide) ?_
                refine W.widen (k := 0) (n := 0) (by decide) (by decide) ?_
                have hpost : (0 ≤ (1 : Int32).toInt ∧ (1 : Int32).toInt ≤ 1) ∧ (zNr f1 f3 x2.toInt (1 : Int32).toInt) := ⟨(by first | with_reducible assumption | exact ⟨by omega, by omega⟩), by first | exact zNr_y hI9_0 (by omega) hX65_1 (by first | exact Or.inl ⟨by omega, by omega, by omega⟩ | exact Or.inr ⟨by omega, by omega, by omega⟩) (by omega) (by omega) (by omega) (by decide) | exact zNr_n hI9_0 (by omega) (by decide)⟩
                have hP9 : va_P (dC, dI) vwCl [(h0, .inr (5, mX5 h1)), (h1, zi k1 26 f1), (h2, .inr (5, mX5 h3)), (h3, zi k3 26 f3)] H := hP
                have hD9 : va_D A [(h0, .inr (5, mX5 h1)), (h1, zi k1 26 f1), (h2, .inr (5, mX5 h3)), (h3, zi k3 26 f3)] := hD
                exact W.zret (v := 1) hx hb hr rfl (fun t ht hW => ⟨⟨1, (fun _ => 0), rfl, hpost, (fun _ => 0), (fun _ => (fun _ => 0)), (fun _ => (fun _ => 0)), by rw [ht]; exact hP9, va_K.moved hW.alike hK, hD9⟩, hS.F ht⟩) hS.2.2 dX5_isNear_92
        · skip
          have b_ := zF_ge rfl zk_512 c_
          refine lv_iconst (v := 0) hx hb dX5_isNear_29 (by decide) ?_
          refine lv_goto (tgt := 36) hx hb dX5_isNear_30 (by decide) ?_
          refine lv_istore (lv' := [(5, .int 0), (0, .ref h0), (1, .ref h2), (2, .int x2), (3, .int (u9_ 0)), (4, .int (u9_ 1))]) hx hb dX5_isNear_36 hl (by decide) rfl (fun ls hl => ?_)
          refine lv_iload_n hx hb dX5_isNear_38 rfl (lv_at hl 4 rfl) ?_
          refine lv_sipush (v := 512) hx hb dX5_isNear_39 (by decide) ?_
          refine lv_icmp_ge (tgt := 51) hx hb dX5_isNear_42 (by decide) (fun c_ => False.elim (by have b_ := zT_ge rfl zk_512 c_; omega)) (fun c_ => ?_)
          have b_ := zF_ge rfl zk_512 c_
          refine lv_sipush (v := 512) hx hb dX5_isNear_45 (by decide) ?_
          refine lv_goto (tgt := 54) hx hb dX5_isNear_48 (by decide) ?_
          refine lv_istore (lv' := [(6, .int 512), (5, .int 0), (0, .ref h0), (1, .ref h2), (2, .int x2), (3, .int (u9_ 0)), (4, .int (u9_ 1))]) hx hb dX5_isNear_54 hl (by decide) rfl (fun ls hl => ?_)
          refine lv_aload_n hx hb dX5_isNear_56 rfl (lv_at hl 3 rfl) ?_
          refine lv_iload hx hb dX5_isNear_57 (lv_at hl 1 rfl) ?_
          refine lv_iload_n hx hb dX5_isNear_59 rfl (lv_at hl 5 rfl) ?_
          refine lv_iload_n hx hb dX5_isNear_60 rfl (lv_at hl 4 rfl) ?_
          refine lv_isub hx hb dX5_isNear_61 ?_
          refine lv_topi (fun z61 e_z61 => ?_)
          have b_ := zsub rfl rfl e_z61 (by omega) (by omega)
          refine va_mmax hx hb (by rw [hml]; exact hl.1.symm) hown (hG _ zv1321) (hG _ zv1030) (hG _ zv152) (hG _ zv1031) (Nat.le_of_ble_eq_true rfl) (Nat.le_of_ble_eq_true rfl) (Nat.le_of_ble_eq_true rfl) (Nat.le_of_ble_eq_true rfl) dX5_isNear_62 ?_
          refine lv_topi (fun z62 e_z62 => ?_)
          have b_ := zmax zk_0 rfl e_z62
          have hPc := hP.sub (ws' := [(h2, .inr (5, mX5 h3)), (h3, zi k3 26 f3)]) [2, 3] rfl
          have hDc := hD.sub (ws' := [(h2, .inr (5, mX5 h3)), (h3, zi k3 26 f3)]) [2, 3] (by decide) rfl
          have hKc := hK.sub (tys' := [(k3, .int)]) [1] rfl
          have hFc := va_free (wc := [(h2, .inr (5, mX5 h3)), (h3, zi k3 26 f3)]) hD hS hA [2, 3] rfl
          refine va_calli (va_runV (As := [.int z62]) (rest := []) ⟨hx, hb, hml, hown, hG⟩ (p16_sX5_nextFrom_0 l dC dI adK adV h2 h3 k3 H.size f3 z62) (cwV 1 hG (zgV zv1314 zv1315 zv1316 zv139 zv1317) rfl rfl rfl (by decide +kernel) ⟨Nat.le_of_ble_eq_true rfl, Nat.le_of_ble_eq_true rfl⟩) ⟨zPc_blind, va_recv hKc hPc (ci := 5) (q0 := 0) rfl rfl, zPc_pre hPc hKc hDc hE hS hFc hZ⟩ rfl rfl hl.1 rfl (lv_room (Nat.le_of_ble_eq_true rfl)) dX5_isNear_65 ⟨Nat.le_of_ble_eq_true rfl, Nat.le_of_ble_eq_true rfl⟩) hS (fun q _ h => hFc q h) hFc (fun r65_ u65_ t H1 locs ht hvm hw hB hz1 hk1 hS => ?_)
          replace hw : ((-1) ≤ r65_.toInt ∧ r65_.toInt ≤ 832) ∧ (r65_.toInt ≤ 831) ∧ (zNf f3 z62.toInt r65_.toInt) := hw
          obtain ⟨b_, hX65_0, hX65_1⟩ := hw
          obtain ⟨w65_, a65_, b65_, hP1, hK1, hD1⟩ := hB
          rw [ht] at hP1
          obtain ⟨hP, hD⟩ := va_join (wr := [(h0, .inr (5, mX5 h1)), (h1, zi k1 26 f1)]) (w1 := [(h2, .inr (5, mX5 h3)), (h3, zi k3 26 f3)]) hP hD [2, 3] [0, 1] rfl rfl (by decide) (by decide) hk1 hFc hP1 hD1
          have hP : va_P (dC, dI) vwCl [(h0, .inr (5, mX5 h1)), (h1, zi k1 26 f1), (h2, .inr (5, mX5 h3)), (h3, zi k3 26 f3)] H1 := hP.sub [0, 1, 2, 3] rfl
          have hD : va_D A [(h0, .inr (5, mX5 h1)), (h1, zi k1 26 f1), (h2, .inr (5, mX5 h3)), (h3, zi k3 26 f3)] := hD.sub [0, 1, 2, 3] (by decide) rfl
          generalize H1 = H at hP hS ⊢
          clear hz1
          refine lv_istore (lv' := [(7, .int r65_), (6, .int 512), (5, .int 0), (0, .ref h0), (1, .ref h2), (2, .int x2), (3, .int (u9_ 0)), (4, .int (u9_ 1))]) hx hb dX5_isNear_68 hl (by decide) rfl (fun ls hl => ?_)
          refine lv_iload hx hb dX5_isNear_70 (lv_at hl 0 rfl) ?_
          refine lv_iconst (v := (-1)) hx hb dX5_isNear_72 (by decide) ?_
          refine lv_icmp_eq (tgt := 93) hx hb dX5_isNear_73 (by decide) (fun c_ => ?_) (fun c_ => ?_)
          · skip
            have b_ := zT_eq rfl zk_m1 c_
            refine lv_aload_n hx hb dX5_isNear_93 rfl (lv_at hl 3 rfl) ?_
            refine lv_iload_n hx hb dX5_isNear_94 rfl (lv_at hl 6 rfl) ?_
            refine lv_iconst (v := 1) hx hb dX5_isNear_95 (by decide) ?_
            refine lv_iadd hx hb dX5_isNear_96 ?_
            refine lv_topi (fun z96 e_z96 => ?_)
            have b_ := zadd rfl zk_1 e_z96 (by omega) (by omega)
            have hPc := hP.sub (ws' := [(h0, .inr (5, mX5 h1)), (h1, zi k1 26 f1)]) [0, 1] rfl
            have hDc := hD.sub (ws' := [(h0, .inr (5, mX5 h1)), (h1, zi k1 26 f1)]) [0, 1] (by decide) rfl
            have hKc := hK.sub (tys' := [(k1, .int)]) [0] rfl
            have hFc := va_free (wc := [(h0, .inr (5, mX5 h1)), (h1, zi k1 26 f1)]) hD hS hA [0, 1] rfl
            refine va_calli (va_runV (As := [.int z96]) (rest := []) ⟨hx, hb, hml, hown, hG⟩ (p16_sX5_nextFrom_0 l dC dI adK adV h0 h1 k1 H.size f1 z96) (cwV 1 hG (zgV zv1314 zv1315 zv1316 zv139 zv1317) rfl rfl rfl (by decide +kernel) ⟨Nat.le_of_ble_eq_true rfl, Nat.le_of_ble_eq_true rfl⟩) ⟨zPc_blind, va_recv hKc hPc (ci := 5) (q0 := 0) rfl rfl, zPc_pre hPc hKc hDc hE hS hFc hZ⟩ rfl rfl hl.1 rfl (lv_room (Nat.le_of_ble_eq_true rfl)) dX5_isNear_97 ⟨Nat.le_of_ble_eq_true rfl, Nat.le_of_ble_eq_true rfl⟩) hS (fun q _ h => hFc q h) hFc (fun r97_ u97_ t H1 locs ht hvm hw hB hz1 hk1 hS => ?_)
            replace hw : ((-1) ≤ r97_.toInt ∧ r97_.toInt ≤ 832) ∧ (r97_.toInt ≤ 831) ∧ (zNf f1 z96.toInt r97_.toInt) := hw
            obtain ⟨b_, hX97_0, hX97_1⟩ := hw
            obtain ⟨w97_, a97_, b97_, hP1, hK1, hD1⟩ := hB
            rw [ht] at hP1
            obtain ⟨hP, hD⟩ := va_join (wr := [(h2, .inr (5, mX5 h3)), (h3, zi k3 26 f3)]) (w1 := [(h0, .inr (5, mX5 h1)), (h1, zi k1 26 f1)]) hP hD [0, 1] [2, 3] rfl rfl (by decide) (by decide) hk1 hFc hP1 hD1
            have hP : va_P (dC, dI) vwCl [(h0, .inr (5, mX5 h1)), (h1, zi k1 26 f1), (h2, .inr (5, mX5 h3)), (h3, zi k3 26 f3)] H1 := hP.sub [2, 3, 0, 1] rfl
            have hD : va_D A [(h0, .inr (5, mX5 h1)), (h1, zi k1 26 f1), (h2, .inr (5, mX5 h3)), (h3, zi k3 26 f3)] := hD.sub [2, 3, 0, 1] (by decide) rfl
            generalize H1 = H at hP hS ⊢
            clear hz1
            refine lv_istore_n (lv' := [(3, .int r97_), (7, .int r65_), (6, .int 512), (5, .int 0), (0, .ref h0), (1, .ref h2), (2, .int x2), (4, .int (u9_ 1))]) hx hb dX5_isNear_100 rfl hl (by decide) rfl (fun ls hl => ?_)
            obtain ⟨z101, e_z101⟩ : ∃ z : Int32, z = (u9_ 1) + Int32.ofInt 1 := ⟨_, rfl⟩
            have b_ := zadd (x := (u9_ 1)) (y := Int32.ofInt 1) rfl (show (Int32.ofInt 1).toInt = 1 from by decide) e_z101 (by omega) (by omega)
            refine lv_iinc (v := z101) (lv' := [(4, .int z101), (3, .int r97_), (7, .int r65_), (6, .int 512), (5, .int 0), (0, .ref h0), (1, .ref h2), (2, .int x2)]) hx hb dX5_isNear_101 hl (k := 7) rfl e_z101.symm (by decide) rfl (fun ls hl => ?_)
            have hnw : 0 ≤ x2.toInt → zNw f1 f3 x2.toInt r97_.toInt z101.toInt := fun n0_ => zNw_s (hI9_0 n0_) n0_ (by omega) hX65_1 (by first | exact Or.inl ⟨by omega, by omega, by omega⟩ | exact Or.inr ⟨by omega, by omega, by omega⟩) (by omega) hX97_1 (by omega) (by omega)
            refine lv_goto (tgt := 9) hx hb dX5_isNear_104 (by decide) ?_
            have hc : va_P (dC, dI) vwCl [(h0, .inr (5, mX5 h1)), (h1, zi k1 26 f1), (h2, .inr (5, mX5 h3)), (h3, zi k3 26 f3)] H ∧ va_D A [(h0, .inr (5, mX5 h1)), (h1, zi k1 26 f1), (h2, .inr (5, mX5 h3)), (h3, zi k3 26 f3)] ∧ va_S A s.heap H locs ∧ lv_has ls 8 [(0, .ref h0), (1, .ref h2), (2, .int x2), (3, .int r97_), (4, .int z101)] ∧ ((-1) ≤ r97_.toInt ∧ r97_.toInt ≤ 832) ∧ (0 ≤ z101.toInt ∧ z101.toInt ≤ 832) ∧ (0 ≤ x2.toInt → zNw f1 f3 x2.toInt r97_.toInt z101.toInt) := ⟨hP, hD, hS, lv_sub hl [5, 6, 7, 1, 0] rfl, (by first | with_reducible assumption | exact ⟨by omega, by omega⟩), (by first | with_reducible assumption | exact ⟨by omega, by omega⟩), by first | exact hnw | exact fun _ => zNw_0 hX2_1 (by decide) (by decide)⟩
            exact hJ9 H locs ls (fun i => ([r97_, z101] : List (Int32)).getD i 0) (fun _ => 0) (fun _ => (fun _ => 0)) (fun _ => (fun _ => 0)) hc (show (832 - z101.toInt).toNat < (832 - (u9_ 1).toInt).toNat from by omega)
          · skip
            have b_ := zF_eq rfl zk_m1 c_
            refine lv_iload hx hb dX5_isNear_76 (lv_at hl 0 rfl) ?_
            refine lv_iload hx hb dX5_isNear_78 (lv_at hl 1 rfl) ?_
            refine lv_icmp_ge (tgt := 93) hx hb dX5_isNear_80 (by decide) (fun c_ => ?_) (fun c_ => ?_)
            · skip
              have b_ := zT_ge rfl zk_512 c_
              refine lv_aload_n hx hb dX5_isNear_93 rfl (lv_at hl 3 rfl) ?_
              refine lv_iload_n hx hb dX5_isNear_94 rfl (lv_at hl 6 rfl) ?_
              refine lv_iconst (v := 1) hx hb dX5_isNear_95 (by decide) ?_
              refine lv_iadd hx hb dX5_isNear_96 ?_
              refine lv_topi (fun z96 e_z96 => ?_)
              have b_ := zadd rfl zk_1 e_z96 (by omega) (by omega)
              have hPc := hP.sub (ws' := [(h0, .inr (5, mX5 h1)), (h1, zi k1 26 f1)]) [0, 1] rfl
              have hDc := hD.sub (ws' := [(h0, .inr (5, mX5 h1)), (h1, zi k1 26 f1)]) [0, 1] (by decide) rfl
              have hKc := hK.sub (tys' := [(k1, .int)]) [0] rfl
              have hFc := va_free (wc := [(h0, .inr (5, mX5 h1)), (h1, zi k1 26 f1)]) hD hS hA [0, 1] rfl
              refine va_calli (va_runV (As := [.int z96]) (rest := []) ⟨hx, hb, hml, hown, hG⟩ (p16_sX5_nextFrom_0 l dC dI adK adV h0 h1 k1 H.size f1 z96) (cwV 1 hG (zgV zv1314 zv1315 zv1316 zv139 zv1317) rfl rfl rfl (by decide +kernel) ⟨Nat.le_of_ble_eq_true rfl, Nat.le_of_ble_eq_true rfl⟩) ⟨zPc_blind, va_recv hKc hPc (ci := 5) (q0 := 0) rfl rfl, zPc_pre hPc hKc hDc hE hS hFc hZ⟩ rfl rfl hl.1 rfl (lv_room (Nat.le_of_ble_eq_true rfl)) dX5_isNear_97 ⟨Nat.le_of_ble_eq_true rfl, Nat.le_of_ble_eq_true rfl⟩) hS (fun q _ h => hFc q h) hFc (fun r97_ u97_ t H1 locs ht hvm hw hB hz1 hk1 hS => ?_)
              replace hw : ((-1) ≤ r97_.toInt ∧ r97_.toInt ≤ 832) ∧ (r97_.toInt ≤ 831) ∧ (zNf f1 z96.toInt r97_.toInt) := hw
              obtain ⟨b_, hX97_0, hX97_1⟩ := hw
              obtain ⟨w97_, a97_, b97_, hP1, hK1, hD1⟩ := hB
              rw [ht] at hP1
              obtain ⟨hP, hD⟩ := va_join (wr := [(h2, .inr (5, mX5 h3)), (h3, zi k3 26 f3)]) (w1 := [(h0, .inr (5, mX5 h1)), (h1, zi k1 26 f1)]) hP hD [0, 1] [2, 3] rfl rfl (by decide) (by decide) hk1 hFc hP1 hD1
              have hP : va_P (dC, dI) vwCl [(h0, .inr (5, mX5 h1)), (h1, zi k1 26 f1), (h2, .inr (5, mX5 h3)), (h3, zi k3 26 f3)] H1 := hP.sub [2, 3, 0, 1] rfl
              have hD : va_D A [(h0, .inr (5, mX5 h1)), (h1, zi k1 26 f1), (h2, .inr (5, mX5 h3)), (h3, zi k3 26 f3)] := hD.sub [2, 3, 0, 1] (by decide) rfl
              generalize H1 = H at hP hS ⊢
              clear hz1
              refine lv_istore_n (lv' := [(3, .int r97_), (7, .int r65_), (6, .int 512), (5, .int 0), (0, .ref h0), (1, .ref h2), (2, .int x2), (4, .int (u9_ 1))]) hx hb dX5_isNear_100 rfl hl (by decide) rfl (fun ls hl => ?_)
              obtain ⟨z101, e_z101⟩ : ∃ z : Int32, z = (u9_ 1) + Int32.ofInt 1 := ⟨_, rfl⟩
              have b_ := zadd (x := (u9_ 1)) (y := Int32.ofInt 1) rfl (show (Int32.ofInt 1).toInt = 1 from by decide) e_z101 (by omega) (by omega)
              refine lv_iinc (v := z101) (lv' := [(4, .int z101), (3, .int r97_), (7, .int r65_), (6, .int 512), (5, .int 0), (0, .ref h0), (1, .ref h2), (2, .int x2)]) hx hb dX5_isNear_101 hl (k := 7) rfl e_z101.symm (by decide) rfl (fun ls hl => ?_)
              have hnw : 0 ≤ x2.toInt → zNw f1 f3 x2.toInt r97_.toInt z101.toInt := fun n0_ => zNw_s (hI9_0 n0_) n0_ (by omega) hX65_1 (by first | exact Or.inl ⟨by omega, by omega, by omega⟩ | exact Or.inr ⟨by omega, by omega, by omega⟩) (by omega) hX97_1 (by omega) (by omega)
              refine lv_goto (tgt := 9) hx hb dX5_isNear_104 (by decide) ?_
              have hc : va_P (dC, dI) vwCl [(h0, .inr (5, mX5 h1)), (h1, zi k1 26 f1), (h2, .inr (5, mX5 h3)), (h3, zi k3 26 f3)] H ∧ va_D A [(h0, .inr (5, mX5 h1)), (h1, zi k1 26 f1), (h2, .inr (5, mX5 h3)), (h3, zi k3 26 f3)] ∧ va_S A s.heap H locs ∧ lv_has ls 8 [(0, .ref h0), (1, .ref h2), (2, .int x2), (3, .int r97_), (4, .int z101)] ∧ ((-1) ≤ r97_.toInt ∧ r97_.toInt ≤ 832) ∧ (0 ≤ z101.toInt ∧ z101.toInt ≤ 832) ∧ (0 ≤ x2.toInt → zNw f1 f3 x2.toInt r97_.toInt z101.toInt) := ⟨hP, hD, hS, lv_sub hl [5, 6, 7, 1, 0] rfl, (by first | with_reducible assumption | exact ⟨by omega, by omega⟩), (by first | with_reducible assumption | exact ⟨by omega, by omega⟩), by first | exact hnw | exact fun _ => zNw_0 hX2_1 (by decide) (by decide)⟩
              exact hJ9 H locs ls (fun i => ([r97_, z101] : List (Int32)).getD i 0) (fun _ => 0) (fun _ => (fun _ => 0)) (fun _ => (fun _ => 0)) hc (show (832 - z101.toInt).toNat < (832 - (u9_ 1).toInt).toNat from by omega)
            · skip
              have b_ := zF_ge rfl zk_512 c_
              refine lv_iload hx hb dX5_isNear_83 (lv_at hl 0 rfl) ?_
              refine lv_iload_n hx hb dX5_isNear_85 rfl (lv_at hl 6 rfl) ?_
              refine lv_iload_n hx hb dX5_isNear_86 rfl (lv_at hl 5 rfl) ?_
              refine lv_iadd hx hb dX5_isNear_87 ?_
              refine lv_topi (fun z87 e_z87 => ?_)
              have b_ := zadd rfl rfl e_z87 (by omega) (by omega)
              refine lv_icmp_gt (tgt := 93) hx hb dX5_isNear_88 (by decide) (fun c_ => ?_) (fun c_ => ?_)
              · skip
                have b_ := zT_gt rfl rfl c_
                refine lv_aload_n hx hb dX5_isNear_93 rfl (lv_at hl 3 rfl) ?_
                refine lv_iload_n hx hb dX5_isNear_94 rfl (lv_at hl 6 rfl) ?_
                refine lv_iconst (v := 1) hx hb dX5_isNear_95 (by decide) ?_
                refine lv_iadd hx hb dX5_isNear_96 ?_
                refine lv_topi (fun z96 e_z96 => ?_)
                have b_ := zadd rfl zk_1 e_z96 (by omega) (by omega)
                have hPc := hP.sub (ws' := [(h0, .inr (5, mX5 h1)), (h1, zi k1 26 f1)]) [0, 1] rfl
                have hDc := hD.sub (ws' := [(h0, .inr (5, mX5 h1)), (h1, zi k1 26 f1)]) [0, 1] (by decide) rfl
                have hKc := hK.sub (tys' := [(k1, .int)]) [0] rfl
                have hFc := va_free (wc := [(h0, .inr (5, mX5 h1)), (h1, zi k1 26 f1)]) hD hS hA [0, 1] rfl
                refine va_calli (va_runV (As := [.int z96]) (rest := []) ⟨hx, hb, hml, hown, hG⟩ (p16_sX5_nextFrom_0 l dC dI adK adV h0 h1 k1 H.size f1 z96) (cwV 1 hG (zgV zv1314 zv1315 zv1316 zv139 zv1317) rfl rfl rfl (by decide +kernel) ⟨Nat.le_of_ble_eq_true rfl, Nat.le_of_ble_eq_true rfl⟩) ⟨zPc_blind, va_recv hKc hPc (ci := 5) (q0 := 0) rfl rfl, zPc_pre hPc hKc hDc hE hS hFc hZ⟩ rfl rfl hl.1 rfl (lv_room (Nat.le_of_ble_eq_true rfl)) dX5_isNear_97 ⟨Nat.le_of_ble_eq_true rfl, Nat.le_of_ble_eq_true rfl⟩) hS (fun q _ h => hFc q h) hFc (fun r97_ u97_ t H1 locs ht hvm hw hB hz1 hk1 hS => ?_)
                replace hw : ((-1) ≤ r97_.toInt ∧ r97_.toInt ≤ 832) ∧ (r97_.toInt ≤ 831) ∧ (zNf f1 z96.toInt r97_.toInt) := hw
                obtain ⟨b_, hX97_0, hX97_1⟩ := hw
                obtain ⟨w97_, a97_, b97_, hP1, hK1, hD1⟩ := hB
                rw [ht] at hP1
                obtain ⟨hP, hD⟩ := va_join (wr := [(h2, .inr (5, mX5 h3)), (h3, zi k3 26 f3)]) (w1 := [(h0, .inr (5, mX5 h1)), (h1, zi k1 26 f1)]) hP hD [0, 1] [2, 3] rfl rfl (by decide) (by decide) hk1 hFc hP1 hD1
                have hP : va_P (dC, dI) vwCl [(h0, .inr (5, mX5 h1)), (h1, zi k1 26 f1), (h2, .inr (5, mX5 h3)), (h3, zi k3 26 f3)] H1 := hP.sub [2, 3, 0, 1] rfl
                have hD : va_D A [(h0, .inr (5, mX5 h1)), (h1, zi k1 26 f1), (h2, .inr (5, mX5 h3)), (h3, zi k3 26 f3)] := hD.sub [2, 3, 0, 1] (by decide) rfl
                generalize H1 = H at hP hS ⊢
                clear hz1
                refine lv_istore_n (lv' := [(3, .int r97_), (7, .int r65_), (6, .int 512), (5, .int 0), (0, .ref h0), (1, .ref h2), (2, .int x2), (4, .int (u9_ 1))]) hx hb dX5_isNear_100 rfl hl (by decide) rfl (fun ls hl => ?_)
                obtain ⟨z101, e_z101⟩ : ∃ z : Int32, z = (u9_ 1) + Int32.ofInt 1 := ⟨_, rfl⟩
                have b_ := zadd (x := (u9_ 1)) (y := Int32.ofInt 1) rfl (show (Int32.ofInt 1).toInt = 1 from by decide) e_z101 (by omega) (by omega)
                refine lv_iinc (v := z101) (lv' := [(4, .int z101), (3, .int r97_), (7, .int r65_), (6, .int 512), (5, .int 0), (0, .ref h0), (1, .ref h2), (2, .int x2)]) hx hb dX5_isNear_101 hl (k := 7) rfl e_z101.symm (by decide) rfl (fun ls hl => ?_)
                have hnw : 0 ≤ x2.toInt → zNw f1 f3 x2.toInt r97_.toInt z101.toInt := fun n0_ => zNw_s (hI9_0 n0_) n0_ (by omega) hX65_1 (by first | exact Or.inl ⟨by omega, by omega, by omega⟩ | exact Or.inr ⟨by omega, by omega, by omega⟩) (by omega) hX97_1 (by omega) (by omega)
                refine lv_goto (tgt := 9) hx hb dX5_isNear_104 (by decide) ?_
                have hc : va_P (dC, dI) vwCl [(h0, .inr (5, mX5 h1)), (h1, zi k1 26 f1), (h2, .inr (5, mX5 h3)), (h3, zi k3 26 f3)] H ∧ va_D A [(h0, .inr (5, mX5 h1)), (h1, zi k1 26 f1), (h2, .inr (5, mX5 h3)), (h3, zi k3 26 f3)] ∧ va_S A s.heap H locs ∧ lv_has ls 8 [(0, .ref h0), (1, .ref h2), (2, .int x2), (3, .int r97_), (4, .int z101)] ∧ ((-1) ≤ r97_.toInt ∧ r97_.toInt ≤ 832) ∧ (0 ≤ z101.toInt ∧ z101.toInt ≤ 832) ∧ (0 ≤ x2.toInt → zNw f1 f3 x2.toInt r97_.toInt z101.toInt) := ⟨hP, hD, hS, lv_sub hl [5, 6, 7, 1, 0] rfl, (by first | with_reducible assumption | exact ⟨by omega, by omega⟩), (by first | with_reducible assumption | exact ⟨by omega, by omega⟩), by first | exact hnw | exact fun _ => zNw_0 hX2_1 (by decide) (by decide)⟩
                exact hJ9 H locs ls (fun i => ([r97_, z101] : List (Int32)).getD i 0) (fun _ => 0) (fun _ => (fun _ => 0)) (fun _ => (fun _ => 0)) hc (show (832 - z101.toInt).toNat < (832 - (u9_ 1).toInt).toNat from by omega)
              · skip
                have b_ := zF_gt rfl rfl c_
                refine lv_iconst (v := 1) hx hb dX5_isNear_91 (by decide) ?_
                refine W.widen (k := 0) (n := 0) (by decide) (by decide) ?_
                have hpost : (0 ≤ (1 : Int32).toInt ∧ (1 : Int32).toInt ≤ 1) ∧ (zNr f1 f3 x2.toInt (1 : Int32).toInt) := ⟨(by first | with_reducible assumption | exact ⟨by omega, by omega⟩), by first | exact zNr_y hI9_0 (by omega) hX65_1 (by first | exact Or.inl ⟨by omega, by omega, by omega⟩ | exact Or.inr ⟨by omega, by omega, by omega⟩) (by omega) (by omega) (by omega) (by decide) | exact zNr_n hI9_0 (by omega) (by decide)⟩
                have hP9 : va_P (dC, dI) vwCl [(h0, .inr (5, mX5 h1)), (h1, zi k1 26 f1), (h2, .inr (5, mX5 h3)), (h3, zi k3 26 f3)] H := hP
                have hD9 : va_D A [(h0, .inr (5, mX5 h1)), (h1, zi k1 26 f1), (h2, .inr (5, mX5 h3)), (h3, zi k3 26 f3)] := hD
                exact W.zret (v := 1) hx hb hr rfl (fun t ht hW => ⟨⟨1, (fun _ => 0), rfl, hpost, (fun _ => 0), (fun _ => (fun _ => 0)), (fun _ => (fun _ => 0)), by rw [ht]; exact hP9, va_K.moved hW.alike hK, hD9⟩, hS.F ht⟩) hS.2.2 dX5_isNear_92
  · skip
    have hc : va_P (dC, dI) vwCl [(h0, .inr (5, mX5 h1)), (h1, zi k1 26 f1), (h2, .inr (5, mX5 h3)), (h3, zi k3 26 f3)] H ∧ va_D A [(h0, .inr (5, mX5 h1)), (h1, zi k1 26 f1), (h2, .inr (5, mX5 h3)), (h3, zi k3 26 f3)] ∧ va_S A s.heap H locs ∧ lv_has ls 8 [(0, .ref h0), (1, .ref h2), (2, .int x2), (3, .int r2_), (4, .int 0)] ∧ ((-1) ≤ r2_.toInt ∧ r2_.toInt ≤ 832) ∧ (0 ≤ (0 : Int32).toInt ∧ (0 : Int32).toInt ≤ 832) ∧ (0 ≤ x2.toInt → zNw f1 f3 x2.toInt r2_.toInt (0 : Int32).toInt) := ⟨hP, hD, hS, lv_sub hl [2, 3, 4, 1, 0] rfl, (by first | with_reducible assumption | exact ⟨by omega, by omega⟩), (by first | with_reducible assumption | exact ⟨by omega, by omega⟩), by first | exact hnw | exact fun _ => zNw_0 hX2_1 (by decide) (by decide)⟩
    exact hJ9 H locs ls (fun i => ([r2_, 0] : List (Int32)).getD i 0) (fun _ => 0) (fun _ => (fun _ => 0)) (fun _ => (fun _ => 0)) hc
set_option maxHeartbeats 8000000 in
set_option maxRecDepth 100000 in
theorem p16_sX1_areNear_0 (l : Launch) (dC : Nat → ClassId) (dI : Nat → Nat → Nat) (adK adV : Nat → Nat) (h0 : Nat) (h36 : Nat) (h41 : Nat) (h31 : Nat) (h1 : Nat) (h6 : Nat) (h13 : Nat) (h21 : Nat) (h37 : Nat) (h39 : Nat) (h40 : Nat) (h42 : Nat) (h43 : Nat) (h44 : Nat) (h45 : Nat) (h46 : Nat) (h47 : Nat) (h48 : Nat) (h22 : Nat) (k36 : ClassId) (k41 : ClassId) (k31 : ClassId) (pl0 : va_W) (sz : Nat) (v0 : Nat → Int32) (f36 : Nat → Option Nat) (f41 : Nat → Int32) (f31 : Nat → Option Nat) (x1 : Int32) (x2 : Int32) (x3 : Int32) (hv0 : zR rg_Finder v0) (hx1 : (-2) ≤ x1.toInt ∧ x1.toInt ≤ 38) (hx2 : (-1) ≤ x2.toInt ∧ x2.toInt ≤ 39) (hx3 : (-999) ≤ x3.toInt ∧ x3.toInt ≤ 999) (hp0_ : zRd h22 f31 pl0) (hp1_ : zPs k41 f36 pl0) (hp2_ : x1.toInt = x2.toInt - 1) : Met l yX1_areNear (zw yX1_areNear cX1_areNear 4 (some .boolean)) { frames := 3, cells := 0, slots := 0, locals := 71 } (zPc dC dI adK adV [.ref h0, .int x1, .int x2, .int x3] sz ([(h0, .inr (1, mX1 h1 h6 h13 h21 h36 h37 h39 h40 h41 h42 h43 h44 h45 h46 h47 h48 v0)), (h36, .inl (k36, 40, .inr (.inr (.inr (.inr f36))))), (h41, zi k41 40 f41), (h31, .inl (k31, 400, .inr (.inr (.inr (.inr f31)))))] ++ pl0) [(k36, .object RX5), (k41, .int), (k31, .object RX8)]) (va_Qi (fun (r : Int32) (u : Nat → Int32) => (0 ≤ r.toInt ∧ r.toInt ≤ 1)) (fun (u : Nat → Int32) (t : State) => ∃ (ww : Nat → Int64) (aa : Nat → Nat → Int32) (bb : Nat → Nat → Int64) (qq : Nat → Nat → Option Nat) (pl1 : va_W), (zRd h22 f31 pl1) ∧ (zPs k41 f36 pl1) ∧ (zOt pl0 pl1) ∧ va_P (dC, dI) vwCl ([(h0, .inr (1, mX1 h1 h6 h13 h21 h36 h37 h39 h40 h41 h42 h43 h44 h45 h46 h47 h48 v0)), (h36, .inl (k36, 40, .inr (.inr (.inr (.inr f36))))), (h41, zi k41 40 f41), (h31, .inl (k31, 400, .inr (.inr (.inr (.inr f31)))))] ++ pl1) t.heap ∧ va_K (dC, dI) vwCl [(k36, .object RX5), (k41, .int), (k31, .object RX8)] t ∧ va_D (va_A ([(h0, .inr (1, mX1 h1 h6 h13 h21 h36 h37 h39 h40 h41 h42 h43 h44 h45 h46 h47 h48 v0)), (h36, .inl (k36, 40, .inr (.inr (.inr (.inr f36))))), (h41, zi k41 40 f41), (h31, .inl (k31, 400, .inr (.inr (.inr (.inr f31)))))] ++ pl0) sz) ([(h0, .inr (1, mX1 h1 h6 h13 h21 h36 h37 h39 h40 h41 h42 h43 h44 h45 h46 h47 h48 v0)), (h36, .inl (k36, 40, .inr (.inr (.inr (.inr f36))))), (h41, zi k41 40 f41), (h31, .inl (k31, 400, .inr (.inr (.inr (.inr f31)))))] ++ pl1)) (va_A ([(h0, .inr (1, mX1 h1 h6 h13 h21 h36 h37 h39 h40 h41 h42 h43 h44 h45 h46 h47 h48 v0)), (h36, .inl (k36, 40, .inr (.inr (.inr (.inr f36))))), (h41, zi k41 40 f41), (h31, .inl (k31, 400, .inr (.inr (.inr (.inr f31)))))] ++ pl0) sz)) 0 0 (va_A ([(h0, .inr (1, mX1 h1 h6 h13 h21 h36 h37 h39 h40 h41 h42 h43 h44 h45 h46 h47 h48 v0)), (h36, .inl (k36, 40, .inr (.inr (.inr (.inr f36))))), (h41, zi k41 40 f41), (h31, .inl (k31, 400, .inr (.inr (.inr (.inr f31)))))] ++ pl0) sz) := by
  refine Met.ofW (cc := cX1_areNear) (maxL := 4) (ret := (some .boolean)) (by decide) rfl ?_
  intro p e s m args below meth c s₁ B hml hv
  obtain ⟨rfl, hsz, hP, hK, hD0, hE, hZ⟩ := hv
  have hx := B.exec
  have hb := B.bytes
  have hr := B.returns
  have hG : ∀ w ∈ zG, w.before _ s = true := fun w h => atoms_spec (ws := (zw yX1_areNear cX1_areNear 4 (some .boolean))) B.pre w (List.mem_cons_of_mem _ h)
  have hown : s.vm.findClass RX1 = some m.cls := findClass_of_methodNamed B.named
  have hlocks := B.notSynchronized

  subst hsz
  have hD := hD0.self (sz := s.heap.size)
  generalize hAe : va_A ([(h0, .inr (1, mX1 h1 h6 h13 h21 h36 h37 h39 h40 h41 h42 h43 h44 h45 h46 h47 h48 v0)), (h36, .inl (k36, 40, .inr (.inr (.inr (.inr f36))))), (h41, zi k41 40 f41), (h31, .inl (k31, 400, .inr (.inr (.inr (.inr f31)))))] ++ pl0) s.heap.size = A at hD hZ ⊢
  have hA : ∀ q : Nat, s.heap.size ≤ q → A q := fun q h => by rw [← hAe]; exact Or.inr h
  have hS : va_S A s.heap s.heap [] := va_S.rf
  have hl := lv_entry ([.ref h0, .int x1, .int x2, .int x3]) (n := 4) (Nat.le_of_ble_eq_true rfl)
  rw [lg_entry_eq]
  generalize (lg_sl ([.ref h0, .int x1, .int x2, .int x3]) ++ List.replicate (4 - (lg_sl ([.ref h0, .int x1, .int x2, .int x3])).length) Slot.unset).toArray = ls at hl ⊢
  have hl : lv_has ls 4 [(0, .ref h0), (1, .int x1), (2, .int x2), (3, .int x3)] := hl
  have b_ := zk_0
  refine lv_iload_n hx hb dX1_areNear_0 rfl (lv_at hl 1 rfl) ?_
  refine lv_if_lt (tgt := 28) hx hb dX1_areNear_1 (by decide) (fun c_ => ?_) (fun c_ => ?_)
  · skip
    have b_ := zT_lt rfl zk_0 c_
    refine lv_iconst (v := 0) hx hb dX1_areNear_28 (by decide) ?_
    refine W.widen (k := 0) (n := 0) (by decide) (by decide) ?_
    have hpost : (0 ≤ (0 : Int32).toInt ∧ (0 : Int32).toInt ≤ 1) := (by first | with_reducible assumption | exact ⟨by omega, by omega⟩)
    have hP9 : va_P (dC, dI) vwCl ([(h0, .inr (1, mX1 h1 h6 h13 h21 h36 h37 h39 h40 h41 h42 h43 h44 h45 h46 h47 h48 v0)), (h36, .inl (k36, 40, .inr (.inr (.inr (.inr f36))))), (h41, zi k41 40 f41), (h31, .inl (k31, 400, .inr (.inr (.inr (.inr f31)))))] ++ pl0) s.heap := hP
    have hD9 : va_D A ([(h0, .inr (1, mX1 h1 h6 h13 h21 h36 h37 h39 h40 h41 h42 h43 h44 h45 h46 h47 h48 v0)), (h36, .inl (k36, 40, .inr (.inr (.inr (.inr f36))))), (h41, zi k41 40 f41), (h31, .inl (k31, 400, .inr (.inr (.inr (.inr f31)))))] ++ pl0) := hD
    have hB0 : zRd h22 f31 pl0 := by assumption
    have hB1 : zPs k41 f36 pl0 := by assumption
    have hB2 : zOt pl0 pl0 := by first | assumption | exact zOt_rf
    exact W.zret (v := 0) hx hb hr rfl (fun t ht hW => ⟨⟨0, (fun _ => 0), rfl, hpost, (fun _ => 0), (fun _ => (fun _ => 0)), (fun _ => (fun _ => 0)), (fun _ => (fun _ => none)), pl0, hB0, hB1, hB2, by rw [ht]; exact hP9, va_K.moved hW.alike hK, hD9⟩, hS.F ht⟩) hS.2.2 dX1_areNear_29
  · skip
    have b_ := zF_lt rfl zk_0 c_
    refine lv_iload_n hx hb dX1_areNear_4 rfl (lv_at hl 2 rfl) ?_
    refine lv_bipush (v := 40) hx hb dX1_areNear_5 (by decide) ?_
    refine lv_icmp_ge (tgt := 28) hx hb dX1_areNear_7 (by decide) (fun c_ => False.elim (by have b_ := zT_ge rfl zk_40 c_; omega)) (fun c_ => ?_)
    have b_ := zF_ge rfl zk_40 c_
    refine lv_aload_n hx hb dX1_areNear_10 rfl (lv_at hl 0 rfl) ?_
    refine va_get (D := (dC, dI)) (ci := 1) (v := .ref h36) (C := RX1) (T := TX1) (N := 17) hx hb hG zuX1 hown hK hP 0 rfl rfl 4 (by decide) (hG _ zv508) (fun _ h9 => h9) rfl dX1_areNear_11 ?_
    refine lv_iload_n hx hb dX1_areNear_14 rfl (lv_at hl 1 rfl) ?_
    refine va_aldq hx hb hK hP 1 0 rfl rfl (zin_lit ⟨by omega, by omega⟩) dX1_areNear_15 ?_
    refine lv_topq (fun o15 e_o15 => ?_)
    rcases o15 with _ | a15_
    · skip
      refine W.eq (g2 := F0 m 16 ls [.null]) rfl ?_
      refine lv_ifnullN (tgt := 28) hx hb dX1_areNear_16 (by decide) ?_
      refine lv_iconst (v := 0) hx hb dX1_areNear_28 (by decide) ?_
      refine W.widen (k := 0) (n := 0) (by decide) (by decide) ?_
      have hpost : (0 ≤ (0 : Int32).toInt ∧ (0 : Int32).toInt ≤ 1) := (by first | with_reducible assumption | exact ⟨by omega, by omega⟩)
      have hP9 : va_P (dC, dI) vwCl ([(h0, .inr (1, mX1 h1 h6 h13 h21 h36 h37 h39 h40 h41 h42 h43 h44 h45 h46 h47 h48 v0)), (h36, .inl (k36, 40, .inr (.inr (.inr (.inr f36))))), (h41, zi k41 40 f41), (h31, .inl (k31, 400, .inr (.inr (.inr (.inr f31)))))] ++ pl0) s.heap := hP
      have hD9 : va_D A ([(h0, .inr (1, mX1 h1 h6 h13 h21 h36 h37 h39 h40 h41 h42 h43 h44 h45 h46 h47 h48 v0)), (h36, .inl (k36, 40, .inr (.inr (.inr (.inr f36))))), (h41, zi k41 40 f41), (h31, .inl (k31, 400, .inr (.inr (.inr (.inr f31)))))] ++ pl0) := hD
      have hB0 : zRd h22 f31 pl0 := by assumption
      have hB1 : zPs k41 f36 pl0 := by assumption
      have hB2 : zOt pl0 pl0 := by first | assumption | exact zOt_rf
      exact W.zret (v := 0) hx hb hr rfl (fun t ht hW => ⟨⟨0, (fun _ => 0), rfl, hpost, (fun _ => 0), (fun _ => (fun _ => 0)), (fun _ => (fun _ => 0)), (fun _ => (fun _ => none)), pl0, hB0, hB1, hB2, by rw [ht]; exact hP9, va_K.moved hW.alike hK, hD9⟩, hS.F ht⟩) hS.2.2 dX1_areNear_29
    · skip
      refine W.eq (g2 := F0 m 16 ls [.ref a15_]) rfl ?_
      have hnn_ : f36 (x1 : Int32).toNatClampNeg ≠ none := fun h => by rw [h] at e_o15; cases e_o15
      refine lv_ifnull hx hb dX1_areNear_16 ?_
      refine lv_aload_n hx hb dX1_areNear_19 rfl (lv_at hl 0 rfl) ?_
      refine va_get (D := (dC, dI)) (ci := 1) (v := .ref h36) (C := RX1) (T := TX1) (N := 17) hx hb hG zuX1 hown hK hP 0 rfl rfl 4 (by decide) (hG _ zv508) (fun _ h9 => h9) rfl dX1_areNear_20 ?_
      refine lv_iload_n hx hb dX1_areNear_23 rfl (lv_at hl 2 rfl) ?_
      refine va_aldq hx hb hK hP 1 0 rfl rfl (zin_lit ⟨by omega, by omega⟩) dX1_areNear_24 ?_
      refine lv_topq (fun o24 e_o24 => ?_)
      rcases o24 with _ | a24_
      · skip
        refine W.eq (g2 := F0 m 25 ls [.null]) rfl ?_
        refine lv_ifnonnullN hx hb dX1_areNear_25 ?_
        refine lv_iconst (v := 0) hx hb dX1_areNear_28 (by decide) ?_
        refine W.widen (k := 0) (n := 0) (by decide) (by decide) ?_
        have hpost : (0 ≤ (0 : Int32).toInt ∧ (0 : Int32).toInt ≤ 1) := (by first | with_reducible assumption | exact ⟨by omega, by omega⟩)
        have hP9 : va_P (dC, dI) vwCl ([(h0, .inr (1, mX1 h1 h6 h13 h21 h36 h37 h39 h40 h41 h42 h43 h44 h45 h46 h47 h48 v0)), (h36, .inl (k36, 40, .inr (.inr (.inr (.inr f36))))), (h41, zi k41 40 f41), (h31, .inl (k31, 400, .inr (.inr (.inr (.inr f31)))))] ++ pl0) s.heap := hP
        have hD9 : va_D A ([(h0, .inr (1, mX1 h1 h6 h13 h21 h36 h37 h39 h40 h41 h42 h43 h44 h45 h46 h47 h48 v0)), (h36, .inl (k36, 40, .inr (.inr (.inr (.inr f36))))), (h41, zi k41 40 f41), (h31, .inl (k31, 400, .inr (.inr (.inr (.inr f31)))))] ++ pl0) := hD
        have hB0 : zRd h22 f31 pl0 := by assumption
        have hB1 : zPs k41 f36 pl0 := by assumption
        have hB2 : zOt pl0 pl0 := by first | assumption | exact zOt_rf
        exact W.zret (v := 0) hx hb hr rfl (fun t ht hW => ⟨⟨0, (fun _ => 0), rfl, hpost, (fun _ => 0), (fun _ => (fun _ => 0)), (fun _ => (fun _ => 0)), (fun _ => (fun _ => none)), pl0, hB0, hB1, hB2, by rw [ht]; exact hP9, va_K.moved hW.alike hK, hD9⟩, hS.F ht⟩) hS.2.2 dX1_areNear_29
      · skip
        refine W.eq (g2 := F0 m 25 ls [.ref a24_]) rfl ?_
        have hnn_ : f36 (x2 : Int32).toNatClampNeg ≠ none := fun h => by rw [h] at e_o24; cases e_o24
        refine lv_ifnonnull (tgt := 30) hx hb dX1_areNear_25 (by decide) ?_
        refine lv_aload_n hx hb dX1_areNear_30 rfl (lv_at hl 0 rfl) ?_
        refine va_get (D := (dC, dI)) (ci := 1) (v := .ref h36) (C := RX1) (T := TX1) (N := 17) hx hb hG zuX1 hown hK hP 0 rfl rfl 4 (by decide) (hG _ zv508) (fun _ h9 => h9) rfl dX1_areNear_31 ?_
        refine lv_iload_n hx hb dX1_areNear_34 rfl (lv_at hl 1 rfl) ?_
        refine va_aldq hx hb hK hP 1 0 rfl rfl (zin_lit ⟨by omega, by omega⟩) dX1_areNear_35 ?_
        refine lv_topq (fun o35 e_o35 => ?_)
        rcases o35 with _ | a35_
        · skip
          exact absurd e_o35.symm (by assumption)
        · skip
          refine W.eq (g2 := F0 m 36 ls [.ref a35_]) rfl ?_
          have hnn_ : f36 (x1 : Int32).toNatClampNeg ≠ none := fun h => by rw [h] at e_o35; cases e_o35
          refine lv_aload_n hx hb dX1_areNear_36 rfl (lv_at hl 0 rfl) ?_
          refine va_get (D := (dC, dI)) (ci := 1) (v := .ref h36) (C := RX1) (T := TX1) (N := 17) hx hb hG zuX1 hown hK hP 0 rfl rfl 4 (by decide) (hG _ zv508) (fun _ h9 => h9) rfl dX1_areNear_37 ?_
          refine lv_iload_n hx hb dX1_areNear_40 rfl (lv_at hl 2 rfl) ?_
          refine va_aldq hx hb hK hP 1 0 rfl rfl (zin_lit ⟨by omega, by omega⟩) dX1_areNear_41 ?_
          refine lv_topq (fun o41 e_o41 => ?_)
          rcases o41 with _ | a41_
          · skip
            exact absurd e_o41.symm (by assumption)
          · skip
            refine W.eq (g2 := F0 m 42 ls [.ref a41_, .ref a35_]) rfl ?_
            have hnn_ : f36 (x2 : Int32).toNatClampNeg ≠ none := fun h => by rw [h] at e_o41; cases e_o41
            refine lv_iload_n hx hb dX1_areNear_42 rfl (lv_at hl 3 rfl) ?_
            obtain ⟨b35_, f35_, p35, e_pl35, hzp35⟩ := zPs_out (show zPs k41 f36 pl0 from by assumption) (zltc (by omega) (by omega)) e_o35.symm
            have hP : va_P (dC, dI) vwCl ([(h0, .inr (1, mX1 h1 h6 h13 h21 h36 h37 h39 h40 h41 h42 h43 h44 h45 h46 h47 h48 v0)), (h36, .inl (k36, 40, .inr (.inr (.inr (.inr f36))))), (h41, zi k41 40 f41), (h31, .inl (k31, 400, .inr (.inr (.inr (.inr f31))))), (a35_, .inr (5, mX5 b35_)), (b35_, zi k41 26 f35_)] ++ p35) s.heap := zfocPm e_pl35 hP
            have hD : va_D A ([(h0, .inr (1, mX1 h1 h6 h13 h21 h36 h37 h39 h40 h41 h42 h43 h44 h45 h46 h47 h48 v0)), (h36, .inl (k36, 40, .inr (.inr (.inr (.inr f36))))), (h41, zi k41 40 f41), (h31, .inl (k31, 400, .inr (.inr (.inr (.inr f31))))), (a35_, .inr (5, mX5 b35_)), (b35_, zi k41 26 f35_)] ++ p35) := zfocDm e_pl35 hD
            obtain ⟨b41_, f41_, p41, e_pl41⟩ := hzp35 _ (zltc (by omega) (by omega)) (znec (by omega) (by omega) (by omega)) _ e_o41.symm
            have hP : va_P (dC, dI) vwCl ([(h0, .inr (1, mX1 h1 h6 h13 h21 h36 h37 h39 h40 h41 h42 h43 h44 h45 h46 h47 h48 v0)), (h36, .inl (k36, 40, .inr (.inr (.inr (.inr f36))))), (h41, zi k41 40 f41), (h31, .inl (k31, 400, .inr (.inr (.inr (.inr f31))))), (a35_, .inr (5, mX5 b35_)), (b35_, zi k41 26 f35_), (a41_, .inr (5, mX5 b41_)), (b41_, zi k41 26 f41_)] ++ p41) s.heap := zfocPm e_pl41 hP
            have hD : va_D A ([(h0, .inr (1, mX1 h1 h6 h13 h21 h36 h37 h39 h40 h41 h42 h43 h44 h45 h46 h47 h48 v0)), (h36, .inl (k36, 40, .inr (.inr (.inr (.inr f36))))), (h41, zi k41 40 f41), (h31, .inl (k31, 400, .inr (.inr (.inr (.inr f31))))), (a35_, .inr (5, mX5 b35_)), (b35_, zi k41 26 f35_), (a41_, .inr (5, mX5 b41_)), (b41_, zi k41 26 f41_)] ++ p41) := zfocDm e_pl41 hD
            have hPc := hP.sub (ws' := [(a35_, .inr (5, mX5 b35_)), (b35_, zi k41 26 f35_), (a41_, .inr (5, mX5 b41_)), (b41_, zi k41 26 f41_)]) [4, 5, 6, 7] rfl
            have hDc := hD.sub (ws' := [(a35_, .inr (5, mX5 b35_)), (b35_, zi k41 26 f35_), (a41_, .inr (5, mX5 b41_)), (b41_, zi k41 26 f41_)]) [4, 5, 6, 7] (by decide) rfl
            have hKc := hK.sub (tys' := [(k41, .int), (k41, .int)]) [1, 1] rfl
            have hFc := va_free (wc := [(a35_, .inr (5, mX5 b35_)), (b35_, zi k41 26 f35_), (a41_, .inr (5, mX5 b41_)), (b41_, zi k41 26 f41_)]) hD hS hA [4, 5, 6, 7] rfl
            refine va_calli (va_runV (As := [.ref a41_, .int x3]) (rest := []) ⟨hx, hb, hml, hown, hG⟩ (p16_sX5_isNear_0 l dC dI adK adV a35_ b35_ a41_ b41_ k41 k41 s.heap.size f35_ f41_ x3 (show ((-999) : Int) ≤ (x3 : Int32).toInt ∧ (x3 : Int32).toInt ≤ (999 : Int) from (by first | with_reducible assumption | exact ⟨by omega, by omega⟩))) (cwV 2 hG (zgV zv1310 zv1311 zv1312 zv139 zv1313) rfl rfl rfl (by decide +kernel) ⟨Nat.le_of_ble_eq_true rfl, Nat.le_of_ble_eq_true rfl⟩) ⟨zPc_blind, va_recv hKc hPc (ci := 5) (q0 := 0) rfl rfl, zPc_pre hPc hKc hDc hE hS hFc hZ⟩ rfl rfl hl.1 rfl (lv_room (Nat.le_of_ble_eq_true rfl)) dX1_areNear_43 ⟨Nat.le_of_ble_eq_true rfl, Nat.le_of_ble_eq_true rfl⟩) hS (fun q _ h => hFc q h) hFc (fun r43_ u43_ t H1 locs ht hvm hw hB hz1 hk1 hS => ?_)
            replace hw : (0 ≤ r43_.toInt ∧ r43_.toInt ≤ 1) ∧ (zNr f35_ f41_ x3.toInt r43_.toInt) := hw
            obtain ⟨b_, hX43_0⟩ := hw
            obtain ⟨w43_, a43_, b43_, hP1, hK1, hD1⟩ := hB
            rw [ht] at hP1
            obtain ⟨hP, hD⟩ := va_joinQ (wr := [(h0, .inr (1, mX1 h1 h6 h13 h21 h36 h37 h39 h40 h41 h42 h43 h44 h45 h46 h47 h48 v0)), (h36, .inl (k36, 40, .inr (.inr (.inr (.inr f36))))), (h41, zi k41 40 f41), (h31, .inl (k31, 400, .inr (.inr (.inr (.inr f31)))))]) (w1 := [(a35_, .inr (5, mX5 b35_)), (b35_, zi k41 26 f35_), (a41_, .inr (5, mX5 b41_)), (b41_, zi k41 26 f41_)]) hP hD [4, 5, 6, 7] [0, 1, 2, 3] rfl rfl (by decide) (by decide) hk1 hFc hP1 hD1
            have hP : va_P (dC, dI) vwCl ([(h0, .inr (1, mX1 h1 h6 h13 h21 h36 h37 h39 h40 h41 h42 h43 h44 h45 h46 h47 h48 v0)), (h36, .inl (k36, 40, .inr (.inr (.inr (.inr f36))))), (h41, zi k41 40 f41), (h31, .inl (k31, 400, .inr (.inr (.inr (.inr f31))))), (a35_, .inr (5, mX5 b35_)), (b35_, zi k41 26 f35_), (a41_, .inr (5, mX5 b41_)), (b41_, zi k41 26 f41_)] ++ p41) H1 := hP.part [0, 1, 2, 3, 4, 5, 6, 7] rfl
            have hD : va_D A ([(h0, .inr (1, mX1 h1 h6 h13 h21 h36 h37 h39 h40 h41 h42 h43 h44 h45 h46 h47 h48 v0)), (h36, .inl (k36, 40, .inr (.inr (.inr (.inr f36))))), (h41, zi k41 40 f41), (h31, .inl (k31, 400, .inr (.inr (.inr (.inr f31))))), (a35_, .inr (5, mX5 b35_)), (b35_, zi k41 26 f35_), (a41_, .inr (5, mX5 b41_)), (b41_, zi k41 26 f41_)] ++ p41) := hD.part [0, 1, 2, 3, 4, 5, 6, 7] (by decide) rfl
            generalize H1 = H at hP hS ⊢
            clear hz1
            obtain ⟨plx3, e_plx3⟩ : ∃ z : va_W, z = (a41_, .inr (5, mX5 b41_)) :: (b41_, zi k41 26 f41_) :: p41 := ⟨_, rfl⟩
            have hP : va_P (dC, dI) vwCl ([(h0, .inr (1, mX1 h1 h6 h13 h21 h36 h37 h39 h40 h41 h42 h43 h44 h45 h46 h47 h48 v0)), (h36, .inl (k36, 40, .inr (.inr (.inr (.inr f36))))), (h41, zi k41 40 f41), (h31, .inl (k31, 400, .inr (.inr (.inr (.inr f31))))), (a35_, .inr (5, mX5 b35_)), (b35_, zi k41 26 f35_)] ++ plx3) H := by rw [e_plx3]; exact hP
            have hD : va_D A ([(h0, .inr (1, mX1 h1 h6 h13 h21 h36 h37 h39 h40 h41 h42 h43 h44 h45 h46 h47 h48 v0)), (h36, .inl (k36, 40, .inr (.inr (.inr (.inr f36))))), (h41, zi k41 40 f41), (h31, .inl (k31, 400, .inr (.inr (.inr (.inr f31))))), (a35_, .inr (5, mX5 b35_)), (b35_, zi k41 26 f35_)] ++ plx3) := by rw [e_plx3]; exact hD
            have hpm : plx3.Perm p35 := by rw [e_plx3]; exact e_pl41.symm
            obtain ⟨plx4, e_plx4⟩ : ∃ z : va_W, z = (a35_, .inr (5, mX5 b35_)) :: (b35_, zi k41 26 f35_) :: plx3 := ⟨_, rfl⟩
            have hP : va_P (dC, dI) vwCl ([(h0, .inr (1, mX1 h1 h6 h13 h21 h36 h37 h39 h40 h41 h42 h43 h44 h45 h46 h47 h48 v0)), (h36, .inl (k36, 40, .inr (.inr (.inr (.inr f36))))), (h41, zi k41 40 f41), (h31, .inl (k31, 400, .inr (.inr (.inr (.inr f31)))))] ++ plx4) H := by rw [e_plx4]; exact hP
            have hD : va_D A ([(h0, .inr (1, mX1 h1 h6 h13 h21 h36 h37 h39 h40 h41 h42 h43 h44 h45 h46 h47 h48 v0)), (h36, .inl (k36, 40, .inr (.inr (.inr (.inr f36))))), (h41, zi k41 40 f41), (h31, .inl (k31, 400, .inr (.inr (.inr (.inr f31)))))] ++ plx4) := by rw [e_plx4]; exact hD
            have hpl_ : zRd h22 f31 plx4 := by rw [e_plx4]; exact zRd_perm (show zRd h22 f31 pl0 from by first | assumption | exact zOt_rf) (((hpm.cons _).cons _).trans e_pl35.symm)
            have hpl_ : zPs k41 f36 plx4 := by rw [e_plx4]; exact zPs_perm (show zPs k41 f36 pl0 from by first | assumption | exact zOt_rf) (((hpm.cons _).cons _).trans e_pl35.symm)
            have hpl_ : zOt pl0 plx4 := by rw [e_plx4]; exact zOt_perm (show zOt pl0 pl0 from by first | assumption | exact zOt_rf) (((hpm.cons _).cons _).trans e_pl35.symm)
            refine W.widen (k := 0) (n := 0) (by decide) (by decide) ?_
            have hpost : (0 ≤ r43_.toInt ∧ r43_.toInt ≤ 1) := (by first | with_reducible assumption | exact ⟨by omega, by omega⟩)
            have hP9 : va_P (dC, dI) vwCl ([(h0, .inr (1, mX1 h1 h6 h13 h21 h36 h37 h39 h40 h41 h42 h43 h44 h45 h46 h47 h48 v0)), (h36, .inl (k36, 40, .inr (.inr (.inr (.inr f36))))), (h41, zi k41 40 f41), (h31, .inl (k31, 400, .inr (.inr (.inr (.inr f31)))))] ++ plx4) H := hP
            have hD9 : va_D A ([(h0, .inr (1, mX1 h1 h6 h13 h21 h36 h37 h39 h40 h41 h42 h43 h44 h45 h46 h47 h48 v0)), (h36, .inl (k36, 40, .inr (.inr (.inr (.inr f36))))), (h41, zi k41 40 f41), (h31, .inl (k31, 400, .inr (.inr (.inr (.inr f31)))))] ++ plx4) := hD
            have hB0 : zRd h22 f31 plx4 := by assumption
            have hB1 : zPs k41 f36 plx4 := by assumption
            have hB2 : zOt pl0 plx4 := by first | assumption | exact zOt_rf
            exact W.zret (v := r43_) hx hb hr (zbn ⟨by omega, by omega⟩) (fun t ht hW => ⟨⟨r43_, (fun _ => 0), rfl, hpost, (fun _ => 0), (fun _ => (fun _ => 0)), (fun _ => (fun _ => 0)), (fun _ => (fun _ => none)), plx4, hB0, hB1, hB2, by rw [ht]; exact hP9, va_K.moved hW.alike hK, hD9⟩, hS.F ht⟩) hS.2.2 dX1_areNear_46
set_option maxHeartbeats 8000000 in
set_option maxRecDepth 100000 in
theorem p16_sX1_works_0 (l : Launch) (dC : Nat → ClassId) (dI : Nat → Nat → Nat) (adK adV : Nat → Nat) (h0 : Nat) (h13 : Nat) (h20 : Nat) (h39 : Nat) (h40 : Nat) (h36 : Nat) (h41 : Nat) (h31 : Nat) (h1 : Nat) (h6 : Nat) (h21 : Nat) (h37 : Nat) (h42 : Nat) (h43 : Nat) (h44 : Nat) (h45 : Nat) (h46 : Nat) (h47 : Nat) (h48 : Nat) (h14 : Nat) (h15 : Nat) (h16 : Nat) (h17 : Nat) (h18 : Nat) (h19 : Nat) (h22 : Nat) (k20 : ClassId) (k39 : ClassId) (k40 : ClassId) (k36 : ClassId) (k41 : ClassId) (k31 : ClassId) (pl0 : va_W) (sz : Nat) (v0 : Nat → Int32) (v13 : Nat → Int32) (f20 : Nat → Int32) (f39 : Nat → Int32) (f40 : Nat → Int32) (f36 : Nat → Option Nat) (f41 : Nat → Int32) (f31 : Nat → Option Nat) (hv0 : zR rg_Finder v0) (hv13 : zR rg_Query v13) (hf20 : zA 0 12000 f20) (hp0_ : zRd h22 f31 pl0) (hp1_ : zPs k41 f36 pl0) : Met l yX1_works (zw yX1_works cX1_works 6 (some .boolean)) { frames := 4, cells := 0, slots := 0, locals := 94 } (zPc dC dI adK adV [.ref h0] sz ([(h0, .inr (1, mX1 h1 h6 h13 h21 h36 h37 h39 h40 h41 h42 h43 h44 h45 h46 h47 h48 v0)), (h13, .inr (7, mX7 h14 h15 h16 h17 h18 h19 h20 v13)), (h20, zi k20 270 f20), (h39, zi k39 40 f39), (h40, zi k40 40 f40), (h36, .inl (k36, 40, .inr (.inr (.inr (.inr f36))))), (h41, zi k41 40 f41), (h31, .inl (k31, 400, .inr (.inr (.inr (.inr f31)))))] ++ pl0) [(k20, .int), (k39, .boolean), (k40, .boolean), (k36, .object RX5), (k41, .int), (k31, .object RX8)]) (va_Qi (fun (r : Int32) (u : Nat → Int32) => (0 ≤ r.toInt ∧ r.toInt ≤ 1)) (fun (u : Nat → Int32) (t : State) => ∃ (ww : Nat → Int64) (aa : Nat → Nat → Int32) (bb : Nat → Nat → Int64) (qq : Nat → Nat → Option Nat) (pl1 : va_W), (zRd h22 f31 pl1) ∧ (zPs k41 f36 pl1) ∧ (zOt pl0 pl1) ∧ va_P (dC, dI) vwCl ([(h0, .inr (1, mX1 h1 h6 h13 h21 h36 h37 h39 h40 h41 h42 h43 h44 h45 h46 h47 h48 v0)), (h13, .inr (7, mX7 h14 h15 h16 h17 h18 h19 h20 v13)), (h20, zi k20 270 f20), (h39, zi k39 40 f39), (h40, zi k40 40 (aa 0)), (h36, .inl (k36, 40, .inr (.inr (.inr (.inr f36))))), (h41, zi k41 40 f41), (h31, .inl (k31, 400, .inr (.inr (.inr (.inr f31)))))] ++ pl1) t.heap ∧ va_K (dC, dI) vwCl [(k20, .int), (k39, .boolean), (k40, .boolean), (k36, .object RX5), (k41, .int), (k31, .object RX8)] t ∧ va_D (va_A ([(h0, .inr (1, mX1 h1 h6 h13 h21 h36 h37 h39 h40 h41 h42 h43 h44 h45 h46 h47 h48 v0)), (h13, .inr (7, mX7 h14 h15 h16 h17 h18 h19 h20 v13)), (h20, zi k20 270 f20), (h39, zi k39 40 f39), (h40, zi k40 40 f40), (h36, .inl (k36, 40, .inr (.inr (.inr (.inr f36))))), (h41, zi k41 40 f41), (h31, .inl (k31, 400, .inr (.inr (.inr (.inr f31)))))] ++ pl0) sz) ([(h0, .inr (1, mX1 h1 h6 h13 h21 h36 h37 h39 h40 h41 h42 h43 h44 h45 h46 h47 h48 v0)), (h13, .inr (7, mX7 h14 h15 h16 h17 h18 h19 h20 v13)), (h20, zi k20 270 f20), (h39, zi k39 40 f39), (h40, zi k40 40 (aa 0)), (h36, .inl (k36, 40, .inr (.inr (.inr (.inr f36))))), (h41, zi k41 40 f41), (h31, .inl (k31, 400, .inr (.inr (.inr (.inr f31)))))] ++ pl1)) (va_A ([(h0, .inr (1, mX1 h1 h6 h13 h21 h36 h37 h39 h40 h41 h42 h43 h44 h45 h46 h47 h48 v0)), (h13, .inr (7, mX7 h14 h15 h16 h17 h18 h19 h20 v13)), (h20, zi k20 270 f20), (h39, zi k39 40 f39), (h40, zi k40 40 f40), (h36, .inl (k36, 40, .inr (.inr (.inr (.inr f36))))), (h41, zi k41 40 f41), (h31, .inl (k31, 400, .inr (.inr (.inr (.inr f31)))))] ++ pl0) sz)) 0 0 (va_A ([(h0, .inr (1, mX1 h1 h6 h13 h21 h36 h37 h39 h40 h41 h42 h43 h44 h45 h46 h47 h48 v0)), (h13, .inr (7, mX7 h14 h15 h16 h17 h18 h19 h20 v13)), (h20, zi k20 270 f20), (h39, zi k39 40 f39), (h40, zi k40 40 f40), (h36, .inl (k36, 40, .inr (.inr (.inr (.inr f36))))), (h41, zi k41 40 f41), (h31, .inl (k31, 400, .inr (.inr (.inr (.inr f31)))))] ++ pl0) sz) := by
  refine Met.ofW (cc := cX1_works) (maxL := 6) (ret := (some .boolean)) (by decide) rfl ?_
  intro p e s m args below meth c s₁ B hml hv
  obtain ⟨rfl, hsz, hP, hK, hD0, hE, hZ⟩ := hv
  have hx := B.exec
  have hb := B.bytes
  have hr := B.returns
  have hG : ∀ w ∈ zG, w.before _ s = true := fun w h => atoms_spec (ws := (zw yX1_works cX1_works 6 (some .boolean))) B.pre w (List.mem_cons_of_mem _ h)
  have hown : s.vm.findClass RX1 = some m.cls := findClass_of_methodNamed B.named
  have hlocks := B.notSynchronized

  subst hsz
  have hD := hD0.self (sz := s.heap.size)
  generalize hAe : va_A ([(h0, .inr (1, mX1 h1 h6 h13 h21 h36 h37 h39 h40 h41 h42 h43 h44 h45 h46 h47 h48 v0)), (h13, .inr (7, mX7 h14 h15 h16 h17 h18 h19 h20 v13)), (h20, zi k20 270 f20), (h39, zi k39 40 f39), (h40, zi k40 40 f40), (h36, .inl (k36, 40, .inr (.inr (.inr (.inr f36))))), (h41, zi k41 40 f41), (h31, .inl (k31, 400, .inr (.inr (.inr (.inr f31)))))] ++ pl0) s.heap.size = A at hD hZ ⊢
  have hA : ∀ q : Nat, s.heap.size ≤ q → A q := fun q h => by rw [← hAe]; exact Or.inr h
  have hS : va_S A s.heap s.heap [] := va_S.rf
  have hl := lv_entry ([.ref h0]) (n := 6) (Nat.le_of_ble_eq_true rfl)
  rw [lg_entry_eq]
  generalize (lg_sl ([.ref h0]) ++ List.replicate (6 - (lg_sl ([.ref h0])).length) Slot.unset).toArray = ls at hl ⊢
  have hl : lv_has ls 6 [(0, .ref h0)] := hl
  have b_ := zk_m1
  have b_ := zk_0
  have b_ := zk_1
  refine lv_iconst (v := 0) hx hb dX1_works_0 (by decide) ?_
  refine lv_istore_n (lv' := [(1, .int 0), (0, .ref h0)]) hx hb dX1_works_1 rfl hl (by decide) rfl (fun ls hl => ?_)
  refine lv_iconst (v := (-1)) hx hb dX1_works_2 (by decide) ?_
  refine lv_istore_n (lv' := [(2, .int (-1)), (1, .int 0), (0, .ref h0)]) hx hb dX1_works_3 rfl hl (by decide) rfl (fun ls hl => ?_)
  refine lv_iconst (v := 0) hx hb dX1_works_4 (by decide) ?_
  refine lv_istore_n (lv' := [(3, .int 0), (2, .int (-1)), (1, .int 0), (0, .ref h0)]) hx hb dX1_works_5 rfl hl (by decide) rfl (fun ls hl => ?_)
  refine zcutL (fun u6_ => (299 - (u6_ 2).toInt).toNat) (fun H locs ls u6_ w6_ a6_ b6_ => ∃ (q6_ : Nat → Nat → Option Nat) (pl6 : va_W), va_P (dC, dI) vwCl ([(h0, .inr (1, mX1 h1 h6 h13 h21 h36 h37 h39 h40 h41 h42 h43 h44 h45 h46 h47 h48 v0)), (h13, .inr (7, mX7 h14 h15 h16 h17 h18 h19 h20 v13)), (h20, zi k20 270 f20), (h39, zi k39 40 f39), (h40, zi k40 40 (a6_ 0)), (h36, .inl (k36, 40, .inr (.inr (.inr (.inr f36))))), (h41, zi k41 40 f41), (h31, .inl (k31, 400, .inr (.inr (.inr (.inr f31)))))] ++ pl6) H ∧ va_D A ([(h0, .inr (1, mX1 h1 h6 h13 h21 h36 h37 h39 h40 h41 h42 h43 h44 h45 h46 h47 h48 v0)), (h13, .inr (7, mX7 h14 h15 h16 h17 h18 h19 h20 v13)), (h20, zi k20 270 f20), (h39, zi k39 40 f39), (h40, zi k40 40 (a6_ 0)), (h36, .inl (k36, 40, .inr (.inr (.inr (.inr f36))))), (h41, zi k41 40 f41), (h31, .inl (k31, 400, .inr (.inr (.inr (.inr f31)))))] ++ pl6) ∧ va_S A s.heap H locs ∧ lv_has ls 6 [(0, .ref h0), (1, .int (u6_ 0)), (2, .int (u6_ 1)), (3, .int (u6_ 2))] ∧ (0 ≤ (u6_ 0).toInt ∧ (u6_ 0).toInt ≤ 40) ∧ ((-1) ≤ (u6_ 1).toInt ∧ (u6_ 1).toInt ≤ 39) ∧ (0 ≤ (u6_ 2).toInt ∧ (u6_ 2).toInt ≤ 299) ∧ (zRd h22 f31 pl6) ∧ (zPs k41 f36 pl6) ∧ (zOt pl0 pl6)) (fun ls u6_ w6_ => F0 m 6 ls []) 0 0 ?_ (fun hJ6 => ?_)
  · skip
    intro H locs ls u6_ w6_ a6_ b6_ hc hJ6
    obtain ⟨q6_, pl6, hP, hD, hS, hl, b_, b_, b_, hI6_0, hI6_1, hI6_2⟩ := hc
    refine lv_iload_n hx hb dX1_works_6 rfl (lv_at hl 3 rfl) ?_
    refine lv_aload_n hx hb dX1_works_7 rfl (lv_at hl 0 rfl) ?_
    refine va_get (D := (dC, dI)) (ci := 1) (v := .ref h13) (C := RX1) (T := TX1) (N := 17) hx hb hG zuX1 hown hK hP 0 rfl rfl 2 (by decide) (hG _ zv506) (fun _ h9 => h9) rfl dX1_works_8 ?_
    have hPc := hP.sub (ws' := [(h13, .inr (7, mX7 h14 h15 h16 h17 h18 h19 h20 v13))]) [1] rfl
    have hDc := hD.sub (ws' := [(h13, .inr (7, mX7 h14 h15 h16 h17 h18 h19 h20 v13))]) [1] (by decide) rfl
    have hKc := hK.sub (tys' := []) [] rfl
    have hFc := va_free (wc := [(h13, .inr (7, mX7 h14 h15 h16 h17 h18 h19 h20 v13))]) hD hS hA [1] rfl
    refine va_calli (va_runV (As := []) (rest := [.int (u6_ 2)]) ⟨hx, hb, hml, hown, hG⟩ (sX7_length_0 l dC dI adK adV h13 h14 h15 h16 h17 h18 h19 h20 H.size v13 hv13) (cwV 0 hG (zgV zv1212 zv1213 zv1214 zv136 zv1215) rfl rfl rfl (by decide +kernel) ⟨Nat.le_of_ble_eq_true rfl, Nat.le_of_ble_eq_true rfl⟩) ⟨zPc_blind, va_recv hKc hPc (ci := 7) (q0 := 0) rfl rfl, zPc_pre hPc hKc hDc hE hS hFc hZ⟩ rfl rfl hl.1 rfl (lv_room (Nat.le_of_ble_eq_true rfl)) dX1_works_11 ⟨Nat.le_of_ble_eq_true rfl, Nat.le_of_ble_eq_true rfl⟩) hS (fun q _ h => hFc q h) hFc (fun r11_ u11_ t H1 locs ht hvm hw hB hz1 hk1 hS => ?_)
    replace hw : (0 ≤ r11_.toInt ∧ r11_.toInt ≤ 270) ∧ (r11_.toInt = (v13 9).toInt) := hw
    obtain ⟨b_, hX11_0⟩ := hw
    obtain ⟨w11_, a11_, b11_, hP1, hK1, hD1⟩ := hB
    rw [ht] at hP1
    obtain ⟨hP, hD⟩ := va_joinQ (wr := [(h0, .inr (1, mX1 h1 h6 h13 h21 h36 h37 h39 h40 h41 h42 h43 h44 h45 h46 h47 h48 v0)), (h20, zi k20 270 f20), (h39, zi k39 40 f39), (h40, zi k40 40 (a6_ 0)), (h36, .inl (k36, 40, .inr (.inr (.inr (.inr f36))))), (h41, zi k41 40 f41), (h31, .inl (k31, 400, .inr (.inr (.inr (.inr f31)))))]) (w1 := [(h13, .inr (7, mX7 h14 h15 h16 h17 h18 h19 h20 v13))]) hP hD [1] [0, 2, 3, 4, 5, 6, 7] rfl rfl (by decide) (by decide) hk1 hFc hP1 hD1
    have hP : va_P (dC, dI) vwCl ([(h0, .inr (1, mX1 h1 h6 h13 h21 h36 h37 h39 h40 h41 h42 h43 h44 h45 h46 h47 h48 v0)), (h13, .inr (7, mX7 h14 h15 h16 h17 h18 h19 h20 v13)), (h20, zi k20 270 f20), (h39, zi k39 40 f39), (h40, zi k40 40 (a6_ 0)), (h36, .inl (k36, 40, .inr (.inr (.inr (.inr f36))))), (h41, zi k41 40 f41), (h31, .inl (k31, 400, .inr (.inr (.inr (.inr f31)))))] ++ pl6) H1 := hP.part [0, 7, 1, 2, 3, 4, 5, 6] rfl
    have hD : va_D A ([(h0, .inr (1, mX1 h1 h6 h13 h21 h36 h37 h39 h40 h41 h42 h43 h44 h45 h46 h47 h48 v0)), (h13, .inr (7, mX7 h14 h15 h16 h17 h18 h19 h20 v13)), (h20, zi k20 270 f20), (h39, zi k39 40 f39), (h40, zi k40 40 (a6_ 0)), (h36, .inl (k36, 40, .inr (.inr (.inr (.inr f36))))), (h41, zi k41 40 f41), (h31, .inl (k31, 400, .inr (.inr (.inr (.inr f31)))))] ++ pl6) := hD.part [0, 7, 1, 2, 3, 4, 5, 6] (by decide) rfl
    generalize H1 = H at hP hS ⊢
    clear hz1
    refine lv_icmp_ge (tgt := 206) hx hb dX1_works_14 (by decide) (fun c_ => ?_) (fun c_ => ?_)
    · skip
      have b_ := zT_ge rfl rfl c_
      refine lv_iload_n hx hb dX1_works_206 rfl (lv_at hl 1 rfl) ?_
      refine lv_iconst (v := 1) hx hb dX1_works_207 (by decide) ?_
      refine lv_icmp_ne (tgt := 224) hx hb dX1_works_208 (by decide) (fun c_ => ?_) (fun c_ => ?_)
      · skip
        have b_ := zT_ne rfl zk_1 c_
        refine lv_iconst (v := 0) hx hb dX1_works_224 (by decide) ?_
        refine W.widen (k := 0) (n := 0) (by decide) (by decide) ?_
        have hpost : (0 ≤ (0 : Int32).toInt ∧ (0 : Int32).toInt ≤ 1) := (by first | with_reducible assumption | exact ⟨by omega, by omega⟩)
        have hP9 : va_P (dC, dI) vwCl ([(h0, .inr (1, mX1 h1 h6 h13 h21 h36 h37 h39 h40 h41 h42 h43 h44 h45 h46 h47 h48 v0)), (h13, .inr (7, mX7 h14 h15 h16 h17 h18 h19 h20 v13)), (h20, zi k20 270 f20), (h39, zi k39 40 f39), (h40, zi k40 40 (a6_ 0)), (h36, .inl (k36, 40, .inr (.inr (.inr (.inr f36))))), (h41, zi k41 40 f41), (h31, .inl (k31, 400, .inr (.inr (.inr (.inr f31)))))] ++ pl6) H := hP
        have hD9 : va_D A ([(h0, .inr (1, mX1 h1 h6 h13 h21 h36 h37 h39 h40 h41 h42 h43 h44 h45 h46 h47 h48 v0)), (h13, .inr (7, mX7 h14 h15 h16 h17 h18 h19 h20 v13)), (h20, zi k20 270 f20), (h39, zi k39 40 f39), (h40, zi k40 40 (a6_ 0)), (h36, .inl (k36, 40, .inr (.inr (.inr (.inr f36))))), (h41, zi k41 40 f41), (h31, .inl (k31, 400, .inr (.inr (.inr (.inr f31)))))] ++ pl6) := hD
        have hB0 : zRd h22 f31 pl6 := by assumption
        have hB1 : zPs k41 f36 pl6 := by assumption
        have hB2 : zOt pl0 pl6 := by first | assumption | exact zOt_rf
        exact W.zret (v := 0) hx hb hr rfl (fun t ht hW => ⟨⟨0, (fun _ => 0), rfl, hpost, (fun _ => 0), (fun i => ([(a6_ 0)] : List (Nat → Int32)).getD i (fun _ => 0)), (fun _ => (fun _ => 0)), (fun _ => (fun _ => none)), pl6, hB0, hB1, hB2, by rw [ht]; exact hP9, va_K.moved hW.alike hK, hD9⟩, hS.F ht⟩) hS.2.2 dX1_works_225
      · skip
        have b_ := zF_ne rfl zk_1 c_
        refine lv_aload_n hx hb dX1_works_211 rfl (lv_at hl 0 rfl) ?_
        refine va_get (D := (dC, dI)) (ci := 1) (v := .ref h40) (C := RX1) (T := TX1) (N := 17) hx hb hG zuX1 hown hK hP 0 rfl rfl 7 (by decide) (hG _ zv511) (fun _ h9 => h9) rfl dX1_works_212 ?_
        refine lv_iconst (v := 0) hx hb dX1_works_215 (by decide) ?_
        refine va_zald hx hb hK hP 4 2 rfl rfl (zin_lit (by decide)) dX1_works_216 ?_
        refine lv_topi (fun z216 e_z216 => ?_)
        have b_ : -2147483648 ≤ z216.toInt ∧ z216.toInt ≤ 2147483647 := ⟨zlo _, zhi _⟩
        refine lv_if_eq (tgt := 224) hx hb dX1_works_217 (by decide) (fun c_ => ?_) (fun c_ => ?_)
        · skip
          have b_ := zT_eq rfl zk_0 c_
          refine lv_iconst (v := 0) hx hb dX1_works_224 (by decide) ?_
          refine W.widen (k := 0) (n := 0) (by decide) (by decide) ?_
          have hpost : (0 ≤ (0 : Int32).toInt ∧ (0 : Int32).toInt ≤ 1) := (by first | with_reducible assumption | exact ⟨by omega, by omega⟩)
          have hP9 : va_P (dC, dI) vwCl ([(h0, .inr (1, mX1 h1 h6 h13 h21 h36 h37 h39 h40 h41 h42 h43 h44 h45 h46 h47 h48 v0)), (h13, .inr (7, mX7 h14 h15 h16 h17 h18 h19 h20 v13)), (h20, zi k20 270 f20), (h39, zi k39 40 f39), (h40, zi k40 40 (a6_ 0)), (h36, .inl (k36, 40, .inr (.inr (.inr (.inr f36))))), (h41, zi k41 40 f41), (h31, .inl (k31, 400, .inr (.inr (.inr (.inr f31)))))] ++ pl6) H := hP
          have hD9 : va_D A ([(h0, .inr (1, mX1 h1 h6 h13 h21 h36 h37 h39 h40 h41 h42 h43 h44 h45 h46 h47 h48 v0)), (h13, .inr (7, mX7 h14 h15 h16 h17 h18 h19 h20 v13)), (h20, zi k20 270 f20), (h39, zi k39 40 f39), (h40, zi k40 40 (a6_ 0)), (h36, .inl (k36, 40, .inr (.inr (.inr (.inr f36))))), (h41, zi k41 40 f41), (h31, .inl (k31, 400, .inr (.inr (.inr (.inr f31)))))] ++ pl6) := hD
          have hB0 : zRd h22 f31 pl6 := by assumption
          have hB1 : zPs k41 f36 pl6 := by assumption
          have hB2 : zOt pl0 pl6 := by first | assumption | exact zOt_rf
          exact W.zret (v := 0) hx hb hr rfl (fun t ht hW => ⟨⟨0, (fun _ => 0), rfl, hpost, (fun _ => 0), (fun i => ([(a6_ 0)] : List (Nat → Int32)).getD i (fun _ => 0)), (fun _ => (fun _ => 0)), (fun _ => (fun _ => none)), pl6, hB0, hB1, hB2, by rw [ht]; exact hP9, va_K.moved hW.alike hK, hD9⟩, hS.F ht⟩) hS.2.2 dX1_works_225
        · skip
          have b_ := zF_eq rfl zk_0 c_
          refine lv_iconst (v := 1) hx hb dX1_works_220 (by decide) ?_
          refine lv_goto (tgt := 225) hx hb dX1_works_221 (by decide) ?_
          refine W.widen (k := 0) (n := 0) (by decide) (by decide) ?_
          have hpost : (0 ≤ (1 : Int32).toInt ∧ (1 : Int32).toInt ≤ 1) := (by first | with_reducible assumption | exact ⟨by omega, by omega⟩)
          have hP9 : va_P (dC, dI) vwCl ([(h0, .inr (1, mX1 h1 h6 h13 h21 h36 h37 h39 h40 h41 h42 h43 h44 h45 h46 h47 h48 v0)), (h13, .inr (7, mX7 h14 h15 h16 h17 h18 h19 h20 v13)), (h20, zi k20 270 f20), (h39, zi k39 40 f39), (h40, zi k40 40 (a6_ 0)), (h36, .inl (k36, 40, .inr (.inr (.inr (.inr f36))))), (h41, zi k41 40 f41), (h31, .inl (k31, 400, .inr (.inr (.inr (.inr f31)))))] ++ pl6) H := hP
          have hD9 : va_D A ([(h0, .inr (1, mX1 h1 h6 h13 h21 h36 h37 h39 h40 h41 h42 h43 h44 h45 h46 h47 h48 v0)), (h13, .inr (7, mX7 h14 h15 h16 h17 h18 h19 h20 v13)), (h20, zi k20 270 f20), (h39, zi k39 40 f39), (h40, zi k40 40 (a6_ 0)), (h36, .inl (k36, 40, .inr (.inr (.inr (.inr f36))))), (h41, zi k41 40 f41), (h31, .inl (k31, 400, .inr (.inr (.inr (.inr f31)))))] ++ pl6) := hD
          have hB0 : zRd h22 f31 pl6 := by assumption
          have hB1 : zPs k41 f36 pl6 := by assumption
          have hB2 : zOt pl0 pl6 := by first | assumption | exact zOt_rf
          exact W.zret (v := 1) hx hb hr rfl (fun t ht hW => ⟨⟨1, (fun _ => 0), rfl, hpost, (fun _ => 0), (fun i => ([(a6_ 0)] : List (Nat → Int32)).getD i (fun _ => 0)), (fun _ => (fun _ => 0)), (fun _ => (fun _ => none)), pl6, hB0, hB1, hB2, by rw [ht]; exact hP9, va_K.moved hW.alike hK, hD9⟩, hS.F ht⟩) hS.2.2 dX1_works_225
    · skip
      have b_ := zF_ge rfl rfl c_
      refine lv_aload_n hx hb dX1_works_17 rfl (lv_at hl 0 rfl) ?_
      refine va_get (D := (dC, dI)) (ci := 1) (v := .ref h13) (C := RX1) (T := TX1) (N := 17) hx hb hG zuX1 hown hK hP 0 rfl rfl 2 (by decide) (hG _ zv506) (fun _ h9 => h9) rfl dX1_works_18 ?_
      refine lv_iload_n hx hb dX1_works_21 rfl (lv_at hl 3 rfl) ?_
      have hPc := hP.sub (ws' := [(h13, .inr (7, mX7 h14 h15 h16 h17 h18 h19 h20 v13)), (h20, zi k20 270 f20)]) [1, 2] rfl
      have hDc := hD.sub (ws' := [(h13, .inr (7, mX7 h14 h15 h16 h17 h18 h19 h20 v13)), (h20, zi k20 270 f20)]) [1, 2] (by decide) rfl
      have hKc := hK.sub (tys' := [(k20, .int)]) [0] rfl
      have hFc := va_free (wc := [(h13, .inr (7, mX7 h14 h15 h16 h17 h18 h19 h20 v13)), (h20, zi k20 270 f20)]) hD hS hA [1, 2] rfl
      refine va_calli (va_runV (As := [.int (u6_ 2)]) (rest := []) ⟨hx, hb, hml, hown, hG⟩ (sX7_stepAt_0 l dC dI adK adV h13 h20 h14 h15 h16 h17 h18 h19 k20 H.size v13 f20 (u6_ 2) hv13 hf20) (cwV 1 hG (zgV zv1302 zv1303 zv1304 zv136 zv1305) rfl rfl rfl (by decide +kernel) ⟨Nat.le_of_ble_eq_true rfl, Nat.le_of_ble_eq_true rfl⟩) ⟨zPc_blind, va_recv hKc hPc (ci := 7) (q0 := 0) rfl rfl, zPc_pre hPc hKc hDc hE hS hFc hZ⟩ rfl rfl hl.1 rfl (lv_room (Nat.le_of_ble_eq_true rfl)) dX1_works_22 ⟨Nat.le_of_ble_eq_true rfl, Nat.le_of_ble_eq_true rfl⟩) hS (fun q _ h => hFc q h) hFc (fun r22_ u22_ t H1 locs ht hvm hw hB hz1 hk1 hS => ?_)
      replace hw : ((-1) ≤ r22_.toInt ∧ r22_.toInt ≤ 12000) ∧ (0 ≤ (u6_ 2).toInt ∧ (u6_ 2).toInt < (v13 9).toInt → 0 ≤ r22_.toInt) := hw
      obtain ⟨b_, hX22_0⟩ := hw
      obtain ⟨w22_, a22_, b22_, hP1, hK1, hD1⟩ := hB
      rw [ht] at hP1
      obtain ⟨hP, hD⟩ := va_joinQ (wr := [(h0, .inr (1, mX1 h1 h6 h13 h21 h36 h37 h39 h40 h41 h42 h43 h44 h45 h46 h47 h48 v0)), (h39, zi k39 40 f39), (h40, zi k40 40 (a6_ 0)), (h36, .inl (k36, 40, .inr (.inr (.inr (.inr f36))))), (h41, zi k41 40 f41), (h31, .inl (k31, 400, .inr (.inr (.inr (.inr f31)))))]) (w1 := [(h13, .inr (7, mX7 h14 h15 h16 h17 h18 h19 h20 v13)), (h20, zi k20 270 f20)]) hP hD [1, 2] [0, 3, 4, 5, 6, 7] rfl rfl (by decide) (by decide) hk1 hFc hP1 hD1
      have hP : va_P (dC, dI) vwCl ([(h0, .inr (1, mX1 h1 h6 h13 h21 h36 h37 h39 h40 h41 h42 h43 h44 h45 h46 h47 h48 v0)), (h13, .inr (7, mX7 h14 h15 h16 h17 h18 h19 h20 v13)), (h20, zi k20 270 f20), (h39, zi k39 40 f39), (h40, zi k40 40 (a6_ 0)), (h36, .inl (k36, 40, .inr (.inr (.inr (.inr f36))))), (h41, zi k41 40 f41), (h31, .inl (k31, 400, .inr (.inr (.inr (.inr f31)))))] ++ pl6) H1 := hP.part [0, 6, 7, 1, 2, 3, 4, 5] rfl
      have hD : va_D A ([(h0, .inr (1, mX1 h1 h6 h13 h21 h36 h37 h39 h40 h41 h42 h43 h44 h45 h46 h47 h48 v0)), (h13, .inr (7, mX7 h14 h15 h16 h17 h18 h19 h20 v13)), (h20, zi k20 270 f20), (h39, zi k39 40 f39), (h40, zi k40 40 (a6_ 0)), (h36, .inl (k36, 40, .inr (.inr (.inr (.inr f36))))), (h41, zi k41 40 f41), (h31, .inl (k31, 400, .inr (.inr (.inr (.inr f31)))))] ++ pl6) := hD.part [0, 6, 7, 1, 2, 3, 4, 5] (by decide) rfl
      generalize H1 = H at hP hS ⊢
      clear hz1
      have b_ : 0 ≤ r22_.toInt ∧ r22_.toInt ≤ 12000 := ⟨by omega, by omega⟩
      refine lv_sipush (v := 1000) hx hb dX1_works_25 (by decide) ?_
      refine lv_idiv hx hb dX1_works_28 (by decide) ?_
      refine lv_topi (fun z28 e_z28 => ?_)
      have b_ := zdiv rfl zk_1000 e_z28 (by omega) (by decide)
      refine lv_istore (lv' := [(4, .int z28), (0, .ref h0), (1, .int (u6_ 0)), (2, .int (u6_ 1)), (3, .int (u6_ 2))]) hx hb dX1_works_29 hl (by decide) rfl (fun ls hl => ?_)
      refine lv_aload_n hx hb dX1_works_31 rfl (lv_at hl 1 rfl) ?_
      refine va_get (D := (dC, dI)) (ci := 1) (v := .ref h13) (C := RX1) (T := TX1) (N := 17) hx hb hG zuX1 hown hK hP 0 rfl rfl 2 (by decide) (hG _ zv506) (fun _ h9 => h9) rfl dX1_works_32 ?_
      refine lv_iload_n hx hb dX1_works_35 rfl (lv_at hl 4 rfl) ?_
      have hPc := hP.sub (ws' := [(h13, .inr (7, mX7 h14 h15 h16 h17 h18 h19 h20 v13)), (h20, zi k20 270 f20)]) [1, 2] rfl
      have hDc := hD.sub (ws' := [(h13, .inr (7, mX7 h14 h15 h16 h17 h18 h19 h20 v13)), (h20, zi k20 270 f20)]) [1, 2] (by decide) rfl
      have hKc := hK.sub (tys' := [(k20, .int)]) [0] rfl
      have hFc := va_free (wc := [(h13, .inr (7, mX7 h14 h15 h16 h17 h18 h19 h20 v13)), (h20, zi k20 270 f20)]) hD hS hA [1, 2] rfl
      refine va_calli (va_runV (As := [.int (u6_ 2)]) (rest := []) ⟨hx, hb, hml, hown, hG⟩ (sX7_stepAt_0 l dC dI adK adV h13 h20 h14 h15 h16 h17 h18 h19 k20 H.size v13 f20 (u6_ 2) hv13 hf20) (cwV 1 hG (zgV zv1302 zv1303 zv1304 zv136 zv1305) rfl rfl rfl (by decide +kernel) ⟨Nat.le_of_ble_eq_true rfl, Nat.le_of_ble_eq_true rfl⟩) ⟨zPc_blind, va_recv hKc hPc (ci := 7) (q0 := 0) rfl rfl, zPc_pre hPc hKc hDc hE hS hFc hZ⟩ rfl rfl hl.1 rfl (lv_room (Nat.le_of_ble_eq_true rfl)) dX1_works_36 ⟨Nat.le_of_ble_eq_true rfl, Nat.le_of_ble_eq_true rfl⟩) hS (fun q _ h => hFc q h) hFc (fun r36_ u36_ t H1 locs ht hvm hw hB hz1 hk1 hS => ?_)
      replace hw : ((-1) ≤ r36_.toInt ∧ r36_.toInt ≤ 12000) ∧ (0 ≤ (u6_ 2).toInt ∧ (u6_ 2).toInt < (v13 9).toInt → 0 ≤ r36_.toInt) := hw
      obtain ⟨b_, hX36_0⟩ := hw
      obtain ⟨w36_, a36_, b36_, hP1, hK1, hD1⟩ := hB
      rw [ht] at hP1
      obtain ⟨hP, hD⟩ := va_joinQ (wr := [(h0, .inr (1, mX1 h1 h6 h13 h21 h36 h37 h39 h40 h41 h42 h43 h44 h45 h46 h47 h48 v0)), (h39, zi k39 40 f39), (h40, zi k40 40 (a6_ 0)), (h36, .inl (k36, 40, .inr (.inr (.inr (.inr f36))))), (h41, zi k41 40 f41), (h31, .inl (k31, 400, .inr (.inr (.inr (.inr f31)))))]) (w1 := [(h13, .inr (7, mX7 h14 h15 h16 h17 h18 h19 h20 v13)), (h20, zi k20 270 f20)]) hP hD [1, 2] [0, 3, 4, 5, 6, 7] rfl rfl (by decide) (by decide) hk1 hFc hP1 hD1
      have hP : va_P (dC, dI) vwCl ([(h0, .inr (1, mX1 h1 h6 h13 h21 h36 h37 h39 h40 h41 h42 h43 h44 h45 h46 h47 h48 v0)), (h13, .inr (7, mX7 h14 h15 h16 h17 h18 h19 h20 v13)), (h20, zi k20 270 f20), (h39, zi k39 40 f39), (h40, zi k40 40 (a6_ 0)), (h36, .inl (k36, 40, .inr (.inr (.inr (.inr f36))))), (h41, zi k41 40 f41), (h31, .inl (k31, 400, .inr (.inr (.inr (.inr f31)))))] ++ pl6) H1 := hP.part [0, 6, 7, 1, 2, 3, 4, 5] rfl
      have hD : va_D A ([(h0, .inr (1, mX1 h1 h6 h13 h21 h36 h37 h39 h40 h41 h42 h43 h44 h45 h46 h47 h48 v0)), (h13, .inr (7, mX7 h14 h15 h16 h17 h18 h19 h20 v13)), (h20, zi k20 270 f20), (h39, zi k39 40 f39), (h40, zi k40 40 (a6_ 0)), (h36, .inl (k36, 40, .inr (.inr (.inr (.inr f36))))), (h41, zi k41 40 f41), (h31, .inl (k31, 400, .inr (.inr (.inr (.inr f31)))))] ++ pl6) := hD.part [0, 6, 7, 1, 2, 3, 4, 5] (by decide) rfl
      generalize H1 = H at hP hS ⊢
      clear hz1
      have b_ : 0 ≤ r36_.toInt ∧ r36_.toInt ≤ 12000 := ⟨by omega, by omega⟩
      refine lv_sipush (v := 1000) hx hb dX1_works_39 (by decide) ?_
      refine lv_irem hx hb dX1_works_42 (by decide) ?_
      refine lv_topi (fun z42 e_z42 => ?_)
      have b_ := zrem rfl zk_1000 e_z42 (by omega) (by decide)
      refine lv_istore (lv' := [(5, .int z42), (4, .int z28), (0, .ref h0), (1, .int (u6_ 0)), (2, .int (u6_ 1)), (3, .int (u6_ 2))]) hx hb dX1_works_43 hl (by decide) rfl (fun ls hl => ?_)
      refine lv_iload hx hb dX1_works_45 (lv_at hl 1 rfl) ?_
      refine lv_iconst (v := 4) hx hb dX1_works_47 (by decide) ?_
      refine zcutW (fun H locs ls u85_ w85_ a85_ b85_ => ∃ (q85_ : Nat → Nat → Option Nat) (pl85 : va_W), va_P (dC, dI) vwCl ([(h0, .inr (1, mX1 h1 h6 h13 h21 h36 h37 h39 h40 h41 h42 h43 h44 h45 h46 h47 h48 v0)), (h13, .inr (7, mX7 h14 h15 h16 h17 h18 h19 h20 v13)), (h20, zi k20 270 f20), (h39, zi k39 40 f39), (h40, zi k40 40 (a6_ 0)), (h36, .inl (k36, 40, .inr (.inr (.inr (.inr f36))))), (h41, zi k41 40 f41), (h31, .inl (k31, 400, .inr (.inr (.inr (.inr f31)))))] ++ pl85) H ∧ va_D A ([(h0, .inr (1, mX1 h1 h6 h13 h21 h36 h37 h39 h40 h41 h42 h43 h44 h45 h46 h47 h48 v0)), (h13, .inr (7, mX7 h14 h15 h16 h17 h18 h19 h20 v13)), (h20, zi k20 270 f20), (h39, zi k39 40 f39), (h40, zi k40 40 (a6_ 0)), (h36, .inl (k36, 40, .inr (.inr (.inr (.inr f36))))), (h41, zi k41 40 f41), (h31, .inl (k31, 400, .inr (.inr (.inr (.inr f31)))))] ++ pl85) ∧ va_S A s.heap H locs ∧ lv_has ls 6 [(0, .ref h0), (1, .int (u6_ 0)), (2, .int (u6_ 1)), (3, .int (u6_ 2)), (4, .int z28), (5, .int z42)] ∧ (0 ≤ z28.toInt ∧ z28.toInt ≤ 12) ∧ (zRd h22 f31 pl85) ∧ (zPs k41 f36 pl85) ∧ (zOt pl0 pl85)) (fun ls u85_ w85_ => F0 m 85 ls []) 0 0 ?_ (fun hJ85 => ?_)
      · skip
        intro H locs ls u85_ w85_ a85_ b85_ hc
        obtain ⟨q85_, pl85, hP, hD, hS, hl, b_, hI85_0, hI85_1, hI85_2⟩ := hc
        refine lv_iload hx hb dX1_works_85 (lv_at hl 4 rfl) ?_
        refine lv_bipush (v := 10) hx hb dX1_works_87 (by decide) ?_
        refine zcutW (fun H locs ls u123_ w123_ a123_ b123_ => ∃ (q123_ : Nat → Nat → Option Nat) (pl123 : va_W), va_P (dC, dI) vwCl ([(h0, .inr (1, mX1 h1 h6 h13 h21 h36 h37 h39 h40 h41 h42 h43 h44 h45 h46 h47 h48 v0)), (h13, .inr (7, mX7 h14 h15 h16 h17 h18 h19 h20 v13)), (h20, zi k20 270 f20), (h39, zi k39 40 f39), (h40, zi k40 40 (a6_ 0)), (h36, .inl (k36, 40, .inr (.inr (.inr (.inr f36))))), (h41, zi k41 40 f41), (h31, .inl (k31, 400, .inr (.inr (.inr (.inr f31)))))] ++ pl123) H ∧ va_D A ([(h0, .inr (1, mX1 h1 h6 h13 h21 h36 h37 h39 h40 h41 h42 h43 h44 h45 h46 h47 h48 v0)), (h13, .inr (7, mX7 h14 h15 h16 h17 h18 h19 h20 v13)), (h20, zi k20 270 f20), (h39, zi k39 40 f39), (h40, zi k40 40 (a6_ 0)), (h36, .inl (k36, 40, .inr (.inr (.inr (.inr f36))))), (h41, zi k41 40 f41), (h31, .inl (k31, 400, .inr (.inr (.inr (.inr f31)))))] ++ pl123) ∧ va_S A s.heap H locs ∧ lv_has ls 6 [(0, .ref h0), (1, .int (u6_ 0)), (2, .int (u6_ 1)), (3, .int (u6_ 2)), (4, .int z28), (5, .int z42)] ∧ (zRd h22 f31 pl123) ∧ (zPs k41 f36 pl123) ∧ (zOt pl0 pl123)) (fun ls u123_ w123_ => F0 m 123 ls []) 0 0 ?_ (fun hJ123 => ?_)
        · skip
          intro H locs ls u123_ w123_ a123_ b123_ hc
          obtain ⟨q123_, pl123, hP, hD, hS, hl, hI123_0, hI123_1, hI123_2⟩ := hc
          refine lv_iload hx hb dX1_works_123 (lv_at hl 4 rfl) ?_
          refine lv_iconst (v := 5) hx hb dX1_works_125 (by decide) ?_
          refine zcutW (fun H locs ls u158_ w158_ a158_ b158_ => ∃ (q158_ : Nat → Nat → Option Nat) (pl158 : va_W), va_P (dC, dI) vwCl ([(h0, .inr (1, mX1 h1 h6 h13 h21 h36 h37 h39 h40 h41 h42 h43 h44 h45 h46 h47 h48 v0)), (h13, .inr (7, mX7 h14 h15 h16 h17 h18 h19 h20 v13)), (h20, zi k20 270 f20), (h39, zi k39 40 f39), (h40, zi k40 40 (a6_ 0)), (h36, .inl (k36, 40, .inr (.inr (.inr (.inr f36))))), (h41, zi k41 40 f41), (h31, .inl (k31, 400, .inr (.inr (.inr (.inr f31)))))] ++ pl158) H ∧ va_D A ([(h0, .inr (1, mX1 h1 h6 h13 h21 h36 h37 h39 h40 h41 h42 h43 h44 h45 h46 h47 h48 v0)), (h13, .inr (7, mX7 h14 h15 h16 h17 h18 h19 h20 v13)), (h20, zi k20 270 f20), (h39, zi k39 40 f39), (h40, zi k40 40 (a6_ 0)), (h36, .inl (k36, 40, .inr (.inr (.inr (.inr f36))))), (h41, zi k41 40 f41), (h31, .inl (k31, 400, .inr (.inr (.inr (.inr f31)))))] ++ pl158) ∧ va_S A s.heap H locs ∧ lv_has ls 6 [(0, .ref h0), (1, .int (u6_ 0)), (2, .int (u6_ 1)), (3, .int (u6_ 2)), (4, .int z28), (5, .int z42)] ∧ (zRd h22 f31 pl158) ∧ (zPs k41 f36 pl158) ∧ (zOt pl0 pl158)) (fun ls u158_ w158_ => F0 m 158 ls []) 0 0 ?_ (fun hJ158 => ?_)
          · skip
            intro H locs ls u158_ w158_ a158_ b158_ hc
            obtain ⟨q158_, pl158, hP, hD, hS, hl, hI158_0, hI158_1, hI158_2⟩ := hc
            refine lv_iload hx hb dX1_works_158 (lv_at hl 4 rfl) ?_
            refine lv_bipush (v := 8) hx hb dX1_works_160 (by decide) ?_
            refine lv_icmp_lt (tgt := 200) hx hb dX1_works_162 (by decide) (fun c_ => ?_) (fun c_ => ?_)
            · skip
              have b_ := zT_lt rfl zk_8 c_
              obtain ⟨z200, e_z200⟩ : ∃ z : Int32, z = (u6_ 2) + Int32.ofInt 1 := ⟨_, rfl⟩
              have b_ := zadd (x := (u6_ 2)) (y := Int32.ofInt 1) rfl (show (Int32.ofInt 1).toInt = 1 from by decide) e_z200 (by omega) (by omega)
              refine lv_iinc (v := z200) (lv' := [(3, .int z200), (0, .ref h0), (1, .int (u6_ 0)), (2, .int (u6_ 1)), (4, .int z28), (5, .int z42)]) hx hb dX1_works_200 hl (k := 3) rfl e_z200.symm (by decide) rfl (fun ls hl => ?_)
              refine lv_goto (tgt := 6) hx hb dX1_works_203 (by decide) ?_
              have hc : va_P (dC, dI) vwCl ([(h0, .inr (1, mX1 h1 h6 h13 h21 h36 h37 h39 h40 h41 h42 h43 h44 h45 h46 h47 h48 v0)), (h13, .inr (7, mX7 h14 h15 h16 h17 h18 h19 h20 v13)), (h20, zi k20 270 f20), (h39, zi k39 40 f39), (h40, zi k40 40 (a6_ 0)), (h36, .inl (k36, 40, .inr (.inr (.inr (.inr f36))))), (h41, zi k41 40 f41), (h31, .inl (k31, 400, .inr (.inr (.inr (.inr f31)))))] ++ pl158) H ∧ va_D A ([(h0, .inr (1, mX1 h1 h6 h13 h21 h36 h37 h39 h40 h41 h42 h43 h44 h45 h46 h47 h48 v0)), (h13, .inr (7, mX7 h14 h15 h16 h17 h18 h19 h20 v13)), (h20, zi k20 270 f20), (h39, zi k39 40 f39), (h40, zi k40 40 (a6_ 0)), (h36, .inl (k36, 40, .inr (.inr (.inr (.inr f36))))), (h41, zi k41 40 f41), (h31, .inl (k31, 400, .inr (.inr (.inr (.inr f31)))))] ++ pl158) ∧ va_S A s.heap H locs ∧ lv_has ls 6 [(0, .ref h0), (1, .int (u6_ 0)), (2, .int (u6_ 1)), (3, .int z200)] ∧ (0 ≤ (u6_ 0).toInt ∧ (u6_ 0).toInt ≤ 40) ∧ ((-1) ≤ (u6_ 1).toInt ∧ (u6_ 1).toInt ≤ 39) ∧ (0 ≤ z200.toInt ∧ z200.toInt ≤ 299) ∧ (zRd h22 f31 pl158) ∧ (zPs k41 f36 pl158) ∧ (zOt pl0 pl158) := ⟨hP, hD, hS, lv_sub hl [1, 2, 3, 0] rfl, (by first | with_reducible assumption | exact ⟨by omega, by omega⟩), (by first | with_reducible assumption | exact ⟨by omega, by omega⟩), (by first | with_reducible assumption | exact ⟨by omega, by omega⟩), by assumption, by assumption, by first | assumption | exact zOt_rf⟩
              exact hJ6 H locs ls (fun i => ([(u6_ 0), (u6_ 1), z200] : List (Int32)).getD i 0) (fun _ => 0) (fun i => ([(a6_ 0)] : List (Nat → Int32)).getD i (fun _ => 0)) (fun _ => (fun _ => 0)) ⟨(fun _ => (fun _ => none)), pl158, hc⟩ (show (299 - z200.toInt).toNat < (299 - (u6_ 2).toInt).toNat from by omega)
            · skip
              have b_ := zF_lt rfl zk_8 c_
              refine lv_iload_n hx hb dX1_works_165 rfl (lv_at hl 1 rfl) ?_
              refine lv_iconst (v := 1) hx hb dX1_works_166 (by decide) ?_
              refine lv_icmp_le (tgt := 200) hx hb dX1_works_167 (by decide) (fun c_ => ?_) (fun c_ => ?_)
              · skip
                have b_ := zT_le rfl zk_1 c_
                obtain ⟨z200, e_z200⟩ : ∃ z : Int32, z = (u6_ 2) + Int32.ofInt 1 := ⟨_, rfl⟩
                have b_ := zadd (x := (u6_ 2)) (y := Int32.ofInt 1) rfl (show (Int32.ofInt 1).toInt = 1 from by decide) e_z200 (by omega) (by omega)
                refine lv_iinc (v := z200) (lv' := [(3, .int z200), (0, .ref h0), (1, .int (u6_ 0)), (2, .int (u6_ 1)), (4, .int z28), (5, .int z42)]) hx hb dX1_works_200 hl (k := 3) rfl e_z200.symm (by decide) rfl (fun ls hl => ?_)
                refine lv_goto (tgt := 6) hx hb dX1_works_203 (by decide) ?_
                have hc : va_P (dC, dI) vwCl ([(h0, .inr (1, mX1 h1 h6 h13 h21 h36 h37 h39 h40 h41 h42 h43 h44 h45 h46 h47 h48 v0)), (h13, .inr (7, mX7 h14 h15 h16 h17 h18 h19 h20 v13)), (h20, zi k20 270 f20), (h39, zi k39 40 f39), (h40, zi k40 40 (a6_ 0)), (h36, .inl (k36, 40, .inr (.inr (.inr (.inr f36))))), (h41, zi k41 40 f41), (h31, .inl (k31, 400, .inr (.inr (.inr (.inr f31)))))] ++ pl158) H ∧ va_D A ([(h0, .inr (1, mX1 h1 h6 h13 h21 h36 h37 h39 h40 h41 h42 h43 h44 h45 h46 h47 h48 v0)), (h13, .inr (7, mX7 h14 h15 h16 h17 h18 h19 h20 v13)), (h20, zi k20 270 f20), (h39, zi k39 40 f39), (h40, zi k40 40 (a6_ 0)), (h36, .inl (k36, 40, .inr (.inr (.inr (.inr f36))))), (h41, zi k41 40 f41), (h31, .inl (k31, 400, .inr (.inr (.inr (.inr f31)))))] ++ pl158) ∧ va_S A s.heap H locs ∧ lv_has ls 6 [(0, .ref h0), (1, .int (u6_ 0)), (2, .int (u6_ 1)), (3, .int z200)] ∧ (0 ≤ (u6_ 0).toInt ∧ (u6_ 0).toInt ≤ 40) ∧ ((-1) ≤ (u6_ 1).toInt ∧ (u6_ 1).toInt ≤ 39) ∧ (0 ≤ z200.toInt ∧ z200.toInt ≤ 299) ∧ (zRd h22 f31 pl158) ∧ (zPs k41 f36 pl158) ∧ (zOt pl0 pl158) := ⟨hP, hD, hS, lv_sub hl [1, 2, 3, 0] rfl, (by first | with_reducible assumption | exact ⟨by omega, by omega⟩), (by first | with_reducible assumption | exact ⟨by omega, by omega⟩), (by first | with_reducible assumption | exact ⟨by omega, by omega⟩), by assumption, by assumption, by first | assumption | exact zOt_rf⟩
                exact hJ6 H locs ls (fun i => ([(u6_ 0), (u6_ 1), z200] : List (Int32)).getD i 0) (fun _ => 0) (fun i => ([(a6_ 0)] : List (Nat → Int32)).getD i (fun _ => 0)) (fun _ => (fun _ => 0)) ⟨(fun _ => (fun _ => none)), pl158, hc⟩ (show (299 - z200.toInt).toNat < (299 - (u6_ 2).toInt).toNat from by omega)
              · skip
                have b_ := zF_le rfl zk_1 c_
                obtain ⟨z170, e_z170⟩ : ∃ z : Int32, z = (u6_ 0) + Int32.ofInt (-1) := ⟨_, rfl⟩
                have b_ := zadd (x := (u6_ 0)) (y := Int32.ofInt (-1)) rfl (show (Int32.ofInt (-1)).toInt = (-1) from by decide) e_z170 (by omega) (by omega)
                refine lv_iinc (v := z170) (lv' := [(1, .int z170), (0, .ref h0), (2, .int (u6_ 1)), (3, .int (u6_ 2)), (4, .int z28), (5, .int z42)]) hx hb dX1_works_170 hl (k := 1) rfl e_z170.symm (by decide) rfl (fun ls hl => ?_)
                refine lv_aload_n hx hb dX1_works_173 rfl (lv_at hl 1 rfl) ?_
                refine va_get (D := (dC, dI)) (ci := 1) (v := .ref h40) (C := RX1) (T := TX1) (N := 17) hx hb hG zuX1 hown hK hP 0 rfl rfl 7 (by decide) (hG _ zv511) (fun _ h9 => h9) rfl dX1_works_174 ?_
                refine lv_iload_n hx hb dX1_works_177 rfl (lv_at hl 0 rfl) ?_
                refine lv_iconst (v := 1) hx hb dX1_works_178 (by decide) ?_
                refine lv_isub hx hb dX1_works_179 ?_
                refine lv_topi (fun z179 e_z179 => ?_)
                have b_ := zsub rfl zk_1 e_z179 (by omega) (by omega)
                refine lv_iload hx hb dX1_works_180 (lv_at hl 4 rfl) ?_
                refine lv_aload_n hx hb dX1_works_182 rfl (lv_at hl 1 rfl) ?_
                refine va_get (D := (dC, dI)) (ci := 1) (v := .ref h40) (C := RX1) (T := TX1) (N := 17) hx hb hG zuX1 hown hK hP 0 rfl rfl 7 (by decide) (hG _ zv511) (fun _ h9 => h9) rfl dX1_works_183 ?_
                refine lv_iload_n hx hb dX1_works_186 rfl (lv_at hl 0 rfl) ?_
                refine lv_iconst (v := 1) hx hb dX1_works_187 (by decide) ?_
                refine lv_isub hx hb dX1_works_188 ?_
                refine lv_topi (fun z188 e_z188 => ?_)
                have b_ := zsub rfl zk_1 e_z188 (by omega) (by omega)
                refine va_zald hx hb hK hP 4 2 rfl rfl (zin_lit ⟨by omega, by omega⟩) dX1_works_189 ?_
                refine lv_topi (fun z189 e_z189 => ?_)
                refine lv_aload_n hx hb dX1_works_190 rfl (lv_at hl 1 rfl) ?_
                refine va_get (D := (dC, dI)) (ci := 1) (v := .ref h40) (C := RX1) (T := TX1) (N := 17) hx hb hG zuX1 hown hK hP 0 rfl rfl 7 (by decide) (hG _ zv511) (fun _ h9 => h9) rfl dX1_works_191 ?_
                refine lv_iload_n hx hb dX1_works_194 rfl (lv_at hl 0 rfl) ?_
                refine va_zald hx hb hK hP 4 2 rfl rfl (zin_lit ⟨by omega, by omega⟩) dX1_works_195 ?_
                refine lv_topi (fun z195 e_z195 => ?_)
                have hPc := hP.sub (ws' := []) [] rfl
                have hDc := hD.sub (ws' := []) [] (by decide) rfl
                have hKc := hK.sub (tys' := []) [] rfl
                have hFc := va_free (wc := []) hD hS hA [] rfl
                refine va_calli (va_runS (As := [.int z28, .int z189, .int z195]) (rest := [.int z179, .ref h40]) ⟨hx, hb, hml, hown, hG⟩ (sX1_joined_0 l dC dI adK adV H.size z28 z189 z195) (va_cwS 3 hG (zgS zv1322 zv1323 zv138 zv1324) rfl rfl rfl (by decide +kernel) ⟨Nat.le_of_ble_eq_true rfl, Nat.le_of_ble_eq_true rfl⟩) ⟨zPc_blind, zPc_pre hPc hKc hDc hE hS hFc hZ⟩ rfl rfl hl.1 rfl (lv_room (Nat.le_of_ble_eq_true rfl)) dX1_works_196 ⟨Nat.le_of_ble_eq_true rfl, Nat.le_of_ble_eq_true rfl⟩) hS (fun q _ h => hFc q h) hFc (fun r196_ u196_ t H1 locs ht hvm hw hB hz1 hk1 hS => ?_)
                replace hw : (0 ≤ r196_.toInt ∧ r196_.toInt ≤ 1) := hw
                have b_ := hw
                obtain ⟨w196_, a196_, b196_, hP1, hK1, hD1⟩ := hB
                rw [ht] at hP1
                obtain ⟨hP, hD⟩ := va_joinQ (wr := [(h0, .inr (1, mX1 h1 h6 h13 h21 h36 h37 h39 h40 h41 h42 h43 h44 h45 h46 h47 h48 v0)), (h13, .inr (7, mX7 h14 h15 h16 h17 h18 h19 h20 v13)), (h20, zi k20 270 f20), (h39, zi k39 40 f39), (h40, zi k40 40 (a6_ 0)), (h36, .inl (k36, 40, .inr (.inr (.inr (.inr f36))))), (h41, zi k41 40 f41), (h31, .inl (k31, 400, .inr (.inr (.inr (.inr f31)))))]) (w1 := []) hP hD [] [0, 1, 2, 3, 4, 5, 6, 7] rfl rfl (by decide) (by decide) hk1 hFc hP1 hD1
                have hP : va_P (dC, dI) vwCl ([(h0, .inr (1, mX1 h1 h6 h13 h21 h36 h37 h39 h40 h41 h42 h43 h44 h45 h46 h47 h48 v0)), (h13, .inr (7, mX7 h14 h15 h16 h17 h18 h19 h20 v13)), (h20, zi k20 270 f20), (h39, zi k39 40 f39), (h40, zi k40 40 (a6_ 0)), (h36, .inl (k36, 40, .inr (.inr (.inr (.inr f36))))), (h41, zi k41 40 f41), (h31, .inl (k31, 400, .inr (.inr (.inr (.inr f31)))))] ++ pl158) H1 := hP.part [0, 1, 2, 3, 4, 5, 6, 7] rfl
                have hD : va_D A ([(h0, .inr (1, mX1 h1 h6 h13 h21 h36 h37 h39 h40 h41 h42 h43 h44 h45 h46 h47 h48 v0)), (h13, .inr (7, mX7 h14 h15 h16 h17 h18 h19 h20 v13)), (h20, zi k20 270 f20), (h39, zi k39 40 f39), (h40, zi k40 40 (a6_ 0)), (h36, .inl (k36, 40, .inr (.inr (.inr (.inr f36))))), (h41, zi k41 40 f41), (h31, .inl (k31, 400, .inr (.inr (.inr (.inr f31)))))] ++ pl158) := hD.part [0, 1, 2, 3, 4, 5, 6, 7] (by decide) rfl
                generalize H1 = H at hP hS ⊢
                clear hz1
                refine va_zast hx hb hK hP hD hS 4 2 rfl rfl (zin_lit ⟨by omega, by omega⟩) dX1_works_199 (fun H locs hP hD hS => ?_)
                obtain ⟨f_199, e_f_199⟩ : ∃ z : Nat → Int32, z = upd (a6_ 0) (z179 : Int32).toNatClampNeg (vp_nar .boolean r196_) := ⟨_, rfl⟩
                have hP : va_P (dC, dI) vwCl ([(h0, .inr (1, mX1 h1 h6 h13 h21 h36 h37 h39 h40 h41 h42 h43 h44 h45 h46 h47 h48 v0)), (h13, .inr (7, mX7 h14 h15 h16 h17 h18 h19 h20 v13)), (h20, zi k20 270 f20), (h39, zi k39 40 f39), (h40, zi k40 40 f_199), (h36, .inl (k36, 40, .inr (.inr (.inr (.inr f36))))), (h41, zi k41 40 f41), (h31, .inl (k31, 400, .inr (.inr (.inr (.inr f31)))))] ++ pl158) H := by rw [e_f_199]; exact hP
                have hD : va_D A ([(h0, .inr (1, mX1 h1 h6 h13 h21 h36 h37 h39 h40 h41 h42 h43 h44 h45 h46 h47 h48 v0)), (h13, .inr (7, mX7 h14 h15 h16 h17 h18 h19 h20 v13)), (h20, zi k20 270 f20), (h39, zi k39 40 f39), (h40, zi k40 40 f_199), (h36, .inl (k36, 40, .inr (.inr (.inr (.inr f36))))), (h41, zi k41 40 f41), (h31, .inl (k31, 400, .inr (.inr (.inr (.inr f31)))))] ++ pl158) := by rw [e_f_199]; exact hD
                obtain ⟨z200, e_z200⟩ : ∃ z : Int32, z = (u6_ 2) + Int32.ofInt 1 := ⟨_, rfl⟩
                have b_ := zadd (x := (u6_ 2)) (y := Int32.ofInt 1) rfl (show (Int32.ofInt 1).toInt = 1 from by decide) e_z200 (by omega) (by omega)
                refine lv_iinc (v := z200) (lv' := [(3, .int z200), (1, .int z170), (0, .ref h0), (2, .int (u6_ 1)), (4, .int z28), (5, .int z42)]) hx hb dX1_works_200 hl (k := 3) rfl e_z200.symm (by decide) rfl (fun ls hl => ?_)
                refine lv_goto (tgt := 6) hx hb dX1_works_203 (by decide) ?_
                have hc : va_P (dC, dI) vwCl ([(h0, .inr (1, mX1 h1 h6 h13 h21 h36 h37 h39 h40 h41 h42 h43 h44 h45 h46 h47 h48 v0)), (h13, .inr (7, mX7 h14 h15 h16 h17 h18 h19 h20 v13)), (h20, zi k20 270 f20), (h39, zi k39 40 f39), (h40, zi k40 40 f_199), (h36, .inl (k36, 40, .inr (.inr (.inr (.inr f36))))), (h41, zi k41 40 f41), (h31, .inl (k31, 400, .inr (.inr (.inr (.inr f31)))))] ++ pl158) H ∧ va_D A ([(h0, .inr (1, mX1 h1 h6 h13 h21 h36 h37 h39 h40 h41 h42 h43 h44 h45 h46 h47 h48 v0)), (h13, .inr (7, mX7 h14 h15 h16 h17 h18 h19 h20 v13)), (h20, zi k20 270 f20), (h39, zi k39 40 f39), (h40, zi k40 40 f_199), (h36, .inl (k36, 40, .inr (.inr (.inr (.inr f36))))), (h41, zi k41 40 f41), (h31, .inl (k31, 400, .inr (.inr (.inr (.inr f31)))))] ++ pl158) ∧ va_S A s.heap H locs ∧ lv_has ls 6 [(0, .ref h0), (1, .int z170), (2, .int (u6_ 1)), (3, .int z200)] ∧ (0 ≤ z170.toInt ∧ z170.toInt ≤ 40) ∧ ((-1) ≤ (u6_ 1).toInt ∧ (u6_ 1).toInt ≤ 39) ∧ (0 ≤ z200.toInt ∧ z200.toInt ≤ 299) ∧ (zRd h22 f31 pl158) ∧ (zPs k41 f36 pl158) ∧ (zOt pl0 pl158) := ⟨hP, hD, hS, lv_sub hl [2, 1, 3, 0] rfl, (by first | with_reducible assumption | exact ⟨by omega, by omega⟩), (by first | with_reducible assumption | exact ⟨by omega, by omega⟩), (by first | with_reducible assumption | exact ⟨by omega, by omega⟩), by assumption, by assumption, by first | assumption | exact zOt_rf⟩
                exact hJ6 H locs ls (fun i => ([z170, (u6_ 1), z200] : List (Int32)).getD i 0) (fun _ => 0) (fun i => ([f_199] : List (Nat → Int32)).getD i (fun _ => 0)) (fun _ => (fun _ => 0)) ⟨(fun _ => (fun _ => none)), pl158, hc⟩ (show (299 - z200.toInt).toNat < (299 - (u6_ 2).toInt).toNat from by omega)
          · skip
            refine lv_icmp_ne (tgt := 158) hx hb dX1_works_126 (by decide) (fun c_ => ?_) (fun c_ => ?_)
            · skip
              have b_ := zT_ne rfl zk_5 c_
              have hc : va_P (dC, dI) vwCl ([(h0, .inr (1, mX1 h1 h6 h13 h21 h36 h37 h39 h40 h41 h42 h43 h44 h45 h46 h47 h48 v0)), (h13, .inr (7, mX7 h14 h15 h16 h17 h18 h19 h20 v13)), (h20, zi k20 270 f20), (h39, zi k39 40 f39), (h40, zi k40 40 (a6_ 0)), (h36, .inl (k36, 40, .inr (.inr (.inr (.inr f36))))), (h41, zi k41 40 f41), (h31, .inl (k31, 400, .inr (.inr (.inr (.inr f31)))))] ++ pl123) H ∧ va_D A ([(h0, .inr (1, mX1 h1 h6 h13 h21 h36 h37 h39 h40 h41 h42 h43 h44 h45 h46 h47 h48 v0)), (h13, .inr (7, mX7 h14 h15 h16 h17 h18 h19 h20 v13)), (h20, zi k20 270 f20), (h39, zi k39 40 f39), (h40, zi k40 40 (a6_ 0)), (h36, .inl (k36, 40, .inr (.inr (.inr (.inr f36))))), (h41, zi k41 40 f41), (h31, .inl (k31, 400, .inr (.inr (.inr (.inr f31)))))] ++ pl123) ∧ va_S A s.heap H locs ∧ lv_has ls 6 [(0, .ref h0), (1, .int (u6_ 0)), (2, .int (u6_ 1)), (3, .int (u6_ 2)), (4, .int z28), (5, .int z42)] ∧ (zRd h22 f31 pl123) ∧ (zPs k41 f36 pl123) ∧ (zOt pl0 pl123) := ⟨hP, hD, hS, lv_sub hl [0, 1, 2, 3, 4, 5] rfl, by assumption, by assumption, by first | assumption | exact zOt_rf⟩
              exact hJ158 H locs ls (fun _ => 0) (fun _ => 0) (fun _ => (fun _ => 0)) (fun _ => (fun _ => 0)) ⟨(fun _ => (fun _ => none)), pl123, hc⟩
            · skip
              have b_ := zF_ne rfl zk_5 c_
              refine lv_iload_n hx hb dX1_works_129 rfl (lv_at hl 1 rfl) ?_
              refine lv_iconst (v := 1) hx hb dX1_works_130 (by decide) ?_
              refine lv_icmp_le (tgt := 158) hx hb dX1_works_131 (by decide) (fun c_ => ?_) (fun c_ => ?_)
              · skip
                have b_ := zT_le rfl zk_1 c_
                have hc : va_P (dC, dI) vwCl ([(h0, .inr (1, mX1 h1 h6 h13 h21 h36 h37 h39 h40 h41 h42 h43 h44 h45 h46 h47 h48 v0)), (h13, .inr (7, mX7 h14 h15 h16 h17 h18 h19 h20 v13)), (h20, zi k20 270 f20), (h39, zi k39 40 f39), (h40, zi k40 40 (a6_ 0)), (h36, .inl (k36, 40, .inr (.inr (.inr (.inr f36))))), (h41, zi k41 40 f41), (h31, .inl (k31, 400, .inr (.inr (.inr (.inr f31)))))] ++ pl123) H ∧ va_D A ([(h0, .inr (1, mX1 h1 h6 h13 h21 h36 h37 h39 h40 h41 h42 h43 h44 h45 h46 h47 h48 v0)), (h13, .inr (7, mX7 h14 h15 h16 h17 h18 h19 h20 v13)), (h20, zi k20 270 f20), (h39, zi k39 40 f39), (h40, zi k40 40 (a6_ 0)), (h36, .inl (k36, 40, .inr (.inr (.inr (.inr f36))))), (h41, zi k41 40 f41), (h31, .inl (k31, 400, .inr (.inr (.inr (.inr f31)))))] ++ pl123) ∧ va_S A s.heap H locs ∧ lv_has ls 6 [(0, .ref h0), (1, .int (u6_ 0)), (2, .int (u6_ 1)), (3, .int (u6_ 2)), (4, .int z28), (5, .int z42)] ∧ (zRd h22 f31 pl123) ∧ (zPs k41 f36 pl123) ∧ (zOt pl0 pl123) := ⟨hP, hD, hS, lv_sub hl [0, 1, 2, 3, 4, 5] rfl, by assumption, by assumption, by first | assumption | exact zOt_rf⟩
                exact hJ158 H locs ls (fun _ => 0) (fun _ => 0) (fun _ => (fun _ => 0)) (fun _ => (fun _ => 0)) ⟨(fun _ => (fun _ => none)), pl123, hc⟩
              · skip
                have b_ := zF_le rfl zk_1 c_
                obtain ⟨z134, e_z134⟩ : ∃ z : Int32, z = (u6_ 0) + Int32.ofInt (-1) := ⟨_, rfl⟩
                have b_ := zadd (x := (u6_ 0)) (y := Int32.ofInt (-1)) rfl (show (Int32.ofInt (-1)).toInt = (-1) from by decide) e_z134 (by omega) (by omega)
                refine lv_iinc (v := z134) (lv' := [(1, .int z134), (0, .ref h0), (2, .int (u6_ 1)), (3, .int (u6_ 2)), (4, .int z28), (5, .int z42)]) hx hb dX1_works_134 hl (k := 1) rfl e_z134.symm (by decide) rfl (fun ls hl => ?_)
                refine lv_aload_n hx hb dX1_works_137 rfl (lv_at hl 1 rfl) ?_
                refine va_get (D := (dC, dI)) (ci := 1) (v := .ref h40) (C := RX1) (T := TX1) (N := 17) hx hb hG zuX1 hown hK hP 0 rfl rfl 7 (by decide) (hG _ zv511) (fun _ h9 => h9) rfl dX1_works_138 ?_
                refine lv_iload_n hx hb dX1_works_141 rfl (lv_at hl 0 rfl) ?_
                refine lv_iconst (v := 1) hx hb dX1_works_142 (by decide) ?_
                refine lv_isub hx hb dX1_works_143 ?_
                refine lv_topi (fun z143 e_z143 => ?_)
                have b_ := zsub rfl zk_1 e_z143 (by omega) (by omega)
                refine lv_aload_n hx hb dX1_works_144 rfl (lv_at hl 1 rfl) ?_
                refine lv_iload_n hx hb dX1_works_145 rfl (lv_at hl 2 rfl) ?_
                refine lv_iconst (v := 1) hx hb dX1_works_146 (by decide) ?_
                refine lv_isub hx hb dX1_works_147 ?_
                refine lv_topi (fun z147 e_z147 => ?_)
                have b_ := zsub rfl zk_1 e_z147 (by omega) (by omega)
                refine lv_iload_n hx hb dX1_works_148 rfl (lv_at hl 2 rfl) ?_
                refine lv_iload hx hb dX1_works_149 (lv_at hl 5 rfl) ?_
                have hPc := hP.part (cx := [(h0, .inr (1, mX1 h1 h6 h13 h21 h36 h37 h39 h40 h41 h42 h43 h44 h45 h46 h47 h48 v0)), (h36, .inl (k36, 40, .inr (.inr (.inr (.inr f36))))), (h41, zi k41 40 f41), (h31, .inl (k31, 400, .inr (.inr (.inr (.inr f31)))))]) [0, 5, 6, 7] rfl
                have hDc := hD.part (cx := [(h0, .inr (1, mX1 h1 h6 h13 h21 h36 h37 h39 h40 h41 h42 h43 h44 h45 h46 h47 h48 v0)), (h36, .inl (k36, 40, .inr (.inr (.inr (.inr f36))))), (h41, zi k41 40 f41), (h31, .inl (k31, 400, .inr (.inr (.inr (.inr f31)))))]) [0, 5, 6, 7] (by decide) rfl
                have hKc := hK.sub (tys' := [(k36, .object RX5), (k41, .int), (k31, .object RX8)]) [3, 4, 5] rfl
                have hFc := va_freeP (cx := [(h0, .inr (1, mX1 h1 h6 h13 h21 h36 h37 h39 h40 h41 h42 h43 h44 h45 h46 h47 h48 v0)), (h36, .inl (k36, 40, .inr (.inr (.inr (.inr f36))))), (h41, zi k41 40 f41), (h31, .inl (k31, 400, .inr (.inr (.inr (.inr f31)))))]) hD hS hA [0, 5, 6, 7] rfl
                refine va_calli (va_runV (As := [.int z147, .int (u6_ 1), .int z42]) (rest := [.int z143, .ref h40]) ⟨hx, hb, hml, hown, hG⟩ (p16_sX1_areNear_0 l dC dI adK adV h0 h36 h41 h31 h1 h6 h13 h21 h37 h39 h40 h42 h43 h44 h45 h46 h47 h48 h22 k36 k41 k31 pl123 H.size v0 f36 f41 f31 z147 (u6_ 1) z42 hv0 (show ((-2) : Int) ≤ (z147 : Int32).toInt ∧ (z147 : Int32).toInt ≤ (38 : Int) from (by first | with_reducible assumption | exact ⟨by omega, by omega⟩)) (show ((-1) : Int) ≤ ((u6_ 1) : Int32).toInt ∧ ((u6_ 1) : Int32).toInt ≤ (39 : Int) from (by first | with_reducible assumption | exact ⟨by omega, by omega⟩)) (show ((-999) : Int) ≤ (z42 : Int32).toInt ∧ (z42 : Int32).toInt ≤ (999 : Int) from (by first | with_reducible assumption | exact ⟨by omega, by omega⟩)) (show zRd h22 f31 pl123 from by first | with_reducible assumption | assumption) (show zPs k41 f36 pl123 from by first | with_reducible assumption | assumption) (show z147.toInt = (u6_ 1).toInt - 1 from by omega)) (cwV 3 hG (zgV zv1306 zv1308 zv42 zv138 zv1309) rfl rfl rfl (by decide +kernel) ⟨Nat.le_of_ble_eq_true rfl, Nat.le_of_ble_eq_true rfl⟩) ⟨zPc_blind, va_recv hKc hPc (ci := 1) (q0 := 0) rfl rfl, zPc_pre hPc hKc hDc hE hS hFc hZ⟩ rfl rfl hl.1 rfl (lv_room (Nat.le_of_ble_eq_true rfl)) dX1_works_151 ⟨Nat.le_of_ble_eq_true rfl, Nat.le_of_ble_eq_true rfl⟩) hS (fun q _ h => hFc q h) hFc (fun r151_ u151_ t H1 locs ht hvm hw hB hz1 hk1 hS => ?_)
                replace hw : (0 ≤ r151_.toInt ∧ r151_.toInt ≤ 1) := hw
                have b_ := hw
                obtain ⟨w151_, a151_, b151_, q151_, pl151_, hB151_0, hB151_1, hB151_2, hP1, hK1, hD1⟩ := hB
                have hB151_0 : zRd h22 f31 pl151_ := hB151_0
                have hB151_1 : zPs k41 f36 pl151_ := hB151_1
                have hB151_2 : zOt pl123 pl151_ := hB151_2
                rw [ht] at hP1
                obtain ⟨hP, hD⟩ := va_joinP (wr := [(h13, .inr (7, mX7 h14 h15 h16 h17 h18 h19 h20 v13)), (h20, zi k20 270 f20), (h39, zi k39 40 f39), (h40, zi k40 40 (a6_ 0))]) (rx := [(h0, .inr (1, mX1 h1 h6 h13 h21 h36 h37 h39 h40 h41 h42 h43 h44 h45 h46 h47 h48 v0)), (h36, .inl (k36, 40, .inr (.inr (.inr (.inr f36))))), (h41, zi k41 40 f41), (h31, .inl (k31, 400, .inr (.inr (.inr (.inr f31)))))]) hP hD [0, 5, 6, 7] [1, 2, 3, 4] rfl rfl (by decide) (by decide) hk1 hFc hP1 hD1
                have hP : va_P (dC, dI) vwCl ([(h0, .inr (1, mX1 h1 h6 h13 h21 h36 h37 h39 h40 h41 h42 h43 h44 h45 h46 h47 h48 v0)), (h13, .inr (7, mX7 h14 h15 h16 h17 h18 h19 h20 v13)), (h20, zi k20 270 f20), (h39, zi k39 40 f39), (h40, zi k40 40 (a6_ 0)), (h36, .inl (k36, 40, .inr (.inr (.inr (.inr f36))))), (h41, zi k41 40 f41), (h31, .inl (k31, 400, .inr (.inr (.inr (.inr f31)))))] ++ pl151_) H1 := hP.part [4, 0, 1, 2, 3, 5, 6, 7] rfl
                have hD : va_D A ([(h0, .inr (1, mX1 h1 h6 h13 h21 h36 h37 h39 h40 h41 h42 h43 h44 h45 h46 h47 h48 v0)), (h13, .inr (7, mX7 h14 h15 h16 h17 h18 h19 h20 v13)), (h20, zi k20 270 f20), (h39, zi k39 40 f39), (h40, zi k40 40 (a6_ 0)), (h36, .inl (k36, 40, .inr (.inr (.inr (.inr f36))))), (h41, zi k41 40 f41), (h31, .inl (k31, 400, .inr (.inr (.inr (.inr f31)))))] ++ pl151_) := hD.part [4, 0, 1, 2, 3, 5, 6, 7] (by decide) rfl
                generalize H1 = H at hP hS ⊢
                clear hz1
                have hot_ : zOt pl0 pl151_ := zOt_tr (show zOt pl0 pl123 from by first | assumption | exact zOt_rf) hB151_2
                refine va_zast hx hb hK hP hD hS 4 2 rfl rfl (zin_lit ⟨by omega, by omega⟩) dX1_works_154 (fun H locs hP hD hS => ?_)
                obtain ⟨f_154, e_f_154⟩ : ∃ z : Nat → Int32, z = upd (a6_ 0) (z143 : Int32).toNatClampNeg (vp_nar .boolean r151_) := ⟨_, rfl⟩
                have hP : va_P (dC, dI) vwCl ([(h0, .inr (1, mX1 h1 h6 h13 h21 h36 h37 h39 h40 h41 h42 h43 h44 h45 h46 h47 h48 v0)), (h13, .inr (7, mX7 h14 h15 h16 h17 h18 h19 h20 v13)), (h20, zi k20 270 f20), (h39, zi k39 40 f39), (h40, zi k40 40 f_154), (h36, .inl (k36, 40, .inr (.inr (.inr (.inr f36))))), (h41, zi k41 40 f41), (h31, .inl (k31, 400, .inr (.inr (.inr (.inr f31)))))] ++ pl151_) H := by rw [e_f_154]; exact hP
                have hD : va_D A ([(h0, .inr (1, mX1 h1 h6 h13 h21 h36 h37 h39 h40 h41 h42 h43 h44 h45 h46 h47 h48 v0)), (h13, .inr (7, mX7 h14 h15 h16 h17 h18 h19 h20 v13)), (h20, zi k20 270 f20), (h39, zi k39 40 f39), (h40, zi k40 40 f_154), (h36, .inl (k36, 40, .inr (.inr (.inr (.inr f36))))), (h41, zi k41 40 f41), (h31, .inl (k31, 400, .inr (.inr (.inr (.inr f31)))))] ++ pl151_) := by rw [e_f_154]; exact hD
                refine lv_goto (tgt := 200) hx hb dX1_works_155 (by decide) ?_
                obtain ⟨z200, e_z200⟩ : ∃ z : Int32, z = (u6_ 2) + Int32.ofInt 1 := ⟨_, rfl⟩
                have b_ := zadd (x := (u6_ 2)) (y := Int32.ofInt 1) rfl (show (Int32.ofInt 1).toInt = 1 from by decide) e_z200 (by omega) (by omega)
                refine lv_iinc (v := z200) (lv' := [(3, .int z200), (1, .int z134), (0, .ref h0), (2, .int (u6_ 1)), (4, .int z28), (5, .int z42)]) hx hb dX1_works_200 hl (k := 3) rfl e_z200.symm (by decide) rfl (fun ls hl => ?_)
                refine lv_goto (tgt := 6) hx hb dX1_works_203 (by decide) ?_
                have hc : va_P (dC, dI) vwCl ([(h0, .inr (1, mX1 h1 h6 h13 h21 h36 h37 h39 h40 h41 h42 h43 h44 h45 h46 h47 h48 v0)), (h13, .inr (7, mX7 h14 h15 h16 h17 h18 h19 h20 v13)), (h20, zi k20 270 f20), (h39, zi k39 40 f39), (h40, zi k40 40 f_154), (h36, .inl (k36, 40, .inr (.inr (.inr (.inr f36))))), (h41, zi k41 40 f41), (h31, .inl (k31, 400, .inr (.inr (.inr (.inr f31)))))] ++ pl151_) H ∧ va_D A ([(h0, .inr (1, mX1 h1 h6 h13 h21 h36 h37 h39 h40 h41 h42 h43 h44 h45 h46 h47 h48 v0)), (h13, .inr (7, mX7 h14 h15 h16 h17 h18 h19 h20 v13)), (h20, zi k20 270 f20), (h39, zi k39 40 f39), (h40, zi k40 40 f_154), (h36, .inl (k36, 40, .inr (.inr (.inr (.inr f36))))), (h41, zi k41 40 f41), (h31, .inl (k31, 400, .inr (.inr (.inr (.inr f31)))))] ++ pl151_) ∧ va_S A s.heap H locs ∧ lv_has ls 6 [(0, .ref h0), (1, .int z134), (2, .int (u6_ 1)), (3, .int z200)] ∧ (0 ≤ z134.toInt ∧ z134.toInt ≤ 40) ∧ ((-1) ≤ (u6_ 1).toInt ∧ (u6_ 1).toInt ≤ 39) ∧ (0 ≤ z200.toInt ∧ z200.toInt ≤ 299) ∧ (zRd h22 f31 pl151_) ∧ (zPs k41 f36 pl151_) ∧ (zOt pl0 pl151_) := ⟨hP, hD, hS, lv_sub hl [2, 1, 3, 0] rfl, (by first | with_reducible assumption | exact ⟨by omega, by omega⟩), (by first | with_reducible assumption | exact ⟨by omega, by omega⟩), (by first | with_reducible assumption | exact ⟨by omega, by omega⟩), by assumption, by assumption, by first | assumption | exact zOt_rf⟩
                exact hJ6 H locs ls (fun i => ([z134, (u6_ 1), z200] : List (Int32)).getD i 0) (fun _ => 0) (fun i => ([f_154] : List (Nat → Int32)).getD i (fun _ => 0)) (fun _ => (fun _ => 0)) ⟨(fun _ => (fun _ => none)), pl151_, hc⟩ (show (299 - z200.toInt).toNat < (299 - (u6_ 2).toInt).toNat from by omega)
        · skip
          refine lv_icmp_ne (tgt := 123) hx hb dX1_works_89 (by decide) (fun c_ => ?_) (fun c_ => ?_)
          · skip
            have b_ := zT_ne rfl zk_10 c_
            have hc : va_P (dC, dI) vwCl ([(h0, .inr (1, mX1 h1 h6 h13 h21 h36 h37 h39 h40 h41 h42 h43 h44 h45 h46 h47 h48 v0)), (h13, .inr (7, mX7 h14 h15 h16 h17 h18 h19 h20 v13)), (h20, zi k20 270 f20), (h39, zi k39 40 f39), (h40, zi k40 40 (a6_ 0)), (h36, .inl (k36, 40, .inr (.inr (.inr (.inr f36))))), (h41, zi k41 40 f41), (h31, .inl (k31, 400, .inr (.inr (.inr (.inr f31)))))] ++ pl85) H ∧ va_D A ([(h0, .inr (1, mX1 h1 h6 h13 h21 h36 h37 h39 h40 h41 h42 h43 h44 h45 h46 h47 h48 v0)), (h13, .inr (7, mX7 h14 h15 h16 h17 h18 h19 h20 v13)), (h20, zi k20 270 f20), (h39, zi k39 40 f39), (h40, zi k40 40 (a6_ 0)), (h36, .inl (k36, 40, .inr (.inr (.inr (.inr f36))))), (h41, zi k41 40 f41), (h31, .inl (k31, 400, .inr (.inr (.inr (.inr f31)))))] ++ pl85) ∧ va_S A s.heap H locs ∧ lv_has ls 6 [(0, .ref h0), (1, .int (u6_ 0)), (2, .int (u6_ 1)), (3, .int (u6_ 2)), (4, .int z28), (5, .int z42)] ∧ (zRd h22 f31 pl85) ∧ (zPs k41 f36 pl85) ∧ (zOt pl0 pl85) := ⟨hP, hD, hS, lv_sub hl [0, 1, 2, 3, 4, 5] rfl, by assumption, by assumption, by first | assumption | exact zOt_rf⟩
            exact hJ123 H locs ls (fun _ => 0) (fun _ => 0) (fun _ => (fun _ => 0)) (fun _ => (fun _ => 0)) ⟨(fun _ => (fun _ => none)), pl85, hc⟩
          · skip
            have b_ := zF_ne rfl zk_10 c_
            refine lv_iload_n hx hb dX1_works_92 rfl (lv_at hl 1 rfl) ?_
            refine lv_if_le (tgt := 123) hx hb dX1_works_93 (by decide) (fun c_ => ?_) (fun c_ => ?_)
            · skip
              have b_ := zT_le rfl zk_0 c_
              have hc : va_P (dC, dI) vwCl ([(h0, .inr (1, mX1 h1 h6 h13 h21 h36 h37 h39 h40 h41 h42 h43 h44 h45 h46 h47 h48 v0)), (h13, .inr (7, mX7 h14 h15 h16 h17 h18 h19 h20 v13)), (h20, zi k20 270 f20), (h39, zi k39 40 f39), (h40, zi k40 40 (a6_ 0)), (h36, .inl (k36, 40, .inr (.inr (.inr (.inr f36))))), (h41, zi k41 40 f41), (h31, .inl (k31, 400, .inr (.inr (.inr (.inr f31)))))] ++ pl85) H ∧ va_D A ([(h0, .inr (1, mX1 h1 h6 h13 h21 h36 h37 h39 h40 h41 h42 h43 h44 h45 h46 h47 h48 v0)), (h13, .inr (7, mX7 h14 h15 h16 h17 h18 h19 h20 v13)), (h20, zi k20 270 f20), (h39, zi k39 40 f39), (h40, zi k40 40 (a6_ 0)), (h36, .inl (k36, 40, .inr (.inr (.inr (.inr f36))))), (h41, zi k41 40 f41), (h31, .inl (k31, 400, .inr (.inr (.inr (.inr f31)))))] ++ pl85) ∧ va_S A s.heap H locs ∧ lv_has ls 6 [(0, .ref h0), (1, .int (u6_ 0)), (2, .int (u6_ 1)), (3, .int (u6_ 2)), (4, .int z28), (5, .int z42)] ∧ (zRd h22 f31 pl85) ∧ (zPs k41 f36 pl85) ∧ (zOt pl0 pl85) := ⟨hP, hD, hS, lv_sub hl [0, 1, 2, 3, 4, 5] rfl, by assumption, by assumption, by first | assumption | exact zOt_rf⟩
              exact hJ123 H locs ls (fun _ => 0) (fun _ => 0) (fun _ => (fun _ => 0)) (fun _ => (fun _ => 0)) ⟨(fun _ => (fun _ => none)), pl85, hc⟩
            · skip
              have b_ := zF_le rfl zk_0 c_
              refine lv_aload_n hx hb dX1_works_96 rfl (lv_at hl 0 rfl) ?_
              refine va_get (D := (dC, dI)) (ci := 1) (v := .ref h40) (C := RX1) (T := TX1) (N := 17) hx hb hG zuX1 hown hK hP 0 rfl rfl 7 (by decide) (hG _ zv511) (fun _ h9 => h9) rfl dX1_works_97 ?_
              refine lv_iload_n hx hb dX1_works_100 rfl (lv_at hl 1 rfl) ?_
              refine lv_iconst (v := 1) hx hb dX1_works_101 (by decide) ?_
              refine lv_isub hx hb dX1_works_102 ?_
              refine lv_topi (fun z102 e_z102 => ?_)
              have b_ := zsub rfl zk_1 e_z102 (by omega) (by omega)
              refine lv_aload_n hx hb dX1_works_103 rfl (lv_at hl 0 rfl) ?_
              refine va_get (D := (dC, dI)) (ci := 1) (v := .ref h40) (C := RX1) (T := TX1) (N := 17) hx hb hG zuX1 hown hK hP 0 rfl rfl 7 (by decide) (hG _ zv511) (fun _ h9 => h9) rfl dX1_works_104 ?_
              refine lv_iload_n hx hb dX1_works_107 rfl (lv_at hl 1 rfl) ?_
              refine lv_iconst (v := 1) hx hb dX1_works_108 (by decide) ?_
              refine lv_isub hx hb dX1_works_109 ?_
              refine lv_topi (fun z109 e_z109 => ?_)
              have b_ := zsub rfl zk_1 e_z109 (by omega) (by omega)
              refine va_zald hx hb hK hP 4 2 rfl rfl (zin_lit ⟨by omega, by omega⟩) dX1_works_110 ?_
              refine lv_topi (fun z110 e_z110 => ?_)
              refine zcutW (fun H locs ls u119_ w119_ a119_ b119_ => ∃ (q119_ : Nat → Nat → Option Nat) (pl119 : va_W), va_P (dC, dI) vwCl ([(h0, .inr (1, mX1 h1 h6 h13 h21 h36 h37 h39 h40 h41 h42 h43 h44 h45 h46 h47 h48 v0)), (h13, .inr (7, mX7 h14 h15 h16 h17 h18 h19 h20 v13)), (h20, zi k20 270 f20), (h39, zi k39 40 f39), (h40, zi k40 40 (a6_ 0)), (h36, .inl (k36, 40, .inr (.inr (.inr (.inr f36))))), (h41, zi k41 40 f41), (h31, .inl (k31, 400, .inr (.inr (.inr (.inr f31)))))] ++ pl119) H ∧ va_D A ([(h0, .inr (1, mX1 h1 h6 h13 h21 h36 h37 h39 h40 h41 h42 h43 h44 h45 h46 h47 h48 v0)), (h13, .inr (7, mX7 h14 h15 h16 h17 h18 h19 h20 v13)), (h20, zi k20 270 f20), (h39, zi k39 40 f39), (h40, zi k40 40 (a6_ 0)), (h36, .inl (k36, 40, .inr (.inr (.inr (.inr f36))))), (h41, zi k41 40 f41), (h31, .inl (k31, 400, .inr (.inr (.inr (.inr f31)))))] ++ pl119) ∧ va_S A s.heap H locs ∧ lv_has ls 6 [(0, .ref h0), (1, .int (u6_ 0)), (2, .int (u6_ 1)), (3, .int (u6_ 2)), (4, .int z28), (5, .int z42)] ∧ (0 ≤ (u119_ 0).toInt ∧ (u119_ 0).toInt ≤ 1) ∧ (zRd h22 f31 pl119) ∧ (zPs k41 f36 pl119) ∧ (zOt pl0 pl119)) (fun ls u119_ w119_ => F0 m 119 ls [.int (u119_ 0), .int z102, .ref h40]) 0 0 ?_ (fun hJ119 => ?_)
              · skip
                intro H locs ls u119_ w119_ a119_ b119_ hc
                obtain ⟨q119_, pl119, hP, hD, hS, hl, b_, hI119_0, hI119_1, hI119_2⟩ := hc
                refine va_zast hx hb hK hP hD hS 4 2 rfl rfl (zin_lit ⟨by omega, by omega⟩) dX1_works_119 (fun H locs hP hD hS => ?_)
                obtain ⟨f_119, e_f_119⟩ : ∃ z : Nat → Int32, z = upd (a6_ 0) (z102 : Int32).toNatClampNeg (vp_nar .boolean (u119_ 0)) := ⟨_, rfl⟩
                have hP : va_P (dC, dI) vwCl ([(h0, .inr (1, mX1 h1 h6 h13 h21 h36 h37 h39 h40 h41 h42 h43 h44 h45 h46 h47 h48 v0)), (h13, .inr (7, mX7 h14 h15 h16 h17 h18 h19 h20 v13)), (h20, zi k20 270 f20), (h39, zi k39 40 f39), (h40, zi k40 40 f_119), (h36, .inl (k36, 40, .inr (.inr (.inr (.inr f36))))), (h41, zi k41 40 f41), (h31, .inl (k31, 400, .inr (.inr (.inr (.inr f31)))))] ++ pl119) H := by rw [e_f_119]; exact hP
                have hD : va_D A ([(h0, .inr (1, mX1 h1 h6 h13 h21 h36 h37 h39 h40 h41 h42 h43 h44 h45 h46 h47 h48 v0)), (h13, .inr (7, mX7 h14 h15 h16 h17 h18 h19 h20 v13)), (h20, zi k20 270 f20), (h39, zi k39 40 f39), (h40, zi k40 40 f_119), (h36, .inl (k36, 40, .inr (.inr (.inr (.inr f36))))), (h41, zi k41 40 f41), (h31, .inl (k31, 400, .inr (.inr (.inr (.inr f31)))))] ++ pl119) := by rw [e_f_119]; exact hD
                refine lv_goto (tgt := 200) hx hb dX1_works_120 (by decide) ?_
                obtain ⟨z200, e_z200⟩ : ∃ z : Int32, z = (u6_ 2) + Int32.ofInt 1 := ⟨_, rfl⟩
                have b_ := zadd (x := (u6_ 2)) (y := Int32.ofInt 1) rfl (show (Int32.ofInt 1).toInt = 1 from by decide) e_z200 (by omega) (by omega)
                refine lv_iinc (v := z200) (lv' := [(3, .int z200), (0, .ref h0), (1, .int (u6_ 0)), (2, .int (u6_ 1)), (4, .int z28), (5, .int z42)]) hx hb dX1_works_200 hl (k := 3) rfl e_z200.symm (by decide) rfl (fun ls hl => ?_)
                refine lv_goto (tgt := 6) hx hb dX1_works_203 (by decide) ?_
                have hc : va_P (dC, dI) vwCl ([(h0, .inr (1, mX1 h1 h6 h13 h21 h36 h37 h39 h40 h41 h42 h43 h44 h45 h46 h47 h48 v0)), (h13, .inr (7, mX7 h14 h15 h16 h17 h18 h19 h20 v13)), (h20, zi k20 270 f20), (h39, zi k39 40 f39), (h40, zi k40 40 f_119), (h36, .inl (k36, 40, .inr (.inr (.inr (.inr f36))))), (h41, zi k41 40 f41), (h31, .inl (k31, 400, .inr (.inr (.inr (.inr f31)))))] ++ pl119) H ∧ va_D A ([(h0, .inr (1, mX1 h1 h6 h13 h21 h36 h37 h39 h40 h41 h42 h43 h44 h45 h46 h47 h48 v0)), (h13, .inr (7, mX7 h14 h15 h16 h17 h18 h19 h20 v13)), (h20, zi k20 270 f20), (h39, zi k39 40 f39), (h40, zi k40 40 f_119), (h36, .inl (k36, 40, .inr (.inr (.inr (.inr f36))))), (h41, zi k41 40 f41), (h31, .inl (k31, 400, .inr (.inr (.inr (.inr f31)))))] ++ pl119) ∧ va_S A s.heap H locs ∧ lv_has ls 6 [(0, .ref h0), (1, .int (u6_ 0)), (2, .int (u6_ 1)), (3, .int z200)] ∧ (0 ≤ (u6_ 0).toInt ∧ (u6_ 0).toInt ≤ 40) ∧ ((-1) ≤ (u6_ 1).toInt ∧ (u6_ 1).toInt ≤ 39) ∧ (0 ≤ z200.toInt ∧ z200.toInt ≤ 299) ∧ (zRd h22 f31 pl119) ∧ (zPs k41 f36 pl119) ∧ (zOt pl0 pl119) := ⟨hP, hD, hS, lv_sub hl [1, 2, 3, 0] rfl, (by first | with_reducible assumption | exact ⟨by omega, by omega⟩), (by first | with_reducible assumption | exact ⟨by omega, by omega⟩), (by first | with_reducible assumption | exact ⟨by omega, by omega⟩), by assumption, by assumption, by first | assumption | exact zOt_rf⟩
                exact hJ6 H locs ls (fun i => ([(u6_ 0), (u6_ 1), z200] : List (Int32)).getD i 0) (fun _ => 0) (fun i => ([f_119] : List (Nat → Int32)).getD i (fun _ => 0)) (fun _ => (fun _ => 0)) ⟨(fun _ => (fun _ => none)), pl119, hc⟩ (show (299 - z200.toInt).toNat < (299 - (u6_ 2).toInt).toNat from by omega)
              · skip
                have b_ : -2147483648 ≤ z110.toInt ∧ z110.toInt ≤ 2147483647 := ⟨zlo _, zhi _⟩
                refine lv_if_ne (tgt := 118) hx hb dX1_works_111 (by decide) (fun c_ => ?_) (fun c_ => ?_)
                · skip
                  have b_ := zT_ne rfl zk_0 c_
                  refine lv_iconst (v := 0) hx hb dX1_works_118 (by decide) ?_
                  have hc : va_P (dC, dI) vwCl ([(h0, .inr (1, mX1 h1 h6 h13 h21 h36 h37 h39 h40 h41 h42 h43 h44 h45 h46 h47 h48 v0)), (h13, .inr (7, mX7 h14 h15 h16 h17 h18 h19 h20 v13)), (h20, zi k20 270 f20), (h39, zi k39 40 f39), (h40, zi k40 40 (a6_ 0)), (h36, .inl (k36, 40, .inr (.inr (.inr (.inr f36))))), (h41, zi k41 40 f41), (h31, .inl (k31, 400, .inr (.inr (.inr (.inr f31)))))] ++ pl85) H ∧ va_D A ([(h0, .inr (1, mX1 h1 h6 h13 h21 h36 h37 h39 h40 h41 h42 h43 h44 h45 h46 h47 h48 v0)), (h13, .inr (7, mX7 h14 h15 h16 h17 h18 h19 h20 v13)), (h20, zi k20 270 f20), (h39, zi k39 40 f39), (h40, zi k40 40 (a6_ 0)), (h36, .inl (k36, 40, .inr (.inr (.inr (.inr f36))))), (h41, zi k41 40 f41), (h31, .inl (k31, 400, .inr (.inr (.inr (.inr f31)))))] ++ pl85) ∧ va_S A s.heap H locs ∧ lv_has ls 6 [(0, .ref h0), (1, .int (u6_ 0)), (2, .int (u6_ 1)), (3, .int (u6_ 2)), (4, .int z28), (5, .int z42)] ∧ (0 ≤ (0 : Int32).toInt ∧ (0 : Int32).toInt ≤ 1) ∧ (zRd h22 f31 pl85) ∧ (zPs k41 f36 pl85) ∧ (zOt pl0 pl85) := ⟨hP, hD, hS, lv_sub hl [0, 1, 2, 3, 4, 5] rfl, (by first | with_reducible assumption | exact ⟨by omega, by omega⟩), by assumption, by assumption, by first | assumption | exact zOt_rf⟩
                  exact hJ119 H locs ls (fun i => ([0] : List (Int32)).getD i 0) (fun _ => 0) (fun _ => (fun _ => 0)) (fun _ => (fun _ => 0)) ⟨(fun _ => (fun _ => none)), pl85, hc⟩
                · skip
                  have b_ := zF_ne rfl zk_0 c_
                  refine lv_iconst (v := 1) hx hb dX1_works_114 (by decide) ?_
                  refine lv_goto (tgt := 119) hx hb dX1_works_115 (by decide) ?_
                  have hc : va_P (dC, dI) vwCl ([(h0, .inr (1, mX1 h1 h6 h13 h21 h36 h37 h39 h40 h41 h42 h43 h44 h45 h46 h47 h48 v0)), (h13, .inr (7, mX7 h14 h15 h16 h17 h18 h19 h20 v13)), (h20, zi k20 270 f20), (h39, zi k39 40 f39), (h40, zi k40 40 (a6_ 0)), (h36, .inl (k36, 40, .inr (.inr (.inr (.inr f36))))), (h41, zi k41 40 f41), (h31, .inl (k31, 400, .inr (.inr (.inr (.inr f31)))))] ++ pl85) H ∧ va_D A ([(h0, .inr (1, mX1 h1 h6 h13 h21 h36 h37 h39 h40 h41 h42 h43 h44 h45 h46 h47 h48 v0)), (h13, .inr (7, mX7 h14 h15 h16 h17 h18 h19 h20 v13)), (h20, zi k20 270 f20), (h39, zi k39 40 f39), (h40, zi k40 40 (a6_ 0)), (h36, .inl (k36, 40, .inr (.inr (.inr (.inr f36))))), (h41, zi k41 40 f41), (h31, .inl (k31, 400, .inr (.inr (.inr (.inr f31)))))] ++ pl85) ∧ va_S A s.heap H locs ∧ lv_has ls 6 [(0, .ref h0), (1, .int (u6_ 0)), (2, .int (u6_ 1)), (3, .int (u6_ 2)), (4, .int z28), (5, .int z42)] ∧ (0 ≤ (1 : Int32).toInt ∧ (1 : Int32).toInt ≤ 1) ∧ (zRd h22 f31 pl85) ∧ (zPs k41 f36 pl85) ∧ (zOt pl0 pl85) := ⟨hP, hD, hS, lv_sub hl [0, 1, 2, 3, 4, 5] rfl, (by first | with_reducible assumption | exact ⟨by omega, by omega⟩), by assumption, by assumption, by first | assumption | exact zOt_rf⟩
                  exact hJ119 H locs ls (fun i => ([1] : List (Int32)).getD i 0) (fun _ => 0) (fun _ => (fun _ => 0)) (fun _ => (fun _ => 0)) ⟨(fun _ => (fun _ => none)), pl85, hc⟩
      · skip
        refine lv_icmp_gt (tgt := 85) hx hb dX1_works_48 (by decide) (fun c_ => ?_) (fun c_ => ?_)
        · skip
          have b_ := zT_gt rfl zk_4 c_
          have hc : va_P (dC, dI) vwCl ([(h0, .inr (1, mX1 h1 h6 h13 h21 h36 h37 h39 h40 h41 h42 h43 h44 h45 h46 h47 h48 v0)), (h13, .inr (7, mX7 h14 h15 h16 h17 h18 h19 h20 v13)), (h20, zi k20 270 f20), (h39, zi k39 40 f39), (h40, zi k40 40 (a6_ 0)), (h36, .inl (k36, 40, .inr (.inr (.inr (.inr f36))))), (h41, zi k41 40 f41), (h31, .inl (k31, 400, .inr (.inr (.inr (.inr f31)))))] ++ pl6) H ∧ va_D A ([(h0, .inr (1, mX1 h1 h6 h13 h21 h36 h37 h39 h40 h41 h42 h43 h44 h45 h46 h47 h48 v0)), (h13, .inr (7, mX7 h14 h15 h16 h17 h18 h19 h20 v13)), (h20, zi k20 270 f20), (h39, zi k39 40 f39), (h40, zi k40 40 (a6_ 0)), (h36, .inl (k36, 40, .inr (.inr (.inr (.inr f36))))), (h41, zi k41 40 f41), (h31, .inl (k31, 400, .inr (.inr (.inr (.inr f31)))))] ++ pl6) ∧ va_S A s.heap H locs ∧ lv_has ls 6 [(0, .ref h0), (1, .int (u6_ 0)), (2, .int (u6_ 1)), (3, .int (u6_ 2)), (4, .int z28), (5, .int z42)] ∧ (0 ≤ z28.toInt ∧ z28.toInt ≤ 12) ∧ (zRd h22 f31 pl6) ∧ (zPs k41 f36 pl6) ∧ (zOt pl0 pl6) := ⟨hP, hD, hS, lv_sub hl [2, 3, 4, 5, 1, 0] rfl, (by first | with_reducible assumption | exact ⟨by omega, by omega⟩), by assumption, by assumption, by first | assumption | exact zOt_rf⟩
          exact hJ85 H locs ls (fun _ => 0) (fun _ => 0) (fun _ => (fun _ => 0)) (fun _ => (fun _ => 0)) ⟨(fun _ => (fun _ => none)), pl6, hc⟩
        · skip
          have b_ := zF_gt rfl zk_4 c_
          refine lv_iload_n hx hb dX1_works_51 rfl (lv_at hl 3 rfl) ?_
          refine lv_bipush (v := 40) hx hb dX1_works_52 (by decide) ?_
          refine lv_icmp_ge (tgt := 85) hx hb dX1_works_54 (by decide) (fun c_ => ?_) (fun c_ => ?_)
          · skip
            have b_ := zT_ge rfl zk_40 c_
            have hc : va_P (dC, dI) vwCl ([(h0, .inr (1, mX1 h1 h6 h13 h21 h36 h37 h39 h40 h41 h42 h43 h44 h45 h46 h47 h48 v0)), (h13, .inr (7, mX7 h14 h15 h16 h17 h18 h19 h20 v13)), (h20, zi k20 270 f20), (h39, zi k39 40 f39), (h40, zi k40 40 (a6_ 0)), (h36, .inl (k36, 40, .inr (.inr (.inr (.inr f36))))), (h41, zi k41 40 f41), (h31, .inl (k31, 400, .inr (.inr (.inr (.inr f31)))))] ++ pl6) H ∧ va_D A ([(h0, .inr (1, mX1 h1 h6 h13 h21 h36 h37 h39 h40 h41 h42 h43 h44 h45 h46 h47 h48 v0)), (h13, .inr (7, mX7 h14 h15 h16 h17 h18 h19 h20 v13)), (h20, zi k20 270 f20), (h39, zi k39 40 f39), (h40, zi k40 40 (a6_ 0)), (h36, .inl (k36, 40, .inr (.inr (.inr (.inr f36))))), (h41, zi k41 40 f41), (h31, .inl (k31, 400, .inr (.inr (.inr (.inr f31)))))] ++ pl6) ∧ va_S A s.heap H locs ∧ lv_has ls 6 [(0, .ref h0), (1, .int (u6_ 0)), (2, .int (u6_ 1)), (3, .int (u6_ 2)), (4, .int z28), (5, .int z42)] ∧ (0 ≤ z28.toInt ∧ z28.toInt ≤ 12) ∧ (zRd h22 f31 pl6) ∧ (zPs k41 f36 pl6) ∧ (zOt pl0 pl6) := ⟨hP, hD, hS, lv_sub hl [2, 3, 4, 5, 1, 0] rfl, (by first | with_reducible assumption | exact ⟨by omega, by omega⟩), by assumption, by assumption, by first | assumption | exact zOt_rf⟩
            exact hJ85 H locs ls (fun _ => 0) (fun _ => 0) (fun _ => (fun _ => 0)) (fun _ => (fun _ => 0)) ⟨(fun _ => (fun _ => none)), pl6, hc⟩
          · skip
            have b_ := zF_ge rfl zk_40 c_
            refine lv_iload hx hb dX1_works_57 (lv_at hl 0 rfl) ?_
            refine lv_bipush (v := 40) hx hb dX1_works_59 (by decide) ?_
            refine lv_icmp_ge (tgt := 85) hx hb dX1_works_61 (by decide) (fun c_ => ?_) (fun c_ => ?_)
            · skip
              have b_ := zT_ge rfl zk_40 c_
              have hc : va_P (dC, dI) vwCl ([(h0, .inr (1, mX1 h1 h6 h13 h21 h36 h37 h39 h40 h41 h42 h43 h44 h45 h46 h47 h48 v0)), (h13, .inr (7, mX7 h14 h15 h16 h17 h18 h19 h20 v13)), (h20, zi k20 270 f20), (h39, zi k39 40 f39), (h40, zi k40 40 (a6_ 0)), (h36, .inl (k36, 40, .inr (.inr (.inr (.inr f36))))), (h41, zi k41 40 f41), (h31, .inl (k31, 400, .inr (.inr (.inr (.inr f31)))))] ++ pl6) H ∧ va_D A ([(h0, .inr (1, mX1 h1 h6 h13 h21 h36 h37 h39 h40 h41 h42 h43 h44 h45 h46 h47 h48 v0)), (h13, .inr (7, mX7 h14 h15 h16 h17 h18 h19 h20 v13)), (h20, zi k20 270 f20), (h39, zi k39 40 f39), (h40, zi k40 40 (a6_ 0)), (h36, .inl (k36, 40, .inr (.inr (.inr (.inr f36))))), (h41, zi k41 40 f41), (h31, .inl (k31, 400, .inr (.inr (.inr (.inr f31)))))] ++ pl6) ∧ va_S A s.heap H locs ∧ lv_has ls 6 [(0, .ref h0), (1, .int (u6_ 0)), (2, .int (u6_ 1)), (3, .int (u6_ 2)), (4, .int z28), (5, .int z42)] ∧ (0 ≤ z28.toInt ∧ z28.toInt ≤ 12) ∧ (zRd h22 f31 pl6) ∧ (zPs k41 f36 pl6) ∧ (zOt pl0 pl6) := ⟨hP, hD, hS, lv_sub hl [2, 3, 4, 5, 1, 0] rfl, (by first | with_reducible assumption | exact ⟨by omega, by omega⟩), by assumption, by assumption, by first | assumption | exact zOt_rf⟩
              exact hJ85 H locs ls (fun _ => 0) (fun _ => 0) (fun _ => (fun _ => 0)) (fun _ => (fun _ => 0)) ⟨(fun _ => (fun _ => none)), pl6, hc⟩
            · skip
              have b_ := zF_ge rfl zk_40 c_
              refine lv_iload hx hb dX1_works_64 (lv_at hl 0 rfl) ?_
              refine lv_istore_n (lv' := [(2, .int z42), (5, .int z42), (4, .int z28), (0, .ref h0), (1, .int (u6_ 0)), (3, .int (u6_ 2))]) hx hb dX1_works_66 rfl hl (by decide) rfl (fun ls hl => ?_)
              refine lv_aload_n hx hb dX1_works_67 rfl (lv_at hl 3 rfl) ?_
              refine va_get (D := (dC, dI)) (ci := 1) (v := .ref h40) (C := RX1) (T := TX1) (N := 17) hx hb hG zuX1 hown hK hP 0 rfl rfl 7 (by decide) (hG _ zv511) (fun _ h9 => h9) rfl dX1_works_68 ?_
              refine lv_iload_n hx hb dX1_works_71 rfl (lv_at hl 4 rfl) ?_
              refine lv_aload_n hx hb dX1_works_72 rfl (lv_at hl 3 rfl) ?_
              refine va_get (D := (dC, dI)) (ci := 1) (v := .ref h39) (C := RX1) (T := TX1) (N := 17) hx hb hG zuX1 hown hK hP 0 rfl rfl 6 (by decide) (hG _ zv510) (fun _ h9 => h9) rfl dX1_works_73 ?_
              refine lv_iload_n hx hb dX1_works_76 rfl (lv_at hl 0 rfl) ?_
              refine va_zald hx hb hK hP 3 1 rfl rfl (zin_lit ⟨by omega, by omega⟩) dX1_works_77 ?_
              refine lv_topi (fun z77 e_z77 => ?_)
              refine va_zast hx hb hK hP hD hS 4 2 rfl rfl (zin_lit ⟨by omega, by omega⟩) dX1_works_78 (fun H locs hP hD hS => ?_)
              obtain ⟨f_78, e_f_78⟩ : ∃ z : Nat → Int32, z = upd (a6_ 0) ((u6_ 0) : Int32).toNatClampNeg (vp_nar .boolean z77) := ⟨_, rfl⟩
              have hP : va_P (dC, dI) vwCl ([(h0, .inr (1, mX1 h1 h6 h13 h21 h36 h37 h39 h40 h41 h42 h43 h44 h45 h46 h47 h48 v0)), (h13, .inr (7, mX7 h14 h15 h16 h17 h18 h19 h20 v13)), (h20, zi k20 270 f20), (h39, zi k39 40 f39), (h40, zi k40 40 f_78), (h36, .inl (k36, 40, .inr (.inr (.inr (.inr f36))))), (h41, zi k41 40 f41), (h31, .inl (k31, 400, .inr (.inr (.inr (.inr f31)))))] ++ pl6) H := by rw [e_f_78]; exact hP
              have hD : va_D A ([(h0, .inr (1, mX1 h1 h6 h13 h21 h36 h37 h39 h40 h41 h42 h43 h44 h45 h46 h47 h48 v0)), (h13, .inr (7, mX7 h14 h15 h16 h17 h18 h19 h20 v13)), (h20, zi k20 270 f20), (h39, zi k39 40 f39), (h40, zi k40 40 f_78), (h36, .inl (k36, 40, .inr (.inr (.inr (.inr f36))))), (h41, zi k41 40 f41), (h31, .inl (k31, 400, .inr (.inr (.inr (.inr f31)))))] ++ pl6) := by rw [e_f_78]; exact hD
              obtain ⟨z79, e_z79⟩ : ∃ z : Int32, z = (u6_ 0) + Int32.ofInt 1 := ⟨_, rfl⟩
              have b_ := zadd (x := (u6_ 0)) (y := Int32.ofInt 1) rfl (show (Int32.ofInt 1).toInt = 1 from by decide) e_z79 (by omega) (by omega)
              refine lv_iinc (v := z79) (lv' := [(1, .int z79), (2, .int z42), (5, .int z42), (4, .int z28), (0, .ref h0), (3, .int (u6_ 2))]) hx hb dX1_works_79 hl (k := 4) rfl e_z79.symm (by decide) rfl (fun ls hl => ?_)
              refine lv_goto (tgt := 200) hx hb dX1_works_82 (by decide) ?_
              obtain ⟨z200, e_z200⟩ : ∃ z : Int32, z = (u6_ 2) + Int32.ofInt 1 := ⟨_, rfl⟩
              have b_ := zadd (x := (u6_ 2)) (y := Int32.ofInt 1) rfl (show (Int32.ofInt 1).toInt = 1 from by decide) e_z200 (by omega) (by omega)
              refine lv_iinc (v := z200) (lv' := [(3, .int z200), (1, .int z79), (2, .int z42), (5, .int z42), (4, .int z28), (0, .ref h0)]) hx hb dX1_works_200 hl (k := 5) rfl e_z200.symm (by decide) rfl (fun ls hl => ?_)
              refine lv_goto (tgt := 6) hx hb dX1_works_203 (by decide) ?_
              have hc : va_P (dC, dI) vwCl ([(h0, .inr (1, mX1 h1 h6 h13 h21 h36 h37 h39 h40 h41 h42 h43 h44 h45 h46 h47 h48 v0)), (h13, .inr (7, mX7 h14 h15 h16 h17 h18 h19 h20 v13)), (h20, zi k20 270 f20), (h39, zi k39 40 f39), (h40, zi k40 40 f_78), (h36, .inl (k36, 40, .inr (.inr (.inr (.inr f36))))), (h41, zi k41 40 f41), (h31, .inl (k31, 400, .inr (.inr (.inr (.inr f31)))))] ++ pl6) H ∧ va_D A ([(h0, .inr (1, mX1 h1 h6 h13 h21 h36 h37 h39 h40 h41 h42 h43 h44 h45 h46 h47 h48 v0)), (h13, .inr (7, mX7 h14 h15 h16 h17 h18 h19 h20 v13)), (h20, zi k20 270 f20), (h39, zi k39 40 f39), (h40, zi k40 40 f_78), (h36, .inl (k36, 40, .inr (.inr (.inr (.inr f36))))), (h41, zi k41 40 f41), (h31, .inl (k31, 400, .inr (.inr (.inr (.inr f31)))))] ++ pl6) ∧ va_S A s.heap H locs ∧ lv_has ls 6 [(0, .ref h0), (1, .int z79), (2, .int z42), (3, .int z200)] ∧ (0 ≤ z79.toInt ∧ z79.toInt ≤ 40) ∧ ((-1) ≤ z42.toInt ∧ z42.toInt ≤ 39) ∧ (0 ≤ z200.toInt ∧ z200.toInt ≤ 299) ∧ (zRd h22 f31 pl6) ∧ (zPs k41 f36 pl6) ∧ (zOt pl0 pl6) := ⟨hP, hD, hS, lv_sub hl [5, 1, 2, 0] rfl, (by first | with_reducible assumption | exact ⟨by omega, by omega⟩), (by first | with_reducible assumption | exact ⟨by omega, by omega⟩), (by first | with_reducible assumption | exact ⟨by omega, by omega⟩), by assumption, by assumption, by first | assumption | exact zOt_rf⟩
              exact hJ6 H locs ls (fun i => ([z79, z42, z200] : List (Int32)).getD i 0) (fun _ => 0) (fun i => ([f_78] : List (Nat → Int32)).getD i (fun _ => 0)) (fun _ => (fun _ => 0)) ⟨(fun _ => (fun _ => none)), pl6, hc⟩ (show (299 - z200.toInt).toNat < (299 - (u6_ 2).toInt).toNat from by omega)
  · skip
    have hc : va_P (dC, dI) vwCl ([(h0, .inr (1, mX1 h1 h6 h13 h21 h36 h37 h39 h40 h41 h42 h43 h44 h45 h46 h47 h48 v0)), (h13, .inr (7, mX7 h14 h15 h16 h17 h18 h19 h20 v13)), (h20, zi k20 270 f20), (h39, zi k39 40 f39), (h40, zi k40 40 f40), (h36, .inl (k36, 40, .inr (.inr (.inr (.inr f36))))), (h41, zi k41 40 f41), (h31, .inl (k31, 400, .inr (.inr (.inr (.inr f31)))))] ++ pl0) s.heap ∧ va_D A ([(h0, .inr (1, mX1 h1 h6 h13 h21 h36 h37 h39 h40 h41 h42 h43 h44 h45 h46 h47 h48 v0)), (h13, .inr (7, mX7 h14 h15 h16 h17 h18 h19 h20 v13)), (h20, zi k20 270 f20), (h39, zi k39 40 f39), (h40, zi k40 40 f40), (h36, .inl (k36, 40, .inr (.inr (.inr (.inr f36))))), (h41, zi k41 40 f41), (h31, .inl (k31, 400, .inr (.inr (.inr (.inr f31)))))] ++ pl0) ∧ va_S A s.heap s.heap [] ∧ lv_has ls 6 [(0, .ref h0), (1, .int 0), (2, .int (-1)), (3, .int 0)] ∧ (0 ≤ (0 : Int32).toInt ∧ (0 : Int32).toInt ≤ 40) ∧ ((-1) ≤ ((-1) : Int32).toInt ∧ ((-1) : Int32).toInt ≤ 39) ∧ (0 ≤ (0 : Int32).toInt ∧ (0 : Int32).toInt ≤ 299) ∧ (zRd h22 f31 pl0) ∧ (zPs k41 f36 pl0) ∧ (zOt pl0 pl0) := ⟨hP, hD, hS, lv_sub hl [3, 2, 1, 0] rfl, (by first | with_reducible assumption | exact ⟨by omega, by omega⟩), (by first | with_reducible assumption | exact ⟨by omega, by omega⟩), (by first | with_reducible assumption | exact ⟨by omega, by omega⟩), by assumption, by assumption, by first | assumption | exact zOt_rf⟩
    exact hJ6 s.heap [] ls (fun i => ([0, (-1), 0] : List (Int32)).getD i 0) (fun _ => 0) (fun i => ([f40] : List (Nat → Int32)).getD i (fun _ => 0)) (fun _ => (fun _ => 0)) ⟨(fun _ => (fun _ => none)), pl0, hc⟩
set_option maxHeartbeats 8000000 in
set_option maxRecDepth 100000 in
theorem p16_sX5_fullest_0 (l : Launch) (dC : Nat → ClassId) (dI : Nat → Nat → Nat) (adK adV : Nat → Nat) (h0 : Nat) (h1 : Nat) (k1 : ClassId) (sz : Nat) (f1 : Nat → Int32) : Met l yX5_fullest (zw yX5_fullest cX5_fullest 6 (some .int)) { frames := 2, cells := 0, slots := 0, locals := 44 } (zPc dC dI adK adV [.ref h0] sz [(h0, .inr (5, mX5 h1)), (h1, zi k1 26 f1)] [(k1, .int)]) (va_Qi (fun (r : Int32) (u : Nat → Int32) => ((-1) ≤ r.toInt ∧ r.toInt ≤ 832)) (fun (u : Nat → Int32) (t : State) => ∃ (ww : Nat → Int64) (aa : Nat → Nat → Int32) (bb : Nat → Nat → Int64), va_P (dC, dI) vwCl [(h0, .inr (5, mX5 h1)), (h1, zi k1 26 f1)] t.heap ∧ va_K (dC, dI) vwCl [(k1, .int)] t ∧ va_D (va_A [(h0, .inr (5, mX5 h1)), (h1, zi k1 26 f1)] sz) [(h0, .inr (5, mX5 h1)), (h1, zi k1 26 f1)]) (va_A [(h0, .inr (5, mX5 h1)), (h1, zi k1 26 f1)] sz)) 0 0 (va_A [(h0, .inr (5, mX5 h1)), (h1, zi k1 26 f1)] sz) := by
  refine Met.ofW (cc := cX5_fullest) (maxL := 6) (ret := (some .int)) (by decide) rfl ?_
  intro p e s m args below meth c s₁ B hml hv
  obtain ⟨rfl, hsz, hP, hK, hD0, hE, hZ⟩ := hv
  have hx := B.exec
  have hb := B.bytes
  have hr := B.returns
  have hG : ∀ w ∈ zG, w.before _ s = true := fun w h => atoms_spec (ws := (zw yX5_fullest cX5_fullest 6 (some .int))) B.pre w (List.mem_cons_of_mem _ h)
  have hown : s.vm.findClass RX5 = some m.cls := findClass_of_methodNamed B.named
  have hlocks := B.notSynchronized

  subst hsz
  have hD := hD0.self (sz := s.heap.size)
  generalize hAe : va_A [(h0, .inr (5, mX5 h1)), (h1, zi k1 26 f1)] s.heap.size = A at hD hZ ⊢
  have hA : ∀ q : Nat, s.heap.size ≤ q → A q := fun q h => by rw [← hAe]; exact Or.inr h
  have hS : va_S A s.heap s.heap [] := va_S.rf
  have hl := lv_entry ([.ref h0]) (n := 6) (Nat.le_of_ble_eq_true rfl)
  rw [lg_entry_eq]
  generalize (lg_sl ([.ref h0]) ++ List.replicate (6 - (lg_sl ([.ref h0])).length) Slot.unset).toArray = ls at hl ⊢
  have hl : lv_has ls 6 [(0, .ref h0)] := hl
  have b_ := zk_m1
  have b_ := zk_0
  refine lv_iconst (v := (-1)) hx hb dX5_fullest_0 (by decide) ?_
  refine lv_istore_n (lv' := [(1, .int (-1)), (0, .ref h0)]) hx hb dX5_fullest_1 rfl hl (by decide) rfl (fun ls hl => ?_)
  refine lv_iconst (v := 0) hx hb dX5_fullest_2 (by decide) ?_
  refine lv_istore_n (lv' := [(2, .int 0), (1, .int (-1)), (0, .ref h0)]) hx hb dX5_fullest_3 rfl hl (by decide) rfl (fun ls hl => ?_)
  refine lv_aload_n hx hb dX5_fullest_4 rfl (lv_at hl 2 rfl) ?_
  refine lv_iconst (v := 0) hx hb dX5_fullest_5 (by decide) ?_
  have hPc := hP.sub (ws' := [(h0, .inr (5, mX5 h1)), (h1, zi k1 26 f1)]) [0, 1] rfl
  have hDc := hD.sub (ws' := [(h0, .inr (5, mX5 h1)), (h1, zi k1 26 f1)]) [0, 1] (by decide) rfl
  have hKc := hK.sub (tys' := [(k1, .int)]) [0] rfl
  have hFc := va_free (wc := [(h0, .inr (5, mX5 h1)), (h1, zi k1 26 f1)]) hD hS hA [0, 1] rfl
  refine va_calli (va_runV (As := [.int 0]) (rest := []) ⟨hx, hb, hml, hown, hG⟩ (p16_sX5_nextFrom_0 l dC dI adK adV h0 h1 k1 s.heap.size f1 0) (cwV 1 hG (zgV zv1314 zv1315 zv1316 zv139 zv1317) rfl rfl rfl (by decide +kernel) ⟨Nat.le_of_ble_eq_true rfl, Nat.le_of_ble_eq_true rfl⟩) ⟨zPc_blind, va_recv hKc hPc (ci := 5) (q0 := 0) rfl rfl, zPc_pre hPc hKc hDc hE hS hFc hZ⟩ rfl rfl hl.1 rfl (lv_room (Nat.le_of_ble_eq_true rfl)) dX5_fullest_6 ⟨Nat.le_of_ble_eq_true rfl, Nat.le_of_ble_eq_true rfl⟩) hS (fun q _ h => hFc q h) hFc (fun r6_ u6_ t H1 locs ht hvm hw hB hz1 hk1 hS => ?_)
  replace hw : ((-1) ≤ r6_.toInt ∧ r6_.toInt ≤ 832) ∧ (r6_.toInt ≤ 831) ∧ (zNf f1 (0 : Int32).toInt r6_.toInt) := hw
  obtain ⟨b_, hX6_0, hX6_1⟩ := hw
  obtain ⟨w6_, a6_, b6_, hP1, hK1, hD1⟩ := hB
  rw [ht] at hP1
  obtain ⟨hP, hD⟩ := va_join (wr := []) (w1 := [(h0, .inr (5, mX5 h1)), (h1, zi k1 26 f1)]) hP hD [0, 1] [] rfl rfl (by decide) (by decide) hk1 hFc hP1 hD1
  have hP : va_P (dC, dI) vwCl [(h0, .inr (5, mX5 h1)), (h1, zi k1 26 f1)] H1 := hP.sub [0, 1] rfl
  have hD : va_D A [(h0, .inr (5, mX5 h1)), (h1, zi k1 26 f1)] := hD.sub [0, 1] (by decide) rfl
  generalize H1 = H at hP hS ⊢
  clear hz1
  refine lv_istore_n (lv' := [(3, .int r6_), (2, .int 0), (1, .int (-1)), (0, .ref h0)]) hx hb dX5_fullest_9 rfl hl (by decide) rfl (fun ls hl => ?_)
  refine lv_iconst (v := 0) hx hb dX5_fullest_10 (by decide) ?_
  refine lv_istore (lv' := [(4, .int 0), (3, .int r6_), (2, .int 0), (1, .int (-1)), (0, .ref h0)]) hx hb dX5_fullest_11 hl (by decide) rfl (fun ls hl => ?_)
  refine zcutL (fun u13_ => (832 - (u13_ 3).toInt).toNat) (fun H locs ls u13_ w13_ a13_ b13_ => va_P (dC, dI) vwCl [(h0, .inr (5, mX5 h1)), (h1, zi k1 26 f1)] H ∧ va_D A [(h0, .inr (5, mX5 h1)), (h1, zi k1 26 f1)] ∧ va_S A s.heap H locs ∧ lv_has ls 6 [(0, .ref h0), (1, .int (u13_ 0)), (2, .int (u13_ 1)), (3, .int (u13_ 2)), (4, .int (u13_ 3))] ∧ ((-1) ≤ (u13_ 0).toInt ∧ (u13_ 0).toInt ≤ 832) ∧ (0 ≤ (u13_ 1).toInt ∧ (u13_ 1).toInt ≤ 63) ∧ ((-1) ≤ (u13_ 2).toInt ∧ (u13_ 2).toInt ≤ 831) ∧ (0 ≤ (u13_ 3).toInt ∧ (u13_ 3).toInt ≤ 832)) (fun ls u13_ w13_ => F0 m 13 ls []) 0 0 ?_ (fun hJ13 => ?_)
  · skip
    intro H locs ls u13_ w13_ a13_ b13_ hc hJ13
    obtain ⟨hP, hD, hS, hl, b_, b_, b_, b_⟩ := hc
    refine lv_iload hx hb dX5_fullest_13 (lv_at hl 4 rfl) ?_
    refine lv_sipush (v := 832) hx hb dX5_fullest_15 (by decide) ?_
    refine lv_icmp_ge (tgt := 61) hx hb dX5_fullest_18 (by decide) (fun c_ => ?_) (fun c_ => ?_)
    · skip
      have b_ := zT_ge rfl zk_832 c_
      refine lv_iload_n hx hb dX5_fullest_61 rfl (lv_at hl 1 rfl) ?_
      refine W.widen (k := 0) (n := 0) (by decide) (by decide) ?_
      have hpost : ((-1) ≤ (u13_ 0).toInt ∧ (u13_ 0).toInt ≤ 832) := (by first | with_reducible assumption | exact ⟨by omega, by omega⟩)
      have hP9 : va_P (dC, dI) vwCl [(h0, .inr (5, mX5 h1)), (h1, zi k1 26 f1)] H := hP
      have hD9 : va_D A [(h0, .inr (5, mX5 h1)), (h1, zi k1 26 f1)] := hD
      exact W.iret (v := (u13_ 0)) hx hb hr (fun t ht hW => ⟨⟨(u13_ 0), (fun _ => 0), rfl, hpost, (fun _ => 0), (fun _ => (fun _ => 0)), (fun _ => (fun _ => 0)), by rw [ht]; exact hP9, va_K.moved hW.alike hK, hD9⟩, hS.F ht⟩) hS.2.2 dX5_fullest_62
    · skip
      have b_ := zF_ge rfl zk_832 c_
      refine lv_iload_n hx hb dX5_fullest_21 rfl (lv_at hl 3 rfl) ?_
      refine lv_iconst (v := (-1)) hx hb dX5_fullest_22 (by decide) ?_
      refine lv_icmp_eq (tgt := 61) hx hb dX5_fullest_23 (by decide) (fun c_ => ?_) (fun c_ => ?_)
      · skip
        have b_ := zT_eq rfl zk_m1 c_
        refine lv_iload_n hx hb dX5_fullest_61 rfl (lv_at hl 1 rfl) ?_
        refine W.widen (k := 0) (n := 0) (by decide) (by decide) ?_
        have hpost : ((-1) ≤ (u13_ 0).toInt ∧ (u13_ 0).toInt ≤ 832) := (by first | with_reducible assumption | exact ⟨by omega, by omega⟩)
        have hP9 : va_P (dC, dI) vwCl [(h0, .inr (5, mX5 h1)), (h1, zi k1 26 f1)] H := hP
        have hD9 : va_D A [(h0, .inr (5, mX5 h1)), (h1, zi k1 26 f1)] := hD
        exact W.iret (v := (u13_ 0)) hx hb hr (fun t ht hW => ⟨⟨(u13_ 0), (fun _ => 0), rfl, hpost, (fun _ => 0), (fun _ => (fun _ => 0)), (fun _ => (fun _ => 0)), by rw [ht]; exact hP9, va_K.moved hW.alike hK, hD9⟩, hS.F ht⟩) hS.2.2 dX5_fullest_62
      · skip
        have b_ := zF_eq rfl zk_m1 c_
        refine lv_aload_n hx hb dX5_fullest_26 rfl (lv_at hl 0 rfl) ?_
        refine lv_iload_n hx hb dX5_fullest_27 rfl (lv_at hl 3 rfl) ?_
        have hPc := hP.sub (ws' := [(h0, .inr (5, mX5 h1)), (h1, zi k1 26 f1)]) [0, 1] rfl
        have hDc := hD.sub (ws' := [(h0, .inr (5, mX5 h1)), (h1, zi k1 26 f1)]) [0, 1] (by decide) rfl
        have hKc := hK.sub (tys' := [(k1, .int)]) [0] rfl
        have hFc := va_free (wc := [(h0, .inr (5, mX5 h1)), (h1, zi k1 26 f1)]) hD hS hA [0, 1] rfl
        refine va_calli (va_runV (As := [.int (u13_ 2)]) (rest := []) ⟨hx, hb, hml, hown, hG⟩ (sX5_tenFrom_0 l dC dI adK adV h0 h1 k1 H.size f1 (u13_ 2) (show (0 : Int) ≤ ((u13_ 2) : Int32).toInt ∧ ((u13_ 2) : Int32).toInt ≤ (831 : Int) from (by first | with_reducible assumption | exact ⟨by omega, by omega⟩))) (cwV 1 hG (zgV zv1342 zv1344 zv44 zv139 zv1345) rfl rfl rfl (by decide +kernel) ⟨Nat.le_of_ble_eq_true rfl, Nat.le_of_ble_eq_true rfl⟩) ⟨zPc_blind, va_recv hKc hPc (ci := 5) (q0 := 0) rfl rfl, zPc_pre hPc hKc hDc hE hS hFc hZ⟩ rfl rfl hl.1 rfl (lv_room (Nat.le_of_ble_eq_true rfl)) dX5_fullest_28 ⟨Nat.le_of_ble_eq_true rfl, Nat.le_of_ble_eq_true rfl⟩) hS (fun q _ h => hFc q h) hFc (fun r28_ u28_ t H1 locs ht hvm hw hB hz1 hk1 hS => ?_)
        replace hw : (0 ≤ r28_.toInt ∧ r28_.toInt ≤ 1023) := hw
        have b_ := hw
        obtain ⟨w28_, a28_, b28_, hP1, hK1, hD1⟩ := hB
        rw [ht] at hP1
        obtain ⟨hP, hD⟩ := va_join (wr := []) (w1 := [(h0, .inr (5, mX5 h1)), (h1, zi k1 26 f1)]) hP hD [0, 1] [] rfl rfl (by decide) (by decide) hk1 hFc hP1 hD1
        have hP : va_P (dC, dI) vwCl [(h0, .inr (5, mX5 h1)), (h1, zi k1 26 f1)] H1 := hP.sub [0, 1] rfl
        have hD : va_D A [(h0, .inr (5, mX5 h1)), (h1, zi k1 26 f1)] := hD.sub [0, 1] (by decide) rfl
        generalize H1 = H at hP hS ⊢
        clear hz1
        have hPc := hP.sub (ws' := []) [] rfl
        have hDc := hD.sub (ws' := []) [] (by decide) rfl
        have hKc := hK.sub (tys' := []) [] rfl
        have hFc := va_free (wc := []) hD hS hA [] rfl
        refine va_calli (va_runS (As := [.int r28_]) (rest := []) ⟨hx, hb, hml, hown, hG⟩ (sJ6_bitCount_0f7a4_0 l dC dI adK adV H.size r28_) (va_cwS 1 hG (zgS zv1292 zv1293 zv151 zv1294) rfl rfl rfl (by decide +kernel) ⟨Nat.le_of_ble_eq_true rfl, Nat.le_of_ble_eq_true rfl⟩) ⟨zPc_blind, zPc_pre hPc hKc hDc hE hS hFc hZ⟩ rfl rfl hl.1 rfl (lv_room (Nat.le_of_ble_eq_true rfl)) dX5_fullest_31 ⟨Nat.le_of_ble_eq_true rfl, Nat.le_of_ble_eq_true rfl⟩) hS (fun q _ h => hFc q h) hFc (fun r31_ u31_ t H1 locs ht hvm hw hB hz1 hk1 hS => ?_)
        replace hw : (0 ≤ r31_.toInt ∧ r31_.toInt ≤ 63) := hw
        have b_ := hw
        obtain ⟨w31_, a31_, b31_, hP1, hK1, hD1⟩ := hB
        rw [ht] at hP1
        obtain ⟨hP, hD⟩ := va_join (wr := [(h0, .inr (5, mX5 h1)), (h1, zi k1 26 f1)]) (w1 := []) hP hD [] [0, 1] rfl rfl (by decide) (by decide) hk1 hFc hP1 hD1
        have hP : va_P (dC, dI) vwCl [(h0, .inr (5, mX5 h1)), (h1, zi k1 26 f1)] H1 := hP.sub [0, 1] rfl
        have hD : va_D A [(h0, .inr (5, mX5 h1)), (h1, zi k1 26 f1)] := hD.sub [0, 1] (by decide) rfl
        generalize H1 = H at hP hS ⊢
        clear hz1
        refine lv_istore (lv' := [(5, .int r31_), (0, .ref h0), (1, .int (u13_ 0)), (2, .int (u13_ 1)), (3, .int (u13_ 2)), (4, .int (u13_ 3))]) hx hb dX5_fullest_34 hl (by decide) rfl (fun ls hl => ?_)
        refine lv_iload hx hb dX5_fullest_36 (lv_at hl 0 rfl) ?_
        refine lv_iload_n hx hb dX5_fullest_38 rfl (lv_at hl 3 rfl) ?_
        refine zcutW (fun H locs ls u47_ w47_ a47_ b47_ => va_P (dC, dI) vwCl [(h0, .inr (5, mX5 h1)), (h1, zi k1 26 f1)] H ∧ va_D A [(h0, .inr (5, mX5 h1)), (h1, zi k1 26 f1)] ∧ va_S A s.heap H locs ∧ lv_has ls 6 [(0, .ref h0), (1, .int (u47_ 0)), (2, .int (u47_ 1)), (3, .int (u13_ 2)), (4, .int (u13_ 3)), (5, .int r31_)] ∧ ((-1) ≤ (u47_ 0).toInt ∧ (u47_ 0).toInt ≤ 832) ∧ (0 ≤ (u47_ 1).toInt ∧ (u47_ 1).toInt ≤ 63) ∧ (0 ≤ r31_.toInt ∧ r31_.toInt ≤ 63) ∧ (0 ≤ (u13_ 1).toInt ∧ (u13_ 1).toInt ≤ 63)) (fun ls u47_ w47_ => F0 m 47 ls []) 0 0 ?_ (fun hJ47 => ?_)
        · skip
          intro H locs ls u47_ w47_ a47_ b47_ hc
          obtain ⟨hP, hD, hS, hl, b_, b_, b_, b_⟩ := hc
          refine lv_aload_n hx hb dX5_fullest_47 rfl (lv_at hl 0 rfl) ?_
          refine lv_iload_n hx hb dX5_fullest_48 rfl (lv_at hl 3 rfl) ?_
          refine lv_iconst (v := 1) hx hb dX5_fullest_49 (by decide) ?_
          refine lv_iadd hx hb dX5_fullest_50 ?_
          refine lv_topi (fun z50 e_z50 => ?_)
          have b_ := zadd rfl zk_1 e_z50 (by omega) (by omega)
          have hPc := hP.sub (ws' := [(h0, .inr (5, mX5 h1)), (h1, zi k1 26 f1)]) [0, 1] rfl
          have hDc := hD.sub (ws' := [(h0, .inr (5, mX5 h1)), (h1, zi k1 26 f1)]) [0, 1] (by decide) rfl
          have hKc := hK.sub (tys' := [(k1, .int)]) [0] rfl
          have hFc := va_free (wc := [(h0, .inr (5, mX5 h1)), (h1, zi k1 26 f1)]) hD hS hA [0, 1] rfl
          refine va_calli (va_runV (As := [.int z50]) (rest := []) ⟨hx, hb, hml, hown, hG⟩ (p16_sX5_nextFrom_0 l dC dI adK adV h0 h1 k1 H.size f1 z50) (cwV 1 hG (zgV zv1314 zv1315 zv1316 zv139 zv1317) rfl rfl rfl (by decide +kernel) ⟨Nat.le_of_ble_eq_true rfl, Nat.le_of_ble_eq_true rfl⟩) ⟨zPc_blind, va_recv hKc hPc (ci := 5) (q0 := 0) rfl rfl, zPc_pre hPc hKc hDc hE hS hFc hZ⟩ rfl rfl hl.1 rfl (lv_room (Nat.le_of_ble_eq_true rfl)) dX5_fullest_51 ⟨Nat.le_of_ble_eq_true rfl, Nat.le_of_ble_eq_true rfl⟩) hS (fun q _ h => hFc q h) hFc (fun r51_ u51_ t H1 locs ht hvm hw hB hz1 hk1 hS => ?_)
          replace hw : ((-1) ≤ r51_.toInt ∧ r51_.toInt ≤ 832) ∧ (r51_.toInt ≤ 831) ∧ (zNf f1 z50.toInt r51_.toInt) := hw
          obtain ⟨b_, hX51_0, hX51_1⟩ := hw
          obtain ⟨w51_, a51_, b51_, hP1, hK1, hD1⟩ := hB
          rw [ht] at hP1
          obtain ⟨hP, hD⟩ := va_join (wr := []) (w1 := [(h0, .inr (5, mX5 h1)), (h1, zi k1 26 f1)]) hP hD [0, 1] [] rfl rfl (by decide) (by decide) hk1 hFc hP1 hD1
          have hP : va_P (dC, dI) vwCl [(h0, .inr (5, mX5 h1)), (h1, zi k1 26 f1)] H1 := hP.sub [0, 1] rfl
          have hD : va_D A [(h0, .inr (5, mX5 h1)), (h1, zi k1 26 f1)] := hD.sub [0, 1] (by decide) rfl
          generalize H1 = H at hP hS ⊢
          clear hz1
          refine lv_istore_n (lv' := [(3, .int r51_), (0, .ref h0), (1, .int (u47_ 0)), (2, .int (u47_ 1)), (4, .int (u13_ 3)), (5, .int r31_)]) hx hb dX5_fullest_54 rfl hl (by decide) rfl (fun ls hl => ?_)
          obtain ⟨z55, e_z55⟩ : ∃ z : Int32, z = (u13_ 3) + Int32.ofInt 1 := ⟨_, rfl⟩
          have b_ := zadd (x := (u13_ 3)) (y := Int32.ofInt 1) rfl (show (Int32.ofInt 1).toInt = 1 from by decide) e_z55 (by omega) (by omega)
          refine lv_iinc (v := z55) (lv' := [(4, .int z55), (3, .int r51_), (0, .ref h0), (1, .int (u47_ 0)), (2, .int (u47_ 1)), (5, .int r31_)]) hx hb dX5_fullest_55 hl (k := 4) rfl e_z55.symm (by decide) rfl (fun ls hl => ?_)
          refine lv_goto (tgt := 13) hx hb dX5_fullest_58 (by decide) ?_
          have hc : va_P (dC, dI) vwCl [(h0, .inr (5, mX5 h1)), (h1, zi k1 26 f1)] H ∧ va_D A [(h0, .inr (5, mX5 h1)), (h1, zi k1 26 f1)] ∧ va_S A s.heap H locs ∧ lv_has ls 6 [(0, .ref h0), (1, .int (u47_ 0)), (2, .int (u47_ 1)), (3, .int r51_), (4, .int z55)] ∧ ((-1) ≤ (u47_ 0).toInt ∧ (u47_ 0).toInt ≤ 832) ∧ (0 ≤ (u47_ 1).toInt ∧ (u47_ 1).toInt ≤ 63) ∧ ((-1) ≤ r51_.toInt ∧ r51_.toInt ≤ 831) ∧ (0 ≤ z55.toInt ∧ z55.toInt ≤ 832) := ⟨hP, hD, hS, lv_sub hl [2, 3, 4, 1, 0] rfl, (by first | with_reducible assumption | exact ⟨by omega, by omega⟩), (by first | with_reducible assumption | exact ⟨by omega, by omega⟩), (by first | with_reducible assumption | exact ⟨by omega, by omega⟩), (by first | with_reducible assumption | exact ⟨by omega, by omega⟩)⟩
          exact hJ13 H locs ls (fun i => ([(u47_ 0), (u47_ 1), r51_, z55] : List (Int32)).getD i 0) (fun _ => 0) (fun _ => (fun _ => 0)) (fun _ => (fun _ => 0)) hc (show (832 - z55.toInt).toNat < (832 - (u13_ 3).toInt).toNat from by omega)
        · skip
          refine lv_icmp_le (tgt := 47) hx hb dX5_fullest_39 (by decide) (fun c_ => ?_) (fun c_ => ?_)
          · skip
            have b_ := zT_le rfl rfl c_
            have hc : va_P (dC, dI) vwCl [(h0, .inr (5, mX5 h1)), (h1, zi k1 26 f1)] H ∧ va_D A [(h0, .inr (5, mX5 h1)), (h1, zi k1 26 f1)] ∧ va_S A s.heap H locs ∧ lv_has ls 6 [(0, .ref h0), (1, .int (u13_ 0)), (2, .int (u13_ 1)), (3, .int (u13_ 2)), (4, .int (u13_ 3)), (5, .int r31_)] ∧ ((-1) ≤ (u13_ 0).toInt ∧ (u13_ 0).toInt ≤ 832) ∧ (0 ≤ (u13_ 1).toInt ∧ (u13_ 1).toInt ≤ 63) ∧ (0 ≤ r31_.toInt ∧ r31_.toInt ≤ 63) ∧ (0 ≤ (u13_ 1).toInt ∧ (u13_ 1).toInt ≤ 63) := ⟨hP, hD, hS, lv_sub hl [1, 2, 3, 4, 5, 0] rfl, (by first | with_reducible assumption | exact ⟨by omega, by omega⟩), (by first | with_reducible assumption | exact ⟨by omega, by omega⟩), (by first | with_reducible assumption | exact ⟨by omega, by omega⟩), (by first | with_reducible assumption | exact ⟨by omega, by omega⟩)⟩
            exact hJ47 H locs ls (fun i => ([(u13_ 0), (u13_ 1)] : List (Int32)).getD i 0) (fun _ => 0) (fun _ => (fun _ => 0)) (fun _ => (fun _ => 0)) hc
          · skip
            have b_ := zF_le rfl rfl c_
            refine lv_iload hx hb dX5_fullest_42 (lv_at hl 0 rfl) ?_
            refine lv_istore_n (lv' := [(2, .int r31_), (5, .int r31_), (0, .ref h0), (1, .int (u13_ 0)), (3, .int (u13_ 2)), (4, .int (u13_ 3))]) hx hb dX5_fullest_44 rfl hl (by decide) rfl (fun ls hl => ?_)
            refine lv_iload_n hx hb dX5_fullest_45 rfl (lv_at hl 4 rfl) ?_
            refine lv_istore_n (lv' := [(1, .int (u13_ 2)), (2, .int r31_), (5, .int r31_), (0, .ref h0), (3, .int (u13_ 2)), (4, .int (u13_ 3))]) hx hb dX5_fullest_46 rfl hl (by decide) rfl (fun ls hl => ?_)
            have hc : va_P (dC, dI) vwCl [(h0, .inr (5, mX5 h1)), (h1, zi k1 26 f1)] H ∧ va_D A [(h0, .inr (5, mX5 h1)), (h1, zi k1 26 f1)] ∧ va_S A s.heap H locs ∧ lv_has ls 6 [(0, .ref h0), (1, .int (u13_ 2)), (2, .int r31_), (3, .int (u13_ 2)), (4, .int (u13_ 3)), (5, .int r31_)] ∧ ((-1) ≤ (u13_ 2).toInt ∧ (u13_ 2).toInt ≤ 832) ∧ (0 ≤ r31_.toInt ∧ r31_.toInt ≤ 63) ∧ (0 ≤ r31_.toInt ∧ r31_.toInt ≤ 63) ∧ (0 ≤ (u13_ 1).toInt ∧ (u13_ 1).toInt ≤ 63) := ⟨hP, hD, hS, lv_sub hl [3, 0, 1, 4, 5, 2] rfl, (by first | with_reducible assumption | exact ⟨by omega, by omega⟩), (by first | with_reducible assumption | exact ⟨by omega, by omega⟩), (by first | with_reducible assumption | exact ⟨by omega, by omega⟩), (by first | with_reducible assumption | exact ⟨by omega, by omega⟩)⟩
            exact hJ47 H locs ls (fun i => ([(u13_ 2), r31_] : List (Int32)).getD i 0) (fun _ => 0) (fun _ => (fun _ => 0)) (fun _ => (fun _ => 0)) hc
  · skip
    have hc : va_P (dC, dI) vwCl [(h0, .inr (5, mX5 h1)), (h1, zi k1 26 f1)] H ∧ va_D A [(h0, .inr (5, mX5 h1)), (h1, zi k1 26 f1)] ∧ va_S A s.heap H locs ∧ lv_has ls 6 [(0, .ref h0), (1, .int (-1)), (2, .int 0), (3, .int r6_), (4, .int 0)] ∧ ((-1) ≤ ((-1) : Int32).toInt ∧ ((-1) : Int32).toInt ≤ 832) ∧ (0 ≤ (0 : Int32).toInt ∧ (0 : Int32).toInt ≤ 63) ∧ ((-1) ≤ r6_.toInt ∧ r6_.toInt ≤ 831) ∧ (0 ≤ (0 : Int32).toInt ∧ (0 : Int32).toInt ≤ 832) := ⟨hP, hD, hS, lv_sub hl [4, 3, 2, 1, 0] rfl, (by first | with_reducible assumption | exact ⟨by omega, by omega⟩), (by first | with_reducible assumption | exact ⟨by omega, by omega⟩), (by first | with_reducible assumption | exact ⟨by omega, by omega⟩), (by first | with_reducible assumption | exact ⟨by omega, by omega⟩)⟩
    exact hJ13 H locs ls (fun i => ([(-1), 0, r6_, 0] : List (Int32)).getD i 0) (fun _ => 0) (fun _ => (fun _ => 0)) (fun _ => (fun _ => 0)) hc
set_option maxHeartbeats 8000000 in
set_option maxRecDepth 100000 in
theorem p16_sX5_putAll_0 (l : Launch) (dC : Nat → ClassId) (dI : Nat → Nat → Nat) (adK adV : Nat → Nat) (h0 : Nat) (h1 : Nat) (h2 : Nat) (h3 : Nat) (k1 : ClassId) (k3 : ClassId) (sz : Nat) (f1 : Nat → Int32) (f3 : Nat → Int32) : Met l yX5_putAll (zw yX5_putAll cX5_putAll 3 none) { frames := 0, cells := 0, slots := 0, locals := 0 } (zPc dC dI adK adV [.ref h0, .ref h2] sz [(h0, .inr (5, mX5 h1)), (h1, zi k1 26 f1), (h2, .inr (5, mX5 h3)), (h3, zi k3 26 f3)] [(k1, .int), (k3, .int)]) (va_Qv (fun (u : Nat → Int32) => True) (fun (u : Nat → Int32) (t : State) => ∃ (ww : Nat → Int64) (aa : Nat → Nat → Int32) (bb : Nat → Nat → Int64), (∀ q : Nat, q < 832 → zpb (aa 0) q = (zpb f1 q || zpb f3 q)) ∧ va_P (dC, dI) vwCl [(h0, .inr (5, mX5 h1)), (h1, zi k1 26 (aa 0)), (h2, .inr (5, mX5 h3)), (h3, zi k3 26 f3)] t.heap ∧ va_K (dC, dI) vwCl [(k1, .int), (k3, .int)] t ∧ va_D (va_A [(h0, .inr (5, mX5 h1)), (h1, zi k1 26 f1), (h2, .inr (5, mX5 h3)), (h3, zi k3 26 f3)] sz) [(h0, .inr (5, mX5 h1)), (h1, zi k1 26 (aa 0)), (h2, .inr (5, mX5 h3)), (h3, zi k3 26 f3)]) (va_A [(h0, .inr (5, mX5 h1)), (h1, zi k1 26 f1), (h2, .inr (5, mX5 h3)), (h3, zi k3 26 f3)] sz)) 0 0 (va_A [(h0, .inr (5, mX5 h1)), (h1, zi k1 26 f1), (h2, .inr (5, mX5 h3)), (h3, zi k3 26 f3)] sz) := by
  refine Met.ofW (cc := cX5_putAll) (maxL := 3) (ret := none) (by decide) rfl ?_
  intro p e s m args below meth c s₁ B hml hv
  obtain ⟨rfl, hsz, hP, hK, hD0, hE, hZ⟩ := hv
  have hx := B.exec
  have hb := B.bytes
  have hr := B.returns
  have hG : ∀ w ∈ zG, w.before _ s = true := fun w h => atoms_spec (ws := (zw yX5_putAll cX5_putAll 3 none)) B.pre w (List.mem_cons_of_mem _ h)
  have hown : s.vm.findClass RX5 = some m.cls := findClass_of_methodNamed B.named
  have hlocks := B.notSynchronized

  subst hsz
  have hD := hD0.self (sz := s.heap.size)
  generalize hAe : va_A [(h0, .inr (5, mX5 h1)), (h1, zi k1 26 f1), (h2, .inr (5, mX5 h3)), (h3, zi k3 26 f3)] s.heap.size = A at hD hZ ⊢
  have hA : ∀ q : Nat, s.heap.size ≤ q → A q := fun q h => by rw [← hAe]; exact Or.inr h
  have hS : va_S A s.heap s.heap [] := va_S.rf
  have hl := lv_entry ([.ref h0, .ref h2]) (n := 3) (Nat.le_of_ble_eq_true rfl)
  rw [lg_entry_eq]
  generalize (lg_sl ([.ref h0, .ref h2]) ++ List.replicate (3 - (lg_sl ([.ref h0, .ref h2])).length) Slot.unset).toArray = ls at hl ⊢
  have hl : lv_has ls 3 [(0, .ref h0), (1, .ref h2)] := hl
  have b_ := zk_0
  refine lv_iconst (v := 0) hx hb dX5_putAll_0 (by decide) ?_
  refine lv_istore_n (lv' := [(2, .int 0), (0, .ref h0), (1, .ref h2)]) hx hb dX5_putAll_1 rfl hl (by decide) rfl (fun ls hl => ?_)
  refine zcutL (fun u2_ => (26 - (u2_ 0).toInt).toNat) (fun H locs ls u2_ w2_ a2_ b2_ => va_P (dC, dI) vwCl [(h0, .inr (5, mX5 h1)), (h1, zi k1 26 (a2_ 0)), (h2, .inr (5, mX5 h3)), (h3, zi k3 26 f3)] H ∧ va_D A [(h0, .inr (5, mX5 h1)), (h1, zi k1 26 (a2_ 0)), (h2, .inr (5, mX5 h3)), (h3, zi k3 26 f3)] ∧ va_S A s.heap H locs ∧ lv_has ls 3 [(0, .ref h0), (1, .ref h2), (2, .int (u2_ 0))] ∧ (0 ≤ (u2_ 0).toInt ∧ (u2_ 0).toInt ≤ 26) ∧ (zjn f1 (a2_ 0) f3 (u2_ 0).toInt) ∧ (0 ≤ (u2_ 0).toInt)) (fun ls u2_ w2_ => F0 m 2 ls []) 0 0 ?_ (fun hJ2 => ?_)
  · skip
    intro H locs ls u2_ w2_ a2_ b2_ hc hJ2
    obtain ⟨hP, hD, hS, hl, b_, hI2_0, b_⟩ := hc
    refine lv_iload_n hx hb dX5_putAll_2 rfl (lv_at hl 2 rfl) ?_
    refine lv_bipush (v := 26) hx hb dX5_putAll_3 (by decide) ?_
    refine lv_icmp_ge (tgt := 29) hx hb dX5_putAll_5 (by decide) (fun c_ => ?_) (fun c_ => ?_)
    · skip
      have b_ := zT_ge rfl zk_26 c_
      refine W.widen (k := 0) (n := 0) (by decide) (by decide) ?_
      have hpost : True := trivial
      have hP9 : va_P (dC, dI) vwCl [(h0, .inr (5, mX5 h1)), (h1, zi k1 26 (a2_ 0)), (h2, .inr (5, mX5 h3)), (h3, zi k3 26 f3)] H := hP
      have hD9 : va_D A [(h0, .inr (5, mX5 h1)), (h1, zi k1 26 (a2_ 0)), (h2, .inr (5, mX5 h3)), (h3, zi k3 26 f3)] := hD
      have hB0 : ∀ q : Nat, q < 832 → zpb (a2_ 0) q = (zpb f1 q || zpb f3 q) := by exact zjn_e hI2_0 (by omega)
      exact W.vret hx hb hr (fun t ht hW => ⟨⟨(fun _ => 0), rfl, hpost, (fun _ => 0), (fun i => ([(a2_ 0)] : List (Nat → Int32)).getD i (fun _ => 0)), (fun _ => (fun _ => 0)), hB0, by rw [ht]; exact hP9, va_K.moved hW.alike hK, hD9⟩, hS.F ht⟩) hS.2.2 dX5_putAll_29
    · skip
      have b_ := zF_ge rfl zk_26 c_
      refine lv_aload_n hx hb dX5_putAll_8 rfl (lv_at hl 0 rfl) ?_
      refine va_get (D := (dC, dI)) (ci := 5) (v := .ref h1) (C := RX5) (T := TX5) (N := 1) hx hb hG zuX5 hown hK hP 0 rfl rfl 0 (by decide) (hG _ zv458) (fun _ h9 => h9) rfl dX5_putAll_9 ?_
      refine lv_iload_n hx hb dX5_putAll_12 rfl (lv_at hl 2 rfl) ?_
      refine lv_dup2_11 hx hb dX5_putAll_13 rfl rfl ?_
      refine va_iald hx hb hK hP 1 0 rfl rfl (zin_lit ⟨by omega, by omega⟩) dX5_putAll_14 ?_
      refine lv_topi (fun z14 e_z14 => ?_)
      refine lv_aload_n hx hb dX5_putAll_15 rfl (lv_at hl 1 rfl) ?_
      refine va_get (D := (dC, dI)) (ci := 5) (v := .ref h3) (C := RX5) (T := TX5) (N := 1) hx hb hG zuX5 hown hK hP 2 rfl rfl 0 (by decide) (hG _ zv458) (fun _ h9 => h9) rfl dX5_putAll_16 ?_
      refine lv_iload_n hx hb dX5_putAll_19 rfl (lv_at hl 2 rfl) ?_
      refine va_iald hx hb hK hP 3 1 rfl rfl (zin_lit ⟨by omega, by omega⟩) dX5_putAll_20 ?_
      refine lv_topi (fun z20 e_z20 => ?_)
      have b_ : -2147483648 ≤ z14.toInt ∧ z14.toInt ≤ 2147483647 := ⟨zlo _, zhi _⟩
      have b_ : -2147483648 ≤ z20.toInt ∧ z20.toInt ≤ 2147483647 := ⟨zlo _, zhi _⟩
      refine lv_ior hx hb dX5_putAll_21 ?_
      refine lv_topi (fun z21 e_z21 => ?_)
      refine va_iast hx hb hK hP hD hS 1 0 rfl rfl (zin_lit ⟨by omega, by omega⟩) dX5_putAll_22 (fun H locs hP hD hS => ?_)
      obtain ⟨f_22, e_f_22⟩ : ∃ z : Nat → Int32, z = upd (a2_ 0) ((u2_ 0) : Int32).toNatClampNeg z21 := ⟨_, rfl⟩
      have hP : va_P (dC, dI) vwCl [(h0, .inr (5, mX5 h1)), (h1, zi k1 26 f_22), (h2, .inr (5, mX5 h3)), (h3, zi k3 26 f3)] H := by rw [e_f_22]; exact hP
      have hD : va_D A [(h0, .inr (5, mX5 h1)), (h1, zi k1 26 f_22), (h2, .inr (5, mX5 h3)), (h3, zi k3 26 f3)] := by rw [e_f_22]; exact hD
      obtain ⟨z23, e_z23⟩ : ∃ z : Int32, z = (u2_ 0) + Int32.ofInt 1 := ⟨_, rfl⟩
      have b_ := zadd (x := (u2_ 0)) (y := Int32.ofInt 1) rfl (show (Int32.ofInt 1).toInt = 1 from by decide) e_z23 (by omega) (by omega)
      refine lv_iinc (v := z23) (lv' := [(2, .int z23), (0, .ref h0), (1, .ref h2)]) hx hb dX5_putAll_23 hl (k := 2) rfl e_z23.symm (by decide) rfl (fun ls hl => ?_)
      refine lv_goto (tgt := 2) hx hb dX5_putAll_26 (by decide) ?_
      have hc : va_P (dC, dI) vwCl [(h0, .inr (5, mX5 h1)), (h1, zi k1 26 f_22), (h2, .inr (5, mX5 h3)), (h3, zi k3 26 f3)] H ∧ va_D A [(h0, .inr (5, mX5 h1)), (h1, zi k1 26 f_22), (h2, .inr (5, mX5 h3)), (h3, zi k3 26 f3)] ∧ va_S A s.heap H locs ∧ lv_has ls 3 [(0, .ref h0), (1, .ref h2), (2, .int z23)] ∧ (0 ≤ z23.toInt ∧ z23.toInt ≤ 26) ∧ (zjn f1 f_22 f3 z23.toInt) ∧ (0 ≤ z23.toInt) := ⟨hP, hD, hS, lv_sub hl [1, 2, 0] rfl, (by first | with_reducible assumption | exact ⟨by omega, by omega⟩), by first | exact zjn_s hI2_0 (by omega) (by omega) e_z14 e_z20 e_z21 e_f_22 (by omega) | exact zjn_0 (by decide), by omega⟩
      exact hJ2 H locs ls (fun i => ([z23] : List (Int32)).getD i 0) (fun _ => 0) (fun i => ([f_22] : List (Nat → Int32)).getD i (fun _ => 0)) (fun _ => (fun _ => 0)) hc (show (26 - z23.toInt).toNat < (26 - (u2_ 0).toInt).toNat from by omega)
  · skip
    have hc : va_P (dC, dI) vwCl [(h0, .inr (5, mX5 h1)), (h1, zi k1 26 f1), (h2, .inr (5, mX5 h3)), (h3, zi k3 26 f3)] s.heap ∧ va_D A [(h0, .inr (5, mX5 h1)), (h1, zi k1 26 f1), (h2, .inr (5, mX5 h3)), (h3, zi k3 26 f3)] ∧ va_S A s.heap s.heap [] ∧ lv_has ls 3 [(0, .ref h0), (1, .ref h2), (2, .int 0)] ∧ (0 ≤ (0 : Int32).toInt ∧ (0 : Int32).toInt ≤ 26) ∧ (zjn f1 f1 f3 (0 : Int32).toInt) ∧ (0 ≤ (0 : Int32).toInt) := ⟨hP, hD, hS, lv_sub hl [1, 2, 0] rfl, (by first | with_reducible assumption | exact ⟨by omega, by omega⟩), by first | exact zjn_s hI2_0 (by omega) (by omega) e_z14 e_z20 e_z21 e_f_22 (by omega) | exact zjn_0 (by decide), by omega⟩
    exact hJ2 s.heap [] ls (fun i => ([0] : List (Int32)).getD i 0) (fun _ => 0) (fun i => ([f1] : List (Nat → Int32)).getD i (fun _ => 0)) (fun _ => (fun _ => 0)) hc
