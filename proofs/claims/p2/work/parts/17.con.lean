set_option maxHeartbeats 8000000 in
set_option maxRecDepth 100000 in
theorem sX6_append_0 (l : Launch) (dC : Nat → ClassId) (dI : Nat → Nat → Nat) (adK adV : Nat → Nat) (h0 : Nat) (h6 : Nat) (h5 : Nat) (h2 : Nat) (h1 : Nat) (h3 : Nat) (h4 : Nat) (h7 : Nat) (h8 : Nat) (k6 : ClassId) (k5 : ClassId) (k2 : ClassId) (k1 : ClassId) (k3 : ClassId) (k4 : ClassId) (sz : Nat) (v0 : Nat → Int32) (f6 : Nat → Int32) (f5 : Nat → Int32) (f2 : Nat → Int32) (f1 : Nat → Int32) (f3 : Nat → Int32) (f4 : Nat → Int32) (x1 : Int32) (x2 : Int32) (hv0 : zR rg_Postings v0) (hf5 : zA 0 832 f5) (hf2 : zA 0 1250 f2) (hp0_ : zPhi f2 f5 f6 (v0 9).toInt (v0 8).toInt) : Met l yX6_append (zw yX6_append cX6_append 5 none) { frames := 3, cells := 0, slots := 0, locals := 67 } (zPc dC dI adK adV [.ref h0, .int x1, .int x2] sz [(h0, .inr (6, mX6 h1 h2 h3 h4 h5 h6 h7 h8 v0)), (h6, .inl (k6, 400, .inl f6)), (h5, .inl (k5, 400, .inl f5)), (h2, .inl (k2, 833, .inl f2)), (h1, .inl (k1, 1250, .inl f1)), (h3, .inl (k3, 833, .inl f3)), (h4, .inl (k4, 400, .inl f4))] [(k6, .int), (k5, .int), (k2, .int), (k1, .int), (k3, .int), (k4, .int)]) (va_Qv (fun (u : Nat → Int32) => (0 ≤ (u 0).toInt ∧ (u 0).toInt ≤ 833) ∧ (0 ≤ (u 1).toInt ∧ (u 1).toInt ≤ 1250)) (fun (u : Nat → Int32) (t : State) => ∃ (ww : Nat → Int64) (aa : Nat → Nat → Int32) (bb : Nat → Nat → Int64), zA 0 832 (aa 1) ∧ zA 0 1250 (aa 2) ∧ (zPhi (aa 2) (aa 1) (aa 0) (u 1).toInt (u 0).toInt) ∧ va_P (dC, dI) vwCl [(h0, .inr (6, mX6 h1 h2 h3 h4 h5 h6 h7 h8 (upd (upd (upd (upd v0 8 (u 0)) 9 (u 1)) 10 (u 2)) 11 (u 3)))), (h6, .inl (k6, 400, .inl (aa 0))), (h5, .inl (k5, 400, .inl (aa 1))), (h2, .inl (k2, 833, .inl (aa 2))), (h1, .inl (k1, 1250, .inl (aa 3))), (h3, .inl (k3, 833, .inl (aa 4))), (h4, .inl (k4, 400, .inl (aa 5)))] t.heap ∧ va_K (dC, dI) vwCl [(k6, .int), (k5, .int), (k2, .int), (k1, .int), (k3, .int), (k4, .int)] t ∧ va_D (va_A [(h0, .inr (6, mX6 h1 h2 h3 h4 h5 h6 h7 h8 v0)), (h6, .inl (k6, 400, .inl f6)), (h5, .inl (k5, 400, .inl f5)), (h2, .inl (k2, 833, .inl f2)), (h1, .inl (k1, 1250, .inl f1)), (h3, .inl (k3, 833, .inl f3)), (h4, .inl (k4, 400, .inl f4))] sz) [(h0, .inr (6, mX6 h1 h2 h3 h4 h5 h6 h7 h8 (upd (upd (upd (upd v0 8 (u 0)) 9 (u 1)) 10 (u 2)) 11 (u 3)))), (h6, .inl (k6, 400, .inl (aa 0))), (h5, .inl (k5, 400, .inl (aa 1))), (h2, .inl (k2, 833, .inl (aa 2))), (h1, .inl (k1, 1250, .inl (aa 3))), (h3, .inl (k3, 833, .inl (aa 4))), (h4, .inl (k4, 400, .inl (aa 5)))]) (va_A [(h0, .inr (6, mX6 h1 h2 h3 h4 h5 h6 h7 h8 v0)), (h6, .inl (k6, 400, .inl f6)), (h5, .inl (k5, 400, .inl f5)), (h2, .inl (k2, 833, .inl f2)), (h1, .inl (k1, 1250, .inl f1)), (h3, .inl (k3, 833, .inl f3)), (h4, .inl (k4, 400, .inl f4))] sz)) 0 0 (va_A [(h0, .inr (6, mX6 h1 h2 h3 h4 h5 h6 h7 h8 v0)), (h6, .inl (k6, 400, .inl f6)), (h5, .inl (k5, 400, .inl f5)), (h2, .inl (k2, 833, .inl f2)), (h1, .inl (k1, 1250, .inl f1)), (h3, .inl (k3, 833, .inl f3)), (h4, .inl (k4, 400, .inl f4))] sz) := by
  refine Met.ofW (cc := cX6_append) (maxL := 5) (ret := none) (by decide) rfl ?_
  intro p e s m args below meth c s₁ B hml hv
  obtain ⟨rfl, hsz, hP, hK, hD0, hE, hZ⟩ := hv
  have hx := B.exec
  have hb := B.bytes
  have hr := B.returns
  have hG : ∀ w ∈ zG, w.before _ s = true := fun w h => atoms_spec (ws := (zw yX6_append cX6_append 5 none)) B.pre w (List.mem_cons_of_mem _ h)
  have hown : s.vm.findClass RX6 = some m.cls := findClass_of_methodNamed B.named
  have hlocks := B.notSynchronized

  subst hsz
  have hD := hD0.self (sz := s.heap.size)
  generalize hAe : va_A [(h0, .inr (6, mX6 h1 h2 h3 h4 h5 h6 h7 h8 v0)), (h6, .inl (k6, 400, .inl f6)), (h5, .inl (k5, 400, .inl f5)), (h2, .inl (k2, 833, .inl f2)), (h1, .inl (k1, 1250, .inl f1)), (h3, .inl (k3, 833, .inl f3)), (h4, .inl (k4, 400, .inl f4))] s.heap.size = A at hD hZ ⊢
  have hA : ∀ q : Nat, s.heap.size ≤ q → A q := fun q h => by rw [← hAe]; exact Or.inr h
  have hS : va_S A s.heap s.heap [] := va_S.rf
  have hl := lv_entry ([.ref h0, .int x1, .int x2]) (n := 5) (Nat.le_of_ble_eq_true rfl)
  rw [lg_entry_eq]
  generalize (lg_sl ([.ref h0, .int x1, .int x2]) ++ List.replicate (5 - (lg_sl ([.ref h0, .int x1, .int x2])).length) Slot.unset).toArray = ls at hl ⊢
  have hl : lv_has ls 5 [(0, .ref h0), (1, .int x1), (2, .int x2)] := hl
  have b_ := zk_1
  have b_ : 0 ≤ (v0 9).toInt ∧ (v0 9).toInt ≤ 1250 := hv0 9
  have b_ : 0 ≤ (v0 8).toInt ∧ (v0 8).toInt ≤ 833 := hv0 8
  refine lv_iload_n hx hb dX6_append_0 rfl (lv_at hl 2 rfl) ?_
  have hPc := hP.sub (ws' := []) [] rfl
  have hDc := hD.sub (ws' := []) [] (by decide) rfl
  have hKc := hK.sub (tys' := []) [] rfl
  have hFc := va_free (wc := []) hD hS hA [] rfl
  refine va_calli (va_runSN (As := [.int x2]) (rest := []) ⟨hx, hb, hml, hown, hG⟩ (sX11_binaryDigits_0 l dC dI adK adV s.heap.size x2) ⟨va_cnB 1 hG (zgI zw159) rfl rfl rfl (zE_RX6_59 hE) (hG _ zw160) (by decide +kernel) ⟨Nat.le_of_ble_eq_true rfl, Nat.le_of_ble_eq_true rfl⟩, hG _ zw161, trivial⟩ ⟨zPc_blind, zPc_pre hPc hKc hDc hE hS hFc hZ⟩ rfl rfl hl.1 rfl (lv_room (Nat.le_of_ble_eq_true rfl)) dX6_append_1 ⟨Nat.le_of_ble_eq_true rfl, Nat.le_of_ble_eq_true rfl⟩) hS (fun q _ h => hFc q h) hFc (fun r1_ u1_ t H1 locs ht hvm hw hB hz1 hk1 hS => ?_)
  have hw : (0 ≤ r1_.toInt ∧ r1_.toInt ≤ 32) := hw
  have b_ := hw
  obtain ⟨w1_, a1_, b1_, hP1, hK1, hD1⟩ := hB
  rw [ht] at hP1
  obtain ⟨hP, hD⟩ := va_join (wr := [(h0, .inr (6, mX6 h1 h2 h3 h4 h5 h6 h7 h8 v0)), (h6, .inl (k6, 400, .inl f6)), (h5, .inl (k5, 400, .inl f5)), (h2, .inl (k2, 833, .inl f2)), (h1, .inl (k1, 1250, .inl f1)), (h3, .inl (k3, 833, .inl f3)), (h4, .inl (k4, 400, .inl f4))]) (w1 := []) hP hD [] [0, 1, 2, 3, 4, 5, 6] rfl rfl (by decide) (by decide) hk1 hFc hP1 hD1
  have hP : va_P (dC, dI) vwCl [(h0, .inr (6, mX6 h1 h2 h3 h4 h5 h6 h7 h8 v0)), (h6, .inl (k6, 400, .inl f6)), (h5, .inl (k5, 400, .inl f5)), (h2, .inl (k2, 833, .inl f2)), (h1, .inl (k1, 1250, .inl f1)), (h3, .inl (k3, 833, .inl f3)), (h4, .inl (k4, 400, .inl f4))] H1 := hP.sub [0, 1, 2, 3, 4, 5, 6] rfl
  have hD : va_D A [(h0, .inr (6, mX6 h1 h2 h3 h4 h5 h6 h7 h8 v0)), (h6, .inl (k6, 400, .inl f6)), (h5, .inl (k5, 400, .inl f5)), (h2, .inl (k2, 833, .inl f2)), (h1, .inl (k1, 1250, .inl f1)), (h3, .inl (k3, 833, .inl f3)), (h4, .inl (k4, 400, .inl f4))] := hD.sub [0, 1, 2, 3, 4, 5, 6] (by decide) rfl
  generalize H1 = H at hP hS ⊢
  clear hz1
  refine lv_istore_n (lv' := [(3, .int r1_), (0, .ref h0), (1, .int x1), (2, .int x2)]) hx hb dX6_append_4 rfl hl (by decide) rfl (fun ls hl => ?_)
  refine lv_iconst (v := 1) hx hb dX6_append_5 (by decide) ?_
  refine lv_istore (lv' := [(4, .int 1), (3, .int r1_), (0, .ref h0), (1, .int x1), (2, .int x2)]) hx hb dX6_append_6 hl (by decide) rfl (fun ls hl => ?_)
  refine zcutL (fun u8_ => (32 - (u8_ 0).toInt).toNat) (fun H locs ls u8_ w8_ a8_ b8_ => va_P (dC, dI) vwCl [(h0, .inr (6, mX6 h1 h2 h3 h4 h5 h6 h7 h8 (upd (upd (upd (upd v0 8 (u8_ 1)) 9 (u8_ 2)) 10 (u8_ 3)) 11 (u8_ 4)))), (h6, .inl (k6, 400, .inl (a8_ 5))), (h5, .inl (k5, 400, .inl (a8_ 4))), (h2, .inl (k2, 833, .inl (a8_ 1))), (h1, .inl (k1, 1250, .inl (a8_ 0))), (h3, .inl (k3, 833, .inl (a8_ 2))), (h4, .inl (k4, 400, .inl (a8_ 3)))] H ∧ va_D A [(h0, .inr (6, mX6 h1 h2 h3 h4 h5 h6 h7 h8 (upd (upd (upd (upd v0 8 (u8_ 1)) 9 (u8_ 2)) 10 (u8_ 3)) 11 (u8_ 4)))), (h6, .inl (k6, 400, .inl (a8_ 5))), (h5, .inl (k5, 400, .inl (a8_ 4))), (h2, .inl (k2, 833, .inl (a8_ 1))), (h1, .inl (k1, 1250, .inl (a8_ 0))), (h3, .inl (k3, 833, .inl (a8_ 2))), (h4, .inl (k4, 400, .inl (a8_ 3)))] ∧ va_S A s.heap H locs ∧ lv_has ls 5 [(0, .ref h0), (1, .int x1), (2, .int x2), (3, .int r1_), (4, .int (u8_ 0))] ∧ zA 0 1250 (a8_ 1) ∧ zA 0 832 (a8_ 4) ∧ (1 ≤ (u8_ 0).toInt ∧ (u8_ 0).toInt ≤ 32) ∧ (0 ≤ (u8_ 1).toInt ∧ (u8_ 1).toInt ≤ 833) ∧ (0 ≤ (u8_ 2).toInt ∧ (u8_ 2).toInt ≤ 1250) ∧ (zPhi (a8_ 1) (a8_ 4) (a8_ 5) (u8_ 2).toInt (u8_ 1).toInt)) (fun ls u8_ w8_ => F0 m 8 ls []) 0 0 ?_ (fun hJ8 => ?_)
  · skip
    intro H locs ls u8_ w8_ a8_ b8_ hc hJ8
    obtain ⟨hP, hD, hS, hl, ha8_1, ha8_4, b_, b_, b_, hI8_0⟩ := hc
    refine lv_iload hx hb dX6_append_8 (lv_at hl 4 rfl) ?_
    refine lv_iload_n hx hb dX6_append_10 rfl (lv_at hl 3 rfl) ?_
    refine lv_icmp_ge (tgt := 26) hx hb dX6_append_11 (by decide) (fun c_ => ?_) (fun c_ => ?_)
    · skip
      have b_ := zT_ge rfl rfl c_
      refine lv_iload_n hx hb dX6_append_26 rfl (lv_at hl 3 rfl) ?_
      refine lv_iconst (v := 1) hx hb dX6_append_27 (by decide) ?_
      refine lv_isub hx hb dX6_append_28 ?_
      refine lv_topi (fun z28 e_z28 => ?_)
      have b_ := zsub rfl zk_1 e_z28 (by omega) (by omega)
      refine lv_istore (lv' := [(4, .int z28), (0, .ref h0), (1, .int x1), (2, .int x2), (3, .int r1_)]) hx hb dX6_append_29 hl (by decide) rfl (fun ls hl => ?_)
      refine zcutL (fun u31_ => ((u31_ 0).toInt - (-1)).toNat) (fun H locs ls u31_ w31_ a31_ b31_ => va_P (dC, dI) vwCl [(h0, .inr (6, mX6 h1 h2 h3 h4 h5 h6 h7 h8 (upd (upd (upd (upd v0 8 (u31_ 1)) 9 (u31_ 2)) 10 (u31_ 3)) 11 (u31_ 4)))), (h6, .inl (k6, 400, .inl (a31_ 5))), (h5, .inl (k5, 400, .inl (a31_ 4))), (h2, .inl (k2, 833, .inl (a31_ 1))), (h1, .inl (k1, 1250, .inl (a31_ 0))), (h3, .inl (k3, 833, .inl (a31_ 2))), (h4, .inl (k4, 400, .inl (a31_ 3)))] H ∧ va_D A [(h0, .inr (6, mX6 h1 h2 h3 h4 h5 h6 h7 h8 (upd (upd (upd (upd v0 8 (u31_ 1)) 9 (u31_ 2)) 10 (u31_ 3)) 11 (u31_ 4)))), (h6, .inl (k6, 400, .inl (a31_ 5))), (h5, .inl (k5, 400, .inl (a31_ 4))), (h2, .inl (k2, 833, .inl (a31_ 1))), (h1, .inl (k1, 1250, .inl (a31_ 0))), (h3, .inl (k3, 833, .inl (a31_ 2))), (h4, .inl (k4, 400, .inl (a31_ 3)))] ∧ va_S A s.heap H locs ∧ lv_has ls 5 [(0, .ref h0), (1, .int x1), (2, .int x2), (3, .int r1_), (4, .int (u31_ 0))] ∧ zA 0 1250 (a31_ 1) ∧ zA 0 832 (a31_ 4) ∧ ((-1) ≤ (u31_ 0).toInt ∧ (u31_ 0).toInt ≤ 31) ∧ (0 ≤ (u31_ 1).toInt ∧ (u31_ 1).toInt ≤ 833) ∧ (0 ≤ (u31_ 2).toInt ∧ (u31_ 2).toInt ≤ 1250) ∧ (zPhi (a31_ 1) (a31_ 4) (a31_ 5) (u31_ 2).toInt (u31_ 1).toInt)) (fun ls u31_ w31_ => F0 m 31 ls []) 0 0 ?_ (fun hJ31 => ?_)
      · skip
        intro H locs ls u31_ w31_ a31_ b31_ hc hJ31
        obtain ⟨hP, hD, hS, hl, ha31_1, ha31_4, b_, b_, b_, hI31_0⟩ := hc
        refine lv_iload hx hb dX6_append_31 (lv_at hl 4 rfl) ?_
        refine lv_if_lt (tgt := 53) hx hb dX6_append_33 (by decide) (fun c_ => ?_) (fun c_ => ?_)
        · skip
          have b_ := zT_lt rfl zk_0 c_
          refine W.widen (k := 0) (n := 0) (by decide) (by decide) ?_
          have b_ : -2147483648 ≤ (u31_ 3).toInt ∧ (u31_ 3).toInt ≤ 2147483647 := ⟨zlo _, zhi _⟩
          have b_ : -2147483648 ≤ (u31_ 4).toInt ∧ (u31_ 4).toInt ≤ 2147483647 := ⟨zlo _, zhi _⟩
          have hpost : (0 ≤ (u31_ 1).toInt ∧ (u31_ 1).toInt ≤ 833) ∧ (0 ≤ (u31_ 2).toInt ∧ (u31_ 2).toInt ≤ 1250) := ⟨⟨by omega, by omega⟩, ⟨by omega, by omega⟩⟩
          have hP9 : va_P (dC, dI) vwCl [(h0, .inr (6, mX6 h1 h2 h3 h4 h5 h6 h7 h8 (upd (upd (upd (upd v0 8 (u31_ 1)) 9 (u31_ 2)) 10 (u31_ 3)) 11 (u31_ 4)))), (h6, .inl (k6, 400, .inl (a31_ 5))), (h5, .inl (k5, 400, .inl (a31_ 4))), (h2, .inl (k2, 833, .inl (a31_ 1))), (h1, .inl (k1, 1250, .inl (a31_ 0))), (h3, .inl (k3, 833, .inl (a31_ 2))), (h4, .inl (k4, 400, .inl (a31_ 3)))] H := hP
          have hD9 : va_D A [(h0, .inr (6, mX6 h1 h2 h3 h4 h5 h6 h7 h8 (upd (upd (upd (upd v0 8 (u31_ 1)) 9 (u31_ 2)) 10 (u31_ 3)) 11 (u31_ 4)))), (h6, .inl (k6, 400, .inl (a31_ 5))), (h5, .inl (k5, 400, .inl (a31_ 4))), (h2, .inl (k2, 833, .inl (a31_ 1))), (h1, .inl (k1, 1250, .inl (a31_ 0))), (h3, .inl (k3, 833, .inl (a31_ 2))), (h4, .inl (k4, 400, .inl (a31_ 3)))] := hD
          have hB0 : zPhi (a31_ 1) (a31_ 4) (a31_ 5) (u31_ 2).toInt (u31_ 1).toInt := by assumption
          exact W.vret hx hb hr (fun t ht hW => ⟨⟨(fun i => ([(u31_ 1), (u31_ 2), (u31_ 3), (u31_ 4)] : List (Int32)).getD i 0), rfl, hpost, (fun _ => 0), (fun i => ([(a31_ 5), (a31_ 4), (a31_ 1), (a31_ 0), (a31_ 2), (a31_ 3)] : List (Nat → Int32)).getD i (fun _ => 0)), (fun _ => (fun _ => 0)), ha31_4, ha31_1, hB0, by rw [ht]; exact hP9, va_K.moved hW.alike hK, hD9⟩, hS.F ht⟩) hS.2.2 dX6_append_53
        · skip
          have b_ := zF_lt rfl zk_0 c_
          refine lv_aload_n hx hb dX6_append_36 rfl (lv_at hl 0 rfl) ?_
          refine lv_iload_n hx hb dX6_append_37 rfl (lv_at hl 1 rfl) ?_
          refine lv_iload_n hx hb dX6_append_38 rfl (lv_at hl 2 rfl) ?_
          refine lv_iload hx hb dX6_append_39 (lv_at hl 4 rfl) ?_
          have b_ : -2147483648 ≤ x2.toInt ∧ x2.toInt ≤ 2147483647 := ⟨zlo _, zhi _⟩
          refine lv_iushr hx hb dX6_append_41 rfl ?_
          refine lv_topi (fun z41 e_z41 => ?_)
          refine lv_iconst (v := 1) hx hb dX6_append_42 (by decide) ?_
          have b_ : -2147483648 ≤ z41.toInt ∧ z41.toInt ≤ 2147483647 := ⟨zlo _, zhi _⟩
          refine lv_iand hx hb dX6_append_43 ?_
          refine lv_topi (fun z43 e_z43 => ?_)
          have b_ := zand (x := z41) zk_1 e_z43 (by decide)
          have b_ : -2147483648 ≤ (u31_ 3).toInt ∧ (u31_ 3).toInt ≤ 2147483647 := ⟨zlo _, zhi _⟩
          have b_ : -2147483648 ≤ (u31_ 4).toInt ∧ (u31_ 4).toInt ≤ 2147483647 := ⟨zlo _, zhi _⟩
          have hPc := hP.sub (ws' := [(h0, .inr (6, mX6 h1 h2 h3 h4 h5 h6 h7 h8 (upd (upd (upd (upd v0 8 (u31_ 1)) 9 (u31_ 2)) 10 (u31_ 3)) 11 (u31_ 4)))), (h6, .inl (k6, 400, .inl (a31_ 5))), (h5, .inl (k5, 400, .inl (a31_ 4))), (h2, .inl (k2, 833, .inl (a31_ 1))), (h1, .inl (k1, 1250, .inl (a31_ 0))), (h3, .inl (k3, 833, .inl (a31_ 2))), (h4, .inl (k4, 400, .inl (a31_ 3)))]) [0, 1, 2, 3, 4, 5, 6] rfl
          have hDc := hD.sub (ws' := [(h0, .inr (6, mX6 h1 h2 h3 h4 h5 h6 h7 h8 (upd (upd (upd (upd v0 8 (u31_ 1)) 9 (u31_ 2)) 10 (u31_ 3)) 11 (u31_ 4)))), (h6, .inl (k6, 400, .inl (a31_ 5))), (h5, .inl (k5, 400, .inl (a31_ 4))), (h2, .inl (k2, 833, .inl (a31_ 1))), (h1, .inl (k1, 1250, .inl (a31_ 0))), (h3, .inl (k3, 833, .inl (a31_ 2))), (h4, .inl (k4, 400, .inl (a31_ 3)))]) [0, 1, 2, 3, 4, 5, 6] (by decide) rfl
          have hKc := hK.sub (tys' := [(k6, .int), (k5, .int), (k2, .int), (k1, .int), (k3, .int), (k4, .int)]) [0, 1, 2, 3, 4, 5] rfl
          have hFc := va_free (wc := [(h0, .inr (6, mX6 h1 h2 h3 h4 h5 h6 h7 h8 (upd (upd (upd (upd v0 8 (u31_ 1)) 9 (u31_ 2)) 10 (u31_ 3)) 11 (u31_ 4)))), (h6, .inl (k6, 400, .inl (a31_ 5))), (h5, .inl (k5, 400, .inl (a31_ 4))), (h2, .inl (k2, 833, .inl (a31_ 1))), (h1, .inl (k1, 1250, .inl (a31_ 0))), (h3, .inl (k3, 833, .inl (a31_ 2))), (h4, .inl (k4, 400, .inl (a31_ 3)))]) hD hS hA [0, 1, 2, 3, 4, 5, 6] rfl
          refine va_callv (va_runV (As := [.int x1, .int z43]) (rest := []) ⟨hx, hb, hml, hown, hG⟩ (sX6_appendBit_0 l dC dI adK adV h0 h6 h5 h2 h1 h3 h4 h7 h8 k6 k5 k2 k1 k3 k4 H.size (upd (upd (upd (upd v0 8 (u31_ 1)) 9 (u31_ 2)) 10 (u31_ 3)) 11 (u31_ 4)) (a31_ 5) (a31_ 4) (a31_ 1) (a31_ 0) (a31_ 2) (a31_ 3) x1 z43 (zR_updF (zR_updF (zR_upd (zR_upd hv0 8 (show (0 : Int) ≤ ((u31_ 1) : Int32).toInt from by omega) (show ((u31_ 1) : Int32).toInt ≤ (833 : Int) from by omega)) 9 (show (0 : Int) ≤ ((u31_ 2) : Int32).toInt from by omega) (show ((u31_ 2) : Int32).toInt ≤ (1250 : Int) from by omega)) 10 rfl) 11 rfl) ha31_4 ha31_1 (show zPhi (a31_ 1) (a31_ 4) (a31_ 5) (u31_ 2).toInt (u31_ 1).toInt from by assumption)) (cwV 2 hG (zgV zw198 zw199 zw200 zw146 zw201) rfl rfl rfl (by decide +kernel) ⟨Nat.le_of_ble_eq_true rfl, Nat.le_of_ble_eq_true rfl⟩) ⟨zPc_blind, va_recv hKc hPc (ci := 6) (q0 := 0) rfl rfl, zPc_pre hPc hKc hDc hE hS hFc hZ⟩ rfl rfl hl.1 rfl (lv_room (Nat.le_of_ble_eq_true rfl)) dX6_append_44 ⟨Nat.le_of_ble_eq_true rfl, Nat.le_of_ble_eq_true rfl⟩) hS (fun q _ h => hFc q h) hFc (fun u44_ t H1 locs ht hvm hw hB hz1 hk1 hS => ?_)
          have hw : (0 ≤ (u44_ 0).toInt ∧ (u44_ 0).toInt ≤ 833) ∧ (0 ≤ (u44_ 1).toInt ∧ (u44_ 1).toInt ≤ 1250) := hw
          obtain ⟨b_, b_⟩ := hw
          obtain ⟨w44_, a44_, b44_, ha44_1, ha44_2, hB44_0, hP1, hK1, hD1⟩ := hB
          have hB44_0 : zPhi (a44_ 2) (a44_ 1) (a44_ 0) (u44_ 1).toInt (u44_ 0).toInt := hB44_0
          rw [ht] at hP1
          obtain ⟨hP, hD⟩ := va_join (wr := []) (w1 := [(h0, .inr (6, mX6 h1 h2 h3 h4 h5 h6 h7 h8 (upd (upd (upd (upd v0 8 (u44_ 0)) 9 (u44_ 1)) 10 (u44_ 2)) 11 (u44_ 3)))), (h6, .inl (k6, 400, .inl (a44_ 0))), (h5, .inl (k5, 400, .inl (a44_ 1))), (h2, .inl (k2, 833, .inl (a44_ 2))), (h1, .inl (k1, 1250, .inl (a44_ 3))), (h3, .inl (k3, 833, .inl (a44_ 4))), (h4, .inl (k4, 400, .inl (a44_ 5)))]) hP hD [0, 1, 2, 3, 4, 5, 6] [] rfl rfl (by decide) (by decide) hk1 hFc hP1 hD1
          have hP : va_P (dC, dI) vwCl [(h0, .inr (6, mX6 h1 h2 h3 h4 h5 h6 h7 h8 (upd (upd (upd (upd v0 8 (u44_ 0)) 9 (u44_ 1)) 10 (u44_ 2)) 11 (u44_ 3)))), (h6, .inl (k6, 400, .inl (a44_ 0))), (h5, .inl (k5, 400, .inl (a44_ 1))), (h2, .inl (k2, 833, .inl (a44_ 2))), (h1, .inl (k1, 1250, .inl (a44_ 3))), (h3, .inl (k3, 833, .inl (a44_ 4))), (h4, .inl (k4, 400, .inl (a44_ 5)))] H1 := hP.sub [0, 1, 2, 3, 4, 5, 6] rfl
          have hD : va_D A [(h0, .inr (6, mX6 h1 h2 h3 h4 h5 h6 h7 h8 (upd (upd (upd (upd v0 8 (u44_ 0)) 9 (u44_ 1)) 10 (u44_ 2)) 11 (u44_ 3)))), (h6, .inl (k6, 400, .inl (a44_ 0))), (h5, .inl (k5, 400, .inl (a44_ 1))), (h2, .inl (k2, 833, .inl (a44_ 2))), (h1, .inl (k1, 1250, .inl (a44_ 3))), (h3, .inl (k3, 833, .inl (a44_ 4))), (h4, .inl (k4, 400, .inl (a44_ 5)))] := hD.sub [0, 1, 2, 3, 4, 5, 6] (by decide) rfl
          generalize H1 = H at hP hS ⊢
          clear hz1
          obtain ⟨z47, e_z47⟩ : ∃ z : Int32, z = (u31_ 0) + Int32.ofInt (-1) := ⟨_, rfl⟩
          have b_ := zadd (x := (u31_ 0)) (y := Int32.ofInt (-1)) rfl (show (Int32.ofInt (-1)).toInt = (-1) from by decide) e_z47 (by omega) (by omega)
          refine lv_iinc (v := z47) (lv' := [(4, .int z47), (0, .ref h0), (1, .int x1), (2, .int x2), (3, .int r1_)]) hx hb dX6_append_47 hl (k := 4) rfl e_z47.symm (by decide) rfl (fun ls hl => ?_)
          refine lv_goto (tgt := 31) hx hb dX6_append_50 (by decide) ?_
          have b_ : -2147483648 ≤ x1.toInt ∧ x1.toInt ≤ 2147483647 := ⟨zlo _, zhi _⟩
          have hc : va_P (dC, dI) vwCl [(h0, .inr (6, mX6 h1 h2 h3 h4 h5 h6 h7 h8 (upd (upd (upd (upd v0 8 (u44_ 0)) 9 (u44_ 1)) 10 (u44_ 2)) 11 (u44_ 3)))), (h6, .inl (k6, 400, .inl (a44_ 0))), (h5, .inl (k5, 400, .inl (a44_ 1))), (h2, .inl (k2, 833, .inl (a44_ 2))), (h1, .inl (k1, 1250, .inl (a44_ 3))), (h3, .inl (k3, 833, .inl (a44_ 4))), (h4, .inl (k4, 400, .inl (a44_ 5)))] H ∧ va_D A [(h0, .inr (6, mX6 h1 h2 h3 h4 h5 h6 h7 h8 (upd (upd (upd (upd v0 8 (u44_ 0)) 9 (u44_ 1)) 10 (u44_ 2)) 11 (u44_ 3)))), (h6, .inl (k6, 400, .inl (a44_ 0))), (h5, .inl (k5, 400, .inl (a44_ 1))), (h2, .inl (k2, 833, .inl (a44_ 2))), (h1, .inl (k1, 1250, .inl (a44_ 3))), (h3, .inl (k3, 833, .inl (a44_ 4))), (h4, .inl (k4, 400, .inl (a44_ 5)))] ∧ va_S A s.heap H locs ∧ lv_has ls 5 [(0, .ref h0), (1, .int x1), (2, .int x2), (3, .int r1_), (4, .int z47)] ∧ zA 0 1250 (a44_ 2) ∧ zA 0 832 (a44_ 1) ∧ ((-1) ≤ z47.toInt ∧ z47.toInt ≤ 31) ∧ (0 ≤ (u44_ 0).toInt ∧ (u44_ 0).toInt ≤ 833) ∧ (0 ≤ (u44_ 1).toInt ∧ (u44_ 1).toInt ≤ 1250) ∧ (zPhi (a44_ 2) (a44_ 1) (a44_ 0) (u44_ 1).toInt (u44_ 0).toInt) := ⟨hP, hD, hS, lv_sub hl [1, 2, 3, 4, 0] rfl, ha44_2, ha44_1, ⟨by omega, by omega⟩, ⟨by omega, by omega⟩, ⟨by omega, by omega⟩, by assumption⟩
          exact hJ31 H locs ls (fun i => ([z47, (u44_ 0), (u44_ 1), (u44_ 2), (u44_ 3)] : List (Int32)).getD i 0) (fun _ => 0) (fun i => ([(a44_ 3), (a44_ 2), (a44_ 4), (a44_ 5), (a44_ 1), (a44_ 0)] : List (Nat → Int32)).getD i (fun _ => 0)) (fun _ => (fun _ => 0)) hc (show (z47.toInt - (-1)).toNat < ((u31_ 0).toInt - (-1)).toNat from by omega)
      · skip
        have b_ : -2147483648 ≤ x1.toInt ∧ x1.toInt ≤ 2147483647 := ⟨zlo _, zhi _⟩
        have b_ : -2147483648 ≤ x2.toInt ∧ x2.toInt ≤ 2147483647 := ⟨zlo _, zhi _⟩
        have hc : va_P (dC, dI) vwCl [(h0, .inr (6, mX6 h1 h2 h3 h4 h5 h6 h7 h8 (upd (upd (upd (upd v0 8 (u8_ 1)) 9 (u8_ 2)) 10 (u8_ 3)) 11 (u8_ 4)))), (h6, .inl (k6, 400, .inl (a8_ 5))), (h5, .inl (k5, 400, .inl (a8_ 4))), (h2, .inl (k2, 833, .inl (a8_ 1))), (h1, .inl (k1, 1250, .inl (a8_ 0))), (h3, .inl (k3, 833, .inl (a8_ 2))), (h4, .inl (k4, 400, .inl (a8_ 3)))] H ∧ va_D A [(h0, .inr (6, mX6 h1 h2 h3 h4 h5 h6 h7 h8 (upd (upd (upd (upd v0 8 (u8_ 1)) 9 (u8_ 2)) 10 (u8_ 3)) 11 (u8_ 4)))), (h6, .inl (k6, 400, .inl (a8_ 5))), (h5, .inl (k5, 400, .inl (a8_ 4))), (h2, .inl (k2, 833, .inl (a8_ 1))), (h1, .inl (k1, 1250, .inl (a8_ 0))), (h3, .inl (k3, 833, .inl (a8_ 2))), (h4, .inl (k4, 400, .inl (a8_ 3)))] ∧ va_S A s.heap H locs ∧ lv_has ls 5 [(0, .ref h0), (1, .int x1), (2, .int x2), (3, .int r1_), (4, .int z28)] ∧ zA 0 1250 (a8_ 1) ∧ zA 0 832 (a8_ 4) ∧ ((-1) ≤ z28.toInt ∧ z28.toInt ≤ 31) ∧ (0 ≤ (u8_ 1).toInt ∧ (u8_ 1).toInt ≤ 833) ∧ (0 ≤ (u8_ 2).toInt ∧ (u8_ 2).toInt ≤ 1250) ∧ (zPhi (a8_ 1) (a8_ 4) (a8_ 5) (u8_ 2).toInt (u8_ 1).toInt) := ⟨hP, hD, hS, lv_sub hl [1, 2, 3, 4, 0] rfl, ha8_1, ha8_4, ⟨by omega, by omega⟩, ⟨by omega, by omega⟩, ⟨by omega, by omega⟩, by assumption⟩
        exact hJ31 H locs ls (fun i => ([z28, (u8_ 1), (u8_ 2), (u8_ 3), (u8_ 4)] : List (Int32)).getD i 0) (fun _ => 0) (fun i => ([(a8_ 0), (a8_ 1), (a8_ 2), (a8_ 3), (a8_ 4), (a8_ 5)] : List (Nat → Int32)).getD i (fun _ => 0)) (fun _ => (fun _ => 0)) hc
    · skip
      have b_ := zF_ge rfl rfl c_
      refine lv_aload_n hx hb dX6_append_14 rfl (lv_at hl 0 rfl) ?_
      refine lv_iload_n hx hb dX6_append_15 rfl (lv_at hl 1 rfl) ?_
      refine lv_iconst (v := 0) hx hb dX6_append_16 (by decide) ?_
      have b_ : -2147483648 ≤ (u8_ 3).toInt ∧ (u8_ 3).toInt ≤ 2147483647 := ⟨zlo _, zhi _⟩
      have b_ : -2147483648 ≤ (u8_ 4).toInt ∧ (u8_ 4).toInt ≤ 2147483647 := ⟨zlo _, zhi _⟩
      have hPc := hP.sub (ws' := [(h0, .inr (6, mX6 h1 h2 h3 h4 h5 h6 h7 h8 (upd (upd (upd (upd v0 8 (u8_ 1)) 9 (u8_ 2)) 10 (u8_ 3)) 11 (u8_ 4)))), (h6, .inl (k6, 400, .inl (a8_ 5))), (h5, .inl (k5, 400, .inl (a8_ 4))), (h2, .inl (k2, 833, .inl (a8_ 1))), (h1, .inl (k1, 1250, .inl (a8_ 0))), (h3, .inl (k3, 833, .inl (a8_ 2))), (h4, .inl (k4, 400, .inl (a8_ 3)))]) [0, 1, 2, 3, 4, 5, 6] rfl
      have hDc := hD.sub (ws' := [(h0, .inr (6, mX6 h1 h2 h3 h4 h5 h6 h7 h8 (upd (upd (upd (upd v0 8 (u8_ 1)) 9 (u8_ 2)) 10 (u8_ 3)) 11 (u8_ 4)))), (h6, .inl (k6, 400, .inl (a8_ 5))), (h5, .inl (k5, 400, .inl (a8_ 4))), (h2, .inl (k2, 833, .inl (a8_ 1))), (h1, .inl (k1, 1250, .inl (a8_ 0))), (h3, .inl (k3, 833, .inl (a8_ 2))), (h4, .inl (k4, 400, .inl (a8_ 3)))]) [0, 1, 2, 3, 4, 5, 6] (by decide) rfl
      have hKc := hK.sub (tys' := [(k6, .int), (k5, .int), (k2, .int), (k1, .int), (k3, .int), (k4, .int)]) [0, 1, 2, 3, 4, 5] rfl
      have hFc := va_free (wc := [(h0, .inr (6, mX6 h1 h2 h3 h4 h5 h6 h7 h8 (upd (upd (upd (upd v0 8 (u8_ 1)) 9 (u8_ 2)) 10 (u8_ 3)) 11 (u8_ 4)))), (h6, .inl (k6, 400, .inl (a8_ 5))), (h5, .inl (k5, 400, .inl (a8_ 4))), (h2, .inl (k2, 833, .inl (a8_ 1))), (h1, .inl (k1, 1250, .inl (a8_ 0))), (h3, .inl (k3, 833, .inl (a8_ 2))), (h4, .inl (k4, 400, .inl (a8_ 3)))]) hD hS hA [0, 1, 2, 3, 4, 5, 6] rfl
      refine va_callv (va_runV (As := [.int x1, .int 0]) (rest := []) ⟨hx, hb, hml, hown, hG⟩ (sX6_appendBit_0 l dC dI adK adV h0 h6 h5 h2 h1 h3 h4 h7 h8 k6 k5 k2 k1 k3 k4 H.size (upd (upd (upd (upd v0 8 (u8_ 1)) 9 (u8_ 2)) 10 (u8_ 3)) 11 (u8_ 4)) (a8_ 5) (a8_ 4) (a8_ 1) (a8_ 0) (a8_ 2) (a8_ 3) x1 0 (zR_updF (zR_updF (zR_upd (zR_upd hv0 8 (show (0 : Int) ≤ ((u8_ 1) : Int32).toInt from by omega) (show ((u8_ 1) : Int32).toInt ≤ (833 : Int) from by omega)) 9 (show (0 : Int) ≤ ((u8_ 2) : Int32).toInt from by omega) (show ((u8_ 2) : Int32).toInt ≤ (1250 : Int) from by omega)) 10 rfl) 11 rfl) ha8_4 ha8_1 (show zPhi (a8_ 1) (a8_ 4) (a8_ 5) (u8_ 2).toInt (u8_ 1).toInt from by assumption)) (cwV 2 hG (zgV zw198 zw199 zw200 zw146 zw201) rfl rfl rfl (by decide +kernel) ⟨Nat.le_of_ble_eq_true rfl, Nat.le_of_ble_eq_true rfl⟩) ⟨zPc_blind, va_recv hKc hPc (ci := 6) (q0 := 0) rfl rfl, zPc_pre hPc hKc hDc hE hS hFc hZ⟩ rfl rfl hl.1 rfl (lv_room (Nat.le_of_ble_eq_true rfl)) dX6_append_17 ⟨Nat.le_of_ble_eq_true rfl, Nat.le_of_ble_eq_true rfl⟩) hS (fun q _ h => hFc q h) hFc (fun u17_ t H1 locs ht hvm hw hB hz1 hk1 hS => ?_)
      have hw : (0 ≤ (u17_ 0).toInt ∧ (u17_ 0).toInt ≤ 833) ∧ (0 ≤ (u17_ 1).toInt ∧ (u17_ 1).toInt ≤ 1250) := hw
      obtain ⟨b_, b_⟩ := hw
      obtain ⟨w17_, a17_, b17_, ha17_1, ha17_2, hB17_0, hP1, hK1, hD1⟩ := hB
      have hB17_0 : zPhi (a17_ 2) (a17_ 1) (a17_ 0) (u17_ 1).toInt (u17_ 0).toInt := hB17_0
      rw [ht] at hP1
      obtain ⟨hP, hD⟩ := va_join (wr := []) (w1 := [(h0, .inr (6, mX6 h1 h2 h3 h4 h5 h6 h7 h8 (upd (upd (upd (upd v0 8 (u17_ 0)) 9 (u17_ 1)) 10 (u17_ 2)) 11 (u17_ 3)))), (h6, .inl (k6, 400, .inl (a17_ 0))), (h5, .inl (k5, 400, .inl (a17_ 1))), (h2, .inl (k2, 833, .inl (a17_ 2))), (h1, .inl (k1, 1250, .inl (a17_ 3))), (h3, .inl (k3, 833, .inl (a17_ 4))), (h4, .inl (k4, 400, .inl (a17_ 5)))]) hP hD [0, 1, 2, 3, 4, 5, 6] [] rfl rfl (by decide) (by decide) hk1 hFc hP1 hD1
      have hP : va_P (dC, dI) vwCl [(h0, .inr (6, mX6 h1 h2 h3 h4 h5 h6 h7 h8 (upd (upd (upd (upd v0 8 (u17_ 0)) 9 (u17_ 1)) 10 (u17_ 2)) 11 (u17_ 3)))), (h6, .inl (k6, 400, .inl (a17_ 0))), (h5, .inl (k5, 400, .inl (a17_ 1))), (h2, .inl (k2, 833, .inl (a17_ 2))), (h1, .inl (k1, 1250, .inl (a17_ 3))), (h3, .inl (k3, 833, .inl (a17_ 4))), (h4, .inl (k4, 400, .inl (a17_ 5)))] H1 := hP.sub [0, 1, 2, 3, 4, 5, 6] rfl
      have hD : va_D A [(h0, .inr (6, mX6 h1 h2 h3 h4 h5 h6 h7 h8 (upd (upd (upd (upd v0 8 (u17_ 0)) 9 (u17_ 1)) 10 (u17_ 2)) 11 (u17_ 3)))), (h6, .inl (k6, 400, .inl (a17_ 0))), (h5, .inl (k5, 400, .inl (a17_ 1))), (h2, .inl (k2, 833, .inl (a17_ 2))), (h1, .inl (k1, 1250, .inl (a17_ 3))), (h3, .inl (k3, 833, .inl (a17_ 4))), (h4, .inl (k4, 400, .inl (a17_ 5)))] := hD.sub [0, 1, 2, 3, 4, 5, 6] (by decide) rfl
      generalize H1 = H at hP hS ⊢
      clear hz1
      obtain ⟨z20, e_z20⟩ : ∃ z : Int32, z = (u8_ 0) + Int32.ofInt 1 := ⟨_, rfl⟩
      have b_ := zadd (x := (u8_ 0)) (y := Int32.ofInt 1) rfl (show (Int32.ofInt 1).toInt = 1 from by decide) e_z20 (by omega) (by omega)
      refine lv_iinc (v := z20) (lv' := [(4, .int z20), (0, .ref h0), (1, .int x1), (2, .int x2), (3, .int r1_)]) hx hb dX6_append_20 hl (k := 4) rfl e_z20.symm (by decide) rfl (fun ls hl => ?_)
      refine lv_goto (tgt := 8) hx hb dX6_append_23 (by decide) ?_
      have b_ : -2147483648 ≤ x1.toInt ∧ x1.toInt ≤ 2147483647 := ⟨zlo _, zhi _⟩
      have b_ : -2147483648 ≤ x2.toInt ∧ x2.toInt ≤ 2147483647 := ⟨zlo _, zhi _⟩
      have hc : va_P (dC, dI) vwCl [(h0, .inr (6, mX6 h1 h2 h3 h4 h5 h6 h7 h8 (upd (upd (upd (upd v0 8 (u17_ 0)) 9 (u17_ 1)) 10 (u17_ 2)) 11 (u17_ 3)))), (h6, .inl (k6, 400, .inl (a17_ 0))), (h5, .inl (k5, 400, .inl (a17_ 1))), (h2, .inl (k2, 833, .inl (a17_ 2))), (h1, .inl (k1, 1250, .inl (a17_ 3))), (h3, .inl (k3, 833, .inl (a17_ 4))), (h4, .inl (k4, 400, .inl (a17_ 5)))] H ∧ va_D A [(h0, .inr (6, mX6 h1 h2 h3 h4 h5 h6 h7 h8 (upd (upd (upd (upd v0 8 (u17_ 0)) 9 (u17_ 1)) 10 (u17_ 2)) 11 (u17_ 3)))), (h6, .inl (k6, 400, .inl (a17_ 0))), (h5, .inl (k5, 400, .inl (a17_ 1))), (h2, .inl (k2, 833, .inl (a17_ 2))), (h1, .inl (k1, 1250, .inl (a17_ 3))), (h3, .inl (k3, 833, .inl (a17_ 4))), (h4, .inl (k4, 400, .inl (a17_ 5)))] ∧ va_S A s.heap H locs ∧ lv_has ls 5 [(0, .ref h0), (1, .int x1), (2, .int x2), (3, .int r1_), (4, .int z20)] ∧ zA 0 1250 (a17_ 2) ∧ zA 0 832 (a17_ 1) ∧ (1 ≤ z20.toInt ∧ z20.toInt ≤ 32) ∧ (0 ≤ (u17_ 0).toInt ∧ (u17_ 0).toInt ≤ 833) ∧ (0 ≤ (u17_ 1).toInt ∧ (u17_ 1).toInt ≤ 1250) ∧ (zPhi (a17_ 2) (a17_ 1) (a17_ 0) (u17_ 1).toInt (u17_ 0).toInt) := ⟨hP, hD, hS, lv_sub hl [1, 2, 3, 4, 0] rfl, ha17_2, ha17_1, ⟨by omega, by omega⟩, ⟨by omega, by omega⟩, ⟨by omega, by omega⟩, by assumption⟩
      exact hJ8 H locs ls (fun i => ([z20, (u17_ 0), (u17_ 1), (u17_ 2), (u17_ 3)] : List (Int32)).getD i 0) (fun _ => 0) (fun i => ([(a17_ 3), (a17_ 2), (a17_ 4), (a17_ 5), (a17_ 1), (a17_ 0)] : List (Nat → Int32)).getD i (fun _ => 0)) (fun _ => (fun _ => 0)) hc (show (32 - z20.toInt).toNat < (32 - (u8_ 0).toInt).toNat from by omega)
  · skip
    have b_ : -2147483648 ≤ x1.toInt ∧ x1.toInt ≤ 2147483647 := ⟨zlo _, zhi _⟩
    have b_ : -2147483648 ≤ x2.toInt ∧ x2.toInt ≤ 2147483647 := ⟨zlo _, zhi _⟩
    have hc : va_P (dC, dI) vwCl [(h0, .inr (6, mX6 h1 h2 h3 h4 h5 h6 h7 h8 (upd (upd (upd (upd v0 8 (v0 8)) 9 (v0 9)) 10 (v0 10)) 11 (v0 11)))), (h6, .inl (k6, 400, .inl f6)), (h5, .inl (k5, 400, .inl f5)), (h2, .inl (k2, 833, .inl f2)), (h1, .inl (k1, 1250, .inl f1)), (h3, .inl (k3, 833, .inl f3)), (h4, .inl (k4, 400, .inl f4))] H ∧ va_D A [(h0, .inr (6, mX6 h1 h2 h3 h4 h5 h6 h7 h8 (upd (upd (upd (upd v0 8 (v0 8)) 9 (v0 9)) 10 (v0 10)) 11 (v0 11)))), (h6, .inl (k6, 400, .inl f6)), (h5, .inl (k5, 400, .inl f5)), (h2, .inl (k2, 833, .inl f2)), (h1, .inl (k1, 1250, .inl f1)), (h3, .inl (k3, 833, .inl f3)), (h4, .inl (k4, 400, .inl f4))] ∧ va_S A s.heap H locs ∧ lv_has ls 5 [(0, .ref h0), (1, .int x1), (2, .int x2), (3, .int r1_), (4, .int 1)] ∧ zA 0 1250 f2 ∧ zA 0 832 f5 ∧ (1 ≤ (1 : Int32).toInt ∧ (1 : Int32).toInt ≤ 32) ∧ (0 ≤ (v0 8).toInt ∧ (v0 8).toInt ≤ 833) ∧ (0 ≤ (v0 9).toInt ∧ (v0 9).toInt ≤ 1250) ∧ (zPhi f2 f5 f6 (v0 9).toInt (v0 8).toInt) := ⟨hP, hD, hS, lv_sub hl [2, 3, 4, 1, 0] rfl, hf2, hf5, ⟨by omega, by omega⟩, ⟨by omega, by omega⟩, ⟨by omega, by omega⟩, by assumption⟩
    exact hJ8 H locs ls (fun i => ([1, (v0 8), (v0 9), (v0 10), (v0 11)] : List (Int32)).getD i 0) (fun _ => 0) (fun i => ([f1, f2, f3, f4, f5, f6] : List (Nat → Int32)).getD i (fun _ => 0)) (fun _ => (fun _ => 0)) hc
set_option maxHeartbeats 8000000 in
set_option maxRecDepth 100000 in
theorem sX6_startDocument_0 (l : Launch) (dC : Nat → ClassId) (dI : Nat → Nat → Nat) (adK adV : Nat → Nat) (h0 : Nat) (h8 : Nat) (h6 : Nat) (h5 : Nat) (h2 : Nat) (h1 : Nat) (h3 : Nat) (h4 : Nat) (h7 : Nat) (k8 : ClassId) (k6 : ClassId) (k5 : ClassId) (k2 : ClassId) (k1 : ClassId) (k3 : ClassId) (k4 : ClassId) (k7 : ClassId) (sz : Nat) (v0 : Nat → Int32) (f8 : Nat → Int32) (f6 : Nat → Int32) (f5 : Nat → Int32) (f2 : Nat → Int32) (f1 : Nat → Int32) (f3 : Nat → Int32) (f4 : Nat → Int32) (f7 : Nat → Int32) (x1 : Int32) (x2 : Int32) (x3 : Int32) (hv0 : zR rg_Postings v0) (hf5 : zA 0 832 f5) (hf2 : zA 0 1250 f2) (hp0_ : zPhi f2 f5 f6 (v0 9).toInt (v0 8).toInt) : Met l yX6_startDocument (zw yX6_startDocument cX6_startDocument 4 none) { frames := 4, cells := 0, slots := 0, locals := 91 } (zPc dC dI adK adV [.ref h0, .int x1, .int x2, .int x3] sz [(h0, .inr (6, mX6 h1 h2 h3 h4 h5 h6 h7 h8 v0)), (h8, .inl (k8, 400, .inl f8)), (h6, .inl (k6, 400, .inl f6)), (h5, .inl (k5, 400, .inl f5)), (h2, .inl (k2, 833, .inl f2)), (h1, .inl (k1, 1250, .inl f1)), (h3, .inl (k3, 833, .inl f3)), (h4, .inl (k4, 400, .inl f4)), (h7, .inl (k7, 400, .inl f7))] [(k8, .int), (k6, .int), (k5, .int), (k2, .int), (k1, .int), (k3, .int), (k4, .int), (k7, .int)]) (va_Qv (fun (u : Nat → Int32) => (0 ≤ (u 0).toInt ∧ (u 0).toInt ≤ 833) ∧ (0 ≤ (u 1).toInt ∧ (u 1).toInt ≤ 1250)) (fun (u : Nat → Int32) (t : State) => ∃ (ww : Nat → Int64) (aa : Nat → Nat → Int32) (bb : Nat → Nat → Int64), zA 0 832 (aa 2) ∧ zA 0 1250 (aa 3) ∧ (zPhi (aa 3) (aa 2) (aa 1) (u 1).toInt (u 0).toInt) ∧ va_P (dC, dI) vwCl [(h0, .inr (6, mX6 h1 h2 h3 h4 h5 h6 h7 h8 (upd (upd (upd (upd v0 8 (u 0)) 9 (u 1)) 10 (u 2)) 11 (u 3)))), (h8, .inl (k8, 400, .inl (aa 0))), (h6, .inl (k6, 400, .inl (aa 1))), (h5, .inl (k5, 400, .inl (aa 2))), (h2, .inl (k2, 833, .inl (aa 3))), (h1, .inl (k1, 1250, .inl (aa 4))), (h3, .inl (k3, 833, .inl (aa 5))), (h4, .inl (k4, 400, .inl (aa 6))), (h7, .inl (k7, 400, .inl (aa 7)))] t.heap ∧ va_K (dC, dI) vwCl [(k8, .int), (k6, .int), (k5, .int), (k2, .int), (k1, .int), (k3, .int), (k4, .int), (k7, .int)] t ∧ va_D (va_A [(h0, .inr (6, mX6 h1 h2 h3 h4 h5 h6 h7 h8 v0)), (h8, .inl (k8, 400, .inl f8)), (h6, .inl (k6, 400, .inl f6)), (h5, .inl (k5, 400, .inl f5)), (h2, .inl (k2, 833, .inl f2)), (h1, .inl (k1, 1250, .inl f1)), (h3, .inl (k3, 833, .inl f3)), (h4, .inl (k4, 400, .inl f4)), (h7, .inl (k7, 400, .inl f7))] sz) [(h0, .inr (6, mX6 h1 h2 h3 h4 h5 h6 h7 h8 (upd (upd (upd (upd v0 8 (u 0)) 9 (u 1)) 10 (u 2)) 11 (u 3)))), (h8, .inl (k8, 400, .inl (aa 0))), (h6, .inl (k6, 400, .inl (aa 1))), (h5, .inl (k5, 400, .inl (aa 2))), (h2, .inl (k2, 833, .inl (aa 3))), (h1, .inl (k1, 1250, .inl (aa 4))), (h3, .inl (k3, 833, .inl (aa 5))), (h4, .inl (k4, 400, .inl (aa 6))), (h7, .inl (k7, 400, .inl (aa 7)))]) (va_A [(h0, .inr (6, mX6 h1 h2 h3 h4 h5 h6 h7 h8 v0)), (h8, .inl (k8, 400, .inl f8)), (h6, .inl (k6, 400, .inl f6)), (h5, .inl (k5, 400, .inl f5)), (h2, .inl (k2, 833, .inl f2)), (h1, .inl (k1, 1250, .inl f1)), (h3, .inl (k3, 833, .inl f3)), (h4, .inl (k4, 400, .inl f4)), (h7, .inl (k7, 400, .inl f7))] sz)) 0 0 (va_A [(h0, .inr (6, mX6 h1 h2 h3 h4 h5 h6 h7 h8 v0)), (h8, .inl (k8, 400, .inl f8)), (h6, .inl (k6, 400, .inl f6)), (h5, .inl (k5, 400, .inl f5)), (h2, .inl (k2, 833, .inl f2)), (h1, .inl (k1, 1250, .inl f1)), (h3, .inl (k3, 833, .inl f3)), (h4, .inl (k4, 400, .inl f4)), (h7, .inl (k7, 400, .inl f7))] sz) := by
  refine Met.ofW (cc := cX6_startDocument) (maxL := 4) (ret := none) (by decide) rfl ?_
  intro p e s m args below meth c s₁ B hml hv
  obtain ⟨rfl, hsz, hP, hK, hD0, hE, hZ⟩ := hv
  have hx := B.exec
  have hb := B.bytes
  have hr := B.returns
  have hG : ∀ w ∈ zG, w.before _ s = true := fun w h => atoms_spec (ws := (zw yX6_startDocument cX6_startDocument 4 none)) B.pre w (List.mem_cons_of_mem _ h)
  have hown : s.vm.findClass RX6 = some m.cls := findClass_of_methodNamed B.named
  have hlocks := B.notSynchronized

  subst hsz
  have hD := hD0.self (sz := s.heap.size)
  generalize hAe : va_A [(h0, .inr (6, mX6 h1 h2 h3 h4 h5 h6 h7 h8 v0)), (h8, .inl (k8, 400, .inl f8)), (h6, .inl (k6, 400, .inl f6)), (h5, .inl (k5, 400, .inl f5)), (h2, .inl (k2, 833, .inl f2)), (h1, .inl (k1, 1250, .inl f1)), (h3, .inl (k3, 833, .inl f3)), (h4, .inl (k4, 400, .inl f4)), (h7, .inl (k7, 400, .inl f7))] s.heap.size = A at hD hZ ⊢
  have hA : ∀ q : Nat, s.heap.size ≤ q → A q := fun q h => by rw [← hAe]; exact Or.inr h
  have hS : va_S A s.heap s.heap [] := va_S.rf
  have hl := lv_entry ([.ref h0, .int x1, .int x2, .int x3]) (n := 4) (Nat.le_of_ble_eq_true rfl)
  rw [lg_entry_eq]
  generalize (lg_sl ([.ref h0, .int x1, .int x2, .int x3]) ++ List.replicate (4 - (lg_sl ([.ref h0, .int x1, .int x2, .int x3])).length) Slot.unset).toArray = ls at hl ⊢
  have hl : lv_has ls 4 [(0, .ref h0), (1, .int x1), (2, .int x2), (3, .int x3)] := hl
  have b_ : 0 ≤ (v0 9).toInt ∧ (v0 9).toInt ≤ 1250 := hv0 9
  have b_ : 0 ≤ (v0 8).toInt ∧ (v0 8).toInt ≤ 833 := hv0 8
  refine lv_iload_n hx hb dX6_startDocument_0 rfl (lv_at hl 1 rfl) ?_
  have hPc := hP.sub (ws' := []) [] rfl
  have hDc := hD.sub (ws' := []) [] (by decide) rfl
  have hKc := hK.sub (tys' := []) [] rfl
  have hFc := va_free (wc := []) hD hS hA [] rfl
  refine va_calli (va_runS (As := [.int x1]) (rest := []) ⟨hx, hb, hml, hown, hG⟩ (sX6_isId_0 l dC dI adK adV s.heap.size x1) (va_cwS 1 hG (zgS zw165 zw166 zw146 zw167) rfl rfl rfl (by decide +kernel) ⟨Nat.le_of_ble_eq_true rfl, Nat.le_of_ble_eq_true rfl⟩) ⟨zPc_blind, zPc_pre hPc hKc hDc hE hS hFc hZ⟩ rfl rfl hl.1 rfl (lv_room (Nat.le_of_ble_eq_true rfl)) dX6_startDocument_1 ⟨Nat.le_of_ble_eq_true rfl, Nat.le_of_ble_eq_true rfl⟩) hS (fun q _ h => hFc q h) hFc (fun r1_ u1_ t H1 locs ht hvm hw hB hz1 hk1 hS => ?_)
  have hw : (0 ≤ r1_.toInt ∧ r1_.toInt ≤ 1) ∧ (r1_.toInt = 1 → (0 ≤ x1.toInt ∧ x1.toInt ≤ 399)) := hw
  obtain ⟨b_, hX1_0⟩ := hw
  obtain ⟨w1_, a1_, b1_, hP1, hK1, hD1⟩ := hB
  rw [ht] at hP1
  obtain ⟨hP, hD⟩ := va_join (wr := [(h0, .inr (6, mX6 h1 h2 h3 h4 h5 h6 h7 h8 v0)), (h8, .inl (k8, 400, .inl f8)), (h6, .inl (k6, 400, .inl f6)), (h5, .inl (k5, 400, .inl f5)), (h2, .inl (k2, 833, .inl f2)), (h1, .inl (k1, 1250, .inl f1)), (h3, .inl (k3, 833, .inl f3)), (h4, .inl (k4, 400, .inl f4)), (h7, .inl (k7, 400, .inl f7))]) (w1 := []) hP hD [] [0, 1, 2, 3, 4, 5, 6, 7, 8] rfl rfl (by decide) (by decide) hk1 hFc hP1 hD1
  have hP : va_P (dC, dI) vwCl [(h0, .inr (6, mX6 h1 h2 h3 h4 h5 h6 h7 h8 v0)), (h8, .inl (k8, 400, .inl f8)), (h6, .inl (k6, 400, .inl f6)), (h5, .inl (k5, 400, .inl f5)), (h2, .inl (k2, 833, .inl f2)), (h1, .inl (k1, 1250, .inl f1)), (h3, .inl (k3, 833, .inl f3)), (h4, .inl (k4, 400, .inl f4)), (h7, .inl (k7, 400, .inl f7))] H1 := hP.sub [0, 1, 2, 3, 4, 5, 6, 7, 8] rfl
  have hD : va_D A [(h0, .inr (6, mX6 h1 h2 h3 h4 h5 h6 h7 h8 v0)), (h8, .inl (k8, 400, .inl f8)), (h6, .inl (k6, 400, .inl f6)), (h5, .inl (k5, 400, .inl f5)), (h2, .inl (k2, 833, .inl f2)), (h1, .inl (k1, 1250, .inl f1)), (h3, .inl (k3, 833, .inl f3)), (h4, .inl (k4, 400, .inl f4)), (h7, .inl (k7, 400, .inl f7))] := hD.sub [0, 1, 2, 3, 4, 5, 6, 7, 8] (by decide) rfl
  generalize H1 = H at hP hS ⊢
  clear hz1
  refine lv_if_eq (tgt := 44) hx hb dX6_startDocument_4 (by decide) (fun c_ => ?_) (fun c_ => ?_)
  · skip
    have b_ := zT_eq rfl zk_0 c_
    refine W.widen (k := 0) (n := 0) (by decide) (by decide) ?_
    have b_ : -2147483648 ≤ (v0 10).toInt ∧ (v0 10).toInt ≤ 2147483647 := ⟨zlo _, zhi _⟩
    have b_ : -2147483648 ≤ (v0 11).toInt ∧ (v0 11).toInt ≤ 2147483647 := ⟨zlo _, zhi _⟩
    have hpost : (0 ≤ (v0 8).toInt ∧ (v0 8).toInt ≤ 833) ∧ (0 ≤ (v0 9).toInt ∧ (v0 9).toInt ≤ 1250) := ⟨⟨by omega, by omega⟩, ⟨by omega, by omega⟩⟩
    have hP9 : va_P (dC, dI) vwCl [(h0, .inr (6, mX6 h1 h2 h3 h4 h5 h6 h7 h8 (upd (upd (upd (upd v0 8 (v0 8)) 9 (v0 9)) 10 (v0 10)) 11 (v0 11)))), (h8, .inl (k8, 400, .inl f8)), (h6, .inl (k6, 400, .inl f6)), (h5, .inl (k5, 400, .inl f5)), (h2, .inl (k2, 833, .inl f2)), (h1, .inl (k1, 1250, .inl f1)), (h3, .inl (k3, 833, .inl f3)), (h4, .inl (k4, 400, .inl f4)), (h7, .inl (k7, 400, .inl f7))] H := hP
    have hD9 : va_D A [(h0, .inr (6, mX6 h1 h2 h3 h4 h5 h6 h7 h8 (upd (upd (upd (upd v0 8 (v0 8)) 9 (v0 9)) 10 (v0 10)) 11 (v0 11)))), (h8, .inl (k8, 400, .inl f8)), (h6, .inl (k6, 400, .inl f6)), (h5, .inl (k5, 400, .inl f5)), (h2, .inl (k2, 833, .inl f2)), (h1, .inl (k1, 1250, .inl f1)), (h3, .inl (k3, 833, .inl f3)), (h4, .inl (k4, 400, .inl f4)), (h7, .inl (k7, 400, .inl f7))] := hD
    have hB0 : zPhi f2 f5 f6 (v0 9).toInt (v0 8).toInt := by assumption
    exact W.vret hx hb hr (fun t ht hW => ⟨⟨(fun i => ([(v0 8), (v0 9), (v0 10), (v0 11)] : List (Int32)).getD i 0), rfl, hpost, (fun _ => 0), (fun i => ([f8, f6, f5, f2, f1, f3, f4, f7] : List (Nat → Int32)).getD i (fun _ => 0)), (fun _ => (fun _ => 0)), hf5, hf2, hB0, by rw [ht]; exact hP9, va_K.moved hW.alike hK, hD9⟩, hS.F ht⟩) hS.2.2 dX6_startDocument_44
  · skip
    have b_ := zF_eq rfl zk_0 c_
    refine lv_aload_n hx hb dX6_startDocument_7 rfl (lv_at hl 0 rfl) ?_
    refine lv_iload_n hx hb dX6_startDocument_8 rfl (lv_at hl 1 rfl) ?_
    refine lv_iload_n hx hb dX6_startDocument_9 rfl (lv_at hl 2 rfl) ?_
    refine lv_aload_n hx hb dX6_startDocument_10 rfl (lv_at hl 0 rfl) ?_
    refine lv_iload_n hx hb dX6_startDocument_11 rfl (lv_at hl 1 rfl) ?_
    have hPc := hP.sub (ws' := [(h0, .inr (6, mX6 h1 h2 h3 h4 h5 h6 h7 h8 v0)), (h8, .inl (k8, 400, .inl f8))]) [0, 1] rfl
    have hDc := hD.sub (ws' := [(h0, .inr (6, mX6 h1 h2 h3 h4 h5 h6 h7 h8 v0)), (h8, .inl (k8, 400, .inl f8))]) [0, 1] (by decide) rfl
    have hKc := hK.sub (tys' := [(k8, .int)]) [0] rfl
    have hFc := va_free (wc := [(h0, .inr (6, mX6 h1 h2 h3 h4 h5 h6 h7 h8 v0)), (h8, .inl (k8, 400, .inl f8))]) hD hS hA [0, 1] rfl
    refine va_calli (va_runV (As := [.int x1]) (rest := [.int x2, .int x1, .ref h0]) ⟨hx, hb, hml, hown, hG⟩ (sX6_latestOf_0 l dC dI adK adV h0 h8 h1 h2 h3 h4 h5 h6 h7 k8 H.size v0 f8 x1 hv0) (cwV 1 hG (zgV zw202 zw203 zw204 zw146 zw205) rfl rfl rfl (by decide +kernel) ⟨Nat.le_of_ble_eq_true rfl, Nat.le_of_ble_eq_true rfl⟩) ⟨zPc_blind, va_recv hKc hPc (ci := 6) (q0 := 0) rfl rfl, zPc_pre hPc hKc hDc hE hS hFc hZ⟩ rfl rfl hl.1 rfl (lv_room (Nat.le_of_ble_eq_true rfl)) dX6_startDocument_12 ⟨Nat.le_of_ble_eq_true rfl, Nat.le_of_ble_eq_true rfl⟩) hS (fun q _ h => hFc q h) hFc (fun r12_ u12_ t H1 locs ht hvm hw hB hz1 hk1 hS => ?_)
    obtain ⟨w12_, a12_, b12_, hP1, hK1, hD1⟩ := hB
    rw [ht] at hP1
    obtain ⟨hP, hD⟩ := va_join (wr := [(h6, .inl (k6, 400, .inl f6)), (h5, .inl (k5, 400, .inl f5)), (h2, .inl (k2, 833, .inl f2)), (h1, .inl (k1, 1250, .inl f1)), (h3, .inl (k3, 833, .inl f3)), (h4, .inl (k4, 400, .inl f4)), (h7, .inl (k7, 400, .inl f7))]) (w1 := [(h0, .inr (6, mX6 h1 h2 h3 h4 h5 h6 h7 h8 v0)), (h8, .inl (k8, 400, .inl f8))]) hP hD [0, 1] [2, 3, 4, 5, 6, 7, 8] rfl rfl (by decide) (by decide) hk1 hFc hP1 hD1
    have hP : va_P (dC, dI) vwCl [(h0, .inr (6, mX6 h1 h2 h3 h4 h5 h6 h7 h8 v0)), (h8, .inl (k8, 400, .inl f8)), (h6, .inl (k6, 400, .inl f6)), (h5, .inl (k5, 400, .inl f5)), (h2, .inl (k2, 833, .inl f2)), (h1, .inl (k1, 1250, .inl f1)), (h3, .inl (k3, 833, .inl f3)), (h4, .inl (k4, 400, .inl f4)), (h7, .inl (k7, 400, .inl f7))] H1 := hP.sub [7, 8, 0, 1, 2, 3, 4, 5, 6] rfl
    have hD : va_D A [(h0, .inr (6, mX6 h1 h2 h3 h4 h5 h6 h7 h8 v0)), (h8, .inl (k8, 400, .inl f8)), (h6, .inl (k6, 400, .inl f6)), (h5, .inl (k5, 400, .inl f5)), (h2, .inl (k2, 833, .inl f2)), (h1, .inl (k1, 1250, .inl f1)), (h3, .inl (k3, 833, .inl f3)), (h4, .inl (k4, 400, .inl f4)), (h7, .inl (k7, 400, .inl f7))] := hD.sub [7, 8, 0, 1, 2, 3, 4, 5, 6] (by decide) rfl
    generalize H1 = H at hP hS ⊢
    clear hz1
    have b_ : -2147483648 ≤ x2.toInt ∧ x2.toInt ≤ 2147483647 := ⟨zlo _, zhi _⟩
    have b_ : -2147483648 ≤ r12_.toInt ∧ r12_.toInt ≤ 2147483647 := ⟨zlo _, zhi _⟩
    refine lv_isub hx hb dX6_startDocument_15 ?_
    refine lv_topi (fun z15 e_z15 => ?_)
    have hPc := hP.sub (ws' := [(h0, .inr (6, mX6 h1 h2 h3 h4 h5 h6 h7 h8 v0)), (h6, .inl (k6, 400, .inl f6)), (h5, .inl (k5, 400, .inl f5)), (h2, .inl (k2, 833, .inl f2)), (h1, .inl (k1, 1250, .inl f1)), (h3, .inl (k3, 833, .inl f3)), (h4, .inl (k4, 400, .inl f4))]) [0, 2, 3, 4, 5, 6, 7] rfl
    have hDc := hD.sub (ws' := [(h0, .inr (6, mX6 h1 h2 h3 h4 h5 h6 h7 h8 v0)), (h6, .inl (k6, 400, .inl f6)), (h5, .inl (k5, 400, .inl f5)), (h2, .inl (k2, 833, .inl f2)), (h1, .inl (k1, 1250, .inl f1)), (h3, .inl (k3, 833, .inl f3)), (h4, .inl (k4, 400, .inl f4))]) [0, 2, 3, 4, 5, 6, 7] (by decide) rfl
    have hKc := hK.sub (tys' := [(k6, .int), (k5, .int), (k2, .int), (k1, .int), (k3, .int), (k4, .int)]) [1, 2, 3, 4, 5, 6] rfl
    have hFc := va_free (wc := [(h0, .inr (6, mX6 h1 h2 h3 h4 h5 h6 h7 h8 v0)), (h6, .inl (k6, 400, .inl f6)), (h5, .inl (k5, 400, .inl f5)), (h2, .inl (k2, 833, .inl f2)), (h1, .inl (k1, 1250, .inl f1)), (h3, .inl (k3, 833, .inl f3)), (h4, .inl (k4, 400, .inl f4))]) hD hS hA [0, 2, 3, 4, 5, 6, 7] rfl
    refine va_callv (va_runV (As := [.int x1, .int z15]) (rest := []) ⟨hx, hb, hml, hown, hG⟩ (sX6_append_0 l dC dI adK adV h0 h6 h5 h2 h1 h3 h4 h7 h8 k6 k5 k2 k1 k3 k4 H.size v0 f6 f5 f2 f1 f3 f4 x1 z15 hv0 hf5 hf2 (show zPhi f2 f5 f6 (v0 9).toInt (v0 8).toInt from by assumption)) (cwV 2 hG (zgV zw206 zw207 zw208 zw146 zw209) rfl rfl rfl (by decide +kernel) ⟨Nat.le_of_ble_eq_true rfl, Nat.le_of_ble_eq_true rfl⟩) ⟨zPc_blind, va_recv hKc hPc (ci := 6) (q0 := 0) rfl rfl, zPc_pre hPc hKc hDc hE hS hFc hZ⟩ rfl rfl hl.1 rfl (lv_room (Nat.le_of_ble_eq_true rfl)) dX6_startDocument_16 ⟨Nat.le_of_ble_eq_true rfl, Nat.le_of_ble_eq_true rfl⟩) hS (fun q _ h => hFc q h) hFc (fun u16_ t H1 locs ht hvm hw hB hz1 hk1 hS => ?_)
    have hw : (0 ≤ (u16_ 0).toInt ∧ (u16_ 0).toInt ≤ 833) ∧ (0 ≤ (u16_ 1).toInt ∧ (u16_ 1).toInt ≤ 1250) := hw
    obtain ⟨b_, b_⟩ := hw
    obtain ⟨w16_, a16_, b16_, ha16_1, ha16_2, hB16_0, hP1, hK1, hD1⟩ := hB
    have hB16_0 : zPhi (a16_ 2) (a16_ 1) (a16_ 0) (u16_ 1).toInt (u16_ 0).toInt := hB16_0
    rw [ht] at hP1
    obtain ⟨hP, hD⟩ := va_join (wr := [(h8, .inl (k8, 400, .inl f8)), (h7, .inl (k7, 400, .inl f7))]) (w1 := [(h0, .inr (6, mX6 h1 h2 h3 h4 h5 h6 h7 h8 (upd (upd (upd (upd v0 8 (u16_ 0)) 9 (u16_ 1)) 10 (u16_ 2)) 11 (u16_ 3)))), (h6, .inl (k6, 400, .inl (a16_ 0))), (h5, .inl (k5, 400, .inl (a16_ 1))), (h2, .inl (k2, 833, .inl (a16_ 2))), (h1, .inl (k1, 1250, .inl (a16_ 3))), (h3, .inl (k3, 833, .inl (a16_ 4))), (h4, .inl (k4, 400, .inl (a16_ 5)))]) hP hD [0, 2, 3, 4, 5, 6, 7] [1, 8] rfl rfl (by decide) (by decide) hk1 hFc hP1 hD1
    have hP : va_P (dC, dI) vwCl [(h0, .inr (6, mX6 h1 h2 h3 h4 h5 h6 h7 h8 (upd (upd (upd (upd v0 8 (u16_ 0)) 9 (u16_ 1)) 10 (u16_ 2)) 11 (u16_ 3)))), (h8, .inl (k8, 400, .inl f8)), (h6, .inl (k6, 400, .inl (a16_ 0))), (h5, .inl (k5, 400, .inl (a16_ 1))), (h2, .inl (k2, 833, .inl (a16_ 2))), (h1, .inl (k1, 1250, .inl (a16_ 3))), (h3, .inl (k3, 833, .inl (a16_ 4))), (h4, .inl (k4, 400, .inl (a16_ 5))), (h7, .inl (k7, 400, .inl f7))] H1 := hP.sub [2, 0, 3, 4, 5, 6, 7, 8, 1] rfl
    have hD : va_D A [(h0, .inr (6, mX6 h1 h2 h3 h4 h5 h6 h7 h8 (upd (upd (upd (upd v0 8 (u16_ 0)) 9 (u16_ 1)) 10 (u16_ 2)) 11 (u16_ 3)))), (h8, .inl (k8, 400, .inl f8)), (h6, .inl (k6, 400, .inl (a16_ 0))), (h5, .inl (k5, 400, .inl (a16_ 1))), (h2, .inl (k2, 833, .inl (a16_ 2))), (h1, .inl (k1, 1250, .inl (a16_ 3))), (h3, .inl (k3, 833, .inl (a16_ 4))), (h4, .inl (k4, 400, .inl (a16_ 5))), (h7, .inl (k7, 400, .inl f7))] := hD.sub [2, 0, 3, 4, 5, 6, 7, 8, 1] (by decide) rfl
    generalize H1 = H at hP hS ⊢
    clear hz1
    refine lv_aload_n hx hb dX6_startDocument_19 rfl (lv_at hl 0 rfl) ?_
    refine lv_iload_n hx hb dX6_startDocument_20 rfl (lv_at hl 1 rfl) ?_
    refine lv_iload_n hx hb dX6_startDocument_21 rfl (lv_at hl 3 rfl) ?_
    have b_ : -2147483648 ≤ (u16_ 2).toInt ∧ (u16_ 2).toInt ≤ 2147483647 := ⟨zlo _, zhi _⟩
    have b_ : -2147483648 ≤ (u16_ 3).toInt ∧ (u16_ 3).toInt ≤ 2147483647 := ⟨zlo _, zhi _⟩
    have hPc := hP.sub (ws' := [(h0, .inr (6, mX6 h1 h2 h3 h4 h5 h6 h7 h8 (upd (upd (upd (upd v0 8 (u16_ 0)) 9 (u16_ 1)) 10 (u16_ 2)) 11 (u16_ 3)))), (h6, .inl (k6, 400, .inl (a16_ 0))), (h5, .inl (k5, 400, .inl (a16_ 1))), (h2, .inl (k2, 833, .inl (a16_ 2))), (h1, .inl (k1, 1250, .inl (a16_ 3))), (h3, .inl (k3, 833, .inl (a16_ 4))), (h4, .inl (k4, 400, .inl (a16_ 5)))]) [0, 2, 3, 4, 5, 6, 7] rfl
    have hDc := hD.sub (ws' := [(h0, .inr (6, mX6 h1 h2 h3 h4 h5 h6 h7 h8 (upd (upd (upd (upd v0 8 (u16_ 0)) 9 (u16_ 1)) 10 (u16_ 2)) 11 (u16_ 3)))), (h6, .inl (k6, 400, .inl (a16_ 0))), (h5, .inl (k5, 400, .inl (a16_ 1))), (h2, .inl (k2, 833, .inl (a16_ 2))), (h1, .inl (k1, 1250, .inl (a16_ 3))), (h3, .inl (k3, 833, .inl (a16_ 4))), (h4, .inl (k4, 400, .inl (a16_ 5)))]) [0, 2, 3, 4, 5, 6, 7] (by decide) rfl
    have hKc := hK.sub (tys' := [(k6, .int), (k5, .int), (k2, .int), (k1, .int), (k3, .int), (k4, .int)]) [1, 2, 3, 4, 5, 6] rfl
    have hFc := va_free (wc := [(h0, .inr (6, mX6 h1 h2 h3 h4 h5 h6 h7 h8 (upd (upd (upd (upd v0 8 (u16_ 0)) 9 (u16_ 1)) 10 (u16_ 2)) 11 (u16_ 3)))), (h6, .inl (k6, 400, .inl (a16_ 0))), (h5, .inl (k5, 400, .inl (a16_ 1))), (h2, .inl (k2, 833, .inl (a16_ 2))), (h1, .inl (k1, 1250, .inl (a16_ 3))), (h3, .inl (k3, 833, .inl (a16_ 4))), (h4, .inl (k4, 400, .inl (a16_ 5)))]) hD hS hA [0, 2, 3, 4, 5, 6, 7] rfl
    refine va_callv (va_runV (As := [.int x1, .int x3]) (rest := []) ⟨hx, hb, hml, hown, hG⟩ (sX6_append_0 l dC dI adK adV h0 h6 h5 h2 h1 h3 h4 h7 h8 k6 k5 k2 k1 k3 k4 H.size (upd (upd (upd (upd v0 8 (u16_ 0)) 9 (u16_ 1)) 10 (u16_ 2)) 11 (u16_ 3)) (a16_ 0) (a16_ 1) (a16_ 2) (a16_ 3) (a16_ 4) (a16_ 5) x1 x3 (zR_updF (zR_updF (zR_upd (zR_upd hv0 8 (show (0 : Int) ≤ ((u16_ 0) : Int32).toInt from by omega) (show ((u16_ 0) : Int32).toInt ≤ (833 : Int) from by omega)) 9 (show (0 : Int) ≤ ((u16_ 1) : Int32).toInt from by omega) (show ((u16_ 1) : Int32).toInt ≤ (1250 : Int) from by omega)) 10 rfl) 11 rfl) ha16_1 ha16_2 (show zPhi (a16_ 2) (a16_ 1) (a16_ 0) (u16_ 1).toInt (u16_ 0).toInt from by assumption)) (cwV 2 hG (zgV zw206 zw207 zw208 zw146 zw209) rfl rfl rfl (by decide +kernel) ⟨Nat.le_of_ble_eq_true rfl, Nat.le_of_ble_eq_true rfl⟩) ⟨zPc_blind, va_recv hKc hPc (ci := 6) (q0 := 0) rfl rfl, zPc_pre hPc hKc hDc hE hS hFc hZ⟩ rfl rfl hl.1 rfl (lv_room (Nat.le_of_ble_eq_true rfl)) dX6_startDocument_22 ⟨Nat.le_of_ble_eq_true rfl, Nat.le_of_ble_eq_true rfl⟩) hS (fun q _ h => hFc q h) hFc (fun u22_ t H1 locs ht hvm hw hB hz1 hk1 hS => ?_)
    have hw : (0 ≤ (u22_ 0).toInt ∧ (u22_ 0).toInt ≤ 833) ∧ (0 ≤ (u22_ 1).toInt ∧ (u22_ 1).toInt ≤ 1250) := hw
    obtain ⟨b_, b_⟩ := hw
    obtain ⟨w22_, a22_, b22_, ha22_1, ha22_2, hB22_0, hP1, hK1, hD1⟩ := hB
    have hB22_0 : zPhi (a22_ 2) (a22_ 1) (a22_ 0) (u22_ 1).toInt (u22_ 0).toInt := hB22_0
    rw [ht] at hP1
    obtain ⟨hP, hD⟩ := va_join (wr := [(h8, .inl (k8, 400, .inl f8)), (h7, .inl (k7, 400, .inl f7))]) (w1 := [(h0, .inr (6, mX6 h1 h2 h3 h4 h5 h6 h7 h8 (upd (upd (upd (upd v0 8 (u22_ 0)) 9 (u22_ 1)) 10 (u22_ 2)) 11 (u22_ 3)))), (h6, .inl (k6, 400, .inl (a22_ 0))), (h5, .inl (k5, 400, .inl (a22_ 1))), (h2, .inl (k2, 833, .inl (a22_ 2))), (h1, .inl (k1, 1250, .inl (a22_ 3))), (h3, .inl (k3, 833, .inl (a22_ 4))), (h4, .inl (k4, 400, .inl (a22_ 5)))]) hP hD [0, 2, 3, 4, 5, 6, 7] [1, 8] rfl rfl (by decide) (by decide) hk1 hFc hP1 hD1
    have hP : va_P (dC, dI) vwCl [(h0, .inr (6, mX6 h1 h2 h3 h4 h5 h6 h7 h8 (upd (upd (upd (upd v0 8 (u22_ 0)) 9 (u22_ 1)) 10 (u22_ 2)) 11 (u22_ 3)))), (h8, .inl (k8, 400, .inl f8)), (h6, .inl (k6, 400, .inl (a22_ 0))), (h5, .inl (k5, 400, .inl (a22_ 1))), (h2, .inl (k2, 833, .inl (a22_ 2))), (h1, .inl (k1, 1250, .inl (a22_ 3))), (h3, .inl (k3, 833, .inl (a22_ 4))), (h4, .inl (k4, 400, .inl (a22_ 5))), (h7, .inl (k7, 400, .inl f7))] H1 := hP.sub [2, 0, 3, 4, 5, 6, 7, 8, 1] rfl
    have hD : va_D A [(h0, .inr (6, mX6 h1 h2 h3 h4 h5 h6 h7 h8 (upd (upd (upd (upd v0 8 (u22_ 0)) 9 (u22_ 1)) 10 (u22_ 2)) 11 (u22_ 3)))), (h8, .inl (k8, 400, .inl f8)), (h6, .inl (k6, 400, .inl (a22_ 0))), (h5, .inl (k5, 400, .inl (a22_ 1))), (h2, .inl (k2, 833, .inl (a22_ 2))), (h1, .inl (k1, 1250, .inl (a22_ 3))), (h3, .inl (k3, 833, .inl (a22_ 4))), (h4, .inl (k4, 400, .inl (a22_ 5))), (h7, .inl (k7, 400, .inl f7))] := hD.sub [2, 0, 3, 4, 5, 6, 7, 8, 1] (by decide) rfl
    generalize H1 = H at hP hS ⊢
    clear hz1
    refine lv_aload_n hx hb dX6_startDocument_25 rfl (lv_at hl 0 rfl) ?_
    refine va_get (D := (dC, dI)) (ci := 6) (v := .ref h8) (C := RX6) (T := TX6) (N := 12) hx hb hG zuX6 hown hK hP 0 rfl rfl 7 (by decide) (hG _ zw169) (fun _ h9 => h9) rfl dX6_startDocument_26 ?_
    refine lv_iload_n hx hb dX6_startDocument_29 rfl (lv_at hl 1 rfl) ?_
    refine lv_iload_n hx hb dX6_startDocument_30 rfl (lv_at hl 2 rfl) ?_
    refine lv_iconst (v := 1) hx hb dX6_startDocument_31 (by decide) ?_
    refine lv_iadd hx hb dX6_startDocument_32 ?_
    refine lv_topi (fun z32 e_z32 => ?_)
    refine va_iast hx hb hK hP hD hS 1 0 rfl rfl (zin_lit ⟨by omega, by omega⟩) dX6_startDocument_33 (fun H locs hP hD hS => ?_)
    obtain ⟨f_33, e_f_33⟩ : ∃ z : Nat → Int32, z = upd f8 (x1 : Int32).toNatClampNeg z32 := ⟨_, rfl⟩
    have hP : va_P (dC, dI) vwCl [(h0, .inr (6, mX6 h1 h2 h3 h4 h5 h6 h7 h8 (upd (upd (upd (upd v0 8 (u22_ 0)) 9 (u22_ 1)) 10 (u22_ 2)) 11 (u22_ 3)))), (h8, .inl (k8, 400, .inl f_33)), (h6, .inl (k6, 400, .inl (a22_ 0))), (h5, .inl (k5, 400, .inl (a22_ 1))), (h2, .inl (k2, 833, .inl (a22_ 2))), (h1, .inl (k1, 1250, .inl (a22_ 3))), (h3, .inl (k3, 833, .inl (a22_ 4))), (h4, .inl (k4, 400, .inl (a22_ 5))), (h7, .inl (k7, 400, .inl f7))] H := by rw [e_f_33]; exact hP
    have hD : va_D A [(h0, .inr (6, mX6 h1 h2 h3 h4 h5 h6 h7 h8 (upd (upd (upd (upd v0 8 (u22_ 0)) 9 (u22_ 1)) 10 (u22_ 2)) 11 (u22_ 3)))), (h8, .inl (k8, 400, .inl f_33)), (h6, .inl (k6, 400, .inl (a22_ 0))), (h5, .inl (k5, 400, .inl (a22_ 1))), (h2, .inl (k2, 833, .inl (a22_ 2))), (h1, .inl (k1, 1250, .inl (a22_ 3))), (h3, .inl (k3, 833, .inl (a22_ 4))), (h4, .inl (k4, 400, .inl (a22_ 5))), (h7, .inl (k7, 400, .inl f7))] := by rw [e_f_33]; exact hD
    refine lv_aload_n hx hb dX6_startDocument_34 rfl (lv_at hl 0 rfl) ?_
    refine va_get (D := (dC, dI)) (ci := 6) (v := .ref h7) (C := RX6) (T := TX6) (N := 12) hx hb hG zuX6 hown hK hP 0 rfl rfl 6 (by decide) (hG _ zw168) (fun _ h9 => h9) rfl dX6_startDocument_35 ?_
    refine lv_iload_n hx hb dX6_startDocument_38 rfl (lv_at hl 1 rfl) ?_
    refine lv_dup2_11 hx hb dX6_startDocument_39 rfl rfl ?_
    refine va_iald hx hb hK hP 8 7 rfl rfl (zin_lit ⟨by omega, by omega⟩) dX6_startDocument_40 ?_
    refine lv_topi (fun z40 e_z40 => ?_)
    refine lv_iconst (v := 1) hx hb dX6_startDocument_41 (by decide) ?_
    have b_ : -2147483648 ≤ z40.toInt ∧ z40.toInt ≤ 2147483647 := ⟨zlo _, zhi _⟩
    refine lv_iadd hx hb dX6_startDocument_42 ?_
    refine lv_topi (fun z42 e_z42 => ?_)
    refine va_iast hx hb hK hP hD hS 8 7 rfl rfl (zin_lit ⟨by omega, by omega⟩) dX6_startDocument_43 (fun H locs hP hD hS => ?_)
    obtain ⟨f_43, e_f_43⟩ : ∃ z : Nat → Int32, z = upd f7 (x1 : Int32).toNatClampNeg z42 := ⟨_, rfl⟩
    have hP : va_P (dC, dI) vwCl [(h0, .inr (6, mX6 h1 h2 h3 h4 h5 h6 h7 h8 (upd (upd (upd (upd v0 8 (u22_ 0)) 9 (u22_ 1)) 10 (u22_ 2)) 11 (u22_ 3)))), (h8, .inl (k8, 400, .inl f_33)), (h6, .inl (k6, 400, .inl (a22_ 0))), (h5, .inl (k5, 400, .inl (a22_ 1))), (h2, .inl (k2, 833, .inl (a22_ 2))), (h1, .inl (k1, 1250, .inl (a22_ 3))), (h3, .inl (k3, 833, .inl (a22_ 4))), (h4, .inl (k4, 400, .inl (a22_ 5))), (h7, .inl (k7, 400, .inl f_43))] H := by rw [e_f_43]; exact hP
    have hD : va_D A [(h0, .inr (6, mX6 h1 h2 h3 h4 h5 h6 h7 h8 (upd (upd (upd (upd v0 8 (u22_ 0)) 9 (u22_ 1)) 10 (u22_ 2)) 11 (u22_ 3)))), (h8, .inl (k8, 400, .inl f_33)), (h6, .inl (k6, 400, .inl (a22_ 0))), (h5, .inl (k5, 400, .inl (a22_ 1))), (h2, .inl (k2, 833, .inl (a22_ 2))), (h1, .inl (k1, 1250, .inl (a22_ 3))), (h3, .inl (k3, 833, .inl (a22_ 4))), (h4, .inl (k4, 400, .inl (a22_ 5))), (h7, .inl (k7, 400, .inl f_43))] := by rw [e_f_43]; exact hD
    refine W.widen (k := 0) (n := 0) (by decide) (by decide) ?_
    have b_ : -2147483648 ≤ (u22_ 2).toInt ∧ (u22_ 2).toInt ≤ 2147483647 := ⟨zlo _, zhi _⟩
    have b_ : -2147483648 ≤ (u22_ 3).toInt ∧ (u22_ 3).toInt ≤ 2147483647 := ⟨zlo _, zhi _⟩
    have hpost : (0 ≤ (u22_ 0).toInt ∧ (u22_ 0).toInt ≤ 833) ∧ (0 ≤ (u22_ 1).toInt ∧ (u22_ 1).toInt ≤ 1250) := ⟨⟨by omega, by omega⟩, ⟨by omega, by omega⟩⟩
    have hP9 : va_P (dC, dI) vwCl [(h0, .inr (6, mX6 h1 h2 h3 h4 h5 h6 h7 h8 (upd (upd (upd (upd v0 8 (u22_ 0)) 9 (u22_ 1)) 10 (u22_ 2)) 11 (u22_ 3)))), (h8, .inl (k8, 400, .inl f_33)), (h6, .inl (k6, 400, .inl (a22_ 0))), (h5, .inl (k5, 400, .inl (a22_ 1))), (h2, .inl (k2, 833, .inl (a22_ 2))), (h1, .inl (k1, 1250, .inl (a22_ 3))), (h3, .inl (k3, 833, .inl (a22_ 4))), (h4, .inl (k4, 400, .inl (a22_ 5))), (h7, .inl (k7, 400, .inl f_43))] H := hP
    have hD9 : va_D A [(h0, .inr (6, mX6 h1 h2 h3 h4 h5 h6 h7 h8 (upd (upd (upd (upd v0 8 (u22_ 0)) 9 (u22_ 1)) 10 (u22_ 2)) 11 (u22_ 3)))), (h8, .inl (k8, 400, .inl f_33)), (h6, .inl (k6, 400, .inl (a22_ 0))), (h5, .inl (k5, 400, .inl (a22_ 1))), (h2, .inl (k2, 833, .inl (a22_ 2))), (h1, .inl (k1, 1250, .inl (a22_ 3))), (h3, .inl (k3, 833, .inl (a22_ 4))), (h4, .inl (k4, 400, .inl (a22_ 5))), (h7, .inl (k7, 400, .inl f_43))] := hD
    have hB0 : zPhi (a22_ 2) (a22_ 1) (a22_ 0) (u22_ 1).toInt (u22_ 0).toInt := by assumption
    exact W.vret hx hb hr (fun t ht hW => ⟨⟨(fun i => ([(u22_ 0), (u22_ 1), (u22_ 2), (u22_ 3)] : List (Int32)).getD i 0), rfl, hpost, (fun _ => 0), (fun i => ([f_33, (a22_ 0), (a22_ 1), (a22_ 2), (a22_ 3), (a22_ 4), (a22_ 5), f_43] : List (Nat → Int32)).getD i (fun _ => 0)), (fun _ => (fun _ => 0)), ha22_1, ha22_2, hB0, by rw [ht]; exact hP9, va_K.moved hW.alike hK, hD9⟩, hS.F ht⟩) hS.2.2 dX6_startDocument_44
set_option maxHeartbeats 8000000 in
set_option maxRecDepth 100000 in
theorem sX8_oneBit_0 (l : Launch) (dC : Nat → ClassId) (dI : Nat → Nat → Nat) (adK adV : Nat → Nat) (h0 : Nat) (h1 : Nat) (h4 : Nat) (h3 : Nat) (h2 : Nat) (h5 : Nat) (h6 : Nat) (h7 : Nat) (h8 : Nat) (h9 : Nat) (k4 : ClassId) (k3 : ClassId) (k2 : ClassId) (sz : Nat) (v0 : Nat → Int32) (v1 : Nat → Int32) (f4 : Nat → Int32) (f3 : Nat → Int32) (f2 : Nat → Int32) (hv1 : zR rg_Postings v1) (hf3 : zA 0 1250 f3) : Met l yX8_oneBit (zw yX8_oneBit cX8_oneBit 2 (some .int)) { frames := 1, cells := 0, slots := 0, locals := 23 } (zPc dC dI adK adV [.ref h0] sz [(h0, .inr (8, mX8 h1 v0)), (h1, .inr (6, mX6 h2 h3 h4 h5 h6 h7 h8 h9 v1)), (h4, .inl (k4, 833, .inl f4)), (h3, .inl (k3, 833, .inl f3)), (h2, .inl (k2, 1250, .inl f2))] [(k4, .int), (k3, .int), (k2, .int)]) (va_Qi (fun (r : Int32) (u : Nat → Int32) => (0 ≤ r.toInt ∧ r.toInt ≤ 1) ∧ ((-2147483648) ≤ (u 0).toInt ∧ (u 0).toInt ≤ 2147483646)) (fun (u : Nat → Int32) (t : State) => ∃ (ww : Nat → Int64) (aa : Nat → Nat → Int32) (bb : Nat → Nat → Int64), va_P (dC, dI) vwCl [(h0, .inr (8, mX8 h1 (upd (upd (upd (upd v0 1 (u 0)) 2 (u 1)) 3 (u 2)) 4 (u 3)))), (h1, .inr (6, mX6 h2 h3 h4 h5 h6 h7 h8 h9 v1)), (h4, .inl (k4, 833, .inl f4)), (h3, .inl (k3, 833, .inl f3)), (h2, .inl (k2, 1250, .inl f2))] t.heap ∧ va_K (dC, dI) vwCl [(k4, .int), (k3, .int), (k2, .int)] t ∧ va_D (va_A [(h0, .inr (8, mX8 h1 v0)), (h1, .inr (6, mX6 h2 h3 h4 h5 h6 h7 h8 h9 v1)), (h4, .inl (k4, 833, .inl f4)), (h3, .inl (k3, 833, .inl f3)), (h2, .inl (k2, 1250, .inl f2))] sz) [(h0, .inr (8, mX8 h1 (upd (upd (upd (upd v0 1 (u 0)) 2 (u 1)) 3 (u 2)) 4 (u 3)))), (h1, .inr (6, mX6 h2 h3 h4 h5 h6 h7 h8 h9 v1)), (h4, .inl (k4, 833, .inl f4)), (h3, .inl (k3, 833, .inl f3)), (h2, .inl (k2, 1250, .inl f2))]) (va_A [(h0, .inr (8, mX8 h1 v0)), (h1, .inr (6, mX6 h2 h3 h4 h5 h6 h7 h8 h9 v1)), (h4, .inl (k4, 833, .inl f4)), (h3, .inl (k3, 833, .inl f3)), (h2, .inl (k2, 1250, .inl f2))] sz)) 0 0 (va_A [(h0, .inr (8, mX8 h1 v0)), (h1, .inr (6, mX6 h2 h3 h4 h5 h6 h7 h8 h9 v1)), (h4, .inl (k4, 833, .inl f4)), (h3, .inl (k3, 833, .inl f3)), (h2, .inl (k2, 1250, .inl f2))] sz) := by
  refine Met.ofW (cc := cX8_oneBit) (maxL := 2) (ret := (some .int)) (by decide) rfl ?_
  intro p e s m args below meth c s₁ B hml hv
  obtain ⟨rfl, hsz, hP, hK, hD0, hE, hZ⟩ := hv
  have hx := B.exec
  have hb := B.bytes
  have hr := B.returns
  have hG : ∀ w ∈ zG, w.before _ s = true := fun w h => atoms_spec (ws := (zw yX8_oneBit cX8_oneBit 2 (some .int))) B.pre w (List.mem_cons_of_mem _ h)
  have hown : s.vm.findClass RX8 = some m.cls := findClass_of_methodNamed B.named
  have hlocks := B.notSynchronized

  subst hsz
  have hD := hD0.self (sz := s.heap.size)
  generalize hAe : va_A [(h0, .inr (8, mX8 h1 v0)), (h1, .inr (6, mX6 h2 h3 h4 h5 h6 h7 h8 h9 v1)), (h4, .inl (k4, 833, .inl f4)), (h3, .inl (k3, 833, .inl f3)), (h2, .inl (k2, 1250, .inl f2))] s.heap.size = A at hD hZ ⊢
  have hA : ∀ q : Nat, s.heap.size ≤ q → A q := fun q h => by rw [← hAe]; exact Or.inr h
  have hS : va_S A s.heap s.heap [] := va_S.rf
  have hl := lv_entry ([.ref h0]) (n := 2) (Nat.le_of_ble_eq_true rfl)
  rw [lg_entry_eq]
  generalize (lg_sl ([.ref h0]) ++ List.replicate (2 - (lg_sl ([.ref h0])).length) Slot.unset).toArray = ls at hl ⊢
  have hl : lv_has ls 2 [(0, .ref h0)] := hl
  have b_ := zk_0
  refine lv_aload_n hx hb dX8_oneBit_0 rfl (lv_at hl 0 rfl) ?_
  refine va_get (D := (dC, dI)) (ci := 8) (v := .int (v0 1)) (C := RX8) (T := TX8) (N := 9) hx hb hG zuX8 hown hK hP 0 rfl rfl 1 (by decide) (hG _ zw212) (fun _ h9 => h9) rfl dX8_oneBit_1 ?_
  have b_ : -2147483648 ≤ (v0 1).toInt ∧ (v0 1).toInt ≤ 2147483647 := ⟨zlo _, zhi _⟩
  refine lv_if_gt (tgt := 9) hx hb dX8_oneBit_4 (by decide) (fun c_ => ?_) (fun c_ => ?_)
  · skip
    have b_ := zT_gt rfl zk_0 c_
    refine lv_aload_n hx hb dX8_oneBit_9 rfl (lv_at hl 0 rfl) ?_
    refine va_get (D := (dC, dI)) (ci := 8) (v := .int (v0 4)) (C := RX8) (T := TX8) (N := 9) hx hb hG zuX8 hown hK hP 0 rfl rfl 4 (by decide) (hG _ zw214) (fun _ h9 => h9) rfl dX8_oneBit_10 ?_
    refine lv_aload_n hx hb dX8_oneBit_13 rfl (lv_at hl 0 rfl) ?_
    refine va_get (D := (dC, dI)) (ci := 8) (v := .int (v0 3)) (C := RX8) (T := TX8) (N := 9) hx hb hG zuX8 hown hK hP 0 rfl rfl 3 (by decide) (hG _ zw215) (fun _ h9 => h9) rfl dX8_oneBit_14 ?_
    have hPc := hP.sub (ws' := []) [] rfl
    have hDc := hD.sub (ws' := []) [] (by decide) rfl
    have hKc := hK.sub (tys' := []) [] rfl
    have hFc := va_free (wc := []) hD hS hA [] rfl
    refine va_calli (va_runS (As := [.int (v0 3)]) (rest := [.int (v0 4)]) ⟨hx, hb, hml, hown, hG⟩ (sX6_bitsOfChunk_0 l dC dI adK adV s.heap.size (v0 3)) (va_cwS 1 hG (zgS zw218 zw192 zw146 zw193) rfl rfl rfl (by decide +kernel) ⟨Nat.le_of_ble_eq_true rfl, Nat.le_of_ble_eq_true rfl⟩) ⟨zPc_blind, zPc_pre hPc hKc hDc hE hS hFc hZ⟩ rfl rfl hl.1 rfl (lv_room (Nat.le_of_ble_eq_true rfl)) dX8_oneBit_17 ⟨Nat.le_of_ble_eq_true rfl, Nat.le_of_ble_eq_true rfl⟩) hS (fun q _ h => hFc q h) hFc (fun r17_ u17_ t H1 locs ht hvm hw hB hz1 hk1 hS => ?_)
    have hw : (0 ≤ (v0 3).toInt → zBs (v0 3).toInt r17_.toInt) := hw
    have hX17_0 := hw
    obtain ⟨w17_, a17_, b17_, hP1, hK1, hD1⟩ := hB
    rw [ht] at hP1
    obtain ⟨hP, hD⟩ := va_join (wr := [(h0, .inr (8, mX8 h1 v0)), (h1, .inr (6, mX6 h2 h3 h4 h5 h6 h7 h8 h9 v1)), (h4, .inl (k4, 833, .inl f4)), (h3, .inl (k3, 833, .inl f3)), (h2, .inl (k2, 1250, .inl f2))]) (w1 := []) hP hD [] [0, 1, 2, 3, 4] rfl rfl (by decide) (by decide) hk1 hFc hP1 hD1
    have hP : va_P (dC, dI) vwCl [(h0, .inr (8, mX8 h1 v0)), (h1, .inr (6, mX6 h2 h3 h4 h5 h6 h7 h8 h9 v1)), (h4, .inl (k4, 833, .inl f4)), (h3, .inl (k3, 833, .inl f3)), (h2, .inl (k2, 1250, .inl f2))] H1 := hP.sub [0, 1, 2, 3, 4] rfl
    have hD : va_D A [(h0, .inr (8, mX8 h1 v0)), (h1, .inr (6, mX6 h2 h3 h4 h5 h6 h7 h8 h9 v1)), (h4, .inl (k4, 833, .inl f4)), (h3, .inl (k3, 833, .inl f3)), (h2, .inl (k2, 1250, .inl f2))] := hD.sub [0, 1, 2, 3, 4] (by decide) rfl
    generalize H1 = H at hP hS ⊢
    clear hz1
    refine zcutW (fun H locs ls u53_ w53_ a53_ b53_ => va_P (dC, dI) vwCl [(h0, .inr (8, mX8 h1 (upd (upd (upd v0 2 (u53_ 0)) 3 (u53_ 1)) 4 (u53_ 2)))), (h1, .inr (6, mX6 h2 h3 h4 h5 h6 h7 h8 h9 v1)), (h4, .inl (k4, 833, .inl f4)), (h3, .inl (k3, 833, .inl f3)), (h2, .inl (k2, 1250, .inl f2))] H ∧ va_D A [(h0, .inr (8, mX8 h1 (upd (upd (upd v0 2 (u53_ 0)) 3 (u53_ 1)) 4 (u53_ 2)))), (h1, .inr (6, mX6 h2 h3 h4 h5 h6 h7 h8 h9 v1)), (h4, .inl (k4, 833, .inl f4)), (h3, .inl (k3, 833, .inl f3)), (h2, .inl (k2, 1250, .inl f2))] ∧ va_S A s.heap H locs ∧ lv_has ls 2 [(0, .ref h0)]) (fun ls u53_ w53_ => F0 m 53 ls []) 0 0 ?_ (fun hJ53 => ?_)
    · skip
      intro H locs ls u53_ w53_ a53_ b53_ hc
      obtain ⟨hP, hD, hS, hl⟩ := hc
      refine lv_aload_n hx hb dX8_oneBit_53 rfl (lv_at hl 0 rfl) ?_
      refine va_get (D := (dC, dI)) (ci := 8) (v := .ref h1) (C := RX8) (T := TX8) (N := 9) hx hb hG zuX8 hown hK hP 0 rfl rfl 0 (by decide) (hG _ zw216) (fun _ h9 => h9) rfl dX8_oneBit_54 ?_
      refine lv_aload_n hx hb dX8_oneBit_57 rfl (lv_at hl 0 rfl) ?_
      refine va_get (D := (dC, dI)) (ci := 8) (v := .int (u53_ 0)) (C := RX8) (T := TX8) (N := 9) hx hb hG zuX8 hown hK hP 0 rfl rfl 2 (by decide) (hG _ zw217) (fun _ h9 => h9) rfl dX8_oneBit_58 ?_
      refine lv_aload_n hx hb dX8_oneBit_61 rfl (lv_at hl 0 rfl) ?_
      refine va_get (D := (dC, dI)) (ci := 8) (v := .int (u53_ 2)) (C := RX8) (T := TX8) (N := 9) hx hb hG zuX8 hown hK hP 0 rfl rfl 4 (by decide) (hG _ zw214) (fun _ h9 => h9) rfl dX8_oneBit_62 ?_
      have hPc := hP.sub (ws' := [(h1, .inr (6, mX6 h2 h3 h4 h5 h6 h7 h8 h9 v1)), (h3, .inl (k3, 833, .inl f3)), (h2, .inl (k2, 1250, .inl f2))]) [1, 3, 4] rfl
      have hDc := hD.sub (ws' := [(h1, .inr (6, mX6 h2 h3 h4 h5 h6 h7 h8 h9 v1)), (h3, .inl (k3, 833, .inl f3)), (h2, .inl (k2, 1250, .inl f2))]) [1, 3, 4] (by decide) rfl
      have hKc := hK.sub (tys' := [(k3, .int), (k2, .int)]) [1, 2] rfl
      have hFc := va_free (wc := [(h1, .inr (6, mX6 h2 h3 h4 h5 h6 h7 h8 h9 v1)), (h3, .inl (k3, 833, .inl f3)), (h2, .inl (k2, 1250, .inl f2))]) hD hS hA [1, 3, 4] rfl
      refine va_calli (va_runV (As := [.int (u53_ 0), .int (u53_ 2)]) (rest := []) ⟨hx, hb, hml, hown, hG⟩ (sX6_bitInChunk_0 l dC dI adK adV h1 h3 h2 h4 h5 h6 h7 h8 h9 k3 k2 H.size v1 f3 f2 (u53_ 0) (u53_ 2) hv1 hf3) (cwV 2 hG (zgV zw219 zw180 zw181 zw146 zw182) rfl rfl rfl (by decide +kernel) ⟨Nat.le_of_ble_eq_true rfl, Nat.le_of_ble_eq_true rfl⟩) ⟨zPc_blind, va_recv hKc hPc (ci := 6) (q0 := 0) rfl rfl, zPc_pre hPc hKc hDc hE hS hFc hZ⟩ rfl rfl hl.1 rfl (lv_room (Nat.le_of_ble_eq_true rfl)) dX8_oneBit_65 ⟨Nat.le_of_ble_eq_true rfl, Nat.le_of_ble_eq_true rfl⟩) hS (fun q _ h => hFc q h) hFc (fun r65_ u65_ t H1 locs ht hvm hw hB hz1 hk1 hS => ?_)
      have hw : (0 ≤ r65_.toInt ∧ r65_.toInt ≤ 1) := hw
      have b_ := hw
      obtain ⟨w65_, a65_, b65_, hP1, hK1, hD1⟩ := hB
      rw [ht] at hP1
      obtain ⟨hP, hD⟩ := va_join (wr := [(h0, .inr (8, mX8 h1 (upd (upd (upd v0 2 (u53_ 0)) 3 (u53_ 1)) 4 (u53_ 2)))), (h4, .inl (k4, 833, .inl f4))]) (w1 := [(h1, .inr (6, mX6 h2 h3 h4 h5 h6 h7 h8 h9 v1)), (h3, .inl (k3, 833, .inl f3)), (h2, .inl (k2, 1250, .inl f2))]) hP hD [1, 3, 4] [0, 2] rfl rfl (by decide) (by decide) hk1 hFc hP1 hD1
      have hP : va_P (dC, dI) vwCl [(h0, .inr (8, mX8 h1 (upd (upd (upd v0 2 (u53_ 0)) 3 (u53_ 1)) 4 (u53_ 2)))), (h1, .inr (6, mX6 h2 h3 h4 h5 h6 h7 h8 h9 v1)), (h4, .inl (k4, 833, .inl f4)), (h3, .inl (k3, 833, .inl f3)), (h2, .inl (k2, 1250, .inl f2))] H1 := hP.sub [0, 2, 1, 3, 4] rfl
      have hD : va_D A [(h0, .inr (8, mX8 h1 (upd (upd (upd v0 2 (u53_ 0)) 3 (u53_ 1)) 4 (u53_ 2)))), (h1, .inr (6, mX6 h2 h3 h4 h5 h6 h7 h8 h9 v1)), (h4, .inl (k4, 833, .inl f4)), (h3, .inl (k3, 833, .inl f3)), (h2, .inl (k2, 1250, .inl f2))] := hD.sub [0, 2, 1, 3, 4] (by decide) rfl
      generalize H1 = H at hP hS ⊢
      clear hz1
      refine lv_istore_n (lv' := [(1, .int r65_), (0, .ref h0)]) hx hb dX8_oneBit_68 rfl hl (by decide) rfl (fun ls hl => ?_)
      refine lv_aload_n hx hb dX8_oneBit_69 rfl (lv_at hl 1 rfl) ?_
      refine lv_dup hx hb dX8_oneBit_70 rfl ?_
      refine va_get (D := (dC, dI)) (ci := 8) (v := .int (u53_ 2)) (C := RX8) (T := TX8) (N := 9) hx hb hG zuX8 hown hK hP 0 rfl rfl 4 (by decide) (hG _ zw214) (fun _ h9 => h9) rfl dX8_oneBit_71 ?_
      refine lv_iconst (v := 1) hx hb dX8_oneBit_74 (by decide) ?_
      have b_ : -2147483648 ≤ (u53_ 2).toInt ∧ (u53_ 2).toInt ≤ 2147483647 := ⟨zlo _, zhi _⟩
      refine lv_iadd hx hb dX8_oneBit_75 ?_
      refine lv_topi (fun z75 e_z75 => ?_)
      refine va_put (D := (dC, dI)) (ci := 8) (v := .int z75) (ty := .int) (C := RX8) (T := TX8) (N := 9) hx hb hG zuX8 tyX8 tyX8_ok nmX8 hown hK hP hD hS 0 rfl rfl 4 (by decide) (hG _ zw214) (fun _ h9 => h9) rfl (by decide +kernel) rfl rfl (Nat.le_of_ble_eq_true rfl) dX8_oneBit_76 (fun H locs hP hD hS => ?_)
      have hP : va_P (dC, dI) vwCl [(h0, .inr (8, mX8 h1 (upd (upd (upd v0 2 (u53_ 0)) 3 (u53_ 1)) 4 z75))), (h1, .inr (6, mX6 h2 h3 h4 h5 h6 h7 h8 h9 v1)), (h4, .inl (k4, 833, .inl f4)), (h3, .inl (k3, 833, .inl f3)), (h2, .inl (k2, 1250, .inl f2))] H := hP
      have hD : va_D A [(h0, .inr (8, mX8 h1 (upd (upd (upd v0 2 (u53_ 0)) 3 (u53_ 1)) 4 z75))), (h1, .inr (6, mX6 h2 h3 h4 h5 h6 h7 h8 h9 v1)), (h4, .inl (k4, 833, .inl f4)), (h3, .inl (k3, 833, .inl f3)), (h2, .inl (k2, 1250, .inl f2))] := hD
      refine lv_aload_n hx hb dX8_oneBit_79 rfl (lv_at hl 1 rfl) ?_
      refine lv_dup hx hb dX8_oneBit_80 rfl ?_
      refine va_get (D := (dC, dI)) (ci := 8) (v := .int (v0 1)) (C := RX8) (T := TX8) (N := 9) hx hb hG zuX8 hown hK hP 0 rfl rfl 1 (by decide) (hG _ zw212) (fun _ h9 => h9) rfl dX8_oneBit_81 ?_
      refine lv_iconst (v := 1) hx hb dX8_oneBit_84 (by decide) ?_
      refine lv_isub hx hb dX8_oneBit_85 ?_
      refine lv_topi (fun z85 e_z85 => ?_)
      have b_ := zsub rfl zk_1 e_z85 (by omega) (by omega)
      refine va_put (D := (dC, dI)) (ci := 8) (v := .int z85) (ty := .int) (C := RX8) (T := TX8) (N := 9) hx hb hG zuX8 tyX8 tyX8_ok nmX8 hown hK hP hD hS 0 rfl rfl 1 (by decide) (hG _ zw212) (fun _ h9 => h9) rfl (by decide +kernel) rfl rfl (Nat.le_of_ble_eq_true rfl) dX8_oneBit_86 (fun H locs hP hD hS => ?_)
      have hP : va_P (dC, dI) vwCl [(h0, .inr (8, mX8 h1 (upd (upd (upd (upd v0 1 z85) 2 (u53_ 0)) 3 (u53_ 1)) 4 z75))), (h1, .inr (6, mX6 h2 h3 h4 h5 h6 h7 h8 h9 v1)), (h4, .inl (k4, 833, .inl f4)), (h3, .inl (k3, 833, .inl f3)), (h2, .inl (k2, 1250, .inl f2))] H := hP
      have hD : va_D A [(h0, .inr (8, mX8 h1 (upd (upd (upd (upd v0 1 z85) 2 (u53_ 0)) 3 (u53_ 1)) 4 z75))), (h1, .inr (6, mX6 h2 h3 h4 h5 h6 h7 h8 h9 v1)), (h4, .inl (k4, 833, .inl f4)), (h3, .inl (k3, 833, .inl f3)), (h2, .inl (k2, 1250, .inl f2))] := hD
      refine lv_iload_n hx hb dX8_oneBit_89 rfl (lv_at hl 0 rfl) ?_
      refine W.widen (k := 0) (n := 0) (by decide) (by decide) ?_
      have b_ : -2147483648 ≤ (u53_ 0).toInt ∧ (u53_ 0).toInt ≤ 2147483647 := ⟨zlo _, zhi _⟩
      have b_ : -2147483648 ≤ (u53_ 1).toInt ∧ (u53_ 1).toInt ≤ 2147483647 := ⟨zlo _, zhi _⟩
      have b_ : -2147483648 ≤ z75.toInt ∧ z75.toInt ≤ 2147483647 := ⟨zlo _, zhi _⟩
      have hpost : (0 ≤ r65_.toInt ∧ r65_.toInt ≤ 1) ∧ ((-2147483648) ≤ z85.toInt ∧ z85.toInt ≤ 2147483646) := ⟨⟨by omega, by omega⟩, ⟨by omega, by omega⟩⟩
      have hP9 : va_P (dC, dI) vwCl [(h0, .inr (8, mX8 h1 (upd (upd (upd (upd v0 1 z85) 2 (u53_ 0)) 3 (u53_ 1)) 4 z75))), (h1, .inr (6, mX6 h2 h3 h4 h5 h6 h7 h8 h9 v1)), (h4, .inl (k4, 833, .inl f4)), (h3, .inl (k3, 833, .inl f3)), (h2, .inl (k2, 1250, .inl f2))] H := hP
      have hD9 : va_D A [(h0, .inr (8, mX8 h1 (upd (upd (upd (upd v0 1 z85) 2 (u53_ 0)) 3 (u53_ 1)) 4 z75))), (h1, .inr (6, mX6 h2 h3 h4 h5 h6 h7 h8 h9 v1)), (h4, .inl (k4, 833, .inl f4)), (h3, .inl (k3, 833, .inl f3)), (h2, .inl (k2, 1250, .inl f2))] := hD
      exact W.iret (v := r65_) hx hb hr (fun t ht hW => ⟨⟨r65_, (fun i => ([z85, (u53_ 0), (u53_ 1), z75] : List (Int32)).getD i 0), rfl, hpost, (fun _ => 0), (fun _ => (fun _ => 0)), (fun _ => (fun _ => 0)), by rw [ht]; exact hP9, va_K.moved hW.alike hK, hD9⟩, hS.F ht⟩) hS.2.2 dX8_oneBit_90
    · skip
      have b_ : -2147483648 ≤ (v0 4).toInt ∧ (v0 4).toInt ≤ 2147483647 := ⟨zlo _, zhi _⟩
      have b_ : -2147483648 ≤ r17_.toInt ∧ r17_.toInt ≤ 2147483647 := ⟨zlo _, zhi _⟩
      refine lv_icmp_ne (tgt := 53) hx hb dX8_oneBit_20 (by decide) (fun c_ => ?_) (fun c_ => ?_)
      · skip
        have b_ := zT_ne rfl rfl c_
        have hc : va_P (dC, dI) vwCl [(h0, .inr (8, mX8 h1 (upd (upd (upd v0 2 (v0 2)) 3 (v0 3)) 4 (v0 4)))), (h1, .inr (6, mX6 h2 h3 h4 h5 h6 h7 h8 h9 v1)), (h4, .inl (k4, 833, .inl f4)), (h3, .inl (k3, 833, .inl f3)), (h2, .inl (k2, 1250, .inl f2))] H ∧ va_D A [(h0, .inr (8, mX8 h1 (upd (upd (upd v0 2 (v0 2)) 3 (v0 3)) 4 (v0 4)))), (h1, .inr (6, mX6 h2 h3 h4 h5 h6 h7 h8 h9 v1)), (h4, .inl (k4, 833, .inl f4)), (h3, .inl (k3, 833, .inl f3)), (h2, .inl (k2, 1250, .inl f2))] ∧ va_S A s.heap H locs ∧ lv_has ls 2 [(0, .ref h0)] := ⟨hP, hD, hS, lv_sub hl [0] rfl⟩
        exact hJ53 H locs ls (fun i => ([(v0 2), (v0 3), (v0 4)] : List (Int32)).getD i 0) (fun _ => 0) (fun _ => (fun _ => 0)) (fun _ => (fun _ => 0)) hc
      · skip
        have b_ := zF_ne rfl rfl c_
        refine lv_aload_n hx hb dX8_oneBit_23 rfl (lv_at hl 0 rfl) ?_
        refine lv_aload_n hx hb dX8_oneBit_24 rfl (lv_at hl 0 rfl) ?_
        refine va_get (D := (dC, dI)) (ci := 8) (v := .ref h1) (C := RX8) (T := TX8) (N := 9) hx hb hG zuX8 hown hK hP 0 rfl rfl 0 (by decide) (hG _ zw216) (fun _ h9 => h9) rfl dX8_oneBit_25 ?_
        refine lv_aload_n hx hb dX8_oneBit_28 rfl (lv_at hl 0 rfl) ?_
        refine va_get (D := (dC, dI)) (ci := 8) (v := .int (v0 2)) (C := RX8) (T := TX8) (N := 9) hx hb hG zuX8 hown hK hP 0 rfl rfl 2 (by decide) (hG _ zw217) (fun _ h9 => h9) rfl dX8_oneBit_29 ?_
        have hPc := hP.sub (ws' := [(h1, .inr (6, mX6 h2 h3 h4 h5 h6 h7 h8 h9 v1)), (h4, .inl (k4, 833, .inl f4))]) [1, 2] rfl
        have hDc := hD.sub (ws' := [(h1, .inr (6, mX6 h2 h3 h4 h5 h6 h7 h8 h9 v1)), (h4, .inl (k4, 833, .inl f4))]) [1, 2] (by decide) rfl
        have hKc := hK.sub (tys' := [(k4, .int)]) [0] rfl
        have hFc := va_free (wc := [(h1, .inr (6, mX6 h2 h3 h4 h5 h6 h7 h8 h9 v1)), (h4, .inl (k4, 833, .inl f4))]) hD hS hA [1, 2] rfl
        refine va_calli (va_runV (As := [.int (v0 2)]) (rest := [.ref h0]) ⟨hx, hb, hml, hown, hG⟩ (sX6_chunkBehind_0 l dC dI adK adV h1 h4 h2 h3 h5 h6 h7 h8 h9 k4 H.size v1 f4 (v0 2) hv1) (cwV 1 hG (zgV zw220 zw184 zw185 zw146 zw186) rfl rfl rfl (by decide +kernel) ⟨Nat.le_of_ble_eq_true rfl, Nat.le_of_ble_eq_true rfl⟩) ⟨zPc_blind, va_recv hKc hPc (ci := 6) (q0 := 0) rfl rfl, zPc_pre hPc hKc hDc hE hS hFc hZ⟩ rfl rfl hl.1 rfl (lv_room (Nat.le_of_ble_eq_true rfl)) dX8_oneBit_32 ⟨Nat.le_of_ble_eq_true rfl, Nat.le_of_ble_eq_true rfl⟩) hS (fun q _ h => hFc q h) hFc (fun r32_ u32_ t H1 locs ht hvm hw hB hz1 hk1 hS => ?_)
        obtain ⟨w32_, a32_, b32_, hP1, hK1, hD1⟩ := hB
        rw [ht] at hP1
        obtain ⟨hP, hD⟩ := va_join (wr := [(h0, .inr (8, mX8 h1 v0)), (h3, .inl (k3, 833, .inl f3)), (h2, .inl (k2, 1250, .inl f2))]) (w1 := [(h1, .inr (6, mX6 h2 h3 h4 h5 h6 h7 h8 h9 v1)), (h4, .inl (k4, 833, .inl f4))]) hP hD [1, 2] [0, 3, 4] rfl rfl (by decide) (by decide) hk1 hFc hP1 hD1
        have hP : va_P (dC, dI) vwCl [(h0, .inr (8, mX8 h1 v0)), (h1, .inr (6, mX6 h2 h3 h4 h5 h6 h7 h8 h9 v1)), (h4, .inl (k4, 833, .inl f4)), (h3, .inl (k3, 833, .inl f3)), (h2, .inl (k2, 1250, .inl f2))] H1 := hP.sub [0, 3, 4, 1, 2] rfl
        have hD : va_D A [(h0, .inr (8, mX8 h1 v0)), (h1, .inr (6, mX6 h2 h3 h4 h5 h6 h7 h8 h9 v1)), (h4, .inl (k4, 833, .inl f4)), (h3, .inl (k3, 833, .inl f3)), (h2, .inl (k2, 1250, .inl f2))] := hD.sub [0, 3, 4, 1, 2] (by decide) rfl
        generalize H1 = H at hP hS ⊢
        clear hz1
        refine va_put (D := (dC, dI)) (ci := 8) (v := .int r32_) (ty := .int) (C := RX8) (T := TX8) (N := 9) hx hb hG zuX8 tyX8 tyX8_ok nmX8 hown hK hP hD hS 0 rfl rfl 2 (by decide) (hG _ zw217) (fun _ h9 => h9) rfl (by decide +kernel) rfl rfl (Nat.le_of_ble_eq_true rfl) dX8_oneBit_35 (fun H locs hP hD hS => ?_)
        have hP : va_P (dC, dI) vwCl [(h0, .inr (8, mX8 h1 (upd v0 2 r32_))), (h1, .inr (6, mX6 h2 h3 h4 h5 h6 h7 h8 h9 v1)), (h4, .inl (k4, 833, .inl f4)), (h3, .inl (k3, 833, .inl f3)), (h2, .inl (k2, 1250, .inl f2))] H := hP
        have hD : va_D A [(h0, .inr (8, mX8 h1 (upd v0 2 r32_))), (h1, .inr (6, mX6 h2 h3 h4 h5 h6 h7 h8 h9 v1)), (h4, .inl (k4, 833, .inl f4)), (h3, .inl (k3, 833, .inl f3)), (h2, .inl (k2, 1250, .inl f2))] := hD
        refine lv_aload_n hx hb dX8_oneBit_38 rfl (lv_at hl 0 rfl) ?_
        refine lv_dup hx hb dX8_oneBit_39 rfl ?_
        refine va_get (D := (dC, dI)) (ci := 8) (v := .int (v0 3)) (C := RX8) (T := TX8) (N := 9) hx hb hG zuX8 hown hK hP 0 rfl rfl 3 (by decide) (hG _ zw215) (fun _ h9 => h9) rfl dX8_oneBit_40 ?_
        refine lv_iconst (v := 1) hx hb dX8_oneBit_43 (by decide) ?_
        have b_ : -2147483648 ≤ (v0 3).toInt ∧ (v0 3).toInt ≤ 2147483647 := ⟨zlo _, zhi _⟩
        refine lv_iadd hx hb dX8_oneBit_44 ?_
        refine lv_topi (fun z44 e_z44 => ?_)
        refine va_put (D := (dC, dI)) (ci := 8) (v := .int z44) (ty := .int) (C := RX8) (T := TX8) (N := 9) hx hb hG zuX8 tyX8 tyX8_ok nmX8 hown hK hP hD hS 0 rfl rfl 3 (by decide) (hG _ zw215) (fun _ h9 => h9) rfl (by decide +kernel) rfl rfl (Nat.le_of_ble_eq_true rfl) dX8_oneBit_45 (fun H locs hP hD hS => ?_)
        have hP : va_P (dC, dI) vwCl [(h0, .inr (8, mX8 h1 (upd (upd v0 2 r32_) 3 z44))), (h1, .inr (6, mX6 h2 h3 h4 h5 h6 h7 h8 h9 v1)), (h4, .inl (k4, 833, .inl f4)), (h3, .inl (k3, 833, .inl f3)), (h2, .inl (k2, 1250, .inl f2))] H := hP
        have hD : va_D A [(h0, .inr (8, mX8 h1 (upd (upd v0 2 r32_) 3 z44))), (h1, .inr (6, mX6 h2 h3 h4 h5 h6 h7 h8 h9 v1)), (h4, .inl (k4, 833, .inl f4)), (h3, .inl (k3, 833, .inl f3)), (h2, .inl (k2, 1250, .inl f2))] := hD
        refine lv_aload_n hx hb dX8_oneBit_48 rfl (lv_at hl 0 rfl) ?_
        refine lv_iconst (v := 0) hx hb dX8_oneBit_49 (by decide) ?_
        refine va_put (D := (dC, dI)) (ci := 8) (v := .int 0) (ty := .int) (C := RX8) (T := TX8) (N := 9) hx hb hG zuX8 tyX8 tyX8_ok nmX8 hown hK hP hD hS 0 rfl rfl 4 (by decide) (hG _ zw214) (fun _ h9 => h9) rfl (by decide +kernel) rfl rfl (Nat.le_of_ble_eq_true rfl) dX8_oneBit_50 (fun H locs hP hD hS => ?_)
        have hP : va_P (dC, dI) vwCl [(h0, .inr (8, mX8 h1 (upd (upd (upd v0 2 r32_) 3 z44) 4 0))), (h1, .inr (6, mX6 h2 h3 h4 h5 h6 h7 h8 h9 v1)), (h4, .inl (k4, 833, .inl f4)), (h3, .inl (k3, 833, .inl f3)), (h2, .inl (k2, 1250, .inl f2))] H := hP
        have hD : va_D A [(h0, .inr (8, mX8 h1 (upd (upd (upd v0 2 r32_) 3 z44) 4 0))), (h1, .inr (6, mX6 h2 h3 h4 h5 h6 h7 h8 h9 v1)), (h4, .inl (k4, 833, .inl f4)), (h3, .inl (k3, 833, .inl f3)), (h2, .inl (k2, 1250, .inl f2))] := hD
        have hc : va_P (dC, dI) vwCl [(h0, .inr (8, mX8 h1 (upd (upd (upd v0 2 r32_) 3 z44) 4 0))), (h1, .inr (6, mX6 h2 h3 h4 h5 h6 h7 h8 h9 v1)), (h4, .inl (k4, 833, .inl f4)), (h3, .inl (k3, 833, .inl f3)), (h2, .inl (k2, 1250, .inl f2))] H ∧ va_D A [(h0, .inr (8, mX8 h1 (upd (upd (upd v0 2 r32_) 3 z44) 4 0))), (h1, .inr (6, mX6 h2 h3 h4 h5 h6 h7 h8 h9 v1)), (h4, .inl (k4, 833, .inl f4)), (h3, .inl (k3, 833, .inl f3)), (h2, .inl (k2, 1250, .inl f2))] ∧ va_S A s.heap H locs ∧ lv_has ls 2 [(0, .ref h0)] := ⟨hP, hD, hS, lv_sub hl [0] rfl⟩
        exact hJ53 H locs ls (fun i => ([r32_, z44, 0] : List (Int32)).getD i 0) (fun _ => 0) (fun _ => (fun _ => 0)) (fun _ => (fun _ => 0)) hc
  · skip
    have b_ := zF_gt rfl zk_0 c_
    refine lv_iconst (v := 0) hx hb dX8_oneBit_7 (by decide) ?_
    refine W.widen (k := 0) (n := 0) (by decide) (by decide) ?_
    have b_ : -2147483648 ≤ (v0 2).toInt ∧ (v0 2).toInt ≤ 2147483647 := ⟨zlo _, zhi _⟩
    have b_ : -2147483648 ≤ (v0 3).toInt ∧ (v0 3).toInt ≤ 2147483647 := ⟨zlo _, zhi _⟩
    have b_ : -2147483648 ≤ (v0 4).toInt ∧ (v0 4).toInt ≤ 2147483647 := ⟨zlo _, zhi _⟩
    have hpost : (0 ≤ (0 : Int32).toInt ∧ (0 : Int32).toInt ≤ 1) ∧ ((-2147483648) ≤ (v0 1).toInt ∧ (v0 1).toInt ≤ 2147483646) := ⟨⟨by omega, by omega⟩, ⟨by omega, by omega⟩⟩
    have hP9 : va_P (dC, dI) vwCl [(h0, .inr (8, mX8 h1 (upd (upd (upd (upd v0 1 (v0 1)) 2 (v0 2)) 3 (v0 3)) 4 (v0 4)))), (h1, .inr (6, mX6 h2 h3 h4 h5 h6 h7 h8 h9 v1)), (h4, .inl (k4, 833, .inl f4)), (h3, .inl (k3, 833, .inl f3)), (h2, .inl (k2, 1250, .inl f2))] s.heap := hP
    have hD9 : va_D A [(h0, .inr (8, mX8 h1 (upd (upd (upd (upd v0 1 (v0 1)) 2 (v0 2)) 3 (v0 3)) 4 (v0 4)))), (h1, .inr (6, mX6 h2 h3 h4 h5 h6 h7 h8 h9 v1)), (h4, .inl (k4, 833, .inl f4)), (h3, .inl (k3, 833, .inl f3)), (h2, .inl (k2, 1250, .inl f2))] := hD
    exact W.iret (v := 0) hx hb hr (fun t ht hW => ⟨⟨0, (fun i => ([(v0 1), (v0 2), (v0 3), (v0 4)] : List (Int32)).getD i 0), rfl, hpost, (fun _ => 0), (fun _ => (fun _ => 0)), (fun _ => (fun _ => 0)), by rw [ht]; exact hP9, va_K.moved hW.alike hK, hD9⟩, hS.F ht⟩) hS.2.2 dX8_oneBit_8
set_option maxHeartbeats 8000000 in
set_option maxRecDepth 100000 in
theorem sX8_gamma_0 (l : Launch) (dC : Nat → ClassId) (dI : Nat → Nat → Nat) (adK adV : Nat → Nat) (h0 : Nat) (h1 : Nat) (h4 : Nat) (h3 : Nat) (h2 : Nat) (h5 : Nat) (h6 : Nat) (h7 : Nat) (h8 : Nat) (h9 : Nat) (k4 : ClassId) (k3 : ClassId) (k2 : ClassId) (sz : Nat) (v0 : Nat → Int32) (v1 : Nat → Int32) (f4 : Nat → Int32) (f3 : Nat → Int32) (f2 : Nat → Int32) (hv1 : zR rg_Postings v1) (hf3 : zA 0 1250 f3) : Met l yX8_gamma (zw yX8_gamma cX8_gamma 4 (some .int)) { frames := 2, cells := 0, slots := 0, locals := 44 } (zPc dC dI adK adV [.ref h0] sz [(h0, .inr (8, mX8 h1 v0)), (h1, .inr (6, mX6 h2 h3 h4 h5 h6 h7 h8 h9 v1)), (h4, .inl (k4, 833, .inl f4)), (h3, .inl (k3, 833, .inl f3)), (h2, .inl (k2, 1250, .inl f2))] [(k4, .int), (k3, .int), (k2, .int)]) (va_Qi (fun (r : Int32) (u : Nat → Int32) => True) (fun (u : Nat → Int32) (t : State) => ∃ (ww : Nat → Int64) (aa : Nat → Nat → Int32) (bb : Nat → Nat → Int64), va_P (dC, dI) vwCl [(h0, .inr (8, mX8 h1 (upd (upd (upd (upd v0 1 (u 0)) 2 (u 1)) 3 (u 2)) 4 (u 3)))), (h1, .inr (6, mX6 h2 h3 h4 h5 h6 h7 h8 h9 v1)), (h4, .inl (k4, 833, .inl f4)), (h3, .inl (k3, 833, .inl f3)), (h2, .inl (k2, 1250, .inl f2))] t.heap ∧ va_K (dC, dI) vwCl [(k4, .int), (k3, .int), (k2, .int)] t ∧ va_D (va_A [(h0, .inr (8, mX8 h1 v0)), (h1, .inr (6, mX6 h2 h3 h4 h5 h6 h7 h8 h9 v1)), (h4, .inl (k4, 833, .inl f4)), (h3, .inl (k3, 833, .inl f3)), (h2, .inl (k2, 1250, .inl f2))] sz) [(h0, .inr (8, mX8 h1 (upd (upd (upd (upd v0 1 (u 0)) 2 (u 1)) 3 (u 2)) 4 (u 3)))), (h1, .inr (6, mX6 h2 h3 h4 h5 h6 h7 h8 h9 v1)), (h4, .inl (k4, 833, .inl f4)), (h3, .inl (k3, 833, .inl f3)), (h2, .inl (k2, 1250, .inl f2))]) (va_A [(h0, .inr (8, mX8 h1 v0)), (h1, .inr (6, mX6 h2 h3 h4 h5 h6 h7 h8 h9 v1)), (h4, .inl (k4, 833, .inl f4)), (h3, .inl (k3, 833, .inl f3)), (h2, .inl (k2, 1250, .inl f2))] sz)) 0 0 (va_A [(h0, .inr (8, mX8 h1 v0)), (h1, .inr (6, mX6 h2 h3 h4 h5 h6 h7 h8 h9 v1)), (h4, .inl (k4, 833, .inl f4)), (h3, .inl (k3, 833, .inl f3)), (h2, .inl (k2, 1250, .inl f2))] sz) := by
  refine Met.ofW (cc := cX8_gamma) (maxL := 4) (ret := (some .int)) (by decide) rfl ?_
  intro p e s m args below meth c s₁ B hml hv
  obtain ⟨rfl, hsz, hP, hK, hD0, hE, hZ⟩ := hv
  have hx := B.exec
  have hb := B.bytes
  have hr := B.returns
  have hG : ∀ w ∈ zG, w.before _ s = true := fun w h => atoms_spec (ws := (zw yX8_gamma cX8_gamma 4 (some .int))) B.pre w (List.mem_cons_of_mem _ h)
  have hown : s.vm.findClass RX8 = some m.cls := findClass_of_methodNamed B.named
  have hlocks := B.notSynchronized

  subst hsz
  have hD := hD0.self (sz := s.heap.size)
  generalize hAe : va_A [(h0, .inr (8, mX8 h1 v0)), (h1, .inr (6, mX6 h2 h3 h4 h5 h6 h7 h8 h9 v1)), (h4, .inl (k4, 833, .inl f4)), (h3, .inl (k3, 833, .inl f3)), (h2, .inl (k2, 1250, .inl f2))] s.heap.size = A at hD hZ ⊢
  have hA : ∀ q : Nat, s.heap.size ≤ q → A q := fun q h => by rw [← hAe]; exact Or.inr h
  have hS : va_S A s.heap s.heap [] := va_S.rf
  have hl := lv_entry ([.ref h0]) (n := 4) (Nat.le_of_ble_eq_true rfl)
  rw [lg_entry_eq]
  generalize (lg_sl ([.ref h0]) ++ List.replicate (4 - (lg_sl ([.ref h0])).length) Slot.unset).toArray = ls at hl ⊢
  have hl : lv_has ls 4 [(0, .ref h0)] := hl
  have b_ := zk_0
  refine lv_iconst (v := 0) hx hb dX8_gamma_0 (by decide) ?_
  refine lv_istore_n (lv' := [(1, .int 0), (0, .ref h0)]) hx hb dX8_gamma_1 rfl hl (by decide) rfl (fun ls hl => ?_)
  refine zcutL (fun u2_ => (31 - (u2_ 0).toInt).toNat) (fun H locs ls u2_ w2_ a2_ b2_ => va_P (dC, dI) vwCl [(h0, .inr (8, mX8 h1 (upd (upd (upd (upd v0 1 (u2_ 1)) 2 (u2_ 2)) 3 (u2_ 3)) 4 (u2_ 4)))), (h1, .inr (6, mX6 h2 h3 h4 h5 h6 h7 h8 h9 v1)), (h4, .inl (k4, 833, .inl f4)), (h3, .inl (k3, 833, .inl f3)), (h2, .inl (k2, 1250, .inl f2))] H ∧ va_D A [(h0, .inr (8, mX8 h1 (upd (upd (upd (upd v0 1 (u2_ 1)) 2 (u2_ 2)) 3 (u2_ 3)) 4 (u2_ 4)))), (h1, .inr (6, mX6 h2 h3 h4 h5 h6 h7 h8 h9 v1)), (h4, .inl (k4, 833, .inl f4)), (h3, .inl (k3, 833, .inl f3)), (h2, .inl (k2, 1250, .inl f2))] ∧ va_S A s.heap H locs ∧ lv_has ls 4 [(0, .ref h0), (1, .int (u2_ 0))] ∧ (0 ≤ (u2_ 0).toInt ∧ (u2_ 0).toInt ≤ 31)) (fun ls u2_ w2_ => F0 m 2 ls []) 0 0 ?_ (fun hJ2 => ?_)
  · skip
    intro H locs ls u2_ w2_ a2_ b2_ hc hJ2
    obtain ⟨hP, hD, hS, hl, b_⟩ := hc
    refine lv_iload_n hx hb dX8_gamma_2 rfl (lv_at hl 1 rfl) ?_
    refine lv_bipush (v := 31) hx hb dX8_gamma_3 (by decide) ?_
    refine zcutW (fun H locs ls u28_ w28_ a28_ b28_ => va_P (dC, dI) vwCl [(h0, .inr (8, mX8 h1 (upd (upd (upd (upd v0 1 (u28_ 0)) 2 (u28_ 1)) 3 (u28_ 2)) 4 (u28_ 3)))), (h1, .inr (6, mX6 h2 h3 h4 h5 h6 h7 h8 h9 v1)), (h4, .inl (k4, 833, .inl f4)), (h3, .inl (k3, 833, .inl f3)), (h2, .inl (k2, 1250, .inl f2))] H ∧ va_D A [(h0, .inr (8, mX8 h1 (upd (upd (upd (upd v0 1 (u28_ 0)) 2 (u28_ 1)) 3 (u28_ 2)) 4 (u28_ 3)))), (h1, .inr (6, mX6 h2 h3 h4 h5 h6 h7 h8 h9 v1)), (h4, .inl (k4, 833, .inl f4)), (h3, .inl (k3, 833, .inl f3)), (h2, .inl (k2, 1250, .inl f2))] ∧ va_S A s.heap H locs ∧ lv_has ls 4 [(0, .ref h0), (1, .int (u2_ 0))] ∧ (0 ≤ (u2_ 0).toInt ∧ (u2_ 0).toInt ≤ 31)) (fun ls u28_ w28_ => F0 m 28 ls []) 0 0 ?_ (fun hJ28 => ?_)
    · skip
      intro H locs ls u28_ w28_ a28_ b28_ hc
      obtain ⟨hP, hD, hS, hl, b_⟩ := hc
      refine lv_iconst (v := 1) hx hb dX8_gamma_28 (by decide) ?_
      refine lv_istore_n (lv' := [(2, .int 1), (0, .ref h0), (1, .int (u2_ 0))]) hx hb dX8_gamma_29 rfl hl (by decide) rfl (fun ls hl => ?_)
      refine lv_iconst (v := 0) hx hb dX8_gamma_30 (by decide) ?_
      refine lv_istore_n (lv' := [(3, .int 0), (2, .int 1), (0, .ref h0), (1, .int (u2_ 0))]) hx hb dX8_gamma_31 rfl hl (by decide) rfl (fun ls hl => ?_)
      refine zcutL (fun u32_ => (31 - (u32_ 1).toInt).toNat) (fun H locs ls u32_ w32_ a32_ b32_ => va_P (dC, dI) vwCl [(h0, .inr (8, mX8 h1 (upd (upd (upd (upd v0 1 (u32_ 2)) 2 (u32_ 3)) 3 (u32_ 4)) 4 (u32_ 5)))), (h1, .inr (6, mX6 h2 h3 h4 h5 h6 h7 h8 h9 v1)), (h4, .inl (k4, 833, .inl f4)), (h3, .inl (k3, 833, .inl f3)), (h2, .inl (k2, 1250, .inl f2))] H ∧ va_D A [(h0, .inr (8, mX8 h1 (upd (upd (upd (upd v0 1 (u32_ 2)) 2 (u32_ 3)) 3 (u32_ 4)) 4 (u32_ 5)))), (h1, .inr (6, mX6 h2 h3 h4 h5 h6 h7 h8 h9 v1)), (h4, .inl (k4, 833, .inl f4)), (h3, .inl (k3, 833, .inl f3)), (h2, .inl (k2, 1250, .inl f2))] ∧ va_S A s.heap H locs ∧ lv_has ls 4 [(0, .ref h0), (1, .int (u2_ 0)), (2, .int (u32_ 0)), (3, .int (u32_ 1))] ∧ (0 ≤ (u32_ 1).toInt ∧ (u32_ 1).toInt ≤ 31)) (fun ls u32_ w32_ => F0 m 32 ls []) 0 0 ?_ (fun hJ32 => ?_)
      · skip
        intro H locs ls u32_ w32_ a32_ b32_ hc hJ32
        obtain ⟨hP, hD, hS, hl, b_⟩ := hc
        refine lv_iload_n hx hb dX8_gamma_32 rfl (lv_at hl 3 rfl) ?_
        refine lv_iload_n hx hb dX8_gamma_33 rfl (lv_at hl 1 rfl) ?_
        refine lv_icmp_ge (tgt := 52) hx hb dX8_gamma_34 (by decide) (fun c_ => ?_) (fun c_ => ?_)
        · skip
          have b_ := zT_ge rfl rfl c_
          refine lv_iload_n hx hb dX8_gamma_52 rfl (lv_at hl 2 rfl) ?_
          refine W.widen (k := 0) (n := 0) (by decide) (by decide) ?_
          have b_ : -2147483648 ≤ (u32_ 0).toInt ∧ (u32_ 0).toInt ≤ 2147483647 := ⟨zlo _, zhi _⟩
          have b_ : -2147483648 ≤ (u32_ 2).toInt ∧ (u32_ 2).toInt ≤ 2147483647 := ⟨zlo _, zhi _⟩
          have b_ : -2147483648 ≤ (u32_ 3).toInt ∧ (u32_ 3).toInt ≤ 2147483647 := ⟨zlo _, zhi _⟩
          have b_ : -2147483648 ≤ (u32_ 4).toInt ∧ (u32_ 4).toInt ≤ 2147483647 := ⟨zlo _, zhi _⟩
          have b_ : -2147483648 ≤ (u32_ 5).toInt ∧ (u32_ 5).toInt ≤ 2147483647 := ⟨zlo _, zhi _⟩
          have hpost : True := trivial
          have hP9 : va_P (dC, dI) vwCl [(h0, .inr (8, mX8 h1 (upd (upd (upd (upd v0 1 (u32_ 2)) 2 (u32_ 3)) 3 (u32_ 4)) 4 (u32_ 5)))), (h1, .inr (6, mX6 h2 h3 h4 h5 h6 h7 h8 h9 v1)), (h4, .inl (k4, 833, .inl f4)), (h3, .inl (k3, 833, .inl f3)), (h2, .inl (k2, 1250, .inl f2))] H := hP
          have hD9 : va_D A [(h0, .inr (8, mX8 h1 (upd (upd (upd (upd v0 1 (u32_ 2)) 2 (u32_ 3)) 3 (u32_ 4)) 4 (u32_ 5)))), (h1, .inr (6, mX6 h2 h3 h4 h5 h6 h7 h8 h9 v1)), (h4, .inl (k4, 833, .inl f4)), (h3, .inl (k3, 833, .inl f3)), (h2, .inl (k2, 1250, .inl f2))] := hD
          exact W.iret (v := (u32_ 0)) hx hb hr (fun t ht hW => ⟨⟨(u32_ 0), (fun i => ([(u32_ 2), (u32_ 3), (u32_ 4), (u32_ 5)] : List (Int32)).getD i 0), rfl, hpost, (fun _ => 0), (fun _ => (fun _ => 0)), (fun _ => (fun _ => 0)), by rw [ht]; exact hP9, va_K.moved hW.alike hK, hD9⟩, hS.F ht⟩) hS.2.2 dX8_gamma_53
        · skip
          have b_ := zF_ge rfl rfl c_
          refine lv_iload_n hx hb dX8_gamma_37 rfl (lv_at hl 2 rfl) ?_
          refine lv_iconst (v := 1) hx hb dX8_gamma_38 (by decide) ?_
          have b_ : -2147483648 ≤ (u32_ 0).toInt ∧ (u32_ 0).toInt ≤ 2147483647 := ⟨zlo _, zhi _⟩
          refine lv_ishl hx hb dX8_gamma_39 ?_
          refine lv_topi (fun z39 e_z39 => ?_)
          refine lv_aload_n hx hb dX8_gamma_40 rfl (lv_at hl 0 rfl) ?_
          have b_ : -2147483648 ≤ (u32_ 2).toInt ∧ (u32_ 2).toInt ≤ 2147483647 := ⟨zlo _, zhi _⟩
          have b_ : -2147483648 ≤ (u32_ 3).toInt ∧ (u32_ 3).toInt ≤ 2147483647 := ⟨zlo _, zhi _⟩
          have b_ : -2147483648 ≤ (u32_ 4).toInt ∧ (u32_ 4).toInt ≤ 2147483647 := ⟨zlo _, zhi _⟩
          have b_ : -2147483648 ≤ (u32_ 5).toInt ∧ (u32_ 5).toInt ≤ 2147483647 := ⟨zlo _, zhi _⟩
          have hPc := hP.sub (ws' := [(h0, .inr (8, mX8 h1 (upd (upd (upd (upd v0 1 (u32_ 2)) 2 (u32_ 3)) 3 (u32_ 4)) 4 (u32_ 5)))), (h1, .inr (6, mX6 h2 h3 h4 h5 h6 h7 h8 h9 v1)), (h4, .inl (k4, 833, .inl f4)), (h3, .inl (k3, 833, .inl f3)), (h2, .inl (k2, 1250, .inl f2))]) [0, 1, 2, 3, 4] rfl
          have hDc := hD.sub (ws' := [(h0, .inr (8, mX8 h1 (upd (upd (upd (upd v0 1 (u32_ 2)) 2 (u32_ 3)) 3 (u32_ 4)) 4 (u32_ 5)))), (h1, .inr (6, mX6 h2 h3 h4 h5 h6 h7 h8 h9 v1)), (h4, .inl (k4, 833, .inl f4)), (h3, .inl (k3, 833, .inl f3)), (h2, .inl (k2, 1250, .inl f2))]) [0, 1, 2, 3, 4] (by decide) rfl
          have hKc := hK.sub (tys' := [(k4, .int), (k3, .int), (k2, .int)]) [0, 1, 2] rfl
          have hFc := va_free (wc := [(h0, .inr (8, mX8 h1 (upd (upd (upd (upd v0 1 (u32_ 2)) 2 (u32_ 3)) 3 (u32_ 4)) 4 (u32_ 5)))), (h1, .inr (6, mX6 h2 h3 h4 h5 h6 h7 h8 h9 v1)), (h4, .inl (k4, 833, .inl f4)), (h3, .inl (k3, 833, .inl f3)), (h2, .inl (k2, 1250, .inl f2))]) hD hS hA [0, 1, 2, 3, 4] rfl
          refine va_calli (va_runV (As := []) (rest := [.int z39]) ⟨hx, hb, hml, hown, hG⟩ (sX8_oneBit_0 l dC dI adK adV h0 h1 h4 h3 h2 h5 h6 h7 h8 h9 k4 k3 k2 H.size (upd (upd (upd (upd v0 1 (u32_ 2)) 2 (u32_ 3)) 3 (u32_ 4)) 4 (u32_ 5)) v1 f4 f3 f2 hv1 hf3) (cwV 0 hG (zgV zw221 zw222 zw223 zw224 zw225) rfl rfl rfl (by decide +kernel) ⟨Nat.le_of_ble_eq_true rfl, Nat.le_of_ble_eq_true rfl⟩) ⟨zPc_blind, va_recv hKc hPc (ci := 8) (q0 := 0) rfl rfl, zPc_pre hPc hKc hDc hE hS hFc hZ⟩ rfl rfl hl.1 rfl (lv_room (Nat.le_of_ble_eq_true rfl)) dX8_gamma_41 ⟨Nat.le_of_ble_eq_true rfl, Nat.le_of_ble_eq_true rfl⟩) hS (fun q _ h => hFc q h) hFc (fun r41_ u41_ t H1 locs ht hvm hw hB hz1 hk1 hS => ?_)
          have hw : (0 ≤ r41_.toInt ∧ r41_.toInt ≤ 1) ∧ ((-2147483648) ≤ (u41_ 0).toInt ∧ (u41_ 0).toInt ≤ 2147483646) := hw
          obtain ⟨b_, b_⟩ := hw
          obtain ⟨w41_, a41_, b41_, hP1, hK1, hD1⟩ := hB
          rw [ht] at hP1
          obtain ⟨hP, hD⟩ := va_join (wr := []) (w1 := [(h0, .inr (8, mX8 h1 (upd (upd (upd (upd v0 1 (u41_ 0)) 2 (u41_ 1)) 3 (u41_ 2)) 4 (u41_ 3)))), (h1, .inr (6, mX6 h2 h3 h4 h5 h6 h7 h8 h9 v1)), (h4, .inl (k4, 833, .inl f4)), (h3, .inl (k3, 833, .inl f3)), (h2, .inl (k2, 1250, .inl f2))]) hP hD [0, 1, 2, 3, 4] [] rfl rfl (by decide) (by decide) hk1 hFc hP1 hD1
          have hP : va_P (dC, dI) vwCl [(h0, .inr (8, mX8 h1 (upd (upd (upd (upd v0 1 (u41_ 0)) 2 (u41_ 1)) 3 (u41_ 2)) 4 (u41_ 3)))), (h1, .inr (6, mX6 h2 h3 h4 h5 h6 h7 h8 h9 v1)), (h4, .inl (k4, 833, .inl f4)), (h3, .inl (k3, 833, .inl f3)), (h2, .inl (k2, 1250, .inl f2))] H1 := hP.sub [0, 1, 2, 3, 4] rfl
          have hD : va_D A [(h0, .inr (8, mX8 h1 (upd (upd (upd (upd v0 1 (u41_ 0)) 2 (u41_ 1)) 3 (u41_ 2)) 4 (u41_ 3)))), (h1, .inr (6, mX6 h2 h3 h4 h5 h6 h7 h8 h9 v1)), (h4, .inl (k4, 833, .inl f4)), (h3, .inl (k3, 833, .inl f3)), (h2, .inl (k2, 1250, .inl f2))] := hD.sub [0, 1, 2, 3, 4] (by decide) rfl
          generalize H1 = H at hP hS ⊢
          clear hz1
          have b_ : -2147483648 ≤ z39.toInt ∧ z39.toInt ≤ 2147483647 := ⟨zlo _, zhi _⟩
          refine lv_ior hx hb dX8_gamma_44 ?_
          refine lv_topi (fun z44 e_z44 => ?_)
          refine lv_istore_n (lv' := [(2, .int z44), (0, .ref h0), (1, .int (u2_ 0)), (3, .int (u32_ 1))]) hx hb dX8_gamma_45 rfl hl (by decide) rfl (fun ls hl => ?_)
          obtain ⟨z46, e_z46⟩ : ∃ z : Int32, z = (u32_ 1) + Int32.ofInt 1 := ⟨_, rfl⟩
          have b_ := zadd (x := (u32_ 1)) (y := Int32.ofInt 1) rfl (show (Int32.ofInt 1).toInt = 1 from by decide) e_z46 (by omega) (by omega)
          refine lv_iinc (v := z46) (lv' := [(3, .int z46), (2, .int z44), (0, .ref h0), (1, .int (u2_ 0))]) hx hb dX8_gamma_46 hl (k := 3) rfl e_z46.symm (by decide) rfl (fun ls hl => ?_)
          refine lv_goto (tgt := 32) hx hb dX8_gamma_49 (by decide) ?_
          have b_ : -2147483648 ≤ z44.toInt ∧ z44.toInt ≤ 2147483647 := ⟨zlo _, zhi _⟩
          have hc : va_P (dC, dI) vwCl [(h0, .inr (8, mX8 h1 (upd (upd (upd (upd v0 1 (u41_ 0)) 2 (u41_ 1)) 3 (u41_ 2)) 4 (u41_ 3)))), (h1, .inr (6, mX6 h2 h3 h4 h5 h6 h7 h8 h9 v1)), (h4, .inl (k4, 833, .inl f4)), (h3, .inl (k3, 833, .inl f3)), (h2, .inl (k2, 1250, .inl f2))] H ∧ va_D A [(h0, .inr (8, mX8 h1 (upd (upd (upd (upd v0 1 (u41_ 0)) 2 (u41_ 1)) 3 (u41_ 2)) 4 (u41_ 3)))), (h1, .inr (6, mX6 h2 h3 h4 h5 h6 h7 h8 h9 v1)), (h4, .inl (k4, 833, .inl f4)), (h3, .inl (k3, 833, .inl f3)), (h2, .inl (k2, 1250, .inl f2))] ∧ va_S A s.heap H locs ∧ lv_has ls 4 [(0, .ref h0), (1, .int (u2_ 0)), (2, .int z44), (3, .int z46)] ∧ (0 ≤ z46.toInt ∧ z46.toInt ≤ 31) := ⟨hP, hD, hS, lv_sub hl [2, 3, 1, 0] rfl, ⟨by omega, by omega⟩⟩
          exact hJ32 H locs ls (fun i => ([z44, z46, (u41_ 0), (u41_ 1), (u41_ 2), (u41_ 3)] : List (Int32)).getD i 0) (fun _ => 0) (fun _ => (fun _ => 0)) (fun _ => (fun _ => 0)) hc (show (31 - z46.toInt).toNat < (31 - (u32_ 1).toInt).toNat from by omega)
      · skip
        have hc : va_P (dC, dI) vwCl [(h0, .inr (8, mX8 h1 (upd (upd (upd (upd v0 1 (u28_ 0)) 2 (u28_ 1)) 3 (u28_ 2)) 4 (u28_ 3)))), (h1, .inr (6, mX6 h2 h3 h4 h5 h6 h7 h8 h9 v1)), (h4, .inl (k4, 833, .inl f4)), (h3, .inl (k3, 833, .inl f3)), (h2, .inl (k2, 1250, .inl f2))] H ∧ va_D A [(h0, .inr (8, mX8 h1 (upd (upd (upd (upd v0 1 (u28_ 0)) 2 (u28_ 1)) 3 (u28_ 2)) 4 (u28_ 3)))), (h1, .inr (6, mX6 h2 h3 h4 h5 h6 h7 h8 h9 v1)), (h4, .inl (k4, 833, .inl f4)), (h3, .inl (k3, 833, .inl f3)), (h2, .inl (k2, 1250, .inl f2))] ∧ va_S A s.heap H locs ∧ lv_has ls 4 [(0, .ref h0), (1, .int (u2_ 0)), (2, .int 1), (3, .int 0)] ∧ (0 ≤ (0 : Int32).toInt ∧ (0 : Int32).toInt ≤ 31) := ⟨hP, hD, hS, lv_sub hl [2, 3, 1, 0] rfl, ⟨by omega, by omega⟩⟩
        exact hJ32 H locs ls (fun i => ([1, 0, (u28_ 0), (u28_ 1), (u28_ 2), (u28_ 3)] : List (Int32)).getD i 0) (fun _ => 0) (fun _ => (fun _ => 0)) (fun _ => (fun _ => 0)) hc
    · skip
      refine lv_icmp_ge (tgt := 28) hx hb dX8_gamma_5 (by decide) (fun c_ => ?_) (fun c_ => ?_)
      · skip
        have b_ := zT_ge rfl zk_31 c_
        have hc : va_P (dC, dI) vwCl [(h0, .inr (8, mX8 h1 (upd (upd (upd (upd v0 1 (u2_ 1)) 2 (u2_ 2)) 3 (u2_ 3)) 4 (u2_ 4)))), (h1, .inr (6, mX6 h2 h3 h4 h5 h6 h7 h8 h9 v1)), (h4, .inl (k4, 833, .inl f4)), (h3, .inl (k3, 833, .inl f3)), (h2, .inl (k2, 1250, .inl f2))] H ∧ va_D A [(h0, .inr (8, mX8 h1 (upd (upd (upd (upd v0 1 (u2_ 1)) 2 (u2_ 2)) 3 (u2_ 3)) 4 (u2_ 4)))), (h1, .inr (6, mX6 h2 h3 h4 h5 h6 h7 h8 h9 v1)), (h4, .inl (k4, 833, .inl f4)), (h3, .inl (k3, 833, .inl f3)), (h2, .inl (k2, 1250, .inl f2))] ∧ va_S A s.heap H locs ∧ lv_has ls 4 [(0, .ref h0), (1, .int (u2_ 0))] ∧ (0 ≤ (u2_ 0).toInt ∧ (u2_ 0).toInt ≤ 31) := ⟨hP, hD, hS, lv_sub hl [0, 1] rfl, ⟨by omega, by omega⟩⟩
        exact hJ28 H locs ls (fun i => ([(u2_ 1), (u2_ 2), (u2_ 3), (u2_ 4)] : List (Int32)).getD i 0) (fun _ => 0) (fun _ => (fun _ => 0)) (fun _ => (fun _ => 0)) hc
      · skip
        have b_ := zF_ge rfl zk_31 c_
        refine lv_aload_n hx hb dX8_gamma_8 rfl (lv_at hl 0 rfl) ?_
        refine va_get (D := (dC, dI)) (ci := 8) (v := .int (u2_ 1)) (C := RX8) (T := TX8) (N := 9) hx hb hG zuX8 hown hK hP 0 rfl rfl 1 (by decide) (hG _ zw212) (fun _ h9 => h9) rfl dX8_gamma_9 ?_
        have b_ : -2147483648 ≤ (u2_ 1).toInt ∧ (u2_ 1).toInt ≤ 2147483647 := ⟨zlo _, zhi _⟩
        refine lv_if_le (tgt := 28) hx hb dX8_gamma_12 (by decide) (fun c_ => ?_) (fun c_ => ?_)
        · skip
          have b_ := zT_le rfl zk_0 c_
          have hc : va_P (dC, dI) vwCl [(h0, .inr (8, mX8 h1 (upd (upd (upd (upd v0 1 (u2_ 1)) 2 (u2_ 2)) 3 (u2_ 3)) 4 (u2_ 4)))), (h1, .inr (6, mX6 h2 h3 h4 h5 h6 h7 h8 h9 v1)), (h4, .inl (k4, 833, .inl f4)), (h3, .inl (k3, 833, .inl f3)), (h2, .inl (k2, 1250, .inl f2))] H ∧ va_D A [(h0, .inr (8, mX8 h1 (upd (upd (upd (upd v0 1 (u2_ 1)) 2 (u2_ 2)) 3 (u2_ 3)) 4 (u2_ 4)))), (h1, .inr (6, mX6 h2 h3 h4 h5 h6 h7 h8 h9 v1)), (h4, .inl (k4, 833, .inl f4)), (h3, .inl (k3, 833, .inl f3)), (h2, .inl (k2, 1250, .inl f2))] ∧ va_S A s.heap H locs ∧ lv_has ls 4 [(0, .ref h0), (1, .int (u2_ 0))] ∧ (0 ≤ (u2_ 0).toInt ∧ (u2_ 0).toInt ≤ 31) := ⟨hP, hD, hS, lv_sub hl [0, 1] rfl, ⟨by omega, by omega⟩⟩
          exact hJ28 H locs ls (fun i => ([(u2_ 1), (u2_ 2), (u2_ 3), (u2_ 4)] : List (Int32)).getD i 0) (fun _ => 0) (fun _ => (fun _ => 0)) (fun _ => (fun _ => 0)) hc
        · skip
          have b_ := zF_le rfl zk_0 c_
          refine lv_aload_n hx hb dX8_gamma_15 rfl (lv_at hl 0 rfl) ?_
          have b_ : -2147483648 ≤ (u2_ 2).toInt ∧ (u2_ 2).toInt ≤ 2147483647 := ⟨zlo _, zhi _⟩
          have b_ : -2147483648 ≤ (u2_ 3).toInt ∧ (u2_ 3).toInt ≤ 2147483647 := ⟨zlo _, zhi _⟩
          have b_ : -2147483648 ≤ (u2_ 4).toInt ∧ (u2_ 4).toInt ≤ 2147483647 := ⟨zlo _, zhi _⟩
          have hPc := hP.sub (ws' := [(h0, .inr (8, mX8 h1 (upd (upd (upd (upd v0 1 (u2_ 1)) 2 (u2_ 2)) 3 (u2_ 3)) 4 (u2_ 4)))), (h1, .inr (6, mX6 h2 h3 h4 h5 h6 h7 h8 h9 v1)), (h4, .inl (k4, 833, .inl f4)), (h3, .inl (k3, 833, .inl f3)), (h2, .inl (k2, 1250, .inl f2))]) [0, 1, 2, 3, 4] rfl
          have hDc := hD.sub (ws' := [(h0, .inr (8, mX8 h1 (upd (upd (upd (upd v0 1 (u2_ 1)) 2 (u2_ 2)) 3 (u2_ 3)) 4 (u2_ 4)))), (h1, .inr (6, mX6 h2 h3 h4 h5 h6 h7 h8 h9 v1)), (h4, .inl (k4, 833, .inl f4)), (h3, .inl (k3, 833, .inl f3)), (h2, .inl (k2, 1250, .inl f2))]) [0, 1, 2, 3, 4] (by decide) rfl
          have hKc := hK.sub (tys' := [(k4, .int), (k3, .int), (k2, .int)]) [0, 1, 2] rfl
          have hFc := va_free (wc := [(h0, .inr (8, mX8 h1 (upd (upd (upd (upd v0 1 (u2_ 1)) 2 (u2_ 2)) 3 (u2_ 3)) 4 (u2_ 4)))), (h1, .inr (6, mX6 h2 h3 h4 h5 h6 h7 h8 h9 v1)), (h4, .inl (k4, 833, .inl f4)), (h3, .inl (k3, 833, .inl f3)), (h2, .inl (k2, 1250, .inl f2))]) hD hS hA [0, 1, 2, 3, 4] rfl
          refine va_calli (va_runV (As := []) (rest := []) ⟨hx, hb, hml, hown, hG⟩ (sX8_oneBit_0 l dC dI adK adV h0 h1 h4 h3 h2 h5 h6 h7 h8 h9 k4 k3 k2 H.size (upd (upd (upd (upd v0 1 (u2_ 1)) 2 (u2_ 2)) 3 (u2_ 3)) 4 (u2_ 4)) v1 f4 f3 f2 hv1 hf3) (cwV 0 hG (zgV zw221 zw222 zw223 zw224 zw225) rfl rfl rfl (by decide +kernel) ⟨Nat.le_of_ble_eq_true rfl, Nat.le_of_ble_eq_true rfl⟩) ⟨zPc_blind, va_recv hKc hPc (ci := 8) (q0 := 0) rfl rfl, zPc_pre hPc hKc hDc hE hS hFc hZ⟩ rfl rfl hl.1 rfl (lv_room (Nat.le_of_ble_eq_true rfl)) dX8_gamma_16 ⟨Nat.le_of_ble_eq_true rfl, Nat.le_of_ble_eq_true rfl⟩) hS (fun q _ h => hFc q h) hFc (fun r16_ u16_ t H1 locs ht hvm hw hB hz1 hk1 hS => ?_)
          have hw : (0 ≤ r16_.toInt ∧ r16_.toInt ≤ 1) ∧ ((-2147483648) ≤ (u16_ 0).toInt ∧ (u16_ 0).toInt ≤ 2147483646) := hw
          obtain ⟨b_, b_⟩ := hw
          obtain ⟨w16_, a16_, b16_, hP1, hK1, hD1⟩ := hB
          rw [ht] at hP1
          obtain ⟨hP, hD⟩ := va_join (wr := []) (w1 := [(h0, .inr (8, mX8 h1 (upd (upd (upd (upd v0 1 (u16_ 0)) 2 (u16_ 1)) 3 (u16_ 2)) 4 (u16_ 3)))), (h1, .inr (6, mX6 h2 h3 h4 h5 h6 h7 h8 h9 v1)), (h4, .inl (k4, 833, .inl f4)), (h3, .inl (k3, 833, .inl f3)), (h2, .inl (k2, 1250, .inl f2))]) hP hD [0, 1, 2, 3, 4] [] rfl rfl (by decide) (by decide) hk1 hFc hP1 hD1
          have hP : va_P (dC, dI) vwCl [(h0, .inr (8, mX8 h1 (upd (upd (upd (upd v0 1 (u16_ 0)) 2 (u16_ 1)) 3 (u16_ 2)) 4 (u16_ 3)))), (h1, .inr (6, mX6 h2 h3 h4 h5 h6 h7 h8 h9 v1)), (h4, .inl (k4, 833, .inl f4)), (h3, .inl (k3, 833, .inl f3)), (h2, .inl (k2, 1250, .inl f2))] H1 := hP.sub [0, 1, 2, 3, 4] rfl
          have hD : va_D A [(h0, .inr (8, mX8 h1 (upd (upd (upd (upd v0 1 (u16_ 0)) 2 (u16_ 1)) 3 (u16_ 2)) 4 (u16_ 3)))), (h1, .inr (6, mX6 h2 h3 h4 h5 h6 h7 h8 h9 v1)), (h4, .inl (k4, 833, .inl f4)), (h3, .inl (k3, 833, .inl f3)), (h2, .inl (k2, 1250, .inl f2))] := hD.sub [0, 1, 2, 3, 4] (by decide) rfl
          generalize H1 = H at hP hS ⊢
          clear hz1
          refine lv_if_ne (tgt := 28) hx hb dX8_gamma_19 (by decide) (fun c_ => ?_) (fun c_ => ?_)
          · skip
            have b_ := zT_ne rfl zk_0 c_
            have hc : va_P (dC, dI) vwCl [(h0, .inr (8, mX8 h1 (upd (upd (upd (upd v0 1 (u16_ 0)) 2 (u16_ 1)) 3 (u16_ 2)) 4 (u16_ 3)))), (h1, .inr (6, mX6 h2 h3 h4 h5 h6 h7 h8 h9 v1)), (h4, .inl (k4, 833, .inl f4)), (h3, .inl (k3, 833, .inl f3)), (h2, .inl (k2, 1250, .inl f2))] H ∧ va_D A [(h0, .inr (8, mX8 h1 (upd (upd (upd (upd v0 1 (u16_ 0)) 2 (u16_ 1)) 3 (u16_ 2)) 4 (u16_ 3)))), (h1, .inr (6, mX6 h2 h3 h4 h5 h6 h7 h8 h9 v1)), (h4, .inl (k4, 833, .inl f4)), (h3, .inl (k3, 833, .inl f3)), (h2, .inl (k2, 1250, .inl f2))] ∧ va_S A s.heap H locs ∧ lv_has ls 4 [(0, .ref h0), (1, .int (u2_ 0))] ∧ (0 ≤ (u2_ 0).toInt ∧ (u2_ 0).toInt ≤ 31) := ⟨hP, hD, hS, lv_sub hl [0, 1] rfl, ⟨by omega, by omega⟩⟩
            exact hJ28 H locs ls (fun i => ([(u16_ 0), (u16_ 1), (u16_ 2), (u16_ 3)] : List (Int32)).getD i 0) (fun _ => 0) (fun _ => (fun _ => 0)) (fun _ => (fun _ => 0)) hc
          · skip
            have b_ := zF_ne rfl zk_0 c_
            obtain ⟨z22, e_z22⟩ : ∃ z : Int32, z = (u2_ 0) + Int32.ofInt 1 := ⟨_, rfl⟩
            have b_ := zadd (x := (u2_ 0)) (y := Int32.ofInt 1) rfl (show (Int32.ofInt 1).toInt = 1 from by decide) e_z22 (by omega) (by omega)
            refine lv_iinc (v := z22) (lv' := [(1, .int z22), (0, .ref h0)]) hx hb dX8_gamma_22 hl (k := 1) rfl e_z22.symm (by decide) rfl (fun ls hl => ?_)
            refine lv_goto (tgt := 2) hx hb dX8_gamma_25 (by decide) ?_
            have hc : va_P (dC, dI) vwCl [(h0, .inr (8, mX8 h1 (upd (upd (upd (upd v0 1 (u16_ 0)) 2 (u16_ 1)) 3 (u16_ 2)) 4 (u16_ 3)))), (h1, .inr (6, mX6 h2 h3 h4 h5 h6 h7 h8 h9 v1)), (h4, .inl (k4, 833, .inl f4)), (h3, .inl (k3, 833, .inl f3)), (h2, .inl (k2, 1250, .inl f2))] H ∧ va_D A [(h0, .inr (8, mX8 h1 (upd (upd (upd (upd v0 1 (u16_ 0)) 2 (u16_ 1)) 3 (u16_ 2)) 4 (u16_ 3)))), (h1, .inr (6, mX6 h2 h3 h4 h5 h6 h7 h8 h9 v1)), (h4, .inl (k4, 833, .inl f4)), (h3, .inl (k3, 833, .inl f3)), (h2, .inl (k2, 1250, .inl f2))] ∧ va_S A s.heap H locs ∧ lv_has ls 4 [(0, .ref h0), (1, .int z22)] ∧ (0 ≤ z22.toInt ∧ z22.toInt ≤ 31) := ⟨hP, hD, hS, lv_sub hl [1, 0] rfl, ⟨by omega, by omega⟩⟩
            exact hJ2 H locs ls (fun i => ([z22, (u16_ 0), (u16_ 1), (u16_ 2), (u16_ 3)] : List (Int32)).getD i 0) (fun _ => 0) (fun _ => (fun _ => 0)) (fun _ => (fun _ => 0)) hc (show (31 - z22.toInt).toNat < (31 - (u2_ 0).toInt).toNat from by omega)
  · skip
    have hc : va_P (dC, dI) vwCl [(h0, .inr (8, mX8 h1 (upd (upd (upd (upd v0 1 (v0 1)) 2 (v0 2)) 3 (v0 3)) 4 (v0 4)))), (h1, .inr (6, mX6 h2 h3 h4 h5 h6 h7 h8 h9 v1)), (h4, .inl (k4, 833, .inl f4)), (h3, .inl (k3, 833, .inl f3)), (h2, .inl (k2, 1250, .inl f2))] s.heap ∧ va_D A [(h0, .inr (8, mX8 h1 (upd (upd (upd (upd v0 1 (v0 1)) 2 (v0 2)) 3 (v0 3)) 4 (v0 4)))), (h1, .inr (6, mX6 h2 h3 h4 h5 h6 h7 h8 h9 v1)), (h4, .inl (k4, 833, .inl f4)), (h3, .inl (k3, 833, .inl f3)), (h2, .inl (k2, 1250, .inl f2))] ∧ va_S A s.heap s.heap [] ∧ lv_has ls 4 [(0, .ref h0), (1, .int 0)] ∧ (0 ≤ (0 : Int32).toInt ∧ (0 : Int32).toInt ≤ 31) := ⟨hP, hD, hS, lv_sub hl [1, 0] rfl, ⟨by omega, by omega⟩⟩
    exact hJ2 s.heap [] ls (fun i => ([0, (v0 1), (v0 2), (v0 3), (v0 4)] : List (Int32)).getD i 0) (fun _ => 0) (fun _ => (fun _ => 0)) (fun _ => (fun _ => 0)) hc
set_option maxHeartbeats 8000000 in
set_option maxRecDepth 100000 in
theorem sX8_nextDocument_0 (l : Launch) (dC : Nat → ClassId) (dI : Nat → Nat → Nat) (adK adV : Nat → Nat) (h0 : Nat) (h1 : Nat) (h4 : Nat) (h3 : Nat) (h2 : Nat) (h5 : Nat) (h6 : Nat) (h7 : Nat) (h8 : Nat) (h9 : Nat) (k4 : ClassId) (k3 : ClassId) (k2 : ClassId) (sz : Nat) (v0 : Nat → Int32) (v1 : Nat → Int32) (f4 : Nat → Int32) (f3 : Nat → Int32) (f2 : Nat → Int32) (hv1 : zR rg_Postings v1) (hf3 : zA 0 1250 f3) : Met l yX8_nextDocument (zw yX8_nextDocument cX8_nextDocument 2 (some .boolean)) { frames := 3, cells := 0, slots := 0, locals := 67 } (zPc dC dI adK adV [.ref h0] sz [(h0, .inr (8, mX8 h1 v0)), (h1, .inr (6, mX6 h2 h3 h4 h5 h6 h7 h8 h9 v1)), (h4, .inl (k4, 833, .inl f4)), (h3, .inl (k3, 833, .inl f3)), (h2, .inl (k2, 1250, .inl f2))] [(k4, .int), (k3, .int), (k2, .int)]) (va_Qi (fun (r : Int32) (u : Nat → Int32) => (0 ≤ r.toInt ∧ r.toInt ≤ 1)) (fun (u : Nat → Int32) (t : State) => ∃ (ww : Nat → Int64) (aa : Nat → Nat → Int32) (bb : Nat → Nat → Int64), va_P (dC, dI) vwCl [(h0, .inr (8, mX8 h1 (upd (upd (upd (upd (upd (upd (upd (upd v0 1 (u 0)) 2 (u 1)) 3 (u 2)) 4 (u 3)) 5 (u 4)) 6 (u 5)) 7 (u 6)) 8 (u 7)))), (h1, .inr (6, mX6 h2 h3 h4 h5 h6 h7 h8 h9 v1)), (h4, .inl (k4, 833, .inl f4)), (h3, .inl (k3, 833, .inl f3)), (h2, .inl (k2, 1250, .inl f2))] t.heap ∧ va_K (dC, dI) vwCl [(k4, .int), (k3, .int), (k2, .int)] t ∧ va_D (va_A [(h0, .inr (8, mX8 h1 v0)), (h1, .inr (6, mX6 h2 h3 h4 h5 h6 h7 h8 h9 v1)), (h4, .inl (k4, 833, .inl f4)), (h3, .inl (k3, 833, .inl f3)), (h2, .inl (k2, 1250, .inl f2))] sz) [(h0, .inr (8, mX8 h1 (upd (upd (upd (upd (upd (upd (upd (upd v0 1 (u 0)) 2 (u 1)) 3 (u 2)) 4 (u 3)) 5 (u 4)) 6 (u 5)) 7 (u 6)) 8 (u 7)))), (h1, .inr (6, mX6 h2 h3 h4 h5 h6 h7 h8 h9 v1)), (h4, .inl (k4, 833, .inl f4)), (h3, .inl (k3, 833, .inl f3)), (h2, .inl (k2, 1250, .inl f2))]) (va_A [(h0, .inr (8, mX8 h1 v0)), (h1, .inr (6, mX6 h2 h3 h4 h5 h6 h7 h8 h9 v1)), (h4, .inl (k4, 833, .inl f4)), (h3, .inl (k3, 833, .inl f3)), (h2, .inl (k2, 1250, .inl f2))] sz)) 0 0 (va_A [(h0, .inr (8, mX8 h1 v0)), (h1, .inr (6, mX6 h2 h3 h4 h5 h6 h7 h8 h9 v1)), (h4, .inl (k4, 833, .inl f4)), (h3, .inl (k3, 833, .inl f3)), (h2, .inl (k2, 1250, .inl f2))] sz) := by
  refine Met.ofW (cc := cX8_nextDocument) (maxL := 2) (ret := (some .boolean)) (by decide) rfl ?_
  intro p e s m args below meth c s₁ B hml hv
  obtain ⟨rfl, hsz, hP, hK, hD0, hE, hZ⟩ := hv
  have hx := B.exec
  have hb := B.bytes
  have hr := B.returns
  have hG : ∀ w ∈ zG, w.before _ s = true := fun w h => atoms_spec (ws := (zw yX8_nextDocument cX8_nextDocument 2 (some .boolean))) B.pre w (List.mem_cons_of_mem _ h)
  have hown : s.vm.findClass RX8 = some m.cls := findClass_of_methodNamed B.named
  have hlocks := B.notSynchronized

  subst hsz
  have hD := hD0.self (sz := s.heap.size)
  generalize hAe : va_A [(h0, .inr (8, mX8 h1 v0)), (h1, .inr (6, mX6 h2 h3 h4 h5 h6 h7 h8 h9 v1)), (h4, .inl (k4, 833, .inl f4)), (h3, .inl (k3, 833, .inl f3)), (h2, .inl (k2, 1250, .inl f2))] s.heap.size = A at hD hZ ⊢
  have hA : ∀ q : Nat, s.heap.size ≤ q → A q := fun q h => by rw [← hAe]; exact Or.inr h
  have hS : va_S A s.heap s.heap [] := va_S.rf
  have hl := lv_entry ([.ref h0]) (n := 2) (Nat.le_of_ble_eq_true rfl)
  rw [lg_entry_eq]
  generalize (lg_sl ([.ref h0]) ++ List.replicate (2 - (lg_sl ([.ref h0])).length) Slot.unset).toArray = ls at hl ⊢
  have hl : lv_has ls 2 [(0, .ref h0)] := hl
  have b_ := zk_0
  have b_ := zk_1
  refine lv_aload_n hx hb dX8_nextDocument_0 rfl (lv_at hl 0 rfl) ?_
  refine va_get (D := (dC, dI)) (ci := 8) (v := .int (v0 7)) (C := RX8) (T := TX8) (N := 9) hx hb hG zuX8 hown hK hP 0 rfl rfl 7 (by decide) (hG _ zw210) (fun _ h9 => h9) rfl dX8_nextDocument_1 ?_
  refine lv_istore_n (lv' := [(1, .int (v0 7)), (0, .ref h0)]) hx hb dX8_nextDocument_4 rfl hl (by decide) rfl (fun ls hl => ?_)
  refine zcutL (fun u5_ => ((u5_ 0).toInt - (-2147483648)).toNat) (fun H locs ls u5_ w5_ a5_ b5_ => va_P (dC, dI) vwCl [(h0, .inr (8, mX8 h1 (upd (upd (upd (upd v0 1 (u5_ 1)) 2 (u5_ 2)) 3 (u5_ 3)) 4 (u5_ 4)))), (h1, .inr (6, mX6 h2 h3 h4 h5 h6 h7 h8 h9 v1)), (h4, .inl (k4, 833, .inl f4)), (h3, .inl (k3, 833, .inl f3)), (h2, .inl (k2, 1250, .inl f2))] H ∧ va_D A [(h0, .inr (8, mX8 h1 (upd (upd (upd (upd v0 1 (u5_ 1)) 2 (u5_ 2)) 3 (u5_ 3)) 4 (u5_ 4)))), (h1, .inr (6, mX6 h2 h3 h4 h5 h6 h7 h8 h9 v1)), (h4, .inl (k4, 833, .inl f4)), (h3, .inl (k3, 833, .inl f3)), (h2, .inl (k2, 1250, .inl f2))] ∧ va_S A s.heap H locs ∧ lv_has ls 2 [(0, .ref h0), (1, .int (u5_ 0))]) (fun ls u5_ w5_ => F0 m 5 ls []) 0 0 ?_ (fun hJ5 => ?_)
  · skip
    intro H locs ls u5_ w5_ a5_ b5_ hc hJ5
    obtain ⟨hP, hD, hS, hl⟩ := hc
    refine lv_iload_n hx hb dX8_nextDocument_5 rfl (lv_at hl 1 rfl) ?_
    have b_ : -2147483648 ≤ (u5_ 0).toInt ∧ (u5_ 0).toInt ≤ 2147483647 := ⟨zlo _, zhi _⟩
    refine lv_if_le (tgt := 20) hx hb dX8_nextDocument_6 (by decide) (fun c_ => ?_) (fun c_ => ?_)
    · skip
      have b_ := zT_le rfl zk_0 c_
      refine lv_aload_n hx hb dX8_nextDocument_20 rfl (lv_at hl 0 rfl) ?_
      refine lv_iconst (v := 0) hx hb dX8_nextDocument_21 (by decide) ?_
      refine va_put (D := (dC, dI)) (ci := 8) (v := .int 0) (ty := .int) (C := RX8) (T := TX8) (N := 9) hx hb hG zuX8 tyX8 tyX8_ok nmX8 hown hK hP hD hS 0 rfl rfl 7 (by decide) (hG _ zw210) (fun _ h9 => h9) rfl (by decide +kernel) rfl rfl (Nat.le_of_ble_eq_true rfl) dX8_nextDocument_22 (fun H locs hP hD hS => ?_)
      have hP : va_P (dC, dI) vwCl [(h0, .inr (8, mX8 h1 (upd (upd (upd (upd (upd v0 1 (u5_ 1)) 2 (u5_ 2)) 3 (u5_ 3)) 4 (u5_ 4)) 7 0))), (h1, .inr (6, mX6 h2 h3 h4 h5 h6 h7 h8 h9 v1)), (h4, .inl (k4, 833, .inl f4)), (h3, .inl (k3, 833, .inl f3)), (h2, .inl (k2, 1250, .inl f2))] H := hP
      have hD : va_D A [(h0, .inr (8, mX8 h1 (upd (upd (upd (upd (upd v0 1 (u5_ 1)) 2 (u5_ 2)) 3 (u5_ 3)) 4 (u5_ 4)) 7 0))), (h1, .inr (6, mX6 h2 h3 h4 h5 h6 h7 h8 h9 v1)), (h4, .inl (k4, 833, .inl f4)), (h3, .inl (k3, 833, .inl f3)), (h2, .inl (k2, 1250, .inl f2))] := hD
      refine lv_aload_n hx hb dX8_nextDocument_25 rfl (lv_at hl 0 rfl) ?_
      refine lv_iconst (v := 0) hx hb dX8_nextDocument_26 (by decide) ?_
      refine va_put (D := (dC, dI)) (ci := 8) (v := .int 0) (ty := .int) (C := RX8) (T := TX8) (N := 9) hx hb hG zuX8 tyX8 tyX8_ok nmX8 hown hK hP hD hS 0 rfl rfl 6 (by decide) (hG _ zw211) (fun _ h9 => h9) rfl (by decide +kernel) rfl rfl (Nat.le_of_ble_eq_true rfl) dX8_nextDocument_27 (fun H locs hP hD hS => ?_)
      have hP : va_P (dC, dI) vwCl [(h0, .inr (8, mX8 h1 (upd (upd (upd (upd (upd (upd v0 1 (u5_ 1)) 2 (u5_ 2)) 3 (u5_ 3)) 4 (u5_ 4)) 6 0) 7 0))), (h1, .inr (6, mX6 h2 h3 h4 h5 h6 h7 h8 h9 v1)), (h4, .inl (k4, 833, .inl f4)), (h3, .inl (k3, 833, .inl f3)), (h2, .inl (k2, 1250, .inl f2))] H := hP
      have hD : va_D A [(h0, .inr (8, mX8 h1 (upd (upd (upd (upd (upd (upd v0 1 (u5_ 1)) 2 (u5_ 2)) 3 (u5_ 3)) 4 (u5_ 4)) 6 0) 7 0))), (h1, .inr (6, mX6 h2 h3 h4 h5 h6 h7 h8 h9 v1)), (h4, .inl (k4, 833, .inl f4)), (h3, .inl (k3, 833, .inl f3)), (h2, .inl (k2, 1250, .inl f2))] := hD
      refine lv_aload_n hx hb dX8_nextDocument_30 rfl (lv_at hl 0 rfl) ?_
      refine va_get (D := (dC, dI)) (ci := 8) (v := .int (u5_ 1)) (C := RX8) (T := TX8) (N := 9) hx hb hG zuX8 hown hK hP 0 rfl rfl 1 (by decide) (hG _ zw212) (fun _ h9 => h9) rfl dX8_nextDocument_31 ?_
      have b_ : -2147483648 ≤ (u5_ 1).toInt ∧ (u5_ 1).toInt ≤ 2147483647 := ⟨zlo _, zhi _⟩
      refine lv_if_ne (tgt := 45) hx hb dX8_nextDocument_34 (by decide) (fun c_ => ?_) (fun c_ => ?_)
      · skip
        have b_ := zT_ne rfl zk_0 c_
        refine lv_aload_n hx hb dX8_nextDocument_45 rfl (lv_at hl 0 rfl) ?_
        refine lv_dup hx hb dX8_nextDocument_46 rfl ?_
        refine va_get (D := (dC, dI)) (ci := 8) (v := .int (v0 5)) (C := RX8) (T := TX8) (N := 9) hx hb hG zuX8 hown hK hP 0 rfl rfl 5 (by decide) (hG _ zw213) (fun _ h9 => h9) rfl dX8_nextDocument_47 ?_
        refine lv_aload_n hx hb dX8_nextDocument_50 rfl (lv_at hl 0 rfl) ?_
        have b_ : -2147483648 ≤ (u5_ 2).toInt ∧ (u5_ 2).toInt ≤ 2147483647 := ⟨zlo _, zhi _⟩
        have b_ : -2147483648 ≤ (u5_ 3).toInt ∧ (u5_ 3).toInt ≤ 2147483647 := ⟨zlo _, zhi _⟩
        have b_ : -2147483648 ≤ (u5_ 4).toInt ∧ (u5_ 4).toInt ≤ 2147483647 := ⟨zlo _, zhi _⟩
        have hPc := hP.sub (ws' := [(h0, .inr (8, mX8 h1 (upd (upd (upd (upd (upd (upd v0 1 (u5_ 1)) 2 (u5_ 2)) 3 (u5_ 3)) 4 (u5_ 4)) 6 0) 7 0))), (h1, .inr (6, mX6 h2 h3 h4 h5 h6 h7 h8 h9 v1)), (h4, .inl (k4, 833, .inl f4)), (h3, .inl (k3, 833, .inl f3)), (h2, .inl (k2, 1250, .inl f2))]) [0, 1, 2, 3, 4] rfl
        have hDc := hD.sub (ws' := [(h0, .inr (8, mX8 h1 (upd (upd (upd (upd (upd (upd v0 1 (u5_ 1)) 2 (u5_ 2)) 3 (u5_ 3)) 4 (u5_ 4)) 6 0) 7 0))), (h1, .inr (6, mX6 h2 h3 h4 h5 h6 h7 h8 h9 v1)), (h4, .inl (k4, 833, .inl f4)), (h3, .inl (k3, 833, .inl f3)), (h2, .inl (k2, 1250, .inl f2))]) [0, 1, 2, 3, 4] (by decide) rfl
        have hKc := hK.sub (tys' := [(k4, .int), (k3, .int), (k2, .int)]) [0, 1, 2] rfl
        have hFc := va_free (wc := [(h0, .inr (8, mX8 h1 (upd (upd (upd (upd (upd (upd v0 1 (u5_ 1)) 2 (u5_ 2)) 3 (u5_ 3)) 4 (u5_ 4)) 6 0) 7 0))), (h1, .inr (6, mX6 h2 h3 h4 h5 h6 h7 h8 h9 v1)), (h4, .inl (k4, 833, .inl f4)), (h3, .inl (k3, 833, .inl f3)), (h2, .inl (k2, 1250, .inl f2))]) hD hS hA [0, 1, 2, 3, 4] rfl
        refine va_calli (va_runV (As := []) (rest := [.int (v0 5), .ref h0]) ⟨hx, hb, hml, hown, hG⟩ (sX8_gamma_0 l dC dI adK adV h0 h1 h4 h3 h2 h5 h6 h7 h8 h9 k4 k3 k2 H.size (upd (upd (upd (upd (upd (upd v0 1 (u5_ 1)) 2 (u5_ 2)) 3 (u5_ 3)) 4 (u5_ 4)) 6 0) 7 0) v1 f4 f3 f2 hv1 hf3) (cwV 0 hG (zgV zw227 zw228 zw229 zw224 zw230) rfl rfl rfl (by decide +kernel) ⟨Nat.le_of_ble_eq_true rfl, Nat.le_of_ble_eq_true rfl⟩) ⟨zPc_blind, va_recv hKc hPc (ci := 8) (q0 := 0) rfl rfl, zPc_pre hPc hKc hDc hE hS hFc hZ⟩ rfl rfl hl.1 rfl (lv_room (Nat.le_of_ble_eq_true rfl)) dX8_nextDocument_51 ⟨Nat.le_of_ble_eq_true rfl, Nat.le_of_ble_eq_true rfl⟩) hS (fun q _ h => hFc q h) hFc (fun r51_ u51_ t H1 locs ht hvm hw hB hz1 hk1 hS => ?_)
        obtain ⟨w51_, a51_, b51_, hP1, hK1, hD1⟩ := hB
        rw [ht] at hP1
        obtain ⟨hP, hD⟩ := va_join (wr := []) (w1 := [(h0, .inr (8, mX8 h1 (upd (upd (upd (upd (upd (upd v0 1 (u51_ 0)) 2 (u51_ 1)) 3 (u51_ 2)) 4 (u51_ 3)) 6 0) 7 0))), (h1, .inr (6, mX6 h2 h3 h4 h5 h6 h7 h8 h9 v1)), (h4, .inl (k4, 833, .inl f4)), (h3, .inl (k3, 833, .inl f3)), (h2, .inl (k2, 1250, .inl f2))]) hP hD [0, 1, 2, 3, 4] [] rfl rfl (by decide) (by decide) hk1 hFc hP1 hD1
        have hP : va_P (dC, dI) vwCl [(h0, .inr (8, mX8 h1 (upd (upd (upd (upd (upd (upd v0 1 (u51_ 0)) 2 (u51_ 1)) 3 (u51_ 2)) 4 (u51_ 3)) 6 0) 7 0))), (h1, .inr (6, mX6 h2 h3 h4 h5 h6 h7 h8 h9 v1)), (h4, .inl (k4, 833, .inl f4)), (h3, .inl (k3, 833, .inl f3)), (h2, .inl (k2, 1250, .inl f2))] H1 := hP.sub [0, 1, 2, 3, 4] rfl
        have hD : va_D A [(h0, .inr (8, mX8 h1 (upd (upd (upd (upd (upd (upd v0 1 (u51_ 0)) 2 (u51_ 1)) 3 (u51_ 2)) 4 (u51_ 3)) 6 0) 7 0))), (h1, .inr (6, mX6 h2 h3 h4 h5 h6 h7 h8 h9 v1)), (h4, .inl (k4, 833, .inl f4)), (h3, .inl (k3, 833, .inl f3)), (h2, .inl (k2, 1250, .inl f2))] := hD.sub [0, 1, 2, 3, 4] (by decide) rfl
        generalize H1 = H at hP hS ⊢
        clear hz1
        have b_ : -2147483648 ≤ (v0 5).toInt ∧ (v0 5).toInt ≤ 2147483647 := ⟨zlo _, zhi _⟩
        have b_ : -2147483648 ≤ r51_.toInt ∧ r51_.toInt ≤ 2147483647 := ⟨zlo _, zhi _⟩
        refine lv_iadd hx hb dX8_nextDocument_54 ?_
        refine lv_topi (fun z54 e_z54 => ?_)
        refine va_put (D := (dC, dI)) (ci := 8) (v := .int z54) (ty := .int) (C := RX8) (T := TX8) (N := 9) hx hb hG zuX8 tyX8 tyX8_ok nmX8 hown hK hP hD hS 0 rfl rfl 5 (by decide) (hG _ zw213) (fun _ h9 => h9) rfl (by decide +kernel) rfl rfl (Nat.le_of_ble_eq_true rfl) dX8_nextDocument_55 (fun H locs hP hD hS => ?_)
        have hP : va_P (dC, dI) vwCl [(h0, .inr (8, mX8 h1 (upd (upd (upd (upd (upd (upd (upd v0 1 (u51_ 0)) 2 (u51_ 1)) 3 (u51_ 2)) 4 (u51_ 3)) 5 z54) 6 0) 7 0))), (h1, .inr (6, mX6 h2 h3 h4 h5 h6 h7 h8 h9 v1)), (h4, .inl (k4, 833, .inl f4)), (h3, .inl (k3, 833, .inl f3)), (h2, .inl (k2, 1250, .inl f2))] H := hP
        have hD : va_D A [(h0, .inr (8, mX8 h1 (upd (upd (upd (upd (upd (upd (upd v0 1 (u51_ 0)) 2 (u51_ 1)) 3 (u51_ 2)) 4 (u51_ 3)) 5 z54) 6 0) 7 0))), (h1, .inr (6, mX6 h2 h3 h4 h5 h6 h7 h8 h9 v1)), (h4, .inl (k4, 833, .inl f4)), (h3, .inl (k3, 833, .inl f3)), (h2, .inl (k2, 1250, .inl f2))] := hD
        refine lv_aload_n hx hb dX8_nextDocument_58 rfl (lv_at hl 0 rfl) ?_
        refine lv_aload_n hx hb dX8_nextDocument_59 rfl (lv_at hl 0 rfl) ?_
        have b_ : -2147483648 ≤ (u51_ 0).toInt ∧ (u51_ 0).toInt ≤ 2147483647 := ⟨zlo _, zhi _⟩
        have b_ : -2147483648 ≤ (u51_ 1).toInt ∧ (u51_ 1).toInt ≤ 2147483647 := ⟨zlo _, zhi _⟩
        have b_ : -2147483648 ≤ (u51_ 2).toInt ∧ (u51_ 2).toInt ≤ 2147483647 := ⟨zlo _, zhi _⟩
        have b_ : -2147483648 ≤ (u51_ 3).toInt ∧ (u51_ 3).toInt ≤ 2147483647 := ⟨zlo _, zhi _⟩
        have b_ : -2147483648 ≤ z54.toInt ∧ z54.toInt ≤ 2147483647 := ⟨zlo _, zhi _⟩
        have hPc := hP.sub (ws' := [(h0, .inr (8, mX8 h1 (upd (upd (upd (upd (upd (upd (upd v0 1 (u51_ 0)) 2 (u51_ 1)) 3 (u51_ 2)) 4 (u51_ 3)) 5 z54) 6 0) 7 0))), (h1, .inr (6, mX6 h2 h3 h4 h5 h6 h7 h8 h9 v1)), (h4, .inl (k4, 833, .inl f4)), (h3, .inl (k3, 833, .inl f3)), (h2, .inl (k2, 1250, .inl f2))]) [0, 1, 2, 3, 4] rfl
        have hDc := hD.sub (ws' := [(h0, .inr (8, mX8 h1 (upd (upd (upd (upd (upd (upd (upd v0 1 (u51_ 0)) 2 (u51_ 1)) 3 (u51_ 2)) 4 (u51_ 3)) 5 z54) 6 0) 7 0))), (h1, .inr (6, mX6 h2 h3 h4 h5 h6 h7 h8 h9 v1)), (h4, .inl (k4, 833, .inl f4)), (h3, .inl (k3, 833, .inl f3)), (h2, .inl (k2, 1250, .inl f2))]) [0, 1, 2, 3, 4] (by decide) rfl
        have hKc := hK.sub (tys' := [(k4, .int), (k3, .int), (k2, .int)]) [0, 1, 2] rfl
        have hFc := va_free (wc := [(h0, .inr (8, mX8 h1 (upd (upd (upd (upd (upd (upd (upd v0 1 (u51_ 0)) 2 (u51_ 1)) 3 (u51_ 2)) 4 (u51_ 3)) 5 z54) 6 0) 7 0))), (h1, .inr (6, mX6 h2 h3 h4 h5 h6 h7 h8 h9 v1)), (h4, .inl (k4, 833, .inl f4)), (h3, .inl (k3, 833, .inl f3)), (h2, .inl (k2, 1250, .inl f2))]) hD hS hA [0, 1, 2, 3, 4] rfl
        refine va_calli (va_runV (As := []) (rest := [.ref h0]) ⟨hx, hb, hml, hown, hG⟩ (sX8_gamma_0 l dC dI adK adV h0 h1 h4 h3 h2 h5 h6 h7 h8 h9 k4 k3 k2 H.size (upd (upd (upd (upd (upd (upd (upd v0 1 (u51_ 0)) 2 (u51_ 1)) 3 (u51_ 2)) 4 (u51_ 3)) 5 z54) 6 0) 7 0) v1 f4 f3 f2 hv1 hf3) (cwV 0 hG (zgV zw227 zw228 zw229 zw224 zw230) rfl rfl rfl (by decide +kernel) ⟨Nat.le_of_ble_eq_true rfl, Nat.le_of_ble_eq_true rfl⟩) ⟨zPc_blind, va_recv hKc hPc (ci := 8) (q0 := 0) rfl rfl, zPc_pre hPc hKc hDc hE hS hFc hZ⟩ rfl rfl hl.1 rfl (lv_room (Nat.le_of_ble_eq_true rfl)) dX8_nextDocument_60 ⟨Nat.le_of_ble_eq_true rfl, Nat.le_of_ble_eq_true rfl⟩) hS (fun q _ h => hFc q h) hFc (fun r60_ u60_ t H1 locs ht hvm hw hB hz1 hk1 hS => ?_)
        obtain ⟨w60_, a60_, b60_, hP1, hK1, hD1⟩ := hB
        rw [ht] at hP1
        obtain ⟨hP, hD⟩ := va_join (wr := []) (w1 := [(h0, .inr (8, mX8 h1 (upd (upd (upd (upd (upd (upd (upd v0 1 (u60_ 0)) 2 (u60_ 1)) 3 (u60_ 2)) 4 (u60_ 3)) 5 z54) 6 0) 7 0))), (h1, .inr (6, mX6 h2 h3 h4 h5 h6 h7 h8 h9 v1)), (h4, .inl (k4, 833, .inl f4)), (h3, .inl (k3, 833, .inl f3)), (h2, .inl (k2, 1250, .inl f2))]) hP hD [0, 1, 2, 3, 4] [] rfl rfl (by decide) (by decide) hk1 hFc hP1 hD1
        have hP : va_P (dC, dI) vwCl [(h0, .inr (8, mX8 h1 (upd (upd (upd (upd (upd (upd (upd v0 1 (u60_ 0)) 2 (u60_ 1)) 3 (u60_ 2)) 4 (u60_ 3)) 5 z54) 6 0) 7 0))), (h1, .inr (6, mX6 h2 h3 h4 h5 h6 h7 h8 h9 v1)), (h4, .inl (k4, 833, .inl f4)), (h3, .inl (k3, 833, .inl f3)), (h2, .inl (k2, 1250, .inl f2))] H1 := hP.sub [0, 1, 2, 3, 4] rfl
        have hD : va_D A [(h0, .inr (8, mX8 h1 (upd (upd (upd (upd (upd (upd (upd v0 1 (u60_ 0)) 2 (u60_ 1)) 3 (u60_ 2)) 4 (u60_ 3)) 5 z54) 6 0) 7 0))), (h1, .inr (6, mX6 h2 h3 h4 h5 h6 h7 h8 h9 v1)), (h4, .inl (k4, 833, .inl f4)), (h3, .inl (k3, 833, .inl f3)), (h2, .inl (k2, 1250, .inl f2))] := hD.sub [0, 1, 2, 3, 4] (by decide) rfl
        generalize H1 = H at hP hS ⊢
        clear hz1
        refine va_put (D := (dC, dI)) (ci := 8) (v := .int r60_) (ty := .int) (C := RX8) (T := TX8) (N := 9) hx hb hG zuX8 tyX8 tyX8_ok nmX8 hown hK hP hD hS 0 rfl rfl 6 (by decide) (hG _ zw211) (fun _ h9 => h9) rfl (by decide +kernel) rfl rfl (Nat.le_of_ble_eq_true rfl) dX8_nextDocument_63 (fun H locs hP hD hS => ?_)
        have hP : va_P (dC, dI) vwCl [(h0, .inr (8, mX8 h1 (upd (upd (upd (upd (upd (upd (upd v0 1 (u60_ 0)) 2 (u60_ 1)) 3 (u60_ 2)) 4 (u60_ 3)) 5 z54) 6 r60_) 7 0))), (h1, .inr (6, mX6 h2 h3 h4 h5 h6 h7 h8 h9 v1)), (h4, .inl (k4, 833, .inl f4)), (h3, .inl (k3, 833, .inl f3)), (h2, .inl (k2, 1250, .inl f2))] H := hP
        have hD : va_D A [(h0, .inr (8, mX8 h1 (upd (upd (upd (upd (upd (upd (upd v0 1 (u60_ 0)) 2 (u60_ 1)) 3 (u60_ 2)) 4 (u60_ 3)) 5 z54) 6 r60_) 7 0))), (h1, .inr (6, mX6 h2 h3 h4 h5 h6 h7 h8 h9 v1)), (h4, .inl (k4, 833, .inl f4)), (h3, .inl (k3, 833, .inl f3)), (h2, .inl (k2, 1250, .inl f2))] := hD
        refine lv_aload_n hx hb dX8_nextDocument_66 rfl (lv_at hl 0 rfl) ?_
        refine lv_aload_n hx hb dX8_nextDocument_67 rfl (lv_at hl 0 rfl) ?_
        refine va_get (D := (dC, dI)) (ci := 8) (v := .int r60_) (C := RX8) (T := TX8) (N := 9) hx hb hG zuX8 hown hK hP 0 rfl rfl 6 (by decide) (hG _ zw211) (fun _ h9 => h9) rfl dX8_nextDocument_68 ?_
        refine va_put (D := (dC, dI)) (ci := 8) (v := .int r60_) (ty := .int) (C := RX8) (T := TX8) (N := 9) hx hb hG zuX8 tyX8 tyX8_ok nmX8 hown hK hP hD hS 0 rfl rfl 7 (by decide) (hG _ zw210) (fun _ h9 => h9) rfl (by decide +kernel) rfl rfl (Nat.le_of_ble_eq_true rfl) dX8_nextDocument_71 (fun H locs hP hD hS => ?_)
        have hP : va_P (dC, dI) vwCl [(h0, .inr (8, mX8 h1 (upd (upd (upd (upd (upd (upd (upd v0 1 (u60_ 0)) 2 (u60_ 1)) 3 (u60_ 2)) 4 (u60_ 3)) 5 z54) 6 r60_) 7 r60_))), (h1, .inr (6, mX6 h2 h3 h4 h5 h6 h7 h8 h9 v1)), (h4, .inl (k4, 833, .inl f4)), (h3, .inl (k3, 833, .inl f3)), (h2, .inl (k2, 1250, .inl f2))] H := hP
        have hD : va_D A [(h0, .inr (8, mX8 h1 (upd (upd (upd (upd (upd (upd (upd v0 1 (u60_ 0)) 2 (u60_ 1)) 3 (u60_ 2)) 4 (u60_ 3)) 5 z54) 6 r60_) 7 r60_))), (h1, .inr (6, mX6 h2 h3 h4 h5 h6 h7 h8 h9 v1)), (h4, .inl (k4, 833, .inl f4)), (h3, .inl (k3, 833, .inl f3)), (h2, .inl (k2, 1250, .inl f2))] := hD
        refine lv_aload_n hx hb dX8_nextDocument_74 rfl (lv_at hl 0 rfl) ?_
        refine lv_iconst (v := (-1)) hx hb dX8_nextDocument_75 (by decide) ?_
        refine va_put (D := (dC, dI)) (ci := 8) (v := .int (-1)) (ty := .int) (C := RX8) (T := TX8) (N := 9) hx hb hG zuX8 tyX8 tyX8_ok nmX8 hown hK hP hD hS 0 rfl rfl 8 (by decide) (hG _ zw226) (fun _ h9 => h9) rfl (by decide +kernel) rfl rfl (Nat.le_of_ble_eq_true rfl) dX8_nextDocument_76 (fun H locs hP hD hS => ?_)
        have hP : va_P (dC, dI) vwCl [(h0, .inr (8, mX8 h1 (upd (upd (upd (upd (upd (upd (upd (upd v0 1 (u60_ 0)) 2 (u60_ 1)) 3 (u60_ 2)) 4 (u60_ 3)) 5 z54) 6 r60_) 7 r60_) 8 (-1)))), (h1, .inr (6, mX6 h2 h3 h4 h5 h6 h7 h8 h9 v1)), (h4, .inl (k4, 833, .inl f4)), (h3, .inl (k3, 833, .inl f3)), (h2, .inl (k2, 1250, .inl f2))] H := hP
        have hD : va_D A [(h0, .inr (8, mX8 h1 (upd (upd (upd (upd (upd (upd (upd (upd v0 1 (u60_ 0)) 2 (u60_ 1)) 3 (u60_ 2)) 4 (u60_ 3)) 5 z54) 6 r60_) 7 r60_) 8 (-1)))), (h1, .inr (6, mX6 h2 h3 h4 h5 h6 h7 h8 h9 v1)), (h4, .inl (k4, 833, .inl f4)), (h3, .inl (k3, 833, .inl f3)), (h2, .inl (k2, 1250, .inl f2))] := hD
        refine lv_iconst (v := 1) hx hb dX8_nextDocument_79 (by decide) ?_
        refine W.widen (k := 0) (n := 0) (by decide) (by decide) ?_
        have b_ : -2147483648 ≤ (u60_ 0).toInt ∧ (u60_ 0).toInt ≤ 2147483647 := ⟨zlo _, zhi _⟩
        have b_ : -2147483648 ≤ (u60_ 1).toInt ∧ (u60_ 1).toInt ≤ 2147483647 := ⟨zlo _, zhi _⟩
        have b_ : -2147483648 ≤ (u60_ 2).toInt ∧ (u60_ 2).toInt ≤ 2147483647 := ⟨zlo _, zhi _⟩
        have b_ : -2147483648 ≤ (u60_ 3).toInt ∧ (u60_ 3).toInt ≤ 2147483647 := ⟨zlo _, zhi _⟩
        have b_ : -2147483648 ≤ r60_.toInt ∧ r60_.toInt ≤ 2147483647 := ⟨zlo _, zhi _⟩
        have hpost : (0 ≤ (1 : Int32).toInt ∧ (1 : Int32).toInt ≤ 1) := ⟨by omega, by omega⟩
        have hP9 : va_P (dC, dI) vwCl [(h0, .inr (8, mX8 h1 (upd (upd (upd (upd (upd (upd (upd (upd v0 1 (u60_ 0)) 2 (u60_ 1)) 3 (u60_ 2)) 4 (u60_ 3)) 5 z54) 6 r60_) 7 r60_) 8 (-1)))), (h1, .inr (6, mX6 h2 h3 h4 h5 h6 h7 h8 h9 v1)), (h4, .inl (k4, 833, .inl f4)), (h3, .inl (k3, 833, .inl f3)), (h2, .inl (k2, 1250, .inl f2))] H := hP
        have hD9 : va_D A [(h0, .inr (8, mX8 h1 (upd (upd (upd (upd (upd (upd (upd (upd v0 1 (u60_ 0)) 2 (u60_ 1)) 3 (u60_ 2)) 4 (u60_ 3)) 5 z54) 6 r60_) 7 r60_) 8 (-1)))), (h1, .inr (6, mX6 h2 h3 h4 h5 h6 h7 h8 h9 v1)), (h4, .inl (k4, 833, .inl f4)), (h3, .inl (k3, 833, .inl f3)), (h2, .inl (k2, 1250, .inl f2))] := hD
        exact W.zret (v := 1) hx hb hr rfl (fun t ht hW => ⟨⟨1, (fun i => ([(u60_ 0), (u60_ 1), (u60_ 2), (u60_ 3), z54, r60_, r60_, (-1)] : List (Int32)).getD i 0), rfl, hpost, (fun _ => 0), (fun _ => (fun _ => 0)), (fun _ => (fun _ => 0)), by rw [ht]; exact hP9, va_K.moved hW.alike hK, hD9⟩, hS.F ht⟩) hS.2.2 dX8_nextDocument_80
      · skip
        have b_ := zF_ne rfl zk_0 c_
        refine lv_aload_n hx hb dX8_nextDocument_37 rfl (lv_at hl 0 rfl) ?_
        refine lv_bipush (v := 120) hx hb dX8_nextDocument_38 (by decide) ?_
        refine va_put (D := (dC, dI)) (ci := 8) (v := .int 120) (ty := .int) (C := RX8) (T := TX8) (N := 9) hx hb hG zuX8 tyX8 tyX8_ok nmX8 hown hK hP hD hS 0 rfl rfl 5 (by decide) (hG _ zw213) (fun _ h9 => h9) rfl (by decide +kernel) rfl rfl (Nat.le_of_ble_eq_true rfl) dX8_nextDocument_40 (fun H locs hP hD hS => ?_)
        have hP : va_P (dC, dI) vwCl [(h0, .inr (8, mX8 h1 (upd (upd (upd (upd (upd (upd (upd v0 1 (u5_ 1)) 2 (u5_ 2)) 3 (u5_ 3)) 4 (u5_ 4)) 5 120) 6 0) 7 0))), (h1, .inr (6, mX6 h2 h3 h4 h5 h6 h7 h8 h9 v1)), (h4, .inl (k4, 833, .inl f4)), (h3, .inl (k3, 833, .inl f3)), (h2, .inl (k2, 1250, .inl f2))] H := hP
        have hD : va_D A [(h0, .inr (8, mX8 h1 (upd (upd (upd (upd (upd (upd (upd v0 1 (u5_ 1)) 2 (u5_ 2)) 3 (u5_ 3)) 4 (u5_ 4)) 5 120) 6 0) 7 0))), (h1, .inr (6, mX6 h2 h3 h4 h5 h6 h7 h8 h9 v1)), (h4, .inl (k4, 833, .inl f4)), (h3, .inl (k3, 833, .inl f3)), (h2, .inl (k2, 1250, .inl f2))] := hD
        refine lv_iconst (v := 0) hx hb dX8_nextDocument_43 (by decide) ?_
        refine W.widen (k := 0) (n := 0) (by decide) (by decide) ?_
        have b_ : -2147483648 ≤ (u5_ 2).toInt ∧ (u5_ 2).toInt ≤ 2147483647 := ⟨zlo _, zhi _⟩
        have b_ : -2147483648 ≤ (u5_ 3).toInt ∧ (u5_ 3).toInt ≤ 2147483647 := ⟨zlo _, zhi _⟩
        have b_ : -2147483648 ≤ (u5_ 4).toInt ∧ (u5_ 4).toInt ≤ 2147483647 := ⟨zlo _, zhi _⟩
        have b_ : -2147483648 ≤ (v0 8).toInt ∧ (v0 8).toInt ≤ 2147483647 := ⟨zlo _, zhi _⟩
        have hpost : (0 ≤ (0 : Int32).toInt ∧ (0 : Int32).toInt ≤ 1) := ⟨by omega, by omega⟩
        have hP9 : va_P (dC, dI) vwCl [(h0, .inr (8, mX8 h1 (upd (upd (upd (upd (upd (upd (upd (upd v0 1 (u5_ 1)) 2 (u5_ 2)) 3 (u5_ 3)) 4 (u5_ 4)) 5 120) 6 0) 7 0) 8 (v0 8)))), (h1, .inr (6, mX6 h2 h3 h4 h5 h6 h7 h8 h9 v1)), (h4, .inl (k4, 833, .inl f4)), (h3, .inl (k3, 833, .inl f3)), (h2, .inl (k2, 1250, .inl f2))] H := hP
        have hD9 : va_D A [(h0, .inr (8, mX8 h1 (upd (upd (upd (upd (upd (upd (upd (upd v0 1 (u5_ 1)) 2 (u5_ 2)) 3 (u5_ 3)) 4 (u5_ 4)) 5 120) 6 0) 7 0) 8 (v0 8)))), (h1, .inr (6, mX6 h2 h3 h4 h5 h6 h7 h8 h9 v1)), (h4, .inl (k4, 833, .inl f4)), (h3, .inl (k3, 833, .inl f3)), (h2, .inl (k2, 1250, .inl f2))] := hD
        exact W.zret (v := 0) hx hb hr rfl (fun t ht hW => ⟨⟨0, (fun i => ([(u5_ 1), (u5_ 2), (u5_ 3), (u5_ 4), 120, 0, 0, (v0 8)] : List (Int32)).getD i 0), rfl, hpost, (fun _ => 0), (fun _ => (fun _ => 0)), (fun _ => (fun _ => 0)), by rw [ht]; exact hP9, va_K.moved hW.alike hK, hD9⟩, hS.F ht⟩) hS.2.2 dX8_nextDocument_44
    · skip
      have b_ := zF_le rfl zk_0 c_
      refine lv_aload_n hx hb dX8_nextDocument_9 rfl (lv_at hl 0 rfl) ?_
      have b_ : -2147483648 ≤ (u5_ 1).toInt ∧ (u5_ 1).toInt ≤ 2147483647 := ⟨zlo _, zhi _⟩
      have b_ : -2147483648 ≤ (u5_ 2).toInt ∧ (u5_ 2).toInt ≤ 2147483647 := ⟨zlo _, zhi _⟩
      have b_ : -2147483648 ≤ (u5_ 3).toInt ∧ (u5_ 3).toInt ≤ 2147483647 := ⟨zlo _, zhi _⟩
      have b_ : -2147483648 ≤ (u5_ 4).toInt ∧ (u5_ 4).toInt ≤ 2147483647 := ⟨zlo _, zhi _⟩
      have hPc := hP.sub (ws' := [(h0, .inr (8, mX8 h1 (upd (upd (upd (upd v0 1 (u5_ 1)) 2 (u5_ 2)) 3 (u5_ 3)) 4 (u5_ 4)))), (h1, .inr (6, mX6 h2 h3 h4 h5 h6 h7 h8 h9 v1)), (h4, .inl (k4, 833, .inl f4)), (h3, .inl (k3, 833, .inl f3)), (h2, .inl (k2, 1250, .inl f2))]) [0, 1, 2, 3, 4] rfl
      have hDc := hD.sub (ws' := [(h0, .inr (8, mX8 h1 (upd (upd (upd (upd v0 1 (u5_ 1)) 2 (u5_ 2)) 3 (u5_ 3)) 4 (u5_ 4)))), (h1, .inr (6, mX6 h2 h3 h4 h5 h6 h7 h8 h9 v1)), (h4, .inl (k4, 833, .inl f4)), (h3, .inl (k3, 833, .inl f3)), (h2, .inl (k2, 1250, .inl f2))]) [0, 1, 2, 3, 4] (by decide) rfl
      have hKc := hK.sub (tys' := [(k4, .int), (k3, .int), (k2, .int)]) [0, 1, 2] rfl
      have hFc := va_free (wc := [(h0, .inr (8, mX8 h1 (upd (upd (upd (upd v0 1 (u5_ 1)) 2 (u5_ 2)) 3 (u5_ 3)) 4 (u5_ 4)))), (h1, .inr (6, mX6 h2 h3 h4 h5 h6 h7 h8 h9 v1)), (h4, .inl (k4, 833, .inl f4)), (h3, .inl (k3, 833, .inl f3)), (h2, .inl (k2, 1250, .inl f2))]) hD hS hA [0, 1, 2, 3, 4] rfl
      refine va_calli (va_runV (As := []) (rest := []) ⟨hx, hb, hml, hown, hG⟩ (sX8_gamma_0 l dC dI adK adV h0 h1 h4 h3 h2 h5 h6 h7 h8 h9 k4 k3 k2 H.size (upd (upd (upd (upd v0 1 (u5_ 1)) 2 (u5_ 2)) 3 (u5_ 3)) 4 (u5_ 4)) v1 f4 f3 f2 hv1 hf3) (cwV 0 hG (zgV zw227 zw228 zw229 zw224 zw230) rfl rfl rfl (by decide +kernel) ⟨Nat.le_of_ble_eq_true rfl, Nat.le_of_ble_eq_true rfl⟩) ⟨zPc_blind, va_recv hKc hPc (ci := 8) (q0 := 0) rfl rfl, zPc_pre hPc hKc hDc hE hS hFc hZ⟩ rfl rfl hl.1 rfl (lv_room (Nat.le_of_ble_eq_true rfl)) dX8_nextDocument_10 ⟨Nat.le_of_ble_eq_true rfl, Nat.le_of_ble_eq_true rfl⟩) hS (fun q _ h => hFc q h) hFc (fun r10_ u10_ t H1 locs ht hvm hw hB hz1 hk1 hS => ?_)
      obtain ⟨w10_, a10_, b10_, hP1, hK1, hD1⟩ := hB
      rw [ht] at hP1
      obtain ⟨hP, hD⟩ := va_join (wr := []) (w1 := [(h0, .inr (8, mX8 h1 (upd (upd (upd (upd v0 1 (u10_ 0)) 2 (u10_ 1)) 3 (u10_ 2)) 4 (u10_ 3)))), (h1, .inr (6, mX6 h2 h3 h4 h5 h6 h7 h8 h9 v1)), (h4, .inl (k4, 833, .inl f4)), (h3, .inl (k3, 833, .inl f3)), (h2, .inl (k2, 1250, .inl f2))]) hP hD [0, 1, 2, 3, 4] [] rfl rfl (by decide) (by decide) hk1 hFc hP1 hD1
      have hP : va_P (dC, dI) vwCl [(h0, .inr (8, mX8 h1 (upd (upd (upd (upd v0 1 (u10_ 0)) 2 (u10_ 1)) 3 (u10_ 2)) 4 (u10_ 3)))), (h1, .inr (6, mX6 h2 h3 h4 h5 h6 h7 h8 h9 v1)), (h4, .inl (k4, 833, .inl f4)), (h3, .inl (k3, 833, .inl f3)), (h2, .inl (k2, 1250, .inl f2))] H1 := hP.sub [0, 1, 2, 3, 4] rfl
      have hD : va_D A [(h0, .inr (8, mX8 h1 (upd (upd (upd (upd v0 1 (u10_ 0)) 2 (u10_ 1)) 3 (u10_ 2)) 4 (u10_ 3)))), (h1, .inr (6, mX6 h2 h3 h4 h5 h6 h7 h8 h9 v1)), (h4, .inl (k4, 833, .inl f4)), (h3, .inl (k3, 833, .inl f3)), (h2, .inl (k2, 1250, .inl f2))] := hD.sub [0, 1, 2, 3, 4] (by decide) rfl
      generalize H1 = H at hP hS ⊢
      clear hz1
      refine lv_pop hx hb dX8_nextDocument_13 rfl ?_
      obtain ⟨z14, e_z14⟩ : ∃ z : Int32, z = (u5_ 0) + Int32.ofInt (-1) := ⟨_, rfl⟩
      have b_ := zadd (x := (u5_ 0)) (y := Int32.ofInt (-1)) rfl (show (Int32.ofInt (-1)).toInt = (-1) from by decide) e_z14 (by omega) (by omega)
      refine lv_iinc (v := z14) (lv' := [(1, .int z14), (0, .ref h0)]) hx hb dX8_nextDocument_14 hl (k := 1) rfl e_z14.symm (by decide) rfl (fun ls hl => ?_)
      refine lv_goto (tgt := 5) hx hb dX8_nextDocument_17 (by decide) ?_
      have hc : va_P (dC, dI) vwCl [(h0, .inr (8, mX8 h1 (upd (upd (upd (upd v0 1 (u10_ 0)) 2 (u10_ 1)) 3 (u10_ 2)) 4 (u10_ 3)))), (h1, .inr (6, mX6 h2 h3 h4 h5 h6 h7 h8 h9 v1)), (h4, .inl (k4, 833, .inl f4)), (h3, .inl (k3, 833, .inl f3)), (h2, .inl (k2, 1250, .inl f2))] H ∧ va_D A [(h0, .inr (8, mX8 h1 (upd (upd (upd (upd v0 1 (u10_ 0)) 2 (u10_ 1)) 3 (u10_ 2)) 4 (u10_ 3)))), (h1, .inr (6, mX6 h2 h3 h4 h5 h6 h7 h8 h9 v1)), (h4, .inl (k4, 833, .inl f4)), (h3, .inl (k3, 833, .inl f3)), (h2, .inl (k2, 1250, .inl f2))] ∧ va_S A s.heap H locs ∧ lv_has ls 2 [(0, .ref h0), (1, .int z14)] := ⟨hP, hD, hS, lv_sub hl [1, 0] rfl⟩
      exact hJ5 H locs ls (fun i => ([z14, (u10_ 0), (u10_ 1), (u10_ 2), (u10_ 3)] : List (Int32)).getD i 0) (fun _ => 0) (fun _ => (fun _ => 0)) (fun _ => (fun _ => 0)) hc (show (z14.toInt - (-2147483648)).toNat < ((u5_ 0).toInt - (-2147483648)).toNat from by omega)
  · skip
    have b_ : -2147483648 ≤ (v0 7).toInt ∧ (v0 7).toInt ≤ 2147483647 := ⟨zlo _, zhi _⟩
    have hc : va_P (dC, dI) vwCl [(h0, .inr (8, mX8 h1 (upd (upd (upd (upd v0 1 (v0 1)) 2 (v0 2)) 3 (v0 3)) 4 (v0 4)))), (h1, .inr (6, mX6 h2 h3 h4 h5 h6 h7 h8 h9 v1)), (h4, .inl (k4, 833, .inl f4)), (h3, .inl (k3, 833, .inl f3)), (h2, .inl (k2, 1250, .inl f2))] s.heap ∧ va_D A [(h0, .inr (8, mX8 h1 (upd (upd (upd (upd v0 1 (v0 1)) 2 (v0 2)) 3 (v0 3)) 4 (v0 4)))), (h1, .inr (6, mX6 h2 h3 h4 h5 h6 h7 h8 h9 v1)), (h4, .inl (k4, 833, .inl f4)), (h3, .inl (k3, 833, .inl f3)), (h2, .inl (k2, 1250, .inl f2))] ∧ va_S A s.heap s.heap [] ∧ lv_has ls 2 [(0, .ref h0), (1, .int (v0 7))] := ⟨hP, hD, hS, lv_sub hl [1, 0] rfl⟩
    exact hJ5 s.heap [] ls (fun i => ([(v0 7), (v0 1), (v0 2), (v0 3), (v0 4)] : List (Int32)).getD i 0) (fun _ => 0) (fun _ => (fun _ => 0)) (fun _ => (fun _ => 0)) hc
set_option maxHeartbeats 8000000 in
set_option maxRecDepth 100000 in
theorem sX8_number_0 (l : Launch) (dC : Nat → ClassId) (dI : Nat → Nat → Nat) (adK adV : Nat → Nat) (h0 : Nat) (h1 : Nat) (sz : Nat) (v0 : Nat → Int32) : Met l yX8_number (zw yX8_number cX8_number 1 (some .int)) { frames := 0, cells := 0, slots := 0, locals := 0 } (zPc dC dI adK adV [.ref h0] sz [(h0, .inr (8, mX8 h1 v0))] []) (va_Qi (fun (r : Int32) (u : Nat → Int32) => True) (fun (u : Nat → Int32) (t : State) => ∃ (ww : Nat → Int64) (aa : Nat → Nat → Int32) (bb : Nat → Nat → Int64), va_P (dC, dI) vwCl [(h0, .inr (8, mX8 h1 v0))] t.heap ∧ va_K (dC, dI) vwCl [] t ∧ va_D (va_A [(h0, .inr (8, mX8 h1 v0))] sz) [(h0, .inr (8, mX8 h1 v0))]) (va_A [(h0, .inr (8, mX8 h1 v0))] sz)) 0 0 (va_A [(h0, .inr (8, mX8 h1 v0))] sz) := by
  refine Met.ofW (cc := cX8_number) (maxL := 1) (ret := (some .int)) (by decide) rfl ?_
  intro p e s m args below meth c s₁ B hml hv
  obtain ⟨rfl, hsz, hP, hK, hD0, hE, hZ⟩ := hv
  have hx := B.exec
  have hb := B.bytes
  have hr := B.returns
  have hG : ∀ w ∈ zG, w.before _ s = true := fun w h => atoms_spec (ws := (zw yX8_number cX8_number 1 (some .int))) B.pre w (List.mem_cons_of_mem _ h)
  have hown : s.vm.findClass RX8 = some m.cls := findClass_of_methodNamed B.named
  have hlocks := B.notSynchronized

  subst hsz
  have hD := hD0.self (sz := s.heap.size)
  generalize hAe : va_A [(h0, .inr (8, mX8 h1 v0))] s.heap.size = A at hD hZ ⊢
  have hA : ∀ q : Nat, s.heap.size ≤ q → A q := fun q h => by rw [← hAe]; exact Or.inr h
  have hS : va_S A s.heap s.heap [] := va_S.rf
  have hl := lv_entry ([.ref h0]) (n := 1) (Nat.le_of_ble_eq_true rfl)
  rw [lg_entry_eq]
  generalize (lg_sl ([.ref h0]) ++ List.replicate (1 - (lg_sl ([.ref h0])).length) Slot.unset).toArray = ls at hl ⊢
  have hl : lv_has ls 1 [(0, .ref h0)] := hl
  refine lv_aload_n hx hb dX8_number_0 rfl (lv_at hl 0 rfl) ?_
  refine va_get (D := (dC, dI)) (ci := 8) (v := .int (v0 5)) (C := RX8) (T := TX8) (N := 9) hx hb hG zuX8 hown hK hP 0 rfl rfl 5 (by decide) (hG _ zw213) (fun _ h9 => h9) rfl dX8_number_1 ?_
  refine W.widen (k := 0) (n := 0) (by decide) (by decide) ?_
  have b_ : -2147483648 ≤ (v0 5).toInt ∧ (v0 5).toInt ≤ 2147483647 := ⟨zlo _, zhi _⟩
  have hpost : True := trivial
  have hP9 : va_P (dC, dI) vwCl [(h0, .inr (8, mX8 h1 v0))] s.heap := hP
  have hD9 : va_D A [(h0, .inr (8, mX8 h1 v0))] := hD
  exact W.iret (v := (v0 5)) hx hb hr (fun t ht hW => ⟨⟨(v0 5), (fun _ => 0), rfl, hpost, (fun _ => 0), (fun _ => (fun _ => 0)), (fun _ => (fun _ => 0)), by rw [ht]; exact hP9, va_K.moved hW.alike hK, hD9⟩, hS.F ht⟩) hS.2.2 dX8_number_4
set_option maxHeartbeats 8000000 in
set_option maxRecDepth 100000 in
theorem sX8_places_0 (l : Launch) (dC : Nat → ClassId) (dI : Nat → Nat → Nat) (adK adV : Nat → Nat) (h0 : Nat) (h1 : Nat) (sz : Nat) (v0 : Nat → Int32) : Met l yX8_places (zw yX8_places cX8_places 1 (some .int)) { frames := 0, cells := 0, slots := 0, locals := 0 } (zPc dC dI adK adV [.ref h0] sz [(h0, .inr (8, mX8 h1 v0))] []) (va_Qi (fun (r : Int32) (u : Nat → Int32) => True) (fun (u : Nat → Int32) (t : State) => ∃ (ww : Nat → Int64) (aa : Nat → Nat → Int32) (bb : Nat → Nat → Int64), va_P (dC, dI) vwCl [(h0, .inr (8, mX8 h1 v0))] t.heap ∧ va_K (dC, dI) vwCl [] t ∧ va_D (va_A [(h0, .inr (8, mX8 h1 v0))] sz) [(h0, .inr (8, mX8 h1 v0))]) (va_A [(h0, .inr (8, mX8 h1 v0))] sz)) 0 0 (va_A [(h0, .inr (8, mX8 h1 v0))] sz) := by
  refine Met.ofW (cc := cX8_places) (maxL := 1) (ret := (some .int)) (by decide) rfl ?_
  intro p e s m args below meth c s₁ B hml hv
  obtain ⟨rfl, hsz, hP, hK, hD0, hE, hZ⟩ := hv
  have hx := B.exec
  have hb := B.bytes
  have hr := B.returns
  have hG : ∀ w ∈ zG, w.before _ s = true := fun w h => atoms_spec (ws := (zw yX8_places cX8_places 1 (some .int))) B.pre w (List.mem_cons_of_mem _ h)
  have hown : s.vm.findClass RX8 = some m.cls := findClass_of_methodNamed B.named
  have hlocks := B.notSynchronized

  subst hsz
  have hD := hD0.self (sz := s.heap.size)
  generalize hAe : va_A [(h0, .inr (8, mX8 h1 v0))] s.heap.size = A at hD hZ ⊢
  have hA : ∀ q : Nat, s.heap.size ≤ q → A q := fun q h => by rw [← hAe]; exact Or.inr h
  have hS : va_S A s.heap s.heap [] := va_S.rf
  have hl := lv_entry ([.ref h0]) (n := 1) (Nat.le_of_ble_eq_true rfl)
  rw [lg_entry_eq]
  generalize (lg_sl ([.ref h0]) ++ List.replicate (1 - (lg_sl ([.ref h0])).length) Slot.unset).toArray = ls at hl ⊢
  have hl : lv_has ls 1 [(0, .ref h0)] := hl
  refine lv_aload_n hx hb dX8_places_0 rfl (lv_at hl 0 rfl) ?_
  refine va_get (D := (dC, dI)) (ci := 8) (v := .int (v0 6)) (C := RX8) (T := TX8) (N := 9) hx hb hG zuX8 hown hK hP 0 rfl rfl 6 (by decide) (hG _ zw211) (fun _ h9 => h9) rfl dX8_places_1 ?_
  refine W.widen (k := 0) (n := 0) (by decide) (by decide) ?_
  have b_ : -2147483648 ≤ (v0 6).toInt ∧ (v0 6).toInt ≤ 2147483647 := ⟨zlo _, zhi _⟩
  have hpost : True := trivial
  have hP9 : va_P (dC, dI) vwCl [(h0, .inr (8, mX8 h1 v0))] s.heap := hP
  have hD9 : va_D A [(h0, .inr (8, mX8 h1 v0))] := hD
  exact W.iret (v := (v0 6)) hx hb hr (fun t ht hW => ⟨⟨(v0 6), (fun _ => 0), rfl, hpost, (fun _ => 0), (fun _ => (fun _ => 0)), (fun _ => (fun _ => 0)), by rw [ht]; exact hP9, va_K.moved hW.alike hK, hD9⟩, hS.F ht⟩) hS.2.2 dX8_places_4
set_option maxHeartbeats 8000000 in
set_option maxRecDepth 100000 in
theorem sX8_nextPlace_0 (l : Launch) (dC : Nat → ClassId) (dI : Nat → Nat → Nat) (adK adV : Nat → Nat) (h0 : Nat) (h1 : Nat) (h4 : Nat) (h3 : Nat) (h2 : Nat) (h5 : Nat) (h6 : Nat) (h7 : Nat) (h8 : Nat) (h9 : Nat) (k4 : ClassId) (k3 : ClassId) (k2 : ClassId) (sz : Nat) (v0 : Nat → Int32) (v1 : Nat → Int32) (f4 : Nat → Int32) (f3 : Nat → Int32) (f2 : Nat → Int32) (hv1 : zR rg_Postings v1) (hf3 : zA 0 1250 f3) : Met l yX8_nextPlace (zw yX8_nextPlace cX8_nextPlace 1 (some .int)) { frames := 3, cells := 0, slots := 0, locals := 67 } (zPc dC dI adK adV [.ref h0] sz [(h0, .inr (8, mX8 h1 v0)), (h1, .inr (6, mX6 h2 h3 h4 h5 h6 h7 h8 h9 v1)), (h4, .inl (k4, 833, .inl f4)), (h3, .inl (k3, 833, .inl f3)), (h2, .inl (k2, 1250, .inl f2))] [(k4, .int), (k3, .int), (k2, .int)]) (va_Qi (fun (r : Int32) (u : Nat → Int32) => ((-2147483648) ≤ (u 4).toInt ∧ (u 4).toInt ≤ 2147483646)) (fun (u : Nat → Int32) (t : State) => ∃ (ww : Nat → Int64) (aa : Nat → Nat → Int32) (bb : Nat → Nat → Int64), va_P (dC, dI) vwCl [(h0, .inr (8, mX8 h1 (upd (upd (upd (upd (upd (upd v0 1 (u 0)) 2 (u 1)) 3 (u 2)) 4 (u 3)) 7 (u 4)) 8 (u 5)))), (h1, .inr (6, mX6 h2 h3 h4 h5 h6 h7 h8 h9 v1)), (h4, .inl (k4, 833, .inl f4)), (h3, .inl (k3, 833, .inl f3)), (h2, .inl (k2, 1250, .inl f2))] t.heap ∧ va_K (dC, dI) vwCl [(k4, .int), (k3, .int), (k2, .int)] t ∧ va_D (va_A [(h0, .inr (8, mX8 h1 v0)), (h1, .inr (6, mX6 h2 h3 h4 h5 h6 h7 h8 h9 v1)), (h4, .inl (k4, 833, .inl f4)), (h3, .inl (k3, 833, .inl f3)), (h2, .inl (k2, 1250, .inl f2))] sz) [(h0, .inr (8, mX8 h1 (upd (upd (upd (upd (upd (upd v0 1 (u 0)) 2 (u 1)) 3 (u 2)) 4 (u 3)) 7 (u 4)) 8 (u 5)))), (h1, .inr (6, mX6 h2 h3 h4 h5 h6 h7 h8 h9 v1)), (h4, .inl (k4, 833, .inl f4)), (h3, .inl (k3, 833, .inl f3)), (h2, .inl (k2, 1250, .inl f2))]) (va_A [(h0, .inr (8, mX8 h1 v0)), (h1, .inr (6, mX6 h2 h3 h4 h5 h6 h7 h8 h9 v1)), (h4, .inl (k4, 833, .inl f4)), (h3, .inl (k3, 833, .inl f3)), (h2, .inl (k2, 1250, .inl f2))] sz)) 0 0 (va_A [(h0, .inr (8, mX8 h1 v0)), (h1, .inr (6, mX6 h2 h3 h4 h5 h6 h7 h8 h9 v1)), (h4, .inl (k4, 833, .inl f4)), (h3, .inl (k3, 833, .inl f3)), (h2, .inl (k2, 1250, .inl f2))] sz) := by
  refine Met.ofW (cc := cX8_nextPlace) (maxL := 1) (ret := (some .int)) (by decide) rfl ?_
  intro p e s m args below meth c s₁ B hml hv
  obtain ⟨rfl, hsz, hP, hK, hD0, hE, hZ⟩ := hv
  have hx := B.exec
  have hb := B.bytes
  have hr := B.returns
  have hG : ∀ w ∈ zG, w.before _ s = true := fun w h => atoms_spec (ws := (zw yX8_nextPlace cX8_nextPlace 1 (some .int))) B.pre w (List.mem_cons_of_mem _ h)
  have hown : s.vm.findClass RX8 = some m.cls := findClass_of_methodNamed B.named
  have hlocks := B.notSynchronized

  subst hsz
  have hD := hD0.self (sz := s.heap.size)
  generalize hAe : va_A [(h0, .inr (8, mX8 h1 v0)), (h1, .inr (6, mX6 h2 h3 h4 h5 h6 h7 h8 h9 v1)), (h4, .inl (k4, 833, .inl f4)), (h3, .inl (k3, 833, .inl f3)), (h2, .inl (k2, 1250, .inl f2))] s.heap.size = A at hD hZ ⊢
  have hA : ∀ q : Nat, s.heap.size ≤ q → A q := fun q h => by rw [← hAe]; exact Or.inr h
  have hS : va_S A s.heap s.heap [] := va_S.rf
  have hl := lv_entry ([.ref h0]) (n := 1) (Nat.le_of_ble_eq_true rfl)
  rw [lg_entry_eq]
  generalize (lg_sl ([.ref h0]) ++ List.replicate (1 - (lg_sl ([.ref h0])).length) Slot.unset).toArray = ls at hl ⊢
  have hl : lv_has ls 1 [(0, .ref h0)] := hl
  refine lv_aload_n hx hb dX8_nextPlace_0 rfl (lv_at hl 0 rfl) ?_
  refine va_get (D := (dC, dI)) (ci := 8) (v := .int (v0 7)) (C := RX8) (T := TX8) (N := 9) hx hb hG zuX8 hown hK hP 0 rfl rfl 7 (by decide) (hG _ zw210) (fun _ h9 => h9) rfl dX8_nextPlace_1 ?_
  have b_ : -2147483648 ≤ (v0 7).toInt ∧ (v0 7).toInt ≤ 2147483647 := ⟨zlo _, zhi _⟩
  refine lv_if_le (tgt := 30) hx hb dX8_nextPlace_4 (by decide) (fun c_ => ?_) (fun c_ => ?_)
  · skip
    have b_ := zT_le rfl zk_0 c_
    refine lv_aload_n hx hb dX8_nextPlace_30 rfl (lv_at hl 0 rfl) ?_
    refine va_get (D := (dC, dI)) (ci := 8) (v := .int (v0 8)) (C := RX8) (T := TX8) (N := 9) hx hb hG zuX8 hown hK hP 0 rfl rfl 8 (by decide) (hG _ zw226) (fun _ h9 => h9) rfl dX8_nextPlace_31 ?_
    refine W.widen (k := 0) (n := 0) (by decide) (by decide) ?_
    have b_ : -2147483648 ≤ (v0 8).toInt ∧ (v0 8).toInt ≤ 2147483647 := ⟨zlo _, zhi _⟩
    have b_ : -2147483648 ≤ (v0 1).toInt ∧ (v0 1).toInt ≤ 2147483647 := ⟨zlo _, zhi _⟩
    have b_ : -2147483648 ≤ (v0 2).toInt ∧ (v0 2).toInt ≤ 2147483647 := ⟨zlo _, zhi _⟩
    have b_ : -2147483648 ≤ (v0 3).toInt ∧ (v0 3).toInt ≤ 2147483647 := ⟨zlo _, zhi _⟩
    have b_ : -2147483648 ≤ (v0 4).toInt ∧ (v0 4).toInt ≤ 2147483647 := ⟨zlo _, zhi _⟩
    have hpost : ((-2147483648) ≤ (v0 7).toInt ∧ (v0 7).toInt ≤ 2147483646) := ⟨by omega, by omega⟩
    have hP9 : va_P (dC, dI) vwCl [(h0, .inr (8, mX8 h1 (upd (upd (upd (upd (upd (upd v0 1 (v0 1)) 2 (v0 2)) 3 (v0 3)) 4 (v0 4)) 7 (v0 7)) 8 (v0 8)))), (h1, .inr (6, mX6 h2 h3 h4 h5 h6 h7 h8 h9 v1)), (h4, .inl (k4, 833, .inl f4)), (h3, .inl (k3, 833, .inl f3)), (h2, .inl (k2, 1250, .inl f2))] s.heap := hP
    have hD9 : va_D A [(h0, .inr (8, mX8 h1 (upd (upd (upd (upd (upd (upd v0 1 (v0 1)) 2 (v0 2)) 3 (v0 3)) 4 (v0 4)) 7 (v0 7)) 8 (v0 8)))), (h1, .inr (6, mX6 h2 h3 h4 h5 h6 h7 h8 h9 v1)), (h4, .inl (k4, 833, .inl f4)), (h3, .inl (k3, 833, .inl f3)), (h2, .inl (k2, 1250, .inl f2))] := hD
    exact W.iret (v := (v0 8)) hx hb hr (fun t ht hW => ⟨⟨(v0 8), (fun i => ([(v0 1), (v0 2), (v0 3), (v0 4), (v0 7), (v0 8)] : List (Int32)).getD i 0), rfl, hpost, (fun _ => 0), (fun _ => (fun _ => 0)), (fun _ => (fun _ => 0)), by rw [ht]; exact hP9, va_K.moved hW.alike hK, hD9⟩, hS.F ht⟩) hS.2.2 dX8_nextPlace_34
  · skip
    have b_ := zF_le rfl zk_0 c_
    refine lv_aload_n hx hb dX8_nextPlace_7 rfl (lv_at hl 0 rfl) ?_
    refine lv_dup hx hb dX8_nextPlace_8 rfl ?_
    refine va_get (D := (dC, dI)) (ci := 8) (v := .int (v0 7)) (C := RX8) (T := TX8) (N := 9) hx hb hG zuX8 hown hK hP 0 rfl rfl 7 (by decide) (hG _ zw210) (fun _ h9 => h9) rfl dX8_nextPlace_9 ?_
    refine lv_iconst (v := 1) hx hb dX8_nextPlace_12 (by decide) ?_
    refine lv_isub hx hb dX8_nextPlace_13 ?_
    refine lv_topi (fun z13 e_z13 => ?_)
    have b_ := zsub rfl zk_1 e_z13 (by omega) (by omega)
    refine va_put (D := (dC, dI)) (ci := 8) (v := .int z13) (ty := .int) (C := RX8) (T := TX8) (N := 9) hx hb hG zuX8 tyX8 tyX8_ok nmX8 hown hK hP hD hS 0 rfl rfl 7 (by decide) (hG _ zw210) (fun _ h9 => h9) rfl (by decide +kernel) rfl rfl (Nat.le_of_ble_eq_true rfl) dX8_nextPlace_14 (fun H locs hP hD hS => ?_)
    have hP : va_P (dC, dI) vwCl [(h0, .inr (8, mX8 h1 (upd v0 7 z13))), (h1, .inr (6, mX6 h2 h3 h4 h5 h6 h7 h8 h9 v1)), (h4, .inl (k4, 833, .inl f4)), (h3, .inl (k3, 833, .inl f3)), (h2, .inl (k2, 1250, .inl f2))] H := hP
    have hD : va_D A [(h0, .inr (8, mX8 h1 (upd v0 7 z13))), (h1, .inr (6, mX6 h2 h3 h4 h5 h6 h7 h8 h9 v1)), (h4, .inl (k4, 833, .inl f4)), (h3, .inl (k3, 833, .inl f3)), (h2, .inl (k2, 1250, .inl f2))] := hD
    refine lv_aload_n hx hb dX8_nextPlace_17 rfl (lv_at hl 0 rfl) ?_
    refine lv_dup hx hb dX8_nextPlace_18 rfl ?_
    refine va_get (D := (dC, dI)) (ci := 8) (v := .int (v0 8)) (C := RX8) (T := TX8) (N := 9) hx hb hG zuX8 hown hK hP 0 rfl rfl 8 (by decide) (hG _ zw226) (fun _ h9 => h9) rfl dX8_nextPlace_19 ?_
    refine lv_aload_n hx hb dX8_nextPlace_22 rfl (lv_at hl 0 rfl) ?_
    have hPc := hP.sub (ws' := [(h0, .inr (8, mX8 h1 (upd v0 7 z13))), (h1, .inr (6, mX6 h2 h3 h4 h5 h6 h7 h8 h9 v1)), (h4, .inl (k4, 833, .inl f4)), (h3, .inl (k3, 833, .inl f3)), (h2, .inl (k2, 1250, .inl f2))]) [0, 1, 2, 3, 4] rfl
    have hDc := hD.sub (ws' := [(h0, .inr (8, mX8 h1 (upd v0 7 z13))), (h1, .inr (6, mX6 h2 h3 h4 h5 h6 h7 h8 h9 v1)), (h4, .inl (k4, 833, .inl f4)), (h3, .inl (k3, 833, .inl f3)), (h2, .inl (k2, 1250, .inl f2))]) [0, 1, 2, 3, 4] (by decide) rfl
    have hKc := hK.sub (tys' := [(k4, .int), (k3, .int), (k2, .int)]) [0, 1, 2] rfl
    have hFc := va_free (wc := [(h0, .inr (8, mX8 h1 (upd v0 7 z13))), (h1, .inr (6, mX6 h2 h3 h4 h5 h6 h7 h8 h9 v1)), (h4, .inl (k4, 833, .inl f4)), (h3, .inl (k3, 833, .inl f3)), (h2, .inl (k2, 1250, .inl f2))]) hD hS hA [0, 1, 2, 3, 4] rfl
    refine va_calli (va_runV (As := []) (rest := [.int (v0 8), .ref h0]) ⟨hx, hb, hml, hown, hG⟩ (sX8_gamma_0 l dC dI adK adV h0 h1 h4 h3 h2 h5 h6 h7 h8 h9 k4 k3 k2 H.size (upd v0 7 z13) v1 f4 f3 f2 hv1 hf3) (cwV 0 hG (zgV zw227 zw228 zw229 zw224 zw230) rfl rfl rfl (by decide +kernel) ⟨Nat.le_of_ble_eq_true rfl, Nat.le_of_ble_eq_true rfl⟩) ⟨zPc_blind, va_recv hKc hPc (ci := 8) (q0 := 0) rfl rfl, zPc_pre hPc hKc hDc hE hS hFc hZ⟩ rfl rfl hl.1 rfl (lv_room (Nat.le_of_ble_eq_true rfl)) dX8_nextPlace_23 ⟨Nat.le_of_ble_eq_true rfl, Nat.le_of_ble_eq_true rfl⟩) hS (fun q _ h => hFc q h) hFc (fun r23_ u23_ t H1 locs ht hvm hw hB hz1 hk1 hS => ?_)
    obtain ⟨w23_, a23_, b23_, hP1, hK1, hD1⟩ := hB
    rw [ht] at hP1
    obtain ⟨hP, hD⟩ := va_join (wr := []) (w1 := [(h0, .inr (8, mX8 h1 (upd (upd (upd (upd (upd v0 1 (u23_ 0)) 2 (u23_ 1)) 3 (u23_ 2)) 4 (u23_ 3)) 7 z13))), (h1, .inr (6, mX6 h2 h3 h4 h5 h6 h7 h8 h9 v1)), (h4, .inl (k4, 833, .inl f4)), (h3, .inl (k3, 833, .inl f3)), (h2, .inl (k2, 1250, .inl f2))]) hP hD [0, 1, 2, 3, 4] [] rfl rfl (by decide) (by decide) hk1 hFc hP1 hD1
    have hP : va_P (dC, dI) vwCl [(h0, .inr (8, mX8 h1 (upd (upd (upd (upd (upd v0 1 (u23_ 0)) 2 (u23_ 1)) 3 (u23_ 2)) 4 (u23_ 3)) 7 z13))), (h1, .inr (6, mX6 h2 h3 h4 h5 h6 h7 h8 h9 v1)), (h4, .inl (k4, 833, .inl f4)), (h3, .inl (k3, 833, .inl f3)), (h2, .inl (k2, 1250, .inl f2))] H1 := hP.sub [0, 1, 2, 3, 4] rfl
    have hD : va_D A [(h0, .inr (8, mX8 h1 (upd (upd (upd (upd (upd v0 1 (u23_ 0)) 2 (u23_ 1)) 3 (u23_ 2)) 4 (u23_ 3)) 7 z13))), (h1, .inr (6, mX6 h2 h3 h4 h5 h6 h7 h8 h9 v1)), (h4, .inl (k4, 833, .inl f4)), (h3, .inl (k3, 833, .inl f3)), (h2, .inl (k2, 1250, .inl f2))] := hD.sub [0, 1, 2, 3, 4] (by decide) rfl
    generalize H1 = H at hP hS ⊢
    clear hz1
    have b_ : -2147483648 ≤ (v0 8).toInt ∧ (v0 8).toInt ≤ 2147483647 := ⟨zlo _, zhi _⟩
    have b_ : -2147483648 ≤ r23_.toInt ∧ r23_.toInt ≤ 2147483647 := ⟨zlo _, zhi _⟩
    refine lv_iadd hx hb dX8_nextPlace_26 ?_
    refine lv_topi (fun z26 e_z26 => ?_)
    refine va_put (D := (dC, dI)) (ci := 8) (v := .int z26) (ty := .int) (C := RX8) (T := TX8) (N := 9) hx hb hG zuX8 tyX8 tyX8_ok nmX8 hown hK hP hD hS 0 rfl rfl 8 (by decide) (hG _ zw226) (fun _ h9 => h9) rfl (by decide +kernel) rfl rfl (Nat.le_of_ble_eq_true rfl) dX8_nextPlace_27 (fun H locs hP hD hS => ?_)
    have hP : va_P (dC, dI) vwCl [(h0, .inr (8, mX8 h1 (upd (upd (upd (upd (upd (upd v0 1 (u23_ 0)) 2 (u23_ 1)) 3 (u23_ 2)) 4 (u23_ 3)) 7 z13) 8 z26))), (h1, .inr (6, mX6 h2 h3 h4 h5 h6 h7 h8 h9 v1)), (h4, .inl (k4, 833, .inl f4)), (h3, .inl (k3, 833, .inl f3)), (h2, .inl (k2, 1250, .inl f2))] H := hP
    have hD : va_D A [(h0, .inr (8, mX8 h1 (upd (upd (upd (upd (upd (upd v0 1 (u23_ 0)) 2 (u23_ 1)) 3 (u23_ 2)) 4 (u23_ 3)) 7 z13) 8 z26))), (h1, .inr (6, mX6 h2 h3 h4 h5 h6 h7 h8 h9 v1)), (h4, .inl (k4, 833, .inl f4)), (h3, .inl (k3, 833, .inl f3)), (h2, .inl (k2, 1250, .inl f2))] := hD
    refine lv_aload_n hx hb dX8_nextPlace_30 rfl (lv_at hl 0 rfl) ?_
    refine va_get (D := (dC, dI)) (ci := 8) (v := .int z26) (C := RX8) (T := TX8) (N := 9) hx hb hG zuX8 hown hK hP 0 rfl rfl 8 (by decide) (hG _ zw226) (fun _ h9 => h9) rfl dX8_nextPlace_31 ?_
    refine W.widen (k := 0) (n := 0) (by decide) (by decide) ?_
    have b_ : -2147483648 ≤ z26.toInt ∧ z26.toInt ≤ 2147483647 := ⟨zlo _, zhi _⟩
    have b_ : -2147483648 ≤ (u23_ 0).toInt ∧ (u23_ 0).toInt ≤ 2147483647 := ⟨zlo _, zhi _⟩
    have b_ : -2147483648 ≤ (u23_ 1).toInt ∧ (u23_ 1).toInt ≤ 2147483647 := ⟨zlo _, zhi _⟩
    have b_ : -2147483648 ≤ (u23_ 2).toInt ∧ (u23_ 2).toInt ≤ 2147483647 := ⟨zlo _, zhi _⟩
    have b_ : -2147483648 ≤ (u23_ 3).toInt ∧ (u23_ 3).toInt ≤ 2147483647 := ⟨zlo _, zhi _⟩
    have hpost : ((-2147483648) ≤ z13.toInt ∧ z13.toInt ≤ 2147483646) := ⟨by omega, by omega⟩
    have hP9 : va_P (dC, dI) vwCl [(h0, .inr (8, mX8 h1 (upd (upd (upd (upd (upd (upd v0 1 (u23_ 0)) 2 (u23_ 1)) 3 (u23_ 2)) 4 (u23_ 3)) 7 z13) 8 z26))), (h1, .inr (6, mX6 h2 h3 h4 h5 h6 h7 h8 h9 v1)), (h4, .inl (k4, 833, .inl f4)), (h3, .inl (k3, 833, .inl f3)), (h2, .inl (k2, 1250, .inl f2))] H := hP
    have hD9 : va_D A [(h0, .inr (8, mX8 h1 (upd (upd (upd (upd (upd (upd v0 1 (u23_ 0)) 2 (u23_ 1)) 3 (u23_ 2)) 4 (u23_ 3)) 7 z13) 8 z26))), (h1, .inr (6, mX6 h2 h3 h4 h5 h6 h7 h8 h9 v1)), (h4, .inl (k4, 833, .inl f4)), (h3, .inl (k3, 833, .inl f3)), (h2, .inl (k2, 1250, .inl f2))] := hD
    exact W.iret (v := z26) hx hb hr (fun t ht hW => ⟨⟨z26, (fun i => ([(u23_ 0), (u23_ 1), (u23_ 2), (u23_ 3), z13, z26] : List (Int32)).getD i 0), rfl, hpost, (fun _ => 0), (fun _ => (fun _ => 0)), (fun _ => (fun _ => 0)), by rw [ht]; exact hP9, va_K.moved hW.alike hK, hD9⟩, hS.F ht⟩) hS.2.2 dX8_nextPlace_34
set_option maxHeartbeats 8000000 in
set_option maxRecDepth 100000 in
theorem sX6_copyOn_0 (l : Launch) (dC : Nat → ClassId) (dI : Nat → Nat → Nat) (adK adV : Nat → Nat) (h9 : Nat) (h10 : Nat) (h13 : Nat) (h12 : Nat) (h11 : Nat) (h19 : Nat) (h20 : Nat) (h0 : Nat) (h8 : Nat) (h6 : Nat) (h5 : Nat) (h2 : Nat) (h1 : Nat) (h3 : Nat) (h4 : Nat) (h7 : Nat) (h14 : Nat) (h15 : Nat) (h16 : Nat) (h17 : Nat) (h18 : Nat) (h21 : Nat) (h22 : Nat) (h23 : Nat) (k13 : ClassId) (k12 : ClassId) (k11 : ClassId) (k20 : ClassId) (k8 : ClassId) (k6 : ClassId) (k5 : ClassId) (k2 : ClassId) (k1 : ClassId) (k3 : ClassId) (k4 : ClassId) (k7 : ClassId) (sz : Nat) (v9 : Nat → Int32) (v10 : Nat → Int32) (f13 : Nat → Int32) (f12 : Nat → Int32) (f11 : Nat → Int32) (v19 : Nat → Int32) (f20 : Nat → Int32) (v0 : Nat → Int32) (f8 : Nat → Int32) (f6 : Nat → Int32) (f5 : Nat → Int32) (f2 : Nat → Int32) (f1 : Nat → Int32) (f3 : Nat → Int32) (f4 : Nat → Int32) (f7 : Nat → Int32) (x1 : Int32) (hv10 : zR rg_Postings v10) (hf12 : zA 0 1250 f12) (hv19 : zR rg_Documents v19) (hv0 : zR rg_Postings v0) (hf5 : zA 0 832 f5) (hf2 : zA 0 1250 f2) (hp0_ : zPhi f2 f5 f6 (v0 9).toInt (v0 8).toInt) : Met l yX6_copyOn (zw yX6_copyOn cX6_copyOn 9 (some .boolean)) { frames := 5, cells := 0, slots := 0, locals := 114 } (zPc dC dI adK adV [.ref h0, .int x1, .ref h9, .ref h19] sz [(h9, .inr (8, mX8 h10 v9)), (h10, .inr (6, mX6 h11 h12 h13 h14 h15 h16 h17 h18 v10)), (h13, .inl (k13, 833, .inl f13)), (h12, .inl (k12, 833, .inl f12)), (h11, .inl (k11, 1250, .inl f11)), (h19, .inr (0, mX0 h20 h21 h22 h23 v19)), (h20, .inl (k20, 120, .inl f20)), (h0, .inr (6, mX6 h1 h2 h3 h4 h5 h6 h7 h8 v0)), (h8, .inl (k8, 400, .inl f8)), (h6, .inl (k6, 400, .inl f6)), (h5, .inl (k5, 400, .inl f5)), (h2, .inl (k2, 833, .inl f2)), (h1, .inl (k1, 1250, .inl f1)), (h3, .inl (k3, 833, .inl f3)), (h4, .inl (k4, 400, .inl f4)), (h7, .inl (k7, 400, .inl f7))] [(k13, .int), (k12, .int), (k11, .int), (k20, .boolean), (k8, .int), (k6, .int), (k5, .int), (k2, .int), (k1, .int), (k3, .int), (k4, .int), (k7, .int)]) (va_Qi (fun (r : Int32) (u : Nat → Int32) => (0 ≤ r.toInt ∧ r.toInt ≤ 1) ∧ (0 ≤ (u 8).toInt ∧ (u 8).toInt ≤ 833) ∧ (0 ≤ (u 9).toInt ∧ (u 9).toInt ≤ 1250)) (fun (u : Nat → Int32) (t : State) => ∃ (ww : Nat → Int64) (aa : Nat → Nat → Int32) (bb : Nat → Nat → Int64), zA 0 832 (aa 2) ∧ zA 0 1250 (aa 3) ∧ (zPhi (aa 3) (aa 2) (aa 1) (u 9).toInt (u 8).toInt) ∧ va_P (dC, dI) vwCl [(h9, .inr (8, mX8 h10 (upd (upd (upd (upd (upd (upd (upd (upd v9 1 (u 0)) 2 (u 1)) 3 (u 2)) 4 (u 3)) 5 (u 4)) 6 (u 5)) 7 (u 6)) 8 (u 7)))), (h10, .inr (6, mX6 h11 h12 h13 h14 h15 h16 h17 h18 v10)), (h13, .inl (k13, 833, .inl f13)), (h12, .inl (k12, 833, .inl f12)), (h11, .inl (k11, 1250, .inl f11)), (h19, .inr (0, mX0 h20 h21 h22 h23 v19)), (h20, .inl (k20, 120, .inl f20)), (h0, .inr (6, mX6 h1 h2 h3 h4 h5 h6 h7 h8 (upd (upd (upd (upd v0 8 (u 8)) 9 (u 9)) 10 (u 10)) 11 (u 11)))), (h8, .inl (k8, 400, .inl (aa 0))), (h6, .inl (k6, 400, .inl (aa 1))), (h5, .inl (k5, 400, .inl (aa 2))), (h2, .inl (k2, 833, .inl (aa 3))), (h1, .inl (k1, 1250, .inl (aa 4))), (h3, .inl (k3, 833, .inl (aa 5))), (h4, .inl (k4, 400, .inl (aa 6))), (h7, .inl (k7, 400, .inl (aa 7)))] t.heap ∧ va_K (dC, dI) vwCl [(k13, .int), (k12, .int), (k11, .int), (k20, .boolean), (k8, .int), (k6, .int), (k5, .int), (k2, .int), (k1, .int), (k3, .int), (k4, .int), (k7, .int)] t ∧ va_D (va_A [(h9, .inr (8, mX8 h10 v9)), (h10, .inr (6, mX6 h11 h12 h13 h14 h15 h16 h17 h18 v10)), (h13, .inl (k13, 833, .inl f13)), (h12, .inl (k12, 833, .inl f12)), (h11, .inl (k11, 1250, .inl f11)), (h19, .inr (0, mX0 h20 h21 h22 h23 v19)), (h20, .inl (k20, 120, .inl f20)), (h0, .inr (6, mX6 h1 h2 h3 h4 h5 h6 h7 h8 v0)), (h8, .inl (k8, 400, .inl f8)), (h6, .inl (k6, 400, .inl f6)), (h5, .inl (k5, 400, .inl f5)), (h2, .inl (k2, 833, .inl f2)), (h1, .inl (k1, 1250, .inl f1)), (h3, .inl (k3, 833, .inl f3)), (h4, .inl (k4, 400, .inl f4)), (h7, .inl (k7, 400, .inl f7))] sz) [(h9, .inr (8, mX8 h10 (upd (upd (upd (upd (upd (upd (upd (upd v9 1 (u 0)) 2 (u 1)) 3 (u 2)) 4 (u 3)) 5 (u 4)) 6 (u 5)) 7 (u 6)) 8 (u 7)))), (h10, .inr (6, mX6 h11 h12 h13 h14 h15 h16 h17 h18 v10)), (h13, .inl (k13, 833, .inl f13)), (h12, .inl (k12, 833, .inl f12)), (h11, .inl (k11, 1250, .inl f11)), (h19, .inr (0, mX0 h20 h21 h22 h23 v19)), (h20, .inl (k20, 120, .inl f20)), (h0, .inr (6, mX6 h1 h2 h3 h4 h5 h6 h7 h8 (upd (upd (upd (upd v0 8 (u 8)) 9 (u 9)) 10 (u 10)) 11 (u 11)))), (h8, .inl (k8, 400, .inl (aa 0))), (h6, .inl (k6, 400, .inl (aa 1))), (h5, .inl (k5, 400, .inl (aa 2))), (h2, .inl (k2, 833, .inl (aa 3))), (h1, .inl (k1, 1250, .inl (aa 4))), (h3, .inl (k3, 833, .inl (aa 5))), (h4, .inl (k4, 400, .inl (aa 6))), (h7, .inl (k7, 400, .inl (aa 7)))]) (va_A [(h9, .inr (8, mX8 h10 v9)), (h10, .inr (6, mX6 h11 h12 h13 h14 h15 h16 h17 h18 v10)), (h13, .inl (k13, 833, .inl f13)), (h12, .inl (k12, 833, .inl f12)), (h11, .inl (k11, 1250, .inl f11)), (h19, .inr (0, mX0 h20 h21 h22 h23 v19)), (h20, .inl (k20, 120, .inl f20)), (h0, .inr (6, mX6 h1 h2 h3 h4 h5 h6 h7 h8 v0)), (h8, .inl (k8, 400, .inl f8)), (h6, .inl (k6, 400, .inl f6)), (h5, .inl (k5, 400, .inl f5)), (h2, .inl (k2, 833, .inl f2)), (h1, .inl (k1, 1250, .inl f1)), (h3, .inl (k3, 833, .inl f3)), (h4, .inl (k4, 400, .inl f4)), (h7, .inl (k7, 400, .inl f7))] sz)) 0 0 (va_A [(h9, .inr (8, mX8 h10 v9)), (h10, .inr (6, mX6 h11 h12 h13 h14 h15 h16 h17 h18 v10)), (h13, .inl (k13, 833, .inl f13)), (h12, .inl (k12, 833, .inl f12)), (h11, .inl (k11, 1250, .inl f11)), (h19, .inr (0, mX0 h20 h21 h22 h23 v19)), (h20, .inl (k20, 120, .inl f20)), (h0, .inr (6, mX6 h1 h2 h3 h4 h5 h6 h7 h8 v0)), (h8, .inl (k8, 400, .inl f8)), (h6, .inl (k6, 400, .inl f6)), (h5, .inl (k5, 400, .inl f5)), (h2, .inl (k2, 833, .inl f2)), (h1, .inl (k1, 1250, .inl f1)), (h3, .inl (k3, 833, .inl f3)), (h4, .inl (k4, 400, .inl f4)), (h7, .inl (k7, 400, .inl f7))] sz) := by
  refine Met.ofW (cc := cX6_copyOn) (maxL := 9) (ret := (some .boolean)) (by decide) rfl ?_
  intro p e s m args below meth c s₁ B hml hv
  obtain ⟨rfl, hsz, hP, hK, hD0, hE, hZ⟩ := hv
  have hx := B.exec
  have hb := B.bytes
  have hr := B.returns
  have hG : ∀ w ∈ zG, w.before _ s = true := fun w h => atoms_spec (ws := (zw yX6_copyOn cX6_copyOn 9 (some .boolean))) B.pre w (List.mem_cons_of_mem _ h)
  have hown : s.vm.findClass RX6 = some m.cls := findClass_of_methodNamed B.named
  have hlocks := B.notSynchronized

  subst hsz
  have hD := hD0.self (sz := s.heap.size)
  generalize hAe : va_A [(h9, .inr (8, mX8 h10 v9)), (h10, .inr (6, mX6 h11 h12 h13 h14 h15 h16 h17 h18 v10)), (h13, .inl (k13, 833, .inl f13)), (h12, .inl (k12, 833, .inl f12)), (h11, .inl (k11, 1250, .inl f11)), (h19, .inr (0, mX0 h20 h21 h22 h23 v19)), (h20, .inl (k20, 120, .inl f20)), (h0, .inr (6, mX6 h1 h2 h3 h4 h5 h6 h7 h8 v0)), (h8, .inl (k8, 400, .inl f8)), (h6, .inl (k6, 400, .inl f6)), (h5, .inl (k5, 400, .inl f5)), (h2, .inl (k2, 833, .inl f2)), (h1, .inl (k1, 1250, .inl f1)), (h3, .inl (k3, 833, .inl f3)), (h4, .inl (k4, 400, .inl f4)), (h7, .inl (k7, 400, .inl f7))] s.heap.size = A at hD hZ ⊢
  have hA : ∀ q : Nat, s.heap.size ≤ q → A q := fun q h => by rw [← hAe]; exact Or.inr h
  have hS : va_S A s.heap s.heap [] := va_S.rf
  have hl := lv_entry ([.ref h0, .int x1, .ref h9, .ref h19]) (n := 9) (Nat.le_of_ble_eq_true rfl)
  rw [lg_entry_eq]
  generalize (lg_sl ([.ref h0, .int x1, .ref h9, .ref h19]) ++ List.replicate (9 - (lg_sl ([.ref h0, .int x1, .ref h9, .ref h19])).length) Slot.unset).toArray = ls at hl ⊢
  have hl : lv_has ls 9 [(0, .ref h0), (1, .int x1), (2, .ref h9), (3, .ref h19)] := hl
  have b_ := zk_0
  have b_ := zk_1
  have b_ : 0 ≤ (v0 9).toInt ∧ (v0 9).toInt ≤ 1250 := hv0 9
  have b_ : 0 ≤ (v0 8).toInt ∧ (v0 8).toInt ≤ 833 := hv0 8
  refine lv_iconst (v := 0) hx hb dX6_copyOn_0 (by decide) ?_
  refine lv_istore (lv' := [(4, .int 0), (0, .ref h0), (1, .int x1), (2, .ref h9), (3, .ref h19)]) hx hb dX6_copyOn_1 hl (by decide) rfl (fun ls hl => ?_)
  refine lv_iconst (v := 0) hx hb dX6_copyOn_3 (by decide) ?_
  refine lv_istore (lv' := [(5, .int 0), (4, .int 0), (0, .ref h0), (1, .int x1), (2, .ref h9), (3, .ref h19)]) hx hb dX6_copyOn_4 hl (by decide) rfl (fun ls hl => ?_)
  refine zcutL (fun u6_ => (120 - (u6_ 1).toInt).toNat) (fun H locs ls u6_ w6_ a6_ b6_ => va_P (dC, dI) vwCl [(h9, .inr (8, mX8 h10 (upd (upd (upd (upd (upd (upd (upd (upd v9 1 (u6_ 2)) 2 (u6_ 3)) 3 (u6_ 4)) 4 (u6_ 5)) 5 (u6_ 6)) 6 (u6_ 7)) 7 (u6_ 8)) 8 (u6_ 9)))), (h10, .inr (6, mX6 h11 h12 h13 h14 h15 h16 h17 h18 v10)), (h13, .inl (k13, 833, .inl f13)), (h12, .inl (k12, 833, .inl f12)), (h11, .inl (k11, 1250, .inl f11)), (h19, .inr (0, mX0 h20 h21 h22 h23 v19)), (h20, .inl (k20, 120, .inl f20)), (h0, .inr (6, mX6 h1 h2 h3 h4 h5 h6 h7 h8 (upd (upd (upd (upd v0 8 (u6_ 10)) 9 (u6_ 11)) 10 (u6_ 12)) 11 (u6_ 13)))), (h8, .inl (k8, 400, .inl (a6_ 7))), (h6, .inl (k6, 400, .inl (a6_ 5))), (h5, .inl (k5, 400, .inl (a6_ 4))), (h2, .inl (k2, 833, .inl (a6_ 1))), (h1, .inl (k1, 1250, .inl (a6_ 0))), (h3, .inl (k3, 833, .inl (a6_ 2))), (h4, .inl (k4, 400, .inl (a6_ 3))), (h7, .inl (k7, 400, .inl (a6_ 6)))] H ∧ va_D A [(h9, .inr (8, mX8 h10 (upd (upd (upd (upd (upd (upd (upd (upd v9 1 (u6_ 2)) 2 (u6_ 3)) 3 (u6_ 4)) 4 (u6_ 5)) 5 (u6_ 6)) 6 (u6_ 7)) 7 (u6_ 8)) 8 (u6_ 9)))), (h10, .inr (6, mX6 h11 h12 h13 h14 h15 h16 h17 h18 v10)), (h13, .inl (k13, 833, .inl f13)), (h12, .inl (k12, 833, .inl f12)), (h11, .inl (k11, 1250, .inl f11)), (h19, .inr (0, mX0 h20 h21 h22 h23 v19)), (h20, .inl (k20, 120, .inl f20)), (h0, .inr (6, mX6 h1 h2 h3 h4 h5 h6 h7 h8 (upd (upd (upd (upd v0 8 (u6_ 10)) 9 (u6_ 11)) 10 (u6_ 12)) 11 (u6_ 13)))), (h8, .inl (k8, 400, .inl (a6_ 7))), (h6, .inl (k6, 400, .inl (a6_ 5))), (h5, .inl (k5, 400, .inl (a6_ 4))), (h2, .inl (k2, 833, .inl (a6_ 1))), (h1, .inl (k1, 1250, .inl (a6_ 0))), (h3, .inl (k3, 833, .inl (a6_ 2))), (h4, .inl (k4, 400, .inl (a6_ 3))), (h7, .inl (k7, 400, .inl (a6_ 6)))] ∧ va_S A s.heap H locs ∧ lv_has ls 9 [(0, .ref h0), (1, .int x1), (2, .ref h9), (3, .ref h19), (4, .int (u6_ 0)), (5, .int (u6_ 1))] ∧ zA 0 1250 (a6_ 1) ∧ zA 0 832 (a6_ 4) ∧ (0 ≤ (u6_ 0).toInt ∧ (u6_ 0).toInt ≤ 1) ∧ (0 ≤ (u6_ 1).toInt ∧ (u6_ 1).toInt ≤ 120) ∧ (0 ≤ (u6_ 10).toInt ∧ (u6_ 10).toInt ≤ 833) ∧ (0 ≤ (u6_ 11).toInt ∧ (u6_ 11).toInt ≤ 1250) ∧ (zPhi (a6_ 1) (a6_ 4) (a6_ 5) (u6_ 11).toInt (u6_ 10).toInt)) (fun ls u6_ w6_ => F0 m 6 ls []) 0 0 ?_ (fun hJ6 => ?_)
  · skip
    intro H locs ls u6_ w6_ a6_ b6_ hc hJ6
    obtain ⟨hP, hD, hS, hl, ha6_1, ha6_4, b_, b_, b_, b_, hI6_0⟩ := hc
    refine lv_iload hx hb dX6_copyOn_6 (lv_at hl 5 rfl) ?_
    refine lv_bipush (v := 120) hx hb dX6_copyOn_8 (by decide) ?_
    refine lv_icmp_ge (tgt := 94) hx hb dX6_copyOn_10 (by decide) (fun c_ => ?_) (fun c_ => ?_)
    · skip
      have b_ := zT_ge rfl zk_120 c_
      refine lv_iload hx hb dX6_copyOn_94 (lv_at hl 4 rfl) ?_
      refine W.widen (k := 0) (n := 0) (by decide) (by decide) ?_
      have b_ : -2147483648 ≤ (u6_ 2).toInt ∧ (u6_ 2).toInt ≤ 2147483647 := ⟨zlo _, zhi _⟩
      have b_ : -2147483648 ≤ (u6_ 3).toInt ∧ (u6_ 3).toInt ≤ 2147483647 := ⟨zlo _, zhi _⟩
      have b_ : -2147483648 ≤ (u6_ 4).toInt ∧ (u6_ 4).toInt ≤ 2147483647 := ⟨zlo _, zhi _⟩
      have b_ : -2147483648 ≤ (u6_ 5).toInt ∧ (u6_ 5).toInt ≤ 2147483647 := ⟨zlo _, zhi _⟩
      have b_ : -2147483648 ≤ (u6_ 6).toInt ∧ (u6_ 6).toInt ≤ 2147483647 := ⟨zlo _, zhi _⟩
      have b_ : -2147483648 ≤ (u6_ 7).toInt ∧ (u6_ 7).toInt ≤ 2147483647 := ⟨zlo _, zhi _⟩
      have b_ : -2147483648 ≤ (u6_ 8).toInt ∧ (u6_ 8).toInt ≤ 2147483647 := ⟨zlo _, zhi _⟩
      have b_ : -2147483648 ≤ (u6_ 9).toInt ∧ (u6_ 9).toInt ≤ 2147483647 := ⟨zlo _, zhi _⟩
      have b_ : -2147483648 ≤ (u6_ 12).toInt ∧ (u6_ 12).toInt ≤ 2147483647 := ⟨zlo _, zhi _⟩
      have b_ : -2147483648 ≤ (u6_ 13).toInt ∧ (u6_ 13).toInt ≤ 2147483647 := ⟨zlo _, zhi _⟩
      have hpost : (0 ≤ (u6_ 0).toInt ∧ (u6_ 0).toInt ≤ 1) ∧ (0 ≤ (u6_ 10).toInt ∧ (u6_ 10).toInt ≤ 833) ∧ (0 ≤ (u6_ 11).toInt ∧ (u6_ 11).toInt ≤ 1250) := ⟨⟨by omega, by omega⟩, ⟨by omega, by omega⟩, ⟨by omega, by omega⟩⟩
      have hP9 : va_P (dC, dI) vwCl [(h9, .inr (8, mX8 h10 (upd (upd (upd (upd (upd (upd (upd (upd v9 1 (u6_ 2)) 2 (u6_ 3)) 3 (u6_ 4)) 4 (u6_ 5)) 5 (u6_ 6)) 6 (u6_ 7)) 7 (u6_ 8)) 8 (u6_ 9)))), (h10, .inr (6, mX6 h11 h12 h13 h14 h15 h16 h17 h18 v10)), (h13, .inl (k13, 833, .inl f13)), (h12, .inl (k12, 833, .inl f12)), (h11, .inl (k11, 1250, .inl f11)), (h19, .inr (0, mX0 h20 h21 h22 h23 v19)), (h20, .inl (k20, 120, .inl f20)), (h0, .inr (6, mX6 h1 h2 h3 h4 h5 h6 h7 h8 (upd (upd (upd (upd v0 8 (u6_ 10)) 9 (u6_ 11)) 10 (u6_ 12)) 11 (u6_ 13)))), (h8, .inl (k8, 400, .inl (a6_ 7))), (h6, .inl (k6, 400, .inl (a6_ 5))), (h5, .inl (k5, 400, .inl (a6_ 4))), (h2, .inl (k2, 833, .inl (a6_ 1))), (h1, .inl (k1, 1250, .inl (a6_ 0))), (h3, .inl (k3, 833, .inl (a6_ 2))), (h4, .inl (k4, 400, .inl (a6_ 3))), (h7, .inl (k7, 400, .inl (a6_ 6)))] H := hP
      have hD9 : va_D A [(h9, .inr (8, mX8 h10 (upd (upd (upd (upd (upd (upd (upd (upd v9 1 (u6_ 2)) 2 (u6_ 3)) 3 (u6_ 4)) 4 (u6_ 5)) 5 (u6_ 6)) 6 (u6_ 7)) 7 (u6_ 8)) 8 (u6_ 9)))), (h10, .inr (6, mX6 h11 h12 h13 h14 h15 h16 h17 h18 v10)), (h13, .inl (k13, 833, .inl f13)), (h12, .inl (k12, 833, .inl f12)), (h11, .inl (k11, 1250, .inl f11)), (h19, .inr (0, mX0 h20 h21 h22 h23 v19)), (h20, .inl (k20, 120, .inl f20)), (h0, .inr (6, mX6 h1 h2 h3 h4 h5 h6 h7 h8 (upd (upd (upd (upd v0 8 (u6_ 10)) 9 (u6_ 11)) 10 (u6_ 12)) 11 (u6_ 13)))), (h8, .inl (k8, 400, .inl (a6_ 7))), (h6, .inl (k6, 400, .inl (a6_ 5))), (h5, .inl (k5, 400, .inl (a6_ 4))), (h2, .inl (k2, 833, .inl (a6_ 1))), (h1, .inl (k1, 1250, .inl (a6_ 0))), (h3, .inl (k3, 833, .inl (a6_ 2))), (h4, .inl (k4, 400, .inl (a6_ 3))), (h7, .inl (k7, 400, .inl (a6_ 6)))] := hD
      have hB0 : zPhi (a6_ 1) (a6_ 4) (a6_ 5) (u6_ 11).toInt (u6_ 10).toInt := by assumption
      exact W.zret (v := (u6_ 0)) hx hb hr (zbn ⟨by omega, by omega⟩) (fun t ht hW => ⟨⟨(u6_ 0), (fun i => ([(u6_ 2), (u6_ 3), (u6_ 4), (u6_ 5), (u6_ 6), (u6_ 7), (u6_ 8), (u6_ 9), (u6_ 10), (u6_ 11), (u6_ 12), (u6_ 13)] : List (Int32)).getD i 0), rfl, hpost, (fun _ => 0), (fun i => ([(a6_ 7), (a6_ 5), (a6_ 4), (a6_ 1), (a6_ 0), (a6_ 2), (a6_ 3), (a6_ 6)] : List (Nat → Int32)).getD i (fun _ => 0)), (fun _ => (fun _ => 0)), ha6_4, ha6_1, hB0, by rw [ht]; exact hP9, va_K.moved hW.alike hK, hD9⟩, hS.F ht⟩) hS.2.2 dX6_copyOn_96
    · skip
      have b_ := zF_ge rfl zk_120 c_
      refine lv_aload_n hx hb dX6_copyOn_13 rfl (lv_at hl 2 rfl) ?_
      have b_ : -2147483648 ≤ (u6_ 2).toInt ∧ (u6_ 2).toInt ≤ 2147483647 := ⟨zlo _, zhi _⟩
      have b_ : -2147483648 ≤ (u6_ 3).toInt ∧ (u6_ 3).toInt ≤ 2147483647 := ⟨zlo _, zhi _⟩
      have b_ : -2147483648 ≤ (u6_ 4).toInt ∧ (u6_ 4).toInt ≤ 2147483647 := ⟨zlo _, zhi _⟩
      have b_ : -2147483648 ≤ (u6_ 5).toInt ∧ (u6_ 5).toInt ≤ 2147483647 := ⟨zlo _, zhi _⟩
      have b_ : -2147483648 ≤ (u6_ 6).toInt ∧ (u6_ 6).toInt ≤ 2147483647 := ⟨zlo _, zhi _⟩
      have b_ : -2147483648 ≤ (u6_ 7).toInt ∧ (u6_ 7).toInt ≤ 2147483647 := ⟨zlo _, zhi _⟩
      have b_ : -2147483648 ≤ (u6_ 8).toInt ∧ (u6_ 8).toInt ≤ 2147483647 := ⟨zlo _, zhi _⟩
      have b_ : -2147483648 ≤ (u6_ 9).toInt ∧ (u6_ 9).toInt ≤ 2147483647 := ⟨zlo _, zhi _⟩
      have hPc := hP.sub (ws' := [(h9, .inr (8, mX8 h10 (upd (upd (upd (upd (upd (upd (upd (upd v9 1 (u6_ 2)) 2 (u6_ 3)) 3 (u6_ 4)) 4 (u6_ 5)) 5 (u6_ 6)) 6 (u6_ 7)) 7 (u6_ 8)) 8 (u6_ 9)))), (h10, .inr (6, mX6 h11 h12 h13 h14 h15 h16 h17 h18 v10)), (h13, .inl (k13, 833, .inl f13)), (h12, .inl (k12, 833, .inl f12)), (h11, .inl (k11, 1250, .inl f11))]) [0, 1, 2, 3, 4] rfl
      have hDc := hD.sub (ws' := [(h9, .inr (8, mX8 h10 (upd (upd (upd (upd (upd (upd (upd (upd v9 1 (u6_ 2)) 2 (u6_ 3)) 3 (u6_ 4)) 4 (u6_ 5)) 5 (u6_ 6)) 6 (u6_ 7)) 7 (u6_ 8)) 8 (u6_ 9)))), (h10, .inr (6, mX6 h11 h12 h13 h14 h15 h16 h17 h18 v10)), (h13, .inl (k13, 833, .inl f13)), (h12, .inl (k12, 833, .inl f12)), (h11, .inl (k11, 1250, .inl f11))]) [0, 1, 2, 3, 4] (by decide) rfl
      have hKc := hK.sub (tys' := [(k13, .int), (k12, .int), (k11, .int)]) [0, 1, 2] rfl
      have hFc := va_free (wc := [(h9, .inr (8, mX8 h10 (upd (upd (upd (upd (upd (upd (upd (upd v9 1 (u6_ 2)) 2 (u6_ 3)) 3 (u6_ 4)) 4 (u6_ 5)) 5 (u6_ 6)) 6 (u6_ 7)) 7 (u6_ 8)) 8 (u6_ 9)))), (h10, .inr (6, mX6 h11 h12 h13 h14 h15 h16 h17 h18 v10)), (h13, .inl (k13, 833, .inl f13)), (h12, .inl (k12, 833, .inl f12)), (h11, .inl (k11, 1250, .inl f11))]) hD hS hA [0, 1, 2, 3, 4] rfl
      refine va_calli (va_runV (As := []) (rest := []) ⟨hx, hb, hml, hown, hG⟩ (sX8_nextDocument_0 l dC dI adK adV h9 h10 h13 h12 h11 h14 h15 h16 h17 h18 k13 k12 k11 H.size (upd (upd (upd (upd (upd (upd (upd (upd v9 1 (u6_ 2)) 2 (u6_ 3)) 3 (u6_ 4)) 4 (u6_ 5)) 5 (u6_ 6)) 6 (u6_ 7)) 7 (u6_ 8)) 8 (u6_ 9)) v10 f13 f12 f11 hv10 hf12) (cwV 0 hG (zgV zw231 zw232 zw233 zw224 zw234) rfl rfl rfl (by decide +kernel) ⟨Nat.le_of_ble_eq_true rfl, Nat.le_of_ble_eq_true rfl⟩) ⟨zPc_blind, va_recv hKc hPc (ci := 8) (q0 := 0) rfl rfl, zPc_pre hPc hKc hDc hE hS hFc hZ⟩ rfl rfl hl.1 rfl (lv_room (Nat.le_of_ble_eq_true rfl)) dX6_copyOn_14 ⟨Nat.le_of_ble_eq_true rfl, Nat.le_of_ble_eq_true rfl⟩) hS (fun q _ h => hFc q h) hFc (fun r14_ u14_ t H1 locs ht hvm hw hB hz1 hk1 hS => ?_)
      have hw : (0 ≤ r14_.toInt ∧ r14_.toInt ≤ 1) := hw
      have b_ := hw
      obtain ⟨w14_, a14_, b14_, hP1, hK1, hD1⟩ := hB
      rw [ht] at hP1
      obtain ⟨hP, hD⟩ := va_join (wr := [(h19, .inr (0, mX0 h20 h21 h22 h23 v19)), (h20, .inl (k20, 120, .inl f20)), (h0, .inr (6, mX6 h1 h2 h3 h4 h5 h6 h7 h8 (upd (upd (upd (upd v0 8 (u6_ 10)) 9 (u6_ 11)) 10 (u6_ 12)) 11 (u6_ 13)))), (h8, .inl (k8, 400, .inl (a6_ 7))), (h6, .inl (k6, 400, .inl (a6_ 5))), (h5, .inl (k5, 400, .inl (a6_ 4))), (h2, .inl (k2, 833, .inl (a6_ 1))), (h1, .inl (k1, 1250, .inl (a6_ 0))), (h3, .inl (k3, 833, .inl (a6_ 2))), (h4, .inl (k4, 400, .inl (a6_ 3))), (h7, .inl (k7, 400, .inl (a6_ 6)))]) (w1 := [(h9, .inr (8, mX8 h10 (upd (upd (upd (upd (upd (upd (upd (upd v9 1 (u14_ 0)) 2 (u14_ 1)) 3 (u14_ 2)) 4 (u14_ 3)) 5 (u14_ 4)) 6 (u14_ 5)) 7 (u14_ 6)) 8 (u14_ 7)))), (h10, .inr (6, mX6 h11 h12 h13 h14 h15 h16 h17 h18 v10)), (h13, .inl (k13, 833, .inl f13)), (h12, .inl (k12, 833, .inl f12)), (h11, .inl (k11, 1250, .inl f11))]) hP hD [0, 1, 2, 3, 4] [5, 6, 7, 8, 9, 10, 11, 12, 13, 14, 15] rfl rfl (by decide) (by decide) hk1 hFc hP1 hD1
      have hP : va_P (dC, dI) vwCl [(h9, .inr (8, mX8 h10 (upd (upd (upd (upd (upd (upd (upd (upd v9 1 (u14_ 0)) 2 (u14_ 1)) 3 (u14_ 2)) 4 (u14_ 3)) 5 (u14_ 4)) 6 (u14_ 5)) 7 (u14_ 6)) 8 (u14_ 7)))), (h10, .inr (6, mX6 h11 h12 h13 h14 h15 h16 h17 h18 v10)), (h13, .inl (k13, 833, .inl f13)), (h12, .inl (k12, 833, .inl f12)), (h11, .inl (k11, 1250, .inl f11)), (h19, .inr (0, mX0 h20 h21 h22 h23 v19)), (h20, .inl (k20, 120, .inl f20)), (h0, .inr (6, mX6 h1 h2 h3 h4 h5 h6 h7 h8 (upd (upd (upd (upd v0 8 (u6_ 10)) 9 (u6_ 11)) 10 (u6_ 12)) 11 (u6_ 13)))), (h8, .inl (k8, 400, .inl (a6_ 7))), (h6, .inl (k6, 400, .inl (a6_ 5))), (h5, .inl (k5, 400, .inl (a6_ 4))), (h2, .inl (k2, 833, .inl (a6_ 1))), (h1, .inl (k1, 1250, .inl (a6_ 0))), (h3, .inl (k3, 833, .inl (a6_ 2))), (h4, .inl (k4, 400, .inl (a6_ 3))), (h7, .inl (k7, 400, .inl (a6_ 6)))] H1 := hP.sub [11, 12, 13, 14, 15, 0, 1, 2, 3, 4, 5, 6, 7, 8, 9, 10] rfl
      have hD : va_D A [(h9, .inr (8, mX8 h10 (upd (upd (upd (upd (upd (upd (upd (upd v9 1 (u14_ 0)) 2 (u14_ 1)) 3 (u14_ 2)) 4 (u14_ 3)) 5 (u14_ 4)) 6 (u14_ 5)) 7 (u14_ 6)) 8 (u14_ 7)))), (h10, .inr (6, mX6 h11 h12 h13 h14 h15 h16 h17 h18 v10)), (h13, .inl (k13, 833, .inl f13)), (h12, .inl (k12, 833, .inl f12)), (h11, .inl (k11, 1250, .inl f11)), (h19, .inr (0, mX0 h20 h21 h22 h23 v19)), (h20, .inl (k20, 120, .inl f20)), (h0, .inr (6, mX6 h1 h2 h3 h4 h5 h6 h7 h8 (upd (upd (upd (upd v0 8 (u6_ 10)) 9 (u6_ 11)) 10 (u6_ 12)) 11 (u6_ 13)))), (h8, .inl (k8, 400, .inl (a6_ 7))), (h6, .inl (k6, 400, .inl (a6_ 5))), (h5, .inl (k5, 400, .inl (a6_ 4))), (h2, .inl (k2, 833, .inl (a6_ 1))), (h1, .inl (k1, 1250, .inl (a6_ 0))), (h3, .inl (k3, 833, .inl (a6_ 2))), (h4, .inl (k4, 400, .inl (a6_ 3))), (h7, .inl (k7, 400, .inl (a6_ 6)))] := hD.sub [11, 12, 13, 14, 15, 0, 1, 2, 3, 4, 5, 6, 7, 8, 9, 10] (by decide) rfl
      generalize H1 = H at hP hS ⊢
      clear hz1
      refine lv_if_eq (tgt := 94) hx hb dX6_copyOn_17 (by decide) (fun c_ => ?_) (fun c_ => ?_)
      · skip
        have b_ := zT_eq rfl zk_0 c_
        refine lv_iload hx hb dX6_copyOn_94 (lv_at hl 4 rfl) ?_
        refine W.widen (k := 0) (n := 0) (by decide) (by decide) ?_
        have b_ : -2147483648 ≤ (u14_ 0).toInt ∧ (u14_ 0).toInt ≤ 2147483647 := ⟨zlo _, zhi _⟩
        have b_ : -2147483648 ≤ (u14_ 1).toInt ∧ (u14_ 1).toInt ≤ 2147483647 := ⟨zlo _, zhi _⟩
        have b_ : -2147483648 ≤ (u14_ 2).toInt ∧ (u14_ 2).toInt ≤ 2147483647 := ⟨zlo _, zhi _⟩
        have b_ : -2147483648 ≤ (u14_ 3).toInt ∧ (u14_ 3).toInt ≤ 2147483647 := ⟨zlo _, zhi _⟩
        have b_ : -2147483648 ≤ (u14_ 4).toInt ∧ (u14_ 4).toInt ≤ 2147483647 := ⟨zlo _, zhi _⟩
        have b_ : -2147483648 ≤ (u14_ 5).toInt ∧ (u14_ 5).toInt ≤ 2147483647 := ⟨zlo _, zhi _⟩
        have b_ : -2147483648 ≤ (u14_ 6).toInt ∧ (u14_ 6).toInt ≤ 2147483647 := ⟨zlo _, zhi _⟩
        have b_ : -2147483648 ≤ (u14_ 7).toInt ∧ (u14_ 7).toInt ≤ 2147483647 := ⟨zlo _, zhi _⟩
        have b_ : -2147483648 ≤ (u6_ 12).toInt ∧ (u6_ 12).toInt ≤ 2147483647 := ⟨zlo _, zhi _⟩
        have b_ : -2147483648 ≤ (u6_ 13).toInt ∧ (u6_ 13).toInt ≤ 2147483647 := ⟨zlo _, zhi _⟩
        have hpost : (0 ≤ (u6_ 0).toInt ∧ (u6_ 0).toInt ≤ 1) ∧ (0 ≤ (u6_ 10).toInt ∧ (u6_ 10).toInt ≤ 833) ∧ (0 ≤ (u6_ 11).toInt ∧ (u6_ 11).toInt ≤ 1250) := ⟨⟨by omega, by omega⟩, ⟨by omega, by omega⟩, ⟨by omega, by omega⟩⟩
        have hP9 : va_P (dC, dI) vwCl [(h9, .inr (8, mX8 h10 (upd (upd (upd (upd (upd (upd (upd (upd v9 1 (u14_ 0)) 2 (u14_ 1)) 3 (u14_ 2)) 4 (u14_ 3)) 5 (u14_ 4)) 6 (u14_ 5)) 7 (u14_ 6)) 8 (u14_ 7)))), (h10, .inr (6, mX6 h11 h12 h13 h14 h15 h16 h17 h18 v10)), (h13, .inl (k13, 833, .inl f13)), (h12, .inl (k12, 833, .inl f12)), (h11, .inl (k11, 1250, .inl f11)), (h19, .inr (0, mX0 h20 h21 h22 h23 v19)), (h20, .inl (k20, 120, .inl f20)), (h0, .inr (6, mX6 h1 h2 h3 h4 h5 h6 h7 h8 (upd (upd (upd (upd v0 8 (u6_ 10)) 9 (u6_ 11)) 10 (u6_ 12)) 11 (u6_ 13)))), (h8, .inl (k8, 400, .inl (a6_ 7))), (h6, .inl (k6, 400, .inl (a6_ 5))), (h5, .inl (k5, 400, .inl (a6_ 4))), (h2, .inl (k2, 833, .inl (a6_ 1))), (h1, .inl (k1, 1250, .inl (a6_ 0))), (h3, .inl (k3, 833, .inl (a6_ 2))), (h4, .inl (k4, 400, .inl (a6_ 3))), (h7, .inl (k7, 400, .inl (a6_ 6)))] H := hP
        have hD9 : va_D A [(h9, .inr (8, mX8 h10 (upd (upd (upd (upd (upd (upd (upd (upd v9 1 (u14_ 0)) 2 (u14_ 1)) 3 (u14_ 2)) 4 (u14_ 3)) 5 (u14_ 4)) 6 (u14_ 5)) 7 (u14_ 6)) 8 (u14_ 7)))), (h10, .inr (6, mX6 h11 h12 h13 h14 h15 h16 h17 h18 v10)), (h13, .inl (k13, 833, .inl f13)), (h12, .inl (k12, 833, .inl f12)), (h11, .inl (k11, 1250, .inl f11)), (h19, .inr (0, mX0 h20 h21 h22 h23 v19)), (h20, .inl (k20, 120, .inl f20)), (h0, .inr (6, mX6 h1 h2 h3 h4 h5 h6 h7 h8 (upd (upd (upd (upd v0 8 (u6_ 10)) 9 (u6_ 11)) 10 (u6_ 12)) 11 (u6_ 13)))), (h8, .inl (k8, 400, .inl (a6_ 7))), (h6, .inl (k6, 400, .inl (a6_ 5))), (h5, .inl (k5, 400, .inl (a6_ 4))), (h2, .inl (k2, 833, .inl (a6_ 1))), (h1, .inl (k1, 1250, .inl (a6_ 0))), (h3, .inl (k3, 833, .inl (a6_ 2))), (h4, .inl (k4, 400, .inl (a6_ 3))), (h7, .inl (k7, 400, .inl (a6_ 6)))] := hD
        have hB0 : zPhi (a6_ 1) (a6_ 4) (a6_ 5) (u6_ 11).toInt (u6_ 10).toInt := by assumption
        exact W.zret (v := (u6_ 0)) hx hb hr (zbn ⟨by omega, by omega⟩) (fun t ht hW => ⟨⟨(u6_ 0), (fun i => ([(u14_ 0), (u14_ 1), (u14_ 2), (u14_ 3), (u14_ 4), (u14_ 5), (u14_ 6), (u14_ 7), (u6_ 10), (u6_ 11), (u6_ 12), (u6_ 13)] : List (Int32)).getD i 0), rfl, hpost, (fun _ => 0), (fun i => ([(a6_ 7), (a6_ 5), (a6_ 4), (a6_ 1), (a6_ 0), (a6_ 2), (a6_ 3), (a6_ 6)] : List (Nat → Int32)).getD i (fun _ => 0)), (fun _ => (fun _ => 0)), ha6_4, ha6_1, hB0, by rw [ht]; exact hP9, va_K.moved hW.alike hK, hD9⟩, hS.F ht⟩) hS.2.2 dX6_copyOn_96
      · skip
        have b_ := zF_eq rfl zk_0 c_
        refine lv_aload_n hx hb dX6_copyOn_20 rfl (lv_at hl 3 rfl) ?_
        refine lv_aload_n hx hb dX6_copyOn_21 rfl (lv_at hl 2 rfl) ?_
        have b_ : -2147483648 ≤ (u14_ 0).toInt ∧ (u14_ 0).toInt ≤ 2147483647 := ⟨zlo _, zhi _⟩
        have b_ : -2147483648 ≤ (u14_ 1).toInt ∧ (u14_ 1).toInt ≤ 2147483647 := ⟨zlo _, zhi _⟩
        have b_ : -2147483648 ≤ (u14_ 2).toInt ∧ (u14_ 2).toInt ≤ 2147483647 := ⟨zlo _, zhi _⟩
        have b_ : -2147483648 ≤ (u14_ 3).toInt ∧ (u14_ 3).toInt ≤ 2147483647 := ⟨zlo _, zhi _⟩
        have b_ : -2147483648 ≤ (u14_ 4).toInt ∧ (u14_ 4).toInt ≤ 2147483647 := ⟨zlo _, zhi _⟩
        have b_ : -2147483648 ≤ (u14_ 5).toInt ∧ (u14_ 5).toInt ≤ 2147483647 := ⟨zlo _, zhi _⟩
        have b_ : -2147483648 ≤ (u14_ 6).toInt ∧ (u14_ 6).toInt ≤ 2147483647 := ⟨zlo _, zhi _⟩
        have b_ : -2147483648 ≤ (u14_ 7).toInt ∧ (u14_ 7).toInt ≤ 2147483647 := ⟨zlo _, zhi _⟩
        have hPc := hP.sub (ws' := [(h9, .inr (8, mX8 h10 (upd (upd (upd (upd (upd (upd (upd (upd v9 1 (u14_ 0)) 2 (u14_ 1)) 3 (u14_ 2)) 4 (u14_ 3)) 5 (u14_ 4)) 6 (u14_ 5)) 7 (u14_ 6)) 8 (u14_ 7))))]) [0] rfl
        have hDc := hD.sub (ws' := [(h9, .inr (8, mX8 h10 (upd (upd (upd (upd (upd (upd (upd (upd v9 1 (u14_ 0)) 2 (u14_ 1)) 3 (u14_ 2)) 4 (u14_ 3)) 5 (u14_ 4)) 6 (u14_ 5)) 7 (u14_ 6)) 8 (u14_ 7))))]) [0] (by decide) rfl
        have hKc := hK.sub (tys' := []) [] rfl
        have hFc := va_free (wc := [(h9, .inr (8, mX8 h10 (upd (upd (upd (upd (upd (upd (upd (upd v9 1 (u14_ 0)) 2 (u14_ 1)) 3 (u14_ 2)) 4 (u14_ 3)) 5 (u14_ 4)) 6 (u14_ 5)) 7 (u14_ 6)) 8 (u14_ 7))))]) hD hS hA [0] rfl
        refine va_calli (va_runV (As := []) (rest := [.ref h19]) ⟨hx, hb, hml, hown, hG⟩ (sX8_number_0 l dC dI adK adV h9 h10 H.size (upd (upd (upd (upd (upd (upd (upd (upd v9 1 (u14_ 0)) 2 (u14_ 1)) 3 (u14_ 2)) 4 (u14_ 3)) 5 (u14_ 4)) 6 (u14_ 5)) 7 (u14_ 6)) 8 (u14_ 7))) (cwV 0 hG (zgV zw235 zw236 zw237 zw224 zw238) rfl rfl rfl (by decide +kernel) ⟨Nat.le_of_ble_eq_true rfl, Nat.le_of_ble_eq_true rfl⟩) ⟨zPc_blind, va_recv hKc hPc (ci := 8) (q0 := 0) rfl rfl, zPc_pre hPc hKc hDc hE hS hFc hZ⟩ rfl rfl hl.1 rfl (lv_room (Nat.le_of_ble_eq_true rfl)) dX6_copyOn_22 ⟨Nat.le_of_ble_eq_true rfl, Nat.le_of_ble_eq_true rfl⟩) hS (fun q _ h => hFc q h) hFc (fun r22_ u22_ t H1 locs ht hvm hw hB hz1 hk1 hS => ?_)
        obtain ⟨w22_, a22_, b22_, hP1, hK1, hD1⟩ := hB
        rw [ht] at hP1
        obtain ⟨hP, hD⟩ := va_join (wr := [(h10, .inr (6, mX6 h11 h12 h13 h14 h15 h16 h17 h18 v10)), (h13, .inl (k13, 833, .inl f13)), (h12, .inl (k12, 833, .inl f12)), (h11, .inl (k11, 1250, .inl f11)), (h19, .inr (0, mX0 h20 h21 h22 h23 v19)), (h20, .inl (k20, 120, .inl f20)), (h0, .inr (6, mX6 h1 h2 h3 h4 h5 h6 h7 h8 (upd (upd (upd (upd v0 8 (u6_ 10)) 9 (u6_ 11)) 10 (u6_ 12)) 11 (u6_ 13)))), (h8, .inl (k8, 400, .inl (a6_ 7))), (h6, .inl (k6, 400, .inl (a6_ 5))), (h5, .inl (k5, 400, .inl (a6_ 4))), (h2, .inl (k2, 833, .inl (a6_ 1))), (h1, .inl (k1, 1250, .inl (a6_ 0))), (h3, .inl (k3, 833, .inl (a6_ 2))), (h4, .inl (k4, 400, .inl (a6_ 3))), (h7, .inl (k7, 400, .inl (a6_ 6)))]) (w1 := [(h9, .inr (8, mX8 h10 (upd (upd (upd (upd (upd (upd (upd (upd v9 1 (u14_ 0)) 2 (u14_ 1)) 3 (u14_ 2)) 4 (u14_ 3)) 5 (u14_ 4)) 6 (u14_ 5)) 7 (u14_ 6)) 8 (u14_ 7))))]) hP hD [0] [1, 2, 3, 4, 5, 6, 7, 8, 9, 10, 11, 12, 13, 14, 15] rfl rfl (by decide) (by decide) hk1 hFc hP1 hD1
        have hP : va_P (dC, dI) vwCl [(h9, .inr (8, mX8 h10 (upd (upd (upd (upd (upd (upd (upd (upd v9 1 (u14_ 0)) 2 (u14_ 1)) 3 (u14_ 2)) 4 (u14_ 3)) 5 (u14_ 4)) 6 (u14_ 5)) 7 (u14_ 6)) 8 (u14_ 7)))), (h10, .inr (6, mX6 h11 h12 h13 h14 h15 h16 h17 h18 v10)), (h13, .inl (k13, 833, .inl f13)), (h12, .inl (k12, 833, .inl f12)), (h11, .inl (k11, 1250, .inl f11)), (h19, .inr (0, mX0 h20 h21 h22 h23 v19)), (h20, .inl (k20, 120, .inl f20)), (h0, .inr (6, mX6 h1 h2 h3 h4 h5 h6 h7 h8 (upd (upd (upd (upd v0 8 (u6_ 10)) 9 (u6_ 11)) 10 (u6_ 12)) 11 (u6_ 13)))), (h8, .inl (k8, 400, .inl (a6_ 7))), (h6, .inl (k6, 400, .inl (a6_ 5))), (h5, .inl (k5, 400, .inl (a6_ 4))), (h2, .inl (k2, 833, .inl (a6_ 1))), (h1, .inl (k1, 1250, .inl (a6_ 0))), (h3, .inl (k3, 833, .inl (a6_ 2))), (h4, .inl (k4, 400, .inl (a6_ 3))), (h7, .inl (k7, 400, .inl (a6_ 6)))] H1 := hP.sub [15, 0, 1, 2, 3, 4, 5, 6, 7, 8, 9, 10, 11, 12, 13, 14] rfl
        have hD : va_D A [(h9, .inr (8, mX8 h10 (upd (upd (upd (upd (upd (upd (upd (upd v9 1 (u14_ 0)) 2 (u14_ 1)) 3 (u14_ 2)) 4 (u14_ 3)) 5 (u14_ 4)) 6 (u14_ 5)) 7 (u14_ 6)) 8 (u14_ 7)))), (h10, .inr (6, mX6 h11 h12 h13 h14 h15 h16 h17 h18 v10)), (h13, .inl (k13, 833, .inl f13)), (h12, .inl (k12, 833, .inl f12)), (h11, .inl (k11, 1250, .inl f11)), (h19, .inr (0, mX0 h20 h21 h22 h23 v19)), (h20, .inl (k20, 120, .inl f20)), (h0, .inr (6, mX6 h1 h2 h3 h4 h5 h6 h7 h8 (upd (upd (upd (upd v0 8 (u6_ 10)) 9 (u6_ 11)) 10 (u6_ 12)) 11 (u6_ 13)))), (h8, .inl (k8, 400, .inl (a6_ 7))), (h6, .inl (k6, 400, .inl (a6_ 5))), (h5, .inl (k5, 400, .inl (a6_ 4))), (h2, .inl (k2, 833, .inl (a6_ 1))), (h1, .inl (k1, 1250, .inl (a6_ 0))), (h3, .inl (k3, 833, .inl (a6_ 2))), (h4, .inl (k4, 400, .inl (a6_ 3))), (h7, .inl (k7, 400, .inl (a6_ 6)))] := hD.sub [15, 0, 1, 2, 3, 4, 5, 6, 7, 8, 9, 10, 11, 12, 13, 14] (by decide) rfl
        generalize H1 = H at hP hS ⊢
        clear hz1
        have hPc := hP.sub (ws' := [(h19, .inr (0, mX0 h20 h21 h22 h23 v19)), (h20, .inl (k20, 120, .inl f20))]) [5, 6] rfl
        have hDc := hD.sub (ws' := [(h19, .inr (0, mX0 h20 h21 h22 h23 v19)), (h20, .inl (k20, 120, .inl f20))]) [5, 6] (by decide) rfl
        have hKc := hK.sub (tys' := [(k20, .boolean)]) [3] rfl
        have hFc := va_free (wc := [(h19, .inr (0, mX0 h20 h21 h22 h23 v19)), (h20, .inl (k20, 120, .inl f20))]) hD hS hA [5, 6] rfl
        refine va_calli (va_runV (As := [.int r22_]) (rest := []) ⟨hx, hb, hml, hown, hG⟩ (sX0_isOn_0 l dC dI adK adV h19 h20 h21 h22 h23 k20 H.size v19 f20 r22_ hv19) (cwV 1 hG (zgV zw239 zw140 zw141 zw137 zw142) rfl rfl rfl (by decide +kernel) ⟨Nat.le_of_ble_eq_true rfl, Nat.le_of_ble_eq_true rfl⟩) ⟨zPc_blind, va_recv hKc hPc (ci := 0) (q0 := 0) rfl rfl, zPc_pre hPc hKc hDc hE hS hFc hZ⟩ rfl rfl hl.1 rfl (lv_room (Nat.le_of_ble_eq_true rfl)) dX6_copyOn_25 ⟨Nat.le_of_ble_eq_true rfl, Nat.le_of_ble_eq_true rfl⟩) hS (fun q _ h => hFc q h) hFc (fun r25_ u25_ t H1 locs ht hvm hw hB hz1 hk1 hS => ?_)
        have hw : (0 ≤ r25_.toInt ∧ r25_.toInt ≤ 1) ∧ (r25_.toInt = 1 → (0 ≤ r22_.toInt ∧ r22_.toInt ≤ 119)) ∧ (r25_.toInt = 1 → r22_.toInt < (v19 4).toInt) := hw
        obtain ⟨b_, hX25_0, hX25_1⟩ := hw
        obtain ⟨w25_, a25_, b25_, hP1, hK1, hD1⟩ := hB
        rw [ht] at hP1
        obtain ⟨hP, hD⟩ := va_join (wr := [(h9, .inr (8, mX8 h10 (upd (upd (upd (upd (upd (upd (upd (upd v9 1 (u14_ 0)) 2 (u14_ 1)) 3 (u14_ 2)) 4 (u14_ 3)) 5 (u14_ 4)) 6 (u14_ 5)) 7 (u14_ 6)) 8 (u14_ 7)))), (h10, .inr (6, mX6 h11 h12 h13 h14 h15 h16 h17 h18 v10)), (h13, .inl (k13, 833, .inl f13)), (h12, .inl (k12, 833, .inl f12)), (h11, .inl (k11, 1250, .inl f11)), (h0, .inr (6, mX6 h1 h2 h3 h4 h5 h6 h7 h8 (upd (upd (upd (upd v0 8 (u6_ 10)) 9 (u6_ 11)) 10 (u6_ 12)) 11 (u6_ 13)))), (h8, .inl (k8, 400, .inl (a6_ 7))), (h6, .inl (k6, 400, .inl (a6_ 5))), (h5, .inl (k5, 400, .inl (a6_ 4))), (h2, .inl (k2, 833, .inl (a6_ 1))), (h1, .inl (k1, 1250, .inl (a6_ 0))), (h3, .inl (k3, 833, .inl (a6_ 2))), (h4, .inl (k4, 400, .inl (a6_ 3))), (h7, .inl (k7, 400, .inl (a6_ 6)))]) (w1 := [(h19, .inr (0, mX0 h20 h21 h22 h23 v19)), (h20, .inl (k20, 120, .inl f20))]) hP hD [5, 6] [0, 1, 2, 3, 4, 7, 8, 9, 10, 11, 12, 13, 14, 15] rfl rfl (by decide) (by decide) hk1 hFc hP1 hD1
        have hP : va_P (dC, dI) vwCl [(h9, .inr (8, mX8 h10 (upd (upd (upd (upd (upd (upd (upd (upd v9 1 (u14_ 0)) 2 (u14_ 1)) 3 (u14_ 2)) 4 (u14_ 3)) 5 (u14_ 4)) 6 (u14_ 5)) 7 (u14_ 6)) 8 (u14_ 7)))), (h10, .inr (6, mX6 h11 h12 h13 h14 h15 h16 h17 h18 v10)), (h13, .inl (k13, 833, .inl f13)), (h12, .inl (k12, 833, .inl f12)), (h11, .inl (k11, 1250, .inl f11)), (h19, .inr (0, mX0 h20 h21 h22 h23 v19)), (h20, .inl (k20, 120, .inl f20)), (h0, .inr (6, mX6 h1 h2 h3 h4 h5 h6 h7 h8 (upd (upd (upd (upd v0 8 (u6_ 10)) 9 (u6_ 11)) 10 (u6_ 12)) 11 (u6_ 13)))), (h8, .inl (k8, 400, .inl (a6_ 7))), (h6, .inl (k6, 400, .inl (a6_ 5))), (h5, .inl (k5, 400, .inl (a6_ 4))), (h2, .inl (k2, 833, .inl (a6_ 1))), (h1, .inl (k1, 1250, .inl (a6_ 0))), (h3, .inl (k3, 833, .inl (a6_ 2))), (h4, .inl (k4, 400, .inl (a6_ 3))), (h7, .inl (k7, 400, .inl (a6_ 6)))] H1 := hP.sub [0, 1, 2, 3, 4, 14, 15, 5, 6, 7, 8, 9, 10, 11, 12, 13] rfl
        have hD : va_D A [(h9, .inr (8, mX8 h10 (upd (upd (upd (upd (upd (upd (upd (upd v9 1 (u14_ 0)) 2 (u14_ 1)) 3 (u14_ 2)) 4 (u14_ 3)) 5 (u14_ 4)) 6 (u14_ 5)) 7 (u14_ 6)) 8 (u14_ 7)))), (h10, .inr (6, mX6 h11 h12 h13 h14 h15 h16 h17 h18 v10)), (h13, .inl (k13, 833, .inl f13)), (h12, .inl (k12, 833, .inl f12)), (h11, .inl (k11, 1250, .inl f11)), (h19, .inr (0, mX0 h20 h21 h22 h23 v19)), (h20, .inl (k20, 120, .inl f20)), (h0, .inr (6, mX6 h1 h2 h3 h4 h5 h6 h7 h8 (upd (upd (upd (upd v0 8 (u6_ 10)) 9 (u6_ 11)) 10 (u6_ 12)) 11 (u6_ 13)))), (h8, .inl (k8, 400, .inl (a6_ 7))), (h6, .inl (k6, 400, .inl (a6_ 5))), (h5, .inl (k5, 400, .inl (a6_ 4))), (h2, .inl (k2, 833, .inl (a6_ 1))), (h1, .inl (k1, 1250, .inl (a6_ 0))), (h3, .inl (k3, 833, .inl (a6_ 2))), (h4, .inl (k4, 400, .inl (a6_ 3))), (h7, .inl (k7, 400, .inl (a6_ 6)))] := hD.sub [0, 1, 2, 3, 4, 14, 15, 5, 6, 7, 8, 9, 10, 11, 12, 13] (by decide) rfl
        generalize H1 = H at hP hS ⊢
        clear hz1
        refine lv_if_eq (tgt := 88) hx hb dX6_copyOn_28 (by decide) (fun c_ => ?_) (fun c_ => ?_)
        · skip
          have b_ := zT_eq rfl zk_0 c_
          obtain ⟨z88, e_z88⟩ : ∃ z : Int32, z = (u6_ 1) + Int32.ofInt 1 := ⟨_, rfl⟩
          have b_ := zadd (x := (u6_ 1)) (y := Int32.ofInt 1) rfl (show (Int32.ofInt 1).toInt = 1 from by decide) e_z88 (by omega) (by omega)
          refine lv_iinc (v := z88) (lv' := [(5, .int z88), (0, .ref h0), (1, .int x1), (2, .ref h9), (3, .ref h19), (4, .int (u6_ 0))]) hx hb dX6_copyOn_88 hl (k := 5) rfl e_z88.symm (by decide) rfl (fun ls hl => ?_)
          refine lv_goto (tgt := 6) hx hb dX6_copyOn_91 (by decide) ?_
          have b_ : -2147483648 ≤ x1.toInt ∧ x1.toInt ≤ 2147483647 := ⟨zlo _, zhi _⟩
          have hc : va_P (dC, dI) vwCl [(h9, .inr (8, mX8 h10 (upd (upd (upd (upd (upd (upd (upd (upd v9 1 (u14_ 0)) 2 (u14_ 1)) 3 (u14_ 2)) 4 (u14_ 3)) 5 (u14_ 4)) 6 (u14_ 5)) 7 (u14_ 6)) 8 (u14_ 7)))), (h10, .inr (6, mX6 h11 h12 h13 h14 h15 h16 h17 h18 v10)), (h13, .inl (k13, 833, .inl f13)), (h12, .inl (k12, 833, .inl f12)), (h11, .inl (k11, 1250, .inl f11)), (h19, .inr (0, mX0 h20 h21 h22 h23 v19)), (h20, .inl (k20, 120, .inl f20)), (h0, .inr (6, mX6 h1 h2 h3 h4 h5 h6 h7 h8 (upd (upd (upd (upd v0 8 (u6_ 10)) 9 (u6_ 11)) 10 (u6_ 12)) 11 (u6_ 13)))), (h8, .inl (k8, 400, .inl (a6_ 7))), (h6, .inl (k6, 400, .inl (a6_ 5))), (h5, .inl (k5, 400, .inl (a6_ 4))), (h2, .inl (k2, 833, .inl (a6_ 1))), (h1, .inl (k1, 1250, .inl (a6_ 0))), (h3, .inl (k3, 833, .inl (a6_ 2))), (h4, .inl (k4, 400, .inl (a6_ 3))), (h7, .inl (k7, 400, .inl (a6_ 6)))] H ∧ va_D A [(h9, .inr (8, mX8 h10 (upd (upd (upd (upd (upd (upd (upd (upd v9 1 (u14_ 0)) 2 (u14_ 1)) 3 (u14_ 2)) 4 (u14_ 3)) 5 (u14_ 4)) 6 (u14_ 5)) 7 (u14_ 6)) 8 (u14_ 7)))), (h10, .inr (6, mX6 h11 h12 h13 h14 h15 h16 h17 h18 v10)), (h13, .inl (k13, 833, .inl f13)), (h12, .inl (k12, 833, .inl f12)), (h11, .inl (k11, 1250, .inl f11)), (h19, .inr (0, mX0 h20 h21 h22 h23 v19)), (h20, .inl (k20, 120, .inl f20)), (h0, .inr (6, mX6 h1 h2 h3 h4 h5 h6 h7 h8 (upd (upd (upd (upd v0 8 (u6_ 10)) 9 (u6_ 11)) 10 (u6_ 12)) 11 (u6_ 13)))), (h8, .inl (k8, 400, .inl (a6_ 7))), (h6, .inl (k6, 400, .inl (a6_ 5))), (h5, .inl (k5, 400, .inl (a6_ 4))), (h2, .inl (k2, 833, .inl (a6_ 1))), (h1, .inl (k1, 1250, .inl (a6_ 0))), (h3, .inl (k3, 833, .inl (a6_ 2))), (h4, .inl (k4, 400, .inl (a6_ 3))), (h7, .inl (k7, 400, .inl (a6_ 6)))] ∧ va_S A s.heap H locs ∧ lv_has ls 9 [(0, .ref h0), (1, .int x1), (2, .ref h9), (3, .ref h19), (4, .int (u6_ 0)), (5, .int z88)] ∧ zA 0 1250 (a6_ 1) ∧ zA 0 832 (a6_ 4) ∧ (0 ≤ (u6_ 0).toInt ∧ (u6_ 0).toInt ≤ 1) ∧ (0 ≤ z88.toInt ∧ z88.toInt ≤ 120) ∧ (0 ≤ (u6_ 10).toInt ∧ (u6_ 10).toInt ≤ 833) ∧ (0 ≤ (u6_ 11).toInt ∧ (u6_ 11).toInt ≤ 1250) ∧ (zPhi (a6_ 1) (a6_ 4) (a6_ 5) (u6_ 11).toInt (u6_ 10).toInt) := ⟨hP, hD, hS, lv_sub hl [1, 2, 3, 4, 5, 0] rfl, ha6_1, ha6_4, ⟨by omega, by omega⟩, ⟨by omega, by omega⟩, ⟨by omega, by omega⟩, ⟨by omega, by omega⟩, by assumption⟩
          exact hJ6 H locs ls (fun i => ([(u6_ 0), z88, (u14_ 0), (u14_ 1), (u14_ 2), (u14_ 3), (u14_ 4), (u14_ 5), (u14_ 6), (u14_ 7), (u6_ 10), (u6_ 11), (u6_ 12), (u6_ 13)] : List (Int32)).getD i 0) (fun _ => 0) (fun i => ([(a6_ 0), (a6_ 1), (a6_ 2), (a6_ 3), (a6_ 4), (a6_ 5), (a6_ 6), (a6_ 7)] : List (Nat → Int32)).getD i (fun _ => 0)) (fun _ => (fun _ => 0)) hc (show (120 - z88.toInt).toNat < (120 - (u6_ 1).toInt).toNat from by omega)
        · skip
          have b_ := zF_eq rfl zk_0 c_
          refine lv_iconst (v := 1) hx hb dX6_copyOn_31 (by decide) ?_
          refine lv_istore (lv' := [(4, .int 1), (0, .ref h0), (1, .int x1), (2, .ref h9), (3, .ref h19), (5, .int (u6_ 1))]) hx hb dX6_copyOn_32 hl (by decide) rfl (fun ls hl => ?_)
          refine lv_aload_n hx hb dX6_copyOn_34 rfl (lv_at hl 1 rfl) ?_
          refine lv_iload_n hx hb dX6_copyOn_35 rfl (lv_at hl 2 rfl) ?_
          refine lv_aload_n hx hb dX6_copyOn_36 rfl (lv_at hl 3 rfl) ?_
          have hPc := hP.sub (ws' := [(h9, .inr (8, mX8 h10 (upd (upd (upd (upd (upd (upd (upd (upd v9 1 (u14_ 0)) 2 (u14_ 1)) 3 (u14_ 2)) 4 (u14_ 3)) 5 (u14_ 4)) 6 (u14_ 5)) 7 (u14_ 6)) 8 (u14_ 7))))]) [0] rfl
          have hDc := hD.sub (ws' := [(h9, .inr (8, mX8 h10 (upd (upd (upd (upd (upd (upd (upd (upd v9 1 (u14_ 0)) 2 (u14_ 1)) 3 (u14_ 2)) 4 (u14_ 3)) 5 (u14_ 4)) 6 (u14_ 5)) 7 (u14_ 6)) 8 (u14_ 7))))]) [0] (by decide) rfl
          have hKc := hK.sub (tys' := []) [] rfl
          have hFc := va_free (wc := [(h9, .inr (8, mX8 h10 (upd (upd (upd (upd (upd (upd (upd (upd v9 1 (u14_ 0)) 2 (u14_ 1)) 3 (u14_ 2)) 4 (u14_ 3)) 5 (u14_ 4)) 6 (u14_ 5)) 7 (u14_ 6)) 8 (u14_ 7))))]) hD hS hA [0] rfl
          refine va_calli (va_runV (As := []) (rest := [.int x1, .ref h0]) ⟨hx, hb, hml, hown, hG⟩ (sX8_number_0 l dC dI adK adV h9 h10 H.size (upd (upd (upd (upd (upd (upd (upd (upd v9 1 (u14_ 0)) 2 (u14_ 1)) 3 (u14_ 2)) 4 (u14_ 3)) 5 (u14_ 4)) 6 (u14_ 5)) 7 (u14_ 6)) 8 (u14_ 7))) (cwV 0 hG (zgV zw235 zw236 zw237 zw224 zw238) rfl rfl rfl (by decide +kernel) ⟨Nat.le_of_ble_eq_true rfl, Nat.le_of_ble_eq_true rfl⟩) ⟨zPc_blind, va_recv hKc hPc (ci := 8) (q0 := 0) rfl rfl, zPc_pre hPc hKc hDc hE hS hFc hZ⟩ rfl rfl hl.1 rfl (lv_room (Nat.le_of_ble_eq_true rfl)) dX6_copyOn_37 ⟨Nat.le_of_ble_eq_true rfl, Nat.le_of_ble_eq_true rfl⟩) hS (fun q _ h => hFc q h) hFc (fun r37_ u37_ t H1 locs ht hvm hw hB hz1 hk1 hS => ?_)
          obtain ⟨w37_, a37_, b37_, hP1, hK1, hD1⟩ := hB
          rw [ht] at hP1
          obtain ⟨hP, hD⟩ := va_join (wr := [(h10, .inr (6, mX6 h11 h12 h13 h14 h15 h16 h17 h18 v10)), (h13, .inl (k13, 833, .inl f13)), (h12, .inl (k12, 833, .inl f12)), (h11, .inl (k11, 1250, .inl f11)), (h19, .inr (0, mX0 h20 h21 h22 h23 v19)), (h20, .inl (k20, 120, .inl f20)), (h0, .inr (6, mX6 h1 h2 h3 h4 h5 h6 h7 h8 (upd (upd (upd (upd v0 8 (u6_ 10)) 9 (u6_ 11)) 10 (u6_ 12)) 11 (u6_ 13)))), (h8, .inl (k8, 400, .inl (a6_ 7))), (h6, .inl (k6, 400, .inl (a6_ 5))), (h5, .inl (k5, 400, .inl (a6_ 4))), (h2, .inl (k2, 833, .inl (a6_ 1))), (h1, .inl (k1, 1250, .inl (a6_ 0))), (h3, .inl (k3, 833, .inl (a6_ 2))), (h4, .inl (k4, 400, .inl (a6_ 3))), (h7, .inl (k7, 400, .inl (a6_ 6)))]) (w1 := [(h9, .inr (8, mX8 h10 (upd (upd (upd (upd (upd (upd (upd (upd v9 1 (u14_ 0)) 2 (u14_ 1)) 3 (u14_ 2)) 4 (u14_ 3)) 5 (u14_ 4)) 6 (u14_ 5)) 7 (u14_ 6)) 8 (u14_ 7))))]) hP hD [0] [1, 2, 3, 4, 5, 6, 7, 8, 9, 10, 11, 12, 13, 14, 15] rfl rfl (by decide) (by decide) hk1 hFc hP1 hD1
          have hP : va_P (dC, dI) vwCl [(h9, .inr (8, mX8 h10 (upd (upd (upd (upd (upd (upd (upd (upd v9 1 (u14_ 0)) 2 (u14_ 1)) 3 (u14_ 2)) 4 (u14_ 3)) 5 (u14_ 4)) 6 (u14_ 5)) 7 (u14_ 6)) 8 (u14_ 7)))), (h10, .inr (6, mX6 h11 h12 h13 h14 h15 h16 h17 h18 v10)), (h13, .inl (k13, 833, .inl f13)), (h12, .inl (k12, 833, .inl f12)), (h11, .inl (k11, 1250, .inl f11)), (h19, .inr (0, mX0 h20 h21 h22 h23 v19)), (h20, .inl (k20, 120, .inl f20)), (h0, .inr (6, mX6 h1 h2 h3 h4 h5 h6 h7 h8 (upd (upd (upd (upd v0 8 (u6_ 10)) 9 (u6_ 11)) 10 (u6_ 12)) 11 (u6_ 13)))), (h8, .inl (k8, 400, .inl (a6_ 7))), (h6, .inl (k6, 400, .inl (a6_ 5))), (h5, .inl (k5, 400, .inl (a6_ 4))), (h2, .inl (k2, 833, .inl (a6_ 1))), (h1, .inl (k1, 1250, .inl (a6_ 0))), (h3, .inl (k3, 833, .inl (a6_ 2))), (h4, .inl (k4, 400, .inl (a6_ 3))), (h7, .inl (k7, 400, .inl (a6_ 6)))] H1 := hP.sub [15, 0, 1, 2, 3, 4, 5, 6, 7, 8, 9, 10, 11, 12, 13, 14] rfl
          have hD : va_D A [(h9, .inr (8, mX8 h10 (upd (upd (upd (upd (upd (upd (upd (upd v9 1 (u14_ 0)) 2 (u14_ 1)) 3 (u14_ 2)) 4 (u14_ 3)) 5 (u14_ 4)) 6 (u14_ 5)) 7 (u14_ 6)) 8 (u14_ 7)))), (h10, .inr (6, mX6 h11 h12 h13 h14 h15 h16 h17 h18 v10)), (h13, .inl (k13, 833, .inl f13)), (h12, .inl (k12, 833, .inl f12)), (h11, .inl (k11, 1250, .inl f11)), (h19, .inr (0, mX0 h20 h21 h22 h23 v19)), (h20, .inl (k20, 120, .inl f20)), (h0, .inr (6, mX6 h1 h2 h3 h4 h5 h6 h7 h8 (upd (upd (upd (upd v0 8 (u6_ 10)) 9 (u6_ 11)) 10 (u6_ 12)) 11 (u6_ 13)))), (h8, .inl (k8, 400, .inl (a6_ 7))), (h6, .inl (k6, 400, .inl (a6_ 5))), (h5, .inl (k5, 400, .inl (a6_ 4))), (h2, .inl (k2, 833, .inl (a6_ 1))), (h1, .inl (k1, 1250, .inl (a6_ 0))), (h3, .inl (k3, 833, .inl (a6_ 2))), (h4, .inl (k4, 400, .inl (a6_ 3))), (h7, .inl (k7, 400, .inl (a6_ 6)))] := hD.sub [15, 0, 1, 2, 3, 4, 5, 6, 7, 8, 9, 10, 11, 12, 13, 14] (by decide) rfl
          generalize H1 = H at hP hS ⊢
          clear hz1
          refine lv_aload_n hx hb dX6_copyOn_40 rfl (lv_at hl 3 rfl) ?_
          have hPc := hP.sub (ws' := [(h9, .inr (8, mX8 h10 (upd (upd (upd (upd (upd (upd (upd (upd v9 1 (u14_ 0)) 2 (u14_ 1)) 3 (u14_ 2)) 4 (u14_ 3)) 5 (u14_ 4)) 6 (u14_ 5)) 7 (u14_ 6)) 8 (u14_ 7))))]) [0] rfl
          have hDc := hD.sub (ws' := [(h9, .inr (8, mX8 h10 (upd (upd (upd (upd (upd (upd (upd (upd v9 1 (u14_ 0)) 2 (u14_ 1)) 3 (u14_ 2)) 4 (u14_ 3)) 5 (u14_ 4)) 6 (u14_ 5)) 7 (u14_ 6)) 8 (u14_ 7))))]) [0] (by decide) rfl
          have hKc := hK.sub (tys' := []) [] rfl
          have hFc := va_free (wc := [(h9, .inr (8, mX8 h10 (upd (upd (upd (upd (upd (upd (upd (upd v9 1 (u14_ 0)) 2 (u14_ 1)) 3 (u14_ 2)) 4 (u14_ 3)) 5 (u14_ 4)) 6 (u14_ 5)) 7 (u14_ 6)) 8 (u14_ 7))))]) hD hS hA [0] rfl
          refine va_calli (va_runV (As := []) (rest := [.int r37_, .int x1, .ref h0]) ⟨hx, hb, hml, hown, hG⟩ (sX8_places_0 l dC dI adK adV h9 h10 H.size (upd (upd (upd (upd (upd (upd (upd (upd v9 1 (u14_ 0)) 2 (u14_ 1)) 3 (u14_ 2)) 4 (u14_ 3)) 5 (u14_ 4)) 6 (u14_ 5)) 7 (u14_ 6)) 8 (u14_ 7))) (cwV 0 hG (zgV zw240 zw241 zw242 zw224 zw243) rfl rfl rfl (by decide +kernel) ⟨Nat.le_of_ble_eq_true rfl, Nat.le_of_ble_eq_true rfl⟩) ⟨zPc_blind, va_recv hKc hPc (ci := 8) (q0 := 0) rfl rfl, zPc_pre hPc hKc hDc hE hS hFc hZ⟩ rfl rfl hl.1 rfl (lv_room (Nat.le_of_ble_eq_true rfl)) dX6_copyOn_41 ⟨Nat.le_of_ble_eq_true rfl, Nat.le_of_ble_eq_true rfl⟩) hS (fun q _ h => hFc q h) hFc (fun r41_ u41_ t H1 locs ht hvm hw hB hz1 hk1 hS => ?_)
          obtain ⟨w41_, a41_, b41_, hP1, hK1, hD1⟩ := hB
          rw [ht] at hP1
          obtain ⟨hP, hD⟩ := va_join (wr := [(h10, .inr (6, mX6 h11 h12 h13 h14 h15 h16 h17 h18 v10)), (h13, .inl (k13, 833, .inl f13)), (h12, .inl (k12, 833, .inl f12)), (h11, .inl (k11, 1250, .inl f11)), (h19, .inr (0, mX0 h20 h21 h22 h23 v19)), (h20, .inl (k20, 120, .inl f20)), (h0, .inr (6, mX6 h1 h2 h3 h4 h5 h6 h7 h8 (upd (upd (upd (upd v0 8 (u6_ 10)) 9 (u6_ 11)) 10 (u6_ 12)) 11 (u6_ 13)))), (h8, .inl (k8, 400, .inl (a6_ 7))), (h6, .inl (k6, 400, .inl (a6_ 5))), (h5, .inl (k5, 400, .inl (a6_ 4))), (h2, .inl (k2, 833, .inl (a6_ 1))), (h1, .inl (k1, 1250, .inl (a6_ 0))), (h3, .inl (k3, 833, .inl (a6_ 2))), (h4, .inl (k4, 400, .inl (a6_ 3))), (h7, .inl (k7, 400, .inl (a6_ 6)))]) (w1 := [(h9, .inr (8, mX8 h10 (upd (upd (upd (upd (upd (upd (upd (upd v9 1 (u14_ 0)) 2 (u14_ 1)) 3 (u14_ 2)) 4 (u14_ 3)) 5 (u14_ 4)) 6 (u14_ 5)) 7 (u14_ 6)) 8 (u14_ 7))))]) hP hD [0] [1, 2, 3, 4, 5, 6, 7, 8, 9, 10, 11, 12, 13, 14, 15] rfl rfl (by decide) (by decide) hk1 hFc hP1 hD1
          have hP : va_P (dC, dI) vwCl [(h9, .inr (8, mX8 h10 (upd (upd (upd (upd (upd (upd (upd (upd v9 1 (u14_ 0)) 2 (u14_ 1)) 3 (u14_ 2)) 4 (u14_ 3)) 5 (u14_ 4)) 6 (u14_ 5)) 7 (u14_ 6)) 8 (u14_ 7)))), (h10, .inr (6, mX6 h11 h12 h13 h14 h15 h16 h17 h18 v10)), (h13, .inl (k13, 833, .inl f13)), (h12, .inl (k12, 833, .inl f12)), (h11, .inl (k11, 1250, .inl f11)), (h19, .inr (0, mX0 h20 h21 h22 h23 v19)), (h20, .inl (k20, 120, .inl f20)), (h0, .inr (6, mX6 h1 h2 h3 h4 h5 h6 h7 h8 (upd (upd (upd (upd v0 8 (u6_ 10)) 9 (u6_ 11)) 10 (u6_ 12)) 11 (u6_ 13)))), (h8, .inl (k8, 400, .inl (a6_ 7))), (h6, .inl (k6, 400, .inl (a6_ 5))), (h5, .inl (k5, 400, .inl (a6_ 4))), (h2, .inl (k2, 833, .inl (a6_ 1))), (h1, .inl (k1, 1250, .inl (a6_ 0))), (h3, .inl (k3, 833, .inl (a6_ 2))), (h4, .inl (k4, 400, .inl (a6_ 3))), (h7, .inl (k7, 400, .inl (a6_ 6)))] H1 := hP.sub [15, 0, 1, 2, 3, 4, 5, 6, 7, 8, 9, 10, 11, 12, 13, 14] rfl
          have hD : va_D A [(h9, .inr (8, mX8 h10 (upd (upd (upd (upd (upd (upd (upd (upd v9 1 (u14_ 0)) 2 (u14_ 1)) 3 (u14_ 2)) 4 (u14_ 3)) 5 (u14_ 4)) 6 (u14_ 5)) 7 (u14_ 6)) 8 (u14_ 7)))), (h10, .inr (6, mX6 h11 h12 h13 h14 h15 h16 h17 h18 v10)), (h13, .inl (k13, 833, .inl f13)), (h12, .inl (k12, 833, .inl f12)), (h11, .inl (k11, 1250, .inl f11)), (h19, .inr (0, mX0 h20 h21 h22 h23 v19)), (h20, .inl (k20, 120, .inl f20)), (h0, .inr (6, mX6 h1 h2 h3 h4 h5 h6 h7 h8 (upd (upd (upd (upd v0 8 (u6_ 10)) 9 (u6_ 11)) 10 (u6_ 12)) 11 (u6_ 13)))), (h8, .inl (k8, 400, .inl (a6_ 7))), (h6, .inl (k6, 400, .inl (a6_ 5))), (h5, .inl (k5, 400, .inl (a6_ 4))), (h2, .inl (k2, 833, .inl (a6_ 1))), (h1, .inl (k1, 1250, .inl (a6_ 0))), (h3, .inl (k3, 833, .inl (a6_ 2))), (h4, .inl (k4, 400, .inl (a6_ 3))), (h7, .inl (k7, 400, .inl (a6_ 6)))] := hD.sub [15, 0, 1, 2, 3, 4, 5, 6, 7, 8, 9, 10, 11, 12, 13, 14] (by decide) rfl
          generalize H1 = H at hP hS ⊢
          clear hz1
          have b_ : -2147483648 ≤ (u6_ 12).toInt ∧ (u6_ 12).toInt ≤ 2147483647 := ⟨zlo _, zhi _⟩
          have b_ : -2147483648 ≤ (u6_ 13).toInt ∧ (u6_ 13).toInt ≤ 2147483647 := ⟨zlo _, zhi _⟩
          have hPc := hP.sub (ws' := [(h0, .inr (6, mX6 h1 h2 h3 h4 h5 h6 h7 h8 (upd (upd (upd (upd v0 8 (u6_ 10)) 9 (u6_ 11)) 10 (u6_ 12)) 11 (u6_ 13)))), (h8, .inl (k8, 400, .inl (a6_ 7))), (h6, .inl (k6, 400, .inl (a6_ 5))), (h5, .inl (k5, 400, .inl (a6_ 4))), (h2, .inl (k2, 833, .inl (a6_ 1))), (h1, .inl (k1, 1250, .inl (a6_ 0))), (h3, .inl (k3, 833, .inl (a6_ 2))), (h4, .inl (k4, 400, .inl (a6_ 3))), (h7, .inl (k7, 400, .inl (a6_ 6)))]) [7, 8, 9, 10, 11, 12, 13, 14, 15] rfl
          have hDc := hD.sub (ws' := [(h0, .inr (6, mX6 h1 h2 h3 h4 h5 h6 h7 h8 (upd (upd (upd (upd v0 8 (u6_ 10)) 9 (u6_ 11)) 10 (u6_ 12)) 11 (u6_ 13)))), (h8, .inl (k8, 400, .inl (a6_ 7))), (h6, .inl (k6, 400, .inl (a6_ 5))), (h5, .inl (k5, 400, .inl (a6_ 4))), (h2, .inl (k2, 833, .inl (a6_ 1))), (h1, .inl (k1, 1250, .inl (a6_ 0))), (h3, .inl (k3, 833, .inl (a6_ 2))), (h4, .inl (k4, 400, .inl (a6_ 3))), (h7, .inl (k7, 400, .inl (a6_ 6)))]) [7, 8, 9, 10, 11, 12, 13, 14, 15] (by decide) rfl
          have hKc := hK.sub (tys' := [(k8, .int), (k6, .int), (k5, .int), (k2, .int), (k1, .int), (k3, .int), (k4, .int), (k7, .int)]) [4, 5, 6, 7, 8, 9, 10, 11] rfl
          have hFc := va_free (wc := [(h0, .inr (6, mX6 h1 h2 h3 h4 h5 h6 h7 h8 (upd (upd (upd (upd v0 8 (u6_ 10)) 9 (u6_ 11)) 10 (u6_ 12)) 11 (u6_ 13)))), (h8, .inl (k8, 400, .inl (a6_ 7))), (h6, .inl (k6, 400, .inl (a6_ 5))), (h5, .inl (k5, 400, .inl (a6_ 4))), (h2, .inl (k2, 833, .inl (a6_ 1))), (h1, .inl (k1, 1250, .inl (a6_ 0))), (h3, .inl (k3, 833, .inl (a6_ 2))), (h4, .inl (k4, 400, .inl (a6_ 3))), (h7, .inl (k7, 400, .inl (a6_ 6)))]) hD hS hA [7, 8, 9, 10, 11, 12, 13, 14, 15] rfl
          refine va_callv (va_runV (As := [.int x1, .int r37_, .int r41_]) (rest := []) ⟨hx, hb, hml, hown, hG⟩ (sX6_startDocument_0 l dC dI adK adV h0 h8 h6 h5 h2 h1 h3 h4 h7 k8 k6 k5 k2 k1 k3 k4 k7 H.size (upd (upd (upd (upd v0 8 (u6_ 10)) 9 (u6_ 11)) 10 (u6_ 12)) 11 (u6_ 13)) (a6_ 7) (a6_ 5) (a6_ 4) (a6_ 1) (a6_ 0) (a6_ 2) (a6_ 3) (a6_ 6) x1 r37_ r41_ (zR_updF (zR_updF (zR_upd (zR_upd hv0 8 (show (0 : Int) ≤ ((u6_ 10) : Int32).toInt from by omega) (show ((u6_ 10) : Int32).toInt ≤ (833 : Int) from by omega)) 9 (show (0 : Int) ≤ ((u6_ 11) : Int32).toInt from by omega) (show ((u6_ 11) : Int32).toInt ≤ (1250 : Int) from by omega)) 10 rfl) 11 rfl) ha6_4 ha6_1 (show zPhi (a6_ 1) (a6_ 4) (a6_ 5) (u6_ 11).toInt (u6_ 10).toInt from by assumption)) (cwV 3 hG (zgV zw244 zw245 zw246 zw146 zw247) rfl rfl rfl (by decide +kernel) ⟨Nat.le_of_ble_eq_true rfl, Nat.le_of_ble_eq_true rfl⟩) ⟨zPc_blind, va_recv hKc hPc (ci := 6) (q0 := 0) rfl rfl, zPc_pre hPc hKc hDc hE hS hFc hZ⟩ rfl rfl hl.1 rfl (lv_room (Nat.le_of_ble_eq_true rfl)) dX6_copyOn_44 ⟨Nat.le_of_ble_eq_true rfl, Nat.le_of_ble_eq_true rfl⟩) hS (fun q _ h => hFc q h) hFc (fun u44_ t H1 locs ht hvm hw hB hz1 hk1 hS => ?_)
          have hw : (0 ≤ (u44_ 0).toInt ∧ (u44_ 0).toInt ≤ 833) ∧ (0 ≤ (u44_ 1).toInt ∧ (u44_ 1).toInt ≤ 1250) := hw
          obtain ⟨b_, b_⟩ := hw
          obtain ⟨w44_, a44_, b44_, ha44_2, ha44_3, hB44_0, hP1, hK1, hD1⟩ := hB
          have hB44_0 : zPhi (a44_ 3) (a44_ 2) (a44_ 1) (u44_ 1).toInt (u44_ 0).toInt := hB44_0
          rw [ht] at hP1
          obtain ⟨hP, hD⟩ := va_join (wr := [(h9, .inr (8, mX8 h10 (upd (upd (upd (upd (upd (upd (upd (upd v9 1 (u14_ 0)) 2 (u14_ 1)) 3 (u14_ 2)) 4 (u14_ 3)) 5 (u14_ 4)) 6 (u14_ 5)) 7 (u14_ 6)) 8 (u14_ 7)))), (h10, .inr (6, mX6 h11 h12 h13 h14 h15 h16 h17 h18 v10)), (h13, .inl (k13, 833, .inl f13)), (h12, .inl (k12, 833, .inl f12)), (h11, .inl (k11, 1250, .inl f11)), (h19, .inr (0, mX0 h20 h21 h22 h23 v19)), (h20, .inl (k20, 120, .inl f20))]) (w1 := [(h0, .inr (6, mX6 h1 h2 h3 h4 h5 h6 h7 h8 (upd (upd (upd (upd v0 8 (u44_ 0)) 9 (u44_ 1)) 10 (u44_ 2)) 11 (u44_ 3)))), (h8, .inl (k8, 400, .inl (a44_ 0))), (h6, .inl (k6, 400, .inl (a44_ 1))), (h5, .inl (k5, 400, .inl (a44_ 2))), (h2, .inl (k2, 833, .inl (a44_ 3))), (h1, .inl (k1, 1250, .inl (a44_ 4))), (h3, .inl (k3, 833, .inl (a44_ 5))), (h4, .inl (k4, 400, .inl (a44_ 6))), (h7, .inl (k7, 400, .inl (a44_ 7)))]) hP hD [7, 8, 9, 10, 11, 12, 13, 14, 15] [0, 1, 2, 3, 4, 5, 6] rfl rfl (by decide) (by decide) hk1 hFc hP1 hD1
          have hP : va_P (dC, dI) vwCl [(h9, .inr (8, mX8 h10 (upd (upd (upd (upd (upd (upd (upd (upd v9 1 (u14_ 0)) 2 (u14_ 1)) 3 (u14_ 2)) 4 (u14_ 3)) 5 (u14_ 4)) 6 (u14_ 5)) 7 (u14_ 6)) 8 (u14_ 7)))), (h10, .inr (6, mX6 h11 h12 h13 h14 h15 h16 h17 h18 v10)), (h13, .inl (k13, 833, .inl f13)), (h12, .inl (k12, 833, .inl f12)), (h11, .inl (k11, 1250, .inl f11)), (h19, .inr (0, mX0 h20 h21 h22 h23 v19)), (h20, .inl (k20, 120, .inl f20)), (h0, .inr (6, mX6 h1 h2 h3 h4 h5 h6 h7 h8 (upd (upd (upd (upd v0 8 (u44_ 0)) 9 (u44_ 1)) 10 (u44_ 2)) 11 (u44_ 3)))), (h8, .inl (k8, 400, .inl (a44_ 0))), (h6, .inl (k6, 400, .inl (a44_ 1))), (h5, .inl (k5, 400, .inl (a44_ 2))), (h2, .inl (k2, 833, .inl (a44_ 3))), (h1, .inl (k1, 1250, .inl (a44_ 4))), (h3, .inl (k3, 833, .inl (a44_ 5))), (h4, .inl (k4, 400, .inl (a44_ 6))), (h7, .inl (k7, 400, .inl (a44_ 7)))] H1 := hP.sub [0, 1, 2, 3, 4, 5, 6, 7, 8, 9, 10, 11, 12, 13, 14, 15] rfl
          have hD : va_D A [(h9, .inr (8, mX8 h10 (upd (upd (upd (upd (upd (upd (upd (upd v9 1 (u14_ 0)) 2 (u14_ 1)) 3 (u14_ 2)) 4 (u14_ 3)) 5 (u14_ 4)) 6 (u14_ 5)) 7 (u14_ 6)) 8 (u14_ 7)))), (h10, .inr (6, mX6 h11 h12 h13 h14 h15 h16 h17 h18 v10)), (h13, .inl (k13, 833, .inl f13)), (h12, .inl (k12, 833, .inl f12)), (h11, .inl (k11, 1250, .inl f11)), (h19, .inr (0, mX0 h20 h21 h22 h23 v19)), (h20, .inl (k20, 120, .inl f20)), (h0, .inr (6, mX6 h1 h2 h3 h4 h5 h6 h7 h8 (upd (upd (upd (upd v0 8 (u44_ 0)) 9 (u44_ 1)) 10 (u44_ 2)) 11 (u44_ 3)))), (h8, .inl (k8, 400, .inl (a44_ 0))), (h6, .inl (k6, 400, .inl (a44_ 1))), (h5, .inl (k5, 400, .inl (a44_ 2))), (h2, .inl (k2, 833, .inl (a44_ 3))), (h1, .inl (k1, 1250, .inl (a44_ 4))), (h3, .inl (k3, 833, .inl (a44_ 5))), (h4, .inl (k4, 400, .inl (a44_ 6))), (h7, .inl (k7, 400, .inl (a44_ 7)))] := hD.sub [0, 1, 2, 3, 4, 5, 6, 7, 8, 9, 10, 11, 12, 13, 14, 15] (by decide) rfl
          generalize H1 = H at hP hS ⊢
          clear hz1
          refine lv_iconst (v := (-1)) hx hb dX6_copyOn_47 (by decide) ?_
          refine lv_istore (lv' := [(6, .int (-1)), (4, .int 1), (0, .ref h0), (1, .int x1), (2, .ref h9), (3, .ref h19), (5, .int (u6_ 1))]) hx hb dX6_copyOn_48 hl (by decide) rfl (fun ls hl => ?_)
          refine lv_iconst (v := 0) hx hb dX6_copyOn_50 (by decide) ?_
          refine lv_istore (lv' := [(7, .int 0), (6, .int (-1)), (4, .int 1), (0, .ref h0), (1, .int x1), (2, .ref h9), (3, .ref h19), (5, .int (u6_ 1))]) hx hb dX6_copyOn_51 hl (by decide) rfl (fun ls hl => ?_)
          refine zcutL (fun u53_ => (2147483647 - (u53_ 1).toInt).toNat) (fun H locs ls u53_ w53_ a53_ b53_ => va_P (dC, dI) vwCl [(h9, .inr (8, mX8 h10 (upd (upd (upd (upd (upd (upd (upd (upd v9 1 (u53_ 2)) 2 (u53_ 3)) 3 (u53_ 4)) 4 (u53_ 5)) 5 (u14_ 4)) 6 (u14_ 5)) 7 (u53_ 6)) 8 (u53_ 7)))), (h10, .inr (6, mX6 h11 h12 h13 h14 h15 h16 h17 h18 v10)), (h13, .inl (k13, 833, .inl f13)), (h12, .inl (k12, 833, .inl f12)), (h11, .inl (k11, 1250, .inl f11)), (h19, .inr (0, mX0 h20 h21 h22 h23 v19)), (h20, .inl (k20, 120, .inl f20)), (h0, .inr (6, mX6 h1 h2 h3 h4 h5 h6 h7 h8 (upd (upd (upd (upd v0 8 (u53_ 8)) 9 (u53_ 9)) 10 (u53_ 10)) 11 (u53_ 11)))), (h8, .inl (k8, 400, .inl (a44_ 0))), (h6, .inl (k6, 400, .inl (a53_ 5))), (h5, .inl (k5, 400, .inl (a53_ 4))), (h2, .inl (k2, 833, .inl (a53_ 1))), (h1, .inl (k1, 1250, .inl (a53_ 0))), (h3, .inl (k3, 833, .inl (a53_ 2))), (h4, .inl (k4, 400, .inl (a53_ 3))), (h7, .inl (k7, 400, .inl (a44_ 7)))] H ∧ va_D A [(h9, .inr (8, mX8 h10 (upd (upd (upd (upd (upd (upd (upd (upd v9 1 (u53_ 2)) 2 (u53_ 3)) 3 (u53_ 4)) 4 (u53_ 5)) 5 (u14_ 4)) 6 (u14_ 5)) 7 (u53_ 6)) 8 (u53_ 7)))), (h10, .inr (6, mX6 h11 h12 h13 h14 h15 h16 h17 h18 v10)), (h13, .inl (k13, 833, .inl f13)), (h12, .inl (k12, 833, .inl f12)), (h11, .inl (k11, 1250, .inl f11)), (h19, .inr (0, mX0 h20 h21 h22 h23 v19)), (h20, .inl (k20, 120, .inl f20)), (h0, .inr (6, mX6 h1 h2 h3 h4 h5 h6 h7 h8 (upd (upd (upd (upd v0 8 (u53_ 8)) 9 (u53_ 9)) 10 (u53_ 10)) 11 (u53_ 11)))), (h8, .inl (k8, 400, .inl (a44_ 0))), (h6, .inl (k6, 400, .inl (a53_ 5))), (h5, .inl (k5, 400, .inl (a53_ 4))), (h2, .inl (k2, 833, .inl (a53_ 1))), (h1, .inl (k1, 1250, .inl (a53_ 0))), (h3, .inl (k3, 833, .inl (a53_ 2))), (h4, .inl (k4, 400, .inl (a53_ 3))), (h7, .inl (k7, 400, .inl (a44_ 7)))] ∧ va_S A s.heap H locs ∧ lv_has ls 9 [(0, .ref h0), (1, .int x1), (2, .ref h9), (3, .ref h19), (4, .int 1), (5, .int (u6_ 1)), (6, .int (u53_ 0)), (7, .int (u53_ 1))] ∧ zA 0 1250 (a53_ 1) ∧ zA 0 832 (a53_ 4) ∧ (0 ≤ (u53_ 1).toInt ∧ (u53_ 1).toInt ≤ 2147483647) ∧ (0 ≤ (u53_ 8).toInt ∧ (u53_ 8).toInt ≤ 833) ∧ (0 ≤ (u53_ 9).toInt ∧ (u53_ 9).toInt ≤ 1250) ∧ (zPhi (a53_ 1) (a53_ 4) (a53_ 5) (u53_ 9).toInt (u53_ 8).toInt)) (fun ls u53_ w53_ => F0 m 53 ls []) 0 0 ?_ (fun hJ53 => ?_)
          · skip
            intro H locs ls u53_ w53_ a53_ b53_ hc hJ53
            obtain ⟨hP, hD, hS, hl, ha53_1, ha53_4, b_, b_, b_, hI53_0⟩ := hc
            refine lv_iload hx hb dX6_copyOn_53 (lv_at hl 7 rfl) ?_
            refine lv_aload_n hx hb dX6_copyOn_55 rfl (lv_at hl 2 rfl) ?_
            have b_ : -2147483648 ≤ (u53_ 2).toInt ∧ (u53_ 2).toInt ≤ 2147483647 := ⟨zlo _, zhi _⟩
            have b_ : -2147483648 ≤ (u53_ 3).toInt ∧ (u53_ 3).toInt ≤ 2147483647 := ⟨zlo _, zhi _⟩
            have b_ : -2147483648 ≤ (u53_ 4).toInt ∧ (u53_ 4).toInt ≤ 2147483647 := ⟨zlo _, zhi _⟩
            have b_ : -2147483648 ≤ (u53_ 5).toInt ∧ (u53_ 5).toInt ≤ 2147483647 := ⟨zlo _, zhi _⟩
            have b_ : -2147483648 ≤ (u53_ 6).toInt ∧ (u53_ 6).toInt ≤ 2147483647 := ⟨zlo _, zhi _⟩
            have b_ : -2147483648 ≤ (u53_ 7).toInt ∧ (u53_ 7).toInt ≤ 2147483647 := ⟨zlo _, zhi _⟩
            have hPc := hP.sub (ws' := [(h9, .inr (8, mX8 h10 (upd (upd (upd (upd (upd (upd (upd (upd v9 1 (u53_ 2)) 2 (u53_ 3)) 3 (u53_ 4)) 4 (u53_ 5)) 5 (u14_ 4)) 6 (u14_ 5)) 7 (u53_ 6)) 8 (u53_ 7))))]) [0] rfl
            have hDc := hD.sub (ws' := [(h9, .inr (8, mX8 h10 (upd (upd (upd (upd (upd (upd (upd (upd v9 1 (u53_ 2)) 2 (u53_ 3)) 3 (u53_ 4)) 4 (u53_ 5)) 5 (u14_ 4)) 6 (u14_ 5)) 7 (u53_ 6)) 8 (u53_ 7))))]) [0] (by decide) rfl
            have hKc := hK.sub (tys' := []) [] rfl
            have hFc := va_free (wc := [(h9, .inr (8, mX8 h10 (upd (upd (upd (upd (upd (upd (upd (upd v9 1 (u53_ 2)) 2 (u53_ 3)) 3 (u53_ 4)) 4 (u53_ 5)) 5 (u14_ 4)) 6 (u14_ 5)) 7 (u53_ 6)) 8 (u53_ 7))))]) hD hS hA [0] rfl
            refine va_calli (va_runV (As := []) (rest := [.int (u53_ 1)]) ⟨hx, hb, hml, hown, hG⟩ (sX8_places_0 l dC dI adK adV h9 h10 H.size (upd (upd (upd (upd (upd (upd (upd (upd v9 1 (u53_ 2)) 2 (u53_ 3)) 3 (u53_ 4)) 4 (u53_ 5)) 5 (u14_ 4)) 6 (u14_ 5)) 7 (u53_ 6)) 8 (u53_ 7))) (cwV 0 hG (zgV zw240 zw241 zw242 zw224 zw243) rfl rfl rfl (by decide +kernel) ⟨Nat.le_of_ble_eq_true rfl, Nat.le_of_ble_eq_true rfl⟩) ⟨zPc_blind, va_recv hKc hPc (ci := 8) (q0 := 0) rfl rfl, zPc_pre hPc hKc hDc hE hS hFc hZ⟩ rfl rfl hl.1 rfl (lv_room (Nat.le_of_ble_eq_true rfl)) dX6_copyOn_56 ⟨Nat.le_of_ble_eq_true rfl, Nat.le_of_ble_eq_true rfl⟩) hS (fun q _ h => hFc q h) hFc (fun r56_ u56_ t H1 locs ht hvm hw hB hz1 hk1 hS => ?_)
            obtain ⟨w56_, a56_, b56_, hP1, hK1, hD1⟩ := hB
            rw [ht] at hP1
            obtain ⟨hP, hD⟩ := va_join (wr := [(h10, .inr (6, mX6 h11 h12 h13 h14 h15 h16 h17 h18 v10)), (h13, .inl (k13, 833, .inl f13)), (h12, .inl (k12, 833, .inl f12)), (h11, .inl (k11, 1250, .inl f11)), (h19, .inr (0, mX0 h20 h21 h22 h23 v19)), (h20, .inl (k20, 120, .inl f20)), (h0, .inr (6, mX6 h1 h2 h3 h4 h5 h6 h7 h8 (upd (upd (upd (upd v0 8 (u53_ 8)) 9 (u53_ 9)) 10 (u53_ 10)) 11 (u53_ 11)))), (h8, .inl (k8, 400, .inl (a44_ 0))), (h6, .inl (k6, 400, .inl (a53_ 5))), (h5, .inl (k5, 400, .inl (a53_ 4))), (h2, .inl (k2, 833, .inl (a53_ 1))), (h1, .inl (k1, 1250, .inl (a53_ 0))), (h3, .inl (k3, 833, .inl (a53_ 2))), (h4, .inl (k4, 400, .inl (a53_ 3))), (h7, .inl (k7, 400, .inl (a44_ 7)))]) (w1 := [(h9, .inr (8, mX8 h10 (upd (upd (upd (upd (upd (upd (upd (upd v9 1 (u53_ 2)) 2 (u53_ 3)) 3 (u53_ 4)) 4 (u53_ 5)) 5 (u14_ 4)) 6 (u14_ 5)) 7 (u53_ 6)) 8 (u53_ 7))))]) hP hD [0] [1, 2, 3, 4, 5, 6, 7, 8, 9, 10, 11, 12, 13, 14, 15] rfl rfl (by decide) (by decide) hk1 hFc hP1 hD1
            have hP : va_P (dC, dI) vwCl [(h9, .inr (8, mX8 h10 (upd (upd (upd (upd (upd (upd (upd (upd v9 1 (u53_ 2)) 2 (u53_ 3)) 3 (u53_ 4)) 4 (u53_ 5)) 5 (u14_ 4)) 6 (u14_ 5)) 7 (u53_ 6)) 8 (u53_ 7)))), (h10, .inr (6, mX6 h11 h12 h13 h14 h15 h16 h17 h18 v10)), (h13, .inl (k13, 833, .inl f13)), (h12, .inl (k12, 833, .inl f12)), (h11, .inl (k11, 1250, .inl f11)), (h19, .inr (0, mX0 h20 h21 h22 h23 v19)), (h20, .inl (k20, 120, .inl f20)), (h0, .inr (6, mX6 h1 h2 h3 h4 h5 h6 h7 h8 (upd (upd (upd (upd v0 8 (u53_ 8)) 9 (u53_ 9)) 10 (u53_ 10)) 11 (u53_ 11)))), (h8, .inl (k8, 400, .inl (a44_ 0))), (h6, .inl (k6, 400, .inl (a53_ 5))), (h5, .inl (k5, 400, .inl (a53_ 4))), (h2, .inl (k2, 833, .inl (a53_ 1))), (h1, .inl (k1, 1250, .inl (a53_ 0))), (h3, .inl (k3, 833, .inl (a53_ 2))), (h4, .inl (k4, 400, .inl (a53_ 3))), (h7, .inl (k7, 400, .inl (a44_ 7)))] H1 := hP.sub [15, 0, 1, 2, 3, 4, 5, 6, 7, 8, 9, 10, 11, 12, 13, 14] rfl
            have hD : va_D A [(h9, .inr (8, mX8 h10 (upd (upd (upd (upd (upd (upd (upd (upd v9 1 (u53_ 2)) 2 (u53_ 3)) 3 (u53_ 4)) 4 (u53_ 5)) 5 (u14_ 4)) 6 (u14_ 5)) 7 (u53_ 6)) 8 (u53_ 7)))), (h10, .inr (6, mX6 h11 h12 h13 h14 h15 h16 h17 h18 v10)), (h13, .inl (k13, 833, .inl f13)), (h12, .inl (k12, 833, .inl f12)), (h11, .inl (k11, 1250, .inl f11)), (h19, .inr (0, mX0 h20 h21 h22 h23 v19)), (h20, .inl (k20, 120, .inl f20)), (h0, .inr (6, mX6 h1 h2 h3 h4 h5 h6 h7 h8 (upd (upd (upd (upd v0 8 (u53_ 8)) 9 (u53_ 9)) 10 (u53_ 10)) 11 (u53_ 11)))), (h8, .inl (k8, 400, .inl (a44_ 0))), (h6, .inl (k6, 400, .inl (a53_ 5))), (h5, .inl (k5, 400, .inl (a53_ 4))), (h2, .inl (k2, 833, .inl (a53_ 1))), (h1, .inl (k1, 1250, .inl (a53_ 0))), (h3, .inl (k3, 833, .inl (a53_ 2))), (h4, .inl (k4, 400, .inl (a53_ 3))), (h7, .inl (k7, 400, .inl (a44_ 7)))] := hD.sub [15, 0, 1, 2, 3, 4, 5, 6, 7, 8, 9, 10, 11, 12, 13, 14] (by decide) rfl
            generalize H1 = H at hP hS ⊢
            clear hz1
            have b_ : -2147483648 ≤ r56_.toInt ∧ r56_.toInt ≤ 2147483647 := ⟨zlo _, zhi _⟩
            refine lv_icmp_ge (tgt := 88) hx hb dX6_copyOn_59 (by decide) (fun c_ => ?_) (fun c_ => ?_)
            · skip
              have b_ := zT_ge rfl rfl c_
              obtain ⟨z88, e_z88⟩ : ∃ z : Int32, z = (u6_ 1) + Int32.ofInt 1 := ⟨_, rfl⟩
              have b_ := zadd (x := (u6_ 1)) (y := Int32.ofInt 1) rfl (show (Int32.ofInt 1).toInt = 1 from by decide) e_z88 (by omega) (by omega)
              refine lv_iinc (v := z88) (lv' := [(5, .int z88), (0, .ref h0), (1, .int x1), (2, .ref h9), (3, .ref h19), (4, .int 1), (6, .int (u53_ 0)), (7, .int (u53_ 1))]) hx hb dX6_copyOn_88 hl (k := 5) rfl e_z88.symm (by decide) rfl (fun ls hl => ?_)
              refine lv_goto (tgt := 6) hx hb dX6_copyOn_91 (by decide) ?_
              have b_ : -2147483648 ≤ x1.toInt ∧ x1.toInt ≤ 2147483647 := ⟨zlo _, zhi _⟩
              have hc : va_P (dC, dI) vwCl [(h9, .inr (8, mX8 h10 (upd (upd (upd (upd (upd (upd (upd (upd v9 1 (u53_ 2)) 2 (u53_ 3)) 3 (u53_ 4)) 4 (u53_ 5)) 5 (u14_ 4)) 6 (u14_ 5)) 7 (u53_ 6)) 8 (u53_ 7)))), (h10, .inr (6, mX6 h11 h12 h13 h14 h15 h16 h17 h18 v10)), (h13, .inl (k13, 833, .inl f13)), (h12, .inl (k12, 833, .inl f12)), (h11, .inl (k11, 1250, .inl f11)), (h19, .inr (0, mX0 h20 h21 h22 h23 v19)), (h20, .inl (k20, 120, .inl f20)), (h0, .inr (6, mX6 h1 h2 h3 h4 h5 h6 h7 h8 (upd (upd (upd (upd v0 8 (u53_ 8)) 9 (u53_ 9)) 10 (u53_ 10)) 11 (u53_ 11)))), (h8, .inl (k8, 400, .inl (a44_ 0))), (h6, .inl (k6, 400, .inl (a53_ 5))), (h5, .inl (k5, 400, .inl (a53_ 4))), (h2, .inl (k2, 833, .inl (a53_ 1))), (h1, .inl (k1, 1250, .inl (a53_ 0))), (h3, .inl (k3, 833, .inl (a53_ 2))), (h4, .inl (k4, 400, .inl (a53_ 3))), (h7, .inl (k7, 400, .inl (a44_ 7)))] H ∧ va_D A [(h9, .inr (8, mX8 h10 (upd (upd (upd (upd (upd (upd (upd (upd v9 1 (u53_ 2)) 2 (u53_ 3)) 3 (u53_ 4)) 4 (u53_ 5)) 5 (u14_ 4)) 6 (u14_ 5)) 7 (u53_ 6)) 8 (u53_ 7)))), (h10, .inr (6, mX6 h11 h12 h13 h14 h15 h16 h17 h18 v10)), (h13, .inl (k13, 833, .inl f13)), (h12, .inl (k12, 833, .inl f12)), (h11, .inl (k11, 1250, .inl f11)), (h19, .inr (0, mX0 h20 h21 h22 h23 v19)), (h20, .inl (k20, 120, .inl f20)), (h0, .inr (6, mX6 h1 h2 h3 h4 h5 h6 h7 h8 (upd (upd (upd (upd v0 8 (u53_ 8)) 9 (u53_ 9)) 10 (u53_ 10)) 11 (u53_ 11)))), (h8, .inl (k8, 400, .inl (a44_ 0))), (h6, .inl (k6, 400, .inl (a53_ 5))), (h5, .inl (k5, 400, .inl (a53_ 4))), (h2, .inl (k2, 833, .inl (a53_ 1))), (h1, .inl (k1, 1250, .inl (a53_ 0))), (h3, .inl (k3, 833, .inl (a53_ 2))), (h4, .inl (k4, 400, .inl (a53_ 3))), (h7, .inl (k7, 400, .inl (a44_ 7)))] ∧ va_S A s.heap H locs ∧ lv_has ls 9 [(0, .ref h0), (1, .int x1), (2, .ref h9), (3, .ref h19), (4, .int 1), (5, .int z88)] ∧ zA 0 1250 (a53_ 1) ∧ zA 0 832 (a53_ 4) ∧ (0 ≤ (1 : Int32).toInt ∧ (1 : Int32).toInt ≤ 1) ∧ (0 ≤ z88.toInt ∧ z88.toInt ≤ 120) ∧ (0 ≤ (u53_ 8).toInt ∧ (u53_ 8).toInt ≤ 833) ∧ (0 ≤ (u53_ 9).toInt ∧ (u53_ 9).toInt ≤ 1250) ∧ (zPhi (a53_ 1) (a53_ 4) (a53_ 5) (u53_ 9).toInt (u53_ 8).toInt) := ⟨hP, hD, hS, lv_sub hl [1, 2, 3, 4, 5, 0] rfl, ha53_1, ha53_4, ⟨by omega, by omega⟩, ⟨by omega, by omega⟩, ⟨by omega, by omega⟩, ⟨by omega, by omega⟩, by assumption⟩
              exact hJ6 H locs ls (fun i => ([1, z88, (u53_ 2), (u53_ 3), (u53_ 4), (u53_ 5), (u14_ 4), (u14_ 5), (u53_ 6), (u53_ 7), (u53_ 8), (u53_ 9), (u53_ 10), (u53_ 11)] : List (Int32)).getD i 0) (fun _ => 0) (fun i => ([(a53_ 0), (a53_ 1), (a53_ 2), (a53_ 3), (a53_ 4), (a53_ 5), (a44_ 7), (a44_ 0)] : List (Nat → Int32)).getD i (fun _ => 0)) (fun _ => (fun _ => 0)) hc (show (120 - z88.toInt).toNat < (120 - (u6_ 1).toInt).toNat from by omega)
            · skip
              have b_ := zF_ge rfl rfl c_
              refine lv_aload_n hx hb dX6_copyOn_62 rfl (lv_at hl 2 rfl) ?_
              have hPc := hP.sub (ws' := [(h9, .inr (8, mX8 h10 (upd (upd (upd (upd (upd (upd (upd (upd v9 1 (u53_ 2)) 2 (u53_ 3)) 3 (u53_ 4)) 4 (u53_ 5)) 5 (u14_ 4)) 6 (u14_ 5)) 7 (u53_ 6)) 8 (u53_ 7)))), (h10, .inr (6, mX6 h11 h12 h13 h14 h15 h16 h17 h18 v10)), (h13, .inl (k13, 833, .inl f13)), (h12, .inl (k12, 833, .inl f12)), (h11, .inl (k11, 1250, .inl f11))]) [0, 1, 2, 3, 4] rfl
              have hDc := hD.sub (ws' := [(h9, .inr (8, mX8 h10 (upd (upd (upd (upd (upd (upd (upd (upd v9 1 (u53_ 2)) 2 (u53_ 3)) 3 (u53_ 4)) 4 (u53_ 5)) 5 (u14_ 4)) 6 (u14_ 5)) 7 (u53_ 6)) 8 (u53_ 7)))), (h10, .inr (6, mX6 h11 h12 h13 h14 h15 h16 h17 h18 v10)), (h13, .inl (k13, 833, .inl f13)), (h12, .inl (k12, 833, .inl f12)), (h11, .inl (k11, 1250, .inl f11))]) [0, 1, 2, 3, 4] (by decide) rfl
              have hKc := hK.sub (tys' := [(k13, .int), (k12, .int), (k11, .int)]) [0, 1, 2] rfl
              have hFc := va_free (wc := [(h9, .inr (8, mX8 h10 (upd (upd (upd (upd (upd (upd (upd (upd v9 1 (u53_ 2)) 2 (u53_ 3)) 3 (u53_ 4)) 4 (u53_ 5)) 5 (u14_ 4)) 6 (u14_ 5)) 7 (u53_ 6)) 8 (u53_ 7)))), (h10, .inr (6, mX6 h11 h12 h13 h14 h15 h16 h17 h18 v10)), (h13, .inl (k13, 833, .inl f13)), (h12, .inl (k12, 833, .inl f12)), (h11, .inl (k11, 1250, .inl f11))]) hD hS hA [0, 1, 2, 3, 4] rfl
              refine va_calli (va_runV (As := []) (rest := []) ⟨hx, hb, hml, hown, hG⟩ (sX8_nextPlace_0 l dC dI adK adV h9 h10 h13 h12 h11 h14 h15 h16 h17 h18 k13 k12 k11 H.size (upd (upd (upd (upd (upd (upd (upd (upd v9 1 (u53_ 2)) 2 (u53_ 3)) 3 (u53_ 4)) 4 (u53_ 5)) 5 (u14_ 4)) 6 (u14_ 5)) 7 (u53_ 6)) 8 (u53_ 7)) v10 f13 f12 f11 hv10 hf12) (cwV 0 hG (zgV zw248 zw249 zw250 zw224 zw251) rfl rfl rfl (by decide +kernel) ⟨Nat.le_of_ble_eq_true rfl, Nat.le_of_ble_eq_true rfl⟩) ⟨zPc_blind, va_recv hKc hPc (ci := 8) (q0 := 0) rfl rfl, zPc_pre hPc hKc hDc hE hS hFc hZ⟩ rfl rfl hl.1 rfl (lv_room (Nat.le_of_ble_eq_true rfl)) dX6_copyOn_63 ⟨Nat.le_of_ble_eq_true rfl, Nat.le_of_ble_eq_true rfl⟩) hS (fun q _ h => hFc q h) hFc (fun r63_ u63_ t H1 locs ht hvm hw hB hz1 hk1 hS => ?_)
              have hw : ((-2147483648) ≤ (u63_ 4).toInt ∧ (u63_ 4).toInt ≤ 2147483646) := hw
              have b_ := hw
              obtain ⟨w63_, a63_, b63_, hP1, hK1, hD1⟩ := hB
              rw [ht] at hP1
              obtain ⟨hP, hD⟩ := va_join (wr := [(h19, .inr (0, mX0 h20 h21 h22 h23 v19)), (h20, .inl (k20, 120, .inl f20)), (h0, .inr (6, mX6 h1 h2 h3 h4 h5 h6 h7 h8 (upd (upd (upd (upd v0 8 (u53_ 8)) 9 (u53_ 9)) 10 (u53_ 10)) 11 (u53_ 11)))), (h8, .inl (k8, 400, .inl (a44_ 0))), (h6, .inl (k6, 400, .inl (a53_ 5))), (h5, .inl (k5, 400, .inl (a53_ 4))), (h2, .inl (k2, 833, .inl (a53_ 1))), (h1, .inl (k1, 1250, .inl (a53_ 0))), (h3, .inl (k3, 833, .inl (a53_ 2))), (h4, .inl (k4, 400, .inl (a53_ 3))), (h7, .inl (k7, 400, .inl (a44_ 7)))]) (w1 := [(h9, .inr (8, mX8 h10 (upd (upd (upd (upd (upd (upd (upd (upd v9 1 (u63_ 0)) 2 (u63_ 1)) 3 (u63_ 2)) 4 (u63_ 3)) 5 (u14_ 4)) 6 (u14_ 5)) 7 (u63_ 4)) 8 (u63_ 5)))), (h10, .inr (6, mX6 h11 h12 h13 h14 h15 h16 h17 h18 v10)), (h13, .inl (k13, 833, .inl f13)), (h12, .inl (k12, 833, .inl f12)), (h11, .inl (k11, 1250, .inl f11))]) hP hD [0, 1, 2, 3, 4] [5, 6, 7, 8, 9, 10, 11, 12, 13, 14, 15] rfl rfl (by decide) (by decide) hk1 hFc hP1 hD1
              have hP : va_P (dC, dI) vwCl [(h9, .inr (8, mX8 h10 (upd (upd (upd (upd (upd (upd (upd (upd v9 1 (u63_ 0)) 2 (u63_ 1)) 3 (u63_ 2)) 4 (u63_ 3)) 5 (u14_ 4)) 6 (u14_ 5)) 7 (u63_ 4)) 8 (u63_ 5)))), (h10, .inr (6, mX6 h11 h12 h13 h14 h15 h16 h17 h18 v10)), (h13, .inl (k13, 833, .inl f13)), (h12, .inl (k12, 833, .inl f12)), (h11, .inl (k11, 1250, .inl f11)), (h19, .inr (0, mX0 h20 h21 h22 h23 v19)), (h20, .inl (k20, 120, .inl f20)), (h0, .inr (6, mX6 h1 h2 h3 h4 h5 h6 h7 h8 (upd (upd (upd (upd v0 8 (u53_ 8)) 9 (u53_ 9)) 10 (u53_ 10)) 11 (u53_ 11)))), (h8, .inl (k8, 400, .inl (a44_ 0))), (h6, .inl (k6, 400, .inl (a53_ 5))), (h5, .inl (k5, 400, .inl (a53_ 4))), (h2, .inl (k2, 833, .inl (a53_ 1))), (h1, .inl (k1, 1250, .inl (a53_ 0))), (h3, .inl (k3, 833, .inl (a53_ 2))), (h4, .inl (k4, 400, .inl (a53_ 3))), (h7, .inl (k7, 400, .inl (a44_ 7)))] H1 := hP.sub [11, 12, 13, 14, 15, 0, 1, 2, 3, 4, 5, 6, 7, 8, 9, 10] rfl
              have hD : va_D A [(h9, .inr (8, mX8 h10 (upd (upd (upd (upd (upd (upd (upd (upd v9 1 (u63_ 0)) 2 (u63_ 1)) 3 (u63_ 2)) 4 (u63_ 3)) 5 (u14_ 4)) 6 (u14_ 5)) 7 (u63_ 4)) 8 (u63_ 5)))), (h10, .inr (6, mX6 h11 h12 h13 h14 h15 h16 h17 h18 v10)), (h13, .inl (k13, 833, .inl f13)), (h12, .inl (k12, 833, .inl f12)), (h11, .inl (k11, 1250, .inl f11)), (h19, .inr (0, mX0 h20 h21 h22 h23 v19)), (h20, .inl (k20, 120, .inl f20)), (h0, .inr (6, mX6 h1 h2 h3 h4 h5 h6 h7 h8 (upd (upd (upd (upd v0 8 (u53_ 8)) 9 (u53_ 9)) 10 (u53_ 10)) 11 (u53_ 11)))), (h8, .inl (k8, 400, .inl (a44_ 0))), (h6, .inl (k6, 400, .inl (a53_ 5))), (h5, .inl (k5, 400, .inl (a53_ 4))), (h2, .inl (k2, 833, .inl (a53_ 1))), (h1, .inl (k1, 1250, .inl (a53_ 0))), (h3, .inl (k3, 833, .inl (a53_ 2))), (h4, .inl (k4, 400, .inl (a53_ 3))), (h7, .inl (k7, 400, .inl (a44_ 7)))] := hD.sub [11, 12, 13, 14, 15, 0, 1, 2, 3, 4, 5, 6, 7, 8, 9, 10] (by decide) rfl
              generalize H1 = H at hP hS ⊢
              clear hz1
              refine lv_istore (lv' := [(8, .int r63_), (0, .ref h0), (1, .int x1), (2, .ref h9), (3, .ref h19), (4, .int 1), (5, .int (u6_ 1)), (6, .int (u53_ 0)), (7, .int (u53_ 1))]) hx hb dX6_copyOn_66 hl (by decide) rfl (fun ls hl => ?_)
              refine lv_aload_n hx hb dX6_copyOn_68 rfl (lv_at hl 1 rfl) ?_
              refine lv_iload_n hx hb dX6_copyOn_69 rfl (lv_at hl 2 rfl) ?_
              refine lv_iload hx hb dX6_copyOn_70 (lv_at hl 0 rfl) ?_
              refine lv_iload hx hb dX6_copyOn_72 (lv_at hl 7 rfl) ?_
              have b_ : -2147483648 ≤ r63_.toInt ∧ r63_.toInt ≤ 2147483647 := ⟨zlo _, zhi _⟩
              have b_ : -2147483648 ≤ (u53_ 0).toInt ∧ (u53_ 0).toInt ≤ 2147483647 := ⟨zlo _, zhi _⟩
              refine lv_isub hx hb dX6_copyOn_74 ?_
              refine lv_topi (fun z74 e_z74 => ?_)
              have b_ : -2147483648 ≤ (u53_ 10).toInt ∧ (u53_ 10).toInt ≤ 2147483647 := ⟨zlo _, zhi _⟩
              have b_ : -2147483648 ≤ (u53_ 11).toInt ∧ (u53_ 11).toInt ≤ 2147483647 := ⟨zlo _, zhi _⟩
              have hPc := hP.sub (ws' := [(h0, .inr (6, mX6 h1 h2 h3 h4 h5 h6 h7 h8 (upd (upd (upd (upd v0 8 (u53_ 8)) 9 (u53_ 9)) 10 (u53_ 10)) 11 (u53_ 11)))), (h6, .inl (k6, 400, .inl (a53_ 5))), (h5, .inl (k5, 400, .inl (a53_ 4))), (h2, .inl (k2, 833, .inl (a53_ 1))), (h1, .inl (k1, 1250, .inl (a53_ 0))), (h3, .inl (k3, 833, .inl (a53_ 2))), (h4, .inl (k4, 400, .inl (a53_ 3)))]) [7, 9, 10, 11, 12, 13, 14] rfl
              have hDc := hD.sub (ws' := [(h0, .inr (6, mX6 h1 h2 h3 h4 h5 h6 h7 h8 (upd (upd (upd (upd v0 8 (u53_ 8)) 9 (u53_ 9)) 10 (u53_ 10)) 11 (u53_ 11)))), (h6, .inl (k6, 400, .inl (a53_ 5))), (h5, .inl (k5, 400, .inl (a53_ 4))), (h2, .inl (k2, 833, .inl (a53_ 1))), (h1, .inl (k1, 1250, .inl (a53_ 0))), (h3, .inl (k3, 833, .inl (a53_ 2))), (h4, .inl (k4, 400, .inl (a53_ 3)))]) [7, 9, 10, 11, 12, 13, 14] (by decide) rfl
              have hKc := hK.sub (tys' := [(k6, .int), (k5, .int), (k2, .int), (k1, .int), (k3, .int), (k4, .int)]) [5, 6, 7, 8, 9, 10] rfl
              have hFc := va_free (wc := [(h0, .inr (6, mX6 h1 h2 h3 h4 h5 h6 h7 h8 (upd (upd (upd (upd v0 8 (u53_ 8)) 9 (u53_ 9)) 10 (u53_ 10)) 11 (u53_ 11)))), (h6, .inl (k6, 400, .inl (a53_ 5))), (h5, .inl (k5, 400, .inl (a53_ 4))), (h2, .inl (k2, 833, .inl (a53_ 1))), (h1, .inl (k1, 1250, .inl (a53_ 0))), (h3, .inl (k3, 833, .inl (a53_ 2))), (h4, .inl (k4, 400, .inl (a53_ 3)))]) hD hS hA [7, 9, 10, 11, 12, 13, 14] rfl
              refine va_callv (va_runV (As := [.int x1, .int z74]) (rest := []) ⟨hx, hb, hml, hown, hG⟩ (sX6_append_0 l dC dI adK adV h0 h6 h5 h2 h1 h3 h4 h7 h8 k6 k5 k2 k1 k3 k4 H.size (upd (upd (upd (upd v0 8 (u53_ 8)) 9 (u53_ 9)) 10 (u53_ 10)) 11 (u53_ 11)) (a53_ 5) (a53_ 4) (a53_ 1) (a53_ 0) (a53_ 2) (a53_ 3) x1 z74 (zR_updF (zR_updF (zR_upd (zR_upd hv0 8 (show (0 : Int) ≤ ((u53_ 8) : Int32).toInt from by omega) (show ((u53_ 8) : Int32).toInt ≤ (833 : Int) from by omega)) 9 (show (0 : Int) ≤ ((u53_ 9) : Int32).toInt from by omega) (show ((u53_ 9) : Int32).toInt ≤ (1250 : Int) from by omega)) 10 rfl) 11 rfl) ha53_4 ha53_1 (show zPhi (a53_ 1) (a53_ 4) (a53_ 5) (u53_ 9).toInt (u53_ 8).toInt from by assumption)) (cwV 2 hG (zgV zw206 zw207 zw208 zw146 zw209) rfl rfl rfl (by decide +kernel) ⟨Nat.le_of_ble_eq_true rfl, Nat.le_of_ble_eq_true rfl⟩) ⟨zPc_blind, va_recv hKc hPc (ci := 6) (q0 := 0) rfl rfl, zPc_pre hPc hKc hDc hE hS hFc hZ⟩ rfl rfl hl.1 rfl (lv_room (Nat.le_of_ble_eq_true rfl)) dX6_copyOn_75 ⟨Nat.le_of_ble_eq_true rfl, Nat.le_of_ble_eq_true rfl⟩) hS (fun q _ h => hFc q h) hFc (fun u75_ t H1 locs ht hvm hw hB hz1 hk1 hS => ?_)
              have hw : (0 ≤ (u75_ 0).toInt ∧ (u75_ 0).toInt ≤ 833) ∧ (0 ≤ (u75_ 1).toInt ∧ (u75_ 1).toInt ≤ 1250) := hw
              obtain ⟨b_, b_⟩ := hw
              obtain ⟨w75_, a75_, b75_, ha75_1, ha75_2, hB75_0, hP1, hK1, hD1⟩ := hB
              have hB75_0 : zPhi (a75_ 2) (a75_ 1) (a75_ 0) (u75_ 1).toInt (u75_ 0).toInt := hB75_0
              rw [ht] at hP1
              obtain ⟨hP, hD⟩ := va_join (wr := [(h9, .inr (8, mX8 h10 (upd (upd (upd (upd (upd (upd (upd (upd v9 1 (u63_ 0)) 2 (u63_ 1)) 3 (u63_ 2)) 4 (u63_ 3)) 5 (u14_ 4)) 6 (u14_ 5)) 7 (u63_ 4)) 8 (u63_ 5)))), (h10, .inr (6, mX6 h11 h12 h13 h14 h15 h16 h17 h18 v10)), (h13, .inl (k13, 833, .inl f13)), (h12, .inl (k12, 833, .inl f12)), (h11, .inl (k11, 1250, .inl f11)), (h19, .inr (0, mX0 h20 h21 h22 h23 v19)), (h20, .inl (k20, 120, .inl f20)), (h8, .inl (k8, 400, .inl (a44_ 0))), (h7, .inl (k7, 400, .inl (a44_ 7)))]) (w1 := [(h0, .inr (6, mX6 h1 h2 h3 h4 h5 h6 h7 h8 (upd (upd (upd (upd v0 8 (u75_ 0)) 9 (u75_ 1)) 10 (u75_ 2)) 11 (u75_ 3)))), (h6, .inl (k6, 400, .inl (a75_ 0))), (h5, .inl (k5, 400, .inl (a75_ 1))), (h2, .inl (k2, 833, .inl (a75_ 2))), (h1, .inl (k1, 1250, .inl (a75_ 3))), (h3, .inl (k3, 833, .inl (a75_ 4))), (h4, .inl (k4, 400, .inl (a75_ 5)))]) hP hD [7, 9, 10, 11, 12, 13, 14] [0, 1, 2, 3, 4, 5, 6, 8, 15] rfl rfl (by decide) (by decide) hk1 hFc hP1 hD1
              have hP : va_P (dC, dI) vwCl [(h9, .inr (8, mX8 h10 (upd (upd (upd (upd (upd (upd (upd (upd v9 1 (u63_ 0)) 2 (u63_ 1)) 3 (u63_ 2)) 4 (u63_ 3)) 5 (u14_ 4)) 6 (u14_ 5)) 7 (u63_ 4)) 8 (u63_ 5)))), (h10, .inr (6, mX6 h11 h12 h13 h14 h15 h16 h17 h18 v10)), (h13, .inl (k13, 833, .inl f13)), (h12, .inl (k12, 833, .inl f12)), (h11, .inl (k11, 1250, .inl f11)), (h19, .inr (0, mX0 h20 h21 h22 h23 v19)), (h20, .inl (k20, 120, .inl f20)), (h0, .inr (6, mX6 h1 h2 h3 h4 h5 h6 h7 h8 (upd (upd (upd (upd v0 8 (u75_ 0)) 9 (u75_ 1)) 10 (u75_ 2)) 11 (u75_ 3)))), (h8, .inl (k8, 400, .inl (a44_ 0))), (h6, .inl (k6, 400, .inl (a75_ 0))), (h5, .inl (k5, 400, .inl (a75_ 1))), (h2, .inl (k2, 833, .inl (a75_ 2))), (h1, .inl (k1, 1250, .inl (a75_ 3))), (h3, .inl (k3, 833, .inl (a75_ 4))), (h4, .inl (k4, 400, .inl (a75_ 5))), (h7, .inl (k7, 400, .inl (a44_ 7)))] H1 := hP.sub [0, 1, 2, 3, 4, 5, 6, 9, 7, 10, 11, 12, 13, 14, 15, 8] rfl
              have hD : va_D A [(h9, .inr (8, mX8 h10 (upd (upd (upd (upd (upd (upd (upd (upd v9 1 (u63_ 0)) 2 (u63_ 1)) 3 (u63_ 2)) 4 (u63_ 3)) 5 (u14_ 4)) 6 (u14_ 5)) 7 (u63_ 4)) 8 (u63_ 5)))), (h10, .inr (6, mX6 h11 h12 h13 h14 h15 h16 h17 h18 v10)), (h13, .inl (k13, 833, .inl f13)), (h12, .inl (k12, 833, .inl f12)), (h11, .inl (k11, 1250, .inl f11)), (h19, .inr (0, mX0 h20 h21 h22 h23 v19)), (h20, .inl (k20, 120, .inl f20)), (h0, .inr (6, mX6 h1 h2 h3 h4 h5 h6 h7 h8 (upd (upd (upd (upd v0 8 (u75_ 0)) 9 (u75_ 1)) 10 (u75_ 2)) 11 (u75_ 3)))), (h8, .inl (k8, 400, .inl (a44_ 0))), (h6, .inl (k6, 400, .inl (a75_ 0))), (h5, .inl (k5, 400, .inl (a75_ 1))), (h2, .inl (k2, 833, .inl (a75_ 2))), (h1, .inl (k1, 1250, .inl (a75_ 3))), (h3, .inl (k3, 833, .inl (a75_ 4))), (h4, .inl (k4, 400, .inl (a75_ 5))), (h7, .inl (k7, 400, .inl (a44_ 7)))] := hD.sub [0, 1, 2, 3, 4, 5, 6, 9, 7, 10, 11, 12, 13, 14, 15, 8] (by decide) rfl
              generalize H1 = H at hP hS ⊢
              clear hz1
              refine lv_iload hx hb dX6_copyOn_78 (lv_at hl 0 rfl) ?_
              refine lv_istore (lv' := [(6, .int r63_), (8, .int r63_), (0, .ref h0), (1, .int x1), (2, .ref h9), (3, .ref h19), (4, .int 1), (5, .int (u6_ 1)), (7, .int (u53_ 1))]) hx hb dX6_copyOn_80 hl (by decide) rfl (fun ls hl => ?_)
              obtain ⟨z82, e_z82⟩ : ∃ z : Int32, z = (u53_ 1) + Int32.ofInt 1 := ⟨_, rfl⟩
              have b_ := zadd (x := (u53_ 1)) (y := Int32.ofInt 1) rfl (show (Int32.ofInt 1).toInt = 1 from by decide) e_z82 (by omega) (by omega)
              refine lv_iinc (v := z82) (lv' := [(7, .int z82), (6, .int r63_), (8, .int r63_), (0, .ref h0), (1, .int x1), (2, .ref h9), (3, .ref h19), (4, .int 1), (5, .int (u6_ 1))]) hx hb dX6_copyOn_82 hl (k := 8) rfl e_z82.symm (by decide) rfl (fun ls hl => ?_)
              refine lv_goto (tgt := 53) hx hb dX6_copyOn_85 (by decide) ?_
              have b_ : -2147483648 ≤ x1.toInt ∧ x1.toInt ≤ 2147483647 := ⟨zlo _, zhi _⟩
              have hc : va_P (dC, dI) vwCl [(h9, .inr (8, mX8 h10 (upd (upd (upd (upd (upd (upd (upd (upd v9 1 (u63_ 0)) 2 (u63_ 1)) 3 (u63_ 2)) 4 (u63_ 3)) 5 (u14_ 4)) 6 (u14_ 5)) 7 (u63_ 4)) 8 (u63_ 5)))), (h10, .inr (6, mX6 h11 h12 h13 h14 h15 h16 h17 h18 v10)), (h13, .inl (k13, 833, .inl f13)), (h12, .inl (k12, 833, .inl f12)), (h11, .inl (k11, 1250, .inl f11)), (h19, .inr (0, mX0 h20 h21 h22 h23 v19)), (h20, .inl (k20, 120, .inl f20)), (h0, .inr (6, mX6 h1 h2 h3 h4 h5 h6 h7 h8 (upd (upd (upd (upd v0 8 (u75_ 0)) 9 (u75_ 1)) 10 (u75_ 2)) 11 (u75_ 3)))), (h8, .inl (k8, 400, .inl (a44_ 0))), (h6, .inl (k6, 400, .inl (a75_ 0))), (h5, .inl (k5, 400, .inl (a75_ 1))), (h2, .inl (k2, 833, .inl (a75_ 2))), (h1, .inl (k1, 1250, .inl (a75_ 3))), (h3, .inl (k3, 833, .inl (a75_ 4))), (h4, .inl (k4, 400, .inl (a75_ 5))), (h7, .inl (k7, 400, .inl (a44_ 7)))] H ∧ va_D A [(h9, .inr (8, mX8 h10 (upd (upd (upd (upd (upd (upd (upd (upd v9 1 (u63_ 0)) 2 (u63_ 1)) 3 (u63_ 2)) 4 (u63_ 3)) 5 (u14_ 4)) 6 (u14_ 5)) 7 (u63_ 4)) 8 (u63_ 5)))), (h10, .inr (6, mX6 h11 h12 h13 h14 h15 h16 h17 h18 v10)), (h13, .inl (k13, 833, .inl f13)), (h12, .inl (k12, 833, .inl f12)), (h11, .inl (k11, 1250, .inl f11)), (h19, .inr (0, mX0 h20 h21 h22 h23 v19)), (h20, .inl (k20, 120, .inl f20)), (h0, .inr (6, mX6 h1 h2 h3 h4 h5 h6 h7 h8 (upd (upd (upd (upd v0 8 (u75_ 0)) 9 (u75_ 1)) 10 (u75_ 2)) 11 (u75_ 3)))), (h8, .inl (k8, 400, .inl (a44_ 0))), (h6, .inl (k6, 400, .inl (a75_ 0))), (h5, .inl (k5, 400, .inl (a75_ 1))), (h2, .inl (k2, 833, .inl (a75_ 2))), (h1, .inl (k1, 1250, .inl (a75_ 3))), (h3, .inl (k3, 833, .inl (a75_ 4))), (h4, .inl (k4, 400, .inl (a75_ 5))), (h7, .inl (k7, 400, .inl (a44_ 7)))] ∧ va_S A s.heap H locs ∧ lv_has ls 9 [(0, .ref h0), (1, .int x1), (2, .ref h9), (3, .ref h19), (4, .int 1), (5, .int (u6_ 1)), (6, .int r63_), (7, .int z82)] ∧ zA 0 1250 (a75_ 2) ∧ zA 0 832 (a75_ 1) ∧ (0 ≤ z82.toInt ∧ z82.toInt ≤ 2147483647) ∧ (0 ≤ (u75_ 0).toInt ∧ (u75_ 0).toInt ≤ 833) ∧ (0 ≤ (u75_ 1).toInt ∧ (u75_ 1).toInt ≤ 1250) ∧ (zPhi (a75_ 2) (a75_ 1) (a75_ 0) (u75_ 1).toInt (u75_ 0).toInt) := ⟨hP, hD, hS, lv_sub hl [3, 4, 5, 6, 7, 8, 1, 0] rfl, ha75_2, ha75_1, ⟨by omega, by omega⟩, ⟨by omega, by omega⟩, ⟨by omega, by omega⟩, by assumption⟩
              exact hJ53 H locs ls (fun i => ([r63_, z82, (u63_ 0), (u63_ 1), (u63_ 2), (u63_ 3), (u63_ 4), (u63_ 5), (u75_ 0), (u75_ 1), (u75_ 2), (u75_ 3)] : List (Int32)).getD i 0) (fun _ => 0) (fun i => ([(a75_ 3), (a75_ 2), (a75_ 4), (a75_ 5), (a75_ 1), (a75_ 0)] : List (Nat → Int32)).getD i (fun _ => 0)) (fun _ => (fun _ => 0)) hc (show (2147483647 - z82.toInt).toNat < (2147483647 - (u53_ 1).toInt).toNat from by omega)
          · skip
            have b_ : -2147483648 ≤ x1.toInt ∧ x1.toInt ≤ 2147483647 := ⟨zlo _, zhi _⟩
            have hc : va_P (dC, dI) vwCl [(h9, .inr (8, mX8 h10 (upd (upd (upd (upd (upd (upd (upd (upd v9 1 (u14_ 0)) 2 (u14_ 1)) 3 (u14_ 2)) 4 (u14_ 3)) 5 (u14_ 4)) 6 (u14_ 5)) 7 (u14_ 6)) 8 (u14_ 7)))), (h10, .inr (6, mX6 h11 h12 h13 h14 h15 h16 h17 h18 v10)), (h13, .inl (k13, 833, .inl f13)), (h12, .inl (k12, 833, .inl f12)), (h11, .inl (k11, 1250, .inl f11)), (h19, .inr (0, mX0 h20 h21 h22 h23 v19)), (h20, .inl (k20, 120, .inl f20)), (h0, .inr (6, mX6 h1 h2 h3 h4 h5 h6 h7 h8 (upd (upd (upd (upd v0 8 (u44_ 0)) 9 (u44_ 1)) 10 (u44_ 2)) 11 (u44_ 3)))), (h8, .inl (k8, 400, .inl (a44_ 0))), (h6, .inl (k6, 400, .inl (a44_ 1))), (h5, .inl (k5, 400, .inl (a44_ 2))), (h2, .inl (k2, 833, .inl (a44_ 3))), (h1, .inl (k1, 1250, .inl (a44_ 4))), (h3, .inl (k3, 833, .inl (a44_ 5))), (h4, .inl (k4, 400, .inl (a44_ 6))), (h7, .inl (k7, 400, .inl (a44_ 7)))] H ∧ va_D A [(h9, .inr (8, mX8 h10 (upd (upd (upd (upd (upd (upd (upd (upd v9 1 (u14_ 0)) 2 (u14_ 1)) 3 (u14_ 2)) 4 (u14_ 3)) 5 (u14_ 4)) 6 (u14_ 5)) 7 (u14_ 6)) 8 (u14_ 7)))), (h10, .inr (6, mX6 h11 h12 h13 h14 h15 h16 h17 h18 v10)), (h13, .inl (k13, 833, .inl f13)), (h12, .inl (k12, 833, .inl f12)), (h11, .inl (k11, 1250, .inl f11)), (h19, .inr (0, mX0 h20 h21 h22 h23 v19)), (h20, .inl (k20, 120, .inl f20)), (h0, .inr (6, mX6 h1 h2 h3 h4 h5 h6 h7 h8 (upd (upd (upd (upd v0 8 (u44_ 0)) 9 (u44_ 1)) 10 (u44_ 2)) 11 (u44_ 3)))), (h8, .inl (k8, 400, .inl (a44_ 0))), (h6, .inl (k6, 400, .inl (a44_ 1))), (h5, .inl (k5, 400, .inl (a44_ 2))), (h2, .inl (k2, 833, .inl (a44_ 3))), (h1, .inl (k1, 1250, .inl (a44_ 4))), (h3, .inl (k3, 833, .inl (a44_ 5))), (h4, .inl (k4, 400, .inl (a44_ 6))), (h7, .inl (k7, 400, .inl (a44_ 7)))] ∧ va_S A s.heap H locs ∧ lv_has ls 9 [(0, .ref h0), (1, .int x1), (2, .ref h9), (3, .ref h19), (4, .int 1), (5, .int (u6_ 1)), (6, .int (-1)), (7, .int 0)] ∧ zA 0 1250 (a44_ 3) ∧ zA 0 832 (a44_ 2) ∧ (0 ≤ (0 : Int32).toInt ∧ (0 : Int32).toInt ≤ 2147483647) ∧ (0 ≤ (u44_ 0).toInt ∧ (u44_ 0).toInt ≤ 833) ∧ (0 ≤ (u44_ 1).toInt ∧ (u44_ 1).toInt ≤ 1250) ∧ (zPhi (a44_ 3) (a44_ 2) (a44_ 1) (u44_ 1).toInt (u44_ 0).toInt) := ⟨hP, hD, hS, lv_sub hl [3, 4, 5, 6, 2, 7, 1, 0] rfl, ha44_3, ha44_2, ⟨by omega, by omega⟩, ⟨by omega, by omega⟩, ⟨by omega, by omega⟩, by assumption⟩
            exact hJ53 H locs ls (fun i => ([(-1), 0, (u14_ 0), (u14_ 1), (u14_ 2), (u14_ 3), (u14_ 6), (u14_ 7), (u44_ 0), (u44_ 1), (u44_ 2), (u44_ 3)] : List (Int32)).getD i 0) (fun _ => 0) (fun i => ([(a44_ 4), (a44_ 3), (a44_ 5), (a44_ 6), (a44_ 2), (a44_ 1)] : List (Nat → Int32)).getD i (fun _ => 0)) (fun _ => (fun _ => 0)) hc
  · skip
    have b_ : -2147483648 ≤ x1.toInt ∧ x1.toInt ≤ 2147483647 := ⟨zlo _, zhi _⟩
    have hc : va_P (dC, dI) vwCl [(h9, .inr (8, mX8 h10 (upd (upd (upd (upd (upd (upd (upd (upd v9 1 (v9 1)) 2 (v9 2)) 3 (v9 3)) 4 (v9 4)) 5 (v9 5)) 6 (v9 6)) 7 (v9 7)) 8 (v9 8)))), (h10, .inr (6, mX6 h11 h12 h13 h14 h15 h16 h17 h18 v10)), (h13, .inl (k13, 833, .inl f13)), (h12, .inl (k12, 833, .inl f12)), (h11, .inl (k11, 1250, .inl f11)), (h19, .inr (0, mX0 h20 h21 h22 h23 v19)), (h20, .inl (k20, 120, .inl f20)), (h0, .inr (6, mX6 h1 h2 h3 h4 h5 h6 h7 h8 (upd (upd (upd (upd v0 8 (v0 8)) 9 (v0 9)) 10 (v0 10)) 11 (v0 11)))), (h8, .inl (k8, 400, .inl f8)), (h6, .inl (k6, 400, .inl f6)), (h5, .inl (k5, 400, .inl f5)), (h2, .inl (k2, 833, .inl f2)), (h1, .inl (k1, 1250, .inl f1)), (h3, .inl (k3, 833, .inl f3)), (h4, .inl (k4, 400, .inl f4)), (h7, .inl (k7, 400, .inl f7))] s.heap ∧ va_D A [(h9, .inr (8, mX8 h10 (upd (upd (upd (upd (upd (upd (upd (upd v9 1 (v9 1)) 2 (v9 2)) 3 (v9 3)) 4 (v9 4)) 5 (v9 5)) 6 (v9 6)) 7 (v9 7)) 8 (v9 8)))), (h10, .inr (6, mX6 h11 h12 h13 h14 h15 h16 h17 h18 v10)), (h13, .inl (k13, 833, .inl f13)), (h12, .inl (k12, 833, .inl f12)), (h11, .inl (k11, 1250, .inl f11)), (h19, .inr (0, mX0 h20 h21 h22 h23 v19)), (h20, .inl (k20, 120, .inl f20)), (h0, .inr (6, mX6 h1 h2 h3 h4 h5 h6 h7 h8 (upd (upd (upd (upd v0 8 (v0 8)) 9 (v0 9)) 10 (v0 10)) 11 (v0 11)))), (h8, .inl (k8, 400, .inl f8)), (h6, .inl (k6, 400, .inl f6)), (h5, .inl (k5, 400, .inl f5)), (h2, .inl (k2, 833, .inl f2)), (h1, .inl (k1, 1250, .inl f1)), (h3, .inl (k3, 833, .inl f3)), (h4, .inl (k4, 400, .inl f4)), (h7, .inl (k7, 400, .inl f7))] ∧ va_S A s.heap s.heap [] ∧ lv_has ls 9 [(0, .ref h0), (1, .int x1), (2, .ref h9), (3, .ref h19), (4, .int 0), (5, .int 0)] ∧ zA 0 1250 f2 ∧ zA 0 832 f5 ∧ (0 ≤ (0 : Int32).toInt ∧ (0 : Int32).toInt ≤ 1) ∧ (0 ≤ (0 : Int32).toInt ∧ (0 : Int32).toInt ≤ 120) ∧ (0 ≤ (v0 8).toInt ∧ (v0 8).toInt ≤ 833) ∧ (0 ≤ (v0 9).toInt ∧ (v0 9).toInt ≤ 1250) ∧ (zPhi f2 f5 f6 (v0 9).toInt (v0 8).toInt) := ⟨hP, hD, hS, lv_sub hl [2, 3, 4, 5, 1, 0] rfl, hf2, hf5, ⟨by omega, by omega⟩, ⟨by omega, by omega⟩, ⟨by omega, by omega⟩, ⟨by omega, by omega⟩, by assumption⟩
    exact hJ6 s.heap [] ls (fun i => ([0, 0, (v9 1), (v9 2), (v9 3), (v9 4), (v9 5), (v9 6), (v9 7), (v9 8), (v0 8), (v0 9), (v0 10), (v0 11)] : List (Int32)).getD i 0) (fun _ => 0) (fun i => ([f1, f2, f3, f4, f5, f6, f7, f8] : List (Nat → Int32)).getD i (fun _ => 0)) (fun _ => (fun _ => 0)) hc
