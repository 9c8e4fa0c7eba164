set_option maxHeartbeats 8000000 in
set_option maxRecDepth 100000 in
theorem sX6_roomOf_0 (l : Launch) (dC : Nat → ClassId) (dI : Nat → Nat → Nat) (adK adV : Nat → Nat) (sz : Nat) (x0 : Int32) : Met l yX6_roomOf (zw yX6_roomOf cX6_roomOf 1 (some .int)) { frames := 0, cells := 0, slots := 0, locals := 0 } (zPc dC dI adK adV [.int x0] sz [] []) (va_Qi (fun (r : Int32) (u : Nat → Int32) => (0 ≤ x0.toInt → x0.toInt ≤ 1000 → zRo x0.toInt r.toInt)) (fun (u : Nat → Int32) (t : State) => ∃ (ww : Nat → Int64) (aa : Nat → Nat → Int32) (bb : Nat → Nat → Int64), va_P (dC, dI) vwCl [] t.heap ∧ va_K (dC, dI) vwCl [] t ∧ va_D (va_A [] sz) []) (va_A [] sz)) 0 0 (va_A [] sz) := by
  refine Met.ofW (cc := cX6_roomOf) (maxL := 1) (ret := (some .int)) (by decide) rfl ?_
  intro p e s m args below meth c s₁ B hml hv
  obtain ⟨rfl, hsz, hP, hK, hD0, hE, hZ⟩ := hv
  have hx := B.exec
  have hb := B.bytes
  have hr := B.returns
  have hG : ∀ w ∈ zG, w.before _ s = true := fun w h => atoms_spec (ws := (zw yX6_roomOf cX6_roomOf 1 (some .int))) B.pre w (List.mem_cons_of_mem _ h)
  have hown : s.vm.findClass RX6 = some m.cls := findClass_of_methodNamed B.named
  have hlocks := B.notSynchronized

  subst hsz
  have hD := hD0.self (sz := s.heap.size)
  generalize hAe : va_A [] s.heap.size = A at hD hZ ⊢
  have hA : ∀ q : Nat, s.heap.size ≤ q → A q := fun q h => by rw [← hAe]; exact Or.inr h
  have hS : va_S A s.heap s.heap [] := va_S.rf
  have hl := lv_entry ([.int x0]) (n := 1) (Nat.le_of_ble_eq_true rfl)
  rw [lg_entry_eq]
  generalize (lg_sl ([.int x0]) ++ List.replicate (1 - (lg_sl ([.int x0])).length) Slot.unset).toArray = ls at hl ⊢
  have hl : lv_has ls 1 [(0, .int x0)] := hl
  refine lv_iload_n hx hb dX6_roomOf_0 rfl (lv_at hl 0 rfl) ?_
  refine lv_iconst (v := 3) hx hb dX6_roomOf_1 (by decide) ?_
  have b_ : -2147483648 ≤ x0.toInt ∧ x0.toInt ≤ 2147483647 := ⟨zlo _, zhi _⟩
  refine lv_icmp_gt (tgt := 15) hx hb dX6_roomOf_2 (by decide) (fun c_ => ?_) (fun c_ => ?_)
  · skip
    have b_ := zT_gt rfl zk_3 c_
    refine lv_sipush (v := 224) hx hb dX6_roomOf_15 (by decide) ?_
    refine lv_sipush (v := 256) hx hb dX6_roomOf_18 (by decide) ?_
    refine lv_iload_n hx hb dX6_roomOf_21 rfl (lv_at hl 0 rfl) ?_
    refine lv_iconst (v := 3) hx hb dX6_roomOf_22 (by decide) ?_
    refine lv_isub hx hb dX6_roomOf_23 ?_
    refine lv_topi (fun z23 e_z23 => ?_)
    have b_ := zsub rfl zk_3 e_z23 (by omega) (by omega)
    refine lv_imul hx hb dX6_roomOf_24 ?_
    refine lv_topi (fun z24 e_z24 => ?_)
    have b_ : x0.toInt ≤ 1000 → z24.toInt = 256 * (x0.toInt - 3) := fun h => by have q := zmul zk_256 rfl e_z24 (by omega) (by omega); omega
    have b_ : -2147483648 ≤ z24.toInt ∧ z24.toInt ≤ 2147483647 := ⟨zlo _, zhi _⟩
    refine lv_iadd hx hb dX6_roomOf_25 ?_
    refine lv_topi (fun z25 e_z25 => ?_)
    have b_ : x0.toInt ≤ 1000 → z25.toInt = 224 + z24.toInt := fun h => zadd zk_224 rfl e_z25 (by omega) (by omega)
    refine W.widen (k := 0) (n := 0) (by decide) (by decide) ?_
    have b_ : -2147483648 ≤ z25.toInt ∧ z25.toInt ≤ 2147483647 := ⟨zlo _, zhi _⟩
    have hpost : (0 ≤ x0.toInt → x0.toInt ≤ 1000 → zRo x0.toInt z25.toInt) := by intro _ _; unfold zRo; omega
    have hP9 : va_P (dC, dI) vwCl [] s.heap := hP
    have hD9 : va_D A [] := hD
    exact W.iret (v := z25) hx hb hr (fun t ht hW => ⟨⟨z25, (fun _ => 0), rfl, hpost, (fun _ => 0), (fun _ => (fun _ => 0)), (fun _ => (fun _ => 0)), by rw [ht]; exact hP9, va_K.moved hW.alike hK, hD9⟩, hS.F ht⟩) hS.2.2 dX6_roomOf_26
  · skip
    have b_ := zF_gt rfl zk_3 c_
    refine lv_bipush (v := 32) hx hb dX6_roomOf_5 (by decide) ?_
    refine lv_iload_n hx hb dX6_roomOf_7 rfl (lv_at hl 0 rfl) ?_
    refine lv_ishl hx hb dX6_roomOf_8 ?_
    refine lv_topi (fun z8 e_z8 => ?_)
    have b_ : 0 ≤ x0.toInt → (x0.toInt = 0 ∧ z8.toInt = 32) ∨ (x0.toInt = 1 ∧ z8.toInt = 64) ∨ (x0.toInt = 2 ∧ z8.toInt = 128) ∨ (x0.toInt = 3 ∧ z8.toInt = 256) := fun h => zshl32 e_z8 h (by omega)
    refine lv_bipush (v := 32) hx hb dX6_roomOf_9 (by decide) ?_
    have b_ : -2147483648 ≤ z8.toInt ∧ z8.toInt ≤ 2147483647 := ⟨zlo _, zhi _⟩
    refine lv_isub hx hb dX6_roomOf_11 ?_
    refine lv_topi (fun z11 e_z11 => ?_)
    have b_ : 0 ≤ x0.toInt → z11.toInt = z8.toInt - 32 := fun h => zsub rfl zk_32 e_z11 (by omega) (by omega)
    refine lv_goto (tgt := 26) hx hb dX6_roomOf_12 (by decide) ?_
    refine W.widen (k := 0) (n := 0) (by decide) (by decide) ?_
    have b_ : -2147483648 ≤ z11.toInt ∧ z11.toInt ≤ 2147483647 := ⟨zlo _, zhi _⟩
    have hpost : (0 ≤ x0.toInt → x0.toInt ≤ 1000 → zRo x0.toInt z11.toInt) := by intro _ _; unfold zRo; omega
    have hP9 : va_P (dC, dI) vwCl [] s.heap := hP
    have hD9 : va_D A [] := hD
    exact W.iret (v := z11) hx hb hr (fun t ht hW => ⟨⟨z11, (fun _ => 0), rfl, hpost, (fun _ => 0), (fun _ => (fun _ => 0)), (fun _ => (fun _ => 0)), by rw [ht]; exact hP9, va_K.moved hW.alike hK, hD9⟩, hS.F ht⟩) hS.2.2 dX6_roomOf_26
set_option maxHeartbeats 8000000 in
set_option maxRecDepth 100000 in
theorem sX6_addChunk_0 (l : Launch) (dC : Nat → ClassId) (dI : Nat → Nat → Nat) (adK adV : Nat → Nat) (h0 : Nat) (h1 : Nat) (h5 : Nat) (h3 : Nat) (h2 : Nat) (h4 : Nat) (h6 : Nat) (h7 : Nat) (h8 : Nat) (k1 : ClassId) (k5 : ClassId) (k3 : ClassId) (k2 : ClassId) (k4 : ClassId) (sz : Nat) (v0 : Nat → Int32) (f1 : Nat → Int32) (f5 : Nat → Int32) (f3 : Nat → Int32) (f2 : Nat → Int32) (f4 : Nat → Int32) (x1 : Int32) (x2 : Int32) (hv0 : zR rg_Postings v0) (hf5 : zA 0 832 f5) (hf2 : zA 0 1250 f2) (hx1 : 0 ≤ x1.toInt ∧ x1.toInt ≤ 399) (hx2 : 0 ≤ x2.toInt ∧ x2.toInt ≤ 1000) : Met l yX6_addChunk (zw yX6_addChunk cX6_addChunk 4 (some .boolean)) { frames := 1, cells := 0, slots := 0, locals := 20 } (zPc dC dI adK adV [.ref h0, .int x1, .int x2] sz [(h0, .inr (6, mX6 h1 h2 h3 h4 h5 h6 h7 h8 v0)), (h1, zi k1 1250 f1), (h5, zi k5 400 f5), (h3, zi k3 833 f3), (h2, zi k2 833 f2), (h4, zi k4 400 f4)] [(k1, .int), (k5, .int), (k3, .int), (k2, .int), (k4, .int)]) (va_Qi (fun (r : Int32) (u : Nat → Int32) => (0 ≤ r.toInt ∧ r.toInt ≤ 1) ∧ (0 ≤ (u 0).toInt ∧ (u 0).toInt ≤ 833) ∧ (0 ≤ (u 1).toInt ∧ (u 1).toInt ≤ 1250) ∧ (r.toInt = 1 → zBs x2.toInt (32 * ((u 1).toInt - (v0 9).toInt))) ∧ (r.toInt = 1 → (u 0).toInt = (v0 8).toInt + 1) ∧ (r.toInt = 0 → (u 1).toInt = (v0 9).toInt ∧ (u 0).toInt = (v0 8).toInt) ∧ (r.toInt = (u 3).toInt)) (fun (u : Nat → Int32) (t : State) => ∃ (ww : Nat → Int64) (aa : Nat → Nat → Int32) (bb : Nat → Nat → Int64), zA 0 832 (aa 0) ∧ zA 0 1250 (aa 2) ∧ ((u 3).toInt = 1 → (aa 0) = upd f5 ((x1 : Int32)).toNatClampNeg (v0 8) ∧ (aa 2) = upd f2 (v0 8).toNatClampNeg (v0 9)) ∧ ((u 3).toInt = 0 → (aa 0) = f5 ∧ (aa 2) = f2) ∧ va_P (dC, dI) vwCl [(h0, .inr (6, mX6 h1 h2 h3 h4 h5 h6 h7 h8 (upd (upd (upd v0 8 (u 0)) 9 (u 1)) 11 (u 2)))), (h1, zi k1 1250 f1), (h5, zi k5 400 (aa 0)), (h3, zi k3 833 (aa 1)), (h2, zi k2 833 (aa 2)), (h4, zi k4 400 (aa 3))] t.heap ∧ va_K (dC, dI) vwCl [(k1, .int), (k5, .int), (k3, .int), (k2, .int), (k4, .int)] t ∧ va_D (va_A [(h0, .inr (6, mX6 h1 h2 h3 h4 h5 h6 h7 h8 v0)), (h1, zi k1 1250 f1), (h5, zi k5 400 f5), (h3, zi k3 833 f3), (h2, zi k2 833 f2), (h4, zi k4 400 f4)] sz) [(h0, .inr (6, mX6 h1 h2 h3 h4 h5 h6 h7 h8 (upd (upd (upd v0 8 (u 0)) 9 (u 1)) 11 (u 2)))), (h1, zi k1 1250 f1), (h5, zi k5 400 (aa 0)), (h3, zi k3 833 (aa 1)), (h2, zi k2 833 (aa 2)), (h4, zi k4 400 (aa 3))]) (va_A [(h0, .inr (6, mX6 h1 h2 h3 h4 h5 h6 h7 h8 v0)), (h1, zi k1 1250 f1), (h5, zi k5 400 f5), (h3, zi k3 833 f3), (h2, zi k2 833 f2), (h4, zi k4 400 f4)] sz)) 0 0 (va_A [(h0, .inr (6, mX6 h1 h2 h3 h4 h5 h6 h7 h8 v0)), (h1, zi k1 1250 f1), (h5, zi k5 400 f5), (h3, zi k3 833 f3), (h2, zi k2 833 f2), (h4, zi k4 400 f4)] sz) := by
  refine Met.ofW (cc := cX6_addChunk) (maxL := 4) (ret := (some .boolean)) (by decide) rfl ?_
  intro p e s m args below meth c s₁ B hml hv
  obtain ⟨rfl, hsz, hP, hK, hD0, hE, hZ⟩ := hv
  have hx := B.exec
  have hb := B.bytes
  have hr := B.returns
  have hG : ∀ w ∈ zG, w.before _ s = true := fun w h => atoms_spec (ws := (zw yX6_addChunk cX6_addChunk 4 (some .boolean))) B.pre w (List.mem_cons_of_mem _ h)
  have hown : s.vm.findClass RX6 = some m.cls := findClass_of_methodNamed B.named
  have hlocks := B.notSynchronized

  subst hsz
  have hD := hD0.self (sz := s.heap.size)
  generalize hAe : va_A [(h0, .inr (6, mX6 h1 h2 h3 h4 h5 h6 h7 h8 v0)), (h1, zi k1 1250 f1), (h5, zi k5 400 f5), (h3, zi k3 833 f3), (h2, zi k2 833 f2), (h4, zi k4 400 f4)] s.heap.size = A at hD hZ ⊢
  have hA : ∀ q : Nat, s.heap.size ≤ q → A q := fun q h => by rw [← hAe]; exact Or.inr h
  have hS : va_S A s.heap s.heap [] := va_S.rf
  have hl := lv_entry ([.ref h0, .int x1, .int x2]) (n := 4) (Nat.le_of_ble_eq_true rfl)
  rw [lg_entry_eq]
  generalize (lg_sl ([.ref h0, .int x1, .int x2]) ++ List.replicate (4 - (lg_sl ([.ref h0, .int x1, .int x2])).length) Slot.unset).toArray = ls at hl ⊢
  have hl : lv_has ls 4 [(0, .ref h0), (1, .int x1), (2, .int x2)] := hl
  have b_ := zk_0
  have b_ := zk_1
  have b_ : 0 ≤ (v0 9).toInt ∧ (v0 9).toInt ≤ 1250 := hv0 9
  have b_ : 0 ≤ (v0 8).toInt ∧ (v0 8).toInt ≤ 833 := hv0 8
  refine lv_iload_n hx hb dX6_addChunk_0 rfl (lv_at hl 2 rfl) ?_
  have hPc := hP.sub (ws' := []) [] rfl
  have hDc := hD.sub (ws' := []) [] (by decide) rfl
  have hKc := hK.sub (tys' := []) [] rfl
  have hFc := va_free (wc := []) hD hS hA [] rfl
  refine va_calli (va_runS (As := [.int x2]) (rest := []) ⟨hx, hb, hml, hown, hG⟩ (sX6_bitsOfChunk_0 l dC dI adK adV s.heap.size x2) (va_cwS 1 hG (zgS zv847 zv848 zv133 zv849) rfl rfl rfl (by decide +kernel) ⟨Nat.le_of_ble_eq_true rfl, Nat.le_of_ble_eq_true rfl⟩) ⟨zPc_blind, zPc_pre hPc hKc hDc hE hS hFc hZ⟩ rfl rfl hl.1 rfl (lv_room (Nat.le_of_ble_eq_true rfl)) dX6_addChunk_1 ⟨Nat.le_of_ble_eq_true rfl, Nat.le_of_ble_eq_true rfl⟩) hS (fun q _ h => hFc q h) hFc (fun r1_ u1_ t H1 locs ht hvm hw hB hz1 hk1 hS => ?_)
  replace hw : (0 ≤ x2.toInt → zBs x2.toInt r1_.toInt) := hw
  have hX1_0 := hw
  obtain ⟨w1_, a1_, b1_, hP1, hK1, hD1⟩ := hB
  rw [ht] at hP1
  obtain ⟨hP, hD⟩ := va_join (wr := [(h0, .inr (6, mX6 h1 h2 h3 h4 h5 h6 h7 h8 v0)), (h1, zi k1 1250 f1), (h5, zi k5 400 f5), (h3, zi k3 833 f3), (h2, zi k2 833 f2), (h4, zi k4 400 f4)]) (w1 := []) hP hD [] [0, 1, 2, 3, 4, 5] rfl rfl (by decide) (by decide) hk1 hFc hP1 hD1
  have hP : va_P (dC, dI) vwCl [(h0, .inr (6, mX6 h1 h2 h3 h4 h5 h6 h7 h8 v0)), (h1, zi k1 1250 f1), (h5, zi k5 400 f5), (h3, zi k3 833 f3), (h2, zi k2 833 f2), (h4, zi k4 400 f4)] H1 := hP.sub [0, 1, 2, 3, 4, 5] rfl
  have hD : va_D A [(h0, .inr (6, mX6 h1 h2 h3 h4 h5 h6 h7 h8 v0)), (h1, zi k1 1250 f1), (h5, zi k5 400 f5), (h3, zi k3 833 f3), (h2, zi k2 833 f2), (h4, zi k4 400 f4)] := hD.sub [0, 1, 2, 3, 4, 5] (by decide) rfl
  generalize H1 = H at hP hS ⊢
  clear hz1
  have b_ : 32 ≤ r1_.toInt ∧ r1_.toInt ≤ 256 ∧ (r1_.toInt = 32 ∨ r1_.toInt = 64 ∨ r1_.toInt = 128 ∨ r1_.toInt = 256) := by have q := hX1_0 (by omega); unfold zBs at q; omega
  refine lv_istore_n (lv' := [(3, .int r1_), (0, .ref h0), (1, .int x1), (2, .int x2)]) hx hb dX6_addChunk_4 rfl hl (by decide) rfl (fun ls hl => ?_)
  refine lv_aload_n hx hb dX6_addChunk_5 rfl (lv_at hl 1 rfl) ?_
  refine va_get (D := (dC, dI)) (ci := 6) (v := .int (v0 8)) (C := RX6) (T := TX6) (N := 12) hx hb hG zuX6 hown hK hP 0 rfl rfl 8 (by decide) (hG _ zv256) (fun _ h9 => h9) rfl dX6_addChunk_6 ?_
  refine lv_sipush (v := 833) hx hb dX6_addChunk_9 (by decide) ?_
  refine lv_icmp_ge (tgt := 32) hx hb dX6_addChunk_12 (by decide) (fun c_ => ?_) (fun c_ => ?_)
  · skip
    have b_ := zT_ge rfl zk_833 c_
    refine lv_iconst (v := 0) hx hb dX6_addChunk_32 (by decide) ?_
    refine W.widen (k := 0) (n := 0) (by decide) (by decide) ?_
    have b_ : -2147483648 ≤ (v0 11).toInt ∧ (v0 11).toInt ≤ 2147483647 := ⟨zlo _, zhi _⟩
    have hpost : (0 ≤ (0 : Int32).toInt ∧ (0 : Int32).toInt ≤ 1) ∧ (0 ≤ (v0 8).toInt ∧ (v0 8).toInt ≤ 833) ∧ (0 ≤ (v0 9).toInt ∧ (v0 9).toInt ≤ 1250) ∧ ((0 : Int32).toInt = 1 → zBs x2.toInt (32 * ((v0 9).toInt - (v0 9).toInt))) ∧ ((0 : Int32).toInt = 1 → (v0 8).toInt = (v0 8).toInt + 1) ∧ ((0 : Int32).toInt = 0 → (v0 9).toInt = (v0 9).toInt ∧ (v0 8).toInt = (v0 8).toInt) ∧ ((0 : Int32).toInt = (0 : Int32).toInt) := ⟨⟨by omega, by omega⟩, ⟨by omega, by omega⟩, ⟨by omega, by omega⟩, by intro _; have q := hX1_0 (by omega); unfold zBs at q ⊢; omega, by omega, by omega, rfl⟩
    have hP9 : va_P (dC, dI) vwCl [(h0, .inr (6, mX6 h1 h2 h3 h4 h5 h6 h7 h8 (upd (upd (upd v0 8 (v0 8)) 9 (v0 9)) 11 (v0 11)))), (h1, zi k1 1250 f1), (h5, zi k5 400 f5), (h3, zi k3 833 f3), (h2, zi k2 833 f2), (h4, zi k4 400 f4)] H := hP
    have hD9 : va_D A [(h0, .inr (6, mX6 h1 h2 h3 h4 h5 h6 h7 h8 (upd (upd (upd v0 8 (v0 8)) 9 (v0 9)) 11 (v0 11)))), (h1, zi k1 1250 f1), (h5, zi k5 400 f5), (h3, zi k3 833 f3), (h2, zi k2 833 f2), (h4, zi k4 400 f4)] := hD
    have hB0 : (0 : Int32).toInt = 1 → f5 = upd f5 ((x1 : Int32)).toNatClampNeg (v0 8) ∧ f2 = upd f2 (v0 8).toNatClampNeg (v0 9) := by first | (intro _; exact ⟨e_f_75, e_f_88⟩) | (intro q; exact absurd q (by decide))
    have hB1 : (0 : Int32).toInt = 0 → f5 = f5 ∧ f2 = f2 := by first | (intro _; exact ⟨rfl, rfl⟩) | (intro q; exact absurd q (by decide))
    exact W.zret (v := 0) hx hb hr rfl (fun t ht hW => ⟨⟨0, (fun i => ([(v0 8), (v0 9), (v0 11), 0] : List (Int32)).getD i 0), rfl, hpost, (fun _ => 0), (fun i => ([f5, f3, f2, f4] : List (Nat → Int32)).getD i (fun _ => 0)), (fun _ => (fun _ => 0)), hf5, hf2, hB0, hB1, by rw [ht]; exact hP9, va_K.moved hW.alike hK, hD9⟩, hS.F ht⟩) hS.2.2 dX6_addChunk_33
  · skip
    have b_ := zF_ge rfl zk_833 c_
    refine lv_aload_n hx hb dX6_addChunk_15 rfl (lv_at hl 1 rfl) ?_
    refine va_get (D := (dC, dI)) (ci := 6) (v := .int (v0 9)) (C := RX6) (T := TX6) (N := 12) hx hb hG zuX6 hown hK hP 0 rfl rfl 9 (by decide) (hG _ zv257) (fun _ h9 => h9) rfl dX6_addChunk_16 ?_
    refine lv_iload_n hx hb dX6_addChunk_19 rfl (lv_at hl 0 rfl) ?_
    refine lv_bipush (v := 32) hx hb dX6_addChunk_20 (by decide) ?_
    have b_ : -2147483648 ≤ r1_.toInt ∧ r1_.toInt ≤ 2147483647 := ⟨zlo _, zhi _⟩
    refine lv_idiv hx hb dX6_addChunk_22 (by decide) ?_
    refine lv_topi (fun z22 e_z22 => ?_)
    have b_ := zdiv rfl zk_32 e_z22 (by omega) (by decide)
    refine lv_iadd hx hb dX6_addChunk_23 ?_
    refine lv_topi (fun z23 e_z23 => ?_)
    have b_ := zadd rfl rfl e_z23 (by omega) (by omega)
    refine lv_aload_n hx hb dX6_addChunk_24 rfl (lv_at hl 1 rfl) ?_
    refine va_get (D := (dC, dI)) (ci := 6) (v := .ref h1) (C := RX6) (T := TX6) (N := 12) hx hb hG zuX6 hown hK hP 0 rfl rfl 0 (by decide) (hG _ zv248) (fun _ h9 => h9) rfl dX6_addChunk_25 ?_
    refine va_alen (v := 1250) hx hb hK hP 1 0 rfl rfl (show Int32.ofNat 1250 = 1250 from by decide +kernel) dX6_addChunk_28 ?_
    refine lv_icmp_le (tgt := 34) hx hb dX6_addChunk_29 (by decide) (fun c_ => ?_) (fun c_ => ?_)
    · skip
      have b_ := zT_le rfl zk_1250 c_
      refine lv_iload_n hx hb dX6_addChunk_34 rfl (lv_at hl 3 rfl) ?_
      refine lv_if_ne (tgt := 51) hx hb dX6_addChunk_35 (by decide) (fun c_ => ?_) (fun c_ => ?_)
      · skip
        have b_ := zT_ne rfl zk_0 c_
        refine lv_aload_n hx hb dX6_addChunk_51 rfl (lv_at hl 1 rfl) ?_
        refine va_get (D := (dC, dI)) (ci := 6) (v := .ref h3) (C := RX6) (T := TX6) (N := 12) hx hb hG zuX6 hown hK hP 0 rfl rfl 2 (by decide) (hG _ zv250) (fun _ h9 => h9) rfl dX6_addChunk_52 ?_
        refine lv_aload_n hx hb dX6_addChunk_55 rfl (lv_at hl 1 rfl) ?_
        refine va_get (D := (dC, dI)) (ci := 6) (v := .ref h5) (C := RX6) (T := TX6) (N := 12) hx hb hG zuX6 hown hK hP 0 rfl rfl 4 (by decide) (hG _ zv252) (fun _ h9 => h9) rfl dX6_addChunk_56 ?_
        refine lv_iload_n hx hb dX6_addChunk_59 rfl (lv_at hl 2 rfl) ?_
        refine va_iald hx hb hK hP 2 1 rfl rfl (zin_lit ⟨by omega, by omega⟩) dX6_addChunk_60 ?_
        refine lv_topi (fun z60 e_z60 => ?_)
        have b_ : 0 ≤ z60.toInt ∧ z60.toInt ≤ 832 := by rw [e_z60]; exact hf5 _
        refine lv_aload_n hx hb dX6_addChunk_61 rfl (lv_at hl 1 rfl) ?_
        refine va_get (D := (dC, dI)) (ci := 6) (v := .int (v0 8)) (C := RX6) (T := TX6) (N := 12) hx hb hG zuX6 hown hK hP 0 rfl rfl 8 (by decide) (hG _ zv256) (fun _ h9 => h9) rfl dX6_addChunk_62 ?_
        refine va_iast hx hb hK hP hD hS 3 2 rfl rfl (zin_lit ⟨by omega, by omega⟩) dX6_addChunk_65 (fun H locs hP hD hS => ?_)
        obtain ⟨f_65, e_f_65⟩ : ∃ z : Nat → Int32, z = upd f3 (z60 : Int32).toNatClampNeg (v0 8) := ⟨_, rfl⟩
        have hP : va_P (dC, dI) vwCl [(h0, .inr (6, mX6 h1 h2 h3 h4 h5 h6 h7 h8 v0)), (h1, zi k1 1250 f1), (h5, zi k5 400 f5), (h3, zi k3 833 f_65), (h2, zi k2 833 f2), (h4, zi k4 400 f4)] H := by rw [e_f_65]; exact hP
        have hD : va_D A [(h0, .inr (6, mX6 h1 h2 h3 h4 h5 h6 h7 h8 v0)), (h1, zi k1 1250 f1), (h5, zi k5 400 f5), (h3, zi k3 833 f_65), (h2, zi k2 833 f2), (h4, zi k4 400 f4)] := by rw [e_f_65]; exact hD
        refine lv_aload_n hx hb dX6_addChunk_66 rfl (lv_at hl 1 rfl) ?_
        refine va_get (D := (dC, dI)) (ci := 6) (v := .ref h5) (C := RX6) (T := TX6) (N := 12) hx hb hG zuX6 hown hK hP 0 rfl rfl 4 (by decide) (hG _ zv252) (fun _ h9 => h9) rfl dX6_addChunk_67 ?_
        refine lv_iload_n hx hb dX6_addChunk_70 rfl (lv_at hl 2 rfl) ?_
        refine lv_aload_n hx hb dX6_addChunk_71 rfl (lv_at hl 1 rfl) ?_
        refine va_get (D := (dC, dI)) (ci := 6) (v := .int (v0 8)) (C := RX6) (T := TX6) (N := 12) hx hb hG zuX6 hown hK hP 0 rfl rfl 8 (by decide) (hG _ zv256) (fun _ h9 => h9) rfl dX6_addChunk_72 ?_
        refine va_iast hx hb hK hP hD hS 2 1 rfl rfl (zin_lit ⟨by omega, by omega⟩) dX6_addChunk_75 (fun H locs hP hD hS => ?_)
        obtain ⟨f_75, e_f_75⟩ : ∃ z : Nat → Int32, z = upd f5 (x1 : Int32).toNatClampNeg (v0 8) := ⟨_, rfl⟩
        have hP : va_P (dC, dI) vwCl [(h0, .inr (6, mX6 h1 h2 h3 h4 h5 h6 h7 h8 v0)), (h1, zi k1 1250 f1), (h5, zi k5 400 f_75), (h3, zi k3 833 f_65), (h2, zi k2 833 f2), (h4, zi k4 400 f4)] H := by rw [e_f_75]; exact hP
        have hD : va_D A [(h0, .inr (6, mX6 h1 h2 h3 h4 h5 h6 h7 h8 v0)), (h1, zi k1 1250 f1), (h5, zi k5 400 f_75), (h3, zi k3 833 f_65), (h2, zi k2 833 f2), (h4, zi k4 400 f4)] := by rw [e_f_75]; exact hD
        have hf_75 : zA 0 832 f_75 := by rw [e_f_75]; exact zA_upd hf5 (show 0 ≤ ((v0 8) : Int32).toInt from by omega) (show ((v0 8) : Int32).toInt ≤ 832 from by omega)
        refine lv_aload_n hx hb dX6_addChunk_76 rfl (lv_at hl 1 rfl) ?_
        refine va_get (D := (dC, dI)) (ci := 6) (v := .ref h2) (C := RX6) (T := TX6) (N := 12) hx hb hG zuX6 hown hK hP 0 rfl rfl 1 (by decide) (hG _ zv249) (fun _ h9 => h9) rfl dX6_addChunk_77 ?_
        refine lv_aload_n hx hb dX6_addChunk_80 rfl (lv_at hl 1 rfl) ?_
        refine va_get (D := (dC, dI)) (ci := 6) (v := .int (v0 8)) (C := RX6) (T := TX6) (N := 12) hx hb hG zuX6 hown hK hP 0 rfl rfl 8 (by decide) (hG _ zv256) (fun _ h9 => h9) rfl dX6_addChunk_81 ?_
        refine lv_aload_n hx hb dX6_addChunk_84 rfl (lv_at hl 1 rfl) ?_
        refine va_get (D := (dC, dI)) (ci := 6) (v := .int (v0 9)) (C := RX6) (T := TX6) (N := 12) hx hb hG zuX6 hown hK hP 0 rfl rfl 9 (by decide) (hG _ zv257) (fun _ h9 => h9) rfl dX6_addChunk_85 ?_
        refine va_iast hx hb hK hP hD hS 4 3 rfl rfl (zin_lit ⟨by omega, by omega⟩) dX6_addChunk_88 (fun H locs hP hD hS => ?_)
        obtain ⟨f_88, e_f_88⟩ : ∃ z : Nat → Int32, z = upd f2 ((v0 8) : Int32).toNatClampNeg (v0 9) := ⟨_, rfl⟩
        have hP : va_P (dC, dI) vwCl [(h0, .inr (6, mX6 h1 h2 h3 h4 h5 h6 h7 h8 v0)), (h1, zi k1 1250 f1), (h5, zi k5 400 f_75), (h3, zi k3 833 f_65), (h2, zi k2 833 f_88), (h4, zi k4 400 f4)] H := by rw [e_f_88]; exact hP
        have hD : va_D A [(h0, .inr (6, mX6 h1 h2 h3 h4 h5 h6 h7 h8 v0)), (h1, zi k1 1250 f1), (h5, zi k5 400 f_75), (h3, zi k3 833 f_65), (h2, zi k2 833 f_88), (h4, zi k4 400 f4)] := by rw [e_f_88]; exact hD
        have hf_88 : zA 0 1250 f_88 := by rw [e_f_88]; exact zA_upd hf2 (show 0 ≤ ((v0 9) : Int32).toInt from by omega) (show ((v0 9) : Int32).toInt ≤ 1250 from by omega)
        refine lv_aload_n hx hb dX6_addChunk_89 rfl (lv_at hl 1 rfl) ?_
        refine va_get (D := (dC, dI)) (ci := 6) (v := .ref h3) (C := RX6) (T := TX6) (N := 12) hx hb hG zuX6 hown hK hP 0 rfl rfl 2 (by decide) (hG _ zv250) (fun _ h9 => h9) rfl dX6_addChunk_90 ?_
        refine lv_aload_n hx hb dX6_addChunk_93 rfl (lv_at hl 1 rfl) ?_
        refine va_get (D := (dC, dI)) (ci := 6) (v := .int (v0 8)) (C := RX6) (T := TX6) (N := 12) hx hb hG zuX6 hown hK hP 0 rfl rfl 8 (by decide) (hG _ zv256) (fun _ h9 => h9) rfl dX6_addChunk_94 ?_
        refine lv_iconst (v := (-1)) hx hb dX6_addChunk_97 (by decide) ?_
        refine va_iast hx hb hK hP hD hS 3 2 rfl rfl (zin_lit ⟨by omega, by omega⟩) dX6_addChunk_98 (fun H locs hP hD hS => ?_)
        obtain ⟨f_98, e_f_98⟩ : ∃ z : Nat → Int32, z = upd f_65 ((v0 8) : Int32).toNatClampNeg (-1) := ⟨_, rfl⟩
        have hP : va_P (dC, dI) vwCl [(h0, .inr (6, mX6 h1 h2 h3 h4 h5 h6 h7 h8 v0)), (h1, zi k1 1250 f1), (h5, zi k5 400 f_75), (h3, zi k3 833 f_98), (h2, zi k2 833 f_88), (h4, zi k4 400 f4)] H := by rw [e_f_98]; exact hP
        have hD : va_D A [(h0, .inr (6, mX6 h1 h2 h3 h4 h5 h6 h7 h8 v0)), (h1, zi k1 1250 f1), (h5, zi k5 400 f_75), (h3, zi k3 833 f_98), (h2, zi k2 833 f_88), (h4, zi k4 400 f4)] := by rw [e_f_98]; exact hD
        refine lv_aload_n hx hb dX6_addChunk_99 rfl (lv_at hl 1 rfl) ?_
        refine lv_dup hx hb dX6_addChunk_100 rfl ?_
        refine va_get (D := (dC, dI)) (ci := 6) (v := .int (v0 8)) (C := RX6) (T := TX6) (N := 12) hx hb hG zuX6 hown hK hP 0 rfl rfl 8 (by decide) (hG _ zv256) (fun _ h9 => h9) rfl dX6_addChunk_101 ?_
        refine lv_iconst (v := 1) hx hb dX6_addChunk_104 (by decide) ?_
        refine lv_iadd hx hb dX6_addChunk_105 ?_
        refine lv_topi (fun z105 e_z105 => ?_)
        have b_ := zadd rfl zk_1 e_z105 (by omega) (by omega)
        refine va_put (D := (dC, dI)) (ci := 6) (v := .int z105) (ty := .int) (C := RX6) (T := TX6) (N := 12) hx hb hG zuX6 tyX6 tyX6_ok nmX6 hown hK hP hD hS 0 rfl rfl 8 (by decide) (hG _ zv256) (fun _ h9 => h9) rfl (by decide +kernel) rfl rfl (Nat.le_of_ble_eq_true rfl) dX6_addChunk_106 (fun H locs hP hD hS => ?_)
        have hP : va_P (dC, dI) vwCl [(h0, .inr (6, mX6 h1 h2 h3 h4 h5 h6 h7 h8 (upd v0 8 z105))), (h1, zi k1 1250 f1), (h5, zi k5 400 f_75), (h3, zi k3 833 f_98), (h2, zi k2 833 f_88), (h4, zi k4 400 f4)] H := hP
        have hD : va_D A [(h0, .inr (6, mX6 h1 h2 h3 h4 h5 h6 h7 h8 (upd v0 8 z105))), (h1, zi k1 1250 f1), (h5, zi k5 400 f_75), (h3, zi k3 833 f_98), (h2, zi k2 833 f_88), (h4, zi k4 400 f4)] := hD
        refine lv_aload_n hx hb dX6_addChunk_109 rfl (lv_at hl 1 rfl) ?_
        refine lv_dup hx hb dX6_addChunk_110 rfl ?_
        refine va_get (D := (dC, dI)) (ci := 6) (v := .int (v0 9)) (C := RX6) (T := TX6) (N := 12) hx hb hG zuX6 hown hK hP 0 rfl rfl 9 (by decide) (hG _ zv257) (fun _ h9 => h9) rfl dX6_addChunk_111 ?_
        refine lv_iload_n hx hb dX6_addChunk_114 rfl (lv_at hl 0 rfl) ?_
        refine lv_bipush (v := 32) hx hb dX6_addChunk_115 (by decide) ?_
        refine lv_idiv hx hb dX6_addChunk_117 (by decide) ?_
        refine lv_topi (fun z117 e_z117 => ?_)
        have b_ := zdiv rfl zk_32 e_z117 (by omega) (by decide)
        refine lv_iadd hx hb dX6_addChunk_118 ?_
        refine lv_topi (fun z118 e_z118 => ?_)
        have b_ := zadd rfl rfl e_z118 (by omega) (by omega)
        have b_ : 0 ≤ z118.toInt ∧ z118.toInt ≤ 1250 := ⟨by omega, by omega⟩
        refine va_put (D := (dC, dI)) (ci := 6) (v := .int z118) (ty := .int) (C := RX6) (T := TX6) (N := 12) hx hb hG zuX6 tyX6 tyX6_ok nmX6 hown hK hP hD hS 0 rfl rfl 9 (by decide) (hG _ zv257) (fun _ h9 => h9) rfl (by decide +kernel) rfl rfl (Nat.le_of_ble_eq_true rfl) dX6_addChunk_119 (fun H locs hP hD hS => ?_)
        have hP : va_P (dC, dI) vwCl [(h0, .inr (6, mX6 h1 h2 h3 h4 h5 h6 h7 h8 (upd (upd v0 8 z105) 9 z118))), (h1, zi k1 1250 f1), (h5, zi k5 400 f_75), (h3, zi k3 833 f_98), (h2, zi k2 833 f_88), (h4, zi k4 400 f4)] H := hP
        have hD : va_D A [(h0, .inr (6, mX6 h1 h2 h3 h4 h5 h6 h7 h8 (upd (upd v0 8 z105) 9 z118))), (h1, zi k1 1250 f1), (h5, zi k5 400 f_75), (h3, zi k3 833 f_98), (h2, zi k2 833 f_88), (h4, zi k4 400 f4)] := hD
        refine lv_aload_n hx hb dX6_addChunk_122 rfl (lv_at hl 1 rfl) ?_
        refine lv_dup hx hb dX6_addChunk_123 rfl ?_
        refine va_get (D := (dC, dI)) (ci := 6) (v := .int (v0 11)) (C := RX6) (T := TX6) (N := 12) hx hb hG zuX6 hown hK hP 0 rfl rfl 11 (by decide) (hG _ zv259) (fun _ h9 => h9) rfl dX6_addChunk_124 ?_
        refine lv_iload_n hx hb dX6_addChunk_127 rfl (lv_at hl 0 rfl) ?_
        refine lv_bipush (v := 16) hx hb dX6_addChunk_128 (by decide) ?_
        refine lv_iadd hx hb dX6_addChunk_130 ?_
        refine lv_topi (fun z130 e_z130 => ?_)
        have b_ := zadd rfl zk_16 e_z130 (by omega) (by omega)
        have b_ : -2147483648 ≤ (v0 11).toInt ∧ (v0 11).toInt ≤ 2147483647 := ⟨zlo _, zhi _⟩
        refine lv_iadd hx hb dX6_addChunk_131 ?_
        refine lv_topi (fun z131 e_z131 => ?_)
        refine va_put (D := (dC, dI)) (ci := 6) (v := .int z131) (ty := .int) (C := RX6) (T := TX6) (N := 12) hx hb hG zuX6 tyX6 tyX6_ok nmX6 hown hK hP hD hS 0 rfl rfl 11 (by decide) (hG _ zv259) (fun _ h9 => h9) rfl (by decide +kernel) rfl rfl (Nat.le_of_ble_eq_true rfl) dX6_addChunk_132 (fun H locs hP hD hS => ?_)
        have hP : va_P (dC, dI) vwCl [(h0, .inr (6, mX6 h1 h2 h3 h4 h5 h6 h7 h8 (upd (upd (upd v0 8 z105) 9 z118) 11 z131))), (h1, zi k1 1250 f1), (h5, zi k5 400 f_75), (h3, zi k3 833 f_98), (h2, zi k2 833 f_88), (h4, zi k4 400 f4)] H := hP
        have hD : va_D A [(h0, .inr (6, mX6 h1 h2 h3 h4 h5 h6 h7 h8 (upd (upd (upd v0 8 z105) 9 z118) 11 z131))), (h1, zi k1 1250 f1), (h5, zi k5 400 f_75), (h3, zi k3 833 f_98), (h2, zi k2 833 f_88), (h4, zi k4 400 f4)] := hD
        refine lv_iconst (v := 1) hx hb dX6_addChunk_135 (by decide) ?_
        refine W.widen (k := 0) (n := 0) (by decide) (by decide) ?_
        have b_ : -2147483648 ≤ z131.toInt ∧ z131.toInt ≤ 2147483647 := ⟨zlo _, zhi _⟩
        have hpost : (0 ≤ (1 : Int32).toInt ∧ (1 : Int32).toInt ≤ 1) ∧ (0 ≤ z105.toInt ∧ z105.toInt ≤ 833) ∧ (0 ≤ z118.toInt ∧ z118.toInt ≤ 1250) ∧ ((1 : Int32).toInt = 1 → zBs x2.toInt (32 * (z118.toInt - (v0 9).toInt))) ∧ ((1 : Int32).toInt = 1 → z105.toInt = (v0 8).toInt + 1) ∧ ((1 : Int32).toInt = 0 → z118.toInt = (v0 9).toInt ∧ z105.toInt = (v0 8).toInt) ∧ ((1 : Int32).toInt = (1 : Int32).toInt) := ⟨⟨by omega, by omega⟩, ⟨by omega, by omega⟩, ⟨by omega, by omega⟩, by intro _; have q := hX1_0 (by omega); unfold zBs at q ⊢; omega, by omega, by omega, rfl⟩
        have hP9 : va_P (dC, dI) vwCl [(h0, .inr (6, mX6 h1 h2 h3 h4 h5 h6 h7 h8 (upd (upd (upd v0 8 z105) 9 z118) 11 z131))), (h1, zi k1 1250 f1), (h5, zi k5 400 f_75), (h3, zi k3 833 f_98), (h2, zi k2 833 f_88), (h4, zi k4 400 f4)] H := hP
        have hD9 : va_D A [(h0, .inr (6, mX6 h1 h2 h3 h4 h5 h6 h7 h8 (upd (upd (upd v0 8 z105) 9 z118) 11 z131))), (h1, zi k1 1250 f1), (h5, zi k5 400 f_75), (h3, zi k3 833 f_98), (h2, zi k2 833 f_88), (h4, zi k4 400 f4)] := hD
        have hB0 : (1 : Int32).toInt = 1 → f_75 = upd f5 ((x1 : Int32)).toNatClampNeg (v0 8) ∧ f_88 = upd f2 (v0 8).toNatClampNeg (v0 9) := by first | (intro _; exact ⟨e_f_75, e_f_88⟩) | (intro q; exact absurd q (by decide))
        have hB1 : (1 : Int32).toInt = 0 → f_75 = f5 ∧ f_88 = f2 := by first | (intro _; exact ⟨rfl, rfl⟩) | (intro q; exact absurd q (by decide))
        exact W.zret (v := 1) hx hb hr rfl (fun t ht hW => ⟨⟨1, (fun i => ([z105, z118, z131, 1] : List (Int32)).getD i 0), rfl, hpost, (fun _ => 0), (fun i => ([f_75, f_98, f_88, f4] : List (Nat → Int32)).getD i (fun _ => 0)), (fun _ => (fun _ => 0)), hf_75, hf_88, hB0, hB1, by rw [ht]; exact hP9, va_K.moved hW.alike hK, hD9⟩, hS.F ht⟩) hS.2.2 dX6_addChunk_136
      · skip
        have b_ := zF_ne rfl zk_0 c_
        refine lv_aload_n hx hb dX6_addChunk_38 rfl (lv_at hl 1 rfl) ?_
        refine va_get (D := (dC, dI)) (ci := 6) (v := .ref h4) (C := RX6) (T := TX6) (N := 12) hx hb hG zuX6 hown hK hP 0 rfl rfl 3 (by decide) (hG _ zv251) (fun _ h9 => h9) rfl dX6_addChunk_39 ?_
        refine lv_iload_n hx hb dX6_addChunk_42 rfl (lv_at hl 2 rfl) ?_
        refine lv_aload_n hx hb dX6_addChunk_43 rfl (lv_at hl 1 rfl) ?_
        refine va_get (D := (dC, dI)) (ci := 6) (v := .int (v0 8)) (C := RX6) (T := TX6) (N := 12) hx hb hG zuX6 hown hK hP 0 rfl rfl 8 (by decide) (hG _ zv256) (fun _ h9 => h9) rfl dX6_addChunk_44 ?_
        refine va_iast hx hb hK hP hD hS 5 4 rfl rfl (zin_lit ⟨by omega, by omega⟩) dX6_addChunk_47 (fun H locs hP hD hS => ?_)
        obtain ⟨f_47, e_f_47⟩ : ∃ z : Nat → Int32, z = upd f4 (x1 : Int32).toNatClampNeg (v0 8) := ⟨_, rfl⟩
        have hP : va_P (dC, dI) vwCl [(h0, .inr (6, mX6 h1 h2 h3 h4 h5 h6 h7 h8 v0)), (h1, zi k1 1250 f1), (h5, zi k5 400 f5), (h3, zi k3 833 f3), (h2, zi k2 833 f2), (h4, zi k4 400 f_47)] H := by rw [e_f_47]; exact hP
        have hD : va_D A [(h0, .inr (6, mX6 h1 h2 h3 h4 h5 h6 h7 h8 v0)), (h1, zi k1 1250 f1), (h5, zi k5 400 f5), (h3, zi k3 833 f3), (h2, zi k2 833 f2), (h4, zi k4 400 f_47)] := by rw [e_f_47]; exact hD
        refine lv_goto (tgt := 66) hx hb dX6_addChunk_48 (by decide) ?_
        refine lv_aload_n hx hb dX6_addChunk_66 rfl (lv_at hl 1 rfl) ?_
        refine va_get (D := (dC, dI)) (ci := 6) (v := .ref h5) (C := RX6) (T := TX6) (N := 12) hx hb hG zuX6 hown hK hP 0 rfl rfl 4 (by decide) (hG _ zv252) (fun _ h9 => h9) rfl dX6_addChunk_67 ?_
        refine lv_iload_n hx hb dX6_addChunk_70 rfl (lv_at hl 2 rfl) ?_
        refine lv_aload_n hx hb dX6_addChunk_71 rfl (lv_at hl 1 rfl) ?_
        refine va_get (D := (dC, dI)) (ci := 6) (v := .int (v0 8)) (C := RX6) (T := TX6) (N := 12) hx hb hG zuX6 hown hK hP 0 rfl rfl 8 (by decide) (hG _ zv256) (fun _ h9 => h9) rfl dX6_addChunk_72 ?_
        refine va_iast hx hb hK hP hD hS 2 1 rfl rfl (zin_lit ⟨by omega, by omega⟩) dX6_addChunk_75 (fun H locs hP hD hS => ?_)
        obtain ⟨f_75, e_f_75⟩ : ∃ z : Nat → Int32, z = upd f5 (x1 : Int32).toNatClampNeg (v0 8) := ⟨_, rfl⟩
        have hP : va_P (dC, dI) vwCl [(h0, .inr (6, mX6 h1 h2 h3 h4 h5 h6 h7 h8 v0)), (h1, zi k1 1250 f1), (h5, zi k5 400 f_75), (h3, zi k3 833 f3), (h2, zi k2 833 f2), (h4, zi k4 400 f_47)] H := by rw [e_f_75]; exact hP
        have hD : va_D A [(h0, .inr (6, mX6 h1 h2 h3 h4 h5 h6 h7 h8 v0)), (h1, zi k1 1250 f1), (h5, zi k5 400 f_75), (h3, zi k3 833 f3), (h2, zi k2 833 f2), (h4, zi k4 400 f_47)] := by rw [e_f_75]; exact hD
        have hf_75 : zA 0 832 f_75 := by rw [e_f_75]; exact zA_upd hf5 (show 0 ≤ ((v0 8) : Int32).toInt from by omega) (show ((v0 8) : Int32).toInt ≤ 832 from by omega)
        refine lv_aload_n hx hb dX6_addChunk_76 rfl (lv_at hl 1 rfl) ?_
        refine va_get (D := (dC, dI)) (ci := 6) (v := .ref h2) (C := RX6) (T := TX6) (N := 12) hx hb hG zuX6 hown hK hP 0 rfl rfl 1 (by decide) (hG _ zv249) (fun _ h9 => h9) rfl dX6_addChunk_77 ?_
        refine lv_aload_n hx hb dX6_addChunk_80 rfl (lv_at hl 1 rfl) ?_
        refine va_get (D := (dC, dI)) (ci := 6) (v := .int (v0 8)) (C := RX6) (T := TX6) (N := 12) hx hb hG zuX6 hown hK hP 0 rfl rfl 8 (by decide) (hG _ zv256) (fun _ h9 => h9) rfl dX6_addChunk_81 ?_
        refine lv_aload_n hx hb dX6_addChunk_84 rfl (lv_at hl 1 rfl) ?_
        refine va_get (D := (dC, dI)) (ci := 6) (v := .int (v0 9)) (C := RX6) (T := TX6) (N := 12) hx hb hG zuX6 hown hK hP 0 rfl rfl 9 (by decide) (hG _ zv257) (fun _ h9 => h9) rfl dX6_addChunk_85 ?_
        refine va_iast hx hb hK hP hD hS 4 3 rfl rfl (zin_lit ⟨by omega, by omega⟩) dX6_addChunk_88 (fun H locs hP hD hS => ?_)
        obtain ⟨f_88, e_f_88⟩ : ∃ z : Nat → Int32, z = upd f2 ((v0 8) : Int32).toNatClampNeg (v0 9) := ⟨_, rfl⟩
        have hP : va_P (dC, dI) vwCl [(h0, .inr (6, mX6 h1 h2 h3 h4 h5 h6 h7 h8 v0)), (h1, zi k1 1250 f1), (h5, zi k5 400 f_75), (h3, zi k3 833 f3), (h2, zi k2 833 f_88), (h4, zi k4 400 f_47)] H := by rw [e_f_88]; exact hP
        have hD : va_D A [(h0, .inr (6, mX6 h1 h2 h3 h4 h5 h6 h7 h8 v0)), (h1, zi k1 1250 f1), (h5, zi k5 400 f_75), (h3, zi k3 833 f3), (h2, zi k2 833 f_88), (h4, zi k4 400 f_47)] := by rw [e_f_88]; exact hD
        have hf_88 : zA 0 1250 f_88 := by rw [e_f_88]; exact zA_upd hf2 (show 0 ≤ ((v0 9) : Int32).toInt from by omega) (show ((v0 9) : Int32).toInt ≤ 1250 from by omega)
        refine lv_aload_n hx hb dX6_addChunk_89 rfl (lv_at hl 1 rfl) ?_
        refine va_get (D := (dC, dI)) (ci := 6) (v := .ref h3) (C := RX6) (T := TX6) (N := 12) hx hb hG zuX6 hown hK hP 0 rfl rfl 2 (by decide) (hG _ zv250) (fun _ h9 => h9) rfl dX6_addChunk_90 ?_
        refine lv_aload_n hx hb dX6_addChunk_93 rfl (lv_at hl 1 rfl) ?_
        refine va_get (D := (dC, dI)) (ci := 6) (v := .int (v0 8)) (C := RX6) (T := TX6) (N := 12) hx hb hG zuX6 hown hK hP 0 rfl rfl 8 (by decide) (hG _ zv256) (fun _ h9 => h9) rfl dX6_addChunk_94 ?_
        refine lv_iconst (v := (-1)) hx hb dX6_addChunk_97 (by decide) ?_
        refine va_iast hx hb hK hP hD hS 3 2 rfl rfl (zin_lit ⟨by omega, by omega⟩) dX6_addChunk_98 (fun H locs hP hD hS => ?_)
        obtain ⟨f_98, e_f_98⟩ : ∃ z : Nat → Int32, z = upd f3 ((v0 8) : Int32).toNatClampNeg (-1) := ⟨_, rfl⟩
        have hP : va_P (dC, dI) vwCl [(h0, .inr (6, mX6 h1 h2 h3 h4 h5 h6 h7 h8 v0)), (h1, zi k1 1250 f1), (h5, zi k5 400 f_75), (h3, zi k3 833 f_98), (h2, zi k2 833 f_88), (h4, zi k4 400 f_47)] H := by rw [e_f_98]; exact hP
        have hD : va_D A [(h0, .inr (6, mX6 h1 h2 h3 h4 h5 h6 h7 h8 v0)), (h1, zi k1 1250 f1), (h5, zi k5 400 f_75), (h3, zi k3 833 f_98), (h2, zi k2 833 f_88), (h4, zi k4 400 f_47)] := by rw [e_f_98]; exact hD
        refine lv_aload_n hx hb dX6_addChunk_99 rfl (lv_at hl 1 rfl) ?_
        refine lv_dup hx hb dX6_addChunk_100 rfl ?_
        refine va_get (D := (dC, dI)) (ci := 6) (v := .int (v0 8)) (C := RX6) (T := TX6) (N := 12) hx hb hG zuX6 hown hK hP 0 rfl rfl 8 (by decide) (hG _ zv256) (fun _ h9 => h9) rfl dX6_addChunk_101 ?_
        refine lv_iconst (v := 1) hx hb dX6_addChunk_104 (by decide) ?_
        refine lv_iadd hx hb dX6_addChunk_105 ?_
        refine lv_topi (fun z105 e_z105 => ?_)
        have b_ := zadd rfl zk_1 e_z105 (by omega) (by omega)
        refine va_put (D := (dC, dI)) (ci := 6) (v := .int z105) (ty := .int) (C := RX6) (T := TX6) (N := 12) hx hb hG zuX6 tyX6 tyX6_ok nmX6 hown hK hP hD hS 0 rfl rfl 8 (by decide) (hG _ zv256) (fun _ h9 => h9) rfl (by decide +kernel) rfl rfl (Nat.le_of_ble_eq_true rfl) dX6_addChunk_106 (fun H locs hP hD hS => ?_)
        have hP : va_P (dC, dI) vwCl [(h0, .inr (6, mX6 h1 h2 h3 h4 h5 h6 h7 h8 (upd v0 8 z105))), (h1, zi k1 1250 f1), (h5, zi k5 400 f_75), (h3, zi k3 833 f_98), (h2, zi k2 833 f_88), (h4, zi k4 400 f_47)] H := hP
        have hD : va_D A [(h0, .inr (6, mX6 h1 h2 h3 h4 h5 h6 h7 h8 (upd v0 8 z105))), (h1, zi k1 1250 f1), (h5, zi k5 400 f_75), (h3, zi k3 833 f_98), (h2, zi k2 833 f_88), (h4, zi k4 400 f_47)] := hD
        refine lv_aload_n hx hb dX6_addChunk_109 rfl (lv_at hl 1 rfl) ?_
        refine lv_dup hx hb dX6_addChunk_110 rfl ?_
        refine va_get (D := (dC, dI)) (ci := 6) (v := .int (v0 9)) (C := RX6) (T := TX6) (N := 12) hx hb hG zuX6 hown hK hP 0 rfl rfl 9 (by decide) (hG _ zv257) (fun _ h9 => h9) rfl dX6_addChunk_111 ?_
        refine lv_iload_n hx hb dX6_addChunk_114 rfl (lv_at hl 0 rfl) ?_
        refine lv_bipush (v := 32) hx hb dX6_addChunk_115 (by decide) ?_
        refine lv_idiv hx hb dX6_addChunk_117 (by decide) ?_
        refine lv_topi (fun z117 e_z117 => ?_)
        have b_ := zdiv rfl zk_32 e_z117 (by omega) (by decide)
        refine lv_iadd hx hb dX6_addChunk_118 ?_
        refine lv_topi (fun z118 e_z118 => ?_)
        have b_ := zadd rfl rfl e_z118 (by omega) (by omega)
        have b_ : 0 ≤ z118.toInt ∧ z118.toInt ≤ 1250 := ⟨by omega, by omega⟩
        refine va_put (D := (dC, dI)) (ci := 6) (v := .int z118) (ty := .int) (C := RX6) (T := TX6) (N := 12) hx hb hG zuX6 tyX6 tyX6_ok nmX6 hown hK hP hD hS 0 rfl rfl 9 (by decide) (hG _ zv257) (fun _ h9 => h9) rfl (by decide +kernel) rfl rfl (Nat.le_of_ble_eq_true rfl) dX6_addChunk_119 (fun H locs hP hD hS => ?_)
        have hP : va_P (dC, dI) vwCl [(h0, .inr (6, mX6 h1 h2 h3 h4 h5 h6 h7 h8 (upd (upd v0 8 z105) 9 z118))), (h1, zi k1 1250 f1), (h5, zi k5 400 f_75), (h3, zi k3 833 f_98), (h2, zi k2 833 f_88), (h4, zi k4 400 f_47)] H := hP
        have hD : va_D A [(h0, .inr (6, mX6 h1 h2 h3 h4 h5 h6 h7 h8 (upd (upd v0 8 z105) 9 z118))), (h1, zi k1 1250 f1), (h5, zi k5 400 f_75), (h3, zi k3 833 f_98), (h2, zi k2 833 f_88), (h4, zi k4 400 f_47)] := hD
        refine lv_aload_n hx hb dX6_addChunk_122 rfl (lv_at hl 1 rfl) ?_
        refine lv_dup hx hb dX6_addChunk_123 rfl ?_
        refine va_get (D := (dC, dI)) (ci := 6) (v := .int (v0 11)) (C := RX6) (T := TX6) (N := 12) hx hb hG zuX6 hown hK hP 0 rfl rfl 11 (by decide) (hG _ zv259) (fun _ h9 => h9) rfl dX6_addChunk_124 ?_
        refine lv_iload_n hx hb dX6_addChunk_127 rfl (lv_at hl 0 rfl) ?_
        refine lv_bipush (v := 16) hx hb dX6_addChunk_128 (by decide) ?_
        refine lv_iadd hx hb dX6_addChunk_130 ?_
        refine lv_topi (fun z130 e_z130 => ?_)
        have b_ := zadd rfl zk_16 e_z130 (by omega) (by omega)
        have b_ : -2147483648 ≤ (v0 11).toInt ∧ (v0 11).toInt ≤ 2147483647 := ⟨zlo _, zhi _⟩
        refine lv_iadd hx hb dX6_addChunk_131 ?_
        refine lv_topi (fun z131 e_z131 => ?_)
        refine va_put (D := (dC, dI)) (ci := 6) (v := .int z131) (ty := .int) (C := RX6) (T := TX6) (N := 12) hx hb hG zuX6 tyX6 tyX6_ok nmX6 hown hK hP hD hS 0 rfl rfl 11 (by decide) (hG _ zv259) (fun _ h9 => h9) rfl (by decide +kernel) rfl rfl (Nat.le_of_ble_eq_true rfl) dX6_addChunk_132 (fun H locs hP hD hS => ?_)
        have hP : va_P (dC, dI) vwCl [(h0, .inr (6, mX6 h1 h2 h3 h4 h5 h6 h7 h8 (upd (upd (upd v0 8 z105) 9 z118) 11 z131))), (h1, zi k1 1250 f1), (h5, zi k5 400 f_75), (h3, zi k3 833 f_98), (h2, zi k2 833 f_88), (h4, zi k4 400 f_47)] H := hP
        have hD : va_D A [(h0, .inr (6, mX6 h1 h2 h3 h4 h5 h6 h7 h8 (upd (upd (upd v0 8 z105) 9 z118) 11 z131))), (h1, zi k1 1250 f1), (h5, zi k5 400 f_75), (h3, zi k3 833 f_98), (h2, zi k2 833 f_88), (h4, zi k4 400 f_47)] := hD
        refine lv_iconst (v := 1) hx hb dX6_addChunk_135 (by decide) ?_
        refine W.widen (k := 0) (n := 0) (by decide) (by decide) ?_
        have b_ : -2147483648 ≤ z131.toInt ∧ z131.toInt ≤ 2147483647 := ⟨zlo _, zhi _⟩
        have hpost : (0 ≤ (1 : Int32).toInt ∧ (1 : Int32).toInt ≤ 1) ∧ (0 ≤ z105.toInt ∧ z105.toInt ≤ 833) ∧ (0 ≤ z118.toInt ∧ z118.toInt ≤ 1250) ∧ ((1 : Int32).toInt = 1 → zBs x2.toInt (32 * (z118.toInt - (v0 9).toInt))) ∧ ((1 : Int32).toInt = 1 → z105.toInt = (v0 8).toInt + 1) ∧ ((1 : Int32).toInt = 0 → z118.toInt = (v0 9).toInt ∧ z105.toInt = (v0 8).toInt) ∧ ((1 : Int32).toInt = (1 : Int32).toInt) := ⟨⟨by omega, by omega⟩, ⟨by omega, by omega⟩, ⟨by omega, by omega⟩, by intro _; have q := hX1_0 (by omega); unfold zBs at q ⊢; omega, by omega, by omega, rfl⟩
        have hP9 : va_P (dC, dI) vwCl [(h0, .inr (6, mX6 h1 h2 h3 h4 h5 h6 h7 h8 (upd (upd (upd v0 8 z105) 9 z118) 11 z131))), (h1, zi k1 1250 f1), (h5, zi k5 400 f_75), (h3, zi k3 833 f_98), (h2, zi k2 833 f_88), (h4, zi k4 400 f_47)] H := hP
        have hD9 : va_D A [(h0, .inr (6, mX6 h1 h2 h3 h4 h5 h6 h7 h8 (upd (upd (upd v0 8 z105) 9 z118) 11 z131))), (h1, zi k1 1250 f1), (h5, zi k5 400 f_75), (h3, zi k3 833 f_98), (h2, zi k2 833 f_88), (h4, zi k4 400 f_47)] := hD
        have hB0 : (1 : Int32).toInt = 1 → f_75 = upd f5 ((x1 : Int32)).toNatClampNeg (v0 8) ∧ f_88 = upd f2 (v0 8).toNatClampNeg (v0 9) := by first | (intro _; exact ⟨e_f_75, e_f_88⟩) | (intro q; exact absurd q (by decide))
        have hB1 : (1 : Int32).toInt = 0 → f_75 = f5 ∧ f_88 = f2 := by first | (intro _; exact ⟨rfl, rfl⟩) | (intro q; exact absurd q (by decide))
        exact W.zret (v := 1) hx hb hr rfl (fun t ht hW => ⟨⟨1, (fun i => ([z105, z118, z131, 1] : List (Int32)).getD i 0), rfl, hpost, (fun _ => 0), (fun i => ([f_75, f_98, f_88, f_47] : List (Nat → Int32)).getD i (fun _ => 0)), (fun _ => (fun _ => 0)), hf_75, hf_88, hB0, hB1, by rw [ht]; exact hP9, va_K.moved hW.alike hK, hD9⟩, hS.F ht⟩) hS.2.2 dX6_addChunk_136
    · skip
      have b_ := zF_le rfl zk_1250 c_
      refine lv_iconst (v := 0) hx hb dX6_addChunk_32 (by decide) ?_
      refine W.widen (k := 0) (n := 0) (by decide) (by decide) ?_
      have b_ : -2147483648 ≤ (v0 11).toInt ∧ (v0 11).toInt ≤ 2147483647 := ⟨zlo _, zhi _⟩
      have hpost : (0 ≤ (0 : Int32).toInt ∧ (0 : Int32).toInt ≤ 1) ∧ (0 ≤ (v0 8).toInt ∧ (v0 8).toInt ≤ 833) ∧ (0 ≤ (v0 9).toInt ∧ (v0 9).toInt ≤ 1250) ∧ ((0 : Int32).toInt = 1 → zBs x2.toInt (32 * ((v0 9).toInt - (v0 9).toInt))) ∧ ((0 : Int32).toInt = 1 → (v0 8).toInt = (v0 8).toInt + 1) ∧ ((0 : Int32).toInt = 0 → (v0 9).toInt = (v0 9).toInt ∧ (v0 8).toInt = (v0 8).toInt) ∧ ((0 : Int32).toInt = (0 : Int32).toInt) := ⟨⟨by omega, by omega⟩, ⟨by omega, by omega⟩, ⟨by omega, by omega⟩, by intro _; have q := hX1_0 (by omega); unfold zBs at q ⊢; omega, by omega, by omega, rfl⟩
      have hP9 : va_P (dC, dI) vwCl [(h0, .inr (6, mX6 h1 h2 h3 h4 h5 h6 h7 h8 (upd (upd (upd v0 8 (v0 8)) 9 (v0 9)) 11 (v0 11)))), (h1, zi k1 1250 f1), (h5, zi k5 400 f5), (h3, zi k3 833 f3), (h2, zi k2 833 f2), (h4, zi k4 400 f4)] H := hP
      have hD9 : va_D A [(h0, .inr (6, mX6 h1 h2 h3 h4 h5 h6 h7 h8 (upd (upd (upd v0 8 (v0 8)) 9 (v0 9)) 11 (v0 11)))), (h1, zi k1 1250 f1), (h5, zi k5 400 f5), (h3, zi k3 833 f3), (h2, zi k2 833 f2), (h4, zi k4 400 f4)] := hD
      have hB0 : (0 : Int32).toInt = 1 → f5 = upd f5 ((x1 : Int32)).toNatClampNeg (v0 8) ∧ f2 = upd f2 (v0 8).toNatClampNeg (v0 9) := by first | (intro _; exact ⟨e_f_75, e_f_88⟩) | (intro q; exact absurd q (by decide))
      have hB1 : (0 : Int32).toInt = 0 → f5 = f5 ∧ f2 = f2 := by first | (intro _; exact ⟨rfl, rfl⟩) | (intro q; exact absurd q (by decide))
      exact W.zret (v := 0) hx hb hr rfl (fun t ht hW => ⟨⟨0, (fun i => ([(v0 8), (v0 9), (v0 11), 0] : List (Int32)).getD i 0), rfl, hpost, (fun _ => 0), (fun i => ([f5, f3, f2, f4] : List (Nat → Int32)).getD i (fun _ => 0)), (fun _ => (fun _ => 0)), hf5, hf2, hB0, hB1, by rw [ht]; exact hP9, va_K.moved hW.alike hK, hD9⟩, hS.F ht⟩) hS.2.2 dX6_addChunk_33
set_option maxHeartbeats 8000000 in
set_option maxRecDepth 100000 in
theorem sX6_appendBit_0 (l : Launch) (dC : Nat → ClassId) (dI : Nat → Nat → Nat) (adK adV : Nat → Nat) (h0 : Nat) (h6 : Nat) (h5 : Nat) (h2 : Nat) (h1 : Nat) (h3 : Nat) (h4 : Nat) (h7 : Nat) (h8 : Nat) (k6 : ClassId) (k5 : ClassId) (k2 : ClassId) (k1 : ClassId) (k3 : ClassId) (k4 : ClassId) (sz : Nat) (v0 : Nat → Int32) (f6 : Nat → Int32) (f5 : Nat → Int32) (f2 : Nat → Int32) (f1 : Nat → Int32) (f3 : Nat → Int32) (f4 : Nat → Int32) (x1 : Int32) (x2 : Int32) (hv0 : zR rg_Postings v0) (hf5 : zA 0 832 f5) (hf2 : zA 0 1250 f2) (hp0_ : zPhi f2 f5 f6 (v0 9).toInt (v0 8).toInt) : Met l yX6_appendBit (zw yX6_appendBit cX6_appendBit 5 none) { frames := 2, cells := 0, slots := 0, locals := 43 } (zPc dC dI adK adV [.ref h0, .int x1, .int x2] sz [(h0, .inr (6, mX6 h1 h2 h3 h4 h5 h6 h7 h8 v0)), (h6, zi k6 400 f6), (h5, zi k5 400 f5), (h2, zi k2 833 f2), (h1, zi k1 1250 f1), (h3, zi k3 833 f3), (h4, zi k4 400 f4)] [(k6, .int), (k5, .int), (k2, .int), (k1, .int), (k3, .int), (k4, .int)]) (va_Qv (fun (u : Nat → Int32) => (0 ≤ (u 0).toInt ∧ (u 0).toInt ≤ 833) ∧ (0 ≤ (u 1).toInt ∧ (u 1).toInt ≤ 1250)) (fun (u : Nat → Int32) (t : State) => ∃ (ww : Nat → Int64) (aa : Nat → Nat → Int32) (bb : Nat → Nat → Int64), zA 0 832 (aa 1) ∧ zA 0 1250 (aa 2) ∧ (zPhi (aa 2) (aa 1) (aa 0) (u 1).toInt (u 0).toInt) ∧ va_P (dC, dI) vwCl [(h0, .inr (6, mX6 h1 h2 h3 h4 h5 h6 h7 h8 (upd (upd (upd (upd v0 8 (u 0)) 9 (u 1)) 10 (u 2)) 11 (u 3)))), (h6, zi k6 400 (aa 0)), (h5, zi k5 400 (aa 1)), (h2, zi k2 833 (aa 2)), (h1, zi k1 1250 (aa 3)), (h3, zi k3 833 (aa 4)), (h4, zi k4 400 (aa 5))] t.heap ∧ va_K (dC, dI) vwCl [(k6, .int), (k5, .int), (k2, .int), (k1, .int), (k3, .int), (k4, .int)] t ∧ va_D (va_A [(h0, .inr (6, mX6 h1 h2 h3 h4 h5 h6 h7 h8 v0)), (h6, zi k6 400 f6), (h5, zi k5 400 f5), (h2, zi k2 833 f2), (h1, zi k1 1250 f1), (h3, zi k3 833 f3), (h4, zi k4 400 f4)] sz) [(h0, .inr (6, mX6 h1 h2 h3 h4 h5 h6 h7 h8 (upd (upd (upd (upd v0 8 (u 0)) 9 (u 1)) 10 (u 2)) 11 (u 3)))), (h6, zi k6 400 (aa 0)), (h5, zi k5 400 (aa 1)), (h2, zi k2 833 (aa 2)), (h1, zi k1 1250 (aa 3)), (h3, zi k3 833 (aa 4)), (h4, zi k4 400 (aa 5))]) (va_A [(h0, .inr (6, mX6 h1 h2 h3 h4 h5 h6 h7 h8 v0)), (h6, zi k6 400 f6), (h5, zi k5 400 f5), (h2, zi k2 833 f2), (h1, zi k1 1250 f1), (h3, zi k3 833 f3), (h4, zi k4 400 f4)] sz)) 0 0 (va_A [(h0, .inr (6, mX6 h1 h2 h3 h4 h5 h6 h7 h8 v0)), (h6, zi k6 400 f6), (h5, zi k5 400 f5), (h2, zi k2 833 f2), (h1, zi k1 1250 f1), (h3, zi k3 833 f3), (h4, zi k4 400 f4)] sz) := by
  refine Met.ofW (cc := cX6_appendBit) (maxL := 5) (ret := none) (by decide) rfl ?_
  intro p e s m args below meth c s₁ B hml hv
  obtain ⟨rfl, hsz, hP, hK, hD0, hE, hZ⟩ := hv
  have hx := B.exec
  have hb := B.bytes
  have hr := B.returns
  have hG : ∀ w ∈ zG, w.before _ s = true := fun w h => atoms_spec (ws := (zw yX6_appendBit cX6_appendBit 5 none)) B.pre w (List.mem_cons_of_mem _ h)
  have hown : s.vm.findClass RX6 = some m.cls := findClass_of_methodNamed B.named
  have hlocks := B.notSynchronized

  subst hsz
  have hD := hD0.self (sz := s.heap.size)
  generalize hAe : va_A [(h0, .inr (6, mX6 h1 h2 h3 h4 h5 h6 h7 h8 v0)), (h6, zi k6 400 f6), (h5, zi k5 400 f5), (h2, zi k2 833 f2), (h1, zi k1 1250 f1), (h3, zi k3 833 f3), (h4, zi k4 400 f4)] s.heap.size = A at hD hZ ⊢
  have hA : ∀ q : Nat, s.heap.size ≤ q → A q := fun q h => by rw [← hAe]; exact Or.inr h
  have hS : va_S A s.heap s.heap [] := va_S.rf
  have hl := lv_entry ([.ref h0, .int x1, .int x2]) (n := 5) (Nat.le_of_ble_eq_true rfl)
  rw [lg_entry_eq]
  generalize (lg_sl ([.ref h0, .int x1, .int x2]) ++ List.replicate (5 - (lg_sl ([.ref h0, .int x1, .int x2])).length) Slot.unset).toArray = ls at hl ⊢
  have hl : lv_has ls 5 [(0, .ref h0), (1, .int x1), (2, .int x2)] := hl
  have b_ : 0 ≤ (v0 9).toInt ∧ (v0 9).toInt ≤ 1250 := hv0 9
  have b_ : 0 ≤ (v0 8).toInt ∧ (v0 8).toInt ≤ 833 := hv0 8
  refine lv_iload_n hx hb dX6_appendBit_0 rfl (lv_at hl 1 rfl) ?_
  have hPc := hP.sub (ws' := []) [] rfl
  have hDc := hD.sub (ws' := []) [] (by decide) rfl
  have hKc := hK.sub (tys' := []) [] rfl
  have hFc := va_free (wc := []) hD hS hA [] rfl
  refine va_calli (va_runS (As := [.int x1]) (rest := []) ⟨hx, hb, hml, hown, hG⟩ (sX6_isId_0 l dC dI adK adV s.heap.size x1) (va_cwS 1 hG (zgS zv775 zv776 zv133 zv777) rfl rfl rfl (by decide +kernel) ⟨Nat.le_of_ble_eq_true rfl, Nat.le_of_ble_eq_true rfl⟩) ⟨zPc_blind, zPc_pre hPc hKc hDc hE hS hFc hZ⟩ rfl rfl hl.1 rfl (lv_room (Nat.le_of_ble_eq_true rfl)) dX6_appendBit_1 ⟨Nat.le_of_ble_eq_true rfl, Nat.le_of_ble_eq_true rfl⟩) hS (fun q _ h => hFc q h) hFc (fun r1_ u1_ t H1 locs ht hvm hw hB hz1 hk1 hS => ?_)
  replace hw : (0 ≤ r1_.toInt ∧ r1_.toInt ≤ 1) ∧ (r1_.toInt = 1 → (0 ≤ x1.toInt ∧ x1.toInt ≤ 399)) := hw
  obtain ⟨b_, hX1_0⟩ := hw
  obtain ⟨w1_, a1_, b1_, hP1, hK1, hD1⟩ := hB
  rw [ht] at hP1
  obtain ⟨hP, hD⟩ := va_join (wr := [(h0, .inr (6, mX6 h1 h2 h3 h4 h5 h6 h7 h8 v0)), (h6, zi k6 400 f6), (h5, zi k5 400 f5), (h2, zi k2 833 f2), (h1, zi k1 1250 f1), (h3, zi k3 833 f3), (h4, zi k4 400 f4)]) (w1 := []) hP hD [] [0, 1, 2, 3, 4, 5, 6] rfl rfl (by decide) (by decide) hk1 hFc hP1 hD1
  have hP : va_P (dC, dI) vwCl [(h0, .inr (6, mX6 h1 h2 h3 h4 h5 h6 h7 h8 v0)), (h6, zi k6 400 f6), (h5, zi k5 400 f5), (h2, zi k2 833 f2), (h1, zi k1 1250 f1), (h3, zi k3 833 f3), (h4, zi k4 400 f4)] H1 := hP.sub [0, 1, 2, 3, 4, 5, 6] rfl
  have hD : va_D A [(h0, .inr (6, mX6 h1 h2 h3 h4 h5 h6 h7 h8 v0)), (h6, zi k6 400 f6), (h5, zi k5 400 f5), (h2, zi k2 833 f2), (h1, zi k1 1250 f1), (h3, zi k3 833 f3), (h4, zi k4 400 f4)] := hD.sub [0, 1, 2, 3, 4, 5, 6] (by decide) rfl
  generalize H1 = H at hP hS ⊢
  clear hz1
  refine lv_if_ne (tgt := 8) hx hb dX6_appendBit_4 (by decide) (fun c_ => ?_) (fun c_ => ?_)
  · skip
    have b_ := zT_ne rfl zk_0 c_
    refine lv_aload_n hx hb dX6_appendBit_8 rfl (lv_at hl 0 rfl) ?_
    refine va_get (D := (dC, dI)) (ci := 6) (v := .ref h6) (C := RX6) (T := TX6) (N := 12) hx hb hG zuX6 hown hK hP 0 rfl rfl 5 (by decide) (hG _ zv253) (fun _ h9 => h9) rfl dX6_appendBit_9 ?_
    refine lv_iload_n hx hb dX6_appendBit_12 rfl (lv_at hl 1 rfl) ?_
    refine va_iald hx hb hK hP 1 0 rfl rfl (zin_lit ⟨by omega, by omega⟩) dX6_appendBit_13 ?_
    refine lv_topi (fun z13 e_z13 => ?_)
    have hid : (x1 : Int32).toNatClampNeg < 400 := by have q : (x1 : Int32).toNatClampNeg = x1.toInt.toNat := rfl; omega
    obtain ⟨c9, r9, s9, hch, hph⟩ := hp0_ (x1 : Int32).toNatClampNeg hid
    rw [← e_z13] at hch hph
    have hchi := zCh_in hch
    have b_ : 0 ≤ z13.toInt ∧ z13.toInt ≤ 40000 := by omega
    have hPc := hP.sub (ws' := []) [] rfl
    have hDc := hD.sub (ws' := []) [] (by decide) rfl
    have hKc := hK.sub (tys' := []) [] rfl
    have hFc := va_free (wc := []) hD hS hA [] rfl
    refine va_calli (va_runS (As := [.int z13]) (rest := []) ⟨hx, hb, hml, hown, hG⟩ (sX6_chunkOf_0 l dC dI adK adV H.size z13) (va_cwS 1 hG (zgS zv802 zv803 zv133 zv804) rfl rfl rfl (by decide +kernel) ⟨Nat.le_of_ble_eq_true rfl, Nat.le_of_ble_eq_true rfl⟩) ⟨zPc_blind, zPc_pre hPc hKc hDc hE hS hFc hZ⟩ rfl rfl hl.1 rfl (lv_room (Nat.le_of_ble_eq_true rfl)) dX6_appendBit_14 ⟨Nat.le_of_ble_eq_true rfl, Nat.le_of_ble_eq_true rfl⟩) hS (fun q _ h => hFc q h) hFc (fun r14_ u14_ t H1 locs ht hvm hw hB hz1 hk1 hS => ?_)
    replace hw : (0 ≤ r14_.toInt ∧ r14_.toInt ≤ 8388610) ∧ (0 ≤ z13.toInt → zCk z13.toInt r14_.toInt) := hw
    obtain ⟨b_, hX14_0⟩ := hw
    obtain ⟨w14_, a14_, b14_, hP1, hK1, hD1⟩ := hB
    rw [ht] at hP1
    obtain ⟨hP, hD⟩ := va_join (wr := [(h0, .inr (6, mX6 h1 h2 h3 h4 h5 h6 h7 h8 v0)), (h6, zi k6 400 f6), (h5, zi k5 400 f5), (h2, zi k2 833 f2), (h1, zi k1 1250 f1), (h3, zi k3 833 f3), (h4, zi k4 400 f4)]) (w1 := []) hP hD [] [0, 1, 2, 3, 4, 5, 6] rfl rfl (by decide) (by decide) hk1 hFc hP1 hD1
    have hP : va_P (dC, dI) vwCl [(h0, .inr (6, mX6 h1 h2 h3 h4 h5 h6 h7 h8 v0)), (h6, zi k6 400 f6), (h5, zi k5 400 f5), (h2, zi k2 833 f2), (h1, zi k1 1250 f1), (h3, zi k3 833 f3), (h4, zi k4 400 f4)] H1 := hP.sub [0, 1, 2, 3, 4, 5, 6] rfl
    have hD : va_D A [(h0, .inr (6, mX6 h1 h2 h3 h4 h5 h6 h7 h8 v0)), (h6, zi k6 400 f6), (h5, zi k5 400 f5), (h2, zi k2 833 f2), (h1, zi k1 1250 f1), (h3, zi k3 833 f3), (h4, zi k4 400 f4)] := hD.sub [0, 1, 2, 3, 4, 5, 6] (by decide) rfl
    generalize H1 = H at hP hS ⊢
    clear hz1
    have b14 : r14_.toInt = c9 := zCk_u (hX14_0 (by omega)) hch
    have b_ : 0 ≤ r14_.toInt ∧ r14_.toInt ≤ 200 := by omega
    refine lv_istore_n (lv' := [(3, .int r14_), (0, .ref h0), (1, .int x1), (2, .int x2)]) hx hb dX6_appendBit_17 rfl hl (by decide) rfl (fun ls hl => ?_)
    refine lv_aload_n hx hb dX6_appendBit_18 rfl (lv_at hl 1 rfl) ?_
    refine va_get (D := (dC, dI)) (ci := 6) (v := .ref h6) (C := RX6) (T := TX6) (N := 12) hx hb hG zuX6 hown hK hP 0 rfl rfl 5 (by decide) (hG _ zv253) (fun _ h9 => h9) rfl dX6_appendBit_19 ?_
    refine lv_iload_n hx hb dX6_appendBit_22 rfl (lv_at hl 2 rfl) ?_
    refine va_iald hx hb hK hP 1 0 rfl rfl (zin_lit ⟨by omega, by omega⟩) dX6_appendBit_23 ?_
    refine lv_topi (fun z23 e_z23 => ?_)
    have e23 : z23 = z13 := e_z23.trans e_z13.symm
    have b_ : z23.toInt = z13.toInt := by rw [e23]
    refine lv_iload_n hx hb dX6_appendBit_24 rfl (lv_at hl 0 rfl) ?_
    have hPc := hP.sub (ws' := []) [] rfl
    have hDc := hD.sub (ws' := []) [] (by decide) rfl
    have hKc := hK.sub (tys' := []) [] rfl
    have hFc := va_free (wc := []) hD hS hA [] rfl
    refine va_calli (va_runS (As := [.int r14_]) (rest := [.int z23]) ⟨hx, hb, hml, hown, hG⟩ (sX6_roomOf_0 l dC dI adK adV H.size r14_) (va_cwS 1 hG (zgS zv805 zv806 zv133 zv807) rfl rfl rfl (by decide +kernel) ⟨Nat.le_of_ble_eq_true rfl, Nat.le_of_ble_eq_true rfl⟩) ⟨zPc_blind, zPc_pre hPc hKc hDc hE hS hFc hZ⟩ rfl rfl hl.1 rfl (lv_room (Nat.le_of_ble_eq_true rfl)) dX6_appendBit_25 ⟨Nat.le_of_ble_eq_true rfl, Nat.le_of_ble_eq_true rfl⟩) hS (fun q _ h => hFc q h) hFc (fun r25_ u25_ t H1 locs ht hvm hw hB hz1 hk1 hS => ?_)
    replace hw : (0 ≤ r14_.toInt → r14_.toInt ≤ 1000 → zRo r14_.toInt r25_.toInt) := hw
    have hX25_0 := hw
    obtain ⟨w25_, a25_, b25_, hP1, hK1, hD1⟩ := hB
    rw [ht] at hP1
    obtain ⟨hP, hD⟩ := va_join (wr := [(h0, .inr (6, mX6 h1 h2 h3 h4 h5 h6 h7 h8 v0)), (h6, zi k6 400 f6), (h5, zi k5 400 f5), (h2, zi k2 833 f2), (h1, zi k1 1250 f1), (h3, zi k3 833 f3), (h4, zi k4 400 f4)]) (w1 := []) hP hD [] [0, 1, 2, 3, 4, 5, 6] rfl rfl (by decide) (by decide) hk1 hFc hP1 hD1
    have hP : va_P (dC, dI) vwCl [(h0, .inr (6, mX6 h1 h2 h3 h4 h5 h6 h7 h8 v0)), (h6, zi k6 400 f6), (h5, zi k5 400 f5), (h2, zi k2 833 f2), (h1, zi k1 1250 f1), (h3, zi k3 833 f3), (h4, zi k4 400 f4)] H1 := hP.sub [0, 1, 2, 3, 4, 5, 6] rfl
    have hD : va_D A [(h0, .inr (6, mX6 h1 h2 h3 h4 h5 h6 h7 h8 v0)), (h6, zi k6 400 f6), (h5, zi k5 400 f5), (h2, zi k2 833 f2), (h1, zi k1 1250 f1), (h3, zi k3 833 f3), (h4, zi k4 400 f4)] := hD.sub [0, 1, 2, 3, 4, 5, 6] (by decide) rfl
    generalize H1 = H at hP hS ⊢
    clear hz1
    have b25 : r25_.toInt = r9 := zRo_u (by rw [← b14]; exact hX25_0 (by omega) (by omega)) hch
    have b_ : 0 ≤ r25_.toInt ∧ r25_.toInt ≤ 40000 := by have q := hch.2.1; have q2 := hch.1; unfold zRo at q; unfold zCk at q2; omega
    have b_ : -2147483648 ≤ r25_.toInt ∧ r25_.toInt ≤ 2147483647 := ⟨zlo _, zhi _⟩
    refine lv_isub hx hb dX6_appendBit_28 ?_
    refine lv_topi (fun z28 e_z28 => ?_)
    have b_ := zsub rfl rfl e_z28 (by omega) (by omega)
    have b_ : 0 ≤ z28.toInt ∧ z28.toInt ≤ 255 := ⟨by omega, by omega⟩
    refine lv_istore (lv' := [(4, .int z28), (3, .int r14_), (0, .ref h0), (1, .int x1), (2, .int x2)]) hx hb dX6_appendBit_29 hl (by decide) rfl (fun ls hl => ?_)
    refine lv_iload hx hb dX6_appendBit_31 (lv_at hl 0 rfl) ?_
    refine lv_if_ne (tgt := 46) hx hb dX6_appendBit_33 (by decide) (fun c_ => ?_) (fun c_ => ?_)
    · skip
      have b_ := zT_ne rfl zk_0 c_
      refine lv_aload_n hx hb dX6_appendBit_46 rfl (lv_at hl 2 rfl) ?_
      refine va_get (D := (dC, dI)) (ci := 6) (v := .ref h1) (C := RX6) (T := TX6) (N := 12) hx hb hG zuX6 hown hK hP 0 rfl rfl 0 (by decide) (hG _ zv248) (fun _ h9 => h9) rfl dX6_appendBit_47 ?_
      refine lv_aload_n hx hb dX6_appendBit_50 rfl (lv_at hl 2 rfl) ?_
      refine va_get (D := (dC, dI)) (ci := 6) (v := .ref h2) (C := RX6) (T := TX6) (N := 12) hx hb hG zuX6 hown hK hP 0 rfl rfl 1 (by decide) (hG _ zv249) (fun _ h9 => h9) rfl dX6_appendBit_51 ?_
      refine lv_aload_n hx hb dX6_appendBit_54 rfl (lv_at hl 2 rfl) ?_
      refine va_get (D := (dC, dI)) (ci := 6) (v := .ref h5) (C := RX6) (T := TX6) (N := 12) hx hb hG zuX6 hown hK hP 0 rfl rfl 4 (by decide) (hG _ zv252) (fun _ h9 => h9) rfl dX6_appendBit_55 ?_
      refine lv_iload_n hx hb dX6_appendBit_58 rfl (lv_at hl 3 rfl) ?_
      refine va_iald hx hb hK hP 2 1 rfl rfl (zin_lit ⟨by omega, by omega⟩) dX6_appendBit_59 ?_
      refine lv_topi (fun z59 e_z59 => ?_)
      have b_ : 0 ≤ z59.toInt ∧ z59.toInt ≤ 832 := by rw [e_z59]; exact hf5 _
      have hph2 : r9 + s9 ≤ 32 * (v0 9).toInt ∧ 32 * (f2 (z59 : Int32).toNatClampNeg).toInt + s9 ≤ 32 * (v0 9).toInt ∧ z59.toInt < (v0 8).toInt := by rw [e_z59]; omega
      refine va_iald hx hb hK hP 3 2 rfl rfl (zin_lit ⟨by omega, by omega⟩) dX6_appendBit_60 ?_
      refine lv_topi (fun z60 e_z60 => ?_)
      have b_ : 0 ≤ z60.toInt ∧ z60.toInt ≤ 1250 := by rw [e_z60]; exact hf2 _
      have b_ : 32 * z60.toInt + s9 ≤ 32 * (v0 9).toInt := by rw [e_z60]; omega
      refine lv_iload hx hb dX6_appendBit_61 (lv_at hl 0 rfl) ?_
      refine lv_bipush (v := 32) hx hb dX6_appendBit_63 (by decide) ?_
      refine lv_idiv hx hb dX6_appendBit_65 (by decide) ?_
      refine lv_topi (fun z65 e_z65 => ?_)
      have b_ := zdiv rfl zk_32 e_z65 (by omega) (by decide)
      refine lv_iadd hx hb dX6_appendBit_66 ?_
      refine lv_topi (fun z66 e_z66 => ?_)
      have b_ := zadd rfl rfl e_z66 (by omega) (by omega)
      refine lv_dup2_11 hx hb dX6_appendBit_67 rfl rfl ?_
      refine va_iald hx hb hK hP 4 3 rfl rfl (zin_lit ⟨by omega, by omega⟩) dX6_appendBit_68 ?_
      refine lv_topi (fun z68 e_z68 => ?_)
      refine lv_iload_n hx hb dX6_appendBit_69 rfl (lv_at hl 4 rfl) ?_
      refine lv_bipush (v := 31) hx hb dX6_appendBit_70 (by decide) ?_
      refine lv_iload hx hb dX6_appendBit_72 (lv_at hl 0 rfl) ?_
      refine lv_bipush (v := 32) hx hb dX6_appendBit_74 (by decide) ?_
      refine lv_irem hx hb dX6_appendBit_76 (by decide) ?_
      refine lv_topi (fun z76 e_z76 => ?_)
      have b_ := zrem rfl zk_32 e_z76 (by omega) (by decide)
      refine lv_isub hx hb dX6_appendBit_77 ?_
      refine lv_topi (fun z77 e_z77 => ?_)
      have b_ := zsub zk_31 rfl e_z77 (by omega) (by omega)
      have b_ : -2147483648 ≤ x2.toInt ∧ x2.toInt ≤ 2147483647 := ⟨zlo _, zhi _⟩
      refine lv_ishl hx hb dX6_appendBit_78 ?_
      refine lv_topi (fun z78 e_z78 => ?_)
      have b_ : -2147483648 ≤ z68.toInt ∧ z68.toInt ≤ 2147483647 := ⟨zlo _, zhi _⟩
      have b_ : -2147483648 ≤ z78.toInt ∧ z78.toInt ≤ 2147483647 := ⟨zlo _, zhi _⟩
      refine lv_ior hx hb dX6_appendBit_79 ?_
      refine lv_topi (fun z79 e_z79 => ?_)
      refine va_iast hx hb hK hP hD hS 4 3 rfl rfl (zin_lit ⟨by omega, by omega⟩) dX6_appendBit_80 (fun H locs hP hD hS => ?_)
      obtain ⟨f_80, e_f_80⟩ : ∃ z : Nat → Int32, z = upd f1 (z66 : Int32).toNatClampNeg z79 := ⟨_, rfl⟩
      have hP : va_P (dC, dI) vwCl [(h0, .inr (6, mX6 h1 h2 h3 h4 h5 h6 h7 h8 v0)), (h6, zi k6 400 f6), (h5, zi k5 400 f5), (h2, zi k2 833 f2), (h1, zi k1 1250 f_80), (h3, zi k3 833 f3), (h4, zi k4 400 f4)] H := by rw [e_f_80]; exact hP
      have hD : va_D A [(h0, .inr (6, mX6 h1 h2 h3 h4 h5 h6 h7 h8 v0)), (h6, zi k6 400 f6), (h5, zi k5 400 f5), (h2, zi k2 833 f2), (h1, zi k1 1250 f_80), (h3, zi k3 833 f3), (h4, zi k4 400 f4)] := by rw [e_f_80]; exact hD
      refine lv_aload_n hx hb dX6_appendBit_81 rfl (lv_at hl 2 rfl) ?_
      refine va_get (D := (dC, dI)) (ci := 6) (v := .ref h6) (C := RX6) (T := TX6) (N := 12) hx hb hG zuX6 hown hK hP 0 rfl rfl 5 (by decide) (hG _ zv253) (fun _ h9 => h9) rfl dX6_appendBit_82 ?_
      refine lv_iload_n hx hb dX6_appendBit_85 rfl (lv_at hl 3 rfl) ?_
      refine lv_dup2_11 hx hb dX6_appendBit_86 rfl rfl ?_
      refine va_iald hx hb hK hP 1 0 rfl rfl (zin_lit ⟨by omega, by omega⟩) dX6_appendBit_87 ?_
      refine lv_topi (fun z87 e_z87 => ?_)
      have b_ : z87.toInt = z13.toInt := by rw [e_z87, e_z13]
      refine lv_iconst (v := 1) hx hb dX6_appendBit_88 (by decide) ?_
      refine lv_iadd hx hb dX6_appendBit_89 ?_
      refine lv_topi (fun z89 e_z89 => ?_)
      have b_ := zadd rfl zk_1 e_z89 (by omega) (by omega)
      refine va_iast hx hb hK hP hD hS 1 0 rfl rfl (zin_lit ⟨by omega, by omega⟩) dX6_appendBit_90 (fun H locs hP hD hS => ?_)
      obtain ⟨f_90, e_f_90⟩ : ∃ z : Nat → Int32, z = upd f6 (x1 : Int32).toNatClampNeg z89 := ⟨_, rfl⟩
      have hP : va_P (dC, dI) vwCl [(h0, .inr (6, mX6 h1 h2 h3 h4 h5 h6 h7 h8 v0)), (h6, zi k6 400 f_90), (h5, zi k5 400 f5), (h2, zi k2 833 f2), (h1, zi k1 1250 f_80), (h3, zi k3 833 f3), (h4, zi k4 400 f4)] H := by rw [e_f_90]; exact hP
      have hD : va_D A [(h0, .inr (6, mX6 h1 h2 h3 h4 h5 h6 h7 h8 v0)), (h6, zi k6 400 f_90), (h5, zi k5 400 f5), (h2, zi k2 833 f2), (h1, zi k1 1250 f_80), (h3, zi k3 833 f3), (h4, zi k4 400 f4)] := by rw [e_f_90]; exact hD
      refine lv_aload_n hx hb dX6_appendBit_91 rfl (lv_at hl 2 rfl) ?_
      refine lv_dup hx hb dX6_appendBit_92 rfl ?_
      refine va_get (D := (dC, dI)) (ci := 6) (v := .int (v0 10)) (C := RX6) (T := TX6) (N := 12) hx hb hG zuX6 hown hK hP 0 rfl rfl 10 (by decide) (hG _ zv258) (fun _ h9 => h9) rfl dX6_appendBit_93 ?_
      refine lv_iconst (v := 1) hx hb dX6_appendBit_96 (by decide) ?_
      have b_ : -2147483648 ≤ (v0 10).toInt ∧ (v0 10).toInt ≤ 2147483647 := ⟨zlo _, zhi _⟩
      refine lv_iadd hx hb dX6_appendBit_97 ?_
      refine lv_topi (fun z97 e_z97 => ?_)
      refine va_put (D := (dC, dI)) (ci := 6) (v := .int z97) (ty := .int) (C := RX6) (T := TX6) (N := 12) hx hb hG zuX6 tyX6 tyX6_ok nmX6 hown hK hP hD hS 0 rfl rfl 10 (by decide) (hG _ zv258) (fun _ h9 => h9) rfl (by decide +kernel) rfl rfl (Nat.le_of_ble_eq_true rfl) dX6_appendBit_98 (fun H locs hP hD hS => ?_)
      have hP : va_P (dC, dI) vwCl [(h0, .inr (6, mX6 h1 h2 h3 h4 h5 h6 h7 h8 (upd v0 10 z97))), (h6, zi k6 400 f_90), (h5, zi k5 400 f5), (h2, zi k2 833 f2), (h1, zi k1 1250 f_80), (h3, zi k3 833 f3), (h4, zi k4 400 f4)] H := hP
      have hD : va_D A [(h0, .inr (6, mX6 h1 h2 h3 h4 h5 h6 h7 h8 (upd v0 10 z97))), (h6, zi k6 400 f_90), (h5, zi k5 400 f5), (h2, zi k2 833 f2), (h1, zi k1 1250 f_80), (h3, zi k3 833 f3), (h4, zi k4 400 f4)] := hD
      have hphi : zPhi f2 f5 f_90 (v0 9).toInt (v0 8).toInt := by rw [e_f_90]; exact zPhi_A hp0_ (by rw [← e_z13]; exact hch) (by rw [← e_z13]; omega) (by omega) (by rw [← e_z59]; omega) (by rw [← e_z59]; omega) (show z89.toInt = (f6 (x1 : Int32).toNatClampNeg).toInt + 1 from by rw [← e_z13]; omega)
      refine W.widen (k := 0) (n := 0) (by decide) (by decide) ?_
      have b_ : -2147483648 ≤ z97.toInt ∧ z97.toInt ≤ 2147483647 := ⟨zlo _, zhi _⟩
      have b_ : -2147483648 ≤ (v0 11).toInt ∧ (v0 11).toInt ≤ 2147483647 := ⟨zlo _, zhi _⟩
      have hpost : (0 ≤ (v0 8).toInt ∧ (v0 8).toInt ≤ 833) ∧ (0 ≤ (v0 9).toInt ∧ (v0 9).toInt ≤ 1250) := ⟨⟨by omega, by omega⟩, ⟨by omega, by omega⟩⟩
      have hP9 : va_P (dC, dI) vwCl [(h0, .inr (6, mX6 h1 h2 h3 h4 h5 h6 h7 h8 (upd (upd (upd (upd v0 8 (v0 8)) 9 (v0 9)) 10 z97) 11 (v0 11)))), (h6, zi k6 400 f_90), (h5, zi k5 400 f5), (h2, zi k2 833 f2), (h1, zi k1 1250 f_80), (h3, zi k3 833 f3), (h4, zi k4 400 f4)] H := hP
      have hD9 : va_D A [(h0, .inr (6, mX6 h1 h2 h3 h4 h5 h6 h7 h8 (upd (upd (upd (upd v0 8 (v0 8)) 9 (v0 9)) 10 z97) 11 (v0 11)))), (h6, zi k6 400 f_90), (h5, zi k5 400 f5), (h2, zi k2 833 f2), (h1, zi k1 1250 f_80), (h3, zi k3 833 f3), (h4, zi k4 400 f4)] := hD
      have hB0 : zPhi f2 f5 f_90 (v0 9).toInt (v0 8).toInt := by assumption
      exact W.vret hx hb hr (fun t ht hW => ⟨⟨(fun i => ([(v0 8), (v0 9), z97, (v0 11)] : List (Int32)).getD i 0), rfl, hpost, (fun _ => 0), (fun i => ([f_90, f5, f2, f_80, f3, f4] : List (Nat → Int32)).getD i (fun _ => 0)), (fun _ => (fun _ => 0)), hf5, hf2, hB0, by rw [ht]; exact hP9, va_K.moved hW.alike hK, hD9⟩, hS.F ht⟩) hS.2.2 dX6_appendBit_101
    · skip
      have b_ := zF_ne rfl zk_0 c_
      refine lv_aload_n hx hb dX6_appendBit_36 rfl (lv_at hl 2 rfl) ?_
      refine lv_iload_n hx hb dX6_appendBit_37 rfl (lv_at hl 3 rfl) ?_
      refine lv_iload_n hx hb dX6_appendBit_38 rfl (lv_at hl 1 rfl) ?_
      have hPc := hP.sub (ws' := [(h0, .inr (6, mX6 h1 h2 h3 h4 h5 h6 h7 h8 v0)), (h1, zi k1 1250 f1), (h5, zi k5 400 f5), (h3, zi k3 833 f3), (h2, zi k2 833 f2), (h4, zi k4 400 f4)]) [0, 4, 2, 5, 3, 6] rfl
      have hDc := hD.sub (ws' := [(h0, .inr (6, mX6 h1 h2 h3 h4 h5 h6 h7 h8 v0)), (h1, zi k1 1250 f1), (h5, zi k5 400 f5), (h3, zi k3 833 f3), (h2, zi k2 833 f2), (h4, zi k4 400 f4)]) [0, 4, 2, 5, 3, 6] (by decide) rfl
      have hKc := hK.sub (tys' := [(k1, .int), (k5, .int), (k3, .int), (k2, .int), (k4, .int)]) [3, 1, 4, 2, 5] rfl
      have hFc := va_free (wc := [(h0, .inr (6, mX6 h1 h2 h3 h4 h5 h6 h7 h8 v0)), (h1, zi k1 1250 f1), (h5, zi k5 400 f5), (h3, zi k3 833 f3), (h2, zi k2 833 f2), (h4, zi k4 400 f4)]) hD hS hA [0, 4, 2, 5, 3, 6] rfl
      refine va_calli (va_runV (As := [.int x1, .int r14_]) (rest := []) ⟨hx, hb, hml, hown, hG⟩ (sX6_addChunk_0 l dC dI adK adV h0 h1 h5 h3 h2 h4 h6 h7 h8 k1 k5 k3 k2 k4 H.size v0 f1 f5 f3 f2 f4 x1 r14_ hv0 hf5 hf2 ⟨show (0 : Int) ≤ (x1 : Int32).toInt from by omega, show (x1 : Int32).toInt ≤ (399 : Int) from by omega⟩ ⟨show (0 : Int) ≤ (r14_ : Int32).toInt from by omega, show (r14_ : Int32).toInt ≤ (1000 : Int) from by omega⟩) (cwV 2 hG (zgV zv843 zv845 zv8 zv133 zv846) rfl rfl rfl (by decide +kernel) ⟨Nat.le_of_ble_eq_true rfl, Nat.le_of_ble_eq_true rfl⟩) ⟨zPc_blind, va_recv hKc hPc (ci := 6) (q0 := 0) rfl rfl, zPc_pre hPc hKc hDc hE hS hFc hZ⟩ rfl rfl hl.1 rfl (lv_room (Nat.le_of_ble_eq_true rfl)) dX6_appendBit_39 ⟨Nat.le_of_ble_eq_true rfl, Nat.le_of_ble_eq_true rfl⟩) hS (fun q _ h => hFc q h) hFc (fun r39_ u39_ t H1 locs ht hvm hw hB hz1 hk1 hS => ?_)
      replace hw : (0 ≤ r39_.toInt ∧ r39_.toInt ≤ 1) ∧ (0 ≤ (u39_ 0).toInt ∧ (u39_ 0).toInt ≤ 833) ∧ (0 ≤ (u39_ 1).toInt ∧ (u39_ 1).toInt ≤ 1250) ∧ (r39_.toInt = 1 → zBs r14_.toInt (32 * ((u39_ 1).toInt - (v0 9).toInt))) ∧ (r39_.toInt = 1 → (u39_ 0).toInt = (v0 8).toInt + 1) ∧ (r39_.toInt = 0 → (u39_ 1).toInt = (v0 9).toInt ∧ (u39_ 0).toInt = (v0 8).toInt) ∧ (r39_.toInt = (u39_ 3).toInt) := hw
      obtain ⟨b_, b_, b_, hX39_0, hX39_1, hX39_2, b_⟩ := hw
      obtain ⟨w39_, a39_, b39_, ha39_0, ha39_2, hB39_0, hB39_1, hP1, hK1, hD1⟩ := hB
      have hB39_0 : (u39_ 3).toInt = 1 → (a39_ 0) = upd f5 ((x1 : Int32)).toNatClampNeg (v0 8) ∧ (a39_ 2) = upd f2 (v0 8).toNatClampNeg (v0 9) := hB39_0
      have hB39_1 : (u39_ 3).toInt = 0 → (a39_ 0) = f5 ∧ (a39_ 2) = f2 := hB39_1
      rw [ht] at hP1
      obtain ⟨hP, hD⟩ := va_join (wr := [(h6, zi k6 400 f6)]) (w1 := [(h0, .inr (6, mX6 h1 h2 h3 h4 h5 h6 h7 h8 (upd (upd (upd v0 8 (u39_ 0)) 9 (u39_ 1)) 11 (u39_ 2)))), (h1, zi k1 1250 f1), (h5, zi k5 400 (a39_ 0)), (h3, zi k3 833 (a39_ 1)), (h2, zi k2 833 (a39_ 2)), (h4, zi k4 400 (a39_ 3))]) hP hD [0, 4, 2, 5, 3, 6] [1] rfl rfl (by decide) (by decide) hk1 hFc hP1 hD1
      have hP : va_P (dC, dI) vwCl [(h0, .inr (6, mX6 h1 h2 h3 h4 h5 h6 h7 h8 (upd (upd (upd v0 8 (u39_ 0)) 9 (u39_ 1)) 11 (u39_ 2)))), (h6, zi k6 400 f6), (h5, zi k5 400 (a39_ 0)), (h2, zi k2 833 (a39_ 2)), (h1, zi k1 1250 f1), (h3, zi k3 833 (a39_ 1)), (h4, zi k4 400 (a39_ 3))] H1 := hP.sub [1, 0, 3, 5, 2, 4, 6] rfl
      have hD : va_D A [(h0, .inr (6, mX6 h1 h2 h3 h4 h5 h6 h7 h8 (upd (upd (upd v0 8 (u39_ 0)) 9 (u39_ 1)) 11 (u39_ 2)))), (h6, zi k6 400 f6), (h5, zi k5 400 (a39_ 0)), (h2, zi k2 833 (a39_ 2)), (h1, zi k1 1250 f1), (h3, zi k3 833 (a39_ 1)), (h4, zi k4 400 (a39_ 3))] := hD.sub [1, 0, 3, 5, 2, 4, 6] (by decide) rfl
      generalize H1 = H at hP hS ⊢
      clear hz1
      refine lv_if_ne (tgt := 46) hx hb dX6_appendBit_42 (by decide) (fun c_ => ?_) (fun c_ => ?_)
      · skip
        have b_ := zT_ne rfl zk_0 c_
        refine lv_aload_n hx hb dX6_appendBit_46 rfl (lv_at hl 2 rfl) ?_
        refine va_get (D := (dC, dI)) (ci := 6) (v := .ref h1) (C := RX6) (T := TX6) (N := 12) hx hb hG zuX6 hown hK hP 0 rfl rfl 0 (by decide) (hG _ zv248) (fun _ h9 => h9) rfl dX6_appendBit_47 ?_
        refine lv_aload_n hx hb dX6_appendBit_50 rfl (lv_at hl 2 rfl) ?_
        refine va_get (D := (dC, dI)) (ci := 6) (v := .ref h2) (C := RX6) (T := TX6) (N := 12) hx hb hG zuX6 hown hK hP 0 rfl rfl 1 (by decide) (hG _ zv249) (fun _ h9 => h9) rfl dX6_appendBit_51 ?_
        refine lv_aload_n hx hb dX6_appendBit_54 rfl (lv_at hl 2 rfl) ?_
        refine va_get (D := (dC, dI)) (ci := 6) (v := .ref h5) (C := RX6) (T := TX6) (N := 12) hx hb hG zuX6 hown hK hP 0 rfl rfl 4 (by decide) (hG _ zv252) (fun _ h9 => h9) rfl dX6_appendBit_55 ?_
        refine lv_iload_n hx hb dX6_appendBit_58 rfl (lv_at hl 3 rfl) ?_
        refine va_iald hx hb hK hP 2 1 rfl rfl (zin_lit ⟨by omega, by omega⟩) dX6_appendBit_59 ?_
        refine lv_topi (fun z59 e_z59 => ?_)
        have b_ : 0 ≤ z59.toInt ∧ z59.toInt ≤ 832 := by rw [e_z59]; exact ha39_0 _
        have hB1 := hB39_0 (by omega)
        have e59 : z59 = (v0 8) := by rw [e_z59, hB1.1]; exact pk_us
        refine va_iald hx hb hK hP 3 2 rfl rfl (zin_lit ⟨by omega, by omega⟩) dX6_appendBit_60 ?_
        refine lv_topi (fun z60 e_z60 => ?_)
        have b_ : 0 ≤ z60.toInt ∧ z60.toInt ≤ 1250 := by rw [e_z60]; exact ha39_2 _
        have e60 : z60 = (v0 9) := by rw [e_z60, e59, hB1.2]; exact pk_us
        have b_ : z60.toInt = (v0 9).toInt := by rw [e60]
        have b39 := zBs_u (by rw [← b14]; exact hX39_0 (by omega)) hch
        refine lv_iload hx hb dX6_appendBit_61 (lv_at hl 0 rfl) ?_
        refine lv_bipush (v := 32) hx hb dX6_appendBit_63 (by decide) ?_
        refine lv_idiv hx hb dX6_appendBit_65 (by decide) ?_
        refine lv_topi (fun z65 e_z65 => ?_)
        have b_ := zdiv rfl zk_32 e_z65 (by omega) (by decide)
        refine lv_iadd hx hb dX6_appendBit_66 ?_
        refine lv_topi (fun z66 e_z66 => ?_)
        have b_ := zadd rfl rfl e_z66 (by omega) (by omega)
        refine lv_dup2_11 hx hb dX6_appendBit_67 rfl rfl ?_
        refine va_iald hx hb hK hP 4 3 rfl rfl (zin_lit ⟨by omega, by omega⟩) dX6_appendBit_68 ?_
        refine lv_topi (fun z68 e_z68 => ?_)
        refine lv_iload_n hx hb dX6_appendBit_69 rfl (lv_at hl 4 rfl) ?_
        refine lv_bipush (v := 31) hx hb dX6_appendBit_70 (by decide) ?_
        refine lv_iload hx hb dX6_appendBit_72 (lv_at hl 0 rfl) ?_
        refine lv_bipush (v := 32) hx hb dX6_appendBit_74 (by decide) ?_
        refine lv_irem hx hb dX6_appendBit_76 (by decide) ?_
        refine lv_topi (fun z76 e_z76 => ?_)
        have b_ := zrem rfl zk_32 e_z76 (by omega) (by decide)
        refine lv_isub hx hb dX6_appendBit_77 ?_
        refine lv_topi (fun z77 e_z77 => ?_)
        have b_ := zsub zk_31 rfl e_z77 (by omega) (by omega)
        have b_ : -2147483648 ≤ x2.toInt ∧ x2.toInt ≤ 2147483647 := ⟨zlo _, zhi _⟩
        refine lv_ishl hx hb dX6_appendBit_78 ?_
        refine lv_topi (fun z78 e_z78 => ?_)
        have b_ : -2147483648 ≤ z68.toInt ∧ z68.toInt ≤ 2147483647 := ⟨zlo _, zhi _⟩
        have b_ : -2147483648 ≤ z78.toInt ∧ z78.toInt ≤ 2147483647 := ⟨zlo _, zhi _⟩
        refine lv_ior hx hb dX6_appendBit_79 ?_
        refine lv_topi (fun z79 e_z79 => ?_)
        refine va_iast hx hb hK hP hD hS 4 3 rfl rfl (zin_lit ⟨by omega, by omega⟩) dX6_appendBit_80 (fun H locs hP hD hS => ?_)
        obtain ⟨f_80, e_f_80⟩ : ∃ z : Nat → Int32, z = upd f1 (z66 : Int32).toNatClampNeg z79 := ⟨_, rfl⟩
        have hP : va_P (dC, dI) vwCl [(h0, .inr (6, mX6 h1 h2 h3 h4 h5 h6 h7 h8 (upd (upd (upd v0 8 (u39_ 0)) 9 (u39_ 1)) 11 (u39_ 2)))), (h6, zi k6 400 f6), (h5, zi k5 400 (a39_ 0)), (h2, zi k2 833 (a39_ 2)), (h1, zi k1 1250 f_80), (h3, zi k3 833 (a39_ 1)), (h4, zi k4 400 (a39_ 3))] H := by rw [e_f_80]; exact hP
        have hD : va_D A [(h0, .inr (6, mX6 h1 h2 h3 h4 h5 h6 h7 h8 (upd (upd (upd v0 8 (u39_ 0)) 9 (u39_ 1)) 11 (u39_ 2)))), (h6, zi k6 400 f6), (h5, zi k5 400 (a39_ 0)), (h2, zi k2 833 (a39_ 2)), (h1, zi k1 1250 f_80), (h3, zi k3 833 (a39_ 1)), (h4, zi k4 400 (a39_ 3))] := by rw [e_f_80]; exact hD
        refine lv_aload_n hx hb dX6_appendBit_81 rfl (lv_at hl 2 rfl) ?_
        refine va_get (D := (dC, dI)) (ci := 6) (v := .ref h6) (C := RX6) (T := TX6) (N := 12) hx hb hG zuX6 hown hK hP 0 rfl rfl 5 (by decide) (hG _ zv253) (fun _ h9 => h9) rfl dX6_appendBit_82 ?_
        refine lv_iload_n hx hb dX6_appendBit_85 rfl (lv_at hl 3 rfl) ?_
        refine lv_dup2_11 hx hb dX6_appendBit_86 rfl rfl ?_
        refine va_iald hx hb hK hP 1 0 rfl rfl (zin_lit ⟨by omega, by omega⟩) dX6_appendBit_87 ?_
        refine lv_topi (fun z87 e_z87 => ?_)
        have b_ : z87.toInt = z13.toInt := by rw [e_z87, e_z13]
        refine lv_iconst (v := 1) hx hb dX6_appendBit_88 (by decide) ?_
        refine lv_iadd hx hb dX6_appendBit_89 ?_
        refine lv_topi (fun z89 e_z89 => ?_)
        have b_ := zadd rfl zk_1 e_z89 (by omega) (by omega)
        refine va_iast hx hb hK hP hD hS 1 0 rfl rfl (zin_lit ⟨by omega, by omega⟩) dX6_appendBit_90 (fun H locs hP hD hS => ?_)
        obtain ⟨f_90, e_f_90⟩ : ∃ z : Nat → Int32, z = upd f6 (x1 : Int32).toNatClampNeg z89 := ⟨_, rfl⟩
        have hP : va_P (dC, dI) vwCl [(h0, .inr (6, mX6 h1 h2 h3 h4 h5 h6 h7 h8 (upd (upd (upd v0 8 (u39_ 0)) 9 (u39_ 1)) 11 (u39_ 2)))), (h6, zi k6 400 f_90), (h5, zi k5 400 (a39_ 0)), (h2, zi k2 833 (a39_ 2)), (h1, zi k1 1250 f_80), (h3, zi k3 833 (a39_ 1)), (h4, zi k4 400 (a39_ 3))] H := by rw [e_f_90]; exact hP
        have hD : va_D A [(h0, .inr (6, mX6 h1 h2 h3 h4 h5 h6 h7 h8 (upd (upd (upd v0 8 (u39_ 0)) 9 (u39_ 1)) 11 (u39_ 2)))), (h6, zi k6 400 f_90), (h5, zi k5 400 (a39_ 0)), (h2, zi k2 833 (a39_ 2)), (h1, zi k1 1250 f_80), (h3, zi k3 833 (a39_ 1)), (h4, zi k4 400 (a39_ 3))] := by rw [e_f_90]; exact hD
        refine lv_aload_n hx hb dX6_appendBit_91 rfl (lv_at hl 2 rfl) ?_
        refine lv_dup hx hb dX6_appendBit_92 rfl ?_
        refine va_get (D := (dC, dI)) (ci := 6) (v := .int (v0 10)) (C := RX6) (T := TX6) (N := 12) hx hb hG zuX6 hown hK hP 0 rfl rfl 10 (by decide) (hG _ zv258) (fun _ h9 => h9) rfl dX6_appendBit_93 ?_
        refine lv_iconst (v := 1) hx hb dX6_appendBit_96 (by decide) ?_
        have b_ : -2147483648 ≤ (v0 10).toInt ∧ (v0 10).toInt ≤ 2147483647 := ⟨zlo _, zhi _⟩
        refine lv_iadd hx hb dX6_appendBit_97 ?_
        refine lv_topi (fun z97 e_z97 => ?_)
        refine va_put (D := (dC, dI)) (ci := 6) (v := .int z97) (ty := .int) (C := RX6) (T := TX6) (N := 12) hx hb hG zuX6 tyX6 tyX6_ok nmX6 hown hK hP hD hS 0 rfl rfl 10 (by decide) (hG _ zv258) (fun _ h9 => h9) rfl (by decide +kernel) rfl rfl (Nat.le_of_ble_eq_true rfl) dX6_appendBit_98 (fun H locs hP hD hS => ?_)
        have hP : va_P (dC, dI) vwCl [(h0, .inr (6, mX6 h1 h2 h3 h4 h5 h6 h7 h8 (upd (upd (upd (upd v0 8 (u39_ 0)) 9 (u39_ 1)) 10 z97) 11 (u39_ 2)))), (h6, zi k6 400 f_90), (h5, zi k5 400 (a39_ 0)), (h2, zi k2 833 (a39_ 2)), (h1, zi k1 1250 f_80), (h3, zi k3 833 (a39_ 1)), (h4, zi k4 400 (a39_ 3))] H := hP
        have hD : va_D A [(h0, .inr (6, mX6 h1 h2 h3 h4 h5 h6 h7 h8 (upd (upd (upd (upd v0 8 (u39_ 0)) 9 (u39_ 1)) 10 z97) 11 (u39_ 2)))), (h6, zi k6 400 f_90), (h5, zi k5 400 (a39_ 0)), (h2, zi k2 833 (a39_ 2)), (h1, zi k1 1250 f_80), (h3, zi k3 833 (a39_ 1)), (h4, zi k4 400 (a39_ 3))] := hD
        have hphi : zPhi (a39_ 2) (a39_ 0) f_90 (u39_ 1).toInt (u39_ 0).toInt := by rw [hB1.1, hB1.2, e_f_90]; exact zPhi_B hp0_ (by rw [← e_z13]; exact hch) (by rw [← e_z13]; omega) (by omega) rfl (by omega) rfl (by omega) (by omega) (fun j => (hf5 j).1) (show z89.toInt = (f6 (x1 : Int32).toNatClampNeg).toInt + 1 from by rw [← e_z13]; omega)
        refine W.widen (k := 0) (n := 0) (by decide) (by decide) ?_
        have b_ : -2147483648 ≤ z97.toInt ∧ z97.toInt ≤ 2147483647 := ⟨zlo _, zhi _⟩
        have b_ : -2147483648 ≤ (u39_ 2).toInt ∧ (u39_ 2).toInt ≤ 2147483647 := ⟨zlo _, zhi _⟩
        have hpost : (0 ≤ (u39_ 0).toInt ∧ (u39_ 0).toInt ≤ 833) ∧ (0 ≤ (u39_ 1).toInt ∧ (u39_ 1).toInt ≤ 1250) := ⟨⟨by omega, by omega⟩, ⟨by omega, by omega⟩⟩
        have hP9 : va_P (dC, dI) vwCl [(h0, .inr (6, mX6 h1 h2 h3 h4 h5 h6 h7 h8 (upd (upd (upd (upd v0 8 (u39_ 0)) 9 (u39_ 1)) 10 z97) 11 (u39_ 2)))), (h6, zi k6 400 f_90), (h5, zi k5 400 (a39_ 0)), (h2, zi k2 833 (a39_ 2)), (h1, zi k1 1250 f_80), (h3, zi k3 833 (a39_ 1)), (h4, zi k4 400 (a39_ 3))] H := hP
        have hD9 : va_D A [(h0, .inr (6, mX6 h1 h2 h3 h4 h5 h6 h7 h8 (upd (upd (upd (upd v0 8 (u39_ 0)) 9 (u39_ 1)) 10 z97) 11 (u39_ 2)))), (h6, zi k6 400 f_90), (h5, zi k5 400 (a39_ 0)), (h2, zi k2 833 (a39_ 2)), (h1, zi k1 1250 f_80), (h3, zi k3 833 (a39_ 1)), (h4, zi k4 400 (a39_ 3))] := hD
        have hB0 : zPhi (a39_ 2) (a39_ 0) f_90 (u39_ 1).toInt (u39_ 0).toInt := by assumption
        exact W.vret hx hb hr (fun t ht hW => ⟨⟨(fun i => ([(u39_ 0), (u39_ 1), z97, (u39_ 2)] : List (Int32)).getD i 0), rfl, hpost, (fun _ => 0), (fun i => ([f_90, (a39_ 0), (a39_ 2), f_80, (a39_ 1), (a39_ 3)] : List (Nat → Int32)).getD i (fun _ => 0)), (fun _ => (fun _ => 0)), ha39_0, ha39_2, hB0, by rw [ht]; exact hP9, va_K.moved hW.alike hK, hD9⟩, hS.F ht⟩) hS.2.2 dX6_appendBit_101
      · skip
        have b_ := zF_ne rfl zk_0 c_
        have hphi : zPhi (a39_ 2) (a39_ 0) f6 (u39_ 1).toInt (u39_ 0).toInt := zPhi_eq hp0_ (hB39_1 (by omega)).2 (hB39_1 (by omega)).1 (by omega) (by omega)
        refine W.widen (k := 0) (n := 0) (by decide) (by decide) ?_
        have b_ : -2147483648 ≤ (v0 10).toInt ∧ (v0 10).toInt ≤ 2147483647 := ⟨zlo _, zhi _⟩
        have b_ : -2147483648 ≤ (u39_ 2).toInt ∧ (u39_ 2).toInt ≤ 2147483647 := ⟨zlo _, zhi _⟩
        have hpost : (0 ≤ (u39_ 0).toInt ∧ (u39_ 0).toInt ≤ 833) ∧ (0 ≤ (u39_ 1).toInt ∧ (u39_ 1).toInt ≤ 1250) := ⟨⟨by omega, by omega⟩, ⟨by omega, by omega⟩⟩
        have hP9 : va_P (dC, dI) vwCl [(h0, .inr (6, mX6 h1 h2 h3 h4 h5 h6 h7 h8 (upd (upd (upd (upd v0 8 (u39_ 0)) 9 (u39_ 1)) 10 (v0 10)) 11 (u39_ 2)))), (h6, zi k6 400 f6), (h5, zi k5 400 (a39_ 0)), (h2, zi k2 833 (a39_ 2)), (h1, zi k1 1250 f1), (h3, zi k3 833 (a39_ 1)), (h4, zi k4 400 (a39_ 3))] H := hP
        have hD9 : va_D A [(h0, .inr (6, mX6 h1 h2 h3 h4 h5 h6 h7 h8 (upd (upd (upd (upd v0 8 (u39_ 0)) 9 (u39_ 1)) 10 (v0 10)) 11 (u39_ 2)))), (h6, zi k6 400 f6), (h5, zi k5 400 (a39_ 0)), (h2, zi k2 833 (a39_ 2)), (h1, zi k1 1250 f1), (h3, zi k3 833 (a39_ 1)), (h4, zi k4 400 (a39_ 3))] := hD
        have hB0 : zPhi (a39_ 2) (a39_ 0) f6 (u39_ 1).toInt (u39_ 0).toInt := by assumption
        exact W.vret hx hb hr (fun t ht hW => ⟨⟨(fun i => ([(u39_ 0), (u39_ 1), (v0 10), (u39_ 2)] : List (Int32)).getD i 0), rfl, hpost, (fun _ => 0), (fun i => ([f6, (a39_ 0), (a39_ 2), f1, (a39_ 1), (a39_ 3)] : List (Nat → Int32)).getD i (fun _ => 0)), (fun _ => (fun _ => 0)), ha39_0, ha39_2, hB0, by rw [ht]; exact hP9, va_K.moved hW.alike hK, hD9⟩, hS.F ht⟩) hS.2.2 dX6_appendBit_45
  · skip
    have b_ := zF_ne rfl zk_0 c_
    refine W.widen (k := 0) (n := 0) (by decide) (by decide) ?_
    have b_ : -2147483648 ≤ (v0 10).toInt ∧ (v0 10).toInt ≤ 2147483647 := ⟨zlo _, zhi _⟩
    have b_ : -2147483648 ≤ (v0 11).toInt ∧ (v0 11).toInt ≤ 2147483647 := ⟨zlo _, zhi _⟩
    have hpost : (0 ≤ (v0 8).toInt ∧ (v0 8).toInt ≤ 833) ∧ (0 ≤ (v0 9).toInt ∧ (v0 9).toInt ≤ 1250) := ⟨⟨by omega, by omega⟩, ⟨by omega, by omega⟩⟩
    have hP9 : va_P (dC, dI) vwCl [(h0, .inr (6, mX6 h1 h2 h3 h4 h5 h6 h7 h8 (upd (upd (upd (upd v0 8 (v0 8)) 9 (v0 9)) 10 (v0 10)) 11 (v0 11)))), (h6, zi k6 400 f6), (h5, zi k5 400 f5), (h2, zi k2 833 f2), (h1, zi k1 1250 f1), (h3, zi k3 833 f3), (h4, zi k4 400 f4)] H := hP
    have hD9 : va_D A [(h0, .inr (6, mX6 h1 h2 h3 h4 h5 h6 h7 h8 (upd (upd (upd (upd v0 8 (v0 8)) 9 (v0 9)) 10 (v0 10)) 11 (v0 11)))), (h6, zi k6 400 f6), (h5, zi k5 400 f5), (h2, zi k2 833 f2), (h1, zi k1 1250 f1), (h3, zi k3 833 f3), (h4, zi k4 400 f4)] := hD
    have hB0 : zPhi f2 f5 f6 (v0 9).toInt (v0 8).toInt := by assumption
    exact W.vret hx hb hr (fun t ht hW => ⟨⟨(fun i => ([(v0 8), (v0 9), (v0 10), (v0 11)] : List (Int32)).getD i 0), rfl, hpost, (fun _ => 0), (fun i => ([f6, f5, f2, f1, f3, f4] : List (Nat → Int32)).getD i (fun _ => 0)), (fun _ => (fun _ => 0)), hf5, hf2, hB0, by rw [ht]; exact hP9, va_K.moved hW.alike hK, hD9⟩, hS.F ht⟩) hS.2.2 dX6_appendBit_7
set_option maxHeartbeats 8000000 in
set_option maxRecDepth 100000 in
theorem sX6_append_0 (l : Launch) (dC : Nat → ClassId) (dI : Nat → Nat → Nat) (adK adV : Nat → Nat) (h0 : Nat) (h6 : Nat) (h5 : Nat) (h2 : Nat) (h1 : Nat) (h3 : Nat) (h4 : Nat) (h7 : Nat) (h8 : Nat) (k6 : ClassId) (k5 : ClassId) (k2 : ClassId) (k1 : ClassId) (k3 : ClassId) (k4 : ClassId) (sz : Nat) (v0 : Nat → Int32) (f6 : Nat → Int32) (f5 : Nat → Int32) (f2 : Nat → Int32) (f1 : Nat → Int32) (f3 : Nat → Int32) (f4 : Nat → Int32) (x1 : Int32) (x2 : Int32) (hv0 : zR rg_Postings v0) (hf5 : zA 0 832 f5) (hf2 : zA 0 1250 f2) (hp0_ : zPhi f2 f5 f6 (v0 9).toInt (v0 8).toInt) : Met l yX6_append (zw yX6_append cX6_append 5 none) { frames := 3, cells := 0, slots := 0, locals := 67 } (zPc dC dI adK adV [.ref h0, .int x1, .int x2] sz [(h0, .inr (6, mX6 h1 h2 h3 h4 h5 h6 h7 h8 v0)), (h6, zi k6 400 f6), (h5, zi k5 400 f5), (h2, zi k2 833 f2), (h1, zi k1 1250 f1), (h3, zi k3 833 f3), (h4, zi k4 400 f4)] [(k6, .int), (k5, .int), (k2, .int), (k1, .int), (k3, .int), (k4, .int)]) (va_Qv (fun (u : Nat → Int32) => (0 ≤ (u 0).toInt ∧ (u 0).toInt ≤ 833) ∧ (0 ≤ (u 1).toInt ∧ (u 1).toInt ≤ 1250)) (fun (u : Nat → Int32) (t : State) => ∃ (ww : Nat → Int64) (aa : Nat → Nat → Int32) (bb : Nat → Nat → Int64), zA 0 832 (aa 1) ∧ zA 0 1250 (aa 2) ∧ (zPhi (aa 2) (aa 1) (aa 0) (u 1).toInt (u 0).toInt) ∧ va_P (dC, dI) vwCl [(h0, .inr (6, mX6 h1 h2 h3 h4 h5 h6 h7 h8 (upd (upd (upd (upd v0 8 (u 0)) 9 (u 1)) 10 (u 2)) 11 (u 3)))), (h6, zi k6 400 (aa 0)), (h5, zi k5 400 (aa 1)), (h2, zi k2 833 (aa 2)), (h1, zi k1 1250 (aa 3)), (h3, zi k3 833 (aa 4)), (h4, zi k4 400 (aa 5))] t.heap ∧ va_K (dC, dI) vwCl [(k6, .int), (k5, .int), (k2, .int), (k1, .int), (k3, .int), (k4, .int)] t ∧ va_D (va_A [(h0, .inr (6, mX6 h1 h2 h3 h4 h5 h6 h7 h8 v0)), (h6, zi k6 400 f6), (h5, zi k5 400 f5), (h2, zi k2 833 f2), (h1, zi k1 1250 f1), (h3, zi k3 833 f3), (h4, zi k4 400 f4)] sz) [(h0, .inr (6, mX6 h1 h2 h3 h4 h5 h6 h7 h8 (upd (upd (upd (upd v0 8 (u 0)) 9 (u 1)) 10 (u 2)) 11 (u 3)))), (h6, zi k6 400 (aa 0)), (h5, zi k5 400 (aa 1)), (h2, zi k2 833 (aa 2)), (h1, zi k1 1250 (aa 3)), (h3, zi k3 833 (aa 4)), (h4, zi k4 400 (aa 5))]) (va_A [(h0, .inr (6, mX6 h1 h2 h3 h4 h5 h6 h7 h8 v0)), (h6, zi k6 400 f6), (h5, zi k5 400 f5), (h2, zi k2 833 f2), (h1, zi k1 1250 f1), (h3, zi k3 833 f3), (h4, zi k4 400 f4)] sz)) 0 0 (va_A [(h0, .inr (6, mX6 h1 h2 h3 h4 h5 h6 h7 h8 v0)), (h6, zi k6 400 f6), (h5, zi k5 400 f5), (h2, zi k2 833 f2), (h1, zi k1 1250 f1), (h3, zi k3 833 f3), (h4, zi k4 400 f4)] sz) := by
  refine Met.ofW (cc := cX6_append) (maxL := 5) (ret := none) (by decide) rfl ?_
  intro p e s m args below meth c s₁ B hml hv
  obtain ⟨rfl, hsz, hP, hK, hD0, hE, hZ⟩ := hv
  have hx := B.exec
  have hb := B.bytes
  have hr := B.returns
  have hG : ∀ w ∈ zG, w.before _ s = true := fun w h => atoms_spec (ws := (zw yX6_append cX6_append 5 none)) B.pre w (List.mem_cons_of_mem _ h)
  have hown : s.vm.findClass RX6 = some m.cls := findClass_of_methodNamed B.named
  have hlocks := B.notSynchronized

  subst hsz
  have hD := hD0.self (sz := s.heap.size)
  generalize hAe : va_A [(h0, .inr (6, mX6 h1 h2 h3 h4 h5 h6 h7 h8 v0)), (h6, zi k6 400 f6), (h5, zi k5 400 f5), (h2, zi k2 833 f2), (h1, zi k1 1250 f1), (h3, zi k3 833 f3), (h4, zi k4 400 f4)] s.heap.size = A at hD hZ ⊢
  have hA : ∀ q : Nat, s.heap.size ≤ q → A q := fun q h => by rw [← hAe]; exact Or.inr h
  have hS : va_S A s.heap s.heap [] := va_S.rf
  have hl := lv_entry ([.ref h0, .int x1, .int x2]) (n := 5) (Nat.le_of_ble_eq_true rfl)
  rw [lg_entry_eq]
  generalize (lg_sl ([.ref h0, .int x1, .int x2]) ++ List.replicate (5 - (lg_sl ([.ref h0, .int x1, .int x2])).length) Slot.unset).toArray = ls at hl ⊢
  have hl : lv_has ls 5 [(0, .ref h0), (1, .int x1), (2, .int x2)] := hl
  have b_ := zk_1
  have b_ : 0 ≤ (v0 9).toInt ∧ (v0 9).toInt ≤ 1250 := hv0 9
  have b_ : 0 ≤ (v0 8).toInt ∧ (v0 8).toInt ≤ 833 := hv0 8
  refine lv_iload_n hx hb dX6_append_0 rfl (lv_at hl 2 rfl) ?_
  have hPc := hP.sub (ws' := []) [] rfl
  have hDc := hD.sub (ws' := []) [] (by decide) rfl
  have hKc := hK.sub (tys' := []) [] rfl
  have hFc := va_free (wc := []) hD hS hA [] rfl
  refine va_calli (va_runSN (As := [.int x2]) (rest := []) ⟨hx, hb, hml, hown, hG⟩ (sX11_binaryDigits_0 l dC dI adK adV s.heap.size x2) ⟨va_cnB 1 hG (zgI zv791) rfl rfl rfl (zE_RX6_59 hE) (hG _ zv129) (by decide +kernel) ⟨Nat.le_of_ble_eq_true rfl, Nat.le_of_ble_eq_true rfl⟩, hG _ zv790, trivial⟩ ⟨zPc_blind, zPc_pre hPc hKc hDc hE hS hFc hZ⟩ rfl rfl hl.1 rfl (lv_room (Nat.le_of_ble_eq_true rfl)) dX6_append_1 ⟨Nat.le_of_ble_eq_true rfl, Nat.le_of_ble_eq_true rfl⟩) hS (fun q _ h => hFc q h) hFc (fun r1_ u1_ t H1 locs ht hvm hw hB hz1 hk1 hS => ?_)
  replace hw : (0 ≤ r1_.toInt ∧ r1_.toInt ≤ 32) := hw
  have b_ := hw
  obtain ⟨w1_, a1_, b1_, hP1, hK1, hD1⟩ := hB
  rw [ht] at hP1
  obtain ⟨hP, hD⟩ := va_join (wr := [(h0, .inr (6, mX6 h1 h2 h3 h4 h5 h6 h7 h8 v0)), (h6, zi k6 400 f6), (h5, zi k5 400 f5), (h2, zi k2 833 f2), (h1, zi k1 1250 f1), (h3, zi k3 833 f3), (h4, zi k4 400 f4)]) (w1 := []) hP hD [] [0, 1, 2, 3, 4, 5, 6] rfl rfl (by decide) (by decide) hk1 hFc hP1 hD1
  have hP : va_P (dC, dI) vwCl [(h0, .inr (6, mX6 h1 h2 h3 h4 h5 h6 h7 h8 v0)), (h6, zi k6 400 f6), (h5, zi k5 400 f5), (h2, zi k2 833 f2), (h1, zi k1 1250 f1), (h3, zi k3 833 f3), (h4, zi k4 400 f4)] H1 := hP.sub [0, 1, 2, 3, 4, 5, 6] rfl
  have hD : va_D A [(h0, .inr (6, mX6 h1 h2 h3 h4 h5 h6 h7 h8 v0)), (h6, zi k6 400 f6), (h5, zi k5 400 f5), (h2, zi k2 833 f2), (h1, zi k1 1250 f1), (h3, zi k3 833 f3), (h4, zi k4 400 f4)] := hD.sub [0, 1, 2, 3, 4, 5, 6] (by decide) rfl
  generalize H1 = H at hP hS ⊢
  clear hz1
  refine lv_istore_n (lv' := [(3, .int r1_), (0, .ref h0), (1, .int x1), (2, .int x2)]) hx hb dX6_append_4 rfl hl (by decide) rfl (fun ls hl => ?_)
  refine lv_iconst (v := 1) hx hb dX6_append_5 (by decide) ?_
  refine lv_istore (lv' := [(4, .int 1), (3, .int r1_), (0, .ref h0), (1, .int x1), (2, .int x2)]) hx hb dX6_append_6 hl (by decide) rfl (fun ls hl => ?_)
  refine zcutL (fun u8_ => (32 - (u8_ 0).toInt).toNat) (fun H locs ls u8_ w8_ a8_ b8_ => va_P (dC, dI) vwCl [(h0, .inr (6, mX6 h1 h2 h3 h4 h5 h6 h7 h8 (upd (upd (upd (upd v0 8 (u8_ 1)) 9 (u8_ 2)) 10 (u8_ 3)) 11 (u8_ 4)))), (h6, zi k6 400 (a8_ 5)), (h5, zi k5 400 (a8_ 4)), (h2, zi k2 833 (a8_ 1)), (h1, zi k1 1250 (a8_ 0)), (h3, zi k3 833 (a8_ 2)), (h4, zi k4 400 (a8_ 3))] H ∧ va_D A [(h0, .inr (6, mX6 h1 h2 h3 h4 h5 h6 h7 h8 (upd (upd (upd (upd v0 8 (u8_ 1)) 9 (u8_ 2)) 10 (u8_ 3)) 11 (u8_ 4)))), (h6, zi k6 400 (a8_ 5)), (h5, zi k5 400 (a8_ 4)), (h2, zi k2 833 (a8_ 1)), (h1, zi k1 1250 (a8_ 0)), (h3, zi k3 833 (a8_ 2)), (h4, zi k4 400 (a8_ 3))] ∧ va_S A s.heap H locs ∧ lv_has ls 5 [(0, .ref h0), (1, .int x1), (2, .int x2), (3, .int r1_), (4, .int (u8_ 0))] ∧ zA 0 1250 (a8_ 1) ∧ zA 0 832 (a8_ 4) ∧ (1 ≤ (u8_ 0).toInt ∧ (u8_ 0).toInt ≤ 32) ∧ (0 ≤ (u8_ 1).toInt ∧ (u8_ 1).toInt ≤ 833) ∧ (0 ≤ (u8_ 2).toInt ∧ (u8_ 2).toInt ≤ 1250) ∧ (zPhi (a8_ 1) (a8_ 4) (a8_ 5) (u8_ 2).toInt (u8_ 1).toInt)) (fun ls u8_ w8_ => F0 m 8 ls []) 0 0 ?_ (fun hJ8 => ?_)
  · skip
    intro H locs ls u8_ w8_ a8_ b8_ hc hJ8
    obtain ⟨hP, hD, hS, hl, ha8_1, ha8_4, b_, b_, b_, hI8_0⟩ := hc
    refine lv_iload hx hb dX6_append_8 (lv_at hl 4 rfl) ?_
    refine lv_iload_n hx hb dX6_append_10 rfl (lv_at hl 3 rfl) ?_
    refine lv_icmp_ge (tgt := 26) hx hb dX6_append_11 (by decide) (fun c_ => ?_) (fun c_ => ?_)
    · skip
      have b_ := zT_ge rfl rfl c_
      refine lv_iload_n hx hb dX6_append_26 rfl (lv_at hl 3 rfl) ?_
      refine lv_iconst (v := 1) hx hb dX6_append_27 (by decide) ?_
      refine lv_isub hx hb dX6_append_28 ?_
      refine lv_topi (fun z28 e_z28 => ?_)
      have b_ := zsub rfl zk_1 e_z28 (by omega) (by omega)
      refine lv_istore (lv' := [(4, .int z28), (0, .ref h0), (1, .int x1), (2, .int x2), (3, .int r1_)]) hx hb dX6_append_29 hl (by decide) rfl (fun ls hl => ?_)
      refine zcutL (fun u31_ => ((u31_ 0).toInt - (-1)).toNat) (fun H locs ls u31_ w31_ a31_ b31_ => va_P (dC, dI) vwCl [(h0, .inr (6, mX6 h1 h2 h3 h4 h5 h6 h7 h8 (upd (upd (upd (upd v0 8 (u31_ 1)) 9 (u31_ 2)) 10 (u31_ 3)) 11 (u31_ 4)))), (h6, zi k6 400 (a31_ 5)), (h5, zi k5 400 (a31_ 4)), (h2, zi k2 833 (a31_ 1)), (h1, zi k1 1250 (a31_ 0)), (h3, zi k3 833 (a31_ 2)), (h4, zi k4 400 (a31_ 3))] H ∧ va_D A [(h0, .inr (6, mX6 h1 h2 h3 h4 h5 h6 h7 h8 (upd (upd (upd (upd v0 8 (u31_ 1)) 9 (u31_ 2)) 10 (u31_ 3)) 11 (u31_ 4)))), (h6, zi k6 400 (a31_ 5)), (h5, zi k5 400 (a31_ 4)), (h2, zi k2 833 (a31_ 1)), (h1, zi k1 1250 (a31_ 0)), (h3, zi k3 833 (a31_ 2)), (h4, zi k4 400 (a31_ 3))] ∧ va_S A s.heap H locs ∧ lv_has ls 5 [(0, .ref h0), (1, .int x1), (2, .int x2), (3, .int r1_), (4, .int (u31_ 0))] ∧ zA 0 1250 (a31_ 1) ∧ zA 0 832 (a31_ 4) ∧ ((-1) ≤ (u31_ 0).toInt ∧ (u31_ 0).toInt ≤ 31) ∧ (0 ≤ (u31_ 1).toInt ∧ (u31_ 1).toInt ≤ 833) ∧ (0 ≤ (u31_ 2).toInt ∧ (u31_ 2).toInt ≤ 1250) ∧ (zPhi (a31_ 1) (a31_ 4) (a31_ 5) (u31_ 2).toInt (u31_ 1).toInt)) (fun ls u31_ w31_ => F0 m 31 ls []) 0 0 ?_ (fun hJ31 => ?_)
      · skip
        intro H locs ls u31_ w31_ a31_ b31_ hc hJ31
        obtain ⟨hP, hD, hS, hl, ha31_1, ha31_4, b_, b_, b_, hI31_0⟩ := hc
        refine lv_iload hx hb dX6_append_31 (lv_at hl 4 rfl) ?_
        refine lv_if_lt (tgt := 53) hx hb dX6_append_33 (by decide) (fun c_ => ?_) (fun c_ => ?_)
        · skip
          have b_ := zT_lt rfl zk_0 c_
          refine W.widen (k := 0) (n := 0) (by decide) (by decide) ?_
          have b_ : -2147483648 ≤ (u31_ 3).toInt ∧ (u31_ 3).toInt ≤ 2147483647 := ⟨zlo _, zhi _⟩
          have b_ : -2147483648 ≤ (u31_ 4).toInt ∧ (u31_ 4).toInt ≤ 2147483647 := ⟨zlo _, zhi _⟩
          have hpost : (0 ≤ (u31_ 1).toInt ∧ (u31_ 1).toInt ≤ 833) ∧ (0 ≤ (u31_ 2).toInt ∧ (u31_ 2).toInt ≤ 1250) := ⟨⟨by omega, by omega⟩, ⟨by omega, by omega⟩⟩
          have hP9 : va_P (dC, dI) vwCl [(h0, .inr (6, mX6 h1 h2 h3 h4 h5 h6 h7 h8 (upd (upd (upd (upd v0 8 (u31_ 1)) 9 (u31_ 2)) 10 (u31_ 3)) 11 (u31_ 4)))), (h6, zi k6 400 (a31_ 5)), (h5, zi k5 400 (a31_ 4)), (h2, zi k2 833 (a31_ 1)), (h1, zi k1 1250 (a31_ 0)), (h3, zi k3 833 (a31_ 2)), (h4, zi k4 400 (a31_ 3))] H := hP
          have hD9 : va_D A [(h0, .inr (6, mX6 h1 h2 h3 h4 h5 h6 h7 h8 (upd (upd (upd (upd v0 8 (u31_ 1)) 9 (u31_ 2)) 10 (u31_ 3)) 11 (u31_ 4)))), (h6, zi k6 400 (a31_ 5)), (h5, zi k5 400 (a31_ 4)), (h2, zi k2 833 (a31_ 1)), (h1, zi k1 1250 (a31_ 0)), (h3, zi k3 833 (a31_ 2)), (h4, zi k4 400 (a31_ 3))] := hD
          have hB0 : zPhi (a31_ 1) (a31_ 4) (a31_ 5) (u31_ 2).toInt (u31_ 1).toInt := by assumption
          exact W.vret hx hb hr (fun t ht hW => ⟨⟨(fun i => ([(u31_ 1), (u31_ 2), (u31_ 3), (u31_ 4)] : List (Int32)).getD i 0), rfl, hpost, (fun _ => 0), (fun i => ([(a31_ 5), (a31_ 4), (a31_ 1), (a31_ 0), (a31_ 2), (a31_ 3)] : List (Nat → Int32)).getD i (fun _ => 0)), (fun _ => (fun _ => 0)), ha31_4, ha31_1, hB0, by rw [ht]; exact hP9, va_K.moved hW.alike hK, hD9⟩, hS.F ht⟩) hS.2.2 dX6_append_53
        · skip
          have b_ := zF_lt rfl zk_0 c_
          refine lv_aload_n hx hb dX6_append_36 rfl (lv_at hl 0 rfl) ?_
          refine lv_iload_n hx hb dX6_append_37 rfl (lv_at hl 1 rfl) ?_
          refine lv_iload_n hx hb dX6_append_38 rfl (lv_at hl 2 rfl) ?_
          refine lv_iload hx hb dX6_append_39 (lv_at hl 4 rfl) ?_
          have b_ : -2147483648 ≤ x2.toInt ∧ x2.toInt ≤ 2147483647 := ⟨zlo _, zhi _⟩
          refine lv_iushr hx hb dX6_append_41 rfl ?_
          refine lv_topi (fun z41 e_z41 => ?_)
          refine lv_iconst (v := 1) hx hb dX6_append_42 (by decide) ?_
          have b_ : -2147483648 ≤ z41.toInt ∧ z41.toInt ≤ 2147483647 := ⟨zlo _, zhi _⟩
          refine lv_iand hx hb dX6_append_43 ?_
          refine lv_topi (fun z43 e_z43 => ?_)
          have b_ := zand (x := z41) zk_1 e_z43 (by decide)
          have b_ : -2147483648 ≤ (u31_ 3).toInt ∧ (u31_ 3).toInt ≤ 2147483647 := ⟨zlo _, zhi _⟩
          have b_ : -2147483648 ≤ (u31_ 4).toInt ∧ (u31_ 4).toInt ≤ 2147483647 := ⟨zlo _, zhi _⟩
          have hPc := hP.sub (ws' := [(h0, .inr (6, mX6 h1 h2 h3 h4 h5 h6 h7 h8 (upd (upd (upd (upd v0 8 (u31_ 1)) 9 (u31_ 2)) 10 (u31_ 3)) 11 (u31_ 4)))), (h6, zi k6 400 (a31_ 5)), (h5, zi k5 400 (a31_ 4)), (h2, zi k2 833 (a31_ 1)), (h1, zi k1 1250 (a31_ 0)), (h3, zi k3 833 (a31_ 2)), (h4, zi k4 400 (a31_ 3))]) [0, 1, 2, 3, 4, 5, 6] rfl
          have hDc := hD.sub (ws' := [(h0, .inr (6, mX6 h1 h2 h3 h4 h5 h6 h7 h8 (upd (upd (upd (upd v0 8 (u31_ 1)) 9 (u31_ 2)) 10 (u31_ 3)) 11 (u31_ 4)))), (h6, zi k6 400 (a31_ 5)), (h5, zi k5 400 (a31_ 4)), (h2, zi k2 833 (a31_ 1)), (h1, zi k1 1250 (a31_ 0)), (h3, zi k3 833 (a31_ 2)), (h4, zi k4 400 (a31_ 3))]) [0, 1, 2, 3, 4, 5, 6] (by decide) rfl
          have hKc := hK.sub (tys' := [(k6, .int), (k5, .int), (k2, .int), (k1, .int), (k3, .int), (k4, .int)]) [0, 1, 2, 3, 4, 5] rfl
          have hFc := va_free (wc := [(h0, .inr (6, mX6 h1 h2 h3 h4 h5 h6 h7 h8 (upd (upd (upd (upd v0 8 (u31_ 1)) 9 (u31_ 2)) 10 (u31_ 3)) 11 (u31_ 4)))), (h6, zi k6 400 (a31_ 5)), (h5, zi k5 400 (a31_ 4)), (h2, zi k2 833 (a31_ 1)), (h1, zi k1 1250 (a31_ 0)), (h3, zi k3 833 (a31_ 2)), (h4, zi k4 400 (a31_ 3))]) hD hS hA [0, 1, 2, 3, 4, 5, 6] rfl
          refine va_callv (va_runV (As := [.int x1, .int z43]) (rest := []) ⟨hx, hb, hml, hown, hG⟩ (sX6_appendBit_0 l dC dI adK adV h0 h6 h5 h2 h1 h3 h4 h7 h8 k6 k5 k2 k1 k3 k4 H.size (upd (upd (upd (upd v0 8 (u31_ 1)) 9 (u31_ 2)) 10 (u31_ 3)) 11 (u31_ 4)) (a31_ 5) (a31_ 4) (a31_ 1) (a31_ 0) (a31_ 2) (a31_ 3) x1 z43 (zR_updF (zR_updF (zR_upd (zR_upd hv0 8 (show (0 : Int) ≤ ((u31_ 1) : Int32).toInt from by omega) (show ((u31_ 1) : Int32).toInt ≤ (833 : Int) from by omega)) 9 (show (0 : Int) ≤ ((u31_ 2) : Int32).toInt from by omega) (show ((u31_ 2) : Int32).toInt ≤ (1250 : Int) from by omega)) 10 rfl) 11 rfl) ha31_4 ha31_1 (show zPhi (a31_ 1) (a31_ 4) (a31_ 5) (u31_ 2).toInt (u31_ 1).toInt from by assumption)) (cwV 2 hG (zgV zv839 zv841 zv7 zv133 zv842) rfl rfl rfl (by decide +kernel) ⟨Nat.le_of_ble_eq_true rfl, Nat.le_of_ble_eq_true rfl⟩) ⟨zPc_blind, va_recv hKc hPc (ci := 6) (q0 := 0) rfl rfl, zPc_pre hPc hKc hDc hE hS hFc hZ⟩ rfl rfl hl.1 rfl (lv_room (Nat.le_of_ble_eq_true rfl)) dX6_append_44 ⟨Nat.le_of_ble_eq_true rfl, Nat.le_of_ble_eq_true rfl⟩) hS (fun q _ h => hFc q h) hFc (fun u44_ t H1 locs ht hvm hw hB hz1 hk1 hS => ?_)
          replace hw : (0 ≤ (u44_ 0).toInt ∧ (u44_ 0).toInt ≤ 833) ∧ (0 ≤ (u44_ 1).toInt ∧ (u44_ 1).toInt ≤ 1250) := hw
          obtain ⟨b_, b_⟩ := hw
          obtain ⟨w44_, a44_, b44_, ha44_1, ha44_2, hB44_0, hP1, hK1, hD1⟩ := hB
          have hB44_0 : zPhi (a44_ 2) (a44_ 1) (a44_ 0) (u44_ 1).toInt (u44_ 0).toInt := hB44_0
          rw [ht] at hP1
          obtain ⟨hP, hD⟩ := va_join (wr := []) (w1 := [(h0, .inr (6, mX6 h1 h2 h3 h4 h5 h6 h7 h8 (upd (upd (upd (upd v0 8 (u44_ 0)) 9 (u44_ 1)) 10 (u44_ 2)) 11 (u44_ 3)))), (h6, zi k6 400 (a44_ 0)), (h5, zi k5 400 (a44_ 1)), (h2, zi k2 833 (a44_ 2)), (h1, zi k1 1250 (a44_ 3)), (h3, zi k3 833 (a44_ 4)), (h4, zi k4 400 (a44_ 5))]) hP hD [0, 1, 2, 3, 4, 5, 6] [] rfl rfl (by decide) (by decide) hk1 hFc hP1 hD1
          have hP : va_P (dC, dI) vwCl [(h0, .inr (6, mX6 h1 h2 h3 h4 h5 h6 h7 h8 (upd (upd (upd (upd v0 8 (u44_ 0)) 9 (u44_ 1)) 10 (u44_ 2)) 11 (u44_ 3)))), (h6, zi k6 400 (a44_ 0)), (h5, zi k5 400 (a44_ 1)), (h2, zi k2 833 (a44_ 2)), (h1, zi k1 1250 (a44_ 3)), (h3, zi k3 833 (a44_ 4)), (h4, zi k4 400 (a44_ 5))] H1 := hP.sub [0, 1, 2, 3, 4, 5, 6] rfl
          have hD : va_D A [(h0, .inr (6, mX6 h1 h2 h3 h4 h5 h6 h7 h8 (upd (upd (upd (upd v0 8 (u44_ 0)) 9 (u44_ 1)) 10 (u44_ 2)) 11 (u44_ 3)))), (h6, zi k6 400 (a44_ 0)), (h5, zi k5 400 (a44_ 1)), (h2, zi k2 833 (a44_ 2)), (h1, zi k1 1250 (a44_ 3)), (h3, zi k3 833 (a44_ 4)), (h4, zi k4 400 (a44_ 5))] := hD.sub [0, 1, 2, 3, 4, 5, 6] (by decide) rfl
          generalize H1 = H at hP hS ⊢
          clear hz1
          obtain ⟨z47, e_z47⟩ : ∃ z : Int32, z = (u31_ 0) + Int32.ofInt (-1) := ⟨_, rfl⟩
          have b_ := zadd (x := (u31_ 0)) (y := Int32.ofInt (-1)) rfl (show (Int32.ofInt (-1)).toInt = (-1) from by decide) e_z47 (by omega) (by omega)
          refine lv_iinc (v := z47) (lv' := [(4, .int z47), (0, .ref h0), (1, .int x1), (2, .int x2), (3, .int r1_)]) hx hb dX6_append_47 hl (k := 4) rfl e_z47.symm (by decide) rfl (fun ls hl => ?_)
          refine lv_goto (tgt := 31) hx hb dX6_append_50 (by decide) ?_
          have b_ : -2147483648 ≤ x1.toInt ∧ x1.toInt ≤ 2147483647 := ⟨zlo _, zhi _⟩
          have hc : va_P (dC, dI) vwCl [(h0, .inr (6, mX6 h1 h2 h3 h4 h5 h6 h7 h8 (upd (upd (upd (upd v0 8 (u44_ 0)) 9 (u44_ 1)) 10 (u44_ 2)) 11 (u44_ 3)))), (h6, zi k6 400 (a44_ 0)), (h5, zi k5 400 (a44_ 1)), (h2, zi k2 833 (a44_ 2)), (h1, zi k1 1250 (a44_ 3)), (h3, zi k3 833 (a44_ 4)), (h4, zi k4 400 (a44_ 5))] H ∧ va_D A [(h0, .inr (6, mX6 h1 h2 h3 h4 h5 h6 h7 h8 (upd (upd (upd (upd v0 8 (u44_ 0)) 9 (u44_ 1)) 10 (u44_ 2)) 11 (u44_ 3)))), (h6, zi k6 400 (a44_ 0)), (h5, zi k5 400 (a44_ 1)), (h2, zi k2 833 (a44_ 2)), (h1, zi k1 1250 (a44_ 3)), (h3, zi k3 833 (a44_ 4)), (h4, zi k4 400 (a44_ 5))] ∧ va_S A s.heap H locs ∧ lv_has ls 5 [(0, .ref h0), (1, .int x1), (2, .int x2), (3, .int r1_), (4, .int z47)] ∧ zA 0 1250 (a44_ 2) ∧ zA 0 832 (a44_ 1) ∧ ((-1) ≤ z47.toInt ∧ z47.toInt ≤ 31) ∧ (0 ≤ (u44_ 0).toInt ∧ (u44_ 0).toInt ≤ 833) ∧ (0 ≤ (u44_ 1).toInt ∧ (u44_ 1).toInt ≤ 1250) ∧ (zPhi (a44_ 2) (a44_ 1) (a44_ 0) (u44_ 1).toInt (u44_ 0).toInt) := ⟨hP, hD, hS, lv_sub hl [1, 2, 3, 4, 0] rfl, ha44_2, ha44_1, ⟨by omega, by omega⟩, ⟨by omega, by omega⟩, ⟨by omega, by omega⟩, by assumption⟩
          exact hJ31 H locs ls (fun i => ([z47, (u44_ 0), (u44_ 1), (u44_ 2), (u44_ 3)] : List (Int32)).getD i 0) (fun _ => 0) (fun i => ([(a44_ 3), (a44_ 2), (a44_ 4), (a44_ 5), (a44_ 1), (a44_ 0)] : List (Nat → Int32)).getD i (fun _ => 0)) (fun _ => (fun _ => 0)) hc (show (z47.toInt - (-1)).toNat < ((u31_ 0).toInt - (-1)).toNat from by omega)
      · skip
        have b_ : -2147483648 ≤ x1.toInt ∧ x1.toInt ≤ 2147483647 := ⟨zlo _, zhi _⟩
        have b_ : -2147483648 ≤ x2.toInt ∧ x2.toInt ≤ 2147483647 := ⟨zlo _, zhi _⟩
        have hc : va_P (dC, dI) vwCl [(h0, .inr (6, mX6 h1 h2 h3 h4 h5 h6 h7 h8 (upd (upd (upd (upd v0 8 (u8_ 1)) 9 (u8_ 2)) 10 (u8_ 3)) 11 (u8_ 4)))), (h6, zi k6 400 (a8_ 5)), (h5, zi k5 400 (a8_ 4)), (h2, zi k2 833 (a8_ 1)), (h1, zi k1 1250 (a8_ 0)), (h3, zi k3 833 (a8_ 2)), (h4, zi k4 400 (a8_ 3))] H ∧ va_D A [(h0, .inr (6, mX6 h1 h2 h3 h4 h5 h6 h7 h8 (upd (upd (upd (upd v0 8 (u8_ 1)) 9 (u8_ 2)) 10 (u8_ 3)) 11 (u8_ 4)))), (h6, zi k6 400 (a8_ 5)), (h5, zi k5 400 (a8_ 4)), (h2, zi k2 833 (a8_ 1)), (h1, zi k1 1250 (a8_ 0)), (h3, zi k3 833 (a8_ 2)), (h4, zi k4 400 (a8_ 3))] ∧ va_S A s.heap H locs ∧ lv_has ls 5 [(0, .ref h0), (1, .int x1), (2, .int x2), (3, .int r1_), (4, .int z28)] ∧ zA 0 1250 (a8_ 1) ∧ zA 0 832 (a8_ 4) ∧ ((-1) ≤ z28.toInt ∧ z28.toInt ≤ 31) ∧ (0 ≤ (u8_ 1).toInt ∧ (u8_ 1).toInt ≤ 833) ∧ (0 ≤ (u8_ 2).toInt ∧ (u8_ 2).toInt ≤ 1250) ∧ (zPhi (a8_ 1) (a8_ 4) (a8_ 5) (u8_ 2).toInt (u8_ 1).toInt) := ⟨hP, hD, hS, lv_sub hl [1, 2, 3, 4, 0] rfl, ha8_1, ha8_4, ⟨by omega, by omega⟩, ⟨by omega, by omega⟩, ⟨by omega, by omega⟩, by assumption⟩
        exact hJ31 H locs ls (fun i => ([z28, (u8_ 1), (u8_ 2), (u8_ 3), (u8_ 4)] : List (Int32)).getD i 0) (fun _ => 0) (fun i => ([(a8_ 0), (a8_ 1), (a8_ 2), (a8_ 3), (a8_ 4), (a8_ 5)] : List (Nat → Int32)).getD i (fun _ => 0)) (fun _ => (fun _ => 0)) hc
    · skip
      have b_ := zF_ge rfl rfl c_
      refine lv_aload_n hx hb dX6_append_14 rfl (lv_at hl 0 rfl) ?_
      refine lv_iload_n hx hb dX6_append_15 rfl (lv_at hl 1 rfl) ?_
      refine lv_iconst (v := 0) hx hb dX6_append_16 (by decide) ?_
      have b_ : -2147483648 ≤ (u8_ 3).toInt ∧ (u8_ 3).toInt ≤ 2147483647 := ⟨zlo _, zhi _⟩
      have b_ : -2147483648 ≤ (u8_ 4).toInt ∧ (u8_ 4).toInt ≤ 2147483647 := ⟨zlo _, zhi _⟩
      have hPc := hP.sub (ws' := [(h0, .inr (6, mX6 h1 h2 h3 h4 h5 h6 h7 h8 (upd (upd (upd (upd v0 8 (u8_ 1)) 9 (u8_ 2)) 10 (u8_ 3)) 11 (u8_ 4)))), (h6, zi k6 400 (a8_ 5)), (h5, zi k5 400 (a8_ 4)), (h2, zi k2 833 (a8_ 1)), (h1, zi k1 1250 (a8_ 0)), (h3, zi k3 833 (a8_ 2)), (h4, zi k4 400 (a8_ 3))]) [0, 1, 2, 3, 4, 5, 6] rfl
      have hDc := hD.sub (ws' := [(h0, .inr (6, mX6 h1 h2 h3 h4 h5 h6 h7 h8 (upd (upd (upd (upd v0 8 (u8_ 1)) 9 (u8_ 2)) 10 (u8_ 3)) 11 (u8_ 4)))), (h6, zi k6 400 (a8_ 5)), (h5, zi k5 400 (a8_ 4)), (h2, zi k2 833 (a8_ 1)), (h1, zi k1 1250 (a8_ 0)), (h3, zi k3 833 (a8_ 2)), (h4, zi k4 400 (a8_ 3))]) [0, 1, 2, 3, 4, 5, 6] (by decide) rfl
      have hKc := hK.sub (tys' := [(k6, .int), (k5, .int), (k2, .int), (k1, .int), (k3, .int), (k4, .int)]) [0, 1, 2, 3, 4, 5] rfl
      have hFc := va_free (wc := [(h0, .inr (6, mX6 h1 h2 h3 h4 h5 h6 h7 h8 (upd (upd (upd (upd v0 8 (u8_ 1)) 9 (u8_ 2)) 10 (u8_ 3)) 11 (u8_ 4)))), (h6, zi k6 400 (a8_ 5)), (h5, zi k5 400 (a8_ 4)), (h2, zi k2 833 (a8_ 1)), (h1, zi k1 1250 (a8_ 0)), (h3, zi k3 833 (a8_ 2)), (h4, zi k4 400 (a8_ 3))]) hD hS hA [0, 1, 2, 3, 4, 5, 6] rfl
      refine va_callv (va_runV (As := [.int x1, .int 0]) (rest := []) ⟨hx, hb, hml, hown, hG⟩ (sX6_appendBit_0 l dC dI adK adV h0 h6 h5 h2 h1 h3 h4 h7 h8 k6 k5 k2 k1 k3 k4 H.size (upd (upd (upd (upd v0 8 (u8_ 1)) 9 (u8_ 2)) 10 (u8_ 3)) 11 (u8_ 4)) (a8_ 5) (a8_ 4) (a8_ 1) (a8_ 0) (a8_ 2) (a8_ 3) x1 0 (zR_updF (zR_updF (zR_upd (zR_upd hv0 8 (show (0 : Int) ≤ ((u8_ 1) : Int32).toInt from by omega) (show ((u8_ 1) : Int32).toInt ≤ (833 : Int) from by omega)) 9 (show (0 : Int) ≤ ((u8_ 2) : Int32).toInt from by omega) (show ((u8_ 2) : Int32).toInt ≤ (1250 : Int) from by omega)) 10 rfl) 11 rfl) ha8_4 ha8_1 (show zPhi (a8_ 1) (a8_ 4) (a8_ 5) (u8_ 2).toInt (u8_ 1).toInt from by assumption)) (cwV 2 hG (zgV zv839 zv841 zv7 zv133 zv842) rfl rfl rfl (by decide +kernel) ⟨Nat.le_of_ble_eq_true rfl, Nat.le_of_ble_eq_true rfl⟩) ⟨zPc_blind, va_recv hKc hPc (ci := 6) (q0 := 0) rfl rfl, zPc_pre hPc hKc hDc hE hS hFc hZ⟩ rfl rfl hl.1 rfl (lv_room (Nat.le_of_ble_eq_true rfl)) dX6_append_17 ⟨Nat.le_of_ble_eq_true rfl, Nat.le_of_ble_eq_true rfl⟩) hS (fun q _ h => hFc q h) hFc (fun u17_ t H1 locs ht hvm hw hB hz1 hk1 hS => ?_)
      replace hw : (0 ≤ (u17_ 0).toInt ∧ (u17_ 0).toInt ≤ 833) ∧ (0 ≤ (u17_ 1).toInt ∧ (u17_ 1).toInt ≤ 1250) := hw
      obtain ⟨b_, b_⟩ := hw
      obtain ⟨w17_, a17_, b17_, ha17_1, ha17_2, hB17_0, hP1, hK1, hD1⟩ := hB
      have hB17_0 : zPhi (a17_ 2) (a17_ 1) (a17_ 0) (u17_ 1).toInt (u17_ 0).toInt := hB17_0
      rw [ht] at hP1
      obtain ⟨hP, hD⟩ := va_join (wr := []) (w1 := [(h0, .inr (6, mX6 h1 h2 h3 h4 h5 h6 h7 h8 (upd (upd (upd (upd v0 8 (u17_ 0)) 9 (u17_ 1)) 10 (u17_ 2)) 11 (u17_ 3)))), (h6, zi k6 400 (a17_ 0)), (h5, zi k5 400 (a17_ 1)), (h2, zi k2 833 (a17_ 2)), (h1, zi k1 1250 (a17_ 3)), (h3, zi k3 833 (a17_ 4)), (h4, zi k4 400 (a17_ 5))]) hP hD [0, 1, 2, 3, 4, 5, 6] [] rfl rfl (by decide) (by decide) hk1 hFc hP1 hD1
      have hP : va_P (dC, dI) vwCl [(h0, .inr (6, mX6 h1 h2 h3 h4 h5 h6 h7 h8 (upd (upd (upd (upd v0 8 (u17_ 0)) 9 (u17_ 1)) 10 (u17_ 2)) 11 (u17_ 3)))), (h6, zi k6 400 (a17_ 0)), (h5, zi k5 400 (a17_ 1)), (h2, zi k2 833 (a17_ 2)), (h1, zi k1 1250 (a17_ 3)), (h3, zi k3 833 (a17_ 4)), (h4, zi k4 400 (a17_ 5))] H1 := hP.sub [0, 1, 2, 3, 4, 5, 6] rfl
      have hD : va_D A [(h0, .inr (6, mX6 h1 h2 h3 h4 h5 h6 h7 h8 (upd (upd (upd (upd v0 8 (u17_ 0)) 9 (u17_ 1)) 10 (u17_ 2)) 11 (u17_ 3)))), (h6, zi k6 400 (a17_ 0)), (h5, zi k5 400 (a17_ 1)), (h2, zi k2 833 (a17_ 2)), (h1, zi k1 1250 (a17_ 3)), (h3, zi k3 833 (a17_ 4)), (h4, zi k4 400 (a17_ 5))] := hD.sub [0, 1, 2, 3, 4, 5, 6] (by decide) rfl
      generalize H1 = H at hP hS ⊢
      clear hz1
      obtain ⟨z20, e_z20⟩ : ∃ z : Int32, z = (u8_ 0) + Int32.ofInt 1 := ⟨_, rfl⟩
      have b_ := zadd (x := (u8_ 0)) (y := Int32.ofInt 1) rfl (show (Int32.ofInt 1).toInt = 1 from by decide) e_z20 (by omega) (by omega)
      refine lv_iinc (v := z20) (lv' := [(4, .int z20), (0, .ref h0), (1, .int x1), (2, .int x2), (3, .int r1_)]) hx hb dX6_append_20 hl (k := 4) rfl e_z20.symm (by decide) rfl (fun ls hl => ?_)
      refine lv_goto (tgt := 8) hx hb dX6_append_23 (by decide) ?_
      have b_ : -2147483648 ≤ x1.toInt ∧ x1.toInt ≤ 2147483647 := ⟨zlo _, zhi _⟩
      have b_ : -2147483648 ≤ x2.toInt ∧ x2.toInt ≤ 2147483647 := ⟨zlo _, zhi _⟩
      have hc : va_P (dC, dI) vwCl [(h0, .inr (6, mX6 h1 h2 h3 h4 h5 h6 h7 h8 (upd (upd (upd (upd v0 8 (u17_ 0)) 9 (u17_ 1)) 10 (u17_ 2)) 11 (u17_ 3)))), (h6, zi k6 400 (a17_ 0)), (h5, zi k5 400 (a17_ 1)), (h2, zi k2 833 (a17_ 2)), (h1, zi k1 1250 (a17_ 3)), (h3, zi k3 833 (a17_ 4)), (h4, zi k4 400 (a17_ 5))] H ∧ va_D A [(h0, .inr (6, mX6 h1 h2 h3 h4 h5 h6 h7 h8 (upd (upd (upd (upd v0 8 (u17_ 0)) 9 (u17_ 1)) 10 (u17_ 2)) 11 (u17_ 3)))), (h6, zi k6 400 (a17_ 0)), (h5, zi k5 400 (a17_ 1)), (h2, zi k2 833 (a17_ 2)), (h1, zi k1 1250 (a17_ 3)), (h3, zi k3 833 (a17_ 4)), (h4, zi k4 400 (a17_ 5))] ∧ va_S A s.heap H locs ∧ lv_has ls 5 [(0, .ref h0), (1, .int x1), (2, .int x2), (3, .int r1_), (4, .int z20)] ∧ zA 0 1250 (a17_ 2) ∧ zA 0 832 (a17_ 1) ∧ (1 ≤ z20.toInt ∧ z20.toInt ≤ 32) ∧ (0 ≤ (u17_ 0).toInt ∧ (u17_ 0).toInt ≤ 833) ∧ (0 ≤ (u17_ 1).toInt ∧ (u17_ 1).toInt ≤ 1250) ∧ (zPhi (a17_ 2) (a17_ 1) (a17_ 0) (u17_ 1).toInt (u17_ 0).toInt) := ⟨hP, hD, hS, lv_sub hl [1, 2, 3, 4, 0] rfl, ha17_2, ha17_1, ⟨by omega, by omega⟩, ⟨by omega, by omega⟩, ⟨by omega, by omega⟩, by assumption⟩
      exact hJ8 H locs ls (fun i => ([z20, (u17_ 0), (u17_ 1), (u17_ 2), (u17_ 3)] : List (Int32)).getD i 0) (fun _ => 0) (fun i => ([(a17_ 3), (a17_ 2), (a17_ 4), (a17_ 5), (a17_ 1), (a17_ 0)] : List (Nat → Int32)).getD i (fun _ => 0)) (fun _ => (fun _ => 0)) hc (show (32 - z20.toInt).toNat < (32 - (u8_ 0).toInt).toNat from by omega)
  · skip
    have b_ : -2147483648 ≤ x1.toInt ∧ x1.toInt ≤ 2147483647 := ⟨zlo _, zhi _⟩
    have b_ : -2147483648 ≤ x2.toInt ∧ x2.toInt ≤ 2147483647 := ⟨zlo _, zhi _⟩
    have hc : va_P (dC, dI) vwCl [(h0, .inr (6, mX6 h1 h2 h3 h4 h5 h6 h7 h8 (upd (upd (upd (upd v0 8 (v0 8)) 9 (v0 9)) 10 (v0 10)) 11 (v0 11)))), (h6, zi k6 400 f6), (h5, zi k5 400 f5), (h2, zi k2 833 f2), (h1, zi k1 1250 f1), (h3, zi k3 833 f3), (h4, zi k4 400 f4)] H ∧ va_D A [(h0, .inr (6, mX6 h1 h2 h3 h4 h5 h6 h7 h8 (upd (upd (upd (upd v0 8 (v0 8)) 9 (v0 9)) 10 (v0 10)) 11 (v0 11)))), (h6, zi k6 400 f6), (h5, zi k5 400 f5), (h2, zi k2 833 f2), (h1, zi k1 1250 f1), (h3, zi k3 833 f3), (h4, zi k4 400 f4)] ∧ va_S A s.heap H locs ∧ lv_has ls 5 [(0, .ref h0), (1, .int x1), (2, .int x2), (3, .int r1_), (4, .int 1)] ∧ zA 0 1250 f2 ∧ zA 0 832 f5 ∧ (1 ≤ (1 : Int32).toInt ∧ (1 : Int32).toInt ≤ 32) ∧ (0 ≤ (v0 8).toInt ∧ (v0 8).toInt ≤ 833) ∧ (0 ≤ (v0 9).toInt ∧ (v0 9).toInt ≤ 1250) ∧ (zPhi f2 f5 f6 (v0 9).toInt (v0 8).toInt) := ⟨hP, hD, hS, lv_sub hl [2, 3, 4, 1, 0] rfl, hf2, hf5, ⟨by omega, by omega⟩, ⟨by omega, by omega⟩, ⟨by omega, by omega⟩, by assumption⟩
    exact hJ8 H locs ls (fun i => ([1, (v0 8), (v0 9), (v0 10), (v0 11)] : List (Int32)).getD i 0) (fun _ => 0) (fun i => ([f1, f2, f3, f4, f5, f6] : List (Nat → Int32)).getD i (fun _ => 0)) (fun _ => (fun _ => 0)) hc
set_option maxHeartbeats 8000000 in
set_option maxRecDepth 100000 in
theorem sX6_startDocument_0 (l : Launch) (dC : Nat → ClassId) (dI : Nat → Nat → Nat) (adK adV : Nat → Nat) (h0 : Nat) (h8 : Nat) (h6 : Nat) (h5 : Nat) (h2 : Nat) (h1 : Nat) (h3 : Nat) (h4 : Nat) (h7 : Nat) (k8 : ClassId) (k6 : ClassId) (k5 : ClassId) (k2 : ClassId) (k1 : ClassId) (k3 : ClassId) (k4 : ClassId) (k7 : ClassId) (sz : Nat) (v0 : Nat → Int32) (f8 : Nat → Int32) (f6 : Nat → Int32) (f5 : Nat → Int32) (f2 : Nat → Int32) (f1 : Nat → Int32) (f3 : Nat → Int32) (f4 : Nat → Int32) (f7 : Nat → Int32) (x1 : Int32) (x2 : Int32) (x3 : Int32) (hv0 : zR rg_Postings v0) (hf5 : zA 0 832 f5) (hf2 : zA 0 1250 f2) (hp0_ : zPhi f2 f5 f6 (v0 9).toInt (v0 8).toInt) : Met l yX6_startDocument (zw yX6_startDocument cX6_startDocument 4 none) { frames := 4, cells := 0, slots := 0, locals := 91 } (zPc dC dI adK adV [.ref h0, .int x1, .int x2, .int x3] sz [(h0, .inr (6, mX6 h1 h2 h3 h4 h5 h6 h7 h8 v0)), (h8, zi k8 400 f8), (h6, zi k6 400 f6), (h5, zi k5 400 f5), (h2, zi k2 833 f2), (h1, zi k1 1250 f1), (h3, zi k3 833 f3), (h4, zi k4 400 f4), (h7, zi k7 400 f7)] [(k8, .int), (k6, .int), (k5, .int), (k2, .int), (k1, .int), (k3, .int), (k4, .int), (k7, .int)]) (va_Qv (fun (u : Nat → Int32) => (0 ≤ (u 0).toInt ∧ (u 0).toInt ≤ 833) ∧ (0 ≤ (u 1).toInt ∧ (u 1).toInt ≤ 1250)) (fun (u : Nat → Int32) (t : State) => ∃ (ww : Nat → Int64) (aa : Nat → Nat → Int32) (bb : Nat → Nat → Int64), zA 0 832 (aa 2) ∧ zA 0 1250 (aa 3) ∧ (zPhi (aa 3) (aa 2) (aa 1) (u 1).toInt (u 0).toInt) ∧ va_P (dC, dI) vwCl [(h0, .inr (6, mX6 h1 h2 h3 h4 h5 h6 h7 h8 (upd (upd (upd (upd v0 8 (u 0)) 9 (u 1)) 10 (u 2)) 11 (u 3)))), (h8, zi k8 400 (aa 0)), (h6, zi k6 400 (aa 1)), (h5, zi k5 400 (aa 2)), (h2, zi k2 833 (aa 3)), (h1, zi k1 1250 (aa 4)), (h3, zi k3 833 (aa 5)), (h4, zi k4 400 (aa 6)), (h7, zi k7 400 (aa 7))] t.heap ∧ va_K (dC, dI) vwCl [(k8, .int), (k6, .int), (k5, .int), (k2, .int), (k1, .int), (k3, .int), (k4, .int), (k7, .int)] t ∧ va_D (va_A [(h0, .inr (6, mX6 h1 h2 h3 h4 h5 h6 h7 h8 v0)), (h8, zi k8 400 f8), (h6, zi k6 400 f6), (h5, zi k5 400 f5), (h2, zi k2 833 f2), (h1, zi k1 1250 f1), (h3, zi k3 833 f3), (h4, zi k4 400 f4), (h7, zi k7 400 f7)] sz) [(h0, .inr (6, mX6 h1 h2 h3 h4 h5 h6 h7 h8 (upd (upd (upd (upd v0 8 (u 0)) 9 (u 1)) 10 (u 2)) 11 (u 3)))), (h8, zi k8 400 (aa 0)), (h6, zi k6 400 (aa 1)), (h5, zi k5 400 (aa 2)), (h2, zi k2 833 (aa 3)), (h1, zi k1 1250 (aa 4)), (h3, zi k3 833 (aa 5)), (h4, zi k4 400 (aa 6)), (h7, zi k7 400 (aa 7))]) (va_A [(h0, .inr (6, mX6 h1 h2 h3 h4 h5 h6 h7 h8 v0)), (h8, zi k8 400 f8), (h6, zi k6 400 f6), (h5, zi k5 400 f5), (h2, zi k2 833 f2), (h1, zi k1 1250 f1), (h3, zi k3 833 f3), (h4, zi k4 400 f4), (h7, zi k7 400 f7)] sz)) 0 0 (va_A [(h0, .inr (6, mX6 h1 h2 h3 h4 h5 h6 h7 h8 v0)), (h8, zi k8 400 f8), (h6, zi k6 400 f6), (h5, zi k5 400 f5), (h2, zi k2 833 f2), (h1, zi k1 1250 f1), (h3, zi k3 833 f3), (h4, zi k4 400 f4), (h7, zi k7 400 f7)] sz) := by
  refine Met.ofW (cc := cX6_startDocument) (maxL := 4) (ret := none) (by decide) rfl ?_
  intro p e s m args below meth c s₁ B hml hv
  obtain ⟨rfl, hsz, hP, hK, hD0, hE, hZ⟩ := hv
  have hx := B.exec
  have hb := B.bytes
  have hr := B.returns
  have hG : ∀ w ∈ zG, w.before _ s = true := fun w h => atoms_spec (ws := (zw yX6_startDocument cX6_startDocument 4 none)) B.pre w (List.mem_cons_of_mem _ h)
  have hown : s.vm.findClass RX6 = some m.cls := findClass_of_methodNamed B.named
  have hlocks := B.notSynchronized

  subst hsz
  have hD := hD0.self (sz := s.heap.size)
  generalize hAe : va_A [(h0, .inr (6, mX6 h1 h2 h3 h4 h5 h6 h7 h8 v0)), (h8, zi k8 400 f8), (h6, zi k6 400 f6), (h5, zi k5 400 f5), (h2, zi k2 833 f2), (h1, zi k1 1250 f1), (h3, zi k3 833 f3), (h4, zi k4 400 f4), (h7, zi k7 400 f7)] s.heap.size = A at hD hZ ⊢
  have hA : ∀ q : Nat, s.heap.size ≤ q → A q := fun q h => by rw [← hAe]; exact Or.inr h
  have hS : va_S A s.heap s.heap [] := va_S.rf
  have hl := lv_entry ([.ref h0, .int x1, .int x2, .int x3]) (n := 4) (Nat.le_of_ble_eq_true rfl)
  rw [lg_entry_eq]
  generalize (lg_sl ([.ref h0, .int x1, .int x2, .int x3]) ++ List.replicate (4 - (lg_sl ([.ref h0, .int x1, .int x2, .int x3])).length) Slot.unset).toArray = ls at hl ⊢
  have hl : lv_has ls 4 [(0, .ref h0), (1, .int x1), (2, .int x2), (3, .int x3)] := hl
  have b_ : 0 ≤ (v0 9).toInt ∧ (v0 9).toInt ≤ 1250 := hv0 9
  have b_ : 0 ≤ (v0 8).toInt ∧ (v0 8).toInt ≤ 833 := hv0 8
  refine lv_iload_n hx hb dX6_startDocument_0 rfl (lv_at hl 1 rfl) ?_
  have hPc := hP.sub (ws' := []) [] rfl
  have hDc := hD.sub (ws' := []) [] (by decide) rfl
  have hKc := hK.sub (tys' := []) [] rfl
  have hFc := va_free (wc := []) hD hS hA [] rfl
  refine va_calli (va_runS (As := [.int x1]) (rest := []) ⟨hx, hb, hml, hown, hG⟩ (sX6_isId_0 l dC dI adK adV s.heap.size x1) (va_cwS 1 hG (zgS zv775 zv776 zv133 zv777) rfl rfl rfl (by decide +kernel) ⟨Nat.le_of_ble_eq_true rfl, Nat.le_of_ble_eq_true rfl⟩) ⟨zPc_blind, zPc_pre hPc hKc hDc hE hS hFc hZ⟩ rfl rfl hl.1 rfl (lv_room (Nat.le_of_ble_eq_true rfl)) dX6_startDocument_1 ⟨Nat.le_of_ble_eq_true rfl, Nat.le_of_ble_eq_true rfl⟩) hS (fun q _ h => hFc q h) hFc (fun r1_ u1_ t H1 locs ht hvm hw hB hz1 hk1 hS => ?_)
  replace hw : (0 ≤ r1_.toInt ∧ r1_.toInt ≤ 1) ∧ (r1_.toInt = 1 → (0 ≤ x1.toInt ∧ x1.toInt ≤ 399)) := hw
  obtain ⟨b_, hX1_0⟩ := hw
  obtain ⟨w1_, a1_, b1_, hP1, hK1, hD1⟩ := hB
  rw [ht] at hP1
  obtain ⟨hP, hD⟩ := va_join (wr := [(h0, .inr (6, mX6 h1 h2 h3 h4 h5 h6 h7 h8 v0)), (h8, zi k8 400 f8), (h6, zi k6 400 f6), (h5, zi k5 400 f5), (h2, zi k2 833 f2), (h1, zi k1 1250 f1), (h3, zi k3 833 f3), (h4, zi k4 400 f4), (h7, zi k7 400 f7)]) (w1 := []) hP hD [] [0, 1, 2, 3, 4, 5, 6, 7, 8] rfl rfl (by decide) (by decide) hk1 hFc hP1 hD1
  have hP : va_P (dC, dI) vwCl [(h0, .inr (6, mX6 h1 h2 h3 h4 h5 h6 h7 h8 v0)), (h8, zi k8 400 f8), (h6, zi k6 400 f6), (h5, zi k5 400 f5), (h2, zi k2 833 f2), (h1, zi k1 1250 f1), (h3, zi k3 833 f3), (h4, zi k4 400 f4), (h7, zi k7 400 f7)] H1 := hP.sub [0, 1, 2, 3, 4, 5, 6, 7, 8] rfl
  have hD : va_D A [(h0, .inr (6, mX6 h1 h2 h3 h4 h5 h6 h7 h8 v0)), (h8, zi k8 400 f8), (h6, zi k6 400 f6), (h5, zi k5 400 f5), (h2, zi k2 833 f2), (h1, zi k1 1250 f1), (h3, zi k3 833 f3), (h4, zi k4 400 f4), (h7, zi k7 400 f7)] := hD.sub [0, 1, 2, 3, 4, 5, 6, 7, 8] (by decide) rfl
  generalize H1 = H at hP hS ⊢
  clear hz1
  refine lv_if_eq (tgt := 44) hx hb dX6_startDocument_4 (by decide) (fun c_ => ?_) (fun c_ => ?_)
  · skip
    have b_ := zT_eq rfl zk_0 c_
    refine W.widen (k := 0) (n := 0) (by decide) (by decide) ?_
    have b_ : -2147483648 ≤ (v0 10).toInt ∧ (v0 10).toInt ≤ 2147483647 := ⟨zlo _, zhi _⟩
    have b_ : -2147483648 ≤ (v0 11).toInt ∧ (v0 11).toInt ≤ 2147483647 := ⟨zlo _, zhi _⟩
    have hpost : (0 ≤ (v0 8).toInt ∧ (v0 8).toInt ≤ 833) ∧ (0 ≤ (v0 9).toInt ∧ (v0 9).toInt ≤ 1250) := ⟨⟨by omega, by omega⟩, ⟨by omega, by omega⟩⟩
    have hP9 : va_P (dC, dI) vwCl [(h0, .inr (6, mX6 h1 h2 h3 h4 h5 h6 h7 h8 (upd (upd (upd (upd v0 8 (v0 8)) 9 (v0 9)) 10 (v0 10)) 11 (v0 11)))), (h8, zi k8 400 f8), (h6, zi k6 400 f6), (h5, zi k5 400 f5), (h2, zi k2 833 f2), (h1, zi k1 1250 f1), (h3, zi k3 833 f3), (h4, zi k4 400 f4), (h7, zi k7 400 f7)] H := hP
    have hD9 : va_D A [(h0, .inr (6, mX6 h1 h2 h3 h4 h5 h6 h7 h8 (upd (upd (upd (upd v0 8 (v0 8)) 9 (v0 9)) 10 (v0 10)) 11 (v0 11)))), (h8, zi k8 400 f8), (h6, zi k6 400 f6), (h5, zi k5 400 f5), (h2, zi k2 833 f2), (h1, zi k1 1250 f1), (h3, zi k3 833 f3), (h4, zi k4 400 f4), (h7, zi k7 400 f7)] := hD
    have hB0 : zPhi f2 f5 f6 (v0 9).toInt (v0 8).toInt := by assumption
    exact W.vret hx hb hr (fun t ht hW => ⟨⟨(fun i => ([(v0 8), (v0 9), (v0 10), (v0 11)] : List (Int32)).getD i 0), rfl, hpost, (fun _ => 0), (fun i => ([f8, f6, f5, f2, f1, f3, f4, f7] : List (Nat → Int32)).getD i (fun _ => 0)), (fun _ => (fun _ => 0)), hf5, hf2, hB0, by rw [ht]; exact hP9, va_K.moved hW.alike hK, hD9⟩, hS.F ht⟩) hS.2.2 dX6_startDocument_44
  · skip
    have b_ := zF_eq rfl zk_0 c_
    refine lv_aload_n hx hb dX6_startDocument_7 rfl (lv_at hl 0 rfl) ?_
    refine lv_iload_n hx hb dX6_startDocument_8 rfl (lv_at hl 1 rfl) ?_
    refine lv_iload_n hx hb dX6_startDocument_9 rfl (lv_at hl 2 rfl) ?_
    refine lv_aload_n hx hb dX6_startDocument_10 rfl (lv_at hl 0 rfl) ?_
    refine lv_iload_n hx hb dX6_startDocument_11 rfl (lv_at hl 1 rfl) ?_
    have hPc := hP.sub (ws' := [(h0, .inr (6, mX6 h1 h2 h3 h4 h5 h6 h7 h8 v0)), (h8, zi k8 400 f8)]) [0, 1] rfl
    have hDc := hD.sub (ws' := [(h0, .inr (6, mX6 h1 h2 h3 h4 h5 h6 h7 h8 v0)), (h8, zi k8 400 f8)]) [0, 1] (by decide) rfl
    have hKc := hK.sub (tys' := [(k8, .int)]) [0] rfl
    have hFc := va_free (wc := [(h0, .inr (6, mX6 h1 h2 h3 h4 h5 h6 h7 h8 v0)), (h8, zi k8 400 f8)]) hD hS hA [0, 1] rfl
    refine va_calli (va_runV (As := [.int x1]) (rest := [.int x2, .int x1, .ref h0]) ⟨hx, hb, hml, hown, hG⟩ (sX6_latestOf_0 l dC dI adK adV h0 h8 h1 h2 h3 h4 h5 h6 h7 k8 H.size v0 f8 x1 hv0) (cwV 1 hG (zgV zv834 zv779 zv780 zv133 zv781) rfl rfl rfl (by decide +kernel) ⟨Nat.le_of_ble_eq_true rfl, Nat.le_of_ble_eq_true rfl⟩) ⟨zPc_blind, va_recv hKc hPc (ci := 6) (q0 := 0) rfl rfl, zPc_pre hPc hKc hDc hE hS hFc hZ⟩ rfl rfl hl.1 rfl (lv_room (Nat.le_of_ble_eq_true rfl)) dX6_startDocument_12 ⟨Nat.le_of_ble_eq_true rfl, Nat.le_of_ble_eq_true rfl⟩) hS (fun q _ h => hFc q h) hFc (fun r12_ u12_ t H1 locs ht hvm hw hB hz1 hk1 hS => ?_)
    obtain ⟨w12_, a12_, b12_, hP1, hK1, hD1⟩ := hB
    rw [ht] at hP1
    obtain ⟨hP, hD⟩ := va_join (wr := [(h6, zi k6 400 f6), (h5, zi k5 400 f5), (h2, zi k2 833 f2), (h1, zi k1 1250 f1), (h3, zi k3 833 f3), (h4, zi k4 400 f4), (h7, zi k7 400 f7)]) (w1 := [(h0, .inr (6, mX6 h1 h2 h3 h4 h5 h6 h7 h8 v0)), (h8, zi k8 400 f8)]) hP hD [0, 1] [2, 3, 4, 5, 6, 7, 8] rfl rfl (by decide) (by decide) hk1 hFc hP1 hD1
    have hP : va_P (dC, dI) vwCl [(h0, .inr (6, mX6 h1 h2 h3 h4 h5 h6 h7 h8 v0)), (h8, zi k8 400 f8), (h6, zi k6 400 f6), (h5, zi k5 400 f5), (h2, zi k2 833 f2), (h1, zi k1 1250 f1), (h3, zi k3 833 f3), (h4, zi k4 400 f4), (h7, zi k7 400 f7)] H1 := hP.sub [7, 8, 0, 1, 2, 3, 4, 5, 6] rfl
    have hD : va_D A [(h0, .inr (6, mX6 h1 h2 h3 h4 h5 h6 h7 h8 v0)), (h8, zi k8 400 f8), (h6, zi k6 400 f6), (h5, zi k5 400 f5), (h2, zi k2 833 f2), (h1, zi k1 1250 f1), (h3, zi k3 833 f3), (h4, zi k4 400 f4), (h7, zi k7 400 f7)] := hD.sub [7, 8, 0, 1, 2, 3, 4, 5, 6] (by decide) rfl
    generalize H1 = H at hP hS ⊢
    clear hz1
    have b_ : -2147483648 ≤ x2.toInt ∧ x2.toInt ≤ 2147483647 := ⟨zlo _, zhi _⟩
    have b_ : -2147483648 ≤ r12_.toInt ∧ r12_.toInt ≤ 2147483647 := ⟨zlo _, zhi _⟩
    refine lv_isub hx hb dX6_startDocument_15 ?_
    refine lv_topi (fun z15 e_z15 => ?_)
    have hPc := hP.sub (ws' := [(h0, .inr (6, mX6 h1 h2 h3 h4 h5 h6 h7 h8 v0)), (h6, zi k6 400 f6), (h5, zi k5 400 f5), (h2, zi k2 833 f2), (h1, zi k1 1250 f1), (h3, zi k3 833 f3), (h4, zi k4 400 f4)]) [0, 2, 3, 4, 5, 6, 7] rfl
    have hDc := hD.sub (ws' := [(h0, .inr (6, mX6 h1 h2 h3 h4 h5 h6 h7 h8 v0)), (h6, zi k6 400 f6), (h5, zi k5 400 f5), (h2, zi k2 833 f2), (h1, zi k1 1250 f1), (h3, zi k3 833 f3), (h4, zi k4 400 f4)]) [0, 2, 3, 4, 5, 6, 7] (by decide) rfl
    have hKc := hK.sub (tys' := [(k6, .int), (k5, .int), (k2, .int), (k1, .int), (k3, .int), (k4, .int)]) [1, 2, 3, 4, 5, 6] rfl
    have hFc := va_free (wc := [(h0, .inr (6, mX6 h1 h2 h3 h4 h5 h6 h7 h8 v0)), (h6, zi k6 400 f6), (h5, zi k5 400 f5), (h2, zi k2 833 f2), (h1, zi k1 1250 f1), (h3, zi k3 833 f3), (h4, zi k4 400 f4)]) hD hS hA [0, 2, 3, 4, 5, 6, 7] rfl
    refine va_callv (va_runV (As := [.int x1, .int z15]) (rest := []) ⟨hx, hb, hml, hown, hG⟩ (sX6_append_0 l dC dI adK adV h0 h6 h5 h2 h1 h3 h4 h7 h8 k6 k5 k2 k1 k3 k4 H.size v0 f6 f5 f2 f1 f3 f4 x1 z15 hv0 hf5 hf2 (show zPhi f2 f5 f6 (v0 9).toInt (v0 8).toInt from by assumption)) (cwV 2 hG (zgV zv835 zv836 zv837 zv133 zv838) rfl rfl rfl (by decide +kernel) ⟨Nat.le_of_ble_eq_true rfl, Nat.le_of_ble_eq_true rfl⟩) ⟨zPc_blind, va_recv hKc hPc (ci := 6) (q0 := 0) rfl rfl, zPc_pre hPc hKc hDc hE hS hFc hZ⟩ rfl rfl hl.1 rfl (lv_room (Nat.le_of_ble_eq_true rfl)) dX6_startDocument_16 ⟨Nat.le_of_ble_eq_true rfl, Nat.le_of_ble_eq_true rfl⟩) hS (fun q _ h => hFc q h) hFc (fun u16_ t H1 locs ht hvm hw hB hz1 hk1 hS => ?_)
    replace hw : (0 ≤ (u16_ 0).toInt ∧ (u16_ 0).toInt ≤ 833) ∧ (0 ≤ (u16_ 1).toInt ∧ (u16_ 1).toInt ≤ 1250) := hw
    obtain ⟨b_, b_⟩ := hw
    obtain ⟨w16_, a16_, b16_, ha16_1, ha16_2, hB16_0, hP1, hK1, hD1⟩ := hB
    have hB16_0 : zPhi (a16_ 2) (a16_ 1) (a16_ 0) (u16_ 1).toInt (u16_ 0).toInt := hB16_0
    rw [ht] at hP1
    obtain ⟨hP, hD⟩ := va_join (wr := [(h8, zi k8 400 f8), (h7, zi k7 400 f7)]) (w1 := [(h0, .inr (6, mX6 h1 h2 h3 h4 h5 h6 h7 h8 (upd (upd (upd (upd v0 8 (u16_ 0)) 9 (u16_ 1)) 10 (u16_ 2)) 11 (u16_ 3)))), (h6, zi k6 400 (a16_ 0)), (h5, zi k5 400 (a16_ 1)), (h2, zi k2 833 (a16_ 2)), (h1, zi k1 1250 (a16_ 3)), (h3, zi k3 833 (a16_ 4)), (h4, zi k4 400 (a16_ 5))]) hP hD [0, 2, 3, 4, 5, 6, 7] [1, 8] rfl rfl (by decide) (by decide) hk1 hFc hP1 hD1
    have hP : va_P (dC, dI) vwCl [(h0, .inr (6, mX6 h1 h2 h3 h4 h5 h6 h7 h8 (upd (upd (upd (upd v0 8 (u16_ 0)) 9 (u16_ 1)) 10 (u16_ 2)) 11 (u16_ 3)))), (h8, zi k8 400 f8), (h6, zi k6 400 (a16_ 0)), (h5, zi k5 400 (a16_ 1)), (h2, zi k2 833 (a16_ 2)), (h1, zi k1 1250 (a16_ 3)), (h3, zi k3 833 (a16_ 4)), (h4, zi k4 400 (a16_ 5)), (h7, zi k7 400 f7)] H1 := hP.sub [2, 0, 3, 4, 5, 6, 7, 8, 1] rfl
    have hD : va_D A [(h0, .inr (6, mX6 h1 h2 h3 h4 h5 h6 h7 h8 (upd (upd (upd (upd v0 8 (u16_ 0)) 9 (u16_ 1)) 10 (u16_ 2)) 11 (u16_ 3)))), (h8, zi k8 400 f8), (h6, zi k6 400 (a16_ 0)), (h5, zi k5 400 (a16_ 1)), (h2, zi k2 833 (a16_ 2)), (h1, zi k1 1250 (a16_ 3)), (h3, zi k3 833 (a16_ 4)), (h4, zi k4 400 (a16_ 5)), (h7, zi k7 400 f7)] := hD.sub [2, 0, 3, 4, 5, 6, 7, 8, 1] (by decide) rfl
    generalize H1 = H at hP hS ⊢
    clear hz1
    refine lv_aload_n hx hb dX6_startDocument_19 rfl (lv_at hl 0 rfl) ?_
    refine lv_iload_n hx hb dX6_startDocument_20 rfl (lv_at hl 1 rfl) ?_
    refine lv_iload_n hx hb dX6_startDocument_21 rfl (lv_at hl 3 rfl) ?_
    have b_ : -2147483648 ≤ (u16_ 2).toInt ∧ (u16_ 2).toInt ≤ 2147483647 := ⟨zlo _, zhi _⟩
    have b_ : -2147483648 ≤ (u16_ 3).toInt ∧ (u16_ 3).toInt ≤ 2147483647 := ⟨zlo _, zhi _⟩
    have hPc := hP.sub (ws' := [(h0, .inr (6, mX6 h1 h2 h3 h4 h5 h6 h7 h8 (upd (upd (upd (upd v0 8 (u16_ 0)) 9 (u16_ 1)) 10 (u16_ 2)) 11 (u16_ 3)))), (h6, zi k6 400 (a16_ 0)), (h5, zi k5 400 (a16_ 1)), (h2, zi k2 833 (a16_ 2)), (h1, zi k1 1250 (a16_ 3)), (h3, zi k3 833 (a16_ 4)), (h4, zi k4 400 (a16_ 5))]) [0, 2, 3, 4, 5, 6, 7] rfl
    have hDc := hD.sub (ws' := [(h0, .inr (6, mX6 h1 h2 h3 h4 h5 h6 h7 h8 (upd (upd (upd (upd v0 8 (u16_ 0)) 9 (u16_ 1)) 10 (u16_ 2)) 11 (u16_ 3)))), (h6, zi k6 400 (a16_ 0)), (h5, zi k5 400 (a16_ 1)), (h2, zi k2 833 (a16_ 2)), (h1, zi k1 1250 (a16_ 3)), (h3, zi k3 833 (a16_ 4)), (h4, zi k4 400 (a16_ 5))]) [0, 2, 3, 4, 5, 6, 7] (by decide) rfl
    have hKc := hK.sub (tys' := [(k6, .int), (k5, .int), (k2, .int), (k1, .int), (k3, .int), (k4, .int)]) [1, 2, 3, 4, 5, 6] rfl
    have hFc := va_free (wc := [(h0, .inr (6, mX6 h1 h2 h3 h4 h5 h6 h7 h8 (upd (upd (upd (upd v0 8 (u16_ 0)) 9 (u16_ 1)) 10 (u16_ 2)) 11 (u16_ 3)))), (h6, zi k6 400 (a16_ 0)), (h5, zi k5 400 (a16_ 1)), (h2, zi k2 833 (a16_ 2)), (h1, zi k1 1250 (a16_ 3)), (h3, zi k3 833 (a16_ 4)), (h4, zi k4 400 (a16_ 5))]) hD hS hA [0, 2, 3, 4, 5, 6, 7] rfl
    refine va_callv (va_runV (As := [.int x1, .int x3]) (rest := []) ⟨hx, hb, hml, hown, hG⟩ (sX6_append_0 l dC dI adK adV h0 h6 h5 h2 h1 h3 h4 h7 h8 k6 k5 k2 k1 k3 k4 H.size (upd (upd (upd (upd v0 8 (u16_ 0)) 9 (u16_ 1)) 10 (u16_ 2)) 11 (u16_ 3)) (a16_ 0) (a16_ 1) (a16_ 2) (a16_ 3) (a16_ 4) (a16_ 5) x1 x3 (zR_updF (zR_updF (zR_upd (zR_upd hv0 8 (show (0 : Int) ≤ ((u16_ 0) : Int32).toInt from by omega) (show ((u16_ 0) : Int32).toInt ≤ (833 : Int) from by omega)) 9 (show (0 : Int) ≤ ((u16_ 1) : Int32).toInt from by omega) (show ((u16_ 1) : Int32).toInt ≤ (1250 : Int) from by omega)) 10 rfl) 11 rfl) ha16_1 ha16_2 (show zPhi (a16_ 2) (a16_ 1) (a16_ 0) (u16_ 1).toInt (u16_ 0).toInt from by assumption)) (cwV 2 hG (zgV zv835 zv836 zv837 zv133 zv838) rfl rfl rfl (by decide +kernel) ⟨Nat.le_of_ble_eq_true rfl, Nat.le_of_ble_eq_true rfl⟩) ⟨zPc_blind, va_recv hKc hPc (ci := 6) (q0 := 0) rfl rfl, zPc_pre hPc hKc hDc hE hS hFc hZ⟩ rfl rfl hl.1 rfl (lv_room (Nat.le_of_ble_eq_true rfl)) dX6_startDocument_22 ⟨Nat.le_of_ble_eq_true rfl, Nat.le_of_ble_eq_true rfl⟩) hS (fun q _ h => hFc q h) hFc (fun u22_ t H1 locs ht hvm hw hB hz1 hk1 hS => ?_)
    replace hw : (0 ≤ (u22_ 0).toInt ∧ (u22_ 0).toInt ≤ 833) ∧ (0 ≤ (u22_ 1).toInt ∧ (u22_ 1).toInt ≤ 1250) := hw
    obtain ⟨b_, b_⟩ := hw
    obtain ⟨w22_, a22_, b22_, ha22_1, ha22_2, hB22_0, hP1, hK1, hD1⟩ := hB
    have hB22_0 : zPhi (a22_ 2) (a22_ 1) (a22_ 0) (u22_ 1).toInt (u22_ 0).toInt := hB22_0
    rw [ht] at hP1
    obtain ⟨hP, hD⟩ := va_join (wr := [(h8, zi k8 400 f8), (h7, zi k7 400 f7)]) (w1 := [(h0, .inr (6, mX6 h1 h2 h3 h4 h5 h6 h7 h8 (upd (upd (upd (upd v0 8 (u22_ 0)) 9 (u22_ 1)) 10 (u22_ 2)) 11 (u22_ 3)))), (h6, zi k6 400 (a22_ 0)), (h5, zi k5 400 (a22_ 1)), (h2, zi k2 833 (a22_ 2)), (h1, zi k1 1250 (a22_ 3)), (h3, zi k3 833 (a22_ 4)), (h4, zi k4 400 (a22_ 5))]) hP hD [0, 2, 3, 4, 5, 6, 7] [1, 8] rfl rfl (by decide) (by decide) hk1 hFc hP1 hD1
    have hP : va_P (dC, dI) vwCl [(h0, .inr (6, mX6 h1 h2 h3 h4 h5 h6 h7 h8 (upd (upd (upd (upd v0 8 (u22_ 0)) 9 (u22_ 1)) 10 (u22_ 2)) 11 (u22_ 3)))), (h8, zi k8 400 f8), (h6, zi k6 400 (a22_ 0)), (h5, zi k5 400 (a22_ 1)), (h2, zi k2 833 (a22_ 2)), (h1, zi k1 1250 (a22_ 3)), (h3, zi k3 833 (a22_ 4)), (h4, zi k4 400 (a22_ 5)), (h7, zi k7 400 f7)] H1 := hP.sub [2, 0, 3, 4, 5, 6, 7, 8, 1] rfl
    have hD : va_D A [(h0, .inr (6, mX6 h1 h2 h3 h4 h5 h6 h7 h8 (upd (upd (upd (upd v0 8 (u22_ 0)) 9 (u22_ 1)) 10 (u22_ 2)) 11 (u22_ 3)))), (h8, zi k8 400 f8), (h6, zi k6 400 (a22_ 0)), (h5, zi k5 400 (a22_ 1)), (h2, zi k2 833 (a22_ 2)), (h1, zi k1 1250 (a22_ 3)), (h3, zi k3 833 (a22_ 4)), (h4, zi k4 400 (a22_ 5)), (h7, zi k7 400 f7)] := hD.sub [2, 0, 3, 4, 5, 6, 7, 8, 1] (by decide) rfl
    generalize H1 = H at hP hS ⊢
    clear hz1
    refine lv_aload_n hx hb dX6_startDocument_25 rfl (lv_at hl 0 rfl) ?_
    refine va_get (D := (dC, dI)) (ci := 6) (v := .ref h8) (C := RX6) (T := TX6) (N := 12) hx hb hG zuX6 hown hK hP 0 rfl rfl 7 (by decide) (hG _ zv255) (fun _ h9 => h9) rfl dX6_startDocument_26 ?_
    refine lv_iload_n hx hb dX6_startDocument_29 rfl (lv_at hl 1 rfl) ?_
    refine lv_iload_n hx hb dX6_startDocument_30 rfl (lv_at hl 2 rfl) ?_
    refine lv_iconst (v := 1) hx hb dX6_startDocument_31 (by decide) ?_
    refine lv_iadd hx hb dX6_startDocument_32 ?_
    refine lv_topi (fun z32 e_z32 => ?_)
    refine va_iast hx hb hK hP hD hS 1 0 rfl rfl (zin_lit ⟨by omega, by omega⟩) dX6_startDocument_33 (fun H locs hP hD hS => ?_)
    obtain ⟨f_33, e_f_33⟩ : ∃ z : Nat → Int32, z = upd f8 (x1 : Int32).toNatClampNeg z32 := ⟨_, rfl⟩
    have hP : va_P (dC, dI) vwCl [(h0, .inr (6, mX6 h1 h2 h3 h4 h5 h6 h7 h8 (upd (upd (upd (upd v0 8 (u22_ 0)) 9 (u22_ 1)) 10 (u22_ 2)) 11 (u22_ 3)))), (h8, zi k8 400 f_33), (h6, zi k6 400 (a22_ 0)), (h5, zi k5 400 (a22_ 1)), (h2, zi k2 833 (a22_ 2)), (h1, zi k1 1250 (a22_ 3)), (h3, zi k3 833 (a22_ 4)), (h4, zi k4 400 (a22_ 5)), (h7, zi k7 400 f7)] H := by rw [e_f_33]; exact hP
    have hD : va_D A [(h0, .inr (6, mX6 h1 h2 h3 h4 h5 h6 h7 h8 (upd (upd (upd (upd v0 8 (u22_ 0)) 9 (u22_ 1)) 10 (u22_ 2)) 11 (u22_ 3)))), (h8, zi k8 400 f_33), (h6, zi k6 400 (a22_ 0)), (h5, zi k5 400 (a22_ 1)), (h2, zi k2 833 (a22_ 2)), (h1, zi k1 1250 (a22_ 3)), (h3, zi k3 833 (a22_ 4)), (h4, zi k4 400 (a22_ 5)), (h7, zi k7 400 f7)] := by rw [e_f_33]; exact hD
    refine lv_aload_n hx hb dX6_startDocument_34 rfl (lv_at hl 0 rfl) ?_
    refine va_get (D := (dC, dI)) (ci := 6) (v := .ref h7) (C := RX6) (T := TX6) (N := 12) hx hb hG zuX6 hown hK hP 0 rfl rfl 6 (by decide) (hG _ zv254) (fun _ h9 => h9) rfl dX6_startDocument_35 ?_
    refine lv_iload_n hx hb dX6_startDocument_38 rfl (lv_at hl 1 rfl) ?_
    refine lv_dup2_11 hx hb dX6_startDocument_39 rfl rfl ?_
    refine va_iald hx hb hK hP 8 7 rfl rfl (zin_lit ⟨by omega, by omega⟩) dX6_startDocument_40 ?_
    refine lv_topi (fun z40 e_z40 => ?_)
    refine lv_iconst (v := 1) hx hb dX6_startDocument_41 (by decide) ?_
    have b_ : -2147483648 ≤ z40.toInt ∧ z40.toInt ≤ 2147483647 := ⟨zlo _, zhi _⟩
    refine lv_iadd hx hb dX6_startDocument_42 ?_
    refine lv_topi (fun z42 e_z42 => ?_)
    refine va_iast hx hb hK hP hD hS 8 7 rfl rfl (zin_lit ⟨by omega, by omega⟩) dX6_startDocument_43 (fun H locs hP hD hS => ?_)
    obtain ⟨f_43, e_f_43⟩ : ∃ z : Nat → Int32, z = upd f7 (x1 : Int32).toNatClampNeg z42 := ⟨_, rfl⟩
    have hP : va_P (dC, dI) vwCl [(h0, .inr (6, mX6 h1 h2 h3 h4 h5 h6 h7 h8 (upd (upd (upd (upd v0 8 (u22_ 0)) 9 (u22_ 1)) 10 (u22_ 2)) 11 (u22_ 3)))), (h8, zi k8 400 f_33), (h6, zi k6 400 (a22_ 0)), (h5, zi k5 400 (a22_ 1)), (h2, zi k2 833 (a22_ 2)), (h1, zi k1 1250 (a22_ 3)), (h3, zi k3 833 (a22_ 4)), (h4, zi k4 400 (a22_ 5)), (h7, zi k7 400 f_43)] H := by rw [e_f_43]; exact hP
    have hD : va_D A [(h0, .inr (6, mX6 h1 h2 h3 h4 h5 h6 h7 h8 (upd (upd (upd (upd v0 8 (u22_ 0)) 9 (u22_ 1)) 10 (u22_ 2)) 11 (u22_ 3)))), (h8, zi k8 400 f_33), (h6, zi k6 400 (a22_ 0)), (h5, zi k5 400 (a22_ 1)), (h2, zi k2 833 (a22_ 2)), (h1, zi k1 1250 (a22_ 3)), (h3, zi k3 833 (a22_ 4)), (h4, zi k4 400 (a22_ 5)), (h7, zi k7 400 f_43)] := by rw [e_f_43]; exact hD
    refine W.widen (k := 0) (n := 0) (by decide) (by decide) ?_
    have b_ : -2147483648 ≤ (u22_ 2).toInt ∧ (u22_ 2).toInt ≤ 2147483647 := ⟨zlo _, zhi _⟩
    have b_ : -2147483648 ≤ (u22_ 3).toInt ∧ (u22_ 3).toInt ≤ 2147483647 := ⟨zlo _, zhi _⟩
    have hpost : (0 ≤ (u22_ 0).toInt ∧ (u22_ 0).toInt ≤ 833) ∧ (0 ≤ (u22_ 1).toInt ∧ (u22_ 1).toInt ≤ 1250) := ⟨⟨by omega, by omega⟩, ⟨by omega, by omega⟩⟩
    have hP9 : va_P (dC, dI) vwCl [(h0, .inr (6, mX6 h1 h2 h3 h4 h5 h6 h7 h8 (upd (upd (upd (upd v0 8 (u22_ 0)) 9 (u22_ 1)) 10 (u22_ 2)) 11 (u22_ 3)))), (h8, zi k8 400 f_33), (h6, zi k6 400 (a22_ 0)), (h5, zi k5 400 (a22_ 1)), (h2, zi k2 833 (a22_ 2)), (h1, zi k1 1250 (a22_ 3)), (h3, zi k3 833 (a22_ 4)), (h4, zi k4 400 (a22_ 5)), (h7, zi k7 400 f_43)] H := hP
    have hD9 : va_D A [(h0, .inr (6, mX6 h1 h2 h3 h4 h5 h6 h7 h8 (upd (upd (upd (upd v0 8 (u22_ 0)) 9 (u22_ 1)) 10 (u22_ 2)) 11 (u22_ 3)))), (h8, zi k8 400 f_33), (h6, zi k6 400 (a22_ 0)), (h5, zi k5 400 (a22_ 1)), (h2, zi k2 833 (a22_ 2)), (h1, zi k1 1250 (a22_ 3)), (h3, zi k3 833 (a22_ 4)), (h4, zi k4 400 (a22_ 5)), (h7, zi k7 400 f_43)] := hD
    have hB0 : zPhi (a22_ 2) (a22_ 1) (a22_ 0) (u22_ 1).toInt (u22_ 0).toInt := by assumption
    exact W.vret hx hb hr (fun t ht hW => ⟨⟨(fun i => ([(u22_ 0), (u22_ 1), (u22_ 2), (u22_ 3)] : List (Int32)).getD i 0), rfl, hpost, (fun _ => 0), (fun i => ([f_33, (a22_ 0), (a22_ 1), (a22_ 2), (a22_ 3), (a22_ 4), (a22_ 5), f_43] : List (Nat → Int32)).getD i (fun _ => 0)), (fun _ => (fun _ => 0)), ha22_1, ha22_2, hB0, by rw [ht]; exact hP9, va_K.moved hW.alike hK, hD9⟩, hS.F ht⟩) hS.2.2 dX6_startDocument_44
set_option maxHeartbeats 8000000 in
set_option maxRecDepth 100000 in
theorem sX6_copyOn_0 (l : Launch) (dC : Nat → ClassId) (dI : Nat → Nat → Nat) (adK adV : Nat → Nat) (h9 : Nat) (h10 : Nat) (h13 : Nat) (h12 : Nat) (h11 : Nat) (h19 : Nat) (h20 : Nat) (h0 : Nat) (h8 : Nat) (h6 : Nat) (h5 : Nat) (h2 : Nat) (h1 : Nat) (h3 : Nat) (h4 : Nat) (h7 : Nat) (h14 : Nat) (h15 : Nat) (h16 : Nat) (h17 : Nat) (h18 : Nat) (h21 : Nat) (h22 : Nat) (h23 : Nat) (k13 : ClassId) (k12 : ClassId) (k11 : ClassId) (k20 : ClassId) (k8 : ClassId) (k6 : ClassId) (k5 : ClassId) (k2 : ClassId) (k1 : ClassId) (k3 : ClassId) (k4 : ClassId) (k7 : ClassId) (sz : Nat) (v9 : Nat → Int32) (v10 : Nat → Int32) (f13 : Nat → Int32) (f12 : Nat → Int32) (f11 : Nat → Int32) (v19 : Nat → Int32) (f20 : Nat → Int32) (v0 : Nat → Int32) (f8 : Nat → Int32) (f6 : Nat → Int32) (f5 : Nat → Int32) (f2 : Nat → Int32) (f1 : Nat → Int32) (f3 : Nat → Int32) (f4 : Nat → Int32) (f7 : Nat → Int32) (x1 : Int32) (hv10 : zR rg_Postings v10) (hf12 : zA 0 1250 f12) (hv19 : zR rg_Documents v19) (hv0 : zR rg_Postings v0) (hf5 : zA 0 832 f5) (hf2 : zA 0 1250 f2) (hp0_ : zPhi f2 f5 f6 (v0 9).toInt (v0 8).toInt) : Met l yX6_copyOn (zw yX6_copyOn cX6_copyOn 9 (some .boolean)) { frames := 5, cells := 0, slots := 0, locals := 114 } (zPc dC dI adK adV [.ref h0, .int x1, .ref h9, .ref h19] sz [(h9, .inr (8, mX8 h10 v9)), (h10, .inr (6, mX6 h11 h12 h13 h14 h15 h16 h17 h18 v10)), (h13, zi k13 833 f13), (h12, zi k12 833 f12), (h11, zi k11 1250 f11), (h19, .inr (0, mX0 h20 h21 h22 h23 v19)), (h20, zi k20 120 f20), (h0, .inr (6, mX6 h1 h2 h3 h4 h5 h6 h7 h8 v0)), (h8, zi k8 400 f8), (h6, zi k6 400 f6), (h5, zi k5 400 f5), (h2, zi k2 833 f2), (h1, zi k1 1250 f1), (h3, zi k3 833 f3), (h4, zi k4 400 f4), (h7, zi k7 400 f7)] [(k13, .int), (k12, .int), (k11, .int), (k20, .boolean), (k8, .int), (k6, .int), (k5, .int), (k2, .int), (k1, .int), (k3, .int), (k4, .int), (k7, .int)]) (va_Qi (fun (r : Int32) (u : Nat → Int32) => (0 ≤ r.toInt ∧ r.toInt ≤ 1) ∧ (0 ≤ (u 8).toInt ∧ (u 8).toInt ≤ 833) ∧ (0 ≤ (u 9).toInt ∧ (u 9).toInt ≤ 1250)) (fun (u : Nat → Int32) (t : State) => ∃ (ww : Nat → Int64) (aa : Nat → Nat → Int32) (bb : Nat → Nat → Int64), zA 0 832 (aa 2) ∧ zA 0 1250 (aa 3) ∧ (zPhi (aa 3) (aa 2) (aa 1) (u 9).toInt (u 8).toInt) ∧ va_P (dC, dI) vwCl [(h9, .inr (8, mX8 h10 (upd (upd (upd (upd (upd (upd (upd (upd v9 1 (u 0)) 2 (u 1)) 3 (u 2)) 4 (u 3)) 5 (u 4)) 6 (u 5)) 7 (u 6)) 8 (u 7)))), (h10, .inr (6, mX6 h11 h12 h13 h14 h15 h16 h17 h18 v10)), (h13, zi k13 833 f13), (h12, zi k12 833 f12), (h11, zi k11 1250 f11), (h19, .inr (0, mX0 h20 h21 h22 h23 v19)), (h20, zi k20 120 f20), (h0, .inr (6, mX6 h1 h2 h3 h4 h5 h6 h7 h8 (upd (upd (upd (upd v0 8 (u 8)) 9 (u 9)) 10 (u 10)) 11 (u 11)))), (h8, zi k8 400 (aa 0)), (h6, zi k6 400 (aa 1)), (h5, zi k5 400 (aa 2)), (h2, zi k2 833 (aa 3)), (h1, zi k1 1250 (aa 4)), (h3, zi k3 833 (aa 5)), (h4, zi k4 400 (aa 6)), (h7, zi k7 400 (aa 7))] t.heap ∧ va_K (dC, dI) vwCl [(k13, .int), (k12, .int), (k11, .int), (k20, .boolean), (k8, .int), (k6, .int), (k5, .int), (k2, .int), (k1, .int), (k3, .int), (k4, .int), (k7, .int)] t ∧ va_D (va_A [(h9, .inr (8, mX8 h10 v9)), (h10, .inr (6, mX6 h11 h12 h13 h14 h15 h16 h17 h18 v10)), (h13, zi k13 833 f13), (h12, zi k12 833 f12), (h11, zi k11 1250 f11), (h19, .inr (0, mX0 h20 h21 h22 h23 v19)), (h20, zi k20 120 f20), (h0, .inr (6, mX6 h1 h2 h3 h4 h5 h6 h7 h8 v0)), (h8, zi k8 400 f8), (h6, zi k6 400 f6), (h5, zi k5 400 f5), (h2, zi k2 833 f2), (h1, zi k1 1250 f1), (h3, zi k3 833 f3), (h4, zi k4 400 f4), (h7, zi k7 400 f7)] sz) [(h9, .inr (8, mX8 h10 (upd (upd (upd (upd (upd (upd (upd (upd v9 1 (u 0)) 2 (u 1)) 3 (u 2)) 4 (u 3)) 5 (u 4)) 6 (u 5)) 7 (u 6)) 8 (u 7)))), (h10, .inr (6, mX6 h11 h12 h13 h14 h15 h16 h17 h18 v10)), (h13, zi k13 833 f13), (h12, zi k12 833 f12), (h11, zi k11 1250 f11), (h19, .inr (0, mX0 h20 h21 h22 h23 v19)), (h20, zi k20 120 f20), (h0, .inr (6, mX6 h1 h2 h3 h4 h5 h6 h7 h8 (upd (upd (upd (upd v0 8 (u 8)) 9 (u 9)) 10 (u 10)) 11 (u 11)))), (h8, zi k8 400 (aa 0)), (h6, zi k6 400 (aa 1)), (h5, zi k5 400 (aa 2)), (h2, zi k2 833 (aa 3)), (h1, zi k1 1250 (aa 4)), (h3, zi k3 833 (aa 5)), (h4, zi k4 400 (aa 6)), (h7, zi k7 400 (aa 7))]) (va_A [(h9, .inr (8, mX8 h10 v9)), (h10, .inr (6, mX6 h11 h12 h13 h14 h15 h16 h17 h18 v10)), (h13, zi k13 833 f13), (h12, zi k12 833 f12), (h11, zi k11 1250 f11), (h19, .inr (0, mX0 h20 h21 h22 h23 v19)), (h20, zi k20 120 f20), (h0, .inr (6, mX6 h1 h2 h3 h4 h5 h6 h7 h8 v0)), (h8, zi k8 400 f8), (h6, zi k6 400 f6), (h5, zi k5 400 f5), (h2, zi k2 833 f2), (h1, zi k1 1250 f1), (h3, zi k3 833 f3), (h4, zi k4 400 f4), (h7, zi k7 400 f7)] sz)) 0 0 (va_A [(h9, .inr (8, mX8 h10 v9)), (h10, .inr (6, mX6 h11 h12 h13 h14 h15 h16 h17 h18 v10)), (h13, zi k13 833 f13), (h12, zi k12 833 f12), (h11, zi k11 1250 f11), (h19, .inr (0, mX0 h20 h21 h22 h23 v19)), (h20, zi k20 120 f20), (h0, .inr (6, mX6 h1 h2 h3 h4 h5 h6 h7 h8 v0)), (h8, zi k8 400 f8), (h6, zi k6 400 f6), (h5, zi k5 400 f5), (h2, zi k2 833 f2), (h1, zi k1 1250 f1), (h3, zi k3 833 f3), (h4, zi k4 400 f4), (h7, zi k7 400 f7)] sz) := by
  refine Met.ofW (cc := cX6_copyOn) (maxL := 9) (ret := (some .boolean)) (by decide) rfl ?_
  intro p e s m args below meth c s₁ B hml hv
  obtain ⟨rfl, hsz, hP, hK, hD0, hE, hZ⟩ := hv
  have hx := B.exec
  have hb := B.bytes
  have hr := B.returns
  have hG : ∀ w ∈ zG, w.before _ s = true := fun w h => atoms_spec (ws := (zw yX6_copyOn cX6_copyOn 9 (some .boolean))) B.pre w (List.mem_cons_of_mem _ h)
  have hown : s.vm.findClass RX6 = some m.cls := findClass_of_methodNamed B.named
  have hlocks := B.notSynchronized

  subst hsz
  have hD := hD0.self (sz := s.heap.size)
  generalize hAe : va_A [(h9, .inr (8, mX8 h10 v9)), (h10, .inr (6, mX6 h11 h12 h13 h14 h15 h16 h17 h18 v10)), (h13, zi k13 833 f13), (h12, zi k12 833 f12), (h11, zi k11 1250 f11), (h19, .inr (0, mX0 h20 h21 h22 h23 v19)), (h20, zi k20 120 f20), (h0, .inr (6, mX6 h1 h2 h3 h4 h5 h6 h7 h8 v0)), (h8, zi k8 400 f8), (h6, zi k6 400 f6), (h5, zi k5 400 f5), (h2, zi k2 833 f2), (h1, zi k1 1250 f1), (h3, zi k3 833 f3), (h4, zi k4 400 f4), (h7, zi k7 400 f7)] s.heap.size = A at hD hZ ⊢
  have hA : ∀ q : Nat, s.heap.size ≤ q → A q := fun q h => by rw [← hAe]; exact Or.inr h
  have hS : va_S A s.heap s.heap [] := va_S.rf
  have hl := lv_entry ([.ref h0, .int x1, .ref h9, .ref h19]) (n := 9) (Nat.le_of_ble_eq_true rfl)
  rw [lg_entry_eq]
  generalize (lg_sl ([.ref h0, .int x1, .ref h9, .ref h19]) ++ List.replicate (9 - (lg_sl ([.ref h0, .int x1, .ref h9, .ref h19])).length) Slot.unset).toArray = ls at hl ⊢
  have hl : lv_has ls 9 [(0, .ref h0), (1, .int x1), (2, .ref h9), (3, .ref h19)] := hl
  have b_ := zk_0
  have b_ := zk_1
  have b_ : 0 ≤ (v0 9).toInt ∧ (v0 9).toInt ≤ 1250 := hv0 9
  have b_ : 0 ≤ (v0 8).toInt ∧ (v0 8).toInt ≤ 833 := hv0 8
  refine lv_iconst (v := 0) hx hb dX6_copyOn_0 (by decide) ?_
  refine lv_istore (lv' := [(4, .int 0), (0, .ref h0), (1, .int x1), (2, .ref h9), (3, .ref h19)]) hx hb dX6_copyOn_1 hl (by decide) rfl (fun ls hl => ?_)
  refine lv_iconst (v := 0) hx hb dX6_copyOn_3 (by decide) ?_
  refine lv_istore (lv' := [(5, .int 0), (4, .int 0), (0, .ref h0), (1, .int x1), (2, .ref h9), (3, .ref h19)]) hx hb dX6_copyOn_4 hl (by decide) rfl (fun ls hl => ?_)
  refine zcutL (fun u6_ => (120 - (u6_ 1).toInt).toNat) (fun H locs ls u6_ w6_ a6_ b6_ => va_P (dC, dI) vwCl [(h9, .inr (8, mX8 h10 (upd (upd (upd (upd (upd (upd (upd (upd v9 1 (u6_ 2)) 2 (u6_ 3)) 3 (u6_ 4)) 4 (u6_ 5)) 5 (u6_ 6)) 6 (u6_ 7)) 7 (u6_ 8)) 8 (u6_ 9)))), (h10, .inr (6, mX6 h11 h12 h13 h14 h15 h16 h17 h18 v10)), (h13, zi k13 833 f13), (h12, zi k12 833 f12), (h11, zi k11 1250 f11), (h19, .inr (0, mX0 h20 h21 h22 h23 v19)), (h20, zi k20 120 f20), (h0, .inr (6, mX6 h1 h2 h3 h4 h5 h6 h7 h8 (upd (upd (upd (upd v0 8 (u6_ 10)) 9 (u6_ 11)) 10 (u6_ 12)) 11 (u6_ 13)))), (h8, zi k8 400 (a6_ 7)), (h6, zi k6 400 (a6_ 5)), (h5, zi k5 400 (a6_ 4)), (h2, zi k2 833 (a6_ 1)), (h1, zi k1 1250 (a6_ 0)), (h3, zi k3 833 (a6_ 2)), (h4, zi k4 400 (a6_ 3)), (h7, zi k7 400 (a6_ 6))] H ∧ va_D A [(h9, .inr (8, mX8 h10 (upd (upd (upd (upd (upd (upd (upd (upd v9 1 (u6_ 2)) 2 (u6_ 3)) 3 (u6_ 4)) 4 (u6_ 5)) 5 (u6_ 6)) 6 (u6_ 7)) 7 (u6_ 8)) 8 (u6_ 9)))), (h10, .inr (6, mX6 h11 h12 h13 h14 h15 h16 h17 h18 v10)), (h13, zi k13 833 f13), (h12, zi k12 833 f12), (h11, zi k11 1250 f11), (h19, .inr (0, mX0 h20 h21 h22 h23 v19)), (h20, zi k20 120 f20), (h0, .inr (6, mX6 h1 h2 h3 h4 h5 h6 h7 h8 (upd (upd (upd (upd v0 8 (u6_ 10)) 9 (u6_ 11)) 10 (u6_ 12)) 11 (u6_ 13)))), (h8, zi k8 400 (a6_ 7)), (h6, zi k6 400 (a6_ 5)), (h5, zi k5 400 (a6_ 4)), (h2, zi k2 833 (a6_ 1)), (h1, zi k1 1250 (a6_ 0)), (h3, zi k3 833 (a6_ 2)), (h4, zi k4 400 (a6_ 3)), (h7, zi k7 400 (a6_ 6))] ∧ va_S A s.heap H locs ∧ lv_has ls 9 [(0, .ref h0), (1, .int x1), (2, .ref h9), (3, .ref h19), (4, .int (u6_ 0)), (5, .int (u6_ 1))] ∧ zA 0 1250 (a6_ 1) ∧ zA 0 832 (a6_ 4) ∧ (0 ≤ (u6_ 0).toInt ∧ (u6_ 0).toInt ≤ 1) ∧ (0 ≤ (u6_ 1).toInt ∧ (u6_ 1).toInt ≤ 120) ∧ (0 ≤ (u6_ 10).toInt ∧ (u6_ 10).toInt ≤ 833) ∧ (0 ≤ (u6_ 11).toInt ∧ (u6_ 11).toInt ≤ 1250) ∧ (zPhi (a6_ 1) (a6_ 4) (a6_ 5) (u6_ 11).toInt (u6_ 10).toInt)) (fun ls u6_ w6_ => F0 m 6 ls []) 0 0 ?_ (fun hJ6 => ?_)
  · skip
    intro H locs ls u6_ w6_ a6_ b6_ hc hJ6
    obtain ⟨hP, hD, hS, hl, ha6_1, ha6_4, b_, b_, b_, b_, hI6_0⟩ := hc
    refine lv_iload hx hb dX6_copyOn_6 (lv_at hl 5 rfl) ?_
    refine lv_bipush (v := 120) hx hb dX6_copyOn_8 (by decide) ?_
    refine lv_icmp_ge (tgt := 94) hx hb dX6_copyOn_10 (by decide) (fun c_ => ?_) (fun c_ => ?_)
    · skip
      have b_ := zT_ge rfl zk_120 c_
      refine lv_iload hx hb dX6_copyOn_94 (lv_at hl 4 rfl) ?_
      refine W.widen (k := 0) (n := 0) (by decide) (by decide) ?_
      have b_ : -2147483648 ≤ (u6_ 2).toInt ∧ (u6_ 2).toInt ≤ 2147483647 := ⟨zlo _, zhi _⟩
      have b_ : -2147483648 ≤ (u6_ 3).toInt ∧ (u6_ 3).toInt ≤ 2147483647 := ⟨zlo _, zhi _⟩
      have b_ : -2147483648 ≤ (u6_ 4).toInt ∧ (u6_ 4).toInt ≤ 2147483647 := ⟨zlo _, zhi _⟩
      have b_ : -2147483648 ≤ (u6_ 5).toInt ∧ (u6_ 5).toInt ≤ 2147483647 := ⟨zlo _, zhi _⟩
      have b_ : -2147483648 ≤ (u6_ 6).toInt ∧ (u6_ 6).toInt ≤ 2147483647 := ⟨zlo _, zhi _⟩
      have b_ : -2147483648 ≤ (u6_ 7).toInt ∧ (u6_ 7).toInt ≤ 2147483647 := ⟨zlo _, zhi _⟩
      have b_ : -2147483648 ≤ (u6_ 8).toInt ∧ (u6_ 8).toInt ≤ 2147483647 := ⟨zlo _, zhi _⟩
      have b_ : -2147483648 ≤ (u6_ 9).toInt ∧ (u6_ 9).toInt ≤ 2147483647 := ⟨zlo _, zhi _⟩
      have b_ : -2147483648 ≤ (u6_ 12).toInt ∧ (u6_ 12).toInt ≤ 2147483647 := ⟨zlo _, zhi _⟩
      have b_ : -2147483648 ≤ (u6_ 13).toInt ∧ (u6_ 13).toInt ≤ 2147483647 := ⟨zlo _, zhi _⟩
      have hpost : (0 ≤ (u6_ 0).toInt ∧ (u6_ 0).toInt ≤ 1) ∧ (0 ≤ (u6_ 10).toInt ∧ (u6_ 10).toInt ≤ 833) ∧ (0 ≤ (u6_ 11).toInt ∧ (u6_ 11).toInt ≤ 1250) := ⟨⟨by omega, by omega⟩, ⟨by omega, by omega⟩, ⟨by omega, by omega⟩⟩
      have hP9 : va_P (dC, dI) vwCl [(h9, .inr (8, mX8 h10 (upd (upd (upd (upd (upd (upd (upd (upd v9 1 (u6_ 2)) 2 (u6_ 3)) 3 (u6_ 4)) 4 (u6_ 5)) 5 (u6_ 6)) 6 (u6_ 7)) 7 (u6_ 8)) 8 (u6_ 9)))), (h10, .inr (6, mX6 h11 h12 h13 h14 h15 h16 h17 h18 v10)), (h13, zi k13 833 f13), (h12, zi k12 833 f12), (h11, zi k11 1250 f11), (h19, .inr (0, mX0 h20 h21 h22 h23 v19)), (h20, zi k20 120 f20), (h0, .inr (6, mX6 h1 h2 h3 h4 h5 h6 h7 h8 (upd (upd (upd (upd v0 8 (u6_ 10)) 9 (u6_ 11)) 10 (u6_ 12)) 11 (u6_ 13)))), (h8, zi k8 400 (a6_ 7)), (h6, zi k6 400 (a6_ 5)), (h5, zi k5 400 (a6_ 4)), (h2, zi k2 833 (a6_ 1)), (h1, zi k1 1250 (a6_ 0)), (h3, zi k3 833 (a6_ 2)), (h4, zi k4 400 (a6_ 3)), (h7, zi k7 400 (a6_ 6))] H := hP
      have hD9 : va_D A [(h9, .inr (8, mX8 h10 (upd (upd (upd (upd (upd (upd (upd (upd v9 1 (u6_ 2)) 2 (u6_ 3)) 3 (u6_ 4)) 4 (u6_ 5)) 5 (u6_ 6)) 6 (u6_ 7)) 7 (u6_ 8)) 8 (u6_ 9)))), (h10, .inr (6, mX6 h11 h12 h13 h14 h15 h16 h17 h18 v10)), (h13, zi k13 833 f13), (h12, zi k12 833 f12), (h11, zi k11 1250 f11), (h19, .inr (0, mX0 h20 h21 h22 h23 v19)), (h20, zi k20 120 f20), (h0, .inr (6, mX6 h1 h2 h3 h4 h5 h6 h7 h8 (upd (upd (upd (upd v0 8 (u6_ 10)) 9 (u6_ 11)) 10 (u6_ 12)) 11 (u6_ 13)))), (h8, zi k8 400 (a6_ 7)), (h6, zi k6 400 (a6_ 5)), (h5, zi k5 400 (a6_ 4)), (h2, zi k2 833 (a6_ 1)), (h1, zi k1 1250 (a6_ 0)), (h3, zi k3 833 (a6_ 2)), (h4, zi k4 400 (a6_ 3)), (h7, zi k7 400 (a6_ 6))] := hD
      have hB0 : zPhi (a6_ 1) (a6_ 4) (a6_ 5) (u6_ 11).toInt (u6_ 10).toInt := by assumption
      exact W.zret (v := (u6_ 0)) hx hb hr (zbn ⟨by omega, by omega⟩) (fun t ht hW => ⟨⟨(u6_ 0), (fun i => ([(u6_ 2), (u6_ 3), (u6_ 4), (u6_ 5), (u6_ 6), (u6_ 7), (u6_ 8), (u6_ 9), (u6_ 10), (u6_ 11), (u6_ 12), (u6_ 13)] : List (Int32)).getD i 0), rfl, hpost, (fun _ => 0), (fun i => ([(a6_ 7), (a6_ 5), (a6_ 4), (a6_ 1), (a6_ 0), (a6_ 2), (a6_ 3), (a6_ 6)] : List (Nat → Int32)).getD i (fun _ => 0)), (fun _ => (fun _ => 0)), ha6_4, ha6_1, hB0, by rw [ht]; exact hP9, va_K.moved hW.alike hK, hD9⟩, hS.F ht⟩) hS.2.2 dX6_copyOn_96
    · skip
      have b_ := zF_ge rfl zk_120 c_
      refine lv_aload_n hx hb dX6_copyOn_13 rfl (lv_at hl 2 rfl) ?_
      have b_ : -2147483648 ≤ (u6_ 2).toInt ∧ (u6_ 2).toInt ≤ 2147483647 := ⟨zlo _, zhi _⟩
      have b_ : -2147483648 ≤ (u6_ 3).toInt ∧ (u6_ 3).toInt ≤ 2147483647 := ⟨zlo _, zhi _⟩
      have b_ : -2147483648 ≤ (u6_ 4).toInt ∧ (u6_ 4).toInt ≤ 2147483647 := ⟨zlo _, zhi _⟩
      have b_ : -2147483648 ≤ (u6_ 5).toInt ∧ (u6_ 5).toInt ≤ 2147483647 := ⟨zlo _, zhi _⟩
      have b_ : -2147483648 ≤ (u6_ 6).toInt ∧ (u6_ 6).toInt ≤ 2147483647 := ⟨zlo _, zhi _⟩
      have b_ : -2147483648 ≤ (u6_ 7).toInt ∧ (u6_ 7).toInt ≤ 2147483647 := ⟨zlo _, zhi _⟩
      have b_ : -2147483648 ≤ (u6_ 8).toInt ∧ (u6_ 8).toInt ≤ 2147483647 := ⟨zlo _, zhi _⟩
      have b_ : -2147483648 ≤ (u6_ 9).toInt ∧ (u6_ 9).toInt ≤ 2147483647 := ⟨zlo _, zhi _⟩
      have hPc := hP.sub (ws' := [(h9, .inr (8, mX8 h10 (upd (upd (upd (upd (upd (upd (upd (upd v9 1 (u6_ 2)) 2 (u6_ 3)) 3 (u6_ 4)) 4 (u6_ 5)) 5 (u6_ 6)) 6 (u6_ 7)) 7 (u6_ 8)) 8 (u6_ 9)))), (h10, .inr (6, mX6 h11 h12 h13 h14 h15 h16 h17 h18 v10)), (h13, zi k13 833 f13), (h12, zi k12 833 f12), (h11, zi k11 1250 f11)]) [0, 1, 2, 3, 4] rfl
      have hDc := hD.sub (ws' := [(h9, .inr (8, mX8 h10 (upd (upd (upd (upd (upd (upd (upd (upd v9 1 (u6_ 2)) 2 (u6_ 3)) 3 (u6_ 4)) 4 (u6_ 5)) 5 (u6_ 6)) 6 (u6_ 7)) 7 (u6_ 8)) 8 (u6_ 9)))), (h10, .inr (6, mX6 h11 h12 h13 h14 h15 h16 h17 h18 v10)), (h13, zi k13 833 f13), (h12, zi k12 833 f12), (h11, zi k11 1250 f11)]) [0, 1, 2, 3, 4] (by decide) rfl
      have hKc := hK.sub (tys' := [(k13, .int), (k12, .int), (k11, .int)]) [0, 1, 2] rfl
      have hFc := va_free (wc := [(h9, .inr (8, mX8 h10 (upd (upd (upd (upd (upd (upd (upd (upd v9 1 (u6_ 2)) 2 (u6_ 3)) 3 (u6_ 4)) 4 (u6_ 5)) 5 (u6_ 6)) 6 (u6_ 7)) 7 (u6_ 8)) 8 (u6_ 9)))), (h10, .inr (6, mX6 h11 h12 h13 h14 h15 h16 h17 h18 v10)), (h13, zi k13 833 f13), (h12, zi k12 833 f12), (h11, zi k11 1250 f11)]) hD hS hA [0, 1, 2, 3, 4] rfl
      refine va_calli (va_runV (As := []) (rest := []) ⟨hx, hb, hml, hown, hG⟩ (sX8_nextDocument_0 l dC dI adK adV h9 h10 h13 h12 h11 h14 h15 h16 h17 h18 k13 k12 k11 H.size (upd (upd (upd (upd (upd (upd (upd (upd v9 1 (u6_ 2)) 2 (u6_ 3)) 3 (u6_ 4)) 4 (u6_ 5)) 5 (u6_ 6)) 6 (u6_ 7)) 7 (u6_ 8)) 8 (u6_ 9)) v10 f13 f12 f11 hv10 hf12) (cwV 0 hG (zgV zv910 zv911 zv912 zv134 zv913) rfl rfl rfl (by decide +kernel) ⟨Nat.le_of_ble_eq_true rfl, Nat.le_of_ble_eq_true rfl⟩) ⟨zPc_blind, va_recv hKc hPc (ci := 8) (q0 := 0) rfl rfl, zPc_pre hPc hKc hDc hE hS hFc hZ⟩ rfl rfl hl.1 rfl (lv_room (Nat.le_of_ble_eq_true rfl)) dX6_copyOn_14 ⟨Nat.le_of_ble_eq_true rfl, Nat.le_of_ble_eq_true rfl⟩) hS (fun q _ h => hFc q h) hFc (fun r14_ u14_ t H1 locs ht hvm hw hB hz1 hk1 hS => ?_)
      replace hw : (0 ≤ r14_.toInt ∧ r14_.toInt ≤ 1) := hw
      have b_ := hw
      obtain ⟨w14_, a14_, b14_, hP1, hK1, hD1⟩ := hB
      rw [ht] at hP1
      obtain ⟨hP, hD⟩ := va_join (wr := [(h19, .inr (0, mX0 h20 h21 h22 h23 v19)), (h20, zi k20 120 f20), (h0, .inr (6, mX6 h1 h2 h3 h4 h5 h6 h7 h8 (upd (upd (upd (upd v0 8 (u6_ 10)) 9 (u6_ 11)) 10 (u6_ 12)) 11 (u6_ 13)))), (h8, zi k8 400 (a6_ 7)), (h6, zi k6 400 (a6_ 5)), (h5, zi k5 400 (a6_ 4)), (h2, zi k2 833 (a6_ 1)), (h1, zi k1 1250 (a6_ 0)), (h3, zi k3 833 (a6_ 2)), (h4, zi k4 400 (a6_ 3)), (h7, zi k7 400 (a6_ 6))]) (w1 := [(h9, .inr (8, mX8 h10 (upd (upd (upd (upd (upd (upd (upd (upd v9 1 (u14_ 0)) 2 (u14_ 1)) 3 (u14_ 2)) 4 (u14_ 3)) 5 (u14_ 4)) 6 (u14_ 5)) 7 (u14_ 6)) 8 (u14_ 7)))), (h10, .inr (6, mX6 h11 h12 h13 h14 h15 h16 h17 h18 v10)), (h13, zi k13 833 f13), (h12, zi k12 833 f12), (h11, zi k11 1250 f11)]) hP hD [0, 1, 2, 3, 4] [5, 6, 7, 8, 9, 10, 11, 12, 13, 14, 15] rfl rfl (by decide) (by decide) hk1 hFc hP1 hD1
      have hP : va_P (dC, dI) vwCl [(h9, .inr (8, mX8 h10 (upd (upd (upd (upd (upd (upd (upd (upd v9 1 (u14_ 0)) 2 (u14_ 1)) 3 (u14_ 2)) 4 (u14_ 3)) 5 (u14_ 4)) 6 (u14_ 5)) 7 (u14_ 6)) 8 (u14_ 7)))), (h10, .inr (6, mX6 h11 h12 h13 h14 h15 h16 h17 h18 v10)), (h13, zi k13 833 f13), (h12, zi k12 833 f12), (h11, zi k11 1250 f11), (h19, .inr (0, mX0 h20 h21 h22 h23 v19)), (h20, zi k20 120 f20), (h0, .inr (6, mX6 h1 h2 h3 h4 h5 h6 h7 h8 (upd (upd (upd (upd v0 8 (u6_ 10)) 9 (u6_ 11)) 10 (u6_ 12)) 11 (u6_ 13)))), (h8, zi k8 400 (a6_ 7)), (h6, zi k6 400 (a6_ 5)), (h5, zi k5 400 (a6_ 4)), (h2, zi k2 833 (a6_ 1)), (h1, zi k1 1250 (a6_ 0)), (h3, zi k3 833 (a6_ 2)), (h4, zi k4 400 (a6_ 3)), (h7, zi k7 400 (a6_ 6))] H1 := hP.sub [11, 12, 13, 14, 15, 0, 1, 2, 3, 4, 5, 6, 7, 8, 9, 10] rfl
      have hD : va_D A [(h9, .inr (8, mX8 h10 (upd (upd (upd (upd (upd (upd (upd (upd v9 1 (u14_ 0)) 2 (u14_ 1)) 3 (u14_ 2)) 4 (u14_ 3)) 5 (u14_ 4)) 6 (u14_ 5)) 7 (u14_ 6)) 8 (u14_ 7)))), (h10, .inr (6, mX6 h11 h12 h13 h14 h15 h16 h17 h18 v10)), (h13, zi k13 833 f13), (h12, zi k12 833 f12), (h11, zi k11 1250 f11), (h19, .inr (0, mX0 h20 h21 h22 h23 v19)), (h20, zi k20 120 f20), (h0, .inr (6, mX6 h1 h2 h3 h4 h5 h6 h7 h8 (upd (upd (upd (upd v0 8 (u6_ 10)) 9 (u6_ 11)) 10 (u6_ 12)) 11 (u6_ 13)))), (h8, zi k8 400 (a6_ 7)), (h6, zi k6 400 (a6_ 5)), (h5, zi k5 400 (a6_ 4)), (h2, zi k2 833 (a6_ 1)), (h1, zi k1 1250 (a6_ 0)), (h3, zi k3 833 (a6_ 2)), (h4, zi k4 400 (a6_ 3)), (h7, zi k7 400 (a6_ 6))] := hD.sub [11, 12, 13, 14, 15, 0, 1, 2, 3, 4, 5, 6, 7, 8, 9, 10] (by decide) rfl
      generalize H1 = H at hP hS ⊢
      clear hz1
      refine lv_if_eq (tgt := 94) hx hb dX6_copyOn_17 (by decide) (fun c_ => ?_) (fun c_ => ?_)
      · skip
        have b_ := zT_eq rfl zk_0 c_
        refine lv_iload hx hb dX6_copyOn_94 (lv_at hl 4 rfl) ?_
        refine W.widen (k := 0) (n := 0) (by decide) (by decide) ?_
        have b_ : -2147483648 ≤ (u14_ 0).toInt ∧ (u14_ 0).toInt ≤ 2147483647 := ⟨zlo _, zhi _⟩
        have b_ : -2147483648 ≤ (u14_ 1).toInt ∧ (u14_ 1).toInt ≤ 2147483647 := ⟨zlo _, zhi _⟩
        have b_ : -2147483648 ≤ (u14_ 2).toInt ∧ (u14_ 2).toInt ≤ 2147483647 := ⟨zlo _, zhi _⟩
        have b_ : -2147483648 ≤ (u14_ 3).toInt ∧ (u14_ 3).toInt ≤ 2147483647 := ⟨zlo _, zhi _⟩
        have b_ : -2147483648 ≤ (u14_ 4).toInt ∧ (u14_ 4).toInt ≤ 2147483647 := ⟨zlo _, zhi _⟩
        have b_ : -2147483648 ≤ (u14_ 5).toInt ∧ (u14_ 5).toInt ≤ 2147483647 := ⟨zlo _, zhi _⟩
        have b_ : -2147483648 ≤ (u14_ 6).toInt ∧ (u14_ 6).toInt ≤ 2147483647 := ⟨zlo _, zhi _⟩
        have b_ : -2147483648 ≤ (u14_ 7).toInt ∧ (u14_ 7).toInt ≤ 2147483647 := ⟨zlo _, zhi _⟩
        have b_ : -2147483648 ≤ (u6_ 12).toInt ∧ (u6_ 12).toInt ≤ 2147483647 := ⟨zlo _, zhi _⟩
        have b_ : -2147483648 ≤ (u6_ 13).toInt ∧ (u6_ 13).toInt ≤ 2147483647 := ⟨zlo _, zhi _⟩
        have hpost : (0 ≤ (u6_ 0).toInt ∧ (u6_ 0).toInt ≤ 1) ∧ (0 ≤ (u6_ 10).toInt ∧ (u6_ 10).toInt ≤ 833) ∧ (0 ≤ (u6_ 11).toInt ∧ (u6_ 11).toInt ≤ 1250) := ⟨⟨by omega, by omega⟩, ⟨by omega, by omega⟩, ⟨by omega, by omega⟩⟩
        have hP9 : va_P (dC, dI) vwCl [(h9, .inr (8, mX8 h10 (upd (upd (upd (upd (upd (upd (upd (upd v9 1 (u14_ 0)) 2 (u14_ 1)) 3 (u14_ 2)) 4 (u14_ 3)) 5 (u14_ 4)) 6 (u14_ 5)) 7 (u14_ 6)) 8 (u14_ 7)))), (h10, .inr (6, mX6 h11 h12 h13 h14 h15 h16 h17 h18 v10)), (h13, zi k13 833 f13), (h12, zi k12 833 f12), (h11, zi k11 1250 f11), (h19, .inr (0, mX0 h20 h21 h22 h23 v19)), (h20, zi k20 120 f20), (h0, .inr (6, mX6 h1 h2 h3 h4 h5 h6 h7 h8 (upd (upd (upd (upd v0 8 (u6_ 10)) 9 (u6_ 11)) 10 (u6_ 12)) 11 (u6_ 13)))), (h8, zi k8 400 (a6_ 7)), (h6, zi k6 400 (a6_ 5)), (h5, zi k5 400 (a6_ 4)), (h2, zi k2 833 (a6_ 1)), (h1, zi k1 1250 (a6_ 0)), (h3, zi k3 833 (a6_ 2)), (h4, zi k4 400 (a6_ 3)), (h7, zi k7 400 (a6_ 6))] H := hP
        have hD9 : va_D A [(h9, .inr (8, mX8 h10 (upd (upd (upd (upd (upd (upd (upd (upd v9 1 (u14_ 0)) 2 (u14_ 1)) 3 (u14_ 2)) 4 (u14_ 3)) 5 (u14_ 4)) 6 (u14_ 5)) 7 (u14_ 6)) 8 (u14_ 7)))), (h10, .inr (6, mX6 h11 h12 h13 h14 h15 h16 h17 h18 v10)), (h13, zi k13 833 f13), (h12, zi k12 833 f12), (h11, zi k11 1250 f11), (h19, .inr (0, mX0 h20 h21 h22 h23 v19)), (h20, zi k20 120 f20), (h0, .inr (6, mX6 h1 h2 h3 h4 h5 h6 h7 h8 (upd (upd (upd (upd v0 8 (u6_ 10)) 9 (u6_ 11)) 10 (u6_ 12)) 11 (u6_ 13)))), (h8, zi k8 400 (a6_ 7)), (h6, zi k6 400 (a6_ 5)), (h5, zi k5 400 (a6_ 4)), (h2, zi k2 833 (a6_ 1)), (h1, zi k1 1250 (a6_ 0)), (h3, zi k3 833 (a6_ 2)), (h4, zi k4 400 (a6_ 3)), (h7, zi k7 400 (a6_ 6))] := hD
        have hB0 : zPhi (a6_ 1) (a6_ 4) (a6_ 5) (u6_ 11).toInt (u6_ 10).toInt := by assumption
        exact W.zret (v := (u6_ 0)) hx hb hr (zbn ⟨by omega, by omega⟩) (fun t ht hW => ⟨⟨(u6_ 0), (fun i => ([(u14_ 0), (u14_ 1), (u14_ 2), (u14_ 3), (u14_ 4), (u14_ 5), (u14_ 6), (u14_ 7), (u6_ 10), (u6_ 11), (u6_ 12), (u6_ 13)] : List (Int32)).getD i 0), rfl, hpost, (fun _ => 0), (fun i => ([(a6_ 7), (a6_ 5), (a6_ 4), (a6_ 1), (a6_ 0), (a6_ 2), (a6_ 3), (a6_ 6)] : List (Nat → Int32)).getD i (fun _ => 0)), (fun _ => (fun _ => 0)), ha6_4, ha6_1, hB0, by rw [ht]; exact hP9, va_K.moved hW.alike hK, hD9⟩, hS.F ht⟩) hS.2.2 dX6_copyOn_96
      · skip
        have b_ := zF_eq rfl zk_0 c_
        refine lv_aload_n hx hb dX6_copyOn_20 rfl (lv_at hl 3 rfl) ?_
        refine lv_aload_n hx hb dX6_copyOn_21 rfl (lv_at hl 2 rfl) ?_
        have b_ : -2147483648 ≤ (u14_ 0).toInt ∧ (u14_ 0).toInt ≤ 2147483647 := ⟨zlo _, zhi _⟩
        have b_ : -2147483648 ≤ (u14_ 1).toInt ∧ (u14_ 1).toInt ≤ 2147483647 := ⟨zlo _, zhi _⟩
        have b_ : -2147483648 ≤ (u14_ 2).toInt ∧ (u14_ 2).toInt ≤ 2147483647 := ⟨zlo _, zhi _⟩
        have b_ : -2147483648 ≤ (u14_ 3).toInt ∧ (u14_ 3).toInt ≤ 2147483647 := ⟨zlo _, zhi _⟩
        have b_ : -2147483648 ≤ (u14_ 4).toInt ∧ (u14_ 4).toInt ≤ 2147483647 := ⟨zlo _, zhi _⟩
        have b_ : -2147483648 ≤ (u14_ 5).toInt ∧ (u14_ 5).toInt ≤ 2147483647 := ⟨zlo _, zhi _⟩
        have b_ : -2147483648 ≤ (u14_ 6).toInt ∧ (u14_ 6).toInt ≤ 2147483647 := ⟨zlo _, zhi _⟩
        have b_ : -2147483648 ≤ (u14_ 7).toInt ∧ (u14_ 7).toInt ≤ 2147483647 := ⟨zlo _, zhi _⟩
        have hPc := hP.sub (ws' := [(h9, .inr (8, mX8 h10 (upd (upd (upd (upd (upd (upd (upd (upd v9 1 (u14_ 0)) 2 (u14_ 1)) 3 (u14_ 2)) 4 (u14_ 3)) 5 (u14_ 4)) 6 (u14_ 5)) 7 (u14_ 6)) 8 (u14_ 7))))]) [0] rfl
        have hDc := hD.sub (ws' := [(h9, .inr (8, mX8 h10 (upd (upd (upd (upd (upd (upd (upd (upd v9 1 (u14_ 0)) 2 (u14_ 1)) 3 (u14_ 2)) 4 (u14_ 3)) 5 (u14_ 4)) 6 (u14_ 5)) 7 (u14_ 6)) 8 (u14_ 7))))]) [0] (by decide) rfl
        have hKc := hK.sub (tys' := []) [] rfl
        have hFc := va_free (wc := [(h9, .inr (8, mX8 h10 (upd (upd (upd (upd (upd (upd (upd (upd v9 1 (u14_ 0)) 2 (u14_ 1)) 3 (u14_ 2)) 4 (u14_ 3)) 5 (u14_ 4)) 6 (u14_ 5)) 7 (u14_ 6)) 8 (u14_ 7))))]) hD hS hA [0] rfl
        refine va_calli (va_runV (As := []) (rest := [.ref h19]) ⟨hx, hb, hml, hown, hG⟩ (sX8_number_0 l dC dI adK adV h9 h10 H.size (upd (upd (upd (upd (upd (upd (upd (upd v9 1 (u14_ 0)) 2 (u14_ 1)) 3 (u14_ 2)) 4 (u14_ 3)) 5 (u14_ 4)) 6 (u14_ 5)) 7 (u14_ 6)) 8 (u14_ 7))) (cwV 0 hG (zgV zv931 zv932 zv933 zv134 zv934) rfl rfl rfl (by decide +kernel) ⟨Nat.le_of_ble_eq_true rfl, Nat.le_of_ble_eq_true rfl⟩) ⟨zPc_blind, va_recv hKc hPc (ci := 8) (q0 := 0) rfl rfl, zPc_pre hPc hKc hDc hE hS hFc hZ⟩ rfl rfl hl.1 rfl (lv_room (Nat.le_of_ble_eq_true rfl)) dX6_copyOn_22 ⟨Nat.le_of_ble_eq_true rfl, Nat.le_of_ble_eq_true rfl⟩) hS (fun q _ h => hFc q h) hFc (fun r22_ u22_ t H1 locs ht hvm hw hB hz1 hk1 hS => ?_)
        replace hw : (r22_.toInt = (u14_ 4).toInt) := hw
        have hX22_0 := hw
        obtain ⟨w22_, a22_, b22_, hP1, hK1, hD1⟩ := hB
        rw [ht] at hP1
        obtain ⟨hP, hD⟩ := va_join (wr := [(h10, .inr (6, mX6 h11 h12 h13 h14 h15 h16 h17 h18 v10)), (h13, zi k13 833 f13), (h12, zi k12 833 f12), (h11, zi k11 1250 f11), (h19, .inr (0, mX0 h20 h21 h22 h23 v19)), (h20, zi k20 120 f20), (h0, .inr (6, mX6 h1 h2 h3 h4 h5 h6 h7 h8 (upd (upd (upd (upd v0 8 (u6_ 10)) 9 (u6_ 11)) 10 (u6_ 12)) 11 (u6_ 13)))), (h8, zi k8 400 (a6_ 7)), (h6, zi k6 400 (a6_ 5)), (h5, zi k5 400 (a6_ 4)), (h2, zi k2 833 (a6_ 1)), (h1, zi k1 1250 (a6_ 0)), (h3, zi k3 833 (a6_ 2)), (h4, zi k4 400 (a6_ 3)), (h7, zi k7 400 (a6_ 6))]) (w1 := [(h9, .inr (8, mX8 h10 (upd (upd (upd (upd (upd (upd (upd (upd v9 1 (u14_ 0)) 2 (u14_ 1)) 3 (u14_ 2)) 4 (u14_ 3)) 5 (u14_ 4)) 6 (u14_ 5)) 7 (u14_ 6)) 8 (u14_ 7))))]) hP hD [0] [1, 2, 3, 4, 5, 6, 7, 8, 9, 10, 11, 12, 13, 14, 15] rfl rfl (by decide) (by decide) hk1 hFc hP1 hD1
        have hP : va_P (dC, dI) vwCl [(h9, .inr (8, mX8 h10 (upd (upd (upd (upd (upd (upd (upd (upd v9 1 (u14_ 0)) 2 (u14_ 1)) 3 (u14_ 2)) 4 (u14_ 3)) 5 (u14_ 4)) 6 (u14_ 5)) 7 (u14_ 6)) 8 (u14_ 7)))), (h10, .inr (6, mX6 h11 h12 h13 h14 h15 h16 h17 h18 v10)), (h13, zi k13 833 f13), (h12, zi k12 833 f12), (h11, zi k11 1250 f11), (h19, .inr (0, mX0 h20 h21 h22 h23 v19)), (h20, zi k20 120 f20), (h0, .inr (6, mX6 h1 h2 h3 h4 h5 h6 h7 h8 (upd (upd (upd (upd v0 8 (u6_ 10)) 9 (u6_ 11)) 10 (u6_ 12)) 11 (u6_ 13)))), (h8, zi k8 400 (a6_ 7)), (h6, zi k6 400 (a6_ 5)), (h5, zi k5 400 (a6_ 4)), (h2, zi k2 833 (a6_ 1)), (h1, zi k1 1250 (a6_ 0)), (h3, zi k3 833 (a6_ 2)), (h4, zi k4 400 (a6_ 3)), (h7, zi k7 400 (a6_ 6))] H1 := hP.sub [15, 0, 1, 2, 3, 4, 5, 6, 7, 8, 9, 10, 11, 12, 13, 14] rfl
        have hD : va_D A [(h9, .inr (8, mX8 h10 (upd (upd (upd (upd (upd (upd (upd (upd v9 1 (u14_ 0)) 2 (u14_ 1)) 3 (u14_ 2)) 4 (u14_ 3)) 5 (u14_ 4)) 6 (u14_ 5)) 7 (u14_ 6)) 8 (u14_ 7)))), (h10, .inr (6, mX6 h11 h12 h13 h14 h15 h16 h17 h18 v10)), (h13, zi k13 833 f13), (h12, zi k12 833 f12), (h11, zi k11 1250 f11), (h19, .inr (0, mX0 h20 h21 h22 h23 v19)), (h20, zi k20 120 f20), (h0, .inr (6, mX6 h1 h2 h3 h4 h5 h6 h7 h8 (upd (upd (upd (upd v0 8 (u6_ 10)) 9 (u6_ 11)) 10 (u6_ 12)) 11 (u6_ 13)))), (h8, zi k8 400 (a6_ 7)), (h6, zi k6 400 (a6_ 5)), (h5, zi k5 400 (a6_ 4)), (h2, zi k2 833 (a6_ 1)), (h1, zi k1 1250 (a6_ 0)), (h3, zi k3 833 (a6_ 2)), (h4, zi k4 400 (a6_ 3)), (h7, zi k7 400 (a6_ 6))] := hD.sub [15, 0, 1, 2, 3, 4, 5, 6, 7, 8, 9, 10, 11, 12, 13, 14] (by decide) rfl
        generalize H1 = H at hP hS ⊢
        clear hz1
        have hPc := hP.sub (ws' := [(h19, .inr (0, mX0 h20 h21 h22 h23 v19)), (h20, zi k20 120 f20)]) [5, 6] rfl
        have hDc := hD.sub (ws' := [(h19, .inr (0, mX0 h20 h21 h22 h23 v19)), (h20, zi k20 120 f20)]) [5, 6] (by decide) rfl
        have hKc := hK.sub (tys' := [(k20, .boolean)]) [3] rfl
        have hFc := va_free (wc := [(h19, .inr (0, mX0 h20 h21 h22 h23 v19)), (h20, zi k20 120 f20)]) hD hS hA [5, 6] rfl
        refine va_calli (va_runV (As := [.int r22_]) (rest := []) ⟨hx, hb, hml, hown, hG⟩ (sX0_isOn_0 l dC dI adK adV h19 h20 h21 h22 h23 k20 H.size v19 f20 r22_ hv19) (cwV 1 hG (zgV zv935 zv872 zv873 zv132 zv874) rfl rfl rfl (by decide +kernel) ⟨Nat.le_of_ble_eq_true rfl, Nat.le_of_ble_eq_true rfl⟩) ⟨zPc_blind, va_recv hKc hPc (ci := 0) (q0 := 0) rfl rfl, zPc_pre hPc hKc hDc hE hS hFc hZ⟩ rfl rfl hl.1 rfl (lv_room (Nat.le_of_ble_eq_true rfl)) dX6_copyOn_25 ⟨Nat.le_of_ble_eq_true rfl, Nat.le_of_ble_eq_true rfl⟩) hS (fun q _ h => hFc q h) hFc (fun r25_ u25_ t H1 locs ht hvm hw hB hz1 hk1 hS => ?_)
        replace hw : (0 ≤ r25_.toInt ∧ r25_.toInt ≤ 1) ∧ (r25_.toInt = 1 → (0 ≤ r22_.toInt ∧ r22_.toInt ≤ 119)) ∧ (r25_.toInt = 1 → r22_.toInt < (v19 4).toInt) := hw
        obtain ⟨b_, hX25_0, hX25_1⟩ := hw
        obtain ⟨w25_, a25_, b25_, hP1, hK1, hD1⟩ := hB
        rw [ht] at hP1
        obtain ⟨hP, hD⟩ := va_join (wr := [(h9, .inr (8, mX8 h10 (upd (upd (upd (upd (upd (upd (upd (upd v9 1 (u14_ 0)) 2 (u14_ 1)) 3 (u14_ 2)) 4 (u14_ 3)) 5 (u14_ 4)) 6 (u14_ 5)) 7 (u14_ 6)) 8 (u14_ 7)))), (h10, .inr (6, mX6 h11 h12 h13 h14 h15 h16 h17 h18 v10)), (h13, zi k13 833 f13), (h12, zi k12 833 f12), (h11, zi k11 1250 f11), (h0, .inr (6, mX6 h1 h2 h3 h4 h5 h6 h7 h8 (upd (upd (upd (upd v0 8 (u6_ 10)) 9 (u6_ 11)) 10 (u6_ 12)) 11 (u6_ 13)))), (h8, zi k8 400 (a6_ 7)), (h6, zi k6 400 (a6_ 5)), (h5, zi k5 400 (a6_ 4)), (h2, zi k2 833 (a6_ 1)), (h1, zi k1 1250 (a6_ 0)), (h3, zi k3 833 (a6_ 2)), (h4, zi k4 400 (a6_ 3)), (h7, zi k7 400 (a6_ 6))]) (w1 := [(h19, .inr (0, mX0 h20 h21 h22 h23 v19)), (h20, zi k20 120 f20)]) hP hD [5, 6] [0, 1, 2, 3, 4, 7, 8, 9, 10, 11, 12, 13, 14, 15] rfl rfl (by decide) (by decide) hk1 hFc hP1 hD1
        have hP : va_P (dC, dI) vwCl [(h9, .inr (8, mX8 h10 (upd (upd (upd (upd (upd (upd (upd (upd v9 1 (u14_ 0)) 2 (u14_ 1)) 3 (u14_ 2)) 4 (u14_ 3)) 5 (u14_ 4)) 6 (u14_ 5)) 7 (u14_ 6)) 8 (u14_ 7)))), (h10, .inr (6, mX6 h11 h12 h13 h14 h15 h16 h17 h18 v10)), (h13, zi k13 833 f13), (h12, zi k12 833 f12), (h11, zi k11 1250 f11), (h19, .inr (0, mX0 h20 h21 h22 h23 v19)), (h20, zi k20 120 f20), (h0, .inr (6, mX6 h1 h2 h3 h4 h5 h6 h7 h8 (upd (upd (upd (upd v0 8 (u6_ 10)) 9 (u6_ 11)) 10 (u6_ 12)) 11 (u6_ 13)))), (h8, zi k8 400 (a6_ 7)), (h6, zi k6 400 (a6_ 5)), (h5, zi k5 400 (a6_ 4)), (h2, zi k2 833 (a6_ 1)), (h1, zi k1 1250 (a6_ 0)), (h3, zi k3 833 (a6_ 2)), (h4, zi k4 400 (a6_ 3)), (h7, zi k7 400 (a6_ 6))] H1 := hP.sub [0, 1, 2, 3, 4, 14, 15, 5, 6, 7, 8, 9, 10, 11, 12, 13] rfl
        have hD : va_D A [(h9, .inr (8, mX8 h10 (upd (upd (upd (upd (upd (upd (upd (upd v9 1 (u14_ 0)) 2 (u14_ 1)) 3 (u14_ 2)) 4 (u14_ 3)) 5 (u14_ 4)) 6 (u14_ 5)) 7 (u14_ 6)) 8 (u14_ 7)))), (h10, .inr (6, mX6 h11 h12 h13 h14 h15 h16 h17 h18 v10)), (h13, zi k13 833 f13), (h12, zi k12 833 f12), (h11, zi k11 1250 f11), (h19, .inr (0, mX0 h20 h21 h22 h23 v19)), (h20, zi k20 120 f20), (h0, .inr (6, mX6 h1 h2 h3 h4 h5 h6 h7 h8 (upd (upd (upd (upd v0 8 (u6_ 10)) 9 (u6_ 11)) 10 (u6_ 12)) 11 (u6_ 13)))), (h8, zi k8 400 (a6_ 7)), (h6, zi k6 400 (a6_ 5)), (h5, zi k5 400 (a6_ 4)), (h2, zi k2 833 (a6_ 1)), (h1, zi k1 1250 (a6_ 0)), (h3, zi k3 833 (a6_ 2)), (h4, zi k4 400 (a6_ 3)), (h7, zi k7 400 (a6_ 6))] := hD.sub [0, 1, 2, 3, 4, 14, 15, 5, 6, 7, 8, 9, 10, 11, 12, 13] (by decide) rfl
        generalize H1 = H at hP hS ⊢
        clear hz1
        refine lv_if_eq (tgt := 88) hx hb dX6_copyOn_28 (by decide) (fun c_ => ?_) (fun c_ => ?_)
        · skip
          have b_ := zT_eq rfl zk_0 c_
          obtain ⟨z88, e_z88⟩ : ∃ z : Int32, z = (u6_ 1) + Int32.ofInt 1 := ⟨_, rfl⟩
          have b_ := zadd (x := (u6_ 1)) (y := Int32.ofInt 1) rfl (show (Int32.ofInt 1).toInt = 1 from by decide) e_z88 (by omega) (by omega)
          refine lv_iinc (v := z88) (lv' := [(5, .int z88), (0, .ref h0), (1, .int x1), (2, .ref h9), (3, .ref h19), (4, .int (u6_ 0))]) hx hb dX6_copyOn_88 hl (k := 5) rfl e_z88.symm (by decide) rfl (fun ls hl => ?_)
          refine lv_goto (tgt := 6) hx hb dX6_copyOn_91 (by decide) ?_
          have b_ : -2147483648 ≤ x1.toInt ∧ x1.toInt ≤ 2147483647 := ⟨zlo _, zhi _⟩
          have hc : va_P (dC, dI) vwCl [(h9, .inr (8, mX8 h10 (upd (upd (upd (upd (upd (upd (upd (upd v9 1 (u14_ 0)) 2 (u14_ 1)) 3 (u14_ 2)) 4 (u14_ 3)) 5 (u14_ 4)) 6 (u14_ 5)) 7 (u14_ 6)) 8 (u14_ 7)))), (h10, .inr (6, mX6 h11 h12 h13 h14 h15 h16 h17 h18 v10)), (h13, zi k13 833 f13), (h12, zi k12 833 f12), (h11, zi k11 1250 f11), (h19, .inr (0, mX0 h20 h21 h22 h23 v19)), (h20, zi k20 120 f20), (h0, .inr (6, mX6 h1 h2 h3 h4 h5 h6 h7 h8 (upd (upd (upd (upd v0 8 (u6_ 10)) 9 (u6_ 11)) 10 (u6_ 12)) 11 (u6_ 13)))), (h8, zi k8 400 (a6_ 7)), (h6, zi k6 400 (a6_ 5)), (h5, zi k5 400 (a6_ 4)), (h2, zi k2 833 (a6_ 1)), (h1, zi k1 1250 (a6_ 0)), (h3, zi k3 833 (a6_ 2)), (h4, zi k4 400 (a6_ 3)), (h7, zi k7 400 (a6_ 6))] H ∧ va_D A [(h9, .inr (8, mX8 h10 (upd (upd (upd (upd (upd (upd (upd (upd v9 1 (u14_ 0)) 2 (u14_ 1)) 3 (u14_ 2)) 4 (u14_ 3)) 5 (u14_ 4)) 6 (u14_ 5)) 7 (u14_ 6)) 8 (u14_ 7)))), (h10, .inr (6, mX6 h11 h12 h13 h14 h15 h16 h17 h18 v10)), (h13, zi k13 833 f13), (h12, zi k12 833 f12), (h11, zi k11 1250 f11), (h19, .inr (0, mX0 h20 h21 h22 h23 v19)), (h20, zi k20 120 f20), (h0, .inr (6, mX6 h1 h2 h3 h4 h5 h6 h7 h8 (upd (upd (upd (upd v0 8 (u6_ 10)) 9 (u6_ 11)) 10 (u6_ 12)) 11 (u6_ 13)))), (h8, zi k8 400 (a6_ 7)), (h6, zi k6 400 (a6_ 5)), (h5, zi k5 400 (a6_ 4)), (h2, zi k2 833 (a6_ 1)), (h1, zi k1 1250 (a6_ 0)), (h3, zi k3 833 (a6_ 2)), (h4, zi k4 400 (a6_ 3)), (h7, zi k7 400 (a6_ 6))] ∧ va_S A s.heap H locs ∧ lv_has ls 9 [(0, .ref h0), (1, .int x1), (2, .ref h9), (3, .ref h19), (4, .int (u6_ 0)), (5, .int z88)] ∧ zA 0 1250 (a6_ 1) ∧ zA 0 832 (a6_ 4) ∧ (0 ≤ (u6_ 0).toInt ∧ (u6_ 0).toInt ≤ 1) ∧ (0 ≤ z88.toInt ∧ z88.toInt ≤ 120) ∧ (0 ≤ (u6_ 10).toInt ∧ (u6_ 10).toInt ≤ 833) ∧ (0 ≤ (u6_ 11).toInt ∧ (u6_ 11).toInt ≤ 1250) ∧ (zPhi (a6_ 1) (a6_ 4) (a6_ 5) (u6_ 11).toInt (u6_ 10).toInt) := ⟨hP, hD, hS, lv_sub hl [1, 2, 3, 4, 5, 0] rfl, ha6_1, ha6_4, ⟨by omega, by omega⟩, ⟨by omega, by omega⟩, ⟨by omega, by omega⟩, ⟨by omega, by omega⟩, by assumption⟩
          exact hJ6 H locs ls (fun i => ([(u6_ 0), z88, (u14_ 0), (u14_ 1), (u14_ 2), (u14_ 3), (u14_ 4), (u14_ 5), (u14_ 6), (u14_ 7), (u6_ 10), (u6_ 11), (u6_ 12), (u6_ 13)] : List (Int32)).getD i 0) (fun _ => 0) (fun i => ([(a6_ 0), (a6_ 1), (a6_ 2), (a6_ 3), (a6_ 4), (a6_ 5), (a6_ 6), (a6_ 7)] : List (Nat → Int32)).getD i (fun _ => 0)) (fun _ => (fun _ => 0)) hc (show (120 - z88.toInt).toNat < (120 - (u6_ 1).toInt).toNat from by omega)
        · skip
          have b_ := zF_eq rfl zk_0 c_
          refine lv_iconst (v := 1) hx hb dX6_copyOn_31 (by decide) ?_
          refine lv_istore (lv' := [(4, .int 1), (0, .ref h0), (1, .int x1), (2, .ref h9), (3, .ref h19), (5, .int (u6_ 1))]) hx hb dX6_copyOn_32 hl (by decide) rfl (fun ls hl => ?_)
          refine lv_aload_n hx hb dX6_copyOn_34 rfl (lv_at hl 1 rfl) ?_
          refine lv_iload_n hx hb dX6_copyOn_35 rfl (lv_at hl 2 rfl) ?_
          refine lv_aload_n hx hb dX6_copyOn_36 rfl (lv_at hl 3 rfl) ?_
          have hPc := hP.sub (ws' := [(h9, .inr (8, mX8 h10 (upd (upd (upd (upd (upd (upd (upd (upd v9 1 (u14_ 0)) 2 (u14_ 1)) 3 (u14_ 2)) 4 (u14_ 3)) 5 (u14_ 4)) 6 (u14_ 5)) 7 (u14_ 6)) 8 (u14_ 7))))]) [0] rfl
          have hDc := hD.sub (ws' := [(h9, .inr (8, mX8 h10 (upd (upd (upd (upd (upd (upd (upd (upd v9 1 (u14_ 0)) 2 (u14_ 1)) 3 (u14_ 2)) 4 (u14_ 3)) 5 (u14_ 4)) 6 (u14_ 5)) 7 (u14_ 6)) 8 (u14_ 7))))]) [0] (by decide) rfl
          have hKc := hK.sub (tys' := []) [] rfl
          have hFc := va_free (wc := [(h9, .inr (8, mX8 h10 (upd (upd (upd (upd (upd (upd (upd (upd v9 1 (u14_ 0)) 2 (u14_ 1)) 3 (u14_ 2)) 4 (u14_ 3)) 5 (u14_ 4)) 6 (u14_ 5)) 7 (u14_ 6)) 8 (u14_ 7))))]) hD hS hA [0] rfl
          refine va_calli (va_runV (As := []) (rest := [.int x1, .ref h0]) ⟨hx, hb, hml, hown, hG⟩ (sX8_number_0 l dC dI adK adV h9 h10 H.size (upd (upd (upd (upd (upd (upd (upd (upd v9 1 (u14_ 0)) 2 (u14_ 1)) 3 (u14_ 2)) 4 (u14_ 3)) 5 (u14_ 4)) 6 (u14_ 5)) 7 (u14_ 6)) 8 (u14_ 7))) (cwV 0 hG (zgV zv931 zv932 zv933 zv134 zv934) rfl rfl rfl (by decide +kernel) ⟨Nat.le_of_ble_eq_true rfl, Nat.le_of_ble_eq_true rfl⟩) ⟨zPc_blind, va_recv hKc hPc (ci := 8) (q0 := 0) rfl rfl, zPc_pre hPc hKc hDc hE hS hFc hZ⟩ rfl rfl hl.1 rfl (lv_room (Nat.le_of_ble_eq_true rfl)) dX6_copyOn_37 ⟨Nat.le_of_ble_eq_true rfl, Nat.le_of_ble_eq_true rfl⟩) hS (fun q _ h => hFc q h) hFc (fun r37_ u37_ t H1 locs ht hvm hw hB hz1 hk1 hS => ?_)
          replace hw : (r37_.toInt = (u14_ 4).toInt) := hw
          have hX37_0 := hw
          obtain ⟨w37_, a37_, b37_, hP1, hK1, hD1⟩ := hB
          rw [ht] at hP1
          obtain ⟨hP, hD⟩ := va_join (wr := [(h10, .inr (6, mX6 h11 h12 h13 h14 h15 h16 h17 h18 v10)), (h13, zi k13 833 f13), (h12, zi k12 833 f12), (h11, zi k11 1250 f11), (h19, .inr (0, mX0 h20 h21 h22 h23 v19)), (h20, zi k20 120 f20), (h0, .inr (6, mX6 h1 h2 h3 h4 h5 h6 h7 h8 (upd (upd (upd (upd v0 8 (u6_ 10)) 9 (u6_ 11)) 10 (u6_ 12)) 11 (u6_ 13)))), (h8, zi k8 400 (a6_ 7)), (h6, zi k6 400 (a6_ 5)), (h5, zi k5 400 (a6_ 4)), (h2, zi k2 833 (a6_ 1)), (h1, zi k1 1250 (a6_ 0)), (h3, zi k3 833 (a6_ 2)), (h4, zi k4 400 (a6_ 3)), (h7, zi k7 400 (a6_ 6))]) (w1 := [(h9, .inr (8, mX8 h10 (upd (upd (upd (upd (upd (upd (upd (upd v9 1 (u14_ 0)) 2 (u14_ 1)) 3 (u14_ 2)) 4 (u14_ 3)) 5 (u14_ 4)) 6 (u14_ 5)) 7 (u14_ 6)) 8 (u14_ 7))))]) hP hD [0] [1, 2, 3, 4, 5, 6, 7, 8, 9, 10, 11, 12, 13, 14, 15] rfl rfl (by decide) (by decide) hk1 hFc hP1 hD1
          have hP : va_P (dC, dI) vwCl [(h9, .inr (8, mX8 h10 (upd (upd (upd (upd (upd (upd (upd (upd v9 1 (u14_ 0)) 2 (u14_ 1)) 3 (u14_ 2)) 4 (u14_ 3)) 5 (u14_ 4)) 6 (u14_ 5)) 7 (u14_ 6)) 8 (u14_ 7)))), (h10, .inr (6, mX6 h11 h12 h13 h14 h15 h16 h17 h18 v10)), (h13, zi k13 833 f13), (h12, zi k12 833 f12), (h11, zi k11 1250 f11), (h19, .inr (0, mX0 h20 h21 h22 h23 v19)), (h20, zi k20 120 f20), (h0, .inr (6, mX6 h1 h2 h3 h4 h5 h6 h7 h8 (upd (upd (upd (upd v0 8 (u6_ 10)) 9 (u6_ 11)) 10 (u6_ 12)) 11 (u6_ 13)))), (h8, zi k8 400 (a6_ 7)), (h6, zi k6 400 (a6_ 5)), (h5, zi k5 400 (a6_ 4)), (h2, zi k2 833 (a6_ 1)), (h1, zi k1 1250 (a6_ 0)), (h3, zi k3 833 (a6_ 2)), (h4, zi k4 400 (a6_ 3)), (h7, zi k7 400 (a6_ 6))] H1 := hP.sub [15, 0, 1, 2, 3, 4, 5, 6, 7, 8, 9, 10, 11, 12, 13, 14] rfl
          have hD : va_D A [(h9, .inr (8, mX8 h10 (upd (upd (upd (upd (upd (upd (upd (upd v9 1 (u14_ 0)) 2 (u14_ 1)) 3 (u14_ 2)) 4 (u14_ 3)) 5 (u14_ 4)) 6 (u14_ 5)) 7 (u14_ 6)) 8 (u14_ 7)))), (h10, .inr (6, mX6 h11 h12 h13 h14 h15 h16 h17 h18 v10)), (h13, zi k13 833 f13), (h12, zi k12 833 f12), (h11, zi k11 1250 f11), (h19, .inr (0, mX0 h20 h21 h22 h23 v19)), (h20, zi k20 120 f20), (h0, .inr (6, mX6 h1 h2 h3 h4 h5 h6 h7 h8 (upd (upd (upd (upd v0 8 (u6_ 10)) 9 (u6_ 11)) 10 (u6_ 12)) 11 (u6_ 13)))), (h8, zi k8 400 (a6_ 7)), (h6, zi k6 400 (a6_ 5)), (h5, zi k5 400 (a6_ 4)), (h2, zi k2 833 (a6_ 1)), (h1, zi k1 1250 (a6_ 0)), (h3, zi k3 833 (a6_ 2)), (h4, zi k4 400 (a6_ 3)), (h7, zi k7 400 (a6_ 6))] := hD.sub [15, 0, 1, 2, 3, 4, 5, 6, 7, 8, 9, 10, 11, 12, 13, 14] (by decide) rfl
          generalize H1 = H at hP hS ⊢
          clear hz1
          refine lv_aload_n hx hb dX6_copyOn_40 rfl (lv_at hl 3 rfl) ?_
          have hPc := hP.sub (ws' := [(h9, .inr (8, mX8 h10 (upd (upd (upd (upd (upd (upd (upd (upd v9 1 (u14_ 0)) 2 (u14_ 1)) 3 (u14_ 2)) 4 (u14_ 3)) 5 (u14_ 4)) 6 (u14_ 5)) 7 (u14_ 6)) 8 (u14_ 7))))]) [0] rfl
          have hDc := hD.sub (ws' := [(h9, .inr (8, mX8 h10 (upd (upd (upd (upd (upd (upd (upd (upd v9 1 (u14_ 0)) 2 (u14_ 1)) 3 (u14_ 2)) 4 (u14_ 3)) 5 (u14_ 4)) 6 (u14_ 5)) 7 (u14_ 6)) 8 (u14_ 7))))]) [0] (by decide) rfl
          have hKc := hK.sub (tys' := []) [] rfl
          have hFc := va_free (wc := [(h9, .inr (8, mX8 h10 (upd (upd (upd (upd (upd (upd (upd (upd v9 1 (u14_ 0)) 2 (u14_ 1)) 3 (u14_ 2)) 4 (u14_ 3)) 5 (u14_ 4)) 6 (u14_ 5)) 7 (u14_ 6)) 8 (u14_ 7))))]) hD hS hA [0] rfl
          refine va_calli (va_runV (As := []) (rest := [.int r37_, .int x1, .ref h0]) ⟨hx, hb, hml, hown, hG⟩ (sX8_places_0 l dC dI adK adV h9 h10 H.size (upd (upd (upd (upd (upd (upd (upd (upd v9 1 (u14_ 0)) 2 (u14_ 1)) 3 (u14_ 2)) 4 (u14_ 3)) 5 (u14_ 4)) 6 (u14_ 5)) 7 (u14_ 6)) 8 (u14_ 7))) (cwV 0 hG (zgV zv936 zv937 zv938 zv134 zv939) rfl rfl rfl (by decide +kernel) ⟨Nat.le_of_ble_eq_true rfl, Nat.le_of_ble_eq_true rfl⟩) ⟨zPc_blind, va_recv hKc hPc (ci := 8) (q0 := 0) rfl rfl, zPc_pre hPc hKc hDc hE hS hFc hZ⟩ rfl rfl hl.1 rfl (lv_room (Nat.le_of_ble_eq_true rfl)) dX6_copyOn_41 ⟨Nat.le_of_ble_eq_true rfl, Nat.le_of_ble_eq_true rfl⟩) hS (fun q _ h => hFc q h) hFc (fun r41_ u41_ t H1 locs ht hvm hw hB hz1 hk1 hS => ?_)
          obtain ⟨w41_, a41_, b41_, hP1, hK1, hD1⟩ := hB
          rw [ht] at hP1
          obtain ⟨hP, hD⟩ := va_join (wr := [(h10, .inr (6, mX6 h11 h12 h13 h14 h15 h16 h17 h18 v10)), (h13, zi k13 833 f13), (h12, zi k12 833 f12), (h11, zi k11 1250 f11), (h19, .inr (0, mX0 h20 h21 h22 h23 v19)), (h20, zi k20 120 f20), (h0, .inr (6, mX6 h1 h2 h3 h4 h5 h6 h7 h8 (upd (upd (upd (upd v0 8 (u6_ 10)) 9 (u6_ 11)) 10 (u6_ 12)) 11 (u6_ 13)))), (h8, zi k8 400 (a6_ 7)), (h6, zi k6 400 (a6_ 5)), (h5, zi k5 400 (a6_ 4)), (h2, zi k2 833 (a6_ 1)), (h1, zi k1 1250 (a6_ 0)), (h3, zi k3 833 (a6_ 2)), (h4, zi k4 400 (a6_ 3)), (h7, zi k7 400 (a6_ 6))]) (w1 := [(h9, .inr (8, mX8 h10 (upd (upd (upd (upd (upd (upd (upd (upd v9 1 (u14_ 0)) 2 (u14_ 1)) 3 (u14_ 2)) 4 (u14_ 3)) 5 (u14_ 4)) 6 (u14_ 5)) 7 (u14_ 6)) 8 (u14_ 7))))]) hP hD [0] [1, 2, 3, 4, 5, 6, 7, 8, 9, 10, 11, 12, 13, 14, 15] rfl rfl (by decide) (by decide) hk1 hFc hP1 hD1
          have hP : va_P (dC, dI) vwCl [(h9, .inr (8, mX8 h10 (upd (upd (upd (upd (upd (upd (upd (upd v9 1 (u14_ 0)) 2 (u14_ 1)) 3 (u14_ 2)) 4 (u14_ 3)) 5 (u14_ 4)) 6 (u14_ 5)) 7 (u14_ 6)) 8 (u14_ 7)))), (h10, .inr (6, mX6 h11 h12 h13 h14 h15 h16 h17 h18 v10)), (h13, zi k13 833 f13), (h12, zi k12 833 f12), (h11, zi k11 1250 f11), (h19, .inr (0, mX0 h20 h21 h22 h23 v19)), (h20, zi k20 120 f20), (h0, .inr (6, mX6 h1 h2 h3 h4 h5 h6 h7 h8 (upd (upd (upd (upd v0 8 (u6_ 10)) 9 (u6_ 11)) 10 (u6_ 12)) 11 (u6_ 13)))), (h8, zi k8 400 (a6_ 7)), (h6, zi k6 400 (a6_ 5)), (h5, zi k5 400 (a6_ 4)), (h2, zi k2 833 (a6_ 1)), (h1, zi k1 1250 (a6_ 0)), (h3, zi k3 833 (a6_ 2)), (h4, zi k4 400 (a6_ 3)), (h7, zi k7 400 (a6_ 6))] H1 := hP.sub [15, 0, 1, 2, 3, 4, 5, 6, 7, 8, 9, 10, 11, 12, 13, 14] rfl
          have hD : va_D A [(h9, .inr (8, mX8 h10 (upd (upd (upd (upd (upd (upd (upd (upd v9 1 (u14_ 0)) 2 (u14_ 1)) 3 (u14_ 2)) 4 (u14_ 3)) 5 (u14_ 4)) 6 (u14_ 5)) 7 (u14_ 6)) 8 (u14_ 7)))), (h10, .inr (6, mX6 h11 h12 h13 h14 h15 h16 h17 h18 v10)), (h13, zi k13 833 f13), (h12, zi k12 833 f12), (h11, zi k11 1250 f11), (h19, .inr (0, mX0 h20 h21 h22 h23 v19)), (h20, zi k20 120 f20), (h0, .inr (6, mX6 h1 h2 h3 h4 h5 h6 h7 h8 (upd (upd (upd (upd v0 8 (u6_ 10)) 9 (u6_ 11)) 10 (u6_ 12)) 11 (u6_ 13)))), (h8, zi k8 400 (a6_ 7)), (h6, zi k6 400 (a6_ 5)), (h5, zi k5 400 (a6_ 4)), (h2, zi k2 833 (a6_ 1)), (h1, zi k1 1250 (a6_ 0)), (h3, zi k3 833 (a6_ 2)), (h4, zi k4 400 (a6_ 3)), (h7, zi k7 400 (a6_ 6))] := hD.sub [15, 0, 1, 2, 3, 4, 5, 6, 7, 8, 9, 10, 11, 12, 13, 14] (by decide) rfl
          generalize H1 = H at hP hS ⊢
          clear hz1
          have b_ : -2147483648 ≤ (u6_ 12).toInt ∧ (u6_ 12).toInt ≤ 2147483647 := ⟨zlo _, zhi _⟩
          have b_ : -2147483648 ≤ (u6_ 13).toInt ∧ (u6_ 13).toInt ≤ 2147483647 := ⟨zlo _, zhi _⟩
          have hPc := hP.sub (ws' := [(h0, .inr (6, mX6 h1 h2 h3 h4 h5 h6 h7 h8 (upd (upd (upd (upd v0 8 (u6_ 10)) 9 (u6_ 11)) 10 (u6_ 12)) 11 (u6_ 13)))), (h8, zi k8 400 (a6_ 7)), (h6, zi k6 400 (a6_ 5)), (h5, zi k5 400 (a6_ 4)), (h2, zi k2 833 (a6_ 1)), (h1, zi k1 1250 (a6_ 0)), (h3, zi k3 833 (a6_ 2)), (h4, zi k4 400 (a6_ 3)), (h7, zi k7 400 (a6_ 6))]) [7, 8, 9, 10, 11, 12, 13, 14, 15] rfl
          have hDc := hD.sub (ws' := [(h0, .inr (6, mX6 h1 h2 h3 h4 h5 h6 h7 h8 (upd (upd (upd (upd v0 8 (u6_ 10)) 9 (u6_ 11)) 10 (u6_ 12)) 11 (u6_ 13)))), (h8, zi k8 400 (a6_ 7)), (h6, zi k6 400 (a6_ 5)), (h5, zi k5 400 (a6_ 4)), (h2, zi k2 833 (a6_ 1)), (h1, zi k1 1250 (a6_ 0)), (h3, zi k3 833 (a6_ 2)), (h4, zi k4 400 (a6_ 3)), (h7, zi k7 400 (a6_ 6))]) [7, 8, 9, 10, 11, 12, 13, 14, 15] (by decide) rfl
          have hKc := hK.sub (tys' := [(k8, .int), (k6, .int), (k5, .int), (k2, .int), (k1, .int), (k3, .int), (k4, .int), (k7, .int)]) [4, 5, 6, 7, 8, 9, 10, 11] rfl
          have hFc := va_free (wc := [(h0, .inr (6, mX6 h1 h2 h3 h4 h5 h6 h7 h8 (upd (upd (upd (upd v0 8 (u6_ 10)) 9 (u6_ 11)) 10 (u6_ 12)) 11 (u6_ 13)))), (h8, zi k8 400 (a6_ 7)), (h6, zi k6 400 (a6_ 5)), (h5, zi k5 400 (a6_ 4)), (h2, zi k2 833 (a6_ 1)), (h1, zi k1 1250 (a6_ 0)), (h3, zi k3 833 (a6_ 2)), (h4, zi k4 400 (a6_ 3)), (h7, zi k7 400 (a6_ 6))]) hD hS hA [7, 8, 9, 10, 11, 12, 13, 14, 15] rfl
          refine va_callv (va_runV (As := [.int x1, .int r37_, .int r41_]) (rest := []) ⟨hx, hb, hml, hown, hG⟩ (sX6_startDocument_0 l dC dI adK adV h0 h8 h6 h5 h2 h1 h3 h4 h7 k8 k6 k5 k2 k1 k3 k4 k7 H.size (upd (upd (upd (upd v0 8 (u6_ 10)) 9 (u6_ 11)) 10 (u6_ 12)) 11 (u6_ 13)) (a6_ 7) (a6_ 5) (a6_ 4) (a6_ 1) (a6_ 0) (a6_ 2) (a6_ 3) (a6_ 6) x1 r37_ r41_ (zR_updF (zR_updF (zR_upd (zR_upd hv0 8 (show (0 : Int) ≤ ((u6_ 10) : Int32).toInt from by omega) (show ((u6_ 10) : Int32).toInt ≤ (833 : Int) from by omega)) 9 (show (0 : Int) ≤ ((u6_ 11) : Int32).toInt from by omega) (show ((u6_ 11) : Int32).toInt ≤ (1250 : Int) from by omega)) 10 rfl) 11 rfl) ha6_4 ha6_1 (show zPhi (a6_ 1) (a6_ 4) (a6_ 5) (u6_ 11).toInt (u6_ 10).toInt from by assumption)) (cwV 3 hG (zgV zv940 zv831 zv832 zv133 zv833) rfl rfl rfl (by decide +kernel) ⟨Nat.le_of_ble_eq_true rfl, Nat.le_of_ble_eq_true rfl⟩) ⟨zPc_blind, va_recv hKc hPc (ci := 6) (q0 := 0) rfl rfl, zPc_pre hPc hKc hDc hE hS hFc hZ⟩ rfl rfl hl.1 rfl (lv_room (Nat.le_of_ble_eq_true rfl)) dX6_copyOn_44 ⟨Nat.le_of_ble_eq_true rfl, Nat.le_of_ble_eq_true rfl⟩) hS (fun q _ h => hFc q h) hFc (fun u44_ t H1 locs ht hvm hw hB hz1 hk1 hS => ?_)
          replace hw : (0 ≤ (u44_ 0).toInt ∧ (u44_ 0).toInt ≤ 833) ∧ (0 ≤ (u44_ 1).toInt ∧ (u44_ 1).toInt ≤ 1250) := hw
          obtain ⟨b_, b_⟩ := hw
          obtain ⟨w44_, a44_, b44_, ha44_2, ha44_3, hB44_0, hP1, hK1, hD1⟩ := hB
          have hB44_0 : zPhi (a44_ 3) (a44_ 2) (a44_ 1) (u44_ 1).toInt (u44_ 0).toInt := hB44_0
          rw [ht] at hP1
          obtain ⟨hP, hD⟩ := va_join (wr := [(h9, .inr (8, mX8 h10 (upd (upd (upd (upd (upd (upd (upd (upd v9 1 (u14_ 0)) 2 (u14_ 1)) 3 (u14_ 2)) 4 (u14_ 3)) 5 (u14_ 4)) 6 (u14_ 5)) 7 (u14_ 6)) 8 (u14_ 7)))), (h10, .inr (6, mX6 h11 h12 h13 h14 h15 h16 h17 h18 v10)), (h13, zi k13 833 f13), (h12, zi k12 833 f12), (h11, zi k11 1250 f11), (h19, .inr (0, mX0 h20 h21 h22 h23 v19)), (h20, zi k20 120 f20)]) (w1 := [(h0, .inr (6, mX6 h1 h2 h3 h4 h5 h6 h7 h8 (upd (upd (upd (upd v0 8 (u44_ 0)) 9 (u44_ 1)) 10 (u44_ 2)) 11 (u44_ 3)))), (h8, zi k8 400 (a44_ 0)), (h6, zi k6 400 (a44_ 1)), (h5, zi k5 400 (a44_ 2)), (h2, zi k2 833 (a44_ 3)), (h1, zi k1 1250 (a44_ 4)), (h3, zi k3 833 (a44_ 5)), (h4, zi k4 400 (a44_ 6)), (h7, zi k7 400 (a44_ 7))]) hP hD [7, 8, 9, 10, 11, 12, 13, 14, 15] [0, 1, 2, 3, 4, 5, 6] rfl rfl (by decide) (by decide) hk1 hFc hP1 hD1
          have hP : va_P (dC, dI) vwCl [(h9, .inr (8, mX8 h10 (upd (upd (upd (upd (upd (upd (upd (upd v9 1 (u14_ 0)) 2 (u14_ 1)) 3 (u14_ 2)) 4 (u14_ 3)) 5 (u14_ 4)) 6 (u14_ 5)) 7 (u14_ 6)) 8 (u14_ 7)))), (h10, .inr (6, mX6 h11 h12 h13 h14 h15 h16 h17 h18 v10)), (h13, zi k13 833 f13), (h12, zi k12 833 f12), (h11, zi k11 1250 f11), (h19, .inr (0, mX0 h20 h21 h22 h23 v19)), (h20, zi k20 120 f20), (h0, .inr (6, mX6 h1 h2 h3 h4 h5 h6 h7 h8 (upd (upd (upd (upd v0 8 (u44_ 0)) 9 (u44_ 1)) 10 (u44_ 2)) 11 (u44_ 3)))), (h8, zi k8 400 (a44_ 0)), (h6, zi k6 400 (a44_ 1)), (h5, zi k5 400 (a44_ 2)), (h2, zi k2 833 (a44_ 3)), (h1, zi k1 1250 (a44_ 4)), (h3, zi k3 833 (a44_ 5)), (h4, zi k4 400 (a44_ 6)), (h7, zi k7 400 (a44_ 7))] H1 := hP.sub [0, 1, 2, 3, 4, 5, 6, 7, 8, 9, 10, 11, 12, 13, 14, 15] rfl
          have hD : va_D A [(h9, .inr (8, mX8 h10 (upd (upd (upd (upd (upd (upd (upd (upd v9 1 (u14_ 0)) 2 (u14_ 1)) 3 (u14_ 2)) 4 (u14_ 3)) 5 (u14_ 4)) 6 (u14_ 5)) 7 (u14_ 6)) 8 (u14_ 7)))), (h10, .inr (6, mX6 h11 h12 h13 h14 h15 h16 h17 h18 v10)), (h13, zi k13 833 f13), (h12, zi k12 833 f12), (h11, zi k11 1250 f11), (h19, .inr (0, mX0 h20 h21 h22 h23 v19)), (h20, zi k20 120 f20), (h0, .inr (6, mX6 h1 h2 h3 h4 h5 h6 h7 h8 (upd (upd (upd (upd v0 8 (u44_ 0)) 9 (u44_ 1)) 10 (u44_ 2)) 11 (u44_ 3)))), (h8, zi k8 400 (a44_ 0)), (h6, zi k6 400 (a44_ 1)), (h5, zi k5 400 (a44_ 2)), (h2, zi k2 833 (a44_ 3)), (h1, zi k1 1250 (a44_ 4)), (h3, zi k3 833 (a44_ 5)), (h4, zi k4 400 (a44_ 6)), (h7, zi k7 400 (a44_ 7))] := hD.sub [0, 1, 2, 3, 4, 5, 6, 7, 8, 9, 10, 11, 12, 13, 14, 15] (by decide) rfl
          generalize H1 = H at hP hS ⊢
          clear hz1
          refine lv_iconst (v := (-1)) hx hb dX6_copyOn_47 (by decide) ?_
          refine lv_istore (lv' := [(6, .int (-1)), (4, .int 1), (0, .ref h0), (1, .int x1), (2, .ref h9), (3, .ref h19), (5, .int (u6_ 1))]) hx hb dX6_copyOn_48 hl (by decide) rfl (fun ls hl => ?_)
          refine lv_iconst (v := 0) hx hb dX6_copyOn_50 (by decide) ?_
          refine lv_istore (lv' := [(7, .int 0), (6, .int (-1)), (4, .int 1), (0, .ref h0), (1, .int x1), (2, .ref h9), (3, .ref h19), (5, .int (u6_ 1))]) hx hb dX6_copyOn_51 hl (by decide) rfl (fun ls hl => ?_)
          refine zcutL (fun u53_ => (2147483647 - (u53_ 1).toInt).toNat) (fun H locs ls u53_ w53_ a53_ b53_ => va_P (dC, dI) vwCl [(h9, .inr (8, mX8 h10 (upd (upd (upd (upd (upd (upd (upd (upd v9 1 (u53_ 2)) 2 (u53_ 3)) 3 (u53_ 4)) 4 (u53_ 5)) 5 (u14_ 4)) 6 (u14_ 5)) 7 (u53_ 6)) 8 (u53_ 7)))), (h10, .inr (6, mX6 h11 h12 h13 h14 h15 h16 h17 h18 v10)), (h13, zi k13 833 f13), (h12, zi k12 833 f12), (h11, zi k11 1250 f11), (h19, .inr (0, mX0 h20 h21 h22 h23 v19)), (h20, zi k20 120 f20), (h0, .inr (6, mX6 h1 h2 h3 h4 h5 h6 h7 h8 (upd (upd (upd (upd v0 8 (u53_ 8)) 9 (u53_ 9)) 10 (u53_ 10)) 11 (u53_ 11)))), (h8, zi k8 400 (a44_ 0)), (h6, zi k6 400 (a53_ 5)), (h5, zi k5 400 (a53_ 4)), (h2, zi k2 833 (a53_ 1)), (h1, zi k1 1250 (a53_ 0)), (h3, zi k3 833 (a53_ 2)), (h4, zi k4 400 (a53_ 3)), (h7, zi k7 400 (a44_ 7))] H ∧ va_D A [(h9, .inr (8, mX8 h10 (upd (upd (upd (upd (upd (upd (upd (upd v9 1 (u53_ 2)) 2 (u53_ 3)) 3 (u53_ 4)) 4 (u53_ 5)) 5 (u14_ 4)) 6 (u14_ 5)) 7 (u53_ 6)) 8 (u53_ 7)))), (h10, .inr (6, mX6 h11 h12 h13 h14 h15 h16 h17 h18 v10)), (h13, zi k13 833 f13), (h12, zi k12 833 f12), (h11, zi k11 1250 f11), (h19, .inr (0, mX0 h20 h21 h22 h23 v19)), (h20, zi k20 120 f20), (h0, .inr (6, mX6 h1 h2 h3 h4 h5 h6 h7 h8 (upd (upd (upd (upd v0 8 (u53_ 8)) 9 (u53_ 9)) 10 (u53_ 10)) 11 (u53_ 11)))), (h8, zi k8 400 (a44_ 0)), (h6, zi k6 400 (a53_ 5)), (h5, zi k5 400 (a53_ 4)), (h2, zi k2 833 (a53_ 1)), (h1, zi k1 1250 (a53_ 0)), (h3, zi k3 833 (a53_ 2)), (h4, zi k4 400 (a53_ 3)), (h7, zi k7 400 (a44_ 7))] ∧ va_S A s.heap H locs ∧ lv_has ls 9 [(0, .ref h0), (1, .int x1), (2, .ref h9), (3, .ref h19), (4, .int 1), (5, .int (u6_ 1)), (6, .int (u53_ 0)), (7, .int (u53_ 1))] ∧ zA 0 1250 (a53_ 1) ∧ zA 0 832 (a53_ 4) ∧ (0 ≤ (u53_ 1).toInt ∧ (u53_ 1).toInt ≤ 2147483647) ∧ (0 ≤ (u53_ 8).toInt ∧ (u53_ 8).toInt ≤ 833) ∧ (0 ≤ (u53_ 9).toInt ∧ (u53_ 9).toInt ≤ 1250) ∧ (zPhi (a53_ 1) (a53_ 4) (a53_ 5) (u53_ 9).toInt (u53_ 8).toInt)) (fun ls u53_ w53_ => F0 m 53 ls []) 0 0 ?_ (fun hJ53 => ?_)
          · skip
            intro H locs ls u53_ w53_ a53_ b53_ hc hJ53
            obtain ⟨hP, hD, hS, hl, ha53_1, ha53_4, b_, b_, b_, hI53_0⟩ := hc
            refine lv_iload hx hb dX6_copyOn_53 (lv_at hl 7 rfl) ?_
            refine lv_aload_n hx hb dX6_copyOn_55 rfl (lv_at hl 2 rfl) ?_
            have b_ : -2147483648 ≤ (u53_ 2).toInt ∧ (u53_ 2).toInt ≤ 2147483647 := ⟨zlo _, zhi _⟩
            have b_ : -2147483648 ≤ (u53_ 3).toInt ∧ (u53_ 3).toInt ≤ 2147483647 := ⟨zlo _, zhi _⟩
            have b_ : -2147483648 ≤ (u53_ 4).toInt ∧ (u53_ 4).toInt ≤ 2147483647 := ⟨zlo _, zhi _⟩
            have b_ : -2147483648 ≤ (u53_ 5).toInt ∧ (u53_ 5).toInt ≤ 2147483647 := ⟨zlo _, zhi _⟩
            have b_ : -2147483648 ≤ (u53_ 6).toInt ∧ (u53_ 6).toInt ≤ 2147483647 := ⟨zlo _, zhi _⟩
            have b_ : -2147483648 ≤ (u53_ 7).toInt ∧ (u53_ 7).toInt ≤ 2147483647 := ⟨zlo _, zhi _⟩
            have hPc := hP.sub (ws' := [(h9, .inr (8, mX8 h10 (upd (upd (upd (upd (upd (upd (upd (upd v9 1 (u53_ 2)) 2 (u53_ 3)) 3 (u53_ 4)) 4 (u53_ 5)) 5 (u14_ 4)) 6 (u14_ 5)) 7 (u53_ 6)) 8 (u53_ 7))))]) [0] rfl
            have hDc := hD.sub (ws' := [(h9, .inr (8, mX8 h10 (upd (upd (upd (upd (upd (upd (upd (upd v9 1 (u53_ 2)) 2 (u53_ 3)) 3 (u53_ 4)) 4 (u53_ 5)) 5 (u14_ 4)) 6 (u14_ 5)) 7 (u53_ 6)) 8 (u53_ 7))))]) [0] (by decide) rfl
            have hKc := hK.sub (tys' := []) [] rfl
            have hFc := va_free (wc := [(h9, .inr (8, mX8 h10 (upd (upd (upd (upd (upd (upd (upd (upd v9 1 (u53_ 2)) 2 (u53_ 3)) 3 (u53_ 4)) 4 (u53_ 5)) 5 (u14_ 4)) 6 (u14_ 5)) 7 (u53_ 6)) 8 (u53_ 7))))]) hD hS hA [0] rfl
            refine va_calli (va_runV (As := []) (rest := [.int (u53_ 1)]) ⟨hx, hb, hml, hown, hG⟩ (sX8_places_0 l dC dI adK adV h9 h10 H.size (upd (upd (upd (upd (upd (upd (upd (upd v9 1 (u53_ 2)) 2 (u53_ 3)) 3 (u53_ 4)) 4 (u53_ 5)) 5 (u14_ 4)) 6 (u14_ 5)) 7 (u53_ 6)) 8 (u53_ 7))) (cwV 0 hG (zgV zv936 zv937 zv938 zv134 zv939) rfl rfl rfl (by decide +kernel) ⟨Nat.le_of_ble_eq_true rfl, Nat.le_of_ble_eq_true rfl⟩) ⟨zPc_blind, va_recv hKc hPc (ci := 8) (q0 := 0) rfl rfl, zPc_pre hPc hKc hDc hE hS hFc hZ⟩ rfl rfl hl.1 rfl (lv_room (Nat.le_of_ble_eq_true rfl)) dX6_copyOn_56 ⟨Nat.le_of_ble_eq_true rfl, Nat.le_of_ble_eq_true rfl⟩) hS (fun q _ h => hFc q h) hFc (fun r56_ u56_ t H1 locs ht hvm hw hB hz1 hk1 hS => ?_)
            obtain ⟨w56_, a56_, b56_, hP1, hK1, hD1⟩ := hB
            rw [ht] at hP1
            obtain ⟨hP, hD⟩ := va_join (wr := [(h10, .inr (6, mX6 h11 h12 h13 h14 h15 h16 h17 h18 v10)), (h13, zi k13 833 f13), (h12, zi k12 833 f12), (h11, zi k11 1250 f11), (h19, .inr (0, mX0 h20 h21 h22 h23 v19)), (h20, zi k20 120 f20), (h0, .inr (6, mX6 h1 h2 h3 h4 h5 h6 h7 h8 (upd (upd (upd (upd v0 8 (u53_ 8)) 9 (u53_ 9)) 10 (u53_ 10)) 11 (u53_ 11)))), (h8, zi k8 400 (a44_ 0)), (h6, zi k6 400 (a53_ 5)), (h5, zi k5 400 (a53_ 4)), (h2, zi k2 833 (a53_ 1)), (h1, zi k1 1250 (a53_ 0)), (h3, zi k3 833 (a53_ 2)), (h4, zi k4 400 (a53_ 3)), (h7, zi k7 400 (a44_ 7))]) (w1 := [(h9, .inr (8, mX8 h10 (upd (upd (upd (upd (upd (upd (upd (upd v9 1 (u53_ 2)) 2 (u53_ 3)) 3 (u53_ 4)) 4 (u53_ 5)) 5 (u14_ 4)) 6 (u14_ 5)) 7 (u53_ 6)) 8 (u53_ 7))))]) hP hD [0] [1, 2, 3, 4, 5, 6, 7, 8, 9, 10, 11, 12, 13, 14, 15] rfl rfl (by decide) (by decide) hk1 hFc hP1 hD1
            have hP : va_P (dC, dI) vwCl [(h9, .inr (8, mX8 h10 (upd (upd (upd (upd (upd (upd (upd (upd v9 1 (u53_ 2)) 2 (u53_ 3)) 3 (u53_ 4)) 4 (u53_ 5)) 5 (u14_ 4)) 6 (u14_ 5)) 7 (u53_ 6)) 8 (u53_ 7)))), (h10, .inr (6, mX6 h11 h12 h13 h14 h15 h16 h17 h18 v10)), (h13, zi k13 833 f13), (h12, zi k12 833 f12), (h11, zi k11 1250 f11), (h19, .inr (0, mX0 h20 h21 h22 h23 v19)), (h20, zi k20 120 f20), (h0, .inr (6, mX6 h1 h2 h3 h4 h5 h6 h7 h8 (upd (upd (upd (upd v0 8 (u53_ 8)) 9 (u53_ 9)) 10 (u53_ 10)) 11 (u53_ 11)))), (h8, zi k8 400 (a44_ 0)), (h6, zi k6 400 (a53_ 5)), (h5, zi k5 400 (a53_ 4)), (h2, zi k2 833 (a53_ 1)), (h1, zi k1 1250 (a53_ 0)), (h3, zi k3 833 (a53_ 2)), (h4, zi k4 400 (a53_ 3)), (h7, zi k7 400 (a44_ 7))] H1 := hP.sub [15, 0, 1, 2, 3, 4, 5, 6, 7, 8, 9, 10, 11, 12, 13, 14] rfl
            have hD : va_D A [(h9, .inr (8, mX8 h10 (upd (upd (upd (upd (upd (upd (upd (upd v9 1 (u53_ 2)) 2 (u53_ 3)) 3 (u53_ 4)) 4 (u53_ 5)) 5 (u14_ 4)) 6 (u14_ 5)) 7 (u53_ 6)) 8 (u53_ 7)))), (h10, .inr (6, mX6 h11 h12 h13 h14 h15 h16 h17 h18 v10)), (h13, zi k13 833 f13), (h12, zi k12 833 f12), (h11, zi k11 1250 f11), (h19, .inr (0, mX0 h20 h21 h22 h23 v19)), (h20, zi k20 120 f20), (h0, .inr (6, mX6 h1 h2 h3 h4 h5 h6 h7 h8 (upd (upd (upd (upd v0 8 (u53_ 8)) 9 (u53_ 9)) 10 (u53_ 10)) 11 (u53_ 11)))), (h8, zi k8 400 (a44_ 0)), (h6, zi k6 400 (a53_ 5)), (h5, zi k5 400 (a53_ 4)), (h2, zi k2 833 (a53_ 1)), (h1, zi k1 1250 (a53_ 0)), (h3, zi k3 833 (a53_ 2)), (h4, zi k4 400 (a53_ 3)), (h7, zi k7 400 (a44_ 7))] := hD.sub [15, 0, 1, 2, 3, 4, 5, 6, 7, 8, 9, 10, 11, 12, 13, 14] (by decide) rfl
            generalize H1 = H at hP hS ⊢
            clear hz1
            have b_ : -2147483648 ≤ r56_.toInt ∧ r56_.toInt ≤ 2147483647 := ⟨zlo _, zhi _⟩
            refine lv_icmp_ge (tgt := 88) hx hb dX6_copyOn_59 (by decide) (fun c_ => ?_) (fun c_ => ?_)
            · skip
              have b_ := zT_ge rfl rfl c_
              obtain ⟨z88, e_z88⟩ : ∃ z : Int32, z = (u6_ 1) + Int32.ofInt 1 := ⟨_, rfl⟩
              have b_ := zadd (x := (u6_ 1)) (y := Int32.ofInt 1) rfl (show (Int32.ofInt 1).toInt = 1 from by decide) e_z88 (by omega) (by omega)
              refine lv_iinc (v := z88) (lv' := [(5, .int z88), (0, .ref h0), (1, .int x1), (2, .ref h9), (3, .ref h19), (4, .int 1), (6, .int (u53_ 0)), (7, .int (u53_ 1))]) hx hb dX6_copyOn_88 hl (k := 5) rfl e_z88.symm (by decide) rfl (fun ls hl => ?_)
              refine lv_goto (tgt := 6) hx hb dX6_copyOn_91 (by decide) ?_
              have b_ : -2147483648 ≤ x1.toInt ∧ x1.toInt ≤ 2147483647 := ⟨zlo _, zhi _⟩
              have hc : va_P (dC, dI) vwCl [(h9, .inr (8, mX8 h10 (upd (upd (upd (upd (upd (upd (upd (upd v9 1 (u53_ 2)) 2 (u53_ 3)) 3 (u53_ 4)) 4 (u53_ 5)) 5 (u14_ 4)) 6 (u14_ 5)) 7 (u53_ 6)) 8 (u53_ 7)))), (h10, .inr (6, mX6 h11 h12 h13 h14 h15 h16 h17 h18 v10)), (h13, zi k13 833 f13), (h12, zi k12 833 f12), (h11, zi k11 1250 f11), (h19, .inr (0, mX0 h20 h21 h22 h23 v19)), (h20, zi k20 120 f20), (h0, .inr (6, mX6 h1 h2 h3 h4 h5 h6 h7 h8 (upd (upd (upd (upd v0 8 (u53_ 8)) 9 (u53_ 9)) 10 (u53_ 10)) 11 (u53_ 11)))), (h8, zi k8 400 (a44_ 0)), (h6, zi k6 400 (a53_ 5)), (h5, zi k5 400 (a53_ 4)), (h2, zi k2 833 (a53_ 1)), (h1, zi k1 1250 (a53_ 0)), (h3, zi k3 833 (a53_ 2)), (h4, zi k4 400 (a53_ 3)), (h7, zi k7 400 (a44_ 7))] H ∧ va_D A [(h9, .inr (8, mX8 h10 (upd (upd (upd (upd (upd (upd (upd (upd v9 1 (u53_ 2)) 2 (u53_ 3)) 3 (u53_ 4)) 4 (u53_ 5)) 5 (u14_ 4)) 6 (u14_ 5)) 7 (u53_ 6)) 8 (u53_ 7)))), (h10, .inr (6, mX6 h11 h12 h13 h14 h15 h16 h17 h18 v10)), (h13, zi k13 833 f13), (h12, zi k12 833 f12), (h11, zi k11 1250 f11), (h19, .inr (0, mX0 h20 h21 h22 h23 v19)), (h20, zi k20 120 f20), (h0, .inr (6, mX6 h1 h2 h3 h4 h5 h6 h7 h8 (upd (upd (upd (upd v0 8 (u53_ 8)) 9 (u53_ 9)) 10 (u53_ 10)) 11 (u53_ 11)))), (h8, zi k8 400 (a44_ 0)), (h6, zi k6 400 (a53_ 5)), (h5, zi k5 400 (a53_ 4)), (h2, zi k2 833 (a53_ 1)), (h1, zi k1 1250 (a53_ 0)), (h3, zi k3 833 (a53_ 2)), (h4, zi k4 400 (a53_ 3)), (h7, zi k7 400 (a44_ 7))] ∧ va_S A s.heap H locs ∧ lv_has ls 9 [(0, .ref h0), (1, .int x1), (2, .ref h9), (3, .ref h19), (4, .int 1), (5, .int z88)] ∧ zA 0 1250 (a53_ 1) ∧ zA 0 832 (a53_ 4) ∧ (0 ≤ (1 : Int32).toInt ∧ (1 : Int32).toInt ≤ 1) ∧ (0 ≤ z88.toInt ∧ z88.toInt ≤ 120) ∧ (0 ≤ (u53_ 8).toInt ∧ (u53_ 8).toInt ≤ 833) ∧ (0 ≤ (u53_ 9).toInt ∧ (u53_ 9).toInt ≤ 1250) ∧ (zPhi (a53_ 1) (a53_ 4) (a53_ 5) (u53_ 9).toInt (u53_ 8).toInt) := ⟨hP, hD, hS, lv_sub hl [1, 2, 3, 4, 5, 0] rfl, ha53_1, ha53_4, ⟨by omega, by omega⟩, ⟨by omega, by omega⟩, ⟨by omega, by omega⟩, ⟨by omega, by omega⟩, by assumption⟩
              exact hJ6 H locs ls (fun i => ([1, z88, (u53_ 2), (u53_ 3), (u53_ 4), (u53_ 5), (u14_ 4), (u14_ 5), (u53_ 6), (u53_ 7), (u53_ 8), (u53_ 9), (u53_ 10), (u53_ 11)] : List (Int32)).getD i 0) (fun _ => 0) (fun i => ([(a53_ 0), (a53_ 1), (a53_ 2), (a53_ 3), (a53_ 4), (a53_ 5), (a44_ 7), (a44_ 0)] : List (Nat → Int32)).getD i (fun _ => 0)) (fun _ => (fun _ => 0)) hc (show (120 - z88.toInt).toNat < (120 - (u6_ 1).toInt).toNat from by omega)
            · skip
              have b_ := zF_ge rfl rfl c_
              refine lv_aload_n hx hb dX6_copyOn_62 rfl (lv_at hl 2 rfl) ?_
              have hPc := hP.sub (ws' := [(h9, .inr (8, mX8 h10 (upd (upd (upd (upd (upd (upd (upd (upd v9 1 (u53_ 2)) 2 (u53_ 3)) 3 (u53_ 4)) 4 (u53_ 5)) 5 (u14_ 4)) 6 (u14_ 5)) 7 (u53_ 6)) 8 (u53_ 7)))), (h10, .inr (6, mX6 h11 h12 h13 h14 h15 h16 h17 h18 v10)), (h13, zi k13 833 f13), (h12, zi k12 833 f12), (h11, zi k11 1250 f11)]) [0, 1, 2, 3, 4] rfl
              have hDc := hD.sub (ws' := [(h9, .inr (8, mX8 h10 (upd (upd (upd (upd (upd (upd (upd (upd v9 1 (u53_ 2)) 2 (u53_ 3)) 3 (u53_ 4)) 4 (u53_ 5)) 5 (u14_ 4)) 6 (u14_ 5)) 7 (u53_ 6)) 8 (u53_ 7)))), (h10, .inr (6, mX6 h11 h12 h13 h14 h15 h16 h17 h18 v10)), (h13, zi k13 833 f13), (h12, zi k12 833 f12), (h11, zi k11 1250 f11)]) [0, 1, 2, 3, 4] (by decide) rfl
              have hKc := hK.sub (tys' := [(k13, .int), (k12, .int), (k11, .int)]) [0, 1, 2] rfl
              have hFc := va_free (wc := [(h9, .inr (8, mX8 h10 (upd (upd (upd (upd (upd (upd (upd (upd v9 1 (u53_ 2)) 2 (u53_ 3)) 3 (u53_ 4)) 4 (u53_ 5)) 5 (u14_ 4)) 6 (u14_ 5)) 7 (u53_ 6)) 8 (u53_ 7)))), (h10, .inr (6, mX6 h11 h12 h13 h14 h15 h16 h17 h18 v10)), (h13, zi k13 833 f13), (h12, zi k12 833 f12), (h11, zi k11 1250 f11)]) hD hS hA [0, 1, 2, 3, 4] rfl
              refine va_calli (va_runV (As := []) (rest := []) ⟨hx, hb, hml, hown, hG⟩ (sX8_nextPlace_0 l dC dI adK adV h9 h10 h13 h12 h11 h14 h15 h16 h17 h18 k13 k12 k11 H.size (upd (upd (upd (upd (upd (upd (upd (upd v9 1 (u53_ 2)) 2 (u53_ 3)) 3 (u53_ 4)) 4 (u53_ 5)) 5 (u14_ 4)) 6 (u14_ 5)) 7 (u53_ 6)) 8 (u53_ 7)) v10 f13 f12 f11 hv10 hf12) (cwV 0 hG (zgV zv941 zv942 zv943 zv134 zv944) rfl rfl rfl (by decide +kernel) ⟨Nat.le_of_ble_eq_true rfl, Nat.le_of_ble_eq_true rfl⟩) ⟨zPc_blind, va_recv hKc hPc (ci := 8) (q0 := 0) rfl rfl, zPc_pre hPc hKc hDc hE hS hFc hZ⟩ rfl rfl hl.1 rfl (lv_room (Nat.le_of_ble_eq_true rfl)) dX6_copyOn_63 ⟨Nat.le_of_ble_eq_true rfl, Nat.le_of_ble_eq_true rfl⟩) hS (fun q _ h => hFc q h) hFc (fun r63_ u63_ t H1 locs ht hvm hw hB hz1 hk1 hS => ?_)
              replace hw : ((-2147483648) ≤ (u63_ 4).toInt ∧ (u63_ 4).toInt ≤ 2147483646) := hw
              have b_ := hw
              obtain ⟨w63_, a63_, b63_, hP1, hK1, hD1⟩ := hB
              rw [ht] at hP1
              obtain ⟨hP, hD⟩ := va_join (wr := [(h19, .inr (0, mX0 h20 h21 h22 h23 v19)), (h20, zi k20 120 f20), (h0, .inr (6, mX6 h1 h2 h3 h4 h5 h6 h7 h8 (upd (upd (upd (upd v0 8 (u53_ 8)) 9 (u53_ 9)) 10 (u53_ 10)) 11 (u53_ 11)))), (h8, zi k8 400 (a44_ 0)), (h6, zi k6 400 (a53_ 5)), (h5, zi k5 400 (a53_ 4)), (h2, zi k2 833 (a53_ 1)), (h1, zi k1 1250 (a53_ 0)), (h3, zi k3 833 (a53_ 2)), (h4, zi k4 400 (a53_ 3)), (h7, zi k7 400 (a44_ 7))]) (w1 := [(h9, .inr (8, mX8 h10 (upd (upd (upd (upd (upd (upd (upd (upd v9 1 (u63_ 0)) 2 (u63_ 1)) 3 (u63_ 2)) 4 (u63_ 3)) 5 (u14_ 4)) 6 (u14_ 5)) 7 (u63_ 4)) 8 (u63_ 5)))), (h10, .inr (6, mX6 h11 h12 h13 h14 h15 h16 h17 h18 v10)), (h13, zi k13 833 f13), (h12, zi k12 833 f12), (h11, zi k11 1250 f11)]) hP hD [0, 1, 2, 3, 4] [5, 6, 7, 8, 9, 10, 11, 12, 13, 14, 15] rfl rfl (by decide) (by decide) hk1 hFc hP1 hD1
              have hP : va_P (dC, dI) vwCl [(h9, .inr (8, mX8 h10 (upd (upd (upd (upd (upd (upd (upd (upd v9 1 (u63_ 0)) 2 (u63_ 1)) 3 (u63_ 2)) 4 (u63_ 3)) 5 (u14_ 4)) 6 (u14_ 5)) 7 (u63_ 4)) 8 (u63_ 5)))), (h10, .inr (6, mX6 h11 h12 h13 h14 h15 h16 h17 h18 v10)), (h13, zi k13 833 f13), (h12, zi k12 833 f12), (h11, zi k11 1250 f11), (h19, .inr (0, mX0 h20 h21 h22 h23 v19)), (h20, zi k20 120 f20), (h0, .inr (6, mX6 h1 h2 h3 h4 h5 h6 h7 h8 (upd (upd (upd (upd v0 8 (u53_ 8)) 9 (u53_ 9)) 10 (u53_ 10)) 11 (u53_ 11)))), (h8, zi k8 400 (a44_ 0)), (h6, zi k6 400 (a53_ 5)), (h5, zi k5 400 (a53_ 4)), (h2, zi k2 833 (a53_ 1)), (h1, zi k1 1250 (a53_ 0)), (h3, zi k3 833 (a53_ 2)), (h4, zi k4 400 (a53_ 3)), (h7, zi k7 400 (a44_ 7))] H1 := hP.sub [11, 12, 13, 14, 15, 0, 1, 2, 3, 4, 5, 6, 7, 8, 9, 10] rfl
              have hD : va_D A [(h9, .inr (8, mX8 h10 (upd (upd (upd (upd (upd (upd (upd (upd v9 1 (u63_ 0)) 2 (u63_ 1)) 3 (u63_ 2)) 4 (u63_ 3)) 5 (u14_ 4)) 6 (u14_ 5)) 7 (u63_ 4)) 8 (u63_ 5)))), (h10, .inr (6, mX6 h11 h12 h13 h14 h15 h16 h17 h18 v10)), (h13, zi k13 833 f13), (h12, zi k12 833 f12), (h11, zi k11 1250 f11), (h19, .inr (0, mX0 h20 h21 h22 h23 v19)), (h20, zi k20 120 f20), (h0, .inr (6, mX6 h1 h2 h3 h4 h5 h6 h7 h8 (upd (upd (upd (upd v0 8 (u53_ 8)) 9 (u53_ 9)) 10 (u53_ 10)) 11 (u53_ 11)))), (h8, zi k8 400 (a44_ 0)), (h6, zi k6 400 (a53_ 5)), (h5, zi k5 400 (a53_ 4)), (h2, zi k2 833 (a53_ 1)), (h1, zi k1 1250 (a53_ 0)), (h3, zi k3 833 (a53_ 2)), (h4, zi k4 400 (a53_ 3)), (h7, zi k7 400 (a44_ 7))] := hD.sub [11, 12, 13, 14, 15, 0, 1, 2, 3, 4, 5, 6, 7, 8, 9, 10] (by decide) rfl
              generalize H1 = H at hP hS ⊢
              clear hz1
              refine lv_istore (lv' := [(8, .int r63_), (0, .ref h0), (1, .int x1), (2, .ref h9), (3, .ref h19), (4, .int 1), (5, .int (u6_ 1)), (6, .int (u53_ 0)), (7, .int (u53_ 1))]) hx hb dX6_copyOn_66 hl (by decide) rfl (fun ls hl => ?_)
              refine lv_aload_n hx hb dX6_copyOn_68 rfl (lv_at hl 1 rfl) ?_
              refine lv_iload_n hx hb dX6_copyOn_69 rfl (lv_at hl 2 rfl) ?_
              refine lv_iload hx hb dX6_copyOn_70 (lv_at hl 0 rfl) ?_
              refine lv_iload hx hb dX6_copyOn_72 (lv_at hl 7 rfl) ?_
              have b_ : -2147483648 ≤ r63_.toInt ∧ r63_.toInt ≤ 2147483647 := ⟨zlo _, zhi _⟩
              have b_ : -2147483648 ≤ (u53_ 0).toInt ∧ (u53_ 0).toInt ≤ 2147483647 := ⟨zlo _, zhi _⟩
              refine lv_isub hx hb dX6_copyOn_74 ?_
              refine lv_topi (fun z74 e_z74 => ?_)
              have b_ : -2147483648 ≤ (u53_ 10).toInt ∧ (u53_ 10).toInt ≤ 2147483647 := ⟨zlo _, zhi _⟩
              have b_ : -2147483648 ≤ (u53_ 11).toInt ∧ (u53_ 11).toInt ≤ 2147483647 := ⟨zlo _, zhi _⟩
              have hPc := hP.sub (ws' := [(h0, .inr (6, mX6 h1 h2 h3 h4 h5 h6 h7 h8 (upd (upd (upd (upd v0 8 (u53_ 8)) 9 (u53_ 9)) 10 (u53_ 10)) 11 (u53_ 11)))), (h6, zi k6 400 (a53_ 5)), (h5, zi k5 400 (a53_ 4)), (h2, zi k2 833 (a53_ 1)), (h1, zi k1 1250 (a53_ 0)), (h3, zi k3 833 (a53_ 2)), (h4, zi k4 400 (a53_ 3))]) [7, 9, 10, 11, 12, 13, 14] rfl
              have hDc := hD.sub (ws' := [(h0, .inr (6, mX6 h1 h2 h3 h4 h5 h6 h7 h8 (upd (upd (upd (upd v0 8 (u53_ 8)) 9 (u53_ 9)) 10 (u53_ 10)) 11 (u53_ 11)))), (h6, zi k6 400 (a53_ 5)), (h5, zi k5 400 (a53_ 4)), (h2, zi k2 833 (a53_ 1)), (h1, zi k1 1250 (a53_ 0)), (h3, zi k3 833 (a53_ 2)), (h4, zi k4 400 (a53_ 3))]) [7, 9, 10, 11, 12, 13, 14] (by decide) rfl
              have hKc := hK.sub (tys' := [(k6, .int), (k5, .int), (k2, .int), (k1, .int), (k3, .int), (k4, .int)]) [5, 6, 7, 8, 9, 10] rfl
              have hFc := va_free (wc := [(h0, .inr (6, mX6 h1 h2 h3 h4 h5 h6 h7 h8 (upd (upd (upd (upd v0 8 (u53_ 8)) 9 (u53_ 9)) 10 (u53_ 10)) 11 (u53_ 11)))), (h6, zi k6 400 (a53_ 5)), (h5, zi k5 400 (a53_ 4)), (h2, zi k2 833 (a53_ 1)), (h1, zi k1 1250 (a53_ 0)), (h3, zi k3 833 (a53_ 2)), (h4, zi k4 400 (a53_ 3))]) hD hS hA [7, 9, 10, 11, 12, 13, 14] rfl
              refine va_callv (va_runV (As := [.int x1, .int z74]) (rest := []) ⟨hx, hb, hml, hown, hG⟩ (sX6_append_0 l dC dI adK adV h0 h6 h5 h2 h1 h3 h4 h7 h8 k6 k5 k2 k1 k3 k4 H.size (upd (upd (upd (upd v0 8 (u53_ 8)) 9 (u53_ 9)) 10 (u53_ 10)) 11 (u53_ 11)) (a53_ 5) (a53_ 4) (a53_ 1) (a53_ 0) (a53_ 2) (a53_ 3) x1 z74 (zR_updF (zR_updF (zR_upd (zR_upd hv0 8 (show (0 : Int) ≤ ((u53_ 8) : Int32).toInt from by omega) (show ((u53_ 8) : Int32).toInt ≤ (833 : Int) from by omega)) 9 (show (0 : Int) ≤ ((u53_ 9) : Int32).toInt from by omega) (show ((u53_ 9) : Int32).toInt ≤ (1250 : Int) from by omega)) 10 rfl) 11 rfl) ha53_4 ha53_1 (show zPhi (a53_ 1) (a53_ 4) (a53_ 5) (u53_ 9).toInt (u53_ 8).toInt from by assumption)) (cwV 2 hG (zgV zv835 zv836 zv837 zv133 zv838) rfl rfl rfl (by decide +kernel) ⟨Nat.le_of_ble_eq_true rfl, Nat.le_of_ble_eq_true rfl⟩) ⟨zPc_blind, va_recv hKc hPc (ci := 6) (q0 := 0) rfl rfl, zPc_pre hPc hKc hDc hE hS hFc hZ⟩ rfl rfl hl.1 rfl (lv_room (Nat.le_of_ble_eq_true rfl)) dX6_copyOn_75 ⟨Nat.le_of_ble_eq_true rfl, Nat.le_of_ble_eq_true rfl⟩) hS (fun q _ h => hFc q h) hFc (fun u75_ t H1 locs ht hvm hw hB hz1 hk1 hS => ?_)
              replace hw : (0 ≤ (u75_ 0).toInt ∧ (u75_ 0).toInt ≤ 833) ∧ (0 ≤ (u75_ 1).toInt ∧ (u75_ 1).toInt ≤ 1250) := hw
              obtain ⟨b_, b_⟩ := hw
              obtain ⟨w75_, a75_, b75_, ha75_1, ha75_2, hB75_0, hP1, hK1, hD1⟩ := hB
              have hB75_0 : zPhi (a75_ 2) (a75_ 1) (a75_ 0) (u75_ 1).toInt (u75_ 0).toInt := hB75_0
              rw [ht] at hP1
              obtain ⟨hP, hD⟩ := va_join (wr := [(h9, .inr (8, mX8 h10 (upd (upd (upd (upd (upd (upd (upd (upd v9 1 (u63_ 0)) 2 (u63_ 1)) 3 (u63_ 2)) 4 (u63_ 3)) 5 (u14_ 4)) 6 (u14_ 5)) 7 (u63_ 4)) 8 (u63_ 5)))), (h10, .inr (6, mX6 h11 h12 h13 h14 h15 h16 h17 h18 v10)), (h13, zi k13 833 f13), (h12, zi k12 833 f12), (h11, zi k11 1250 f11), (h19, .inr (0, mX0 h20 h21 h22 h23 v19)), (h20, zi k20 120 f20), (h8, zi k8 400 (a44_ 0)), (h7, zi k7 400 (a44_ 7))]) (w1 := [(h0, .inr (6, mX6 h1 h2 h3 h4 h5 h6 h7 h8 (upd (upd (upd (upd v0 8 (u75_ 0)) 9 (u75_ 1)) 10 (u75_ 2)) 11 (u75_ 3)))), (h6, zi k6 400 (a75_ 0)), (h5, zi k5 400 (a75_ 1)), (h2, zi k2 833 (a75_ 2)), (h1, zi k1 1250 (a75_ 3)), (h3, zi k3 833 (a75_ 4)), (h4, zi k4 400 (a75_ 5))]) hP hD [7, 9, 10, 11, 12, 13, 14] [0, 1, 2, 3, 4, 5, 6, 8, 15] rfl rfl (by decide) (by decide) hk1 hFc hP1 hD1
              have hP : va_P (dC, dI) vwCl [(h9, .inr (8, mX8 h10 (upd (upd (upd (upd (upd (upd (upd (upd v9 1 (u63_ 0)) 2 (u63_ 1)) 3 (u63_ 2)) 4 (u63_ 3)) 5 (u14_ 4)) 6 (u14_ 5)) 7 (u63_ 4)) 8 (u63_ 5)))), (h10, .inr (6, mX6 h11 h12 h13 h14 h15 h16 h17 h18 v10)), (h13, zi k13 833 f13), (h12, zi k12 833 f12), (h11, zi k11 1250 f11), (h19, .inr (0, mX0 h20 h21 h22 h23 v19)), (h20, zi k20 120 f20), (h0, .inr (6, mX6 h1 h2 h3 h4 h5 h6 h7 h8 (upd (upd (upd (upd v0 8 (u75_ 0)) 9 (u75_ 1)) 10 (u75_ 2)) 11 (u75_ 3)))), (h8, zi k8 400 (a44_ 0)), (h6, zi k6 400 (a75_ 0)), (h5, zi k5 400 (a75_ 1)), (h2, zi k2 833 (a75_ 2)), (h1, zi k1 1250 (a75_ 3)), (h3, zi k3 833 (a75_ 4)), (h4, zi k4 400 (a75_ 5)), (h7, zi k7 400 (a44_ 7))] H1 := hP.sub [0, 1, 2, 3, 4, 5, 6, 9, 7, 10, 11, 12, 13, 14, 15, 8] rfl
              have hD : va_D A [(h9, .inr (8, mX8 h10 (upd (upd (upd (upd (upd (upd (upd (upd v9 1 (u63_ 0)) 2 (u63_ 1)) 3 (u63_ 2)) 4 (u63_ 3)) 5 (u14_ 4)) 6 (u14_ 5)) 7 (u63_ 4)) 8 (u63_ 5)))), (h10, .inr (6, mX6 h11 h12 h13 h14 h15 h16 h17 h18 v10)), (h13, zi k13 833 f13), (h12, zi k12 833 f12), (h11, zi k11 1250 f11), (h19, .inr (0, mX0 h20 h21 h22 h23 v19)), (h20, zi k20 120 f20), (h0, .inr (6, mX6 h1 h2 h3 h4 h5 h6 h7 h8 (upd (upd (upd (upd v0 8 (u75_ 0)) 9 (u75_ 1)) 10 (u75_ 2)) 11 (u75_ 3)))), (h8, zi k8 400 (a44_ 0)), (h6, zi k6 400 (a75_ 0)), (h5, zi k5 400 (a75_ 1)), (h2, zi k2 833 (a75_ 2)), (h1, zi k1 1250 (a75_ 3)), (h3, zi k3 833 (a75_ 4)), (h4, zi k4 400 (a75_ 5)), (h7, zi k7 400 (a44_ 7))] := hD.sub [0, 1, 2, 3, 4, 5, 6, 9, 7, 10, 11, 12, 13, 14, 15, 8] (by decide) rfl
              generalize H1 = H at hP hS ⊢
              clear hz1
              refine lv_iload hx hb dX6_copyOn_78 (lv_at hl 0 rfl) ?_
              refine lv_istore (lv' := [(6, .int r63_), (8, .int r63_), (0, .ref h0), (1, .int x1), (2, .ref h9), (3, .ref h19), (4, .int 1), (5, .int (u6_ 1)), (7, .int (u53_ 1))]) hx hb dX6_copyOn_80 hl (by decide) rfl (fun ls hl => ?_)
              obtain ⟨z82, e_z82⟩ : ∃ z : Int32, z = (u53_ 1) + Int32.ofInt 1 := ⟨_, rfl⟩
              have b_ := zadd (x := (u53_ 1)) (y := Int32.ofInt 1) rfl (show (Int32.ofInt 1).toInt = 1 from by decide) e_z82 (by omega) (by omega)
              refine lv_iinc (v := z82) (lv' := [(7, .int z82), (6, .int r63_), (8, .int r63_), (0, .ref h0), (1, .int x1), (2, .ref h9), (3, .ref h19), (4, .int 1), (5, .int (u6_ 1))]) hx hb dX6_copyOn_82 hl (k := 8) rfl e_z82.symm (by decide) rfl (fun ls hl => ?_)
              refine lv_goto (tgt := 53) hx hb dX6_copyOn_85 (by decide) ?_
              have b_ : -2147483648 ≤ x1.toInt ∧ x1.toInt ≤ 2147483647 := ⟨zlo _, zhi _⟩
              have hc : va_P (dC, dI) vwCl [(h9, .inr (8, mX8 h10 (upd (upd (upd (upd (upd (upd (upd (upd v9 1 (u63_ 0)) 2 (u63_ 1)) 3 (u63_ 2)) 4 (u63_ 3)) 5 (u14_ 4)) 6 (u14_ 5)) 7 (u63_ 4)) 8 (u63_ 5)))), (h10, .inr (6, mX6 h11 h12 h13 h14 h15 h16 h17 h18 v10)), (h13, zi k13 833 f13), (h12, zi k12 833 f12), (h11, zi k11 1250 f11), (h19, .inr (0, mX0 h20 h21 h22 h23 v19)), (h20, zi k20 120 f20), (h0, .inr (6, mX6 h1 h2 h3 h4 h5 h6 h7 h8 (upd (upd (upd (upd v0 8 (u75_ 0)) 9 (u75_ 1)) 10 (u75_ 2)) 11 (u75_ 3)))), (h8, zi k8 400 (a44_ 0)), (h6, zi k6 400 (a75_ 0)), (h5, zi k5 400 (a75_ 1)), (h2, zi k2 833 (a75_ 2)), (h1, zi k1 1250 (a75_ 3)), (h3, zi k3 833 (a75_ 4)), (h4, zi k4 400 (a75_ 5)), (h7, zi k7 400 (a44_ 7))] H ∧ va_D A [(h9, .inr (8, mX8 h10 (upd (upd (upd (upd (upd (upd (upd (upd v9 1 (u63_ 0)) 2 (u63_ 1)) 3 (u63_ 2)) 4 (u63_ 3)) 5 (u14_ 4)) 6 (u14_ 5)) 7 (u63_ 4)) 8 (u63_ 5)))), (h10, .inr (6, mX6 h11 h12 h13 h14 h15 h16 h17 h18 v10)), (h13, zi k13 833 f13), (h12, zi k12 833 f12), (h11, zi k11 1250 f11), (h19, .inr (0, mX0 h20 h21 h22 h23 v19)), (h20, zi k20 120 f20), (h0, .inr (6, mX6 h1 h2 h3 h4 h5 h6 h7 h8 (upd (upd (upd (upd v0 8 (u75_ 0)) 9 (u75_ 1)) 10 (u75_ 2)) 11 (u75_ 3)))), (h8, zi k8 400 (a44_ 0)), (h6, zi k6 400 (a75_ 0)), (h5, zi k5 400 (a75_ 1)), (h2, zi k2 833 (a75_ 2)), (h1, zi k1 1250 (a75_ 3)), (h3, zi k3 833 (a75_ 4)), (h4, zi k4 400 (a75_ 5)), (h7, zi k7 400 (a44_ 7))] ∧ va_S A s.heap H locs ∧ lv_has ls 9 [(0, .ref h0), (1, .int x1), (2, .ref h9), (3, .ref h19), (4, .int 1), (5, .int (u6_ 1)), (6, .int r63_), (7, .int z82)] ∧ zA 0 1250 (a75_ 2) ∧ zA 0 832 (a75_ 1) ∧ (0 ≤ z82.toInt ∧ z82.toInt ≤ 2147483647) ∧ (0 ≤ (u75_ 0).toInt ∧ (u75_ 0).toInt ≤ 833) ∧ (0 ≤ (u75_ 1).toInt ∧ (u75_ 1).toInt ≤ 1250) ∧ (zPhi (a75_ 2) (a75_ 1) (a75_ 0) (u75_ 1).toInt (u75_ 0).toInt) := ⟨hP, hD, hS, lv_sub hl [3, 4, 5, 6, 7, 8, 1, 0] rfl, ha75_2, ha75_1, ⟨by omega, by omega⟩, ⟨by omega, by omega⟩, ⟨by omega, by omega⟩, by assumption⟩
              exact hJ53 H locs ls (fun i => ([r63_, z82, (u63_ 0), (u63_ 1), (u63_ 2), (u63_ 3), (u63_ 4), (u63_ 5), (u75_ 0), (u75_ 1), (u75_ 2), (u75_ 3)] : List (Int32)).getD i 0) (fun _ => 0) (fun i => ([(a75_ 3), (a75_ 2), (a75_ 4), (a75_ 5), (a75_ 1), (a75_ 0)] : List (Nat → Int32)).getD i (fun _ => 0)) (fun _ => (fun _ => 0)) hc (show (2147483647 - z82.toInt).toNat < (2147483647 - (u53_ 1).toInt).toNat from by omega)
          · skip
            have b_ : -2147483648 ≤ x1.toInt ∧ x1.toInt ≤ 2147483647 := ⟨zlo _, zhi _⟩
            have hc : va_P (dC, dI) vwCl [(h9, .inr (8, mX8 h10 (upd (upd (upd (upd (upd (upd (upd (upd v9 1 (u14_ 0)) 2 (u14_ 1)) 3 (u14_ 2)) 4 (u14_ 3)) 5 (u14_ 4)) 6 (u14_ 5)) 7 (u14_ 6)) 8 (u14_ 7)))), (h10, .inr (6, mX6 h11 h12 h13 h14 h15 h16 h17 h18 v10)), (h13, zi k13 833 f13), (h12, zi k12 833 f12), (h11, zi k11 1250 f11), (h19, .inr (0, mX0 h20 h21 h22 h23 v19)), (h20, zi k20 120 f20), (h0, .inr (6, mX6 h1 h2 h3 h4 h5 h6 h7 h8 (upd (upd (upd (upd v0 8 (u44_ 0)) 9 (u44_ 1)) 10 (u44_ 2)) 11 (u44_ 3)))), (h8, zi k8 400 (a44_ 0)), (h6, zi k6 400 (a44_ 1)), (h5, zi k5 400 (a44_ 2)), (h2, zi k2 833 (a44_ 3)), (h1, zi k1 1250 (a44_ 4)), (h3, zi k3 833 (a44_ 5)), (h4, zi k4 400 (a44_ 6)), (h7, zi k7 400 (a44_ 7))] H ∧ va_D A [(h9, .inr (8, mX8 h10 (upd (upd (upd (upd (upd (upd (upd (upd v9 1 (u14_ 0)) 2 (u14_ 1)) 3 (u14_ 2)) 4 (u14_ 3)) 5 (u14_ 4)) 6 (u14_ 5)) 7 (u14_ 6)) 8 (u14_ 7)))), (h10, .inr (6, mX6 h11 h12 h13 h14 h15 h16 h17 h18 v10)), (h13, zi k13 833 f13), (h12, zi k12 833 f12), (h11, zi k11 1250 f11), (h19, .inr (0, mX0 h20 h21 h22 h23 v19)), (h20, zi k20 120 f20), (h0, .inr (6, mX6 h1 h2 h3 h4 h5 h6 h7 h8 (upd (upd (upd (upd v0 8 (u44_ 0)) 9 (u44_ 1)) 10 (u44_ 2)) 11 (u44_ 3)))), (h8, zi k8 400 (a44_ 0)), (h6, zi k6 400 (a44_ 1)), (h5, zi k5 400 (a44_ 2)), (h2, zi k2 833 (a44_ 3)), (h1, zi k1 1250 (a44_ 4)), (h3, zi k3 833 (a44_ 5)), (h4, zi k4 400 (a44_ 6)), (h7, zi k7 400 (a44_ 7))] ∧ va_S A s.heap H locs ∧ lv_has ls 9 [(0, .ref h0), (1, .int x1), (2, .ref h9), (3, .ref h19), (4, .int 1), (5, .int (u6_ 1)), (6, .int (-1)), (7, .int 0)] ∧ zA 0 1250 (a44_ 3) ∧ zA 0 832 (a44_ 2) ∧ (0 ≤ (0 : Int32).toInt ∧ (0 : Int32).toInt ≤ 2147483647) ∧ (0 ≤ (u44_ 0).toInt ∧ (u44_ 0).toInt ≤ 833) ∧ (0 ≤ (u44_ 1).toInt ∧ (u44_ 1).toInt ≤ 1250) ∧ (zPhi (a44_ 3) (a44_ 2) (a44_ 1) (u44_ 1).toInt (u44_ 0).toInt) := ⟨hP, hD, hS, lv_sub hl [3, 4, 5, 6, 2, 7, 1, 0] rfl, ha44_3, ha44_2, ⟨by omega, by omega⟩, ⟨by omega, by omega⟩, ⟨by omega, by omega⟩, by assumption⟩
            exact hJ53 H locs ls (fun i => ([(-1), 0, (u14_ 0), (u14_ 1), (u14_ 2), (u14_ 3), (u14_ 6), (u14_ 7), (u44_ 0), (u44_ 1), (u44_ 2), (u44_ 3)] : List (Int32)).getD i 0) (fun _ => 0) (fun i => ([(a44_ 4), (a44_ 3), (a44_ 5), (a44_ 6), (a44_ 2), (a44_ 1)] : List (Nat → Int32)).getD i (fun _ => 0)) (fun _ => (fun _ => 0)) hc
  · skip
    have b_ : -2147483648 ≤ x1.toInt ∧ x1.toInt ≤ 2147483647 := ⟨zlo _, zhi _⟩
    have hc : va_P (dC, dI) vwCl [(h9, .inr (8, mX8 h10 (upd (upd (upd (upd (upd (upd (upd (upd v9 1 (v9 1)) 2 (v9 2)) 3 (v9 3)) 4 (v9 4)) 5 (v9 5)) 6 (v9 6)) 7 (v9 7)) 8 (v9 8)))), (h10, .inr (6, mX6 h11 h12 h13 h14 h15 h16 h17 h18 v10)), (h13, zi k13 833 f13), (h12, zi k12 833 f12), (h11, zi k11 1250 f11), (h19, .inr (0, mX0 h20 h21 h22 h23 v19)), (h20, zi k20 120 f20), (h0, .inr (6, mX6 h1 h2 h3 h4 h5 h6 h7 h8 (upd (upd (upd (upd v0 8 (v0 8)) 9 (v0 9)) 10 (v0 10)) 11 (v0 11)))), (h8, zi k8 400 f8), (h6, zi k6 400 f6), (h5, zi k5 400 f5), (h2, zi k2 833 f2), (h1, zi k1 1250 f1), (h3, zi k3 833 f3), (h4, zi k4 400 f4), (h7, zi k7 400 f7)] s.heap ∧ va_D A [(h9, .inr (8, mX8 h10 (upd (upd (upd (upd (upd (upd (upd (upd v9 1 (v9 1)) 2 (v9 2)) 3 (v9 3)) 4 (v9 4)) 5 (v9 5)) 6 (v9 6)) 7 (v9 7)) 8 (v9 8)))), (h10, .inr (6, mX6 h11 h12 h13 h14 h15 h16 h17 h18 v10)), (h13, zi k13 833 f13), (h12, zi k12 833 f12), (h11, zi k11 1250 f11), (h19, .inr (0, mX0 h20 h21 h22 h23 v19)), (h20, zi k20 120 f20), (h0, .inr (6, mX6 h1 h2 h3 h4 h5 h6 h7 h8 (upd (upd (upd (upd v0 8 (v0 8)) 9 (v0 9)) 10 (v0 10)) 11 (v0 11)))), (h8, zi k8 400 f8), (h6, zi k6 400 f6), (h5, zi k5 400 f5), (h2, zi k2 833 f2), (h1, zi k1 1250 f1), (h3, zi k3 833 f3), (h4, zi k4 400 f4), (h7, zi k7 400 f7)] ∧ va_S A s.heap s.heap [] ∧ lv_has ls 9 [(0, .ref h0), (1, .int x1), (2, .ref h9), (3, .ref h19), (4, .int 0), (5, .int 0)] ∧ zA 0 1250 f2 ∧ zA 0 832 f5 ∧ (0 ≤ (0 : Int32).toInt ∧ (0 : Int32).toInt ≤ 1) ∧ (0 ≤ (0 : Int32).toInt ∧ (0 : Int32).toInt ≤ 120) ∧ (0 ≤ (v0 8).toInt ∧ (v0 8).toInt ≤ 833) ∧ (0 ≤ (v0 9).toInt ∧ (v0 9).toInt ≤ 1250) ∧ (zPhi f2 f5 f6 (v0 9).toInt (v0 8).toInt) := ⟨hP, hD, hS, lv_sub hl [2, 3, 4, 5, 1, 0] rfl, hf2, hf5, ⟨by omega, by omega⟩, ⟨by omega, by omega⟩, ⟨by omega, by omega⟩, ⟨by omega, by omega⟩, by assumption⟩
    exact hJ6 s.heap [] ls (fun i => ([0, 0, (v9 1), (v9 2), (v9 3), (v9 4), (v9 5), (v9 6), (v9 7), (v9 8), (v0 8), (v0 9), (v0 10), (v0 11)] : List (Int32)).getD i 0) (fun _ => 0) (fun i => ([f1, f2, f3, f4, f5, f6, f7, f8] : List (Nat → Int32)).getD i (fun _ => 0)) (fun _ => (fun _ => 0)) hc
