set_option maxHeartbeats 8000000 in
set_option maxRecDepth 100000 in
theorem sX2_read_0 (l : Launch) (dC : Nat → ClassId) (dI : Nat → Nat → Nat) (adK adV : Nat → Nat) (h0 : Nat) (h23 : Nat) (h21 : Nat) (h19 : Nat) (h22 : Nat) (h1 : Nat) (h2 : Nat) (h3 : Nat) (h11 : Nat) (h12 : Nat) (h4 : Nat) (h5 : Nat) (h6 : Nat) (h7 : Nat) (h18 : Nat) (h20 : Nat) (h13 : Nat) (h14 : Nat) (h15 : Nat) (h16 : Nat) (h17 : Nat) (h8 : Nat) (h9 : Nat) (h10 : Nat) (k23 : ClassId) (k21 : ClassId) (k19 : ClassId) (k22 : ClassId) (k2 : ClassId) (k3 : ClassId) (k12 : ClassId) (k5 : ClassId) (k6 : ClassId) (k7 : ClassId) (k18 : ClassId) (k20 : ClassId) (sz : Nat) (v0 : Nat → Int32) (f23 : Nat → Int32) (f21 : Nat → Int32) (f19 : Nat → Int32) (f22 : Nat → Int32) (v1 : Nat → Int32) (f2 : Nat → Int32) (f3 : Nat → Int32) (v11 : Nat → Int32) (f12 : Nat → Int64) (v4 : Nat → Int32) (f5 : Nat → Int64) (f6 : Nat → Int32) (f7 : Nat → Int32) (f18 : Nat → Int32) (f20 : Nat → Int32) (hv0 : zR rg_Intake v0) (hf21 : zA 0 299 f21) (hf19 : zA (-1) 299 f19) (hf22 : zA 0 299 f22) (hv1 : zR rg_Tape v1) (hv11 : zR rg_Words10 v11) (hv4 : zR rg_Words400 v4) (hf6 : zA 0 399 f6) (hf7 : zA (-1) 399 f7) (hf20 : zA 0 399 f20) : Met l yX2_read (zw yX2_read cX2_read 3 (some .boolean)) { frames := 7, cells := 0, slots := 0, locals := 149 } (zPc dC dI adK adV [.ref h0] sz [(h0, .inr (2, mX2 h1 h4 h11 h18 h19 h20 h21 h22 h23 v0)), (h23, zi k23 400 f23), (h21, zi k21 400 f21), (h19, zi k19 300 f19), (h22, zi k22 400 f22), (h1, .inr (9, mX9 h2 h3 v1)), (h2, zi k2 600 f2), (h3, zi k3 12 f3), (h11, .inr (10, mX10 h12 h13 h14 h15 h16 h17 v11)), (h12, .inl (k12, 10, .inr (.inl f12))), (h4, .inr (10, mX10 h5 h6 h7 h8 h9 h10 v4)), (h5, .inl (k5, 400, .inr (.inl f5))), (h6, zi k6 400 f6), (h7, zi k7 400 f7), (h18, zi k18 300 f18), (h20, zi k20 300 f20)] [(k23, .int), (k21, .int), (k19, .int), (k22, .int), (k2, .byte), (k3, .byte), (k12, .long), (k5, .long), (k6, .int), (k7, .int), (k18, .int), (k20, .int)]) (va_Qi (fun (r : Int32) (u : Nat → Int32) => (0 ≤ r.toInt ∧ r.toInt ≤ 1) ∧ (0 ≤ (u 0).toInt ∧ (u 0).toInt ≤ 300) ∧ (0 ≤ (u 1).toInt ∧ (u 1).toInt ≤ 300) ∧ (0 ≤ (u 2).toInt ∧ (u 2).toInt ≤ 12) ∧ (0 ≤ (u 3).toInt ∧ (u 3).toInt ≤ 400) ∧ ((u 1).toInt ≤ (u 0).toInt) ∧ (r.toInt = (u 4).toInt)) (fun (u : Nat → Int32) (t : State) => ∃ (ww : Nat → Int64) (aa : Nat → Nat → Int32) (bb : Nat → Nat → Int64), zA 0 299 (aa 1) ∧ zA (-1) 299 (aa 2) ∧ zA 0 299 (aa 3) ∧ zA 0 399 (aa 5) ∧ zA 0 399 (aa 7) ∧ (zChn (aa 1) (aa 2) (aa 3) (aa 0) (u 0).toInt) ∧ (zRz f2 (v1 2).toInt f5 f6 f7 (v4 7).toInt f12 (v11 7).toInt (bb 0) (aa 5) f7 (u 3).toInt (aa 6) (aa 2) (aa 7) (aa 1) (aa 3) (aa 0) (u 0).toInt (u 1).toInt (u 4).toInt) ∧ va_P (dC, dI) vwCl [(h0, .inr (2, mX2 h1 h4 h11 h18 h19 h20 h21 h22 h23 (upd (upd v0 9 (u 0)) 10 (u 1)))), (h23, zi k23 400 (aa 0)), (h21, zi k21 400 (aa 1)), (h19, zi k19 300 (aa 2)), (h22, zi k22 400 (aa 3)), (h1, .inr (9, mX9 h2 h3 (upd v1 3 (u 2)))), (h2, zi k2 600 f2), (h3, zi k3 12 (aa 4)), (h11, .inr (10, mX10 h12 h13 h14 h15 h16 h17 v11)), (h12, .inl (k12, 10, .inr (.inl f12))), (h4, .inr (10, mX10 h5 h6 h7 h8 h9 h10 (upd v4 7 (u 3)))), (h5, .inl (k5, 400, .inr (.inl (bb 0)))), (h6, zi k6 400 (aa 5)), (h7, zi k7 400 f7), (h18, zi k18 300 (aa 6)), (h20, zi k20 300 (aa 7))] t.heap ∧ va_K (dC, dI) vwCl [(k23, .int), (k21, .int), (k19, .int), (k22, .int), (k2, .byte), (k3, .byte), (k12, .long), (k5, .long), (k6, .int), (k7, .int), (k18, .int), (k20, .int)] t ∧ va_D (va_A [(h0, .inr (2, mX2 h1 h4 h11 h18 h19 h20 h21 h22 h23 v0)), (h23, zi k23 400 f23), (h21, zi k21 400 f21), (h19, zi k19 300 f19), (h22, zi k22 400 f22), (h1, .inr (9, mX9 h2 h3 v1)), (h2, zi k2 600 f2), (h3, zi k3 12 f3), (h11, .inr (10, mX10 h12 h13 h14 h15 h16 h17 v11)), (h12, .inl (k12, 10, .inr (.inl f12))), (h4, .inr (10, mX10 h5 h6 h7 h8 h9 h10 v4)), (h5, .inl (k5, 400, .inr (.inl f5))), (h6, zi k6 400 f6), (h7, zi k7 400 f7), (h18, zi k18 300 f18), (h20, zi k20 300 f20)] sz) [(h0, .inr (2, mX2 h1 h4 h11 h18 h19 h20 h21 h22 h23 (upd (upd v0 9 (u 0)) 10 (u 1)))), (h23, zi k23 400 (aa 0)), (h21, zi k21 400 (aa 1)), (h19, zi k19 300 (aa 2)), (h22, zi k22 400 (aa 3)), (h1, .inr (9, mX9 h2 h3 (upd v1 3 (u 2)))), (h2, zi k2 600 f2), (h3, zi k3 12 (aa 4)), (h11, .inr (10, mX10 h12 h13 h14 h15 h16 h17 v11)), (h12, .inl (k12, 10, .inr (.inl f12))), (h4, .inr (10, mX10 h5 h6 h7 h8 h9 h10 (upd v4 7 (u 3)))), (h5, .inl (k5, 400, .inr (.inl (bb 0)))), (h6, zi k6 400 (aa 5)), (h7, zi k7 400 f7), (h18, zi k18 300 (aa 6)), (h20, zi k20 300 (aa 7))]) (va_A [(h0, .inr (2, mX2 h1 h4 h11 h18 h19 h20 h21 h22 h23 v0)), (h23, zi k23 400 f23), (h21, zi k21 400 f21), (h19, zi k19 300 f19), (h22, zi k22 400 f22), (h1, .inr (9, mX9 h2 h3 v1)), (h2, zi k2 600 f2), (h3, zi k3 12 f3), (h11, .inr (10, mX10 h12 h13 h14 h15 h16 h17 v11)), (h12, .inl (k12, 10, .inr (.inl f12))), (h4, .inr (10, mX10 h5 h6 h7 h8 h9 h10 v4)), (h5, .inl (k5, 400, .inr (.inl f5))), (h6, zi k6 400 f6), (h7, zi k7 400 f7), (h18, zi k18 300 f18), (h20, zi k20 300 f20)] sz)) 0 0 (va_A [(h0, .inr (2, mX2 h1 h4 h11 h18 h19 h20 h21 h22 h23 v0)), (h23, zi k23 400 f23), (h21, zi k21 400 f21), (h19, zi k19 300 f19), (h22, zi k22 400 f22), (h1, .inr (9, mX9 h2 h3 v1)), (h2, zi k2 600 f2), (h3, zi k3 12 f3), (h11, .inr (10, mX10 h12 h13 h14 h15 h16 h17 v11)), (h12, .inl (k12, 10, .inr (.inl f12))), (h4, .inr (10, mX10 h5 h6 h7 h8 h9 h10 v4)), (h5, .inl (k5, 400, .inr (.inl f5))), (h6, zi k6 400 f6), (h7, zi k7 400 f7), (h18, zi k18 300 f18), (h20, zi k20 300 f20)] sz) := by
  refine Met.ofW (cc := cX2_read) (maxL := 3) (ret := (some .boolean)) (by decide) rfl ?_
  intro p e s m args below meth c s₁ B hml hv
  obtain ⟨rfl, hsz, hP, hK, hD0, hE, hZ⟩ := hv
  have hx := B.exec
  have hb := B.bytes
  have hr := B.returns
  have hG : ∀ w ∈ zG, w.before _ s = true := fun w h => atoms_spec (ws := (zw yX2_read cX2_read 3 (some .boolean))) B.pre w (List.mem_cons_of_mem _ h)
  have hown : s.vm.findClass RX2 = some m.cls := findClass_of_methodNamed B.named
  have hlocks := B.notSynchronized

  subst hsz
  have hD := hD0.self (sz := s.heap.size)
  generalize hAe : va_A [(h0, .inr (2, mX2 h1 h4 h11 h18 h19 h20 h21 h22 h23 v0)), (h23, zi k23 400 f23), (h21, zi k21 400 f21), (h19, zi k19 300 f19), (h22, zi k22 400 f22), (h1, .inr (9, mX9 h2 h3 v1)), (h2, zi k2 600 f2), (h3, zi k3 12 f3), (h11, .inr (10, mX10 h12 h13 h14 h15 h16 h17 v11)), (h12, .inl (k12, 10, .inr (.inl f12))), (h4, .inr (10, mX10 h5 h6 h7 h8 h9 h10 v4)), (h5, .inl (k5, 400, .inr (.inl f5))), (h6, zi k6 400 f6), (h7, zi k7 400 f7), (h18, zi k18 300 f18), (h20, zi k20 300 f20)] s.heap.size = A at hD hZ ⊢
  have hA : ∀ q : Nat, s.heap.size ≤ q → A q := fun q h => by rw [← hAe]; exact Or.inr h
  have hS : va_S A s.heap s.heap [] := va_S.rf
  have hl := lv_entry ([.ref h0]) (n := 3) (Nat.le_of_ble_eq_true rfl)
  rw [lg_entry_eq]
  generalize (lg_sl ([.ref h0]) ++ List.replicate (3 - (lg_sl ([.ref h0])).length) Slot.unset).toArray = ls at hl ⊢
  have hl : lv_has ls 3 [(0, .ref h0)] := hl
  have b_ := zk_0
  have b_ := zk_1
  have b_ := zk_512
  have b_ : 0 ≤ (v0 10).toInt ∧ (v0 10).toInt ≤ 300 := hv0 10
  have b_ : 0 ≤ (v0 9).toInt ∧ (v0 9).toInt ≤ 300 := hv0 9
  have b_ : 0 ≤ (v1 2).toInt ∧ (v1 2).toInt ≤ 600 := hv1 2
  refine lv_aload_n hx hb dX2_read_0 rfl (lv_at hl 0 rfl) ?_
  have hPc := hP.sub (ws' := [(h0, .inr (2, mX2 h1 h4 h11 h18 h19 h20 h21 h22 h23 v0)), (h23, zi k23 400 f23), (h21, zi k21 400 f21), (h19, zi k19 300 f19), (h22, zi k22 400 f22)]) [0, 1, 2, 3, 4] rfl
  have hDc := hD.sub (ws' := [(h0, .inr (2, mX2 h1 h4 h11 h18 h19 h20 h21 h22 h23 v0)), (h23, zi k23 400 f23), (h21, zi k21 400 f21), (h19, zi k19 300 f19), (h22, zi k22 400 f22)]) [0, 1, 2, 3, 4] (by decide) rfl
  have hKc := hK.sub (tys' := [(k23, .int), (k21, .int), (k19, .int), (k22, .int)]) [0, 1, 2, 3] rfl
  have hFc := va_free (wc := [(h0, .inr (2, mX2 h1 h4 h11 h18 h19 h20 h21 h22 h23 v0)), (h23, zi k23 400 f23), (h21, zi k21 400 f21), (h19, zi k19 300 f19), (h22, zi k22 400 f22)]) hD hS hA [0, 1, 2, 3, 4] rfl
  refine va_callv (va_runV (As := []) (rest := []) ⟨hx, hb, hml, hown, hG⟩ (sX2_clear_0 l dC dI adK adV h0 h23 h21 h19 h22 h1 h4 h11 h18 h20 k23 k21 k19 k22 s.heap.size v0 f23 f21 f19 f22 hv0 hf21 hf19 hf22) (cwV 0 hG (zgV zv634 zv636 zv0 zv135 zv637) rfl rfl rfl (by decide +kernel) ⟨Nat.le_of_ble_eq_true rfl, Nat.le_of_ble_eq_true rfl⟩) ⟨zPc_blind, va_recv hKc hPc (ci := 2) (q0 := 0) rfl rfl, zPc_pre hPc hKc hDc hE hS hFc hZ⟩ rfl rfl hl.1 rfl (lv_room (Nat.le_of_ble_eq_true rfl)) dX2_read_1 ⟨Nat.le_of_ble_eq_true rfl, Nat.le_of_ble_eq_true rfl⟩) hS (fun q _ h => hFc q h) hFc (fun u1_ t H1 locs ht hvm hw hB hz1 hk1 hS => ?_)
  replace hw : (0 ≤ (u1_ 0).toInt ∧ (u1_ 0).toInt ≤ 0) ∧ (0 ≤ (u1_ 1).toInt ∧ (u1_ 1).toInt ≤ 0) ∧ ((u1_ 0).toInt = 0) ∧ ((u1_ 1).toInt = 0) := hw
  obtain ⟨b_, b_, hX1_0, hX1_1⟩ := hw
  obtain ⟨w1_, a1_, b1_, hB1_0, hB1_1, hP1, hK1, hD1⟩ := hB
  have hB1_0 : zChn f21 f19 f22 (a1_ 0) (u1_ 0).toInt := hB1_0
  have hB1_1 : ∀ j : Nat, j < 400 → (a1_ 0) j = 0 := hB1_1
  rw [ht] at hP1
  obtain ⟨hP, hD⟩ := va_join (wr := [(h1, .inr (9, mX9 h2 h3 v1)), (h2, zi k2 600 f2), (h3, zi k3 12 f3), (h11, .inr (10, mX10 h12 h13 h14 h15 h16 h17 v11)), (h12, .inl (k12, 10, .inr (.inl f12))), (h4, .inr (10, mX10 h5 h6 h7 h8 h9 h10 v4)), (h5, .inl (k5, 400, .inr (.inl f5))), (h6, zi k6 400 f6), (h7, zi k7 400 f7), (h18, zi k18 300 f18), (h20, zi k20 300 f20)]) (w1 := [(h0, .inr (2, mX2 h1 h4 h11 h18 h19 h20 h21 h22 h23 (upd (upd v0 9 (u1_ 0)) 10 (u1_ 1)))), (h23, zi k23 400 (a1_ 0)), (h21, zi k21 400 f21), (h19, zi k19 300 f19), (h22, zi k22 400 f22)]) hP hD [0, 1, 2, 3, 4] [5, 6, 7, 8, 9, 10, 11, 12, 13, 14, 15] rfl rfl (by decide) (by decide) hk1 hFc hP1 hD1
  have hP : va_P (dC, dI) vwCl [(h0, .inr (2, mX2 h1 h4 h11 h18 h19 h20 h21 h22 h23 (upd (upd v0 9 (u1_ 0)) 10 (u1_ 1)))), (h23, zi k23 400 (a1_ 0)), (h21, zi k21 400 f21), (h19, zi k19 300 f19), (h22, zi k22 400 f22), (h1, .inr (9, mX9 h2 h3 v1)), (h2, zi k2 600 f2), (h3, zi k3 12 f3), (h11, .inr (10, mX10 h12 h13 h14 h15 h16 h17 v11)), (h12, .inl (k12, 10, .inr (.inl f12))), (h4, .inr (10, mX10 h5 h6 h7 h8 h9 h10 v4)), (h5, .inl (k5, 400, .inr (.inl f5))), (h6, zi k6 400 f6), (h7, zi k7 400 f7), (h18, zi k18 300 f18), (h20, zi k20 300 f20)] H1 := hP.sub [11, 12, 13, 14, 15, 0, 1, 2, 3, 4, 5, 6, 7, 8, 9, 10] rfl
  have hD : va_D A [(h0, .inr (2, mX2 h1 h4 h11 h18 h19 h20 h21 h22 h23 (upd (upd v0 9 (u1_ 0)) 10 (u1_ 1)))), (h23, zi k23 400 (a1_ 0)), (h21, zi k21 400 f21), (h19, zi k19 300 f19), (h22, zi k22 400 f22), (h1, .inr (9, mX9 h2 h3 v1)), (h2, zi k2 600 f2), (h3, zi k3 12 f3), (h11, .inr (10, mX10 h12 h13 h14 h15 h16 h17 v11)), (h12, .inl (k12, 10, .inr (.inl f12))), (h4, .inr (10, mX10 h5 h6 h7 h8 h9 h10 v4)), (h5, .inl (k5, 400, .inr (.inl f5))), (h6, zi k6 400 f6), (h7, zi k7 400 f7), (h18, zi k18 300 f18), (h20, zi k20 300 f20)] := hD.sub [11, 12, 13, 14, 15, 0, 1, 2, 3, 4, 5, 6, 7, 8, 9, 10] (by decide) rfl
  generalize H1 = H at hP hS ⊢
  clear hz1
  refine lv_iconst (v := 0) hx hb dX2_read_4 (by decide) ?_
  refine lv_istore_n (lv' := [(1, .int 0), (0, .ref h0)]) hx hb dX2_read_5 rfl hl (by decide) rfl (fun ls hl => ?_)
  refine lv_iconst (v := 0) hx hb dX2_read_6 (by decide) ?_
  refine lv_istore_n (lv' := [(2, .int 0), (1, .int 0), (0, .ref h0)]) hx hb dX2_read_7 rfl hl (by decide) rfl (fun ls hl => ?_)
  refine zcutL (fun u8_ => (600 - (u8_ 1).toInt).toNat) (fun H locs ls u8_ w8_ a8_ b8_ => va_P (dC, dI) vwCl [(h0, .inr (2, mX2 h1 h4 h11 h18 h19 h20 h21 h22 h23 (upd (upd v0 9 (u8_ 3)) 10 (u8_ 4)))), (h23, zi k23 400 (a8_ 6)), (h21, zi k21 400 (a8_ 4)), (h19, zi k19 300 (a8_ 2)), (h22, zi k22 400 (a8_ 5)), (h1, .inr (9, mX9 h2 h3 (upd v1 3 (u8_ 2)))), (h2, zi k2 600 f2), (h3, zi k3 12 (a8_ 0)), (h11, .inr (10, mX10 h12 h13 h14 h15 h16 h17 v11)), (h12, .inl (k12, 10, .inr (.inl f12))), (h4, .inr (10, mX10 h5 h6 h7 h8 h9 h10 (upd v4 7 (u8_ 5)))), (h5, .inl (k5, 400, .inr (.inl (b8_ 0)))), (h6, zi k6 400 (a8_ 7)), (h7, zi k7 400 f7), (h18, zi k18 300 (a8_ 1)), (h20, zi k20 300 (a8_ 3))] H ∧ va_D A [(h0, .inr (2, mX2 h1 h4 h11 h18 h19 h20 h21 h22 h23 (upd (upd v0 9 (u8_ 3)) 10 (u8_ 4)))), (h23, zi k23 400 (a8_ 6)), (h21, zi k21 400 (a8_ 4)), (h19, zi k19 300 (a8_ 2)), (h22, zi k22 400 (a8_ 5)), (h1, .inr (9, mX9 h2 h3 (upd v1 3 (u8_ 2)))), (h2, zi k2 600 f2), (h3, zi k3 12 (a8_ 0)), (h11, .inr (10, mX10 h12 h13 h14 h15 h16 h17 v11)), (h12, .inl (k12, 10, .inr (.inl f12))), (h4, .inr (10, mX10 h5 h6 h7 h8 h9 h10 (upd v4 7 (u8_ 5)))), (h5, .inl (k5, 400, .inr (.inl (b8_ 0)))), (h6, zi k6 400 (a8_ 7)), (h7, zi k7 400 f7), (h18, zi k18 300 (a8_ 1)), (h20, zi k20 300 (a8_ 3))] ∧ va_S A s.heap H locs ∧ lv_has ls 3 [(0, .ref h0), (1, .int (u8_ 0)), (2, .int (u8_ 1))] ∧ zA (-1) 299 (a8_ 2) ∧ zA 0 399 (a8_ 3) ∧ zA 0 299 (a8_ 4) ∧ zA 0 299 (a8_ 5) ∧ zA 0 399 (a8_ 7) ∧ (0 ≤ (u8_ 0).toInt ∧ (u8_ 0).toInt ≤ 1200) ∧ (0 ≤ (u8_ 1).toInt ∧ (u8_ 1).toInt ≤ 600) ∧ (0 ≤ (u8_ 2).toInt ∧ (u8_ 2).toInt ≤ 12) ∧ (0 ≤ (u8_ 3).toInt ∧ (u8_ 3).toInt ≤ 300) ∧ (0 ≤ (u8_ 4).toInt ∧ (u8_ 4).toInt ≤ 300) ∧ (0 ≤ (u8_ 5).toInt ∧ (u8_ 5).toInt ≤ 400) ∧ (zRe f2 (v1 2).toInt f5 f6 f7 (v4 7).toInt f12 (v11 7).toInt (b8_ 0) (a8_ 7) f7 (u8_ 5).toInt (a8_ 1) (a8_ 2) (a8_ 3) (a8_ 4) (a8_ 5) (a8_ 6) (u8_ 3).toInt (u8_ 4).toInt (u8_ 1).toInt (u8_ 0).toInt) ∧ ((u8_ 1).toInt ≤ (v1 2).toInt) ∧ ((u8_ 0).toInt ≤ 512 + (u8_ 1).toInt) ∧ (0 ≤ (u8_ 0).toInt) ∧ (zChn (a8_ 4) (a8_ 2) (a8_ 5) (a8_ 6) (u8_ 3).toInt) ∧ ((u8_ 4).toInt ≤ (u8_ 3).toInt)) (fun ls u8_ w8_ => F0 m 8 ls []) 0 0 ?_ (fun hJ8 => ?_)
  · skip
    intro H locs ls u8_ w8_ a8_ b8_ hc hJ8
    obtain ⟨hP, hD, hS, hl, ha8_2, ha8_3, ha8_4, ha8_5, ha8_7, b_, b_, b_, b_, b_, b_, hI8_0, b_, b_, b_, hI8_4, b_⟩ := hc
    refine lv_iload_n hx hb dX2_read_8 rfl (lv_at hl 2 rfl) ?_
    refine lv_aload_n hx hb dX2_read_9 rfl (lv_at hl 0 rfl) ?_
    refine va_get (D := (dC, dI)) (ci := 2) (v := .ref h1) (C := RX2) (T := TX2) (N := 11) hx hb hG zuX2 hown hK hP 0 rfl rfl 0 (by decide) (hG _ zv325) (fun _ h9 => h9) rfl dX2_read_10 ?_
    have hPc := hP.sub (ws' := [(h1, .inr (9, mX9 h2 h3 (upd v1 3 (u8_ 2))))]) [5] rfl
    have hDc := hD.sub (ws' := [(h1, .inr (9, mX9 h2 h3 (upd v1 3 (u8_ 2))))]) [5] (by decide) rfl
    have hKc := hK.sub (tys' := []) [] rfl
    have hFc := va_free (wc := [(h1, .inr (9, mX9 h2 h3 (upd v1 3 (u8_ 2))))]) hD hS hA [5] rfl
    refine va_calli (va_runV (As := []) (rest := [.int (u8_ 1)]) ⟨hx, hb, hml, hown, hG⟩ (sX9_size_0 l dC dI adK adV h1 h2 h3 H.size (upd v1 3 (u8_ 2)) (zR_up2 hv1 3 (show (0 : Int) ≤ ((u8_ 2) : Int32).toInt ∧ ((u8_ 2) : Int32).toInt ≤ (12 : Int) from (by first | with_reducible assumption | exact ⟨by omega, by omega⟩)))) (cwV 0 hG (zgV zv639 zv607 zv608 zv130 zv609) rfl rfl rfl (by decide +kernel) ⟨Nat.le_of_ble_eq_true rfl, Nat.le_of_ble_eq_true rfl⟩) ⟨zPc_blind, va_recv hKc hPc (ci := 9) (q0 := 0) rfl rfl, zPc_pre hPc hKc hDc hE hS hFc hZ⟩ rfl rfl hl.1 rfl (lv_room (Nat.le_of_ble_eq_true rfl)) dX2_read_13 ⟨Nat.le_of_ble_eq_true rfl, Nat.le_of_ble_eq_true rfl⟩) hS (fun q _ h => hFc q h) hFc (fun r13_ u13_ t H1 locs ht hvm hw hB hz1 hk1 hS => ?_)
    replace hw : (0 ≤ r13_.toInt ∧ r13_.toInt ≤ 600) ∧ (r13_.toInt = (v1 2).toInt) := hw
    obtain ⟨b_, hX13_0⟩ := hw
    obtain ⟨w13_, a13_, b13_, hP1, hK1, hD1⟩ := hB
    rw [ht] at hP1
    obtain ⟨hP, hD⟩ := va_join (wr := [(h0, .inr (2, mX2 h1 h4 h11 h18 h19 h20 h21 h22 h23 (upd (upd v0 9 (u8_ 3)) 10 (u8_ 4)))), (h23, zi k23 400 (a8_ 6)), (h21, zi k21 400 (a8_ 4)), (h19, zi k19 300 (a8_ 2)), (h22, zi k22 400 (a8_ 5)), (h2, zi k2 600 f2), (h3, zi k3 12 (a8_ 0)), (h11, .inr (10, mX10 h12 h13 h14 h15 h16 h17 v11)), (h12, .inl (k12, 10, .inr (.inl f12))), (h4, .inr (10, mX10 h5 h6 h7 h8 h9 h10 (upd v4 7 (u8_ 5)))), (h5, .inl (k5, 400, .inr (.inl (b8_ 0)))), (h6, zi k6 400 (a8_ 7)), (h7, zi k7 400 f7), (h18, zi k18 300 (a8_ 1)), (h20, zi k20 300 (a8_ 3))]) (w1 := [(h1, .inr (9, mX9 h2 h3 (upd v1 3 (u8_ 2))))]) hP hD [5] [0, 1, 2, 3, 4, 6, 7, 8, 9, 10, 11, 12, 13, 14, 15] rfl rfl (by decide) (by decide) hk1 hFc hP1 hD1
    have hP : va_P (dC, dI) vwCl [(h0, .inr (2, mX2 h1 h4 h11 h18 h19 h20 h21 h22 h23 (upd (upd v0 9 (u8_ 3)) 10 (u8_ 4)))), (h23, zi k23 400 (a8_ 6)), (h21, zi k21 400 (a8_ 4)), (h19, zi k19 300 (a8_ 2)), (h22, zi k22 400 (a8_ 5)), (h1, .inr (9, mX9 h2 h3 (upd v1 3 (u8_ 2)))), (h2, zi k2 600 f2), (h3, zi k3 12 (a8_ 0)), (h11, .inr (10, mX10 h12 h13 h14 h15 h16 h17 v11)), (h12, .inl (k12, 10, .inr (.inl f12))), (h4, .inr (10, mX10 h5 h6 h7 h8 h9 h10 (upd v4 7 (u8_ 5)))), (h5, .inl (k5, 400, .inr (.inl (b8_ 0)))), (h6, zi k6 400 (a8_ 7)), (h7, zi k7 400 f7), (h18, zi k18 300 (a8_ 1)), (h20, zi k20 300 (a8_ 3))] H1 := hP.sub [0, 1, 2, 3, 4, 15, 5, 6, 7, 8, 9, 10, 11, 12, 13, 14] rfl
    have hD : va_D A [(h0, .inr (2, mX2 h1 h4 h11 h18 h19 h20 h21 h22 h23 (upd (upd v0 9 (u8_ 3)) 10 (u8_ 4)))), (h23, zi k23 400 (a8_ 6)), (h21, zi k21 400 (a8_ 4)), (h19, zi k19 300 (a8_ 2)), (h22, zi k22 400 (a8_ 5)), (h1, .inr (9, mX9 h2 h3 (upd v1 3 (u8_ 2)))), (h2, zi k2 600 f2), (h3, zi k3 12 (a8_ 0)), (h11, .inr (10, mX10 h12 h13 h14 h15 h16 h17 v11)), (h12, .inl (k12, 10, .inr (.inl f12))), (h4, .inr (10, mX10 h5 h6 h7 h8 h9 h10 (upd v4 7 (u8_ 5)))), (h5, .inl (k5, 400, .inr (.inl (b8_ 0)))), (h6, zi k6 400 (a8_ 7)), (h7, zi k7 400 f7), (h18, zi k18 300 (a8_ 1)), (h20, zi k20 300 (a8_ 3))] := hD.sub [0, 1, 2, 3, 4, 15, 5, 6, 7, 8, 9, 10, 11, 12, 13, 14] (by decide) rfl
    generalize H1 = H at hP hS ⊢
    clear hz1
    refine lv_icmp_ge (tgt := 84) hx hb dX2_read_16 (by decide) (fun c_ => ?_) (fun c_ => ?_)
    · skip
      have b_ := zT_ge rfl rfl c_
      refine lv_iconst (v := 1) hx hb dX2_read_84 (by decide) ?_
      refine W.widen (k := 0) (n := 0) (by decide) (by decide) ?_
      have hpost : (0 ≤ (1 : Int32).toInt ∧ (1 : Int32).toInt ≤ 1) ∧ (0 ≤ (u8_ 3).toInt ∧ (u8_ 3).toInt ≤ 300) ∧ (0 ≤ (u8_ 4).toInt ∧ (u8_ 4).toInt ≤ 300) ∧ (0 ≤ (u8_ 2).toInt ∧ (u8_ 2).toInt ≤ 12) ∧ (0 ≤ (u8_ 5).toInt ∧ (u8_ 5).toInt ≤ 400) ∧ ((u8_ 4).toInt ≤ (u8_ 3).toInt) ∧ ((1 : Int32).toInt = (1 : Int32).toInt) := ⟨(by first | with_reducible assumption | exact ⟨by omega, by omega⟩), (by first | with_reducible assumption | exact ⟨by omega, by omega⟩), (by first | with_reducible assumption | exact ⟨by omega, by omega⟩), (by first | with_reducible assumption | exact ⟨by omega, by omega⟩), (by first | with_reducible assumption | exact ⟨by omega, by omega⟩), by omega, rfl⟩
      have hP9 : va_P (dC, dI) vwCl [(h0, .inr (2, mX2 h1 h4 h11 h18 h19 h20 h21 h22 h23 (upd (upd v0 9 (u8_ 3)) 10 (u8_ 4)))), (h23, zi k23 400 (a8_ 6)), (h21, zi k21 400 (a8_ 4)), (h19, zi k19 300 (a8_ 2)), (h22, zi k22 400 (a8_ 5)), (h1, .inr (9, mX9 h2 h3 (upd v1 3 (u8_ 2)))), (h2, zi k2 600 f2), (h3, zi k3 12 (a8_ 0)), (h11, .inr (10, mX10 h12 h13 h14 h15 h16 h17 v11)), (h12, .inl (k12, 10, .inr (.inl f12))), (h4, .inr (10, mX10 h5 h6 h7 h8 h9 h10 (upd v4 7 (u8_ 5)))), (h5, .inl (k5, 400, .inr (.inl (b8_ 0)))), (h6, zi k6 400 (a8_ 7)), (h7, zi k7 400 f7), (h18, zi k18 300 (a8_ 1)), (h20, zi k20 300 (a8_ 3))] H := hP
      have hD9 : va_D A [(h0, .inr (2, mX2 h1 h4 h11 h18 h19 h20 h21 h22 h23 (upd (upd v0 9 (u8_ 3)) 10 (u8_ 4)))), (h23, zi k23 400 (a8_ 6)), (h21, zi k21 400 (a8_ 4)), (h19, zi k19 300 (a8_ 2)), (h22, zi k22 400 (a8_ 5)), (h1, .inr (9, mX9 h2 h3 (upd v1 3 (u8_ 2)))), (h2, zi k2 600 f2), (h3, zi k3 12 (a8_ 0)), (h11, .inr (10, mX10 h12 h13 h14 h15 h16 h17 v11)), (h12, .inl (k12, 10, .inr (.inl f12))), (h4, .inr (10, mX10 h5 h6 h7 h8 h9 h10 (upd v4 7 (u8_ 5)))), (h5, .inl (k5, 400, .inr (.inl (b8_ 0)))), (h6, zi k6 400 (a8_ 7)), (h7, zi k7 400 f7), (h18, zi k18 300 (a8_ 1)), (h20, zi k20 300 (a8_ 3))] := hD
      have hB0 : zChn (a8_ 4) (a8_ 2) (a8_ 5) (a8_ 6) (u8_ 3).toInt := by assumption
      have hB1 : zRz f2 (v1 2).toInt f5 f6 f7 (v4 7).toInt f12 (v11 7).toInt (b8_ 0) (a8_ 7) f7 (u8_ 5).toInt (a8_ 1) (a8_ 2) (a8_ 3) (a8_ 4) (a8_ 5) (a8_ 6) (u8_ 3).toInt (u8_ 4).toInt (1 : Int32).toInt := by first | exact hrz | exact zRz_e hI8_0 (by omega) (by omega) (by decide)
      exact W.zret (v := 1) hx hb hr rfl (fun t ht hW => ⟨⟨1, (fun i => ([(u8_ 3), (u8_ 4), (u8_ 2), (u8_ 5), 1] : List (Int32)).getD i 0), rfl, hpost, (fun _ => 0), (fun i => ([(a8_ 6), (a8_ 4), (a8_ 2), (a8_ 5), (a8_ 0), (a8_ 7), (a8_ 1), (a8_ 3)] : List (Nat → Int32)).getD i (fun _ => 0)), (fun i => ([(b8_ 0)] : List (Nat → Int64)).getD i (fun _ => 0)), ha8_4, ha8_2, ha8_5, ha8_7, ha8_3, hB0, hB1, by rw [ht]; exact hP9, va_K.moved hW.alike hK, hD9⟩, hS.F ht⟩) hS.2.2 dX2_read_85
    · skip
      have b_ := zF_ge rfl rfl c_
      refine lv_iload_n hx hb dX2_read_19 rfl (lv_at hl 1 rfl) ?_
      refine lv_sipush (v := 512) hx hb dX2_read_20 (by decide) ?_
      refine lv_icmp_ge (tgt := 46) hx hb dX2_read_23 (by decide) (fun c_ => ?_) (fun c_ => ?_)
      · skip
        have b_ := zT_ge rfl zk_512 c_
        refine lv_aload_n hx hb dX2_read_46 rfl (lv_at hl 0 rfl) ?_
        refine va_get (D := (dC, dI)) (ci := 2) (v := .ref h1) (C := RX2) (T := TX2) (N := 11) hx hb hG zuX2 hown hK hP 0 rfl rfl 0 (by decide) (hG _ zv325) (fun _ h9 => h9) rfl dX2_read_47 ?_
        refine lv_iload_n hx hb dX2_read_50 rfl (lv_at hl 2 rfl) ?_
        have hPc := hP.sub (ws' := [(h1, .inr (9, mX9 h2 h3 (upd v1 3 (u8_ 2)))), (h2, zi k2 600 f2)]) [5, 6] rfl
        have hDc := hD.sub (ws' := [(h1, .inr (9, mX9 h2 h3 (upd v1 3 (u8_ 2)))), (h2, zi k2 600 f2)]) [5, 6] (by decide) rfl
        have hKc := hK.sub (tys' := [(k2, .byte)]) [4] rfl
        have hFc := va_free (wc := [(h1, .inr (9, mX9 h2 h3 (upd v1 3 (u8_ 2)))), (h2, zi k2 600 f2)]) hD hS hA [5, 6] rfl
        refine va_calli (va_runV (As := [.int (u8_ 1)]) (rest := []) ⟨hx, hb, hml, hown, hG⟩ (sX9_startsToken_0 l dC dI adK adV h1 h2 h3 k2 H.size (upd v1 3 (u8_ 2)) f2 (u8_ 1) (zR_up2 hv1 3 (show (0 : Int) ≤ ((u8_ 2) : Int32).toInt ∧ ((u8_ 2) : Int32).toInt ≤ (12 : Int) from (by first | with_reducible assumption | exact ⟨by omega, by omega⟩)))) (cwV 1 hG (zgV zv644 zv645 zv646 zv130 zv647) rfl rfl rfl (by decide +kernel) ⟨Nat.le_of_ble_eq_true rfl, Nat.le_of_ble_eq_true rfl⟩) ⟨zPc_blind, va_recv hKc hPc (ci := 9) (q0 := 0) rfl rfl, zPc_pre hPc hKc hDc hE hS hFc hZ⟩ rfl rfl hl.1 rfl (lv_room (Nat.le_of_ble_eq_true rfl)) dX2_read_51 ⟨Nat.le_of_ble_eq_true rfl, Nat.le_of_ble_eq_true rfl⟩) hS (fun q _ h => hFc q h) hFc (fun r51_ u51_ t H1 locs ht hvm hw hB hz1 hk1 hS => ?_)
        replace hw : (0 ≤ r51_.toInt ∧ r51_.toInt ≤ 1) ∧ (r51_.toInt = 1 → zsb f2 (v1 2).toInt (u8_ 1).toInt = true) ∧ (r51_.toInt = 0 → zsb f2 (v1 2).toInt (u8_ 1).toInt = false) := hw
        obtain ⟨b_, hX51_0, hX51_1⟩ := hw
        obtain ⟨w51_, a51_, b51_, hP1, hK1, hD1⟩ := hB
        rw [ht] at hP1
        obtain ⟨hP, hD⟩ := va_join (wr := [(h0, .inr (2, mX2 h1 h4 h11 h18 h19 h20 h21 h22 h23 (upd (upd v0 9 (u8_ 3)) 10 (u8_ 4)))), (h23, zi k23 400 (a8_ 6)), (h21, zi k21 400 (a8_ 4)), (h19, zi k19 300 (a8_ 2)), (h22, zi k22 400 (a8_ 5)), (h3, zi k3 12 (a8_ 0)), (h11, .inr (10, mX10 h12 h13 h14 h15 h16 h17 v11)), (h12, .inl (k12, 10, .inr (.inl f12))), (h4, .inr (10, mX10 h5 h6 h7 h8 h9 h10 (upd v4 7 (u8_ 5)))), (h5, .inl (k5, 400, .inr (.inl (b8_ 0)))), (h6, zi k6 400 (a8_ 7)), (h7, zi k7 400 f7), (h18, zi k18 300 (a8_ 1)), (h20, zi k20 300 (a8_ 3))]) (w1 := [(h1, .inr (9, mX9 h2 h3 (upd v1 3 (u8_ 2)))), (h2, zi k2 600 f2)]) hP hD [5, 6] [0, 1, 2, 3, 4, 7, 8, 9, 10, 11, 12, 13, 14, 15] rfl rfl (by decide) (by decide) hk1 hFc hP1 hD1
        have hP : va_P (dC, dI) vwCl [(h0, .inr (2, mX2 h1 h4 h11 h18 h19 h20 h21 h22 h23 (upd (upd v0 9 (u8_ 3)) 10 (u8_ 4)))), (h23, zi k23 400 (a8_ 6)), (h21, zi k21 400 (a8_ 4)), (h19, zi k19 300 (a8_ 2)), (h22, zi k22 400 (a8_ 5)), (h1, .inr (9, mX9 h2 h3 (upd v1 3 (u8_ 2)))), (h2, zi k2 600 f2), (h3, zi k3 12 (a8_ 0)), (h11, .inr (10, mX10 h12 h13 h14 h15 h16 h17 v11)), (h12, .inl (k12, 10, .inr (.inl f12))), (h4, .inr (10, mX10 h5 h6 h7 h8 h9 h10 (upd v4 7 (u8_ 5)))), (h5, .inl (k5, 400, .inr (.inl (b8_ 0)))), (h6, zi k6 400 (a8_ 7)), (h7, zi k7 400 f7), (h18, zi k18 300 (a8_ 1)), (h20, zi k20 300 (a8_ 3))] H1 := hP.sub [0, 1, 2, 3, 4, 14, 15, 5, 6, 7, 8, 9, 10, 11, 12, 13] rfl
        have hD : va_D A [(h0, .inr (2, mX2 h1 h4 h11 h18 h19 h20 h21 h22 h23 (upd (upd v0 9 (u8_ 3)) 10 (u8_ 4)))), (h23, zi k23 400 (a8_ 6)), (h21, zi k21 400 (a8_ 4)), (h19, zi k19 300 (a8_ 2)), (h22, zi k22 400 (a8_ 5)), (h1, .inr (9, mX9 h2 h3 (upd v1 3 (u8_ 2)))), (h2, zi k2 600 f2), (h3, zi k3 12 (a8_ 0)), (h11, .inr (10, mX10 h12 h13 h14 h15 h16 h17 v11)), (h12, .inl (k12, 10, .inr (.inl f12))), (h4, .inr (10, mX10 h5 h6 h7 h8 h9 h10 (upd v4 7 (u8_ 5)))), (h5, .inl (k5, 400, .inr (.inl (b8_ 0)))), (h6, zi k6 400 (a8_ 7)), (h7, zi k7 400 f7), (h18, zi k18 300 (a8_ 1)), (h20, zi k20 300 (a8_ 3))] := hD.sub [0, 1, 2, 3, 4, 14, 15, 5, 6, 7, 8, 9, 10, 11, 12, 13] (by decide) rfl
        generalize H1 = H at hP hS ⊢
        clear hz1
        refine lv_if_eq (tgt := 78) hx hb dX2_read_54 (by decide) (fun c_ => ?_) (fun c_ => ?_)
        · skip
          have b_ := zT_eq rfl zk_0 c_
          obtain ⟨z78, e_z78⟩ : ∃ z : Int32, z = (u8_ 1) + Int32.ofInt 1 := ⟨_, rfl⟩
          have b_ := zadd (x := (u8_ 1)) (y := Int32.ofInt 1) rfl (show (Int32.ofInt 1).toInt = 1 from by decide) e_z78 (by omega) (by omega)
          refine lv_iinc (v := z78) (lv' := [(2, .int z78), (0, .ref h0), (1, .int (u8_ 0))]) hx hb dX2_read_78 hl (k := 2) rfl e_z78.symm (by decide) rfl (fun ls hl => ?_)
          have hre : zRe f2 (v1 2).toInt f5 f6 f7 (v4 7).toInt f12 (v11 7).toInt (b8_ 0) (a8_ 7) f7 (u8_ 5).toInt (a8_ 1) (a8_ 2) (a8_ 3) (a8_ 4) (a8_ 5) (a8_ 6) (u8_ 3).toInt (u8_ 4).toInt z78.toInt (u8_ 0).toInt := zRe_n (b := 0) hI8_0 (by omega) (Or.inl (by omega)) (hX51_1 (by omega)) (by omega)
          refine lv_goto (tgt := 8) hx hb dX2_read_81 (by decide) ?_
          have hc : va_P (dC, dI) vwCl [(h0, .inr (2, mX2 h1 h4 h11 h18 h19 h20 h21 h22 h23 (upd (upd v0 9 (u8_ 3)) 10 (u8_ 4)))), (h23, zi k23 400 (a8_ 6)), (h21, zi k21 400 (a8_ 4)), (h19, zi k19 300 (a8_ 2)), (h22, zi k22 400 (a8_ 5)), (h1, .inr (9, mX9 h2 h3 (upd v1 3 (u8_ 2)))), (h2, zi k2 600 f2), (h3, zi k3 12 (a8_ 0)), (h11, .inr (10, mX10 h12 h13 h14 h15 h16 h17 v11)), (h12, .inl (k12, 10, .inr (.inl f12))), (h4, .inr (10, mX10 h5 h6 h7 h8 h9 h10 (upd v4 7 (u8_ 5)))), (h5, .inl (k5, 400, .inr (.inl (b8_ 0)))), (h6, zi k6 400 (a8_ 7)), (h7, zi k7 400 f7), (h18, zi k18 300 (a8_ 1)), (h20, zi k20 300 (a8_ 3))] H ∧ va_D A [(h0, .inr (2, mX2 h1 h4 h11 h18 h19 h20 h21 h22 h23 (upd (upd v0 9 (u8_ 3)) 10 (u8_ 4)))), (h23, zi k23 400 (a8_ 6)), (h21, zi k21 400 (a8_ 4)), (h19, zi k19 300 (a8_ 2)), (h22, zi k22 400 (a8_ 5)), (h1, .inr (9, mX9 h2 h3 (upd v1 3 (u8_ 2)))), (h2, zi k2 600 f2), (h3, zi k3 12 (a8_ 0)), (h11, .inr (10, mX10 h12 h13 h14 h15 h16 h17 v11)), (h12, .inl (k12, 10, .inr (.inl f12))), (h4, .inr (10, mX10 h5 h6 h7 h8 h9 h10 (upd v4 7 (u8_ 5)))), (h5, .inl (k5, 400, .inr (.inl (b8_ 0)))), (h6, zi k6 400 (a8_ 7)), (h7, zi k7 400 f7), (h18, zi k18 300 (a8_ 1)), (h20, zi k20 300 (a8_ 3))] ∧ va_S A s.heap H locs ∧ lv_has ls 3 [(0, .ref h0), (1, .int (u8_ 0)), (2, .int z78)] ∧ zA (-1) 299 (a8_ 2) ∧ zA 0 399 (a8_ 3) ∧ zA 0 299 (a8_ 4) ∧ zA 0 299 (a8_ 5) ∧ zA 0 399 (a8_ 7) ∧ (0 ≤ (u8_ 0).toInt ∧ (u8_ 0).toInt ≤ 1200) ∧ (0 ≤ z78.toInt ∧ z78.toInt ≤ 600) ∧ (0 ≤ (u8_ 2).toInt ∧ (u8_ 2).toInt ≤ 12) ∧ (0 ≤ (u8_ 3).toInt ∧ (u8_ 3).toInt ≤ 300) ∧ (0 ≤ (u8_ 4).toInt ∧ (u8_ 4).toInt ≤ 300) ∧ (0 ≤ (u8_ 5).toInt ∧ (u8_ 5).toInt ≤ 400) ∧ (zRe f2 (v1 2).toInt f5 f6 f7 (v4 7).toInt f12 (v11 7).toInt (b8_ 0) (a8_ 7) f7 (u8_ 5).toInt (a8_ 1) (a8_ 2) (a8_ 3) (a8_ 4) (a8_ 5) (a8_ 6) (u8_ 3).toInt (u8_ 4).toInt z78.toInt (u8_ 0).toInt) ∧ (z78.toInt ≤ (v1 2).toInt) ∧ ((u8_ 0).toInt ≤ 512 + z78.toInt) ∧ (0 ≤ (u8_ 0).toInt) ∧ (zChn (a8_ 4) (a8_ 2) (a8_ 5) (a8_ 6) (u8_ 3).toInt) ∧ ((u8_ 4).toInt ≤ (u8_ 3).toInt) := ⟨hP, hD, hS, lv_sub hl [1, 2, 0] rfl, ha8_2, ha8_3, ha8_4, ha8_5, ha8_7, (by first | with_reducible assumption | exact ⟨by omega, by omega⟩), (by first | with_reducible assumption | exact ⟨by omega, by omega⟩), (by first | with_reducible assumption | exact ⟨by omega, by omega⟩), (by first | with_reducible assumption | exact ⟨by omega, by omega⟩), (by first | with_reducible assumption | exact ⟨by omega, by omega⟩), (by first | with_reducible assumption | exact ⟨by omega, by omega⟩), by first | exact hre | exact zRe_0 (fun j hj => hB1_1 j hj) (by omega) (by omega) (by decide) (by decide), by omega, by omega, by omega, by assumption, by omega⟩
          exact hJ8 H locs ls (fun i => ([(u8_ 0), z78, (u8_ 2), (u8_ 3), (u8_ 4), (u8_ 5)] : List (Int32)).getD i 0) (fun _ => 0) (fun i => ([(a8_ 0), (a8_ 1), (a8_ 2), (a8_ 3), (a8_ 4), (a8_ 5), (a8_ 6), (a8_ 7)] : List (Nat → Int32)).getD i (fun _ => 0)) (fun i => ([(b8_ 0)] : List (Nat → Int64)).getD i (fun _ => 0)) hc (show (600 - z78.toInt).toNat < (600 - (u8_ 1).toInt).toNat from by omega)
        · skip
          have b_ := zF_eq rfl zk_0 c_
          refine lv_aload_n hx hb dX2_read_57 rfl (lv_at hl 0 rfl) ?_
          refine lv_aload_n hx hb dX2_read_58 rfl (lv_at hl 0 rfl) ?_
          refine va_get (D := (dC, dI)) (ci := 2) (v := .ref h1) (C := RX2) (T := TX2) (N := 11) hx hb hG zuX2 hown hK hP 0 rfl rfl 0 (by decide) (hG _ zv325) (fun _ h9 => h9) rfl dX2_read_59 ?_
          refine lv_iload_n hx hb dX2_read_62 rfl (lv_at hl 2 rfl) ?_
          have hPc := hP.sub (ws' := [(h1, .inr (9, mX9 h2 h3 (upd v1 3 (u8_ 2)))), (h2, zi k2 600 f2), (h3, zi k3 12 (a8_ 0))]) [5, 6, 7] rfl
          have hDc := hD.sub (ws' := [(h1, .inr (9, mX9 h2 h3 (upd v1 3 (u8_ 2)))), (h2, zi k2 600 f2), (h3, zi k3 12 (a8_ 0))]) [5, 6, 7] (by decide) rfl
          have hKc := hK.sub (tys' := [(k2, .byte), (k3, .byte)]) [4, 5] rfl
          have hFc := va_free (wc := [(h1, .inr (9, mX9 h2 h3 (upd v1 3 (u8_ 2)))), (h2, zi k2 600 f2), (h3, zi k3 12 (a8_ 0))]) hD hS hA [5, 6, 7] rfl
          refine va_calll (va_runV (As := [.int (u8_ 1)]) (rest := [.ref h0]) ⟨hx, hb, hml, hown, hG⟩ (sX9_wordOf_0 l dC dI adK adV h1 h2 h3 k2 k3 H.size (upd v1 3 (u8_ 2)) f2 (a8_ 0) (u8_ 1) (zR_up2 hv1 3 (show (0 : Int) ≤ ((u8_ 2) : Int32).toInt ∧ ((u8_ 2) : Int32).toInt ≤ (12 : Int) from (by first | with_reducible assumption | exact ⟨by omega, by omega⟩)))) (cwV 1 hG (zgV zv652 zv653 zv654 zv130 zv655) rfl rfl rfl (by decide +kernel) ⟨Nat.le_of_ble_eq_true rfl, Nat.le_of_ble_eq_true rfl⟩) ⟨zPc_blind, va_recv hKc hPc (ci := 9) (q0 := 0) rfl rfl, zPc_pre hPc hKc hDc hE hS hFc hZ⟩ rfl rfl hl.1 rfl (lv_room (Nat.le_of_ble_eq_true rfl)) dX2_read_63 ⟨Nat.le_of_ble_eq_true rfl, Nat.le_of_ble_eq_true rfl⟩) hS (fun q _ h => hFc q h) hFc (fun r63_ u63_ t H1 locs ht hvm hw hB hz1 hk1 hS => ?_)
          replace hw : (0 ≤ (u63_ 0).toInt ∧ (u63_ 0).toInt ≤ 12) ∧ (0 ≤ (u8_ 1).toInt → (u8_ 1).toInt ≤ 600 → ∃ m : Nat, zRaw f2 (v1 2).toInt (u8_ 1).toInt m ∧ r63_.toInt = zWrd f2 (u8_ 1).toInt m) := hw
          obtain ⟨b_, hX63_0⟩ := hw
          obtain ⟨w63_, a63_, b63_, hP1, hK1, hD1⟩ := hB
          rw [ht] at hP1
          obtain ⟨hP, hD⟩ := va_join (wr := [(h0, .inr (2, mX2 h1 h4 h11 h18 h19 h20 h21 h22 h23 (upd (upd v0 9 (u8_ 3)) 10 (u8_ 4)))), (h23, zi k23 400 (a8_ 6)), (h21, zi k21 400 (a8_ 4)), (h19, zi k19 300 (a8_ 2)), (h22, zi k22 400 (a8_ 5)), (h11, .inr (10, mX10 h12 h13 h14 h15 h16 h17 v11)), (h12, .inl (k12, 10, .inr (.inl f12))), (h4, .inr (10, mX10 h5 h6 h7 h8 h9 h10 (upd v4 7 (u8_ 5)))), (h5, .inl (k5, 400, .inr (.inl (b8_ 0)))), (h6, zi k6 400 (a8_ 7)), (h7, zi k7 400 f7), (h18, zi k18 300 (a8_ 1)), (h20, zi k20 300 (a8_ 3))]) (w1 := [(h1, .inr (9, mX9 h2 h3 (upd v1 3 (u63_ 0)))), (h2, zi k2 600 f2), (h3, zi k3 12 (a63_ 0))]) hP hD [5, 6, 7] [0, 1, 2, 3, 4, 8, 9, 10, 11, 12, 13, 14, 15] rfl rfl (by decide) (by decide) hk1 hFc hP1 hD1
          have hP : va_P (dC, dI) vwCl [(h0, .inr (2, mX2 h1 h4 h11 h18 h19 h20 h21 h22 h23 (upd (upd v0 9 (u8_ 3)) 10 (u8_ 4)))), (h23, zi k23 400 (a8_ 6)), (h21, zi k21 400 (a8_ 4)), (h19, zi k19 300 (a8_ 2)), (h22, zi k22 400 (a8_ 5)), (h1, .inr (9, mX9 h2 h3 (upd v1 3 (u63_ 0)))), (h2, zi k2 600 f2), (h3, zi k3 12 (a63_ 0)), (h11, .inr (10, mX10 h12 h13 h14 h15 h16 h17 v11)), (h12, .inl (k12, 10, .inr (.inl f12))), (h4, .inr (10, mX10 h5 h6 h7 h8 h9 h10 (upd v4 7 (u8_ 5)))), (h5, .inl (k5, 400, .inr (.inl (b8_ 0)))), (h6, zi k6 400 (a8_ 7)), (h7, zi k7 400 f7), (h18, zi k18 300 (a8_ 1)), (h20, zi k20 300 (a8_ 3))] H1 := hP.sub [0, 1, 2, 3, 4, 13, 14, 15, 5, 6, 7, 8, 9, 10, 11, 12] rfl
          have hD : va_D A [(h0, .inr (2, mX2 h1 h4 h11 h18 h19 h20 h21 h22 h23 (upd (upd v0 9 (u8_ 3)) 10 (u8_ 4)))), (h23, zi k23 400 (a8_ 6)), (h21, zi k21 400 (a8_ 4)), (h19, zi k19 300 (a8_ 2)), (h22, zi k22 400 (a8_ 5)), (h1, .inr (9, mX9 h2 h3 (upd v1 3 (u63_ 0)))), (h2, zi k2 600 f2), (h3, zi k3 12 (a63_ 0)), (h11, .inr (10, mX10 h12 h13 h14 h15 h16 h17 v11)), (h12, .inl (k12, 10, .inr (.inl f12))), (h4, .inr (10, mX10 h5 h6 h7 h8 h9 h10 (upd v4 7 (u8_ 5)))), (h5, .inl (k5, 400, .inr (.inl (b8_ 0)))), (h6, zi k6 400 (a8_ 7)), (h7, zi k7 400 f7), (h18, zi k18 300 (a8_ 1)), (h20, zi k20 300 (a8_ 3))] := hD.sub [0, 1, 2, 3, 4, 13, 14, 15, 5, 6, 7, 8, 9, 10, 11, 12] (by decide) rfl
          generalize H1 = H at hP hS ⊢
          clear hz1
          refine lv_iload_n hx hb dX2_read_66 rfl (lv_at hl 1 rfl) ?_
          have hPc := hP.sub (ws' := [(h0, .inr (2, mX2 h1 h4 h11 h18 h19 h20 h21 h22 h23 (upd (upd v0 9 (u8_ 3)) 10 (u8_ 4)))), (h11, .inr (10, mX10 h12 h13 h14 h15 h16 h17 v11)), (h12, .inl (k12, 10, .inr (.inl f12))), (h4, .inr (10, mX10 h5 h6 h7 h8 h9 h10 (upd v4 7 (u8_ 5)))), (h5, .inl (k5, 400, .inr (.inl (b8_ 0)))), (h6, zi k6 400 (a8_ 7)), (h7, zi k7 400 f7), (h18, zi k18 300 (a8_ 1)), (h19, zi k19 300 (a8_ 2)), (h23, zi k23 400 (a8_ 6)), (h22, zi k22 400 (a8_ 5)), (h21, zi k21 400 (a8_ 4)), (h20, zi k20 300 (a8_ 3))]) [0, 8, 9, 10, 11, 12, 13, 14, 3, 1, 4, 2, 15] rfl
          have hDc := hD.sub (ws' := [(h0, .inr (2, mX2 h1 h4 h11 h18 h19 h20 h21 h22 h23 (upd (upd v0 9 (u8_ 3)) 10 (u8_ 4)))), (h11, .inr (10, mX10 h12 h13 h14 h15 h16 h17 v11)), (h12, .inl (k12, 10, .inr (.inl f12))), (h4, .inr (10, mX10 h5 h6 h7 h8 h9 h10 (upd v4 7 (u8_ 5)))), (h5, .inl (k5, 400, .inr (.inl (b8_ 0)))), (h6, zi k6 400 (a8_ 7)), (h7, zi k7 400 f7), (h18, zi k18 300 (a8_ 1)), (h19, zi k19 300 (a8_ 2)), (h23, zi k23 400 (a8_ 6)), (h22, zi k22 400 (a8_ 5)), (h21, zi k21 400 (a8_ 4)), (h20, zi k20 300 (a8_ 3))]) [0, 8, 9, 10, 11, 12, 13, 14, 3, 1, 4, 2, 15] (by decide) rfl
          have hKc := hK.sub (tys' := [(k12, .long), (k5, .long), (k6, .int), (k7, .int), (k18, .int), (k19, .int), (k23, .int), (k22, .int), (k21, .int), (k20, .int)]) [6, 7, 8, 9, 10, 2, 0, 3, 1, 11] rfl
          have hFc := va_free (wc := [(h0, .inr (2, mX2 h1 h4 h11 h18 h19 h20 h21 h22 h23 (upd (upd v0 9 (u8_ 3)) 10 (u8_ 4)))), (h11, .inr (10, mX10 h12 h13 h14 h15 h16 h17 v11)), (h12, .inl (k12, 10, .inr (.inl f12))), (h4, .inr (10, mX10 h5 h6 h7 h8 h9 h10 (upd v4 7 (u8_ 5)))), (h5, .inl (k5, 400, .inr (.inl (b8_ 0)))), (h6, zi k6 400 (a8_ 7)), (h7, zi k7 400 f7), (h18, zi k18 300 (a8_ 1)), (h19, zi k19 300 (a8_ 2)), (h23, zi k23 400 (a8_ 6)), (h22, zi k22 400 (a8_ 5)), (h21, zi k21 400 (a8_ 4)), (h20, zi k20 300 (a8_ 3))]) hD hS hA [0, 8, 9, 10, 11, 12, 13, 14, 3, 1, 4, 2, 15] rfl
          refine va_calli (va_runV (As := [.long r63_, .int (u8_ 0)]) (rest := []) ⟨hx, hb, hml, hown, hG⟩ (sX2_keep_0 l dC dI adK adV h0 h11 h12 h4 h5 h6 h7 h18 h19 h23 h22 h21 h20 h1 h13 h14 h15 h16 h17 h8 h9 h10 k12 k5 k6 k7 k18 k19 k23 k22 k21 k20 H.size (upd (upd v0 9 (u8_ 3)) 10 (u8_ 4)) v11 f12 (upd v4 7 (u8_ 5)) (b8_ 0) (a8_ 7) f7 (a8_ 1) (a8_ 2) (a8_ 6) (a8_ 5) (a8_ 4) (a8_ 3) r63_ (u8_ 0) (zR_up2 (zR_up2 hv0 9 (show (0 : Int) ≤ ((u8_ 3) : Int32).toInt ∧ ((u8_ 3) : Int32).toInt ≤ (300 : Int) from (by first | with_reducible assumption | exact ⟨by omega, by omega⟩))) 10 (show (0 : Int) ≤ ((u8_ 4) : Int32).toInt ∧ ((u8_ 4) : Int32).toInt ≤ (300 : Int) from (by first | with_reducible assumption | exact ⟨by omega, by omega⟩))) hv11 (zR_up2 hv4 7 (show (0 : Int) ≤ ((u8_ 5) : Int32).toInt ∧ ((u8_ 5) : Int32).toInt ≤ (400 : Int) from (by first | with_reducible assumption | exact ⟨by omega, by omega⟩))) ha8_7 hf7 ha8_2 ha8_5 ha8_4 ha8_3 (show zChn (a8_ 4) (a8_ 2) (a8_ 5) (a8_ 6) (u8_ 3).toInt from by first | with_reducible assumption | assumption) (show (u8_ 4).toInt ≤ (u8_ 3).toInt from by omega)) (cwV 2 hG (zgV zv735 zv737 zv5 zv135 zv738) rfl rfl rfl (by decide +kernel) ⟨Nat.le_of_ble_eq_true rfl, Nat.le_of_ble_eq_true rfl⟩) ⟨zPc_blind, va_recv hKc hPc (ci := 2) (q0 := 0) rfl rfl, zPc_pre hPc hKc hDc hE hS hFc hZ⟩ rfl rfl hl.1 rfl (lv_room (Nat.le_of_ble_eq_true rfl)) dX2_read_67 ⟨Nat.le_of_ble_eq_true rfl, Nat.le_of_ble_eq_true rfl⟩) hS (fun q _ h => hFc q h) hFc (fun r67_ u67_ t H1 locs ht hvm hw hB hz1 hk1 hS => ?_)
          replace hw : (0 ≤ r67_.toInt ∧ r67_.toInt ≤ 1) ∧ (0 ≤ (u67_ 0).toInt ∧ (u67_ 0).toInt ≤ 300) ∧ (0 ≤ (u67_ 1).toInt ∧ (u67_ 1).toInt ≤ 300) ∧ (0 ≤ (u67_ 2).toInt ∧ (u67_ 2).toInt ≤ 400) ∧ ((u67_ 1).toInt ≤ (u67_ 0).toInt) ∧ (r67_.toInt = (u67_ 3).toInt) := hw
          obtain ⟨b_, b_, b_, b_, hX67_0, b_⟩ := hw
          obtain ⟨w67_, a67_, b67_, ha67_0, ha67_2, ha67_4, ha67_5, ha67_6, hB67_0, hB67_1, hP1, hK1, hD1⟩ := hB
          have hB67_0 : zChn (a67_ 5) (a67_ 2) (a67_ 4) (a67_ 3) (u67_ 0).toInt := hB67_0
          have hB67_1 : zKe (b8_ 0) (a8_ 7) f7 (u8_ 5).toInt f12 (v11 7).toInt (a8_ 1) (a8_ 2) (a8_ 3) (a8_ 4) (a8_ 5) (a8_ 6) (u8_ 3).toInt (u8_ 4).toInt (b67_ 0) (a67_ 0) f7 (u67_ 2).toInt (a67_ 1) (a67_ 2) (a67_ 6) (a67_ 5) (a67_ 4) (a67_ 3) (u67_ 0).toInt (u67_ 1).toInt r63_.toInt (u8_ 0).toInt (u67_ 3).toInt := hB67_1
          rw [ht] at hP1
          obtain ⟨hP, hD⟩ := va_join (wr := [(h1, .inr (9, mX9 h2 h3 (upd v1 3 (u63_ 0)))), (h2, zi k2 600 f2), (h3, zi k3 12 (a63_ 0))]) (w1 := [(h0, .inr (2, mX2 h1 h4 h11 h18 h19 h20 h21 h22 h23 (upd (upd v0 9 (u67_ 0)) 10 (u67_ 1)))), (h11, .inr (10, mX10 h12 h13 h14 h15 h16 h17 v11)), (h12, .inl (k12, 10, .inr (.inl f12))), (h4, .inr (10, mX10 h5 h6 h7 h8 h9 h10 (upd v4 7 (u67_ 2)))), (h5, .inl (k5, 400, .inr (.inl (b67_ 0)))), (h6, zi k6 400 (a67_ 0)), (h7, zi k7 400 f7), (h18, zi k18 300 (a67_ 1)), (h19, zi k19 300 (a67_ 2)), (h23, zi k23 400 (a67_ 3)), (h22, zi k22 400 (a67_ 4)), (h21, zi k21 400 (a67_ 5)), (h20, zi k20 300 (a67_ 6))]) hP hD [0, 8, 9, 10, 11, 12, 13, 14, 3, 1, 4, 2, 15] [5, 6, 7] rfl rfl (by decide) (by decide) hk1 hFc hP1 hD1
          have hP : va_P (dC, dI) vwCl [(h0, .inr (2, mX2 h1 h4 h11 h18 h19 h20 h21 h22 h23 (upd (upd v0 9 (u67_ 0)) 10 (u67_ 1)))), (h23, zi k23 400 (a67_ 3)), (h21, zi k21 400 (a67_ 5)), (h19, zi k19 300 (a67_ 2)), (h22, zi k22 400 (a67_ 4)), (h1, .inr (9, mX9 h2 h3 (upd v1 3 (u63_ 0)))), (h2, zi k2 600 f2), (h3, zi k3 12 (a63_ 0)), (h11, .inr (10, mX10 h12 h13 h14 h15 h16 h17 v11)), (h12, .inl (k12, 10, .inr (.inl f12))), (h4, .inr (10, mX10 h5 h6 h7 h8 h9 h10 (upd v4 7 (u67_ 2)))), (h5, .inl (k5, 400, .inr (.inl (b67_ 0)))), (h6, zi k6 400 (a67_ 0)), (h7, zi k7 400 f7), (h18, zi k18 300 (a67_ 1)), (h20, zi k20 300 (a67_ 6))] H1 := hP.sub [3, 12, 14, 11, 13, 0, 1, 2, 4, 5, 6, 7, 8, 9, 10, 15] rfl
          have hD : va_D A [(h0, .inr (2, mX2 h1 h4 h11 h18 h19 h20 h21 h22 h23 (upd (upd v0 9 (u67_ 0)) 10 (u67_ 1)))), (h23, zi k23 400 (a67_ 3)), (h21, zi k21 400 (a67_ 5)), (h19, zi k19 300 (a67_ 2)), (h22, zi k22 400 (a67_ 4)), (h1, .inr (9, mX9 h2 h3 (upd v1 3 (u63_ 0)))), (h2, zi k2 600 f2), (h3, zi k3 12 (a63_ 0)), (h11, .inr (10, mX10 h12 h13 h14 h15 h16 h17 v11)), (h12, .inl (k12, 10, .inr (.inl f12))), (h4, .inr (10, mX10 h5 h6 h7 h8 h9 h10 (upd v4 7 (u67_ 2)))), (h5, .inl (k5, 400, .inr (.inl (b67_ 0)))), (h6, zi k6 400 (a67_ 0)), (h7, zi k7 400 f7), (h18, zi k18 300 (a67_ 1)), (h20, zi k20 300 (a67_ 6))] := hD.sub [3, 12, 14, 11, 13, 0, 1, 2, 4, 5, 6, 7, 8, 9, 10, 15] (by decide) rfl
          generalize H1 = H at hP hS ⊢
          clear hz1
          refine lv_if_ne (tgt := 75) hx hb dX2_read_70 (by decide) (fun c_ => ?_) (fun c_ => ?_)
          · skip
            have b_ := zT_ne rfl zk_0 c_
            obtain ⟨z75, e_z75⟩ : ∃ z : Int32, z = (u8_ 0) + Int32.ofInt 1 := ⟨_, rfl⟩
            have b_ := zadd (x := (u8_ 0)) (y := Int32.ofInt 1) rfl (show (Int32.ofInt 1).toInt = 1 from by decide) e_z75 (by omega) (by omega)
            refine lv_iinc (v := z75) (lv' := [(1, .int z75), (0, .ref h0), (2, .int (u8_ 1))]) hx hb dX2_read_75 hl (k := 1) rfl e_z75.symm (by decide) rfl (fun ls hl => ?_)
            obtain ⟨z78, e_z78⟩ : ∃ z : Int32, z = (u8_ 1) + Int32.ofInt 1 := ⟨_, rfl⟩
            have b_ := zadd (x := (u8_ 1)) (y := Int32.ofInt 1) rfl (show (Int32.ofInt 1).toInt = 1 from by decide) e_z78 (by omega) (by omega)
            refine lv_iinc (v := z78) (lv' := [(2, .int z78), (1, .int z75), (0, .ref h0)]) hx hb dX2_read_78 hl (k := 2) rfl e_z78.symm (by decide) rfl (fun ls hl => ?_)
            have hre : zRe f2 (v1 2).toInt f5 f6 f7 (v4 7).toInt f12 (v11 7).toInt (b67_ 0) (a67_ 0) f7 (u67_ 2).toInt (a67_ 1) (a67_ 2) (a67_ 6) (a67_ 5) (a67_ 4) (a67_ 3) (u67_ 0).toInt (u67_ 1).toInt z78.toInt z75.toInt := zRe_k (b := 0) hI8_0 (by omega) (by omega) (Or.inl (by omega)) (hX51_0 (by omega)) (zwd_e (hX63_0 (by omega) (by omega))) hB67_1 (by omega) (by omega) (by omega)
            refine lv_goto (tgt := 8) hx hb dX2_read_81 (by decide) ?_
            have hc : va_P (dC, dI) vwCl [(h0, .inr (2, mX2 h1 h4 h11 h18 h19 h20 h21 h22 h23 (upd (upd v0 9 (u67_ 0)) 10 (u67_ 1)))), (h23, zi k23 400 (a67_ 3)), (h21, zi k21 400 (a67_ 5)), (h19, zi k19 300 (a67_ 2)), (h22, zi k22 400 (a67_ 4)), (h1, .inr (9, mX9 h2 h3 (upd v1 3 (u63_ 0)))), (h2, zi k2 600 f2), (h3, zi k3 12 (a63_ 0)), (h11, .inr (10, mX10 h12 h13 h14 h15 h16 h17 v11)), (h12, .inl (k12, 10, .inr (.inl f12))), (h4, .inr (10, mX10 h5 h6 h7 h8 h9 h10 (upd v4 7 (u67_ 2)))), (h5, .inl (k5, 400, .inr (.inl (b67_ 0)))), (h6, zi k6 400 (a67_ 0)), (h7, zi k7 400 f7), (h18, zi k18 300 (a67_ 1)), (h20, zi k20 300 (a67_ 6))] H ∧ va_D A [(h0, .inr (2, mX2 h1 h4 h11 h18 h19 h20 h21 h22 h23 (upd (upd v0 9 (u67_ 0)) 10 (u67_ 1)))), (h23, zi k23 400 (a67_ 3)), (h21, zi k21 400 (a67_ 5)), (h19, zi k19 300 (a67_ 2)), (h22, zi k22 400 (a67_ 4)), (h1, .inr (9, mX9 h2 h3 (upd v1 3 (u63_ 0)))), (h2, zi k2 600 f2), (h3, zi k3 12 (a63_ 0)), (h11, .inr (10, mX10 h12 h13 h14 h15 h16 h17 v11)), (h12, .inl (k12, 10, .inr (.inl f12))), (h4, .inr (10, mX10 h5 h6 h7 h8 h9 h10 (upd v4 7 (u67_ 2)))), (h5, .inl (k5, 400, .inr (.inl (b67_ 0)))), (h6, zi k6 400 (a67_ 0)), (h7, zi k7 400 f7), (h18, zi k18 300 (a67_ 1)), (h20, zi k20 300 (a67_ 6))] ∧ va_S A s.heap H locs ∧ lv_has ls 3 [(0, .ref h0), (1, .int z75), (2, .int z78)] ∧ zA (-1) 299 (a67_ 2) ∧ zA 0 399 (a67_ 6) ∧ zA 0 299 (a67_ 5) ∧ zA 0 299 (a67_ 4) ∧ zA 0 399 (a67_ 0) ∧ (0 ≤ z75.toInt ∧ z75.toInt ≤ 1200) ∧ (0 ≤ z78.toInt ∧ z78.toInt ≤ 600) ∧ (0 ≤ (u63_ 0).toInt ∧ (u63_ 0).toInt ≤ 12) ∧ (0 ≤ (u67_ 0).toInt ∧ (u67_ 0).toInt ≤ 300) ∧ (0 ≤ (u67_ 1).toInt ∧ (u67_ 1).toInt ≤ 300) ∧ (0 ≤ (u67_ 2).toInt ∧ (u67_ 2).toInt ≤ 400) ∧ (zRe f2 (v1 2).toInt f5 f6 f7 (v4 7).toInt f12 (v11 7).toInt (b67_ 0) (a67_ 0) f7 (u67_ 2).toInt (a67_ 1) (a67_ 2) (a67_ 6) (a67_ 5) (a67_ 4) (a67_ 3) (u67_ 0).toInt (u67_ 1).toInt z78.toInt z75.toInt) ∧ (z78.toInt ≤ (v1 2).toInt) ∧ (z75.toInt ≤ 512 + z78.toInt) ∧ (0 ≤ z75.toInt) ∧ (zChn (a67_ 5) (a67_ 2) (a67_ 4) (a67_ 3) (u67_ 0).toInt) ∧ ((u67_ 1).toInt ≤ (u67_ 0).toInt) := ⟨hP, hD, hS, lv_sub hl [2, 1, 0] rfl, ha67_2, ha67_6, ha67_5, ha67_4, ha67_0, (by first | with_reducible assumption | exact ⟨by omega, by omega⟩), (by first | with_reducible assumption | exact ⟨by omega, by omega⟩), (by first | with_reducible assumption | exact ⟨by omega, by omega⟩), (by first | with_reducible assumption | exact ⟨by omega, by omega⟩), (by first | with_reducible assumption | exact ⟨by omega, by omega⟩), (by first | with_reducible assumption | exact ⟨by omega, by omega⟩), by first | exact hre | exact zRe_0 (fun j hj => hB1_1 j hj) (by omega) (by omega) (by decide) (by decide), by omega, by omega, by omega, by assumption, by omega⟩
            exact hJ8 H locs ls (fun i => ([z75, z78, (u63_ 0), (u67_ 0), (u67_ 1), (u67_ 2)] : List (Int32)).getD i 0) (fun _ => 0) (fun i => ([(a63_ 0), (a67_ 1), (a67_ 2), (a67_ 6), (a67_ 5), (a67_ 4), (a67_ 3), (a67_ 0)] : List (Nat → Int32)).getD i (fun _ => 0)) (fun i => ([(b67_ 0)] : List (Nat → Int64)).getD i (fun _ => 0)) hc (show (600 - z78.toInt).toNat < (600 - (u8_ 1).toInt).toNat from by omega)
          · skip
            have b_ := zF_ne rfl zk_0 c_
            refine lv_iconst (v := 0) hx hb dX2_read_73 (by decide) ?_
            have hrz : zRz f2 (v1 2).toInt f5 f6 f7 (v4 7).toInt f12 (v11 7).toInt (b67_ 0) (a67_ 0) f7 (u67_ 2).toInt (a67_ 1) (a67_ 2) (a67_ 6) (a67_ 5) (a67_ 4) (a67_ 3) (u67_ 0).toInt (u67_ 1).toInt (0 : Int32).toInt := zRz_f (b := 0) hI8_0 (by omega) (by omega) (Or.inl (by omega)) (hX51_0 (by omega)) (zwd_e (hX63_0 (by omega) (by omega))) hB67_1 (by omega) (by decide)
            refine W.widen (k := 0) (n := 0) (by decide) (by decide) ?_
            have hpost : (0 ≤ (0 : Int32).toInt ∧ (0 : Int32).toInt ≤ 1) ∧ (0 ≤ (u67_ 0).toInt ∧ (u67_ 0).toInt ≤ 300) ∧ (0 ≤ (u67_ 1).toInt ∧ (u67_ 1).toInt ≤ 300) ∧ (0 ≤ (u63_ 0).toInt ∧ (u63_ 0).toInt ≤ 12) ∧ (0 ≤ (u67_ 2).toInt ∧ (u67_ 2).toInt ≤ 400) ∧ ((u67_ 1).toInt ≤ (u67_ 0).toInt) ∧ ((0 : Int32).toInt = (0 : Int32).toInt) := ⟨(by first | with_reducible assumption | exact ⟨by omega, by omega⟩), (by first | with_reducible assumption | exact ⟨by omega, by omega⟩), (by first | with_reducible assumption | exact ⟨by omega, by omega⟩), (by first | with_reducible assumption | exact ⟨by omega, by omega⟩), (by first | with_reducible assumption | exact ⟨by omega, by omega⟩), by omega, rfl⟩
            have hP9 : va_P (dC, dI) vwCl [(h0, .inr (2, mX2 h1 h4 h11 h18 h19 h20 h21 h22 h23 (upd (upd v0 9 (u67_ 0)) 10 (u67_ 1)))), (h23, zi k23 400 (a67_ 3)), (h21, zi k21 400 (a67_ 5)), (h19, zi k19 300 (a67_ 2)), (h22, zi k22 400 (a67_ 4)), (h1, .inr (9, mX9 h2 h3 (upd v1 3 (u63_ 0)))), (h2, zi k2 600 f2), (h3, zi k3 12 (a63_ 0)), (h11, .inr (10, mX10 h12 h13 h14 h15 h16 h17 v11)), (h12, .inl (k12, 10, .inr (.inl f12))), (h4, .inr (10, mX10 h5 h6 h7 h8 h9 h10 (upd v4 7 (u67_ 2)))), (h5, .inl (k5, 400, .inr (.inl (b67_ 0)))), (h6, zi k6 400 (a67_ 0)), (h7, zi k7 400 f7), (h18, zi k18 300 (a67_ 1)), (h20, zi k20 300 (a67_ 6))] H := hP
            have hD9 : va_D A [(h0, .inr (2, mX2 h1 h4 h11 h18 h19 h20 h21 h22 h23 (upd (upd v0 9 (u67_ 0)) 10 (u67_ 1)))), (h23, zi k23 400 (a67_ 3)), (h21, zi k21 400 (a67_ 5)), (h19, zi k19 300 (a67_ 2)), (h22, zi k22 400 (a67_ 4)), (h1, .inr (9, mX9 h2 h3 (upd v1 3 (u63_ 0)))), (h2, zi k2 600 f2), (h3, zi k3 12 (a63_ 0)), (h11, .inr (10, mX10 h12 h13 h14 h15 h16 h17 v11)), (h12, .inl (k12, 10, .inr (.inl f12))), (h4, .inr (10, mX10 h5 h6 h7 h8 h9 h10 (upd v4 7 (u67_ 2)))), (h5, .inl (k5, 400, .inr (.inl (b67_ 0)))), (h6, zi k6 400 (a67_ 0)), (h7, zi k7 400 f7), (h18, zi k18 300 (a67_ 1)), (h20, zi k20 300 (a67_ 6))] := hD
            have hB0 : zChn (a67_ 5) (a67_ 2) (a67_ 4) (a67_ 3) (u67_ 0).toInt := by assumption
            have hB1 : zRz f2 (v1 2).toInt f5 f6 f7 (v4 7).toInt f12 (v11 7).toInt (b67_ 0) (a67_ 0) f7 (u67_ 2).toInt (a67_ 1) (a67_ 2) (a67_ 6) (a67_ 5) (a67_ 4) (a67_ 3) (u67_ 0).toInt (u67_ 1).toInt (0 : Int32).toInt := by first | exact hrz | exact zRz_e hI8_0 (by omega) (by omega) (by decide)
            exact W.zret (v := 0) hx hb hr rfl (fun t ht hW => ⟨⟨0, (fun i => ([(u67_ 0), (u67_ 1), (u63_ 0), (u67_ 2), 0] : List (Int32)).getD i 0), rfl, hpost, (fun _ => 0), (fun i => ([(a67_ 3), (a67_ 5), (a67_ 2), (a67_ 4), (a63_ 0), (a67_ 0), (a67_ 1), (a67_ 6)] : List (Nat → Int32)).getD i (fun _ => 0)), (fun i => ([(b67_ 0)] : List (Nat → Int64)).getD i (fun _ => 0)), ha67_5, ha67_2, ha67_4, ha67_0, ha67_6, hB0, hB1, by rw [ht]; exact hP9, va_K.moved hW.alike hK, hD9⟩, hS.F ht⟩) hS.2.2 dX2_read_74
      · skip
        have b_ := zF_ge rfl zk_512 c_
        refine lv_aload_n hx hb dX2_read_26 rfl (lv_at hl 0 rfl) ?_
        refine va_get (D := (dC, dI)) (ci := 2) (v := .ref h1) (C := RX2) (T := TX2) (N := 11) hx hb hG zuX2 hown hK hP 0 rfl rfl 0 (by decide) (hG _ zv325) (fun _ h9 => h9) rfl dX2_read_27 ?_
        refine lv_iload_n hx hb dX2_read_30 rfl (lv_at hl 2 rfl) ?_
        have hPc := hP.sub (ws' := [(h1, .inr (9, mX9 h2 h3 (upd v1 3 (u8_ 2)))), (h2, zi k2 600 f2)]) [5, 6] rfl
        have hDc := hD.sub (ws' := [(h1, .inr (9, mX9 h2 h3 (upd v1 3 (u8_ 2)))), (h2, zi k2 600 f2)]) [5, 6] (by decide) rfl
        have hKc := hK.sub (tys' := [(k2, .byte)]) [4] rfl
        have hFc := va_free (wc := [(h1, .inr (9, mX9 h2 h3 (upd v1 3 (u8_ 2)))), (h2, zi k2 600 f2)]) hD hS hA [5, 6] rfl
        refine va_calli (va_runV (As := [.int (u8_ 1)]) (rest := []) ⟨hx, hb, hml, hown, hG⟩ (sX9_at_0 l dC dI adK adV h1 h2 h3 k2 H.size (upd v1 3 (u8_ 2)) f2 (u8_ 1) (zR_up2 hv1 3 (show (0 : Int) ≤ ((u8_ 2) : Int32).toInt ∧ ((u8_ 2) : Int32).toInt ≤ (12 : Int) from (by first | with_reducible assumption | exact ⟨by omega, by omega⟩)))) (cwV 1 hG (zgV zv640 zv641 zv642 zv130 zv643) rfl rfl rfl (by decide +kernel) ⟨Nat.le_of_ble_eq_true rfl, Nat.le_of_ble_eq_true rfl⟩) ⟨zPc_blind, va_recv hKc hPc (ci := 9) (q0 := 0) rfl rfl, zPc_pre hPc hKc hDc hE hS hFc hZ⟩ rfl rfl hl.1 rfl (lv_room (Nat.le_of_ble_eq_true rfl)) dX2_read_31 ⟨Nat.le_of_ble_eq_true rfl, Nat.le_of_ble_eq_true rfl⟩) hS (fun q _ h => hFc q h) hFc (fun r31_ u31_ t H1 locs ht hvm hw hB hz1 hk1 hS => ?_)
        replace hw : ((-1) ≤ r31_.toInt ∧ r31_.toInt ≤ 255) ∧ (0 ≤ (u8_ 1).toInt ∧ (u8_ 1).toInt < (v1 2).toInt → r31_.toInt = (f2 (((u8_ 1) : Int32)).toNatClampNeg &&& 255).toInt) ∧ (r31_.toInt ≠ -1 → 0 ≤ (u8_ 1).toInt ∧ (u8_ 1).toInt < (v1 2).toInt ∧ (u8_ 1).toInt < 600) := hw
        obtain ⟨b_, hX31_0, hX31_1⟩ := hw
        obtain ⟨w31_, a31_, b31_, hP1, hK1, hD1⟩ := hB
        rw [ht] at hP1
        obtain ⟨hP, hD⟩ := va_join (wr := [(h0, .inr (2, mX2 h1 h4 h11 h18 h19 h20 h21 h22 h23 (upd (upd v0 9 (u8_ 3)) 10 (u8_ 4)))), (h23, zi k23 400 (a8_ 6)), (h21, zi k21 400 (a8_ 4)), (h19, zi k19 300 (a8_ 2)), (h22, zi k22 400 (a8_ 5)), (h3, zi k3 12 (a8_ 0)), (h11, .inr (10, mX10 h12 h13 h14 h15 h16 h17 v11)), (h12, .inl (k12, 10, .inr (.inl f12))), (h4, .inr (10, mX10 h5 h6 h7 h8 h9 h10 (upd v4 7 (u8_ 5)))), (h5, .inl (k5, 400, .inr (.inl (b8_ 0)))), (h6, zi k6 400 (a8_ 7)), (h7, zi k7 400 f7), (h18, zi k18 300 (a8_ 1)), (h20, zi k20 300 (a8_ 3))]) (w1 := [(h1, .inr (9, mX9 h2 h3 (upd v1 3 (u8_ 2)))), (h2, zi k2 600 f2)]) hP hD [5, 6] [0, 1, 2, 3, 4, 7, 8, 9, 10, 11, 12, 13, 14, 15] rfl rfl (by decide) (by decide) hk1 hFc hP1 hD1
        have hP : va_P (dC, dI) vwCl [(h0, .inr (2, mX2 h1 h4 h11 h18 h19 h20 h21 h22 h23 (upd (upd v0 9 (u8_ 3)) 10 (u8_ 4)))), (h23, zi k23 400 (a8_ 6)), (h21, zi k21 400 (a8_ 4)), (h19, zi k19 300 (a8_ 2)), (h22, zi k22 400 (a8_ 5)), (h1, .inr (9, mX9 h2 h3 (upd v1 3 (u8_ 2)))), (h2, zi k2 600 f2), (h3, zi k3 12 (a8_ 0)), (h11, .inr (10, mX10 h12 h13 h14 h15 h16 h17 v11)), (h12, .inl (k12, 10, .inr (.inl f12))), (h4, .inr (10, mX10 h5 h6 h7 h8 h9 h10 (upd v4 7 (u8_ 5)))), (h5, .inl (k5, 400, .inr (.inl (b8_ 0)))), (h6, zi k6 400 (a8_ 7)), (h7, zi k7 400 f7), (h18, zi k18 300 (a8_ 1)), (h20, zi k20 300 (a8_ 3))] H1 := hP.sub [0, 1, 2, 3, 4, 14, 15, 5, 6, 7, 8, 9, 10, 11, 12, 13] rfl
        have hD : va_D A [(h0, .inr (2, mX2 h1 h4 h11 h18 h19 h20 h21 h22 h23 (upd (upd v0 9 (u8_ 3)) 10 (u8_ 4)))), (h23, zi k23 400 (a8_ 6)), (h21, zi k21 400 (a8_ 4)), (h19, zi k19 300 (a8_ 2)), (h22, zi k22 400 (a8_ 5)), (h1, .inr (9, mX9 h2 h3 (upd v1 3 (u8_ 2)))), (h2, zi k2 600 f2), (h3, zi k3 12 (a8_ 0)), (h11, .inr (10, mX10 h12 h13 h14 h15 h16 h17 v11)), (h12, .inl (k12, 10, .inr (.inl f12))), (h4, .inr (10, mX10 h5 h6 h7 h8 h9 h10 (upd v4 7 (u8_ 5)))), (h5, .inl (k5, 400, .inr (.inl (b8_ 0)))), (h6, zi k6 400 (a8_ 7)), (h7, zi k7 400 f7), (h18, zi k18 300 (a8_ 1)), (h20, zi k20 300 (a8_ 3))] := hD.sub [0, 1, 2, 3, 4, 14, 15, 5, 6, 7, 8, 9, 10, 11, 12, 13] (by decide) rfl
        generalize H1 = H at hP hS ⊢
        clear hz1
        refine lv_bipush (v := 10) hx hb dX2_read_34 (by decide) ?_
        refine lv_icmp_ne (tgt := 46) hx hb dX2_read_36 (by decide) (fun c_ => ?_) (fun c_ => ?_)
        · skip
          have b_ := zT_ne rfl zk_10 c_
          refine lv_aload_n hx hb dX2_read_46 rfl (lv_at hl 0 rfl) ?_
          refine va_get (D := (dC, dI)) (ci := 2) (v := .ref h1) (C := RX2) (T := TX2) (N := 11) hx hb hG zuX2 hown hK hP 0 rfl rfl 0 (by decide) (hG _ zv325) (fun _ h9 => h9) rfl dX2_read_47 ?_
          refine lv_iload_n hx hb dX2_read_50 rfl (lv_at hl 2 rfl) ?_
          have hPc := hP.sub (ws' := [(h1, .inr (9, mX9 h2 h3 (upd v1 3 (u8_ 2)))), (h2, zi k2 600 f2)]) [5, 6] rfl
          have hDc := hD.sub (ws' := [(h1, .inr (9, mX9 h2 h3 (upd v1 3 (u8_ 2)))), (h2, zi k2 600 f2)]) [5, 6] (by decide) rfl
          have hKc := hK.sub (tys' := [(k2, .byte)]) [4] rfl
          have hFc := va_free (wc := [(h1, .inr (9, mX9 h2 h3 (upd v1 3 (u8_ 2)))), (h2, zi k2 600 f2)]) hD hS hA [5, 6] rfl
          refine va_calli (va_runV (As := [.int (u8_ 1)]) (rest := []) ⟨hx, hb, hml, hown, hG⟩ (sX9_startsToken_0 l dC dI adK adV h1 h2 h3 k2 H.size (upd v1 3 (u8_ 2)) f2 (u8_ 1) (zR_up2 hv1 3 (show (0 : Int) ≤ ((u8_ 2) : Int32).toInt ∧ ((u8_ 2) : Int32).toInt ≤ (12 : Int) from (by first | with_reducible assumption | exact ⟨by omega, by omega⟩)))) (cwV 1 hG (zgV zv644 zv645 zv646 zv130 zv647) rfl rfl rfl (by decide +kernel) ⟨Nat.le_of_ble_eq_true rfl, Nat.le_of_ble_eq_true rfl⟩) ⟨zPc_blind, va_recv hKc hPc (ci := 9) (q0 := 0) rfl rfl, zPc_pre hPc hKc hDc hE hS hFc hZ⟩ rfl rfl hl.1 rfl (lv_room (Nat.le_of_ble_eq_true rfl)) dX2_read_51 ⟨Nat.le_of_ble_eq_true rfl, Nat.le_of_ble_eq_true rfl⟩) hS (fun q _ h => hFc q h) hFc (fun r51_ u51_ t H1 locs ht hvm hw hB hz1 hk1 hS => ?_)
          replace hw : (0 ≤ r51_.toInt ∧ r51_.toInt ≤ 1) ∧ (r51_.toInt = 1 → zsb f2 (v1 2).toInt (u8_ 1).toInt = true) ∧ (r51_.toInt = 0 → zsb f2 (v1 2).toInt (u8_ 1).toInt = false) := hw
          obtain ⟨b_, hX51_0, hX51_1⟩ := hw
          obtain ⟨w51_, a51_, b51_, hP1, hK1, hD1⟩ := hB
          rw [ht] at hP1
          obtain ⟨hP, hD⟩ := va_join (wr := [(h0, .inr (2, mX2 h1 h4 h11 h18 h19 h20 h21 h22 h23 (upd (upd v0 9 (u8_ 3)) 10 (u8_ 4)))), (h23, zi k23 400 (a8_ 6)), (h21, zi k21 400 (a8_ 4)), (h19, zi k19 300 (a8_ 2)), (h22, zi k22 400 (a8_ 5)), (h3, zi k3 12 (a8_ 0)), (h11, .inr (10, mX10 h12 h13 h14 h15 h16 h17 v11)), (h12, .inl (k12, 10, .inr (.inl f12))), (h4, .inr (10, mX10 h5 h6 h7 h8 h9 h10 (upd v4 7 (u8_ 5)))), (h5, .inl (k5, 400, .inr (.inl (b8_ 0)))), (h6, zi k6 400 (a8_ 7)), (h7, zi k7 400 f7), (h18, zi k18 300 (a8_ 1)), (h20, zi k20 300 (a8_ 3))]) (w1 := [(h1, .inr (9, mX9 h2 h3 (upd v1 3 (u8_ 2)))), (h2, zi k2 600 f2)]) hP hD [5, 6] [0, 1, 2, 3, 4, 7, 8, 9, 10, 11, 12, 13, 14, 15] rfl rfl (by decide) (by decide) hk1 hFc hP1 hD1
          have hP : va_P (dC, dI) vwCl [(h0, .inr (2, mX2 h1 h4 h11 h18 h19 h20 h21 h22 h23 (upd (upd v0 9 (u8_ 3)) 10 (u8_ 4)))), (h23, zi k23 400 (a8_ 6)), (h21, zi k21 400 (a8_ 4)), (h19, zi k19 300 (a8_ 2)), (h22, zi k22 400 (a8_ 5)), (h1, .inr (9, mX9 h2 h3 (upd v1 3 (u8_ 2)))), (h2, zi k2 600 f2), (h3, zi k3 12 (a8_ 0)), (h11, .inr (10, mX10 h12 h13 h14 h15 h16 h17 v11)), (h12, .inl (k12, 10, .inr (.inl f12))), (h4, .inr (10, mX10 h5 h6 h7 h8 h9 h10 (upd v4 7 (u8_ 5)))), (h5, .inl (k5, 400, .inr (.inl (b8_ 0)))), (h6, zi k6 400 (a8_ 7)), (h7, zi k7 400 f7), (h18, zi k18 300 (a8_ 1)), (h20, zi k20 300 (a8_ 3))] H1 := hP.sub [0, 1, 2, 3, 4, 14, 15, 5, 6, 7, 8, 9, 10, 11, 12, 13] rfl
          have hD : va_D A [(h0, .inr (2, mX2 h1 h4 h11 h18 h19 h20 h21 h22 h23 (upd (upd v0 9 (u8_ 3)) 10 (u8_ 4)))), (h23, zi k23 400 (a8_ 6)), (h21, zi k21 400 (a8_ 4)), (h19, zi k19 300 (a8_ 2)), (h22, zi k22 400 (a8_ 5)), (h1, .inr (9, mX9 h2 h3 (upd v1 3 (u8_ 2)))), (h2, zi k2 600 f2), (h3, zi k3 12 (a8_ 0)), (h11, .inr (10, mX10 h12 h13 h14 h15 h16 h17 v11)), (h12, .inl (k12, 10, .inr (.inl f12))), (h4, .inr (10, mX10 h5 h6 h7 h8 h9 h10 (upd v4 7 (u8_ 5)))), (h5, .inl (k5, 400, .inr (.inl (b8_ 0)))), (h6, zi k6 400 (a8_ 7)), (h7, zi k7 400 f7), (h18, zi k18 300 (a8_ 1)), (h20, zi k20 300 (a8_ 3))] := hD.sub [0, 1, 2, 3, 4, 14, 15, 5, 6, 7, 8, 9, 10, 11, 12, 13] (by decide) rfl
          generalize H1 = H at hP hS ⊢
          clear hz1
          refine lv_if_eq (tgt := 78) hx hb dX2_read_54 (by decide) (fun c_ => ?_) (fun c_ => ?_)
          · skip
            have b_ := zT_eq rfl zk_0 c_
            obtain ⟨z78, e_z78⟩ : ∃ z : Int32, z = (u8_ 1) + Int32.ofInt 1 := ⟨_, rfl⟩
            have b_ := zadd (x := (u8_ 1)) (y := Int32.ofInt 1) rfl (show (Int32.ofInt 1).toInt = 1 from by decide) e_z78 (by omega) (by omega)
            refine lv_iinc (v := z78) (lv' := [(2, .int z78), (0, .ref h0), (1, .int (u8_ 0))]) hx hb dX2_read_78 hl (k := 2) rfl e_z78.symm (by decide) rfl (fun ls hl => ?_)
            have hre : zRe f2 (v1 2).toInt f5 f6 f7 (v4 7).toInt f12 (v11 7).toInt (b8_ 0) (a8_ 7) f7 (u8_ 5).toInt (a8_ 1) (a8_ 2) (a8_ 3) (a8_ 4) (a8_ 5) (a8_ 6) (u8_ 3).toInt (u8_ 4).toInt z78.toInt (u8_ 0).toInt := zRe_n (b := r31_.toInt) hI8_0 (by omega) (Or.inr ⟨by omega, hX31_0⟩) (hX51_1 (by omega)) (by omega)
            refine lv_goto (tgt := 8) hx hb dX2_read_81 (by decide) ?_
            have hc : va_P (dC, dI) vwCl [(h0, .inr (2, mX2 h1 h4 h11 h18 h19 h20 h21 h22 h23 (upd (upd v0 9 (u8_ 3)) 10 (u8_ 4)))), (h23, zi k23 400 (a8_ 6)), (h21, zi k21 400 (a8_ 4)), (h19, zi k19 300 (a8_ 2)), (h22, zi k22 400 (a8_ 5)), (h1, .inr (9, mX9 h2 h3 (upd v1 3 (u8_ 2)))), (h2, zi k2 600 f2), (h3, zi k3 12 (a8_ 0)), (h11, .inr (10, mX10 h12 h13 h14 h15 h16 h17 v11)), (h12, .inl (k12, 10, .inr (.inl f12))), (h4, .inr (10, mX10 h5 h6 h7 h8 h9 h10 (upd v4 7 (u8_ 5)))), (h5, .inl (k5, 400, .inr (.inl (b8_ 0)))), (h6, zi k6 400 (a8_ 7)), (h7, zi k7 400 f7), (h18, zi k18 300 (a8_ 1)), (h20, zi k20 300 (a8_ 3))] H ∧ va_D A [(h0, .inr (2, mX2 h1 h4 h11 h18 h19 h20 h21 h22 h23 (upd (upd v0 9 (u8_ 3)) 10 (u8_ 4)))), (h23, zi k23 400 (a8_ 6)), (h21, zi k21 400 (a8_ 4)), (h19, zi k19 300 (a8_ 2)), (h22, zi k22 400 (a8_ 5)), (h1, .inr (9, mX9 h2 h3 (upd v1 3 (u8_ 2)))), (h2, zi k2 600 f2), (h3, zi k3 12 (a8_ 0)), (h11, .inr (10, mX10 h12 h13 h14 h15 h16 h17 v11)), (h12, .inl (k12, 10, .inr (.inl f12))), (h4, .inr (10, mX10 h5 h6 h7 h8 h9 h10 (upd v4 7 (u8_ 5)))), (h5, .inl (k5, 400, .inr (.inl (b8_ 0)))), (h6, zi k6 400 (a8_ 7)), (h7, zi k7 400 f7), (h18, zi k18 300 (a8_ 1)), (h20, zi k20 300 (a8_ 3))] ∧ va_S A s.heap H locs ∧ lv_has ls 3 [(0, .ref h0), (1, .int (u8_ 0)), (2, .int z78)] ∧ zA (-1) 299 (a8_ 2) ∧ zA 0 399 (a8_ 3) ∧ zA 0 299 (a8_ 4) ∧ zA 0 299 (a8_ 5) ∧ zA 0 399 (a8_ 7) ∧ (0 ≤ (u8_ 0).toInt ∧ (u8_ 0).toInt ≤ 1200) ∧ (0 ≤ z78.toInt ∧ z78.toInt ≤ 600) ∧ (0 ≤ (u8_ 2).toInt ∧ (u8_ 2).toInt ≤ 12) ∧ (0 ≤ (u8_ 3).toInt ∧ (u8_ 3).toInt ≤ 300) ∧ (0 ≤ (u8_ 4).toInt ∧ (u8_ 4).toInt ≤ 300) ∧ (0 ≤ (u8_ 5).toInt ∧ (u8_ 5).toInt ≤ 400) ∧ (zRe f2 (v1 2).toInt f5 f6 f7 (v4 7).toInt f12 (v11 7).toInt (b8_ 0) (a8_ 7) f7 (u8_ 5).toInt (a8_ 1) (a8_ 2) (a8_ 3) (a8_ 4) (a8_ 5) (a8_ 6) (u8_ 3).toInt (u8_ 4).toInt z78.toInt (u8_ 0).toInt) ∧ (z78.toInt ≤ (v1 2).toInt) ∧ ((u8_ 0).toInt ≤ 512 + z78.toInt) ∧ (0 ≤ (u8_ 0).toInt) ∧ (zChn (a8_ 4) (a8_ 2) (a8_ 5) (a8_ 6) (u8_ 3).toInt) ∧ ((u8_ 4).toInt ≤ (u8_ 3).toInt) := ⟨hP, hD, hS, lv_sub hl [1, 2, 0] rfl, ha8_2, ha8_3, ha8_4, ha8_5, ha8_7, (by first | with_reducible assumption | exact ⟨by omega, by omega⟩), (by first | with_reducible assumption | exact ⟨by omega, by omega⟩), (by first | with_reducible assumption | exact ⟨by omega, by omega⟩), (by first | with_reducible assumption | exact ⟨by omega, by omega⟩), (by first | with_reducible assumption | exact ⟨by omega, by omega⟩), (by first | with_reducible assumption | exact ⟨by omega, by omega⟩), by first | exact hre | exact zRe_0 (fun j hj => hB1_1 j hj) (by omega) (by omega) (by decide) (by decide), by omega, by omega, by omega, by assumption, by omega⟩
            exact hJ8 H locs ls (fun i => ([(u8_ 0), z78, (u8_ 2), (u8_ 3), (u8_ 4), (u8_ 5)] : List (Int32)).getD i 0) (fun _ => 0) (fun i => ([(a8_ 0), (a8_ 1), (a8_ 2), (a8_ 3), (a8_ 4), (a8_ 5), (a8_ 6), (a8_ 7)] : List (Nat → Int32)).getD i (fun _ => 0)) (fun i => ([(b8_ 0)] : List (Nat → Int64)).getD i (fun _ => 0)) hc (show (600 - z78.toInt).toNat < (600 - (u8_ 1).toInt).toNat from by omega)
          · skip
            have b_ := zF_eq rfl zk_0 c_
            refine lv_aload_n hx hb dX2_read_57 rfl (lv_at hl 0 rfl) ?_
            refine lv_aload_n hx hb dX2_read_58 rfl (lv_at hl 0 rfl) ?_
            refine va_get (D := (dC, dI)) (ci := 2) (v := .ref h1) (C := RX2) (T := TX2) (N := 11) hx hb hG zuX2 hown hK hP 0 rfl rfl 0 (by decide) (hG _ zv325) (fun _ h9 => h9) rfl dX2_read_59 ?_
            refine lv_iload_n hx hb dX2_read_62 rfl (lv_at hl 2 rfl) ?_
            have hPc := hP.sub (ws' := [(h1, .inr (9, mX9 h2 h3 (upd v1 3 (u8_ 2)))), (h2, zi k2 600 f2), (h3, zi k3 12 (a8_ 0))]) [5, 6, 7] rfl
            have hDc := hD.sub (ws' := [(h1, .inr (9, mX9 h2 h3 (upd v1 3 (u8_ 2)))), (h2, zi k2 600 f2), (h3, zi k3 12 (a8_ 0))]) [5, 6, 7] (by decide) rfl
            have hKc := hK.sub (tys' := [(k2, .byte), (k3, .byte)]) [4, 5] rfl
            have hFc := va_free (wc := [(h1, .inr (9, mX9 h2 h3 (upd v1 3 (u8_ 2)))), (h2, zi k2 600 f2), (h3, zi k3 12 (a8_ 0))]) hD hS hA [5, 6, 7] rfl
            refine va_calll (va_runV (As := [.int (u8_ 1)]) (rest := [.ref h0]) ⟨hx, hb, hml, hown, hG⟩ (sX9_wordOf_0 l dC dI adK adV h1 h2 h3 k2 k3 H.size (upd v1 3 (u8_ 2)) f2 (a8_ 0) (u8_ 1) (zR_up2 hv1 3 (show (0 : Int) ≤ ((u8_ 2) : Int32).toInt ∧ ((u8_ 2) : Int32).toInt ≤ (12 : Int) from (by first | with_reducible assumption | exact ⟨by omega, by omega⟩)))) (cwV 1 hG (zgV zv652 zv653 zv654 zv130 zv655) rfl rfl rfl (by decide +kernel) ⟨Nat.le_of_ble_eq_true rfl, Nat.le_of_ble_eq_true rfl⟩) ⟨zPc_blind, va_recv hKc hPc (ci := 9) (q0 := 0) rfl rfl, zPc_pre hPc hKc hDc hE hS hFc hZ⟩ rfl rfl hl.1 rfl (lv_room (Nat.le_of_ble_eq_true rfl)) dX2_read_63 ⟨Nat.le_of_ble_eq_true rfl, Nat.le_of_ble_eq_true rfl⟩) hS (fun q _ h => hFc q h) hFc (fun r63_ u63_ t H1 locs ht hvm hw hB hz1 hk1 hS => ?_)
            replace hw : (0 ≤ (u63_ 0).toInt ∧ (u63_ 0).toInt ≤ 12) ∧ (0 ≤ (u8_ 1).toInt → (u8_ 1).toInt ≤ 600 → ∃ m : Nat, zRaw f2 (v1 2).toInt (u8_ 1).toInt m ∧ r63_.toInt = zWrd f2 (u8_ 1).toInt m) := hw
            obtain ⟨b_, hX63_0⟩ := hw
            obtain ⟨w63_, a63_, b63_, hP1, hK1, hD1⟩ := hB
            rw [ht] at hP1
            obtain ⟨hP, hD⟩ := va_join (wr := [(h0, .inr (2, mX2 h1 h4 h11 h18 h19 h20 h21 h22 h23 (upd (upd v0 9 (u8_ 3)) 10 (u8_ 4)))), (h23, zi k23 400 (a8_ 6)), (h21, zi k21 400 (a8_ 4)), (h19, zi k19 300 (a8_ 2)), (h22, zi k22 400 (a8_ 5)), (h11, .inr (10, mX10 h12 h13 h14 h15 h16 h17 v11)), (h12, .inl (k12, 10, .inr (.inl f12))), (h4, .inr (10, mX10 h5 h6 h7 h8 h9 h10 (upd v4 7 (u8_ 5)))), (h5, .inl (k5, 400, .inr (.inl (b8_ 0)))), (h6, zi k6 400 (a8_ 7)), (h7, zi k7 400 f7), (h18, zi k18 300 (a8_ 1)), (h20, zi k20 300 (a8_ 3))]) (w1 := [(h1, .inr (9, mX9 h2 h3 (upd v1 3 (u63_ 0)))), (h2, zi k2 600 f2), (h3, zi k3 12 (a63_ 0))]) hP hD [5, 6, 7] [0, 1, 2, 3, 4, 8, 9, 10, 11, 12, 13, 14, 15] rfl rfl (by decide) (by decide) hk1 hFc hP1 hD1
            have hP : va_P (dC, dI) vwCl [(h0, .inr (2, mX2 h1 h4 h11 h18 h19 h20 h21 h22 h23 (upd (upd v0 9 (u8_ 3)) 10 (u8_ 4)))), (h23, zi k23 400 (a8_ 6)), (h21, zi k21 400 (a8_ 4)), (h19, zi k19 300 (a8_ 2)), (h22, zi k22 400 (a8_ 5)), (h1, .inr (9, mX9 h2 h3 (upd v1 3 (u63_ 0)))), (h2, zi k2 600 f2), (h3, zi k3 12 (a63_ 0)), (h11, .inr (10, mX10 h12 h13 h14 h15 h16 h17 v11)), (h12, .inl (k12, 10, .inr (.inl f12))), (h4, .inr (10, mX10 h5 h6 h7 h8 h9 h10 (upd v4 7 (u8_ 5)))), (h5, .inl (k5, 400, .inr (.inl (b8_ 0)))), (h6, zi k6 400 (a8_ 7)), (h7, zi k7 400 f7), (h18, zi k18 300 (a8_ 1)), (h20, zi k20 300 (a8_ 3))] H1 := hP.sub [0, 1, 2, 3, 4, 13, 14, 15, 5, 6, 7, 8, 9, 10, 11, 12] rfl
            have hD : va_D A [(h0, .inr (2, mX2 h1 h4 h11 h18 h19 h20 h21 h22 h23 (upd (upd v0 9 (u8_ 3)) 10 (u8_ 4)))), (h23, zi k23 400 (a8_ 6)), (h21, zi k21 400 (a8_ 4)), (h19, zi k19 300 (a8_ 2)), (h22, zi k22 400 (a8_ 5)), (h1, .inr (9, mX9 h2 h3 (upd v1 3 (u63_ 0)))), (h2, zi k2 600 f2), (h3, zi k3 12 (a63_ 0)), (h11, .inr (10, mX10 h12 h13 h14 h15 h16 h17 v11)), (h12, .inl (k12, 10, .inr (.inl f12))), (h4, .inr (10, mX10 h5 h6 h7 h8 h9 h10 (upd v4 7 (u8_ 5)))), (h5, .inl (k5, 400, .inr (.inl (b8_ 0)))), (h6, zi k6 400 (a8_ 7)), (h7, zi k7 400 f7), (h18, zi k18 300 (a8_ 1)), (h20, zi k20 300 (a8_ 3))] := hD.sub [0, 1, 2, 3, 4, 13, 14, 15, 5, 6, 7, 8, 9, 10, 11, 12] (by decide) rfl
            generalize H1 = H at hP hS ⊢
            clear hz1
            refine lv_iload_n hx hb dX2_read_66 rfl (lv_at hl 1 rfl) ?_
            have hPc := hP.sub (ws' := [(h0, .inr (2, mX2 h1 h4 h11 h18 h19 h20 h21 h22 h23 (upd (upd v0 9 (u8_ 3)) 10 (u8_ 4)))), (h11, .inr (10, mX10 h12 h13 h14 h15 h16 h17 v11)), (h12, .inl (k12, 10, .inr (.inl f12))), (h4, .inr (10, mX10 h5 h6 h7 h8 h9 h10 (upd v4 7 (u8_ 5)))), (h5, .inl (k5, 400, .inr (.inl (b8_ 0)))), (h6, zi k6 400 (a8_ 7)), (h7, zi k7 400 f7), (h18, zi k18 300 (a8_ 1)), (h19, zi k19 300 (a8_ 2)), (h23, zi k23 400 (a8_ 6)), (h22, zi k22 400 (a8_ 5)), (h21, zi k21 400 (a8_ 4)), (h20, zi k20 300 (a8_ 3))]) [0, 8, 9, 10, 11, 12, 13, 14, 3, 1, 4, 2, 15] rfl
            have hDc := hD.sub (ws' := [(h0, .inr (2, mX2 h1 h4 h11 h18 h19 h20 h21 h22 h23 (upd (upd v0 9 (u8_ 3)) 10 (u8_ 4)))), (h11, .inr (10, mX10 h12 h13 h14 h15 h16 h17 v11)), (h12, .inl (k12, 10, .inr (.inl f12))), (h4, .inr (10, mX10 h5 h6 h7 h8 h9 h10 (upd v4 7 (u8_ 5)))), (h5, .inl (k5, 400, .inr (.inl (b8_ 0)))), (h6, zi k6 400 (a8_ 7)), (h7, zi k7 400 f7), (h18, zi k18 300 (a8_ 1)), (h19, zi k19 300 (a8_ 2)), (h23, zi k23 400 (a8_ 6)), (h22, zi k22 400 (a8_ 5)), (h21, zi k21 400 (a8_ 4)), (h20, zi k20 300 (a8_ 3))]) [0, 8, 9, 10, 11, 12, 13, 14, 3, 1, 4, 2, 15] (by decide) rfl
            have hKc := hK.sub (tys' := [(k12, .long), (k5, .long), (k6, .int), (k7, .int), (k18, .int), (k19, .int), (k23, .int), (k22, .int), (k21, .int), (k20, .int)]) [6, 7, 8, 9, 10, 2, 0, 3, 1, 11] rfl
            have hFc := va_free (wc := [(h0, .inr (2, mX2 h1 h4 h11 h18 h19 h20 h21 h22 h23 (upd (upd v0 9 (u8_ 3)) 10 (u8_ 4)))), (h11, .inr (10, mX10 h12 h13 h14 h15 h16 h17 v11)), (h12, .inl (k12, 10, .inr (.inl f12))), (h4, .inr (10, mX10 h5 h6 h7 h8 h9 h10 (upd v4 7 (u8_ 5)))), (h5, .inl (k5, 400, .inr (.inl (b8_ 0)))), (h6, zi k6 400 (a8_ 7)), (h7, zi k7 400 f7), (h18, zi k18 300 (a8_ 1)), (h19, zi k19 300 (a8_ 2)), (h23, zi k23 400 (a8_ 6)), (h22, zi k22 400 (a8_ 5)), (h21, zi k21 400 (a8_ 4)), (h20, zi k20 300 (a8_ 3))]) hD hS hA [0, 8, 9, 10, 11, 12, 13, 14, 3, 1, 4, 2, 15] rfl
            refine va_calli (va_runV (As := [.long r63_, .int (u8_ 0)]) (rest := []) ⟨hx, hb, hml, hown, hG⟩ (sX2_keep_0 l dC dI adK adV h0 h11 h12 h4 h5 h6 h7 h18 h19 h23 h22 h21 h20 h1 h13 h14 h15 h16 h17 h8 h9 h10 k12 k5 k6 k7 k18 k19 k23 k22 k21 k20 H.size (upd (upd v0 9 (u8_ 3)) 10 (u8_ 4)) v11 f12 (upd v4 7 (u8_ 5)) (b8_ 0) (a8_ 7) f7 (a8_ 1) (a8_ 2) (a8_ 6) (a8_ 5) (a8_ 4) (a8_ 3) r63_ (u8_ 0) (zR_up2 (zR_up2 hv0 9 (show (0 : Int) ≤ ((u8_ 3) : Int32).toInt ∧ ((u8_ 3) : Int32).toInt ≤ (300 : Int) from (by first | with_reducible assumption | exact ⟨by omega, by omega⟩))) 10 (show (0 : Int) ≤ ((u8_ 4) : Int32).toInt ∧ ((u8_ 4) : Int32).toInt ≤ (300 : Int) from (by first | with_reducible assumption | exact ⟨by omega, by omega⟩))) hv11 (zR_up2 hv4 7 (show (0 : Int) ≤ ((u8_ 5) : Int32).toInt ∧ ((u8_ 5) : Int32).toInt ≤ (400 : Int) from (by first | with_reducible assumption | exact ⟨by omega, by omega⟩))) ha8_7 hf7 ha8_2 ha8_5 ha8_4 ha8_3 (show zChn (a8_ 4) (a8_ 2) (a8_ 5) (a8_ 6) (u8_ 3).toInt from by first | with_reducible assumption | assumption) (show (u8_ 4).toInt ≤ (u8_ 3).toInt from by omega)) (cwV 2 hG (zgV zv735 zv737 zv5 zv135 zv738) rfl rfl rfl (by decide +kernel) ⟨Nat.le_of_ble_eq_true rfl, Nat.le_of_ble_eq_true rfl⟩) ⟨zPc_blind, va_recv hKc hPc (ci := 2) (q0 := 0) rfl rfl, zPc_pre hPc hKc hDc hE hS hFc hZ⟩ rfl rfl hl.1 rfl (lv_room (Nat.le_of_ble_eq_true rfl)) dX2_read_67 ⟨Nat.le_of_ble_eq_true rfl, Nat.le_of_ble_eq_true rfl⟩) hS (fun q _ h => hFc q h) hFc (fun r67_ u67_ t H1 locs ht hvm hw hB hz1 hk1 hS => ?_)
            replace hw : (0 ≤ r67_.toInt ∧ r67_.toInt ≤ 1) ∧ (0 ≤ (u67_ 0).toInt ∧ (u67_ 0).toInt ≤ 300) ∧ (0 ≤ (u67_ 1).toInt ∧ (u67_ 1).toInt ≤ 300) ∧ (0 ≤ (u67_ 2).toInt ∧ (u67_ 2).toInt ≤ 400) ∧ ((u67_ 1).toInt ≤ (u67_ 0).toInt) ∧ (r67_.toInt = (u67_ 3).toInt) := hw
            obtain ⟨b_, b_, b_, b_, hX67_0, b_⟩ := hw
            obtain ⟨w67_, a67_, b67_, ha67_0, ha67_2, ha67_4, ha67_5, ha67_6, hB67_0, hB67_1, hP1, hK1, hD1⟩ := hB
            have hB67_0 : zChn (a67_ 5) (a67_ 2) (a67_ 4) (a67_ 3) (u67_ 0).toInt := hB67_0
            have hB67_1 : zKe (b8_ 0) (a8_ 7) f7 (u8_ 5).toInt f12 (v11 7).toInt (a8_ 1) (a8_ 2) (a8_ 3) (a8_ 4) (a8_ 5) (a8_ 6) (u8_ 3).toInt (u8_ 4).toInt (b67_ 0) (a67_ 0) f7 (u67_ 2).toInt (a67_ 1) (a67_ 2) (a67_ 6) (a67_ 5) (a67_ 4) (a67_ 3) (u67_ 0).toInt (u67_ 1).toInt r63_.toInt (u8_ 0).toInt (u67_ 3).toInt := hB67_1
            rw [ht] at hP1
            obtain ⟨hP, hD⟩ := va_join (wr := [(h1, .inr (9, mX9 h2 h3 (upd v1 3 (u63_ 0)))), (h2, zi k2 600 f2), (h3, zi k3 12 (a63_ 0))]) (w1 := [(h0, .inr (2, mX2 h1 h4 h11 h18 h19 h20 h21 h22 h23 (upd (upd v0 9 (u67_ 0)) 10 (u67_ 1)))), (h11, .inr (10, mX10 h12 h13 h14 h15 h16 h17 v11)), (h12, .inl (k12, 10, .inr (.inl f12))), (h4, .inr (10, mX10 h5 h6 h7 h8 h9 h10 (upd v4 7 (u67_ 2)))), (h5, .inl (k5, 400, .inr (.inl (b67_ 0)))), (h6, zi k6 400 (a67_ 0)), (h7, zi k7 400 f7), (h18, zi k18 300 (a67_ 1)), (h19, zi k19 300 (a67_ 2)), (h23, zi k23 400 (a67_ 3)), (h22, zi k22 400 (a67_ 4)), (h21, zi k21 400 (a67_ 5)), (h20, zi k20 300 (a67_ 6))]) hP hD [0, 8, 9, 10, 11, 12, 13, 14, 3, 1, 4, 2, 15] [5, 6, 7] rfl rfl (by decide) (by decide) hk1 hFc hP1 hD1
            have hP : va_P (dC, dI) vwCl [(h0, .inr (2, mX2 h1 h4 h11 h18 h19 h20 h21 h22 h23 (upd (upd v0 9 (u67_ 0)) 10 (u67_ 1)))), (h23, zi k23 400 (a67_ 3)), (h21, zi k21 400 (a67_ 5)), (h19, zi k19 300 (a67_ 2)), (h22, zi k22 400 (a67_ 4)), (h1, .inr (9, mX9 h2 h3 (upd v1 3 (u63_ 0)))), (h2, zi k2 600 f2), (h3, zi k3 12 (a63_ 0)), (h11, .inr (10, mX10 h12 h13 h14 h15 h16 h17 v11)), (h12, .inl (k12, 10, .inr (.inl f12))), (h4, .inr (10, mX10 h5 h6 h7 h8 h9 h10 (upd v4 7 (u67_ 2)))), (h5, .inl (k5, 400, .inr (.inl (b67_ 0)))), (h6, zi k6 400 (a67_ 0)), (h7, zi k7 400 f7), (h18, zi k18 300 (a67_ 1)), (h20, zi k20 300 (a67_ 6))] H1 := hP.sub [3, 12, 14, 11, 13, 0, 1, 2, 4, 5, 6, 7, 8, 9, 10, 15] rfl
            have hD : va_D A [(h0, .inr (2, mX2 h1 h4 h11 h18 h19 h20 h21 h22 h23 (upd (upd v0 9 (u67_ 0)) 10 (u67_ 1)))), (h23, zi k23 400 (a67_ 3)), (h21, zi k21 400 (a67_ 5)), (h19, zi k19 300 (a67_ 2)), (h22, zi k22 400 (a67_ 4)), (h1, .inr (9, mX9 h2 h3 (upd v1 3 (u63_ 0)))), (h2, zi k2 600 f2), (h3, zi k3 12 (a63_ 0)), (h11, .inr (10, mX10 h12 h13 h14 h15 h16 h17 v11)), (h12, .inl (k12, 10, .inr (.inl f12))), (h4, .inr (10, mX10 h5 h6 h7 h8 h9 h10 (upd v4 7 (u67_ 2)))), (h5, .inl (k5, 400, .inr (.inl (b67_ 0)))), (h6, zi k6 400 (a67_ 0)), (h7, zi k7 400 f7), (h18, zi k18 300 (a67_ 1)), (h20, zi k20 300 (a67_ 6))] := hD.sub [3, 12, 14, 11, 13, 0, 1, 2, 4, 5, 6, 7, 8, 9, 10, 15] (by decide) rfl
            generalize H1 = H at hP hS ⊢
            clear hz1
            refine lv_if_ne (tgt := 75) hx hb dX2_read_70 (by decide) (fun c_ => ?_) (fun c_ => ?_)
            · skip
              have b_ := zT_ne rfl zk_0 c_
              obtain ⟨z75, e_z75⟩ : ∃ z : Int32, z = (u8_ 0) + Int32.ofInt 1 := ⟨_, rfl⟩
              have b_ := zadd (x := (u8_ 0)) (y := Int32.ofInt 1) rfl (show (Int32.ofInt 1).toInt = 1 from by decide) e_z75 (by omega) (by omega)
              refine lv_iinc (v := z75) (lv' := [(1, .int z75), (0, .ref h0), (2, .int (u8_ 1))]) hx hb dX2_read_75 hl (k := 1) rfl e_z75.symm (by decide) rfl (fun ls hl => ?_)
              obtain ⟨z78, e_z78⟩ : ∃ z : Int32, z = (u8_ 1) + Int32.ofInt 1 := ⟨_, rfl⟩
              have b_ := zadd (x := (u8_ 1)) (y := Int32.ofInt 1) rfl (show (Int32.ofInt 1).toInt = 1 from by decide) e_z78 (by omega) (by omega)
              refine lv_iinc (v := z78) (lv' := [(2, .int z78), (1, .int z75), (0, .ref h0)]) hx hb dX2_read_78 hl (k := 2) rfl e_z78.symm (by decide) rfl (fun ls hl => ?_)
              have hre : zRe f2 (v1 2).toInt f5 f6 f7 (v4 7).toInt f12 (v11 7).toInt (b67_ 0) (a67_ 0) f7 (u67_ 2).toInt (a67_ 1) (a67_ 2) (a67_ 6) (a67_ 5) (a67_ 4) (a67_ 3) (u67_ 0).toInt (u67_ 1).toInt z78.toInt z75.toInt := zRe_k (b := r31_.toInt) hI8_0 (by omega) (by omega) (Or.inr ⟨by omega, hX31_0⟩) (hX51_0 (by omega)) (zwd_e (hX63_0 (by omega) (by omega))) hB67_1 (by omega) (by omega) (by omega)
              refine lv_goto (tgt := 8) hx hb dX2_read_81 (by decide) ?_
              have hc : va_P (dC, dI) vwCl [(h0, .inr (2, mX2 h1 h4 h11 h18 h19 h20 h21 h22 h23 (upd (upd v0 9 (u67_ 0)) 10 (u67_ 1)))), (h23, zi k23 400 (a67_ 3)), (h21, zi k21 400 (a67_ 5)), (h19, zi k19 300 (a67_ 2)), (h22, zi k22 400 (a67_ 4)), (h1, .inr (9, mX9 h2 h3 (upd v1 3 (u63_ 0)))), (h2, zi k2 600 f2), (h3, zi k3 12 (a63_ 0)), (h11, .inr (10, mX10 h12 h13 h14 h15 h16 h17 v11)), (h12, .inl (k12, 10, .inr (.inl f12))), (h4, .inr (10, mX10 h5 h6 h7 h8 h9 h10 (upd v4 7 (u67_ 2)))), (h5, .inl (k5, 400, .inr (.inl (b67_ 0)))), (h6, zi k6 400 (a67_ 0)), (h7, zi k7 400 f7), (h18, zi k18 300 (a67_ 1)), (h20, zi k20 300 (a67_ 6))] H ∧ va_D A [(h0, .inr (2, mX2 h1 h4 h11 h18 h19 h20 h21 h22 h23 (upd (upd v0 9 (u67_ 0)) 10 (u67_ 1)))), (h23, zi k23 400 (a67_ 3)), (h21, zi k21 400 (a67_ 5)), (h19, zi k19 300 (a67_ 2)), (h22, zi k22 400 (a67_ 4)), (h1, .inr (9, mX9 h2 h3 (upd v1 3 (u63_ 0)))), (h2, zi k2 600 f2), (h3, zi k3 12 (a63_ 0)), (h11, .inr (10, mX10 h12 h13 h14 h15 h16 h17 v11)), (h12, .inl (k12, 10, .inr (.inl f12))), (h4, .inr (10, mX10 h5 h6 h7 h8 h9 h10 (upd v4 7 (u67_ 2)))), (h5, .inl (k5, 400, .inr (.inl (b67_ 0)))), (h6, zi k6 400 (a67_ 0)), (h7, zi k7 400 f7), (h18, zi k18 300 (a67_ 1)), (h20, zi k20 300 (a67_ 6))] ∧ va_S A s.heap H locs ∧ lv_has ls 3 [(0, .ref h0), (1, .int z75), (2, .int z78)] ∧ zA (-1) 299 (a67_ 2) ∧ zA 0 399 (a67_ 6) ∧ zA 0 299 (a67_ 5) ∧ zA 0 299 (a67_ 4) ∧ zA 0 399 (a67_ 0) ∧ (0 ≤ z75.toInt ∧ z75.toInt ≤ 1200) ∧ (0 ≤ z78.toInt ∧ z78.toInt ≤ 600) ∧ (0 ≤ (u63_ 0).toInt ∧ (u63_ 0).toInt ≤ 12) ∧ (0 ≤ (u67_ 0).toInt ∧ (u67_ 0).toInt ≤ 300) ∧ (0 ≤ (u67_ 1).toInt ∧ (u67_ 1).toInt ≤ 300) ∧ (0 ≤ (u67_ 2).toInt ∧ (u67_ 2).toInt ≤ 400) ∧ (zRe f2 (v1 2).toInt f5 f6 f7 (v4 7).toInt f12 (v11 7).toInt (b67_ 0) (a67_ 0) f7 (u67_ 2).toInt (a67_ 1) (a67_ 2) (a67_ 6) (a67_ 5) (a67_ 4) (a67_ 3) (u67_ 0).toInt (u67_ 1).toInt z78.toInt z75.toInt) ∧ (z78.toInt ≤ (v1 2).toInt) ∧ (z75.toInt ≤ 512 + z78.toInt) ∧ (0 ≤ z75.toInt) ∧ (zChn (a67_ 5) (a67_ 2) (a67_ 4) (a67_ 3) (u67_ 0).toInt) ∧ ((u67_ 1).toInt ≤ (u67_ 0).toInt) := ⟨hP, hD, hS, lv_sub hl [2, 1, 0] rfl, ha67_2, ha67_6, ha67_5, ha67_4, ha67_0, (by first | with_reducible assumption | exact ⟨by omega, by omega⟩), (by first | with_reducible assumption | exact ⟨by omega, by omega⟩), (by first | with_reducible assumption | exact ⟨by omega, by omega⟩), (by first | with_reducible assumption | exact ⟨by omega, by omega⟩), (by first | with_reducible assumption | exact ⟨by omega, by omega⟩), (by first | with_reducible assumption | exact ⟨by omega, by omega⟩), by first | exact hre | exact zRe_0 (fun j hj => hB1_1 j hj) (by omega) (by omega) (by decide) (by decide), by omega, by omega, by omega, by assumption, by omega⟩
              exact hJ8 H locs ls (fun i => ([z75, z78, (u63_ 0), (u67_ 0), (u67_ 1), (u67_ 2)] : List (Int32)).getD i 0) (fun _ => 0) (fun i => ([(a63_ 0), (a67_ 1), (a67_ 2), (a67_ 6), (a67_ 5), (a67_ 4), (a67_ 3), (a67_ 0)] : List (Nat → Int32)).getD i (fun _ => 0)) (fun i => ([(b67_ 0)] : List (Nat → Int64)).getD i (fun _ => 0)) hc (show (600 - z78.toInt).toNat < (600 - (u8_ 1).toInt).toNat from by omega)
            · skip
              have b_ := zF_ne rfl zk_0 c_
              refine lv_iconst (v := 0) hx hb dX2_read_73 (by decide) ?_
              have hrz : zRz f2 (v1 2).toInt f5 f6 f7 (v4 7).toInt f12 (v11 7).toInt (b67_ 0) (a67_ 0) f7 (u67_ 2).toInt (a67_ 1) (a67_ 2) (a67_ 6) (a67_ 5) (a67_ 4) (a67_ 3) (u67_ 0).toInt (u67_ 1).toInt (0 : Int32).toInt := zRz_f (b := r31_.toInt) hI8_0 (by omega) (by omega) (Or.inr ⟨by omega, hX31_0⟩) (hX51_0 (by omega)) (zwd_e (hX63_0 (by omega) (by omega))) hB67_1 (by omega) (by decide)
              refine W.widen (k := 0) (n := 0) (by decide) (by decide) ?_
              have hpost : (0 ≤ (0 : Int32).toInt ∧ (0 : Int32).toInt ≤ 1) ∧ (0 ≤ (u67_ 0).toInt ∧ (u67_ 0).toInt ≤ 300) ∧ (0 ≤ (u67_ 1).toInt ∧ (u67_ 1).toInt ≤ 300) ∧ (0 ≤ (u63_ 0).toInt ∧ (u63_ 0).toInt ≤ 12) ∧ (0 ≤ (u67_ 2).toInt ∧ (u67_ 2).toInt ≤ 400) ∧ ((u67_ 1).toInt ≤ (u67_ 0).toInt) ∧ ((0 : Int32).toInt = (0 : Int32).toInt) := ⟨(by first | with_reducible assumption | exact ⟨by omega, by omega⟩), (by first | with_reducible assumption | exact ⟨by omega, by omega⟩), (by first | with_reducible assumption | exact ⟨by omega, by omega⟩), (by first | with_reducible assumption | exact ⟨by omega, by omega⟩), (by first | with_reducible assumption | exact ⟨by omega, by omega⟩), by omega, rfl⟩
              have hP9 : va_P (dC, dI) vwCl [(h0, .inr (2, mX2 h1 h4 h11 h18 h19 h20 h21 h22 h23 (upd (upd v0 9 (u67_ 0)) 10 (u67_ 1)))), (h23, zi k23 400 (a67_ 3)), (h21, zi k21 400 (a67_ 5)), (h19, zi k19 300 (a67_ 2)), (h22, zi k22 400 (a67_ 4)), (h1, .inr (9, mX9 h2 h3 (upd v1 3 (u63_ 0)))), (h2, zi k2 600 f2), (h3, zi k3 12 (a63_ 0)), (h11, .inr (10, mX10 h12 h13 h14 h15 h16 h17 v11)), (h12, .inl (k12, 10, .inr (.inl f12))), (h4, .inr (10, mX10 h5 h6 h7 h8 h9 h10 (upd v4 7 (u67_ 2)))), (h5, .inl (k5, 400, .inr (.inl (b67_ 0)))), (h6, zi k6 400 (a67_ 0)), (h7, zi k7 400 f7), (h18, zi k18 300 (a67_ 1)), (h20, zi k20 300 (a67_ 6))] H := hP
              have hD9 : va_D A [(h0, .inr (2, mX2 h1 h4 h11 h18 h19 h20 h21 h22 h23 (upd (upd v0 9 (u67_ 0)) 10 (u67_ 1)))), (h23, zi k23 400 (a67_ 3)), (h21, zi k21 400 (a67_ 5)), (h19, zi k19 300 (a67_ 2)), (h22, zi k22 400 (a67_ 4)), (h1, .inr (9, mX9 h2 h3 (upd v1 3 (u63_ 0)))), (h2, zi k2 600 f2), (h3, zi k3 12 (a63_ 0)), (h11, .inr (10, mX10 h12 h13 h14 h15 h16 h17 v11)), (h12, .inl (k12, 10, .inr (.inl f12))), (h4, .inr (10, mX10 h5 h6 h7 h8 h9 h10 (upd v4 7 (u67_ 2)))), (h5, .inl (k5, 400, .inr (.inl (b67_ 0)))), (h6, zi k6 400 (a67_ 0)), (h7, zi k7 400 f7), (h18, zi k18 300 (a67_ 1)), (h20, zi k20 300 (a67_ 6))] := hD
              have hB0 : zChn (a67_ 5) (a67_ 2) (a67_ 4) (a67_ 3) (u67_ 0).toInt := by assumption
              have hB1 : zRz f2 (v1 2).toInt f5 f6 f7 (v4 7).toInt f12 (v11 7).toInt (b67_ 0) (a67_ 0) f7 (u67_ 2).toInt (a67_ 1) (a67_ 2) (a67_ 6) (a67_ 5) (a67_ 4) (a67_ 3) (u67_ 0).toInt (u67_ 1).toInt (0 : Int32).toInt := by first | exact hrz | exact zRz_e hI8_0 (by omega) (by omega) (by decide)
              exact W.zret (v := 0) hx hb hr rfl (fun t ht hW => ⟨⟨0, (fun i => ([(u67_ 0), (u67_ 1), (u63_ 0), (u67_ 2), 0] : List (Int32)).getD i 0), rfl, hpost, (fun _ => 0), (fun i => ([(a67_ 3), (a67_ 5), (a67_ 2), (a67_ 4), (a63_ 0), (a67_ 0), (a67_ 1), (a67_ 6)] : List (Nat → Int32)).getD i (fun _ => 0)), (fun i => ([(b67_ 0)] : List (Nat → Int64)).getD i (fun _ => 0)), ha67_5, ha67_2, ha67_4, ha67_0, ha67_6, hB0, hB1, by rw [ht]; exact hP9, va_K.moved hW.alike hK, hD9⟩, hS.F ht⟩) hS.2.2 dX2_read_74
        · skip
          have b_ := zF_ne rfl zk_10 c_
          refine lv_sipush (v := 512) hx hb dX2_read_39 (by decide) ?_
          refine lv_istore_n (lv' := [(1, .int 512), (0, .ref h0), (2, .int (u8_ 1))]) hx hb dX2_read_42 rfl hl (by decide) rfl (fun ls hl => ?_)
          refine lv_goto (tgt := 78) hx hb dX2_read_43 (by decide) ?_
          obtain ⟨z78, e_z78⟩ : ∃ z : Int32, z = (u8_ 1) + Int32.ofInt 1 := ⟨_, rfl⟩
          have b_ := zadd (x := (u8_ 1)) (y := Int32.ofInt 1) rfl (show (Int32.ofInt 1).toInt = 1 from by decide) e_z78 (by omega) (by omega)
          refine lv_iinc (v := z78) (lv' := [(2, .int z78), (1, .int 512), (0, .ref h0)]) hx hb dX2_read_78 hl (k := 2) rfl e_z78.symm (by decide) rfl (fun ls hl => ?_)
          have hre : zRe f2 (v1 2).toInt f5 f6 f7 (v4 7).toInt f12 (v11 7).toInt (b8_ 0) (a8_ 7) f7 (u8_ 5).toInt (a8_ 1) (a8_ 2) (a8_ 3) (a8_ 4) (a8_ 5) (a8_ 6) (u8_ 3).toInt (u8_ 4).toInt z78.toInt (512 : Int32).toInt := zRe_l hI8_0 (by omega) (by omega) (by omega) hX31_0 (by omega) (by decide)
          refine lv_goto (tgt := 8) hx hb dX2_read_81 (by decide) ?_
          have hc : va_P (dC, dI) vwCl [(h0, .inr (2, mX2 h1 h4 h11 h18 h19 h20 h21 h22 h23 (upd (upd v0 9 (u8_ 3)) 10 (u8_ 4)))), (h23, zi k23 400 (a8_ 6)), (h21, zi k21 400 (a8_ 4)), (h19, zi k19 300 (a8_ 2)), (h22, zi k22 400 (a8_ 5)), (h1, .inr (9, mX9 h2 h3 (upd v1 3 (u8_ 2)))), (h2, zi k2 600 f2), (h3, zi k3 12 (a8_ 0)), (h11, .inr (10, mX10 h12 h13 h14 h15 h16 h17 v11)), (h12, .inl (k12, 10, .inr (.inl f12))), (h4, .inr (10, mX10 h5 h6 h7 h8 h9 h10 (upd v4 7 (u8_ 5)))), (h5, .inl (k5, 400, .inr (.inl (b8_ 0)))), (h6, zi k6 400 (a8_ 7)), (h7, zi k7 400 f7), (h18, zi k18 300 (a8_ 1)), (h20, zi k20 300 (a8_ 3))] H ∧ va_D A [(h0, .inr (2, mX2 h1 h4 h11 h18 h19 h20 h21 h22 h23 (upd (upd v0 9 (u8_ 3)) 10 (u8_ 4)))), (h23, zi k23 400 (a8_ 6)), (h21, zi k21 400 (a8_ 4)), (h19, zi k19 300 (a8_ 2)), (h22, zi k22 400 (a8_ 5)), (h1, .inr (9, mX9 h2 h3 (upd v1 3 (u8_ 2)))), (h2, zi k2 600 f2), (h3, zi k3 12 (a8_ 0)), (h11, .inr (10, mX10 h12 h13 h14 h15 h16 h17 v11)), (h12, .inl (k12, 10, .inr (.inl f12))), (h4, .inr (10, mX10 h5 h6 h7 h8 h9 h10 (upd v4 7 (u8_ 5)))), (h5, .inl (k5, 400, .inr (.inl (b8_ 0)))), (h6, zi k6 400 (a8_ 7)), (h7, zi k7 400 f7), (h18, zi k18 300 (a8_ 1)), (h20, zi k20 300 (a8_ 3))] ∧ va_S A s.heap H locs ∧ lv_has ls 3 [(0, .ref h0), (1, .int 512), (2, .int z78)] ∧ zA (-1) 299 (a8_ 2) ∧ zA 0 399 (a8_ 3) ∧ zA 0 299 (a8_ 4) ∧ zA 0 299 (a8_ 5) ∧ zA 0 399 (a8_ 7) ∧ (0 ≤ (512 : Int32).toInt ∧ (512 : Int32).toInt ≤ 1200) ∧ (0 ≤ z78.toInt ∧ z78.toInt ≤ 600) ∧ (0 ≤ (u8_ 2).toInt ∧ (u8_ 2).toInt ≤ 12) ∧ (0 ≤ (u8_ 3).toInt ∧ (u8_ 3).toInt ≤ 300) ∧ (0 ≤ (u8_ 4).toInt ∧ (u8_ 4).toInt ≤ 300) ∧ (0 ≤ (u8_ 5).toInt ∧ (u8_ 5).toInt ≤ 400) ∧ (zRe f2 (v1 2).toInt f5 f6 f7 (v4 7).toInt f12 (v11 7).toInt (b8_ 0) (a8_ 7) f7 (u8_ 5).toInt (a8_ 1) (a8_ 2) (a8_ 3) (a8_ 4) (a8_ 5) (a8_ 6) (u8_ 3).toInt (u8_ 4).toInt z78.toInt (512 : Int32).toInt) ∧ (z78.toInt ≤ (v1 2).toInt) ∧ ((512 : Int32).toInt ≤ 512 + z78.toInt) ∧ (0 ≤ (512 : Int32).toInt) ∧ (zChn (a8_ 4) (a8_ 2) (a8_ 5) (a8_ 6) (u8_ 3).toInt) ∧ ((u8_ 4).toInt ≤ (u8_ 3).toInt) := ⟨hP, hD, hS, lv_sub hl [2, 1, 0] rfl, ha8_2, ha8_3, ha8_4, ha8_5, ha8_7, (by first | with_reducible assumption | exact ⟨by omega, by omega⟩), (by first | with_reducible assumption | exact ⟨by omega, by omega⟩), (by first | with_reducible assumption | exact ⟨by omega, by omega⟩), (by first | with_reducible assumption | exact ⟨by omega, by omega⟩), (by first | with_reducible assumption | exact ⟨by omega, by omega⟩), (by first | with_reducible assumption | exact ⟨by omega, by omega⟩), by first | exact hre | exact zRe_0 (fun j hj => hB1_1 j hj) (by omega) (by omega) (by decide) (by decide), by omega, by omega, by omega, by assumption, by omega⟩
          exact hJ8 H locs ls (fun i => ([512, z78, (u8_ 2), (u8_ 3), (u8_ 4), (u8_ 5)] : List (Int32)).getD i 0) (fun _ => 0) (fun i => ([(a8_ 0), (a8_ 1), (a8_ 2), (a8_ 3), (a8_ 4), (a8_ 5), (a8_ 6), (a8_ 7)] : List (Nat → Int32)).getD i (fun _ => 0)) (fun i => ([(b8_ 0)] : List (Nat → Int64)).getD i (fun _ => 0)) hc (show (600 - z78.toInt).toNat < (600 - (u8_ 1).toInt).toNat from by omega)
  · skip
    have b_ : 0 ≤ (v1 3).toInt ∧ (v1 3).toInt ≤ 12 := hv1 3
    have b_ : 0 ≤ (v4 7).toInt ∧ (v4 7).toInt ≤ 400 := hv4 7
    have hc : va_P (dC, dI) vwCl [(h0, .inr (2, mX2 h1 h4 h11 h18 h19 h20 h21 h22 h23 (upd (upd v0 9 (u1_ 0)) 10 (u1_ 1)))), (h23, zi k23 400 (a1_ 0)), (h21, zi k21 400 f21), (h19, zi k19 300 f19), (h22, zi k22 400 f22), (h1, .inr (9, mX9 h2 h3 (upd v1 3 (v1 3)))), (h2, zi k2 600 f2), (h3, zi k3 12 f3), (h11, .inr (10, mX10 h12 h13 h14 h15 h16 h17 v11)), (h12, .inl (k12, 10, .inr (.inl f12))), (h4, .inr (10, mX10 h5 h6 h7 h8 h9 h10 (upd v4 7 (v4 7)))), (h5, .inl (k5, 400, .inr (.inl f5))), (h6, zi k6 400 f6), (h7, zi k7 400 f7), (h18, zi k18 300 f18), (h20, zi k20 300 f20)] H ∧ va_D A [(h0, .inr (2, mX2 h1 h4 h11 h18 h19 h20 h21 h22 h23 (upd (upd v0 9 (u1_ 0)) 10 (u1_ 1)))), (h23, zi k23 400 (a1_ 0)), (h21, zi k21 400 f21), (h19, zi k19 300 f19), (h22, zi k22 400 f22), (h1, .inr (9, mX9 h2 h3 (upd v1 3 (v1 3)))), (h2, zi k2 600 f2), (h3, zi k3 12 f3), (h11, .inr (10, mX10 h12 h13 h14 h15 h16 h17 v11)), (h12, .inl (k12, 10, .inr (.inl f12))), (h4, .inr (10, mX10 h5 h6 h7 h8 h9 h10 (upd v4 7 (v4 7)))), (h5, .inl (k5, 400, .inr (.inl f5))), (h6, zi k6 400 f6), (h7, zi k7 400 f7), (h18, zi k18 300 f18), (h20, zi k20 300 f20)] ∧ va_S A s.heap H locs ∧ lv_has ls 3 [(0, .ref h0), (1, .int 0), (2, .int 0)] ∧ zA (-1) 299 f19 ∧ zA 0 399 f20 ∧ zA 0 299 f21 ∧ zA 0 299 f22 ∧ zA 0 399 f6 ∧ (0 ≤ (0 : Int32).toInt ∧ (0 : Int32).toInt ≤ 1200) ∧ (0 ≤ (0 : Int32).toInt ∧ (0 : Int32).toInt ≤ 600) ∧ (0 ≤ (v1 3).toInt ∧ (v1 3).toInt ≤ 12) ∧ (0 ≤ (u1_ 0).toInt ∧ (u1_ 0).toInt ≤ 300) ∧ (0 ≤ (u1_ 1).toInt ∧ (u1_ 1).toInt ≤ 300) ∧ (0 ≤ (v4 7).toInt ∧ (v4 7).toInt ≤ 400) ∧ (zRe f2 (v1 2).toInt f5 f6 f7 (v4 7).toInt f12 (v11 7).toInt f5 f6 f7 (v4 7).toInt f18 f19 f20 f21 f22 (a1_ 0) (u1_ 0).toInt (u1_ 1).toInt (0 : Int32).toInt (0 : Int32).toInt) ∧ ((0 : Int32).toInt ≤ (v1 2).toInt) ∧ ((0 : Int32).toInt ≤ 512 + (0 : Int32).toInt) ∧ (0 ≤ (0 : Int32).toInt) ∧ (zChn f21 f19 f22 (a1_ 0) (u1_ 0).toInt) ∧ ((u1_ 1).toInt ≤ (u1_ 0).toInt) := ⟨hP, hD, hS, lv_sub hl [2, 1, 0] rfl, hf19, hf20, hf21, hf22, hf6, (by first | with_reducible assumption | exact ⟨by omega, by omega⟩), (by first | with_reducible assumption | exact ⟨by omega, by omega⟩), (by first | with_reducible assumption | exact ⟨by omega, by omega⟩), (by first | with_reducible assumption | exact ⟨by omega, by omega⟩), (by first | with_reducible assumption | exact ⟨by omega, by omega⟩), (by first | with_reducible assumption | exact ⟨by omega, by omega⟩), by first | exact hre | exact zRe_0 (fun j hj => hB1_1 j hj) (by omega) (by omega) (by decide) (by decide), by omega, by omega, by omega, by assumption, by omega⟩
    exact hJ8 H locs ls (fun i => ([0, 0, (v1 3), (u1_ 0), (u1_ 1), (v4 7)] : List (Int32)).getD i 0) (fun _ => 0) (fun i => ([f3, f18, f19, f20, f21, f22, (a1_ 0), f6] : List (Nat → Int32)).getD i (fun _ => 0)) (fun i => ([f5] : List (Nat → Int64)).getD i (fun _ => 0)) hc
set_option maxHeartbeats 8000000 in
set_option maxRecDepth 100000 in
theorem sX6_gammaBits_0 (l : Launch) (dC : Nat → ClassId) (dI : Nat → Nat → Nat) (adK adV : Nat → Nat) (sz : Nat) (x0 : Int32) : Met l yX6_gammaBits (zw yX6_gammaBits cX6_gammaBits 1 (some .int)) { frames := 2, cells := 0, slots := 0, locals := 41 } (zPc dC dI adK adV [.int x0] sz [] []) (va_Qi (fun (r : Int32) (u : Nat → Int32) => ((-1) ≤ r.toInt ∧ r.toInt ≤ 63) ∧ (0 < x0.toInt → r.toInt = 2 * (zbd (x0.toInt).toNat : Int) - 1)) (fun (u : Nat → Int32) (t : State) => ∃ (ww : Nat → Int64) (aa : Nat → Nat → Int32) (bb : Nat → Nat → Int64), va_P (dC, dI) vwCl [] t.heap ∧ va_K (dC, dI) vwCl [] t ∧ va_D (va_A [] sz) []) (va_A [] sz)) 0 0 (va_A [] sz) := by
  refine Met.ofW (cc := cX6_gammaBits) (maxL := 1) (ret := (some .int)) (by decide) rfl ?_
  intro p e s m args below meth c s₁ B hml hv
  obtain ⟨rfl, hsz, hP, hK, hD0, hE, hZ⟩ := hv
  have hx := B.exec
  have hb := B.bytes
  have hr := B.returns
  have hG : ∀ w ∈ zG, w.before _ s = true := fun w h => atoms_spec (ws := (zw yX6_gammaBits cX6_gammaBits 1 (some .int))) B.pre w (List.mem_cons_of_mem _ h)
  have hown : s.vm.findClass RX6 = some m.cls := findClass_of_methodNamed B.named
  have hlocks := B.notSynchronized

  subst hsz
  have hD := hD0.self (sz := s.heap.size)
  generalize hAe : va_A [] s.heap.size = A at hD hZ ⊢
  have hA : ∀ q : Nat, s.heap.size ≤ q → A q := fun q h => by rw [← hAe]; exact Or.inr h
  have hS : va_S A s.heap s.heap [] := va_S.rf
  have hl := lv_entry ([.int x0]) (n := 1) (Nat.le_of_ble_eq_true rfl)
  rw [lg_entry_eq]
  generalize (lg_sl ([.int x0]) ++ List.replicate (1 - (lg_sl ([.int x0])).length) Slot.unset).toArray = ls at hl ⊢
  have hl : lv_has ls 1 [(0, .int x0)] := hl
  have b_ := zbd_i x0
  refine lv_iconst (v := 2) hx hb dX6_gammaBits_0 (by decide) ?_
  refine lv_iload_n hx hb dX6_gammaBits_1 rfl (lv_at hl 0 rfl) ?_
  have hPc := hP.sub (ws' := []) [] rfl
  have hDc := hD.sub (ws' := []) [] (by decide) rfl
  have hKc := hK.sub (tys' := []) [] rfl
  have hFc := va_free (wc := []) hD hS hA [] rfl
  refine va_calli (va_runSN (As := [.int x0]) (rest := [.int 2]) ⟨hx, hb, hml, hown, hG⟩ (sX11_binaryDigits_0 l dC dI adK adV s.heap.size x0) ⟨va_cnB 1 hG (zgI zv791) rfl rfl rfl (zE_RX6_59 hE) (hG _ zv129) (by decide +kernel) ⟨Nat.le_of_ble_eq_true rfl, Nat.le_of_ble_eq_true rfl⟩, hG _ zv790, trivial⟩ ⟨zPc_blind, zPc_pre hPc hKc hDc hE hS hFc hZ⟩ rfl rfl hl.1 rfl (lv_room (Nat.le_of_ble_eq_true rfl)) dX6_gammaBits_2 ⟨Nat.le_of_ble_eq_true rfl, Nat.le_of_ble_eq_true rfl⟩) hS (fun q _ h => hFc q h) hFc (fun r2_ u2_ t H1 locs ht hvm hw hB hz1 hk1 hS => ?_)
  replace hw : (0 ≤ r2_.toInt ∧ r2_.toInt ≤ 32) ∧ (0 < x0.toInt → r2_.toInt = (zbd (x0.toInt).toNat : Int)) := hw
  obtain ⟨b_, hX2_0⟩ := hw
  obtain ⟨w2_, a2_, b2_, hP1, hK1, hD1⟩ := hB
  rw [ht] at hP1
  obtain ⟨hP, hD⟩ := va_join (wr := []) (w1 := []) hP hD [] [] rfl rfl (by decide) (by decide) hk1 hFc hP1 hD1
  have hP : va_P (dC, dI) vwCl [] H1 := hP.sub [] rfl
  have hD : va_D A [] := hD.sub [] (by decide) rfl
  generalize H1 = H at hP hS ⊢
  clear hz1
  refine lv_imul hx hb dX6_gammaBits_5 ?_
  refine lv_topi (fun z5 e_z5 => ?_)
  have b_ := zmul zk_2 rfl e_z5 (by omega) (by omega)
  refine lv_iconst (v := 1) hx hb dX6_gammaBits_6 (by decide) ?_
  refine lv_isub hx hb dX6_gammaBits_7 ?_
  refine lv_topi (fun z7 e_z7 => ?_)
  have b_ := zsub rfl zk_1 e_z7 (by omega) (by omega)
  refine W.widen (k := 0) (n := 0) (by decide) (by decide) ?_
  have hpost : ((-1) ≤ z7.toInt ∧ z7.toInt ≤ 63) ∧ (0 < x0.toInt → z7.toInt = 2 * (zbd (x0.toInt).toNat : Int) - 1) := ⟨(by first | with_reducible assumption | exact ⟨by omega, by omega⟩), by omega⟩
  have hP9 : va_P (dC, dI) vwCl [] H := hP
  have hD9 : va_D A [] := hD
  exact W.iret (v := z7) hx hb hr (fun t ht hW => ⟨⟨z7, (fun _ => 0), rfl, hpost, (fun _ => 0), (fun _ => (fun _ => 0)), (fun _ => (fun _ => 0)), by rw [ht]; exact hP9, va_K.moved hW.alike hK, hD9⟩, hS.F ht⟩) hS.2.2 dX6_gammaBits_8
set_option maxHeartbeats 8000000 in
set_option maxRecDepth 100000 in
theorem sX2_bitsFor_0 (l : Launch) (dC : Nat → ClassId) (dI : Nat → Nat → Nat) (adK adV : Nat → Nat) (h0 : Nat) (h23 : Nat) (h21 : Nat) (h18 : Nat) (h19 : Nat) (h22 : Nat) (h20 : Nat) (h1 : Nat) (h4 : Nat) (h11 : Nat) (k23 : ClassId) (k21 : ClassId) (k18 : ClassId) (k19 : ClassId) (k22 : ClassId) (k20 : ClassId) (sz : Nat) (v0 : Nat → Int32) (f23 : Nat → Int32) (f21 : Nat → Int32) (f18 : Nat → Int32) (f19 : Nat → Int32) (f22 : Nat → Int32) (f20 : Nat → Int32) (x1 : Int32) (x2 : Int32) (hv0 : zR rg_Intake v0) (hf21 : zA 0 299 f21) (hf19 : zA (-1) 299 f19) (hf22 : zA 0 299 f22) (hf20 : zA 0 399 f20) (hx1 : 0 ≤ x1.toInt ∧ x1.toInt ≤ 399) (hp0_ : zChn f21 f19 f22 f23 (v0 9).toInt) : Met l yX2_bitsFor (zw yX2_bitsFor cX2_bitsFor 7 (some .int)) { frames := 3, cells := 0, slots := 0, locals := 61 } (zPc dC dI adK adV [.ref h0, .int x1, .int x2] sz [(h0, .inr (2, mX2 h1 h4 h11 h18 h19 h20 h21 h22 h23 v0)), (h23, zi k23 400 f23), (h21, zi k21 400 f21), (h18, zi k18 300 f18), (h19, zi k19 300 f19), (h22, zi k22 400 f22), (h20, zi k20 300 f20)] [(k23, .int), (k21, .int), (k18, .int), (k19, .int), (k22, .int), (k20, .int)]) (va_Qi (fun (r : Int32) (u : Nat → Int32) => (zBf f18 f19 f20 f21 f22 f23 (v0 9).toInt (v0 10).toInt ((x1 : Int32)).toNatClampNeg x2.toInt r.toInt)) (fun (u : Nat → Int32) (t : State) => ∃ (ww : Nat → Int64) (aa : Nat → Nat → Int32) (bb : Nat → Nat → Int64), va_P (dC, dI) vwCl [(h0, .inr (2, mX2 h1 h4 h11 h18 h19 h20 h21 h22 h23 v0)), (h23, zi k23 400 f23), (h21, zi k21 400 f21), (h18, zi k18 300 f18), (h19, zi k19 300 f19), (h22, zi k22 400 f22), (h20, zi k20 300 f20)] t.heap ∧ va_K (dC, dI) vwCl [(k23, .int), (k21, .int), (k18, .int), (k19, .int), (k22, .int), (k20, .int)] t ∧ va_D (va_A [(h0, .inr (2, mX2 h1 h4 h11 h18 h19 h20 h21 h22 h23 v0)), (h23, zi k23 400 f23), (h21, zi k21 400 f21), (h18, zi k18 300 f18), (h19, zi k19 300 f19), (h22, zi k22 400 f22), (h20, zi k20 300 f20)] sz) [(h0, .inr (2, mX2 h1 h4 h11 h18 h19 h20 h21 h22 h23 v0)), (h23, zi k23 400 f23), (h21, zi k21 400 f21), (h18, zi k18 300 f18), (h19, zi k19 300 f19), (h22, zi k22 400 f22), (h20, zi k20 300 f20)]) (va_A [(h0, .inr (2, mX2 h1 h4 h11 h18 h19 h20 h21 h22 h23 v0)), (h23, zi k23 400 f23), (h21, zi k21 400 f21), (h18, zi k18 300 f18), (h19, zi k19 300 f19), (h22, zi k22 400 f22), (h20, zi k20 300 f20)] sz)) 0 0 (va_A [(h0, .inr (2, mX2 h1 h4 h11 h18 h19 h20 h21 h22 h23 v0)), (h23, zi k23 400 f23), (h21, zi k21 400 f21), (h18, zi k18 300 f18), (h19, zi k19 300 f19), (h22, zi k22 400 f22), (h20, zi k20 300 f20)] sz) := by
  refine Met.ofW (cc := cX2_bitsFor) (maxL := 7) (ret := (some .int)) (by decide) rfl ?_
  intro p e s m args below meth c s₁ B hml hv
  obtain ⟨rfl, hsz, hP, hK, hD0, hE, hZ⟩ := hv
  have hx := B.exec
  have hb := B.bytes
  have hr := B.returns
  have hG : ∀ w ∈ zG, w.before _ s = true := fun w h => atoms_spec (ws := (zw yX2_bitsFor cX2_bitsFor 7 (some .int))) B.pre w (List.mem_cons_of_mem _ h)
  have hown : s.vm.findClass RX2 = some m.cls := findClass_of_methodNamed B.named
  have hlocks := B.notSynchronized

  subst hsz
  have hD := hD0.self (sz := s.heap.size)
  generalize hAe : va_A [(h0, .inr (2, mX2 h1 h4 h11 h18 h19 h20 h21 h22 h23 v0)), (h23, zi k23 400 f23), (h21, zi k21 400 f21), (h18, zi k18 300 f18), (h19, zi k19 300 f19), (h22, zi k22 400 f22), (h20, zi k20 300 f20)] s.heap.size = A at hD hZ ⊢
  have hA : ∀ q : Nat, s.heap.size ≤ q → A q := fun q h => by rw [← hAe]; exact Or.inr h
  have hS : va_S A s.heap s.heap [] := va_S.rf
  have hl := lv_entry ([.ref h0, .int x1, .int x2]) (n := 7) (Nat.le_of_ble_eq_true rfl)
  rw [lg_entry_eq]
  generalize (lg_sl ([.ref h0, .int x1, .int x2]) ++ List.replicate (7 - (lg_sl ([.ref h0, .int x1, .int x2])).length) Slot.unset).toArray = ls at hl ⊢
  have hl : lv_has ls 7 [(0, .ref h0), (1, .int x1), (2, .int x2)] := hl
  have b_ := zk_m1
  have b_ := zk_0
  have b_ : 0 ≤ (v0 9).toInt ∧ (v0 9).toInt ≤ 300 := hv0 9
  have b_ : 0 ≤ (v0 10).toInt ∧ (v0 10).toInt ≤ 300 := hv0 10
  obtain ⟨own9, hc9⟩ := hp0_
  obtain ⟨hn0, hn1, path, hpa, -, hpf⟩ := hc9 (x1 : Int32).toNatClampNeg (by have q : (x1 : Int32).toNatClampNeg = x1.toInt.toNat := rfl; omega)
  refine lv_iload_n hx hb dX2_bitsFor_0 rfl (lv_at hl 2 rfl) ?_
  have hPc := hP.sub (ws' := []) [] rfl
  have hDc := hD.sub (ws' := []) [] (by decide) rfl
  have hKc := hK.sub (tys' := []) [] rfl
  have hFc := va_free (wc := []) hD hS hA [] rfl
  refine va_calli (va_runS (As := [.int x2]) (rest := []) ⟨hx, hb, hml, hown, hG⟩ (sX6_gammaBits_0 l dC dI adK adV s.heap.size x2) (va_cwS 1 hG (zgS zv786 zv787 zv133 zv788) rfl rfl rfl (by decide +kernel) ⟨Nat.le_of_ble_eq_true rfl, Nat.le_of_ble_eq_true rfl⟩) ⟨zPc_blind, zPc_pre hPc hKc hDc hE hS hFc hZ⟩ rfl rfl hl.1 rfl (lv_room (Nat.le_of_ble_eq_true rfl)) dX2_bitsFor_1 ⟨Nat.le_of_ble_eq_true rfl, Nat.le_of_ble_eq_true rfl⟩) hS (fun q _ h => hFc q h) hFc (fun r1_ u1_ t H1 locs ht hvm hw hB hz1 hk1 hS => ?_)
  replace hw : ((-1) ≤ r1_.toInt ∧ r1_.toInt ≤ 63) ∧ (0 < x2.toInt → r1_.toInt = 2 * (zbd (x2.toInt).toNat : Int) - 1) := hw
  obtain ⟨b_, hX1_0⟩ := hw
  obtain ⟨w1_, a1_, b1_, hP1, hK1, hD1⟩ := hB
  rw [ht] at hP1
  obtain ⟨hP, hD⟩ := va_join (wr := [(h0, .inr (2, mX2 h1 h4 h11 h18 h19 h20 h21 h22 h23 v0)), (h23, zi k23 400 f23), (h21, zi k21 400 f21), (h18, zi k18 300 f18), (h19, zi k19 300 f19), (h22, zi k22 400 f22), (h20, zi k20 300 f20)]) (w1 := []) hP hD [] [0, 1, 2, 3, 4, 5, 6] rfl rfl (by decide) (by decide) hk1 hFc hP1 hD1
  have hP : va_P (dC, dI) vwCl [(h0, .inr (2, mX2 h1 h4 h11 h18 h19 h20 h21 h22 h23 v0)), (h23, zi k23 400 f23), (h21, zi k21 400 f21), (h18, zi k18 300 f18), (h19, zi k19 300 f19), (h22, zi k22 400 f22), (h20, zi k20 300 f20)] H1 := hP.sub [0, 1, 2, 3, 4, 5, 6] rfl
  have hD : va_D A [(h0, .inr (2, mX2 h1 h4 h11 h18 h19 h20 h21 h22 h23 v0)), (h23, zi k23 400 f23), (h21, zi k21 400 f21), (h18, zi k18 300 f18), (h19, zi k19 300 f19), (h22, zi k22 400 f22), (h20, zi k20 300 f20)] := hD.sub [0, 1, 2, 3, 4, 5, 6] (by decide) rfl
  generalize H1 = H at hP hS ⊢
  clear hz1
  refine lv_aload_n hx hb dX2_bitsFor_4 rfl (lv_at hl 0 rfl) ?_
  refine va_get (D := (dC, dI)) (ci := 2) (v := .ref h23) (C := RX2) (T := TX2) (N := 11) hx hb hG zuX2 hown hK hP 0 rfl rfl 8 (by decide) (hG _ zv333) (fun _ h9 => h9) rfl dX2_bitsFor_5 ?_
  refine lv_iload_n hx hb dX2_bitsFor_8 rfl (lv_at hl 1 rfl) ?_
  refine va_iald hx hb hK hP 1 0 rfl rfl (zin_lit ⟨by omega, by omega⟩) dX2_bitsFor_9 ?_
  refine lv_topi (fun z9 e_z9 => ?_)
  have hPc := hP.sub (ws' := []) [] rfl
  have hDc := hD.sub (ws' := []) [] (by decide) rfl
  have hKc := hK.sub (tys' := []) [] rfl
  have hFc := va_free (wc := []) hD hS hA [] rfl
  refine va_calli (va_runS (As := [.int z9]) (rest := [.int r1_]) ⟨hx, hb, hml, hown, hG⟩ (sX6_gammaBits_0 l dC dI adK adV H.size z9) (va_cwS 1 hG (zgS zv786 zv787 zv133 zv788) rfl rfl rfl (by decide +kernel) ⟨Nat.le_of_ble_eq_true rfl, Nat.le_of_ble_eq_true rfl⟩) ⟨zPc_blind, zPc_pre hPc hKc hDc hE hS hFc hZ⟩ rfl rfl hl.1 rfl (lv_room (Nat.le_of_ble_eq_true rfl)) dX2_bitsFor_10 ⟨Nat.le_of_ble_eq_true rfl, Nat.le_of_ble_eq_true rfl⟩) hS (fun q _ h => hFc q h) hFc (fun r10_ u10_ t H1 locs ht hvm hw hB hz1 hk1 hS => ?_)
  replace hw : ((-1) ≤ r10_.toInt ∧ r10_.toInt ≤ 63) ∧ (0 < z9.toInt → r10_.toInt = 2 * (zbd (z9.toInt).toNat : Int) - 1) := hw
  obtain ⟨b_, hX10_0⟩ := hw
  obtain ⟨w10_, a10_, b10_, hP1, hK1, hD1⟩ := hB
  rw [ht] at hP1
  obtain ⟨hP, hD⟩ := va_join (wr := [(h0, .inr (2, mX2 h1 h4 h11 h18 h19 h20 h21 h22 h23 v0)), (h23, zi k23 400 f23), (h21, zi k21 400 f21), (h18, zi k18 300 f18), (h19, zi k19 300 f19), (h22, zi k22 400 f22), (h20, zi k20 300 f20)]) (w1 := []) hP hD [] [0, 1, 2, 3, 4, 5, 6] rfl rfl (by decide) (by decide) hk1 hFc hP1 hD1
  have hP : va_P (dC, dI) vwCl [(h0, .inr (2, mX2 h1 h4 h11 h18 h19 h20 h21 h22 h23 v0)), (h23, zi k23 400 f23), (h21, zi k21 400 f21), (h18, zi k18 300 f18), (h19, zi k19 300 f19), (h22, zi k22 400 f22), (h20, zi k20 300 f20)] H1 := hP.sub [0, 1, 2, 3, 4, 5, 6] rfl
  have hD : va_D A [(h0, .inr (2, mX2 h1 h4 h11 h18 h19 h20 h21 h22 h23 v0)), (h23, zi k23 400 f23), (h21, zi k21 400 f21), (h18, zi k18 300 f18), (h19, zi k19 300 f19), (h22, zi k22 400 f22), (h20, zi k20 300 f20)] := hD.sub [0, 1, 2, 3, 4, 5, 6] (by decide) rfl
  generalize H1 = H at hP hS ⊢
  clear hz1
  refine lv_iadd hx hb dX2_bitsFor_13 ?_
  refine lv_topi (fun z13 e_z13 => ?_)
  have b_ := zadd rfl rfl e_z13 (by omega) (by omega)
  refine lv_istore_n (lv' := [(3, .int z13), (0, .ref h0), (1, .int x1), (2, .int x2)]) hx hb dX2_bitsFor_14 rfl hl (by decide) rfl (fun ls hl => ?_)
  refine lv_iconst (v := (-1)) hx hb dX2_bitsFor_15 (by decide) ?_
  refine lv_istore (lv' := [(4, .int (-1)), (3, .int z13), (0, .ref h0), (1, .int x1), (2, .int x2)]) hx hb dX2_bitsFor_16 hl (by decide) rfl (fun ls hl => ?_)
  refine lv_aload_n hx hb dX2_bitsFor_18 rfl (lv_at hl 2 rfl) ?_
  refine va_get (D := (dC, dI)) (ci := 2) (v := .ref h21) (C := RX2) (T := TX2) (N := 11) hx hb hG zuX2 hown hK hP 0 rfl rfl 6 (by decide) (hG _ zv331) (fun _ h9 => h9) rfl dX2_bitsFor_19 ?_
  refine lv_iload_n hx hb dX2_bitsFor_22 rfl (lv_at hl 3 rfl) ?_
  refine va_iald hx hb hK hP 2 1 rfl rfl (zin_lit ⟨by omega, by omega⟩) dX2_bitsFor_23 ?_
  refine lv_topi (fun z23 e_z23 => ?_)
  have b_ : 0 ≤ z23.toInt ∧ z23.toInt ≤ 299 := by rw [e_z23]; exact hf21 _
  refine lv_istore (lv' := [(5, .int z23), (4, .int (-1)), (3, .int z13), (0, .ref h0), (1, .int x1), (2, .int x2)]) hx hb dX2_bitsFor_24 hl (by decide) rfl (fun ls hl => ?_)
  refine lv_iconst (v := 0) hx hb dX2_bitsFor_26 (by decide) ?_
  refine lv_istore (lv' := [(6, .int 0), (5, .int z23), (4, .int (-1)), (3, .int z13), (0, .ref h0), (1, .int x1), (2, .int x2)]) hx hb dX2_bitsFor_27 hl (by decide) rfl (fun ls hl => ?_)
  refine zcutL (fun u29_ => (300 - (u29_ 3).toInt).toNat) (fun H locs ls u29_ w29_ a29_ b29_ => va_P (dC, dI) vwCl [(h0, .inr (2, mX2 h1 h4 h11 h18 h19 h20 h21 h22 h23 v0)), (h23, zi k23 400 f23), (h21, zi k21 400 f21), (h18, zi k18 300 f18), (h19, zi k19 300 f19), (h22, zi k22 400 f22), (h20, zi k20 300 f20)] H ∧ va_D A [(h0, .inr (2, mX2 h1 h4 h11 h18 h19 h20 h21 h22 h23 v0)), (h23, zi k23 400 f23), (h21, zi k21 400 f21), (h18, zi k18 300 f18), (h19, zi k19 300 f19), (h22, zi k22 400 f22), (h20, zi k20 300 f20)] ∧ va_S A s.heap H locs ∧ lv_has ls 7 [(0, .ref h0), (1, .int x1), (2, .int x2), (3, .int (u29_ 0)), (4, .int (u29_ 1)), (5, .int (u29_ 2)), (6, .int (u29_ 3))] ∧ ((-1) ≤ (u29_ 2).toInt ∧ (u29_ 2).toInt ≤ 299) ∧ (0 ≤ (u29_ 3).toInt ∧ (u29_ 3).toInt ≤ 300) ∧ ((u29_ 3).toInt < (f23 (x1 : Int32).toNatClampNeg).toInt → (u29_ 2).toInt = (path ((u29_ 3).toInt).toNat : Int)) ∧ (zBg f18 f19 f20 f21 f22 f23 (v0 9).toInt (v0 10).toInt ((x1 : Int32)).toNatClampNeg x2.toInt (u29_ 0).toInt (u29_ 1).toInt (u29_ 2).toInt (u29_ 3).toInt)) (fun ls u29_ w29_ => F0 m 29 ls []) 0 0 ?_ (fun hJ29 => ?_)
  · skip
    intro H locs ls u29_ w29_ a29_ b29_ hc hJ29
    obtain ⟨hP, hD, hS, hl, b_, b_, hI29_0, hI29_1⟩ := hc
    refine lv_iload hx hb dX2_bitsFor_29 (lv_at hl 6 rfl) ?_
    refine lv_aload_n hx hb dX2_bitsFor_31 rfl (lv_at hl 0 rfl) ?_
    refine va_get (D := (dC, dI)) (ci := 2) (v := .ref h23) (C := RX2) (T := TX2) (N := 11) hx hb hG zuX2 hown hK hP 0 rfl rfl 8 (by decide) (hG _ zv333) (fun _ h9 => h9) rfl dX2_bitsFor_32 ?_
    refine lv_iload_n hx hb dX2_bitsFor_35 rfl (lv_at hl 1 rfl) ?_
    refine va_iald hx hb hK hP 1 0 rfl rfl (zin_lit ⟨by omega, by omega⟩) dX2_bitsFor_36 ?_
    refine lv_topi (fun z36 e_z36 => ?_)
    have b_ : -2147483648 ≤ z36.toInt ∧ z36.toInt ≤ 2147483647 := ⟨zlo _, zhi _⟩
    refine lv_icmp_ge (tgt := 80) hx hb dX2_bitsFor_37 (by decide) (fun c_ => ?_) (fun c_ => ?_)
    · skip
      have b_ := zT_ge rfl rfl c_
      refine lv_iload_n hx hb dX2_bitsFor_80 rfl (lv_at hl 3 rfl) ?_
      refine W.widen (k := 0) (n := 0) (by decide) (by decide) ?_
      have b_ : -2147483648 ≤ (u29_ 0).toInt ∧ (u29_ 0).toInt ≤ 2147483647 := ⟨zlo _, zhi _⟩
      have hpost : (zBf f18 f19 f20 f21 f22 f23 (v0 9).toInt (v0 10).toInt ((x1 : Int32)).toNatClampNeg x2.toInt (u29_ 0).toInt) := by exact zBf_e hI29_1 (by rw [← e_z36]; omega) rfl
      have hP9 : va_P (dC, dI) vwCl [(h0, .inr (2, mX2 h1 h4 h11 h18 h19 h20 h21 h22 h23 v0)), (h23, zi k23 400 f23), (h21, zi k21 400 f21), (h18, zi k18 300 f18), (h19, zi k19 300 f19), (h22, zi k22 400 f22), (h20, zi k20 300 f20)] H := hP
      have hD9 : va_D A [(h0, .inr (2, mX2 h1 h4 h11 h18 h19 h20 h21 h22 h23 v0)), (h23, zi k23 400 f23), (h21, zi k21 400 f21), (h18, zi k18 300 f18), (h19, zi k19 300 f19), (h22, zi k22 400 f22), (h20, zi k20 300 f20)] := hD
      exact W.iret (v := (u29_ 0)) hx hb hr (fun t ht hW => ⟨⟨(u29_ 0), (fun _ => 0), rfl, hpost, (fun _ => 0), (fun _ => (fun _ => 0)), (fun _ => (fun _ => 0)), by rw [ht]; exact hP9, va_K.moved hW.alike hK, hD9⟩, hS.F ht⟩) hS.2.2 dX2_bitsFor_81
    · skip
      have b_ := zF_ge rfl rfl c_
      have b36 : z36.toInt = (f23 (x1 : Int32).toNatClampNeg).toInt := by rw [e_z36]
      have b_ : 0 ≤ (u29_ 2).toInt ∧ (u29_ 2).toInt ≤ 299 := by have q := hI29_0 (by omega); have q2 := (hpa ((u29_ 3).toInt).toNat (by omega)).1; omega
      refine lv_iload_n hx hb dX2_bitsFor_40 rfl (lv_at hl 3 rfl) ?_
      refine lv_aload_n hx hb dX2_bitsFor_41 rfl (lv_at hl 0 rfl) ?_
      refine va_get (D := (dC, dI)) (ci := 2) (v := .ref h18) (C := RX2) (T := TX2) (N := 11) hx hb hG zuX2 hown hK hP 0 rfl rfl 3 (by decide) (hG _ zv328) (fun _ h9 => h9) rfl dX2_bitsFor_42 ?_
      refine lv_iload hx hb dX2_bitsFor_45 (lv_at hl 5 rfl) ?_
      refine va_iald hx hb hK hP 3 2 rfl rfl (zin_lit ⟨by omega, by omega⟩) dX2_bitsFor_47 ?_
      refine lv_topi (fun z47 e_z47 => ?_)
      refine lv_iload hx hb dX2_bitsFor_48 (lv_at hl 4 rfl) ?_
      have b_ : -2147483648 ≤ z47.toInt ∧ z47.toInt ≤ 2147483647 := ⟨zlo _, zhi _⟩
      have b_ : -2147483648 ≤ (u29_ 1).toInt ∧ (u29_ 1).toInt ≤ 2147483647 := ⟨zlo _, zhi _⟩
      refine lv_isub hx hb dX2_bitsFor_50 ?_
      refine lv_topi (fun z50 e_z50 => ?_)
      have hPc := hP.sub (ws' := []) [] rfl
      have hDc := hD.sub (ws' := []) [] (by decide) rfl
      have hKc := hK.sub (tys' := []) [] rfl
      have hFc := va_free (wc := []) hD hS hA [] rfl
      refine va_calli (va_runS (As := [.int z50]) (rest := [.int (u29_ 0)]) ⟨hx, hb, hml, hown, hG⟩ (sX6_gammaBits_0 l dC dI adK adV H.size z50) (va_cwS 1 hG (zgS zv786 zv787 zv133 zv788) rfl rfl rfl (by decide +kernel) ⟨Nat.le_of_ble_eq_true rfl, Nat.le_of_ble_eq_true rfl⟩) ⟨zPc_blind, zPc_pre hPc hKc hDc hE hS hFc hZ⟩ rfl rfl hl.1 rfl (lv_room (Nat.le_of_ble_eq_true rfl)) dX2_bitsFor_51 ⟨Nat.le_of_ble_eq_true rfl, Nat.le_of_ble_eq_true rfl⟩) hS (fun q _ h => hFc q h) hFc (fun r51_ u51_ t H1 locs ht hvm hw hB hz1 hk1 hS => ?_)
      replace hw : ((-1) ≤ r51_.toInt ∧ r51_.toInt ≤ 63) ∧ (0 < z50.toInt → r51_.toInt = 2 * (zbd (z50.toInt).toNat : Int) - 1) := hw
      obtain ⟨b_, hX51_0⟩ := hw
      obtain ⟨w51_, a51_, b51_, hP1, hK1, hD1⟩ := hB
      rw [ht] at hP1
      obtain ⟨hP, hD⟩ := va_join (wr := [(h0, .inr (2, mX2 h1 h4 h11 h18 h19 h20 h21 h22 h23 v0)), (h23, zi k23 400 f23), (h21, zi k21 400 f21), (h18, zi k18 300 f18), (h19, zi k19 300 f19), (h22, zi k22 400 f22), (h20, zi k20 300 f20)]) (w1 := []) hP hD [] [0, 1, 2, 3, 4, 5, 6] rfl rfl (by decide) (by decide) hk1 hFc hP1 hD1
      have hP : va_P (dC, dI) vwCl [(h0, .inr (2, mX2 h1 h4 h11 h18 h19 h20 h21 h22 h23 v0)), (h23, zi k23 400 f23), (h21, zi k21 400 f21), (h18, zi k18 300 f18), (h19, zi k19 300 f19), (h22, zi k22 400 f22), (h20, zi k20 300 f20)] H1 := hP.sub [0, 1, 2, 3, 4, 5, 6] rfl
      have hD : va_D A [(h0, .inr (2, mX2 h1 h4 h11 h18 h19 h20 h21 h22 h23 v0)), (h23, zi k23 400 f23), (h21, zi k21 400 f21), (h18, zi k18 300 f18), (h19, zi k19 300 f19), (h22, zi k22 400 f22), (h20, zi k20 300 f20)] := hD.sub [0, 1, 2, 3, 4, 5, 6] (by decide) rfl
      generalize H1 = H at hP hS ⊢
      clear hz1
      have b_ : -2147483648 ≤ (u29_ 0).toInt ∧ (u29_ 0).toInt ≤ 2147483647 := ⟨zlo _, zhi _⟩
      refine lv_iadd hx hb dX2_bitsFor_54 ?_
      refine lv_topi (fun z54 e_z54 => ?_)
      refine lv_istore_n (lv' := [(3, .int z54), (0, .ref h0), (1, .int x1), (2, .int x2), (4, .int (u29_ 1)), (5, .int (u29_ 2)), (6, .int (u29_ 3))]) hx hb dX2_bitsFor_55 rfl hl (by decide) rfl (fun ls hl => ?_)
      refine lv_aload_n hx hb dX2_bitsFor_56 rfl (lv_at hl 1 rfl) ?_
      refine va_get (D := (dC, dI)) (ci := 2) (v := .ref h18) (C := RX2) (T := TX2) (N := 11) hx hb hG zuX2 hown hK hP 0 rfl rfl 3 (by decide) (hG _ zv328) (fun _ h9 => h9) rfl dX2_bitsFor_57 ?_
      refine lv_iload hx hb dX2_bitsFor_60 (lv_at hl 5 rfl) ?_
      refine va_iald hx hb hK hP 3 2 rfl rfl (zin_lit ⟨by omega, by omega⟩) dX2_bitsFor_62 ?_
      refine lv_topi (fun z62 e_z62 => ?_)
      refine lv_istore (lv' := [(4, .int z62), (3, .int z54), (0, .ref h0), (1, .int x1), (2, .int x2), (5, .int (u29_ 2)), (6, .int (u29_ 3))]) hx hb dX2_bitsFor_63 hl (by decide) rfl (fun ls hl => ?_)
      refine lv_aload_n hx hb dX2_bitsFor_65 rfl (lv_at hl 2 rfl) ?_
      refine va_get (D := (dC, dI)) (ci := 2) (v := .ref h19) (C := RX2) (T := TX2) (N := 11) hx hb hG zuX2 hown hK hP 0 rfl rfl 4 (by decide) (hG _ zv329) (fun _ h9 => h9) rfl dX2_bitsFor_66 ?_
      refine lv_iload hx hb dX2_bitsFor_69 (lv_at hl 5 rfl) ?_
      refine va_iald hx hb hK hP 4 3 rfl rfl (zin_lit ⟨by omega, by omega⟩) dX2_bitsFor_71 ?_
      refine lv_topi (fun z71 e_z71 => ?_)
      have b_ : (-1) ≤ z71.toInt ∧ z71.toInt ≤ 299 := by rw [e_z71]; exact hf19 _
      refine lv_istore (lv' := [(5, .int z71), (4, .int z62), (3, .int z54), (0, .ref h0), (1, .int x1), (2, .int x2), (6, .int (u29_ 3))]) hx hb dX2_bitsFor_72 hl (by decide) rfl (fun ls hl => ?_)
      obtain ⟨z74, e_z74⟩ : ∃ z : Int32, z = (u29_ 3) + Int32.ofInt 1 := ⟨_, rfl⟩
      have b_ := zadd (x := (u29_ 3)) (y := Int32.ofInt 1) rfl (show (Int32.ofInt 1).toInt = 1 from by decide) e_z74 (by omega) (by omega)
      refine lv_iinc (v := z74) (lv' := [(6, .int z74), (5, .int z71), (4, .int z62), (3, .int z54), (0, .ref h0), (1, .int x1), (2, .int x2)]) hx hb dX2_bitsFor_74 hl (k := 6) rfl e_z74.symm (by decide) rfl (fun ls hl => ?_)
      refine lv_goto (tgt := 29) hx hb dX2_bitsFor_77 (by decide) ?_
      have b_ : -2147483648 ≤ x2.toInt ∧ x2.toInt ≤ 2147483647 := ⟨zlo _, zhi _⟩
      have b_ : -2147483648 ≤ z54.toInt ∧ z54.toInt ≤ 2147483647 := ⟨zlo _, zhi _⟩
      have b_ : -2147483648 ≤ z62.toInt ∧ z62.toInt ≤ 2147483647 := ⟨zlo _, zhi _⟩
      have hc : va_P (dC, dI) vwCl [(h0, .inr (2, mX2 h1 h4 h11 h18 h19 h20 h21 h22 h23 v0)), (h23, zi k23 400 f23), (h21, zi k21 400 f21), (h18, zi k18 300 f18), (h19, zi k19 300 f19), (h22, zi k22 400 f22), (h20, zi k20 300 f20)] H ∧ va_D A [(h0, .inr (2, mX2 h1 h4 h11 h18 h19 h20 h21 h22 h23 v0)), (h23, zi k23 400 f23), (h21, zi k21 400 f21), (h18, zi k18 300 f18), (h19, zi k19 300 f19), (h22, zi k22 400 f22), (h20, zi k20 300 f20)] ∧ va_S A s.heap H locs ∧ lv_has ls 7 [(0, .ref h0), (1, .int x1), (2, .int x2), (3, .int z54), (4, .int z62), (5, .int z71), (6, .int z74)] ∧ ((-1) ≤ z71.toInt ∧ z71.toInt ≤ 299) ∧ (0 ≤ z74.toInt ∧ z74.toInt ≤ 300) ∧ (z74.toInt < (f23 (x1 : Int32).toNatClampNeg).toInt → z71.toInt = (path (z74.toInt).toNat : Int)) ∧ (zBg f18 f19 f20 f21 f22 f23 (v0 9).toInt (v0 10).toInt ((x1 : Int32)).toNatClampNeg x2.toInt z54.toInt z62.toInt z71.toInt z74.toInt) := ⟨hP, hD, hS, lv_sub hl [4, 5, 6, 3, 2, 1, 0] rfl, (by first | with_reducible assumption | exact ⟨by omega, by omega⟩), (by first | with_reducible assumption | exact ⟨by omega, by omega⟩), by first | (intro h; have q := (hpf (by rw [zk_0] at h; exact h)).1; rw [← e_z23] at q; rw [zk_0]; exact q) | exact zpath_step hpa (hI29_0 (by omega)) (by omega) e_z71 (by omega), by first | exact zBg_s hI29_1 (by rw [← e_z36]; omega) e_z47 e_z50 hX51_0 e_z54 e_z62 e_z71 (by omega) | exact zBg_0 hX1_0 (by rw [← e_z9]; exact hX10_0) rfl rfl e_z13 (by decide) e_z23 (by decide)⟩
      exact hJ29 H locs ls (fun i => ([z54, z62, z71, z74] : List (Int32)).getD i 0) (fun _ => 0) (fun _ => (fun _ => 0)) (fun _ => (fun _ => 0)) hc (show (300 - z74.toInt).toNat < (300 - (u29_ 3).toInt).toNat from by omega)
  · skip
    have b_ : -2147483648 ≤ x2.toInt ∧ x2.toInt ≤ 2147483647 := ⟨zlo _, zhi _⟩
    have hc : va_P (dC, dI) vwCl [(h0, .inr (2, mX2 h1 h4 h11 h18 h19 h20 h21 h22 h23 v0)), (h23, zi k23 400 f23), (h21, zi k21 400 f21), (h18, zi k18 300 f18), (h19, zi k19 300 f19), (h22, zi k22 400 f22), (h20, zi k20 300 f20)] H ∧ va_D A [(h0, .inr (2, mX2 h1 h4 h11 h18 h19 h20 h21 h22 h23 v0)), (h23, zi k23 400 f23), (h21, zi k21 400 f21), (h18, zi k18 300 f18), (h19, zi k19 300 f19), (h22, zi k22 400 f22), (h20, zi k20 300 f20)] ∧ va_S A s.heap H locs ∧ lv_has ls 7 [(0, .ref h0), (1, .int x1), (2, .int x2), (3, .int z13), (4, .int (-1)), (5, .int z23), (6, .int 0)] ∧ ((-1) ≤ z23.toInt ∧ z23.toInt ≤ 299) ∧ (0 ≤ (0 : Int32).toInt ∧ (0 : Int32).toInt ≤ 300) ∧ ((0 : Int32).toInt < (f23 (x1 : Int32).toNatClampNeg).toInt → z23.toInt = (path ((0 : Int32).toInt).toNat : Int)) ∧ (zBg f18 f19 f20 f21 f22 f23 (v0 9).toInt (v0 10).toInt ((x1 : Int32)).toNatClampNeg x2.toInt z13.toInt ((-1) : Int32).toInt z23.toInt (0 : Int32).toInt) := ⟨hP, hD, hS, lv_sub hl [4, 5, 6, 3, 2, 1, 0] rfl, (by first | with_reducible assumption | exact ⟨by omega, by omega⟩), (by first | with_reducible assumption | exact ⟨by omega, by omega⟩), by first | (intro h; have q := (hpf (by rw [zk_0] at h; exact h)).1; rw [← e_z23] at q; rw [zk_0]; exact q) | exact zpath_step hpa (hI29_0 (by omega)) (by omega) e_z71 (by omega), by first | exact zBg_s hI29_1 (by rw [← e_z36]; omega) e_z47 e_z50 hX51_0 e_z54 e_z62 e_z71 (by omega) | exact zBg_0 hX1_0 (by rw [← e_z9]; exact hX10_0) rfl rfl e_z13 (by decide) e_z23 (by decide)⟩
    exact hJ29 H locs ls (fun i => ([z13, (-1), z23, 0] : List (Int32)).getD i 0) (fun _ => 0) (fun _ => (fun _ => 0)) (fun _ => (fun _ => 0)) hc
set_option maxHeartbeats 8000000 in
set_option maxRecDepth 100000 in
theorem sX6_chunksFor_0 (l : Launch) (dC : Nat → ClassId) (dI : Nat → Nat → Nat) (adK adV : Nat → Nat) (sz : Nat) (x0 : Int32) : Met l yX6_chunksFor (zw yX6_chunksFor cX6_chunksFor 1 (some .int)) { frames := 1, cells := 0, slots := 0, locals := 20 } (zPc dC dI adK adV [.int x0] sz [] []) (va_Qi (fun (r : Int32) (u : Nat → Int32) => (0 ≤ r.toInt ∧ r.toInt ≤ 8388611) ∧ (0 ≤ x0.toInt → r.toInt = (znc (x0.toInt).toNat : Int))) (fun (u : Nat → Int32) (t : State) => ∃ (ww : Nat → Int64) (aa : Nat → Nat → Int32) (bb : Nat → Nat → Int64), va_P (dC, dI) vwCl [] t.heap ∧ va_K (dC, dI) vwCl [] t ∧ va_D (va_A [] sz) []) (va_A [] sz)) 0 0 (va_A [] sz) := by
  refine Met.ofW (cc := cX6_chunksFor) (maxL := 1) (ret := (some .int)) (by decide) rfl ?_
  intro p e s m args below meth c s₁ B hml hv
  obtain ⟨rfl, hsz, hP, hK, hD0, hE, hZ⟩ := hv
  have hx := B.exec
  have hb := B.bytes
  have hr := B.returns
  have hG : ∀ w ∈ zG, w.before _ s = true := fun w h => atoms_spec (ws := (zw yX6_chunksFor cX6_chunksFor 1 (some .int))) B.pre w (List.mem_cons_of_mem _ h)
  have hown : s.vm.findClass RX6 = some m.cls := findClass_of_methodNamed B.named
  have hlocks := B.notSynchronized

  subst hsz
  have hD := hD0.self (sz := s.heap.size)
  generalize hAe : va_A [] s.heap.size = A at hD hZ ⊢
  have hA : ∀ q : Nat, s.heap.size ≤ q → A q := fun q h => by rw [← hAe]; exact Or.inr h
  have hS : va_S A s.heap s.heap [] := va_S.rf
  have hl := lv_entry ([.int x0]) (n := 1) (Nat.le_of_ble_eq_true rfl)
  rw [lg_entry_eq]
  generalize (lg_sl ([.int x0]) ++ List.replicate (1 - (lg_sl ([.int x0])).length) Slot.unset).toArray = ls at hl ⊢
  have hl : lv_has ls 1 [(0, .int x0)] := hl
  have b_ := zk_0
  refine lv_iload_n hx hb dX6_chunksFor_0 rfl (lv_at hl 0 rfl) ?_
  have b_ : -2147483648 ≤ x0.toInt ∧ x0.toInt ≤ 2147483647 := ⟨zlo _, zhi _⟩
  refine lv_if_le (tgt := 15) hx hb dX6_chunksFor_1 (by decide) (fun c_ => ?_) (fun c_ => ?_)
  · skip
    have b_ := zT_le rfl zk_0 c_
    refine lv_iconst (v := 0) hx hb dX6_chunksFor_15 (by decide) ?_
    refine W.widen (k := 0) (n := 0) (by decide) (by decide) ?_
    have hpost : (0 ≤ (0 : Int32).toInt ∧ (0 : Int32).toInt ≤ 8388611) ∧ (0 ≤ x0.toInt → (0 : Int32).toInt = (znc (x0.toInt).toNat : Int)) := ⟨(by first | with_reducible assumption | exact ⟨by omega, by omega⟩), by first | exact fun q => znc_y (hX7_0 (by omega)) (by omega) (by omega) (by omega) | exact fun q => znc_z (by omega) (by first | decide | omega)⟩
    have hP9 : va_P (dC, dI) vwCl [] s.heap := hP
    have hD9 : va_D A [] := hD
    exact W.iret (v := 0) hx hb hr (fun t ht hW => ⟨⟨0, (fun _ => 0), rfl, hpost, (fun _ => 0), (fun _ => (fun _ => 0)), (fun _ => (fun _ => 0)), by rw [ht]; exact hP9, va_K.moved hW.alike hK, hD9⟩, hS.F ht⟩) hS.2.2 dX6_chunksFor_16
  · skip
    have b_ := zF_le rfl zk_0 c_
    refine lv_iload_n hx hb dX6_chunksFor_4 rfl (lv_at hl 0 rfl) ?_
    refine lv_iconst (v := 1) hx hb dX6_chunksFor_5 (by decide) ?_
    refine lv_isub hx hb dX6_chunksFor_6 ?_
    refine lv_topi (fun z6 e_z6 => ?_)
    have b_ := zsub rfl zk_1 e_z6 (by omega) (by omega)
    have hPc := hP.sub (ws' := []) [] rfl
    have hDc := hD.sub (ws' := []) [] (by decide) rfl
    have hKc := hK.sub (tys' := []) [] rfl
    have hFc := va_free (wc := []) hD hS hA [] rfl
    refine va_calli (va_runS (As := [.int z6]) (rest := []) ⟨hx, hb, hml, hown, hG⟩ (sX6_chunkOf_0 l dC dI adK adV s.heap.size z6) (va_cwS 1 hG (zgS zv802 zv803 zv133 zv804) rfl rfl rfl (by decide +kernel) ⟨Nat.le_of_ble_eq_true rfl, Nat.le_of_ble_eq_true rfl⟩) ⟨zPc_blind, zPc_pre hPc hKc hDc hE hS hFc hZ⟩ rfl rfl hl.1 rfl (lv_room (Nat.le_of_ble_eq_true rfl)) dX6_chunksFor_7 ⟨Nat.le_of_ble_eq_true rfl, Nat.le_of_ble_eq_true rfl⟩) hS (fun q _ h => hFc q h) hFc (fun r7_ u7_ t H1 locs ht hvm hw hB hz1 hk1 hS => ?_)
    replace hw : (0 ≤ r7_.toInt ∧ r7_.toInt ≤ 8388610) ∧ (0 ≤ z6.toInt → zCk z6.toInt r7_.toInt) := hw
    obtain ⟨b_, hX7_0⟩ := hw
    obtain ⟨w7_, a7_, b7_, hP1, hK1, hD1⟩ := hB
    rw [ht] at hP1
    obtain ⟨hP, hD⟩ := va_join (wr := []) (w1 := []) hP hD [] [] rfl rfl (by decide) (by decide) hk1 hFc hP1 hD1
    have hP : va_P (dC, dI) vwCl [] H1 := hP.sub [] rfl
    have hD : va_D A [] := hD.sub [] (by decide) rfl
    generalize H1 = H at hP hS ⊢
    clear hz1
    refine lv_iconst (v := 1) hx hb dX6_chunksFor_10 (by decide) ?_
    refine lv_iadd hx hb dX6_chunksFor_11 ?_
    refine lv_topi (fun z11 e_z11 => ?_)
    have b_ := zadd rfl zk_1 e_z11 (by omega) (by omega)
    refine lv_goto (tgt := 16) hx hb dX6_chunksFor_12 (by decide) ?_
    refine W.widen (k := 0) (n := 0) (by decide) (by decide) ?_
    have hpost : (0 ≤ z11.toInt ∧ z11.toInt ≤ 8388611) ∧ (0 ≤ x0.toInt → z11.toInt = (znc (x0.toInt).toNat : Int)) := ⟨(by first | with_reducible assumption | exact ⟨by omega, by omega⟩), by first | exact fun q => znc_y (hX7_0 (by omega)) (by omega) (by omega) (by omega) | exact fun q => znc_z (by omega) (by first | decide | omega)⟩
    have hP9 : va_P (dC, dI) vwCl [] H := hP
    have hD9 : va_D A [] := hD
    exact W.iret (v := z11) hx hb hr (fun t ht hW => ⟨⟨z11, (fun _ => 0), rfl, hpost, (fun _ => 0), (fun _ => (fun _ => 0)), (fun _ => (fun _ => 0)), by rw [ht]; exact hP9, va_K.moved hW.alike hK, hD9⟩, hS.F ht⟩) hS.2.2 dX6_chunksFor_16
set_option maxHeartbeats 8000000 in
set_option maxRecDepth 100000 in
theorem sX6_takenFor_0 (l : Launch) (dC : Nat → ClassId) (dI : Nat → Nat → Nat) (adK adV : Nat → Nat) (sz : Nat) (x0 : Int32) : Met l yX6_takenFor (zw yX6_takenFor cX6_takenFor 2 (some .int)) { frames := 2, cells := 0, slots := 0, locals := 40 } (zPc dC dI adK adV [.int x0] sz [] []) (va_Qi (fun (r : Int32) (u : Nat → Int32) => (zW (0 ≤ x0.toInt → x0.toInt ≤ 200000 → r.toInt = (zco (x0.toInt).toNat : Int)))) (fun (u : Nat → Int32) (t : State) => ∃ (ww : Nat → Int64) (aa : Nat → Nat → Int32) (bb : Nat → Nat → Int64), va_P (dC, dI) vwCl [] t.heap ∧ va_K (dC, dI) vwCl [] t ∧ va_D (va_A [] sz) []) (va_A [] sz)) 0 0 (va_A [] sz) := by
  refine Met.ofW (cc := cX6_takenFor) (maxL := 2) (ret := (some .int)) (by decide) rfl ?_
  intro p e s m args below meth c s₁ B hml hv
  obtain ⟨rfl, hsz, hP, hK, hD0, hE, hZ⟩ := hv
  have hx := B.exec
  have hb := B.bytes
  have hr := B.returns
  have hG : ∀ w ∈ zG, w.before _ s = true := fun w h => atoms_spec (ws := (zw yX6_takenFor cX6_takenFor 2 (some .int))) B.pre w (List.mem_cons_of_mem _ h)
  have hown : s.vm.findClass RX6 = some m.cls := findClass_of_methodNamed B.named
  have hlocks := B.notSynchronized

  subst hsz
  have hD := hD0.self (sz := s.heap.size)
  generalize hAe : va_A [] s.heap.size = A at hD hZ ⊢
  have hA : ∀ q : Nat, s.heap.size ≤ q → A q := fun q h => by rw [← hAe]; exact Or.inr h
  have hS : va_S A s.heap s.heap [] := va_S.rf
  have hl := lv_entry ([.int x0]) (n := 2) (Nat.le_of_ble_eq_true rfl)
  rw [lg_entry_eq]
  generalize (lg_sl ([.int x0]) ++ List.replicate (2 - (lg_sl ([.int x0])).length) Slot.unset).toArray = ls at hl ⊢
  have hl : lv_has ls 2 [(0, .int x0)] := hl
  refine lv_iload_n hx hb dX6_takenFor_0 rfl (lv_at hl 0 rfl) ?_
  have hPc := hP.sub (ws' := []) [] rfl
  have hDc := hD.sub (ws' := []) [] (by decide) rfl
  have hKc := hK.sub (tys' := []) [] rfl
  have hFc := va_free (wc := []) hD hS hA [] rfl
  refine va_calli (va_runS (As := [.int x0]) (rest := []) ⟨hx, hb, hml, hown, hG⟩ (sX6_chunksFor_0 l dC dI adK adV s.heap.size x0) (va_cwS 1 hG (zgS zv799 zv800 zv133 zv801) rfl rfl rfl (by decide +kernel) ⟨Nat.le_of_ble_eq_true rfl, Nat.le_of_ble_eq_true rfl⟩) ⟨zPc_blind, zPc_pre hPc hKc hDc hE hS hFc hZ⟩ rfl rfl hl.1 rfl (lv_room (Nat.le_of_ble_eq_true rfl)) dX6_takenFor_1 ⟨Nat.le_of_ble_eq_true rfl, Nat.le_of_ble_eq_true rfl⟩) hS (fun q _ h => hFc q h) hFc (fun r1_ u1_ t H1 locs ht hvm hw hB hz1 hk1 hS => ?_)
  replace hw : (0 ≤ r1_.toInt ∧ r1_.toInt ≤ 8388611) ∧ (0 ≤ x0.toInt → r1_.toInt = (znc (x0.toInt).toNat : Int)) := hw
  obtain ⟨b_, hX1_0⟩ := hw
  obtain ⟨w1_, a1_, b1_, hP1, hK1, hD1⟩ := hB
  rw [ht] at hP1
  obtain ⟨hP, hD⟩ := va_join (wr := []) (w1 := []) hP hD [] [] rfl rfl (by decide) (by decide) hk1 hFc hP1 hD1
  have hP : va_P (dC, dI) vwCl [] H1 := hP.sub [] rfl
  have hD : va_D A [] := hD.sub [] (by decide) rfl
  generalize H1 = H at hP hS ⊢
  clear hz1
  refine lv_istore_n (lv' := [(1, .int r1_), (0, .int x0)]) hx hb dX6_takenFor_4 rfl hl (by decide) rfl (fun ls hl => ?_)
  refine lv_iload_n hx hb dX6_takenFor_5 rfl (lv_at hl 0 rfl) ?_
  have hPc := hP.sub (ws' := []) [] rfl
  have hDc := hD.sub (ws' := []) [] (by decide) rfl
  have hKc := hK.sub (tys' := []) [] rfl
  have hFc := va_free (wc := []) hD hS hA [] rfl
  refine va_calli (va_runS (As := [.int r1_]) (rest := []) ⟨hx, hb, hml, hown, hG⟩ (sX6_roomOf_0 l dC dI adK adV H.size r1_) (va_cwS 1 hG (zgS zv805 zv806 zv133 zv807) rfl rfl rfl (by decide +kernel) ⟨Nat.le_of_ble_eq_true rfl, Nat.le_of_ble_eq_true rfl⟩) ⟨zPc_blind, zPc_pre hPc hKc hDc hE hS hFc hZ⟩ rfl rfl hl.1 rfl (lv_room (Nat.le_of_ble_eq_true rfl)) dX6_takenFor_6 ⟨Nat.le_of_ble_eq_true rfl, Nat.le_of_ble_eq_true rfl⟩) hS (fun q _ h => hFc q h) hFc (fun r6_ u6_ t H1 locs ht hvm hw hB hz1 hk1 hS => ?_)
  replace hw : (0 ≤ r1_.toInt → r1_.toInt ≤ 1000 → zRo r1_.toInt r6_.toInt) := hw
  have hX6_0 := hw
  obtain ⟨w6_, a6_, b6_, hP1, hK1, hD1⟩ := hB
  rw [ht] at hP1
  obtain ⟨hP, hD⟩ := va_join (wr := []) (w1 := []) hP hD [] [] rfl rfl (by decide) (by decide) hk1 hFc hP1 hD1
  have hP : va_P (dC, dI) vwCl [] H1 := hP.sub [] rfl
  have hD : va_D A [] := hD.sub [] (by decide) rfl
  generalize H1 = H at hP hS ⊢
  clear hz1
  refine lv_bipush (v := 16) hx hb dX6_takenFor_9 (by decide) ?_
  refine lv_iload_n hx hb dX6_takenFor_11 rfl (lv_at hl 0 rfl) ?_
  refine lv_imul hx hb dX6_takenFor_12 ?_
  refine lv_topi (fun z12 e_z12 => ?_)
  have b_ := zmul zk_16 rfl e_z12 (by omega) (by omega)
  have b_ : -2147483648 ≤ r6_.toInt ∧ r6_.toInt ≤ 2147483647 := ⟨zlo _, zhi _⟩
  refine lv_iadd hx hb dX6_takenFor_13 ?_
  refine lv_topi (fun z13 e_z13 => ?_)
  refine W.widen (k := 0) (n := 0) (by decide) (by decide) ?_
  have b_ : -2147483648 ≤ z13.toInt ∧ z13.toInt ≤ 2147483647 := ⟨zlo _, zhi _⟩
  have hpost : (zW (0 ≤ x0.toInt → x0.toInt ≤ 200000 → z13.toInt = (zco (x0.toInt).toNat : Int))) := by exact fun q1 q2 => zco_t (hX1_0 q1) q1 q2 hX6_0 e_z12 e_z13
  have hP9 : va_P (dC, dI) vwCl [] H := hP
  have hD9 : va_D A [] := hD
  exact W.iret (v := z13) hx hb hr (fun t ht hW => ⟨⟨z13, (fun _ => 0), rfl, hpost, (fun _ => 0), (fun _ => (fun _ => 0)), (fun _ => (fun _ => 0)), by rw [ht]; exact hP9, va_K.moved hW.alike hK, hD9⟩, hS.F ht⟩) hS.2.2 dX6_takenFor_14
set_option maxHeartbeats 8000000 in
set_option maxRecDepth 100000 in
theorem sX2_fits_0 (l : Launch) (dC : Nat → ClassId) (dI : Nat → Nat → Nat) (adK adV : Nat → Nat) (h24 : Nat) (h0 : Nat) (h20 : Nat) (h30 : Nat) (h32 : Nat) (h23 : Nat) (h21 : Nat) (h18 : Nat) (h19 : Nat) (h22 : Nat) (h25 : Nat) (h26 : Nat) (h27 : Nat) (h28 : Nat) (h29 : Nat) (h31 : Nat) (h1 : Nat) (h4 : Nat) (h11 : Nat) (k20 : ClassId) (k30 : ClassId) (k32 : ClassId) (k23 : ClassId) (k21 : ClassId) (k18 : ClassId) (k19 : ClassId) (k22 : ClassId) (k25 : ClassId) (k26 : ClassId) (k27 : ClassId) (k28 : ClassId) (k29 : ClassId) (sz : Nat) (v24 : Nat → Int32) (v0 : Nat → Int32) (f20 : Nat → Int32) (f30 : Nat → Int32) (f32 : Nat → Int32) (f23 : Nat → Int32) (f21 : Nat → Int32) (f18 : Nat → Int32) (f19 : Nat → Int32) (f22 : Nat → Int32) (f25 : Nat → Int32) (f26 : Nat → Int32) (f27 : Nat → Int32) (f28 : Nat → Int32) (f29 : Nat → Int32) (x2 : Int32) (hv24 : zR rg_Postings v24) (hv0 : zR rg_Intake v0) (hf20 : zA 0 399 f20) (hf21 : zA 0 299 f21) (hf19 : zA (-1) 299 f19) (hf22 : zA 0 299 f22) (hf26 : zA 0 1250 f26) (hf29 : zA 0 832 f29) (hp0_ : zChn f21 f19 f22 f23 (v0 9).toInt) : Met l yX2_fits (zw yX2_fits cX2_fits 7 (some .boolean)) { frames := 4, cells := 0, slots := 0, locals := 87 } (zPc dC dI adK adV [.ref h0, .ref h24, .int x2] sz [(h24, .inr (6, mX6 h25 h26 h27 h28 h29 h30 h31 h32 v24)), (h0, .inr (2, mX2 h1 h4 h11 h18 h19 h20 h21 h22 h23 v0)), (h20, zi k20 300 f20), (h30, zi k30 400 f30), (h32, zi k32 400 f32), (h23, zi k23 400 f23), (h21, zi k21 400 f21), (h18, zi k18 300 f18), (h19, zi k19 300 f19), (h22, zi k22 400 f22), (h25, zi k25 1250 f25), (h26, zi k26 833 f26), (h27, zi k27 833 f27), (h28, zi k28 400 f28), (h29, zi k29 400 f29)] [(k20, .int), (k30, .int), (k32, .int), (k23, .int), (k21, .int), (k18, .int), (k19, .int), (k22, .int), (k25, .int), (k26, .int), (k27, .int), (k28, .int), (k29, .int)]) (va_Qi (fun (r : Int32) (u : Nat → Int32) => (0 ≤ r.toInt ∧ r.toInt ≤ 1) ∧ (zFf f18 f19 f20 f21 f22 f23 (v0 9).toInt (v0 10).toInt f25 f26 f27 f28 f29 f30 (v24 8).toInt (v24 9).toInt (v24 10).toInt (v24 11).toInt f32 x2.toInt r.toInt)) (fun (u : Nat → Int32) (t : State) => ∃ (ww : Nat → Int64) (aa : Nat → Nat → Int32) (bb : Nat → Nat → Int64), va_P (dC, dI) vwCl [(h24, .inr (6, mX6 h25 h26 h27 h28 h29 h30 h31 h32 v24)), (h0, .inr (2, mX2 h1 h4 h11 h18 h19 h20 h21 h22 h23 v0)), (h20, zi k20 300 f20), (h30, zi k30 400 f30), (h32, zi k32 400 f32), (h23, zi k23 400 f23), (h21, zi k21 400 f21), (h18, zi k18 300 f18), (h19, zi k19 300 f19), (h22, zi k22 400 f22), (h25, zi k25 1250 f25), (h26, zi k26 833 f26), (h27, zi k27 833 f27), (h28, zi k28 400 f28), (h29, zi k29 400 f29)] t.heap ∧ va_K (dC, dI) vwCl [(k20, .int), (k30, .int), (k32, .int), (k23, .int), (k21, .int), (k18, .int), (k19, .int), (k22, .int), (k25, .int), (k26, .int), (k27, .int), (k28, .int), (k29, .int)] t ∧ va_D (va_A [(h24, .inr (6, mX6 h25 h26 h27 h28 h29 h30 h31 h32 v24)), (h0, .inr (2, mX2 h1 h4 h11 h18 h19 h20 h21 h22 h23 v0)), (h20, zi k20 300 f20), (h30, zi k30 400 f30), (h32, zi k32 400 f32), (h23, zi k23 400 f23), (h21, zi k21 400 f21), (h18, zi k18 300 f18), (h19, zi k19 300 f19), (h22, zi k22 400 f22), (h25, zi k25 1250 f25), (h26, zi k26 833 f26), (h27, zi k27 833 f27), (h28, zi k28 400 f28), (h29, zi k29 400 f29)] sz) [(h24, .inr (6, mX6 h25 h26 h27 h28 h29 h30 h31 h32 v24)), (h0, .inr (2, mX2 h1 h4 h11 h18 h19 h20 h21 h22 h23 v0)), (h20, zi k20 300 f20), (h30, zi k30 400 f30), (h32, zi k32 400 f32), (h23, zi k23 400 f23), (h21, zi k21 400 f21), (h18, zi k18 300 f18), (h19, zi k19 300 f19), (h22, zi k22 400 f22), (h25, zi k25 1250 f25), (h26, zi k26 833 f26), (h27, zi k27 833 f27), (h28, zi k28 400 f28), (h29, zi k29 400 f29)]) (va_A [(h24, .inr (6, mX6 h25 h26 h27 h28 h29 h30 h31 h32 v24)), (h0, .inr (2, mX2 h1 h4 h11 h18 h19 h20 h21 h22 h23 v0)), (h20, zi k20 300 f20), (h30, zi k30 400 f30), (h32, zi k32 400 f32), (h23, zi k23 400 f23), (h21, zi k21 400 f21), (h18, zi k18 300 f18), (h19, zi k19 300 f19), (h22, zi k22 400 f22), (h25, zi k25 1250 f25), (h26, zi k26 833 f26), (h27, zi k27 833 f27), (h28, zi k28 400 f28), (h29, zi k29 400 f29)] sz)) 0 0 (va_A [(h24, .inr (6, mX6 h25 h26 h27 h28 h29 h30 h31 h32 v24)), (h0, .inr (2, mX2 h1 h4 h11 h18 h19 h20 h21 h22 h23 v0)), (h20, zi k20 300 f20), (h30, zi k30 400 f30), (h32, zi k32 400 f32), (h23, zi k23 400 f23), (h21, zi k21 400 f21), (h18, zi k18 300 f18), (h19, zi k19 300 f19), (h22, zi k22 400 f22), (h25, zi k25 1250 f25), (h26, zi k26 833 f26), (h27, zi k27 833 f27), (h28, zi k28 400 f28), (h29, zi k29 400 f29)] sz) := by
  refine Met.ofW (cc := cX2_fits) (maxL := 7) (ret := (some .boolean)) (by decide) rfl ?_
  intro p e s m args below meth c s₁ B hml hv
  obtain ⟨rfl, hsz, hP, hK, hD0, hE, hZ⟩ := hv
  have hx := B.exec
  have hb := B.bytes
  have hr := B.returns
  have hG : ∀ w ∈ zG, w.before _ s = true := fun w h => atoms_spec (ws := (zw yX2_fits cX2_fits 7 (some .boolean))) B.pre w (List.mem_cons_of_mem _ h)
  have hown : s.vm.findClass RX2 = some m.cls := findClass_of_methodNamed B.named
  have hlocks := B.notSynchronized

  subst hsz
  have hD := hD0.self (sz := s.heap.size)
  generalize hAe : va_A [(h24, .inr (6, mX6 h25 h26 h27 h28 h29 h30 h31 h32 v24)), (h0, .inr (2, mX2 h1 h4 h11 h18 h19 h20 h21 h22 h23 v0)), (h20, zi k20 300 f20), (h30, zi k30 400 f30), (h32, zi k32 400 f32), (h23, zi k23 400 f23), (h21, zi k21 400 f21), (h18, zi k18 300 f18), (h19, zi k19 300 f19), (h22, zi k22 400 f22), (h25, zi k25 1250 f25), (h26, zi k26 833 f26), (h27, zi k27 833 f27), (h28, zi k28 400 f28), (h29, zi k29 400 f29)] s.heap.size = A at hD hZ ⊢
  have hA : ∀ q : Nat, s.heap.size ≤ q → A q := fun q h => by rw [← hAe]; exact Or.inr h
  have hS : va_S A s.heap s.heap [] := va_S.rf
  have hl := lv_entry ([.ref h0, .ref h24, .int x2]) (n := 7) (Nat.le_of_ble_eq_true rfl)
  rw [lg_entry_eq]
  generalize (lg_sl ([.ref h0, .ref h24, .int x2]) ++ List.replicate (7 - (lg_sl ([.ref h0, .ref h24, .int x2])).length) Slot.unset).toArray = ls at hl ⊢
  have hl : lv_has ls 7 [(0, .ref h0), (1, .ref h24), (2, .int x2)] := hl
  have b_ := zk_0
  have b_ := zk_1
  have b_ : 0 ≤ (v0 9).toInt ∧ (v0 9).toInt ≤ 300 := hv0 9
  have b_ : 0 ≤ (v0 10).toInt ∧ (v0 10).toInt ≤ 300 := hv0 10
  have b_ : 0 ≤ (v24 8).toInt ∧ (v24 8).toInt ≤ 833 := hv24 8
  have b_ : 0 ≤ (v24 9).toInt ∧ (v24 9).toInt ≤ 1250 := hv24 9
  have b_ : -2147483648 ≤ (v24 10).toInt ∧ (v24 10).toInt ≤ 2147483647 := ⟨zlo _, zhi _⟩
  have b_ : -2147483648 ≤ (v24 11).toInt ∧ (v24 11).toInt ≤ 2147483647 := ⟨zlo _, zhi _⟩
  refine lv_aload_n hx hb dX2_fits_0 rfl (lv_at hl 1 rfl) ?_
  have hPc := hP.sub (ws' := [(h24, .inr (6, mX6 h25 h26 h27 h28 h29 h30 h31 h32 v24))]) [0] rfl
  have hDc := hD.sub (ws' := [(h24, .inr (6, mX6 h25 h26 h27 h28 h29 h30 h31 h32 v24))]) [0] (by decide) rfl
  have hKc := hK.sub (tys' := []) [] rfl
  have hFc := va_free (wc := [(h24, .inr (6, mX6 h25 h26 h27 h28 h29 h30 h31 h32 v24))]) hD hS hA [0] rfl
  refine va_calli (va_runV (As := []) (rest := []) ⟨hx, hb, hml, hown, hG⟩ (sX6_taken_0 l dC dI adK adV h24 h25 h26 h27 h28 h29 h30 h31 h32 s.heap.size v24 hv24) (cwV 0 hG (zgV zv767 zv768 zv769 zv133 zv770) rfl rfl rfl (by decide +kernel) ⟨Nat.le_of_ble_eq_true rfl, Nat.le_of_ble_eq_true rfl⟩) ⟨zPc_blind, va_recv hKc hPc (ci := 6) (q0 := 0) rfl rfl, zPc_pre hPc hKc hDc hE hS hFc hZ⟩ rfl rfl hl.1 rfl (lv_room (Nat.le_of_ble_eq_true rfl)) dX2_fits_1 ⟨Nat.le_of_ble_eq_true rfl, Nat.le_of_ble_eq_true rfl⟩) hS (fun q _ h => hFc q h) hFc (fun r1_ u1_ t H1 locs ht hvm hw hB hz1 hk1 hS => ?_)
  replace hw : (r1_.toInt = (v24 11).toInt) := hw
  have hX1_0 := hw
  obtain ⟨w1_, a1_, b1_, hP1, hK1, hD1⟩ := hB
  rw [ht] at hP1
  obtain ⟨hP, hD⟩ := va_join (wr := [(h0, .inr (2, mX2 h1 h4 h11 h18 h19 h20 h21 h22 h23 v0)), (h20, zi k20 300 f20), (h30, zi k30 400 f30), (h32, zi k32 400 f32), (h23, zi k23 400 f23), (h21, zi k21 400 f21), (h18, zi k18 300 f18), (h19, zi k19 300 f19), (h22, zi k22 400 f22), (h25, zi k25 1250 f25), (h26, zi k26 833 f26), (h27, zi k27 833 f27), (h28, zi k28 400 f28), (h29, zi k29 400 f29)]) (w1 := [(h24, .inr (6, mX6 h25 h26 h27 h28 h29 h30 h31 h32 v24))]) hP hD [0] [1, 2, 3, 4, 5, 6, 7, 8, 9, 10, 11, 12, 13, 14] rfl rfl (by decide) (by decide) hk1 hFc hP1 hD1
  have hP : va_P (dC, dI) vwCl [(h24, .inr (6, mX6 h25 h26 h27 h28 h29 h30 h31 h32 v24)), (h0, .inr (2, mX2 h1 h4 h11 h18 h19 h20 h21 h22 h23 v0)), (h20, zi k20 300 f20), (h30, zi k30 400 f30), (h32, zi k32 400 f32), (h23, zi k23 400 f23), (h21, zi k21 400 f21), (h18, zi k18 300 f18), (h19, zi k19 300 f19), (h22, zi k22 400 f22), (h25, zi k25 1250 f25), (h26, zi k26 833 f26), (h27, zi k27 833 f27), (h28, zi k28 400 f28), (h29, zi k29 400 f29)] H1 := hP.sub [14, 0, 1, 2, 3, 4, 5, 6, 7, 8, 9, 10, 11, 12, 13] rfl
  have hD : va_D A [(h24, .inr (6, mX6 h25 h26 h27 h28 h29 h30 h31 h32 v24)), (h0, .inr (2, mX2 h1 h4 h11 h18 h19 h20 h21 h22 h23 v0)), (h20, zi k20 300 f20), (h30, zi k30 400 f30), (h32, zi k32 400 f32), (h23, zi k23 400 f23), (h21, zi k21 400 f21), (h18, zi k18 300 f18), (h19, zi k19 300 f19), (h22, zi k22 400 f22), (h25, zi k25 1250 f25), (h26, zi k26 833 f26), (h27, zi k27 833 f27), (h28, zi k28 400 f28), (h29, zi k29 400 f29)] := hD.sub [14, 0, 1, 2, 3, 4, 5, 6, 7, 8, 9, 10, 11, 12, 13] (by decide) rfl
  generalize H1 = H at hP hS ⊢
  clear hz1
  refine lv_istore_n (lv' := [(3, .int r1_), (0, .ref h0), (1, .ref h24), (2, .int x2)]) hx hb dX2_fits_4 rfl hl (by decide) rfl (fun ls hl => ?_)
  refine lv_iconst (v := 0) hx hb dX2_fits_5 (by decide) ?_
  refine lv_istore (lv' := [(4, .int 0), (3, .int r1_), (0, .ref h0), (1, .ref h24), (2, .int x2)]) hx hb dX2_fits_6 hl (by decide) rfl (fun ls hl => ?_)
  refine zcutL (fun u8_ => (300 - (u8_ 1).toInt).toNat) (fun H locs ls u8_ w8_ a8_ b8_ => va_P (dC, dI) vwCl [(h24, .inr (6, mX6 h25 h26 h27 h28 h29 h30 h31 h32 v24)), (h0, .inr (2, mX2 h1 h4 h11 h18 h19 h20 h21 h22 h23 v0)), (h20, zi k20 300 f20), (h30, zi k30 400 f30), (h32, zi k32 400 f32), (h23, zi k23 400 f23), (h21, zi k21 400 f21), (h18, zi k18 300 f18), (h19, zi k19 300 f19), (h22, zi k22 400 f22), (h25, zi k25 1250 f25), (h26, zi k26 833 f26), (h27, zi k27 833 f27), (h28, zi k28 400 f28), (h29, zi k29 400 f29)] H ∧ va_D A [(h24, .inr (6, mX6 h25 h26 h27 h28 h29 h30 h31 h32 v24)), (h0, .inr (2, mX2 h1 h4 h11 h18 h19 h20 h21 h22 h23 v0)), (h20, zi k20 300 f20), (h30, zi k30 400 f30), (h32, zi k32 400 f32), (h23, zi k23 400 f23), (h21, zi k21 400 f21), (h18, zi k18 300 f18), (h19, zi k19 300 f19), (h22, zi k22 400 f22), (h25, zi k25 1250 f25), (h26, zi k26 833 f26), (h27, zi k27 833 f27), (h28, zi k28 400 f28), (h29, zi k29 400 f29)] ∧ va_S A s.heap H locs ∧ lv_has ls 7 [(0, .ref h0), (1, .ref h24), (2, .int x2), (3, .int (u8_ 0)), (4, .int (u8_ 1))] ∧ (0 ≤ (u8_ 1).toInt ∧ (u8_ 1).toInt ≤ 300) ∧ (zFi f18 f19 f20 f21 f22 f23 (v0 9).toInt (v0 10).toInt f25 f26 f27 f28 f29 f30 (v24 8).toInt (v24 9).toInt (v24 10).toInt (v24 11).toInt f32 x2.toInt (u8_ 0).toInt (u8_ 1).toInt) ∧ ((u8_ 1).toInt ≤ (v0 10).toInt)) (fun ls u8_ w8_ => F0 m 8 ls []) 0 0 ?_ (fun hJ8 => ?_)
  · skip
    intro H locs ls u8_ w8_ a8_ b8_ hc hJ8
    obtain ⟨hP, hD, hS, hl, b_, hI8_0, b_⟩ := hc
    refine lv_iload hx hb dX2_fits_8 (lv_at hl 4 rfl) ?_
    refine lv_aload_n hx hb dX2_fits_10 rfl (lv_at hl 0 rfl) ?_
    refine va_get (D := (dC, dI)) (ci := 2) (v := .int (v0 10)) (C := RX2) (T := TX2) (N := 11) hx hb hG zuX2 hown hK hP 1 rfl rfl 10 (by decide) (hG _ zv335) (fun _ h9 => h9) rfl dX2_fits_11 ?_
    refine lv_icmp_ge (tgt := 79) hx hb dX2_fits_14 (by decide) (fun c_ => ?_) (fun c_ => ?_)
    · skip
      have b_ := zT_ge rfl rfl c_
      refine lv_iload_n hx hb dX2_fits_79 rfl (lv_at hl 3 rfl) ?_
      refine lv_ldc hx hb hown (hG _ zv808) dX2_fits_80 ?_
      have b_ : -2147483648 ≤ (u8_ 0).toInt ∧ (u8_ 0).toInt ≤ 2147483647 := ⟨zlo _, zhi _⟩
      refine lv_icmp_gt (tgt := 89) hx hb dX2_fits_82 (by decide) (fun c_ => ?_) (fun c_ => ?_)
      · skip
        have b_ := zT_gt rfl zk_40000 c_
        refine lv_iconst (v := 0) hx hb dX2_fits_89 (by decide) ?_
        refine W.widen (k := 0) (n := 0) (by decide) (by decide) ?_
        have hpost : (0 ≤ (0 : Int32).toInt ∧ (0 : Int32).toInt ≤ 1) ∧ (zFf f18 f19 f20 f21 f22 f23 (v0 9).toInt (v0 10).toInt f25 f26 f27 f28 f29 f30 (v24 8).toInt (v24 9).toInt (v24 10).toInt (v24 11).toInt f32 x2.toInt (0 : Int32).toInt) := ⟨(by first | with_reducible assumption | exact ⟨by omega, by omega⟩), by first | exact zFf_e hI8_0 (by omega) (Or.inl ⟨by omega, by decide⟩) | exact zFf_e hI8_0 (by omega) (Or.inr ⟨by omega, by decide⟩)⟩
        have hP9 : va_P (dC, dI) vwCl [(h24, .inr (6, mX6 h25 h26 h27 h28 h29 h30 h31 h32 v24)), (h0, .inr (2, mX2 h1 h4 h11 h18 h19 h20 h21 h22 h23 v0)), (h20, zi k20 300 f20), (h30, zi k30 400 f30), (h32, zi k32 400 f32), (h23, zi k23 400 f23), (h21, zi k21 400 f21), (h18, zi k18 300 f18), (h19, zi k19 300 f19), (h22, zi k22 400 f22), (h25, zi k25 1250 f25), (h26, zi k26 833 f26), (h27, zi k27 833 f27), (h28, zi k28 400 f28), (h29, zi k29 400 f29)] H := hP
        have hD9 : va_D A [(h24, .inr (6, mX6 h25 h26 h27 h28 h29 h30 h31 h32 v24)), (h0, .inr (2, mX2 h1 h4 h11 h18 h19 h20 h21 h22 h23 v0)), (h20, zi k20 300 f20), (h30, zi k30 400 f30), (h32, zi k32 400 f32), (h23, zi k23 400 f23), (h21, zi k21 400 f21), (h18, zi k18 300 f18), (h19, zi k19 300 f19), (h22, zi k22 400 f22), (h25, zi k25 1250 f25), (h26, zi k26 833 f26), (h27, zi k27 833 f27), (h28, zi k28 400 f28), (h29, zi k29 400 f29)] := hD
        exact W.zret (v := 0) hx hb hr rfl (fun t ht hW => ⟨⟨0, (fun _ => 0), rfl, hpost, (fun _ => 0), (fun _ => (fun _ => 0)), (fun _ => (fun _ => 0)), by rw [ht]; exact hP9, va_K.moved hW.alike hK, hD9⟩, hS.F ht⟩) hS.2.2 dX2_fits_90
      · skip
        have b_ := zF_gt rfl zk_40000 c_
        refine lv_iconst (v := 1) hx hb dX2_fits_85 (by decide) ?_
        refine lv_goto (tgt := 90) hx hb dX2_fits_86 (by decide) ?_
        refine W.widen (k := 0) (n := 0) (by decide) (by decide) ?_
        have hpost : (0 ≤ (1 : Int32).toInt ∧ (1 : Int32).toInt ≤ 1) ∧ (zFf f18 f19 f20 f21 f22 f23 (v0 9).toInt (v0 10).toInt f25 f26 f27 f28 f29 f30 (v24 8).toInt (v24 9).toInt (v24 10).toInt (v24 11).toInt f32 x2.toInt (1 : Int32).toInt) := ⟨(by first | with_reducible assumption | exact ⟨by omega, by omega⟩), by first | exact zFf_e hI8_0 (by omega) (Or.inl ⟨by omega, by decide⟩) | exact zFf_e hI8_0 (by omega) (Or.inr ⟨by omega, by decide⟩)⟩
        have hP9 : va_P (dC, dI) vwCl [(h24, .inr (6, mX6 h25 h26 h27 h28 h29 h30 h31 h32 v24)), (h0, .inr (2, mX2 h1 h4 h11 h18 h19 h20 h21 h22 h23 v0)), (h20, zi k20 300 f20), (h30, zi k30 400 f30), (h32, zi k32 400 f32), (h23, zi k23 400 f23), (h21, zi k21 400 f21), (h18, zi k18 300 f18), (h19, zi k19 300 f19), (h22, zi k22 400 f22), (h25, zi k25 1250 f25), (h26, zi k26 833 f26), (h27, zi k27 833 f27), (h28, zi k28 400 f28), (h29, zi k29 400 f29)] H := hP
        have hD9 : va_D A [(h24, .inr (6, mX6 h25 h26 h27 h28 h29 h30 h31 h32 v24)), (h0, .inr (2, mX2 h1 h4 h11 h18 h19 h20 h21 h22 h23 v0)), (h20, zi k20 300 f20), (h30, zi k30 400 f30), (h32, zi k32 400 f32), (h23, zi k23 400 f23), (h21, zi k21 400 f21), (h18, zi k18 300 f18), (h19, zi k19 300 f19), (h22, zi k22 400 f22), (h25, zi k25 1250 f25), (h26, zi k26 833 f26), (h27, zi k27 833 f27), (h28, zi k28 400 f28), (h29, zi k29 400 f29)] := hD
        exact W.zret (v := 1) hx hb hr rfl (fun t ht hW => ⟨⟨1, (fun _ => 0), rfl, hpost, (fun _ => 0), (fun _ => (fun _ => 0)), (fun _ => (fun _ => 0)), by rw [ht]; exact hP9, va_K.moved hW.alike hK, hD9⟩, hS.F ht⟩) hS.2.2 dX2_fits_90
    · skip
      have b_ := zF_ge rfl rfl c_
      refine lv_aload_n hx hb dX2_fits_17 rfl (lv_at hl 1 rfl) ?_
      refine lv_aload_n hx hb dX2_fits_18 rfl (lv_at hl 0 rfl) ?_
      refine va_get (D := (dC, dI)) (ci := 2) (v := .ref h20) (C := RX2) (T := TX2) (N := 11) hx hb hG zuX2 hown hK hP 1 rfl rfl 5 (by decide) (hG _ zv330) (fun _ h9 => h9) rfl dX2_fits_19 ?_
      refine lv_iload hx hb dX2_fits_22 (lv_at hl 4 rfl) ?_
      refine va_iald hx hb hK hP 2 0 rfl rfl (zin_lit ⟨by omega, by omega⟩) dX2_fits_24 ?_
      refine lv_topi (fun z24 e_z24 => ?_)
      have b_ : 0 ≤ z24.toInt ∧ z24.toInt ≤ 399 := by rw [e_z24]; exact hf20 _
      have hPc := hP.sub (ws' := [(h24, .inr (6, mX6 h25 h26 h27 h28 h29 h30 h31 h32 v24)), (h30, zi k30 400 f30)]) [0, 3] rfl
      have hDc := hD.sub (ws' := [(h24, .inr (6, mX6 h25 h26 h27 h28 h29 h30 h31 h32 v24)), (h30, zi k30 400 f30)]) [0, 3] (by decide) rfl
      have hKc := hK.sub (tys' := [(k30, .int)]) [1] rfl
      have hFc := va_free (wc := [(h24, .inr (6, mX6 h25 h26 h27 h28 h29 h30 h31 h32 v24)), (h30, zi k30 400 f30)]) hD hS hA [0, 3] rfl
      refine va_calli (va_runV (As := [.int z24]) (rest := []) ⟨hx, hb, hml, hown, hG⟩ (sX6_bitsOf_0 l dC dI adK adV h24 h30 h25 h26 h27 h28 h29 h31 h32 k30 H.size v24 f30 z24 hv24) (cwV 1 hG (zgV zv771 zv772 zv773 zv133 zv774) rfl rfl rfl (by decide +kernel) ⟨Nat.le_of_ble_eq_true rfl, Nat.le_of_ble_eq_true rfl⟩) ⟨zPc_blind, va_recv hKc hPc (ci := 6) (q0 := 0) rfl rfl, zPc_pre hPc hKc hDc hE hS hFc hZ⟩ rfl rfl hl.1 rfl (lv_room (Nat.le_of_ble_eq_true rfl)) dX2_fits_25 ⟨Nat.le_of_ble_eq_true rfl, Nat.le_of_ble_eq_true rfl⟩) hS (fun q _ h => hFc q h) hFc (fun r25_ u25_ t H1 locs ht hvm hw hB hz1 hk1 hS => ?_)
      replace hw : (zW (0 ≤ z24.toInt → z24.toInt ≤ 399 → r25_.toInt = (f30 ((z24 : Int32)).toNatClampNeg).toInt)) ∧ ((z24.toInt < 0 ∨ 399 < z24.toInt) → r25_.toInt = 0) := hw
      obtain ⟨hX25_0, hX25_1⟩ := hw
      obtain ⟨w25_, a25_, b25_, hP1, hK1, hD1⟩ := hB
      rw [ht] at hP1
      obtain ⟨hP, hD⟩ := va_join (wr := [(h0, .inr (2, mX2 h1 h4 h11 h18 h19 h20 h21 h22 h23 v0)), (h20, zi k20 300 f20), (h32, zi k32 400 f32), (h23, zi k23 400 f23), (h21, zi k21 400 f21), (h18, zi k18 300 f18), (h19, zi k19 300 f19), (h22, zi k22 400 f22), (h25, zi k25 1250 f25), (h26, zi k26 833 f26), (h27, zi k27 833 f27), (h28, zi k28 400 f28), (h29, zi k29 400 f29)]) (w1 := [(h24, .inr (6, mX6 h25 h26 h27 h28 h29 h30 h31 h32 v24)), (h30, zi k30 400 f30)]) hP hD [0, 3] [1, 2, 4, 5, 6, 7, 8, 9, 10, 11, 12, 13, 14] rfl rfl (by decide) (by decide) hk1 hFc hP1 hD1
      have hP : va_P (dC, dI) vwCl [(h24, .inr (6, mX6 h25 h26 h27 h28 h29 h30 h31 h32 v24)), (h0, .inr (2, mX2 h1 h4 h11 h18 h19 h20 h21 h22 h23 v0)), (h20, zi k20 300 f20), (h30, zi k30 400 f30), (h32, zi k32 400 f32), (h23, zi k23 400 f23), (h21, zi k21 400 f21), (h18, zi k18 300 f18), (h19, zi k19 300 f19), (h22, zi k22 400 f22), (h25, zi k25 1250 f25), (h26, zi k26 833 f26), (h27, zi k27 833 f27), (h28, zi k28 400 f28), (h29, zi k29 400 f29)] H1 := hP.sub [13, 0, 1, 14, 2, 3, 4, 5, 6, 7, 8, 9, 10, 11, 12] rfl
      have hD : va_D A [(h24, .inr (6, mX6 h25 h26 h27 h28 h29 h30 h31 h32 v24)), (h0, .inr (2, mX2 h1 h4 h11 h18 h19 h20 h21 h22 h23 v0)), (h20, zi k20 300 f20), (h30, zi k30 400 f30), (h32, zi k32 400 f32), (h23, zi k23 400 f23), (h21, zi k21 400 f21), (h18, zi k18 300 f18), (h19, zi k19 300 f19), (h22, zi k22 400 f22), (h25, zi k25 1250 f25), (h26, zi k26 833 f26), (h27, zi k27 833 f27), (h28, zi k28 400 f28), (h29, zi k29 400 f29)] := hD.sub [13, 0, 1, 14, 2, 3, 4, 5, 6, 7, 8, 9, 10, 11, 12] (by decide) rfl
      generalize H1 = H at hP hS ⊢
      clear hz1
      refine lv_istore (lv' := [(5, .int r25_), (0, .ref h0), (1, .ref h24), (2, .int x2), (3, .int (u8_ 0)), (4, .int (u8_ 1))]) hx hb dX2_fits_28 hl (by decide) rfl (fun ls hl => ?_)
      refine lv_iload hx hb dX2_fits_30 (lv_at hl 0 rfl) ?_
      refine lv_aload_n hx hb dX2_fits_32 rfl (lv_at hl 1 rfl) ?_
      refine lv_aload_n hx hb dX2_fits_33 rfl (lv_at hl 1 rfl) ?_
      refine va_get (D := (dC, dI)) (ci := 2) (v := .ref h20) (C := RX2) (T := TX2) (N := 11) hx hb hG zuX2 hown hK hP 1 rfl rfl 5 (by decide) (hG _ zv330) (fun _ h9 => h9) rfl dX2_fits_34 ?_
      refine lv_iload hx hb dX2_fits_37 (lv_at hl 5 rfl) ?_
      refine va_iald hx hb hK hP 2 0 rfl rfl (zin_lit ⟨by omega, by omega⟩) dX2_fits_39 ?_
      refine lv_topi (fun z39 e_z39 => ?_)
      have b_ : 0 ≤ z39.toInt ∧ z39.toInt ≤ 399 := by rw [e_z39]; exact hf20 _
      refine lv_iload_n hx hb dX2_fits_40 rfl (lv_at hl 3 rfl) ?_
      refine lv_aload_n hx hb dX2_fits_41 rfl (lv_at hl 2 rfl) ?_
      refine lv_aload_n hx hb dX2_fits_42 rfl (lv_at hl 1 rfl) ?_
      refine va_get (D := (dC, dI)) (ci := 2) (v := .ref h20) (C := RX2) (T := TX2) (N := 11) hx hb hG zuX2 hown hK hP 1 rfl rfl 5 (by decide) (hG _ zv330) (fun _ h9 => h9) rfl dX2_fits_43 ?_
      refine lv_iload hx hb dX2_fits_46 (lv_at hl 5 rfl) ?_
      refine va_iald hx hb hK hP 2 0 rfl rfl (zin_lit ⟨by omega, by omega⟩) dX2_fits_48 ?_
      refine lv_topi (fun z48 e_z48 => ?_)
      have b_ : 0 ≤ z48.toInt ∧ z48.toInt ≤ 399 := by rw [e_z48]; exact hf20 _
      have hPc := hP.sub (ws' := [(h24, .inr (6, mX6 h25 h26 h27 h28 h29 h30 h31 h32 v24)), (h32, zi k32 400 f32)]) [0, 4] rfl
      have hDc := hD.sub (ws' := [(h24, .inr (6, mX6 h25 h26 h27 h28 h29 h30 h31 h32 v24)), (h32, zi k32 400 f32)]) [0, 4] (by decide) rfl
      have hKc := hK.sub (tys' := [(k32, .int)]) [2] rfl
      have hFc := va_free (wc := [(h24, .inr (6, mX6 h25 h26 h27 h28 h29 h30 h31 h32 v24)), (h32, zi k32 400 f32)]) hD hS hA [0, 4] rfl
      refine va_calli (va_runV (As := [.int z48]) (rest := [.int x2, .int z39, .ref h0, .int r25_]) ⟨hx, hb, hml, hown, hG⟩ (sX6_latestOf_0 l dC dI adK adV h24 h32 h25 h26 h27 h28 h29 h30 h31 k32 H.size v24 f32 z48 hv24) (cwV 1 hG (zgV zv778 zv779 zv780 zv133 zv781) rfl rfl rfl (by decide +kernel) ⟨Nat.le_of_ble_eq_true rfl, Nat.le_of_ble_eq_true rfl⟩) ⟨zPc_blind, va_recv hKc hPc (ci := 6) (q0 := 0) rfl rfl, zPc_pre hPc hKc hDc hE hS hFc hZ⟩ rfl rfl hl.1 rfl (lv_room (Nat.le_of_ble_eq_true rfl)) dX2_fits_49 ⟨Nat.le_of_ble_eq_true rfl, Nat.le_of_ble_eq_true rfl⟩) hS (fun q _ h => hFc q h) hFc (fun r49_ u49_ t H1 locs ht hvm hw hB hz1 hk1 hS => ?_)
      replace hw : (zW (0 ≤ z48.toInt → z48.toInt ≤ 399 → 0 ≤ (f32 ((z48 : Int32)).toNatClampNeg).toInt → r49_.toInt = (f32 ((z48 : Int32)).toNatClampNeg).toInt - 1)) := hw
      have hX49_0 := hw
      obtain ⟨w49_, a49_, b49_, hP1, hK1, hD1⟩ := hB
      rw [ht] at hP1
      obtain ⟨hP, hD⟩ := va_join (wr := [(h0, .inr (2, mX2 h1 h4 h11 h18 h19 h20 h21 h22 h23 v0)), (h20, zi k20 300 f20), (h30, zi k30 400 f30), (h23, zi k23 400 f23), (h21, zi k21 400 f21), (h18, zi k18 300 f18), (h19, zi k19 300 f19), (h22, zi k22 400 f22), (h25, zi k25 1250 f25), (h26, zi k26 833 f26), (h27, zi k27 833 f27), (h28, zi k28 400 f28), (h29, zi k29 400 f29)]) (w1 := [(h24, .inr (6, mX6 h25 h26 h27 h28 h29 h30 h31 h32 v24)), (h32, zi k32 400 f32)]) hP hD [0, 4] [1, 2, 3, 5, 6, 7, 8, 9, 10, 11, 12, 13, 14] rfl rfl (by decide) (by decide) hk1 hFc hP1 hD1
      have hP : va_P (dC, dI) vwCl [(h24, .inr (6, mX6 h25 h26 h27 h28 h29 h30 h31 h32 v24)), (h0, .inr (2, mX2 h1 h4 h11 h18 h19 h20 h21 h22 h23 v0)), (h20, zi k20 300 f20), (h30, zi k30 400 f30), (h32, zi k32 400 f32), (h23, zi k23 400 f23), (h21, zi k21 400 f21), (h18, zi k18 300 f18), (h19, zi k19 300 f19), (h22, zi k22 400 f22), (h25, zi k25 1250 f25), (h26, zi k26 833 f26), (h27, zi k27 833 f27), (h28, zi k28 400 f28), (h29, zi k29 400 f29)] H1 := hP.sub [13, 0, 1, 2, 14, 3, 4, 5, 6, 7, 8, 9, 10, 11, 12] rfl
      have hD : va_D A [(h24, .inr (6, mX6 h25 h26 h27 h28 h29 h30 h31 h32 v24)), (h0, .inr (2, mX2 h1 h4 h11 h18 h19 h20 h21 h22 h23 v0)), (h20, zi k20 300 f20), (h30, zi k30 400 f30), (h32, zi k32 400 f32), (h23, zi k23 400 f23), (h21, zi k21 400 f21), (h18, zi k18 300 f18), (h19, zi k19 300 f19), (h22, zi k22 400 f22), (h25, zi k25 1250 f25), (h26, zi k26 833 f26), (h27, zi k27 833 f27), (h28, zi k28 400 f28), (h29, zi k29 400 f29)] := hD.sub [13, 0, 1, 2, 14, 3, 4, 5, 6, 7, 8, 9, 10, 11, 12] (by decide) rfl
      generalize H1 = H at hP hS ⊢
      clear hz1
      have b_ : -2147483648 ≤ x2.toInt ∧ x2.toInt ≤ 2147483647 := ⟨zlo _, zhi _⟩
      have b_ : -2147483648 ≤ r49_.toInt ∧ r49_.toInt ≤ 2147483647 := ⟨zlo _, zhi _⟩
      refine lv_isub hx hb dX2_fits_52 ?_
      refine lv_topi (fun z52 e_z52 => ?_)
      have hPc := hP.sub (ws' := [(h0, .inr (2, mX2 h1 h4 h11 h18 h19 h20 h21 h22 h23 v0)), (h23, zi k23 400 f23), (h21, zi k21 400 f21), (h18, zi k18 300 f18), (h19, zi k19 300 f19), (h22, zi k22 400 f22), (h20, zi k20 300 f20)]) [1, 5, 6, 7, 8, 9, 2] rfl
      have hDc := hD.sub (ws' := [(h0, .inr (2, mX2 h1 h4 h11 h18 h19 h20 h21 h22 h23 v0)), (h23, zi k23 400 f23), (h21, zi k21 400 f21), (h18, zi k18 300 f18), (h19, zi k19 300 f19), (h22, zi k22 400 f22), (h20, zi k20 300 f20)]) [1, 5, 6, 7, 8, 9, 2] (by decide) rfl
      have hKc := hK.sub (tys' := [(k23, .int), (k21, .int), (k18, .int), (k19, .int), (k22, .int), (k20, .int)]) [3, 4, 5, 6, 7, 0] rfl
      have hFc := va_free (wc := [(h0, .inr (2, mX2 h1 h4 h11 h18 h19 h20 h21 h22 h23 v0)), (h23, zi k23 400 f23), (h21, zi k21 400 f21), (h18, zi k18 300 f18), (h19, zi k19 300 f19), (h22, zi k22 400 f22), (h20, zi k20 300 f20)]) hD hS hA [1, 5, 6, 7, 8, 9, 2] rfl
      refine va_calli (va_runV (As := [.int z39, .int z52]) (rest := [.int r25_]) ⟨hx, hb, hml, hown, hG⟩ (sX2_bitsFor_0 l dC dI adK adV h0 h23 h21 h18 h19 h22 h20 h1 h4 h11 k23 k21 k18 k19 k22 k20 H.size v0 f23 f21 f18 f19 f22 f20 z39 z52 hv0 hf21 hf19 hf22 hf20 (show (0 : Int) ≤ (z39 : Int32).toInt ∧ (z39 : Int32).toInt ≤ (399 : Int) from (by first | with_reducible assumption | exact ⟨by omega, by omega⟩)) (show zChn f21 f19 f22 f23 (v0 9).toInt from by first | with_reducible assumption | assumption)) (cwV 2 hG (zgV zv782 zv784 zv6 zv135 zv785) rfl rfl rfl (by decide +kernel) ⟨Nat.le_of_ble_eq_true rfl, Nat.le_of_ble_eq_true rfl⟩) ⟨zPc_blind, va_recv hKc hPc (ci := 2) (q0 := 0) rfl rfl, zPc_pre hPc hKc hDc hE hS hFc hZ⟩ rfl rfl hl.1 rfl (lv_room (Nat.le_of_ble_eq_true rfl)) dX2_fits_53 ⟨Nat.le_of_ble_eq_true rfl, Nat.le_of_ble_eq_true rfl⟩) hS (fun q _ h => hFc q h) hFc (fun r53_ u53_ t H1 locs ht hvm hw hB hz1 hk1 hS => ?_)
      replace hw : (zBf f18 f19 f20 f21 f22 f23 (v0 9).toInt (v0 10).toInt ((z39 : Int32)).toNatClampNeg z52.toInt r53_.toInt) := hw
      have hX53_0 := hw
      obtain ⟨w53_, a53_, b53_, hP1, hK1, hD1⟩ := hB
      rw [ht] at hP1
      obtain ⟨hP, hD⟩ := va_join (wr := [(h24, .inr (6, mX6 h25 h26 h27 h28 h29 h30 h31 h32 v24)), (h30, zi k30 400 f30), (h32, zi k32 400 f32), (h25, zi k25 1250 f25), (h26, zi k26 833 f26), (h27, zi k27 833 f27), (h28, zi k28 400 f28), (h29, zi k29 400 f29)]) (w1 := [(h0, .inr (2, mX2 h1 h4 h11 h18 h19 h20 h21 h22 h23 v0)), (h23, zi k23 400 f23), (h21, zi k21 400 f21), (h18, zi k18 300 f18), (h19, zi k19 300 f19), (h22, zi k22 400 f22), (h20, zi k20 300 f20)]) hP hD [1, 5, 6, 7, 8, 9, 2] [0, 3, 4, 10, 11, 12, 13, 14] rfl rfl (by decide) (by decide) hk1 hFc hP1 hD1
      have hP : va_P (dC, dI) vwCl [(h24, .inr (6, mX6 h25 h26 h27 h28 h29 h30 h31 h32 v24)), (h0, .inr (2, mX2 h1 h4 h11 h18 h19 h20 h21 h22 h23 v0)), (h20, zi k20 300 f20), (h30, zi k30 400 f30), (h32, zi k32 400 f32), (h23, zi k23 400 f23), (h21, zi k21 400 f21), (h18, zi k18 300 f18), (h19, zi k19 300 f19), (h22, zi k22 400 f22), (h25, zi k25 1250 f25), (h26, zi k26 833 f26), (h27, zi k27 833 f27), (h28, zi k28 400 f28), (h29, zi k29 400 f29)] H1 := hP.sub [0, 8, 14, 1, 2, 9, 10, 11, 12, 13, 3, 4, 5, 6, 7] rfl
      have hD : va_D A [(h24, .inr (6, mX6 h25 h26 h27 h28 h29 h30 h31 h32 v24)), (h0, .inr (2, mX2 h1 h4 h11 h18 h19 h20 h21 h22 h23 v0)), (h20, zi k20 300 f20), (h30, zi k30 400 f30), (h32, zi k32 400 f32), (h23, zi k23 400 f23), (h21, zi k21 400 f21), (h18, zi k18 300 f18), (h19, zi k19 300 f19), (h22, zi k22 400 f22), (h25, zi k25 1250 f25), (h26, zi k26 833 f26), (h27, zi k27 833 f27), (h28, zi k28 400 f28), (h29, zi k29 400 f29)] := hD.sub [0, 8, 14, 1, 2, 9, 10, 11, 12, 13, 3, 4, 5, 6, 7] (by decide) rfl
      generalize H1 = H at hP hS ⊢
      clear hz1
      have b_ : -2147483648 ≤ r25_.toInt ∧ r25_.toInt ≤ 2147483647 := ⟨zlo _, zhi _⟩
      have b_ : -2147483648 ≤ r53_.toInt ∧ r53_.toInt ≤ 2147483647 := ⟨zlo _, zhi _⟩
      refine lv_iadd hx hb dX2_fits_56 ?_
      refine lv_topi (fun z56 e_z56 => ?_)
      refine lv_istore (lv' := [(6, .int z56), (5, .int r25_), (0, .ref h0), (1, .ref h24), (2, .int x2), (3, .int (u8_ 0)), (4, .int (u8_ 1))]) hx hb dX2_fits_57 hl (by decide) rfl (fun ls hl => ?_)
      refine lv_iload_n hx hb dX2_fits_59 rfl (lv_at hl 5 rfl) ?_
      refine lv_iload hx hb dX2_fits_60 (lv_at hl 0 rfl) ?_
      have hPc := hP.sub (ws' := []) [] rfl
      have hDc := hD.sub (ws' := []) [] (by decide) rfl
      have hKc := hK.sub (tys' := []) [] rfl
      have hFc := va_free (wc := []) hD hS hA [] rfl
      refine va_calli (va_runS (As := [.int z56]) (rest := [.int (u8_ 0)]) ⟨hx, hb, hml, hown, hG⟩ (sX6_takenFor_0 l dC dI adK adV H.size z56) (va_cwS 1 hG (zgS zv796 zv797 zv133 zv798) rfl rfl rfl (by decide +kernel) ⟨Nat.le_of_ble_eq_true rfl, Nat.le_of_ble_eq_true rfl⟩) ⟨zPc_blind, zPc_pre hPc hKc hDc hE hS hFc hZ⟩ rfl rfl hl.1 rfl (lv_room (Nat.le_of_ble_eq_true rfl)) dX2_fits_62 ⟨Nat.le_of_ble_eq_true rfl, Nat.le_of_ble_eq_true rfl⟩) hS (fun q _ h => hFc q h) hFc (fun r62_ u62_ t H1 locs ht hvm hw hB hz1 hk1 hS => ?_)
      replace hw : (zW (0 ≤ z56.toInt → z56.toInt ≤ 200000 → r62_.toInt = (zco (z56.toInt).toNat : Int))) := hw
      have hX62_0 := hw
      obtain ⟨w62_, a62_, b62_, hP1, hK1, hD1⟩ := hB
      rw [ht] at hP1
      obtain ⟨hP, hD⟩ := va_join (wr := [(h24, .inr (6, mX6 h25 h26 h27 h28 h29 h30 h31 h32 v24)), (h0, .inr (2, mX2 h1 h4 h11 h18 h19 h20 h21 h22 h23 v0)), (h20, zi k20 300 f20), (h30, zi k30 400 f30), (h32, zi k32 400 f32), (h23, zi k23 400 f23), (h21, zi k21 400 f21), (h18, zi k18 300 f18), (h19, zi k19 300 f19), (h22, zi k22 400 f22), (h25, zi k25 1250 f25), (h26, zi k26 833 f26), (h27, zi k27 833 f27), (h28, zi k28 400 f28), (h29, zi k29 400 f29)]) (w1 := []) hP hD [] [0, 1, 2, 3, 4, 5, 6, 7, 8, 9, 10, 11, 12, 13, 14] rfl rfl (by decide) (by decide) hk1 hFc hP1 hD1
      have hP : va_P (dC, dI) vwCl [(h24, .inr (6, mX6 h25 h26 h27 h28 h29 h30 h31 h32 v24)), (h0, .inr (2, mX2 h1 h4 h11 h18 h19 h20 h21 h22 h23 v0)), (h20, zi k20 300 f20), (h30, zi k30 400 f30), (h32, zi k32 400 f32), (h23, zi k23 400 f23), (h21, zi k21 400 f21), (h18, zi k18 300 f18), (h19, zi k19 300 f19), (h22, zi k22 400 f22), (h25, zi k25 1250 f25), (h26, zi k26 833 f26), (h27, zi k27 833 f27), (h28, zi k28 400 f28), (h29, zi k29 400 f29)] H1 := hP.sub [0, 1, 2, 3, 4, 5, 6, 7, 8, 9, 10, 11, 12, 13, 14] rfl
      have hD : va_D A [(h24, .inr (6, mX6 h25 h26 h27 h28 h29 h30 h31 h32 v24)), (h0, .inr (2, mX2 h1 h4 h11 h18 h19 h20 h21 h22 h23 v0)), (h20, zi k20 300 f20), (h30, zi k30 400 f30), (h32, zi k32 400 f32), (h23, zi k23 400 f23), (h21, zi k21 400 f21), (h18, zi k18 300 f18), (h19, zi k19 300 f19), (h22, zi k22 400 f22), (h25, zi k25 1250 f25), (h26, zi k26 833 f26), (h27, zi k27 833 f27), (h28, zi k28 400 f28), (h29, zi k29 400 f29)] := hD.sub [0, 1, 2, 3, 4, 5, 6, 7, 8, 9, 10, 11, 12, 13, 14] (by decide) rfl
      generalize H1 = H at hP hS ⊢
      clear hz1
      refine lv_iload hx hb dX2_fits_65 (lv_at hl 1 rfl) ?_
      have hPc := hP.sub (ws' := []) [] rfl
      have hDc := hD.sub (ws' := []) [] (by decide) rfl
      have hKc := hK.sub (tys' := []) [] rfl
      have hFc := va_free (wc := []) hD hS hA [] rfl
      refine va_calli (va_runS (As := [.int r25_]) (rest := [.int r62_, .int (u8_ 0)]) ⟨hx, hb, hml, hown, hG⟩ (sX6_takenFor_0 l dC dI adK adV H.size r25_) (va_cwS 1 hG (zgS zv796 zv797 zv133 zv798) rfl rfl rfl (by decide +kernel) ⟨Nat.le_of_ble_eq_true rfl, Nat.le_of_ble_eq_true rfl⟩) ⟨zPc_blind, zPc_pre hPc hKc hDc hE hS hFc hZ⟩ rfl rfl hl.1 rfl (lv_room (Nat.le_of_ble_eq_true rfl)) dX2_fits_67 ⟨Nat.le_of_ble_eq_true rfl, Nat.le_of_ble_eq_true rfl⟩) hS (fun q _ h => hFc q h) hFc (fun r67_ u67_ t H1 locs ht hvm hw hB hz1 hk1 hS => ?_)
      replace hw : (zW (0 ≤ r25_.toInt → r25_.toInt ≤ 200000 → r67_.toInt = (zco (r25_.toInt).toNat : Int))) := hw
      have hX67_0 := hw
      obtain ⟨w67_, a67_, b67_, hP1, hK1, hD1⟩ := hB
      rw [ht] at hP1
      obtain ⟨hP, hD⟩ := va_join (wr := [(h24, .inr (6, mX6 h25 h26 h27 h28 h29 h30 h31 h32 v24)), (h0, .inr (2, mX2 h1 h4 h11 h18 h19 h20 h21 h22 h23 v0)), (h20, zi k20 300 f20), (h30, zi k30 400 f30), (h32, zi k32 400 f32), (h23, zi k23 400 f23), (h21, zi k21 400 f21), (h18, zi k18 300 f18), (h19, zi k19 300 f19), (h22, zi k22 400 f22), (h25, zi k25 1250 f25), (h26, zi k26 833 f26), (h27, zi k27 833 f27), (h28, zi k28 400 f28), (h29, zi k29 400 f29)]) (w1 := []) hP hD [] [0, 1, 2, 3, 4, 5, 6, 7, 8, 9, 10, 11, 12, 13, 14] rfl rfl (by decide) (by decide) hk1 hFc hP1 hD1
      have hP : va_P (dC, dI) vwCl [(h24, .inr (6, mX6 h25 h26 h27 h28 h29 h30 h31 h32 v24)), (h0, .inr (2, mX2 h1 h4 h11 h18 h19 h20 h21 h22 h23 v0)), (h20, zi k20 300 f20), (h30, zi k30 400 f30), (h32, zi k32 400 f32), (h23, zi k23 400 f23), (h21, zi k21 400 f21), (h18, zi k18 300 f18), (h19, zi k19 300 f19), (h22, zi k22 400 f22), (h25, zi k25 1250 f25), (h26, zi k26 833 f26), (h27, zi k27 833 f27), (h28, zi k28 400 f28), (h29, zi k29 400 f29)] H1 := hP.sub [0, 1, 2, 3, 4, 5, 6, 7, 8, 9, 10, 11, 12, 13, 14] rfl
      have hD : va_D A [(h24, .inr (6, mX6 h25 h26 h27 h28 h29 h30 h31 h32 v24)), (h0, .inr (2, mX2 h1 h4 h11 h18 h19 h20 h21 h22 h23 v0)), (h20, zi k20 300 f20), (h30, zi k30 400 f30), (h32, zi k32 400 f32), (h23, zi k23 400 f23), (h21, zi k21 400 f21), (h18, zi k18 300 f18), (h19, zi k19 300 f19), (h22, zi k22 400 f22), (h25, zi k25 1250 f25), (h26, zi k26 833 f26), (h27, zi k27 833 f27), (h28, zi k28 400 f28), (h29, zi k29 400 f29)] := hD.sub [0, 1, 2, 3, 4, 5, 6, 7, 8, 9, 10, 11, 12, 13, 14] (by decide) rfl
      generalize H1 = H at hP hS ⊢
      clear hz1
      have b_ : -2147483648 ≤ r62_.toInt ∧ r62_.toInt ≤ 2147483647 := ⟨zlo _, zhi _⟩
      have b_ : -2147483648 ≤ r67_.toInt ∧ r67_.toInt ≤ 2147483647 := ⟨zlo _, zhi _⟩
      refine lv_isub hx hb dX2_fits_70 ?_
      refine lv_topi (fun z70 e_z70 => ?_)
      have b_ : -2147483648 ≤ (u8_ 0).toInt ∧ (u8_ 0).toInt ≤ 2147483647 := ⟨zlo _, zhi _⟩
      have b_ : -2147483648 ≤ z70.toInt ∧ z70.toInt ≤ 2147483647 := ⟨zlo _, zhi _⟩
      refine lv_iadd hx hb dX2_fits_71 ?_
      refine lv_topi (fun z71 e_z71 => ?_)
      refine lv_istore_n (lv' := [(3, .int z71), (6, .int z56), (5, .int r25_), (0, .ref h0), (1, .ref h24), (2, .int x2), (4, .int (u8_ 1))]) hx hb dX2_fits_72 rfl hl (by decide) rfl (fun ls hl => ?_)
      obtain ⟨z73, e_z73⟩ : ∃ z : Int32, z = (u8_ 1) + Int32.ofInt 1 := ⟨_, rfl⟩
      have b_ := zadd (x := (u8_ 1)) (y := Int32.ofInt 1) rfl (show (Int32.ofInt 1).toInt = 1 from by decide) e_z73 (by omega) (by omega)
      refine lv_iinc (v := z73) (lv' := [(4, .int z73), (3, .int z71), (6, .int z56), (5, .int r25_), (0, .ref h0), (1, .ref h24), (2, .int x2)]) hx hb dX2_fits_73 hl (k := 6) rfl e_z73.symm (by decide) rfl (fun ls hl => ?_)
      have e39 : z39 = z24 := e_z39.trans e_z24.symm
      have e48 : z48 = z24 := e_z48.trans e_z24.symm
      rw [e39] at hX53_0
      rw [e48] at hX49_0
      have hfi9 : zFi f18 f19 f20 f21 f22 f23 (v0 9).toInt (v0 10).toInt f25 f26 f27 f28 f29 f30 (v24 8).toInt (v24 9).toInt (v24 10).toInt (v24 11).toInt f32 x2.toInt z71.toInt z73.toInt := zFi_s hI8_0 (by omega) (by omega) e_z24 hX25_0 hX49_0 rfl e_z52 hX53_0 e_z56 hX62_0 hX67_0 e_z70 e_z71 (by omega)
      refine lv_goto (tgt := 8) hx hb dX2_fits_76 (by decide) ?_
      have b_ : -2147483648 ≤ z71.toInt ∧ z71.toInt ≤ 2147483647 := ⟨zlo _, zhi _⟩
      have hc : va_P (dC, dI) vwCl [(h24, .inr (6, mX6 h25 h26 h27 h28 h29 h30 h31 h32 v24)), (h0, .inr (2, mX2 h1 h4 h11 h18 h19 h20 h21 h22 h23 v0)), (h20, zi k20 300 f20), (h30, zi k30 400 f30), (h32, zi k32 400 f32), (h23, zi k23 400 f23), (h21, zi k21 400 f21), (h18, zi k18 300 f18), (h19, zi k19 300 f19), (h22, zi k22 400 f22), (h25, zi k25 1250 f25), (h26, zi k26 833 f26), (h27, zi k27 833 f27), (h28, zi k28 400 f28), (h29, zi k29 400 f29)] H ∧ va_D A [(h24, .inr (6, mX6 h25 h26 h27 h28 h29 h30 h31 h32 v24)), (h0, .inr (2, mX2 h1 h4 h11 h18 h19 h20 h21 h22 h23 v0)), (h20, zi k20 300 f20), (h30, zi k30 400 f30), (h32, zi k32 400 f32), (h23, zi k23 400 f23), (h21, zi k21 400 f21), (h18, zi k18 300 f18), (h19, zi k19 300 f19), (h22, zi k22 400 f22), (h25, zi k25 1250 f25), (h26, zi k26 833 f26), (h27, zi k27 833 f27), (h28, zi k28 400 f28), (h29, zi k29 400 f29)] ∧ va_S A s.heap H locs ∧ lv_has ls 7 [(0, .ref h0), (1, .ref h24), (2, .int x2), (3, .int z71), (4, .int z73)] ∧ (0 ≤ z73.toInt ∧ z73.toInt ≤ 300) ∧ (zFi f18 f19 f20 f21 f22 f23 (v0 9).toInt (v0 10).toInt f25 f26 f27 f28 f29 f30 (v24 8).toInt (v24 9).toInt (v24 10).toInt (v24 11).toInt f32 x2.toInt z71.toInt z73.toInt) ∧ (z73.toInt ≤ (v0 10).toInt) := ⟨hP, hD, hS, lv_sub hl [4, 5, 6, 1, 0] rfl, (by first | with_reducible assumption | exact ⟨by omega, by omega⟩), by first | exact hfi9 | exact zFi_0 hX1_0 (by decide) (by omega), by omega⟩
      exact hJ8 H locs ls (fun i => ([z71, z73] : List (Int32)).getD i 0) (fun _ => 0) (fun _ => (fun _ => 0)) (fun _ => (fun _ => 0)) hc (show (300 - z73.toInt).toNat < (300 - (u8_ 1).toInt).toNat from by omega)
  · skip
    have b_ : -2147483648 ≤ x2.toInt ∧ x2.toInt ≤ 2147483647 := ⟨zlo _, zhi _⟩
    have b_ : -2147483648 ≤ r1_.toInt ∧ r1_.toInt ≤ 2147483647 := ⟨zlo _, zhi _⟩
    have hc : va_P (dC, dI) vwCl [(h24, .inr (6, mX6 h25 h26 h27 h28 h29 h30 h31 h32 v24)), (h0, .inr (2, mX2 h1 h4 h11 h18 h19 h20 h21 h22 h23 v0)), (h20, zi k20 300 f20), (h30, zi k30 400 f30), (h32, zi k32 400 f32), (h23, zi k23 400 f23), (h21, zi k21 400 f21), (h18, zi k18 300 f18), (h19, zi k19 300 f19), (h22, zi k22 400 f22), (h25, zi k25 1250 f25), (h26, zi k26 833 f26), (h27, zi k27 833 f27), (h28, zi k28 400 f28), (h29, zi k29 400 f29)] H ∧ va_D A [(h24, .inr (6, mX6 h25 h26 h27 h28 h29 h30 h31 h32 v24)), (h0, .inr (2, mX2 h1 h4 h11 h18 h19 h20 h21 h22 h23 v0)), (h20, zi k20 300 f20), (h30, zi k30 400 f30), (h32, zi k32 400 f32), (h23, zi k23 400 f23), (h21, zi k21 400 f21), (h18, zi k18 300 f18), (h19, zi k19 300 f19), (h22, zi k22 400 f22), (h25, zi k25 1250 f25), (h26, zi k26 833 f26), (h27, zi k27 833 f27), (h28, zi k28 400 f28), (h29, zi k29 400 f29)] ∧ va_S A s.heap H locs ∧ lv_has ls 7 [(0, .ref h0), (1, .ref h24), (2, .int x2), (3, .int r1_), (4, .int 0)] ∧ (0 ≤ (0 : Int32).toInt ∧ (0 : Int32).toInt ≤ 300) ∧ (zFi f18 f19 f20 f21 f22 f23 (v0 9).toInt (v0 10).toInt f25 f26 f27 f28 f29 f30 (v24 8).toInt (v24 9).toInt (v24 10).toInt (v24 11).toInt f32 x2.toInt r1_.toInt (0 : Int32).toInt) ∧ ((0 : Int32).toInt ≤ (v0 10).toInt) := ⟨hP, hD, hS, lv_sub hl [2, 3, 4, 1, 0] rfl, (by first | with_reducible assumption | exact ⟨by omega, by omega⟩), by first | exact hfi9 | exact zFi_0 hX1_0 (by decide) (by omega), by omega⟩
    exact hJ8 H locs ls (fun i => ([r1_, 0] : List (Int32)).getD i 0) (fun _ => 0) (fun _ => (fun _ => 0)) (fun _ => (fun _ => 0)) hc
