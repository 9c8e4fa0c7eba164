set_option maxHeartbeats 8000000 in
set_option maxRecDepth 100000 in
theorem sX8_open_0 (l : Launch) (dC : Nat → ClassId) (dI : Nat → Nat → Nat) (adK adV : Nat → Nat) (h0 : Nat) (h1 : Nat) (h7 : Nat) (h5 : Nat) (h2 : Nat) (h3 : Nat) (h4 : Nat) (h6 : Nat) (h8 : Nat) (h9 : Nat) (k7 : ClassId) (k5 : ClassId) (sz : Nat) (v0 : Nat → Int32) (v1 : Nat → Int32) (f7 : Nat → Int32) (f5 : Nat → Int32) (x1 : Int32) (hv1 : zR rg_Postings v1) : Met l yX8_open (zw yX8_open cX8_open 2 none) { frames := 2, cells := 0, slots := 0, locals := 41 } (zPc dC dI adK adV [.ref h0, .int x1] sz [(h0, .inr (8, mX8 h1 v0)), (h1, .inr (6, mX6 h2 h3 h4 h5 h6 h7 h8 h9 v1)), (h7, .inl (k7, 400, .inl f7)), (h5, .inl (k5, 400, .inl f5))] [(k7, .int), (k5, .int)]) (va_Qv (fun (u : Nat → Int32) => (0 ≤ (u 2).toInt ∧ (u 2).toInt ≤ 0) ∧ (0 ≤ (u 3).toInt ∧ (u 3).toInt ≤ 0) ∧ ((-1) ≤ (u 4).toInt ∧ (u 4).toInt ≤ (-1)) ∧ (0 ≤ (u 5).toInt ∧ (u 5).toInt ≤ 0) ∧ (0 ≤ (u 6).toInt ∧ (u 6).toInt ≤ 0)) (fun (u : Nat → Int32) (t : State) => ∃ (ww : Nat → Int64) (aa : Nat → Nat → Int32) (bb : Nat → Nat → Int64), va_P (dC, dI) vwCl [(h0, .inr (8, mX8 h1 (upd (upd (upd (upd (upd (upd (upd v0 1 (u 0)) 2 (u 1)) 3 (u 2)) 4 (u 3)) 5 (u 4)) 6 (u 5)) 7 (u 6)))), (h1, .inr (6, mX6 h2 h3 h4 h5 h6 h7 h8 h9 v1)), (h7, .inl (k7, 400, .inl f7)), (h5, .inl (k5, 400, .inl f5))] t.heap ∧ va_K (dC, dI) vwCl [(k7, .int), (k5, .int)] t ∧ va_D (va_A [(h0, .inr (8, mX8 h1 v0)), (h1, .inr (6, mX6 h2 h3 h4 h5 h6 h7 h8 h9 v1)), (h7, .inl (k7, 400, .inl f7)), (h5, .inl (k5, 400, .inl f5))] sz) [(h0, .inr (8, mX8 h1 (upd (upd (upd (upd (upd (upd (upd v0 1 (u 0)) 2 (u 1)) 3 (u 2)) 4 (u 3)) 5 (u 4)) 6 (u 5)) 7 (u 6)))), (h1, .inr (6, mX6 h2 h3 h4 h5 h6 h7 h8 h9 v1)), (h7, .inl (k7, 400, .inl f7)), (h5, .inl (k5, 400, .inl f5))]) (va_A [(h0, .inr (8, mX8 h1 v0)), (h1, .inr (6, mX6 h2 h3 h4 h5 h6 h7 h8 h9 v1)), (h7, .inl (k7, 400, .inl f7)), (h5, .inl (k5, 400, .inl f5))] sz)) 0 0 (va_A [(h0, .inr (8, mX8 h1 v0)), (h1, .inr (6, mX6 h2 h3 h4 h5 h6 h7 h8 h9 v1)), (h7, .inl (k7, 400, .inl f7)), (h5, .inl (k5, 400, .inl f5))] sz) := by
  refine Met.ofW (cc := cX8_open) (maxL := 2) (ret := none) (by decide) rfl ?_
  intro p e s m args below meth c s₁ B hml hv
  obtain ⟨rfl, hsz, hP, hK, hD0, hE, hZ⟩ := hv
  have hx := B.exec
  have hb := B.bytes
  have hr := B.returns
  have hG : ∀ w ∈ zG, w.before _ s = true := fun w h => atoms_spec (ws := (zw yX8_open cX8_open 2 none)) B.pre w (List.mem_cons_of_mem _ h)
  have hown : s.vm.findClass RX8 = some m.cls := findClass_of_methodNamed B.named
  have hlocks := B.notSynchronized

  subst hsz
  have hD := hD0.self (sz := s.heap.size)
  generalize hAe : va_A [(h0, .inr (8, mX8 h1 v0)), (h1, .inr (6, mX6 h2 h3 h4 h5 h6 h7 h8 h9 v1)), (h7, .inl (k7, 400, .inl f7)), (h5, .inl (k5, 400, .inl f5))] s.heap.size = A at hD hZ ⊢
  have hA : ∀ q : Nat, s.heap.size ≤ q → A q := fun q h => by rw [← hAe]; exact Or.inr h
  have hS : va_S A s.heap s.heap [] := va_S.rf
  have hl := lv_entry ([.ref h0, .int x1]) (n := 2) (Nat.le_of_ble_eq_true rfl)
  rw [lg_entry_eq]
  generalize (lg_sl ([.ref h0, .int x1]) ++ List.replicate (2 - (lg_sl ([.ref h0, .int x1])).length) Slot.unset).toArray = ls at hl ⊢
  have hl : lv_has ls 2 [(0, .ref h0), (1, .int x1)] := hl
  have b_ := zk_m1
  have b_ := zk_0
  refine lv_aload_n hx hb dX8_open_0 rfl (lv_at hl 0 rfl) ?_
  refine lv_aload_n hx hb dX8_open_1 rfl (lv_at hl 0 rfl) ?_
  refine va_get (D := (dC, dI)) (ci := 8) (v := .ref h1) (C := RX8) (T := TX8) (N := 9) hx hb hG zuX8 hown hK hP 0 rfl rfl 0 (by decide) (hG _ zw216) (fun _ h9 => h9) rfl dX8_open_2 ?_
  refine lv_iload_n hx hb dX8_open_5 rfl (lv_at hl 1 rfl) ?_
  have hPc := hP.sub (ws' := [(h1, .inr (6, mX6 h2 h3 h4 h5 h6 h7 h8 h9 v1)), (h7, .inl (k7, 400, .inl f7))]) [1, 2] rfl
  have hDc := hD.sub (ws' := [(h1, .inr (6, mX6 h2 h3 h4 h5 h6 h7 h8 h9 v1)), (h7, .inl (k7, 400, .inl f7))]) [1, 2] (by decide) rfl
  have hKc := hK.sub (tys' := [(k7, .int)]) [0] rfl
  have hFc := va_free (wc := [(h1, .inr (6, mX6 h2 h3 h4 h5 h6 h7 h8 h9 v1)), (h7, .inl (k7, 400, .inl f7))]) hD hS hA [1, 2] rfl
  refine va_calli (va_runV (As := [.int x1]) (rest := [.ref h0]) ⟨hx, hb, hml, hown, hG⟩ (sX6_bitsOf_0 l dC dI adK adV h1 h7 h2 h3 h4 h5 h6 h8 h9 k7 s.heap.size v1 f7 x1 hv1) (cwV 1 hG (zgV zw252 zw253 zw254 zw146 zw255) rfl rfl rfl (by decide +kernel) ⟨Nat.le_of_ble_eq_true rfl, Nat.le_of_ble_eq_true rfl⟩) ⟨zPc_blind, va_recv hKc hPc (ci := 6) (q0 := 0) rfl rfl, zPc_pre hPc hKc hDc hE hS hFc hZ⟩ rfl rfl hl.1 rfl (lv_room (Nat.le_of_ble_eq_true rfl)) dX8_open_6 ⟨Nat.le_of_ble_eq_true rfl, Nat.le_of_ble_eq_true rfl⟩) hS (fun q _ h => hFc q h) hFc (fun r6_ u6_ t H1 locs ht hvm hw hB hz1 hk1 hS => ?_)
  obtain ⟨w6_, a6_, b6_, hP1, hK1, hD1⟩ := hB
  rw [ht] at hP1
  obtain ⟨hP, hD⟩ := va_join (wr := [(h0, .inr (8, mX8 h1 v0)), (h5, .inl (k5, 400, .inl f5))]) (w1 := [(h1, .inr (6, mX6 h2 h3 h4 h5 h6 h7 h8 h9 v1)), (h7, .inl (k7, 400, .inl f7))]) hP hD [1, 2] [0, 3] rfl rfl (by decide) (by decide) hk1 hFc hP1 hD1
  have hP : va_P (dC, dI) vwCl [(h0, .inr (8, mX8 h1 v0)), (h1, .inr (6, mX6 h2 h3 h4 h5 h6 h7 h8 h9 v1)), (h7, .inl (k7, 400, .inl f7)), (h5, .inl (k5, 400, .inl f5))] H1 := hP.sub [0, 2, 3, 1] rfl
  have hD : va_D A [(h0, .inr (8, mX8 h1 v0)), (h1, .inr (6, mX6 h2 h3 h4 h5 h6 h7 h8 h9 v1)), (h7, .inl (k7, 400, .inl f7)), (h5, .inl (k5, 400, .inl f5))] := hD.sub [0, 2, 3, 1] (by decide) rfl
  generalize H1 = H at hP hS ⊢
  clear hz1
  refine va_put (D := (dC, dI)) (ci := 8) (v := .int r6_) (ty := .int) (C := RX8) (T := TX8) (N := 9) hx hb hG zuX8 tyX8 tyX8_ok nmX8 hown hK hP hD hS 0 rfl rfl 1 (by decide) (hG _ zw212) (fun _ h9 => h9) rfl (by decide +kernel) rfl rfl (Nat.le_of_ble_eq_true rfl) dX8_open_9 (fun H locs hP hD hS => ?_)
  have hP : va_P (dC, dI) vwCl [(h0, .inr (8, mX8 h1 (upd v0 1 r6_))), (h1, .inr (6, mX6 h2 h3 h4 h5 h6 h7 h8 h9 v1)), (h7, .inl (k7, 400, .inl f7)), (h5, .inl (k5, 400, .inl f5))] H := hP
  have hD : va_D A [(h0, .inr (8, mX8 h1 (upd v0 1 r6_))), (h1, .inr (6, mX6 h2 h3 h4 h5 h6 h7 h8 h9 v1)), (h7, .inl (k7, 400, .inl f7)), (h5, .inl (k5, 400, .inl f5))] := hD
  refine lv_aload_n hx hb dX8_open_12 rfl (lv_at hl 0 rfl) ?_
  refine lv_aload_n hx hb dX8_open_13 rfl (lv_at hl 0 rfl) ?_
  refine va_get (D := (dC, dI)) (ci := 8) (v := .ref h1) (C := RX8) (T := TX8) (N := 9) hx hb hG zuX8 hown hK hP 0 rfl rfl 0 (by decide) (hG _ zw216) (fun _ h9 => h9) rfl dX8_open_14 ?_
  refine lv_iload_n hx hb dX8_open_17 rfl (lv_at hl 1 rfl) ?_
  have hPc := hP.sub (ws' := [(h1, .inr (6, mX6 h2 h3 h4 h5 h6 h7 h8 h9 v1)), (h7, .inl (k7, 400, .inl f7)), (h5, .inl (k5, 400, .inl f5))]) [1, 2, 3] rfl
  have hDc := hD.sub (ws' := [(h1, .inr (6, mX6 h2 h3 h4 h5 h6 h7 h8 h9 v1)), (h7, .inl (k7, 400, .inl f7)), (h5, .inl (k5, 400, .inl f5))]) [1, 2, 3] (by decide) rfl
  have hKc := hK.sub (tys' := [(k7, .int), (k5, .int)]) [0, 1] rfl
  have hFc := va_free (wc := [(h1, .inr (6, mX6 h2 h3 h4 h5 h6 h7 h8 h9 v1)), (h7, .inl (k7, 400, .inl f7)), (h5, .inl (k5, 400, .inl f5))]) hD hS hA [1, 2, 3] rfl
  refine va_calli (va_runV (As := [.int x1]) (rest := [.ref h0]) ⟨hx, hb, hml, hown, hG⟩ (sX6_firstChunkOf_0 l dC dI adK adV h1 h7 h5 h2 h3 h4 h6 h8 h9 k7 k5 H.size v1 f7 f5 x1 hv1) (cwV 1 hG (zgV zw256 zw176 zw177 zw146 zw178) rfl rfl rfl (by decide +kernel) ⟨Nat.le_of_ble_eq_true rfl, Nat.le_of_ble_eq_true rfl⟩) ⟨zPc_blind, va_recv hKc hPc (ci := 6) (q0 := 0) rfl rfl, zPc_pre hPc hKc hDc hE hS hFc hZ⟩ rfl rfl hl.1 rfl (lv_room (Nat.le_of_ble_eq_true rfl)) dX8_open_18 ⟨Nat.le_of_ble_eq_true rfl, Nat.le_of_ble_eq_true rfl⟩) hS (fun q _ h => hFc q h) hFc (fun r18_ u18_ t H1 locs ht hvm hw hB hz1 hk1 hS => ?_)
  obtain ⟨w18_, a18_, b18_, hP1, hK1, hD1⟩ := hB
  rw [ht] at hP1
  obtain ⟨hP, hD⟩ := va_join (wr := [(h0, .inr (8, mX8 h1 (upd v0 1 r6_)))]) (w1 := [(h1, .inr (6, mX6 h2 h3 h4 h5 h6 h7 h8 h9 v1)), (h7, .inl (k7, 400, .inl f7)), (h5, .inl (k5, 400, .inl f5))]) hP hD [1, 2, 3] [0] rfl rfl (by decide) (by decide) hk1 hFc hP1 hD1
  have hP : va_P (dC, dI) vwCl [(h0, .inr (8, mX8 h1 (upd v0 1 r6_))), (h1, .inr (6, mX6 h2 h3 h4 h5 h6 h7 h8 h9 v1)), (h7, .inl (k7, 400, .inl f7)), (h5, .inl (k5, 400, .inl f5))] H1 := hP.sub [0, 1, 2, 3] rfl
  have hD : va_D A [(h0, .inr (8, mX8 h1 (upd v0 1 r6_))), (h1, .inr (6, mX6 h2 h3 h4 h5 h6 h7 h8 h9 v1)), (h7, .inl (k7, 400, .inl f7)), (h5, .inl (k5, 400, .inl f5))] := hD.sub [0, 1, 2, 3] (by decide) rfl
  generalize H1 = H at hP hS ⊢
  clear hz1
  refine va_put (D := (dC, dI)) (ci := 8) (v := .int r18_) (ty := .int) (C := RX8) (T := TX8) (N := 9) hx hb hG zuX8 tyX8 tyX8_ok nmX8 hown hK hP hD hS 0 rfl rfl 2 (by decide) (hG _ zw217) (fun _ h9 => h9) rfl (by decide +kernel) rfl rfl (Nat.le_of_ble_eq_true rfl) dX8_open_21 (fun H locs hP hD hS => ?_)
  have hP : va_P (dC, dI) vwCl [(h0, .inr (8, mX8 h1 (upd (upd v0 1 r6_) 2 r18_))), (h1, .inr (6, mX6 h2 h3 h4 h5 h6 h7 h8 h9 v1)), (h7, .inl (k7, 400, .inl f7)), (h5, .inl (k5, 400, .inl f5))] H := hP
  have hD : va_D A [(h0, .inr (8, mX8 h1 (upd (upd v0 1 r6_) 2 r18_))), (h1, .inr (6, mX6 h2 h3 h4 h5 h6 h7 h8 h9 v1)), (h7, .inl (k7, 400, .inl f7)), (h5, .inl (k5, 400, .inl f5))] := hD
  refine lv_aload_n hx hb dX8_open_24 rfl (lv_at hl 0 rfl) ?_
  refine lv_iconst (v := 0) hx hb dX8_open_25 (by decide) ?_
  refine va_put (D := (dC, dI)) (ci := 8) (v := .int 0) (ty := .int) (C := RX8) (T := TX8) (N := 9) hx hb hG zuX8 tyX8 tyX8_ok nmX8 hown hK hP hD hS 0 rfl rfl 3 (by decide) (hG _ zw215) (fun _ h9 => h9) rfl (by decide +kernel) rfl rfl (Nat.le_of_ble_eq_true rfl) dX8_open_26 (fun H locs hP hD hS => ?_)
  have hP : va_P (dC, dI) vwCl [(h0, .inr (8, mX8 h1 (upd (upd (upd v0 1 r6_) 2 r18_) 3 0))), (h1, .inr (6, mX6 h2 h3 h4 h5 h6 h7 h8 h9 v1)), (h7, .inl (k7, 400, .inl f7)), (h5, .inl (k5, 400, .inl f5))] H := hP
  have hD : va_D A [(h0, .inr (8, mX8 h1 (upd (upd (upd v0 1 r6_) 2 r18_) 3 0))), (h1, .inr (6, mX6 h2 h3 h4 h5 h6 h7 h8 h9 v1)), (h7, .inl (k7, 400, .inl f7)), (h5, .inl (k5, 400, .inl f5))] := hD
  refine lv_aload_n hx hb dX8_open_29 rfl (lv_at hl 0 rfl) ?_
  refine lv_iconst (v := 0) hx hb dX8_open_30 (by decide) ?_
  refine va_put (D := (dC, dI)) (ci := 8) (v := .int 0) (ty := .int) (C := RX8) (T := TX8) (N := 9) hx hb hG zuX8 tyX8 tyX8_ok nmX8 hown hK hP hD hS 0 rfl rfl 4 (by decide) (hG _ zw214) (fun _ h9 => h9) rfl (by decide +kernel) rfl rfl (Nat.le_of_ble_eq_true rfl) dX8_open_31 (fun H locs hP hD hS => ?_)
  have hP : va_P (dC, dI) vwCl [(h0, .inr (8, mX8 h1 (upd (upd (upd (upd v0 1 r6_) 2 r18_) 3 0) 4 0))), (h1, .inr (6, mX6 h2 h3 h4 h5 h6 h7 h8 h9 v1)), (h7, .inl (k7, 400, .inl f7)), (h5, .inl (k5, 400, .inl f5))] H := hP
  have hD : va_D A [(h0, .inr (8, mX8 h1 (upd (upd (upd (upd v0 1 r6_) 2 r18_) 3 0) 4 0))), (h1, .inr (6, mX6 h2 h3 h4 h5 h6 h7 h8 h9 v1)), (h7, .inl (k7, 400, .inl f7)), (h5, .inl (k5, 400, .inl f5))] := hD
  refine lv_aload_n hx hb dX8_open_34 rfl (lv_at hl 0 rfl) ?_
  refine lv_iconst (v := (-1)) hx hb dX8_open_35 (by decide) ?_
  refine va_put (D := (dC, dI)) (ci := 8) (v := .int (-1)) (ty := .int) (C := RX8) (T := TX8) (N := 9) hx hb hG zuX8 tyX8 tyX8_ok nmX8 hown hK hP hD hS 0 rfl rfl 5 (by decide) (hG _ zw213) (fun _ h9 => h9) rfl (by decide +kernel) rfl rfl (Nat.le_of_ble_eq_true rfl) dX8_open_36 (fun H locs hP hD hS => ?_)
  have hP : va_P (dC, dI) vwCl [(h0, .inr (8, mX8 h1 (upd (upd (upd (upd (upd v0 1 r6_) 2 r18_) 3 0) 4 0) 5 (-1)))), (h1, .inr (6, mX6 h2 h3 h4 h5 h6 h7 h8 h9 v1)), (h7, .inl (k7, 400, .inl f7)), (h5, .inl (k5, 400, .inl f5))] H := hP
  have hD : va_D A [(h0, .inr (8, mX8 h1 (upd (upd (upd (upd (upd v0 1 r6_) 2 r18_) 3 0) 4 0) 5 (-1)))), (h1, .inr (6, mX6 h2 h3 h4 h5 h6 h7 h8 h9 v1)), (h7, .inl (k7, 400, .inl f7)), (h5, .inl (k5, 400, .inl f5))] := hD
  refine lv_aload_n hx hb dX8_open_39 rfl (lv_at hl 0 rfl) ?_
  refine lv_iconst (v := 0) hx hb dX8_open_40 (by decide) ?_
  refine va_put (D := (dC, dI)) (ci := 8) (v := .int 0) (ty := .int) (C := RX8) (T := TX8) (N := 9) hx hb hG zuX8 tyX8 tyX8_ok nmX8 hown hK hP hD hS 0 rfl rfl 6 (by decide) (hG _ zw211) (fun _ h9 => h9) rfl (by decide +kernel) rfl rfl (Nat.le_of_ble_eq_true rfl) dX8_open_41 (fun H locs hP hD hS => ?_)
  have hP : va_P (dC, dI) vwCl [(h0, .inr (8, mX8 h1 (upd (upd (upd (upd (upd (upd v0 1 r6_) 2 r18_) 3 0) 4 0) 5 (-1)) 6 0))), (h1, .inr (6, mX6 h2 h3 h4 h5 h6 h7 h8 h9 v1)), (h7, .inl (k7, 400, .inl f7)), (h5, .inl (k5, 400, .inl f5))] H := hP
  have hD : va_D A [(h0, .inr (8, mX8 h1 (upd (upd (upd (upd (upd (upd v0 1 r6_) 2 r18_) 3 0) 4 0) 5 (-1)) 6 0))), (h1, .inr (6, mX6 h2 h3 h4 h5 h6 h7 h8 h9 v1)), (h7, .inl (k7, 400, .inl f7)), (h5, .inl (k5, 400, .inl f5))] := hD
  refine lv_aload_n hx hb dX8_open_44 rfl (lv_at hl 0 rfl) ?_
  refine lv_iconst (v := 0) hx hb dX8_open_45 (by decide) ?_
  refine va_put (D := (dC, dI)) (ci := 8) (v := .int 0) (ty := .int) (C := RX8) (T := TX8) (N := 9) hx hb hG zuX8 tyX8 tyX8_ok nmX8 hown hK hP hD hS 0 rfl rfl 7 (by decide) (hG _ zw210) (fun _ h9 => h9) rfl (by decide +kernel) rfl rfl (Nat.le_of_ble_eq_true rfl) dX8_open_46 (fun H locs hP hD hS => ?_)
  have hP : va_P (dC, dI) vwCl [(h0, .inr (8, mX8 h1 (upd (upd (upd (upd (upd (upd (upd v0 1 r6_) 2 r18_) 3 0) 4 0) 5 (-1)) 6 0) 7 0))), (h1, .inr (6, mX6 h2 h3 h4 h5 h6 h7 h8 h9 v1)), (h7, .inl (k7, 400, .inl f7)), (h5, .inl (k5, 400, .inl f5))] H := hP
  have hD : va_D A [(h0, .inr (8, mX8 h1 (upd (upd (upd (upd (upd (upd (upd v0 1 r6_) 2 r18_) 3 0) 4 0) 5 (-1)) 6 0) 7 0))), (h1, .inr (6, mX6 h2 h3 h4 h5 h6 h7 h8 h9 v1)), (h7, .inl (k7, 400, .inl f7)), (h5, .inl (k5, 400, .inl f5))] := hD
  refine W.widen (k := 0) (n := 0) (by decide) (by decide) ?_
  have b_ : -2147483648 ≤ r6_.toInt ∧ r6_.toInt ≤ 2147483647 := ⟨zlo _, zhi _⟩
  have b_ : -2147483648 ≤ r18_.toInt ∧ r18_.toInt ≤ 2147483647 := ⟨zlo _, zhi _⟩
  have hpost : (0 ≤ (0 : Int32).toInt ∧ (0 : Int32).toInt ≤ 0) ∧ (0 ≤ (0 : Int32).toInt ∧ (0 : Int32).toInt ≤ 0) ∧ ((-1) ≤ ((-1) : Int32).toInt ∧ ((-1) : Int32).toInt ≤ (-1)) ∧ (0 ≤ (0 : Int32).toInt ∧ (0 : Int32).toInt ≤ 0) ∧ (0 ≤ (0 : Int32).toInt ∧ (0 : Int32).toInt ≤ 0) := ⟨⟨by omega, by omega⟩, ⟨by omega, by omega⟩, ⟨by omega, by omega⟩, ⟨by omega, by omega⟩, ⟨by omega, by omega⟩⟩
  have hP9 : va_P (dC, dI) vwCl [(h0, .inr (8, mX8 h1 (upd (upd (upd (upd (upd (upd (upd v0 1 r6_) 2 r18_) 3 0) 4 0) 5 (-1)) 6 0) 7 0))), (h1, .inr (6, mX6 h2 h3 h4 h5 h6 h7 h8 h9 v1)), (h7, .inl (k7, 400, .inl f7)), (h5, .inl (k5, 400, .inl f5))] H := hP
  have hD9 : va_D A [(h0, .inr (8, mX8 h1 (upd (upd (upd (upd (upd (upd (upd v0 1 r6_) 2 r18_) 3 0) 4 0) 5 (-1)) 6 0) 7 0))), (h1, .inr (6, mX6 h2 h3 h4 h5 h6 h7 h8 h9 v1)), (h7, .inl (k7, 400, .inl f7)), (h5, .inl (k5, 400, .inl f5))] := hD
  exact W.vret hx hb hr (fun t ht hW => ⟨⟨(fun i => ([r6_, r18_, 0, 0, (-1), 0, 0] : List (Int32)).getD i 0), rfl, hpost, (fun _ => 0), (fun _ => (fun _ => 0)), (fun _ => (fun _ => 0)), by rw [ht]; exact hP9, va_K.moved hW.alike hK, hD9⟩, hS.F ht⟩) hS.2.2 dX8_open_49
set_option maxHeartbeats 8000000 in
set_option maxRecDepth 100000 in
theorem sX8_reaches_0 (l : Launch) (dC : Nat → ClassId) (dI : Nat → Nat → Nat) (adK adV : Nat → Nat) (h0 : Nat) (h1 : Nat) (h4 : Nat) (h3 : Nat) (h2 : Nat) (h5 : Nat) (h6 : Nat) (h7 : Nat) (h8 : Nat) (h9 : Nat) (k4 : ClassId) (k3 : ClassId) (k2 : ClassId) (sz : Nat) (v0 : Nat → Int32) (v1 : Nat → Int32) (f4 : Nat → Int32) (f3 : Nat → Int32) (f2 : Nat → Int32) (x1 : Int32) (hv1 : zR rg_Postings v1) (hf3 : zA 0 1250 f3) : Met l yX8_reaches (zw yX8_reaches cX8_reaches 3 (some .boolean)) { frames := 4, cells := 0, slots := 0, locals := 88 } (zPc dC dI adK adV [.ref h0, .int x1] sz [(h0, .inr (8, mX8 h1 v0)), (h1, .inr (6, mX6 h2 h3 h4 h5 h6 h7 h8 h9 v1)), (h4, .inl (k4, 833, .inl f4)), (h3, .inl (k3, 833, .inl f3)), (h2, .inl (k2, 1250, .inl f2))] [(k4, .int), (k3, .int), (k2, .int)]) (va_Qi (fun (r : Int32) (u : Nat → Int32) => (0 ≤ r.toInt ∧ r.toInt ≤ 1)) (fun (u : Nat → Int32) (t : State) => ∃ (ww : Nat → Int64) (aa : Nat → Nat → Int32) (bb : Nat → Nat → Int64), va_P (dC, dI) vwCl [(h0, .inr (8, mX8 h1 (upd (upd (upd (upd (upd (upd (upd (upd v0 1 (u 0)) 2 (u 1)) 3 (u 2)) 4 (u 3)) 5 (u 4)) 6 (u 5)) 7 (u 6)) 8 (u 7)))), (h1, .inr (6, mX6 h2 h3 h4 h5 h6 h7 h8 h9 v1)), (h4, .inl (k4, 833, .inl f4)), (h3, .inl (k3, 833, .inl f3)), (h2, .inl (k2, 1250, .inl f2))] t.heap ∧ va_K (dC, dI) vwCl [(k4, .int), (k3, .int), (k2, .int)] t ∧ va_D (va_A [(h0, .inr (8, mX8 h1 v0)), (h1, .inr (6, mX6 h2 h3 h4 h5 h6 h7 h8 h9 v1)), (h4, .inl (k4, 833, .inl f4)), (h3, .inl (k3, 833, .inl f3)), (h2, .inl (k2, 1250, .inl f2))] sz) [(h0, .inr (8, mX8 h1 (upd (upd (upd (upd (upd (upd (upd (upd v0 1 (u 0)) 2 (u 1)) 3 (u 2)) 4 (u 3)) 5 (u 4)) 6 (u 5)) 7 (u 6)) 8 (u 7)))), (h1, .inr (6, mX6 h2 h3 h4 h5 h6 h7 h8 h9 v1)), (h4, .inl (k4, 833, .inl f4)), (h3, .inl (k3, 833, .inl f3)), (h2, .inl (k2, 1250, .inl f2))]) (va_A [(h0, .inr (8, mX8 h1 v0)), (h1, .inr (6, mX6 h2 h3 h4 h5 h6 h7 h8 h9 v1)), (h4, .inl (k4, 833, .inl f4)), (h3, .inl (k3, 833, .inl f3)), (h2, .inl (k2, 1250, .inl f2))] sz)) 0 0 (va_A [(h0, .inr (8, mX8 h1 v0)), (h1, .inr (6, mX6 h2 h3 h4 h5 h6 h7 h8 h9 v1)), (h4, .inl (k4, 833, .inl f4)), (h3, .inl (k3, 833, .inl f3)), (h2, .inl (k2, 1250, .inl f2))] sz) := by
  refine Met.ofW (cc := cX8_reaches) (maxL := 3) (ret := (some .boolean)) (by decide) rfl ?_
  intro p e s m args below meth c s₁ B hml hv
  obtain ⟨rfl, hsz, hP, hK, hD0, hE, hZ⟩ := hv
  have hx := B.exec
  have hb := B.bytes
  have hr := B.returns
  have hG : ∀ w ∈ zG, w.before _ s = true := fun w h => atoms_spec (ws := (zw yX8_reaches cX8_reaches 3 (some .boolean))) B.pre w (List.mem_cons_of_mem _ h)
  have hown : s.vm.findClass RX8 = some m.cls := findClass_of_methodNamed B.named
  have hlocks := B.notSynchronized

  subst hsz
  have hD := hD0.self (sz := s.heap.size)
  generalize hAe : va_A [(h0, .inr (8, mX8 h1 v0)), (h1, .inr (6, mX6 h2 h3 h4 h5 h6 h7 h8 h9 v1)), (h4, .inl (k4, 833, .inl f4)), (h3, .inl (k3, 833, .inl f3)), (h2, .inl (k2, 1250, .inl f2))] s.heap.size = A at hD hZ ⊢
  have hA : ∀ q : Nat, s.heap.size ≤ q → A q := fun q h => by rw [← hAe]; exact Or.inr h
  have hS : va_S A s.heap s.heap [] := va_S.rf
  have hl := lv_entry ([.ref h0, .int x1]) (n := 3) (Nat.le_of_ble_eq_true rfl)
  rw [lg_entry_eq]
  generalize (lg_sl ([.ref h0, .int x1]) ++ List.replicate (3 - (lg_sl ([.ref h0, .int x1])).length) Slot.unset).toArray = ls at hl ⊢
  have hl : lv_has ls 3 [(0, .ref h0), (1, .int x1)] := hl
  have b_ := zk_0
  have b_ := zk_1
  refine lv_iconst (v := 0) hx hb dX8_reaches_0 (by decide) ?_
  refine lv_istore_n (lv' := [(2, .int 0), (0, .ref h0), (1, .int x1)]) hx hb dX8_reaches_1 rfl hl (by decide) rfl (fun ls hl => ?_)
  refine zcutL (fun u2_ => (120 - (u2_ 0).toInt).toNat) (fun H locs ls u2_ w2_ a2_ b2_ => va_P (dC, dI) vwCl [(h0, .inr (8, mX8 h1 (upd (upd (upd (upd (upd (upd (upd (upd v0 1 (u2_ 1)) 2 (u2_ 2)) 3 (u2_ 3)) 4 (u2_ 4)) 5 (u2_ 5)) 6 (u2_ 6)) 7 (u2_ 7)) 8 (u2_ 8)))), (h1, .inr (6, mX6 h2 h3 h4 h5 h6 h7 h8 h9 v1)), (h4, .inl (k4, 833, .inl f4)), (h3, .inl (k3, 833, .inl f3)), (h2, .inl (k2, 1250, .inl f2))] H ∧ va_D A [(h0, .inr (8, mX8 h1 (upd (upd (upd (upd (upd (upd (upd (upd v0 1 (u2_ 1)) 2 (u2_ 2)) 3 (u2_ 3)) 4 (u2_ 4)) 5 (u2_ 5)) 6 (u2_ 6)) 7 (u2_ 7)) 8 (u2_ 8)))), (h1, .inr (6, mX6 h2 h3 h4 h5 h6 h7 h8 h9 v1)), (h4, .inl (k4, 833, .inl f4)), (h3, .inl (k3, 833, .inl f3)), (h2, .inl (k2, 1250, .inl f2))] ∧ va_S A s.heap H locs ∧ lv_has ls 3 [(0, .ref h0), (1, .int x1), (2, .int (u2_ 0))] ∧ (0 ≤ (u2_ 0).toInt ∧ (u2_ 0).toInt ≤ 120)) (fun ls u2_ w2_ => F0 m 2 ls []) 0 0 ?_ (fun hJ2 => ?_)
  · skip
    intro H locs ls u2_ w2_ a2_ b2_ hc hJ2
    obtain ⟨hP, hD, hS, hl, b_⟩ := hc
    refine lv_iload_n hx hb dX8_reaches_2 rfl (lv_at hl 2 rfl) ?_
    refine lv_bipush (v := 120) hx hb dX8_reaches_3 (by decide) ?_
    refine zcutW (fun H locs ls u27_ w27_ a27_ b27_ => va_P (dC, dI) vwCl [(h0, .inr (8, mX8 h1 (upd (upd (upd (upd (upd (upd (upd (upd v0 1 (u2_ 1)) 2 (u2_ 2)) 3 (u2_ 3)) 4 (u2_ 4)) 5 (u2_ 5)) 6 (u2_ 6)) 7 (u2_ 7)) 8 (u2_ 8)))), (h1, .inr (6, mX6 h2 h3 h4 h5 h6 h7 h8 h9 v1)), (h4, .inl (k4, 833, .inl f4)), (h3, .inl (k3, 833, .inl f3)), (h2, .inl (k2, 1250, .inl f2))] H ∧ va_D A [(h0, .inr (8, mX8 h1 (upd (upd (upd (upd (upd (upd (upd (upd v0 1 (u2_ 1)) 2 (u2_ 2)) 3 (u2_ 3)) 4 (u2_ 4)) 5 (u2_ 5)) 6 (u2_ 6)) 7 (u2_ 7)) 8 (u2_ 8)))), (h1, .inr (6, mX6 h2 h3 h4 h5 h6 h7 h8 h9 v1)), (h4, .inl (k4, 833, .inl f4)), (h3, .inl (k3, 833, .inl f3)), (h2, .inl (k2, 1250, .inl f2))] ∧ va_S A s.heap H locs ∧ lv_has ls 3 [(0, .ref h0), (1, .int x1), (2, .int (u2_ 0))] ∧ (0 ≤ (u2_ 0).toInt ∧ (u2_ 0).toInt ≤ 120)) (fun ls u27_ w27_ => F0 m 27 ls []) 0 0 ?_ (fun hJ27 => ?_)
    · skip
      intro H locs ls u27_ w27_ a27_ b27_ hc
      obtain ⟨hP, hD, hS, hl, b_⟩ := hc
      refine lv_aload_n hx hb dX8_reaches_27 rfl (lv_at hl 0 rfl) ?_
      refine va_get (D := (dC, dI)) (ci := 8) (v := .int (u2_ 5)) (C := RX8) (T := TX8) (N := 9) hx hb hG zuX8 hown hK hP 0 rfl rfl 5 (by decide) (hG _ zw213) (fun _ h9 => h9) rfl dX8_reaches_28 ?_
      refine lv_iload_n hx hb dX8_reaches_31 rfl (lv_at hl 1 rfl) ?_
      have b_ : -2147483648 ≤ (u2_ 5).toInt ∧ (u2_ 5).toInt ≤ 2147483647 := ⟨zlo _, zhi _⟩
      have b_ : -2147483648 ≤ x1.toInt ∧ x1.toInt ≤ 2147483647 := ⟨zlo _, zhi _⟩
      refine lv_icmp_ne (tgt := 39) hx hb dX8_reaches_32 (by decide) (fun c_ => ?_) (fun c_ => ?_)
      · skip
        have b_ := zT_ne rfl rfl c_
        refine lv_iconst (v := 0) hx hb dX8_reaches_39 (by decide) ?_
        refine W.widen (k := 0) (n := 0) (by decide) (by decide) ?_
        have b_ : -2147483648 ≤ (u2_ 1).toInt ∧ (u2_ 1).toInt ≤ 2147483647 := ⟨zlo _, zhi _⟩
        have b_ : -2147483648 ≤ (u2_ 2).toInt ∧ (u2_ 2).toInt ≤ 2147483647 := ⟨zlo _, zhi _⟩
        have b_ : -2147483648 ≤ (u2_ 3).toInt ∧ (u2_ 3).toInt ≤ 2147483647 := ⟨zlo _, zhi _⟩
        have b_ : -2147483648 ≤ (u2_ 4).toInt ∧ (u2_ 4).toInt ≤ 2147483647 := ⟨zlo _, zhi _⟩
        have b_ : -2147483648 ≤ (u2_ 6).toInt ∧ (u2_ 6).toInt ≤ 2147483647 := ⟨zlo _, zhi _⟩
        have b_ : -2147483648 ≤ (u2_ 7).toInt ∧ (u2_ 7).toInt ≤ 2147483647 := ⟨zlo _, zhi _⟩
        have b_ : -2147483648 ≤ (u2_ 8).toInt ∧ (u2_ 8).toInt ≤ 2147483647 := ⟨zlo _, zhi _⟩
        have hpost : (0 ≤ (0 : Int32).toInt ∧ (0 : Int32).toInt ≤ 1) := ⟨by omega, by omega⟩
        have hP9 : va_P (dC, dI) vwCl [(h0, .inr (8, mX8 h1 (upd (upd (upd (upd (upd (upd (upd (upd v0 1 (u2_ 1)) 2 (u2_ 2)) 3 (u2_ 3)) 4 (u2_ 4)) 5 (u2_ 5)) 6 (u2_ 6)) 7 (u2_ 7)) 8 (u2_ 8)))), (h1, .inr (6, mX6 h2 h3 h4 h5 h6 h7 h8 h9 v1)), (h4, .inl (k4, 833, .inl f4)), (h3, .inl (k3, 833, .inl f3)), (h2, .inl (k2, 1250, .inl f2))] H := hP
        have hD9 : va_D A [(h0, .inr (8, mX8 h1 (upd (upd (upd (upd (upd (upd (upd (upd v0 1 (u2_ 1)) 2 (u2_ 2)) 3 (u2_ 3)) 4 (u2_ 4)) 5 (u2_ 5)) 6 (u2_ 6)) 7 (u2_ 7)) 8 (u2_ 8)))), (h1, .inr (6, mX6 h2 h3 h4 h5 h6 h7 h8 h9 v1)), (h4, .inl (k4, 833, .inl f4)), (h3, .inl (k3, 833, .inl f3)), (h2, .inl (k2, 1250, .inl f2))] := hD
        exact W.zret (v := 0) hx hb hr rfl (fun t ht hW => ⟨⟨0, (fun i => ([(u2_ 1), (u2_ 2), (u2_ 3), (u2_ 4), (u2_ 5), (u2_ 6), (u2_ 7), (u2_ 8)] : List (Int32)).getD i 0), rfl, hpost, (fun _ => 0), (fun _ => (fun _ => 0)), (fun _ => (fun _ => 0)), by rw [ht]; exact hP9, va_K.moved hW.alike hK, hD9⟩, hS.F ht⟩) hS.2.2 dX8_reaches_40
      · skip
        have b_ := zF_ne rfl rfl c_
        refine lv_iconst (v := 1) hx hb dX8_reaches_35 (by decide) ?_
        refine lv_goto (tgt := 40) hx hb dX8_reaches_36 (by decide) ?_
        refine W.widen (k := 0) (n := 0) (by decide) (by decide) ?_
        have b_ : -2147483648 ≤ (u2_ 1).toInt ∧ (u2_ 1).toInt ≤ 2147483647 := ⟨zlo _, zhi _⟩
        have b_ : -2147483648 ≤ (u2_ 2).toInt ∧ (u2_ 2).toInt ≤ 2147483647 := ⟨zlo _, zhi _⟩
        have b_ : -2147483648 ≤ (u2_ 3).toInt ∧ (u2_ 3).toInt ≤ 2147483647 := ⟨zlo _, zhi _⟩
        have b_ : -2147483648 ≤ (u2_ 4).toInt ∧ (u2_ 4).toInt ≤ 2147483647 := ⟨zlo _, zhi _⟩
        have b_ : -2147483648 ≤ (u2_ 6).toInt ∧ (u2_ 6).toInt ≤ 2147483647 := ⟨zlo _, zhi _⟩
        have b_ : -2147483648 ≤ (u2_ 7).toInt ∧ (u2_ 7).toInt ≤ 2147483647 := ⟨zlo _, zhi _⟩
        have b_ : -2147483648 ≤ (u2_ 8).toInt ∧ (u2_ 8).toInt ≤ 2147483647 := ⟨zlo _, zhi _⟩
        have hpost : (0 ≤ (1 : Int32).toInt ∧ (1 : Int32).toInt ≤ 1) := ⟨by omega, by omega⟩
        have hP9 : va_P (dC, dI) vwCl [(h0, .inr (8, mX8 h1 (upd (upd (upd (upd (upd (upd (upd (upd v0 1 (u2_ 1)) 2 (u2_ 2)) 3 (u2_ 3)) 4 (u2_ 4)) 5 (u2_ 5)) 6 (u2_ 6)) 7 (u2_ 7)) 8 (u2_ 8)))), (h1, .inr (6, mX6 h2 h3 h4 h5 h6 h7 h8 h9 v1)), (h4, .inl (k4, 833, .inl f4)), (h3, .inl (k3, 833, .inl f3)), (h2, .inl (k2, 1250, .inl f2))] H := hP
        have hD9 : va_D A [(h0, .inr (8, mX8 h1 (upd (upd (upd (upd (upd (upd (upd (upd v0 1 (u2_ 1)) 2 (u2_ 2)) 3 (u2_ 3)) 4 (u2_ 4)) 5 (u2_ 5)) 6 (u2_ 6)) 7 (u2_ 7)) 8 (u2_ 8)))), (h1, .inr (6, mX6 h2 h3 h4 h5 h6 h7 h8 h9 v1)), (h4, .inl (k4, 833, .inl f4)), (h3, .inl (k3, 833, .inl f3)), (h2, .inl (k2, 1250, .inl f2))] := hD
        exact W.zret (v := 1) hx hb hr rfl (fun t ht hW => ⟨⟨1, (fun i => ([(u2_ 1), (u2_ 2), (u2_ 3), (u2_ 4), (u2_ 5), (u2_ 6), (u2_ 7), (u2_ 8)] : List (Int32)).getD i 0), rfl, hpost, (fun _ => 0), (fun _ => (fun _ => 0)), (fun _ => (fun _ => 0)), by rw [ht]; exact hP9, va_K.moved hW.alike hK, hD9⟩, hS.F ht⟩) hS.2.2 dX8_reaches_40
    · skip
      refine lv_icmp_ge (tgt := 27) hx hb dX8_reaches_5 (by decide) (fun c_ => ?_) (fun c_ => ?_)
      · skip
        have b_ := zT_ge rfl zk_120 c_
        have hc : va_P (dC, dI) vwCl [(h0, .inr (8, mX8 h1 (upd (upd (upd (upd (upd (upd (upd (upd v0 1 (u2_ 1)) 2 (u2_ 2)) 3 (u2_ 3)) 4 (u2_ 4)) 5 (u2_ 5)) 6 (u2_ 6)) 7 (u2_ 7)) 8 (u2_ 8)))), (h1, .inr (6, mX6 h2 h3 h4 h5 h6 h7 h8 h9 v1)), (h4, .inl (k4, 833, .inl f4)), (h3, .inl (k3, 833, .inl f3)), (h2, .inl (k2, 1250, .inl f2))] H ∧ va_D A [(h0, .inr (8, mX8 h1 (upd (upd (upd (upd (upd (upd (upd (upd v0 1 (u2_ 1)) 2 (u2_ 2)) 3 (u2_ 3)) 4 (u2_ 4)) 5 (u2_ 5)) 6 (u2_ 6)) 7 (u2_ 7)) 8 (u2_ 8)))), (h1, .inr (6, mX6 h2 h3 h4 h5 h6 h7 h8 h9 v1)), (h4, .inl (k4, 833, .inl f4)), (h3, .inl (k3, 833, .inl f3)), (h2, .inl (k2, 1250, .inl f2))] ∧ va_S A s.heap H locs ∧ lv_has ls 3 [(0, .ref h0), (1, .int x1), (2, .int (u2_ 0))] ∧ (0 ≤ (u2_ 0).toInt ∧ (u2_ 0).toInt ≤ 120) := ⟨hP, hD, hS, lv_sub hl [0, 1, 2] rfl, ⟨by omega, by omega⟩⟩
        exact hJ27 H locs ls (fun _ => 0) (fun _ => 0) (fun _ => (fun _ => 0)) (fun _ => (fun _ => 0)) hc
      · skip
        have b_ := zF_ge rfl zk_120 c_
        refine lv_aload_n hx hb dX8_reaches_8 rfl (lv_at hl 0 rfl) ?_
        refine va_get (D := (dC, dI)) (ci := 8) (v := .int (u2_ 5)) (C := RX8) (T := TX8) (N := 9) hx hb hG zuX8 hown hK hP 0 rfl rfl 5 (by decide) (hG _ zw213) (fun _ h9 => h9) rfl dX8_reaches_9 ?_
        refine lv_iload_n hx hb dX8_reaches_12 rfl (lv_at hl 1 rfl) ?_
        have b_ : -2147483648 ≤ (u2_ 5).toInt ∧ (u2_ 5).toInt ≤ 2147483647 := ⟨zlo _, zhi _⟩
        have b_ : -2147483648 ≤ x1.toInt ∧ x1.toInt ≤ 2147483647 := ⟨zlo _, zhi _⟩
        refine lv_icmp_ge (tgt := 27) hx hb dX8_reaches_13 (by decide) (fun c_ => ?_) (fun c_ => ?_)
        · skip
          have b_ := zT_ge rfl rfl c_
          have hc : va_P (dC, dI) vwCl [(h0, .inr (8, mX8 h1 (upd (upd (upd (upd (upd (upd (upd (upd v0 1 (u2_ 1)) 2 (u2_ 2)) 3 (u2_ 3)) 4 (u2_ 4)) 5 (u2_ 5)) 6 (u2_ 6)) 7 (u2_ 7)) 8 (u2_ 8)))), (h1, .inr (6, mX6 h2 h3 h4 h5 h6 h7 h8 h9 v1)), (h4, .inl (k4, 833, .inl f4)), (h3, .inl (k3, 833, .inl f3)), (h2, .inl (k2, 1250, .inl f2))] H ∧ va_D A [(h0, .inr (8, mX8 h1 (upd (upd (upd (upd (upd (upd (upd (upd v0 1 (u2_ 1)) 2 (u2_ 2)) 3 (u2_ 3)) 4 (u2_ 4)) 5 (u2_ 5)) 6 (u2_ 6)) 7 (u2_ 7)) 8 (u2_ 8)))), (h1, .inr (6, mX6 h2 h3 h4 h5 h6 h7 h8 h9 v1)), (h4, .inl (k4, 833, .inl f4)), (h3, .inl (k3, 833, .inl f3)), (h2, .inl (k2, 1250, .inl f2))] ∧ va_S A s.heap H locs ∧ lv_has ls 3 [(0, .ref h0), (1, .int x1), (2, .int (u2_ 0))] ∧ (0 ≤ (u2_ 0).toInt ∧ (u2_ 0).toInt ≤ 120) := ⟨hP, hD, hS, lv_sub hl [0, 1, 2] rfl, ⟨by omega, by omega⟩⟩
          exact hJ27 H locs ls (fun _ => 0) (fun _ => 0) (fun _ => (fun _ => 0)) (fun _ => (fun _ => 0)) hc
        · skip
          have b_ := zF_ge rfl rfl c_
          refine lv_aload_n hx hb dX8_reaches_16 rfl (lv_at hl 0 rfl) ?_
          have b_ : -2147483648 ≤ (u2_ 1).toInt ∧ (u2_ 1).toInt ≤ 2147483647 := ⟨zlo _, zhi _⟩
          have b_ : -2147483648 ≤ (u2_ 2).toInt ∧ (u2_ 2).toInt ≤ 2147483647 := ⟨zlo _, zhi _⟩
          have b_ : -2147483648 ≤ (u2_ 3).toInt ∧ (u2_ 3).toInt ≤ 2147483647 := ⟨zlo _, zhi _⟩
          have b_ : -2147483648 ≤ (u2_ 4).toInt ∧ (u2_ 4).toInt ≤ 2147483647 := ⟨zlo _, zhi _⟩
          have b_ : -2147483648 ≤ (u2_ 6).toInt ∧ (u2_ 6).toInt ≤ 2147483647 := ⟨zlo _, zhi _⟩
          have b_ : -2147483648 ≤ (u2_ 7).toInt ∧ (u2_ 7).toInt ≤ 2147483647 := ⟨zlo _, zhi _⟩
          have b_ : -2147483648 ≤ (u2_ 8).toInt ∧ (u2_ 8).toInt ≤ 2147483647 := ⟨zlo _, zhi _⟩
          have hPc := hP.sub (ws' := [(h0, .inr (8, mX8 h1 (upd (upd (upd (upd (upd (upd (upd (upd v0 1 (u2_ 1)) 2 (u2_ 2)) 3 (u2_ 3)) 4 (u2_ 4)) 5 (u2_ 5)) 6 (u2_ 6)) 7 (u2_ 7)) 8 (u2_ 8)))), (h1, .inr (6, mX6 h2 h3 h4 h5 h6 h7 h8 h9 v1)), (h4, .inl (k4, 833, .inl f4)), (h3, .inl (k3, 833, .inl f3)), (h2, .inl (k2, 1250, .inl f2))]) [0, 1, 2, 3, 4] rfl
          have hDc := hD.sub (ws' := [(h0, .inr (8, mX8 h1 (upd (upd (upd (upd (upd (upd (upd (upd v0 1 (u2_ 1)) 2 (u2_ 2)) 3 (u2_ 3)) 4 (u2_ 4)) 5 (u2_ 5)) 6 (u2_ 6)) 7 (u2_ 7)) 8 (u2_ 8)))), (h1, .inr (6, mX6 h2 h3 h4 h5 h6 h7 h8 h9 v1)), (h4, .inl (k4, 833, .inl f4)), (h3, .inl (k3, 833, .inl f3)), (h2, .inl (k2, 1250, .inl f2))]) [0, 1, 2, 3, 4] (by decide) rfl
          have hKc := hK.sub (tys' := [(k4, .int), (k3, .int), (k2, .int)]) [0, 1, 2] rfl
          have hFc := va_free (wc := [(h0, .inr (8, mX8 h1 (upd (upd (upd (upd (upd (upd (upd (upd v0 1 (u2_ 1)) 2 (u2_ 2)) 3 (u2_ 3)) 4 (u2_ 4)) 5 (u2_ 5)) 6 (u2_ 6)) 7 (u2_ 7)) 8 (u2_ 8)))), (h1, .inr (6, mX6 h2 h3 h4 h5 h6 h7 h8 h9 v1)), (h4, .inl (k4, 833, .inl f4)), (h3, .inl (k3, 833, .inl f3)), (h2, .inl (k2, 1250, .inl f2))]) hD hS hA [0, 1, 2, 3, 4] rfl
          refine va_calli (va_runV (As := []) (rest := []) ⟨hx, hb, hml, hown, hG⟩ (sX8_nextDocument_0 l dC dI adK adV h0 h1 h4 h3 h2 h5 h6 h7 h8 h9 k4 k3 k2 H.size (upd (upd (upd (upd (upd (upd (upd (upd v0 1 (u2_ 1)) 2 (u2_ 2)) 3 (u2_ 3)) 4 (u2_ 4)) 5 (u2_ 5)) 6 (u2_ 6)) 7 (u2_ 7)) 8 (u2_ 8)) v1 f4 f3 f2 hv1 hf3) (cwV 0 hG (zgV zw257 zw232 zw233 zw224 zw234) rfl rfl rfl (by decide +kernel) ⟨Nat.le_of_ble_eq_true rfl, Nat.le_of_ble_eq_true rfl⟩) ⟨zPc_blind, va_recv hKc hPc (ci := 8) (q0 := 0) rfl rfl, zPc_pre hPc hKc hDc hE hS hFc hZ⟩ rfl rfl hl.1 rfl (lv_room (Nat.le_of_ble_eq_true rfl)) dX8_reaches_17 ⟨Nat.le_of_ble_eq_true rfl, Nat.le_of_ble_eq_true rfl⟩) hS (fun q _ h => hFc q h) hFc (fun r17_ u17_ t H1 locs ht hvm hw hB hz1 hk1 hS => ?_)
          have hw : (0 ≤ r17_.toInt ∧ r17_.toInt ≤ 1) := hw
          have b_ := hw
          obtain ⟨w17_, a17_, b17_, hP1, hK1, hD1⟩ := hB
          rw [ht] at hP1
          obtain ⟨hP, hD⟩ := va_join (wr := []) (w1 := [(h0, .inr (8, mX8 h1 (upd (upd (upd (upd (upd (upd (upd (upd v0 1 (u17_ 0)) 2 (u17_ 1)) 3 (u17_ 2)) 4 (u17_ 3)) 5 (u17_ 4)) 6 (u17_ 5)) 7 (u17_ 6)) 8 (u17_ 7)))), (h1, .inr (6, mX6 h2 h3 h4 h5 h6 h7 h8 h9 v1)), (h4, .inl (k4, 833, .inl f4)), (h3, .inl (k3, 833, .inl f3)), (h2, .inl (k2, 1250, .inl f2))]) hP hD [0, 1, 2, 3, 4] [] rfl rfl (by decide) (by decide) hk1 hFc hP1 hD1
          have hP : va_P (dC, dI) vwCl [(h0, .inr (8, mX8 h1 (upd (upd (upd (upd (upd (upd (upd (upd v0 1 (u17_ 0)) 2 (u17_ 1)) 3 (u17_ 2)) 4 (u17_ 3)) 5 (u17_ 4)) 6 (u17_ 5)) 7 (u17_ 6)) 8 (u17_ 7)))), (h1, .inr (6, mX6 h2 h3 h4 h5 h6 h7 h8 h9 v1)), (h4, .inl (k4, 833, .inl f4)), (h3, .inl (k3, 833, .inl f3)), (h2, .inl (k2, 1250, .inl f2))] H1 := hP.sub [0, 1, 2, 3, 4] rfl
          have hD : va_D A [(h0, .inr (8, mX8 h1 (upd (upd (upd (upd (upd (upd (upd (upd v0 1 (u17_ 0)) 2 (u17_ 1)) 3 (u17_ 2)) 4 (u17_ 3)) 5 (u17_ 4)) 6 (u17_ 5)) 7 (u17_ 6)) 8 (u17_ 7)))), (h1, .inr (6, mX6 h2 h3 h4 h5 h6 h7 h8 h9 v1)), (h4, .inl (k4, 833, .inl f4)), (h3, .inl (k3, 833, .inl f3)), (h2, .inl (k2, 1250, .inl f2))] := hD.sub [0, 1, 2, 3, 4] (by decide) rfl
          generalize H1 = H at hP hS ⊢
          clear hz1
          refine lv_pop hx hb dX8_reaches_20 rfl ?_
          obtain ⟨z21, e_z21⟩ : ∃ z : Int32, z = (u2_ 0) + Int32.ofInt 1 := ⟨_, rfl⟩
          have b_ := zadd (x := (u2_ 0)) (y := Int32.ofInt 1) rfl (show (Int32.ofInt 1).toInt = 1 from by decide) e_z21 (by omega) (by omega)
          refine lv_iinc (v := z21) (lv' := [(2, .int z21), (0, .ref h0), (1, .int x1)]) hx hb dX8_reaches_21 hl (k := 2) rfl e_z21.symm (by decide) rfl (fun ls hl => ?_)
          refine lv_goto (tgt := 2) hx hb dX8_reaches_24 (by decide) ?_
          have hc : va_P (dC, dI) vwCl [(h0, .inr (8, mX8 h1 (upd (upd (upd (upd (upd (upd (upd (upd v0 1 (u17_ 0)) 2 (u17_ 1)) 3 (u17_ 2)) 4 (u17_ 3)) 5 (u17_ 4)) 6 (u17_ 5)) 7 (u17_ 6)) 8 (u17_ 7)))), (h1, .inr (6, mX6 h2 h3 h4 h5 h6 h7 h8 h9 v1)), (h4, .inl (k4, 833, .inl f4)), (h3, .inl (k3, 833, .inl f3)), (h2, .inl (k2, 1250, .inl f2))] H ∧ va_D A [(h0, .inr (8, mX8 h1 (upd (upd (upd (upd (upd (upd (upd (upd v0 1 (u17_ 0)) 2 (u17_ 1)) 3 (u17_ 2)) 4 (u17_ 3)) 5 (u17_ 4)) 6 (u17_ 5)) 7 (u17_ 6)) 8 (u17_ 7)))), (h1, .inr (6, mX6 h2 h3 h4 h5 h6 h7 h8 h9 v1)), (h4, .inl (k4, 833, .inl f4)), (h3, .inl (k3, 833, .inl f3)), (h2, .inl (k2, 1250, .inl f2))] ∧ va_S A s.heap H locs ∧ lv_has ls 3 [(0, .ref h0), (1, .int x1), (2, .int z21)] ∧ (0 ≤ z21.toInt ∧ z21.toInt ≤ 120) := ⟨hP, hD, hS, lv_sub hl [1, 2, 0] rfl, ⟨by omega, by omega⟩⟩
          exact hJ2 H locs ls (fun i => ([z21, (u17_ 0), (u17_ 1), (u17_ 2), (u17_ 3), (u17_ 4), (u17_ 5), (u17_ 6), (u17_ 7)] : List (Int32)).getD i 0) (fun _ => 0) (fun _ => (fun _ => 0)) (fun _ => (fun _ => 0)) hc (show (120 - z21.toInt).toNat < (120 - (u2_ 0).toInt).toNat from by omega)
  · skip
    have b_ : -2147483648 ≤ x1.toInt ∧ x1.toInt ≤ 2147483647 := ⟨zlo _, zhi _⟩
    have hc : va_P (dC, dI) vwCl [(h0, .inr (8, mX8 h1 (upd (upd (upd (upd (upd (upd (upd (upd v0 1 (v0 1)) 2 (v0 2)) 3 (v0 3)) 4 (v0 4)) 5 (v0 5)) 6 (v0 6)) 7 (v0 7)) 8 (v0 8)))), (h1, .inr (6, mX6 h2 h3 h4 h5 h6 h7 h8 h9 v1)), (h4, .inl (k4, 833, .inl f4)), (h3, .inl (k3, 833, .inl f3)), (h2, .inl (k2, 1250, .inl f2))] s.heap ∧ va_D A [(h0, .inr (8, mX8 h1 (upd (upd (upd (upd (upd (upd (upd (upd v0 1 (v0 1)) 2 (v0 2)) 3 (v0 3)) 4 (v0 4)) 5 (v0 5)) 6 (v0 6)) 7 (v0 7)) 8 (v0 8)))), (h1, .inr (6, mX6 h2 h3 h4 h5 h6 h7 h8 h9 v1)), (h4, .inl (k4, 833, .inl f4)), (h3, .inl (k3, 833, .inl f3)), (h2, .inl (k2, 1250, .inl f2))] ∧ va_S A s.heap s.heap [] ∧ lv_has ls 3 [(0, .ref h0), (1, .int x1), (2, .int 0)] ∧ (0 ≤ (0 : Int32).toInt ∧ (0 : Int32).toInt ≤ 120) := ⟨hP, hD, hS, lv_sub hl [1, 2, 0] rfl, ⟨by omega, by omega⟩⟩
    exact hJ2 s.heap [] ls (fun i => ([0, (v0 1), (v0 2), (v0 3), (v0 4), (v0 5), (v0 6), (v0 7), (v0 8)] : List (Int32)).getD i 0) (fun _ => 0) (fun _ => (fun _ => 0)) (fun _ => (fun _ => 0)) hc
set_option maxHeartbeats 8000000 in
set_option maxRecDepth 100000 in
theorem sX8_tallyDocuments_0 (l : Launch) (dC : Nat → ClassId) (dI : Nat → Nat → Nat) (adK adV : Nat → Nat) (h0 : Nat) (h1 : Nat) (h4 : Nat) (h3 : Nat) (h2 : Nat) (h10 : Nat) (h11 : Nat) (h5 : Nat) (h6 : Nat) (h7 : Nat) (h8 : Nat) (h9 : Nat) (h12 : Nat) (h13 : Nat) (h14 : Nat) (k4 : ClassId) (k3 : ClassId) (k2 : ClassId) (k11 : ClassId) (sz : Nat) (v0 : Nat → Int32) (v1 : Nat → Int32) (f4 : Nat → Int32) (f3 : Nat → Int32) (f2 : Nat → Int32) (v10 : Nat → Int32) (f11 : Nat → Int32) (hv1 : zR rg_Postings v1) (hf3 : zA 0 1250 f3) (hv10 : zR rg_Documents v10) : Met l yX8_tallyDocuments (zw yX8_tallyDocuments cX8_tallyDocuments 4 (some .int)) { frames := 4, cells := 0, slots := 0, locals := 88 } (zPc dC dI adK adV [.ref h0, .ref h10] sz [(h0, .inr (8, mX8 h1 v0)), (h1, .inr (6, mX6 h2 h3 h4 h5 h6 h7 h8 h9 v1)), (h4, .inl (k4, 833, .inl f4)), (h3, .inl (k3, 833, .inl f3)), (h2, .inl (k2, 1250, .inl f2)), (h10, .inr (0, mX0 h11 h12 h13 h14 v10)), (h11, .inl (k11, 120, .inl f11))] [(k4, .int), (k3, .int), (k2, .int), (k11, .boolean)]) (va_Qi (fun (r : Int32) (u : Nat → Int32) => True) (fun (u : Nat → Int32) (t : State) => ∃ (ww : Nat → Int64) (aa : Nat → Nat → Int32) (bb : Nat → Nat → Int64), va_P (dC, dI) vwCl [(h0, .inr (8, mX8 h1 (upd (upd (upd (upd (upd (upd (upd (upd v0 1 (u 0)) 2 (u 1)) 3 (u 2)) 4 (u 3)) 5 (u 4)) 6 (u 5)) 7 (u 6)) 8 (u 7)))), (h1, .inr (6, mX6 h2 h3 h4 h5 h6 h7 h8 h9 v1)), (h4, .inl (k4, 833, .inl f4)), (h3, .inl (k3, 833, .inl f3)), (h2, .inl (k2, 1250, .inl f2)), (h10, .inr (0, mX0 h11 h12 h13 h14 v10)), (h11, .inl (k11, 120, .inl f11))] t.heap ∧ va_K (dC, dI) vwCl [(k4, .int), (k3, .int), (k2, .int), (k11, .boolean)] t ∧ va_D (va_A [(h0, .inr (8, mX8 h1 v0)), (h1, .inr (6, mX6 h2 h3 h4 h5 h6 h7 h8 h9 v1)), (h4, .inl (k4, 833, .inl f4)), (h3, .inl (k3, 833, .inl f3)), (h2, .inl (k2, 1250, .inl f2)), (h10, .inr (0, mX0 h11 h12 h13 h14 v10)), (h11, .inl (k11, 120, .inl f11))] sz) [(h0, .inr (8, mX8 h1 (upd (upd (upd (upd (upd (upd (upd (upd v0 1 (u 0)) 2 (u 1)) 3 (u 2)) 4 (u 3)) 5 (u 4)) 6 (u 5)) 7 (u 6)) 8 (u 7)))), (h1, .inr (6, mX6 h2 h3 h4 h5 h6 h7 h8 h9 v1)), (h4, .inl (k4, 833, .inl f4)), (h3, .inl (k3, 833, .inl f3)), (h2, .inl (k2, 1250, .inl f2)), (h10, .inr (0, mX0 h11 h12 h13 h14 v10)), (h11, .inl (k11, 120, .inl f11))]) (va_A [(h0, .inr (8, mX8 h1 v0)), (h1, .inr (6, mX6 h2 h3 h4 h5 h6 h7 h8 h9 v1)), (h4, .inl (k4, 833, .inl f4)), (h3, .inl (k3, 833, .inl f3)), (h2, .inl (k2, 1250, .inl f2)), (h10, .inr (0, mX0 h11 h12 h13 h14 v10)), (h11, .inl (k11, 120, .inl f11))] sz)) 0 0 (va_A [(h0, .inr (8, mX8 h1 v0)), (h1, .inr (6, mX6 h2 h3 h4 h5 h6 h7 h8 h9 v1)), (h4, .inl (k4, 833, .inl f4)), (h3, .inl (k3, 833, .inl f3)), (h2, .inl (k2, 1250, .inl f2)), (h10, .inr (0, mX0 h11 h12 h13 h14 v10)), (h11, .inl (k11, 120, .inl f11))] sz) := by
  refine Met.ofW (cc := cX8_tallyDocuments) (maxL := 4) (ret := (some .int)) (by decide) rfl ?_
  intro p e s m args below meth c s₁ B hml hv
  obtain ⟨rfl, hsz, hP, hK, hD0, hE, hZ⟩ := hv
  have hx := B.exec
  have hb := B.bytes
  have hr := B.returns
  have hG : ∀ w ∈ zG, w.before _ s = true := fun w h => atoms_spec (ws := (zw yX8_tallyDocuments cX8_tallyDocuments 4 (some .int))) B.pre w (List.mem_cons_of_mem _ h)
  have hown : s.vm.findClass RX8 = some m.cls := findClass_of_methodNamed B.named
  have hlocks := B.notSynchronized

  subst hsz
  have hD := hD0.self (sz := s.heap.size)
  generalize hAe : va_A [(h0, .inr (8, mX8 h1 v0)), (h1, .inr (6, mX6 h2 h3 h4 h5 h6 h7 h8 h9 v1)), (h4, .inl (k4, 833, .inl f4)), (h3, .inl (k3, 833, .inl f3)), (h2, .inl (k2, 1250, .inl f2)), (h10, .inr (0, mX0 h11 h12 h13 h14 v10)), (h11, .inl (k11, 120, .inl f11))] s.heap.size = A at hD hZ ⊢
  have hA : ∀ q : Nat, s.heap.size ≤ q → A q := fun q h => by rw [← hAe]; exact Or.inr h
  have hS : va_S A s.heap s.heap [] := va_S.rf
  have hl := lv_entry ([.ref h0, .ref h10]) (n := 4) (Nat.le_of_ble_eq_true rfl)
  rw [lg_entry_eq]
  generalize (lg_sl ([.ref h0, .ref h10]) ++ List.replicate (4 - (lg_sl ([.ref h0, .ref h10])).length) Slot.unset).toArray = ls at hl ⊢
  have hl : lv_has ls 4 [(0, .ref h0), (1, .ref h10)] := hl
  have b_ := zk_0
  refine lv_iconst (v := 0) hx hb dX8_tallyDocuments_0 (by decide) ?_
  refine lv_istore_n (lv' := [(2, .int 0), (0, .ref h0), (1, .ref h10)]) hx hb dX8_tallyDocuments_1 rfl hl (by decide) rfl (fun ls hl => ?_)
  refine lv_iconst (v := 0) hx hb dX8_tallyDocuments_2 (by decide) ?_
  refine lv_istore_n (lv' := [(3, .int 0), (2, .int 0), (0, .ref h0), (1, .ref h10)]) hx hb dX8_tallyDocuments_3 rfl hl (by decide) rfl (fun ls hl => ?_)
  refine zcutL (fun u4_ => (120 - (u4_ 1).toInt).toNat) (fun H locs ls u4_ w4_ a4_ b4_ => va_P (dC, dI) vwCl [(h0, .inr (8, mX8 h1 (upd (upd (upd (upd (upd (upd (upd (upd v0 1 (u4_ 2)) 2 (u4_ 3)) 3 (u4_ 4)) 4 (u4_ 5)) 5 (u4_ 6)) 6 (u4_ 7)) 7 (u4_ 8)) 8 (u4_ 9)))), (h1, .inr (6, mX6 h2 h3 h4 h5 h6 h7 h8 h9 v1)), (h4, .inl (k4, 833, .inl f4)), (h3, .inl (k3, 833, .inl f3)), (h2, .inl (k2, 1250, .inl f2)), (h10, .inr (0, mX0 h11 h12 h13 h14 v10)), (h11, .inl (k11, 120, .inl f11))] H ∧ va_D A [(h0, .inr (8, mX8 h1 (upd (upd (upd (upd (upd (upd (upd (upd v0 1 (u4_ 2)) 2 (u4_ 3)) 3 (u4_ 4)) 4 (u4_ 5)) 5 (u4_ 6)) 6 (u4_ 7)) 7 (u4_ 8)) 8 (u4_ 9)))), (h1, .inr (6, mX6 h2 h3 h4 h5 h6 h7 h8 h9 v1)), (h4, .inl (k4, 833, .inl f4)), (h3, .inl (k3, 833, .inl f3)), (h2, .inl (k2, 1250, .inl f2)), (h10, .inr (0, mX0 h11 h12 h13 h14 v10)), (h11, .inl (k11, 120, .inl f11))] ∧ va_S A s.heap H locs ∧ lv_has ls 4 [(0, .ref h0), (1, .ref h10), (2, .int (u4_ 0)), (3, .int (u4_ 1))] ∧ (0 ≤ (u4_ 1).toInt ∧ (u4_ 1).toInt ≤ 120)) (fun ls u4_ w4_ => F0 m 4 ls []) 0 0 ?_ (fun hJ4 => ?_)
  · skip
    intro H locs ls u4_ w4_ a4_ b4_ hc hJ4
    obtain ⟨hP, hD, hS, hl, b_⟩ := hc
    refine lv_iload_n hx hb dX8_tallyDocuments_4 rfl (lv_at hl 3 rfl) ?_
    refine lv_bipush (v := 120) hx hb dX8_tallyDocuments_5 (by decide) ?_
    refine lv_icmp_ge (tgt := 37) hx hb dX8_tallyDocuments_7 (by decide) (fun c_ => ?_) (fun c_ => ?_)
    · skip
      have b_ := zT_ge rfl zk_120 c_
      refine lv_iload_n hx hb dX8_tallyDocuments_37 rfl (lv_at hl 2 rfl) ?_
      refine W.widen (k := 0) (n := 0) (by decide) (by decide) ?_
      have b_ : -2147483648 ≤ (u4_ 0).toInt ∧ (u4_ 0).toInt ≤ 2147483647 := ⟨zlo _, zhi _⟩
      have b_ : -2147483648 ≤ (u4_ 2).toInt ∧ (u4_ 2).toInt ≤ 2147483647 := ⟨zlo _, zhi _⟩
      have b_ : -2147483648 ≤ (u4_ 3).toInt ∧ (u4_ 3).toInt ≤ 2147483647 := ⟨zlo _, zhi _⟩
      have b_ : -2147483648 ≤ (u4_ 4).toInt ∧ (u4_ 4).toInt ≤ 2147483647 := ⟨zlo _, zhi _⟩
      have b_ : -2147483648 ≤ (u4_ 5).toInt ∧ (u4_ 5).toInt ≤ 2147483647 := ⟨zlo _, zhi _⟩
      have b_ : -2147483648 ≤ (u4_ 6).toInt ∧ (u4_ 6).toInt ≤ 2147483647 := ⟨zlo _, zhi _⟩
      have b_ : -2147483648 ≤ (u4_ 7).toInt ∧ (u4_ 7).toInt ≤ 2147483647 := ⟨zlo _, zhi _⟩
      have b_ : -2147483648 ≤ (u4_ 8).toInt ∧ (u4_ 8).toInt ≤ 2147483647 := ⟨zlo _, zhi _⟩
      have b_ : -2147483648 ≤ (u4_ 9).toInt ∧ (u4_ 9).toInt ≤ 2147483647 := ⟨zlo _, zhi _⟩
      have hpost : True := trivial
      have hP9 : va_P (dC, dI) vwCl [(h0, .inr (8, mX8 h1 (upd (upd (upd (upd (upd (upd (upd (upd v0 1 (u4_ 2)) 2 (u4_ 3)) 3 (u4_ 4)) 4 (u4_ 5)) 5 (u4_ 6)) 6 (u4_ 7)) 7 (u4_ 8)) 8 (u4_ 9)))), (h1, .inr (6, mX6 h2 h3 h4 h5 h6 h7 h8 h9 v1)), (h4, .inl (k4, 833, .inl f4)), (h3, .inl (k3, 833, .inl f3)), (h2, .inl (k2, 1250, .inl f2)), (h10, .inr (0, mX0 h11 h12 h13 h14 v10)), (h11, .inl (k11, 120, .inl f11))] H := hP
      have hD9 : va_D A [(h0, .inr (8, mX8 h1 (upd (upd (upd (upd (upd (upd (upd (upd v0 1 (u4_ 2)) 2 (u4_ 3)) 3 (u4_ 4)) 4 (u4_ 5)) 5 (u4_ 6)) 6 (u4_ 7)) 7 (u4_ 8)) 8 (u4_ 9)))), (h1, .inr (6, mX6 h2 h3 h4 h5 h6 h7 h8 h9 v1)), (h4, .inl (k4, 833, .inl f4)), (h3, .inl (k3, 833, .inl f3)), (h2, .inl (k2, 1250, .inl f2)), (h10, .inr (0, mX0 h11 h12 h13 h14 v10)), (h11, .inl (k11, 120, .inl f11))] := hD
      exact W.iret (v := (u4_ 0)) hx hb hr (fun t ht hW => ⟨⟨(u4_ 0), (fun i => ([(u4_ 2), (u4_ 3), (u4_ 4), (u4_ 5), (u4_ 6), (u4_ 7), (u4_ 8), (u4_ 9)] : List (Int32)).getD i 0), rfl, hpost, (fun _ => 0), (fun _ => (fun _ => 0)), (fun _ => (fun _ => 0)), by rw [ht]; exact hP9, va_K.moved hW.alike hK, hD9⟩, hS.F ht⟩) hS.2.2 dX8_tallyDocuments_38
    · skip
      have b_ := zF_ge rfl zk_120 c_
      refine lv_aload_n hx hb dX8_tallyDocuments_10 rfl (lv_at hl 0 rfl) ?_
      have b_ : -2147483648 ≤ (u4_ 2).toInt ∧ (u4_ 2).toInt ≤ 2147483647 := ⟨zlo _, zhi _⟩
      have b_ : -2147483648 ≤ (u4_ 3).toInt ∧ (u4_ 3).toInt ≤ 2147483647 := ⟨zlo _, zhi _⟩
      have b_ : -2147483648 ≤ (u4_ 4).toInt ∧ (u4_ 4).toInt ≤ 2147483647 := ⟨zlo _, zhi _⟩
      have b_ : -2147483648 ≤ (u4_ 5).toInt ∧ (u4_ 5).toInt ≤ 2147483647 := ⟨zlo _, zhi _⟩
      have b_ : -2147483648 ≤ (u4_ 6).toInt ∧ (u4_ 6).toInt ≤ 2147483647 := ⟨zlo _, zhi _⟩
      have b_ : -2147483648 ≤ (u4_ 7).toInt ∧ (u4_ 7).toInt ≤ 2147483647 := ⟨zlo _, zhi _⟩
      have b_ : -2147483648 ≤ (u4_ 8).toInt ∧ (u4_ 8).toInt ≤ 2147483647 := ⟨zlo _, zhi _⟩
      have b_ : -2147483648 ≤ (u4_ 9).toInt ∧ (u4_ 9).toInt ≤ 2147483647 := ⟨zlo _, zhi _⟩
      have hPc := hP.sub (ws' := [(h0, .inr (8, mX8 h1 (upd (upd (upd (upd (upd (upd (upd (upd v0 1 (u4_ 2)) 2 (u4_ 3)) 3 (u4_ 4)) 4 (u4_ 5)) 5 (u4_ 6)) 6 (u4_ 7)) 7 (u4_ 8)) 8 (u4_ 9)))), (h1, .inr (6, mX6 h2 h3 h4 h5 h6 h7 h8 h9 v1)), (h4, .inl (k4, 833, .inl f4)), (h3, .inl (k3, 833, .inl f3)), (h2, .inl (k2, 1250, .inl f2))]) [0, 1, 2, 3, 4] rfl
      have hDc := hD.sub (ws' := [(h0, .inr (8, mX8 h1 (upd (upd (upd (upd (upd (upd (upd (upd v0 1 (u4_ 2)) 2 (u4_ 3)) 3 (u4_ 4)) 4 (u4_ 5)) 5 (u4_ 6)) 6 (u4_ 7)) 7 (u4_ 8)) 8 (u4_ 9)))), (h1, .inr (6, mX6 h2 h3 h4 h5 h6 h7 h8 h9 v1)), (h4, .inl (k4, 833, .inl f4)), (h3, .inl (k3, 833, .inl f3)), (h2, .inl (k2, 1250, .inl f2))]) [0, 1, 2, 3, 4] (by decide) rfl
      have hKc := hK.sub (tys' := [(k4, .int), (k3, .int), (k2, .int)]) [0, 1, 2] rfl
      have hFc := va_free (wc := [(h0, .inr (8, mX8 h1 (upd (upd (upd (upd (upd (upd (upd (upd v0 1 (u4_ 2)) 2 (u4_ 3)) 3 (u4_ 4)) 4 (u4_ 5)) 5 (u4_ 6)) 6 (u4_ 7)) 7 (u4_ 8)) 8 (u4_ 9)))), (h1, .inr (6, mX6 h2 h3 h4 h5 h6 h7 h8 h9 v1)), (h4, .inl (k4, 833, .inl f4)), (h3, .inl (k3, 833, .inl f3)), (h2, .inl (k2, 1250, .inl f2))]) hD hS hA [0, 1, 2, 3, 4] rfl
      refine va_calli (va_runV (As := []) (rest := []) ⟨hx, hb, hml, hown, hG⟩ (sX8_nextDocument_0 l dC dI adK adV h0 h1 h4 h3 h2 h5 h6 h7 h8 h9 k4 k3 k2 H.size (upd (upd (upd (upd (upd (upd (upd (upd v0 1 (u4_ 2)) 2 (u4_ 3)) 3 (u4_ 4)) 4 (u4_ 5)) 5 (u4_ 6)) 6 (u4_ 7)) 7 (u4_ 8)) 8 (u4_ 9)) v1 f4 f3 f2 hv1 hf3) (cwV 0 hG (zgV zw257 zw232 zw233 zw224 zw234) rfl rfl rfl (by decide +kernel) ⟨Nat.le_of_ble_eq_true rfl, Nat.le_of_ble_eq_true rfl⟩) ⟨zPc_blind, va_recv hKc hPc (ci := 8) (q0 := 0) rfl rfl, zPc_pre hPc hKc hDc hE hS hFc hZ⟩ rfl rfl hl.1 rfl (lv_room (Nat.le_of_ble_eq_true rfl)) dX8_tallyDocuments_11 ⟨Nat.le_of_ble_eq_true rfl, Nat.le_of_ble_eq_true rfl⟩) hS (fun q _ h => hFc q h) hFc (fun r11_ u11_ t H1 locs ht hvm hw hB hz1 hk1 hS => ?_)
      have hw : (0 ≤ r11_.toInt ∧ r11_.toInt ≤ 1) := hw
      have b_ := hw
      obtain ⟨w11_, a11_, b11_, hP1, hK1, hD1⟩ := hB
      rw [ht] at hP1
      obtain ⟨hP, hD⟩ := va_join (wr := [(h10, .inr (0, mX0 h11 h12 h13 h14 v10)), (h11, .inl (k11, 120, .inl f11))]) (w1 := [(h0, .inr (8, mX8 h1 (upd (upd (upd (upd (upd (upd (upd (upd v0 1 (u11_ 0)) 2 (u11_ 1)) 3 (u11_ 2)) 4 (u11_ 3)) 5 (u11_ 4)) 6 (u11_ 5)) 7 (u11_ 6)) 8 (u11_ 7)))), (h1, .inr (6, mX6 h2 h3 h4 h5 h6 h7 h8 h9 v1)), (h4, .inl (k4, 833, .inl f4)), (h3, .inl (k3, 833, .inl f3)), (h2, .inl (k2, 1250, .inl f2))]) hP hD [0, 1, 2, 3, 4] [5, 6] rfl rfl (by decide) (by decide) hk1 hFc hP1 hD1
      have hP : va_P (dC, dI) vwCl [(h0, .inr (8, mX8 h1 (upd (upd (upd (upd (upd (upd (upd (upd v0 1 (u11_ 0)) 2 (u11_ 1)) 3 (u11_ 2)) 4 (u11_ 3)) 5 (u11_ 4)) 6 (u11_ 5)) 7 (u11_ 6)) 8 (u11_ 7)))), (h1, .inr (6, mX6 h2 h3 h4 h5 h6 h7 h8 h9 v1)), (h4, .inl (k4, 833, .inl f4)), (h3, .inl (k3, 833, .inl f3)), (h2, .inl (k2, 1250, .inl f2)), (h10, .inr (0, mX0 h11 h12 h13 h14 v10)), (h11, .inl (k11, 120, .inl f11))] H1 := hP.sub [2, 3, 4, 5, 6, 0, 1] rfl
      have hD : va_D A [(h0, .inr (8, mX8 h1 (upd (upd (upd (upd (upd (upd (upd (upd v0 1 (u11_ 0)) 2 (u11_ 1)) 3 (u11_ 2)) 4 (u11_ 3)) 5 (u11_ 4)) 6 (u11_ 5)) 7 (u11_ 6)) 8 (u11_ 7)))), (h1, .inr (6, mX6 h2 h3 h4 h5 h6 h7 h8 h9 v1)), (h4, .inl (k4, 833, .inl f4)), (h3, .inl (k3, 833, .inl f3)), (h2, .inl (k2, 1250, .inl f2)), (h10, .inr (0, mX0 h11 h12 h13 h14 v10)), (h11, .inl (k11, 120, .inl f11))] := hD.sub [2, 3, 4, 5, 6, 0, 1] (by decide) rfl
      generalize H1 = H at hP hS ⊢
      clear hz1
      refine lv_if_eq (tgt := 37) hx hb dX8_tallyDocuments_14 (by decide) (fun c_ => ?_) (fun c_ => ?_)
      · skip
        have b_ := zT_eq rfl zk_0 c_
        refine lv_iload_n hx hb dX8_tallyDocuments_37 rfl (lv_at hl 2 rfl) ?_
        refine W.widen (k := 0) (n := 0) (by decide) (by decide) ?_
        have b_ : -2147483648 ≤ (u4_ 0).toInt ∧ (u4_ 0).toInt ≤ 2147483647 := ⟨zlo _, zhi _⟩
        have b_ : -2147483648 ≤ (u11_ 0).toInt ∧ (u11_ 0).toInt ≤ 2147483647 := ⟨zlo _, zhi _⟩
        have b_ : -2147483648 ≤ (u11_ 1).toInt ∧ (u11_ 1).toInt ≤ 2147483647 := ⟨zlo _, zhi _⟩
        have b_ : -2147483648 ≤ (u11_ 2).toInt ∧ (u11_ 2).toInt ≤ 2147483647 := ⟨zlo _, zhi _⟩
        have b_ : -2147483648 ≤ (u11_ 3).toInt ∧ (u11_ 3).toInt ≤ 2147483647 := ⟨zlo _, zhi _⟩
        have b_ : -2147483648 ≤ (u11_ 4).toInt ∧ (u11_ 4).toInt ≤ 2147483647 := ⟨zlo _, zhi _⟩
        have b_ : -2147483648 ≤ (u11_ 5).toInt ∧ (u11_ 5).toInt ≤ 2147483647 := ⟨zlo _, zhi _⟩
        have b_ : -2147483648 ≤ (u11_ 6).toInt ∧ (u11_ 6).toInt ≤ 2147483647 := ⟨zlo _, zhi _⟩
        have b_ : -2147483648 ≤ (u11_ 7).toInt ∧ (u11_ 7).toInt ≤ 2147483647 := ⟨zlo _, zhi _⟩
        have hpost : True := trivial
        have hP9 : va_P (dC, dI) vwCl [(h0, .inr (8, mX8 h1 (upd (upd (upd (upd (upd (upd (upd (upd v0 1 (u11_ 0)) 2 (u11_ 1)) 3 (u11_ 2)) 4 (u11_ 3)) 5 (u11_ 4)) 6 (u11_ 5)) 7 (u11_ 6)) 8 (u11_ 7)))), (h1, .inr (6, mX6 h2 h3 h4 h5 h6 h7 h8 h9 v1)), (h4, .inl (k4, 833, .inl f4)), (h3, .inl (k3, 833, .inl f3)), (h2, .inl (k2, 1250, .inl f2)), (h10, .inr (0, mX0 h11 h12 h13 h14 v10)), (h11, .inl (k11, 120, .inl f11))] H := hP
        have hD9 : va_D A [(h0, .inr (8, mX8 h1 (upd (upd (upd (upd (upd (upd (upd (upd v0 1 (u11_ 0)) 2 (u11_ 1)) 3 (u11_ 2)) 4 (u11_ 3)) 5 (u11_ 4)) 6 (u11_ 5)) 7 (u11_ 6)) 8 (u11_ 7)))), (h1, .inr (6, mX6 h2 h3 h4 h5 h6 h7 h8 h9 v1)), (h4, .inl (k4, 833, .inl f4)), (h3, .inl (k3, 833, .inl f3)), (h2, .inl (k2, 1250, .inl f2)), (h10, .inr (0, mX0 h11 h12 h13 h14 v10)), (h11, .inl (k11, 120, .inl f11))] := hD
        exact W.iret (v := (u4_ 0)) hx hb hr (fun t ht hW => ⟨⟨(u4_ 0), (fun i => ([(u11_ 0), (u11_ 1), (u11_ 2), (u11_ 3), (u11_ 4), (u11_ 5), (u11_ 6), (u11_ 7)] : List (Int32)).getD i 0), rfl, hpost, (fun _ => 0), (fun _ => (fun _ => 0)), (fun _ => (fun _ => 0)), by rw [ht]; exact hP9, va_K.moved hW.alike hK, hD9⟩, hS.F ht⟩) hS.2.2 dX8_tallyDocuments_38
      · skip
        have b_ := zF_eq rfl zk_0 c_
        refine lv_aload_n hx hb dX8_tallyDocuments_17 rfl (lv_at hl 1 rfl) ?_
        refine lv_aload_n hx hb dX8_tallyDocuments_18 rfl (lv_at hl 0 rfl) ?_
        refine va_get (D := (dC, dI)) (ci := 8) (v := .int (u11_ 4)) (C := RX8) (T := TX8) (N := 9) hx hb hG zuX8 hown hK hP 0 rfl rfl 5 (by decide) (hG _ zw213) (fun _ h9 => h9) rfl dX8_tallyDocuments_19 ?_
        have hPc := hP.sub (ws' := [(h10, .inr (0, mX0 h11 h12 h13 h14 v10)), (h11, .inl (k11, 120, .inl f11))]) [5, 6] rfl
        have hDc := hD.sub (ws' := [(h10, .inr (0, mX0 h11 h12 h13 h14 v10)), (h11, .inl (k11, 120, .inl f11))]) [5, 6] (by decide) rfl
        have hKc := hK.sub (tys' := [(k11, .boolean)]) [3] rfl
        have hFc := va_free (wc := [(h10, .inr (0, mX0 h11 h12 h13 h14 v10)), (h11, .inl (k11, 120, .inl f11))]) hD hS hA [5, 6] rfl
        refine va_calli (va_runV (As := [.int (u11_ 4)]) (rest := []) ⟨hx, hb, hml, hown, hG⟩ (sX0_isOn_0 l dC dI adK adV h10 h11 h12 h13 h14 k11 H.size v10 f11 (u11_ 4) hv10) (cwV 1 hG (zgV zw258 zw140 zw141 zw137 zw142) rfl rfl rfl (by decide +kernel) ⟨Nat.le_of_ble_eq_true rfl, Nat.le_of_ble_eq_true rfl⟩) ⟨zPc_blind, va_recv hKc hPc (ci := 0) (q0 := 0) rfl rfl, zPc_pre hPc hKc hDc hE hS hFc hZ⟩ rfl rfl hl.1 rfl (lv_room (Nat.le_of_ble_eq_true rfl)) dX8_tallyDocuments_22 ⟨Nat.le_of_ble_eq_true rfl, Nat.le_of_ble_eq_true rfl⟩) hS (fun q _ h => hFc q h) hFc (fun r22_ u22_ t H1 locs ht hvm hw hB hz1 hk1 hS => ?_)
        have hw : (0 ≤ r22_.toInt ∧ r22_.toInt ≤ 1) ∧ (r22_.toInt = 1 → (0 ≤ (u11_ 4).toInt ∧ (u11_ 4).toInt ≤ 119)) ∧ (r22_.toInt = 1 → (u11_ 4).toInt < (v10 4).toInt) := hw
        obtain ⟨b_, hX22_0, hX22_1⟩ := hw
        obtain ⟨w22_, a22_, b22_, hP1, hK1, hD1⟩ := hB
        rw [ht] at hP1
        obtain ⟨hP, hD⟩ := va_join (wr := [(h0, .inr (8, mX8 h1 (upd (upd (upd (upd (upd (upd (upd (upd v0 1 (u11_ 0)) 2 (u11_ 1)) 3 (u11_ 2)) 4 (u11_ 3)) 5 (u11_ 4)) 6 (u11_ 5)) 7 (u11_ 6)) 8 (u11_ 7)))), (h1, .inr (6, mX6 h2 h3 h4 h5 h6 h7 h8 h9 v1)), (h4, .inl (k4, 833, .inl f4)), (h3, .inl (k3, 833, .inl f3)), (h2, .inl (k2, 1250, .inl f2))]) (w1 := [(h10, .inr (0, mX0 h11 h12 h13 h14 v10)), (h11, .inl (k11, 120, .inl f11))]) hP hD [5, 6] [0, 1, 2, 3, 4] rfl rfl (by decide) (by decide) hk1 hFc hP1 hD1
        have hP : va_P (dC, dI) vwCl [(h0, .inr (8, mX8 h1 (upd (upd (upd (upd (upd (upd (upd (upd v0 1 (u11_ 0)) 2 (u11_ 1)) 3 (u11_ 2)) 4 (u11_ 3)) 5 (u11_ 4)) 6 (u11_ 5)) 7 (u11_ 6)) 8 (u11_ 7)))), (h1, .inr (6, mX6 h2 h3 h4 h5 h6 h7 h8 h9 v1)), (h4, .inl (k4, 833, .inl f4)), (h3, .inl (k3, 833, .inl f3)), (h2, .inl (k2, 1250, .inl f2)), (h10, .inr (0, mX0 h11 h12 h13 h14 v10)), (h11, .inl (k11, 120, .inl f11))] H1 := hP.sub [0, 1, 2, 3, 4, 5, 6] rfl
        have hD : va_D A [(h0, .inr (8, mX8 h1 (upd (upd (upd (upd (upd (upd (upd (upd v0 1 (u11_ 0)) 2 (u11_ 1)) 3 (u11_ 2)) 4 (u11_ 3)) 5 (u11_ 4)) 6 (u11_ 5)) 7 (u11_ 6)) 8 (u11_ 7)))), (h1, .inr (6, mX6 h2 h3 h4 h5 h6 h7 h8 h9 v1)), (h4, .inl (k4, 833, .inl f4)), (h3, .inl (k3, 833, .inl f3)), (h2, .inl (k2, 1250, .inl f2)), (h10, .inr (0, mX0 h11 h12 h13 h14 v10)), (h11, .inl (k11, 120, .inl f11))] := hD.sub [0, 1, 2, 3, 4, 5, 6] (by decide) rfl
        generalize H1 = H at hP hS ⊢
        clear hz1
        refine lv_if_eq (tgt := 31) hx hb dX8_tallyDocuments_25 (by decide) (fun c_ => ?_) (fun c_ => ?_)
        · skip
          have b_ := zT_eq rfl zk_0 c_
          obtain ⟨z31, e_z31⟩ : ∃ z : Int32, z = (u4_ 1) + Int32.ofInt 1 := ⟨_, rfl⟩
          have b_ := zadd (x := (u4_ 1)) (y := Int32.ofInt 1) rfl (show (Int32.ofInt 1).toInt = 1 from by decide) e_z31 (by omega) (by omega)
          refine lv_iinc (v := z31) (lv' := [(3, .int z31), (0, .ref h0), (1, .ref h10), (2, .int (u4_ 0))]) hx hb dX8_tallyDocuments_31 hl (k := 3) rfl e_z31.symm (by decide) rfl (fun ls hl => ?_)
          refine lv_goto (tgt := 4) hx hb dX8_tallyDocuments_34 (by decide) ?_
          have b_ : -2147483648 ≤ (u4_ 0).toInt ∧ (u4_ 0).toInt ≤ 2147483647 := ⟨zlo _, zhi _⟩
          have hc : va_P (dC, dI) vwCl [(h0, .inr (8, mX8 h1 (upd (upd (upd (upd (upd (upd (upd (upd v0 1 (u11_ 0)) 2 (u11_ 1)) 3 (u11_ 2)) 4 (u11_ 3)) 5 (u11_ 4)) 6 (u11_ 5)) 7 (u11_ 6)) 8 (u11_ 7)))), (h1, .inr (6, mX6 h2 h3 h4 h5 h6 h7 h8 h9 v1)), (h4, .inl (k4, 833, .inl f4)), (h3, .inl (k3, 833, .inl f3)), (h2, .inl (k2, 1250, .inl f2)), (h10, .inr (0, mX0 h11 h12 h13 h14 v10)), (h11, .inl (k11, 120, .inl f11))] H ∧ va_D A [(h0, .inr (8, mX8 h1 (upd (upd (upd (upd (upd (upd (upd (upd v0 1 (u11_ 0)) 2 (u11_ 1)) 3 (u11_ 2)) 4 (u11_ 3)) 5 (u11_ 4)) 6 (u11_ 5)) 7 (u11_ 6)) 8 (u11_ 7)))), (h1, .inr (6, mX6 h2 h3 h4 h5 h6 h7 h8 h9 v1)), (h4, .inl (k4, 833, .inl f4)), (h3, .inl (k3, 833, .inl f3)), (h2, .inl (k2, 1250, .inl f2)), (h10, .inr (0, mX0 h11 h12 h13 h14 v10)), (h11, .inl (k11, 120, .inl f11))] ∧ va_S A s.heap H locs ∧ lv_has ls 4 [(0, .ref h0), (1, .ref h10), (2, .int (u4_ 0)), (3, .int z31)] ∧ (0 ≤ z31.toInt ∧ z31.toInt ≤ 120) := ⟨hP, hD, hS, lv_sub hl [1, 2, 3, 0] rfl, ⟨by omega, by omega⟩⟩
          exact hJ4 H locs ls (fun i => ([(u4_ 0), z31, (u11_ 0), (u11_ 1), (u11_ 2), (u11_ 3), (u11_ 4), (u11_ 5), (u11_ 6), (u11_ 7)] : List (Int32)).getD i 0) (fun _ => 0) (fun _ => (fun _ => 0)) (fun _ => (fun _ => 0)) hc (show (120 - z31.toInt).toNat < (120 - (u4_ 1).toInt).toNat from by omega)
        · skip
          have b_ := zF_eq rfl zk_0 c_
          have b_ : -2147483648 ≤ (u4_ 0).toInt ∧ (u4_ 0).toInt ≤ 2147483647 := ⟨zlo _, zhi _⟩
          obtain ⟨z28, e_z28⟩ : ∃ z : Int32, z = (u4_ 0) + Int32.ofInt 1 := ⟨_, rfl⟩
          refine lv_iinc (v := z28) (lv' := [(2, .int z28), (0, .ref h0), (1, .ref h10), (3, .int (u4_ 1))]) hx hb dX8_tallyDocuments_28 hl (k := 2) rfl e_z28.symm (by decide) rfl (fun ls hl => ?_)
          obtain ⟨z31, e_z31⟩ : ∃ z : Int32, z = (u4_ 1) + Int32.ofInt 1 := ⟨_, rfl⟩
          have b_ := zadd (x := (u4_ 1)) (y := Int32.ofInt 1) rfl (show (Int32.ofInt 1).toInt = 1 from by decide) e_z31 (by omega) (by omega)
          refine lv_iinc (v := z31) (lv' := [(3, .int z31), (2, .int z28), (0, .ref h0), (1, .ref h10)]) hx hb dX8_tallyDocuments_31 hl (k := 3) rfl e_z31.symm (by decide) rfl (fun ls hl => ?_)
          refine lv_goto (tgt := 4) hx hb dX8_tallyDocuments_34 (by decide) ?_
          have b_ : -2147483648 ≤ z28.toInt ∧ z28.toInt ≤ 2147483647 := ⟨zlo _, zhi _⟩
          have hc : va_P (dC, dI) vwCl [(h0, .inr (8, mX8 h1 (upd (upd (upd (upd (upd (upd (upd (upd v0 1 (u11_ 0)) 2 (u11_ 1)) 3 (u11_ 2)) 4 (u11_ 3)) 5 (u11_ 4)) 6 (u11_ 5)) 7 (u11_ 6)) 8 (u11_ 7)))), (h1, .inr (6, mX6 h2 h3 h4 h5 h6 h7 h8 h9 v1)), (h4, .inl (k4, 833, .inl f4)), (h3, .inl (k3, 833, .inl f3)), (h2, .inl (k2, 1250, .inl f2)), (h10, .inr (0, mX0 h11 h12 h13 h14 v10)), (h11, .inl (k11, 120, .inl f11))] H ∧ va_D A [(h0, .inr (8, mX8 h1 (upd (upd (upd (upd (upd (upd (upd (upd v0 1 (u11_ 0)) 2 (u11_ 1)) 3 (u11_ 2)) 4 (u11_ 3)) 5 (u11_ 4)) 6 (u11_ 5)) 7 (u11_ 6)) 8 (u11_ 7)))), (h1, .inr (6, mX6 h2 h3 h4 h5 h6 h7 h8 h9 v1)), (h4, .inl (k4, 833, .inl f4)), (h3, .inl (k3, 833, .inl f3)), (h2, .inl (k2, 1250, .inl f2)), (h10, .inr (0, mX0 h11 h12 h13 h14 v10)), (h11, .inl (k11, 120, .inl f11))] ∧ va_S A s.heap H locs ∧ lv_has ls 4 [(0, .ref h0), (1, .ref h10), (2, .int z28), (3, .int z31)] ∧ (0 ≤ z31.toInt ∧ z31.toInt ≤ 120) := ⟨hP, hD, hS, lv_sub hl [2, 3, 1, 0] rfl, ⟨by omega, by omega⟩⟩
          exact hJ4 H locs ls (fun i => ([z28, z31, (u11_ 0), (u11_ 1), (u11_ 2), (u11_ 3), (u11_ 4), (u11_ 5), (u11_ 6), (u11_ 7)] : List (Int32)).getD i 0) (fun _ => 0) (fun _ => (fun _ => 0)) (fun _ => (fun _ => 0)) hc (show (120 - z31.toInt).toNat < (120 - (u4_ 1).toInt).toNat from by omega)
  · skip
    have hc : va_P (dC, dI) vwCl [(h0, .inr (8, mX8 h1 (upd (upd (upd (upd (upd (upd (upd (upd v0 1 (v0 1)) 2 (v0 2)) 3 (v0 3)) 4 (v0 4)) 5 (v0 5)) 6 (v0 6)) 7 (v0 7)) 8 (v0 8)))), (h1, .inr (6, mX6 h2 h3 h4 h5 h6 h7 h8 h9 v1)), (h4, .inl (k4, 833, .inl f4)), (h3, .inl (k3, 833, .inl f3)), (h2, .inl (k2, 1250, .inl f2)), (h10, .inr (0, mX0 h11 h12 h13 h14 v10)), (h11, .inl (k11, 120, .inl f11))] s.heap ∧ va_D A [(h0, .inr (8, mX8 h1 (upd (upd (upd (upd (upd (upd (upd (upd v0 1 (v0 1)) 2 (v0 2)) 3 (v0 3)) 4 (v0 4)) 5 (v0 5)) 6 (v0 6)) 7 (v0 7)) 8 (v0 8)))), (h1, .inr (6, mX6 h2 h3 h4 h5 h6 h7 h8 h9 v1)), (h4, .inl (k4, 833, .inl f4)), (h3, .inl (k3, 833, .inl f3)), (h2, .inl (k2, 1250, .inl f2)), (h10, .inr (0, mX0 h11 h12 h13 h14 v10)), (h11, .inl (k11, 120, .inl f11))] ∧ va_S A s.heap s.heap [] ∧ lv_has ls 4 [(0, .ref h0), (1, .ref h10), (2, .int 0), (3, .int 0)] ∧ (0 ≤ (0 : Int32).toInt ∧ (0 : Int32).toInt ≤ 120) := ⟨hP, hD, hS, lv_sub hl [2, 3, 1, 0] rfl, ⟨by omega, by omega⟩⟩
    exact hJ4 s.heap [] ls (fun i => ([0, 0, (v0 1), (v0 2), (v0 3), (v0 4), (v0 5), (v0 6), (v0 7), (v0 8)] : List (Int32)).getD i 0) (fun _ => 0) (fun _ => (fun _ => 0)) (fun _ => (fun _ => 0)) hc
set_option maxHeartbeats 8000000 in
set_option maxRecDepth 100000 in
theorem sX8_tallyPlaces_0 (l : Launch) (dC : Nat → ClassId) (dI : Nat → Nat → Nat) (adK adV : Nat → Nat) (h0 : Nat) (h1 : Nat) (h4 : Nat) (h3 : Nat) (h2 : Nat) (h10 : Nat) (h11 : Nat) (h5 : Nat) (h6 : Nat) (h7 : Nat) (h8 : Nat) (h9 : Nat) (h12 : Nat) (h13 : Nat) (h14 : Nat) (k4 : ClassId) (k3 : ClassId) (k2 : ClassId) (k11 : ClassId) (sz : Nat) (v0 : Nat → Int32) (v1 : Nat → Int32) (f4 : Nat → Int32) (f3 : Nat → Int32) (f2 : Nat → Int32) (v10 : Nat → Int32) (f11 : Nat → Int32) (hv1 : zR rg_Postings v1) (hf3 : zA 0 1250 f3) (hv10 : zR rg_Documents v10) : Met l yX8_tallyPlaces (zw yX8_tallyPlaces cX8_tallyPlaces 4 (some .int)) { frames := 4, cells := 0, slots := 0, locals := 88 } (zPc dC dI adK adV [.ref h0, .ref h10] sz [(h0, .inr (8, mX8 h1 v0)), (h1, .inr (6, mX6 h2 h3 h4 h5 h6 h7 h8 h9 v1)), (h4, .inl (k4, 833, .inl f4)), (h3, .inl (k3, 833, .inl f3)), (h2, .inl (k2, 1250, .inl f2)), (h10, .inr (0, mX0 h11 h12 h13 h14 v10)), (h11, .inl (k11, 120, .inl f11))] [(k4, .int), (k3, .int), (k2, .int), (k11, .boolean)]) (va_Qi (fun (r : Int32) (u : Nat → Int32) => True) (fun (u : Nat → Int32) (t : State) => ∃ (ww : Nat → Int64) (aa : Nat → Nat → Int32) (bb : Nat → Nat → Int64), va_P (dC, dI) vwCl [(h0, .inr (8, mX8 h1 (upd (upd (upd (upd (upd (upd (upd (upd v0 1 (u 0)) 2 (u 1)) 3 (u 2)) 4 (u 3)) 5 (u 4)) 6 (u 5)) 7 (u 6)) 8 (u 7)))), (h1, .inr (6, mX6 h2 h3 h4 h5 h6 h7 h8 h9 v1)), (h4, .inl (k4, 833, .inl f4)), (h3, .inl (k3, 833, .inl f3)), (h2, .inl (k2, 1250, .inl f2)), (h10, .inr (0, mX0 h11 h12 h13 h14 v10)), (h11, .inl (k11, 120, .inl f11))] t.heap ∧ va_K (dC, dI) vwCl [(k4, .int), (k3, .int), (k2, .int), (k11, .boolean)] t ∧ va_D (va_A [(h0, .inr (8, mX8 h1 v0)), (h1, .inr (6, mX6 h2 h3 h4 h5 h6 h7 h8 h9 v1)), (h4, .inl (k4, 833, .inl f4)), (h3, .inl (k3, 833, .inl f3)), (h2, .inl (k2, 1250, .inl f2)), (h10, .inr (0, mX0 h11 h12 h13 h14 v10)), (h11, .inl (k11, 120, .inl f11))] sz) [(h0, .inr (8, mX8 h1 (upd (upd (upd (upd (upd (upd (upd (upd v0 1 (u 0)) 2 (u 1)) 3 (u 2)) 4 (u 3)) 5 (u 4)) 6 (u 5)) 7 (u 6)) 8 (u 7)))), (h1, .inr (6, mX6 h2 h3 h4 h5 h6 h7 h8 h9 v1)), (h4, .inl (k4, 833, .inl f4)), (h3, .inl (k3, 833, .inl f3)), (h2, .inl (k2, 1250, .inl f2)), (h10, .inr (0, mX0 h11 h12 h13 h14 v10)), (h11, .inl (k11, 120, .inl f11))]) (va_A [(h0, .inr (8, mX8 h1 v0)), (h1, .inr (6, mX6 h2 h3 h4 h5 h6 h7 h8 h9 v1)), (h4, .inl (k4, 833, .inl f4)), (h3, .inl (k3, 833, .inl f3)), (h2, .inl (k2, 1250, .inl f2)), (h10, .inr (0, mX0 h11 h12 h13 h14 v10)), (h11, .inl (k11, 120, .inl f11))] sz)) 0 0 (va_A [(h0, .inr (8, mX8 h1 v0)), (h1, .inr (6, mX6 h2 h3 h4 h5 h6 h7 h8 h9 v1)), (h4, .inl (k4, 833, .inl f4)), (h3, .inl (k3, 833, .inl f3)), (h2, .inl (k2, 1250, .inl f2)), (h10, .inr (0, mX0 h11 h12 h13 h14 v10)), (h11, .inl (k11, 120, .inl f11))] sz) := by
  refine Met.ofW (cc := cX8_tallyPlaces) (maxL := 4) (ret := (some .int)) (by decide) rfl ?_
  intro p e s m args below meth c s₁ B hml hv
  obtain ⟨rfl, hsz, hP, hK, hD0, hE, hZ⟩ := hv
  have hx := B.exec
  have hb := B.bytes
  have hr := B.returns
  have hG : ∀ w ∈ zG, w.before _ s = true := fun w h => atoms_spec (ws := (zw yX8_tallyPlaces cX8_tallyPlaces 4 (some .int))) B.pre w (List.mem_cons_of_mem _ h)
  have hown : s.vm.findClass RX8 = some m.cls := findClass_of_methodNamed B.named
  have hlocks := B.notSynchronized

  subst hsz
  have hD := hD0.self (sz := s.heap.size)
  generalize hAe : va_A [(h0, .inr (8, mX8 h1 v0)), (h1, .inr (6, mX6 h2 h3 h4 h5 h6 h7 h8 h9 v1)), (h4, .inl (k4, 833, .inl f4)), (h3, .inl (k3, 833, .inl f3)), (h2, .inl (k2, 1250, .inl f2)), (h10, .inr (0, mX0 h11 h12 h13 h14 v10)), (h11, .inl (k11, 120, .inl f11))] s.heap.size = A at hD hZ ⊢
  have hA : ∀ q : Nat, s.heap.size ≤ q → A q := fun q h => by rw [← hAe]; exact Or.inr h
  have hS : va_S A s.heap s.heap [] := va_S.rf
  have hl := lv_entry ([.ref h0, .ref h10]) (n := 4) (Nat.le_of_ble_eq_true rfl)
  rw [lg_entry_eq]
  generalize (lg_sl ([.ref h0, .ref h10]) ++ List.replicate (4 - (lg_sl ([.ref h0, .ref h10])).length) Slot.unset).toArray = ls at hl ⊢
  have hl : lv_has ls 4 [(0, .ref h0), (1, .ref h10)] := hl
  have b_ := zk_0
  refine lv_iconst (v := 0) hx hb dX8_tallyPlaces_0 (by decide) ?_
  refine lv_istore_n (lv' := [(2, .int 0), (0, .ref h0), (1, .ref h10)]) hx hb dX8_tallyPlaces_1 rfl hl (by decide) rfl (fun ls hl => ?_)
  refine lv_iconst (v := 0) hx hb dX8_tallyPlaces_2 (by decide) ?_
  refine lv_istore_n (lv' := [(3, .int 0), (2, .int 0), (0, .ref h0), (1, .ref h10)]) hx hb dX8_tallyPlaces_3 rfl hl (by decide) rfl (fun ls hl => ?_)
  refine zcutL (fun u4_ => (120 - (u4_ 1).toInt).toNat) (fun H locs ls u4_ w4_ a4_ b4_ => va_P (dC, dI) vwCl [(h0, .inr (8, mX8 h1 (upd (upd (upd (upd (upd (upd (upd (upd v0 1 (u4_ 2)) 2 (u4_ 3)) 3 (u4_ 4)) 4 (u4_ 5)) 5 (u4_ 6)) 6 (u4_ 7)) 7 (u4_ 8)) 8 (u4_ 9)))), (h1, .inr (6, mX6 h2 h3 h4 h5 h6 h7 h8 h9 v1)), (h4, .inl (k4, 833, .inl f4)), (h3, .inl (k3, 833, .inl f3)), (h2, .inl (k2, 1250, .inl f2)), (h10, .inr (0, mX0 h11 h12 h13 h14 v10)), (h11, .inl (k11, 120, .inl f11))] H ∧ va_D A [(h0, .inr (8, mX8 h1 (upd (upd (upd (upd (upd (upd (upd (upd v0 1 (u4_ 2)) 2 (u4_ 3)) 3 (u4_ 4)) 4 (u4_ 5)) 5 (u4_ 6)) 6 (u4_ 7)) 7 (u4_ 8)) 8 (u4_ 9)))), (h1, .inr (6, mX6 h2 h3 h4 h5 h6 h7 h8 h9 v1)), (h4, .inl (k4, 833, .inl f4)), (h3, .inl (k3, 833, .inl f3)), (h2, .inl (k2, 1250, .inl f2)), (h10, .inr (0, mX0 h11 h12 h13 h14 v10)), (h11, .inl (k11, 120, .inl f11))] ∧ va_S A s.heap H locs ∧ lv_has ls 4 [(0, .ref h0), (1, .ref h10), (2, .int (u4_ 0)), (3, .int (u4_ 1))] ∧ (0 ≤ (u4_ 1).toInt ∧ (u4_ 1).toInt ≤ 120)) (fun ls u4_ w4_ => F0 m 4 ls []) 0 0 ?_ (fun hJ4 => ?_)
  · skip
    intro H locs ls u4_ w4_ a4_ b4_ hc hJ4
    obtain ⟨hP, hD, hS, hl, b_⟩ := hc
    refine lv_iload_n hx hb dX8_tallyPlaces_4 rfl (lv_at hl 3 rfl) ?_
    refine lv_bipush (v := 120) hx hb dX8_tallyPlaces_5 (by decide) ?_
    refine lv_icmp_ge (tgt := 41) hx hb dX8_tallyPlaces_7 (by decide) (fun c_ => ?_) (fun c_ => ?_)
    · skip
      have b_ := zT_ge rfl zk_120 c_
      refine lv_iload_n hx hb dX8_tallyPlaces_41 rfl (lv_at hl 2 rfl) ?_
      refine W.widen (k := 0) (n := 0) (by decide) (by decide) ?_
      have b_ : -2147483648 ≤ (u4_ 0).toInt ∧ (u4_ 0).toInt ≤ 2147483647 := ⟨zlo _, zhi _⟩
      have b_ : -2147483648 ≤ (u4_ 2).toInt ∧ (u4_ 2).toInt ≤ 2147483647 := ⟨zlo _, zhi _⟩
      have b_ : -2147483648 ≤ (u4_ 3).toInt ∧ (u4_ 3).toInt ≤ 2147483647 := ⟨zlo _, zhi _⟩
      have b_ : -2147483648 ≤ (u4_ 4).toInt ∧ (u4_ 4).toInt ≤ 2147483647 := ⟨zlo _, zhi _⟩
      have b_ : -2147483648 ≤ (u4_ 5).toInt ∧ (u4_ 5).toInt ≤ 2147483647 := ⟨zlo _, zhi _⟩
      have b_ : -2147483648 ≤ (u4_ 6).toInt ∧ (u4_ 6).toInt ≤ 2147483647 := ⟨zlo _, zhi _⟩
      have b_ : -2147483648 ≤ (u4_ 7).toInt ∧ (u4_ 7).toInt ≤ 2147483647 := ⟨zlo _, zhi _⟩
      have b_ : -2147483648 ≤ (u4_ 8).toInt ∧ (u4_ 8).toInt ≤ 2147483647 := ⟨zlo _, zhi _⟩
      have b_ : -2147483648 ≤ (u4_ 9).toInt ∧ (u4_ 9).toInt ≤ 2147483647 := ⟨zlo _, zhi _⟩
      have hpost : True := trivial
      have hP9 : va_P (dC, dI) vwCl [(h0, .inr (8, mX8 h1 (upd (upd (upd (upd (upd (upd (upd (upd v0 1 (u4_ 2)) 2 (u4_ 3)) 3 (u4_ 4)) 4 (u4_ 5)) 5 (u4_ 6)) 6 (u4_ 7)) 7 (u4_ 8)) 8 (u4_ 9)))), (h1, .inr (6, mX6 h2 h3 h4 h5 h6 h7 h8 h9 v1)), (h4, .inl (k4, 833, .inl f4)), (h3, .inl (k3, 833, .inl f3)), (h2, .inl (k2, 1250, .inl f2)), (h10, .inr (0, mX0 h11 h12 h13 h14 v10)), (h11, .inl (k11, 120, .inl f11))] H := hP
      have hD9 : va_D A [(h0, .inr (8, mX8 h1 (upd (upd (upd (upd (upd (upd (upd (upd v0 1 (u4_ 2)) 2 (u4_ 3)) 3 (u4_ 4)) 4 (u4_ 5)) 5 (u4_ 6)) 6 (u4_ 7)) 7 (u4_ 8)) 8 (u4_ 9)))), (h1, .inr (6, mX6 h2 h3 h4 h5 h6 h7 h8 h9 v1)), (h4, .inl (k4, 833, .inl f4)), (h3, .inl (k3, 833, .inl f3)), (h2, .inl (k2, 1250, .inl f2)), (h10, .inr (0, mX0 h11 h12 h13 h14 v10)), (h11, .inl (k11, 120, .inl f11))] := hD
      exact W.iret (v := (u4_ 0)) hx hb hr (fun t ht hW => ⟨⟨(u4_ 0), (fun i => ([(u4_ 2), (u4_ 3), (u4_ 4), (u4_ 5), (u4_ 6), (u4_ 7), (u4_ 8), (u4_ 9)] : List (Int32)).getD i 0), rfl, hpost, (fun _ => 0), (fun _ => (fun _ => 0)), (fun _ => (fun _ => 0)), by rw [ht]; exact hP9, va_K.moved hW.alike hK, hD9⟩, hS.F ht⟩) hS.2.2 dX8_tallyPlaces_42
    · skip
      have b_ := zF_ge rfl zk_120 c_
      refine lv_aload_n hx hb dX8_tallyPlaces_10 rfl (lv_at hl 0 rfl) ?_
      have b_ : -2147483648 ≤ (u4_ 2).toInt ∧ (u4_ 2).toInt ≤ 2147483647 := ⟨zlo _, zhi _⟩
      have b_ : -2147483648 ≤ (u4_ 3).toInt ∧ (u4_ 3).toInt ≤ 2147483647 := ⟨zlo _, zhi _⟩
      have b_ : -2147483648 ≤ (u4_ 4).toInt ∧ (u4_ 4).toInt ≤ 2147483647 := ⟨zlo _, zhi _⟩
      have b_ : -2147483648 ≤ (u4_ 5).toInt ∧ (u4_ 5).toInt ≤ 2147483647 := ⟨zlo _, zhi _⟩
      have b_ : -2147483648 ≤ (u4_ 6).toInt ∧ (u4_ 6).toInt ≤ 2147483647 := ⟨zlo _, zhi _⟩
      have b_ : -2147483648 ≤ (u4_ 7).toInt ∧ (u4_ 7).toInt ≤ 2147483647 := ⟨zlo _, zhi _⟩
      have b_ : -2147483648 ≤ (u4_ 8).toInt ∧ (u4_ 8).toInt ≤ 2147483647 := ⟨zlo _, zhi _⟩
      have b_ : -2147483648 ≤ (u4_ 9).toInt ∧ (u4_ 9).toInt ≤ 2147483647 := ⟨zlo _, zhi _⟩
      have hPc := hP.sub (ws' := [(h0, .inr (8, mX8 h1 (upd (upd (upd (upd (upd (upd (upd (upd v0 1 (u4_ 2)) 2 (u4_ 3)) 3 (u4_ 4)) 4 (u4_ 5)) 5 (u4_ 6)) 6 (u4_ 7)) 7 (u4_ 8)) 8 (u4_ 9)))), (h1, .inr (6, mX6 h2 h3 h4 h5 h6 h7 h8 h9 v1)), (h4, .inl (k4, 833, .inl f4)), (h3, .inl (k3, 833, .inl f3)), (h2, .inl (k2, 1250, .inl f2))]) [0, 1, 2, 3, 4] rfl
      have hDc := hD.sub (ws' := [(h0, .inr (8, mX8 h1 (upd (upd (upd (upd (upd (upd (upd (upd v0 1 (u4_ 2)) 2 (u4_ 3)) 3 (u4_ 4)) 4 (u4_ 5)) 5 (u4_ 6)) 6 (u4_ 7)) 7 (u4_ 8)) 8 (u4_ 9)))), (h1, .inr (6, mX6 h2 h3 h4 h5 h6 h7 h8 h9 v1)), (h4, .inl (k4, 833, .inl f4)), (h3, .inl (k3, 833, .inl f3)), (h2, .inl (k2, 1250, .inl f2))]) [0, 1, 2, 3, 4] (by decide) rfl
      have hKc := hK.sub (tys' := [(k4, .int), (k3, .int), (k2, .int)]) [0, 1, 2] rfl
      have hFc := va_free (wc := [(h0, .inr (8, mX8 h1 (upd (upd (upd (upd (upd (upd (upd (upd v0 1 (u4_ 2)) 2 (u4_ 3)) 3 (u4_ 4)) 4 (u4_ 5)) 5 (u4_ 6)) 6 (u4_ 7)) 7 (u4_ 8)) 8 (u4_ 9)))), (h1, .inr (6, mX6 h2 h3 h4 h5 h6 h7 h8 h9 v1)), (h4, .inl (k4, 833, .inl f4)), (h3, .inl (k3, 833, .inl f3)), (h2, .inl (k2, 1250, .inl f2))]) hD hS hA [0, 1, 2, 3, 4] rfl
      refine va_calli (va_runV (As := []) (rest := []) ⟨hx, hb, hml, hown, hG⟩ (sX8_nextDocument_0 l dC dI adK adV h0 h1 h4 h3 h2 h5 h6 h7 h8 h9 k4 k3 k2 H.size (upd (upd (upd (upd (upd (upd (upd (upd v0 1 (u4_ 2)) 2 (u4_ 3)) 3 (u4_ 4)) 4 (u4_ 5)) 5 (u4_ 6)) 6 (u4_ 7)) 7 (u4_ 8)) 8 (u4_ 9)) v1 f4 f3 f2 hv1 hf3) (cwV 0 hG (zgV zw257 zw232 zw233 zw224 zw234) rfl rfl rfl (by decide +kernel) ⟨Nat.le_of_ble_eq_true rfl, Nat.le_of_ble_eq_true rfl⟩) ⟨zPc_blind, va_recv hKc hPc (ci := 8) (q0 := 0) rfl rfl, zPc_pre hPc hKc hDc hE hS hFc hZ⟩ rfl rfl hl.1 rfl (lv_room (Nat.le_of_ble_eq_true rfl)) dX8_tallyPlaces_11 ⟨Nat.le_of_ble_eq_true rfl, Nat.le_of_ble_eq_true rfl⟩) hS (fun q _ h => hFc q h) hFc (fun r11_ u11_ t H1 locs ht hvm hw hB hz1 hk1 hS => ?_)
      have hw : (0 ≤ r11_.toInt ∧ r11_.toInt ≤ 1) := hw
      have b_ := hw
      obtain ⟨w11_, a11_, b11_, hP1, hK1, hD1⟩ := hB
      rw [ht] at hP1
      obtain ⟨hP, hD⟩ := va_join (wr := [(h10, .inr (0, mX0 h11 h12 h13 h14 v10)), (h11, .inl (k11, 120, .inl f11))]) (w1 := [(h0, .inr (8, mX8 h1 (upd (upd (upd (upd (upd (upd (upd (upd v0 1 (u11_ 0)) 2 (u11_ 1)) 3 (u11_ 2)) 4 (u11_ 3)) 5 (u11_ 4)) 6 (u11_ 5)) 7 (u11_ 6)) 8 (u11_ 7)))), (h1, .inr (6, mX6 h2 h3 h4 h5 h6 h7 h8 h9 v1)), (h4, .inl (k4, 833, .inl f4)), (h3, .inl (k3, 833, .inl f3)), (h2, .inl (k2, 1250, .inl f2))]) hP hD [0, 1, 2, 3, 4] [5, 6] rfl rfl (by decide) (by decide) hk1 hFc hP1 hD1
      have hP : va_P (dC, dI) vwCl [(h0, .inr (8, mX8 h1 (upd (upd (upd (upd (upd (upd (upd (upd v0 1 (u11_ 0)) 2 (u11_ 1)) 3 (u11_ 2)) 4 (u11_ 3)) 5 (u11_ 4)) 6 (u11_ 5)) 7 (u11_ 6)) 8 (u11_ 7)))), (h1, .inr (6, mX6 h2 h3 h4 h5 h6 h7 h8 h9 v1)), (h4, .inl (k4, 833, .inl f4)), (h3, .inl (k3, 833, .inl f3)), (h2, .inl (k2, 1250, .inl f2)), (h10, .inr (0, mX0 h11 h12 h13 h14 v10)), (h11, .inl (k11, 120, .inl f11))] H1 := hP.sub [2, 3, 4, 5, 6, 0, 1] rfl
      have hD : va_D A [(h0, .inr (8, mX8 h1 (upd (upd (upd (upd (upd (upd (upd (upd v0 1 (u11_ 0)) 2 (u11_ 1)) 3 (u11_ 2)) 4 (u11_ 3)) 5 (u11_ 4)) 6 (u11_ 5)) 7 (u11_ 6)) 8 (u11_ 7)))), (h1, .inr (6, mX6 h2 h3 h4 h5 h6 h7 h8 h9 v1)), (h4, .inl (k4, 833, .inl f4)), (h3, .inl (k3, 833, .inl f3)), (h2, .inl (k2, 1250, .inl f2)), (h10, .inr (0, mX0 h11 h12 h13 h14 v10)), (h11, .inl (k11, 120, .inl f11))] := hD.sub [2, 3, 4, 5, 6, 0, 1] (by decide) rfl
      generalize H1 = H at hP hS ⊢
      clear hz1
      refine lv_if_eq (tgt := 41) hx hb dX8_tallyPlaces_14 (by decide) (fun c_ => ?_) (fun c_ => ?_)
      · skip
        have b_ := zT_eq rfl zk_0 c_
        refine lv_iload_n hx hb dX8_tallyPlaces_41 rfl (lv_at hl 2 rfl) ?_
        refine W.widen (k := 0) (n := 0) (by decide) (by decide) ?_
        have b_ : -2147483648 ≤ (u4_ 0).toInt ∧ (u4_ 0).toInt ≤ 2147483647 := ⟨zlo _, zhi _⟩
        have b_ : -2147483648 ≤ (u11_ 0).toInt ∧ (u11_ 0).toInt ≤ 2147483647 := ⟨zlo _, zhi _⟩
        have b_ : -2147483648 ≤ (u11_ 1).toInt ∧ (u11_ 1).toInt ≤ 2147483647 := ⟨zlo _, zhi _⟩
        have b_ : -2147483648 ≤ (u11_ 2).toInt ∧ (u11_ 2).toInt ≤ 2147483647 := ⟨zlo _, zhi _⟩
        have b_ : -2147483648 ≤ (u11_ 3).toInt ∧ (u11_ 3).toInt ≤ 2147483647 := ⟨zlo _, zhi _⟩
        have b_ : -2147483648 ≤ (u11_ 4).toInt ∧ (u11_ 4).toInt ≤ 2147483647 := ⟨zlo _, zhi _⟩
        have b_ : -2147483648 ≤ (u11_ 5).toInt ∧ (u11_ 5).toInt ≤ 2147483647 := ⟨zlo _, zhi _⟩
        have b_ : -2147483648 ≤ (u11_ 6).toInt ∧ (u11_ 6).toInt ≤ 2147483647 := ⟨zlo _, zhi _⟩
        have b_ : -2147483648 ≤ (u11_ 7).toInt ∧ (u11_ 7).toInt ≤ 2147483647 := ⟨zlo _, zhi _⟩
        have hpost : True := trivial
        have hP9 : va_P (dC, dI) vwCl [(h0, .inr (8, mX8 h1 (upd (upd (upd (upd (upd (upd (upd (upd v0 1 (u11_ 0)) 2 (u11_ 1)) 3 (u11_ 2)) 4 (u11_ 3)) 5 (u11_ 4)) 6 (u11_ 5)) 7 (u11_ 6)) 8 (u11_ 7)))), (h1, .inr (6, mX6 h2 h3 h4 h5 h6 h7 h8 h9 v1)), (h4, .inl (k4, 833, .inl f4)), (h3, .inl (k3, 833, .inl f3)), (h2, .inl (k2, 1250, .inl f2)), (h10, .inr (0, mX0 h11 h12 h13 h14 v10)), (h11, .inl (k11, 120, .inl f11))] H := hP
        have hD9 : va_D A [(h0, .inr (8, mX8 h1 (upd (upd (upd (upd (upd (upd (upd (upd v0 1 (u11_ 0)) 2 (u11_ 1)) 3 (u11_ 2)) 4 (u11_ 3)) 5 (u11_ 4)) 6 (u11_ 5)) 7 (u11_ 6)) 8 (u11_ 7)))), (h1, .inr (6, mX6 h2 h3 h4 h5 h6 h7 h8 h9 v1)), (h4, .inl (k4, 833, .inl f4)), (h3, .inl (k3, 833, .inl f3)), (h2, .inl (k2, 1250, .inl f2)), (h10, .inr (0, mX0 h11 h12 h13 h14 v10)), (h11, .inl (k11, 120, .inl f11))] := hD
        exact W.iret (v := (u4_ 0)) hx hb hr (fun t ht hW => ⟨⟨(u4_ 0), (fun i => ([(u11_ 0), (u11_ 1), (u11_ 2), (u11_ 3), (u11_ 4), (u11_ 5), (u11_ 6), (u11_ 7)] : List (Int32)).getD i 0), rfl, hpost, (fun _ => 0), (fun _ => (fun _ => 0)), (fun _ => (fun _ => 0)), by rw [ht]; exact hP9, va_K.moved hW.alike hK, hD9⟩, hS.F ht⟩) hS.2.2 dX8_tallyPlaces_42
      · skip
        have b_ := zF_eq rfl zk_0 c_
        refine lv_aload_n hx hb dX8_tallyPlaces_17 rfl (lv_at hl 1 rfl) ?_
        refine lv_aload_n hx hb dX8_tallyPlaces_18 rfl (lv_at hl 0 rfl) ?_
        refine va_get (D := (dC, dI)) (ci := 8) (v := .int (u11_ 4)) (C := RX8) (T := TX8) (N := 9) hx hb hG zuX8 hown hK hP 0 rfl rfl 5 (by decide) (hG _ zw213) (fun _ h9 => h9) rfl dX8_tallyPlaces_19 ?_
        have hPc := hP.sub (ws' := [(h10, .inr (0, mX0 h11 h12 h13 h14 v10)), (h11, .inl (k11, 120, .inl f11))]) [5, 6] rfl
        have hDc := hD.sub (ws' := [(h10, .inr (0, mX0 h11 h12 h13 h14 v10)), (h11, .inl (k11, 120, .inl f11))]) [5, 6] (by decide) rfl
        have hKc := hK.sub (tys' := [(k11, .boolean)]) [3] rfl
        have hFc := va_free (wc := [(h10, .inr (0, mX0 h11 h12 h13 h14 v10)), (h11, .inl (k11, 120, .inl f11))]) hD hS hA [5, 6] rfl
        refine va_calli (va_runV (As := [.int (u11_ 4)]) (rest := []) ⟨hx, hb, hml, hown, hG⟩ (sX0_isOn_0 l dC dI adK adV h10 h11 h12 h13 h14 k11 H.size v10 f11 (u11_ 4) hv10) (cwV 1 hG (zgV zw258 zw140 zw141 zw137 zw142) rfl rfl rfl (by decide +kernel) ⟨Nat.le_of_ble_eq_true rfl, Nat.le_of_ble_eq_true rfl⟩) ⟨zPc_blind, va_recv hKc hPc (ci := 0) (q0 := 0) rfl rfl, zPc_pre hPc hKc hDc hE hS hFc hZ⟩ rfl rfl hl.1 rfl (lv_room (Nat.le_of_ble_eq_true rfl)) dX8_tallyPlaces_22 ⟨Nat.le_of_ble_eq_true rfl, Nat.le_of_ble_eq_true rfl⟩) hS (fun q _ h => hFc q h) hFc (fun r22_ u22_ t H1 locs ht hvm hw hB hz1 hk1 hS => ?_)
        have hw : (0 ≤ r22_.toInt ∧ r22_.toInt ≤ 1) ∧ (r22_.toInt = 1 → (0 ≤ (u11_ 4).toInt ∧ (u11_ 4).toInt ≤ 119)) ∧ (r22_.toInt = 1 → (u11_ 4).toInt < (v10 4).toInt) := hw
        obtain ⟨b_, hX22_0, hX22_1⟩ := hw
        obtain ⟨w22_, a22_, b22_, hP1, hK1, hD1⟩ := hB
        rw [ht] at hP1
        obtain ⟨hP, hD⟩ := va_join (wr := [(h0, .inr (8, mX8 h1 (upd (upd (upd (upd (upd (upd (upd (upd v0 1 (u11_ 0)) 2 (u11_ 1)) 3 (u11_ 2)) 4 (u11_ 3)) 5 (u11_ 4)) 6 (u11_ 5)) 7 (u11_ 6)) 8 (u11_ 7)))), (h1, .inr (6, mX6 h2 h3 h4 h5 h6 h7 h8 h9 v1)), (h4, .inl (k4, 833, .inl f4)), (h3, .inl (k3, 833, .inl f3)), (h2, .inl (k2, 1250, .inl f2))]) (w1 := [(h10, .inr (0, mX0 h11 h12 h13 h14 v10)), (h11, .inl (k11, 120, .inl f11))]) hP hD [5, 6] [0, 1, 2, 3, 4] rfl rfl (by decide) (by decide) hk1 hFc hP1 hD1
        have hP : va_P (dC, dI) vwCl [(h0, .inr (8, mX8 h1 (upd (upd (upd (upd (upd (upd (upd (upd v0 1 (u11_ 0)) 2 (u11_ 1)) 3 (u11_ 2)) 4 (u11_ 3)) 5 (u11_ 4)) 6 (u11_ 5)) 7 (u11_ 6)) 8 (u11_ 7)))), (h1, .inr (6, mX6 h2 h3 h4 h5 h6 h7 h8 h9 v1)), (h4, .inl (k4, 833, .inl f4)), (h3, .inl (k3, 833, .inl f3)), (h2, .inl (k2, 1250, .inl f2)), (h10, .inr (0, mX0 h11 h12 h13 h14 v10)), (h11, .inl (k11, 120, .inl f11))] H1 := hP.sub [0, 1, 2, 3, 4, 5, 6] rfl
        have hD : va_D A [(h0, .inr (8, mX8 h1 (upd (upd (upd (upd (upd (upd (upd (upd v0 1 (u11_ 0)) 2 (u11_ 1)) 3 (u11_ 2)) 4 (u11_ 3)) 5 (u11_ 4)) 6 (u11_ 5)) 7 (u11_ 6)) 8 (u11_ 7)))), (h1, .inr (6, mX6 h2 h3 h4 h5 h6 h7 h8 h9 v1)), (h4, .inl (k4, 833, .inl f4)), (h3, .inl (k3, 833, .inl f3)), (h2, .inl (k2, 1250, .inl f2)), (h10, .inr (0, mX0 h11 h12 h13 h14 v10)), (h11, .inl (k11, 120, .inl f11))] := hD.sub [0, 1, 2, 3, 4, 5, 6] (by decide) rfl
        generalize H1 = H at hP hS ⊢
        clear hz1
        refine lv_if_eq (tgt := 35) hx hb dX8_tallyPlaces_25 (by decide) (fun c_ => ?_) (fun c_ => ?_)
        · skip
          have b_ := zT_eq rfl zk_0 c_
          obtain ⟨z35, e_z35⟩ : ∃ z : Int32, z = (u4_ 1) + Int32.ofInt 1 := ⟨_, rfl⟩
          have b_ := zadd (x := (u4_ 1)) (y := Int32.ofInt 1) rfl (show (Int32.ofInt 1).toInt = 1 from by decide) e_z35 (by omega) (by omega)
          refine lv_iinc (v := z35) (lv' := [(3, .int z35), (0, .ref h0), (1, .ref h10), (2, .int (u4_ 0))]) hx hb dX8_tallyPlaces_35 hl (k := 3) rfl e_z35.symm (by decide) rfl (fun ls hl => ?_)
          refine lv_goto (tgt := 4) hx hb dX8_tallyPlaces_38 (by decide) ?_
          have b_ : -2147483648 ≤ (u4_ 0).toInt ∧ (u4_ 0).toInt ≤ 2147483647 := ⟨zlo _, zhi _⟩
          have hc : va_P (dC, dI) vwCl [(h0, .inr (8, mX8 h1 (upd (upd (upd (upd (upd (upd (upd (upd v0 1 (u11_ 0)) 2 (u11_ 1)) 3 (u11_ 2)) 4 (u11_ 3)) 5 (u11_ 4)) 6 (u11_ 5)) 7 (u11_ 6)) 8 (u11_ 7)))), (h1, .inr (6, mX6 h2 h3 h4 h5 h6 h7 h8 h9 v1)), (h4, .inl (k4, 833, .inl f4)), (h3, .inl (k3, 833, .inl f3)), (h2, .inl (k2, 1250, .inl f2)), (h10, .inr (0, mX0 h11 h12 h13 h14 v10)), (h11, .inl (k11, 120, .inl f11))] H ∧ va_D A [(h0, .inr (8, mX8 h1 (upd (upd (upd (upd (upd (upd (upd (upd v0 1 (u11_ 0)) 2 (u11_ 1)) 3 (u11_ 2)) 4 (u11_ 3)) 5 (u11_ 4)) 6 (u11_ 5)) 7 (u11_ 6)) 8 (u11_ 7)))), (h1, .inr (6, mX6 h2 h3 h4 h5 h6 h7 h8 h9 v1)), (h4, .inl (k4, 833, .inl f4)), (h3, .inl (k3, 833, .inl f3)), (h2, .inl (k2, 1250, .inl f2)), (h10, .inr (0, mX0 h11 h12 h13 h14 v10)), (h11, .inl (k11, 120, .inl f11))] ∧ va_S A s.heap H locs ∧ lv_has ls 4 [(0, .ref h0), (1, .ref h10), (2, .int (u4_ 0)), (3, .int z35)] ∧ (0 ≤ z35.toInt ∧ z35.toInt ≤ 120) := ⟨hP, hD, hS, lv_sub hl [1, 2, 3, 0] rfl, ⟨by omega, by omega⟩⟩
          exact hJ4 H locs ls (fun i => ([(u4_ 0), z35, (u11_ 0), (u11_ 1), (u11_ 2), (u11_ 3), (u11_ 4), (u11_ 5), (u11_ 6), (u11_ 7)] : List (Int32)).getD i 0) (fun _ => 0) (fun _ => (fun _ => 0)) (fun _ => (fun _ => 0)) hc (show (120 - z35.toInt).toNat < (120 - (u4_ 1).toInt).toNat from by omega)
        · skip
          have b_ := zF_eq rfl zk_0 c_
          refine lv_iload_n hx hb dX8_tallyPlaces_28 rfl (lv_at hl 2 rfl) ?_
          refine lv_aload_n hx hb dX8_tallyPlaces_29 rfl (lv_at hl 0 rfl) ?_
          refine va_get (D := (dC, dI)) (ci := 8) (v := .int (u11_ 5)) (C := RX8) (T := TX8) (N := 9) hx hb hG zuX8 hown hK hP 0 rfl rfl 6 (by decide) (hG _ zw211) (fun _ h9 => h9) rfl dX8_tallyPlaces_30 ?_
          have b_ : -2147483648 ≤ (u4_ 0).toInt ∧ (u4_ 0).toInt ≤ 2147483647 := ⟨zlo _, zhi _⟩
          have b_ : -2147483648 ≤ (u11_ 5).toInt ∧ (u11_ 5).toInt ≤ 2147483647 := ⟨zlo _, zhi _⟩
          refine lv_iadd hx hb dX8_tallyPlaces_33 ?_
          refine lv_topi (fun z33 e_z33 => ?_)
          refine lv_istore_n (lv' := [(2, .int z33), (0, .ref h0), (1, .ref h10), (3, .int (u4_ 1))]) hx hb dX8_tallyPlaces_34 rfl hl (by decide) rfl (fun ls hl => ?_)
          obtain ⟨z35, e_z35⟩ : ∃ z : Int32, z = (u4_ 1) + Int32.ofInt 1 := ⟨_, rfl⟩
          have b_ := zadd (x := (u4_ 1)) (y := Int32.ofInt 1) rfl (show (Int32.ofInt 1).toInt = 1 from by decide) e_z35 (by omega) (by omega)
          refine lv_iinc (v := z35) (lv' := [(3, .int z35), (2, .int z33), (0, .ref h0), (1, .ref h10)]) hx hb dX8_tallyPlaces_35 hl (k := 3) rfl e_z35.symm (by decide) rfl (fun ls hl => ?_)
          refine lv_goto (tgt := 4) hx hb dX8_tallyPlaces_38 (by decide) ?_
          have b_ : -2147483648 ≤ z33.toInt ∧ z33.toInt ≤ 2147483647 := ⟨zlo _, zhi _⟩
          have hc : va_P (dC, dI) vwCl [(h0, .inr (8, mX8 h1 (upd (upd (upd (upd (upd (upd (upd (upd v0 1 (u11_ 0)) 2 (u11_ 1)) 3 (u11_ 2)) 4 (u11_ 3)) 5 (u11_ 4)) 6 (u11_ 5)) 7 (u11_ 6)) 8 (u11_ 7)))), (h1, .inr (6, mX6 h2 h3 h4 h5 h6 h7 h8 h9 v1)), (h4, .inl (k4, 833, .inl f4)), (h3, .inl (k3, 833, .inl f3)), (h2, .inl (k2, 1250, .inl f2)), (h10, .inr (0, mX0 h11 h12 h13 h14 v10)), (h11, .inl (k11, 120, .inl f11))] H ∧ va_D A [(h0, .inr (8, mX8 h1 (upd (upd (upd (upd (upd (upd (upd (upd v0 1 (u11_ 0)) 2 (u11_ 1)) 3 (u11_ 2)) 4 (u11_ 3)) 5 (u11_ 4)) 6 (u11_ 5)) 7 (u11_ 6)) 8 (u11_ 7)))), (h1, .inr (6, mX6 h2 h3 h4 h5 h6 h7 h8 h9 v1)), (h4, .inl (k4, 833, .inl f4)), (h3, .inl (k3, 833, .inl f3)), (h2, .inl (k2, 1250, .inl f2)), (h10, .inr (0, mX0 h11 h12 h13 h14 v10)), (h11, .inl (k11, 120, .inl f11))] ∧ va_S A s.heap H locs ∧ lv_has ls 4 [(0, .ref h0), (1, .ref h10), (2, .int z33), (3, .int z35)] ∧ (0 ≤ z35.toInt ∧ z35.toInt ≤ 120) := ⟨hP, hD, hS, lv_sub hl [2, 3, 1, 0] rfl, ⟨by omega, by omega⟩⟩
          exact hJ4 H locs ls (fun i => ([z33, z35, (u11_ 0), (u11_ 1), (u11_ 2), (u11_ 3), (u11_ 4), (u11_ 5), (u11_ 6), (u11_ 7)] : List (Int32)).getD i 0) (fun _ => 0) (fun _ => (fun _ => 0)) (fun _ => (fun _ => 0)) hc (show (120 - z35.toInt).toNat < (120 - (u4_ 1).toInt).toNat from by omega)
  · skip
    have hc : va_P (dC, dI) vwCl [(h0, .inr (8, mX8 h1 (upd (upd (upd (upd (upd (upd (upd (upd v0 1 (v0 1)) 2 (v0 2)) 3 (v0 3)) 4 (v0 4)) 5 (v0 5)) 6 (v0 6)) 7 (v0 7)) 8 (v0 8)))), (h1, .inr (6, mX6 h2 h3 h4 h5 h6 h7 h8 h9 v1)), (h4, .inl (k4, 833, .inl f4)), (h3, .inl (k3, 833, .inl f3)), (h2, .inl (k2, 1250, .inl f2)), (h10, .inr (0, mX0 h11 h12 h13 h14 v10)), (h11, .inl (k11, 120, .inl f11))] s.heap ∧ va_D A [(h0, .inr (8, mX8 h1 (upd (upd (upd (upd (upd (upd (upd (upd v0 1 (v0 1)) 2 (v0 2)) 3 (v0 3)) 4 (v0 4)) 5 (v0 5)) 6 (v0 6)) 7 (v0 7)) 8 (v0 8)))), (h1, .inr (6, mX6 h2 h3 h4 h5 h6 h7 h8 h9 v1)), (h4, .inl (k4, 833, .inl f4)), (h3, .inl (k3, 833, .inl f3)), (h2, .inl (k2, 1250, .inl f2)), (h10, .inr (0, mX0 h11 h12 h13 h14 v10)), (h11, .inl (k11, 120, .inl f11))] ∧ va_S A s.heap s.heap [] ∧ lv_has ls 4 [(0, .ref h0), (1, .ref h10), (2, .int 0), (3, .int 0)] ∧ (0 ≤ (0 : Int32).toInt ∧ (0 : Int32).toInt ≤ 120) := ⟨hP, hD, hS, lv_sub hl [2, 3, 1, 0] rfl, ⟨by omega, by omega⟩⟩
    exact hJ4 s.heap [] ls (fun i => ([0, 0, (v0 1), (v0 2), (v0 3), (v0 4), (v0 5), (v0 6), (v0 7), (v0 8)] : List (Int32)).getD i 0) (fun _ => 0) (fun _ => (fun _ => 0)) (fun _ => (fun _ => 0)) hc
set_option maxHeartbeats 8000000 in
set_option maxRecDepth 100000 in
theorem sX7_clear_0 (l : Launch) (dC : Nat → ClassId) (dI : Nat → Nat → Nat) (adK adV : Nat → Nat) (h0 : Nat) (h1 : Nat) (h2 : Nat) (h3 : Nat) (h4 : Nat) (h5 : Nat) (h6 : Nat) (h7 : Nat) (sz : Nat) (v0 : Nat → Int32) (hv0 : zR rg_Query v0) : Met l yX7_clear (zw yX7_clear cX7_clear 1 none) { frames := 0, cells := 0, slots := 0, locals := 0 } (zPc dC dI adK adV [.ref h0] sz [(h0, .inr (7, mX7 h1 h2 h3 h4 h5 h6 h7 v0))] []) (va_Qv (fun (u : Nat → Int32) => (0 ≤ (u 0).toInt ∧ (u 0).toInt ≤ 0) ∧ (0 ≤ (u 1).toInt ∧ (u 1).toInt ≤ 0) ∧ (0 ≤ (u 2).toInt ∧ (u 2).toInt ≤ 0) ∧ (0 ≤ (u 3).toInt ∧ (u 3).toInt ≤ 0) ∧ (0 ≤ (u 4).toInt ∧ (u 4).toInt ≤ 0)) (fun (u : Nat → Int32) (t : State) => ∃ (ww : Nat → Int64) (aa : Nat → Nat → Int32) (bb : Nat → Nat → Int64), va_P (dC, dI) vwCl [(h0, .inr (7, mX7 h1 h2 h3 h4 h5 h6 h7 (upd (upd (upd (upd (upd v0 7 (u 0)) 8 (u 1)) 9 (u 2)) 10 (u 3)) 11 (u 4))))] t.heap ∧ va_K (dC, dI) vwCl [] t ∧ va_D (va_A [(h0, .inr (7, mX7 h1 h2 h3 h4 h5 h6 h7 v0))] sz) [(h0, .inr (7, mX7 h1 h2 h3 h4 h5 h6 h7 (upd (upd (upd (upd (upd v0 7 (u 0)) 8 (u 1)) 9 (u 2)) 10 (u 3)) 11 (u 4))))]) (va_A [(h0, .inr (7, mX7 h1 h2 h3 h4 h5 h6 h7 v0))] sz)) 0 0 (va_A [(h0, .inr (7, mX7 h1 h2 h3 h4 h5 h6 h7 v0))] sz) := by
  refine Met.ofW (cc := cX7_clear) (maxL := 1) (ret := none) (by decide) rfl ?_
  intro p e s m args below meth c s₁ B hml hv
  obtain ⟨rfl, hsz, hP, hK, hD0, hE, hZ⟩ := hv
  have hx := B.exec
  have hb := B.bytes
  have hr := B.returns
  have hG : ∀ w ∈ zG, w.before _ s = true := fun w h => atoms_spec (ws := (zw yX7_clear cX7_clear 1 none)) B.pre w (List.mem_cons_of_mem _ h)
  have hown : s.vm.findClass RX7 = some m.cls := findClass_of_methodNamed B.named
  have hlocks := B.notSynchronized

  subst hsz
  have hD := hD0.self (sz := s.heap.size)
  generalize hAe : va_A [(h0, .inr (7, mX7 h1 h2 h3 h4 h5 h6 h7 v0))] s.heap.size = A at hD hZ ⊢
  have hA : ∀ q : Nat, s.heap.size ≤ q → A q := fun q h => by rw [← hAe]; exact Or.inr h
  have hS : va_S A s.heap s.heap [] := va_S.rf
  have hl := lv_entry ([.ref h0]) (n := 1) (Nat.le_of_ble_eq_true rfl)
  rw [lg_entry_eq]
  generalize (lg_sl ([.ref h0]) ++ List.replicate (1 - (lg_sl ([.ref h0])).length) Slot.unset).toArray = ls at hl ⊢
  have hl : lv_has ls 1 [(0, .ref h0)] := hl
  have b_ := zk_0
  refine lv_aload_n hx hb dX7_clear_0 rfl (lv_at hl 0 rfl) ?_
  refine lv_iconst (v := 0) hx hb dX7_clear_1 (by decide) ?_
  refine va_put (D := (dC, dI)) (ci := 7) (v := .int 0) (ty := .int) (C := RX7) (T := TX7) (N := 12) hx hb hG zuX7 tyX7 tyX7_ok nmX7 hown hK hP hD hS 0 rfl rfl 7 (by decide) (hG _ zw259) (fun _ h9 => h9) rfl (by decide +kernel) rfl rfl (Nat.le_of_ble_eq_true rfl) dX7_clear_2 (fun H locs hP hD hS => ?_)
  have hP : va_P (dC, dI) vwCl [(h0, .inr (7, mX7 h1 h2 h3 h4 h5 h6 h7 (upd v0 7 0)))] H := hP
  have hD : va_D A [(h0, .inr (7, mX7 h1 h2 h3 h4 h5 h6 h7 (upd v0 7 0)))] := hD
  refine lv_aload_n hx hb dX7_clear_5 rfl (lv_at hl 0 rfl) ?_
  refine lv_iconst (v := 0) hx hb dX7_clear_6 (by decide) ?_
  refine va_put (D := (dC, dI)) (ci := 7) (v := .int 0) (ty := .int) (C := RX7) (T := TX7) (N := 12) hx hb hG zuX7 tyX7 tyX7_ok nmX7 hown hK hP hD hS 0 rfl rfl 8 (by decide) (hG _ zw260) (fun _ h9 => h9) rfl (by decide +kernel) rfl rfl (Nat.le_of_ble_eq_true rfl) dX7_clear_7 (fun H locs hP hD hS => ?_)
  have hP : va_P (dC, dI) vwCl [(h0, .inr (7, mX7 h1 h2 h3 h4 h5 h6 h7 (upd (upd v0 7 0) 8 0)))] H := hP
  have hD : va_D A [(h0, .inr (7, mX7 h1 h2 h3 h4 h5 h6 h7 (upd (upd v0 7 0) 8 0)))] := hD
  refine lv_aload_n hx hb dX7_clear_10 rfl (lv_at hl 0 rfl) ?_
  refine lv_iconst (v := 0) hx hb dX7_clear_11 (by decide) ?_
  refine va_put (D := (dC, dI)) (ci := 7) (v := .int 0) (ty := .int) (C := RX7) (T := TX7) (N := 12) hx hb hG zuX7 tyX7 tyX7_ok nmX7 hown hK hP hD hS 0 rfl rfl 9 (by decide) (hG _ zw261) (fun _ h9 => h9) rfl (by decide +kernel) rfl rfl (Nat.le_of_ble_eq_true rfl) dX7_clear_12 (fun H locs hP hD hS => ?_)
  have hP : va_P (dC, dI) vwCl [(h0, .inr (7, mX7 h1 h2 h3 h4 h5 h6 h7 (upd (upd (upd v0 7 0) 8 0) 9 0)))] H := hP
  have hD : va_D A [(h0, .inr (7, mX7 h1 h2 h3 h4 h5 h6 h7 (upd (upd (upd v0 7 0) 8 0) 9 0)))] := hD
  refine lv_aload_n hx hb dX7_clear_15 rfl (lv_at hl 0 rfl) ?_
  refine lv_iconst (v := 0) hx hb dX7_clear_16 (by decide) ?_
  refine va_put (D := (dC, dI)) (ci := 7) (v := .int 0) (ty := .int) (C := RX7) (T := TX7) (N := 12) hx hb hG zuX7 tyX7 tyX7_ok nmX7 hown hK hP hD hS 0 rfl rfl 10 (by decide) (hG _ zw262) (fun _ h9 => h9) rfl (by decide +kernel) rfl rfl (Nat.le_of_ble_eq_true rfl) dX7_clear_17 (fun H locs hP hD hS => ?_)
  have hP : va_P (dC, dI) vwCl [(h0, .inr (7, mX7 h1 h2 h3 h4 h5 h6 h7 (upd (upd (upd (upd v0 7 0) 8 0) 9 0) 10 0)))] H := hP
  have hD : va_D A [(h0, .inr (7, mX7 h1 h2 h3 h4 h5 h6 h7 (upd (upd (upd (upd v0 7 0) 8 0) 9 0) 10 0)))] := hD
  refine lv_aload_n hx hb dX7_clear_20 rfl (lv_at hl 0 rfl) ?_
  refine lv_iconst (v := 0) hx hb dX7_clear_21 (by decide) ?_
  refine va_put (D := (dC, dI)) (ci := 7) (v := .int 0) (ty := .int) (C := RX7) (T := TX7) (N := 12) hx hb hG zuX7 tyX7 tyX7_ok nmX7 hown hK hP hD hS 0 rfl rfl 11 (by decide) (hG _ zw263) (fun _ h9 => h9) rfl (by decide +kernel) rfl rfl (Nat.le_of_ble_eq_true rfl) dX7_clear_22 (fun H locs hP hD hS => ?_)
  have hP : va_P (dC, dI) vwCl [(h0, .inr (7, mX7 h1 h2 h3 h4 h5 h6 h7 (upd (upd (upd (upd (upd v0 7 0) 8 0) 9 0) 10 0) 11 0)))] H := hP
  have hD : va_D A [(h0, .inr (7, mX7 h1 h2 h3 h4 h5 h6 h7 (upd (upd (upd (upd (upd v0 7 0) 8 0) 9 0) 10 0) 11 0)))] := hD
  refine W.widen (k := 0) (n := 0) (by decide) (by decide) ?_
  have hpost : (0 ≤ (0 : Int32).toInt ∧ (0 : Int32).toInt ≤ 0) ∧ (0 ≤ (0 : Int32).toInt ∧ (0 : Int32).toInt ≤ 0) ∧ (0 ≤ (0 : Int32).toInt ∧ (0 : Int32).toInt ≤ 0) ∧ (0 ≤ (0 : Int32).toInt ∧ (0 : Int32).toInt ≤ 0) ∧ (0 ≤ (0 : Int32).toInt ∧ (0 : Int32).toInt ≤ 0) := ⟨⟨by omega, by omega⟩, ⟨by omega, by omega⟩, ⟨by omega, by omega⟩, ⟨by omega, by omega⟩, ⟨by omega, by omega⟩⟩
  have hP9 : va_P (dC, dI) vwCl [(h0, .inr (7, mX7 h1 h2 h3 h4 h5 h6 h7 (upd (upd (upd (upd (upd v0 7 0) 8 0) 9 0) 10 0) 11 0)))] H := hP
  have hD9 : va_D A [(h0, .inr (7, mX7 h1 h2 h3 h4 h5 h6 h7 (upd (upd (upd (upd (upd v0 7 0) 8 0) 9 0) 10 0) 11 0)))] := hD
  exact W.vret hx hb hr (fun t ht hW => ⟨⟨(fun i => ([0, 0, 0, 0, 0] : List (Int32)).getD i 0), rfl, hpost, (fun _ => 0), (fun _ => (fun _ => 0)), (fun _ => (fun _ => 0)), by rw [ht]; exact hP9, va_K.moved hW.alike hK, hD9⟩, hS.F ht⟩) hS.2.2 dX7_clear_25
set_option maxHeartbeats 8000000 in
set_option maxRecDepth 100000 in
theorem sX7_leaves_0 (l : Launch) (dC : Nat → ClassId) (dI : Nat → Nat → Nat) (adK adV : Nat → Nat) (h0 : Nat) (h1 : Nat) (h2 : Nat) (h3 : Nat) (h4 : Nat) (h5 : Nat) (h6 : Nat) (h7 : Nat) (sz : Nat) (v0 : Nat → Int32) (hv0 : zR rg_Query v0) : Met l yX7_leaves (zw yX7_leaves cX7_leaves 1 (some .int)) { frames := 0, cells := 0, slots := 0, locals := 0 } (zPc dC dI adK adV [.ref h0] sz [(h0, .inr (7, mX7 h1 h2 h3 h4 h5 h6 h7 v0))] []) (va_Qi (fun (r : Int32) (u : Nat → Int32) => (0 ≤ r.toInt ∧ r.toInt ≤ 40)) (fun (u : Nat → Int32) (t : State) => ∃ (ww : Nat → Int64) (aa : Nat → Nat → Int32) (bb : Nat → Nat → Int64), va_P (dC, dI) vwCl [(h0, .inr (7, mX7 h1 h2 h3 h4 h5 h6 h7 v0))] t.heap ∧ va_K (dC, dI) vwCl [] t ∧ va_D (va_A [(h0, .inr (7, mX7 h1 h2 h3 h4 h5 h6 h7 v0))] sz) [(h0, .inr (7, mX7 h1 h2 h3 h4 h5 h6 h7 v0))]) (va_A [(h0, .inr (7, mX7 h1 h2 h3 h4 h5 h6 h7 v0))] sz)) 0 0 (va_A [(h0, .inr (7, mX7 h1 h2 h3 h4 h5 h6 h7 v0))] sz) := by
  refine Met.ofW (cc := cX7_leaves) (maxL := 1) (ret := (some .int)) (by decide) rfl ?_
  intro p e s m args below meth c s₁ B hml hv
  obtain ⟨rfl, hsz, hP, hK, hD0, hE, hZ⟩ := hv
  have hx := B.exec
  have hb := B.bytes
  have hr := B.returns
  have hG : ∀ w ∈ zG, w.before _ s = true := fun w h => atoms_spec (ws := (zw yX7_leaves cX7_leaves 1 (some .int))) B.pre w (List.mem_cons_of_mem _ h)
  have hown : s.vm.findClass RX7 = some m.cls := findClass_of_methodNamed B.named
  have hlocks := B.notSynchronized

  subst hsz
  have hD := hD0.self (sz := s.heap.size)
  generalize hAe : va_A [(h0, .inr (7, mX7 h1 h2 h3 h4 h5 h6 h7 v0))] s.heap.size = A at hD hZ ⊢
  have hA : ∀ q : Nat, s.heap.size ≤ q → A q := fun q h => by rw [← hAe]; exact Or.inr h
  have hS : va_S A s.heap s.heap [] := va_S.rf
  have hl := lv_entry ([.ref h0]) (n := 1) (Nat.le_of_ble_eq_true rfl)
  rw [lg_entry_eq]
  generalize (lg_sl ([.ref h0]) ++ List.replicate (1 - (lg_sl ([.ref h0])).length) Slot.unset).toArray = ls at hl ⊢
  have hl : lv_has ls 1 [(0, .ref h0)] := hl
  refine lv_aload_n hx hb dX7_leaves_0 rfl (lv_at hl 0 rfl) ?_
  have b_ : 0 ≤ (v0 7).toInt ∧ (v0 7).toInt ≤ 40 := hv0 7
  refine va_get (D := (dC, dI)) (ci := 7) (v := .int (v0 7)) (C := RX7) (T := TX7) (N := 12) hx hb hG zuX7 hown hK hP 0 rfl rfl 7 (by decide) (hG _ zw259) (fun _ h9 => h9) rfl dX7_leaves_1 ?_
  refine W.widen (k := 0) (n := 0) (by decide) (by decide) ?_
  have hpost : (0 ≤ (v0 7).toInt ∧ (v0 7).toInt ≤ 40) := ⟨by omega, by omega⟩
  have hP9 : va_P (dC, dI) vwCl [(h0, .inr (7, mX7 h1 h2 h3 h4 h5 h6 h7 v0))] s.heap := hP
  have hD9 : va_D A [(h0, .inr (7, mX7 h1 h2 h3 h4 h5 h6 h7 v0))] := hD
  exact W.iret (v := (v0 7)) hx hb hr (fun t ht hW => ⟨⟨(v0 7), (fun _ => 0), rfl, hpost, (fun _ => 0), (fun _ => (fun _ => 0)), (fun _ => (fun _ => 0)), by rw [ht]; exact hP9, va_K.moved hW.alike hK, hD9⟩, hS.F ht⟩) hS.2.2 dX7_leaves_4
set_option maxHeartbeats 8000000 in
set_option maxRecDepth 100000 in
theorem sX7_phraseWords_0 (l : Launch) (dC : Nat → ClassId) (dI : Nat → Nat → Nat) (adK adV : Nat → Nat) (h0 : Nat) (h1 : Nat) (h2 : Nat) (h3 : Nat) (h4 : Nat) (h5 : Nat) (h6 : Nat) (h7 : Nat) (sz : Nat) (v0 : Nat → Int32) (hv0 : zR rg_Query v0) : Met l yX7_phraseWords (zw yX7_phraseWords cX7_phraseWords 1 (some .int)) { frames := 0, cells := 0, slots := 0, locals := 0 } (zPc dC dI adK adV [.ref h0] sz [(h0, .inr (7, mX7 h1 h2 h3 h4 h5 h6 h7 v0))] []) (va_Qi (fun (r : Int32) (u : Nat → Int32) => (0 ≤ r.toInt ∧ r.toInt ≤ 160)) (fun (u : Nat → Int32) (t : State) => ∃ (ww : Nat → Int64) (aa : Nat → Nat → Int32) (bb : Nat → Nat → Int64), va_P (dC, dI) vwCl [(h0, .inr (7, mX7 h1 h2 h3 h4 h5 h6 h7 v0))] t.heap ∧ va_K (dC, dI) vwCl [] t ∧ va_D (va_A [(h0, .inr (7, mX7 h1 h2 h3 h4 h5 h6 h7 v0))] sz) [(h0, .inr (7, mX7 h1 h2 h3 h4 h5 h6 h7 v0))]) (va_A [(h0, .inr (7, mX7 h1 h2 h3 h4 h5 h6 h7 v0))] sz)) 0 0 (va_A [(h0, .inr (7, mX7 h1 h2 h3 h4 h5 h6 h7 v0))] sz) := by
  refine Met.ofW (cc := cX7_phraseWords) (maxL := 1) (ret := (some .int)) (by decide) rfl ?_
  intro p e s m args below meth c s₁ B hml hv
  obtain ⟨rfl, hsz, hP, hK, hD0, hE, hZ⟩ := hv
  have hx := B.exec
  have hb := B.bytes
  have hr := B.returns
  have hG : ∀ w ∈ zG, w.before _ s = true := fun w h => atoms_spec (ws := (zw yX7_phraseWords cX7_phraseWords 1 (some .int))) B.pre w (List.mem_cons_of_mem _ h)
  have hown : s.vm.findClass RX7 = some m.cls := findClass_of_methodNamed B.named
  have hlocks := B.notSynchronized

  subst hsz
  have hD := hD0.self (sz := s.heap.size)
  generalize hAe : va_A [(h0, .inr (7, mX7 h1 h2 h3 h4 h5 h6 h7 v0))] s.heap.size = A at hD hZ ⊢
  have hA : ∀ q : Nat, s.heap.size ≤ q → A q := fun q h => by rw [← hAe]; exact Or.inr h
  have hS : va_S A s.heap s.heap [] := va_S.rf
  have hl := lv_entry ([.ref h0]) (n := 1) (Nat.le_of_ble_eq_true rfl)
  rw [lg_entry_eq]
  generalize (lg_sl ([.ref h0]) ++ List.replicate (1 - (lg_sl ([.ref h0])).length) Slot.unset).toArray = ls at hl ⊢
  have hl : lv_has ls 1 [(0, .ref h0)] := hl
  refine lv_aload_n hx hb dX7_phraseWords_0 rfl (lv_at hl 0 rfl) ?_
  have b_ : 0 ≤ (v0 8).toInt ∧ (v0 8).toInt ≤ 160 := hv0 8
  refine va_get (D := (dC, dI)) (ci := 7) (v := .int (v0 8)) (C := RX7) (T := TX7) (N := 12) hx hb hG zuX7 hown hK hP 0 rfl rfl 8 (by decide) (hG _ zw260) (fun _ h9 => h9) rfl dX7_phraseWords_1 ?_
  refine W.widen (k := 0) (n := 0) (by decide) (by decide) ?_
  have hpost : (0 ≤ (v0 8).toInt ∧ (v0 8).toInt ≤ 160) := ⟨by omega, by omega⟩
  have hP9 : va_P (dC, dI) vwCl [(h0, .inr (7, mX7 h1 h2 h3 h4 h5 h6 h7 v0))] s.heap := hP
  have hD9 : va_D A [(h0, .inr (7, mX7 h1 h2 h3 h4 h5 h6 h7 v0))] := hD
  exact W.iret (v := (v0 8)) hx hb hr (fun t ht hW => ⟨⟨(v0 8), (fun _ => 0), rfl, hpost, (fun _ => 0), (fun _ => (fun _ => 0)), (fun _ => (fun _ => 0)), by rw [ht]; exact hP9, va_K.moved hW.alike hK, hD9⟩, hS.F ht⟩) hS.2.2 dX7_phraseWords_4
set_option maxHeartbeats 8000000 in
set_option maxRecDepth 100000 in
theorem sX7_length_0 (l : Launch) (dC : Nat → ClassId) (dI : Nat → Nat → Nat) (adK adV : Nat → Nat) (h0 : Nat) (h1 : Nat) (h2 : Nat) (h3 : Nat) (h4 : Nat) (h5 : Nat) (h6 : Nat) (h7 : Nat) (sz : Nat) (v0 : Nat → Int32) (hv0 : zR rg_Query v0) : Met l yX7_length (zw yX7_length cX7_length 1 (some .int)) { frames := 0, cells := 0, slots := 0, locals := 0 } (zPc dC dI adK adV [.ref h0] sz [(h0, .inr (7, mX7 h1 h2 h3 h4 h5 h6 h7 v0))] []) (va_Qi (fun (r : Int32) (u : Nat → Int32) => (0 ≤ r.toInt ∧ r.toInt ≤ 270)) (fun (u : Nat → Int32) (t : State) => ∃ (ww : Nat → Int64) (aa : Nat → Nat → Int32) (bb : Nat → Nat → Int64), va_P (dC, dI) vwCl [(h0, .inr (7, mX7 h1 h2 h3 h4 h5 h6 h7 v0))] t.heap ∧ va_K (dC, dI) vwCl [] t ∧ va_D (va_A [(h0, .inr (7, mX7 h1 h2 h3 h4 h5 h6 h7 v0))] sz) [(h0, .inr (7, mX7 h1 h2 h3 h4 h5 h6 h7 v0))]) (va_A [(h0, .inr (7, mX7 h1 h2 h3 h4 h5 h6 h7 v0))] sz)) 0 0 (va_A [(h0, .inr (7, mX7 h1 h2 h3 h4 h5 h6 h7 v0))] sz) := by
  refine Met.ofW (cc := cX7_length) (maxL := 1) (ret := (some .int)) (by decide) rfl ?_
  intro p e s m args below meth c s₁ B hml hv
  obtain ⟨rfl, hsz, hP, hK, hD0, hE, hZ⟩ := hv
  have hx := B.exec
  have hb := B.bytes
  have hr := B.returns
  have hG : ∀ w ∈ zG, w.before _ s = true := fun w h => atoms_spec (ws := (zw yX7_length cX7_length 1 (some .int))) B.pre w (List.mem_cons_of_mem _ h)
  have hown : s.vm.findClass RX7 = some m.cls := findClass_of_methodNamed B.named
  have hlocks := B.notSynchronized

  subst hsz
  have hD := hD0.self (sz := s.heap.size)
  generalize hAe : va_A [(h0, .inr (7, mX7 h1 h2 h3 h4 h5 h6 h7 v0))] s.heap.size = A at hD hZ ⊢
  have hA : ∀ q : Nat, s.heap.size ≤ q → A q := fun q h => by rw [← hAe]; exact Or.inr h
  have hS : va_S A s.heap s.heap [] := va_S.rf
  have hl := lv_entry ([.ref h0]) (n := 1) (Nat.le_of_ble_eq_true rfl)
  rw [lg_entry_eq]
  generalize (lg_sl ([.ref h0]) ++ List.replicate (1 - (lg_sl ([.ref h0])).length) Slot.unset).toArray = ls at hl ⊢
  have hl : lv_has ls 1 [(0, .ref h0)] := hl
  refine lv_aload_n hx hb dX7_length_0 rfl (lv_at hl 0 rfl) ?_
  have b_ : 0 ≤ (v0 9).toInt ∧ (v0 9).toInt ≤ 270 := hv0 9
  refine va_get (D := (dC, dI)) (ci := 7) (v := .int (v0 9)) (C := RX7) (T := TX7) (N := 12) hx hb hG zuX7 hown hK hP 0 rfl rfl 9 (by decide) (hG _ zw261) (fun _ h9 => h9) rfl dX7_length_1 ?_
  refine W.widen (k := 0) (n := 0) (by decide) (by decide) ?_
  have hpost : (0 ≤ (v0 9).toInt ∧ (v0 9).toInt ≤ 270) := ⟨by omega, by omega⟩
  have hP9 : va_P (dC, dI) vwCl [(h0, .inr (7, mX7 h1 h2 h3 h4 h5 h6 h7 v0))] s.heap := hP
  have hD9 : va_D A [(h0, .inr (7, mX7 h1 h2 h3 h4 h5 h6 h7 v0))] := hD
  exact W.iret (v := (v0 9)) hx hb hr (fun t ht hW => ⟨⟨(v0 9), (fun _ => 0), rfl, hpost, (fun _ => 0), (fun _ => (fun _ => 0)), (fun _ => (fun _ => 0)), by rw [ht]; exact hP9, va_K.moved hW.alike hK, hD9⟩, hS.F ht⟩) hS.2.2 dX7_length_4
set_option maxHeartbeats 8000000 in
set_option maxRecDepth 100000 in
theorem sX7_deepestStack_0 (l : Launch) (dC : Nat → ClassId) (dI : Nat → Nat → Nat) (adK adV : Nat → Nat) (h0 : Nat) (h1 : Nat) (h2 : Nat) (h3 : Nat) (h4 : Nat) (h5 : Nat) (h6 : Nat) (h7 : Nat) (sz : Nat) (v0 : Nat → Int32) (hv0 : zR rg_Query v0) : Met l yX7_deepestStack (zw yX7_deepestStack cX7_deepestStack 1 (some .int)) { frames := 0, cells := 0, slots := 0, locals := 0 } (zPc dC dI adK adV [.ref h0] sz [(h0, .inr (7, mX7 h1 h2 h3 h4 h5 h6 h7 v0))] []) (va_Qi (fun (r : Int32) (u : Nat → Int32) => True) (fun (u : Nat → Int32) (t : State) => ∃ (ww : Nat → Int64) (aa : Nat → Nat → Int32) (bb : Nat → Nat → Int64), va_P (dC, dI) vwCl [(h0, .inr (7, mX7 h1 h2 h3 h4 h5 h6 h7 v0))] t.heap ∧ va_K (dC, dI) vwCl [] t ∧ va_D (va_A [(h0, .inr (7, mX7 h1 h2 h3 h4 h5 h6 h7 v0))] sz) [(h0, .inr (7, mX7 h1 h2 h3 h4 h5 h6 h7 v0))]) (va_A [(h0, .inr (7, mX7 h1 h2 h3 h4 h5 h6 h7 v0))] sz)) 0 0 (va_A [(h0, .inr (7, mX7 h1 h2 h3 h4 h5 h6 h7 v0))] sz) := by
  refine Met.ofW (cc := cX7_deepestStack) (maxL := 1) (ret := (some .int)) (by decide) rfl ?_
  intro p e s m args below meth c s₁ B hml hv
  obtain ⟨rfl, hsz, hP, hK, hD0, hE, hZ⟩ := hv
  have hx := B.exec
  have hb := B.bytes
  have hr := B.returns
  have hG : ∀ w ∈ zG, w.before _ s = true := fun w h => atoms_spec (ws := (zw yX7_deepestStack cX7_deepestStack 1 (some .int))) B.pre w (List.mem_cons_of_mem _ h)
  have hown : s.vm.findClass RX7 = some m.cls := findClass_of_methodNamed B.named
  have hlocks := B.notSynchronized

  subst hsz
  have hD := hD0.self (sz := s.heap.size)
  generalize hAe : va_A [(h0, .inr (7, mX7 h1 h2 h3 h4 h5 h6 h7 v0))] s.heap.size = A at hD hZ ⊢
  have hA : ∀ q : Nat, s.heap.size ≤ q → A q := fun q h => by rw [← hAe]; exact Or.inr h
  have hS : va_S A s.heap s.heap [] := va_S.rf
  have hl := lv_entry ([.ref h0]) (n := 1) (Nat.le_of_ble_eq_true rfl)
  rw [lg_entry_eq]
  generalize (lg_sl ([.ref h0]) ++ List.replicate (1 - (lg_sl ([.ref h0])).length) Slot.unset).toArray = ls at hl ⊢
  have hl : lv_has ls 1 [(0, .ref h0)] := hl
  refine lv_aload_n hx hb dX7_deepestStack_0 rfl (lv_at hl 0 rfl) ?_
  refine va_get (D := (dC, dI)) (ci := 7) (v := .int (v0 11)) (C := RX7) (T := TX7) (N := 12) hx hb hG zuX7 hown hK hP 0 rfl rfl 11 (by decide) (hG _ zw263) (fun _ h9 => h9) rfl dX7_deepestStack_1 ?_
  refine W.widen (k := 0) (n := 0) (by decide) (by decide) ?_
  have b_ : -2147483648 ≤ (v0 11).toInt ∧ (v0 11).toInt ≤ 2147483647 := ⟨zlo _, zhi _⟩
  have hpost : True := trivial
  have hP9 : va_P (dC, dI) vwCl [(h0, .inr (7, mX7 h1 h2 h3 h4 h5 h6 h7 v0))] s.heap := hP
  have hD9 : va_D A [(h0, .inr (7, mX7 h1 h2 h3 h4 h5 h6 h7 v0))] := hD
  exact W.iret (v := (v0 11)) hx hb hr (fun t ht hW => ⟨⟨(v0 11), (fun _ => 0), rfl, hpost, (fun _ => 0), (fun _ => (fun _ => 0)), (fun _ => (fun _ => 0)), by rw [ht]; exact hP9, va_K.moved hW.alike hK, hD9⟩, hS.F ht⟩) hS.2.2 dX7_deepestStack_4
set_option maxHeartbeats 8000000 in
set_option maxRecDepth 100000 in
theorem sX7_stepAt_0 (l : Launch) (dC : Nat → ClassId) (dI : Nat → Nat → Nat) (adK adV : Nat → Nat) (h0 : Nat) (h7 : Nat) (h1 : Nat) (h2 : Nat) (h3 : Nat) (h4 : Nat) (h5 : Nat) (h6 : Nat) (k7 : ClassId) (sz : Nat) (v0 : Nat → Int32) (f7 : Nat → Int32) (x1 : Int32) (hv0 : zR rg_Query v0) (hf7 : zA 0 12000 f7) : Met l yX7_stepAt (zw yX7_stepAt cX7_stepAt 2 (some .int)) { frames := 0, cells := 0, slots := 0, locals := 0 } (zPc dC dI adK adV [.ref h0, .int x1] sz [(h0, .inr (7, mX7 h1 h2 h3 h4 h5 h6 h7 v0)), (h7, .inl (k7, 270, .inl f7))] [(k7, .int)]) (va_Qi (fun (r : Int32) (u : Nat → Int32) => ((-1) ≤ r.toInt ∧ r.toInt ≤ 12000)) (fun (u : Nat → Int32) (t : State) => ∃ (ww : Nat → Int64) (aa : Nat → Nat → Int32) (bb : Nat → Nat → Int64), va_P (dC, dI) vwCl [(h0, .inr (7, mX7 h1 h2 h3 h4 h5 h6 h7 v0)), (h7, .inl (k7, 270, .inl f7))] t.heap ∧ va_K (dC, dI) vwCl [(k7, .int)] t ∧ va_D (va_A [(h0, .inr (7, mX7 h1 h2 h3 h4 h5 h6 h7 v0)), (h7, .inl (k7, 270, .inl f7))] sz) [(h0, .inr (7, mX7 h1 h2 h3 h4 h5 h6 h7 v0)), (h7, .inl (k7, 270, .inl f7))]) (va_A [(h0, .inr (7, mX7 h1 h2 h3 h4 h5 h6 h7 v0)), (h7, .inl (k7, 270, .inl f7))] sz)) 0 0 (va_A [(h0, .inr (7, mX7 h1 h2 h3 h4 h5 h6 h7 v0)), (h7, .inl (k7, 270, .inl f7))] sz) := by
  refine Met.ofW (cc := cX7_stepAt) (maxL := 2) (ret := (some .int)) (by decide) rfl ?_
  intro p e s m args below meth c s₁ B hml hv
  obtain ⟨rfl, hsz, hP, hK, hD0, hE, hZ⟩ := hv
  have hx := B.exec
  have hb := B.bytes
  have hr := B.returns
  have hG : ∀ w ∈ zG, w.before _ s = true := fun w h => atoms_spec (ws := (zw yX7_stepAt cX7_stepAt 2 (some .int))) B.pre w (List.mem_cons_of_mem _ h)
  have hown : s.vm.findClass RX7 = some m.cls := findClass_of_methodNamed B.named
  have hlocks := B.notSynchronized

  subst hsz
  have hD := hD0.self (sz := s.heap.size)
  generalize hAe : va_A [(h0, .inr (7, mX7 h1 h2 h3 h4 h5 h6 h7 v0)), (h7, .inl (k7, 270, .inl f7))] s.heap.size = A at hD hZ ⊢
  have hA : ∀ q : Nat, s.heap.size ≤ q → A q := fun q h => by rw [← hAe]; exact Or.inr h
  have hS : va_S A s.heap s.heap [] := va_S.rf
  have hl := lv_entry ([.ref h0, .int x1]) (n := 2) (Nat.le_of_ble_eq_true rfl)
  rw [lg_entry_eq]
  generalize (lg_sl ([.ref h0, .int x1]) ++ List.replicate (2 - (lg_sl ([.ref h0, .int x1])).length) Slot.unset).toArray = ls at hl ⊢
  have hl : lv_has ls 2 [(0, .ref h0), (1, .int x1)] := hl
  have b_ := zk_m1
  refine lv_iload_n hx hb dX7_stepAt_0 rfl (lv_at hl 1 rfl) ?_
  have b_ : -2147483648 ≤ x1.toInt ∧ x1.toInt ≤ 2147483647 := ⟨zlo _, zhi _⟩
  refine lv_if_lt (tgt := 21) hx hb dX7_stepAt_1 (by decide) (fun c_ => ?_) (fun c_ => ?_)
  · skip
    have b_ := zT_lt rfl zk_0 c_
    refine lv_iconst (v := (-1)) hx hb dX7_stepAt_21 (by decide) ?_
    refine W.widen (k := 0) (n := 0) (by decide) (by decide) ?_
    have hpost : ((-1) ≤ ((-1) : Int32).toInt ∧ ((-1) : Int32).toInt ≤ 12000) := ⟨by omega, by omega⟩
    have hP9 : va_P (dC, dI) vwCl [(h0, .inr (7, mX7 h1 h2 h3 h4 h5 h6 h7 v0)), (h7, .inl (k7, 270, .inl f7))] s.heap := hP
    have hD9 : va_D A [(h0, .inr (7, mX7 h1 h2 h3 h4 h5 h6 h7 v0)), (h7, .inl (k7, 270, .inl f7))] := hD
    exact W.iret (v := (-1)) hx hb hr (fun t ht hW => ⟨⟨(-1), (fun _ => 0), rfl, hpost, (fun _ => 0), (fun _ => (fun _ => 0)), (fun _ => (fun _ => 0)), by rw [ht]; exact hP9, va_K.moved hW.alike hK, hD9⟩, hS.F ht⟩) hS.2.2 dX7_stepAt_22
  · skip
    have b_ := zF_lt rfl zk_0 c_
    refine lv_iload_n hx hb dX7_stepAt_4 rfl (lv_at hl 1 rfl) ?_
    refine lv_aload_n hx hb dX7_stepAt_5 rfl (lv_at hl 0 rfl) ?_
    have b_ : 0 ≤ (v0 9).toInt ∧ (v0 9).toInt ≤ 270 := hv0 9
    refine va_get (D := (dC, dI)) (ci := 7) (v := .int (v0 9)) (C := RX7) (T := TX7) (N := 12) hx hb hG zuX7 hown hK hP 0 rfl rfl 9 (by decide) (hG _ zw261) (fun _ h9 => h9) rfl dX7_stepAt_6 ?_
    refine lv_icmp_ge (tgt := 21) hx hb dX7_stepAt_9 (by decide) (fun c_ => ?_) (fun c_ => ?_)
    · skip
      have b_ := zT_ge rfl rfl c_
      refine lv_iconst (v := (-1)) hx hb dX7_stepAt_21 (by decide) ?_
      refine W.widen (k := 0) (n := 0) (by decide) (by decide) ?_
      have hpost : ((-1) ≤ ((-1) : Int32).toInt ∧ ((-1) : Int32).toInt ≤ 12000) := ⟨by omega, by omega⟩
      have hP9 : va_P (dC, dI) vwCl [(h0, .inr (7, mX7 h1 h2 h3 h4 h5 h6 h7 v0)), (h7, .inl (k7, 270, .inl f7))] s.heap := hP
      have hD9 : va_D A [(h0, .inr (7, mX7 h1 h2 h3 h4 h5 h6 h7 v0)), (h7, .inl (k7, 270, .inl f7))] := hD
      exact W.iret (v := (-1)) hx hb hr (fun t ht hW => ⟨⟨(-1), (fun _ => 0), rfl, hpost, (fun _ => 0), (fun _ => (fun _ => 0)), (fun _ => (fun _ => 0)), by rw [ht]; exact hP9, va_K.moved hW.alike hK, hD9⟩, hS.F ht⟩) hS.2.2 dX7_stepAt_22
    · skip
      have b_ := zF_ge rfl rfl c_
      refine lv_aload_n hx hb dX7_stepAt_12 rfl (lv_at hl 0 rfl) ?_
      refine va_get (D := (dC, dI)) (ci := 7) (v := .ref h7) (C := RX7) (T := TX7) (N := 12) hx hb hG zuX7 hown hK hP 0 rfl rfl 6 (by decide) (hG _ zw264) (fun _ h9 => h9) rfl dX7_stepAt_13 ?_
      refine lv_iload_n hx hb dX7_stepAt_16 rfl (lv_at hl 1 rfl) ?_
      refine va_iald hx hb hK hP 1 0 rfl rfl (zin_lit ⟨by omega, by omega⟩) dX7_stepAt_17 ?_
      refine lv_topi (fun z17 e_z17 => ?_)
      have b_ : 0 ≤ z17.toInt ∧ z17.toInt ≤ 12000 := by rw [e_z17]; exact hf7 _
      refine lv_goto (tgt := 22) hx hb dX7_stepAt_18 (by decide) ?_
      refine W.widen (k := 0) (n := 0) (by decide) (by decide) ?_
      have hpost : ((-1) ≤ z17.toInt ∧ z17.toInt ≤ 12000) := ⟨by omega, by omega⟩
      have hP9 : va_P (dC, dI) vwCl [(h0, .inr (7, mX7 h1 h2 h3 h4 h5 h6 h7 v0)), (h7, .inl (k7, 270, .inl f7))] s.heap := hP
      have hD9 : va_D A [(h0, .inr (7, mX7 h1 h2 h3 h4 h5 h6 h7 v0)), (h7, .inl (k7, 270, .inl f7))] := hD
      exact W.iret (v := z17) hx hb hr (fun t ht hW => ⟨⟨z17, (fun _ => 0), rfl, hpost, (fun _ => 0), (fun _ => (fun _ => 0)), (fun _ => (fun _ => 0)), by rw [ht]; exact hP9, va_K.moved hW.alike hK, hD9⟩, hS.F ht⟩) hS.2.2 dX7_stepAt_22
set_option maxHeartbeats 8000000 in
set_option maxRecDepth 100000 in
theorem sX7_isLeaf_0 (l : Launch) (dC : Nat → ClassId) (dI : Nat → Nat → Nat) (adK adV : Nat → Nat) (sz : Nat) (x0 : Int32) : Met l yX7_isLeaf (zw yX7_isLeaf cX7_isLeaf 1 (some .boolean)) { frames := 0, cells := 0, slots := 0, locals := 0 } (zPc dC dI adK adV [.int x0] sz [] []) (va_Qi (fun (r : Int32) (u : Nat → Int32) => (0 ≤ r.toInt ∧ r.toInt ≤ 1) ∧ (r.toInt = 1 → (0 ≤ x0.toInt ∧ x0.toInt ≤ 39))) (fun (u : Nat → Int32) (t : State) => ∃ (ww : Nat → Int64) (aa : Nat → Nat → Int32) (bb : Nat → Nat → Int64), va_P (dC, dI) vwCl [] t.heap ∧ va_K (dC, dI) vwCl [] t ∧ va_D (va_A [] sz) []) (va_A [] sz)) 0 0 (va_A [] sz) := by
  refine Met.ofW (cc := cX7_isLeaf) (maxL := 1) (ret := (some .boolean)) (by decide) rfl ?_
  intro p e s m args below meth c s₁ B hml hv
  obtain ⟨rfl, hsz, hP, hK, hD0, hE, hZ⟩ := hv
  have hx := B.exec
  have hb := B.bytes
  have hr := B.returns
  have hG : ∀ w ∈ zG, w.before _ s = true := fun w h => atoms_spec (ws := (zw yX7_isLeaf cX7_isLeaf 1 (some .boolean))) B.pre w (List.mem_cons_of_mem _ h)
  have hown : s.vm.findClass RX7 = some m.cls := findClass_of_methodNamed B.named
  have hlocks := B.notSynchronized

  subst hsz
  have hD := hD0.self (sz := s.heap.size)
  generalize hAe : va_A [] s.heap.size = A at hD hZ ⊢
  have hA : ∀ q : Nat, s.heap.size ≤ q → A q := fun q h => by rw [← hAe]; exact Or.inr h
  have hS : va_S A s.heap s.heap [] := va_S.rf
  have hl := lv_entry ([.int x0]) (n := 1) (Nat.le_of_ble_eq_true rfl)
  rw [lg_entry_eq]
  generalize (lg_sl ([.int x0]) ++ List.replicate (1 - (lg_sl ([.int x0])).length) Slot.unset).toArray = ls at hl ⊢
  have hl : lv_has ls 1 [(0, .int x0)] := hl
  have b_ := zk_0
  have b_ := zk_1
  refine lv_iload_n hx hb dX7_isLeaf_0 rfl (lv_at hl 0 rfl) ?_
  have b_ : -2147483648 ≤ x0.toInt ∧ x0.toInt ≤ 2147483647 := ⟨zlo _, zhi _⟩
  refine lv_if_lt (tgt := 14) hx hb dX7_isLeaf_1 (by decide) (fun c_ => ?_) (fun c_ => ?_)
  · skip
    have b_ := zT_lt rfl zk_0 c_
    refine lv_iconst (v := 0) hx hb dX7_isLeaf_14 (by decide) ?_
    refine W.widen (k := 0) (n := 0) (by decide) (by decide) ?_
    have hpost : (0 ≤ (0 : Int32).toInt ∧ (0 : Int32).toInt ≤ 1) ∧ ((0 : Int32).toInt = 1 → (0 ≤ x0.toInt ∧ x0.toInt ≤ 39)) := ⟨⟨by omega, by omega⟩, by omega⟩
    have hP9 : va_P (dC, dI) vwCl [] s.heap := hP
    have hD9 : va_D A [] := hD
    exact W.zret (v := 0) hx hb hr rfl (fun t ht hW => ⟨⟨0, (fun _ => 0), rfl, hpost, (fun _ => 0), (fun _ => (fun _ => 0)), (fun _ => (fun _ => 0)), by rw [ht]; exact hP9, va_K.moved hW.alike hK, hD9⟩, hS.F ht⟩) hS.2.2 dX7_isLeaf_15
  · skip
    have b_ := zF_lt rfl zk_0 c_
    refine lv_iload_n hx hb dX7_isLeaf_4 rfl (lv_at hl 0 rfl) ?_
    refine lv_bipush (v := 40) hx hb dX7_isLeaf_5 (by decide) ?_
    refine lv_icmp_ge (tgt := 14) hx hb dX7_isLeaf_7 (by decide) (fun c_ => ?_) (fun c_ => ?_)
    · skip
      have b_ := zT_ge rfl zk_40 c_
      refine lv_iconst (v := 0) hx hb dX7_isLeaf_14 (by decide) ?_
      refine W.widen (k := 0) (n := 0) (by decide) (by decide) ?_
      have hpost : (0 ≤ (0 : Int32).toInt ∧ (0 : Int32).toInt ≤ 1) ∧ ((0 : Int32).toInt = 1 → (0 ≤ x0.toInt ∧ x0.toInt ≤ 39)) := ⟨⟨by omega, by omega⟩, by omega⟩
      have hP9 : va_P (dC, dI) vwCl [] s.heap := hP
      have hD9 : va_D A [] := hD
      exact W.zret (v := 0) hx hb hr rfl (fun t ht hW => ⟨⟨0, (fun _ => 0), rfl, hpost, (fun _ => 0), (fun _ => (fun _ => 0)), (fun _ => (fun _ => 0)), by rw [ht]; exact hP9, va_K.moved hW.alike hK, hD9⟩, hS.F ht⟩) hS.2.2 dX7_isLeaf_15
    · skip
      have b_ := zF_ge rfl zk_40 c_
      refine lv_iconst (v := 1) hx hb dX7_isLeaf_10 (by decide) ?_
      refine lv_goto (tgt := 15) hx hb dX7_isLeaf_11 (by decide) ?_
      refine W.widen (k := 0) (n := 0) (by decide) (by decide) ?_
      have hpost : (0 ≤ (1 : Int32).toInt ∧ (1 : Int32).toInt ≤ 1) ∧ ((1 : Int32).toInt = 1 → (0 ≤ x0.toInt ∧ x0.toInt ≤ 39)) := ⟨⟨by omega, by omega⟩, by omega⟩
      have hP9 : va_P (dC, dI) vwCl [] s.heap := hP
      have hD9 : va_D A [] := hD
      exact W.zret (v := 1) hx hb hr rfl (fun t ht hW => ⟨⟨1, (fun _ => 0), rfl, hpost, (fun _ => 0), (fun _ => (fun _ => 0)), (fun _ => (fun _ => 0)), by rw [ht]; exact hP9, va_K.moved hW.alike hK, hD9⟩, hS.F ht⟩) hS.2.2 dX7_isLeaf_15
set_option maxHeartbeats 8000000 in
set_option maxRecDepth 100000 in
theorem sX7_kindOf_0 (l : Launch) (dC : Nat → ClassId) (dI : Nat → Nat → Nat) (adK adV : Nat → Nat) (h0 : Nat) (h1 : Nat) (h2 : Nat) (h3 : Nat) (h4 : Nat) (h5 : Nat) (h6 : Nat) (h7 : Nat) (k1 : ClassId) (sz : Nat) (v0 : Nat → Int32) (f1 : Nat → Int32) (x1 : Int32) (hv0 : zR rg_Query v0) : Met l yX7_kindOf (zw yX7_kindOf cX7_kindOf 2 (some .int)) { frames := 1, cells := 0, slots := 0, locals := 20 } (zPc dC dI adK adV [.ref h0, .int x1] sz [(h0, .inr (7, mX7 h1 h2 h3 h4 h5 h6 h7 v0)), (h1, .inl (k1, 40, .inl f1))] [(k1, .int)]) (va_Qi (fun (r : Int32) (u : Nat → Int32) => True) (fun (u : Nat → Int32) (t : State) => ∃ (ww : Nat → Int64) (aa : Nat → Nat → Int32) (bb : Nat → Nat → Int64), va_P (dC, dI) vwCl [(h0, .inr (7, mX7 h1 h2 h3 h4 h5 h6 h7 v0)), (h1, .inl (k1, 40, .inl f1))] t.heap ∧ va_K (dC, dI) vwCl [(k1, .int)] t ∧ va_D (va_A [(h0, .inr (7, mX7 h1 h2 h3 h4 h5 h6 h7 v0)), (h1, .inl (k1, 40, .inl f1))] sz) [(h0, .inr (7, mX7 h1 h2 h3 h4 h5 h6 h7 v0)), (h1, .inl (k1, 40, .inl f1))]) (va_A [(h0, .inr (7, mX7 h1 h2 h3 h4 h5 h6 h7 v0)), (h1, .inl (k1, 40, .inl f1))] sz)) 0 0 (va_A [(h0, .inr (7, mX7 h1 h2 h3 h4 h5 h6 h7 v0)), (h1, .inl (k1, 40, .inl f1))] sz) := by
  refine Met.ofW (cc := cX7_kindOf) (maxL := 2) (ret := (some .int)) (by decide) rfl ?_
  intro p e s m args below meth c s₁ B hml hv
  obtain ⟨rfl, hsz, hP, hK, hD0, hE, hZ⟩ := hv
  have hx := B.exec
  have hb := B.bytes
  have hr := B.returns
  have hG : ∀ w ∈ zG, w.before _ s = true := fun w h => atoms_spec (ws := (zw yX7_kindOf cX7_kindOf 2 (some .int))) B.pre w (List.mem_cons_of_mem _ h)
  have hown : s.vm.findClass RX7 = some m.cls := findClass_of_methodNamed B.named
  have hlocks := B.notSynchronized

  subst hsz
  have hD := hD0.self (sz := s.heap.size)
  generalize hAe : va_A [(h0, .inr (7, mX7 h1 h2 h3 h4 h5 h6 h7 v0)), (h1, .inl (k1, 40, .inl f1))] s.heap.size = A at hD hZ ⊢
  have hA : ∀ q : Nat, s.heap.size ≤ q → A q := fun q h => by rw [← hAe]; exact Or.inr h
  have hS : va_S A s.heap s.heap [] := va_S.rf
  have hl := lv_entry ([.ref h0, .int x1]) (n := 2) (Nat.le_of_ble_eq_true rfl)
  rw [lg_entry_eq]
  generalize (lg_sl ([.ref h0, .int x1]) ++ List.replicate (2 - (lg_sl ([.ref h0, .int x1])).length) Slot.unset).toArray = ls at hl ⊢
  have hl : lv_has ls 2 [(0, .ref h0), (1, .int x1)] := hl
  refine lv_iload_n hx hb dX7_kindOf_0 rfl (lv_at hl 1 rfl) ?_
  have hPc := hP.sub (ws' := []) [] rfl
  have hDc := hD.sub (ws' := []) [] (by decide) rfl
  have hKc := hK.sub (tys' := []) [] rfl
  have hFc := va_free (wc := []) hD hS hA [] rfl
  refine va_calli (va_runS (As := [.int x1]) (rest := []) ⟨hx, hb, hml, hown, hG⟩ (sX7_isLeaf_0 l dC dI adK adV s.heap.size x1) (va_cwS 1 hG (zgS zw266 zw267 zw268 zw269) rfl rfl rfl (by decide +kernel) ⟨Nat.le_of_ble_eq_true rfl, Nat.le_of_ble_eq_true rfl⟩) ⟨zPc_blind, zPc_pre hPc hKc hDc hE hS hFc hZ⟩ rfl rfl hl.1 rfl (lv_room (Nat.le_of_ble_eq_true rfl)) dX7_kindOf_1 ⟨Nat.le_of_ble_eq_true rfl, Nat.le_of_ble_eq_true rfl⟩) hS (fun q _ h => hFc q h) hFc (fun r1_ u1_ t H1 locs ht hvm hw hB hz1 hk1 hS => ?_)
  have hw : (0 ≤ r1_.toInt ∧ r1_.toInt ≤ 1) ∧ (r1_.toInt = 1 → (0 ≤ x1.toInt ∧ x1.toInt ≤ 39)) := hw
  obtain ⟨b_, hX1_0⟩ := hw
  obtain ⟨w1_, a1_, b1_, hP1, hK1, hD1⟩ := hB
  rw [ht] at hP1
  obtain ⟨hP, hD⟩ := va_join (wr := [(h0, .inr (7, mX7 h1 h2 h3 h4 h5 h6 h7 v0)), (h1, .inl (k1, 40, .inl f1))]) (w1 := []) hP hD [] [0, 1] rfl rfl (by decide) (by decide) hk1 hFc hP1 hD1
  have hP : va_P (dC, dI) vwCl [(h0, .inr (7, mX7 h1 h2 h3 h4 h5 h6 h7 v0)), (h1, .inl (k1, 40, .inl f1))] H1 := hP.sub [0, 1] rfl
  have hD : va_D A [(h0, .inr (7, mX7 h1 h2 h3 h4 h5 h6 h7 v0)), (h1, .inl (k1, 40, .inl f1))] := hD.sub [0, 1] (by decide) rfl
  generalize H1 = H at hP hS ⊢
  clear hz1
  refine lv_if_eq (tgt := 16) hx hb dX7_kindOf_4 (by decide) (fun c_ => ?_) (fun c_ => ?_)
  · skip
    have b_ := zT_eq rfl zk_0 c_
    refine lv_iconst (v := (-1)) hx hb dX7_kindOf_16 (by decide) ?_
    refine W.widen (k := 0) (n := 0) (by decide) (by decide) ?_
    have hpost : True := trivial
    have hP9 : va_P (dC, dI) vwCl [(h0, .inr (7, mX7 h1 h2 h3 h4 h5 h6 h7 v0)), (h1, .inl (k1, 40, .inl f1))] H := hP
    have hD9 : va_D A [(h0, .inr (7, mX7 h1 h2 h3 h4 h5 h6 h7 v0)), (h1, .inl (k1, 40, .inl f1))] := hD
    exact W.iret (v := (-1)) hx hb hr (fun t ht hW => ⟨⟨(-1), (fun _ => 0), rfl, hpost, (fun _ => 0), (fun _ => (fun _ => 0)), (fun _ => (fun _ => 0)), by rw [ht]; exact hP9, va_K.moved hW.alike hK, hD9⟩, hS.F ht⟩) hS.2.2 dX7_kindOf_17
  · skip
    have b_ := zF_eq rfl zk_0 c_
    refine lv_aload_n hx hb dX7_kindOf_7 rfl (lv_at hl 0 rfl) ?_
    refine va_get (D := (dC, dI)) (ci := 7) (v := .ref h1) (C := RX7) (T := TX7) (N := 12) hx hb hG zuX7 hown hK hP 0 rfl rfl 0 (by decide) (hG _ zw265) (fun _ h9 => h9) rfl dX7_kindOf_8 ?_
    refine lv_iload_n hx hb dX7_kindOf_11 rfl (lv_at hl 1 rfl) ?_
    refine va_iald hx hb hK hP 1 0 rfl rfl (zin_lit ⟨by omega, by omega⟩) dX7_kindOf_12 ?_
    refine lv_topi (fun z12 e_z12 => ?_)
    refine lv_goto (tgt := 17) hx hb dX7_kindOf_13 (by decide) ?_
    refine W.widen (k := 0) (n := 0) (by decide) (by decide) ?_
    have b_ : -2147483648 ≤ z12.toInt ∧ z12.toInt ≤ 2147483647 := ⟨zlo _, zhi _⟩
    have hpost : True := trivial
    have hP9 : va_P (dC, dI) vwCl [(h0, .inr (7, mX7 h1 h2 h3 h4 h5 h6 h7 v0)), (h1, .inl (k1, 40, .inl f1))] H := hP
    have hD9 : va_D A [(h0, .inr (7, mX7 h1 h2 h3 h4 h5 h6 h7 v0)), (h1, .inl (k1, 40, .inl f1))] := hD
    exact W.iret (v := z12) hx hb hr (fun t ht hW => ⟨⟨z12, (fun _ => 0), rfl, hpost, (fun _ => 0), (fun _ => (fun _ => 0)), (fun _ => (fun _ => 0)), by rw [ht]; exact hP9, va_K.moved hW.alike hK, hD9⟩, hS.F ht⟩) hS.2.2 dX7_kindOf_17
set_option maxHeartbeats 8000000 in
set_option maxRecDepth 100000 in
theorem sX7_lowOf_0 (l : Launch) (dC : Nat → ClassId) (dI : Nat → Nat → Nat) (adK adV : Nat → Nat) (h0 : Nat) (h2 : Nat) (h1 : Nat) (h3 : Nat) (h4 : Nat) (h5 : Nat) (h6 : Nat) (h7 : Nat) (k2 : ClassId) (sz : Nat) (v0 : Nat → Int32) (f2 : Nat → Int32) (x1 : Int32) (hv0 : zR rg_Query v0) : Met l yX7_lowOf (zw yX7_lowOf cX7_lowOf 2 (some .int)) { frames := 1, cells := 0, slots := 0, locals := 20 } (zPc dC dI adK adV [.ref h0, .int x1] sz [(h0, .inr (7, mX7 h1 h2 h3 h4 h5 h6 h7 v0)), (h2, .inl (k2, 40, .inl f2))] [(k2, .int)]) (va_Qi (fun (r : Int32) (u : Nat → Int32) => True) (fun (u : Nat → Int32) (t : State) => ∃ (ww : Nat → Int64) (aa : Nat → Nat → Int32) (bb : Nat → Nat → Int64), va_P (dC, dI) vwCl [(h0, .inr (7, mX7 h1 h2 h3 h4 h5 h6 h7 v0)), (h2, .inl (k2, 40, .inl f2))] t.heap ∧ va_K (dC, dI) vwCl [(k2, .int)] t ∧ va_D (va_A [(h0, .inr (7, mX7 h1 h2 h3 h4 h5 h6 h7 v0)), (h2, .inl (k2, 40, .inl f2))] sz) [(h0, .inr (7, mX7 h1 h2 h3 h4 h5 h6 h7 v0)), (h2, .inl (k2, 40, .inl f2))]) (va_A [(h0, .inr (7, mX7 h1 h2 h3 h4 h5 h6 h7 v0)), (h2, .inl (k2, 40, .inl f2))] sz)) 0 0 (va_A [(h0, .inr (7, mX7 h1 h2 h3 h4 h5 h6 h7 v0)), (h2, .inl (k2, 40, .inl f2))] sz) := by
  refine Met.ofW (cc := cX7_lowOf) (maxL := 2) (ret := (some .int)) (by decide) rfl ?_
  intro p e s m args below meth c s₁ B hml hv
  obtain ⟨rfl, hsz, hP, hK, hD0, hE, hZ⟩ := hv
  have hx := B.exec
  have hb := B.bytes
  have hr := B.returns
  have hG : ∀ w ∈ zG, w.before _ s = true := fun w h => atoms_spec (ws := (zw yX7_lowOf cX7_lowOf 2 (some .int))) B.pre w (List.mem_cons_of_mem _ h)
  have hown : s.vm.findClass RX7 = some m.cls := findClass_of_methodNamed B.named
  have hlocks := B.notSynchronized

  subst hsz
  have hD := hD0.self (sz := s.heap.size)
  generalize hAe : va_A [(h0, .inr (7, mX7 h1 h2 h3 h4 h5 h6 h7 v0)), (h2, .inl (k2, 40, .inl f2))] s.heap.size = A at hD hZ ⊢
  have hA : ∀ q : Nat, s.heap.size ≤ q → A q := fun q h => by rw [← hAe]; exact Or.inr h
  have hS : va_S A s.heap s.heap [] := va_S.rf
  have hl := lv_entry ([.ref h0, .int x1]) (n := 2) (Nat.le_of_ble_eq_true rfl)
  rw [lg_entry_eq]
  generalize (lg_sl ([.ref h0, .int x1]) ++ List.replicate (2 - (lg_sl ([.ref h0, .int x1])).length) Slot.unset).toArray = ls at hl ⊢
  have hl : lv_has ls 2 [(0, .ref h0), (1, .int x1)] := hl
  refine lv_iload_n hx hb dX7_lowOf_0 rfl (lv_at hl 1 rfl) ?_
  have hPc := hP.sub (ws' := []) [] rfl
  have hDc := hD.sub (ws' := []) [] (by decide) rfl
  have hKc := hK.sub (tys' := []) [] rfl
  have hFc := va_free (wc := []) hD hS hA [] rfl
  refine va_calli (va_runS (As := [.int x1]) (rest := []) ⟨hx, hb, hml, hown, hG⟩ (sX7_isLeaf_0 l dC dI adK adV s.heap.size x1) (va_cwS 1 hG (zgS zw266 zw267 zw268 zw269) rfl rfl rfl (by decide +kernel) ⟨Nat.le_of_ble_eq_true rfl, Nat.le_of_ble_eq_true rfl⟩) ⟨zPc_blind, zPc_pre hPc hKc hDc hE hS hFc hZ⟩ rfl rfl hl.1 rfl (lv_room (Nat.le_of_ble_eq_true rfl)) dX7_lowOf_1 ⟨Nat.le_of_ble_eq_true rfl, Nat.le_of_ble_eq_true rfl⟩) hS (fun q _ h => hFc q h) hFc (fun r1_ u1_ t H1 locs ht hvm hw hB hz1 hk1 hS => ?_)
  have hw : (0 ≤ r1_.toInt ∧ r1_.toInt ≤ 1) ∧ (r1_.toInt = 1 → (0 ≤ x1.toInt ∧ x1.toInt ≤ 39)) := hw
  obtain ⟨b_, hX1_0⟩ := hw
  obtain ⟨w1_, a1_, b1_, hP1, hK1, hD1⟩ := hB
  rw [ht] at hP1
  obtain ⟨hP, hD⟩ := va_join (wr := [(h0, .inr (7, mX7 h1 h2 h3 h4 h5 h6 h7 v0)), (h2, .inl (k2, 40, .inl f2))]) (w1 := []) hP hD [] [0, 1] rfl rfl (by decide) (by decide) hk1 hFc hP1 hD1
  have hP : va_P (dC, dI) vwCl [(h0, .inr (7, mX7 h1 h2 h3 h4 h5 h6 h7 v0)), (h2, .inl (k2, 40, .inl f2))] H1 := hP.sub [0, 1] rfl
  have hD : va_D A [(h0, .inr (7, mX7 h1 h2 h3 h4 h5 h6 h7 v0)), (h2, .inl (k2, 40, .inl f2))] := hD.sub [0, 1] (by decide) rfl
  generalize H1 = H at hP hS ⊢
  clear hz1
  refine lv_if_eq (tgt := 16) hx hb dX7_lowOf_4 (by decide) (fun c_ => ?_) (fun c_ => ?_)
  · skip
    have b_ := zT_eq rfl zk_0 c_
    refine lv_iconst (v := 0) hx hb dX7_lowOf_16 (by decide) ?_
    refine W.widen (k := 0) (n := 0) (by decide) (by decide) ?_
    have hpost : True := trivial
    have hP9 : va_P (dC, dI) vwCl [(h0, .inr (7, mX7 h1 h2 h3 h4 h5 h6 h7 v0)), (h2, .inl (k2, 40, .inl f2))] H := hP
    have hD9 : va_D A [(h0, .inr (7, mX7 h1 h2 h3 h4 h5 h6 h7 v0)), (h2, .inl (k2, 40, .inl f2))] := hD
    exact W.iret (v := 0) hx hb hr (fun t ht hW => ⟨⟨0, (fun _ => 0), rfl, hpost, (fun _ => 0), (fun _ => (fun _ => 0)), (fun _ => (fun _ => 0)), by rw [ht]; exact hP9, va_K.moved hW.alike hK, hD9⟩, hS.F ht⟩) hS.2.2 dX7_lowOf_17
  · skip
    have b_ := zF_eq rfl zk_0 c_
    refine lv_aload_n hx hb dX7_lowOf_7 rfl (lv_at hl 0 rfl) ?_
    refine va_get (D := (dC, dI)) (ci := 7) (v := .ref h2) (C := RX7) (T := TX7) (N := 12) hx hb hG zuX7 hown hK hP 0 rfl rfl 1 (by decide) (hG _ zw270) (fun _ h9 => h9) rfl dX7_lowOf_8 ?_
    refine lv_iload_n hx hb dX7_lowOf_11 rfl (lv_at hl 1 rfl) ?_
    refine va_iald hx hb hK hP 1 0 rfl rfl (zin_lit ⟨by omega, by omega⟩) dX7_lowOf_12 ?_
    refine lv_topi (fun z12 e_z12 => ?_)
    refine lv_goto (tgt := 17) hx hb dX7_lowOf_13 (by decide) ?_
    refine W.widen (k := 0) (n := 0) (by decide) (by decide) ?_
    have b_ : -2147483648 ≤ z12.toInt ∧ z12.toInt ≤ 2147483647 := ⟨zlo _, zhi _⟩
    have hpost : True := trivial
    have hP9 : va_P (dC, dI) vwCl [(h0, .inr (7, mX7 h1 h2 h3 h4 h5 h6 h7 v0)), (h2, .inl (k2, 40, .inl f2))] H := hP
    have hD9 : va_D A [(h0, .inr (7, mX7 h1 h2 h3 h4 h5 h6 h7 v0)), (h2, .inl (k2, 40, .inl f2))] := hD
    exact W.iret (v := z12) hx hb hr (fun t ht hW => ⟨⟨z12, (fun _ => 0), rfl, hpost, (fun _ => 0), (fun _ => (fun _ => 0)), (fun _ => (fun _ => 0)), by rw [ht]; exact hP9, va_K.moved hW.alike hK, hD9⟩, hS.F ht⟩) hS.2.2 dX7_lowOf_17
set_option maxHeartbeats 8000000 in
set_option maxRecDepth 100000 in
theorem sX7_highOf_0 (l : Launch) (dC : Nat → ClassId) (dI : Nat → Nat → Nat) (adK adV : Nat → Nat) (h0 : Nat) (h3 : Nat) (h1 : Nat) (h2 : Nat) (h4 : Nat) (h5 : Nat) (h6 : Nat) (h7 : Nat) (k3 : ClassId) (sz : Nat) (v0 : Nat → Int32) (f3 : Nat → Int32) (x1 : Int32) (hv0 : zR rg_Query v0) : Met l yX7_highOf (zw yX7_highOf cX7_highOf 2 (some .int)) { frames := 1, cells := 0, slots := 0, locals := 20 } (zPc dC dI adK adV [.ref h0, .int x1] sz [(h0, .inr (7, mX7 h1 h2 h3 h4 h5 h6 h7 v0)), (h3, .inl (k3, 40, .inl f3))] [(k3, .int)]) (va_Qi (fun (r : Int32) (u : Nat → Int32) => True) (fun (u : Nat → Int32) (t : State) => ∃ (ww : Nat → Int64) (aa : Nat → Nat → Int32) (bb : Nat → Nat → Int64), va_P (dC, dI) vwCl [(h0, .inr (7, mX7 h1 h2 h3 h4 h5 h6 h7 v0)), (h3, .inl (k3, 40, .inl f3))] t.heap ∧ va_K (dC, dI) vwCl [(k3, .int)] t ∧ va_D (va_A [(h0, .inr (7, mX7 h1 h2 h3 h4 h5 h6 h7 v0)), (h3, .inl (k3, 40, .inl f3))] sz) [(h0, .inr (7, mX7 h1 h2 h3 h4 h5 h6 h7 v0)), (h3, .inl (k3, 40, .inl f3))]) (va_A [(h0, .inr (7, mX7 h1 h2 h3 h4 h5 h6 h7 v0)), (h3, .inl (k3, 40, .inl f3))] sz)) 0 0 (va_A [(h0, .inr (7, mX7 h1 h2 h3 h4 h5 h6 h7 v0)), (h3, .inl (k3, 40, .inl f3))] sz) := by
  refine Met.ofW (cc := cX7_highOf) (maxL := 2) (ret := (some .int)) (by decide) rfl ?_
  intro p e s m args below meth c s₁ B hml hv
  obtain ⟨rfl, hsz, hP, hK, hD0, hE, hZ⟩ := hv
  have hx := B.exec
  have hb := B.bytes
  have hr := B.returns
  have hG : ∀ w ∈ zG, w.before _ s = true := fun w h => atoms_spec (ws := (zw yX7_highOf cX7_highOf 2 (some .int))) B.pre w (List.mem_cons_of_mem _ h)
  have hown : s.vm.findClass RX7 = some m.cls := findClass_of_methodNamed B.named
  have hlocks := B.notSynchronized

  subst hsz
  have hD := hD0.self (sz := s.heap.size)
  generalize hAe : va_A [(h0, .inr (7, mX7 h1 h2 h3 h4 h5 h6 h7 v0)), (h3, .inl (k3, 40, .inl f3))] s.heap.size = A at hD hZ ⊢
  have hA : ∀ q : Nat, s.heap.size ≤ q → A q := fun q h => by rw [← hAe]; exact Or.inr h
  have hS : va_S A s.heap s.heap [] := va_S.rf
  have hl := lv_entry ([.ref h0, .int x1]) (n := 2) (Nat.le_of_ble_eq_true rfl)
  rw [lg_entry_eq]
  generalize (lg_sl ([.ref h0, .int x1]) ++ List.replicate (2 - (lg_sl ([.ref h0, .int x1])).length) Slot.unset).toArray = ls at hl ⊢
  have hl : lv_has ls 2 [(0, .ref h0), (1, .int x1)] := hl
  refine lv_iload_n hx hb dX7_highOf_0 rfl (lv_at hl 1 rfl) ?_
  have hPc := hP.sub (ws' := []) [] rfl
  have hDc := hD.sub (ws' := []) [] (by decide) rfl
  have hKc := hK.sub (tys' := []) [] rfl
  have hFc := va_free (wc := []) hD hS hA [] rfl
  refine va_calli (va_runS (As := [.int x1]) (rest := []) ⟨hx, hb, hml, hown, hG⟩ (sX7_isLeaf_0 l dC dI adK adV s.heap.size x1) (va_cwS 1 hG (zgS zw266 zw267 zw268 zw269) rfl rfl rfl (by decide +kernel) ⟨Nat.le_of_ble_eq_true rfl, Nat.le_of_ble_eq_true rfl⟩) ⟨zPc_blind, zPc_pre hPc hKc hDc hE hS hFc hZ⟩ rfl rfl hl.1 rfl (lv_room (Nat.le_of_ble_eq_true rfl)) dX7_highOf_1 ⟨Nat.le_of_ble_eq_true rfl, Nat.le_of_ble_eq_true rfl⟩) hS (fun q _ h => hFc q h) hFc (fun r1_ u1_ t H1 locs ht hvm hw hB hz1 hk1 hS => ?_)
  have hw : (0 ≤ r1_.toInt ∧ r1_.toInt ≤ 1) ∧ (r1_.toInt = 1 → (0 ≤ x1.toInt ∧ x1.toInt ≤ 39)) := hw
  obtain ⟨b_, hX1_0⟩ := hw
  obtain ⟨w1_, a1_, b1_, hP1, hK1, hD1⟩ := hB
  rw [ht] at hP1
  obtain ⟨hP, hD⟩ := va_join (wr := [(h0, .inr (7, mX7 h1 h2 h3 h4 h5 h6 h7 v0)), (h3, .inl (k3, 40, .inl f3))]) (w1 := []) hP hD [] [0, 1] rfl rfl (by decide) (by decide) hk1 hFc hP1 hD1
  have hP : va_P (dC, dI) vwCl [(h0, .inr (7, mX7 h1 h2 h3 h4 h5 h6 h7 v0)), (h3, .inl (k3, 40, .inl f3))] H1 := hP.sub [0, 1] rfl
  have hD : va_D A [(h0, .inr (7, mX7 h1 h2 h3 h4 h5 h6 h7 v0)), (h3, .inl (k3, 40, .inl f3))] := hD.sub [0, 1] (by decide) rfl
  generalize H1 = H at hP hS ⊢
  clear hz1
  refine lv_if_eq (tgt := 16) hx hb dX7_highOf_4 (by decide) (fun c_ => ?_) (fun c_ => ?_)
  · skip
    have b_ := zT_eq rfl zk_0 c_
    refine lv_iconst (v := 0) hx hb dX7_highOf_16 (by decide) ?_
    refine W.widen (k := 0) (n := 0) (by decide) (by decide) ?_
    have hpost : True := trivial
    have hP9 : va_P (dC, dI) vwCl [(h0, .inr (7, mX7 h1 h2 h3 h4 h5 h6 h7 v0)), (h3, .inl (k3, 40, .inl f3))] H := hP
    have hD9 : va_D A [(h0, .inr (7, mX7 h1 h2 h3 h4 h5 h6 h7 v0)), (h3, .inl (k3, 40, .inl f3))] := hD
    exact W.iret (v := 0) hx hb hr (fun t ht hW => ⟨⟨0, (fun _ => 0), rfl, hpost, (fun _ => 0), (fun _ => (fun _ => 0)), (fun _ => (fun _ => 0)), by rw [ht]; exact hP9, va_K.moved hW.alike hK, hD9⟩, hS.F ht⟩) hS.2.2 dX7_highOf_17
  · skip
    have b_ := zF_eq rfl zk_0 c_
    refine lv_aload_n hx hb dX7_highOf_7 rfl (lv_at hl 0 rfl) ?_
    refine va_get (D := (dC, dI)) (ci := 7) (v := .ref h3) (C := RX7) (T := TX7) (N := 12) hx hb hG zuX7 hown hK hP 0 rfl rfl 2 (by decide) (hG _ zw271) (fun _ h9 => h9) rfl dX7_highOf_8 ?_
    refine lv_iload_n hx hb dX7_highOf_11 rfl (lv_at hl 1 rfl) ?_
    refine va_iald hx hb hK hP 1 0 rfl rfl (zin_lit ⟨by omega, by omega⟩) dX7_highOf_12 ?_
    refine lv_topi (fun z12 e_z12 => ?_)
    refine lv_goto (tgt := 17) hx hb dX7_highOf_13 (by decide) ?_
    refine W.widen (k := 0) (n := 0) (by decide) (by decide) ?_
    have b_ : -2147483648 ≤ z12.toInt ∧ z12.toInt ≤ 2147483647 := ⟨zlo _, zhi _⟩
    have hpost : True := trivial
    have hP9 : va_P (dC, dI) vwCl [(h0, .inr (7, mX7 h1 h2 h3 h4 h5 h6 h7 v0)), (h3, .inl (k3, 40, .inl f3))] H := hP
    have hD9 : va_D A [(h0, .inr (7, mX7 h1 h2 h3 h4 h5 h6 h7 v0)), (h3, .inl (k3, 40, .inl f3))] := hD
    exact W.iret (v := z12) hx hb hr (fun t ht hW => ⟨⟨z12, (fun _ => 0), rfl, hpost, (fun _ => 0), (fun _ => (fun _ => 0)), (fun _ => (fun _ => 0)), by rw [ht]; exact hP9, va_K.moved hW.alike hK, hD9⟩, hS.F ht⟩) hS.2.2 dX7_highOf_17
set_option maxHeartbeats 8000000 in
set_option maxRecDepth 100000 in
theorem sX7_sidesOf_0 (l : Launch) (dC : Nat → ClassId) (dI : Nat → Nat → Nat) (adK adV : Nat → Nat) (h0 : Nat) (h4 : Nat) (h1 : Nat) (h2 : Nat) (h3 : Nat) (h5 : Nat) (h6 : Nat) (h7 : Nat) (k4 : ClassId) (sz : Nat) (v0 : Nat → Int32) (f4 : Nat → Int32) (x1 : Int32) (hv0 : zR rg_Query v0) : Met l yX7_sidesOf (zw yX7_sidesOf cX7_sidesOf 2 (some .int)) { frames := 1, cells := 0, slots := 0, locals := 20 } (zPc dC dI adK adV [.ref h0, .int x1] sz [(h0, .inr (7, mX7 h1 h2 h3 h4 h5 h6 h7 v0)), (h4, .inl (k4, 40, .inl f4))] [(k4, .int)]) (va_Qi (fun (r : Int32) (u : Nat → Int32) => True) (fun (u : Nat → Int32) (t : State) => ∃ (ww : Nat → Int64) (aa : Nat → Nat → Int32) (bb : Nat → Nat → Int64), va_P (dC, dI) vwCl [(h0, .inr (7, mX7 h1 h2 h3 h4 h5 h6 h7 v0)), (h4, .inl (k4, 40, .inl f4))] t.heap ∧ va_K (dC, dI) vwCl [(k4, .int)] t ∧ va_D (va_A [(h0, .inr (7, mX7 h1 h2 h3 h4 h5 h6 h7 v0)), (h4, .inl (k4, 40, .inl f4))] sz) [(h0, .inr (7, mX7 h1 h2 h3 h4 h5 h6 h7 v0)), (h4, .inl (k4, 40, .inl f4))]) (va_A [(h0, .inr (7, mX7 h1 h2 h3 h4 h5 h6 h7 v0)), (h4, .inl (k4, 40, .inl f4))] sz)) 0 0 (va_A [(h0, .inr (7, mX7 h1 h2 h3 h4 h5 h6 h7 v0)), (h4, .inl (k4, 40, .inl f4))] sz) := by
  refine Met.ofW (cc := cX7_sidesOf) (maxL := 2) (ret := (some .int)) (by decide) rfl ?_
  intro p e s m args below meth c s₁ B hml hv
  obtain ⟨rfl, hsz, hP, hK, hD0, hE, hZ⟩ := hv
  have hx := B.exec
  have hb := B.bytes
  have hr := B.returns
  have hG : ∀ w ∈ zG, w.before _ s = true := fun w h => atoms_spec (ws := (zw yX7_sidesOf cX7_sidesOf 2 (some .int))) B.pre w (List.mem_cons_of_mem _ h)
  have hown : s.vm.findClass RX7 = some m.cls := findClass_of_methodNamed B.named
  have hlocks := B.notSynchronized

  subst hsz
  have hD := hD0.self (sz := s.heap.size)
  generalize hAe : va_A [(h0, .inr (7, mX7 h1 h2 h3 h4 h5 h6 h7 v0)), (h4, .inl (k4, 40, .inl f4))] s.heap.size = A at hD hZ ⊢
  have hA : ∀ q : Nat, s.heap.size ≤ q → A q := fun q h => by rw [← hAe]; exact Or.inr h
  have hS : va_S A s.heap s.heap [] := va_S.rf
  have hl := lv_entry ([.ref h0, .int x1]) (n := 2) (Nat.le_of_ble_eq_true rfl)
  rw [lg_entry_eq]
  generalize (lg_sl ([.ref h0, .int x1]) ++ List.replicate (2 - (lg_sl ([.ref h0, .int x1])).length) Slot.unset).toArray = ls at hl ⊢
  have hl : lv_has ls 2 [(0, .ref h0), (1, .int x1)] := hl
  refine lv_iload_n hx hb dX7_sidesOf_0 rfl (lv_at hl 1 rfl) ?_
  have hPc := hP.sub (ws' := []) [] rfl
  have hDc := hD.sub (ws' := []) [] (by decide) rfl
  have hKc := hK.sub (tys' := []) [] rfl
  have hFc := va_free (wc := []) hD hS hA [] rfl
  refine va_calli (va_runS (As := [.int x1]) (rest := []) ⟨hx, hb, hml, hown, hG⟩ (sX7_isLeaf_0 l dC dI adK adV s.heap.size x1) (va_cwS 1 hG (zgS zw266 zw267 zw268 zw269) rfl rfl rfl (by decide +kernel) ⟨Nat.le_of_ble_eq_true rfl, Nat.le_of_ble_eq_true rfl⟩) ⟨zPc_blind, zPc_pre hPc hKc hDc hE hS hFc hZ⟩ rfl rfl hl.1 rfl (lv_room (Nat.le_of_ble_eq_true rfl)) dX7_sidesOf_1 ⟨Nat.le_of_ble_eq_true rfl, Nat.le_of_ble_eq_true rfl⟩) hS (fun q _ h => hFc q h) hFc (fun r1_ u1_ t H1 locs ht hvm hw hB hz1 hk1 hS => ?_)
  have hw : (0 ≤ r1_.toInt ∧ r1_.toInt ≤ 1) ∧ (r1_.toInt = 1 → (0 ≤ x1.toInt ∧ x1.toInt ≤ 39)) := hw
  obtain ⟨b_, hX1_0⟩ := hw
  obtain ⟨w1_, a1_, b1_, hP1, hK1, hD1⟩ := hB
  rw [ht] at hP1
  obtain ⟨hP, hD⟩ := va_join (wr := [(h0, .inr (7, mX7 h1 h2 h3 h4 h5 h6 h7 v0)), (h4, .inl (k4, 40, .inl f4))]) (w1 := []) hP hD [] [0, 1] rfl rfl (by decide) (by decide) hk1 hFc hP1 hD1
  have hP : va_P (dC, dI) vwCl [(h0, .inr (7, mX7 h1 h2 h3 h4 h5 h6 h7 v0)), (h4, .inl (k4, 40, .inl f4))] H1 := hP.sub [0, 1] rfl
  have hD : va_D A [(h0, .inr (7, mX7 h1 h2 h3 h4 h5 h6 h7 v0)), (h4, .inl (k4, 40, .inl f4))] := hD.sub [0, 1] (by decide) rfl
  generalize H1 = H at hP hS ⊢
  clear hz1
  refine lv_if_eq (tgt := 16) hx hb dX7_sidesOf_4 (by decide) (fun c_ => ?_) (fun c_ => ?_)
  · skip
    have b_ := zT_eq rfl zk_0 c_
    refine lv_iconst (v := 0) hx hb dX7_sidesOf_16 (by decide) ?_
    refine W.widen (k := 0) (n := 0) (by decide) (by decide) ?_
    have hpost : True := trivial
    have hP9 : va_P (dC, dI) vwCl [(h0, .inr (7, mX7 h1 h2 h3 h4 h5 h6 h7 v0)), (h4, .inl (k4, 40, .inl f4))] H := hP
    have hD9 : va_D A [(h0, .inr (7, mX7 h1 h2 h3 h4 h5 h6 h7 v0)), (h4, .inl (k4, 40, .inl f4))] := hD
    exact W.iret (v := 0) hx hb hr (fun t ht hW => ⟨⟨0, (fun _ => 0), rfl, hpost, (fun _ => 0), (fun _ => (fun _ => 0)), (fun _ => (fun _ => 0)), by rw [ht]; exact hP9, va_K.moved hW.alike hK, hD9⟩, hS.F ht⟩) hS.2.2 dX7_sidesOf_17
  · skip
    have b_ := zF_eq rfl zk_0 c_
    refine lv_aload_n hx hb dX7_sidesOf_7 rfl (lv_at hl 0 rfl) ?_
    refine va_get (D := (dC, dI)) (ci := 7) (v := .ref h4) (C := RX7) (T := TX7) (N := 12) hx hb hG zuX7 hown hK hP 0 rfl rfl 3 (by decide) (hG _ zw272) (fun _ h9 => h9) rfl dX7_sidesOf_8 ?_
    refine lv_iload_n hx hb dX7_sidesOf_11 rfl (lv_at hl 1 rfl) ?_
    refine va_iald hx hb hK hP 1 0 rfl rfl (zin_lit ⟨by omega, by omega⟩) dX7_sidesOf_12 ?_
    refine lv_topi (fun z12 e_z12 => ?_)
    refine lv_goto (tgt := 17) hx hb dX7_sidesOf_13 (by decide) ?_
    refine W.widen (k := 0) (n := 0) (by decide) (by decide) ?_
    have b_ : -2147483648 ≤ z12.toInt ∧ z12.toInt ≤ 2147483647 := ⟨zlo _, zhi _⟩
    have hpost : True := trivial
    have hP9 : va_P (dC, dI) vwCl [(h0, .inr (7, mX7 h1 h2 h3 h4 h5 h6 h7 v0)), (h4, .inl (k4, 40, .inl f4))] H := hP
    have hD9 : va_D A [(h0, .inr (7, mX7 h1 h2 h3 h4 h5 h6 h7 v0)), (h4, .inl (k4, 40, .inl f4))] := hD
    exact W.iret (v := z12) hx hb hr (fun t ht hW => ⟨⟨z12, (fun _ => 0), rfl, hpost, (fun _ => 0), (fun _ => (fun _ => 0)), (fun _ => (fun _ => 0)), by rw [ht]; exact hP9, va_K.moved hW.alike hK, hD9⟩, hS.F ht⟩) hS.2.2 dX7_sidesOf_17
set_option maxHeartbeats 8000000 in
set_option maxRecDepth 100000 in
theorem sX7_isCounted_0 (l : Launch) (dC : Nat → ClassId) (dI : Nat → Nat → Nat) (adK adV : Nat → Nat) (h0 : Nat) (h5 : Nat) (h1 : Nat) (h2 : Nat) (h3 : Nat) (h4 : Nat) (h6 : Nat) (h7 : Nat) (k5 : ClassId) (sz : Nat) (v0 : Nat → Int32) (f5 : Nat → Int32) (x1 : Int32) (hv0 : zR rg_Query v0) : Met l yX7_isCounted (zw yX7_isCounted cX7_isCounted 2 (some .boolean)) { frames := 1, cells := 0, slots := 0, locals := 20 } (zPc dC dI adK adV [.ref h0, .int x1] sz [(h0, .inr (7, mX7 h1 h2 h3 h4 h5 h6 h7 v0)), (h5, .inl (k5, 40, .inl f5))] [(k5, .boolean)]) (va_Qi (fun (r : Int32) (u : Nat → Int32) => (0 ≤ r.toInt ∧ r.toInt ≤ 1)) (fun (u : Nat → Int32) (t : State) => ∃ (ww : Nat → Int64) (aa : Nat → Nat → Int32) (bb : Nat → Nat → Int64), va_P (dC, dI) vwCl [(h0, .inr (7, mX7 h1 h2 h3 h4 h5 h6 h7 v0)), (h5, .inl (k5, 40, .inl f5))] t.heap ∧ va_K (dC, dI) vwCl [(k5, .boolean)] t ∧ va_D (va_A [(h0, .inr (7, mX7 h1 h2 h3 h4 h5 h6 h7 v0)), (h5, .inl (k5, 40, .inl f5))] sz) [(h0, .inr (7, mX7 h1 h2 h3 h4 h5 h6 h7 v0)), (h5, .inl (k5, 40, .inl f5))]) (va_A [(h0, .inr (7, mX7 h1 h2 h3 h4 h5 h6 h7 v0)), (h5, .inl (k5, 40, .inl f5))] sz)) 0 0 (va_A [(h0, .inr (7, mX7 h1 h2 h3 h4 h5 h6 h7 v0)), (h5, .inl (k5, 40, .inl f5))] sz) := by
  refine Met.ofW (cc := cX7_isCounted) (maxL := 2) (ret := (some .boolean)) (by decide) rfl ?_
  intro p e s m args below meth c s₁ B hml hv
  obtain ⟨rfl, hsz, hP, hK, hD0, hE, hZ⟩ := hv
  have hx := B.exec
  have hb := B.bytes
  have hr := B.returns
  have hG : ∀ w ∈ zG, w.before _ s = true := fun w h => atoms_spec (ws := (zw yX7_isCounted cX7_isCounted 2 (some .boolean))) B.pre w (List.mem_cons_of_mem _ h)
  have hown : s.vm.findClass RX7 = some m.cls := findClass_of_methodNamed B.named
  have hlocks := B.notSynchronized

  subst hsz
  have hD := hD0.self (sz := s.heap.size)
  generalize hAe : va_A [(h0, .inr (7, mX7 h1 h2 h3 h4 h5 h6 h7 v0)), (h5, .inl (k5, 40, .inl f5))] s.heap.size = A at hD hZ ⊢
  have hA : ∀ q : Nat, s.heap.size ≤ q → A q := fun q h => by rw [← hAe]; exact Or.inr h
  have hS : va_S A s.heap s.heap [] := va_S.rf
  have hl := lv_entry ([.ref h0, .int x1]) (n := 2) (Nat.le_of_ble_eq_true rfl)
  rw [lg_entry_eq]
  generalize (lg_sl ([.ref h0, .int x1]) ++ List.replicate (2 - (lg_sl ([.ref h0, .int x1])).length) Slot.unset).toArray = ls at hl ⊢
  have hl : lv_has ls 2 [(0, .ref h0), (1, .int x1)] := hl
  have b_ := zk_0
  have b_ := zk_1
  refine lv_iload_n hx hb dX7_isCounted_0 rfl (lv_at hl 1 rfl) ?_
  have hPc := hP.sub (ws' := []) [] rfl
  have hDc := hD.sub (ws' := []) [] (by decide) rfl
  have hKc := hK.sub (tys' := []) [] rfl
  have hFc := va_free (wc := []) hD hS hA [] rfl
  refine va_calli (va_runS (As := [.int x1]) (rest := []) ⟨hx, hb, hml, hown, hG⟩ (sX7_isLeaf_0 l dC dI adK adV s.heap.size x1) (va_cwS 1 hG (zgS zw266 zw267 zw268 zw269) rfl rfl rfl (by decide +kernel) ⟨Nat.le_of_ble_eq_true rfl, Nat.le_of_ble_eq_true rfl⟩) ⟨zPc_blind, zPc_pre hPc hKc hDc hE hS hFc hZ⟩ rfl rfl hl.1 rfl (lv_room (Nat.le_of_ble_eq_true rfl)) dX7_isCounted_1 ⟨Nat.le_of_ble_eq_true rfl, Nat.le_of_ble_eq_true rfl⟩) hS (fun q _ h => hFc q h) hFc (fun r1_ u1_ t H1 locs ht hvm hw hB hz1 hk1 hS => ?_)
  have hw : (0 ≤ r1_.toInt ∧ r1_.toInt ≤ 1) ∧ (r1_.toInt = 1 → (0 ≤ x1.toInt ∧ x1.toInt ≤ 39)) := hw
  obtain ⟨b_, hX1_0⟩ := hw
  obtain ⟨w1_, a1_, b1_, hP1, hK1, hD1⟩ := hB
  rw [ht] at hP1
  obtain ⟨hP, hD⟩ := va_join (wr := [(h0, .inr (7, mX7 h1 h2 h3 h4 h5 h6 h7 v0)), (h5, .inl (k5, 40, .inl f5))]) (w1 := []) hP hD [] [0, 1] rfl rfl (by decide) (by decide) hk1 hFc hP1 hD1
  have hP : va_P (dC, dI) vwCl [(h0, .inr (7, mX7 h1 h2 h3 h4 h5 h6 h7 v0)), (h5, .inl (k5, 40, .inl f5))] H1 := hP.sub [0, 1] rfl
  have hD : va_D A [(h0, .inr (7, mX7 h1 h2 h3 h4 h5 h6 h7 v0)), (h5, .inl (k5, 40, .inl f5))] := hD.sub [0, 1] (by decide) rfl
  generalize H1 = H at hP hS ⊢
  clear hz1
  refine lv_if_eq (tgt := 20) hx hb dX7_isCounted_4 (by decide) (fun c_ => ?_) (fun c_ => ?_)
  · skip
    have b_ := zT_eq rfl zk_0 c_
    refine lv_iconst (v := 0) hx hb dX7_isCounted_20 (by decide) ?_
    refine W.widen (k := 0) (n := 0) (by decide) (by decide) ?_
    have hpost : (0 ≤ (0 : Int32).toInt ∧ (0 : Int32).toInt ≤ 1) := ⟨by omega, by omega⟩
    have hP9 : va_P (dC, dI) vwCl [(h0, .inr (7, mX7 h1 h2 h3 h4 h5 h6 h7 v0)), (h5, .inl (k5, 40, .inl f5))] H := hP
    have hD9 : va_D A [(h0, .inr (7, mX7 h1 h2 h3 h4 h5 h6 h7 v0)), (h5, .inl (k5, 40, .inl f5))] := hD
    exact W.zret (v := 0) hx hb hr rfl (fun t ht hW => ⟨⟨0, (fun _ => 0), rfl, hpost, (fun _ => 0), (fun _ => (fun _ => 0)), (fun _ => (fun _ => 0)), by rw [ht]; exact hP9, va_K.moved hW.alike hK, hD9⟩, hS.F ht⟩) hS.2.2 dX7_isCounted_21
  · skip
    have b_ := zF_eq rfl zk_0 c_
    refine lv_aload_n hx hb dX7_isCounted_7 rfl (lv_at hl 0 rfl) ?_
    refine va_get (D := (dC, dI)) (ci := 7) (v := .ref h5) (C := RX7) (T := TX7) (N := 12) hx hb hG zuX7 hown hK hP 0 rfl rfl 4 (by decide) (hG _ zw273) (fun _ h9 => h9) rfl dX7_isCounted_8 ?_
    refine lv_iload_n hx hb dX7_isCounted_11 rfl (lv_at hl 1 rfl) ?_
    refine va_zald hx hb hK hP 1 0 rfl rfl (zin_lit ⟨by omega, by omega⟩) dX7_isCounted_12 ?_
    refine lv_topi (fun z12 e_z12 => ?_)
    have b_ : -2147483648 ≤ z12.toInt ∧ z12.toInt ≤ 2147483647 := ⟨zlo _, zhi _⟩
    refine lv_if_eq (tgt := 20) hx hb dX7_isCounted_13 (by decide) (fun c_ => ?_) (fun c_ => ?_)
    · skip
      have b_ := zT_eq rfl zk_0 c_
      refine lv_iconst (v := 0) hx hb dX7_isCounted_20 (by decide) ?_
      refine W.widen (k := 0) (n := 0) (by decide) (by decide) ?_
      have hpost : (0 ≤ (0 : Int32).toInt ∧ (0 : Int32).toInt ≤ 1) := ⟨by omega, by omega⟩
      have hP9 : va_P (dC, dI) vwCl [(h0, .inr (7, mX7 h1 h2 h3 h4 h5 h6 h7 v0)), (h5, .inl (k5, 40, .inl f5))] H := hP
      have hD9 : va_D A [(h0, .inr (7, mX7 h1 h2 h3 h4 h5 h6 h7 v0)), (h5, .inl (k5, 40, .inl f5))] := hD
      exact W.zret (v := 0) hx hb hr rfl (fun t ht hW => ⟨⟨0, (fun _ => 0), rfl, hpost, (fun _ => 0), (fun _ => (fun _ => 0)), (fun _ => (fun _ => 0)), by rw [ht]; exact hP9, va_K.moved hW.alike hK, hD9⟩, hS.F ht⟩) hS.2.2 dX7_isCounted_21
    · skip
      have b_ := zF_eq rfl zk_0 c_
      refine lv_iconst (v := 1) hx hb dX7_isCounted_16 (by decide) ?_
      refine lv_goto (tgt := 21) hx hb dX7_isCounted_17 (by decide) ?_
      refine W.widen (k := 0) (n := 0) (by decide) (by decide) ?_
      have hpost : (0 ≤ (1 : Int32).toInt ∧ (1 : Int32).toInt ≤ 1) := ⟨by omega, by omega⟩
      have hP9 : va_P (dC, dI) vwCl [(h0, .inr (7, mX7 h1 h2 h3 h4 h5 h6 h7 v0)), (h5, .inl (k5, 40, .inl f5))] H := hP
      have hD9 : va_D A [(h0, .inr (7, mX7 h1 h2 h3 h4 h5 h6 h7 v0)), (h5, .inl (k5, 40, .inl f5))] := hD
      exact W.zret (v := 1) hx hb hr rfl (fun t ht hW => ⟨⟨1, (fun _ => 0), rfl, hpost, (fun _ => 0), (fun _ => (fun _ => 0)), (fun _ => (fun _ => 0)), by rw [ht]; exact hP9, va_K.moved hW.alike hK, hD9⟩, hS.F ht⟩) hS.2.2 dX7_isCounted_21
set_option maxHeartbeats 8000000 in
set_option maxRecDepth 100000 in
theorem sX7_phraseWord_0 (l : Launch) (dC : Nat → ClassId) (dI : Nat → Nat → Nat) (adK adV : Nat → Nat) (h0 : Nat) (h6 : Nat) (h1 : Nat) (h2 : Nat) (h3 : Nat) (h4 : Nat) (h5 : Nat) (h7 : Nat) (k6 : ClassId) (sz : Nat) (v0 : Nat → Int32) (f6 : Nat → Int32) (x1 : Int32) (hv0 : zR rg_Query v0) : Met l yX7_phraseWord (zw yX7_phraseWord cX7_phraseWord 2 (some .int)) { frames := 0, cells := 0, slots := 0, locals := 0 } (zPc dC dI adK adV [.ref h0, .int x1] sz [(h0, .inr (7, mX7 h1 h2 h3 h4 h5 h6 h7 v0)), (h6, .inl (k6, 160, .inl f6))] [(k6, .int)]) (va_Qi (fun (r : Int32) (u : Nat → Int32) => True) (fun (u : Nat → Int32) (t : State) => ∃ (ww : Nat → Int64) (aa : Nat → Nat → Int32) (bb : Nat → Nat → Int64), va_P (dC, dI) vwCl [(h0, .inr (7, mX7 h1 h2 h3 h4 h5 h6 h7 v0)), (h6, .inl (k6, 160, .inl f6))] t.heap ∧ va_K (dC, dI) vwCl [(k6, .int)] t ∧ va_D (va_A [(h0, .inr (7, mX7 h1 h2 h3 h4 h5 h6 h7 v0)), (h6, .inl (k6, 160, .inl f6))] sz) [(h0, .inr (7, mX7 h1 h2 h3 h4 h5 h6 h7 v0)), (h6, .inl (k6, 160, .inl f6))]) (va_A [(h0, .inr (7, mX7 h1 h2 h3 h4 h5 h6 h7 v0)), (h6, .inl (k6, 160, .inl f6))] sz)) 0 0 (va_A [(h0, .inr (7, mX7 h1 h2 h3 h4 h5 h6 h7 v0)), (h6, .inl (k6, 160, .inl f6))] sz) := by
  refine Met.ofW (cc := cX7_phraseWord) (maxL := 2) (ret := (some .int)) (by decide) rfl ?_
  intro p e s m args below meth c s₁ B hml hv
  obtain ⟨rfl, hsz, hP, hK, hD0, hE, hZ⟩ := hv
  have hx := B.exec
  have hb := B.bytes
  have hr := B.returns
  have hG : ∀ w ∈ zG, w.before _ s = true := fun w h => atoms_spec (ws := (zw yX7_phraseWord cX7_phraseWord 2 (some .int))) B.pre w (List.mem_cons_of_mem _ h)
  have hown : s.vm.findClass RX7 = some m.cls := findClass_of_methodNamed B.named
  have hlocks := B.notSynchronized

  subst hsz
  have hD := hD0.self (sz := s.heap.size)
  generalize hAe : va_A [(h0, .inr (7, mX7 h1 h2 h3 h4 h5 h6 h7 v0)), (h6, .inl (k6, 160, .inl f6))] s.heap.size = A at hD hZ ⊢
  have hA : ∀ q : Nat, s.heap.size ≤ q → A q := fun q h => by rw [← hAe]; exact Or.inr h
  have hS : va_S A s.heap s.heap [] := va_S.rf
  have hl := lv_entry ([.ref h0, .int x1]) (n := 2) (Nat.le_of_ble_eq_true rfl)
  rw [lg_entry_eq]
  generalize (lg_sl ([.ref h0, .int x1]) ++ List.replicate (2 - (lg_sl ([.ref h0, .int x1])).length) Slot.unset).toArray = ls at hl ⊢
  have hl : lv_has ls 2 [(0, .ref h0), (1, .int x1)] := hl
  refine lv_iload_n hx hb dX7_phraseWord_0 rfl (lv_at hl 1 rfl) ?_
  have b_ : -2147483648 ≤ x1.toInt ∧ x1.toInt ≤ 2147483647 := ⟨zlo _, zhi _⟩
  refine lv_if_lt (tgt := 21) hx hb dX7_phraseWord_1 (by decide) (fun c_ => ?_) (fun c_ => ?_)
  · skip
    have b_ := zT_lt rfl zk_0 c_
    refine lv_bipush (v := (-2)) hx hb dX7_phraseWord_21 (by decide) ?_
    refine W.widen (k := 0) (n := 0) (by decide) (by decide) ?_
    have hpost : True := trivial
    have hP9 : va_P (dC, dI) vwCl [(h0, .inr (7, mX7 h1 h2 h3 h4 h5 h6 h7 v0)), (h6, .inl (k6, 160, .inl f6))] s.heap := hP
    have hD9 : va_D A [(h0, .inr (7, mX7 h1 h2 h3 h4 h5 h6 h7 v0)), (h6, .inl (k6, 160, .inl f6))] := hD
    exact W.iret (v := (-2)) hx hb hr (fun t ht hW => ⟨⟨(-2), (fun _ => 0), rfl, hpost, (fun _ => 0), (fun _ => (fun _ => 0)), (fun _ => (fun _ => 0)), by rw [ht]; exact hP9, va_K.moved hW.alike hK, hD9⟩, hS.F ht⟩) hS.2.2 dX7_phraseWord_23
  · skip
    have b_ := zF_lt rfl zk_0 c_
    refine lv_iload_n hx hb dX7_phraseWord_4 rfl (lv_at hl 1 rfl) ?_
    refine lv_aload_n hx hb dX7_phraseWord_5 rfl (lv_at hl 0 rfl) ?_
    have b_ : 0 ≤ (v0 8).toInt ∧ (v0 8).toInt ≤ 160 := hv0 8
    refine va_get (D := (dC, dI)) (ci := 7) (v := .int (v0 8)) (C := RX7) (T := TX7) (N := 12) hx hb hG zuX7 hown hK hP 0 rfl rfl 8 (by decide) (hG _ zw260) (fun _ h9 => h9) rfl dX7_phraseWord_6 ?_
    refine lv_icmp_ge (tgt := 21) hx hb dX7_phraseWord_9 (by decide) (fun c_ => ?_) (fun c_ => ?_)
    · skip
      have b_ := zT_ge rfl rfl c_
      refine lv_bipush (v := (-2)) hx hb dX7_phraseWord_21 (by decide) ?_
      refine W.widen (k := 0) (n := 0) (by decide) (by decide) ?_
      have hpost : True := trivial
      have hP9 : va_P (dC, dI) vwCl [(h0, .inr (7, mX7 h1 h2 h3 h4 h5 h6 h7 v0)), (h6, .inl (k6, 160, .inl f6))] s.heap := hP
      have hD9 : va_D A [(h0, .inr (7, mX7 h1 h2 h3 h4 h5 h6 h7 v0)), (h6, .inl (k6, 160, .inl f6))] := hD
      exact W.iret (v := (-2)) hx hb hr (fun t ht hW => ⟨⟨(-2), (fun _ => 0), rfl, hpost, (fun _ => 0), (fun _ => (fun _ => 0)), (fun _ => (fun _ => 0)), by rw [ht]; exact hP9, va_K.moved hW.alike hK, hD9⟩, hS.F ht⟩) hS.2.2 dX7_phraseWord_23
    · skip
      have b_ := zF_ge rfl rfl c_
      refine lv_aload_n hx hb dX7_phraseWord_12 rfl (lv_at hl 0 rfl) ?_
      refine va_get (D := (dC, dI)) (ci := 7) (v := .ref h6) (C := RX7) (T := TX7) (N := 12) hx hb hG zuX7 hown hK hP 0 rfl rfl 5 (by decide) (hG _ zw274) (fun _ h9 => h9) rfl dX7_phraseWord_13 ?_
      refine lv_iload_n hx hb dX7_phraseWord_16 rfl (lv_at hl 1 rfl) ?_
      refine va_iald hx hb hK hP 1 0 rfl rfl (zin_lit ⟨by omega, by omega⟩) dX7_phraseWord_17 ?_
      refine lv_topi (fun z17 e_z17 => ?_)
      refine lv_goto (tgt := 23) hx hb dX7_phraseWord_18 (by decide) ?_
      refine W.widen (k := 0) (n := 0) (by decide) (by decide) ?_
      have b_ : -2147483648 ≤ z17.toInt ∧ z17.toInt ≤ 2147483647 := ⟨zlo _, zhi _⟩
      have hpost : True := trivial
      have hP9 : va_P (dC, dI) vwCl [(h0, .inr (7, mX7 h1 h2 h3 h4 h5 h6 h7 v0)), (h6, .inl (k6, 160, .inl f6))] s.heap := hP
      have hD9 : va_D A [(h0, .inr (7, mX7 h1 h2 h3 h4 h5 h6 h7 v0)), (h6, .inl (k6, 160, .inl f6))] := hD
      exact W.iret (v := z17) hx hb hr (fun t ht hW => ⟨⟨z17, (fun _ => 0), rfl, hpost, (fun _ => 0), (fun _ => (fun _ => 0)), (fun _ => (fun _ => 0)), by rw [ht]; exact hP9, va_K.moved hW.alike hK, hD9⟩, hS.F ht⟩) hS.2.2 dX7_phraseWord_23
set_option maxHeartbeats 8000000 in
set_option maxRecDepth 100000 in
theorem sX7_addPhraseWord_0 (l : Launch) (dC : Nat → ClassId) (dI : Nat → Nat → Nat) (adK adV : Nat → Nat) (h0 : Nat) (h6 : Nat) (h1 : Nat) (h2 : Nat) (h3 : Nat) (h4 : Nat) (h5 : Nat) (h7 : Nat) (k6 : ClassId) (sz : Nat) (v0 : Nat → Int32) (f6 : Nat → Int32) (x1 : Int32) (hv0 : zR rg_Query v0) : Met l yX7_addPhraseWord (zw yX7_addPhraseWord cX7_addPhraseWord 2 none) { frames := 0, cells := 0, slots := 0, locals := 0 } (zPc dC dI adK adV [.ref h0, .int x1] sz [(h0, .inr (7, mX7 h1 h2 h3 h4 h5 h6 h7 v0)), (h6, .inl (k6, 160, .inl f6))] [(k6, .int)]) (va_Qv (fun (u : Nat → Int32) => (1 ≤ (u 0).toInt ∧ (u 0).toInt ≤ 160)) (fun (u : Nat → Int32) (t : State) => ∃ (ww : Nat → Int64) (aa : Nat → Nat → Int32) (bb : Nat → Nat → Int64), va_P (dC, dI) vwCl [(h0, .inr (7, mX7 h1 h2 h3 h4 h5 h6 h7 (upd v0 8 (u 0)))), (h6, .inl (k6, 160, .inl (aa 0)))] t.heap ∧ va_K (dC, dI) vwCl [(k6, .int)] t ∧ va_D (va_A [(h0, .inr (7, mX7 h1 h2 h3 h4 h5 h6 h7 v0)), (h6, .inl (k6, 160, .inl f6))] sz) [(h0, .inr (7, mX7 h1 h2 h3 h4 h5 h6 h7 (upd v0 8 (u 0)))), (h6, .inl (k6, 160, .inl (aa 0)))]) (va_A [(h0, .inr (7, mX7 h1 h2 h3 h4 h5 h6 h7 v0)), (h6, .inl (k6, 160, .inl f6))] sz)) 0 0 (va_A [(h0, .inr (7, mX7 h1 h2 h3 h4 h5 h6 h7 v0)), (h6, .inl (k6, 160, .inl f6))] sz) := by
  refine Met.ofW (cc := cX7_addPhraseWord) (maxL := 2) (ret := none) (by decide) rfl ?_
  intro p e s m args below meth c s₁ B hml hv
  obtain ⟨rfl, hsz, hP, hK, hD0, hE, hZ⟩ := hv
  have hx := B.exec
  have hb := B.bytes
  have hr := B.returns
  have hG : ∀ w ∈ zG, w.before _ s = true := fun w h => atoms_spec (ws := (zw yX7_addPhraseWord cX7_addPhraseWord 2 none)) B.pre w (List.mem_cons_of_mem _ h)
  have hown : s.vm.findClass RX7 = some m.cls := findClass_of_methodNamed B.named
  have hlocks := B.notSynchronized

  subst hsz
  have hD := hD0.self (sz := s.heap.size)
  generalize hAe : va_A [(h0, .inr (7, mX7 h1 h2 h3 h4 h5 h6 h7 v0)), (h6, .inl (k6, 160, .inl f6))] s.heap.size = A at hD hZ ⊢
  have hA : ∀ q : Nat, s.heap.size ≤ q → A q := fun q h => by rw [← hAe]; exact Or.inr h
  have hS : va_S A s.heap s.heap [] := va_S.rf
  have hl := lv_entry ([.ref h0, .int x1]) (n := 2) (Nat.le_of_ble_eq_true rfl)
  rw [lg_entry_eq]
  generalize (lg_sl ([.ref h0, .int x1]) ++ List.replicate (2 - (lg_sl ([.ref h0, .int x1])).length) Slot.unset).toArray = ls at hl ⊢
  have hl : lv_has ls 2 [(0, .ref h0), (1, .int x1)] := hl
  refine lv_aload_n hx hb dX7_addPhraseWord_0 rfl (lv_at hl 0 rfl) ?_
  have b_ : 0 ≤ (v0 8).toInt ∧ (v0 8).toInt ≤ 160 := hv0 8
  refine va_get (D := (dC, dI)) (ci := 7) (v := .int (v0 8)) (C := RX7) (T := TX7) (N := 12) hx hb hG zuX7 hown hK hP 0 rfl rfl 8 (by decide) (hG _ zw260) (fun _ h9 => h9) rfl dX7_addPhraseWord_1 ?_
  refine lv_sipush (v := 160) hx hb dX7_addPhraseWord_4 (by decide) ?_
  refine lv_icmp_ge (tgt := 30) hx hb dX7_addPhraseWord_7 (by decide) (fun c_ => ?_) (fun c_ => ?_)
  · skip
    have b_ := zT_ge rfl zk_160 c_
    refine W.widen (k := 0) (n := 0) (by decide) (by decide) ?_
    have hpost : (1 ≤ (v0 8).toInt ∧ (v0 8).toInt ≤ 160) := ⟨by omega, by omega⟩
    have hP9 : va_P (dC, dI) vwCl [(h0, .inr (7, mX7 h1 h2 h3 h4 h5 h6 h7 (upd v0 8 (v0 8)))), (h6, .inl (k6, 160, .inl f6))] s.heap := hP
    have hD9 : va_D A [(h0, .inr (7, mX7 h1 h2 h3 h4 h5 h6 h7 (upd v0 8 (v0 8)))), (h6, .inl (k6, 160, .inl f6))] := hD
    exact W.vret hx hb hr (fun t ht hW => ⟨⟨(fun i => ([(v0 8)] : List (Int32)).getD i 0), rfl, hpost, (fun _ => 0), (fun i => ([f6] : List (Nat → Int32)).getD i (fun _ => 0)), (fun _ => (fun _ => 0)), by rw [ht]; exact hP9, va_K.moved hW.alike hK, hD9⟩, hS.F ht⟩) hS.2.2 dX7_addPhraseWord_30
  · skip
    have b_ := zF_ge rfl zk_160 c_
    refine lv_aload_n hx hb dX7_addPhraseWord_10 rfl (lv_at hl 0 rfl) ?_
    refine va_get (D := (dC, dI)) (ci := 7) (v := .ref h6) (C := RX7) (T := TX7) (N := 12) hx hb hG zuX7 hown hK hP 0 rfl rfl 5 (by decide) (hG _ zw274) (fun _ h9 => h9) rfl dX7_addPhraseWord_11 ?_
    refine lv_aload_n hx hb dX7_addPhraseWord_14 rfl (lv_at hl 0 rfl) ?_
    refine va_get (D := (dC, dI)) (ci := 7) (v := .int (v0 8)) (C := RX7) (T := TX7) (N := 12) hx hb hG zuX7 hown hK hP 0 rfl rfl 8 (by decide) (hG _ zw260) (fun _ h9 => h9) rfl dX7_addPhraseWord_15 ?_
    refine lv_iload_n hx hb dX7_addPhraseWord_18 rfl (lv_at hl 1 rfl) ?_
    refine va_iast hx hb hK hP hD hS 1 0 rfl rfl (zin_lit ⟨by omega, by omega⟩) dX7_addPhraseWord_19 (fun H locs hP hD hS => ?_)
    obtain ⟨f_19, e_f_19⟩ : ∃ z : Nat → Int32, z = upd f6 ((v0 8) : Int32).toNatClampNeg x1 := ⟨_, rfl⟩
    have hP : va_P (dC, dI) vwCl [(h0, .inr (7, mX7 h1 h2 h3 h4 h5 h6 h7 v0)), (h6, .inl (k6, 160, .inl f_19))] H := by rw [e_f_19]; exact hP
    have hD : va_D A [(h0, .inr (7, mX7 h1 h2 h3 h4 h5 h6 h7 v0)), (h6, .inl (k6, 160, .inl f_19))] := by rw [e_f_19]; exact hD
    refine lv_aload_n hx hb dX7_addPhraseWord_20 rfl (lv_at hl 0 rfl) ?_
    refine lv_dup hx hb dX7_addPhraseWord_21 rfl ?_
    refine va_get (D := (dC, dI)) (ci := 7) (v := .int (v0 8)) (C := RX7) (T := TX7) (N := 12) hx hb hG zuX7 hown hK hP 0 rfl rfl 8 (by decide) (hG _ zw260) (fun _ h9 => h9) rfl dX7_addPhraseWord_22 ?_
    refine lv_iconst (v := 1) hx hb dX7_addPhraseWord_25 (by decide) ?_
    refine lv_iadd hx hb dX7_addPhraseWord_26 ?_
    refine lv_topi (fun z26 e_z26 => ?_)
    have b_ := zadd rfl zk_1 e_z26 (by omega) (by omega)
    refine va_put (D := (dC, dI)) (ci := 7) (v := .int z26) (ty := .int) (C := RX7) (T := TX7) (N := 12) hx hb hG zuX7 tyX7 tyX7_ok nmX7 hown hK hP hD hS 0 rfl rfl 8 (by decide) (hG _ zw260) (fun _ h9 => h9) rfl (by decide +kernel) rfl rfl (Nat.le_of_ble_eq_true rfl) dX7_addPhraseWord_27 (fun H locs hP hD hS => ?_)
    have hP : va_P (dC, dI) vwCl [(h0, .inr (7, mX7 h1 h2 h3 h4 h5 h6 h7 (upd v0 8 z26))), (h6, .inl (k6, 160, .inl f_19))] H := hP
    have hD : va_D A [(h0, .inr (7, mX7 h1 h2 h3 h4 h5 h6 h7 (upd v0 8 z26))), (h6, .inl (k6, 160, .inl f_19))] := hD
    refine W.widen (k := 0) (n := 0) (by decide) (by decide) ?_
    have hpost : (1 ≤ z26.toInt ∧ z26.toInt ≤ 160) := ⟨by omega, by omega⟩
    have hP9 : va_P (dC, dI) vwCl [(h0, .inr (7, mX7 h1 h2 h3 h4 h5 h6 h7 (upd v0 8 z26))), (h6, .inl (k6, 160, .inl f_19))] H := hP
    have hD9 : va_D A [(h0, .inr (7, mX7 h1 h2 h3 h4 h5 h6 h7 (upd v0 8 z26))), (h6, .inl (k6, 160, .inl f_19))] := hD
    exact W.vret hx hb hr (fun t ht hW => ⟨⟨(fun i => ([z26] : List (Int32)).getD i 0), rfl, hpost, (fun _ => 0), (fun i => ([f_19] : List (Nat → Int32)).getD i (fun _ => 0)), (fun _ => (fun _ => 0)), by rw [ht]; exact hP9, va_K.moved hW.alike hK, hD9⟩, hS.F ht⟩) hS.2.2 dX7_addPhraseWord_30
