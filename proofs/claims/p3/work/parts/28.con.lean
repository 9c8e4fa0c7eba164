set_option maxHeartbeats 8000000 in
set_option maxRecDepth 100000 in
theorem sX6_gammaBits_0 (l : Launch) (dC : Nat → ClassId) (dI : Nat → Nat → Nat) (adK adV : Nat → Nat) (sz : Nat) (x0 : Int32) : Met l yX6_gammaBits (zw yX6_gammaBits cX6_gammaBits 1 (some .int)) { frames := 2, cells := 0, slots := 0, locals := 41 } (zPc dC dI adK adV [.int x0] sz [] []) (va_Qi (fun (r : Int32) (u : Nat → Int32) => ((-1) ≤ r.toInt ∧ r.toInt ≤ 63)) (fun (u : Nat → Int32) (t : State) => ∃ (ww : Nat → Int64) (aa : Nat → Nat → Int32) (bb : Nat → Nat → Int64), va_P (dC, dI) vwCl [] t.heap ∧ va_K (dC, dI) vwCl [] t ∧ va_D (va_A [] sz) []) (va_A [] sz)) 0 0 (va_A [] sz) := by
  refine Met.ofW (cc := cX6_gammaBits) (maxL := 1) (ret := (some .int)) (by decide) rfl ?_
  intro p e s m args below meth c s₁ B hml hv
  obtain ⟨rfl, hsz, hP, hK, hD0, hE, hZ⟩ := hv
  have hx := B.exec
  have hb := B.bytes
  have hr := B.returns
  have hG : ∀ w ∈ zG, w.before _ s = true := fun w h => atoms_spec (ws := (zw yX6_gammaBits cX6_gammaBits 1 (some .int))) B.pre w (List.mem_cons_of_mem _ h)
  have hown : s.vm.findClass RX6 = some m.cls := findClass_of_methodNamed B.named
  have hlocks := B.notSynchronized

  subst hsz
  have hD := hD0.self (sz := s.heap.size)
  generalize hAe : va_A [] s.heap.size = A at hD hZ ⊢
  have hA : ∀ q : Nat, s.heap.size ≤ q → A q := fun q h => by rw [← hAe]; exact Or.inr h
  have hS : va_S A s.heap s.heap [] := va_S.rf
  have hl := lv_entry ([.int x0]) (n := 1) (Nat.le_of_ble_eq_true rfl)
  rw [lg_entry_eq]
  generalize (lg_sl ([.int x0]) ++ List.replicate (1 - (lg_sl ([.int x0])).length) Slot.unset).toArray = ls at hl ⊢
  have hl : lv_has ls 1 [(0, .int x0)] := hl
  refine lv_iconst (v := 2) hx hb dX6_gammaBits_0 (by decide) ?_
  refine lv_iload_n hx hb dX6_gammaBits_1 rfl (lv_at hl 0 rfl) ?_
  have hPc := hP.sub (ws' := []) [] rfl
  have hDc := hD.sub (ws' := []) [] (by decide) rfl
  have hKc := hK.sub (tys' := []) [] rfl
  have hFc := va_free (wc := []) hD hS hA [] rfl
  refine va_calli (va_runSN (As := [.int x0]) (rest := [.int 2]) ⟨hx, hb, hml, hown, hG⟩ (sX11_binaryDigits_0 l dC dI adK adV s.heap.size x0) ⟨va_cnB 1 hG (zgI zv791) rfl rfl rfl (zE_RX6_59 hE) (hG _ zv129) (by decide +kernel) ⟨Nat.le_of_ble_eq_true rfl, Nat.le_of_ble_eq_true rfl⟩, hG _ zv790, trivial⟩ ⟨zPc_blind, zPc_pre hPc hKc hDc hE hS hFc hZ⟩ rfl rfl hl.1 rfl (lv_room (Nat.le_of_ble_eq_true rfl)) dX6_gammaBits_2 ⟨Nat.le_of_ble_eq_true rfl, Nat.le_of_ble_eq_true rfl⟩) hS (fun q _ h => hFc q h) hFc (fun r2_ u2_ t H1 locs ht hvm hw hB hz1 hk1 hS => ?_)
  have hw : (0 ≤ r2_.toInt ∧ r2_.toInt ≤ 32) := hw
  have b_ := hw
  obtain ⟨w2_, a2_, b2_, hP1, hK1, hD1⟩ := hB
  rw [ht] at hP1
  obtain ⟨hP, hD⟩ := va_join (wr := []) (w1 := []) hP hD [] [] rfl rfl (by decide) (by decide) hk1 hFc hP1 hD1
  have hP : va_P (dC, dI) vwCl [] H1 := hP.sub [] rfl
  have hD : va_D A [] := hD.sub [] (by decide) rfl
  generalize H1 = H at hP hS ⊢
  clear hz1
  refine lv_imul hx hb dX6_gammaBits_5 ?_
  refine lv_topi (fun z5 e_z5 => ?_)
  have b_ := zmul zk_2 rfl e_z5 (by omega) (by omega)
  refine lv_iconst (v := 1) hx hb dX6_gammaBits_6 (by decide) ?_
  refine lv_isub hx hb dX6_gammaBits_7 ?_
  refine lv_topi (fun z7 e_z7 => ?_)
  have b_ := zsub rfl zk_1 e_z7 (by omega) (by omega)
  refine W.widen (k := 0) (n := 0) (by decide) (by decide) ?_
  have hpost : ((-1) ≤ z7.toInt ∧ z7.toInt ≤ 63) := ⟨by omega, by omega⟩
  have hP9 : va_P (dC, dI) vwCl [] H := hP
  have hD9 : va_D A [] := hD
  exact W.iret (v := z7) hx hb hr (fun t ht hW => ⟨⟨z7, (fun _ => 0), rfl, hpost, (fun _ => 0), (fun _ => (fun _ => 0)), (fun _ => (fun _ => 0)), by rw [ht]; exact hP9, va_K.moved hW.alike hK, hD9⟩, hS.F ht⟩) hS.2.2 dX6_gammaBits_8
set_option maxHeartbeats 8000000 in
set_option maxRecDepth 100000 in
theorem sX2_bitsFor_0 (l : Launch) (dC : Nat → ClassId) (dI : Nat → Nat → Nat) (adK adV : Nat → Nat) (h0 : Nat) (h23 : Nat) (h21 : Nat) (h18 : Nat) (h19 : Nat) (h22 : Nat) (h1 : Nat) (h4 : Nat) (h11 : Nat) (h20 : Nat) (k23 : ClassId) (k21 : ClassId) (k18 : ClassId) (k19 : ClassId) (k22 : ClassId) (sz : Nat) (v0 : Nat → Int32) (f23 : Nat → Int32) (f21 : Nat → Int32) (f18 : Nat → Int32) (f19 : Nat → Int32) (f22 : Nat → Int32) (x1 : Int32) (x2 : Int32) (hv0 : zR rg_Intake v0) (hf21 : zA 0 299 f21) (hf19 : zA (-1) 299 f19) (hf22 : zA 0 299 f22) (hx1 : 0 ≤ x1.toInt ∧ x1.toInt ≤ 399) (hp0_ : zChn f21 f19 f22 f23 (v0 9).toInt) : Met l yX2_bitsFor (zw yX2_bitsFor cX2_bitsFor 7 (some .int)) { frames := 3, cells := 0, slots := 0, locals := 61 } (zPc dC dI adK adV [.ref h0, .int x1, .int x2] sz [(h0, .inr (2, mX2 h1 h4 h11 h18 h19 h20 h21 h22 h23 v0)), (h23, zi k23 400 f23), (h21, zi k21 400 f21), (h18, zi k18 300 f18), (h19, zi k19 300 f19), (h22, zi k22 400 f22)] [(k23, .int), (k21, .int), (k18, .int), (k19, .int), (k22, .int)]) (va_Qi (fun (r : Int32) (u : Nat → Int32) => True) (fun (u : Nat → Int32) (t : State) => ∃ (ww : Nat → Int64) (aa : Nat → Nat → Int32) (bb : Nat → Nat → Int64), va_P (dC, dI) vwCl [(h0, .inr (2, mX2 h1 h4 h11 h18 h19 h20 h21 h22 h23 v0)), (h23, zi k23 400 f23), (h21, zi k21 400 f21), (h18, zi k18 300 f18), (h19, zi k19 300 f19), (h22, zi k22 400 f22)] t.heap ∧ va_K (dC, dI) vwCl [(k23, .int), (k21, .int), (k18, .int), (k19, .int), (k22, .int)] t ∧ va_D (va_A [(h0, .inr (2, mX2 h1 h4 h11 h18 h19 h20 h21 h22 h23 v0)), (h23, zi k23 400 f23), (h21, zi k21 400 f21), (h18, zi k18 300 f18), (h19, zi k19 300 f19), (h22, zi k22 400 f22)] sz) [(h0, .inr (2, mX2 h1 h4 h11 h18 h19 h20 h21 h22 h23 v0)), (h23, zi k23 400 f23), (h21, zi k21 400 f21), (h18, zi k18 300 f18), (h19, zi k19 300 f19), (h22, zi k22 400 f22)]) (va_A [(h0, .inr (2, mX2 h1 h4 h11 h18 h19 h20 h21 h22 h23 v0)), (h23, zi k23 400 f23), (h21, zi k21 400 f21), (h18, zi k18 300 f18), (h19, zi k19 300 f19), (h22, zi k22 400 f22)] sz)) 0 0 (va_A [(h0, .inr (2, mX2 h1 h4 h11 h18 h19 h20 h21 h22 h23 v0)), (h23, zi k23 400 f23), (h21, zi k21 400 f21), (h18, zi k18 300 f18), (h19, zi k19 300 f19), (h22, zi k22 400 f22)] sz) := by
  refine Met.ofW (cc := cX2_bitsFor) (maxL := 7) (ret := (some .int)) (by decide) rfl ?_
  intro p e s m args below meth c s₁ B hml hv
  obtain ⟨rfl, hsz, hP, hK, hD0, hE, hZ⟩ := hv
  have hx := B.exec
  have hb := B.bytes
  have hr := B.returns
  have hG : ∀ w ∈ zG, w.before _ s = true := fun w h => atoms_spec (ws := (zw yX2_bitsFor cX2_bitsFor 7 (some .int))) B.pre w (List.mem_cons_of_mem _ h)
  have hown : s.vm.findClass RX2 = some m.cls := findClass_of_methodNamed B.named
  have hlocks := B.notSynchronized

  subst hsz
  have hD := hD0.self (sz := s.heap.size)
  generalize hAe : va_A [(h0, .inr (2, mX2 h1 h4 h11 h18 h19 h20 h21 h22 h23 v0)), (h23, zi k23 400 f23), (h21, zi k21 400 f21), (h18, zi k18 300 f18), (h19, zi k19 300 f19), (h22, zi k22 400 f22)] s.heap.size = A at hD hZ ⊢
  have hA : ∀ q : Nat, s.heap.size ≤ q → A q := fun q h => by rw [← hAe]; exact Or.inr h
  have hS : va_S A s.heap s.heap [] := va_S.rf
  have hl := lv_entry ([.ref h0, .int x1, .int x2]) (n := 7) (Nat.le_of_ble_eq_true rfl)
  rw [lg_entry_eq]
  generalize (lg_sl ([.ref h0, .int x1, .int x2]) ++ List.replicate (7 - (lg_sl ([.ref h0, .int x1, .int x2])).length) Slot.unset).toArray = ls at hl ⊢
  have hl : lv_has ls 7 [(0, .ref h0), (1, .int x1), (2, .int x2)] := hl
  have b_ := zk_0
  have b_ : 0 ≤ (v0 9).toInt ∧ (v0 9).toInt ≤ 300 := hv0 9
  obtain ⟨own9, hc9⟩ := hp0_
  obtain ⟨hn0, hn1, path, hpa, -, hpf⟩ := hc9 (x1 : Int32).toNatClampNeg (by have q : (x1 : Int32).toNatClampNeg = x1.toInt.toNat := rfl; omega)
  refine lv_iload_n hx hb dX2_bitsFor_0 rfl (lv_at hl 2 rfl) ?_
  have hPc := hP.sub (ws' := []) [] rfl
  have hDc := hD.sub (ws' := []) [] (by decide) rfl
  have hKc := hK.sub (tys' := []) [] rfl
  have hFc := va_free (wc := []) hD hS hA [] rfl
  refine va_calli (va_runS (As := [.int x2]) (rest := []) ⟨hx, hb, hml, hown, hG⟩ (sX6_gammaBits_0 l dC dI adK adV s.heap.size x2) (va_cwS 1 hG (zgS zv786 zv787 zv133 zv788) rfl rfl rfl (by decide +kernel) ⟨Nat.le_of_ble_eq_true rfl, Nat.le_of_ble_eq_true rfl⟩) ⟨zPc_blind, zPc_pre hPc hKc hDc hE hS hFc hZ⟩ rfl rfl hl.1 rfl (lv_room (Nat.le_of_ble_eq_true rfl)) dX2_bitsFor_1 ⟨Nat.le_of_ble_eq_true rfl, Nat.le_of_ble_eq_true rfl⟩) hS (fun q _ h => hFc q h) hFc (fun r1_ u1_ t H1 locs ht hvm hw hB hz1 hk1 hS => ?_)
  have hw : ((-1) ≤ r1_.toInt ∧ r1_.toInt ≤ 63) := hw
  have b_ := hw
  obtain ⟨w1_, a1_, b1_, hP1, hK1, hD1⟩ := hB
  rw [ht] at hP1
  obtain ⟨hP, hD⟩ := va_join (wr := [(h0, .inr (2, mX2 h1 h4 h11 h18 h19 h20 h21 h22 h23 v0)), (h23, zi k23 400 f23), (h21, zi k21 400 f21), (h18, zi k18 300 f18), (h19, zi k19 300 f19), (h22, zi k22 400 f22)]) (w1 := []) hP hD [] [0, 1, 2, 3, 4, 5] rfl rfl (by decide) (by decide) hk1 hFc hP1 hD1
  have hP : va_P (dC, dI) vwCl [(h0, .inr (2, mX2 h1 h4 h11 h18 h19 h20 h21 h22 h23 v0)), (h23, zi k23 400 f23), (h21, zi k21 400 f21), (h18, zi k18 300 f18), (h19, zi k19 300 f19), (h22, zi k22 400 f22)] H1 := hP.sub [0, 1, 2, 3, 4, 5] rfl
  have hD : va_D A [(h0, .inr (2, mX2 h1 h4 h11 h18 h19 h20 h21 h22 h23 v0)), (h23, zi k23 400 f23), (h21, zi k21 400 f21), (h18, zi k18 300 f18), (h19, zi k19 300 f19), (h22, zi k22 400 f22)] := hD.sub [0, 1, 2, 3, 4, 5] (by decide) rfl
  generalize H1 = H at hP hS ⊢
  clear hz1
  refine lv_aload_n hx hb dX2_bitsFor_4 rfl (lv_at hl 0 rfl) ?_
  refine va_get (D := (dC, dI)) (ci := 2) (v := .ref h23) (C := RX2) (T := TX2) (N := 11) hx hb hG zuX2 hown hK hP 0 rfl rfl 8 (by decide) (hG _ zv333) (fun _ h9 => h9) rfl dX2_bitsFor_5 ?_
  refine lv_iload_n hx hb dX2_bitsFor_8 rfl (lv_at hl 1 rfl) ?_
  refine va_iald hx hb hK hP 1 0 rfl rfl (zin_lit ⟨by omega, by omega⟩) dX2_bitsFor_9 ?_
  refine lv_topi (fun z9 e_z9 => ?_)
  have hPc := hP.sub (ws' := []) [] rfl
  have hDc := hD.sub (ws' := []) [] (by decide) rfl
  have hKc := hK.sub (tys' := []) [] rfl
  have hFc := va_free (wc := []) hD hS hA [] rfl
  refine va_calli (va_runS (As := [.int z9]) (rest := [.int r1_]) ⟨hx, hb, hml, hown, hG⟩ (sX6_gammaBits_0 l dC dI adK adV H.size z9) (va_cwS 1 hG (zgS zv786 zv787 zv133 zv788) rfl rfl rfl (by decide +kernel) ⟨Nat.le_of_ble_eq_true rfl, Nat.le_of_ble_eq_true rfl⟩) ⟨zPc_blind, zPc_pre hPc hKc hDc hE hS hFc hZ⟩ rfl rfl hl.1 rfl (lv_room (Nat.le_of_ble_eq_true rfl)) dX2_bitsFor_10 ⟨Nat.le_of_ble_eq_true rfl, Nat.le_of_ble_eq_true rfl⟩) hS (fun q _ h => hFc q h) hFc (fun r10_ u10_ t H1 locs ht hvm hw hB hz1 hk1 hS => ?_)
  have hw : ((-1) ≤ r10_.toInt ∧ r10_.toInt ≤ 63) := hw
  have b_ := hw
  obtain ⟨w10_, a10_, b10_, hP1, hK1, hD1⟩ := hB
  rw [ht] at hP1
  obtain ⟨hP, hD⟩ := va_join (wr := [(h0, .inr (2, mX2 h1 h4 h11 h18 h19 h20 h21 h22 h23 v0)), (h23, zi k23 400 f23), (h21, zi k21 400 f21), (h18, zi k18 300 f18), (h19, zi k19 300 f19), (h22, zi k22 400 f22)]) (w1 := []) hP hD [] [0, 1, 2, 3, 4, 5] rfl rfl (by decide) (by decide) hk1 hFc hP1 hD1
  have hP : va_P (dC, dI) vwCl [(h0, .inr (2, mX2 h1 h4 h11 h18 h19 h20 h21 h22 h23 v0)), (h23, zi k23 400 f23), (h21, zi k21 400 f21), (h18, zi k18 300 f18), (h19, zi k19 300 f19), (h22, zi k22 400 f22)] H1 := hP.sub [0, 1, 2, 3, 4, 5] rfl
  have hD : va_D A [(h0, .inr (2, mX2 h1 h4 h11 h18 h19 h20 h21 h22 h23 v0)), (h23, zi k23 400 f23), (h21, zi k21 400 f21), (h18, zi k18 300 f18), (h19, zi k19 300 f19), (h22, zi k22 400 f22)] := hD.sub [0, 1, 2, 3, 4, 5] (by decide) rfl
  generalize H1 = H at hP hS ⊢
  clear hz1
  refine lv_iadd hx hb dX2_bitsFor_13 ?_
  refine lv_topi (fun z13 e_z13 => ?_)
  have b_ := zadd rfl rfl e_z13 (by omega) (by omega)
  refine lv_istore_n (lv' := [(3, .int z13), (0, .ref h0), (1, .int x1), (2, .int x2)]) hx hb dX2_bitsFor_14 rfl hl (by decide) rfl (fun ls hl => ?_)
  refine lv_iconst (v := (-1)) hx hb dX2_bitsFor_15 (by decide) ?_
  refine lv_istore (lv' := [(4, .int (-1)), (3, .int z13), (0, .ref h0), (1, .int x1), (2, .int x2)]) hx hb dX2_bitsFor_16 hl (by decide) rfl (fun ls hl => ?_)
  refine lv_aload_n hx hb dX2_bitsFor_18 rfl (lv_at hl 2 rfl) ?_
  refine va_get (D := (dC, dI)) (ci := 2) (v := .ref h21) (C := RX2) (T := TX2) (N := 11) hx hb hG zuX2 hown hK hP 0 rfl rfl 6 (by decide) (hG _ zv331) (fun _ h9 => h9) rfl dX2_bitsFor_19 ?_
  refine lv_iload_n hx hb dX2_bitsFor_22 rfl (lv_at hl 3 rfl) ?_
  refine va_iald hx hb hK hP 2 1 rfl rfl (zin_lit ⟨by omega, by omega⟩) dX2_bitsFor_23 ?_
  refine lv_topi (fun z23 e_z23 => ?_)
  have b_ : 0 ≤ z23.toInt ∧ z23.toInt ≤ 299 := by rw [e_z23]; exact hf21 _
  refine lv_istore (lv' := [(5, .int z23), (4, .int (-1)), (3, .int z13), (0, .ref h0), (1, .int x1), (2, .int x2)]) hx hb dX2_bitsFor_24 hl (by decide) rfl (fun ls hl => ?_)
  refine lv_iconst (v := 0) hx hb dX2_bitsFor_26 (by decide) ?_
  refine lv_istore (lv' := [(6, .int 0), (5, .int z23), (4, .int (-1)), (3, .int z13), (0, .ref h0), (1, .int x1), (2, .int x2)]) hx hb dX2_bitsFor_27 hl (by decide) rfl (fun ls hl => ?_)
  refine zcutL (fun u29_ => (300 - (u29_ 3).toInt).toNat) (fun H locs ls u29_ w29_ a29_ b29_ => va_P (dC, dI) vwCl [(h0, .inr (2, mX2 h1 h4 h11 h18 h19 h20 h21 h22 h23 v0)), (h23, zi k23 400 f23), (h21, zi k21 400 f21), (h18, zi k18 300 f18), (h19, zi k19 300 f19), (h22, zi k22 400 f22)] H ∧ va_D A [(h0, .inr (2, mX2 h1 h4 h11 h18 h19 h20 h21 h22 h23 v0)), (h23, zi k23 400 f23), (h21, zi k21 400 f21), (h18, zi k18 300 f18), (h19, zi k19 300 f19), (h22, zi k22 400 f22)] ∧ va_S A s.heap H locs ∧ lv_has ls 7 [(0, .ref h0), (1, .int x1), (2, .int x2), (3, .int (u29_ 0)), (4, .int (u29_ 1)), (5, .int (u29_ 2)), (6, .int (u29_ 3))] ∧ ((-1) ≤ (u29_ 2).toInt ∧ (u29_ 2).toInt ≤ 299) ∧ (0 ≤ (u29_ 3).toInt ∧ (u29_ 3).toInt ≤ 300) ∧ ((u29_ 3).toInt < (f23 (x1 : Int32).toNatClampNeg).toInt → (u29_ 2).toInt = (path ((u29_ 3).toInt).toNat : Int))) (fun ls u29_ w29_ => F0 m 29 ls []) 0 0 ?_ (fun hJ29 => ?_)
  · skip
    intro H locs ls u29_ w29_ a29_ b29_ hc hJ29
    obtain ⟨hP, hD, hS, hl, b_, b_, hI29_0⟩ := hc
    refine lv_iload hx hb dX2_bitsFor_29 (lv_at hl 6 rfl) ?_
    refine lv_aload_n hx hb dX2_bitsFor_31 rfl (lv_at hl 0 rfl) ?_
    refine va_get (D := (dC, dI)) (ci := 2) (v := .ref h23) (C := RX2) (T := TX2) (N := 11) hx hb hG zuX2 hown hK hP 0 rfl rfl 8 (by decide) (hG _ zv333) (fun _ h9 => h9) rfl dX2_bitsFor_32 ?_
    refine lv_iload_n hx hb dX2_bitsFor_35 rfl (lv_at hl 1 rfl) ?_
    refine va_iald hx hb hK hP 1 0 rfl rfl (zin_lit ⟨by omega, by omega⟩) dX2_bitsFor_36 ?_
    refine lv_topi (fun z36 e_z36 => ?_)
    have b_ : -2147483648 ≤ z36.toInt ∧ z36.toInt ≤ 2147483647 := ⟨zlo _, zhi _⟩
    refine lv_icmp_ge (tgt := 80) hx hb dX2_bitsFor_37 (by decide) (fun c_ => ?_) (fun c_ => ?_)
    · skip
      have b_ := zT_ge rfl rfl c_
      refine lv_iload_n hx hb dX2_bitsFor_80 rfl (lv_at hl 3 rfl) ?_
      refine W.widen (k := 0) (n := 0) (by decide) (by decide) ?_
      have b_ : -2147483648 ≤ (u29_ 0).toInt ∧ (u29_ 0).toInt ≤ 2147483647 := ⟨zlo _, zhi _⟩
      have hpost : True := trivial
      have hP9 : va_P (dC, dI) vwCl [(h0, .inr (2, mX2 h1 h4 h11 h18 h19 h20 h21 h22 h23 v0)), (h23, zi k23 400 f23), (h21, zi k21 400 f21), (h18, zi k18 300 f18), (h19, zi k19 300 f19), (h22, zi k22 400 f22)] H := hP
      have hD9 : va_D A [(h0, .inr (2, mX2 h1 h4 h11 h18 h19 h20 h21 h22 h23 v0)), (h23, zi k23 400 f23), (h21, zi k21 400 f21), (h18, zi k18 300 f18), (h19, zi k19 300 f19), (h22, zi k22 400 f22)] := hD
      exact W.iret (v := (u29_ 0)) hx hb hr (fun t ht hW => ⟨⟨(u29_ 0), (fun _ => 0), rfl, hpost, (fun _ => 0), (fun _ => (fun _ => 0)), (fun _ => (fun _ => 0)), by rw [ht]; exact hP9, va_K.moved hW.alike hK, hD9⟩, hS.F ht⟩) hS.2.2 dX2_bitsFor_81
    · skip
      have b_ := zF_ge rfl rfl c_
      have b36 : z36.toInt = (f23 (x1 : Int32).toNatClampNeg).toInt := by rw [e_z36]
      have b_ : 0 ≤ (u29_ 2).toInt ∧ (u29_ 2).toInt ≤ 299 := by have q := hI29_0 (by omega); have q2 := (hpa ((u29_ 3).toInt).toNat (by omega)).1; omega
      refine lv_iload_n hx hb dX2_bitsFor_40 rfl (lv_at hl 3 rfl) ?_
      refine lv_aload_n hx hb dX2_bitsFor_41 rfl (lv_at hl 0 rfl) ?_
      refine va_get (D := (dC, dI)) (ci := 2) (v := .ref h18) (C := RX2) (T := TX2) (N := 11) hx hb hG zuX2 hown hK hP 0 rfl rfl 3 (by decide) (hG _ zv328) (fun _ h9 => h9) rfl dX2_bitsFor_42 ?_
      refine lv_iload hx hb dX2_bitsFor_45 (lv_at hl 5 rfl) ?_
      refine va_iald hx hb hK hP 3 2 rfl rfl (zin_lit ⟨by omega, by omega⟩) dX2_bitsFor_47 ?_
      refine lv_topi (fun z47 e_z47 => ?_)
      refine lv_iload hx hb dX2_bitsFor_48 (lv_at hl 4 rfl) ?_
      have b_ : -2147483648 ≤ z47.toInt ∧ z47.toInt ≤ 2147483647 := ⟨zlo _, zhi _⟩
      have b_ : -2147483648 ≤ (u29_ 1).toInt ∧ (u29_ 1).toInt ≤ 2147483647 := ⟨zlo _, zhi _⟩
      refine lv_isub hx hb dX2_bitsFor_50 ?_
      refine lv_topi (fun z50 e_z50 => ?_)
      have hPc := hP.sub (ws' := []) [] rfl
      have hDc := hD.sub (ws' := []) [] (by decide) rfl
      have hKc := hK.sub (tys' := []) [] rfl
      have hFc := va_free (wc := []) hD hS hA [] rfl
      refine va_calli (va_runS (As := [.int z50]) (rest := [.int (u29_ 0)]) ⟨hx, hb, hml, hown, hG⟩ (sX6_gammaBits_0 l dC dI adK adV H.size z50) (va_cwS 1 hG (zgS zv786 zv787 zv133 zv788) rfl rfl rfl (by decide +kernel) ⟨Nat.le_of_ble_eq_true rfl, Nat.le_of_ble_eq_true rfl⟩) ⟨zPc_blind, zPc_pre hPc hKc hDc hE hS hFc hZ⟩ rfl rfl hl.1 rfl (lv_room (Nat.le_of_ble_eq_true rfl)) dX2_bitsFor_51 ⟨Nat.le_of_ble_eq_true rfl, Nat.le_of_ble_eq_true rfl⟩) hS (fun q _ h => hFc q h) hFc (fun r51_ u51_ t H1 locs ht hvm hw hB hz1 hk1 hS => ?_)
      have hw : ((-1) ≤ r51_.toInt ∧ r51_.toInt ≤ 63) := hw
      have b_ := hw
      obtain ⟨w51_, a51_, b51_, hP1, hK1, hD1⟩ := hB
      rw [ht] at hP1
      obtain ⟨hP, hD⟩ := va_join (wr := [(h0, .inr (2, mX2 h1 h4 h11 h18 h19 h20 h21 h22 h23 v0)), (h23, zi k23 400 f23), (h21, zi k21 400 f21), (h18, zi k18 300 f18), (h19, zi k19 300 f19), (h22, zi k22 400 f22)]) (w1 := []) hP hD [] [0, 1, 2, 3, 4, 5] rfl rfl (by decide) (by decide) hk1 hFc hP1 hD1
      have hP : va_P (dC, dI) vwCl [(h0, .inr (2, mX2 h1 h4 h11 h18 h19 h20 h21 h22 h23 v0)), (h23, zi k23 400 f23), (h21, zi k21 400 f21), (h18, zi k18 300 f18), (h19, zi k19 300 f19), (h22, zi k22 400 f22)] H1 := hP.sub [0, 1, 2, 3, 4, 5] rfl
      have hD : va_D A [(h0, .inr (2, mX2 h1 h4 h11 h18 h19 h20 h21 h22 h23 v0)), (h23, zi k23 400 f23), (h21, zi k21 400 f21), (h18, zi k18 300 f18), (h19, zi k19 300 f19), (h22, zi k22 400 f22)] := hD.sub [0, 1, 2, 3, 4, 5] (by decide) rfl
      generalize H1 = H at hP hS ⊢
      clear hz1
      have b_ : -2147483648 ≤ (u29_ 0).toInt ∧ (u29_ 0).toInt ≤ 2147483647 := ⟨zlo _, zhi _⟩
      refine lv_iadd hx hb dX2_bitsFor_54 ?_
      refine lv_topi (fun z54 e_z54 => ?_)
      refine lv_istore_n (lv' := [(3, .int z54), (0, .ref h0), (1, .int x1), (2, .int x2), (4, .int (u29_ 1)), (5, .int (u29_ 2)), (6, .int (u29_ 3))]) hx hb dX2_bitsFor_55 rfl hl (by decide) rfl (fun ls hl => ?_)
      refine lv_aload_n hx hb dX2_bitsFor_56 rfl (lv_at hl 1 rfl) ?_
      refine va_get (D := (dC, dI)) (ci := 2) (v := .ref h18) (C := RX2) (T := TX2) (N := 11) hx hb hG zuX2 hown hK hP 0 rfl rfl 3 (by decide) (hG _ zv328) (fun _ h9 => h9) rfl dX2_bitsFor_57 ?_
      refine lv_iload hx hb dX2_bitsFor_60 (lv_at hl 5 rfl) ?_
      refine va_iald hx hb hK hP 3 2 rfl rfl (zin_lit ⟨by omega, by omega⟩) dX2_bitsFor_62 ?_
      refine lv_topi (fun z62 e_z62 => ?_)
      refine lv_istore (lv' := [(4, .int z62), (3, .int z54), (0, .ref h0), (1, .int x1), (2, .int x2), (5, .int (u29_ 2)), (6, .int (u29_ 3))]) hx hb dX2_bitsFor_63 hl (by decide) rfl (fun ls hl => ?_)
      refine lv_aload_n hx hb dX2_bitsFor_65 rfl (lv_at hl 2 rfl) ?_
      refine va_get (D := (dC, dI)) (ci := 2) (v := .ref h19) (C := RX2) (T := TX2) (N := 11) hx hb hG zuX2 hown hK hP 0 rfl rfl 4 (by decide) (hG _ zv329) (fun _ h9 => h9) rfl dX2_bitsFor_66 ?_
      refine lv_iload hx hb dX2_bitsFor_69 (lv_at hl 5 rfl) ?_
      refine va_iald hx hb hK hP 4 3 rfl rfl (zin_lit ⟨by omega, by omega⟩) dX2_bitsFor_71 ?_
      refine lv_topi (fun z71 e_z71 => ?_)
      have b_ : (-1) ≤ z71.toInt ∧ z71.toInt ≤ 299 := by rw [e_z71]; exact hf19 _
      refine lv_istore (lv' := [(5, .int z71), (4, .int z62), (3, .int z54), (0, .ref h0), (1, .int x1), (2, .int x2), (6, .int (u29_ 3))]) hx hb dX2_bitsFor_72 hl (by decide) rfl (fun ls hl => ?_)
      obtain ⟨z74, e_z74⟩ : ∃ z : Int32, z = (u29_ 3) + Int32.ofInt 1 := ⟨_, rfl⟩
      have b_ := zadd (x := (u29_ 3)) (y := Int32.ofInt 1) rfl (show (Int32.ofInt 1).toInt = 1 from by decide) e_z74 (by omega) (by omega)
      refine lv_iinc (v := z74) (lv' := [(6, .int z74), (5, .int z71), (4, .int z62), (3, .int z54), (0, .ref h0), (1, .int x1), (2, .int x2)]) hx hb dX2_bitsFor_74 hl (k := 6) rfl e_z74.symm (by decide) rfl (fun ls hl => ?_)
      refine lv_goto (tgt := 29) hx hb dX2_bitsFor_77 (by decide) ?_
      have b_ : -2147483648 ≤ x2.toInt ∧ x2.toInt ≤ 2147483647 := ⟨zlo _, zhi _⟩
      have b_ : -2147483648 ≤ z54.toInt ∧ z54.toInt ≤ 2147483647 := ⟨zlo _, zhi _⟩
      have b_ : -2147483648 ≤ z62.toInt ∧ z62.toInt ≤ 2147483647 := ⟨zlo _, zhi _⟩
      have hc : va_P (dC, dI) vwCl [(h0, .inr (2, mX2 h1 h4 h11 h18 h19 h20 h21 h22 h23 v0)), (h23, zi k23 400 f23), (h21, zi k21 400 f21), (h18, zi k18 300 f18), (h19, zi k19 300 f19), (h22, zi k22 400 f22)] H ∧ va_D A [(h0, .inr (2, mX2 h1 h4 h11 h18 h19 h20 h21 h22 h23 v0)), (h23, zi k23 400 f23), (h21, zi k21 400 f21), (h18, zi k18 300 f18), (h19, zi k19 300 f19), (h22, zi k22 400 f22)] ∧ va_S A s.heap H locs ∧ lv_has ls 7 [(0, .ref h0), (1, .int x1), (2, .int x2), (3, .int z54), (4, .int z62), (5, .int z71), (6, .int z74)] ∧ ((-1) ≤ z71.toInt ∧ z71.toInt ≤ 299) ∧ (0 ≤ z74.toInt ∧ z74.toInt ≤ 300) ∧ (z74.toInt < (f23 (x1 : Int32).toNatClampNeg).toInt → z71.toInt = (path (z74.toInt).toNat : Int)) := ⟨hP, hD, hS, lv_sub hl [4, 5, 6, 3, 2, 1, 0] rfl, ⟨by omega, by omega⟩, ⟨by omega, by omega⟩, by first | (intro h; have q := (hpf (by rw [zk_0] at h; exact h)).1; rw [← e_z23] at q; rw [zk_0]; exact q) | exact zpath_step hpa (hI29_0 (by omega)) (by omega) e_z71 (by omega)⟩
      exact hJ29 H locs ls (fun i => ([z54, z62, z71, z74] : List (Int32)).getD i 0) (fun _ => 0) (fun _ => (fun _ => 0)) (fun _ => (fun _ => 0)) hc (show (300 - z74.toInt).toNat < (300 - (u29_ 3).toInt).toNat from by omega)
  · skip
    have b_ : -2147483648 ≤ x2.toInt ∧ x2.toInt ≤ 2147483647 := ⟨zlo _, zhi _⟩
    have hc : va_P (dC, dI) vwCl [(h0, .inr (2, mX2 h1 h4 h11 h18 h19 h20 h21 h22 h23 v0)), (h23, zi k23 400 f23), (h21, zi k21 400 f21), (h18, zi k18 300 f18), (h19, zi k19 300 f19), (h22, zi k22 400 f22)] H ∧ va_D A [(h0, .inr (2, mX2 h1 h4 h11 h18 h19 h20 h21 h22 h23 v0)), (h23, zi k23 400 f23), (h21, zi k21 400 f21), (h18, zi k18 300 f18), (h19, zi k19 300 f19), (h22, zi k22 400 f22)] ∧ va_S A s.heap H locs ∧ lv_has ls 7 [(0, .ref h0), (1, .int x1), (2, .int x2), (3, .int z13), (4, .int (-1)), (5, .int z23), (6, .int 0)] ∧ ((-1) ≤ z23.toInt ∧ z23.toInt ≤ 299) ∧ (0 ≤ (0 : Int32).toInt ∧ (0 : Int32).toInt ≤ 300) ∧ ((0 : Int32).toInt < (f23 (x1 : Int32).toNatClampNeg).toInt → z23.toInt = (path ((0 : Int32).toInt).toNat : Int)) := ⟨hP, hD, hS, lv_sub hl [4, 5, 6, 3, 2, 1, 0] rfl, ⟨by omega, by omega⟩, ⟨by omega, by omega⟩, by first | (intro h; have q := (hpf (by rw [zk_0] at h; exact h)).1; rw [← e_z23] at q; rw [zk_0]; exact q) | exact zpath_step hpa (hI29_0 (by omega)) (by omega) e_z71 (by omega)⟩
    exact hJ29 H locs ls (fun i => ([z13, (-1), z23, 0] : List (Int32)).getD i 0) (fun _ => 0) (fun _ => (fun _ => 0)) (fun _ => (fun _ => 0)) hc
set_option maxHeartbeats 8000000 in
set_option maxRecDepth 100000 in
theorem sX6_chunksFor_0 (l : Launch) (dC : Nat → ClassId) (dI : Nat → Nat → Nat) (adK adV : Nat → Nat) (sz : Nat) (x0 : Int32) : Met l yX6_chunksFor (zw yX6_chunksFor cX6_chunksFor 1 (some .int)) { frames := 1, cells := 0, slots := 0, locals := 20 } (zPc dC dI adK adV [.int x0] sz [] []) (va_Qi (fun (r : Int32) (u : Nat → Int32) => (0 ≤ r.toInt ∧ r.toInt ≤ 8388611)) (fun (u : Nat → Int32) (t : State) => ∃ (ww : Nat → Int64) (aa : Nat → Nat → Int32) (bb : Nat → Nat → Int64), va_P (dC, dI) vwCl [] t.heap ∧ va_K (dC, dI) vwCl [] t ∧ va_D (va_A [] sz) []) (va_A [] sz)) 0 0 (va_A [] sz) := by
  refine Met.ofW (cc := cX6_chunksFor) (maxL := 1) (ret := (some .int)) (by decide) rfl ?_
  intro p e s m args below meth c s₁ B hml hv
  obtain ⟨rfl, hsz, hP, hK, hD0, hE, hZ⟩ := hv
  have hx := B.exec
  have hb := B.bytes
  have hr := B.returns
  have hG : ∀ w ∈ zG, w.before _ s = true := fun w h => atoms_spec (ws := (zw yX6_chunksFor cX6_chunksFor 1 (some .int))) B.pre w (List.mem_cons_of_mem _ h)
  have hown : s.vm.findClass RX6 = some m.cls := findClass_of_methodNamed B.named
  have hlocks := B.notSynchronized

  subst hsz
  have hD := hD0.self (sz := s.heap.size)
  generalize hAe : va_A [] s.heap.size = A at hD hZ ⊢
  have hA : ∀ q : Nat, s.heap.size ≤ q → A q := fun q h => by rw [← hAe]; exact Or.inr h
  have hS : va_S A s.heap s.heap [] := va_S.rf
  have hl := lv_entry ([.int x0]) (n := 1) (Nat.le_of_ble_eq_true rfl)
  rw [lg_entry_eq]
  generalize (lg_sl ([.int x0]) ++ List.replicate (1 - (lg_sl ([.int x0])).length) Slot.unset).toArray = ls at hl ⊢
  have hl : lv_has ls 1 [(0, .int x0)] := hl
  have b_ := zk_0
  refine lv_iload_n hx hb dX6_chunksFor_0 rfl (lv_at hl 0 rfl) ?_
  have b_ : -2147483648 ≤ x0.toInt ∧ x0.toInt ≤ 2147483647 := ⟨zlo _, zhi _⟩
  refine lv_if_le (tgt := 15) hx hb dX6_chunksFor_1 (by decide) (fun c_ => ?_) (fun c_ => ?_)
  · skip
    have b_ := zT_le rfl zk_0 c_
    refine lv_iconst (v := 0) hx hb dX6_chunksFor_15 (by decide) ?_
    refine W.widen (k := 0) (n := 0) (by decide) (by decide) ?_
    have hpost : (0 ≤ (0 : Int32).toInt ∧ (0 : Int32).toInt ≤ 8388611) := ⟨by omega, by omega⟩
    have hP9 : va_P (dC, dI) vwCl [] s.heap := hP
    have hD9 : va_D A [] := hD
    exact W.iret (v := 0) hx hb hr (fun t ht hW => ⟨⟨0, (fun _ => 0), rfl, hpost, (fun _ => 0), (fun _ => (fun _ => 0)), (fun _ => (fun _ => 0)), by rw [ht]; exact hP9, va_K.moved hW.alike hK, hD9⟩, hS.F ht⟩) hS.2.2 dX6_chunksFor_16
  · skip
    have b_ := zF_le rfl zk_0 c_
    refine lv_iload_n hx hb dX6_chunksFor_4 rfl (lv_at hl 0 rfl) ?_
    refine lv_iconst (v := 1) hx hb dX6_chunksFor_5 (by decide) ?_
    refine lv_isub hx hb dX6_chunksFor_6 ?_
    refine lv_topi (fun z6 e_z6 => ?_)
    have b_ := zsub rfl zk_1 e_z6 (by omega) (by omega)
    have hPc := hP.sub (ws' := []) [] rfl
    have hDc := hD.sub (ws' := []) [] (by decide) rfl
    have hKc := hK.sub (tys' := []) [] rfl
    have hFc := va_free (wc := []) hD hS hA [] rfl
    refine va_calli (va_runS (As := [.int z6]) (rest := []) ⟨hx, hb, hml, hown, hG⟩ (sX6_chunkOf_0 l dC dI adK adV s.heap.size z6) (va_cwS 1 hG (zgS zv802 zv803 zv133 zv804) rfl rfl rfl (by decide +kernel) ⟨Nat.le_of_ble_eq_true rfl, Nat.le_of_ble_eq_true rfl⟩) ⟨zPc_blind, zPc_pre hPc hKc hDc hE hS hFc hZ⟩ rfl rfl hl.1 rfl (lv_room (Nat.le_of_ble_eq_true rfl)) dX6_chunksFor_7 ⟨Nat.le_of_ble_eq_true rfl, Nat.le_of_ble_eq_true rfl⟩) hS (fun q _ h => hFc q h) hFc (fun r7_ u7_ t H1 locs ht hvm hw hB hz1 hk1 hS => ?_)
    have hw : (0 ≤ r7_.toInt ∧ r7_.toInt ≤ 8388610) ∧ (0 ≤ z6.toInt → zCk z6.toInt r7_.toInt) := hw
    obtain ⟨b_, hX7_0⟩ := hw
    obtain ⟨w7_, a7_, b7_, hP1, hK1, hD1⟩ := hB
    rw [ht] at hP1
    obtain ⟨hP, hD⟩ := va_join (wr := []) (w1 := []) hP hD [] [] rfl rfl (by decide) (by decide) hk1 hFc hP1 hD1
    have hP : va_P (dC, dI) vwCl [] H1 := hP.sub [] rfl
    have hD : va_D A [] := hD.sub [] (by decide) rfl
    generalize H1 = H at hP hS ⊢
    clear hz1
    refine lv_iconst (v := 1) hx hb dX6_chunksFor_10 (by decide) ?_
    refine lv_iadd hx hb dX6_chunksFor_11 ?_
    refine lv_topi (fun z11 e_z11 => ?_)
    have b_ := zadd rfl zk_1 e_z11 (by omega) (by omega)
    refine lv_goto (tgt := 16) hx hb dX6_chunksFor_12 (by decide) ?_
    refine W.widen (k := 0) (n := 0) (by decide) (by decide) ?_
    have hpost : (0 ≤ z11.toInt ∧ z11.toInt ≤ 8388611) := ⟨by omega, by omega⟩
    have hP9 : va_P (dC, dI) vwCl [] H := hP
    have hD9 : va_D A [] := hD
    exact W.iret (v := z11) hx hb hr (fun t ht hW => ⟨⟨z11, (fun _ => 0), rfl, hpost, (fun _ => 0), (fun _ => (fun _ => 0)), (fun _ => (fun _ => 0)), by rw [ht]; exact hP9, va_K.moved hW.alike hK, hD9⟩, hS.F ht⟩) hS.2.2 dX6_chunksFor_16
set_option maxHeartbeats 8000000 in
set_option maxRecDepth 100000 in
theorem sX6_takenFor_0 (l : Launch) (dC : Nat → ClassId) (dI : Nat → Nat → Nat) (adK adV : Nat → Nat) (sz : Nat) (x0 : Int32) : Met l yX6_takenFor (zw yX6_takenFor cX6_takenFor 2 (some .int)) { frames := 2, cells := 0, slots := 0, locals := 40 } (zPc dC dI adK adV [.int x0] sz [] []) (va_Qi (fun (r : Int32) (u : Nat → Int32) => True) (fun (u : Nat → Int32) (t : State) => ∃ (ww : Nat → Int64) (aa : Nat → Nat → Int32) (bb : Nat → Nat → Int64), va_P (dC, dI) vwCl [] t.heap ∧ va_K (dC, dI) vwCl [] t ∧ va_D (va_A [] sz) []) (va_A [] sz)) 0 0 (va_A [] sz) := by
  refine Met.ofW (cc := cX6_takenFor) (maxL := 2) (ret := (some .int)) (by decide) rfl ?_
  intro p e s m args below meth c s₁ B hml hv
  obtain ⟨rfl, hsz, hP, hK, hD0, hE, hZ⟩ := hv
  have hx := B.exec
  have hb := B.bytes
  have hr := B.returns
  have hG : ∀ w ∈ zG, w.before _ s = true := fun w h => atoms_spec (ws := (zw yX6_takenFor cX6_takenFor 2 (some .int))) B.pre w (List.mem_cons_of_mem _ h)
  have hown : s.vm.findClass RX6 = some m.cls := findClass_of_methodNamed B.named
  have hlocks := B.notSynchronized

  subst hsz
  have hD := hD0.self (sz := s.heap.size)
  generalize hAe : va_A [] s.heap.size = A at hD hZ ⊢
  have hA : ∀ q : Nat, s.heap.size ≤ q → A q := fun q h => by rw [← hAe]; exact Or.inr h
  have hS : va_S A s.heap s.heap [] := va_S.rf
  have hl := lv_entry ([.int x0]) (n := 2) (Nat.le_of_ble_eq_true rfl)
  rw [lg_entry_eq]
  generalize (lg_sl ([.int x0]) ++ List.replicate (2 - (lg_sl ([.int x0])).length) Slot.unset).toArray = ls at hl ⊢
  have hl : lv_has ls 2 [(0, .int x0)] := hl
  refine lv_iload_n hx hb dX6_takenFor_0 rfl (lv_at hl 0 rfl) ?_
  have hPc := hP.sub (ws' := []) [] rfl
  have hDc := hD.sub (ws' := []) [] (by decide) rfl
  have hKc := hK.sub (tys' := []) [] rfl
  have hFc := va_free (wc := []) hD hS hA [] rfl
  refine va_calli (va_runS (As := [.int x0]) (rest := []) ⟨hx, hb, hml, hown, hG⟩ (sX6_chunksFor_0 l dC dI adK adV s.heap.size x0) (va_cwS 1 hG (zgS zv799 zv800 zv133 zv801) rfl rfl rfl (by decide +kernel) ⟨Nat.le_of_ble_eq_true rfl, Nat.le_of_ble_eq_true rfl⟩) ⟨zPc_blind, zPc_pre hPc hKc hDc hE hS hFc hZ⟩ rfl rfl hl.1 rfl (lv_room (Nat.le_of_ble_eq_true rfl)) dX6_takenFor_1 ⟨Nat.le_of_ble_eq_true rfl, Nat.le_of_ble_eq_true rfl⟩) hS (fun q _ h => hFc q h) hFc (fun r1_ u1_ t H1 locs ht hvm hw hB hz1 hk1 hS => ?_)
  have hw : (0 ≤ r1_.toInt ∧ r1_.toInt ≤ 8388611) := hw
  have b_ := hw
  obtain ⟨w1_, a1_, b1_, hP1, hK1, hD1⟩ := hB
  rw [ht] at hP1
  obtain ⟨hP, hD⟩ := va_join (wr := []) (w1 := []) hP hD [] [] rfl rfl (by decide) (by decide) hk1 hFc hP1 hD1
  have hP : va_P (dC, dI) vwCl [] H1 := hP.sub [] rfl
  have hD : va_D A [] := hD.sub [] (by decide) rfl
  generalize H1 = H at hP hS ⊢
  clear hz1
  refine lv_istore_n (lv' := [(1, .int r1_), (0, .int x0)]) hx hb dX6_takenFor_4 rfl hl (by decide) rfl (fun ls hl => ?_)
  refine lv_iload_n hx hb dX6_takenFor_5 rfl (lv_at hl 0 rfl) ?_
  have hPc := hP.sub (ws' := []) [] rfl
  have hDc := hD.sub (ws' := []) [] (by decide) rfl
  have hKc := hK.sub (tys' := []) [] rfl
  have hFc := va_free (wc := []) hD hS hA [] rfl
  refine va_calli (va_runS (As := [.int r1_]) (rest := []) ⟨hx, hb, hml, hown, hG⟩ (sX6_roomOf_0 l dC dI adK adV H.size r1_) (va_cwS 1 hG (zgS zv805 zv806 zv133 zv807) rfl rfl rfl (by decide +kernel) ⟨Nat.le_of_ble_eq_true rfl, Nat.le_of_ble_eq_true rfl⟩) ⟨zPc_blind, zPc_pre hPc hKc hDc hE hS hFc hZ⟩ rfl rfl hl.1 rfl (lv_room (Nat.le_of_ble_eq_true rfl)) dX6_takenFor_6 ⟨Nat.le_of_ble_eq_true rfl, Nat.le_of_ble_eq_true rfl⟩) hS (fun q _ h => hFc q h) hFc (fun r6_ u6_ t H1 locs ht hvm hw hB hz1 hk1 hS => ?_)
  have hw : (0 ≤ r1_.toInt → r1_.toInt ≤ 1000 → zRo r1_.toInt r6_.toInt) := hw
  have hX6_0 := hw
  obtain ⟨w6_, a6_, b6_, hP1, hK1, hD1⟩ := hB
  rw [ht] at hP1
  obtain ⟨hP, hD⟩ := va_join (wr := []) (w1 := []) hP hD [] [] rfl rfl (by decide) (by decide) hk1 hFc hP1 hD1
  have hP : va_P (dC, dI) vwCl [] H1 := hP.sub [] rfl
  have hD : va_D A [] := hD.sub [] (by decide) rfl
  generalize H1 = H at hP hS ⊢
  clear hz1
  refine lv_bipush (v := 16) hx hb dX6_takenFor_9 (by decide) ?_
  refine lv_iload_n hx hb dX6_takenFor_11 rfl (lv_at hl 0 rfl) ?_
  refine lv_imul hx hb dX6_takenFor_12 ?_
  refine lv_topi (fun z12 e_z12 => ?_)
  have b_ := zmul zk_16 rfl e_z12 (by omega) (by omega)
  have b_ : -2147483648 ≤ r6_.toInt ∧ r6_.toInt ≤ 2147483647 := ⟨zlo _, zhi _⟩
  refine lv_iadd hx hb dX6_takenFor_13 ?_
  refine lv_topi (fun z13 e_z13 => ?_)
  refine W.widen (k := 0) (n := 0) (by decide) (by decide) ?_
  have b_ : -2147483648 ≤ z13.toInt ∧ z13.toInt ≤ 2147483647 := ⟨zlo _, zhi _⟩
  have hpost : True := trivial
  have hP9 : va_P (dC, dI) vwCl [] H := hP
  have hD9 : va_D A [] := hD
  exact W.iret (v := z13) hx hb hr (fun t ht hW => ⟨⟨z13, (fun _ => 0), rfl, hpost, (fun _ => 0), (fun _ => (fun _ => 0)), (fun _ => (fun _ => 0)), by rw [ht]; exact hP9, va_K.moved hW.alike hK, hD9⟩, hS.F ht⟩) hS.2.2 dX6_takenFor_14
set_option maxHeartbeats 8000000 in
set_option maxRecDepth 100000 in
theorem sX2_fits_0 (l : Launch) (dC : Nat → ClassId) (dI : Nat → Nat → Nat) (adK adV : Nat → Nat) (h24 : Nat) (h0 : Nat) (h20 : Nat) (h30 : Nat) (h32 : Nat) (h23 : Nat) (h21 : Nat) (h18 : Nat) (h19 : Nat) (h22 : Nat) (h25 : Nat) (h26 : Nat) (h27 : Nat) (h28 : Nat) (h29 : Nat) (h31 : Nat) (h1 : Nat) (h4 : Nat) (h11 : Nat) (k20 : ClassId) (k30 : ClassId) (k32 : ClassId) (k23 : ClassId) (k21 : ClassId) (k18 : ClassId) (k19 : ClassId) (k22 : ClassId) (sz : Nat) (v24 : Nat → Int32) (v0 : Nat → Int32) (f20 : Nat → Int32) (f30 : Nat → Int32) (f32 : Nat → Int32) (f23 : Nat → Int32) (f21 : Nat → Int32) (f18 : Nat → Int32) (f19 : Nat → Int32) (f22 : Nat → Int32) (x2 : Int32) (hv24 : zR rg_Postings v24) (hv0 : zR rg_Intake v0) (hf20 : zA 0 399 f20) (hf21 : zA 0 299 f21) (hf19 : zA (-1) 299 f19) (hf22 : zA 0 299 f22) (hp0_ : zChn f21 f19 f22 f23 (v0 9).toInt) : Met l yX2_fits (zw yX2_fits cX2_fits 7 (some .boolean)) { frames := 4, cells := 0, slots := 0, locals := 87 } (zPc dC dI adK adV [.ref h0, .ref h24, .int x2] sz [(h24, .inr (6, mX6 h25 h26 h27 h28 h29 h30 h31 h32 v24)), (h0, .inr (2, mX2 h1 h4 h11 h18 h19 h20 h21 h22 h23 v0)), (h20, zi k20 300 f20), (h30, zi k30 400 f30), (h32, zi k32 400 f32), (h23, zi k23 400 f23), (h21, zi k21 400 f21), (h18, zi k18 300 f18), (h19, zi k19 300 f19), (h22, zi k22 400 f22)] [(k20, .int), (k30, .int), (k32, .int), (k23, .int), (k21, .int), (k18, .int), (k19, .int), (k22, .int)]) (va_Qi (fun (r : Int32) (u : Nat → Int32) => (0 ≤ r.toInt ∧ r.toInt ≤ 1)) (fun (u : Nat → Int32) (t : State) => ∃ (ww : Nat → Int64) (aa : Nat → Nat → Int32) (bb : Nat → Nat → Int64), va_P (dC, dI) vwCl [(h24, .inr (6, mX6 h25 h26 h27 h28 h29 h30 h31 h32 v24)), (h0, .inr (2, mX2 h1 h4 h11 h18 h19 h20 h21 h22 h23 v0)), (h20, zi k20 300 f20), (h30, zi k30 400 f30), (h32, zi k32 400 f32), (h23, zi k23 400 f23), (h21, zi k21 400 f21), (h18, zi k18 300 f18), (h19, zi k19 300 f19), (h22, zi k22 400 f22)] t.heap ∧ va_K (dC, dI) vwCl [(k20, .int), (k30, .int), (k32, .int), (k23, .int), (k21, .int), (k18, .int), (k19, .int), (k22, .int)] t ∧ va_D (va_A [(h24, .inr (6, mX6 h25 h26 h27 h28 h29 h30 h31 h32 v24)), (h0, .inr (2, mX2 h1 h4 h11 h18 h19 h20 h21 h22 h23 v0)), (h20, zi k20 300 f20), (h30, zi k30 400 f30), (h32, zi k32 400 f32), (h23, zi k23 400 f23), (h21, zi k21 400 f21), (h18, zi k18 300 f18), (h19, zi k19 300 f19), (h22, zi k22 400 f22)] sz) [(h24, .inr (6, mX6 h25 h26 h27 h28 h29 h30 h31 h32 v24)), (h0, .inr (2, mX2 h1 h4 h11 h18 h19 h20 h21 h22 h23 v0)), (h20, zi k20 300 f20), (h30, zi k30 400 f30), (h32, zi k32 400 f32), (h23, zi k23 400 f23), (h21, zi k21 400 f21), (h18, zi k18 300 f18), (h19, zi k19 300 f19), (h22, zi k22 400 f22)]) (va_A [(h24, .inr (6, mX6 h25 h26 h27 h28 h29 h30 h31 h32 v24)), (h0, .inr (2, mX2 h1 h4 h11 h18 h19 h20 h21 h22 h23 v0)), (h20, zi k20 300 f20), (h30, zi k30 400 f30), (h32, zi k32 400 f32), (h23, zi k23 400 f23), (h21, zi k21 400 f21), (h18, zi k18 300 f18), (h19, zi k19 300 f19), (h22, zi k22 400 f22)] sz)) 0 0 (va_A [(h24, .inr (6, mX6 h25 h26 h27 h28 h29 h30 h31 h32 v24)), (h0, .inr (2, mX2 h1 h4 h11 h18 h19 h20 h21 h22 h23 v0)), (h20, zi k20 300 f20), (h30, zi k30 400 f30), (h32, zi k32 400 f32), (h23, zi k23 400 f23), (h21, zi k21 400 f21), (h18, zi k18 300 f18), (h19, zi k19 300 f19), (h22, zi k22 400 f22)] sz) := by
  refine Met.ofW (cc := cX2_fits) (maxL := 7) (ret := (some .boolean)) (by decide) rfl ?_
  intro p e s m args below meth c s₁ B hml hv
  obtain ⟨rfl, hsz, hP, hK, hD0, hE, hZ⟩ := hv
  have hx := B.exec
  have hb := B.bytes
  have hr := B.returns
  have hG : ∀ w ∈ zG, w.before _ s = true := fun w h => atoms_spec (ws := (zw yX2_fits cX2_fits 7 (some .boolean))) B.pre w (List.mem_cons_of_mem _ h)
  have hown : s.vm.findClass RX2 = some m.cls := findClass_of_methodNamed B.named
  have hlocks := B.notSynchronized

  subst hsz
  have hD := hD0.self (sz := s.heap.size)
  generalize hAe : va_A [(h24, .inr (6, mX6 h25 h26 h27 h28 h29 h30 h31 h32 v24)), (h0, .inr (2, mX2 h1 h4 h11 h18 h19 h20 h21 h22 h23 v0)), (h20, zi k20 300 f20), (h30, zi k30 400 f30), (h32, zi k32 400 f32), (h23, zi k23 400 f23), (h21, zi k21 400 f21), (h18, zi k18 300 f18), (h19, zi k19 300 f19), (h22, zi k22 400 f22)] s.heap.size = A at hD hZ ⊢
  have hA : ∀ q : Nat, s.heap.size ≤ q → A q := fun q h => by rw [← hAe]; exact Or.inr h
  have hS : va_S A s.heap s.heap [] := va_S.rf
  have hl := lv_entry ([.ref h0, .ref h24, .int x2]) (n := 7) (Nat.le_of_ble_eq_true rfl)
  rw [lg_entry_eq]
  generalize (lg_sl ([.ref h0, .ref h24, .int x2]) ++ List.replicate (7 - (lg_sl ([.ref h0, .ref h24, .int x2])).length) Slot.unset).toArray = ls at hl ⊢
  have hl : lv_has ls 7 [(0, .ref h0), (1, .ref h24), (2, .int x2)] := hl
  have b_ := zk_0
  have b_ := zk_1
  have b_ : 0 ≤ (v0 9).toInt ∧ (v0 9).toInt ≤ 300 := hv0 9
  refine lv_aload_n hx hb dX2_fits_0 rfl (lv_at hl 1 rfl) ?_
  have hPc := hP.sub (ws' := [(h24, .inr (6, mX6 h25 h26 h27 h28 h29 h30 h31 h32 v24))]) [0] rfl
  have hDc := hD.sub (ws' := [(h24, .inr (6, mX6 h25 h26 h27 h28 h29 h30 h31 h32 v24))]) [0] (by decide) rfl
  have hKc := hK.sub (tys' := []) [] rfl
  have hFc := va_free (wc := [(h24, .inr (6, mX6 h25 h26 h27 h28 h29 h30 h31 h32 v24))]) hD hS hA [0] rfl
  refine va_calli (va_runV (As := []) (rest := []) ⟨hx, hb, hml, hown, hG⟩ (sX6_taken_0 l dC dI adK adV h24 h25 h26 h27 h28 h29 h30 h31 h32 s.heap.size v24 hv24) (cwV 0 hG (zgV zv767 zv768 zv769 zv133 zv770) rfl rfl rfl (by decide +kernel) ⟨Nat.le_of_ble_eq_true rfl, Nat.le_of_ble_eq_true rfl⟩) ⟨zPc_blind, va_recv hKc hPc (ci := 6) (q0 := 0) rfl rfl, zPc_pre hPc hKc hDc hE hS hFc hZ⟩ rfl rfl hl.1 rfl (lv_room (Nat.le_of_ble_eq_true rfl)) dX2_fits_1 ⟨Nat.le_of_ble_eq_true rfl, Nat.le_of_ble_eq_true rfl⟩) hS (fun q _ h => hFc q h) hFc (fun r1_ u1_ t H1 locs ht hvm hw hB hz1 hk1 hS => ?_)
  obtain ⟨w1_, a1_, b1_, hP1, hK1, hD1⟩ := hB
  rw [ht] at hP1
  obtain ⟨hP, hD⟩ := va_join (wr := [(h0, .inr (2, mX2 h1 h4 h11 h18 h19 h20 h21 h22 h23 v0)), (h20, zi k20 300 f20), (h30, zi k30 400 f30), (h32, zi k32 400 f32), (h23, zi k23 400 f23), (h21, zi k21 400 f21), (h18, zi k18 300 f18), (h19, zi k19 300 f19), (h22, zi k22 400 f22)]) (w1 := [(h24, .inr (6, mX6 h25 h26 h27 h28 h29 h30 h31 h32 v24))]) hP hD [0] [1, 2, 3, 4, 5, 6, 7, 8, 9] rfl rfl (by decide) (by decide) hk1 hFc hP1 hD1
  have hP : va_P (dC, dI) vwCl [(h24, .inr (6, mX6 h25 h26 h27 h28 h29 h30 h31 h32 v24)), (h0, .inr (2, mX2 h1 h4 h11 h18 h19 h20 h21 h22 h23 v0)), (h20, zi k20 300 f20), (h30, zi k30 400 f30), (h32, zi k32 400 f32), (h23, zi k23 400 f23), (h21, zi k21 400 f21), (h18, zi k18 300 f18), (h19, zi k19 300 f19), (h22, zi k22 400 f22)] H1 := hP.sub [9, 0, 1, 2, 3, 4, 5, 6, 7, 8] rfl
  have hD : va_D A [(h24, .inr (6, mX6 h25 h26 h27 h28 h29 h30 h31 h32 v24)), (h0, .inr (2, mX2 h1 h4 h11 h18 h19 h20 h21 h22 h23 v0)), (h20, zi k20 300 f20), (h30, zi k30 400 f30), (h32, zi k32 400 f32), (h23, zi k23 400 f23), (h21, zi k21 400 f21), (h18, zi k18 300 f18), (h19, zi k19 300 f19), (h22, zi k22 400 f22)] := hD.sub [9, 0, 1, 2, 3, 4, 5, 6, 7, 8] (by decide) rfl
  generalize H1 = H at hP hS ⊢
  clear hz1
  refine lv_istore_n (lv' := [(3, .int r1_), (0, .ref h0), (1, .ref h24), (2, .int x2)]) hx hb dX2_fits_4 rfl hl (by decide) rfl (fun ls hl => ?_)
  refine lv_iconst (v := 0) hx hb dX2_fits_5 (by decide) ?_
  refine lv_istore (lv' := [(4, .int 0), (3, .int r1_), (0, .ref h0), (1, .ref h24), (2, .int x2)]) hx hb dX2_fits_6 hl (by decide) rfl (fun ls hl => ?_)
  refine zcutL (fun u8_ => (300 - (u8_ 1).toInt).toNat) (fun H locs ls u8_ w8_ a8_ b8_ => va_P (dC, dI) vwCl [(h24, .inr (6, mX6 h25 h26 h27 h28 h29 h30 h31 h32 v24)), (h0, .inr (2, mX2 h1 h4 h11 h18 h19 h20 h21 h22 h23 v0)), (h20, zi k20 300 f20), (h30, zi k30 400 f30), (h32, zi k32 400 f32), (h23, zi k23 400 f23), (h21, zi k21 400 f21), (h18, zi k18 300 f18), (h19, zi k19 300 f19), (h22, zi k22 400 f22)] H ∧ va_D A [(h24, .inr (6, mX6 h25 h26 h27 h28 h29 h30 h31 h32 v24)), (h0, .inr (2, mX2 h1 h4 h11 h18 h19 h20 h21 h22 h23 v0)), (h20, zi k20 300 f20), (h30, zi k30 400 f30), (h32, zi k32 400 f32), (h23, zi k23 400 f23), (h21, zi k21 400 f21), (h18, zi k18 300 f18), (h19, zi k19 300 f19), (h22, zi k22 400 f22)] ∧ va_S A s.heap H locs ∧ lv_has ls 7 [(0, .ref h0), (1, .ref h24), (2, .int x2), (3, .int (u8_ 0)), (4, .int (u8_ 1))] ∧ (0 ≤ (u8_ 1).toInt ∧ (u8_ 1).toInt ≤ 300)) (fun ls u8_ w8_ => F0 m 8 ls []) 0 0 ?_ (fun hJ8 => ?_)
  · skip
    intro H locs ls u8_ w8_ a8_ b8_ hc hJ8
    obtain ⟨hP, hD, hS, hl, b_⟩ := hc
    refine lv_iload hx hb dX2_fits_8 (lv_at hl 4 rfl) ?_
    refine lv_aload_n hx hb dX2_fits_10 rfl (lv_at hl 0 rfl) ?_
    have b_ : 0 ≤ (v0 10).toInt ∧ (v0 10).toInt ≤ 300 := hv0 10
    refine va_get (D := (dC, dI)) (ci := 2) (v := .int (v0 10)) (C := RX2) (T := TX2) (N := 11) hx hb hG zuX2 hown hK hP 1 rfl rfl 10 (by decide) (hG _ zv335) (fun _ h9 => h9) rfl dX2_fits_11 ?_
    refine lv_icmp_ge (tgt := 79) hx hb dX2_fits_14 (by decide) (fun c_ => ?_) (fun c_ => ?_)
    · skip
      have b_ := zT_ge rfl rfl c_
      refine lv_iload_n hx hb dX2_fits_79 rfl (lv_at hl 3 rfl) ?_
      refine lv_ldc hx hb hown (hG _ zv808) dX2_fits_80 ?_
      have b_ : -2147483648 ≤ (u8_ 0).toInt ∧ (u8_ 0).toInt ≤ 2147483647 := ⟨zlo _, zhi _⟩
      refine lv_icmp_gt (tgt := 89) hx hb dX2_fits_82 (by decide) (fun c_ => ?_) (fun c_ => ?_)
      · skip
        have b_ := zT_gt rfl zk_40000 c_
        refine lv_iconst (v := 0) hx hb dX2_fits_89 (by decide) ?_
        refine W.widen (k := 0) (n := 0) (by decide) (by decide) ?_
        have hpost : (0 ≤ (0 : Int32).toInt ∧ (0 : Int32).toInt ≤ 1) := ⟨by omega, by omega⟩
        have hP9 : va_P (dC, dI) vwCl [(h24, .inr (6, mX6 h25 h26 h27 h28 h29 h30 h31 h32 v24)), (h0, .inr (2, mX2 h1 h4 h11 h18 h19 h20 h21 h22 h23 v0)), (h20, zi k20 300 f20), (h30, zi k30 400 f30), (h32, zi k32 400 f32), (h23, zi k23 400 f23), (h21, zi k21 400 f21), (h18, zi k18 300 f18), (h19, zi k19 300 f19), (h22, zi k22 400 f22)] H := hP
        have hD9 : va_D A [(h24, .inr (6, mX6 h25 h26 h27 h28 h29 h30 h31 h32 v24)), (h0, .inr (2, mX2 h1 h4 h11 h18 h19 h20 h21 h22 h23 v0)), (h20, zi k20 300 f20), (h30, zi k30 400 f30), (h32, zi k32 400 f32), (h23, zi k23 400 f23), (h21, zi k21 400 f21), (h18, zi k18 300 f18), (h19, zi k19 300 f19), (h22, zi k22 400 f22)] := hD
        exact W.zret (v := 0) hx hb hr rfl (fun t ht hW => ⟨⟨0, (fun _ => 0), rfl, hpost, (fun _ => 0), (fun _ => (fun _ => 0)), (fun _ => (fun _ => 0)), by rw [ht]; exact hP9, va_K.moved hW.alike hK, hD9⟩, hS.F ht⟩) hS.2.2 dX2_fits_90
      · skip
        have b_ := zF_gt rfl zk_40000 c_
        refine lv_iconst (v := 1) hx hb dX2_fits_85 (by decide) ?_
        refine lv_goto (tgt := 90) hx hb dX2_fits_86 (by decide) ?_
        refine W.widen (k := 0) (n := 0) (by decide) (by decide) ?_
        have hpost : (0 ≤ (1 : Int32).toInt ∧ (1 : Int32).toInt ≤ 1) := ⟨by omega, by omega⟩
        have hP9 : va_P (dC, dI) vwCl [(h24, .inr (6, mX6 h25 h26 h27 h28 h29 h30 h31 h32 v24)), (h0, .inr (2, mX2 h1 h4 h11 h18 h19 h20 h21 h22 h23 v0)), (h20, zi k20 300 f20), (h30, zi k30 400 f30), (h32, zi k32 400 f32), (h23, zi k23 400 f23), (h21, zi k21 400 f21), (h18, zi k18 300 f18), (h19, zi k19 300 f19), (h22, zi k22 400 f22)] H := hP
        have hD9 : va_D A [(h24, .inr (6, mX6 h25 h26 h27 h28 h29 h30 h31 h32 v24)), (h0, .inr (2, mX2 h1 h4 h11 h18 h19 h20 h21 h22 h23 v0)), (h20, zi k20 300 f20), (h30, zi k30 400 f30), (h32, zi k32 400 f32), (h23, zi k23 400 f23), (h21, zi k21 400 f21), (h18, zi k18 300 f18), (h19, zi k19 300 f19), (h22, zi k22 400 f22)] := hD
        exact W.zret (v := 1) hx hb hr rfl (fun t ht hW => ⟨⟨1, (fun _ => 0), rfl, hpost, (fun _ => 0), (fun _ => (fun _ => 0)), (fun _ => (fun _ => 0)), by rw [ht]; exact hP9, va_K.moved hW.alike hK, hD9⟩, hS.F ht⟩) hS.2.2 dX2_fits_90
    · skip
      have b_ := zF_ge rfl rfl c_
      refine lv_aload_n hx hb dX2_fits_17 rfl (lv_at hl 1 rfl) ?_
      refine lv_aload_n hx hb dX2_fits_18 rfl (lv_at hl 0 rfl) ?_
      refine va_get (D := (dC, dI)) (ci := 2) (v := .ref h20) (C := RX2) (T := TX2) (N := 11) hx hb hG zuX2 hown hK hP 1 rfl rfl 5 (by decide) (hG _ zv330) (fun _ h9 => h9) rfl dX2_fits_19 ?_
      refine lv_iload hx hb dX2_fits_22 (lv_at hl 4 rfl) ?_
      refine va_iald hx hb hK hP 2 0 rfl rfl (zin_lit ⟨by omega, by omega⟩) dX2_fits_24 ?_
      refine lv_topi (fun z24 e_z24 => ?_)
      have b_ : 0 ≤ z24.toInt ∧ z24.toInt ≤ 399 := by rw [e_z24]; exact hf20 _
      have hPc := hP.sub (ws' := [(h24, .inr (6, mX6 h25 h26 h27 h28 h29 h30 h31 h32 v24)), (h30, zi k30 400 f30)]) [0, 3] rfl
      have hDc := hD.sub (ws' := [(h24, .inr (6, mX6 h25 h26 h27 h28 h29 h30 h31 h32 v24)), (h30, zi k30 400 f30)]) [0, 3] (by decide) rfl
      have hKc := hK.sub (tys' := [(k30, .int)]) [1] rfl
      have hFc := va_free (wc := [(h24, .inr (6, mX6 h25 h26 h27 h28 h29 h30 h31 h32 v24)), (h30, zi k30 400 f30)]) hD hS hA [0, 3] rfl
      refine va_calli (va_runV (As := [.int z24]) (rest := []) ⟨hx, hb, hml, hown, hG⟩ (sX6_bitsOf_0 l dC dI adK adV h24 h30 h25 h26 h27 h28 h29 h31 h32 k30 H.size v24 f30 z24 hv24) (cwV 1 hG (zgV zv771 zv772 zv773 zv133 zv774) rfl rfl rfl (by decide +kernel) ⟨Nat.le_of_ble_eq_true rfl, Nat.le_of_ble_eq_true rfl⟩) ⟨zPc_blind, va_recv hKc hPc (ci := 6) (q0 := 0) rfl rfl, zPc_pre hPc hKc hDc hE hS hFc hZ⟩ rfl rfl hl.1 rfl (lv_room (Nat.le_of_ble_eq_true rfl)) dX2_fits_25 ⟨Nat.le_of_ble_eq_true rfl, Nat.le_of_ble_eq_true rfl⟩) hS (fun q _ h => hFc q h) hFc (fun r25_ u25_ t H1 locs ht hvm hw hB hz1 hk1 hS => ?_)
      obtain ⟨w25_, a25_, b25_, hP1, hK1, hD1⟩ := hB
      rw [ht] at hP1
      obtain ⟨hP, hD⟩ := va_join (wr := [(h0, .inr (2, mX2 h1 h4 h11 h18 h19 h20 h21 h22 h23 v0)), (h20, zi k20 300 f20), (h32, zi k32 400 f32), (h23, zi k23 400 f23), (h21, zi k21 400 f21), (h18, zi k18 300 f18), (h19, zi k19 300 f19), (h22, zi k22 400 f22)]) (w1 := [(h24, .inr (6, mX6 h25 h26 h27 h28 h29 h30 h31 h32 v24)), (h30, zi k30 400 f30)]) hP hD [0, 3] [1, 2, 4, 5, 6, 7, 8, 9] rfl rfl (by decide) (by decide) hk1 hFc hP1 hD1
      have hP : va_P (dC, dI) vwCl [(h24, .inr (6, mX6 h25 h26 h27 h28 h29 h30 h31 h32 v24)), (h0, .inr (2, mX2 h1 h4 h11 h18 h19 h20 h21 h22 h23 v0)), (h20, zi k20 300 f20), (h30, zi k30 400 f30), (h32, zi k32 400 f32), (h23, zi k23 400 f23), (h21, zi k21 400 f21), (h18, zi k18 300 f18), (h19, zi k19 300 f19), (h22, zi k22 400 f22)] H1 := hP.sub [8, 0, 1, 9, 2, 3, 4, 5, 6, 7] rfl
      have hD : va_D A [(h24, .inr (6, mX6 h25 h26 h27 h28 h29 h30 h31 h32 v24)), (h0, .inr (2, mX2 h1 h4 h11 h18 h19 h20 h21 h22 h23 v0)), (h20, zi k20 300 f20), (h30, zi k30 400 f30), (h32, zi k32 400 f32), (h23, zi k23 400 f23), (h21, zi k21 400 f21), (h18, zi k18 300 f18), (h19, zi k19 300 f19), (h22, zi k22 400 f22)] := hD.sub [8, 0, 1, 9, 2, 3, 4, 5, 6, 7] (by decide) rfl
      generalize H1 = H at hP hS ⊢
      clear hz1
      refine lv_istore (lv' := [(5, .int r25_), (0, .ref h0), (1, .ref h24), (2, .int x2), (3, .int (u8_ 0)), (4, .int (u8_ 1))]) hx hb dX2_fits_28 hl (by decide) rfl (fun ls hl => ?_)
      refine lv_iload hx hb dX2_fits_30 (lv_at hl 0 rfl) ?_
      refine lv_aload_n hx hb dX2_fits_32 rfl (lv_at hl 1 rfl) ?_
      refine lv_aload_n hx hb dX2_fits_33 rfl (lv_at hl 1 rfl) ?_
      refine va_get (D := (dC, dI)) (ci := 2) (v := .ref h20) (C := RX2) (T := TX2) (N := 11) hx hb hG zuX2 hown hK hP 1 rfl rfl 5 (by decide) (hG _ zv330) (fun _ h9 => h9) rfl dX2_fits_34 ?_
      refine lv_iload hx hb dX2_fits_37 (lv_at hl 5 rfl) ?_
      refine va_iald hx hb hK hP 2 0 rfl rfl (zin_lit ⟨by omega, by omega⟩) dX2_fits_39 ?_
      refine lv_topi (fun z39 e_z39 => ?_)
      have b_ : 0 ≤ z39.toInt ∧ z39.toInt ≤ 399 := by rw [e_z39]; exact hf20 _
      refine lv_iload_n hx hb dX2_fits_40 rfl (lv_at hl 3 rfl) ?_
      refine lv_aload_n hx hb dX2_fits_41 rfl (lv_at hl 2 rfl) ?_
      refine lv_aload_n hx hb dX2_fits_42 rfl (lv_at hl 1 rfl) ?_
      refine va_get (D := (dC, dI)) (ci := 2) (v := .ref h20) (C := RX2) (T := TX2) (N := 11) hx hb hG zuX2 hown hK hP 1 rfl rfl 5 (by decide) (hG _ zv330) (fun _ h9 => h9) rfl dX2_fits_43 ?_
      refine lv_iload hx hb dX2_fits_46 (lv_at hl 5 rfl) ?_
      refine va_iald hx hb hK hP 2 0 rfl rfl (zin_lit ⟨by omega, by omega⟩) dX2_fits_48 ?_
      refine lv_topi (fun z48 e_z48 => ?_)
      have b_ : 0 ≤ z48.toInt ∧ z48.toInt ≤ 399 := by rw [e_z48]; exact hf20 _
      have hPc := hP.sub (ws' := [(h24, .inr (6, mX6 h25 h26 h27 h28 h29 h30 h31 h32 v24)), (h32, zi k32 400 f32)]) [0, 4] rfl
      have hDc := hD.sub (ws' := [(h24, .inr (6, mX6 h25 h26 h27 h28 h29 h30 h31 h32 v24)), (h32, zi k32 400 f32)]) [0, 4] (by decide) rfl
      have hKc := hK.sub (tys' := [(k32, .int)]) [2] rfl
      have hFc := va_free (wc := [(h24, .inr (6, mX6 h25 h26 h27 h28 h29 h30 h31 h32 v24)), (h32, zi k32 400 f32)]) hD hS hA [0, 4] rfl
      refine va_calli (va_runV (As := [.int z48]) (rest := [.int x2, .int z39, .ref h0, .int r25_]) ⟨hx, hb, hml, hown, hG⟩ (sX6_latestOf_0 l dC dI adK adV h24 h32 h25 h26 h27 h28 h29 h30 h31 k32 H.size v24 f32 z48 hv24) (cwV 1 hG (zgV zv778 zv779 zv780 zv133 zv781) rfl rfl rfl (by decide +kernel) ⟨Nat.le_of_ble_eq_true rfl, Nat.le_of_ble_eq_true rfl⟩) ⟨zPc_blind, va_recv hKc hPc (ci := 6) (q0 := 0) rfl rfl, zPc_pre hPc hKc hDc hE hS hFc hZ⟩ rfl rfl hl.1 rfl (lv_room (Nat.le_of_ble_eq_true rfl)) dX2_fits_49 ⟨Nat.le_of_ble_eq_true rfl, Nat.le_of_ble_eq_true rfl⟩) hS (fun q _ h => hFc q h) hFc (fun r49_ u49_ t H1 locs ht hvm hw hB hz1 hk1 hS => ?_)
      obtain ⟨w49_, a49_, b49_, hP1, hK1, hD1⟩ := hB
      rw [ht] at hP1
      obtain ⟨hP, hD⟩ := va_join (wr := [(h0, .inr (2, mX2 h1 h4 h11 h18 h19 h20 h21 h22 h23 v0)), (h20, zi k20 300 f20), (h30, zi k30 400 f30), (h23, zi k23 400 f23), (h21, zi k21 400 f21), (h18, zi k18 300 f18), (h19, zi k19 300 f19), (h22, zi k22 400 f22)]) (w1 := [(h24, .inr (6, mX6 h25 h26 h27 h28 h29 h30 h31 h32 v24)), (h32, zi k32 400 f32)]) hP hD [0, 4] [1, 2, 3, 5, 6, 7, 8, 9] rfl rfl (by decide) (by decide) hk1 hFc hP1 hD1
      have hP : va_P (dC, dI) vwCl [(h24, .inr (6, mX6 h25 h26 h27 h28 h29 h30 h31 h32 v24)), (h0, .inr (2, mX2 h1 h4 h11 h18 h19 h20 h21 h22 h23 v0)), (h20, zi k20 300 f20), (h30, zi k30 400 f30), (h32, zi k32 400 f32), (h23, zi k23 400 f23), (h21, zi k21 400 f21), (h18, zi k18 300 f18), (h19, zi k19 300 f19), (h22, zi k22 400 f22)] H1 := hP.sub [8, 0, 1, 2, 9, 3, 4, 5, 6, 7] rfl
      have hD : va_D A [(h24, .inr (6, mX6 h25 h26 h27 h28 h29 h30 h31 h32 v24)), (h0, .inr (2, mX2 h1 h4 h11 h18 h19 h20 h21 h22 h23 v0)), (h20, zi k20 300 f20), (h30, zi k30 400 f30), (h32, zi k32 400 f32), (h23, zi k23 400 f23), (h21, zi k21 400 f21), (h18, zi k18 300 f18), (h19, zi k19 300 f19), (h22, zi k22 400 f22)] := hD.sub [8, 0, 1, 2, 9, 3, 4, 5, 6, 7] (by decide) rfl
      generalize H1 = H at hP hS ⊢
      clear hz1
      have b_ : -2147483648 ≤ x2.toInt ∧ x2.toInt ≤ 2147483647 := ⟨zlo _, zhi _⟩
      have b_ : -2147483648 ≤ r49_.toInt ∧ r49_.toInt ≤ 2147483647 := ⟨zlo _, zhi _⟩
      refine lv_isub hx hb dX2_fits_52 ?_
      refine lv_topi (fun z52 e_z52 => ?_)
      have hPc := hP.sub (ws' := [(h0, .inr (2, mX2 h1 h4 h11 h18 h19 h20 h21 h22 h23 v0)), (h23, zi k23 400 f23), (h21, zi k21 400 f21), (h18, zi k18 300 f18), (h19, zi k19 300 f19), (h22, zi k22 400 f22)]) [1, 5, 6, 7, 8, 9] rfl
      have hDc := hD.sub (ws' := [(h0, .inr (2, mX2 h1 h4 h11 h18 h19 h20 h21 h22 h23 v0)), (h23, zi k23 400 f23), (h21, zi k21 400 f21), (h18, zi k18 300 f18), (h19, zi k19 300 f19), (h22, zi k22 400 f22)]) [1, 5, 6, 7, 8, 9] (by decide) rfl
      have hKc := hK.sub (tys' := [(k23, .int), (k21, .int), (k18, .int), (k19, .int), (k22, .int)]) [3, 4, 5, 6, 7] rfl
      have hFc := va_free (wc := [(h0, .inr (2, mX2 h1 h4 h11 h18 h19 h20 h21 h22 h23 v0)), (h23, zi k23 400 f23), (h21, zi k21 400 f21), (h18, zi k18 300 f18), (h19, zi k19 300 f19), (h22, zi k22 400 f22)]) hD hS hA [1, 5, 6, 7, 8, 9] rfl
      refine va_calli (va_runV (As := [.int z39, .int z52]) (rest := [.int r25_]) ⟨hx, hb, hml, hown, hG⟩ (sX2_bitsFor_0 l dC dI adK adV h0 h23 h21 h18 h19 h22 h1 h4 h11 h20 k23 k21 k18 k19 k22 H.size v0 f23 f21 f18 f19 f22 z39 z52 hv0 hf21 hf19 hf22 ⟨show (0 : Int) ≤ (z39 : Int32).toInt from by omega, show (z39 : Int32).toInt ≤ (399 : Int) from by omega⟩ (show zChn f21 f19 f22 f23 (v0 9).toInt from by assumption)) (cwV 2 hG (zgV zv782 zv784 zv6 zv135 zv785) rfl rfl rfl (by decide +kernel) ⟨Nat.le_of_ble_eq_true rfl, Nat.le_of_ble_eq_true rfl⟩) ⟨zPc_blind, va_recv hKc hPc (ci := 2) (q0 := 0) rfl rfl, zPc_pre hPc hKc hDc hE hS hFc hZ⟩ rfl rfl hl.1 rfl (lv_room (Nat.le_of_ble_eq_true rfl)) dX2_fits_53 ⟨Nat.le_of_ble_eq_true rfl, Nat.le_of_ble_eq_true rfl⟩) hS (fun q _ h => hFc q h) hFc (fun r53_ u53_ t H1 locs ht hvm hw hB hz1 hk1 hS => ?_)
      obtain ⟨w53_, a53_, b53_, hP1, hK1, hD1⟩ := hB
      rw [ht] at hP1
      obtain ⟨hP, hD⟩ := va_join (wr := [(h24, .inr (6, mX6 h25 h26 h27 h28 h29 h30 h31 h32 v24)), (h20, zi k20 300 f20), (h30, zi k30 400 f30), (h32, zi k32 400 f32)]) (w1 := [(h0, .inr (2, mX2 h1 h4 h11 h18 h19 h20 h21 h22 h23 v0)), (h23, zi k23 400 f23), (h21, zi k21 400 f21), (h18, zi k18 300 f18), (h19, zi k19 300 f19), (h22, zi k22 400 f22)]) hP hD [1, 5, 6, 7, 8, 9] [0, 2, 3, 4] rfl rfl (by decide) (by decide) hk1 hFc hP1 hD1
      have hP : va_P (dC, dI) vwCl [(h24, .inr (6, mX6 h25 h26 h27 h28 h29 h30 h31 h32 v24)), (h0, .inr (2, mX2 h1 h4 h11 h18 h19 h20 h21 h22 h23 v0)), (h20, zi k20 300 f20), (h30, zi k30 400 f30), (h32, zi k32 400 f32), (h23, zi k23 400 f23), (h21, zi k21 400 f21), (h18, zi k18 300 f18), (h19, zi k19 300 f19), (h22, zi k22 400 f22)] H1 := hP.sub [0, 4, 1, 2, 3, 5, 6, 7, 8, 9] rfl
      have hD : va_D A [(h24, .inr (6, mX6 h25 h26 h27 h28 h29 h30 h31 h32 v24)), (h0, .inr (2, mX2 h1 h4 h11 h18 h19 h20 h21 h22 h23 v0)), (h20, zi k20 300 f20), (h30, zi k30 400 f30), (h32, zi k32 400 f32), (h23, zi k23 400 f23), (h21, zi k21 400 f21), (h18, zi k18 300 f18), (h19, zi k19 300 f19), (h22, zi k22 400 f22)] := hD.sub [0, 4, 1, 2, 3, 5, 6, 7, 8, 9] (by decide) rfl
      generalize H1 = H at hP hS ⊢
      clear hz1
      have b_ : -2147483648 ≤ r25_.toInt ∧ r25_.toInt ≤ 2147483647 := ⟨zlo _, zhi _⟩
      have b_ : -2147483648 ≤ r53_.toInt ∧ r53_.toInt ≤ 2147483647 := ⟨zlo _, zhi _⟩
      refine lv_iadd hx hb dX2_fits_56 ?_
      refine lv_topi (fun z56 e_z56 => ?_)
      refine lv_istore (lv' := [(6, .int z56), (5, .int r25_), (0, .ref h0), (1, .ref h24), (2, .int x2), (3, .int (u8_ 0)), (4, .int (u8_ 1))]) hx hb dX2_fits_57 hl (by decide) rfl (fun ls hl => ?_)
      refine lv_iload_n hx hb dX2_fits_59 rfl (lv_at hl 5 rfl) ?_
      refine lv_iload hx hb dX2_fits_60 (lv_at hl 0 rfl) ?_
      have hPc := hP.sub (ws' := []) [] rfl
      have hDc := hD.sub (ws' := []) [] (by decide) rfl
      have hKc := hK.sub (tys' := []) [] rfl
      have hFc := va_free (wc := []) hD hS hA [] rfl
      refine va_calli (va_runS (As := [.int z56]) (rest := [.int (u8_ 0)]) ⟨hx, hb, hml, hown, hG⟩ (sX6_takenFor_0 l dC dI adK adV H.size z56) (va_cwS 1 hG (zgS zv796 zv797 zv133 zv798) rfl rfl rfl (by decide +kernel) ⟨Nat.le_of_ble_eq_true rfl, Nat.le_of_ble_eq_true rfl⟩) ⟨zPc_blind, zPc_pre hPc hKc hDc hE hS hFc hZ⟩ rfl rfl hl.1 rfl (lv_room (Nat.le_of_ble_eq_true rfl)) dX2_fits_62 ⟨Nat.le_of_ble_eq_true rfl, Nat.le_of_ble_eq_true rfl⟩) hS (fun q _ h => hFc q h) hFc (fun r62_ u62_ t H1 locs ht hvm hw hB hz1 hk1 hS => ?_)
      obtain ⟨w62_, a62_, b62_, hP1, hK1, hD1⟩ := hB
      rw [ht] at hP1
      obtain ⟨hP, hD⟩ := va_join (wr := [(h24, .inr (6, mX6 h25 h26 h27 h28 h29 h30 h31 h32 v24)), (h0, .inr (2, mX2 h1 h4 h11 h18 h19 h20 h21 h22 h23 v0)), (h20, zi k20 300 f20), (h30, zi k30 400 f30), (h32, zi k32 400 f32), (h23, zi k23 400 f23), (h21, zi k21 400 f21), (h18, zi k18 300 f18), (h19, zi k19 300 f19), (h22, zi k22 400 f22)]) (w1 := []) hP hD [] [0, 1, 2, 3, 4, 5, 6, 7, 8, 9] rfl rfl (by decide) (by decide) hk1 hFc hP1 hD1
      have hP : va_P (dC, dI) vwCl [(h24, .inr (6, mX6 h25 h26 h27 h28 h29 h30 h31 h32 v24)), (h0, .inr (2, mX2 h1 h4 h11 h18 h19 h20 h21 h22 h23 v0)), (h20, zi k20 300 f20), (h30, zi k30 400 f30), (h32, zi k32 400 f32), (h23, zi k23 400 f23), (h21, zi k21 400 f21), (h18, zi k18 300 f18), (h19, zi k19 300 f19), (h22, zi k22 400 f22)] H1 := hP.sub [0, 1, 2, 3, 4, 5, 6, 7, 8, 9] rfl
      have hD : va_D A [(h24, .inr (6, mX6 h25 h26 h27 h28 h29 h30 h31 h32 v24)), (h0, .inr (2, mX2 h1 h4 h11 h18 h19 h20 h21 h22 h23 v0)), (h20, zi k20 300 f20), (h30, zi k30 400 f30), (h32, zi k32 400 f32), (h23, zi k23 400 f23), (h21, zi k21 400 f21), (h18, zi k18 300 f18), (h19, zi k19 300 f19), (h22, zi k22 400 f22)] := hD.sub [0, 1, 2, 3, 4, 5, 6, 7, 8, 9] (by decide) rfl
      generalize H1 = H at hP hS ⊢
      clear hz1
      refine lv_iload hx hb dX2_fits_65 (lv_at hl 1 rfl) ?_
      have hPc := hP.sub (ws' := []) [] rfl
      have hDc := hD.sub (ws' := []) [] (by decide) rfl
      have hKc := hK.sub (tys' := []) [] rfl
      have hFc := va_free (wc := []) hD hS hA [] rfl
      refine va_calli (va_runS (As := [.int r25_]) (rest := [.int r62_, .int (u8_ 0)]) ⟨hx, hb, hml, hown, hG⟩ (sX6_takenFor_0 l dC dI adK adV H.size r25_) (va_cwS 1 hG (zgS zv796 zv797 zv133 zv798) rfl rfl rfl (by decide +kernel) ⟨Nat.le_of_ble_eq_true rfl, Nat.le_of_ble_eq_true rfl⟩) ⟨zPc_blind, zPc_pre hPc hKc hDc hE hS hFc hZ⟩ rfl rfl hl.1 rfl (lv_room (Nat.le_of_ble_eq_true rfl)) dX2_fits_67 ⟨Nat.le_of_ble_eq_true rfl, Nat.le_of_ble_eq_true rfl⟩) hS (fun q _ h => hFc q h) hFc (fun r67_ u67_ t H1 locs ht hvm hw hB hz1 hk1 hS => ?_)
      obtain ⟨w67_, a67_, b67_, hP1, hK1, hD1⟩ := hB
      rw [ht] at hP1
      obtain ⟨hP, hD⟩ := va_join (wr := [(h24, .inr (6, mX6 h25 h26 h27 h28 h29 h30 h31 h32 v24)), (h0, .inr (2, mX2 h1 h4 h11 h18 h19 h20 h21 h22 h23 v0)), (h20, zi k20 300 f20), (h30, zi k30 400 f30), (h32, zi k32 400 f32), (h23, zi k23 400 f23), (h21, zi k21 400 f21), (h18, zi k18 300 f18), (h19, zi k19 300 f19), (h22, zi k22 400 f22)]) (w1 := []) hP hD [] [0, 1, 2, 3, 4, 5, 6, 7, 8, 9] rfl rfl (by decide) (by decide) hk1 hFc hP1 hD1
      have hP : va_P (dC, dI) vwCl [(h24, .inr (6, mX6 h25 h26 h27 h28 h29 h30 h31 h32 v24)), (h0, .inr (2, mX2 h1 h4 h11 h18 h19 h20 h21 h22 h23 v0)), (h20, zi k20 300 f20), (h30, zi k30 400 f30), (h32, zi k32 400 f32), (h23, zi k23 400 f23), (h21, zi k21 400 f21), (h18, zi k18 300 f18), (h19, zi k19 300 f19), (h22, zi k22 400 f22)] H1 := hP.sub [0, 1, 2, 3, 4, 5, 6, 7, 8, 9] rfl
      have hD : va_D A [(h24, .inr (6, mX6 h25 h26 h27 h28 h29 h30 h31 h32 v24)), (h0, .inr (2, mX2 h1 h4 h11 h18 h19 h20 h21 h22 h23 v0)), (h20, zi k20 300 f20), (h30, zi k30 400 f30), (h32, zi k32 400 f32), (h23, zi k23 400 f23), (h21, zi k21 400 f21), (h18, zi k18 300 f18), (h19, zi k19 300 f19), (h22, zi k22 400 f22)] := hD.sub [0, 1, 2, 3, 4, 5, 6, 7, 8, 9] (by decide) rfl
      generalize H1 = H at hP hS ⊢
      clear hz1
      have b_ : -2147483648 ≤ r62_.toInt ∧ r62_.toInt ≤ 2147483647 := ⟨zlo _, zhi _⟩
      have b_ : -2147483648 ≤ r67_.toInt ∧ r67_.toInt ≤ 2147483647 := ⟨zlo _, zhi _⟩
      refine lv_isub hx hb dX2_fits_70 ?_
      refine lv_topi (fun z70 e_z70 => ?_)
      have b_ : -2147483648 ≤ (u8_ 0).toInt ∧ (u8_ 0).toInt ≤ 2147483647 := ⟨zlo _, zhi _⟩
      have b_ : -2147483648 ≤ z70.toInt ∧ z70.toInt ≤ 2147483647 := ⟨zlo _, zhi _⟩
      refine lv_iadd hx hb dX2_fits_71 ?_
      refine lv_topi (fun z71 e_z71 => ?_)
      refine lv_istore_n (lv' := [(3, .int z71), (6, .int z56), (5, .int r25_), (0, .ref h0), (1, .ref h24), (2, .int x2), (4, .int (u8_ 1))]) hx hb dX2_fits_72 rfl hl (by decide) rfl (fun ls hl => ?_)
      obtain ⟨z73, e_z73⟩ : ∃ z : Int32, z = (u8_ 1) + Int32.ofInt 1 := ⟨_, rfl⟩
      have b_ := zadd (x := (u8_ 1)) (y := Int32.ofInt 1) rfl (show (Int32.ofInt 1).toInt = 1 from by decide) e_z73 (by omega) (by omega)
      refine lv_iinc (v := z73) (lv' := [(4, .int z73), (3, .int z71), (6, .int z56), (5, .int r25_), (0, .ref h0), (1, .ref h24), (2, .int x2)]) hx hb dX2_fits_73 hl (k := 6) rfl e_z73.symm (by decide) rfl (fun ls hl => ?_)
      refine lv_goto (tgt := 8) hx hb dX2_fits_76 (by decide) ?_
      have b_ : -2147483648 ≤ z71.toInt ∧ z71.toInt ≤ 2147483647 := ⟨zlo _, zhi _⟩
      have hc : va_P (dC, dI) vwCl [(h24, .inr (6, mX6 h25 h26 h27 h28 h29 h30 h31 h32 v24)), (h0, .inr (2, mX2 h1 h4 h11 h18 h19 h20 h21 h22 h23 v0)), (h20, zi k20 300 f20), (h30, zi k30 400 f30), (h32, zi k32 400 f32), (h23, zi k23 400 f23), (h21, zi k21 400 f21), (h18, zi k18 300 f18), (h19, zi k19 300 f19), (h22, zi k22 400 f22)] H ∧ va_D A [(h24, .inr (6, mX6 h25 h26 h27 h28 h29 h30 h31 h32 v24)), (h0, .inr (2, mX2 h1 h4 h11 h18 h19 h20 h21 h22 h23 v0)), (h20, zi k20 300 f20), (h30, zi k30 400 f30), (h32, zi k32 400 f32), (h23, zi k23 400 f23), (h21, zi k21 400 f21), (h18, zi k18 300 f18), (h19, zi k19 300 f19), (h22, zi k22 400 f22)] ∧ va_S A s.heap H locs ∧ lv_has ls 7 [(0, .ref h0), (1, .ref h24), (2, .int x2), (3, .int z71), (4, .int z73)] ∧ (0 ≤ z73.toInt ∧ z73.toInt ≤ 300) := ⟨hP, hD, hS, lv_sub hl [4, 5, 6, 1, 0] rfl, ⟨by omega, by omega⟩⟩
      exact hJ8 H locs ls (fun i => ([z71, z73] : List (Int32)).getD i 0) (fun _ => 0) (fun _ => (fun _ => 0)) (fun _ => (fun _ => 0)) hc (show (300 - z73.toInt).toNat < (300 - (u8_ 1).toInt).toNat from by omega)
  · skip
    have b_ : -2147483648 ≤ x2.toInt ∧ x2.toInt ≤ 2147483647 := ⟨zlo _, zhi _⟩
    have b_ : -2147483648 ≤ r1_.toInt ∧ r1_.toInt ≤ 2147483647 := ⟨zlo _, zhi _⟩
    have hc : va_P (dC, dI) vwCl [(h24, .inr (6, mX6 h25 h26 h27 h28 h29 h30 h31 h32 v24)), (h0, .inr (2, mX2 h1 h4 h11 h18 h19 h20 h21 h22 h23 v0)), (h20, zi k20 300 f20), (h30, zi k30 400 f30), (h32, zi k32 400 f32), (h23, zi k23 400 f23), (h21, zi k21 400 f21), (h18, zi k18 300 f18), (h19, zi k19 300 f19), (h22, zi k22 400 f22)] H ∧ va_D A [(h24, .inr (6, mX6 h25 h26 h27 h28 h29 h30 h31 h32 v24)), (h0, .inr (2, mX2 h1 h4 h11 h18 h19 h20 h21 h22 h23 v0)), (h20, zi k20 300 f20), (h30, zi k30 400 f30), (h32, zi k32 400 f32), (h23, zi k23 400 f23), (h21, zi k21 400 f21), (h18, zi k18 300 f18), (h19, zi k19 300 f19), (h22, zi k22 400 f22)] ∧ va_S A s.heap H locs ∧ lv_has ls 7 [(0, .ref h0), (1, .ref h24), (2, .int x2), (3, .int r1_), (4, .int 0)] ∧ (0 ≤ (0 : Int32).toInt ∧ (0 : Int32).toInt ≤ 300) := ⟨hP, hD, hS, lv_sub hl [2, 3, 4, 1, 0] rfl, ⟨by omega, by omega⟩⟩
    exact hJ8 H locs ls (fun i => ([r1_, 0] : List (Int32)).getD i 0) (fun _ => 0) (fun _ => (fun _ => 0)) (fun _ => (fun _ => 0)) hc
set_option maxHeartbeats 8000000 in
set_option maxRecDepth 100000 in
theorem sX2_write_0 (l : Launch) (dC : Nat → ClassId) (dI : Nat → Nat → Nat) (adK adV : Nat → Nat) (h0 : Nat) (h20 : Nat) (h23 : Nat) (h24 : Nat) (h32 : Nat) (h30 : Nat) (h29 : Nat) (h26 : Nat) (h25 : Nat) (h27 : Nat) (h28 : Nat) (h31 : Nat) (h21 : Nat) (h18 : Nat) (h19 : Nat) (h22 : Nat) (h1 : Nat) (h4 : Nat) (h11 : Nat) (k20 : ClassId) (k23 : ClassId) (k32 : ClassId) (k30 : ClassId) (k29 : ClassId) (k26 : ClassId) (k25 : ClassId) (k27 : ClassId) (k28 : ClassId) (k31 : ClassId) (k21 : ClassId) (k18 : ClassId) (k19 : ClassId) (k22 : ClassId) (sz : Nat) (v0 : Nat → Int32) (f20 : Nat → Int32) (f23 : Nat → Int32) (v24 : Nat → Int32) (f32 : Nat → Int32) (f30 : Nat → Int32) (f29 : Nat → Int32) (f26 : Nat → Int32) (f25 : Nat → Int32) (f27 : Nat → Int32) (f28 : Nat → Int32) (f31 : Nat → Int32) (f21 : Nat → Int32) (f18 : Nat → Int32) (f19 : Nat → Int32) (f22 : Nat → Int32) (x2 : Int32) (hv0 : zR rg_Intake v0) (hf20 : zA 0 399 f20) (hv24 : zR rg_Postings v24) (hf29 : zA 0 832 f29) (hf26 : zA 0 1250 f26) (hf21 : zA 0 299 f21) (hf19 : zA (-1) 299 f19) (hf22 : zA 0 299 f22) (hp0_ : zChn f21 f19 f22 f23 (v0 9).toInt) (hp1_ : zPhi f26 f29 f30 (v24 9).toInt (v24 8).toInt) : Met l yX2_write (zw yX2_write cX2_write 8 none) { frames := 5, cells := 0, slots := 0, locals := 114 } (zPc dC dI adK adV [.ref h0, .ref h24, .int x2] sz [(h0, .inr (2, mX2 h1 h4 h11 h18 h19 h20 h21 h22 h23 v0)), (h20, zi k20 300 f20), (h23, zi k23 400 f23), (h24, .inr (6, mX6 h25 h26 h27 h28 h29 h30 h31 h32 v24)), (h32, zi k32 400 f32), (h30, zi k30 400 f30), (h29, zi k29 400 f29), (h26, zi k26 833 f26), (h25, zi k25 1250 f25), (h27, zi k27 833 f27), (h28, zi k28 400 f28), (h31, zi k31 400 f31), (h21, zi k21 400 f21), (h18, zi k18 300 f18), (h19, zi k19 300 f19), (h22, zi k22 400 f22)] [(k20, .int), (k23, .int), (k32, .int), (k30, .int), (k29, .int), (k26, .int), (k25, .int), (k27, .int), (k28, .int), (k31, .int), (k21, .int), (k18, .int), (k19, .int), (k22, .int)]) (va_Qv (fun (u : Nat → Int32) => (0 ≤ (u 0).toInt ∧ (u 0).toInt ≤ 833) ∧ (0 ≤ (u 1).toInt ∧ (u 1).toInt ≤ 1250)) (fun (u : Nat → Int32) (t : State) => ∃ (ww : Nat → Int64) (aa : Nat → Nat → Int32) (bb : Nat → Nat → Int64), zA 0 832 (aa 2) ∧ zA 0 1250 (aa 3) ∧ (zPhi (aa 3) (aa 2) (aa 1) (u 1).toInt (u 0).toInt) ∧ va_P (dC, dI) vwCl [(h0, .inr (2, mX2 h1 h4 h11 h18 h19 h20 h21 h22 h23 v0)), (h20, zi k20 300 f20), (h23, zi k23 400 f23), (h24, .inr (6, mX6 h25 h26 h27 h28 h29 h30 h31 h32 (upd (upd (upd (upd v24 8 (u 0)) 9 (u 1)) 10 (u 2)) 11 (u 3)))), (h32, zi k32 400 (aa 0)), (h30, zi k30 400 (aa 1)), (h29, zi k29 400 (aa 2)), (h26, zi k26 833 (aa 3)), (h25, zi k25 1250 (aa 4)), (h27, zi k27 833 (aa 5)), (h28, zi k28 400 (aa 6)), (h31, zi k31 400 (aa 7)), (h21, zi k21 400 f21), (h18, zi k18 300 f18), (h19, zi k19 300 f19), (h22, zi k22 400 f22)] t.heap ∧ va_K (dC, dI) vwCl [(k20, .int), (k23, .int), (k32, .int), (k30, .int), (k29, .int), (k26, .int), (k25, .int), (k27, .int), (k28, .int), (k31, .int), (k21, .int), (k18, .int), (k19, .int), (k22, .int)] t ∧ va_D (va_A [(h0, .inr (2, mX2 h1 h4 h11 h18 h19 h20 h21 h22 h23 v0)), (h20, zi k20 300 f20), (h23, zi k23 400 f23), (h24, .inr (6, mX6 h25 h26 h27 h28 h29 h30 h31 h32 v24)), (h32, zi k32 400 f32), (h30, zi k30 400 f30), (h29, zi k29 400 f29), (h26, zi k26 833 f26), (h25, zi k25 1250 f25), (h27, zi k27 833 f27), (h28, zi k28 400 f28), (h31, zi k31 400 f31), (h21, zi k21 400 f21), (h18, zi k18 300 f18), (h19, zi k19 300 f19), (h22, zi k22 400 f22)] sz) [(h0, .inr (2, mX2 h1 h4 h11 h18 h19 h20 h21 h22 h23 v0)), (h20, zi k20 300 f20), (h23, zi k23 400 f23), (h24, .inr (6, mX6 h25 h26 h27 h28 h29 h30 h31 h32 (upd (upd (upd (upd v24 8 (u 0)) 9 (u 1)) 10 (u 2)) 11 (u 3)))), (h32, zi k32 400 (aa 0)), (h30, zi k30 400 (aa 1)), (h29, zi k29 400 (aa 2)), (h26, zi k26 833 (aa 3)), (h25, zi k25 1250 (aa 4)), (h27, zi k27 833 (aa 5)), (h28, zi k28 400 (aa 6)), (h31, zi k31 400 (aa 7)), (h21, zi k21 400 f21), (h18, zi k18 300 f18), (h19, zi k19 300 f19), (h22, zi k22 400 f22)]) (va_A [(h0, .inr (2, mX2 h1 h4 h11 h18 h19 h20 h21 h22 h23 v0)), (h20, zi k20 300 f20), (h23, zi k23 400 f23), (h24, .inr (6, mX6 h25 h26 h27 h28 h29 h30 h31 h32 v24)), (h32, zi k32 400 f32), (h30, zi k30 400 f30), (h29, zi k29 400 f29), (h26, zi k26 833 f26), (h25, zi k25 1250 f25), (h27, zi k27 833 f27), (h28, zi k28 400 f28), (h31, zi k31 400 f31), (h21, zi k21 400 f21), (h18, zi k18 300 f18), (h19, zi k19 300 f19), (h22, zi k22 400 f22)] sz)) 0 0 (va_A [(h0, .inr (2, mX2 h1 h4 h11 h18 h19 h20 h21 h22 h23 v0)), (h20, zi k20 300 f20), (h23, zi k23 400 f23), (h24, .inr (6, mX6 h25 h26 h27 h28 h29 h30 h31 h32 v24)), (h32, zi k32 400 f32), (h30, zi k30 400 f30), (h29, zi k29 400 f29), (h26, zi k26 833 f26), (h25, zi k25 1250 f25), (h27, zi k27 833 f27), (h28, zi k28 400 f28), (h31, zi k31 400 f31), (h21, zi k21 400 f21), (h18, zi k18 300 f18), (h19, zi k19 300 f19), (h22, zi k22 400 f22)] sz) := by
  refine Met.ofW (cc := cX2_write) (maxL := 8) (ret := none) (by decide) rfl ?_
  intro p e s m args below meth c s₁ B hml hv
  obtain ⟨rfl, hsz, hP, hK, hD0, hE, hZ⟩ := hv
  have hx := B.exec
  have hb := B.bytes
  have hr := B.returns
  have hG : ∀ w ∈ zG, w.before _ s = true := fun w h => atoms_spec (ws := (zw yX2_write cX2_write 8 none)) B.pre w (List.mem_cons_of_mem _ h)
  have hown : s.vm.findClass RX2 = some m.cls := findClass_of_methodNamed B.named
  have hlocks := B.notSynchronized

  subst hsz
  have hD := hD0.self (sz := s.heap.size)
  generalize hAe : va_A [(h0, .inr (2, mX2 h1 h4 h11 h18 h19 h20 h21 h22 h23 v0)), (h20, zi k20 300 f20), (h23, zi k23 400 f23), (h24, .inr (6, mX6 h25 h26 h27 h28 h29 h30 h31 h32 v24)), (h32, zi k32 400 f32), (h30, zi k30 400 f30), (h29, zi k29 400 f29), (h26, zi k26 833 f26), (h25, zi k25 1250 f25), (h27, zi k27 833 f27), (h28, zi k28 400 f28), (h31, zi k31 400 f31), (h21, zi k21 400 f21), (h18, zi k18 300 f18), (h19, zi k19 300 f19), (h22, zi k22 400 f22)] s.heap.size = A at hD hZ ⊢
  have hA : ∀ q : Nat, s.heap.size ≤ q → A q := fun q h => by rw [← hAe]; exact Or.inr h
  have hS : va_S A s.heap s.heap [] := va_S.rf
  have hl := lv_entry ([.ref h0, .ref h24, .int x2]) (n := 8) (Nat.le_of_ble_eq_true rfl)
  rw [lg_entry_eq]
  generalize (lg_sl ([.ref h0, .ref h24, .int x2]) ++ List.replicate (8 - (lg_sl ([.ref h0, .ref h24, .int x2])).length) Slot.unset).toArray = ls at hl ⊢
  have hl : lv_has ls 8 [(0, .ref h0), (1, .ref h24), (2, .int x2)] := hl
  have b_ := zk_0
  have b_ : 0 ≤ (v0 9).toInt ∧ (v0 9).toInt ≤ 300 := hv0 9
  have b_ : 0 ≤ (v24 9).toInt ∧ (v24 9).toInt ≤ 1250 := hv24 9
  have b_ : 0 ≤ (v24 8).toInt ∧ (v24 8).toInt ≤ 833 := hv24 8
  refine lv_iconst (v := 0) hx hb dX2_write_0 (by decide) ?_
  refine lv_istore_n (lv' := [(3, .int 0), (0, .ref h0), (1, .ref h24), (2, .int x2)]) hx hb dX2_write_1 rfl hl (by decide) rfl (fun ls hl => ?_)
  refine zcutL (fun u2_ => (300 - (u2_ 0).toInt).toNat) (fun H locs ls u2_ w2_ a2_ b2_ => va_P (dC, dI) vwCl [(h0, .inr (2, mX2 h1 h4 h11 h18 h19 h20 h21 h22 h23 v0)), (h20, zi k20 300 f20), (h23, zi k23 400 f23), (h24, .inr (6, mX6 h25 h26 h27 h28 h29 h30 h31 h32 (upd (upd (upd (upd v24 8 (u2_ 1)) 9 (u2_ 2)) 10 (u2_ 3)) 11 (u2_ 4)))), (h32, zi k32 400 (a2_ 7)), (h30, zi k30 400 (a2_ 5)), (h29, zi k29 400 (a2_ 4)), (h26, zi k26 833 (a2_ 1)), (h25, zi k25 1250 (a2_ 0)), (h27, zi k27 833 (a2_ 2)), (h28, zi k28 400 (a2_ 3)), (h31, zi k31 400 (a2_ 6)), (h21, zi k21 400 f21), (h18, zi k18 300 f18), (h19, zi k19 300 f19), (h22, zi k22 400 f22)] H ∧ va_D A [(h0, .inr (2, mX2 h1 h4 h11 h18 h19 h20 h21 h22 h23 v0)), (h20, zi k20 300 f20), (h23, zi k23 400 f23), (h24, .inr (6, mX6 h25 h26 h27 h28 h29 h30 h31 h32 (upd (upd (upd (upd v24 8 (u2_ 1)) 9 (u2_ 2)) 10 (u2_ 3)) 11 (u2_ 4)))), (h32, zi k32 400 (a2_ 7)), (h30, zi k30 400 (a2_ 5)), (h29, zi k29 400 (a2_ 4)), (h26, zi k26 833 (a2_ 1)), (h25, zi k25 1250 (a2_ 0)), (h27, zi k27 833 (a2_ 2)), (h28, zi k28 400 (a2_ 3)), (h31, zi k31 400 (a2_ 6)), (h21, zi k21 400 f21), (h18, zi k18 300 f18), (h19, zi k19 300 f19), (h22, zi k22 400 f22)] ∧ va_S A s.heap H locs ∧ lv_has ls 8 [(0, .ref h0), (1, .ref h24), (2, .int x2), (3, .int (u2_ 0))] ∧ zA 0 1250 (a2_ 1) ∧ zA 0 832 (a2_ 4) ∧ (0 ≤ (u2_ 0).toInt ∧ (u2_ 0).toInt ≤ 300) ∧ (0 ≤ (u2_ 1).toInt ∧ (u2_ 1).toInt ≤ 833) ∧ (0 ≤ (u2_ 2).toInt ∧ (u2_ 2).toInt ≤ 1250) ∧ (zPhi (a2_ 1) (a2_ 4) (a2_ 5) (u2_ 2).toInt (u2_ 1).toInt)) (fun ls u2_ w2_ => F0 m 2 ls []) 0 0 ?_ (fun hJ2 => ?_)
  · skip
    intro H locs ls u2_ w2_ a2_ b2_ hc hJ2
    obtain ⟨hP, hD, hS, hl, ha2_1, ha2_4, b_, b_, b_, hI2_0⟩ := hc
    refine lv_iload_n hx hb dX2_write_2 rfl (lv_at hl 3 rfl) ?_
    refine lv_aload_n hx hb dX2_write_3 rfl (lv_at hl 0 rfl) ?_
    have b_ : 0 ≤ (v0 10).toInt ∧ (v0 10).toInt ≤ 300 := hv0 10
    refine va_get (D := (dC, dI)) (ci := 2) (v := .int (v0 10)) (C := RX2) (T := TX2) (N := 11) hx hb hG zuX2 hown hK hP 0 rfl rfl 10 (by decide) (hG _ zv335) (fun _ h9 => h9) rfl dX2_write_4 ?_
    refine lv_icmp_ge (tgt := 105) hx hb dX2_write_7 (by decide) (fun c_ => ?_) (fun c_ => ?_)
    · skip
      have b_ := zT_ge rfl rfl c_
      refine W.widen (k := 0) (n := 0) (by decide) (by decide) ?_
      have b_ : -2147483648 ≤ (u2_ 3).toInt ∧ (u2_ 3).toInt ≤ 2147483647 := ⟨zlo _, zhi _⟩
      have b_ : -2147483648 ≤ (u2_ 4).toInt ∧ (u2_ 4).toInt ≤ 2147483647 := ⟨zlo _, zhi _⟩
      have hpost : (0 ≤ (u2_ 1).toInt ∧ (u2_ 1).toInt ≤ 833) ∧ (0 ≤ (u2_ 2).toInt ∧ (u2_ 2).toInt ≤ 1250) := ⟨⟨by omega, by omega⟩, ⟨by omega, by omega⟩⟩
      have hP9 : va_P (dC, dI) vwCl [(h0, .inr (2, mX2 h1 h4 h11 h18 h19 h20 h21 h22 h23 v0)), (h20, zi k20 300 f20), (h23, zi k23 400 f23), (h24, .inr (6, mX6 h25 h26 h27 h28 h29 h30 h31 h32 (upd (upd (upd (upd v24 8 (u2_ 1)) 9 (u2_ 2)) 10 (u2_ 3)) 11 (u2_ 4)))), (h32, zi k32 400 (a2_ 7)), (h30, zi k30 400 (a2_ 5)), (h29, zi k29 400 (a2_ 4)), (h26, zi k26 833 (a2_ 1)), (h25, zi k25 1250 (a2_ 0)), (h27, zi k27 833 (a2_ 2)), (h28, zi k28 400 (a2_ 3)), (h31, zi k31 400 (a2_ 6)), (h21, zi k21 400 f21), (h18, zi k18 300 f18), (h19, zi k19 300 f19), (h22, zi k22 400 f22)] H := hP
      have hD9 : va_D A [(h0, .inr (2, mX2 h1 h4 h11 h18 h19 h20 h21 h22 h23 v0)), (h20, zi k20 300 f20), (h23, zi k23 400 f23), (h24, .inr (6, mX6 h25 h26 h27 h28 h29 h30 h31 h32 (upd (upd (upd (upd v24 8 (u2_ 1)) 9 (u2_ 2)) 10 (u2_ 3)) 11 (u2_ 4)))), (h32, zi k32 400 (a2_ 7)), (h30, zi k30 400 (a2_ 5)), (h29, zi k29 400 (a2_ 4)), (h26, zi k26 833 (a2_ 1)), (h25, zi k25 1250 (a2_ 0)), (h27, zi k27 833 (a2_ 2)), (h28, zi k28 400 (a2_ 3)), (h31, zi k31 400 (a2_ 6)), (h21, zi k21 400 f21), (h18, zi k18 300 f18), (h19, zi k19 300 f19), (h22, zi k22 400 f22)] := hD
      have hB0 : zPhi (a2_ 1) (a2_ 4) (a2_ 5) (u2_ 2).toInt (u2_ 1).toInt := by assumption
      exact W.vret hx hb hr (fun t ht hW => ⟨⟨(fun i => ([(u2_ 1), (u2_ 2), (u2_ 3), (u2_ 4)] : List (Int32)).getD i 0), rfl, hpost, (fun _ => 0), (fun i => ([(a2_ 7), (a2_ 5), (a2_ 4), (a2_ 1), (a2_ 0), (a2_ 2), (a2_ 3), (a2_ 6)] : List (Nat → Int32)).getD i (fun _ => 0)), (fun _ => (fun _ => 0)), ha2_4, ha2_1, hB0, by rw [ht]; exact hP9, va_K.moved hW.alike hK, hD9⟩, hS.F ht⟩) hS.2.2 dX2_write_105
    · skip
      have b_ := zF_ge rfl rfl c_
      refine lv_aload_n hx hb dX2_write_10 rfl (lv_at hl 0 rfl) ?_
      refine va_get (D := (dC, dI)) (ci := 2) (v := .ref h20) (C := RX2) (T := TX2) (N := 11) hx hb hG zuX2 hown hK hP 0 rfl rfl 5 (by decide) (hG _ zv330) (fun _ h9 => h9) rfl dX2_write_11 ?_
      refine lv_iload_n hx hb dX2_write_14 rfl (lv_at hl 3 rfl) ?_
      refine va_iald hx hb hK hP 1 0 rfl rfl (zin_lit ⟨by omega, by omega⟩) dX2_write_15 ?_
      refine lv_topi (fun z15 e_z15 => ?_)
      have b_ : 0 ≤ z15.toInt ∧ z15.toInt ≤ 399 := by rw [e_z15]; exact hf20 _
      refine lv_istore (lv' := [(4, .int z15), (0, .ref h0), (1, .ref h24), (2, .int x2), (3, .int (u2_ 0))]) hx hb dX2_write_16 hl (by decide) rfl (fun ls hl => ?_)
      obtain ⟨own9, hc9⟩ := id hp0_
      obtain ⟨hn0, hn1, path, hpa, -, hpf⟩ := hc9 (z15 : Int32).toNatClampNeg (by have q : (z15 : Int32).toNatClampNeg = z15.toInt.toNat := rfl; omega)
      refine lv_aload_n hx hb dX2_write_18 rfl (lv_at hl 2 rfl) ?_
      refine lv_iload hx hb dX2_write_19 (lv_at hl 0 rfl) ?_
      refine lv_iload_n hx hb dX2_write_21 rfl (lv_at hl 3 rfl) ?_
      refine lv_aload_n hx hb dX2_write_22 rfl (lv_at hl 1 rfl) ?_
      refine va_get (D := (dC, dI)) (ci := 2) (v := .ref h23) (C := RX2) (T := TX2) (N := 11) hx hb hG zuX2 hown hK hP 0 rfl rfl 8 (by decide) (hG _ zv333) (fun _ h9 => h9) rfl dX2_write_23 ?_
      refine lv_iload hx hb dX2_write_26 (lv_at hl 0 rfl) ?_
      refine va_iald hx hb hK hP 2 1 rfl rfl (zin_lit ⟨by omega, by omega⟩) dX2_write_28 ?_
      refine lv_topi (fun z28 e_z28 => ?_)
      have b_ : -2147483648 ≤ (u2_ 3).toInt ∧ (u2_ 3).toInt ≤ 2147483647 := ⟨zlo _, zhi _⟩
      have b_ : -2147483648 ≤ (u2_ 4).toInt ∧ (u2_ 4).toInt ≤ 2147483647 := ⟨zlo _, zhi _⟩
      have hPc := hP.sub (ws' := [(h24, .inr (6, mX6 h25 h26 h27 h28 h29 h30 h31 h32 (upd (upd (upd (upd v24 8 (u2_ 1)) 9 (u2_ 2)) 10 (u2_ 3)) 11 (u2_ 4)))), (h32, zi k32 400 (a2_ 7)), (h30, zi k30 400 (a2_ 5)), (h29, zi k29 400 (a2_ 4)), (h26, zi k26 833 (a2_ 1)), (h25, zi k25 1250 (a2_ 0)), (h27, zi k27 833 (a2_ 2)), (h28, zi k28 400 (a2_ 3)), (h31, zi k31 400 (a2_ 6))]) [3, 4, 5, 6, 7, 8, 9, 10, 11] rfl
      have hDc := hD.sub (ws' := [(h24, .inr (6, mX6 h25 h26 h27 h28 h29 h30 h31 h32 (upd (upd (upd (upd v24 8 (u2_ 1)) 9 (u2_ 2)) 10 (u2_ 3)) 11 (u2_ 4)))), (h32, zi k32 400 (a2_ 7)), (h30, zi k30 400 (a2_ 5)), (h29, zi k29 400 (a2_ 4)), (h26, zi k26 833 (a2_ 1)), (h25, zi k25 1250 (a2_ 0)), (h27, zi k27 833 (a2_ 2)), (h28, zi k28 400 (a2_ 3)), (h31, zi k31 400 (a2_ 6))]) [3, 4, 5, 6, 7, 8, 9, 10, 11] (by decide) rfl
      have hKc := hK.sub (tys' := [(k32, .int), (k30, .int), (k29, .int), (k26, .int), (k25, .int), (k27, .int), (k28, .int), (k31, .int)]) [2, 3, 4, 5, 6, 7, 8, 9] rfl
      have hFc := va_free (wc := [(h24, .inr (6, mX6 h25 h26 h27 h28 h29 h30 h31 h32 (upd (upd (upd (upd v24 8 (u2_ 1)) 9 (u2_ 2)) 10 (u2_ 3)) 11 (u2_ 4)))), (h32, zi k32 400 (a2_ 7)), (h30, zi k30 400 (a2_ 5)), (h29, zi k29 400 (a2_ 4)), (h26, zi k26 833 (a2_ 1)), (h25, zi k25 1250 (a2_ 0)), (h27, zi k27 833 (a2_ 2)), (h28, zi k28 400 (a2_ 3)), (h31, zi k31 400 (a2_ 6))]) hD hS hA [3, 4, 5, 6, 7, 8, 9, 10, 11] rfl
      refine va_callv (va_runV (As := [.int z15, .int x2, .int z28]) (rest := []) ⟨hx, hb, hml, hown, hG⟩ (sX6_startDocument_0 l dC dI adK adV h24 h32 h30 h29 h26 h25 h27 h28 h31 k32 k30 k29 k26 k25 k27 k28 k31 H.size (upd (upd (upd (upd v24 8 (u2_ 1)) 9 (u2_ 2)) 10 (u2_ 3)) 11 (u2_ 4)) (a2_ 7) (a2_ 5) (a2_ 4) (a2_ 1) (a2_ 0) (a2_ 2) (a2_ 3) (a2_ 6) z15 x2 z28 (zR_updF (zR_updF (zR_upd (zR_upd hv24 8 (show (0 : Int) ≤ ((u2_ 1) : Int32).toInt from by omega) (show ((u2_ 1) : Int32).toInt ≤ (833 : Int) from by omega)) 9 (show (0 : Int) ≤ ((u2_ 2) : Int32).toInt from by omega) (show ((u2_ 2) : Int32).toInt ≤ (1250 : Int) from by omega)) 10 rfl) 11 rfl) ha2_4 ha2_1 (show zPhi (a2_ 1) (a2_ 4) (a2_ 5) (u2_ 2).toInt (u2_ 1).toInt from by assumption)) (cwV 3 hG (zgV zv830 zv831 zv832 zv133 zv833) rfl rfl rfl (by decide +kernel) ⟨Nat.le_of_ble_eq_true rfl, Nat.le_of_ble_eq_true rfl⟩) ⟨zPc_blind, va_recv hKc hPc (ci := 6) (q0 := 0) rfl rfl, zPc_pre hPc hKc hDc hE hS hFc hZ⟩ rfl rfl hl.1 rfl (lv_room (Nat.le_of_ble_eq_true rfl)) dX2_write_29 ⟨Nat.le_of_ble_eq_true rfl, Nat.le_of_ble_eq_true rfl⟩) hS (fun q _ h => hFc q h) hFc (fun u29_ t H1 locs ht hvm hw hB hz1 hk1 hS => ?_)
      have hw : (0 ≤ (u29_ 0).toInt ∧ (u29_ 0).toInt ≤ 833) ∧ (0 ≤ (u29_ 1).toInt ∧ (u29_ 1).toInt ≤ 1250) := hw
      obtain ⟨b_, b_⟩ := hw
      obtain ⟨w29_, a29_, b29_, ha29_2, ha29_3, hB29_0, hP1, hK1, hD1⟩ := hB
      have hB29_0 : zPhi (a29_ 3) (a29_ 2) (a29_ 1) (u29_ 1).toInt (u29_ 0).toInt := hB29_0
      rw [ht] at hP1
      obtain ⟨hP, hD⟩ := va_join (wr := [(h0, .inr (2, mX2 h1 h4 h11 h18 h19 h20 h21 h22 h23 v0)), (h20, zi k20 300 f20), (h23, zi k23 400 f23), (h21, zi k21 400 f21), (h18, zi k18 300 f18), (h19, zi k19 300 f19), (h22, zi k22 400 f22)]) (w1 := [(h24, .inr (6, mX6 h25 h26 h27 h28 h29 h30 h31 h32 (upd (upd (upd (upd v24 8 (u29_ 0)) 9 (u29_ 1)) 10 (u29_ 2)) 11 (u29_ 3)))), (h32, zi k32 400 (a29_ 0)), (h30, zi k30 400 (a29_ 1)), (h29, zi k29 400 (a29_ 2)), (h26, zi k26 833 (a29_ 3)), (h25, zi k25 1250 (a29_ 4)), (h27, zi k27 833 (a29_ 5)), (h28, zi k28 400 (a29_ 6)), (h31, zi k31 400 (a29_ 7))]) hP hD [3, 4, 5, 6, 7, 8, 9, 10, 11] [0, 1, 2, 12, 13, 14, 15] rfl rfl (by decide) (by decide) hk1 hFc hP1 hD1
      have hP : va_P (dC, dI) vwCl [(h0, .inr (2, mX2 h1 h4 h11 h18 h19 h20 h21 h22 h23 v0)), (h20, zi k20 300 f20), (h23, zi k23 400 f23), (h24, .inr (6, mX6 h25 h26 h27 h28 h29 h30 h31 h32 (upd (upd (upd (upd v24 8 (u29_ 0)) 9 (u29_ 1)) 10 (u29_ 2)) 11 (u29_ 3)))), (h32, zi k32 400 (a29_ 0)), (h30, zi k30 400 (a29_ 1)), (h29, zi k29 400 (a29_ 2)), (h26, zi k26 833 (a29_ 3)), (h25, zi k25 1250 (a29_ 4)), (h27, zi k27 833 (a29_ 5)), (h28, zi k28 400 (a29_ 6)), (h31, zi k31 400 (a29_ 7)), (h21, zi k21 400 f21), (h18, zi k18 300 f18), (h19, zi k19 300 f19), (h22, zi k22 400 f22)] H1 := hP.sub [0, 1, 2, 7, 8, 9, 10, 11, 12, 13, 14, 15, 3, 4, 5, 6] rfl
      have hD : va_D A [(h0, .inr (2, mX2 h1 h4 h11 h18 h19 h20 h21 h22 h23 v0)), (h20, zi k20 300 f20), (h23, zi k23 400 f23), (h24, .inr (6, mX6 h25 h26 h27 h28 h29 h30 h31 h32 (upd (upd (upd (upd v24 8 (u29_ 0)) 9 (u29_ 1)) 10 (u29_ 2)) 11 (u29_ 3)))), (h32, zi k32 400 (a29_ 0)), (h30, zi k30 400 (a29_ 1)), (h29, zi k29 400 (a29_ 2)), (h26, zi k26 833 (a29_ 3)), (h25, zi k25 1250 (a29_ 4)), (h27, zi k27 833 (a29_ 5)), (h28, zi k28 400 (a29_ 6)), (h31, zi k31 400 (a29_ 7)), (h21, zi k21 400 f21), (h18, zi k18 300 f18), (h19, zi k19 300 f19), (h22, zi k22 400 f22)] := hD.sub [0, 1, 2, 7, 8, 9, 10, 11, 12, 13, 14, 15, 3, 4, 5, 6] (by decide) rfl
      generalize H1 = H at hP hS ⊢
      clear hz1
      refine lv_iconst (v := (-1)) hx hb dX2_write_32 (by decide) ?_
      refine lv_istore (lv' := [(5, .int (-1)), (4, .int z15), (0, .ref h0), (1, .ref h24), (2, .int x2), (3, .int (u2_ 0))]) hx hb dX2_write_33 hl (by decide) rfl (fun ls hl => ?_)
      refine lv_aload_n hx hb dX2_write_35 rfl (lv_at hl 2 rfl) ?_
      refine va_get (D := (dC, dI)) (ci := 2) (v := .ref h21) (C := RX2) (T := TX2) (N := 11) hx hb hG zuX2 hown hK hP 0 rfl rfl 6 (by decide) (hG _ zv331) (fun _ h9 => h9) rfl dX2_write_36 ?_
      refine lv_iload hx hb dX2_write_39 (lv_at hl 1 rfl) ?_
      refine va_iald hx hb hK hP 12 10 rfl rfl (zin_lit ⟨by omega, by omega⟩) dX2_write_41 ?_
      refine lv_topi (fun z41 e_z41 => ?_)
      have b_ : 0 ≤ z41.toInt ∧ z41.toInt ≤ 299 := by rw [e_z41]; exact hf21 _
      refine lv_istore (lv' := [(6, .int z41), (5, .int (-1)), (4, .int z15), (0, .ref h0), (1, .ref h24), (2, .int x2), (3, .int (u2_ 0))]) hx hb dX2_write_42 hl (by decide) rfl (fun ls hl => ?_)
      refine lv_iconst (v := 0) hx hb dX2_write_44 (by decide) ?_
      refine lv_istore (lv' := [(7, .int 0), (6, .int z41), (5, .int (-1)), (4, .int z15), (0, .ref h0), (1, .ref h24), (2, .int x2), (3, .int (u2_ 0))]) hx hb dX2_write_45 hl (by decide) rfl (fun ls hl => ?_)
      refine zcutL (fun u47_ => (300 - (u47_ 2).toInt).toNat) (fun H locs ls u47_ w47_ a47_ b47_ => va_P (dC, dI) vwCl [(h0, .inr (2, mX2 h1 h4 h11 h18 h19 h20 h21 h22 h23 v0)), (h20, zi k20 300 f20), (h23, zi k23 400 f23), (h24, .inr (6, mX6 h25 h26 h27 h28 h29 h30 h31 h32 (upd (upd (upd (upd v24 8 (u47_ 3)) 9 (u47_ 4)) 10 (u47_ 5)) 11 (u47_ 6)))), (h32, zi k32 400 (a29_ 0)), (h30, zi k30 400 (a47_ 5)), (h29, zi k29 400 (a47_ 4)), (h26, zi k26 833 (a47_ 1)), (h25, zi k25 1250 (a47_ 0)), (h27, zi k27 833 (a47_ 2)), (h28, zi k28 400 (a47_ 3)), (h31, zi k31 400 (a29_ 7)), (h21, zi k21 400 f21), (h18, zi k18 300 f18), (h19, zi k19 300 f19), (h22, zi k22 400 f22)] H ∧ va_D A [(h0, .inr (2, mX2 h1 h4 h11 h18 h19 h20 h21 h22 h23 v0)), (h20, zi k20 300 f20), (h23, zi k23 400 f23), (h24, .inr (6, mX6 h25 h26 h27 h28 h29 h30 h31 h32 (upd (upd (upd (upd v24 8 (u47_ 3)) 9 (u47_ 4)) 10 (u47_ 5)) 11 (u47_ 6)))), (h32, zi k32 400 (a29_ 0)), (h30, zi k30 400 (a47_ 5)), (h29, zi k29 400 (a47_ 4)), (h26, zi k26 833 (a47_ 1)), (h25, zi k25 1250 (a47_ 0)), (h27, zi k27 833 (a47_ 2)), (h28, zi k28 400 (a47_ 3)), (h31, zi k31 400 (a29_ 7)), (h21, zi k21 400 f21), (h18, zi k18 300 f18), (h19, zi k19 300 f19), (h22, zi k22 400 f22)] ∧ va_S A s.heap H locs ∧ lv_has ls 8 [(0, .ref h0), (1, .ref h24), (2, .int x2), (3, .int (u2_ 0)), (4, .int z15), (5, .int (u47_ 0)), (6, .int (u47_ 1)), (7, .int (u47_ 2))] ∧ zA 0 1250 (a47_ 1) ∧ zA 0 832 (a47_ 4) ∧ ((-1) ≤ (u47_ 1).toInt ∧ (u47_ 1).toInt ≤ 299) ∧ (0 ≤ (u47_ 2).toInt ∧ (u47_ 2).toInt ≤ 300) ∧ (0 ≤ (u47_ 3).toInt ∧ (u47_ 3).toInt ≤ 833) ∧ (0 ≤ (u47_ 4).toInt ∧ (u47_ 4).toInt ≤ 1250) ∧ ((u47_ 2).toInt < (f23 (z15 : Int32).toNatClampNeg).toInt → (u47_ 1).toInt = (path ((u47_ 2).toInt).toNat : Int)) ∧ (zPhi (a47_ 1) (a47_ 4) (a47_ 5) (u47_ 4).toInt (u47_ 3).toInt)) (fun ls u47_ w47_ => F0 m 47 ls []) 0 0 ?_ (fun hJ47 => ?_)
      · skip
        intro H locs ls u47_ w47_ a47_ b47_ hc hJ47
        obtain ⟨hP, hD, hS, hl, ha47_1, ha47_4, b_, b_, b_, b_, hI47_0, hI47_1⟩ := hc
        refine lv_iload hx hb dX2_write_47 (lv_at hl 7 rfl) ?_
        refine lv_aload_n hx hb dX2_write_49 rfl (lv_at hl 0 rfl) ?_
        refine va_get (D := (dC, dI)) (ci := 2) (v := .ref h23) (C := RX2) (T := TX2) (N := 11) hx hb hG zuX2 hown hK hP 0 rfl rfl 8 (by decide) (hG _ zv333) (fun _ h9 => h9) rfl dX2_write_50 ?_
        refine lv_iload hx hb dX2_write_53 (lv_at hl 4 rfl) ?_
        refine va_iald hx hb hK hP 2 1 rfl rfl (zin_lit ⟨by omega, by omega⟩) dX2_write_55 ?_
        refine lv_topi (fun z55 e_z55 => ?_)
        have b_ : -2147483648 ≤ z55.toInt ∧ z55.toInt ≤ 2147483647 := ⟨zlo _, zhi _⟩
        refine lv_icmp_ge (tgt := 99) hx hb dX2_write_56 (by decide) (fun c_ => ?_) (fun c_ => ?_)
        · skip
          have b_ := zT_ge rfl rfl c_
          obtain ⟨z99, e_z99⟩ : ∃ z : Int32, z = (u2_ 0) + Int32.ofInt 1 := ⟨_, rfl⟩
          have b_ := zadd (x := (u2_ 0)) (y := Int32.ofInt 1) rfl (show (Int32.ofInt 1).toInt = 1 from by decide) e_z99 (by omega) (by omega)
          refine lv_iinc (v := z99) (lv' := [(3, .int z99), (0, .ref h0), (1, .ref h24), (2, .int x2), (4, .int z15), (5, .int (u47_ 0)), (6, .int (u47_ 1)), (7, .int (u47_ 2))]) hx hb dX2_write_99 hl (k := 3) rfl e_z99.symm (by decide) rfl (fun ls hl => ?_)
          refine lv_goto (tgt := 2) hx hb dX2_write_102 (by decide) ?_
          have b_ : -2147483648 ≤ x2.toInt ∧ x2.toInt ≤ 2147483647 := ⟨zlo _, zhi _⟩
          have hc : va_P (dC, dI) vwCl [(h0, .inr (2, mX2 h1 h4 h11 h18 h19 h20 h21 h22 h23 v0)), (h20, zi k20 300 f20), (h23, zi k23 400 f23), (h24, .inr (6, mX6 h25 h26 h27 h28 h29 h30 h31 h32 (upd (upd (upd (upd v24 8 (u47_ 3)) 9 (u47_ 4)) 10 (u47_ 5)) 11 (u47_ 6)))), (h32, zi k32 400 (a29_ 0)), (h30, zi k30 400 (a47_ 5)), (h29, zi k29 400 (a47_ 4)), (h26, zi k26 833 (a47_ 1)), (h25, zi k25 1250 (a47_ 0)), (h27, zi k27 833 (a47_ 2)), (h28, zi k28 400 (a47_ 3)), (h31, zi k31 400 (a29_ 7)), (h21, zi k21 400 f21), (h18, zi k18 300 f18), (h19, zi k19 300 f19), (h22, zi k22 400 f22)] H ∧ va_D A [(h0, .inr (2, mX2 h1 h4 h11 h18 h19 h20 h21 h22 h23 v0)), (h20, zi k20 300 f20), (h23, zi k23 400 f23), (h24, .inr (6, mX6 h25 h26 h27 h28 h29 h30 h31 h32 (upd (upd (upd (upd v24 8 (u47_ 3)) 9 (u47_ 4)) 10 (u47_ 5)) 11 (u47_ 6)))), (h32, zi k32 400 (a29_ 0)), (h30, zi k30 400 (a47_ 5)), (h29, zi k29 400 (a47_ 4)), (h26, zi k26 833 (a47_ 1)), (h25, zi k25 1250 (a47_ 0)), (h27, zi k27 833 (a47_ 2)), (h28, zi k28 400 (a47_ 3)), (h31, zi k31 400 (a29_ 7)), (h21, zi k21 400 f21), (h18, zi k18 300 f18), (h19, zi k19 300 f19), (h22, zi k22 400 f22)] ∧ va_S A s.heap H locs ∧ lv_has ls 8 [(0, .ref h0), (1, .ref h24), (2, .int x2), (3, .int z99)] ∧ zA 0 1250 (a47_ 1) ∧ zA 0 832 (a47_ 4) ∧ (0 ≤ z99.toInt ∧ z99.toInt ≤ 300) ∧ (0 ≤ (u47_ 3).toInt ∧ (u47_ 3).toInt ≤ 833) ∧ (0 ≤ (u47_ 4).toInt ∧ (u47_ 4).toInt ≤ 1250) ∧ (zPhi (a47_ 1) (a47_ 4) (a47_ 5) (u47_ 4).toInt (u47_ 3).toInt) := ⟨hP, hD, hS, lv_sub hl [1, 2, 3, 0] rfl, ha47_1, ha47_4, ⟨by omega, by omega⟩, ⟨by omega, by omega⟩, ⟨by omega, by omega⟩, by assumption⟩
          exact hJ2 H locs ls (fun i => ([z99, (u47_ 3), (u47_ 4), (u47_ 5), (u47_ 6)] : List (Int32)).getD i 0) (fun _ => 0) (fun i => ([(a47_ 0), (a47_ 1), (a47_ 2), (a47_ 3), (a47_ 4), (a47_ 5), (a29_ 7), (a29_ 0)] : List (Nat → Int32)).getD i (fun _ => 0)) (fun _ => (fun _ => 0)) hc (show (300 - z99.toInt).toNat < (300 - (u2_ 0).toInt).toNat from by omega)
        · skip
          have b_ := zF_ge rfl rfl c_
          have b55 : z55.toInt = (f23 (z15 : Int32).toNatClampNeg).toInt := by rw [e_z55]
          have b_ : 0 ≤ (u47_ 1).toInt ∧ (u47_ 1).toInt ≤ 299 := by have q := hI47_0 (by omega); have q2 := (hpa ((u47_ 2).toInt).toNat (by omega)).1; omega
          refine lv_aload_n hx hb dX2_write_59 rfl (lv_at hl 1 rfl) ?_
          refine lv_iload hx hb dX2_write_60 (lv_at hl 4 rfl) ?_
          refine lv_aload_n hx hb dX2_write_62 rfl (lv_at hl 0 rfl) ?_
          refine va_get (D := (dC, dI)) (ci := 2) (v := .ref h18) (C := RX2) (T := TX2) (N := 11) hx hb hG zuX2 hown hK hP 0 rfl rfl 3 (by decide) (hG _ zv328) (fun _ h9 => h9) rfl dX2_write_63 ?_
          refine lv_iload hx hb dX2_write_66 (lv_at hl 6 rfl) ?_
          refine va_iald hx hb hK hP 13 11 rfl rfl (zin_lit ⟨by omega, by omega⟩) dX2_write_68 ?_
          refine lv_topi (fun z68 e_z68 => ?_)
          refine lv_iload hx hb dX2_write_69 (lv_at hl 5 rfl) ?_
          have b_ : -2147483648 ≤ z68.toInt ∧ z68.toInt ≤ 2147483647 := ⟨zlo _, zhi _⟩
          have b_ : -2147483648 ≤ (u47_ 0).toInt ∧ (u47_ 0).toInt ≤ 2147483647 := ⟨zlo _, zhi _⟩
          refine lv_isub hx hb dX2_write_71 ?_
          refine lv_topi (fun z71 e_z71 => ?_)
          have b_ : -2147483648 ≤ (u47_ 5).toInt ∧ (u47_ 5).toInt ≤ 2147483647 := ⟨zlo _, zhi _⟩
          have b_ : -2147483648 ≤ (u47_ 6).toInt ∧ (u47_ 6).toInt ≤ 2147483647 := ⟨zlo _, zhi _⟩
          have hPc := hP.sub (ws' := [(h24, .inr (6, mX6 h25 h26 h27 h28 h29 h30 h31 h32 (upd (upd (upd (upd v24 8 (u47_ 3)) 9 (u47_ 4)) 10 (u47_ 5)) 11 (u47_ 6)))), (h30, zi k30 400 (a47_ 5)), (h29, zi k29 400 (a47_ 4)), (h26, zi k26 833 (a47_ 1)), (h25, zi k25 1250 (a47_ 0)), (h27, zi k27 833 (a47_ 2)), (h28, zi k28 400 (a47_ 3))]) [3, 5, 6, 7, 8, 9, 10] rfl
          have hDc := hD.sub (ws' := [(h24, .inr (6, mX6 h25 h26 h27 h28 h29 h30 h31 h32 (upd (upd (upd (upd v24 8 (u47_ 3)) 9 (u47_ 4)) 10 (u47_ 5)) 11 (u47_ 6)))), (h30, zi k30 400 (a47_ 5)), (h29, zi k29 400 (a47_ 4)), (h26, zi k26 833 (a47_ 1)), (h25, zi k25 1250 (a47_ 0)), (h27, zi k27 833 (a47_ 2)), (h28, zi k28 400 (a47_ 3))]) [3, 5, 6, 7, 8, 9, 10] (by decide) rfl
          have hKc := hK.sub (tys' := [(k30, .int), (k29, .int), (k26, .int), (k25, .int), (k27, .int), (k28, .int)]) [3, 4, 5, 6, 7, 8] rfl
          have hFc := va_free (wc := [(h24, .inr (6, mX6 h25 h26 h27 h28 h29 h30 h31 h32 (upd (upd (upd (upd v24 8 (u47_ 3)) 9 (u47_ 4)) 10 (u47_ 5)) 11 (u47_ 6)))), (h30, zi k30 400 (a47_ 5)), (h29, zi k29 400 (a47_ 4)), (h26, zi k26 833 (a47_ 1)), (h25, zi k25 1250 (a47_ 0)), (h27, zi k27 833 (a47_ 2)), (h28, zi k28 400 (a47_ 3))]) hD hS hA [3, 5, 6, 7, 8, 9, 10] rfl
          refine va_callv (va_runV (As := [.int z15, .int z71]) (rest := []) ⟨hx, hb, hml, hown, hG⟩ (sX6_append_0 l dC dI adK adV h24 h30 h29 h26 h25 h27 h28 h31 h32 k30 k29 k26 k25 k27 k28 H.size (upd (upd (upd (upd v24 8 (u47_ 3)) 9 (u47_ 4)) 10 (u47_ 5)) 11 (u47_ 6)) (a47_ 5) (a47_ 4) (a47_ 1) (a47_ 0) (a47_ 2) (a47_ 3) z15 z71 (zR_updF (zR_updF (zR_upd (zR_upd hv24 8 (show (0 : Int) ≤ ((u47_ 3) : Int32).toInt from by omega) (show ((u47_ 3) : Int32).toInt ≤ (833 : Int) from by omega)) 9 (show (0 : Int) ≤ ((u47_ 4) : Int32).toInt from by omega) (show ((u47_ 4) : Int32).toInt ≤ (1250 : Int) from by omega)) 10 rfl) 11 rfl) ha47_4 ha47_1 (show zPhi (a47_ 1) (a47_ 4) (a47_ 5) (u47_ 4).toInt (u47_ 3).toInt from by assumption)) (cwV 2 hG (zgV zv850 zv836 zv837 zv133 zv838) rfl rfl rfl (by decide +kernel) ⟨Nat.le_of_ble_eq_true rfl, Nat.le_of_ble_eq_true rfl⟩) ⟨zPc_blind, va_recv hKc hPc (ci := 6) (q0 := 0) rfl rfl, zPc_pre hPc hKc hDc hE hS hFc hZ⟩ rfl rfl hl.1 rfl (lv_room (Nat.le_of_ble_eq_true rfl)) dX2_write_72 ⟨Nat.le_of_ble_eq_true rfl, Nat.le_of_ble_eq_true rfl⟩) hS (fun q _ h => hFc q h) hFc (fun u72_ t H1 locs ht hvm hw hB hz1 hk1 hS => ?_)
          have hw : (0 ≤ (u72_ 0).toInt ∧ (u72_ 0).toInt ≤ 833) ∧ (0 ≤ (u72_ 1).toInt ∧ (u72_ 1).toInt ≤ 1250) := hw
          obtain ⟨b_, b_⟩ := hw
          obtain ⟨w72_, a72_, b72_, ha72_1, ha72_2, hB72_0, hP1, hK1, hD1⟩ := hB
          have hB72_0 : zPhi (a72_ 2) (a72_ 1) (a72_ 0) (u72_ 1).toInt (u72_ 0).toInt := hB72_0
          rw [ht] at hP1
          obtain ⟨hP, hD⟩ := va_join (wr := [(h0, .inr (2, mX2 h1 h4 h11 h18 h19 h20 h21 h22 h23 v0)), (h20, zi k20 300 f20), (h23, zi k23 400 f23), (h32, zi k32 400 (a29_ 0)), (h31, zi k31 400 (a29_ 7)), (h21, zi k21 400 f21), (h18, zi k18 300 f18), (h19, zi k19 300 f19), (h22, zi k22 400 f22)]) (w1 := [(h24, .inr (6, mX6 h25 h26 h27 h28 h29 h30 h31 h32 (upd (upd (upd (upd v24 8 (u72_ 0)) 9 (u72_ 1)) 10 (u72_ 2)) 11 (u72_ 3)))), (h30, zi k30 400 (a72_ 0)), (h29, zi k29 400 (a72_ 1)), (h26, zi k26 833 (a72_ 2)), (h25, zi k25 1250 (a72_ 3)), (h27, zi k27 833 (a72_ 4)), (h28, zi k28 400 (a72_ 5))]) hP hD [3, 5, 6, 7, 8, 9, 10] [0, 1, 2, 4, 11, 12, 13, 14, 15] rfl rfl (by decide) (by decide) hk1 hFc hP1 hD1
          have hP : va_P (dC, dI) vwCl [(h0, .inr (2, mX2 h1 h4 h11 h18 h19 h20 h21 h22 h23 v0)), (h20, zi k20 300 f20), (h23, zi k23 400 f23), (h24, .inr (6, mX6 h25 h26 h27 h28 h29 h30 h31 h32 (upd (upd (upd (upd v24 8 (u72_ 0)) 9 (u72_ 1)) 10 (u72_ 2)) 11 (u72_ 3)))), (h32, zi k32 400 (a29_ 0)), (h30, zi k30 400 (a72_ 0)), (h29, zi k29 400 (a72_ 1)), (h26, zi k26 833 (a72_ 2)), (h25, zi k25 1250 (a72_ 3)), (h27, zi k27 833 (a72_ 4)), (h28, zi k28 400 (a72_ 5)), (h31, zi k31 400 (a29_ 7)), (h21, zi k21 400 f21), (h18, zi k18 300 f18), (h19, zi k19 300 f19), (h22, zi k22 400 f22)] H1 := hP.sub [0, 1, 2, 9, 3, 10, 11, 12, 13, 14, 15, 4, 5, 6, 7, 8] rfl
          have hD : va_D A [(h0, .inr (2, mX2 h1 h4 h11 h18 h19 h20 h21 h22 h23 v0)), (h20, zi k20 300 f20), (h23, zi k23 400 f23), (h24, .inr (6, mX6 h25 h26 h27 h28 h29 h30 h31 h32 (upd (upd (upd (upd v24 8 (u72_ 0)) 9 (u72_ 1)) 10 (u72_ 2)) 11 (u72_ 3)))), (h32, zi k32 400 (a29_ 0)), (h30, zi k30 400 (a72_ 0)), (h29, zi k29 400 (a72_ 1)), (h26, zi k26 833 (a72_ 2)), (h25, zi k25 1250 (a72_ 3)), (h27, zi k27 833 (a72_ 4)), (h28, zi k28 400 (a72_ 5)), (h31, zi k31 400 (a29_ 7)), (h21, zi k21 400 f21), (h18, zi k18 300 f18), (h19, zi k19 300 f19), (h22, zi k22 400 f22)] := hD.sub [0, 1, 2, 9, 3, 10, 11, 12, 13, 14, 15, 4, 5, 6, 7, 8] (by decide) rfl
          generalize H1 = H at hP hS ⊢
          clear hz1
          refine lv_aload_n hx hb dX2_write_75 rfl (lv_at hl 0 rfl) ?_
          refine va_get (D := (dC, dI)) (ci := 2) (v := .ref h18) (C := RX2) (T := TX2) (N := 11) hx hb hG zuX2 hown hK hP 0 rfl rfl 3 (by decide) (hG _ zv328) (fun _ h9 => h9) rfl dX2_write_76 ?_
          refine lv_iload hx hb dX2_write_79 (lv_at hl 6 rfl) ?_
          refine va_iald hx hb hK hP 13 11 rfl rfl (zin_lit ⟨by omega, by omega⟩) dX2_write_81 ?_
          refine lv_topi (fun z81 e_z81 => ?_)
          refine lv_istore (lv' := [(5, .int z81), (0, .ref h0), (1, .ref h24), (2, .int x2), (3, .int (u2_ 0)), (4, .int z15), (6, .int (u47_ 1)), (7, .int (u47_ 2))]) hx hb dX2_write_82 hl (by decide) rfl (fun ls hl => ?_)
          refine lv_aload_n hx hb dX2_write_84 rfl (lv_at hl 1 rfl) ?_
          refine va_get (D := (dC, dI)) (ci := 2) (v := .ref h19) (C := RX2) (T := TX2) (N := 11) hx hb hG zuX2 hown hK hP 0 rfl rfl 4 (by decide) (hG _ zv329) (fun _ h9 => h9) rfl dX2_write_85 ?_
          refine lv_iload hx hb dX2_write_88 (lv_at hl 6 rfl) ?_
          refine va_iald hx hb hK hP 14 12 rfl rfl (zin_lit ⟨by omega, by omega⟩) dX2_write_90 ?_
          refine lv_topi (fun z90 e_z90 => ?_)
          have b_ : (-1) ≤ z90.toInt ∧ z90.toInt ≤ 299 := by rw [e_z90]; exact hf19 _
          refine lv_istore (lv' := [(6, .int z90), (5, .int z81), (0, .ref h0), (1, .ref h24), (2, .int x2), (3, .int (u2_ 0)), (4, .int z15), (7, .int (u47_ 2))]) hx hb dX2_write_91 hl (by decide) rfl (fun ls hl => ?_)
          obtain ⟨z93, e_z93⟩ : ∃ z : Int32, z = (u47_ 2) + Int32.ofInt 1 := ⟨_, rfl⟩
          have b_ := zadd (x := (u47_ 2)) (y := Int32.ofInt 1) rfl (show (Int32.ofInt 1).toInt = 1 from by decide) e_z93 (by omega) (by omega)
          refine lv_iinc (v := z93) (lv' := [(7, .int z93), (6, .int z90), (5, .int z81), (0, .ref h0), (1, .ref h24), (2, .int x2), (3, .int (u2_ 0)), (4, .int z15)]) hx hb dX2_write_93 hl (k := 7) rfl e_z93.symm (by decide) rfl (fun ls hl => ?_)
          refine lv_goto (tgt := 47) hx hb dX2_write_96 (by decide) ?_
          have b_ : -2147483648 ≤ x2.toInt ∧ x2.toInt ≤ 2147483647 := ⟨zlo _, zhi _⟩
          have b_ : -2147483648 ≤ z81.toInt ∧ z81.toInt ≤ 2147483647 := ⟨zlo _, zhi _⟩
          have hc : va_P (dC, dI) vwCl [(h0, .inr (2, mX2 h1 h4 h11 h18 h19 h20 h21 h22 h23 v0)), (h20, zi k20 300 f20), (h23, zi k23 400 f23), (h24, .inr (6, mX6 h25 h26 h27 h28 h29 h30 h31 h32 (upd (upd (upd (upd v24 8 (u72_ 0)) 9 (u72_ 1)) 10 (u72_ 2)) 11 (u72_ 3)))), (h32, zi k32 400 (a29_ 0)), (h30, zi k30 400 (a72_ 0)), (h29, zi k29 400 (a72_ 1)), (h26, zi k26 833 (a72_ 2)), (h25, zi k25 1250 (a72_ 3)), (h27, zi k27 833 (a72_ 4)), (h28, zi k28 400 (a72_ 5)), (h31, zi k31 400 (a29_ 7)), (h21, zi k21 400 f21), (h18, zi k18 300 f18), (h19, zi k19 300 f19), (h22, zi k22 400 f22)] H ∧ va_D A [(h0, .inr (2, mX2 h1 h4 h11 h18 h19 h20 h21 h22 h23 v0)), (h20, zi k20 300 f20), (h23, zi k23 400 f23), (h24, .inr (6, mX6 h25 h26 h27 h28 h29 h30 h31 h32 (upd (upd (upd (upd v24 8 (u72_ 0)) 9 (u72_ 1)) 10 (u72_ 2)) 11 (u72_ 3)))), (h32, zi k32 400 (a29_ 0)), (h30, zi k30 400 (a72_ 0)), (h29, zi k29 400 (a72_ 1)), (h26, zi k26 833 (a72_ 2)), (h25, zi k25 1250 (a72_ 3)), (h27, zi k27 833 (a72_ 4)), (h28, zi k28 400 (a72_ 5)), (h31, zi k31 400 (a29_ 7)), (h21, zi k21 400 f21), (h18, zi k18 300 f18), (h19, zi k19 300 f19), (h22, zi k22 400 f22)] ∧ va_S A s.heap H locs ∧ lv_has ls 8 [(0, .ref h0), (1, .ref h24), (2, .int x2), (3, .int (u2_ 0)), (4, .int z15), (5, .int z81), (6, .int z90), (7, .int z93)] ∧ zA 0 1250 (a72_ 2) ∧ zA 0 832 (a72_ 1) ∧ ((-1) ≤ z90.toInt ∧ z90.toInt ≤ 299) ∧ (0 ≤ z93.toInt ∧ z93.toInt ≤ 300) ∧ (0 ≤ (u72_ 0).toInt ∧ (u72_ 0).toInt ≤ 833) ∧ (0 ≤ (u72_ 1).toInt ∧ (u72_ 1).toInt ≤ 1250) ∧ (z93.toInt < (f23 (z15 : Int32).toNatClampNeg).toInt → z90.toInt = (path (z93.toInt).toNat : Int)) ∧ (zPhi (a72_ 2) (a72_ 1) (a72_ 0) (u72_ 1).toInt (u72_ 0).toInt) := ⟨hP, hD, hS, lv_sub hl [3, 4, 5, 6, 7, 2, 1, 0] rfl, ha72_2, ha72_1, ⟨by omega, by omega⟩, ⟨by omega, by omega⟩, ⟨by omega, by omega⟩, ⟨by omega, by omega⟩, by first | (intro h; have q := (hpf (by rw [zk_0] at h; exact h)).1; rw [← e_z41] at q; rw [zk_0]; exact q) | exact zpath_step hpa (hI47_0 (by omega)) (by omega) e_z90 (by omega), by assumption⟩
          exact hJ47 H locs ls (fun i => ([z81, z90, z93, (u72_ 0), (u72_ 1), (u72_ 2), (u72_ 3)] : List (Int32)).getD i 0) (fun _ => 0) (fun i => ([(a72_ 3), (a72_ 2), (a72_ 4), (a72_ 5), (a72_ 1), (a72_ 0)] : List (Nat → Int32)).getD i (fun _ => 0)) (fun _ => (fun _ => 0)) hc (show (300 - z93.toInt).toNat < (300 - (u47_ 2).toInt).toNat from by omega)
      · skip
        have b_ : -2147483648 ≤ x2.toInt ∧ x2.toInt ≤ 2147483647 := ⟨zlo _, zhi _⟩
        have hc : va_P (dC, dI) vwCl [(h0, .inr (2, mX2 h1 h4 h11 h18 h19 h20 h21 h22 h23 v0)), (h20, zi k20 300 f20), (h23, zi k23 400 f23), (h24, .inr (6, mX6 h25 h26 h27 h28 h29 h30 h31 h32 (upd (upd (upd (upd v24 8 (u29_ 0)) 9 (u29_ 1)) 10 (u29_ 2)) 11 (u29_ 3)))), (h32, zi k32 400 (a29_ 0)), (h30, zi k30 400 (a29_ 1)), (h29, zi k29 400 (a29_ 2)), (h26, zi k26 833 (a29_ 3)), (h25, zi k25 1250 (a29_ 4)), (h27, zi k27 833 (a29_ 5)), (h28, zi k28 400 (a29_ 6)), (h31, zi k31 400 (a29_ 7)), (h21, zi k21 400 f21), (h18, zi k18 300 f18), (h19, zi k19 300 f19), (h22, zi k22 400 f22)] H ∧ va_D A [(h0, .inr (2, mX2 h1 h4 h11 h18 h19 h20 h21 h22 h23 v0)), (h20, zi k20 300 f20), (h23, zi k23 400 f23), (h24, .inr (6, mX6 h25 h26 h27 h28 h29 h30 h31 h32 (upd (upd (upd (upd v24 8 (u29_ 0)) 9 (u29_ 1)) 10 (u29_ 2)) 11 (u29_ 3)))), (h32, zi k32 400 (a29_ 0)), (h30, zi k30 400 (a29_ 1)), (h29, zi k29 400 (a29_ 2)), (h26, zi k26 833 (a29_ 3)), (h25, zi k25 1250 (a29_ 4)), (h27, zi k27 833 (a29_ 5)), (h28, zi k28 400 (a29_ 6)), (h31, zi k31 400 (a29_ 7)), (h21, zi k21 400 f21), (h18, zi k18 300 f18), (h19, zi k19 300 f19), (h22, zi k22 400 f22)] ∧ va_S A s.heap H locs ∧ lv_has ls 8 [(0, .ref h0), (1, .ref h24), (2, .int x2), (3, .int (u2_ 0)), (4, .int z15), (5, .int (-1)), (6, .int z41), (7, .int 0)] ∧ zA 0 1250 (a29_ 3) ∧ zA 0 832 (a29_ 2) ∧ ((-1) ≤ z41.toInt ∧ z41.toInt ≤ 299) ∧ (0 ≤ (0 : Int32).toInt ∧ (0 : Int32).toInt ≤ 300) ∧ (0 ≤ (u29_ 0).toInt ∧ (u29_ 0).toInt ≤ 833) ∧ (0 ≤ (u29_ 1).toInt ∧ (u29_ 1).toInt ≤ 1250) ∧ ((0 : Int32).toInt < (f23 (z15 : Int32).toNatClampNeg).toInt → z41.toInt = (path ((0 : Int32).toInt).toNat : Int)) ∧ (zPhi (a29_ 3) (a29_ 2) (a29_ 1) (u29_ 1).toInt (u29_ 0).toInt) := ⟨hP, hD, hS, lv_sub hl [4, 5, 6, 7, 3, 2, 1, 0] rfl, ha29_3, ha29_2, ⟨by omega, by omega⟩, ⟨by omega, by omega⟩, ⟨by omega, by omega⟩, ⟨by omega, by omega⟩, by first | (intro h; have q := (hpf (by rw [zk_0] at h; exact h)).1; rw [← e_z41] at q; rw [zk_0]; exact q) | exact zpath_step hpa (hI47_0 (by omega)) (by omega) e_z90 (by omega), by assumption⟩
        exact hJ47 H locs ls (fun i => ([(-1), z41, 0, (u29_ 0), (u29_ 1), (u29_ 2), (u29_ 3)] : List (Int32)).getD i 0) (fun _ => 0) (fun i => ([(a29_ 4), (a29_ 3), (a29_ 5), (a29_ 6), (a29_ 2), (a29_ 1)] : List (Nat → Int32)).getD i (fun _ => 0)) (fun _ => (fun _ => 0)) hc
  · skip
    have b_ : -2147483648 ≤ x2.toInt ∧ x2.toInt ≤ 2147483647 := ⟨zlo _, zhi _⟩
    have hc : va_P (dC, dI) vwCl [(h0, .inr (2, mX2 h1 h4 h11 h18 h19 h20 h21 h22 h23 v0)), (h20, zi k20 300 f20), (h23, zi k23 400 f23), (h24, .inr (6, mX6 h25 h26 h27 h28 h29 h30 h31 h32 (upd (upd (upd (upd v24 8 (v24 8)) 9 (v24 9)) 10 (v24 10)) 11 (v24 11)))), (h32, zi k32 400 f32), (h30, zi k30 400 f30), (h29, zi k29 400 f29), (h26, zi k26 833 f26), (h25, zi k25 1250 f25), (h27, zi k27 833 f27), (h28, zi k28 400 f28), (h31, zi k31 400 f31), (h21, zi k21 400 f21), (h18, zi k18 300 f18), (h19, zi k19 300 f19), (h22, zi k22 400 f22)] s.heap ∧ va_D A [(h0, .inr (2, mX2 h1 h4 h11 h18 h19 h20 h21 h22 h23 v0)), (h20, zi k20 300 f20), (h23, zi k23 400 f23), (h24, .inr (6, mX6 h25 h26 h27 h28 h29 h30 h31 h32 (upd (upd (upd (upd v24 8 (v24 8)) 9 (v24 9)) 10 (v24 10)) 11 (v24 11)))), (h32, zi k32 400 f32), (h30, zi k30 400 f30), (h29, zi k29 400 f29), (h26, zi k26 833 f26), (h25, zi k25 1250 f25), (h27, zi k27 833 f27), (h28, zi k28 400 f28), (h31, zi k31 400 f31), (h21, zi k21 400 f21), (h18, zi k18 300 f18), (h19, zi k19 300 f19), (h22, zi k22 400 f22)] ∧ va_S A s.heap s.heap [] ∧ lv_has ls 8 [(0, .ref h0), (1, .ref h24), (2, .int x2), (3, .int 0)] ∧ zA 0 1250 f26 ∧ zA 0 832 f29 ∧ (0 ≤ (0 : Int32).toInt ∧ (0 : Int32).toInt ≤ 300) ∧ (0 ≤ (v24 8).toInt ∧ (v24 8).toInt ≤ 833) ∧ (0 ≤ (v24 9).toInt ∧ (v24 9).toInt ≤ 1250) ∧ (zPhi f26 f29 f30 (v24 9).toInt (v24 8).toInt) := ⟨hP, hD, hS, lv_sub hl [1, 2, 3, 0] rfl, hf26, hf29, ⟨by omega, by omega⟩, ⟨by omega, by omega⟩, ⟨by omega, by omega⟩, by assumption⟩
    exact hJ2 s.heap [] ls (fun i => ([0, (v24 8), (v24 9), (v24 10), (v24 11)] : List (Int32)).getD i 0) (fun _ => 0) (fun i => ([f25, f26, f27, f28, f29, f30, f31, f32] : List (Nat → Int32)).getD i (fun _ => 0)) (fun _ => (fun _ => 0)) hc
set_option maxHeartbeats 8000000 in
set_option maxRecDepth 100000 in
theorem sX2_kept_0 (l : Launch) (dC : Nat → ClassId) (dI : Nat → Nat → Nat) (adK adV : Nat → Nat) (h0 : Nat) (h1 : Nat) (h4 : Nat) (h11 : Nat) (h18 : Nat) (h19 : Nat) (h20 : Nat) (h21 : Nat) (h22 : Nat) (h23 : Nat) (sz : Nat) (v0 : Nat → Int32) (hv0 : zR rg_Intake v0) : Met l yX2_kept (zw yX2_kept cX2_kept 1 (some .int)) { frames := 0, cells := 0, slots := 0, locals := 0 } (zPc dC dI adK adV [.ref h0] sz [(h0, .inr (2, mX2 h1 h4 h11 h18 h19 h20 h21 h22 h23 v0))] []) (va_Qi (fun (r : Int32) (u : Nat → Int32) => (0 ≤ r.toInt ∧ r.toInt ≤ 300)) (fun (u : Nat → Int32) (t : State) => ∃ (ww : Nat → Int64) (aa : Nat → Nat → Int32) (bb : Nat → Nat → Int64), va_P (dC, dI) vwCl [(h0, .inr (2, mX2 h1 h4 h11 h18 h19 h20 h21 h22 h23 v0))] t.heap ∧ va_K (dC, dI) vwCl [] t ∧ va_D (va_A [(h0, .inr (2, mX2 h1 h4 h11 h18 h19 h20 h21 h22 h23 v0))] sz) [(h0, .inr (2, mX2 h1 h4 h11 h18 h19 h20 h21 h22 h23 v0))]) (va_A [(h0, .inr (2, mX2 h1 h4 h11 h18 h19 h20 h21 h22 h23 v0))] sz)) 0 0 (va_A [(h0, .inr (2, mX2 h1 h4 h11 h18 h19 h20 h21 h22 h23 v0))] sz) := by
  refine Met.ofW (cc := cX2_kept) (maxL := 1) (ret := (some .int)) (by decide) rfl ?_
  intro p e s m args below meth c s₁ B hml hv
  obtain ⟨rfl, hsz, hP, hK, hD0, hE, hZ⟩ := hv
  have hx := B.exec
  have hb := B.bytes
  have hr := B.returns
  have hG : ∀ w ∈ zG, w.before _ s = true := fun w h => atoms_spec (ws := (zw yX2_kept cX2_kept 1 (some .int))) B.pre w (List.mem_cons_of_mem _ h)
  have hown : s.vm.findClass RX2 = some m.cls := findClass_of_methodNamed B.named
  have hlocks := B.notSynchronized

  subst hsz
  have hD := hD0.self (sz := s.heap.size)
  generalize hAe : va_A [(h0, .inr (2, mX2 h1 h4 h11 h18 h19 h20 h21 h22 h23 v0))] s.heap.size = A at hD hZ ⊢
  have hA : ∀ q : Nat, s.heap.size ≤ q → A q := fun q h => by rw [← hAe]; exact Or.inr h
  have hS : va_S A s.heap s.heap [] := va_S.rf
  have hl := lv_entry ([.ref h0]) (n := 1) (Nat.le_of_ble_eq_true rfl)
  rw [lg_entry_eq]
  generalize (lg_sl ([.ref h0]) ++ List.replicate (1 - (lg_sl ([.ref h0])).length) Slot.unset).toArray = ls at hl ⊢
  have hl : lv_has ls 1 [(0, .ref h0)] := hl
  refine lv_aload_n hx hb dX2_kept_0 rfl (lv_at hl 0 rfl) ?_
  have b_ : 0 ≤ (v0 9).toInt ∧ (v0 9).toInt ≤ 300 := hv0 9
  refine va_get (D := (dC, dI)) (ci := 2) (v := .int (v0 9)) (C := RX2) (T := TX2) (N := 11) hx hb hG zuX2 hown hK hP 0 rfl rfl 9 (by decide) (hG _ zv334) (fun _ h9 => h9) rfl dX2_kept_1 ?_
  refine W.widen (k := 0) (n := 0) (by decide) (by decide) ?_
  have hpost : (0 ≤ (v0 9).toInt ∧ (v0 9).toInt ≤ 300) := ⟨by omega, by omega⟩
  have hP9 : va_P (dC, dI) vwCl [(h0, .inr (2, mX2 h1 h4 h11 h18 h19 h20 h21 h22 h23 v0))] s.heap := hP
  have hD9 : va_D A [(h0, .inr (2, mX2 h1 h4 h11 h18 h19 h20 h21 h22 h23 v0))] := hD
  exact W.iret (v := (v0 9)) hx hb hr (fun t ht hW => ⟨⟨(v0 9), (fun _ => 0), rfl, hpost, (fun _ => 0), (fun _ => (fun _ => 0)), (fun _ => (fun _ => 0)), by rw [ht]; exact hP9, va_K.moved hW.alike hK, hD9⟩, hS.F ht⟩) hS.2.2 dX2_kept_4
set_option maxHeartbeats 8000000 in
set_option maxRecDepth 100000 in
theorem sX2_distinct_0 (l : Launch) (dC : Nat → ClassId) (dI : Nat → Nat → Nat) (adK adV : Nat → Nat) (h0 : Nat) (h1 : Nat) (h4 : Nat) (h11 : Nat) (h18 : Nat) (h19 : Nat) (h20 : Nat) (h21 : Nat) (h22 : Nat) (h23 : Nat) (sz : Nat) (v0 : Nat → Int32) (hv0 : zR rg_Intake v0) : Met l yX2_distinct (zw yX2_distinct cX2_distinct 1 (some .int)) { frames := 0, cells := 0, slots := 0, locals := 0 } (zPc dC dI adK adV [.ref h0] sz [(h0, .inr (2, mX2 h1 h4 h11 h18 h19 h20 h21 h22 h23 v0))] []) (va_Qi (fun (r : Int32) (u : Nat → Int32) => (0 ≤ r.toInt ∧ r.toInt ≤ 300)) (fun (u : Nat → Int32) (t : State) => ∃ (ww : Nat → Int64) (aa : Nat → Nat → Int32) (bb : Nat → Nat → Int64), va_P (dC, dI) vwCl [(h0, .inr (2, mX2 h1 h4 h11 h18 h19 h20 h21 h22 h23 v0))] t.heap ∧ va_K (dC, dI) vwCl [] t ∧ va_D (va_A [(h0, .inr (2, mX2 h1 h4 h11 h18 h19 h20 h21 h22 h23 v0))] sz) [(h0, .inr (2, mX2 h1 h4 h11 h18 h19 h20 h21 h22 h23 v0))]) (va_A [(h0, .inr (2, mX2 h1 h4 h11 h18 h19 h20 h21 h22 h23 v0))] sz)) 0 0 (va_A [(h0, .inr (2, mX2 h1 h4 h11 h18 h19 h20 h21 h22 h23 v0))] sz) := by
  refine Met.ofW (cc := cX2_distinct) (maxL := 1) (ret := (some .int)) (by decide) rfl ?_
  intro p e s m args below meth c s₁ B hml hv
  obtain ⟨rfl, hsz, hP, hK, hD0, hE, hZ⟩ := hv
  have hx := B.exec
  have hb := B.bytes
  have hr := B.returns
  have hG : ∀ w ∈ zG, w.before _ s = true := fun w h => atoms_spec (ws := (zw yX2_distinct cX2_distinct 1 (some .int))) B.pre w (List.mem_cons_of_mem _ h)
  have hown : s.vm.findClass RX2 = some m.cls := findClass_of_methodNamed B.named
  have hlocks := B.notSynchronized

  subst hsz
  have hD := hD0.self (sz := s.heap.size)
  generalize hAe : va_A [(h0, .inr (2, mX2 h1 h4 h11 h18 h19 h20 h21 h22 h23 v0))] s.heap.size = A at hD hZ ⊢
  have hA : ∀ q : Nat, s.heap.size ≤ q → A q := fun q h => by rw [← hAe]; exact Or.inr h
  have hS : va_S A s.heap s.heap [] := va_S.rf
  have hl := lv_entry ([.ref h0]) (n := 1) (Nat.le_of_ble_eq_true rfl)
  rw [lg_entry_eq]
  generalize (lg_sl ([.ref h0]) ++ List.replicate (1 - (lg_sl ([.ref h0])).length) Slot.unset).toArray = ls at hl ⊢
  have hl : lv_has ls 1 [(0, .ref h0)] := hl
  refine lv_aload_n hx hb dX2_distinct_0 rfl (lv_at hl 0 rfl) ?_
  have b_ : 0 ≤ (v0 10).toInt ∧ (v0 10).toInt ≤ 300 := hv0 10
  refine va_get (D := (dC, dI)) (ci := 2) (v := .int (v0 10)) (C := RX2) (T := TX2) (N := 11) hx hb hG zuX2 hown hK hP 0 rfl rfl 10 (by decide) (hG _ zv335) (fun _ h9 => h9) rfl dX2_distinct_1 ?_
  refine W.widen (k := 0) (n := 0) (by decide) (by decide) ?_
  have hpost : (0 ≤ (v0 10).toInt ∧ (v0 10).toInt ≤ 300) := ⟨by omega, by omega⟩
  have hP9 : va_P (dC, dI) vwCl [(h0, .inr (2, mX2 h1 h4 h11 h18 h19 h20 h21 h22 h23 v0))] s.heap := hP
  have hD9 : va_D A [(h0, .inr (2, mX2 h1 h4 h11 h18 h19 h20 h21 h22 h23 v0))] := hD
  exact W.iret (v := (v0 10)) hx hb hr (fun t ht hW => ⟨⟨(v0 10), (fun _ => 0), rfl, hpost, (fun _ => 0), (fun _ => (fun _ => 0)), (fun _ => (fun _ => 0)), by rw [ht]; exact hP9, va_K.moved hW.alike hK, hD9⟩, hS.F ht⟩) hS.2.2 dX2_distinct_4
set_option maxHeartbeats 8000000 in
set_option maxRecDepth 100000 in
theorem sX0_add_0 (l : Launch) (dC : Nat → ClassId) (dI : Nat → Nat → Nat) (adK adV : Nat → Nat) (h0 : Nat) (h1 : Nat) (h2 : Nat) (h4 : Nat) (h3 : Nat) (k1 : ClassId) (k2 : ClassId) (k4 : ClassId) (sz : Nat) (v0 : Nat → Int32) (f1 : Nat → Int32) (f2 : Nat → Int32) (f4 : Nat → Int32) (x1 : Int32) (x2 : Int32) (hv0 : zR rg_Documents v0) (hf2 : zA 0 300 f2) (hx1 : 0 ≤ x1.toInt ∧ x1.toInt ≤ 300) : Met l yX0_add (zw yX0_add cX0_add 3 none) { frames := 0, cells := 0, slots := 0, locals := 0 } (zPc dC dI adK adV [.ref h0, .int x1, .int x2] sz [(h0, .inr (0, mX0 h1 h2 h3 h4 v0)), (h1, zi k1 120 f1), (h2, zi k2 120 f2), (h4, zi k4 120 f4)] [(k1, .boolean), (k2, .int), (k4, .int)]) (va_Qv (fun (u : Nat → Int32) => (1 ≤ (u 0).toInt ∧ (u 0).toInt ≤ 120)) (fun (u : Nat → Int32) (t : State) => ∃ (ww : Nat → Int64) (aa : Nat → Nat → Int32) (bb : Nat → Nat → Int64), zA 0 300 (aa 1) ∧ va_P (dC, dI) vwCl [(h0, .inr (0, mX0 h1 h2 h3 h4 (upd (upd v0 4 (u 0)) 5 (u 1)))), (h1, zi k1 120 (aa 0)), (h2, zi k2 120 (aa 1)), (h4, zi k4 120 (aa 2))] t.heap ∧ va_K (dC, dI) vwCl [(k1, .boolean), (k2, .int), (k4, .int)] t ∧ va_D (va_A [(h0, .inr (0, mX0 h1 h2 h3 h4 v0)), (h1, zi k1 120 f1), (h2, zi k2 120 f2), (h4, zi k4 120 f4)] sz) [(h0, .inr (0, mX0 h1 h2 h3 h4 (upd (upd v0 4 (u 0)) 5 (u 1)))), (h1, zi k1 120 (aa 0)), (h2, zi k2 120 (aa 1)), (h4, zi k4 120 (aa 2))]) (va_A [(h0, .inr (0, mX0 h1 h2 h3 h4 v0)), (h1, zi k1 120 f1), (h2, zi k2 120 f2), (h4, zi k4 120 f4)] sz)) 0 0 (va_A [(h0, .inr (0, mX0 h1 h2 h3 h4 v0)), (h1, zi k1 120 f1), (h2, zi k2 120 f2), (h4, zi k4 120 f4)] sz) := by
  refine Met.ofW (cc := cX0_add) (maxL := 3) (ret := none) (by decide) rfl ?_
  intro p e s m args below meth c s₁ B hml hv
  obtain ⟨rfl, hsz, hP, hK, hD0, hE, hZ⟩ := hv
  have hx := B.exec
  have hb := B.bytes
  have hr := B.returns
  have hG : ∀ w ∈ zG, w.before _ s = true := fun w h => atoms_spec (ws := (zw yX0_add cX0_add 3 none)) B.pre w (List.mem_cons_of_mem _ h)
  have hown : s.vm.findClass RX0 = some m.cls := findClass_of_methodNamed B.named
  have hlocks := B.notSynchronized

  subst hsz
  have hD := hD0.self (sz := s.heap.size)
  generalize hAe : va_A [(h0, .inr (0, mX0 h1 h2 h3 h4 v0)), (h1, zi k1 120 f1), (h2, zi k2 120 f2), (h4, zi k4 120 f4)] s.heap.size = A at hD hZ ⊢
  have hA : ∀ q : Nat, s.heap.size ≤ q → A q := fun q h => by rw [← hAe]; exact Or.inr h
  have hS : va_S A s.heap s.heap [] := va_S.rf
  have hl := lv_entry ([.ref h0, .int x1, .int x2]) (n := 3) (Nat.le_of_ble_eq_true rfl)
  rw [lg_entry_eq]
  generalize (lg_sl ([.ref h0, .int x1, .int x2]) ++ List.replicate (3 - (lg_sl ([.ref h0, .int x1, .int x2])).length) Slot.unset).toArray = ls at hl ⊢
  have hl : lv_has ls 3 [(0, .ref h0), (1, .int x1), (2, .int x2)] := hl
  refine lv_aload_n hx hb dX0_add_0 rfl (lv_at hl 0 rfl) ?_
  have b_ : 0 ≤ (v0 4).toInt ∧ (v0 4).toInt ≤ 120 := hv0 4
  refine va_get (D := (dC, dI)) (ci := 0) (v := .int (v0 4)) (C := RX0) (T := TX0) (N := 6) hx hb hG zuX0 hown hK hP 0 rfl rfl 4 (by decide) (hG _ zv226) (fun _ h9 => h9) rfl dX0_add_1 ?_
  refine lv_bipush (v := 120) hx hb dX0_add_4 (by decide) ?_
  refine lv_icmp_ge (tgt := 59) hx hb dX0_add_6 (by decide) (fun c_ => ?_) (fun c_ => ?_)
  · skip
    have b_ := zT_ge rfl zk_120 c_
    refine W.widen (k := 0) (n := 0) (by decide) (by decide) ?_
    have b_ : -2147483648 ≤ (v0 5).toInt ∧ (v0 5).toInt ≤ 2147483647 := ⟨zlo _, zhi _⟩
    have hpost : (1 ≤ (v0 4).toInt ∧ (v0 4).toInt ≤ 120) := ⟨by omega, by omega⟩
    have hP9 : va_P (dC, dI) vwCl [(h0, .inr (0, mX0 h1 h2 h3 h4 (upd (upd v0 4 (v0 4)) 5 (v0 5)))), (h1, zi k1 120 f1), (h2, zi k2 120 f2), (h4, zi k4 120 f4)] s.heap := hP
    have hD9 : va_D A [(h0, .inr (0, mX0 h1 h2 h3 h4 (upd (upd v0 4 (v0 4)) 5 (v0 5)))), (h1, zi k1 120 f1), (h2, zi k2 120 f2), (h4, zi k4 120 f4)] := hD
    exact W.vret hx hb hr (fun t ht hW => ⟨⟨(fun i => ([(v0 4), (v0 5)] : List (Int32)).getD i 0), rfl, hpost, (fun _ => 0), (fun i => ([f1, f2, f4] : List (Nat → Int32)).getD i (fun _ => 0)), (fun _ => (fun _ => 0)), hf2, by rw [ht]; exact hP9, va_K.moved hW.alike hK, hD9⟩, hS.F ht⟩) hS.2.2 dX0_add_59
  · skip
    have b_ := zF_ge rfl zk_120 c_
    refine lv_aload_n hx hb dX0_add_9 rfl (lv_at hl 0 rfl) ?_
    refine va_get (D := (dC, dI)) (ci := 0) (v := .ref h1) (C := RX0) (T := TX0) (N := 6) hx hb hG zuX0 hown hK hP 0 rfl rfl 0 (by decide) (hG _ zv222) (fun _ h9 => h9) rfl dX0_add_10 ?_
    refine lv_aload_n hx hb dX0_add_13 rfl (lv_at hl 0 rfl) ?_
    refine va_get (D := (dC, dI)) (ci := 0) (v := .int (v0 4)) (C := RX0) (T := TX0) (N := 6) hx hb hG zuX0 hown hK hP 0 rfl rfl 4 (by decide) (hG _ zv226) (fun _ h9 => h9) rfl dX0_add_14 ?_
    refine lv_iconst (v := 1) hx hb dX0_add_17 (by decide) ?_
    refine va_zast hx hb hK hP hD hS 1 0 rfl rfl (zin_lit ⟨by omega, by omega⟩) dX0_add_18 (fun H locs hP hD hS => ?_)
    obtain ⟨f_18, e_f_18⟩ : ∃ z : Nat → Int32, z = upd f1 ((v0 4) : Int32).toNatClampNeg (vp_nar .boolean 1) := ⟨_, rfl⟩
    have hP : va_P (dC, dI) vwCl [(h0, .inr (0, mX0 h1 h2 h3 h4 v0)), (h1, zi k1 120 f_18), (h2, zi k2 120 f2), (h4, zi k4 120 f4)] H := by rw [e_f_18]; exact hP
    have hD : va_D A [(h0, .inr (0, mX0 h1 h2 h3 h4 v0)), (h1, zi k1 120 f_18), (h2, zi k2 120 f2), (h4, zi k4 120 f4)] := by rw [e_f_18]; exact hD
    refine lv_aload_n hx hb dX0_add_19 rfl (lv_at hl 0 rfl) ?_
    refine va_get (D := (dC, dI)) (ci := 0) (v := .ref h2) (C := RX0) (T := TX0) (N := 6) hx hb hG zuX0 hown hK hP 0 rfl rfl 1 (by decide) (hG _ zv223) (fun _ h9 => h9) rfl dX0_add_20 ?_
    refine lv_aload_n hx hb dX0_add_23 rfl (lv_at hl 0 rfl) ?_
    refine va_get (D := (dC, dI)) (ci := 0) (v := .int (v0 4)) (C := RX0) (T := TX0) (N := 6) hx hb hG zuX0 hown hK hP 0 rfl rfl 4 (by decide) (hG _ zv226) (fun _ h9 => h9) rfl dX0_add_24 ?_
    refine lv_iload_n hx hb dX0_add_27 rfl (lv_at hl 1 rfl) ?_
    refine va_iast hx hb hK hP hD hS 2 1 rfl rfl (zin_lit ⟨by omega, by omega⟩) dX0_add_28 (fun H locs hP hD hS => ?_)
    obtain ⟨f_28, e_f_28⟩ : ∃ z : Nat → Int32, z = upd f2 ((v0 4) : Int32).toNatClampNeg x1 := ⟨_, rfl⟩
    have hP : va_P (dC, dI) vwCl [(h0, .inr (0, mX0 h1 h2 h3 h4 v0)), (h1, zi k1 120 f_18), (h2, zi k2 120 f_28), (h4, zi k4 120 f4)] H := by rw [e_f_28]; exact hP
    have hD : va_D A [(h0, .inr (0, mX0 h1 h2 h3 h4 v0)), (h1, zi k1 120 f_18), (h2, zi k2 120 f_28), (h4, zi k4 120 f4)] := by rw [e_f_28]; exact hD
    have hf_28 : zA 0 300 f_28 := by rw [e_f_28]; exact zA_upd hf2 (show 0 ≤ (x1 : Int32).toInt from by omega) (show (x1 : Int32).toInt ≤ 300 from by omega)
    refine lv_aload_n hx hb dX0_add_29 rfl (lv_at hl 0 rfl) ?_
    refine va_get (D := (dC, dI)) (ci := 0) (v := .ref h4) (C := RX0) (T := TX0) (N := 6) hx hb hG zuX0 hown hK hP 0 rfl rfl 3 (by decide) (hG _ zv225) (fun _ h9 => h9) rfl dX0_add_30 ?_
    refine lv_aload_n hx hb dX0_add_33 rfl (lv_at hl 0 rfl) ?_
    refine va_get (D := (dC, dI)) (ci := 0) (v := .int (v0 4)) (C := RX0) (T := TX0) (N := 6) hx hb hG zuX0 hown hK hP 0 rfl rfl 4 (by decide) (hG _ zv226) (fun _ h9 => h9) rfl dX0_add_34 ?_
    refine lv_iload_n hx hb dX0_add_37 rfl (lv_at hl 2 rfl) ?_
    refine va_iast hx hb hK hP hD hS 3 2 rfl rfl (zin_lit ⟨by omega, by omega⟩) dX0_add_38 (fun H locs hP hD hS => ?_)
    obtain ⟨f_38, e_f_38⟩ : ∃ z : Nat → Int32, z = upd f4 ((v0 4) : Int32).toNatClampNeg x2 := ⟨_, rfl⟩
    have hP : va_P (dC, dI) vwCl [(h0, .inr (0, mX0 h1 h2 h3 h4 v0)), (h1, zi k1 120 f_18), (h2, zi k2 120 f_28), (h4, zi k4 120 f_38)] H := by rw [e_f_38]; exact hP
    have hD : va_D A [(h0, .inr (0, mX0 h1 h2 h3 h4 v0)), (h1, zi k1 120 f_18), (h2, zi k2 120 f_28), (h4, zi k4 120 f_38)] := by rw [e_f_38]; exact hD
    refine lv_aload_n hx hb dX0_add_39 rfl (lv_at hl 0 rfl) ?_
    refine lv_dup hx hb dX0_add_40 rfl ?_
    refine va_get (D := (dC, dI)) (ci := 0) (v := .int (v0 4)) (C := RX0) (T := TX0) (N := 6) hx hb hG zuX0 hown hK hP 0 rfl rfl 4 (by decide) (hG _ zv226) (fun _ h9 => h9) rfl dX0_add_41 ?_
    refine lv_iconst (v := 1) hx hb dX0_add_44 (by decide) ?_
    refine lv_iadd hx hb dX0_add_45 ?_
    refine lv_topi (fun z45 e_z45 => ?_)
    have b_ := zadd rfl zk_1 e_z45 (by omega) (by omega)
    refine va_put (D := (dC, dI)) (ci := 0) (v := .int z45) (ty := .int) (C := RX0) (T := TX0) (N := 6) hx hb hG zuX0 tyX0 tyX0_ok nmX0 hown hK hP hD hS 0 rfl rfl 4 (by decide) (hG _ zv226) (fun _ h9 => h9) rfl (by decide +kernel) rfl rfl (Nat.le_of_ble_eq_true rfl) dX0_add_46 (fun H locs hP hD hS => ?_)
    have hP : va_P (dC, dI) vwCl [(h0, .inr (0, mX0 h1 h2 h3 h4 (upd v0 4 z45))), (h1, zi k1 120 f_18), (h2, zi k2 120 f_28), (h4, zi k4 120 f_38)] H := hP
    have hD : va_D A [(h0, .inr (0, mX0 h1 h2 h3 h4 (upd v0 4 z45))), (h1, zi k1 120 f_18), (h2, zi k2 120 f_28), (h4, zi k4 120 f_38)] := hD
    refine lv_aload_n hx hb dX0_add_49 rfl (lv_at hl 0 rfl) ?_
    refine lv_dup hx hb dX0_add_50 rfl ?_
    refine va_get (D := (dC, dI)) (ci := 0) (v := .int (v0 5)) (C := RX0) (T := TX0) (N := 6) hx hb hG zuX0 hown hK hP 0 rfl rfl 5 (by decide) (hG _ zv227) (fun _ h9 => h9) rfl dX0_add_51 ?_
    refine lv_iconst (v := 1) hx hb dX0_add_54 (by decide) ?_
    have b_ : -2147483648 ≤ (v0 5).toInt ∧ (v0 5).toInt ≤ 2147483647 := ⟨zlo _, zhi _⟩
    refine lv_iadd hx hb dX0_add_55 ?_
    refine lv_topi (fun z55 e_z55 => ?_)
    refine va_put (D := (dC, dI)) (ci := 0) (v := .int z55) (ty := .int) (C := RX0) (T := TX0) (N := 6) hx hb hG zuX0 tyX0 tyX0_ok nmX0 hown hK hP hD hS 0 rfl rfl 5 (by decide) (hG _ zv227) (fun _ h9 => h9) rfl (by decide +kernel) rfl rfl (Nat.le_of_ble_eq_true rfl) dX0_add_56 (fun H locs hP hD hS => ?_)
    have hP : va_P (dC, dI) vwCl [(h0, .inr (0, mX0 h1 h2 h3 h4 (upd (upd v0 4 z45) 5 z55))), (h1, zi k1 120 f_18), (h2, zi k2 120 f_28), (h4, zi k4 120 f_38)] H := hP
    have hD : va_D A [(h0, .inr (0, mX0 h1 h2 h3 h4 (upd (upd v0 4 z45) 5 z55))), (h1, zi k1 120 f_18), (h2, zi k2 120 f_28), (h4, zi k4 120 f_38)] := hD
    refine W.widen (k := 0) (n := 0) (by decide) (by decide) ?_
    have b_ : -2147483648 ≤ z55.toInt ∧ z55.toInt ≤ 2147483647 := ⟨zlo _, zhi _⟩
    have hpost : (1 ≤ z45.toInt ∧ z45.toInt ≤ 120) := ⟨by omega, by omega⟩
    have hP9 : va_P (dC, dI) vwCl [(h0, .inr (0, mX0 h1 h2 h3 h4 (upd (upd v0 4 z45) 5 z55))), (h1, zi k1 120 f_18), (h2, zi k2 120 f_28), (h4, zi k4 120 f_38)] H := hP
    have hD9 : va_D A [(h0, .inr (0, mX0 h1 h2 h3 h4 (upd (upd v0 4 z45) 5 z55))), (h1, zi k1 120 f_18), (h2, zi k2 120 f_28), (h4, zi k4 120 f_38)] := hD
    exact W.vret hx hb hr (fun t ht hW => ⟨⟨(fun i => ([z45, z55] : List (Int32)).getD i 0), rfl, hpost, (fun _ => 0), (fun i => ([f_18, f_28, f_38] : List (Nat → Int32)).getD i (fun _ => 0)), (fun _ => (fun _ => 0)), hf_28, by rw [ht]; exact hP9, va_K.moved hW.alike hK, hD9⟩, hS.F ht⟩) hS.2.2 dX0_add_59
set_option maxHeartbeats 8000000 in
set_option maxRecDepth 100000 in
theorem sX11_enter_0 (l : Launch) (dC : Nat → ClassId) (dI : Nat → Nat → Nat) (adK adV : Nat → Nat) (h0 : Nat) (h18 : Nat) (h4 : Nat) (h1 : Nat) (h7 : Nat) (h6 : Nat) (h5 : Nat) (h33 : Nat) (h39 : Nat) (h37 : Nat) (h35 : Nat) (h38 : Nat) (h2 : Nat) (h3 : Nat) (h11 : Nat) (h12 : Nat) (h34 : Nat) (h36 : Nat) (h23 : Nat) (h29 : Nat) (h31 : Nat) (h28 : Nat) (h25 : Nat) (h24 : Nat) (h26 : Nat) (h27 : Nat) (h30 : Nat) (h19 : Nat) (h20 : Nat) (h22 : Nat) (h32 : Nat) (h40 : Nat) (h48 : Nat) (h49 : Nat) (h21 : Nat) (h8 : Nat) (h9 : Nat) (h10 : Nat) (h13 : Nat) (h14 : Nat) (h15 : Nat) (h16 : Nat) (h17 : Nat) (k7 : ClassId) (k6 : ClassId) (k5 : ClassId) (k39 : ClassId) (k37 : ClassId) (k35 : ClassId) (k38 : ClassId) (k2 : ClassId) (k3 : ClassId) (k12 : ClassId) (k34 : ClassId) (k36 : ClassId) (k29 : ClassId) (k31 : ClassId) (k28 : ClassId) (k25 : ClassId) (k24 : ClassId) (k26 : ClassId) (k27 : ClassId) (k30 : ClassId) (k19 : ClassId) (k20 : ClassId) (k22 : ClassId) (sz : Nat) (sp0 : Value) (lw0 : Int64) (v18 : Nat → Int32) (v4 : Nat → Int32) (v1 : Nat → Int32) (f7 : Nat → Int32) (f6 : Nat → Int32) (f5 : Nat → Int64) (v33 : Nat → Int32) (f39 : Nat → Int32) (f37 : Nat → Int32) (f35 : Nat → Int32) (f38 : Nat → Int32) (f2 : Nat → Int32) (f3 : Nat → Int32) (v11 : Nat → Int32) (f12 : Nat → Int64) (f34 : Nat → Int32) (f36 : Nat → Int32) (v23 : Nat → Int32) (f29 : Nat → Int32) (f31 : Nat → Int32) (f28 : Nat → Int32) (f25 : Nat → Int32) (f24 : Nat → Int32) (f26 : Nat → Int32) (f27 : Nat → Int32) (f30 : Nat → Int32) (f19 : Nat → Int32) (f20 : Nat → Int32) (f22 : Nat → Int32) (hv18 : zR rg_Documents v18) (hv4 : zR rg_Words400 v4) (hv1 : zR rg_Tape v1) (hf7 : zA (-1) 399 f7) (hf6 : zA 0 399 f6) (hv33 : zR rg_Intake v33) (hf37 : zA 0 299 f37) (hf35 : zA (-1) 299 f35) (hf38 : zA 0 299 f38) (hv11 : zR rg_Words10 v11) (hf36 : zA 0 399 f36) (hv23 : zR rg_Postings v23) (hf28 : zA 0 832 f28) (hf25 : zA 0 1250 f25) (hf20 : zA 0 300 f20) (hp0_ : zPhi f25 f28 f29 (v23 9).toInt (v23 8).toInt) : Met l yX11_enter (zw yX11_enter cX11_enter 4 (some .int)) { frames := 8, cells := 0, slots := 0, locals := 171 } (zPc dC dI adK adV [.ref h0] sz [(h0, .inr (11, mX11 h1 h4 h11 h18 h23 h32 h33 h40 h48 h49 sp0 lw0)), (h18, .inr (0, mX0 h19 h20 h21 h22 v18)), (h4, .inr (10, mX10 h5 h6 h7 h8 h9 h10 v4)), (h1, .inr (9, mX9 h2 h3 v1)), (h7, zi k7 400 f7), (h6, zi k6 400 f6), (h5, .inl (k5, 400, .inr (.inl f5))), (h33, .inr (2, mX2 h1 h4 h11 h34 h35 h36 h37 h38 h39 v33)), (h39, zi k39 400 f39), (h37, zi k37 400 f37), (h35, zi k35 300 f35), (h38, zi k38 400 f38), (h2, zi k2 600 f2), (h3, zi k3 12 f3), (h11, .inr (10, mX10 h12 h13 h14 h15 h16 h17 v11)), (h12, .inl (k12, 10, .inr (.inl f12))), (h34, zi k34 300 f34), (h36, zi k36 300 f36), (h23, .inr (6, mX6 h24 h25 h26 h27 h28 h29 h30 h31 v23)), (h29, zi k29 400 f29), (h31, zi k31 400 f31), (h28, zi k28 400 f28), (h25, zi k25 833 f25), (h24, zi k24 1250 f24), (h26, zi k26 833 f26), (h27, zi k27 400 f27), (h30, zi k30 400 f30), (h19, zi k19 120 f19), (h20, zi k20 120 f20), (h22, zi k22 120 f22)] [(k7, .int), (k6, .int), (k5, .long), (k39, .int), (k37, .int), (k35, .int), (k38, .int), (k2, .byte), (k3, .byte), (k12, .long), (k34, .int), (k36, .int), (k29, .int), (k31, .int), (k28, .int), (k25, .int), (k24, .int), (k26, .int), (k27, .int), (k30, .int), (k19, .boolean), (k20, .int), (k22, .int)]) (va_Qi (fun (r : Int32) (u : Nat → Int32) => ((-2) ≤ r.toInt ∧ r.toInt ≤ 119) ∧ (0 ≤ (u 0).toInt ∧ (u 0).toInt ≤ 120) ∧ (0 ≤ (u 2).toInt ∧ (u 2).toInt ≤ 400) ∧ (0 ≤ (u 3).toInt ∧ (u 3).toInt ≤ 0) ∧ (0 ≤ (u 4).toInt ∧ (u 4).toInt ≤ 12) ∧ (0 ≤ (u 5).toInt ∧ (u 5).toInt ≤ 300) ∧ (0 ≤ (u 6).toInt ∧ (u 6).toInt ≤ 300) ∧ (0 ≤ (u 7).toInt ∧ (u 7).toInt ≤ 833) ∧ (0 ≤ (u 8).toInt ∧ (u 8).toInt ≤ 1250)) (fun (u : Nat → Int32) (t : State) => ∃ (ww : Nat → Int64) (aa : Nat → Nat → Int32) (bb : Nat → Nat → Int64), zA (-1) 399 (aa 0) ∧ zA 0 399 (aa 1) ∧ zA 0 299 (aa 3) ∧ zA (-1) 299 (aa 4) ∧ zA 0 299 (aa 5) ∧ zA 0 399 (aa 8) ∧ zA 0 832 (aa 11) ∧ zA 0 1250 (aa 12) ∧ zA 0 300 (aa 18) ∧ (zPhi (aa 12) (aa 11) (aa 9) (u 8).toInt (u 7).toInt) ∧ va_P (dC, dI) vwCl [(h0, .inr (11, mX11 h1 h4 h11 h18 h23 h32 h33 h40 h48 h49 sp0 lw0)), (h18, .inr (0, mX0 h19 h20 h21 h22 (upd (upd v18 4 (u 0)) 5 (u 1)))), (h4, .inr (10, mX10 h5 h6 h7 h8 h9 h10 (upd v4 7 (u 2)))), (h1, .inr (9, mX9 h2 h3 (upd (upd v1 2 (u 3)) 3 (u 4)))), (h7, zi k7 400 (aa 0)), (h6, zi k6 400 (aa 1)), (h5, .inl (k5, 400, .inr (.inl (bb 0)))), (h33, .inr (2, mX2 h1 h4 h11 h34 h35 h36 h37 h38 h39 (upd (upd v33 9 (u 5)) 10 (u 6)))), (h39, zi k39 400 (aa 2)), (h37, zi k37 400 (aa 3)), (h35, zi k35 300 (aa 4)), (h38, zi k38 400 (aa 5)), (h2, zi k2 600 f2), (h3, zi k3 12 (aa 6)), (h11, .inr (10, mX10 h12 h13 h14 h15 h16 h17 v11)), (h12, .inl (k12, 10, .inr (.inl f12))), (h34, zi k34 300 (aa 7)), (h36, zi k36 300 (aa 8)), (h23, .inr (6, mX6 h24 h25 h26 h27 h28 h29 h30 h31 (upd (upd (upd (upd v23 8 (u 7)) 9 (u 8)) 10 (u 9)) 11 (u 10)))), (h29, zi k29 400 (aa 9)), (h31, zi k31 400 (aa 10)), (h28, zi k28 400 (aa 11)), (h25, zi k25 833 (aa 12)), (h24, zi k24 1250 (aa 13)), (h26, zi k26 833 (aa 14)), (h27, zi k27 400 (aa 15)), (h30, zi k30 400 (aa 16)), (h19, zi k19 120 (aa 17)), (h20, zi k20 120 (aa 18)), (h22, zi k22 120 (aa 19))] t.heap ∧ va_K (dC, dI) vwCl [(k7, .int), (k6, .int), (k5, .long), (k39, .int), (k37, .int), (k35, .int), (k38, .int), (k2, .byte), (k3, .byte), (k12, .long), (k34, .int), (k36, .int), (k29, .int), (k31, .int), (k28, .int), (k25, .int), (k24, .int), (k26, .int), (k27, .int), (k30, .int), (k19, .boolean), (k20, .int), (k22, .int)] t ∧ va_D (va_A [(h0, .inr (11, mX11 h1 h4 h11 h18 h23 h32 h33 h40 h48 h49 sp0 lw0)), (h18, .inr (0, mX0 h19 h20 h21 h22 v18)), (h4, .inr (10, mX10 h5 h6 h7 h8 h9 h10 v4)), (h1, .inr (9, mX9 h2 h3 v1)), (h7, zi k7 400 f7), (h6, zi k6 400 f6), (h5, .inl (k5, 400, .inr (.inl f5))), (h33, .inr (2, mX2 h1 h4 h11 h34 h35 h36 h37 h38 h39 v33)), (h39, zi k39 400 f39), (h37, zi k37 400 f37), (h35, zi k35 300 f35), (h38, zi k38 400 f38), (h2, zi k2 600 f2), (h3, zi k3 12 f3), (h11, .inr (10, mX10 h12 h13 h14 h15 h16 h17 v11)), (h12, .inl (k12, 10, .inr (.inl f12))), (h34, zi k34 300 f34), (h36, zi k36 300 f36), (h23, .inr (6, mX6 h24 h25 h26 h27 h28 h29 h30 h31 v23)), (h29, zi k29 400 f29), (h31, zi k31 400 f31), (h28, zi k28 400 f28), (h25, zi k25 833 f25), (h24, zi k24 1250 f24), (h26, zi k26 833 f26), (h27, zi k27 400 f27), (h30, zi k30 400 f30), (h19, zi k19 120 f19), (h20, zi k20 120 f20), (h22, zi k22 120 f22)] sz) [(h0, .inr (11, mX11 h1 h4 h11 h18 h23 h32 h33 h40 h48 h49 sp0 lw0)), (h18, .inr (0, mX0 h19 h20 h21 h22 (upd (upd v18 4 (u 0)) 5 (u 1)))), (h4, .inr (10, mX10 h5 h6 h7 h8 h9 h10 (upd v4 7 (u 2)))), (h1, .inr (9, mX9 h2 h3 (upd (upd v1 2 (u 3)) 3 (u 4)))), (h7, zi k7 400 (aa 0)), (h6, zi k6 400 (aa 1)), (h5, .inl (k5, 400, .inr (.inl (bb 0)))), (h33, .inr (2, mX2 h1 h4 h11 h34 h35 h36 h37 h38 h39 (upd (upd v33 9 (u 5)) 10 (u 6)))), (h39, zi k39 400 (aa 2)), (h37, zi k37 400 (aa 3)), (h35, zi k35 300 (aa 4)), (h38, zi k38 400 (aa 5)), (h2, zi k2 600 f2), (h3, zi k3 12 (aa 6)), (h11, .inr (10, mX10 h12 h13 h14 h15 h16 h17 v11)), (h12, .inl (k12, 10, .inr (.inl f12))), (h34, zi k34 300 (aa 7)), (h36, zi k36 300 (aa 8)), (h23, .inr (6, mX6 h24 h25 h26 h27 h28 h29 h30 h31 (upd (upd (upd (upd v23 8 (u 7)) 9 (u 8)) 10 (u 9)) 11 (u 10)))), (h29, zi k29 400 (aa 9)), (h31, zi k31 400 (aa 10)), (h28, zi k28 400 (aa 11)), (h25, zi k25 833 (aa 12)), (h24, zi k24 1250 (aa 13)), (h26, zi k26 833 (aa 14)), (h27, zi k27 400 (aa 15)), (h30, zi k30 400 (aa 16)), (h19, zi k19 120 (aa 17)), (h20, zi k20 120 (aa 18)), (h22, zi k22 120 (aa 19))]) (va_A [(h0, .inr (11, mX11 h1 h4 h11 h18 h23 h32 h33 h40 h48 h49 sp0 lw0)), (h18, .inr (0, mX0 h19 h20 h21 h22 v18)), (h4, .inr (10, mX10 h5 h6 h7 h8 h9 h10 v4)), (h1, .inr (9, mX9 h2 h3 v1)), (h7, zi k7 400 f7), (h6, zi k6 400 f6), (h5, .inl (k5, 400, .inr (.inl f5))), (h33, .inr (2, mX2 h1 h4 h11 h34 h35 h36 h37 h38 h39 v33)), (h39, zi k39 400 f39), (h37, zi k37 400 f37), (h35, zi k35 300 f35), (h38, zi k38 400 f38), (h2, zi k2 600 f2), (h3, zi k3 12 f3), (h11, .inr (10, mX10 h12 h13 h14 h15 h16 h17 v11)), (h12, .inl (k12, 10, .inr (.inl f12))), (h34, zi k34 300 f34), (h36, zi k36 300 f36), (h23, .inr (6, mX6 h24 h25 h26 h27 h28 h29 h30 h31 v23)), (h29, zi k29 400 f29), (h31, zi k31 400 f31), (h28, zi k28 400 f28), (h25, zi k25 833 f25), (h24, zi k24 1250 f24), (h26, zi k26 833 f26), (h27, zi k27 400 f27), (h30, zi k30 400 f30), (h19, zi k19 120 f19), (h20, zi k20 120 f20), (h22, zi k22 120 f22)] sz)) 0 0 (va_A [(h0, .inr (11, mX11 h1 h4 h11 h18 h23 h32 h33 h40 h48 h49 sp0 lw0)), (h18, .inr (0, mX0 h19 h20 h21 h22 v18)), (h4, .inr (10, mX10 h5 h6 h7 h8 h9 h10 v4)), (h1, .inr (9, mX9 h2 h3 v1)), (h7, zi k7 400 f7), (h6, zi k6 400 f6), (h5, .inl (k5, 400, .inr (.inl f5))), (h33, .inr (2, mX2 h1 h4 h11 h34 h35 h36 h37 h38 h39 v33)), (h39, zi k39 400 f39), (h37, zi k37 400 f37), (h35, zi k35 300 f35), (h38, zi k38 400 f38), (h2, zi k2 600 f2), (h3, zi k3 12 f3), (h11, .inr (10, mX10 h12 h13 h14 h15 h16 h17 v11)), (h12, .inl (k12, 10, .inr (.inl f12))), (h34, zi k34 300 f34), (h36, zi k36 300 f36), (h23, .inr (6, mX6 h24 h25 h26 h27 h28 h29 h30 h31 v23)), (h29, zi k29 400 f29), (h31, zi k31 400 f31), (h28, zi k28 400 f28), (h25, zi k25 833 f25), (h24, zi k24 1250 f24), (h26, zi k26 833 f26), (h27, zi k27 400 f27), (h30, zi k30 400 f30), (h19, zi k19 120 f19), (h20, zi k20 120 f20), (h22, zi k22 120 f22)] sz) := by
  refine Met.ofW (cc := cX11_enter) (maxL := 4) (ret := (some .int)) (by decide) rfl ?_
  intro p e s m args below meth c s₁ B hml hv
  obtain ⟨rfl, hsz, hP, hK, hD0, hE, hZ⟩ := hv
  have hx := B.exec
  have hb := B.bytes
  have hr := B.returns
  have hG : ∀ w ∈ zG, w.before _ s = true := fun w h => atoms_spec (ws := (zw yX11_enter cX11_enter 4 (some .int))) B.pre w (List.mem_cons_of_mem _ h)
  have hown : s.vm.findClass RX11 = some m.cls := findClass_of_methodNamed B.named
  have hlocks := B.notSynchronized

  subst hsz
  have hD := hD0.self (sz := s.heap.size)
  generalize hAe : va_A [(h0, .inr (11, mX11 h1 h4 h11 h18 h23 h32 h33 h40 h48 h49 sp0 lw0)), (h18, .inr (0, mX0 h19 h20 h21 h22 v18)), (h4, .inr (10, mX10 h5 h6 h7 h8 h9 h10 v4)), (h1, .inr (9, mX9 h2 h3 v1)), (h7, zi k7 400 f7), (h6, zi k6 400 f6), (h5, .inl (k5, 400, .inr (.inl f5))), (h33, .inr (2, mX2 h1 h4 h11 h34 h35 h36 h37 h38 h39 v33)), (h39, zi k39 400 f39), (h37, zi k37 400 f37), (h35, zi k35 300 f35), (h38, zi k38 400 f38), (h2, zi k2 600 f2), (h3, zi k3 12 f3), (h11, .inr (10, mX10 h12 h13 h14 h15 h16 h17 v11)), (h12, .inl (k12, 10, .inr (.inl f12))), (h34, zi k34 300 f34), (h36, zi k36 300 f36), (h23, .inr (6, mX6 h24 h25 h26 h27 h28 h29 h30 h31 v23)), (h29, zi k29 400 f29), (h31, zi k31 400 f31), (h28, zi k28 400 f28), (h25, zi k25 833 f25), (h24, zi k24 1250 f24), (h26, zi k26 833 f26), (h27, zi k27 400 f27), (h30, zi k30 400 f30), (h19, zi k19 120 f19), (h20, zi k20 120 f20), (h22, zi k22 120 f22)] s.heap.size = A at hD hZ ⊢
  have hA : ∀ q : Nat, s.heap.size ≤ q → A q := fun q h => by rw [← hAe]; exact Or.inr h
  have hS : va_S A s.heap s.heap [] := va_S.rf
  have hl := lv_entry ([.ref h0]) (n := 4) (Nat.le_of_ble_eq_true rfl)
  rw [lg_entry_eq]
  generalize (lg_sl ([.ref h0]) ++ List.replicate (4 - (lg_sl ([.ref h0])).length) Slot.unset).toArray = ls at hl ⊢
  have hl : lv_has ls 4 [(0, .ref h0)] := hl
  have b_ := zk_m2
  have b_ : 0 ≤ (v23 9).toInt ∧ (v23 9).toInt ≤ 1250 := hv23 9
  have b_ : 0 ≤ (v23 8).toInt ∧ (v23 8).toInt ≤ 833 := hv23 8
  refine lv_aload_n hx hb dX11_enter_0 rfl (lv_at hl 0 rfl) ?_
  refine va_get (D := (dC, dI)) (ci := 11) (v := .ref h18) (C := RX11) (T := TX11) (N := 12) hx hb hG zuX11 hown hK hP 0 rfl rfl 3 (by decide) (hG _ zv560) (fun _ h9 => h9) rfl dX11_enter_1 ?_
  have hPc := hP.sub (ws' := [(h18, .inr (0, mX0 h19 h20 h21 h22 v18))]) [1] rfl
  have hDc := hD.sub (ws' := [(h18, .inr (0, mX0 h19 h20 h21 h22 v18))]) [1] (by decide) rfl
  have hKc := hK.sub (tys' := []) [] rfl
  have hFc := va_free (wc := [(h18, .inr (0, mX0 h19 h20 h21 h22 v18))]) hD hS hA [1] rfl
  refine va_calli (va_runV (As := []) (rest := []) ⟨hx, hb, hml, hown, hG⟩ (sX0_size_0 l dC dI adK adV h18 h19 h20 h21 h22 s.heap.size v18 hv18) (cwV 0 hG (zgV zv622 zv623 zv624 zv132 zv625) rfl rfl rfl (by decide +kernel) ⟨Nat.le_of_ble_eq_true rfl, Nat.le_of_ble_eq_true rfl⟩) ⟨zPc_blind, va_recv hKc hPc (ci := 0) (q0 := 0) rfl rfl, zPc_pre hPc hKc hDc hE hS hFc hZ⟩ rfl rfl hl.1 rfl (lv_room (Nat.le_of_ble_eq_true rfl)) dX11_enter_4 ⟨Nat.le_of_ble_eq_true rfl, Nat.le_of_ble_eq_true rfl⟩) hS (fun q _ h => hFc q h) hFc (fun r4_ u4_ t H1 locs ht hvm hw hB hz1 hk1 hS => ?_)
  have hw : (0 ≤ r4_.toInt ∧ r4_.toInt ≤ 120) := hw
  have b_ := hw
  obtain ⟨w4_, a4_, b4_, hP1, hK1, hD1⟩ := hB
  rw [ht] at hP1
  obtain ⟨hP, hD⟩ := va_join (wr := [(h0, .inr (11, mX11 h1 h4 h11 h18 h23 h32 h33 h40 h48 h49 sp0 lw0)), (h4, .inr (10, mX10 h5 h6 h7 h8 h9 h10 v4)), (h1, .inr (9, mX9 h2 h3 v1)), (h7, zi k7 400 f7), (h6, zi k6 400 f6), (h5, .inl (k5, 400, .inr (.inl f5))), (h33, .inr (2, mX2 h1 h4 h11 h34 h35 h36 h37 h38 h39 v33)), (h39, zi k39 400 f39), (h37, zi k37 400 f37), (h35, zi k35 300 f35), (h38, zi k38 400 f38), (h2, zi k2 600 f2), (h3, zi k3 12 f3), (h11, .inr (10, mX10 h12 h13 h14 h15 h16 h17 v11)), (h12, .inl (k12, 10, .inr (.inl f12))), (h34, zi k34 300 f34), (h36, zi k36 300 f36), (h23, .inr (6, mX6 h24 h25 h26 h27 h28 h29 h30 h31 v23)), (h29, zi k29 400 f29), (h31, zi k31 400 f31), (h28, zi k28 400 f28), (h25, zi k25 833 f25), (h24, zi k24 1250 f24), (h26, zi k26 833 f26), (h27, zi k27 400 f27), (h30, zi k30 400 f30), (h19, zi k19 120 f19), (h20, zi k20 120 f20), (h22, zi k22 120 f22)]) (w1 := [(h18, .inr (0, mX0 h19 h20 h21 h22 v18))]) hP hD [1] [0, 2, 3, 4, 5, 6, 7, 8, 9, 10, 11, 12, 13, 14, 15, 16, 17, 18, 19, 20, 21, 22, 23, 24, 25, 26, 27, 28, 29] rfl rfl (by decide) (by decide) hk1 hFc hP1 hD1
  have hP : va_P (dC, dI) vwCl [(h0, .inr (11, mX11 h1 h4 h11 h18 h23 h32 h33 h40 h48 h49 sp0 lw0)), (h18, .inr (0, mX0 h19 h20 h21 h22 v18)), (h4, .inr (10, mX10 h5 h6 h7 h8 h9 h10 v4)), (h1, .inr (9, mX9 h2 h3 v1)), (h7, zi k7 400 f7), (h6, zi k6 400 f6), (h5, .inl (k5, 400, .inr (.inl f5))), (h33, .inr (2, mX2 h1 h4 h11 h34 h35 h36 h37 h38 h39 v33)), (h39, zi k39 400 f39), (h37, zi k37 400 f37), (h35, zi k35 300 f35), (h38, zi k38 400 f38), (h2, zi k2 600 f2), (h3, zi k3 12 f3), (h11, .inr (10, mX10 h12 h13 h14 h15 h16 h17 v11)), (h12, .inl (k12, 10, .inr (.inl f12))), (h34, zi k34 300 f34), (h36, zi k36 300 f36), (h23, .inr (6, mX6 h24 h25 h26 h27 h28 h29 h30 h31 v23)), (h29, zi k29 400 f29), (h31, zi k31 400 f31), (h28, zi k28 400 f28), (h25, zi k25 833 f25), (h24, zi k24 1250 f24), (h26, zi k26 833 f26), (h27, zi k27 400 f27), (h30, zi k30 400 f30), (h19, zi k19 120 f19), (h20, zi k20 120 f20), (h22, zi k22 120 f22)] H1 := hP.sub [0, 29, 1, 2, 3, 4, 5, 6, 7, 8, 9, 10, 11, 12, 13, 14, 15, 16, 17, 18, 19, 20, 21, 22, 23, 24, 25, 26, 27, 28] rfl
  have hD : va_D A [(h0, .inr (11, mX11 h1 h4 h11 h18 h23 h32 h33 h40 h48 h49 sp0 lw0)), (h18, .inr (0, mX0 h19 h20 h21 h22 v18)), (h4, .inr (10, mX10 h5 h6 h7 h8 h9 h10 v4)), (h1, .inr (9, mX9 h2 h3 v1)), (h7, zi k7 400 f7), (h6, zi k6 400 f6), (h5, .inl (k5, 400, .inr (.inl f5))), (h33, .inr (2, mX2 h1 h4 h11 h34 h35 h36 h37 h38 h39 v33)), (h39, zi k39 400 f39), (h37, zi k37 400 f37), (h35, zi k35 300 f35), (h38, zi k38 400 f38), (h2, zi k2 600 f2), (h3, zi k3 12 f3), (h11, .inr (10, mX10 h12 h13 h14 h15 h16 h17 v11)), (h12, .inl (k12, 10, .inr (.inl f12))), (h34, zi k34 300 f34), (h36, zi k36 300 f36), (h23, .inr (6, mX6 h24 h25 h26 h27 h28 h29 h30 h31 v23)), (h29, zi k29 400 f29), (h31, zi k31 400 f31), (h28, zi k28 400 f28), (h25, zi k25 833 f25), (h24, zi k24 1250 f24), (h26, zi k26 833 f26), (h27, zi k27 400 f27), (h30, zi k30 400 f30), (h19, zi k19 120 f19), (h20, zi k20 120 f20), (h22, zi k22 120 f22)] := hD.sub [0, 29, 1, 2, 3, 4, 5, 6, 7, 8, 9, 10, 11, 12, 13, 14, 15, 16, 17, 18, 19, 20, 21, 22, 23, 24, 25, 26, 27, 28] (by decide) rfl
  generalize H1 = H at hP hS ⊢
  clear hz1
  refine lv_istore_n (lv' := [(1, .int r4_), (0, .ref h0)]) hx hb dX11_enter_7 rfl hl (by decide) rfl (fun ls hl => ?_)
  refine lv_aload_n hx hb dX11_enter_8 rfl (lv_at hl 1 rfl) ?_
  refine va_get (D := (dC, dI)) (ci := 11) (v := .ref h4) (C := RX11) (T := TX11) (N := 12) hx hb hG zuX11 hown hK hP 0 rfl rfl 1 (by decide) (hG _ zv558) (fun _ h9 => h9) rfl dX11_enter_9 ?_
  have hPc := hP.sub (ws' := [(h4, .inr (10, mX10 h5 h6 h7 h8 h9 h10 v4))]) [2] rfl
  have hDc := hD.sub (ws' := [(h4, .inr (10, mX10 h5 h6 h7 h8 h9 h10 v4))]) [2] (by decide) rfl
  have hKc := hK.sub (tys' := []) [] rfl
  have hFc := va_free (wc := [(h4, .inr (10, mX10 h5 h6 h7 h8 h9 h10 v4))]) hD hS hA [2] rfl
  refine va_calli (va_runV (As := []) (rest := []) ⟨hx, hb, hml, hown, hG⟩ (sX10_size_0 l dC dI adK adV h4 h5 h6 h7 h8 h9 h10 H.size v4 hv4) (cwV 0 hG (zgV zv626 zv627 zv628 zv131 zv629) rfl rfl rfl (by decide +kernel) ⟨Nat.le_of_ble_eq_true rfl, Nat.le_of_ble_eq_true rfl⟩) ⟨zPc_blind, va_recv hKc hPc (ci := 10) (q0 := 0) rfl rfl, zPc_pre hPc hKc hDc hE hS hFc hZ⟩ rfl rfl hl.1 rfl (lv_room (Nat.le_of_ble_eq_true rfl)) dX11_enter_12 ⟨Nat.le_of_ble_eq_true rfl, Nat.le_of_ble_eq_true rfl⟩) hS (fun q _ h => hFc q h) hFc (fun r12_ u12_ t H1 locs ht hvm hw hB hz1 hk1 hS => ?_)
  have hw : (0 ≤ r12_.toInt ∧ r12_.toInt ≤ 400) ∧ (r12_.toInt = (v4 7).toInt) := hw
  obtain ⟨b_, hX12_0⟩ := hw
  obtain ⟨w12_, a12_, b12_, hP1, hK1, hD1⟩ := hB
  rw [ht] at hP1
  obtain ⟨hP, hD⟩ := va_join (wr := [(h0, .inr (11, mX11 h1 h4 h11 h18 h23 h32 h33 h40 h48 h49 sp0 lw0)), (h18, .inr (0, mX0 h19 h20 h21 h22 v18)), (h1, .inr (9, mX9 h2 h3 v1)), (h7, zi k7 400 f7), (h6, zi k6 400 f6), (h5, .inl (k5, 400, .inr (.inl f5))), (h33, .inr (2, mX2 h1 h4 h11 h34 h35 h36 h37 h38 h39 v33)), (h39, zi k39 400 f39), (h37, zi k37 400 f37), (h35, zi k35 300 f35), (h38, zi k38 400 f38), (h2, zi k2 600 f2), (h3, zi k3 12 f3), (h11, .inr (10, mX10 h12 h13 h14 h15 h16 h17 v11)), (h12, .inl (k12, 10, .inr (.inl f12))), (h34, zi k34 300 f34), (h36, zi k36 300 f36), (h23, .inr (6, mX6 h24 h25 h26 h27 h28 h29 h30 h31 v23)), (h29, zi k29 400 f29), (h31, zi k31 400 f31), (h28, zi k28 400 f28), (h25, zi k25 833 f25), (h24, zi k24 1250 f24), (h26, zi k26 833 f26), (h27, zi k27 400 f27), (h30, zi k30 400 f30), (h19, zi k19 120 f19), (h20, zi k20 120 f20), (h22, zi k22 120 f22)]) (w1 := [(h4, .inr (10, mX10 h5 h6 h7 h8 h9 h10 v4))]) hP hD [2] [0, 1, 3, 4, 5, 6, 7, 8, 9, 10, 11, 12, 13, 14, 15, 16, 17, 18, 19, 20, 21, 22, 23, 24, 25, 26, 27, 28, 29] rfl rfl (by decide) (by decide) hk1 hFc hP1 hD1
  have hP : va_P (dC, dI) vwCl [(h0, .inr (11, mX11 h1 h4 h11 h18 h23 h32 h33 h40 h48 h49 sp0 lw0)), (h18, .inr (0, mX0 h19 h20 h21 h22 v18)), (h4, .inr (10, mX10 h5 h6 h7 h8 h9 h10 v4)), (h1, .inr (9, mX9 h2 h3 v1)), (h7, zi k7 400 f7), (h6, zi k6 400 f6), (h5, .inl (k5, 400, .inr (.inl f5))), (h33, .inr (2, mX2 h1 h4 h11 h34 h35 h36 h37 h38 h39 v33)), (h39, zi k39 400 f39), (h37, zi k37 400 f37), (h35, zi k35 300 f35), (h38, zi k38 400 f38), (h2, zi k2 600 f2), (h3, zi k3 12 f3), (h11, .inr (10, mX10 h12 h13 h14 h15 h16 h17 v11)), (h12, .inl (k12, 10, .inr (.inl f12))), (h34, zi k34 300 f34), (h36, zi k36 300 f36), (h23, .inr (6, mX6 h24 h25 h26 h27 h28 h29 h30 h31 v23)), (h29, zi k29 400 f29), (h31, zi k31 400 f31), (h28, zi k28 400 f28), (h25, zi k25 833 f25), (h24, zi k24 1250 f24), (h26, zi k26 833 f26), (h27, zi k27 400 f27), (h30, zi k30 400 f30), (h19, zi k19 120 f19), (h20, zi k20 120 f20), (h22, zi k22 120 f22)] H1 := hP.sub [0, 1, 29, 2, 3, 4, 5, 6, 7, 8, 9, 10, 11, 12, 13, 14, 15, 16, 17, 18, 19, 20, 21, 22, 23, 24, 25, 26, 27, 28] rfl
  have hD : va_D A [(h0, .inr (11, mX11 h1 h4 h11 h18 h23 h32 h33 h40 h48 h49 sp0 lw0)), (h18, .inr (0, mX0 h19 h20 h21 h22 v18)), (h4, .inr (10, mX10 h5 h6 h7 h8 h9 h10 v4)), (h1, .inr (9, mX9 h2 h3 v1)), (h7, zi k7 400 f7), (h6, zi k6 400 f6), (h5, .inl (k5, 400, .inr (.inl f5))), (h33, .inr (2, mX2 h1 h4 h11 h34 h35 h36 h37 h38 h39 v33)), (h39, zi k39 400 f39), (h37, zi k37 400 f37), (h35, zi k35 300 f35), (h38, zi k38 400 f38), (h2, zi k2 600 f2), (h3, zi k3 12 f3), (h11, .inr (10, mX10 h12 h13 h14 h15 h16 h17 v11)), (h12, .inl (k12, 10, .inr (.inl f12))), (h34, zi k34 300 f34), (h36, zi k36 300 f36), (h23, .inr (6, mX6 h24 h25 h26 h27 h28 h29 h30 h31 v23)), (h29, zi k29 400 f29), (h31, zi k31 400 f31), (h28, zi k28 400 f28), (h25, zi k25 833 f25), (h24, zi k24 1250 f24), (h26, zi k26 833 f26), (h27, zi k27 400 f27), (h30, zi k30 400 f30), (h19, zi k19 120 f19), (h20, zi k20 120 f20), (h22, zi k22 120 f22)] := hD.sub [0, 1, 29, 2, 3, 4, 5, 6, 7, 8, 9, 10, 11, 12, 13, 14, 15, 16, 17, 18, 19, 20, 21, 22, 23, 24, 25, 26, 27, 28] (by decide) rfl
  generalize H1 = H at hP hS ⊢
  clear hz1
  refine lv_istore_n (lv' := [(2, .int r12_), (1, .int r4_), (0, .ref h0)]) hx hb dX11_enter_15 rfl hl (by decide) rfl (fun ls hl => ?_)
  refine lv_iload_n hx hb dX11_enter_16 rfl (lv_at hl 1 rfl) ?_
  refine lv_bipush (v := 120) hx hb dX11_enter_17 (by decide) ?_
  refine lv_icmp_ge (tgt := 51) hx hb dX11_enter_19 (by decide) (fun c_ => ?_) (fun c_ => ?_)
  · skip
    have b_ := zT_ge rfl zk_120 c_
    refine lv_iconst (v := 0) hx hb dX11_enter_51 (by decide) ?_
    refine lv_istore_n (lv' := [(3, .int 0), (2, .int r12_), (1, .int r4_), (0, .ref h0)]) hx hb dX11_enter_52 rfl hl (by decide) rfl (fun ls hl => ?_)
    refine lv_aload_n hx hb dX11_enter_53 rfl (lv_at hl 3 rfl) ?_
    refine va_get (D := (dC, dI)) (ci := 11) (v := .ref h1) (C := RX11) (T := TX11) (N := 12) hx hb hG zuX11 hown hK hP 0 rfl rfl 0 (by decide) (hG _ zv557) (fun _ h9 => h9) rfl dX11_enter_54 ?_
    have hPc := hP.sub (ws' := [(h1, .inr (9, mX9 h2 h3 v1))]) [3] rfl
    have hDc := hD.sub (ws' := [(h1, .inr (9, mX9 h2 h3 v1))]) [3] (by decide) rfl
    have hKc := hK.sub (tys' := []) [] rfl
    have hFc := va_free (wc := [(h1, .inr (9, mX9 h2 h3 v1))]) hD hS hA [3] rfl
    refine va_callv (va_runV (As := []) (rest := []) ⟨hx, hb, hml, hown, hG⟩ (sX9_clear_0 l dC dI adK adV h1 h2 h3 H.size v1 hv1) (cwV 0 hG (zgV zv809 zv810 zv811 zv130 zv812) rfl rfl rfl (by decide +kernel) ⟨Nat.le_of_ble_eq_true rfl, Nat.le_of_ble_eq_true rfl⟩) ⟨zPc_blind, va_recv hKc hPc (ci := 9) (q0 := 0) rfl rfl, zPc_pre hPc hKc hDc hE hS hFc hZ⟩ rfl rfl hl.1 rfl (lv_room (Nat.le_of_ble_eq_true rfl)) dX11_enter_57 ⟨Nat.le_of_ble_eq_true rfl, Nat.le_of_ble_eq_true rfl⟩) hS (fun q _ h => hFc q h) hFc (fun u57_ t H1 locs ht hvm hw hB hz1 hk1 hS => ?_)
    have hw : (0 ≤ (u57_ 0).toInt ∧ (u57_ 0).toInt ≤ 0) := hw
    have b_ := hw
    obtain ⟨w57_, a57_, b57_, hP1, hK1, hD1⟩ := hB
    rw [ht] at hP1
    obtain ⟨hP, hD⟩ := va_join (wr := [(h0, .inr (11, mX11 h1 h4 h11 h18 h23 h32 h33 h40 h48 h49 sp0 lw0)), (h18, .inr (0, mX0 h19 h20 h21 h22 v18)), (h4, .inr (10, mX10 h5 h6 h7 h8 h9 h10 v4)), (h7, zi k7 400 f7), (h6, zi k6 400 f6), (h5, .inl (k5, 400, .inr (.inl f5))), (h33, .inr (2, mX2 h1 h4 h11 h34 h35 h36 h37 h38 h39 v33)), (h39, zi k39 400 f39), (h37, zi k37 400 f37), (h35, zi k35 300 f35), (h38, zi k38 400 f38), (h2, zi k2 600 f2), (h3, zi k3 12 f3), (h11, .inr (10, mX10 h12 h13 h14 h15 h16 h17 v11)), (h12, .inl (k12, 10, .inr (.inl f12))), (h34, zi k34 300 f34), (h36, zi k36 300 f36), (h23, .inr (6, mX6 h24 h25 h26 h27 h28 h29 h30 h31 v23)), (h29, zi k29 400 f29), (h31, zi k31 400 f31), (h28, zi k28 400 f28), (h25, zi k25 833 f25), (h24, zi k24 1250 f24), (h26, zi k26 833 f26), (h27, zi k27 400 f27), (h30, zi k30 400 f30), (h19, zi k19 120 f19), (h20, zi k20 120 f20), (h22, zi k22 120 f22)]) (w1 := [(h1, .inr (9, mX9 h2 h3 (upd v1 2 (u57_ 0))))]) hP hD [3] [0, 1, 2, 4, 5, 6, 7, 8, 9, 10, 11, 12, 13, 14, 15, 16, 17, 18, 19, 20, 21, 22, 23, 24, 25, 26, 27, 28, 29] rfl rfl (by decide) (by decide) hk1 hFc hP1 hD1
    have hP : va_P (dC, dI) vwCl [(h0, .inr (11, mX11 h1 h4 h11 h18 h23 h32 h33 h40 h48 h49 sp0 lw0)), (h18, .inr (0, mX0 h19 h20 h21 h22 v18)), (h4, .inr (10, mX10 h5 h6 h7 h8 h9 h10 v4)), (h1, .inr (9, mX9 h2 h3 (upd v1 2 (u57_ 0)))), (h7, zi k7 400 f7), (h6, zi k6 400 f6), (h5, .inl (k5, 400, .inr (.inl f5))), (h33, .inr (2, mX2 h1 h4 h11 h34 h35 h36 h37 h38 h39 v33)), (h39, zi k39 400 f39), (h37, zi k37 400 f37), (h35, zi k35 300 f35), (h38, zi k38 400 f38), (h2, zi k2 600 f2), (h3, zi k3 12 f3), (h11, .inr (10, mX10 h12 h13 h14 h15 h16 h17 v11)), (h12, .inl (k12, 10, .inr (.inl f12))), (h34, zi k34 300 f34), (h36, zi k36 300 f36), (h23, .inr (6, mX6 h24 h25 h26 h27 h28 h29 h30 h31 v23)), (h29, zi k29 400 f29), (h31, zi k31 400 f31), (h28, zi k28 400 f28), (h25, zi k25 833 f25), (h24, zi k24 1250 f24), (h26, zi k26 833 f26), (h27, zi k27 400 f27), (h30, zi k30 400 f30), (h19, zi k19 120 f19), (h20, zi k20 120 f20), (h22, zi k22 120 f22)] H1 := hP.sub [0, 1, 2, 29, 3, 4, 5, 6, 7, 8, 9, 10, 11, 12, 13, 14, 15, 16, 17, 18, 19, 20, 21, 22, 23, 24, 25, 26, 27, 28] rfl
    have hD : va_D A [(h0, .inr (11, mX11 h1 h4 h11 h18 h23 h32 h33 h40 h48 h49 sp0 lw0)), (h18, .inr (0, mX0 h19 h20 h21 h22 v18)), (h4, .inr (10, mX10 h5 h6 h7 h8 h9 h10 v4)), (h1, .inr (9, mX9 h2 h3 (upd v1 2 (u57_ 0)))), (h7, zi k7 400 f7), (h6, zi k6 400 f6), (h5, .inl (k5, 400, .inr (.inl f5))), (h33, .inr (2, mX2 h1 h4 h11 h34 h35 h36 h37 h38 h39 v33)), (h39, zi k39 400 f39), (h37, zi k37 400 f37), (h35, zi k35 300 f35), (h38, zi k38 400 f38), (h2, zi k2 600 f2), (h3, zi k3 12 f3), (h11, .inr (10, mX10 h12 h13 h14 h15 h16 h17 v11)), (h12, .inl (k12, 10, .inr (.inl f12))), (h34, zi k34 300 f34), (h36, zi k36 300 f36), (h23, .inr (6, mX6 h24 h25 h26 h27 h28 h29 h30 h31 v23)), (h29, zi k29 400 f29), (h31, zi k31 400 f31), (h28, zi k28 400 f28), (h25, zi k25 833 f25), (h24, zi k24 1250 f24), (h26, zi k26 833 f26), (h27, zi k27 400 f27), (h30, zi k30 400 f30), (h19, zi k19 120 f19), (h20, zi k20 120 f20), (h22, zi k22 120 f22)] := hD.sub [0, 1, 2, 29, 3, 4, 5, 6, 7, 8, 9, 10, 11, 12, 13, 14, 15, 16, 17, 18, 19, 20, 21, 22, 23, 24, 25, 26, 27, 28] (by decide) rfl
    generalize H1 = H at hP hS ⊢
    clear hz1
    refine lv_iload_n hx hb dX11_enter_60 rfl (lv_at hl 0 rfl) ?_
    refine lv_if_ne (tgt := 75) hx hb dX11_enter_61 (by decide) (fun c_ => absurd c_ (by decide)) (fun c_ => ?_)
    refine lv_aload_n hx hb dX11_enter_64 rfl (lv_at hl 3 rfl) ?_
    refine va_get (D := (dC, dI)) (ci := 11) (v := .ref h4) (C := RX11) (T := TX11) (N := 12) hx hb hG zuX11 hown hK hP 0 rfl rfl 1 (by decide) (hG _ zv558) (fun _ h9 => h9) rfl dX11_enter_65 ?_
    refine lv_iload_n hx hb dX11_enter_68 rfl (lv_at hl 1 rfl) ?_
    have hPc := hP.sub (ws' := [(h4, .inr (10, mX10 h5 h6 h7 h8 h9 h10 v4)), (h7, zi k7 400 f7), (h6, zi k6 400 f6), (h5, .inl (k5, 400, .inr (.inl f5)))]) [2, 4, 5, 6] rfl
    have hDc := hD.sub (ws' := [(h4, .inr (10, mX10 h5 h6 h7 h8 h9 h10 v4)), (h7, zi k7 400 f7), (h6, zi k6 400 f6), (h5, .inl (k5, 400, .inr (.inl f5)))]) [2, 4, 5, 6] (by decide) rfl
    have hKc := hK.sub (tys' := [(k7, .int), (k6, .int), (k5, .long)]) [0, 1, 2] rfl
    have hFc := va_free (wc := [(h4, .inr (10, mX10 h5 h6 h7 h8 h9 h10 v4)), (h7, zi k7 400 f7), (h6, zi k6 400 f6), (h5, .inl (k5, 400, .inr (.inl f5)))]) hD hS hA [2, 4, 5, 6] rfl
    refine va_callv (va_runV (As := [.int r12_]) (rest := []) ⟨hx, hb, hml, hown, hG⟩ (sX10_forget_0 l dC dI adK adV h4 h7 h6 h5 h8 h9 h10 k7 k6 k5 H.size v4 f7 f6 f5 r12_ hv4 hf7 hf6) (cwV 1 hG (zgV zv813 zv814 zv815 zv131 zv816) rfl rfl rfl (by decide +kernel) ⟨Nat.le_of_ble_eq_true rfl, Nat.le_of_ble_eq_true rfl⟩) ⟨zPc_blind, va_recv hKc hPc (ci := 10) (q0 := 0) rfl rfl, zPc_pre hPc hKc hDc hE hS hFc hZ⟩ rfl rfl hl.1 rfl (lv_room (Nat.le_of_ble_eq_true rfl)) dX11_enter_69 ⟨Nat.le_of_ble_eq_true rfl, Nat.le_of_ble_eq_true rfl⟩) hS (fun q _ h => hFc q h) hFc (fun u69_ t H1 locs ht hvm hw hB hz1 hk1 hS => ?_)
    have hw : (0 ≤ (u69_ 0).toInt ∧ (u69_ 0).toInt ≤ 400) := hw
    have b_ := hw
    obtain ⟨w69_, a69_, b69_, ha69_0, ha69_1, hP1, hK1, hD1⟩ := hB
    rw [ht] at hP1
    obtain ⟨hP, hD⟩ := va_join (wr := [(h0, .inr (11, mX11 h1 h4 h11 h18 h23 h32 h33 h40 h48 h49 sp0 lw0)), (h18, .inr (0, mX0 h19 h20 h21 h22 v18)), (h1, .inr (9, mX9 h2 h3 (upd v1 2 (u57_ 0)))), (h33, .inr (2, mX2 h1 h4 h11 h34 h35 h36 h37 h38 h39 v33)), (h39, zi k39 400 f39), (h37, zi k37 400 f37), (h35, zi k35 300 f35), (h38, zi k38 400 f38), (h2, zi k2 600 f2), (h3, zi k3 12 f3), (h11, .inr (10, mX10 h12 h13 h14 h15 h16 h17 v11)), (h12, .inl (k12, 10, .inr (.inl f12))), (h34, zi k34 300 f34), (h36, zi k36 300 f36), (h23, .inr (6, mX6 h24 h25 h26 h27 h28 h29 h30 h31 v23)), (h29, zi k29 400 f29), (h31, zi k31 400 f31), (h28, zi k28 400 f28), (h25, zi k25 833 f25), (h24, zi k24 1250 f24), (h26, zi k26 833 f26), (h27, zi k27 400 f27), (h30, zi k30 400 f30), (h19, zi k19 120 f19), (h20, zi k20 120 f20), (h22, zi k22 120 f22)]) (w1 := [(h4, .inr (10, mX10 h5 h6 h7 h8 h9 h10 (upd v4 7 (u69_ 0)))), (h7, zi k7 400 (a69_ 0)), (h6, zi k6 400 (a69_ 1)), (h5, .inl (k5, 400, .inr (.inl (b69_ 0))))]) hP hD [2, 4, 5, 6] [0, 1, 3, 7, 8, 9, 10, 11, 12, 13, 14, 15, 16, 17, 18, 19, 20, 21, 22, 23, 24, 25, 26, 27, 28, 29] rfl rfl (by decide) (by decide) hk1 hFc hP1 hD1
    have hP : va_P (dC, dI) vwCl [(h0, .inr (11, mX11 h1 h4 h11 h18 h23 h32 h33 h40 h48 h49 sp0 lw0)), (h18, .inr (0, mX0 h19 h20 h21 h22 v18)), (h4, .inr (10, mX10 h5 h6 h7 h8 h9 h10 (upd v4 7 (u69_ 0)))), (h1, .inr (9, mX9 h2 h3 (upd v1 2 (u57_ 0)))), (h7, zi k7 400 (a69_ 0)), (h6, zi k6 400 (a69_ 1)), (h5, .inl (k5, 400, .inr (.inl (b69_ 0)))), (h33, .inr (2, mX2 h1 h4 h11 h34 h35 h36 h37 h38 h39 v33)), (h39, zi k39 400 f39), (h37, zi k37 400 f37), (h35, zi k35 300 f35), (h38, zi k38 400 f38), (h2, zi k2 600 f2), (h3, zi k3 12 f3), (h11, .inr (10, mX10 h12 h13 h14 h15 h16 h17 v11)), (h12, .inl (k12, 10, .inr (.inl f12))), (h34, zi k34 300 f34), (h36, zi k36 300 f36), (h23, .inr (6, mX6 h24 h25 h26 h27 h28 h29 h30 h31 v23)), (h29, zi k29 400 f29), (h31, zi k31 400 f31), (h28, zi k28 400 f28), (h25, zi k25 833 f25), (h24, zi k24 1250 f24), (h26, zi k26 833 f26), (h27, zi k27 400 f27), (h30, zi k30 400 f30), (h19, zi k19 120 f19), (h20, zi k20 120 f20), (h22, zi k22 120 f22)] H1 := hP.sub [0, 1, 26, 2, 27, 28, 29, 3, 4, 5, 6, 7, 8, 9, 10, 11, 12, 13, 14, 15, 16, 17, 18, 19, 20, 21, 22, 23, 24, 25] rfl
    have hD : va_D A [(h0, .inr (11, mX11 h1 h4 h11 h18 h23 h32 h33 h40 h48 h49 sp0 lw0)), (h18, .inr (0, mX0 h19 h20 h21 h22 v18)), (h4, .inr (10, mX10 h5 h6 h7 h8 h9 h10 (upd v4 7 (u69_ 0)))), (h1, .inr (9, mX9 h2 h3 (upd v1 2 (u57_ 0)))), (h7, zi k7 400 (a69_ 0)), (h6, zi k6 400 (a69_ 1)), (h5, .inl (k5, 400, .inr (.inl (b69_ 0)))), (h33, .inr (2, mX2 h1 h4 h11 h34 h35 h36 h37 h38 h39 v33)), (h39, zi k39 400 f39), (h37, zi k37 400 f37), (h35, zi k35 300 f35), (h38, zi k38 400 f38), (h2, zi k2 600 f2), (h3, zi k3 12 f3), (h11, .inr (10, mX10 h12 h13 h14 h15 h16 h17 v11)), (h12, .inl (k12, 10, .inr (.inl f12))), (h34, zi k34 300 f34), (h36, zi k36 300 f36), (h23, .inr (6, mX6 h24 h25 h26 h27 h28 h29 h30 h31 v23)), (h29, zi k29 400 f29), (h31, zi k31 400 f31), (h28, zi k28 400 f28), (h25, zi k25 833 f25), (h24, zi k24 1250 f24), (h26, zi k26 833 f26), (h27, zi k27 400 f27), (h30, zi k30 400 f30), (h19, zi k19 120 f19), (h20, zi k20 120 f20), (h22, zi k22 120 f22)] := hD.sub [0, 1, 26, 2, 27, 28, 29, 3, 4, 5, 6, 7, 8, 9, 10, 11, 12, 13, 14, 15, 16, 17, 18, 19, 20, 21, 22, 23, 24, 25] (by decide) rfl
    generalize H1 = H at hP hS ⊢
    clear hz1
    refine lv_bipush (v := (-2)) hx hb dX11_enter_72 (by decide) ?_
    refine W.widen (k := 0) (n := 0) (by decide) (by decide) ?_
    have b_ : 0 ≤ (v18 4).toInt ∧ (v18 4).toInt ≤ 120 := hv18 4
    have b_ : -2147483648 ≤ (v18 5).toInt ∧ (v18 5).toInt ≤ 2147483647 := ⟨zlo _, zhi _⟩
    have b_ : 0 ≤ (v1 3).toInt ∧ (v1 3).toInt ≤ 12 := hv1 3
    have b_ : 0 ≤ (v33 9).toInt ∧ (v33 9).toInt ≤ 300 := hv33 9
    have b_ : 0 ≤ (v33 10).toInt ∧ (v33 10).toInt ≤ 300 := hv33 10
    have b_ : -2147483648 ≤ (v23 10).toInt ∧ (v23 10).toInt ≤ 2147483647 := ⟨zlo _, zhi _⟩
    have b_ : -2147483648 ≤ (v23 11).toInt ∧ (v23 11).toInt ≤ 2147483647 := ⟨zlo _, zhi _⟩
    have hpost : ((-2) ≤ ((-2) : Int32).toInt ∧ ((-2) : Int32).toInt ≤ 119) ∧ (0 ≤ (v18 4).toInt ∧ (v18 4).toInt ≤ 120) ∧ (0 ≤ (u69_ 0).toInt ∧ (u69_ 0).toInt ≤ 400) ∧ (0 ≤ (u57_ 0).toInt ∧ (u57_ 0).toInt ≤ 0) ∧ (0 ≤ (v1 3).toInt ∧ (v1 3).toInt ≤ 12) ∧ (0 ≤ (v33 9).toInt ∧ (v33 9).toInt ≤ 300) ∧ (0 ≤ (v33 10).toInt ∧ (v33 10).toInt ≤ 300) ∧ (0 ≤ (v23 8).toInt ∧ (v23 8).toInt ≤ 833) ∧ (0 ≤ (v23 9).toInt ∧ (v23 9).toInt ≤ 1250) := ⟨⟨by omega, by omega⟩, ⟨by omega, by omega⟩, ⟨by omega, by omega⟩, ⟨by omega, by omega⟩, ⟨by omega, by omega⟩, ⟨by omega, by omega⟩, ⟨by omega, by omega⟩, ⟨by omega, by omega⟩, ⟨by omega, by omega⟩⟩
    have hP9 : va_P (dC, dI) vwCl [(h0, .inr (11, mX11 h1 h4 h11 h18 h23 h32 h33 h40 h48 h49 sp0 lw0)), (h18, .inr (0, mX0 h19 h20 h21 h22 (upd (upd v18 4 (v18 4)) 5 (v18 5)))), (h4, .inr (10, mX10 h5 h6 h7 h8 h9 h10 (upd v4 7 (u69_ 0)))), (h1, .inr (9, mX9 h2 h3 (upd (upd v1 2 (u57_ 0)) 3 (v1 3)))), (h7, zi k7 400 (a69_ 0)), (h6, zi k6 400 (a69_ 1)), (h5, .inl (k5, 400, .inr (.inl (b69_ 0)))), (h33, .inr (2, mX2 h1 h4 h11 h34 h35 h36 h37 h38 h39 (upd (upd v33 9 (v33 9)) 10 (v33 10)))), (h39, zi k39 400 f39), (h37, zi k37 400 f37), (h35, zi k35 300 f35), (h38, zi k38 400 f38), (h2, zi k2 600 f2), (h3, zi k3 12 f3), (h11, .inr (10, mX10 h12 h13 h14 h15 h16 h17 v11)), (h12, .inl (k12, 10, .inr (.inl f12))), (h34, zi k34 300 f34), (h36, zi k36 300 f36), (h23, .inr (6, mX6 h24 h25 h26 h27 h28 h29 h30 h31 (upd (upd (upd (upd v23 8 (v23 8)) 9 (v23 9)) 10 (v23 10)) 11 (v23 11)))), (h29, zi k29 400 f29), (h31, zi k31 400 f31), (h28, zi k28 400 f28), (h25, zi k25 833 f25), (h24, zi k24 1250 f24), (h26, zi k26 833 f26), (h27, zi k27 400 f27), (h30, zi k30 400 f30), (h19, zi k19 120 f19), (h20, zi k20 120 f20), (h22, zi k22 120 f22)] H := hP
    have hD9 : va_D A [(h0, .inr (11, mX11 h1 h4 h11 h18 h23 h32 h33 h40 h48 h49 sp0 lw0)), (h18, .inr (0, mX0 h19 h20 h21 h22 (upd (upd v18 4 (v18 4)) 5 (v18 5)))), (h4, .inr (10, mX10 h5 h6 h7 h8 h9 h10 (upd v4 7 (u69_ 0)))), (h1, .inr (9, mX9 h2 h3 (upd (upd v1 2 (u57_ 0)) 3 (v1 3)))), (h7, zi k7 400 (a69_ 0)), (h6, zi k6 400 (a69_ 1)), (h5, .inl (k5, 400, .inr (.inl (b69_ 0)))), (h33, .inr (2, mX2 h1 h4 h11 h34 h35 h36 h37 h38 h39 (upd (upd v33 9 (v33 9)) 10 (v33 10)))), (h39, zi k39 400 f39), (h37, zi k37 400 f37), (h35, zi k35 300 f35), (h38, zi k38 400 f38), (h2, zi k2 600 f2), (h3, zi k3 12 f3), (h11, .inr (10, mX10 h12 h13 h14 h15 h16 h17 v11)), (h12, .inl (k12, 10, .inr (.inl f12))), (h34, zi k34 300 f34), (h36, zi k36 300 f36), (h23, .inr (6, mX6 h24 h25 h26 h27 h28 h29 h30 h31 (upd (upd (upd (upd v23 8 (v23 8)) 9 (v23 9)) 10 (v23 10)) 11 (v23 11)))), (h29, zi k29 400 f29), (h31, zi k31 400 f31), (h28, zi k28 400 f28), (h25, zi k25 833 f25), (h24, zi k24 1250 f24), (h26, zi k26 833 f26), (h27, zi k27 400 f27), (h30, zi k30 400 f30), (h19, zi k19 120 f19), (h20, zi k20 120 f20), (h22, zi k22 120 f22)] := hD
    have hB0 : zPhi f25 f28 f29 (v23 9).toInt (v23 8).toInt := by assumption
    exact W.iret (v := (-2)) hx hb hr (fun t ht hW => ⟨⟨(-2), (fun i => ([(v18 4), (v18 5), (u69_ 0), (u57_ 0), (v1 3), (v33 9), (v33 10), (v23 8), (v23 9), (v23 10), (v23 11)] : List (Int32)).getD i 0), rfl, hpost, (fun _ => 0), (fun i => ([(a69_ 0), (a69_ 1), f39, f37, f35, f38, f3, f34, f36, f29, f31, f28, f25, f24, f26, f27, f30, f19, f20, f22] : List (Nat → Int32)).getD i (fun _ => 0)), (fun i => ([(b69_ 0)] : List (Nat → Int64)).getD i (fun _ => 0)), ha69_0, ha69_1, hf37, hf35, hf38, hf36, hf28, hf25, hf20, hB0, by rw [ht]; exact hP9, va_K.moved hW.alike hK, hD9⟩, hS.F ht⟩) hS.2.2 dX11_enter_74
  · skip
    have b_ := zF_ge rfl zk_120 c_
    refine lv_aload_n hx hb dX11_enter_22 rfl (lv_at hl 2 rfl) ?_
    refine va_get (D := (dC, dI)) (ci := 11) (v := .ref h33) (C := RX11) (T := TX11) (N := 12) hx hb hG zuX11 hown hK hP 0 rfl rfl 6 (by decide) (hG _ zv563) (fun _ h9 => h9) rfl dX11_enter_23 ?_
    have hPc := hP.sub (ws' := [(h33, .inr (2, mX2 h1 h4 h11 h34 h35 h36 h37 h38 h39 v33)), (h39, zi k39 400 f39), (h37, zi k37 400 f37), (h35, zi k35 300 f35), (h38, zi k38 400 f38), (h1, .inr (9, mX9 h2 h3 v1)), (h2, zi k2 600 f2), (h3, zi k3 12 f3), (h11, .inr (10, mX10 h12 h13 h14 h15 h16 h17 v11)), (h12, .inl (k12, 10, .inr (.inl f12))), (h4, .inr (10, mX10 h5 h6 h7 h8 h9 h10 v4)), (h5, .inl (k5, 400, .inr (.inl f5))), (h6, zi k6 400 f6), (h34, zi k34 300 f34), (h36, zi k36 300 f36)]) [7, 8, 9, 10, 11, 3, 12, 13, 14, 15, 2, 6, 5, 16, 17] rfl
    have hDc := hD.sub (ws' := [(h33, .inr (2, mX2 h1 h4 h11 h34 h35 h36 h37 h38 h39 v33)), (h39, zi k39 400 f39), (h37, zi k37 400 f37), (h35, zi k35 300 f35), (h38, zi k38 400 f38), (h1, .inr (9, mX9 h2 h3 v1)), (h2, zi k2 600 f2), (h3, zi k3 12 f3), (h11, .inr (10, mX10 h12 h13 h14 h15 h16 h17 v11)), (h12, .inl (k12, 10, .inr (.inl f12))), (h4, .inr (10, mX10 h5 h6 h7 h8 h9 h10 v4)), (h5, .inl (k5, 400, .inr (.inl f5))), (h6, zi k6 400 f6), (h34, zi k34 300 f34), (h36, zi k36 300 f36)]) [7, 8, 9, 10, 11, 3, 12, 13, 14, 15, 2, 6, 5, 16, 17] (by decide) rfl
    have hKc := hK.sub (tys' := [(k39, .int), (k37, .int), (k35, .int), (k38, .int), (k2, .byte), (k3, .byte), (k12, .long), (k5, .long), (k6, .int), (k34, .int), (k36, .int)]) [3, 4, 5, 6, 7, 8, 9, 2, 1, 10, 11] rfl
    have hFc := va_free (wc := [(h33, .inr (2, mX2 h1 h4 h11 h34 h35 h36 h37 h38 h39 v33)), (h39, zi k39 400 f39), (h37, zi k37 400 f37), (h35, zi k35 300 f35), (h38, zi k38 400 f38), (h1, .inr (9, mX9 h2 h3 v1)), (h2, zi k2 600 f2), (h3, zi k3 12 f3), (h11, .inr (10, mX10 h12 h13 h14 h15 h16 h17 v11)), (h12, .inl (k12, 10, .inr (.inl f12))), (h4, .inr (10, mX10 h5 h6 h7 h8 h9 h10 v4)), (h5, .inl (k5, 400, .inr (.inl f5))), (h6, zi k6 400 f6), (h34, zi k34 300 f34), (h36, zi k36 300 f36)]) hD hS hA [7, 8, 9, 10, 11, 3, 12, 13, 14, 15, 2, 6, 5, 16, 17] rfl
    refine va_calli (va_runV (As := []) (rest := []) ⟨hx, hb, hml, hown, hG⟩ (sX2_read_0 l dC dI adK adV h33 h39 h37 h35 h38 h1 h2 h3 h11 h12 h4 h5 h6 h34 h36 h13 h14 h15 h16 h17 h7 h8 h9 h10 k39 k37 k35 k38 k2 k3 k12 k5 k6 k34 k36 H.size v33 f39 f37 f35 f38 v1 f2 f3 v11 f12 v4 f5 f6 f34 f36 hv33 hf37 hf35 hf38 hv1 hv11 hv4 hf6 hf36) (cwV 0 hG (zgV zv630 zv631 zv632 zv135 zv633) rfl rfl rfl (by decide +kernel) ⟨Nat.le_of_ble_eq_true rfl, Nat.le_of_ble_eq_true rfl⟩) ⟨zPc_blind, va_recv hKc hPc (ci := 2) (q0 := 0) rfl rfl, zPc_pre hPc hKc hDc hE hS hFc hZ⟩ rfl rfl hl.1 rfl (lv_room (Nat.le_of_ble_eq_true rfl)) dX11_enter_26 ⟨Nat.le_of_ble_eq_true rfl, Nat.le_of_ble_eq_true rfl⟩) hS (fun q _ h => hFc q h) hFc (fun r26_ u26_ t H1 locs ht hvm hw hB hz1 hk1 hS => ?_)
    have hw : (0 ≤ r26_.toInt ∧ r26_.toInt ≤ 1) ∧ (0 ≤ (u26_ 0).toInt ∧ (u26_ 0).toInt ≤ 300) ∧ (0 ≤ (u26_ 1).toInt ∧ (u26_ 1).toInt ≤ 300) ∧ (0 ≤ (u26_ 2).toInt ∧ (u26_ 2).toInt ≤ 12) ∧ (0 ≤ (u26_ 3).toInt ∧ (u26_ 3).toInt ≤ 400) ∧ ((u26_ 1).toInt ≤ (u26_ 0).toInt) := hw
    obtain ⟨b_, b_, b_, b_, b_, hX26_0⟩ := hw
    obtain ⟨w26_, a26_, b26_, ha26_1, ha26_2, ha26_3, ha26_5, ha26_7, hB26_0, hP1, hK1, hD1⟩ := hB
    have hB26_0 : zChn (a26_ 1) (a26_ 2) (a26_ 3) (a26_ 0) (u26_ 0).toInt := hB26_0
    rw [ht] at hP1
    obtain ⟨hP, hD⟩ := va_join (wr := [(h0, .inr (11, mX11 h1 h4 h11 h18 h23 h32 h33 h40 h48 h49 sp0 lw0)), (h18, .inr (0, mX0 h19 h20 h21 h22 v18)), (h7, zi k7 400 f7), (h23, .inr (6, mX6 h24 h25 h26 h27 h28 h29 h30 h31 v23)), (h29, zi k29 400 f29), (h31, zi k31 400 f31), (h28, zi k28 400 f28), (h25, zi k25 833 f25), (h24, zi k24 1250 f24), (h26, zi k26 833 f26), (h27, zi k27 400 f27), (h30, zi k30 400 f30), (h19, zi k19 120 f19), (h20, zi k20 120 f20), (h22, zi k22 120 f22)]) (w1 := [(h33, .inr (2, mX2 h1 h4 h11 h34 h35 h36 h37 h38 h39 (upd (upd v33 9 (u26_ 0)) 10 (u26_ 1)))), (h39, zi k39 400 (a26_ 0)), (h37, zi k37 400 (a26_ 1)), (h35, zi k35 300 (a26_ 2)), (h38, zi k38 400 (a26_ 3)), (h1, .inr (9, mX9 h2 h3 (upd v1 3 (u26_ 2)))), (h2, zi k2 600 f2), (h3, zi k3 12 (a26_ 4)), (h11, .inr (10, mX10 h12 h13 h14 h15 h16 h17 v11)), (h12, .inl (k12, 10, .inr (.inl f12))), (h4, .inr (10, mX10 h5 h6 h7 h8 h9 h10 (upd v4 7 (u26_ 3)))), (h5, .inl (k5, 400, .inr (.inl (b26_ 0)))), (h6, zi k6 400 (a26_ 5)), (h34, zi k34 300 (a26_ 6)), (h36, zi k36 300 (a26_ 7))]) hP hD [7, 8, 9, 10, 11, 3, 12, 13, 14, 15, 2, 6, 5, 16, 17] [0, 1, 4, 18, 19, 20, 21, 22, 23, 24, 25, 26, 27, 28, 29] rfl rfl (by decide) (by decide) hk1 hFc hP1 hD1
    have hP : va_P (dC, dI) vwCl [(h0, .inr (11, mX11 h1 h4 h11 h18 h23 h32 h33 h40 h48 h49 sp0 lw0)), (h18, .inr (0, mX0 h19 h20 h21 h22 v18)), (h4, .inr (10, mX10 h5 h6 h7 h8 h9 h10 (upd v4 7 (u26_ 3)))), (h1, .inr (9, mX9 h2 h3 (upd v1 3 (u26_ 2)))), (h7, zi k7 400 f7), (h6, zi k6 400 (a26_ 5)), (h5, .inl (k5, 400, .inr (.inl (b26_ 0)))), (h33, .inr (2, mX2 h1 h4 h11 h34 h35 h36 h37 h38 h39 (upd (upd v33 9 (u26_ 0)) 10 (u26_ 1)))), (h39, zi k39 400 (a26_ 0)), (h37, zi k37 400 (a26_ 1)), (h35, zi k35 300 (a26_ 2)), (h38, zi k38 400 (a26_ 3)), (h2, zi k2 600 f2), (h3, zi k3 12 (a26_ 4)), (h11, .inr (10, mX10 h12 h13 h14 h15 h16 h17 v11)), (h12, .inl (k12, 10, .inr (.inl f12))), (h34, zi k34 300 (a26_ 6)), (h36, zi k36 300 (a26_ 7)), (h23, .inr (6, mX6 h24 h25 h26 h27 h28 h29 h30 h31 v23)), (h29, zi k29 400 f29), (h31, zi k31 400 f31), (h28, zi k28 400 f28), (h25, zi k25 833 f25), (h24, zi k24 1250 f24), (h26, zi k26 833 f26), (h27, zi k27 400 f27), (h30, zi k30 400 f30), (h19, zi k19 120 f19), (h20, zi k20 120 f20), (h22, zi k22 120 f22)] H1 := hP.sub [0, 1, 25, 20, 2, 27, 26, 15, 16, 17, 18, 19, 21, 22, 23, 24, 28, 29, 3, 4, 5, 6, 7, 8, 9, 10, 11, 12, 13, 14] rfl
    have hD : va_D A [(h0, .inr (11, mX11 h1 h4 h11 h18 h23 h32 h33 h40 h48 h49 sp0 lw0)), (h18, .inr (0, mX0 h19 h20 h21 h22 v18)), (h4, .inr (10, mX10 h5 h6 h7 h8 h9 h10 (upd v4 7 (u26_ 3)))), (h1, .inr (9, mX9 h2 h3 (upd v1 3 (u26_ 2)))), (h7, zi k7 400 f7), (h6, zi k6 400 (a26_ 5)), (h5, .inl (k5, 400, .inr (.inl (b26_ 0)))), (h33, .inr (2, mX2 h1 h4 h11 h34 h35 h36 h37 h38 h39 (upd (upd v33 9 (u26_ 0)) 10 (u26_ 1)))), (h39, zi k39 400 (a26_ 0)), (h37, zi k37 400 (a26_ 1)), (h35, zi k35 300 (a26_ 2)), (h38, zi k38 400 (a26_ 3)), (h2, zi k2 600 f2), (h3, zi k3 12 (a26_ 4)), (h11, .inr (10, mX10 h12 h13 h14 h15 h16 h17 v11)), (h12, .inl (k12, 10, .inr (.inl f12))), (h34, zi k34 300 (a26_ 6)), (h36, zi k36 300 (a26_ 7)), (h23, .inr (6, mX6 h24 h25 h26 h27 h28 h29 h30 h31 v23)), (h29, zi k29 400 f29), (h31, zi k31 400 f31), (h28, zi k28 400 f28), (h25, zi k25 833 f25), (h24, zi k24 1250 f24), (h26, zi k26 833 f26), (h27, zi k27 400 f27), (h30, zi k30 400 f30), (h19, zi k19 120 f19), (h20, zi k20 120 f20), (h22, zi k22 120 f22)] := hD.sub [0, 1, 25, 20, 2, 27, 26, 15, 16, 17, 18, 19, 21, 22, 23, 24, 28, 29, 3, 4, 5, 6, 7, 8, 9, 10, 11, 12, 13, 14] (by decide) rfl
    generalize H1 = H at hP hS ⊢
    clear hz1
    refine lv_if_eq (tgt := 51) hx hb dX11_enter_29 (by decide) (fun c_ => ?_) (fun c_ => ?_)
    · skip
      have b_ := zT_eq rfl zk_0 c_
      refine lv_iconst (v := 0) hx hb dX11_enter_51 (by decide) ?_
      refine lv_istore_n (lv' := [(3, .int 0), (2, .int r12_), (1, .int r4_), (0, .ref h0)]) hx hb dX11_enter_52 rfl hl (by decide) rfl (fun ls hl => ?_)
      refine lv_aload_n hx hb dX11_enter_53 rfl (lv_at hl 3 rfl) ?_
      refine va_get (D := (dC, dI)) (ci := 11) (v := .ref h1) (C := RX11) (T := TX11) (N := 12) hx hb hG zuX11 hown hK hP 0 rfl rfl 0 (by decide) (hG _ zv557) (fun _ h9 => h9) rfl dX11_enter_54 ?_
      have hPc := hP.sub (ws' := [(h1, .inr (9, mX9 h2 h3 (upd v1 3 (u26_ 2))))]) [3] rfl
      have hDc := hD.sub (ws' := [(h1, .inr (9, mX9 h2 h3 (upd v1 3 (u26_ 2))))]) [3] (by decide) rfl
      have hKc := hK.sub (tys' := []) [] rfl
      have hFc := va_free (wc := [(h1, .inr (9, mX9 h2 h3 (upd v1 3 (u26_ 2))))]) hD hS hA [3] rfl
      refine va_callv (va_runV (As := []) (rest := []) ⟨hx, hb, hml, hown, hG⟩ (sX9_clear_0 l dC dI adK adV h1 h2 h3 H.size (upd v1 3 (u26_ 2)) (zR_upd hv1 3 (show (0 : Int) ≤ ((u26_ 2) : Int32).toInt from by omega) (show ((u26_ 2) : Int32).toInt ≤ (12 : Int) from by omega))) (cwV 0 hG (zgV zv809 zv810 zv811 zv130 zv812) rfl rfl rfl (by decide +kernel) ⟨Nat.le_of_ble_eq_true rfl, Nat.le_of_ble_eq_true rfl⟩) ⟨zPc_blind, va_recv hKc hPc (ci := 9) (q0 := 0) rfl rfl, zPc_pre hPc hKc hDc hE hS hFc hZ⟩ rfl rfl hl.1 rfl (lv_room (Nat.le_of_ble_eq_true rfl)) dX11_enter_57 ⟨Nat.le_of_ble_eq_true rfl, Nat.le_of_ble_eq_true rfl⟩) hS (fun q _ h => hFc q h) hFc (fun u57_ t H1 locs ht hvm hw hB hz1 hk1 hS => ?_)
      have hw : (0 ≤ (u57_ 0).toInt ∧ (u57_ 0).toInt ≤ 0) := hw
      have b_ := hw
      obtain ⟨w57_, a57_, b57_, hP1, hK1, hD1⟩ := hB
      rw [ht] at hP1
      obtain ⟨hP, hD⟩ := va_join (wr := [(h0, .inr (11, mX11 h1 h4 h11 h18 h23 h32 h33 h40 h48 h49 sp0 lw0)), (h18, .inr (0, mX0 h19 h20 h21 h22 v18)), (h4, .inr (10, mX10 h5 h6 h7 h8 h9 h10 (upd v4 7 (u26_ 3)))), (h7, zi k7 400 f7), (h6, zi k6 400 (a26_ 5)), (h5, .inl (k5, 400, .inr (.inl (b26_ 0)))), (h33, .inr (2, mX2 h1 h4 h11 h34 h35 h36 h37 h38 h39 (upd (upd v33 9 (u26_ 0)) 10 (u26_ 1)))), (h39, zi k39 400 (a26_ 0)), (h37, zi k37 400 (a26_ 1)), (h35, zi k35 300 (a26_ 2)), (h38, zi k38 400 (a26_ 3)), (h2, zi k2 600 f2), (h3, zi k3 12 (a26_ 4)), (h11, .inr (10, mX10 h12 h13 h14 h15 h16 h17 v11)), (h12, .inl (k12, 10, .inr (.inl f12))), (h34, zi k34 300 (a26_ 6)), (h36, zi k36 300 (a26_ 7)), (h23, .inr (6, mX6 h24 h25 h26 h27 h28 h29 h30 h31 v23)), (h29, zi k29 400 f29), (h31, zi k31 400 f31), (h28, zi k28 400 f28), (h25, zi k25 833 f25), (h24, zi k24 1250 f24), (h26, zi k26 833 f26), (h27, zi k27 400 f27), (h30, zi k30 400 f30), (h19, zi k19 120 f19), (h20, zi k20 120 f20), (h22, zi k22 120 f22)]) (w1 := [(h1, .inr (9, mX9 h2 h3 (upd (upd v1 2 (u57_ 0)) 3 (u26_ 2))))]) hP hD [3] [0, 1, 2, 4, 5, 6, 7, 8, 9, 10, 11, 12, 13, 14, 15, 16, 17, 18, 19, 20, 21, 22, 23, 24, 25, 26, 27, 28, 29] rfl rfl (by decide) (by decide) hk1 hFc hP1 hD1
      have hP : va_P (dC, dI) vwCl [(h0, .inr (11, mX11 h1 h4 h11 h18 h23 h32 h33 h40 h48 h49 sp0 lw0)), (h18, .inr (0, mX0 h19 h20 h21 h22 v18)), (h4, .inr (10, mX10 h5 h6 h7 h8 h9 h10 (upd v4 7 (u26_ 3)))), (h1, .inr (9, mX9 h2 h3 (upd (upd v1 2 (u57_ 0)) 3 (u26_ 2)))), (h7, zi k7 400 f7), (h6, zi k6 400 (a26_ 5)), (h5, .inl (k5, 400, .inr (.inl (b26_ 0)))), (h33, .inr (2, mX2 h1 h4 h11 h34 h35 h36 h37 h38 h39 (upd (upd v33 9 (u26_ 0)) 10 (u26_ 1)))), (h39, zi k39 400 (a26_ 0)), (h37, zi k37 400 (a26_ 1)), (h35, zi k35 300 (a26_ 2)), (h38, zi k38 400 (a26_ 3)), (h2, zi k2 600 f2), (h3, zi k3 12 (a26_ 4)), (h11, .inr (10, mX10 h12 h13 h14 h15 h16 h17 v11)), (h12, .inl (k12, 10, .inr (.inl f12))), (h34, zi k34 300 (a26_ 6)), (h36, zi k36 300 (a26_ 7)), (h23, .inr (6, mX6 h24 h25 h26 h27 h28 h29 h30 h31 v23)), (h29, zi k29 400 f29), (h31, zi k31 400 f31), (h28, zi k28 400 f28), (h25, zi k25 833 f25), (h24, zi k24 1250 f24), (h26, zi k26 833 f26), (h27, zi k27 400 f27), (h30, zi k30 400 f30), (h19, zi k19 120 f19), (h20, zi k20 120 f20), (h22, zi k22 120 f22)] H1 := hP.sub [0, 1, 2, 29, 3, 4, 5, 6, 7, 8, 9, 10, 11, 12, 13, 14, 15, 16, 17, 18, 19, 20, 21, 22, 23, 24, 25, 26, 27, 28] rfl
      have hD : va_D A [(h0, .inr (11, mX11 h1 h4 h11 h18 h23 h32 h33 h40 h48 h49 sp0 lw0)), (h18, .inr (0, mX0 h19 h20 h21 h22 v18)), (h4, .inr (10, mX10 h5 h6 h7 h8 h9 h10 (upd v4 7 (u26_ 3)))), (h1, .inr (9, mX9 h2 h3 (upd (upd v1 2 (u57_ 0)) 3 (u26_ 2)))), (h7, zi k7 400 f7), (h6, zi k6 400 (a26_ 5)), (h5, .inl (k5, 400, .inr (.inl (b26_ 0)))), (h33, .inr (2, mX2 h1 h4 h11 h34 h35 h36 h37 h38 h39 (upd (upd v33 9 (u26_ 0)) 10 (u26_ 1)))), (h39, zi k39 400 (a26_ 0)), (h37, zi k37 400 (a26_ 1)), (h35, zi k35 300 (a26_ 2)), (h38, zi k38 400 (a26_ 3)), (h2, zi k2 600 f2), (h3, zi k3 12 (a26_ 4)), (h11, .inr (10, mX10 h12 h13 h14 h15 h16 h17 v11)), (h12, .inl (k12, 10, .inr (.inl f12))), (h34, zi k34 300 (a26_ 6)), (h36, zi k36 300 (a26_ 7)), (h23, .inr (6, mX6 h24 h25 h26 h27 h28 h29 h30 h31 v23)), (h29, zi k29 400 f29), (h31, zi k31 400 f31), (h28, zi k28 400 f28), (h25, zi k25 833 f25), (h24, zi k24 1250 f24), (h26, zi k26 833 f26), (h27, zi k27 400 f27), (h30, zi k30 400 f30), (h19, zi k19 120 f19), (h20, zi k20 120 f20), (h22, zi k22 120 f22)] := hD.sub [0, 1, 2, 29, 3, 4, 5, 6, 7, 8, 9, 10, 11, 12, 13, 14, 15, 16, 17, 18, 19, 20, 21, 22, 23, 24, 25, 26, 27, 28] (by decide) rfl
      generalize H1 = H at hP hS ⊢
      clear hz1
      refine lv_iload_n hx hb dX11_enter_60 rfl (lv_at hl 0 rfl) ?_
      refine lv_if_ne (tgt := 75) hx hb dX11_enter_61 (by decide) (fun c_ => absurd c_ (by decide)) (fun c_ => ?_)
      refine lv_aload_n hx hb dX11_enter_64 rfl (lv_at hl 3 rfl) ?_
      refine va_get (D := (dC, dI)) (ci := 11) (v := .ref h4) (C := RX11) (T := TX11) (N := 12) hx hb hG zuX11 hown hK hP 0 rfl rfl 1 (by decide) (hG _ zv558) (fun _ h9 => h9) rfl dX11_enter_65 ?_
      refine lv_iload_n hx hb dX11_enter_68 rfl (lv_at hl 1 rfl) ?_
      have hPc := hP.sub (ws' := [(h4, .inr (10, mX10 h5 h6 h7 h8 h9 h10 (upd v4 7 (u26_ 3)))), (h7, zi k7 400 f7), (h6, zi k6 400 (a26_ 5)), (h5, .inl (k5, 400, .inr (.inl (b26_ 0))))]) [2, 4, 5, 6] rfl
      have hDc := hD.sub (ws' := [(h4, .inr (10, mX10 h5 h6 h7 h8 h9 h10 (upd v4 7 (u26_ 3)))), (h7, zi k7 400 f7), (h6, zi k6 400 (a26_ 5)), (h5, .inl (k5, 400, .inr (.inl (b26_ 0))))]) [2, 4, 5, 6] (by decide) rfl
      have hKc := hK.sub (tys' := [(k7, .int), (k6, .int), (k5, .long)]) [0, 1, 2] rfl
      have hFc := va_free (wc := [(h4, .inr (10, mX10 h5 h6 h7 h8 h9 h10 (upd v4 7 (u26_ 3)))), (h7, zi k7 400 f7), (h6, zi k6 400 (a26_ 5)), (h5, .inl (k5, 400, .inr (.inl (b26_ 0))))]) hD hS hA [2, 4, 5, 6] rfl
      refine va_callv (va_runV (As := [.int r12_]) (rest := []) ⟨hx, hb, hml, hown, hG⟩ (sX10_forget_0 l dC dI adK adV h4 h7 h6 h5 h8 h9 h10 k7 k6 k5 H.size (upd v4 7 (u26_ 3)) f7 (a26_ 5) (b26_ 0) r12_ (zR_upd hv4 7 (show (0 : Int) ≤ ((u26_ 3) : Int32).toInt from by omega) (show ((u26_ 3) : Int32).toInt ≤ (400 : Int) from by omega)) hf7 ha26_5) (cwV 1 hG (zgV zv813 zv814 zv815 zv131 zv816) rfl rfl rfl (by decide +kernel) ⟨Nat.le_of_ble_eq_true rfl, Nat.le_of_ble_eq_true rfl⟩) ⟨zPc_blind, va_recv hKc hPc (ci := 10) (q0 := 0) rfl rfl, zPc_pre hPc hKc hDc hE hS hFc hZ⟩ rfl rfl hl.1 rfl (lv_room (Nat.le_of_ble_eq_true rfl)) dX11_enter_69 ⟨Nat.le_of_ble_eq_true rfl, Nat.le_of_ble_eq_true rfl⟩) hS (fun q _ h => hFc q h) hFc (fun u69_ t H1 locs ht hvm hw hB hz1 hk1 hS => ?_)
      have hw : (0 ≤ (u69_ 0).toInt ∧ (u69_ 0).toInt ≤ 400) := hw
      have b_ := hw
      obtain ⟨w69_, a69_, b69_, ha69_0, ha69_1, hP1, hK1, hD1⟩ := hB
      rw [ht] at hP1
      obtain ⟨hP, hD⟩ := va_join (wr := [(h0, .inr (11, mX11 h1 h4 h11 h18 h23 h32 h33 h40 h48 h49 sp0 lw0)), (h18, .inr (0, mX0 h19 h20 h21 h22 v18)), (h1, .inr (9, mX9 h2 h3 (upd (upd v1 2 (u57_ 0)) 3 (u26_ 2)))), (h33, .inr (2, mX2 h1 h4 h11 h34 h35 h36 h37 h38 h39 (upd (upd v33 9 (u26_ 0)) 10 (u26_ 1)))), (h39, zi k39 400 (a26_ 0)), (h37, zi k37 400 (a26_ 1)), (h35, zi k35 300 (a26_ 2)), (h38, zi k38 400 (a26_ 3)), (h2, zi k2 600 f2), (h3, zi k3 12 (a26_ 4)), (h11, .inr (10, mX10 h12 h13 h14 h15 h16 h17 v11)), (h12, .inl (k12, 10, .inr (.inl f12))), (h34, zi k34 300 (a26_ 6)), (h36, zi k36 300 (a26_ 7)), (h23, .inr (6, mX6 h24 h25 h26 h27 h28 h29 h30 h31 v23)), (h29, zi k29 400 f29), (h31, zi k31 400 f31), (h28, zi k28 400 f28), (h25, zi k25 833 f25), (h24, zi k24 1250 f24), (h26, zi k26 833 f26), (h27, zi k27 400 f27), (h30, zi k30 400 f30), (h19, zi k19 120 f19), (h20, zi k20 120 f20), (h22, zi k22 120 f22)]) (w1 := [(h4, .inr (10, mX10 h5 h6 h7 h8 h9 h10 (upd v4 7 (u69_ 0)))), (h7, zi k7 400 (a69_ 0)), (h6, zi k6 400 (a69_ 1)), (h5, .inl (k5, 400, .inr (.inl (b69_ 0))))]) hP hD [2, 4, 5, 6] [0, 1, 3, 7, 8, 9, 10, 11, 12, 13, 14, 15, 16, 17, 18, 19, 20, 21, 22, 23, 24, 25, 26, 27, 28, 29] rfl rfl (by decide) (by decide) hk1 hFc hP1 hD1
      have hP : va_P (dC, dI) vwCl [(h0, .inr (11, mX11 h1 h4 h11 h18 h23 h32 h33 h40 h48 h49 sp0 lw0)), (h18, .inr (0, mX0 h19 h20 h21 h22 v18)), (h4, .inr (10, mX10 h5 h6 h7 h8 h9 h10 (upd v4 7 (u69_ 0)))), (h1, .inr (9, mX9 h2 h3 (upd (upd v1 2 (u57_ 0)) 3 (u26_ 2)))), (h7, zi k7 400 (a69_ 0)), (h6, zi k6 400 (a69_ 1)), (h5, .inl (k5, 400, .inr (.inl (b69_ 0)))), (h33, .inr (2, mX2 h1 h4 h11 h34 h35 h36 h37 h38 h39 (upd (upd v33 9 (u26_ 0)) 10 (u26_ 1)))), (h39, zi k39 400 (a26_ 0)), (h37, zi k37 400 (a26_ 1)), (h35, zi k35 300 (a26_ 2)), (h38, zi k38 400 (a26_ 3)), (h2, zi k2 600 f2), (h3, zi k3 12 (a26_ 4)), (h11, .inr (10, mX10 h12 h13 h14 h15 h16 h17 v11)), (h12, .inl (k12, 10, .inr (.inl f12))), (h34, zi k34 300 (a26_ 6)), (h36, zi k36 300 (a26_ 7)), (h23, .inr (6, mX6 h24 h25 h26 h27 h28 h29 h30 h31 v23)), (h29, zi k29 400 f29), (h31, zi k31 400 f31), (h28, zi k28 400 f28), (h25, zi k25 833 f25), (h24, zi k24 1250 f24), (h26, zi k26 833 f26), (h27, zi k27 400 f27), (h30, zi k30 400 f30), (h19, zi k19 120 f19), (h20, zi k20 120 f20), (h22, zi k22 120 f22)] H1 := hP.sub [0, 1, 26, 2, 27, 28, 29, 3, 4, 5, 6, 7, 8, 9, 10, 11, 12, 13, 14, 15, 16, 17, 18, 19, 20, 21, 22, 23, 24, 25] rfl
      have hD : va_D A [(h0, .inr (11, mX11 h1 h4 h11 h18 h23 h32 h33 h40 h48 h49 sp0 lw0)), (h18, .inr (0, mX0 h19 h20 h21 h22 v18)), (h4, .inr (10, mX10 h5 h6 h7 h8 h9 h10 (upd v4 7 (u69_ 0)))), (h1, .inr (9, mX9 h2 h3 (upd (upd v1 2 (u57_ 0)) 3 (u26_ 2)))), (h7, zi k7 400 (a69_ 0)), (h6, zi k6 400 (a69_ 1)), (h5, .inl (k5, 400, .inr (.inl (b69_ 0)))), (h33, .inr (2, mX2 h1 h4 h11 h34 h35 h36 h37 h38 h39 (upd (upd v33 9 (u26_ 0)) 10 (u26_ 1)))), (h39, zi k39 400 (a26_ 0)), (h37, zi k37 400 (a26_ 1)), (h35, zi k35 300 (a26_ 2)), (h38, zi k38 400 (a26_ 3)), (h2, zi k2 600 f2), (h3, zi k3 12 (a26_ 4)), (h11, .inr (10, mX10 h12 h13 h14 h15 h16 h17 v11)), (h12, .inl (k12, 10, .inr (.inl f12))), (h34, zi k34 300 (a26_ 6)), (h36, zi k36 300 (a26_ 7)), (h23, .inr (6, mX6 h24 h25 h26 h27 h28 h29 h30 h31 v23)), (h29, zi k29 400 f29), (h31, zi k31 400 f31), (h28, zi k28 400 f28), (h25, zi k25 833 f25), (h24, zi k24 1250 f24), (h26, zi k26 833 f26), (h27, zi k27 400 f27), (h30, zi k30 400 f30), (h19, zi k19 120 f19), (h20, zi k20 120 f20), (h22, zi k22 120 f22)] := hD.sub [0, 1, 26, 2, 27, 28, 29, 3, 4, 5, 6, 7, 8, 9, 10, 11, 12, 13, 14, 15, 16, 17, 18, 19, 20, 21, 22, 23, 24, 25] (by decide) rfl
      generalize H1 = H at hP hS ⊢
      clear hz1
      refine lv_bipush (v := (-2)) hx hb dX11_enter_72 (by decide) ?_
      refine W.widen (k := 0) (n := 0) (by decide) (by decide) ?_
      have b_ : 0 ≤ (v18 4).toInt ∧ (v18 4).toInt ≤ 120 := hv18 4
      have b_ : -2147483648 ≤ (v18 5).toInt ∧ (v18 5).toInt ≤ 2147483647 := ⟨zlo _, zhi _⟩
      have b_ : -2147483648 ≤ (v23 10).toInt ∧ (v23 10).toInt ≤ 2147483647 := ⟨zlo _, zhi _⟩
      have b_ : -2147483648 ≤ (v23 11).toInt ∧ (v23 11).toInt ≤ 2147483647 := ⟨zlo _, zhi _⟩
      have hpost : ((-2) ≤ ((-2) : Int32).toInt ∧ ((-2) : Int32).toInt ≤ 119) ∧ (0 ≤ (v18 4).toInt ∧ (v18 4).toInt ≤ 120) ∧ (0 ≤ (u69_ 0).toInt ∧ (u69_ 0).toInt ≤ 400) ∧ (0 ≤ (u57_ 0).toInt ∧ (u57_ 0).toInt ≤ 0) ∧ (0 ≤ (u26_ 2).toInt ∧ (u26_ 2).toInt ≤ 12) ∧ (0 ≤ (u26_ 0).toInt ∧ (u26_ 0).toInt ≤ 300) ∧ (0 ≤ (u26_ 1).toInt ∧ (u26_ 1).toInt ≤ 300) ∧ (0 ≤ (v23 8).toInt ∧ (v23 8).toInt ≤ 833) ∧ (0 ≤ (v23 9).toInt ∧ (v23 9).toInt ≤ 1250) := ⟨⟨by omega, by omega⟩, ⟨by omega, by omega⟩, ⟨by omega, by omega⟩, ⟨by omega, by omega⟩, ⟨by omega, by omega⟩, ⟨by omega, by omega⟩, ⟨by omega, by omega⟩, ⟨by omega, by omega⟩, ⟨by omega, by omega⟩⟩
      have hP9 : va_P (dC, dI) vwCl [(h0, .inr (11, mX11 h1 h4 h11 h18 h23 h32 h33 h40 h48 h49 sp0 lw0)), (h18, .inr (0, mX0 h19 h20 h21 h22 (upd (upd v18 4 (v18 4)) 5 (v18 5)))), (h4, .inr (10, mX10 h5 h6 h7 h8 h9 h10 (upd v4 7 (u69_ 0)))), (h1, .inr (9, mX9 h2 h3 (upd (upd v1 2 (u57_ 0)) 3 (u26_ 2)))), (h7, zi k7 400 (a69_ 0)), (h6, zi k6 400 (a69_ 1)), (h5, .inl (k5, 400, .inr (.inl (b69_ 0)))), (h33, .inr (2, mX2 h1 h4 h11 h34 h35 h36 h37 h38 h39 (upd (upd v33 9 (u26_ 0)) 10 (u26_ 1)))), (h39, zi k39 400 (a26_ 0)), (h37, zi k37 400 (a26_ 1)), (h35, zi k35 300 (a26_ 2)), (h38, zi k38 400 (a26_ 3)), (h2, zi k2 600 f2), (h3, zi k3 12 (a26_ 4)), (h11, .inr (10, mX10 h12 h13 h14 h15 h16 h17 v11)), (h12, .inl (k12, 10, .inr (.inl f12))), (h34, zi k34 300 (a26_ 6)), (h36, zi k36 300 (a26_ 7)), (h23, .inr (6, mX6 h24 h25 h26 h27 h28 h29 h30 h31 (upd (upd (upd (upd v23 8 (v23 8)) 9 (v23 9)) 10 (v23 10)) 11 (v23 11)))), (h29, zi k29 400 f29), (h31, zi k31 400 f31), (h28, zi k28 400 f28), (h25, zi k25 833 f25), (h24, zi k24 1250 f24), (h26, zi k26 833 f26), (h27, zi k27 400 f27), (h30, zi k30 400 f30), (h19, zi k19 120 f19), (h20, zi k20 120 f20), (h22, zi k22 120 f22)] H := hP
      have hD9 : va_D A [(h0, .inr (11, mX11 h1 h4 h11 h18 h23 h32 h33 h40 h48 h49 sp0 lw0)), (h18, .inr (0, mX0 h19 h20 h21 h22 (upd (upd v18 4 (v18 4)) 5 (v18 5)))), (h4, .inr (10, mX10 h5 h6 h7 h8 h9 h10 (upd v4 7 (u69_ 0)))), (h1, .inr (9, mX9 h2 h3 (upd (upd v1 2 (u57_ 0)) 3 (u26_ 2)))), (h7, zi k7 400 (a69_ 0)), (h6, zi k6 400 (a69_ 1)), (h5, .inl (k5, 400, .inr (.inl (b69_ 0)))), (h33, .inr (2, mX2 h1 h4 h11 h34 h35 h36 h37 h38 h39 (upd (upd v33 9 (u26_ 0)) 10 (u26_ 1)))), (h39, zi k39 400 (a26_ 0)), (h37, zi k37 400 (a26_ 1)), (h35, zi k35 300 (a26_ 2)), (h38, zi k38 400 (a26_ 3)), (h2, zi k2 600 f2), (h3, zi k3 12 (a26_ 4)), (h11, .inr (10, mX10 h12 h13 h14 h15 h16 h17 v11)), (h12, .inl (k12, 10, .inr (.inl f12))), (h34, zi k34 300 (a26_ 6)), (h36, zi k36 300 (a26_ 7)), (h23, .inr (6, mX6 h24 h25 h26 h27 h28 h29 h30 h31 (upd (upd (upd (upd v23 8 (v23 8)) 9 (v23 9)) 10 (v23 10)) 11 (v23 11)))), (h29, zi k29 400 f29), (h31, zi k31 400 f31), (h28, zi k28 400 f28), (h25, zi k25 833 f25), (h24, zi k24 1250 f24), (h26, zi k26 833 f26), (h27, zi k27 400 f27), (h30, zi k30 400 f30), (h19, zi k19 120 f19), (h20, zi k20 120 f20), (h22, zi k22 120 f22)] := hD
      have hB0 : zPhi f25 f28 f29 (v23 9).toInt (v23 8).toInt := by assumption
      exact W.iret (v := (-2)) hx hb hr (fun t ht hW => ⟨⟨(-2), (fun i => ([(v18 4), (v18 5), (u69_ 0), (u57_ 0), (u26_ 2), (u26_ 0), (u26_ 1), (v23 8), (v23 9), (v23 10), (v23 11)] : List (Int32)).getD i 0), rfl, hpost, (fun _ => 0), (fun i => ([(a69_ 0), (a69_ 1), (a26_ 0), (a26_ 1), (a26_ 2), (a26_ 3), (a26_ 4), (a26_ 6), (a26_ 7), f29, f31, f28, f25, f24, f26, f27, f30, f19, f20, f22] : List (Nat → Int32)).getD i (fun _ => 0)), (fun i => ([(b69_ 0)] : List (Nat → Int64)).getD i (fun _ => 0)), ha69_0, ha69_1, ha26_1, ha26_2, ha26_3, ha26_7, hf28, hf25, hf20, hB0, by rw [ht]; exact hP9, va_K.moved hW.alike hK, hD9⟩, hS.F ht⟩) hS.2.2 dX11_enter_74
    · skip
      have b_ := zF_eq rfl zk_0 c_
      refine lv_aload_n hx hb dX11_enter_32 rfl (lv_at hl 2 rfl) ?_
      refine va_get (D := (dC, dI)) (ci := 11) (v := .ref h33) (C := RX11) (T := TX11) (N := 12) hx hb hG zuX11 hown hK hP 0 rfl rfl 6 (by decide) (hG _ zv563) (fun _ h9 => h9) rfl dX11_enter_33 ?_
      refine lv_aload_n hx hb dX11_enter_36 rfl (lv_at hl 2 rfl) ?_
      refine va_get (D := (dC, dI)) (ci := 11) (v := .ref h23) (C := RX11) (T := TX11) (N := 12) hx hb hG zuX11 hown hK hP 0 rfl rfl 4 (by decide) (hG _ zv561) (fun _ h9 => h9) rfl dX11_enter_37 ?_
      refine lv_iload_n hx hb dX11_enter_40 rfl (lv_at hl 1 rfl) ?_
      have hPc := hP.sub (ws' := [(h23, .inr (6, mX6 h24 h25 h26 h27 h28 h29 h30 h31 v23)), (h33, .inr (2, mX2 h1 h4 h11 h34 h35 h36 h37 h38 h39 (upd (upd v33 9 (u26_ 0)) 10 (u26_ 1)))), (h36, zi k36 300 (a26_ 7)), (h29, zi k29 400 f29), (h31, zi k31 400 f31), (h39, zi k39 400 (a26_ 0)), (h37, zi k37 400 (a26_ 1)), (h34, zi k34 300 (a26_ 6)), (h35, zi k35 300 (a26_ 2)), (h38, zi k38 400 (a26_ 3))]) [18, 7, 17, 19, 20, 8, 9, 16, 10, 11] rfl
      have hDc := hD.sub (ws' := [(h23, .inr (6, mX6 h24 h25 h26 h27 h28 h29 h30 h31 v23)), (h33, .inr (2, mX2 h1 h4 h11 h34 h35 h36 h37 h38 h39 (upd (upd v33 9 (u26_ 0)) 10 (u26_ 1)))), (h36, zi k36 300 (a26_ 7)), (h29, zi k29 400 f29), (h31, zi k31 400 f31), (h39, zi k39 400 (a26_ 0)), (h37, zi k37 400 (a26_ 1)), (h34, zi k34 300 (a26_ 6)), (h35, zi k35 300 (a26_ 2)), (h38, zi k38 400 (a26_ 3))]) [18, 7, 17, 19, 20, 8, 9, 16, 10, 11] (by decide) rfl
      have hKc := hK.sub (tys' := [(k36, .int), (k29, .int), (k31, .int), (k39, .int), (k37, .int), (k34, .int), (k35, .int), (k38, .int)]) [11, 12, 13, 3, 4, 10, 5, 6] rfl
      have hFc := va_free (wc := [(h23, .inr (6, mX6 h24 h25 h26 h27 h28 h29 h30 h31 v23)), (h33, .inr (2, mX2 h1 h4 h11 h34 h35 h36 h37 h38 h39 (upd (upd v33 9 (u26_ 0)) 10 (u26_ 1)))), (h36, zi k36 300 (a26_ 7)), (h29, zi k29 400 f29), (h31, zi k31 400 f31), (h39, zi k39 400 (a26_ 0)), (h37, zi k37 400 (a26_ 1)), (h34, zi k34 300 (a26_ 6)), (h35, zi k35 300 (a26_ 2)), (h38, zi k38 400 (a26_ 3))]) hD hS hA [18, 7, 17, 19, 20, 8, 9, 16, 10, 11] rfl
      refine va_calli (va_runV (As := [.ref h23, .int r4_]) (rest := []) ⟨hx, hb, hml, hown, hG⟩ (sX2_fits_0 l dC dI adK adV h23 h33 h36 h29 h31 h39 h37 h34 h35 h38 h24 h25 h26 h27 h28 h30 h1 h4 h11 k36 k29 k31 k39 k37 k34 k35 k38 H.size v23 (upd (upd v33 9 (u26_ 0)) 10 (u26_ 1)) (a26_ 7) f29 f31 (a26_ 0) (a26_ 1) (a26_ 6) (a26_ 2) (a26_ 3) r4_ hv23 (zR_upd (zR_upd hv33 9 (show (0 : Int) ≤ ((u26_ 0) : Int32).toInt from by omega) (show ((u26_ 0) : Int32).toInt ≤ (300 : Int) from by omega)) 10 (show (0 : Int) ≤ ((u26_ 1) : Int32).toInt from by omega) (show ((u26_ 1) : Int32).toInt ≤ (300 : Int) from by omega)) ha26_7 ha26_1 ha26_2 ha26_3 (show zChn (a26_ 1) (a26_ 2) (a26_ 3) (a26_ 0) (u26_ 0).toInt from by assumption)) (cwV 2 hG (zgV zv763 zv764 zv765 zv135 zv766) rfl rfl rfl (by decide +kernel) ⟨Nat.le_of_ble_eq_true rfl, Nat.le_of_ble_eq_true rfl⟩) ⟨zPc_blind, va_recv hKc hPc (ci := 2) (q0 := 1) rfl rfl, zPc_pre hPc hKc hDc hE hS hFc hZ⟩ rfl rfl hl.1 rfl (lv_room (Nat.le_of_ble_eq_true rfl)) dX11_enter_41 ⟨Nat.le_of_ble_eq_true rfl, Nat.le_of_ble_eq_true rfl⟩) hS (fun q _ h => hFc q h) hFc (fun r41_ u41_ t H1 locs ht hvm hw hB hz1 hk1 hS => ?_)
      have hw : (0 ≤ r41_.toInt ∧ r41_.toInt ≤ 1) := hw
      have b_ := hw
      obtain ⟨w41_, a41_, b41_, hP1, hK1, hD1⟩ := hB
      rw [ht] at hP1
      obtain ⟨hP, hD⟩ := va_join (wr := [(h0, .inr (11, mX11 h1 h4 h11 h18 h23 h32 h33 h40 h48 h49 sp0 lw0)), (h18, .inr (0, mX0 h19 h20 h21 h22 v18)), (h4, .inr (10, mX10 h5 h6 h7 h8 h9 h10 (upd v4 7 (u26_ 3)))), (h1, .inr (9, mX9 h2 h3 (upd v1 3 (u26_ 2)))), (h7, zi k7 400 f7), (h6, zi k6 400 (a26_ 5)), (h5, .inl (k5, 400, .inr (.inl (b26_ 0)))), (h2, zi k2 600 f2), (h3, zi k3 12 (a26_ 4)), (h11, .inr (10, mX10 h12 h13 h14 h15 h16 h17 v11)), (h12, .inl (k12, 10, .inr (.inl f12))), (h28, zi k28 400 f28), (h25, zi k25 833 f25), (h24, zi k24 1250 f24), (h26, zi k26 833 f26), (h27, zi k27 400 f27), (h30, zi k30 400 f30), (h19, zi k19 120 f19), (h20, zi k20 120 f20), (h22, zi k22 120 f22)]) (w1 := [(h23, .inr (6, mX6 h24 h25 h26 h27 h28 h29 h30 h31 v23)), (h33, .inr (2, mX2 h1 h4 h11 h34 h35 h36 h37 h38 h39 (upd (upd v33 9 (u26_ 0)) 10 (u26_ 1)))), (h36, zi k36 300 (a26_ 7)), (h29, zi k29 400 f29), (h31, zi k31 400 f31), (h39, zi k39 400 (a26_ 0)), (h37, zi k37 400 (a26_ 1)), (h34, zi k34 300 (a26_ 6)), (h35, zi k35 300 (a26_ 2)), (h38, zi k38 400 (a26_ 3))]) hP hD [18, 7, 17, 19, 20, 8, 9, 16, 10, 11] [0, 1, 2, 3, 4, 5, 6, 12, 13, 14, 15, 21, 22, 23, 24, 25, 26, 27, 28, 29] rfl rfl (by decide) (by decide) hk1 hFc hP1 hD1
      have hP : va_P (dC, dI) vwCl [(h0, .inr (11, mX11 h1 h4 h11 h18 h23 h32 h33 h40 h48 h49 sp0 lw0)), (h18, .inr (0, mX0 h19 h20 h21 h22 v18)), (h4, .inr (10, mX10 h5 h6 h7 h8 h9 h10 (upd v4 7 (u26_ 3)))), (h1, .inr (9, mX9 h2 h3 (upd v1 3 (u26_ 2)))), (h7, zi k7 400 f7), (h6, zi k6 400 (a26_ 5)), (h5, .inl (k5, 400, .inr (.inl (b26_ 0)))), (h33, .inr (2, mX2 h1 h4 h11 h34 h35 h36 h37 h38 h39 (upd (upd v33 9 (u26_ 0)) 10 (u26_ 1)))), (h39, zi k39 400 (a26_ 0)), (h37, zi k37 400 (a26_ 1)), (h35, zi k35 300 (a26_ 2)), (h38, zi k38 400 (a26_ 3)), (h2, zi k2 600 f2), (h3, zi k3 12 (a26_ 4)), (h11, .inr (10, mX10 h12 h13 h14 h15 h16 h17 v11)), (h12, .inl (k12, 10, .inr (.inl f12))), (h34, zi k34 300 (a26_ 6)), (h36, zi k36 300 (a26_ 7)), (h23, .inr (6, mX6 h24 h25 h26 h27 h28 h29 h30 h31 v23)), (h29, zi k29 400 f29), (h31, zi k31 400 f31), (h28, zi k28 400 f28), (h25, zi k25 833 f25), (h24, zi k24 1250 f24), (h26, zi k26 833 f26), (h27, zi k27 400 f27), (h30, zi k30 400 f30), (h19, zi k19 120 f19), (h20, zi k20 120 f20), (h22, zi k22 120 f22)] H1 := hP.sub [0, 1, 2, 3, 4, 5, 6, 21, 25, 26, 28, 29, 7, 8, 9, 10, 27, 22, 20, 23, 24, 11, 12, 13, 14, 15, 16, 17, 18, 19] rfl
      have hD : va_D A [(h0, .inr (11, mX11 h1 h4 h11 h18 h23 h32 h33 h40 h48 h49 sp0 lw0)), (h18, .inr (0, mX0 h19 h20 h21 h22 v18)), (h4, .inr (10, mX10 h5 h6 h7 h8 h9 h10 (upd v4 7 (u26_ 3)))), (h1, .inr (9, mX9 h2 h3 (upd v1 3 (u26_ 2)))), (h7, zi k7 400 f7), (h6, zi k6 400 (a26_ 5)), (h5, .inl (k5, 400, .inr (.inl (b26_ 0)))), (h33, .inr (2, mX2 h1 h4 h11 h34 h35 h36 h37 h38 h39 (upd (upd v33 9 (u26_ 0)) 10 (u26_ 1)))), (h39, zi k39 400 (a26_ 0)), (h37, zi k37 400 (a26_ 1)), (h35, zi k35 300 (a26_ 2)), (h38, zi k38 400 (a26_ 3)), (h2, zi k2 600 f2), (h3, zi k3 12 (a26_ 4)), (h11, .inr (10, mX10 h12 h13 h14 h15 h16 h17 v11)), (h12, .inl (k12, 10, .inr (.inl f12))), (h34, zi k34 300 (a26_ 6)), (h36, zi k36 300 (a26_ 7)), (h23, .inr (6, mX6 h24 h25 h26 h27 h28 h29 h30 h31 v23)), (h29, zi k29 400 f29), (h31, zi k31 400 f31), (h28, zi k28 400 f28), (h25, zi k25 833 f25), (h24, zi k24 1250 f24), (h26, zi k26 833 f26), (h27, zi k27 400 f27), (h30, zi k30 400 f30), (h19, zi k19 120 f19), (h20, zi k20 120 f20), (h22, zi k22 120 f22)] := hD.sub [0, 1, 2, 3, 4, 5, 6, 21, 25, 26, 28, 29, 7, 8, 9, 10, 27, 22, 20, 23, 24, 11, 12, 13, 14, 15, 16, 17, 18, 19] (by decide) rfl
      generalize H1 = H at hP hS ⊢
      clear hz1
      refine lv_if_eq (tgt := 51) hx hb dX11_enter_44 (by decide) (fun c_ => ?_) (fun c_ => ?_)
      · skip
        have b_ := zT_eq rfl zk_0 c_
        refine lv_iconst (v := 0) hx hb dX11_enter_51 (by decide) ?_
        refine lv_istore_n (lv' := [(3, .int 0), (2, .int r12_), (1, .int r4_), (0, .ref h0)]) hx hb dX11_enter_52 rfl hl (by decide) rfl (fun ls hl => ?_)
        refine lv_aload_n hx hb dX11_enter_53 rfl (lv_at hl 3 rfl) ?_
        refine va_get (D := (dC, dI)) (ci := 11) (v := .ref h1) (C := RX11) (T := TX11) (N := 12) hx hb hG zuX11 hown hK hP 0 rfl rfl 0 (by decide) (hG _ zv557) (fun _ h9 => h9) rfl dX11_enter_54 ?_
        have hPc := hP.sub (ws' := [(h1, .inr (9, mX9 h2 h3 (upd v1 3 (u26_ 2))))]) [3] rfl
        have hDc := hD.sub (ws' := [(h1, .inr (9, mX9 h2 h3 (upd v1 3 (u26_ 2))))]) [3] (by decide) rfl
        have hKc := hK.sub (tys' := []) [] rfl
        have hFc := va_free (wc := [(h1, .inr (9, mX9 h2 h3 (upd v1 3 (u26_ 2))))]) hD hS hA [3] rfl
        refine va_callv (va_runV (As := []) (rest := []) ⟨hx, hb, hml, hown, hG⟩ (sX9_clear_0 l dC dI adK adV h1 h2 h3 H.size (upd v1 3 (u26_ 2)) (zR_upd hv1 3 (show (0 : Int) ≤ ((u26_ 2) : Int32).toInt from by omega) (show ((u26_ 2) : Int32).toInt ≤ (12 : Int) from by omega))) (cwV 0 hG (zgV zv809 zv810 zv811 zv130 zv812) rfl rfl rfl (by decide +kernel) ⟨Nat.le_of_ble_eq_true rfl, Nat.le_of_ble_eq_true rfl⟩) ⟨zPc_blind, va_recv hKc hPc (ci := 9) (q0 := 0) rfl rfl, zPc_pre hPc hKc hDc hE hS hFc hZ⟩ rfl rfl hl.1 rfl (lv_room (Nat.le_of_ble_eq_true rfl)) dX11_enter_57 ⟨Nat.le_of_ble_eq_true rfl, Nat.le_of_ble_eq_true rfl⟩) hS (fun q _ h => hFc q h) hFc (fun u57_ t H1 locs ht hvm hw hB hz1 hk1 hS => ?_)
        have hw : (0 ≤ (u57_ 0).toInt ∧ (u57_ 0).toInt ≤ 0) := hw
        have b_ := hw
        obtain ⟨w57_, a57_, b57_, hP1, hK1, hD1⟩ := hB
        rw [ht] at hP1
        obtain ⟨hP, hD⟩ := va_join (wr := [(h0, .inr (11, mX11 h1 h4 h11 h18 h23 h32 h33 h40 h48 h49 sp0 lw0)), (h18, .inr (0, mX0 h19 h20 h21 h22 v18)), (h4, .inr (10, mX10 h5 h6 h7 h8 h9 h10 (upd v4 7 (u26_ 3)))), (h7, zi k7 400 f7), (h6, zi k6 400 (a26_ 5)), (h5, .inl (k5, 400, .inr (.inl (b26_ 0)))), (h33, .inr (2, mX2 h1 h4 h11 h34 h35 h36 h37 h38 h39 (upd (upd v33 9 (u26_ 0)) 10 (u26_ 1)))), (h39, zi k39 400 (a26_ 0)), (h37, zi k37 400 (a26_ 1)), (h35, zi k35 300 (a26_ 2)), (h38, zi k38 400 (a26_ 3)), (h2, zi k2 600 f2), (h3, zi k3 12 (a26_ 4)), (h11, .inr (10, mX10 h12 h13 h14 h15 h16 h17 v11)), (h12, .inl (k12, 10, .inr (.inl f12))), (h34, zi k34 300 (a26_ 6)), (h36, zi k36 300 (a26_ 7)), (h23, .inr (6, mX6 h24 h25 h26 h27 h28 h29 h30 h31 v23)), (h29, zi k29 400 f29), (h31, zi k31 400 f31), (h28, zi k28 400 f28), (h25, zi k25 833 f25), (h24, zi k24 1250 f24), (h26, zi k26 833 f26), (h27, zi k27 400 f27), (h30, zi k30 400 f30), (h19, zi k19 120 f19), (h20, zi k20 120 f20), (h22, zi k22 120 f22)]) (w1 := [(h1, .inr (9, mX9 h2 h3 (upd (upd v1 2 (u57_ 0)) 3 (u26_ 2))))]) hP hD [3] [0, 1, 2, 4, 5, 6, 7, 8, 9, 10, 11, 12, 13, 14, 15, 16, 17, 18, 19, 20, 21, 22, 23, 24, 25, 26, 27, 28, 29] rfl rfl (by decide) (by decide) hk1 hFc hP1 hD1
        have hP : va_P (dC, dI) vwCl [(h0, .inr (11, mX11 h1 h4 h11 h18 h23 h32 h33 h40 h48 h49 sp0 lw0)), (h18, .inr (0, mX0 h19 h20 h21 h22 v18)), (h4, .inr (10, mX10 h5 h6 h7 h8 h9 h10 (upd v4 7 (u26_ 3)))), (h1, .inr (9, mX9 h2 h3 (upd (upd v1 2 (u57_ 0)) 3 (u26_ 2)))), (h7, zi k7 400 f7), (h6, zi k6 400 (a26_ 5)), (h5, .inl (k5, 400, .inr (.inl (b26_ 0)))), (h33, .inr (2, mX2 h1 h4 h11 h34 h35 h36 h37 h38 h39 (upd (upd v33 9 (u26_ 0)) 10 (u26_ 1)))), (h39, zi k39 400 (a26_ 0)), (h37, zi k37 400 (a26_ 1)), (h35, zi k35 300 (a26_ 2)), (h38, zi k38 400 (a26_ 3)), (h2, zi k2 600 f2), (h3, zi k3 12 (a26_ 4)), (h11, .inr (10, mX10 h12 h13 h14 h15 h16 h17 v11)), (h12, .inl (k12, 10, .inr (.inl f12))), (h34, zi k34 300 (a26_ 6)), (h36, zi k36 300 (a26_ 7)), (h23, .inr (6, mX6 h24 h25 h26 h27 h28 h29 h30 h31 v23)), (h29, zi k29 400 f29), (h31, zi k31 400 f31), (h28, zi k28 400 f28), (h25, zi k25 833 f25), (h24, zi k24 1250 f24), (h26, zi k26 833 f26), (h27, zi k27 400 f27), (h30, zi k30 400 f30), (h19, zi k19 120 f19), (h20, zi k20 120 f20), (h22, zi k22 120 f22)] H1 := hP.sub [0, 1, 2, 29, 3, 4, 5, 6, 7, 8, 9, 10, 11, 12, 13, 14, 15, 16, 17, 18, 19, 20, 21, 22, 23, 24, 25, 26, 27, 28] rfl
        have hD : va_D A [(h0, .inr (11, mX11 h1 h4 h11 h18 h23 h32 h33 h40 h48 h49 sp0 lw0)), (h18, .inr (0, mX0 h19 h20 h21 h22 v18)), (h4, .inr (10, mX10 h5 h6 h7 h8 h9 h10 (upd v4 7 (u26_ 3)))), (h1, .inr (9, mX9 h2 h3 (upd (upd v1 2 (u57_ 0)) 3 (u26_ 2)))), (h7, zi k7 400 f7), (h6, zi k6 400 (a26_ 5)), (h5, .inl (k5, 400, .inr (.inl (b26_ 0)))), (h33, .inr (2, mX2 h1 h4 h11 h34 h35 h36 h37 h38 h39 (upd (upd v33 9 (u26_ 0)) 10 (u26_ 1)))), (h39, zi k39 400 (a26_ 0)), (h37, zi k37 400 (a26_ 1)), (h35, zi k35 300 (a26_ 2)), (h38, zi k38 400 (a26_ 3)), (h2, zi k2 600 f2), (h3, zi k3 12 (a26_ 4)), (h11, .inr (10, mX10 h12 h13 h14 h15 h16 h17 v11)), (h12, .inl (k12, 10, .inr (.inl f12))), (h34, zi k34 300 (a26_ 6)), (h36, zi k36 300 (a26_ 7)), (h23, .inr (6, mX6 h24 h25 h26 h27 h28 h29 h30 h31 v23)), (h29, zi k29 400 f29), (h31, zi k31 400 f31), (h28, zi k28 400 f28), (h25, zi k25 833 f25), (h24, zi k24 1250 f24), (h26, zi k26 833 f26), (h27, zi k27 400 f27), (h30, zi k30 400 f30), (h19, zi k19 120 f19), (h20, zi k20 120 f20), (h22, zi k22 120 f22)] := hD.sub [0, 1, 2, 29, 3, 4, 5, 6, 7, 8, 9, 10, 11, 12, 13, 14, 15, 16, 17, 18, 19, 20, 21, 22, 23, 24, 25, 26, 27, 28] (by decide) rfl
        generalize H1 = H at hP hS ⊢
        clear hz1
        refine lv_iload_n hx hb dX11_enter_60 rfl (lv_at hl 0 rfl) ?_
        refine lv_if_ne (tgt := 75) hx hb dX11_enter_61 (by decide) (fun c_ => absurd c_ (by decide)) (fun c_ => ?_)
        refine lv_aload_n hx hb dX11_enter_64 rfl (lv_at hl 3 rfl) ?_
        refine va_get (D := (dC, dI)) (ci := 11) (v := .ref h4) (C := RX11) (T := TX11) (N := 12) hx hb hG zuX11 hown hK hP 0 rfl rfl 1 (by decide) (hG _ zv558) (fun _ h9 => h9) rfl dX11_enter_65 ?_
        refine lv_iload_n hx hb dX11_enter_68 rfl (lv_at hl 1 rfl) ?_
        have hPc := hP.sub (ws' := [(h4, .inr (10, mX10 h5 h6 h7 h8 h9 h10 (upd v4 7 (u26_ 3)))), (h7, zi k7 400 f7), (h6, zi k6 400 (a26_ 5)), (h5, .inl (k5, 400, .inr (.inl (b26_ 0))))]) [2, 4, 5, 6] rfl
        have hDc := hD.sub (ws' := [(h4, .inr (10, mX10 h5 h6 h7 h8 h9 h10 (upd v4 7 (u26_ 3)))), (h7, zi k7 400 f7), (h6, zi k6 400 (a26_ 5)), (h5, .inl (k5, 400, .inr (.inl (b26_ 0))))]) [2, 4, 5, 6] (by decide) rfl
        have hKc := hK.sub (tys' := [(k7, .int), (k6, .int), (k5, .long)]) [0, 1, 2] rfl
        have hFc := va_free (wc := [(h4, .inr (10, mX10 h5 h6 h7 h8 h9 h10 (upd v4 7 (u26_ 3)))), (h7, zi k7 400 f7), (h6, zi k6 400 (a26_ 5)), (h5, .inl (k5, 400, .inr (.inl (b26_ 0))))]) hD hS hA [2, 4, 5, 6] rfl
        refine va_callv (va_runV (As := [.int r12_]) (rest := []) ⟨hx, hb, hml, hown, hG⟩ (sX10_forget_0 l dC dI adK adV h4 h7 h6 h5 h8 h9 h10 k7 k6 k5 H.size (upd v4 7 (u26_ 3)) f7 (a26_ 5) (b26_ 0) r12_ (zR_upd hv4 7 (show (0 : Int) ≤ ((u26_ 3) : Int32).toInt from by omega) (show ((u26_ 3) : Int32).toInt ≤ (400 : Int) from by omega)) hf7 ha26_5) (cwV 1 hG (zgV zv813 zv814 zv815 zv131 zv816) rfl rfl rfl (by decide +kernel) ⟨Nat.le_of_ble_eq_true rfl, Nat.le_of_ble_eq_true rfl⟩) ⟨zPc_blind, va_recv hKc hPc (ci := 10) (q0 := 0) rfl rfl, zPc_pre hPc hKc hDc hE hS hFc hZ⟩ rfl rfl hl.1 rfl (lv_room (Nat.le_of_ble_eq_true rfl)) dX11_enter_69 ⟨Nat.le_of_ble_eq_true rfl, Nat.le_of_ble_eq_true rfl⟩) hS (fun q _ h => hFc q h) hFc (fun u69_ t H1 locs ht hvm hw hB hz1 hk1 hS => ?_)
        have hw : (0 ≤ (u69_ 0).toInt ∧ (u69_ 0).toInt ≤ 400) := hw
        have b_ := hw
        obtain ⟨w69_, a69_, b69_, ha69_0, ha69_1, hP1, hK1, hD1⟩ := hB
        rw [ht] at hP1
        obtain ⟨hP, hD⟩ := va_join (wr := [(h0, .inr (11, mX11 h1 h4 h11 h18 h23 h32 h33 h40 h48 h49 sp0 lw0)), (h18, .inr (0, mX0 h19 h20 h21 h22 v18)), (h1, .inr (9, mX9 h2 h3 (upd (upd v1 2 (u57_ 0)) 3 (u26_ 2)))), (h33, .inr (2, mX2 h1 h4 h11 h34 h35 h36 h37 h38 h39 (upd (upd v33 9 (u26_ 0)) 10 (u26_ 1)))), (h39, zi k39 400 (a26_ 0)), (h37, zi k37 400 (a26_ 1)), (h35, zi k35 300 (a26_ 2)), (h38, zi k38 400 (a26_ 3)), (h2, zi k2 600 f2), (h3, zi k3 12 (a26_ 4)), (h11, .inr (10, mX10 h12 h13 h14 h15 h16 h17 v11)), (h12, .inl (k12, 10, .inr (.inl f12))), (h34, zi k34 300 (a26_ 6)), (h36, zi k36 300 (a26_ 7)), (h23, .inr (6, mX6 h24 h25 h26 h27 h28 h29 h30 h31 v23)), (h29, zi k29 400 f29), (h31, zi k31 400 f31), (h28, zi k28 400 f28), (h25, zi k25 833 f25), (h24, zi k24 1250 f24), (h26, zi k26 833 f26), (h27, zi k27 400 f27), (h30, zi k30 400 f30), (h19, zi k19 120 f19), (h20, zi k20 120 f20), (h22, zi k22 120 f22)]) (w1 := [(h4, .inr (10, mX10 h5 h6 h7 h8 h9 h10 (upd v4 7 (u69_ 0)))), (h7, zi k7 400 (a69_ 0)), (h6, zi k6 400 (a69_ 1)), (h5, .inl (k5, 400, .inr (.inl (b69_ 0))))]) hP hD [2, 4, 5, 6] [0, 1, 3, 7, 8, 9, 10, 11, 12, 13, 14, 15, 16, 17, 18, 19, 20, 21, 22, 23, 24, 25, 26, 27, 28, 29] rfl rfl (by decide) (by decide) hk1 hFc hP1 hD1
        have hP : va_P (dC, dI) vwCl [(h0, .inr (11, mX11 h1 h4 h11 h18 h23 h32 h33 h40 h48 h49 sp0 lw0)), (h18, .inr (0, mX0 h19 h20 h21 h22 v18)), (h4, .inr (10, mX10 h5 h6 h7 h8 h9 h10 (upd v4 7 (u69_ 0)))), (h1, .inr (9, mX9 h2 h3 (upd (upd v1 2 (u57_ 0)) 3 (u26_ 2)))), (h7, zi k7 400 (a69_ 0)), (h6, zi k6 400 (a69_ 1)), (h5, .inl (k5, 400, .inr (.inl (b69_ 0)))), (h33, .inr (2, mX2 h1 h4 h11 h34 h35 h36 h37 h38 h39 (upd (upd v33 9 (u26_ 0)) 10 (u26_ 1)))), (h39, zi k39 400 (a26_ 0)), (h37, zi k37 400 (a26_ 1)), (h35, zi k35 300 (a26_ 2)), (h38, zi k38 400 (a26_ 3)), (h2, zi k2 600 f2), (h3, zi k3 12 (a26_ 4)), (h11, .inr (10, mX10 h12 h13 h14 h15 h16 h17 v11)), (h12, .inl (k12, 10, .inr (.inl f12))), (h34, zi k34 300 (a26_ 6)), (h36, zi k36 300 (a26_ 7)), (h23, .inr (6, mX6 h24 h25 h26 h27 h28 h29 h30 h31 v23)), (h29, zi k29 400 f29), (h31, zi k31 400 f31), (h28, zi k28 400 f28), (h25, zi k25 833 f25), (h24, zi k24 1250 f24), (h26, zi k26 833 f26), (h27, zi k27 400 f27), (h30, zi k30 400 f30), (h19, zi k19 120 f19), (h20, zi k20 120 f20), (h22, zi k22 120 f22)] H1 := hP.sub [0, 1, 26, 2, 27, 28, 29, 3, 4, 5, 6, 7, 8, 9, 10, 11, 12, 13, 14, 15, 16, 17, 18, 19, 20, 21, 22, 23, 24, 25] rfl
        have hD : va_D A [(h0, .inr (11, mX11 h1 h4 h11 h18 h23 h32 h33 h40 h48 h49 sp0 lw0)), (h18, .inr (0, mX0 h19 h20 h21 h22 v18)), (h4, .inr (10, mX10 h5 h6 h7 h8 h9 h10 (upd v4 7 (u69_ 0)))), (h1, .inr (9, mX9 h2 h3 (upd (upd v1 2 (u57_ 0)) 3 (u26_ 2)))), (h7, zi k7 400 (a69_ 0)), (h6, zi k6 400 (a69_ 1)), (h5, .inl (k5, 400, .inr (.inl (b69_ 0)))), (h33, .inr (2, mX2 h1 h4 h11 h34 h35 h36 h37 h38 h39 (upd (upd v33 9 (u26_ 0)) 10 (u26_ 1)))), (h39, zi k39 400 (a26_ 0)), (h37, zi k37 400 (a26_ 1)), (h35, zi k35 300 (a26_ 2)), (h38, zi k38 400 (a26_ 3)), (h2, zi k2 600 f2), (h3, zi k3 12 (a26_ 4)), (h11, .inr (10, mX10 h12 h13 h14 h15 h16 h17 v11)), (h12, .inl (k12, 10, .inr (.inl f12))), (h34, zi k34 300 (a26_ 6)), (h36, zi k36 300 (a26_ 7)), (h23, .inr (6, mX6 h24 h25 h26 h27 h28 h29 h30 h31 v23)), (h29, zi k29 400 f29), (h31, zi k31 400 f31), (h28, zi k28 400 f28), (h25, zi k25 833 f25), (h24, zi k24 1250 f24), (h26, zi k26 833 f26), (h27, zi k27 400 f27), (h30, zi k30 400 f30), (h19, zi k19 120 f19), (h20, zi k20 120 f20), (h22, zi k22 120 f22)] := hD.sub [0, 1, 26, 2, 27, 28, 29, 3, 4, 5, 6, 7, 8, 9, 10, 11, 12, 13, 14, 15, 16, 17, 18, 19, 20, 21, 22, 23, 24, 25] (by decide) rfl
        generalize H1 = H at hP hS ⊢
        clear hz1
        refine lv_bipush (v := (-2)) hx hb dX11_enter_72 (by decide) ?_
        refine W.widen (k := 0) (n := 0) (by decide) (by decide) ?_
        have b_ : 0 ≤ (v18 4).toInt ∧ (v18 4).toInt ≤ 120 := hv18 4
        have b_ : -2147483648 ≤ (v18 5).toInt ∧ (v18 5).toInt ≤ 2147483647 := ⟨zlo _, zhi _⟩
        have b_ : -2147483648 ≤ (v23 10).toInt ∧ (v23 10).toInt ≤ 2147483647 := ⟨zlo _, zhi _⟩
        have b_ : -2147483648 ≤ (v23 11).toInt ∧ (v23 11).toInt ≤ 2147483647 := ⟨zlo _, zhi _⟩
        have hpost : ((-2) ≤ ((-2) : Int32).toInt ∧ ((-2) : Int32).toInt ≤ 119) ∧ (0 ≤ (v18 4).toInt ∧ (v18 4).toInt ≤ 120) ∧ (0 ≤ (u69_ 0).toInt ∧ (u69_ 0).toInt ≤ 400) ∧ (0 ≤ (u57_ 0).toInt ∧ (u57_ 0).toInt ≤ 0) ∧ (0 ≤ (u26_ 2).toInt ∧ (u26_ 2).toInt ≤ 12) ∧ (0 ≤ (u26_ 0).toInt ∧ (u26_ 0).toInt ≤ 300) ∧ (0 ≤ (u26_ 1).toInt ∧ (u26_ 1).toInt ≤ 300) ∧ (0 ≤ (v23 8).toInt ∧ (v23 8).toInt ≤ 833) ∧ (0 ≤ (v23 9).toInt ∧ (v23 9).toInt ≤ 1250) := ⟨⟨by omega, by omega⟩, ⟨by omega, by omega⟩, ⟨by omega, by omega⟩, ⟨by omega, by omega⟩, ⟨by omega, by omega⟩, ⟨by omega, by omega⟩, ⟨by omega, by omega⟩, ⟨by omega, by omega⟩, ⟨by omega, by omega⟩⟩
        have hP9 : va_P (dC, dI) vwCl [(h0, .inr (11, mX11 h1 h4 h11 h18 h23 h32 h33 h40 h48 h49 sp0 lw0)), (h18, .inr (0, mX0 h19 h20 h21 h22 (upd (upd v18 4 (v18 4)) 5 (v18 5)))), (h4, .inr (10, mX10 h5 h6 h7 h8 h9 h10 (upd v4 7 (u69_ 0)))), (h1, .inr (9, mX9 h2 h3 (upd (upd v1 2 (u57_ 0)) 3 (u26_ 2)))), (h7, zi k7 400 (a69_ 0)), (h6, zi k6 400 (a69_ 1)), (h5, .inl (k5, 400, .inr (.inl (b69_ 0)))), (h33, .inr (2, mX2 h1 h4 h11 h34 h35 h36 h37 h38 h39 (upd (upd v33 9 (u26_ 0)) 10 (u26_ 1)))), (h39, zi k39 400 (a26_ 0)), (h37, zi k37 400 (a26_ 1)), (h35, zi k35 300 (a26_ 2)), (h38, zi k38 400 (a26_ 3)), (h2, zi k2 600 f2), (h3, zi k3 12 (a26_ 4)), (h11, .inr (10, mX10 h12 h13 h14 h15 h16 h17 v11)), (h12, .inl (k12, 10, .inr (.inl f12))), (h34, zi k34 300 (a26_ 6)), (h36, zi k36 300 (a26_ 7)), (h23, .inr (6, mX6 h24 h25 h26 h27 h28 h29 h30 h31 (upd (upd (upd (upd v23 8 (v23 8)) 9 (v23 9)) 10 (v23 10)) 11 (v23 11)))), (h29, zi k29 400 f29), (h31, zi k31 400 f31), (h28, zi k28 400 f28), (h25, zi k25 833 f25), (h24, zi k24 1250 f24), (h26, zi k26 833 f26), (h27, zi k27 400 f27), (h30, zi k30 400 f30), (h19, zi k19 120 f19), (h20, zi k20 120 f20), (h22, zi k22 120 f22)] H := hP
        have hD9 : va_D A [(h0, .inr (11, mX11 h1 h4 h11 h18 h23 h32 h33 h40 h48 h49 sp0 lw0)), (h18, .inr (0, mX0 h19 h20 h21 h22 (upd (upd v18 4 (v18 4)) 5 (v18 5)))), (h4, .inr (10, mX10 h5 h6 h7 h8 h9 h10 (upd v4 7 (u69_ 0)))), (h1, .inr (9, mX9 h2 h3 (upd (upd v1 2 (u57_ 0)) 3 (u26_ 2)))), (h7, zi k7 400 (a69_ 0)), (h6, zi k6 400 (a69_ 1)), (h5, .inl (k5, 400, .inr (.inl (b69_ 0)))), (h33, .inr (2, mX2 h1 h4 h11 h34 h35 h36 h37 h38 h39 (upd (upd v33 9 (u26_ 0)) 10 (u26_ 1)))), (h39, zi k39 400 (a26_ 0)), (h37, zi k37 400 (a26_ 1)), (h35, zi k35 300 (a26_ 2)), (h38, zi k38 400 (a26_ 3)), (h2, zi k2 600 f2), (h3, zi k3 12 (a26_ 4)), (h11, .inr (10, mX10 h12 h13 h14 h15 h16 h17 v11)), (h12, .inl (k12, 10, .inr (.inl f12))), (h34, zi k34 300 (a26_ 6)), (h36, zi k36 300 (a26_ 7)), (h23, .inr (6, mX6 h24 h25 h26 h27 h28 h29 h30 h31 (upd (upd (upd (upd v23 8 (v23 8)) 9 (v23 9)) 10 (v23 10)) 11 (v23 11)))), (h29, zi k29 400 f29), (h31, zi k31 400 f31), (h28, zi k28 400 f28), (h25, zi k25 833 f25), (h24, zi k24 1250 f24), (h26, zi k26 833 f26), (h27, zi k27 400 f27), (h30, zi k30 400 f30), (h19, zi k19 120 f19), (h20, zi k20 120 f20), (h22, zi k22 120 f22)] := hD
        have hB0 : zPhi f25 f28 f29 (v23 9).toInt (v23 8).toInt := by assumption
        exact W.iret (v := (-2)) hx hb hr (fun t ht hW => ⟨⟨(-2), (fun i => ([(v18 4), (v18 5), (u69_ 0), (u57_ 0), (u26_ 2), (u26_ 0), (u26_ 1), (v23 8), (v23 9), (v23 10), (v23 11)] : List (Int32)).getD i 0), rfl, hpost, (fun _ => 0), (fun i => ([(a69_ 0), (a69_ 1), (a26_ 0), (a26_ 1), (a26_ 2), (a26_ 3), (a26_ 4), (a26_ 6), (a26_ 7), f29, f31, f28, f25, f24, f26, f27, f30, f19, f20, f22] : List (Nat → Int32)).getD i (fun _ => 0)), (fun i => ([(b69_ 0)] : List (Nat → Int64)).getD i (fun _ => 0)), ha69_0, ha69_1, ha26_1, ha26_2, ha26_3, ha26_7, hf28, hf25, hf20, hB0, by rw [ht]; exact hP9, va_K.moved hW.alike hK, hD9⟩, hS.F ht⟩) hS.2.2 dX11_enter_74
      · skip
        have b_ := zF_eq rfl zk_0 c_
        refine lv_iconst (v := 1) hx hb dX11_enter_47 (by decide) ?_
        refine lv_goto (tgt := 52) hx hb dX11_enter_48 (by decide) ?_
        refine lv_istore_n (lv' := [(3, .int 1), (2, .int r12_), (1, .int r4_), (0, .ref h0)]) hx hb dX11_enter_52 rfl hl (by decide) rfl (fun ls hl => ?_)
        refine lv_aload_n hx hb dX11_enter_53 rfl (lv_at hl 3 rfl) ?_
        refine va_get (D := (dC, dI)) (ci := 11) (v := .ref h1) (C := RX11) (T := TX11) (N := 12) hx hb hG zuX11 hown hK hP 0 rfl rfl 0 (by decide) (hG _ zv557) (fun _ h9 => h9) rfl dX11_enter_54 ?_
        have hPc := hP.sub (ws' := [(h1, .inr (9, mX9 h2 h3 (upd v1 3 (u26_ 2))))]) [3] rfl
        have hDc := hD.sub (ws' := [(h1, .inr (9, mX9 h2 h3 (upd v1 3 (u26_ 2))))]) [3] (by decide) rfl
        have hKc := hK.sub (tys' := []) [] rfl
        have hFc := va_free (wc := [(h1, .inr (9, mX9 h2 h3 (upd v1 3 (u26_ 2))))]) hD hS hA [3] rfl
        refine va_callv (va_runV (As := []) (rest := []) ⟨hx, hb, hml, hown, hG⟩ (sX9_clear_0 l dC dI adK adV h1 h2 h3 H.size (upd v1 3 (u26_ 2)) (zR_upd hv1 3 (show (0 : Int) ≤ ((u26_ 2) : Int32).toInt from by omega) (show ((u26_ 2) : Int32).toInt ≤ (12 : Int) from by omega))) (cwV 0 hG (zgV zv809 zv810 zv811 zv130 zv812) rfl rfl rfl (by decide +kernel) ⟨Nat.le_of_ble_eq_true rfl, Nat.le_of_ble_eq_true rfl⟩) ⟨zPc_blind, va_recv hKc hPc (ci := 9) (q0 := 0) rfl rfl, zPc_pre hPc hKc hDc hE hS hFc hZ⟩ rfl rfl hl.1 rfl (lv_room (Nat.le_of_ble_eq_true rfl)) dX11_enter_57 ⟨Nat.le_of_ble_eq_true rfl, Nat.le_of_ble_eq_true rfl⟩) hS (fun q _ h => hFc q h) hFc (fun u57_ t H1 locs ht hvm hw hB hz1 hk1 hS => ?_)
        have hw : (0 ≤ (u57_ 0).toInt ∧ (u57_ 0).toInt ≤ 0) := hw
        have b_ := hw
        obtain ⟨w57_, a57_, b57_, hP1, hK1, hD1⟩ := hB
        rw [ht] at hP1
        obtain ⟨hP, hD⟩ := va_join (wr := [(h0, .inr (11, mX11 h1 h4 h11 h18 h23 h32 h33 h40 h48 h49 sp0 lw0)), (h18, .inr (0, mX0 h19 h20 h21 h22 v18)), (h4, .inr (10, mX10 h5 h6 h7 h8 h9 h10 (upd v4 7 (u26_ 3)))), (h7, zi k7 400 f7), (h6, zi k6 400 (a26_ 5)), (h5, .inl (k5, 400, .inr (.inl (b26_ 0)))), (h33, .inr (2, mX2 h1 h4 h11 h34 h35 h36 h37 h38 h39 (upd (upd v33 9 (u26_ 0)) 10 (u26_ 1)))), (h39, zi k39 400 (a26_ 0)), (h37, zi k37 400 (a26_ 1)), (h35, zi k35 300 (a26_ 2)), (h38, zi k38 400 (a26_ 3)), (h2, zi k2 600 f2), (h3, zi k3 12 (a26_ 4)), (h11, .inr (10, mX10 h12 h13 h14 h15 h16 h17 v11)), (h12, .inl (k12, 10, .inr (.inl f12))), (h34, zi k34 300 (a26_ 6)), (h36, zi k36 300 (a26_ 7)), (h23, .inr (6, mX6 h24 h25 h26 h27 h28 h29 h30 h31 v23)), (h29, zi k29 400 f29), (h31, zi k31 400 f31), (h28, zi k28 400 f28), (h25, zi k25 833 f25), (h24, zi k24 1250 f24), (h26, zi k26 833 f26), (h27, zi k27 400 f27), (h30, zi k30 400 f30), (h19, zi k19 120 f19), (h20, zi k20 120 f20), (h22, zi k22 120 f22)]) (w1 := [(h1, .inr (9, mX9 h2 h3 (upd (upd v1 2 (u57_ 0)) 3 (u26_ 2))))]) hP hD [3] [0, 1, 2, 4, 5, 6, 7, 8, 9, 10, 11, 12, 13, 14, 15, 16, 17, 18, 19, 20, 21, 22, 23, 24, 25, 26, 27, 28, 29] rfl rfl (by decide) (by decide) hk1 hFc hP1 hD1
        have hP : va_P (dC, dI) vwCl [(h0, .inr (11, mX11 h1 h4 h11 h18 h23 h32 h33 h40 h48 h49 sp0 lw0)), (h18, .inr (0, mX0 h19 h20 h21 h22 v18)), (h4, .inr (10, mX10 h5 h6 h7 h8 h9 h10 (upd v4 7 (u26_ 3)))), (h1, .inr (9, mX9 h2 h3 (upd (upd v1 2 (u57_ 0)) 3 (u26_ 2)))), (h7, zi k7 400 f7), (h6, zi k6 400 (a26_ 5)), (h5, .inl (k5, 400, .inr (.inl (b26_ 0)))), (h33, .inr (2, mX2 h1 h4 h11 h34 h35 h36 h37 h38 h39 (upd (upd v33 9 (u26_ 0)) 10 (u26_ 1)))), (h39, zi k39 400 (a26_ 0)), (h37, zi k37 400 (a26_ 1)), (h35, zi k35 300 (a26_ 2)), (h38, zi k38 400 (a26_ 3)), (h2, zi k2 600 f2), (h3, zi k3 12 (a26_ 4)), (h11, .inr (10, mX10 h12 h13 h14 h15 h16 h17 v11)), (h12, .inl (k12, 10, .inr (.inl f12))), (h34, zi k34 300 (a26_ 6)), (h36, zi k36 300 (a26_ 7)), (h23, .inr (6, mX6 h24 h25 h26 h27 h28 h29 h30 h31 v23)), (h29, zi k29 400 f29), (h31, zi k31 400 f31), (h28, zi k28 400 f28), (h25, zi k25 833 f25), (h24, zi k24 1250 f24), (h26, zi k26 833 f26), (h27, zi k27 400 f27), (h30, zi k30 400 f30), (h19, zi k19 120 f19), (h20, zi k20 120 f20), (h22, zi k22 120 f22)] H1 := hP.sub [0, 1, 2, 29, 3, 4, 5, 6, 7, 8, 9, 10, 11, 12, 13, 14, 15, 16, 17, 18, 19, 20, 21, 22, 23, 24, 25, 26, 27, 28] rfl
        have hD : va_D A [(h0, .inr (11, mX11 h1 h4 h11 h18 h23 h32 h33 h40 h48 h49 sp0 lw0)), (h18, .inr (0, mX0 h19 h20 h21 h22 v18)), (h4, .inr (10, mX10 h5 h6 h7 h8 h9 h10 (upd v4 7 (u26_ 3)))), (h1, .inr (9, mX9 h2 h3 (upd (upd v1 2 (u57_ 0)) 3 (u26_ 2)))), (h7, zi k7 400 f7), (h6, zi k6 400 (a26_ 5)), (h5, .inl (k5, 400, .inr (.inl (b26_ 0)))), (h33, .inr (2, mX2 h1 h4 h11 h34 h35 h36 h37 h38 h39 (upd (upd v33 9 (u26_ 0)) 10 (u26_ 1)))), (h39, zi k39 400 (a26_ 0)), (h37, zi k37 400 (a26_ 1)), (h35, zi k35 300 (a26_ 2)), (h38, zi k38 400 (a26_ 3)), (h2, zi k2 600 f2), (h3, zi k3 12 (a26_ 4)), (h11, .inr (10, mX10 h12 h13 h14 h15 h16 h17 v11)), (h12, .inl (k12, 10, .inr (.inl f12))), (h34, zi k34 300 (a26_ 6)), (h36, zi k36 300 (a26_ 7)), (h23, .inr (6, mX6 h24 h25 h26 h27 h28 h29 h30 h31 v23)), (h29, zi k29 400 f29), (h31, zi k31 400 f31), (h28, zi k28 400 f28), (h25, zi k25 833 f25), (h24, zi k24 1250 f24), (h26, zi k26 833 f26), (h27, zi k27 400 f27), (h30, zi k30 400 f30), (h19, zi k19 120 f19), (h20, zi k20 120 f20), (h22, zi k22 120 f22)] := hD.sub [0, 1, 2, 29, 3, 4, 5, 6, 7, 8, 9, 10, 11, 12, 13, 14, 15, 16, 17, 18, 19, 20, 21, 22, 23, 24, 25, 26, 27, 28] (by decide) rfl
        generalize H1 = H at hP hS ⊢
        clear hz1
        refine lv_iload_n hx hb dX11_enter_60 rfl (lv_at hl 0 rfl) ?_
        refine lv_if_ne (tgt := 75) hx hb dX11_enter_61 (by decide) (fun c_ => ?_) (fun c_ => absurd c_ (by decide))
        refine lv_aload_n hx hb dX11_enter_75 rfl (lv_at hl 3 rfl) ?_
        refine va_get (D := (dC, dI)) (ci := 11) (v := .ref h33) (C := RX11) (T := TX11) (N := 12) hx hb hG zuX11 hown hK hP 0 rfl rfl 6 (by decide) (hG _ zv563) (fun _ h9 => h9) rfl dX11_enter_76 ?_
        refine lv_aload_n hx hb dX11_enter_79 rfl (lv_at hl 3 rfl) ?_
        refine va_get (D := (dC, dI)) (ci := 11) (v := .ref h23) (C := RX11) (T := TX11) (N := 12) hx hb hG zuX11 hown hK hP 0 rfl rfl 4 (by decide) (hG _ zv561) (fun _ h9 => h9) rfl dX11_enter_80 ?_
        refine lv_iload_n hx hb dX11_enter_83 rfl (lv_at hl 2 rfl) ?_
        have hPc := hP.sub (ws' := [(h33, .inr (2, mX2 h1 h4 h11 h34 h35 h36 h37 h38 h39 (upd (upd v33 9 (u26_ 0)) 10 (u26_ 1)))), (h36, zi k36 300 (a26_ 7)), (h39, zi k39 400 (a26_ 0)), (h23, .inr (6, mX6 h24 h25 h26 h27 h28 h29 h30 h31 v23)), (h31, zi k31 400 f31), (h29, zi k29 400 f29), (h28, zi k28 400 f28), (h25, zi k25 833 f25), (h24, zi k24 1250 f24), (h26, zi k26 833 f26), (h27, zi k27 400 f27), (h30, zi k30 400 f30), (h37, zi k37 400 (a26_ 1)), (h34, zi k34 300 (a26_ 6)), (h35, zi k35 300 (a26_ 2)), (h38, zi k38 400 (a26_ 3))]) [7, 17, 8, 18, 20, 19, 21, 22, 23, 24, 25, 26, 9, 16, 10, 11] rfl
        have hDc := hD.sub (ws' := [(h33, .inr (2, mX2 h1 h4 h11 h34 h35 h36 h37 h38 h39 (upd (upd v33 9 (u26_ 0)) 10 (u26_ 1)))), (h36, zi k36 300 (a26_ 7)), (h39, zi k39 400 (a26_ 0)), (h23, .inr (6, mX6 h24 h25 h26 h27 h28 h29 h30 h31 v23)), (h31, zi k31 400 f31), (h29, zi k29 400 f29), (h28, zi k28 400 f28), (h25, zi k25 833 f25), (h24, zi k24 1250 f24), (h26, zi k26 833 f26), (h27, zi k27 400 f27), (h30, zi k30 400 f30), (h37, zi k37 400 (a26_ 1)), (h34, zi k34 300 (a26_ 6)), (h35, zi k35 300 (a26_ 2)), (h38, zi k38 400 (a26_ 3))]) [7, 17, 8, 18, 20, 19, 21, 22, 23, 24, 25, 26, 9, 16, 10, 11] (by decide) rfl
        have hKc := hK.sub (tys' := [(k36, .int), (k39, .int), (k31, .int), (k29, .int), (k28, .int), (k25, .int), (k24, .int), (k26, .int), (k27, .int), (k30, .int), (k37, .int), (k34, .int), (k35, .int), (k38, .int)]) [11, 3, 13, 12, 14, 15, 16, 17, 18, 19, 4, 10, 5, 6] rfl
        have hFc := va_free (wc := [(h33, .inr (2, mX2 h1 h4 h11 h34 h35 h36 h37 h38 h39 (upd (upd v33 9 (u26_ 0)) 10 (u26_ 1)))), (h36, zi k36 300 (a26_ 7)), (h39, zi k39 400 (a26_ 0)), (h23, .inr (6, mX6 h24 h25 h26 h27 h28 h29 h30 h31 v23)), (h31, zi k31 400 f31), (h29, zi k29 400 f29), (h28, zi k28 400 f28), (h25, zi k25 833 f25), (h24, zi k24 1250 f24), (h26, zi k26 833 f26), (h27, zi k27 400 f27), (h30, zi k30 400 f30), (h37, zi k37 400 (a26_ 1)), (h34, zi k34 300 (a26_ 6)), (h35, zi k35 300 (a26_ 2)), (h38, zi k38 400 (a26_ 3))]) hD hS hA [7, 17, 8, 18, 20, 19, 21, 22, 23, 24, 25, 26, 9, 16, 10, 11] rfl
        refine va_callv (va_runV (As := [.ref h23, .int r4_]) (rest := []) ⟨hx, hb, hml, hown, hG⟩ (sX2_write_0 l dC dI adK adV h33 h36 h39 h23 h31 h29 h28 h25 h24 h26 h27 h30 h37 h34 h35 h38 h1 h4 h11 k36 k39 k31 k29 k28 k25 k24 k26 k27 k30 k37 k34 k35 k38 H.size (upd (upd v33 9 (u26_ 0)) 10 (u26_ 1)) (a26_ 7) (a26_ 0) v23 f31 f29 f28 f25 f24 f26 f27 f30 (a26_ 1) (a26_ 6) (a26_ 2) (a26_ 3) r4_ (zR_upd (zR_upd hv33 9 (show (0 : Int) ≤ ((u26_ 0) : Int32).toInt from by omega) (show ((u26_ 0) : Int32).toInt ≤ (300 : Int) from by omega)) 10 (show (0 : Int) ≤ ((u26_ 1) : Int32).toInt from by omega) (show ((u26_ 1) : Int32).toInt ≤ (300 : Int) from by omega)) ha26_7 hv23 hf28 hf25 ha26_1 ha26_2 ha26_3 (show zChn (a26_ 1) (a26_ 2) (a26_ 3) (a26_ 0) (u26_ 0).toInt from by assumption) (show zPhi f25 f28 f29 (v23 9).toInt (v23 8).toInt from by assumption)) (cwV 2 hG (zgV zv826 zv827 zv828 zv135 zv829) rfl rfl rfl (by decide +kernel) ⟨Nat.le_of_ble_eq_true rfl, Nat.le_of_ble_eq_true rfl⟩) ⟨zPc_blind, va_recv hKc hPc (ci := 2) (q0 := 0) rfl rfl, zPc_pre hPc hKc hDc hE hS hFc hZ⟩ rfl rfl hl.1 rfl (lv_room (Nat.le_of_ble_eq_true rfl)) dX11_enter_84 ⟨Nat.le_of_ble_eq_true rfl, Nat.le_of_ble_eq_true rfl⟩) hS (fun q _ h => hFc q h) hFc (fun u84_ t H1 locs ht hvm hw hB hz1 hk1 hS => ?_)
        have hw : (0 ≤ (u84_ 0).toInt ∧ (u84_ 0).toInt ≤ 833) ∧ (0 ≤ (u84_ 1).toInt ∧ (u84_ 1).toInt ≤ 1250) := hw
        obtain ⟨b_, b_⟩ := hw
        obtain ⟨w84_, a84_, b84_, ha84_2, ha84_3, hB84_0, hP1, hK1, hD1⟩ := hB
        have hB84_0 : zPhi (a84_ 3) (a84_ 2) (a84_ 1) (u84_ 1).toInt (u84_ 0).toInt := hB84_0
        rw [ht] at hP1
        obtain ⟨hP, hD⟩ := va_join (wr := [(h0, .inr (11, mX11 h1 h4 h11 h18 h23 h32 h33 h40 h48 h49 sp0 lw0)), (h18, .inr (0, mX0 h19 h20 h21 h22 v18)), (h4, .inr (10, mX10 h5 h6 h7 h8 h9 h10 (upd v4 7 (u26_ 3)))), (h1, .inr (9, mX9 h2 h3 (upd (upd v1 2 (u57_ 0)) 3 (u26_ 2)))), (h7, zi k7 400 f7), (h6, zi k6 400 (a26_ 5)), (h5, .inl (k5, 400, .inr (.inl (b26_ 0)))), (h2, zi k2 600 f2), (h3, zi k3 12 (a26_ 4)), (h11, .inr (10, mX10 h12 h13 h14 h15 h16 h17 v11)), (h12, .inl (k12, 10, .inr (.inl f12))), (h19, zi k19 120 f19), (h20, zi k20 120 f20), (h22, zi k22 120 f22)]) (w1 := [(h33, .inr (2, mX2 h1 h4 h11 h34 h35 h36 h37 h38 h39 (upd (upd v33 9 (u26_ 0)) 10 (u26_ 1)))), (h36, zi k36 300 (a26_ 7)), (h39, zi k39 400 (a26_ 0)), (h23, .inr (6, mX6 h24 h25 h26 h27 h28 h29 h30 h31 (upd (upd (upd (upd v23 8 (u84_ 0)) 9 (u84_ 1)) 10 (u84_ 2)) 11 (u84_ 3)))), (h31, zi k31 400 (a84_ 0)), (h29, zi k29 400 (a84_ 1)), (h28, zi k28 400 (a84_ 2)), (h25, zi k25 833 (a84_ 3)), (h24, zi k24 1250 (a84_ 4)), (h26, zi k26 833 (a84_ 5)), (h27, zi k27 400 (a84_ 6)), (h30, zi k30 400 (a84_ 7)), (h37, zi k37 400 (a26_ 1)), (h34, zi k34 300 (a26_ 6)), (h35, zi k35 300 (a26_ 2)), (h38, zi k38 400 (a26_ 3))]) hP hD [7, 17, 8, 18, 20, 19, 21, 22, 23, 24, 25, 26, 9, 16, 10, 11] [0, 1, 2, 3, 4, 5, 6, 12, 13, 14, 15, 27, 28, 29] rfl rfl (by decide) (by decide) hk1 hFc hP1 hD1
        have hP : va_P (dC, dI) vwCl [(h0, .inr (11, mX11 h1 h4 h11 h18 h23 h32 h33 h40 h48 h49 sp0 lw0)), (h18, .inr (0, mX0 h19 h20 h21 h22 v18)), (h4, .inr (10, mX10 h5 h6 h7 h8 h9 h10 (upd v4 7 (u26_ 3)))), (h1, .inr (9, mX9 h2 h3 (upd (upd v1 2 (u57_ 0)) 3 (u26_ 2)))), (h7, zi k7 400 f7), (h6, zi k6 400 (a26_ 5)), (h5, .inl (k5, 400, .inr (.inl (b26_ 0)))), (h33, .inr (2, mX2 h1 h4 h11 h34 h35 h36 h37 h38 h39 (upd (upd v33 9 (u26_ 0)) 10 (u26_ 1)))), (h39, zi k39 400 (a26_ 0)), (h37, zi k37 400 (a26_ 1)), (h35, zi k35 300 (a26_ 2)), (h38, zi k38 400 (a26_ 3)), (h2, zi k2 600 f2), (h3, zi k3 12 (a26_ 4)), (h11, .inr (10, mX10 h12 h13 h14 h15 h16 h17 v11)), (h12, .inl (k12, 10, .inr (.inl f12))), (h34, zi k34 300 (a26_ 6)), (h36, zi k36 300 (a26_ 7)), (h23, .inr (6, mX6 h24 h25 h26 h27 h28 h29 h30 h31 (upd (upd (upd (upd v23 8 (u84_ 0)) 9 (u84_ 1)) 10 (u84_ 2)) 11 (u84_ 3)))), (h29, zi k29 400 (a84_ 1)), (h31, zi k31 400 (a84_ 0)), (h28, zi k28 400 (a84_ 2)), (h25, zi k25 833 (a84_ 3)), (h24, zi k24 1250 (a84_ 4)), (h26, zi k26 833 (a84_ 5)), (h27, zi k27 400 (a84_ 6)), (h30, zi k30 400 (a84_ 7)), (h19, zi k19 120 f19), (h20, zi k20 120 f20), (h22, zi k22 120 f22)] H1 := hP.sub [0, 1, 2, 3, 4, 5, 6, 14, 16, 26, 28, 29, 7, 8, 9, 10, 27, 15, 17, 19, 18, 20, 21, 22, 23, 24, 25, 11, 12, 13] rfl
        have hD : va_D A [(h0, .inr (11, mX11 h1 h4 h11 h18 h23 h32 h33 h40 h48 h49 sp0 lw0)), (h18, .inr (0, mX0 h19 h20 h21 h22 v18)), (h4, .inr (10, mX10 h5 h6 h7 h8 h9 h10 (upd v4 7 (u26_ 3)))), (h1, .inr (9, mX9 h2 h3 (upd (upd v1 2 (u57_ 0)) 3 (u26_ 2)))), (h7, zi k7 400 f7), (h6, zi k6 400 (a26_ 5)), (h5, .inl (k5, 400, .inr (.inl (b26_ 0)))), (h33, .inr (2, mX2 h1 h4 h11 h34 h35 h36 h37 h38 h39 (upd (upd v33 9 (u26_ 0)) 10 (u26_ 1)))), (h39, zi k39 400 (a26_ 0)), (h37, zi k37 400 (a26_ 1)), (h35, zi k35 300 (a26_ 2)), (h38, zi k38 400 (a26_ 3)), (h2, zi k2 600 f2), (h3, zi k3 12 (a26_ 4)), (h11, .inr (10, mX10 h12 h13 h14 h15 h16 h17 v11)), (h12, .inl (k12, 10, .inr (.inl f12))), (h34, zi k34 300 (a26_ 6)), (h36, zi k36 300 (a26_ 7)), (h23, .inr (6, mX6 h24 h25 h26 h27 h28 h29 h30 h31 (upd (upd (upd (upd v23 8 (u84_ 0)) 9 (u84_ 1)) 10 (u84_ 2)) 11 (u84_ 3)))), (h29, zi k29 400 (a84_ 1)), (h31, zi k31 400 (a84_ 0)), (h28, zi k28 400 (a84_ 2)), (h25, zi k25 833 (a84_ 3)), (h24, zi k24 1250 (a84_ 4)), (h26, zi k26 833 (a84_ 5)), (h27, zi k27 400 (a84_ 6)), (h30, zi k30 400 (a84_ 7)), (h19, zi k19 120 f19), (h20, zi k20 120 f20), (h22, zi k22 120 f22)] := hD.sub [0, 1, 2, 3, 4, 5, 6, 14, 16, 26, 28, 29, 7, 8, 9, 10, 27, 15, 17, 19, 18, 20, 21, 22, 23, 24, 25, 11, 12, 13] (by decide) rfl
        generalize H1 = H at hP hS ⊢
        clear hz1
        refine lv_aload_n hx hb dX11_enter_87 rfl (lv_at hl 3 rfl) ?_
        refine va_get (D := (dC, dI)) (ci := 11) (v := .ref h18) (C := RX11) (T := TX11) (N := 12) hx hb hG zuX11 hown hK hP 0 rfl rfl 3 (by decide) (hG _ zv560) (fun _ h9 => h9) rfl dX11_enter_88 ?_
        refine lv_aload_n hx hb dX11_enter_91 rfl (lv_at hl 3 rfl) ?_
        refine va_get (D := (dC, dI)) (ci := 11) (v := .ref h33) (C := RX11) (T := TX11) (N := 12) hx hb hG zuX11 hown hK hP 0 rfl rfl 6 (by decide) (hG _ zv563) (fun _ h9 => h9) rfl dX11_enter_92 ?_
        have hPc := hP.sub (ws' := [(h33, .inr (2, mX2 h1 h4 h11 h34 h35 h36 h37 h38 h39 (upd (upd v33 9 (u26_ 0)) 10 (u26_ 1))))]) [7] rfl
        have hDc := hD.sub (ws' := [(h33, .inr (2, mX2 h1 h4 h11 h34 h35 h36 h37 h38 h39 (upd (upd v33 9 (u26_ 0)) 10 (u26_ 1))))]) [7] (by decide) rfl
        have hKc := hK.sub (tys' := []) [] rfl
        have hFc := va_free (wc := [(h33, .inr (2, mX2 h1 h4 h11 h34 h35 h36 h37 h38 h39 (upd (upd v33 9 (u26_ 0)) 10 (u26_ 1))))]) hD hS hA [7] rfl
        refine va_calli (va_runV (As := []) (rest := [.ref h18]) ⟨hx, hb, hml, hown, hG⟩ (sX2_kept_0 l dC dI adK adV h33 h1 h4 h11 h34 h35 h36 h37 h38 h39 H.size (upd (upd v33 9 (u26_ 0)) 10 (u26_ 1)) (zR_upd (zR_upd hv33 9 (show (0 : Int) ≤ ((u26_ 0) : Int32).toInt from by omega) (show ((u26_ 0) : Int32).toInt ≤ (300 : Int) from by omega)) 10 (show (0 : Int) ≤ ((u26_ 1) : Int32).toInt from by omega) (show ((u26_ 1) : Int32).toInt ≤ (300 : Int) from by omega))) (cwV 0 hG (zgV zv851 zv852 zv853 zv135 zv854) rfl rfl rfl (by decide +kernel) ⟨Nat.le_of_ble_eq_true rfl, Nat.le_of_ble_eq_true rfl⟩) ⟨zPc_blind, va_recv hKc hPc (ci := 2) (q0 := 0) rfl rfl, zPc_pre hPc hKc hDc hE hS hFc hZ⟩ rfl rfl hl.1 rfl (lv_room (Nat.le_of_ble_eq_true rfl)) dX11_enter_95 ⟨Nat.le_of_ble_eq_true rfl, Nat.le_of_ble_eq_true rfl⟩) hS (fun q _ h => hFc q h) hFc (fun r95_ u95_ t H1 locs ht hvm hw hB hz1 hk1 hS => ?_)
        have hw : (0 ≤ r95_.toInt ∧ r95_.toInt ≤ 300) := hw
        have b_ := hw
        obtain ⟨w95_, a95_, b95_, hP1, hK1, hD1⟩ := hB
        rw [ht] at hP1
        obtain ⟨hP, hD⟩ := va_join (wr := [(h0, .inr (11, mX11 h1 h4 h11 h18 h23 h32 h33 h40 h48 h49 sp0 lw0)), (h18, .inr (0, mX0 h19 h20 h21 h22 v18)), (h4, .inr (10, mX10 h5 h6 h7 h8 h9 h10 (upd v4 7 (u26_ 3)))), (h1, .inr (9, mX9 h2 h3 (upd (upd v1 2 (u57_ 0)) 3 (u26_ 2)))), (h7, zi k7 400 f7), (h6, zi k6 400 (a26_ 5)), (h5, .inl (k5, 400, .inr (.inl (b26_ 0)))), (h39, zi k39 400 (a26_ 0)), (h37, zi k37 400 (a26_ 1)), (h35, zi k35 300 (a26_ 2)), (h38, zi k38 400 (a26_ 3)), (h2, zi k2 600 f2), (h3, zi k3 12 (a26_ 4)), (h11, .inr (10, mX10 h12 h13 h14 h15 h16 h17 v11)), (h12, .inl (k12, 10, .inr (.inl f12))), (h34, zi k34 300 (a26_ 6)), (h36, zi k36 300 (a26_ 7)), (h23, .inr (6, mX6 h24 h25 h26 h27 h28 h29 h30 h31 (upd (upd (upd (upd v23 8 (u84_ 0)) 9 (u84_ 1)) 10 (u84_ 2)) 11 (u84_ 3)))), (h29, zi k29 400 (a84_ 1)), (h31, zi k31 400 (a84_ 0)), (h28, zi k28 400 (a84_ 2)), (h25, zi k25 833 (a84_ 3)), (h24, zi k24 1250 (a84_ 4)), (h26, zi k26 833 (a84_ 5)), (h27, zi k27 400 (a84_ 6)), (h30, zi k30 400 (a84_ 7)), (h19, zi k19 120 f19), (h20, zi k20 120 f20), (h22, zi k22 120 f22)]) (w1 := [(h33, .inr (2, mX2 h1 h4 h11 h34 h35 h36 h37 h38 h39 (upd (upd v33 9 (u26_ 0)) 10 (u26_ 1))))]) hP hD [7] [0, 1, 2, 3, 4, 5, 6, 8, 9, 10, 11, 12, 13, 14, 15, 16, 17, 18, 19, 20, 21, 22, 23, 24, 25, 26, 27, 28, 29] rfl rfl (by decide) (by decide) hk1 hFc hP1 hD1
        have hP : va_P (dC, dI) vwCl [(h0, .inr (11, mX11 h1 h4 h11 h18 h23 h32 h33 h40 h48 h49 sp0 lw0)), (h18, .inr (0, mX0 h19 h20 h21 h22 v18)), (h4, .inr (10, mX10 h5 h6 h7 h8 h9 h10 (upd v4 7 (u26_ 3)))), (h1, .inr (9, mX9 h2 h3 (upd (upd v1 2 (u57_ 0)) 3 (u26_ 2)))), (h7, zi k7 400 f7), (h6, zi k6 400 (a26_ 5)), (h5, .inl (k5, 400, .inr (.inl (b26_ 0)))), (h33, .inr (2, mX2 h1 h4 h11 h34 h35 h36 h37 h38 h39 (upd (upd v33 9 (u26_ 0)) 10 (u26_ 1)))), (h39, zi k39 400 (a26_ 0)), (h37, zi k37 400 (a26_ 1)), (h35, zi k35 300 (a26_ 2)), (h38, zi k38 400 (a26_ 3)), (h2, zi k2 600 f2), (h3, zi k3 12 (a26_ 4)), (h11, .inr (10, mX10 h12 h13 h14 h15 h16 h17 v11)), (h12, .inl (k12, 10, .inr (.inl f12))), (h34, zi k34 300 (a26_ 6)), (h36, zi k36 300 (a26_ 7)), (h23, .inr (6, mX6 h24 h25 h26 h27 h28 h29 h30 h31 (upd (upd (upd (upd v23 8 (u84_ 0)) 9 (u84_ 1)) 10 (u84_ 2)) 11 (u84_ 3)))), (h29, zi k29 400 (a84_ 1)), (h31, zi k31 400 (a84_ 0)), (h28, zi k28 400 (a84_ 2)), (h25, zi k25 833 (a84_ 3)), (h24, zi k24 1250 (a84_ 4)), (h26, zi k26 833 (a84_ 5)), (h27, zi k27 400 (a84_ 6)), (h30, zi k30 400 (a84_ 7)), (h19, zi k19 120 f19), (h20, zi k20 120 f20), (h22, zi k22 120 f22)] H1 := hP.sub [0, 1, 2, 3, 4, 5, 6, 29, 7, 8, 9, 10, 11, 12, 13, 14, 15, 16, 17, 18, 19, 20, 21, 22, 23, 24, 25, 26, 27, 28] rfl
        have hD : va_D A [(h0, .inr (11, mX11 h1 h4 h11 h18 h23 h32 h33 h40 h48 h49 sp0 lw0)), (h18, .inr (0, mX0 h19 h20 h21 h22 v18)), (h4, .inr (10, mX10 h5 h6 h7 h8 h9 h10 (upd v4 7 (u26_ 3)))), (h1, .inr (9, mX9 h2 h3 (upd (upd v1 2 (u57_ 0)) 3 (u26_ 2)))), (h7, zi k7 400 f7), (h6, zi k6 400 (a26_ 5)), (h5, .inl (k5, 400, .inr (.inl (b26_ 0)))), (h33, .inr (2, mX2 h1 h4 h11 h34 h35 h36 h37 h38 h39 (upd (upd v33 9 (u26_ 0)) 10 (u26_ 1)))), (h39, zi k39 400 (a26_ 0)), (h37, zi k37 400 (a26_ 1)), (h35, zi k35 300 (a26_ 2)), (h38, zi k38 400 (a26_ 3)), (h2, zi k2 600 f2), (h3, zi k3 12 (a26_ 4)), (h11, .inr (10, mX10 h12 h13 h14 h15 h16 h17 v11)), (h12, .inl (k12, 10, .inr (.inl f12))), (h34, zi k34 300 (a26_ 6)), (h36, zi k36 300 (a26_ 7)), (h23, .inr (6, mX6 h24 h25 h26 h27 h28 h29 h30 h31 (upd (upd (upd (upd v23 8 (u84_ 0)) 9 (u84_ 1)) 10 (u84_ 2)) 11 (u84_ 3)))), (h29, zi k29 400 (a84_ 1)), (h31, zi k31 400 (a84_ 0)), (h28, zi k28 400 (a84_ 2)), (h25, zi k25 833 (a84_ 3)), (h24, zi k24 1250 (a84_ 4)), (h26, zi k26 833 (a84_ 5)), (h27, zi k27 400 (a84_ 6)), (h30, zi k30 400 (a84_ 7)), (h19, zi k19 120 f19), (h20, zi k20 120 f20), (h22, zi k22 120 f22)] := hD.sub [0, 1, 2, 3, 4, 5, 6, 29, 7, 8, 9, 10, 11, 12, 13, 14, 15, 16, 17, 18, 19, 20, 21, 22, 23, 24, 25, 26, 27, 28] (by decide) rfl
        generalize H1 = H at hP hS ⊢
        clear hz1
        refine lv_aload_n hx hb dX11_enter_98 rfl (lv_at hl 3 rfl) ?_
        refine va_get (D := (dC, dI)) (ci := 11) (v := .ref h33) (C := RX11) (T := TX11) (N := 12) hx hb hG zuX11 hown hK hP 0 rfl rfl 6 (by decide) (hG _ zv563) (fun _ h9 => h9) rfl dX11_enter_99 ?_
        have hPc := hP.sub (ws' := [(h33, .inr (2, mX2 h1 h4 h11 h34 h35 h36 h37 h38 h39 (upd (upd v33 9 (u26_ 0)) 10 (u26_ 1))))]) [7] rfl
        have hDc := hD.sub (ws' := [(h33, .inr (2, mX2 h1 h4 h11 h34 h35 h36 h37 h38 h39 (upd (upd v33 9 (u26_ 0)) 10 (u26_ 1))))]) [7] (by decide) rfl
        have hKc := hK.sub (tys' := []) [] rfl
        have hFc := va_free (wc := [(h33, .inr (2, mX2 h1 h4 h11 h34 h35 h36 h37 h38 h39 (upd (upd v33 9 (u26_ 0)) 10 (u26_ 1))))]) hD hS hA [7] rfl
        refine va_calli (va_runV (As := []) (rest := [.int r95_, .ref h18]) ⟨hx, hb, hml, hown, hG⟩ (sX2_distinct_0 l dC dI adK adV h33 h1 h4 h11 h34 h35 h36 h37 h38 h39 H.size (upd (upd v33 9 (u26_ 0)) 10 (u26_ 1)) (zR_upd (zR_upd hv33 9 (show (0 : Int) ≤ ((u26_ 0) : Int32).toInt from by omega) (show ((u26_ 0) : Int32).toInt ≤ (300 : Int) from by omega)) 10 (show (0 : Int) ≤ ((u26_ 1) : Int32).toInt from by omega) (show ((u26_ 1) : Int32).toInt ≤ (300 : Int) from by omega))) (cwV 0 hG (zgV zv855 zv856 zv857 zv135 zv858) rfl rfl rfl (by decide +kernel) ⟨Nat.le_of_ble_eq_true rfl, Nat.le_of_ble_eq_true rfl⟩) ⟨zPc_blind, va_recv hKc hPc (ci := 2) (q0 := 0) rfl rfl, zPc_pre hPc hKc hDc hE hS hFc hZ⟩ rfl rfl hl.1 rfl (lv_room (Nat.le_of_ble_eq_true rfl)) dX11_enter_102 ⟨Nat.le_of_ble_eq_true rfl, Nat.le_of_ble_eq_true rfl⟩) hS (fun q _ h => hFc q h) hFc (fun r102_ u102_ t H1 locs ht hvm hw hB hz1 hk1 hS => ?_)
        have hw : (0 ≤ r102_.toInt ∧ r102_.toInt ≤ 300) := hw
        have b_ := hw
        obtain ⟨w102_, a102_, b102_, hP1, hK1, hD1⟩ := hB
        rw [ht] at hP1
        obtain ⟨hP, hD⟩ := va_join (wr := [(h0, .inr (11, mX11 h1 h4 h11 h18 h23 h32 h33 h40 h48 h49 sp0 lw0)), (h18, .inr (0, mX0 h19 h20 h21 h22 v18)), (h4, .inr (10, mX10 h5 h6 h7 h8 h9 h10 (upd v4 7 (u26_ 3)))), (h1, .inr (9, mX9 h2 h3 (upd (upd v1 2 (u57_ 0)) 3 (u26_ 2)))), (h7, zi k7 400 f7), (h6, zi k6 400 (a26_ 5)), (h5, .inl (k5, 400, .inr (.inl (b26_ 0)))), (h39, zi k39 400 (a26_ 0)), (h37, zi k37 400 (a26_ 1)), (h35, zi k35 300 (a26_ 2)), (h38, zi k38 400 (a26_ 3)), (h2, zi k2 600 f2), (h3, zi k3 12 (a26_ 4)), (h11, .inr (10, mX10 h12 h13 h14 h15 h16 h17 v11)), (h12, .inl (k12, 10, .inr (.inl f12))), (h34, zi k34 300 (a26_ 6)), (h36, zi k36 300 (a26_ 7)), (h23, .inr (6, mX6 h24 h25 h26 h27 h28 h29 h30 h31 (upd (upd (upd (upd v23 8 (u84_ 0)) 9 (u84_ 1)) 10 (u84_ 2)) 11 (u84_ 3)))), (h29, zi k29 400 (a84_ 1)), (h31, zi k31 400 (a84_ 0)), (h28, zi k28 400 (a84_ 2)), (h25, zi k25 833 (a84_ 3)), (h24, zi k24 1250 (a84_ 4)), (h26, zi k26 833 (a84_ 5)), (h27, zi k27 400 (a84_ 6)), (h30, zi k30 400 (a84_ 7)), (h19, zi k19 120 f19), (h20, zi k20 120 f20), (h22, zi k22 120 f22)]) (w1 := [(h33, .inr (2, mX2 h1 h4 h11 h34 h35 h36 h37 h38 h39 (upd (upd v33 9 (u26_ 0)) 10 (u26_ 1))))]) hP hD [7] [0, 1, 2, 3, 4, 5, 6, 8, 9, 10, 11, 12, 13, 14, 15, 16, 17, 18, 19, 20, 21, 22, 23, 24, 25, 26, 27, 28, 29] rfl rfl (by decide) (by decide) hk1 hFc hP1 hD1
        have hP : va_P (dC, dI) vwCl [(h0, .inr (11, mX11 h1 h4 h11 h18 h23 h32 h33 h40 h48 h49 sp0 lw0)), (h18, .inr (0, mX0 h19 h20 h21 h22 v18)), (h4, .inr (10, mX10 h5 h6 h7 h8 h9 h10 (upd v4 7 (u26_ 3)))), (h1, .inr (9, mX9 h2 h3 (upd (upd v1 2 (u57_ 0)) 3 (u26_ 2)))), (h7, zi k7 400 f7), (h6, zi k6 400 (a26_ 5)), (h5, .inl (k5, 400, .inr (.inl (b26_ 0)))), (h33, .inr (2, mX2 h1 h4 h11 h34 h35 h36 h37 h38 h39 (upd (upd v33 9 (u26_ 0)) 10 (u26_ 1)))), (h39, zi k39 400 (a26_ 0)), (h37, zi k37 400 (a26_ 1)), (h35, zi k35 300 (a26_ 2)), (h38, zi k38 400 (a26_ 3)), (h2, zi k2 600 f2), (h3, zi k3 12 (a26_ 4)), (h11, .inr (10, mX10 h12 h13 h14 h15 h16 h17 v11)), (h12, .inl (k12, 10, .inr (.inl f12))), (h34, zi k34 300 (a26_ 6)), (h36, zi k36 300 (a26_ 7)), (h23, .inr (6, mX6 h24 h25 h26 h27 h28 h29 h30 h31 (upd (upd (upd (upd v23 8 (u84_ 0)) 9 (u84_ 1)) 10 (u84_ 2)) 11 (u84_ 3)))), (h29, zi k29 400 (a84_ 1)), (h31, zi k31 400 (a84_ 0)), (h28, zi k28 400 (a84_ 2)), (h25, zi k25 833 (a84_ 3)), (h24, zi k24 1250 (a84_ 4)), (h26, zi k26 833 (a84_ 5)), (h27, zi k27 400 (a84_ 6)), (h30, zi k30 400 (a84_ 7)), (h19, zi k19 120 f19), (h20, zi k20 120 f20), (h22, zi k22 120 f22)] H1 := hP.sub [0, 1, 2, 3, 4, 5, 6, 29, 7, 8, 9, 10, 11, 12, 13, 14, 15, 16, 17, 18, 19, 20, 21, 22, 23, 24, 25, 26, 27, 28] rfl
        have hD : va_D A [(h0, .inr (11, mX11 h1 h4 h11 h18 h23 h32 h33 h40 h48 h49 sp0 lw0)), (h18, .inr (0, mX0 h19 h20 h21 h22 v18)), (h4, .inr (10, mX10 h5 h6 h7 h8 h9 h10 (upd v4 7 (u26_ 3)))), (h1, .inr (9, mX9 h2 h3 (upd (upd v1 2 (u57_ 0)) 3 (u26_ 2)))), (h7, zi k7 400 f7), (h6, zi k6 400 (a26_ 5)), (h5, .inl (k5, 400, .inr (.inl (b26_ 0)))), (h33, .inr (2, mX2 h1 h4 h11 h34 h35 h36 h37 h38 h39 (upd (upd v33 9 (u26_ 0)) 10 (u26_ 1)))), (h39, zi k39 400 (a26_ 0)), (h37, zi k37 400 (a26_ 1)), (h35, zi k35 300 (a26_ 2)), (h38, zi k38 400 (a26_ 3)), (h2, zi k2 600 f2), (h3, zi k3 12 (a26_ 4)), (h11, .inr (10, mX10 h12 h13 h14 h15 h16 h17 v11)), (h12, .inl (k12, 10, .inr (.inl f12))), (h34, zi k34 300 (a26_ 6)), (h36, zi k36 300 (a26_ 7)), (h23, .inr (6, mX6 h24 h25 h26 h27 h28 h29 h30 h31 (upd (upd (upd (upd v23 8 (u84_ 0)) 9 (u84_ 1)) 10 (u84_ 2)) 11 (u84_ 3)))), (h29, zi k29 400 (a84_ 1)), (h31, zi k31 400 (a84_ 0)), (h28, zi k28 400 (a84_ 2)), (h25, zi k25 833 (a84_ 3)), (h24, zi k24 1250 (a84_ 4)), (h26, zi k26 833 (a84_ 5)), (h27, zi k27 400 (a84_ 6)), (h30, zi k30 400 (a84_ 7)), (h19, zi k19 120 f19), (h20, zi k20 120 f20), (h22, zi k22 120 f22)] := hD.sub [0, 1, 2, 3, 4, 5, 6, 29, 7, 8, 9, 10, 11, 12, 13, 14, 15, 16, 17, 18, 19, 20, 21, 22, 23, 24, 25, 26, 27, 28] (by decide) rfl
        generalize H1 = H at hP hS ⊢
        clear hz1
        have hPc := hP.sub (ws' := [(h18, .inr (0, mX0 h19 h20 h21 h22 v18)), (h19, zi k19 120 f19), (h20, zi k20 120 f20), (h22, zi k22 120 f22)]) [1, 27, 28, 29] rfl
        have hDc := hD.sub (ws' := [(h18, .inr (0, mX0 h19 h20 h21 h22 v18)), (h19, zi k19 120 f19), (h20, zi k20 120 f20), (h22, zi k22 120 f22)]) [1, 27, 28, 29] (by decide) rfl
        have hKc := hK.sub (tys' := [(k19, .boolean), (k20, .int), (k22, .int)]) [20, 21, 22] rfl
        have hFc := va_free (wc := [(h18, .inr (0, mX0 h19 h20 h21 h22 v18)), (h19, zi k19 120 f19), (h20, zi k20 120 f20), (h22, zi k22 120 f22)]) hD hS hA [1, 27, 28, 29] rfl
        refine va_callv (va_runV (As := [.int r95_, .int r102_]) (rest := []) ⟨hx, hb, hml, hown, hG⟩ (sX0_add_0 l dC dI adK adV h18 h19 h20 h22 h21 k19 k20 k22 H.size v18 f19 f20 f22 r95_ r102_ hv18 hf20 ⟨show (0 : Int) ≤ (r95_ : Int32).toInt from by omega, show (r95_ : Int32).toInt ≤ (300 : Int) from by omega⟩) (cwV 2 hG (zgV zv859 zv860 zv861 zv132 zv862) rfl rfl rfl (by decide +kernel) ⟨Nat.le_of_ble_eq_true rfl, Nat.le_of_ble_eq_true rfl⟩) ⟨zPc_blind, va_recv hKc hPc (ci := 0) (q0 := 0) rfl rfl, zPc_pre hPc hKc hDc hE hS hFc hZ⟩ rfl rfl hl.1 rfl (lv_room (Nat.le_of_ble_eq_true rfl)) dX11_enter_105 ⟨Nat.le_of_ble_eq_true rfl, Nat.le_of_ble_eq_true rfl⟩) hS (fun q _ h => hFc q h) hFc (fun u105_ t H1 locs ht hvm hw hB hz1 hk1 hS => ?_)
        have hw : (1 ≤ (u105_ 0).toInt ∧ (u105_ 0).toInt ≤ 120) := hw
        have b_ := hw
        obtain ⟨w105_, a105_, b105_, ha105_1, hP1, hK1, hD1⟩ := hB
        rw [ht] at hP1
        obtain ⟨hP, hD⟩ := va_join (wr := [(h0, .inr (11, mX11 h1 h4 h11 h18 h23 h32 h33 h40 h48 h49 sp0 lw0)), (h4, .inr (10, mX10 h5 h6 h7 h8 h9 h10 (upd v4 7 (u26_ 3)))), (h1, .inr (9, mX9 h2 h3 (upd (upd v1 2 (u57_ 0)) 3 (u26_ 2)))), (h7, zi k7 400 f7), (h6, zi k6 400 (a26_ 5)), (h5, .inl (k5, 400, .inr (.inl (b26_ 0)))), (h33, .inr (2, mX2 h1 h4 h11 h34 h35 h36 h37 h38 h39 (upd (upd v33 9 (u26_ 0)) 10 (u26_ 1)))), (h39, zi k39 400 (a26_ 0)), (h37, zi k37 400 (a26_ 1)), (h35, zi k35 300 (a26_ 2)), (h38, zi k38 400 (a26_ 3)), (h2, zi k2 600 f2), (h3, zi k3 12 (a26_ 4)), (h11, .inr (10, mX10 h12 h13 h14 h15 h16 h17 v11)), (h12, .inl (k12, 10, .inr (.inl f12))), (h34, zi k34 300 (a26_ 6)), (h36, zi k36 300 (a26_ 7)), (h23, .inr (6, mX6 h24 h25 h26 h27 h28 h29 h30 h31 (upd (upd (upd (upd v23 8 (u84_ 0)) 9 (u84_ 1)) 10 (u84_ 2)) 11 (u84_ 3)))), (h29, zi k29 400 (a84_ 1)), (h31, zi k31 400 (a84_ 0)), (h28, zi k28 400 (a84_ 2)), (h25, zi k25 833 (a84_ 3)), (h24, zi k24 1250 (a84_ 4)), (h26, zi k26 833 (a84_ 5)), (h27, zi k27 400 (a84_ 6)), (h30, zi k30 400 (a84_ 7))]) (w1 := [(h18, .inr (0, mX0 h19 h20 h21 h22 (upd (upd v18 4 (u105_ 0)) 5 (u105_ 1)))), (h19, zi k19 120 (a105_ 0)), (h20, zi k20 120 (a105_ 1)), (h22, zi k22 120 (a105_ 2))]) hP hD [1, 27, 28, 29] [0, 2, 3, 4, 5, 6, 7, 8, 9, 10, 11, 12, 13, 14, 15, 16, 17, 18, 19, 20, 21, 22, 23, 24, 25, 26] rfl rfl (by decide) (by decide) hk1 hFc hP1 hD1
        have hP : va_P (dC, dI) vwCl [(h0, .inr (11, mX11 h1 h4 h11 h18 h23 h32 h33 h40 h48 h49 sp0 lw0)), (h18, .inr (0, mX0 h19 h20 h21 h22 (upd (upd v18 4 (u105_ 0)) 5 (u105_ 1)))), (h4, .inr (10, mX10 h5 h6 h7 h8 h9 h10 (upd v4 7 (u26_ 3)))), (h1, .inr (9, mX9 h2 h3 (upd (upd v1 2 (u57_ 0)) 3 (u26_ 2)))), (h7, zi k7 400 f7), (h6, zi k6 400 (a26_ 5)), (h5, .inl (k5, 400, .inr (.inl (b26_ 0)))), (h33, .inr (2, mX2 h1 h4 h11 h34 h35 h36 h37 h38 h39 (upd (upd v33 9 (u26_ 0)) 10 (u26_ 1)))), (h39, zi k39 400 (a26_ 0)), (h37, zi k37 400 (a26_ 1)), (h35, zi k35 300 (a26_ 2)), (h38, zi k38 400 (a26_ 3)), (h2, zi k2 600 f2), (h3, zi k3 12 (a26_ 4)), (h11, .inr (10, mX10 h12 h13 h14 h15 h16 h17 v11)), (h12, .inl (k12, 10, .inr (.inl f12))), (h34, zi k34 300 (a26_ 6)), (h36, zi k36 300 (a26_ 7)), (h23, .inr (6, mX6 h24 h25 h26 h27 h28 h29 h30 h31 (upd (upd (upd (upd v23 8 (u84_ 0)) 9 (u84_ 1)) 10 (u84_ 2)) 11 (u84_ 3)))), (h29, zi k29 400 (a84_ 1)), (h31, zi k31 400 (a84_ 0)), (h28, zi k28 400 (a84_ 2)), (h25, zi k25 833 (a84_ 3)), (h24, zi k24 1250 (a84_ 4)), (h26, zi k26 833 (a84_ 5)), (h27, zi k27 400 (a84_ 6)), (h30, zi k30 400 (a84_ 7)), (h19, zi k19 120 (a105_ 0)), (h20, zi k20 120 (a105_ 1)), (h22, zi k22 120 (a105_ 2))] H1 := hP.sub [0, 26, 1, 2, 3, 4, 5, 6, 7, 8, 9, 10, 11, 12, 13, 14, 15, 16, 17, 18, 19, 20, 21, 22, 23, 24, 25, 27, 28, 29] rfl
        have hD : va_D A [(h0, .inr (11, mX11 h1 h4 h11 h18 h23 h32 h33 h40 h48 h49 sp0 lw0)), (h18, .inr (0, mX0 h19 h20 h21 h22 (upd (upd v18 4 (u105_ 0)) 5 (u105_ 1)))), (h4, .inr (10, mX10 h5 h6 h7 h8 h9 h10 (upd v4 7 (u26_ 3)))), (h1, .inr (9, mX9 h2 h3 (upd (upd v1 2 (u57_ 0)) 3 (u26_ 2)))), (h7, zi k7 400 f7), (h6, zi k6 400 (a26_ 5)), (h5, .inl (k5, 400, .inr (.inl (b26_ 0)))), (h33, .inr (2, mX2 h1 h4 h11 h34 h35 h36 h37 h38 h39 (upd (upd v33 9 (u26_ 0)) 10 (u26_ 1)))), (h39, zi k39 400 (a26_ 0)), (h37, zi k37 400 (a26_ 1)), (h35, zi k35 300 (a26_ 2)), (h38, zi k38 400 (a26_ 3)), (h2, zi k2 600 f2), (h3, zi k3 12 (a26_ 4)), (h11, .inr (10, mX10 h12 h13 h14 h15 h16 h17 v11)), (h12, .inl (k12, 10, .inr (.inl f12))), (h34, zi k34 300 (a26_ 6)), (h36, zi k36 300 (a26_ 7)), (h23, .inr (6, mX6 h24 h25 h26 h27 h28 h29 h30 h31 (upd (upd (upd (upd v23 8 (u84_ 0)) 9 (u84_ 1)) 10 (u84_ 2)) 11 (u84_ 3)))), (h29, zi k29 400 (a84_ 1)), (h31, zi k31 400 (a84_ 0)), (h28, zi k28 400 (a84_ 2)), (h25, zi k25 833 (a84_ 3)), (h24, zi k24 1250 (a84_ 4)), (h26, zi k26 833 (a84_ 5)), (h27, zi k27 400 (a84_ 6)), (h30, zi k30 400 (a84_ 7)), (h19, zi k19 120 (a105_ 0)), (h20, zi k20 120 (a105_ 1)), (h22, zi k22 120 (a105_ 2))] := hD.sub [0, 26, 1, 2, 3, 4, 5, 6, 7, 8, 9, 10, 11, 12, 13, 14, 15, 16, 17, 18, 19, 20, 21, 22, 23, 24, 25, 27, 28, 29] (by decide) rfl
        generalize H1 = H at hP hS ⊢
        clear hz1
        refine lv_iload_n hx hb dX11_enter_108 rfl (lv_at hl 2 rfl) ?_
        refine W.widen (k := 0) (n := 0) (by decide) (by decide) ?_
        have b_ : -2147483648 ≤ (u105_ 1).toInt ∧ (u105_ 1).toInt ≤ 2147483647 := ⟨zlo _, zhi _⟩
        have b_ : -2147483648 ≤ (u84_ 2).toInt ∧ (u84_ 2).toInt ≤ 2147483647 := ⟨zlo _, zhi _⟩
        have b_ : -2147483648 ≤ (u84_ 3).toInt ∧ (u84_ 3).toInt ≤ 2147483647 := ⟨zlo _, zhi _⟩
        have hpost : ((-2) ≤ r4_.toInt ∧ r4_.toInt ≤ 119) ∧ (0 ≤ (u105_ 0).toInt ∧ (u105_ 0).toInt ≤ 120) ∧ (0 ≤ (u26_ 3).toInt ∧ (u26_ 3).toInt ≤ 400) ∧ (0 ≤ (u57_ 0).toInt ∧ (u57_ 0).toInt ≤ 0) ∧ (0 ≤ (u26_ 2).toInt ∧ (u26_ 2).toInt ≤ 12) ∧ (0 ≤ (u26_ 0).toInt ∧ (u26_ 0).toInt ≤ 300) ∧ (0 ≤ (u26_ 1).toInt ∧ (u26_ 1).toInt ≤ 300) ∧ (0 ≤ (u84_ 0).toInt ∧ (u84_ 0).toInt ≤ 833) ∧ (0 ≤ (u84_ 1).toInt ∧ (u84_ 1).toInt ≤ 1250) := ⟨⟨by omega, by omega⟩, ⟨by omega, by omega⟩, ⟨by omega, by omega⟩, ⟨by omega, by omega⟩, ⟨by omega, by omega⟩, ⟨by omega, by omega⟩, ⟨by omega, by omega⟩, ⟨by omega, by omega⟩, ⟨by omega, by omega⟩⟩
        have hP9 : va_P (dC, dI) vwCl [(h0, .inr (11, mX11 h1 h4 h11 h18 h23 h32 h33 h40 h48 h49 sp0 lw0)), (h18, .inr (0, mX0 h19 h20 h21 h22 (upd (upd v18 4 (u105_ 0)) 5 (u105_ 1)))), (h4, .inr (10, mX10 h5 h6 h7 h8 h9 h10 (upd v4 7 (u26_ 3)))), (h1, .inr (9, mX9 h2 h3 (upd (upd v1 2 (u57_ 0)) 3 (u26_ 2)))), (h7, zi k7 400 f7), (h6, zi k6 400 (a26_ 5)), (h5, .inl (k5, 400, .inr (.inl (b26_ 0)))), (h33, .inr (2, mX2 h1 h4 h11 h34 h35 h36 h37 h38 h39 (upd (upd v33 9 (u26_ 0)) 10 (u26_ 1)))), (h39, zi k39 400 (a26_ 0)), (h37, zi k37 400 (a26_ 1)), (h35, zi k35 300 (a26_ 2)), (h38, zi k38 400 (a26_ 3)), (h2, zi k2 600 f2), (h3, zi k3 12 (a26_ 4)), (h11, .inr (10, mX10 h12 h13 h14 h15 h16 h17 v11)), (h12, .inl (k12, 10, .inr (.inl f12))), (h34, zi k34 300 (a26_ 6)), (h36, zi k36 300 (a26_ 7)), (h23, .inr (6, mX6 h24 h25 h26 h27 h28 h29 h30 h31 (upd (upd (upd (upd v23 8 (u84_ 0)) 9 (u84_ 1)) 10 (u84_ 2)) 11 (u84_ 3)))), (h29, zi k29 400 (a84_ 1)), (h31, zi k31 400 (a84_ 0)), (h28, zi k28 400 (a84_ 2)), (h25, zi k25 833 (a84_ 3)), (h24, zi k24 1250 (a84_ 4)), (h26, zi k26 833 (a84_ 5)), (h27, zi k27 400 (a84_ 6)), (h30, zi k30 400 (a84_ 7)), (h19, zi k19 120 (a105_ 0)), (h20, zi k20 120 (a105_ 1)), (h22, zi k22 120 (a105_ 2))] H := hP
        have hD9 : va_D A [(h0, .inr (11, mX11 h1 h4 h11 h18 h23 h32 h33 h40 h48 h49 sp0 lw0)), (h18, .inr (0, mX0 h19 h20 h21 h22 (upd (upd v18 4 (u105_ 0)) 5 (u105_ 1)))), (h4, .inr (10, mX10 h5 h6 h7 h8 h9 h10 (upd v4 7 (u26_ 3)))), (h1, .inr (9, mX9 h2 h3 (upd (upd v1 2 (u57_ 0)) 3 (u26_ 2)))), (h7, zi k7 400 f7), (h6, zi k6 400 (a26_ 5)), (h5, .inl (k5, 400, .inr (.inl (b26_ 0)))), (h33, .inr (2, mX2 h1 h4 h11 h34 h35 h36 h37 h38 h39 (upd (upd v33 9 (u26_ 0)) 10 (u26_ 1)))), (h39, zi k39 400 (a26_ 0)), (h37, zi k37 400 (a26_ 1)), (h35, zi k35 300 (a26_ 2)), (h38, zi k38 400 (a26_ 3)), (h2, zi k2 600 f2), (h3, zi k3 12 (a26_ 4)), (h11, .inr (10, mX10 h12 h13 h14 h15 h16 h17 v11)), (h12, .inl (k12, 10, .inr (.inl f12))), (h34, zi k34 300 (a26_ 6)), (h36, zi k36 300 (a26_ 7)), (h23, .inr (6, mX6 h24 h25 h26 h27 h28 h29 h30 h31 (upd (upd (upd (upd v23 8 (u84_ 0)) 9 (u84_ 1)) 10 (u84_ 2)) 11 (u84_ 3)))), (h29, zi k29 400 (a84_ 1)), (h31, zi k31 400 (a84_ 0)), (h28, zi k28 400 (a84_ 2)), (h25, zi k25 833 (a84_ 3)), (h24, zi k24 1250 (a84_ 4)), (h26, zi k26 833 (a84_ 5)), (h27, zi k27 400 (a84_ 6)), (h30, zi k30 400 (a84_ 7)), (h19, zi k19 120 (a105_ 0)), (h20, zi k20 120 (a105_ 1)), (h22, zi k22 120 (a105_ 2))] := hD
        have hB0 : zPhi (a84_ 3) (a84_ 2) (a84_ 1) (u84_ 1).toInt (u84_ 0).toInt := by assumption
        exact W.iret (v := r4_) hx hb hr (fun t ht hW => ⟨⟨r4_, (fun i => ([(u105_ 0), (u105_ 1), (u26_ 3), (u57_ 0), (u26_ 2), (u26_ 0), (u26_ 1), (u84_ 0), (u84_ 1), (u84_ 2), (u84_ 3)] : List (Int32)).getD i 0), rfl, hpost, (fun _ => 0), (fun i => ([f7, (a26_ 5), (a26_ 0), (a26_ 1), (a26_ 2), (a26_ 3), (a26_ 4), (a26_ 6), (a26_ 7), (a84_ 1), (a84_ 0), (a84_ 2), (a84_ 3), (a84_ 4), (a84_ 5), (a84_ 6), (a84_ 7), (a105_ 0), (a105_ 1), (a105_ 2)] : List (Nat → Int32)).getD i (fun _ => 0)), (fun i => ([(b26_ 0)] : List (Nat → Int64)).getD i (fun _ => 0)), hf7, ha26_5, ha26_1, ha26_2, ha26_3, ha26_7, ha84_2, ha84_3, ha105_1, hB0, by rw [ht]; exact hP9, va_K.moved hW.alike hK, hD9⟩, hS.F ht⟩) hS.2.2 dX11_enter_109
