set_option maxHeartbeats 8000000 in
set_option maxRecDepth 100000 in
theorem sJ1_charAt_3b067_11 (l : Launch) (dC : Nat → ClassId) (dI : Nat → Nat → Nat) (adK adV : Nat → Nat) (sz : Nat) (x1 : Int32) (hx1 : 0 ≤ x1.toInt ∧ x1.toInt ≤ 4) : Met l yJ1_charAt_3b067 (zw yJ1_charAt_3b067 cJ1_charAt_3b067 2 (some .char)) { frames := 2, cells := 0, slots := 0, locals := 43 } (zPc dC dI adK adV [.ref (adV 11), .int x1] sz [] []) (va_Qi (fun (r : Int32) (u : Nat → Int32) => (0 ≤ r.toInt ∧ r.toInt ≤ 255)) (fun (u : Nat → Int32) (t : State) => ∃ (ww : Nat → Int64) (aa : Nat → Nat → Int32) (bb : Nat → Nat → Int64), va_P (dC, dI) vwCl [] t.heap ∧ va_K (dC, dI) vwCl [] t ∧ va_D (va_A [] sz) []) (va_A [] sz)) 0 0 (va_A [] sz) := by
  refine Met.ofW (cc := cJ1_charAt_3b067) (maxL := 2) (ret := (some .char)) (by decide) rfl ?_
  intro p e s m args below meth c s₁ B hml hv
  obtain ⟨rfl, hsz, hP, hK, hD0, hE, hZ⟩ := hv
  have hx := B.exec
  have hb := B.bytes
  have hr := B.returns
  have hG : ∀ w ∈ zG, w.before _ s = true := fun w h => atoms_spec (ws := (zw yJ1_charAt_3b067 cJ1_charAt_3b067 2 (some .char))) B.pre w (List.mem_cons_of_mem _ h)
  have hown : s.vm.findClass RJ1 = some m.cls := findClass_of_methodNamed B.named
  have hlocks := B.notSynchronized

  subst hsz
  have hD := hD0.self (sz := s.heap.size)
  generalize hAe : va_A [] s.heap.size = A at hD hZ ⊢
  have hA : ∀ q : Nat, s.heap.size ≤ q → A q := fun q h => by rw [← hAe]; exact Or.inr h
  have hS : va_S A s.heap s.heap [] := va_S.rf
  have hl := lv_entry ([.ref (adV 11), .int x1]) (n := 2) (Nat.le_of_ble_eq_true rfl)
  rw [lg_entry_eq]
  generalize (lg_sl ([.ref (adV 11), .int x1]) ++ List.replicate (2 - (lg_sl ([.ref (adV 11), .int x1])).length) Slot.unset).toArray = ls at hl ⊢
  have hl : lv_has ls 2 [(0, .ref (adV 11)), (1, .int x1)] := hl
  have b_ := zk_5
  refine lv_iload_n hx hb dJ1_charAt_3b067_0 rfl (lv_at hl 1 rfl) ?_
  refine lv_aload_n hx hb dJ1_charAt_3b067_1 rfl (lv_at hl 0 rfl) ?_
  refine va_tlen (v := 5) hx hb (hZ.2.2.2.1.1 11 (by decide)).2.2.2 hS (by decide) dJ1_charAt_3b067_2 ?_
  have hPc := hP.sub (ws' := []) [] rfl
  have hDc := hD.sub (ws' := []) [] (by decide) rfl
  have hKc := hK.sub (tys' := []) [] rfl
  have hFc := va_free (wc := []) hD hS hA [] rfl
  refine va_callv (va_runS (As := [.int x1, .int 5]) (rest := []) ⟨hx, hb, hml, hown, hG⟩ (sJ0_checkIndex_df160_0 l dC dI adK adV s.heap.size x1 5 (show (0 : Int) ≤ (x1 : Int32).toInt ∧ (x1 : Int32).toInt ≤ (4 : Int) from (by first | with_reducible assumption | exact ⟨by omega, by omega⟩)) ⟨show (1 : Int) ≤ (5 : Int32).toInt from by decide, show (5 : Int32).toInt ≤ (5 : Int) from by decide⟩ (show x1.toInt < (5 : Int32).toInt from by omega)) (va_cwS 2 hG (zgS zv698 zv699 zv146 zv700) rfl rfl rfl (by decide +kernel) ⟨Nat.le_of_ble_eq_true rfl, Nat.le_of_ble_eq_true rfl⟩) ⟨zPc_blind, zPc_pre hPc hKc hDc hE hS hFc hZ⟩ rfl rfl hl.1 rfl (lv_room (Nat.le_of_ble_eq_true rfl)) dJ1_charAt_3b067_3 ⟨Nat.le_of_ble_eq_true rfl, Nat.le_of_ble_eq_true rfl⟩) hS (fun q _ h => hFc q h) hFc (fun u3_ t H1 locs ht hvm hw hB hz1 hk1 hS => ?_)
  obtain ⟨w3_, a3_, b3_, hP1, hK1, hD1⟩ := hB
  rw [ht] at hP1
  obtain ⟨hP, hD⟩ := va_join (wr := []) (w1 := []) hP hD [] [] rfl rfl (by decide) (by decide) hk1 hFc hP1 hD1
  have hP : va_P (dC, dI) vwCl [] H1 := hP.sub [] rfl
  have hD : va_D A [] := hD.sub [] (by decide) rfl
  generalize H1 = H at hP hS ⊢
  clear hz1
  refine lv_aload_n hx hb dJ1_charAt_3b067_6 rfl (lv_at hl 0 rfl) ?_
  refine lv_iload_n hx hb dJ1_charAt_3b067_7 rfl (lv_at hl 1 rfl) ?_
  refine va_tb (N := 5) hx hb (hZ.2.2.2.1.1 11 (by decide)).2.2.2 hS (zin_lit (n := 5) ⟨by omega, by omega⟩) rfl dJ1_charAt_3b067_8 ?_
  refine lv_topi (fun z8 e_z8 => ?_)
  refine lv_sipush (v := 255) hx hb dJ1_charAt_3b067_9 (by decide) ?_
  have b_ : -2147483648 ≤ z8.toInt ∧ z8.toInt ≤ 2147483647 := ⟨zlo _, zhi _⟩
  refine lv_iand hx hb dJ1_charAt_3b067_12 ?_
  refine lv_topi (fun z12 e_z12 => ?_)
  have b_ := zand (x := z8) zk_255 e_z12 (by decide)
  refine lv_i2c hx hb dJ1_charAt_3b067_13 rfl ?_
  refine lv_topi (fun z13 e_z13 => ?_)
  have b_ := zi2c rfl e_z13 (by omega) (by omega)
  refine W.widen (k := 0) (n := 0) (by decide) (by decide) ?_
  have hpost : (0 ≤ z13.toInt ∧ z13.toInt ≤ 255) := (by first | with_reducible assumption | exact ⟨by omega, by omega⟩)
  have hP9 : va_P (dC, dI) vwCl [] H := hP
  have hD9 : va_D A [] := hD
  exact W.zret (v := z13) hx hb hr (zn_char ⟨by omega, by omega⟩) (fun t ht hW => ⟨⟨z13, (fun _ => 0), rfl, hpost, (fun _ => 0), (fun _ => (fun _ => 0)), (fun _ => (fun _ => 0)), by rw [ht]; exact hP9, va_K.moved hW.alike hK, hD9⟩, hS.F ht⟩) hS.2.2 dJ1_charAt_3b067_14
set_option maxHeartbeats 8000000 in
set_option maxRecDepth 100000 in
theorem sJ0_charAt_5068e_11 (l : Launch) (dC : Nat → ClassId) (dI : Nat → Nat → Nat) (adK adV : Nat → Nat) (sz : Nat) (x1 : Int32) (hx1 : 0 ≤ x1.toInt ∧ x1.toInt ≤ 4) : Met l yJ0_charAt_5068e (zw yJ0_charAt_5068e cJ0_charAt_5068e 2 (some .char)) { frames := 3, cells := 0, slots := 0, locals := 64 } (zPc dC dI adK adV [.ref (adK 11), .int x1] sz [] []) (va_Qi (fun (r : Int32) (u : Nat → Int32) => (0 ≤ r.toInt ∧ r.toInt ≤ 255)) (fun (u : Nat → Int32) (t : State) => ∃ (ww : Nat → Int64) (aa : Nat → Nat → Int32) (bb : Nat → Nat → Int64), va_P (dC, dI) vwCl [] t.heap ∧ va_K (dC, dI) vwCl [] t ∧ va_D (va_A [] sz) []) (va_A [] sz)) 0 0 (va_A [] sz) := by
  refine Met.ofW (cc := cJ0_charAt_5068e) (maxL := 2) (ret := (some .char)) (by decide) rfl ?_
  intro p e s m args below meth c s₁ B hml hv
  obtain ⟨rfl, hsz, hP, hK, hD0, hE, hZ⟩ := hv
  have hx := B.exec
  have hb := B.bytes
  have hr := B.returns
  have hG : ∀ w ∈ zG, w.before _ s = true := fun w h => atoms_spec (ws := (zw yJ0_charAt_5068e cJ0_charAt_5068e 2 (some .char))) B.pre w (List.mem_cons_of_mem _ h)
  have hown : s.vm.findClass RJ0 = some m.cls := findClass_of_methodNamed B.named
  have hlocks := B.notSynchronized

  subst hsz
  have hD := hD0.self (sz := s.heap.size)
  generalize hAe : va_A [] s.heap.size = A at hD hZ ⊢
  have hA : ∀ q : Nat, s.heap.size ≤ q → A q := fun q h => by rw [← hAe]; exact Or.inr h
  have hS : va_S A s.heap s.heap [] := va_S.rf
  have hl := lv_entry ([.ref (adK 11), .int x1]) (n := 2) (Nat.le_of_ble_eq_true rfl)
  rw [lg_entry_eq]
  generalize (lg_sl ([.ref (adK 11), .int x1]) ++ List.replicate (2 - (lg_sl ([.ref (adK 11), .int x1])).length) Slot.unset).toArray = ls at hl ⊢
  have hl : lv_has ls 2 [(0, .ref (adK 11)), (1, .int x1)] := hl
  refine lv_aload_n hx hb dJ0_charAt_5068e_0 rfl (lv_at hl 0 rfl) ?_
  have hPc := hP.sub (ws' := []) [] rfl
  have hDc := hD.sub (ws' := []) [] (by decide) rfl
  have hKc := hK.sub (tys' := []) [] rfl
  have hFc := va_free (wc := []) hD hS hA [] rfl
  refine va_calli (va_runV (As := []) (rest := []) ⟨hx, hb, hml, hown, hG⟩ (sJ0_isLatin1_aae02_11 l dC dI adK adV s.heap.size) (cwV 0 hG (zgV zv691 zv692 zv693 zv146 zv694) rfl rfl rfl (by decide +kernel) ⟨Nat.le_of_ble_eq_true rfl, Nat.le_of_ble_eq_true rfl⟩) ⟨zPc_blind, vk_recv hZ.2.2.2.1 (i := 11) (by decide) hS, zPc_pre hPc hKc hDc hE hS hFc hZ⟩ rfl rfl hl.1 rfl (lv_room (Nat.le_of_ble_eq_true rfl)) dJ0_charAt_5068e_1 ⟨Nat.le_of_ble_eq_true rfl, Nat.le_of_ble_eq_true rfl⟩) hS (fun q _ h => hFc q h) hFc (fun r1_ u1_ t H1 locs ht hvm hw hB hz1 hk1 hS => ?_)
  replace hw : (1 ≤ r1_.toInt ∧ r1_.toInt ≤ 1) := hw
  have b_ := hw
  obtain rfl : r1_ = (1 : Int32) := zeqi.mpr ((show r1_.toInt = 1 from by omega).trans zk_1.symm)
  obtain ⟨w1_, a1_, b1_, hP1, hK1, hD1⟩ := hB
  rw [ht] at hP1
  obtain ⟨hP, hD⟩ := va_join (wr := []) (w1 := []) hP hD [] [] rfl rfl (by decide) (by decide) hk1 hFc hP1 hD1
  have hP : va_P (dC, dI) vwCl [] H1 := hP.sub [] rfl
  have hD : va_D A [] := hD.sub [] (by decide) rfl
  generalize H1 = H at hP hS ⊢
  clear hz1
  refine lv_if_eq (tgt := 16) hx hb dJ0_charAt_5068e_4 (by decide) (fun c_ => absurd c_ (by decide)) (fun c_ => ?_)
  refine lv_aload_n hx hb dJ0_charAt_5068e_7 rfl (lv_at hl 0 rfl) ?_
  refine vk_getf hx hb (hZ.2.2.2.1.1 11 (by decide)).2.2.1 hS hown (hG _ zv2257) (fun _ h => h) dJ0_charAt_5068e_8 ?_
  refine lv_iload_n hx hb dJ0_charAt_5068e_11 rfl (lv_at hl 1 rfl) ?_
  have hPc := hP.sub (ws' := []) [] rfl
  have hDc := hD.sub (ws' := []) [] (by decide) rfl
  have hKc := hK.sub (tys' := []) [] rfl
  have hFc := va_free (wc := []) hD hS hA [] rfl
  refine va_calli (va_runS (As := [.ref (adV 11), .int x1]) (rest := []) ⟨hx, hb, hml, hown, hG⟩ (sJ1_charAt_3b067_11 l dC dI adK adV H.size x1 (show (0 : Int) ≤ (x1 : Int32).toInt ∧ (x1 : Int32).toInt ≤ (4 : Int) from (by first | with_reducible assumption | exact ⟨by omega, by omega⟩))) (va_cwS 2 hG (zgS zv695 zv696 zv147 zv697) rfl rfl rfl (by decide +kernel) ⟨Nat.le_of_ble_eq_true rfl, Nat.le_of_ble_eq_true rfl⟩) ⟨zPc_blind, zPc_pre hPc hKc hDc hE hS hFc hZ⟩ rfl rfl hl.1 rfl (lv_room (Nat.le_of_ble_eq_true rfl)) dJ0_charAt_5068e_12 ⟨Nat.le_of_ble_eq_true rfl, Nat.le_of_ble_eq_true rfl⟩) hS (fun q _ h => hFc q h) hFc (fun r12_ u12_ t H1 locs ht hvm hw hB hz1 hk1 hS => ?_)
  replace hw : (0 ≤ r12_.toInt ∧ r12_.toInt ≤ 255) := hw
  have b_ := hw
  obtain ⟨w12_, a12_, b12_, hP1, hK1, hD1⟩ := hB
  rw [ht] at hP1
  obtain ⟨hP, hD⟩ := va_join (wr := []) (w1 := []) hP hD [] [] rfl rfl (by decide) (by decide) hk1 hFc hP1 hD1
  have hP : va_P (dC, dI) vwCl [] H1 := hP.sub [] rfl
  have hD : va_D A [] := hD.sub [] (by decide) rfl
  generalize H1 = H at hP hS ⊢
  clear hz1
  refine W.widen (k := 0) (n := 0) (by decide) (by decide) ?_
  have hpost : (0 ≤ r12_.toInt ∧ r12_.toInt ≤ 255) := (by first | with_reducible assumption | exact ⟨by omega, by omega⟩)
  have hP9 : va_P (dC, dI) vwCl [] H := hP
  have hD9 : va_D A [] := hD
  exact W.zret (v := r12_) hx hb hr (zn_char ⟨by omega, by omega⟩) (fun t ht hW => ⟨⟨r12_, (fun _ => 0), rfl, hpost, (fun _ => 0), (fun _ => (fun _ => 0)), (fun _ => (fun _ => 0)), by rw [ht]; exact hP9, va_K.moved hW.alike hK, hD9⟩, hS.F ht⟩) hS.2.2 dJ0_charAt_5068e_15
set_option maxHeartbeats 8000000 in
set_option maxRecDepth 100000 in
theorem sX9_spells_4 (l : Launch) (dC : Nat → ClassId) (dI : Nat → Nat → Nat) (adK adV : Nat → Nat) (h0 : Nat) (h1 : Nat) (h2 : Nat) (k1 : ClassId) (sz : Nat) (v0 : Nat → Int32) (f1 : Nat → Int32) (x1 : Int32) (x2 : Int32) (hv0 : zR rg_Tape v0) (hx1 : 0 ≤ x1.toInt ∧ x1.toInt ≤ 600) (hx2 : 0 ≤ x2.toInt ∧ x2.toInt ≤ 601) : Met l yX9_spells (zw yX9_spells cX9_spells 5 (some .boolean)) { frames := 4, cells := 0, slots := 0, locals := 85 } (zPc dC dI adK adV [.ref h0, .int x1, .int x2, .ref (adK 11)] sz [(h0, .inr (9, mX9 h1 h2 v0)), (h1, zi k1 600 f1)] [(k1, .byte)]) (va_Qi (fun (r : Int32) (u : Nat → Int32) => (0 ≤ r.toInt ∧ r.toInt ≤ 1)) (fun (u : Nat → Int32) (t : State) => ∃ (ww : Nat → Int64) (aa : Nat → Nat → Int32) (bb : Nat → Nat → Int64), va_P (dC, dI) vwCl [(h0, .inr (9, mX9 h1 h2 v0)), (h1, zi k1 600 f1)] t.heap ∧ va_K (dC, dI) vwCl [(k1, .byte)] t ∧ va_D (va_A [(h0, .inr (9, mX9 h1 h2 v0)), (h1, zi k1 600 f1)] sz) [(h0, .inr (9, mX9 h1 h2 v0)), (h1, zi k1 600 f1)]) (va_A [(h0, .inr (9, mX9 h1 h2 v0)), (h1, zi k1 600 f1)] sz)) 0 0 (va_A [(h0, .inr (9, mX9 h1 h2 v0)), (h1, zi k1 600 f1)] sz) := by
  refine Met.ofW (cc := cX9_spells) (maxL := 5) (ret := (some .boolean)) (by decide) rfl ?_
  intro p e s m args below meth c s₁ B hml hv
  obtain ⟨rfl, hsz, hP, hK, hD0, hE, hZ⟩ := hv
  have hx := B.exec
  have hb := B.bytes
  have hr := B.returns
  have hG : ∀ w ∈ zG, w.before _ s = true := fun w h => atoms_spec (ws := (zw yX9_spells cX9_spells 5 (some .boolean))) B.pre w (List.mem_cons_of_mem _ h)
  have hown : s.vm.findClass RX9 = some m.cls := findClass_of_methodNamed B.named
  have hlocks := B.notSynchronized

  subst hsz
  have hD := hD0.self (sz := s.heap.size)
  generalize hAe : va_A [(h0, .inr (9, mX9 h1 h2 v0)), (h1, zi k1 600 f1)] s.heap.size = A at hD hZ ⊢
  have hA : ∀ q : Nat, s.heap.size ≤ q → A q := fun q h => by rw [← hAe]; exact Or.inr h
  have hS : va_S A s.heap s.heap [] := va_S.rf
  have hl := lv_entry ([.ref h0, .int x1, .int x2, .ref (adK 11)]) (n := 5) (Nat.le_of_ble_eq_true rfl)
  rw [lg_entry_eq]
  generalize (lg_sl ([.ref h0, .int x1, .int x2, .ref (adK 11)]) ++ List.replicate (5 - (lg_sl ([.ref h0, .int x1, .int x2, .ref (adK 11)])).length) Slot.unset).toArray = ls at hl ⊢
  have hl : lv_has ls 5 [(0, .ref h0), (1, .int x1), (2, .int x2), (3, .ref (adK 11))] := hl
  have b_ := zk_0
  have b_ := zk_1
  refine lv_iload_n hx hb dX9_spells_0 rfl (lv_at hl 2 rfl) ?_
  refine lv_iload_n hx hb dX9_spells_1 rfl (lv_at hl 1 rfl) ?_
  refine lv_isub hx hb dX9_spells_2 ?_
  refine lv_topi (fun z2 e_z2 => ?_)
  have b_ := zsub rfl rfl e_z2 (by omega) (by omega)
  refine lv_aload_n hx hb dX9_spells_3 rfl (lv_at hl 3 rfl) ?_
  have hPc := hP.sub (ws' := []) [] rfl
  have hDc := hD.sub (ws' := []) [] (by decide) rfl
  have hKc := hK.sub (tys' := []) [] rfl
  have hFc := va_free (wc := []) hD hS hA [] rfl
  refine va_calli (va_runV (As := []) (rest := [.int z2]) ⟨hx, hb, hml, hown, hG⟩ (sJ0_length_8abf5_11 l dC dI adK adV s.heap.size) (cwV 0 hG (zgV zv677 zv678 zv679 zv146 zv680) rfl rfl rfl (by decide +kernel) ⟨Nat.le_of_ble_eq_true rfl, Nat.le_of_ble_eq_true rfl⟩) ⟨zPc_blind, vk_recv hZ.2.2.2.1 (i := 11) (by decide) hS, zPc_pre hPc hKc hDc hE hS hFc hZ⟩ rfl rfl hl.1 rfl (lv_room (Nat.le_of_ble_eq_true rfl)) dX9_spells_4 ⟨Nat.le_of_ble_eq_true rfl, Nat.le_of_ble_eq_true rfl⟩) hS (fun q _ h => hFc q h) hFc (fun r4_ u4_ t H1 locs ht hvm hw hB hz1 hk1 hS => ?_)
  replace hw : (5 ≤ r4_.toInt ∧ r4_.toInt ≤ 5) := hw
  have b_ := hw
  obtain rfl : r4_ = (5 : Int32) := zeqi.mpr ((show r4_.toInt = 5 from by omega).trans zk_5.symm)
  obtain ⟨w4_, a4_, b4_, hP1, hK1, hD1⟩ := hB
  rw [ht] at hP1
  obtain ⟨hP, hD⟩ := va_join (wr := [(h0, .inr (9, mX9 h1 h2 v0)), (h1, zi k1 600 f1)]) (w1 := []) hP hD [] [0, 1] rfl rfl (by decide) (by decide) hk1 hFc hP1 hD1
  have hP : va_P (dC, dI) vwCl [(h0, .inr (9, mX9 h1 h2 v0)), (h1, zi k1 600 f1)] H1 := hP.sub [0, 1] rfl
  have hD : va_D A [(h0, .inr (9, mX9 h1 h2 v0)), (h1, zi k1 600 f1)] := hD.sub [0, 1] (by decide) rfl
  generalize H1 = H at hP hS ⊢
  clear hz1
  refine lv_icmp_ne (tgt := 22) hx hb dX9_spells_7 (by decide) (fun c_ => ?_) (fun c_ => ?_)
  · skip
    have b_ := zT_ne rfl zk_5 c_
    refine lv_iconst (v := 0) hx hb dX9_spells_22 (by decide) ?_
    refine W.widen (k := 0) (n := 0) (by decide) (by decide) ?_
    have hpost : (0 ≤ (0 : Int32).toInt ∧ (0 : Int32).toInt ≤ 1) := (by first | with_reducible assumption | exact ⟨by omega, by omega⟩)
    have hP9 : va_P (dC, dI) vwCl [(h0, .inr (9, mX9 h1 h2 v0)), (h1, zi k1 600 f1)] H := hP
    have hD9 : va_D A [(h0, .inr (9, mX9 h1 h2 v0)), (h1, zi k1 600 f1)] := hD
    exact W.zret (v := 0) hx hb hr rfl (fun t ht hW => ⟨⟨0, (fun _ => 0), rfl, hpost, (fun _ => 0), (fun _ => (fun _ => 0)), (fun _ => (fun _ => 0)), by rw [ht]; exact hP9, va_K.moved hW.alike hK, hD9⟩, hS.F ht⟩) hS.2.2 dX9_spells_23
  · skip
    have b_ := zF_ne rfl zk_5 c_
    refine lv_iload_n hx hb dX9_spells_10 rfl (lv_at hl 1 rfl) ?_
    refine lv_if_lt (tgt := 22) hx hb dX9_spells_11 (by decide) (fun c_ => False.elim (by have b_ := zT_lt rfl zk_0 c_; omega)) (fun c_ => ?_)
    have b_ := zF_lt rfl zk_0 c_
    refine lv_iload_n hx hb dX9_spells_14 rfl (lv_at hl 2 rfl) ?_
    refine lv_aload_n hx hb dX9_spells_15 rfl (lv_at hl 0 rfl) ?_
    have b_ : 0 ≤ (v0 2).toInt ∧ (v0 2).toInt ≤ 600 := hv0 2
    refine va_get (D := (dC, dI)) (ci := 9) (v := .int (v0 2)) (C := RX9) (T := TX9) (N := 4) hx hb hG zuX9 hown hK hP 0 rfl rfl 2 (by decide) (hG _ zv171) (fun _ h9 => h9) rfl dX9_spells_16 ?_
    refine lv_icmp_le (tgt := 24) hx hb dX9_spells_19 (by decide) (fun c_ => ?_) (fun c_ => ?_)
    · skip
      have b_ := zT_le rfl rfl c_
      refine lv_iconst (v := 0) hx hb dX9_spells_24 (by decide) ?_
      refine lv_istore (lv' := [(4, .int 0), (0, .ref h0), (1, .int x1), (2, .int x2), (3, .ref (adK 11))]) hx hb dX9_spells_25 hl (by decide) rfl (fun ls hl => ?_)
      refine zcutL (fun u27_ => (9 - (u27_ 0).toInt).toNat) (fun H locs ls u27_ w27_ a27_ b27_ => va_P (dC, dI) vwCl [(h0, .inr (9, mX9 h1 h2 v0)), (h1, zi k1 600 f1)] H ∧ va_D A [(h0, .inr (9, mX9 h1 h2 v0)), (h1, zi k1 600 f1)] ∧ va_S A s.heap H locs ∧ lv_has ls 5 [(0, .ref h0), (1, .int x1), (2, .int x2), (3, .ref (adK 11)), (4, .int (u27_ 0))] ∧ (0 ≤ (u27_ 0).toInt ∧ (u27_ 0).toInt ≤ 9)) (fun ls u27_ w27_ => F0 m 27 ls []) 0 0 ?_ (fun hJ27 => ?_)
      · skip
        intro H locs ls u27_ w27_ a27_ b27_ hc hJ27
        obtain ⟨hP, hD, hS, hl, b_⟩ := hc
        refine lv_iload hx hb dX9_spells_27 (lv_at hl 4 rfl) ?_
        refine lv_aload_n hx hb dX9_spells_29 rfl (lv_at hl 3 rfl) ?_
        have hPc := hP.sub (ws' := []) [] rfl
        have hDc := hD.sub (ws' := []) [] (by decide) rfl
        have hKc := hK.sub (tys' := []) [] rfl
        have hFc := va_free (wc := []) hD hS hA [] rfl
        refine va_calli (va_runV (As := []) (rest := [.int (u27_ 0)]) ⟨hx, hb, hml, hown, hG⟩ (sJ0_length_8abf5_11 l dC dI adK adV H.size) (cwV 0 hG (zgV zv677 zv678 zv679 zv146 zv680) rfl rfl rfl (by decide +kernel) ⟨Nat.le_of_ble_eq_true rfl, Nat.le_of_ble_eq_true rfl⟩) ⟨zPc_blind, vk_recv hZ.2.2.2.1 (i := 11) (by decide) hS, zPc_pre hPc hKc hDc hE hS hFc hZ⟩ rfl rfl hl.1 rfl (lv_room (Nat.le_of_ble_eq_true rfl)) dX9_spells_30 ⟨Nat.le_of_ble_eq_true rfl, Nat.le_of_ble_eq_true rfl⟩) hS (fun q _ h => hFc q h) hFc (fun r30_ u30_ t H1 locs ht hvm hw hB hz1 hk1 hS => ?_)
        replace hw : (5 ≤ r30_.toInt ∧ r30_.toInt ≤ 5) := hw
        have b_ := hw
        obtain rfl : r30_ = (5 : Int32) := zeqi.mpr ((show r30_.toInt = 5 from by omega).trans zk_5.symm)
        obtain ⟨w30_, a30_, b30_, hP1, hK1, hD1⟩ := hB
        rw [ht] at hP1
        obtain ⟨hP, hD⟩ := va_join (wr := [(h0, .inr (9, mX9 h1 h2 v0)), (h1, zi k1 600 f1)]) (w1 := []) hP hD [] [0, 1] rfl rfl (by decide) (by decide) hk1 hFc hP1 hD1
        have hP : va_P (dC, dI) vwCl [(h0, .inr (9, mX9 h1 h2 v0)), (h1, zi k1 600 f1)] H1 := hP.sub [0, 1] rfl
        have hD : va_D A [(h0, .inr (9, mX9 h1 h2 v0)), (h1, zi k1 600 f1)] := hD.sub [0, 1] (by decide) rfl
        generalize H1 = H at hP hS ⊢
        clear hz1
        refine lv_icmp_ge (tgt := 65) hx hb dX9_spells_33 (by decide) (fun c_ => ?_) (fun c_ => ?_)
        · skip
          have b_ := zT_ge rfl zk_5 c_
          refine lv_iconst (v := 1) hx hb dX9_spells_65 (by decide) ?_
          refine W.widen (k := 0) (n := 0) (by decide) (by decide) ?_
          have hpost : (0 ≤ (1 : Int32).toInt ∧ (1 : Int32).toInt ≤ 1) := (by first | with_reducible assumption | exact ⟨by omega, by omega⟩)
          have hP9 : va_P (dC, dI) vwCl [(h0, .inr (9, mX9 h1 h2 v0)), (h1, zi k1 600 f1)] H := hP
          have hD9 : va_D A [(h0, .inr (9, mX9 h1 h2 v0)), (h1, zi k1 600 f1)] := hD
          exact W.zret (v := 1) hx hb hr rfl (fun t ht hW => ⟨⟨1, (fun _ => 0), rfl, hpost, (fun _ => 0), (fun _ => (fun _ => 0)), (fun _ => (fun _ => 0)), by rw [ht]; exact hP9, va_K.moved hW.alike hK, hD9⟩, hS.F ht⟩) hS.2.2 dX9_spells_66
        · skip
          have b_ := zF_ge rfl zk_5 c_
          refine lv_aload_n hx hb dX9_spells_36 rfl (lv_at hl 0 rfl) ?_
          refine va_get (D := (dC, dI)) (ci := 9) (v := .ref h1) (C := RX9) (T := TX9) (N := 4) hx hb hG zuX9 hown hK hP 0 rfl rfl 0 (by decide) (hG _ zv169) (fun _ h9 => h9) rfl dX9_spells_37 ?_
          refine lv_iload_n hx hb dX9_spells_40 rfl (lv_at hl 1 rfl) ?_
          refine lv_iload hx hb dX9_spells_41 (lv_at hl 4 rfl) ?_
          refine lv_iadd hx hb dX9_spells_43 ?_
          refine lv_topi (fun z43 e_z43 => ?_)
          have b_ := zadd rfl rfl e_z43 (by omega) (by omega)
          refine va_bald hx hb hK hP 1 0 rfl rfl (zin_lit ⟨by omega, by omega⟩) dX9_spells_44 ?_
          refine lv_topi (fun z44 e_z44 => ?_)
          refine lv_bipush (v := 32) hx hb dX9_spells_45 (by decide) ?_
          have b_ : -2147483648 ≤ z44.toInt ∧ z44.toInt ≤ 2147483647 := ⟨zlo _, zhi _⟩
          refine lv_ior hx hb dX9_spells_47 ?_
          refine lv_topi (fun z47 e_z47 => ?_)
          refine lv_aload_n hx hb dX9_spells_48 rfl (lv_at hl 3 rfl) ?_
          refine lv_iload hx hb dX9_spells_49 (lv_at hl 4 rfl) ?_
          have hPc := hP.sub (ws' := []) [] rfl
          have hDc := hD.sub (ws' := []) [] (by decide) rfl
          have hKc := hK.sub (tys' := []) [] rfl
          have hFc := va_free (wc := []) hD hS hA [] rfl
          refine va_calli (va_runV (As := [.int (u27_ 0)]) (rest := [.int z47]) ⟨hx, hb, hml, hown, hG⟩ (sJ0_charAt_5068e_11 l dC dI adK adV H.size (u27_ 0) (show (0 : Int) ≤ ((u27_ 0) : Int32).toInt ∧ ((u27_ 0) : Int32).toInt ≤ (4 : Int) from (by first | with_reducible assumption | exact ⟨by omega, by omega⟩))) (cwV 1 hG (zgV zv687 zv688 zv689 zv146 zv690) rfl rfl rfl (by decide +kernel) ⟨Nat.le_of_ble_eq_true rfl, Nat.le_of_ble_eq_true rfl⟩) ⟨zPc_blind, vk_recv hZ.2.2.2.1 (i := 11) (by decide) hS, zPc_pre hPc hKc hDc hE hS hFc hZ⟩ rfl rfl hl.1 rfl (lv_room (Nat.le_of_ble_eq_true rfl)) dX9_spells_51 ⟨Nat.le_of_ble_eq_true rfl, Nat.le_of_ble_eq_true rfl⟩) hS (fun q _ h => hFc q h) hFc (fun r51_ u51_ t H1 locs ht hvm hw hB hz1 hk1 hS => ?_)
          replace hw : (0 ≤ r51_.toInt ∧ r51_.toInt ≤ 255) := hw
          have b_ := hw
          obtain ⟨w51_, a51_, b51_, hP1, hK1, hD1⟩ := hB
          rw [ht] at hP1
          obtain ⟨hP, hD⟩ := va_join (wr := [(h0, .inr (9, mX9 h1 h2 v0)), (h1, zi k1 600 f1)]) (w1 := []) hP hD [] [0, 1] rfl rfl (by decide) (by decide) hk1 hFc hP1 hD1
          have hP : va_P (dC, dI) vwCl [(h0, .inr (9, mX9 h1 h2 v0)), (h1, zi k1 600 f1)] H1 := hP.sub [0, 1] rfl
          have hD : va_D A [(h0, .inr (9, mX9 h1 h2 v0)), (h1, zi k1 600 f1)] := hD.sub [0, 1] (by decide) rfl
          generalize H1 = H at hP hS ⊢
          clear hz1
          have b_ : -2147483648 ≤ z47.toInt ∧ z47.toInt ≤ 2147483647 := ⟨zlo _, zhi _⟩
          refine lv_icmp_eq (tgt := 59) hx hb dX9_spells_54 (by decide) (fun c_ => ?_) (fun c_ => ?_)
          · skip
            have b_ := zT_eq rfl rfl c_
            obtain ⟨z59, e_z59⟩ : ∃ z : Int32, z = (u27_ 0) + Int32.ofInt 1 := ⟨_, rfl⟩
            have b_ := zadd (x := (u27_ 0)) (y := Int32.ofInt 1) rfl (show (Int32.ofInt 1).toInt = 1 from by decide) e_z59 (by omega) (by omega)
            refine lv_iinc (v := z59) (lv' := [(4, .int z59), (0, .ref h0), (1, .int x1), (2, .int x2), (3, .ref (adK 11))]) hx hb dX9_spells_59 hl (k := 4) rfl e_z59.symm (by decide) rfl (fun ls hl => ?_)
            refine lv_goto (tgt := 27) hx hb dX9_spells_62 (by decide) ?_
            have hc : va_P (dC, dI) vwCl [(h0, .inr (9, mX9 h1 h2 v0)), (h1, zi k1 600 f1)] H ∧ va_D A [(h0, .inr (9, mX9 h1 h2 v0)), (h1, zi k1 600 f1)] ∧ va_S A s.heap H locs ∧ lv_has ls 5 [(0, .ref h0), (1, .int x1), (2, .int x2), (3, .ref (adK 11)), (4, .int z59)] ∧ (0 ≤ z59.toInt ∧ z59.toInt ≤ 9) := ⟨hP, hD, hS, lv_sub hl [1, 2, 3, 4, 0] rfl, (by first | with_reducible assumption | exact ⟨by omega, by omega⟩)⟩
            exact hJ27 H locs ls (fun i => ([z59] : List (Int32)).getD i 0) (fun _ => 0) (fun _ => (fun _ => 0)) (fun _ => (fun _ => 0)) hc (show (9 - z59.toInt).toNat < (9 - (u27_ 0).toInt).toNat from by omega)
          · skip
            have b_ := zF_eq rfl rfl c_
            refine lv_iconst (v := 0) hx hb dX9_spells_57 (by decide) ?_
            refine W.widen (k := 0) (n := 0) (by decide) (by decide) ?_
            have hpost : (0 ≤ (0 : Int32).toInt ∧ (0 : Int32).toInt ≤ 1) := (by first | with_reducible assumption | exact ⟨by omega, by omega⟩)
            have hP9 : va_P (dC, dI) vwCl [(h0, .inr (9, mX9 h1 h2 v0)), (h1, zi k1 600 f1)] H := hP
            have hD9 : va_D A [(h0, .inr (9, mX9 h1 h2 v0)), (h1, zi k1 600 f1)] := hD
            exact W.zret (v := 0) hx hb hr rfl (fun t ht hW => ⟨⟨0, (fun _ => 0), rfl, hpost, (fun _ => 0), (fun _ => (fun _ => 0)), (fun _ => (fun _ => 0)), by rw [ht]; exact hP9, va_K.moved hW.alike hK, hD9⟩, hS.F ht⟩) hS.2.2 dX9_spells_58
      · skip
        have hc : va_P (dC, dI) vwCl [(h0, .inr (9, mX9 h1 h2 v0)), (h1, zi k1 600 f1)] H ∧ va_D A [(h0, .inr (9, mX9 h1 h2 v0)), (h1, zi k1 600 f1)] ∧ va_S A s.heap H locs ∧ lv_has ls 5 [(0, .ref h0), (1, .int x1), (2, .int x2), (3, .ref (adK 11)), (4, .int 0)] ∧ (0 ≤ (0 : Int32).toInt ∧ (0 : Int32).toInt ≤ 9) := ⟨hP, hD, hS, lv_sub hl [1, 2, 3, 4, 0] rfl, (by first | with_reducible assumption | exact ⟨by omega, by omega⟩)⟩
        exact hJ27 H locs ls (fun i => ([0] : List (Int32)).getD i 0) (fun _ => 0) (fun _ => (fun _ => 0)) (fun _ => (fun _ => 0)) hc
    · skip
      have b_ := zF_le rfl rfl c_
      refine lv_iconst (v := 0) hx hb dX9_spells_22 (by decide) ?_
      refine W.widen (k := 0) (n := 0) (by decide) (by decide) ?_
      have hpost : (0 ≤ (0 : Int32).toInt ∧ (0 : Int32).toInt ≤ 1) := (by first | with_reducible assumption | exact ⟨by omega, by omega⟩)
      have hP9 : va_P (dC, dI) vwCl [(h0, .inr (9, mX9 h1 h2 v0)), (h1, zi k1 600 f1)] H := hP
      have hD9 : va_D A [(h0, .inr (9, mX9 h1 h2 v0)), (h1, zi k1 600 f1)] := hD
      exact W.zret (v := 0) hx hb hr rfl (fun t ht hW => ⟨⟨0, (fun _ => 0), rfl, hpost, (fun _ => 0), (fun _ => (fun _ => 0)), (fun _ => (fun _ => 0)), by rw [ht]; exact hP9, va_K.moved hW.alike hK, hD9⟩, hS.F ht⟩) hS.2.2 dX9_spells_23
set_option maxHeartbeats 8000000 in
set_option maxRecDepth 100000 in
theorem sJ0_coder_7d493_12 (l : Launch) (dC : Nat → ClassId) (dI : Nat → Nat → Nat) (adK adV : Nat → Nat) (sz : Nat) : Met l yJ0_coder_7d493 (zw yJ0_coder_7d493 cJ0_coder_7d493 1 (some .byte)) { frames := 0, cells := 0, slots := 0, locals := 0 } (zPc dC dI adK adV [.ref (adK 12)] sz [] []) (va_Qi (fun (r : Int32) (u : Nat → Int32) => (0 ≤ r.toInt ∧ r.toInt ≤ 0)) (fun (u : Nat → Int32) (t : State) => ∃ (ww : Nat → Int64) (aa : Nat → Nat → Int32) (bb : Nat → Nat → Int64), va_P (dC, dI) vwCl [] t.heap ∧ va_K (dC, dI) vwCl [] t ∧ va_D (va_A [] sz) []) (va_A [] sz)) 0 0 (va_A [] sz) := by
  refine Met.ofW (cc := cJ0_coder_7d493) (maxL := 1) (ret := (some .byte)) (by decide) rfl ?_
  intro p e s m args below meth c s₁ B hml hv
  obtain ⟨rfl, hsz, hP, hK, hD0, hE, hZ⟩ := hv
  have hx := B.exec
  have hb := B.bytes
  have hr := B.returns
  have hG : ∀ w ∈ zG, w.before _ s = true := fun w h => atoms_spec (ws := (zw yJ0_coder_7d493 cJ0_coder_7d493 1 (some .byte))) B.pre w (List.mem_cons_of_mem _ h)
  have hown : s.vm.findClass RJ0 = some m.cls := findClass_of_methodNamed B.named
  have hlocks := B.notSynchronized

  subst hsz
  have hD := hD0.self (sz := s.heap.size)
  generalize hAe : va_A [] s.heap.size = A at hD hZ ⊢
  have hA : ∀ q : Nat, s.heap.size ≤ q → A q := fun q h => by rw [← hAe]; exact Or.inr h
  have hS : va_S A s.heap s.heap [] := va_S.rf
  have hl := lv_entry ([.ref (adK 12)]) (n := 1) (Nat.le_of_ble_eq_true rfl)
  rw [lg_entry_eq]
  generalize (lg_sl ([.ref (adK 12)]) ++ List.replicate (1 - (lg_sl ([.ref (adK 12)])).length) Slot.unset).toArray = ls at hl ⊢
  have hl : lv_has ls 1 [(0, .ref (adK 12))] := hl
  have b_ := zk_0
  refine va_gets hx hb hZ.2.2.1 hS hown (hG _ zv685) (fun _ h => h) dJ0_coder_7d493_0 ?_
  refine lv_if_eq (tgt := 13) hx hb dJ0_coder_7d493_3 (by decide) (fun c_ => absurd c_ (by decide)) (fun c_ => ?_)
  refine lv_aload_n hx hb dJ0_coder_7d493_6 rfl (lv_at hl 0 rfl) ?_
  refine vk_getf hx hb (hZ.2.2.2.1.1 12 (by decide)).2.1 hS hown (hG _ zv2258) (fun _ h => h) dJ0_coder_7d493_7 ?_
  refine lv_goto (tgt := 14) hx hb dJ0_coder_7d493_10 (by decide) ?_
  refine W.widen (k := 0) (n := 0) (by decide) (by decide) ?_
  have hpost : (0 ≤ (0 : Int32).toInt ∧ (0 : Int32).toInt ≤ 0) := (by first | with_reducible assumption | exact ⟨by omega, by omega⟩)
  have hP9 : va_P (dC, dI) vwCl [] s.heap := hP
  have hD9 : va_D A [] := hD
  exact W.zret (v := 0) hx hb hr rfl (fun t ht hW => ⟨⟨0, (fun _ => 0), rfl, hpost, (fun _ => 0), (fun _ => (fun _ => 0)), (fun _ => (fun _ => 0)), by rw [ht]; exact hP9, va_K.moved hW.alike hK, hD9⟩, hS.F ht⟩) hS.2.2 dJ0_coder_7d493_14
set_option maxHeartbeats 8000000 in
set_option maxRecDepth 100000 in
theorem sJ0_length_8abf5_12 (l : Launch) (dC : Nat → ClassId) (dI : Nat → Nat → Nat) (adK adV : Nat → Nat) (sz : Nat) : Met l yJ0_length_8abf5 (zw yJ0_length_8abf5 cJ0_length_8abf5 1 (some .int)) { frames := 1, cells := 0, slots := 0, locals := 20 } (zPc dC dI adK adV [.ref (adK 12)] sz [] []) (va_Qi (fun (r : Int32) (u : Nat → Int32) => (4 ≤ r.toInt ∧ r.toInt ≤ 4)) (fun (u : Nat → Int32) (t : State) => ∃ (ww : Nat → Int64) (aa : Nat → Nat → Int32) (bb : Nat → Nat → Int64), va_P (dC, dI) vwCl [] t.heap ∧ va_K (dC, dI) vwCl [] t ∧ va_D (va_A [] sz) []) (va_A [] sz)) 0 0 (va_A [] sz) := by
  refine Met.ofW (cc := cJ0_length_8abf5) (maxL := 1) (ret := (some .int)) (by decide) rfl ?_
  intro p e s m args below meth c s₁ B hml hv
  obtain ⟨rfl, hsz, hP, hK, hD0, hE, hZ⟩ := hv
  have hx := B.exec
  have hb := B.bytes
  have hr := B.returns
  have hG : ∀ w ∈ zG, w.before _ s = true := fun w h => atoms_spec (ws := (zw yJ0_length_8abf5 cJ0_length_8abf5 1 (some .int))) B.pre w (List.mem_cons_of_mem _ h)
  have hown : s.vm.findClass RJ0 = some m.cls := findClass_of_methodNamed B.named
  have hlocks := B.notSynchronized

  subst hsz
  have hD := hD0.self (sz := s.heap.size)
  generalize hAe : va_A [] s.heap.size = A at hD hZ ⊢
  have hA : ∀ q : Nat, s.heap.size ≤ q → A q := fun q h => by rw [← hAe]; exact Or.inr h
  have hS : va_S A s.heap s.heap [] := va_S.rf
  have hl := lv_entry ([.ref (adK 12)]) (n := 1) (Nat.le_of_ble_eq_true rfl)
  rw [lg_entry_eq]
  generalize (lg_sl ([.ref (adK 12)]) ++ List.replicate (1 - (lg_sl ([.ref (adK 12)])).length) Slot.unset).toArray = ls at hl ⊢
  have hl : lv_has ls 1 [(0, .ref (adK 12))] := hl
  have b_ := zk_4
  refine lv_aload_n hx hb dJ0_length_8abf5_0 rfl (lv_at hl 0 rfl) ?_
  refine vk_getf hx hb (hZ.2.2.2.1.1 12 (by decide)).2.2.1 hS hown (hG _ zv2257) (fun _ h => h) dJ0_length_8abf5_1 ?_
  refine va_tlen (v := 4) hx hb (hZ.2.2.2.1.1 12 (by decide)).2.2.2 hS (by decide) dJ0_length_8abf5_4 ?_
  refine lv_aload_n hx hb dJ0_length_8abf5_5 rfl (lv_at hl 0 rfl) ?_
  have hPc := hP.sub (ws' := []) [] rfl
  have hDc := hD.sub (ws' := []) [] (by decide) rfl
  have hKc := hK.sub (tys' := []) [] rfl
  have hFc := va_free (wc := []) hD hS hA [] rfl
  refine va_calli (va_runV (As := []) (rest := [.int 4]) ⟨hx, hb, hml, hown, hG⟩ (sJ0_coder_7d493_12 l dC dI adK adV s.heap.size) (cwV 0 hG (zgV zv681 zv682 zv683 zv146 zv684) rfl rfl rfl (by decide +kernel) ⟨Nat.le_of_ble_eq_true rfl, Nat.le_of_ble_eq_true rfl⟩) ⟨zPc_blind, vk_recv hZ.2.2.2.1 (i := 12) (by decide) hS, zPc_pre hPc hKc hDc hE hS hFc hZ⟩ rfl rfl hl.1 rfl (lv_room (Nat.le_of_ble_eq_true rfl)) dJ0_length_8abf5_6 ⟨Nat.le_of_ble_eq_true rfl, Nat.le_of_ble_eq_true rfl⟩) hS (fun q _ h => hFc q h) hFc (fun r6_ u6_ t H1 locs ht hvm hw hB hz1 hk1 hS => ?_)
  replace hw : (0 ≤ r6_.toInt ∧ r6_.toInt ≤ 0) := hw
  have b_ := hw
  obtain rfl : r6_ = (0 : Int32) := zeqi.mpr ((show r6_.toInt = 0 from by omega).trans zk_0.symm)
  obtain ⟨w6_, a6_, b6_, hP1, hK1, hD1⟩ := hB
  rw [ht] at hP1
  obtain ⟨hP, hD⟩ := va_join (wr := []) (w1 := []) hP hD [] [] rfl rfl (by decide) (by decide) hk1 hFc hP1 hD1
  have hP : va_P (dC, dI) vwCl [] H1 := hP.sub [] rfl
  have hD : va_D A [] := hD.sub [] (by decide) rfl
  generalize H1 = H at hP hS ⊢
  clear hz1
  refine lv_ishr hx hb dJ0_length_8abf5_9 ?_
  refine lv_topi (fun z9 e_z9 => ?_)
  obtain rfl : z9 = (4 : Int32) := e_z9.trans (by decide)
  refine W.widen (k := 0) (n := 0) (by decide) (by decide) ?_
  have hpost : (4 ≤ (4 : Int32).toInt ∧ (4 : Int32).toInt ≤ 4) := (by first | with_reducible assumption | exact ⟨by omega, by omega⟩)
  have hP9 : va_P (dC, dI) vwCl [] H := hP
  have hD9 : va_D A [] := hD
  exact W.iret (v := 4) hx hb hr (fun t ht hW => ⟨⟨4, (fun _ => 0), rfl, hpost, (fun _ => 0), (fun _ => (fun _ => 0)), (fun _ => (fun _ => 0)), by rw [ht]; exact hP9, va_K.moved hW.alike hK, hD9⟩, hS.F ht⟩) hS.2.2 dJ0_length_8abf5_10
set_option maxHeartbeats 8000000 in
set_option maxRecDepth 100000 in
theorem sJ0_isLatin1_aae02_12 (l : Launch) (dC : Nat → ClassId) (dI : Nat → Nat → Nat) (adK adV : Nat → Nat) (sz : Nat) : Met l yJ0_isLatin1_aae02 (zw yJ0_isLatin1_aae02 cJ0_isLatin1_aae02 1 (some .boolean)) { frames := 0, cells := 0, slots := 0, locals := 0 } (zPc dC dI adK adV [.ref (adK 12)] sz [] []) (va_Qi (fun (r : Int32) (u : Nat → Int32) => (1 ≤ r.toInt ∧ r.toInt ≤ 1)) (fun (u : Nat → Int32) (t : State) => ∃ (ww : Nat → Int64) (aa : Nat → Nat → Int32) (bb : Nat → Nat → Int64), va_P (dC, dI) vwCl [] t.heap ∧ va_K (dC, dI) vwCl [] t ∧ va_D (va_A [] sz) []) (va_A [] sz)) 0 0 (va_A [] sz) := by
  refine Met.ofW (cc := cJ0_isLatin1_aae02) (maxL := 1) (ret := (some .boolean)) (by decide) rfl ?_
  intro p e s m args below meth c s₁ B hml hv
  obtain ⟨rfl, hsz, hP, hK, hD0, hE, hZ⟩ := hv
  have hx := B.exec
  have hb := B.bytes
  have hr := B.returns
  have hG : ∀ w ∈ zG, w.before _ s = true := fun w h => atoms_spec (ws := (zw yJ0_isLatin1_aae02 cJ0_isLatin1_aae02 1 (some .boolean))) B.pre w (List.mem_cons_of_mem _ h)
  have hown : s.vm.findClass RJ0 = some m.cls := findClass_of_methodNamed B.named
  have hlocks := B.notSynchronized

  subst hsz
  have hD := hD0.self (sz := s.heap.size)
  generalize hAe : va_A [] s.heap.size = A at hD hZ ⊢
  have hA : ∀ q : Nat, s.heap.size ≤ q → A q := fun q h => by rw [← hAe]; exact Or.inr h
  have hS : va_S A s.heap s.heap [] := va_S.rf
  have hl := lv_entry ([.ref (adK 12)]) (n := 1) (Nat.le_of_ble_eq_true rfl)
  rw [lg_entry_eq]
  generalize (lg_sl ([.ref (adK 12)]) ++ List.replicate (1 - (lg_sl ([.ref (adK 12)])).length) Slot.unset).toArray = ls at hl ⊢
  have hl : lv_has ls 1 [(0, .ref (adK 12))] := hl
  have b_ := zk_1
  refine va_gets hx hb hZ.2.2.1 hS hown (hG _ zv685) (fun _ h => h) dJ0_isLatin1_aae02_0 ?_
  refine lv_if_eq (tgt := 17) hx hb dJ0_isLatin1_aae02_3 (by decide) (fun c_ => absurd c_ (by decide)) (fun c_ => ?_)
  refine lv_aload_n hx hb dJ0_isLatin1_aae02_6 rfl (lv_at hl 0 rfl) ?_
  refine vk_getf hx hb (hZ.2.2.2.1.1 12 (by decide)).2.1 hS hown (hG _ zv2258) (fun _ h => h) dJ0_isLatin1_aae02_7 ?_
  refine lv_if_ne (tgt := 17) hx hb dJ0_isLatin1_aae02_10 (by decide) (fun c_ => absurd c_ (by decide)) (fun c_ => ?_)
  refine lv_iconst (v := 1) hx hb dJ0_isLatin1_aae02_13 (by decide) ?_
  refine lv_goto (tgt := 18) hx hb dJ0_isLatin1_aae02_14 (by decide) ?_
  refine W.widen (k := 0) (n := 0) (by decide) (by decide) ?_
  have hpost : (1 ≤ (1 : Int32).toInt ∧ (1 : Int32).toInt ≤ 1) := (by first | with_reducible assumption | exact ⟨by omega, by omega⟩)
  have hP9 : va_P (dC, dI) vwCl [] s.heap := hP
  have hD9 : va_D A [] := hD
  exact W.zret (v := 1) hx hb hr rfl (fun t ht hW => ⟨⟨1, (fun _ => 0), rfl, hpost, (fun _ => 0), (fun _ => (fun _ => 0)), (fun _ => (fun _ => 0)), by rw [ht]; exact hP9, va_K.moved hW.alike hK, hD9⟩, hS.F ht⟩) hS.2.2 dJ0_isLatin1_aae02_18
set_option maxHeartbeats 8000000 in
set_option maxRecDepth 100000 in
theorem sJ1_charAt_3b067_12 (l : Launch) (dC : Nat → ClassId) (dI : Nat → Nat → Nat) (adK adV : Nat → Nat) (sz : Nat) (x1 : Int32) (hx1 : 0 ≤ x1.toInt ∧ x1.toInt ≤ 3) : Met l yJ1_charAt_3b067 (zw yJ1_charAt_3b067 cJ1_charAt_3b067 2 (some .char)) { frames := 2, cells := 0, slots := 0, locals := 43 } (zPc dC dI adK adV [.ref (adV 12), .int x1] sz [] []) (va_Qi (fun (r : Int32) (u : Nat → Int32) => (0 ≤ r.toInt ∧ r.toInt ≤ 255)) (fun (u : Nat → Int32) (t : State) => ∃ (ww : Nat → Int64) (aa : Nat → Nat → Int32) (bb : Nat → Nat → Int64), va_P (dC, dI) vwCl [] t.heap ∧ va_K (dC, dI) vwCl [] t ∧ va_D (va_A [] sz) []) (va_A [] sz)) 0 0 (va_A [] sz) := by
  refine Met.ofW (cc := cJ1_charAt_3b067) (maxL := 2) (ret := (some .char)) (by decide) rfl ?_
  intro p e s m args below meth c s₁ B hml hv
  obtain ⟨rfl, hsz, hP, hK, hD0, hE, hZ⟩ := hv
  have hx := B.exec
  have hb := B.bytes
  have hr := B.returns
  have hG : ∀ w ∈ zG, w.before _ s = true := fun w h => atoms_spec (ws := (zw yJ1_charAt_3b067 cJ1_charAt_3b067 2 (some .char))) B.pre w (List.mem_cons_of_mem _ h)
  have hown : s.vm.findClass RJ1 = some m.cls := findClass_of_methodNamed B.named
  have hlocks := B.notSynchronized

  subst hsz
  have hD := hD0.self (sz := s.heap.size)
  generalize hAe : va_A [] s.heap.size = A at hD hZ ⊢
  have hA : ∀ q : Nat, s.heap.size ≤ q → A q := fun q h => by rw [← hAe]; exact Or.inr h
  have hS : va_S A s.heap s.heap [] := va_S.rf
  have hl := lv_entry ([.ref (adV 12), .int x1]) (n := 2) (Nat.le_of_ble_eq_true rfl)
  rw [lg_entry_eq]
  generalize (lg_sl ([.ref (adV 12), .int x1]) ++ List.replicate (2 - (lg_sl ([.ref (adV 12), .int x1])).length) Slot.unset).toArray = ls at hl ⊢
  have hl : lv_has ls 2 [(0, .ref (adV 12)), (1, .int x1)] := hl
  have b_ := zk_4
  refine lv_iload_n hx hb dJ1_charAt_3b067_0 rfl (lv_at hl 1 rfl) ?_
  refine lv_aload_n hx hb dJ1_charAt_3b067_1 rfl (lv_at hl 0 rfl) ?_
  refine va_tlen (v := 4) hx hb (hZ.2.2.2.1.1 12 (by decide)).2.2.2 hS (by decide) dJ1_charAt_3b067_2 ?_
  have hPc := hP.sub (ws' := []) [] rfl
  have hDc := hD.sub (ws' := []) [] (by decide) rfl
  have hKc := hK.sub (tys' := []) [] rfl
  have hFc := va_free (wc := []) hD hS hA [] rfl
  refine va_callv (va_runS (As := [.int x1, .int 4]) (rest := []) ⟨hx, hb, hml, hown, hG⟩ (sJ0_checkIndex_df160_0 l dC dI adK adV s.heap.size x1 4 (show (0 : Int) ≤ (x1 : Int32).toInt ∧ (x1 : Int32).toInt ≤ (4 : Int) from (by first | with_reducible assumption | exact ⟨by omega, by omega⟩)) ⟨show (1 : Int) ≤ (4 : Int32).toInt from by decide, show (4 : Int32).toInt ≤ (5 : Int) from by decide⟩ (show x1.toInt < (4 : Int32).toInt from by omega)) (va_cwS 2 hG (zgS zv698 zv699 zv146 zv700) rfl rfl rfl (by decide +kernel) ⟨Nat.le_of_ble_eq_true rfl, Nat.le_of_ble_eq_true rfl⟩) ⟨zPc_blind, zPc_pre hPc hKc hDc hE hS hFc hZ⟩ rfl rfl hl.1 rfl (lv_room (Nat.le_of_ble_eq_true rfl)) dJ1_charAt_3b067_3 ⟨Nat.le_of_ble_eq_true rfl, Nat.le_of_ble_eq_true rfl⟩) hS (fun q _ h => hFc q h) hFc (fun u3_ t H1 locs ht hvm hw hB hz1 hk1 hS => ?_)
  obtain ⟨w3_, a3_, b3_, hP1, hK1, hD1⟩ := hB
  rw [ht] at hP1
  obtain ⟨hP, hD⟩ := va_join (wr := []) (w1 := []) hP hD [] [] rfl rfl (by decide) (by decide) hk1 hFc hP1 hD1
  have hP : va_P (dC, dI) vwCl [] H1 := hP.sub [] rfl
  have hD : va_D A [] := hD.sub [] (by decide) rfl
  generalize H1 = H at hP hS ⊢
  clear hz1
  refine lv_aload_n hx hb dJ1_charAt_3b067_6 rfl (lv_at hl 0 rfl) ?_
  refine lv_iload_n hx hb dJ1_charAt_3b067_7 rfl (lv_at hl 1 rfl) ?_
  refine va_tb (N := 4) hx hb (hZ.2.2.2.1.1 12 (by decide)).2.2.2 hS (zin_lit (n := 4) ⟨by omega, by omega⟩) rfl dJ1_charAt_3b067_8 ?_
  refine lv_topi (fun z8 e_z8 => ?_)
  refine lv_sipush (v := 255) hx hb dJ1_charAt_3b067_9 (by decide) ?_
  have b_ : -2147483648 ≤ z8.toInt ∧ z8.toInt ≤ 2147483647 := ⟨zlo _, zhi _⟩
  refine lv_iand hx hb dJ1_charAt_3b067_12 ?_
  refine lv_topi (fun z12 e_z12 => ?_)
  have b_ := zand (x := z8) zk_255 e_z12 (by decide)
  refine lv_i2c hx hb dJ1_charAt_3b067_13 rfl ?_
  refine lv_topi (fun z13 e_z13 => ?_)
  have b_ := zi2c rfl e_z13 (by omega) (by omega)
  refine W.widen (k := 0) (n := 0) (by decide) (by decide) ?_
  have hpost : (0 ≤ z13.toInt ∧ z13.toInt ≤ 255) := (by first | with_reducible assumption | exact ⟨by omega, by omega⟩)
  have hP9 : va_P (dC, dI) vwCl [] H := hP
  have hD9 : va_D A [] := hD
  exact W.zret (v := z13) hx hb hr (zn_char ⟨by omega, by omega⟩) (fun t ht hW => ⟨⟨z13, (fun _ => 0), rfl, hpost, (fun _ => 0), (fun _ => (fun _ => 0)), (fun _ => (fun _ => 0)), by rw [ht]; exact hP9, va_K.moved hW.alike hK, hD9⟩, hS.F ht⟩) hS.2.2 dJ1_charAt_3b067_14
set_option maxHeartbeats 8000000 in
set_option maxRecDepth 100000 in
theorem sJ0_charAt_5068e_12 (l : Launch) (dC : Nat → ClassId) (dI : Nat → Nat → Nat) (adK adV : Nat → Nat) (sz : Nat) (x1 : Int32) (hx1 : 0 ≤ x1.toInt ∧ x1.toInt ≤ 3) : Met l yJ0_charAt_5068e (zw yJ0_charAt_5068e cJ0_charAt_5068e 2 (some .char)) { frames := 3, cells := 0, slots := 0, locals := 64 } (zPc dC dI adK adV [.ref (adK 12), .int x1] sz [] []) (va_Qi (fun (r : Int32) (u : Nat → Int32) => (0 ≤ r.toInt ∧ r.toInt ≤ 255)) (fun (u : Nat → Int32) (t : State) => ∃ (ww : Nat → Int64) (aa : Nat → Nat → Int32) (bb : Nat → Nat → Int64), va_P (dC, dI) vwCl [] t.heap ∧ va_K (dC, dI) vwCl [] t ∧ va_D (va_A [] sz) []) (va_A [] sz)) 0 0 (va_A [] sz) := by
  refine Met.ofW (cc := cJ0_charAt_5068e) (maxL := 2) (ret := (some .char)) (by decide) rfl ?_
  intro p e s m args below meth c s₁ B hml hv
  obtain ⟨rfl, hsz, hP, hK, hD0, hE, hZ⟩ := hv
  have hx := B.exec
  have hb := B.bytes
  have hr := B.returns
  have hG : ∀ w ∈ zG, w.before _ s = true := fun w h => atoms_spec (ws := (zw yJ0_charAt_5068e cJ0_charAt_5068e 2 (some .char))) B.pre w (List.mem_cons_of_mem _ h)
  have hown : s.vm.findClass RJ0 = some m.cls := findClass_of_methodNamed B.named
  have hlocks := B.notSynchronized

  subst hsz
  have hD := hD0.self (sz := s.heap.size)
  generalize hAe : va_A [] s.heap.size = A at hD hZ ⊢
  have hA : ∀ q : Nat, s.heap.size ≤ q → A q := fun q h => by rw [← hAe]; exact Or.inr h
  have hS : va_S A s.heap s.heap [] := va_S.rf
  have hl := lv_entry ([.ref (adK 12), .int x1]) (n := 2) (Nat.le_of_ble_eq_true rfl)
  rw [lg_entry_eq]
  generalize (lg_sl ([.ref (adK 12), .int x1]) ++ List.replicate (2 - (lg_sl ([.ref (adK 12), .int x1])).length) Slot.unset).toArray = ls at hl ⊢
  have hl : lv_has ls 2 [(0, .ref (adK 12)), (1, .int x1)] := hl
  refine lv_aload_n hx hb dJ0_charAt_5068e_0 rfl (lv_at hl 0 rfl) ?_
  have hPc := hP.sub (ws' := []) [] rfl
  have hDc := hD.sub (ws' := []) [] (by decide) rfl
  have hKc := hK.sub (tys' := []) [] rfl
  have hFc := va_free (wc := []) hD hS hA [] rfl
  refine va_calli (va_runV (As := []) (rest := []) ⟨hx, hb, hml, hown, hG⟩ (sJ0_isLatin1_aae02_12 l dC dI adK adV s.heap.size) (cwV 0 hG (zgV zv691 zv692 zv693 zv146 zv694) rfl rfl rfl (by decide +kernel) ⟨Nat.le_of_ble_eq_true rfl, Nat.le_of_ble_eq_true rfl⟩) ⟨zPc_blind, vk_recv hZ.2.2.2.1 (i := 12) (by decide) hS, zPc_pre hPc hKc hDc hE hS hFc hZ⟩ rfl rfl hl.1 rfl (lv_room (Nat.le_of_ble_eq_true rfl)) dJ0_charAt_5068e_1 ⟨Nat.le_of_ble_eq_true rfl, Nat.le_of_ble_eq_true rfl⟩) hS (fun q _ h => hFc q h) hFc (fun r1_ u1_ t H1 locs ht hvm hw hB hz1 hk1 hS => ?_)
  replace hw : (1 ≤ r1_.toInt ∧ r1_.toInt ≤ 1) := hw
  have b_ := hw
  obtain rfl : r1_ = (1 : Int32) := zeqi.mpr ((show r1_.toInt = 1 from by omega).trans zk_1.symm)
  obtain ⟨w1_, a1_, b1_, hP1, hK1, hD1⟩ := hB
  rw [ht] at hP1
  obtain ⟨hP, hD⟩ := va_join (wr := []) (w1 := []) hP hD [] [] rfl rfl (by decide) (by decide) hk1 hFc hP1 hD1
  have hP : va_P (dC, dI) vwCl [] H1 := hP.sub [] rfl
  have hD : va_D A [] := hD.sub [] (by decide) rfl
  generalize H1 = H at hP hS ⊢
  clear hz1
  refine lv_if_eq (tgt := 16) hx hb dJ0_charAt_5068e_4 (by decide) (fun c_ => absurd c_ (by decide)) (fun c_ => ?_)
  refine lv_aload_n hx hb dJ0_charAt_5068e_7 rfl (lv_at hl 0 rfl) ?_
  refine vk_getf hx hb (hZ.2.2.2.1.1 12 (by decide)).2.2.1 hS hown (hG _ zv2257) (fun _ h => h) dJ0_charAt_5068e_8 ?_
  refine lv_iload_n hx hb dJ0_charAt_5068e_11 rfl (lv_at hl 1 rfl) ?_
  have hPc := hP.sub (ws' := []) [] rfl
  have hDc := hD.sub (ws' := []) [] (by decide) rfl
  have hKc := hK.sub (tys' := []) [] rfl
  have hFc := va_free (wc := []) hD hS hA [] rfl
  refine va_calli (va_runS (As := [.ref (adV 12), .int x1]) (rest := []) ⟨hx, hb, hml, hown, hG⟩ (sJ1_charAt_3b067_12 l dC dI adK adV H.size x1 (show (0 : Int) ≤ (x1 : Int32).toInt ∧ (x1 : Int32).toInt ≤ (3 : Int) from (by first | with_reducible assumption | exact ⟨by omega, by omega⟩))) (va_cwS 2 hG (zgS zv695 zv696 zv147 zv697) rfl rfl rfl (by decide +kernel) ⟨Nat.le_of_ble_eq_true rfl, Nat.le_of_ble_eq_true rfl⟩) ⟨zPc_blind, zPc_pre hPc hKc hDc hE hS hFc hZ⟩ rfl rfl hl.1 rfl (lv_room (Nat.le_of_ble_eq_true rfl)) dJ0_charAt_5068e_12 ⟨Nat.le_of_ble_eq_true rfl, Nat.le_of_ble_eq_true rfl⟩) hS (fun q _ h => hFc q h) hFc (fun r12_ u12_ t H1 locs ht hvm hw hB hz1 hk1 hS => ?_)
  replace hw : (0 ≤ r12_.toInt ∧ r12_.toInt ≤ 255) := hw
  have b_ := hw
  obtain ⟨w12_, a12_, b12_, hP1, hK1, hD1⟩ := hB
  rw [ht] at hP1
  obtain ⟨hP, hD⟩ := va_join (wr := []) (w1 := []) hP hD [] [] rfl rfl (by decide) (by decide) hk1 hFc hP1 hD1
  have hP : va_P (dC, dI) vwCl [] H1 := hP.sub [] rfl
  have hD : va_D A [] := hD.sub [] (by decide) rfl
  generalize H1 = H at hP hS ⊢
  clear hz1
  refine W.widen (k := 0) (n := 0) (by decide) (by decide) ?_
  have hpost : (0 ≤ r12_.toInt ∧ r12_.toInt ≤ 255) := (by first | with_reducible assumption | exact ⟨by omega, by omega⟩)
  have hP9 : va_P (dC, dI) vwCl [] H := hP
  have hD9 : va_D A [] := hD
  exact W.zret (v := r12_) hx hb hr (zn_char ⟨by omega, by omega⟩) (fun t ht hW => ⟨⟨r12_, (fun _ => 0), rfl, hpost, (fun _ => 0), (fun _ => (fun _ => 0)), (fun _ => (fun _ => 0)), by rw [ht]; exact hP9, va_K.moved hW.alike hK, hD9⟩, hS.F ht⟩) hS.2.2 dJ0_charAt_5068e_15
set_option maxHeartbeats 8000000 in
set_option maxRecDepth 100000 in
theorem sX9_spells_5 (l : Launch) (dC : Nat → ClassId) (dI : Nat → Nat → Nat) (adK adV : Nat → Nat) (h0 : Nat) (h1 : Nat) (h2 : Nat) (k1 : ClassId) (sz : Nat) (v0 : Nat → Int32) (f1 : Nat → Int32) (x1 : Int32) (x2 : Int32) (hv0 : zR rg_Tape v0) (hx1 : 0 ≤ x1.toInt ∧ x1.toInt ≤ 600) (hx2 : 0 ≤ x2.toInt ∧ x2.toInt ≤ 601) : Met l yX9_spells (zw yX9_spells cX9_spells 5 (some .boolean)) { frames := 4, cells := 0, slots := 0, locals := 85 } (zPc dC dI adK adV [.ref h0, .int x1, .int x2, .ref (adK 12)] sz [(h0, .inr (9, mX9 h1 h2 v0)), (h1, zi k1 600 f1)] [(k1, .byte)]) (va_Qi (fun (r : Int32) (u : Nat → Int32) => (0 ≤ r.toInt ∧ r.toInt ≤ 1)) (fun (u : Nat → Int32) (t : State) => ∃ (ww : Nat → Int64) (aa : Nat → Nat → Int32) (bb : Nat → Nat → Int64), va_P (dC, dI) vwCl [(h0, .inr (9, mX9 h1 h2 v0)), (h1, zi k1 600 f1)] t.heap ∧ va_K (dC, dI) vwCl [(k1, .byte)] t ∧ va_D (va_A [(h0, .inr (9, mX9 h1 h2 v0)), (h1, zi k1 600 f1)] sz) [(h0, .inr (9, mX9 h1 h2 v0)), (h1, zi k1 600 f1)]) (va_A [(h0, .inr (9, mX9 h1 h2 v0)), (h1, zi k1 600 f1)] sz)) 0 0 (va_A [(h0, .inr (9, mX9 h1 h2 v0)), (h1, zi k1 600 f1)] sz) := by
  refine Met.ofW (cc := cX9_spells) (maxL := 5) (ret := (some .boolean)) (by decide) rfl ?_
  intro p e s m args below meth c s₁ B hml hv
  obtain ⟨rfl, hsz, hP, hK, hD0, hE, hZ⟩ := hv
  have hx := B.exec
  have hb := B.bytes
  have hr := B.returns
  have hG : ∀ w ∈ zG, w.before _ s = true := fun w h => atoms_spec (ws := (zw yX9_spells cX9_spells 5 (some .boolean))) B.pre w (List.mem_cons_of_mem _ h)
  have hown : s.vm.findClass RX9 = some m.cls := findClass_of_methodNamed B.named
  have hlocks := B.notSynchronized

  subst hsz
  have hD := hD0.self (sz := s.heap.size)
  generalize hAe : va_A [(h0, .inr (9, mX9 h1 h2 v0)), (h1, zi k1 600 f1)] s.heap.size = A at hD hZ ⊢
  have hA : ∀ q : Nat, s.heap.size ≤ q → A q := fun q h => by rw [← hAe]; exact Or.inr h
  have hS : va_S A s.heap s.heap [] := va_S.rf
  have hl := lv_entry ([.ref h0, .int x1, .int x2, .ref (adK 12)]) (n := 5) (Nat.le_of_ble_eq_true rfl)
  rw [lg_entry_eq]
  generalize (lg_sl ([.ref h0, .int x1, .int x2, .ref (adK 12)]) ++ List.replicate (5 - (lg_sl ([.ref h0, .int x1, .int x2, .ref (adK 12)])).length) Slot.unset).toArray = ls at hl ⊢
  have hl : lv_has ls 5 [(0, .ref h0), (1, .int x1), (2, .int x2), (3, .ref (adK 12))] := hl
  have b_ := zk_0
  have b_ := zk_1
  refine lv_iload_n hx hb dX9_spells_0 rfl (lv_at hl 2 rfl) ?_
  refine lv_iload_n hx hb dX9_spells_1 rfl (lv_at hl 1 rfl) ?_
  refine lv_isub hx hb dX9_spells_2 ?_
  refine lv_topi (fun z2 e_z2 => ?_)
  have b_ := zsub rfl rfl e_z2 (by omega) (by omega)
  refine lv_aload_n hx hb dX9_spells_3 rfl (lv_at hl 3 rfl) ?_
  have hPc := hP.sub (ws' := []) [] rfl
  have hDc := hD.sub (ws' := []) [] (by decide) rfl
  have hKc := hK.sub (tys' := []) [] rfl
  have hFc := va_free (wc := []) hD hS hA [] rfl
  refine va_calli (va_runV (As := []) (rest := [.int z2]) ⟨hx, hb, hml, hown, hG⟩ (sJ0_length_8abf5_12 l dC dI adK adV s.heap.size) (cwV 0 hG (zgV zv677 zv678 zv679 zv146 zv680) rfl rfl rfl (by decide +kernel) ⟨Nat.le_of_ble_eq_true rfl, Nat.le_of_ble_eq_true rfl⟩) ⟨zPc_blind, vk_recv hZ.2.2.2.1 (i := 12) (by decide) hS, zPc_pre hPc hKc hDc hE hS hFc hZ⟩ rfl rfl hl.1 rfl (lv_room (Nat.le_of_ble_eq_true rfl)) dX9_spells_4 ⟨Nat.le_of_ble_eq_true rfl, Nat.le_of_ble_eq_true rfl⟩) hS (fun q _ h => hFc q h) hFc (fun r4_ u4_ t H1 locs ht hvm hw hB hz1 hk1 hS => ?_)
  replace hw : (4 ≤ r4_.toInt ∧ r4_.toInt ≤ 4) := hw
  have b_ := hw
  obtain rfl : r4_ = (4 : Int32) := zeqi.mpr ((show r4_.toInt = 4 from by omega).trans zk_4.symm)
  obtain ⟨w4_, a4_, b4_, hP1, hK1, hD1⟩ := hB
  rw [ht] at hP1
  obtain ⟨hP, hD⟩ := va_join (wr := [(h0, .inr (9, mX9 h1 h2 v0)), (h1, zi k1 600 f1)]) (w1 := []) hP hD [] [0, 1] rfl rfl (by decide) (by decide) hk1 hFc hP1 hD1
  have hP : va_P (dC, dI) vwCl [(h0, .inr (9, mX9 h1 h2 v0)), (h1, zi k1 600 f1)] H1 := hP.sub [0, 1] rfl
  have hD : va_D A [(h0, .inr (9, mX9 h1 h2 v0)), (h1, zi k1 600 f1)] := hD.sub [0, 1] (by decide) rfl
  generalize H1 = H at hP hS ⊢
  clear hz1
  refine lv_icmp_ne (tgt := 22) hx hb dX9_spells_7 (by decide) (fun c_ => ?_) (fun c_ => ?_)
  · skip
    have b_ := zT_ne rfl zk_4 c_
    refine lv_iconst (v := 0) hx hb dX9_spells_22 (by decide) ?_
    refine W.widen (k := 0) (n := 0) (by decide) (by decide) ?_
    have hpost : (0 ≤ (0 : Int32).toInt ∧ (0 : Int32).toInt ≤ 1) := (by first | with_reducible assumption | exact ⟨by omega, by omega⟩)
    have hP9 : va_P (dC, dI) vwCl [(h0, .inr (9, mX9 h1 h2 v0)), (h1, zi k1 600 f1)] H := hP
    have hD9 : va_D A [(h0, .inr (9, mX9 h1 h2 v0)), (h1, zi k1 600 f1)] := hD
    exact W.zret (v := 0) hx hb hr rfl (fun t ht hW => ⟨⟨0, (fun _ => 0), rfl, hpost, (fun _ => 0), (fun _ => (fun _ => 0)), (fun _ => (fun _ => 0)), by rw [ht]; exact hP9, va_K.moved hW.alike hK, hD9⟩, hS.F ht⟩) hS.2.2 dX9_spells_23
  · skip
    have b_ := zF_ne rfl zk_4 c_
    refine lv_iload_n hx hb dX9_spells_10 rfl (lv_at hl 1 rfl) ?_
    refine lv_if_lt (tgt := 22) hx hb dX9_spells_11 (by decide) (fun c_ => False.elim (by have b_ := zT_lt rfl zk_0 c_; omega)) (fun c_ => ?_)
    have b_ := zF_lt rfl zk_0 c_
    refine lv_iload_n hx hb dX9_spells_14 rfl (lv_at hl 2 rfl) ?_
    refine lv_aload_n hx hb dX9_spells_15 rfl (lv_at hl 0 rfl) ?_
    have b_ : 0 ≤ (v0 2).toInt ∧ (v0 2).toInt ≤ 600 := hv0 2
    refine va_get (D := (dC, dI)) (ci := 9) (v := .int (v0 2)) (C := RX9) (T := TX9) (N := 4) hx hb hG zuX9 hown hK hP 0 rfl rfl 2 (by decide) (hG _ zv171) (fun _ h9 => h9) rfl dX9_spells_16 ?_
    refine lv_icmp_le (tgt := 24) hx hb dX9_spells_19 (by decide) (fun c_ => ?_) (fun c_ => ?_)
    · skip
      have b_ := zT_le rfl rfl c_
      refine lv_iconst (v := 0) hx hb dX9_spells_24 (by decide) ?_
      refine lv_istore (lv' := [(4, .int 0), (0, .ref h0), (1, .int x1), (2, .int x2), (3, .ref (adK 12))]) hx hb dX9_spells_25 hl (by decide) rfl (fun ls hl => ?_)
      refine zcutL (fun u27_ => (4 - (u27_ 0).toInt).toNat) (fun H locs ls u27_ w27_ a27_ b27_ => va_P (dC, dI) vwCl [(h0, .inr (9, mX9 h1 h2 v0)), (h1, zi k1 600 f1)] H ∧ va_D A [(h0, .inr (9, mX9 h1 h2 v0)), (h1, zi k1 600 f1)] ∧ va_S A s.heap H locs ∧ lv_has ls 5 [(0, .ref h0), (1, .int x1), (2, .int x2), (3, .ref (adK 12)), (4, .int (u27_ 0))] ∧ (0 ≤ (u27_ 0).toInt ∧ (u27_ 0).toInt ≤ 4)) (fun ls u27_ w27_ => F0 m 27 ls []) 0 0 ?_ (fun hJ27 => ?_)
      · skip
        intro H locs ls u27_ w27_ a27_ b27_ hc hJ27
        obtain ⟨hP, hD, hS, hl, b_⟩ := hc
        refine lv_iload hx hb dX9_spells_27 (lv_at hl 4 rfl) ?_
        refine lv_aload_n hx hb dX9_spells_29 rfl (lv_at hl 3 rfl) ?_
        have hPc := hP.sub (ws' := []) [] rfl
        have hDc := hD.sub (ws' := []) [] (by decide) rfl
        have hKc := hK.sub (tys' := []) [] rfl
        have hFc := va_free (wc := []) hD hS hA [] rfl
        refine va_calli (va_runV (As := []) (rest := [.int (u27_ 0)]) ⟨hx, hb, hml, hown, hG⟩ (sJ0_length_8abf5_12 l dC dI adK adV H.size) (cwV 0 hG (zgV zv677 zv678 zv679 zv146 zv680) rfl rfl rfl (by decide +kernel) ⟨Nat.le_of_ble_eq_true rfl, Nat.le_of_ble_eq_true rfl⟩) ⟨zPc_blind, vk_recv hZ.2.2.2.1 (i := 12) (by decide) hS, zPc_pre hPc hKc hDc hE hS hFc hZ⟩ rfl rfl hl.1 rfl (lv_room (Nat.le_of_ble_eq_true rfl)) dX9_spells_30 ⟨Nat.le_of_ble_eq_true rfl, Nat.le_of_ble_eq_true rfl⟩) hS (fun q _ h => hFc q h) hFc (fun r30_ u30_ t H1 locs ht hvm hw hB hz1 hk1 hS => ?_)
        replace hw : (4 ≤ r30_.toInt ∧ r30_.toInt ≤ 4) := hw
        have b_ := hw
        obtain rfl : r30_ = (4 : Int32) := zeqi.mpr ((show r30_.toInt = 4 from by omega).trans zk_4.symm)
        obtain ⟨w30_, a30_, b30_, hP1, hK1, hD1⟩ := hB
        rw [ht] at hP1
        obtain ⟨hP, hD⟩ := va_join (wr := [(h0, .inr (9, mX9 h1 h2 v0)), (h1, zi k1 600 f1)]) (w1 := []) hP hD [] [0, 1] rfl rfl (by decide) (by decide) hk1 hFc hP1 hD1
        have hP : va_P (dC, dI) vwCl [(h0, .inr (9, mX9 h1 h2 v0)), (h1, zi k1 600 f1)] H1 := hP.sub [0, 1] rfl
        have hD : va_D A [(h0, .inr (9, mX9 h1 h2 v0)), (h1, zi k1 600 f1)] := hD.sub [0, 1] (by decide) rfl
        generalize H1 = H at hP hS ⊢
        clear hz1
        refine lv_icmp_ge (tgt := 65) hx hb dX9_spells_33 (by decide) (fun c_ => ?_) (fun c_ => ?_)
        · skip
          have b_ := zT_ge rfl zk_4 c_
          refine lv_iconst (v := 1) hx hb dX9_spells_65 (by decide) ?_
          refine W.widen (k := 0) (n := 0) (by decide) (by decide) ?_
          have hpost : (0 ≤ (1 : Int32).toInt ∧ (1 : Int32).toInt ≤ 1) := (by first | with_reducible assumption | exact ⟨by omega, by omega⟩)
          have hP9 : va_P (dC, dI) vwCl [(h0, .inr (9, mX9 h1 h2 v0)), (h1, zi k1 600 f1)] H := hP
          have hD9 : va_D A [(h0, .inr (9, mX9 h1 h2 v0)), (h1, zi k1 600 f1)] := hD
          exact W.zret (v := 1) hx hb hr rfl (fun t ht hW => ⟨⟨1, (fun _ => 0), rfl, hpost, (fun _ => 0), (fun _ => (fun _ => 0)), (fun _ => (fun _ => 0)), by rw [ht]; exact hP9, va_K.moved hW.alike hK, hD9⟩, hS.F ht⟩) hS.2.2 dX9_spells_66
        · skip
          have b_ := zF_ge rfl zk_4 c_
          refine lv_aload_n hx hb dX9_spells_36 rfl (lv_at hl 0 rfl) ?_
          refine va_get (D := (dC, dI)) (ci := 9) (v := .ref h1) (C := RX9) (T := TX9) (N := 4) hx hb hG zuX9 hown hK hP 0 rfl rfl 0 (by decide) (hG _ zv169) (fun _ h9 => h9) rfl dX9_spells_37 ?_
          refine lv_iload_n hx hb dX9_spells_40 rfl (lv_at hl 1 rfl) ?_
          refine lv_iload hx hb dX9_spells_41 (lv_at hl 4 rfl) ?_
          refine lv_iadd hx hb dX9_spells_43 ?_
          refine lv_topi (fun z43 e_z43 => ?_)
          have b_ := zadd rfl rfl e_z43 (by omega) (by omega)
          refine va_bald hx hb hK hP 1 0 rfl rfl (zin_lit ⟨by omega, by omega⟩) dX9_spells_44 ?_
          refine lv_topi (fun z44 e_z44 => ?_)
          refine lv_bipush (v := 32) hx hb dX9_spells_45 (by decide) ?_
          have b_ : -2147483648 ≤ z44.toInt ∧ z44.toInt ≤ 2147483647 := ⟨zlo _, zhi _⟩
          refine lv_ior hx hb dX9_spells_47 ?_
          refine lv_topi (fun z47 e_z47 => ?_)
          refine lv_aload_n hx hb dX9_spells_48 rfl (lv_at hl 3 rfl) ?_
          refine lv_iload hx hb dX9_spells_49 (lv_at hl 4 rfl) ?_
          have hPc := hP.sub (ws' := []) [] rfl
          have hDc := hD.sub (ws' := []) [] (by decide) rfl
          have hKc := hK.sub (tys' := []) [] rfl
          have hFc := va_free (wc := []) hD hS hA [] rfl
          refine va_calli (va_runV (As := [.int (u27_ 0)]) (rest := [.int z47]) ⟨hx, hb, hml, hown, hG⟩ (sJ0_charAt_5068e_12 l dC dI adK adV H.size (u27_ 0) (show (0 : Int) ≤ ((u27_ 0) : Int32).toInt ∧ ((u27_ 0) : Int32).toInt ≤ (3 : Int) from (by first | with_reducible assumption | exact ⟨by omega, by omega⟩))) (cwV 1 hG (zgV zv687 zv688 zv689 zv146 zv690) rfl rfl rfl (by decide +kernel) ⟨Nat.le_of_ble_eq_true rfl, Nat.le_of_ble_eq_true rfl⟩) ⟨zPc_blind, vk_recv hZ.2.2.2.1 (i := 12) (by decide) hS, zPc_pre hPc hKc hDc hE hS hFc hZ⟩ rfl rfl hl.1 rfl (lv_room (Nat.le_of_ble_eq_true rfl)) dX9_spells_51 ⟨Nat.le_of_ble_eq_true rfl, Nat.le_of_ble_eq_true rfl⟩) hS (fun q _ h => hFc q h) hFc (fun r51_ u51_ t H1 locs ht hvm hw hB hz1 hk1 hS => ?_)
          replace hw : (0 ≤ r51_.toInt ∧ r51_.toInt ≤ 255) := hw
          have b_ := hw
          obtain ⟨w51_, a51_, b51_, hP1, hK1, hD1⟩ := hB
          rw [ht] at hP1
          obtain ⟨hP, hD⟩ := va_join (wr := [(h0, .inr (9, mX9 h1 h2 v0)), (h1, zi k1 600 f1)]) (w1 := []) hP hD [] [0, 1] rfl rfl (by decide) (by decide) hk1 hFc hP1 hD1
          have hP : va_P (dC, dI) vwCl [(h0, .inr (9, mX9 h1 h2 v0)), (h1, zi k1 600 f1)] H1 := hP.sub [0, 1] rfl
          have hD : va_D A [(h0, .inr (9, mX9 h1 h2 v0)), (h1, zi k1 600 f1)] := hD.sub [0, 1] (by decide) rfl
          generalize H1 = H at hP hS ⊢
          clear hz1
          have b_ : -2147483648 ≤ z47.toInt ∧ z47.toInt ≤ 2147483647 := ⟨zlo _, zhi _⟩
          refine lv_icmp_eq (tgt := 59) hx hb dX9_spells_54 (by decide) (fun c_ => ?_) (fun c_ => ?_)
          · skip
            have b_ := zT_eq rfl rfl c_
            obtain ⟨z59, e_z59⟩ : ∃ z : Int32, z = (u27_ 0) + Int32.ofInt 1 := ⟨_, rfl⟩
            have b_ := zadd (x := (u27_ 0)) (y := Int32.ofInt 1) rfl (show (Int32.ofInt 1).toInt = 1 from by decide) e_z59 (by omega) (by omega)
            refine lv_iinc (v := z59) (lv' := [(4, .int z59), (0, .ref h0), (1, .int x1), (2, .int x2), (3, .ref (adK 12))]) hx hb dX9_spells_59 hl (k := 4) rfl e_z59.symm (by decide) rfl (fun ls hl => ?_)
            refine lv_goto (tgt := 27) hx hb dX9_spells_62 (by decide) ?_
            have hc : va_P (dC, dI) vwCl [(h0, .inr (9, mX9 h1 h2 v0)), (h1, zi k1 600 f1)] H ∧ va_D A [(h0, .inr (9, mX9 h1 h2 v0)), (h1, zi k1 600 f1)] ∧ va_S A s.heap H locs ∧ lv_has ls 5 [(0, .ref h0), (1, .int x1), (2, .int x2), (3, .ref (adK 12)), (4, .int z59)] ∧ (0 ≤ z59.toInt ∧ z59.toInt ≤ 4) := ⟨hP, hD, hS, lv_sub hl [1, 2, 3, 4, 0] rfl, (by first | with_reducible assumption | exact ⟨by omega, by omega⟩)⟩
            exact hJ27 H locs ls (fun i => ([z59] : List (Int32)).getD i 0) (fun _ => 0) (fun _ => (fun _ => 0)) (fun _ => (fun _ => 0)) hc (show (4 - z59.toInt).toNat < (4 - (u27_ 0).toInt).toNat from by omega)
          · skip
            have b_ := zF_eq rfl rfl c_
            refine lv_iconst (v := 0) hx hb dX9_spells_57 (by decide) ?_
            refine W.widen (k := 0) (n := 0) (by decide) (by decide) ?_
            have hpost : (0 ≤ (0 : Int32).toInt ∧ (0 : Int32).toInt ≤ 1) := (by first | with_reducible assumption | exact ⟨by omega, by omega⟩)
            have hP9 : va_P (dC, dI) vwCl [(h0, .inr (9, mX9 h1 h2 v0)), (h1, zi k1 600 f1)] H := hP
            have hD9 : va_D A [(h0, .inr (9, mX9 h1 h2 v0)), (h1, zi k1 600 f1)] := hD
            exact W.zret (v := 0) hx hb hr rfl (fun t ht hW => ⟨⟨0, (fun _ => 0), rfl, hpost, (fun _ => 0), (fun _ => (fun _ => 0)), (fun _ => (fun _ => 0)), by rw [ht]; exact hP9, va_K.moved hW.alike hK, hD9⟩, hS.F ht⟩) hS.2.2 dX9_spells_58
      · skip
        have hc : va_P (dC, dI) vwCl [(h0, .inr (9, mX9 h1 h2 v0)), (h1, zi k1 600 f1)] H ∧ va_D A [(h0, .inr (9, mX9 h1 h2 v0)), (h1, zi k1 600 f1)] ∧ va_S A s.heap H locs ∧ lv_has ls 5 [(0, .ref h0), (1, .int x1), (2, .int x2), (3, .ref (adK 12)), (4, .int 0)] ∧ (0 ≤ (0 : Int32).toInt ∧ (0 : Int32).toInt ≤ 4) := ⟨hP, hD, hS, lv_sub hl [1, 2, 3, 4, 0] rfl, (by first | with_reducible assumption | exact ⟨by omega, by omega⟩)⟩
        exact hJ27 H locs ls (fun i => ([0] : List (Int32)).getD i 0) (fun _ => 0) (fun _ => (fun _ => 0)) (fun _ => (fun _ => 0)) hc
    · skip
      have b_ := zF_le rfl rfl c_
      refine lv_iconst (v := 0) hx hb dX9_spells_22 (by decide) ?_
      refine W.widen (k := 0) (n := 0) (by decide) (by decide) ?_
      have hpost : (0 ≤ (0 : Int32).toInt ∧ (0 : Int32).toInt ≤ 1) := (by first | with_reducible assumption | exact ⟨by omega, by omega⟩)
      have hP9 : va_P (dC, dI) vwCl [(h0, .inr (9, mX9 h1 h2 v0)), (h1, zi k1 600 f1)] H := hP
      have hD9 : va_D A [(h0, .inr (9, mX9 h1 h2 v0)), (h1, zi k1 600 f1)] := hD
      exact W.zret (v := 0) hx hb hr rfl (fun t ht hW => ⟨⟨0, (fun _ => 0), rfl, hpost, (fun _ => 0), (fun _ => (fun _ => 0)), (fun _ => (fun _ => 0)), by rw [ht]; exact hP9, va_K.moved hW.alike hK, hD9⟩, hS.F ht⟩) hS.2.2 dX9_spells_23
set_option maxHeartbeats 8000000 in
set_option maxRecDepth 100000 in
theorem sX4_sortOfRun_0 (l : Launch) (dC : Nat → ClassId) (dI : Nat → Nat → Nat) (adK adV : Nat → Nat) (h0 : Nat) (h1 : Nat) (h2 : Nat) (h4 : Nat) (h11 : Nat) (h18 : Nat) (h3 : Nat) (k2 : ClassId) (sz : Nat) (v0 : Nat → Int32) (v1 : Nat → Int32) (f2 : Nat → Int32) (hv0 : zR rg_Parser v0) (hv1 : zR rg_Tape v1) (hp0_ : 0 ≤ (v0 5).toInt ∧ (v0 5).toInt ≤ 599 ∧ 0 ≤ (v0 6).toInt ∧ (v0 6).toInt ≤ 601) : Met l yX4_sortOfRun (zw yX4_sortOfRun cX4_sortOfRun 3 (some .int)) { frames := 5, cells := 0, slots := 0, locals := 109 } (zPc dC dI adK adV [.ref h0] sz [(h0, .inr (4, mX4 h1 h4 h11 h18 v0)), (h1, .inr (9, mX9 h2 h3 v1)), (h2, zi k2 600 f2)] [(k2, .byte)]) (va_Qi (fun (r : Int32) (u : Nat → Int32) => (257 ≤ r.toInt ∧ r.toInt ≤ 263)) (fun (u : Nat → Int32) (t : State) => ∃ (ww : Nat → Int64) (aa : Nat → Nat → Int32) (bb : Nat → Nat → Int64), va_P (dC, dI) vwCl [(h0, .inr (4, mX4 h1 h4 h11 h18 (upd v0 6 (u 0)))), (h1, .inr (9, mX9 h2 h3 v1)), (h2, zi k2 600 f2)] t.heap ∧ va_K (dC, dI) vwCl [(k2, .byte)] t ∧ va_D (va_A [(h0, .inr (4, mX4 h1 h4 h11 h18 v0)), (h1, .inr (9, mX9 h2 h3 v1)), (h2, zi k2 600 f2)] sz) [(h0, .inr (4, mX4 h1 h4 h11 h18 (upd v0 6 (u 0)))), (h1, .inr (9, mX9 h2 h3 v1)), (h2, zi k2 600 f2)]) (va_A [(h0, .inr (4, mX4 h1 h4 h11 h18 v0)), (h1, .inr (9, mX9 h2 h3 v1)), (h2, zi k2 600 f2)] sz)) 0 0 (va_A [(h0, .inr (4, mX4 h1 h4 h11 h18 v0)), (h1, .inr (9, mX9 h2 h3 v1)), (h2, zi k2 600 f2)] sz) := by
  refine Met.ofW (cc := cX4_sortOfRun) (maxL := 3) (ret := (some .int)) (by decide) rfl ?_
  intro p e s m args below meth c s₁ B hml hv
  obtain ⟨rfl, hsz, hP, hK, hD0, hE, hZ⟩ := hv
  have hx := B.exec
  have hb := B.bytes
  have hr := B.returns
  have hG : ∀ w ∈ zG, w.before _ s = true := fun w h => atoms_spec (ws := (zw yX4_sortOfRun cX4_sortOfRun 3 (some .int))) B.pre w (List.mem_cons_of_mem _ h)
  have hown : s.vm.findClass RX4 = some m.cls := findClass_of_methodNamed B.named
  have hlocks := B.notSynchronized

  subst hsz
  have hD := hD0.self (sz := s.heap.size)
  generalize hAe : va_A [(h0, .inr (4, mX4 h1 h4 h11 h18 v0)), (h1, .inr (9, mX9 h2 h3 v1)), (h2, zi k2 600 f2)] s.heap.size = A at hD hZ ⊢
  have hA : ∀ q : Nat, s.heap.size ≤ q → A q := fun q h => by rw [← hAe]; exact Or.inr h
  have hS : va_S A s.heap s.heap [] := va_S.rf
  have hl := lv_entry ([.ref h0]) (n := 3) (Nat.le_of_ble_eq_true rfl)
  rw [lg_entry_eq]
  generalize (lg_sl ([.ref h0]) ++ List.replicate (3 - (lg_sl ([.ref h0])).length) Slot.unset).toArray = ls at hl ⊢
  have hl : lv_has ls 3 [(0, .ref h0)] := hl
  have b_ := zk_257
  have b_ := zk_258
  have b_ := zk_259
  have b_ := zk_260
  have b_ := zk_261
  have b_ := zk_262
  have b_ := zk_263
  have b_ : -2147483648 ≤ (v0 5).toInt ∧ (v0 5).toInt ≤ 2147483647 := ⟨zlo _, zhi _⟩
  have b_ : -2147483648 ≤ (v0 6).toInt ∧ (v0 6).toInt ≤ 2147483647 := ⟨zlo _, zhi _⟩
  refine lv_aload_n hx hb dX4_sortOfRun_0 rfl (lv_at hl 0 rfl) ?_
  refine va_get (D := (dC, dI)) (ci := 4) (v := .ref h1) (C := RX4) (T := TX4) (N := 12) hx hb hG zuX4 hown hK hP 0 rfl rfl 0 (by decide) (hG _ zv408) (fun _ h9 => h9) rfl dX4_sortOfRun_1 ?_
  refine lv_aload_n hx hb dX4_sortOfRun_4 rfl (lv_at hl 0 rfl) ?_
  refine va_get (D := (dC, dI)) (ci := 4) (v := .int (v0 5)) (C := RX4) (T := TX4) (N := 12) hx hb hG zuX4 hown hK hP 0 rfl rfl 5 (by decide) (hG _ zv413) (fun _ h9 => h9) rfl dX4_sortOfRun_5 ?_
  refine lv_aload_n hx hb dX4_sortOfRun_8 rfl (lv_at hl 0 rfl) ?_
  refine va_get (D := (dC, dI)) (ci := 4) (v := .int (v0 6)) (C := RX4) (T := TX4) (N := 12) hx hb hG zuX4 hown hK hP 0 rfl rfl 6 (by decide) (hG _ zv414) (fun _ h9 => h9) rfl dX4_sortOfRun_9 ?_
  refine va_ldcS hx hb hown (zE_K7 hE) dX4_sortOfRun_12 ?_
  have hPc := hP.sub (ws' := [(h1, .inr (9, mX9 h2 h3 v1)), (h2, zi k2 600 f2)]) [1, 2] rfl
  have hDc := hD.sub (ws' := [(h1, .inr (9, mX9 h2 h3 v1)), (h2, zi k2 600 f2)]) [1, 2] (by decide) rfl
  have hKc := hK.sub (tys' := [(k2, .byte)]) [0] rfl
  have hFc := va_free (wc := [(h1, .inr (9, mX9 h2 h3 v1)), (h2, zi k2 600 f2)]) hD hS hA [1, 2] rfl
  refine va_calli (va_runV (As := [.int (v0 5), .int (v0 6), .ref (adK 7)]) (rest := []) ⟨hx, hb, hml, hown, hG⟩ (sX9_spells_0 l dC dI adK adV h1 h2 h3 k2 s.heap.size v1 f2 (v0 5) (v0 6) hv1 (show (0 : Int) ≤ ((v0 5) : Int32).toInt ∧ ((v0 5) : Int32).toInt ≤ (600 : Int) from (by first | with_reducible assumption | exact ⟨by omega, by omega⟩)) (show (0 : Int) ≤ ((v0 6) : Int32).toInt ∧ ((v0 6) : Int32).toInt ≤ (601 : Int) from (by first | with_reducible assumption | exact ⟨by omega, by omega⟩))) (cwV 3 hG (zgV zv1043 zv1044 zv1045 zv130 zv1046) rfl rfl rfl (by decide +kernel) ⟨Nat.le_of_ble_eq_true rfl, Nat.le_of_ble_eq_true rfl⟩) ⟨zPc_blind, va_recv hKc hPc (ci := 9) (q0 := 0) rfl rfl, zPc_pre hPc hKc hDc hE hS hFc hZ⟩ rfl rfl hl.1 rfl (lv_room (Nat.le_of_ble_eq_true rfl)) dX4_sortOfRun_14 ⟨Nat.le_of_ble_eq_true rfl, Nat.le_of_ble_eq_true rfl⟩) hS (fun q _ h => hFc q h) hFc (fun r14_ u14_ t H1 locs ht hvm hw hB hz1 hk1 hS => ?_)
  replace hw : (0 ≤ r14_.toInt ∧ r14_.toInt ≤ 1) := hw
  have b_ := hw
  obtain ⟨w14_, a14_, b14_, hP1, hK1, hD1⟩ := hB
  rw [ht] at hP1
  obtain ⟨hP, hD⟩ := va_join (wr := [(h0, .inr (4, mX4 h1 h4 h11 h18 v0))]) (w1 := [(h1, .inr (9, mX9 h2 h3 v1)), (h2, zi k2 600 f2)]) hP hD [1, 2] [0] rfl rfl (by decide) (by decide) hk1 hFc hP1 hD1
  have hP : va_P (dC, dI) vwCl [(h0, .inr (4, mX4 h1 h4 h11 h18 v0)), (h1, .inr (9, mX9 h2 h3 v1)), (h2, zi k2 600 f2)] H1 := hP.sub [0, 1, 2] rfl
  have hD : va_D A [(h0, .inr (4, mX4 h1 h4 h11 h18 v0)), (h1, .inr (9, mX9 h2 h3 v1)), (h2, zi k2 600 f2)] := hD.sub [0, 1, 2] (by decide) rfl
  generalize H1 = H at hP hS ⊢
  clear hz1
  refine lv_if_eq (tgt := 24) hx hb dX4_sortOfRun_17 (by decide) (fun c_ => ?_) (fun c_ => ?_)
  · skip
    have b_ := zT_eq rfl zk_0 c_
    refine lv_aload_n hx hb dX4_sortOfRun_24 rfl (lv_at hl 0 rfl) ?_
    refine va_get (D := (dC, dI)) (ci := 4) (v := .ref h1) (C := RX4) (T := TX4) (N := 12) hx hb hG zuX4 hown hK hP 0 rfl rfl 0 (by decide) (hG _ zv408) (fun _ h9 => h9) rfl dX4_sortOfRun_25 ?_
    refine lv_aload_n hx hb dX4_sortOfRun_28 rfl (lv_at hl 0 rfl) ?_
    refine va_get (D := (dC, dI)) (ci := 4) (v := .int (v0 5)) (C := RX4) (T := TX4) (N := 12) hx hb hG zuX4 hown hK hP 0 rfl rfl 5 (by decide) (hG _ zv413) (fun _ h9 => h9) rfl dX4_sortOfRun_29 ?_
    refine lv_aload_n hx hb dX4_sortOfRun_32 rfl (lv_at hl 0 rfl) ?_
    refine va_get (D := (dC, dI)) (ci := 4) (v := .int (v0 6)) (C := RX4) (T := TX4) (N := 12) hx hb hG zuX4 hown hK hP 0 rfl rfl 6 (by decide) (hG _ zv414) (fun _ h9 => h9) rfl dX4_sortOfRun_33 ?_
    refine va_ldcS hx hb hown (zE_K8 hE) dX4_sortOfRun_36 ?_
    have hPc := hP.sub (ws' := [(h1, .inr (9, mX9 h2 h3 v1)), (h2, zi k2 600 f2)]) [1, 2] rfl
    have hDc := hD.sub (ws' := [(h1, .inr (9, mX9 h2 h3 v1)), (h2, zi k2 600 f2)]) [1, 2] (by decide) rfl
    have hKc := hK.sub (tys' := [(k2, .byte)]) [0] rfl
    have hFc := va_free (wc := [(h1, .inr (9, mX9 h2 h3 v1)), (h2, zi k2 600 f2)]) hD hS hA [1, 2] rfl
    refine va_calli (va_runV (As := [.int (v0 5), .int (v0 6), .ref (adK 8)]) (rest := []) ⟨hx, hb, hml, hown, hG⟩ (sX9_spells_1 l dC dI adK adV h1 h2 h3 k2 H.size v1 f2 (v0 5) (v0 6) hv1 (show (0 : Int) ≤ ((v0 5) : Int32).toInt ∧ ((v0 5) : Int32).toInt ≤ (600 : Int) from (by first | with_reducible assumption | exact ⟨by omega, by omega⟩)) (show (0 : Int) ≤ ((v0 6) : Int32).toInt ∧ ((v0 6) : Int32).toInt ≤ (601 : Int) from (by first | with_reducible assumption | exact ⟨by omega, by omega⟩))) (cwV 3 hG (zgV zv1043 zv1044 zv1045 zv130 zv1046) rfl rfl rfl (by decide +kernel) ⟨Nat.le_of_ble_eq_true rfl, Nat.le_of_ble_eq_true rfl⟩) ⟨zPc_blind, va_recv hKc hPc (ci := 9) (q0 := 0) rfl rfl, zPc_pre hPc hKc hDc hE hS hFc hZ⟩ rfl rfl hl.1 rfl (lv_room (Nat.le_of_ble_eq_true rfl)) dX4_sortOfRun_38 ⟨Nat.le_of_ble_eq_true rfl, Nat.le_of_ble_eq_true rfl⟩) hS (fun q _ h => hFc q h) hFc (fun r38_ u38_ t H1 locs ht hvm hw hB hz1 hk1 hS => ?_)
    replace hw : (0 ≤ r38_.toInt ∧ r38_.toInt ≤ 1) := hw
    have b_ := hw
    obtain ⟨w38_, a38_, b38_, hP1, hK1, hD1⟩ := hB
    rw [ht] at hP1
    obtain ⟨hP, hD⟩ := va_join (wr := [(h0, .inr (4, mX4 h1 h4 h11 h18 v0))]) (w1 := [(h1, .inr (9, mX9 h2 h3 v1)), (h2, zi k2 600 f2)]) hP hD [1, 2] [0] rfl rfl (by decide) (by decide) hk1 hFc hP1 hD1
    have hP : va_P (dC, dI) vwCl [(h0, .inr (4, mX4 h1 h4 h11 h18 v0)), (h1, .inr (9, mX9 h2 h3 v1)), (h2, zi k2 600 f2)] H1 := hP.sub [0, 1, 2] rfl
    have hD : va_D A [(h0, .inr (4, mX4 h1 h4 h11 h18 v0)), (h1, .inr (9, mX9 h2 h3 v1)), (h2, zi k2 600 f2)] := hD.sub [0, 1, 2] (by decide) rfl
    generalize H1 = H at hP hS ⊢
    clear hz1
    refine lv_if_eq (tgt := 48) hx hb dX4_sortOfRun_41 (by decide) (fun c_ => ?_) (fun c_ => ?_)
    · skip
      have b_ := zT_eq rfl zk_0 c_
      refine lv_aload_n hx hb dX4_sortOfRun_48 rfl (lv_at hl 0 rfl) ?_
      refine va_get (D := (dC, dI)) (ci := 4) (v := .ref h1) (C := RX4) (T := TX4) (N := 12) hx hb hG zuX4 hown hK hP 0 rfl rfl 0 (by decide) (hG _ zv408) (fun _ h9 => h9) rfl dX4_sortOfRun_49 ?_
      refine lv_aload_n hx hb dX4_sortOfRun_52 rfl (lv_at hl 0 rfl) ?_
      refine va_get (D := (dC, dI)) (ci := 4) (v := .int (v0 5)) (C := RX4) (T := TX4) (N := 12) hx hb hG zuX4 hown hK hP 0 rfl rfl 5 (by decide) (hG _ zv413) (fun _ h9 => h9) rfl dX4_sortOfRun_53 ?_
      refine lv_aload_n hx hb dX4_sortOfRun_56 rfl (lv_at hl 0 rfl) ?_
      refine va_get (D := (dC, dI)) (ci := 4) (v := .int (v0 6)) (C := RX4) (T := TX4) (N := 12) hx hb hG zuX4 hown hK hP 0 rfl rfl 6 (by decide) (hG _ zv414) (fun _ h9 => h9) rfl dX4_sortOfRun_57 ?_
      refine va_ldcS hx hb hown (zE_K9 hE) dX4_sortOfRun_60 ?_
      have hPc := hP.sub (ws' := [(h1, .inr (9, mX9 h2 h3 v1)), (h2, zi k2 600 f2)]) [1, 2] rfl
      have hDc := hD.sub (ws' := [(h1, .inr (9, mX9 h2 h3 v1)), (h2, zi k2 600 f2)]) [1, 2] (by decide) rfl
      have hKc := hK.sub (tys' := [(k2, .byte)]) [0] rfl
      have hFc := va_free (wc := [(h1, .inr (9, mX9 h2 h3 v1)), (h2, zi k2 600 f2)]) hD hS hA [1, 2] rfl
      refine va_calli (va_runV (As := [.int (v0 5), .int (v0 6), .ref (adK 9)]) (rest := []) ⟨hx, hb, hml, hown, hG⟩ (sX9_spells_2 l dC dI adK adV h1 h2 h3 k2 H.size v1 f2 (v0 5) (v0 6) hv1 (show (0 : Int) ≤ ((v0 5) : Int32).toInt ∧ ((v0 5) : Int32).toInt ≤ (600 : Int) from (by first | with_reducible assumption | exact ⟨by omega, by omega⟩)) (show (0 : Int) ≤ ((v0 6) : Int32).toInt ∧ ((v0 6) : Int32).toInt ≤ (601 : Int) from (by first | with_reducible assumption | exact ⟨by omega, by omega⟩))) (cwV 3 hG (zgV zv1043 zv1044 zv1045 zv130 zv1046) rfl rfl rfl (by decide +kernel) ⟨Nat.le_of_ble_eq_true rfl, Nat.le_of_ble_eq_true rfl⟩) ⟨zPc_blind, va_recv hKc hPc (ci := 9) (q0 := 0) rfl rfl, zPc_pre hPc hKc hDc hE hS hFc hZ⟩ rfl rfl hl.1 rfl (lv_room (Nat.le_of_ble_eq_true rfl)) dX4_sortOfRun_62 ⟨Nat.le_of_ble_eq_true rfl, Nat.le_of_ble_eq_true rfl⟩) hS (fun q _ h => hFc q h) hFc (fun r62_ u62_ t H1 locs ht hvm hw hB hz1 hk1 hS => ?_)
      replace hw : (0 ≤ r62_.toInt ∧ r62_.toInt ≤ 1) := hw
      have b_ := hw
      obtain ⟨w62_, a62_, b62_, hP1, hK1, hD1⟩ := hB
      rw [ht] at hP1
      obtain ⟨hP, hD⟩ := va_join (wr := [(h0, .inr (4, mX4 h1 h4 h11 h18 v0))]) (w1 := [(h1, .inr (9, mX9 h2 h3 v1)), (h2, zi k2 600 f2)]) hP hD [1, 2] [0] rfl rfl (by decide) (by decide) hk1 hFc hP1 hD1
      have hP : va_P (dC, dI) vwCl [(h0, .inr (4, mX4 h1 h4 h11 h18 v0)), (h1, .inr (9, mX9 h2 h3 v1)), (h2, zi k2 600 f2)] H1 := hP.sub [0, 1, 2] rfl
      have hD : va_D A [(h0, .inr (4, mX4 h1 h4 h11 h18 v0)), (h1, .inr (9, mX9 h2 h3 v1)), (h2, zi k2 600 f2)] := hD.sub [0, 1, 2] (by decide) rfl
      generalize H1 = H at hP hS ⊢
      clear hz1
      refine lv_if_eq (tgt := 72) hx hb dX4_sortOfRun_65 (by decide) (fun c_ => ?_) (fun c_ => ?_)
      · skip
        have b_ := zT_eq rfl zk_0 c_
        refine lv_aload_n hx hb dX4_sortOfRun_72 rfl (lv_at hl 0 rfl) ?_
        refine va_get (D := (dC, dI)) (ci := 4) (v := .ref h1) (C := RX4) (T := TX4) (N := 12) hx hb hG zuX4 hown hK hP 0 rfl rfl 0 (by decide) (hG _ zv408) (fun _ h9 => h9) rfl dX4_sortOfRun_73 ?_
        refine lv_aload_n hx hb dX4_sortOfRun_76 rfl (lv_at hl 0 rfl) ?_
        refine va_get (D := (dC, dI)) (ci := 4) (v := .int (v0 5)) (C := RX4) (T := TX4) (N := 12) hx hb hG zuX4 hown hK hP 0 rfl rfl 5 (by decide) (hG _ zv413) (fun _ h9 => h9) rfl dX4_sortOfRun_77 ?_
        refine lv_aload_n hx hb dX4_sortOfRun_80 rfl (lv_at hl 0 rfl) ?_
        refine va_get (D := (dC, dI)) (ci := 4) (v := .int (v0 6)) (C := RX4) (T := TX4) (N := 12) hx hb hG zuX4 hown hK hP 0 rfl rfl 6 (by decide) (hG _ zv414) (fun _ h9 => h9) rfl dX4_sortOfRun_81 ?_
        refine va_ldcS hx hb hown (zE_K10 hE) dX4_sortOfRun_84 ?_
        have hPc := hP.sub (ws' := [(h1, .inr (9, mX9 h2 h3 v1)), (h2, zi k2 600 f2)]) [1, 2] rfl
        have hDc := hD.sub (ws' := [(h1, .inr (9, mX9 h2 h3 v1)), (h2, zi k2 600 f2)]) [1, 2] (by decide) rfl
        have hKc := hK.sub (tys' := [(k2, .byte)]) [0] rfl
        have hFc := va_free (wc := [(h1, .inr (9, mX9 h2 h3 v1)), (h2, zi k2 600 f2)]) hD hS hA [1, 2] rfl
        refine va_calli (va_runV (As := [.int (v0 5), .int (v0 6), .ref (adK 10)]) (rest := []) ⟨hx, hb, hml, hown, hG⟩ (sX9_spells_3 l dC dI adK adV h1 h2 h3 k2 H.size v1 f2 (v0 5) (v0 6) hv1 (show (0 : Int) ≤ ((v0 5) : Int32).toInt ∧ ((v0 5) : Int32).toInt ≤ (600 : Int) from (by first | with_reducible assumption | exact ⟨by omega, by omega⟩)) (show (0 : Int) ≤ ((v0 6) : Int32).toInt ∧ ((v0 6) : Int32).toInt ≤ (601 : Int) from (by first | with_reducible assumption | exact ⟨by omega, by omega⟩))) (cwV 3 hG (zgV zv1043 zv1044 zv1045 zv130 zv1046) rfl rfl rfl (by decide +kernel) ⟨Nat.le_of_ble_eq_true rfl, Nat.le_of_ble_eq_true rfl⟩) ⟨zPc_blind, va_recv hKc hPc (ci := 9) (q0 := 0) rfl rfl, zPc_pre hPc hKc hDc hE hS hFc hZ⟩ rfl rfl hl.1 rfl (lv_room (Nat.le_of_ble_eq_true rfl)) dX4_sortOfRun_86 ⟨Nat.le_of_ble_eq_true rfl, Nat.le_of_ble_eq_true rfl⟩) hS (fun q _ h => hFc q h) hFc (fun r86_ u86_ t H1 locs ht hvm hw hB hz1 hk1 hS => ?_)
        replace hw : (0 ≤ r86_.toInt ∧ r86_.toInt ≤ 1) := hw
        have b_ := hw
        obtain ⟨w86_, a86_, b86_, hP1, hK1, hD1⟩ := hB
        rw [ht] at hP1
        obtain ⟨hP, hD⟩ := va_join (wr := [(h0, .inr (4, mX4 h1 h4 h11 h18 v0))]) (w1 := [(h1, .inr (9, mX9 h2 h3 v1)), (h2, zi k2 600 f2)]) hP hD [1, 2] [0] rfl rfl (by decide) (by decide) hk1 hFc hP1 hD1
        have hP : va_P (dC, dI) vwCl [(h0, .inr (4, mX4 h1 h4 h11 h18 v0)), (h1, .inr (9, mX9 h2 h3 v1)), (h2, zi k2 600 f2)] H1 := hP.sub [0, 1, 2] rfl
        have hD : va_D A [(h0, .inr (4, mX4 h1 h4 h11 h18 v0)), (h1, .inr (9, mX9 h2 h3 v1)), (h2, zi k2 600 f2)] := hD.sub [0, 1, 2] (by decide) rfl
        generalize H1 = H at hP hS ⊢
        clear hz1
        refine lv_if_eq (tgt := 96) hx hb dX4_sortOfRun_89 (by decide) (fun c_ => ?_) (fun c_ => ?_)
        · skip
          have b_ := zT_eq rfl zk_0 c_
          refine lv_aload_n hx hb dX4_sortOfRun_96 rfl (lv_at hl 0 rfl) ?_
          refine va_get (D := (dC, dI)) (ci := 4) (v := .ref h1) (C := RX4) (T := TX4) (N := 12) hx hb hG zuX4 hown hK hP 0 rfl rfl 0 (by decide) (hG _ zv408) (fun _ h9 => h9) rfl dX4_sortOfRun_97 ?_
          refine lv_aload_n hx hb dX4_sortOfRun_100 rfl (lv_at hl 0 rfl) ?_
          refine va_get (D := (dC, dI)) (ci := 4) (v := .int (v0 5)) (C := RX4) (T := TX4) (N := 12) hx hb hG zuX4 hown hK hP 0 rfl rfl 5 (by decide) (hG _ zv413) (fun _ h9 => h9) rfl dX4_sortOfRun_101 ?_
          refine lv_aload_n hx hb dX4_sortOfRun_104 rfl (lv_at hl 0 rfl) ?_
          refine va_get (D := (dC, dI)) (ci := 4) (v := .int (v0 6)) (C := RX4) (T := TX4) (N := 12) hx hb hG zuX4 hown hK hP 0 rfl rfl 6 (by decide) (hG _ zv414) (fun _ h9 => h9) rfl dX4_sortOfRun_105 ?_
          refine va_ldcS hx hb hown (zE_K11 hE) dX4_sortOfRun_108 ?_
          have hPc := hP.sub (ws' := [(h1, .inr (9, mX9 h2 h3 v1)), (h2, zi k2 600 f2)]) [1, 2] rfl
          have hDc := hD.sub (ws' := [(h1, .inr (9, mX9 h2 h3 v1)), (h2, zi k2 600 f2)]) [1, 2] (by decide) rfl
          have hKc := hK.sub (tys' := [(k2, .byte)]) [0] rfl
          have hFc := va_free (wc := [(h1, .inr (9, mX9 h2 h3 v1)), (h2, zi k2 600 f2)]) hD hS hA [1, 2] rfl
          refine va_calli (va_runV (As := [.int (v0 5), .int (v0 6), .ref (adK 11)]) (rest := []) ⟨hx, hb, hml, hown, hG⟩ (sX9_spells_4 l dC dI adK adV h1 h2 h3 k2 H.size v1 f2 (v0 5) (v0 6) hv1 (show (0 : Int) ≤ ((v0 5) : Int32).toInt ∧ ((v0 5) : Int32).toInt ≤ (600 : Int) from (by first | with_reducible assumption | exact ⟨by omega, by omega⟩)) (show (0 : Int) ≤ ((v0 6) : Int32).toInt ∧ ((v0 6) : Int32).toInt ≤ (601 : Int) from (by first | with_reducible assumption | exact ⟨by omega, by omega⟩))) (cwV 3 hG (zgV zv1043 zv1044 zv1045 zv130 zv1046) rfl rfl rfl (by decide +kernel) ⟨Nat.le_of_ble_eq_true rfl, Nat.le_of_ble_eq_true rfl⟩) ⟨zPc_blind, va_recv hKc hPc (ci := 9) (q0 := 0) rfl rfl, zPc_pre hPc hKc hDc hE hS hFc hZ⟩ rfl rfl hl.1 rfl (lv_room (Nat.le_of_ble_eq_true rfl)) dX4_sortOfRun_110 ⟨Nat.le_of_ble_eq_true rfl, Nat.le_of_ble_eq_true rfl⟩) hS (fun q _ h => hFc q h) hFc (fun r110_ u110_ t H1 locs ht hvm hw hB hz1 hk1 hS => ?_)
          replace hw : (0 ≤ r110_.toInt ∧ r110_.toInt ≤ 1) := hw
          have b_ := hw
          obtain ⟨w110_, a110_, b110_, hP1, hK1, hD1⟩ := hB
          rw [ht] at hP1
          obtain ⟨hP, hD⟩ := va_join (wr := [(h0, .inr (4, mX4 h1 h4 h11 h18 v0))]) (w1 := [(h1, .inr (9, mX9 h2 h3 v1)), (h2, zi k2 600 f2)]) hP hD [1, 2] [0] rfl rfl (by decide) (by decide) hk1 hFc hP1 hD1
          have hP : va_P (dC, dI) vwCl [(h0, .inr (4, mX4 h1 h4 h11 h18 v0)), (h1, .inr (9, mX9 h2 h3 v1)), (h2, zi k2 600 f2)] H1 := hP.sub [0, 1, 2] rfl
          have hD : va_D A [(h0, .inr (4, mX4 h1 h4 h11 h18 v0)), (h1, .inr (9, mX9 h2 h3 v1)), (h2, zi k2 600 f2)] := hD.sub [0, 1, 2] (by decide) rfl
          generalize H1 = H at hP hS ⊢
          clear hz1
          refine lv_istore_n (lv' := [(1, .int r110_), (0, .ref h0)]) hx hb dX4_sortOfRun_113 rfl hl (by decide) rfl (fun ls hl => ?_)
          refine lv_aload_n hx hb dX4_sortOfRun_114 rfl (lv_at hl 1 rfl) ?_
          refine va_get (D := (dC, dI)) (ci := 4) (v := .ref h1) (C := RX4) (T := TX4) (N := 12) hx hb hG zuX4 hown hK hP 0 rfl rfl 0 (by decide) (hG _ zv408) (fun _ h9 => h9) rfl dX4_sortOfRun_115 ?_
          refine lv_aload_n hx hb dX4_sortOfRun_118 rfl (lv_at hl 1 rfl) ?_
          refine va_get (D := (dC, dI)) (ci := 4) (v := .int (v0 6)) (C := RX4) (T := TX4) (N := 12) hx hb hG zuX4 hown hK hP 0 rfl rfl 6 (by decide) (hG _ zv414) (fun _ h9 => h9) rfl dX4_sortOfRun_119 ?_
          have hPc := hP.sub (ws' := [(h1, .inr (9, mX9 h2 h3 v1)), (h2, zi k2 600 f2)]) [1, 2] rfl
          have hDc := hD.sub (ws' := [(h1, .inr (9, mX9 h2 h3 v1)), (h2, zi k2 600 f2)]) [1, 2] (by decide) rfl
          have hKc := hK.sub (tys' := [(k2, .byte)]) [0] rfl
          have hFc := va_free (wc := [(h1, .inr (9, mX9 h2 h3 v1)), (h2, zi k2 600 f2)]) hD hS hA [1, 2] rfl
          refine va_calli (va_runV (As := [.int (v0 6)]) (rest := []) ⟨hx, hb, hml, hown, hG⟩ (sX9_behindBlanks_0 l dC dI adK adV h1 h2 h3 k2 H.size v1 f2 (v0 6) hv1) (cwV 1 hG (zgV zv1025 zv1026 zv1027 zv130 zv1028) rfl rfl rfl (by decide +kernel) ⟨Nat.le_of_ble_eq_true rfl, Nat.le_of_ble_eq_true rfl⟩) ⟨zPc_blind, va_recv hKc hPc (ci := 9) (q0 := 0) rfl rfl, zPc_pre hPc hKc hDc hE hS hFc hZ⟩ rfl rfl hl.1 rfl (lv_room (Nat.le_of_ble_eq_true rfl)) dX4_sortOfRun_122 ⟨Nat.le_of_ble_eq_true rfl, Nat.le_of_ble_eq_true rfl⟩) hS (fun q _ h => hFc q h) hFc (fun r122_ u122_ t H1 locs ht hvm hw hB hz1 hk1 hS => ?_)
          replace hw : (0 ≤ r122_.toInt ∧ r122_.toInt ≤ 2147483647) := hw
          have b_ := hw
          obtain ⟨w122_, a122_, b122_, hP1, hK1, hD1⟩ := hB
          rw [ht] at hP1
          obtain ⟨hP, hD⟩ := va_join (wr := [(h0, .inr (4, mX4 h1 h4 h11 h18 v0))]) (w1 := [(h1, .inr (9, mX9 h2 h3 v1)), (h2, zi k2 600 f2)]) hP hD [1, 2] [0] rfl rfl (by decide) (by decide) hk1 hFc hP1 hD1
          have hP : va_P (dC, dI) vwCl [(h0, .inr (4, mX4 h1 h4 h11 h18 v0)), (h1, .inr (9, mX9 h2 h3 v1)), (h2, zi k2 600 f2)] H1 := hP.sub [0, 1, 2] rfl
          have hD : va_D A [(h0, .inr (4, mX4 h1 h4 h11 h18 v0)), (h1, .inr (9, mX9 h2 h3 v1)), (h2, zi k2 600 f2)] := hD.sub [0, 1, 2] (by decide) rfl
          generalize H1 = H at hP hS ⊢
          clear hz1
          refine lv_istore_n (lv' := [(2, .int r122_), (1, .int r110_), (0, .ref h0)]) hx hb dX4_sortOfRun_125 rfl hl (by decide) rfl (fun ls hl => ?_)
          refine lv_iload_n hx hb dX4_sortOfRun_126 rfl (lv_at hl 1 rfl) ?_
          refine zcutW (fun H locs ls u150_ w150_ a150_ b150_ => va_P (dC, dI) vwCl [(h0, .inr (4, mX4 h1 h4 h11 h18 v0)), (h1, .inr (9, mX9 h2 h3 v1)), (h2, zi k2 600 f2)] H ∧ va_D A [(h0, .inr (4, mX4 h1 h4 h11 h18 v0)), (h1, .inr (9, mX9 h2 h3 v1)), (h2, zi k2 600 f2)] ∧ va_S A s.heap H locs ∧ lv_has ls 3 [(0, .ref h0), (1, .int r110_), (2, .int r122_)] ∧ (0 ≤ r110_.toInt ∧ r110_.toInt ≤ 1)) (fun ls u150_ w150_ => F0 m 150 ls []) 0 0 ?_ (fun hJ150 => ?_)
          · skip
            intro H locs ls u150_ w150_ a150_ b150_ hc
            obtain ⟨hP, hD, hS, hl, b_⟩ := hc
            refine lv_aload_n hx hb dX4_sortOfRun_150 rfl (lv_at hl 0 rfl) ?_
            refine va_get (D := (dC, dI)) (ci := 4) (v := .ref h1) (C := RX4) (T := TX4) (N := 12) hx hb hG zuX4 hown hK hP 0 rfl rfl 0 (by decide) (hG _ zv408) (fun _ h9 => h9) rfl dX4_sortOfRun_151 ?_
            refine lv_iload_n hx hb dX4_sortOfRun_154 rfl (lv_at hl 2 rfl) ?_
            have hPc := hP.sub (ws' := [(h1, .inr (9, mX9 h2 h3 v1)), (h2, zi k2 600 f2)]) [1, 2] rfl
            have hDc := hD.sub (ws' := [(h1, .inr (9, mX9 h2 h3 v1)), (h2, zi k2 600 f2)]) [1, 2] (by decide) rfl
            have hKc := hK.sub (tys' := [(k2, .byte)]) [0] rfl
            have hFc := va_free (wc := [(h1, .inr (9, mX9 h2 h3 v1)), (h2, zi k2 600 f2)]) hD hS hA [1, 2] rfl
            refine va_calli (va_runV (As := [.int r122_]) (rest := []) ⟨hx, hb, hml, hown, hG⟩ (sX9_at_0 l dC dI adK adV h1 h2 h3 k2 H.size v1 f2 r122_ hv1) (cwV 1 hG (zgV zv1032 zv641 zv642 zv130 zv643) rfl rfl rfl (by decide +kernel) ⟨Nat.le_of_ble_eq_true rfl, Nat.le_of_ble_eq_true rfl⟩) ⟨zPc_blind, va_recv hKc hPc (ci := 9) (q0 := 0) rfl rfl, zPc_pre hPc hKc hDc hE hS hFc hZ⟩ rfl rfl hl.1 rfl (lv_room (Nat.le_of_ble_eq_true rfl)) dX4_sortOfRun_155 ⟨Nat.le_of_ble_eq_true rfl, Nat.le_of_ble_eq_true rfl⟩) hS (fun q _ h => hFc q h) hFc (fun r155_ u155_ t H1 locs ht hvm hw hB hz1 hk1 hS => ?_)
            replace hw : ((-1) ≤ r155_.toInt ∧ r155_.toInt ≤ 255) ∧ (0 ≤ r122_.toInt ∧ r122_.toInt < (v1 2).toInt → r155_.toInt = (f2 ((r122_ : Int32)).toNatClampNeg &&& 255).toInt) ∧ (r155_.toInt ≠ -1 → 0 ≤ r122_.toInt ∧ r122_.toInt < (v1 2).toInt ∧ r122_.toInt < 600) := hw
            obtain ⟨b_, hX155_0, hX155_1⟩ := hw
            obtain ⟨w155_, a155_, b155_, hP1, hK1, hD1⟩ := hB
            rw [ht] at hP1
            obtain ⟨hP, hD⟩ := va_join (wr := [(h0, .inr (4, mX4 h1 h4 h11 h18 v0))]) (w1 := [(h1, .inr (9, mX9 h2 h3 v1)), (h2, zi k2 600 f2)]) hP hD [1, 2] [0] rfl rfl (by decide) (by decide) hk1 hFc hP1 hD1
            have hP : va_P (dC, dI) vwCl [(h0, .inr (4, mX4 h1 h4 h11 h18 v0)), (h1, .inr (9, mX9 h2 h3 v1)), (h2, zi k2 600 f2)] H1 := hP.sub [0, 1, 2] rfl
            have hD : va_D A [(h0, .inr (4, mX4 h1 h4 h11 h18 v0)), (h1, .inr (9, mX9 h2 h3 v1)), (h2, zi k2 600 f2)] := hD.sub [0, 1, 2] (by decide) rfl
            generalize H1 = H at hP hS ⊢
            clear hz1
            refine lv_bipush (v := 58) hx hb dX4_sortOfRun_158 (by decide) ?_
            refine lv_icmp_ne (tgt := 184) hx hb dX4_sortOfRun_160 (by decide) (fun c_ => ?_) (fun c_ => ?_)
            · skip
              have b_ := zT_ne rfl zk_58 c_
              refine lv_sipush (v := 257) hx hb dX4_sortOfRun_184 (by decide) ?_
              refine W.widen (k := 0) (n := 0) (by decide) (by decide) ?_
              have hpost : (257 ≤ (257 : Int32).toInt ∧ (257 : Int32).toInt ≤ 263) := (by first | with_reducible assumption | exact ⟨by omega, by omega⟩)
              have hP9 : va_P (dC, dI) vwCl [(h0, .inr (4, mX4 h1 h4 h11 h18 (upd v0 6 (v0 6)))), (h1, .inr (9, mX9 h2 h3 v1)), (h2, zi k2 600 f2)] H := hP
              have hD9 : va_D A [(h0, .inr (4, mX4 h1 h4 h11 h18 (upd v0 6 (v0 6)))), (h1, .inr (9, mX9 h2 h3 v1)), (h2, zi k2 600 f2)] := hD
              exact W.iret (v := 257) hx hb hr (fun t ht hW => ⟨⟨257, (fun i => ([(v0 6)] : List (Int32)).getD i 0), rfl, hpost, (fun _ => 0), (fun _ => (fun _ => 0)), (fun _ => (fun _ => 0)), by rw [ht]; exact hP9, va_K.moved hW.alike hK, hD9⟩, hS.F ht⟩) hS.2.2 dX4_sortOfRun_187
            · skip
              have b_ := zF_ne rfl zk_58 c_
              refine lv_aload_n hx hb dX4_sortOfRun_163 rfl (lv_at hl 0 rfl) ?_
              refine lv_iload_n hx hb dX4_sortOfRun_164 rfl (lv_at hl 2 rfl) ?_
              refine lv_iconst (v := 1) hx hb dX4_sortOfRun_165 (by decide) ?_
              refine lv_iadd hx hb dX4_sortOfRun_166 ?_
              refine lv_topi (fun z166 e_z166 => ?_)
              refine va_put (D := (dC, dI)) (ci := 4) (v := .int z166) (ty := .int) (C := RX4) (T := TX4) (N := 12) hx hb hG zuX4 tyX4 tyX4_ok nmX4 hown hK hP hD hS 0 rfl rfl 6 (by decide) (hG _ zv414) (fun _ h9 => h9) rfl (by decide +kernel) rfl rfl (Nat.le_of_ble_eq_true rfl) dX4_sortOfRun_167 (fun H locs hP hD hS => ?_)
              have hP : va_P (dC, dI) vwCl [(h0, .inr (4, mX4 h1 h4 h11 h18 (upd v0 6 z166))), (h1, .inr (9, mX9 h2 h3 v1)), (h2, zi k2 600 f2)] H := hP
              have hD : va_D A [(h0, .inr (4, mX4 h1 h4 h11 h18 (upd v0 6 z166))), (h1, .inr (9, mX9 h2 h3 v1)), (h2, zi k2 600 f2)] := hD
              refine lv_iload_n hx hb dX4_sortOfRun_170 rfl (lv_at hl 1 rfl) ?_
              refine lv_if_eq (tgt := 180) hx hb dX4_sortOfRun_171 (by decide) (fun c_ => ?_) (fun c_ => ?_)
              · skip
                have b_ := zT_eq rfl zk_0 c_
                refine lv_sipush (v := 263) hx hb dX4_sortOfRun_180 (by decide) ?_
                refine W.widen (k := 0) (n := 0) (by decide) (by decide) ?_
                have b_ : -2147483648 ≤ z166.toInt ∧ z166.toInt ≤ 2147483647 := ⟨zlo _, zhi _⟩
                have hpost : (257 ≤ (263 : Int32).toInt ∧ (263 : Int32).toInt ≤ 263) := (by first | with_reducible assumption | exact ⟨by omega, by omega⟩)
                have hP9 : va_P (dC, dI) vwCl [(h0, .inr (4, mX4 h1 h4 h11 h18 (upd v0 6 z166))), (h1, .inr (9, mX9 h2 h3 v1)), (h2, zi k2 600 f2)] H := hP
                have hD9 : va_D A [(h0, .inr (4, mX4 h1 h4 h11 h18 (upd v0 6 z166))), (h1, .inr (9, mX9 h2 h3 v1)), (h2, zi k2 600 f2)] := hD
                exact W.iret (v := 263) hx hb hr (fun t ht hW => ⟨⟨263, (fun i => ([z166] : List (Int32)).getD i 0), rfl, hpost, (fun _ => 0), (fun _ => (fun _ => 0)), (fun _ => (fun _ => 0)), by rw [ht]; exact hP9, va_K.moved hW.alike hK, hD9⟩, hS.F ht⟩) hS.2.2 dX4_sortOfRun_183
              · skip
                have b_ := zF_eq rfl zk_0 c_
                refine lv_sipush (v := 262) hx hb dX4_sortOfRun_174 (by decide) ?_
                refine lv_goto (tgt := 183) hx hb dX4_sortOfRun_177 (by decide) ?_
                refine W.widen (k := 0) (n := 0) (by decide) (by decide) ?_
                have b_ : -2147483648 ≤ z166.toInt ∧ z166.toInt ≤ 2147483647 := ⟨zlo _, zhi _⟩
                have hpost : (257 ≤ (262 : Int32).toInt ∧ (262 : Int32).toInt ≤ 263) := (by first | with_reducible assumption | exact ⟨by omega, by omega⟩)
                have hP9 : va_P (dC, dI) vwCl [(h0, .inr (4, mX4 h1 h4 h11 h18 (upd v0 6 z166))), (h1, .inr (9, mX9 h2 h3 v1)), (h2, zi k2 600 f2)] H := hP
                have hD9 : va_D A [(h0, .inr (4, mX4 h1 h4 h11 h18 (upd v0 6 z166))), (h1, .inr (9, mX9 h2 h3 v1)), (h2, zi k2 600 f2)] := hD
                exact W.iret (v := 262) hx hb hr (fun t ht hW => ⟨⟨262, (fun i => ([z166] : List (Int32)).getD i 0), rfl, hpost, (fun _ => 0), (fun _ => (fun _ => 0)), (fun _ => (fun _ => 0)), by rw [ht]; exact hP9, va_K.moved hW.alike hK, hD9⟩, hS.F ht⟩) hS.2.2 dX4_sortOfRun_183
          · skip
            refine lv_if_ne (tgt := 150) hx hb dX4_sortOfRun_127 (by decide) (fun c_ => ?_) (fun c_ => ?_)
            · skip
              have b_ := zT_ne rfl zk_0 c_
              have hc : va_P (dC, dI) vwCl [(h0, .inr (4, mX4 h1 h4 h11 h18 v0)), (h1, .inr (9, mX9 h2 h3 v1)), (h2, zi k2 600 f2)] H ∧ va_D A [(h0, .inr (4, mX4 h1 h4 h11 h18 v0)), (h1, .inr (9, mX9 h2 h3 v1)), (h2, zi k2 600 f2)] ∧ va_S A s.heap H locs ∧ lv_has ls 3 [(0, .ref h0), (1, .int r110_), (2, .int r122_)] ∧ (0 ≤ r110_.toInt ∧ r110_.toInt ≤ 1) := ⟨hP, hD, hS, lv_sub hl [2, 1, 0] rfl, (by first | with_reducible assumption | exact ⟨by omega, by omega⟩)⟩
              exact hJ150 H locs ls (fun _ => 0) (fun _ => 0) (fun _ => (fun _ => 0)) (fun _ => (fun _ => 0)) hc
            · skip
              have b_ := zF_ne rfl zk_0 c_
              refine lv_aload_n hx hb dX4_sortOfRun_130 rfl (lv_at hl 2 rfl) ?_
              refine va_get (D := (dC, dI)) (ci := 4) (v := .ref h1) (C := RX4) (T := TX4) (N := 12) hx hb hG zuX4 hown hK hP 0 rfl rfl 0 (by decide) (hG _ zv408) (fun _ h9 => h9) rfl dX4_sortOfRun_131 ?_
              refine lv_aload_n hx hb dX4_sortOfRun_134 rfl (lv_at hl 2 rfl) ?_
              refine va_get (D := (dC, dI)) (ci := 4) (v := .int (v0 5)) (C := RX4) (T := TX4) (N := 12) hx hb hG zuX4 hown hK hP 0 rfl rfl 5 (by decide) (hG _ zv413) (fun _ h9 => h9) rfl dX4_sortOfRun_135 ?_
              refine lv_aload_n hx hb dX4_sortOfRun_138 rfl (lv_at hl 2 rfl) ?_
              refine va_get (D := (dC, dI)) (ci := 4) (v := .int (v0 6)) (C := RX4) (T := TX4) (N := 12) hx hb hG zuX4 hown hK hP 0 rfl rfl 6 (by decide) (hG _ zv414) (fun _ h9 => h9) rfl dX4_sortOfRun_139 ?_
              refine va_ldcS hx hb hown (zE_K12 hE) dX4_sortOfRun_142 ?_
              have hPc := hP.sub (ws' := [(h1, .inr (9, mX9 h2 h3 v1)), (h2, zi k2 600 f2)]) [1, 2] rfl
              have hDc := hD.sub (ws' := [(h1, .inr (9, mX9 h2 h3 v1)), (h2, zi k2 600 f2)]) [1, 2] (by decide) rfl
              have hKc := hK.sub (tys' := [(k2, .byte)]) [0] rfl
              have hFc := va_free (wc := [(h1, .inr (9, mX9 h2 h3 v1)), (h2, zi k2 600 f2)]) hD hS hA [1, 2] rfl
              refine va_calli (va_runV (As := [.int (v0 5), .int (v0 6), .ref (adK 12)]) (rest := []) ⟨hx, hb, hml, hown, hG⟩ (sX9_spells_5 l dC dI adK adV h1 h2 h3 k2 H.size v1 f2 (v0 5) (v0 6) hv1 (show (0 : Int) ≤ ((v0 5) : Int32).toInt ∧ ((v0 5) : Int32).toInt ≤ (600 : Int) from (by first | with_reducible assumption | exact ⟨by omega, by omega⟩)) (show (0 : Int) ≤ ((v0 6) : Int32).toInt ∧ ((v0 6) : Int32).toInt ≤ (601 : Int) from (by first | with_reducible assumption | exact ⟨by omega, by omega⟩))) (cwV 3 hG (zgV zv1043 zv1044 zv1045 zv130 zv1046) rfl rfl rfl (by decide +kernel) ⟨Nat.le_of_ble_eq_true rfl, Nat.le_of_ble_eq_true rfl⟩) ⟨zPc_blind, va_recv hKc hPc (ci := 9) (q0 := 0) rfl rfl, zPc_pre hPc hKc hDc hE hS hFc hZ⟩ rfl rfl hl.1 rfl (lv_room (Nat.le_of_ble_eq_true rfl)) dX4_sortOfRun_144 ⟨Nat.le_of_ble_eq_true rfl, Nat.le_of_ble_eq_true rfl⟩) hS (fun q _ h => hFc q h) hFc (fun r144_ u144_ t H1 locs ht hvm hw hB hz1 hk1 hS => ?_)
              replace hw : (0 ≤ r144_.toInt ∧ r144_.toInt ≤ 1) := hw
              have b_ := hw
              obtain ⟨w144_, a144_, b144_, hP1, hK1, hD1⟩ := hB
              rw [ht] at hP1
              obtain ⟨hP, hD⟩ := va_join (wr := [(h0, .inr (4, mX4 h1 h4 h11 h18 v0))]) (w1 := [(h1, .inr (9, mX9 h2 h3 v1)), (h2, zi k2 600 f2)]) hP hD [1, 2] [0] rfl rfl (by decide) (by decide) hk1 hFc hP1 hD1
              have hP : va_P (dC, dI) vwCl [(h0, .inr (4, mX4 h1 h4 h11 h18 v0)), (h1, .inr (9, mX9 h2 h3 v1)), (h2, zi k2 600 f2)] H1 := hP.sub [0, 1, 2] rfl
              have hD : va_D A [(h0, .inr (4, mX4 h1 h4 h11 h18 v0)), (h1, .inr (9, mX9 h2 h3 v1)), (h2, zi k2 600 f2)] := hD.sub [0, 1, 2] (by decide) rfl
              generalize H1 = H at hP hS ⊢
              clear hz1
              refine lv_if_eq (tgt := 184) hx hb dX4_sortOfRun_147 (by decide) (fun c_ => ?_) (fun c_ => ?_)
              · skip
                have b_ := zT_eq rfl zk_0 c_
                refine lv_sipush (v := 257) hx hb dX4_sortOfRun_184 (by decide) ?_
                refine W.widen (k := 0) (n := 0) (by decide) (by decide) ?_
                have hpost : (257 ≤ (257 : Int32).toInt ∧ (257 : Int32).toInt ≤ 263) := (by first | with_reducible assumption | exact ⟨by omega, by omega⟩)
                have hP9 : va_P (dC, dI) vwCl [(h0, .inr (4, mX4 h1 h4 h11 h18 (upd v0 6 (v0 6)))), (h1, .inr (9, mX9 h2 h3 v1)), (h2, zi k2 600 f2)] H := hP
                have hD9 : va_D A [(h0, .inr (4, mX4 h1 h4 h11 h18 (upd v0 6 (v0 6)))), (h1, .inr (9, mX9 h2 h3 v1)), (h2, zi k2 600 f2)] := hD
                exact W.iret (v := 257) hx hb hr (fun t ht hW => ⟨⟨257, (fun i => ([(v0 6)] : List (Int32)).getD i 0), rfl, hpost, (fun _ => 0), (fun _ => (fun _ => 0)), (fun _ => (fun _ => 0)), by rw [ht]; exact hP9, va_K.moved hW.alike hK, hD9⟩, hS.F ht⟩) hS.2.2 dX4_sortOfRun_187
              · skip
                have b_ := zF_eq rfl zk_0 c_
                have hc : va_P (dC, dI) vwCl [(h0, .inr (4, mX4 h1 h4 h11 h18 v0)), (h1, .inr (9, mX9 h2 h3 v1)), (h2, zi k2 600 f2)] H ∧ va_D A [(h0, .inr (4, mX4 h1 h4 h11 h18 v0)), (h1, .inr (9, mX9 h2 h3 v1)), (h2, zi k2 600 f2)] ∧ va_S A s.heap H locs ∧ lv_has ls 3 [(0, .ref h0), (1, .int r110_), (2, .int r122_)] ∧ (0 ≤ r110_.toInt ∧ r110_.toInt ≤ 1) := ⟨hP, hD, hS, lv_sub hl [2, 1, 0] rfl, (by first | with_reducible assumption | exact ⟨by omega, by omega⟩)⟩
                exact hJ150 H locs ls (fun _ => 0) (fun _ => 0) (fun _ => (fun _ => 0)) (fun _ => (fun _ => 0)) hc
        · skip
          have b_ := zF_eq rfl zk_0 c_
          refine lv_sipush (v := 261) hx hb dX4_sortOfRun_92 (by decide) ?_
          refine W.widen (k := 0) (n := 0) (by decide) (by decide) ?_
          have hpost : (257 ≤ (261 : Int32).toInt ∧ (261 : Int32).toInt ≤ 263) := (by first | with_reducible assumption | exact ⟨by omega, by omega⟩)
          have hP9 : va_P (dC, dI) vwCl [(h0, .inr (4, mX4 h1 h4 h11 h18 (upd v0 6 (v0 6)))), (h1, .inr (9, mX9 h2 h3 v1)), (h2, zi k2 600 f2)] H := hP
          have hD9 : va_D A [(h0, .inr (4, mX4 h1 h4 h11 h18 (upd v0 6 (v0 6)))), (h1, .inr (9, mX9 h2 h3 v1)), (h2, zi k2 600 f2)] := hD
          exact W.iret (v := 261) hx hb hr (fun t ht hW => ⟨⟨261, (fun i => ([(v0 6)] : List (Int32)).getD i 0), rfl, hpost, (fun _ => 0), (fun _ => (fun _ => 0)), (fun _ => (fun _ => 0)), by rw [ht]; exact hP9, va_K.moved hW.alike hK, hD9⟩, hS.F ht⟩) hS.2.2 dX4_sortOfRun_95
      · skip
        have b_ := zF_eq rfl zk_0 c_
        refine lv_sipush (v := 260) hx hb dX4_sortOfRun_68 (by decide) ?_
        refine W.widen (k := 0) (n := 0) (by decide) (by decide) ?_
        have hpost : (257 ≤ (260 : Int32).toInt ∧ (260 : Int32).toInt ≤ 263) := (by first | with_reducible assumption | exact ⟨by omega, by omega⟩)
        have hP9 : va_P (dC, dI) vwCl [(h0, .inr (4, mX4 h1 h4 h11 h18 (upd v0 6 (v0 6)))), (h1, .inr (9, mX9 h2 h3 v1)), (h2, zi k2 600 f2)] H := hP
        have hD9 : va_D A [(h0, .inr (4, mX4 h1 h4 h11 h18 (upd v0 6 (v0 6)))), (h1, .inr (9, mX9 h2 h3 v1)), (h2, zi k2 600 f2)] := hD
        exact W.iret (v := 260) hx hb hr (fun t ht hW => ⟨⟨260, (fun i => ([(v0 6)] : List (Int32)).getD i 0), rfl, hpost, (fun _ => 0), (fun _ => (fun _ => 0)), (fun _ => (fun _ => 0)), by rw [ht]; exact hP9, va_K.moved hW.alike hK, hD9⟩, hS.F ht⟩) hS.2.2 dX4_sortOfRun_71
    · skip
      have b_ := zF_eq rfl zk_0 c_
      refine lv_sipush (v := 259) hx hb dX4_sortOfRun_44 (by decide) ?_
      refine W.widen (k := 0) (n := 0) (by decide) (by decide) ?_
      have hpost : (257 ≤ (259 : Int32).toInt ∧ (259 : Int32).toInt ≤ 263) := (by first | with_reducible assumption | exact ⟨by omega, by omega⟩)
      have hP9 : va_P (dC, dI) vwCl [(h0, .inr (4, mX4 h1 h4 h11 h18 (upd v0 6 (v0 6)))), (h1, .inr (9, mX9 h2 h3 v1)), (h2, zi k2 600 f2)] H := hP
      have hD9 : va_D A [(h0, .inr (4, mX4 h1 h4 h11 h18 (upd v0 6 (v0 6)))), (h1, .inr (9, mX9 h2 h3 v1)), (h2, zi k2 600 f2)] := hD
      exact W.iret (v := 259) hx hb hr (fun t ht hW => ⟨⟨259, (fun i => ([(v0 6)] : List (Int32)).getD i 0), rfl, hpost, (fun _ => 0), (fun _ => (fun _ => 0)), (fun _ => (fun _ => 0)), by rw [ht]; exact hP9, va_K.moved hW.alike hK, hD9⟩, hS.F ht⟩) hS.2.2 dX4_sortOfRun_47
  · skip
    have b_ := zF_eq rfl zk_0 c_
    refine lv_sipush (v := 258) hx hb dX4_sortOfRun_20 (by decide) ?_
    refine W.widen (k := 0) (n := 0) (by decide) (by decide) ?_
    have hpost : (257 ≤ (258 : Int32).toInt ∧ (258 : Int32).toInt ≤ 263) := (by first | with_reducible assumption | exact ⟨by omega, by omega⟩)
    have hP9 : va_P (dC, dI) vwCl [(h0, .inr (4, mX4 h1 h4 h11 h18 (upd v0 6 (v0 6)))), (h1, .inr (9, mX9 h2 h3 v1)), (h2, zi k2 600 f2)] H := hP
    have hD9 : va_D A [(h0, .inr (4, mX4 h1 h4 h11 h18 (upd v0 6 (v0 6)))), (h1, .inr (9, mX9 h2 h3 v1)), (h2, zi k2 600 f2)] := hD
    exact W.iret (v := 258) hx hb hr (fun t ht hW => ⟨⟨258, (fun i => ([(v0 6)] : List (Int32)).getD i 0), rfl, hpost, (fun _ => 0), (fun _ => (fun _ => 0)), (fun _ => (fun _ => 0)), by rw [ht]; exact hP9, va_K.moved hW.alike hK, hD9⟩, hS.F ht⟩) hS.2.2 dX4_sortOfRun_23
set_option maxHeartbeats 8000000 in
set_option maxRecDepth 100000 in
theorem sX4_next_0 (l : Launch) (dC : Nat → ClassId) (dI : Nat → Nat → Nat) (adK adV : Nat → Nat) (h0 : Nat) (h1 : Nat) (h2 : Nat) (h4 : Nat) (h11 : Nat) (h18 : Nat) (h3 : Nat) (k2 : ClassId) (sz : Nat) (v0 : Nat → Int32) (v1 : Nat → Int32) (f2 : Nat → Int32) (hv0 : zR rg_Parser v0) (hv1 : zR rg_Tape v1) : Met l yX4_next (zw yX4_next cX4_next 2 none) { frames := 6, cells := 0, slots := 0, locals := 131 } (zPc dC dI adK adV [.ref h0] sz [(h0, .inr (4, mX4 h1 h4 h11 h18 v0)), (h1, .inr (9, mX9 h2 h3 v1)), (h2, zi k2 600 f2)] [(k2, .byte)]) (va_Qv (fun (u : Nat → Int32) => (0 ≤ (u 0).toInt ∧ (u 0).toInt ≤ 265)) (fun (u : Nat → Int32) (t : State) => ∃ (ww : Nat → Int64) (aa : Nat → Nat → Int32) (bb : Nat → Nat → Int64), va_P (dC, dI) vwCl [(h0, .inr (4, mX4 h1 h4 h11 h18 (upd (upd (upd (upd v0 4 (u 0)) 5 (u 1)) 6 (u 2)) 7 (u 3)))), (h1, .inr (9, mX9 h2 h3 v1)), (h2, zi k2 600 f2)] t.heap ∧ va_K (dC, dI) vwCl [(k2, .byte)] t ∧ va_D (va_A [(h0, .inr (4, mX4 h1 h4 h11 h18 v0)), (h1, .inr (9, mX9 h2 h3 v1)), (h2, zi k2 600 f2)] sz) [(h0, .inr (4, mX4 h1 h4 h11 h18 (upd (upd (upd (upd v0 4 (u 0)) 5 (u 1)) 6 (u 2)) 7 (u 3)))), (h1, .inr (9, mX9 h2 h3 v1)), (h2, zi k2 600 f2)]) (va_A [(h0, .inr (4, mX4 h1 h4 h11 h18 v0)), (h1, .inr (9, mX9 h2 h3 v1)), (h2, zi k2 600 f2)] sz)) 0 0 (va_A [(h0, .inr (4, mX4 h1 h4 h11 h18 v0)), (h1, .inr (9, mX9 h2 h3 v1)), (h2, zi k2 600 f2)] sz) := by
  refine Met.ofW (cc := cX4_next) (maxL := 2) (ret := none) (by decide) rfl ?_
  intro p e s m args below meth c s₁ B hml hv
  obtain ⟨rfl, hsz, hP, hK, hD0, hE, hZ⟩ := hv
  have hx := B.exec
  have hb := B.bytes
  have hr := B.returns
  have hG : ∀ w ∈ zG, w.before _ s = true := fun w h => atoms_spec (ws := (zw yX4_next cX4_next 2 none)) B.pre w (List.mem_cons_of_mem _ h)
  have hown : s.vm.findClass RX4 = some m.cls := findClass_of_methodNamed B.named
  have hlocks := B.notSynchronized

  subst hsz
  have hD := hD0.self (sz := s.heap.size)
  generalize hAe : va_A [(h0, .inr (4, mX4 h1 h4 h11 h18 v0)), (h1, .inr (9, mX9 h2 h3 v1)), (h2, zi k2 600 f2)] s.heap.size = A at hD hZ ⊢
  have hA : ∀ q : Nat, s.heap.size ≤ q → A q := fun q h => by rw [← hAe]; exact Or.inr h
  have hS : va_S A s.heap s.heap [] := va_S.rf
  have hl := lv_entry ([.ref h0]) (n := 2) (Nat.le_of_ble_eq_true rfl)
  rw [lg_entry_eq]
  generalize (lg_sl ([.ref h0]) ++ List.replicate (2 - (lg_sl ([.ref h0])).length) Slot.unset).toArray = ls at hl ⊢
  have hl : lv_has ls 2 [(0, .ref h0)] := hl
  have b_ := zk_256
  have b_ := zk_264
  refine lv_aload_n hx hb dX4_next_0 rfl (lv_at hl 0 rfl) ?_
  have hPc := hP.sub (ws' := [(h0, .inr (4, mX4 h1 h4 h11 h18 v0))]) [0] rfl
  have hDc := hD.sub (ws' := [(h0, .inr (4, mX4 h1 h4 h11 h18 v0))]) [0] (by decide) rfl
  have hKc := hK.sub (tys' := []) [] rfl
  have hFc := va_free (wc := [(h0, .inr (4, mX4 h1 h4 h11 h18 v0))]) hD hS hA [0] rfl
  refine va_callv (va_runV (As := []) (rest := []) ⟨hx, hb, hml, hown, hG⟩ (sX4_settleNear_0 l dC dI adK adV h0 h1 h4 h11 h18 s.heap.size v0 hv0) (cwV 0 hG (zgV zv1017 zv1019 zv12 zv137 zv1020) rfl rfl rfl (by decide +kernel) ⟨Nat.le_of_ble_eq_true rfl, Nat.le_of_ble_eq_true rfl⟩) ⟨zPc_blind, va_recv hKc hPc (ci := 4) (q0 := 0) rfl rfl, zPc_pre hPc hKc hDc hE hS hFc hZ⟩ rfl rfl hl.1 rfl (lv_room (Nat.le_of_ble_eq_true rfl)) dX4_next_1 ⟨Nat.le_of_ble_eq_true rfl, Nat.le_of_ble_eq_true rfl⟩) hS (fun q _ h => hFc q h) hFc (fun u1_ t H1 locs ht hvm hw hB hz1 hk1 hS => ?_)
  obtain ⟨w1_, a1_, b1_, hP1, hK1, hD1⟩ := hB
  rw [ht] at hP1
  obtain ⟨hP, hD⟩ := va_join (wr := [(h1, .inr (9, mX9 h2 h3 v1)), (h2, zi k2 600 f2)]) (w1 := [(h0, .inr (4, mX4 h1 h4 h11 h18 (upd (upd v0 4 (u1_ 0)) 7 (u1_ 1))))]) hP hD [0] [1, 2] rfl rfl (by decide) (by decide) hk1 hFc hP1 hD1
  have hP : va_P (dC, dI) vwCl [(h0, .inr (4, mX4 h1 h4 h11 h18 (upd (upd v0 4 (u1_ 0)) 7 (u1_ 1)))), (h1, .inr (9, mX9 h2 h3 v1)), (h2, zi k2 600 f2)] H1 := hP.sub [2, 0, 1] rfl
  have hD : va_D A [(h0, .inr (4, mX4 h1 h4 h11 h18 (upd (upd v0 4 (u1_ 0)) 7 (u1_ 1)))), (h1, .inr (9, mX9 h2 h3 v1)), (h2, zi k2 600 f2)] := hD.sub [2, 0, 1] (by decide) rfl
  generalize H1 = H at hP hS ⊢
  clear hz1
  refine lv_aload_n hx hb dX4_next_4 rfl (lv_at hl 0 rfl) ?_
  refine va_get (D := (dC, dI)) (ci := 4) (v := .int (u1_ 0)) (C := RX4) (T := TX4) (N := 12) hx hb hG zuX4 hown hK hP 0 rfl rfl 4 (by decide) (hG _ zv412) (fun _ h9 => h9) rfl dX4_next_5 ?_
  refine lv_sipush (v := 265) hx hb dX4_next_8 (by decide) ?_
  have b_ : -2147483648 ≤ (u1_ 0).toInt ∧ (u1_ 0).toInt ≤ 2147483647 := ⟨zlo _, zhi _⟩
  refine lv_icmp_ne (tgt := 15) hx hb dX4_next_11 (by decide) (fun c_ => ?_) (fun c_ => ?_)
  · skip
    have b_ := zT_ne rfl zk_265 c_
    refine lv_aload_n hx hb dX4_next_15 rfl (lv_at hl 0 rfl) ?_
    refine lv_aload_n hx hb dX4_next_16 rfl (lv_at hl 0 rfl) ?_
    refine va_get (D := (dC, dI)) (ci := 4) (v := .ref h1) (C := RX4) (T := TX4) (N := 12) hx hb hG zuX4 hown hK hP 0 rfl rfl 0 (by decide) (hG _ zv408) (fun _ h9 => h9) rfl dX4_next_17 ?_
    refine lv_aload_n hx hb dX4_next_20 rfl (lv_at hl 0 rfl) ?_
    refine va_get (D := (dC, dI)) (ci := 4) (v := .int (v0 6)) (C := RX4) (T := TX4) (N := 12) hx hb hG zuX4 hown hK hP 0 rfl rfl 6 (by decide) (hG _ zv414) (fun _ h9 => h9) rfl dX4_next_21 ?_
    have hPc := hP.sub (ws' := [(h1, .inr (9, mX9 h2 h3 v1)), (h2, zi k2 600 f2)]) [1, 2] rfl
    have hDc := hD.sub (ws' := [(h1, .inr (9, mX9 h2 h3 v1)), (h2, zi k2 600 f2)]) [1, 2] (by decide) rfl
    have hKc := hK.sub (tys' := [(k2, .byte)]) [0] rfl
    have hFc := va_free (wc := [(h1, .inr (9, mX9 h2 h3 v1)), (h2, zi k2 600 f2)]) hD hS hA [1, 2] rfl
    refine va_calli (va_runV (As := [.int (v0 6)]) (rest := [.ref h0]) ⟨hx, hb, hml, hown, hG⟩ (sX9_behindBlanks_0 l dC dI adK adV h1 h2 h3 k2 H.size v1 f2 (v0 6) hv1) (cwV 1 hG (zgV zv1025 zv1026 zv1027 zv130 zv1028) rfl rfl rfl (by decide +kernel) ⟨Nat.le_of_ble_eq_true rfl, Nat.le_of_ble_eq_true rfl⟩) ⟨zPc_blind, va_recv hKc hPc (ci := 9) (q0 := 0) rfl rfl, zPc_pre hPc hKc hDc hE hS hFc hZ⟩ rfl rfl hl.1 rfl (lv_room (Nat.le_of_ble_eq_true rfl)) dX4_next_24 ⟨Nat.le_of_ble_eq_true rfl, Nat.le_of_ble_eq_true rfl⟩) hS (fun q _ h => hFc q h) hFc (fun r24_ u24_ t H1 locs ht hvm hw hB hz1 hk1 hS => ?_)
    replace hw : (0 ≤ r24_.toInt ∧ r24_.toInt ≤ 2147483647) := hw
    have b_ := hw
    obtain ⟨w24_, a24_, b24_, hP1, hK1, hD1⟩ := hB
    rw [ht] at hP1
    obtain ⟨hP, hD⟩ := va_join (wr := [(h0, .inr (4, mX4 h1 h4 h11 h18 (upd (upd v0 4 (u1_ 0)) 7 (u1_ 1))))]) (w1 := [(h1, .inr (9, mX9 h2 h3 v1)), (h2, zi k2 600 f2)]) hP hD [1, 2] [0] rfl rfl (by decide) (by decide) hk1 hFc hP1 hD1
    have hP : va_P (dC, dI) vwCl [(h0, .inr (4, mX4 h1 h4 h11 h18 (upd (upd v0 4 (u1_ 0)) 7 (u1_ 1)))), (h1, .inr (9, mX9 h2 h3 v1)), (h2, zi k2 600 f2)] H1 := hP.sub [0, 1, 2] rfl
    have hD : va_D A [(h0, .inr (4, mX4 h1 h4 h11 h18 (upd (upd v0 4 (u1_ 0)) 7 (u1_ 1)))), (h1, .inr (9, mX9 h2 h3 v1)), (h2, zi k2 600 f2)] := hD.sub [0, 1, 2] (by decide) rfl
    generalize H1 = H at hP hS ⊢
    clear hz1
    refine va_put (D := (dC, dI)) (ci := 4) (v := .int r24_) (ty := .int) (C := RX4) (T := TX4) (N := 12) hx hb hG zuX4 tyX4 tyX4_ok nmX4 hown hK hP hD hS 0 rfl rfl 5 (by decide) (hG _ zv413) (fun _ h9 => h9) rfl (by decide +kernel) rfl rfl (Nat.le_of_ble_eq_true rfl) dX4_next_27 (fun H locs hP hD hS => ?_)
    have hP : va_P (dC, dI) vwCl [(h0, .inr (4, mX4 h1 h4 h11 h18 (upd (upd (upd v0 4 (u1_ 0)) 5 r24_) 7 (u1_ 1)))), (h1, .inr (9, mX9 h2 h3 v1)), (h2, zi k2 600 f2)] H := hP
    have hD : va_D A [(h0, .inr (4, mX4 h1 h4 h11 h18 (upd (upd (upd v0 4 (u1_ 0)) 5 r24_) 7 (u1_ 1)))), (h1, .inr (9, mX9 h2 h3 v1)), (h2, zi k2 600 f2)] := hD
    refine lv_aload_n hx hb dX4_next_30 rfl (lv_at hl 0 rfl) ?_
    refine va_get (D := (dC, dI)) (ci := 4) (v := .ref h1) (C := RX4) (T := TX4) (N := 12) hx hb hG zuX4 hown hK hP 0 rfl rfl 0 (by decide) (hG _ zv408) (fun _ h9 => h9) rfl dX4_next_31 ?_
    refine lv_aload_n hx hb dX4_next_34 rfl (lv_at hl 0 rfl) ?_
    refine va_get (D := (dC, dI)) (ci := 4) (v := .int r24_) (C := RX4) (T := TX4) (N := 12) hx hb hG zuX4 hown hK hP 0 rfl rfl 5 (by decide) (hG _ zv413) (fun _ h9 => h9) rfl dX4_next_35 ?_
    have hPc := hP.sub (ws' := [(h1, .inr (9, mX9 h2 h3 v1)), (h2, zi k2 600 f2)]) [1, 2] rfl
    have hDc := hD.sub (ws' := [(h1, .inr (9, mX9 h2 h3 v1)), (h2, zi k2 600 f2)]) [1, 2] (by decide) rfl
    have hKc := hK.sub (tys' := [(k2, .byte)]) [0] rfl
    have hFc := va_free (wc := [(h1, .inr (9, mX9 h2 h3 v1)), (h2, zi k2 600 f2)]) hD hS hA [1, 2] rfl
    refine va_calli (va_runV (As := [.int r24_]) (rest := []) ⟨hx, hb, hml, hown, hG⟩ (sX9_at_0 l dC dI adK adV h1 h2 h3 k2 H.size v1 f2 r24_ hv1) (cwV 1 hG (zgV zv1032 zv641 zv642 zv130 zv643) rfl rfl rfl (by decide +kernel) ⟨Nat.le_of_ble_eq_true rfl, Nat.le_of_ble_eq_true rfl⟩) ⟨zPc_blind, va_recv hKc hPc (ci := 9) (q0 := 0) rfl rfl, zPc_pre hPc hKc hDc hE hS hFc hZ⟩ rfl rfl hl.1 rfl (lv_room (Nat.le_of_ble_eq_true rfl)) dX4_next_38 ⟨Nat.le_of_ble_eq_true rfl, Nat.le_of_ble_eq_true rfl⟩) hS (fun q _ h => hFc q h) hFc (fun r38_ u38_ t H1 locs ht hvm hw hB hz1 hk1 hS => ?_)
    replace hw : ((-1) ≤ r38_.toInt ∧ r38_.toInt ≤ 255) ∧ (0 ≤ r24_.toInt ∧ r24_.toInt < (v1 2).toInt → r38_.toInt = (f2 ((r24_ : Int32)).toNatClampNeg &&& 255).toInt) ∧ (r38_.toInt ≠ -1 → 0 ≤ r24_.toInt ∧ r24_.toInt < (v1 2).toInt ∧ r24_.toInt < 600) := hw
    obtain ⟨b_, hX38_0, hX38_1⟩ := hw
    obtain ⟨w38_, a38_, b38_, hP1, hK1, hD1⟩ := hB
    rw [ht] at hP1
    obtain ⟨hP, hD⟩ := va_join (wr := [(h0, .inr (4, mX4 h1 h4 h11 h18 (upd (upd (upd v0 4 (u1_ 0)) 5 r24_) 7 (u1_ 1))))]) (w1 := [(h1, .inr (9, mX9 h2 h3 v1)), (h2, zi k2 600 f2)]) hP hD [1, 2] [0] rfl rfl (by decide) (by decide) hk1 hFc hP1 hD1
    have hP : va_P (dC, dI) vwCl [(h0, .inr (4, mX4 h1 h4 h11 h18 (upd (upd (upd v0 4 (u1_ 0)) 5 r24_) 7 (u1_ 1)))), (h1, .inr (9, mX9 h2 h3 v1)), (h2, zi k2 600 f2)] H1 := hP.sub [0, 1, 2] rfl
    have hD : va_D A [(h0, .inr (4, mX4 h1 h4 h11 h18 (upd (upd (upd v0 4 (u1_ 0)) 5 r24_) 7 (u1_ 1)))), (h1, .inr (9, mX9 h2 h3 v1)), (h2, zi k2 600 f2)] := hD.sub [0, 1, 2] (by decide) rfl
    generalize H1 = H at hP hS ⊢
    clear hz1
    refine lv_istore_n (lv' := [(1, .int r38_), (0, .ref h0)]) hx hb dX4_next_41 rfl hl (by decide) rfl (fun ls hl => ?_)
    refine lv_aload_n hx hb dX4_next_42 rfl (lv_at hl 1 rfl) ?_
    refine lv_aload_n hx hb dX4_next_43 rfl (lv_at hl 1 rfl) ?_
    refine va_get (D := (dC, dI)) (ci := 4) (v := .int r24_) (C := RX4) (T := TX4) (N := 12) hx hb hG zuX4 hown hK hP 0 rfl rfl 5 (by decide) (hG _ zv413) (fun _ h9 => h9) rfl dX4_next_44 ?_
    refine lv_iconst (v := 1) hx hb dX4_next_47 (by decide) ?_
    refine lv_iadd hx hb dX4_next_48 ?_
    refine lv_topi (fun z48 e_z48 => ?_)
    refine va_put (D := (dC, dI)) (ci := 4) (v := .int z48) (ty := .int) (C := RX4) (T := TX4) (N := 12) hx hb hG zuX4 tyX4 tyX4_ok nmX4 hown hK hP hD hS 0 rfl rfl 6 (by decide) (hG _ zv414) (fun _ h9 => h9) rfl (by decide +kernel) rfl rfl (Nat.le_of_ble_eq_true rfl) dX4_next_49 (fun H locs hP hD hS => ?_)
    have hP : va_P (dC, dI) vwCl [(h0, .inr (4, mX4 h1 h4 h11 h18 (upd (upd (upd (upd v0 4 (u1_ 0)) 5 r24_) 6 z48) 7 (u1_ 1)))), (h1, .inr (9, mX9 h2 h3 v1)), (h2, zi k2 600 f2)] H := hP
    have hD : va_D A [(h0, .inr (4, mX4 h1 h4 h11 h18 (upd (upd (upd (upd v0 4 (u1_ 0)) 5 r24_) 6 z48) 7 (u1_ 1)))), (h1, .inr (9, mX9 h2 h3 v1)), (h2, zi k2 600 f2)] := hD
    refine lv_iload_n hx hb dX4_next_52 rfl (lv_at hl 0 rfl) ?_
    refine lv_iconst (v := (-1)) hx hb dX4_next_53 (by decide) ?_
    refine lv_icmp_ne (tgt := 67) hx hb dX4_next_54 (by decide) (fun c_ => ?_) (fun c_ => ?_)
    · skip
      have b_ := zT_ne rfl zk_m1 c_
      refine lv_aload_n hx hb dX4_next_67 rfl (lv_at hl 1 rfl) ?_
      refine va_get (D := (dC, dI)) (ci := 4) (v := .ref h1) (C := RX4) (T := TX4) (N := 12) hx hb hG zuX4 hown hK hP 0 rfl rfl 0 (by decide) (hG _ zv408) (fun _ h9 => h9) rfl dX4_next_68 ?_
      refine lv_aload_n hx hb dX4_next_71 rfl (lv_at hl 1 rfl) ?_
      refine va_get (D := (dC, dI)) (ci := 4) (v := .int r24_) (C := RX4) (T := TX4) (N := 12) hx hb hG zuX4 hown hK hP 0 rfl rfl 5 (by decide) (hG _ zv413) (fun _ h9 => h9) rfl dX4_next_72 ?_
      have hPc := hP.sub (ws' := [(h1, .inr (9, mX9 h2 h3 v1)), (h2, zi k2 600 f2)]) [1, 2] rfl
      have hDc := hD.sub (ws' := [(h1, .inr (9, mX9 h2 h3 v1)), (h2, zi k2 600 f2)]) [1, 2] (by decide) rfl
      have hKc := hK.sub (tys' := [(k2, .byte)]) [0] rfl
      have hFc := va_free (wc := [(h1, .inr (9, mX9 h2 h3 v1)), (h2, zi k2 600 f2)]) hD hS hA [1, 2] rfl
      refine va_calli (va_runV (As := [.int r24_]) (rest := []) ⟨hx, hb, hml, hown, hG⟩ (sX9_inToken_0 l dC dI adK adV h1 h2 h3 k2 H.size v1 f2 r24_ hv1) (cwV 1 hG (zgV zv1033 zv649 zv650 zv130 zv651) rfl rfl rfl (by decide +kernel) ⟨Nat.le_of_ble_eq_true rfl, Nat.le_of_ble_eq_true rfl⟩) ⟨zPc_blind, va_recv hKc hPc (ci := 9) (q0 := 0) rfl rfl, zPc_pre hPc hKc hDc hE hS hFc hZ⟩ rfl rfl hl.1 rfl (lv_room (Nat.le_of_ble_eq_true rfl)) dX4_next_75 ⟨Nat.le_of_ble_eq_true rfl, Nat.le_of_ble_eq_true rfl⟩) hS (fun q _ h => hFc q h) hFc (fun r75_ u75_ t H1 locs ht hvm hw hB hz1 hk1 hS => ?_)
      replace hw : (0 ≤ r75_.toInt ∧ r75_.toInt ≤ 1) ∧ (r75_.toInt = 1 → (0 ≤ r24_.toInt ∧ r24_.toInt ≤ 599)) ∧ (r75_.toInt = 1 → r24_.toInt < (v1 2).toInt) ∧ (r75_.toInt = 1 → zIn f2 (v1 2).toInt r24_.toInt) ∧ (r75_.toInt = 0 → ¬ zIn f2 (v1 2).toInt r24_.toInt) := hw
      obtain ⟨b_, hX75_0, hX75_1, hX75_2, hX75_3⟩ := hw
      obtain ⟨w75_, a75_, b75_, hP1, hK1, hD1⟩ := hB
      rw [ht] at hP1
      obtain ⟨hP, hD⟩ := va_join (wr := [(h0, .inr (4, mX4 h1 h4 h11 h18 (upd (upd (upd (upd v0 4 (u1_ 0)) 5 r24_) 6 z48) 7 (u1_ 1))))]) (w1 := [(h1, .inr (9, mX9 h2 h3 v1)), (h2, zi k2 600 f2)]) hP hD [1, 2] [0] rfl rfl (by decide) (by decide) hk1 hFc hP1 hD1
      have hP : va_P (dC, dI) vwCl [(h0, .inr (4, mX4 h1 h4 h11 h18 (upd (upd (upd (upd v0 4 (u1_ 0)) 5 r24_) 6 z48) 7 (u1_ 1)))), (h1, .inr (9, mX9 h2 h3 v1)), (h2, zi k2 600 f2)] H1 := hP.sub [0, 1, 2] rfl
      have hD : va_D A [(h0, .inr (4, mX4 h1 h4 h11 h18 (upd (upd (upd (upd v0 4 (u1_ 0)) 5 r24_) 6 z48) 7 (u1_ 1)))), (h1, .inr (9, mX9 h2 h3 v1)), (h2, zi k2 600 f2)] := hD.sub [0, 1, 2] (by decide) rfl
      generalize H1 = H at hP hS ⊢
      clear hz1
      refine lv_if_eq (tgt := 107) hx hb dX4_next_78 (by decide) (fun c_ => ?_) (fun c_ => ?_)
      · skip
        have b_ := zT_eq rfl zk_0 c_
        refine lv_iload_n hx hb dX4_next_107 rfl (lv_at hl 0 rfl) ?_
        refine lv_bipush (v := 46) hx hb dX4_next_108 (by decide) ?_
        refine zcutW (fun H locs ls u151_ w151_ a151_ b151_ => va_P (dC, dI) vwCl [(h0, .inr (4, mX4 h1 h4 h11 h18 (upd (upd (upd (upd v0 4 (u1_ 0)) 5 r24_) 6 z48) 7 (u1_ 1)))), (h1, .inr (9, mX9 h2 h3 v1)), (h2, zi k2 600 f2)] H ∧ va_D A [(h0, .inr (4, mX4 h1 h4 h11 h18 (upd (upd (upd (upd v0 4 (u1_ 0)) 5 r24_) 6 z48) 7 (u1_ 1)))), (h1, .inr (9, mX9 h2 h3 v1)), (h2, zi k2 600 f2)] ∧ va_S A s.heap H locs ∧ lv_has ls 2 [(0, .ref h0), (1, .int r38_)]) (fun ls u151_ w151_ => F0 m 151 ls []) 0 0 ?_ (fun hJ151 => ?_)
        · skip
          intro H locs ls u151_ w151_ a151_ b151_ hc
          obtain ⟨hP, hD, hS, hl⟩ := hc
          refine lv_aload_n hx hb dX4_next_151 rfl (lv_at hl 0 rfl) ?_
          refine lv_iload_n hx hb dX4_next_152 rfl (lv_at hl 1 rfl) ?_
          refine va_put (D := (dC, dI)) (ci := 4) (v := .int r38_) (ty := .int) (C := RX4) (T := TX4) (N := 12) hx hb hG zuX4 tyX4 tyX4_ok nmX4 hown hK hP hD hS 0 rfl rfl 4 (by decide) (hG _ zv412) (fun _ h9 => h9) rfl (by decide +kernel) rfl rfl (Nat.le_of_ble_eq_true rfl) dX4_next_153 (fun H locs hP hD hS => ?_)
          have hP : va_P (dC, dI) vwCl [(h0, .inr (4, mX4 h1 h4 h11 h18 (upd (upd (upd (upd v0 4 r38_) 5 r24_) 6 z48) 7 (u1_ 1)))), (h1, .inr (9, mX9 h2 h3 v1)), (h2, zi k2 600 f2)] H := hP
          have hD : va_D A [(h0, .inr (4, mX4 h1 h4 h11 h18 (upd (upd (upd (upd v0 4 r38_) 5 r24_) 6 z48) 7 (u1_ 1)))), (h1, .inr (9, mX9 h2 h3 v1)), (h2, zi k2 600 f2)] := hD
          refine W.widen (k := 0) (n := 0) (by decide) (by decide) ?_
          have b_ : -2147483648 ≤ z48.toInt ∧ z48.toInt ≤ 2147483647 := ⟨zlo _, zhi _⟩
          have b_ : -2147483648 ≤ (u1_ 1).toInt ∧ (u1_ 1).toInt ≤ 2147483647 := ⟨zlo _, zhi _⟩
          have hpost : (0 ≤ r38_.toInt ∧ r38_.toInt ≤ 265) := (by first | with_reducible assumption | exact ⟨by omega, by omega⟩)
          have hP9 : va_P (dC, dI) vwCl [(h0, .inr (4, mX4 h1 h4 h11 h18 (upd (upd (upd (upd v0 4 r38_) 5 r24_) 6 z48) 7 (u1_ 1)))), (h1, .inr (9, mX9 h2 h3 v1)), (h2, zi k2 600 f2)] H := hP
          have hD9 : va_D A [(h0, .inr (4, mX4 h1 h4 h11 h18 (upd (upd (upd (upd v0 4 r38_) 5 r24_) 6 z48) 7 (u1_ 1)))), (h1, .inr (9, mX9 h2 h3 v1)), (h2, zi k2 600 f2)] := hD
          exact W.vret hx hb hr (fun t ht hW => ⟨⟨(fun i => ([r38_, r24_, z48, (u1_ 1)] : List (Int32)).getD i 0), rfl, hpost, (fun _ => 0), (fun _ => (fun _ => 0)), (fun _ => (fun _ => 0)), by rw [ht]; exact hP9, va_K.moved hW.alike hK, hD9⟩, hS.F ht⟩) hS.2.2 dX4_next_156
        · skip
          refine lv_icmp_ne (tgt := 151) hx hb dX4_next_110 (by decide) (fun c_ => ?_) (fun c_ => ?_)
          · skip
            have b_ := zT_ne rfl zk_46 c_
            have hc : va_P (dC, dI) vwCl [(h0, .inr (4, mX4 h1 h4 h11 h18 (upd (upd (upd (upd v0 4 (u1_ 0)) 5 r24_) 6 z48) 7 (u1_ 1)))), (h1, .inr (9, mX9 h2 h3 v1)), (h2, zi k2 600 f2)] H ∧ va_D A [(h0, .inr (4, mX4 h1 h4 h11 h18 (upd (upd (upd (upd v0 4 (u1_ 0)) 5 r24_) 6 z48) 7 (u1_ 1)))), (h1, .inr (9, mX9 h2 h3 v1)), (h2, zi k2 600 f2)] ∧ va_S A s.heap H locs ∧ lv_has ls 2 [(0, .ref h0), (1, .int r38_)] := ⟨hP, hD, hS, lv_sub hl [1, 0] rfl⟩
            exact hJ151 H locs ls (fun _ => 0) (fun _ => 0) (fun _ => (fun _ => 0)) (fun _ => (fun _ => 0)) hc
          · skip
            have b_ := zF_ne rfl zk_46 c_
            refine lv_aload_n hx hb dX4_next_113 rfl (lv_at hl 1 rfl) ?_
            refine va_get (D := (dC, dI)) (ci := 4) (v := .ref h1) (C := RX4) (T := TX4) (N := 12) hx hb hG zuX4 hown hK hP 0 rfl rfl 0 (by decide) (hG _ zv408) (fun _ h9 => h9) rfl dX4_next_114 ?_
            refine lv_aload_n hx hb dX4_next_117 rfl (lv_at hl 1 rfl) ?_
            refine va_get (D := (dC, dI)) (ci := 4) (v := .int r24_) (C := RX4) (T := TX4) (N := 12) hx hb hG zuX4 hown hK hP 0 rfl rfl 5 (by decide) (hG _ zv413) (fun _ h9 => h9) rfl dX4_next_118 ?_
            refine lv_iconst (v := 1) hx hb dX4_next_121 (by decide) ?_
            refine lv_iadd hx hb dX4_next_122 ?_
            refine lv_topi (fun z122 e_z122 => ?_)
            have hPc := hP.sub (ws' := [(h1, .inr (9, mX9 h2 h3 v1)), (h2, zi k2 600 f2)]) [1, 2] rfl
            have hDc := hD.sub (ws' := [(h1, .inr (9, mX9 h2 h3 v1)), (h2, zi k2 600 f2)]) [1, 2] (by decide) rfl
            have hKc := hK.sub (tys' := [(k2, .byte)]) [0] rfl
            have hFc := va_free (wc := [(h1, .inr (9, mX9 h2 h3 v1)), (h2, zi k2 600 f2)]) hD hS hA [1, 2] rfl
            refine va_calli (va_runV (As := [.int z122]) (rest := []) ⟨hx, hb, hml, hown, hG⟩ (sX9_at_0 l dC dI adK adV h1 h2 h3 k2 H.size v1 f2 z122 hv1) (cwV 1 hG (zgV zv1032 zv641 zv642 zv130 zv643) rfl rfl rfl (by decide +kernel) ⟨Nat.le_of_ble_eq_true rfl, Nat.le_of_ble_eq_true rfl⟩) ⟨zPc_blind, va_recv hKc hPc (ci := 9) (q0 := 0) rfl rfl, zPc_pre hPc hKc hDc hE hS hFc hZ⟩ rfl rfl hl.1 rfl (lv_room (Nat.le_of_ble_eq_true rfl)) dX4_next_123 ⟨Nat.le_of_ble_eq_true rfl, Nat.le_of_ble_eq_true rfl⟩) hS (fun q _ h => hFc q h) hFc (fun r123_ u123_ t H1 locs ht hvm hw hB hz1 hk1 hS => ?_)
            replace hw : ((-1) ≤ r123_.toInt ∧ r123_.toInt ≤ 255) ∧ (0 ≤ z122.toInt ∧ z122.toInt < (v1 2).toInt → r123_.toInt = (f2 ((z122 : Int32)).toNatClampNeg &&& 255).toInt) ∧ (r123_.toInt ≠ -1 → 0 ≤ z122.toInt ∧ z122.toInt < (v1 2).toInt ∧ z122.toInt < 600) := hw
            obtain ⟨b_, hX123_0, hX123_1⟩ := hw
            obtain ⟨w123_, a123_, b123_, hP1, hK1, hD1⟩ := hB
            rw [ht] at hP1
            obtain ⟨hP, hD⟩ := va_join (wr := [(h0, .inr (4, mX4 h1 h4 h11 h18 (upd (upd (upd (upd v0 4 (u1_ 0)) 5 r24_) 6 z48) 7 (u1_ 1))))]) (w1 := [(h1, .inr (9, mX9 h2 h3 v1)), (h2, zi k2 600 f2)]) hP hD [1, 2] [0] rfl rfl (by decide) (by decide) hk1 hFc hP1 hD1
            have hP : va_P (dC, dI) vwCl [(h0, .inr (4, mX4 h1 h4 h11 h18 (upd (upd (upd (upd v0 4 (u1_ 0)) 5 r24_) 6 z48) 7 (u1_ 1)))), (h1, .inr (9, mX9 h2 h3 v1)), (h2, zi k2 600 f2)] H1 := hP.sub [0, 1, 2] rfl
            have hD : va_D A [(h0, .inr (4, mX4 h1 h4 h11 h18 (upd (upd (upd (upd v0 4 (u1_ 0)) 5 r24_) 6 z48) 7 (u1_ 1)))), (h1, .inr (9, mX9 h2 h3 v1)), (h2, zi k2 600 f2)] := hD.sub [0, 1, 2] (by decide) rfl
            generalize H1 = H at hP hS ⊢
            clear hz1
            refine lv_bipush (v := 46) hx hb dX4_next_126 (by decide) ?_
            refine lv_icmp_ne (tgt := 151) hx hb dX4_next_128 (by decide) (fun c_ => ?_) (fun c_ => ?_)
            · skip
              have b_ := zT_ne rfl zk_46 c_
              have hc : va_P (dC, dI) vwCl [(h0, .inr (4, mX4 h1 h4 h11 h18 (upd (upd (upd (upd v0 4 (u1_ 0)) 5 r24_) 6 z48) 7 (u1_ 1)))), (h1, .inr (9, mX9 h2 h3 v1)), (h2, zi k2 600 f2)] H ∧ va_D A [(h0, .inr (4, mX4 h1 h4 h11 h18 (upd (upd (upd (upd v0 4 (u1_ 0)) 5 r24_) 6 z48) 7 (u1_ 1)))), (h1, .inr (9, mX9 h2 h3 v1)), (h2, zi k2 600 f2)] ∧ va_S A s.heap H locs ∧ lv_has ls 2 [(0, .ref h0), (1, .int r38_)] := ⟨hP, hD, hS, lv_sub hl [1, 0] rfl⟩
              exact hJ151 H locs ls (fun _ => 0) (fun _ => 0) (fun _ => (fun _ => 0)) (fun _ => (fun _ => 0)) hc
            · skip
              have b_ := zF_ne rfl zk_46 c_
              refine lv_aload_n hx hb dX4_next_131 rfl (lv_at hl 1 rfl) ?_
              refine lv_aload_n hx hb dX4_next_132 rfl (lv_at hl 1 rfl) ?_
              refine va_get (D := (dC, dI)) (ci := 4) (v := .int r24_) (C := RX4) (T := TX4) (N := 12) hx hb hG zuX4 hown hK hP 0 rfl rfl 5 (by decide) (hG _ zv413) (fun _ h9 => h9) rfl dX4_next_133 ?_
              refine lv_iconst (v := 2) hx hb dX4_next_136 (by decide) ?_
              refine lv_iadd hx hb dX4_next_137 ?_
              refine lv_topi (fun z137 e_z137 => ?_)
              refine va_put (D := (dC, dI)) (ci := 4) (v := .int z137) (ty := .int) (C := RX4) (T := TX4) (N := 12) hx hb hG zuX4 tyX4 tyX4_ok nmX4 hown hK hP hD hS 0 rfl rfl 6 (by decide) (hG _ zv414) (fun _ h9 => h9) rfl (by decide +kernel) rfl rfl (Nat.le_of_ble_eq_true rfl) dX4_next_138 (fun H locs hP hD hS => ?_)
              have hP : va_P (dC, dI) vwCl [(h0, .inr (4, mX4 h1 h4 h11 h18 (upd (upd (upd (upd v0 4 (u1_ 0)) 5 r24_) 6 z137) 7 (u1_ 1)))), (h1, .inr (9, mX9 h2 h3 v1)), (h2, zi k2 600 f2)] H := hP
              have hD : va_D A [(h0, .inr (4, mX4 h1 h4 h11 h18 (upd (upd (upd (upd v0 4 (u1_ 0)) 5 r24_) 6 z137) 7 (u1_ 1)))), (h1, .inr (9, mX9 h2 h3 v1)), (h2, zi k2 600 f2)] := hD
              refine lv_aload_n hx hb dX4_next_141 rfl (lv_at hl 1 rfl) ?_
              refine lv_sipush (v := 264) hx hb dX4_next_142 (by decide) ?_
              refine va_put (D := (dC, dI)) (ci := 4) (v := .int 264) (ty := .int) (C := RX4) (T := TX4) (N := 12) hx hb hG zuX4 tyX4 tyX4_ok nmX4 hown hK hP hD hS 0 rfl rfl 4 (by decide) (hG _ zv412) (fun _ h9 => h9) rfl (by decide +kernel) rfl rfl (Nat.le_of_ble_eq_true rfl) dX4_next_145 (fun H locs hP hD hS => ?_)
              have hP : va_P (dC, dI) vwCl [(h0, .inr (4, mX4 h1 h4 h11 h18 (upd (upd (upd (upd v0 4 264) 5 r24_) 6 z137) 7 (u1_ 1)))), (h1, .inr (9, mX9 h2 h3 v1)), (h2, zi k2 600 f2)] H := hP
              have hD : va_D A [(h0, .inr (4, mX4 h1 h4 h11 h18 (upd (upd (upd (upd v0 4 264) 5 r24_) 6 z137) 7 (u1_ 1)))), (h1, .inr (9, mX9 h2 h3 v1)), (h2, zi k2 600 f2)] := hD
              refine lv_goto (tgt := 156) hx hb dX4_next_148 (by decide) ?_
              refine W.widen (k := 0) (n := 0) (by decide) (by decide) ?_
              have b_ : -2147483648 ≤ z137.toInt ∧ z137.toInt ≤ 2147483647 := ⟨zlo _, zhi _⟩
              have b_ : -2147483648 ≤ (u1_ 1).toInt ∧ (u1_ 1).toInt ≤ 2147483647 := ⟨zlo _, zhi _⟩
              have hpost : (0 ≤ (264 : Int32).toInt ∧ (264 : Int32).toInt ≤ 265) := (by first | with_reducible assumption | exact ⟨by omega, by omega⟩)
              have hP9 : va_P (dC, dI) vwCl [(h0, .inr (4, mX4 h1 h4 h11 h18 (upd (upd (upd (upd v0 4 264) 5 r24_) 6 z137) 7 (u1_ 1)))), (h1, .inr (9, mX9 h2 h3 v1)), (h2, zi k2 600 f2)] H := hP
              have hD9 : va_D A [(h0, .inr (4, mX4 h1 h4 h11 h18 (upd (upd (upd (upd v0 4 264) 5 r24_) 6 z137) 7 (u1_ 1)))), (h1, .inr (9, mX9 h2 h3 v1)), (h2, zi k2 600 f2)] := hD
              exact W.vret hx hb hr (fun t ht hW => ⟨⟨(fun i => ([264, r24_, z137, (u1_ 1)] : List (Int32)).getD i 0), rfl, hpost, (fun _ => 0), (fun _ => (fun _ => 0)), (fun _ => (fun _ => 0)), by rw [ht]; exact hP9, va_K.moved hW.alike hK, hD9⟩, hS.F ht⟩) hS.2.2 dX4_next_156
      · skip
        have b_ := zF_eq rfl zk_0 c_
        refine lv_aload_n hx hb dX4_next_81 rfl (lv_at hl 1 rfl) ?_
        refine lv_aload_n hx hb dX4_next_82 rfl (lv_at hl 1 rfl) ?_
        refine va_get (D := (dC, dI)) (ci := 4) (v := .ref h1) (C := RX4) (T := TX4) (N := 12) hx hb hG zuX4 hown hK hP 0 rfl rfl 0 (by decide) (hG _ zv408) (fun _ h9 => h9) rfl dX4_next_83 ?_
        refine lv_aload_n hx hb dX4_next_86 rfl (lv_at hl 1 rfl) ?_
        refine va_get (D := (dC, dI)) (ci := 4) (v := .int r24_) (C := RX4) (T := TX4) (N := 12) hx hb hG zuX4 hown hK hP 0 rfl rfl 5 (by decide) (hG _ zv413) (fun _ h9 => h9) rfl dX4_next_87 ?_
        have hPc := hP.sub (ws' := [(h1, .inr (9, mX9 h2 h3 v1)), (h2, zi k2 600 f2)]) [1, 2] rfl
        have hDc := hD.sub (ws' := [(h1, .inr (9, mX9 h2 h3 v1)), (h2, zi k2 600 f2)]) [1, 2] (by decide) rfl
        have hKc := hK.sub (tys' := [(k2, .byte)]) [0] rfl
        have hFc := va_free (wc := [(h1, .inr (9, mX9 h2 h3 v1)), (h2, zi k2 600 f2)]) hD hS hA [1, 2] rfl
        refine va_calli (va_runV (As := [.int r24_]) (rest := [.ref h0]) ⟨hx, hb, hml, hown, hG⟩ (sX9_tokenEnd_0 l dC dI adK adV h1 h2 h3 k2 H.size v1 f2 r24_ hv1) (cwV 1 hG (zgV zv1034 zv1035 zv1036 zv130 zv1037) rfl rfl rfl (by decide +kernel) ⟨Nat.le_of_ble_eq_true rfl, Nat.le_of_ble_eq_true rfl⟩) ⟨zPc_blind, va_recv hKc hPc (ci := 9) (q0 := 0) rfl rfl, zPc_pre hPc hKc hDc hE hS hFc hZ⟩ rfl rfl hl.1 rfl (lv_room (Nat.le_of_ble_eq_true rfl)) dX4_next_90 ⟨Nat.le_of_ble_eq_true rfl, Nat.le_of_ble_eq_true rfl⟩) hS (fun q _ h => hFc q h) hFc (fun r90_ u90_ t H1 locs ht hvm hw hB hz1 hk1 hS => ?_)
        replace hw : (r24_.toInt ≤ r90_.toInt) ∧ (r24_.toInt ≤ 600 → r90_.toInt ≤ 600) := hw
        obtain ⟨hX90_0, hX90_1⟩ := hw
        obtain ⟨w90_, a90_, b90_, hP1, hK1, hD1⟩ := hB
        rw [ht] at hP1
        obtain ⟨hP, hD⟩ := va_join (wr := [(h0, .inr (4, mX4 h1 h4 h11 h18 (upd (upd (upd (upd v0 4 (u1_ 0)) 5 r24_) 6 z48) 7 (u1_ 1))))]) (w1 := [(h1, .inr (9, mX9 h2 h3 v1)), (h2, zi k2 600 f2)]) hP hD [1, 2] [0] rfl rfl (by decide) (by decide) hk1 hFc hP1 hD1
        have hP : va_P (dC, dI) vwCl [(h0, .inr (4, mX4 h1 h4 h11 h18 (upd (upd (upd (upd v0 4 (u1_ 0)) 5 r24_) 6 z48) 7 (u1_ 1)))), (h1, .inr (9, mX9 h2 h3 v1)), (h2, zi k2 600 f2)] H1 := hP.sub [0, 1, 2] rfl
        have hD : va_D A [(h0, .inr (4, mX4 h1 h4 h11 h18 (upd (upd (upd (upd v0 4 (u1_ 0)) 5 r24_) 6 z48) 7 (u1_ 1)))), (h1, .inr (9, mX9 h2 h3 v1)), (h2, zi k2 600 f2)] := hD.sub [0, 1, 2] (by decide) rfl
        generalize H1 = H at hP hS ⊢
        clear hz1
        refine va_put (D := (dC, dI)) (ci := 4) (v := .int r90_) (ty := .int) (C := RX4) (T := TX4) (N := 12) hx hb hG zuX4 tyX4 tyX4_ok nmX4 hown hK hP hD hS 0 rfl rfl 6 (by decide) (hG _ zv414) (fun _ h9 => h9) rfl (by decide +kernel) rfl rfl (Nat.le_of_ble_eq_true rfl) dX4_next_93 (fun H locs hP hD hS => ?_)
        have hP : va_P (dC, dI) vwCl [(h0, .inr (4, mX4 h1 h4 h11 h18 (upd (upd (upd (upd v0 4 (u1_ 0)) 5 r24_) 6 r90_) 7 (u1_ 1)))), (h1, .inr (9, mX9 h2 h3 v1)), (h2, zi k2 600 f2)] H := hP
        have hD : va_D A [(h0, .inr (4, mX4 h1 h4 h11 h18 (upd (upd (upd (upd v0 4 (u1_ 0)) 5 r24_) 6 r90_) 7 (u1_ 1)))), (h1, .inr (9, mX9 h2 h3 v1)), (h2, zi k2 600 f2)] := hD
        refine lv_aload_n hx hb dX4_next_96 rfl (lv_at hl 1 rfl) ?_
        refine lv_aload_n hx hb dX4_next_97 rfl (lv_at hl 1 rfl) ?_
        have b_ : -2147483648 ≤ (u1_ 1).toInt ∧ (u1_ 1).toInt ≤ 2147483647 := ⟨zlo _, zhi _⟩
        have b_ : -2147483648 ≤ r90_.toInt ∧ r90_.toInt ≤ 2147483647 := ⟨zlo _, zhi _⟩
        have hPc := hP.sub (ws' := [(h0, .inr (4, mX4 h1 h4 h11 h18 (upd (upd (upd (upd v0 4 (u1_ 0)) 5 r24_) 6 r90_) 7 (u1_ 1)))), (h1, .inr (9, mX9 h2 h3 v1)), (h2, zi k2 600 f2)]) [0, 1, 2] rfl
        have hDc := hD.sub (ws' := [(h0, .inr (4, mX4 h1 h4 h11 h18 (upd (upd (upd (upd v0 4 (u1_ 0)) 5 r24_) 6 r90_) 7 (u1_ 1)))), (h1, .inr (9, mX9 h2 h3 v1)), (h2, zi k2 600 f2)]) [0, 1, 2] (by decide) rfl
        have hKc := hK.sub (tys' := [(k2, .byte)]) [0] rfl
        have hFc := va_free (wc := [(h0, .inr (4, mX4 h1 h4 h11 h18 (upd (upd (upd (upd v0 4 (u1_ 0)) 5 r24_) 6 r90_) 7 (u1_ 1)))), (h1, .inr (9, mX9 h2 h3 v1)), (h2, zi k2 600 f2)]) hD hS hA [0, 1, 2] rfl
        refine va_calli (va_runV (As := []) (rest := [.ref h0]) ⟨hx, hb, hml, hown, hG⟩ (sX4_sortOfRun_0 l dC dI adK adV h0 h1 h2 h4 h11 h18 h3 k2 H.size (upd (upd (upd (upd v0 4 (u1_ 0)) 5 r24_) 6 r90_) 7 (u1_ 1)) v1 f2 (zR_updF (zR_updF (zR_updF (zR_updF hv0 4 rfl) 5 rfl) 6 rfl) 7 rfl) hv1 (show 0 ≤ r24_.toInt ∧ r24_.toInt ≤ 599 ∧ 0 ≤ r90_.toInt ∧ r90_.toInt ≤ 601 from by omega)) (cwV 0 hG (zgV zv1038 zv1040 zv14 zv137 zv1041) rfl rfl rfl (by decide +kernel) ⟨Nat.le_of_ble_eq_true rfl, Nat.le_of_ble_eq_true rfl⟩) ⟨zPc_blind, va_recv hKc hPc (ci := 4) (q0 := 0) rfl rfl, zPc_pre hPc hKc hDc hE hS hFc hZ⟩ rfl rfl hl.1 rfl (lv_room (Nat.le_of_ble_eq_true rfl)) dX4_next_98 ⟨Nat.le_of_ble_eq_true rfl, Nat.le_of_ble_eq_true rfl⟩) hS (fun q _ h => hFc q h) hFc (fun r98_ u98_ t H1 locs ht hvm hw hB hz1 hk1 hS => ?_)
        replace hw : (257 ≤ r98_.toInt ∧ r98_.toInt ≤ 263) := hw
        have b_ := hw
        obtain ⟨w98_, a98_, b98_, hP1, hK1, hD1⟩ := hB
        rw [ht] at hP1
        obtain ⟨hP, hD⟩ := va_join (wr := []) (w1 := [(h0, .inr (4, mX4 h1 h4 h11 h18 (upd (upd (upd (upd v0 4 (u1_ 0)) 5 r24_) 6 (u98_ 0)) 7 (u1_ 1)))), (h1, .inr (9, mX9 h2 h3 v1)), (h2, zi k2 600 f2)]) hP hD [0, 1, 2] [] rfl rfl (by decide) (by decide) hk1 hFc hP1 hD1
        have hP : va_P (dC, dI) vwCl [(h0, .inr (4, mX4 h1 h4 h11 h18 (upd (upd (upd (upd v0 4 (u1_ 0)) 5 r24_) 6 (u98_ 0)) 7 (u1_ 1)))), (h1, .inr (9, mX9 h2 h3 v1)), (h2, zi k2 600 f2)] H1 := hP.sub [0, 1, 2] rfl
        have hD : va_D A [(h0, .inr (4, mX4 h1 h4 h11 h18 (upd (upd (upd (upd v0 4 (u1_ 0)) 5 r24_) 6 (u98_ 0)) 7 (u1_ 1)))), (h1, .inr (9, mX9 h2 h3 v1)), (h2, zi k2 600 f2)] := hD.sub [0, 1, 2] (by decide) rfl
        generalize H1 = H at hP hS ⊢
        clear hz1
        refine va_put (D := (dC, dI)) (ci := 4) (v := .int r98_) (ty := .int) (C := RX4) (T := TX4) (N := 12) hx hb hG zuX4 tyX4 tyX4_ok nmX4 hown hK hP hD hS 0 rfl rfl 4 (by decide) (hG _ zv412) (fun _ h9 => h9) rfl (by decide +kernel) rfl rfl (Nat.le_of_ble_eq_true rfl) dX4_next_101 (fun H locs hP hD hS => ?_)
        have hP : va_P (dC, dI) vwCl [(h0, .inr (4, mX4 h1 h4 h11 h18 (upd (upd (upd (upd v0 4 r98_) 5 r24_) 6 (u98_ 0)) 7 (u1_ 1)))), (h1, .inr (9, mX9 h2 h3 v1)), (h2, zi k2 600 f2)] H := hP
        have hD : va_D A [(h0, .inr (4, mX4 h1 h4 h11 h18 (upd (upd (upd (upd v0 4 r98_) 5 r24_) 6 (u98_ 0)) 7 (u1_ 1)))), (h1, .inr (9, mX9 h2 h3 v1)), (h2, zi k2 600 f2)] := hD
        refine lv_goto (tgt := 156) hx hb dX4_next_104 (by decide) ?_
        refine W.widen (k := 0) (n := 0) (by decide) (by decide) ?_
        have b_ : -2147483648 ≤ (u98_ 0).toInt ∧ (u98_ 0).toInt ≤ 2147483647 := ⟨zlo _, zhi _⟩
        have hpost : (0 ≤ r98_.toInt ∧ r98_.toInt ≤ 265) := (by first | with_reducible assumption | exact ⟨by omega, by omega⟩)
        have hP9 : va_P (dC, dI) vwCl [(h0, .inr (4, mX4 h1 h4 h11 h18 (upd (upd (upd (upd v0 4 r98_) 5 r24_) 6 (u98_ 0)) 7 (u1_ 1)))), (h1, .inr (9, mX9 h2 h3 v1)), (h2, zi k2 600 f2)] H := hP
        have hD9 : va_D A [(h0, .inr (4, mX4 h1 h4 h11 h18 (upd (upd (upd (upd v0 4 r98_) 5 r24_) 6 (u98_ 0)) 7 (u1_ 1)))), (h1, .inr (9, mX9 h2 h3 v1)), (h2, zi k2 600 f2)] := hD
        exact W.vret hx hb hr (fun t ht hW => ⟨⟨(fun i => ([r98_, r24_, (u98_ 0), (u1_ 1)] : List (Int32)).getD i 0), rfl, hpost, (fun _ => 0), (fun _ => (fun _ => 0)), (fun _ => (fun _ => 0)), by rw [ht]; exact hP9, va_K.moved hW.alike hK, hD9⟩, hS.F ht⟩) hS.2.2 dX4_next_156
    · skip
      have b_ := zF_ne rfl zk_m1 c_
      refine lv_aload_n hx hb dX4_next_57 rfl (lv_at hl 1 rfl) ?_
      refine lv_sipush (v := 256) hx hb dX4_next_58 (by decide) ?_
      refine va_put (D := (dC, dI)) (ci := 4) (v := .int 256) (ty := .int) (C := RX4) (T := TX4) (N := 12) hx hb hG zuX4 tyX4 tyX4_ok nmX4 hown hK hP hD hS 0 rfl rfl 4 (by decide) (hG _ zv412) (fun _ h9 => h9) rfl (by decide +kernel) rfl rfl (Nat.le_of_ble_eq_true rfl) dX4_next_61 (fun H locs hP hD hS => ?_)
      have hP : va_P (dC, dI) vwCl [(h0, .inr (4, mX4 h1 h4 h11 h18 (upd (upd (upd (upd v0 4 256) 5 r24_) 6 z48) 7 (u1_ 1)))), (h1, .inr (9, mX9 h2 h3 v1)), (h2, zi k2 600 f2)] H := hP
      have hD : va_D A [(h0, .inr (4, mX4 h1 h4 h11 h18 (upd (upd (upd (upd v0 4 256) 5 r24_) 6 z48) 7 (u1_ 1)))), (h1, .inr (9, mX9 h2 h3 v1)), (h2, zi k2 600 f2)] := hD
      refine lv_goto (tgt := 156) hx hb dX4_next_64 (by decide) ?_
      refine W.widen (k := 0) (n := 0) (by decide) (by decide) ?_
      have b_ : -2147483648 ≤ z48.toInt ∧ z48.toInt ≤ 2147483647 := ⟨zlo _, zhi _⟩
      have b_ : -2147483648 ≤ (u1_ 1).toInt ∧ (u1_ 1).toInt ≤ 2147483647 := ⟨zlo _, zhi _⟩
      have hpost : (0 ≤ (256 : Int32).toInt ∧ (256 : Int32).toInt ≤ 265) := (by first | with_reducible assumption | exact ⟨by omega, by omega⟩)
      have hP9 : va_P (dC, dI) vwCl [(h0, .inr (4, mX4 h1 h4 h11 h18 (upd (upd (upd (upd v0 4 256) 5 r24_) 6 z48) 7 (u1_ 1)))), (h1, .inr (9, mX9 h2 h3 v1)), (h2, zi k2 600 f2)] H := hP
      have hD9 : va_D A [(h0, .inr (4, mX4 h1 h4 h11 h18 (upd (upd (upd (upd v0 4 256) 5 r24_) 6 z48) 7 (u1_ 1)))), (h1, .inr (9, mX9 h2 h3 v1)), (h2, zi k2 600 f2)] := hD
      exact W.vret hx hb hr (fun t ht hW => ⟨⟨(fun i => ([256, r24_, z48, (u1_ 1)] : List (Int32)).getD i 0), rfl, hpost, (fun _ => 0), (fun _ => (fun _ => 0)), (fun _ => (fun _ => 0)), by rw [ht]; exact hP9, va_K.moved hW.alike hK, hD9⟩, hS.F ht⟩) hS.2.2 dX4_next_156
  · skip
    have b_ := zF_ne rfl zk_265 c_
    refine W.widen (k := 0) (n := 0) (by decide) (by decide) ?_
    have b_ : -2147483648 ≤ (v0 5).toInt ∧ (v0 5).toInt ≤ 2147483647 := ⟨zlo _, zhi _⟩
    have b_ : -2147483648 ≤ (v0 6).toInt ∧ (v0 6).toInt ≤ 2147483647 := ⟨zlo _, zhi _⟩
    have b_ : -2147483648 ≤ (u1_ 1).toInt ∧ (u1_ 1).toInt ≤ 2147483647 := ⟨zlo _, zhi _⟩
    have hpost : (0 ≤ (u1_ 0).toInt ∧ (u1_ 0).toInt ≤ 265) := (by first | with_reducible assumption | exact ⟨by omega, by omega⟩)
    have hP9 : va_P (dC, dI) vwCl [(h0, .inr (4, mX4 h1 h4 h11 h18 (upd (upd (upd (upd v0 4 (u1_ 0)) 5 (v0 5)) 6 (v0 6)) 7 (u1_ 1)))), (h1, .inr (9, mX9 h2 h3 v1)), (h2, zi k2 600 f2)] H := hP
    have hD9 : va_D A [(h0, .inr (4, mX4 h1 h4 h11 h18 (upd (upd (upd (upd v0 4 (u1_ 0)) 5 (v0 5)) 6 (v0 6)) 7 (u1_ 1)))), (h1, .inr (9, mX9 h2 h3 v1)), (h2, zi k2 600 f2)] := hD
    exact W.vret hx hb hr (fun t ht hW => ⟨⟨(fun i => ([(u1_ 0), (v0 5), (v0 6), (u1_ 1)] : List (Int32)).getD i 0), rfl, hpost, (fun _ => 0), (fun _ => (fun _ => 0)), (fun _ => (fun _ => 0)), by rw [ht]; exact hP9, va_K.moved hW.alike hK, hD9⟩, hS.F ht⟩) hS.2.2 dX4_next_14
set_option maxHeartbeats 8000000 in
set_option maxRecDepth 100000 in
theorem sX4_testLeafRoom_0 (l : Launch) (dC : Nat → ClassId) (dI : Nat → Nat → Nat) (adK adV : Nat → Nat) (h0 : Nat) (h18 : Nat) (h1 : Nat) (h4 : Nat) (h11 : Nat) (h19 : Nat) (h20 : Nat) (h21 : Nat) (h22 : Nat) (h23 : Nat) (h24 : Nat) (h25 : Nat) (sz : Nat) (v0 : Nat → Int32) (v18 : Nat → Int32) (hv0 : zR rg_Parser v0) (hv18 : zR rg_Query v18) : Met l yX4_testLeafRoom (zw yX4_testLeafRoom cX4_testLeafRoom 1 none) { frames := 1, cells := 0, slots := 0, locals := 22 } (zPc dC dI adK adV [.ref h0] sz [(h0, .inr (4, mX4 h1 h4 h11 h18 v0)), (h18, .inr (7, mX7 h19 h20 h21 h22 h23 h24 h25 v18))] []) (va_Qv (fun (u : Nat → Int32) => True) (fun (u : Nat → Int32) (t : State) => ∃ (ww : Nat → Int64) (aa : Nat → Nat → Int32) (bb : Nat → Nat → Int64), va_P (dC, dI) vwCl [(h0, .inr (4, mX4 h1 h4 h11 h18 (upd (upd v0 4 (u 0)) 7 (u 1)))), (h18, .inr (7, mX7 h19 h20 h21 h22 h23 h24 h25 v18))] t.heap ∧ va_K (dC, dI) vwCl [] t ∧ va_D (va_A [(h0, .inr (4, mX4 h1 h4 h11 h18 v0)), (h18, .inr (7, mX7 h19 h20 h21 h22 h23 h24 h25 v18))] sz) [(h0, .inr (4, mX4 h1 h4 h11 h18 (upd (upd v0 4 (u 0)) 7 (u 1)))), (h18, .inr (7, mX7 h19 h20 h21 h22 h23 h24 h25 v18))]) (va_A [(h0, .inr (4, mX4 h1 h4 h11 h18 v0)), (h18, .inr (7, mX7 h19 h20 h21 h22 h23 h24 h25 v18))] sz)) 0 0 (va_A [(h0, .inr (4, mX4 h1 h4 h11 h18 v0)), (h18, .inr (7, mX7 h19 h20 h21 h22 h23 h24 h25 v18))] sz) := by
  refine Met.ofW (cc := cX4_testLeafRoom) (maxL := 1) (ret := none) (by decide) rfl ?_
  intro p e s m args below meth c s₁ B hml hv
  obtain ⟨rfl, hsz, hP, hK, hD0, hE, hZ⟩ := hv
  have hx := B.exec
  have hb := B.bytes
  have hr := B.returns
  have hG : ∀ w ∈ zG, w.before _ s = true := fun w h => atoms_spec (ws := (zw yX4_testLeafRoom cX4_testLeafRoom 1 none)) B.pre w (List.mem_cons_of_mem _ h)
  have hown : s.vm.findClass RX4 = some m.cls := findClass_of_methodNamed B.named
  have hlocks := B.notSynchronized

  subst hsz
  have hD := hD0.self (sz := s.heap.size)
  generalize hAe : va_A [(h0, .inr (4, mX4 h1 h4 h11 h18 v0)), (h18, .inr (7, mX7 h19 h20 h21 h22 h23 h24 h25 v18))] s.heap.size = A at hD hZ ⊢
  have hA : ∀ q : Nat, s.heap.size ≤ q → A q := fun q h => by rw [← hAe]; exact Or.inr h
  have hS : va_S A s.heap s.heap [] := va_S.rf
  have hl := lv_entry ([.ref h0]) (n := 1) (Nat.le_of_ble_eq_true rfl)
  rw [lg_entry_eq]
  generalize (lg_sl ([.ref h0]) ++ List.replicate (1 - (lg_sl ([.ref h0])).length) Slot.unset).toArray = ls at hl ⊢
  have hl : lv_has ls 1 [(0, .ref h0)] := hl
  refine lv_aload_n hx hb dX4_testLeafRoom_0 rfl (lv_at hl 0 rfl) ?_
  refine va_get (D := (dC, dI)) (ci := 4) (v := .ref h18) (C := RX4) (T := TX4) (N := 12) hx hb hG zuX4 hown hK hP 0 rfl rfl 3 (by decide) (hG _ zv411) (fun _ h9 => h9) rfl dX4_testLeafRoom_1 ?_
  have hPc := hP.sub (ws' := [(h18, .inr (7, mX7 h19 h20 h21 h22 h23 h24 h25 v18))]) [1] rfl
  have hDc := hD.sub (ws' := [(h18, .inr (7, mX7 h19 h20 h21 h22 h23 h24 h25 v18))]) [1] (by decide) rfl
  have hKc := hK.sub (tys' := []) [] rfl
  have hFc := va_free (wc := [(h18, .inr (7, mX7 h19 h20 h21 h22 h23 h24 h25 v18))]) hD hS hA [1] rfl
  refine va_calli (va_runV (As := []) (rest := []) ⟨hx, hb, hml, hown, hG⟩ (sX7_leaves_0 l dC dI adK adV h18 h19 h20 h21 h22 h23 h24 h25 s.heap.size v18 hv18) (cwV 0 hG (zgV zv1092 zv1093 zv1094 zv136 zv1095) rfl rfl rfl (by decide +kernel) ⟨Nat.le_of_ble_eq_true rfl, Nat.le_of_ble_eq_true rfl⟩) ⟨zPc_blind, va_recv hKc hPc (ci := 7) (q0 := 0) rfl rfl, zPc_pre hPc hKc hDc hE hS hFc hZ⟩ rfl rfl hl.1 rfl (lv_room (Nat.le_of_ble_eq_true rfl)) dX4_testLeafRoom_4 ⟨Nat.le_of_ble_eq_true rfl, Nat.le_of_ble_eq_true rfl⟩) hS (fun q _ h => hFc q h) hFc (fun r4_ u4_ t H1 locs ht hvm hw hB hz1 hk1 hS => ?_)
  replace hw : (0 ≤ r4_.toInt ∧ r4_.toInt ≤ 40) ∧ (r4_.toInt = (v18 7).toInt) := hw
  obtain ⟨b_, hX4_0⟩ := hw
  obtain ⟨w4_, a4_, b4_, hP1, hK1, hD1⟩ := hB
  rw [ht] at hP1
  obtain ⟨hP, hD⟩ := va_join (wr := [(h0, .inr (4, mX4 h1 h4 h11 h18 v0))]) (w1 := [(h18, .inr (7, mX7 h19 h20 h21 h22 h23 h24 h25 v18))]) hP hD [1] [0] rfl rfl (by decide) (by decide) hk1 hFc hP1 hD1
  have hP : va_P (dC, dI) vwCl [(h0, .inr (4, mX4 h1 h4 h11 h18 v0)), (h18, .inr (7, mX7 h19 h20 h21 h22 h23 h24 h25 v18))] H1 := hP.sub [0, 1] rfl
  have hD : va_D A [(h0, .inr (4, mX4 h1 h4 h11 h18 v0)), (h18, .inr (7, mX7 h19 h20 h21 h22 h23 h24 h25 v18))] := hD.sub [0, 1] (by decide) rfl
  generalize H1 = H at hP hS ⊢
  clear hz1
  refine lv_bipush (v := 40) hx hb dX4_testLeafRoom_7 (by decide) ?_
  refine lv_icmp_lt (tgt := 21) hx hb dX4_testLeafRoom_9 (by decide) (fun c_ => ?_) (fun c_ => ?_)
  · skip
    have b_ := zT_lt rfl zk_40 c_
    refine W.widen (k := 0) (n := 0) (by decide) (by decide) ?_
    have b_ : -2147483648 ≤ (v0 4).toInt ∧ (v0 4).toInt ≤ 2147483647 := ⟨zlo _, zhi _⟩
    have b_ : -2147483648 ≤ (v0 7).toInt ∧ (v0 7).toInt ≤ 2147483647 := ⟨zlo _, zhi _⟩
    have hpost : True := trivial
    have hP9 : va_P (dC, dI) vwCl [(h0, .inr (4, mX4 h1 h4 h11 h18 (upd (upd v0 4 (v0 4)) 7 (v0 7)))), (h18, .inr (7, mX7 h19 h20 h21 h22 h23 h24 h25 v18))] H := hP
    have hD9 : va_D A [(h0, .inr (4, mX4 h1 h4 h11 h18 (upd (upd v0 4 (v0 4)) 7 (v0 7)))), (h18, .inr (7, mX7 h19 h20 h21 h22 h23 h24 h25 v18))] := hD
    exact W.vret hx hb hr (fun t ht hW => ⟨⟨(fun i => ([(v0 4), (v0 7)] : List (Int32)).getD i 0), rfl, hpost, (fun _ => 0), (fun _ => (fun _ => 0)), (fun _ => (fun _ => 0)), by rw [ht]; exact hP9, va_K.moved hW.alike hK, hD9⟩, hS.F ht⟩) hS.2.2 dX4_testLeafRoom_21
  · skip
    have b_ := zF_lt rfl zk_40 c_
    refine lv_aload_n hx hb dX4_testLeafRoom_12 rfl (lv_at hl 0 rfl) ?_
    refine lv_iconst (v := 3) hx hb dX4_testLeafRoom_13 (by decide) ?_
    refine lv_aload_n hx hb dX4_testLeafRoom_14 rfl (lv_at hl 0 rfl) ?_
    refine va_get (D := (dC, dI)) (ci := 4) (v := .int (v0 5)) (C := RX4) (T := TX4) (N := 12) hx hb hG zuX4 hown hK hP 0 rfl rfl 5 (by decide) (hG _ zv413) (fun _ h9 => h9) rfl dX4_testLeafRoom_15 ?_
    have hPc := hP.sub (ws' := [(h0, .inr (4, mX4 h1 h4 h11 h18 v0))]) [0] rfl
    have hDc := hD.sub (ws' := [(h0, .inr (4, mX4 h1 h4 h11 h18 v0))]) [0] (by decide) rfl
    have hKc := hK.sub (tys' := []) [] rfl
    have hFc := va_free (wc := [(h0, .inr (4, mX4 h1 h4 h11 h18 v0))]) hD hS hA [0] rfl
    refine va_callv (va_runV (As := [.int 3, .int (v0 5)]) (rest := []) ⟨hx, hb, hml, hown, hG⟩ (sX4_fail_0 l dC dI adK adV h0 h1 h4 h11 h18 H.size v0 3 (v0 5) hv0) (cwV 2 hG (zgV zv1021 zv1023 zv13 zv137 zv1024) rfl rfl rfl (by decide +kernel) ⟨Nat.le_of_ble_eq_true rfl, Nat.le_of_ble_eq_true rfl⟩) ⟨zPc_blind, va_recv hKc hPc (ci := 4) (q0 := 0) rfl rfl, zPc_pre hPc hKc hDc hE hS hFc hZ⟩ rfl rfl hl.1 rfl (lv_room (Nat.le_of_ble_eq_true rfl)) dX4_testLeafRoom_18 ⟨Nat.le_of_ble_eq_true rfl, Nat.le_of_ble_eq_true rfl⟩) hS (fun q _ h => hFc q h) hFc (fun u18_ t H1 locs ht hvm hw hB hz1 hk1 hS => ?_)
    replace hw : (265 ≤ (u18_ 0).toInt ∧ (u18_ 0).toInt ≤ 265) := hw
    have b_ := hw
    obtain ⟨w18_, a18_, b18_, hP1, hK1, hD1⟩ := hB
    rw [ht] at hP1
    obtain ⟨hP, hD⟩ := va_join (wr := [(h18, .inr (7, mX7 h19 h20 h21 h22 h23 h24 h25 v18))]) (w1 := [(h0, .inr (4, mX4 h1 h4 h11 h18 (upd (upd v0 4 (u18_ 0)) 7 (u18_ 1))))]) hP hD [0] [1] rfl rfl (by decide) (by decide) hk1 hFc hP1 hD1
    have hP : va_P (dC, dI) vwCl [(h0, .inr (4, mX4 h1 h4 h11 h18 (upd (upd v0 4 (u18_ 0)) 7 (u18_ 1)))), (h18, .inr (7, mX7 h19 h20 h21 h22 h23 h24 h25 v18))] H1 := hP.sub [1, 0] rfl
    have hD : va_D A [(h0, .inr (4, mX4 h1 h4 h11 h18 (upd (upd v0 4 (u18_ 0)) 7 (u18_ 1)))), (h18, .inr (7, mX7 h19 h20 h21 h22 h23 h24 h25 v18))] := hD.sub [1, 0] (by decide) rfl
    generalize H1 = H at hP hS ⊢
    clear hz1
    refine W.widen (k := 0) (n := 0) (by decide) (by decide) ?_
    have b_ : -2147483648 ≤ (u18_ 1).toInt ∧ (u18_ 1).toInt ≤ 2147483647 := ⟨zlo _, zhi _⟩
    have hpost : True := trivial
    have hP9 : va_P (dC, dI) vwCl [(h0, .inr (4, mX4 h1 h4 h11 h18 (upd (upd v0 4 (u18_ 0)) 7 (u18_ 1)))), (h18, .inr (7, mX7 h19 h20 h21 h22 h23 h24 h25 v18))] H := hP
    have hD9 : va_D A [(h0, .inr (4, mX4 h1 h4 h11 h18 (upd (upd v0 4 (u18_ 0)) 7 (u18_ 1)))), (h18, .inr (7, mX7 h19 h20 h21 h22 h23 h24 h25 v18))] := hD
    exact W.vret hx hb hr (fun t ht hW => ⟨⟨(fun i => ([(u18_ 0), (u18_ 1)] : List (Int32)).getD i 0), rfl, hpost, (fun _ => 0), (fun _ => (fun _ => 0)), (fun _ => (fun _ => 0)), by rw [ht]; exact hP9, va_K.moved hW.alike hK, hD9⟩, hS.F ht⟩) hS.2.2 dX4_testLeafRoom_21
set_option maxHeartbeats 8000000 in
set_option maxRecDepth 100000 in
theorem sX7_phraseWords_0 (l : Launch) (dC : Nat → ClassId) (dI : Nat → Nat → Nat) (adK adV : Nat → Nat) (h0 : Nat) (h1 : Nat) (h2 : Nat) (h3 : Nat) (h4 : Nat) (h5 : Nat) (h6 : Nat) (h7 : Nat) (sz : Nat) (v0 : Nat → Int32) (hv0 : zR rg_Query v0) : Met l yX7_phraseWords (zw yX7_phraseWords cX7_phraseWords 1 (some .int)) { frames := 0, cells := 0, slots := 0, locals := 0 } (zPc dC dI adK adV [.ref h0] sz [(h0, .inr (7, mX7 h1 h2 h3 h4 h5 h6 h7 v0))] []) (va_Qi (fun (r : Int32) (u : Nat → Int32) => (0 ≤ r.toInt ∧ r.toInt ≤ 160)) (fun (u : Nat → Int32) (t : State) => ∃ (ww : Nat → Int64) (aa : Nat → Nat → Int32) (bb : Nat → Nat → Int64), va_P (dC, dI) vwCl [(h0, .inr (7, mX7 h1 h2 h3 h4 h5 h6 h7 v0))] t.heap ∧ va_K (dC, dI) vwCl [] t ∧ va_D (va_A [(h0, .inr (7, mX7 h1 h2 h3 h4 h5 h6 h7 v0))] sz) [(h0, .inr (7, mX7 h1 h2 h3 h4 h5 h6 h7 v0))]) (va_A [(h0, .inr (7, mX7 h1 h2 h3 h4 h5 h6 h7 v0))] sz)) 0 0 (va_A [(h0, .inr (7, mX7 h1 h2 h3 h4 h5 h6 h7 v0))] sz) := by
  refine Met.ofW (cc := cX7_phraseWords) (maxL := 1) (ret := (some .int)) (by decide) rfl ?_
  intro p e s m args below meth c s₁ B hml hv
  obtain ⟨rfl, hsz, hP, hK, hD0, hE, hZ⟩ := hv
  have hx := B.exec
  have hb := B.bytes
  have hr := B.returns
  have hG : ∀ w ∈ zG, w.before _ s = true := fun w h => atoms_spec (ws := (zw yX7_phraseWords cX7_phraseWords 1 (some .int))) B.pre w (List.mem_cons_of_mem _ h)
  have hown : s.vm.findClass RX7 = some m.cls := findClass_of_methodNamed B.named
  have hlocks := B.notSynchronized

  subst hsz
  have hD := hD0.self (sz := s.heap.size)
  generalize hAe : va_A [(h0, .inr (7, mX7 h1 h2 h3 h4 h5 h6 h7 v0))] s.heap.size = A at hD hZ ⊢
  have hA : ∀ q : Nat, s.heap.size ≤ q → A q := fun q h => by rw [← hAe]; exact Or.inr h
  have hS : va_S A s.heap s.heap [] := va_S.rf
  have hl := lv_entry ([.ref h0]) (n := 1) (Nat.le_of_ble_eq_true rfl)
  rw [lg_entry_eq]
  generalize (lg_sl ([.ref h0]) ++ List.replicate (1 - (lg_sl ([.ref h0])).length) Slot.unset).toArray = ls at hl ⊢
  have hl : lv_has ls 1 [(0, .ref h0)] := hl
  refine lv_aload_n hx hb dX7_phraseWords_0 rfl (lv_at hl 0 rfl) ?_
  have b_ : 0 ≤ (v0 8).toInt ∧ (v0 8).toInt ≤ 160 := hv0 8
  refine va_get (D := (dC, dI)) (ci := 7) (v := .int (v0 8)) (C := RX7) (T := TX7) (N := 12) hx hb hG zuX7 hown hK hP 0 rfl rfl 8 (by decide) (hG _ zv373) (fun _ h9 => h9) rfl dX7_phraseWords_1 ?_
  refine W.widen (k := 0) (n := 0) (by decide) (by decide) ?_
  have hpost : (0 ≤ (v0 8).toInt ∧ (v0 8).toInt ≤ 160) := (by first | with_reducible assumption | exact ⟨by omega, by omega⟩)
  have hP9 : va_P (dC, dI) vwCl [(h0, .inr (7, mX7 h1 h2 h3 h4 h5 h6 h7 v0))] s.heap := hP
  have hD9 : va_D A [(h0, .inr (7, mX7 h1 h2 h3 h4 h5 h6 h7 v0))] := hD
  exact W.iret (v := (v0 8)) hx hb hr (fun t ht hW => ⟨⟨(v0 8), (fun _ => 0), rfl, hpost, (fun _ => 0), (fun _ => (fun _ => 0)), (fun _ => (fun _ => 0)), by rw [ht]; exact hP9, va_K.moved hW.alike hK, hD9⟩, hS.F ht⟩) hS.2.2 dX7_phraseWords_4
set_option maxHeartbeats 8000000 in
set_option maxRecDepth 100000 in
theorem sX7_addStep_0 (l : Launch) (dC : Nat → ClassId) (dI : Nat → Nat → Nat) (adK adV : Nat → Nat) (h0 : Nat) (h7 : Nat) (h1 : Nat) (h2 : Nat) (h3 : Nat) (h4 : Nat) (h5 : Nat) (h6 : Nat) (k7 : ClassId) (sz : Nat) (v0 : Nat → Int32) (f7 : Nat → Int32) (x1 : Int32) (x2 : Int32) (hv0 : zR rg_Query v0) (hf7 : zA 0 12000 f7) (hx1 : 1 ≤ x1.toInt ∧ x1.toInt ≤ 11) (hx2 : (-1) ≤ x2.toInt ∧ x2.toInt ≤ 999) : Met l yX7_addStep (zw yX7_addStep cX7_addStep 3 none) { frames := 0, cells := 0, slots := 0, locals := 0 } (zPc dC dI adK adV [.ref h0, .int x1, .int x2] sz [(h0, .inr (7, mX7 h1 h2 h3 h4 h5 h6 h7 v0)), (h7, zi k7 270 f7)] [(k7, .int)]) (va_Qv (fun (u : Nat → Int32) => (1 ≤ (u 0).toInt ∧ (u 0).toInt ≤ 270)) (fun (u : Nat → Int32) (t : State) => ∃ (ww : Nat → Int64) (aa : Nat → Nat → Int32) (bb : Nat → Nat → Int64), zA 0 12000 (aa 0) ∧ va_P (dC, dI) vwCl [(h0, .inr (7, mX7 h1 h2 h3 h4 h5 h6 h7 (upd v0 9 (u 0)))), (h7, zi k7 270 (aa 0))] t.heap ∧ va_K (dC, dI) vwCl [(k7, .int)] t ∧ va_D (va_A [(h0, .inr (7, mX7 h1 h2 h3 h4 h5 h6 h7 v0)), (h7, zi k7 270 f7)] sz) [(h0, .inr (7, mX7 h1 h2 h3 h4 h5 h6 h7 (upd v0 9 (u 0)))), (h7, zi k7 270 (aa 0))]) (va_A [(h0, .inr (7, mX7 h1 h2 h3 h4 h5 h6 h7 v0)), (h7, zi k7 270 f7)] sz)) 0 0 (va_A [(h0, .inr (7, mX7 h1 h2 h3 h4 h5 h6 h7 v0)), (h7, zi k7 270 f7)] sz) := by
  refine Met.ofW (cc := cX7_addStep) (maxL := 3) (ret := none) (by decide) rfl ?_
  intro p e s m args below meth c s₁ B hml hv
  obtain ⟨rfl, hsz, hP, hK, hD0, hE, hZ⟩ := hv
  have hx := B.exec
  have hb := B.bytes
  have hr := B.returns
  have hG : ∀ w ∈ zG, w.before _ s = true := fun w h => atoms_spec (ws := (zw yX7_addStep cX7_addStep 3 none)) B.pre w (List.mem_cons_of_mem _ h)
  have hown : s.vm.findClass RX7 = some m.cls := findClass_of_methodNamed B.named
  have hlocks := B.notSynchronized

  subst hsz
  have hD := hD0.self (sz := s.heap.size)
  generalize hAe : va_A [(h0, .inr (7, mX7 h1 h2 h3 h4 h5 h6 h7 v0)), (h7, zi k7 270 f7)] s.heap.size = A at hD hZ ⊢
  have hA : ∀ q : Nat, s.heap.size ≤ q → A q := fun q h => by rw [← hAe]; exact Or.inr h
  have hS : va_S A s.heap s.heap [] := va_S.rf
  have hl := lv_entry ([.ref h0, .int x1, .int x2]) (n := 3) (Nat.le_of_ble_eq_true rfl)
  rw [lg_entry_eq]
  generalize (lg_sl ([.ref h0, .int x1, .int x2]) ++ List.replicate (3 - (lg_sl ([.ref h0, .int x1, .int x2])).length) Slot.unset).toArray = ls at hl ⊢
  have hl : lv_has ls 3 [(0, .ref h0), (1, .int x1), (2, .int x2)] := hl
  refine lv_aload_n hx hb dX7_addStep_0 rfl (lv_at hl 0 rfl) ?_
  have b_ : 0 ≤ (v0 9).toInt ∧ (v0 9).toInt ≤ 270 := hv0 9
  refine va_get (D := (dC, dI)) (ci := 7) (v := .int (v0 9)) (C := RX7) (T := TX7) (N := 12) hx hb hG zuX7 hown hK hP 0 rfl rfl 9 (by decide) (hG _ zv374) (fun _ h9 => h9) rfl dX7_addStep_1 ?_
  refine lv_sipush (v := 270) hx hb dX7_addStep_4 (by decide) ?_
  refine lv_icmp_ge (tgt := 36) hx hb dX7_addStep_7 (by decide) (fun c_ => ?_) (fun c_ => ?_)
  · skip
    have b_ := zT_ge rfl zk_270 c_
    refine W.widen (k := 0) (n := 0) (by decide) (by decide) ?_
    have hpost : (1 ≤ (v0 9).toInt ∧ (v0 9).toInt ≤ 270) := (by first | with_reducible assumption | exact ⟨by omega, by omega⟩)
    have hP9 : va_P (dC, dI) vwCl [(h0, .inr (7, mX7 h1 h2 h3 h4 h5 h6 h7 (upd v0 9 (v0 9)))), (h7, zi k7 270 f7)] s.heap := hP
    have hD9 : va_D A [(h0, .inr (7, mX7 h1 h2 h3 h4 h5 h6 h7 (upd v0 9 (v0 9)))), (h7, zi k7 270 f7)] := hD
    exact W.vret hx hb hr (fun t ht hW => ⟨⟨(fun i => ([(v0 9)] : List (Int32)).getD i 0), rfl, hpost, (fun _ => 0), (fun i => ([f7] : List (Nat → Int32)).getD i (fun _ => 0)), (fun _ => (fun _ => 0)), hf7, by rw [ht]; exact hP9, va_K.moved hW.alike hK, hD9⟩, hS.F ht⟩) hS.2.2 dX7_addStep_36
  · skip
    have b_ := zF_ge rfl zk_270 c_
    refine lv_aload_n hx hb dX7_addStep_10 rfl (lv_at hl 0 rfl) ?_
    refine va_get (D := (dC, dI)) (ci := 7) (v := .ref h7) (C := RX7) (T := TX7) (N := 12) hx hb hG zuX7 hown hK hP 0 rfl rfl 6 (by decide) (hG _ zv371) (fun _ h9 => h9) rfl dX7_addStep_11 ?_
    refine lv_aload_n hx hb dX7_addStep_14 rfl (lv_at hl 0 rfl) ?_
    refine va_get (D := (dC, dI)) (ci := 7) (v := .int (v0 9)) (C := RX7) (T := TX7) (N := 12) hx hb hG zuX7 hown hK hP 0 rfl rfl 9 (by decide) (hG _ zv374) (fun _ h9 => h9) rfl dX7_addStep_15 ?_
    refine lv_sipush (v := 1000) hx hb dX7_addStep_18 (by decide) ?_
    refine lv_iload_n hx hb dX7_addStep_21 rfl (lv_at hl 1 rfl) ?_
    refine lv_imul hx hb dX7_addStep_22 ?_
    refine lv_topi (fun z22 e_z22 => ?_)
    have b_ := zmul zk_1000 rfl e_z22 (by omega) (by omega)
    refine lv_iload_n hx hb dX7_addStep_23 rfl (lv_at hl 2 rfl) ?_
    refine lv_iadd hx hb dX7_addStep_24 ?_
    refine lv_topi (fun z24 e_z24 => ?_)
    have b_ := zadd rfl rfl e_z24 (by omega) (by omega)
    refine va_iast hx hb hK hP hD hS 1 0 rfl rfl (zin_lit ⟨by omega, by omega⟩) dX7_addStep_25 (fun H locs hP hD hS => ?_)
    obtain ⟨f_25, e_f_25⟩ : ∃ z : Nat → Int32, z = upd f7 ((v0 9) : Int32).toNatClampNeg z24 := ⟨_, rfl⟩
    have hP : va_P (dC, dI) vwCl [(h0, .inr (7, mX7 h1 h2 h3 h4 h5 h6 h7 v0)), (h7, zi k7 270 f_25)] H := by rw [e_f_25]; exact hP
    have hD : va_D A [(h0, .inr (7, mX7 h1 h2 h3 h4 h5 h6 h7 v0)), (h7, zi k7 270 f_25)] := by rw [e_f_25]; exact hD
    have hf_25 : zA 0 12000 f_25 := by rw [e_f_25]; exact zA_upd hf7 (show 0 ≤ (z24 : Int32).toInt from by omega) (show (z24 : Int32).toInt ≤ 12000 from by omega)
    refine lv_aload_n hx hb dX7_addStep_26 rfl (lv_at hl 0 rfl) ?_
    refine lv_dup hx hb dX7_addStep_27 rfl ?_
    refine va_get (D := (dC, dI)) (ci := 7) (v := .int (v0 9)) (C := RX7) (T := TX7) (N := 12) hx hb hG zuX7 hown hK hP 0 rfl rfl 9 (by decide) (hG _ zv374) (fun _ h9 => h9) rfl dX7_addStep_28 ?_
    refine lv_iconst (v := 1) hx hb dX7_addStep_31 (by decide) ?_
    refine lv_iadd hx hb dX7_addStep_32 ?_
    refine lv_topi (fun z32 e_z32 => ?_)
    have b_ := zadd rfl zk_1 e_z32 (by omega) (by omega)
    refine va_put (D := (dC, dI)) (ci := 7) (v := .int z32) (ty := .int) (C := RX7) (T := TX7) (N := 12) hx hb hG zuX7 tyX7 tyX7_ok nmX7 hown hK hP hD hS 0 rfl rfl 9 (by decide) (hG _ zv374) (fun _ h9 => h9) rfl (by decide +kernel) rfl rfl (Nat.le_of_ble_eq_true rfl) dX7_addStep_33 (fun H locs hP hD hS => ?_)
    have hP : va_P (dC, dI) vwCl [(h0, .inr (7, mX7 h1 h2 h3 h4 h5 h6 h7 (upd v0 9 z32))), (h7, zi k7 270 f_25)] H := hP
    have hD : va_D A [(h0, .inr (7, mX7 h1 h2 h3 h4 h5 h6 h7 (upd v0 9 z32))), (h7, zi k7 270 f_25)] := hD
    refine W.widen (k := 0) (n := 0) (by decide) (by decide) ?_
    have hpost : (1 ≤ z32.toInt ∧ z32.toInt ≤ 270) := (by first | with_reducible assumption | exact ⟨by omega, by omega⟩)
    have hP9 : va_P (dC, dI) vwCl [(h0, .inr (7, mX7 h1 h2 h3 h4 h5 h6 h7 (upd v0 9 z32))), (h7, zi k7 270 f_25)] H := hP
    have hD9 : va_D A [(h0, .inr (7, mX7 h1 h2 h3 h4 h5 h6 h7 (upd v0 9 z32))), (h7, zi k7 270 f_25)] := hD
    exact W.vret hx hb hr (fun t ht hW => ⟨⟨(fun i => ([z32] : List (Int32)).getD i 0), rfl, hpost, (fun _ => 0), (fun i => ([f_25] : List (Nat → Int32)).getD i (fun _ => 0)), (fun _ => (fun _ => 0)), hf_25, by rw [ht]; exact hP9, va_K.moved hW.alike hK, hD9⟩, hS.F ht⟩) hS.2.2 dX7_addStep_36
