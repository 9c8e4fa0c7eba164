set_option maxHeartbeats 8000000 in
set_option maxRecDepth 100000 in
theorem sJ0_coder_7d493_6 (l : Launch) (dC : Nat → ClassId) (dI : Nat → Nat → Nat) (adK adV : Nat → Nat) (sz : Nat) : Met l yJ0_coder_7d493 (zw yJ0_coder_7d493 cJ0_coder_7d493 1 (some .byte)) { frames := 0, cells := 0, slots := 0, locals := 0 } (zPc dC dI adK adV [.ref (adK 1)] sz [] []) (va_Qi (fun (r : Int32) (u : Nat → Int32) => (0 ≤ r.toInt ∧ r.toInt ≤ 0)) (fun (u : Nat → Int32) (t : State) => ∃ (ww : Nat → Int64) (aa : Nat → Nat → Int32) (bb : Nat → Nat → Int64), va_P (dC, dI) vwCl [] t.heap ∧ va_K (dC, dI) vwCl [] t ∧ va_D (va_A [] sz) []) (va_A [] sz)) 0 0 (va_A [] sz) := by
  refine Met.ofW (cc := cJ0_coder_7d493) (maxL := 1) (ret := (some .byte)) (by decide) rfl ?_
  intro p e s m args below meth c s₁ B hml hv
  obtain ⟨rfl, hsz, hP, hK, hD0, hE, hZ⟩ := hv
  have hx := B.exec
  have hb := B.bytes
  have hr := B.returns
  have hG : ∀ w ∈ zG, w.before _ s = true := fun w h => atoms_spec (ws := (zw yJ0_coder_7d493 cJ0_coder_7d493 1 (some .byte))) B.pre w (List.mem_cons_of_mem _ h)
  have hown : s.vm.findClass RJ0 = some m.cls := findClass_of_methodNamed B.named
  have hlocks := B.notSynchronized

  subst hsz
  have hD := hD0.self (sz := s.heap.size)
  generalize hAe : va_A [] s.heap.size = A at hD hZ ⊢
  have hA : ∀ q : Nat, s.heap.size ≤ q → A q := fun q h => by rw [← hAe]; exact Or.inr h
  have hS : va_S A s.heap s.heap [] := va_S.rf
  have hl := lv_entry ([.ref (adK 1)]) (n := 1) (Nat.le_of_ble_eq_true rfl)
  rw [lg_entry_eq]
  generalize (lg_sl ([.ref (adK 1)]) ++ List.replicate (1 - (lg_sl ([.ref (adK 1)])).length) Slot.unset).toArray = ls at hl ⊢
  have hl : lv_has ls 1 [(0, .ref (adK 1))] := hl
  have b_ := zk_0
  refine va_gets hx hb hZ.2.2.1 hS hown (hG _ zv685) (fun _ h => h) dJ0_coder_7d493_0 ?_
  refine lv_if_eq (tgt := 13) hx hb dJ0_coder_7d493_3 (by decide) (fun c_ => absurd c_ (by decide)) (fun c_ => ?_)
  refine lv_aload_n hx hb dJ0_coder_7d493_6 rfl (lv_at hl 0 rfl) ?_
  refine vk_getf hx hb (hZ.2.2.2.1.1 1 (by decide)).2.1 hS hown (hG _ zv2258) (fun _ h => h) dJ0_coder_7d493_7 ?_
  refine lv_goto (tgt := 14) hx hb dJ0_coder_7d493_10 (by decide) ?_
  refine W.widen (k := 0) (n := 0) (by decide) (by decide) ?_
  have hpost : (0 ≤ (0 : Int32).toInt ∧ (0 : Int32).toInt ≤ 0) := (by first | with_reducible assumption | exact ⟨by omega, by omega⟩)
  have hP9 : va_P (dC, dI) vwCl [] s.heap := hP
  have hD9 : va_D A [] := hD
  exact W.zret (v := 0) hx hb hr rfl (fun t ht hW => ⟨⟨0, (fun _ => 0), rfl, hpost, (fun _ => 0), (fun _ => (fun _ => 0)), (fun _ => (fun _ => 0)), by rw [ht]; exact hP9, va_K.moved hW.alike hK, hD9⟩, hS.F ht⟩) hS.2.2 dJ0_coder_7d493_14
set_option maxHeartbeats 8000000 in
set_option maxRecDepth 100000 in
theorem sJ0_length_8abf5_6 (l : Launch) (dC : Nat → ClassId) (dI : Nat → Nat → Nat) (adK adV : Nat → Nat) (sz : Nat) : Met l yJ0_length_8abf5 (zw yJ0_length_8abf5 cJ0_length_8abf5 1 (some .int)) { frames := 1, cells := 0, slots := 0, locals := 20 } (zPc dC dI adK adV [.ref (adK 1)] sz [] []) (va_Qi (fun (r : Int32) (u : Nat → Int32) => (3 ≤ r.toInt ∧ r.toInt ≤ 3)) (fun (u : Nat → Int32) (t : State) => ∃ (ww : Nat → Int64) (aa : Nat → Nat → Int32) (bb : Nat → Nat → Int64), va_P (dC, dI) vwCl [] t.heap ∧ va_K (dC, dI) vwCl [] t ∧ va_D (va_A [] sz) []) (va_A [] sz)) 0 0 (va_A [] sz) := by
  refine Met.ofW (cc := cJ0_length_8abf5) (maxL := 1) (ret := (some .int)) (by decide) rfl ?_
  intro p e s m args below meth c s₁ B hml hv
  obtain ⟨rfl, hsz, hP, hK, hD0, hE, hZ⟩ := hv
  have hx := B.exec
  have hb := B.bytes
  have hr := B.returns
  have hG : ∀ w ∈ zG, w.before _ s = true := fun w h => atoms_spec (ws := (zw yJ0_length_8abf5 cJ0_length_8abf5 1 (some .int))) B.pre w (List.mem_cons_of_mem _ h)
  have hown : s.vm.findClass RJ0 = some m.cls := findClass_of_methodNamed B.named
  have hlocks := B.notSynchronized

  subst hsz
  have hD := hD0.self (sz := s.heap.size)
  generalize hAe : va_A [] s.heap.size = A at hD hZ ⊢
  have hA : ∀ q : Nat, s.heap.size ≤ q → A q := fun q h => by rw [← hAe]; exact Or.inr h
  have hS : va_S A s.heap s.heap [] := va_S.rf
  have hl := lv_entry ([.ref (adK 1)]) (n := 1) (Nat.le_of_ble_eq_true rfl)
  rw [lg_entry_eq]
  generalize (lg_sl ([.ref (adK 1)]) ++ List.replicate (1 - (lg_sl ([.ref (adK 1)])).length) Slot.unset).toArray = ls at hl ⊢
  have hl : lv_has ls 1 [(0, .ref (adK 1))] := hl
  have b_ := zk_3
  refine lv_aload_n hx hb dJ0_length_8abf5_0 rfl (lv_at hl 0 rfl) ?_
  refine vk_getf hx hb (hZ.2.2.2.1.1 1 (by decide)).2.2.1 hS hown (hG _ zv2257) (fun _ h => h) dJ0_length_8abf5_1 ?_
  refine va_tlen (v := 3) hx hb (hZ.2.2.2.1.1 1 (by decide)).2.2.2 hS (by decide) dJ0_length_8abf5_4 ?_
  refine lv_aload_n hx hb dJ0_length_8abf5_5 rfl (lv_at hl 0 rfl) ?_
  have hPc := hP.sub (ws' := []) [] rfl
  have hDc := hD.sub (ws' := []) [] (by decide) rfl
  have hKc := hK.sub (tys' := []) [] rfl
  have hFc := va_free (wc := []) hD hS hA [] rfl
  refine va_calli (va_runV (As := []) (rest := [.int 3]) ⟨hx, hb, hml, hown, hG⟩ (sJ0_coder_7d493_6 l dC dI adK adV s.heap.size) (cwV 0 hG (zgV zv681 zv682 zv683 zv146 zv684) rfl rfl rfl (by decide +kernel) ⟨Nat.le_of_ble_eq_true rfl, Nat.le_of_ble_eq_true rfl⟩) ⟨zPc_blind, vk_recv hZ.2.2.2.1 (i := 1) (by decide) hS, zPc_pre hPc hKc hDc hE hS hFc hZ⟩ rfl rfl hl.1 rfl (lv_room (Nat.le_of_ble_eq_true rfl)) dJ0_length_8abf5_6 ⟨Nat.le_of_ble_eq_true rfl, Nat.le_of_ble_eq_true rfl⟩) hS (fun q _ h => hFc q h) hFc (fun r6_ u6_ t H1 locs ht hvm hw hB hz1 hk1 hS => ?_)
  replace hw : (0 ≤ r6_.toInt ∧ r6_.toInt ≤ 0) := hw
  have b_ := hw
  obtain rfl : r6_ = (0 : Int32) := zeqi.mpr ((show r6_.toInt = 0 from by omega).trans zk_0.symm)
  obtain ⟨w6_, a6_, b6_, hP1, hK1, hD1⟩ := hB
  rw [ht] at hP1
  obtain ⟨hP, hD⟩ := va_join (wr := []) (w1 := []) hP hD [] [] rfl rfl (by decide) (by decide) hk1 hFc hP1 hD1
  have hP : va_P (dC, dI) vwCl [] H1 := hP.sub [] rfl
  have hD : va_D A [] := hD.sub [] (by decide) rfl
  generalize H1 = H at hP hS ⊢
  clear hz1
  refine lv_ishr hx hb dJ0_length_8abf5_9 ?_
  refine lv_topi (fun z9 e_z9 => ?_)
  obtain rfl : z9 = (3 : Int32) := e_z9.trans (by decide)
  refine W.widen (k := 0) (n := 0) (by decide) (by decide) ?_
  have hpost : (3 ≤ (3 : Int32).toInt ∧ (3 : Int32).toInt ≤ 3) := (by first | with_reducible assumption | exact ⟨by omega, by omega⟩)
  have hP9 : va_P (dC, dI) vwCl [] H := hP
  have hD9 : va_D A [] := hD
  exact W.iret (v := 3) hx hb hr (fun t ht hW => ⟨⟨3, (fun _ => 0), rfl, hpost, (fun _ => 0), (fun _ => (fun _ => 0)), (fun _ => (fun _ => 0)), by rw [ht]; exact hP9, va_K.moved hW.alike hK, hD9⟩, hS.F ht⟩) hS.2.2 dJ0_length_8abf5_10
set_option maxHeartbeats 8000000 in
set_option maxRecDepth 100000 in
theorem sJ0_isLatin1_aae02_6 (l : Launch) (dC : Nat → ClassId) (dI : Nat → Nat → Nat) (adK adV : Nat → Nat) (sz : Nat) : Met l yJ0_isLatin1_aae02 (zw yJ0_isLatin1_aae02 cJ0_isLatin1_aae02 1 (some .boolean)) { frames := 0, cells := 0, slots := 0, locals := 0 } (zPc dC dI adK adV [.ref (adK 1)] sz [] []) (va_Qi (fun (r : Int32) (u : Nat → Int32) => (1 ≤ r.toInt ∧ r.toInt ≤ 1)) (fun (u : Nat → Int32) (t : State) => ∃ (ww : Nat → Int64) (aa : Nat → Nat → Int32) (bb : Nat → Nat → Int64), va_P (dC, dI) vwCl [] t.heap ∧ va_K (dC, dI) vwCl [] t ∧ va_D (va_A [] sz) []) (va_A [] sz)) 0 0 (va_A [] sz) := by
  refine Met.ofW (cc := cJ0_isLatin1_aae02) (maxL := 1) (ret := (some .boolean)) (by decide) rfl ?_
  intro p e s m args below meth c s₁ B hml hv
  obtain ⟨rfl, hsz, hP, hK, hD0, hE, hZ⟩ := hv
  have hx := B.exec
  have hb := B.bytes
  have hr := B.returns
  have hG : ∀ w ∈ zG, w.before _ s = true := fun w h => atoms_spec (ws := (zw yJ0_isLatin1_aae02 cJ0_isLatin1_aae02 1 (some .boolean))) B.pre w (List.mem_cons_of_mem _ h)
  have hown : s.vm.findClass RJ0 = some m.cls := findClass_of_methodNamed B.named
  have hlocks := B.notSynchronized

  subst hsz
  have hD := hD0.self (sz := s.heap.size)
  generalize hAe : va_A [] s.heap.size = A at hD hZ ⊢
  have hA : ∀ q : Nat, s.heap.size ≤ q → A q := fun q h => by rw [← hAe]; exact Or.inr h
  have hS : va_S A s.heap s.heap [] := va_S.rf
  have hl := lv_entry ([.ref (adK 1)]) (n := 1) (Nat.le_of_ble_eq_true rfl)
  rw [lg_entry_eq]
  generalize (lg_sl ([.ref (adK 1)]) ++ List.replicate (1 - (lg_sl ([.ref (adK 1)])).length) Slot.unset).toArray = ls at hl ⊢
  have hl : lv_has ls 1 [(0, .ref (adK 1))] := hl
  have b_ := zk_1
  refine va_gets hx hb hZ.2.2.1 hS hown (hG _ zv685) (fun _ h => h) dJ0_isLatin1_aae02_0 ?_
  refine lv_if_eq (tgt := 17) hx hb dJ0_isLatin1_aae02_3 (by decide) (fun c_ => absurd c_ (by decide)) (fun c_ => ?_)
  refine lv_aload_n hx hb dJ0_isLatin1_aae02_6 rfl (lv_at hl 0 rfl) ?_
  refine vk_getf hx hb (hZ.2.2.2.1.1 1 (by decide)).2.1 hS hown (hG _ zv2258) (fun _ h => h) dJ0_isLatin1_aae02_7 ?_
  refine lv_if_ne (tgt := 17) hx hb dJ0_isLatin1_aae02_10 (by decide) (fun c_ => absurd c_ (by decide)) (fun c_ => ?_)
  refine lv_iconst (v := 1) hx hb dJ0_isLatin1_aae02_13 (by decide) ?_
  refine lv_goto (tgt := 18) hx hb dJ0_isLatin1_aae02_14 (by decide) ?_
  refine W.widen (k := 0) (n := 0) (by decide) (by decide) ?_
  have hpost : (1 ≤ (1 : Int32).toInt ∧ (1 : Int32).toInt ≤ 1) := (by first | with_reducible assumption | exact ⟨by omega, by omega⟩)
  have hP9 : va_P (dC, dI) vwCl [] s.heap := hP
  have hD9 : va_D A [] := hD
  exact W.zret (v := 1) hx hb hr rfl (fun t ht hW => ⟨⟨1, (fun _ => 0), rfl, hpost, (fun _ => 0), (fun _ => (fun _ => 0)), (fun _ => (fun _ => 0)), by rw [ht]; exact hP9, va_K.moved hW.alike hK, hD9⟩, hS.F ht⟩) hS.2.2 dJ0_isLatin1_aae02_18
set_option maxHeartbeats 8000000 in
set_option maxRecDepth 100000 in
theorem sJ1_charAt_3b067_6 (l : Launch) (dC : Nat → ClassId) (dI : Nat → Nat → Nat) (adK adV : Nat → Nat) (sz : Nat) (x1 : Int32) (hx1 : 0 ≤ x1.toInt ∧ x1.toInt ≤ 2) : Met l yJ1_charAt_3b067 (zw yJ1_charAt_3b067 cJ1_charAt_3b067 2 (some .char)) { frames := 2, cells := 0, slots := 0, locals := 43 } (zPc dC dI adK adV [.ref (adV 1), .int x1] sz [] []) (va_Qi (fun (r : Int32) (u : Nat → Int32) => (0 ≤ r.toInt ∧ r.toInt ≤ 255) ∧ (r.toInt = zCr 1 x1.toInt)) (fun (u : Nat → Int32) (t : State) => ∃ (ww : Nat → Int64) (aa : Nat → Nat → Int32) (bb : Nat → Nat → Int64), va_P (dC, dI) vwCl [] t.heap ∧ va_K (dC, dI) vwCl [] t ∧ va_D (va_A [] sz) []) (va_A [] sz)) 0 0 (va_A [] sz) := by
  refine Met.ofW (cc := cJ1_charAt_3b067) (maxL := 2) (ret := (some .char)) (by decide) rfl ?_
  intro p e s m args below meth c s₁ B hml hv
  obtain ⟨rfl, hsz, hP, hK, hD0, hE, hZ⟩ := hv
  have hx := B.exec
  have hb := B.bytes
  have hr := B.returns
  have hG : ∀ w ∈ zG, w.before _ s = true := fun w h => atoms_spec (ws := (zw yJ1_charAt_3b067 cJ1_charAt_3b067 2 (some .char))) B.pre w (List.mem_cons_of_mem _ h)
  have hown : s.vm.findClass RJ1 = some m.cls := findClass_of_methodNamed B.named
  have hlocks := B.notSynchronized

  subst hsz
  have hD := hD0.self (sz := s.heap.size)
  generalize hAe : va_A [] s.heap.size = A at hD hZ ⊢
  have hA : ∀ q : Nat, s.heap.size ≤ q → A q := fun q h => by rw [← hAe]; exact Or.inr h
  have hS : va_S A s.heap s.heap [] := va_S.rf
  have hl := lv_entry ([.ref (adV 1), .int x1]) (n := 2) (Nat.le_of_ble_eq_true rfl)
  rw [lg_entry_eq]
  generalize (lg_sl ([.ref (adV 1), .int x1]) ++ List.replicate (2 - (lg_sl ([.ref (adV 1), .int x1])).length) Slot.unset).toArray = ls at hl ⊢
  have hl : lv_has ls 2 [(0, .ref (adV 1)), (1, .int x1)] := hl
  have b_ := zk_3
  refine lv_iload_n hx hb dJ1_charAt_3b067_0 rfl (lv_at hl 1 rfl) ?_
  refine lv_aload_n hx hb dJ1_charAt_3b067_1 rfl (lv_at hl 0 rfl) ?_
  refine va_tlen (v := 3) hx hb (hZ.2.2.2.1.1 1 (by decide)).2.2.2 hS (by decide) dJ1_charAt_3b067_2 ?_
  have hPc := hP.sub (ws' := []) [] rfl
  have hDc := hD.sub (ws' := []) [] (by decide) rfl
  have hKc := hK.sub (tys' := []) [] rfl
  have hFc := va_free (wc := []) hD hS hA [] rfl
  refine va_callv (va_runS (As := [.int x1, .int 3]) (rest := []) ⟨hx, hb, hml, hown, hG⟩ (sJ0_checkIndex_df160_0 l dC dI adK adV s.heap.size x1 3 (show (0 : Int) ≤ (x1 : Int32).toInt ∧ (x1 : Int32).toInt ≤ (4 : Int) from (by first | with_reducible assumption | exact ⟨by omega, by omega⟩)) ⟨show (1 : Int) ≤ (3 : Int32).toInt from by decide, show (3 : Int32).toInt ≤ (5 : Int) from by decide⟩ (show x1.toInt < (3 : Int32).toInt from by omega)) (va_cwS 2 hG (zgS zv698 zv699 zv146 zv700) rfl rfl rfl (by decide +kernel) ⟨Nat.le_of_ble_eq_true rfl, Nat.le_of_ble_eq_true rfl⟩) ⟨zPc_blind, zPc_pre hPc hKc hDc hE hS hFc hZ⟩ rfl rfl hl.1 rfl (lv_room (Nat.le_of_ble_eq_true rfl)) dJ1_charAt_3b067_3 ⟨Nat.le_of_ble_eq_true rfl, Nat.le_of_ble_eq_true rfl⟩) hS (fun q _ h => hFc q h) hFc (fun u3_ t H1 locs ht hvm hw hB hz1 hk1 hS => ?_)
  obtain ⟨w3_, a3_, b3_, hP1, hK1, hD1⟩ := hB
  rw [ht] at hP1
  obtain ⟨hP, hD⟩ := va_join (wr := []) (w1 := []) hP hD [] [] rfl rfl (by decide) (by decide) hk1 hFc hP1 hD1
  have hP : va_P (dC, dI) vwCl [] H1 := hP.sub [] rfl
  have hD : va_D A [] := hD.sub [] (by decide) rfl
  generalize H1 = H at hP hS ⊢
  clear hz1
  refine lv_aload_n hx hb dJ1_charAt_3b067_6 rfl (lv_at hl 0 rfl) ?_
  refine lv_iload_n hx hb dJ1_charAt_3b067_7 rfl (lv_at hl 1 rfl) ?_
  refine va_tb (N := 3) hx hb (hZ.2.2.2.1.1 1 (by decide)).2.2.2 hS (zin_lit (n := 3) ⟨by omega, by omega⟩) rfl dJ1_charAt_3b067_8 ?_
  refine lv_topi (fun z8 e_z8 => ?_)
  refine lv_sipush (v := 255) hx hb dJ1_charAt_3b067_9 (by decide) ?_
  have b_ : -2147483648 ≤ z8.toInt ∧ z8.toInt ≤ 2147483647 := ⟨zlo _, zhi _⟩
  refine lv_iand hx hb dJ1_charAt_3b067_12 ?_
  refine lv_topi (fun z12 e_z12 => ?_)
  have b_ := zand (x := z8) zk_255 e_z12 (by decide)
  refine lv_i2c hx hb dJ1_charAt_3b067_13 rfl ?_
  refine lv_topi (fun z13 e_z13 => ?_)
  have b_ := zi2c rfl e_z13 (by omega) (by omega)
  refine W.widen (k := 0) (n := 0) (by decide) (by decide) ?_
  have hpost : (0 ≤ z13.toInt ∧ z13.toInt ≤ 255) ∧ (z13.toInt = zCr 1 x1.toInt) := ⟨(by first | with_reducible assumption | exact ⟨by omega, by omega⟩), by exact zcr9 (by decide) e_z8 e_z12 e_z13 (by have q : x1.toNatClampNeg = x1.toInt.toNat := rfl; omega)⟩
  have hP9 : va_P (dC, dI) vwCl [] H := hP
  have hD9 : va_D A [] := hD
  exact W.zret (v := z13) hx hb hr (zn_char ⟨by omega, by omega⟩) (fun t ht hW => ⟨⟨z13, (fun _ => 0), rfl, hpost, (fun _ => 0), (fun _ => (fun _ => 0)), (fun _ => (fun _ => 0)), by rw [ht]; exact hP9, va_K.moved hW.alike hK, hD9⟩, hS.F ht⟩) hS.2.2 dJ1_charAt_3b067_14
set_option maxHeartbeats 8000000 in
set_option maxRecDepth 100000 in
theorem sJ0_charAt_5068e_6 (l : Launch) (dC : Nat → ClassId) (dI : Nat → Nat → Nat) (adK adV : Nat → Nat) (sz : Nat) (x1 : Int32) (hx1 : 0 ≤ x1.toInt ∧ x1.toInt ≤ 2) : Met l yJ0_charAt_5068e (zw yJ0_charAt_5068e cJ0_charAt_5068e 2 (some .char)) { frames := 3, cells := 0, slots := 0, locals := 64 } (zPc dC dI adK adV [.ref (adK 1), .int x1] sz [] []) (va_Qi (fun (r : Int32) (u : Nat → Int32) => (0 ≤ r.toInt ∧ r.toInt ≤ 255) ∧ (r.toInt = zCr 1 x1.toInt)) (fun (u : Nat → Int32) (t : State) => ∃ (ww : Nat → Int64) (aa : Nat → Nat → Int32) (bb : Nat → Nat → Int64), va_P (dC, dI) vwCl [] t.heap ∧ va_K (dC, dI) vwCl [] t ∧ va_D (va_A [] sz) []) (va_A [] sz)) 0 0 (va_A [] sz) := by
  refine Met.ofW (cc := cJ0_charAt_5068e) (maxL := 2) (ret := (some .char)) (by decide) rfl ?_
  intro p e s m args below meth c s₁ B hml hv
  obtain ⟨rfl, hsz, hP, hK, hD0, hE, hZ⟩ := hv
  have hx := B.exec
  have hb := B.bytes
  have hr := B.returns
  have hG : ∀ w ∈ zG, w.before _ s = true := fun w h => atoms_spec (ws := (zw yJ0_charAt_5068e cJ0_charAt_5068e 2 (some .char))) B.pre w (List.mem_cons_of_mem _ h)
  have hown : s.vm.findClass RJ0 = some m.cls := findClass_of_methodNamed B.named
  have hlocks := B.notSynchronized

  subst hsz
  have hD := hD0.self (sz := s.heap.size)
  generalize hAe : va_A [] s.heap.size = A at hD hZ ⊢
  have hA : ∀ q : Nat, s.heap.size ≤ q → A q := fun q h => by rw [← hAe]; exact Or.inr h
  have hS : va_S A s.heap s.heap [] := va_S.rf
  have hl := lv_entry ([.ref (adK 1), .int x1]) (n := 2) (Nat.le_of_ble_eq_true rfl)
  rw [lg_entry_eq]
  generalize (lg_sl ([.ref (adK 1), .int x1]) ++ List.replicate (2 - (lg_sl ([.ref (adK 1), .int x1])).length) Slot.unset).toArray = ls at hl ⊢
  have hl : lv_has ls 2 [(0, .ref (adK 1)), (1, .int x1)] := hl
  refine lv_aload_n hx hb dJ0_charAt_5068e_0 rfl (lv_at hl 0 rfl) ?_
  have hPc := hP.sub (ws' := []) [] rfl
  have hDc := hD.sub (ws' := []) [] (by decide) rfl
  have hKc := hK.sub (tys' := []) [] rfl
  have hFc := va_free (wc := []) hD hS hA [] rfl
  refine va_calli (va_runV (As := []) (rest := []) ⟨hx, hb, hml, hown, hG⟩ (sJ0_isLatin1_aae02_6 l dC dI adK adV s.heap.size) (cwV 0 hG (zgV zv691 zv692 zv693 zv146 zv694) rfl rfl rfl (by decide +kernel) ⟨Nat.le_of_ble_eq_true rfl, Nat.le_of_ble_eq_true rfl⟩) ⟨zPc_blind, vk_recv hZ.2.2.2.1 (i := 1) (by decide) hS, zPc_pre hPc hKc hDc hE hS hFc hZ⟩ rfl rfl hl.1 rfl (lv_room (Nat.le_of_ble_eq_true rfl)) dJ0_charAt_5068e_1 ⟨Nat.le_of_ble_eq_true rfl, Nat.le_of_ble_eq_true rfl⟩) hS (fun q _ h => hFc q h) hFc (fun r1_ u1_ t H1 locs ht hvm hw hB hz1 hk1 hS => ?_)
  replace hw : (1 ≤ r1_.toInt ∧ r1_.toInt ≤ 1) := hw
  have b_ := hw
  obtain rfl : r1_ = (1 : Int32) := zeqi.mpr ((show r1_.toInt = 1 from by omega).trans zk_1.symm)
  obtain ⟨w1_, a1_, b1_, hP1, hK1, hD1⟩ := hB
  rw [ht] at hP1
  obtain ⟨hP, hD⟩ := va_join (wr := []) (w1 := []) hP hD [] [] rfl rfl (by decide) (by decide) hk1 hFc hP1 hD1
  have hP : va_P (dC, dI) vwCl [] H1 := hP.sub [] rfl
  have hD : va_D A [] := hD.sub [] (by decide) rfl
  generalize H1 = H at hP hS ⊢
  clear hz1
  refine lv_if_eq (tgt := 16) hx hb dJ0_charAt_5068e_4 (by decide) (fun c_ => absurd c_ (by decide)) (fun c_ => ?_)
  refine lv_aload_n hx hb dJ0_charAt_5068e_7 rfl (lv_at hl 0 rfl) ?_
  refine vk_getf hx hb (hZ.2.2.2.1.1 1 (by decide)).2.2.1 hS hown (hG _ zv2257) (fun _ h => h) dJ0_charAt_5068e_8 ?_
  refine lv_iload_n hx hb dJ0_charAt_5068e_11 rfl (lv_at hl 1 rfl) ?_
  have hPc := hP.sub (ws' := []) [] rfl
  have hDc := hD.sub (ws' := []) [] (by decide) rfl
  have hKc := hK.sub (tys' := []) [] rfl
  have hFc := va_free (wc := []) hD hS hA [] rfl
  refine va_calli (va_runS (As := [.ref (adV 1), .int x1]) (rest := []) ⟨hx, hb, hml, hown, hG⟩ (sJ1_charAt_3b067_6 l dC dI adK adV H.size x1 (show (0 : Int) ≤ (x1 : Int32).toInt ∧ (x1 : Int32).toInt ≤ (2 : Int) from (by first | with_reducible assumption | exact ⟨by omega, by omega⟩))) (va_cwS 2 hG (zgS zv695 zv696 zv147 zv697) rfl rfl rfl (by decide +kernel) ⟨Nat.le_of_ble_eq_true rfl, Nat.le_of_ble_eq_true rfl⟩) ⟨zPc_blind, zPc_pre hPc hKc hDc hE hS hFc hZ⟩ rfl rfl hl.1 rfl (lv_room (Nat.le_of_ble_eq_true rfl)) dJ0_charAt_5068e_12 ⟨Nat.le_of_ble_eq_true rfl, Nat.le_of_ble_eq_true rfl⟩) hS (fun q _ h => hFc q h) hFc (fun r12_ u12_ t H1 locs ht hvm hw hB hz1 hk1 hS => ?_)
  replace hw : (0 ≤ r12_.toInt ∧ r12_.toInt ≤ 255) ∧ (r12_.toInt = zCr 1 x1.toInt) := hw
  obtain ⟨b_, hX12_0⟩ := hw
  obtain ⟨w12_, a12_, b12_, hP1, hK1, hD1⟩ := hB
  rw [ht] at hP1
  obtain ⟨hP, hD⟩ := va_join (wr := []) (w1 := []) hP hD [] [] rfl rfl (by decide) (by decide) hk1 hFc hP1 hD1
  have hP : va_P (dC, dI) vwCl [] H1 := hP.sub [] rfl
  have hD : va_D A [] := hD.sub [] (by decide) rfl
  generalize H1 = H at hP hS ⊢
  clear hz1
  refine W.widen (k := 0) (n := 0) (by decide) (by decide) ?_
  have hpost : (0 ≤ r12_.toInt ∧ r12_.toInt ≤ 255) ∧ (r12_.toInt = zCr 1 x1.toInt) := ⟨(by first | with_reducible assumption | exact ⟨by omega, by omega⟩), by assumption⟩
  have hP9 : va_P (dC, dI) vwCl [] H := hP
  have hD9 : va_D A [] := hD
  exact W.zret (v := r12_) hx hb hr (zn_char ⟨by omega, by omega⟩) (fun t ht hW => ⟨⟨r12_, (fun _ => 0), rfl, hpost, (fun _ => 0), (fun _ => (fun _ => 0)), (fun _ => (fun _ => 0)), by rw [ht]; exact hP9, va_K.moved hW.alike hK, hD9⟩, hS.F ht⟩) hS.2.2 dJ0_charAt_5068e_15
set_option maxHeartbeats 8000000 in
set_option maxRecDepth 100000 in
theorem sX9_endsBy_6 (l : Launch) (dC : Nat → ClassId) (dI : Nat → Nat → Nat) (adK adV : Nat → Nat) (h0 : Nat) (h2 : Nat) (h1 : Nat) (k2 : ClassId) (sz : Nat) (v0 : Nat → Int32) (f2 : Nat → Int32) (hv0 : zR rg_Tape v0) : Met l yX9_endsBy (zw yX9_endsBy cX9_endsBy 4 (some .boolean)) { frames := 4, cells := 0, slots := 0, locals := 85 } (zPc dC dI adK adV [.ref h0, .ref (adK 1)] sz [(h0, .inr (9, mX9 h1 h2 v0)), (h2, zi k2 12 f2)] [(k2, .byte)]) (va_Qi (fun (r : Int32) (u : Nat → Int32) => (0 ≤ r.toInt ∧ r.toInt ≤ 1) ∧ (r.toInt = 1 → (3 ≤ (v0 3).toInt ∧ zEb f2 ((v0 3).toInt - 3) 3 1)) ∧ (r.toInt = 0 → ¬ (3 ≤ (v0 3).toInt ∧ zEb f2 ((v0 3).toInt - 3) 3 1))) (fun (u : Nat → Int32) (t : State) => ∃ (ww : Nat → Int64) (aa : Nat → Nat → Int32) (bb : Nat → Nat → Int64), va_P (dC, dI) vwCl [(h0, .inr (9, mX9 h1 h2 v0)), (h2, zi k2 12 f2)] t.heap ∧ va_K (dC, dI) vwCl [(k2, .byte)] t ∧ va_D (va_A [(h0, .inr (9, mX9 h1 h2 v0)), (h2, zi k2 12 f2)] sz) [(h0, .inr (9, mX9 h1 h2 v0)), (h2, zi k2 12 f2)]) (va_A [(h0, .inr (9, mX9 h1 h2 v0)), (h2, zi k2 12 f2)] sz)) 0 0 (va_A [(h0, .inr (9, mX9 h1 h2 v0)), (h2, zi k2 12 f2)] sz) := by
  refine Met.ofW (cc := cX9_endsBy) (maxL := 4) (ret := (some .boolean)) (by decide) rfl ?_
  intro p e s m args below meth c s₁ B hml hv
  obtain ⟨rfl, hsz, hP, hK, hD0, hE, hZ⟩ := hv
  have hx := B.exec
  have hb := B.bytes
  have hr := B.returns
  have hG : ∀ w ∈ zG, w.before _ s = true := fun w h => atoms_spec (ws := (zw yX9_endsBy cX9_endsBy 4 (some .boolean))) B.pre w (List.mem_cons_of_mem _ h)
  have hown : s.vm.findClass RX9 = some m.cls := findClass_of_methodNamed B.named
  have hlocks := B.notSynchronized

  subst hsz
  have hD := hD0.self (sz := s.heap.size)
  generalize hAe : va_A [(h0, .inr (9, mX9 h1 h2 v0)), (h2, zi k2 12 f2)] s.heap.size = A at hD hZ ⊢
  have hA : ∀ q : Nat, s.heap.size ≤ q → A q := fun q h => by rw [← hAe]; exact Or.inr h
  have hS : va_S A s.heap s.heap [] := va_S.rf
  have hl := lv_entry ([.ref h0, .ref (adK 1)]) (n := 4) (Nat.le_of_ble_eq_true rfl)
  rw [lg_entry_eq]
  generalize (lg_sl ([.ref h0, .ref (adK 1)]) ++ List.replicate (4 - (lg_sl ([.ref h0, .ref (adK 1)])).length) Slot.unset).toArray = ls at hl ⊢
  have hl : lv_has ls 4 [(0, .ref h0), (1, .ref (adK 1))] := hl
  have b_ := zk_0
  have b_ := zk_1
  have b_ : 0 ≤ (v0 3).toInt ∧ (v0 3).toInt ≤ 12 := hv0 3
  refine lv_aload_n hx hb dX9_endsBy_0 rfl (lv_at hl 0 rfl) ?_
  refine va_get (D := (dC, dI)) (ci := 9) (v := .int (v0 3)) (C := RX9) (T := TX9) (N := 4) hx hb hG zuX9 hown hK hP 0 rfl rfl 3 (by decide) (hG _ zv172) (fun _ h9 => h9) rfl dX9_endsBy_1 ?_
  refine lv_aload_n hx hb dX9_endsBy_4 rfl (lv_at hl 1 rfl) ?_
  have hPc := hP.sub (ws' := []) [] rfl
  have hDc := hD.sub (ws' := []) [] (by decide) rfl
  have hKc := hK.sub (tys' := []) [] rfl
  have hFc := va_free (wc := []) hD hS hA [] rfl
  refine va_calli (va_runV (As := []) (rest := [.int (v0 3)]) ⟨hx, hb, hml, hown, hG⟩ (sJ0_length_8abf5_6 l dC dI adK adV s.heap.size) (cwV 0 hG (zgV zv677 zv678 zv679 zv146 zv680) rfl rfl rfl (by decide +kernel) ⟨Nat.le_of_ble_eq_true rfl, Nat.le_of_ble_eq_true rfl⟩) ⟨zPc_blind, vk_recv hZ.2.2.2.1 (i := 1) (by decide) hS, zPc_pre hPc hKc hDc hE hS hFc hZ⟩ rfl rfl hl.1 rfl (lv_room (Nat.le_of_ble_eq_true rfl)) dX9_endsBy_5 ⟨Nat.le_of_ble_eq_true rfl, Nat.le_of_ble_eq_true rfl⟩) hS (fun q _ h => hFc q h) hFc (fun r5_ u5_ t H1 locs ht hvm hw hB hz1 hk1 hS => ?_)
  replace hw : (3 ≤ r5_.toInt ∧ r5_.toInt ≤ 3) := hw
  have b_ := hw
  obtain rfl : r5_ = (3 : Int32) := zeqi.mpr ((show r5_.toInt = 3 from by omega).trans zk_3.symm)
  obtain ⟨w5_, a5_, b5_, hP1, hK1, hD1⟩ := hB
  rw [ht] at hP1
  obtain ⟨hP, hD⟩ := va_join (wr := [(h0, .inr (9, mX9 h1 h2 v0)), (h2, zi k2 12 f2)]) (w1 := []) hP hD [] [0, 1] rfl rfl (by decide) (by decide) hk1 hFc hP1 hD1
  have hP : va_P (dC, dI) vwCl [(h0, .inr (9, mX9 h1 h2 v0)), (h2, zi k2 12 f2)] H1 := hP.sub [0, 1] rfl
  have hD : va_D A [(h0, .inr (9, mX9 h1 h2 v0)), (h2, zi k2 12 f2)] := hD.sub [0, 1] (by decide) rfl
  generalize H1 = H at hP hS ⊢
  clear hz1
  refine lv_isub hx hb dX9_endsBy_8 ?_
  refine lv_topi (fun z8 e_z8 => ?_)
  have b_ := zsub rfl zk_3 e_z8 (by omega) (by omega)
  refine lv_istore_n (lv' := [(2, .int z8), (0, .ref h0), (1, .ref (adK 1))]) hx hb dX9_endsBy_9 rfl hl (by decide) rfl (fun ls hl => ?_)
  refine lv_iload_n hx hb dX9_endsBy_10 rfl (lv_at hl 0 rfl) ?_
  refine lv_if_ge (tgt := 16) hx hb dX9_endsBy_11 (by decide) (fun c_ => ?_) (fun c_ => ?_)
  · skip
    have b_ := zT_ge rfl zk_0 c_
    refine lv_iconst (v := 0) hx hb dX9_endsBy_16 (by decide) ?_
    refine lv_istore_n (lv' := [(3, .int 0), (2, .int z8), (0, .ref h0), (1, .ref (adK 1))]) hx hb dX9_endsBy_17 rfl hl (by decide) rfl (fun ls hl => ?_)
    refine zcutL (fun u18_ => (3 - (u18_ 0).toInt).toNat) (fun H locs ls u18_ w18_ a18_ b18_ => va_P (dC, dI) vwCl [(h0, .inr (9, mX9 h1 h2 v0)), (h2, zi k2 12 f2)] H ∧ va_D A [(h0, .inr (9, mX9 h1 h2 v0)), (h2, zi k2 12 f2)] ∧ va_S A s.heap H locs ∧ lv_has ls 4 [(0, .ref h0), (1, .ref (adK 1)), (2, .int z8), (3, .int (u18_ 0))] ∧ (0 ≤ (u18_ 0).toInt ∧ (u18_ 0).toInt ≤ 3) ∧ (z8.toInt = (v0 3).toInt - 3) ∧ (zEb f2 z8.toInt (u18_ 0).toInt 1)) (fun ls u18_ w18_ => F0 m 18 ls []) 0 0 ?_ (fun hJ18 => ?_)
    · skip
      intro H locs ls u18_ w18_ a18_ b18_ hc hJ18
      obtain ⟨hP, hD, hS, hl, b_, b_, hI18_1⟩ := hc
      refine lv_iload_n hx hb dX9_endsBy_18 rfl (lv_at hl 3 rfl) ?_
      refine lv_aload_n hx hb dX9_endsBy_19 rfl (lv_at hl 1 rfl) ?_
      have hPc := hP.sub (ws' := []) [] rfl
      have hDc := hD.sub (ws' := []) [] (by decide) rfl
      have hKc := hK.sub (tys' := []) [] rfl
      have hFc := va_free (wc := []) hD hS hA [] rfl
      refine va_calli (va_runV (As := []) (rest := [.int (u18_ 0)]) ⟨hx, hb, hml, hown, hG⟩ (sJ0_length_8abf5_6 l dC dI adK adV H.size) (cwV 0 hG (zgV zv677 zv678 zv679 zv146 zv680) rfl rfl rfl (by decide +kernel) ⟨Nat.le_of_ble_eq_true rfl, Nat.le_of_ble_eq_true rfl⟩) ⟨zPc_blind, vk_recv hZ.2.2.2.1 (i := 1) (by decide) hS, zPc_pre hPc hKc hDc hE hS hFc hZ⟩ rfl rfl hl.1 rfl (lv_room (Nat.le_of_ble_eq_true rfl)) dX9_endsBy_20 ⟨Nat.le_of_ble_eq_true rfl, Nat.le_of_ble_eq_true rfl⟩) hS (fun q _ h => hFc q h) hFc (fun r20_ u20_ t H1 locs ht hvm hw hB hz1 hk1 hS => ?_)
      replace hw : (3 ≤ r20_.toInt ∧ r20_.toInt ≤ 3) := hw
      have b_ := hw
      obtain rfl : r20_ = (3 : Int32) := zeqi.mpr ((show r20_.toInt = 3 from by omega).trans zk_3.symm)
      obtain ⟨w20_, a20_, b20_, hP1, hK1, hD1⟩ := hB
      rw [ht] at hP1
      obtain ⟨hP, hD⟩ := va_join (wr := [(h0, .inr (9, mX9 h1 h2 v0)), (h2, zi k2 12 f2)]) (w1 := []) hP hD [] [0, 1] rfl rfl (by decide) (by decide) hk1 hFc hP1 hD1
      have hP : va_P (dC, dI) vwCl [(h0, .inr (9, mX9 h1 h2 v0)), (h2, zi k2 12 f2)] H1 := hP.sub [0, 1] rfl
      have hD : va_D A [(h0, .inr (9, mX9 h1 h2 v0)), (h2, zi k2 12 f2)] := hD.sub [0, 1] (by decide) rfl
      generalize H1 = H at hP hS ⊢
      clear hz1
      refine lv_icmp_ge (tgt := 50) hx hb dX9_endsBy_23 (by decide) (fun c_ => ?_) (fun c_ => ?_)
      · skip
        have b_ := zT_ge rfl zk_3 c_
        refine lv_iconst (v := 1) hx hb dX9_endsBy_50 (by decide) ?_
        refine W.widen (k := 0) (n := 0) (by decide) (by decide) ?_
        have hpost : (0 ≤ (1 : Int32).toInt ∧ (1 : Int32).toInt ≤ 1) ∧ ((1 : Int32).toInt = 1 → (3 ≤ (v0 3).toInt ∧ zEb f2 ((v0 3).toInt - 3) 3 1)) ∧ ((1 : Int32).toInt = 0 → ¬ (3 ≤ (v0 3).toInt ∧ zEb f2 ((v0 3).toInt - 3) 3 1)) := ⟨(by first | with_reducible assumption | exact ⟨by omega, by omega⟩), by first | (intro q; exact absurd q (by decide)) | exact fun _ => ⟨by omega, zEb_e hI18_1 (by omega) (by omega)⟩, by first | (intro q; exact absurd q (by decide)) | (intro _ q; omega) | exact fun _ q => zEb_n (k := (u18_ 0).toInt) q.2 e_z33 (by omega) (by omega) (by omega) (by omega) (by omega)⟩
        have hP9 : va_P (dC, dI) vwCl [(h0, .inr (9, mX9 h1 h2 v0)), (h2, zi k2 12 f2)] H := hP
        have hD9 : va_D A [(h0, .inr (9, mX9 h1 h2 v0)), (h2, zi k2 12 f2)] := hD
        exact W.zret (v := 1) hx hb hr rfl (fun t ht hW => ⟨⟨1, (fun _ => 0), rfl, hpost, (fun _ => 0), (fun _ => (fun _ => 0)), (fun _ => (fun _ => 0)), by rw [ht]; exact hP9, va_K.moved hW.alike hK, hD9⟩, hS.F ht⟩) hS.2.2 dX9_endsBy_51
      · skip
        have b_ := zF_ge rfl zk_3 c_
        refine lv_aload_n hx hb dX9_endsBy_26 rfl (lv_at hl 0 rfl) ?_
        refine va_get (D := (dC, dI)) (ci := 9) (v := .ref h2) (C := RX9) (T := TX9) (N := 4) hx hb hG zuX9 hown hK hP 0 rfl rfl 1 (by decide) (hG _ zv170) (fun _ h9 => h9) rfl dX9_endsBy_27 ?_
        refine lv_iload_n hx hb dX9_endsBy_30 rfl (lv_at hl 2 rfl) ?_
        refine lv_iload_n hx hb dX9_endsBy_31 rfl (lv_at hl 3 rfl) ?_
        refine lv_iadd hx hb dX9_endsBy_32 ?_
        refine lv_topi (fun z32 e_z32 => ?_)
        have b_ := zadd rfl rfl e_z32 (by omega) (by omega)
        refine va_bald hx hb hK hP 1 0 rfl rfl (zin_lit ⟨by omega, by omega⟩) dX9_endsBy_33 ?_
        refine lv_topi (fun z33 e_z33 => ?_)
        refine lv_aload_n hx hb dX9_endsBy_34 rfl (lv_at hl 1 rfl) ?_
        refine lv_iload_n hx hb dX9_endsBy_35 rfl (lv_at hl 3 rfl) ?_
        have hPc := hP.sub (ws' := []) [] rfl
        have hDc := hD.sub (ws' := []) [] (by decide) rfl
        have hKc := hK.sub (tys' := []) [] rfl
        have hFc := va_free (wc := []) hD hS hA [] rfl
        refine va_calli (va_runV (As := [.int (u18_ 0)]) (rest := [.int z33]) ⟨hx, hb, hml, hown, hG⟩ (sJ0_charAt_5068e_6 l dC dI adK adV H.size (u18_ 0) (show (0 : Int) ≤ ((u18_ 0) : Int32).toInt ∧ ((u18_ 0) : Int32).toInt ≤ (2 : Int) from (by first | with_reducible assumption | exact ⟨by omega, by omega⟩))) (cwV 1 hG (zgV zv687 zv688 zv689 zv146 zv690) rfl rfl rfl (by decide +kernel) ⟨Nat.le_of_ble_eq_true rfl, Nat.le_of_ble_eq_true rfl⟩) ⟨zPc_blind, vk_recv hZ.2.2.2.1 (i := 1) (by decide) hS, zPc_pre hPc hKc hDc hE hS hFc hZ⟩ rfl rfl hl.1 rfl (lv_room (Nat.le_of_ble_eq_true rfl)) dX9_endsBy_36 ⟨Nat.le_of_ble_eq_true rfl, Nat.le_of_ble_eq_true rfl⟩) hS (fun q _ h => hFc q h) hFc (fun r36_ u36_ t H1 locs ht hvm hw hB hz1 hk1 hS => ?_)
        replace hw : (0 ≤ r36_.toInt ∧ r36_.toInt ≤ 255) ∧ (r36_.toInt = zCr 1 (u18_ 0).toInt) := hw
        obtain ⟨b_, hX36_0⟩ := hw
        obtain ⟨w36_, a36_, b36_, hP1, hK1, hD1⟩ := hB
        rw [ht] at hP1
        obtain ⟨hP, hD⟩ := va_join (wr := [(h0, .inr (9, mX9 h1 h2 v0)), (h2, zi k2 12 f2)]) (w1 := []) hP hD [] [0, 1] rfl rfl (by decide) (by decide) hk1 hFc hP1 hD1
        have hP : va_P (dC, dI) vwCl [(h0, .inr (9, mX9 h1 h2 v0)), (h2, zi k2 12 f2)] H1 := hP.sub [0, 1] rfl
        have hD : va_D A [(h0, .inr (9, mX9 h1 h2 v0)), (h2, zi k2 12 f2)] := hD.sub [0, 1] (by decide) rfl
        generalize H1 = H at hP hS ⊢
        clear hz1
        have b_ : -2147483648 ≤ z33.toInt ∧ z33.toInt ≤ 2147483647 := ⟨zlo _, zhi _⟩
        refine lv_icmp_eq (tgt := 44) hx hb dX9_endsBy_39 (by decide) (fun c_ => ?_) (fun c_ => ?_)
        · skip
          have b_ := zT_eq rfl rfl c_
          obtain ⟨z44, e_z44⟩ : ∃ z : Int32, z = (u18_ 0) + Int32.ofInt 1 := ⟨_, rfl⟩
          have b_ := zadd (x := (u18_ 0)) (y := Int32.ofInt 1) rfl (show (Int32.ofInt 1).toInt = 1 from by decide) e_z44 (by omega) (by omega)
          refine lv_iinc (v := z44) (lv' := [(3, .int z44), (0, .ref h0), (1, .ref (adK 1)), (2, .int z8)]) hx hb dX9_endsBy_44 hl (k := 3) rfl e_z44.symm (by decide) rfl (fun ls hl => ?_)
          refine lv_goto (tgt := 18) hx hb dX9_endsBy_47 (by decide) ?_
          have hc : va_P (dC, dI) vwCl [(h0, .inr (9, mX9 h1 h2 v0)), (h2, zi k2 12 f2)] H ∧ va_D A [(h0, .inr (9, mX9 h1 h2 v0)), (h2, zi k2 12 f2)] ∧ va_S A s.heap H locs ∧ lv_has ls 4 [(0, .ref h0), (1, .ref (adK 1)), (2, .int z8), (3, .int z44)] ∧ (0 ≤ z44.toInt ∧ z44.toInt ≤ 3) ∧ (z8.toInt = (v0 3).toInt - 3) ∧ (zEb f2 z8.toInt z44.toInt 1) := ⟨hP, hD, hS, lv_sub hl [1, 2, 3, 0] rfl, (by first | with_reducible assumption | exact ⟨by omega, by omega⟩), by omega, by first | exact zEb_0 (by omega) | exact zEb_s (by assumption) e_z33 (by omega) (by omega) (by omega) (by omega) (by omega)⟩
          exact hJ18 H locs ls (fun i => ([z44] : List (Int32)).getD i 0) (fun _ => 0) (fun _ => (fun _ => 0)) (fun _ => (fun _ => 0)) hc (show (3 - z44.toInt).toNat < (3 - (u18_ 0).toInt).toNat from by omega)
        · skip
          have b_ := zF_eq rfl rfl c_
          refine lv_iconst (v := 0) hx hb dX9_endsBy_42 (by decide) ?_
          refine W.widen (k := 0) (n := 0) (by decide) (by decide) ?_
          have hpost : (0 ≤ (0 : Int32).toInt ∧ (0 : Int32).toInt ≤ 1) ∧ ((0 : Int32).toInt = 1 → (3 ≤ (v0 3).toInt ∧ zEb f2 ((v0 3).toInt - 3) 3 1)) ∧ ((0 : Int32).toInt = 0 → ¬ (3 ≤ (v0 3).toInt ∧ zEb f2 ((v0 3).toInt - 3) 3 1)) := ⟨(by first | with_reducible assumption | exact ⟨by omega, by omega⟩), by first | (intro q; exact absurd q (by decide)) | exact fun _ => ⟨by omega, zEb_e hI18_1 (by omega) (by omega)⟩, by first | (intro q; exact absurd q (by decide)) | (intro _ q; omega) | exact fun _ q => zEb_n (k := (u18_ 0).toInt) q.2 e_z33 (by omega) (by omega) (by omega) (by omega) (by omega)⟩
          have hP9 : va_P (dC, dI) vwCl [(h0, .inr (9, mX9 h1 h2 v0)), (h2, zi k2 12 f2)] H := hP
          have hD9 : va_D A [(h0, .inr (9, mX9 h1 h2 v0)), (h2, zi k2 12 f2)] := hD
          exact W.zret (v := 0) hx hb hr rfl (fun t ht hW => ⟨⟨0, (fun _ => 0), rfl, hpost, (fun _ => 0), (fun _ => (fun _ => 0)), (fun _ => (fun _ => 0)), by rw [ht]; exact hP9, va_K.moved hW.alike hK, hD9⟩, hS.F ht⟩) hS.2.2 dX9_endsBy_43
    · skip
      have hc : va_P (dC, dI) vwCl [(h0, .inr (9, mX9 h1 h2 v0)), (h2, zi k2 12 f2)] H ∧ va_D A [(h0, .inr (9, mX9 h1 h2 v0)), (h2, zi k2 12 f2)] ∧ va_S A s.heap H locs ∧ lv_has ls 4 [(0, .ref h0), (1, .ref (adK 1)), (2, .int z8), (3, .int 0)] ∧ (0 ≤ (0 : Int32).toInt ∧ (0 : Int32).toInt ≤ 3) ∧ (z8.toInt = (v0 3).toInt - 3) ∧ (zEb f2 z8.toInt (0 : Int32).toInt 1) := ⟨hP, hD, hS, lv_sub hl [2, 3, 1, 0] rfl, (by first | with_reducible assumption | exact ⟨by omega, by omega⟩), by omega, by first | exact zEb_0 (by omega) | exact zEb_s (by assumption) e_z33 (by omega) (by omega) (by omega) (by omega) (by omega)⟩
      exact hJ18 H locs ls (fun i => ([0] : List (Int32)).getD i 0) (fun _ => 0) (fun _ => (fun _ => 0)) (fun _ => (fun _ => 0)) hc
  · skip
    have b_ := zF_ge rfl zk_0 c_
    refine lv_iconst (v := 0) hx hb dX9_endsBy_14 (by decide) ?_
    refine W.widen (k := 0) (n := 0) (by decide) (by decide) ?_
    have hpost : (0 ≤ (0 : Int32).toInt ∧ (0 : Int32).toInt ≤ 1) ∧ ((0 : Int32).toInt = 1 → (3 ≤ (v0 3).toInt ∧ zEb f2 ((v0 3).toInt - 3) 3 1)) ∧ ((0 : Int32).toInt = 0 → ¬ (3 ≤ (v0 3).toInt ∧ zEb f2 ((v0 3).toInt - 3) 3 1)) := ⟨(by first | with_reducible assumption | exact ⟨by omega, by omega⟩), by first | (intro q; exact absurd q (by decide)) | exact fun _ => ⟨by omega, zEb_e hI18_1 (by omega) (by omega)⟩, by first | (intro q; exact absurd q (by decide)) | (intro _ q; omega) | exact fun _ q => zEb_n (k := (u18_ 0).toInt) q.2 e_z33 (by omega) (by omega) (by omega) (by omega) (by omega)⟩
    have hP9 : va_P (dC, dI) vwCl [(h0, .inr (9, mX9 h1 h2 v0)), (h2, zi k2 12 f2)] H := hP
    have hD9 : va_D A [(h0, .inr (9, mX9 h1 h2 v0)), (h2, zi k2 12 f2)] := hD
    exact W.zret (v := 0) hx hb hr rfl (fun t ht hW => ⟨⟨0, (fun _ => 0), rfl, hpost, (fun _ => 0), (fun _ => (fun _ => 0)), (fun _ => (fun _ => 0)), by rw [ht]; exact hP9, va_K.moved hW.alike hK, hD9⟩, hS.F ht⟩) hS.2.2 dX9_endsBy_15
set_option maxHeartbeats 8000000 in
set_option maxRecDepth 100000 in
theorem sX9_shorten_0 (l : Launch) (dC : Nat → ClassId) (dI : Nat → Nat → Nat) (adK adV : Nat → Nat) (h0 : Nat) (h2 : Nat) (h1 : Nat) (k2 : ClassId) (sz : Nat) (v0 : Nat → Int32) (f2 : Nat → Int32) (hv0 : zR rg_Tape v0) : Met l yX9_shorten (zw yX9_shorten cX9_shorten 1 none) { frames := 5, cells := 0, slots := 0, locals := 108 } (zPc dC dI adK adV [.ref h0] sz [(h0, .inr (9, mX9 h1 h2 v0)), (h2, zi k2 12 f2)] [(k2, .byte)]) (va_Qv (fun (u : Nat → Int32) => (0 ≤ (u 0).toInt ∧ (u 0).toInt ≤ 12) ∧ ((u 0).toInt = (zshm (fun k => (f2 k).toInt) ((v0 3).toInt).toNat : Int))) (fun (u : Nat → Int32) (t : State) => ∃ (ww : Nat → Int64) (aa : Nat → Nat → Int32) (bb : Nat → Nat → Int64), (∀ k : Nat, ((aa 0) k).toInt = zshl (fun k => (f2 k).toInt) ((v0 3).toInt).toNat k) ∧ va_P (dC, dI) vwCl [(h0, .inr (9, mX9 h1 h2 (upd v0 3 (u 0)))), (h2, zi k2 12 (aa 0))] t.heap ∧ va_K (dC, dI) vwCl [(k2, .byte)] t ∧ va_D (va_A [(h0, .inr (9, mX9 h1 h2 v0)), (h2, zi k2 12 f2)] sz) [(h0, .inr (9, mX9 h1 h2 (upd v0 3 (u 0)))), (h2, zi k2 12 (aa 0))]) (va_A [(h0, .inr (9, mX9 h1 h2 v0)), (h2, zi k2 12 f2)] sz)) 0 0 (va_A [(h0, .inr (9, mX9 h1 h2 v0)), (h2, zi k2 12 f2)] sz) := by
  refine Met.ofW (cc := cX9_shorten) (maxL := 1) (ret := none) (by decide) rfl ?_
  intro p e s m args below meth c s₁ B hml hv
  obtain ⟨rfl, hsz, hP, hK, hD0, hE, hZ⟩ := hv
  have hx := B.exec
  have hb := B.bytes
  have hr := B.returns
  have hG : ∀ w ∈ zG, w.before _ s = true := fun w h => atoms_spec (ws := (zw yX9_shorten cX9_shorten 1 none)) B.pre w (List.mem_cons_of_mem _ h)
  have hown : s.vm.findClass RX9 = some m.cls := findClass_of_methodNamed B.named
  have hlocks := B.notSynchronized

  subst hsz
  have hD := hD0.self (sz := s.heap.size)
  generalize hAe : va_A [(h0, .inr (9, mX9 h1 h2 v0)), (h2, zi k2 12 f2)] s.heap.size = A at hD hZ ⊢
  have hA : ∀ q : Nat, s.heap.size ≤ q → A q := fun q h => by rw [← hAe]; exact Or.inr h
  have hS : va_S A s.heap s.heap [] := va_S.rf
  have hl := lv_entry ([.ref h0]) (n := 1) (Nat.le_of_ble_eq_true rfl)
  rw [lg_entry_eq]
  generalize (lg_sl ([.ref h0]) ++ List.replicate (1 - (lg_sl ([.ref h0])).length) Slot.unset).toArray = ls at hl ⊢
  have hl : lv_has ls 1 [(0, .ref h0)] := hl
  have b_ : 0 ≤ (v0 3).toInt ∧ (v0 3).toInt ≤ 12 := hv0 3
  refine lv_aload_n hx hb dX9_shorten_0 rfl (lv_at hl 0 rfl) ?_
  have hPc := hP.sub (ws' := [(h0, .inr (9, mX9 h1 h2 v0)), (h2, zi k2 12 f2)]) [0, 1] rfl
  have hDc := hD.sub (ws' := [(h0, .inr (9, mX9 h1 h2 v0)), (h2, zi k2 12 f2)]) [0, 1] (by decide) rfl
  have hKc := hK.sub (tys' := [(k2, .byte)]) [0] rfl
  have hFc := va_free (wc := [(h0, .inr (9, mX9 h1 h2 v0)), (h2, zi k2 12 f2)]) hD hS hA [0, 1] rfl
  refine va_calli (va_runV (As := []) (rest := []) ⟨hx, hb, hml, hown, hG⟩ (sX9_hasDigit_0 l dC dI adK adV h0 h2 h1 k2 s.heap.size v0 f2 hv0) (cwV 0 hG (zgV zv668 zv670 zv3 zv130 zv671) rfl rfl rfl (by decide +kernel) ⟨Nat.le_of_ble_eq_true rfl, Nat.le_of_ble_eq_true rfl⟩) ⟨zPc_blind, va_recv hKc hPc (ci := 9) (q0 := 0) rfl rfl, zPc_pre hPc hKc hDc hE hS hFc hZ⟩ rfl rfl hl.1 rfl (lv_room (Nat.le_of_ble_eq_true rfl)) dX9_shorten_1 ⟨Nat.le_of_ble_eq_true rfl, Nat.le_of_ble_eq_true rfl⟩) hS (fun q _ h => hFc q h) hFc (fun r1_ u1_ t H1 locs ht hvm hw hB hz1 hk1 hS => ?_)
  replace hw : (0 ≤ r1_.toInt ∧ r1_.toInt ≤ 1) ∧ (r1_.toInt = 1 → zhd (fun k => (f2 k).toInt) ((v0 3).toInt).toNat = true) ∧ (r1_.toInt = 0 → zhd (fun k => (f2 k).toInt) ((v0 3).toInt).toNat = false) := hw
  obtain ⟨b_, hX1_0, hX1_1⟩ := hw
  obtain ⟨w1_, a1_, b1_, hP1, hK1, hD1⟩ := hB
  rw [ht] at hP1
  obtain ⟨hP, hD⟩ := va_join (wr := []) (w1 := [(h0, .inr (9, mX9 h1 h2 v0)), (h2, zi k2 12 f2)]) hP hD [0, 1] [] rfl rfl (by decide) (by decide) hk1 hFc hP1 hD1
  have hP : va_P (dC, dI) vwCl [(h0, .inr (9, mX9 h1 h2 v0)), (h2, zi k2 12 f2)] H1 := hP.sub [0, 1] rfl
  have hD : va_D A [(h0, .inr (9, mX9 h1 h2 v0)), (h2, zi k2 12 f2)] := hD.sub [0, 1] (by decide) rfl
  generalize H1 = H at hP hS ⊢
  clear hz1
  refine lv_if_eq (tgt := 8) hx hb dX9_shorten_4 (by decide) (fun c_ => ?_) (fun c_ => ?_)
  · skip
    have b_ := zT_eq rfl zk_0 c_
    have hhd : zhd (fun k => (f2 k).toInt) (v0 3).toInt.toNat = false := by first | exact hX1_1 (by omega)
    refine lv_aload_n hx hb dX9_shorten_8 rfl (lv_at hl 0 rfl) ?_
    refine va_get (D := (dC, dI)) (ci := 9) (v := .int (v0 3)) (C := RX9) (T := TX9) (N := 4) hx hb hG zuX9 hown hK hP 0 rfl rfl 3 (by decide) (hG _ zv172) (fun _ h9 => h9) rfl dX9_shorten_9 ?_
    refine lv_iconst (v := 5) hx hb dX9_shorten_12 (by decide) ?_
    refine lv_icmp_lt (tgt := 51) hx hb dX9_shorten_13 (by decide) (fun c_ => ?_) (fun c_ => ?_)
    · skip
      have b_ := zT_lt rfl zk_5 c_
      have hie : zies (fun k => (f2 k).toInt) (v0 3).toInt.toNat = false := by first | exact zies_f (Or.inl (by omega)) | exact zies_f (Or.inr (hX19_1 (by omega)))
      refine lv_aload_n hx hb dX9_shorten_51 rfl (lv_at hl 0 rfl) ?_
      refine va_get (D := (dC, dI)) (ci := 9) (v := .int (v0 3)) (C := RX9) (T := TX9) (N := 4) hx hb hG zuX9 hown hK hP 0 rfl rfl 3 (by decide) (hG _ zv172) (fun _ h9 => h9) rfl dX9_shorten_52 ?_
      refine lv_bipush (v := 6) hx hb dX9_shorten_55 (by decide) ?_
      refine lv_icmp_lt (tgt := 82) hx hb dX9_shorten_57 (by decide) (fun c_ => ?_) (fun c_ => False.elim (by have b_ := zF_lt rfl zk_6 c_; omega))
      have b_ := zT_lt rfl zk_6 c_
      have hin : zing (fun k => (f2 k).toInt) (v0 3).toInt.toNat = false := by first | exact zing_f (Or.inl (by omega)) | exact zing_f (Or.inr (hX63_1 (by omega)))
      refine lv_aload_n hx hb dX9_shorten_82 rfl (lv_at hl 0 rfl) ?_
      refine va_get (D := (dC, dI)) (ci := 9) (v := .int (v0 3)) (C := RX9) (T := TX9) (N := 4) hx hb hG zuX9 hown hK hP 0 rfl rfl 3 (by decide) (hG _ zv172) (fun _ h9 => h9) rfl dX9_shorten_83 ?_
      refine lv_iconst (v := 5) hx hb dX9_shorten_86 (by decide) ?_
      refine lv_icmp_lt (tgt := 112) hx hb dX9_shorten_87 (by decide) (fun c_ => ?_) (fun c_ => False.elim (by have b_ := zF_lt rfl zk_5 c_; omega))
      have b_ := zT_lt rfl zk_5 c_
      have hed : zed (fun k => (f2 k).toInt) (v0 3).toInt.toNat = false := by first | exact zed_f (Or.inl (by omega)) | exact zed_f (Or.inr (hX93_1 (by omega)))
      refine lv_aload_n hx hb dX9_shorten_112 rfl (lv_at hl 0 rfl) ?_
      refine va_get (D := (dC, dI)) (ci := 9) (v := .int (v0 3)) (C := RX9) (T := TX9) (N := 4) hx hb hG zuX9 hown hK hP 0 rfl rfl 3 (by decide) (hG _ zv172) (fun _ h9 => h9) rfl dX9_shorten_113 ?_
      refine lv_iconst (v := 4) hx hb dX9_shorten_116 (by decide) ?_
      refine lv_icmp_lt (tgt := 166) hx hb dX9_shorten_117 (by decide) (fun c_ => ?_) (fun c_ => ?_)
      · skip
        have b_ := zT_lt rfl zk_4 c_
        have hes : zes (fun k => (f2 k).toInt) (v0 3).toInt.toNat = false := by first | exact zes_f (Or.inl (by omega)) | exact zes_f (Or.inr (Or.inl (hX123_1 (by omega)))) | exact zes_f (Or.inr (Or.inr (Or.inl (hX132_0 (by omega))))) | exact zes_f (Or.inr (Or.inr (Or.inr (Or.inl (hX141_0 (by omega)))))) | exact zes_f (Or.inr (Or.inr (Or.inr (Or.inr (hX150_0 (by omega))))))
        refine W.widen (k := 0) (n := 0) (by decide) (by decide) ?_
        have hpost : (0 ≤ (v0 3).toInt ∧ (v0 3).toInt ≤ 12) ∧ ((v0 3).toInt = (zshm (fun k => (f2 k).toInt) ((v0 3).toInt).toNat : Int)) := ⟨(by first | with_reducible assumption | exact ⟨by omega, by omega⟩), by first | exact zsm1 hhd (by omega) (by omega) | exact zsm2 hhd hie (by omega) (by omega) | exact zsm3 hhd hie hin (by omega) (by omega) | exact zsm4 hhd hie hin hed (by omega) (by omega) | exact zsm5 hhd hie hin hed hes (by omega) (by omega) | exact zsm6 hhd hie hin hed hes (by omega) (by omega)⟩
        have hP9 : va_P (dC, dI) vwCl [(h0, .inr (9, mX9 h1 h2 (upd v0 3 (v0 3)))), (h2, zi k2 12 f2)] H := hP
        have hD9 : va_D A [(h0, .inr (9, mX9 h1 h2 (upd v0 3 (v0 3)))), (h2, zi k2 12 f2)] := hD
        have hB0 : ∀ k : Nat, (f2 k).toInt = zshl (fun k => (f2 k).toInt) ((v0 3).toInt).toNat k := by first | exact zsl1 hhd | exact zsl3 hie | (rw [e_f_47]; exact zsl2 hhd hie (by omega) (by omega))
        exact W.vret hx hb hr (fun t ht hW => ⟨⟨(fun i => ([(v0 3)] : List (Int32)).getD i 0), rfl, hpost, (fun _ => 0), (fun i => ([f2] : List (Nat → Int32)).getD i (fun _ => 0)), (fun _ => (fun _ => 0)), hB0, by rw [ht]; exact hP9, va_K.moved hW.alike hK, hD9⟩, hS.F ht⟩) hS.2.2 dX9_shorten_166
      · skip
        have b_ := zF_lt rfl zk_4 c_
        refine lv_aload_n hx hb dX9_shorten_120 rfl (lv_at hl 0 rfl) ?_
        refine va_ldcS hx hb hown (zE_K3 hE) dX9_shorten_121 ?_
        have hPc := hP.sub (ws' := [(h0, .inr (9, mX9 h1 h2 v0)), (h2, zi k2 12 f2)]) [0, 1] rfl
        have hDc := hD.sub (ws' := [(h0, .inr (9, mX9 h1 h2 v0)), (h2, zi k2 12 f2)]) [0, 1] (by decide) rfl
        have hKc := hK.sub (tys' := [(k2, .byte)]) [0] rfl
        have hFc := va_free (wc := [(h0, .inr (9, mX9 h1 h2 v0)), (h2, zi k2 12 f2)]) hD hS hA [0, 1] rfl
        refine va_calli (va_runV (As := [.ref (adK 3)]) (rest := []) ⟨hx, hb, hml, hown, hG⟩ (sX9_endsBy_0 l dC dI adK adV h0 h2 h1 k2 H.size v0 f2 hv0) (cwV 1 hG (zgV zv673 zv675 zv4 zv130 zv676) rfl rfl rfl (by decide +kernel) ⟨Nat.le_of_ble_eq_true rfl, Nat.le_of_ble_eq_true rfl⟩) ⟨zPc_blind, va_recv hKc hPc (ci := 9) (q0 := 0) rfl rfl, zPc_pre hPc hKc hDc hE hS hFc hZ⟩ rfl rfl hl.1 rfl (lv_room (Nat.le_of_ble_eq_true rfl)) dX9_shorten_123 ⟨Nat.le_of_ble_eq_true rfl, Nat.le_of_ble_eq_true rfl⟩) hS (fun q _ h => hFc q h) hFc (fun r123_ u123_ t H1 locs ht hvm hw hB hz1 hk1 hS => ?_)
        replace hw : (0 ≤ r123_.toInt ∧ r123_.toInt ≤ 1) ∧ (r123_.toInt = 1 → (1 ≤ (v0 3).toInt ∧ zEb f2 ((v0 3).toInt - 1) 1 3)) ∧ (r123_.toInt = 0 → ¬ (1 ≤ (v0 3).toInt ∧ zEb f2 ((v0 3).toInt - 1) 1 3)) := hw
        obtain ⟨b_, hX123_0, hX123_1⟩ := hw
        obtain ⟨w123_, a123_, b123_, hP1, hK1, hD1⟩ := hB
        rw [ht] at hP1
        obtain ⟨hP, hD⟩ := va_join (wr := []) (w1 := [(h0, .inr (9, mX9 h1 h2 v0)), (h2, zi k2 12 f2)]) hP hD [0, 1] [] rfl rfl (by decide) (by decide) hk1 hFc hP1 hD1
        have hP : va_P (dC, dI) vwCl [(h0, .inr (9, mX9 h1 h2 v0)), (h2, zi k2 12 f2)] H1 := hP.sub [0, 1] rfl
        have hD : va_D A [(h0, .inr (9, mX9 h1 h2 v0)), (h2, zi k2 12 f2)] := hD.sub [0, 1] (by decide) rfl
        generalize H1 = H at hP hS ⊢
        clear hz1
        refine lv_if_eq (tgt := 166) hx hb dX9_shorten_126 (by decide) (fun c_ => ?_) (fun c_ => ?_)
        · skip
          have b_ := zT_eq rfl zk_0 c_
          have hes : zes (fun k => (f2 k).toInt) (v0 3).toInt.toNat = false := by first | exact zes_f (Or.inl (by omega)) | exact zes_f (Or.inr (Or.inl (hX123_1 (by omega)))) | exact zes_f (Or.inr (Or.inr (Or.inl (hX132_0 (by omega))))) | exact zes_f (Or.inr (Or.inr (Or.inr (Or.inl (hX141_0 (by omega)))))) | exact zes_f (Or.inr (Or.inr (Or.inr (Or.inr (hX150_0 (by omega))))))
          refine W.widen (k := 0) (n := 0) (by decide) (by decide) ?_
          have hpost : (0 ≤ (v0 3).toInt ∧ (v0 3).toInt ≤ 12) ∧ ((v0 3).toInt = (zshm (fun k => (f2 k).toInt) ((v0 3).toInt).toNat : Int)) := ⟨(by first | with_reducible assumption | exact ⟨by omega, by omega⟩), by first | exact zsm1 hhd (by omega) (by omega) | exact zsm2 hhd hie (by omega) (by omega) | exact zsm3 hhd hie hin (by omega) (by omega) | exact zsm4 hhd hie hin hed (by omega) (by omega) | exact zsm5 hhd hie hin hed hes (by omega) (by omega) | exact zsm6 hhd hie hin hed hes (by omega) (by omega)⟩
          have hP9 : va_P (dC, dI) vwCl [(h0, .inr (9, mX9 h1 h2 (upd v0 3 (v0 3)))), (h2, zi k2 12 f2)] H := hP
          have hD9 : va_D A [(h0, .inr (9, mX9 h1 h2 (upd v0 3 (v0 3)))), (h2, zi k2 12 f2)] := hD
          have hB0 : ∀ k : Nat, (f2 k).toInt = zshl (fun k => (f2 k).toInt) ((v0 3).toInt).toNat k := by first | exact zsl1 hhd | exact zsl3 hie | (rw [e_f_47]; exact zsl2 hhd hie (by omega) (by omega))
          exact W.vret hx hb hr (fun t ht hW => ⟨⟨(fun i => ([(v0 3)] : List (Int32)).getD i 0), rfl, hpost, (fun _ => 0), (fun i => ([f2] : List (Nat → Int32)).getD i (fun _ => 0)), (fun _ => (fun _ => 0)), hB0, by rw [ht]; exact hP9, va_K.moved hW.alike hK, hD9⟩, hS.F ht⟩) hS.2.2 dX9_shorten_166
        · skip
          have b_ := zF_eq rfl zk_0 c_
          refine lv_aload_n hx hb dX9_shorten_129 rfl (lv_at hl 0 rfl) ?_
          refine va_ldcS hx hb hown (zE_K4 hE) dX9_shorten_130 ?_
          have hPc := hP.sub (ws' := [(h0, .inr (9, mX9 h1 h2 v0)), (h2, zi k2 12 f2)]) [0, 1] rfl
          have hDc := hD.sub (ws' := [(h0, .inr (9, mX9 h1 h2 v0)), (h2, zi k2 12 f2)]) [0, 1] (by decide) rfl
          have hKc := hK.sub (tys' := [(k2, .byte)]) [0] rfl
          have hFc := va_free (wc := [(h0, .inr (9, mX9 h1 h2 v0)), (h2, zi k2 12 f2)]) hD hS hA [0, 1] rfl
          refine va_calli (va_runV (As := [.ref (adK 4)]) (rest := []) ⟨hx, hb, hml, hown, hG⟩ (sX9_endsBy_1 l dC dI adK adV h0 h2 h1 k2 H.size v0 f2 hv0) (cwV 1 hG (zgV zv673 zv675 zv4 zv130 zv676) rfl rfl rfl (by decide +kernel) ⟨Nat.le_of_ble_eq_true rfl, Nat.le_of_ble_eq_true rfl⟩) ⟨zPc_blind, va_recv hKc hPc (ci := 9) (q0 := 0) rfl rfl, zPc_pre hPc hKc hDc hE hS hFc hZ⟩ rfl rfl hl.1 rfl (lv_room (Nat.le_of_ble_eq_true rfl)) dX9_shorten_132 ⟨Nat.le_of_ble_eq_true rfl, Nat.le_of_ble_eq_true rfl⟩) hS (fun q _ h => hFc q h) hFc (fun r132_ u132_ t H1 locs ht hvm hw hB hz1 hk1 hS => ?_)
          replace hw : (0 ≤ r132_.toInt ∧ r132_.toInt ≤ 1) ∧ (r132_.toInt = 1 → (2 ≤ (v0 3).toInt ∧ zEb f2 ((v0 3).toInt - 2) 2 4)) ∧ (r132_.toInt = 0 → ¬ (2 ≤ (v0 3).toInt ∧ zEb f2 ((v0 3).toInt - 2) 2 4)) := hw
          obtain ⟨b_, hX132_0, hX132_1⟩ := hw
          obtain ⟨w132_, a132_, b132_, hP1, hK1, hD1⟩ := hB
          rw [ht] at hP1
          obtain ⟨hP, hD⟩ := va_join (wr := []) (w1 := [(h0, .inr (9, mX9 h1 h2 v0)), (h2, zi k2 12 f2)]) hP hD [0, 1] [] rfl rfl (by decide) (by decide) hk1 hFc hP1 hD1
          have hP : va_P (dC, dI) vwCl [(h0, .inr (9, mX9 h1 h2 v0)), (h2, zi k2 12 f2)] H1 := hP.sub [0, 1] rfl
          have hD : va_D A [(h0, .inr (9, mX9 h1 h2 v0)), (h2, zi k2 12 f2)] := hD.sub [0, 1] (by decide) rfl
          generalize H1 = H at hP hS ⊢
          clear hz1
          refine lv_if_ne (tgt := 166) hx hb dX9_shorten_135 (by decide) (fun c_ => ?_) (fun c_ => ?_)
          · skip
            have b_ := zT_ne rfl zk_0 c_
            have hes : zes (fun k => (f2 k).toInt) (v0 3).toInt.toNat = false := by first | exact zes_f (Or.inl (by omega)) | exact zes_f (Or.inr (Or.inl (hX123_1 (by omega)))) | exact zes_f (Or.inr (Or.inr (Or.inl (hX132_0 (by omega))))) | exact zes_f (Or.inr (Or.inr (Or.inr (Or.inl (hX141_0 (by omega)))))) | exact zes_f (Or.inr (Or.inr (Or.inr (Or.inr (hX150_0 (by omega))))))
            refine W.widen (k := 0) (n := 0) (by decide) (by decide) ?_
            have hpost : (0 ≤ (v0 3).toInt ∧ (v0 3).toInt ≤ 12) ∧ ((v0 3).toInt = (zshm (fun k => (f2 k).toInt) ((v0 3).toInt).toNat : Int)) := ⟨(by first | with_reducible assumption | exact ⟨by omega, by omega⟩), by first | exact zsm1 hhd (by omega) (by omega) | exact zsm2 hhd hie (by omega) (by omega) | exact zsm3 hhd hie hin (by omega) (by omega) | exact zsm4 hhd hie hin hed (by omega) (by omega) | exact zsm5 hhd hie hin hed hes (by omega) (by omega) | exact zsm6 hhd hie hin hed hes (by omega) (by omega)⟩
            have hP9 : va_P (dC, dI) vwCl [(h0, .inr (9, mX9 h1 h2 (upd v0 3 (v0 3)))), (h2, zi k2 12 f2)] H := hP
            have hD9 : va_D A [(h0, .inr (9, mX9 h1 h2 (upd v0 3 (v0 3)))), (h2, zi k2 12 f2)] := hD
            have hB0 : ∀ k : Nat, (f2 k).toInt = zshl (fun k => (f2 k).toInt) ((v0 3).toInt).toNat k := by first | exact zsl1 hhd | exact zsl3 hie | (rw [e_f_47]; exact zsl2 hhd hie (by omega) (by omega))
            exact W.vret hx hb hr (fun t ht hW => ⟨⟨(fun i => ([(v0 3)] : List (Int32)).getD i 0), rfl, hpost, (fun _ => 0), (fun i => ([f2] : List (Nat → Int32)).getD i (fun _ => 0)), (fun _ => (fun _ => 0)), hB0, by rw [ht]; exact hP9, va_K.moved hW.alike hK, hD9⟩, hS.F ht⟩) hS.2.2 dX9_shorten_166
          · skip
            have b_ := zF_ne rfl zk_0 c_
            refine lv_aload_n hx hb dX9_shorten_138 rfl (lv_at hl 0 rfl) ?_
            refine va_ldcS hx hb hown (zE_K5 hE) dX9_shorten_139 ?_
            have hPc := hP.sub (ws' := [(h0, .inr (9, mX9 h1 h2 v0)), (h2, zi k2 12 f2)]) [0, 1] rfl
            have hDc := hD.sub (ws' := [(h0, .inr (9, mX9 h1 h2 v0)), (h2, zi k2 12 f2)]) [0, 1] (by decide) rfl
            have hKc := hK.sub (tys' := [(k2, .byte)]) [0] rfl
            have hFc := va_free (wc := [(h0, .inr (9, mX9 h1 h2 v0)), (h2, zi k2 12 f2)]) hD hS hA [0, 1] rfl
            refine va_calli (va_runV (As := [.ref (adK 5)]) (rest := []) ⟨hx, hb, hml, hown, hG⟩ (sX9_endsBy_2 l dC dI adK adV h0 h2 h1 k2 H.size v0 f2 hv0) (cwV 1 hG (zgV zv673 zv675 zv4 zv130 zv676) rfl rfl rfl (by decide +kernel) ⟨Nat.le_of_ble_eq_true rfl, Nat.le_of_ble_eq_true rfl⟩) ⟨zPc_blind, va_recv hKc hPc (ci := 9) (q0 := 0) rfl rfl, zPc_pre hPc hKc hDc hE hS hFc hZ⟩ rfl rfl hl.1 rfl (lv_room (Nat.le_of_ble_eq_true rfl)) dX9_shorten_141 ⟨Nat.le_of_ble_eq_true rfl, Nat.le_of_ble_eq_true rfl⟩) hS (fun q _ h => hFc q h) hFc (fun r141_ u141_ t H1 locs ht hvm hw hB hz1 hk1 hS => ?_)
            replace hw : (0 ≤ r141_.toInt ∧ r141_.toInt ≤ 1) ∧ (r141_.toInt = 1 → (2 ≤ (v0 3).toInt ∧ zEb f2 ((v0 3).toInt - 2) 2 5)) ∧ (r141_.toInt = 0 → ¬ (2 ≤ (v0 3).toInt ∧ zEb f2 ((v0 3).toInt - 2) 2 5)) := hw
            obtain ⟨b_, hX141_0, hX141_1⟩ := hw
            obtain ⟨w141_, a141_, b141_, hP1, hK1, hD1⟩ := hB
            rw [ht] at hP1
            obtain ⟨hP, hD⟩ := va_join (wr := []) (w1 := [(h0, .inr (9, mX9 h1 h2 v0)), (h2, zi k2 12 f2)]) hP hD [0, 1] [] rfl rfl (by decide) (by decide) hk1 hFc hP1 hD1
            have hP : va_P (dC, dI) vwCl [(h0, .inr (9, mX9 h1 h2 v0)), (h2, zi k2 12 f2)] H1 := hP.sub [0, 1] rfl
            have hD : va_D A [(h0, .inr (9, mX9 h1 h2 v0)), (h2, zi k2 12 f2)] := hD.sub [0, 1] (by decide) rfl
            generalize H1 = H at hP hS ⊢
            clear hz1
            refine lv_if_ne (tgt := 166) hx hb dX9_shorten_144 (by decide) (fun c_ => ?_) (fun c_ => ?_)
            · skip
              have b_ := zT_ne rfl zk_0 c_
              have hes : zes (fun k => (f2 k).toInt) (v0 3).toInt.toNat = false := by first | exact zes_f (Or.inl (by omega)) | exact zes_f (Or.inr (Or.inl (hX123_1 (by omega)))) | exact zes_f (Or.inr (Or.inr (Or.inl (hX132_0 (by omega))))) | exact zes_f (Or.inr (Or.inr (Or.inr (Or.inl (hX141_0 (by omega)))))) | exact zes_f (Or.inr (Or.inr (Or.inr (Or.inr (hX150_0 (by omega))))))
              refine W.widen (k := 0) (n := 0) (by decide) (by decide) ?_
              have hpost : (0 ≤ (v0 3).toInt ∧ (v0 3).toInt ≤ 12) ∧ ((v0 3).toInt = (zshm (fun k => (f2 k).toInt) ((v0 3).toInt).toNat : Int)) := ⟨(by first | with_reducible assumption | exact ⟨by omega, by omega⟩), by first | exact zsm1 hhd (by omega) (by omega) | exact zsm2 hhd hie (by omega) (by omega) | exact zsm3 hhd hie hin (by omega) (by omega) | exact zsm4 hhd hie hin hed (by omega) (by omega) | exact zsm5 hhd hie hin hed hes (by omega) (by omega) | exact zsm6 hhd hie hin hed hes (by omega) (by omega)⟩
              have hP9 : va_P (dC, dI) vwCl [(h0, .inr (9, mX9 h1 h2 (upd v0 3 (v0 3)))), (h2, zi k2 12 f2)] H := hP
              have hD9 : va_D A [(h0, .inr (9, mX9 h1 h2 (upd v0 3 (v0 3)))), (h2, zi k2 12 f2)] := hD
              have hB0 : ∀ k : Nat, (f2 k).toInt = zshl (fun k => (f2 k).toInt) ((v0 3).toInt).toNat k := by first | exact zsl1 hhd | exact zsl3 hie | (rw [e_f_47]; exact zsl2 hhd hie (by omega) (by omega))
              exact W.vret hx hb hr (fun t ht hW => ⟨⟨(fun i => ([(v0 3)] : List (Int32)).getD i 0), rfl, hpost, (fun _ => 0), (fun i => ([f2] : List (Nat → Int32)).getD i (fun _ => 0)), (fun _ => (fun _ => 0)), hB0, by rw [ht]; exact hP9, va_K.moved hW.alike hK, hD9⟩, hS.F ht⟩) hS.2.2 dX9_shorten_166
            · skip
              have b_ := zF_ne rfl zk_0 c_
              refine lv_aload_n hx hb dX9_shorten_147 rfl (lv_at hl 0 rfl) ?_
              refine va_ldcS hx hb hown (zE_K6 hE) dX9_shorten_148 ?_
              have hPc := hP.sub (ws' := [(h0, .inr (9, mX9 h1 h2 v0)), (h2, zi k2 12 f2)]) [0, 1] rfl
              have hDc := hD.sub (ws' := [(h0, .inr (9, mX9 h1 h2 v0)), (h2, zi k2 12 f2)]) [0, 1] (by decide) rfl
              have hKc := hK.sub (tys' := [(k2, .byte)]) [0] rfl
              have hFc := va_free (wc := [(h0, .inr (9, mX9 h1 h2 v0)), (h2, zi k2 12 f2)]) hD hS hA [0, 1] rfl
              refine va_calli (va_runV (As := [.ref (adK 6)]) (rest := []) ⟨hx, hb, hml, hown, hG⟩ (sX9_endsBy_3 l dC dI adK adV h0 h2 h1 k2 H.size v0 f2 hv0) (cwV 1 hG (zgV zv673 zv675 zv4 zv130 zv676) rfl rfl rfl (by decide +kernel) ⟨Nat.le_of_ble_eq_true rfl, Nat.le_of_ble_eq_true rfl⟩) ⟨zPc_blind, va_recv hKc hPc (ci := 9) (q0 := 0) rfl rfl, zPc_pre hPc hKc hDc hE hS hFc hZ⟩ rfl rfl hl.1 rfl (lv_room (Nat.le_of_ble_eq_true rfl)) dX9_shorten_150 ⟨Nat.le_of_ble_eq_true rfl, Nat.le_of_ble_eq_true rfl⟩) hS (fun q _ h => hFc q h) hFc (fun r150_ u150_ t H1 locs ht hvm hw hB hz1 hk1 hS => ?_)
              replace hw : (0 ≤ r150_.toInt ∧ r150_.toInt ≤ 1) ∧ (r150_.toInt = 1 → (2 ≤ (v0 3).toInt ∧ zEb f2 ((v0 3).toInt - 2) 2 6)) ∧ (r150_.toInt = 0 → ¬ (2 ≤ (v0 3).toInt ∧ zEb f2 ((v0 3).toInt - 2) 2 6)) := hw
              obtain ⟨b_, hX150_0, hX150_1⟩ := hw
              obtain ⟨w150_, a150_, b150_, hP1, hK1, hD1⟩ := hB
              rw [ht] at hP1
              obtain ⟨hP, hD⟩ := va_join (wr := []) (w1 := [(h0, .inr (9, mX9 h1 h2 v0)), (h2, zi k2 12 f2)]) hP hD [0, 1] [] rfl rfl (by decide) (by decide) hk1 hFc hP1 hD1
              have hP : va_P (dC, dI) vwCl [(h0, .inr (9, mX9 h1 h2 v0)), (h2, zi k2 12 f2)] H1 := hP.sub [0, 1] rfl
              have hD : va_D A [(h0, .inr (9, mX9 h1 h2 v0)), (h2, zi k2 12 f2)] := hD.sub [0, 1] (by decide) rfl
              generalize H1 = H at hP hS ⊢
              clear hz1
              refine lv_if_ne (tgt := 166) hx hb dX9_shorten_153 (by decide) (fun c_ => ?_) (fun c_ => ?_)
              · skip
                have b_ := zT_ne rfl zk_0 c_
                have hes : zes (fun k => (f2 k).toInt) (v0 3).toInt.toNat = false := by first | exact zes_f (Or.inl (by omega)) | exact zes_f (Or.inr (Or.inl (hX123_1 (by omega)))) | exact zes_f (Or.inr (Or.inr (Or.inl (hX132_0 (by omega))))) | exact zes_f (Or.inr (Or.inr (Or.inr (Or.inl (hX141_0 (by omega)))))) | exact zes_f (Or.inr (Or.inr (Or.inr (Or.inr (hX150_0 (by omega))))))
                refine W.widen (k := 0) (n := 0) (by decide) (by decide) ?_
                have hpost : (0 ≤ (v0 3).toInt ∧ (v0 3).toInt ≤ 12) ∧ ((v0 3).toInt = (zshm (fun k => (f2 k).toInt) ((v0 3).toInt).toNat : Int)) := ⟨(by first | with_reducible assumption | exact ⟨by omega, by omega⟩), by first | exact zsm1 hhd (by omega) (by omega) | exact zsm2 hhd hie (by omega) (by omega) | exact zsm3 hhd hie hin (by omega) (by omega) | exact zsm4 hhd hie hin hed (by omega) (by omega) | exact zsm5 hhd hie hin hed hes (by omega) (by omega) | exact zsm6 hhd hie hin hed hes (by omega) (by omega)⟩
                have hP9 : va_P (dC, dI) vwCl [(h0, .inr (9, mX9 h1 h2 (upd v0 3 (v0 3)))), (h2, zi k2 12 f2)] H := hP
                have hD9 : va_D A [(h0, .inr (9, mX9 h1 h2 (upd v0 3 (v0 3)))), (h2, zi k2 12 f2)] := hD
                have hB0 : ∀ k : Nat, (f2 k).toInt = zshl (fun k => (f2 k).toInt) ((v0 3).toInt).toNat k := by first | exact zsl1 hhd | exact zsl3 hie | (rw [e_f_47]; exact zsl2 hhd hie (by omega) (by omega))
                exact W.vret hx hb hr (fun t ht hW => ⟨⟨(fun i => ([(v0 3)] : List (Int32)).getD i 0), rfl, hpost, (fun _ => 0), (fun i => ([f2] : List (Nat → Int32)).getD i (fun _ => 0)), (fun _ => (fun _ => 0)), hB0, by rw [ht]; exact hP9, va_K.moved hW.alike hK, hD9⟩, hS.F ht⟩) hS.2.2 dX9_shorten_166
              · skip
                have b_ := zF_ne rfl zk_0 c_
                have hes : zes (fun k => (f2 k).toInt) (v0 3).toInt.toNat = true := by first | exact zes_t (by omega) (hX123_0 (by omega)) (hX132_1 (by omega)) (hX141_1 (by omega)) (hX150_1 (by omega))
                refine lv_aload_n hx hb dX9_shorten_156 rfl (lv_at hl 0 rfl) ?_
                refine lv_dup hx hb dX9_shorten_157 rfl ?_
                refine va_get (D := (dC, dI)) (ci := 9) (v := .int (v0 3)) (C := RX9) (T := TX9) (N := 4) hx hb hG zuX9 hown hK hP 0 rfl rfl 3 (by decide) (hG _ zv172) (fun _ h9 => h9) rfl dX9_shorten_158 ?_
                refine lv_iconst (v := 1) hx hb dX9_shorten_161 (by decide) ?_
                refine lv_isub hx hb dX9_shorten_162 ?_
                refine lv_topi (fun z162 e_z162 => ?_)
                have b_ := zsub rfl zk_1 e_z162 (by omega) (by omega)
                refine va_put (D := (dC, dI)) (ci := 9) (v := .int z162) (ty := .int) (C := RX9) (T := TX9) (N := 4) hx hb hG zuX9 tyX9 tyX9_ok nmX9 hown hK hP hD hS 0 rfl rfl 3 (by decide) (hG _ zv172) (fun _ h9 => h9) rfl (by decide +kernel) rfl rfl (Nat.le_of_ble_eq_true rfl) dX9_shorten_163 (fun H locs hP hD hS => ?_)
                have hP : va_P (dC, dI) vwCl [(h0, .inr (9, mX9 h1 h2 (upd v0 3 z162))), (h2, zi k2 12 f2)] H := hP
                have hD : va_D A [(h0, .inr (9, mX9 h1 h2 (upd v0 3 z162))), (h2, zi k2 12 f2)] := hD
                refine W.widen (k := 0) (n := 0) (by decide) (by decide) ?_
                have hpost : (0 ≤ z162.toInt ∧ z162.toInt ≤ 12) ∧ (z162.toInt = (zshm (fun k => (f2 k).toInt) ((v0 3).toInt).toNat : Int)) := ⟨(by first | with_reducible assumption | exact ⟨by omega, by omega⟩), by first | exact zsm1 hhd (by omega) (by omega) | exact zsm2 hhd hie (by omega) (by omega) | exact zsm3 hhd hie hin (by omega) (by omega) | exact zsm4 hhd hie hin hed (by omega) (by omega) | exact zsm5 hhd hie hin hed hes (by omega) (by omega) | exact zsm6 hhd hie hin hed hes (by omega) (by omega)⟩
                have hP9 : va_P (dC, dI) vwCl [(h0, .inr (9, mX9 h1 h2 (upd v0 3 z162))), (h2, zi k2 12 f2)] H := hP
                have hD9 : va_D A [(h0, .inr (9, mX9 h1 h2 (upd v0 3 z162))), (h2, zi k2 12 f2)] := hD
                have hB0 : ∀ k : Nat, (f2 k).toInt = zshl (fun k => (f2 k).toInt) ((v0 3).toInt).toNat k := by first | exact zsl1 hhd | exact zsl3 hie | (rw [e_f_47]; exact zsl2 hhd hie (by omega) (by omega))
                exact W.vret hx hb hr (fun t ht hW => ⟨⟨(fun i => ([z162] : List (Int32)).getD i 0), rfl, hpost, (fun _ => 0), (fun i => ([f2] : List (Nat → Int32)).getD i (fun _ => 0)), (fun _ => (fun _ => 0)), hB0, by rw [ht]; exact hP9, va_K.moved hW.alike hK, hD9⟩, hS.F ht⟩) hS.2.2 dX9_shorten_166
    · skip
      have b_ := zF_lt rfl zk_5 c_
      refine lv_aload_n hx hb dX9_shorten_16 rfl (lv_at hl 0 rfl) ?_
      refine va_ldcS hx hb hown (zE_K0 hE) dX9_shorten_17 ?_
      have hPc := hP.sub (ws' := [(h0, .inr (9, mX9 h1 h2 v0)), (h2, zi k2 12 f2)]) [0, 1] rfl
      have hDc := hD.sub (ws' := [(h0, .inr (9, mX9 h1 h2 v0)), (h2, zi k2 12 f2)]) [0, 1] (by decide) rfl
      have hKc := hK.sub (tys' := [(k2, .byte)]) [0] rfl
      have hFc := va_free (wc := [(h0, .inr (9, mX9 h1 h2 v0)), (h2, zi k2 12 f2)]) hD hS hA [0, 1] rfl
      refine va_calli (va_runV (As := [.ref (adK 0)]) (rest := []) ⟨hx, hb, hml, hown, hG⟩ (sX9_endsBy_4 l dC dI adK adV h0 h2 h1 k2 H.size v0 f2 hv0) (cwV 1 hG (zgV zv673 zv675 zv4 zv130 zv676) rfl rfl rfl (by decide +kernel) ⟨Nat.le_of_ble_eq_true rfl, Nat.le_of_ble_eq_true rfl⟩) ⟨zPc_blind, va_recv hKc hPc (ci := 9) (q0 := 0) rfl rfl, zPc_pre hPc hKc hDc hE hS hFc hZ⟩ rfl rfl hl.1 rfl (lv_room (Nat.le_of_ble_eq_true rfl)) dX9_shorten_19 ⟨Nat.le_of_ble_eq_true rfl, Nat.le_of_ble_eq_true rfl⟩) hS (fun q _ h => hFc q h) hFc (fun r19_ u19_ t H1 locs ht hvm hw hB hz1 hk1 hS => ?_)
      replace hw : (0 ≤ r19_.toInt ∧ r19_.toInt ≤ 1) ∧ (r19_.toInt = 1 → (3 ≤ (v0 3).toInt ∧ zEb f2 ((v0 3).toInt - 3) 3 0)) ∧ (r19_.toInt = 0 → ¬ (3 ≤ (v0 3).toInt ∧ zEb f2 ((v0 3).toInt - 3) 3 0)) := hw
      obtain ⟨b_, hX19_0, hX19_1⟩ := hw
      obtain ⟨w19_, a19_, b19_, hP1, hK1, hD1⟩ := hB
      rw [ht] at hP1
      obtain ⟨hP, hD⟩ := va_join (wr := []) (w1 := [(h0, .inr (9, mX9 h1 h2 v0)), (h2, zi k2 12 f2)]) hP hD [0, 1] [] rfl rfl (by decide) (by decide) hk1 hFc hP1 hD1
      have hP : va_P (dC, dI) vwCl [(h0, .inr (9, mX9 h1 h2 v0)), (h2, zi k2 12 f2)] H1 := hP.sub [0, 1] rfl
      have hD : va_D A [(h0, .inr (9, mX9 h1 h2 v0)), (h2, zi k2 12 f2)] := hD.sub [0, 1] (by decide) rfl
      generalize H1 = H at hP hS ⊢
      clear hz1
      refine lv_if_eq (tgt := 51) hx hb dX9_shorten_22 (by decide) (fun c_ => ?_) (fun c_ => ?_)
      · skip
        have b_ := zT_eq rfl zk_0 c_
        have hie : zies (fun k => (f2 k).toInt) (v0 3).toInt.toNat = false := by first | exact zies_f (Or.inl (by omega)) | exact zies_f (Or.inr (hX19_1 (by omega)))
        refine lv_aload_n hx hb dX9_shorten_51 rfl (lv_at hl 0 rfl) ?_
        refine va_get (D := (dC, dI)) (ci := 9) (v := .int (v0 3)) (C := RX9) (T := TX9) (N := 4) hx hb hG zuX9 hown hK hP 0 rfl rfl 3 (by decide) (hG _ zv172) (fun _ h9 => h9) rfl dX9_shorten_52 ?_
        refine lv_bipush (v := 6) hx hb dX9_shorten_55 (by decide) ?_
        refine lv_icmp_lt (tgt := 82) hx hb dX9_shorten_57 (by decide) (fun c_ => ?_) (fun c_ => ?_)
        · skip
          have b_ := zT_lt rfl zk_6 c_
          have hin : zing (fun k => (f2 k).toInt) (v0 3).toInt.toNat = false := by first | exact zing_f (Or.inl (by omega)) | exact zing_f (Or.inr (hX63_1 (by omega)))
          refine lv_aload_n hx hb dX9_shorten_82 rfl (lv_at hl 0 rfl) ?_
          refine va_get (D := (dC, dI)) (ci := 9) (v := .int (v0 3)) (C := RX9) (T := TX9) (N := 4) hx hb hG zuX9 hown hK hP 0 rfl rfl 3 (by decide) (hG _ zv172) (fun _ h9 => h9) rfl dX9_shorten_83 ?_
          refine lv_iconst (v := 5) hx hb dX9_shorten_86 (by decide) ?_
          refine lv_icmp_lt (tgt := 112) hx hb dX9_shorten_87 (by decide) (fun c_ => False.elim (by have b_ := zT_lt rfl zk_5 c_; omega)) (fun c_ => ?_)
          have b_ := zF_lt rfl zk_5 c_
          refine lv_aload_n hx hb dX9_shorten_90 rfl (lv_at hl 0 rfl) ?_
          refine va_ldcS hx hb hown (zE_K2 hE) dX9_shorten_91 ?_
          have hPc := hP.sub (ws' := [(h0, .inr (9, mX9 h1 h2 v0)), (h2, zi k2 12 f2)]) [0, 1] rfl
          have hDc := hD.sub (ws' := [(h0, .inr (9, mX9 h1 h2 v0)), (h2, zi k2 12 f2)]) [0, 1] (by decide) rfl
          have hKc := hK.sub (tys' := [(k2, .byte)]) [0] rfl
          have hFc := va_free (wc := [(h0, .inr (9, mX9 h1 h2 v0)), (h2, zi k2 12 f2)]) hD hS hA [0, 1] rfl
          refine va_calli (va_runV (As := [.ref (adK 2)]) (rest := []) ⟨hx, hb, hml, hown, hG⟩ (sX9_endsBy_5 l dC dI adK adV h0 h2 h1 k2 H.size v0 f2 hv0) (cwV 1 hG (zgV zv673 zv675 zv4 zv130 zv676) rfl rfl rfl (by decide +kernel) ⟨Nat.le_of_ble_eq_true rfl, Nat.le_of_ble_eq_true rfl⟩) ⟨zPc_blind, va_recv hKc hPc (ci := 9) (q0 := 0) rfl rfl, zPc_pre hPc hKc hDc hE hS hFc hZ⟩ rfl rfl hl.1 rfl (lv_room (Nat.le_of_ble_eq_true rfl)) dX9_shorten_93 ⟨Nat.le_of_ble_eq_true rfl, Nat.le_of_ble_eq_true rfl⟩) hS (fun q _ h => hFc q h) hFc (fun r93_ u93_ t H1 locs ht hvm hw hB hz1 hk1 hS => ?_)
          replace hw : (0 ≤ r93_.toInt ∧ r93_.toInt ≤ 1) ∧ (r93_.toInt = 1 → (2 ≤ (v0 3).toInt ∧ zEb f2 ((v0 3).toInt - 2) 2 2)) ∧ (r93_.toInt = 0 → ¬ (2 ≤ (v0 3).toInt ∧ zEb f2 ((v0 3).toInt - 2) 2 2)) := hw
          obtain ⟨b_, hX93_0, hX93_1⟩ := hw
          obtain ⟨w93_, a93_, b93_, hP1, hK1, hD1⟩ := hB
          rw [ht] at hP1
          obtain ⟨hP, hD⟩ := va_join (wr := []) (w1 := [(h0, .inr (9, mX9 h1 h2 v0)), (h2, zi k2 12 f2)]) hP hD [0, 1] [] rfl rfl (by decide) (by decide) hk1 hFc hP1 hD1
          have hP : va_P (dC, dI) vwCl [(h0, .inr (9, mX9 h1 h2 v0)), (h2, zi k2 12 f2)] H1 := hP.sub [0, 1] rfl
          have hD : va_D A [(h0, .inr (9, mX9 h1 h2 v0)), (h2, zi k2 12 f2)] := hD.sub [0, 1] (by decide) rfl
          generalize H1 = H at hP hS ⊢
          clear hz1
          refine lv_if_eq (tgt := 112) hx hb dX9_shorten_96 (by decide) (fun c_ => ?_) (fun c_ => ?_)
          · skip
            have b_ := zT_eq rfl zk_0 c_
            have hed : zed (fun k => (f2 k).toInt) (v0 3).toInt.toNat = false := by first | exact zed_f (Or.inl (by omega)) | exact zed_f (Or.inr (hX93_1 (by omega)))
            refine lv_aload_n hx hb dX9_shorten_112 rfl (lv_at hl 0 rfl) ?_
            refine va_get (D := (dC, dI)) (ci := 9) (v := .int (v0 3)) (C := RX9) (T := TX9) (N := 4) hx hb hG zuX9 hown hK hP 0 rfl rfl 3 (by decide) (hG _ zv172) (fun _ h9 => h9) rfl dX9_shorten_113 ?_
            refine lv_iconst (v := 4) hx hb dX9_shorten_116 (by decide) ?_
            refine lv_icmp_lt (tgt := 166) hx hb dX9_shorten_117 (by decide) (fun c_ => False.elim (by have b_ := zT_lt rfl zk_4 c_; omega)) (fun c_ => ?_)
            have b_ := zF_lt rfl zk_4 c_
            refine lv_aload_n hx hb dX9_shorten_120 rfl (lv_at hl 0 rfl) ?_
            refine va_ldcS hx hb hown (zE_K3 hE) dX9_shorten_121 ?_
            have hPc := hP.sub (ws' := [(h0, .inr (9, mX9 h1 h2 v0)), (h2, zi k2 12 f2)]) [0, 1] rfl
            have hDc := hD.sub (ws' := [(h0, .inr (9, mX9 h1 h2 v0)), (h2, zi k2 12 f2)]) [0, 1] (by decide) rfl
            have hKc := hK.sub (tys' := [(k2, .byte)]) [0] rfl
            have hFc := va_free (wc := [(h0, .inr (9, mX9 h1 h2 v0)), (h2, zi k2 12 f2)]) hD hS hA [0, 1] rfl
            refine va_calli (va_runV (As := [.ref (adK 3)]) (rest := []) ⟨hx, hb, hml, hown, hG⟩ (sX9_endsBy_0 l dC dI adK adV h0 h2 h1 k2 H.size v0 f2 hv0) (cwV 1 hG (zgV zv673 zv675 zv4 zv130 zv676) rfl rfl rfl (by decide +kernel) ⟨Nat.le_of_ble_eq_true rfl, Nat.le_of_ble_eq_true rfl⟩) ⟨zPc_blind, va_recv hKc hPc (ci := 9) (q0 := 0) rfl rfl, zPc_pre hPc hKc hDc hE hS hFc hZ⟩ rfl rfl hl.1 rfl (lv_room (Nat.le_of_ble_eq_true rfl)) dX9_shorten_123 ⟨Nat.le_of_ble_eq_true rfl, Nat.le_of_ble_eq_true rfl⟩) hS (fun q _ h => hFc q h) hFc (fun r123_ u123_ t H1 locs ht hvm hw hB hz1 hk1 hS => ?_)
            replace hw : (0 ≤ r123_.toInt ∧ r123_.toInt ≤ 1) ∧ (r123_.toInt = 1 → (1 ≤ (v0 3).toInt ∧ zEb f2 ((v0 3).toInt - 1) 1 3)) ∧ (r123_.toInt = 0 → ¬ (1 ≤ (v0 3).toInt ∧ zEb f2 ((v0 3).toInt - 1) 1 3)) := hw
            obtain ⟨b_, hX123_0, hX123_1⟩ := hw
            obtain ⟨w123_, a123_, b123_, hP1, hK1, hD1⟩ := hB
            rw [ht] at hP1
            obtain ⟨hP, hD⟩ := va_join (wr := []) (w1 := [(h0, .inr (9, mX9 h1 h2 v0)), (h2, zi k2 12 f2)]) hP hD [0, 1] [] rfl rfl (by decide) (by decide) hk1 hFc hP1 hD1
            have hP : va_P (dC, dI) vwCl [(h0, .inr (9, mX9 h1 h2 v0)), (h2, zi k2 12 f2)] H1 := hP.sub [0, 1] rfl
            have hD : va_D A [(h0, .inr (9, mX9 h1 h2 v0)), (h2, zi k2 12 f2)] := hD.sub [0, 1] (by decide) rfl
            generalize H1 = H at hP hS ⊢
            clear hz1
            refine lv_if_eq (tgt := 166) hx hb dX9_shorten_126 (by decide) (fun c_ => ?_) (fun c_ => ?_)
            · skip
              have b_ := zT_eq rfl zk_0 c_
              have hes : zes (fun k => (f2 k).toInt) (v0 3).toInt.toNat = false := by first | exact zes_f (Or.inl (by omega)) | exact zes_f (Or.inr (Or.inl (hX123_1 (by omega)))) | exact zes_f (Or.inr (Or.inr (Or.inl (hX132_0 (by omega))))) | exact zes_f (Or.inr (Or.inr (Or.inr (Or.inl (hX141_0 (by omega)))))) | exact zes_f (Or.inr (Or.inr (Or.inr (Or.inr (hX150_0 (by omega))))))
              refine W.widen (k := 0) (n := 0) (by decide) (by decide) ?_
              have hpost : (0 ≤ (v0 3).toInt ∧ (v0 3).toInt ≤ 12) ∧ ((v0 3).toInt = (zshm (fun k => (f2 k).toInt) ((v0 3).toInt).toNat : Int)) := ⟨(by first | with_reducible assumption | exact ⟨by omega, by omega⟩), by first | exact zsm1 hhd (by omega) (by omega) | exact zsm2 hhd hie (by omega) (by omega) | exact zsm3 hhd hie hin (by omega) (by omega) | exact zsm4 hhd hie hin hed (by omega) (by omega) | exact zsm5 hhd hie hin hed hes (by omega) (by omega) | exact zsm6 hhd hie hin hed hes (by omega) (by omega)⟩
              have hP9 : va_P (dC, dI) vwCl [(h0, .inr (9, mX9 h1 h2 (upd v0 3 (v0 3)))), (h2, zi k2 12 f2)] H := hP
              have hD9 : va_D A [(h0, .inr (9, mX9 h1 h2 (upd v0 3 (v0 3)))), (h2, zi k2 12 f2)] := hD
              have hB0 : ∀ k : Nat, (f2 k).toInt = zshl (fun k => (f2 k).toInt) ((v0 3).toInt).toNat k := by first | exact zsl1 hhd | exact zsl3 hie | (rw [e_f_47]; exact zsl2 hhd hie (by omega) (by omega))
              exact W.vret hx hb hr (fun t ht hW => ⟨⟨(fun i => ([(v0 3)] : List (Int32)).getD i 0), rfl, hpost, (fun _ => 0), (fun i => ([f2] : List (Nat → Int32)).getD i (fun _ => 0)), (fun _ => (fun _ => 0)), hB0, by rw [ht]; exact hP9, va_K.moved hW.alike hK, hD9⟩, hS.F ht⟩) hS.2.2 dX9_shorten_166
            · skip
              have b_ := zF_eq rfl zk_0 c_
              refine lv_aload_n hx hb dX9_shorten_129 rfl (lv_at hl 0 rfl) ?_
              refine va_ldcS hx hb hown (zE_K4 hE) dX9_shorten_130 ?_
              have hPc := hP.sub (ws' := [(h0, .inr (9, mX9 h1 h2 v0)), (h2, zi k2 12 f2)]) [0, 1] rfl
              have hDc := hD.sub (ws' := [(h0, .inr (9, mX9 h1 h2 v0)), (h2, zi k2 12 f2)]) [0, 1] (by decide) rfl
              have hKc := hK.sub (tys' := [(k2, .byte)]) [0] rfl
              have hFc := va_free (wc := [(h0, .inr (9, mX9 h1 h2 v0)), (h2, zi k2 12 f2)]) hD hS hA [0, 1] rfl
              refine va_calli (va_runV (As := [.ref (adK 4)]) (rest := []) ⟨hx, hb, hml, hown, hG⟩ (sX9_endsBy_1 l dC dI adK adV h0 h2 h1 k2 H.size v0 f2 hv0) (cwV 1 hG (zgV zv673 zv675 zv4 zv130 zv676) rfl rfl rfl (by decide +kernel) ⟨Nat.le_of_ble_eq_true rfl, Nat.le_of_ble_eq_true rfl⟩) ⟨zPc_blind, va_recv hKc hPc (ci := 9) (q0 := 0) rfl rfl, zPc_pre hPc hKc hDc hE hS hFc hZ⟩ rfl rfl hl.1 rfl (lv_room (Nat.le_of_ble_eq_true rfl)) dX9_shorten_132 ⟨Nat.le_of_ble_eq_true rfl, Nat.le_of_ble_eq_true rfl⟩) hS (fun q _ h => hFc q h) hFc (fun r132_ u132_ t H1 locs ht hvm hw hB hz1 hk1 hS => ?_)
              replace hw : (0 ≤ r132_.toInt ∧ r132_.toInt ≤ 1) ∧ (r132_.toInt = 1 → (2 ≤ (v0 3).toInt ∧ zEb f2 ((v0 3).toInt - 2) 2 4)) ∧ (r132_.toInt = 0 → ¬ (2 ≤ (v0 3).toInt ∧ zEb f2 ((v0 3).toInt - 2) 2 4)) := hw
              obtain ⟨b_, hX132_0, hX132_1⟩ := hw
              obtain ⟨w132_, a132_, b132_, hP1, hK1, hD1⟩ := hB
              rw [ht] at hP1
              obtain ⟨hP, hD⟩ := va_join (wr := []) (w1 := [(h0, .inr (9, mX9 h1 h2 v0)), (h2, zi k2 12 f2)]) hP hD [0, 1] [] rfl rfl (by decide) (by decide) hk1 hFc hP1 hD1
              have hP : va_P (dC, dI) vwCl [(h0, .inr (9, mX9 h1 h2 v0)), (h2, zi k2 12 f2)] H1 := hP.sub [0, 1] rfl
              have hD : va_D A [(h0, .inr (9, mX9 h1 h2 v0)), (h2, zi k2 12 f2)] := hD.sub [0, 1] (by decide) rfl
              generalize H1 = H at hP hS ⊢
              clear hz1
              refine lv_if_ne (tgt := 166) hx hb dX9_shorten_135 (by decide) (fun c_ => ?_) (fun c_ => ?_)
              · skip
                have b_ := zT_ne rfl zk_0 c_
                have hes : zes (fun k => (f2 k).toInt) (v0 3).toInt.toNat = false := by first | exact zes_f (Or.inl (by omega)) | exact zes_f (Or.inr (Or.inl (hX123_1 (by omega)))) | exact zes_f (Or.inr (Or.inr (Or.inl (hX132_0 (by omega))))) | exact zes_f (Or.inr (Or.inr (Or.inr (Or.inl (hX141_0 (by omega)))))) | exact zes_f (Or.inr (Or.inr (Or.inr (Or.inr (hX150_0 (by omega))))))
                refine W.widen (k := 0) (n := 0) (by decide) (by decide) ?_
                have hpost : (0 ≤ (v0 3).toInt ∧ (v0 3).toInt ≤ 12) ∧ ((v0 3).toInt = (zshm (fun k => (f2 k).toInt) ((v0 3).toInt).toNat : Int)) := ⟨(by first | with_reducible assumption | exact ⟨by omega, by omega⟩), by first | exact zsm1 hhd (by omega) (by omega) | exact zsm2 hhd hie (by omega) (by omega) | exact zsm3 hhd hie hin (by omega) (by omega) | exact zsm4 hhd hie hin hed (by omega) (by omega) | exact zsm5 hhd hie hin hed hes (by omega) (by omega) | exact zsm6 hhd hie hin hed hes (by omega) (by omega)⟩
                have hP9 : va_P (dC, dI) vwCl [(h0, .inr (9, mX9 h1 h2 (upd v0 3 (v0 3)))), (h2, zi k2 12 f2)] H := hP
                have hD9 : va_D A [(h0, .inr (9, mX9 h1 h2 (upd v0 3 (v0 3)))), (h2, zi k2 12 f2)] := hD
                have hB0 : ∀ k : Nat, (f2 k).toInt = zshl (fun k => (f2 k).toInt) ((v0 3).toInt).toNat k := by first | exact zsl1 hhd | exact zsl3 hie | (rw [e_f_47]; exact zsl2 hhd hie (by omega) (by omega))
                exact W.vret hx hb hr (fun t ht hW => ⟨⟨(fun i => ([(v0 3)] : List (Int32)).getD i 0), rfl, hpost, (fun _ => 0), (fun i => ([f2] : List (Nat → Int32)).getD i (fun _ => 0)), (fun _ => (fun _ => 0)), hB0, by rw [ht]; exact hP9, va_K.moved hW.alike hK, hD9⟩, hS.F ht⟩) hS.2.2 dX9_shorten_166
              · skip
                have b_ := zF_ne rfl zk_0 c_
                refine lv_aload_n hx hb dX9_shorten_138 rfl (lv_at hl 0 rfl) ?_
                refine va_ldcS hx hb hown (zE_K5 hE) dX9_shorten_139 ?_
                have hPc := hP.sub (ws' := [(h0, .inr (9, mX9 h1 h2 v0)), (h2, zi k2 12 f2)]) [0, 1] rfl
                have hDc := hD.sub (ws' := [(h0, .inr (9, mX9 h1 h2 v0)), (h2, zi k2 12 f2)]) [0, 1] (by decide) rfl
                have hKc := hK.sub (tys' := [(k2, .byte)]) [0] rfl
                have hFc := va_free (wc := [(h0, .inr (9, mX9 h1 h2 v0)), (h2, zi k2 12 f2)]) hD hS hA [0, 1] rfl
                refine va_calli (va_runV (As := [.ref (adK 5)]) (rest := []) ⟨hx, hb, hml, hown, hG⟩ (sX9_endsBy_2 l dC dI adK adV h0 h2 h1 k2 H.size v0 f2 hv0) (cwV 1 hG (zgV zv673 zv675 zv4 zv130 zv676) rfl rfl rfl (by decide +kernel) ⟨Nat.le_of_ble_eq_true rfl, Nat.le_of_ble_eq_true rfl⟩) ⟨zPc_blind, va_recv hKc hPc (ci := 9) (q0 := 0) rfl rfl, zPc_pre hPc hKc hDc hE hS hFc hZ⟩ rfl rfl hl.1 rfl (lv_room (Nat.le_of_ble_eq_true rfl)) dX9_shorten_141 ⟨Nat.le_of_ble_eq_true rfl, Nat.le_of_ble_eq_true rfl⟩) hS (fun q _ h => hFc q h) hFc (fun r141_ u141_ t H1 locs ht hvm hw hB hz1 hk1 hS => ?_)
                replace hw : (0 ≤ r141_.toInt ∧ r141_.toInt ≤ 1) ∧ (r141_.toInt = 1 → (2 ≤ (v0 3).toInt ∧ zEb f2 ((v0 3).toInt - 2) 2 5)) ∧ (r141_.toInt = 0 → ¬ (2 ≤ (v0 3).toInt ∧ zEb f2 ((v0 3).toInt - 2) 2 5)) := hw
                obtain ⟨b_, hX141_0, hX141_1⟩ := hw
                obtain ⟨w141_, a141_, b141_, hP1, hK1, hD1⟩ := hB
                rw [ht] at hP1
                obtain ⟨hP, hD⟩ := va_join (wr := []) (w1 := [(h0, .inr (9, mX9 h1 h2 v0)), (h2, zi k2 12 f2)]) hP hD [0, 1] [] rfl rfl (by decide) (by decide) hk1 hFc hP1 hD1
                have hP : va_P (dC, dI) vwCl [(h0, .inr (9, mX9 h1 h2 v0)), (h2, zi k2 12 f2)] H1 := hP.sub [0, 1] rfl
                have hD : va_D A [(h0, .inr (9, mX9 h1 h2 v0)), (h2, zi k2 12 f2)] := hD.sub [0, 1] (by decide) rfl
                generalize H1 = H at hP hS ⊢
                clear hz1
                refine lv_if_ne (tgt := 166) hx hb dX9_shorten_144 (by decide) (fun c_ => ?_) (fun c_ => ?_)
                · skip
                  have b_ := zT_ne rfl zk_0 c_
                  have hes : zes (fun k => (f2 k).toInt) (v0 3).toInt.toNat = false := by first | exact zes_f (Or.inl (by omega)) | exact zes_f (Or.inr (Or.inl (hX123_1 (by omega)))) | exact zes_f (Or.inr (Or.inr (Or.inl (hX132_0 (by omega))))) | exact zes_f (Or.inr (Or.inr (Or.inr (Or.inl (hX141_0 (by omega)))))) | exact zes_f (Or.inr (Or.inr (Or.inr (Or.inr (hX150_0 (by omega))))))
                  refine W.widen (k := 0) (n := 0) (by decide) (by decide) ?_
                  have hpost : (0 ≤ (v0 3).toInt ∧ (v0 3).toInt ≤ 12) ∧ ((v0 3).toInt = (zshm (fun k => (f2 k).toInt) ((v0 3).toInt).toNat : Int)) := ⟨(by first | with_reducible assumption | exact ⟨by omega, by omega⟩), by first | exact zsm1 hhd (by omega) (by omega) | exact zsm2 hhd hie (by omega) (by omega) | exact zsm3 hhd hie hin (by omega) (by omega) | exact zsm4 hhd hie hin hed (by omega) (by omega) | exact zsm5 hhd hie hin hed hes (by omega) (by omega) | exact zsm6 hhd hie hin hed hes (by omega) (by omega)⟩
                  have hP9 : va_P (dC, dI) vwCl [(h0, .inr (9, mX9 h1 h2 (upd v0 3 (v0 3)))), (h2, zi k2 12 f2)] H := hP
                  have hD9 : va_D A [(h0, .inr (9, mX9 h1 h2 (upd v0 3 (v0 3)))), (h2, zi k2 12 f2)] := hD
                  have hB0 : ∀ k : Nat, (f2 k).toInt = zshl (fun k => (f2 k).toInt) ((v0 3).toInt).toNat k := by first | exact zsl1 hhd | exact zsl3 hie | (rw [e_f_47]; exact zsl2 hhd hie (by omega) (by omega))
                  exact W.vret hx hb hr (fun t ht hW => ⟨⟨(fun i => ([(v0 3)] : List (Int32)).getD i 0), rfl, hpost, (fun _ => 0), (fun i => ([f2] : List (Nat → Int32)).getD i (fun _ => 0)), (fun _ => (fun _ => 0)), hB0, by rw [ht]; exact hP9, va_K.moved hW.alike hK, hD9⟩, hS.F ht⟩) hS.2.2 dX9_shorten_166
                · skip
                  have b_ := zF_ne rfl zk_0 c_
                  refine lv_aload_n hx hb dX9_shorten_147 rfl (lv_at hl 0 rfl) ?_
                  refine va_ldcS hx hb hown (zE_K6 hE) dX9_shorten_148 ?_
                  have hPc := hP.sub (ws' := [(h0, .inr (9, mX9 h1 h2 v0)), (h2, zi k2 12 f2)]) [0, 1] rfl
                  have hDc := hD.sub (ws' := [(h0, .inr (9, mX9 h1 h2 v0)), (h2, zi k2 12 f2)]) [0, 1] (by decide) rfl
                  have hKc := hK.sub (tys' := [(k2, .byte)]) [0] rfl
                  have hFc := va_free (wc := [(h0, .inr (9, mX9 h1 h2 v0)), (h2, zi k2 12 f2)]) hD hS hA [0, 1] rfl
                  refine va_calli (va_runV (As := [.ref (adK 6)]) (rest := []) ⟨hx, hb, hml, hown, hG⟩ (sX9_endsBy_3 l dC dI adK adV h0 h2 h1 k2 H.size v0 f2 hv0) (cwV 1 hG (zgV zv673 zv675 zv4 zv130 zv676) rfl rfl rfl (by decide +kernel) ⟨Nat.le_of_ble_eq_true rfl, Nat.le_of_ble_eq_true rfl⟩) ⟨zPc_blind, va_recv hKc hPc (ci := 9) (q0 := 0) rfl rfl, zPc_pre hPc hKc hDc hE hS hFc hZ⟩ rfl rfl hl.1 rfl (lv_room (Nat.le_of_ble_eq_true rfl)) dX9_shorten_150 ⟨Nat.le_of_ble_eq_true rfl, Nat.le_of_ble_eq_true rfl⟩) hS (fun q _ h => hFc q h) hFc (fun r150_ u150_ t H1 locs ht hvm hw hB hz1 hk1 hS => ?_)
                  replace hw : (0 ≤ r150_.toInt ∧ r150_.toInt ≤ 1) ∧ (r150_.toInt = 1 → (2 ≤ (v0 3).toInt ∧ zEb f2 ((v0 3).toInt - 2) 2 6)) ∧ (r150_.toInt = 0 → ¬ (2 ≤ (v0 3).toInt ∧ zEb f2 ((v0 3).toInt - 2) 2 6)) := hw
                  obtain ⟨b_, hX150_0, hX150_1⟩ := hw
                  obtain ⟨w150_, a150_, b150_, hP1, hK1, hD1⟩ := hB
                  rw [ht] at hP1
                  obtain ⟨hP, hD⟩ := va_join (wr := []) (w1 := [(h0, .inr (9, mX9 h1 h2 v0)), (h2, zi k2 12 f2)]) hP hD [0, 1] [] rfl rfl (by decide) (by decide) hk1 hFc hP1 hD1
                  have hP : va_P (dC, dI) vwCl [(h0, .inr (9, mX9 h1 h2 v0)), (h2, zi k2 12 f2)] H1 := hP.sub [0, 1] rfl
                  have hD : va_D A [(h0, .inr (9, mX9 h1 h2 v0)), (h2, zi k2 12 f2)] := hD.sub [0, 1] (by decide) rfl
                  generalize H1 = H at hP hS ⊢
                  clear hz1
                  refine lv_if_ne (tgt := 166) hx hb dX9_shorten_153 (by decide) (fun c_ => ?_) (fun c_ => ?_)
                  · skip
                    have b_ := zT_ne rfl zk_0 c_
                    have hes : zes (fun k => (f2 k).toInt) (v0 3).toInt.toNat = false := by first | exact zes_f (Or.inl (by omega)) | exact zes_f (Or.inr (Or.inl (hX123_1 (by omega)))) | exact zes_f (Or.inr (Or.inr (Or.inl (hX132_0 (by omega))))) | exact zes_f (Or.inr (Or.inr (Or.inr (Or.inl (hX141_0 (by omega)))))) | exact zes_f (Or.inr (Or.inr (Or.inr (Or.inr (hX150_0 (by omega))))))
                    refine W.widen (k := 0) (n := 0) (by decide) (by decide) ?_
                    have hpost : (0 ≤ (v0 3).toInt ∧ (v0 3).toInt ≤ 12) ∧ ((v0 3).toInt = (zshm (fun k => (f2 k).toInt) ((v0 3).toInt).toNat : Int)) := ⟨(by first | with_reducible assumption | exact ⟨by omega, by omega⟩), by first | exact zsm1 hhd (by omega) (by omega) | exact zsm2 hhd hie (by omega) (by omega) | exact zsm3 hhd hie hin (by omega) (by omega) | exact zsm4 hhd hie hin hed (by omega) (by omega) | exact zsm5 hhd hie hin hed hes (by omega) (by omega) | exact zsm6 hhd hie hin hed hes (by omega) (by omega)⟩
                    have hP9 : va_P (dC, dI) vwCl [(h0, .inr (9, mX9 h1 h2 (upd v0 3 (v0 3)))), (h2, zi k2 12 f2)] H := hP
                    have hD9 : va_D A [(h0, .inr (9, mX9 h1 h2 (upd v0 3 (v0 3)))), (h2, zi k2 12 f2)] := hD
                    have hB0 : ∀ k : Nat, (f2 k).toInt = zshl (fun k => (f2 k).toInt) ((v0 3).toInt).toNat k := by first | exact zsl1 hhd | exact zsl3 hie | (rw [e_f_47]; exact zsl2 hhd hie (by omega) (by omega))
                    exact W.vret hx hb hr (fun t ht hW => ⟨⟨(fun i => ([(v0 3)] : List (Int32)).getD i 0), rfl, hpost, (fun _ => 0), (fun i => ([f2] : List (Nat → Int32)).getD i (fun _ => 0)), (fun _ => (fun _ => 0)), hB0, by rw [ht]; exact hP9, va_K.moved hW.alike hK, hD9⟩, hS.F ht⟩) hS.2.2 dX9_shorten_166
                  · skip
                    have b_ := zF_ne rfl zk_0 c_
                    have hes : zes (fun k => (f2 k).toInt) (v0 3).toInt.toNat = true := by first | exact zes_t (by omega) (hX123_0 (by omega)) (hX132_1 (by omega)) (hX141_1 (by omega)) (hX150_1 (by omega))
                    refine lv_aload_n hx hb dX9_shorten_156 rfl (lv_at hl 0 rfl) ?_
                    refine lv_dup hx hb dX9_shorten_157 rfl ?_
                    refine va_get (D := (dC, dI)) (ci := 9) (v := .int (v0 3)) (C := RX9) (T := TX9) (N := 4) hx hb hG zuX9 hown hK hP 0 rfl rfl 3 (by decide) (hG _ zv172) (fun _ h9 => h9) rfl dX9_shorten_158 ?_
                    refine lv_iconst (v := 1) hx hb dX9_shorten_161 (by decide) ?_
                    refine lv_isub hx hb dX9_shorten_162 ?_
                    refine lv_topi (fun z162 e_z162 => ?_)
                    have b_ := zsub rfl zk_1 e_z162 (by omega) (by omega)
                    refine va_put (D := (dC, dI)) (ci := 9) (v := .int z162) (ty := .int) (C := RX9) (T := TX9) (N := 4) hx hb hG zuX9 tyX9 tyX9_ok nmX9 hown hK hP hD hS 0 rfl rfl 3 (by decide) (hG _ zv172) (fun _ h9 => h9) rfl (by decide +kernel) rfl rfl (Nat.le_of_ble_eq_true rfl) dX9_shorten_163 (fun H locs hP hD hS => ?_)
                    have hP : va_P (dC, dI) vwCl [(h0, .inr (9, mX9 h1 h2 (upd v0 3 z162))), (h2, zi k2 12 f2)] H := hP
                    have hD : va_D A [(h0, .inr (9, mX9 h1 h2 (upd v0 3 z162))), (h2, zi k2 12 f2)] := hD
                    refine W.widen (k := 0) (n := 0) (by decide) (by decide) ?_
                    have hpost : (0 ≤ z162.toInt ∧ z162.toInt ≤ 12) ∧ (z162.toInt = (zshm (fun k => (f2 k).toInt) ((v0 3).toInt).toNat : Int)) := ⟨(by first | with_reducible assumption | exact ⟨by omega, by omega⟩), by first | exact zsm1 hhd (by omega) (by omega) | exact zsm2 hhd hie (by omega) (by omega) | exact zsm3 hhd hie hin (by omega) (by omega) | exact zsm4 hhd hie hin hed (by omega) (by omega) | exact zsm5 hhd hie hin hed hes (by omega) (by omega) | exact zsm6 hhd hie hin hed hes (by omega) (by omega)⟩
                    have hP9 : va_P (dC, dI) vwCl [(h0, .inr (9, mX9 h1 h2 (upd v0 3 z162))), (h2, zi k2 12 f2)] H := hP
                    have hD9 : va_D A [(h0, .inr (9, mX9 h1 h2 (upd v0 3 z162))), (h2, zi k2 12 f2)] := hD
                    have hB0 : ∀ k : Nat, (f2 k).toInt = zshl (fun k => (f2 k).toInt) ((v0 3).toInt).toNat k := by first | exact zsl1 hhd | exact zsl3 hie | (rw [e_f_47]; exact zsl2 hhd hie (by omega) (by omega))
                    exact W.vret hx hb hr (fun t ht hW => ⟨⟨(fun i => ([z162] : List (Int32)).getD i 0), rfl, hpost, (fun _ => 0), (fun i => ([f2] : List (Nat → Int32)).getD i (fun _ => 0)), (fun _ => (fun _ => 0)), hB0, by rw [ht]; exact hP9, va_K.moved hW.alike hK, hD9⟩, hS.F ht⟩) hS.2.2 dX9_shorten_166
          · skip
            have b_ := zF_eq rfl zk_0 c_
            have hed : zed (fun k => (f2 k).toInt) (v0 3).toInt.toNat = true := by first | exact zed_t (by omega) (hX93_0 (by omega))
            refine lv_aload_n hx hb dX9_shorten_99 rfl (lv_at hl 0 rfl) ?_
            refine lv_dup hx hb dX9_shorten_100 rfl ?_
            refine va_get (D := (dC, dI)) (ci := 9) (v := .int (v0 3)) (C := RX9) (T := TX9) (N := 4) hx hb hG zuX9 hown hK hP 0 rfl rfl 3 (by decide) (hG _ zv172) (fun _ h9 => h9) rfl dX9_shorten_101 ?_
            refine lv_iconst (v := 2) hx hb dX9_shorten_104 (by decide) ?_
            refine lv_isub hx hb dX9_shorten_105 ?_
            refine lv_topi (fun z105 e_z105 => ?_)
            have b_ := zsub rfl zk_2 e_z105 (by omega) (by omega)
            refine va_put (D := (dC, dI)) (ci := 9) (v := .int z105) (ty := .int) (C := RX9) (T := TX9) (N := 4) hx hb hG zuX9 tyX9 tyX9_ok nmX9 hown hK hP hD hS 0 rfl rfl 3 (by decide) (hG _ zv172) (fun _ h9 => h9) rfl (by decide +kernel) rfl rfl (Nat.le_of_ble_eq_true rfl) dX9_shorten_106 (fun H locs hP hD hS => ?_)
            have hP : va_P (dC, dI) vwCl [(h0, .inr (9, mX9 h1 h2 (upd v0 3 z105))), (h2, zi k2 12 f2)] H := hP
            have hD : va_D A [(h0, .inr (9, mX9 h1 h2 (upd v0 3 z105))), (h2, zi k2 12 f2)] := hD
            refine lv_goto (tgt := 166) hx hb dX9_shorten_109 (by decide) ?_
            refine W.widen (k := 0) (n := 0) (by decide) (by decide) ?_
            have hpost : (0 ≤ z105.toInt ∧ z105.toInt ≤ 12) ∧ (z105.toInt = (zshm (fun k => (f2 k).toInt) ((v0 3).toInt).toNat : Int)) := ⟨(by first | with_reducible assumption | exact ⟨by omega, by omega⟩), by first | exact zsm1 hhd (by omega) (by omega) | exact zsm2 hhd hie (by omega) (by omega) | exact zsm3 hhd hie hin (by omega) (by omega) | exact zsm4 hhd hie hin hed (by omega) (by omega) | exact zsm5 hhd hie hin hed hes (by omega) (by omega) | exact zsm6 hhd hie hin hed hes (by omega) (by omega)⟩
            have hP9 : va_P (dC, dI) vwCl [(h0, .inr (9, mX9 h1 h2 (upd v0 3 z105))), (h2, zi k2 12 f2)] H := hP
            have hD9 : va_D A [(h0, .inr (9, mX9 h1 h2 (upd v0 3 z105))), (h2, zi k2 12 f2)] := hD
            have hB0 : ∀ k : Nat, (f2 k).toInt = zshl (fun k => (f2 k).toInt) ((v0 3).toInt).toNat k := by first | exact zsl1 hhd | exact zsl3 hie | (rw [e_f_47]; exact zsl2 hhd hie (by omega) (by omega))
            exact W.vret hx hb hr (fun t ht hW => ⟨⟨(fun i => ([z105] : List (Int32)).getD i 0), rfl, hpost, (fun _ => 0), (fun i => ([f2] : List (Nat → Int32)).getD i (fun _ => 0)), (fun _ => (fun _ => 0)), hB0, by rw [ht]; exact hP9, va_K.moved hW.alike hK, hD9⟩, hS.F ht⟩) hS.2.2 dX9_shorten_166
        · skip
          have b_ := zF_lt rfl zk_6 c_
          refine lv_aload_n hx hb dX9_shorten_60 rfl (lv_at hl 0 rfl) ?_
          refine va_ldcS hx hb hown (zE_K1 hE) dX9_shorten_61 ?_
          have hPc := hP.sub (ws' := [(h0, .inr (9, mX9 h1 h2 v0)), (h2, zi k2 12 f2)]) [0, 1] rfl
          have hDc := hD.sub (ws' := [(h0, .inr (9, mX9 h1 h2 v0)), (h2, zi k2 12 f2)]) [0, 1] (by decide) rfl
          have hKc := hK.sub (tys' := [(k2, .byte)]) [0] rfl
          have hFc := va_free (wc := [(h0, .inr (9, mX9 h1 h2 v0)), (h2, zi k2 12 f2)]) hD hS hA [0, 1] rfl
          refine va_calli (va_runV (As := [.ref (adK 1)]) (rest := []) ⟨hx, hb, hml, hown, hG⟩ (sX9_endsBy_6 l dC dI adK adV h0 h2 h1 k2 H.size v0 f2 hv0) (cwV 1 hG (zgV zv673 zv675 zv4 zv130 zv676) rfl rfl rfl (by decide +kernel) ⟨Nat.le_of_ble_eq_true rfl, Nat.le_of_ble_eq_true rfl⟩) ⟨zPc_blind, va_recv hKc hPc (ci := 9) (q0 := 0) rfl rfl, zPc_pre hPc hKc hDc hE hS hFc hZ⟩ rfl rfl hl.1 rfl (lv_room (Nat.le_of_ble_eq_true rfl)) dX9_shorten_63 ⟨Nat.le_of_ble_eq_true rfl, Nat.le_of_ble_eq_true rfl⟩) hS (fun q _ h => hFc q h) hFc (fun r63_ u63_ t H1 locs ht hvm hw hB hz1 hk1 hS => ?_)
          replace hw : (0 ≤ r63_.toInt ∧ r63_.toInt ≤ 1) ∧ (r63_.toInt = 1 → (3 ≤ (v0 3).toInt ∧ zEb f2 ((v0 3).toInt - 3) 3 1)) ∧ (r63_.toInt = 0 → ¬ (3 ≤ (v0 3).toInt ∧ zEb f2 ((v0 3).toInt - 3) 3 1)) := hw
          obtain ⟨b_, hX63_0, hX63_1⟩ := hw
          obtain ⟨w63_, a63_, b63_, hP1, hK1, hD1⟩ := hB
          rw [ht] at hP1
          obtain ⟨hP, hD⟩ := va_join (wr := []) (w1 := [(h0, .inr (9, mX9 h1 h2 v0)), (h2, zi k2 12 f2)]) hP hD [0, 1] [] rfl rfl (by decide) (by decide) hk1 hFc hP1 hD1
          have hP : va_P (dC, dI) vwCl [(h0, .inr (9, mX9 h1 h2 v0)), (h2, zi k2 12 f2)] H1 := hP.sub [0, 1] rfl
          have hD : va_D A [(h0, .inr (9, mX9 h1 h2 v0)), (h2, zi k2 12 f2)] := hD.sub [0, 1] (by decide) rfl
          generalize H1 = H at hP hS ⊢
          clear hz1
          refine lv_if_eq (tgt := 82) hx hb dX9_shorten_66 (by decide) (fun c_ => ?_) (fun c_ => ?_)
          · skip
            have b_ := zT_eq rfl zk_0 c_
            have hin : zing (fun k => (f2 k).toInt) (v0 3).toInt.toNat = false := by first | exact zing_f (Or.inl (by omega)) | exact zing_f (Or.inr (hX63_1 (by omega)))
            refine lv_aload_n hx hb dX9_shorten_82 rfl (lv_at hl 0 rfl) ?_
            refine va_get (D := (dC, dI)) (ci := 9) (v := .int (v0 3)) (C := RX9) (T := TX9) (N := 4) hx hb hG zuX9 hown hK hP 0 rfl rfl 3 (by decide) (hG _ zv172) (fun _ h9 => h9) rfl dX9_shorten_83 ?_
            refine lv_iconst (v := 5) hx hb dX9_shorten_86 (by decide) ?_
            refine lv_icmp_lt (tgt := 112) hx hb dX9_shorten_87 (by decide) (fun c_ => False.elim (by have b_ := zT_lt rfl zk_5 c_; omega)) (fun c_ => ?_)
            have b_ := zF_lt rfl zk_5 c_
            refine lv_aload_n hx hb dX9_shorten_90 rfl (lv_at hl 0 rfl) ?_
            refine va_ldcS hx hb hown (zE_K2 hE) dX9_shorten_91 ?_
            have hPc := hP.sub (ws' := [(h0, .inr (9, mX9 h1 h2 v0)), (h2, zi k2 12 f2)]) [0, 1] rfl
            have hDc := hD.sub (ws' := [(h0, .inr (9, mX9 h1 h2 v0)), (h2, zi k2 12 f2)]) [0, 1] (by decide) rfl
            have hKc := hK.sub (tys' := [(k2, .byte)]) [0] rfl
            have hFc := va_free (wc := [(h0, .inr (9, mX9 h1 h2 v0)), (h2, zi k2 12 f2)]) hD hS hA [0, 1] rfl
            refine va_calli (va_runV (As := [.ref (adK 2)]) (rest := []) ⟨hx, hb, hml, hown, hG⟩ (sX9_endsBy_5 l dC dI adK adV h0 h2 h1 k2 H.size v0 f2 hv0) (cwV 1 hG (zgV zv673 zv675 zv4 zv130 zv676) rfl rfl rfl (by decide +kernel) ⟨Nat.le_of_ble_eq_true rfl, Nat.le_of_ble_eq_true rfl⟩) ⟨zPc_blind, va_recv hKc hPc (ci := 9) (q0 := 0) rfl rfl, zPc_pre hPc hKc hDc hE hS hFc hZ⟩ rfl rfl hl.1 rfl (lv_room (Nat.le_of_ble_eq_true rfl)) dX9_shorten_93 ⟨Nat.le_of_ble_eq_true rfl, Nat.le_of_ble_eq_true rfl⟩) hS (fun q _ h => hFc q h) hFc (fun r93_ u93_ t H1 locs ht hvm hw hB hz1 hk1 hS => ?_)
            replace hw : (0 ≤ r93_.toInt ∧ r93_.toInt ≤ 1) ∧ (r93_.toInt = 1 → (2 ≤ (v0 3).toInt ∧ zEb f2 ((v0 3).toInt - 2) 2 2)) ∧ (r93_.toInt = 0 → ¬ (2 ≤ (v0 3).toInt ∧ zEb f2 ((v0 3).toInt - 2) 2 2)) := hw
            obtain ⟨b_, hX93_0, hX93_1⟩ := hw
            obtain ⟨w93_, a93_, b93_, hP1, hK1, hD1⟩ := hB
            rw [ht] at hP1
            obtain ⟨hP, hD⟩ := va_join (wr := []) (w1 := [(h0, .inr (9, mX9 h1 h2 v0)), (h2, zi k2 12 f2)]) hP hD [0, 1] [] rfl rfl (by decide) (by decide) hk1 hFc hP1 hD1
            have hP : va_P (dC, dI) vwCl [(h0, .inr (9, mX9 h1 h2 v0)), (h2, zi k2 12 f2)] H1 := hP.sub [0, 1] rfl
            have hD : va_D A [(h0, .inr (9, mX9 h1 h2 v0)), (h2, zi k2 12 f2)] := hD.sub [0, 1] (by decide) rfl
            generalize H1 = H at hP hS ⊢
            clear hz1
            refine lv_if_eq (tgt := 112) hx hb dX9_shorten_96 (by decide) (fun c_ => ?_) (fun c_ => ?_)
            · skip
              have b_ := zT_eq rfl zk_0 c_
              have hed : zed (fun k => (f2 k).toInt) (v0 3).toInt.toNat = false := by first | exact zed_f (Or.inl (by omega)) | exact zed_f (Or.inr (hX93_1 (by omega)))
              refine lv_aload_n hx hb dX9_shorten_112 rfl (lv_at hl 0 rfl) ?_
              refine va_get (D := (dC, dI)) (ci := 9) (v := .int (v0 3)) (C := RX9) (T := TX9) (N := 4) hx hb hG zuX9 hown hK hP 0 rfl rfl 3 (by decide) (hG _ zv172) (fun _ h9 => h9) rfl dX9_shorten_113 ?_
              refine lv_iconst (v := 4) hx hb dX9_shorten_116 (by decide) ?_
              refine lv_icmp_lt (tgt := 166) hx hb dX9_shorten_117 (by decide) (fun c_ => False.elim (by have b_ := zT_lt rfl zk_4 c_; omega)) (fun c_ => ?_)
              have b_ := zF_lt rfl zk_4 c_
              refine lv_aload_n hx hb dX9_shorten_120 rfl (lv_at hl 0 rfl) ?_
              refine va_ldcS hx hb hown (zE_K3 hE) dX9_shorten_121 ?_
              have hPc := hP.sub (ws' := [(h0, .inr (9, mX9 h1 h2 v0)), (h2, zi k2 12 f2)]) [0, 1] rfl
              have hDc := hD.sub (ws' := [(h0, .inr (9, mX9 h1 h2 v0)), (h2, zi k2 12 f2)]) [0, 1] (by decide) rfl
              have hKc := hK.sub (tys' := [(k2, .byte)]) [0] rfl
              have hFc := va_free (wc := [(h0, .inr (9, mX9 h1 h2 v0)), (h2, zi k2 12 f2)]) hD hS hA [0, 1] rfl
              refine va_calli (va_runV (As := [.ref (adK 3)]) (rest := []) ⟨hx, hb, hml, hown, hG⟩ (sX9_endsBy_0 l dC dI adK adV h0 h2 h1 k2 H.size v0 f2 hv0) (cwV 1 hG (zgV zv673 zv675 zv4 zv130 zv676) rfl rfl rfl (by decide +kernel) ⟨Nat.le_of_ble_eq_true rfl, Nat.le_of_ble_eq_true rfl⟩) ⟨zPc_blind, va_recv hKc hPc (ci := 9) (q0 := 0) rfl rfl, zPc_pre hPc hKc hDc hE hS hFc hZ⟩ rfl rfl hl.1 rfl (lv_room (Nat.le_of_ble_eq_true rfl)) dX9_shorten_123 ⟨Nat.le_of_ble_eq_true rfl, Nat.le_of_ble_eq_true rfl⟩) hS (fun q _ h => hFc q h) hFc (fun r123_ u123_ t H1 locs ht hvm hw hB hz1 hk1 hS => ?_)
              replace hw : (0 ≤ r123_.toInt ∧ r123_.toInt ≤ 1) ∧ (r123_.toInt = 1 → (1 ≤ (v0 3).toInt ∧ zEb f2 ((v0 3).toInt - 1) 1 3)) ∧ (r123_.toInt = 0 → ¬ (1 ≤ (v0 3).toInt ∧ zEb f2 ((v0 3).toInt - 1) 1 3)) := hw
              obtain ⟨b_, hX123_0, hX123_1⟩ := hw
              obtain ⟨w123_, a123_, b123_, hP1, hK1, hD1⟩ := hB
              rw [ht] at hP1
              obtain ⟨hP, hD⟩ := va_join (wr := []) (w1 := [(h0, .inr (9, mX9 h1 h2 v0)), (h2, zi k2 12 f2)]) hP hD [0, 1] [] rfl rfl (by decide) (by decide) hk1 hFc hP1 hD1
              have hP : va_P (dC, dI) vwCl [(h0, .inr (9, mX9 h1 h2 v0)), (h2, zi k2 12 f2)] H1 := hP.sub [0, 1] rfl
              have hD : va_D A [(h0, .inr (9, mX9 h1 h2 v0)), (h2, zi k2 12 f2)] := hD.sub [0, 1] (by decide) rfl
              generalize H1 = H at hP hS ⊢
              clear hz1
              refine lv_if_eq (tgt := 166) hx hb dX9_shorten_126 (by decide) (fun c_ => ?_) (fun c_ => ?_)
              · skip
                have b_ := zT_eq rfl zk_0 c_
                have hes : zes (fun k => (f2 k).toInt) (v0 3).toInt.toNat = false := by first | exact zes_f (Or.inl (by omega)) | exact zes_f (Or.inr (Or.inl (hX123_1 (by omega)))) | exact zes_f (Or.inr (Or.inr (Or.inl (hX132_0 (by omega))))) | exact zes_f (Or.inr (Or.inr (Or.inr (Or.inl (hX141_0 (by omega)))))) | exact zes_f (Or.inr (Or.inr (Or.inr (Or.inr (hX150_0 (by omega))))))
                refine W.widen (k := 0) (n := 0) (by decide) (by decide) ?_
                have hpost : (0 ≤ (v0 3).toInt ∧ (v0 3).toInt ≤ 12) ∧ ((v0 3).toInt = (zshm (fun k => (f2 k).toInt) ((v0 3).toInt).toNat : Int)) := ⟨(by first | with_reducible assumption | exact ⟨by omega, by omega⟩), by first | exact zsm1 hhd (by omega) (by omega) | exact zsm2 hhd hie (by omega) (by omega) | exact zsm3 hhd hie hin (by omega) (by omega) | exact zsm4 hhd hie hin hed (by omega) (by omega) | exact zsm5 hhd hie hin hed hes (by omega) (by omega) | exact zsm6 hhd hie hin hed hes (by omega) (by omega)⟩
                have hP9 : va_P (dC, dI) vwCl [(h0, .inr (9, mX9 h1 h2 (upd v0 3 (v0 3)))), (h2, zi k2 12 f2)] H := hP
                have hD9 : va_D A [(h0, .inr (9, mX9 h1 h2 (upd v0 3 (v0 3)))), (h2, zi k2 12 f2)] := hD
                have hB0 : ∀ k : Nat, (f2 k).toInt = zshl (fun k => (f2 k).toInt) ((v0 3).toInt).toNat k := by first | exact zsl1 hhd | exact zsl3 hie | (rw [e_f_47]; exact zsl2 hhd hie (by omega) (by omega))
                exact W.vret hx hb hr (fun t ht hW => ⟨⟨(fun i => ([(v0 3)] : List (Int32)).getD i 0), rfl, hpost, (fun _ => 0), (fun i => ([f2] : List (Nat → Int32)).getD i (fun _ => 0)), (fun _ => (fun _ => 0)), hB0, by rw [ht]; exact hP9, va_K.moved hW.alike hK, hD9⟩, hS.F ht⟩) hS.2.2 dX9_shorten_166
              · skip
                have b_ := zF_eq rfl zk_0 c_
                refine lv_aload_n hx hb dX9_shorten_129 rfl (lv_at hl 0 rfl) ?_
                refine va_ldcS hx hb hown (zE_K4 hE) dX9_shorten_130 ?_
                have hPc := hP.sub (ws' := [(h0, .inr (9, mX9 h1 h2 v0)), (h2, zi k2 12 f2)]) [0, 1] rfl
                have hDc := hD.sub (ws' := [(h0, .inr (9, mX9 h1 h2 v0)), (h2, zi k2 12 f2)]) [0, 1] (by decide) rfl
                have hKc := hK.sub (tys' := [(k2, .byte)]) [0] rfl
                have hFc := va_free (wc := [(h0, .inr (9, mX9 h1 h2 v0)), (h2, zi k2 12 f2)]) hD hS hA [0, 1] rfl
                refine va_calli (va_runV (As := [.ref (adK 4)]) (rest := []) ⟨hx, hb, hml, hown, hG⟩ (sX9_endsBy_1 l dC dI adK adV h0 h2 h1 k2 H.size v0 f2 hv0) (cwV 1 hG (zgV zv673 zv675 zv4 zv130 zv676) rfl rfl rfl (by decide +kernel) ⟨Nat.le_of_ble_eq_true rfl, Nat.le_of_ble_eq_true rfl⟩) ⟨zPc_blind, va_recv hKc hPc (ci := 9) (q0 := 0) rfl rfl, zPc_pre hPc hKc hDc hE hS hFc hZ⟩ rfl rfl hl.1 rfl (lv_room (Nat.le_of_ble_eq_true rfl)) dX9_shorten_132 ⟨Nat.le_of_ble_eq_true rfl, Nat.le_of_ble_eq_true rfl⟩) hS (fun q _ h => hFc q h) hFc (fun r132_ u132_ t H1 locs ht hvm hw hB hz1 hk1 hS => ?_)
                replace hw : (0 ≤ r132_.toInt ∧ r132_.toInt ≤ 1) ∧ (r132_.toInt = 1 → (2 ≤ (v0 3).toInt ∧ zEb f2 ((v0 3).toInt - 2) 2 4)) ∧ (r132_.toInt = 0 → ¬ (2 ≤ (v0 3).toInt ∧ zEb f2 ((v0 3).toInt - 2) 2 4)) := hw
                obtain ⟨b_, hX132_0, hX132_1⟩ := hw
                obtain ⟨w132_, a132_, b132_, hP1, hK1, hD1⟩ := hB
                rw [ht] at hP1
                obtain ⟨hP, hD⟩ := va_join (wr := []) (w1 := [(h0, .inr (9, mX9 h1 h2 v0)), (h2, zi k2 12 f2)]) hP hD [0, 1] [] rfl rfl (by decide) (by decide) hk1 hFc hP1 hD1
                have hP : va_P (dC, dI) vwCl [(h0, .inr (9, mX9 h1 h2 v0)), (h2, zi k2 12 f2)] H1 := hP.sub [0, 1] rfl
                have hD : va_D A [(h0, .inr (9, mX9 h1 h2 v0)), (h2, zi k2 12 f2)] := hD.sub [0, 1] (by decide) rfl
                generalize H1 = H at hP hS ⊢
                clear hz1
                refine lv_if_ne (tgt := 166) hx hb dX9_shorten_135 (by decide) (fun c_ => ?_) (fun c_ => ?_)
                · skip
                  have b_ := zT_ne rfl zk_0 c_
                  have hes : zes (fun k => (f2 k).toInt) (v0 3).toInt.toNat = false := by first | exact zes_f (Or.inl (by omega)) | exact zes_f (Or.inr (Or.inl (hX123_1 (by omega)))) | exact zes_f (Or.inr (Or.inr (Or.inl (hX132_0 (by omega))))) | exact zes_f (Or.inr (Or.inr (Or.inr (Or.inl (hX141_0 (by omega)))))) | exact zes_f (Or.inr (Or.inr (Or.inr (Or.inr (hX150_0 (by omega))))))
                  refine W.widen (k := 0) (n := 0) (by decide) (by decide) ?_
                  have hpost : (0 ≤ (v0 3).toInt ∧ (v0 3).toInt ≤ 12) ∧ ((v0 3).toInt = (zshm (fun k => (f2 k).toInt) ((v0 3).toInt).toNat : Int)) := ⟨(by first | with_reducible assumption | exact ⟨by omega, by omega⟩), by first | exact zsm1 hhd (by omega) (by omega) | exact zsm2 hhd hie (by omega) (by omega) | exact zsm3 hhd hie hin (by omega) (by omega) | exact zsm4 hhd hie hin hed (by omega) (by omega) | exact zsm5 hhd hie hin hed hes (by omega) (by omega) | exact zsm6 hhd hie hin hed hes (by omega) (by omega)⟩
                  have hP9 : va_P (dC, dI) vwCl [(h0, .inr (9, mX9 h1 h2 (upd v0 3 (v0 3)))), (h2, zi k2 12 f2)] H := hP
                  have hD9 : va_D A [(h0, .inr (9, mX9 h1 h2 (upd v0 3 (v0 3)))), (h2, zi k2 12 f2)] := hD
                  have hB0 : ∀ k : Nat, (f2 k).toInt = zshl (fun k => (f2 k).toInt) ((v0 3).toInt).toNat k := by first | exact zsl1 hhd | exact zsl3 hie | (rw [e_f_47]; exact zsl2 hhd hie (by omega) (by omega))
                  exact W.vret hx hb hr (fun t ht hW => ⟨⟨(fun i => ([(v0 3)] : List (Int32)).getD i 0), rfl, hpost, (fun _ => 0), (fun i => ([f2] : List (Nat → Int32)).getD i (fun _ => 0)), (fun _ => (fun _ => 0)), hB0, by rw [ht]; exact hP9, va_K.moved hW.alike hK, hD9⟩, hS.F ht⟩) hS.2.2 dX9_shorten_166
                · skip
                  have b_ := zF_ne rfl zk_0 c_
                  refine lv_aload_n hx hb dX9_shorten_138 rfl (lv_at hl 0 rfl) ?_
                  refine va_ldcS hx hb hown (zE_K5 hE) dX9_shorten_139 ?_
                  have hPc := hP.sub (ws' := [(h0, .inr (9, mX9 h1 h2 v0)), (h2, zi k2 12 f2)]) [0, 1] rfl
                  have hDc := hD.sub (ws' := [(h0, .inr (9, mX9 h1 h2 v0)), (h2, zi k2 12 f2)]) [0, 1] (by decide) rfl
                  have hKc := hK.sub (tys' := [(k2, .byte)]) [0] rfl
                  have hFc := va_free (wc := [(h0, .inr (9, mX9 h1 h2 v0)), (h2, zi k2 12 f2)]) hD hS hA [0, 1] rfl
                  refine va_calli (va_runV (As := [.ref (adK 5)]) (rest := []) ⟨hx, hb, hml, hown, hG⟩ (sX9_endsBy_2 l dC dI adK adV h0 h2 h1 k2 H.size v0 f2 hv0) (cwV 1 hG (zgV zv673 zv675 zv4 zv130 zv676) rfl rfl rfl (by decide +kernel) ⟨Nat.le_of_ble_eq_true rfl, Nat.le_of_ble_eq_true rfl⟩) ⟨zPc_blind, va_recv hKc hPc (ci := 9) (q0 := 0) rfl rfl, zPc_pre hPc hKc hDc hE hS hFc hZ⟩ rfl rfl hl.1 rfl (lv_room (Nat.le_of_ble_eq_true rfl)) dX9_shorten_141 ⟨Nat.le_of_ble_eq_true rfl, Nat.le_of_ble_eq_true rfl⟩) hS (fun q _ h => hFc q h) hFc (fun r141_ u141_ t H1 locs ht hvm hw hB hz1 hk1 hS => ?_)
                  replace hw : (0 ≤ r141_.toInt ∧ r141_.toInt ≤ 1) ∧ (r141_.toInt = 1 → (2 ≤ (v0 3).toInt ∧ zEb f2 ((v0 3).toInt - 2) 2 5)) ∧ (r141_.toInt = 0 → ¬ (2 ≤ (v0 3).toInt ∧ zEb f2 ((v0 3).toInt - 2) 2 5)) := hw
                  obtain ⟨b_, hX141_0, hX141_1⟩ := hw
                  obtain ⟨w141_, a141_, b141_, hP1, hK1, hD1⟩ := hB
                  rw [ht] at hP1
                  obtain ⟨hP, hD⟩ := va_join (wr := []) (w1 := [(h0, .inr (9, mX9 h1 h2 v0)), (h2, zi k2 12 f2)]) hP hD [0, 1] [] rfl rfl (by decide) (by decide) hk1 hFc hP1 hD1
                  have hP : va_P (dC, dI) vwCl [(h0, .inr (9, mX9 h1 h2 v0)), (h2, zi k2 12 f2)] H1 := hP.sub [0, 1] rfl
                  have hD : va_D A [(h0, .inr (9, mX9 h1 h2 v0)), (h2, zi k2 12 f2)] := hD.sub [0, 1] (by decide) rfl
                  generalize H1 = H at hP hS ⊢
                  clear hz1
                  refine lv_if_ne (tgt := 166) hx hb dX9_shorten_144 (by decide) (fun c_ => ?_) (fun c_ => ?_)
                  · skip
                    have b_ := zT_ne rfl zk_0 c_
                    have hes : zes (fun k => (f2 k).toInt) (v0 3).toInt.toNat = false := by first | exact zes_f (Or.inl (by omega)) | exact zes_f (Or.inr (Or.inl (hX123_1 (by omega)))) | exact zes_f (Or.inr (Or.inr (Or.inl (hX132_0 (by omega))))) | exact zes_f (Or.inr (Or.inr (Or.inr (Or.inl (hX141_0 (by omega)))))) | exact zes_f (Or.inr (Or.inr (Or.inr (Or.inr (hX150_0 (by omega))))))
                    refine W.widen (k := 0) (n := 0) (by decide) (by decide) ?_
                    have hpost : (0 ≤ (v0 3).toInt ∧ (v0 3).toInt ≤ 12) ∧ ((v0 3).toInt = (zshm (fun k => (f2 k).toInt) ((v0 3).toInt).toNat : Int)) := ⟨(by first | with_reducible assumption | exact ⟨by omega, by omega⟩), by first | exact zsm1 hhd (by omega) (by omega) | exact zsm2 hhd hie (by omega) (by omega) | exact zsm3 hhd hie hin (by omega) (by omega) | exact zsm4 hhd hie hin hed (by omega) (by omega) | exact zsm5 hhd hie hin hed hes (by omega) (by omega) | exact zsm6 hhd hie hin hed hes (by omega) (by omega)⟩
                    have hP9 : va_P (dC, dI) vwCl [(h0, .inr (9, mX9 h1 h2 (upd v0 3 (v0 3)))), (h2, zi k2 12 f2)] H := hP
                    have hD9 : va_D A [(h0, .inr (9, mX9 h1 h2 (upd v0 3 (v0 3)))), (h2, zi k2 12 f2)] := hD
                    have hB0 : ∀ k : Nat, (f2 k).toInt = zshl (fun k => (f2 k).toInt) ((v0 3).toInt).toNat k := by first | exact zsl1 hhd | exact zsl3 hie | (rw [e_f_47]; exact zsl2 hhd hie (by omega) (by omega))
                    exact W.vret hx hb hr (fun t ht hW => ⟨⟨(fun i => ([(v0 3)] : List (Int32)).getD i 0), rfl, hpost, (fun _ => 0), (fun i => ([f2] : List (Nat → Int32)).getD i (fun _ => 0)), (fun _ => (fun _ => 0)), hB0, by rw [ht]; exact hP9, va_K.moved hW.alike hK, hD9⟩, hS.F ht⟩) hS.2.2 dX9_shorten_166
                  · skip
                    have b_ := zF_ne rfl zk_0 c_
                    refine lv_aload_n hx hb dX9_shorten_147 rfl (lv_at hl 0 rfl) ?_
                    refine va_ldcS hx hb hown (zE_K6 hE) dX9_shorten_148 ?_
                    have hPc := hP.sub (ws' := [(h0, .inr (9, mX9 h1 h2 v0)), (h2, zi k2 12 f2)]) [0, 1] rfl
                    have hDc := hD.sub (ws' := [(h0, .inr (9, mX9 h1 h2 v0)), (h2, zi k2 12 f2)]) [0, 1] (by decide) rfl
                    have hKc := hK.sub (tys' := [(k2, .byte)]) [0] rfl
                    have hFc := va_free (wc := [(h0, .inr (9, mX9 h1 h2 v0)), (h2, zi k2 12 f2)]) hD hS hA [0, 1] rfl
                    refine va_calli (va_runV (As := [.ref (adK 6)]) (rest := []) ⟨hx, hb, hml, hown, hG⟩ (sX9_endsBy_3 l dC dI adK adV h0 h2 h1 k2 H.size v0 f2 hv0) (cwV 1 hG (zgV zv673 zv675 zv4 zv130 zv676) rfl rfl rfl (by decide +kernel) ⟨Nat.le_of_ble_eq_true rfl, Nat.le_of_ble_eq_true rfl⟩) ⟨zPc_blind, va_recv hKc hPc (ci := 9) (q0 := 0) rfl rfl, zPc_pre hPc hKc hDc hE hS hFc hZ⟩ rfl rfl hl.1 rfl (lv_room (Nat.le_of_ble_eq_true rfl)) dX9_shorten_150 ⟨Nat.le_of_ble_eq_true rfl, Nat.le_of_ble_eq_true rfl⟩) hS (fun q _ h => hFc q h) hFc (fun r150_ u150_ t H1 locs ht hvm hw hB hz1 hk1 hS => ?_)
                    replace hw : (0 ≤ r150_.toInt ∧ r150_.toInt ≤ 1) ∧ (r150_.toInt = 1 → (2 ≤ (v0 3).toInt ∧ zEb f2 ((v0 3).toInt - 2) 2 6)) ∧ (r150_.toInt = 0 → ¬ (2 ≤ (v0 3).toInt ∧ zEb f2 ((v0 3).toInt - 2) 2 6)) := hw
                    obtain ⟨b_, hX150_0, hX150_1⟩ := hw
                    obtain ⟨w150_, a150_, b150_, hP1, hK1, hD1⟩ := hB
                    rw [ht] at hP1
                    obtain ⟨hP, hD⟩ := va_join (wr := []) (w1 := [(h0, .inr (9, mX9 h1 h2 v0)), (h2, zi k2 12 f2)]) hP hD [0, 1] [] rfl rfl (by decide) (by decide) hk1 hFc hP1 hD1
                    have hP : va_P (dC, dI) vwCl [(h0, .inr (9, mX9 h1 h2 v0)), (h2, zi k2 12 f2)] H1 := hP.sub [0, 1] rfl
                    have hD : va_D A [(h0, .inr (9, mX9 h1 h2 v0)), (h2, zi k2 12 f2)] := hD.sub [0, 1] (by decide) rfl
                    generalize H1 = H at hP hS ⊢
                    clear hz1
                    refine lv_if_ne (tgt := 166) hx hb dX9_shorten_153 (by decide) (fun c_ => ?_) (fun c_ => ?_)
                    · skip
                      have b_ := zT_ne rfl zk_0 c_
                      have hes : zes (fun k => (f2 k).toInt) (v0 3).toInt.toNat = false := by first | exact zes_f (Or.inl (by omega)) | exact zes_f (Or.inr (Or.inl (hX123_1 (by omega)))) | exact zes_f (Or.inr (Or.inr (Or.inl (hX132_0 (by omega))))) | exact zes_f (Or.inr (Or.inr (Or.inr (Or.inl (hX141_0 (by omega)))))) | exact zes_f (Or.inr (Or.inr (Or.inr (Or.inr (hX150_0 (by omega))))))
                      refine W.widen (k := 0) (n := 0) (by decide) (by decide) ?_
                      have hpost : (0 ≤ (v0 3).toInt ∧ (v0 3).toInt ≤ 12) ∧ ((v0 3).toInt = (zshm (fun k => (f2 k).toInt) ((v0 3).toInt).toNat : Int)) := ⟨(by first | with_reducible assumption | exact ⟨by omega, by omega⟩), by first | exact zsm1 hhd (by omega) (by omega) | exact zsm2 hhd hie (by omega) (by omega) | exact zsm3 hhd hie hin (by omega) (by omega) | exact zsm4 hhd hie hin hed (by omega) (by omega) | exact zsm5 hhd hie hin hed hes (by omega) (by omega) | exact zsm6 hhd hie hin hed hes (by omega) (by omega)⟩
                      have hP9 : va_P (dC, dI) vwCl [(h0, .inr (9, mX9 h1 h2 (upd v0 3 (v0 3)))), (h2, zi k2 12 f2)] H := hP
                      have hD9 : va_D A [(h0, .inr (9, mX9 h1 h2 (upd v0 3 (v0 3)))), (h2, zi k2 12 f2)] := hD
                      have hB0 : ∀ k : Nat, (f2 k).toInt = zshl (fun k => (f2 k).toInt) ((v0 3).toInt).toNat k := by first | exact zsl1 hhd | exact zsl3 hie | (rw [e_f_47]; exact zsl2 hhd hie (by omega) (by omega))
                      exact W.vret hx hb hr (fun t ht hW => ⟨⟨(fun i => ([(v0 3)] : List (Int32)).getD i 0), rfl, hpost, (fun _ => 0), (fun i => ([f2] : List (Nat → Int32)).getD i (fun _ => 0)), (fun _ => (fun _ => 0)), hB0, by rw [ht]; exact hP9, va_K.moved hW.alike hK, hD9⟩, hS.F ht⟩) hS.2.2 dX9_shorten_166
                    · skip
                      have b_ := zF_ne rfl zk_0 c_
                      have hes : zes (fun k => (f2 k).toInt) (v0 3).toInt.toNat = true := by first | exact zes_t (by omega) (hX123_0 (by omega)) (hX132_1 (by omega)) (hX141_1 (by omega)) (hX150_1 (by omega))
                      refine lv_aload_n hx hb dX9_shorten_156 rfl (lv_at hl 0 rfl) ?_
                      refine lv_dup hx hb dX9_shorten_157 rfl ?_
                      refine va_get (D := (dC, dI)) (ci := 9) (v := .int (v0 3)) (C := RX9) (T := TX9) (N := 4) hx hb hG zuX9 hown hK hP 0 rfl rfl 3 (by decide) (hG _ zv172) (fun _ h9 => h9) rfl dX9_shorten_158 ?_
                      refine lv_iconst (v := 1) hx hb dX9_shorten_161 (by decide) ?_
                      refine lv_isub hx hb dX9_shorten_162 ?_
                      refine lv_topi (fun z162 e_z162 => ?_)
                      have b_ := zsub rfl zk_1 e_z162 (by omega) (by omega)
                      refine va_put (D := (dC, dI)) (ci := 9) (v := .int z162) (ty := .int) (C := RX9) (T := TX9) (N := 4) hx hb hG zuX9 tyX9 tyX9_ok nmX9 hown hK hP hD hS 0 rfl rfl 3 (by decide) (hG _ zv172) (fun _ h9 => h9) rfl (by decide +kernel) rfl rfl (Nat.le_of_ble_eq_true rfl) dX9_shorten_163 (fun H locs hP hD hS => ?_)
                      have hP : va_P (dC, dI) vwCl [(h0, .inr (9, mX9 h1 h2 (upd v0 3 z162))), (h2, zi k2 12 f2)] H := hP
                      have hD : va_D A [(h0, .inr (9, mX9 h1 h2 (upd v0 3 z162))), (h2, zi k2 12 f2)] := hD
                      refine W.widen (k := 0) (n := 0) (by decide) (by decide) ?_
                      have hpost : (0 ≤ z162.toInt ∧ z162.toInt ≤ 12) ∧ (z162.toInt = (zshm (fun k => (f2 k).toInt) ((v0 3).toInt).toNat : Int)) := ⟨(by first | with_reducible assumption | exact ⟨by omega, by omega⟩), by first | exact zsm1 hhd (by omega) (by omega) | exact zsm2 hhd hie (by omega) (by omega) | exact zsm3 hhd hie hin (by omega) (by omega) | exact zsm4 hhd hie hin hed (by omega) (by omega) | exact zsm5 hhd hie hin hed hes (by omega) (by omega) | exact zsm6 hhd hie hin hed hes (by omega) (by omega)⟩
                      have hP9 : va_P (dC, dI) vwCl [(h0, .inr (9, mX9 h1 h2 (upd v0 3 z162))), (h2, zi k2 12 f2)] H := hP
                      have hD9 : va_D A [(h0, .inr (9, mX9 h1 h2 (upd v0 3 z162))), (h2, zi k2 12 f2)] := hD
                      have hB0 : ∀ k : Nat, (f2 k).toInt = zshl (fun k => (f2 k).toInt) ((v0 3).toInt).toNat k := by first | exact zsl1 hhd | exact zsl3 hie | (rw [e_f_47]; exact zsl2 hhd hie (by omega) (by omega))
                      exact W.vret hx hb hr (fun t ht hW => ⟨⟨(fun i => ([z162] : List (Int32)).getD i 0), rfl, hpost, (fun _ => 0), (fun i => ([f2] : List (Nat → Int32)).getD i (fun _ => 0)), (fun _ => (fun _ => 0)), hB0, by rw [ht]; exact hP9, va_K.moved hW.alike hK, hD9⟩, hS.F ht⟩) hS.2.2 dX9_shorten_166
            · skip
              have b_ := zF_eq rfl zk_0 c_
              have hed : zed (fun k => (f2 k).toInt) (v0 3).toInt.toNat = true := by first | exact zed_t (by omega) (hX93_0 (by omega))
              refine lv_aload_n hx hb dX9_shorten_99 rfl (lv_at hl 0 rfl) ?_
              refine lv_dup hx hb dX9_shorten_100 rfl ?_
              refine va_get (D := (dC, dI)) (ci := 9) (v := .int (v0 3)) (C := RX9) (T := TX9) (N := 4) hx hb hG zuX9 hown hK hP 0 rfl rfl 3 (by decide) (hG _ zv172) (fun _ h9 => h9) rfl dX9_shorten_101 ?_
              refine lv_iconst (v := 2) hx hb dX9_shorten_104 (by decide) ?_
              refine lv_isub hx hb dX9_shorten_105 ?_
              refine lv_topi (fun z105 e_z105 => ?_)
              have b_ := zsub rfl zk_2 e_z105 (by omega) (by omega)
              refine va_put (D := (dC, dI)) (ci := 9) (v := .int z105) (ty := .int) (C := RX9) (T := TX9) (N := 4) hx hb hG zuX9 tyX9 tyX9_ok nmX9 hown hK hP hD hS 0 rfl rfl 3 (by decide) (hG _ zv172) (fun _ h9 => h9) rfl (by decide +kernel) rfl rfl (Nat.le_of_ble_eq_true rfl) dX9_shorten_106 (fun H locs hP hD hS => ?_)
              have hP : va_P (dC, dI) vwCl [(h0, .inr (9, mX9 h1 h2 (upd v0 3 z105))), (h2, zi k2 12 f2)] H := hP
              have hD : va_D A [(h0, .inr (9, mX9 h1 h2 (upd v0 3 z105))), (h2, zi k2 12 f2)] := hD
              refine lv_goto (tgt := 166) hx hb dX9_shorten_109 (by decide) ?_
              refine W.widen (k := 0) (n := 0) (by decide) (by decide) ?_
              have hpost : (0 ≤ z105.toInt ∧ z105.toInt ≤ 12) ∧ (z105.toInt = (zshm (fun k => (f2 k).toInt) ((v0 3).toInt).toNat : Int)) := ⟨(by first | with_reducible assumption | exact ⟨by omega, by omega⟩), by first | exact zsm1 hhd (by omega) (by omega) | exact zsm2 hhd hie (by omega) (by omega) | exact zsm3 hhd hie hin (by omega) (by omega) | exact zsm4 hhd hie hin hed (by omega) (by omega) | exact zsm5 hhd hie hin hed hes (by omega) (by omega) | exact zsm6 hhd hie hin hed hes (by omega) (by omega)⟩
              have hP9 : va_P (dC, dI) vwCl [(h0, .inr (9, mX9 h1 h2 (upd v0 3 z105))), (h2, zi k2 12 f2)] H := hP
              have hD9 : va_D A [(h0, .inr (9, mX9 h1 h2 (upd v0 3 z105))), (h2, zi k2 12 f2)] := hD
              have hB0 : ∀ k : Nat, (f2 k).toInt = zshl (fun k => (f2 k).toInt) ((v0 3).toInt).toNat k := by first | exact zsl1 hhd | exact zsl3 hie | (rw [e_f_47]; exact zsl2 hhd hie (by omega) (by omega))
              exact W.vret hx hb hr (fun t ht hW => ⟨⟨(fun i => ([z105] : List (Int32)).getD i 0), rfl, hpost, (fun _ => 0), (fun i => ([f2] : List (Nat → Int32)).getD i (fun _ => 0)), (fun _ => (fun _ => 0)), hB0, by rw [ht]; exact hP9, va_K.moved hW.alike hK, hD9⟩, hS.F ht⟩) hS.2.2 dX9_shorten_166
          · skip
            have b_ := zF_eq rfl zk_0 c_
            have hin : zing (fun k => (f2 k).toInt) (v0 3).toInt.toNat = true := by first | exact zing_t (by omega) (hX63_0 (by omega))
            refine lv_aload_n hx hb dX9_shorten_69 rfl (lv_at hl 0 rfl) ?_
            refine lv_dup hx hb dX9_shorten_70 rfl ?_
            refine va_get (D := (dC, dI)) (ci := 9) (v := .int (v0 3)) (C := RX9) (T := TX9) (N := 4) hx hb hG zuX9 hown hK hP 0 rfl rfl 3 (by decide) (hG _ zv172) (fun _ h9 => h9) rfl dX9_shorten_71 ?_
            refine lv_iconst (v := 3) hx hb dX9_shorten_74 (by decide) ?_
            refine lv_isub hx hb dX9_shorten_75 ?_
            refine lv_topi (fun z75 e_z75 => ?_)
            have b_ := zsub rfl zk_3 e_z75 (by omega) (by omega)
            refine va_put (D := (dC, dI)) (ci := 9) (v := .int z75) (ty := .int) (C := RX9) (T := TX9) (N := 4) hx hb hG zuX9 tyX9 tyX9_ok nmX9 hown hK hP hD hS 0 rfl rfl 3 (by decide) (hG _ zv172) (fun _ h9 => h9) rfl (by decide +kernel) rfl rfl (Nat.le_of_ble_eq_true rfl) dX9_shorten_76 (fun H locs hP hD hS => ?_)
            have hP : va_P (dC, dI) vwCl [(h0, .inr (9, mX9 h1 h2 (upd v0 3 z75))), (h2, zi k2 12 f2)] H := hP
            have hD : va_D A [(h0, .inr (9, mX9 h1 h2 (upd v0 3 z75))), (h2, zi k2 12 f2)] := hD
            refine lv_goto (tgt := 166) hx hb dX9_shorten_79 (by decide) ?_
            refine W.widen (k := 0) (n := 0) (by decide) (by decide) ?_
            have hpost : (0 ≤ z75.toInt ∧ z75.toInt ≤ 12) ∧ (z75.toInt = (zshm (fun k => (f2 k).toInt) ((v0 3).toInt).toNat : Int)) := ⟨(by first | with_reducible assumption | exact ⟨by omega, by omega⟩), by first | exact zsm1 hhd (by omega) (by omega) | exact zsm2 hhd hie (by omega) (by omega) | exact zsm3 hhd hie hin (by omega) (by omega) | exact zsm4 hhd hie hin hed (by omega) (by omega) | exact zsm5 hhd hie hin hed hes (by omega) (by omega) | exact zsm6 hhd hie hin hed hes (by omega) (by omega)⟩
            have hP9 : va_P (dC, dI) vwCl [(h0, .inr (9, mX9 h1 h2 (upd v0 3 z75))), (h2, zi k2 12 f2)] H := hP
            have hD9 : va_D A [(h0, .inr (9, mX9 h1 h2 (upd v0 3 z75))), (h2, zi k2 12 f2)] := hD
            have hB0 : ∀ k : Nat, (f2 k).toInt = zshl (fun k => (f2 k).toInt) ((v0 3).toInt).toNat k := by first | exact zsl1 hhd | exact zsl3 hie | (rw [e_f_47]; exact zsl2 hhd hie (by omega) (by omega))
            exact W.vret hx hb hr (fun t ht hW => ⟨⟨(fun i => ([z75] : List (Int32)).getD i 0), rfl, hpost, (fun _ => 0), (fun i => ([f2] : List (Nat → Int32)).getD i (fun _ => 0)), (fun _ => (fun _ => 0)), hB0, by rw [ht]; exact hP9, va_K.moved hW.alike hK, hD9⟩, hS.F ht⟩) hS.2.2 dX9_shorten_166
      · skip
        have b_ := zF_eq rfl zk_0 c_
        have hie : zies (fun k => (f2 k).toInt) (v0 3).toInt.toNat = true := by first | exact zies_t (by omega) (hX19_0 (by omega))
        refine lv_aload_n hx hb dX9_shorten_25 rfl (lv_at hl 0 rfl) ?_
        refine lv_dup hx hb dX9_shorten_26 rfl ?_
        refine va_get (D := (dC, dI)) (ci := 9) (v := .int (v0 3)) (C := RX9) (T := TX9) (N := 4) hx hb hG zuX9 hown hK hP 0 rfl rfl 3 (by decide) (hG _ zv172) (fun _ h9 => h9) rfl dX9_shorten_27 ?_
        refine lv_iconst (v := 2) hx hb dX9_shorten_30 (by decide) ?_
        refine lv_isub hx hb dX9_shorten_31 ?_
        refine lv_topi (fun z31 e_z31 => ?_)
        have b_ := zsub rfl zk_2 e_z31 (by omega) (by omega)
        refine va_put (D := (dC, dI)) (ci := 9) (v := .int z31) (ty := .int) (C := RX9) (T := TX9) (N := 4) hx hb hG zuX9 tyX9 tyX9_ok nmX9 hown hK hP hD hS 0 rfl rfl 3 (by decide) (hG _ zv172) (fun _ h9 => h9) rfl (by decide +kernel) rfl rfl (Nat.le_of_ble_eq_true rfl) dX9_shorten_32 (fun H locs hP hD hS => ?_)
        have hP : va_P (dC, dI) vwCl [(h0, .inr (9, mX9 h1 h2 (upd v0 3 z31))), (h2, zi k2 12 f2)] H := hP
        have hD : va_D A [(h0, .inr (9, mX9 h1 h2 (upd v0 3 z31))), (h2, zi k2 12 f2)] := hD
        refine lv_aload_n hx hb dX9_shorten_35 rfl (lv_at hl 0 rfl) ?_
        refine va_get (D := (dC, dI)) (ci := 9) (v := .ref h2) (C := RX9) (T := TX9) (N := 4) hx hb hG zuX9 hown hK hP 0 rfl rfl 1 (by decide) (hG _ zv170) (fun _ h9 => h9) rfl dX9_shorten_36 ?_
        refine lv_aload_n hx hb dX9_shorten_39 rfl (lv_at hl 0 rfl) ?_
        refine va_get (D := (dC, dI)) (ci := 9) (v := .int z31) (C := RX9) (T := TX9) (N := 4) hx hb hG zuX9 hown hK hP 0 rfl rfl 3 (by decide) (hG _ zv172) (fun _ h9 => h9) rfl dX9_shorten_40 ?_
        refine lv_iconst (v := 1) hx hb dX9_shorten_43 (by decide) ?_
        refine lv_isub hx hb dX9_shorten_44 ?_
        refine lv_topi (fun z44 e_z44 => ?_)
        have b_ := zsub rfl zk_1 e_z44 (by omega) (by omega)
        refine lv_bipush (v := 121) hx hb dX9_shorten_45 (by decide) ?_
        refine va_bast hx hb hK hP hD hS 1 0 rfl rfl (zin_lit ⟨by omega, by omega⟩) dX9_shorten_47 (fun H locs hP hD hS => ?_)
        obtain ⟨f_47, e_f_47⟩ : ∃ z : Nat → Int32, z = upd f2 (z44 : Int32).toNatClampNeg (vp_nar .byte 121) := ⟨_, rfl⟩
        have hP : va_P (dC, dI) vwCl [(h0, .inr (9, mX9 h1 h2 (upd v0 3 z31))), (h2, zi k2 12 f_47)] H := by rw [e_f_47]; exact hP
        have hD : va_D A [(h0, .inr (9, mX9 h1 h2 (upd v0 3 z31))), (h2, zi k2 12 f_47)] := by rw [e_f_47]; exact hD
        refine lv_goto (tgt := 166) hx hb dX9_shorten_48 (by decide) ?_
        refine W.widen (k := 0) (n := 0) (by decide) (by decide) ?_
        have hpost : (0 ≤ z31.toInt ∧ z31.toInt ≤ 12) ∧ (z31.toInt = (zshm (fun k => (f2 k).toInt) ((v0 3).toInt).toNat : Int)) := ⟨(by first | with_reducible assumption | exact ⟨by omega, by omega⟩), by first | exact zsm1 hhd (by omega) (by omega) | exact zsm2 hhd hie (by omega) (by omega) | exact zsm3 hhd hie hin (by omega) (by omega) | exact zsm4 hhd hie hin hed (by omega) (by omega) | exact zsm5 hhd hie hin hed hes (by omega) (by omega) | exact zsm6 hhd hie hin hed hes (by omega) (by omega)⟩
        have hP9 : va_P (dC, dI) vwCl [(h0, .inr (9, mX9 h1 h2 (upd v0 3 z31))), (h2, zi k2 12 f_47)] H := hP
        have hD9 : va_D A [(h0, .inr (9, mX9 h1 h2 (upd v0 3 z31))), (h2, zi k2 12 f_47)] := hD
        have hB0 : ∀ k : Nat, (f_47 k).toInt = zshl (fun k => (f2 k).toInt) ((v0 3).toInt).toNat k := by first | exact zsl1 hhd | exact zsl3 hie | (rw [e_f_47]; exact zsl2 hhd hie (by omega) (by omega))
        exact W.vret hx hb hr (fun t ht hW => ⟨⟨(fun i => ([z31] : List (Int32)).getD i 0), rfl, hpost, (fun _ => 0), (fun i => ([f_47] : List (Nat → Int32)).getD i (fun _ => 0)), (fun _ => (fun _ => 0)), hB0, by rw [ht]; exact hP9, va_K.moved hW.alike hK, hD9⟩, hS.F ht⟩) hS.2.2 dX9_shorten_166
  · skip
    have b_ := zF_eq rfl zk_0 c_
    have hhd : zhd (fun k => (f2 k).toInt) (v0 3).toInt.toNat = true := by first | exact hX1_0 (by omega)
    refine W.widen (k := 0) (n := 0) (by decide) (by decide) ?_
    have hpost : (0 ≤ (v0 3).toInt ∧ (v0 3).toInt ≤ 12) ∧ ((v0 3).toInt = (zshm (fun k => (f2 k).toInt) ((v0 3).toInt).toNat : Int)) := ⟨(by first | with_reducible assumption | exact ⟨by omega, by omega⟩), by first | exact zsm1 hhd (by omega) (by omega) | exact zsm2 hhd hie (by omega) (by omega) | exact zsm3 hhd hie hin (by omega) (by omega) | exact zsm4 hhd hie hin hed (by omega) (by omega) | exact zsm5 hhd hie hin hed hes (by omega) (by omega) | exact zsm6 hhd hie hin hed hes (by omega) (by omega)⟩
    have hP9 : va_P (dC, dI) vwCl [(h0, .inr (9, mX9 h1 h2 (upd v0 3 (v0 3)))), (h2, zi k2 12 f2)] H := hP
    have hD9 : va_D A [(h0, .inr (9, mX9 h1 h2 (upd v0 3 (v0 3)))), (h2, zi k2 12 f2)] := hD
    have hB0 : ∀ k : Nat, (f2 k).toInt = zshl (fun k => (f2 k).toInt) ((v0 3).toInt).toNat k := by first | exact zsl1 hhd | exact zsl3 hie | (rw [e_f_47]; exact zsl2 hhd hie (by omega) (by omega))
    exact W.vret hx hb hr (fun t ht hW => ⟨⟨(fun i => ([(v0 3)] : List (Int32)).getD i 0), rfl, hpost, (fun _ => 0), (fun i => ([f2] : List (Nat → Int32)).getD i (fun _ => 0)), (fun _ => (fun _ => 0)), hB0, by rw [ht]; exact hP9, va_K.moved hW.alike hK, hD9⟩, hS.F ht⟩) hS.2.2 dX9_shorten_7
set_option maxHeartbeats 8000000 in
set_option maxRecDepth 100000 in
theorem sX10_pack_0 (l : Launch) (dC : Nat → ClassId) (dI : Nat → Nat → Nat) (adK adV : Nat → Nat) (h0 : Nat) (k0 : ClassId) (sz : Nat) (f0 : Nat → Int32) (x1 : Int32) : Met l yX10_pack (zw yX10_pack cX10_pack 5 (some .long)) { frames := 0, cells := 0, slots := 0, locals := 0 } (zPc dC dI adK adV [.ref h0, .int x1] sz [(h0, zi k0 12 f0)] [(k0, .byte)]) (va_Ql (fun (r : Int64) (u : Nat → Int32) => (zpV f0 x1.toInt → r.toInt = zpk (fun k => (f0 k).toInt) (x1.toInt).toNat 12)) (fun (u : Nat → Int32) (t : State) => ∃ (ww : Nat → Int64) (aa : Nat → Nat → Int32) (bb : Nat → Nat → Int64), va_P (dC, dI) vwCl [(h0, zi k0 12 f0)] t.heap ∧ va_K (dC, dI) vwCl [(k0, .byte)] t ∧ va_D (va_A [(h0, zi k0 12 f0)] sz) [(h0, zi k0 12 f0)]) (va_A [(h0, zi k0 12 f0)] sz)) 0 0 (va_A [(h0, zi k0 12 f0)] sz) := by
  refine Met.ofW (cc := cX10_pack) (maxL := 5) (ret := (some .long)) (by decide) rfl ?_
  intro p e s m args below meth c s₁ B hml hv
  obtain ⟨rfl, hsz, hP, hK, hD0, hE, hZ⟩ := hv
  have hx := B.exec
  have hb := B.bytes
  have hr := B.returns
  have hG : ∀ w ∈ zG, w.before _ s = true := fun w h => atoms_spec (ws := (zw yX10_pack cX10_pack 5 (some .long))) B.pre w (List.mem_cons_of_mem _ h)
  have hown : s.vm.findClass RX10 = some m.cls := findClass_of_methodNamed B.named
  have hlocks := B.notSynchronized

  subst hsz
  have hD := hD0.self (sz := s.heap.size)
  generalize hAe : va_A [(h0, zi k0 12 f0)] s.heap.size = A at hD hZ ⊢
  have hA : ∀ q : Nat, s.heap.size ≤ q → A q := fun q h => by rw [← hAe]; exact Or.inr h
  have hS : va_S A s.heap s.heap [] := va_S.rf
  have hl := lv_entry ([.ref h0, .int x1]) (n := 5) (Nat.le_of_ble_eq_true rfl)
  rw [lg_entry_eq]
  generalize (lg_sl ([.ref h0, .int x1]) ++ List.replicate (5 - (lg_sl ([.ref h0, .int x1])).length) Slot.unset).toArray = ls at hl ⊢
  have hl : lv_has ls 5 [(0, .ref h0), (1, .int x1)] := hl
  have b_ := zk_0
  refine lv_lconst (v := 0) hx hb dX10_pack_0 (by decide) ?_
  refine lv_lstore_n (lv' := [(2, .long 0), (0, .ref h0), (1, .int x1)]) hx hb dX10_pack_1 rfl hl (by decide) rfl (fun ls hl => ?_)
  refine lv_iconst (v := 0) hx hb dX10_pack_2 (by decide) ?_
  refine lv_istore (lv' := [(4, .int 0), (2, .long 0), (0, .ref h0), (1, .int x1)]) hx hb dX10_pack_3 hl (by decide) rfl (fun ls hl => ?_)
  refine zcutL (fun u5_ => (12 - (u5_ 0).toInt).toNat) (fun H locs ls u5_ w5_ a5_ b5_ => va_P (dC, dI) vwCl [(h0, zi k0 12 f0)] H ∧ va_D A [(h0, zi k0 12 f0)] ∧ va_S A s.heap H locs ∧ lv_has ls 5 [(0, .ref h0), (1, .int x1), (2, .long (w5_ 0)), (4, .int (u5_ 0))] ∧ (0 ≤ (u5_ 0).toInt ∧ (u5_ 0).toInt ≤ 12) ∧ (zpV f0 x1.toInt → (w5_ 0).toInt = zpk (fun k => (f0 k).toInt) (x1.toInt).toNat ((u5_ 0).toInt).toNat)) (fun ls u5_ w5_ => F0 m 5 ls []) 0 0 ?_ (fun hJ5 => ?_)
  · skip
    intro H locs ls u5_ w5_ a5_ b5_ hc hJ5
    obtain ⟨hP, hD, hS, hl, b_, hI5_0⟩ := hc
    refine lv_iload hx hb dX10_pack_5 (lv_at hl 3 rfl) ?_
    refine lv_bipush (v := 12) hx hb dX10_pack_7 (by decide) ?_
    refine lv_icmp_ge (tgt := 73) hx hb dX10_pack_9 (by decide) (fun c_ => ?_) (fun c_ => ?_)
    · skip
      have b_ := zT_ge rfl zk_12 c_
      refine lv_lload_n hx hb dX10_pack_73 rfl (lv_at hl 2 rfl) ?_
      refine W.widen (k := 0) (n := 0) (by decide) (by decide) ?_
      have hpost : (zpV f0 x1.toInt → (w5_ 0).toInt = zpk (fun k => (f0 k).toInt) (x1.toInt).toNat 12) := by (intro q; have q1 := hI5_0 q; rw [show (12 : Nat) = ((u5_ 0).toInt).toNat from by omega]; exact q1)
      have hP9 : va_P (dC, dI) vwCl [(h0, zi k0 12 f0)] H := hP
      have hD9 : va_D A [(h0, zi k0 12 f0)] := hD
      exact W.lret (v := (w5_ 0)) hx hb hr (fun t ht hW => ⟨⟨(w5_ 0), (fun _ => 0), rfl, hpost, (fun _ => 0), (fun _ => (fun _ => 0)), (fun _ => (fun _ => 0)), by rw [ht]; exact hP9, va_K.moved hW.alike hK, hD9⟩, hS.F ht⟩) hS.2.2 dX10_pack_74
    · skip
      have b_ := zF_ge rfl zk_12 c_
      refine lv_lload_n hx hb dX10_pack_12 rfl (lv_at hl 2 rfl) ?_
      refine lv_ldc2 hx hb hown (hG _ zv734) dX10_pack_13 ?_
      refine lv_lmul hx hb dX10_pack_16 ?_
      refine lv_topl (fun y_16 e_y_16 => ?_)
      refine lv_lstore_n (lv' := [(2, .long y_16), (0, .ref h0), (1, .int x1), (4, .int (u5_ 0))]) hx hb dX10_pack_17 rfl hl (by decide) rfl (fun ls hl => ?_)
      refine lv_iload hx hb dX10_pack_18 (lv_at hl 3 rfl) ?_
      refine lv_iload_n hx hb dX10_pack_20 rfl (lv_at hl 2 rfl) ?_
      have b_ : -2147483648 ≤ x1.toInt ∧ x1.toInt ≤ 2147483647 := ⟨zlo _, zhi _⟩
      refine lv_icmp_ge (tgt := 67) hx hb dX10_pack_21 (by decide) (fun c_ => ?_) (fun c_ => ?_)
      · skip
        have b_ := zT_ge rfl rfl c_
        obtain ⟨z67, e_z67⟩ : ∃ z : Int32, z = (u5_ 0) + Int32.ofInt 1 := ⟨_, rfl⟩
        have b_ := zadd (x := (u5_ 0)) (y := Int32.ofInt 1) rfl (show (Int32.ofInt 1).toInt = 1 from by decide) e_z67 (by omega) (by omega)
        refine lv_iinc (v := z67) (lv' := [(4, .int z67), (2, .long y_16), (0, .ref h0), (1, .int x1)]) hx hb dX10_pack_67 hl (k := 3) rfl e_z67.symm (by decide) rfl (fun ls hl => ?_)
        refine lv_goto (tgt := 5) hx hb dX10_pack_70 (by decide) ?_
        have hc : va_P (dC, dI) vwCl [(h0, zi k0 12 f0)] H ∧ va_D A [(h0, zi k0 12 f0)] ∧ va_S A s.heap H locs ∧ lv_has ls 5 [(0, .ref h0), (1, .int x1), (2, .long y_16), (4, .int z67)] ∧ (0 ≤ z67.toInt ∧ z67.toInt ≤ 12) ∧ (zpV f0 x1.toInt → y_16.toInt = zpk (fun k => (f0 k).toInt) (x1.toInt).toNat (z67.toInt).toNat) := ⟨hP, hD, hS, lv_sub hl [2, 3, 1, 0] rfl, (by first | with_reducible assumption | exact ⟨by omega, by omega⟩), by first | exact zpk_0 (by decide) (by omega) | exact zpk_s0 (by assumption) e_y_16 (by omega) (by omega) (by omega) (by omega) | exact zpk_sA (by assumption) e_y_16 e_y_51 e_y_65 _ (zclamp (by omega)) e_z35 e_z44 e_z47 e_z50 (by omega) (by omega) (by omega) (by omega) (by omega) | exact zpk_sB (by assumption) e_y_16 e_y_64 e_y_65 _ (zclamp (by omega)) e_z35 e_z58 e_z61 e_z63 (by omega) (by omega) (by omega) (by omega) (by omega)⟩
        exact hJ5 H locs ls (fun i => ([z67] : List (Int32)).getD i 0) (fun i => ([y_16] : List (Int64)).getD i 0) (fun _ => (fun _ => 0)) (fun _ => (fun _ => 0)) hc (show (12 - z67.toInt).toNat < (12 - (u5_ 0).toInt).toNat from by omega)
      · skip
        have b_ := zF_ge rfl rfl c_
        refine lv_iload hx hb dX10_pack_24 (lv_at hl 3 rfl) ?_
        refine lv_aload_n hx hb dX10_pack_26 rfl (lv_at hl 1 rfl) ?_
        refine va_alen (v := 12) hx hb hK hP 0 0 rfl rfl (show Int32.ofNat 12 = 12 from by decide +kernel) dX10_pack_27 ?_
        refine lv_icmp_ge (tgt := 67) hx hb dX10_pack_28 (by decide) (fun c_ => False.elim (by have b_ := zT_ge rfl zk_12 c_; omega)) (fun c_ => ?_)
        have b_ := zF_ge rfl zk_12 c_
        refine lv_lload_n hx hb dX10_pack_31 rfl (lv_at hl 0 rfl) ?_
        refine lv_aload_n hx hb dX10_pack_32 rfl (lv_at hl 1 rfl) ?_
        refine lv_iload hx hb dX10_pack_33 (lv_at hl 3 rfl) ?_
        refine va_bald hx hb hK hP 0 0 rfl rfl (zin_lit ⟨by omega, by omega⟩) dX10_pack_35 ?_
        refine lv_topi (fun z35 e_z35 => ?_)
        refine lv_bipush (v := 97) hx hb dX10_pack_36 (by decide) ?_
        have b_ : -2147483648 ≤ z35.toInt ∧ z35.toInt ≤ 2147483647 := ⟨zlo _, zhi _⟩
        refine lv_icmp_lt (tgt := 55) hx hb dX10_pack_38 (by decide) (fun c_ => ?_) (fun c_ => ?_)
        · skip
          have b_ := zT_lt rfl zk_97 c_
          refine lv_aload_n hx hb dX10_pack_55 rfl (lv_at hl 1 rfl) ?_
          refine lv_iload hx hb dX10_pack_56 (lv_at hl 3 rfl) ?_
          refine va_bald hx hb hK hP 0 0 rfl rfl (zin_lit ⟨by omega, by omega⟩) dX10_pack_58 ?_
          refine lv_topi (fun z58 e_z58 => ?_)
          refine lv_bipush (v := 48) hx hb dX10_pack_59 (by decide) ?_
          have b_ : -2147483648 ≤ z58.toInt ∧ z58.toInt ≤ 2147483647 := ⟨zlo _, zhi _⟩
          refine lv_isub hx hb dX10_pack_61 ?_
          refine lv_topi (fun z61 e_z61 => ?_)
          refine lv_iconst (v := 1) hx hb dX10_pack_62 (by decide) ?_
          have b_ : -2147483648 ≤ z61.toInt ∧ z61.toInt ≤ 2147483647 := ⟨zlo _, zhi _⟩
          refine lv_iadd hx hb dX10_pack_63 ?_
          refine lv_topi (fun z63 e_z63 => ?_)
          refine lv_i2l hx hb dX10_pack_64 rfl ?_
          refine lv_topl (fun y_64 e_y_64 => ?_)
          refine lv_ladd hx hb dX10_pack_65 ?_
          refine lv_topl (fun y_65 e_y_65 => ?_)
          refine lv_lstore_n (lv' := [(2, .long y_65), (0, .ref h0), (1, .int x1), (4, .int (u5_ 0))]) hx hb dX10_pack_66 rfl hl (by decide) rfl (fun ls hl => ?_)
          obtain ⟨z67, e_z67⟩ : ∃ z : Int32, z = (u5_ 0) + Int32.ofInt 1 := ⟨_, rfl⟩
          have b_ := zadd (x := (u5_ 0)) (y := Int32.ofInt 1) rfl (show (Int32.ofInt 1).toInt = 1 from by decide) e_z67 (by omega) (by omega)
          refine lv_iinc (v := z67) (lv' := [(4, .int z67), (2, .long y_65), (0, .ref h0), (1, .int x1)]) hx hb dX10_pack_67 hl (k := 3) rfl e_z67.symm (by decide) rfl (fun ls hl => ?_)
          refine lv_goto (tgt := 5) hx hb dX10_pack_70 (by decide) ?_
          have hc : va_P (dC, dI) vwCl [(h0, zi k0 12 f0)] H ∧ va_D A [(h0, zi k0 12 f0)] ∧ va_S A s.heap H locs ∧ lv_has ls 5 [(0, .ref h0), (1, .int x1), (2, .long y_65), (4, .int z67)] ∧ (0 ≤ z67.toInt ∧ z67.toInt ≤ 12) ∧ (zpV f0 x1.toInt → y_65.toInt = zpk (fun k => (f0 k).toInt) (x1.toInt).toNat (z67.toInt).toNat) := ⟨hP, hD, hS, lv_sub hl [2, 3, 1, 0] rfl, (by first | with_reducible assumption | exact ⟨by omega, by omega⟩), by first | exact zpk_0 (by decide) (by omega) | exact zpk_s0 (by assumption) e_y_16 (by omega) (by omega) (by omega) (by omega) | exact zpk_sA (by assumption) e_y_16 e_y_51 e_y_65 _ (zclamp (by omega)) e_z35 e_z44 e_z47 e_z50 (by omega) (by omega) (by omega) (by omega) (by omega) | exact zpk_sB (by assumption) e_y_16 e_y_64 e_y_65 _ (zclamp (by omega)) e_z35 e_z58 e_z61 e_z63 (by omega) (by omega) (by omega) (by omega) (by omega)⟩
          exact hJ5 H locs ls (fun i => ([z67] : List (Int32)).getD i 0) (fun i => ([y_65] : List (Int64)).getD i 0) (fun _ => (fun _ => 0)) (fun _ => (fun _ => 0)) hc (show (12 - z67.toInt).toNat < (12 - (u5_ 0).toInt).toNat from by omega)
        · skip
          have b_ := zF_lt rfl zk_97 c_
          refine lv_aload_n hx hb dX10_pack_41 rfl (lv_at hl 1 rfl) ?_
          refine lv_iload hx hb dX10_pack_42 (lv_at hl 3 rfl) ?_
          refine va_bald hx hb hK hP 0 0 rfl rfl (zin_lit ⟨by omega, by omega⟩) dX10_pack_44 ?_
          refine lv_topi (fun z44 e_z44 => ?_)
          refine lv_bipush (v := 97) hx hb dX10_pack_45 (by decide) ?_
          have b_ : -2147483648 ≤ z44.toInt ∧ z44.toInt ≤ 2147483647 := ⟨zlo _, zhi _⟩
          refine lv_isub hx hb dX10_pack_47 ?_
          refine lv_topi (fun z47 e_z47 => ?_)
          refine lv_bipush (v := 11) hx hb dX10_pack_48 (by decide) ?_
          have b_ : -2147483648 ≤ z47.toInt ∧ z47.toInt ≤ 2147483647 := ⟨zlo _, zhi _⟩
          refine lv_iadd hx hb dX10_pack_50 ?_
          refine lv_topi (fun z50 e_z50 => ?_)
          refine lv_i2l hx hb dX10_pack_51 rfl ?_
          refine lv_topl (fun y_51 e_y_51 => ?_)
          refine lv_goto (tgt := 65) hx hb dX10_pack_52 (by decide) ?_
          refine lv_ladd hx hb dX10_pack_65 ?_
          refine lv_topl (fun y_65 e_y_65 => ?_)
          refine lv_lstore_n (lv' := [(2, .long y_65), (0, .ref h0), (1, .int x1), (4, .int (u5_ 0))]) hx hb dX10_pack_66 rfl hl (by decide) rfl (fun ls hl => ?_)
          obtain ⟨z67, e_z67⟩ : ∃ z : Int32, z = (u5_ 0) + Int32.ofInt 1 := ⟨_, rfl⟩
          have b_ := zadd (x := (u5_ 0)) (y := Int32.ofInt 1) rfl (show (Int32.ofInt 1).toInt = 1 from by decide) e_z67 (by omega) (by omega)
          refine lv_iinc (v := z67) (lv' := [(4, .int z67), (2, .long y_65), (0, .ref h0), (1, .int x1)]) hx hb dX10_pack_67 hl (k := 3) rfl e_z67.symm (by decide) rfl (fun ls hl => ?_)
          refine lv_goto (tgt := 5) hx hb dX10_pack_70 (by decide) ?_
          have hc : va_P (dC, dI) vwCl [(h0, zi k0 12 f0)] H ∧ va_D A [(h0, zi k0 12 f0)] ∧ va_S A s.heap H locs ∧ lv_has ls 5 [(0, .ref h0), (1, .int x1), (2, .long y_65), (4, .int z67)] ∧ (0 ≤ z67.toInt ∧ z67.toInt ≤ 12) ∧ (zpV f0 x1.toInt → y_65.toInt = zpk (fun k => (f0 k).toInt) (x1.toInt).toNat (z67.toInt).toNat) := ⟨hP, hD, hS, lv_sub hl [2, 3, 1, 0] rfl, (by first | with_reducible assumption | exact ⟨by omega, by omega⟩), by first | exact zpk_0 (by decide) (by omega) | exact zpk_s0 (by assumption) e_y_16 (by omega) (by omega) (by omega) (by omega) | exact zpk_sA (by assumption) e_y_16 e_y_51 e_y_65 _ (zclamp (by omega)) e_z35 e_z44 e_z47 e_z50 (by omega) (by omega) (by omega) (by omega) (by omega) | exact zpk_sB (by assumption) e_y_16 e_y_64 e_y_65 _ (zclamp (by omega)) e_z35 e_z58 e_z61 e_z63 (by omega) (by omega) (by omega) (by omega) (by omega)⟩
          exact hJ5 H locs ls (fun i => ([z67] : List (Int32)).getD i 0) (fun i => ([y_65] : List (Int64)).getD i 0) (fun _ => (fun _ => 0)) (fun _ => (fun _ => 0)) hc (show (12 - z67.toInt).toNat < (12 - (u5_ 0).toInt).toNat from by omega)
  · skip
    have b_ : -2147483648 ≤ x1.toInt ∧ x1.toInt ≤ 2147483647 := ⟨zlo _, zhi _⟩
    have hc : va_P (dC, dI) vwCl [(h0, zi k0 12 f0)] s.heap ∧ va_D A [(h0, zi k0 12 f0)] ∧ va_S A s.heap s.heap [] ∧ lv_has ls 5 [(0, .ref h0), (1, .int x1), (2, .long 0), (4, .int 0)] ∧ (0 ≤ (0 : Int32).toInt ∧ (0 : Int32).toInt ≤ 12) ∧ (zpV f0 x1.toInt → (0 : Int64).toInt = zpk (fun k => (f0 k).toInt) (x1.toInt).toNat ((0 : Int32).toInt).toNat) := ⟨hP, hD, hS, lv_sub hl [2, 3, 1, 0] rfl, (by first | with_reducible assumption | exact ⟨by omega, by omega⟩), by first | exact zpk_0 (by decide) (by omega) | exact zpk_s0 (by assumption) e_y_16 (by omega) (by omega) (by omega) (by omega) | exact zpk_sA (by assumption) e_y_16 e_y_51 e_y_65 _ (zclamp (by omega)) e_z35 e_z44 e_z47 e_z50 (by omega) (by omega) (by omega) (by omega) (by omega) | exact zpk_sB (by assumption) e_y_16 e_y_64 e_y_65 _ (zclamp (by omega)) e_z35 e_z58 e_z61 e_z63 (by omega) (by omega) (by omega) (by omega) (by omega)⟩
    exact hJ5 s.heap [] ls (fun i => ([0] : List (Int32)).getD i 0) (fun i => ([0] : List (Int64)).getD i 0) (fun _ => (fun _ => 0)) (fun _ => (fun _ => 0)) hc
set_option maxHeartbeats 8000000 in
set_option maxRecDepth 100000 in
theorem sX9_wordOf_0 (l : Launch) (dC : Nat → ClassId) (dI : Nat → Nat → Nat) (adK adV : Nat → Nat) (h0 : Nat) (h1 : Nat) (h2 : Nat) (k1 : ClassId) (k2 : ClassId) (sz : Nat) (v0 : Nat → Int32) (f1 : Nat → Int32) (f2 : Nat → Int32) (x1 : Int32) (hv0 : zR rg_Tape v0) : Met l yX9_wordOf (zw yX9_wordOf cX9_wordOf 2 (some .long)) { frames := 6, cells := 0, slots := 0, locals := 128 } (zPc dC dI adK adV [.ref h0, .int x1] sz [(h0, .inr (9, mX9 h1 h2 v0)), (h1, zi k1 600 f1), (h2, zi k2 12 f2)] [(k1, .byte), (k2, .byte)]) (va_Ql (fun (r : Int64) (u : Nat → Int32) => (0 ≤ (u 0).toInt ∧ (u 0).toInt ≤ 12) ∧ (0 ≤ x1.toInt → x1.toInt ≤ 600 → ∃ m : Nat, zRaw f1 (v0 2).toInt x1.toInt m ∧ r.toInt = zWrd f1 x1.toInt m)) (fun (u : Nat → Int32) (t : State) => ∃ (ww : Nat → Int64) (aa : Nat → Nat → Int32) (bb : Nat → Nat → Int64), va_P (dC, dI) vwCl [(h0, .inr (9, mX9 h1 h2 (upd v0 3 (u 0)))), (h1, zi k1 600 f1), (h2, zi k2 12 (aa 0))] t.heap ∧ va_K (dC, dI) vwCl [(k1, .byte), (k2, .byte)] t ∧ va_D (va_A [(h0, .inr (9, mX9 h1 h2 v0)), (h1, zi k1 600 f1), (h2, zi k2 12 f2)] sz) [(h0, .inr (9, mX9 h1 h2 (upd v0 3 (u 0)))), (h1, zi k1 600 f1), (h2, zi k2 12 (aa 0))]) (va_A [(h0, .inr (9, mX9 h1 h2 v0)), (h1, zi k1 600 f1), (h2, zi k2 12 f2)] sz)) 0 0 (va_A [(h0, .inr (9, mX9 h1 h2 v0)), (h1, zi k1 600 f1), (h2, zi k2 12 f2)] sz) := by
  refine Met.ofW (cc := cX9_wordOf) (maxL := 2) (ret := (some .long)) (by decide) rfl ?_
  intro p e s m args below meth c s₁ B hml hv
  obtain ⟨rfl, hsz, hP, hK, hD0, hE, hZ⟩ := hv
  have hx := B.exec
  have hb := B.bytes
  have hr := B.returns
  have hG : ∀ w ∈ zG, w.before _ s = true := fun w h => atoms_spec (ws := (zw yX9_wordOf cX9_wordOf 2 (some .long))) B.pre w (List.mem_cons_of_mem _ h)
  have hown : s.vm.findClass RX9 = some m.cls := findClass_of_methodNamed B.named
  have hlocks := B.notSynchronized

  subst hsz
  have hD := hD0.self (sz := s.heap.size)
  generalize hAe : va_A [(h0, .inr (9, mX9 h1 h2 v0)), (h1, zi k1 600 f1), (h2, zi k2 12 f2)] s.heap.size = A at hD hZ ⊢
  have hA : ∀ q : Nat, s.heap.size ≤ q → A q := fun q h => by rw [← hAe]; exact Or.inr h
  have hS : va_S A s.heap s.heap [] := va_S.rf
  have hl := lv_entry ([.ref h0, .int x1]) (n := 2) (Nat.le_of_ble_eq_true rfl)
  rw [lg_entry_eq]
  generalize (lg_sl ([.ref h0, .int x1]) ++ List.replicate (2 - (lg_sl ([.ref h0, .int x1])).length) Slot.unset).toArray = ls at hl ⊢
  have hl : lv_has ls 2 [(0, .ref h0), (1, .int x1)] := hl
  have b_ : 0 ≤ (v0 2).toInt ∧ (v0 2).toInt ≤ 600 := hv0 2
  refine lv_aload_n hx hb dX9_wordOf_0 rfl (lv_at hl 0 rfl) ?_
  refine lv_iload_n hx hb dX9_wordOf_1 rfl (lv_at hl 1 rfl) ?_
  have hPc := hP.sub (ws' := [(h0, .inr (9, mX9 h1 h2 v0)), (h1, zi k1 600 f1), (h2, zi k2 12 f2)]) [0, 1, 2] rfl
  have hDc := hD.sub (ws' := [(h0, .inr (9, mX9 h1 h2 v0)), (h1, zi k1 600 f1), (h2, zi k2 12 f2)]) [0, 1, 2] (by decide) rfl
  have hKc := hK.sub (tys' := [(k1, .byte), (k2, .byte)]) [0, 1] rfl
  have hFc := va_free (wc := [(h0, .inr (9, mX9 h1 h2 v0)), (h1, zi k1 600 f1), (h2, zi k2 12 f2)]) hD hS hA [0, 1, 2] rfl
  refine va_callv (va_runV (As := [.int x1]) (rest := []) ⟨hx, hb, hml, hown, hG⟩ (sX9_readLetters_0 l dC dI adK adV h0 h1 h2 k1 k2 s.heap.size v0 f1 f2 x1 hv0) (cwV 1 hG (zgV zv656 zv658 zv1 zv130 zv659) rfl rfl rfl (by decide +kernel) ⟨Nat.le_of_ble_eq_true rfl, Nat.le_of_ble_eq_true rfl⟩) ⟨zPc_blind, va_recv hKc hPc (ci := 9) (q0 := 0) rfl rfl, zPc_pre hPc hKc hDc hE hS hFc hZ⟩ rfl rfl hl.1 rfl (lv_room (Nat.le_of_ble_eq_true rfl)) dX9_wordOf_2 ⟨Nat.le_of_ble_eq_true rfl, Nat.le_of_ble_eq_true rfl⟩) hS (fun q _ h => hFc q h) hFc (fun u2_ t H1 locs ht hvm hw hB hz1 hk1 hS => ?_)
  replace hw : (0 ≤ (u2_ 0).toInt ∧ (u2_ 0).toInt ≤ 12) := hw
  have b_ := hw
  obtain ⟨w2_, a2_, b2_, hB2_0, hB2_1, hP1, hK1, hD1⟩ := hB
  have hB2_0 : 0 ≤ x1.toInt → x1.toInt ≤ 600 → zRl f1 (v0 2).toInt x1.toInt (a2_ 0) (u2_ 0).toInt := hB2_0
  have hB2_1 : 0 ≤ x1.toInt → x1.toInt ≤ 600 → ((u2_ 0).toInt = 12 ∨ ¬ zIn f1 (v0 2).toInt (x1.toInt + (u2_ 0).toInt)) := hB2_1
  rw [ht] at hP1
  obtain ⟨hP, hD⟩ := va_join (wr := []) (w1 := [(h0, .inr (9, mX9 h1 h2 (upd v0 3 (u2_ 0)))), (h1, zi k1 600 f1), (h2, zi k2 12 (a2_ 0))]) hP hD [0, 1, 2] [] rfl rfl (by decide) (by decide) hk1 hFc hP1 hD1
  have hP : va_P (dC, dI) vwCl [(h0, .inr (9, mX9 h1 h2 (upd v0 3 (u2_ 0)))), (h1, zi k1 600 f1), (h2, zi k2 12 (a2_ 0))] H1 := hP.sub [0, 1, 2] rfl
  have hD : va_D A [(h0, .inr (9, mX9 h1 h2 (upd v0 3 (u2_ 0)))), (h1, zi k1 600 f1), (h2, zi k2 12 (a2_ 0))] := hD.sub [0, 1, 2] (by decide) rfl
  generalize H1 = H at hP hS ⊢
  clear hz1
  refine lv_aload_n hx hb dX9_wordOf_5 rfl (lv_at hl 0 rfl) ?_
  have hPc := hP.sub (ws' := [(h0, .inr (9, mX9 h1 h2 (upd v0 3 (u2_ 0)))), (h2, zi k2 12 (a2_ 0))]) [0, 2] rfl
  have hDc := hD.sub (ws' := [(h0, .inr (9, mX9 h1 h2 (upd v0 3 (u2_ 0)))), (h2, zi k2 12 (a2_ 0))]) [0, 2] (by decide) rfl
  have hKc := hK.sub (tys' := [(k2, .byte)]) [1] rfl
  have hFc := va_free (wc := [(h0, .inr (9, mX9 h1 h2 (upd v0 3 (u2_ 0)))), (h2, zi k2 12 (a2_ 0))]) hD hS hA [0, 2] rfl
  refine va_callv (va_runV (As := []) (rest := []) ⟨hx, hb, hml, hown, hG⟩ (sX9_shorten_0 l dC dI adK adV h0 h2 h1 k2 H.size (upd v0 3 (u2_ 0)) (a2_ 0) (zR_up2 hv0 3 (show (0 : Int) ≤ ((u2_ 0) : Int32).toInt ∧ ((u2_ 0) : Int32).toInt ≤ (12 : Int) from (by first | with_reducible assumption | exact ⟨by omega, by omega⟩)))) (cwV 0 hG (zgV zv664 zv666 zv2 zv130 zv667) rfl rfl rfl (by decide +kernel) ⟨Nat.le_of_ble_eq_true rfl, Nat.le_of_ble_eq_true rfl⟩) ⟨zPc_blind, va_recv hKc hPc (ci := 9) (q0 := 0) rfl rfl, zPc_pre hPc hKc hDc hE hS hFc hZ⟩ rfl rfl hl.1 rfl (lv_room (Nat.le_of_ble_eq_true rfl)) dX9_wordOf_6 ⟨Nat.le_of_ble_eq_true rfl, Nat.le_of_ble_eq_true rfl⟩) hS (fun q _ h => hFc q h) hFc (fun u6_ t H1 locs ht hvm hw hB hz1 hk1 hS => ?_)
  replace hw : (0 ≤ (u6_ 0).toInt ∧ (u6_ 0).toInt ≤ 12) ∧ ((u6_ 0).toInt = (zshm (fun k => ((a2_ 0) k).toInt) ((u2_ 0).toInt).toNat : Int)) := hw
  obtain ⟨b_, hX6_0⟩ := hw
  obtain ⟨w6_, a6_, b6_, hB6_0, hP1, hK1, hD1⟩ := hB
  have hB6_0 : ∀ k : Nat, ((a6_ 0) k).toInt = zshl (fun k => ((a2_ 0) k).toInt) ((u2_ 0).toInt).toNat k := hB6_0
  rw [ht] at hP1
  obtain ⟨hP, hD⟩ := va_join (wr := [(h1, zi k1 600 f1)]) (w1 := [(h0, .inr (9, mX9 h1 h2 (upd v0 3 (u6_ 0)))), (h2, zi k2 12 (a6_ 0))]) hP hD [0, 2] [1] rfl rfl (by decide) (by decide) hk1 hFc hP1 hD1
  have hP : va_P (dC, dI) vwCl [(h0, .inr (9, mX9 h1 h2 (upd v0 3 (u6_ 0)))), (h1, zi k1 600 f1), (h2, zi k2 12 (a6_ 0))] H1 := hP.sub [1, 0, 2] rfl
  have hD : va_D A [(h0, .inr (9, mX9 h1 h2 (upd v0 3 (u6_ 0)))), (h1, zi k1 600 f1), (h2, zi k2 12 (a6_ 0))] := hD.sub [1, 0, 2] (by decide) rfl
  generalize H1 = H at hP hS ⊢
  clear hz1
  refine lv_aload_n hx hb dX9_wordOf_9 rfl (lv_at hl 0 rfl) ?_
  refine va_get (D := (dC, dI)) (ci := 9) (v := .ref h2) (C := RX9) (T := TX9) (N := 4) hx hb hG zuX9 hown hK hP 0 rfl rfl 1 (by decide) (hG _ zv170) (fun _ h9 => h9) rfl dX9_wordOf_10 ?_
  refine lv_aload_n hx hb dX9_wordOf_13 rfl (lv_at hl 0 rfl) ?_
  refine va_get (D := (dC, dI)) (ci := 9) (v := .int (u6_ 0)) (C := RX9) (T := TX9) (N := 4) hx hb hG zuX9 hown hK hP 0 rfl rfl 3 (by decide) (hG _ zv172) (fun _ h9 => h9) rfl dX9_wordOf_14 ?_
  have hPc := hP.sub (ws' := [(h2, zi k2 12 (a6_ 0))]) [2] rfl
  have hDc := hD.sub (ws' := [(h2, zi k2 12 (a6_ 0))]) [2] (by decide) rfl
  have hKc := hK.sub (tys' := [(k2, .byte)]) [1] rfl
  have hFc := va_free (wc := [(h2, zi k2 12 (a6_ 0))]) hD hS hA [2] rfl
  refine va_calll (va_runS (As := [.ref h2, .int (u6_ 0)]) (rest := []) ⟨hx, hb, hml, hown, hG⟩ (sX10_pack_0 l dC dI adK adV h2 k2 H.size (a6_ 0) (u6_ 0)) (va_cwS 2 hG (zgS zv731 zv732 zv131 zv733) rfl rfl rfl (by decide +kernel) ⟨Nat.le_of_ble_eq_true rfl, Nat.le_of_ble_eq_true rfl⟩) ⟨zPc_blind, zPc_pre hPc hKc hDc hE hS hFc hZ⟩ rfl rfl hl.1 rfl (lv_room (Nat.le_of_ble_eq_true rfl)) dX9_wordOf_17 ⟨Nat.le_of_ble_eq_true rfl, Nat.le_of_ble_eq_true rfl⟩) hS (fun q _ h => hFc q h) hFc (fun r17_ u17_ t H1 locs ht hvm hw hB hz1 hk1 hS => ?_)
  replace hw : (zpV (a6_ 0) (u6_ 0).toInt → r17_.toInt = zpk (fun k => ((a6_ 0) k).toInt) ((u6_ 0).toInt).toNat 12) := hw
  have hX17_0 := hw
  obtain ⟨w17_, a17_, b17_, hP1, hK1, hD1⟩ := hB
  rw [ht] at hP1
  obtain ⟨hP, hD⟩ := va_join (wr := [(h0, .inr (9, mX9 h1 h2 (upd v0 3 (u6_ 0)))), (h1, zi k1 600 f1)]) (w1 := [(h2, zi k2 12 (a6_ 0))]) hP hD [2] [0, 1] rfl rfl (by decide) (by decide) hk1 hFc hP1 hD1
  have hP : va_P (dC, dI) vwCl [(h0, .inr (9, mX9 h1 h2 (upd v0 3 (u6_ 0)))), (h1, zi k1 600 f1), (h2, zi k2 12 (a6_ 0))] H1 := hP.sub [0, 1, 2] rfl
  have hD : va_D A [(h0, .inr (9, mX9 h1 h2 (upd v0 3 (u6_ 0)))), (h1, zi k1 600 f1), (h2, zi k2 12 (a6_ 0))] := hD.sub [0, 1, 2] (by decide) rfl
  generalize H1 = H at hP hS ⊢
  clear hz1
  refine W.widen (k := 0) (n := 0) (by decide) (by decide) ?_
  have hpost : (0 ≤ (u6_ 0).toInt ∧ (u6_ 0).toInt ≤ 12) ∧ (0 ≤ x1.toInt → x1.toInt ≤ 600 → ∃ m : Nat, zRaw f1 (v0 2).toInt x1.toInt m ∧ r17_.toInt = zWrd f1 x1.toInt m) := ⟨(by first | with_reducible assumption | exact ⟨by omega, by omega⟩), by exact fun p0_ p1_ => zwo9 p0_ (by omega) (hB2_0 p0_ p1_) (hB2_1 p0_ p1_) hX6_0 hB6_0 hX17_0⟩
  have hP9 : va_P (dC, dI) vwCl [(h0, .inr (9, mX9 h1 h2 (upd v0 3 (u6_ 0)))), (h1, zi k1 600 f1), (h2, zi k2 12 (a6_ 0))] H := hP
  have hD9 : va_D A [(h0, .inr (9, mX9 h1 h2 (upd v0 3 (u6_ 0)))), (h1, zi k1 600 f1), (h2, zi k2 12 (a6_ 0))] := hD
  exact W.lret (v := r17_) hx hb hr (fun t ht hW => ⟨⟨r17_, (fun i => ([(u6_ 0)] : List (Int32)).getD i 0), rfl, hpost, (fun _ => 0), (fun i => ([(a6_ 0)] : List (Nat → Int32)).getD i (fun _ => 0)), (fun _ => (fun _ => 0)), by rw [ht]; exact hP9, va_K.moved hW.alike hK, hD9⟩, hS.F ht⟩) hS.2.2 dX9_wordOf_20
set_option maxHeartbeats 8000000 in
set_option maxRecDepth 100000 in
theorem sX10_rankAhead_0 (l : Launch) (dC : Nat → ClassId) (dI : Nat → Nat → Nat) (adK adV : Nat → Nat) (h0 : Nat) (h1 : Nat) (h2 : Nat) (h3 : Nat) (h4 : Nat) (h5 : Nat) (h6 : Nat) (k1 : ClassId) (sz : Nat) (v0 : Nat → Int32) (f1 : Nat → Int64) (y1 : Int64) (hv0 : zR rg_Words10 v0) : Met l yX10_rankAhead (zw yX10_rankAhead cX10_rankAhead 6 (some .int)) { frames := 0, cells := 0, slots := 0, locals := 0 } (zPc dC dI adK adV [.ref h0, .long y1] sz [(h0, .inr (10, mX10 h1 h2 h3 h4 h5 h6 v0)), (h1, .inl (k1, 10, .inr (.inl f1)))] [(k1, .long)]) (va_Qi (fun (r : Int32) (u : Nat → Int32) => (0 ≤ r.toInt ∧ r.toInt ≤ 10) ∧ (r.toInt ≤ (v0 7).toInt) ∧ (zRk f1 (v0 7).toInt y1.toInt r.toInt r.toInt)) (fun (u : Nat → Int32) (t : State) => ∃ (ww : Nat → Int64) (aa : Nat → Nat → Int32) (bb : Nat → Nat → Int64), va_P (dC, dI) vwCl [(h0, .inr (10, mX10 h1 h2 h3 h4 h5 h6 v0)), (h1, .inl (k1, 10, .inr (.inl f1)))] t.heap ∧ va_K (dC, dI) vwCl [(k1, .long)] t ∧ va_D (va_A [(h0, .inr (10, mX10 h1 h2 h3 h4 h5 h6 v0)), (h1, .inl (k1, 10, .inr (.inl f1)))] sz) [(h0, .inr (10, mX10 h1 h2 h3 h4 h5 h6 v0)), (h1, .inl (k1, 10, .inr (.inl f1)))]) (va_A [(h0, .inr (10, mX10 h1 h2 h3 h4 h5 h6 v0)), (h1, .inl (k1, 10, .inr (.inl f1)))] sz)) 0 0 (va_A [(h0, .inr (10, mX10 h1 h2 h3 h4 h5 h6 v0)), (h1, .inl (k1, 10, .inr (.inl f1)))] sz) := by
  refine Met.ofW (cc := cX10_rankAhead) (maxL := 6) (ret := (some .int)) (by decide) rfl ?_
  intro p e s m args below meth c s₁ B hml hv
  obtain ⟨rfl, hsz, hP, hK, hD0, hE, hZ⟩ := hv
  have hx := B.exec
  have hb := B.bytes
  have hr := B.returns
  have hG : ∀ w ∈ zG, w.before _ s = true := fun w h => atoms_spec (ws := (zw yX10_rankAhead cX10_rankAhead 6 (some .int))) B.pre w (List.mem_cons_of_mem _ h)
  have hown : s.vm.findClass RX10 = some m.cls := findClass_of_methodNamed B.named
  have hlocks := B.notSynchronized

  subst hsz
  have hD := hD0.self (sz := s.heap.size)
  generalize hAe : va_A [(h0, .inr (10, mX10 h1 h2 h3 h4 h5 h6 v0)), (h1, .inl (k1, 10, .inr (.inl f1)))] s.heap.size = A at hD hZ ⊢
  have hA : ∀ q : Nat, s.heap.size ≤ q → A q := fun q h => by rw [← hAe]; exact Or.inr h
  have hS : va_S A s.heap s.heap [] := va_S.rf
  have hl := lv_entry ([.ref h0, .long y1]) (n := 6) (Nat.le_of_ble_eq_true rfl)
  rw [lg_entry_eq]
  generalize (lg_sl ([.ref h0, .long y1]) ++ List.replicate (6 - (lg_sl ([.ref h0, .long y1])).length) Slot.unset).toArray = ls at hl ⊢
  have hl : lv_has ls 6 [(0, .ref h0), (1, .long y1)] := hl
  have b_ := zk_0
  have b_ : 0 ≤ (v0 7).toInt ∧ (v0 7).toInt ≤ 10 := hv0 7
  refine lv_iconst (v := 0) hx hb dX10_rankAhead_0 (by decide) ?_
  refine lv_istore_n (lv' := [(3, .int 0), (0, .ref h0), (1, .long y1)]) hx hb dX10_rankAhead_1 rfl hl (by decide) rfl (fun ls hl => ?_)
  refine lv_aload_n hx hb dX10_rankAhead_2 rfl (lv_at hl 1 rfl) ?_
  refine va_get (D := (dC, dI)) (ci := 10) (v := .int (v0 7)) (C := RX10) (T := TX10) (N := 8) hx hb hG zuX10 hown hK hP 0 rfl rfl 7 (by decide) (hG _ zv196) (fun _ h9 => h9) rfl dX10_rankAhead_3 ?_
  refine lv_istore (lv' := [(4, .int (v0 7)), (3, .int 0), (0, .ref h0), (1, .long y1)]) hx hb dX10_rankAhead_6 hl (by decide) rfl (fun ls hl => ?_)
  refine zcutL (fun u8_ => ((u8_ 1).toInt - (u8_ 0).toInt).toNat) (fun H locs ls u8_ w8_ a8_ b8_ => va_P (dC, dI) vwCl [(h0, .inr (10, mX10 h1 h2 h3 h4 h5 h6 v0)), (h1, .inl (k1, 10, .inr (.inl f1)))] H ∧ va_D A [(h0, .inr (10, mX10 h1 h2 h3 h4 h5 h6 v0)), (h1, .inl (k1, 10, .inr (.inl f1)))] ∧ va_S A s.heap H locs ∧ lv_has ls 6 [(0, .ref h0), (1, .long y1), (3, .int (u8_ 0)), (4, .int (u8_ 1))] ∧ (0 ≤ (u8_ 0).toInt ∧ (u8_ 0).toInt ≤ 10) ∧ (0 ≤ (u8_ 1).toInt ∧ (u8_ 1).toInt ≤ 10) ∧ ((u8_ 0).toInt ≤ (u8_ 1).toInt) ∧ ((u8_ 1).toInt ≤ (v0 7).toInt) ∧ (zRk f1 (v0 7).toInt y1.toInt (u8_ 0).toInt (u8_ 1).toInt)) (fun ls u8_ w8_ => F0 m 8 ls []) 0 0 ?_ (fun hJ8 => ?_)
  · skip
    intro H locs ls u8_ w8_ a8_ b8_ hc hJ8
    obtain ⟨hP, hD, hS, hl, b_, b_, b_, b_, hI8_2⟩ := hc
    refine lv_iload_n hx hb dX10_rankAhead_8 rfl (lv_at hl 2 rfl) ?_
    refine lv_iload hx hb dX10_rankAhead_9 (lv_at hl 3 rfl) ?_
    refine lv_icmp_ge (tgt := 49) hx hb dX10_rankAhead_11 (by decide) (fun c_ => ?_) (fun c_ => ?_)
    · skip
      have b_ := zT_ge rfl rfl c_
      refine lv_iload_n hx hb dX10_rankAhead_49 rfl (lv_at hl 2 rfl) ?_
      refine W.widen (k := 0) (n := 0) (by decide) (by decide) ?_
      have hpost : (0 ≤ (u8_ 0).toInt ∧ (u8_ 0).toInt ≤ 10) ∧ ((u8_ 0).toInt ≤ (v0 7).toInt) ∧ (zRk f1 (v0 7).toInt y1.toInt (u8_ 0).toInt (u8_ 0).toInt) := ⟨(by first | with_reducible assumption | exact ⟨by omega, by omega⟩), by omega, by exact zRk_e hI8_2 (by omega) (by omega)⟩
      have hP9 : va_P (dC, dI) vwCl [(h0, .inr (10, mX10 h1 h2 h3 h4 h5 h6 v0)), (h1, .inl (k1, 10, .inr (.inl f1)))] H := hP
      have hD9 : va_D A [(h0, .inr (10, mX10 h1 h2 h3 h4 h5 h6 v0)), (h1, .inl (k1, 10, .inr (.inl f1)))] := hD
      exact W.iret (v := (u8_ 0)) hx hb hr (fun t ht hW => ⟨⟨(u8_ 0), (fun _ => 0), rfl, hpost, (fun _ => 0), (fun _ => (fun _ => 0)), (fun _ => (fun _ => 0)), by rw [ht]; exact hP9, va_K.moved hW.alike hK, hD9⟩, hS.F ht⟩) hS.2.2 dX10_rankAhead_50
    · skip
      have b_ := zF_ge rfl rfl c_
      refine lv_iload_n hx hb dX10_rankAhead_14 rfl (lv_at hl 2 rfl) ?_
      refine lv_iload hx hb dX10_rankAhead_15 (lv_at hl 3 rfl) ?_
      refine lv_iadd hx hb dX10_rankAhead_17 ?_
      refine lv_topi (fun z17 e_z17 => ?_)
      have b_ := zadd rfl rfl e_z17 (by omega) (by omega)
      refine lv_iconst (v := 2) hx hb dX10_rankAhead_18 (by decide) ?_
      refine lv_idiv hx hb dX10_rankAhead_19 (by decide) ?_
      refine lv_topi (fun z19 e_z19 => ?_)
      have b_ := zdiv rfl zk_2 e_z19 (by omega) (by decide)
      refine lv_istore (lv' := [(5, .int z19), (0, .ref h0), (1, .long y1), (3, .int (u8_ 0)), (4, .int (u8_ 1))]) hx hb dX10_rankAhead_20 hl (by decide) rfl (fun ls hl => ?_)
      refine lv_aload_n hx hb dX10_rankAhead_22 rfl (lv_at hl 1 rfl) ?_
      refine va_get (D := (dC, dI)) (ci := 10) (v := .ref h1) (C := RX10) (T := TX10) (N := 8) hx hb hG zuX10 hown hK hP 0 rfl rfl 1 (by decide) (hG _ zv190) (fun _ h9 => h9) rfl dX10_rankAhead_23 ?_
      refine lv_iload hx hb dX10_rankAhead_26 (lv_at hl 0 rfl) ?_
      refine va_lald hx hb hK hP 1 0 rfl rfl (zin_lit ⟨by omega, by omega⟩) dX10_rankAhead_28 ?_
      refine lv_topl (fun y_28 e_y_28 => ?_)
      refine lv_lload_n hx hb dX10_rankAhead_29 rfl (lv_at hl 2 rfl) ?_
      refine W.lcmp hx hb dX10_rankAhead_30 ?_
      refine lv_topi (fun z30 e_z30 => ?_)
      have b_ := zlcmp e_z30
      have b_ : -2147483648 ≤ z30.toInt ∧ z30.toInt ≤ 2147483647 := ⟨zlo _, zhi _⟩
      refine lv_if_ge (tgt := 42) hx hb dX10_rankAhead_31 (by decide) (fun c_ => ?_) (fun c_ => ?_)
      · skip
        have b_ := zT_ge rfl zk_0 c_
        refine lv_iload hx hb dX10_rankAhead_42 (lv_at hl 0 rfl) ?_
        refine lv_istore (lv' := [(4, .int z19), (5, .int z19), (0, .ref h0), (1, .long y1), (3, .int (u8_ 0))]) hx hb dX10_rankAhead_44 hl (by decide) rfl (fun ls hl => ?_)
        refine lv_goto (tgt := 8) hx hb dX10_rankAhead_46 (by decide) ?_
        have hc : va_P (dC, dI) vwCl [(h0, .inr (10, mX10 h1 h2 h3 h4 h5 h6 v0)), (h1, .inl (k1, 10, .inr (.inl f1)))] H ∧ va_D A [(h0, .inr (10, mX10 h1 h2 h3 h4 h5 h6 v0)), (h1, .inl (k1, 10, .inr (.inl f1)))] ∧ va_S A s.heap H locs ∧ lv_has ls 6 [(0, .ref h0), (1, .long y1), (3, .int (u8_ 0)), (4, .int z19)] ∧ (0 ≤ (u8_ 0).toInt ∧ (u8_ 0).toInt ≤ 10) ∧ (0 ≤ z19.toInt ∧ z19.toInt ≤ 10) ∧ ((u8_ 0).toInt ≤ z19.toInt) ∧ (z19.toInt ≤ (v0 7).toInt) ∧ (zRk f1 (v0 7).toInt y1.toInt (u8_ 0).toInt z19.toInt) := ⟨hP, hD, hS, lv_sub hl [2, 3, 4, 0] rfl, (by first | with_reducible assumption | exact ⟨by omega, by omega⟩), (by first | with_reducible assumption | exact ⟨by omega, by omega⟩), by omega, by omega, by first | exact zRk_0 (by omega) (by omega) | exact zRk_a (by assumption) e_y_28 (by omega) (by omega) (by omega) (by omega) | exact zRk_b (by assumption) e_y_28 (by omega) (by omega) (by omega)⟩
        exact hJ8 H locs ls (fun i => ([(u8_ 0), z19] : List (Int32)).getD i 0) (fun _ => 0) (fun _ => (fun _ => 0)) (fun _ => (fun _ => 0)) hc (show (z19.toInt - (u8_ 0).toInt).toNat < ((u8_ 1).toInt - (u8_ 0).toInt).toNat from by omega)
      · skip
        have b_ := zF_ge rfl zk_0 c_
        refine lv_iload hx hb dX10_rankAhead_34 (lv_at hl 0 rfl) ?_
        refine lv_iconst (v := 1) hx hb dX10_rankAhead_36 (by decide) ?_
        refine lv_iadd hx hb dX10_rankAhead_37 ?_
        refine lv_topi (fun z37 e_z37 => ?_)
        have b_ := zadd rfl zk_1 e_z37 (by omega) (by omega)
        refine lv_istore_n (lv' := [(3, .int z37), (5, .int z19), (0, .ref h0), (1, .long y1), (4, .int (u8_ 1))]) hx hb dX10_rankAhead_38 rfl hl (by decide) rfl (fun ls hl => ?_)
        refine lv_goto (tgt := 46) hx hb dX10_rankAhead_39 (by decide) ?_
        refine lv_goto (tgt := 8) hx hb dX10_rankAhead_46 (by decide) ?_
        have hc : va_P (dC, dI) vwCl [(h0, .inr (10, mX10 h1 h2 h3 h4 h5 h6 v0)), (h1, .inl (k1, 10, .inr (.inl f1)))] H ∧ va_D A [(h0, .inr (10, mX10 h1 h2 h3 h4 h5 h6 v0)), (h1, .inl (k1, 10, .inr (.inl f1)))] ∧ va_S A s.heap H locs ∧ lv_has ls 6 [(0, .ref h0), (1, .long y1), (3, .int z37), (4, .int (u8_ 1))] ∧ (0 ≤ z37.toInt ∧ z37.toInt ≤ 10) ∧ (0 ≤ (u8_ 1).toInt ∧ (u8_ 1).toInt ≤ 10) ∧ (z37.toInt ≤ (u8_ 1).toInt) ∧ ((u8_ 1).toInt ≤ (v0 7).toInt) ∧ (zRk f1 (v0 7).toInt y1.toInt z37.toInt (u8_ 1).toInt) := ⟨hP, hD, hS, lv_sub hl [2, 3, 0, 4] rfl, (by first | with_reducible assumption | exact ⟨by omega, by omega⟩), (by first | with_reducible assumption | exact ⟨by omega, by omega⟩), by omega, by omega, by first | exact zRk_0 (by omega) (by omega) | exact zRk_a (by assumption) e_y_28 (by omega) (by omega) (by omega) (by omega) | exact zRk_b (by assumption) e_y_28 (by omega) (by omega) (by omega)⟩
        exact hJ8 H locs ls (fun i => ([z37, (u8_ 1)] : List (Int32)).getD i 0) (fun _ => 0) (fun _ => (fun _ => 0)) (fun _ => (fun _ => 0)) hc (show ((u8_ 1).toInt - z37.toInt).toNat < ((u8_ 1).toInt - (u8_ 0).toInt).toNat from by omega)
  · skip
    have hc : va_P (dC, dI) vwCl [(h0, .inr (10, mX10 h1 h2 h3 h4 h5 h6 v0)), (h1, .inl (k1, 10, .inr (.inl f1)))] s.heap ∧ va_D A [(h0, .inr (10, mX10 h1 h2 h3 h4 h5 h6 v0)), (h1, .inl (k1, 10, .inr (.inl f1)))] ∧ va_S A s.heap s.heap [] ∧ lv_has ls 6 [(0, .ref h0), (1, .long y1), (3, .int 0), (4, .int (v0 7))] ∧ (0 ≤ (0 : Int32).toInt ∧ (0 : Int32).toInt ≤ 10) ∧ (0 ≤ (v0 7).toInt ∧ (v0 7).toInt ≤ 10) ∧ ((0 : Int32).toInt ≤ (v0 7).toInt) ∧ ((v0 7).toInt ≤ (v0 7).toInt) ∧ (zRk f1 (v0 7).toInt y1.toInt (0 : Int32).toInt (v0 7).toInt) := ⟨hP, hD, hS, lv_sub hl [2, 3, 1, 0] rfl, (by first | with_reducible assumption | exact ⟨by omega, by omega⟩), (by first | with_reducible assumption | exact ⟨by omega, by omega⟩), by omega, by omega, by first | exact zRk_0 (by omega) (by omega) | exact zRk_a (by assumption) e_y_28 (by omega) (by omega) (by omega) (by omega) | exact zRk_b (by assumption) e_y_28 (by omega) (by omega) (by omega)⟩
    exact hJ8 s.heap [] ls (fun i => ([0, (v0 7)] : List (Int32)).getD i 0) (fun _ => 0) (fun _ => (fun _ => 0)) (fun _ => (fun _ => 0)) hc
set_option maxHeartbeats 8000000 in
set_option maxRecDepth 100000 in
theorem sX10_rankOf_0 (l : Launch) (dC : Nat → ClassId) (dI : Nat → Nat → Nat) (adK adV : Nat → Nat) (h0 : Nat) (h1 : Nat) (h2 : Nat) (h3 : Nat) (h4 : Nat) (h5 : Nat) (h6 : Nat) (k1 : ClassId) (sz : Nat) (v0 : Nat → Int32) (f1 : Nat → Int64) (y1 : Int64) (hv0 : zR rg_Words10 v0) : Met l yX10_rankOf (zw yX10_rankOf cX10_rankOf 4 (some .int)) { frames := 1, cells := 0, slots := 0, locals := 25 } (zPc dC dI adK adV [.ref h0, .long y1] sz [(h0, .inr (10, mX10 h1 h2 h3 h4 h5 h6 v0)), (h1, .inl (k1, 10, .inr (.inl f1)))] [(k1, .long)]) (va_Qi (fun (r : Int32) (u : Nat → Int32) => ((-1) ≤ r.toInt ∧ r.toInt ≤ 9) ∧ (r.toInt < (v0 7).toInt) ∧ (zRf f1 (v0 7).toInt y1.toInt r.toInt)) (fun (u : Nat → Int32) (t : State) => ∃ (ww : Nat → Int64) (aa : Nat → Nat → Int32) (bb : Nat → Nat → Int64), va_P (dC, dI) vwCl [(h0, .inr (10, mX10 h1 h2 h3 h4 h5 h6 v0)), (h1, .inl (k1, 10, .inr (.inl f1)))] t.heap ∧ va_K (dC, dI) vwCl [(k1, .long)] t ∧ va_D (va_A [(h0, .inr (10, mX10 h1 h2 h3 h4 h5 h6 v0)), (h1, .inl (k1, 10, .inr (.inl f1)))] sz) [(h0, .inr (10, mX10 h1 h2 h3 h4 h5 h6 v0)), (h1, .inl (k1, 10, .inr (.inl f1)))]) (va_A [(h0, .inr (10, mX10 h1 h2 h3 h4 h5 h6 v0)), (h1, .inl (k1, 10, .inr (.inl f1)))] sz)) 0 0 (va_A [(h0, .inr (10, mX10 h1 h2 h3 h4 h5 h6 v0)), (h1, .inl (k1, 10, .inr (.inl f1)))] sz) := by
  refine Met.ofW (cc := cX10_rankOf) (maxL := 4) (ret := (some .int)) (by decide) rfl ?_
  intro p e s m args below meth c s₁ B hml hv
  obtain ⟨rfl, hsz, hP, hK, hD0, hE, hZ⟩ := hv
  have hx := B.exec
  have hb := B.bytes
  have hr := B.returns
  have hG : ∀ w ∈ zG, w.before _ s = true := fun w h => atoms_spec (ws := (zw yX10_rankOf cX10_rankOf 4 (some .int))) B.pre w (List.mem_cons_of_mem _ h)
  have hown : s.vm.findClass RX10 = some m.cls := findClass_of_methodNamed B.named
  have hlocks := B.notSynchronized

  subst hsz
  have hD := hD0.self (sz := s.heap.size)
  generalize hAe : va_A [(h0, .inr (10, mX10 h1 h2 h3 h4 h5 h6 v0)), (h1, .inl (k1, 10, .inr (.inl f1)))] s.heap.size = A at hD hZ ⊢
  have hA : ∀ q : Nat, s.heap.size ≤ q → A q := fun q h => by rw [← hAe]; exact Or.inr h
  have hS : va_S A s.heap s.heap [] := va_S.rf
  have hl := lv_entry ([.ref h0, .long y1]) (n := 4) (Nat.le_of_ble_eq_true rfl)
  rw [lg_entry_eq]
  generalize (lg_sl ([.ref h0, .long y1]) ++ List.replicate (4 - (lg_sl ([.ref h0, .long y1])).length) Slot.unset).toArray = ls at hl ⊢
  have hl : lv_has ls 4 [(0, .ref h0), (1, .long y1)] := hl
  have b_ := zk_m1
  have b_ : 0 ≤ (v0 7).toInt ∧ (v0 7).toInt ≤ 10 := hv0 7
  refine lv_aload_n hx hb dX10_rankOf_0 rfl (lv_at hl 0 rfl) ?_
  refine lv_lload_n hx hb dX10_rankOf_1 rfl (lv_at hl 1 rfl) ?_
  have hPc := hP.sub (ws' := [(h0, .inr (10, mX10 h1 h2 h3 h4 h5 h6 v0)), (h1, .inl (k1, 10, .inr (.inl f1)))]) [0, 1] rfl
  have hDc := hD.sub (ws' := [(h0, .inr (10, mX10 h1 h2 h3 h4 h5 h6 v0)), (h1, .inl (k1, 10, .inr (.inl f1)))]) [0, 1] (by decide) rfl
  have hKc := hK.sub (tys' := [(k1, .long)]) [0] rfl
  have hFc := va_free (wc := [(h0, .inr (10, mX10 h1 h2 h3 h4 h5 h6 v0)), (h1, .inl (k1, 10, .inr (.inl f1)))]) hD hS hA [0, 1] rfl
  refine va_calli (va_runV (As := [.long y1]) (rest := []) ⟨hx, hb, hml, hown, hG⟩ (sX10_rankAhead_0 l dC dI adK adV h0 h1 h2 h3 h4 h5 h6 k1 s.heap.size v0 f1 y1 hv0) (cwV 1 hG (zgV zv743 zv744 zv745 zv131 zv746) rfl rfl rfl (by decide +kernel) ⟨Nat.le_of_ble_eq_true rfl, Nat.le_of_ble_eq_true rfl⟩) ⟨zPc_blind, va_recv hKc hPc (ci := 10) (q0 := 0) rfl rfl, zPc_pre hPc hKc hDc hE hS hFc hZ⟩ rfl rfl hl.1 rfl (lv_room (Nat.le_of_ble_eq_true rfl)) dX10_rankOf_2 ⟨Nat.le_of_ble_eq_true rfl, Nat.le_of_ble_eq_true rfl⟩) hS (fun q _ h => hFc q h) hFc (fun r2_ u2_ t H1 locs ht hvm hw hB hz1 hk1 hS => ?_)
  replace hw : (0 ≤ r2_.toInt ∧ r2_.toInt ≤ 10) ∧ (r2_.toInt ≤ (v0 7).toInt) ∧ (zRk f1 (v0 7).toInt y1.toInt r2_.toInt r2_.toInt) := hw
  obtain ⟨b_, hX2_0, hX2_1⟩ := hw
  obtain ⟨w2_, a2_, b2_, hP1, hK1, hD1⟩ := hB
  rw [ht] at hP1
  obtain ⟨hP, hD⟩ := va_join (wr := []) (w1 := [(h0, .inr (10, mX10 h1 h2 h3 h4 h5 h6 v0)), (h1, .inl (k1, 10, .inr (.inl f1)))]) hP hD [0, 1] [] rfl rfl (by decide) (by decide) hk1 hFc hP1 hD1
  have hP : va_P (dC, dI) vwCl [(h0, .inr (10, mX10 h1 h2 h3 h4 h5 h6 v0)), (h1, .inl (k1, 10, .inr (.inl f1)))] H1 := hP.sub [0, 1] rfl
  have hD : va_D A [(h0, .inr (10, mX10 h1 h2 h3 h4 h5 h6 v0)), (h1, .inl (k1, 10, .inr (.inl f1)))] := hD.sub [0, 1] (by decide) rfl
  generalize H1 = H at hP hS ⊢
  clear hz1
  refine lv_istore_n (lv' := [(3, .int r2_), (0, .ref h0), (1, .long y1)]) hx hb dX10_rankOf_5 rfl hl (by decide) rfl (fun ls hl => ?_)
  refine lv_iload_n hx hb dX10_rankOf_6 rfl (lv_at hl 0 rfl) ?_
  refine lv_aload_n hx hb dX10_rankOf_7 rfl (lv_at hl 1 rfl) ?_
  refine va_get (D := (dC, dI)) (ci := 10) (v := .int (v0 7)) (C := RX10) (T := TX10) (N := 8) hx hb hG zuX10 hown hK hP 0 rfl rfl 7 (by decide) (hG _ zv196) (fun _ h9 => h9) rfl dX10_rankOf_8 ?_
  refine lv_icmp_ge (tgt := 29) hx hb dX10_rankOf_11 (by decide) (fun c_ => ?_) (fun c_ => ?_)
  · skip
    have b_ := zT_ge rfl rfl c_
    refine lv_iconst (v := (-1)) hx hb dX10_rankOf_29 (by decide) ?_
    refine W.widen (k := 0) (n := 0) (by decide) (by decide) ?_
    have hpost : ((-1) ≤ ((-1) : Int32).toInt ∧ ((-1) : Int32).toInt ≤ 9) ∧ (((-1) : Int32).toInt < (v0 7).toInt) ∧ (zRf f1 (v0 7).toInt y1.toInt ((-1) : Int32).toInt) := ⟨(by first | with_reducible assumption | exact ⟨by omega, by omega⟩), by omega, by first | exact zRf_1 hX2_1 (by omega) (by omega) | exact zRf_2 e_y_19 (by omega) (by omega) (by omega) | exact zRf_3 hX2_1 e_y_19 (by omega) (by omega) (by omega) (by omega)⟩
    have hP9 : va_P (dC, dI) vwCl [(h0, .inr (10, mX10 h1 h2 h3 h4 h5 h6 v0)), (h1, .inl (k1, 10, .inr (.inl f1)))] H := hP
    have hD9 : va_D A [(h0, .inr (10, mX10 h1 h2 h3 h4 h5 h6 v0)), (h1, .inl (k1, 10, .inr (.inl f1)))] := hD
    exact W.iret (v := (-1)) hx hb hr (fun t ht hW => ⟨⟨(-1), (fun _ => 0), rfl, hpost, (fun _ => 0), (fun _ => (fun _ => 0)), (fun _ => (fun _ => 0)), by rw [ht]; exact hP9, va_K.moved hW.alike hK, hD9⟩, hS.F ht⟩) hS.2.2 dX10_rankOf_30
  · skip
    have b_ := zF_ge rfl rfl c_
    refine lv_aload_n hx hb dX10_rankOf_14 rfl (lv_at hl 1 rfl) ?_
    refine va_get (D := (dC, dI)) (ci := 10) (v := .ref h1) (C := RX10) (T := TX10) (N := 8) hx hb hG zuX10 hown hK hP 0 rfl rfl 1 (by decide) (hG _ zv190) (fun _ h9 => h9) rfl dX10_rankOf_15 ?_
    refine lv_iload_n hx hb dX10_rankOf_18 rfl (lv_at hl 0 rfl) ?_
    refine va_lald hx hb hK hP 1 0 rfl rfl (zin_lit ⟨by omega, by omega⟩) dX10_rankOf_19 ?_
    refine lv_topl (fun y_19 e_y_19 => ?_)
    refine lv_lload_n hx hb dX10_rankOf_20 rfl (lv_at hl 2 rfl) ?_
    refine W.lcmp hx hb dX10_rankOf_21 ?_
    refine lv_topi (fun z21 e_z21 => ?_)
    have b_ := zlcmp e_z21
    have b_ : -2147483648 ≤ z21.toInt ∧ z21.toInt ≤ 2147483647 := ⟨zlo _, zhi _⟩
    refine lv_if_ne (tgt := 29) hx hb dX10_rankOf_22 (by decide) (fun c_ => ?_) (fun c_ => ?_)
    · skip
      have b_ := zT_ne rfl zk_0 c_
      refine lv_iconst (v := (-1)) hx hb dX10_rankOf_29 (by decide) ?_
      refine W.widen (k := 0) (n := 0) (by decide) (by decide) ?_
      have hpost : ((-1) ≤ ((-1) : Int32).toInt ∧ ((-1) : Int32).toInt ≤ 9) ∧ (((-1) : Int32).toInt < (v0 7).toInt) ∧ (zRf f1 (v0 7).toInt y1.toInt ((-1) : Int32).toInt) := ⟨(by first | with_reducible assumption | exact ⟨by omega, by omega⟩), by omega, by first | exact zRf_1 hX2_1 (by omega) (by omega) | exact zRf_2 e_y_19 (by omega) (by omega) (by omega) | exact zRf_3 hX2_1 e_y_19 (by omega) (by omega) (by omega) (by omega)⟩
      have hP9 : va_P (dC, dI) vwCl [(h0, .inr (10, mX10 h1 h2 h3 h4 h5 h6 v0)), (h1, .inl (k1, 10, .inr (.inl f1)))] H := hP
      have hD9 : va_D A [(h0, .inr (10, mX10 h1 h2 h3 h4 h5 h6 v0)), (h1, .inl (k1, 10, .inr (.inl f1)))] := hD
      exact W.iret (v := (-1)) hx hb hr (fun t ht hW => ⟨⟨(-1), (fun _ => 0), rfl, hpost, (fun _ => 0), (fun _ => (fun _ => 0)), (fun _ => (fun _ => 0)), by rw [ht]; exact hP9, va_K.moved hW.alike hK, hD9⟩, hS.F ht⟩) hS.2.2 dX10_rankOf_30
    · skip
      have b_ := zF_ne rfl zk_0 c_
      refine lv_iload_n hx hb dX10_rankOf_25 rfl (lv_at hl 0 rfl) ?_
      refine lv_goto (tgt := 30) hx hb dX10_rankOf_26 (by decide) ?_
      refine W.widen (k := 0) (n := 0) (by decide) (by decide) ?_
      have hpost : ((-1) ≤ r2_.toInt ∧ r2_.toInt ≤ 9) ∧ (r2_.toInt < (v0 7).toInt) ∧ (zRf f1 (v0 7).toInt y1.toInt r2_.toInt) := ⟨(by first | with_reducible assumption | exact ⟨by omega, by omega⟩), by omega, by first | exact zRf_1 hX2_1 (by omega) (by omega) | exact zRf_2 e_y_19 (by omega) (by omega) (by omega) | exact zRf_3 hX2_1 e_y_19 (by omega) (by omega) (by omega) (by omega)⟩
      have hP9 : va_P (dC, dI) vwCl [(h0, .inr (10, mX10 h1 h2 h3 h4 h5 h6 v0)), (h1, .inl (k1, 10, .inr (.inl f1)))] H := hP
      have hD9 : va_D A [(h0, .inr (10, mX10 h1 h2 h3 h4 h5 h6 v0)), (h1, .inl (k1, 10, .inr (.inl f1)))] := hD
      exact W.iret (v := r2_) hx hb hr (fun t ht hW => ⟨⟨r2_, (fun _ => 0), rfl, hpost, (fun _ => 0), (fun _ => (fun _ => 0)), (fun _ => (fun _ => 0)), by rw [ht]; exact hP9, va_K.moved hW.alike hK, hD9⟩, hS.F ht⟩) hS.2.2 dX10_rankOf_30
set_option maxHeartbeats 8000000 in
set_option maxRecDepth 100000 in
theorem sX10_rankAhead_1 (l : Launch) (dC : Nat → ClassId) (dI : Nat → Nat → Nat) (adK adV : Nat → Nat) (h0 : Nat) (h1 : Nat) (h2 : Nat) (h3 : Nat) (h4 : Nat) (h5 : Nat) (h6 : Nat) (k1 : ClassId) (sz : Nat) (v0 : Nat → Int32) (f1 : Nat → Int64) (y1 : Int64) (hv0 : zR rg_Words400 v0) : Met l yX10_rankAhead (zw yX10_rankAhead cX10_rankAhead 6 (some .int)) { frames := 0, cells := 0, slots := 0, locals := 0 } (zPc dC dI adK adV [.ref h0, .long y1] sz [(h0, .inr (10, mX10 h1 h2 h3 h4 h5 h6 v0)), (h1, .inl (k1, 400, .inr (.inl f1)))] [(k1, .long)]) (va_Qi (fun (r : Int32) (u : Nat → Int32) => (0 ≤ r.toInt ∧ r.toInt ≤ 400) ∧ (r.toInt ≤ (v0 7).toInt) ∧ (zRk f1 (v0 7).toInt y1.toInt r.toInt r.toInt)) (fun (u : Nat → Int32) (t : State) => ∃ (ww : Nat → Int64) (aa : Nat → Nat → Int32) (bb : Nat → Nat → Int64), va_P (dC, dI) vwCl [(h0, .inr (10, mX10 h1 h2 h3 h4 h5 h6 v0)), (h1, .inl (k1, 400, .inr (.inl f1)))] t.heap ∧ va_K (dC, dI) vwCl [(k1, .long)] t ∧ va_D (va_A [(h0, .inr (10, mX10 h1 h2 h3 h4 h5 h6 v0)), (h1, .inl (k1, 400, .inr (.inl f1)))] sz) [(h0, .inr (10, mX10 h1 h2 h3 h4 h5 h6 v0)), (h1, .inl (k1, 400, .inr (.inl f1)))]) (va_A [(h0, .inr (10, mX10 h1 h2 h3 h4 h5 h6 v0)), (h1, .inl (k1, 400, .inr (.inl f1)))] sz)) 0 0 (va_A [(h0, .inr (10, mX10 h1 h2 h3 h4 h5 h6 v0)), (h1, .inl (k1, 400, .inr (.inl f1)))] sz) := by
  refine Met.ofW (cc := cX10_rankAhead) (maxL := 6) (ret := (some .int)) (by decide) rfl ?_
  intro p e s m args below meth c s₁ B hml hv
  obtain ⟨rfl, hsz, hP, hK, hD0, hE, hZ⟩ := hv
  have hx := B.exec
  have hb := B.bytes
  have hr := B.returns
  have hG : ∀ w ∈ zG, w.before _ s = true := fun w h => atoms_spec (ws := (zw yX10_rankAhead cX10_rankAhead 6 (some .int))) B.pre w (List.mem_cons_of_mem _ h)
  have hown : s.vm.findClass RX10 = some m.cls := findClass_of_methodNamed B.named
  have hlocks := B.notSynchronized

  subst hsz
  have hD := hD0.self (sz := s.heap.size)
  generalize hAe : va_A [(h0, .inr (10, mX10 h1 h2 h3 h4 h5 h6 v0)), (h1, .inl (k1, 400, .inr (.inl f1)))] s.heap.size = A at hD hZ ⊢
  have hA : ∀ q : Nat, s.heap.size ≤ q → A q := fun q h => by rw [← hAe]; exact Or.inr h
  have hS : va_S A s.heap s.heap [] := va_S.rf
  have hl := lv_entry ([.ref h0, .long y1]) (n := 6) (Nat.le_of_ble_eq_true rfl)
  rw [lg_entry_eq]
  generalize (lg_sl ([.ref h0, .long y1]) ++ List.replicate (6 - (lg_sl ([.ref h0, .long y1])).length) Slot.unset).toArray = ls at hl ⊢
  have hl : lv_has ls 6 [(0, .ref h0), (1, .long y1)] := hl
  have b_ := zk_0
  have b_ : 0 ≤ (v0 7).toInt ∧ (v0 7).toInt ≤ 400 := hv0 7
  refine lv_iconst (v := 0) hx hb dX10_rankAhead_0 (by decide) ?_
  refine lv_istore_n (lv' := [(3, .int 0), (0, .ref h0), (1, .long y1)]) hx hb dX10_rankAhead_1 rfl hl (by decide) rfl (fun ls hl => ?_)
  refine lv_aload_n hx hb dX10_rankAhead_2 rfl (lv_at hl 1 rfl) ?_
  refine va_get (D := (dC, dI)) (ci := 10) (v := .int (v0 7)) (C := RX10) (T := TX10) (N := 8) hx hb hG zuX10 hown hK hP 0 rfl rfl 7 (by decide) (hG _ zv196) (fun _ h9 => h9) rfl dX10_rankAhead_3 ?_
  refine lv_istore (lv' := [(4, .int (v0 7)), (3, .int 0), (0, .ref h0), (1, .long y1)]) hx hb dX10_rankAhead_6 hl (by decide) rfl (fun ls hl => ?_)
  refine zcutL (fun u8_ => ((u8_ 1).toInt - (u8_ 0).toInt).toNat) (fun H locs ls u8_ w8_ a8_ b8_ => va_P (dC, dI) vwCl [(h0, .inr (10, mX10 h1 h2 h3 h4 h5 h6 v0)), (h1, .inl (k1, 400, .inr (.inl f1)))] H ∧ va_D A [(h0, .inr (10, mX10 h1 h2 h3 h4 h5 h6 v0)), (h1, .inl (k1, 400, .inr (.inl f1)))] ∧ va_S A s.heap H locs ∧ lv_has ls 6 [(0, .ref h0), (1, .long y1), (3, .int (u8_ 0)), (4, .int (u8_ 1))] ∧ (0 ≤ (u8_ 0).toInt ∧ (u8_ 0).toInt ≤ 400) ∧ (0 ≤ (u8_ 1).toInt ∧ (u8_ 1).toInt ≤ 400) ∧ ((u8_ 0).toInt ≤ (u8_ 1).toInt) ∧ ((u8_ 1).toInt ≤ (v0 7).toInt) ∧ (zRk f1 (v0 7).toInt y1.toInt (u8_ 0).toInt (u8_ 1).toInt)) (fun ls u8_ w8_ => F0 m 8 ls []) 0 0 ?_ (fun hJ8 => ?_)
  · skip
    intro H locs ls u8_ w8_ a8_ b8_ hc hJ8
    obtain ⟨hP, hD, hS, hl, b_, b_, b_, b_, hI8_2⟩ := hc
    refine lv_iload_n hx hb dX10_rankAhead_8 rfl (lv_at hl 2 rfl) ?_
    refine lv_iload hx hb dX10_rankAhead_9 (lv_at hl 3 rfl) ?_
    refine lv_icmp_ge (tgt := 49) hx hb dX10_rankAhead_11 (by decide) (fun c_ => ?_) (fun c_ => ?_)
    · skip
      have b_ := zT_ge rfl rfl c_
      refine lv_iload_n hx hb dX10_rankAhead_49 rfl (lv_at hl 2 rfl) ?_
      refine W.widen (k := 0) (n := 0) (by decide) (by decide) ?_
      have hpost : (0 ≤ (u8_ 0).toInt ∧ (u8_ 0).toInt ≤ 400) ∧ ((u8_ 0).toInt ≤ (v0 7).toInt) ∧ (zRk f1 (v0 7).toInt y1.toInt (u8_ 0).toInt (u8_ 0).toInt) := ⟨(by first | with_reducible assumption | exact ⟨by omega, by omega⟩), by omega, by exact zRk_e hI8_2 (by omega) (by omega)⟩
      have hP9 : va_P (dC, dI) vwCl [(h0, .inr (10, mX10 h1 h2 h3 h4 h5 h6 v0)), (h1, .inl (k1, 400, .inr (.inl f1)))] H := hP
      have hD9 : va_D A [(h0, .inr (10, mX10 h1 h2 h3 h4 h5 h6 v0)), (h1, .inl (k1, 400, .inr (.inl f1)))] := hD
      exact W.iret (v := (u8_ 0)) hx hb hr (fun t ht hW => ⟨⟨(u8_ 0), (fun _ => 0), rfl, hpost, (fun _ => 0), (fun _ => (fun _ => 0)), (fun _ => (fun _ => 0)), by rw [ht]; exact hP9, va_K.moved hW.alike hK, hD9⟩, hS.F ht⟩) hS.2.2 dX10_rankAhead_50
    · skip
      have b_ := zF_ge rfl rfl c_
      refine lv_iload_n hx hb dX10_rankAhead_14 rfl (lv_at hl 2 rfl) ?_
      refine lv_iload hx hb dX10_rankAhead_15 (lv_at hl 3 rfl) ?_
      refine lv_iadd hx hb dX10_rankAhead_17 ?_
      refine lv_topi (fun z17 e_z17 => ?_)
      have b_ := zadd rfl rfl e_z17 (by omega) (by omega)
      refine lv_iconst (v := 2) hx hb dX10_rankAhead_18 (by decide) ?_
      refine lv_idiv hx hb dX10_rankAhead_19 (by decide) ?_
      refine lv_topi (fun z19 e_z19 => ?_)
      have b_ := zdiv rfl zk_2 e_z19 (by omega) (by decide)
      refine lv_istore (lv' := [(5, .int z19), (0, .ref h0), (1, .long y1), (3, .int (u8_ 0)), (4, .int (u8_ 1))]) hx hb dX10_rankAhead_20 hl (by decide) rfl (fun ls hl => ?_)
      refine lv_aload_n hx hb dX10_rankAhead_22 rfl (lv_at hl 1 rfl) ?_
      refine va_get (D := (dC, dI)) (ci := 10) (v := .ref h1) (C := RX10) (T := TX10) (N := 8) hx hb hG zuX10 hown hK hP 0 rfl rfl 1 (by decide) (hG _ zv190) (fun _ h9 => h9) rfl dX10_rankAhead_23 ?_
      refine lv_iload hx hb dX10_rankAhead_26 (lv_at hl 0 rfl) ?_
      refine va_lald hx hb hK hP 1 0 rfl rfl (zin_lit ⟨by omega, by omega⟩) dX10_rankAhead_28 ?_
      refine lv_topl (fun y_28 e_y_28 => ?_)
      refine lv_lload_n hx hb dX10_rankAhead_29 rfl (lv_at hl 2 rfl) ?_
      refine W.lcmp hx hb dX10_rankAhead_30 ?_
      refine lv_topi (fun z30 e_z30 => ?_)
      have b_ := zlcmp e_z30
      have b_ : -2147483648 ≤ z30.toInt ∧ z30.toInt ≤ 2147483647 := ⟨zlo _, zhi _⟩
      refine lv_if_ge (tgt := 42) hx hb dX10_rankAhead_31 (by decide) (fun c_ => ?_) (fun c_ => ?_)
      · skip
        have b_ := zT_ge rfl zk_0 c_
        refine lv_iload hx hb dX10_rankAhead_42 (lv_at hl 0 rfl) ?_
        refine lv_istore (lv' := [(4, .int z19), (5, .int z19), (0, .ref h0), (1, .long y1), (3, .int (u8_ 0))]) hx hb dX10_rankAhead_44 hl (by decide) rfl (fun ls hl => ?_)
        refine lv_goto (tgt := 8) hx hb dX10_rankAhead_46 (by decide) ?_
        have hc : va_P (dC, dI) vwCl [(h0, .inr (10, mX10 h1 h2 h3 h4 h5 h6 v0)), (h1, .inl (k1, 400, .inr (.inl f1)))] H ∧ va_D A [(h0, .inr (10, mX10 h1 h2 h3 h4 h5 h6 v0)), (h1, .inl (k1, 400, .inr (.inl f1)))] ∧ va_S A s.heap H locs ∧ lv_has ls 6 [(0, .ref h0), (1, .long y1), (3, .int (u8_ 0)), (4, .int z19)] ∧ (0 ≤ (u8_ 0).toInt ∧ (u8_ 0).toInt ≤ 400) ∧ (0 ≤ z19.toInt ∧ z19.toInt ≤ 400) ∧ ((u8_ 0).toInt ≤ z19.toInt) ∧ (z19.toInt ≤ (v0 7).toInt) ∧ (zRk f1 (v0 7).toInt y1.toInt (u8_ 0).toInt z19.toInt) := ⟨hP, hD, hS, lv_sub hl [2, 3, 4, 0] rfl, (by first | with_reducible assumption | exact ⟨by omega, by omega⟩), (by first | with_reducible assumption | exact ⟨by omega, by omega⟩), by omega, by omega, by first | exact zRk_0 (by omega) (by omega) | exact zRk_a (by assumption) e_y_28 (by omega) (by omega) (by omega) (by omega) | exact zRk_b (by assumption) e_y_28 (by omega) (by omega) (by omega)⟩
        exact hJ8 H locs ls (fun i => ([(u8_ 0), z19] : List (Int32)).getD i 0) (fun _ => 0) (fun _ => (fun _ => 0)) (fun _ => (fun _ => 0)) hc (show (z19.toInt - (u8_ 0).toInt).toNat < ((u8_ 1).toInt - (u8_ 0).toInt).toNat from by omega)
      · skip
        have b_ := zF_ge rfl zk_0 c_
        refine lv_iload hx hb dX10_rankAhead_34 (lv_at hl 0 rfl) ?_
        refine lv_iconst (v := 1) hx hb dX10_rankAhead_36 (by decide) ?_
        refine lv_iadd hx hb dX10_rankAhead_37 ?_
        refine lv_topi (fun z37 e_z37 => ?_)
        have b_ := zadd rfl zk_1 e_z37 (by omega) (by omega)
        refine lv_istore_n (lv' := [(3, .int z37), (5, .int z19), (0, .ref h0), (1, .long y1), (4, .int (u8_ 1))]) hx hb dX10_rankAhead_38 rfl hl (by decide) rfl (fun ls hl => ?_)
        refine lv_goto (tgt := 46) hx hb dX10_rankAhead_39 (by decide) ?_
        refine lv_goto (tgt := 8) hx hb dX10_rankAhead_46 (by decide) ?_
        have hc : va_P (dC, dI) vwCl [(h0, .inr (10, mX10 h1 h2 h3 h4 h5 h6 v0)), (h1, .inl (k1, 400, .inr (.inl f1)))] H ∧ va_D A [(h0, .inr (10, mX10 h1 h2 h3 h4 h5 h6 v0)), (h1, .inl (k1, 400, .inr (.inl f1)))] ∧ va_S A s.heap H locs ∧ lv_has ls 6 [(0, .ref h0), (1, .long y1), (3, .int z37), (4, .int (u8_ 1))] ∧ (0 ≤ z37.toInt ∧ z37.toInt ≤ 400) ∧ (0 ≤ (u8_ 1).toInt ∧ (u8_ 1).toInt ≤ 400) ∧ (z37.toInt ≤ (u8_ 1).toInt) ∧ ((u8_ 1).toInt ≤ (v0 7).toInt) ∧ (zRk f1 (v0 7).toInt y1.toInt z37.toInt (u8_ 1).toInt) := ⟨hP, hD, hS, lv_sub hl [2, 3, 0, 4] rfl, (by first | with_reducible assumption | exact ⟨by omega, by omega⟩), (by first | with_reducible assumption | exact ⟨by omega, by omega⟩), by omega, by omega, by first | exact zRk_0 (by omega) (by omega) | exact zRk_a (by assumption) e_y_28 (by omega) (by omega) (by omega) (by omega) | exact zRk_b (by assumption) e_y_28 (by omega) (by omega) (by omega)⟩
        exact hJ8 H locs ls (fun i => ([z37, (u8_ 1)] : List (Int32)).getD i 0) (fun _ => 0) (fun _ => (fun _ => 0)) (fun _ => (fun _ => 0)) hc (show ((u8_ 1).toInt - z37.toInt).toNat < ((u8_ 1).toInt - (u8_ 0).toInt).toNat from by omega)
  · skip
    have hc : va_P (dC, dI) vwCl [(h0, .inr (10, mX10 h1 h2 h3 h4 h5 h6 v0)), (h1, .inl (k1, 400, .inr (.inl f1)))] s.heap ∧ va_D A [(h0, .inr (10, mX10 h1 h2 h3 h4 h5 h6 v0)), (h1, .inl (k1, 400, .inr (.inl f1)))] ∧ va_S A s.heap s.heap [] ∧ lv_has ls 6 [(0, .ref h0), (1, .long y1), (3, .int 0), (4, .int (v0 7))] ∧ (0 ≤ (0 : Int32).toInt ∧ (0 : Int32).toInt ≤ 400) ∧ (0 ≤ (v0 7).toInt ∧ (v0 7).toInt ≤ 400) ∧ ((0 : Int32).toInt ≤ (v0 7).toInt) ∧ ((v0 7).toInt ≤ (v0 7).toInt) ∧ (zRk f1 (v0 7).toInt y1.toInt (0 : Int32).toInt (v0 7).toInt) := ⟨hP, hD, hS, lv_sub hl [2, 3, 1, 0] rfl, (by first | with_reducible assumption | exact ⟨by omega, by omega⟩), (by first | with_reducible assumption | exact ⟨by omega, by omega⟩), by omega, by omega, by first | exact zRk_0 (by omega) (by omega) | exact zRk_a (by assumption) e_y_28 (by omega) (by omega) (by omega) (by omega) | exact zRk_b (by assumption) e_y_28 (by omega) (by omega) (by omega)⟩
    exact hJ8 s.heap [] ls (fun i => ([0, (v0 7)] : List (Int32)).getD i 0) (fun _ => 0) (fun _ => (fun _ => 0)) (fun _ => (fun _ => 0)) hc
set_option maxHeartbeats 8000000 in
set_option maxRecDepth 100000 in
theorem sX10_rankOf_1 (l : Launch) (dC : Nat → ClassId) (dI : Nat → Nat → Nat) (adK adV : Nat → Nat) (h0 : Nat) (h1 : Nat) (h2 : Nat) (h3 : Nat) (h4 : Nat) (h5 : Nat) (h6 : Nat) (k1 : ClassId) (sz : Nat) (v0 : Nat → Int32) (f1 : Nat → Int64) (y1 : Int64) (hv0 : zR rg_Words400 v0) : Met l yX10_rankOf (zw yX10_rankOf cX10_rankOf 4 (some .int)) { frames := 1, cells := 0, slots := 0, locals := 25 } (zPc dC dI adK adV [.ref h0, .long y1] sz [(h0, .inr (10, mX10 h1 h2 h3 h4 h5 h6 v0)), (h1, .inl (k1, 400, .inr (.inl f1)))] [(k1, .long)]) (va_Qi (fun (r : Int32) (u : Nat → Int32) => ((-1) ≤ r.toInt ∧ r.toInt ≤ 399) ∧ (r.toInt < (v0 7).toInt) ∧ (zRf f1 (v0 7).toInt y1.toInt r.toInt)) (fun (u : Nat → Int32) (t : State) => ∃ (ww : Nat → Int64) (aa : Nat → Nat → Int32) (bb : Nat → Nat → Int64), va_P (dC, dI) vwCl [(h0, .inr (10, mX10 h1 h2 h3 h4 h5 h6 v0)), (h1, .inl (k1, 400, .inr (.inl f1)))] t.heap ∧ va_K (dC, dI) vwCl [(k1, .long)] t ∧ va_D (va_A [(h0, .inr (10, mX10 h1 h2 h3 h4 h5 h6 v0)), (h1, .inl (k1, 400, .inr (.inl f1)))] sz) [(h0, .inr (10, mX10 h1 h2 h3 h4 h5 h6 v0)), (h1, .inl (k1, 400, .inr (.inl f1)))]) (va_A [(h0, .inr (10, mX10 h1 h2 h3 h4 h5 h6 v0)), (h1, .inl (k1, 400, .inr (.inl f1)))] sz)) 0 0 (va_A [(h0, .inr (10, mX10 h1 h2 h3 h4 h5 h6 v0)), (h1, .inl (k1, 400, .inr (.inl f1)))] sz) := by
  refine Met.ofW (cc := cX10_rankOf) (maxL := 4) (ret := (some .int)) (by decide) rfl ?_
  intro p e s m args below meth c s₁ B hml hv
  obtain ⟨rfl, hsz, hP, hK, hD0, hE, hZ⟩ := hv
  have hx := B.exec
  have hb := B.bytes
  have hr := B.returns
  have hG : ∀ w ∈ zG, w.before _ s = true := fun w h => atoms_spec (ws := (zw yX10_rankOf cX10_rankOf 4 (some .int))) B.pre w (List.mem_cons_of_mem _ h)
  have hown : s.vm.findClass RX10 = some m.cls := findClass_of_methodNamed B.named
  have hlocks := B.notSynchronized

  subst hsz
  have hD := hD0.self (sz := s.heap.size)
  generalize hAe : va_A [(h0, .inr (10, mX10 h1 h2 h3 h4 h5 h6 v0)), (h1, .inl (k1, 400, .inr (.inl f1)))] s.heap.size = A at hD hZ ⊢
  have hA : ∀ q : Nat, s.heap.size ≤ q → A q := fun q h => by rw [← hAe]; exact Or.inr h
  have hS : va_S A s.heap s.heap [] := va_S.rf
  have hl := lv_entry ([.ref h0, .long y1]) (n := 4) (Nat.le_of_ble_eq_true rfl)
  rw [lg_entry_eq]
  generalize (lg_sl ([.ref h0, .long y1]) ++ List.replicate (4 - (lg_sl ([.ref h0, .long y1])).length) Slot.unset).toArray = ls at hl ⊢
  have hl : lv_has ls 4 [(0, .ref h0), (1, .long y1)] := hl
  have b_ := zk_m1
  have b_ : 0 ≤ (v0 7).toInt ∧ (v0 7).toInt ≤ 400 := hv0 7
  refine lv_aload_n hx hb dX10_rankOf_0 rfl (lv_at hl 0 rfl) ?_
  refine lv_lload_n hx hb dX10_rankOf_1 rfl (lv_at hl 1 rfl) ?_
  have hPc := hP.sub (ws' := [(h0, .inr (10, mX10 h1 h2 h3 h4 h5 h6 v0)), (h1, .inl (k1, 400, .inr (.inl f1)))]) [0, 1] rfl
  have hDc := hD.sub (ws' := [(h0, .inr (10, mX10 h1 h2 h3 h4 h5 h6 v0)), (h1, .inl (k1, 400, .inr (.inl f1)))]) [0, 1] (by decide) rfl
  have hKc := hK.sub (tys' := [(k1, .long)]) [0] rfl
  have hFc := va_free (wc := [(h0, .inr (10, mX10 h1 h2 h3 h4 h5 h6 v0)), (h1, .inl (k1, 400, .inr (.inl f1)))]) hD hS hA [0, 1] rfl
  refine va_calli (va_runV (As := [.long y1]) (rest := []) ⟨hx, hb, hml, hown, hG⟩ (sX10_rankAhead_1 l dC dI adK adV h0 h1 h2 h3 h4 h5 h6 k1 s.heap.size v0 f1 y1 hv0) (cwV 1 hG (zgV zv743 zv744 zv745 zv131 zv746) rfl rfl rfl (by decide +kernel) ⟨Nat.le_of_ble_eq_true rfl, Nat.le_of_ble_eq_true rfl⟩) ⟨zPc_blind, va_recv hKc hPc (ci := 10) (q0 := 0) rfl rfl, zPc_pre hPc hKc hDc hE hS hFc hZ⟩ rfl rfl hl.1 rfl (lv_room (Nat.le_of_ble_eq_true rfl)) dX10_rankOf_2 ⟨Nat.le_of_ble_eq_true rfl, Nat.le_of_ble_eq_true rfl⟩) hS (fun q _ h => hFc q h) hFc (fun r2_ u2_ t H1 locs ht hvm hw hB hz1 hk1 hS => ?_)
  replace hw : (0 ≤ r2_.toInt ∧ r2_.toInt ≤ 400) ∧ (r2_.toInt ≤ (v0 7).toInt) ∧ (zRk f1 (v0 7).toInt y1.toInt r2_.toInt r2_.toInt) := hw
  obtain ⟨b_, hX2_0, hX2_1⟩ := hw
  obtain ⟨w2_, a2_, b2_, hP1, hK1, hD1⟩ := hB
  rw [ht] at hP1
  obtain ⟨hP, hD⟩ := va_join (wr := []) (w1 := [(h0, .inr (10, mX10 h1 h2 h3 h4 h5 h6 v0)), (h1, .inl (k1, 400, .inr (.inl f1)))]) hP hD [0, 1] [] rfl rfl (by decide) (by decide) hk1 hFc hP1 hD1
  have hP : va_P (dC, dI) vwCl [(h0, .inr (10, mX10 h1 h2 h3 h4 h5 h6 v0)), (h1, .inl (k1, 400, .inr (.inl f1)))] H1 := hP.sub [0, 1] rfl
  have hD : va_D A [(h0, .inr (10, mX10 h1 h2 h3 h4 h5 h6 v0)), (h1, .inl (k1, 400, .inr (.inl f1)))] := hD.sub [0, 1] (by decide) rfl
  generalize H1 = H at hP hS ⊢
  clear hz1
  refine lv_istore_n (lv' := [(3, .int r2_), (0, .ref h0), (1, .long y1)]) hx hb dX10_rankOf_5 rfl hl (by decide) rfl (fun ls hl => ?_)
  refine lv_iload_n hx hb dX10_rankOf_6 rfl (lv_at hl 0 rfl) ?_
  refine lv_aload_n hx hb dX10_rankOf_7 rfl (lv_at hl 1 rfl) ?_
  refine va_get (D := (dC, dI)) (ci := 10) (v := .int (v0 7)) (C := RX10) (T := TX10) (N := 8) hx hb hG zuX10 hown hK hP 0 rfl rfl 7 (by decide) (hG _ zv196) (fun _ h9 => h9) rfl dX10_rankOf_8 ?_
  refine lv_icmp_ge (tgt := 29) hx hb dX10_rankOf_11 (by decide) (fun c_ => ?_) (fun c_ => ?_)
  · skip
    have b_ := zT_ge rfl rfl c_
    refine lv_iconst (v := (-1)) hx hb dX10_rankOf_29 (by decide) ?_
    refine W.widen (k := 0) (n := 0) (by decide) (by decide) ?_
    have hpost : ((-1) ≤ ((-1) : Int32).toInt ∧ ((-1) : Int32).toInt ≤ 399) ∧ (((-1) : Int32).toInt < (v0 7).toInt) ∧ (zRf f1 (v0 7).toInt y1.toInt ((-1) : Int32).toInt) := ⟨(by first | with_reducible assumption | exact ⟨by omega, by omega⟩), by omega, by first | exact zRf_1 hX2_1 (by omega) (by omega) | exact zRf_2 e_y_19 (by omega) (by omega) (by omega) | exact zRf_3 hX2_1 e_y_19 (by omega) (by omega) (by omega) (by omega)⟩
    have hP9 : va_P (dC, dI) vwCl [(h0, .inr (10, mX10 h1 h2 h3 h4 h5 h6 v0)), (h1, .inl (k1, 400, .inr (.inl f1)))] H := hP
    have hD9 : va_D A [(h0, .inr (10, mX10 h1 h2 h3 h4 h5 h6 v0)), (h1, .inl (k1, 400, .inr (.inl f1)))] := hD
    exact W.iret (v := (-1)) hx hb hr (fun t ht hW => ⟨⟨(-1), (fun _ => 0), rfl, hpost, (fun _ => 0), (fun _ => (fun _ => 0)), (fun _ => (fun _ => 0)), by rw [ht]; exact hP9, va_K.moved hW.alike hK, hD9⟩, hS.F ht⟩) hS.2.2 dX10_rankOf_30
  · skip
    have b_ := zF_ge rfl rfl c_
    refine lv_aload_n hx hb dX10_rankOf_14 rfl (lv_at hl 1 rfl) ?_
    refine va_get (D := (dC, dI)) (ci := 10) (v := .ref h1) (C := RX10) (T := TX10) (N := 8) hx hb hG zuX10 hown hK hP 0 rfl rfl 1 (by decide) (hG _ zv190) (fun _ h9 => h9) rfl dX10_rankOf_15 ?_
    refine lv_iload_n hx hb dX10_rankOf_18 rfl (lv_at hl 0 rfl) ?_
    refine va_lald hx hb hK hP 1 0 rfl rfl (zin_lit ⟨by omega, by omega⟩) dX10_rankOf_19 ?_
    refine lv_topl (fun y_19 e_y_19 => ?_)
    refine lv_lload_n hx hb dX10_rankOf_20 rfl (lv_at hl 2 rfl) ?_
    refine W.lcmp hx hb dX10_rankOf_21 ?_
    refine lv_topi (fun z21 e_z21 => ?_)
    have b_ := zlcmp e_z21
    have b_ : -2147483648 ≤ z21.toInt ∧ z21.toInt ≤ 2147483647 := ⟨zlo _, zhi _⟩
    refine lv_if_ne (tgt := 29) hx hb dX10_rankOf_22 (by decide) (fun c_ => ?_) (fun c_ => ?_)
    · skip
      have b_ := zT_ne rfl zk_0 c_
      refine lv_iconst (v := (-1)) hx hb dX10_rankOf_29 (by decide) ?_
      refine W.widen (k := 0) (n := 0) (by decide) (by decide) ?_
      have hpost : ((-1) ≤ ((-1) : Int32).toInt ∧ ((-1) : Int32).toInt ≤ 399) ∧ (((-1) : Int32).toInt < (v0 7).toInt) ∧ (zRf f1 (v0 7).toInt y1.toInt ((-1) : Int32).toInt) := ⟨(by first | with_reducible assumption | exact ⟨by omega, by omega⟩), by omega, by first | exact zRf_1 hX2_1 (by omega) (by omega) | exact zRf_2 e_y_19 (by omega) (by omega) (by omega) | exact zRf_3 hX2_1 e_y_19 (by omega) (by omega) (by omega) (by omega)⟩
      have hP9 : va_P (dC, dI) vwCl [(h0, .inr (10, mX10 h1 h2 h3 h4 h5 h6 v0)), (h1, .inl (k1, 400, .inr (.inl f1)))] H := hP
      have hD9 : va_D A [(h0, .inr (10, mX10 h1 h2 h3 h4 h5 h6 v0)), (h1, .inl (k1, 400, .inr (.inl f1)))] := hD
      exact W.iret (v := (-1)) hx hb hr (fun t ht hW => ⟨⟨(-1), (fun _ => 0), rfl, hpost, (fun _ => 0), (fun _ => (fun _ => 0)), (fun _ => (fun _ => 0)), by rw [ht]; exact hP9, va_K.moved hW.alike hK, hD9⟩, hS.F ht⟩) hS.2.2 dX10_rankOf_30
    · skip
      have b_ := zF_ne rfl zk_0 c_
      refine lv_iload_n hx hb dX10_rankOf_25 rfl (lv_at hl 0 rfl) ?_
      refine lv_goto (tgt := 30) hx hb dX10_rankOf_26 (by decide) ?_
      refine W.widen (k := 0) (n := 0) (by decide) (by decide) ?_
      have hpost : ((-1) ≤ r2_.toInt ∧ r2_.toInt ≤ 399) ∧ (r2_.toInt < (v0 7).toInt) ∧ (zRf f1 (v0 7).toInt y1.toInt r2_.toInt) := ⟨(by first | with_reducible assumption | exact ⟨by omega, by omega⟩), by omega, by first | exact zRf_1 hX2_1 (by omega) (by omega) | exact zRf_2 e_y_19 (by omega) (by omega) (by omega) | exact zRf_3 hX2_1 e_y_19 (by omega) (by omega) (by omega) (by omega)⟩
      have hP9 : va_P (dC, dI) vwCl [(h0, .inr (10, mX10 h1 h2 h3 h4 h5 h6 v0)), (h1, .inl (k1, 400, .inr (.inl f1)))] H := hP
      have hD9 : va_D A [(h0, .inr (10, mX10 h1 h2 h3 h4 h5 h6 v0)), (h1, .inl (k1, 400, .inr (.inl f1)))] := hD
      exact W.iret (v := r2_) hx hb hr (fun t ht hW => ⟨⟨r2_, (fun _ => 0), rfl, hpost, (fun _ => 0), (fun _ => (fun _ => 0)), (fun _ => (fun _ => 0)), by rw [ht]; exact hP9, va_K.moved hW.alike hK, hD9⟩, hS.F ht⟩) hS.2.2 dX10_rankOf_30
