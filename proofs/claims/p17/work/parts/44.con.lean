set_option maxHeartbeats 8000000 in
set_option maxRecDepth 100000 in
theorem sJ0_coder_7d493_9 (l : Launch) (dC : Nat → ClassId) (dI : Nat → Nat → Nat) (adK adV : Nat → Nat) (sz : Nat) : Met l yJ0_coder_7d493 (zw yJ0_coder_7d493 cJ0_coder_7d493 1 (some .byte)) { frames := 0, cells := 0, slots := 0, locals := 0 } (zPc dC dI adK adV [.ref (adK 9)] sz [] []) (va_Qi (fun (r : Int32) (u : Nat → Int32) => (0 ≤ r.toInt ∧ r.toInt ≤ 0)) (fun (u : Nat → Int32) (t : State) => ∃ (ww : Nat → Int64) (aa : Nat → Nat → Int32) (bb : Nat → Nat → Int64), va_P (dC, dI) vwCl [] t.heap ∧ va_K (dC, dI) vwCl [] t ∧ va_D (va_A [] sz) []) (va_A [] sz)) 0 0 (va_A [] sz) := by
  refine Met.ofW (cc := cJ0_coder_7d493) (maxL := 1) (ret := (some .byte)) (by decide) rfl ?_
  intro p e s m args below meth c s₁ B hml hv
  obtain ⟨rfl, hsz, hP, hK, hD0, hE, hZ⟩ := hv
  have hx := B.exec
  have hb := B.bytes
  have hr := B.returns
  have hG : ∀ w ∈ zG, w.before _ s = true := fun w h => atoms_spec (ws := (zw yJ0_coder_7d493 cJ0_coder_7d493 1 (some .byte))) B.pre w (List.mem_cons_of_mem _ h)
  have hown : s.vm.findClass RJ0 = some m.cls := findClass_of_methodNamed B.named
  have hlocks := B.notSynchronized

  subst hsz
  have hD := hD0.self (sz := s.heap.size)
  generalize hAe : va_A [] s.heap.size = A at hD hZ ⊢
  have hA : ∀ q : Nat, s.heap.size ≤ q → A q := fun q h => by rw [← hAe]; exact Or.inr h
  have hS : va_S A s.heap s.heap [] := va_S.rf
  have hl := lv_entry ([.ref (adK 9)]) (n := 1) (Nat.le_of_ble_eq_true rfl)
  rw [lg_entry_eq]
  generalize (lg_sl ([.ref (adK 9)]) ++ List.replicate (1 - (lg_sl ([.ref (adK 9)])).length) Slot.unset).toArray = ls at hl ⊢
  have hl : lv_has ls 1 [(0, .ref (adK 9))] := hl
  have b_ := zk_0
  refine va_gets hx hb hZ.2.2.1 hS hown (hG _ zv685) (fun _ h => h) dJ0_coder_7d493_0 ?_
  refine lv_if_eq (tgt := 13) hx hb dJ0_coder_7d493_3 (by decide) (fun c_ => absurd c_ (by decide)) (fun c_ => ?_)
  refine lv_aload_n hx hb dJ0_coder_7d493_6 rfl (lv_at hl 0 rfl) ?_
  refine vk_getf hx hb (hZ.2.2.2.1.1 9 (by decide)).2.1 hS hown (hG _ zv2258) (fun _ h => h) dJ0_coder_7d493_7 ?_
  refine lv_goto (tgt := 14) hx hb dJ0_coder_7d493_10 (by decide) ?_
  refine W.widen (k := 0) (n := 0) (by decide) (by decide) ?_
  have hpost : (0 ≤ (0 : Int32).toInt ∧ (0 : Int32).toInt ≤ 0) := (by first | with_reducible assumption | exact ⟨by omega, by omega⟩)
  have hP9 : va_P (dC, dI) vwCl [] s.heap := hP
  have hD9 : va_D A [] := hD
  exact W.zret (v := 0) hx hb hr rfl (fun t ht hW => ⟨⟨0, (fun _ => 0), rfl, hpost, (fun _ => 0), (fun _ => (fun _ => 0)), (fun _ => (fun _ => 0)), by rw [ht]; exact hP9, va_K.moved hW.alike hK, hD9⟩, hS.F ht⟩) hS.2.2 dJ0_coder_7d493_14
set_option maxHeartbeats 8000000 in
set_option maxRecDepth 100000 in
theorem sJ0_length_8abf5_9 (l : Launch) (dC : Nat → ClassId) (dI : Nat → Nat → Nat) (adK adV : Nat → Nat) (sz : Nat) : Met l yJ0_length_8abf5 (zw yJ0_length_8abf5 cJ0_length_8abf5 1 (some .int)) { frames := 1, cells := 0, slots := 0, locals := 20 } (zPc dC dI adK adV [.ref (adK 9)] sz [] []) (va_Qi (fun (r : Int32) (u : Nat → Int32) => (3 ≤ r.toInt ∧ r.toInt ≤ 3)) (fun (u : Nat → Int32) (t : State) => ∃ (ww : Nat → Int64) (aa : Nat → Nat → Int32) (bb : Nat → Nat → Int64), va_P (dC, dI) vwCl [] t.heap ∧ va_K (dC, dI) vwCl [] t ∧ va_D (va_A [] sz) []) (va_A [] sz)) 0 0 (va_A [] sz) := by
  refine Met.ofW (cc := cJ0_length_8abf5) (maxL := 1) (ret := (some .int)) (by decide) rfl ?_
  intro p e s m args below meth c s₁ B hml hv
  obtain ⟨rfl, hsz, hP, hK, hD0, hE, hZ⟩ := hv
  have hx := B.exec
  have hb := B.bytes
  have hr := B.returns
  have hG : ∀ w ∈ zG, w.before _ s = true := fun w h => atoms_spec (ws := (zw yJ0_length_8abf5 cJ0_length_8abf5 1 (some .int))) B.pre w (List.mem_cons_of_mem _ h)
  have hown : s.vm.findClass RJ0 = some m.cls := findClass_of_methodNamed B.named
  have hlocks := B.notSynchronized

  subst hsz
  have hD := hD0.self (sz := s.heap.size)
  generalize hAe : va_A [] s.heap.size = A at hD hZ ⊢
  have hA : ∀ q : Nat, s.heap.size ≤ q → A q := fun q h => by rw [← hAe]; exact Or.inr h
  have hS : va_S A s.heap s.heap [] := va_S.rf
  have hl := lv_entry ([.ref (adK 9)]) (n := 1) (Nat.le_of_ble_eq_true rfl)
  rw [lg_entry_eq]
  generalize (lg_sl ([.ref (adK 9)]) ++ List.replicate (1 - (lg_sl ([.ref (adK 9)])).length) Slot.unset).toArray = ls at hl ⊢
  have hl : lv_has ls 1 [(0, .ref (adK 9))] := hl
  have b_ := zk_3
  refine lv_aload_n hx hb dJ0_length_8abf5_0 rfl (lv_at hl 0 rfl) ?_
  refine vk_getf hx hb (hZ.2.2.2.1.1 9 (by decide)).2.2.1 hS hown (hG _ zv2257) (fun _ h => h) dJ0_length_8abf5_1 ?_
  refine va_tlen (v := 3) hx hb (hZ.2.2.2.1.1 9 (by decide)).2.2.2 hS (by decide) dJ0_length_8abf5_4 ?_
  refine lv_aload_n hx hb dJ0_length_8abf5_5 rfl (lv_at hl 0 rfl) ?_
  have hPc := hP.sub (ws' := []) [] rfl
  have hDc := hD.sub (ws' := []) [] (by decide) rfl
  have hKc := hK.sub (tys' := []) [] rfl
  have hFc := va_free (wc := []) hD hS hA [] rfl
  refine va_calli (va_runV (As := []) (rest := [.int 3]) ⟨hx, hb, hml, hown, hG⟩ (sJ0_coder_7d493_9 l dC dI adK adV s.heap.size) (cwV 0 hG (zgV zv681 zv682 zv683 zv146 zv684) rfl rfl rfl (by decide +kernel) ⟨Nat.le_of_ble_eq_true rfl, Nat.le_of_ble_eq_true rfl⟩) ⟨zPc_blind, vk_recv hZ.2.2.2.1 (i := 9) (by decide) hS, zPc_pre hPc hKc hDc hE hS hFc hZ⟩ rfl rfl hl.1 rfl (lv_room (Nat.le_of_ble_eq_true rfl)) dJ0_length_8abf5_6 ⟨Nat.le_of_ble_eq_true rfl, Nat.le_of_ble_eq_true rfl⟩) hS (fun q _ h => hFc q h) hFc (fun r6_ u6_ t H1 locs ht hvm hw hB hz1 hk1 hS => ?_)
  replace hw : (0 ≤ r6_.toInt ∧ r6_.toInt ≤ 0) := hw
  have b_ := hw
  obtain rfl : r6_ = (0 : Int32) := zeqi.mpr ((show r6_.toInt = 0 from by omega).trans zk_0.symm)
  obtain ⟨w6_, a6_, b6_, hP1, hK1, hD1⟩ := hB
  rw [ht] at hP1
  obtain ⟨hP, hD⟩ := va_join (wr := []) (w1 := []) hP hD [] [] rfl rfl (by decide) (by decide) hk1 hFc hP1 hD1
  have hP : va_P (dC, dI) vwCl [] H1 := hP.sub [] rfl
  have hD : va_D A [] := hD.sub [] (by decide) rfl
  generalize H1 = H at hP hS ⊢
  clear hz1
  refine lv_ishr hx hb dJ0_length_8abf5_9 ?_
  refine lv_topi (fun z9 e_z9 => ?_)
  obtain rfl : z9 = (3 : Int32) := e_z9.trans (by decide)
  refine W.widen (k := 0) (n := 0) (by decide) (by decide) ?_
  have hpost : (3 ≤ (3 : Int32).toInt ∧ (3 : Int32).toInt ≤ 3) := (by first | with_reducible assumption | exact ⟨by omega, by omega⟩)
  have hP9 : va_P (dC, dI) vwCl [] H := hP
  have hD9 : va_D A [] := hD
  exact W.iret (v := 3) hx hb hr (fun t ht hW => ⟨⟨3, (fun _ => 0), rfl, hpost, (fun _ => 0), (fun _ => (fun _ => 0)), (fun _ => (fun _ => 0)), by rw [ht]; exact hP9, va_K.moved hW.alike hK, hD9⟩, hS.F ht⟩) hS.2.2 dJ0_length_8abf5_10
set_option maxHeartbeats 8000000 in
set_option maxRecDepth 100000 in
theorem sJ0_isLatin1_aae02_9 (l : Launch) (dC : Nat → ClassId) (dI : Nat → Nat → Nat) (adK adV : Nat → Nat) (sz : Nat) : Met l yJ0_isLatin1_aae02 (zw yJ0_isLatin1_aae02 cJ0_isLatin1_aae02 1 (some .boolean)) { frames := 0, cells := 0, slots := 0, locals := 0 } (zPc dC dI adK adV [.ref (adK 9)] sz [] []) (va_Qi (fun (r : Int32) (u : Nat → Int32) => (1 ≤ r.toInt ∧ r.toInt ≤ 1)) (fun (u : Nat → Int32) (t : State) => ∃ (ww : Nat → Int64) (aa : Nat → Nat → Int32) (bb : Nat → Nat → Int64), va_P (dC, dI) vwCl [] t.heap ∧ va_K (dC, dI) vwCl [] t ∧ va_D (va_A [] sz) []) (va_A [] sz)) 0 0 (va_A [] sz) := by
  refine Met.ofW (cc := cJ0_isLatin1_aae02) (maxL := 1) (ret := (some .boolean)) (by decide) rfl ?_
  intro p e s m args below meth c s₁ B hml hv
  obtain ⟨rfl, hsz, hP, hK, hD0, hE, hZ⟩ := hv
  have hx := B.exec
  have hb := B.bytes
  have hr := B.returns
  have hG : ∀ w ∈ zG, w.before _ s = true := fun w h => atoms_spec (ws := (zw yJ0_isLatin1_aae02 cJ0_isLatin1_aae02 1 (some .boolean))) B.pre w (List.mem_cons_of_mem _ h)
  have hown : s.vm.findClass RJ0 = some m.cls := findClass_of_methodNamed B.named
  have hlocks := B.notSynchronized

  subst hsz
  have hD := hD0.self (sz := s.heap.size)
  generalize hAe : va_A [] s.heap.size = A at hD hZ ⊢
  have hA : ∀ q : Nat, s.heap.size ≤ q → A q := fun q h => by rw [← hAe]; exact Or.inr h
  have hS : va_S A s.heap s.heap [] := va_S.rf
  have hl := lv_entry ([.ref (adK 9)]) (n := 1) (Nat.le_of_ble_eq_true rfl)
  rw [lg_entry_eq]
  generalize (lg_sl ([.ref (adK 9)]) ++ List.replicate (1 - (lg_sl ([.ref (adK 9)])).length) Slot.unset).toArray = ls at hl ⊢
  have hl : lv_has ls 1 [(0, .ref (adK 9))] := hl
  have b_ := zk_1
  refine va_gets hx hb hZ.2.2.1 hS hown (hG _ zv685) (fun _ h => h) dJ0_isLatin1_aae02_0 ?_
  refine lv_if_eq (tgt := 17) hx hb dJ0_isLatin1_aae02_3 (by decide) (fun c_ => absurd c_ (by decide)) (fun c_ => ?_)
  refine lv_aload_n hx hb dJ0_isLatin1_aae02_6 rfl (lv_at hl 0 rfl) ?_
  refine vk_getf hx hb (hZ.2.2.2.1.1 9 (by decide)).2.1 hS hown (hG _ zv2258) (fun _ h => h) dJ0_isLatin1_aae02_7 ?_
  refine lv_if_ne (tgt := 17) hx hb dJ0_isLatin1_aae02_10 (by decide) (fun c_ => absurd c_ (by decide)) (fun c_ => ?_)
  refine lv_iconst (v := 1) hx hb dJ0_isLatin1_aae02_13 (by decide) ?_
  refine lv_goto (tgt := 18) hx hb dJ0_isLatin1_aae02_14 (by decide) ?_
  refine W.widen (k := 0) (n := 0) (by decide) (by decide) ?_
  have hpost : (1 ≤ (1 : Int32).toInt ∧ (1 : Int32).toInt ≤ 1) := (by first | with_reducible assumption | exact ⟨by omega, by omega⟩)
  have hP9 : va_P (dC, dI) vwCl [] s.heap := hP
  have hD9 : va_D A [] := hD
  exact W.zret (v := 1) hx hb hr rfl (fun t ht hW => ⟨⟨1, (fun _ => 0), rfl, hpost, (fun _ => 0), (fun _ => (fun _ => 0)), (fun _ => (fun _ => 0)), by rw [ht]; exact hP9, va_K.moved hW.alike hK, hD9⟩, hS.F ht⟩) hS.2.2 dJ0_isLatin1_aae02_18
set_option maxHeartbeats 8000000 in
set_option maxRecDepth 100000 in
theorem sJ1_charAt_3b067_9 (l : Launch) (dC : Nat → ClassId) (dI : Nat → Nat → Nat) (adK adV : Nat → Nat) (sz : Nat) (x1 : Int32) (hx1 : 0 ≤ x1.toInt ∧ x1.toInt ≤ 2) : Met l yJ1_charAt_3b067 (zw yJ1_charAt_3b067 cJ1_charAt_3b067 2 (some .char)) { frames := 2, cells := 0, slots := 0, locals := 43 } (zPc dC dI adK adV [.ref (adV 9), .int x1] sz [] []) (va_Qi (fun (r : Int32) (u : Nat → Int32) => (0 ≤ r.toInt ∧ r.toInt ≤ 255) ∧ (r.toInt = zqCs 9 x1.toInt)) (fun (u : Nat → Int32) (t : State) => ∃ (ww : Nat → Int64) (aa : Nat → Nat → Int32) (bb : Nat → Nat → Int64), va_P (dC, dI) vwCl [] t.heap ∧ va_K (dC, dI) vwCl [] t ∧ va_D (va_A [] sz) []) (va_A [] sz)) 0 0 (va_A [] sz) := by
  refine Met.ofW (cc := cJ1_charAt_3b067) (maxL := 2) (ret := (some .char)) (by decide) rfl ?_
  intro p e s m args below meth c s₁ B hml hv
  obtain ⟨rfl, hsz, hP, hK, hD0, hE, hZ⟩ := hv
  have hx := B.exec
  have hb := B.bytes
  have hr := B.returns
  have hG : ∀ w ∈ zG, w.before _ s = true := fun w h => atoms_spec (ws := (zw yJ1_charAt_3b067 cJ1_charAt_3b067 2 (some .char))) B.pre w (List.mem_cons_of_mem _ h)
  have hown : s.vm.findClass RJ1 = some m.cls := findClass_of_methodNamed B.named
  have hlocks := B.notSynchronized

  subst hsz
  have hD := hD0.self (sz := s.heap.size)
  generalize hAe : va_A [] s.heap.size = A at hD hZ ⊢
  have hA : ∀ q : Nat, s.heap.size ≤ q → A q := fun q h => by rw [← hAe]; exact Or.inr h
  have hS : va_S A s.heap s.heap [] := va_S.rf
  have hl := lv_entry ([.ref (adV 9), .int x1]) (n := 2) (Nat.le_of_ble_eq_true rfl)
  rw [lg_entry_eq]
  generalize (lg_sl ([.ref (adV 9), .int x1]) ++ List.replicate (2 - (lg_sl ([.ref (adV 9), .int x1])).length) Slot.unset).toArray = ls at hl ⊢
  have hl : lv_has ls 2 [(0, .ref (adV 9)), (1, .int x1)] := hl
  have b_ := zk_3
  refine lv_iload_n hx hb dJ1_charAt_3b067_0 rfl (lv_at hl 1 rfl) ?_
  refine lv_aload_n hx hb dJ1_charAt_3b067_1 rfl (lv_at hl 0 rfl) ?_
  refine va_tlen (v := 3) hx hb (hZ.2.2.2.1.1 9 (by decide)).2.2.2 hS (by decide) dJ1_charAt_3b067_2 ?_
  have hPc := hP.sub (ws' := []) [] rfl
  have hDc := hD.sub (ws' := []) [] (by decide) rfl
  have hKc := hK.sub (tys' := []) [] rfl
  have hFc := va_free (wc := []) hD hS hA [] rfl
  refine va_callv (va_runS (As := [.int x1, .int 3]) (rest := []) ⟨hx, hb, hml, hown, hG⟩ (sJ0_checkIndex_df160_0 l dC dI adK adV s.heap.size x1 3 (show (0 : Int) ≤ (x1 : Int32).toInt ∧ (x1 : Int32).toInt ≤ (4 : Int) from (by first | with_reducible assumption | exact ⟨by omega, by omega⟩)) ⟨show (1 : Int) ≤ (3 : Int32).toInt from by decide, show (3 : Int32).toInt ≤ (5 : Int) from by decide⟩ (show x1.toInt < (3 : Int32).toInt from by omega)) (va_cwS 2 hG (zgS zv698 zv699 zv146 zv700) rfl rfl rfl (by decide +kernel) ⟨Nat.le_of_ble_eq_true rfl, Nat.le_of_ble_eq_true rfl⟩) ⟨zPc_blind, zPc_pre hPc hKc hDc hE hS hFc hZ⟩ rfl rfl hl.1 rfl (lv_room (Nat.le_of_ble_eq_true rfl)) dJ1_charAt_3b067_3 ⟨Nat.le_of_ble_eq_true rfl, Nat.le_of_ble_eq_true rfl⟩) hS (fun q _ h => hFc q h) hFc (fun u3_ t H1 locs ht hvm hw hB hz1 hk1 hS => ?_)
  obtain ⟨w3_, a3_, b3_, hP1, hK1, hD1⟩ := hB
  rw [ht] at hP1
  obtain ⟨hP, hD⟩ := va_join (wr := []) (w1 := []) hP hD [] [] rfl rfl (by decide) (by decide) hk1 hFc hP1 hD1
  have hP : va_P (dC, dI) vwCl [] H1 := hP.sub [] rfl
  have hD : va_D A [] := hD.sub [] (by decide) rfl
  generalize H1 = H at hP hS ⊢
  clear hz1
  refine lv_aload_n hx hb dJ1_charAt_3b067_6 rfl (lv_at hl 0 rfl) ?_
  refine lv_iload_n hx hb dJ1_charAt_3b067_7 rfl (lv_at hl 1 rfl) ?_
  refine va_tb (N := 3) hx hb (hZ.2.2.2.1.1 9 (by decide)).2.2.2 hS (zin_lit (n := 3) ⟨by omega, by omega⟩) rfl dJ1_charAt_3b067_8 ?_
  refine lv_topi (fun z8 e_z8 => ?_)
  refine lv_sipush (v := 255) hx hb dJ1_charAt_3b067_9 (by decide) ?_
  have b_ : -2147483648 ≤ z8.toInt ∧ z8.toInt ≤ 2147483647 := ⟨zlo _, zhi _⟩
  refine lv_iand hx hb dJ1_charAt_3b067_12 ?_
  refine lv_topi (fun z12 e_z12 => ?_)
  have b_ := zand (x := z8) zk_255 e_z12 (by decide)
  refine lv_i2c hx hb dJ1_charAt_3b067_13 rfl ?_
  refine lv_topi (fun z13 e_z13 => ?_)
  have b_ := zi2c rfl e_z13 (by omega) (by omega)
  refine W.widen (k := 0) (n := 0) (by decide) (by decide) ?_
  have hpost : (0 ≤ z13.toInt ∧ z13.toInt ≤ 255) ∧ (z13.toInt = zqCs 9 x1.toInt) := ⟨(by first | with_reducible assumption | exact ⟨by omega, by omega⟩), by exact zcs9 (by decide) e_z8 e_z12 e_z13 (by have q : x1.toNatClampNeg = x1.toInt.toNat := rfl; omega)⟩
  have hP9 : va_P (dC, dI) vwCl [] H := hP
  have hD9 : va_D A [] := hD
  exact W.zret (v := z13) hx hb hr (zn_char ⟨by omega, by omega⟩) (fun t ht hW => ⟨⟨z13, (fun _ => 0), rfl, hpost, (fun _ => 0), (fun _ => (fun _ => 0)), (fun _ => (fun _ => 0)), by rw [ht]; exact hP9, va_K.moved hW.alike hK, hD9⟩, hS.F ht⟩) hS.2.2 dJ1_charAt_3b067_14
set_option maxHeartbeats 8000000 in
set_option maxRecDepth 100000 in
theorem sJ0_charAt_5068e_9 (l : Launch) (dC : Nat → ClassId) (dI : Nat → Nat → Nat) (adK adV : Nat → Nat) (sz : Nat) (x1 : Int32) (hx1 : 0 ≤ x1.toInt ∧ x1.toInt ≤ 2) : Met l yJ0_charAt_5068e (zw yJ0_charAt_5068e cJ0_charAt_5068e 2 (some .char)) { frames := 3, cells := 0, slots := 0, locals := 64 } (zPc dC dI adK adV [.ref (adK 9), .int x1] sz [] []) (va_Qi (fun (r : Int32) (u : Nat → Int32) => (0 ≤ r.toInt ∧ r.toInt ≤ 255) ∧ (r.toInt = zqCs 9 x1.toInt)) (fun (u : Nat → Int32) (t : State) => ∃ (ww : Nat → Int64) (aa : Nat → Nat → Int32) (bb : Nat → Nat → Int64), va_P (dC, dI) vwCl [] t.heap ∧ va_K (dC, dI) vwCl [] t ∧ va_D (va_A [] sz) []) (va_A [] sz)) 0 0 (va_A [] sz) := by
  refine Met.ofW (cc := cJ0_charAt_5068e) (maxL := 2) (ret := (some .char)) (by decide) rfl ?_
  intro p e s m args below meth c s₁ B hml hv
  obtain ⟨rfl, hsz, hP, hK, hD0, hE, hZ⟩ := hv
  have hx := B.exec
  have hb := B.bytes
  have hr := B.returns
  have hG : ∀ w ∈ zG, w.before _ s = true := fun w h => atoms_spec (ws := (zw yJ0_charAt_5068e cJ0_charAt_5068e 2 (some .char))) B.pre w (List.mem_cons_of_mem _ h)
  have hown : s.vm.findClass RJ0 = some m.cls := findClass_of_methodNamed B.named
  have hlocks := B.notSynchronized

  subst hsz
  have hD := hD0.self (sz := s.heap.size)
  generalize hAe : va_A [] s.heap.size = A at hD hZ ⊢
  have hA : ∀ q : Nat, s.heap.size ≤ q → A q := fun q h => by rw [← hAe]; exact Or.inr h
  have hS : va_S A s.heap s.heap [] := va_S.rf
  have hl := lv_entry ([.ref (adK 9), .int x1]) (n := 2) (Nat.le_of_ble_eq_true rfl)
  rw [lg_entry_eq]
  generalize (lg_sl ([.ref (adK 9), .int x1]) ++ List.replicate (2 - (lg_sl ([.ref (adK 9), .int x1])).length) Slot.unset).toArray = ls at hl ⊢
  have hl : lv_has ls 2 [(0, .ref (adK 9)), (1, .int x1)] := hl
  refine lv_aload_n hx hb dJ0_charAt_5068e_0 rfl (lv_at hl 0 rfl) ?_
  have hPc := hP.sub (ws' := []) [] rfl
  have hDc := hD.sub (ws' := []) [] (by decide) rfl
  have hKc := hK.sub (tys' := []) [] rfl
  have hFc := va_free (wc := []) hD hS hA [] rfl
  refine va_calli (va_runV (As := []) (rest := []) ⟨hx, hb, hml, hown, hG⟩ (sJ0_isLatin1_aae02_9 l dC dI adK adV s.heap.size) (cwV 0 hG (zgV zv691 zv692 zv693 zv146 zv694) rfl rfl rfl (by decide +kernel) ⟨Nat.le_of_ble_eq_true rfl, Nat.le_of_ble_eq_true rfl⟩) ⟨zPc_blind, vk_recv hZ.2.2.2.1 (i := 9) (by decide) hS, zPc_pre hPc hKc hDc hE hS hFc hZ⟩ rfl rfl hl.1 rfl (lv_room (Nat.le_of_ble_eq_true rfl)) dJ0_charAt_5068e_1 ⟨Nat.le_of_ble_eq_true rfl, Nat.le_of_ble_eq_true rfl⟩) hS (fun q _ h => hFc q h) hFc (fun r1_ u1_ t H1 locs ht hvm hw hB hz1 hk1 hS => ?_)
  replace hw : (1 ≤ r1_.toInt ∧ r1_.toInt ≤ 1) := hw
  have b_ := hw
  obtain rfl : r1_ = (1 : Int32) := zeqi.mpr ((show r1_.toInt = 1 from by omega).trans zk_1.symm)
  obtain ⟨w1_, a1_, b1_, hP1, hK1, hD1⟩ := hB
  rw [ht] at hP1
  obtain ⟨hP, hD⟩ := va_join (wr := []) (w1 := []) hP hD [] [] rfl rfl (by decide) (by decide) hk1 hFc hP1 hD1
  have hP : va_P (dC, dI) vwCl [] H1 := hP.sub [] rfl
  have hD : va_D A [] := hD.sub [] (by decide) rfl
  generalize H1 = H at hP hS ⊢
  clear hz1
  refine lv_if_eq (tgt := 16) hx hb dJ0_charAt_5068e_4 (by decide) (fun c_ => absurd c_ (by decide)) (fun c_ => ?_)
  refine lv_aload_n hx hb dJ0_charAt_5068e_7 rfl (lv_at hl 0 rfl) ?_
  refine vk_getf hx hb (hZ.2.2.2.1.1 9 (by decide)).2.2.1 hS hown (hG _ zv2257) (fun _ h => h) dJ0_charAt_5068e_8 ?_
  refine lv_iload_n hx hb dJ0_charAt_5068e_11 rfl (lv_at hl 1 rfl) ?_
  have hPc := hP.sub (ws' := []) [] rfl
  have hDc := hD.sub (ws' := []) [] (by decide) rfl
  have hKc := hK.sub (tys' := []) [] rfl
  have hFc := va_free (wc := []) hD hS hA [] rfl
  refine va_calli (va_runS (As := [.ref (adV 9), .int x1]) (rest := []) ⟨hx, hb, hml, hown, hG⟩ (sJ1_charAt_3b067_9 l dC dI adK adV H.size x1 (show (0 : Int) ≤ (x1 : Int32).toInt ∧ (x1 : Int32).toInt ≤ (2 : Int) from (by first | with_reducible assumption | exact ⟨by omega, by omega⟩))) (va_cwS 2 hG (zgS zv695 zv696 zv147 zv697) rfl rfl rfl (by decide +kernel) ⟨Nat.le_of_ble_eq_true rfl, Nat.le_of_ble_eq_true rfl⟩) ⟨zPc_blind, zPc_pre hPc hKc hDc hE hS hFc hZ⟩ rfl rfl hl.1 rfl (lv_room (Nat.le_of_ble_eq_true rfl)) dJ0_charAt_5068e_12 ⟨Nat.le_of_ble_eq_true rfl, Nat.le_of_ble_eq_true rfl⟩) hS (fun q _ h => hFc q h) hFc (fun r12_ u12_ t H1 locs ht hvm hw hB hz1 hk1 hS => ?_)
  replace hw : (0 ≤ r12_.toInt ∧ r12_.toInt ≤ 255) ∧ (r12_.toInt = zqCs 9 x1.toInt) := hw
  obtain ⟨b_, hX12_0⟩ := hw
  obtain ⟨w12_, a12_, b12_, hP1, hK1, hD1⟩ := hB
  rw [ht] at hP1
  obtain ⟨hP, hD⟩ := va_join (wr := []) (w1 := []) hP hD [] [] rfl rfl (by decide) (by decide) hk1 hFc hP1 hD1
  have hP : va_P (dC, dI) vwCl [] H1 := hP.sub [] rfl
  have hD : va_D A [] := hD.sub [] (by decide) rfl
  generalize H1 = H at hP hS ⊢
  clear hz1
  refine W.widen (k := 0) (n := 0) (by decide) (by decide) ?_
  have hpost : (0 ≤ r12_.toInt ∧ r12_.toInt ≤ 255) ∧ (r12_.toInt = zqCs 9 x1.toInt) := ⟨(by first | with_reducible assumption | exact ⟨by omega, by omega⟩), by assumption⟩
  have hP9 : va_P (dC, dI) vwCl [] H := hP
  have hD9 : va_D A [] := hD
  exact W.zret (v := r12_) hx hb hr (zn_char ⟨by omega, by omega⟩) (fun t ht hW => ⟨⟨r12_, (fun _ => 0), rfl, hpost, (fun _ => 0), (fun _ => (fun _ => 0)), (fun _ => (fun _ => 0)), by rw [ht]; exact hP9, va_K.moved hW.alike hK, hD9⟩, hS.F ht⟩) hS.2.2 dJ0_charAt_5068e_15
set_option maxHeartbeats 8000000 in
set_option maxRecDepth 100000 in
theorem sX9_spells_2 (l : Launch) (dC : Nat → ClassId) (dI : Nat → Nat → Nat) (adK adV : Nat → Nat) (h0 : Nat) (h1 : Nat) (h2 : Nat) (k1 : ClassId) (sz : Nat) (v0 : Nat → Int32) (f1 : Nat → Int32) (x1 : Int32) (x2 : Int32) (hv0 : zR rg_Tape v0) (hx1 : 0 ≤ x1.toInt ∧ x1.toInt ≤ 600) (hx2 : 0 ≤ x2.toInt ∧ x2.toInt ≤ 601) : Met l yX9_spells (zw yX9_spells cX9_spells 5 (some .boolean)) { frames := 4, cells := 0, slots := 0, locals := 85 } (zPc dC dI adK adV [.ref h0, .int x1, .int x2, .ref (adK 9)] sz [(h0, .inr (9, mX9 h1 h2 v0)), (h1, zi k1 600 f1)] [(k1, .byte)]) (va_Qi (fun (r : Int32) (u : Nat → Int32) => (0 ≤ r.toInt ∧ r.toInt ≤ 1) ∧ (0 ≤ x1.toInt → x1.toInt ≤ 600 → 0 ≤ x2.toInt → x2.toInt ≤ (v0 2).toInt → r.toInt = 1 → zSpl f1 x1.toInt x2.toInt 9 3) ∧ (0 ≤ x1.toInt → x1.toInt ≤ 600 → 0 ≤ x2.toInt → x2.toInt ≤ (v0 2).toInt → r.toInt = 0 → ¬ zSpl f1 x1.toInt x2.toInt 9 3)) (fun (u : Nat → Int32) (t : State) => ∃ (ww : Nat → Int64) (aa : Nat → Nat → Int32) (bb : Nat → Nat → Int64), va_P (dC, dI) vwCl [(h0, .inr (9, mX9 h1 h2 v0)), (h1, zi k1 600 f1)] t.heap ∧ va_K (dC, dI) vwCl [(k1, .byte)] t ∧ va_D (va_A [(h0, .inr (9, mX9 h1 h2 v0)), (h1, zi k1 600 f1)] sz) [(h0, .inr (9, mX9 h1 h2 v0)), (h1, zi k1 600 f1)]) (va_A [(h0, .inr (9, mX9 h1 h2 v0)), (h1, zi k1 600 f1)] sz)) 0 0 (va_A [(h0, .inr (9, mX9 h1 h2 v0)), (h1, zi k1 600 f1)] sz) := by
  refine Met.ofW (cc := cX9_spells) (maxL := 5) (ret := (some .boolean)) (by decide) rfl ?_
  intro p e s m args below meth c s₁ B hml hv
  obtain ⟨rfl, hsz, hP, hK, hD0, hE, hZ⟩ := hv
  have hx := B.exec
  have hb := B.bytes
  have hr := B.returns
  have hG : ∀ w ∈ zG, w.before _ s = true := fun w h => atoms_spec (ws := (zw yX9_spells cX9_spells 5 (some .boolean))) B.pre w (List.mem_cons_of_mem _ h)
  have hown : s.vm.findClass RX9 = some m.cls := findClass_of_methodNamed B.named
  have hlocks := B.notSynchronized

  subst hsz
  have hD := hD0.self (sz := s.heap.size)
  generalize hAe : va_A [(h0, .inr (9, mX9 h1 h2 v0)), (h1, zi k1 600 f1)] s.heap.size = A at hD hZ ⊢
  have hA : ∀ q : Nat, s.heap.size ≤ q → A q := fun q h => by rw [← hAe]; exact Or.inr h
  have hS : va_S A s.heap s.heap [] := va_S.rf
  have hl := lv_entry ([.ref h0, .int x1, .int x2, .ref (adK 9)]) (n := 5) (Nat.le_of_ble_eq_true rfl)
  rw [lg_entry_eq]
  generalize (lg_sl ([.ref h0, .int x1, .int x2, .ref (adK 9)]) ++ List.replicate (5 - (lg_sl ([.ref h0, .int x1, .int x2, .ref (adK 9)])).length) Slot.unset).toArray = ls at hl ⊢
  have hl : lv_has ls 5 [(0, .ref h0), (1, .int x1), (2, .int x2), (3, .ref (adK 9))] := hl
  have b_ := zk_0
  have b_ := zk_1
  have b_ : 0 ≤ (v0 2).toInt ∧ (v0 2).toInt ≤ 600 := hv0 2
  refine lv_iload_n hx hb dX9_spells_0 rfl (lv_at hl 2 rfl) ?_
  refine lv_iload_n hx hb dX9_spells_1 rfl (lv_at hl 1 rfl) ?_
  refine lv_isub hx hb dX9_spells_2 ?_
  refine lv_topi (fun z2 e_z2 => ?_)
  have b_ := zsub rfl rfl e_z2 (by omega) (by omega)
  have b_ : 0 ≤ x1.toInt → x1.toInt ≤ 600 → 0 ≤ x2.toInt → x2.toInt ≤ 600 → z2.toInt = x2.toInt - x1.toInt := fun h1 h2 h3 h4 => zsub rfl rfl e_z2 (by omega) (by omega)
  refine lv_aload_n hx hb dX9_spells_3 rfl (lv_at hl 3 rfl) ?_
  have hPc := hP.sub (ws' := []) [] rfl
  have hDc := hD.sub (ws' := []) [] (by decide) rfl
  have hKc := hK.sub (tys' := []) [] rfl
  have hFc := va_free (wc := []) hD hS hA [] rfl
  refine va_calli (va_runV (As := []) (rest := [.int z2]) ⟨hx, hb, hml, hown, hG⟩ (sJ0_length_8abf5_9 l dC dI adK adV s.heap.size) (cwV 0 hG (zgV zv677 zv678 zv679 zv146 zv680) rfl rfl rfl (by decide +kernel) ⟨Nat.le_of_ble_eq_true rfl, Nat.le_of_ble_eq_true rfl⟩) ⟨zPc_blind, vk_recv hZ.2.2.2.1 (i := 9) (by decide) hS, zPc_pre hPc hKc hDc hE hS hFc hZ⟩ rfl rfl hl.1 rfl (lv_room (Nat.le_of_ble_eq_true rfl)) dX9_spells_4 ⟨Nat.le_of_ble_eq_true rfl, Nat.le_of_ble_eq_true rfl⟩) hS (fun q _ h => hFc q h) hFc (fun r4_ u4_ t H1 locs ht hvm hw hB hz1 hk1 hS => ?_)
  replace hw : (3 ≤ r4_.toInt ∧ r4_.toInt ≤ 3) := hw
  have b_ := hw
  obtain rfl : r4_ = (3 : Int32) := zeqi.mpr ((show r4_.toInt = 3 from by omega).trans zk_3.symm)
  obtain ⟨w4_, a4_, b4_, hP1, hK1, hD1⟩ := hB
  rw [ht] at hP1
  obtain ⟨hP, hD⟩ := va_join (wr := [(h0, .inr (9, mX9 h1 h2 v0)), (h1, zi k1 600 f1)]) (w1 := []) hP hD [] [0, 1] rfl rfl (by decide) (by decide) hk1 hFc hP1 hD1
  have hP : va_P (dC, dI) vwCl [(h0, .inr (9, mX9 h1 h2 v0)), (h1, zi k1 600 f1)] H1 := hP.sub [0, 1] rfl
  have hD : va_D A [(h0, .inr (9, mX9 h1 h2 v0)), (h1, zi k1 600 f1)] := hD.sub [0, 1] (by decide) rfl
  generalize H1 = H at hP hS ⊢
  clear hz1
  refine lv_icmp_ne (tgt := 22) hx hb dX9_spells_7 (by decide) (fun c_ => ?_) (fun c_ => ?_)
  · skip
    have b_ := zT_ne rfl zk_3 c_
    refine lv_iconst (v := 0) hx hb dX9_spells_22 (by decide) ?_
    refine W.widen (k := 0) (n := 0) (by decide) (by decide) ?_
    have hpost : (0 ≤ (0 : Int32).toInt ∧ (0 : Int32).toInt ≤ 1) ∧ (0 ≤ x1.toInt → x1.toInt ≤ 600 → 0 ≤ x2.toInt → x2.toInt ≤ (v0 2).toInt → (0 : Int32).toInt = 1 → zSpl f1 x1.toInt x2.toInt 9 3) ∧ (0 ≤ x1.toInt → x1.toInt ≤ 600 → 0 ≤ x2.toInt → x2.toInt ≤ (v0 2).toInt → (0 : Int32).toInt = 0 → ¬ zSpl f1 x1.toInt x2.toInt 9 3) := ⟨(by first | with_reducible assumption | exact ⟨by omega, by omega⟩), by first | (intro _ _ _ _ q; exact absurd q (by decide)) | exact fun _ _ _ _ _ => ⟨by omega, fun j hj => by have h9 : zSq _ _ _ _ := (by assumption); exact h9 j (by omega)⟩, by first | (intro _ _ _ _ q; exact absurd q (by decide)) | exact fun _ _ _ _ _ => zSpl_n e_z44 e_z47 (by omega) (by omega) (by omega) (by omega) (by omega) | exact fun _ _ _ _ _ q => by have q1 := q.1; omega⟩
    have hP9 : va_P (dC, dI) vwCl [(h0, .inr (9, mX9 h1 h2 v0)), (h1, zi k1 600 f1)] H := hP
    have hD9 : va_D A [(h0, .inr (9, mX9 h1 h2 v0)), (h1, zi k1 600 f1)] := hD
    exact W.zret (v := 0) hx hb hr rfl (fun t ht hW => ⟨⟨0, (fun _ => 0), rfl, hpost, (fun _ => 0), (fun _ => (fun _ => 0)), (fun _ => (fun _ => 0)), by rw [ht]; exact hP9, va_K.moved hW.alike hK, hD9⟩, hS.F ht⟩) hS.2.2 dX9_spells_23
  · skip
    have b_ := zF_ne rfl zk_3 c_
    refine lv_iload_n hx hb dX9_spells_10 rfl (lv_at hl 1 rfl) ?_
    refine lv_if_lt (tgt := 22) hx hb dX9_spells_11 (by decide) (fun c_ => False.elim (by have b_ := zT_lt rfl zk_0 c_; omega)) (fun c_ => ?_)
    have b_ := zF_lt rfl zk_0 c_
    refine lv_iload_n hx hb dX9_spells_14 rfl (lv_at hl 2 rfl) ?_
    refine lv_aload_n hx hb dX9_spells_15 rfl (lv_at hl 0 rfl) ?_
    refine va_get (D := (dC, dI)) (ci := 9) (v := .int (v0 2)) (C := RX9) (T := TX9) (N := 4) hx hb hG zuX9 hown hK hP 0 rfl rfl 2 (by decide) (hG _ zv171) (fun _ h9 => h9) rfl dX9_spells_16 ?_
    refine lv_icmp_le (tgt := 24) hx hb dX9_spells_19 (by decide) (fun c_ => ?_) (fun c_ => ?_)
    · skip
      have b_ := zT_le rfl rfl c_
      refine lv_iconst (v := 0) hx hb dX9_spells_24 (by decide) ?_
      refine lv_istore (lv' := [(4, .int 0), (0, .ref h0), (1, .int x1), (2, .int x2), (3, .ref (adK 9))]) hx hb dX9_spells_25 hl (by decide) rfl (fun ls hl => ?_)
      refine zcutL (fun u27_ => (3 - (u27_ 0).toInt).toNat) (fun H locs ls u27_ w27_ a27_ b27_ => va_P (dC, dI) vwCl [(h0, .inr (9, mX9 h1 h2 v0)), (h1, zi k1 600 f1)] H ∧ va_D A [(h0, .inr (9, mX9 h1 h2 v0)), (h1, zi k1 600 f1)] ∧ va_S A s.heap H locs ∧ lv_has ls 5 [(0, .ref h0), (1, .int x1), (2, .int x2), (3, .ref (adK 9)), (4, .int (u27_ 0))] ∧ (0 ≤ (u27_ 0).toInt ∧ (u27_ 0).toInt ≤ 3) ∧ (0 ≤ x1.toInt) ∧ (x2.toInt ≤ (v0 2).toInt) ∧ (zSq f1 x1.toInt 9 (u27_ 0).toInt)) (fun ls u27_ w27_ => F0 m 27 ls []) 0 0 ?_ (fun hJ27 => ?_)
      · skip
        intro H locs ls u27_ w27_ a27_ b27_ hc hJ27
        obtain ⟨hP, hD, hS, hl, b_, b_, b_, hI27_2⟩ := hc
        refine lv_iload hx hb dX9_spells_27 (lv_at hl 4 rfl) ?_
        refine lv_aload_n hx hb dX9_spells_29 rfl (lv_at hl 3 rfl) ?_
        have hPc := hP.sub (ws' := []) [] rfl
        have hDc := hD.sub (ws' := []) [] (by decide) rfl
        have hKc := hK.sub (tys' := []) [] rfl
        have hFc := va_free (wc := []) hD hS hA [] rfl
        refine va_calli (va_runV (As := []) (rest := [.int (u27_ 0)]) ⟨hx, hb, hml, hown, hG⟩ (sJ0_length_8abf5_9 l dC dI adK adV H.size) (cwV 0 hG (zgV zv677 zv678 zv679 zv146 zv680) rfl rfl rfl (by decide +kernel) ⟨Nat.le_of_ble_eq_true rfl, Nat.le_of_ble_eq_true rfl⟩) ⟨zPc_blind, vk_recv hZ.2.2.2.1 (i := 9) (by decide) hS, zPc_pre hPc hKc hDc hE hS hFc hZ⟩ rfl rfl hl.1 rfl (lv_room (Nat.le_of_ble_eq_true rfl)) dX9_spells_30 ⟨Nat.le_of_ble_eq_true rfl, Nat.le_of_ble_eq_true rfl⟩) hS (fun q _ h => hFc q h) hFc (fun r30_ u30_ t H1 locs ht hvm hw hB hz1 hk1 hS => ?_)
        replace hw : (3 ≤ r30_.toInt ∧ r30_.toInt ≤ 3) := hw
        have b_ := hw
        obtain rfl : r30_ = (3 : Int32) := zeqi.mpr ((show r30_.toInt = 3 from by omega).trans zk_3.symm)
        obtain ⟨w30_, a30_, b30_, hP1, hK1, hD1⟩ := hB
        rw [ht] at hP1
        obtain ⟨hP, hD⟩ := va_join (wr := [(h0, .inr (9, mX9 h1 h2 v0)), (h1, zi k1 600 f1)]) (w1 := []) hP hD [] [0, 1] rfl rfl (by decide) (by decide) hk1 hFc hP1 hD1
        have hP : va_P (dC, dI) vwCl [(h0, .inr (9, mX9 h1 h2 v0)), (h1, zi k1 600 f1)] H1 := hP.sub [0, 1] rfl
        have hD : va_D A [(h0, .inr (9, mX9 h1 h2 v0)), (h1, zi k1 600 f1)] := hD.sub [0, 1] (by decide) rfl
        generalize H1 = H at hP hS ⊢
        clear hz1
        refine lv_icmp_ge (tgt := 65) hx hb dX9_spells_33 (by decide) (fun c_ => ?_) (fun c_ => ?_)
        · skip
          have b_ := zT_ge rfl zk_3 c_
          refine lv_iconst (v := 1) hx hb dX9_spells_65 (by decide) ?_
          refine W.widen (k := 0) (n := 0) (by decide) (by decide) ?_
          have hpost : (0 ≤ (1 : Int32).toInt ∧ (1 : Int32).toInt ≤ 1) ∧ (0 ≤ x1.toInt → x1.toInt ≤ 600 → 0 ≤ x2.toInt → x2.toInt ≤ (v0 2).toInt → (1 : Int32).toInt = 1 → zSpl f1 x1.toInt x2.toInt 9 3) ∧ (0 ≤ x1.toInt → x1.toInt ≤ 600 → 0 ≤ x2.toInt → x2.toInt ≤ (v0 2).toInt → (1 : Int32).toInt = 0 → ¬ zSpl f1 x1.toInt x2.toInt 9 3) := ⟨(by first | with_reducible assumption | exact ⟨by omega, by omega⟩), by first | (intro _ _ _ _ q; exact absurd q (by decide)) | exact fun _ _ _ _ _ => ⟨by omega, fun j hj => by have h9 : zSq _ _ _ _ := (by assumption); exact h9 j (by omega)⟩, by first | (intro _ _ _ _ q; exact absurd q (by decide)) | exact fun _ _ _ _ _ => zSpl_n e_z44 e_z47 (by omega) (by omega) (by omega) (by omega) (by omega) | exact fun _ _ _ _ _ q => by have q1 := q.1; omega⟩
          have hP9 : va_P (dC, dI) vwCl [(h0, .inr (9, mX9 h1 h2 v0)), (h1, zi k1 600 f1)] H := hP
          have hD9 : va_D A [(h0, .inr (9, mX9 h1 h2 v0)), (h1, zi k1 600 f1)] := hD
          exact W.zret (v := 1) hx hb hr rfl (fun t ht hW => ⟨⟨1, (fun _ => 0), rfl, hpost, (fun _ => 0), (fun _ => (fun _ => 0)), (fun _ => (fun _ => 0)), by rw [ht]; exact hP9, va_K.moved hW.alike hK, hD9⟩, hS.F ht⟩) hS.2.2 dX9_spells_66
        · skip
          have b_ := zF_ge rfl zk_3 c_
          refine lv_aload_n hx hb dX9_spells_36 rfl (lv_at hl 0 rfl) ?_
          refine va_get (D := (dC, dI)) (ci := 9) (v := .ref h1) (C := RX9) (T := TX9) (N := 4) hx hb hG zuX9 hown hK hP 0 rfl rfl 0 (by decide) (hG _ zv169) (fun _ h9 => h9) rfl dX9_spells_37 ?_
          refine lv_iload_n hx hb dX9_spells_40 rfl (lv_at hl 1 rfl) ?_
          refine lv_iload hx hb dX9_spells_41 (lv_at hl 4 rfl) ?_
          refine lv_iadd hx hb dX9_spells_43 ?_
          refine lv_topi (fun z43 e_z43 => ?_)
          have b_ := zadd rfl rfl e_z43 (by omega) (by omega)
          refine va_bald hx hb hK hP 1 0 rfl rfl (zin_lit ⟨by omega, by omega⟩) dX9_spells_44 ?_
          refine lv_topi (fun z44 e_z44 => ?_)
          refine lv_bipush (v := 32) hx hb dX9_spells_45 (by decide) ?_
          have b_ : -2147483648 ≤ z44.toInt ∧ z44.toInt ≤ 2147483647 := ⟨zlo _, zhi _⟩
          refine lv_ior hx hb dX9_spells_47 ?_
          refine lv_topi (fun z47 e_z47 => ?_)
          refine lv_aload_n hx hb dX9_spells_48 rfl (lv_at hl 3 rfl) ?_
          refine lv_iload hx hb dX9_spells_49 (lv_at hl 4 rfl) ?_
          have hPc := hP.sub (ws' := []) [] rfl
          have hDc := hD.sub (ws' := []) [] (by decide) rfl
          have hKc := hK.sub (tys' := []) [] rfl
          have hFc := va_free (wc := []) hD hS hA [] rfl
          refine va_calli (va_runV (As := [.int (u27_ 0)]) (rest := [.int z47]) ⟨hx, hb, hml, hown, hG⟩ (sJ0_charAt_5068e_9 l dC dI adK adV H.size (u27_ 0) (show (0 : Int) ≤ ((u27_ 0) : Int32).toInt ∧ ((u27_ 0) : Int32).toInt ≤ (2 : Int) from (by first | with_reducible assumption | exact ⟨by omega, by omega⟩))) (cwV 1 hG (zgV zv687 zv688 zv689 zv146 zv690) rfl rfl rfl (by decide +kernel) ⟨Nat.le_of_ble_eq_true rfl, Nat.le_of_ble_eq_true rfl⟩) ⟨zPc_blind, vk_recv hZ.2.2.2.1 (i := 9) (by decide) hS, zPc_pre hPc hKc hDc hE hS hFc hZ⟩ rfl rfl hl.1 rfl (lv_room (Nat.le_of_ble_eq_true rfl)) dX9_spells_51 ⟨Nat.le_of_ble_eq_true rfl, Nat.le_of_ble_eq_true rfl⟩) hS (fun q _ h => hFc q h) hFc (fun r51_ u51_ t H1 locs ht hvm hw hB hz1 hk1 hS => ?_)
          replace hw : (0 ≤ r51_.toInt ∧ r51_.toInt ≤ 255) ∧ (r51_.toInt = zqCs 9 (u27_ 0).toInt) := hw
          obtain ⟨b_, hX51_0⟩ := hw
          obtain ⟨w51_, a51_, b51_, hP1, hK1, hD1⟩ := hB
          rw [ht] at hP1
          obtain ⟨hP, hD⟩ := va_join (wr := [(h0, .inr (9, mX9 h1 h2 v0)), (h1, zi k1 600 f1)]) (w1 := []) hP hD [] [0, 1] rfl rfl (by decide) (by decide) hk1 hFc hP1 hD1
          have hP : va_P (dC, dI) vwCl [(h0, .inr (9, mX9 h1 h2 v0)), (h1, zi k1 600 f1)] H1 := hP.sub [0, 1] rfl
          have hD : va_D A [(h0, .inr (9, mX9 h1 h2 v0)), (h1, zi k1 600 f1)] := hD.sub [0, 1] (by decide) rfl
          generalize H1 = H at hP hS ⊢
          clear hz1
          have b_ : -2147483648 ≤ z47.toInt ∧ z47.toInt ≤ 2147483647 := ⟨zlo _, zhi _⟩
          refine lv_icmp_eq (tgt := 59) hx hb dX9_spells_54 (by decide) (fun c_ => ?_) (fun c_ => ?_)
          · skip
            have b_ := zT_eq rfl rfl c_
            obtain ⟨z59, e_z59⟩ : ∃ z : Int32, z = (u27_ 0) + Int32.ofInt 1 := ⟨_, rfl⟩
            have b_ := zadd (x := (u27_ 0)) (y := Int32.ofInt 1) rfl (show (Int32.ofInt 1).toInt = 1 from by decide) e_z59 (by omega) (by omega)
            refine lv_iinc (v := z59) (lv' := [(4, .int z59), (0, .ref h0), (1, .int x1), (2, .int x2), (3, .ref (adK 9))]) hx hb dX9_spells_59 hl (k := 4) rfl e_z59.symm (by decide) rfl (fun ls hl => ?_)
            refine lv_goto (tgt := 27) hx hb dX9_spells_62 (by decide) ?_
            have hc : va_P (dC, dI) vwCl [(h0, .inr (9, mX9 h1 h2 v0)), (h1, zi k1 600 f1)] H ∧ va_D A [(h0, .inr (9, mX9 h1 h2 v0)), (h1, zi k1 600 f1)] ∧ va_S A s.heap H locs ∧ lv_has ls 5 [(0, .ref h0), (1, .int x1), (2, .int x2), (3, .ref (adK 9)), (4, .int z59)] ∧ (0 ≤ z59.toInt ∧ z59.toInt ≤ 3) ∧ (0 ≤ x1.toInt) ∧ (x2.toInt ≤ (v0 2).toInt) ∧ (zSq f1 x1.toInt 9 z59.toInt) := ⟨hP, hD, hS, lv_sub hl [1, 2, 3, 4, 0] rfl, (by first | with_reducible assumption | exact ⟨by omega, by omega⟩), by omega, by omega, by first | exact zSq_0 (by omega) | exact zSq_s (by assumption) e_z44 e_z47 (by omega) (by omega) (by omega) (by omega) (by omega)⟩
            exact hJ27 H locs ls (fun i => ([z59] : List (Int32)).getD i 0) (fun _ => 0) (fun _ => (fun _ => 0)) (fun _ => (fun _ => 0)) hc (show (3 - z59.toInt).toNat < (3 - (u27_ 0).toInt).toNat from by omega)
          · skip
            have b_ := zF_eq rfl rfl c_
            refine lv_iconst (v := 0) hx hb dX9_spells_57 (by decide) ?_
            refine W.widen (k := 0) (n := 0) (by decide) (by decide) ?_
            have hpost : (0 ≤ (0 : Int32).toInt ∧ (0 : Int32).toInt ≤ 1) ∧ (0 ≤ x1.toInt → x1.toInt ≤ 600 → 0 ≤ x2.toInt → x2.toInt ≤ (v0 2).toInt → (0 : Int32).toInt = 1 → zSpl f1 x1.toInt x2.toInt 9 3) ∧ (0 ≤ x1.toInt → x1.toInt ≤ 600 → 0 ≤ x2.toInt → x2.toInt ≤ (v0 2).toInt → (0 : Int32).toInt = 0 → ¬ zSpl f1 x1.toInt x2.toInt 9 3) := ⟨(by first | with_reducible assumption | exact ⟨by omega, by omega⟩), by first | (intro _ _ _ _ q; exact absurd q (by decide)) | exact fun _ _ _ _ _ => ⟨by omega, fun j hj => by have h9 : zSq _ _ _ _ := (by assumption); exact h9 j (by omega)⟩, by first | (intro _ _ _ _ q; exact absurd q (by decide)) | exact fun _ _ _ _ _ => zSpl_n e_z44 e_z47 (by omega) (by omega) (by omega) (by omega) (by omega) | exact fun _ _ _ _ _ q => by have q1 := q.1; omega⟩
            have hP9 : va_P (dC, dI) vwCl [(h0, .inr (9, mX9 h1 h2 v0)), (h1, zi k1 600 f1)] H := hP
            have hD9 : va_D A [(h0, .inr (9, mX9 h1 h2 v0)), (h1, zi k1 600 f1)] := hD
            exact W.zret (v := 0) hx hb hr rfl (fun t ht hW => ⟨⟨0, (fun _ => 0), rfl, hpost, (fun _ => 0), (fun _ => (fun _ => 0)), (fun _ => (fun _ => 0)), by rw [ht]; exact hP9, va_K.moved hW.alike hK, hD9⟩, hS.F ht⟩) hS.2.2 dX9_spells_58
      · skip
        have hc : va_P (dC, dI) vwCl [(h0, .inr (9, mX9 h1 h2 v0)), (h1, zi k1 600 f1)] H ∧ va_D A [(h0, .inr (9, mX9 h1 h2 v0)), (h1, zi k1 600 f1)] ∧ va_S A s.heap H locs ∧ lv_has ls 5 [(0, .ref h0), (1, .int x1), (2, .int x2), (3, .ref (adK 9)), (4, .int 0)] ∧ (0 ≤ (0 : Int32).toInt ∧ (0 : Int32).toInt ≤ 3) ∧ (0 ≤ x1.toInt) ∧ (x2.toInt ≤ (v0 2).toInt) ∧ (zSq f1 x1.toInt 9 (0 : Int32).toInt) := ⟨hP, hD, hS, lv_sub hl [1, 2, 3, 4, 0] rfl, (by first | with_reducible assumption | exact ⟨by omega, by omega⟩), by omega, by omega, by first | exact zSq_0 (by omega) | exact zSq_s (by assumption) e_z44 e_z47 (by omega) (by omega) (by omega) (by omega) (by omega)⟩
        exact hJ27 H locs ls (fun i => ([0] : List (Int32)).getD i 0) (fun _ => 0) (fun _ => (fun _ => 0)) (fun _ => (fun _ => 0)) hc
    · skip
      have b_ := zF_le rfl rfl c_
      refine lv_iconst (v := 0) hx hb dX9_spells_22 (by decide) ?_
      refine W.widen (k := 0) (n := 0) (by decide) (by decide) ?_
      have hpost : (0 ≤ (0 : Int32).toInt ∧ (0 : Int32).toInt ≤ 1) ∧ (0 ≤ x1.toInt → x1.toInt ≤ 600 → 0 ≤ x2.toInt → x2.toInt ≤ (v0 2).toInt → (0 : Int32).toInt = 1 → zSpl f1 x1.toInt x2.toInt 9 3) ∧ (0 ≤ x1.toInt → x1.toInt ≤ 600 → 0 ≤ x2.toInt → x2.toInt ≤ (v0 2).toInt → (0 : Int32).toInt = 0 → ¬ zSpl f1 x1.toInt x2.toInt 9 3) := ⟨(by first | with_reducible assumption | exact ⟨by omega, by omega⟩), by first | (intro _ _ _ _ q; exact absurd q (by decide)) | exact fun _ _ _ _ _ => ⟨by omega, fun j hj => by have h9 : zSq _ _ _ _ := (by assumption); exact h9 j (by omega)⟩, by first | (intro _ _ _ _ q; exact absurd q (by decide)) | exact fun _ _ _ _ _ => zSpl_n e_z44 e_z47 (by omega) (by omega) (by omega) (by omega) (by omega) | exact fun _ _ _ _ _ q => by have q1 := q.1; omega⟩
      have hP9 : va_P (dC, dI) vwCl [(h0, .inr (9, mX9 h1 h2 v0)), (h1, zi k1 600 f1)] H := hP
      have hD9 : va_D A [(h0, .inr (9, mX9 h1 h2 v0)), (h1, zi k1 600 f1)] := hD
      exact W.zret (v := 0) hx hb hr rfl (fun t ht hW => ⟨⟨0, (fun _ => 0), rfl, hpost, (fun _ => 0), (fun _ => (fun _ => 0)), (fun _ => (fun _ => 0)), by rw [ht]; exact hP9, va_K.moved hW.alike hK, hD9⟩, hS.F ht⟩) hS.2.2 dX9_spells_23
set_option maxHeartbeats 8000000 in
set_option maxRecDepth 100000 in
theorem sJ0_coder_7d493_10 (l : Launch) (dC : Nat → ClassId) (dI : Nat → Nat → Nat) (adK adV : Nat → Nat) (sz : Nat) : Met l yJ0_coder_7d493 (zw yJ0_coder_7d493 cJ0_coder_7d493 1 (some .byte)) { frames := 0, cells := 0, slots := 0, locals := 0 } (zPc dC dI adK adV [.ref (adK 10)] sz [] []) (va_Qi (fun (r : Int32) (u : Nat → Int32) => (0 ≤ r.toInt ∧ r.toInt ≤ 0)) (fun (u : Nat → Int32) (t : State) => ∃ (ww : Nat → Int64) (aa : Nat → Nat → Int32) (bb : Nat → Nat → Int64), va_P (dC, dI) vwCl [] t.heap ∧ va_K (dC, dI) vwCl [] t ∧ va_D (va_A [] sz) []) (va_A [] sz)) 0 0 (va_A [] sz) := by
  refine Met.ofW (cc := cJ0_coder_7d493) (maxL := 1) (ret := (some .byte)) (by decide) rfl ?_
  intro p e s m args below meth c s₁ B hml hv
  obtain ⟨rfl, hsz, hP, hK, hD0, hE, hZ⟩ := hv
  have hx := B.exec
  have hb := B.bytes
  have hr := B.returns
  have hG : ∀ w ∈ zG, w.before _ s = true := fun w h => atoms_spec (ws := (zw yJ0_coder_7d493 cJ0_coder_7d493 1 (some .byte))) B.pre w (List.mem_cons_of_mem _ h)
  have hown : s.vm.findClass RJ0 = some m.cls := findClass_of_methodNamed B.named
  have hlocks := B.notSynchronized

  subst hsz
  have hD := hD0.self (sz := s.heap.size)
  generalize hAe : va_A [] s.heap.size = A at hD hZ ⊢
  have hA : ∀ q : Nat, s.heap.size ≤ q → A q := fun q h => by rw [← hAe]; exact Or.inr h
  have hS : va_S A s.heap s.heap [] := va_S.rf
  have hl := lv_entry ([.ref (adK 10)]) (n := 1) (Nat.le_of_ble_eq_true rfl)
  rw [lg_entry_eq]
  generalize (lg_sl ([.ref (adK 10)]) ++ List.replicate (1 - (lg_sl ([.ref (adK 10)])).length) Slot.unset).toArray = ls at hl ⊢
  have hl : lv_has ls 1 [(0, .ref (adK 10))] := hl
  have b_ := zk_0
  refine va_gets hx hb hZ.2.2.1 hS hown (hG _ zv685) (fun _ h => h) dJ0_coder_7d493_0 ?_
  refine lv_if_eq (tgt := 13) hx hb dJ0_coder_7d493_3 (by decide) (fun c_ => absurd c_ (by decide)) (fun c_ => ?_)
  refine lv_aload_n hx hb dJ0_coder_7d493_6 rfl (lv_at hl 0 rfl) ?_
  refine vk_getf hx hb (hZ.2.2.2.1.1 10 (by decide)).2.1 hS hown (hG _ zv2258) (fun _ h => h) dJ0_coder_7d493_7 ?_
  refine lv_goto (tgt := 14) hx hb dJ0_coder_7d493_10 (by decide) ?_
  refine W.widen (k := 0) (n := 0) (by decide) (by decide) ?_
  have hpost : (0 ≤ (0 : Int32).toInt ∧ (0 : Int32).toInt ≤ 0) := (by first | with_reducible assumption | exact ⟨by omega, by omega⟩)
  have hP9 : va_P (dC, dI) vwCl [] s.heap := hP
  have hD9 : va_D A [] := hD
  exact W.zret (v := 0) hx hb hr rfl (fun t ht hW => ⟨⟨0, (fun _ => 0), rfl, hpost, (fun _ => 0), (fun _ => (fun _ => 0)), (fun _ => (fun _ => 0)), by rw [ht]; exact hP9, va_K.moved hW.alike hK, hD9⟩, hS.F ht⟩) hS.2.2 dJ0_coder_7d493_14
set_option maxHeartbeats 8000000 in
set_option maxRecDepth 100000 in
theorem sJ0_length_8abf5_10 (l : Launch) (dC : Nat → ClassId) (dI : Nat → Nat → Nat) (adK adV : Nat → Nat) (sz : Nat) : Met l yJ0_length_8abf5 (zw yJ0_length_8abf5 cJ0_length_8abf5 1 (some .int)) { frames := 1, cells := 0, slots := 0, locals := 20 } (zPc dC dI adK adV [.ref (adK 10)] sz [] []) (va_Qi (fun (r : Int32) (u : Nat → Int32) => (4 ≤ r.toInt ∧ r.toInt ≤ 4)) (fun (u : Nat → Int32) (t : State) => ∃ (ww : Nat → Int64) (aa : Nat → Nat → Int32) (bb : Nat → Nat → Int64), va_P (dC, dI) vwCl [] t.heap ∧ va_K (dC, dI) vwCl [] t ∧ va_D (va_A [] sz) []) (va_A [] sz)) 0 0 (va_A [] sz) := by
  refine Met.ofW (cc := cJ0_length_8abf5) (maxL := 1) (ret := (some .int)) (by decide) rfl ?_
  intro p e s m args below meth c s₁ B hml hv
  obtain ⟨rfl, hsz, hP, hK, hD0, hE, hZ⟩ := hv
  have hx := B.exec
  have hb := B.bytes
  have hr := B.returns
  have hG : ∀ w ∈ zG, w.before _ s = true := fun w h => atoms_spec (ws := (zw yJ0_length_8abf5 cJ0_length_8abf5 1 (some .int))) B.pre w (List.mem_cons_of_mem _ h)
  have hown : s.vm.findClass RJ0 = some m.cls := findClass_of_methodNamed B.named
  have hlocks := B.notSynchronized

  subst hsz
  have hD := hD0.self (sz := s.heap.size)
  generalize hAe : va_A [] s.heap.size = A at hD hZ ⊢
  have hA : ∀ q : Nat, s.heap.size ≤ q → A q := fun q h => by rw [← hAe]; exact Or.inr h
  have hS : va_S A s.heap s.heap [] := va_S.rf
  have hl := lv_entry ([.ref (adK 10)]) (n := 1) (Nat.le_of_ble_eq_true rfl)
  rw [lg_entry_eq]
  generalize (lg_sl ([.ref (adK 10)]) ++ List.replicate (1 - (lg_sl ([.ref (adK 10)])).length) Slot.unset).toArray = ls at hl ⊢
  have hl : lv_has ls 1 [(0, .ref (adK 10))] := hl
  have b_ := zk_4
  refine lv_aload_n hx hb dJ0_length_8abf5_0 rfl (lv_at hl 0 rfl) ?_
  refine vk_getf hx hb (hZ.2.2.2.1.1 10 (by decide)).2.2.1 hS hown (hG _ zv2257) (fun _ h => h) dJ0_length_8abf5_1 ?_
  refine va_tlen (v := 4) hx hb (hZ.2.2.2.1.1 10 (by decide)).2.2.2 hS (by decide) dJ0_length_8abf5_4 ?_
  refine lv_aload_n hx hb dJ0_length_8abf5_5 rfl (lv_at hl 0 rfl) ?_
  have hPc := hP.sub (ws' := []) [] rfl
  have hDc := hD.sub (ws' := []) [] (by decide) rfl
  have hKc := hK.sub (tys' := []) [] rfl
  have hFc := va_free (wc := []) hD hS hA [] rfl
  refine va_calli (va_runV (As := []) (rest := [.int 4]) ⟨hx, hb, hml, hown, hG⟩ (sJ0_coder_7d493_10 l dC dI adK adV s.heap.size) (cwV 0 hG (zgV zv681 zv682 zv683 zv146 zv684) rfl rfl rfl (by decide +kernel) ⟨Nat.le_of_ble_eq_true rfl, Nat.le_of_ble_eq_true rfl⟩) ⟨zPc_blind, vk_recv hZ.2.2.2.1 (i := 10) (by decide) hS, zPc_pre hPc hKc hDc hE hS hFc hZ⟩ rfl rfl hl.1 rfl (lv_room (Nat.le_of_ble_eq_true rfl)) dJ0_length_8abf5_6 ⟨Nat.le_of_ble_eq_true rfl, Nat.le_of_ble_eq_true rfl⟩) hS (fun q _ h => hFc q h) hFc (fun r6_ u6_ t H1 locs ht hvm hw hB hz1 hk1 hS => ?_)
  replace hw : (0 ≤ r6_.toInt ∧ r6_.toInt ≤ 0) := hw
  have b_ := hw
  obtain rfl : r6_ = (0 : Int32) := zeqi.mpr ((show r6_.toInt = 0 from by omega).trans zk_0.symm)
  obtain ⟨w6_, a6_, b6_, hP1, hK1, hD1⟩ := hB
  rw [ht] at hP1
  obtain ⟨hP, hD⟩ := va_join (wr := []) (w1 := []) hP hD [] [] rfl rfl (by decide) (by decide) hk1 hFc hP1 hD1
  have hP : va_P (dC, dI) vwCl [] H1 := hP.sub [] rfl
  have hD : va_D A [] := hD.sub [] (by decide) rfl
  generalize H1 = H at hP hS ⊢
  clear hz1
  refine lv_ishr hx hb dJ0_length_8abf5_9 ?_
  refine lv_topi (fun z9 e_z9 => ?_)
  obtain rfl : z9 = (4 : Int32) := e_z9.trans (by decide)
  refine W.widen (k := 0) (n := 0) (by decide) (by decide) ?_
  have hpost : (4 ≤ (4 : Int32).toInt ∧ (4 : Int32).toInt ≤ 4) := (by first | with_reducible assumption | exact ⟨by omega, by omega⟩)
  have hP9 : va_P (dC, dI) vwCl [] H := hP
  have hD9 : va_D A [] := hD
  exact W.iret (v := 4) hx hb hr (fun t ht hW => ⟨⟨4, (fun _ => 0), rfl, hpost, (fun _ => 0), (fun _ => (fun _ => 0)), (fun _ => (fun _ => 0)), by rw [ht]; exact hP9, va_K.moved hW.alike hK, hD9⟩, hS.F ht⟩) hS.2.2 dJ0_length_8abf5_10
set_option maxHeartbeats 8000000 in
set_option maxRecDepth 100000 in
theorem sJ0_isLatin1_aae02_10 (l : Launch) (dC : Nat → ClassId) (dI : Nat → Nat → Nat) (adK adV : Nat → Nat) (sz : Nat) : Met l yJ0_isLatin1_aae02 (zw yJ0_isLatin1_aae02 cJ0_isLatin1_aae02 1 (some .boolean)) { frames := 0, cells := 0, slots := 0, locals := 0 } (zPc dC dI adK adV [.ref (adK 10)] sz [] []) (va_Qi (fun (r : Int32) (u : Nat → Int32) => (1 ≤ r.toInt ∧ r.toInt ≤ 1)) (fun (u : Nat → Int32) (t : State) => ∃ (ww : Nat → Int64) (aa : Nat → Nat → Int32) (bb : Nat → Nat → Int64), va_P (dC, dI) vwCl [] t.heap ∧ va_K (dC, dI) vwCl [] t ∧ va_D (va_A [] sz) []) (va_A [] sz)) 0 0 (va_A [] sz) := by
  refine Met.ofW (cc := cJ0_isLatin1_aae02) (maxL := 1) (ret := (some .boolean)) (by decide) rfl ?_
  intro p e s m args below meth c s₁ B hml hv
  obtain ⟨rfl, hsz, hP, hK, hD0, hE, hZ⟩ := hv
  have hx := B.exec
  have hb := B.bytes
  have hr := B.returns
  have hG : ∀ w ∈ zG, w.before _ s = true := fun w h => atoms_spec (ws := (zw yJ0_isLatin1_aae02 cJ0_isLatin1_aae02 1 (some .boolean))) B.pre w (List.mem_cons_of_mem _ h)
  have hown : s.vm.findClass RJ0 = some m.cls := findClass_of_methodNamed B.named
  have hlocks := B.notSynchronized

  subst hsz
  have hD := hD0.self (sz := s.heap.size)
  generalize hAe : va_A [] s.heap.size = A at hD hZ ⊢
  have hA : ∀ q : Nat, s.heap.size ≤ q → A q := fun q h => by rw [← hAe]; exact Or.inr h
  have hS : va_S A s.heap s.heap [] := va_S.rf
  have hl := lv_entry ([.ref (adK 10)]) (n := 1) (Nat.le_of_ble_eq_true rfl)
  rw [lg_entry_eq]
  generalize (lg_sl ([.ref (adK 10)]) ++ List.replicate (1 - (lg_sl ([.ref (adK 10)])).length) Slot.unset).toArray = ls at hl ⊢
  have hl : lv_has ls 1 [(0, .ref (adK 10))] := hl
  have b_ := zk_1
  refine va_gets hx hb hZ.2.2.1 hS hown (hG _ zv685) (fun _ h => h) dJ0_isLatin1_aae02_0 ?_
  refine lv_if_eq (tgt := 17) hx hb dJ0_isLatin1_aae02_3 (by decide) (fun c_ => absurd c_ (by decide)) (fun c_ => ?_)
  refine lv_aload_n hx hb dJ0_isLatin1_aae02_6 rfl (lv_at hl 0 rfl) ?_
  refine vk_getf hx hb (hZ.2.2.2.1.1 10 (by decide)).2.1 hS hown (hG _ zv2258) (fun _ h => h) dJ0_isLatin1_aae02_7 ?_
  refine lv_if_ne (tgt := 17) hx hb dJ0_isLatin1_aae02_10 (by decide) (fun c_ => absurd c_ (by decide)) (fun c_ => ?_)
  refine lv_iconst (v := 1) hx hb dJ0_isLatin1_aae02_13 (by decide) ?_
  refine lv_goto (tgt := 18) hx hb dJ0_isLatin1_aae02_14 (by decide) ?_
  refine W.widen (k := 0) (n := 0) (by decide) (by decide) ?_
  have hpost : (1 ≤ (1 : Int32).toInt ∧ (1 : Int32).toInt ≤ 1) := (by first | with_reducible assumption | exact ⟨by omega, by omega⟩)
  have hP9 : va_P (dC, dI) vwCl [] s.heap := hP
  have hD9 : va_D A [] := hD
  exact W.zret (v := 1) hx hb hr rfl (fun t ht hW => ⟨⟨1, (fun _ => 0), rfl, hpost, (fun _ => 0), (fun _ => (fun _ => 0)), (fun _ => (fun _ => 0)), by rw [ht]; exact hP9, va_K.moved hW.alike hK, hD9⟩, hS.F ht⟩) hS.2.2 dJ0_isLatin1_aae02_18
set_option maxHeartbeats 8000000 in
set_option maxRecDepth 100000 in
theorem sJ1_charAt_3b067_10 (l : Launch) (dC : Nat → ClassId) (dI : Nat → Nat → Nat) (adK adV : Nat → Nat) (sz : Nat) (x1 : Int32) (hx1 : 0 ≤ x1.toInt ∧ x1.toInt ≤ 3) : Met l yJ1_charAt_3b067 (zw yJ1_charAt_3b067 cJ1_charAt_3b067 2 (some .char)) { frames := 2, cells := 0, slots := 0, locals := 43 } (zPc dC dI adK adV [.ref (adV 10), .int x1] sz [] []) (va_Qi (fun (r : Int32) (u : Nat → Int32) => (0 ≤ r.toInt ∧ r.toInt ≤ 255) ∧ (r.toInt = zqCs 10 x1.toInt)) (fun (u : Nat → Int32) (t : State) => ∃ (ww : Nat → Int64) (aa : Nat → Nat → Int32) (bb : Nat → Nat → Int64), va_P (dC, dI) vwCl [] t.heap ∧ va_K (dC, dI) vwCl [] t ∧ va_D (va_A [] sz) []) (va_A [] sz)) 0 0 (va_A [] sz) := by
  refine Met.ofW (cc := cJ1_charAt_3b067) (maxL := 2) (ret := (some .char)) (by decide) rfl ?_
  intro p e s m args below meth c s₁ B hml hv
  obtain ⟨rfl, hsz, hP, hK, hD0, hE, hZ⟩ := hv
  have hx := B.exec
  have hb := B.bytes
  have hr := B.returns
  have hG : ∀ w ∈ zG, w.before _ s = true := fun w h => atoms_spec (ws := (zw yJ1_charAt_3b067 cJ1_charAt_3b067 2 (some .char))) B.pre w (List.mem_cons_of_mem _ h)
  have hown : s.vm.findClass RJ1 = some m.cls := findClass_of_methodNamed B.named
  have hlocks := B.notSynchronized

  subst hsz
  have hD := hD0.self (sz := s.heap.size)
  generalize hAe : va_A [] s.heap.size = A at hD hZ ⊢
  have hA : ∀ q : Nat, s.heap.size ≤ q → A q := fun q h => by rw [← hAe]; exact Or.inr h
  have hS : va_S A s.heap s.heap [] := va_S.rf
  have hl := lv_entry ([.ref (adV 10), .int x1]) (n := 2) (Nat.le_of_ble_eq_true rfl)
  rw [lg_entry_eq]
  generalize (lg_sl ([.ref (adV 10), .int x1]) ++ List.replicate (2 - (lg_sl ([.ref (adV 10), .int x1])).length) Slot.unset).toArray = ls at hl ⊢
  have hl : lv_has ls 2 [(0, .ref (adV 10)), (1, .int x1)] := hl
  have b_ := zk_4
  refine lv_iload_n hx hb dJ1_charAt_3b067_0 rfl (lv_at hl 1 rfl) ?_
  refine lv_aload_n hx hb dJ1_charAt_3b067_1 rfl (lv_at hl 0 rfl) ?_
  refine va_tlen (v := 4) hx hb (hZ.2.2.2.1.1 10 (by decide)).2.2.2 hS (by decide) dJ1_charAt_3b067_2 ?_
  have hPc := hP.sub (ws' := []) [] rfl
  have hDc := hD.sub (ws' := []) [] (by decide) rfl
  have hKc := hK.sub (tys' := []) [] rfl
  have hFc := va_free (wc := []) hD hS hA [] rfl
  refine va_callv (va_runS (As := [.int x1, .int 4]) (rest := []) ⟨hx, hb, hml, hown, hG⟩ (sJ0_checkIndex_df160_0 l dC dI adK adV s.heap.size x1 4 (show (0 : Int) ≤ (x1 : Int32).toInt ∧ (x1 : Int32).toInt ≤ (4 : Int) from (by first | with_reducible assumption | exact ⟨by omega, by omega⟩)) ⟨show (1 : Int) ≤ (4 : Int32).toInt from by decide, show (4 : Int32).toInt ≤ (5 : Int) from by decide⟩ (show x1.toInt < (4 : Int32).toInt from by omega)) (va_cwS 2 hG (zgS zv698 zv699 zv146 zv700) rfl rfl rfl (by decide +kernel) ⟨Nat.le_of_ble_eq_true rfl, Nat.le_of_ble_eq_true rfl⟩) ⟨zPc_blind, zPc_pre hPc hKc hDc hE hS hFc hZ⟩ rfl rfl hl.1 rfl (lv_room (Nat.le_of_ble_eq_true rfl)) dJ1_charAt_3b067_3 ⟨Nat.le_of_ble_eq_true rfl, Nat.le_of_ble_eq_true rfl⟩) hS (fun q _ h => hFc q h) hFc (fun u3_ t H1 locs ht hvm hw hB hz1 hk1 hS => ?_)
  obtain ⟨w3_, a3_, b3_, hP1, hK1, hD1⟩ := hB
  rw [ht] at hP1
  obtain ⟨hP, hD⟩ := va_join (wr := []) (w1 := []) hP hD [] [] rfl rfl (by decide) (by decide) hk1 hFc hP1 hD1
  have hP : va_P (dC, dI) vwCl [] H1 := hP.sub [] rfl
  have hD : va_D A [] := hD.sub [] (by decide) rfl
  generalize H1 = H at hP hS ⊢
  clear hz1
  refine lv_aload_n hx hb dJ1_charAt_3b067_6 rfl (lv_at hl 0 rfl) ?_
  refine lv_iload_n hx hb dJ1_charAt_3b067_7 rfl (lv_at hl 1 rfl) ?_
  refine va_tb (N := 4) hx hb (hZ.2.2.2.1.1 10 (by decide)).2.2.2 hS (zin_lit (n := 4) ⟨by omega, by omega⟩) rfl dJ1_charAt_3b067_8 ?_
  refine lv_topi (fun z8 e_z8 => ?_)
  refine lv_sipush (v := 255) hx hb dJ1_charAt_3b067_9 (by decide) ?_
  have b_ : -2147483648 ≤ z8.toInt ∧ z8.toInt ≤ 2147483647 := ⟨zlo _, zhi _⟩
  refine lv_iand hx hb dJ1_charAt_3b067_12 ?_
  refine lv_topi (fun z12 e_z12 => ?_)
  have b_ := zand (x := z8) zk_255 e_z12 (by decide)
  refine lv_i2c hx hb dJ1_charAt_3b067_13 rfl ?_
  refine lv_topi (fun z13 e_z13 => ?_)
  have b_ := zi2c rfl e_z13 (by omega) (by omega)
  refine W.widen (k := 0) (n := 0) (by decide) (by decide) ?_
  have hpost : (0 ≤ z13.toInt ∧ z13.toInt ≤ 255) ∧ (z13.toInt = zqCs 10 x1.toInt) := ⟨(by first | with_reducible assumption | exact ⟨by omega, by omega⟩), by exact zcs9 (by decide) e_z8 e_z12 e_z13 (by have q : x1.toNatClampNeg = x1.toInt.toNat := rfl; omega)⟩
  have hP9 : va_P (dC, dI) vwCl [] H := hP
  have hD9 : va_D A [] := hD
  exact W.zret (v := z13) hx hb hr (zn_char ⟨by omega, by omega⟩) (fun t ht hW => ⟨⟨z13, (fun _ => 0), rfl, hpost, (fun _ => 0), (fun _ => (fun _ => 0)), (fun _ => (fun _ => 0)), by rw [ht]; exact hP9, va_K.moved hW.alike hK, hD9⟩, hS.F ht⟩) hS.2.2 dJ1_charAt_3b067_14
set_option maxHeartbeats 8000000 in
set_option maxRecDepth 100000 in
theorem sJ0_charAt_5068e_10 (l : Launch) (dC : Nat → ClassId) (dI : Nat → Nat → Nat) (adK adV : Nat → Nat) (sz : Nat) (x1 : Int32) (hx1 : 0 ≤ x1.toInt ∧ x1.toInt ≤ 3) : Met l yJ0_charAt_5068e (zw yJ0_charAt_5068e cJ0_charAt_5068e 2 (some .char)) { frames := 3, cells := 0, slots := 0, locals := 64 } (zPc dC dI adK adV [.ref (adK 10), .int x1] sz [] []) (va_Qi (fun (r : Int32) (u : Nat → Int32) => (0 ≤ r.toInt ∧ r.toInt ≤ 255) ∧ (r.toInt = zqCs 10 x1.toInt)) (fun (u : Nat → Int32) (t : State) => ∃ (ww : Nat → Int64) (aa : Nat → Nat → Int32) (bb : Nat → Nat → Int64), va_P (dC, dI) vwCl [] t.heap ∧ va_K (dC, dI) vwCl [] t ∧ va_D (va_A [] sz) []) (va_A [] sz)) 0 0 (va_A [] sz) := by
  refine Met.ofW (cc := cJ0_charAt_5068e) (maxL := 2) (ret := (some .char)) (by decide) rfl ?_
  intro p e s m args below meth c s₁ B hml hv
  obtain ⟨rfl, hsz, hP, hK, hD0, hE, hZ⟩ := hv
  have hx := B.exec
  have hb := B.bytes
  have hr := B.returns
  have hG : ∀ w ∈ zG, w.before _ s = true := fun w h => atoms_spec (ws := (zw yJ0_charAt_5068e cJ0_charAt_5068e 2 (some .char))) B.pre w (List.mem_cons_of_mem _ h)
  have hown : s.vm.findClass RJ0 = some m.cls := findClass_of_methodNamed B.named
  have hlocks := B.notSynchronized

  subst hsz
  have hD := hD0.self (sz := s.heap.size)
  generalize hAe : va_A [] s.heap.size = A at hD hZ ⊢
  have hA : ∀ q : Nat, s.heap.size ≤ q → A q := fun q h => by rw [← hAe]; exact Or.inr h
  have hS : va_S A s.heap s.heap [] := va_S.rf
  have hl := lv_entry ([.ref (adK 10), .int x1]) (n := 2) (Nat.le_of_ble_eq_true rfl)
  rw [lg_entry_eq]
  generalize (lg_sl ([.ref (adK 10), .int x1]) ++ List.replicate (2 - (lg_sl ([.ref (adK 10), .int x1])).length) Slot.unset).toArray = ls at hl ⊢
  have hl : lv_has ls 2 [(0, .ref (adK 10)), (1, .int x1)] := hl
  refine lv_aload_n hx hb dJ0_charAt_5068e_0 rfl (lv_at hl 0 rfl) ?_
  have hPc := hP.sub (ws' := []) [] rfl
  have hDc := hD.sub (ws' := []) [] (by decide) rfl
  have hKc := hK.sub (tys' := []) [] rfl
  have hFc := va_free (wc := []) hD hS hA [] rfl
  refine va_calli (va_runV (As := []) (rest := []) ⟨hx, hb, hml, hown, hG⟩ (sJ0_isLatin1_aae02_10 l dC dI adK adV s.heap.size) (cwV 0 hG (zgV zv691 zv692 zv693 zv146 zv694) rfl rfl rfl (by decide +kernel) ⟨Nat.le_of_ble_eq_true rfl, Nat.le_of_ble_eq_true rfl⟩) ⟨zPc_blind, vk_recv hZ.2.2.2.1 (i := 10) (by decide) hS, zPc_pre hPc hKc hDc hE hS hFc hZ⟩ rfl rfl hl.1 rfl (lv_room (Nat.le_of_ble_eq_true rfl)) dJ0_charAt_5068e_1 ⟨Nat.le_of_ble_eq_true rfl, Nat.le_of_ble_eq_true rfl⟩) hS (fun q _ h => hFc q h) hFc (fun r1_ u1_ t H1 locs ht hvm hw hB hz1 hk1 hS => ?_)
  replace hw : (1 ≤ r1_.toInt ∧ r1_.toInt ≤ 1) := hw
  have b_ := hw
  obtain rfl : r1_ = (1 : Int32) := zeqi.mpr ((show r1_.toInt = 1 from by omega).trans zk_1.symm)
  obtain ⟨w1_, a1_, b1_, hP1, hK1, hD1⟩ := hB
  rw [ht] at hP1
  obtain ⟨hP, hD⟩ := va_join (wr := []) (w1 := []) hP hD [] [] rfl rfl (by decide) (by decide) hk1 hFc hP1 hD1
  have hP : va_P (dC, dI) vwCl [] H1 := hP.sub [] rfl
  have hD : va_D A [] := hD.sub [] (by decide) rfl
  generalize H1 = H at hP hS ⊢
  clear hz1
  refine lv_if_eq (tgt := 16) hx hb dJ0_charAt_5068e_4 (by decide) (fun c_ => absurd c_ (by decide)) (fun c_ => ?_)
  refine lv_aload_n hx hb dJ0_charAt_5068e_7 rfl (lv_at hl 0 rfl) ?_
  refine vk_getf hx hb (hZ.2.2.2.1.1 10 (by decide)).2.2.1 hS hown (hG _ zv2257) (fun _ h => h) dJ0_charAt_5068e_8 ?_
  refine lv_iload_n hx hb dJ0_charAt_5068e_11 rfl (lv_at hl 1 rfl) ?_
  have hPc := hP.sub (ws' := []) [] rfl
  have hDc := hD.sub (ws' := []) [] (by decide) rfl
  have hKc := hK.sub (tys' := []) [] rfl
  have hFc := va_free (wc := []) hD hS hA [] rfl
  refine va_calli (va_runS (As := [.ref (adV 10), .int x1]) (rest := []) ⟨hx, hb, hml, hown, hG⟩ (sJ1_charAt_3b067_10 l dC dI adK adV H.size x1 (show (0 : Int) ≤ (x1 : Int32).toInt ∧ (x1 : Int32).toInt ≤ (3 : Int) from (by first | with_reducible assumption | exact ⟨by omega, by omega⟩))) (va_cwS 2 hG (zgS zv695 zv696 zv147 zv697) rfl rfl rfl (by decide +kernel) ⟨Nat.le_of_ble_eq_true rfl, Nat.le_of_ble_eq_true rfl⟩) ⟨zPc_blind, zPc_pre hPc hKc hDc hE hS hFc hZ⟩ rfl rfl hl.1 rfl (lv_room (Nat.le_of_ble_eq_true rfl)) dJ0_charAt_5068e_12 ⟨Nat.le_of_ble_eq_true rfl, Nat.le_of_ble_eq_true rfl⟩) hS (fun q _ h => hFc q h) hFc (fun r12_ u12_ t H1 locs ht hvm hw hB hz1 hk1 hS => ?_)
  replace hw : (0 ≤ r12_.toInt ∧ r12_.toInt ≤ 255) ∧ (r12_.toInt = zqCs 10 x1.toInt) := hw
  obtain ⟨b_, hX12_0⟩ := hw
  obtain ⟨w12_, a12_, b12_, hP1, hK1, hD1⟩ := hB
  rw [ht] at hP1
  obtain ⟨hP, hD⟩ := va_join (wr := []) (w1 := []) hP hD [] [] rfl rfl (by decide) (by decide) hk1 hFc hP1 hD1
  have hP : va_P (dC, dI) vwCl [] H1 := hP.sub [] rfl
  have hD : va_D A [] := hD.sub [] (by decide) rfl
  generalize H1 = H at hP hS ⊢
  clear hz1
  refine W.widen (k := 0) (n := 0) (by decide) (by decide) ?_
  have hpost : (0 ≤ r12_.toInt ∧ r12_.toInt ≤ 255) ∧ (r12_.toInt = zqCs 10 x1.toInt) := ⟨(by first | with_reducible assumption | exact ⟨by omega, by omega⟩), by assumption⟩
  have hP9 : va_P (dC, dI) vwCl [] H := hP
  have hD9 : va_D A [] := hD
  exact W.zret (v := r12_) hx hb hr (zn_char ⟨by omega, by omega⟩) (fun t ht hW => ⟨⟨r12_, (fun _ => 0), rfl, hpost, (fun _ => 0), (fun _ => (fun _ => 0)), (fun _ => (fun _ => 0)), by rw [ht]; exact hP9, va_K.moved hW.alike hK, hD9⟩, hS.F ht⟩) hS.2.2 dJ0_charAt_5068e_15
set_option maxHeartbeats 8000000 in
set_option maxRecDepth 100000 in
theorem sX9_spells_3 (l : Launch) (dC : Nat → ClassId) (dI : Nat → Nat → Nat) (adK adV : Nat → Nat) (h0 : Nat) (h1 : Nat) (h2 : Nat) (k1 : ClassId) (sz : Nat) (v0 : Nat → Int32) (f1 : Nat → Int32) (x1 : Int32) (x2 : Int32) (hv0 : zR rg_Tape v0) (hx1 : 0 ≤ x1.toInt ∧ x1.toInt ≤ 600) (hx2 : 0 ≤ x2.toInt ∧ x2.toInt ≤ 601) : Met l yX9_spells (zw yX9_spells cX9_spells 5 (some .boolean)) { frames := 4, cells := 0, slots := 0, locals := 85 } (zPc dC dI adK adV [.ref h0, .int x1, .int x2, .ref (adK 10)] sz [(h0, .inr (9, mX9 h1 h2 v0)), (h1, zi k1 600 f1)] [(k1, .byte)]) (va_Qi (fun (r : Int32) (u : Nat → Int32) => (0 ≤ r.toInt ∧ r.toInt ≤ 1) ∧ (0 ≤ x1.toInt → x1.toInt ≤ 600 → 0 ≤ x2.toInt → x2.toInt ≤ (v0 2).toInt → r.toInt = 1 → zSpl f1 x1.toInt x2.toInt 10 4) ∧ (0 ≤ x1.toInt → x1.toInt ≤ 600 → 0 ≤ x2.toInt → x2.toInt ≤ (v0 2).toInt → r.toInt = 0 → ¬ zSpl f1 x1.toInt x2.toInt 10 4)) (fun (u : Nat → Int32) (t : State) => ∃ (ww : Nat → Int64) (aa : Nat → Nat → Int32) (bb : Nat → Nat → Int64), va_P (dC, dI) vwCl [(h0, .inr (9, mX9 h1 h2 v0)), (h1, zi k1 600 f1)] t.heap ∧ va_K (dC, dI) vwCl [(k1, .byte)] t ∧ va_D (va_A [(h0, .inr (9, mX9 h1 h2 v0)), (h1, zi k1 600 f1)] sz) [(h0, .inr (9, mX9 h1 h2 v0)), (h1, zi k1 600 f1)]) (va_A [(h0, .inr (9, mX9 h1 h2 v0)), (h1, zi k1 600 f1)] sz)) 0 0 (va_A [(h0, .inr (9, mX9 h1 h2 v0)), (h1, zi k1 600 f1)] sz) := by
  refine Met.ofW (cc := cX9_spells) (maxL := 5) (ret := (some .boolean)) (by decide) rfl ?_
  intro p e s m args below meth c s₁ B hml hv
  obtain ⟨rfl, hsz, hP, hK, hD0, hE, hZ⟩ := hv
  have hx := B.exec
  have hb := B.bytes
  have hr := B.returns
  have hG : ∀ w ∈ zG, w.before _ s = true := fun w h => atoms_spec (ws := (zw yX9_spells cX9_spells 5 (some .boolean))) B.pre w (List.mem_cons_of_mem _ h)
  have hown : s.vm.findClass RX9 = some m.cls := findClass_of_methodNamed B.named
  have hlocks := B.notSynchronized

  subst hsz
  have hD := hD0.self (sz := s.heap.size)
  generalize hAe : va_A [(h0, .inr (9, mX9 h1 h2 v0)), (h1, zi k1 600 f1)] s.heap.size = A at hD hZ ⊢
  have hA : ∀ q : Nat, s.heap.size ≤ q → A q := fun q h => by rw [← hAe]; exact Or.inr h
  have hS : va_S A s.heap s.heap [] := va_S.rf
  have hl := lv_entry ([.ref h0, .int x1, .int x2, .ref (adK 10)]) (n := 5) (Nat.le_of_ble_eq_true rfl)
  rw [lg_entry_eq]
  generalize (lg_sl ([.ref h0, .int x1, .int x2, .ref (adK 10)]) ++ List.replicate (5 - (lg_sl ([.ref h0, .int x1, .int x2, .ref (adK 10)])).length) Slot.unset).toArray = ls at hl ⊢
  have hl : lv_has ls 5 [(0, .ref h0), (1, .int x1), (2, .int x2), (3, .ref (adK 10))] := hl
  have b_ := zk_0
  have b_ := zk_1
  have b_ : 0 ≤ (v0 2).toInt ∧ (v0 2).toInt ≤ 600 := hv0 2
  refine lv_iload_n hx hb dX9_spells_0 rfl (lv_at hl 2 rfl) ?_
  refine lv_iload_n hx hb dX9_spells_1 rfl (lv_at hl 1 rfl) ?_
  refine lv_isub hx hb dX9_spells_2 ?_
  refine lv_topi (fun z2 e_z2 => ?_)
  have b_ := zsub rfl rfl e_z2 (by omega) (by omega)
  have b_ : 0 ≤ x1.toInt → x1.toInt ≤ 600 → 0 ≤ x2.toInt → x2.toInt ≤ 600 → z2.toInt = x2.toInt - x1.toInt := fun h1 h2 h3 h4 => zsub rfl rfl e_z2 (by omega) (by omega)
  refine lv_aload_n hx hb dX9_spells_3 rfl (lv_at hl 3 rfl) ?_
  have hPc := hP.sub (ws' := []) [] rfl
  have hDc := hD.sub (ws' := []) [] (by decide) rfl
  have hKc := hK.sub (tys' := []) [] rfl
  have hFc := va_free (wc := []) hD hS hA [] rfl
  refine va_calli (va_runV (As := []) (rest := [.int z2]) ⟨hx, hb, hml, hown, hG⟩ (sJ0_length_8abf5_10 l dC dI adK adV s.heap.size) (cwV 0 hG (zgV zv677 zv678 zv679 zv146 zv680) rfl rfl rfl (by decide +kernel) ⟨Nat.le_of_ble_eq_true rfl, Nat.le_of_ble_eq_true rfl⟩) ⟨zPc_blind, vk_recv hZ.2.2.2.1 (i := 10) (by decide) hS, zPc_pre hPc hKc hDc hE hS hFc hZ⟩ rfl rfl hl.1 rfl (lv_room (Nat.le_of_ble_eq_true rfl)) dX9_spells_4 ⟨Nat.le_of_ble_eq_true rfl, Nat.le_of_ble_eq_true rfl⟩) hS (fun q _ h => hFc q h) hFc (fun r4_ u4_ t H1 locs ht hvm hw hB hz1 hk1 hS => ?_)
  replace hw : (4 ≤ r4_.toInt ∧ r4_.toInt ≤ 4) := hw
  have b_ := hw
  obtain rfl : r4_ = (4 : Int32) := zeqi.mpr ((show r4_.toInt = 4 from by omega).trans zk_4.symm)
  obtain ⟨w4_, a4_, b4_, hP1, hK1, hD1⟩ := hB
  rw [ht] at hP1
  obtain ⟨hP, hD⟩ := va_join (wr := [(h0, .inr (9, mX9 h1 h2 v0)), (h1, zi k1 600 f1)]) (w1 := []) hP hD [] [0, 1] rfl rfl (by decide) (by decide) hk1 hFc hP1 hD1
  have hP : va_P (dC, dI) vwCl [(h0, .inr (9, mX9 h1 h2 v0)), (h1, zi k1 600 f1)] H1 := hP.sub [0, 1] rfl
  have hD : va_D A [(h0, .inr (9, mX9 h1 h2 v0)), (h1, zi k1 600 f1)] := hD.sub [0, 1] (by decide) rfl
  generalize H1 = H at hP hS ⊢
  clear hz1
  refine lv_icmp_ne (tgt := 22) hx hb dX9_spells_7 (by decide) (fun c_ => ?_) (fun c_ => ?_)
  · skip
    have b_ := zT_ne rfl zk_4 c_
    refine lv_iconst (v := 0) hx hb dX9_spells_22 (by decide) ?_
    refine W.widen (k := 0) (n := 0) (by decide) (by decide) ?_
    have hpost : (0 ≤ (0 : Int32).toInt ∧ (0 : Int32).toInt ≤ 1) ∧ (0 ≤ x1.toInt → x1.toInt ≤ 600 → 0 ≤ x2.toInt → x2.toInt ≤ (v0 2).toInt → (0 : Int32).toInt = 1 → zSpl f1 x1.toInt x2.toInt 10 4) ∧ (0 ≤ x1.toInt → x1.toInt ≤ 600 → 0 ≤ x2.toInt → x2.toInt ≤ (v0 2).toInt → (0 : Int32).toInt = 0 → ¬ zSpl f1 x1.toInt x2.toInt 10 4) := ⟨(by first | with_reducible assumption | exact ⟨by omega, by omega⟩), by first | (intro _ _ _ _ q; exact absurd q (by decide)) | exact fun _ _ _ _ _ => ⟨by omega, fun j hj => by have h9 : zSq _ _ _ _ := (by assumption); exact h9 j (by omega)⟩, by first | (intro _ _ _ _ q; exact absurd q (by decide)) | exact fun _ _ _ _ _ => zSpl_n e_z44 e_z47 (by omega) (by omega) (by omega) (by omega) (by omega) | exact fun _ _ _ _ _ q => by have q1 := q.1; omega⟩
    have hP9 : va_P (dC, dI) vwCl [(h0, .inr (9, mX9 h1 h2 v0)), (h1, zi k1 600 f1)] H := hP
    have hD9 : va_D A [(h0, .inr (9, mX9 h1 h2 v0)), (h1, zi k1 600 f1)] := hD
    exact W.zret (v := 0) hx hb hr rfl (fun t ht hW => ⟨⟨0, (fun _ => 0), rfl, hpost, (fun _ => 0), (fun _ => (fun _ => 0)), (fun _ => (fun _ => 0)), by rw [ht]; exact hP9, va_K.moved hW.alike hK, hD9⟩, hS.F ht⟩) hS.2.2 dX9_spells_23
  · skip
    have b_ := zF_ne rfl zk_4 c_
    refine lv_iload_n hx hb dX9_spells_10 rfl (lv_at hl 1 rfl) ?_
    refine lv_if_lt (tgt := 22) hx hb dX9_spells_11 (by decide) (fun c_ => False.elim (by have b_ := zT_lt rfl zk_0 c_; omega)) (fun c_ => ?_)
    have b_ := zF_lt rfl zk_0 c_
    refine lv_iload_n hx hb dX9_spells_14 rfl (lv_at hl 2 rfl) ?_
    refine lv_aload_n hx hb dX9_spells_15 rfl (lv_at hl 0 rfl) ?_
    refine va_get (D := (dC, dI)) (ci := 9) (v := .int (v0 2)) (C := RX9) (T := TX9) (N := 4) hx hb hG zuX9 hown hK hP 0 rfl rfl 2 (by decide) (hG _ zv171) (fun _ h9 => h9) rfl dX9_spells_16 ?_
    refine lv_icmp_le (tgt := 24) hx hb dX9_spells_19 (by decide) (fun c_ => ?_) (fun c_ => ?_)
    · skip
      have b_ := zT_le rfl rfl c_
      refine lv_iconst (v := 0) hx hb dX9_spells_24 (by decide) ?_
      refine lv_istore (lv' := [(4, .int 0), (0, .ref h0), (1, .int x1), (2, .int x2), (3, .ref (adK 10))]) hx hb dX9_spells_25 hl (by decide) rfl (fun ls hl => ?_)
      refine zcutL (fun u27_ => (4 - (u27_ 0).toInt).toNat) (fun H locs ls u27_ w27_ a27_ b27_ => va_P (dC, dI) vwCl [(h0, .inr (9, mX9 h1 h2 v0)), (h1, zi k1 600 f1)] H ∧ va_D A [(h0, .inr (9, mX9 h1 h2 v0)), (h1, zi k1 600 f1)] ∧ va_S A s.heap H locs ∧ lv_has ls 5 [(0, .ref h0), (1, .int x1), (2, .int x2), (3, .ref (adK 10)), (4, .int (u27_ 0))] ∧ (0 ≤ (u27_ 0).toInt ∧ (u27_ 0).toInt ≤ 4) ∧ (0 ≤ x1.toInt) ∧ (x2.toInt ≤ (v0 2).toInt) ∧ (zSq f1 x1.toInt 10 (u27_ 0).toInt)) (fun ls u27_ w27_ => F0 m 27 ls []) 0 0 ?_ (fun hJ27 => ?_)
      · skip
        intro H locs ls u27_ w27_ a27_ b27_ hc hJ27
        obtain ⟨hP, hD, hS, hl, b_, b_, b_, hI27_2⟩ := hc
        refine lv_iload hx hb dX9_spells_27 (lv_at hl 4 rfl) ?_
        refine lv_aload_n hx hb dX9_spells_29 rfl (lv_at hl 3 rfl) ?_
        have hPc := hP.sub (ws' := []) [] rfl
        have hDc := hD.sub (ws' := []) [] (by decide) rfl
        have hKc := hK.sub (tys' := []) [] rfl
        have hFc := va_free (wc := []) hD hS hA [] rfl
        refine va_calli (va_runV (As := []) (rest := [.int (u27_ 0)]) ⟨hx, hb, hml, hown, hG⟩ (sJ0_length_8abf5_10 l dC dI adK adV H.size) (cwV 0 hG (zgV zv677 zv678 zv679 zv146 zv680) rfl rfl rfl (by decide +kernel) ⟨Nat.le_of_ble_eq_true rfl, Nat.le_of_ble_eq_true rfl⟩) ⟨zPc_blind, vk_recv hZ.2.2.2.1 (i := 10) (by decide) hS, zPc_pre hPc hKc hDc hE hS hFc hZ⟩ rfl rfl hl.1 rfl (lv_room (Nat.le_of_ble_eq_true rfl)) dX9_spells_30 ⟨Nat.le_of_ble_eq_true rfl, Nat.le_of_ble_eq_true rfl⟩) hS (fun q _ h => hFc q h) hFc (fun r30_ u30_ t H1 locs ht hvm hw hB hz1 hk1 hS => ?_)
        replace hw : (4 ≤ r30_.toInt ∧ r30_.toInt ≤ 4) := hw
        have b_ := hw
        obtain rfl : r30_ = (4 : Int32) := zeqi.mpr ((show r30_.toInt = 4 from by omega).trans zk_4.symm)
        obtain ⟨w30_, a30_, b30_, hP1, hK1, hD1⟩ := hB
        rw [ht] at hP1
        obtain ⟨hP, hD⟩ := va_join (wr := [(h0, .inr (9, mX9 h1 h2 v0)), (h1, zi k1 600 f1)]) (w1 := []) hP hD [] [0, 1] rfl rfl (by decide) (by decide) hk1 hFc hP1 hD1
        have hP : va_P (dC, dI) vwCl [(h0, .inr (9, mX9 h1 h2 v0)), (h1, zi k1 600 f1)] H1 := hP.sub [0, 1] rfl
        have hD : va_D A [(h0, .inr (9, mX9 h1 h2 v0)), (h1, zi k1 600 f1)] := hD.sub [0, 1] (by decide) rfl
        generalize H1 = H at hP hS ⊢
        clear hz1
        refine lv_icmp_ge (tgt := 65) hx hb dX9_spells_33 (by decide) (fun c_ => ?_) (fun c_ => ?_)
        · skip
          have b_ := zT_ge rfl zk_4 c_
          refine lv_iconst (v := 1) hx hb dX9_spells_65 (by decide) ?_
          refine W.widen (k := 0) (n := 0) (by decide) (by decide) ?_
          have hpost : (0 ≤ (1 : Int32).toInt ∧ (1 : Int32).toInt ≤ 1) ∧ (0 ≤ x1.toInt → x1.toInt ≤ 600 → 0 ≤ x2.toInt → x2.toInt ≤ (v0 2).toInt → (1 : Int32).toInt = 1 → zSpl f1 x1.toInt x2.toInt 10 4) ∧ (0 ≤ x1.toInt → x1.toInt ≤ 600 → 0 ≤ x2.toInt → x2.toInt ≤ (v0 2).toInt → (1 : Int32).toInt = 0 → ¬ zSpl f1 x1.toInt x2.toInt 10 4) := ⟨(by first | with_reducible assumption | exact ⟨by omega, by omega⟩), by first | (intro _ _ _ _ q; exact absurd q (by decide)) | exact fun _ _ _ _ _ => ⟨by omega, fun j hj => by have h9 : zSq _ _ _ _ := (by assumption); exact h9 j (by omega)⟩, by first | (intro _ _ _ _ q; exact absurd q (by decide)) | exact fun _ _ _ _ _ => zSpl_n e_z44 e_z47 (by omega) (by omega) (by omega) (by omega) (by omega) | exact fun _ _ _ _ _ q => by have q1 := q.1; omega⟩
          have hP9 : va_P (dC, dI) vwCl [(h0, .inr (9, mX9 h1 h2 v0)), (h1, zi k1 600 f1)] H := hP
          have hD9 : va_D A [(h0, .inr (9, mX9 h1 h2 v0)), (h1, zi k1 600 f1)] := hD
          exact W.zret (v := 1) hx hb hr rfl (fun t ht hW => ⟨⟨1, (fun _ => 0), rfl, hpost, (fun _ => 0), (fun _ => (fun _ => 0)), (fun _ => (fun _ => 0)), by rw [ht]; exact hP9, va_K.moved hW.alike hK, hD9⟩, hS.F ht⟩) hS.2.2 dX9_spells_66
        · skip
          have b_ := zF_ge rfl zk_4 c_
          refine lv_aload_n hx hb dX9_spells_36 rfl (lv_at hl 0 rfl) ?_
          refine va_get (D := (dC, dI)) (ci := 9) (v := .ref h1) (C := RX9) (T := TX9) (N := 4) hx hb hG zuX9 hown hK hP 0 rfl rfl 0 (by decide) (hG _ zv169) (fun _ h9 => h9) rfl dX9_spells_37 ?_
          refine lv_iload_n hx hb dX9_spells_40 rfl (lv_at hl 1 rfl) ?_
          refine lv_iload hx hb dX9_spells_41 (lv_at hl 4 rfl) ?_
          refine lv_iadd hx hb dX9_spells_43 ?_
          refine lv_topi (fun z43 e_z43 => ?_)
          have b_ := zadd rfl rfl e_z43 (by omega) (by omega)
          refine va_bald hx hb hK hP 1 0 rfl rfl (zin_lit ⟨by omega, by omega⟩) dX9_spells_44 ?_
          refine lv_topi (fun z44 e_z44 => ?_)
          refine lv_bipush (v := 32) hx hb dX9_spells_45 (by decide) ?_
          have b_ : -2147483648 ≤ z44.toInt ∧ z44.toInt ≤ 2147483647 := ⟨zlo _, zhi _⟩
          refine lv_ior hx hb dX9_spells_47 ?_
          refine lv_topi (fun z47 e_z47 => ?_)
          refine lv_aload_n hx hb dX9_spells_48 rfl (lv_at hl 3 rfl) ?_
          refine lv_iload hx hb dX9_spells_49 (lv_at hl 4 rfl) ?_
          have hPc := hP.sub (ws' := []) [] rfl
          have hDc := hD.sub (ws' := []) [] (by decide) rfl
          have hKc := hK.sub (tys' := []) [] rfl
          have hFc := va_free (wc := []) hD hS hA [] rfl
          refine va_calli (va_runV (As := [.int (u27_ 0)]) (rest := [.int z47]) ⟨hx, hb, hml, hown, hG⟩ (sJ0_charAt_5068e_10 l dC dI adK adV H.size (u27_ 0) (show (0 : Int) ≤ ((u27_ 0) : Int32).toInt ∧ ((u27_ 0) : Int32).toInt ≤ (3 : Int) from (by first | with_reducible assumption | exact ⟨by omega, by omega⟩))) (cwV 1 hG (zgV zv687 zv688 zv689 zv146 zv690) rfl rfl rfl (by decide +kernel) ⟨Nat.le_of_ble_eq_true rfl, Nat.le_of_ble_eq_true rfl⟩) ⟨zPc_blind, vk_recv hZ.2.2.2.1 (i := 10) (by decide) hS, zPc_pre hPc hKc hDc hE hS hFc hZ⟩ rfl rfl hl.1 rfl (lv_room (Nat.le_of_ble_eq_true rfl)) dX9_spells_51 ⟨Nat.le_of_ble_eq_true rfl, Nat.le_of_ble_eq_true rfl⟩) hS (fun q _ h => hFc q h) hFc (fun r51_ u51_ t H1 locs ht hvm hw hB hz1 hk1 hS => ?_)
          replace hw : (0 ≤ r51_.toInt ∧ r51_.toInt ≤ 255) ∧ (r51_.toInt = zqCs 10 (u27_ 0).toInt) := hw
          obtain ⟨b_, hX51_0⟩ := hw
          obtain ⟨w51_, a51_, b51_, hP1, hK1, hD1⟩ := hB
          rw [ht] at hP1
          obtain ⟨hP, hD⟩ := va_join (wr := [(h0, .inr (9, mX9 h1 h2 v0)), (h1, zi k1 600 f1)]) (w1 := []) hP hD [] [0, 1] rfl rfl (by decide) (by decide) hk1 hFc hP1 hD1
          have hP : va_P (dC, dI) vwCl [(h0, .inr (9, mX9 h1 h2 v0)), (h1, zi k1 600 f1)] H1 := hP.sub [0, 1] rfl
          have hD : va_D A [(h0, .inr (9, mX9 h1 h2 v0)), (h1, zi k1 600 f1)] := hD.sub [0, 1] (by decide) rfl
          generalize H1 = H at hP hS ⊢
          clear hz1
          have b_ : -2147483648 ≤ z47.toInt ∧ z47.toInt ≤ 2147483647 := ⟨zlo _, zhi _⟩
          refine lv_icmp_eq (tgt := 59) hx hb dX9_spells_54 (by decide) (fun c_ => ?_) (fun c_ => ?_)
          · skip
            have b_ := zT_eq rfl rfl c_
            obtain ⟨z59, e_z59⟩ : ∃ z : Int32, z = (u27_ 0) + Int32.ofInt 1 := ⟨_, rfl⟩
            have b_ := zadd (x := (u27_ 0)) (y := Int32.ofInt 1) rfl (show (Int32.ofInt 1).toInt = 1 from by decide) e_z59 (by omega) (by omega)
            refine lv_iinc (v := z59) (lv' := [(4, .int z59), (0, .ref h0), (1, .int x1), (2, .int x2), (3, .ref (adK 10))]) hx hb dX9_spells_59 hl (k := 4) rfl e_z59.symm (by decide) rfl (fun ls hl => ?_)
            refine lv_goto (tgt := 27) hx hb dX9_spells_62 (by decide) ?_
            have hc : va_P (dC, dI) vwCl [(h0, .inr (9, mX9 h1 h2 v0)), (h1, zi k1 600 f1)] H ∧ va_D A [(h0, .inr (9, mX9 h1 h2 v0)), (h1, zi k1 600 f1)] ∧ va_S A s.heap H locs ∧ lv_has ls 5 [(0, .ref h0), (1, .int x1), (2, .int x2), (3, .ref (adK 10)), (4, .int z59)] ∧ (0 ≤ z59.toInt ∧ z59.toInt ≤ 4) ∧ (0 ≤ x1.toInt) ∧ (x2.toInt ≤ (v0 2).toInt) ∧ (zSq f1 x1.toInt 10 z59.toInt) := ⟨hP, hD, hS, lv_sub hl [1, 2, 3, 4, 0] rfl, (by first | with_reducible assumption | exact ⟨by omega, by omega⟩), by omega, by omega, by first | exact zSq_0 (by omega) | exact zSq_s (by assumption) e_z44 e_z47 (by omega) (by omega) (by omega) (by omega) (by omega)⟩
            exact hJ27 H locs ls (fun i => ([z59] : List (Int32)).getD i 0) (fun _ => 0) (fun _ => (fun _ => 0)) (fun _ => (fun _ => 0)) hc (show (4 - z59.toInt).toNat < (4 - (u27_ 0).toInt).toNat from by omega)
          · skip
            have b_ := zF_eq rfl rfl c_
            refine lv_iconst (v := 0) hx hb dX9_spells_57 (by decide) ?_
            refine W.widen (k := 0) (n := 0) (by decide) (by decide) ?_
            have hpost : (0 ≤ (0 : Int32).toInt ∧ (0 : Int32).toInt ≤ 1) ∧ (0 ≤ x1.toInt → x1.toInt ≤ 600 → 0 ≤ x2.toInt → x2.toInt ≤ (v0 2).toInt → (0 : Int32).toInt = 1 → zSpl f1 x1.toInt x2.toInt 10 4) ∧ (0 ≤ x1.toInt → x1.toInt ≤ 600 → 0 ≤ x2.toInt → x2.toInt ≤ (v0 2).toInt → (0 : Int32).toInt = 0 → ¬ zSpl f1 x1.toInt x2.toInt 10 4) := ⟨(by first | with_reducible assumption | exact ⟨by omega, by omega⟩), by first | (intro _ _ _ _ q; exact absurd q (by decide)) | exact fun _ _ _ _ _ => ⟨by omega, fun j hj => by have h9 : zSq _ _ _ _ := (by assumption); exact h9 j (by omega)⟩, by first | (intro _ _ _ _ q; exact absurd q (by decide)) | exact fun _ _ _ _ _ => zSpl_n e_z44 e_z47 (by omega) (by omega) (by omega) (by omega) (by omega) | exact fun _ _ _ _ _ q => by have q1 := q.1; omega⟩
            have hP9 : va_P (dC, dI) vwCl [(h0, .inr (9, mX9 h1 h2 v0)), (h1, zi k1 600 f1)] H := hP
            have hD9 : va_D A [(h0, .inr (9, mX9 h1 h2 v0)), (h1, zi k1 600 f1)] := hD
            exact W.zret (v := 0) hx hb hr rfl (fun t ht hW => ⟨⟨0, (fun _ => 0), rfl, hpost, (fun _ => 0), (fun _ => (fun _ => 0)), (fun _ => (fun _ => 0)), by rw [ht]; exact hP9, va_K.moved hW.alike hK, hD9⟩, hS.F ht⟩) hS.2.2 dX9_spells_58
      · skip
        have hc : va_P (dC, dI) vwCl [(h0, .inr (9, mX9 h1 h2 v0)), (h1, zi k1 600 f1)] H ∧ va_D A [(h0, .inr (9, mX9 h1 h2 v0)), (h1, zi k1 600 f1)] ∧ va_S A s.heap H locs ∧ lv_has ls 5 [(0, .ref h0), (1, .int x1), (2, .int x2), (3, .ref (adK 10)), (4, .int 0)] ∧ (0 ≤ (0 : Int32).toInt ∧ (0 : Int32).toInt ≤ 4) ∧ (0 ≤ x1.toInt) ∧ (x2.toInt ≤ (v0 2).toInt) ∧ (zSq f1 x1.toInt 10 (0 : Int32).toInt) := ⟨hP, hD, hS, lv_sub hl [1, 2, 3, 4, 0] rfl, (by first | with_reducible assumption | exact ⟨by omega, by omega⟩), by omega, by omega, by first | exact zSq_0 (by omega) | exact zSq_s (by assumption) e_z44 e_z47 (by omega) (by omega) (by omega) (by omega) (by omega)⟩
        exact hJ27 H locs ls (fun i => ([0] : List (Int32)).getD i 0) (fun _ => 0) (fun _ => (fun _ => 0)) (fun _ => (fun _ => 0)) hc
    · skip
      have b_ := zF_le rfl rfl c_
      refine lv_iconst (v := 0) hx hb dX9_spells_22 (by decide) ?_
      refine W.widen (k := 0) (n := 0) (by decide) (by decide) ?_
      have hpost : (0 ≤ (0 : Int32).toInt ∧ (0 : Int32).toInt ≤ 1) ∧ (0 ≤ x1.toInt → x1.toInt ≤ 600 → 0 ≤ x2.toInt → x2.toInt ≤ (v0 2).toInt → (0 : Int32).toInt = 1 → zSpl f1 x1.toInt x2.toInt 10 4) ∧ (0 ≤ x1.toInt → x1.toInt ≤ 600 → 0 ≤ x2.toInt → x2.toInt ≤ (v0 2).toInt → (0 : Int32).toInt = 0 → ¬ zSpl f1 x1.toInt x2.toInt 10 4) := ⟨(by first | with_reducible assumption | exact ⟨by omega, by omega⟩), by first | (intro _ _ _ _ q; exact absurd q (by decide)) | exact fun _ _ _ _ _ => ⟨by omega, fun j hj => by have h9 : zSq _ _ _ _ := (by assumption); exact h9 j (by omega)⟩, by first | (intro _ _ _ _ q; exact absurd q (by decide)) | exact fun _ _ _ _ _ => zSpl_n e_z44 e_z47 (by omega) (by omega) (by omega) (by omega) (by omega) | exact fun _ _ _ _ _ q => by have q1 := q.1; omega⟩
      have hP9 : va_P (dC, dI) vwCl [(h0, .inr (9, mX9 h1 h2 v0)), (h1, zi k1 600 f1)] H := hP
      have hD9 : va_D A [(h0, .inr (9, mX9 h1 h2 v0)), (h1, zi k1 600 f1)] := hD
      exact W.zret (v := 0) hx hb hr rfl (fun t ht hW => ⟨⟨0, (fun _ => 0), rfl, hpost, (fun _ => 0), (fun _ => (fun _ => 0)), (fun _ => (fun _ => 0)), by rw [ht]; exact hP9, va_K.moved hW.alike hK, hD9⟩, hS.F ht⟩) hS.2.2 dX9_spells_23
set_option maxHeartbeats 8000000 in
set_option maxRecDepth 100000 in
theorem sJ0_coder_7d493_11 (l : Launch) (dC : Nat → ClassId) (dI : Nat → Nat → Nat) (adK adV : Nat → Nat) (sz : Nat) : Met l yJ0_coder_7d493 (zw yJ0_coder_7d493 cJ0_coder_7d493 1 (some .byte)) { frames := 0, cells := 0, slots := 0, locals := 0 } (zPc dC dI adK adV [.ref (adK 11)] sz [] []) (va_Qi (fun (r : Int32) (u : Nat → Int32) => (0 ≤ r.toInt ∧ r.toInt ≤ 0)) (fun (u : Nat → Int32) (t : State) => ∃ (ww : Nat → Int64) (aa : Nat → Nat → Int32) (bb : Nat → Nat → Int64), va_P (dC, dI) vwCl [] t.heap ∧ va_K (dC, dI) vwCl [] t ∧ va_D (va_A [] sz) []) (va_A [] sz)) 0 0 (va_A [] sz) := by
  refine Met.ofW (cc := cJ0_coder_7d493) (maxL := 1) (ret := (some .byte)) (by decide) rfl ?_
  intro p e s m args below meth c s₁ B hml hv
  obtain ⟨rfl, hsz, hP, hK, hD0, hE, hZ⟩ := hv
  have hx := B.exec
  have hb := B.bytes
  have hr := B.returns
  have hG : ∀ w ∈ zG, w.before _ s = true := fun w h => atoms_spec (ws := (zw yJ0_coder_7d493 cJ0_coder_7d493 1 (some .byte))) B.pre w (List.mem_cons_of_mem _ h)
  have hown : s.vm.findClass RJ0 = some m.cls := findClass_of_methodNamed B.named
  have hlocks := B.notSynchronized

  subst hsz
  have hD := hD0.self (sz := s.heap.size)
  generalize hAe : va_A [] s.heap.size = A at hD hZ ⊢
  have hA : ∀ q : Nat, s.heap.size ≤ q → A q := fun q h => by rw [← hAe]; exact Or.inr h
  have hS : va_S A s.heap s.heap [] := va_S.rf
  have hl := lv_entry ([.ref (adK 11)]) (n := 1) (Nat.le_of_ble_eq_true rfl)
  rw [lg_entry_eq]
  generalize (lg_sl ([.ref (adK 11)]) ++ List.replicate (1 - (lg_sl ([.ref (adK 11)])).length) Slot.unset).toArray = ls at hl ⊢
  have hl : lv_has ls 1 [(0, .ref (adK 11))] := hl
  have b_ := zk_0
  refine va_gets hx hb hZ.2.2.1 hS hown (hG _ zv685) (fun _ h => h) dJ0_coder_7d493_0 ?_
  refine lv_if_eq (tgt := 13) hx hb dJ0_coder_7d493_3 (by decide) (fun c_ => absurd c_ (by decide)) (fun c_ => ?_)
  refine lv_aload_n hx hb dJ0_coder_7d493_6 rfl (lv_at hl 0 rfl) ?_
  refine vk_getf hx hb (hZ.2.2.2.1.1 11 (by decide)).2.1 hS hown (hG _ zv2258) (fun _ h => h) dJ0_coder_7d493_7 ?_
  refine lv_goto (tgt := 14) hx hb dJ0_coder_7d493_10 (by decide) ?_
  refine W.widen (k := 0) (n := 0) (by decide) (by decide) ?_
  have hpost : (0 ≤ (0 : Int32).toInt ∧ (0 : Int32).toInt ≤ 0) := (by first | with_reducible assumption | exact ⟨by omega, by omega⟩)
  have hP9 : va_P (dC, dI) vwCl [] s.heap := hP
  have hD9 : va_D A [] := hD
  exact W.zret (v := 0) hx hb hr rfl (fun t ht hW => ⟨⟨0, (fun _ => 0), rfl, hpost, (fun _ => 0), (fun _ => (fun _ => 0)), (fun _ => (fun _ => 0)), by rw [ht]; exact hP9, va_K.moved hW.alike hK, hD9⟩, hS.F ht⟩) hS.2.2 dJ0_coder_7d493_14
set_option maxHeartbeats 8000000 in
set_option maxRecDepth 100000 in
theorem sJ0_length_8abf5_11 (l : Launch) (dC : Nat → ClassId) (dI : Nat → Nat → Nat) (adK adV : Nat → Nat) (sz : Nat) : Met l yJ0_length_8abf5 (zw yJ0_length_8abf5 cJ0_length_8abf5 1 (some .int)) { frames := 1, cells := 0, slots := 0, locals := 20 } (zPc dC dI adK adV [.ref (adK 11)] sz [] []) (va_Qi (fun (r : Int32) (u : Nat → Int32) => (5 ≤ r.toInt ∧ r.toInt ≤ 5)) (fun (u : Nat → Int32) (t : State) => ∃ (ww : Nat → Int64) (aa : Nat → Nat → Int32) (bb : Nat → Nat → Int64), va_P (dC, dI) vwCl [] t.heap ∧ va_K (dC, dI) vwCl [] t ∧ va_D (va_A [] sz) []) (va_A [] sz)) 0 0 (va_A [] sz) := by
  refine Met.ofW (cc := cJ0_length_8abf5) (maxL := 1) (ret := (some .int)) (by decide) rfl ?_
  intro p e s m args below meth c s₁ B hml hv
  obtain ⟨rfl, hsz, hP, hK, hD0, hE, hZ⟩ := hv
  have hx := B.exec
  have hb := B.bytes
  have hr := B.returns
  have hG : ∀ w ∈ zG, w.before _ s = true := fun w h => atoms_spec (ws := (zw yJ0_length_8abf5 cJ0_length_8abf5 1 (some .int))) B.pre w (List.mem_cons_of_mem _ h)
  have hown : s.vm.findClass RJ0 = some m.cls := findClass_of_methodNamed B.named
  have hlocks := B.notSynchronized

  subst hsz
  have hD := hD0.self (sz := s.heap.size)
  generalize hAe : va_A [] s.heap.size = A at hD hZ ⊢
  have hA : ∀ q : Nat, s.heap.size ≤ q → A q := fun q h => by rw [← hAe]; exact Or.inr h
  have hS : va_S A s.heap s.heap [] := va_S.rf
  have hl := lv_entry ([.ref (adK 11)]) (n := 1) (Nat.le_of_ble_eq_true rfl)
  rw [lg_entry_eq]
  generalize (lg_sl ([.ref (adK 11)]) ++ List.replicate (1 - (lg_sl ([.ref (adK 11)])).length) Slot.unset).toArray = ls at hl ⊢
  have hl : lv_has ls 1 [(0, .ref (adK 11))] := hl
  have b_ := zk_5
  refine lv_aload_n hx hb dJ0_length_8abf5_0 rfl (lv_at hl 0 rfl) ?_
  refine vk_getf hx hb (hZ.2.2.2.1.1 11 (by decide)).2.2.1 hS hown (hG _ zv2257) (fun _ h => h) dJ0_length_8abf5_1 ?_
  refine va_tlen (v := 5) hx hb (hZ.2.2.2.1.1 11 (by decide)).2.2.2 hS (by decide) dJ0_length_8abf5_4 ?_
  refine lv_aload_n hx hb dJ0_length_8abf5_5 rfl (lv_at hl 0 rfl) ?_
  have hPc := hP.sub (ws' := []) [] rfl
  have hDc := hD.sub (ws' := []) [] (by decide) rfl
  have hKc := hK.sub (tys' := []) [] rfl
  have hFc := va_free (wc := []) hD hS hA [] rfl
  refine va_calli (va_runV (As := []) (rest := [.int 5]) ⟨hx, hb, hml, hown, hG⟩ (sJ0_coder_7d493_11 l dC dI adK adV s.heap.size) (cwV 0 hG (zgV zv681 zv682 zv683 zv146 zv684) rfl rfl rfl (by decide +kernel) ⟨Nat.le_of_ble_eq_true rfl, Nat.le_of_ble_eq_true rfl⟩) ⟨zPc_blind, vk_recv hZ.2.2.2.1 (i := 11) (by decide) hS, zPc_pre hPc hKc hDc hE hS hFc hZ⟩ rfl rfl hl.1 rfl (lv_room (Nat.le_of_ble_eq_true rfl)) dJ0_length_8abf5_6 ⟨Nat.le_of_ble_eq_true rfl, Nat.le_of_ble_eq_true rfl⟩) hS (fun q _ h => hFc q h) hFc (fun r6_ u6_ t H1 locs ht hvm hw hB hz1 hk1 hS => ?_)
  replace hw : (0 ≤ r6_.toInt ∧ r6_.toInt ≤ 0) := hw
  have b_ := hw
  obtain rfl : r6_ = (0 : Int32) := zeqi.mpr ((show r6_.toInt = 0 from by omega).trans zk_0.symm)
  obtain ⟨w6_, a6_, b6_, hP1, hK1, hD1⟩ := hB
  rw [ht] at hP1
  obtain ⟨hP, hD⟩ := va_join (wr := []) (w1 := []) hP hD [] [] rfl rfl (by decide) (by decide) hk1 hFc hP1 hD1
  have hP : va_P (dC, dI) vwCl [] H1 := hP.sub [] rfl
  have hD : va_D A [] := hD.sub [] (by decide) rfl
  generalize H1 = H at hP hS ⊢
  clear hz1
  refine lv_ishr hx hb dJ0_length_8abf5_9 ?_
  refine lv_topi (fun z9 e_z9 => ?_)
  obtain rfl : z9 = (5 : Int32) := e_z9.trans (by decide)
  refine W.widen (k := 0) (n := 0) (by decide) (by decide) ?_
  have hpost : (5 ≤ (5 : Int32).toInt ∧ (5 : Int32).toInt ≤ 5) := (by first | with_reducible assumption | exact ⟨by omega, by omega⟩)
  have hP9 : va_P (dC, dI) vwCl [] H := hP
  have hD9 : va_D A [] := hD
  exact W.iret (v := 5) hx hb hr (fun t ht hW => ⟨⟨5, (fun _ => 0), rfl, hpost, (fun _ => 0), (fun _ => (fun _ => 0)), (fun _ => (fun _ => 0)), by rw [ht]; exact hP9, va_K.moved hW.alike hK, hD9⟩, hS.F ht⟩) hS.2.2 dJ0_length_8abf5_10
set_option maxHeartbeats 8000000 in
set_option maxRecDepth 100000 in
theorem sJ0_isLatin1_aae02_11 (l : Launch) (dC : Nat → ClassId) (dI : Nat → Nat → Nat) (adK adV : Nat → Nat) (sz : Nat) : Met l yJ0_isLatin1_aae02 (zw yJ0_isLatin1_aae02 cJ0_isLatin1_aae02 1 (some .boolean)) { frames := 0, cells := 0, slots := 0, locals := 0 } (zPc dC dI adK adV [.ref (adK 11)] sz [] []) (va_Qi (fun (r : Int32) (u : Nat → Int32) => (1 ≤ r.toInt ∧ r.toInt ≤ 1)) (fun (u : Nat → Int32) (t : State) => ∃ (ww : Nat → Int64) (aa : Nat → Nat → Int32) (bb : Nat → Nat → Int64), va_P (dC, dI) vwCl [] t.heap ∧ va_K (dC, dI) vwCl [] t ∧ va_D (va_A [] sz) []) (va_A [] sz)) 0 0 (va_A [] sz) := by
  refine Met.ofW (cc := cJ0_isLatin1_aae02) (maxL := 1) (ret := (some .boolean)) (by decide) rfl ?_
  intro p e s m args below meth c s₁ B hml hv
  obtain ⟨rfl, hsz, hP, hK, hD0, hE, hZ⟩ := hv
  have hx := B.exec
  have hb := B.bytes
  have hr := B.returns
  have hG : ∀ w ∈ zG, w.before _ s = true := fun w h => atoms_spec (ws := (zw yJ0_isLatin1_aae02 cJ0_isLatin1_aae02 1 (some .boolean))) B.pre w (List.mem_cons_of_mem _ h)
  have hown : s.vm.findClass RJ0 = some m.cls := findClass_of_methodNamed B.named
  have hlocks := B.notSynchronized

  subst hsz
  have hD := hD0.self (sz := s.heap.size)
  generalize hAe : va_A [] s.heap.size = A at hD hZ ⊢
  have hA : ∀ q : Nat, s.heap.size ≤ q → A q := fun q h => by rw [← hAe]; exact Or.inr h
  have hS : va_S A s.heap s.heap [] := va_S.rf
  have hl := lv_entry ([.ref (adK 11)]) (n := 1) (Nat.le_of_ble_eq_true rfl)
  rw [lg_entry_eq]
  generalize (lg_sl ([.ref (adK 11)]) ++ List.replicate (1 - (lg_sl ([.ref (adK 11)])).length) Slot.unset).toArray = ls at hl ⊢
  have hl : lv_has ls 1 [(0, .ref (adK 11))] := hl
  have b_ := zk_1
  refine va_gets hx hb hZ.2.2.1 hS hown (hG _ zv685) (fun _ h => h) dJ0_isLatin1_aae02_0 ?_
  refine lv_if_eq (tgt := 17) hx hb dJ0_isLatin1_aae02_3 (by decide) (fun c_ => absurd c_ (by decide)) (fun c_ => ?_)
  refine lv_aload_n hx hb dJ0_isLatin1_aae02_6 rfl (lv_at hl 0 rfl) ?_
  refine vk_getf hx hb (hZ.2.2.2.1.1 11 (by decide)).2.1 hS hown (hG _ zv2258) (fun _ h => h) dJ0_isLatin1_aae02_7 ?_
  refine lv_if_ne (tgt := 17) hx hb dJ0_isLatin1_aae02_10 (by decide) (fun c_ => absurd c_ (by decide)) (fun c_ => ?_)
  refine lv_iconst (v := 1) hx hb dJ0_isLatin1_aae02_13 (by decide) ?_
  refine lv_goto (tgt := 18) hx hb dJ0_isLatin1_aae02_14 (by decide) ?_
  refine W.widen (k := 0) (n := 0) (by decide) (by decide) ?_
  have hpost : (1 ≤ (1 : Int32).toInt ∧ (1 : Int32).toInt ≤ 1) := (by first | with_reducible assumption | exact ⟨by omega, by omega⟩)
  have hP9 : va_P (dC, dI) vwCl [] s.heap := hP
  have hD9 : va_D A [] := hD
  exact W.zret (v := 1) hx hb hr rfl (fun t ht hW => ⟨⟨1, (fun _ => 0), rfl, hpost, (fun _ => 0), (fun _ => (fun _ => 0)), (fun _ => (fun _ => 0)), by rw [ht]; exact hP9, va_K.moved hW.alike hK, hD9⟩, hS.F ht⟩) hS.2.2 dJ0_isLatin1_aae02_18
set_option maxHeartbeats 8000000 in
set_option maxRecDepth 100000 in
theorem sJ1_charAt_3b067_11 (l : Launch) (dC : Nat → ClassId) (dI : Nat → Nat → Nat) (adK adV : Nat → Nat) (sz : Nat) (x1 : Int32) (hx1 : 0 ≤ x1.toInt ∧ x1.toInt ≤ 4) : Met l yJ1_charAt_3b067 (zw yJ1_charAt_3b067 cJ1_charAt_3b067 2 (some .char)) { frames := 2, cells := 0, slots := 0, locals := 43 } (zPc dC dI adK adV [.ref (adV 11), .int x1] sz [] []) (va_Qi (fun (r : Int32) (u : Nat → Int32) => (0 ≤ r.toInt ∧ r.toInt ≤ 255) ∧ (r.toInt = zqCs 11 x1.toInt)) (fun (u : Nat → Int32) (t : State) => ∃ (ww : Nat → Int64) (aa : Nat → Nat → Int32) (bb : Nat → Nat → Int64), va_P (dC, dI) vwCl [] t.heap ∧ va_K (dC, dI) vwCl [] t ∧ va_D (va_A [] sz) []) (va_A [] sz)) 0 0 (va_A [] sz) := by
  refine Met.ofW (cc := cJ1_charAt_3b067) (maxL := 2) (ret := (some .char)) (by decide) rfl ?_
  intro p e s m args below meth c s₁ B hml hv
  obtain ⟨rfl, hsz, hP, hK, hD0, hE, hZ⟩ := hv
  have hx := B.exec
  have hb := B.bytes
  have hr := B.returns
  have hG : ∀ w ∈ zG, w.before _ s = true := fun w h => atoms_spec (ws := (zw yJ1_charAt_3b067 cJ1_charAt_3b067 2 (some .char))) B.pre w (List.mem_cons_of_mem _ h)
  have hown : s.vm.findClass RJ1 = some m.cls := findClass_of_methodNamed B.named
  have hlocks := B.notSynchronized

  subst hsz
  have hD := hD0.self (sz := s.heap.size)
  generalize hAe : va_A [] s.heap.size = A at hD hZ ⊢
  have hA : ∀ q : Nat, s.heap.size ≤ q → A q := fun q h => by rw [← hAe]; exact Or.inr h
  have hS : va_S A s.heap s.heap [] := va_S.rf
  have hl := lv_entry ([.ref (adV 11), .int x1]) (n := 2) (Nat.le_of_ble_eq_true rfl)
  rw [lg_entry_eq]
  generalize (lg_sl ([.ref (adV 11), .int x1]) ++ List.replicate (2 - (lg_sl ([.ref (adV 11), .int x1])).length) Slot.unset).toArray = ls at hl ⊢
  have hl : lv_has ls 2 [(0, .ref (adV 11)), (1, .int x1)] := hl
  have b_ := zk_5
  refine lv_iload_n hx hb dJ1_charAt_3b067_0 rfl (lv_at hl 1 rfl) ?_
  refine lv_aload_n hx hb dJ1_charAt_3b067_1 rfl (lv_at hl 0 rfl) ?_
  refine va_tlen (v := 5) hx hb (hZ.2.2.2.1.1 11 (by decide)).2.2.2 hS (by decide) dJ1_charAt_3b067_2 ?_
  have hPc := hP.sub (ws' := []) [] rfl
  have hDc := hD.sub (ws' := []) [] (by decide) rfl
  have hKc := hK.sub (tys' := []) [] rfl
  have hFc := va_free (wc := []) hD hS hA [] rfl
  refine va_callv (va_runS (As := [.int x1, .int 5]) (rest := []) ⟨hx, hb, hml, hown, hG⟩ (sJ0_checkIndex_df160_0 l dC dI adK adV s.heap.size x1 5 (show (0 : Int) ≤ (x1 : Int32).toInt ∧ (x1 : Int32).toInt ≤ (4 : Int) from (by first | with_reducible assumption | exact ⟨by omega, by omega⟩)) ⟨show (1 : Int) ≤ (5 : Int32).toInt from by decide, show (5 : Int32).toInt ≤ (5 : Int) from by decide⟩ (show x1.toInt < (5 : Int32).toInt from by omega)) (va_cwS 2 hG (zgS zv698 zv699 zv146 zv700) rfl rfl rfl (by decide +kernel) ⟨Nat.le_of_ble_eq_true rfl, Nat.le_of_ble_eq_true rfl⟩) ⟨zPc_blind, zPc_pre hPc hKc hDc hE hS hFc hZ⟩ rfl rfl hl.1 rfl (lv_room (Nat.le_of_ble_eq_true rfl)) dJ1_charAt_3b067_3 ⟨Nat.le_of_ble_eq_true rfl, Nat.le_of_ble_eq_true rfl⟩) hS (fun q _ h => hFc q h) hFc (fun u3_ t H1 locs ht hvm hw hB hz1 hk1 hS => ?_)
  obtain ⟨w3_, a3_, b3_, hP1, hK1, hD1⟩ := hB
  rw [ht] at hP1
  obtain ⟨hP, hD⟩ := va_join (wr := []) (w1 := []) hP hD [] [] rfl rfl (by decide) (by decide) hk1 hFc hP1 hD1
  have hP : va_P (dC, dI) vwCl [] H1 := hP.sub [] rfl
  have hD : va_D A [] := hD.sub [] (by decide) rfl
  generalize H1 = H at hP hS ⊢
  clear hz1
  refine lv_aload_n hx hb dJ1_charAt_3b067_6 rfl (lv_at hl 0 rfl) ?_
  refine lv_iload_n hx hb dJ1_charAt_3b067_7 rfl (lv_at hl 1 rfl) ?_
  refine va_tb (N := 5) hx hb (hZ.2.2.2.1.1 11 (by decide)).2.2.2 hS (zin_lit (n := 5) ⟨by omega, by omega⟩) rfl dJ1_charAt_3b067_8 ?_
  refine lv_topi (fun z8 e_z8 => ?_)
  refine lv_sipush (v := 255) hx hb dJ1_charAt_3b067_9 (by decide) ?_
  have b_ : -2147483648 ≤ z8.toInt ∧ z8.toInt ≤ 2147483647 := ⟨zlo _, zhi _⟩
  refine lv_iand hx hb dJ1_charAt_3b067_12 ?_
  refine lv_topi (fun z12 e_z12 => ?_)
  have b_ := zand (x := z8) zk_255 e_z12 (by decide)
  refine lv_i2c hx hb dJ1_charAt_3b067_13 rfl ?_
  refine lv_topi (fun z13 e_z13 => ?_)
  have b_ := zi2c rfl e_z13 (by omega) (by omega)
  refine W.widen (k := 0) (n := 0) (by decide) (by decide) ?_
  have hpost : (0 ≤ z13.toInt ∧ z13.toInt ≤ 255) ∧ (z13.toInt = zqCs 11 x1.toInt) := ⟨(by first | with_reducible assumption | exact ⟨by omega, by omega⟩), by exact zcs9 (by decide) e_z8 e_z12 e_z13 (by have q : x1.toNatClampNeg = x1.toInt.toNat := rfl; omega)⟩
  have hP9 : va_P (dC, dI) vwCl [] H := hP
  have hD9 : va_D A [] := hD
  exact W.zret (v := z13) hx hb hr (zn_char ⟨by omega, by omega⟩) (fun t ht hW => ⟨⟨z13, (fun _ => 0), rfl, hpost, (fun _ => 0), (fun _ => (fun _ => 0)), (fun _ => (fun _ => 0)), by rw [ht]; exact hP9, va_K.moved hW.alike hK, hD9⟩, hS.F ht⟩) hS.2.2 dJ1_charAt_3b067_14
set_option maxHeartbeats 8000000 in
set_option maxRecDepth 100000 in
theorem sJ0_charAt_5068e_11 (l : Launch) (dC : Nat → ClassId) (dI : Nat → Nat → Nat) (adK adV : Nat → Nat) (sz : Nat) (x1 : Int32) (hx1 : 0 ≤ x1.toInt ∧ x1.toInt ≤ 4) : Met l yJ0_charAt_5068e (zw yJ0_charAt_5068e cJ0_charAt_5068e 2 (some .char)) { frames := 3, cells := 0, slots := 0, locals := 64 } (zPc dC dI adK adV [.ref (adK 11), .int x1] sz [] []) (va_Qi (fun (r : Int32) (u : Nat → Int32) => (0 ≤ r.toInt ∧ r.toInt ≤ 255) ∧ (r.toInt = zqCs 11 x1.toInt)) (fun (u : Nat → Int32) (t : State) => ∃ (ww : Nat → Int64) (aa : Nat → Nat → Int32) (bb : Nat → Nat → Int64), va_P (dC, dI) vwCl [] t.heap ∧ va_K (dC, dI) vwCl [] t ∧ va_D (va_A [] sz) []) (va_A [] sz)) 0 0 (va_A [] sz) := by
  refine Met.ofW (cc := cJ0_charAt_5068e) (maxL := 2) (ret := (some .char)) (by decide) rfl ?_
  intro p e s m args below meth c s₁ B hml hv
  obtain ⟨rfl, hsz, hP, hK, hD0, hE, hZ⟩ := hv
  have hx := B.exec
  have hb := B.bytes
  have hr := B.returns
  have hG : ∀ w ∈ zG, w.before _ s = true := fun w h => atoms_spec (ws := (zw yJ0_charAt_5068e cJ0_charAt_5068e 2 (some .char))) B.pre w (List.mem_cons_of_mem _ h)
  have hown : s.vm.findClass RJ0 = some m.cls := findClass_of_methodNamed B.named
  have hlocks := B.notSynchronized

  subst hsz
  have hD := hD0.self (sz := s.heap.size)
  generalize hAe : va_A [] s.heap.size = A at hD hZ ⊢
  have hA : ∀ q : Nat, s.heap.size ≤ q → A q := fun q h => by rw [← hAe]; exact Or.inr h
  have hS : va_S A s.heap s.heap [] := va_S.rf
  have hl := lv_entry ([.ref (adK 11), .int x1]) (n := 2) (Nat.le_of_ble_eq_true rfl)
  rw [lg_entry_eq]
  generalize (lg_sl ([.ref (adK 11), .int x1]) ++ List.replicate (2 - (lg_sl ([.ref (adK 11), .int x1])).length) Slot.unset).toArray = ls at hl ⊢
  have hl : lv_has ls 2 [(0, .ref (adK 11)), (1, .int x1)] := hl
  refine lv_aload_n hx hb dJ0_charAt_5068e_0 rfl (lv_at hl 0 rfl) ?_
  have hPc := hP.sub (ws' := []) [] rfl
  have hDc := hD.sub (ws' := []) [] (by decide) rfl
  have hKc := hK.sub (tys' := []) [] rfl
  have hFc := va_free (wc := []) hD hS hA [] rfl
  refine va_calli (va_runV (As := []) (rest := []) ⟨hx, hb, hml, hown, hG⟩ (sJ0_isLatin1_aae02_11 l dC dI adK adV s.heap.size) (cwV 0 hG (zgV zv691 zv692 zv693 zv146 zv694) rfl rfl rfl (by decide +kernel) ⟨Nat.le_of_ble_eq_true rfl, Nat.le_of_ble_eq_true rfl⟩) ⟨zPc_blind, vk_recv hZ.2.2.2.1 (i := 11) (by decide) hS, zPc_pre hPc hKc hDc hE hS hFc hZ⟩ rfl rfl hl.1 rfl (lv_room (Nat.le_of_ble_eq_true rfl)) dJ0_charAt_5068e_1 ⟨Nat.le_of_ble_eq_true rfl, Nat.le_of_ble_eq_true rfl⟩) hS (fun q _ h => hFc q h) hFc (fun r1_ u1_ t H1 locs ht hvm hw hB hz1 hk1 hS => ?_)
  replace hw : (1 ≤ r1_.toInt ∧ r1_.toInt ≤ 1) := hw
  have b_ := hw
  obtain rfl : r1_ = (1 : Int32) := zeqi.mpr ((show r1_.toInt = 1 from by omega).trans zk_1.symm)
  obtain ⟨w1_, a1_, b1_, hP1, hK1, hD1⟩ := hB
  rw [ht] at hP1
  obtain ⟨hP, hD⟩ := va_join (wr := []) (w1 := []) hP hD [] [] rfl rfl (by decide) (by decide) hk1 hFc hP1 hD1
  have hP : va_P (dC, dI) vwCl [] H1 := hP.sub [] rfl
  have hD : va_D A [] := hD.sub [] (by decide) rfl
  generalize H1 = H at hP hS ⊢
  clear hz1
  refine lv_if_eq (tgt := 16) hx hb dJ0_charAt_5068e_4 (by decide) (fun c_ => absurd c_ (by decide)) (fun c_ => ?_)
  refine lv_aload_n hx hb dJ0_charAt_5068e_7 rfl (lv_at hl 0 rfl) ?_
  refine vk_getf hx hb (hZ.2.2.2.1.1 11 (by decide)).2.2.1 hS hown (hG _ zv2257) (fun _ h => h) dJ0_charAt_5068e_8 ?_
  refine lv_iload_n hx hb dJ0_charAt_5068e_11 rfl (lv_at hl 1 rfl) ?_
  have hPc := hP.sub (ws' := []) [] rfl
  have hDc := hD.sub (ws' := []) [] (by decide) rfl
  have hKc := hK.sub (tys' := []) [] rfl
  have hFc := va_free (wc := []) hD hS hA [] rfl
  refine va_calli (va_runS (As := [.ref (adV 11), .int x1]) (rest := []) ⟨hx, hb, hml, hown, hG⟩ (sJ1_charAt_3b067_11 l dC dI adK adV H.size x1 (show (0 : Int) ≤ (x1 : Int32).toInt ∧ (x1 : Int32).toInt ≤ (4 : Int) from (by first | with_reducible assumption | exact ⟨by omega, by omega⟩))) (va_cwS 2 hG (zgS zv695 zv696 zv147 zv697) rfl rfl rfl (by decide +kernel) ⟨Nat.le_of_ble_eq_true rfl, Nat.le_of_ble_eq_true rfl⟩) ⟨zPc_blind, zPc_pre hPc hKc hDc hE hS hFc hZ⟩ rfl rfl hl.1 rfl (lv_room (Nat.le_of_ble_eq_true rfl)) dJ0_charAt_5068e_12 ⟨Nat.le_of_ble_eq_true rfl, Nat.le_of_ble_eq_true rfl⟩) hS (fun q _ h => hFc q h) hFc (fun r12_ u12_ t H1 locs ht hvm hw hB hz1 hk1 hS => ?_)
  replace hw : (0 ≤ r12_.toInt ∧ r12_.toInt ≤ 255) ∧ (r12_.toInt = zqCs 11 x1.toInt) := hw
  obtain ⟨b_, hX12_0⟩ := hw
  obtain ⟨w12_, a12_, b12_, hP1, hK1, hD1⟩ := hB
  rw [ht] at hP1
  obtain ⟨hP, hD⟩ := va_join (wr := []) (w1 := []) hP hD [] [] rfl rfl (by decide) (by decide) hk1 hFc hP1 hD1
  have hP : va_P (dC, dI) vwCl [] H1 := hP.sub [] rfl
  have hD : va_D A [] := hD.sub [] (by decide) rfl
  generalize H1 = H at hP hS ⊢
  clear hz1
  refine W.widen (k := 0) (n := 0) (by decide) (by decide) ?_
  have hpost : (0 ≤ r12_.toInt ∧ r12_.toInt ≤ 255) ∧ (r12_.toInt = zqCs 11 x1.toInt) := ⟨(by first | with_reducible assumption | exact ⟨by omega, by omega⟩), by assumption⟩
  have hP9 : va_P (dC, dI) vwCl [] H := hP
  have hD9 : va_D A [] := hD
  exact W.zret (v := r12_) hx hb hr (zn_char ⟨by omega, by omega⟩) (fun t ht hW => ⟨⟨r12_, (fun _ => 0), rfl, hpost, (fun _ => 0), (fun _ => (fun _ => 0)), (fun _ => (fun _ => 0)), by rw [ht]; exact hP9, va_K.moved hW.alike hK, hD9⟩, hS.F ht⟩) hS.2.2 dJ0_charAt_5068e_15
set_option maxHeartbeats 8000000 in
set_option maxRecDepth 100000 in
theorem sX9_spells_4 (l : Launch) (dC : Nat → ClassId) (dI : Nat → Nat → Nat) (adK adV : Nat → Nat) (h0 : Nat) (h1 : Nat) (h2 : Nat) (k1 : ClassId) (sz : Nat) (v0 : Nat → Int32) (f1 : Nat → Int32) (x1 : Int32) (x2 : Int32) (hv0 : zR rg_Tape v0) (hx1 : 0 ≤ x1.toInt ∧ x1.toInt ≤ 600) (hx2 : 0 ≤ x2.toInt ∧ x2.toInt ≤ 601) : Met l yX9_spells (zw yX9_spells cX9_spells 5 (some .boolean)) { frames := 4, cells := 0, slots := 0, locals := 85 } (zPc dC dI adK adV [.ref h0, .int x1, .int x2, .ref (adK 11)] sz [(h0, .inr (9, mX9 h1 h2 v0)), (h1, zi k1 600 f1)] [(k1, .byte)]) (va_Qi (fun (r : Int32) (u : Nat → Int32) => (0 ≤ r.toInt ∧ r.toInt ≤ 1) ∧ (0 ≤ x1.toInt → x1.toInt ≤ 600 → 0 ≤ x2.toInt → x2.toInt ≤ (v0 2).toInt → r.toInt = 1 → zSpl f1 x1.toInt x2.toInt 11 5) ∧ (0 ≤ x1.toInt → x1.toInt ≤ 600 → 0 ≤ x2.toInt → x2.toInt ≤ (v0 2).toInt → r.toInt = 0 → ¬ zSpl f1 x1.toInt x2.toInt 11 5)) (fun (u : Nat → Int32) (t : State) => ∃ (ww : Nat → Int64) (aa : Nat → Nat → Int32) (bb : Nat → Nat → Int64), va_P (dC, dI) vwCl [(h0, .inr (9, mX9 h1 h2 v0)), (h1, zi k1 600 f1)] t.heap ∧ va_K (dC, dI) vwCl [(k1, .byte)] t ∧ va_D (va_A [(h0, .inr (9, mX9 h1 h2 v0)), (h1, zi k1 600 f1)] sz) [(h0, .inr (9, mX9 h1 h2 v0)), (h1, zi k1 600 f1)]) (va_A [(h0, .inr (9, mX9 h1 h2 v0)), (h1, zi k1 600 f1)] sz)) 0 0 (va_A [(h0, .inr (9, mX9 h1 h2 v0)), (h1, zi k1 600 f1)] sz) := by
  refine Met.ofW (cc := cX9_spells) (maxL := 5) (ret := (some .boolean)) (by decide) rfl ?_
  intro p e s m args below meth c s₁ B hml hv
  obtain ⟨rfl, hsz, hP, hK, hD0, hE, hZ⟩ := hv
  have hx := B.exec
  have hb := B.bytes
  have hr := B.returns
  have hG : ∀ w ∈ zG, w.before _ s = true := fun w h => atoms_spec (ws := (zw yX9_spells cX9_spells 5 (some .boolean))) B.pre w (List.mem_cons_of_mem _ h)
  have hown : s.vm.findClass RX9 = some m.cls := findClass_of_methodNamed B.named
  have hlocks := B.notSynchronized

  subst hsz
  have hD := hD0.self (sz := s.heap.size)
  generalize hAe : va_A [(h0, .inr (9, mX9 h1 h2 v0)), (h1, zi k1 600 f1)] s.heap.size = A at hD hZ ⊢
  have hA : ∀ q : Nat, s.heap.size ≤ q → A q := fun q h => by rw [← hAe]; exact Or.inr h
  have hS : va_S A s.heap s.heap [] := va_S.rf
  have hl := lv_entry ([.ref h0, .int x1, .int x2, .ref (adK 11)]) (n := 5) (Nat.le_of_ble_eq_true rfl)
  rw [lg_entry_eq]
  generalize (lg_sl ([.ref h0, .int x1, .int x2, .ref (adK 11)]) ++ List.replicate (5 - (lg_sl ([.ref h0, .int x1, .int x2, .ref (adK 11)])).length) Slot.unset).toArray = ls at hl ⊢
  have hl : lv_has ls 5 [(0, .ref h0), (1, .int x1), (2, .int x2), (3, .ref (adK 11))] := hl
  have b_ := zk_0
  have b_ := zk_1
  have b_ : 0 ≤ (v0 2).toInt ∧ (v0 2).toInt ≤ 600 := hv0 2
  refine lv_iload_n hx hb dX9_spells_0 rfl (lv_at hl 2 rfl) ?_
  refine lv_iload_n hx hb dX9_spells_1 rfl (lv_at hl 1 rfl) ?_
  refine lv_isub hx hb dX9_spells_2 ?_
  refine lv_topi (fun z2 e_z2 => ?_)
  have b_ := zsub rfl rfl e_z2 (by omega) (by omega)
  have b_ : 0 ≤ x1.toInt → x1.toInt ≤ 600 → 0 ≤ x2.toInt → x2.toInt ≤ 600 → z2.toInt = x2.toInt - x1.toInt := fun h1 h2 h3 h4 => zsub rfl rfl e_z2 (by omega) (by omega)
  refine lv_aload_n hx hb dX9_spells_3 rfl (lv_at hl 3 rfl) ?_
  have hPc := hP.sub (ws' := []) [] rfl
  have hDc := hD.sub (ws' := []) [] (by decide) rfl
  have hKc := hK.sub (tys' := []) [] rfl
  have hFc := va_free (wc := []) hD hS hA [] rfl
  refine va_calli (va_runV (As := []) (rest := [.int z2]) ⟨hx, hb, hml, hown, hG⟩ (sJ0_length_8abf5_11 l dC dI adK adV s.heap.size) (cwV 0 hG (zgV zv677 zv678 zv679 zv146 zv680) rfl rfl rfl (by decide +kernel) ⟨Nat.le_of_ble_eq_true rfl, Nat.le_of_ble_eq_true rfl⟩) ⟨zPc_blind, vk_recv hZ.2.2.2.1 (i := 11) (by decide) hS, zPc_pre hPc hKc hDc hE hS hFc hZ⟩ rfl rfl hl.1 rfl (lv_room (Nat.le_of_ble_eq_true rfl)) dX9_spells_4 ⟨Nat.le_of_ble_eq_true rfl, Nat.le_of_ble_eq_true rfl⟩) hS (fun q _ h => hFc q h) hFc (fun r4_ u4_ t H1 locs ht hvm hw hB hz1 hk1 hS => ?_)
  replace hw : (5 ≤ r4_.toInt ∧ r4_.toInt ≤ 5) := hw
  have b_ := hw
  obtain rfl : r4_ = (5 : Int32) := zeqi.mpr ((show r4_.toInt = 5 from by omega).trans zk_5.symm)
  obtain ⟨w4_, a4_, b4_, hP1, hK1, hD1⟩ := hB
  rw [ht] at hP1
  obtain ⟨hP, hD⟩ := va_join (wr := [(h0, .inr (9, mX9 h1 h2 v0)), (h1, zi k1 600 f1)]) (w1 := []) hP hD [] [0, 1] rfl rfl (by decide) (by decide) hk1 hFc hP1 hD1
  have hP : va_P (dC, dI) vwCl [(h0, .inr (9, mX9 h1 h2 v0)), (h1, zi k1 600 f1)] H1 := hP.sub [0, 1] rfl
  have hD : va_D A [(h0, .inr (9, mX9 h1 h2 v0)), (h1, zi k1 600 f1)] := hD.sub [0, 1] (by decide) rfl
  generalize H1 = H at hP hS ⊢
  clear hz1
  refine lv_icmp_ne (tgt := 22) hx hb dX9_spells_7 (by decide) (fun c_ => ?_) (fun c_ => ?_)
  · skip
    have b_ := zT_ne rfl zk_5 c_
    refine lv_iconst (v := 0) hx hb dX9_spells_22 (by decide) ?_
    refine W.widen (k := 0) (n := 0) (by decide) (by decide) ?_
    have hpost : (0 ≤ (0 : Int32).toInt ∧ (0 : Int32).toInt ≤ 1) ∧ (0 ≤ x1.toInt → x1.toInt ≤ 600 → 0 ≤ x2.toInt → x2.toInt ≤ (v0 2).toInt → (0 : Int32).toInt = 1 → zSpl f1 x1.toInt x2.toInt 11 5) ∧ (0 ≤ x1.toInt → x1.toInt ≤ 600 → 0 ≤ x2.toInt → x2.toInt ≤ (v0 2).toInt → (0 : Int32).toInt = 0 → ¬ zSpl f1 x1.toInt x2.toInt 11 5) := ⟨(by first | with_reducible assumption | exact ⟨by omega, by omega⟩), by first | (intro _ _ _ _ q; exact absurd q (by decide)) | exact fun _ _ _ _ _ => ⟨by omega, fun j hj => by have h9 : zSq _ _ _ _ := (by assumption); exact h9 j (by omega)⟩, by first | (intro _ _ _ _ q; exact absurd q (by decide)) | exact fun _ _ _ _ _ => zSpl_n e_z44 e_z47 (by omega) (by omega) (by omega) (by omega) (by omega) | exact fun _ _ _ _ _ q => by have q1 := q.1; omega⟩
    have hP9 : va_P (dC, dI) vwCl [(h0, .inr (9, mX9 h1 h2 v0)), (h1, zi k1 600 f1)] H := hP
    have hD9 : va_D A [(h0, .inr (9, mX9 h1 h2 v0)), (h1, zi k1 600 f1)] := hD
    exact W.zret (v := 0) hx hb hr rfl (fun t ht hW => ⟨⟨0, (fun _ => 0), rfl, hpost, (fun _ => 0), (fun _ => (fun _ => 0)), (fun _ => (fun _ => 0)), by rw [ht]; exact hP9, va_K.moved hW.alike hK, hD9⟩, hS.F ht⟩) hS.2.2 dX9_spells_23
  · skip
    have b_ := zF_ne rfl zk_5 c_
    refine lv_iload_n hx hb dX9_spells_10 rfl (lv_at hl 1 rfl) ?_
    refine lv_if_lt (tgt := 22) hx hb dX9_spells_11 (by decide) (fun c_ => False.elim (by have b_ := zT_lt rfl zk_0 c_; omega)) (fun c_ => ?_)
    have b_ := zF_lt rfl zk_0 c_
    refine lv_iload_n hx hb dX9_spells_14 rfl (lv_at hl 2 rfl) ?_
    refine lv_aload_n hx hb dX9_spells_15 rfl (lv_at hl 0 rfl) ?_
    refine va_get (D := (dC, dI)) (ci := 9) (v := .int (v0 2)) (C := RX9) (T := TX9) (N := 4) hx hb hG zuX9 hown hK hP 0 rfl rfl 2 (by decide) (hG _ zv171) (fun _ h9 => h9) rfl dX9_spells_16 ?_
    refine lv_icmp_le (tgt := 24) hx hb dX9_spells_19 (by decide) (fun c_ => ?_) (fun c_ => ?_)
    · skip
      have b_ := zT_le rfl rfl c_
      refine lv_iconst (v := 0) hx hb dX9_spells_24 (by decide) ?_
      refine lv_istore (lv' := [(4, .int 0), (0, .ref h0), (1, .int x1), (2, .int x2), (3, .ref (adK 11))]) hx hb dX9_spells_25 hl (by decide) rfl (fun ls hl => ?_)
      refine zcutL (fun u27_ => (9 - (u27_ 0).toInt).toNat) (fun H locs ls u27_ w27_ a27_ b27_ => va_P (dC, dI) vwCl [(h0, .inr (9, mX9 h1 h2 v0)), (h1, zi k1 600 f1)] H ∧ va_D A [(h0, .inr (9, mX9 h1 h2 v0)), (h1, zi k1 600 f1)] ∧ va_S A s.heap H locs ∧ lv_has ls 5 [(0, .ref h0), (1, .int x1), (2, .int x2), (3, .ref (adK 11)), (4, .int (u27_ 0))] ∧ (0 ≤ (u27_ 0).toInt ∧ (u27_ 0).toInt ≤ 9) ∧ (0 ≤ x1.toInt) ∧ (x2.toInt ≤ (v0 2).toInt) ∧ (zSq f1 x1.toInt 11 (u27_ 0).toInt)) (fun ls u27_ w27_ => F0 m 27 ls []) 0 0 ?_ (fun hJ27 => ?_)
      · skip
        intro H locs ls u27_ w27_ a27_ b27_ hc hJ27
        obtain ⟨hP, hD, hS, hl, b_, b_, b_, hI27_2⟩ := hc
        refine lv_iload hx hb dX9_spells_27 (lv_at hl 4 rfl) ?_
        refine lv_aload_n hx hb dX9_spells_29 rfl (lv_at hl 3 rfl) ?_
        have hPc := hP.sub (ws' := []) [] rfl
        have hDc := hD.sub (ws' := []) [] (by decide) rfl
        have hKc := hK.sub (tys' := []) [] rfl
        have hFc := va_free (wc := []) hD hS hA [] rfl
        refine va_calli (va_runV (As := []) (rest := [.int (u27_ 0)]) ⟨hx, hb, hml, hown, hG⟩ (sJ0_length_8abf5_11 l dC dI adK adV H.size) (cwV 0 hG (zgV zv677 zv678 zv679 zv146 zv680) rfl rfl rfl (by decide +kernel) ⟨Nat.le_of_ble_eq_true rfl, Nat.le_of_ble_eq_true rfl⟩) ⟨zPc_blind, vk_recv hZ.2.2.2.1 (i := 11) (by decide) hS, zPc_pre hPc hKc hDc hE hS hFc hZ⟩ rfl rfl hl.1 rfl (lv_room (Nat.le_of_ble_eq_true rfl)) dX9_spells_30 ⟨Nat.le_of_ble_eq_true rfl, Nat.le_of_ble_eq_true rfl⟩) hS (fun q _ h => hFc q h) hFc (fun r30_ u30_ t H1 locs ht hvm hw hB hz1 hk1 hS => ?_)
        replace hw : (5 ≤ r30_.toInt ∧ r30_.toInt ≤ 5) := hw
        have b_ := hw
        obtain rfl : r30_ = (5 : Int32) := zeqi.mpr ((show r30_.toInt = 5 from by omega).trans zk_5.symm)
        obtain ⟨w30_, a30_, b30_, hP1, hK1, hD1⟩ := hB
        rw [ht] at hP1
        obtain ⟨hP, hD⟩ := va_join (wr := [(h0, .inr (9, mX9 h1 h2 v0)), (h1, zi k1 600 f1)]) (w1 := []) hP hD [] [0, 1] rfl rfl (by decide) (by decide) hk1 hFc hP1 hD1
        have hP : va_P (dC, dI) vwCl [(h0, .inr (9, mX9 h1 h2 v0)), (h1, zi k1 600 f1)] H1 := hP.sub [0, 1] rfl
        have hD : va_D A [(h0, .inr (9, mX9 h1 h2 v0)), (h1, zi k1 600 f1)] := hD.sub [0, 1] (by decide) rfl
        generalize H1 = H at hP hS ⊢
        clear hz1
        refine lv_icmp_ge (tgt := 65) hx hb dX9_spells_33 (by decide) (fun c_ => ?_) (fun c_ => ?_)
        · skip
          have b_ := zT_ge rfl zk_5 c_
          refine lv_iconst (v := 1) hx hb dX9_spells_65 (by decide) ?_
          refine W.widen (k := 0) (n := 0) (by decide) (by decide) ?_
          have hpost : (0 ≤ (1 : Int32).toInt ∧ (1 : Int32).toInt ≤ 1) ∧ (0 ≤ x1.toInt → x1.toInt ≤ 600 → 0 ≤ x2.toInt → x2.toInt ≤ (v0 2).toInt → (1 : Int32).toInt = 1 → zSpl f1 x1.toInt x2.toInt 11 5) ∧ (0 ≤ x1.toInt → x1.toInt ≤ 600 → 0 ≤ x2.toInt → x2.toInt ≤ (v0 2).toInt → (1 : Int32).toInt = 0 → ¬ zSpl f1 x1.toInt x2.toInt 11 5) := ⟨(by first | with_reducible assumption | exact ⟨by omega, by omega⟩), by first | (intro _ _ _ _ q; exact absurd q (by decide)) | exact fun _ _ _ _ _ => ⟨by omega, fun j hj => by have h9 : zSq _ _ _ _ := (by assumption); exact h9 j (by omega)⟩, by first | (intro _ _ _ _ q; exact absurd q (by decide)) | exact fun _ _ _ _ _ => zSpl_n e_z44 e_z47 (by omega) (by omega) (by omega) (by omega) (by omega) | exact fun _ _ _ _ _ q => by have q1 := q.1; omega⟩
          have hP9 : va_P (dC, dI) vwCl [(h0, .inr (9, mX9 h1 h2 v0)), (h1, zi k1 600 f1)] H := hP
          have hD9 : va_D A [(h0, .inr (9, mX9 h1 h2 v0)), (h1, zi k1 600 f1)] := hD
          exact W.zret (v := 1) hx hb hr rfl (fun t ht hW => ⟨⟨1, (fun _ => 0), rfl, hpost, (fun _ => 0), (fun _ => (fun _ => 0)), (fun _ => (fun _ => 0)), by rw [ht]; exact hP9, va_K.moved hW.alike hK, hD9⟩, hS.F ht⟩) hS.2.2 dX9_spells_66
        · skip
          have b_ := zF_ge rfl zk_5 c_
          refine lv_aload_n hx hb dX9_spells_36 rfl (lv_at hl 0 rfl) ?_
          refine va_get (D := (dC, dI)) (ci := 9) (v := .ref h1) (C := RX9) (T := TX9) (N := 4) hx hb hG zuX9 hown hK hP 0 rfl rfl 0 (by decide) (hG _ zv169) (fun _ h9 => h9) rfl dX9_spells_37 ?_
          refine lv_iload_n hx hb dX9_spells_40 rfl (lv_at hl 1 rfl) ?_
          refine lv_iload hx hb dX9_spells_41 (lv_at hl 4 rfl) ?_
          refine lv_iadd hx hb dX9_spells_43 ?_
          refine lv_topi (fun z43 e_z43 => ?_)
          have b_ := zadd rfl rfl e_z43 (by omega) (by omega)
          refine va_bald hx hb hK hP 1 0 rfl rfl (zin_lit ⟨by omega, by omega⟩) dX9_spells_44 ?_
          refine lv_topi (fun z44 e_z44 => ?_)
          refine lv_bipush (v := 32) hx hb dX9_spells_45 (by decide) ?_
          have b_ : -2147483648 ≤ z44.toInt ∧ z44.toInt ≤ 2147483647 := ⟨zlo _, zhi _⟩
          refine lv_ior hx hb dX9_spells_47 ?_
          refine lv_topi (fun z47 e_z47 => ?_)
          refine lv_aload_n hx hb dX9_spells_48 rfl (lv_at hl 3 rfl) ?_
          refine lv_iload hx hb dX9_spells_49 (lv_at hl 4 rfl) ?_
          have hPc := hP.sub (ws' := []) [] rfl
          have hDc := hD.sub (ws' := []) [] (by decide) rfl
          have hKc := hK.sub (tys' := []) [] rfl
          have hFc := va_free (wc := []) hD hS hA [] rfl
          refine va_calli (va_runV (As := [.int (u27_ 0)]) (rest := [.int z47]) ⟨hx, hb, hml, hown, hG⟩ (sJ0_charAt_5068e_11 l dC dI adK adV H.size (u27_ 0) (show (0 : Int) ≤ ((u27_ 0) : Int32).toInt ∧ ((u27_ 0) : Int32).toInt ≤ (4 : Int) from (by first | with_reducible assumption | exact ⟨by omega, by omega⟩))) (cwV 1 hG (zgV zv687 zv688 zv689 zv146 zv690) rfl rfl rfl (by decide +kernel) ⟨Nat.le_of_ble_eq_true rfl, Nat.le_of_ble_eq_true rfl⟩) ⟨zPc_blind, vk_recv hZ.2.2.2.1 (i := 11) (by decide) hS, zPc_pre hPc hKc hDc hE hS hFc hZ⟩ rfl rfl hl.1 rfl (lv_room (Nat.le_of_ble_eq_true rfl)) dX9_spells_51 ⟨Nat.le_of_ble_eq_true rfl, Nat.le_of_ble_eq_true rfl⟩) hS (fun q _ h => hFc q h) hFc (fun r51_ u51_ t H1 locs ht hvm hw hB hz1 hk1 hS => ?_)
          replace hw : (0 ≤ r51_.toInt ∧ r51_.toInt ≤ 255) ∧ (r51_.toInt = zqCs 11 (u27_ 0).toInt) := hw
          obtain ⟨b_, hX51_0⟩ := hw
          obtain ⟨w51_, a51_, b51_, hP1, hK1, hD1⟩ := hB
          rw [ht] at hP1
          obtain ⟨hP, hD⟩ := va_join (wr := [(h0, .inr (9, mX9 h1 h2 v0)), (h1, zi k1 600 f1)]) (w1 := []) hP hD [] [0, 1] rfl rfl (by decide) (by decide) hk1 hFc hP1 hD1
          have hP : va_P (dC, dI) vwCl [(h0, .inr (9, mX9 h1 h2 v0)), (h1, zi k1 600 f1)] H1 := hP.sub [0, 1] rfl
          have hD : va_D A [(h0, .inr (9, mX9 h1 h2 v0)), (h1, zi k1 600 f1)] := hD.sub [0, 1] (by decide) rfl
          generalize H1 = H at hP hS ⊢
          clear hz1
          have b_ : -2147483648 ≤ z47.toInt ∧ z47.toInt ≤ 2147483647 := ⟨zlo _, zhi _⟩
          refine lv_icmp_eq (tgt := 59) hx hb dX9_spells_54 (by decide) (fun c_ => ?_) (fun c_ => ?_)
          · skip
            have b_ := zT_eq rfl rfl c_
            obtain ⟨z59, e_z59⟩ : ∃ z : Int32, z = (u27_ 0) + Int32.ofInt 1 := ⟨_, rfl⟩
            have b_ := zadd (x := (u27_ 0)) (y := Int32.ofInt 1) rfl (show (Int32.ofInt 1).toInt = 1 from by decide) e_z59 (by omega) (by omega)
            refine lv_iinc (v := z59) (lv' := [(4, .int z59), (0, .ref h0), (1, .int x1), (2, .int x2), (3, .ref (adK 11))]) hx hb dX9_spells_59 hl (k := 4) rfl e_z59.symm (by decide) rfl (fun ls hl => ?_)
            refine lv_goto (tgt := 27) hx hb dX9_spells_62 (by decide) ?_
            have hc : va_P (dC, dI) vwCl [(h0, .inr (9, mX9 h1 h2 v0)), (h1, zi k1 600 f1)] H ∧ va_D A [(h0, .inr (9, mX9 h1 h2 v0)), (h1, zi k1 600 f1)] ∧ va_S A s.heap H locs ∧ lv_has ls 5 [(0, .ref h0), (1, .int x1), (2, .int x2), (3, .ref (adK 11)), (4, .int z59)] ∧ (0 ≤ z59.toInt ∧ z59.toInt ≤ 9) ∧ (0 ≤ x1.toInt) ∧ (x2.toInt ≤ (v0 2).toInt) ∧ (zSq f1 x1.toInt 11 z59.toInt) := ⟨hP, hD, hS, lv_sub hl [1, 2, 3, 4, 0] rfl, (by first | with_reducible assumption | exact ⟨by omega, by omega⟩), by omega, by omega, by first | exact zSq_0 (by omega) | exact zSq_s (by assumption) e_z44 e_z47 (by omega) (by omega) (by omega) (by omega) (by omega)⟩
            exact hJ27 H locs ls (fun i => ([z59] : List (Int32)).getD i 0) (fun _ => 0) (fun _ => (fun _ => 0)) (fun _ => (fun _ => 0)) hc (show (9 - z59.toInt).toNat < (9 - (u27_ 0).toInt).toNat from by omega)
          · skip
            have b_ := zF_eq rfl rfl c_
            refine lv_iconst (v := 0) hx hb dX9_spells_57 (by decide) ?_
            refine W.widen (k := 0) (n := 0) (by decide) (by decide) ?_
            have hpost : (0 ≤ (0 : Int32).toInt ∧ (0 : Int32).toInt ≤ 1) ∧ (0 ≤ x1.toInt → x1.toInt ≤ 600 → 0 ≤ x2.toInt → x2.toInt ≤ (v0 2).toInt → (0 : Int32).toInt = 1 → zSpl f1 x1.toInt x2.toInt 11 5) ∧ (0 ≤ x1.toInt → x1.toInt ≤ 600 → 0 ≤ x2.toInt → x2.toInt ≤ (v0 2).toInt → (0 : Int32).toInt = 0 → ¬ zSpl f1 x1.toInt x2.toInt 11 5) := ⟨(by first | with_reducible assumption | exact ⟨by omega, by omega⟩), by first | (intro _ _ _ _ q; exact absurd q (by decide)) | exact fun _ _ _ _ _ => ⟨by omega, fun j hj => by have h9 : zSq _ _ _ _ := (by assumption); exact h9 j (by omega)⟩, by first | (intro _ _ _ _ q; exact absurd q (by decide)) | exact fun _ _ _ _ _ => zSpl_n e_z44 e_z47 (by omega) (by omega) (by omega) (by omega) (by omega) | exact fun _ _ _ _ _ q => by have q1 := q.1; omega⟩
            have hP9 : va_P (dC, dI) vwCl [(h0, .inr (9, mX9 h1 h2 v0)), (h1, zi k1 600 f1)] H := hP
            have hD9 : va_D A [(h0, .inr (9, mX9 h1 h2 v0)), (h1, zi k1 600 f1)] := hD
            exact W.zret (v := 0) hx hb hr rfl (fun t ht hW => ⟨⟨0, (fun _ => 0), rfl, hpost, (fun _ => 0), (fun _ => (fun _ => 0)), (fun _ => (fun _ => 0)), by rw [ht]; exact hP9, va_K.moved hW.alike hK, hD9⟩, hS.F ht⟩) hS.2.2 dX9_spells_58
      · skip
        have hc : va_P (dC, dI) vwCl [(h0, .inr (9, mX9 h1 h2 v0)), (h1, zi k1 600 f1)] H ∧ va_D A [(h0, .inr (9, mX9 h1 h2 v0)), (h1, zi k1 600 f1)] ∧ va_S A s.heap H locs ∧ lv_has ls 5 [(0, .ref h0), (1, .int x1), (2, .int x2), (3, .ref (adK 11)), (4, .int 0)] ∧ (0 ≤ (0 : Int32).toInt ∧ (0 : Int32).toInt ≤ 9) ∧ (0 ≤ x1.toInt) ∧ (x2.toInt ≤ (v0 2).toInt) ∧ (zSq f1 x1.toInt 11 (0 : Int32).toInt) := ⟨hP, hD, hS, lv_sub hl [1, 2, 3, 4, 0] rfl, (by first | with_reducible assumption | exact ⟨by omega, by omega⟩), by omega, by omega, by first | exact zSq_0 (by omega) | exact zSq_s (by assumption) e_z44 e_z47 (by omega) (by omega) (by omega) (by omega) (by omega)⟩
        exact hJ27 H locs ls (fun i => ([0] : List (Int32)).getD i 0) (fun _ => 0) (fun _ => (fun _ => 0)) (fun _ => (fun _ => 0)) hc
    · skip
      have b_ := zF_le rfl rfl c_
      refine lv_iconst (v := 0) hx hb dX9_spells_22 (by decide) ?_
      refine W.widen (k := 0) (n := 0) (by decide) (by decide) ?_
      have hpost : (0 ≤ (0 : Int32).toInt ∧ (0 : Int32).toInt ≤ 1) ∧ (0 ≤ x1.toInt → x1.toInt ≤ 600 → 0 ≤ x2.toInt → x2.toInt ≤ (v0 2).toInt → (0 : Int32).toInt = 1 → zSpl f1 x1.toInt x2.toInt 11 5) ∧ (0 ≤ x1.toInt → x1.toInt ≤ 600 → 0 ≤ x2.toInt → x2.toInt ≤ (v0 2).toInt → (0 : Int32).toInt = 0 → ¬ zSpl f1 x1.toInt x2.toInt 11 5) := ⟨(by first | with_reducible assumption | exact ⟨by omega, by omega⟩), by first | (intro _ _ _ _ q; exact absurd q (by decide)) | exact fun _ _ _ _ _ => ⟨by omega, fun j hj => by have h9 : zSq _ _ _ _ := (by assumption); exact h9 j (by omega)⟩, by first | (intro _ _ _ _ q; exact absurd q (by decide)) | exact fun _ _ _ _ _ => zSpl_n e_z44 e_z47 (by omega) (by omega) (by omega) (by omega) (by omega) | exact fun _ _ _ _ _ q => by have q1 := q.1; omega⟩
      have hP9 : va_P (dC, dI) vwCl [(h0, .inr (9, mX9 h1 h2 v0)), (h1, zi k1 600 f1)] H := hP
      have hD9 : va_D A [(h0, .inr (9, mX9 h1 h2 v0)), (h1, zi k1 600 f1)] := hD
      exact W.zret (v := 0) hx hb hr rfl (fun t ht hW => ⟨⟨0, (fun _ => 0), rfl, hpost, (fun _ => 0), (fun _ => (fun _ => 0)), (fun _ => (fun _ => 0)), by rw [ht]; exact hP9, va_K.moved hW.alike hK, hD9⟩, hS.F ht⟩) hS.2.2 dX9_spells_23
set_option maxHeartbeats 8000000 in
set_option maxRecDepth 100000 in
theorem sJ0_coder_7d493_12 (l : Launch) (dC : Nat → ClassId) (dI : Nat → Nat → Nat) (adK adV : Nat → Nat) (sz : Nat) : Met l yJ0_coder_7d493 (zw yJ0_coder_7d493 cJ0_coder_7d493 1 (some .byte)) { frames := 0, cells := 0, slots := 0, locals := 0 } (zPc dC dI adK adV [.ref (adK 12)] sz [] []) (va_Qi (fun (r : Int32) (u : Nat → Int32) => (0 ≤ r.toInt ∧ r.toInt ≤ 0)) (fun (u : Nat → Int32) (t : State) => ∃ (ww : Nat → Int64) (aa : Nat → Nat → Int32) (bb : Nat → Nat → Int64), va_P (dC, dI) vwCl [] t.heap ∧ va_K (dC, dI) vwCl [] t ∧ va_D (va_A [] sz) []) (va_A [] sz)) 0 0 (va_A [] sz) := by
  refine Met.ofW (cc := cJ0_coder_7d493) (maxL := 1) (ret := (some .byte)) (by decide) rfl ?_
  intro p e s m args below meth c s₁ B hml hv
  obtain ⟨rfl, hsz, hP, hK, hD0, hE, hZ⟩ := hv
  have hx := B.exec
  have hb := B.bytes
  have hr := B.returns
  have hG : ∀ w ∈ zG, w.before _ s = true := fun w h => atoms_spec (ws := (zw yJ0_coder_7d493 cJ0_coder_7d493 1 (some .byte))) B.pre w (List.mem_cons_of_mem _ h)
  have hown : s.vm.findClass RJ0 = some m.cls := findClass_of_methodNamed B.named
  have hlocks := B.notSynchronized

  subst hsz
  have hD := hD0.self (sz := s.heap.size)
  generalize hAe : va_A [] s.heap.size = A at hD hZ ⊢
  have hA : ∀ q : Nat, s.heap.size ≤ q → A q := fun q h => by rw [← hAe]; exact Or.inr h
  have hS : va_S A s.heap s.heap [] := va_S.rf
  have hl := lv_entry ([.ref (adK 12)]) (n := 1) (Nat.le_of_ble_eq_true rfl)
  rw [lg_entry_eq]
  generalize (lg_sl ([.ref (adK 12)]) ++ List.replicate (1 - (lg_sl ([.ref (adK 12)])).length) Slot.unset).toArray = ls at hl ⊢
  have hl : lv_has ls 1 [(0, .ref (adK 12))] := hl
  have b_ := zk_0
  refine va_gets hx hb hZ.2.2.1 hS hown (hG _ zv685) (fun _ h => h) dJ0_coder_7d493_0 ?_
  refine lv_if_eq (tgt := 13) hx hb dJ0_coder_7d493_3 (by decide) (fun c_ => absurd c_ (by decide)) (fun c_ => ?_)
  refine lv_aload_n hx hb dJ0_coder_7d493_6 rfl (lv_at hl 0 rfl) ?_
  refine vk_getf hx hb (hZ.2.2.2.1.1 12 (by decide)).2.1 hS hown (hG _ zv2258) (fun _ h => h) dJ0_coder_7d493_7 ?_
  refine lv_goto (tgt := 14) hx hb dJ0_coder_7d493_10 (by decide) ?_
  refine W.widen (k := 0) (n := 0) (by decide) (by decide) ?_
  have hpost : (0 ≤ (0 : Int32).toInt ∧ (0 : Int32).toInt ≤ 0) := (by first | with_reducible assumption | exact ⟨by omega, by omega⟩)
  have hP9 : va_P (dC, dI) vwCl [] s.heap := hP
  have hD9 : va_D A [] := hD
  exact W.zret (v := 0) hx hb hr rfl (fun t ht hW => ⟨⟨0, (fun _ => 0), rfl, hpost, (fun _ => 0), (fun _ => (fun _ => 0)), (fun _ => (fun _ => 0)), by rw [ht]; exact hP9, va_K.moved hW.alike hK, hD9⟩, hS.F ht⟩) hS.2.2 dJ0_coder_7d493_14
set_option maxHeartbeats 8000000 in
set_option maxRecDepth 100000 in
theorem sJ0_length_8abf5_12 (l : Launch) (dC : Nat → ClassId) (dI : Nat → Nat → Nat) (adK adV : Nat → Nat) (sz : Nat) : Met l yJ0_length_8abf5 (zw yJ0_length_8abf5 cJ0_length_8abf5 1 (some .int)) { frames := 1, cells := 0, slots := 0, locals := 20 } (zPc dC dI adK adV [.ref (adK 12)] sz [] []) (va_Qi (fun (r : Int32) (u : Nat → Int32) => (4 ≤ r.toInt ∧ r.toInt ≤ 4)) (fun (u : Nat → Int32) (t : State) => ∃ (ww : Nat → Int64) (aa : Nat → Nat → Int32) (bb : Nat → Nat → Int64), va_P (dC, dI) vwCl [] t.heap ∧ va_K (dC, dI) vwCl [] t ∧ va_D (va_A [] sz) []) (va_A [] sz)) 0 0 (va_A [] sz) := by
  refine Met.ofW (cc := cJ0_length_8abf5) (maxL := 1) (ret := (some .int)) (by decide) rfl ?_
  intro p e s m args below meth c s₁ B hml hv
  obtain ⟨rfl, hsz, hP, hK, hD0, hE, hZ⟩ := hv
  have hx := B.exec
  have hb := B.bytes
  have hr := B.returns
  have hG : ∀ w ∈ zG, w.before _ s = true := fun w h => atoms_spec (ws := (zw yJ0_length_8abf5 cJ0_length_8abf5 1 (some .int))) B.pre w (List.mem_cons_of_mem _ h)
  have hown : s.vm.findClass RJ0 = some m.cls := findClass_of_methodNamed B.named
  have hlocks := B.notSynchronized

  subst hsz
  have hD := hD0.self (sz := s.heap.size)
  generalize hAe : va_A [] s.heap.size = A at hD hZ ⊢
  have hA : ∀ q : Nat, s.heap.size ≤ q → A q := fun q h => by rw [← hAe]; exact Or.inr h
  have hS : va_S A s.heap s.heap [] := va_S.rf
  have hl := lv_entry ([.ref (adK 12)]) (n := 1) (Nat.le_of_ble_eq_true rfl)
  rw [lg_entry_eq]
  generalize (lg_sl ([.ref (adK 12)]) ++ List.replicate (1 - (lg_sl ([.ref (adK 12)])).length) Slot.unset).toArray = ls at hl ⊢
  have hl : lv_has ls 1 [(0, .ref (adK 12))] := hl
  have b_ := zk_4
  refine lv_aload_n hx hb dJ0_length_8abf5_0 rfl (lv_at hl 0 rfl) ?_
  refine vk_getf hx hb (hZ.2.2.2.1.1 12 (by decide)).2.2.1 hS hown (hG _ zv2257) (fun _ h => h) dJ0_length_8abf5_1 ?_
  refine va_tlen (v := 4) hx hb (hZ.2.2.2.1.1 12 (by decide)).2.2.2 hS (by decide) dJ0_length_8abf5_4 ?_
  refine lv_aload_n hx hb dJ0_length_8abf5_5 rfl (lv_at hl 0 rfl) ?_
  have hPc := hP.sub (ws' := []) [] rfl
  have hDc := hD.sub (ws' := []) [] (by decide) rfl
  have hKc := hK.sub (tys' := []) [] rfl
  have hFc := va_free (wc := []) hD hS hA [] rfl
  refine va_calli (va_runV (As := []) (rest := [.int 4]) ⟨hx, hb, hml, hown, hG⟩ (sJ0_coder_7d493_12 l dC dI adK adV s.heap.size) (cwV 0 hG (zgV zv681 zv682 zv683 zv146 zv684) rfl rfl rfl (by decide +kernel) ⟨Nat.le_of_ble_eq_true rfl, Nat.le_of_ble_eq_true rfl⟩) ⟨zPc_blind, vk_recv hZ.2.2.2.1 (i := 12) (by decide) hS, zPc_pre hPc hKc hDc hE hS hFc hZ⟩ rfl rfl hl.1 rfl (lv_room (Nat.le_of_ble_eq_true rfl)) dJ0_length_8abf5_6 ⟨Nat.le_of_ble_eq_true rfl, Nat.le_of_ble_eq_true rfl⟩) hS (fun q _ h => hFc q h) hFc (fun r6_ u6_ t H1 locs ht hvm hw hB hz1 hk1 hS => ?_)
  replace hw : (0 ≤ r6_.toInt ∧ r6_.toInt ≤ 0) := hw
  have b_ := hw
  obtain rfl : r6_ = (0 : Int32) := zeqi.mpr ((show r6_.toInt = 0 from by omega).trans zk_0.symm)
  obtain ⟨w6_, a6_, b6_, hP1, hK1, hD1⟩ := hB
  rw [ht] at hP1
  obtain ⟨hP, hD⟩ := va_join (wr := []) (w1 := []) hP hD [] [] rfl rfl (by decide) (by decide) hk1 hFc hP1 hD1
  have hP : va_P (dC, dI) vwCl [] H1 := hP.sub [] rfl
  have hD : va_D A [] := hD.sub [] (by decide) rfl
  generalize H1 = H at hP hS ⊢
  clear hz1
  refine lv_ishr hx hb dJ0_length_8abf5_9 ?_
  refine lv_topi (fun z9 e_z9 => ?_)
  obtain rfl : z9 = (4 : Int32) := e_z9.trans (by decide)
  refine W.widen (k := 0) (n := 0) (by decide) (by decide) ?_
  have hpost : (4 ≤ (4 : Int32).toInt ∧ (4 : Int32).toInt ≤ 4) := (by first | with_reducible assumption | exact ⟨by omega, by omega⟩)
  have hP9 : va_P (dC, dI) vwCl [] H := hP
  have hD9 : va_D A [] := hD
  exact W.iret (v := 4) hx hb hr (fun t ht hW => ⟨⟨4, (fun _ => 0), rfl, hpost, (fun _ => 0), (fun _ => (fun _ => 0)), (fun _ => (fun _ => 0)), by rw [ht]; exact hP9, va_K.moved hW.alike hK, hD9⟩, hS.F ht⟩) hS.2.2 dJ0_length_8abf5_10
set_option maxHeartbeats 8000000 in
set_option maxRecDepth 100000 in
theorem sJ0_isLatin1_aae02_12 (l : Launch) (dC : Nat → ClassId) (dI : Nat → Nat → Nat) (adK adV : Nat → Nat) (sz : Nat) : Met l yJ0_isLatin1_aae02 (zw yJ0_isLatin1_aae02 cJ0_isLatin1_aae02 1 (some .boolean)) { frames := 0, cells := 0, slots := 0, locals := 0 } (zPc dC dI adK adV [.ref (adK 12)] sz [] []) (va_Qi (fun (r : Int32) (u : Nat → Int32) => (1 ≤ r.toInt ∧ r.toInt ≤ 1)) (fun (u : Nat → Int32) (t : State) => ∃ (ww : Nat → Int64) (aa : Nat → Nat → Int32) (bb : Nat → Nat → Int64), va_P (dC, dI) vwCl [] t.heap ∧ va_K (dC, dI) vwCl [] t ∧ va_D (va_A [] sz) []) (va_A [] sz)) 0 0 (va_A [] sz) := by
  refine Met.ofW (cc := cJ0_isLatin1_aae02) (maxL := 1) (ret := (some .boolean)) (by decide) rfl ?_
  intro p e s m args below meth c s₁ B hml hv
  obtain ⟨rfl, hsz, hP, hK, hD0, hE, hZ⟩ := hv
  have hx := B.exec
  have hb := B.bytes
  have hr := B.returns
  have hG : ∀ w ∈ zG, w.before _ s = true := fun w h => atoms_spec (ws := (zw yJ0_isLatin1_aae02 cJ0_isLatin1_aae02 1 (some .boolean))) B.pre w (List.mem_cons_of_mem _ h)
  have hown : s.vm.findClass RJ0 = some m.cls := findClass_of_methodNamed B.named
  have hlocks := B.notSynchronized

  subst hsz
  have hD := hD0.self (sz := s.heap.size)
  generalize hAe : va_A [] s.heap.size = A at hD hZ ⊢
  have hA : ∀ q : Nat, s.heap.size ≤ q → A q := fun q h => by rw [← hAe]; exact Or.inr h
  have hS : va_S A s.heap s.heap [] := va_S.rf
  have hl := lv_entry ([.ref (adK 12)]) (n := 1) (Nat.le_of_ble_eq_true rfl)
  rw [lg_entry_eq]
  generalize (lg_sl ([.ref (adK 12)]) ++ List.replicate (1 - (lg_sl ([.ref (adK 12)])).length) Slot.unset).toArray = ls at hl ⊢
  have hl : lv_has ls 1 [(0, .ref (adK 12))] := hl
  have b_ := zk_1
  refine va_gets hx hb hZ.2.2.1 hS hown (hG _ zv685) (fun _ h => h) dJ0_isLatin1_aae02_0 ?_
  refine lv_if_eq (tgt := 17) hx hb dJ0_isLatin1_aae02_3 (by decide) (fun c_ => absurd c_ (by decide)) (fun c_ => ?_)
  refine lv_aload_n hx hb dJ0_isLatin1_aae02_6 rfl (lv_at hl 0 rfl) ?_
  refine vk_getf hx hb (hZ.2.2.2.1.1 12 (by decide)).2.1 hS hown (hG _ zv2258) (fun _ h => h) dJ0_isLatin1_aae02_7 ?_
  refine lv_if_ne (tgt := 17) hx hb dJ0_isLatin1_aae02_10 (by decide) (fun c_ => absurd c_ (by decide)) (fun c_ => ?_)
  refine lv_iconst (v := 1) hx hb dJ0_isLatin1_aae02_13 (by decide) ?_
  refine lv_goto (tgt := 18) hx hb dJ0_isLatin1_aae02_14 (by decide) ?_
  refine W.widen (k := 0) (n := 0) (by decide) (by decide) ?_
  have hpost : (1 ≤ (1 : Int32).toInt ∧ (1 : Int32).toInt ≤ 1) := (by first | with_reducible assumption | exact ⟨by omega, by omega⟩)
  have hP9 : va_P (dC, dI) vwCl [] s.heap := hP
  have hD9 : va_D A [] := hD
  exact W.zret (v := 1) hx hb hr rfl (fun t ht hW => ⟨⟨1, (fun _ => 0), rfl, hpost, (fun _ => 0), (fun _ => (fun _ => 0)), (fun _ => (fun _ => 0)), by rw [ht]; exact hP9, va_K.moved hW.alike hK, hD9⟩, hS.F ht⟩) hS.2.2 dJ0_isLatin1_aae02_18
set_option maxHeartbeats 8000000 in
set_option maxRecDepth 100000 in
theorem sJ1_charAt_3b067_12 (l : Launch) (dC : Nat → ClassId) (dI : Nat → Nat → Nat) (adK adV : Nat → Nat) (sz : Nat) (x1 : Int32) (hx1 : 0 ≤ x1.toInt ∧ x1.toInt ≤ 3) : Met l yJ1_charAt_3b067 (zw yJ1_charAt_3b067 cJ1_charAt_3b067 2 (some .char)) { frames := 2, cells := 0, slots := 0, locals := 43 } (zPc dC dI adK adV [.ref (adV 12), .int x1] sz [] []) (va_Qi (fun (r : Int32) (u : Nat → Int32) => (0 ≤ r.toInt ∧ r.toInt ≤ 255) ∧ (r.toInt = zqCs 12 x1.toInt)) (fun (u : Nat → Int32) (t : State) => ∃ (ww : Nat → Int64) (aa : Nat → Nat → Int32) (bb : Nat → Nat → Int64), va_P (dC, dI) vwCl [] t.heap ∧ va_K (dC, dI) vwCl [] t ∧ va_D (va_A [] sz) []) (va_A [] sz)) 0 0 (va_A [] sz) := by
  refine Met.ofW (cc := cJ1_charAt_3b067) (maxL := 2) (ret := (some .char)) (by decide) rfl ?_
  intro p e s m args below meth c s₁ B hml hv
  obtain ⟨rfl, hsz, hP, hK, hD0, hE, hZ⟩ := hv
  have hx := B.exec
  have hb := B.bytes
  have hr := B.returns
  have hG : ∀ w ∈ zG, w.before _ s = true := fun w h => atoms_spec (ws := (zw yJ1_charAt_3b067 cJ1_charAt_3b067 2 (some .char))) B.pre w (List.mem_cons_of_mem _ h)
  have hown : s.vm.findClass RJ1 = some m.cls := findClass_of_methodNamed B.named
  have hlocks := B.notSynchronized

  subst hsz
  have hD := hD0.self (sz := s.heap.size)
  generalize hAe : va_A [] s.heap.size = A at hD hZ ⊢
  have hA : ∀ q : Nat, s.heap.size ≤ q → A q := fun q h => by rw [← hAe]; exact Or.inr h
  have hS : va_S A s.heap s.heap [] := va_S.rf
  have hl := lv_entry ([.ref (adV 12), .int x1]) (n := 2) (Nat.le_of_ble_eq_true rfl)
  rw [lg_entry_eq]
  generalize (lg_sl ([.ref (adV 12), .int x1]) ++ List.replicate (2 - (lg_sl ([.ref (adV 12), .int x1])).length) Slot.unset).toArray = ls at hl ⊢
  have hl : lv_has ls 2 [(0, .ref (adV 12)), (1, .int x1)] := hl
  have b_ := zk_4
  refine lv_iload_n hx hb dJ1_charAt_3b067_0 rfl (lv_at hl 1 rfl) ?_
  refine lv_aload_n hx hb dJ1_charAt_3b067_1 rfl (lv_at hl 0 rfl) ?_
  refine va_tlen (v := 4) hx hb (hZ.2.2.2.1.1 12 (by decide)).2.2.2 hS (by decide) dJ1_charAt_3b067_2 ?_
  have hPc := hP.sub (ws' := []) [] rfl
  have hDc := hD.sub (ws' := []) [] (by decide) rfl
  have hKc := hK.sub (tys' := []) [] rfl
  have hFc := va_free (wc := []) hD hS hA [] rfl
  refine va_callv (va_runS (As := [.int x1, .int 4]) (rest := []) ⟨hx, hb, hml, hown, hG⟩ (sJ0_checkIndex_df160_0 l dC dI adK adV s.heap.size x1 4 (show (0 : Int) ≤ (x1 : Int32).toInt ∧ (x1 : Int32).toInt ≤ (4 : Int) from (by first | with_reducible assumption | exact ⟨by omega, by omega⟩)) ⟨show (1 : Int) ≤ (4 : Int32).toInt from by decide, show (4 : Int32).toInt ≤ (5 : Int) from by decide⟩ (show x1.toInt < (4 : Int32).toInt from by omega)) (va_cwS 2 hG (zgS zv698 zv699 zv146 zv700) rfl rfl rfl (by decide +kernel) ⟨Nat.le_of_ble_eq_true rfl, Nat.le_of_ble_eq_true rfl⟩) ⟨zPc_blind, zPc_pre hPc hKc hDc hE hS hFc hZ⟩ rfl rfl hl.1 rfl (lv_room (Nat.le_of_ble_eq_true rfl)) dJ1_charAt_3b067_3 ⟨Nat.le_of_ble_eq_true rfl, Nat.le_of_ble_eq_true rfl⟩) hS (fun q _ h => hFc q h) hFc (fun u3_ t H1 locs ht hvm hw hB hz1 hk1 hS => ?_)
  obtain ⟨w3_, a3_, b3_, hP1, hK1, hD1⟩ := hB
  rw [ht] at hP1
  obtain ⟨hP, hD⟩ := va_join (wr := []) (w1 := []) hP hD [] [] rfl rfl (by decide) (by decide) hk1 hFc hP1 hD1
  have hP : va_P (dC, dI) vwCl [] H1 := hP.sub [] rfl
  have hD : va_D A [] := hD.sub [] (by decide) rfl
  generalize H1 = H at hP hS ⊢
  clear hz1
  refine lv_aload_n hx hb dJ1_charAt_3b067_6 rfl (lv_at hl 0 rfl) ?_
  refine lv_iload_n hx hb dJ1_charAt_3b067_7 rfl (lv_at hl 1 rfl) ?_
  refine va_tb (N := 4) hx hb (hZ.2.2.2.1.1 12 (by decide)).2.2.2 hS (zin_lit (n := 4) ⟨by omega, by omega⟩) rfl dJ1_charAt_3b067_8 ?_
  refine lv_topi (fun z8 e_z8 => ?_)
  refine lv_sipush (v := 255) hx hb dJ1_charAt_3b067_9 (by decide) ?_
  have b_ : -2147483648 ≤ z8.toInt ∧ z8.toInt ≤ 2147483647 := ⟨zlo _, zhi _⟩
  refine lv_iand hx hb dJ1_charAt_3b067_12 ?_
  refine lv_topi (fun z12 e_z12 => ?_)
  have b_ := zand (x := z8) zk_255 e_z12 (by decide)
  refine lv_i2c hx hb dJ1_charAt_3b067_13 rfl ?_
  refine lv_topi (fun z13 e_z13 => ?_)
  have b_ := zi2c rfl e_z13 (by omega) (by omega)
  refine W.widen (k := 0) (n := 0) (by decide) (by decide) ?_
  have hpost : (0 ≤ z13.toInt ∧ z13.toInt ≤ 255) ∧ (z13.toInt = zqCs 12 x1.toInt) := ⟨(by first | with_reducible assumption | exact ⟨by omega, by omega⟩), by exact zcs9 (by decide) e_z8 e_z12 e_z13 (by have q : x1.toNatClampNeg = x1.toInt.toNat := rfl; omega)⟩
  have hP9 : va_P (dC, dI) vwCl [] H := hP
  have hD9 : va_D A [] := hD
  exact W.zret (v := z13) hx hb hr (zn_char ⟨by omega, by omega⟩) (fun t ht hW => ⟨⟨z13, (fun _ => 0), rfl, hpost, (fun _ => 0), (fun _ => (fun _ => 0)), (fun _ => (fun _ => 0)), by rw [ht]; exact hP9, va_K.moved hW.alike hK, hD9⟩, hS.F ht⟩) hS.2.2 dJ1_charAt_3b067_14
set_option maxHeartbeats 8000000 in
set_option maxRecDepth 100000 in
theorem sJ0_charAt_5068e_12 (l : Launch) (dC : Nat → ClassId) (dI : Nat → Nat → Nat) (adK adV : Nat → Nat) (sz : Nat) (x1 : Int32) (hx1 : 0 ≤ x1.toInt ∧ x1.toInt ≤ 3) : Met l yJ0_charAt_5068e (zw yJ0_charAt_5068e cJ0_charAt_5068e 2 (some .char)) { frames := 3, cells := 0, slots := 0, locals := 64 } (zPc dC dI adK adV [.ref (adK 12), .int x1] sz [] []) (va_Qi (fun (r : Int32) (u : Nat → Int32) => (0 ≤ r.toInt ∧ r.toInt ≤ 255) ∧ (r.toInt = zqCs 12 x1.toInt)) (fun (u : Nat → Int32) (t : State) => ∃ (ww : Nat → Int64) (aa : Nat → Nat → Int32) (bb : Nat → Nat → Int64), va_P (dC, dI) vwCl [] t.heap ∧ va_K (dC, dI) vwCl [] t ∧ va_D (va_A [] sz) []) (va_A [] sz)) 0 0 (va_A [] sz) := by
  refine Met.ofW (cc := cJ0_charAt_5068e) (maxL := 2) (ret := (some .char)) (by decide) rfl ?_
  intro p e s m args below meth c s₁ B hml hv
  obtain ⟨rfl, hsz, hP, hK, hD0, hE, hZ⟩ := hv
  have hx := B.exec
  have hb := B.bytes
  have hr := B.returns
  have hG : ∀ w ∈ zG, w.before _ s = true := fun w h => atoms_spec (ws := (zw yJ0_charAt_5068e cJ0_charAt_5068e 2 (some .char))) B.pre w (List.mem_cons_of_mem _ h)
  have hown : s.vm.findClass RJ0 = some m.cls := findClass_of_methodNamed B.named
  have hlocks := B.notSynchronized

  subst hsz
  have hD := hD0.self (sz := s.heap.size)
  generalize hAe : va_A [] s.heap.size = A at hD hZ ⊢
  have hA : ∀ q : Nat, s.heap.size ≤ q → A q := fun q h => by rw [← hAe]; exact Or.inr h
  have hS : va_S A s.heap s.heap [] := va_S.rf
  have hl := lv_entry ([.ref (adK 12), .int x1]) (n := 2) (Nat.le_of_ble_eq_true rfl)
  rw [lg_entry_eq]
  generalize (lg_sl ([.ref (adK 12), .int x1]) ++ List.replicate (2 - (lg_sl ([.ref (adK 12), .int x1])).length) Slot.unset).toArray = ls at hl ⊢
  have hl : lv_has ls 2 [(0, .ref (adK 12)), (1, .int x1)] := hl
  refine lv_aload_n hx hb dJ0_charAt_5068e_0 rfl (lv_at hl 0 rfl) ?_
  have hPc := hP.sub (ws' := []) [] rfl
  have hDc := hD.sub (ws' := []) [] (by decide) rfl
  have hKc := hK.sub (tys' := []) [] rfl
  have hFc := va_free (wc := []) hD hS hA [] rfl
  refine va_calli (va_runV (As := []) (rest := []) ⟨hx, hb, hml, hown, hG⟩ (sJ0_isLatin1_aae02_12 l dC dI adK adV s.heap.size) (cwV 0 hG (zgV zv691 zv692 zv693 zv146 zv694) rfl rfl rfl (by decide +kernel) ⟨Nat.le_of_ble_eq_true rfl, Nat.le_of_ble_eq_true rfl⟩) ⟨zPc_blind, vk_recv hZ.2.2.2.1 (i := 12) (by decide) hS, zPc_pre hPc hKc hDc hE hS hFc hZ⟩ rfl rfl hl.1 rfl (lv_room (Nat.le_of_ble_eq_true rfl)) dJ0_charAt_5068e_1 ⟨Nat.le_of_ble_eq_true rfl, Nat.le_of_ble_eq_true rfl⟩) hS (fun q _ h => hFc q h) hFc (fun r1_ u1_ t H1 locs ht hvm hw hB hz1 hk1 hS => ?_)
  replace hw : (1 ≤ r1_.toInt ∧ r1_.toInt ≤ 1) := hw
  have b_ := hw
  obtain rfl : r1_ = (1 : Int32) := zeqi.mpr ((show r1_.toInt = 1 from by omega).trans zk_1.symm)
  obtain ⟨w1_, a1_, b1_, hP1, hK1, hD1⟩ := hB
  rw [ht] at hP1
  obtain ⟨hP, hD⟩ := va_join (wr := []) (w1 := []) hP hD [] [] rfl rfl (by decide) (by decide) hk1 hFc hP1 hD1
  have hP : va_P (dC, dI) vwCl [] H1 := hP.sub [] rfl
  have hD : va_D A [] := hD.sub [] (by decide) rfl
  generalize H1 = H at hP hS ⊢
  clear hz1
  refine lv_if_eq (tgt := 16) hx hb dJ0_charAt_5068e_4 (by decide) (fun c_ => absurd c_ (by decide)) (fun c_ => ?_)
  refine lv_aload_n hx hb dJ0_charAt_5068e_7 rfl (lv_at hl 0 rfl) ?_
  refine vk_getf hx hb (hZ.2.2.2.1.1 12 (by decide)).2.2.1 hS hown (hG _ zv2257) (fun _ h => h) dJ0_charAt_5068e_8 ?_
  refine lv_iload_n hx hb dJ0_charAt_5068e_11 rfl (lv_at hl 1 rfl) ?_
  have hPc := hP.sub (ws' := []) [] rfl
  have hDc := hD.sub (ws' := []) [] (by decide) rfl
  have hKc := hK.sub (tys' := []) [] rfl
  have hFc := va_free (wc := []) hD hS hA [] rfl
  refine va_calli (va_runS (As := [.ref (adV 12), .int x1]) (rest := []) ⟨hx, hb, hml, hown, hG⟩ (sJ1_charAt_3b067_12 l dC dI adK adV H.size x1 (show (0 : Int) ≤ (x1 : Int32).toInt ∧ (x1 : Int32).toInt ≤ (3 : Int) from (by first | with_reducible assumption | exact ⟨by omega, by omega⟩))) (va_cwS 2 hG (zgS zv695 zv696 zv147 zv697) rfl rfl rfl (by decide +kernel) ⟨Nat.le_of_ble_eq_true rfl, Nat.le_of_ble_eq_true rfl⟩) ⟨zPc_blind, zPc_pre hPc hKc hDc hE hS hFc hZ⟩ rfl rfl hl.1 rfl (lv_room (Nat.le_of_ble_eq_true rfl)) dJ0_charAt_5068e_12 ⟨Nat.le_of_ble_eq_true rfl, Nat.le_of_ble_eq_true rfl⟩) hS (fun q _ h => hFc q h) hFc (fun r12_ u12_ t H1 locs ht hvm hw hB hz1 hk1 hS => ?_)
  replace hw : (0 ≤ r12_.toInt ∧ r12_.toInt ≤ 255) ∧ (r12_.toInt = zqCs 12 x1.toInt) := hw
  obtain ⟨b_, hX12_0⟩ := hw
  obtain ⟨w12_, a12_, b12_, hP1, hK1, hD1⟩ := hB
  rw [ht] at hP1
  obtain ⟨hP, hD⟩ := va_join (wr := []) (w1 := []) hP hD [] [] rfl rfl (by decide) (by decide) hk1 hFc hP1 hD1
  have hP : va_P (dC, dI) vwCl [] H1 := hP.sub [] rfl
  have hD : va_D A [] := hD.sub [] (by decide) rfl
  generalize H1 = H at hP hS ⊢
  clear hz1
  refine W.widen (k := 0) (n := 0) (by decide) (by decide) ?_
  have hpost : (0 ≤ r12_.toInt ∧ r12_.toInt ≤ 255) ∧ (r12_.toInt = zqCs 12 x1.toInt) := ⟨(by first | with_reducible assumption | exact ⟨by omega, by omega⟩), by assumption⟩
  have hP9 : va_P (dC, dI) vwCl [] H := hP
  have hD9 : va_D A [] := hD
  exact W.zret (v := r12_) hx hb hr (zn_char ⟨by omega, by omega⟩) (fun t ht hW => ⟨⟨r12_, (fun _ => 0), rfl, hpost, (fun _ => 0), (fun _ => (fun _ => 0)), (fun _ => (fun _ => 0)), by rw [ht]; exact hP9, va_K.moved hW.alike hK, hD9⟩, hS.F ht⟩) hS.2.2 dJ0_charAt_5068e_15
set_option maxHeartbeats 8000000 in
set_option maxRecDepth 100000 in
theorem sX9_spells_5 (l : Launch) (dC : Nat → ClassId) (dI : Nat → Nat → Nat) (adK adV : Nat → Nat) (h0 : Nat) (h1 : Nat) (h2 : Nat) (k1 : ClassId) (sz : Nat) (v0 : Nat → Int32) (f1 : Nat → Int32) (x1 : Int32) (x2 : Int32) (hv0 : zR rg_Tape v0) (hx1 : 0 ≤ x1.toInt ∧ x1.toInt ≤ 600) (hx2 : 0 ≤ x2.toInt ∧ x2.toInt ≤ 601) : Met l yX9_spells (zw yX9_spells cX9_spells 5 (some .boolean)) { frames := 4, cells := 0, slots := 0, locals := 85 } (zPc dC dI adK adV [.ref h0, .int x1, .int x2, .ref (adK 12)] sz [(h0, .inr (9, mX9 h1 h2 v0)), (h1, zi k1 600 f1)] [(k1, .byte)]) (va_Qi (fun (r : Int32) (u : Nat → Int32) => (0 ≤ r.toInt ∧ r.toInt ≤ 1) ∧ (0 ≤ x1.toInt → x1.toInt ≤ 600 → 0 ≤ x2.toInt → x2.toInt ≤ (v0 2).toInt → r.toInt = 1 → zSpl f1 x1.toInt x2.toInt 12 4) ∧ (0 ≤ x1.toInt → x1.toInt ≤ 600 → 0 ≤ x2.toInt → x2.toInt ≤ (v0 2).toInt → r.toInt = 0 → ¬ zSpl f1 x1.toInt x2.toInt 12 4)) (fun (u : Nat → Int32) (t : State) => ∃ (ww : Nat → Int64) (aa : Nat → Nat → Int32) (bb : Nat → Nat → Int64), va_P (dC, dI) vwCl [(h0, .inr (9, mX9 h1 h2 v0)), (h1, zi k1 600 f1)] t.heap ∧ va_K (dC, dI) vwCl [(k1, .byte)] t ∧ va_D (va_A [(h0, .inr (9, mX9 h1 h2 v0)), (h1, zi k1 600 f1)] sz) [(h0, .inr (9, mX9 h1 h2 v0)), (h1, zi k1 600 f1)]) (va_A [(h0, .inr (9, mX9 h1 h2 v0)), (h1, zi k1 600 f1)] sz)) 0 0 (va_A [(h0, .inr (9, mX9 h1 h2 v0)), (h1, zi k1 600 f1)] sz) := by
  refine Met.ofW (cc := cX9_spells) (maxL := 5) (ret := (some .boolean)) (by decide) rfl ?_
  intro p e s m args below meth c s₁ B hml hv
  obtain ⟨rfl, hsz, hP, hK, hD0, hE, hZ⟩ := hv
  have hx := B.exec
  have hb := B.bytes
  have hr := B.returns
  have hG : ∀ w ∈ zG, w.before _ s = true := fun w h => atoms_spec (ws := (zw yX9_spells cX9_spells 5 (some .boolean))) B.pre w (List.mem_cons_of_mem _ h)
  have hown : s.vm.findClass RX9 = some m.cls := findClass_of_methodNamed B.named
  have hlocks := B.notSynchronized

  subst hsz
  have hD := hD0.self (sz := s.heap.size)
  generalize hAe : va_A [(h0, .inr (9, mX9 h1 h2 v0)), (h1, zi k1 600 f1)] s.heap.size = A at hD hZ ⊢
  have hA : ∀ q : Nat, s.heap.size ≤ q → A q := fun q h => by rw [← hAe]; exact Or.inr h
  have hS : va_S A s.heap s.heap [] := va_S.rf
  have hl := lv_entry ([.ref h0, .int x1, .int x2, .ref (adK 12)]) (n := 5) (Nat.le_of_ble_eq_true rfl)
  rw [lg_entry_eq]
  generalize (lg_sl ([.ref h0, .int x1, .int x2, .ref (adK 12)]) ++ List.replicate (5 - (lg_sl ([.ref h0, .int x1, .int x2, .ref (adK 12)])).length) Slot.unset).toArray = ls at hl ⊢
  have hl : lv_has ls 5 [(0, .ref h0), (1, .int x1), (2, .int x2), (3, .ref (adK 12))] := hl
  have b_ := zk_0
  have b_ := zk_1
  have b_ : 0 ≤ (v0 2).toInt ∧ (v0 2).toInt ≤ 600 := hv0 2
  refine lv_iload_n hx hb dX9_spells_0 rfl (lv_at hl 2 rfl) ?_
  refine lv_iload_n hx hb dX9_spells_1 rfl (lv_at hl 1 rfl) ?_
  refine lv_isub hx hb dX9_spells_2 ?_
  refine lv_topi (fun z2 e_z2 => ?_)
  have b_ := zsub rfl rfl e_z2 (by omega) (by omega)
  have b_ : 0 ≤ x1.toInt → x1.toInt ≤ 600 → 0 ≤ x2.toInt → x2.toInt ≤ 600 → z2.toInt = x2.toInt - x1.toInt := fun h1 h2 h3 h4 => zsub rfl rfl e_z2 (by omega) (by omega)
  refine lv_aload_n hx hb dX9_spells_3 rfl (lv_at hl 3 rfl) ?_
  have hPc := hP.sub (ws' := []) [] rfl
  have hDc := hD.sub (ws' := []) [] (by decide) rfl
  have hKc := hK.sub (tys' := []) [] rfl
  have hFc := va_free (wc := []) hD hS hA [] rfl
  refine va_calli (va_runV (As := []) (rest := [.int z2]) ⟨hx, hb, hml, hown, hG⟩ (sJ0_length_8abf5_12 l dC dI adK adV s.heap.size) (cwV 0 hG (zgV zv677 zv678 zv679 zv146 zv680) rfl rfl rfl (by decide +kernel) ⟨Nat.le_of_ble_eq_true rfl, Nat.le_of_ble_eq_true rfl⟩) ⟨zPc_blind, vk_recv hZ.2.2.2.1 (i := 12) (by decide) hS, zPc_pre hPc hKc hDc hE hS hFc hZ⟩ rfl rfl hl.1 rfl (lv_room (Nat.le_of_ble_eq_true rfl)) dX9_spells_4 ⟨Nat.le_of_ble_eq_true rfl, Nat.le_of_ble_eq_true rfl⟩) hS (fun q _ h => hFc q h) hFc (fun r4_ u4_ t H1 locs ht hvm hw hB hz1 hk1 hS => ?_)
  replace hw : (4 ≤ r4_.toInt ∧ r4_.toInt ≤ 4) := hw
  have b_ := hw
  obtain rfl : r4_ = (4 : Int32) := zeqi.mpr ((show r4_.toInt = 4 from by omega).trans zk_4.symm)
  obtain ⟨w4_, a4_, b4_, hP1, hK1, hD1⟩ := hB
  rw [ht] at hP1
  obtain ⟨hP, hD⟩ := va_join (wr := [(h0, .inr (9, mX9 h1 h2 v0)), (h1, zi k1 600 f1)]) (w1 := []) hP hD [] [0, 1] rfl rfl (by decide) (by decide) hk1 hFc hP1 hD1
  have hP : va_P (dC, dI) vwCl [(h0, .inr (9, mX9 h1 h2 v0)), (h1, zi k1 600 f1)] H1 := hP.sub [0, 1] rfl
  have hD : va_D A [(h0, .inr (9, mX9 h1 h2 v0)), (h1, zi k1 600 f1)] := hD.sub [0, 1] (by decide) rfl
  generalize H1 = H at hP hS ⊢
  clear hz1
  refine lv_icmp_ne (tgt := 22) hx hb dX9_spells_7 (by decide) (fun c_ => ?_) (fun c_ => ?_)
  · skip
    have b_ := zT_ne rfl zk_4 c_
    refine lv_iconst (v := 0) hx hb dX9_spells_22 (by decide) ?_
    refine W.widen (k := 0) (n := 0) (by decide) (by decide) ?_
    have hpost : (0 ≤ (0 : Int32).toInt ∧ (0 : Int32).toInt ≤ 1) ∧ (0 ≤ x1.toInt → x1.toInt ≤ 600 → 0 ≤ x2.toInt → x2.toInt ≤ (v0 2).toInt → (0 : Int32).toInt = 1 → zSpl f1 x1.toInt x2.toInt 12 4) ∧ (0 ≤ x1.toInt → x1.toInt ≤ 600 → 0 ≤ x2.toInt → x2.toInt ≤ (v0 2).toInt → (0 : Int32).toInt = 0 → ¬ zSpl f1 x1.toInt x2.toInt 12 4) := ⟨(by first | with_reducible assumption | exact ⟨by omega, by omega⟩), by first | (intro _ _ _ _ q; exact absurd q (by decide)) | exact fun _ _ _ _ _ => ⟨by omega, fun j hj => by have h9 : zSq _ _ _ _ := (by assumption); exact h9 j (by omega)⟩, by first | (intro _ _ _ _ q; exact absurd q (by decide)) | exact fun _ _ _ _ _ => zSpl_n e_z44 e_z47 (by omega) (by omega) (by omega) (by omega) (by omega) | exact fun _ _ _ _ _ q => by have q1 := q.1; omega⟩
    have hP9 : va_P (dC, dI) vwCl [(h0, .inr (9, mX9 h1 h2 v0)), (h1, zi k1 600 f1)] H := hP
    have hD9 : va_D A [(h0, .inr (9, mX9 h1 h2 v0)), (h1, zi k1 600 f1)] := hD
    exact W.zret (v := 0) hx hb hr rfl (fun t ht hW => ⟨⟨0, (fun _ => 0), rfl, hpost, (fun _ => 0), (fun _ => (fun _ => 0)), (fun _ => (fun _ => 0)), by rw [ht]; exact hP9, va_K.moved hW.alike hK, hD9⟩, hS.F ht⟩) hS.2.2 dX9_spells_23
  · skip
    have b_ := zF_ne rfl zk_4 c_
    refine lv_iload_n hx hb dX9_spells_10 rfl (lv_at hl 1 rfl) ?_
    refine lv_if_lt (tgt := 22) hx hb dX9_spells_11 (by decide) (fun c_ => False.elim (by have b_ := zT_lt rfl zk_0 c_; omega)) (fun c_ => ?_)
    have b_ := zF_lt rfl zk_0 c_
    refine lv_iload_n hx hb dX9_spells_14 rfl (lv_at hl 2 rfl) ?_
    refine lv_aload_n hx hb dX9_spells_15 rfl (lv_at hl 0 rfl) ?_
    refine va_get (D := (dC, dI)) (ci := 9) (v := .int (v0 2)) (C := RX9) (T := TX9) (N := 4) hx hb hG zuX9 hown hK hP 0 rfl rfl 2 (by decide) (hG _ zv171) (fun _ h9 => h9) rfl dX9_spells_16 ?_
    refine lv_icmp_le (tgt := 24) hx hb dX9_spells_19 (by decide) (fun c_ => ?_) (fun c_ => ?_)
    · skip
      have b_ := zT_le rfl rfl c_
      refine lv_iconst (v := 0) hx hb dX9_spells_24 (by decide) ?_
      refine lv_istore (lv' := [(4, .int 0), (0, .ref h0), (1, .int x1), (2, .int x2), (3, .ref (adK 12))]) hx hb dX9_spells_25 hl (by decide) rfl (fun ls hl => ?_)
      refine zcutL (fun u27_ => (4 - (u27_ 0).toInt).toNat) (fun H locs ls u27_ w27_ a27_ b27_ => va_P (dC, dI) vwCl [(h0, .inr (9, mX9 h1 h2 v0)), (h1, zi k1 600 f1)] H ∧ va_D A [(h0, .inr (9, mX9 h1 h2 v0)), (h1, zi k1 600 f1)] ∧ va_S A s.heap H locs ∧ lv_has ls 5 [(0, .ref h0), (1, .int x1), (2, .int x2), (3, .ref (adK 12)), (4, .int (u27_ 0))] ∧ (0 ≤ (u27_ 0).toInt ∧ (u27_ 0).toInt ≤ 4) ∧ (0 ≤ x1.toInt) ∧ (x2.toInt ≤ (v0 2).toInt) ∧ (zSq f1 x1.toInt 12 (u27_ 0).toInt)) (fun ls u27_ w27_ => F0 m 27 ls []) 0 0 ?_ (fun hJ27 => ?_)
      · skip
        intro H locs ls u27_ w27_ a27_ b27_ hc hJ27
        obtain ⟨hP, hD, hS, hl, b_, b_, b_, hI27_2⟩ := hc
        refine lv_iload hx hb dX9_spells_27 (lv_at hl 4 rfl) ?_
        refine lv_aload_n hx hb dX9_spells_29 rfl (lv_at hl 3 rfl) ?_
        have hPc := hP.sub (ws' := []) [] rfl
        have hDc := hD.sub (ws' := []) [] (by decide) rfl
        have hKc := hK.sub (tys' := []) [] rfl
        have hFc := va_free (wc := []) hD hS hA [] rfl
        refine va_calli (va_runV (As := []) (rest := [.int (u27_ 0)]) ⟨hx, hb, hml, hown, hG⟩ (sJ0_length_8abf5_12 l dC dI adK adV H.size) (cwV 0 hG (zgV zv677 zv678 zv679 zv146 zv680) rfl rfl rfl (by decide +kernel) ⟨Nat.le_of_ble_eq_true rfl, Nat.le_of_ble_eq_true rfl⟩) ⟨zPc_blind, vk_recv hZ.2.2.2.1 (i := 12) (by decide) hS, zPc_pre hPc hKc hDc hE hS hFc hZ⟩ rfl rfl hl.1 rfl (lv_room (Nat.le_of_ble_eq_true rfl)) dX9_spells_30 ⟨Nat.le_of_ble_eq_true rfl, Nat.le_of_ble_eq_true rfl⟩) hS (fun q _ h => hFc q h) hFc (fun r30_ u30_ t H1 locs ht hvm hw hB hz1 hk1 hS => ?_)
        replace hw : (4 ≤ r30_.toInt ∧ r30_.toInt ≤ 4) := hw
        have b_ := hw
        obtain rfl : r30_ = (4 : Int32) := zeqi.mpr ((show r30_.toInt = 4 from by omega).trans zk_4.symm)
        obtain ⟨w30_, a30_, b30_, hP1, hK1, hD1⟩ := hB
        rw [ht] at hP1
        obtain ⟨hP, hD⟩ := va_join (wr := [(h0, .inr (9, mX9 h1 h2 v0)), (h1, zi k1 600 f1)]) (w1 := []) hP hD [] [0, 1] rfl rfl (by decide) (by decide) hk1 hFc hP1 hD1
        have hP : va_P (dC, dI) vwCl [(h0, .inr (9, mX9 h1 h2 v0)), (h1, zi k1 600 f1)] H1 := hP.sub [0, 1] rfl
        have hD : va_D A [(h0, .inr (9, mX9 h1 h2 v0)), (h1, zi k1 600 f1)] := hD.sub [0, 1] (by decide) rfl
        generalize H1 = H at hP hS ⊢
        clear hz1
        refine lv_icmp_ge (tgt := 65) hx hb dX9_spells_33 (by decide) (fun c_ => ?_) (fun c_ => ?_)
        · skip
          have b_ := zT_ge rfl zk_4 c_
          refine lv_iconst (v := 1) hx hb dX9_spells_65 (by decide) ?_
          refine W.widen (k := 0) (n := 0) (by decide) (by decide) ?_
          have hpost : (0 ≤ (1 : Int32).toInt ∧ (1 : Int32).toInt ≤ 1) ∧ (0 ≤ x1.toInt → x1.toInt ≤ 600 → 0 ≤ x2.toInt → x2.toInt ≤ (v0 2).toInt → (1 : Int32).toInt = 1 → zSpl f1 x1.toInt x2.toInt 12 4) ∧ (0 ≤ x1.toInt → x1.toInt ≤ 600 → 0 ≤ x2.toInt → x2.toInt ≤ (v0 2).toInt → (1 : Int32).toInt = 0 → ¬ zSpl f1 x1.toInt x2.toInt 12 4) := ⟨(by first | with_reducible assumption | exact ⟨by omega, by omega⟩), by first | (intro _ _ _ _ q; exact absurd q (by decide)) | exact fun _ _ _ _ _ => ⟨by omega, fun j hj => by have h9 : zSq _ _ _ _ := (by assumption); exact h9 j (by omega)⟩, by first | (intro _ _ _ _ q; exact absurd q (by decide)) | exact fun _ _ _ _ _ => zSpl_n e_z44 e_z47 (by omega) (by omega) (by omega) (by omega) (by omega) | exact fun _ _ _ _ _ q => by have q1 := q.1; omega⟩
          have hP9 : va_P (dC, dI) vwCl [(h0, .inr (9, mX9 h1 h2 v0)), (h1, zi k1 600 f1)] H := hP
          have hD9 : va_D A [(h0, .inr (9, mX9 h1 h2 v0)), (h1, zi k1 600 f1)] := hD
          exact W.zret (v := 1) hx hb hr rfl (fun t ht hW => ⟨⟨1, (fun _ => 0), rfl, hpost, (fun _ => 0), (fun _ => (fun _ => 0)), (fun _ => (fun _ => 0)), by rw [ht]; exact hP9, va_K.moved hW.alike hK, hD9⟩, hS.F ht⟩) hS.2.2 dX9_spells_66
        · skip
          have b_ := zF_ge rfl zk_4 c_
          refine lv_aload_n hx hb dX9_spells_36 rfl (lv_at hl 0 rfl) ?_
          refine va_get (D := (dC, dI)) (ci := 9) (v := .ref h1) (C := RX9) (T := TX9) (N := 4) hx hb hG zuX9 hown hK hP 0 rfl rfl 0 (by decide) (hG _ zv169) (fun _ h9 => h9) rfl dX9_spells_37 ?_
          refine lv_iload_n hx hb dX9_spells_40 rfl (lv_at hl 1 rfl) ?_
          refine lv_iload hx hb dX9_spells_41 (lv_at hl 4 rfl) ?_
          refine lv_iadd hx hb dX9_spells_43 ?_
          refine lv_topi (fun z43 e_z43 => ?_)
          have b_ := zadd rfl rfl e_z43 (by omega) (by omega)
          refine va_bald hx hb hK hP 1 0 rfl rfl (zin_lit ⟨by omega, by omega⟩) dX9_spells_44 ?_
          refine lv_topi (fun z44 e_z44 => ?_)
          refine lv_bipush (v := 32) hx hb dX9_spells_45 (by decide) ?_
          have b_ : -2147483648 ≤ z44.toInt ∧ z44.toInt ≤ 2147483647 := ⟨zlo _, zhi _⟩
          refine lv_ior hx hb dX9_spells_47 ?_
          refine lv_topi (fun z47 e_z47 => ?_)
          refine lv_aload_n hx hb dX9_spells_48 rfl (lv_at hl 3 rfl) ?_
          refine lv_iload hx hb dX9_spells_49 (lv_at hl 4 rfl) ?_
          have hPc := hP.sub (ws' := []) [] rfl
          have hDc := hD.sub (ws' := []) [] (by decide) rfl
          have hKc := hK.sub (tys' := []) [] rfl
          have hFc := va_free (wc := []) hD hS hA [] rfl
          refine va_calli (va_runV (As := [.int (u27_ 0)]) (rest := [.int z47]) ⟨hx, hb, hml, hown, hG⟩ (sJ0_charAt_5068e_12 l dC dI adK adV H.size (u27_ 0) (show (0 : Int) ≤ ((u27_ 0) : Int32).toInt ∧ ((u27_ 0) : Int32).toInt ≤ (3 : Int) from (by first | with_reducible assumption | exact ⟨by omega, by omega⟩))) (cwV 1 hG (zgV zv687 zv688 zv689 zv146 zv690) rfl rfl rfl (by decide +kernel) ⟨Nat.le_of_ble_eq_true rfl, Nat.le_of_ble_eq_true rfl⟩) ⟨zPc_blind, vk_recv hZ.2.2.2.1 (i := 12) (by decide) hS, zPc_pre hPc hKc hDc hE hS hFc hZ⟩ rfl rfl hl.1 rfl (lv_room (Nat.le_of_ble_eq_true rfl)) dX9_spells_51 ⟨Nat.le_of_ble_eq_true rfl, Nat.le_of_ble_eq_true rfl⟩) hS (fun q _ h => hFc q h) hFc (fun r51_ u51_ t H1 locs ht hvm hw hB hz1 hk1 hS => ?_)
          replace hw : (0 ≤ r51_.toInt ∧ r51_.toInt ≤ 255) ∧ (r51_.toInt = zqCs 12 (u27_ 0).toInt) := hw
          obtain ⟨b_, hX51_0⟩ := hw
          obtain ⟨w51_, a51_, b51_, hP1, hK1, hD1⟩ := hB
          rw [ht] at hP1
          obtain ⟨hP, hD⟩ := va_join (wr := [(h0, .inr (9, mX9 h1 h2 v0)), (h1, zi k1 600 f1)]) (w1 := []) hP hD [] [0, 1] rfl rfl (by decide) (by decide) hk1 hFc hP1 hD1
          have hP : va_P (dC, dI) vwCl [(h0, .inr (9, mX9 h1 h2 v0)), (h1, zi k1 600 f1)] H1 := hP.sub [0, 1] rfl
          have hD : va_D A [(h0, .inr (9, mX9 h1 h2 v0)), (h1, zi k1 600 f1)] := hD.sub [0, 1] (by decide) rfl
          generalize H1 = H at hP hS ⊢
          clear hz1
          have b_ : -2147483648 ≤ z47.toInt ∧ z47.toInt ≤ 2147483647 := ⟨zlo _, zhi _⟩
          refine lv_icmp_eq (tgt := 59) hx hb dX9_spells_54 (by decide) (fun c_ => ?_) (fun c_ => ?_)
          · skip
            have b_ := zT_eq rfl rfl c_
            obtain ⟨z59, e_z59⟩ : ∃ z : Int32, z = (u27_ 0) + Int32.ofInt 1 := ⟨_, rfl⟩
            have b_ := zadd (x := (u27_ 0)) (y := Int32.ofInt 1) rfl (show (Int32.ofInt 1).toInt = 1 from by decide) e_z59 (by omega) (by omega)
            refine lv_iinc (v := z59) (lv' := [(4, .int z59), (0, .ref h0), (1, .int x1), (2, .int x2), (3, .ref (adK 12))]) hx hb dX9_spells_59 hl (k := 4) rfl e_z59.symm (by decide) rfl (fun ls hl => ?_)
            refine lv_goto (tgt := 27) hx hb dX9_spells_62 (by decide) ?_
            have hc : va_P (dC, dI) vwCl [(h0, .inr (9, mX9 h1 h2 v0)), (h1, zi k1 600 f1)] H ∧ va_D A [(h0, .inr (9, mX9 h1 h2 v0)), (h1, zi k1 600 f1)] ∧ va_S A s.heap H locs ∧ lv_has ls 5 [(0, .ref h0), (1, .int x1), (2, .int x2), (3, .ref (adK 12)), (4, .int z59)] ∧ (0 ≤ z59.toInt ∧ z59.toInt ≤ 4) ∧ (0 ≤ x1.toInt) ∧ (x2.toInt ≤ (v0 2).toInt) ∧ (zSq f1 x1.toInt 12 z59.toInt) := ⟨hP, hD, hS, lv_sub hl [1, 2, 3, 4, 0] rfl, (by first | with_reducible assumption | exact ⟨by omega, by omega⟩), by omega, by omega, by first | exact zSq_0 (by omega) | exact zSq_s (by assumption) e_z44 e_z47 (by omega) (by omega) (by omega) (by omega) (by omega)⟩
            exact hJ27 H locs ls (fun i => ([z59] : List (Int32)).getD i 0) (fun _ => 0) (fun _ => (fun _ => 0)) (fun _ => (fun _ => 0)) hc (show (4 - z59.toInt).toNat < (4 - (u27_ 0).toInt).toNat from by omega)
          · skip
            have b_ := zF_eq rfl rfl c_
            refine lv_iconst (v := 0) hx hb dX9_spells_57 (by decide) ?_
            refine W.widen (k := 0) (n := 0) (by decide) (by decide) ?_
            have hpost : (0 ≤ (0 : Int32).toInt ∧ (0 : Int32).toInt ≤ 1) ∧ (0 ≤ x1.toInt → x1.toInt ≤ 600 → 0 ≤ x2.toInt → x2.toInt ≤ (v0 2).toInt → (0 : Int32).toInt = 1 → zSpl f1 x1.toInt x2.toInt 12 4) ∧ (0 ≤ x1.toInt → x1.toInt ≤ 600 → 0 ≤ x2.toInt → x2.toInt ≤ (v0 2).toInt → (0 : Int32).toInt = 0 → ¬ zSpl f1 x1.toInt x2.toInt 12 4) := ⟨(by first | with_reducible assumption | exact ⟨by omega, by omega⟩), by first | (intro _ _ _ _ q; exact absurd q (by decide)) | exact fun _ _ _ _ _ => ⟨by omega, fun j hj => by have h9 : zSq _ _ _ _ := (by assumption); exact h9 j (by omega)⟩, by first | (intro _ _ _ _ q; exact absurd q (by decide)) | exact fun _ _ _ _ _ => zSpl_n e_z44 e_z47 (by omega) (by omega) (by omega) (by omega) (by omega) | exact fun _ _ _ _ _ q => by have q1 := q.1; omega⟩
            have hP9 : va_P (dC, dI) vwCl [(h0, .inr (9, mX9 h1 h2 v0)), (h1, zi k1 600 f1)] H := hP
            have hD9 : va_D A [(h0, .inr (9, mX9 h1 h2 v0)), (h1, zi k1 600 f1)] := hD
            exact W.zret (v := 0) hx hb hr rfl (fun t ht hW => ⟨⟨0, (fun _ => 0), rfl, hpost, (fun _ => 0), (fun _ => (fun _ => 0)), (fun _ => (fun _ => 0)), by rw [ht]; exact hP9, va_K.moved hW.alike hK, hD9⟩, hS.F ht⟩) hS.2.2 dX9_spells_58
      · skip
        have hc : va_P (dC, dI) vwCl [(h0, .inr (9, mX9 h1 h2 v0)), (h1, zi k1 600 f1)] H ∧ va_D A [(h0, .inr (9, mX9 h1 h2 v0)), (h1, zi k1 600 f1)] ∧ va_S A s.heap H locs ∧ lv_has ls 5 [(0, .ref h0), (1, .int x1), (2, .int x2), (3, .ref (adK 12)), (4, .int 0)] ∧ (0 ≤ (0 : Int32).toInt ∧ (0 : Int32).toInt ≤ 4) ∧ (0 ≤ x1.toInt) ∧ (x2.toInt ≤ (v0 2).toInt) ∧ (zSq f1 x1.toInt 12 (0 : Int32).toInt) := ⟨hP, hD, hS, lv_sub hl [1, 2, 3, 4, 0] rfl, (by first | with_reducible assumption | exact ⟨by omega, by omega⟩), by omega, by omega, by first | exact zSq_0 (by omega) | exact zSq_s (by assumption) e_z44 e_z47 (by omega) (by omega) (by omega) (by omega) (by omega)⟩
        exact hJ27 H locs ls (fun i => ([0] : List (Int32)).getD i 0) (fun _ => 0) (fun _ => (fun _ => 0)) (fun _ => (fun _ => 0)) hc
    · skip
      have b_ := zF_le rfl rfl c_
      refine lv_iconst (v := 0) hx hb dX9_spells_22 (by decide) ?_
      refine W.widen (k := 0) (n := 0) (by decide) (by decide) ?_
      have hpost : (0 ≤ (0 : Int32).toInt ∧ (0 : Int32).toInt ≤ 1) ∧ (0 ≤ x1.toInt → x1.toInt ≤ 600 → 0 ≤ x2.toInt → x2.toInt ≤ (v0 2).toInt → (0 : Int32).toInt = 1 → zSpl f1 x1.toInt x2.toInt 12 4) ∧ (0 ≤ x1.toInt → x1.toInt ≤ 600 → 0 ≤ x2.toInt → x2.toInt ≤ (v0 2).toInt → (0 : Int32).toInt = 0 → ¬ zSpl f1 x1.toInt x2.toInt 12 4) := ⟨(by first | with_reducible assumption | exact ⟨by omega, by omega⟩), by first | (intro _ _ _ _ q; exact absurd q (by decide)) | exact fun _ _ _ _ _ => ⟨by omega, fun j hj => by have h9 : zSq _ _ _ _ := (by assumption); exact h9 j (by omega)⟩, by first | (intro _ _ _ _ q; exact absurd q (by decide)) | exact fun _ _ _ _ _ => zSpl_n e_z44 e_z47 (by omega) (by omega) (by omega) (by omega) (by omega) | exact fun _ _ _ _ _ q => by have q1 := q.1; omega⟩
      have hP9 : va_P (dC, dI) vwCl [(h0, .inr (9, mX9 h1 h2 v0)), (h1, zi k1 600 f1)] H := hP
      have hD9 : va_D A [(h0, .inr (9, mX9 h1 h2 v0)), (h1, zi k1 600 f1)] := hD
      exact W.zret (v := 0) hx hb hr rfl (fun t ht hW => ⟨⟨0, (fun _ => 0), rfl, hpost, (fun _ => 0), (fun _ => (fun _ => 0)), (fun _ => (fun _ => 0)), by rw [ht]; exact hP9, va_K.moved hW.alike hK, hD9⟩, hS.F ht⟩) hS.2.2 dX9_spells_23
set_option maxHeartbeats 8000000 in
set_option maxRecDepth 100000 in
theorem sX4_sortOfRun_0 (l : Launch) (dC : Nat → ClassId) (dI : Nat → Nat → Nat) (adK adV : Nat → Nat) (h0 : Nat) (h1 : Nat) (h2 : Nat) (h4 : Nat) (h11 : Nat) (h18 : Nat) (h3 : Nat) (k2 : ClassId) (sz : Nat) (v0 : Nat → Int32) (v1 : Nat → Int32) (f2 : Nat → Int32) (hv0 : zR rg_Parser v0) (hv1 : zR rg_Tape v1) (hp0_ : 0 ≤ (v0 5).toInt ∧ (v0 5).toInt ≤ 599 ∧ 0 ≤ (v0 6).toInt ∧ (v0 6).toInt ≤ 601) : Met l yX4_sortOfRun (zw yX4_sortOfRun cX4_sortOfRun 3 (some .int)) { frames := 5, cells := 0, slots := 0, locals := 109 } (zPc dC dI adK adV [.ref h0] sz [(h0, .inr (4, mX4 h1 h4 h11 h18 v0)), (h1, .inr (9, mX9 h2 h3 v1)), (h2, zi k2 600 f2)] [(k2, .byte)]) (va_Qi (fun (r : Int32) (u : Nat → Int32) => (257 ≤ r.toInt ∧ r.toInt ≤ 263) ∧ (zqTy f2 (v1 2).toInt → (v0 5).toInt < (v1 2).toInt → zqRe f2 (v1 2).toInt (v0 5).toInt (v0 6).toInt → zKw f2 (v1 2).toInt (v0 5).toInt (v0 6).toInt r.toInt (u 0).toInt)) (fun (u : Nat → Int32) (t : State) => ∃ (ww : Nat → Int64) (aa : Nat → Nat → Int32) (bb : Nat → Nat → Int64), va_P (dC, dI) vwCl [(h0, .inr (4, mX4 h1 h4 h11 h18 (upd v0 6 (u 0)))), (h1, .inr (9, mX9 h2 h3 v1)), (h2, zi k2 600 f2)] t.heap ∧ va_K (dC, dI) vwCl [(k2, .byte)] t ∧ va_D (va_A [(h0, .inr (4, mX4 h1 h4 h11 h18 v0)), (h1, .inr (9, mX9 h2 h3 v1)), (h2, zi k2 600 f2)] sz) [(h0, .inr (4, mX4 h1 h4 h11 h18 (upd v0 6 (u 0)))), (h1, .inr (9, mX9 h2 h3 v1)), (h2, zi k2 600 f2)]) (va_A [(h0, .inr (4, mX4 h1 h4 h11 h18 v0)), (h1, .inr (9, mX9 h2 h3 v1)), (h2, zi k2 600 f2)] sz)) 0 0 (va_A [(h0, .inr (4, mX4 h1 h4 h11 h18 v0)), (h1, .inr (9, mX9 h2 h3 v1)), (h2, zi k2 600 f2)] sz) := by
  refine Met.ofW (cc := cX4_sortOfRun) (maxL := 3) (ret := (some .int)) (by decide) rfl ?_
  intro p e s m args below meth c s₁ B hml hv
  obtain ⟨rfl, hsz, hP, hK, hD0, hE, hZ⟩ := hv
  have hx := B.exec
  have hb := B.bytes
  have hr := B.returns
  have hG : ∀ w ∈ zG, w.before _ s = true := fun w h => atoms_spec (ws := (zw yX4_sortOfRun cX4_sortOfRun 3 (some .int))) B.pre w (List.mem_cons_of_mem _ h)
  have hown : s.vm.findClass RX4 = some m.cls := findClass_of_methodNamed B.named
  have hlocks := B.notSynchronized

  subst hsz
  have hD := hD0.self (sz := s.heap.size)
  generalize hAe : va_A [(h0, .inr (4, mX4 h1 h4 h11 h18 v0)), (h1, .inr (9, mX9 h2 h3 v1)), (h2, zi k2 600 f2)] s.heap.size = A at hD hZ ⊢
  have hA : ∀ q : Nat, s.heap.size ≤ q → A q := fun q h => by rw [← hAe]; exact Or.inr h
  have hS : va_S A s.heap s.heap [] := va_S.rf
  have hl := lv_entry ([.ref h0]) (n := 3) (Nat.le_of_ble_eq_true rfl)
  rw [lg_entry_eq]
  generalize (lg_sl ([.ref h0]) ++ List.replicate (3 - (lg_sl ([.ref h0])).length) Slot.unset).toArray = ls at hl ⊢
  have hl : lv_has ls 3 [(0, .ref h0)] := hl
  have b_ := zk_257
  have b_ := zk_258
  have b_ := zk_259
  have b_ := zk_260
  have b_ := zk_261
  have b_ := zk_262
  have b_ := zk_263
  have b_ : -2147483648 ≤ (v0 5).toInt ∧ (v0 5).toInt ≤ 2147483647 := ⟨zlo _, zhi _⟩
  have b_ : -2147483648 ≤ (v0 6).toInt ∧ (v0 6).toInt ≤ 2147483647 := ⟨zlo _, zhi _⟩
  have b_ : 0 ≤ (v1 2).toInt ∧ (v1 2).toInt ≤ 600 := hv1 2
  refine lv_aload_n hx hb dX4_sortOfRun_0 rfl (lv_at hl 0 rfl) ?_
  refine va_get (D := (dC, dI)) (ci := 4) (v := .ref h1) (C := RX4) (T := TX4) (N := 12) hx hb hG zuX4 hown hK hP 0 rfl rfl 0 (by decide) (hG _ zv408) (fun _ h9 => h9) rfl dX4_sortOfRun_1 ?_
  refine lv_aload_n hx hb dX4_sortOfRun_4 rfl (lv_at hl 0 rfl) ?_
  refine va_get (D := (dC, dI)) (ci := 4) (v := .int (v0 5)) (C := RX4) (T := TX4) (N := 12) hx hb hG zuX4 hown hK hP 0 rfl rfl 5 (by decide) (hG _ zv413) (fun _ h9 => h9) rfl dX4_sortOfRun_5 ?_
  refine lv_aload_n hx hb dX4_sortOfRun_8 rfl (lv_at hl 0 rfl) ?_
  refine va_get (D := (dC, dI)) (ci := 4) (v := .int (v0 6)) (C := RX4) (T := TX4) (N := 12) hx hb hG zuX4 hown hK hP 0 rfl rfl 6 (by decide) (hG _ zv414) (fun _ h9 => h9) rfl dX4_sortOfRun_9 ?_
  refine va_ldcS hx hb hown (zE_K7 hE) dX4_sortOfRun_12 ?_
  have hPc := hP.sub (ws' := [(h1, .inr (9, mX9 h2 h3 v1)), (h2, zi k2 600 f2)]) [1, 2] rfl
  have hDc := hD.sub (ws' := [(h1, .inr (9, mX9 h2 h3 v1)), (h2, zi k2 600 f2)]) [1, 2] (by decide) rfl
  have hKc := hK.sub (tys' := [(k2, .byte)]) [0] rfl
  have hFc := va_free (wc := [(h1, .inr (9, mX9 h2 h3 v1)), (h2, zi k2 600 f2)]) hD hS hA [1, 2] rfl
  refine va_calli (va_runV (As := [.int (v0 5), .int (v0 6), .ref (adK 7)]) (rest := []) ⟨hx, hb, hml, hown, hG⟩ (sX9_spells_0 l dC dI adK adV h1 h2 h3 k2 s.heap.size v1 f2 (v0 5) (v0 6) hv1 (show (0 : Int) ≤ ((v0 5) : Int32).toInt ∧ ((v0 5) : Int32).toInt ≤ (600 : Int) from (by first | with_reducible assumption | exact ⟨by omega, by omega⟩)) (show (0 : Int) ≤ ((v0 6) : Int32).toInt ∧ ((v0 6) : Int32).toInt ≤ (601 : Int) from (by first | with_reducible assumption | exact ⟨by omega, by omega⟩))) (cwV 3 hG (zgV zv1043 zv1044 zv1045 zv130 zv1046) rfl rfl rfl (by decide +kernel) ⟨Nat.le_of_ble_eq_true rfl, Nat.le_of_ble_eq_true rfl⟩) ⟨zPc_blind, va_recv hKc hPc (ci := 9) (q0 := 0) rfl rfl, zPc_pre hPc hKc hDc hE hS hFc hZ⟩ rfl rfl hl.1 rfl (lv_room (Nat.le_of_ble_eq_true rfl)) dX4_sortOfRun_14 ⟨Nat.le_of_ble_eq_true rfl, Nat.le_of_ble_eq_true rfl⟩) hS (fun q _ h => hFc q h) hFc (fun r14_ u14_ t H1 locs ht hvm hw hB hz1 hk1 hS => ?_)
  replace hw : (0 ≤ r14_.toInt ∧ r14_.toInt ≤ 1) ∧ (0 ≤ (v0 5).toInt → (v0 5).toInt ≤ 600 → 0 ≤ (v0 6).toInt → (v0 6).toInt ≤ (v1 2).toInt → r14_.toInt = 1 → zSpl f2 (v0 5).toInt (v0 6).toInt 7 2) ∧ (0 ≤ (v0 5).toInt → (v0 5).toInt ≤ 600 → 0 ≤ (v0 6).toInt → (v0 6).toInt ≤ (v1 2).toInt → r14_.toInt = 0 → ¬ zSpl f2 (v0 5).toInt (v0 6).toInt 7 2) := hw
  obtain ⟨b_, hX14_0, hX14_1⟩ := hw
  obtain ⟨w14_, a14_, b14_, hP1, hK1, hD1⟩ := hB
  rw [ht] at hP1
  obtain ⟨hP, hD⟩ := va_join (wr := [(h0, .inr (4, mX4 h1 h4 h11 h18 v0))]) (w1 := [(h1, .inr (9, mX9 h2 h3 v1)), (h2, zi k2 600 f2)]) hP hD [1, 2] [0] rfl rfl (by decide) (by decide) hk1 hFc hP1 hD1
  have hP : va_P (dC, dI) vwCl [(h0, .inr (4, mX4 h1 h4 h11 h18 v0)), (h1, .inr (9, mX9 h2 h3 v1)), (h2, zi k2 600 f2)] H1 := hP.sub [0, 1, 2] rfl
  have hD : va_D A [(h0, .inr (4, mX4 h1 h4 h11 h18 v0)), (h1, .inr (9, mX9 h2 h3 v1)), (h2, zi k2 600 f2)] := hD.sub [0, 1, 2] (by decide) rfl
  generalize H1 = H at hP hS ⊢
  clear hz1
  refine lv_if_eq (tgt := 24) hx hb dX4_sortOfRun_17 (by decide) (fun c_ => ?_) (fun c_ => ?_)
  · skip
    have b_ := zT_eq rfl zk_0 c_
    refine lv_aload_n hx hb dX4_sortOfRun_24 rfl (lv_at hl 0 rfl) ?_
    refine va_get (D := (dC, dI)) (ci := 4) (v := .ref h1) (C := RX4) (T := TX4) (N := 12) hx hb hG zuX4 hown hK hP 0 rfl rfl 0 (by decide) (hG _ zv408) (fun _ h9 => h9) rfl dX4_sortOfRun_25 ?_
    refine lv_aload_n hx hb dX4_sortOfRun_28 rfl (lv_at hl 0 rfl) ?_
    refine va_get (D := (dC, dI)) (ci := 4) (v := .int (v0 5)) (C := RX4) (T := TX4) (N := 12) hx hb hG zuX4 hown hK hP 0 rfl rfl 5 (by decide) (hG _ zv413) (fun _ h9 => h9) rfl dX4_sortOfRun_29 ?_
    refine lv_aload_n hx hb dX4_sortOfRun_32 rfl (lv_at hl 0 rfl) ?_
    refine va_get (D := (dC, dI)) (ci := 4) (v := .int (v0 6)) (C := RX4) (T := TX4) (N := 12) hx hb hG zuX4 hown hK hP 0 rfl rfl 6 (by decide) (hG _ zv414) (fun _ h9 => h9) rfl dX4_sortOfRun_33 ?_
    refine va_ldcS hx hb hown (zE_K8 hE) dX4_sortOfRun_36 ?_
    have hPc := hP.sub (ws' := [(h1, .inr (9, mX9 h2 h3 v1)), (h2, zi k2 600 f2)]) [1, 2] rfl
    have hDc := hD.sub (ws' := [(h1, .inr (9, mX9 h2 h3 v1)), (h2, zi k2 600 f2)]) [1, 2] (by decide) rfl
    have hKc := hK.sub (tys' := [(k2, .byte)]) [0] rfl
    have hFc := va_free (wc := [(h1, .inr (9, mX9 h2 h3 v1)), (h2, zi k2 600 f2)]) hD hS hA [1, 2] rfl
    refine va_calli (va_runV (As := [.int (v0 5), .int (v0 6), .ref (adK 8)]) (rest := []) ⟨hx, hb, hml, hown, hG⟩ (sX9_spells_1 l dC dI adK adV h1 h2 h3 k2 H.size v1 f2 (v0 5) (v0 6) hv1 (show (0 : Int) ≤ ((v0 5) : Int32).toInt ∧ ((v0 5) : Int32).toInt ≤ (600 : Int) from (by first | with_reducible assumption | exact ⟨by omega, by omega⟩)) (show (0 : Int) ≤ ((v0 6) : Int32).toInt ∧ ((v0 6) : Int32).toInt ≤ (601 : Int) from (by first | with_reducible assumption | exact ⟨by omega, by omega⟩))) (cwV 3 hG (zgV zv1043 zv1044 zv1045 zv130 zv1046) rfl rfl rfl (by decide +kernel) ⟨Nat.le_of_ble_eq_true rfl, Nat.le_of_ble_eq_true rfl⟩) ⟨zPc_blind, va_recv hKc hPc (ci := 9) (q0 := 0) rfl rfl, zPc_pre hPc hKc hDc hE hS hFc hZ⟩ rfl rfl hl.1 rfl (lv_room (Nat.le_of_ble_eq_true rfl)) dX4_sortOfRun_38 ⟨Nat.le_of_ble_eq_true rfl, Nat.le_of_ble_eq_true rfl⟩) hS (fun q _ h => hFc q h) hFc (fun r38_ u38_ t H1 locs ht hvm hw hB hz1 hk1 hS => ?_)
    replace hw : (0 ≤ r38_.toInt ∧ r38_.toInt ≤ 1) ∧ (0 ≤ (v0 5).toInt → (v0 5).toInt ≤ 600 → 0 ≤ (v0 6).toInt → (v0 6).toInt ≤ (v1 2).toInt → r38_.toInt = 1 → zSpl f2 (v0 5).toInt (v0 6).toInt 8 3) ∧ (0 ≤ (v0 5).toInt → (v0 5).toInt ≤ 600 → 0 ≤ (v0 6).toInt → (v0 6).toInt ≤ (v1 2).toInt → r38_.toInt = 0 → ¬ zSpl f2 (v0 5).toInt (v0 6).toInt 8 3) := hw
    obtain ⟨b_, hX38_0, hX38_1⟩ := hw
    obtain ⟨w38_, a38_, b38_, hP1, hK1, hD1⟩ := hB
    rw [ht] at hP1
    obtain ⟨hP, hD⟩ := va_join (wr := [(h0, .inr (4, mX4 h1 h4 h11 h18 v0))]) (w1 := [(h1, .inr (9, mX9 h2 h3 v1)), (h2, zi k2 600 f2)]) hP hD [1, 2] [0] rfl rfl (by decide) (by decide) hk1 hFc hP1 hD1
    have hP : va_P (dC, dI) vwCl [(h0, .inr (4, mX4 h1 h4 h11 h18 v0)), (h1, .inr (9, mX9 h2 h3 v1)), (h2, zi k2 600 f2)] H1 := hP.sub [0, 1, 2] rfl
    have hD : va_D A [(h0, .inr (4, mX4 h1 h4 h11 h18 v0)), (h1, .inr (9, mX9 h2 h3 v1)), (h2, zi k2 600 f2)] := hD.sub [0, 1, 2] (by decide) rfl
    generalize H1 = H at hP hS ⊢
    clear hz1
    refine lv_if_eq (tgt := 48) hx hb dX4_sortOfRun_41 (by decide) (fun c_ => ?_) (fun c_ => ?_)
    · skip
      have b_ := zT_eq rfl zk_0 c_
      refine lv_aload_n hx hb dX4_sortOfRun_48 rfl (lv_at hl 0 rfl) ?_
      refine va_get (D := (dC, dI)) (ci := 4) (v := .ref h1) (C := RX4) (T := TX4) (N := 12) hx hb hG zuX4 hown hK hP 0 rfl rfl 0 (by decide) (hG _ zv408) (fun _ h9 => h9) rfl dX4_sortOfRun_49 ?_
      refine lv_aload_n hx hb dX4_sortOfRun_52 rfl (lv_at hl 0 rfl) ?_
      refine va_get (D := (dC, dI)) (ci := 4) (v := .int (v0 5)) (C := RX4) (T := TX4) (N := 12) hx hb hG zuX4 hown hK hP 0 rfl rfl 5 (by decide) (hG _ zv413) (fun _ h9 => h9) rfl dX4_sortOfRun_53 ?_
      refine lv_aload_n hx hb dX4_sortOfRun_56 rfl (lv_at hl 0 rfl) ?_
      refine va_get (D := (dC, dI)) (ci := 4) (v := .int (v0 6)) (C := RX4) (T := TX4) (N := 12) hx hb hG zuX4 hown hK hP 0 rfl rfl 6 (by decide) (hG _ zv414) (fun _ h9 => h9) rfl dX4_sortOfRun_57 ?_
      refine va_ldcS hx hb hown (zE_K9 hE) dX4_sortOfRun_60 ?_
      have hPc := hP.sub (ws' := [(h1, .inr (9, mX9 h2 h3 v1)), (h2, zi k2 600 f2)]) [1, 2] rfl
      have hDc := hD.sub (ws' := [(h1, .inr (9, mX9 h2 h3 v1)), (h2, zi k2 600 f2)]) [1, 2] (by decide) rfl
      have hKc := hK.sub (tys' := [(k2, .byte)]) [0] rfl
      have hFc := va_free (wc := [(h1, .inr (9, mX9 h2 h3 v1)), (h2, zi k2 600 f2)]) hD hS hA [1, 2] rfl
      refine va_calli (va_runV (As := [.int (v0 5), .int (v0 6), .ref (adK 9)]) (rest := []) ⟨hx, hb, hml, hown, hG⟩ (sX9_spells_2 l dC dI adK adV h1 h2 h3 k2 H.size v1 f2 (v0 5) (v0 6) hv1 (show (0 : Int) ≤ ((v0 5) : Int32).toInt ∧ ((v0 5) : Int32).toInt ≤ (600 : Int) from (by first | with_reducible assumption | exact ⟨by omega, by omega⟩)) (show (0 : Int) ≤ ((v0 6) : Int32).toInt ∧ ((v0 6) : Int32).toInt ≤ (601 : Int) from (by first | with_reducible assumption | exact ⟨by omega, by omega⟩))) (cwV 3 hG (zgV zv1043 zv1044 zv1045 zv130 zv1046) rfl rfl rfl (by decide +kernel) ⟨Nat.le_of_ble_eq_true rfl, Nat.le_of_ble_eq_true rfl⟩) ⟨zPc_blind, va_recv hKc hPc (ci := 9) (q0 := 0) rfl rfl, zPc_pre hPc hKc hDc hE hS hFc hZ⟩ rfl rfl hl.1 rfl (lv_room (Nat.le_of_ble_eq_true rfl)) dX4_sortOfRun_62 ⟨Nat.le_of_ble_eq_true rfl, Nat.le_of_ble_eq_true rfl⟩) hS (fun q _ h => hFc q h) hFc (fun r62_ u62_ t H1 locs ht hvm hw hB hz1 hk1 hS => ?_)
      replace hw : (0 ≤ r62_.toInt ∧ r62_.toInt ≤ 1) ∧ (0 ≤ (v0 5).toInt → (v0 5).toInt ≤ 600 → 0 ≤ (v0 6).toInt → (v0 6).toInt ≤ (v1 2).toInt → r62_.toInt = 1 → zSpl f2 (v0 5).toInt (v0 6).toInt 9 3) ∧ (0 ≤ (v0 5).toInt → (v0 5).toInt ≤ 600 → 0 ≤ (v0 6).toInt → (v0 6).toInt ≤ (v1 2).toInt → r62_.toInt = 0 → ¬ zSpl f2 (v0 5).toInt (v0 6).toInt 9 3) := hw
      obtain ⟨b_, hX62_0, hX62_1⟩ := hw
      obtain ⟨w62_, a62_, b62_, hP1, hK1, hD1⟩ := hB
      rw [ht] at hP1
      obtain ⟨hP, hD⟩ := va_join (wr := [(h0, .inr (4, mX4 h1 h4 h11 h18 v0))]) (w1 := [(h1, .inr (9, mX9 h2 h3 v1)), (h2, zi k2 600 f2)]) hP hD [1, 2] [0] rfl rfl (by decide) (by decide) hk1 hFc hP1 hD1
      have hP : va_P (dC, dI) vwCl [(h0, .inr (4, mX4 h1 h4 h11 h18 v0)), (h1, .inr (9, mX9 h2 h3 v1)), (h2, zi k2 600 f2)] H1 := hP.sub [0, 1, 2] rfl
      have hD : va_D A [(h0, .inr (4, mX4 h1 h4 h11 h18 v0)), (h1, .inr (9, mX9 h2 h3 v1)), (h2, zi k2 600 f2)] := hD.sub [0, 1, 2] (by decide) rfl
      generalize H1 = H at hP hS ⊢
      clear hz1
      refine lv_if_eq (tgt := 72) hx hb dX4_sortOfRun_65 (by decide) (fun c_ => ?_) (fun c_ => ?_)
      · skip
        have b_ := zT_eq rfl zk_0 c_
        refine lv_aload_n hx hb dX4_sortOfRun_72 rfl (lv_at hl 0 rfl) ?_
        refine va_get (D := (dC, dI)) (ci := 4) (v := .ref h1) (C := RX4) (T := TX4) (N := 12) hx hb hG zuX4 hown hK hP 0 rfl rfl 0 (by decide) (hG _ zv408) (fun _ h9 => h9) rfl dX4_sortOfRun_73 ?_
        refine lv_aload_n hx hb dX4_sortOfRun_76 rfl (lv_at hl 0 rfl) ?_
        refine va_get (D := (dC, dI)) (ci := 4) (v := .int (v0 5)) (C := RX4) (T := TX4) (N := 12) hx hb hG zuX4 hown hK hP 0 rfl rfl 5 (by decide) (hG _ zv413) (fun _ h9 => h9) rfl dX4_sortOfRun_77 ?_
        refine lv_aload_n hx hb dX4_sortOfRun_80 rfl (lv_at hl 0 rfl) ?_
        refine va_get (D := (dC, dI)) (ci := 4) (v := .int (v0 6)) (C := RX4) (T := TX4) (N := 12) hx hb hG zuX4 hown hK hP 0 rfl rfl 6 (by decide) (hG _ zv414) (fun _ h9 => h9) rfl dX4_sortOfRun_81 ?_
        refine va_ldcS hx hb hown (zE_K10 hE) dX4_sortOfRun_84 ?_
        have hPc := hP.sub (ws' := [(h1, .inr (9, mX9 h2 h3 v1)), (h2, zi k2 600 f2)]) [1, 2] rfl
        have hDc := hD.sub (ws' := [(h1, .inr (9, mX9 h2 h3 v1)), (h2, zi k2 600 f2)]) [1, 2] (by decide) rfl
        have hKc := hK.sub (tys' := [(k2, .byte)]) [0] rfl
        have hFc := va_free (wc := [(h1, .inr (9, mX9 h2 h3 v1)), (h2, zi k2 600 f2)]) hD hS hA [1, 2] rfl
        refine va_calli (va_runV (As := [.int (v0 5), .int (v0 6), .ref (adK 10)]) (rest := []) ⟨hx, hb, hml, hown, hG⟩ (sX9_spells_3 l dC dI adK adV h1 h2 h3 k2 H.size v1 f2 (v0 5) (v0 6) hv1 (show (0 : Int) ≤ ((v0 5) : Int32).toInt ∧ ((v0 5) : Int32).toInt ≤ (600 : Int) from (by first | with_reducible assumption | exact ⟨by omega, by omega⟩)) (show (0 : Int) ≤ ((v0 6) : Int32).toInt ∧ ((v0 6) : Int32).toInt ≤ (601 : Int) from (by first | with_reducible assumption | exact ⟨by omega, by omega⟩))) (cwV 3 hG (zgV zv1043 zv1044 zv1045 zv130 zv1046) rfl rfl rfl (by decide +kernel) ⟨Nat.le_of_ble_eq_true rfl, Nat.le_of_ble_eq_true rfl⟩) ⟨zPc_blind, va_recv hKc hPc (ci := 9) (q0 := 0) rfl rfl, zPc_pre hPc hKc hDc hE hS hFc hZ⟩ rfl rfl hl.1 rfl (lv_room (Nat.le_of_ble_eq_true rfl)) dX4_sortOfRun_86 ⟨Nat.le_of_ble_eq_true rfl, Nat.le_of_ble_eq_true rfl⟩) hS (fun q _ h => hFc q h) hFc (fun r86_ u86_ t H1 locs ht hvm hw hB hz1 hk1 hS => ?_)
        replace hw : (0 ≤ r86_.toInt ∧ r86_.toInt ≤ 1) ∧ (0 ≤ (v0 5).toInt → (v0 5).toInt ≤ 600 → 0 ≤ (v0 6).toInt → (v0 6).toInt ≤ (v1 2).toInt → r86_.toInt = 1 → zSpl f2 (v0 5).toInt (v0 6).toInt 10 4) ∧ (0 ≤ (v0 5).toInt → (v0 5).toInt ≤ 600 → 0 ≤ (v0 6).toInt → (v0 6).toInt ≤ (v1 2).toInt → r86_.toInt = 0 → ¬ zSpl f2 (v0 5).toInt (v0 6).toInt 10 4) := hw
        obtain ⟨b_, hX86_0, hX86_1⟩ := hw
        obtain ⟨w86_, a86_, b86_, hP1, hK1, hD1⟩ := hB
        rw [ht] at hP1
        obtain ⟨hP, hD⟩ := va_join (wr := [(h0, .inr (4, mX4 h1 h4 h11 h18 v0))]) (w1 := [(h1, .inr (9, mX9 h2 h3 v1)), (h2, zi k2 600 f2)]) hP hD [1, 2] [0] rfl rfl (by decide) (by decide) hk1 hFc hP1 hD1
        have hP : va_P (dC, dI) vwCl [(h0, .inr (4, mX4 h1 h4 h11 h18 v0)), (h1, .inr (9, mX9 h2 h3 v1)), (h2, zi k2 600 f2)] H1 := hP.sub [0, 1, 2] rfl
        have hD : va_D A [(h0, .inr (4, mX4 h1 h4 h11 h18 v0)), (h1, .inr (9, mX9 h2 h3 v1)), (h2, zi k2 600 f2)] := hD.sub [0, 1, 2] (by decide) rfl
        generalize H1 = H at hP hS ⊢
        clear hz1
        refine lv_if_eq (tgt := 96) hx hb dX4_sortOfRun_89 (by decide) (fun c_ => ?_) (fun c_ => ?_)
        · skip
          have b_ := zT_eq rfl zk_0 c_
          refine lv_aload_n hx hb dX4_sortOfRun_96 rfl (lv_at hl 0 rfl) ?_
          refine va_get (D := (dC, dI)) (ci := 4) (v := .ref h1) (C := RX4) (T := TX4) (N := 12) hx hb hG zuX4 hown hK hP 0 rfl rfl 0 (by decide) (hG _ zv408) (fun _ h9 => h9) rfl dX4_sortOfRun_97 ?_
          refine lv_aload_n hx hb dX4_sortOfRun_100 rfl (lv_at hl 0 rfl) ?_
          refine va_get (D := (dC, dI)) (ci := 4) (v := .int (v0 5)) (C := RX4) (T := TX4) (N := 12) hx hb hG zuX4 hown hK hP 0 rfl rfl 5 (by decide) (hG _ zv413) (fun _ h9 => h9) rfl dX4_sortOfRun_101 ?_
          refine lv_aload_n hx hb dX4_sortOfRun_104 rfl (lv_at hl 0 rfl) ?_
          refine va_get (D := (dC, dI)) (ci := 4) (v := .int (v0 6)) (C := RX4) (T := TX4) (N := 12) hx hb hG zuX4 hown hK hP 0 rfl rfl 6 (by decide) (hG _ zv414) (fun _ h9 => h9) rfl dX4_sortOfRun_105 ?_
          refine va_ldcS hx hb hown (zE_K11 hE) dX4_sortOfRun_108 ?_
          have hPc := hP.sub (ws' := [(h1, .inr (9, mX9 h2 h3 v1)), (h2, zi k2 600 f2)]) [1, 2] rfl
          have hDc := hD.sub (ws' := [(h1, .inr (9, mX9 h2 h3 v1)), (h2, zi k2 600 f2)]) [1, 2] (by decide) rfl
          have hKc := hK.sub (tys' := [(k2, .byte)]) [0] rfl
          have hFc := va_free (wc := [(h1, .inr (9, mX9 h2 h3 v1)), (h2, zi k2 600 f2)]) hD hS hA [1, 2] rfl
          refine va_calli (va_runV (As := [.int (v0 5), .int (v0 6), .ref (adK 11)]) (rest := []) ⟨hx, hb, hml, hown, hG⟩ (sX9_spells_4 l dC dI adK adV h1 h2 h3 k2 H.size v1 f2 (v0 5) (v0 6) hv1 (show (0 : Int) ≤ ((v0 5) : Int32).toInt ∧ ((v0 5) : Int32).toInt ≤ (600 : Int) from (by first | with_reducible assumption | exact ⟨by omega, by omega⟩)) (show (0 : Int) ≤ ((v0 6) : Int32).toInt ∧ ((v0 6) : Int32).toInt ≤ (601 : Int) from (by first | with_reducible assumption | exact ⟨by omega, by omega⟩))) (cwV 3 hG (zgV zv1043 zv1044 zv1045 zv130 zv1046) rfl rfl rfl (by decide +kernel) ⟨Nat.le_of_ble_eq_true rfl, Nat.le_of_ble_eq_true rfl⟩) ⟨zPc_blind, va_recv hKc hPc (ci := 9) (q0 := 0) rfl rfl, zPc_pre hPc hKc hDc hE hS hFc hZ⟩ rfl rfl hl.1 rfl (lv_room (Nat.le_of_ble_eq_true rfl)) dX4_sortOfRun_110 ⟨Nat.le_of_ble_eq_true rfl, Nat.le_of_ble_eq_true rfl⟩) hS (fun q _ h => hFc q h) hFc (fun r110_ u110_ t H1 locs ht hvm hw hB hz1 hk1 hS => ?_)
          replace hw : (0 ≤ r110_.toInt ∧ r110_.toInt ≤ 1) ∧ (0 ≤ (v0 5).toInt → (v0 5).toInt ≤ 600 → 0 ≤ (v0 6).toInt → (v0 6).toInt ≤ (v1 2).toInt → r110_.toInt = 1 → zSpl f2 (v0 5).toInt (v0 6).toInt 11 5) ∧ (0 ≤ (v0 5).toInt → (v0 5).toInt ≤ 600 → 0 ≤ (v0 6).toInt → (v0 6).toInt ≤ (v1 2).toInt → r110_.toInt = 0 → ¬ zSpl f2 (v0 5).toInt (v0 6).toInt 11 5) := hw
          obtain ⟨b_, hX110_0, hX110_1⟩ := hw
          obtain ⟨w110_, a110_, b110_, hP1, hK1, hD1⟩ := hB
          rw [ht] at hP1
          obtain ⟨hP, hD⟩ := va_join (wr := [(h0, .inr (4, mX4 h1 h4 h11 h18 v0))]) (w1 := [(h1, .inr (9, mX9 h2 h3 v1)), (h2, zi k2 600 f2)]) hP hD [1, 2] [0] rfl rfl (by decide) (by decide) hk1 hFc hP1 hD1
          have hP : va_P (dC, dI) vwCl [(h0, .inr (4, mX4 h1 h4 h11 h18 v0)), (h1, .inr (9, mX9 h2 h3 v1)), (h2, zi k2 600 f2)] H1 := hP.sub [0, 1, 2] rfl
          have hD : va_D A [(h0, .inr (4, mX4 h1 h4 h11 h18 v0)), (h1, .inr (9, mX9 h2 h3 v1)), (h2, zi k2 600 f2)] := hD.sub [0, 1, 2] (by decide) rfl
          generalize H1 = H at hP hS ⊢
          clear hz1
          refine lv_istore_n (lv' := [(1, .int r110_), (0, .ref h0)]) hx hb dX4_sortOfRun_113 rfl hl (by decide) rfl (fun ls hl => ?_)
          refine lv_aload_n hx hb dX4_sortOfRun_114 rfl (lv_at hl 1 rfl) ?_
          refine va_get (D := (dC, dI)) (ci := 4) (v := .ref h1) (C := RX4) (T := TX4) (N := 12) hx hb hG zuX4 hown hK hP 0 rfl rfl 0 (by decide) (hG _ zv408) (fun _ h9 => h9) rfl dX4_sortOfRun_115 ?_
          refine lv_aload_n hx hb dX4_sortOfRun_118 rfl (lv_at hl 1 rfl) ?_
          refine va_get (D := (dC, dI)) (ci := 4) (v := .int (v0 6)) (C := RX4) (T := TX4) (N := 12) hx hb hG zuX4 hown hK hP 0 rfl rfl 6 (by decide) (hG _ zv414) (fun _ h9 => h9) rfl dX4_sortOfRun_119 ?_
          have hPc := hP.sub (ws' := [(h1, .inr (9, mX9 h2 h3 v1)), (h2, zi k2 600 f2)]) [1, 2] rfl
          have hDc := hD.sub (ws' := [(h1, .inr (9, mX9 h2 h3 v1)), (h2, zi k2 600 f2)]) [1, 2] (by decide) rfl
          have hKc := hK.sub (tys' := [(k2, .byte)]) [0] rfl
          have hFc := va_free (wc := [(h1, .inr (9, mX9 h2 h3 v1)), (h2, zi k2 600 f2)]) hD hS hA [1, 2] rfl
          refine va_calli (va_runV (As := [.int (v0 6)]) (rest := []) ⟨hx, hb, hml, hown, hG⟩ (sX9_behindBlanks_0 l dC dI adK adV h1 h2 h3 k2 H.size v1 f2 (v0 6) hv1) (cwV 1 hG (zgV zv1025 zv1026 zv1027 zv130 zv1028) rfl rfl rfl (by decide +kernel) ⟨Nat.le_of_ble_eq_true rfl, Nat.le_of_ble_eq_true rfl⟩) ⟨zPc_blind, va_recv hKc hPc (ci := 9) (q0 := 0) rfl rfl, zPc_pre hPc hKc hDc hE hS hFc hZ⟩ rfl rfl hl.1 rfl (lv_room (Nat.le_of_ble_eq_true rfl)) dX4_sortOfRun_122 ⟨Nat.le_of_ble_eq_true rfl, Nat.le_of_ble_eq_true rfl⟩) hS (fun q _ h => hFc q h) hFc (fun r122_ u122_ t H1 locs ht hvm hw hB hz1 hk1 hS => ?_)
          replace hw : (0 ≤ r122_.toInt ∧ r122_.toInt ≤ 2147483647) ∧ (0 ≤ (v0 6).toInt → zBl f2 (v1 2).toInt (v0 6).toInt r122_.toInt) := hw
          obtain ⟨b_, hX122_0⟩ := hw
          obtain ⟨w122_, a122_, b122_, hP1, hK1, hD1⟩ := hB
          rw [ht] at hP1
          obtain ⟨hP, hD⟩ := va_join (wr := [(h0, .inr (4, mX4 h1 h4 h11 h18 v0))]) (w1 := [(h1, .inr (9, mX9 h2 h3 v1)), (h2, zi k2 600 f2)]) hP hD [1, 2] [0] rfl rfl (by decide) (by decide) hk1 hFc hP1 hD1
          have hP : va_P (dC, dI) vwCl [(h0, .inr (4, mX4 h1 h4 h11 h18 v0)), (h1, .inr (9, mX9 h2 h3 v1)), (h2, zi k2 600 f2)] H1 := hP.sub [0, 1, 2] rfl
          have hD : va_D A [(h0, .inr (4, mX4 h1 h4 h11 h18 v0)), (h1, .inr (9, mX9 h2 h3 v1)), (h2, zi k2 600 f2)] := hD.sub [0, 1, 2] (by decide) rfl
          generalize H1 = H at hP hS ⊢
          clear hz1
          refine lv_istore_n (lv' := [(2, .int r122_), (1, .int r110_), (0, .ref h0)]) hx hb dX4_sortOfRun_125 rfl hl (by decide) rfl (fun ls hl => ?_)
          refine lv_iload_n hx hb dX4_sortOfRun_126 rfl (lv_at hl 1 rfl) ?_
          refine lv_if_ne (tgt := 150) hx hb dX4_sortOfRun_127 (by decide) (fun c_ => ?_) (fun c_ => ?_)
          · skip
            have b_ := zT_ne rfl zk_0 c_
            refine lv_aload_n hx hb dX4_sortOfRun_150 rfl (lv_at hl 2 rfl) ?_
            refine va_get (D := (dC, dI)) (ci := 4) (v := .ref h1) (C := RX4) (T := TX4) (N := 12) hx hb hG zuX4 hown hK hP 0 rfl rfl 0 (by decide) (hG _ zv408) (fun _ h9 => h9) rfl dX4_sortOfRun_151 ?_
            refine lv_iload_n hx hb dX4_sortOfRun_154 rfl (lv_at hl 0 rfl) ?_
            have hPc := hP.sub (ws' := [(h1, .inr (9, mX9 h2 h3 v1)), (h2, zi k2 600 f2)]) [1, 2] rfl
            have hDc := hD.sub (ws' := [(h1, .inr (9, mX9 h2 h3 v1)), (h2, zi k2 600 f2)]) [1, 2] (by decide) rfl
            have hKc := hK.sub (tys' := [(k2, .byte)]) [0] rfl
            have hFc := va_free (wc := [(h1, .inr (9, mX9 h2 h3 v1)), (h2, zi k2 600 f2)]) hD hS hA [1, 2] rfl
            refine va_calli (va_runV (As := [.int r122_]) (rest := []) ⟨hx, hb, hml, hown, hG⟩ (sX9_at_0 l dC dI adK adV h1 h2 h3 k2 H.size v1 f2 r122_ hv1) (cwV 1 hG (zgV zv1032 zv641 zv642 zv130 zv643) rfl rfl rfl (by decide +kernel) ⟨Nat.le_of_ble_eq_true rfl, Nat.le_of_ble_eq_true rfl⟩) ⟨zPc_blind, va_recv hKc hPc (ci := 9) (q0 := 0) rfl rfl, zPc_pre hPc hKc hDc hE hS hFc hZ⟩ rfl rfl hl.1 rfl (lv_room (Nat.le_of_ble_eq_true rfl)) dX4_sortOfRun_155 ⟨Nat.le_of_ble_eq_true rfl, Nat.le_of_ble_eq_true rfl⟩) hS (fun q _ h => hFc q h) hFc (fun r155_ u155_ t H1 locs ht hvm hw hB hz1 hk1 hS => ?_)
            replace hw : ((-1) ≤ r155_.toInt ∧ r155_.toInt ≤ 255) ∧ (0 ≤ r122_.toInt ∧ r122_.toInt < (v1 2).toInt → r155_.toInt = (f2 ((r122_ : Int32)).toNatClampNeg &&& 255).toInt) ∧ (r155_.toInt ≠ -1 → 0 ≤ r122_.toInt ∧ r122_.toInt < (v1 2).toInt ∧ r122_.toInt < 600) := hw
            obtain ⟨b_, hX155_0, hX155_1⟩ := hw
            obtain ⟨w155_, a155_, b155_, hP1, hK1, hD1⟩ := hB
            rw [ht] at hP1
            obtain ⟨hP, hD⟩ := va_join (wr := [(h0, .inr (4, mX4 h1 h4 h11 h18 v0))]) (w1 := [(h1, .inr (9, mX9 h2 h3 v1)), (h2, zi k2 600 f2)]) hP hD [1, 2] [0] rfl rfl (by decide) (by decide) hk1 hFc hP1 hD1
            have hP : va_P (dC, dI) vwCl [(h0, .inr (4, mX4 h1 h4 h11 h18 v0)), (h1, .inr (9, mX9 h2 h3 v1)), (h2, zi k2 600 f2)] H1 := hP.sub [0, 1, 2] rfl
            have hD : va_D A [(h0, .inr (4, mX4 h1 h4 h11 h18 v0)), (h1, .inr (9, mX9 h2 h3 v1)), (h2, zi k2 600 f2)] := hD.sub [0, 1, 2] (by decide) rfl
            generalize H1 = H at hP hS ⊢
            clear hz1
            refine lv_bipush (v := 58) hx hb dX4_sortOfRun_158 (by decide) ?_
            refine lv_icmp_ne (tgt := 184) hx hb dX4_sortOfRun_160 (by decide) (fun c_ => ?_) (fun c_ => ?_)
            · skip
              have b_ := zT_ne rfl zk_58 c_
              refine lv_sipush (v := 257) hx hb dX4_sortOfRun_184 (by decide) ?_
              refine W.widen (k := 0) (n := 0) (by decide) (by decide) ?_
              have hpost : (257 ≤ (257 : Int32).toInt ∧ (257 : Int32).toInt ≤ 263) ∧ (zqTy f2 (v1 2).toInt → (v0 5).toInt < (v1 2).toInt → zqRe f2 (v1 2).toInt (v0 5).toInt (v0 6).toInt → zKw f2 (v1 2).toInt (v0 5).toInt (v0 6).toInt (257 : Int32).toInt (v0 6).toInt) := ⟨(by first | with_reducible assumption | exact ⟨by omega, by omega⟩), by (intro tb_ p_ q_; have q4_ := q_.2.2.2; first | exact Or.inl ⟨(hX14_0 (by omega) (by omega) (by omega) (by omega) (by omega)), by first | omega | decide, by omega⟩ | exact Or.inr ⟨(hX14_1 (by omega) (by omega) (by omega) (by omega) (by omega)), Or.inl ⟨(hX38_0 (by omega) (by omega) (by omega) (by omega) (by omega)), by first | omega | decide, by omega⟩⟩ | exact Or.inr ⟨(hX14_1 (by omega) (by omega) (by omega) (by omega) (by omega)), Or.inr ⟨(hX38_1 (by omega) (by omega) (by omega) (by omega) (by omega)), Or.inl ⟨(hX62_0 (by omega) (by omega) (by omega) (by omega) (by omega)), by first | omega | decide, by omega⟩⟩⟩ | exact Or.inr ⟨(hX14_1 (by omega) (by omega) (by omega) (by omega) (by omega)), Or.inr ⟨(hX38_1 (by omega) (by omega) (by omega) (by omega) (by omega)), Or.inr ⟨(hX62_1 (by omega) (by omega) (by omega) (by omega) (by omega)), Or.inl ⟨(hX86_0 (by omega) (by omega) (by omega) (by omega) (by omega)), by first | omega | decide, by omega⟩⟩⟩⟩ | exact Or.inr ⟨(hX14_1 (by omega) (by omega) (by omega) (by omega) (by omega)), Or.inr ⟨(hX38_1 (by omega) (by omega) (by omega) (by omega) (by omega)), Or.inr ⟨(hX62_1 (by omega) (by omega) (by omega) (by omega) (by omega)), Or.inr ⟨(hX86_1 (by omega) (by omega) (by omega) (by omega) (by omega)), Or.inl ⟨_, hX122_0 (by omega), zqCo_i tb_ hX155_0 hX155_1 (by omega), by omega, Or.inl ⟨(hX110_0 (by omega) (by omega) (by omega) (by omega) (by omega)), by first | omega | decide⟩⟩⟩⟩⟩⟩ | exact Or.inr ⟨(hX14_1 (by omega) (by omega) (by omega) (by omega) (by omega)), Or.inr ⟨(hX38_1 (by omega) (by omega) (by omega) (by omega) (by omega)), Or.inr ⟨(hX62_1 (by omega) (by omega) (by omega) (by omega) (by omega)), Or.inr ⟨(hX86_1 (by omega) (by omega) (by omega) (by omega) (by omega)), Or.inl ⟨_, hX122_0 (by omega), zqCo_i tb_ hX155_0 hX155_1 (by omega), by omega, Or.inr ⟨(hX110_1 (by omega) (by omega) (by omega) (by omega) (by omega)), (hX144_0 (by omega) (by omega) (by omega) (by omega) (by omega)), by first | omega | decide⟩⟩⟩⟩⟩⟩ | exact Or.inr ⟨(hX14_1 (by omega) (by omega) (by omega) (by omega) (by omega)), Or.inr ⟨(hX38_1 (by omega) (by omega) (by omega) (by omega) (by omega)), Or.inr ⟨(hX62_1 (by omega) (by omega) (by omega) (by omega) (by omega)), Or.inr ⟨(hX86_1 (by omega) (by omega) (by omega) (by omega) (by omega)), Or.inr ⟨fun y_ => (zFc_n (hX122_0 (by omega)) (zqCo_n tb_ hX155_0 (by omega) (by omega)) (by omega)) y_.2, by first | omega | decide, by omega⟩⟩⟩⟩⟩ | exact Or.inr ⟨(hX14_1 (by omega) (by omega) (by omega) (by omega) (by omega)), Or.inr ⟨(hX38_1 (by omega) (by omega) (by omega) (by omega) (by omega)), Or.inr ⟨(hX62_1 (by omega) (by omega) (by omega) (by omega) (by omega)), Or.inr ⟨(hX86_1 (by omega) (by omega) (by omega) (by omega) (by omega)), Or.inr ⟨fun y_ => y_.1.elim (hX110_1 (by omega) (by omega) (by omega) (by omega) (by omega)) (hX144_1 (by omega) (by omega) (by omega) (by omega) (by omega)), by first | omega | decide, by omega⟩⟩⟩⟩⟩)⟩
              have hP9 : va_P (dC, dI) vwCl [(h0, .inr (4, mX4 h1 h4 h11 h18 (upd v0 6 (v0 6)))), (h1, .inr (9, mX9 h2 h3 v1)), (h2, zi k2 600 f2)] H := hP
              have hD9 : va_D A [(h0, .inr (4, mX4 h1 h4 h11 h18 (upd v0 6 (v0 6)))), (h1, .inr (9, mX9 h2 h3 v1)), (h2, zi k2 600 f2)] := hD
              exact W.iret (v := 257) hx hb hr (fun t ht hW => ⟨⟨257, (fun i => ([(v0 6)] : List (Int32)).getD i 0), rfl, hpost, (fun _ => 0), (fun _ => (fun _ => 0)), (fun _ => (fun _ => 0)), by rw [ht]; exact hP9, va_K.moved hW.alike hK, hD9⟩, hS.F ht⟩) hS.2.2 dX4_sortOfRun_187
            · skip
              have b_ := zF_ne rfl zk_58 c_
              have b_ := hX155_1 (by omega)
              have b_ : 0 ≤ r122_.toInt ∧ r122_.toInt ≤ 599 := ⟨by omega, by omega⟩
              refine lv_aload_n hx hb dX4_sortOfRun_163 rfl (lv_at hl 2 rfl) ?_
              refine lv_iload_n hx hb dX4_sortOfRun_164 rfl (lv_at hl 0 rfl) ?_
              refine lv_iconst (v := 1) hx hb dX4_sortOfRun_165 (by decide) ?_
              refine lv_iadd hx hb dX4_sortOfRun_166 ?_
              refine lv_topi (fun z166 e_z166 => ?_)
              have b_ := zadd rfl zk_1 e_z166 (by omega) (by omega)
              refine va_put (D := (dC, dI)) (ci := 4) (v := .int z166) (ty := .int) (C := RX4) (T := TX4) (N := 12) hx hb hG zuX4 tyX4 tyX4_ok nmX4 hown hK hP hD hS 0 rfl rfl 6 (by decide) (hG _ zv414) (fun _ h9 => h9) rfl (by decide +kernel) rfl rfl (Nat.le_of_ble_eq_true rfl) dX4_sortOfRun_167 (fun H locs hP hD hS => ?_)
              have hP : va_P (dC, dI) vwCl [(h0, .inr (4, mX4 h1 h4 h11 h18 (upd v0 6 z166))), (h1, .inr (9, mX9 h2 h3 v1)), (h2, zi k2 600 f2)] H := hP
              have hD : va_D A [(h0, .inr (4, mX4 h1 h4 h11 h18 (upd v0 6 z166))), (h1, .inr (9, mX9 h2 h3 v1)), (h2, zi k2 600 f2)] := hD
              refine lv_iload_n hx hb dX4_sortOfRun_170 rfl (lv_at hl 1 rfl) ?_
              refine lv_if_eq (tgt := 180) hx hb dX4_sortOfRun_171 (by decide) (fun c_ => False.elim (by have b_ := zT_eq rfl zk_0 c_; omega)) (fun c_ => ?_)
              have b_ := zF_eq rfl zk_0 c_
              refine lv_sipush (v := 262) hx hb dX4_sortOfRun_174 (by decide) ?_
              refine lv_goto (tgt := 183) hx hb dX4_sortOfRun_177 (by decide) ?_
              refine W.widen (k := 0) (n := 0) (by decide) (by decide) ?_
              have hpost : (257 ≤ (262 : Int32).toInt ∧ (262 : Int32).toInt ≤ 263) ∧ (zqTy f2 (v1 2).toInt → (v0 5).toInt < (v1 2).toInt → zqRe f2 (v1 2).toInt (v0 5).toInt (v0 6).toInt → zKw f2 (v1 2).toInt (v0 5).toInt (v0 6).toInt (262 : Int32).toInt z166.toInt) := ⟨(by first | with_reducible assumption | exact ⟨by omega, by omega⟩), by (intro tb_ p_ q_; have q4_ := q_.2.2.2; first | exact Or.inl ⟨(hX14_0 (by omega) (by omega) (by omega) (by omega) (by omega)), by first | omega | decide, by omega⟩ | exact Or.inr ⟨(hX14_1 (by omega) (by omega) (by omega) (by omega) (by omega)), Or.inl ⟨(hX38_0 (by omega) (by omega) (by omega) (by omega) (by omega)), by first | omega | decide, by omega⟩⟩ | exact Or.inr ⟨(hX14_1 (by omega) (by omega) (by omega) (by omega) (by omega)), Or.inr ⟨(hX38_1 (by omega) (by omega) (by omega) (by omega) (by omega)), Or.inl ⟨(hX62_0 (by omega) (by omega) (by omega) (by omega) (by omega)), by first | omega | decide, by omega⟩⟩⟩ | exact Or.inr ⟨(hX14_1 (by omega) (by omega) (by omega) (by omega) (by omega)), Or.inr ⟨(hX38_1 (by omega) (by omega) (by omega) (by omega) (by omega)), Or.inr ⟨(hX62_1 (by omega) (by omega) (by omega) (by omega) (by omega)), Or.inl ⟨(hX86_0 (by omega) (by omega) (by omega) (by omega) (by omega)), by first | omega | decide, by omega⟩⟩⟩⟩ | exact Or.inr ⟨(hX14_1 (by omega) (by omega) (by omega) (by omega) (by omega)), Or.inr ⟨(hX38_1 (by omega) (by omega) (by omega) (by omega) (by omega)), Or.inr ⟨(hX62_1 (by omega) (by omega) (by omega) (by omega) (by omega)), Or.inr ⟨(hX86_1 (by omega) (by omega) (by omega) (by omega) (by omega)), Or.inl ⟨_, hX122_0 (by omega), zqCo_i tb_ hX155_0 hX155_1 (by omega), by omega, Or.inl ⟨(hX110_0 (by omega) (by omega) (by omega) (by omega) (by omega)), by first | omega | decide⟩⟩⟩⟩⟩⟩ | exact Or.inr ⟨(hX14_1 (by omega) (by omega) (by omega) (by omega) (by omega)), Or.inr ⟨(hX38_1 (by omega) (by omega) (by omega) (by omega) (by omega)), Or.inr ⟨(hX62_1 (by omega) (by omega) (by omega) (by omega) (by omega)), Or.inr ⟨(hX86_1 (by omega) (by omega) (by omega) (by omega) (by omega)), Or.inl ⟨_, hX122_0 (by omega), zqCo_i tb_ hX155_0 hX155_1 (by omega), by omega, Or.inr ⟨(hX110_1 (by omega) (by omega) (by omega) (by omega) (by omega)), (hX144_0 (by omega) (by omega) (by omega) (by omega) (by omega)), by first | omega | decide⟩⟩⟩⟩⟩⟩ | exact Or.inr ⟨(hX14_1 (by omega) (by omega) (by omega) (by omega) (by omega)), Or.inr ⟨(hX38_1 (by omega) (by omega) (by omega) (by omega) (by omega)), Or.inr ⟨(hX62_1 (by omega) (by omega) (by omega) (by omega) (by omega)), Or.inr ⟨(hX86_1 (by omega) (by omega) (by omega) (by omega) (by omega)), Or.inr ⟨fun y_ => (zFc_n (hX122_0 (by omega)) (zqCo_n tb_ hX155_0 (by omega) (by omega)) (by omega)) y_.2, by first | omega | decide, by omega⟩⟩⟩⟩⟩ | exact Or.inr ⟨(hX14_1 (by omega) (by omega) (by omega) (by omega) (by omega)), Or.inr ⟨(hX38_1 (by omega) (by omega) (by omega) (by omega) (by omega)), Or.inr ⟨(hX62_1 (by omega) (by omega) (by omega) (by omega) (by omega)), Or.inr ⟨(hX86_1 (by omega) (by omega) (by omega) (by omega) (by omega)), Or.inr ⟨fun y_ => y_.1.elim (hX110_1 (by omega) (by omega) (by omega) (by omega) (by omega)) (hX144_1 (by omega) (by omega) (by omega) (by omega) (by omega)), by first | omega | decide, by omega⟩⟩⟩⟩⟩)⟩
              have hP9 : va_P (dC, dI) vwCl [(h0, .inr (4, mX4 h1 h4 h11 h18 (upd v0 6 z166))), (h1, .inr (9, mX9 h2 h3 v1)), (h2, zi k2 600 f2)] H := hP
              have hD9 : va_D A [(h0, .inr (4, mX4 h1 h4 h11 h18 (upd v0 6 z166))), (h1, .inr (9, mX9 h2 h3 v1)), (h2, zi k2 600 f2)] := hD
              exact W.iret (v := 262) hx hb hr (fun t ht hW => ⟨⟨262, (fun i => ([z166] : List (Int32)).getD i 0), rfl, hpost, (fun _ => 0), (fun _ => (fun _ => 0)), (fun _ => (fun _ => 0)), by rw [ht]; exact hP9, va_K.moved hW.alike hK, hD9⟩, hS.F ht⟩) hS.2.2 dX4_sortOfRun_183
          · skip
            have b_ := zF_ne rfl zk_0 c_
            refine lv_aload_n hx hb dX4_sortOfRun_130 rfl (lv_at hl 2 rfl) ?_
            refine va_get (D := (dC, dI)) (ci := 4) (v := .ref h1) (C := RX4) (T := TX4) (N := 12) hx hb hG zuX4 hown hK hP 0 rfl rfl 0 (by decide) (hG _ zv408) (fun _ h9 => h9) rfl dX4_sortOfRun_131 ?_
            refine lv_aload_n hx hb dX4_sortOfRun_134 rfl (lv_at hl 2 rfl) ?_
            refine va_get (D := (dC, dI)) (ci := 4) (v := .int (v0 5)) (C := RX4) (T := TX4) (N := 12) hx hb hG zuX4 hown hK hP 0 rfl rfl 5 (by decide) (hG _ zv413) (fun _ h9 => h9) rfl dX4_sortOfRun_135 ?_
            refine lv_aload_n hx hb dX4_sortOfRun_138 rfl (lv_at hl 2 rfl) ?_
            refine va_get (D := (dC, dI)) (ci := 4) (v := .int (v0 6)) (C := RX4) (T := TX4) (N := 12) hx hb hG zuX4 hown hK hP 0 rfl rfl 6 (by decide) (hG _ zv414) (fun _ h9 => h9) rfl dX4_sortOfRun_139 ?_
            refine va_ldcS hx hb hown (zE_K12 hE) dX4_sortOfRun_142 ?_
            have hPc := hP.sub (ws' := [(h1, .inr (9, mX9 h2 h3 v1)), (h2, zi k2 600 f2)]) [1, 2] rfl
            have hDc := hD.sub (ws' := [(h1, .inr (9, mX9 h2 h3 v1)), (h2, zi k2 600 f2)]) [1, 2] (by decide) rfl
            have hKc := hK.sub (tys' := [(k2, .byte)]) [0] rfl
            have hFc := va_free (wc := [(h1, .inr (9, mX9 h2 h3 v1)), (h2, zi k2 600 f2)]) hD hS hA [1, 2] rfl
            refine va_calli (va_runV (As := [.int (v0 5), .int (v0 6), .ref (adK 12)]) (rest := []) ⟨hx, hb, hml, hown, hG⟩ (sX9_spells_5 l dC dI adK adV h1 h2 h3 k2 H.size v1 f2 (v0 5) (v0 6) hv1 (show (0 : Int) ≤ ((v0 5) : Int32).toInt ∧ ((v0 5) : Int32).toInt ≤ (600 : Int) from (by first | with_reducible assumption | exact ⟨by omega, by omega⟩)) (show (0 : Int) ≤ ((v0 6) : Int32).toInt ∧ ((v0 6) : Int32).toInt ≤ (601 : Int) from (by first | with_reducible assumption | exact ⟨by omega, by omega⟩))) (cwV 3 hG (zgV zv1043 zv1044 zv1045 zv130 zv1046) rfl rfl rfl (by decide +kernel) ⟨Nat.le_of_ble_eq_true rfl, Nat.le_of_ble_eq_true rfl⟩) ⟨zPc_blind, va_recv hKc hPc (ci := 9) (q0 := 0) rfl rfl, zPc_pre hPc hKc hDc hE hS hFc hZ⟩ rfl rfl hl.1 rfl (lv_room (Nat.le_of_ble_eq_true rfl)) dX4_sortOfRun_144 ⟨Nat.le_of_ble_eq_true rfl, Nat.le_of_ble_eq_true rfl⟩) hS (fun q _ h => hFc q h) hFc (fun r144_ u144_ t H1 locs ht hvm hw hB hz1 hk1 hS => ?_)
            replace hw : (0 ≤ r144_.toInt ∧ r144_.toInt ≤ 1) ∧ (0 ≤ (v0 5).toInt → (v0 5).toInt ≤ 600 → 0 ≤ (v0 6).toInt → (v0 6).toInt ≤ (v1 2).toInt → r144_.toInt = 1 → zSpl f2 (v0 5).toInt (v0 6).toInt 12 4) ∧ (0 ≤ (v0 5).toInt → (v0 5).toInt ≤ 600 → 0 ≤ (v0 6).toInt → (v0 6).toInt ≤ (v1 2).toInt → r144_.toInt = 0 → ¬ zSpl f2 (v0 5).toInt (v0 6).toInt 12 4) := hw
            obtain ⟨b_, hX144_0, hX144_1⟩ := hw
            obtain ⟨w144_, a144_, b144_, hP1, hK1, hD1⟩ := hB
            rw [ht] at hP1
            obtain ⟨hP, hD⟩ := va_join (wr := [(h0, .inr (4, mX4 h1 h4 h11 h18 v0))]) (w1 := [(h1, .inr (9, mX9 h2 h3 v1)), (h2, zi k2 600 f2)]) hP hD [1, 2] [0] rfl rfl (by decide) (by decide) hk1 hFc hP1 hD1
            have hP : va_P (dC, dI) vwCl [(h0, .inr (4, mX4 h1 h4 h11 h18 v0)), (h1, .inr (9, mX9 h2 h3 v1)), (h2, zi k2 600 f2)] H1 := hP.sub [0, 1, 2] rfl
            have hD : va_D A [(h0, .inr (4, mX4 h1 h4 h11 h18 v0)), (h1, .inr (9, mX9 h2 h3 v1)), (h2, zi k2 600 f2)] := hD.sub [0, 1, 2] (by decide) rfl
            generalize H1 = H at hP hS ⊢
            clear hz1
            refine lv_if_eq (tgt := 184) hx hb dX4_sortOfRun_147 (by decide) (fun c_ => ?_) (fun c_ => ?_)
            · skip
              have b_ := zT_eq rfl zk_0 c_
              refine lv_sipush (v := 257) hx hb dX4_sortOfRun_184 (by decide) ?_
              refine W.widen (k := 0) (n := 0) (by decide) (by decide) ?_
              have hpost : (257 ≤ (257 : Int32).toInt ∧ (257 : Int32).toInt ≤ 263) ∧ (zqTy f2 (v1 2).toInt → (v0 5).toInt < (v1 2).toInt → zqRe f2 (v1 2).toInt (v0 5).toInt (v0 6).toInt → zKw f2 (v1 2).toInt (v0 5).toInt (v0 6).toInt (257 : Int32).toInt (v0 6).toInt) := ⟨(by first | with_reducible assumption | exact ⟨by omega, by omega⟩), by (intro tb_ p_ q_; have q4_ := q_.2.2.2; first | exact Or.inl ⟨(hX14_0 (by omega) (by omega) (by omega) (by omega) (by omega)), by first | omega | decide, by omega⟩ | exact Or.inr ⟨(hX14_1 (by omega) (by omega) (by omega) (by omega) (by omega)), Or.inl ⟨(hX38_0 (by omega) (by omega) (by omega) (by omega) (by omega)), by first | omega | decide, by omega⟩⟩ | exact Or.inr ⟨(hX14_1 (by omega) (by omega) (by omega) (by omega) (by omega)), Or.inr ⟨(hX38_1 (by omega) (by omega) (by omega) (by omega) (by omega)), Or.inl ⟨(hX62_0 (by omega) (by omega) (by omega) (by omega) (by omega)), by first | omega | decide, by omega⟩⟩⟩ | exact Or.inr ⟨(hX14_1 (by omega) (by omega) (by omega) (by omega) (by omega)), Or.inr ⟨(hX38_1 (by omega) (by omega) (by omega) (by omega) (by omega)), Or.inr ⟨(hX62_1 (by omega) (by omega) (by omega) (by omega) (by omega)), Or.inl ⟨(hX86_0 (by omega) (by omega) (by omega) (by omega) (by omega)), by first | omega | decide, by omega⟩⟩⟩⟩ | exact Or.inr ⟨(hX14_1 (by omega) (by omega) (by omega) (by omega) (by omega)), Or.inr ⟨(hX38_1 (by omega) (by omega) (by omega) (by omega) (by omega)), Or.inr ⟨(hX62_1 (by omega) (by omega) (by omega) (by omega) (by omega)), Or.inr ⟨(hX86_1 (by omega) (by omega) (by omega) (by omega) (by omega)), Or.inl ⟨_, hX122_0 (by omega), zqCo_i tb_ hX155_0 hX155_1 (by omega), by omega, Or.inl ⟨(hX110_0 (by omega) (by omega) (by omega) (by omega) (by omega)), by first | omega | decide⟩⟩⟩⟩⟩⟩ | exact Or.inr ⟨(hX14_1 (by omega) (by omega) (by omega) (by omega) (by omega)), Or.inr ⟨(hX38_1 (by omega) (by omega) (by omega) (by omega) (by omega)), Or.inr ⟨(hX62_1 (by omega) (by omega) (by omega) (by omega) (by omega)), Or.inr ⟨(hX86_1 (by omega) (by omega) (by omega) (by omega) (by omega)), Or.inl ⟨_, hX122_0 (by omega), zqCo_i tb_ hX155_0 hX155_1 (by omega), by omega, Or.inr ⟨(hX110_1 (by omega) (by omega) (by omega) (by omega) (by omega)), (hX144_0 (by omega) (by omega) (by omega) (by omega) (by omega)), by first | omega | decide⟩⟩⟩⟩⟩⟩ | exact Or.inr ⟨(hX14_1 (by omega) (by omega) (by omega) (by omega) (by omega)), Or.inr ⟨(hX38_1 (by omega) (by omega) (by omega) (by omega) (by omega)), Or.inr ⟨(hX62_1 (by omega) (by omega) (by omega) (by omega) (by omega)), Or.inr ⟨(hX86_1 (by omega) (by omega) (by omega) (by omega) (by omega)), Or.inr ⟨fun y_ => (zFc_n (hX122_0 (by omega)) (zqCo_n tb_ hX155_0 (by omega) (by omega)) (by omega)) y_.2, by first | omega | decide, by omega⟩⟩⟩⟩⟩ | exact Or.inr ⟨(hX14_1 (by omega) (by omega) (by omega) (by omega) (by omega)), Or.inr ⟨(hX38_1 (by omega) (by omega) (by omega) (by omega) (by omega)), Or.inr ⟨(hX62_1 (by omega) (by omega) (by omega) (by omega) (by omega)), Or.inr ⟨(hX86_1 (by omega) (by omega) (by omega) (by omega) (by omega)), Or.inr ⟨fun y_ => y_.1.elim (hX110_1 (by omega) (by omega) (by omega) (by omega) (by omega)) (hX144_1 (by omega) (by omega) (by omega) (by omega) (by omega)), by first | omega | decide, by omega⟩⟩⟩⟩⟩)⟩
              have hP9 : va_P (dC, dI) vwCl [(h0, .inr (4, mX4 h1 h4 h11 h18 (upd v0 6 (v0 6)))), (h1, .inr (9, mX9 h2 h3 v1)), (h2, zi k2 600 f2)] H := hP
              have hD9 : va_D A [(h0, .inr (4, mX4 h1 h4 h11 h18 (upd v0 6 (v0 6)))), (h1, .inr (9, mX9 h2 h3 v1)), (h2, zi k2 600 f2)] := hD
              exact W.iret (v := 257) hx hb hr (fun t ht hW => ⟨⟨257, (fun i => ([(v0 6)] : List (Int32)).getD i 0), rfl, hpost, (fun _ => 0), (fun _ => (fun _ => 0)), (fun _ => (fun _ => 0)), by rw [ht]; exact hP9, va_K.moved hW.alike hK, hD9⟩, hS.F ht⟩) hS.2.2 dX4_sortOfRun_187
            · skip
              have b_ := zF_eq rfl zk_0 c_
              refine lv_aload_n hx hb dX4_sortOfRun_150 rfl (lv_at hl 2 rfl) ?_
              refine va_get (D := (dC, dI)) (ci := 4) (v := .ref h1) (C := RX4) (T := TX4) (N := 12) hx hb hG zuX4 hown hK hP 0 rfl rfl 0 (by decide) (hG _ zv408) (fun _ h9 => h9) rfl dX4_sortOfRun_151 ?_
              refine lv_iload_n hx hb dX4_sortOfRun_154 rfl (lv_at hl 0 rfl) ?_
              have hPc := hP.sub (ws' := [(h1, .inr (9, mX9 h2 h3 v1)), (h2, zi k2 600 f2)]) [1, 2] rfl
              have hDc := hD.sub (ws' := [(h1, .inr (9, mX9 h2 h3 v1)), (h2, zi k2 600 f2)]) [1, 2] (by decide) rfl
              have hKc := hK.sub (tys' := [(k2, .byte)]) [0] rfl
              have hFc := va_free (wc := [(h1, .inr (9, mX9 h2 h3 v1)), (h2, zi k2 600 f2)]) hD hS hA [1, 2] rfl
              refine va_calli (va_runV (As := [.int r122_]) (rest := []) ⟨hx, hb, hml, hown, hG⟩ (sX9_at_0 l dC dI adK adV h1 h2 h3 k2 H.size v1 f2 r122_ hv1) (cwV 1 hG (zgV zv1032 zv641 zv642 zv130 zv643) rfl rfl rfl (by decide +kernel) ⟨Nat.le_of_ble_eq_true rfl, Nat.le_of_ble_eq_true rfl⟩) ⟨zPc_blind, va_recv hKc hPc (ci := 9) (q0 := 0) rfl rfl, zPc_pre hPc hKc hDc hE hS hFc hZ⟩ rfl rfl hl.1 rfl (lv_room (Nat.le_of_ble_eq_true rfl)) dX4_sortOfRun_155 ⟨Nat.le_of_ble_eq_true rfl, Nat.le_of_ble_eq_true rfl⟩) hS (fun q _ h => hFc q h) hFc (fun r155_ u155_ t H1 locs ht hvm hw hB hz1 hk1 hS => ?_)
              replace hw : ((-1) ≤ r155_.toInt ∧ r155_.toInt ≤ 255) ∧ (0 ≤ r122_.toInt ∧ r122_.toInt < (v1 2).toInt → r155_.toInt = (f2 ((r122_ : Int32)).toNatClampNeg &&& 255).toInt) ∧ (r155_.toInt ≠ -1 → 0 ≤ r122_.toInt ∧ r122_.toInt < (v1 2).toInt ∧ r122_.toInt < 600) := hw
              obtain ⟨b_, hX155_0, hX155_1⟩ := hw
              obtain ⟨w155_, a155_, b155_, hP1, hK1, hD1⟩ := hB
              rw [ht] at hP1
              obtain ⟨hP, hD⟩ := va_join (wr := [(h0, .inr (4, mX4 h1 h4 h11 h18 v0))]) (w1 := [(h1, .inr (9, mX9 h2 h3 v1)), (h2, zi k2 600 f2)]) hP hD [1, 2] [0] rfl rfl (by decide) (by decide) hk1 hFc hP1 hD1
              have hP : va_P (dC, dI) vwCl [(h0, .inr (4, mX4 h1 h4 h11 h18 v0)), (h1, .inr (9, mX9 h2 h3 v1)), (h2, zi k2 600 f2)] H1 := hP.sub [0, 1, 2] rfl
              have hD : va_D A [(h0, .inr (4, mX4 h1 h4 h11 h18 v0)), (h1, .inr (9, mX9 h2 h3 v1)), (h2, zi k2 600 f2)] := hD.sub [0, 1, 2] (by decide) rfl
              generalize H1 = H at hP hS ⊢
              clear hz1
              refine lv_bipush (v := 58) hx hb dX4_sortOfRun_158 (by decide) ?_
              refine lv_icmp_ne (tgt := 184) hx hb dX4_sortOfRun_160 (by decide) (fun c_ => ?_) (fun c_ => ?_)
              · skip
                have b_ := zT_ne rfl zk_58 c_
                refine lv_sipush (v := 257) hx hb dX4_sortOfRun_184 (by decide) ?_
                refine W.widen (k := 0) (n := 0) (by decide) (by decide) ?_
                have hpost : (257 ≤ (257 : Int32).toInt ∧ (257 : Int32).toInt ≤ 263) ∧ (zqTy f2 (v1 2).toInt → (v0 5).toInt < (v1 2).toInt → zqRe f2 (v1 2).toInt (v0 5).toInt (v0 6).toInt → zKw f2 (v1 2).toInt (v0 5).toInt (v0 6).toInt (257 : Int32).toInt (v0 6).toInt) := ⟨(by first | with_reducible assumption | exact ⟨by omega, by omega⟩), by (intro tb_ p_ q_; have q4_ := q_.2.2.2; first | exact Or.inl ⟨(hX14_0 (by omega) (by omega) (by omega) (by omega) (by omega)), by first | omega | decide, by omega⟩ | exact Or.inr ⟨(hX14_1 (by omega) (by omega) (by omega) (by omega) (by omega)), Or.inl ⟨(hX38_0 (by omega) (by omega) (by omega) (by omega) (by omega)), by first | omega | decide, by omega⟩⟩ | exact Or.inr ⟨(hX14_1 (by omega) (by omega) (by omega) (by omega) (by omega)), Or.inr ⟨(hX38_1 (by omega) (by omega) (by omega) (by omega) (by omega)), Or.inl ⟨(hX62_0 (by omega) (by omega) (by omega) (by omega) (by omega)), by first | omega | decide, by omega⟩⟩⟩ | exact Or.inr ⟨(hX14_1 (by omega) (by omega) (by omega) (by omega) (by omega)), Or.inr ⟨(hX38_1 (by omega) (by omega) (by omega) (by omega) (by omega)), Or.inr ⟨(hX62_1 (by omega) (by omega) (by omega) (by omega) (by omega)), Or.inl ⟨(hX86_0 (by omega) (by omega) (by omega) (by omega) (by omega)), by first | omega | decide, by omega⟩⟩⟩⟩ | exact Or.inr ⟨(hX14_1 (by omega) (by omega) (by omega) (by omega) (by omega)), Or.inr ⟨(hX38_1 (by omega) (by omega) (by omega) (by omega) (by omega)), Or.inr ⟨(hX62_1 (by omega) (by omega) (by omega) (by omega) (by omega)), Or.inr ⟨(hX86_1 (by omega) (by omega) (by omega) (by omega) (by omega)), Or.inl ⟨_, hX122_0 (by omega), zqCo_i tb_ hX155_0 hX155_1 (by omega), by omega, Or.inl ⟨(hX110_0 (by omega) (by omega) (by omega) (by omega) (by omega)), by first | omega | decide⟩⟩⟩⟩⟩⟩ | exact Or.inr ⟨(hX14_1 (by omega) (by omega) (by omega) (by omega) (by omega)), Or.inr ⟨(hX38_1 (by omega) (by omega) (by omega) (by omega) (by omega)), Or.inr ⟨(hX62_1 (by omega) (by omega) (by omega) (by omega) (by omega)), Or.inr ⟨(hX86_1 (by omega) (by omega) (by omega) (by omega) (by omega)), Or.inl ⟨_, hX122_0 (by omega), zqCo_i tb_ hX155_0 hX155_1 (by omega), by omega, Or.inr ⟨(hX110_1 (by omega) (by omega) (by omega) (by omega) (by omega)), (hX144_0 (by omega) (by omega) (by omega) (by omega) (by omega)), by first | omega | decide⟩⟩⟩⟩⟩⟩ | exact Or.inr ⟨(hX14_1 (by omega) (by omega) (by omega) (by omega) (by omega)), Or.inr ⟨(hX38_1 (by omega) (by omega) (by omega) (by omega) (by omega)), Or.inr ⟨(hX62_1 (by omega) (by omega) (by omega) (by omega) (by omega)), Or.inr ⟨(hX86_1 (by omega) (by omega) (by omega) (by omega) (by omega)), Or.inr ⟨fun y_ => (zFc_n (hX122_0 (by omega)) (zqCo_n tb_ hX155_0 (by omega) (by omega)) (by omega)) y_.2, by first | omega | decide, by omega⟩⟩⟩⟩⟩ | exact Or.inr ⟨(hX14_1 (by omega) (by omega) (by omega) (by omega) (by omega)), Or.inr ⟨(hX38_1 (by omega) (by omega) (by omega) (by omega) (by omega)), Or.inr ⟨(hX62_1 (by omega) (by omega) (by omega) (by omega) (by omega)), Or.inr ⟨(hX86_1 (by omega) (by omega) (by omega) (by omega) (by omega)), Or.inr ⟨fun y_ => y_.1.elim (hX110_1 (by omega) (by omega) (by omega) (by omega) (by omega)) (hX144_1 (by omega) (by omega) (by omega) (by omega) (by omega)), by first | omega | decide, by omega⟩⟩⟩⟩⟩)⟩
                have hP9 : va_P (dC, dI) vwCl [(h0, .inr (4, mX4 h1 h4 h11 h18 (upd v0 6 (v0 6)))), (h1, .inr (9, mX9 h2 h3 v1)), (h2, zi k2 600 f2)] H := hP
                have hD9 : va_D A [(h0, .inr (4, mX4 h1 h4 h11 h18 (upd v0 6 (v0 6)))), (h1, .inr (9, mX9 h2 h3 v1)), (h2, zi k2 600 f2)] := hD
                exact W.iret (v := 257) hx hb hr (fun t ht hW => ⟨⟨257, (fun i => ([(v0 6)] : List (Int32)).getD i 0), rfl, hpost, (fun _ => 0), (fun _ => (fun _ => 0)), (fun _ => (fun _ => 0)), by rw [ht]; exact hP9, va_K.moved hW.alike hK, hD9⟩, hS.F ht⟩) hS.2.2 dX4_sortOfRun_187
              · skip
                have b_ := zF_ne rfl zk_58 c_
                have b_ := hX155_1 (by omega)
                have b_ : 0 ≤ r122_.toInt ∧ r122_.toInt ≤ 599 := ⟨by omega, by omega⟩
                refine lv_aload_n hx hb dX4_sortOfRun_163 rfl (lv_at hl 2 rfl) ?_
                refine lv_iload_n hx hb dX4_sortOfRun_164 rfl (lv_at hl 0 rfl) ?_
                refine lv_iconst (v := 1) hx hb dX4_sortOfRun_165 (by decide) ?_
                refine lv_iadd hx hb dX4_sortOfRun_166 ?_
                refine lv_topi (fun z166 e_z166 => ?_)
                have b_ := zadd rfl zk_1 e_z166 (by omega) (by omega)
                refine va_put (D := (dC, dI)) (ci := 4) (v := .int z166) (ty := .int) (C := RX4) (T := TX4) (N := 12) hx hb hG zuX4 tyX4 tyX4_ok nmX4 hown hK hP hD hS 0 rfl rfl 6 (by decide) (hG _ zv414) (fun _ h9 => h9) rfl (by decide +kernel) rfl rfl (Nat.le_of_ble_eq_true rfl) dX4_sortOfRun_167 (fun H locs hP hD hS => ?_)
                have hP : va_P (dC, dI) vwCl [(h0, .inr (4, mX4 h1 h4 h11 h18 (upd v0 6 z166))), (h1, .inr (9, mX9 h2 h3 v1)), (h2, zi k2 600 f2)] H := hP
                have hD : va_D A [(h0, .inr (4, mX4 h1 h4 h11 h18 (upd v0 6 z166))), (h1, .inr (9, mX9 h2 h3 v1)), (h2, zi k2 600 f2)] := hD
                refine lv_iload_n hx hb dX4_sortOfRun_170 rfl (lv_at hl 1 rfl) ?_
                refine lv_if_eq (tgt := 180) hx hb dX4_sortOfRun_171 (by decide) (fun c_ => ?_) (fun c_ => False.elim (by have b_ := zF_eq rfl zk_0 c_; omega))
                have b_ := zT_eq rfl zk_0 c_
                refine lv_sipush (v := 263) hx hb dX4_sortOfRun_180 (by decide) ?_
                refine W.widen (k := 0) (n := 0) (by decide) (by decide) ?_
                have hpost : (257 ≤ (263 : Int32).toInt ∧ (263 : Int32).toInt ≤ 263) ∧ (zqTy f2 (v1 2).toInt → (v0 5).toInt < (v1 2).toInt → zqRe f2 (v1 2).toInt (v0 5).toInt (v0 6).toInt → zKw f2 (v1 2).toInt (v0 5).toInt (v0 6).toInt (263 : Int32).toInt z166.toInt) := ⟨(by first | with_reducible assumption | exact ⟨by omega, by omega⟩), by (intro tb_ p_ q_; have q4_ := q_.2.2.2; first | exact Or.inl ⟨(hX14_0 (by omega) (by omega) (by omega) (by omega) (by omega)), by first | omega | decide, by omega⟩ | exact Or.inr ⟨(hX14_1 (by omega) (by omega) (by omega) (by omega) (by omega)), Or.inl ⟨(hX38_0 (by omega) (by omega) (by omega) (by omega) (by omega)), by first | omega | decide, by omega⟩⟩ | exact Or.inr ⟨(hX14_1 (by omega) (by omega) (by omega) (by omega) (by omega)), Or.inr ⟨(hX38_1 (by omega) (by omega) (by omega) (by omega) (by omega)), Or.inl ⟨(hX62_0 (by omega) (by omega) (by omega) (by omega) (by omega)), by first | omega | decide, by omega⟩⟩⟩ | exact Or.inr ⟨(hX14_1 (by omega) (by omega) (by omega) (by omega) (by omega)), Or.inr ⟨(hX38_1 (by omega) (by omega) (by omega) (by omega) (by omega)), Or.inr ⟨(hX62_1 (by omega) (by omega) (by omega) (by omega) (by omega)), Or.inl ⟨(hX86_0 (by omega) (by omega) (by omega) (by omega) (by omega)), by first | omega | decide, by omega⟩⟩⟩⟩ | exact Or.inr ⟨(hX14_1 (by omega) (by omega) (by omega) (by omega) (by omega)), Or.inr ⟨(hX38_1 (by omega) (by omega) (by omega) (by omega) (by omega)), Or.inr ⟨(hX62_1 (by omega) (by omega) (by omega) (by omega) (by omega)), Or.inr ⟨(hX86_1 (by omega) (by omega) (by omega) (by omega) (by omega)), Or.inl ⟨_, hX122_0 (by omega), zqCo_i tb_ hX155_0 hX155_1 (by omega), by omega, Or.inl ⟨(hX110_0 (by omega) (by omega) (by omega) (by omega) (by omega)), by first | omega | decide⟩⟩⟩⟩⟩⟩ | exact Or.inr ⟨(hX14_1 (by omega) (by omega) (by omega) (by omega) (by omega)), Or.inr ⟨(hX38_1 (by omega) (by omega) (by omega) (by omega) (by omega)), Or.inr ⟨(hX62_1 (by omega) (by omega) (by omega) (by omega) (by omega)), Or.inr ⟨(hX86_1 (by omega) (by omega) (by omega) (by omega) (by omega)), Or.inl ⟨_, hX122_0 (by omega), zqCo_i tb_ hX155_0 hX155_1 (by omega), by omega, Or.inr ⟨(hX110_1 (by omega) (by omega) (by omega) (by omega) (by omega)), (hX144_0 (by omega) (by omega) (by omega) (by omega) (by omega)), by first | omega | decide⟩⟩⟩⟩⟩⟩ | exact Or.inr ⟨(hX14_1 (by omega) (by omega) (by omega) (by omega) (by omega)), Or.inr ⟨(hX38_1 (by omega) (by omega) (by omega) (by omega) (by omega)), Or.inr ⟨(hX62_1 (by omega) (by omega) (by omega) (by omega) (by omega)), Or.inr ⟨(hX86_1 (by omega) (by omega) (by omega) (by omega) (by omega)), Or.inr ⟨fun y_ => (zFc_n (hX122_0 (by omega)) (zqCo_n tb_ hX155_0 (by omega) (by omega)) (by omega)) y_.2, by first | omega | decide, by omega⟩⟩⟩⟩⟩ | exact Or.inr ⟨(hX14_1 (by omega) (by omega) (by omega) (by omega) (by omega)), Or.inr ⟨(hX38_1 (by omega) (by omega) (by omega) (by omega) (by omega)), Or.inr ⟨(hX62_1 (by omega) (by omega) (by omega) (by omega) (by omega)), Or.inr ⟨(hX86_1 (by omega) (by omega) (by omega) (by omega) (by omega)), Or.inr ⟨fun y_ => y_.1.elim (hX110_1 (by omega) (by omega) (by omega) (by omega) (by omega)) (hX144_1 (by omega) (by omega) (by omega) (by omega) (by omega)), by first | omega | decide, by omega⟩⟩⟩⟩⟩)⟩
                have hP9 : va_P (dC, dI) vwCl [(h0, .inr (4, mX4 h1 h4 h11 h18 (upd v0 6 z166))), (h1, .inr (9, mX9 h2 h3 v1)), (h2, zi k2 600 f2)] H := hP
                have hD9 : va_D A [(h0, .inr (4, mX4 h1 h4 h11 h18 (upd v0 6 z166))), (h1, .inr (9, mX9 h2 h3 v1)), (h2, zi k2 600 f2)] := hD
                exact W.iret (v := 263) hx hb hr (fun t ht hW => ⟨⟨263, (fun i => ([z166] : List (Int32)).getD i 0), rfl, hpost, (fun _ => 0), (fun _ => (fun _ => 0)), (fun _ => (fun _ => 0)), by rw [ht]; exact hP9, va_K.moved hW.alike hK, hD9⟩, hS.F ht⟩) hS.2.2 dX4_sortOfRun_183
        · skip
          have b_ := zF_eq rfl zk_0 c_
          refine lv_sipush (v := 261) hx hb dX4_sortOfRun_92 (by decide) ?_
          refine W.widen (k := 0) (n := 0) (by decide) (by decide) ?_
          have hpost : (257 ≤ (261 : Int32).toInt ∧ (261 : Int32).toInt ≤ 263) ∧ (zqTy f2 (v1 2).toInt → (v0 5).toInt < (v1 2).toInt → zqRe f2 (v1 2).toInt (v0 5).toInt (v0 6).toInt → zKw f2 (v1 2).toInt (v0 5).toInt (v0 6).toInt (261 : Int32).toInt (v0 6).toInt) := ⟨(by first | with_reducible assumption | exact ⟨by omega, by omega⟩), by (intro tb_ p_ q_; have q4_ := q_.2.2.2; first | exact Or.inl ⟨(hX14_0 (by omega) (by omega) (by omega) (by omega) (by omega)), by first | omega | decide, by omega⟩ | exact Or.inr ⟨(hX14_1 (by omega) (by omega) (by omega) (by omega) (by omega)), Or.inl ⟨(hX38_0 (by omega) (by omega) (by omega) (by omega) (by omega)), by first | omega | decide, by omega⟩⟩ | exact Or.inr ⟨(hX14_1 (by omega) (by omega) (by omega) (by omega) (by omega)), Or.inr ⟨(hX38_1 (by omega) (by omega) (by omega) (by omega) (by omega)), Or.inl ⟨(hX62_0 (by omega) (by omega) (by omega) (by omega) (by omega)), by first | omega | decide, by omega⟩⟩⟩ | exact Or.inr ⟨(hX14_1 (by omega) (by omega) (by omega) (by omega) (by omega)), Or.inr ⟨(hX38_1 (by omega) (by omega) (by omega) (by omega) (by omega)), Or.inr ⟨(hX62_1 (by omega) (by omega) (by omega) (by omega) (by omega)), Or.inl ⟨(hX86_0 (by omega) (by omega) (by omega) (by omega) (by omega)), by first | omega | decide, by omega⟩⟩⟩⟩ | exact Or.inr ⟨(hX14_1 (by omega) (by omega) (by omega) (by omega) (by omega)), Or.inr ⟨(hX38_1 (by omega) (by omega) (by omega) (by omega) (by omega)), Or.inr ⟨(hX62_1 (by omega) (by omega) (by omega) (by omega) (by omega)), Or.inr ⟨(hX86_1 (by omega) (by omega) (by omega) (by omega) (by omega)), Or.inl ⟨_, hX122_0 (by omega), zqCo_i tb_ hX155_0 hX155_1 (by omega), by omega, Or.inl ⟨(hX110_0 (by omega) (by omega) (by omega) (by omega) (by omega)), by first | omega | decide⟩⟩⟩⟩⟩⟩ | exact Or.inr ⟨(hX14_1 (by omega) (by omega) (by omega) (by omega) (by omega)), Or.inr ⟨(hX38_1 (by omega) (by omega) (by omega) (by omega) (by omega)), Or.inr ⟨(hX62_1 (by omega) (by omega) (by omega) (by omega) (by omega)), Or.inr ⟨(hX86_1 (by omega) (by omega) (by omega) (by omega) (by omega)), Or.inl ⟨_, hX122_0 (by omega), zqCo_i tb_ hX155_0 hX155_1 (by omega), by omega, Or.inr ⟨(hX110_1 (by omega) (by omega) (by omega) (by omega) (by omega)), (hX144_0 (by omega) (by omega) (by omega) (by omega) (by omega)), by first | omega | decide⟩⟩⟩⟩⟩⟩ | exact Or.inr ⟨(hX14_1 (by omega) (by omega) (by omega) (by omega) (by omega)), Or.inr ⟨(hX38_1 (by omega) (by omega) (by omega) (by omega) (by omega)), Or.inr ⟨(hX62_1 (by omega) (by omega) (by omega) (by omega) (by omega)), Or.inr ⟨(hX86_1 (by omega) (by omega) (by omega) (by omega) (by omega)), Or.inr ⟨fun y_ => (zFc_n (hX122_0 (by omega)) (zqCo_n tb_ hX155_0 (by omega) (by omega)) (by omega)) y_.2, by first | omega | decide, by omega⟩⟩⟩⟩⟩ | exact Or.inr ⟨(hX14_1 (by omega) (by omega) (by omega) (by omega) (by omega)), Or.inr ⟨(hX38_1 (by omega) (by omega) (by omega) (by omega) (by omega)), Or.inr ⟨(hX62_1 (by omega) (by omega) (by omega) (by omega) (by omega)), Or.inr ⟨(hX86_1 (by omega) (by omega) (by omega) (by omega) (by omega)), Or.inr ⟨fun y_ => y_.1.elim (hX110_1 (by omega) (by omega) (by omega) (by omega) (by omega)) (hX144_1 (by omega) (by omega) (by omega) (by omega) (by omega)), by first | omega | decide, by omega⟩⟩⟩⟩⟩)⟩
          have hP9 : va_P (dC, dI) vwCl [(h0, .inr (4, mX4 h1 h4 h11 h18 (upd v0 6 (v0 6)))), (h1, .inr (9, mX9 h2 h3 v1)), (h2, zi k2 600 f2)] H := hP
          have hD9 : va_D A [(h0, .inr (4, mX4 h1 h4 h11 h18 (upd v0 6 (v0 6)))), (h1, .inr (9, mX9 h2 h3 v1)), (h2, zi k2 600 f2)] := hD
          exact W.iret (v := 261) hx hb hr (fun t ht hW => ⟨⟨261, (fun i => ([(v0 6)] : List (Int32)).getD i 0), rfl, hpost, (fun _ => 0), (fun _ => (fun _ => 0)), (fun _ => (fun _ => 0)), by rw [ht]; exact hP9, va_K.moved hW.alike hK, hD9⟩, hS.F ht⟩) hS.2.2 dX4_sortOfRun_95
      · skip
        have b_ := zF_eq rfl zk_0 c_
        refine lv_sipush (v := 260) hx hb dX4_sortOfRun_68 (by decide) ?_
        refine W.widen (k := 0) (n := 0) (by decide) (by decide) ?_
        have hpost : (257 ≤ (260 : Int32).toInt ∧ (260 : Int32).toInt ≤ 263) ∧ (zqTy f2 (v1 2).toInt → (v0 5).toInt < (v1 2).toInt → zqRe f2 (v1 2).toInt (v0 5).toInt (v0 6).toInt → zKw f2 (v1 2).toInt (v0 5).toInt (v0 6).toInt (260 : Int32).toInt (v0 6).toInt) := ⟨(by first | with_reducible assumption | exact ⟨by omega, by omega⟩), by (intro tb_ p_ q_; have q4_ := q_.2.2.2; first | exact Or.inl ⟨(hX14_0 (by omega) (by omega) (by omega) (by omega) (by omega)), by first | omega | decide, by omega⟩ | exact Or.inr ⟨(hX14_1 (by omega) (by omega) (by omega) (by omega) (by omega)), Or.inl ⟨(hX38_0 (by omega) (by omega) (by omega) (by omega) (by omega)), by first | omega | decide, by omega⟩⟩ | exact Or.inr ⟨(hX14_1 (by omega) (by omega) (by omega) (by omega) (by omega)), Or.inr ⟨(hX38_1 (by omega) (by omega) (by omega) (by omega) (by omega)), Or.inl ⟨(hX62_0 (by omega) (by omega) (by omega) (by omega) (by omega)), by first | omega | decide, by omega⟩⟩⟩ | exact Or.inr ⟨(hX14_1 (by omega) (by omega) (by omega) (by omega) (by omega)), Or.inr ⟨(hX38_1 (by omega) (by omega) (by omega) (by omega) (by omega)), Or.inr ⟨(hX62_1 (by omega) (by omega) (by omega) (by omega) (by omega)), Or.inl ⟨(hX86_0 (by omega) (by omega) (by omega) (by omega) (by omega)), by first | omega | decide, by omega⟩⟩⟩⟩ | exact Or.inr ⟨(hX14_1 (by omega) (by omega) (by omega) (by omega) (by omega)), Or.inr ⟨(hX38_1 (by omega) (by omega) (by omega) (by omega) (by omega)), Or.inr ⟨(hX62_1 (by omega) (by omega) (by omega) (by omega) (by omega)), Or.inr ⟨(hX86_1 (by omega) (by omega) (by omega) (by omega) (by omega)), Or.inl ⟨_, hX122_0 (by omega), zqCo_i tb_ hX155_0 hX155_1 (by omega), by omega, Or.inl ⟨(hX110_0 (by omega) (by omega) (by omega) (by omega) (by omega)), by first | omega | decide⟩⟩⟩⟩⟩⟩ | exact Or.inr ⟨(hX14_1 (by omega) (by omega) (by omega) (by omega) (by omega)), Or.inr ⟨(hX38_1 (by omega) (by omega) (by omega) (by omega) (by omega)), Or.inr ⟨(hX62_1 (by omega) (by omega) (by omega) (by omega) (by omega)), Or.inr ⟨(hX86_1 (by omega) (by omega) (by omega) (by omega) (by omega)), Or.inl ⟨_, hX122_0 (by omega), zqCo_i tb_ hX155_0 hX155_1 (by omega), by omega, Or.inr ⟨(hX110_1 (by omega) (by omega) (by omega) (by omega) (by omega)), (hX144_0 (by omega) (by omega) (by omega) (by omega) (by omega)), by first | omega | decide⟩⟩⟩⟩⟩⟩ | exact Or.inr ⟨(hX14_1 (by omega) (by omega) (by omega) (by omega) (by omega)), Or.inr ⟨(hX38_1 (by omega) (by omega) (by omega) (by omega) (by omega)), Or.inr ⟨(hX62_1 (by omega) (by omega) (by omega) (by omega) (by omega)), Or.inr ⟨(hX86_1 (by omega) (by omega) (by omega) (by omega) (by omega)), Or.inr ⟨fun y_ => (zFc_n (hX122_0 (by omega)) (zqCo_n tb_ hX155_0 (by omega) (by omega)) (by omega)) y_.2, by first | omega | decide, by omega⟩⟩⟩⟩⟩ | exact Or.inr ⟨(hX14_1 (by omega) (by omega) (by omega) (by omega) (by omega)), Or.inr ⟨(hX38_1 (by omega) (by omega) (by omega) (by omega) (by omega)), Or.inr ⟨(hX62_1 (by omega) (by omega) (by omega) (by omega) (by omega)), Or.inr ⟨(hX86_1 (by omega) (by omega) (by omega) (by omega) (by omega)), Or.inr ⟨fun y_ => y_.1.elim (hX110_1 (by omega) (by omega) (by omega) (by omega) (by omega)) (hX144_1 (by omega) (by omega) (by omega) (by omega) (by omega)), by first | omega | decide, by omega⟩⟩⟩⟩⟩)⟩
        have hP9 : va_P (dC, dI) vwCl [(h0, .inr (4, mX4 h1 h4 h11 h18 (upd v0 6 (v0 6)))), (h1, .inr (9, mX9 h2 h3 v1)), (h2, zi k2 600 f2)] H := hP
        have hD9 : va_D A [(h0, .inr (4, mX4 h1 h4 h11 h18 (upd v0 6 (v0 6)))), (h1, .inr (9, mX9 h2 h3 v1)), (h2, zi k2 600 f2)] := hD
        exact W.iret (v := 260) hx hb hr (fun t ht hW => ⟨⟨260, (fun i => ([(v0 6)] : List (Int32)).getD i 0), rfl, hpost, (fun _ => 0), (fun _ => (fun _ => 0)), (fun _ => (fun _ => 0)), by rw [ht]; exact hP9, va_K.moved hW.alike hK, hD9⟩, hS.F ht⟩) hS.2.2 dX4_sortOfRun_71
    · skip
      have b_ := zF_eq rfl zk_0 c_
      refine lv_sipush (v := 259) hx hb dX4_sortOfRun_44 (by decide) ?_
      refine W.widen (k := 0) (n := 0) (by decide) (by decide) ?_
      have hpost : (257 ≤ (259 : Int32).toInt ∧ (259 : Int32).toInt ≤ 263) ∧ (zqTy f2 (v1 2).toInt → (v0 5).toInt < (v1 2).toInt → zqRe f2 (v1 2).toInt (v0 5).toInt (v0 6).toInt → zKw f2 (v1 2).toInt (v0 5).toInt (v0 6).toInt (259 : Int32).toInt (v0 6).toInt) := ⟨(by first | with_reducible assumption | exact ⟨by omega, by omega⟩), by (intro tb_ p_ q_; have q4_ := q_.2.2.2; first | exact Or.inl ⟨(hX14_0 (by omega) (by omega) (by omega) (by omega) (by omega)), by first | omega | decide, by omega⟩ | exact Or.inr ⟨(hX14_1 (by omega) (by omega) (by omega) (by omega) (by omega)), Or.inl ⟨(hX38_0 (by omega) (by omega) (by omega) (by omega) (by omega)), by first | omega | decide, by omega⟩⟩ | exact Or.inr ⟨(hX14_1 (by omega) (by omega) (by omega) (by omega) (by omega)), Or.inr ⟨(hX38_1 (by omega) (by omega) (by omega) (by omega) (by omega)), Or.inl ⟨(hX62_0 (by omega) (by omega) (by omega) (by omega) (by omega)), by first | omega | decide, by omega⟩⟩⟩ | exact Or.inr ⟨(hX14_1 (by omega) (by omega) (by omega) (by omega) (by omega)), Or.inr ⟨(hX38_1 (by omega) (by omega) (by omega) (by omega) (by omega)), Or.inr ⟨(hX62_1 (by omega) (by omega) (by omega) (by omega) (by omega)), Or.inl ⟨(hX86_0 (by omega) (by omega) (by omega) (by omega) (by omega)), by first | omega | decide, by omega⟩⟩⟩⟩ | exact Or.inr ⟨(hX14_1 (by omega) (by omega) (by omega) (by omega) (by omega)), Or.inr ⟨(hX38_1 (by omega) (by omega) (by omega) (by omega) (by omega)), Or.inr ⟨(hX62_1 (by omega) (by omega) (by omega) (by omega) (by omega)), Or.inr ⟨(hX86_1 (by omega) (by omega) (by omega) (by omega) (by omega)), Or.inl ⟨_, hX122_0 (by omega), zqCo_i tb_ hX155_0 hX155_1 (by omega), by omega, Or.inl ⟨(hX110_0 (by omega) (by omega) (by omega) (by omega) (by omega)), by first | omega | decide⟩⟩⟩⟩⟩⟩ | exact Or.inr ⟨(hX14_1 (by omega) (by omega) (by omega) (by omega) (by omega)), Or.inr ⟨(hX38_1 (by omega) (by omega) (by omega) (by omega) (by omega)), Or.inr ⟨(hX62_1 (by omega) (by omega) (by omega) (by omega) (by omega)), Or.inr ⟨(hX86_1 (by omega) (by omega) (by omega) (by omega) (by omega)), Or.inl ⟨_, hX122_0 (by omega), zqCo_i tb_ hX155_0 hX155_1 (by omega), by omega, Or.inr ⟨(hX110_1 (by omega) (by omega) (by omega) (by omega) (by omega)), (hX144_0 (by omega) (by omega) (by omega) (by omega) (by omega)), by first | omega | decide⟩⟩⟩⟩⟩⟩ | exact Or.inr ⟨(hX14_1 (by omega) (by omega) (by omega) (by omega) (by omega)), Or.inr ⟨(hX38_1 (by omega) (by omega) (by omega) (by omega) (by omega)), Or.inr ⟨(hX62_1 (by omega) (by omega) (by omega) (by omega) (by omega)), Or.inr ⟨(hX86_1 (by omega) (by omega) (by omega) (by omega) (by omega)), Or.inr ⟨fun y_ => (zFc_n (hX122_0 (by omega)) (zqCo_n tb_ hX155_0 (by omega) (by omega)) (by omega)) y_.2, by first | omega | decide, by omega⟩⟩⟩⟩⟩ | exact Or.inr ⟨(hX14_1 (by omega) (by omega) (by omega) (by omega) (by omega)), Or.inr ⟨(hX38_1 (by omega) (by omega) (by omega) (by omega) (by omega)), Or.inr ⟨(hX62_1 (by omega) (by omega) (by omega) (by omega) (by omega)), Or.inr ⟨(hX86_1 (by omega) (by omega) (by omega) (by omega) (by omega)), Or.inr ⟨fun y_ => y_.1.elim (hX110_1 (by omega) (by omega) (by omega) (by omega) (by omega)) (hX144_1 (by omega) (by omega) (by omega) (by omega) (by omega)), by first | omega | decide, by omega⟩⟩⟩⟩⟩)⟩
      have hP9 : va_P (dC, dI) vwCl [(h0, .inr (4, mX4 h1 h4 h11 h18 (upd v0 6 (v0 6)))), (h1, .inr (9, mX9 h2 h3 v1)), (h2, zi k2 600 f2)] H := hP
      have hD9 : va_D A [(h0, .inr (4, mX4 h1 h4 h11 h18 (upd v0 6 (v0 6)))), (h1, .inr (9, mX9 h2 h3 v1)), (h2, zi k2 600 f2)] := hD
      exact W.iret (v := 259) hx hb hr (fun t ht hW => ⟨⟨259, (fun i => ([(v0 6)] : List (Int32)).getD i 0), rfl, hpost, (fun _ => 0), (fun _ => (fun _ => 0)), (fun _ => (fun _ => 0)), by rw [ht]; exact hP9, va_K.moved hW.alike hK, hD9⟩, hS.F ht⟩) hS.2.2 dX4_sortOfRun_47
  · skip
    have b_ := zF_eq rfl zk_0 c_
    refine lv_sipush (v := 258) hx hb dX4_sortOfRun_20 (by decide) ?_
    refine W.widen (k := 0) (n := 0) (by decide) (by decide) ?_
    have hpost : (257 ≤ (258 : Int32).toInt ∧ (258 : Int32).toInt ≤ 263) ∧ (zqTy f2 (v1 2).toInt → (v0 5).toInt < (v1 2).toInt → zqRe f2 (v1 2).toInt (v0 5).toInt (v0 6).toInt → zKw f2 (v1 2).toInt (v0 5).toInt (v0 6).toInt (258 : Int32).toInt (v0 6).toInt) := ⟨(by first | with_reducible assumption | exact ⟨by omega, by omega⟩), by (intro tb_ p_ q_; have q4_ := q_.2.2.2; first | exact Or.inl ⟨(hX14_0 (by omega) (by omega) (by omega) (by omega) (by omega)), by first | omega | decide, by omega⟩ | exact Or.inr ⟨(hX14_1 (by omega) (by omega) (by omega) (by omega) (by omega)), Or.inl ⟨(hX38_0 (by omega) (by omega) (by omega) (by omega) (by omega)), by first | omega | decide, by omega⟩⟩ | exact Or.inr ⟨(hX14_1 (by omega) (by omega) (by omega) (by omega) (by omega)), Or.inr ⟨(hX38_1 (by omega) (by omega) (by omega) (by omega) (by omega)), Or.inl ⟨(hX62_0 (by omega) (by omega) (by omega) (by omega) (by omega)), by first | omega | decide, by omega⟩⟩⟩ | exact Or.inr ⟨(hX14_1 (by omega) (by omega) (by omega) (by omega) (by omega)), Or.inr ⟨(hX38_1 (by omega) (by omega) (by omega) (by omega) (by omega)), Or.inr ⟨(hX62_1 (by omega) (by omega) (by omega) (by omega) (by omega)), Or.inl ⟨(hX86_0 (by omega) (by omega) (by omega) (by omega) (by omega)), by first | omega | decide, by omega⟩⟩⟩⟩ | exact Or.inr ⟨(hX14_1 (by omega) (by omega) (by omega) (by omega) (by omega)), Or.inr ⟨(hX38_1 (by omega) (by omega) (by omega) (by omega) (by omega)), Or.inr ⟨(hX62_1 (by omega) (by omega) (by omega) (by omega) (by omega)), Or.inr ⟨(hX86_1 (by omega) (by omega) (by omega) (by omega) (by omega)), Or.inl ⟨_, hX122_0 (by omega), zqCo_i tb_ hX155_0 hX155_1 (by omega), by omega, Or.inl ⟨(hX110_0 (by omega) (by omega) (by omega) (by omega) (by omega)), by first | omega | decide⟩⟩⟩⟩⟩⟩ | exact Or.inr ⟨(hX14_1 (by omega) (by omega) (by omega) (by omega) (by omega)), Or.inr ⟨(hX38_1 (by omega) (by omega) (by omega) (by omega) (by omega)), Or.inr ⟨(hX62_1 (by omega) (by omega) (by omega) (by omega) (by omega)), Or.inr ⟨(hX86_1 (by omega) (by omega) (by omega) (by omega) (by omega)), Or.inl ⟨_, hX122_0 (by omega), zqCo_i tb_ hX155_0 hX155_1 (by omega), by omega, Or.inr ⟨(hX110_1 (by omega) (by omega) (by omega) (by omega) (by omega)), (hX144_0 (by omega) (by omega) (by omega) (by omega) (by omega)), by first | omega | decide⟩⟩⟩⟩⟩⟩ | exact Or.inr ⟨(hX14_1 (by omega) (by omega) (by omega) (by omega) (by omega)), Or.inr ⟨(hX38_1 (by omega) (by omega) (by omega) (by omega) (by omega)), Or.inr ⟨(hX62_1 (by omega) (by omega) (by omega) (by omega) (by omega)), Or.inr ⟨(hX86_1 (by omega) (by omega) (by omega) (by omega) (by omega)), Or.inr ⟨fun y_ => (zFc_n (hX122_0 (by omega)) (zqCo_n tb_ hX155_0 (by omega) (by omega)) (by omega)) y_.2, by first | omega | decide, by omega⟩⟩⟩⟩⟩ | exact Or.inr ⟨(hX14_1 (by omega) (by omega) (by omega) (by omega) (by omega)), Or.inr ⟨(hX38_1 (by omega) (by omega) (by omega) (by omega) (by omega)), Or.inr ⟨(hX62_1 (by omega) (by omega) (by omega) (by omega) (by omega)), Or.inr ⟨(hX86_1 (by omega) (by omega) (by omega) (by omega) (by omega)), Or.inr ⟨fun y_ => y_.1.elim (hX110_1 (by omega) (by omega) (by omega) (by omega) (by omega)) (hX144_1 (by omega) (by omega) (by omega) (by omega) (by omega)), by first | omega | decide, by omega⟩⟩⟩⟩⟩)⟩
    have hP9 : va_P (dC, dI) vwCl [(h0, .inr (4, mX4 h1 h4 h11 h18 (upd v0 6 (v0 6)))), (h1, .inr (9, mX9 h2 h3 v1)), (h2, zi k2 600 f2)] H := hP
    have hD9 : va_D A [(h0, .inr (4, mX4 h1 h4 h11 h18 (upd v0 6 (v0 6)))), (h1, .inr (9, mX9 h2 h3 v1)), (h2, zi k2 600 f2)] := hD
    exact W.iret (v := 258) hx hb hr (fun t ht hW => ⟨⟨258, (fun i => ([(v0 6)] : List (Int32)).getD i 0), rfl, hpost, (fun _ => 0), (fun _ => (fun _ => 0)), (fun _ => (fun _ => 0)), by rw [ht]; exact hP9, va_K.moved hW.alike hK, hD9⟩, hS.F ht⟩) hS.2.2 dX4_sortOfRun_23
