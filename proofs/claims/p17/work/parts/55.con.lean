set_option maxHeartbeats 8000000 in
set_option maxRecDepth 100000 in
theorem sX13_gamma_0 (l : Launch) (dC : Nat → ClassId) (dI : Nat → Nat → Nat) (adK adV : Nat → Nat) (sz : Nat) (x0 : Int32) : Met l yX13_gamma (zw yX13_gamma cX13_gamma 1 (some .int)) { frames := 1, cells := 0, slots := 0, locals := 22 } (zPc dC dI adK adV [.int x0] sz [] []) (va_Qi (fun (r : Int32) (u : Nat → Int32) => ((-1) ≤ r.toInt ∧ r.toInt ≤ 61) ∧ (r.toInt = zgam x0.toInt)) (fun (u : Nat → Int32) (t : State) => ∃ (ww : Nat → Int64) (aa : Nat → Nat → Int32) (bb : Nat → Nat → Int64), va_P (dC, dI) vwCl [] t.heap ∧ va_K (dC, dI) vwCl [] t ∧ va_D (va_A [] sz) []) (va_A [] sz)) 0 0 (va_A [] sz) := by
  refine Met.ofW (cc := cX13_gamma) (maxL := 1) (ret := (some .int)) (by decide) rfl ?_
  intro p e s m args below meth c s₁ B hml hv
  obtain ⟨rfl, hsz, hP, hK, hD0, hE, hZ⟩ := hv
  have hx := B.exec
  have hb := B.bytes
  have hr := B.returns
  have hG : ∀ w ∈ zG, w.before _ s = true := fun w h => atoms_spec (ws := (zw yX13_gamma cX13_gamma 1 (some .int))) B.pre w (List.mem_cons_of_mem _ h)
  have hown : s.vm.findClass RX13 = some m.cls := findClass_of_methodNamed B.named
  have hlocks := B.notSynchronized

  subst hsz
  have hD := hD0.self (sz := s.heap.size)
  generalize hAe : va_A [] s.heap.size = A at hD hZ ⊢
  have hA : ∀ q : Nat, s.heap.size ≤ q → A q := fun q h => by rw [← hAe]; exact Or.inr h
  have hS : va_S A s.heap s.heap [] := va_S.rf
  have hl := lv_entry ([.int x0]) (n := 1) (Nat.le_of_ble_eq_true rfl)
  rw [lg_entry_eq]
  generalize (lg_sl ([.int x0]) ++ List.replicate (1 - (lg_sl ([.int x0])).length) Slot.unset).toArray = ls at hl ⊢
  have hl : lv_has ls 1 [(0, .int x0)] := hl
  refine lv_iconst (v := 2) hx hb dX13_gamma_0 (by decide) ?_
  refine lv_iload_n hx hb dX13_gamma_1 rfl (lv_at hl 0 rfl) ?_
  have hPc := hP.sub (ws' := []) [] rfl
  have hDc := hD.sub (ws' := []) [] (by decide) rfl
  have hKc := hK.sub (tys' := []) [] rfl
  have hFc := va_free (wc := []) hD hS hA [] rfl
  refine va_calli (va_runS (As := [.int x0]) (rest := [.int 2]) ⟨hx, hb, hml, hown, hG⟩ (sX13_digits_0 l dC dI adK adV s.heap.size x0) (va_cwS 1 hG (zgS zv1909 zv1910 zv142 zv1911) rfl rfl rfl (by decide +kernel) ⟨Nat.le_of_ble_eq_true rfl, Nat.le_of_ble_eq_true rfl⟩) ⟨zPc_blind, zPc_pre hPc hKc hDc hE hS hFc hZ⟩ rfl rfl hl.1 rfl (lv_room (Nat.le_of_ble_eq_true rfl)) dX13_gamma_2 ⟨Nat.le_of_ble_eq_true rfl, Nat.le_of_ble_eq_true rfl⟩) hS (fun q _ h => hFc q h) hFc (fun r2_ u2_ t H1 locs ht hvm hw hB hz1 hk1 hS => ?_)
  replace hw : (0 ≤ r2_.toInt ∧ r2_.toInt ≤ 31) ∧ (r2_.toInt = zdig x0.toInt) := hw
  obtain ⟨b_, hX2_0⟩ := hw
  obtain ⟨w2_, a2_, b2_, hP1, hK1, hD1⟩ := hB
  rw [ht] at hP1
  obtain ⟨hP, hD⟩ := va_join (wr := []) (w1 := []) hP hD [] [] rfl rfl (by decide) (by decide) hk1 hFc hP1 hD1
  have hP : va_P (dC, dI) vwCl [] H1 := hP.sub [] rfl
  have hD : va_D A [] := hD.sub [] (by decide) rfl
  generalize H1 = H at hP hS ⊢
  clear hz1
  refine lv_imul hx hb dX13_gamma_5 ?_
  refine lv_topi (fun z5 e_z5 => ?_)
  have b_ := zmul zk_2 rfl e_z5 (by omega) (by omega)
  refine lv_iconst (v := 1) hx hb dX13_gamma_6 (by decide) ?_
  refine lv_isub hx hb dX13_gamma_7 ?_
  refine lv_topi (fun z7 e_z7 => ?_)
  have b_ := zsub rfl zk_1 e_z7 (by omega) (by omega)
  refine W.widen (k := 0) (n := 0) (by decide) (by decide) ?_
  have hpost : ((-1) ≤ z7.toInt ∧ z7.toInt ≤ 61) ∧ (z7.toInt = zgam x0.toInt) := ⟨(by first | with_reducible assumption | exact ⟨by omega, by omega⟩), by unfold zgam; omega⟩
  have hP9 : va_P (dC, dI) vwCl [] H := hP
  have hD9 : va_D A [] := hD
  exact W.iret (v := z7) hx hb hr (fun t ht hW => ⟨⟨z7, (fun _ => 0), rfl, hpost, (fun _ => 0), (fun _ => (fun _ => 0)), (fun _ => (fun _ => 0)), by rw [ht]; exact hP9, va_K.moved hW.alike hK, hD9⟩, hS.F ht⟩) hS.2.2 dX13_gamma_8
set_option maxHeartbeats 8000000 in
set_option maxRecDepth 100000 in
theorem sX13_measure_0 (l : Launch) (dC : Nat → ClassId) (dI : Nat → Nat → Nat) (adK adV : Nat → Nat) (h0 : Nat) (q0 : Nat → Nat) (k17 : ClassId) (k18 : ClassId) (k4 : ClassId) (k6 : ClassId) (k20 : ClassId) (k19 : ClassId) (sz : Nat) (v0 : Nat → Int32) (f17 : Nat → Int32) (f18 : Nat → Int32) (f4 : Nat → Int32) (f6 : Nat → Int32) (f20 : Nat → Int32) (f19 : Nat → Int32) (hv0 : zR rg_Model v0) (hf18 : zA (-1) 119 f18) (hf4 : zA 0 400 f4) (hf19 : zA (-1) 1023 f19) : Met l yX13_measure (zw yX13_measure cX13_measure 4 none) { frames := 2, cells := 0, slots := 0, locals := 42 } (zPc dC dI adK adV [.ref h0] sz [(h0, .inr (13, mX13 q0 v0)), ((q0 25), zi k17 400 f17), ((q0 26), zi k18 400 f18), ((q0 5), zi k4 122880 f4), ((q0 7), zi k6 120 f6), ((q0 28), zi k20 400 f20), ((q0 27), zi k19 400 f19)] [(k17, .int), (k18, .int), (k4, .short), (k6, .boolean), (k20, .int), (k19, .int)]) (va_Qv (fun (u : Nat → Int32) => True) (fun (u : Nat → Int32) (t : State) => ∃ (ww : Nat → Int64) (aa : Nat → Nat → Int32) (bb : Nat → Nat → Int64), zA (-1) 119 (aa 1) ∧ zA (-1) 1023 (aa 3) ∧ (zM1 (aa 0) (aa 1) f4 f6 (v0 4).toInt (v0 13).toInt) ∧ va_P (dC, dI) vwCl [(h0, .inr (13, mX13 q0 v0)), ((q0 25), zi k17 400 (aa 0)), ((q0 26), zi k18 400 (aa 1)), ((q0 5), zi k4 122880 f4), ((q0 7), zi k6 120 f6), ((q0 28), zi k20 400 (aa 2)), ((q0 27), zi k19 400 (aa 3))] t.heap ∧ va_K (dC, dI) vwCl [(k17, .int), (k18, .int), (k4, .short), (k6, .boolean), (k20, .int), (k19, .int)] t ∧ va_D (va_A [(h0, .inr (13, mX13 q0 v0)), ((q0 25), zi k17 400 f17), ((q0 26), zi k18 400 f18), ((q0 5), zi k4 122880 f4), ((q0 7), zi k6 120 f6), ((q0 28), zi k20 400 f20), ((q0 27), zi k19 400 f19)] sz) [(h0, .inr (13, mX13 q0 v0)), ((q0 25), zi k17 400 (aa 0)), ((q0 26), zi k18 400 (aa 1)), ((q0 5), zi k4 122880 f4), ((q0 7), zi k6 120 f6), ((q0 28), zi k20 400 (aa 2)), ((q0 27), zi k19 400 (aa 3))]) (va_A [(h0, .inr (13, mX13 q0 v0)), ((q0 25), zi k17 400 f17), ((q0 26), zi k18 400 f18), ((q0 5), zi k4 122880 f4), ((q0 7), zi k6 120 f6), ((q0 28), zi k20 400 f20), ((q0 27), zi k19 400 f19)] sz)) 0 0 (va_A [(h0, .inr (13, mX13 q0 v0)), ((q0 25), zi k17 400 f17), ((q0 26), zi k18 400 f18), ((q0 5), zi k4 122880 f4), ((q0 7), zi k6 120 f6), ((q0 28), zi k20 400 f20), ((q0 27), zi k19 400 f19)] sz) := by
  refine Met.ofW (cc := cX13_measure) (maxL := 4) (ret := none) (by decide) rfl ?_
  intro p e s m args below meth c s₁ B hml hv
  obtain ⟨rfl, hsz, hP, hK, hD0, hE, hZ⟩ := hv
  have hx := B.exec
  have hb := B.bytes
  have hr := B.returns
  have hG : ∀ w ∈ zG, w.before _ s = true := fun w h => atoms_spec (ws := (zw yX13_measure cX13_measure 4 none)) B.pre w (List.mem_cons_of_mem _ h)
  have hown : s.vm.findClass RX13 = some m.cls := findClass_of_methodNamed B.named
  have hlocks := B.notSynchronized

  subst hsz
  have hD := hD0.self (sz := s.heap.size)
  generalize hAe : va_A [(h0, .inr (13, mX13 q0 v0)), ((q0 25), zi k17 400 f17), ((q0 26), zi k18 400 f18), ((q0 5), zi k4 122880 f4), ((q0 7), zi k6 120 f6), ((q0 28), zi k20 400 f20), ((q0 27), zi k19 400 f19)] s.heap.size = A at hD hZ ⊢
  have hA : ∀ q : Nat, s.heap.size ≤ q → A q := fun q h => by rw [← hAe]; exact Or.inr h
  have hS : va_S A s.heap s.heap [] := va_S.rf
  have hl := lv_entry ([.ref h0]) (n := 4) (Nat.le_of_ble_eq_true rfl)
  rw [lg_entry_eq]
  generalize (lg_sl ([.ref h0]) ++ List.replicate (4 - (lg_sl ([.ref h0])).length) Slot.unset).toArray = ls at hl ⊢
  have hl : lv_has ls 4 [(0, .ref h0)] := hl
  have b_ := zk_0
  have b_ : 0 ≤ (v0 4).toInt ∧ (v0 4).toInt ≤ 400 := hv0 4
  have b_ : 0 ≤ (v0 13).toInt ∧ (v0 13).toInt ≤ 120 := hv0 13
  refine lv_iconst (v := 0) hx hb dX13_measure_0 (by decide) ?_
  refine lv_istore_n (lv' := [(1, .int 0), (0, .ref h0)]) hx hb dX13_measure_1 rfl hl (by decide) rfl (fun ls hl => ?_)
  refine zcutL (fun u2_ => (400 - (u2_ 0).toInt).toNat) (fun H locs ls u2_ w2_ a2_ b2_ => va_P (dC, dI) vwCl [(h0, .inr (13, mX13 q0 v0)), ((q0 25), zi k17 400 (a2_ 0)), ((q0 26), zi k18 400 (a2_ 1)), ((q0 5), zi k4 122880 f4), ((q0 7), zi k6 120 f6), ((q0 28), zi k20 400 f20), ((q0 27), zi k19 400 f19)] H ∧ va_D A [(h0, .inr (13, mX13 q0 v0)), ((q0 25), zi k17 400 (a2_ 0)), ((q0 26), zi k18 400 (a2_ 1)), ((q0 5), zi k4 122880 f4), ((q0 7), zi k6 120 f6), ((q0 28), zi k20 400 f20), ((q0 27), zi k19 400 f19)] ∧ va_S A s.heap H locs ∧ lv_has ls 4 [(0, .ref h0), (1, .int (u2_ 0))] ∧ zA (-1) 119 (a2_ 1) ∧ (0 ≤ (u2_ 0).toInt ∧ (u2_ 0).toInt ≤ 400) ∧ (zM0 (a2_ 0) (a2_ 1) (u2_ 0).toInt) ∧ ((u2_ 0).toInt ≤ (v0 4).toInt)) (fun ls u2_ w2_ => F0 m 2 ls []) 0 0 ?_ (fun hJ2 => ?_)
  · skip
    intro H locs ls u2_ w2_ a2_ b2_ hc hJ2
    obtain ⟨hP, hD, hS, hl, ha2_1, b_, hI2_0, b_⟩ := hc
    refine lv_iload_n hx hb dX13_measure_2 rfl (lv_at hl 1 rfl) ?_
    refine lv_aload_n hx hb dX13_measure_3 rfl (lv_at hl 0 rfl) ?_
    refine va_get (D := (dC, dI)) (ci := 13) (v := .int (v0 4)) (C := RX13) (T := TX13) (N := 75) hx hb hG zuX13 hown hK hP 0 rfl rfl 4 (by decide) (hG _ zv1608) (fun _ h9 => h9) rfl dX13_measure_4 ?_
    refine lv_icmp_ge (tgt := 30) hx hb dX13_measure_7 (by decide) (fun c_ => ?_) (fun c_ => ?_)
    · skip
      have b_ := zT_ge rfl rfl c_
      refine lv_iconst (v := 0) hx hb dX13_measure_30 (by decide) ?_
      refine lv_istore_n (lv' := [(1, .int 0), (0, .ref h0)]) hx hb dX13_measure_31 rfl hl (by decide) rfl (fun ls hl => ?_)
      refine zcutL (fun u32_ => (120 - (u32_ 0).toInt).toNat) (fun H locs ls u32_ w32_ a32_ b32_ => va_P (dC, dI) vwCl [(h0, .inr (13, mX13 q0 v0)), ((q0 25), zi k17 400 (a32_ 0)), ((q0 26), zi k18 400 (a32_ 1)), ((q0 5), zi k4 122880 f4), ((q0 7), zi k6 120 f6), ((q0 28), zi k20 400 (a32_ 3)), ((q0 27), zi k19 400 (a32_ 2))] H ∧ va_D A [(h0, .inr (13, mX13 q0 v0)), ((q0 25), zi k17 400 (a32_ 0)), ((q0 26), zi k18 400 (a32_ 1)), ((q0 5), zi k4 122880 f4), ((q0 7), zi k6 120 f6), ((q0 28), zi k20 400 (a32_ 3)), ((q0 27), zi k19 400 (a32_ 2))] ∧ va_S A s.heap H locs ∧ lv_has ls 4 [(0, .ref h0), (1, .int (u32_ 0))] ∧ zA (-1) 119 (a32_ 1) ∧ zA (-1) 1023 (a32_ 2) ∧ (0 ≤ (u32_ 0).toInt ∧ (u32_ 0).toInt ≤ 120) ∧ (zM1 (a32_ 0) (a32_ 1) f4 f6 (v0 4).toInt (u32_ 0).toInt) ∧ ((u32_ 0).toInt ≤ (v0 13).toInt)) (fun ls u32_ w32_ => F0 m 32 ls []) 0 0 ?_ (fun hJ32 => ?_)
      · skip
        intro H locs ls u32_ w32_ a32_ b32_ hc hJ32
        obtain ⟨hP, hD, hS, hl, ha32_1, ha32_2, b_, hI32_0, b_⟩ := hc
        refine lv_iload_n hx hb dX13_measure_32 rfl (lv_at hl 1 rfl) ?_
        refine lv_aload_n hx hb dX13_measure_33 rfl (lv_at hl 0 rfl) ?_
        refine va_get (D := (dC, dI)) (ci := 13) (v := .int (v0 13)) (C := RX13) (T := TX13) (N := 75) hx hb hG zuX13 hown hK hP 0 rfl rfl 13 (by decide) (hG _ zv1617) (fun _ h9 => h9) rfl dX13_measure_34 ?_
        refine lv_icmp_ge (tgt := 227) hx hb dX13_measure_37 (by decide) (fun c_ => ?_) (fun c_ => ?_)
        · skip
          have b_ := zT_ge rfl rfl c_
          have hfin : zM1 (a32_ 0) (a32_ 1) f4 f6 (v0 4).toInt (v0 13).toInt := by rw [show (v0 13).toInt = (u32_ 0).toInt from by omega]; exact hI32_0
          refine W.widen (k := 0) (n := 0) (by decide) (by decide) ?_
          have hpost : True := trivial
          have hP9 : va_P (dC, dI) vwCl [(h0, .inr (13, mX13 q0 v0)), ((q0 25), zi k17 400 (a32_ 0)), ((q0 26), zi k18 400 (a32_ 1)), ((q0 5), zi k4 122880 f4), ((q0 7), zi k6 120 f6), ((q0 28), zi k20 400 (a32_ 3)), ((q0 27), zi k19 400 (a32_ 2))] H := hP
          have hD9 : va_D A [(h0, .inr (13, mX13 q0 v0)), ((q0 25), zi k17 400 (a32_ 0)), ((q0 26), zi k18 400 (a32_ 1)), ((q0 5), zi k4 122880 f4), ((q0 7), zi k6 120 f6), ((q0 28), zi k20 400 (a32_ 3)), ((q0 27), zi k19 400 (a32_ 2))] := hD
          have hB0 : zM1 (a32_ 0) (a32_ 1) f4 f6 (v0 4).toInt (v0 13).toInt := by exact hfin
          exact W.vret hx hb hr (fun t ht hW => ⟨⟨(fun _ => 0), rfl, hpost, (fun _ => 0), (fun i => ([(a32_ 0), (a32_ 1), (a32_ 3), (a32_ 2)] : List (Nat → Int32)).getD i (fun _ => 0)), (fun _ => (fun _ => 0)), ha32_1, ha32_2, hB0, by rw [ht]; exact hP9, va_K.moved hW.alike hK, hD9⟩, hS.F ht⟩) hS.2.2 dX13_measure_227
        · skip
          have b_ := zF_ge rfl rfl c_
          refine lv_aload_n hx hb dX13_measure_40 rfl (lv_at hl 0 rfl) ?_
          refine va_get (D := (dC, dI)) (ci := 13) (v := .ref (q0 7)) (C := RX13) (T := TX13) (N := 75) hx hb hG zuX13 hown hK hP 0 rfl rfl 7 (by decide) (hG _ zv1611) (fun _ h9 => h9) rfl dX13_measure_41 ?_
          refine lv_iload_n hx hb dX13_measure_44 rfl (lv_at hl 1 rfl) ?_
          refine va_zald hx hb hK hP 4 3 rfl rfl (zin_lit ⟨by omega, by omega⟩) dX13_measure_45 ?_
          refine lv_topi (fun z45 e_z45 => ?_)
          have hke : (f6 ((u32_ 0).toInt).toNat).toInt = z45.toInt := congrArg Int32.toInt e_z45.symm
          have b_ : -2147483648 ≤ z45.toInt ∧ z45.toInt ≤ 2147483647 := ⟨zlo _, zhi _⟩
          refine lv_if_ne (tgt := 52) hx hb dX13_measure_46 (by decide) (fun c_ => ?_) (fun c_ => ?_)
          · skip
            have b_ := zT_ne rfl zk_0 c_
            refine lv_iconst (v := 0) hx hb dX13_measure_52 (by decide) ?_
            refine lv_istore_n (lv' := [(2, .int 0), (0, .ref h0), (1, .int (u32_ 0))]) hx hb dX13_measure_53 rfl hl (by decide) rfl (fun ls hl => ?_)
            refine zcutL (fun u54_ => (400 - (u54_ 0).toInt).toNat) (fun H locs ls u54_ w54_ a54_ b54_ => va_P (dC, dI) vwCl [(h0, .inr (13, mX13 q0 v0)), ((q0 25), zi k17 400 (a32_ 0)), ((q0 26), zi k18 400 (a32_ 1)), ((q0 5), zi k4 122880 f4), ((q0 7), zi k6 120 f6), ((q0 28), zi k20 400 (a54_ 1)), ((q0 27), zi k19 400 (a54_ 0))] H ∧ va_D A [(h0, .inr (13, mX13 q0 v0)), ((q0 25), zi k17 400 (a32_ 0)), ((q0 26), zi k18 400 (a32_ 1)), ((q0 5), zi k4 122880 f4), ((q0 7), zi k6 120 f6), ((q0 28), zi k20 400 (a54_ 1)), ((q0 27), zi k19 400 (a54_ 0))] ∧ va_S A s.heap H locs ∧ lv_has ls 4 [(0, .ref h0), (1, .int (u32_ 0)), (2, .int (u54_ 0))] ∧ zA (-1) 1023 (a54_ 0) ∧ (0 ≤ (u54_ 0).toInt ∧ (u54_ 0).toInt ≤ 400) ∧ (zM0 (a54_ 1) (a54_ 0) (u54_ 0).toInt) ∧ ((u54_ 0).toInt ≤ (v0 4).toInt)) (fun ls u54_ w54_ => F0 m 54 ls []) 0 0 ?_ (fun hJ54 => ?_)
            · skip
              intro H locs ls u54_ w54_ a54_ b54_ hc hJ54
              obtain ⟨hP, hD, hS, hl, ha54_0, b_, hI54_0, b_⟩ := hc
              refine lv_iload_n hx hb dX13_measure_54 rfl (lv_at hl 2 rfl) ?_
              refine lv_aload_n hx hb dX13_measure_55 rfl (lv_at hl 0 rfl) ?_
              refine va_get (D := (dC, dI)) (ci := 13) (v := .int (v0 4)) (C := RX13) (T := TX13) (N := 75) hx hb hG zuX13 hown hK hP 0 rfl rfl 4 (by decide) (hG _ zv1608) (fun _ h9 => h9) rfl dX13_measure_56 ?_
              refine lv_icmp_ge (tgt := 82) hx hb dX13_measure_59 (by decide) (fun c_ => ?_) (fun c_ => ?_)
              · skip
                have b_ := zT_ge rfl rfl c_
                refine lv_iconst (v := 0) hx hb dX13_measure_82 (by decide) ?_
                refine lv_istore_n (lv' := [(2, .int 0), (0, .ref h0), (1, .int (u32_ 0))]) hx hb dX13_measure_83 rfl hl (by decide) rfl (fun ls hl => ?_)
                refine zcutL (fun u84_ => (1024 - (u84_ 0).toInt).toNat) (fun H locs ls u84_ w84_ a84_ b84_ => va_P (dC, dI) vwCl [(h0, .inr (13, mX13 q0 v0)), ((q0 25), zi k17 400 (a84_ 0)), ((q0 26), zi k18 400 (a32_ 1)), ((q0 5), zi k4 122880 f4), ((q0 7), zi k6 120 f6), ((q0 28), zi k20 400 (a84_ 2)), ((q0 27), zi k19 400 (a84_ 1))] H ∧ va_D A [(h0, .inr (13, mX13 q0 v0)), ((q0 25), zi k17 400 (a84_ 0)), ((q0 26), zi k18 400 (a32_ 1)), ((q0 5), zi k4 122880 f4), ((q0 7), zi k6 120 f6), ((q0 28), zi k20 400 (a84_ 2)), ((q0 27), zi k19 400 (a84_ 1))] ∧ va_S A s.heap H locs ∧ lv_has ls 4 [(0, .ref h0), (1, .int (u32_ 0)), (2, .int (u84_ 0))] ∧ zA (-1) 1023 (a84_ 1) ∧ (0 ≤ (u84_ 0).toInt ∧ (u84_ 0).toInt ≤ 1024) ∧ (zM3 (a84_ 2) (a84_ 1) (a84_ 0) f4 f6 (v0 4).toInt (u32_ 0).toInt (u84_ 0).toInt) ∧ ((u84_ 0).toInt ≤ 1024)) (fun ls u84_ w84_ => F0 m 84 ls []) 0 0 ?_ (fun hJ84 => ?_)
                · skip
                  intro H locs ls u84_ w84_ a84_ b84_ hc hJ84
                  obtain ⟨hP, hD, hS, hl, ha84_1, b_, hI84_0, b_⟩ := hc
                  refine lv_iload_n hx hb dX13_measure_84 rfl (lv_at hl 2 rfl) ?_
                  refine lv_sipush (v := 1024) hx hb dX13_measure_85 (by decide) ?_
                  refine lv_icmp_ge (tgt := 156) hx hb dX13_measure_88 (by decide) (fun c_ => ?_) (fun c_ => ?_)
                  · skip
                    have b_ := zT_ge rfl zk_1024 c_
                    refine lv_iconst (v := 0) hx hb dX13_measure_156 (by decide) ?_
                    refine lv_istore_n (lv' := [(2, .int 0), (0, .ref h0), (1, .int (u32_ 0))]) hx hb dX13_measure_157 rfl hl (by decide) rfl (fun ls hl => ?_)
                    refine zcutL (fun u158_ => (400 - (u158_ 0).toInt).toNat) (fun H locs ls u158_ w158_ a158_ b158_ => va_P (dC, dI) vwCl [(h0, .inr (13, mX13 q0 v0)), ((q0 25), zi k17 400 (a158_ 0)), ((q0 26), zi k18 400 (a158_ 1)), ((q0 5), zi k4 122880 f4), ((q0 7), zi k6 120 f6), ((q0 28), zi k20 400 (a84_ 2)), ((q0 27), zi k19 400 (a84_ 1))] H ∧ va_D A [(h0, .inr (13, mX13 q0 v0)), ((q0 25), zi k17 400 (a158_ 0)), ((q0 26), zi k18 400 (a158_ 1)), ((q0 5), zi k4 122880 f4), ((q0 7), zi k6 120 f6), ((q0 28), zi k20 400 (a84_ 2)), ((q0 27), zi k19 400 (a84_ 1))] ∧ va_S A s.heap H locs ∧ lv_has ls 4 [(0, .ref h0), (1, .int (u32_ 0)), (2, .int (u158_ 0))] ∧ zA (-1) 119 (a158_ 1) ∧ (0 ≤ (u158_ 0).toInt ∧ (u158_ 0).toInt ≤ 400) ∧ (zM4 (a84_ 2) (a158_ 0) (a158_ 1) f4 f6 (v0 4).toInt (u32_ 0).toInt (u158_ 0).toInt) ∧ ((u158_ 0).toInt ≤ (v0 4).toInt)) (fun ls u158_ w158_ => F0 m 158 ls []) 0 0 ?_ (fun hJ158 => ?_)
                    · skip
                      intro H locs ls u158_ w158_ a158_ b158_ hc hJ158
                      obtain ⟨hP, hD, hS, hl, ha158_1, b_, hI158_0, b_⟩ := hc
                      refine lv_iload_n hx hb dX13_measure_158 rfl (lv_at hl 2 rfl) ?_
                      refine lv_aload_n hx hb dX13_measure_159 rfl (lv_at hl 0 rfl) ?_
                      refine va_get (D := (dC, dI)) (ci := 13) (v := .int (v0 4)) (C := RX13) (T := TX13) (N := 75) hx hb hG zuX13 hown hK hP 0 rfl rfl 4 (by decide) (hG _ zv1608) (fun _ h9 => h9) rfl dX13_measure_160 ?_
                      refine lv_icmp_ge (tgt := 221) hx hb dX13_measure_163 (by decide) (fun c_ => ?_) (fun c_ => ?_)
                      · skip
                        have b_ := zT_ge rfl rfl c_
                        obtain ⟨z221, e_z221⟩ : ∃ z : Int32, z = (u32_ 0) + Int32.ofInt 1 := ⟨_, rfl⟩
                        have b_ := zadd (x := (u32_ 0)) (y := Int32.ofInt 1) rfl (show (Int32.ofInt 1).toInt = 1 from by decide) e_z221 (by omega) (by omega)
                        refine lv_iinc (v := z221) (lv' := [(1, .int z221), (0, .ref h0), (2, .int (u158_ 0))]) hx hb dX13_measure_221 hl (k := 1) rfl e_z221.symm (by decide) rfl (fun ls hl => ?_)
                        have hm1 : zM1 (a158_ 0) (a158_ 1) f4 f6 (v0 4).toInt z221.toInt := zM1_s hI158_0 (by omega) (by omega) (by omega)
                        refine lv_goto (tgt := 32) hx hb dX13_measure_224 (by decide) ?_
                        have hc : va_P (dC, dI) vwCl [(h0, .inr (13, mX13 q0 v0)), ((q0 25), zi k17 400 (a158_ 0)), ((q0 26), zi k18 400 (a158_ 1)), ((q0 5), zi k4 122880 f4), ((q0 7), zi k6 120 f6), ((q0 28), zi k20 400 (a84_ 2)), ((q0 27), zi k19 400 (a84_ 1))] H ∧ va_D A [(h0, .inr (13, mX13 q0 v0)), ((q0 25), zi k17 400 (a158_ 0)), ((q0 26), zi k18 400 (a158_ 1)), ((q0 5), zi k4 122880 f4), ((q0 7), zi k6 120 f6), ((q0 28), zi k20 400 (a84_ 2)), ((q0 27), zi k19 400 (a84_ 1))] ∧ va_S A s.heap H locs ∧ lv_has ls 4 [(0, .ref h0), (1, .int z221)] ∧ zA (-1) 119 (a158_ 1) ∧ zA (-1) 1023 (a84_ 1) ∧ (0 ≤ z221.toInt ∧ z221.toInt ≤ 120) ∧ (zM1 (a158_ 0) (a158_ 1) f4 f6 (v0 4).toInt z221.toInt) ∧ (z221.toInt ≤ (v0 13).toInt) := ⟨hP, hD, hS, lv_sub hl [1, 0] rfl, ha158_1, ha84_1, (by first | with_reducible assumption | exact ⟨by omega, by omega⟩), by first | exact hm1 | exact zM1_0 hI2_0 (by omega) (by omega), by omega⟩
                        exact hJ32 H locs ls (fun i => ([z221] : List (Int32)).getD i 0) (fun _ => 0) (fun i => ([(a158_ 0), (a158_ 1), (a84_ 1), (a84_ 2)] : List (Nat → Int32)).getD i (fun _ => 0)) (fun _ => (fun _ => 0)) hc (show (120 - z221.toInt).toNat < (120 - (u32_ 0).toInt).toNat from by omega)
                      · skip
                        have b_ := zF_ge rfl rfl c_
                        refine lv_aload_n hx hb dX13_measure_166 rfl (lv_at hl 0 rfl) ?_
                        refine va_get (D := (dC, dI)) (ci := 13) (v := .ref (q0 28)) (C := RX13) (T := TX13) (N := 75) hx hb hG zuX13 hown hK hP 0 rfl rfl 28 (by decide) (hG _ zv1632) (fun _ h9 => h9) rfl dX13_measure_167 ?_
                        refine lv_iload_n hx hb dX13_measure_170 rfl (lv_at hl 2 rfl) ?_
                        refine va_iald hx hb hK hP 5 4 rfl rfl (zin_lit ⟨by omega, by omega⟩) dX13_measure_171 ?_
                        refine lv_topi (fun z171 e_z171 => ?_)
                        have b_ : -2147483648 ≤ z171.toInt ∧ z171.toInt ≤ 2147483647 := ⟨zlo _, zhi _⟩
                        refine lv_if_ne (tgt := 178) hx hb dX13_measure_172 (by decide) (fun c_ => ?_) (fun c_ => ?_)
                        · skip
                          have b_ := zT_ne rfl zk_0 c_
                          refine lv_aload_n hx hb dX13_measure_178 rfl (lv_at hl 0 rfl) ?_
                          refine va_get (D := (dC, dI)) (ci := 13) (v := .ref (q0 25)) (C := RX13) (T := TX13) (N := 75) hx hb hG zuX13 hown hK hP 0 rfl rfl 25 (by decide) (hG _ zv1629) (fun _ h9 => h9) rfl dX13_measure_179 ?_
                          refine lv_iload_n hx hb dX13_measure_182 rfl (lv_at hl 2 rfl) ?_
                          refine lv_dup2_11 hx hb dX13_measure_183 rfl rfl ?_
                          refine va_iald hx hb hK hP 1 0 rfl rfl (zin_lit ⟨by omega, by omega⟩) dX13_measure_184 ?_
                          refine lv_topi (fun z184 e_z184 => ?_)
                          refine lv_iload_n hx hb dX13_measure_185 rfl (lv_at hl 1 rfl) ?_
                          refine lv_aload_n hx hb dX13_measure_186 rfl (lv_at hl 0 rfl) ?_
                          refine va_get (D := (dC, dI)) (ci := 13) (v := .ref (q0 26)) (C := RX13) (T := TX13) (N := 75) hx hb hG zuX13 hown hK hP 0 rfl rfl 26 (by decide) (hG _ zv1630) (fun _ h9 => h9) rfl dX13_measure_187 ?_
                          refine lv_iload_n hx hb dX13_measure_190 rfl (lv_at hl 2 rfl) ?_
                          refine va_iald hx hb hK hP 2 1 rfl rfl (zin_lit ⟨by omega, by omega⟩) dX13_measure_191 ?_
                          refine lv_topi (fun z191 e_z191 => ?_)
                          have b_ : (-1) ≤ z191.toInt ∧ z191.toInt ≤ 119 := by rw [e_z191]; exact ha158_1 _
                          refine lv_isub hx hb dX13_measure_192 ?_
                          refine lv_topi (fun z192 e_z192 => ?_)
                          have b_ := zsub rfl rfl e_z192 (by omega) (by omega)
                          have hPc := hP.sub (ws' := []) [] rfl
                          have hDc := hD.sub (ws' := []) [] (by decide) rfl
                          have hKc := hK.sub (tys' := []) [] rfl
                          have hFc := va_free (wc := []) hD hS hA [] rfl
                          refine va_calli (va_runS (As := [.int z192]) (rest := [.int z184, .int (u158_ 0), .ref (q0 25)]) ⟨hx, hb, hml, hown, hG⟩ (sX13_gamma_0 l dC dI adK adV H.size z192) (va_cwS 1 hG (zgS zv1906 zv1907 zv142 zv1908) rfl rfl rfl (by decide +kernel) ⟨Nat.le_of_ble_eq_true rfl, Nat.le_of_ble_eq_true rfl⟩) ⟨zPc_blind, zPc_pre hPc hKc hDc hE hS hFc hZ⟩ rfl rfl hl.1 rfl (lv_room (Nat.le_of_ble_eq_true rfl)) dX13_measure_193 ⟨Nat.le_of_ble_eq_true rfl, Nat.le_of_ble_eq_true rfl⟩) hS (fun q _ h => hFc q h) hFc (fun r193_ u193_ t H1 locs ht hvm hw hB hz1 hk1 hS => ?_)
                          replace hw : ((-1) ≤ r193_.toInt ∧ r193_.toInt ≤ 61) ∧ (r193_.toInt = zgam z192.toInt) := hw
                          obtain ⟨b_, hX193_0⟩ := hw
                          obtain ⟨w193_, a193_, b193_, hP1, hK1, hD1⟩ := hB
                          rw [ht] at hP1
                          obtain ⟨hP, hD⟩ := va_join (wr := [(h0, .inr (13, mX13 q0 v0)), ((q0 25), zi k17 400 (a158_ 0)), ((q0 26), zi k18 400 (a158_ 1)), ((q0 5), zi k4 122880 f4), ((q0 7), zi k6 120 f6), ((q0 28), zi k20 400 (a84_ 2)), ((q0 27), zi k19 400 (a84_ 1))]) (w1 := []) hP hD [] [0, 1, 2, 3, 4, 5, 6] rfl rfl (by decide) (by decide) hk1 hFc hP1 hD1
                          have hP : va_P (dC, dI) vwCl [(h0, .inr (13, mX13 q0 v0)), ((q0 25), zi k17 400 (a158_ 0)), ((q0 26), zi k18 400 (a158_ 1)), ((q0 5), zi k4 122880 f4), ((q0 7), zi k6 120 f6), ((q0 28), zi k20 400 (a84_ 2)), ((q0 27), zi k19 400 (a84_ 1))] H1 := hP.sub [0, 1, 2, 3, 4, 5, 6] rfl
                          have hD : va_D A [(h0, .inr (13, mX13 q0 v0)), ((q0 25), zi k17 400 (a158_ 0)), ((q0 26), zi k18 400 (a158_ 1)), ((q0 5), zi k4 122880 f4), ((q0 7), zi k6 120 f6), ((q0 28), zi k20 400 (a84_ 2)), ((q0 27), zi k19 400 (a84_ 1))] := hD.sub [0, 1, 2, 3, 4, 5, 6] (by decide) rfl
                          generalize H1 = H at hP hS ⊢
                          clear hz1
                          refine lv_aload_n hx hb dX13_measure_196 rfl (lv_at hl 0 rfl) ?_
                          refine va_get (D := (dC, dI)) (ci := 13) (v := .ref (q0 28)) (C := RX13) (T := TX13) (N := 75) hx hb hG zuX13 hown hK hP 0 rfl rfl 28 (by decide) (hG _ zv1632) (fun _ h9 => h9) rfl dX13_measure_197 ?_
                          refine lv_iload_n hx hb dX13_measure_200 rfl (lv_at hl 2 rfl) ?_
                          refine va_iald hx hb hK hP 5 4 rfl rfl (zin_lit ⟨by omega, by omega⟩) dX13_measure_201 ?_
                          refine lv_topi (fun z201 e_z201 => ?_)
                          have hPc := hP.sub (ws' := []) [] rfl
                          have hDc := hD.sub (ws' := []) [] (by decide) rfl
                          have hKc := hK.sub (tys' := []) [] rfl
                          have hFc := va_free (wc := []) hD hS hA [] rfl
                          refine va_calli (va_runS (As := [.int z201]) (rest := [.int r193_, .int z184, .int (u158_ 0), .ref (q0 25)]) ⟨hx, hb, hml, hown, hG⟩ (sX13_gamma_0 l dC dI adK adV H.size z201) (va_cwS 1 hG (zgS zv1906 zv1907 zv142 zv1908) rfl rfl rfl (by decide +kernel) ⟨Nat.le_of_ble_eq_true rfl, Nat.le_of_ble_eq_true rfl⟩) ⟨zPc_blind, zPc_pre hPc hKc hDc hE hS hFc hZ⟩ rfl rfl hl.1 rfl (lv_room (Nat.le_of_ble_eq_true rfl)) dX13_measure_202 ⟨Nat.le_of_ble_eq_true rfl, Nat.le_of_ble_eq_true rfl⟩) hS (fun q _ h => hFc q h) hFc (fun r202_ u202_ t H1 locs ht hvm hw hB hz1 hk1 hS => ?_)
                          replace hw : ((-1) ≤ r202_.toInt ∧ r202_.toInt ≤ 61) ∧ (r202_.toInt = zgam z201.toInt) := hw
                          obtain ⟨b_, hX202_0⟩ := hw
                          obtain ⟨w202_, a202_, b202_, hP1, hK1, hD1⟩ := hB
                          rw [ht] at hP1
                          obtain ⟨hP, hD⟩ := va_join (wr := [(h0, .inr (13, mX13 q0 v0)), ((q0 25), zi k17 400 (a158_ 0)), ((q0 26), zi k18 400 (a158_ 1)), ((q0 5), zi k4 122880 f4), ((q0 7), zi k6 120 f6), ((q0 28), zi k20 400 (a84_ 2)), ((q0 27), zi k19 400 (a84_ 1))]) (w1 := []) hP hD [] [0, 1, 2, 3, 4, 5, 6] rfl rfl (by decide) (by decide) hk1 hFc hP1 hD1
                          have hP : va_P (dC, dI) vwCl [(h0, .inr (13, mX13 q0 v0)), ((q0 25), zi k17 400 (a158_ 0)), ((q0 26), zi k18 400 (a158_ 1)), ((q0 5), zi k4 122880 f4), ((q0 7), zi k6 120 f6), ((q0 28), zi k20 400 (a84_ 2)), ((q0 27), zi k19 400 (a84_ 1))] H1 := hP.sub [0, 1, 2, 3, 4, 5, 6] rfl
                          have hD : va_D A [(h0, .inr (13, mX13 q0 v0)), ((q0 25), zi k17 400 (a158_ 0)), ((q0 26), zi k18 400 (a158_ 1)), ((q0 5), zi k4 122880 f4), ((q0 7), zi k6 120 f6), ((q0 28), zi k20 400 (a84_ 2)), ((q0 27), zi k19 400 (a84_ 1))] := hD.sub [0, 1, 2, 3, 4, 5, 6] (by decide) rfl
                          generalize H1 = H at hP hS ⊢
                          clear hz1
                          refine lv_iadd hx hb dX13_measure_205 ?_
                          refine lv_topi (fun z205 e_z205 => ?_)
                          have b_ := zadd rfl rfl e_z205 (by omega) (by omega)
                          have b_ : -2147483648 ≤ z184.toInt ∧ z184.toInt ≤ 2147483647 := ⟨zlo _, zhi _⟩
                          refine lv_iadd hx hb dX13_measure_206 ?_
                          refine lv_topi (fun z206 e_z206 => ?_)
                          refine va_iast hx hb hK hP hD hS 1 0 rfl rfl (zin_lit ⟨by omega, by omega⟩) dX13_measure_207 (fun H locs hP hD hS => ?_)
                          obtain ⟨f_207, e_f_207⟩ : ∃ z : Nat → Int32, z = upd (a158_ 0) ((u158_ 0) : Int32).toNatClampNeg z206 := ⟨_, rfl⟩
                          have hP : va_P (dC, dI) vwCl [(h0, .inr (13, mX13 q0 v0)), ((q0 25), zi k17 400 f_207), ((q0 26), zi k18 400 (a158_ 1)), ((q0 5), zi k4 122880 f4), ((q0 7), zi k6 120 f6), ((q0 28), zi k20 400 (a84_ 2)), ((q0 27), zi k19 400 (a84_ 1))] H := by rw [e_f_207]; exact hP
                          have hD : va_D A [(h0, .inr (13, mX13 q0 v0)), ((q0 25), zi k17 400 f_207), ((q0 26), zi k18 400 (a158_ 1)), ((q0 5), zi k4 122880 f4), ((q0 7), zi k6 120 f6), ((q0 28), zi k20 400 (a84_ 2)), ((q0 27), zi k19 400 (a84_ 1))] := by rw [e_f_207]; exact hD
                          refine lv_aload_n hx hb dX13_measure_208 rfl (lv_at hl 0 rfl) ?_
                          refine va_get (D := (dC, dI)) (ci := 13) (v := .ref (q0 26)) (C := RX13) (T := TX13) (N := 75) hx hb hG zuX13 hown hK hP 0 rfl rfl 26 (by decide) (hG _ zv1630) (fun _ h9 => h9) rfl dX13_measure_209 ?_
                          refine lv_iload_n hx hb dX13_measure_212 rfl (lv_at hl 2 rfl) ?_
                          refine lv_iload_n hx hb dX13_measure_213 rfl (lv_at hl 1 rfl) ?_
                          refine va_iast hx hb hK hP hD hS 2 1 rfl rfl (zin_lit ⟨by omega, by omega⟩) dX13_measure_214 (fun H locs hP hD hS => ?_)
                          obtain ⟨f_214, e_f_214⟩ : ∃ z : Nat → Int32, z = upd (a158_ 1) ((u158_ 0) : Int32).toNatClampNeg (u32_ 0) := ⟨_, rfl⟩
                          have hP : va_P (dC, dI) vwCl [(h0, .inr (13, mX13 q0 v0)), ((q0 25), zi k17 400 f_207), ((q0 26), zi k18 400 f_214), ((q0 5), zi k4 122880 f4), ((q0 7), zi k6 120 f6), ((q0 28), zi k20 400 (a84_ 2)), ((q0 27), zi k19 400 (a84_ 1))] H := by rw [e_f_214]; exact hP
                          have hD : va_D A [(h0, .inr (13, mX13 q0 v0)), ((q0 25), zi k17 400 f_207), ((q0 26), zi k18 400 f_214), ((q0 5), zi k4 122880 f4), ((q0 7), zi k6 120 f6), ((q0 28), zi k20 400 (a84_ 2)), ((q0 27), zi k19 400 (a84_ 1))] := by rw [e_f_214]; exact hD
                          have hf_214 : zA (-1) 119 f_214 := by rw [e_f_214]; exact zA_upd ha158_1 (show (-1) ≤ ((u32_ 0) : Int32).toInt from by omega) (show ((u32_ 0) : Int32).toInt ≤ 119 from by omega)
                          obtain ⟨z215, e_z215⟩ : ∃ z : Int32, z = (u158_ 0) + Int32.ofInt 1 := ⟨_, rfl⟩
                          have b_ := zadd (x := (u158_ 0)) (y := Int32.ofInt 1) rfl (show (Int32.ofInt 1).toInt = 1 from by decide) e_z215 (by omega) (by omega)
                          refine lv_iinc (v := z215) (lv' := [(2, .int z215), (0, .ref h0), (1, .int (u32_ 0))]) hx hb dX13_measure_215 hl (k := 2) rfl e_z215.symm (by decide) rfl (fun ls hl => ?_)
                          have hg4 := zM4_g (i := (u158_ 0)) hI158_0 (by omega) (by omega) rfl (by omega) (by omega)
                          rw [← e_z184, ← e_z191, ← e_z201] at hg4
                          have q1 := zgam_21 (x := z192.toInt) (by omega) (by omega)
                          have q2 := zgam_1 (x := z192.toInt) (by omega)
                          have e7 : z201.toInt = z171.toInt := congrArg Int32.toInt (e_z201.trans e_z171.symm)
                          have q3 := zgam_21 (x := z201.toInt) (by omega) (by omega)
                          have q4 := zgam_1 (x := z201.toInt) (by omega)
                          have b_ := zadd hX193_0 hX202_0 e_z205 (by omega) (by omega)
                          have b_ := zadd (x := z184) (y := z205) rfl rfl e_z206 (by omega) (by omega)
                          have hm4 : zM4 (a84_ 2) f_207 f_214 f4 f6 (v0 4).toInt (u32_ 0).toInt z215.toInt := by rw [e_f_207, e_f_214]; exact zM4_y (i := (u158_ 0)) hI158_0 (by omega) (by omega) (by rw [hke]; omega) rfl (by omega) (by rw [← e_z171]; omega) (by rw [← e_z184, ← e_z191, ← e_z201, show (u32_ 0).toInt - z191.toInt = z192.toInt from by omega]; omega) rfl (by omega)
                          refine lv_goto (tgt := 158) hx hb dX13_measure_218 (by decide) ?_
                          have hc : va_P (dC, dI) vwCl [(h0, .inr (13, mX13 q0 v0)), ((q0 25), zi k17 400 f_207), ((q0 26), zi k18 400 f_214), ((q0 5), zi k4 122880 f4), ((q0 7), zi k6 120 f6), ((q0 28), zi k20 400 (a84_ 2)), ((q0 27), zi k19 400 (a84_ 1))] H ∧ va_D A [(h0, .inr (13, mX13 q0 v0)), ((q0 25), zi k17 400 f_207), ((q0 26), zi k18 400 f_214), ((q0 5), zi k4 122880 f4), ((q0 7), zi k6 120 f6), ((q0 28), zi k20 400 (a84_ 2)), ((q0 27), zi k19 400 (a84_ 1))] ∧ va_S A s.heap H locs ∧ lv_has ls 4 [(0, .ref h0), (1, .int (u32_ 0)), (2, .int z215)] ∧ zA (-1) 119 f_214 ∧ (0 ≤ z215.toInt ∧ z215.toInt ≤ 400) ∧ (zM4 (a84_ 2) f_207 f_214 f4 f6 (v0 4).toInt (u32_ 0).toInt z215.toInt) ∧ (z215.toInt ≤ (v0 4).toInt) := ⟨hP, hD, hS, lv_sub hl [1, 2, 0] rfl, hf_214, (by first | with_reducible assumption | exact ⟨by omega, by omega⟩), by first | exact hm4 | exact zM4_0 hI84_0 (by omega) hI32_0 (by omega), by omega⟩
                          exact hJ158 H locs ls (fun i => ([z215] : List (Int32)).getD i 0) (fun _ => 0) (fun i => ([f_207, f_214] : List (Nat → Int32)).getD i (fun _ => 0)) (fun _ => (fun _ => 0)) hc (show (400 - z215.toInt).toNat < (400 - (u158_ 0).toInt).toNat from by omega)
                        · skip
                          have b_ := zF_ne rfl zk_0 c_
                          refine lv_goto (tgt := 215) hx hb dX13_measure_175 (by decide) ?_
                          obtain ⟨z215, e_z215⟩ : ∃ z : Int32, z = (u158_ 0) + Int32.ofInt 1 := ⟨_, rfl⟩
                          have b_ := zadd (x := (u158_ 0)) (y := Int32.ofInt 1) rfl (show (Int32.ofInt 1).toInt = 1 from by decide) e_z215 (by omega) (by omega)
                          refine lv_iinc (v := z215) (lv' := [(2, .int z215), (0, .ref h0), (1, .int (u32_ 0))]) hx hb dX13_measure_215 hl (k := 2) rfl e_z215.symm (by decide) rfl (fun ls hl => ?_)
                          have hm4 : zM4 (a84_ 2) (a158_ 0) (a158_ 1) f4 f6 (v0 4).toInt (u32_ 0).toInt z215.toInt := zM4_n (i := (u158_ 0)) hI158_0 (by omega) (by omega) (by rw [hke]; omega) rfl (by rw [← e_z171]; omega) (by omega)
                          refine lv_goto (tgt := 158) hx hb dX13_measure_218 (by decide) ?_
                          have hc : va_P (dC, dI) vwCl [(h0, .inr (13, mX13 q0 v0)), ((q0 25), zi k17 400 (a158_ 0)), ((q0 26), zi k18 400 (a158_ 1)), ((q0 5), zi k4 122880 f4), ((q0 7), zi k6 120 f6), ((q0 28), zi k20 400 (a84_ 2)), ((q0 27), zi k19 400 (a84_ 1))] H ∧ va_D A [(h0, .inr (13, mX13 q0 v0)), ((q0 25), zi k17 400 (a158_ 0)), ((q0 26), zi k18 400 (a158_ 1)), ((q0 5), zi k4 122880 f4), ((q0 7), zi k6 120 f6), ((q0 28), zi k20 400 (a84_ 2)), ((q0 27), zi k19 400 (a84_ 1))] ∧ va_S A s.heap H locs ∧ lv_has ls 4 [(0, .ref h0), (1, .int (u32_ 0)), (2, .int z215)] ∧ zA (-1) 119 (a158_ 1) ∧ (0 ≤ z215.toInt ∧ z215.toInt ≤ 400) ∧ (zM4 (a84_ 2) (a158_ 0) (a158_ 1) f4 f6 (v0 4).toInt (u32_ 0).toInt z215.toInt) ∧ (z215.toInt ≤ (v0 4).toInt) := ⟨hP, hD, hS, lv_sub hl [1, 2, 0] rfl, ha158_1, (by first | with_reducible assumption | exact ⟨by omega, by omega⟩), by first | exact hm4 | exact zM4_0 hI84_0 (by omega) hI32_0 (by omega), by omega⟩
                          exact hJ158 H locs ls (fun i => ([z215] : List (Int32)).getD i 0) (fun _ => 0) (fun i => ([(a158_ 0), (a158_ 1)] : List (Nat → Int32)).getD i (fun _ => 0)) (fun _ => (fun _ => 0)) hc (show (400 - z215.toInt).toNat < (400 - (u158_ 0).toInt).toNat from by omega)
                    · skip
                      have hc : va_P (dC, dI) vwCl [(h0, .inr (13, mX13 q0 v0)), ((q0 25), zi k17 400 (a84_ 0)), ((q0 26), zi k18 400 (a32_ 1)), ((q0 5), zi k4 122880 f4), ((q0 7), zi k6 120 f6), ((q0 28), zi k20 400 (a84_ 2)), ((q0 27), zi k19 400 (a84_ 1))] H ∧ va_D A [(h0, .inr (13, mX13 q0 v0)), ((q0 25), zi k17 400 (a84_ 0)), ((q0 26), zi k18 400 (a32_ 1)), ((q0 5), zi k4 122880 f4), ((q0 7), zi k6 120 f6), ((q0 28), zi k20 400 (a84_ 2)), ((q0 27), zi k19 400 (a84_ 1))] ∧ va_S A s.heap H locs ∧ lv_has ls 4 [(0, .ref h0), (1, .int (u32_ 0)), (2, .int 0)] ∧ zA (-1) 119 (a32_ 1) ∧ (0 ≤ (0 : Int32).toInt ∧ (0 : Int32).toInt ≤ 400) ∧ (zM4 (a84_ 2) (a84_ 0) (a32_ 1) f4 f6 (v0 4).toInt (u32_ 0).toInt (0 : Int32).toInt) ∧ ((0 : Int32).toInt ≤ (v0 4).toInt) := ⟨hP, hD, hS, lv_sub hl [1, 2, 0] rfl, ha32_1, (by first | with_reducible assumption | exact ⟨by omega, by omega⟩), by first | exact hm4 | exact zM4_0 hI84_0 (by omega) hI32_0 (by omega), by omega⟩
                      exact hJ158 H locs ls (fun i => ([0] : List (Int32)).getD i 0) (fun _ => 0) (fun i => ([(a84_ 0), (a32_ 1)] : List (Nat → Int32)).getD i (fun _ => 0)) (fun _ => (fun _ => 0)) hc
                  · skip
                    have b_ := zF_ge rfl zk_1024 c_
                    refine lv_aload_n hx hb dX13_measure_91 rfl (lv_at hl 0 rfl) ?_
                    refine va_get (D := (dC, dI)) (ci := 13) (v := .ref (q0 5)) (C := RX13) (T := TX13) (N := 75) hx hb hG zuX13 hown hK hP 0 rfl rfl 5 (by decide) (hG _ zv1609) (fun _ h9 => h9) rfl dX13_measure_92 ?_
                    refine lv_sipush (v := 1024) hx hb dX13_measure_95 (by decide) ?_
                    refine lv_iload_n hx hb dX13_measure_98 rfl (lv_at hl 1 rfl) ?_
                    refine lv_imul hx hb dX13_measure_99 ?_
                    refine lv_topi (fun z99 e_z99 => ?_)
                    have b_ := zmul zk_1024 rfl e_z99 (by omega) (by omega)
                    refine lv_iload_n hx hb dX13_measure_100 rfl (lv_at hl 2 rfl) ?_
                    refine lv_iadd hx hb dX13_measure_101 ?_
                    refine lv_topi (fun z101 e_z101 => ?_)
                    have b_ := zadd rfl rfl e_z101 (by omega) (by omega)
                    refine va_sald hx hb hK hP 3 2 rfl rfl (zin_lit ⟨by omega, by omega⟩) dX13_measure_102 ?_
                    refine lv_topi (fun z102 e_z102 => ?_)
                    have b_ : 0 ≤ z102.toInt ∧ z102.toInt ≤ 400 := by rw [e_z102]; exact hf4 _
                    have hat : (f4 (1024 * (u32_ 0).toInt + (u84_ 0).toInt).toNat).toInt = z102.toInt := congrArg Int32.toInt ((e_z102.trans (zix (by omega))).symm)
                    refine lv_iconst (v := 1) hx hb dX13_measure_103 (by decide) ?_
                    refine lv_isub hx hb dX13_measure_104 ?_
                    refine lv_topi (fun z104 e_z104 => ?_)
                    have b_ := zsub rfl zk_1 e_z104 (by omega) (by omega)
                    refine lv_istore_n (lv' := [(3, .int z104), (0, .ref h0), (1, .int (u32_ 0)), (2, .int (u84_ 0))]) hx hb dX13_measure_105 rfl hl (by decide) rfl (fun ls hl => ?_)
                    refine lv_iload_n hx hb dX13_measure_106 rfl (lv_at hl 0 rfl) ?_
                    refine lv_if_ge (tgt := 113) hx hb dX13_measure_107 (by decide) (fun c_ => ?_) (fun c_ => ?_)
                    · skip
                      have b_ := zT_ge rfl zk_0 c_
                      refine lv_aload_n hx hb dX13_measure_113 rfl (lv_at hl 1 rfl) ?_
                      refine va_get (D := (dC, dI)) (ci := 13) (v := .ref (q0 28)) (C := RX13) (T := TX13) (N := 75) hx hb hG zuX13 hown hK hP 0 rfl rfl 28 (by decide) (hG _ zv1632) (fun _ h9 => h9) rfl dX13_measure_114 ?_
                      refine lv_iload_n hx hb dX13_measure_117 rfl (lv_at hl 0 rfl) ?_
                      refine lv_dup2_11 hx hb dX13_measure_118 rfl rfl ?_
                      refine va_iald hx hb hK hP 5 4 rfl rfl (zin_lit ⟨by omega, by omega⟩) dX13_measure_119 ?_
                      refine lv_topi (fun z119 e_z119 => ?_)
                      refine lv_iconst (v := 1) hx hb dX13_measure_120 (by decide) ?_
                      have b_ : -2147483648 ≤ z119.toInt ∧ z119.toInt ≤ 2147483647 := ⟨zlo _, zhi _⟩
                      refine lv_iadd hx hb dX13_measure_121 ?_
                      refine lv_topi (fun z121 e_z121 => ?_)
                      refine va_iast hx hb hK hP hD hS 5 4 rfl rfl (zin_lit ⟨by omega, by omega⟩) dX13_measure_122 (fun H locs hP hD hS => ?_)
                      obtain ⟨f_122, e_f_122⟩ : ∃ z : Nat → Int32, z = upd (a84_ 2) (z104 : Int32).toNatClampNeg z121 := ⟨_, rfl⟩
                      have hP : va_P (dC, dI) vwCl [(h0, .inr (13, mX13 q0 v0)), ((q0 25), zi k17 400 (a84_ 0)), ((q0 26), zi k18 400 (a32_ 1)), ((q0 5), zi k4 122880 f4), ((q0 7), zi k6 120 f6), ((q0 28), zi k20 400 f_122), ((q0 27), zi k19 400 (a84_ 1))] H := by rw [e_f_122]; exact hP
                      have hD : va_D A [(h0, .inr (13, mX13 q0 v0)), ((q0 25), zi k17 400 (a84_ 0)), ((q0 26), zi k18 400 (a32_ 1)), ((q0 5), zi k4 122880 f4), ((q0 7), zi k6 120 f6), ((q0 28), zi k20 400 f_122), ((q0 27), zi k19 400 (a84_ 1))] := by rw [e_f_122]; exact hD
                      refine lv_aload_n hx hb dX13_measure_123 rfl (lv_at hl 1 rfl) ?_
                      refine va_get (D := (dC, dI)) (ci := 13) (v := .ref (q0 25)) (C := RX13) (T := TX13) (N := 75) hx hb hG zuX13 hown hK hP 0 rfl rfl 25 (by decide) (hG _ zv1629) (fun _ h9 => h9) rfl dX13_measure_124 ?_
                      refine lv_iload_n hx hb dX13_measure_127 rfl (lv_at hl 0 rfl) ?_
                      refine lv_dup2_11 hx hb dX13_measure_128 rfl rfl ?_
                      refine va_iald hx hb hK hP 1 0 rfl rfl (zin_lit ⟨by omega, by omega⟩) dX13_measure_129 ?_
                      refine lv_topi (fun z129 e_z129 => ?_)
                      refine lv_iload_n hx hb dX13_measure_130 rfl (lv_at hl 3 rfl) ?_
                      refine lv_aload_n hx hb dX13_measure_131 rfl (lv_at hl 1 rfl) ?_
                      refine va_get (D := (dC, dI)) (ci := 13) (v := .ref (q0 27)) (C := RX13) (T := TX13) (N := 75) hx hb hG zuX13 hown hK hP 0 rfl rfl 27 (by decide) (hG _ zv1631) (fun _ h9 => h9) rfl dX13_measure_132 ?_
                      refine lv_iload_n hx hb dX13_measure_135 rfl (lv_at hl 0 rfl) ?_
                      refine va_iald hx hb hK hP 6 5 rfl rfl (zin_lit ⟨by omega, by omega⟩) dX13_measure_136 ?_
                      refine lv_topi (fun z136 e_z136 => ?_)
                      have b_ : (-1) ≤ z136.toInt ∧ z136.toInt ≤ 1023 := by rw [e_z136]; exact ha84_1 _
                      refine lv_isub hx hb dX13_measure_137 ?_
                      refine lv_topi (fun z137 e_z137 => ?_)
                      have b_ := zsub rfl rfl e_z137 (by omega) (by omega)
                      have hPc := hP.sub (ws' := []) [] rfl
                      have hDc := hD.sub (ws' := []) [] (by decide) rfl
                      have hKc := hK.sub (tys' := []) [] rfl
                      have hFc := va_free (wc := []) hD hS hA [] rfl
                      refine va_calli (va_runS (As := [.int z137]) (rest := [.int z129, .int z104, .ref (q0 25)]) ⟨hx, hb, hml, hown, hG⟩ (sX13_gamma_0 l dC dI adK adV H.size z137) (va_cwS 1 hG (zgS zv1906 zv1907 zv142 zv1908) rfl rfl rfl (by decide +kernel) ⟨Nat.le_of_ble_eq_true rfl, Nat.le_of_ble_eq_true rfl⟩) ⟨zPc_blind, zPc_pre hPc hKc hDc hE hS hFc hZ⟩ rfl rfl hl.1 rfl (lv_room (Nat.le_of_ble_eq_true rfl)) dX13_measure_138 ⟨Nat.le_of_ble_eq_true rfl, Nat.le_of_ble_eq_true rfl⟩) hS (fun q _ h => hFc q h) hFc (fun r138_ u138_ t H1 locs ht hvm hw hB hz1 hk1 hS => ?_)
                      replace hw : ((-1) ≤ r138_.toInt ∧ r138_.toInt ≤ 61) ∧ (r138_.toInt = zgam z137.toInt) := hw
                      obtain ⟨b_, hX138_0⟩ := hw
                      obtain ⟨w138_, a138_, b138_, hP1, hK1, hD1⟩ := hB
                      rw [ht] at hP1
                      obtain ⟨hP, hD⟩ := va_join (wr := [(h0, .inr (13, mX13 q0 v0)), ((q0 25), zi k17 400 (a84_ 0)), ((q0 26), zi k18 400 (a32_ 1)), ((q0 5), zi k4 122880 f4), ((q0 7), zi k6 120 f6), ((q0 28), zi k20 400 f_122), ((q0 27), zi k19 400 (a84_ 1))]) (w1 := []) hP hD [] [0, 1, 2, 3, 4, 5, 6] rfl rfl (by decide) (by decide) hk1 hFc hP1 hD1
                      have hP : va_P (dC, dI) vwCl [(h0, .inr (13, mX13 q0 v0)), ((q0 25), zi k17 400 (a84_ 0)), ((q0 26), zi k18 400 (a32_ 1)), ((q0 5), zi k4 122880 f4), ((q0 7), zi k6 120 f6), ((q0 28), zi k20 400 f_122), ((q0 27), zi k19 400 (a84_ 1))] H1 := hP.sub [0, 1, 2, 3, 4, 5, 6] rfl
                      have hD : va_D A [(h0, .inr (13, mX13 q0 v0)), ((q0 25), zi k17 400 (a84_ 0)), ((q0 26), zi k18 400 (a32_ 1)), ((q0 5), zi k4 122880 f4), ((q0 7), zi k6 120 f6), ((q0 28), zi k20 400 f_122), ((q0 27), zi k19 400 (a84_ 1))] := hD.sub [0, 1, 2, 3, 4, 5, 6] (by decide) rfl
                      generalize H1 = H at hP hS ⊢
                      clear hz1
                      have b_ : -2147483648 ≤ z129.toInt ∧ z129.toInt ≤ 2147483647 := ⟨zlo _, zhi _⟩
                      refine lv_iadd hx hb dX13_measure_141 ?_
                      refine lv_topi (fun z141 e_z141 => ?_)
                      refine va_iast hx hb hK hP hD hS 1 0 rfl rfl (zin_lit ⟨by omega, by omega⟩) dX13_measure_142 (fun H locs hP hD hS => ?_)
                      obtain ⟨f_142, e_f_142⟩ : ∃ z : Nat → Int32, z = upd (a84_ 0) (z104 : Int32).toNatClampNeg z141 := ⟨_, rfl⟩
                      have hP : va_P (dC, dI) vwCl [(h0, .inr (13, mX13 q0 v0)), ((q0 25), zi k17 400 f_142), ((q0 26), zi k18 400 (a32_ 1)), ((q0 5), zi k4 122880 f4), ((q0 7), zi k6 120 f6), ((q0 28), zi k20 400 f_122), ((q0 27), zi k19 400 (a84_ 1))] H := by rw [e_f_142]; exact hP
                      have hD : va_D A [(h0, .inr (13, mX13 q0 v0)), ((q0 25), zi k17 400 f_142), ((q0 26), zi k18 400 (a32_ 1)), ((q0 5), zi k4 122880 f4), ((q0 7), zi k6 120 f6), ((q0 28), zi k20 400 f_122), ((q0 27), zi k19 400 (a84_ 1))] := by rw [e_f_142]; exact hD
                      refine lv_aload_n hx hb dX13_measure_143 rfl (lv_at hl 1 rfl) ?_
                      refine va_get (D := (dC, dI)) (ci := 13) (v := .ref (q0 27)) (C := RX13) (T := TX13) (N := 75) hx hb hG zuX13 hown hK hP 0 rfl rfl 27 (by decide) (hG _ zv1631) (fun _ h9 => h9) rfl dX13_measure_144 ?_
                      refine lv_iload_n hx hb dX13_measure_147 rfl (lv_at hl 0 rfl) ?_
                      refine lv_iload_n hx hb dX13_measure_148 rfl (lv_at hl 3 rfl) ?_
                      refine va_iast hx hb hK hP hD hS 6 5 rfl rfl (zin_lit ⟨by omega, by omega⟩) dX13_measure_149 (fun H locs hP hD hS => ?_)
                      obtain ⟨f_149, e_f_149⟩ : ∃ z : Nat → Int32, z = upd (a84_ 1) (z104 : Int32).toNatClampNeg (u84_ 0) := ⟨_, rfl⟩
                      have hP : va_P (dC, dI) vwCl [(h0, .inr (13, mX13 q0 v0)), ((q0 25), zi k17 400 f_142), ((q0 26), zi k18 400 (a32_ 1)), ((q0 5), zi k4 122880 f4), ((q0 7), zi k6 120 f6), ((q0 28), zi k20 400 f_122), ((q0 27), zi k19 400 f_149)] H := by rw [e_f_149]; exact hP
                      have hD : va_D A [(h0, .inr (13, mX13 q0 v0)), ((q0 25), zi k17 400 f_142), ((q0 26), zi k18 400 (a32_ 1)), ((q0 5), zi k4 122880 f4), ((q0 7), zi k6 120 f6), ((q0 28), zi k20 400 f_122), ((q0 27), zi k19 400 f_149)] := by rw [e_f_149]; exact hD
                      have hf_149 : zA (-1) 1023 f_149 := by rw [e_f_149]; exact zA_upd ha84_1 (show (-1) ≤ ((u84_ 0) : Int32).toInt from by omega) (show ((u84_ 0) : Int32).toInt ≤ 1023 from by omega)
                      obtain ⟨z150, e_z150⟩ : ∃ z : Int32, z = (u84_ 0) + Int32.ofInt 1 := ⟨_, rfl⟩
                      have b_ := zadd (x := (u84_ 0)) (y := Int32.ofInt 1) rfl (show (Int32.ofInt 1).toInt = 1 from by decide) e_z150 (by omega) (by omega)
                      refine lv_iinc (v := z150) (lv' := [(2, .int z150), (3, .int z104), (0, .ref h0), (1, .int (u32_ 0))]) hx hb dX13_measure_150 hl (k := 3) rfl e_z150.symm (by decide) rfl (fun ls hl => ?_)
                      have hgg : z104.toInt < (v0 4).toInt → _ := fun h => zM3_g (i := z104) hI84_0 (by omega) h (by omega) (by omega) (by omega) (by omega)
                      have hxx : z104.toInt < (v0 4).toInt → z121.toInt = ((a84_ 2) (z104 : Int32).toNatClampNeg).toInt + 1 := fun h => by have q := hgg h; exact zadd (congrArg Int32.toInt e_z119) zk_1 e_z121 (by omega) (by omega)
                      have hyy : z104.toInt < (v0 4).toInt → z141.toInt = ((a84_ 0) (z104 : Int32).toNatClampNeg).toInt + zgam ((u84_ 0).toInt - ((a84_ 1) (z104 : Int32).toNatClampNeg).toInt) := fun h => by have q := hgg h; have q1 := hX138_0; have q2 := zgam_21 (x := z137.toInt) (by rw [← e_z136] at q; omega) (by omega); have q3 := zgam_1 (x := z137.toInt) (by rw [← e_z136] at q; omega); rw [← e_z136, show (u84_ 0).toInt - z136.toInt = z137.toInt from by omega]; exact zadd (congrArg Int32.toInt e_z129) hX138_0 e_z141 (by omega) (by omega)
                      have hm3 : zM3 f_122 f_149 f_142 f4 f6 (v0 4).toInt (u32_ 0).toInt z150.toInt := by rw [e_f_122, e_f_149, e_f_142]; exact zM3_y hI84_0 (by omega) hat (by omega) (by omega) hxx hyy rfl (by omega)
                      refine lv_goto (tgt := 84) hx hb dX13_measure_153 (by decide) ?_
                      have hc : va_P (dC, dI) vwCl [(h0, .inr (13, mX13 q0 v0)), ((q0 25), zi k17 400 f_142), ((q0 26), zi k18 400 (a32_ 1)), ((q0 5), zi k4 122880 f4), ((q0 7), zi k6 120 f6), ((q0 28), zi k20 400 f_122), ((q0 27), zi k19 400 f_149)] H ∧ va_D A [(h0, .inr (13, mX13 q0 v0)), ((q0 25), zi k17 400 f_142), ((q0 26), zi k18 400 (a32_ 1)), ((q0 5), zi k4 122880 f4), ((q0 7), zi k6 120 f6), ((q0 28), zi k20 400 f_122), ((q0 27), zi k19 400 f_149)] ∧ va_S A s.heap H locs ∧ lv_has ls 4 [(0, .ref h0), (1, .int (u32_ 0)), (2, .int z150)] ∧ zA (-1) 1023 f_149 ∧ (0 ≤ z150.toInt ∧ z150.toInt ≤ 1024) ∧ (zM3 f_122 f_149 f_142 f4 f6 (v0 4).toInt (u32_ 0).toInt z150.toInt) ∧ (z150.toInt ≤ 1024) := ⟨hP, hD, hS, lv_sub hl [2, 3, 0] rfl, hf_149, (by first | with_reducible assumption | exact ⟨by omega, by omega⟩), by first | exact hm3 | exact zM3_0 hI32_0 hI54_0 (by omega) (by omega), by omega⟩
                      exact hJ84 H locs ls (fun i => ([z150] : List (Int32)).getD i 0) (fun _ => 0) (fun i => ([f_142, f_149, f_122] : List (Nat → Int32)).getD i (fun _ => 0)) (fun _ => (fun _ => 0)) hc (show (1024 - z150.toInt).toNat < (1024 - (u84_ 0).toInt).toNat from by omega)
                    · skip
                      have b_ := zF_ge rfl zk_0 c_
                      refine lv_goto (tgt := 150) hx hb dX13_measure_110 (by decide) ?_
                      obtain ⟨z150, e_z150⟩ : ∃ z : Int32, z = (u84_ 0) + Int32.ofInt 1 := ⟨_, rfl⟩
                      have b_ := zadd (x := (u84_ 0)) (y := Int32.ofInt 1) rfl (show (Int32.ofInt 1).toInt = 1 from by decide) e_z150 (by omega) (by omega)
                      refine lv_iinc (v := z150) (lv' := [(2, .int z150), (3, .int z104), (0, .ref h0), (1, .int (u32_ 0))]) hx hb dX13_measure_150 hl (k := 3) rfl e_z150.symm (by decide) rfl (fun ls hl => ?_)
                      have hm3 : zM3 (a84_ 2) (a84_ 1) (a84_ 0) f4 f6 (v0 4).toInt (u32_ 0).toInt z150.toInt := zM3_n hI84_0 (by omega) (by rw [hat]; omega) (by omega)
                      refine lv_goto (tgt := 84) hx hb dX13_measure_153 (by decide) ?_
                      have hc : va_P (dC, dI) vwCl [(h0, .inr (13, mX13 q0 v0)), ((q0 25), zi k17 400 (a84_ 0)), ((q0 26), zi k18 400 (a32_ 1)), ((q0 5), zi k4 122880 f4), ((q0 7), zi k6 120 f6), ((q0 28), zi k20 400 (a84_ 2)), ((q0 27), zi k19 400 (a84_ 1))] H ∧ va_D A [(h0, .inr (13, mX13 q0 v0)), ((q0 25), zi k17 400 (a84_ 0)), ((q0 26), zi k18 400 (a32_ 1)), ((q0 5), zi k4 122880 f4), ((q0 7), zi k6 120 f6), ((q0 28), zi k20 400 (a84_ 2)), ((q0 27), zi k19 400 (a84_ 1))] ∧ va_S A s.heap H locs ∧ lv_has ls 4 [(0, .ref h0), (1, .int (u32_ 0)), (2, .int z150)] ∧ zA (-1) 1023 (a84_ 1) ∧ (0 ≤ z150.toInt ∧ z150.toInt ≤ 1024) ∧ (zM3 (a84_ 2) (a84_ 1) (a84_ 0) f4 f6 (v0 4).toInt (u32_ 0).toInt z150.toInt) ∧ (z150.toInt ≤ 1024) := ⟨hP, hD, hS, lv_sub hl [2, 3, 0] rfl, ha84_1, (by first | with_reducible assumption | exact ⟨by omega, by omega⟩), by first | exact hm3 | exact zM3_0 hI32_0 hI54_0 (by omega) (by omega), by omega⟩
                      exact hJ84 H locs ls (fun i => ([z150] : List (Int32)).getD i 0) (fun _ => 0) (fun i => ([(a84_ 0), (a84_ 1), (a84_ 2)] : List (Nat → Int32)).getD i (fun _ => 0)) (fun _ => (fun _ => 0)) hc (show (1024 - z150.toInt).toNat < (1024 - (u84_ 0).toInt).toNat from by omega)
                · skip
                  have hc : va_P (dC, dI) vwCl [(h0, .inr (13, mX13 q0 v0)), ((q0 25), zi k17 400 (a32_ 0)), ((q0 26), zi k18 400 (a32_ 1)), ((q0 5), zi k4 122880 f4), ((q0 7), zi k6 120 f6), ((q0 28), zi k20 400 (a54_ 1)), ((q0 27), zi k19 400 (a54_ 0))] H ∧ va_D A [(h0, .inr (13, mX13 q0 v0)), ((q0 25), zi k17 400 (a32_ 0)), ((q0 26), zi k18 400 (a32_ 1)), ((q0 5), zi k4 122880 f4), ((q0 7), zi k6 120 f6), ((q0 28), zi k20 400 (a54_ 1)), ((q0 27), zi k19 400 (a54_ 0))] ∧ va_S A s.heap H locs ∧ lv_has ls 4 [(0, .ref h0), (1, .int (u32_ 0)), (2, .int 0)] ∧ zA (-1) 1023 (a54_ 0) ∧ (0 ≤ (0 : Int32).toInt ∧ (0 : Int32).toInt ≤ 1024) ∧ (zM3 (a54_ 1) (a54_ 0) (a32_ 0) f4 f6 (v0 4).toInt (u32_ 0).toInt (0 : Int32).toInt) ∧ ((0 : Int32).toInt ≤ 1024) := ⟨hP, hD, hS, lv_sub hl [1, 2, 0] rfl, ha54_0, (by first | with_reducible assumption | exact ⟨by omega, by omega⟩), by first | exact hm3 | exact zM3_0 hI32_0 hI54_0 (by omega) (by omega), by omega⟩
                  exact hJ84 H locs ls (fun i => ([0] : List (Int32)).getD i 0) (fun _ => 0) (fun i => ([(a32_ 0), (a54_ 0), (a54_ 1)] : List (Nat → Int32)).getD i (fun _ => 0)) (fun _ => (fun _ => 0)) hc
              · skip
                have b_ := zF_ge rfl rfl c_
                refine lv_aload_n hx hb dX13_measure_62 rfl (lv_at hl 0 rfl) ?_
                refine va_get (D := (dC, dI)) (ci := 13) (v := .ref (q0 28)) (C := RX13) (T := TX13) (N := 75) hx hb hG zuX13 hown hK hP 0 rfl rfl 28 (by decide) (hG _ zv1632) (fun _ h9 => h9) rfl dX13_measure_63 ?_
                refine lv_iload_n hx hb dX13_measure_66 rfl (lv_at hl 2 rfl) ?_
                refine lv_iconst (v := 0) hx hb dX13_measure_67 (by decide) ?_
                refine va_iast hx hb hK hP hD hS 5 4 rfl rfl (zin_lit ⟨by omega, by omega⟩) dX13_measure_68 (fun H locs hP hD hS => ?_)
                obtain ⟨f_68, e_f_68⟩ : ∃ z : Nat → Int32, z = upd (a54_ 1) ((u54_ 0) : Int32).toNatClampNeg 0 := ⟨_, rfl⟩
                have hP : va_P (dC, dI) vwCl [(h0, .inr (13, mX13 q0 v0)), ((q0 25), zi k17 400 (a32_ 0)), ((q0 26), zi k18 400 (a32_ 1)), ((q0 5), zi k4 122880 f4), ((q0 7), zi k6 120 f6), ((q0 28), zi k20 400 f_68), ((q0 27), zi k19 400 (a54_ 0))] H := by rw [e_f_68]; exact hP
                have hD : va_D A [(h0, .inr (13, mX13 q0 v0)), ((q0 25), zi k17 400 (a32_ 0)), ((q0 26), zi k18 400 (a32_ 1)), ((q0 5), zi k4 122880 f4), ((q0 7), zi k6 120 f6), ((q0 28), zi k20 400 f_68), ((q0 27), zi k19 400 (a54_ 0))] := by rw [e_f_68]; exact hD
                refine lv_aload_n hx hb dX13_measure_69 rfl (lv_at hl 0 rfl) ?_
                refine va_get (D := (dC, dI)) (ci := 13) (v := .ref (q0 27)) (C := RX13) (T := TX13) (N := 75) hx hb hG zuX13 hown hK hP 0 rfl rfl 27 (by decide) (hG _ zv1631) (fun _ h9 => h9) rfl dX13_measure_70 ?_
                refine lv_iload_n hx hb dX13_measure_73 rfl (lv_at hl 2 rfl) ?_
                refine lv_iconst (v := (-1)) hx hb dX13_measure_74 (by decide) ?_
                refine va_iast hx hb hK hP hD hS 6 5 rfl rfl (zin_lit ⟨by omega, by omega⟩) dX13_measure_75 (fun H locs hP hD hS => ?_)
                obtain ⟨f_75, e_f_75⟩ : ∃ z : Nat → Int32, z = upd (a54_ 0) ((u54_ 0) : Int32).toNatClampNeg (-1) := ⟨_, rfl⟩
                have hP : va_P (dC, dI) vwCl [(h0, .inr (13, mX13 q0 v0)), ((q0 25), zi k17 400 (a32_ 0)), ((q0 26), zi k18 400 (a32_ 1)), ((q0 5), zi k4 122880 f4), ((q0 7), zi k6 120 f6), ((q0 28), zi k20 400 f_68), ((q0 27), zi k19 400 f_75)] H := by rw [e_f_75]; exact hP
                have hD : va_D A [(h0, .inr (13, mX13 q0 v0)), ((q0 25), zi k17 400 (a32_ 0)), ((q0 26), zi k18 400 (a32_ 1)), ((q0 5), zi k4 122880 f4), ((q0 7), zi k6 120 f6), ((q0 28), zi k20 400 f_68), ((q0 27), zi k19 400 f_75)] := by rw [e_f_75]; exact hD
                have hf_75 : zA (-1) 1023 f_75 := by rw [e_f_75]; exact zA_upd ha54_0 (show (-1) ≤ ((-1) : Int32).toInt from by decide) (show ((-1) : Int32).toInt ≤ 1023 from by decide)
                obtain ⟨z76, e_z76⟩ : ∃ z : Int32, z = (u54_ 0) + Int32.ofInt 1 := ⟨_, rfl⟩
                have b_ := zadd (x := (u54_ 0)) (y := Int32.ofInt 1) rfl (show (Int32.ofInt 1).toInt = 1 from by decide) e_z76 (by omega) (by omega)
                refine lv_iinc (v := z76) (lv' := [(2, .int z76), (0, .ref h0), (1, .int (u32_ 0))]) hx hb dX13_measure_76 hl (k := 2) rfl e_z76.symm (by decide) rfl (fun ls hl => ?_)
                refine lv_goto (tgt := 54) hx hb dX13_measure_79 (by decide) ?_
                have hc : va_P (dC, dI) vwCl [(h0, .inr (13, mX13 q0 v0)), ((q0 25), zi k17 400 (a32_ 0)), ((q0 26), zi k18 400 (a32_ 1)), ((q0 5), zi k4 122880 f4), ((q0 7), zi k6 120 f6), ((q0 28), zi k20 400 f_68), ((q0 27), zi k19 400 f_75)] H ∧ va_D A [(h0, .inr (13, mX13 q0 v0)), ((q0 25), zi k17 400 (a32_ 0)), ((q0 26), zi k18 400 (a32_ 1)), ((q0 5), zi k4 122880 f4), ((q0 7), zi k6 120 f6), ((q0 28), zi k20 400 f_68), ((q0 27), zi k19 400 f_75)] ∧ va_S A s.heap H locs ∧ lv_has ls 4 [(0, .ref h0), (1, .int (u32_ 0)), (2, .int z76)] ∧ zA (-1) 1023 f_75 ∧ (0 ≤ z76.toInt ∧ z76.toInt ≤ 400) ∧ (zM0 f_68 f_75 z76.toInt) ∧ (z76.toInt ≤ (v0 4).toInt) := ⟨hP, hD, hS, lv_sub hl [1, 2, 0] rfl, hf_75, (by first | with_reducible assumption | exact ⟨by omega, by omega⟩), by first | (rw [e_f_68, e_f_75]; exact zM0_s hI54_0 rfl (by omega) zk_0 zk_m1 (by omega)) | exact zM0_0 (by omega), by omega⟩
                exact hJ54 H locs ls (fun i => ([z76] : List (Int32)).getD i 0) (fun _ => 0) (fun i => ([f_75, f_68] : List (Nat → Int32)).getD i (fun _ => 0)) (fun _ => (fun _ => 0)) hc (show (400 - z76.toInt).toNat < (400 - (u54_ 0).toInt).toNat from by omega)
            · skip
              have hc : va_P (dC, dI) vwCl [(h0, .inr (13, mX13 q0 v0)), ((q0 25), zi k17 400 (a32_ 0)), ((q0 26), zi k18 400 (a32_ 1)), ((q0 5), zi k4 122880 f4), ((q0 7), zi k6 120 f6), ((q0 28), zi k20 400 (a32_ 3)), ((q0 27), zi k19 400 (a32_ 2))] H ∧ va_D A [(h0, .inr (13, mX13 q0 v0)), ((q0 25), zi k17 400 (a32_ 0)), ((q0 26), zi k18 400 (a32_ 1)), ((q0 5), zi k4 122880 f4), ((q0 7), zi k6 120 f6), ((q0 28), zi k20 400 (a32_ 3)), ((q0 27), zi k19 400 (a32_ 2))] ∧ va_S A s.heap H locs ∧ lv_has ls 4 [(0, .ref h0), (1, .int (u32_ 0)), (2, .int 0)] ∧ zA (-1) 1023 (a32_ 2) ∧ (0 ≤ (0 : Int32).toInt ∧ (0 : Int32).toInt ≤ 400) ∧ (zM0 (a32_ 3) (a32_ 2) (0 : Int32).toInt) ∧ ((0 : Int32).toInt ≤ (v0 4).toInt) := ⟨hP, hD, hS, lv_sub hl [1, 2, 0] rfl, ha32_2, (by first | with_reducible assumption | exact ⟨by omega, by omega⟩), by first | (rw [e_f_68, e_f_75]; exact zM0_s hI54_0 rfl (by omega) zk_0 zk_m1 (by omega)) | exact zM0_0 (by omega), by omega⟩
              exact hJ54 H locs ls (fun i => ([0] : List (Int32)).getD i 0) (fun _ => 0) (fun i => ([(a32_ 2), (a32_ 3)] : List (Nat → Int32)).getD i (fun _ => 0)) (fun _ => (fun _ => 0)) hc
          · skip
            have b_ := zF_ne rfl zk_0 c_
            refine lv_goto (tgt := 221) hx hb dX13_measure_49 (by decide) ?_
            obtain ⟨z221, e_z221⟩ : ∃ z : Int32, z = (u32_ 0) + Int32.ofInt 1 := ⟨_, rfl⟩
            have b_ := zadd (x := (u32_ 0)) (y := Int32.ofInt 1) rfl (show (Int32.ofInt 1).toInt = 1 from by decide) e_z221 (by omega) (by omega)
            refine lv_iinc (v := z221) (lv' := [(1, .int z221), (0, .ref h0)]) hx hb dX13_measure_221 hl (k := 1) rfl e_z221.symm (by decide) rfl (fun ls hl => ?_)
            have hm1 : zM1 (a32_ 0) (a32_ 1) f4 f6 (v0 4).toInt z221.toInt := zM1_n hI32_0 (by omega) (hke.trans (by omega)) (by omega)
            refine lv_goto (tgt := 32) hx hb dX13_measure_224 (by decide) ?_
            have hc : va_P (dC, dI) vwCl [(h0, .inr (13, mX13 q0 v0)), ((q0 25), zi k17 400 (a32_ 0)), ((q0 26), zi k18 400 (a32_ 1)), ((q0 5), zi k4 122880 f4), ((q0 7), zi k6 120 f6), ((q0 28), zi k20 400 (a32_ 3)), ((q0 27), zi k19 400 (a32_ 2))] H ∧ va_D A [(h0, .inr (13, mX13 q0 v0)), ((q0 25), zi k17 400 (a32_ 0)), ((q0 26), zi k18 400 (a32_ 1)), ((q0 5), zi k4 122880 f4), ((q0 7), zi k6 120 f6), ((q0 28), zi k20 400 (a32_ 3)), ((q0 27), zi k19 400 (a32_ 2))] ∧ va_S A s.heap H locs ∧ lv_has ls 4 [(0, .ref h0), (1, .int z221)] ∧ zA (-1) 119 (a32_ 1) ∧ zA (-1) 1023 (a32_ 2) ∧ (0 ≤ z221.toInt ∧ z221.toInt ≤ 120) ∧ (zM1 (a32_ 0) (a32_ 1) f4 f6 (v0 4).toInt z221.toInt) ∧ (z221.toInt ≤ (v0 13).toInt) := ⟨hP, hD, hS, lv_sub hl [1, 0] rfl, ha32_1, ha32_2, (by first | with_reducible assumption | exact ⟨by omega, by omega⟩), by first | exact hm1 | exact zM1_0 hI2_0 (by omega) (by omega), by omega⟩
            exact hJ32 H locs ls (fun i => ([z221] : List (Int32)).getD i 0) (fun _ => 0) (fun i => ([(a32_ 0), (a32_ 1), (a32_ 2), (a32_ 3)] : List (Nat → Int32)).getD i (fun _ => 0)) (fun _ => (fun _ => 0)) hc (show (120 - z221.toInt).toNat < (120 - (u32_ 0).toInt).toNat from by omega)
      · skip
        have hc : va_P (dC, dI) vwCl [(h0, .inr (13, mX13 q0 v0)), ((q0 25), zi k17 400 (a2_ 0)), ((q0 26), zi k18 400 (a2_ 1)), ((q0 5), zi k4 122880 f4), ((q0 7), zi k6 120 f6), ((q0 28), zi k20 400 f20), ((q0 27), zi k19 400 f19)] H ∧ va_D A [(h0, .inr (13, mX13 q0 v0)), ((q0 25), zi k17 400 (a2_ 0)), ((q0 26), zi k18 400 (a2_ 1)), ((q0 5), zi k4 122880 f4), ((q0 7), zi k6 120 f6), ((q0 28), zi k20 400 f20), ((q0 27), zi k19 400 f19)] ∧ va_S A s.heap H locs ∧ lv_has ls 4 [(0, .ref h0), (1, .int 0)] ∧ zA (-1) 119 (a2_ 1) ∧ zA (-1) 1023 f19 ∧ (0 ≤ (0 : Int32).toInt ∧ (0 : Int32).toInt ≤ 120) ∧ (zM1 (a2_ 0) (a2_ 1) f4 f6 (v0 4).toInt (0 : Int32).toInt) ∧ ((0 : Int32).toInt ≤ (v0 13).toInt) := ⟨hP, hD, hS, lv_sub hl [1, 0] rfl, ha2_1, hf19, (by first | with_reducible assumption | exact ⟨by omega, by omega⟩), by first | exact hm1 | exact zM1_0 hI2_0 (by omega) (by omega), by omega⟩
        exact hJ32 H locs ls (fun i => ([0] : List (Int32)).getD i 0) (fun _ => 0) (fun i => ([(a2_ 0), (a2_ 1), f19, f20] : List (Nat → Int32)).getD i (fun _ => 0)) (fun _ => (fun _ => 0)) hc
    · skip
      have b_ := zF_ge rfl rfl c_
      refine lv_aload_n hx hb dX13_measure_10 rfl (lv_at hl 0 rfl) ?_
      refine va_get (D := (dC, dI)) (ci := 13) (v := .ref (q0 25)) (C := RX13) (T := TX13) (N := 75) hx hb hG zuX13 hown hK hP 0 rfl rfl 25 (by decide) (hG _ zv1629) (fun _ h9 => h9) rfl dX13_measure_11 ?_
      refine lv_iload_n hx hb dX13_measure_14 rfl (lv_at hl 1 rfl) ?_
      refine lv_iconst (v := 0) hx hb dX13_measure_15 (by decide) ?_
      refine va_iast hx hb hK hP hD hS 1 0 rfl rfl (zin_lit ⟨by omega, by omega⟩) dX13_measure_16 (fun H locs hP hD hS => ?_)
      obtain ⟨f_16, e_f_16⟩ : ∃ z : Nat → Int32, z = upd (a2_ 0) ((u2_ 0) : Int32).toNatClampNeg 0 := ⟨_, rfl⟩
      have hP : va_P (dC, dI) vwCl [(h0, .inr (13, mX13 q0 v0)), ((q0 25), zi k17 400 f_16), ((q0 26), zi k18 400 (a2_ 1)), ((q0 5), zi k4 122880 f4), ((q0 7), zi k6 120 f6), ((q0 28), zi k20 400 f20), ((q0 27), zi k19 400 f19)] H := by rw [e_f_16]; exact hP
      have hD : va_D A [(h0, .inr (13, mX13 q0 v0)), ((q0 25), zi k17 400 f_16), ((q0 26), zi k18 400 (a2_ 1)), ((q0 5), zi k4 122880 f4), ((q0 7), zi k6 120 f6), ((q0 28), zi k20 400 f20), ((q0 27), zi k19 400 f19)] := by rw [e_f_16]; exact hD
      refine lv_aload_n hx hb dX13_measure_17 rfl (lv_at hl 0 rfl) ?_
      refine va_get (D := (dC, dI)) (ci := 13) (v := .ref (q0 26)) (C := RX13) (T := TX13) (N := 75) hx hb hG zuX13 hown hK hP 0 rfl rfl 26 (by decide) (hG _ zv1630) (fun _ h9 => h9) rfl dX13_measure_18 ?_
      refine lv_iload_n hx hb dX13_measure_21 rfl (lv_at hl 1 rfl) ?_
      refine lv_iconst (v := (-1)) hx hb dX13_measure_22 (by decide) ?_
      refine va_iast hx hb hK hP hD hS 2 1 rfl rfl (zin_lit ⟨by omega, by omega⟩) dX13_measure_23 (fun H locs hP hD hS => ?_)
      obtain ⟨f_23, e_f_23⟩ : ∃ z : Nat → Int32, z = upd (a2_ 1) ((u2_ 0) : Int32).toNatClampNeg (-1) := ⟨_, rfl⟩
      have hP : va_P (dC, dI) vwCl [(h0, .inr (13, mX13 q0 v0)), ((q0 25), zi k17 400 f_16), ((q0 26), zi k18 400 f_23), ((q0 5), zi k4 122880 f4), ((q0 7), zi k6 120 f6), ((q0 28), zi k20 400 f20), ((q0 27), zi k19 400 f19)] H := by rw [e_f_23]; exact hP
      have hD : va_D A [(h0, .inr (13, mX13 q0 v0)), ((q0 25), zi k17 400 f_16), ((q0 26), zi k18 400 f_23), ((q0 5), zi k4 122880 f4), ((q0 7), zi k6 120 f6), ((q0 28), zi k20 400 f20), ((q0 27), zi k19 400 f19)] := by rw [e_f_23]; exact hD
      have hf_23 : zA (-1) 119 f_23 := by rw [e_f_23]; exact zA_upd ha2_1 (show (-1) ≤ ((-1) : Int32).toInt from by decide) (show ((-1) : Int32).toInt ≤ 119 from by decide)
      obtain ⟨z24, e_z24⟩ : ∃ z : Int32, z = (u2_ 0) + Int32.ofInt 1 := ⟨_, rfl⟩
      have b_ := zadd (x := (u2_ 0)) (y := Int32.ofInt 1) rfl (show (Int32.ofInt 1).toInt = 1 from by decide) e_z24 (by omega) (by omega)
      refine lv_iinc (v := z24) (lv' := [(1, .int z24), (0, .ref h0)]) hx hb dX13_measure_24 hl (k := 1) rfl e_z24.symm (by decide) rfl (fun ls hl => ?_)
      refine lv_goto (tgt := 2) hx hb dX13_measure_27 (by decide) ?_
      have hc : va_P (dC, dI) vwCl [(h0, .inr (13, mX13 q0 v0)), ((q0 25), zi k17 400 f_16), ((q0 26), zi k18 400 f_23), ((q0 5), zi k4 122880 f4), ((q0 7), zi k6 120 f6), ((q0 28), zi k20 400 f20), ((q0 27), zi k19 400 f19)] H ∧ va_D A [(h0, .inr (13, mX13 q0 v0)), ((q0 25), zi k17 400 f_16), ((q0 26), zi k18 400 f_23), ((q0 5), zi k4 122880 f4), ((q0 7), zi k6 120 f6), ((q0 28), zi k20 400 f20), ((q0 27), zi k19 400 f19)] ∧ va_S A s.heap H locs ∧ lv_has ls 4 [(0, .ref h0), (1, .int z24)] ∧ zA (-1) 119 f_23 ∧ (0 ≤ z24.toInt ∧ z24.toInt ≤ 400) ∧ (zM0 f_16 f_23 z24.toInt) ∧ (z24.toInt ≤ (v0 4).toInt) := ⟨hP, hD, hS, lv_sub hl [1, 0] rfl, hf_23, (by first | with_reducible assumption | exact ⟨by omega, by omega⟩), by first | (rw [e_f_16, e_f_23]; exact zM0_s hI2_0 rfl (by omega) zk_0 zk_m1 (by omega)) | exact zM0_0 (by omega), by omega⟩
      exact hJ2 H locs ls (fun i => ([z24] : List (Int32)).getD i 0) (fun _ => 0) (fun i => ([f_16, f_23] : List (Nat → Int32)).getD i (fun _ => 0)) (fun _ => (fun _ => 0)) hc (show (400 - z24.toInt).toNat < (400 - (u2_ 0).toInt).toNat from by omega)
  · skip
    have hc : va_P (dC, dI) vwCl [(h0, .inr (13, mX13 q0 v0)), ((q0 25), zi k17 400 f17), ((q0 26), zi k18 400 f18), ((q0 5), zi k4 122880 f4), ((q0 7), zi k6 120 f6), ((q0 28), zi k20 400 f20), ((q0 27), zi k19 400 f19)] s.heap ∧ va_D A [(h0, .inr (13, mX13 q0 v0)), ((q0 25), zi k17 400 f17), ((q0 26), zi k18 400 f18), ((q0 5), zi k4 122880 f4), ((q0 7), zi k6 120 f6), ((q0 28), zi k20 400 f20), ((q0 27), zi k19 400 f19)] ∧ va_S A s.heap s.heap [] ∧ lv_has ls 4 [(0, .ref h0), (1, .int 0)] ∧ zA (-1) 119 f18 ∧ (0 ≤ (0 : Int32).toInt ∧ (0 : Int32).toInt ≤ 400) ∧ (zM0 f17 f18 (0 : Int32).toInt) ∧ ((0 : Int32).toInt ≤ (v0 4).toInt) := ⟨hP, hD, hS, lv_sub hl [1, 0] rfl, hf18, (by first | with_reducible assumption | exact ⟨by omega, by omega⟩), by first | (rw [e_f_16, e_f_23]; exact zM0_s hI2_0 rfl (by omega) zk_0 zk_m1 (by omega)) | exact zM0_0 (by omega), by omega⟩
    exact hJ2 s.heap [] ls (fun i => ([0] : List (Int32)).getD i 0) (fun _ => 0) (fun i => ([f17, f18] : List (Nat → Int32)).getD i (fun _ => 0)) (fun _ => (fun _ => 0)) hc
set_option maxHeartbeats 8000000 in
set_option maxRecDepth 100000 in
theorem sX13_cost_0 (l : Launch) (dC : Nat → ClassId) (dI : Nat → Nat → Nat) (adK adV : Nat → Nat) (sz : Nat) (x0 : Int32) (hx0 : 0 ≤ x0.toInt ∧ x0.toInt ≤ 2585520) : Met l yX13_cost (zw yX13_cost cX13_cost 4 (some .int)) { frames := 1, cells := 0, slots := 0, locals := 40 } (zPc dC dI adK adV [.int x0] sz [] []) (va_Qi (fun (r : Int32) (u : Nat → Int32) => (0 ≤ r.toInt ∧ r.toInt ≤ 3878664) ∧ (x0.toInt ≤ r.toInt) ∧ (r.toInt ≤ 3878664) ∧ (0 ≤ x0.toInt → r.toInt = (zco (x0.toInt).toNat : Int))) (fun (u : Nat → Int32) (t : State) => ∃ (ww : Nat → Int64) (aa : Nat → Nat → Int32) (bb : Nat → Nat → Int64), va_P (dC, dI) vwCl [] t.heap ∧ va_K (dC, dI) vwCl [] t ∧ va_D (va_A [] sz) []) (va_A [] sz)) 0 0 (va_A [] sz) := by
  refine Met.ofW (cc := cX13_cost) (maxL := 4) (ret := (some .int)) (by decide) rfl ?_
  intro p e s m args below meth c s₁ B hml hv
  obtain ⟨rfl, hsz, hP, hK, hD0, hE, hZ⟩ := hv
  have hx := B.exec
  have hb := B.bytes
  have hr := B.returns
  have hG : ∀ w ∈ zG, w.before _ s = true := fun w h => atoms_spec (ws := (zw yX13_cost cX13_cost 4 (some .int))) B.pre w (List.mem_cons_of_mem _ h)
  have hown : s.vm.findClass RX13 = some m.cls := findClass_of_methodNamed B.named
  have hlocks := B.notSynchronized

  subst hsz
  have hD := hD0.self (sz := s.heap.size)
  generalize hAe : va_A [] s.heap.size = A at hD hZ ⊢
  have hA : ∀ q : Nat, s.heap.size ≤ q → A q := fun q h => by rw [← hAe]; exact Or.inr h
  have hS : va_S A s.heap s.heap [] := va_S.rf
  have hl := lv_entry ([.int x0]) (n := 4) (Nat.le_of_ble_eq_true rfl)
  rw [lg_entry_eq]
  generalize (lg_sl ([.int x0]) ++ List.replicate (4 - (lg_sl ([.int x0])).length) Slot.unset).toArray = ls at hl ⊢
  have hl : lv_has ls 4 [(0, .int x0)] := hl
  have b_ := zk_0
  have b_ := zk_32
  refine lv_iconst (v := 0) hx hb dX13_cost_0 (by decide) ?_
  refine lv_istore_n (lv' := [(1, .int 0), (0, .int x0)]) hx hb dX13_cost_1 rfl hl (by decide) rfl (fun ls hl => ?_)
  refine lv_iload_n hx hb dX13_cost_2 rfl (lv_at hl 1 rfl) ?_
  refine lv_istore_n (lv' := [(2, .int x0), (1, .int 0), (0, .int x0)]) hx hb dX13_cost_3 rfl hl (by decide) rfl (fun ls hl => ?_)
  refine lv_bipush (v := 32) hx hb dX13_cost_4 (by decide) ?_
  refine lv_istore_n (lv' := [(3, .int 32), (2, .int x0), (1, .int 0), (0, .int x0)]) hx hb dX13_cost_6 rfl hl (by decide) rfl (fun ls hl => ?_)
  refine zcutL (fun u7_ => ((u7_ 1).toInt).toNat) (fun H locs ls u7_ w7_ a7_ b7_ => va_P (dC, dI) vwCl [] H ∧ va_D A [] ∧ va_S A s.heap H locs ∧ lv_has ls 4 [(0, .int x0), (1, .int (u7_ 0)), (2, .int (u7_ 1)), (3, .int (u7_ 2))] ∧ (0 ≤ (u7_ 0).toInt ∧ (u7_ 0).toInt ≤ 3878664) ∧ ((-255) ≤ (u7_ 1).toInt ∧ (u7_ 1).toInt ≤ 2585520) ∧ (32 ≤ (u7_ 2).toInt ∧ (u7_ 2).toInt ≤ 256) ∧ (2 * (u7_ 0).toInt ≤ 3 * (x0.toInt - (u7_ 1).toInt)) ∧ (x0.toInt - (u7_ 1).toInt ≤ (u7_ 0).toInt) ∧ (32 ≤ (u7_ 2).toInt ∧ (u7_ 2).toInt ≤ 256) ∧ (zCs x0.toInt (u7_ 0).toInt (u7_ 1).toInt (u7_ 2).toInt)) (fun ls u7_ w7_ => F0 m 7 ls []) 0 0 ?_ (fun hJ7 => ?_)
  · skip
    intro H locs ls u7_ w7_ a7_ b7_ hc hJ7
    obtain ⟨hP, hD, hS, hl, b_, b_, b_, b_, b_, b_, hI7_3⟩ := hc
    refine lv_iload_n hx hb dX13_cost_7 rfl (lv_at hl 2 rfl) ?_
    refine lv_if_le (tgt := 35) hx hb dX13_cost_8 (by decide) (fun c_ => ?_) (fun c_ => ?_)
    · skip
      have b_ := zT_le rfl zk_0 c_
      refine lv_iload_n hx hb dX13_cost_35 rfl (lv_at hl 1 rfl) ?_
      refine W.widen (k := 0) (n := 0) (by decide) (by decide) ?_
      have hpost : (0 ≤ (u7_ 0).toInt ∧ (u7_ 0).toInt ≤ 3878664) ∧ (x0.toInt ≤ (u7_ 0).toInt) ∧ ((u7_ 0).toInt ≤ 3878664) ∧ (0 ≤ x0.toInt → (u7_ 0).toInt = (zco (x0.toInt).toNat : Int)) := ⟨(by first | with_reducible assumption | exact ⟨by omega, by omega⟩), by omega, by omega, by exact zCs_e hI7_3 (by omega) rfl⟩
      have hP9 : va_P (dC, dI) vwCl [] H := hP
      have hD9 : va_D A [] := hD
      exact W.iret (v := (u7_ 0)) hx hb hr (fun t ht hW => ⟨⟨(u7_ 0), (fun _ => 0), rfl, hpost, (fun _ => 0), (fun _ => (fun _ => 0)), (fun _ => (fun _ => 0)), by rw [ht]; exact hP9, va_K.moved hW.alike hK, hD9⟩, hS.F ht⟩) hS.2.2 dX13_cost_36
    · skip
      have b_ := zF_le rfl zk_0 c_
      refine lv_iload_n hx hb dX13_cost_11 rfl (lv_at hl 1 rfl) ?_
      refine lv_iload_n hx hb dX13_cost_12 rfl (lv_at hl 3 rfl) ?_
      refine lv_bipush (v := 16) hx hb dX13_cost_13 (by decide) ?_
      refine lv_iadd hx hb dX13_cost_15 ?_
      refine lv_topi (fun z15 e_z15 => ?_)
      have b_ := zadd rfl zk_16 e_z15 (by omega) (by omega)
      refine lv_iadd hx hb dX13_cost_16 ?_
      refine lv_topi (fun z16 e_z16 => ?_)
      have b_ := zadd rfl rfl e_z16 (by omega) (by omega)
      refine lv_istore_n (lv' := [(1, .int z16), (0, .int x0), (2, .int (u7_ 1)), (3, .int (u7_ 2))]) hx hb dX13_cost_17 rfl hl (by decide) rfl (fun ls hl => ?_)
      refine lv_iload_n hx hb dX13_cost_18 rfl (lv_at hl 2 rfl) ?_
      refine lv_iload_n hx hb dX13_cost_19 rfl (lv_at hl 3 rfl) ?_
      refine lv_isub hx hb dX13_cost_20 ?_
      refine lv_topi (fun z20 e_z20 => ?_)
      have b_ := zsub rfl rfl e_z20 (by omega) (by omega)
      refine lv_istore_n (lv' := [(2, .int z20), (1, .int z16), (0, .int x0), (3, .int (u7_ 2))]) hx hb dX13_cost_21 rfl hl (by decide) rfl (fun ls hl => ?_)
      refine lv_sipush (v := 256) hx hb dX13_cost_22 (by decide) ?_
      refine lv_iconst (v := 2) hx hb dX13_cost_25 (by decide) ?_
      refine lv_iload_n hx hb dX13_cost_26 rfl (lv_at hl 3 rfl) ?_
      refine lv_imul hx hb dX13_cost_27 ?_
      refine lv_topi (fun z27 e_z27 => ?_)
      have b_ := zmul zk_2 rfl e_z27 (by omega) (by omega)
      refine va_mmin hx hb (by rw [hml]; exact hl.1.symm) hown (hG _ zv1897) (hG _ zv1385) (hG _ zv152) (hG _ zv1386) (Nat.le_of_ble_eq_true rfl) (Nat.le_of_ble_eq_true rfl) (Nat.le_of_ble_eq_true rfl) (Nat.le_of_ble_eq_true rfl) dX13_cost_28 ?_
      refine lv_topi (fun z28 e_z28 => ?_)
      have b_ := zmin zk_256 rfl e_z28
      refine lv_istore_n (lv' := [(3, .int z28), (2, .int z20), (1, .int z16), (0, .int x0)]) hx hb dX13_cost_31 rfl hl (by decide) rfl (fun ls hl => ?_)
      refine lv_goto (tgt := 7) hx hb dX13_cost_32 (by decide) ?_
      have hc : va_P (dC, dI) vwCl [] H ∧ va_D A [] ∧ va_S A s.heap H locs ∧ lv_has ls 4 [(0, .int x0), (1, .int z16), (2, .int z20), (3, .int z28)] ∧ (0 ≤ z16.toInt ∧ z16.toInt ≤ 3878664) ∧ ((-255) ≤ z20.toInt ∧ z20.toInt ≤ 2585520) ∧ (32 ≤ z28.toInt ∧ z28.toInt ≤ 256) ∧ (2 * z16.toInt ≤ 3 * (x0.toInt - z20.toInt)) ∧ (x0.toInt - z20.toInt ≤ z16.toInt) ∧ (32 ≤ z28.toInt ∧ z28.toInt ≤ 256) ∧ (zCs x0.toInt z16.toInt z20.toInt z28.toInt) := ⟨hP, hD, hS, lv_sub hl [3, 2, 1, 0] rfl, (by first | with_reducible assumption | exact ⟨by omega, by omega⟩), (by first | with_reducible assumption | exact ⟨by omega, by omega⟩), (by first | with_reducible assumption | exact ⟨by omega, by omega⟩), by omega, by omega, by omega, by first | exact zCs_s hI7_3 (by omega) (by omega) (by omega) (by omega) | exact zCs_0 (by decide) rfl (by decide)⟩
      exact hJ7 H locs ls (fun i => ([z16, z20, z28] : List (Int32)).getD i 0) (fun _ => 0) (fun _ => (fun _ => 0)) (fun _ => (fun _ => 0)) hc (show (z20.toInt).toNat < ((u7_ 1).toInt).toNat from by omega)
  · skip
    have hc : va_P (dC, dI) vwCl [] s.heap ∧ va_D A [] ∧ va_S A s.heap s.heap [] ∧ lv_has ls 4 [(0, .int x0), (1, .int 0), (2, .int x0), (3, .int 32)] ∧ (0 ≤ (0 : Int32).toInt ∧ (0 : Int32).toInt ≤ 3878664) ∧ ((-255) ≤ x0.toInt ∧ x0.toInt ≤ 2585520) ∧ (32 ≤ (32 : Int32).toInt ∧ (32 : Int32).toInt ≤ 256) ∧ (2 * (0 : Int32).toInt ≤ 3 * (x0.toInt - x0.toInt)) ∧ (x0.toInt - x0.toInt ≤ (0 : Int32).toInt) ∧ (32 ≤ (32 : Int32).toInt ∧ (32 : Int32).toInt ≤ 256) ∧ (zCs x0.toInt (0 : Int32).toInt x0.toInt (32 : Int32).toInt) := ⟨hP, hD, hS, lv_sub hl [3, 2, 1, 0] rfl, (by first | with_reducible assumption | exact ⟨by omega, by omega⟩), (by first | with_reducible assumption | exact ⟨by omega, by omega⟩), (by first | with_reducible assumption | exact ⟨by omega, by omega⟩), by omega, by omega, by omega, by first | exact zCs_s hI7_3 (by omega) (by omega) (by omega) (by omega) | exact zCs_0 (by decide) rfl (by decide)⟩
    exact hJ7 s.heap [] ls (fun i => ([0, x0, 32] : List (Int32)).getD i 0) (fun _ => 0) (fun _ => (fun _ => 0)) (fun _ => (fun _ => 0)) hc
theorem zv1912 : (.methodLink RX13 300 yX13_cost : Cond) ∈ zG := zin8 104 (by decide +kernel) (by decide +kernel)
set_option maxHeartbeats 8000000 in
set_option maxRecDepth 100000 in
theorem sX13_taken_0 (l : Launch) (dC : Nat → ClassId) (dI : Nat → Nat → Nat) (adK adV : Nat → Nat) (h0 : Nat) (q0 : Nat → Nat) (k17 : ClassId) (k18 : ClassId) (k4 : ClassId) (k6 : ClassId) (k20 : ClassId) (k19 : ClassId) (k2 : ClassId) (k3 : ClassId) (sz : Nat) (v0 : Nat → Int32) (f17 : Nat → Int32) (f18 : Nat → Int32) (f4 : Nat → Int32) (f6 : Nat → Int32) (f20 : Nat → Int32) (f19 : Nat → Int32) (f2 : Nat → Int32) (f3 : Nat → Int32) (hv0 : zR rg_Model v0) (hf18 : zA (-1) 119 f18) (hf4 : zA 0 400 f4) (hf19 : zA (-1) 1023 f19) (hf3 : zA 0 12 f3) : Met l yX13_taken (zw yX13_taken cX13_taken 3 (some .int)) { frames := 3, cells := 0, slots := 0, locals := 65 } (zPc dC dI adK adV [.ref h0] sz [(h0, .inr (13, mX13 q0 v0)), ((q0 25), zi k17 400 f17), ((q0 26), zi k18 400 f18), ((q0 5), zi k4 122880 f4), ((q0 7), zi k6 120 f6), ((q0 28), zi k20 400 f20), ((q0 27), zi k19 400 f19), ((q0 2), zi k2 4800 f2), ((q0 3), zi k3 400 f3)] [(k17, .int), (k18, .int), (k4, .short), (k6, .boolean), (k20, .int), (k19, .int), (k2, .byte), (k3, .int)]) (va_Qi (fun (r : Int32) (u : Nat → Int32) => (0 ≤ r.toInt ∧ r.toInt ≤ 1551465600) ∧ (r.toInt = (u 0).toInt)) (fun (u : Nat → Int32) (t : State) => ∃ (ww : Nat → Int64) (aa : Nat → Nat → Int32) (bb : Nat → Nat → Int64), zA (-1) 119 (aa 1) ∧ zA (-1) 1023 (aa 3) ∧ (zTk f4 f6 (v0 4).toInt (v0 13).toInt (u 0).toInt) ∧ (zTn f2 f3 (v0 4).toInt f4 f6 (v0 13).toInt (u 0).toInt) ∧ va_P (dC, dI) vwCl [(h0, .inr (13, mX13 q0 v0)), ((q0 25), zi k17 400 (aa 0)), ((q0 26), zi k18 400 (aa 1)), ((q0 5), zi k4 122880 f4), ((q0 7), zi k6 120 f6), ((q0 28), zi k20 400 (aa 2)), ((q0 27), zi k19 400 (aa 3)), ((q0 2), zi k2 4800 f2), ((q0 3), zi k3 400 f3)] t.heap ∧ va_K (dC, dI) vwCl [(k17, .int), (k18, .int), (k4, .short), (k6, .boolean), (k20, .int), (k19, .int), (k2, .byte), (k3, .int)] t ∧ va_D (va_A [(h0, .inr (13, mX13 q0 v0)), ((q0 25), zi k17 400 f17), ((q0 26), zi k18 400 f18), ((q0 5), zi k4 122880 f4), ((q0 7), zi k6 120 f6), ((q0 28), zi k20 400 f20), ((q0 27), zi k19 400 f19), ((q0 2), zi k2 4800 f2), ((q0 3), zi k3 400 f3)] sz) [(h0, .inr (13, mX13 q0 v0)), ((q0 25), zi k17 400 (aa 0)), ((q0 26), zi k18 400 (aa 1)), ((q0 5), zi k4 122880 f4), ((q0 7), zi k6 120 f6), ((q0 28), zi k20 400 (aa 2)), ((q0 27), zi k19 400 (aa 3)), ((q0 2), zi k2 4800 f2), ((q0 3), zi k3 400 f3)]) (va_A [(h0, .inr (13, mX13 q0 v0)), ((q0 25), zi k17 400 f17), ((q0 26), zi k18 400 f18), ((q0 5), zi k4 122880 f4), ((q0 7), zi k6 120 f6), ((q0 28), zi k20 400 f20), ((q0 27), zi k19 400 f19), ((q0 2), zi k2 4800 f2), ((q0 3), zi k3 400 f3)] sz)) 0 0 (va_A [(h0, .inr (13, mX13 q0 v0)), ((q0 25), zi k17 400 f17), ((q0 26), zi k18 400 f18), ((q0 5), zi k4 122880 f4), ((q0 7), zi k6 120 f6), ((q0 28), zi k20 400 f20), ((q0 27), zi k19 400 f19), ((q0 2), zi k2 4800 f2), ((q0 3), zi k3 400 f3)] sz) := by
  refine Met.ofW (cc := cX13_taken) (maxL := 3) (ret := (some .int)) (by decide) rfl ?_
  intro p e s m args below meth c s₁ B hml hv
  obtain ⟨rfl, hsz, hP, hK, hD0, hE, hZ⟩ := hv
  have hx := B.exec
  have hb := B.bytes
  have hr := B.returns
  have hG : ∀ w ∈ zG, w.before _ s = true := fun w h => atoms_spec (ws := (zw yX13_taken cX13_taken 3 (some .int))) B.pre w (List.mem_cons_of_mem _ h)
  have hown : s.vm.findClass RX13 = some m.cls := findClass_of_methodNamed B.named
  have hlocks := B.notSynchronized

  subst hsz
  have hD := hD0.self (sz := s.heap.size)
  generalize hAe : va_A [(h0, .inr (13, mX13 q0 v0)), ((q0 25), zi k17 400 f17), ((q0 26), zi k18 400 f18), ((q0 5), zi k4 122880 f4), ((q0 7), zi k6 120 f6), ((q0 28), zi k20 400 f20), ((q0 27), zi k19 400 f19), ((q0 2), zi k2 4800 f2), ((q0 3), zi k3 400 f3)] s.heap.size = A at hD hZ ⊢
  have hA : ∀ q : Nat, s.heap.size ≤ q → A q := fun q h => by rw [← hAe]; exact Or.inr h
  have hS : va_S A s.heap s.heap [] := va_S.rf
  have hl := lv_entry ([.ref h0]) (n := 3) (Nat.le_of_ble_eq_true rfl)
  rw [lg_entry_eq]
  generalize (lg_sl ([.ref h0]) ++ List.replicate (3 - (lg_sl ([.ref h0])).length) Slot.unset).toArray = ls at hl ⊢
  have hl : lv_has ls 3 [(0, .ref h0)] := hl
  have b_ := zk_0
  have b_ : 0 ≤ (v0 4).toInt ∧ (v0 4).toInt ≤ 400 := hv0 4
  have b_ : 0 ≤ (v0 13).toInt ∧ (v0 13).toInt ≤ 120 := hv0 13
  refine lv_aload_n hx hb dX13_taken_0 rfl (lv_at hl 0 rfl) ?_
  have hPc := hP.sub (ws' := [(h0, .inr (13, mX13 q0 v0)), ((q0 25), zi k17 400 f17), ((q0 26), zi k18 400 f18), ((q0 5), zi k4 122880 f4), ((q0 7), zi k6 120 f6), ((q0 28), zi k20 400 f20), ((q0 27), zi k19 400 f19)]) [0, 1, 2, 3, 4, 5, 6] rfl
  have hDc := hD.sub (ws' := [(h0, .inr (13, mX13 q0 v0)), ((q0 25), zi k17 400 f17), ((q0 26), zi k18 400 f18), ((q0 5), zi k4 122880 f4), ((q0 7), zi k6 120 f6), ((q0 28), zi k20 400 f20), ((q0 27), zi k19 400 f19)]) [0, 1, 2, 3, 4, 5, 6] (by decide) rfl
  have hKc := hK.sub (tys' := [(k17, .int), (k18, .int), (k4, .short), (k6, .boolean), (k20, .int), (k19, .int)]) [0, 1, 2, 3, 4, 5] rfl
  have hFc := va_free (wc := [(h0, .inr (13, mX13 q0 v0)), ((q0 25), zi k17 400 f17), ((q0 26), zi k18 400 f18), ((q0 5), zi k4 122880 f4), ((q0 7), zi k6 120 f6), ((q0 28), zi k20 400 f20), ((q0 27), zi k19 400 f19)]) hD hS hA [0, 1, 2, 3, 4, 5, 6] rfl
  refine va_callv (va_runV (As := []) (rest := []) ⟨hx, hb, hml, hown, hG⟩ (sX13_measure_0 l dC dI adK adV h0 q0 k17 k18 k4 k6 k20 k19 s.heap.size v0 f17 f18 f4 f6 f20 f19 hv0 hf18 hf4 hf19) (cwV 0 hG (zgV zv1902 zv1904 zv60 zv142 zv1905) rfl rfl rfl (by decide +kernel) ⟨Nat.le_of_ble_eq_true rfl, Nat.le_of_ble_eq_true rfl⟩) ⟨zPc_blind, va_recv hKc hPc (ci := 13) (q0 := 0) rfl rfl, zPc_pre hPc hKc hDc hE hS hFc hZ⟩ rfl rfl hl.1 rfl (lv_room (Nat.le_of_ble_eq_true rfl)) dX13_taken_1 ⟨Nat.le_of_ble_eq_true rfl, Nat.le_of_ble_eq_true rfl⟩) hS (fun q _ h => hFc q h) hFc (fun u1_ t H1 locs ht hvm hw hB hz1 hk1 hS => ?_)
  obtain ⟨w1_, a1_, b1_, ha1_1, ha1_3, hB1_0, hP1, hK1, hD1⟩ := hB
  have hB1_0 : zM1 (a1_ 0) (a1_ 1) f4 f6 (v0 4).toInt (v0 13).toInt := hB1_0
  rw [ht] at hP1
  obtain ⟨hP, hD⟩ := va_join (wr := [((q0 2), zi k2 4800 f2), ((q0 3), zi k3 400 f3)]) (w1 := [(h0, .inr (13, mX13 q0 v0)), ((q0 25), zi k17 400 (a1_ 0)), ((q0 26), zi k18 400 (a1_ 1)), ((q0 5), zi k4 122880 f4), ((q0 7), zi k6 120 f6), ((q0 28), zi k20 400 (a1_ 2)), ((q0 27), zi k19 400 (a1_ 3))]) hP hD [0, 1, 2, 3, 4, 5, 6] [7, 8] rfl rfl (by decide) (by decide) hk1 hFc hP1 hD1
  have hP : va_P (dC, dI) vwCl [(h0, .inr (13, mX13 q0 v0)), ((q0 25), zi k17 400 (a1_ 0)), ((q0 26), zi k18 400 (a1_ 1)), ((q0 5), zi k4 122880 f4), ((q0 7), zi k6 120 f6), ((q0 28), zi k20 400 (a1_ 2)), ((q0 27), zi k19 400 (a1_ 3)), ((q0 2), zi k2 4800 f2), ((q0 3), zi k3 400 f3)] H1 := hP.sub [2, 3, 4, 5, 6, 7, 8, 0, 1] rfl
  have hD : va_D A [(h0, .inr (13, mX13 q0 v0)), ((q0 25), zi k17 400 (a1_ 0)), ((q0 26), zi k18 400 (a1_ 1)), ((q0 5), zi k4 122880 f4), ((q0 7), zi k6 120 f6), ((q0 28), zi k20 400 (a1_ 2)), ((q0 27), zi k19 400 (a1_ 3)), ((q0 2), zi k2 4800 f2), ((q0 3), zi k3 400 f3)] := hD.sub [2, 3, 4, 5, 6, 7, 8, 0, 1] (by decide) rfl
  generalize H1 = H at hP hS ⊢
  clear hz1
  refine lv_iconst (v := 0) hx hb dX13_taken_4 (by decide) ?_
  refine lv_istore_n (lv' := [(1, .int 0), (0, .ref h0)]) hx hb dX13_taken_5 rfl hl (by decide) rfl (fun ls hl => ?_)
  refine lv_iconst (v := 0) hx hb dX13_taken_6 (by decide) ?_
  refine lv_istore_n (lv' := [(2, .int 0), (1, .int 0), (0, .ref h0)]) hx hb dX13_taken_7 rfl hl (by decide) rfl (fun ls hl => ?_)
  refine zcutL (fun u8_ => (400 - (u8_ 1).toInt).toNat) (fun H locs ls u8_ w8_ a8_ b8_ => va_P (dC, dI) vwCl [(h0, .inr (13, mX13 q0 v0)), ((q0 25), zi k17 400 (a1_ 0)), ((q0 26), zi k18 400 (a1_ 1)), ((q0 5), zi k4 122880 f4), ((q0 7), zi k6 120 f6), ((q0 28), zi k20 400 (a1_ 2)), ((q0 27), zi k19 400 (a1_ 3)), ((q0 2), zi k2 4800 f2), ((q0 3), zi k3 400 f3)] H ∧ va_D A [(h0, .inr (13, mX13 q0 v0)), ((q0 25), zi k17 400 (a1_ 0)), ((q0 26), zi k18 400 (a1_ 1)), ((q0 5), zi k4 122880 f4), ((q0 7), zi k6 120 f6), ((q0 28), zi k20 400 (a1_ 2)), ((q0 27), zi k19 400 (a1_ 3)), ((q0 2), zi k2 4800 f2), ((q0 3), zi k3 400 f3)] ∧ va_S A s.heap H locs ∧ lv_has ls 3 [(0, .ref h0), (1, .int (u8_ 0)), (2, .int (u8_ 1))] ∧ (0 ≤ (u8_ 0).toInt ∧ (u8_ 0).toInt ≤ 1551465600) ∧ (0 ≤ (u8_ 1).toInt ∧ (u8_ 1).toInt ≤ 400) ∧ (zTs (a1_ 0) (u8_ 1).toInt (u8_ 0).toInt) ∧ ((u8_ 1).toInt ≤ (v0 4).toInt) ∧ ((u8_ 0).toInt ≤ 3878664 * (u8_ 1).toInt) ∧ (zTz (a1_ 0) (u8_ 1).toInt (u8_ 0).toInt)) (fun ls u8_ w8_ => F0 m 8 ls []) 0 0 ?_ (fun hJ8 => ?_)
  · skip
    intro H locs ls u8_ w8_ a8_ b8_ hc hJ8
    obtain ⟨hP, hD, hS, hl, b_, b_, hI8_0, b_, b_, hI8_3⟩ := hc
    refine lv_iload_n hx hb dX13_taken_8 rfl (lv_at hl 2 rfl) ?_
    refine lv_aload_n hx hb dX13_taken_9 rfl (lv_at hl 0 rfl) ?_
    refine va_get (D := (dC, dI)) (ci := 13) (v := .int (v0 4)) (C := RX13) (T := TX13) (N := 75) hx hb hG zuX13 hown hK hP 0 rfl rfl 4 (by decide) (hG _ zv1608) (fun _ h9 => h9) rfl dX13_taken_10 ?_
    refine lv_icmp_ge (tgt := 34) hx hb dX13_taken_13 (by decide) (fun c_ => ?_) (fun c_ => ?_)
    · skip
      have b_ := zT_ge rfl rfl c_
      refine lv_iload_n hx hb dX13_taken_34 rfl (lv_at hl 1 rfl) ?_
      refine W.widen (k := 0) (n := 0) (by decide) (by decide) ?_
      have hpost : (0 ≤ (u8_ 0).toInt ∧ (u8_ 0).toInt ≤ 1551465600) ∧ ((u8_ 0).toInt = (u8_ 0).toInt) := ⟨(by first | with_reducible assumption | exact ⟨by omega, by omega⟩), rfl⟩
      have hP9 : va_P (dC, dI) vwCl [(h0, .inr (13, mX13 q0 v0)), ((q0 25), zi k17 400 (a1_ 0)), ((q0 26), zi k18 400 (a1_ 1)), ((q0 5), zi k4 122880 f4), ((q0 7), zi k6 120 f6), ((q0 28), zi k20 400 (a1_ 2)), ((q0 27), zi k19 400 (a1_ 3)), ((q0 2), zi k2 4800 f2), ((q0 3), zi k3 400 f3)] H := hP
      have hD9 : va_D A [(h0, .inr (13, mX13 q0 v0)), ((q0 25), zi k17 400 (a1_ 0)), ((q0 26), zi k18 400 (a1_ 1)), ((q0 5), zi k4 122880 f4), ((q0 7), zi k6 120 f6), ((q0 28), zi k20 400 (a1_ 2)), ((q0 27), zi k19 400 (a1_ 3)), ((q0 2), zi k2 4800 f2), ((q0 3), zi k3 400 f3)] := hD
      have hB0 : zTk f4 f6 (v0 4).toInt (v0 13).toInt (u8_ 0).toInt := by exact zTk_of hB1_0 hI8_0 (by omega)
      have hB1 : zTn f2 f3 (v0 4).toInt f4 f6 (v0 13).toInt (u8_ 0).toInt := by exact zTn_e hB1_0 hI8_3 (by omega) (by omega)
      exact W.iret (v := (u8_ 0)) hx hb hr (fun t ht hW => ⟨⟨(u8_ 0), (fun i => ([(u8_ 0)] : List (Int32)).getD i 0), rfl, hpost, (fun _ => 0), (fun i => ([(a1_ 0), (a1_ 1), (a1_ 2), (a1_ 3)] : List (Nat → Int32)).getD i (fun _ => 0)), (fun _ => (fun _ => 0)), ha1_1, ha1_3, hB0, hB1, by rw [ht]; exact hP9, va_K.moved hW.alike hK, hD9⟩, hS.F ht⟩) hS.2.2 dX13_taken_35
    · skip
      have b_ := zF_ge rfl rfl c_
      refine lv_iload_n hx hb dX13_taken_16 rfl (lv_at hl 1 rfl) ?_
      refine lv_aload_n hx hb dX13_taken_17 rfl (lv_at hl 0 rfl) ?_
      refine va_get (D := (dC, dI)) (ci := 13) (v := .ref (q0 25)) (C := RX13) (T := TX13) (N := 75) hx hb hG zuX13 hown hK hP 0 rfl rfl 25 (by decide) (hG _ zv1629) (fun _ h9 => h9) rfl dX13_taken_18 ?_
      refine lv_iload_n hx hb dX13_taken_21 rfl (lv_at hl 2 rfl) ?_
      refine va_iald hx hb hK hP 1 0 rfl rfl (zin_lit ⟨by omega, by omega⟩) dX13_taken_22 ?_
      refine lv_topi (fun z22 e_z22 => ?_)
      have b_ : 0 ≤ z22.toInt ∧ z22.toInt ≤ 2585520 := by rw [e_z22]; exact zM1_g (i := (u8_ 1)) hB1_0 (by omega) (by omega) (by omega) (by omega)
      have hPc := hP.sub (ws' := []) [] rfl
      have hDc := hD.sub (ws' := []) [] (by decide) rfl
      have hKc := hK.sub (tys' := []) [] rfl
      have hFc := va_free (wc := []) hD hS hA [] rfl
      refine va_calli (va_runS (As := [.int z22]) (rest := [.int (u8_ 0)]) ⟨hx, hb, hml, hown, hG⟩ (sX13_cost_0 l dC dI adK adV H.size z22 (show (0 : Int) ≤ (z22 : Int32).toInt ∧ (z22 : Int32).toInt ≤ (2585520 : Int) from (by first | with_reducible assumption | exact ⟨by omega, by omega⟩))) (va_cwS 1 hG (zgS zv1912 zv1913 zv142 zv1914) rfl rfl rfl (by decide +kernel) ⟨Nat.le_of_ble_eq_true rfl, Nat.le_of_ble_eq_true rfl⟩) ⟨zPc_blind, zPc_pre hPc hKc hDc hE hS hFc hZ⟩ rfl rfl hl.1 rfl (lv_room (Nat.le_of_ble_eq_true rfl)) dX13_taken_23 ⟨Nat.le_of_ble_eq_true rfl, Nat.le_of_ble_eq_true rfl⟩) hS (fun q _ h => hFc q h) hFc (fun r23_ u23_ t H1 locs ht hvm hw hB hz1 hk1 hS => ?_)
      replace hw : (0 ≤ r23_.toInt ∧ r23_.toInt ≤ 3878664) ∧ (z22.toInt ≤ r23_.toInt) ∧ (r23_.toInt ≤ 3878664) ∧ (0 ≤ z22.toInt → r23_.toInt = (zco (z22.toInt).toNat : Int)) := hw
      obtain ⟨b_, hX23_0, hX23_1, hX23_2⟩ := hw
      obtain ⟨w23_, a23_, b23_, hP1, hK1, hD1⟩ := hB
      rw [ht] at hP1
      obtain ⟨hP, hD⟩ := va_join (wr := [(h0, .inr (13, mX13 q0 v0)), ((q0 25), zi k17 400 (a1_ 0)), ((q0 26), zi k18 400 (a1_ 1)), ((q0 5), zi k4 122880 f4), ((q0 7), zi k6 120 f6), ((q0 28), zi k20 400 (a1_ 2)), ((q0 27), zi k19 400 (a1_ 3)), ((q0 2), zi k2 4800 f2), ((q0 3), zi k3 400 f3)]) (w1 := []) hP hD [] [0, 1, 2, 3, 4, 5, 6, 7, 8] rfl rfl (by decide) (by decide) hk1 hFc hP1 hD1
      have hP : va_P (dC, dI) vwCl [(h0, .inr (13, mX13 q0 v0)), ((q0 25), zi k17 400 (a1_ 0)), ((q0 26), zi k18 400 (a1_ 1)), ((q0 5), zi k4 122880 f4), ((q0 7), zi k6 120 f6), ((q0 28), zi k20 400 (a1_ 2)), ((q0 27), zi k19 400 (a1_ 3)), ((q0 2), zi k2 4800 f2), ((q0 3), zi k3 400 f3)] H1 := hP.sub [0, 1, 2, 3, 4, 5, 6, 7, 8] rfl
      have hD : va_D A [(h0, .inr (13, mX13 q0 v0)), ((q0 25), zi k17 400 (a1_ 0)), ((q0 26), zi k18 400 (a1_ 1)), ((q0 5), zi k4 122880 f4), ((q0 7), zi k6 120 f6), ((q0 28), zi k20 400 (a1_ 2)), ((q0 27), zi k19 400 (a1_ 3)), ((q0 2), zi k2 4800 f2), ((q0 3), zi k3 400 f3)] := hD.sub [0, 1, 2, 3, 4, 5, 6, 7, 8] (by decide) rfl
      generalize H1 = H at hP hS ⊢
      clear hz1
      refine lv_iadd hx hb dX13_taken_26 ?_
      refine lv_topi (fun z26 e_z26 => ?_)
      have b_ := zadd rfl rfl e_z26 (by omega) (by omega)
      refine lv_istore_n (lv' := [(1, .int z26), (0, .ref h0), (2, .int (u8_ 1))]) hx hb dX13_taken_27 rfl hl (by decide) rfl (fun ls hl => ?_)
      obtain ⟨z28, e_z28⟩ : ∃ z : Int32, z = (u8_ 1) + Int32.ofInt 1 := ⟨_, rfl⟩
      have b_ := zadd (x := (u8_ 1)) (y := Int32.ofInt 1) rfl (show (Int32.ofInt 1).toInt = 1 from by decide) e_z28 (by omega) (by omega)
      refine lv_iinc (v := z28) (lv' := [(2, .int z28), (1, .int z26), (0, .ref h0)]) hx hb dX13_taken_28 hl (k := 2) rfl e_z28.symm (by decide) rfl (fun ls hl => ?_)
      have hts : zTs (a1_ 0) z28.toInt z26.toInt := zTs_s (i := (u8_ 1)) hI8_0 rfl (by omega) (by omega) (by rw [← e_z22]; omega) (by omega)
      have htz : zTz (a1_ 0) z28.toInt z26.toInt := zTz_s (i := (u8_ 1)) hI8_3 rfl (by omega) e_z22 hX23_2 (by omega) (by omega)
      refine lv_goto (tgt := 8) hx hb dX13_taken_31 (by decide) ?_
      have hc : va_P (dC, dI) vwCl [(h0, .inr (13, mX13 q0 v0)), ((q0 25), zi k17 400 (a1_ 0)), ((q0 26), zi k18 400 (a1_ 1)), ((q0 5), zi k4 122880 f4), ((q0 7), zi k6 120 f6), ((q0 28), zi k20 400 (a1_ 2)), ((q0 27), zi k19 400 (a1_ 3)), ((q0 2), zi k2 4800 f2), ((q0 3), zi k3 400 f3)] H ∧ va_D A [(h0, .inr (13, mX13 q0 v0)), ((q0 25), zi k17 400 (a1_ 0)), ((q0 26), zi k18 400 (a1_ 1)), ((q0 5), zi k4 122880 f4), ((q0 7), zi k6 120 f6), ((q0 28), zi k20 400 (a1_ 2)), ((q0 27), zi k19 400 (a1_ 3)), ((q0 2), zi k2 4800 f2), ((q0 3), zi k3 400 f3)] ∧ va_S A s.heap H locs ∧ lv_has ls 3 [(0, .ref h0), (1, .int z26), (2, .int z28)] ∧ (0 ≤ z26.toInt ∧ z26.toInt ≤ 1551465600) ∧ (0 ≤ z28.toInt ∧ z28.toInt ≤ 400) ∧ (zTs (a1_ 0) z28.toInt z26.toInt) ∧ (z28.toInt ≤ (v0 4).toInt) ∧ (z26.toInt ≤ 3878664 * z28.toInt) ∧ (zTz (a1_ 0) z28.toInt z26.toInt) := ⟨hP, hD, hS, lv_sub hl [2, 1, 0] rfl, (by first | with_reducible assumption | exact ⟨by omega, by omega⟩), (by first | with_reducible assumption | exact ⟨by omega, by omega⟩), by first | exact hts | exact zTs_0 (by omega), by omega, by omega, by first | exact htz | exact zTz_0 (by decide) (by decide)⟩
      exact hJ8 H locs ls (fun i => ([z26, z28] : List (Int32)).getD i 0) (fun _ => 0) (fun _ => (fun _ => 0)) (fun _ => (fun _ => 0)) hc (show (400 - z28.toInt).toNat < (400 - (u8_ 1).toInt).toNat from by omega)
  · skip
    have hc : va_P (dC, dI) vwCl [(h0, .inr (13, mX13 q0 v0)), ((q0 25), zi k17 400 (a1_ 0)), ((q0 26), zi k18 400 (a1_ 1)), ((q0 5), zi k4 122880 f4), ((q0 7), zi k6 120 f6), ((q0 28), zi k20 400 (a1_ 2)), ((q0 27), zi k19 400 (a1_ 3)), ((q0 2), zi k2 4800 f2), ((q0 3), zi k3 400 f3)] H ∧ va_D A [(h0, .inr (13, mX13 q0 v0)), ((q0 25), zi k17 400 (a1_ 0)), ((q0 26), zi k18 400 (a1_ 1)), ((q0 5), zi k4 122880 f4), ((q0 7), zi k6 120 f6), ((q0 28), zi k20 400 (a1_ 2)), ((q0 27), zi k19 400 (a1_ 3)), ((q0 2), zi k2 4800 f2), ((q0 3), zi k3 400 f3)] ∧ va_S A s.heap H locs ∧ lv_has ls 3 [(0, .ref h0), (1, .int 0), (2, .int 0)] ∧ (0 ≤ (0 : Int32).toInt ∧ (0 : Int32).toInt ≤ 1551465600) ∧ (0 ≤ (0 : Int32).toInt ∧ (0 : Int32).toInt ≤ 400) ∧ (zTs (a1_ 0) (0 : Int32).toInt (0 : Int32).toInt) ∧ ((0 : Int32).toInt ≤ (v0 4).toInt) ∧ ((0 : Int32).toInt ≤ 3878664 * (0 : Int32).toInt) ∧ (zTz (a1_ 0) (0 : Int32).toInt (0 : Int32).toInt) := ⟨hP, hD, hS, lv_sub hl [2, 1, 0] rfl, (by first | with_reducible assumption | exact ⟨by omega, by omega⟩), (by first | with_reducible assumption | exact ⟨by omega, by omega⟩), by first | exact hts | exact zTs_0 (by omega), by omega, by omega, by first | exact htz | exact zTz_0 (by decide) (by decide)⟩
    exact hJ8 H locs ls (fun i => ([0, 0] : List (Int32)).getD i 0) (fun _ => 0) (fun _ => (fun _ => 0)) (fun _ => (fun _ => 0)) hc
set_option maxHeartbeats 8000000 in
set_option maxRecDepth 100000 in
theorem sX13_isLeft_0 (l : Launch) (dC : Nat → ClassId) (dI : Nat → Nat → Nat) (adK adV : Nat → Nat) (h0 : Nat) (q0 : Nat → Nat) (k40 : ClassId) (sz : Nat) (v0 : Nat → Int32) (f40 : Nat → Int32) (x1 : Int32) (x2 : Int32) (hv0 : zR rg_Model v0) (hx1 : 0 ≤ x1.toInt ∧ x1.toInt ≤ 39) : Met l yX13_isLeft (zw yX13_isLeft cX13_isLeft 3 (some .boolean)) { frames := 0, cells := 0, slots := 0, locals := 0 } (zPc dC dI adK adV [.ref h0, .int x1, .int x2] sz [(h0, .inr (13, mX13 q0 v0)), ((q0 64), zi k40 40 f40)] [(k40, .int)]) (va_Qi (fun (r : Int32) (u : Nat → Int32) => (0 ≤ r.toInt ∧ r.toInt ≤ 1) ∧ (r.toInt = 1 ↔ zIl f40 x1.toInt x2.toInt)) (fun (u : Nat → Int32) (t : State) => ∃ (ww : Nat → Int64) (aa : Nat → Nat → Int32) (bb : Nat → Nat → Int64), va_P (dC, dI) vwCl [(h0, .inr (13, mX13 q0 v0)), ((q0 64), zi k40 40 f40)] t.heap ∧ va_K (dC, dI) vwCl [(k40, .int)] t ∧ va_D (va_A [(h0, .inr (13, mX13 q0 v0)), ((q0 64), zi k40 40 f40)] sz) [(h0, .inr (13, mX13 q0 v0)), ((q0 64), zi k40 40 f40)]) (va_A [(h0, .inr (13, mX13 q0 v0)), ((q0 64), zi k40 40 f40)] sz)) 0 0 (va_A [(h0, .inr (13, mX13 q0 v0)), ((q0 64), zi k40 40 f40)] sz) := by
  refine Met.ofW (cc := cX13_isLeft) (maxL := 3) (ret := (some .boolean)) (by decide) rfl ?_
  intro p e s m args below meth c s₁ B hml hv
  obtain ⟨rfl, hsz, hP, hK, hD0, hE, hZ⟩ := hv
  have hx := B.exec
  have hb := B.bytes
  have hr := B.returns
  have hG : ∀ w ∈ zG, w.before _ s = true := fun w h => atoms_spec (ws := (zw yX13_isLeft cX13_isLeft 3 (some .boolean))) B.pre w (List.mem_cons_of_mem _ h)
  have hown : s.vm.findClass RX13 = some m.cls := findClass_of_methodNamed B.named
  have hlocks := B.notSynchronized

  subst hsz
  have hD := hD0.self (sz := s.heap.size)
  generalize hAe : va_A [(h0, .inr (13, mX13 q0 v0)), ((q0 64), zi k40 40 f40)] s.heap.size = A at hD hZ ⊢
  have hA : ∀ q : Nat, s.heap.size ≤ q → A q := fun q h => by rw [← hAe]; exact Or.inr h
  have hS : va_S A s.heap s.heap [] := va_S.rf
  have hl := lv_entry ([.ref h0, .int x1, .int x2]) (n := 3) (Nat.le_of_ble_eq_true rfl)
  rw [lg_entry_eq]
  generalize (lg_sl ([.ref h0, .int x1, .int x2]) ++ List.replicate (3 - (lg_sl ([.ref h0, .int x1, .int x2])).length) Slot.unset).toArray = ls at hl ⊢
  have hl : lv_has ls 3 [(0, .ref h0), (1, .int x1), (2, .int x2)] := hl
  have b_ := zk_0
  have b_ := zk_1
  refine lv_aload_n hx hb dX13_isLeft_0 rfl (lv_at hl 0 rfl) ?_
  refine va_get (D := (dC, dI)) (ci := 13) (v := .ref (q0 64)) (C := RX13) (T := TX13) (N := 75) hx hb hG zuX13 hown hK hP 0 rfl rfl 64 (by decide) (hG _ zv1668) (fun _ h9 => h9) rfl dX13_isLeft_1 ?_
  refine lv_iload_n hx hb dX13_isLeft_4 rfl (lv_at hl 1 rfl) ?_
  refine va_iald hx hb hK hP 1 0 rfl rfl (zin_lit ⟨by omega, by omega⟩) dX13_isLeft_5 ?_
  refine lv_topi (fun z5 e_z5 => ?_)
  have hlo : (f40 (x1.toInt).toNat).toInt = z5.toInt := congrArg Int32.toInt e_z5.symm
  have b_ : -2147483648 ≤ z5.toInt ∧ z5.toInt ≤ 2147483647 := ⟨zlo _, zhi _⟩
  refine lv_if_eq (tgt := 30) hx hb dX13_isLeft_6 (by decide) (fun c_ => ?_) (fun c_ => ?_)
  · skip
    have b_ := zT_eq rfl zk_0 c_
    refine lv_iconst (v := 1) hx hb dX13_isLeft_30 (by decide) ?_
    refine lv_goto (tgt := 35) hx hb dX13_isLeft_31 (by decide) ?_
    refine W.widen (k := 0) (n := 0) (by decide) (by decide) ?_
    have hpost : (0 ≤ (1 : Int32).toInt ∧ (1 : Int32).toInt ≤ 1) ∧ ((1 : Int32).toInt = 1 ↔ zIl f40 x1.toInt x2.toInt) := ⟨(by first | with_reducible assumption | exact ⟨by omega, by omega⟩), by unfold zIl; rw [hlo]; omega⟩
    have hP9 : va_P (dC, dI) vwCl [(h0, .inr (13, mX13 q0 v0)), ((q0 64), zi k40 40 f40)] s.heap := hP
    have hD9 : va_D A [(h0, .inr (13, mX13 q0 v0)), ((q0 64), zi k40 40 f40)] := hD
    exact W.zret (v := 1) hx hb hr rfl (fun t ht hW => ⟨⟨1, (fun _ => 0), rfl, hpost, (fun _ => 0), (fun _ => (fun _ => 0)), (fun _ => (fun _ => 0)), by rw [ht]; exact hP9, va_K.moved hW.alike hK, hD9⟩, hS.F ht⟩) hS.2.2 dX13_isLeft_35
  · skip
    have b_ := zF_eq rfl zk_0 c_
    refine lv_aload_n hx hb dX13_isLeft_9 rfl (lv_at hl 0 rfl) ?_
    refine va_get (D := (dC, dI)) (ci := 13) (v := .ref (q0 64)) (C := RX13) (T := TX13) (N := 75) hx hb hG zuX13 hown hK hP 0 rfl rfl 64 (by decide) (hG _ zv1668) (fun _ h9 => h9) rfl dX13_isLeft_10 ?_
    refine lv_iload_n hx hb dX13_isLeft_13 rfl (lv_at hl 1 rfl) ?_
    refine va_iald hx hb hK hP 1 0 rfl rfl (zin_lit ⟨by omega, by omega⟩) dX13_isLeft_14 ?_
    refine lv_topi (fun z14 e_z14 => ?_)
    have b_ : z14.toInt = z5.toInt := congrArg Int32.toInt (e_z14.trans e_z5.symm)
    refine lv_iload_n hx hb dX13_isLeft_15 rfl (lv_at hl 2 rfl) ?_
    refine lv_sipush (v := 512) hx hb dX13_isLeft_16 (by decide) ?_
    have b_ : -2147483648 ≤ x2.toInt ∧ x2.toInt ≤ 2147483647 := ⟨zlo _, zhi _⟩
    refine lv_icmp_ge (tgt := 26) hx hb dX13_isLeft_19 (by decide) (fun c_ => ?_) (fun c_ => ?_)
    · skip
      have b_ := zT_ge rfl zk_512 c_
      refine lv_iconst (v := 2) hx hb dX13_isLeft_26 (by decide) ?_
      have b_ : -2147483648 ≤ z14.toInt ∧ z14.toInt ≤ 2147483647 := ⟨zlo _, zhi _⟩
      refine lv_icmp_ne (tgt := 34) hx hb dX13_isLeft_27 (by decide) (fun c_ => ?_) (fun c_ => ?_)
      · skip
        have b_ := zT_ne rfl zk_2 c_
        refine lv_iconst (v := 0) hx hb dX13_isLeft_34 (by decide) ?_
        refine W.widen (k := 0) (n := 0) (by decide) (by decide) ?_
        have hpost : (0 ≤ (0 : Int32).toInt ∧ (0 : Int32).toInt ≤ 1) ∧ ((0 : Int32).toInt = 1 ↔ zIl f40 x1.toInt x2.toInt) := ⟨(by first | with_reducible assumption | exact ⟨by omega, by omega⟩), by unfold zIl; rw [hlo]; omega⟩
        have hP9 : va_P (dC, dI) vwCl [(h0, .inr (13, mX13 q0 v0)), ((q0 64), zi k40 40 f40)] s.heap := hP
        have hD9 : va_D A [(h0, .inr (13, mX13 q0 v0)), ((q0 64), zi k40 40 f40)] := hD
        exact W.zret (v := 0) hx hb hr rfl (fun t ht hW => ⟨⟨0, (fun _ => 0), rfl, hpost, (fun _ => 0), (fun _ => (fun _ => 0)), (fun _ => (fun _ => 0)), by rw [ht]; exact hP9, va_K.moved hW.alike hK, hD9⟩, hS.F ht⟩) hS.2.2 dX13_isLeft_35
      · skip
        have b_ := zF_ne rfl zk_2 c_
        refine lv_iconst (v := 1) hx hb dX13_isLeft_30 (by decide) ?_
        refine lv_goto (tgt := 35) hx hb dX13_isLeft_31 (by decide) ?_
        refine W.widen (k := 0) (n := 0) (by decide) (by decide) ?_
        have hpost : (0 ≤ (1 : Int32).toInt ∧ (1 : Int32).toInt ≤ 1) ∧ ((1 : Int32).toInt = 1 ↔ zIl f40 x1.toInt x2.toInt) := ⟨(by first | with_reducible assumption | exact ⟨by omega, by omega⟩), by unfold zIl; rw [hlo]; omega⟩
        have hP9 : va_P (dC, dI) vwCl [(h0, .inr (13, mX13 q0 v0)), ((q0 64), zi k40 40 f40)] s.heap := hP
        have hD9 : va_D A [(h0, .inr (13, mX13 q0 v0)), ((q0 64), zi k40 40 f40)] := hD
        exact W.zret (v := 1) hx hb hr rfl (fun t ht hW => ⟨⟨1, (fun _ => 0), rfl, hpost, (fun _ => 0), (fun _ => (fun _ => 0)), (fun _ => (fun _ => 0)), by rw [ht]; exact hP9, va_K.moved hW.alike hK, hD9⟩, hS.F ht⟩) hS.2.2 dX13_isLeft_35
    · skip
      have b_ := zF_ge rfl zk_512 c_
      refine lv_iconst (v := 1) hx hb dX13_isLeft_22 (by decide) ?_
      refine lv_goto (tgt := 27) hx hb dX13_isLeft_23 (by decide) ?_
      have b_ : -2147483648 ≤ z14.toInt ∧ z14.toInt ≤ 2147483647 := ⟨zlo _, zhi _⟩
      refine lv_icmp_ne (tgt := 34) hx hb dX13_isLeft_27 (by decide) (fun c_ => ?_) (fun c_ => ?_)
      · skip
        have b_ := zT_ne rfl zk_1 c_
        refine lv_iconst (v := 0) hx hb dX13_isLeft_34 (by decide) ?_
        refine W.widen (k := 0) (n := 0) (by decide) (by decide) ?_
        have hpost : (0 ≤ (0 : Int32).toInt ∧ (0 : Int32).toInt ≤ 1) ∧ ((0 : Int32).toInt = 1 ↔ zIl f40 x1.toInt x2.toInt) := ⟨(by first | with_reducible assumption | exact ⟨by omega, by omega⟩), by unfold zIl; rw [hlo]; omega⟩
        have hP9 : va_P (dC, dI) vwCl [(h0, .inr (13, mX13 q0 v0)), ((q0 64), zi k40 40 f40)] s.heap := hP
        have hD9 : va_D A [(h0, .inr (13, mX13 q0 v0)), ((q0 64), zi k40 40 f40)] := hD
        exact W.zret (v := 0) hx hb hr rfl (fun t ht hW => ⟨⟨0, (fun _ => 0), rfl, hpost, (fun _ => 0), (fun _ => (fun _ => 0)), (fun _ => (fun _ => 0)), by rw [ht]; exact hP9, va_K.moved hW.alike hK, hD9⟩, hS.F ht⟩) hS.2.2 dX13_isLeft_35
      · skip
        have b_ := zF_ne rfl zk_1 c_
        refine lv_iconst (v := 1) hx hb dX13_isLeft_30 (by decide) ?_
        refine lv_goto (tgt := 35) hx hb dX13_isLeft_31 (by decide) ?_
        refine W.widen (k := 0) (n := 0) (by decide) (by decide) ?_
        have hpost : (0 ≤ (1 : Int32).toInt ∧ (1 : Int32).toInt ≤ 1) ∧ ((1 : Int32).toInt = 1 ↔ zIl f40 x1.toInt x2.toInt) := ⟨(by first | with_reducible assumption | exact ⟨by omega, by omega⟩), by unfold zIl; rw [hlo]; omega⟩
        have hP9 : va_P (dC, dI) vwCl [(h0, .inr (13, mX13 q0 v0)), ((q0 64), zi k40 40 f40)] s.heap := hP
        have hD9 : va_D A [(h0, .inr (13, mX13 q0 v0)), ((q0 64), zi k40 40 f40)] := hD
        exact W.zret (v := 1) hx hb hr rfl (fun t ht hW => ⟨⟨1, (fun _ => 0), rfl, hpost, (fun _ => 0), (fun _ => (fun _ => 0)), (fun _ => (fun _ => 0)), by rw [ht]; exact hP9, va_K.moved hW.alike hK, hD9⟩, hS.F ht⟩) hS.2.2 dX13_isLeft_35
set_option maxHeartbeats 8000000 in
set_option maxRecDepth 100000 in
theorem sX13_isPhrase_0 (l : Launch) (dC : Nat → ClassId) (dI : Nat → Nat → Nat) (adK adV : Nat → Nat) (h0 : Nat) (q0 : Nat → Nat) (k29 : ClassId) (k28 : ClassId) (k37 : ClassId) (k4 : ClassId) (sz : Nat) (v0 : Nat → Int32) (f29 : Nat → Int32) (f28 : Nat → Int32) (f37 : Nat → Int32) (f4 : Nat → Int32) (x1 : Int32) (x2 : Int32) (x3 : Int32) (hv0 : zR rg_Model v0) (hf4 : zA 0 400 f4) (hx1 : 0 ≤ x1.toInt ∧ x1.toInt ≤ 39) (hx2 : 0 ≤ x2.toInt ∧ x2.toInt ≤ 119) (hx3 : 0 ≤ x3.toInt ∧ x3.toInt ≤ 1023) (hp0_ : 0 ≤ (f28 ((x1 : Int32)).toNatClampNeg).toInt) (hp1_ : 1 ≤ (f29 ((x1 : Int32)).toNatClampNeg).toInt) (hp2_ : (f28 ((x1 : Int32)).toNatClampNeg).toInt + (f29 ((x1 : Int32)).toNatClampNeg).toInt ≤ 200) : Met l yX13_isPhrase (zw yX13_isPhrase cX13_isPhrase 8 (some .boolean)) { frames := 0, cells := 0, slots := 0, locals := 0 } (zPc dC dI adK adV [.ref h0, .int x1, .int x2, .int x3] sz [(h0, .inr (13, mX13 q0 v0)), ((q0 45), zi k29 40 f29), ((q0 44), zi k28 40 f28), ((q0 61), zi k37 200 f37), ((q0 5), zi k4 122880 f4)] [(k29, .int), (k28, .int), (k37, .int), (k4, .short)]) (va_Qi (fun (r : Int32) (u : Nat → Int32) => (0 ≤ r.toInt ∧ r.toInt ≤ 1) ∧ (r.toInt = zphr f4 f37 (1024 * x2.toInt) (f28 ((x1 : Int32)).toNatClampNeg).toInt x3.toInt (zun x3.toInt) ((f29 ((x1 : Int32)).toNatClampNeg).toInt).toNat 0 0)) (fun (u : Nat → Int32) (t : State) => ∃ (ww : Nat → Int64) (aa : Nat → Nat → Int32) (bb : Nat → Nat → Int64), va_P (dC, dI) vwCl [(h0, .inr (13, mX13 q0 v0)), ((q0 45), zi k29 40 f29), ((q0 44), zi k28 40 f28), ((q0 61), zi k37 200 f37), ((q0 5), zi k4 122880 f4)] t.heap ∧ va_K (dC, dI) vwCl [(k29, .int), (k28, .int), (k37, .int), (k4, .short)] t ∧ va_D (va_A [(h0, .inr (13, mX13 q0 v0)), ((q0 45), zi k29 40 f29), ((q0 44), zi k28 40 f28), ((q0 61), zi k37 200 f37), ((q0 5), zi k4 122880 f4)] sz) [(h0, .inr (13, mX13 q0 v0)), ((q0 45), zi k29 40 f29), ((q0 44), zi k28 40 f28), ((q0 61), zi k37 200 f37), ((q0 5), zi k4 122880 f4)]) (va_A [(h0, .inr (13, mX13 q0 v0)), ((q0 45), zi k29 40 f29), ((q0 44), zi k28 40 f28), ((q0 61), zi k37 200 f37), ((q0 5), zi k4 122880 f4)] sz)) 0 0 (va_A [(h0, .inr (13, mX13 q0 v0)), ((q0 45), zi k29 40 f29), ((q0 44), zi k28 40 f28), ((q0 61), zi k37 200 f37), ((q0 5), zi k4 122880 f4)] sz) := by
  refine Met.ofW (cc := cX13_isPhrase) (maxL := 8) (ret := (some .boolean)) (by decide) rfl ?_
  intro p e s m args below meth c s₁ B hml hv
  obtain ⟨rfl, hsz, hP, hK, hD0, hE, hZ⟩ := hv
  have hx := B.exec
  have hb := B.bytes
  have hr := B.returns
  have hG : ∀ w ∈ zG, w.before _ s = true := fun w h => atoms_spec (ws := (zw yX13_isPhrase cX13_isPhrase 8 (some .boolean))) B.pre w (List.mem_cons_of_mem _ h)
  have hown : s.vm.findClass RX13 = some m.cls := findClass_of_methodNamed B.named
  have hlocks := B.notSynchronized

  subst hsz
  have hD := hD0.self (sz := s.heap.size)
  generalize hAe : va_A [(h0, .inr (13, mX13 q0 v0)), ((q0 45), zi k29 40 f29), ((q0 44), zi k28 40 f28), ((q0 61), zi k37 200 f37), ((q0 5), zi k4 122880 f4)] s.heap.size = A at hD hZ ⊢
  have hA : ∀ q : Nat, s.heap.size ≤ q → A q := fun q h => by rw [← hAe]; exact Or.inr h
  have hS : va_S A s.heap s.heap [] := va_S.rf
  have hl := lv_entry ([.ref h0, .int x1, .int x2, .int x3]) (n := 8) (Nat.le_of_ble_eq_true rfl)
  rw [lg_entry_eq]
  generalize (lg_sl ([.ref h0, .int x1, .int x2, .int x3]) ++ List.replicate (8 - (lg_sl ([.ref h0, .int x1, .int x2, .int x3])).length) Slot.unset).toArray = ls at hl ⊢
  have hl : lv_has ls 8 [(0, .ref h0), (1, .int x1), (2, .int x2), (3, .int x3)] := hl
  have b_ := zk_0
  have b_ := zk_1
  have b_ := zk_512
  have b_ := zk_1024
  refine lv_iload_n hx hb dX13_isPhrase_0 rfl (lv_at hl 3 rfl) ?_
  refine lv_sipush (v := 512) hx hb dX13_isPhrase_1 (by decide) ?_
  refine zcutW (fun H locs ls u16_ w16_ a16_ b16_ => va_P (dC, dI) vwCl [(h0, .inr (13, mX13 q0 v0)), ((q0 45), zi k29 40 f29), ((q0 44), zi k28 40 f28), ((q0 61), zi k37 200 f37), ((q0 5), zi k4 122880 f4)] H ∧ va_D A [(h0, .inr (13, mX13 q0 v0)), ((q0 45), zi k29 40 f29), ((q0 44), zi k28 40 f28), ((q0 61), zi k37 200 f37), ((q0 5), zi k4 122880 f4)] ∧ va_S A s.heap H locs ∧ lv_has ls 8 [(0, .ref h0), (1, .int x1), (2, .int x2), (3, .int x3)] ∧ (512 ≤ (u16_ 0).toInt ∧ (u16_ 0).toInt ≤ 1024) ∧ (0 ≤ x3.toInt ∧ x3.toInt ≤ 1023) ∧ ((u16_ 0).toInt = zun x3.toInt) ∧ ((u16_ 0).toInt ≤ 1024)) (fun ls u16_ w16_ => F0 m 16 ls [.int (u16_ 0)]) 0 0 ?_ (fun hJ16 => ?_)
  · skip
    intro H locs ls u16_ w16_ a16_ b16_ hc
    obtain ⟨hP, hD, hS, hl, b_, b_, hI16_0, b_⟩ := hc
    refine lv_istore (lv' := [(4, .int (u16_ 0)), (0, .ref h0), (1, .int x1), (2, .int x2), (3, .int x3)]) hx hb dX13_isPhrase_16 hl (by decide) rfl (fun ls hl => ?_)
    refine lv_iconst (v := 0) hx hb dX13_isPhrase_18 (by decide) ?_
    refine lv_istore (lv' := [(5, .int 0), (4, .int (u16_ 0)), (0, .ref h0), (1, .int x1), (2, .int x2), (3, .int x3)]) hx hb dX13_isPhrase_19 hl (by decide) rfl (fun ls hl => ?_)
    refine lv_iconst (v := 0) hx hb dX13_isPhrase_21 (by decide) ?_
    refine lv_istore (lv' := [(6, .int 0), (5, .int 0), (4, .int (u16_ 0)), (0, .ref h0), (1, .int x1), (2, .int x2), (3, .int x3)]) hx hb dX13_isPhrase_22 hl (by decide) rfl (fun ls hl => ?_)
    refine zcutL (fun u24_ => (200 - (u24_ 1).toInt).toNat) (fun H locs ls u24_ w24_ a24_ b24_ => va_P (dC, dI) vwCl [(h0, .inr (13, mX13 q0 v0)), ((q0 45), zi k29 40 f29), ((q0 44), zi k28 40 f28), ((q0 61), zi k37 200 f37), ((q0 5), zi k4 122880 f4)] H ∧ va_D A [(h0, .inr (13, mX13 q0 v0)), ((q0 45), zi k29 40 f29), ((q0 44), zi k28 40 f28), ((q0 61), zi k37 200 f37), ((q0 5), zi k4 122880 f4)] ∧ va_S A s.heap H locs ∧ lv_has ls 8 [(0, .ref h0), (1, .int x1), (2, .int x2), (3, .int x3), (4, .int (u16_ 0)), (5, .int (u24_ 0)), (6, .int (u24_ 1))] ∧ (0 ≤ (u24_ 0).toInt ∧ (u24_ 0).toInt ≤ 1) ∧ (0 ≤ (u24_ 1).toInt ∧ (u24_ 1).toInt ≤ 200) ∧ (zphr f4 f37 (1024 * x2.toInt) (f28 ((x1 : Int32)).toNatClampNeg).toInt x3.toInt (zun x3.toInt) ((f29 ((x1 : Int32)).toNatClampNeg).toInt - (u24_ 1).toInt).toNat (u24_ 1).toInt (u24_ 0).toInt = zphr f4 f37 (1024 * x2.toInt) (f28 ((x1 : Int32)).toNatClampNeg).toInt x3.toInt (zun x3.toInt) ((f29 ((x1 : Int32)).toNatClampNeg).toInt).toNat 0 0) ∧ ((u24_ 1).toInt ≤ (f29 ((x1 : Int32)).toNatClampNeg).toInt) ∧ ((u16_ 0).toInt = zun x3.toInt) ∧ ((u16_ 0).toInt ≤ 1024)) (fun ls u24_ w24_ => F0 m 24 ls []) 0 0 ?_ (fun hJ24 => ?_)
    · skip
      intro H locs ls u24_ w24_ a24_ b24_ hc hJ24
      obtain ⟨hP, hD, hS, hl, b_, b_, hI24_0, b_, hI24_2, b_⟩ := hc
      refine lv_iload hx hb dX13_isPhrase_24 (lv_at hl 6 rfl) ?_
      refine lv_aload_n hx hb dX13_isPhrase_26 rfl (lv_at hl 0 rfl) ?_
      refine va_get (D := (dC, dI)) (ci := 13) (v := .ref (q0 45)) (C := RX13) (T := TX13) (N := 75) hx hb hG zuX13 hown hK hP 0 rfl rfl 45 (by decide) (hG _ zv1649) (fun _ h9 => h9) rfl dX13_isPhrase_27 ?_
      refine lv_iload_n hx hb dX13_isPhrase_30 rfl (lv_at hl 1 rfl) ?_
      refine va_iald hx hb hK hP 1 0 rfl rfl (zin_lit ⟨by omega, by omega⟩) dX13_isPhrase_31 ?_
      refine lv_topi (fun z31 e_z31 => ?_)
      have b_ : z31.toInt = (f29 (x1 : Int32).toNatClampNeg).toInt := by rw [e_z31]
      have b_ : -2147483648 ≤ z31.toInt ∧ z31.toInt ≤ 2147483647 := ⟨zlo _, zhi _⟩
      refine lv_icmp_ge (tgt := 105) hx hb dX13_isPhrase_32 (by decide) (fun c_ => ?_) (fun c_ => ?_)
      · skip
        have b_ := zT_ge rfl rfl c_
        have hres : (u24_ 0).toInt = zphr f4 f37 (1024 * x2.toInt) (f28 ((x1 : Int32)).toNatClampNeg).toInt x3.toInt (zun x3.toInt) ((f29 ((x1 : Int32)).toNatClampNeg).toInt).toNat 0 0 := (zphr_z (by omega)).symm.trans hI24_0
        refine lv_iload hx hb dX13_isPhrase_105 (lv_at hl 5 rfl) ?_
        refine W.widen (k := 0) (n := 0) (by decide) (by decide) ?_
        have hpost : (0 ≤ (u24_ 0).toInt ∧ (u24_ 0).toInt ≤ 1) ∧ ((u24_ 0).toInt = zphr f4 f37 (1024 * x2.toInt) (f28 ((x1 : Int32)).toNatClampNeg).toInt x3.toInt (zun x3.toInt) ((f29 ((x1 : Int32)).toNatClampNeg).toInt).toNat 0 0) := ⟨(by first | with_reducible assumption | exact ⟨by omega, by omega⟩), by exact hres⟩
        have hP9 : va_P (dC, dI) vwCl [(h0, .inr (13, mX13 q0 v0)), ((q0 45), zi k29 40 f29), ((q0 44), zi k28 40 f28), ((q0 61), zi k37 200 f37), ((q0 5), zi k4 122880 f4)] H := hP
        have hD9 : va_D A [(h0, .inr (13, mX13 q0 v0)), ((q0 45), zi k29 40 f29), ((q0 44), zi k28 40 f28), ((q0 61), zi k37 200 f37), ((q0 5), zi k4 122880 f4)] := hD
        exact W.zret (v := (u24_ 0)) hx hb hr (zbn ⟨by omega, by omega⟩) (fun t ht hW => ⟨⟨(u24_ 0), (fun _ => 0), rfl, hpost, (fun _ => 0), (fun _ => (fun _ => 0)), (fun _ => (fun _ => 0)), by rw [ht]; exact hP9, va_K.moved hW.alike hK, hD9⟩, hS.F ht⟩) hS.2.2 dX13_isPhrase_107
      · skip
        have b_ := zF_ge rfl rfl c_
        refine lv_aload_n hx hb dX13_isPhrase_35 rfl (lv_at hl 0 rfl) ?_
        refine va_get (D := (dC, dI)) (ci := 13) (v := .ref (q0 61)) (C := RX13) (T := TX13) (N := 75) hx hb hG zuX13 hown hK hP 0 rfl rfl 61 (by decide) (hG _ zv1665) (fun _ h9 => h9) rfl dX13_isPhrase_36 ?_
        refine lv_aload_n hx hb dX13_isPhrase_39 rfl (lv_at hl 0 rfl) ?_
        refine va_get (D := (dC, dI)) (ci := 13) (v := .ref (q0 44)) (C := RX13) (T := TX13) (N := 75) hx hb hG zuX13 hown hK hP 0 rfl rfl 44 (by decide) (hG _ zv1648) (fun _ h9 => h9) rfl dX13_isPhrase_40 ?_
        refine lv_iload_n hx hb dX13_isPhrase_43 rfl (lv_at hl 1 rfl) ?_
        refine va_iald hx hb hK hP 2 1 rfl rfl (zin_lit ⟨by omega, by omega⟩) dX13_isPhrase_44 ?_
        refine lv_topi (fun z44 e_z44 => ?_)
        have b_ : z44.toInt = (f28 (x1 : Int32).toNatClampNeg).toInt := by rw [e_z44]
        have b_ : -2147483648 ≤ z44.toInt ∧ z44.toInt ≤ 2147483647 := ⟨zlo _, zhi _⟩
        refine lv_iload hx hb dX13_isPhrase_45 (lv_at hl 6 rfl) ?_
        refine lv_iadd hx hb dX13_isPhrase_47 ?_
        refine lv_topi (fun z47 e_z47 => ?_)
        have b_ := zadd rfl rfl e_z47 (by omega) (by omega)
        refine va_iald hx hb hK hP 3 2 rfl rfl (zin_lit ⟨by omega, by omega⟩) dX13_isPhrase_48 ?_
        refine lv_topi (fun z48 e_z48 => ?_)
        have hme : (f37 ((f28 (x1 : Int32).toNatClampNeg).toInt + (u24_ 1).toInt).toNat).toInt = z48.toInt := congrArg Int32.toInt ((e_z48.trans (zix (by omega))).symm)
        refine lv_istore (lv' := [(7, .int z48), (0, .ref h0), (1, .int x1), (2, .int x2), (3, .int x3), (4, .int (u16_ 0)), (5, .int (u24_ 0)), (6, .int (u24_ 1))]) hx hb dX13_isPhrase_49 hl (by decide) rfl (fun ls hl => ?_)
        refine lv_iload hx hb dX13_isPhrase_51 (lv_at hl 0 rfl) ?_
        refine lv_iconst (v := (-1)) hx hb dX13_isPhrase_53 (by decide) ?_
        have b_ : -2147483648 ≤ z48.toInt ∧ z48.toInt ≤ 2147483647 := ⟨zlo _, zhi _⟩
        refine lv_icmp_ne (tgt := 60) hx hb dX13_isPhrase_54 (by decide) (fun c_ => ?_) (fun c_ => ?_)
        · skip
          have b_ := zT_ne rfl zk_m1 c_
          refine lv_iload hx hb dX13_isPhrase_60 (lv_at hl 0 rfl) ?_
          refine lv_if_eq (tgt := 94) hx hb dX13_isPhrase_62 (by decide) (fun c_ => ?_) (fun c_ => ?_)
          · skip
            have b_ := zT_eq rfl zk_0 c_
            have hres : (0 : Int32).toInt = zphr f4 f37 (1024 * x2.toInt) (f28 ((x1 : Int32)).toNatClampNeg).toInt x3.toInt (zun x3.toInt) ((f29 ((x1 : Int32)).toNatClampNeg).toInt).toNat 0 0 := by rw [zk_0]; exact ((zphr_b (by omega) (by rw [hme]; omega) (by rw [hme]; exact Or.inl (by omega))).symm.trans hI24_0)
            refine lv_iconst (v := 0) hx hb dX13_isPhrase_94 (by decide) ?_
            refine W.widen (k := 0) (n := 0) (by decide) (by decide) ?_
            have hpost : (0 ≤ (0 : Int32).toInt ∧ (0 : Int32).toInt ≤ 1) ∧ ((0 : Int32).toInt = zphr f4 f37 (1024 * x2.toInt) (f28 ((x1 : Int32)).toNatClampNeg).toInt x3.toInt (zun x3.toInt) ((f29 ((x1 : Int32)).toNatClampNeg).toInt).toNat 0 0) := ⟨(by first | with_reducible assumption | exact ⟨by omega, by omega⟩), by exact hres⟩
            have hP9 : va_P (dC, dI) vwCl [(h0, .inr (13, mX13 q0 v0)), ((q0 45), zi k29 40 f29), ((q0 44), zi k28 40 f28), ((q0 61), zi k37 200 f37), ((q0 5), zi k4 122880 f4)] H := hP
            have hD9 : va_D A [(h0, .inr (13, mX13 q0 v0)), ((q0 45), zi k29 40 f29), ((q0 44), zi k28 40 f28), ((q0 61), zi k37 200 f37), ((q0 5), zi k4 122880 f4)] := hD
            exact W.zret (v := 0) hx hb hr rfl (fun t ht hW => ⟨⟨0, (fun _ => 0), rfl, hpost, (fun _ => 0), (fun _ => (fun _ => 0)), (fun _ => (fun _ => 0)), by rw [ht]; exact hP9, va_K.moved hW.alike hK, hD9⟩, hS.F ht⟩) hS.2.2 dX13_isPhrase_95
          · skip
            have b_ := zF_eq rfl zk_0 c_
            refine lv_iload_n hx hb dX13_isPhrase_65 rfl (lv_at hl 4 rfl) ?_
            refine lv_iload hx hb dX13_isPhrase_66 (lv_at hl 7 rfl) ?_
            refine lv_iadd hx hb dX13_isPhrase_68 ?_
            refine lv_topi (fun z68 e_z68 => ?_)
            have b_ := zadd rfl rfl e_z68 (by omega) (by omega)
            refine lv_iload hx hb dX13_isPhrase_69 (lv_at hl 5 rfl) ?_
            refine lv_icmp_ge (tgt := 94) hx hb dX13_isPhrase_71 (by decide) (fun c_ => ?_) (fun c_ => ?_)
            · skip
              have b_ := zT_ge rfl rfl c_
              have hres : (0 : Int32).toInt = zphr f4 f37 (1024 * x2.toInt) (f28 ((x1 : Int32)).toNatClampNeg).toInt x3.toInt (zun x3.toInt) ((f29 ((x1 : Int32)).toNatClampNeg).toInt).toNat 0 0 := by rw [zk_0]; exact ((zphr_b (by omega) (by rw [hme]; omega) (by rw [hme]; exact Or.inr (Or.inl (by omega)))).symm.trans hI24_0)
              refine lv_iconst (v := 0) hx hb dX13_isPhrase_94 (by decide) ?_
              refine W.widen (k := 0) (n := 0) (by decide) (by decide) ?_
              have hpost : (0 ≤ (0 : Int32).toInt ∧ (0 : Int32).toInt ≤ 1) ∧ ((0 : Int32).toInt = zphr f4 f37 (1024 * x2.toInt) (f28 ((x1 : Int32)).toNatClampNeg).toInt x3.toInt (zun x3.toInt) ((f29 ((x1 : Int32)).toNatClampNeg).toInt).toNat 0 0) := ⟨(by first | with_reducible assumption | exact ⟨by omega, by omega⟩), by exact hres⟩
              have hP9 : va_P (dC, dI) vwCl [(h0, .inr (13, mX13 q0 v0)), ((q0 45), zi k29 40 f29), ((q0 44), zi k28 40 f28), ((q0 61), zi k37 200 f37), ((q0 5), zi k4 122880 f4)] H := hP
              have hD9 : va_D A [(h0, .inr (13, mX13 q0 v0)), ((q0 45), zi k29 40 f29), ((q0 44), zi k28 40 f28), ((q0 61), zi k37 200 f37), ((q0 5), zi k4 122880 f4)] := hD
              exact W.zret (v := 0) hx hb hr rfl (fun t ht hW => ⟨⟨0, (fun _ => 0), rfl, hpost, (fun _ => 0), (fun _ => (fun _ => 0)), (fun _ => (fun _ => 0)), by rw [ht]; exact hP9, va_K.moved hW.alike hK, hD9⟩, hS.F ht⟩) hS.2.2 dX13_isPhrase_95
            · skip
              have b_ := zF_ge rfl rfl c_
              refine lv_aload_n hx hb dX13_isPhrase_74 rfl (lv_at hl 1 rfl) ?_
              refine va_get (D := (dC, dI)) (ci := 13) (v := .ref (q0 5)) (C := RX13) (T := TX13) (N := 75) hx hb hG zuX13 hown hK hP 0 rfl rfl 5 (by decide) (hG _ zv1609) (fun _ h9 => h9) rfl dX13_isPhrase_75 ?_
              refine lv_sipush (v := 1024) hx hb dX13_isPhrase_78 (by decide) ?_
              refine lv_iload_n hx hb dX13_isPhrase_81 rfl (lv_at hl 3 rfl) ?_
              refine lv_imul hx hb dX13_isPhrase_82 ?_
              refine lv_topi (fun z82 e_z82 => ?_)
              have b_ := zmul zk_1024 rfl e_z82 (by omega) (by omega)
              refine lv_iload_n hx hb dX13_isPhrase_83 rfl (lv_at hl 4 rfl) ?_
              refine lv_iadd hx hb dX13_isPhrase_84 ?_
              refine lv_topi (fun z84 e_z84 => ?_)
              have b_ := zadd rfl rfl e_z84 (by omega) (by omega)
              refine lv_iload hx hb dX13_isPhrase_85 (lv_at hl 7 rfl) ?_
              refine lv_iadd hx hb dX13_isPhrase_87 ?_
              refine lv_topi (fun z87 e_z87 => ?_)
              have b_ := zadd rfl rfl e_z87 (by omega) (by omega)
              refine va_sald hx hb hK hP 4 3 rfl rfl (zin_lit ⟨by omega, by omega⟩) dX13_isPhrase_88 ?_
              refine lv_topi (fun z88 e_z88 => ?_)
              have b_ : 0 ≤ z88.toInt ∧ z88.toInt ≤ 400 := by rw [e_z88]; exact hf4 _
              have hat : (f4 (1024 * x2.toInt + x3.toInt + (u24_ 1).toInt).toNat).toInt = z88.toInt := congrArg Int32.toInt ((e_z88.trans (zix (by omega))).symm)
              refine lv_iload hx hb dX13_isPhrase_89 (lv_at hl 0 rfl) ?_
              refine lv_icmp_eq (tgt := 96) hx hb dX13_isPhrase_91 (by decide) (fun c_ => ?_) (fun c_ => ?_)
              · skip
                have b_ := zT_eq rfl rfl c_
                refine lv_iconst (v := 1) hx hb dX13_isPhrase_96 (by decide) ?_
                refine lv_istore (lv' := [(5, .int 1), (7, .int z48), (0, .ref h0), (1, .int x1), (2, .int x2), (3, .int x3), (4, .int (u16_ 0)), (6, .int (u24_ 1))]) hx hb dX13_isPhrase_97 hl (by decide) rfl (fun ls hl => ?_)
                obtain ⟨z99, e_z99⟩ : ∃ z : Int32, z = (u24_ 1) + Int32.ofInt 1 := ⟨_, rfl⟩
                have b_ := zadd (x := (u24_ 1)) (y := Int32.ofInt 1) rfl (show (Int32.ofInt 1).toInt = 1 from by decide) e_z99 (by omega) (by omega)
                refine lv_iinc (v := z99) (lv' := [(6, .int z99), (5, .int 1), (7, .int z48), (0, .ref h0), (1, .int x1), (2, .int x2), (3, .int x3), (4, .int (u16_ 0))]) hx hb dX13_isPhrase_99 hl (k := 7) rfl e_z99.symm (by decide) rfl (fun ls hl => ?_)
                have hps : zphr f4 f37 (1024 * x2.toInt) (f28 ((x1 : Int32)).toNatClampNeg).toInt x3.toInt (zun x3.toInt) ((f29 ((x1 : Int32)).toNatClampNeg).toInt - z99.toInt).toNat z99.toInt (1 : Int32).toInt = zphr f4 f37 (1024 * x2.toInt) (f28 ((x1 : Int32)).toNatClampNeg).toInt x3.toInt (zun x3.toInt) ((f29 ((x1 : Int32)).toNatClampNeg).toInt).toNat 0 0 := by
                  rw [show z99.toInt = (u24_ 1).toInt + 1 from by omega]
                  rw [zk_1]
                  exact (zphr_c (by omega) (by rw [hme]; omega) (by rw [hme, hat]; omega)).symm.trans hI24_0
                refine lv_goto (tgt := 24) hx hb dX13_isPhrase_102 (by decide) ?_
                have hc : va_P (dC, dI) vwCl [(h0, .inr (13, mX13 q0 v0)), ((q0 45), zi k29 40 f29), ((q0 44), zi k28 40 f28), ((q0 61), zi k37 200 f37), ((q0 5), zi k4 122880 f4)] H ∧ va_D A [(h0, .inr (13, mX13 q0 v0)), ((q0 45), zi k29 40 f29), ((q0 44), zi k28 40 f28), ((q0 61), zi k37 200 f37), ((q0 5), zi k4 122880 f4)] ∧ va_S A s.heap H locs ∧ lv_has ls 8 [(0, .ref h0), (1, .int x1), (2, .int x2), (3, .int x3), (4, .int (u16_ 0)), (5, .int 1), (6, .int z99)] ∧ (0 ≤ (1 : Int32).toInt ∧ (1 : Int32).toInt ≤ 1) ∧ (0 ≤ z99.toInt ∧ z99.toInt ≤ 200) ∧ (zphr f4 f37 (1024 * x2.toInt) (f28 ((x1 : Int32)).toNatClampNeg).toInt x3.toInt (zun x3.toInt) ((f29 ((x1 : Int32)).toNatClampNeg).toInt - z99.toInt).toNat z99.toInt (1 : Int32).toInt = zphr f4 f37 (1024 * x2.toInt) (f28 ((x1 : Int32)).toNatClampNeg).toInt x3.toInt (zun x3.toInt) ((f29 ((x1 : Int32)).toNatClampNeg).toInt).toNat 0 0) ∧ (z99.toInt ≤ (f29 ((x1 : Int32)).toNatClampNeg).toInt) ∧ ((u16_ 0).toInt = zun x3.toInt) ∧ ((u16_ 0).toInt ≤ 1024) := ⟨hP, hD, hS, lv_sub hl [3, 4, 5, 6, 7, 1, 0] rfl, (by first | with_reducible assumption | exact ⟨by omega, by omega⟩), (by first | with_reducible assumption | exact ⟨by omega, by omega⟩), by first | exact hps | (rw [zk_0, Int.sub_zero]), by omega, by assumption, by omega⟩
                exact hJ24 H locs ls (fun i => ([1, z99] : List (Int32)).getD i 0) (fun _ => 0) (fun _ => (fun _ => 0)) (fun _ => (fun _ => 0)) hc (show (200 - z99.toInt).toNat < (200 - (u24_ 1).toInt).toNat from by omega)
              · skip
                have b_ := zF_eq rfl rfl c_
                have hres : (0 : Int32).toInt = zphr f4 f37 (1024 * x2.toInt) (f28 ((x1 : Int32)).toNatClampNeg).toInt x3.toInt (zun x3.toInt) ((f29 ((x1 : Int32)).toNatClampNeg).toInt).toNat 0 0 := by rw [zk_0]; exact ((zphr_b (by omega) (by rw [hme]; omega) (by rw [hme]; exact Or.inr (Or.inr (by rw [hat]; omega)))).symm.trans hI24_0)
                refine lv_iconst (v := 0) hx hb dX13_isPhrase_94 (by decide) ?_
                refine W.widen (k := 0) (n := 0) (by decide) (by decide) ?_
                have hpost : (0 ≤ (0 : Int32).toInt ∧ (0 : Int32).toInt ≤ 1) ∧ ((0 : Int32).toInt = zphr f4 f37 (1024 * x2.toInt) (f28 ((x1 : Int32)).toNatClampNeg).toInt x3.toInt (zun x3.toInt) ((f29 ((x1 : Int32)).toNatClampNeg).toInt).toNat 0 0) := ⟨(by first | with_reducible assumption | exact ⟨by omega, by omega⟩), by exact hres⟩
                have hP9 : va_P (dC, dI) vwCl [(h0, .inr (13, mX13 q0 v0)), ((q0 45), zi k29 40 f29), ((q0 44), zi k28 40 f28), ((q0 61), zi k37 200 f37), ((q0 5), zi k4 122880 f4)] H := hP
                have hD9 : va_D A [(h0, .inr (13, mX13 q0 v0)), ((q0 45), zi k29 40 f29), ((q0 44), zi k28 40 f28), ((q0 61), zi k37 200 f37), ((q0 5), zi k4 122880 f4)] := hD
                exact W.zret (v := 0) hx hb hr rfl (fun t ht hW => ⟨⟨0, (fun _ => 0), rfl, hpost, (fun _ => 0), (fun _ => (fun _ => 0)), (fun _ => (fun _ => 0)), by rw [ht]; exact hP9, va_K.moved hW.alike hK, hD9⟩, hS.F ht⟩) hS.2.2 dX13_isPhrase_95
        · skip
          have b_ := zF_ne rfl zk_m1 c_
          refine lv_goto (tgt := 99) hx hb dX13_isPhrase_57 (by decide) ?_
          obtain ⟨z99, e_z99⟩ : ∃ z : Int32, z = (u24_ 1) + Int32.ofInt 1 := ⟨_, rfl⟩
          have b_ := zadd (x := (u24_ 1)) (y := Int32.ofInt 1) rfl (show (Int32.ofInt 1).toInt = 1 from by decide) e_z99 (by omega) (by omega)
          refine lv_iinc (v := z99) (lv' := [(6, .int z99), (7, .int z48), (0, .ref h0), (1, .int x1), (2, .int x2), (3, .int x3), (4, .int (u16_ 0)), (5, .int (u24_ 0))]) hx hb dX13_isPhrase_99 hl (k := 7) rfl e_z99.symm (by decide) rfl (fun ls hl => ?_)
          have hps : zphr f4 f37 (1024 * x2.toInt) (f28 ((x1 : Int32)).toNatClampNeg).toInt x3.toInt (zun x3.toInt) ((f29 ((x1 : Int32)).toNatClampNeg).toInt - z99.toInt).toNat z99.toInt (u24_ 0).toInt = zphr f4 f37 (1024 * x2.toInt) (f28 ((x1 : Int32)).toNatClampNeg).toInt x3.toInt (zun x3.toInt) ((f29 ((x1 : Int32)).toNatClampNeg).toInt).toNat 0 0 := by
            rw [show z99.toInt = (u24_ 1).toInt + 1 from by omega]
            exact (zphr_a (by omega) (by rw [hme]; omega)).symm.trans hI24_0
          refine lv_goto (tgt := 24) hx hb dX13_isPhrase_102 (by decide) ?_
          have hc : va_P (dC, dI) vwCl [(h0, .inr (13, mX13 q0 v0)), ((q0 45), zi k29 40 f29), ((q0 44), zi k28 40 f28), ((q0 61), zi k37 200 f37), ((q0 5), zi k4 122880 f4)] H ∧ va_D A [(h0, .inr (13, mX13 q0 v0)), ((q0 45), zi k29 40 f29), ((q0 44), zi k28 40 f28), ((q0 61), zi k37 200 f37), ((q0 5), zi k4 122880 f4)] ∧ va_S A s.heap H locs ∧ lv_has ls 8 [(0, .ref h0), (1, .int x1), (2, .int x2), (3, .int x3), (4, .int (u16_ 0)), (5, .int (u24_ 0)), (6, .int z99)] ∧ (0 ≤ (u24_ 0).toInt ∧ (u24_ 0).toInt ≤ 1) ∧ (0 ≤ z99.toInt ∧ z99.toInt ≤ 200) ∧ (zphr f4 f37 (1024 * x2.toInt) (f28 ((x1 : Int32)).toNatClampNeg).toInt x3.toInt (zun x3.toInt) ((f29 ((x1 : Int32)).toNatClampNeg).toInt - z99.toInt).toNat z99.toInt (u24_ 0).toInt = zphr f4 f37 (1024 * x2.toInt) (f28 ((x1 : Int32)).toNatClampNeg).toInt x3.toInt (zun x3.toInt) ((f29 ((x1 : Int32)).toNatClampNeg).toInt).toNat 0 0) ∧ (z99.toInt ≤ (f29 ((x1 : Int32)).toNatClampNeg).toInt) ∧ ((u16_ 0).toInt = zun x3.toInt) ∧ ((u16_ 0).toInt ≤ 1024) := ⟨hP, hD, hS, lv_sub hl [2, 3, 4, 5, 6, 7, 0] rfl, (by first | with_reducible assumption | exact ⟨by omega, by omega⟩), (by first | with_reducible assumption | exact ⟨by omega, by omega⟩), by first | exact hps | (rw [zk_0, Int.sub_zero]), by omega, by assumption, by omega⟩
          exact hJ24 H locs ls (fun i => ([(u24_ 0), z99] : List (Int32)).getD i 0) (fun _ => 0) (fun _ => (fun _ => 0)) (fun _ => (fun _ => 0)) hc (show (200 - z99.toInt).toNat < (200 - (u24_ 1).toInt).toNat from by omega)
    · skip
      have hc : va_P (dC, dI) vwCl [(h0, .inr (13, mX13 q0 v0)), ((q0 45), zi k29 40 f29), ((q0 44), zi k28 40 f28), ((q0 61), zi k37 200 f37), ((q0 5), zi k4 122880 f4)] H ∧ va_D A [(h0, .inr (13, mX13 q0 v0)), ((q0 45), zi k29 40 f29), ((q0 44), zi k28 40 f28), ((q0 61), zi k37 200 f37), ((q0 5), zi k4 122880 f4)] ∧ va_S A s.heap H locs ∧ lv_has ls 8 [(0, .ref h0), (1, .int x1), (2, .int x2), (3, .int x3), (4, .int (u16_ 0)), (5, .int 0), (6, .int 0)] ∧ (0 ≤ (0 : Int32).toInt ∧ (0 : Int32).toInt ≤ 1) ∧ (0 ≤ (0 : Int32).toInt ∧ (0 : Int32).toInt ≤ 200) ∧ (zphr f4 f37 (1024 * x2.toInt) (f28 ((x1 : Int32)).toNatClampNeg).toInt x3.toInt (zun x3.toInt) ((f29 ((x1 : Int32)).toNatClampNeg).toInt - (0 : Int32).toInt).toNat (0 : Int32).toInt (0 : Int32).toInt = zphr f4 f37 (1024 * x2.toInt) (f28 ((x1 : Int32)).toNatClampNeg).toInt x3.toInt (zun x3.toInt) ((f29 ((x1 : Int32)).toNatClampNeg).toInt).toNat 0 0) ∧ ((0 : Int32).toInt ≤ (f29 ((x1 : Int32)).toNatClampNeg).toInt) ∧ ((u16_ 0).toInt = zun x3.toInt) ∧ ((u16_ 0).toInt ≤ 1024) := ⟨hP, hD, hS, lv_sub hl [3, 4, 5, 6, 2, 1, 0] rfl, (by first | with_reducible assumption | exact ⟨by omega, by omega⟩), (by first | with_reducible assumption | exact ⟨by omega, by omega⟩), by first | exact hps | (rw [zk_0, Int.sub_zero]), by omega, by assumption, by omega⟩
      exact hJ24 H locs ls (fun i => ([0, 0] : List (Int32)).getD i 0) (fun _ => 0) (fun _ => (fun _ => 0)) (fun _ => (fun _ => 0)) hc
  · skip
    refine lv_icmp_ge (tgt := 13) hx hb dX13_isPhrase_4 (by decide) (fun c_ => ?_) (fun c_ => ?_)
    · skip
      have b_ := zT_ge rfl zk_512 c_
      refine lv_sipush (v := 1024) hx hb dX13_isPhrase_13 (by decide) ?_
      have hc : va_P (dC, dI) vwCl [(h0, .inr (13, mX13 q0 v0)), ((q0 45), zi k29 40 f29), ((q0 44), zi k28 40 f28), ((q0 61), zi k37 200 f37), ((q0 5), zi k4 122880 f4)] s.heap ∧ va_D A [(h0, .inr (13, mX13 q0 v0)), ((q0 45), zi k29 40 f29), ((q0 44), zi k28 40 f28), ((q0 61), zi k37 200 f37), ((q0 5), zi k4 122880 f4)] ∧ va_S A s.heap s.heap [] ∧ lv_has ls 8 [(0, .ref h0), (1, .int x1), (2, .int x2), (3, .int x3)] ∧ (512 ≤ (1024 : Int32).toInt ∧ (1024 : Int32).toInt ≤ 1024) ∧ (0 ≤ x3.toInt ∧ x3.toInt ≤ 1023) ∧ ((1024 : Int32).toInt = zun x3.toInt) ∧ ((1024 : Int32).toInt ≤ 1024) := ⟨hP, hD, hS, lv_sub hl [0, 1, 2, 3] rfl, (by first | with_reducible assumption | exact ⟨by omega, by omega⟩), (by first | with_reducible assumption | exact ⟨by omega, by omega⟩), by first | exact (by rw [zun_a (by omega)]; omega) | exact (by rw [zun_b (by omega)]; omega), by omega⟩
      exact hJ16 s.heap [] ls (fun i => ([1024] : List (Int32)).getD i 0) (fun _ => 0) (fun _ => (fun _ => 0)) (fun _ => (fun _ => 0)) hc
    · skip
      have b_ := zF_ge rfl zk_512 c_
      refine lv_sipush (v := 512) hx hb dX13_isPhrase_7 (by decide) ?_
      refine lv_goto (tgt := 16) hx hb dX13_isPhrase_10 (by decide) ?_
      have hc : va_P (dC, dI) vwCl [(h0, .inr (13, mX13 q0 v0)), ((q0 45), zi k29 40 f29), ((q0 44), zi k28 40 f28), ((q0 61), zi k37 200 f37), ((q0 5), zi k4 122880 f4)] s.heap ∧ va_D A [(h0, .inr (13, mX13 q0 v0)), ((q0 45), zi k29 40 f29), ((q0 44), zi k28 40 f28), ((q0 61), zi k37 200 f37), ((q0 5), zi k4 122880 f4)] ∧ va_S A s.heap s.heap [] ∧ lv_has ls 8 [(0, .ref h0), (1, .int x1), (2, .int x2), (3, .int x3)] ∧ (512 ≤ (512 : Int32).toInt ∧ (512 : Int32).toInt ≤ 1024) ∧ (0 ≤ x3.toInt ∧ x3.toInt ≤ 1023) ∧ ((512 : Int32).toInt = zun x3.toInt) ∧ ((512 : Int32).toInt ≤ 1024) := ⟨hP, hD, hS, lv_sub hl [0, 1, 2, 3] rfl, (by first | with_reducible assumption | exact ⟨by omega, by omega⟩), (by first | with_reducible assumption | exact ⟨by omega, by omega⟩), by first | exact (by rw [zun_a (by omega)]; omega) | exact (by rw [zun_b (by omega)]; omega), by omega⟩
      exact hJ16 s.heap [] ls (fun i => ([512] : List (Int32)).getD i 0) (fun _ => 0) (fun _ => (fun _ => 0)) (fun _ => (fun _ => 0)) hc
set_option maxHeartbeats 8000000 in
set_option maxRecDepth 100000 in
theorem sX13_matches_0 (l : Launch) (dC : Nat → ClassId) (dI : Nat → Nat → Nat) (adK adV : Nat → Nat) (h0 : Nat) (q0 : Nat → Nat) (k4 : ClassId) (k27 : ClassId) (k28 : ClassId) (k29 : ClassId) (k37 : ClassId) (k38 : ClassId) (sz : Nat) (v0 : Nat → Int32) (f4 : Nat → Int32) (f27 : Nat → Int32) (f28 : Nat → Int32) (f29 : Nat → Int32) (f37 : Nat → Int32) (f38 : Nat → Int32) (x1 : Int32) (x2 : Int32) (x3 : Int32) (hv0 : zR rg_Model v0) (hf4 : zA 0 400 f4) (hx1 : 0 ≤ x1.toInt ∧ x1.toInt ≤ 39) (hx2 : 0 ≤ x2.toInt ∧ x2.toInt ≤ 119) (hx3 : 0 ≤ x3.toInt ∧ x3.toInt ≤ 1023) (hp0_ : zLf f27 f28 f29 (v0 47).toInt) (hp1_ : x1.toInt < (v0 47).toInt) : Met l yX13_matches (zw yX13_matches cX13_matches 5 (some .boolean)) { frames := 1, cells := 0, slots := 0, locals := 27 } (zPc dC dI adK adV [.ref h0, .int x1, .int x2, .int x3] sz [(h0, .inr (13, mX13 q0 v0)), ((q0 5), zi k4 122880 f4), ((q0 43), zi k27 40 f27), ((q0 44), zi k28 40 f28), ((q0 45), zi k29 40 f29), ((q0 61), zi k37 200 f37), ((q0 62), zi k38 16000 f38)] [(k4, .short), (k27, .int), (k28, .int), (k29, .int), (k37, .int), (k38, .boolean)]) (va_Qi (fun (r : Int32) (u : Nat → Int32) => (0 ≤ r.toInt ∧ r.toInt ≤ 1) ∧ (r.toInt = zMt f4 f27 f28 f29 f37 f38 x1.toInt x2.toInt x3.toInt)) (fun (u : Nat → Int32) (t : State) => ∃ (ww : Nat → Int64) (aa : Nat → Nat → Int32) (bb : Nat → Nat → Int64), va_P (dC, dI) vwCl [(h0, .inr (13, mX13 q0 v0)), ((q0 5), zi k4 122880 f4), ((q0 43), zi k27 40 f27), ((q0 44), zi k28 40 f28), ((q0 45), zi k29 40 f29), ((q0 61), zi k37 200 f37), ((q0 62), zi k38 16000 f38)] t.heap ∧ va_K (dC, dI) vwCl [(k4, .short), (k27, .int), (k28, .int), (k29, .int), (k37, .int), (k38, .boolean)] t ∧ va_D (va_A [(h0, .inr (13, mX13 q0 v0)), ((q0 5), zi k4 122880 f4), ((q0 43), zi k27 40 f27), ((q0 44), zi k28 40 f28), ((q0 45), zi k29 40 f29), ((q0 61), zi k37 200 f37), ((q0 62), zi k38 16000 f38)] sz) [(h0, .inr (13, mX13 q0 v0)), ((q0 5), zi k4 122880 f4), ((q0 43), zi k27 40 f27), ((q0 44), zi k28 40 f28), ((q0 45), zi k29 40 f29), ((q0 61), zi k37 200 f37), ((q0 62), zi k38 16000 f38)]) (va_A [(h0, .inr (13, mX13 q0 v0)), ((q0 5), zi k4 122880 f4), ((q0 43), zi k27 40 f27), ((q0 44), zi k28 40 f28), ((q0 45), zi k29 40 f29), ((q0 61), zi k37 200 f37), ((q0 62), zi k38 16000 f38)] sz)) 0 0 (va_A [(h0, .inr (13, mX13 q0 v0)), ((q0 5), zi k4 122880 f4), ((q0 43), zi k27 40 f27), ((q0 44), zi k28 40 f28), ((q0 45), zi k29 40 f29), ((q0 61), zi k37 200 f37), ((q0 62), zi k38 16000 f38)] sz) := by
  refine Met.ofW (cc := cX13_matches) (maxL := 5) (ret := (some .boolean)) (by decide) rfl ?_
  intro p e s m args below meth c s₁ B hml hv
  obtain ⟨rfl, hsz, hP, hK, hD0, hE, hZ⟩ := hv
  have hx := B.exec
  have hb := B.bytes
  have hr := B.returns
  have hG : ∀ w ∈ zG, w.before _ s = true := fun w h => atoms_spec (ws := (zw yX13_matches cX13_matches 5 (some .boolean))) B.pre w (List.mem_cons_of_mem _ h)
  have hown : s.vm.findClass RX13 = some m.cls := findClass_of_methodNamed B.named
  have hlocks := B.notSynchronized

  subst hsz
  have hD := hD0.self (sz := s.heap.size)
  generalize hAe : va_A [(h0, .inr (13, mX13 q0 v0)), ((q0 5), zi k4 122880 f4), ((q0 43), zi k27 40 f27), ((q0 44), zi k28 40 f28), ((q0 45), zi k29 40 f29), ((q0 61), zi k37 200 f37), ((q0 62), zi k38 16000 f38)] s.heap.size = A at hD hZ ⊢
  have hA : ∀ q : Nat, s.heap.size ≤ q → A q := fun q h => by rw [← hAe]; exact Or.inr h
  have hS : va_S A s.heap s.heap [] := va_S.rf
  have hl := lv_entry ([.ref h0, .int x1, .int x2, .int x3]) (n := 5) (Nat.le_of_ble_eq_true rfl)
  rw [lg_entry_eq]
  generalize (lg_sl ([.ref h0, .int x1, .int x2, .int x3]) ++ List.replicate (5 - (lg_sl ([.ref h0, .int x1, .int x2, .int x3])).length) Slot.unset).toArray = ls at hl ⊢
  have hl : lv_has ls 5 [(0, .ref h0), (1, .int x1), (2, .int x2), (3, .int x3)] := hl
  have b_ := zk_0
  have b_ := zk_1
  have b_ := zk_2
  have b_ := zk_3
  have b_ : 0 ≤ (v0 47).toInt ∧ (v0 47).toInt ≤ 40 := hv0 47
  refine lv_aload_n hx hb dX13_matches_0 rfl (lv_at hl 0 rfl) ?_
  refine va_get (D := (dC, dI)) (ci := 13) (v := .ref (q0 5)) (C := RX13) (T := TX13) (N := 75) hx hb hG zuX13 hown hK hP 0 rfl rfl 5 (by decide) (hG _ zv1609) (fun _ h9 => h9) rfl dX13_matches_1 ?_
  refine lv_sipush (v := 1024) hx hb dX13_matches_4 (by decide) ?_
  refine lv_iload_n hx hb dX13_matches_7 rfl (lv_at hl 2 rfl) ?_
  refine lv_imul hx hb dX13_matches_8 ?_
  refine lv_topi (fun z8 e_z8 => ?_)
  have b_ := zmul zk_1024 rfl e_z8 (by omega) (by omega)
  refine lv_iload_n hx hb dX13_matches_9 rfl (lv_at hl 3 rfl) ?_
  refine lv_iadd hx hb dX13_matches_10 ?_
  refine lv_topi (fun z10 e_z10 => ?_)
  have b_ := zadd rfl rfl e_z10 (by omega) (by omega)
  refine va_sald hx hb hK hP 1 0 rfl rfl (zin_lit ⟨by omega, by omega⟩) dX13_matches_11 ?_
  refine lv_topi (fun z11 e_z11 => ?_)
  have b_ : 0 ≤ z11.toInt ∧ z11.toInt ≤ 400 := by rw [e_z11]; exact hf4 _
  refine lv_istore (lv' := [(4, .int z11), (0, .ref h0), (1, .int x1), (2, .int x2), (3, .int x3)]) hx hb dX13_matches_12 hl (by decide) rfl (fun ls hl => ?_)
  refine lv_aload_n hx hb dX13_matches_14 rfl (lv_at hl 1 rfl) ?_
  refine va_get (D := (dC, dI)) (ci := 13) (v := .ref (q0 43)) (C := RX13) (T := TX13) (N := 75) hx hb hG zuX13 hown hK hP 0 rfl rfl 43 (by decide) (hG _ zv1647) (fun _ h9 => h9) rfl dX13_matches_15 ?_
  refine lv_iload_n hx hb dX13_matches_18 rfl (lv_at hl 2 rfl) ?_
  refine va_iald hx hb hK hP 2 1 rfl rfl (zin_lit ⟨by omega, by omega⟩) dX13_matches_19 ?_
  refine lv_topi (fun z19 e_z19 => ?_)
  have hg := zLf_get hp0_ hp1_ (by omega)
  rw [← e_z19] at hg
  have hwh : (f27 (x1.toInt).toNat).toInt = z19.toInt := congrArg Int32.toInt e_z19.symm
  have hta : (f4 (1024 * x2.toInt + x3.toInt).toNat).toInt = z11.toInt := congrArg Int32.toInt ((e_z11.trans (zix (by omega))).symm)
  rcases Classical.em (z19 = (1 : Int32)) with c_ | c_
  · skip
    have b_ : z19.toInt = 1 := by rw [c_]; exact zk_1
    refine lv_tableIn (off := 28) (tgt := 48) hx hb dX13_matches_20 (by omega) (by omega) (by rw [b_]; decide) (by decide) ?_
    refine lv_iload hx hb dX13_matches_48 (lv_at hl 0 rfl) ?_
    refine lv_if_le (tgt := 73) hx hb dX13_matches_50 (by decide) (fun c_ => ?_) (fun c_ => ?_)
    · skip
      have b_ := zT_le rfl zk_0 c_
      have hres : (0 : Int32).toInt = zMt f4 f27 f28 f29 f37 f38 x1.toInt x2.toInt x3.toInt := zk_0.trans (zMt_0n (Or.inl (hwh.trans (by omega))) hta (by omega)).symm
      refine lv_iconst (v := 0) hx hb dX13_matches_73 (by decide) ?_
      refine W.widen (k := 0) (n := 0) (by decide) (by decide) ?_
      have hpost : (0 ≤ (0 : Int32).toInt ∧ (0 : Int32).toInt ≤ 1) ∧ ((0 : Int32).toInt = zMt f4 f27 f28 f29 f37 f38 x1.toInt x2.toInt x3.toInt) := ⟨(by first | with_reducible assumption | exact ⟨by omega, by omega⟩), by exact hres⟩
      have hP9 : va_P (dC, dI) vwCl [(h0, .inr (13, mX13 q0 v0)), ((q0 5), zi k4 122880 f4), ((q0 43), zi k27 40 f27), ((q0 44), zi k28 40 f28), ((q0 45), zi k29 40 f29), ((q0 61), zi k37 200 f37), ((q0 62), zi k38 16000 f38)] s.heap := hP
      have hD9 : va_D A [(h0, .inr (13, mX13 q0 v0)), ((q0 5), zi k4 122880 f4), ((q0 43), zi k27 40 f27), ((q0 44), zi k28 40 f28), ((q0 45), zi k29 40 f29), ((q0 61), zi k37 200 f37), ((q0 62), zi k38 16000 f38)] := hD
      exact W.zret (v := 0) hx hb hr rfl (fun t ht hW => ⟨⟨0, (fun _ => 0), rfl, hpost, (fun _ => 0), (fun _ => (fun _ => 0)), (fun _ => (fun _ => 0)), by rw [ht]; exact hP9, va_K.moved hW.alike hK, hD9⟩, hS.F ht⟩) hS.2.2 dX13_matches_74
    · skip
      have b_ := zF_le rfl zk_0 c_
      refine lv_iload hx hb dX13_matches_53 (lv_at hl 0 rfl) ?_
      refine lv_aload_n hx hb dX13_matches_55 rfl (lv_at hl 1 rfl) ?_
      refine va_get (D := (dC, dI)) (ci := 13) (v := .ref (q0 61)) (C := RX13) (T := TX13) (N := 75) hx hb hG zuX13 hown hK hP 0 rfl rfl 61 (by decide) (hG _ zv1665) (fun _ h9 => h9) rfl dX13_matches_56 ?_
      refine lv_aload_n hx hb dX13_matches_59 rfl (lv_at hl 1 rfl) ?_
      refine va_get (D := (dC, dI)) (ci := 13) (v := .ref (q0 44)) (C := RX13) (T := TX13) (N := 75) hx hb hG zuX13 hown hK hP 0 rfl rfl 44 (by decide) (hG _ zv1648) (fun _ h9 => h9) rfl dX13_matches_60 ?_
      refine lv_iload_n hx hb dX13_matches_63 rfl (lv_at hl 2 rfl) ?_
      refine va_iald hx hb hK hP 3 2 rfl rfl (zin_lit ⟨by omega, by omega⟩) dX13_matches_64 ?_
      refine lv_topi (fun z64 e_z64 => ?_)
      have b_ : 0 ≤ z64.toInt ∧ z64.toInt ≤ 199 := by have q := hg.2.2 (by omega); rw [← e_z64] at q; omega
      refine va_iald hx hb hK hP 5 4 rfl rfl (zin_lit ⟨by omega, by omega⟩) dX13_matches_65 ?_
      refine lv_topi (fun z65 e_z65 => ?_)
      have hme : (f37 (f28 (x1.toInt).toNat).toInt.toNat).toInt = z65.toInt := by rw [show f28 (x1.toInt).toNat = z64 from e_z64.symm]; exact congrArg Int32.toInt e_z65.symm
      have b_ : -2147483648 ≤ z65.toInt ∧ z65.toInt ≤ 2147483647 := ⟨zlo _, zhi _⟩
      refine lv_icmp_ne (tgt := 73) hx hb dX13_matches_66 (by decide) (fun c_ => ?_) (fun c_ => ?_)
      · skip
        have b_ := zT_ne rfl rfl c_
        have hres : (0 : Int32).toInt = zMt f4 f27 f28 f29 f37 f38 x1.toInt x2.toInt x3.toInt := zk_0.trans (zMt_1n (hwh.trans (by omega)) hta hme (by omega)).symm
        refine lv_iconst (v := 0) hx hb dX13_matches_73 (by decide) ?_
        refine W.widen (k := 0) (n := 0) (by decide) (by decide) ?_
        have hpost : (0 ≤ (0 : Int32).toInt ∧ (0 : Int32).toInt ≤ 1) ∧ ((0 : Int32).toInt = zMt f4 f27 f28 f29 f37 f38 x1.toInt x2.toInt x3.toInt) := ⟨(by first | with_reducible assumption | exact ⟨by omega, by omega⟩), by exact hres⟩
        have hP9 : va_P (dC, dI) vwCl [(h0, .inr (13, mX13 q0 v0)), ((q0 5), zi k4 122880 f4), ((q0 43), zi k27 40 f27), ((q0 44), zi k28 40 f28), ((q0 45), zi k29 40 f29), ((q0 61), zi k37 200 f37), ((q0 62), zi k38 16000 f38)] s.heap := hP
        have hD9 : va_D A [(h0, .inr (13, mX13 q0 v0)), ((q0 5), zi k4 122880 f4), ((q0 43), zi k27 40 f27), ((q0 44), zi k28 40 f28), ((q0 45), zi k29 40 f29), ((q0 61), zi k37 200 f37), ((q0 62), zi k38 16000 f38)] := hD
        exact W.zret (v := 0) hx hb hr rfl (fun t ht hW => ⟨⟨0, (fun _ => 0), rfl, hpost, (fun _ => 0), (fun _ => (fun _ => 0)), (fun _ => (fun _ => 0)), by rw [ht]; exact hP9, va_K.moved hW.alike hK, hD9⟩, hS.F ht⟩) hS.2.2 dX13_matches_74
      · skip
        have b_ := zF_ne rfl rfl c_
        have hres : (1 : Int32).toInt = zMt f4 f27 f28 f29 f37 f38 x1.toInt x2.toInt x3.toInt := zk_1.trans (zMt_1 (hwh.trans (by omega)) hta hme ⟨by omega, by omega⟩).symm
        refine lv_iconst (v := 1) hx hb dX13_matches_69 (by decide) ?_
        refine lv_goto (tgt := 74) hx hb dX13_matches_70 (by decide) ?_
        refine W.widen (k := 0) (n := 0) (by decide) (by decide) ?_
        have hpost : (0 ≤ (1 : Int32).toInt ∧ (1 : Int32).toInt ≤ 1) ∧ ((1 : Int32).toInt = zMt f4 f27 f28 f29 f37 f38 x1.toInt x2.toInt x3.toInt) := ⟨(by first | with_reducible assumption | exact ⟨by omega, by omega⟩), by exact hres⟩
        have hP9 : va_P (dC, dI) vwCl [(h0, .inr (13, mX13 q0 v0)), ((q0 5), zi k4 122880 f4), ((q0 43), zi k27 40 f27), ((q0 44), zi k28 40 f28), ((q0 45), zi k29 40 f29), ((q0 61), zi k37 200 f37), ((q0 62), zi k38 16000 f38)] s.heap := hP
        have hD9 : va_D A [(h0, .inr (13, mX13 q0 v0)), ((q0 5), zi k4 122880 f4), ((q0 43), zi k27 40 f27), ((q0 44), zi k28 40 f28), ((q0 45), zi k29 40 f29), ((q0 61), zi k37 200 f37), ((q0 62), zi k38 16000 f38)] := hD
        exact W.zret (v := 1) hx hb hr rfl (fun t ht hW => ⟨⟨1, (fun _ => 0), rfl, hpost, (fun _ => 0), (fun _ => (fun _ => 0)), (fun _ => (fun _ => 0)), by rw [ht]; exact hP9, va_K.moved hW.alike hK, hD9⟩, hS.F ht⟩) hS.2.2 dX13_matches_74
  · skip
    have b_ : z19.toInt ≠ 1 := fun h => c_ (zeqi.mpr (h.trans zk_1.symm))
    rcases Classical.em (z19 = (2 : Int32)) with c_ | c_
    · skip
      have b_ : z19.toInt = 2 := by rw [c_]; exact zk_2
      refine lv_tableIn (off := 55) (tgt := 75) hx hb dX13_matches_20 (by omega) (by omega) (by rw [b_]; decide) (by decide) ?_
      refine lv_iload hx hb dX13_matches_75 (lv_at hl 0 rfl) ?_
      refine lv_if_le (tgt := 102) hx hb dX13_matches_77 (by decide) (fun c_ => ?_) (fun c_ => ?_)
      · skip
        have b_ := zT_le rfl zk_0 c_
        have hres : (0 : Int32).toInt = zMt f4 f27 f28 f29 f37 f38 x1.toInt x2.toInt x3.toInt := zk_0.trans (zMt_0n (Or.inr (hwh.trans (by omega))) hta (by omega)).symm
        refine lv_iconst (v := 0) hx hb dX13_matches_102 (by decide) ?_
        refine W.widen (k := 0) (n := 0) (by decide) (by decide) ?_
        have hpost : (0 ≤ (0 : Int32).toInt ∧ (0 : Int32).toInt ≤ 1) ∧ ((0 : Int32).toInt = zMt f4 f27 f28 f29 f37 f38 x1.toInt x2.toInt x3.toInt) := ⟨(by first | with_reducible assumption | exact ⟨by omega, by omega⟩), by exact hres⟩
        have hP9 : va_P (dC, dI) vwCl [(h0, .inr (13, mX13 q0 v0)), ((q0 5), zi k4 122880 f4), ((q0 43), zi k27 40 f27), ((q0 44), zi k28 40 f28), ((q0 45), zi k29 40 f29), ((q0 61), zi k37 200 f37), ((q0 62), zi k38 16000 f38)] s.heap := hP
        have hD9 : va_D A [(h0, .inr (13, mX13 q0 v0)), ((q0 5), zi k4 122880 f4), ((q0 43), zi k27 40 f27), ((q0 44), zi k28 40 f28), ((q0 45), zi k29 40 f29), ((q0 61), zi k37 200 f37), ((q0 62), zi k38 16000 f38)] := hD
        exact W.zret (v := 0) hx hb hr rfl (fun t ht hW => ⟨⟨0, (fun _ => 0), rfl, hpost, (fun _ => 0), (fun _ => (fun _ => 0)), (fun _ => (fun _ => 0)), by rw [ht]; exact hP9, va_K.moved hW.alike hK, hD9⟩, hS.F ht⟩) hS.2.2 dX13_matches_103
      · skip
        have b_ := zF_le rfl zk_0 c_
        refine lv_aload_n hx hb dX13_matches_80 rfl (lv_at hl 1 rfl) ?_
        refine va_get (D := (dC, dI)) (ci := 13) (v := .ref (q0 62)) (C := RX13) (T := TX13) (N := 75) hx hb hG zuX13 hown hK hP 0 rfl rfl 62 (by decide) (hG _ zv1666) (fun _ h9 => h9) rfl dX13_matches_81 ?_
        refine lv_sipush (v := 400) hx hb dX13_matches_84 (by decide) ?_
        refine lv_iload_n hx hb dX13_matches_87 rfl (lv_at hl 2 rfl) ?_
        refine lv_imul hx hb dX13_matches_88 ?_
        refine lv_topi (fun z88 e_z88 => ?_)
        have b_ := zmul zk_400 rfl e_z88 (by omega) (by omega)
        refine lv_iload hx hb dX13_matches_89 (lv_at hl 0 rfl) ?_
        refine lv_iadd hx hb dX13_matches_91 ?_
        refine lv_topi (fun z91 e_z91 => ?_)
        have b_ := zadd rfl rfl e_z91 (by omega) (by omega)
        refine lv_iconst (v := 1) hx hb dX13_matches_92 (by decide) ?_
        refine lv_isub hx hb dX13_matches_93 ?_
        refine lv_topi (fun z93 e_z93 => ?_)
        have b_ := zsub rfl zk_1 e_z93 (by omega) (by omega)
        refine va_zald hx hb hK hP 6 5 rfl rfl (zin_lit ⟨by omega, by omega⟩) dX13_matches_94 ?_
        refine lv_topi (fun z94 e_z94 => ?_)
        have hib : (f38 (400 * x1.toInt + z11.toInt - 1).toNat).toInt = z94.toInt := congrArg Int32.toInt ((e_z94.trans (zix (by omega))).symm)
        have b_ : -2147483648 ≤ z94.toInt ∧ z94.toInt ≤ 2147483647 := ⟨zlo _, zhi _⟩
        refine lv_if_eq (tgt := 102) hx hb dX13_matches_95 (by decide) (fun c_ => ?_) (fun c_ => ?_)
        · skip
          have b_ := zT_eq rfl zk_0 c_
          have hres : (0 : Int32).toInt = zMt f4 f27 f28 f29 f37 f38 x1.toInt x2.toInt x3.toInt := zk_0.trans (zMt_2n (hwh.trans (by omega)) hta hib (by omega)).symm
          refine lv_iconst (v := 0) hx hb dX13_matches_102 (by decide) ?_
          refine W.widen (k := 0) (n := 0) (by decide) (by decide) ?_
          have hpost : (0 ≤ (0 : Int32).toInt ∧ (0 : Int32).toInt ≤ 1) ∧ ((0 : Int32).toInt = zMt f4 f27 f28 f29 f37 f38 x1.toInt x2.toInt x3.toInt) := ⟨(by first | with_reducible assumption | exact ⟨by omega, by omega⟩), by exact hres⟩
          have hP9 : va_P (dC, dI) vwCl [(h0, .inr (13, mX13 q0 v0)), ((q0 5), zi k4 122880 f4), ((q0 43), zi k27 40 f27), ((q0 44), zi k28 40 f28), ((q0 45), zi k29 40 f29), ((q0 61), zi k37 200 f37), ((q0 62), zi k38 16000 f38)] s.heap := hP
          have hD9 : va_D A [(h0, .inr (13, mX13 q0 v0)), ((q0 5), zi k4 122880 f4), ((q0 43), zi k27 40 f27), ((q0 44), zi k28 40 f28), ((q0 45), zi k29 40 f29), ((q0 61), zi k37 200 f37), ((q0 62), zi k38 16000 f38)] := hD
          exact W.zret (v := 0) hx hb hr rfl (fun t ht hW => ⟨⟨0, (fun _ => 0), rfl, hpost, (fun _ => 0), (fun _ => (fun _ => 0)), (fun _ => (fun _ => 0)), by rw [ht]; exact hP9, va_K.moved hW.alike hK, hD9⟩, hS.F ht⟩) hS.2.2 dX13_matches_103
        · skip
          have b_ := zF_eq rfl zk_0 c_
          have hres : (1 : Int32).toInt = zMt f4 f27 f28 f29 f37 f38 x1.toInt x2.toInt x3.toInt := zk_1.trans (zMt_2 (hwh.trans (by omega)) hta hib ⟨by omega, by omega⟩).symm
          refine lv_iconst (v := 1) hx hb dX13_matches_98 (by decide) ?_
          refine lv_goto (tgt := 103) hx hb dX13_matches_99 (by decide) ?_
          refine W.widen (k := 0) (n := 0) (by decide) (by decide) ?_
          have hpost : (0 ≤ (1 : Int32).toInt ∧ (1 : Int32).toInt ≤ 1) ∧ ((1 : Int32).toInt = zMt f4 f27 f28 f29 f37 f38 x1.toInt x2.toInt x3.toInt) := ⟨(by first | with_reducible assumption | exact ⟨by omega, by omega⟩), by exact hres⟩
          have hP9 : va_P (dC, dI) vwCl [(h0, .inr (13, mX13 q0 v0)), ((q0 5), zi k4 122880 f4), ((q0 43), zi k27 40 f27), ((q0 44), zi k28 40 f28), ((q0 45), zi k29 40 f29), ((q0 61), zi k37 200 f37), ((q0 62), zi k38 16000 f38)] s.heap := hP
          have hD9 : va_D A [(h0, .inr (13, mX13 q0 v0)), ((q0 5), zi k4 122880 f4), ((q0 43), zi k27 40 f27), ((q0 44), zi k28 40 f28), ((q0 45), zi k29 40 f29), ((q0 61), zi k37 200 f37), ((q0 62), zi k38 16000 f38)] := hD
          exact W.zret (v := 1) hx hb hr rfl (fun t ht hW => ⟨⟨1, (fun _ => 0), rfl, hpost, (fun _ => 0), (fun _ => (fun _ => 0)), (fun _ => (fun _ => 0)), by rw [ht]; exact hP9, va_K.moved hW.alike hK, hD9⟩, hS.F ht⟩) hS.2.2 dX13_matches_103
    · skip
      have b_ : z19.toInt ≠ 2 := fun h => c_ (zeqi.mpr (h.trans zk_2.symm))
      rcases Classical.em (z19 = (3 : Int32)) with c_ | c_
      · skip
        have b_ : z19.toInt = 3 := by rw [c_]; exact zk_3
        refine lv_tableIn (off := 84) (tgt := 104) hx hb dX13_matches_20 (by omega) (by omega) (by rw [b_]; decide) (by decide) ?_
        refine lv_aload_n hx hb dX13_matches_104 rfl (lv_at hl 1 rfl) ?_
        refine lv_iload_n hx hb dX13_matches_105 rfl (lv_at hl 2 rfl) ?_
        refine lv_iload_n hx hb dX13_matches_106 rfl (lv_at hl 3 rfl) ?_
        refine lv_iload_n hx hb dX13_matches_107 rfl (lv_at hl 4 rfl) ?_
        have hg3 := hg.2.2 (by omega)
        have hPc := hP.sub (ws' := [(h0, .inr (13, mX13 q0 v0)), ((q0 45), zi k29 40 f29), ((q0 44), zi k28 40 f28), ((q0 61), zi k37 200 f37), ((q0 5), zi k4 122880 f4)]) [0, 4, 3, 5, 1] rfl
        have hDc := hD.sub (ws' := [(h0, .inr (13, mX13 q0 v0)), ((q0 45), zi k29 40 f29), ((q0 44), zi k28 40 f28), ((q0 61), zi k37 200 f37), ((q0 5), zi k4 122880 f4)]) [0, 4, 3, 5, 1] (by decide) rfl
        have hKc := hK.sub (tys' := [(k29, .int), (k28, .int), (k37, .int), (k4, .short)]) [3, 2, 4, 0] rfl
        have hFc := va_free (wc := [(h0, .inr (13, mX13 q0 v0)), ((q0 45), zi k29 40 f29), ((q0 44), zi k28 40 f28), ((q0 61), zi k37 200 f37), ((q0 5), zi k4 122880 f4)]) hD hS hA [0, 4, 3, 5, 1] rfl
        refine va_calli (va_runV (As := [.int x1, .int x2, .int x3]) (rest := []) ⟨hx, hb, hml, hown, hG⟩ (sX13_isPhrase_0 l dC dI adK adV h0 q0 k29 k28 k37 k4 s.heap.size v0 f29 f28 f37 f4 x1 x2 x3 hv0 hf4 (show (0 : Int) ≤ (x1 : Int32).toInt ∧ (x1 : Int32).toInt ≤ (39 : Int) from (by first | with_reducible assumption | exact ⟨by omega, by omega⟩)) (show (0 : Int) ≤ (x2 : Int32).toInt ∧ (x2 : Int32).toInt ≤ (119 : Int) from (by first | with_reducible assumption | exact ⟨by omega, by omega⟩)) (show (0 : Int) ≤ (x3 : Int32).toInt ∧ (x3 : Int32).toInt ≤ (1023 : Int) from (by first | with_reducible assumption | exact ⟨by omega, by omega⟩)) (show 0 ≤ (f28 ((x1 : Int32)).toNatClampNeg).toInt from by omega) (show 1 ≤ (f29 ((x1 : Int32)).toNatClampNeg).toInt from by omega) (show (f28 ((x1 : Int32)).toNatClampNeg).toInt + (f29 ((x1 : Int32)).toNatClampNeg).toInt ≤ 200 from by omega)) (cwV 3 hG (zgV zv2182 zv2184 zv116 zv142 zv2185) rfl rfl rfl (by decide +kernel) ⟨Nat.le_of_ble_eq_true rfl, Nat.le_of_ble_eq_true rfl⟩) ⟨zPc_blind, va_recv hKc hPc (ci := 13) (q0 := 0) rfl rfl, zPc_pre hPc hKc hDc hE hS hFc hZ⟩ rfl rfl hl.1 rfl (lv_room (Nat.le_of_ble_eq_true rfl)) dX13_matches_108 ⟨Nat.le_of_ble_eq_true rfl, Nat.le_of_ble_eq_true rfl⟩) hS (fun q _ h => hFc q h) hFc (fun r108_ u108_ t H1 locs ht hvm hw hB hz1 hk1 hS => ?_)
        replace hw : (0 ≤ r108_.toInt ∧ r108_.toInt ≤ 1) ∧ (r108_.toInt = zphr f4 f37 (1024 * x2.toInt) (f28 ((x1 : Int32)).toNatClampNeg).toInt x3.toInt (zun x3.toInt) ((f29 ((x1 : Int32)).toNatClampNeg).toInt).toNat 0 0) := hw
        obtain ⟨b_, hX108_0⟩ := hw
        obtain ⟨w108_, a108_, b108_, hP1, hK1, hD1⟩ := hB
        rw [ht] at hP1
        obtain ⟨hP, hD⟩ := va_join (wr := [((q0 43), zi k27 40 f27), ((q0 62), zi k38 16000 f38)]) (w1 := [(h0, .inr (13, mX13 q0 v0)), ((q0 45), zi k29 40 f29), ((q0 44), zi k28 40 f28), ((q0 61), zi k37 200 f37), ((q0 5), zi k4 122880 f4)]) hP hD [0, 4, 3, 5, 1] [2, 6] rfl rfl (by decide) (by decide) hk1 hFc hP1 hD1
        have hP : va_P (dC, dI) vwCl [(h0, .inr (13, mX13 q0 v0)), ((q0 5), zi k4 122880 f4), ((q0 43), zi k27 40 f27), ((q0 44), zi k28 40 f28), ((q0 45), zi k29 40 f29), ((q0 61), zi k37 200 f37), ((q0 62), zi k38 16000 f38)] H1 := hP.sub [2, 6, 0, 4, 3, 5, 1] rfl
        have hD : va_D A [(h0, .inr (13, mX13 q0 v0)), ((q0 5), zi k4 122880 f4), ((q0 43), zi k27 40 f27), ((q0 44), zi k28 40 f28), ((q0 45), zi k29 40 f29), ((q0 61), zi k37 200 f37), ((q0 62), zi k38 16000 f38)] := hD.sub [2, 6, 0, 4, 3, 5, 1] (by decide) rfl
        generalize H1 = H at hP hS ⊢
        clear hz1
        have hres : r108_.toInt = zMt f4 f27 f28 f29 f37 f38 x1.toInt x2.toInt x3.toInt := hX108_0.trans (zMt_3 (hwh.trans (by omega))).symm
        refine W.widen (k := 0) (n := 0) (by decide) (by decide) ?_
        have hpost : (0 ≤ r108_.toInt ∧ r108_.toInt ≤ 1) ∧ (r108_.toInt = zMt f4 f27 f28 f29 f37 f38 x1.toInt x2.toInt x3.toInt) := ⟨(by first | with_reducible assumption | exact ⟨by omega, by omega⟩), by exact hres⟩
        have hP9 : va_P (dC, dI) vwCl [(h0, .inr (13, mX13 q0 v0)), ((q0 5), zi k4 122880 f4), ((q0 43), zi k27 40 f27), ((q0 44), zi k28 40 f28), ((q0 45), zi k29 40 f29), ((q0 61), zi k37 200 f37), ((q0 62), zi k38 16000 f38)] H := hP
        have hD9 : va_D A [(h0, .inr (13, mX13 q0 v0)), ((q0 5), zi k4 122880 f4), ((q0 43), zi k27 40 f27), ((q0 44), zi k28 40 f28), ((q0 45), zi k29 40 f29), ((q0 61), zi k37 200 f37), ((q0 62), zi k38 16000 f38)] := hD
        exact W.zret (v := r108_) hx hb hr (zbn ⟨by omega, by omega⟩) (fun t ht hW => ⟨⟨r108_, (fun _ => 0), rfl, hpost, (fun _ => 0), (fun _ => (fun _ => 0)), (fun _ => (fun _ => 0)), by rw [ht]; exact hP9, va_K.moved hW.alike hK, hD9⟩, hS.F ht⟩) hS.2.2 dX13_matches_111
      · skip
        have b_ : z19.toInt ≠ 3 := fun h => c_ (zeqi.mpr (h.trans zk_3.symm))
        refine lv_tableOut (tgt := 112) hx hb dX13_matches_20 (by omega) (by decide) ?_
        have hres : (0 : Int32).toInt = zMt f4 f27 f28 f29 f37 f38 x1.toInt x2.toInt x3.toInt := zk_0.trans (zMt_4 (by rw [hwh]; omega) (by rw [hwh]; omega) (by rw [hwh]; omega)).symm
        refine lv_iconst (v := 0) hx hb dX13_matches_112 (by decide) ?_
        refine W.widen (k := 0) (n := 0) (by decide) (by decide) ?_
        have hpost : (0 ≤ (0 : Int32).toInt ∧ (0 : Int32).toInt ≤ 1) ∧ ((0 : Int32).toInt = zMt f4 f27 f28 f29 f37 f38 x1.toInt x2.toInt x3.toInt) := ⟨(by first | with_reducible assumption | exact ⟨by omega, by omega⟩), by exact hres⟩
        have hP9 : va_P (dC, dI) vwCl [(h0, .inr (13, mX13 q0 v0)), ((q0 5), zi k4 122880 f4), ((q0 43), zi k27 40 f27), ((q0 44), zi k28 40 f28), ((q0 45), zi k29 40 f29), ((q0 61), zi k37 200 f37), ((q0 62), zi k38 16000 f38)] s.heap := hP
        have hD9 : va_D A [(h0, .inr (13, mX13 q0 v0)), ((q0 5), zi k4 122880 f4), ((q0 43), zi k27 40 f27), ((q0 44), zi k28 40 f28), ((q0 45), zi k29 40 f29), ((q0 61), zi k37 200 f37), ((q0 62), zi k38 16000 f38)] := hD
        exact W.zret (v := 0) hx hb hr rfl (fun t ht hW => ⟨⟨0, (fun _ => 0), rfl, hpost, (fun _ => 0), (fun _ => (fun _ => 0)), (fun _ => (fun _ => 0)), by rw [ht]; exact hP9, va_K.moved hW.alike hK, hD9⟩, hS.F ht⟩) hS.2.2 dX13_matches_113
set_option maxHeartbeats 8000000 in
set_option maxRecDepth 100000 in
theorem sX13_weighed_0 (l : Launch) (dC : Nat → ClassId) (dI : Nat → Nat → Nat) (adK adV : Nat → Nat) (h0 : Nat) (q0 : Nat → Nat) (k10 : ClassId) (k40 : ClassId) (k4 : ClassId) (k27 : ClassId) (k28 : ClassId) (k29 : ClassId) (k37 : ClassId) (k38 : ClassId) (k11 : ClassId) (sz : Nat) (v0 : Nat → Int32) (f10 : Nat → Int32) (f40 : Nat → Int32) (f4 : Nat → Int32) (f27 : Nat → Int32) (f28 : Nat → Int32) (f29 : Nat → Int32) (f37 : Nat → Int32) (f38 : Nat → Int32) (f11 : Nat → Int32) (x1 : Int32) (x2 : Int32) (hv0 : zR rg_Model v0) (hf10 : zA 0 512 f10) (hf4 : zA 0 400 f4) (hf11 : zA 0 512 f11) (hx1 : 0 ≤ x1.toInt ∧ x1.toInt ≤ 39) (hx2 : 0 ≤ x2.toInt ∧ x2.toInt ≤ 119) (hp0_ : zLf f27 f28 f29 (v0 47).toInt) (hp1_ : x1.toInt < (v0 47).toInt) : Met l yX13_weighed (zw yX13_weighed cX13_weighed 5 (some .int)) { frames := 2, cells := 0, slots := 0, locals := 51 } (zPc dC dI adK adV [.ref h0, .int x1, .int x2] sz [(h0, .inr (13, mX13 q0 v0)), ((q0 11), zi k10 120 f10), ((q0 64), zi k40 40 f40), ((q0 5), zi k4 122880 f4), ((q0 43), zi k27 40 f27), ((q0 44), zi k28 40 f28), ((q0 45), zi k29 40 f29), ((q0 61), zi k37 200 f37), ((q0 62), zi k38 16000 f38), ((q0 12), zi k11 120 f11)] [(k10, .int), (k40, .int), (k4, .short), (k27, .int), (k28, .int), (k29, .int), (k37, .int), (k38, .boolean), (k11, .int)]) (va_Qi (fun (r : Int32) (u : Nat → Int32) => (0 ≤ r.toInt ∧ r.toInt ≤ 2048) ∧ (0 < r.toInt ↔ zWd f4 f27 f28 f29 f37 f38 f40 f10 f11 x1.toInt x2.toInt) ∧ (0 ≤ r.toInt) ∧ (zWtR (zWgP (f10 ((x2 : Int32)).toNatClampNeg).toInt (f11 ((x2 : Int32)).toNatClampNeg).toInt (zHt f4 f27 f28 f29 f37 f38 f40 x1.toInt x2.toInt)) 1024 r.toInt)) (fun (u : Nat → Int32) (t : State) => ∃ (ww : Nat → Int64) (aa : Nat → Nat → Int32) (bb : Nat → Nat → Int64), va_P (dC, dI) vwCl [(h0, .inr (13, mX13 q0 v0)), ((q0 11), zi k10 120 f10), ((q0 64), zi k40 40 f40), ((q0 5), zi k4 122880 f4), ((q0 43), zi k27 40 f27), ((q0 44), zi k28 40 f28), ((q0 45), zi k29 40 f29), ((q0 61), zi k37 200 f37), ((q0 62), zi k38 16000 f38), ((q0 12), zi k11 120 f11)] t.heap ∧ va_K (dC, dI) vwCl [(k10, .int), (k40, .int), (k4, .short), (k27, .int), (k28, .int), (k29, .int), (k37, .int), (k38, .boolean), (k11, .int)] t ∧ va_D (va_A [(h0, .inr (13, mX13 q0 v0)), ((q0 11), zi k10 120 f10), ((q0 64), zi k40 40 f40), ((q0 5), zi k4 122880 f4), ((q0 43), zi k27 40 f27), ((q0 44), zi k28 40 f28), ((q0 45), zi k29 40 f29), ((q0 61), zi k37 200 f37), ((q0 62), zi k38 16000 f38), ((q0 12), zi k11 120 f11)] sz) [(h0, .inr (13, mX13 q0 v0)), ((q0 11), zi k10 120 f10), ((q0 64), zi k40 40 f40), ((q0 5), zi k4 122880 f4), ((q0 43), zi k27 40 f27), ((q0 44), zi k28 40 f28), ((q0 45), zi k29 40 f29), ((q0 61), zi k37 200 f37), ((q0 62), zi k38 16000 f38), ((q0 12), zi k11 120 f11)]) (va_A [(h0, .inr (13, mX13 q0 v0)), ((q0 11), zi k10 120 f10), ((q0 64), zi k40 40 f40), ((q0 5), zi k4 122880 f4), ((q0 43), zi k27 40 f27), ((q0 44), zi k28 40 f28), ((q0 45), zi k29 40 f29), ((q0 61), zi k37 200 f37), ((q0 62), zi k38 16000 f38), ((q0 12), zi k11 120 f11)] sz)) 0 0 (va_A [(h0, .inr (13, mX13 q0 v0)), ((q0 11), zi k10 120 f10), ((q0 64), zi k40 40 f40), ((q0 5), zi k4 122880 f4), ((q0 43), zi k27 40 f27), ((q0 44), zi k28 40 f28), ((q0 45), zi k29 40 f29), ((q0 61), zi k37 200 f37), ((q0 62), zi k38 16000 f38), ((q0 12), zi k11 120 f11)] sz) := by
  refine Met.ofW (cc := cX13_weighed) (maxL := 5) (ret := (some .int)) (by decide) rfl ?_
  intro p e s m args below meth c s₁ B hml hv
  obtain ⟨rfl, hsz, hP, hK, hD0, hE, hZ⟩ := hv
  have hx := B.exec
  have hb := B.bytes
  have hr := B.returns
  have hG : ∀ w ∈ zG, w.before _ s = true := fun w h => atoms_spec (ws := (zw yX13_weighed cX13_weighed 5 (some .int))) B.pre w (List.mem_cons_of_mem _ h)
  have hown : s.vm.findClass RX13 = some m.cls := findClass_of_methodNamed B.named
  have hlocks := B.notSynchronized

  subst hsz
  have hD := hD0.self (sz := s.heap.size)
  generalize hAe : va_A [(h0, .inr (13, mX13 q0 v0)), ((q0 11), zi k10 120 f10), ((q0 64), zi k40 40 f40), ((q0 5), zi k4 122880 f4), ((q0 43), zi k27 40 f27), ((q0 44), zi k28 40 f28), ((q0 45), zi k29 40 f29), ((q0 61), zi k37 200 f37), ((q0 62), zi k38 16000 f38), ((q0 12), zi k11 120 f11)] s.heap.size = A at hD hZ ⊢
  have hA : ∀ q : Nat, s.heap.size ≤ q → A q := fun q h => by rw [← hAe]; exact Or.inr h
  have hS : va_S A s.heap s.heap [] := va_S.rf
  have hl := lv_entry ([.ref h0, .int x1, .int x2]) (n := 5) (Nat.le_of_ble_eq_true rfl)
  rw [lg_entry_eq]
  generalize (lg_sl ([.ref h0, .int x1, .int x2]) ++ List.replicate (5 - (lg_sl ([.ref h0, .int x1, .int x2])).length) Slot.unset).toArray = ls at hl ⊢
  have hl : lv_has ls 5 [(0, .ref h0), (1, .int x1), (2, .int x2)] := hl
  have b_ := zk_0
  have b_ := zk_512
  have b_ : 0 ≤ (v0 47).toInt ∧ (v0 47).toInt ≤ 40 := hv0 47
  have b_ := hf10 (x2 : Int32).toNatClampNeg
  have b_ := hf11 (x2 : Int32).toNatClampNeg
  refine lv_iconst (v := 0) hx hb dX13_weighed_0 (by decide) ?_
  refine lv_istore_n (lv' := [(3, .int 0), (0, .ref h0), (1, .int x1), (2, .int x2)]) hx hb dX13_weighed_1 rfl hl (by decide) rfl (fun ls hl => ?_)
  refine lv_iconst (v := 0) hx hb dX13_weighed_2 (by decide) ?_
  refine lv_istore (lv' := [(4, .int 0), (3, .int 0), (0, .ref h0), (1, .int x1), (2, .int x2)]) hx hb dX13_weighed_3 hl (by decide) rfl (fun ls hl => ?_)
  refine zcutL (fun u5_ => (512 - (u5_ 1).toInt).toNat) (fun H locs ls u5_ w5_ a5_ b5_ => va_P (dC, dI) vwCl [(h0, .inr (13, mX13 q0 v0)), ((q0 11), zi k10 120 f10), ((q0 64), zi k40 40 f40), ((q0 5), zi k4 122880 f4), ((q0 43), zi k27 40 f27), ((q0 44), zi k28 40 f28), ((q0 45), zi k29 40 f29), ((q0 61), zi k37 200 f37), ((q0 62), zi k38 16000 f38), ((q0 12), zi k11 120 f11)] H ∧ va_D A [(h0, .inr (13, mX13 q0 v0)), ((q0 11), zi k10 120 f10), ((q0 64), zi k40 40 f40), ((q0 5), zi k4 122880 f4), ((q0 43), zi k27 40 f27), ((q0 44), zi k28 40 f28), ((q0 45), zi k29 40 f29), ((q0 61), zi k37 200 f37), ((q0 62), zi k38 16000 f38), ((q0 12), zi k11 120 f11)] ∧ va_S A s.heap H locs ∧ lv_has ls 5 [(0, .ref h0), (1, .int x1), (2, .int x2), (3, .int (u5_ 0)), (4, .int (u5_ 1))] ∧ (0 ≤ (u5_ 0).toInt ∧ (u5_ 0).toInt ≤ 1536) ∧ (0 ≤ (u5_ 1).toInt ∧ (u5_ 1).toInt ≤ 512) ∧ (0 < (u5_ 0).toInt ↔ zSm (zHt f4 f27 f28 f29 f37 f38 f40 x1.toInt x2.toInt) 0 (u5_ 1).toInt) ∧ ((u5_ 1).toInt ≤ (f10 ((x2 : Int32)).toNatClampNeg).toInt) ∧ ((u5_ 0).toInt ≤ 3 * (u5_ 1).toInt) ∧ (zWtR (zWgP (f10 ((x2 : Int32)).toNatClampNeg).toInt (f11 ((x2 : Int32)).toNatClampNeg).toInt (zHt f4 f27 f28 f29 f37 f38 f40 x1.toInt x2.toInt)) ((u5_ 1).toInt).toNat (u5_ 0).toInt)) (fun ls u5_ w5_ => F0 m 5 ls []) 0 0 ?_ (fun hJ5 => ?_)
  · skip
    intro H locs ls u5_ w5_ a5_ b5_ hc hJ5
    obtain ⟨hP, hD, hS, hl, b_, b_, hI5_0, b_, b_, hI5_3⟩ := hc
    refine lv_iload hx hb dX13_weighed_5 (lv_at hl 4 rfl) ?_
    refine lv_aload_n hx hb dX13_weighed_7 rfl (lv_at hl 0 rfl) ?_
    refine va_get (D := (dC, dI)) (ci := 13) (v := .ref (q0 11)) (C := RX13) (T := TX13) (N := 75) hx hb hG zuX13 hown hK hP 0 rfl rfl 11 (by decide) (hG _ zv1615) (fun _ h9 => h9) rfl dX13_weighed_8 ?_
    refine lv_iload_n hx hb dX13_weighed_11 rfl (lv_at hl 2 rfl) ?_
    refine va_iald hx hb hK hP 1 0 rfl rfl (zin_lit ⟨by omega, by omega⟩) dX13_weighed_12 ?_
    refine lv_topi (fun z12 e_z12 => ?_)
    have b_ : 0 ≤ z12.toInt ∧ z12.toInt ≤ 512 := by rw [e_z12]; exact hf10 _
    have b_ : z12.toInt = (f10 (x2 : Int32).toNatClampNeg).toInt := by rw [e_z12]
    refine lv_icmp_ge (tgt := 51) hx hb dX13_weighed_13 (by decide) (fun c_ => ?_) (fun c_ => ?_)
    · skip
      have b_ := zT_ge rfl rfl c_
      refine lv_sipush (v := 512) hx hb dX13_weighed_51 (by decide) ?_
      refine lv_istore (lv' := [(4, .int 512), (0, .ref h0), (1, .int x1), (2, .int x2), (3, .int (u5_ 0))]) hx hb dX13_weighed_54 hl (by decide) rfl (fun ls hl => ?_)
      refine zcutL (fun u56_ => (1024 - (u56_ 1).toInt).toNat) (fun H locs ls u56_ w56_ a56_ b56_ => va_P (dC, dI) vwCl [(h0, .inr (13, mX13 q0 v0)), ((q0 11), zi k10 120 f10), ((q0 64), zi k40 40 f40), ((q0 5), zi k4 122880 f4), ((q0 43), zi k27 40 f27), ((q0 44), zi k28 40 f28), ((q0 45), zi k29 40 f29), ((q0 61), zi k37 200 f37), ((q0 62), zi k38 16000 f38), ((q0 12), zi k11 120 f11)] H ∧ va_D A [(h0, .inr (13, mX13 q0 v0)), ((q0 11), zi k10 120 f10), ((q0 64), zi k40 40 f40), ((q0 5), zi k4 122880 f4), ((q0 43), zi k27 40 f27), ((q0 44), zi k28 40 f28), ((q0 45), zi k29 40 f29), ((q0 61), zi k37 200 f37), ((q0 62), zi k38 16000 f38), ((q0 12), zi k11 120 f11)] ∧ va_S A s.heap H locs ∧ lv_has ls 5 [(0, .ref h0), (1, .int x1), (2, .int x2), (3, .int (u56_ 0)), (4, .int (u56_ 1))] ∧ (0 ≤ (u56_ 0).toInt ∧ (u56_ 0).toInt ≤ 2048) ∧ (512 ≤ (u56_ 1).toInt ∧ (u56_ 1).toInt ≤ 1024) ∧ (0 < (u56_ 0).toInt ↔ (zSm (zHt f4 f27 f28 f29 f37 f38 f40 x1.toInt x2.toInt) 0 (f10 ((x2 : Int32)).toNatClampNeg).toInt ∨ zSm (zHt f4 f27 f28 f29 f37 f38 f40 x1.toInt x2.toInt) 512 (u56_ 1).toInt)) ∧ ((u56_ 1).toInt ≤ 512 + (f11 ((x2 : Int32)).toNatClampNeg).toInt) ∧ ((u56_ 0).toInt ≤ 1536 + ((u56_ 1).toInt - 512)) ∧ (zWtR (zWgP (f10 ((x2 : Int32)).toNatClampNeg).toInt (f11 ((x2 : Int32)).toNatClampNeg).toInt (zHt f4 f27 f28 f29 f37 f38 f40 x1.toInt x2.toInt)) ((u56_ 1).toInt).toNat (u56_ 0).toInt)) (fun ls u56_ w56_ => F0 m 56 ls []) 0 0 ?_ (fun hJ56 => ?_)
      · skip
        intro H locs ls u56_ w56_ a56_ b56_ hc hJ56
        obtain ⟨hP, hD, hS, hl, b_, b_, hI56_0, b_, b_, hI56_3⟩ := hc
        refine lv_iload hx hb dX13_weighed_56 (lv_at hl 4 rfl) ?_
        refine lv_sipush (v := 512) hx hb dX13_weighed_58 (by decide) ?_
        refine lv_aload_n hx hb dX13_weighed_61 rfl (lv_at hl 0 rfl) ?_
        refine va_get (D := (dC, dI)) (ci := 13) (v := .ref (q0 12)) (C := RX13) (T := TX13) (N := 75) hx hb hG zuX13 hown hK hP 0 rfl rfl 12 (by decide) (hG _ zv1616) (fun _ h9 => h9) rfl dX13_weighed_62 ?_
        refine lv_iload_n hx hb dX13_weighed_65 rfl (lv_at hl 2 rfl) ?_
        refine va_iald hx hb hK hP 9 8 rfl rfl (zin_lit ⟨by omega, by omega⟩) dX13_weighed_66 ?_
        refine lv_topi (fun z66 e_z66 => ?_)
        have b_ : 0 ≤ z66.toInt ∧ z66.toInt ≤ 512 := by rw [e_z66]; exact hf11 _
        have b_ : z66.toInt = (f11 (x2 : Int32).toNatClampNeg).toInt := by rw [e_z66]
        refine lv_iadd hx hb dX13_weighed_67 ?_
        refine lv_topi (fun z67 e_z67 => ?_)
        have b_ := zadd zk_512 rfl e_z67 (by omega) (by omega)
        refine lv_icmp_ge (tgt := 106) hx hb dX13_weighed_68 (by decide) (fun c_ => ?_) (fun c_ => ?_)
        · skip
          have b_ := zT_ge rfl rfl c_
          have hwz : 0 < (u56_ 0).toInt ↔ zWd f4 f27 f28 f29 f37 f38 f40 f10 f11 x1.toInt x2.toInt := zWj_z hI56_0 (show (u56_ 1).toInt = 512 + (f11 (x2 : Int32).toNatClampNeg).toInt from by omega)
          refine lv_iload_n hx hb dX13_weighed_106 rfl (lv_at hl 3 rfl) ?_
          refine W.widen (k := 0) (n := 0) (by decide) (by decide) ?_
          have hpost : (0 ≤ (u56_ 0).toInt ∧ (u56_ 0).toInt ≤ 2048) ∧ (0 < (u56_ 0).toInt ↔ zWd f4 f27 f28 f29 f37 f38 f40 f10 f11 x1.toInt x2.toInt) ∧ (0 ≤ (u56_ 0).toInt) ∧ (zWtR (zWgP (f10 ((x2 : Int32)).toNatClampNeg).toInt (f11 ((x2 : Int32)).toNatClampNeg).toInt (zHt f4 f27 f28 f29 f37 f38 f40 x1.toInt x2.toInt)) 1024 (u56_ 0).toInt) := ⟨(by first | with_reducible assumption | exact ⟨by omega, by omega⟩), by exact hwz, by omega, by exact zWgP_e hI56_3 (by omega) (by omega) (by omega) (by omega) (by omega) rfl⟩
          have hP9 : va_P (dC, dI) vwCl [(h0, .inr (13, mX13 q0 v0)), ((q0 11), zi k10 120 f10), ((q0 64), zi k40 40 f40), ((q0 5), zi k4 122880 f4), ((q0 43), zi k27 40 f27), ((q0 44), zi k28 40 f28), ((q0 45), zi k29 40 f29), ((q0 61), zi k37 200 f37), ((q0 62), zi k38 16000 f38), ((q0 12), zi k11 120 f11)] H := hP
          have hD9 : va_D A [(h0, .inr (13, mX13 q0 v0)), ((q0 11), zi k10 120 f10), ((q0 64), zi k40 40 f40), ((q0 5), zi k4 122880 f4), ((q0 43), zi k27 40 f27), ((q0 44), zi k28 40 f28), ((q0 45), zi k29 40 f29), ((q0 61), zi k37 200 f37), ((q0 62), zi k38 16000 f38), ((q0 12), zi k11 120 f11)] := hD
          exact W.iret (v := (u56_ 0)) hx hb hr (fun t ht hW => ⟨⟨(u56_ 0), (fun _ => 0), rfl, hpost, (fun _ => 0), (fun _ => (fun _ => 0)), (fun _ => (fun _ => 0)), by rw [ht]; exact hP9, va_K.moved hW.alike hK, hD9⟩, hS.F ht⟩) hS.2.2 dX13_weighed_107
        · skip
          have b_ := zF_ge rfl rfl c_
          refine lv_iload_n hx hb dX13_weighed_71 rfl (lv_at hl 3 rfl) ?_
          refine lv_aload_n hx hb dX13_weighed_72 rfl (lv_at hl 0 rfl) ?_
          refine lv_iload_n hx hb dX13_weighed_73 rfl (lv_at hl 1 rfl) ?_
          refine lv_iload hx hb dX13_weighed_74 (lv_at hl 4 rfl) ?_
          have hPc := hP.sub (ws' := [(h0, .inr (13, mX13 q0 v0)), ((q0 64), zi k40 40 f40)]) [0, 2] rfl
          have hDc := hD.sub (ws' := [(h0, .inr (13, mX13 q0 v0)), ((q0 64), zi k40 40 f40)]) [0, 2] (by decide) rfl
          have hKc := hK.sub (tys' := [(k40, .int)]) [1] rfl
          have hFc := va_free (wc := [(h0, .inr (13, mX13 q0 v0)), ((q0 64), zi k40 40 f40)]) hD hS hA [0, 2] rfl
          refine va_calli (va_runV (As := [.int x1, .int (u56_ 1)]) (rest := [.int (u56_ 0)]) ⟨hx, hb, hml, hown, hG⟩ (sX13_isLeft_0 l dC dI adK adV h0 q0 k40 H.size v0 f40 x1 (u56_ 1) hv0 (show (0 : Int) ≤ (x1 : Int32).toInt ∧ (x1 : Int32).toInt ≤ (39 : Int) from (by first | with_reducible assumption | exact ⟨by omega, by omega⟩))) (cwV 2 hG (zgV zv2174 zv2176 zv114 zv142 zv2177) rfl rfl rfl (by decide +kernel) ⟨Nat.le_of_ble_eq_true rfl, Nat.le_of_ble_eq_true rfl⟩) ⟨zPc_blind, va_recv hKc hPc (ci := 13) (q0 := 0) rfl rfl, zPc_pre hPc hKc hDc hE hS hFc hZ⟩ rfl rfl hl.1 rfl (lv_room (Nat.le_of_ble_eq_true rfl)) dX13_weighed_76 ⟨Nat.le_of_ble_eq_true rfl, Nat.le_of_ble_eq_true rfl⟩) hS (fun q _ h => hFc q h) hFc (fun r76_ u76_ t H1 locs ht hvm hw hB hz1 hk1 hS => ?_)
          replace hw : (0 ≤ r76_.toInt ∧ r76_.toInt ≤ 1) ∧ (r76_.toInt = 1 ↔ zIl f40 x1.toInt (u56_ 1).toInt) := hw
          obtain ⟨b_, hX76_0⟩ := hw
          obtain ⟨w76_, a76_, b76_, hP1, hK1, hD1⟩ := hB
          rw [ht] at hP1
          obtain ⟨hP, hD⟩ := va_join (wr := [((q0 11), zi k10 120 f10), ((q0 5), zi k4 122880 f4), ((q0 43), zi k27 40 f27), ((q0 44), zi k28 40 f28), ((q0 45), zi k29 40 f29), ((q0 61), zi k37 200 f37), ((q0 62), zi k38 16000 f38), ((q0 12), zi k11 120 f11)]) (w1 := [(h0, .inr (13, mX13 q0 v0)), ((q0 64), zi k40 40 f40)]) hP hD [0, 2] [1, 3, 4, 5, 6, 7, 8, 9] rfl rfl (by decide) (by decide) hk1 hFc hP1 hD1
          have hP : va_P (dC, dI) vwCl [(h0, .inr (13, mX13 q0 v0)), ((q0 11), zi k10 120 f10), ((q0 64), zi k40 40 f40), ((q0 5), zi k4 122880 f4), ((q0 43), zi k27 40 f27), ((q0 44), zi k28 40 f28), ((q0 45), zi k29 40 f29), ((q0 61), zi k37 200 f37), ((q0 62), zi k38 16000 f38), ((q0 12), zi k11 120 f11)] H1 := hP.sub [8, 0, 9, 1, 2, 3, 4, 5, 6, 7] rfl
          have hD : va_D A [(h0, .inr (13, mX13 q0 v0)), ((q0 11), zi k10 120 f10), ((q0 64), zi k40 40 f40), ((q0 5), zi k4 122880 f4), ((q0 43), zi k27 40 f27), ((q0 44), zi k28 40 f28), ((q0 45), zi k29 40 f29), ((q0 61), zi k37 200 f37), ((q0 62), zi k38 16000 f38), ((q0 12), zi k11 120 f11)] := hD.sub [8, 0, 9, 1, 2, 3, 4, 5, 6, 7] (by decide) rfl
          generalize H1 = H at hP hS ⊢
          clear hz1
          refine lv_if_eq (tgt := 97) hx hb dX13_weighed_79 (by decide) (fun c_ => ?_) (fun c_ => ?_)
          · skip
            have b_ := zT_eq rfl zk_0 c_
            have hnF : ¬ zHt f4 f27 f28 f29 f37 f38 f40 x1.toInt x2.toInt (u56_ 1).toInt := fun q => absurd (hX76_0.mpr q.1) (by omega)
            refine lv_iconst (v := 0) hx hb dX13_weighed_97 (by decide) ?_
            refine lv_iadd hx hb dX13_weighed_98 ?_
            refine lv_topi (fun z98 e_z98 => ?_)
            have b_ := zadd rfl zk_0 e_z98 (by omega) (by omega)
            refine lv_istore_n (lv' := [(3, .int z98), (0, .ref h0), (1, .int x1), (2, .int x2), (4, .int (u56_ 1))]) hx hb dX13_weighed_99 rfl hl (by decide) rfl (fun ls hl => ?_)
            obtain ⟨z100, e_z100⟩ : ∃ z : Int32, z = (u56_ 1) + Int32.ofInt 1 := ⟨_, rfl⟩
            have b_ := zadd (x := (u56_ 1)) (y := Int32.ofInt 1) rfl (show (Int32.ofInt 1).toInt = 1 from by decide) e_z100 (by omega) (by omega)
            refine lv_iinc (v := z100) (lv' := [(4, .int z100), (3, .int z98), (0, .ref h0), (1, .int x1), (2, .int x2)]) hx hb dX13_weighed_100 hl (k := 4) rfl e_z100.symm (by decide) rfl (fun ls hl => ?_)
            refine lv_goto (tgt := 56) hx hb dX13_weighed_103 (by decide) ?_
            have hc : va_P (dC, dI) vwCl [(h0, .inr (13, mX13 q0 v0)), ((q0 11), zi k10 120 f10), ((q0 64), zi k40 40 f40), ((q0 5), zi k4 122880 f4), ((q0 43), zi k27 40 f27), ((q0 44), zi k28 40 f28), ((q0 45), zi k29 40 f29), ((q0 61), zi k37 200 f37), ((q0 62), zi k38 16000 f38), ((q0 12), zi k11 120 f11)] H ∧ va_D A [(h0, .inr (13, mX13 q0 v0)), ((q0 11), zi k10 120 f10), ((q0 64), zi k40 40 f40), ((q0 5), zi k4 122880 f4), ((q0 43), zi k27 40 f27), ((q0 44), zi k28 40 f28), ((q0 45), zi k29 40 f29), ((q0 61), zi k37 200 f37), ((q0 62), zi k38 16000 f38), ((q0 12), zi k11 120 f11)] ∧ va_S A s.heap H locs ∧ lv_has ls 5 [(0, .ref h0), (1, .int x1), (2, .int x2), (3, .int z98), (4, .int z100)] ∧ (0 ≤ z98.toInt ∧ z98.toInt ≤ 2048) ∧ (512 ≤ z100.toInt ∧ z100.toInt ≤ 1024) ∧ (0 < z98.toInt ↔ (zSm (zHt f4 f27 f28 f29 f37 f38 f40 x1.toInt x2.toInt) 0 (f10 ((x2 : Int32)).toNatClampNeg).toInt ∨ zSm (zHt f4 f27 f28 f29 f37 f38 f40 x1.toInt x2.toInt) 512 z100.toInt)) ∧ (z100.toInt ≤ 512 + (f11 ((x2 : Int32)).toNatClampNeg).toInt) ∧ (z98.toInt ≤ 1536 + (z100.toInt - 512)) ∧ (zWtR (zWgP (f10 ((x2 : Int32)).toNatClampNeg).toInt (f11 ((x2 : Int32)).toNatClampNeg).toInt (zHt f4 f27 f28 f29 f37 f38 f40 x1.toInt x2.toInt)) (z100.toInt).toNat z98.toInt) := ⟨hP, hD, hS, lv_sub hl [2, 3, 4, 1, 0] rfl, (by first | with_reducible assumption | exact ⟨by omega, by omega⟩), (by first | with_reducible assumption | exact ⟨by omega, by omega⟩), by first | exact zWj_y hF (by omega) (by omega) (by omega) | exact zWj_n hI56_0 hnF (by omega) (by omega) | exact zWj_0 hI5_0 (by omega) (by omega), by omega, by omega, by first | exact zWgP_y hI56_3 (by omega) hF (by omega) (by omega) (by omega) | exact zWgP_n hI56_3 (by omega) hnF (by omega) (by omega) | exact zWgP_m hI5_3 (by omega) (by omega) (by omega) (by omega) rfl (by decide)⟩
            exact hJ56 H locs ls (fun i => ([z98, z100] : List (Int32)).getD i 0) (fun _ => 0) (fun _ => (fun _ => 0)) (fun _ => (fun _ => 0)) hc (show (1024 - z100.toInt).toNat < (1024 - (u56_ 1).toInt).toNat from by omega)
          · skip
            have b_ := zF_eq rfl zk_0 c_
            refine lv_aload_n hx hb dX13_weighed_82 rfl (lv_at hl 0 rfl) ?_
            refine lv_iload_n hx hb dX13_weighed_83 rfl (lv_at hl 1 rfl) ?_
            refine lv_iload_n hx hb dX13_weighed_84 rfl (lv_at hl 2 rfl) ?_
            refine lv_iload hx hb dX13_weighed_85 (lv_at hl 4 rfl) ?_
            have hPc := hP.sub (ws' := [(h0, .inr (13, mX13 q0 v0)), ((q0 5), zi k4 122880 f4), ((q0 43), zi k27 40 f27), ((q0 44), zi k28 40 f28), ((q0 45), zi k29 40 f29), ((q0 61), zi k37 200 f37), ((q0 62), zi k38 16000 f38)]) [0, 3, 4, 5, 6, 7, 8] rfl
            have hDc := hD.sub (ws' := [(h0, .inr (13, mX13 q0 v0)), ((q0 5), zi k4 122880 f4), ((q0 43), zi k27 40 f27), ((q0 44), zi k28 40 f28), ((q0 45), zi k29 40 f29), ((q0 61), zi k37 200 f37), ((q0 62), zi k38 16000 f38)]) [0, 3, 4, 5, 6, 7, 8] (by decide) rfl
            have hKc := hK.sub (tys' := [(k4, .short), (k27, .int), (k28, .int), (k29, .int), (k37, .int), (k38, .boolean)]) [2, 3, 4, 5, 6, 7] rfl
            have hFc := va_free (wc := [(h0, .inr (13, mX13 q0 v0)), ((q0 5), zi k4 122880 f4), ((q0 43), zi k27 40 f27), ((q0 44), zi k28 40 f28), ((q0 45), zi k29 40 f29), ((q0 61), zi k37 200 f37), ((q0 62), zi k38 16000 f38)]) hD hS hA [0, 3, 4, 5, 6, 7, 8] rfl
            refine va_calli (va_runV (As := [.int x1, .int x2, .int (u56_ 1)]) (rest := [.int (u56_ 0)]) ⟨hx, hb, hml, hown, hG⟩ (sX13_matches_0 l dC dI adK adV h0 q0 k4 k27 k28 k29 k37 k38 H.size v0 f4 f27 f28 f29 f37 f38 x1 x2 (u56_ 1) hv0 hf4 (show (0 : Int) ≤ (x1 : Int32).toInt ∧ (x1 : Int32).toInt ≤ (39 : Int) from (by first | with_reducible assumption | exact ⟨by omega, by omega⟩)) (show (0 : Int) ≤ (x2 : Int32).toInt ∧ (x2 : Int32).toInt ≤ (119 : Int) from (by first | with_reducible assumption | exact ⟨by omega, by omega⟩)) (show (0 : Int) ≤ ((u56_ 1) : Int32).toInt ∧ ((u56_ 1) : Int32).toInt ≤ (1023 : Int) from (by first | with_reducible assumption | exact ⟨by omega, by omega⟩)) (show zLf f27 f28 f29 (v0 47).toInt from by first | with_reducible assumption | assumption) (show x1.toInt < (v0 47).toInt from by omega)) (cwV 3 hG (zgV zv2178 zv2180 zv115 zv142 zv2181) rfl rfl rfl (by decide +kernel) ⟨Nat.le_of_ble_eq_true rfl, Nat.le_of_ble_eq_true rfl⟩) ⟨zPc_blind, va_recv hKc hPc (ci := 13) (q0 := 0) rfl rfl, zPc_pre hPc hKc hDc hE hS hFc hZ⟩ rfl rfl hl.1 rfl (lv_room (Nat.le_of_ble_eq_true rfl)) dX13_weighed_87 ⟨Nat.le_of_ble_eq_true rfl, Nat.le_of_ble_eq_true rfl⟩) hS (fun q _ h => hFc q h) hFc (fun r87_ u87_ t H1 locs ht hvm hw hB hz1 hk1 hS => ?_)
            replace hw : (0 ≤ r87_.toInt ∧ r87_.toInt ≤ 1) ∧ (r87_.toInt = zMt f4 f27 f28 f29 f37 f38 x1.toInt x2.toInt (u56_ 1).toInt) := hw
            obtain ⟨b_, hX87_0⟩ := hw
            obtain ⟨w87_, a87_, b87_, hP1, hK1, hD1⟩ := hB
            rw [ht] at hP1
            obtain ⟨hP, hD⟩ := va_join (wr := [((q0 11), zi k10 120 f10), ((q0 64), zi k40 40 f40), ((q0 12), zi k11 120 f11)]) (w1 := [(h0, .inr (13, mX13 q0 v0)), ((q0 5), zi k4 122880 f4), ((q0 43), zi k27 40 f27), ((q0 44), zi k28 40 f28), ((q0 45), zi k29 40 f29), ((q0 61), zi k37 200 f37), ((q0 62), zi k38 16000 f38)]) hP hD [0, 3, 4, 5, 6, 7, 8] [1, 2, 9] rfl rfl (by decide) (by decide) hk1 hFc hP1 hD1
            have hP : va_P (dC, dI) vwCl [(h0, .inr (13, mX13 q0 v0)), ((q0 11), zi k10 120 f10), ((q0 64), zi k40 40 f40), ((q0 5), zi k4 122880 f4), ((q0 43), zi k27 40 f27), ((q0 44), zi k28 40 f28), ((q0 45), zi k29 40 f29), ((q0 61), zi k37 200 f37), ((q0 62), zi k38 16000 f38), ((q0 12), zi k11 120 f11)] H1 := hP.sub [3, 0, 1, 4, 5, 6, 7, 8, 9, 2] rfl
            have hD : va_D A [(h0, .inr (13, mX13 q0 v0)), ((q0 11), zi k10 120 f10), ((q0 64), zi k40 40 f40), ((q0 5), zi k4 122880 f4), ((q0 43), zi k27 40 f27), ((q0 44), zi k28 40 f28), ((q0 45), zi k29 40 f29), ((q0 61), zi k37 200 f37), ((q0 62), zi k38 16000 f38), ((q0 12), zi k11 120 f11)] := hD.sub [3, 0, 1, 4, 5, 6, 7, 8, 9, 2] (by decide) rfl
            generalize H1 = H at hP hS ⊢
            clear hz1
            refine lv_if_eq (tgt := 97) hx hb dX13_weighed_90 (by decide) (fun c_ => ?_) (fun c_ => ?_)
            · skip
              have b_ := zT_eq rfl zk_0 c_
              have hnF : ¬ zHt f4 f27 f28 f29 f37 f38 f40 x1.toInt x2.toInt (u56_ 1).toInt := fun q => by have q2 := q.2; omega
              refine lv_iconst (v := 0) hx hb dX13_weighed_97 (by decide) ?_
              refine lv_iadd hx hb dX13_weighed_98 ?_
              refine lv_topi (fun z98 e_z98 => ?_)
              have b_ := zadd rfl zk_0 e_z98 (by omega) (by omega)
              refine lv_istore_n (lv' := [(3, .int z98), (0, .ref h0), (1, .int x1), (2, .int x2), (4, .int (u56_ 1))]) hx hb dX13_weighed_99 rfl hl (by decide) rfl (fun ls hl => ?_)
              obtain ⟨z100, e_z100⟩ : ∃ z : Int32, z = (u56_ 1) + Int32.ofInt 1 := ⟨_, rfl⟩
              have b_ := zadd (x := (u56_ 1)) (y := Int32.ofInt 1) rfl (show (Int32.ofInt 1).toInt = 1 from by decide) e_z100 (by omega) (by omega)
              refine lv_iinc (v := z100) (lv' := [(4, .int z100), (3, .int z98), (0, .ref h0), (1, .int x1), (2, .int x2)]) hx hb dX13_weighed_100 hl (k := 4) rfl e_z100.symm (by decide) rfl (fun ls hl => ?_)
              refine lv_goto (tgt := 56) hx hb dX13_weighed_103 (by decide) ?_
              have hc : va_P (dC, dI) vwCl [(h0, .inr (13, mX13 q0 v0)), ((q0 11), zi k10 120 f10), ((q0 64), zi k40 40 f40), ((q0 5), zi k4 122880 f4), ((q0 43), zi k27 40 f27), ((q0 44), zi k28 40 f28), ((q0 45), zi k29 40 f29), ((q0 61), zi k37 200 f37), ((q0 62), zi k38 16000 f38), ((q0 12), zi k11 120 f11)] H ∧ va_D A [(h0, .inr (13, mX13 q0 v0)), ((q0 11), zi k10 120 f10), ((q0 64), zi k40 40 f40), ((q0 5), zi k4 122880 f4), ((q0 43), zi k27 40 f27), ((q0 44), zi k28 40 f28), ((q0 45), zi k29 40 f29), ((q0 61), zi k37 200 f37), ((q0 62), zi k38 16000 f38), ((q0 12), zi k11 120 f11)] ∧ va_S A s.heap H locs ∧ lv_has ls 5 [(0, .ref h0), (1, .int x1), (2, .int x2), (3, .int z98), (4, .int z100)] ∧ (0 ≤ z98.toInt ∧ z98.toInt ≤ 2048) ∧ (512 ≤ z100.toInt ∧ z100.toInt ≤ 1024) ∧ (0 < z98.toInt ↔ (zSm (zHt f4 f27 f28 f29 f37 f38 f40 x1.toInt x2.toInt) 0 (f10 ((x2 : Int32)).toNatClampNeg).toInt ∨ zSm (zHt f4 f27 f28 f29 f37 f38 f40 x1.toInt x2.toInt) 512 z100.toInt)) ∧ (z100.toInt ≤ 512 + (f11 ((x2 : Int32)).toNatClampNeg).toInt) ∧ (z98.toInt ≤ 1536 + (z100.toInt - 512)) ∧ (zWtR (zWgP (f10 ((x2 : Int32)).toNatClampNeg).toInt (f11 ((x2 : Int32)).toNatClampNeg).toInt (zHt f4 f27 f28 f29 f37 f38 f40 x1.toInt x2.toInt)) (z100.toInt).toNat z98.toInt) := ⟨hP, hD, hS, lv_sub hl [2, 3, 4, 1, 0] rfl, (by first | with_reducible assumption | exact ⟨by omega, by omega⟩), (by first | with_reducible assumption | exact ⟨by omega, by omega⟩), by first | exact zWj_y hF (by omega) (by omega) (by omega) | exact zWj_n hI56_0 hnF (by omega) (by omega) | exact zWj_0 hI5_0 (by omega) (by omega), by omega, by omega, by first | exact zWgP_y hI56_3 (by omega) hF (by omega) (by omega) (by omega) | exact zWgP_n hI56_3 (by omega) hnF (by omega) (by omega) | exact zWgP_m hI5_3 (by omega) (by omega) (by omega) (by omega) rfl (by decide)⟩
              exact hJ56 H locs ls (fun i => ([z98, z100] : List (Int32)).getD i 0) (fun _ => 0) (fun _ => (fun _ => 0)) (fun _ => (fun _ => 0)) hc (show (1024 - z100.toInt).toNat < (1024 - (u56_ 1).toInt).toNat from by omega)
            · skip
              have b_ := zF_eq rfl zk_0 c_
              have hF : zHt f4 f27 f28 f29 f37 f38 f40 x1.toInt x2.toInt (u56_ 1).toInt := ⟨hX76_0.mp (by omega), by omega⟩
              refine lv_iconst (v := 1) hx hb dX13_weighed_93 (by decide) ?_
              refine lv_goto (tgt := 98) hx hb dX13_weighed_94 (by decide) ?_
              refine lv_iadd hx hb dX13_weighed_98 ?_
              refine lv_topi (fun z98 e_z98 => ?_)
              have b_ := zadd rfl zk_1 e_z98 (by omega) (by omega)
              refine lv_istore_n (lv' := [(3, .int z98), (0, .ref h0), (1, .int x1), (2, .int x2), (4, .int (u56_ 1))]) hx hb dX13_weighed_99 rfl hl (by decide) rfl (fun ls hl => ?_)
              obtain ⟨z100, e_z100⟩ : ∃ z : Int32, z = (u56_ 1) + Int32.ofInt 1 := ⟨_, rfl⟩
              have b_ := zadd (x := (u56_ 1)) (y := Int32.ofInt 1) rfl (show (Int32.ofInt 1).toInt = 1 from by decide) e_z100 (by omega) (by omega)
              refine lv_iinc (v := z100) (lv' := [(4, .int z100), (3, .int z98), (0, .ref h0), (1, .int x1), (2, .int x2)]) hx hb dX13_weighed_100 hl (k := 4) rfl e_z100.symm (by decide) rfl (fun ls hl => ?_)
              refine lv_goto (tgt := 56) hx hb dX13_weighed_103 (by decide) ?_
              have hc : va_P (dC, dI) vwCl [(h0, .inr (13, mX13 q0 v0)), ((q0 11), zi k10 120 f10), ((q0 64), zi k40 40 f40), ((q0 5), zi k4 122880 f4), ((q0 43), zi k27 40 f27), ((q0 44), zi k28 40 f28), ((q0 45), zi k29 40 f29), ((q0 61), zi k37 200 f37), ((q0 62), zi k38 16000 f38), ((q0 12), zi k11 120 f11)] H ∧ va_D A [(h0, .inr (13, mX13 q0 v0)), ((q0 11), zi k10 120 f10), ((q0 64), zi k40 40 f40), ((q0 5), zi k4 122880 f4), ((q0 43), zi k27 40 f27), ((q0 44), zi k28 40 f28), ((q0 45), zi k29 40 f29), ((q0 61), zi k37 200 f37), ((q0 62), zi k38 16000 f38), ((q0 12), zi k11 120 f11)] ∧ va_S A s.heap H locs ∧ lv_has ls 5 [(0, .ref h0), (1, .int x1), (2, .int x2), (3, .int z98), (4, .int z100)] ∧ (0 ≤ z98.toInt ∧ z98.toInt ≤ 2048) ∧ (512 ≤ z100.toInt ∧ z100.toInt ≤ 1024) ∧ (0 < z98.toInt ↔ (zSm (zHt f4 f27 f28 f29 f37 f38 f40 x1.toInt x2.toInt) 0 (f10 ((x2 : Int32)).toNatClampNeg).toInt ∨ zSm (zHt f4 f27 f28 f29 f37 f38 f40 x1.toInt x2.toInt) 512 z100.toInt)) ∧ (z100.toInt ≤ 512 + (f11 ((x2 : Int32)).toNatClampNeg).toInt) ∧ (z98.toInt ≤ 1536 + (z100.toInt - 512)) ∧ (zWtR (zWgP (f10 ((x2 : Int32)).toNatClampNeg).toInt (f11 ((x2 : Int32)).toNatClampNeg).toInt (zHt f4 f27 f28 f29 f37 f38 f40 x1.toInt x2.toInt)) (z100.toInt).toNat z98.toInt) := ⟨hP, hD, hS, lv_sub hl [2, 3, 4, 1, 0] rfl, (by first | with_reducible assumption | exact ⟨by omega, by omega⟩), (by first | with_reducible assumption | exact ⟨by omega, by omega⟩), by first | exact zWj_y hF (by omega) (by omega) (by omega) | exact zWj_n hI56_0 hnF (by omega) (by omega) | exact zWj_0 hI5_0 (by omega) (by omega), by omega, by omega, by first | exact zWgP_y hI56_3 (by omega) hF (by omega) (by omega) (by omega) | exact zWgP_n hI56_3 (by omega) hnF (by omega) (by omega) | exact zWgP_m hI5_3 (by omega) (by omega) (by omega) (by omega) rfl (by decide)⟩
              exact hJ56 H locs ls (fun i => ([z98, z100] : List (Int32)).getD i 0) (fun _ => 0) (fun _ => (fun _ => 0)) (fun _ => (fun _ => 0)) hc (show (1024 - z100.toInt).toNat < (1024 - (u56_ 1).toInt).toNat from by omega)
      · skip
        have hc : va_P (dC, dI) vwCl [(h0, .inr (13, mX13 q0 v0)), ((q0 11), zi k10 120 f10), ((q0 64), zi k40 40 f40), ((q0 5), zi k4 122880 f4), ((q0 43), zi k27 40 f27), ((q0 44), zi k28 40 f28), ((q0 45), zi k29 40 f29), ((q0 61), zi k37 200 f37), ((q0 62), zi k38 16000 f38), ((q0 12), zi k11 120 f11)] H ∧ va_D A [(h0, .inr (13, mX13 q0 v0)), ((q0 11), zi k10 120 f10), ((q0 64), zi k40 40 f40), ((q0 5), zi k4 122880 f4), ((q0 43), zi k27 40 f27), ((q0 44), zi k28 40 f28), ((q0 45), zi k29 40 f29), ((q0 61), zi k37 200 f37), ((q0 62), zi k38 16000 f38), ((q0 12), zi k11 120 f11)] ∧ va_S A s.heap H locs ∧ lv_has ls 5 [(0, .ref h0), (1, .int x1), (2, .int x2), (3, .int (u5_ 0)), (4, .int 512)] ∧ (0 ≤ (u5_ 0).toInt ∧ (u5_ 0).toInt ≤ 2048) ∧ (512 ≤ (512 : Int32).toInt ∧ (512 : Int32).toInt ≤ 1024) ∧ (0 < (u5_ 0).toInt ↔ (zSm (zHt f4 f27 f28 f29 f37 f38 f40 x1.toInt x2.toInt) 0 (f10 ((x2 : Int32)).toNatClampNeg).toInt ∨ zSm (zHt f4 f27 f28 f29 f37 f38 f40 x1.toInt x2.toInt) 512 (512 : Int32).toInt)) ∧ ((512 : Int32).toInt ≤ 512 + (f11 ((x2 : Int32)).toNatClampNeg).toInt) ∧ ((u5_ 0).toInt ≤ 1536 + ((512 : Int32).toInt - 512)) ∧ (zWtR (zWgP (f10 ((x2 : Int32)).toNatClampNeg).toInt (f11 ((x2 : Int32)).toNatClampNeg).toInt (zHt f4 f27 f28 f29 f37 f38 f40 x1.toInt x2.toInt)) ((512 : Int32).toInt).toNat (u5_ 0).toInt) := ⟨hP, hD, hS, lv_sub hl [1, 2, 3, 4, 0] rfl, (by first | with_reducible assumption | exact ⟨by omega, by omega⟩), (by first | with_reducible assumption | exact ⟨by omega, by omega⟩), by first | exact zWj_y hF (by omega) (by omega) (by omega) | exact zWj_n hI56_0 hnF (by omega) (by omega) | exact zWj_0 hI5_0 (by omega) (by omega), by omega, by omega, by first | exact zWgP_y hI56_3 (by omega) hF (by omega) (by omega) (by omega) | exact zWgP_n hI56_3 (by omega) hnF (by omega) (by omega) | exact zWgP_m hI5_3 (by omega) (by omega) (by omega) (by omega) rfl (by decide)⟩
        exact hJ56 H locs ls (fun i => ([(u5_ 0), 512] : List (Int32)).getD i 0) (fun _ => 0) (fun _ => (fun _ => 0)) (fun _ => (fun _ => 0)) hc
    · skip
      have b_ := zF_ge rfl rfl c_
      refine lv_iload_n hx hb dX13_weighed_16 rfl (lv_at hl 3 rfl) ?_
      refine lv_aload_n hx hb dX13_weighed_17 rfl (lv_at hl 0 rfl) ?_
      refine lv_iload_n hx hb dX13_weighed_18 rfl (lv_at hl 1 rfl) ?_
      refine lv_iload hx hb dX13_weighed_19 (lv_at hl 4 rfl) ?_
      have hPc := hP.sub (ws' := [(h0, .inr (13, mX13 q0 v0)), ((q0 64), zi k40 40 f40)]) [0, 2] rfl
      have hDc := hD.sub (ws' := [(h0, .inr (13, mX13 q0 v0)), ((q0 64), zi k40 40 f40)]) [0, 2] (by decide) rfl
      have hKc := hK.sub (tys' := [(k40, .int)]) [1] rfl
      have hFc := va_free (wc := [(h0, .inr (13, mX13 q0 v0)), ((q0 64), zi k40 40 f40)]) hD hS hA [0, 2] rfl
      refine va_calli (va_runV (As := [.int x1, .int (u5_ 1)]) (rest := [.int (u5_ 0)]) ⟨hx, hb, hml, hown, hG⟩ (sX13_isLeft_0 l dC dI adK adV h0 q0 k40 H.size v0 f40 x1 (u5_ 1) hv0 (show (0 : Int) ≤ (x1 : Int32).toInt ∧ (x1 : Int32).toInt ≤ (39 : Int) from (by first | with_reducible assumption | exact ⟨by omega, by omega⟩))) (cwV 2 hG (zgV zv2174 zv2176 zv114 zv142 zv2177) rfl rfl rfl (by decide +kernel) ⟨Nat.le_of_ble_eq_true rfl, Nat.le_of_ble_eq_true rfl⟩) ⟨zPc_blind, va_recv hKc hPc (ci := 13) (q0 := 0) rfl rfl, zPc_pre hPc hKc hDc hE hS hFc hZ⟩ rfl rfl hl.1 rfl (lv_room (Nat.le_of_ble_eq_true rfl)) dX13_weighed_21 ⟨Nat.le_of_ble_eq_true rfl, Nat.le_of_ble_eq_true rfl⟩) hS (fun q _ h => hFc q h) hFc (fun r21_ u21_ t H1 locs ht hvm hw hB hz1 hk1 hS => ?_)
      replace hw : (0 ≤ r21_.toInt ∧ r21_.toInt ≤ 1) ∧ (r21_.toInt = 1 ↔ zIl f40 x1.toInt (u5_ 1).toInt) := hw
      obtain ⟨b_, hX21_0⟩ := hw
      obtain ⟨w21_, a21_, b21_, hP1, hK1, hD1⟩ := hB
      rw [ht] at hP1
      obtain ⟨hP, hD⟩ := va_join (wr := [((q0 11), zi k10 120 f10), ((q0 5), zi k4 122880 f4), ((q0 43), zi k27 40 f27), ((q0 44), zi k28 40 f28), ((q0 45), zi k29 40 f29), ((q0 61), zi k37 200 f37), ((q0 62), zi k38 16000 f38), ((q0 12), zi k11 120 f11)]) (w1 := [(h0, .inr (13, mX13 q0 v0)), ((q0 64), zi k40 40 f40)]) hP hD [0, 2] [1, 3, 4, 5, 6, 7, 8, 9] rfl rfl (by decide) (by decide) hk1 hFc hP1 hD1
      have hP : va_P (dC, dI) vwCl [(h0, .inr (13, mX13 q0 v0)), ((q0 11), zi k10 120 f10), ((q0 64), zi k40 40 f40), ((q0 5), zi k4 122880 f4), ((q0 43), zi k27 40 f27), ((q0 44), zi k28 40 f28), ((q0 45), zi k29 40 f29), ((q0 61), zi k37 200 f37), ((q0 62), zi k38 16000 f38), ((q0 12), zi k11 120 f11)] H1 := hP.sub [8, 0, 9, 1, 2, 3, 4, 5, 6, 7] rfl
      have hD : va_D A [(h0, .inr (13, mX13 q0 v0)), ((q0 11), zi k10 120 f10), ((q0 64), zi k40 40 f40), ((q0 5), zi k4 122880 f4), ((q0 43), zi k27 40 f27), ((q0 44), zi k28 40 f28), ((q0 45), zi k29 40 f29), ((q0 61), zi k37 200 f37), ((q0 62), zi k38 16000 f38), ((q0 12), zi k11 120 f11)] := hD.sub [8, 0, 9, 1, 2, 3, 4, 5, 6, 7] (by decide) rfl
      generalize H1 = H at hP hS ⊢
      clear hz1
      refine lv_if_eq (tgt := 42) hx hb dX13_weighed_24 (by decide) (fun c_ => ?_) (fun c_ => ?_)
      · skip
        have b_ := zT_eq rfl zk_0 c_
        have hnF : ¬ zHt f4 f27 f28 f29 f37 f38 f40 x1.toInt x2.toInt (u5_ 1).toInt := fun q => absurd (hX21_0.mpr q.1) (by omega)
        refine lv_iconst (v := 0) hx hb dX13_weighed_42 (by decide) ?_
        refine lv_iadd hx hb dX13_weighed_43 ?_
        refine lv_topi (fun z43 e_z43 => ?_)
        have b_ := zadd rfl zk_0 e_z43 (by omega) (by omega)
        refine lv_istore_n (lv' := [(3, .int z43), (0, .ref h0), (1, .int x1), (2, .int x2), (4, .int (u5_ 1))]) hx hb dX13_weighed_44 rfl hl (by decide) rfl (fun ls hl => ?_)
        obtain ⟨z45, e_z45⟩ : ∃ z : Int32, z = (u5_ 1) + Int32.ofInt 1 := ⟨_, rfl⟩
        have b_ := zadd (x := (u5_ 1)) (y := Int32.ofInt 1) rfl (show (Int32.ofInt 1).toInt = 1 from by decide) e_z45 (by omega) (by omega)
        refine lv_iinc (v := z45) (lv' := [(4, .int z45), (3, .int z43), (0, .ref h0), (1, .int x1), (2, .int x2)]) hx hb dX13_weighed_45 hl (k := 4) rfl e_z45.symm (by decide) rfl (fun ls hl => ?_)
        refine lv_goto (tgt := 5) hx hb dX13_weighed_48 (by decide) ?_
        have hc : va_P (dC, dI) vwCl [(h0, .inr (13, mX13 q0 v0)), ((q0 11), zi k10 120 f10), ((q0 64), zi k40 40 f40), ((q0 5), zi k4 122880 f4), ((q0 43), zi k27 40 f27), ((q0 44), zi k28 40 f28), ((q0 45), zi k29 40 f29), ((q0 61), zi k37 200 f37), ((q0 62), zi k38 16000 f38), ((q0 12), zi k11 120 f11)] H ∧ va_D A [(h0, .inr (13, mX13 q0 v0)), ((q0 11), zi k10 120 f10), ((q0 64), zi k40 40 f40), ((q0 5), zi k4 122880 f4), ((q0 43), zi k27 40 f27), ((q0 44), zi k28 40 f28), ((q0 45), zi k29 40 f29), ((q0 61), zi k37 200 f37), ((q0 62), zi k38 16000 f38), ((q0 12), zi k11 120 f11)] ∧ va_S A s.heap H locs ∧ lv_has ls 5 [(0, .ref h0), (1, .int x1), (2, .int x2), (3, .int z43), (4, .int z45)] ∧ (0 ≤ z43.toInt ∧ z43.toInt ≤ 1536) ∧ (0 ≤ z45.toInt ∧ z45.toInt ≤ 512) ∧ (0 < z43.toInt ↔ zSm (zHt f4 f27 f28 f29 f37 f38 f40 x1.toInt x2.toInt) 0 z45.toInt) ∧ (z45.toInt ≤ (f10 ((x2 : Int32)).toNatClampNeg).toInt) ∧ (z43.toInt ≤ 3 * z45.toInt) ∧ (zWtR (zWgP (f10 ((x2 : Int32)).toNatClampNeg).toInt (f11 ((x2 : Int32)).toNatClampNeg).toInt (zHt f4 f27 f28 f29 f37 f38 f40 x1.toInt x2.toInt)) (z45.toInt).toNat z43.toInt) := ⟨hP, hD, hS, lv_sub hl [2, 3, 4, 1, 0] rfl, (by first | with_reducible assumption | exact ⟨by omega, by omega⟩), (by first | with_reducible assumption | exact ⟨by omega, by omega⟩), by first | exact zWi_y hF (by omega) (by omega) (by omega) | exact zWi_n hI5_0 hnF (by omega) (by omega) | exact zWi_0 (by omega) (by omega), by omega, by omega, by first | exact zWgP_y hI5_3 (by omega) hF (by omega) (by omega) (by omega) | exact zWgP_n hI5_3 (by omega) hnF (by omega) (by omega) | exact zWgP_0 (by decide) (by decide)⟩
        exact hJ5 H locs ls (fun i => ([z43, z45] : List (Int32)).getD i 0) (fun _ => 0) (fun _ => (fun _ => 0)) (fun _ => (fun _ => 0)) hc (show (512 - z45.toInt).toNat < (512 - (u5_ 1).toInt).toNat from by omega)
      · skip
        have b_ := zF_eq rfl zk_0 c_
        refine lv_aload_n hx hb dX13_weighed_27 rfl (lv_at hl 0 rfl) ?_
        refine lv_iload_n hx hb dX13_weighed_28 rfl (lv_at hl 1 rfl) ?_
        refine lv_iload_n hx hb dX13_weighed_29 rfl (lv_at hl 2 rfl) ?_
        refine lv_iload hx hb dX13_weighed_30 (lv_at hl 4 rfl) ?_
        have hPc := hP.sub (ws' := [(h0, .inr (13, mX13 q0 v0)), ((q0 5), zi k4 122880 f4), ((q0 43), zi k27 40 f27), ((q0 44), zi k28 40 f28), ((q0 45), zi k29 40 f29), ((q0 61), zi k37 200 f37), ((q0 62), zi k38 16000 f38)]) [0, 3, 4, 5, 6, 7, 8] rfl
        have hDc := hD.sub (ws' := [(h0, .inr (13, mX13 q0 v0)), ((q0 5), zi k4 122880 f4), ((q0 43), zi k27 40 f27), ((q0 44), zi k28 40 f28), ((q0 45), zi k29 40 f29), ((q0 61), zi k37 200 f37), ((q0 62), zi k38 16000 f38)]) [0, 3, 4, 5, 6, 7, 8] (by decide) rfl
        have hKc := hK.sub (tys' := [(k4, .short), (k27, .int), (k28, .int), (k29, .int), (k37, .int), (k38, .boolean)]) [2, 3, 4, 5, 6, 7] rfl
        have hFc := va_free (wc := [(h0, .inr (13, mX13 q0 v0)), ((q0 5), zi k4 122880 f4), ((q0 43), zi k27 40 f27), ((q0 44), zi k28 40 f28), ((q0 45), zi k29 40 f29), ((q0 61), zi k37 200 f37), ((q0 62), zi k38 16000 f38)]) hD hS hA [0, 3, 4, 5, 6, 7, 8] rfl
        refine va_calli (va_runV (As := [.int x1, .int x2, .int (u5_ 1)]) (rest := [.int (u5_ 0)]) ⟨hx, hb, hml, hown, hG⟩ (sX13_matches_0 l dC dI adK adV h0 q0 k4 k27 k28 k29 k37 k38 H.size v0 f4 f27 f28 f29 f37 f38 x1 x2 (u5_ 1) hv0 hf4 (show (0 : Int) ≤ (x1 : Int32).toInt ∧ (x1 : Int32).toInt ≤ (39 : Int) from (by first | with_reducible assumption | exact ⟨by omega, by omega⟩)) (show (0 : Int) ≤ (x2 : Int32).toInt ∧ (x2 : Int32).toInt ≤ (119 : Int) from (by first | with_reducible assumption | exact ⟨by omega, by omega⟩)) (show (0 : Int) ≤ ((u5_ 1) : Int32).toInt ∧ ((u5_ 1) : Int32).toInt ≤ (1023 : Int) from (by first | with_reducible assumption | exact ⟨by omega, by omega⟩)) (show zLf f27 f28 f29 (v0 47).toInt from by first | with_reducible assumption | assumption) (show x1.toInt < (v0 47).toInt from by omega)) (cwV 3 hG (zgV zv2178 zv2180 zv115 zv142 zv2181) rfl rfl rfl (by decide +kernel) ⟨Nat.le_of_ble_eq_true rfl, Nat.le_of_ble_eq_true rfl⟩) ⟨zPc_blind, va_recv hKc hPc (ci := 13) (q0 := 0) rfl rfl, zPc_pre hPc hKc hDc hE hS hFc hZ⟩ rfl rfl hl.1 rfl (lv_room (Nat.le_of_ble_eq_true rfl)) dX13_weighed_32 ⟨Nat.le_of_ble_eq_true rfl, Nat.le_of_ble_eq_true rfl⟩) hS (fun q _ h => hFc q h) hFc (fun r32_ u32_ t H1 locs ht hvm hw hB hz1 hk1 hS => ?_)
        replace hw : (0 ≤ r32_.toInt ∧ r32_.toInt ≤ 1) ∧ (r32_.toInt = zMt f4 f27 f28 f29 f37 f38 x1.toInt x2.toInt (u5_ 1).toInt) := hw
        obtain ⟨b_, hX32_0⟩ := hw
        obtain ⟨w32_, a32_, b32_, hP1, hK1, hD1⟩ := hB
        rw [ht] at hP1
        obtain ⟨hP, hD⟩ := va_join (wr := [((q0 11), zi k10 120 f10), ((q0 64), zi k40 40 f40), ((q0 12), zi k11 120 f11)]) (w1 := [(h0, .inr (13, mX13 q0 v0)), ((q0 5), zi k4 122880 f4), ((q0 43), zi k27 40 f27), ((q0 44), zi k28 40 f28), ((q0 45), zi k29 40 f29), ((q0 61), zi k37 200 f37), ((q0 62), zi k38 16000 f38)]) hP hD [0, 3, 4, 5, 6, 7, 8] [1, 2, 9] rfl rfl (by decide) (by decide) hk1 hFc hP1 hD1
        have hP : va_P (dC, dI) vwCl [(h0, .inr (13, mX13 q0 v0)), ((q0 11), zi k10 120 f10), ((q0 64), zi k40 40 f40), ((q0 5), zi k4 122880 f4), ((q0 43), zi k27 40 f27), ((q0 44), zi k28 40 f28), ((q0 45), zi k29 40 f29), ((q0 61), zi k37 200 f37), ((q0 62), zi k38 16000 f38), ((q0 12), zi k11 120 f11)] H1 := hP.sub [3, 0, 1, 4, 5, 6, 7, 8, 9, 2] rfl
        have hD : va_D A [(h0, .inr (13, mX13 q0 v0)), ((q0 11), zi k10 120 f10), ((q0 64), zi k40 40 f40), ((q0 5), zi k4 122880 f4), ((q0 43), zi k27 40 f27), ((q0 44), zi k28 40 f28), ((q0 45), zi k29 40 f29), ((q0 61), zi k37 200 f37), ((q0 62), zi k38 16000 f38), ((q0 12), zi k11 120 f11)] := hD.sub [3, 0, 1, 4, 5, 6, 7, 8, 9, 2] (by decide) rfl
        generalize H1 = H at hP hS ⊢
        clear hz1
        refine lv_if_eq (tgt := 42) hx hb dX13_weighed_35 (by decide) (fun c_ => ?_) (fun c_ => ?_)
        · skip
          have b_ := zT_eq rfl zk_0 c_
          have hnF : ¬ zHt f4 f27 f28 f29 f37 f38 f40 x1.toInt x2.toInt (u5_ 1).toInt := fun q => by have q2 := q.2; omega
          refine lv_iconst (v := 0) hx hb dX13_weighed_42 (by decide) ?_
          refine lv_iadd hx hb dX13_weighed_43 ?_
          refine lv_topi (fun z43 e_z43 => ?_)
          have b_ := zadd rfl zk_0 e_z43 (by omega) (by omega)
          refine lv_istore_n (lv' := [(3, .int z43), (0, .ref h0), (1, .int x1), (2, .int x2), (4, .int (u5_ 1))]) hx hb dX13_weighed_44 rfl hl (by decide) rfl (fun ls hl => ?_)
          obtain ⟨z45, e_z45⟩ : ∃ z : Int32, z = (u5_ 1) + Int32.ofInt 1 := ⟨_, rfl⟩
          have b_ := zadd (x := (u5_ 1)) (y := Int32.ofInt 1) rfl (show (Int32.ofInt 1).toInt = 1 from by decide) e_z45 (by omega) (by omega)
          refine lv_iinc (v := z45) (lv' := [(4, .int z45), (3, .int z43), (0, .ref h0), (1, .int x1), (2, .int x2)]) hx hb dX13_weighed_45 hl (k := 4) rfl e_z45.symm (by decide) rfl (fun ls hl => ?_)
          refine lv_goto (tgt := 5) hx hb dX13_weighed_48 (by decide) ?_
          have hc : va_P (dC, dI) vwCl [(h0, .inr (13, mX13 q0 v0)), ((q0 11), zi k10 120 f10), ((q0 64), zi k40 40 f40), ((q0 5), zi k4 122880 f4), ((q0 43), zi k27 40 f27), ((q0 44), zi k28 40 f28), ((q0 45), zi k29 40 f29), ((q0 61), zi k37 200 f37), ((q0 62), zi k38 16000 f38), ((q0 12), zi k11 120 f11)] H ∧ va_D A [(h0, .inr (13, mX13 q0 v0)), ((q0 11), zi k10 120 f10), ((q0 64), zi k40 40 f40), ((q0 5), zi k4 122880 f4), ((q0 43), zi k27 40 f27), ((q0 44), zi k28 40 f28), ((q0 45), zi k29 40 f29), ((q0 61), zi k37 200 f37), ((q0 62), zi k38 16000 f38), ((q0 12), zi k11 120 f11)] ∧ va_S A s.heap H locs ∧ lv_has ls 5 [(0, .ref h0), (1, .int x1), (2, .int x2), (3, .int z43), (4, .int z45)] ∧ (0 ≤ z43.toInt ∧ z43.toInt ≤ 1536) ∧ (0 ≤ z45.toInt ∧ z45.toInt ≤ 512) ∧ (0 < z43.toInt ↔ zSm (zHt f4 f27 f28 f29 f37 f38 f40 x1.toInt x2.toInt) 0 z45.toInt) ∧ (z45.toInt ≤ (f10 ((x2 : Int32)).toNatClampNeg).toInt) ∧ (z43.toInt ≤ 3 * z45.toInt) ∧ (zWtR (zWgP (f10 ((x2 : Int32)).toNatClampNeg).toInt (f11 ((x2 : Int32)).toNatClampNeg).toInt (zHt f4 f27 f28 f29 f37 f38 f40 x1.toInt x2.toInt)) (z45.toInt).toNat z43.toInt) := ⟨hP, hD, hS, lv_sub hl [2, 3, 4, 1, 0] rfl, (by first | with_reducible assumption | exact ⟨by omega, by omega⟩), (by first | with_reducible assumption | exact ⟨by omega, by omega⟩), by first | exact zWi_y hF (by omega) (by omega) (by omega) | exact zWi_n hI5_0 hnF (by omega) (by omega) | exact zWi_0 (by omega) (by omega), by omega, by omega, by first | exact zWgP_y hI5_3 (by omega) hF (by omega) (by omega) (by omega) | exact zWgP_n hI5_3 (by omega) hnF (by omega) (by omega) | exact zWgP_0 (by decide) (by decide)⟩
          exact hJ5 H locs ls (fun i => ([z43, z45] : List (Int32)).getD i 0) (fun _ => 0) (fun _ => (fun _ => 0)) (fun _ => (fun _ => 0)) hc (show (512 - z45.toInt).toNat < (512 - (u5_ 1).toInt).toNat from by omega)
        · skip
          have b_ := zF_eq rfl zk_0 c_
          have hF : zHt f4 f27 f28 f29 f37 f38 f40 x1.toInt x2.toInt (u5_ 1).toInt := ⟨hX21_0.mp (by omega), by omega⟩
          refine lv_iconst (v := 3) hx hb dX13_weighed_38 (by decide) ?_
          refine lv_goto (tgt := 43) hx hb dX13_weighed_39 (by decide) ?_
          refine lv_iadd hx hb dX13_weighed_43 ?_
          refine lv_topi (fun z43 e_z43 => ?_)
          have b_ := zadd rfl zk_3 e_z43 (by omega) (by omega)
          refine lv_istore_n (lv' := [(3, .int z43), (0, .ref h0), (1, .int x1), (2, .int x2), (4, .int (u5_ 1))]) hx hb dX13_weighed_44 rfl hl (by decide) rfl (fun ls hl => ?_)
          obtain ⟨z45, e_z45⟩ : ∃ z : Int32, z = (u5_ 1) + Int32.ofInt 1 := ⟨_, rfl⟩
          have b_ := zadd (x := (u5_ 1)) (y := Int32.ofInt 1) rfl (show (Int32.ofInt 1).toInt = 1 from by decide) e_z45 (by omega) (by omega)
          refine lv_iinc (v := z45) (lv' := [(4, .int z45), (3, .int z43), (0, .ref h0), (1, .int x1), (2, .int x2)]) hx hb dX13_weighed_45 hl (k := 4) rfl e_z45.symm (by decide) rfl (fun ls hl => ?_)
          refine lv_goto (tgt := 5) hx hb dX13_weighed_48 (by decide) ?_
          have hc : va_P (dC, dI) vwCl [(h0, .inr (13, mX13 q0 v0)), ((q0 11), zi k10 120 f10), ((q0 64), zi k40 40 f40), ((q0 5), zi k4 122880 f4), ((q0 43), zi k27 40 f27), ((q0 44), zi k28 40 f28), ((q0 45), zi k29 40 f29), ((q0 61), zi k37 200 f37), ((q0 62), zi k38 16000 f38), ((q0 12), zi k11 120 f11)] H ∧ va_D A [(h0, .inr (13, mX13 q0 v0)), ((q0 11), zi k10 120 f10), ((q0 64), zi k40 40 f40), ((q0 5), zi k4 122880 f4), ((q0 43), zi k27 40 f27), ((q0 44), zi k28 40 f28), ((q0 45), zi k29 40 f29), ((q0 61), zi k37 200 f37), ((q0 62), zi k38 16000 f38), ((q0 12), zi k11 120 f11)] ∧ va_S A s.heap H locs ∧ lv_has ls 5 [(0, .ref h0), (1, .int x1), (2, .int x2), (3, .int z43), (4, .int z45)] ∧ (0 ≤ z43.toInt ∧ z43.toInt ≤ 1536) ∧ (0 ≤ z45.toInt ∧ z45.toInt ≤ 512) ∧ (0 < z43.toInt ↔ zSm (zHt f4 f27 f28 f29 f37 f38 f40 x1.toInt x2.toInt) 0 z45.toInt) ∧ (z45.toInt ≤ (f10 ((x2 : Int32)).toNatClampNeg).toInt) ∧ (z43.toInt ≤ 3 * z45.toInt) ∧ (zWtR (zWgP (f10 ((x2 : Int32)).toNatClampNeg).toInt (f11 ((x2 : Int32)).toNatClampNeg).toInt (zHt f4 f27 f28 f29 f37 f38 f40 x1.toInt x2.toInt)) (z45.toInt).toNat z43.toInt) := ⟨hP, hD, hS, lv_sub hl [2, 3, 4, 1, 0] rfl, (by first | with_reducible assumption | exact ⟨by omega, by omega⟩), (by first | with_reducible assumption | exact ⟨by omega, by omega⟩), by first | exact zWi_y hF (by omega) (by omega) (by omega) | exact zWi_n hI5_0 hnF (by omega) (by omega) | exact zWi_0 (by omega) (by omega), by omega, by omega, by first | exact zWgP_y hI5_3 (by omega) hF (by omega) (by omega) (by omega) | exact zWgP_n hI5_3 (by omega) hnF (by omega) (by omega) | exact zWgP_0 (by decide) (by decide)⟩
          exact hJ5 H locs ls (fun i => ([z43, z45] : List (Int32)).getD i 0) (fun _ => 0) (fun _ => (fun _ => 0)) (fun _ => (fun _ => 0)) hc (show (512 - z45.toInt).toNat < (512 - (u5_ 1).toInt).toNat from by omega)
  · skip
    have hc : va_P (dC, dI) vwCl [(h0, .inr (13, mX13 q0 v0)), ((q0 11), zi k10 120 f10), ((q0 64), zi k40 40 f40), ((q0 5), zi k4 122880 f4), ((q0 43), zi k27 40 f27), ((q0 44), zi k28 40 f28), ((q0 45), zi k29 40 f29), ((q0 61), zi k37 200 f37), ((q0 62), zi k38 16000 f38), ((q0 12), zi k11 120 f11)] s.heap ∧ va_D A [(h0, .inr (13, mX13 q0 v0)), ((q0 11), zi k10 120 f10), ((q0 64), zi k40 40 f40), ((q0 5), zi k4 122880 f4), ((q0 43), zi k27 40 f27), ((q0 44), zi k28 40 f28), ((q0 45), zi k29 40 f29), ((q0 61), zi k37 200 f37), ((q0 62), zi k38 16000 f38), ((q0 12), zi k11 120 f11)] ∧ va_S A s.heap s.heap [] ∧ lv_has ls 5 [(0, .ref h0), (1, .int x1), (2, .int x2), (3, .int 0), (4, .int 0)] ∧ (0 ≤ (0 : Int32).toInt ∧ (0 : Int32).toInt ≤ 1536) ∧ (0 ≤ (0 : Int32).toInt ∧ (0 : Int32).toInt ≤ 512) ∧ (0 < (0 : Int32).toInt ↔ zSm (zHt f4 f27 f28 f29 f37 f38 f40 x1.toInt x2.toInt) 0 (0 : Int32).toInt) ∧ ((0 : Int32).toInt ≤ (f10 ((x2 : Int32)).toNatClampNeg).toInt) ∧ ((0 : Int32).toInt ≤ 3 * (0 : Int32).toInt) ∧ (zWtR (zWgP (f10 ((x2 : Int32)).toNatClampNeg).toInt (f11 ((x2 : Int32)).toNatClampNeg).toInt (zHt f4 f27 f28 f29 f37 f38 f40 x1.toInt x2.toInt)) ((0 : Int32).toInt).toNat (0 : Int32).toInt) := ⟨hP, hD, hS, lv_sub hl [2, 3, 4, 1, 0] rfl, (by first | with_reducible assumption | exact ⟨by omega, by omega⟩), (by first | with_reducible assumption | exact ⟨by omega, by omega⟩), by first | exact zWi_y hF (by omega) (by omega) (by omega) | exact zWi_n hI5_0 hnF (by omega) (by omega) | exact zWi_0 (by omega) (by omega), by omega, by omega, by first | exact zWgP_y hI5_3 (by omega) hF (by omega) (by omega) (by omega) | exact zWgP_n hI5_3 (by omega) hnF (by omega) (by omega) | exact zWgP_0 (by decide) (by decide)⟩
    exact hJ5 s.heap [] ls (fun i => ([0, 0] : List (Int32)).getD i 0) (fun _ => 0) (fun _ => (fun _ => 0)) (fun _ => (fun _ => 0)) hc
