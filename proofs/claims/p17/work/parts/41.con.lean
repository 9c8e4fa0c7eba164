set_option maxHeartbeats 8000000 in
set_option maxRecDepth 100000 in
theorem sX0_takeOff_0 (l : Launch) (dC : Nat → ClassId) (dI : Nat → Nat → Nat) (adK adV : Nat → Nat) (h0 : Nat) (h1 : Nat) (h2 : Nat) (h3 : Nat) (h4 : Nat) (k1 : ClassId) (sz : Nat) (v0 : Nat → Int32) (f1 : Nat → Int32) (x1 : Int32) (hv0 : zR rg_Documents v0) : Met l yX0_takeOff (zw yX0_takeOff cX0_takeOff 2 (some .boolean)) { frames := 2, cells := 0, slots := 0, locals := 42 } (zPc dC dI adK adV [.ref h0, .int x1] sz [(h0, .inr (0, mX0 h1 h2 h3 h4 v0)), (h1, zi k1 120 f1)] [(k1, .boolean)]) (va_Qi (fun (r : Int32) (u : Nat → Int32) => (0 ≤ r.toInt ∧ r.toInt ≤ 1) ∧ (zW (r.toInt = 1 → 0 ≤ (v0 5).toInt → (u 0).toInt = (v0 5).toInt - 1)) ∧ (zW (r.toInt = 0 → (u 0).toInt = (v0 5).toInt)) ∧ (r.toInt = (u 1).toInt)) (fun (u : Nat → Int32) (t : State) => ∃ (ww : Nat → Int64) (aa : Nat → Nat → Int32) (bb : Nat → Nat → Int64), (zRv f1 (v0 4).toInt (x1 : Int32) (u 1).toInt f1 (aa 0) 0) ∧ va_P (dC, dI) vwCl [(h0, .inr (0, mX0 h1 h2 h3 h4 (upd v0 5 (u 0)))), (h1, zi k1 120 (aa 0))] t.heap ∧ va_K (dC, dI) vwCl [(k1, .boolean)] t ∧ va_D (va_A [(h0, .inr (0, mX0 h1 h2 h3 h4 v0)), (h1, zi k1 120 f1)] sz) [(h0, .inr (0, mX0 h1 h2 h3 h4 (upd v0 5 (u 0)))), (h1, zi k1 120 (aa 0))]) (va_A [(h0, .inr (0, mX0 h1 h2 h3 h4 v0)), (h1, zi k1 120 f1)] sz)) 0 0 (va_A [(h0, .inr (0, mX0 h1 h2 h3 h4 v0)), (h1, zi k1 120 f1)] sz) := by
  refine Met.ofW (cc := cX0_takeOff) (maxL := 2) (ret := (some .boolean)) (by decide) rfl ?_
  intro p e s m args below meth c s₁ B hml hv
  obtain ⟨rfl, hsz, hP, hK, hD0, hE, hZ⟩ := hv
  have hx := B.exec
  have hb := B.bytes
  have hr := B.returns
  have hG : ∀ w ∈ zG, w.before _ s = true := fun w h => atoms_spec (ws := (zw yX0_takeOff cX0_takeOff 2 (some .boolean))) B.pre w (List.mem_cons_of_mem _ h)
  have hown : s.vm.findClass RX0 = some m.cls := findClass_of_methodNamed B.named
  have hlocks := B.notSynchronized

  subst hsz
  have hD := hD0.self (sz := s.heap.size)
  generalize hAe : va_A [(h0, .inr (0, mX0 h1 h2 h3 h4 v0)), (h1, zi k1 120 f1)] s.heap.size = A at hD hZ ⊢
  have hA : ∀ q : Nat, s.heap.size ≤ q → A q := fun q h => by rw [← hAe]; exact Or.inr h
  have hS : va_S A s.heap s.heap [] := va_S.rf
  have hl := lv_entry ([.ref h0, .int x1]) (n := 2) (Nat.le_of_ble_eq_true rfl)
  rw [lg_entry_eq]
  generalize (lg_sl ([.ref h0, .int x1]) ++ List.replicate (2 - (lg_sl ([.ref h0, .int x1])).length) Slot.unset).toArray = ls at hl ⊢
  have hl : lv_has ls 2 [(0, .ref h0), (1, .int x1)] := hl
  have b_ := zk_0
  have b_ := zk_1
  have b_ : -2147483648 ≤ (v0 5).toInt ∧ (v0 5).toInt ≤ 2147483647 := ⟨zlo _, zhi _⟩
  refine lv_aload_n hx hb dX0_takeOff_0 rfl (lv_at hl 0 rfl) ?_
  refine lv_iload_n hx hb dX0_takeOff_1 rfl (lv_at hl 1 rfl) ?_
  have hPc := hP.sub (ws' := [(h0, .inr (0, mX0 h1 h2 h3 h4 v0)), (h1, zi k1 120 f1)]) [0, 1] rfl
  have hDc := hD.sub (ws' := [(h0, .inr (0, mX0 h1 h2 h3 h4 v0)), (h1, zi k1 120 f1)]) [0, 1] (by decide) rfl
  have hKc := hK.sub (tys' := [(k1, .boolean)]) [0] rfl
  have hFc := va_free (wc := [(h0, .inr (0, mX0 h1 h2 h3 h4 v0)), (h1, zi k1 120 f1)]) hD hS hA [0, 1] rfl
  refine va_calli (va_runV (As := [.int x1]) (rest := []) ⟨hx, hb, hml, hown, hG⟩ (sX0_isOn_0 l dC dI adK adV h0 h1 h2 h3 h4 k1 s.heap.size v0 f1 x1 hv0) (cwV 1 hG (zgV zv871 zv872 zv873 zv132 zv874) rfl rfl rfl (by decide +kernel) ⟨Nat.le_of_ble_eq_true rfl, Nat.le_of_ble_eq_true rfl⟩) ⟨zPc_blind, va_recv hKc hPc (ci := 0) (q0 := 0) rfl rfl, zPc_pre hPc hKc hDc hE hS hFc hZ⟩ rfl rfl hl.1 rfl (lv_room (Nat.le_of_ble_eq_true rfl)) dX0_takeOff_2 ⟨Nat.le_of_ble_eq_true rfl, Nat.le_of_ble_eq_true rfl⟩) hS (fun q _ h => hFc q h) hFc (fun r2_ u2_ t H1 locs ht hvm hw hB hz1 hk1 hS => ?_)
  replace hw : (0 ≤ r2_.toInt ∧ r2_.toInt ≤ 1) ∧ (r2_.toInt = 1 → (0 ≤ x1.toInt ∧ x1.toInt ≤ 119)) ∧ (r2_.toInt = 1 → x1.toInt < (v0 4).toInt) ∧ (zIo f1 (v0 4).toInt (x1 : Int32) r2_.toInt) := hw
  obtain ⟨b_, hX2_0, hX2_1, hX2_2⟩ := hw
  obtain ⟨w2_, a2_, b2_, hP1, hK1, hD1⟩ := hB
  rw [ht] at hP1
  obtain ⟨hP, hD⟩ := va_join (wr := []) (w1 := [(h0, .inr (0, mX0 h1 h2 h3 h4 v0)), (h1, zi k1 120 f1)]) hP hD [0, 1] [] rfl rfl (by decide) (by decide) hk1 hFc hP1 hD1
  have hP : va_P (dC, dI) vwCl [(h0, .inr (0, mX0 h1 h2 h3 h4 v0)), (h1, zi k1 120 f1)] H1 := hP.sub [0, 1] rfl
  have hD : va_D A [(h0, .inr (0, mX0 h1 h2 h3 h4 v0)), (h1, zi k1 120 f1)] := hD.sub [0, 1] (by decide) rfl
  generalize H1 = H at hP hS ⊢
  clear hz1
  refine lv_if_ne (tgt := 10) hx hb dX0_takeOff_5 (by decide) (fun c_ => ?_) (fun c_ => ?_)
  · skip
    have b_ := zT_ne rfl zk_0 c_
    refine lv_aload_n hx hb dX0_takeOff_10 rfl (lv_at hl 0 rfl) ?_
    refine va_get (D := (dC, dI)) (ci := 0) (v := .ref h1) (C := RX0) (T := TX0) (N := 6) hx hb hG zuX0 hown hK hP 0 rfl rfl 0 (by decide) (hG _ zv222) (fun _ h9 => h9) rfl dX0_takeOff_11 ?_
    refine lv_iload_n hx hb dX0_takeOff_14 rfl (lv_at hl 1 rfl) ?_
    refine lv_iconst (v := 0) hx hb dX0_takeOff_15 (by decide) ?_
    refine va_zast hx hb hK hP hD hS 1 0 rfl rfl (zin_lit ⟨by omega, by omega⟩) dX0_takeOff_16 (fun H locs hP hD hS => ?_)
    obtain ⟨f_16, e_f_16⟩ : ∃ z : Nat → Int32, z = upd f1 (x1 : Int32).toNatClampNeg (vp_nar .boolean 0) := ⟨_, rfl⟩
    have hP : va_P (dC, dI) vwCl [(h0, .inr (0, mX0 h1 h2 h3 h4 v0)), (h1, zi k1 120 f_16)] H := by rw [e_f_16]; exact hP
    have hD : va_D A [(h0, .inr (0, mX0 h1 h2 h3 h4 v0)), (h1, zi k1 120 f_16)] := by rw [e_f_16]; exact hD
    refine lv_aload_n hx hb dX0_takeOff_17 rfl (lv_at hl 0 rfl) ?_
    refine lv_dup hx hb dX0_takeOff_18 rfl ?_
    refine va_get (D := (dC, dI)) (ci := 0) (v := .int (v0 5)) (C := RX0) (T := TX0) (N := 6) hx hb hG zuX0 hown hK hP 0 rfl rfl 5 (by decide) (hG _ zv227) (fun _ h9 => h9) rfl dX0_takeOff_19 ?_
    refine lv_iconst (v := 1) hx hb dX0_takeOff_22 (by decide) ?_
    refine lv_isub hx hb dX0_takeOff_23 ?_
    refine lv_topi (fun z23 e_z23 => ?_)
    refine va_put (D := (dC, dI)) (ci := 0) (v := .int z23) (ty := .int) (C := RX0) (T := TX0) (N := 6) hx hb hG zuX0 tyX0 tyX0_ok nmX0 hown hK hP hD hS 0 rfl rfl 5 (by decide) (hG _ zv227) (fun _ h9 => h9) rfl (by decide +kernel) rfl rfl (Nat.le_of_ble_eq_true rfl) dX0_takeOff_24 (fun H locs hP hD hS => ?_)
    have hP : va_P (dC, dI) vwCl [(h0, .inr (0, mX0 h1 h2 h3 h4 (upd v0 5 z23))), (h1, zi k1 120 f_16)] H := hP
    have hD : va_D A [(h0, .inr (0, mX0 h1 h2 h3 h4 (upd v0 5 z23))), (h1, zi k1 120 f_16)] := hD
    refine lv_iconst (v := 1) hx hb dX0_takeOff_27 (by decide) ?_
    refine W.widen (k := 0) (n := 0) (by decide) (by decide) ?_
    have b_ : -2147483648 ≤ z23.toInt ∧ z23.toInt ≤ 2147483647 := ⟨zlo _, zhi _⟩
    have hpost : (0 ≤ (1 : Int32).toInt ∧ (1 : Int32).toInt ≤ 1) ∧ (zW ((1 : Int32).toInt = 1 → 0 ≤ (v0 5).toInt → z23.toInt = (v0 5).toInt - 1)) ∧ (zW ((1 : Int32).toInt = 0 → z23.toInt = (v0 5).toInt)) ∧ ((1 : Int32).toInt = (1 : Int32).toInt) := ⟨(by first | with_reducible assumption | exact ⟨by omega, by omega⟩), by first | exact fun _ q => zsub rfl zk_1 e_z23 (by omega) (by omega) | (intro q; exact absurd q (by decide)), by first | exact fun _ => rfl | (intro q; exact absurd q (by decide)), rfl⟩
    have hP9 : va_P (dC, dI) vwCl [(h0, .inr (0, mX0 h1 h2 h3 h4 (upd v0 5 z23))), (h1, zi k1 120 f_16)] H := hP
    have hD9 : va_D A [(h0, .inr (0, mX0 h1 h2 h3 h4 (upd v0 5 z23))), (h1, zi k1 120 f_16)] := hD
    have hB0 : zRv f1 (v0 4).toInt (x1 : Int32) (1 : Int32).toInt f1 f_16 0 := by first | exact zRv_1 hX2_2 (by omega) e_f_16 (by decide) (by decide) | exact zRv_0 hX2_2 (by omega) (by decide)
    exact W.zret (v := 1) hx hb hr rfl (fun t ht hW => ⟨⟨1, (fun i => ([z23, 1] : List (Int32)).getD i 0), rfl, hpost, (fun _ => 0), (fun i => ([f_16] : List (Nat → Int32)).getD i (fun _ => 0)), (fun _ => (fun _ => 0)), hB0, by rw [ht]; exact hP9, va_K.moved hW.alike hK, hD9⟩, hS.F ht⟩) hS.2.2 dX0_takeOff_28
  · skip
    have b_ := zF_ne rfl zk_0 c_
    refine lv_iconst (v := 0) hx hb dX0_takeOff_8 (by decide) ?_
    refine W.widen (k := 0) (n := 0) (by decide) (by decide) ?_
    have hpost : (0 ≤ (0 : Int32).toInt ∧ (0 : Int32).toInt ≤ 1) ∧ (zW ((0 : Int32).toInt = 1 → 0 ≤ (v0 5).toInt → (v0 5).toInt = (v0 5).toInt - 1)) ∧ (zW ((0 : Int32).toInt = 0 → (v0 5).toInt = (v0 5).toInt)) ∧ ((0 : Int32).toInt = (0 : Int32).toInt) := ⟨(by first | with_reducible assumption | exact ⟨by omega, by omega⟩), by first | exact fun _ q => zsub rfl zk_1 e_z23 (by omega) (by omega) | (intro q; exact absurd q (by decide)), by first | exact fun _ => rfl | (intro q; exact absurd q (by decide)), rfl⟩
    have hP9 : va_P (dC, dI) vwCl [(h0, .inr (0, mX0 h1 h2 h3 h4 (upd v0 5 (v0 5)))), (h1, zi k1 120 f1)] H := hP
    have hD9 : va_D A [(h0, .inr (0, mX0 h1 h2 h3 h4 (upd v0 5 (v0 5)))), (h1, zi k1 120 f1)] := hD
    have hB0 : zRv f1 (v0 4).toInt (x1 : Int32) (0 : Int32).toInt f1 f1 0 := by first | exact zRv_1 hX2_2 (by omega) e_f_16 (by decide) (by decide) | exact zRv_0 hX2_2 (by omega) (by decide)
    exact W.zret (v := 0) hx hb hr rfl (fun t ht hW => ⟨⟨0, (fun i => ([(v0 5), 0] : List (Int32)).getD i 0), rfl, hpost, (fun _ => 0), (fun i => ([f1] : List (Nat → Int32)).getD i (fun _ => 0)), (fun _ => (fun _ => 0)), hB0, by rw [ht]; exact hP9, va_K.moved hW.alike hK, hD9⟩, hS.F ht⟩) hS.2.2 dX0_takeOff_9
set_option maxHeartbeats 8000000 in
set_option maxRecDepth 100000 in
theorem sX11_remove_0 (l : Launch) (dC : Nat → ClassId) (dI : Nat → Nat → Nat) (adK adV : Nat → Nat) (h0 : Nat) (h18 : Nat) (h19 : Nat) (h1 : Nat) (h4 : Nat) (h11 : Nat) (h23 : Nat) (h32 : Nat) (h33 : Nat) (h40 : Nat) (h48 : Nat) (h49 : Nat) (h20 : Nat) (h21 : Nat) (h22 : Nat) (k19 : ClassId) (sz : Nat) (sp0 : Value) (lw0 : Int64) (v18 : Nat → Int32) (f19 : Nat → Int32) (x1 : Int32) (hv18 : zR rg_Documents v18) : Met l yX11_remove (zw yX11_remove cX11_remove 2 (some .boolean)) { frames := 3, cells := 0, slots := 0, locals := 63 } (zPc dC dI adK adV [.ref h0, .int x1] sz [(h0, .inr (11, mX11 h1 h4 h11 h18 h23 h32 h33 h40 h48 h49 sp0 lw0)), (h18, .inr (0, mX0 h19 h20 h21 h22 v18)), (h19, zi k19 120 f19)] [(k19, .boolean)]) (va_Qi (fun (r : Int32) (u : Nat → Int32) => (0 ≤ r.toInt ∧ r.toInt ≤ 1) ∧ (zW (r.toInt = 1 → 0 ≤ (v18 5).toInt → (u 0).toInt = (v18 5).toInt - 1)) ∧ (zW (r.toInt = 0 → (u 0).toInt = (v18 5).toInt)) ∧ (r.toInt = (u 1).toInt)) (fun (u : Nat → Int32) (t : State) => ∃ (ww : Nat → Int64) (aa : Nat → Nat → Int32) (bb : Nat → Nat → Int64), (zRv f19 (v18 4).toInt (x1 : Int32) (u 1).toInt f19 (aa 0) 0) ∧ va_P (dC, dI) vwCl [(h0, .inr (11, mX11 h1 h4 h11 h18 h23 h32 h33 h40 h48 h49 sp0 lw0)), (h18, .inr (0, mX0 h19 h20 h21 h22 (upd v18 5 (u 0)))), (h19, zi k19 120 (aa 0))] t.heap ∧ va_K (dC, dI) vwCl [(k19, .boolean)] t ∧ va_D (va_A [(h0, .inr (11, mX11 h1 h4 h11 h18 h23 h32 h33 h40 h48 h49 sp0 lw0)), (h18, .inr (0, mX0 h19 h20 h21 h22 v18)), (h19, zi k19 120 f19)] sz) [(h0, .inr (11, mX11 h1 h4 h11 h18 h23 h32 h33 h40 h48 h49 sp0 lw0)), (h18, .inr (0, mX0 h19 h20 h21 h22 (upd v18 5 (u 0)))), (h19, zi k19 120 (aa 0))]) (va_A [(h0, .inr (11, mX11 h1 h4 h11 h18 h23 h32 h33 h40 h48 h49 sp0 lw0)), (h18, .inr (0, mX0 h19 h20 h21 h22 v18)), (h19, zi k19 120 f19)] sz)) 0 0 (va_A [(h0, .inr (11, mX11 h1 h4 h11 h18 h23 h32 h33 h40 h48 h49 sp0 lw0)), (h18, .inr (0, mX0 h19 h20 h21 h22 v18)), (h19, zi k19 120 f19)] sz) := by
  refine Met.ofW (cc := cX11_remove) (maxL := 2) (ret := (some .boolean)) (by decide) rfl ?_
  intro p e s m args below meth c s₁ B hml hv
  obtain ⟨rfl, hsz, hP, hK, hD0, hE, hZ⟩ := hv
  have hx := B.exec
  have hb := B.bytes
  have hr := B.returns
  have hG : ∀ w ∈ zG, w.before _ s = true := fun w h => atoms_spec (ws := (zw yX11_remove cX11_remove 2 (some .boolean))) B.pre w (List.mem_cons_of_mem _ h)
  have hown : s.vm.findClass RX11 = some m.cls := findClass_of_methodNamed B.named
  have hlocks := B.notSynchronized

  subst hsz
  have hD := hD0.self (sz := s.heap.size)
  generalize hAe : va_A [(h0, .inr (11, mX11 h1 h4 h11 h18 h23 h32 h33 h40 h48 h49 sp0 lw0)), (h18, .inr (0, mX0 h19 h20 h21 h22 v18)), (h19, zi k19 120 f19)] s.heap.size = A at hD hZ ⊢
  have hA : ∀ q : Nat, s.heap.size ≤ q → A q := fun q h => by rw [← hAe]; exact Or.inr h
  have hS : va_S A s.heap s.heap [] := va_S.rf
  have hl := lv_entry ([.ref h0, .int x1]) (n := 2) (Nat.le_of_ble_eq_true rfl)
  rw [lg_entry_eq]
  generalize (lg_sl ([.ref h0, .int x1]) ++ List.replicate (2 - (lg_sl ([.ref h0, .int x1])).length) Slot.unset).toArray = ls at hl ⊢
  have hl : lv_has ls 2 [(0, .ref h0), (1, .int x1)] := hl
  have b_ : -2147483648 ≤ (v18 5).toInt ∧ (v18 5).toInt ≤ 2147483647 := ⟨zlo _, zhi _⟩
  refine lv_aload_n hx hb dX11_remove_0 rfl (lv_at hl 0 rfl) ?_
  refine va_get (D := (dC, dI)) (ci := 11) (v := .ref h18) (C := RX11) (T := TX11) (N := 12) hx hb hG zuX11 hown hK hP 0 rfl rfl 3 (by decide) (hG _ zv560) (fun _ h9 => h9) rfl dX11_remove_1 ?_
  refine lv_iload_n hx hb dX11_remove_4 rfl (lv_at hl 1 rfl) ?_
  have hPc := hP.sub (ws' := [(h18, .inr (0, mX0 h19 h20 h21 h22 v18)), (h19, zi k19 120 f19)]) [1, 2] rfl
  have hDc := hD.sub (ws' := [(h18, .inr (0, mX0 h19 h20 h21 h22 v18)), (h19, zi k19 120 f19)]) [1, 2] (by decide) rfl
  have hKc := hK.sub (tys' := [(k19, .boolean)]) [0] rfl
  have hFc := va_free (wc := [(h18, .inr (0, mX0 h19 h20 h21 h22 v18)), (h19, zi k19 120 f19)]) hD hS hA [1, 2] rfl
  refine va_calli (va_runV (As := [.int x1]) (rest := []) ⟨hx, hb, hml, hown, hG⟩ (sX0_takeOff_0 l dC dI adK adV h18 h19 h20 h21 h22 k19 s.heap.size v18 f19 x1 hv18) (cwV 1 hG (zgV zv867 zv868 zv869 zv132 zv870) rfl rfl rfl (by decide +kernel) ⟨Nat.le_of_ble_eq_true rfl, Nat.le_of_ble_eq_true rfl⟩) ⟨zPc_blind, va_recv hKc hPc (ci := 0) (q0 := 0) rfl rfl, zPc_pre hPc hKc hDc hE hS hFc hZ⟩ rfl rfl hl.1 rfl (lv_room (Nat.le_of_ble_eq_true rfl)) dX11_remove_5 ⟨Nat.le_of_ble_eq_true rfl, Nat.le_of_ble_eq_true rfl⟩) hS (fun q _ h => hFc q h) hFc (fun r5_ u5_ t H1 locs ht hvm hw hB hz1 hk1 hS => ?_)
  replace hw : (0 ≤ r5_.toInt ∧ r5_.toInt ≤ 1) ∧ (zW (r5_.toInt = 1 → 0 ≤ (v18 5).toInt → (u5_ 0).toInt = (v18 5).toInt - 1)) ∧ (zW (r5_.toInt = 0 → (u5_ 0).toInt = (v18 5).toInt)) ∧ (r5_.toInt = (u5_ 1).toInt) := hw
  obtain ⟨b_, hX5_0, hX5_1, b_⟩ := hw
  obtain ⟨w5_, a5_, b5_, hB5_0, hP1, hK1, hD1⟩ := hB
  have hB5_0 : zRv f19 (v18 4).toInt (x1 : Int32) (u5_ 1).toInt f19 (a5_ 0) 0 := hB5_0
  rw [ht] at hP1
  obtain ⟨hP, hD⟩ := va_join (wr := [(h0, .inr (11, mX11 h1 h4 h11 h18 h23 h32 h33 h40 h48 h49 sp0 lw0))]) (w1 := [(h18, .inr (0, mX0 h19 h20 h21 h22 (upd v18 5 (u5_ 0)))), (h19, zi k19 120 (a5_ 0))]) hP hD [1, 2] [0] rfl rfl (by decide) (by decide) hk1 hFc hP1 hD1
  have hP : va_P (dC, dI) vwCl [(h0, .inr (11, mX11 h1 h4 h11 h18 h23 h32 h33 h40 h48 h49 sp0 lw0)), (h18, .inr (0, mX0 h19 h20 h21 h22 (upd v18 5 (u5_ 0)))), (h19, zi k19 120 (a5_ 0))] H1 := hP.sub [0, 1, 2] rfl
  have hD : va_D A [(h0, .inr (11, mX11 h1 h4 h11 h18 h23 h32 h33 h40 h48 h49 sp0 lw0)), (h18, .inr (0, mX0 h19 h20 h21 h22 (upd v18 5 (u5_ 0)))), (h19, zi k19 120 (a5_ 0))] := hD.sub [0, 1, 2] (by decide) rfl
  generalize H1 = H at hP hS ⊢
  clear hz1
  refine W.widen (k := 0) (n := 0) (by decide) (by decide) ?_
  have b_ : -2147483648 ≤ (u5_ 0).toInt ∧ (u5_ 0).toInt ≤ 2147483647 := ⟨zlo _, zhi _⟩
  have hpost : (0 ≤ r5_.toInt ∧ r5_.toInt ≤ 1) ∧ (zW (r5_.toInt = 1 → 0 ≤ (v18 5).toInt → (u5_ 0).toInt = (v18 5).toInt - 1)) ∧ (zW (r5_.toInt = 0 → (u5_ 0).toInt = (v18 5).toInt)) ∧ (r5_.toInt = r5_.toInt) := ⟨(by first | with_reducible assumption | exact ⟨by omega, by omega⟩), by exact hX5_0, by exact hX5_1, rfl⟩
  have hP9 : va_P (dC, dI) vwCl [(h0, .inr (11, mX11 h1 h4 h11 h18 h23 h32 h33 h40 h48 h49 sp0 lw0)), (h18, .inr (0, mX0 h19 h20 h21 h22 (upd v18 5 (u5_ 0)))), (h19, zi k19 120 (a5_ 0))] H := hP
  have hD9 : va_D A [(h0, .inr (11, mX11 h1 h4 h11 h18 h23 h32 h33 h40 h48 h49 sp0 lw0)), (h18, .inr (0, mX0 h19 h20 h21 h22 (upd v18 5 (u5_ 0)))), (h19, zi k19 120 (a5_ 0))] := hD
  have hB0 : zRv f19 (v18 4).toInt (x1 : Int32) r5_.toInt f19 (a5_ 0) 0 := by exact zRv_e hB5_0 (by omega)
  exact W.zret (v := r5_) hx hb hr (zbn ⟨by omega, by omega⟩) (fun t ht hW => ⟨⟨r5_, (fun i => ([(u5_ 0), r5_] : List (Int32)).getD i 0), rfl, hpost, (fun _ => 0), (fun i => ([(a5_ 0)] : List (Nat → Int32)).getD i (fun _ => 0)), (fun _ => (fun _ => 0)), hB0, by rw [ht]; exact hP9, va_K.moved hW.alike hK, hD9⟩, hS.F ht⟩) hS.2.2 dX11_remove_8
set_option maxHeartbeats 8000000 in
set_option maxRecDepth 100000 in
theorem sX0_setMark_0 (l : Launch) (dC : Nat → ClassId) (dI : Nat → Nat → Nat) (adK adV : Nat → Nat) (h0 : Nat) (h1 : Nat) (h3 : Nat) (h2 : Nat) (h4 : Nat) (k1 : ClassId) (k3 : ClassId) (sz : Nat) (v0 : Nat → Int32) (f1 : Nat → Int32) (f3 : Nat → Int32) (x1 : Int32) (x2 : Int32) (hv0 : zR rg_Documents v0) : Met l yX0_setMark (zw yX0_setMark cX0_setMark 3 (some .boolean)) { frames := 2, cells := 0, slots := 0, locals := 42 } (zPc dC dI adK adV [.ref h0, .int x1, .int x2] sz [(h0, .inr (0, mX0 h1 h2 h3 h4 v0)), (h1, zi k1 120 f1), (h3, zi k3 120 f3)] [(k1, .boolean), (k3, .int)]) (va_Qi (fun (r : Int32) (u : Nat → Int32) => (0 ≤ r.toInt ∧ r.toInt ≤ 1) ∧ (r.toInt = (u 0).toInt)) (fun (u : Nat → Int32) (t : State) => ∃ (ww : Nat → Int64) (aa : Nat → Nat → Int32) (bb : Nat → Nat → Int64), (zRv f1 (v0 4).toInt (x1 : Int32) (u 0).toInt f3 (aa 0) x2.toInt) ∧ va_P (dC, dI) vwCl [(h0, .inr (0, mX0 h1 h2 h3 h4 v0)), (h1, zi k1 120 f1), (h3, zi k3 120 (aa 0))] t.heap ∧ va_K (dC, dI) vwCl [(k1, .boolean), (k3, .int)] t ∧ va_D (va_A [(h0, .inr (0, mX0 h1 h2 h3 h4 v0)), (h1, zi k1 120 f1), (h3, zi k3 120 f3)] sz) [(h0, .inr (0, mX0 h1 h2 h3 h4 v0)), (h1, zi k1 120 f1), (h3, zi k3 120 (aa 0))]) (va_A [(h0, .inr (0, mX0 h1 h2 h3 h4 v0)), (h1, zi k1 120 f1), (h3, zi k3 120 f3)] sz)) 0 0 (va_A [(h0, .inr (0, mX0 h1 h2 h3 h4 v0)), (h1, zi k1 120 f1), (h3, zi k3 120 f3)] sz) := by
  refine Met.ofW (cc := cX0_setMark) (maxL := 3) (ret := (some .boolean)) (by decide) rfl ?_
  intro p e s m args below meth c s₁ B hml hv
  obtain ⟨rfl, hsz, hP, hK, hD0, hE, hZ⟩ := hv
  have hx := B.exec
  have hb := B.bytes
  have hr := B.returns
  have hG : ∀ w ∈ zG, w.before _ s = true := fun w h => atoms_spec (ws := (zw yX0_setMark cX0_setMark 3 (some .boolean))) B.pre w (List.mem_cons_of_mem _ h)
  have hown : s.vm.findClass RX0 = some m.cls := findClass_of_methodNamed B.named
  have hlocks := B.notSynchronized

  subst hsz
  have hD := hD0.self (sz := s.heap.size)
  generalize hAe : va_A [(h0, .inr (0, mX0 h1 h2 h3 h4 v0)), (h1, zi k1 120 f1), (h3, zi k3 120 f3)] s.heap.size = A at hD hZ ⊢
  have hA : ∀ q : Nat, s.heap.size ≤ q → A q := fun q h => by rw [← hAe]; exact Or.inr h
  have hS : va_S A s.heap s.heap [] := va_S.rf
  have hl := lv_entry ([.ref h0, .int x1, .int x2]) (n := 3) (Nat.le_of_ble_eq_true rfl)
  rw [lg_entry_eq]
  generalize (lg_sl ([.ref h0, .int x1, .int x2]) ++ List.replicate (3 - (lg_sl ([.ref h0, .int x1, .int x2])).length) Slot.unset).toArray = ls at hl ⊢
  have hl : lv_has ls 3 [(0, .ref h0), (1, .int x1), (2, .int x2)] := hl
  have b_ := zk_0
  have b_ := zk_1
  refine lv_aload_n hx hb dX0_setMark_0 rfl (lv_at hl 0 rfl) ?_
  refine lv_iload_n hx hb dX0_setMark_1 rfl (lv_at hl 1 rfl) ?_
  have hPc := hP.sub (ws' := [(h0, .inr (0, mX0 h1 h2 h3 h4 v0)), (h1, zi k1 120 f1)]) [0, 1] rfl
  have hDc := hD.sub (ws' := [(h0, .inr (0, mX0 h1 h2 h3 h4 v0)), (h1, zi k1 120 f1)]) [0, 1] (by decide) rfl
  have hKc := hK.sub (tys' := [(k1, .boolean)]) [0] rfl
  have hFc := va_free (wc := [(h0, .inr (0, mX0 h1 h2 h3 h4 v0)), (h1, zi k1 120 f1)]) hD hS hA [0, 1] rfl
  refine va_calli (va_runV (As := [.int x1]) (rest := []) ⟨hx, hb, hml, hown, hG⟩ (sX0_isOn_0 l dC dI adK adV h0 h1 h2 h3 h4 k1 s.heap.size v0 f1 x1 hv0) (cwV 1 hG (zgV zv871 zv872 zv873 zv132 zv874) rfl rfl rfl (by decide +kernel) ⟨Nat.le_of_ble_eq_true rfl, Nat.le_of_ble_eq_true rfl⟩) ⟨zPc_blind, va_recv hKc hPc (ci := 0) (q0 := 0) rfl rfl, zPc_pre hPc hKc hDc hE hS hFc hZ⟩ rfl rfl hl.1 rfl (lv_room (Nat.le_of_ble_eq_true rfl)) dX0_setMark_2 ⟨Nat.le_of_ble_eq_true rfl, Nat.le_of_ble_eq_true rfl⟩) hS (fun q _ h => hFc q h) hFc (fun r2_ u2_ t H1 locs ht hvm hw hB hz1 hk1 hS => ?_)
  replace hw : (0 ≤ r2_.toInt ∧ r2_.toInt ≤ 1) ∧ (r2_.toInt = 1 → (0 ≤ x1.toInt ∧ x1.toInt ≤ 119)) ∧ (r2_.toInt = 1 → x1.toInt < (v0 4).toInt) ∧ (zIo f1 (v0 4).toInt (x1 : Int32) r2_.toInt) := hw
  obtain ⟨b_, hX2_0, hX2_1, hX2_2⟩ := hw
  obtain ⟨w2_, a2_, b2_, hP1, hK1, hD1⟩ := hB
  rw [ht] at hP1
  obtain ⟨hP, hD⟩ := va_join (wr := [(h3, zi k3 120 f3)]) (w1 := [(h0, .inr (0, mX0 h1 h2 h3 h4 v0)), (h1, zi k1 120 f1)]) hP hD [0, 1] [2] rfl rfl (by decide) (by decide) hk1 hFc hP1 hD1
  have hP : va_P (dC, dI) vwCl [(h0, .inr (0, mX0 h1 h2 h3 h4 v0)), (h1, zi k1 120 f1), (h3, zi k3 120 f3)] H1 := hP.sub [1, 2, 0] rfl
  have hD : va_D A [(h0, .inr (0, mX0 h1 h2 h3 h4 v0)), (h1, zi k1 120 f1), (h3, zi k3 120 f3)] := hD.sub [1, 2, 0] (by decide) rfl
  generalize H1 = H at hP hS ⊢
  clear hz1
  refine lv_if_ne (tgt := 10) hx hb dX0_setMark_5 (by decide) (fun c_ => ?_) (fun c_ => ?_)
  · skip
    have b_ := zT_ne rfl zk_0 c_
    refine lv_aload_n hx hb dX0_setMark_10 rfl (lv_at hl 0 rfl) ?_
    refine va_get (D := (dC, dI)) (ci := 0) (v := .ref h3) (C := RX0) (T := TX0) (N := 6) hx hb hG zuX0 hown hK hP 0 rfl rfl 2 (by decide) (hG _ zv224) (fun _ h9 => h9) rfl dX0_setMark_11 ?_
    refine lv_iload_n hx hb dX0_setMark_14 rfl (lv_at hl 1 rfl) ?_
    refine lv_iload_n hx hb dX0_setMark_15 rfl (lv_at hl 2 rfl) ?_
    refine va_iast hx hb hK hP hD hS 2 1 rfl rfl (zin_lit ⟨by omega, by omega⟩) dX0_setMark_16 (fun H locs hP hD hS => ?_)
    obtain ⟨f_16, e_f_16⟩ : ∃ z : Nat → Int32, z = upd f3 (x1 : Int32).toNatClampNeg x2 := ⟨_, rfl⟩
    have hP : va_P (dC, dI) vwCl [(h0, .inr (0, mX0 h1 h2 h3 h4 v0)), (h1, zi k1 120 f1), (h3, zi k3 120 f_16)] H := by rw [e_f_16]; exact hP
    have hD : va_D A [(h0, .inr (0, mX0 h1 h2 h3 h4 v0)), (h1, zi k1 120 f1), (h3, zi k3 120 f_16)] := by rw [e_f_16]; exact hD
    refine lv_iconst (v := 1) hx hb dX0_setMark_17 (by decide) ?_
    refine W.widen (k := 0) (n := 0) (by decide) (by decide) ?_
    have hpost : (0 ≤ (1 : Int32).toInt ∧ (1 : Int32).toInt ≤ 1) ∧ ((1 : Int32).toInt = (1 : Int32).toInt) := ⟨(by first | with_reducible assumption | exact ⟨by omega, by omega⟩), rfl⟩
    have hP9 : va_P (dC, dI) vwCl [(h0, .inr (0, mX0 h1 h2 h3 h4 v0)), (h1, zi k1 120 f1), (h3, zi k3 120 f_16)] H := hP
    have hD9 : va_D A [(h0, .inr (0, mX0 h1 h2 h3 h4 v0)), (h1, zi k1 120 f1), (h3, zi k3 120 f_16)] := hD
    have hB0 : zRv f1 (v0 4).toInt (x1 : Int32) (1 : Int32).toInt f3 f_16 x2.toInt := by first | exact zRv_1 hX2_2 (by omega) e_f_16 rfl (by decide) | exact zRv_0 hX2_2 (by omega) (by decide)
    exact W.zret (v := 1) hx hb hr rfl (fun t ht hW => ⟨⟨1, (fun i => ([1] : List (Int32)).getD i 0), rfl, hpost, (fun _ => 0), (fun i => ([f_16] : List (Nat → Int32)).getD i (fun _ => 0)), (fun _ => (fun _ => 0)), hB0, by rw [ht]; exact hP9, va_K.moved hW.alike hK, hD9⟩, hS.F ht⟩) hS.2.2 dX0_setMark_18
  · skip
    have b_ := zF_ne rfl zk_0 c_
    refine lv_iconst (v := 0) hx hb dX0_setMark_8 (by decide) ?_
    refine W.widen (k := 0) (n := 0) (by decide) (by decide) ?_
    have hpost : (0 ≤ (0 : Int32).toInt ∧ (0 : Int32).toInt ≤ 1) ∧ ((0 : Int32).toInt = (0 : Int32).toInt) := ⟨(by first | with_reducible assumption | exact ⟨by omega, by omega⟩), rfl⟩
    have hP9 : va_P (dC, dI) vwCl [(h0, .inr (0, mX0 h1 h2 h3 h4 v0)), (h1, zi k1 120 f1), (h3, zi k3 120 f3)] H := hP
    have hD9 : va_D A [(h0, .inr (0, mX0 h1 h2 h3 h4 v0)), (h1, zi k1 120 f1), (h3, zi k3 120 f3)] := hD
    have hB0 : zRv f1 (v0 4).toInt (x1 : Int32) (0 : Int32).toInt f3 f3 x2.toInt := by first | exact zRv_1 hX2_2 (by omega) e_f_16 rfl (by decide) | exact zRv_0 hX2_2 (by omega) (by decide)
    exact W.zret (v := 0) hx hb hr rfl (fun t ht hW => ⟨⟨0, (fun i => ([0] : List (Int32)).getD i 0), rfl, hpost, (fun _ => 0), (fun i => ([f3] : List (Nat → Int32)).getD i (fun _ => 0)), (fun _ => (fun _ => 0)), hB0, by rw [ht]; exact hP9, va_K.moved hW.alike hK, hD9⟩, hS.F ht⟩) hS.2.2 dX0_setMark_9
set_option maxHeartbeats 8000000 in
set_option maxRecDepth 100000 in
theorem sX11_mark_0 (l : Launch) (dC : Nat → ClassId) (dI : Nat → Nat → Nat) (adK adV : Nat → Nat) (h0 : Nat) (h18 : Nat) (h19 : Nat) (h21 : Nat) (h1 : Nat) (h4 : Nat) (h11 : Nat) (h23 : Nat) (h32 : Nat) (h33 : Nat) (h40 : Nat) (h48 : Nat) (h49 : Nat) (h20 : Nat) (h22 : Nat) (k19 : ClassId) (k21 : ClassId) (sz : Nat) (sp0 : Value) (lw0 : Int64) (v18 : Nat → Int32) (f19 : Nat → Int32) (f21 : Nat → Int32) (x1 : Int32) (x2 : Int32) (hv18 : zR rg_Documents v18) : Met l yX11_mark (zw yX11_mark cX11_mark 3 (some .boolean)) { frames := 3, cells := 0, slots := 0, locals := 64 } (zPc dC dI adK adV [.ref h0, .int x1, .int x2] sz [(h0, .inr (11, mX11 h1 h4 h11 h18 h23 h32 h33 h40 h48 h49 sp0 lw0)), (h18, .inr (0, mX0 h19 h20 h21 h22 v18)), (h19, zi k19 120 f19), (h21, zi k21 120 f21)] [(k19, .boolean), (k21, .int)]) (va_Qi (fun (r : Int32) (u : Nat → Int32) => (0 ≤ r.toInt ∧ r.toInt ≤ 1) ∧ (r.toInt = (u 0).toInt)) (fun (u : Nat → Int32) (t : State) => ∃ (ww : Nat → Int64) (aa : Nat → Nat → Int32) (bb : Nat → Nat → Int64), (zRv f19 (v18 4).toInt (x1 : Int32) (u 0).toInt f21 (aa 0) x2.toInt) ∧ va_P (dC, dI) vwCl [(h0, .inr (11, mX11 h1 h4 h11 h18 h23 h32 h33 h40 h48 h49 sp0 lw0)), (h18, .inr (0, mX0 h19 h20 h21 h22 v18)), (h19, zi k19 120 f19), (h21, zi k21 120 (aa 0))] t.heap ∧ va_K (dC, dI) vwCl [(k19, .boolean), (k21, .int)] t ∧ va_D (va_A [(h0, .inr (11, mX11 h1 h4 h11 h18 h23 h32 h33 h40 h48 h49 sp0 lw0)), (h18, .inr (0, mX0 h19 h20 h21 h22 v18)), (h19, zi k19 120 f19), (h21, zi k21 120 f21)] sz) [(h0, .inr (11, mX11 h1 h4 h11 h18 h23 h32 h33 h40 h48 h49 sp0 lw0)), (h18, .inr (0, mX0 h19 h20 h21 h22 v18)), (h19, zi k19 120 f19), (h21, zi k21 120 (aa 0))]) (va_A [(h0, .inr (11, mX11 h1 h4 h11 h18 h23 h32 h33 h40 h48 h49 sp0 lw0)), (h18, .inr (0, mX0 h19 h20 h21 h22 v18)), (h19, zi k19 120 f19), (h21, zi k21 120 f21)] sz)) 0 0 (va_A [(h0, .inr (11, mX11 h1 h4 h11 h18 h23 h32 h33 h40 h48 h49 sp0 lw0)), (h18, .inr (0, mX0 h19 h20 h21 h22 v18)), (h19, zi k19 120 f19), (h21, zi k21 120 f21)] sz) := by
  refine Met.ofW (cc := cX11_mark) (maxL := 3) (ret := (some .boolean)) (by decide) rfl ?_
  intro p e s m args below meth c s₁ B hml hv
  obtain ⟨rfl, hsz, hP, hK, hD0, hE, hZ⟩ := hv
  have hx := B.exec
  have hb := B.bytes
  have hr := B.returns
  have hG : ∀ w ∈ zG, w.before _ s = true := fun w h => atoms_spec (ws := (zw yX11_mark cX11_mark 3 (some .boolean))) B.pre w (List.mem_cons_of_mem _ h)
  have hown : s.vm.findClass RX11 = some m.cls := findClass_of_methodNamed B.named
  have hlocks := B.notSynchronized

  subst hsz
  have hD := hD0.self (sz := s.heap.size)
  generalize hAe : va_A [(h0, .inr (11, mX11 h1 h4 h11 h18 h23 h32 h33 h40 h48 h49 sp0 lw0)), (h18, .inr (0, mX0 h19 h20 h21 h22 v18)), (h19, zi k19 120 f19), (h21, zi k21 120 f21)] s.heap.size = A at hD hZ ⊢
  have hA : ∀ q : Nat, s.heap.size ≤ q → A q := fun q h => by rw [← hAe]; exact Or.inr h
  have hS : va_S A s.heap s.heap [] := va_S.rf
  have hl := lv_entry ([.ref h0, .int x1, .int x2]) (n := 3) (Nat.le_of_ble_eq_true rfl)
  rw [lg_entry_eq]
  generalize (lg_sl ([.ref h0, .int x1, .int x2]) ++ List.replicate (3 - (lg_sl ([.ref h0, .int x1, .int x2])).length) Slot.unset).toArray = ls at hl ⊢
  have hl : lv_has ls 3 [(0, .ref h0), (1, .int x1), (2, .int x2)] := hl
  refine lv_aload_n hx hb dX11_mark_0 rfl (lv_at hl 0 rfl) ?_
  refine va_get (D := (dC, dI)) (ci := 11) (v := .ref h18) (C := RX11) (T := TX11) (N := 12) hx hb hG zuX11 hown hK hP 0 rfl rfl 3 (by decide) (hG _ zv560) (fun _ h9 => h9) rfl dX11_mark_1 ?_
  refine lv_iload_n hx hb dX11_mark_4 rfl (lv_at hl 1 rfl) ?_
  refine lv_iload_n hx hb dX11_mark_5 rfl (lv_at hl 2 rfl) ?_
  have hPc := hP.sub (ws' := [(h18, .inr (0, mX0 h19 h20 h21 h22 v18)), (h19, zi k19 120 f19), (h21, zi k21 120 f21)]) [1, 2, 3] rfl
  have hDc := hD.sub (ws' := [(h18, .inr (0, mX0 h19 h20 h21 h22 v18)), (h19, zi k19 120 f19), (h21, zi k21 120 f21)]) [1, 2, 3] (by decide) rfl
  have hKc := hK.sub (tys' := [(k19, .boolean), (k21, .int)]) [0, 1] rfl
  have hFc := va_free (wc := [(h18, .inr (0, mX0 h19 h20 h21 h22 v18)), (h19, zi k19 120 f19), (h21, zi k21 120 f21)]) hD hS hA [1, 2, 3] rfl
  refine va_calli (va_runV (As := [.int x1, .int x2]) (rest := []) ⟨hx, hb, hml, hown, hG⟩ (sX0_setMark_0 l dC dI adK adV h18 h19 h21 h20 h22 k19 k21 s.heap.size v18 f19 f21 x1 x2 hv18) (cwV 2 hG (zgV zv883 zv884 zv885 zv132 zv886) rfl rfl rfl (by decide +kernel) ⟨Nat.le_of_ble_eq_true rfl, Nat.le_of_ble_eq_true rfl⟩) ⟨zPc_blind, va_recv hKc hPc (ci := 0) (q0 := 0) rfl rfl, zPc_pre hPc hKc hDc hE hS hFc hZ⟩ rfl rfl hl.1 rfl (lv_room (Nat.le_of_ble_eq_true rfl)) dX11_mark_6 ⟨Nat.le_of_ble_eq_true rfl, Nat.le_of_ble_eq_true rfl⟩) hS (fun q _ h => hFc q h) hFc (fun r6_ u6_ t H1 locs ht hvm hw hB hz1 hk1 hS => ?_)
  replace hw : (0 ≤ r6_.toInt ∧ r6_.toInt ≤ 1) ∧ (r6_.toInt = (u6_ 0).toInt) := hw
  obtain ⟨b_, b_⟩ := hw
  obtain ⟨w6_, a6_, b6_, hB6_0, hP1, hK1, hD1⟩ := hB
  have hB6_0 : zRv f19 (v18 4).toInt (x1 : Int32) (u6_ 0).toInt f21 (a6_ 0) x2.toInt := hB6_0
  rw [ht] at hP1
  obtain ⟨hP, hD⟩ := va_join (wr := [(h0, .inr (11, mX11 h1 h4 h11 h18 h23 h32 h33 h40 h48 h49 sp0 lw0))]) (w1 := [(h18, .inr (0, mX0 h19 h20 h21 h22 v18)), (h19, zi k19 120 f19), (h21, zi k21 120 (a6_ 0))]) hP hD [1, 2, 3] [0] rfl rfl (by decide) (by decide) hk1 hFc hP1 hD1
  have hP : va_P (dC, dI) vwCl [(h0, .inr (11, mX11 h1 h4 h11 h18 h23 h32 h33 h40 h48 h49 sp0 lw0)), (h18, .inr (0, mX0 h19 h20 h21 h22 v18)), (h19, zi k19 120 f19), (h21, zi k21 120 (a6_ 0))] H1 := hP.sub [0, 1, 2, 3] rfl
  have hD : va_D A [(h0, .inr (11, mX11 h1 h4 h11 h18 h23 h32 h33 h40 h48 h49 sp0 lw0)), (h18, .inr (0, mX0 h19 h20 h21 h22 v18)), (h19, zi k19 120 f19), (h21, zi k21 120 (a6_ 0))] := hD.sub [0, 1, 2, 3] (by decide) rfl
  generalize H1 = H at hP hS ⊢
  clear hz1
  refine W.widen (k := 0) (n := 0) (by decide) (by decide) ?_
  have hpost : (0 ≤ r6_.toInt ∧ r6_.toInt ≤ 1) ∧ (r6_.toInt = r6_.toInt) := ⟨(by first | with_reducible assumption | exact ⟨by omega, by omega⟩), rfl⟩
  have hP9 : va_P (dC, dI) vwCl [(h0, .inr (11, mX11 h1 h4 h11 h18 h23 h32 h33 h40 h48 h49 sp0 lw0)), (h18, .inr (0, mX0 h19 h20 h21 h22 v18)), (h19, zi k19 120 f19), (h21, zi k21 120 (a6_ 0))] H := hP
  have hD9 : va_D A [(h0, .inr (11, mX11 h1 h4 h11 h18 h23 h32 h33 h40 h48 h49 sp0 lw0)), (h18, .inr (0, mX0 h19 h20 h21 h22 v18)), (h19, zi k19 120 f19), (h21, zi k21 120 (a6_ 0))] := hD
  have hB0 : zRv f19 (v18 4).toInt (x1 : Int32) r6_.toInt f21 (a6_ 0) x2.toInt := by exact zRv_e hB6_0 (by omega)
  exact W.zret (v := r6_) hx hb hr (zbn ⟨by omega, by omega⟩) (fun t ht hW => ⟨⟨r6_, (fun i => ([r6_] : List (Int32)).getD i 0), rfl, hpost, (fun _ => 0), (fun i => ([(a6_ 0)] : List (Nat → Int32)).getD i (fun _ => 0)), (fun _ => (fun _ => 0)), hB0, by rw [ht]; exact hP9, va_K.moved hW.alike hK, hD9⟩, hS.F ht⟩) hS.2.2 dX11_mark_9
set_option maxHeartbeats 8000000 in
set_option maxRecDepth 100000 in
theorem sX9_firstWord_0 (l : Launch) (dC : Nat → ClassId) (dI : Nat → Nat → Nat) (adK adV : Nat → Nat) (h0 : Nat) (h1 : Nat) (h2 : Nat) (k1 : ClassId) (k2 : ClassId) (sz : Nat) (v0 : Nat → Int32) (f1 : Nat → Int32) (f2 : Nat → Int32) (hv0 : zR rg_Tape v0) : Met l yX9_firstWord (zw yX9_firstWord cX9_firstWord 2 (some .long)) { frames := 7, cells := 0, slots := 0, locals := 149 } (zPc dC dI adK adV [.ref h0] sz [(h0, .inr (9, mX9 h1 h2 v0)), (h1, zi k1 600 f1), (h2, zi k2 12 f2)] [(k1, .byte), (k2, .byte)]) (va_Ql (fun (r : Int64) (u : Nat → Int32) => (0 ≤ (u 0).toInt ∧ (u 0).toInt ≤ 12) ∧ (zFW f1 (v0 2).toInt r.toInt)) (fun (u : Nat → Int32) (t : State) => ∃ (ww : Nat → Int64) (aa : Nat → Nat → Int32) (bb : Nat → Nat → Int64), va_P (dC, dI) vwCl [(h0, .inr (9, mX9 h1 h2 (upd v0 3 (u 0)))), (h1, zi k1 600 f1), (h2, zi k2 12 (aa 0))] t.heap ∧ va_K (dC, dI) vwCl [(k1, .byte), (k2, .byte)] t ∧ va_D (va_A [(h0, .inr (9, mX9 h1 h2 v0)), (h1, zi k1 600 f1), (h2, zi k2 12 f2)] sz) [(h0, .inr (9, mX9 h1 h2 (upd v0 3 (u 0)))), (h1, zi k1 600 f1), (h2, zi k2 12 (aa 0))]) (va_A [(h0, .inr (9, mX9 h1 h2 v0)), (h1, zi k1 600 f1), (h2, zi k2 12 f2)] sz)) 0 0 (va_A [(h0, .inr (9, mX9 h1 h2 v0)), (h1, zi k1 600 f1), (h2, zi k2 12 f2)] sz) := by
  refine Met.ofW (cc := cX9_firstWord) (maxL := 2) (ret := (some .long)) (by decide) rfl ?_
  intro p e s m args below meth c s₁ B hml hv
  obtain ⟨rfl, hsz, hP, hK, hD0, hE, hZ⟩ := hv
  have hx := B.exec
  have hb := B.bytes
  have hr := B.returns
  have hG : ∀ w ∈ zG, w.before _ s = true := fun w h => atoms_spec (ws := (zw yX9_firstWord cX9_firstWord 2 (some .long))) B.pre w (List.mem_cons_of_mem _ h)
  have hown : s.vm.findClass RX9 = some m.cls := findClass_of_methodNamed B.named
  have hlocks := B.notSynchronized

  subst hsz
  have hD := hD0.self (sz := s.heap.size)
  generalize hAe : va_A [(h0, .inr (9, mX9 h1 h2 v0)), (h1, zi k1 600 f1), (h2, zi k2 12 f2)] s.heap.size = A at hD hZ ⊢
  have hA : ∀ q : Nat, s.heap.size ≤ q → A q := fun q h => by rw [← hAe]; exact Or.inr h
  have hS : va_S A s.heap s.heap [] := va_S.rf
  have hl := lv_entry ([.ref h0]) (n := 2) (Nat.le_of_ble_eq_true rfl)
  rw [lg_entry_eq]
  generalize (lg_sl ([.ref h0]) ++ List.replicate (2 - (lg_sl ([.ref h0])).length) Slot.unset).toArray = ls at hl ⊢
  have hl : lv_has ls 2 [(0, .ref h0)] := hl
  have b_ := zk_0
  have b_ : 0 ≤ (v0 2).toInt ∧ (v0 2).toInt ≤ 600 := hv0 2
  refine lv_iconst (v := 0) hx hb dX9_firstWord_0 (by decide) ?_
  refine lv_istore_n (lv' := [(1, .int 0), (0, .ref h0)]) hx hb dX9_firstWord_1 rfl hl (by decide) rfl (fun ls hl => ?_)
  refine zcutL (fun u2_ => (600 - (u2_ 0).toInt).toNat) (fun H locs ls u2_ w2_ a2_ b2_ => va_P (dC, dI) vwCl [(h0, .inr (9, mX9 h1 h2 v0)), (h1, zi k1 600 f1), (h2, zi k2 12 f2)] H ∧ va_D A [(h0, .inr (9, mX9 h1 h2 v0)), (h1, zi k1 600 f1), (h2, zi k2 12 f2)] ∧ va_S A s.heap H locs ∧ lv_has ls 2 [(0, .ref h0), (1, .int (u2_ 0))] ∧ (0 ≤ (u2_ 0).toInt ∧ (u2_ 0).toInt ≤ 600) ∧ (∀ j : Int, j < (u2_ 0).toInt → ¬ zIn f1 (v0 2).toInt j)) (fun ls u2_ w2_ => F0 m 2 ls []) 0 0 ?_ (fun hJ2 => ?_)
  · skip
    intro H locs ls u2_ w2_ a2_ b2_ hc hJ2
    obtain ⟨hP, hD, hS, hl, b_, hI2_0⟩ := hc
    refine lv_iload_n hx hb dX9_firstWord_2 rfl (lv_at hl 1 rfl) ?_
    refine lv_aload_n hx hb dX9_firstWord_3 rfl (lv_at hl 0 rfl) ?_
    refine va_get (D := (dC, dI)) (ci := 9) (v := .int (v0 2)) (C := RX9) (T := TX9) (N := 4) hx hb hG zuX9 hown hK hP 0 rfl rfl 2 (by decide) (hG _ zv171) (fun _ h9 => h9) rfl dX9_firstWord_4 ?_
    refine lv_icmp_ge (tgt := 30) hx hb dX9_firstWord_7 (by decide) (fun c_ => ?_) (fun c_ => ?_)
    · skip
      have b_ := zT_ge rfl rfl c_
      refine lv_lconst (v := 0) hx hb dX9_firstWord_30 (by decide) ?_
      refine W.widen (k := 0) (n := 0) (by decide) (by decide) ?_
      have b_ : 0 ≤ (v0 3).toInt ∧ (v0 3).toInt ≤ 12 := hv0 3
      have hpost : (0 ≤ (v0 3).toInt ∧ (v0 3).toInt ≤ 12) ∧ (zFW f1 (v0 2).toInt (0 : Int64).toInt) := ⟨(by first | with_reducible assumption | exact ⟨by omega, by omega⟩), by first | exact zfw0 hI2_0 (by omega) (by decide) | exact zfw1 hI2_0 (hX12_2 (by omega)) (hX20_0 (by omega) (by omega))⟩
      have hP9 : va_P (dC, dI) vwCl [(h0, .inr (9, mX9 h1 h2 (upd v0 3 (v0 3)))), (h1, zi k1 600 f1), (h2, zi k2 12 f2)] H := hP
      have hD9 : va_D A [(h0, .inr (9, mX9 h1 h2 (upd v0 3 (v0 3)))), (h1, zi k1 600 f1), (h2, zi k2 12 f2)] := hD
      exact W.lret (v := 0) hx hb hr (fun t ht hW => ⟨⟨0, (fun i => ([(v0 3)] : List (Int32)).getD i 0), rfl, hpost, (fun _ => 0), (fun i => ([f2] : List (Nat → Int32)).getD i (fun _ => 0)), (fun _ => (fun _ => 0)), by rw [ht]; exact hP9, va_K.moved hW.alike hK, hD9⟩, hS.F ht⟩) hS.2.2 dX9_firstWord_31
    · skip
      have b_ := zF_ge rfl rfl c_
      refine lv_aload_n hx hb dX9_firstWord_10 rfl (lv_at hl 0 rfl) ?_
      refine lv_iload_n hx hb dX9_firstWord_11 rfl (lv_at hl 1 rfl) ?_
      have hPc := hP.sub (ws' := [(h0, .inr (9, mX9 h1 h2 v0)), (h1, zi k1 600 f1)]) [0, 1] rfl
      have hDc := hD.sub (ws' := [(h0, .inr (9, mX9 h1 h2 v0)), (h1, zi k1 600 f1)]) [0, 1] (by decide) rfl
      have hKc := hK.sub (tys' := [(k1, .byte)]) [0] rfl
      have hFc := va_free (wc := [(h0, .inr (9, mX9 h1 h2 v0)), (h1, zi k1 600 f1)]) hD hS hA [0, 1] rfl
      refine va_calli (va_runV (As := [.int (u2_ 0)]) (rest := []) ⟨hx, hb, hml, hown, hG⟩ (sX9_inToken_0 l dC dI adK adV h0 h1 h2 k1 H.size v0 f1 (u2_ 0) hv0) (cwV 1 hG (zgV zv648 zv649 zv650 zv130 zv651) rfl rfl rfl (by decide +kernel) ⟨Nat.le_of_ble_eq_true rfl, Nat.le_of_ble_eq_true rfl⟩) ⟨zPc_blind, va_recv hKc hPc (ci := 9) (q0 := 0) rfl rfl, zPc_pre hPc hKc hDc hE hS hFc hZ⟩ rfl rfl hl.1 rfl (lv_room (Nat.le_of_ble_eq_true rfl)) dX9_firstWord_12 ⟨Nat.le_of_ble_eq_true rfl, Nat.le_of_ble_eq_true rfl⟩) hS (fun q _ h => hFc q h) hFc (fun r12_ u12_ t H1 locs ht hvm hw hB hz1 hk1 hS => ?_)
      replace hw : (0 ≤ r12_.toInt ∧ r12_.toInt ≤ 1) ∧ (r12_.toInt = 1 → (0 ≤ (u2_ 0).toInt ∧ (u2_ 0).toInt ≤ 599)) ∧ (r12_.toInt = 1 → (u2_ 0).toInt < (v0 2).toInt) ∧ (r12_.toInt = 1 → zIn f1 (v0 2).toInt (u2_ 0).toInt) ∧ (r12_.toInt = 0 → ¬ zIn f1 (v0 2).toInt (u2_ 0).toInt) := hw
      obtain ⟨b_, hX12_0, hX12_1, hX12_2, hX12_3⟩ := hw
      obtain ⟨w12_, a12_, b12_, hP1, hK1, hD1⟩ := hB
      rw [ht] at hP1
      obtain ⟨hP, hD⟩ := va_join (wr := [(h2, zi k2 12 f2)]) (w1 := [(h0, .inr (9, mX9 h1 h2 v0)), (h1, zi k1 600 f1)]) hP hD [0, 1] [2] rfl rfl (by decide) (by decide) hk1 hFc hP1 hD1
      have hP : va_P (dC, dI) vwCl [(h0, .inr (9, mX9 h1 h2 v0)), (h1, zi k1 600 f1), (h2, zi k2 12 f2)] H1 := hP.sub [1, 2, 0] rfl
      have hD : va_D A [(h0, .inr (9, mX9 h1 h2 v0)), (h1, zi k1 600 f1), (h2, zi k2 12 f2)] := hD.sub [1, 2, 0] (by decide) rfl
      generalize H1 = H at hP hS ⊢
      clear hz1
      refine lv_if_eq (tgt := 24) hx hb dX9_firstWord_15 (by decide) (fun c_ => ?_) (fun c_ => ?_)
      · skip
        have b_ := zT_eq rfl zk_0 c_
        obtain ⟨z24, e_z24⟩ : ∃ z : Int32, z = (u2_ 0) + Int32.ofInt 1 := ⟨_, rfl⟩
        have b_ := zadd (x := (u2_ 0)) (y := Int32.ofInt 1) rfl (show (Int32.ofInt 1).toInt = 1 from by decide) e_z24 (by omega) (by omega)
        refine lv_iinc (v := z24) (lv' := [(1, .int z24), (0, .ref h0)]) hx hb dX9_firstWord_24 hl (k := 1) rfl e_z24.symm (by decide) rfl (fun ls hl => ?_)
        refine lv_goto (tgt := 2) hx hb dX9_firstWord_27 (by decide) ?_
        have hc : va_P (dC, dI) vwCl [(h0, .inr (9, mX9 h1 h2 v0)), (h1, zi k1 600 f1), (h2, zi k2 12 f2)] H ∧ va_D A [(h0, .inr (9, mX9 h1 h2 v0)), (h1, zi k1 600 f1), (h2, zi k2 12 f2)] ∧ va_S A s.heap H locs ∧ lv_has ls 2 [(0, .ref h0), (1, .int z24)] ∧ (0 ≤ z24.toInt ∧ z24.toInt ≤ 600) ∧ (∀ j : Int, j < z24.toInt → ¬ zIn f1 (v0 2).toInt j) := ⟨hP, hD, hS, lv_sub hl [1, 0] rfl, (by first | with_reducible assumption | exact ⟨by omega, by omega⟩), by first | exact zNo_0 (by omega) | exact zNo_s (by assumption) (hX12_3 (by omega)) (by omega)⟩
        exact hJ2 H locs ls (fun i => ([z24] : List (Int32)).getD i 0) (fun _ => 0) (fun _ => (fun _ => 0)) (fun _ => (fun _ => 0)) hc (show (600 - z24.toInt).toNat < (600 - (u2_ 0).toInt).toNat from by omega)
      · skip
        have b_ := zF_eq rfl zk_0 c_
        refine lv_aload_n hx hb dX9_firstWord_18 rfl (lv_at hl 0 rfl) ?_
        refine lv_iload_n hx hb dX9_firstWord_19 rfl (lv_at hl 1 rfl) ?_
        have hPc := hP.sub (ws' := [(h0, .inr (9, mX9 h1 h2 v0)), (h1, zi k1 600 f1), (h2, zi k2 12 f2)]) [0, 1, 2] rfl
        have hDc := hD.sub (ws' := [(h0, .inr (9, mX9 h1 h2 v0)), (h1, zi k1 600 f1), (h2, zi k2 12 f2)]) [0, 1, 2] (by decide) rfl
        have hKc := hK.sub (tys' := [(k1, .byte), (k2, .byte)]) [0, 1] rfl
        have hFc := va_free (wc := [(h0, .inr (9, mX9 h1 h2 v0)), (h1, zi k1 600 f1), (h2, zi k2 12 f2)]) hD hS hA [0, 1, 2] rfl
        refine va_calll (va_runV (As := [.int (u2_ 0)]) (rest := []) ⟨hx, hb, hml, hown, hG⟩ (sX9_wordOf_0 l dC dI adK adV h0 h1 h2 k1 k2 H.size v0 f1 f2 (u2_ 0) hv0) (cwV 1 hG (zgV zv960 zv653 zv654 zv130 zv655) rfl rfl rfl (by decide +kernel) ⟨Nat.le_of_ble_eq_true rfl, Nat.le_of_ble_eq_true rfl⟩) ⟨zPc_blind, va_recv hKc hPc (ci := 9) (q0 := 0) rfl rfl, zPc_pre hPc hKc hDc hE hS hFc hZ⟩ rfl rfl hl.1 rfl (lv_room (Nat.le_of_ble_eq_true rfl)) dX9_firstWord_20 ⟨Nat.le_of_ble_eq_true rfl, Nat.le_of_ble_eq_true rfl⟩) hS (fun q _ h => hFc q h) hFc (fun r20_ u20_ t H1 locs ht hvm hw hB hz1 hk1 hS => ?_)
        replace hw : (0 ≤ (u20_ 0).toInt ∧ (u20_ 0).toInt ≤ 12) ∧ (0 ≤ (u2_ 0).toInt → (u2_ 0).toInt ≤ 600 → ∃ m : Nat, zRaw f1 (v0 2).toInt (u2_ 0).toInt m ∧ r20_.toInt = zWrd f1 (u2_ 0).toInt m) := hw
        obtain ⟨b_, hX20_0⟩ := hw
        obtain ⟨w20_, a20_, b20_, hP1, hK1, hD1⟩ := hB
        rw [ht] at hP1
        obtain ⟨hP, hD⟩ := va_join (wr := []) (w1 := [(h0, .inr (9, mX9 h1 h2 (upd v0 3 (u20_ 0)))), (h1, zi k1 600 f1), (h2, zi k2 12 (a20_ 0))]) hP hD [0, 1, 2] [] rfl rfl (by decide) (by decide) hk1 hFc hP1 hD1
        have hP : va_P (dC, dI) vwCl [(h0, .inr (9, mX9 h1 h2 (upd v0 3 (u20_ 0)))), (h1, zi k1 600 f1), (h2, zi k2 12 (a20_ 0))] H1 := hP.sub [0, 1, 2] rfl
        have hD : va_D A [(h0, .inr (9, mX9 h1 h2 (upd v0 3 (u20_ 0)))), (h1, zi k1 600 f1), (h2, zi k2 12 (a20_ 0))] := hD.sub [0, 1, 2] (by decide) rfl
        generalize H1 = H at hP hS ⊢
        clear hz1
        refine W.widen (k := 0) (n := 0) (by decide) (by decide) ?_
        have hpost : (0 ≤ (u20_ 0).toInt ∧ (u20_ 0).toInt ≤ 12) ∧ (zFW f1 (v0 2).toInt r20_.toInt) := ⟨(by first | with_reducible assumption | exact ⟨by omega, by omega⟩), by first | exact zfw0 hI2_0 (by omega) (by decide) | exact zfw1 hI2_0 (hX12_2 (by omega)) (hX20_0 (by omega) (by omega))⟩
        have hP9 : va_P (dC, dI) vwCl [(h0, .inr (9, mX9 h1 h2 (upd v0 3 (u20_ 0)))), (h1, zi k1 600 f1), (h2, zi k2 12 (a20_ 0))] H := hP
        have hD9 : va_D A [(h0, .inr (9, mX9 h1 h2 (upd v0 3 (u20_ 0)))), (h1, zi k1 600 f1), (h2, zi k2 12 (a20_ 0))] := hD
        exact W.lret (v := r20_) hx hb hr (fun t ht hW => ⟨⟨r20_, (fun i => ([(u20_ 0)] : List (Int32)).getD i 0), rfl, hpost, (fun _ => 0), (fun i => ([(a20_ 0)] : List (Nat → Int32)).getD i (fun _ => 0)), (fun _ => (fun _ => 0)), by rw [ht]; exact hP9, va_K.moved hW.alike hK, hD9⟩, hS.F ht⟩) hS.2.2 dX9_firstWord_23
  · skip
    have hc : va_P (dC, dI) vwCl [(h0, .inr (9, mX9 h1 h2 v0)), (h1, zi k1 600 f1), (h2, zi k2 12 f2)] s.heap ∧ va_D A [(h0, .inr (9, mX9 h1 h2 v0)), (h1, zi k1 600 f1), (h2, zi k2 12 f2)] ∧ va_S A s.heap s.heap [] ∧ lv_has ls 2 [(0, .ref h0), (1, .int 0)] ∧ (0 ≤ (0 : Int32).toInt ∧ (0 : Int32).toInt ≤ 600) ∧ (∀ j : Int, j < (0 : Int32).toInt → ¬ zIn f1 (v0 2).toInt j) := ⟨hP, hD, hS, lv_sub hl [1, 0] rfl, (by first | with_reducible assumption | exact ⟨by omega, by omega⟩), by first | exact zNo_0 (by omega) | exact zNo_s (by assumption) (hX12_3 (by omega)) (by omega)⟩
    exact hJ2 s.heap [] ls (fun i => ([0] : List (Int32)).getD i 0) (fun _ => 0) (fun _ => (fun _ => 0)) (fun _ => (fun _ => 0)) hc
set_option maxHeartbeats 8000000 in
set_option maxRecDepth 100000 in
theorem sX10_size_1 (l : Launch) (dC : Nat → ClassId) (dI : Nat → Nat → Nat) (adK adV : Nat → Nat) (h0 : Nat) (h1 : Nat) (h2 : Nat) (h3 : Nat) (h4 : Nat) (h5 : Nat) (h6 : Nat) (sz : Nat) (v0 : Nat → Int32) (hv0 : zR rg_Words10 v0) : Met l yX10_size (zw yX10_size cX10_size 1 (some .int)) { frames := 0, cells := 0, slots := 0, locals := 0 } (zPc dC dI adK adV [.ref h0] sz [(h0, .inr (10, mX10 h1 h2 h3 h4 h5 h6 v0))] []) (va_Qi (fun (r : Int32) (u : Nat → Int32) => (0 ≤ r.toInt ∧ r.toInt ≤ 10) ∧ (r.toInt = (v0 7).toInt) ∧ (r.toInt = (v0 7).toInt)) (fun (u : Nat → Int32) (t : State) => ∃ (ww : Nat → Int64) (aa : Nat → Nat → Int32) (bb : Nat → Nat → Int64), va_P (dC, dI) vwCl [(h0, .inr (10, mX10 h1 h2 h3 h4 h5 h6 v0))] t.heap ∧ va_K (dC, dI) vwCl [] t ∧ va_D (va_A [(h0, .inr (10, mX10 h1 h2 h3 h4 h5 h6 v0))] sz) [(h0, .inr (10, mX10 h1 h2 h3 h4 h5 h6 v0))]) (va_A [(h0, .inr (10, mX10 h1 h2 h3 h4 h5 h6 v0))] sz)) 0 0 (va_A [(h0, .inr (10, mX10 h1 h2 h3 h4 h5 h6 v0))] sz) := by
  refine Met.ofW (cc := cX10_size) (maxL := 1) (ret := (some .int)) (by decide) rfl ?_
  intro p e s m args below meth c s₁ B hml hv
  obtain ⟨rfl, hsz, hP, hK, hD0, hE, hZ⟩ := hv
  have hx := B.exec
  have hb := B.bytes
  have hr := B.returns
  have hG : ∀ w ∈ zG, w.before _ s = true := fun w h => atoms_spec (ws := (zw yX10_size cX10_size 1 (some .int))) B.pre w (List.mem_cons_of_mem _ h)
  have hown : s.vm.findClass RX10 = some m.cls := findClass_of_methodNamed B.named
  have hlocks := B.notSynchronized

  subst hsz
  have hD := hD0.self (sz := s.heap.size)
  generalize hAe : va_A [(h0, .inr (10, mX10 h1 h2 h3 h4 h5 h6 v0))] s.heap.size = A at hD hZ ⊢
  have hA : ∀ q : Nat, s.heap.size ≤ q → A q := fun q h => by rw [← hAe]; exact Or.inr h
  have hS : va_S A s.heap s.heap [] := va_S.rf
  have hl := lv_entry ([.ref h0]) (n := 1) (Nat.le_of_ble_eq_true rfl)
  rw [lg_entry_eq]
  generalize (lg_sl ([.ref h0]) ++ List.replicate (1 - (lg_sl ([.ref h0])).length) Slot.unset).toArray = ls at hl ⊢
  have hl : lv_has ls 1 [(0, .ref h0)] := hl
  have b_ : 0 ≤ (v0 7).toInt ∧ (v0 7).toInt ≤ 10 := hv0 7
  refine lv_aload_n hx hb dX10_size_0 rfl (lv_at hl 0 rfl) ?_
  refine va_get (D := (dC, dI)) (ci := 10) (v := .int (v0 7)) (C := RX10) (T := TX10) (N := 8) hx hb hG zuX10 hown hK hP 0 rfl rfl 7 (by decide) (hG _ zv196) (fun _ h9 => h9) rfl dX10_size_1 ?_
  refine W.widen (k := 0) (n := 0) (by decide) (by decide) ?_
  have hpost : (0 ≤ (v0 7).toInt ∧ (v0 7).toInt ≤ 10) ∧ ((v0 7).toInt = (v0 7).toInt) ∧ ((v0 7).toInt = (v0 7).toInt) := ⟨(by first | with_reducible assumption | exact ⟨by omega, by omega⟩), by omega, by omega⟩
  have hP9 : va_P (dC, dI) vwCl [(h0, .inr (10, mX10 h1 h2 h3 h4 h5 h6 v0))] s.heap := hP
  have hD9 : va_D A [(h0, .inr (10, mX10 h1 h2 h3 h4 h5 h6 v0))] := hD
  exact W.iret (v := (v0 7)) hx hb hr (fun t ht hW => ⟨⟨(v0 7), (fun _ => 0), rfl, hpost, (fun _ => 0), (fun _ => (fun _ => 0)), (fun _ => (fun _ => 0)), by rw [ht]; exact hP9, va_K.moved hW.alike hK, hD9⟩, hS.F ht⟩) hS.2.2 dX10_size_4
set_option maxHeartbeats 8000000 in
set_option maxRecDepth 100000 in
theorem sX10_idAt_1 (l : Launch) (dC : Nat → ClassId) (dI : Nat → Nat → Nat) (adK adV : Nat → Nat) (h0 : Nat) (h2 : Nat) (h1 : Nat) (h3 : Nat) (h4 : Nat) (h5 : Nat) (h6 : Nat) (k2 : ClassId) (sz : Nat) (v0 : Nat → Int32) (f2 : Nat → Int32) (x1 : Int32) (hv0 : zR rg_Words10 v0) (hf2 : zA 0 9 f2) : Met l yX10_idAt (zw yX10_idAt cX10_idAt 2 (some .int)) { frames := 0, cells := 0, slots := 0, locals := 0 } (zPc dC dI adK adV [.ref h0, .int x1] sz [(h0, .inr (10, mX10 h1 h2 h3 h4 h5 h6 v0)), (h2, zi k2 10 f2)] [(k2, .int)]) (va_Qi (fun (r : Int32) (u : Nat → Int32) => ((-1) ≤ r.toInt ∧ r.toInt ≤ 9) ∧ (0 ≤ x1.toInt ∧ x1.toInt < (v0 7).toInt → r.toInt = (f2 ((x1 : Int32)).toNatClampNeg).toInt) ∧ (x1.toInt < 0 → r.toInt = -1)) (fun (u : Nat → Int32) (t : State) => ∃ (ww : Nat → Int64) (aa : Nat → Nat → Int32) (bb : Nat → Nat → Int64), va_P (dC, dI) vwCl [(h0, .inr (10, mX10 h1 h2 h3 h4 h5 h6 v0)), (h2, zi k2 10 f2)] t.heap ∧ va_K (dC, dI) vwCl [(k2, .int)] t ∧ va_D (va_A [(h0, .inr (10, mX10 h1 h2 h3 h4 h5 h6 v0)), (h2, zi k2 10 f2)] sz) [(h0, .inr (10, mX10 h1 h2 h3 h4 h5 h6 v0)), (h2, zi k2 10 f2)]) (va_A [(h0, .inr (10, mX10 h1 h2 h3 h4 h5 h6 v0)), (h2, zi k2 10 f2)] sz)) 0 0 (va_A [(h0, .inr (10, mX10 h1 h2 h3 h4 h5 h6 v0)), (h2, zi k2 10 f2)] sz) := by
  refine Met.ofW (cc := cX10_idAt) (maxL := 2) (ret := (some .int)) (by decide) rfl ?_
  intro p e s m args below meth c s₁ B hml hv
  obtain ⟨rfl, hsz, hP, hK, hD0, hE, hZ⟩ := hv
  have hx := B.exec
  have hb := B.bytes
  have hr := B.returns
  have hG : ∀ w ∈ zG, w.before _ s = true := fun w h => atoms_spec (ws := (zw yX10_idAt cX10_idAt 2 (some .int))) B.pre w (List.mem_cons_of_mem _ h)
  have hown : s.vm.findClass RX10 = some m.cls := findClass_of_methodNamed B.named
  have hlocks := B.notSynchronized

  subst hsz
  have hD := hD0.self (sz := s.heap.size)
  generalize hAe : va_A [(h0, .inr (10, mX10 h1 h2 h3 h4 h5 h6 v0)), (h2, zi k2 10 f2)] s.heap.size = A at hD hZ ⊢
  have hA : ∀ q : Nat, s.heap.size ≤ q → A q := fun q h => by rw [← hAe]; exact Or.inr h
  have hS : va_S A s.heap s.heap [] := va_S.rf
  have hl := lv_entry ([.ref h0, .int x1]) (n := 2) (Nat.le_of_ble_eq_true rfl)
  rw [lg_entry_eq]
  generalize (lg_sl ([.ref h0, .int x1]) ++ List.replicate (2 - (lg_sl ([.ref h0, .int x1])).length) Slot.unset).toArray = ls at hl ⊢
  have hl : lv_has ls 2 [(0, .ref h0), (1, .int x1)] := hl
  have b_ := zk_m1
  have b_ : 0 ≤ (v0 7).toInt ∧ (v0 7).toInt ≤ 10 := hv0 7
  refine lv_iload_n hx hb dX10_idAt_0 rfl (lv_at hl 1 rfl) ?_
  have b_ : -2147483648 ≤ x1.toInt ∧ x1.toInt ≤ 2147483647 := ⟨zlo _, zhi _⟩
  refine lv_if_lt (tgt := 21) hx hb dX10_idAt_1 (by decide) (fun c_ => ?_) (fun c_ => ?_)
  · skip
    have b_ := zT_lt rfl zk_0 c_
    refine lv_iconst (v := (-1)) hx hb dX10_idAt_21 (by decide) ?_
    refine W.widen (k := 0) (n := 0) (by decide) (by decide) ?_
    have hpost : ((-1) ≤ ((-1) : Int32).toInt ∧ ((-1) : Int32).toInt ≤ 9) ∧ (0 ≤ x1.toInt ∧ x1.toInt < (v0 7).toInt → ((-1) : Int32).toInt = (f2 ((x1 : Int32)).toNatClampNeg).toInt) ∧ (x1.toInt < 0 → ((-1) : Int32).toInt = -1) := ⟨(by first | with_reducible assumption | exact ⟨by omega, by omega⟩), by first | (intro q; rw [e_z17]) | (intro q; omega), by omega⟩
    have hP9 : va_P (dC, dI) vwCl [(h0, .inr (10, mX10 h1 h2 h3 h4 h5 h6 v0)), (h2, zi k2 10 f2)] s.heap := hP
    have hD9 : va_D A [(h0, .inr (10, mX10 h1 h2 h3 h4 h5 h6 v0)), (h2, zi k2 10 f2)] := hD
    exact W.iret (v := (-1)) hx hb hr (fun t ht hW => ⟨⟨(-1), (fun _ => 0), rfl, hpost, (fun _ => 0), (fun _ => (fun _ => 0)), (fun _ => (fun _ => 0)), by rw [ht]; exact hP9, va_K.moved hW.alike hK, hD9⟩, hS.F ht⟩) hS.2.2 dX10_idAt_22
  · skip
    have b_ := zF_lt rfl zk_0 c_
    refine lv_iload_n hx hb dX10_idAt_4 rfl (lv_at hl 1 rfl) ?_
    refine lv_aload_n hx hb dX10_idAt_5 rfl (lv_at hl 0 rfl) ?_
    refine va_get (D := (dC, dI)) (ci := 10) (v := .int (v0 7)) (C := RX10) (T := TX10) (N := 8) hx hb hG zuX10 hown hK hP 0 rfl rfl 7 (by decide) (hG _ zv196) (fun _ h9 => h9) rfl dX10_idAt_6 ?_
    refine lv_icmp_ge (tgt := 21) hx hb dX10_idAt_9 (by decide) (fun c_ => ?_) (fun c_ => ?_)
    · skip
      have b_ := zT_ge rfl rfl c_
      refine lv_iconst (v := (-1)) hx hb dX10_idAt_21 (by decide) ?_
      refine W.widen (k := 0) (n := 0) (by decide) (by decide) ?_
      have hpost : ((-1) ≤ ((-1) : Int32).toInt ∧ ((-1) : Int32).toInt ≤ 9) ∧ (0 ≤ x1.toInt ∧ x1.toInt < (v0 7).toInt → ((-1) : Int32).toInt = (f2 ((x1 : Int32)).toNatClampNeg).toInt) ∧ (x1.toInt < 0 → ((-1) : Int32).toInt = -1) := ⟨(by first | with_reducible assumption | exact ⟨by omega, by omega⟩), by first | (intro q; rw [e_z17]) | (intro q; omega), by omega⟩
      have hP9 : va_P (dC, dI) vwCl [(h0, .inr (10, mX10 h1 h2 h3 h4 h5 h6 v0)), (h2, zi k2 10 f2)] s.heap := hP
      have hD9 : va_D A [(h0, .inr (10, mX10 h1 h2 h3 h4 h5 h6 v0)), (h2, zi k2 10 f2)] := hD
      exact W.iret (v := (-1)) hx hb hr (fun t ht hW => ⟨⟨(-1), (fun _ => 0), rfl, hpost, (fun _ => 0), (fun _ => (fun _ => 0)), (fun _ => (fun _ => 0)), by rw [ht]; exact hP9, va_K.moved hW.alike hK, hD9⟩, hS.F ht⟩) hS.2.2 dX10_idAt_22
    · skip
      have b_ := zF_ge rfl rfl c_
      refine lv_aload_n hx hb dX10_idAt_12 rfl (lv_at hl 0 rfl) ?_
      refine va_get (D := (dC, dI)) (ci := 10) (v := .ref h2) (C := RX10) (T := TX10) (N := 8) hx hb hG zuX10 hown hK hP 0 rfl rfl 2 (by decide) (hG _ zv191) (fun _ h9 => h9) rfl dX10_idAt_13 ?_
      refine lv_iload_n hx hb dX10_idAt_16 rfl (lv_at hl 1 rfl) ?_
      refine va_iald hx hb hK hP 1 0 rfl rfl (zin_lit ⟨by omega, by omega⟩) dX10_idAt_17 ?_
      refine lv_topi (fun z17 e_z17 => ?_)
      have b_ : 0 ≤ z17.toInt ∧ z17.toInt ≤ 9 := by rw [e_z17]; exact hf2 _
      refine lv_goto (tgt := 22) hx hb dX10_idAt_18 (by decide) ?_
      refine W.widen (k := 0) (n := 0) (by decide) (by decide) ?_
      have hpost : ((-1) ≤ z17.toInt ∧ z17.toInt ≤ 9) ∧ (0 ≤ x1.toInt ∧ x1.toInt < (v0 7).toInt → z17.toInt = (f2 ((x1 : Int32)).toNatClampNeg).toInt) ∧ (x1.toInt < 0 → z17.toInt = -1) := ⟨(by first | with_reducible assumption | exact ⟨by omega, by omega⟩), by first | (intro q; rw [e_z17]) | (intro q; omega), by omega⟩
      have hP9 : va_P (dC, dI) vwCl [(h0, .inr (10, mX10 h1 h2 h3 h4 h5 h6 v0)), (h2, zi k2 10 f2)] s.heap := hP
      have hD9 : va_D A [(h0, .inr (10, mX10 h1 h2 h3 h4 h5 h6 v0)), (h2, zi k2 10 f2)] := hD
      exact W.iret (v := z17) hx hb hr (fun t ht hW => ⟨⟨z17, (fun _ => 0), rfl, hpost, (fun _ => 0), (fun _ => (fun _ => 0)), (fun _ => (fun _ => 0)), by rw [ht]; exact hP9, va_K.moved hW.alike hK, hD9⟩, hS.F ht⟩) hS.2.2 dX10_idAt_22
set_option maxHeartbeats 8000000 in
set_option maxRecDepth 100000 in
theorem sX10_strike_1 (l : Launch) (dC : Nat → ClassId) (dI : Nat → Nat → Nat) (adK adV : Nat → Nat) (h0 : Nat) (h3 : Nat) (h1 : Nat) (h2 : Nat) (h4 : Nat) (h5 : Nat) (h6 : Nat) (k3 : ClassId) (sz : Nat) (v0 : Nat → Int32) (f3 : Nat → Int32) (x1 : Int32) (hv0 : zR rg_Words10 v0) (hf3 : zA (-1) 9 f3) : Met l yX10_strike (zw yX10_strike cX10_strike 2 none) { frames := 0, cells := 0, slots := 0, locals := 0 } (zPc dC dI adK adV [.ref h0, .int x1] sz [(h0, .inr (10, mX10 h1 h2 h3 h4 h5 h6 v0)), (h3, zi k3 10 f3)] [(k3, .int)]) (va_Qv (fun (u : Nat → Int32) => True) (fun (u : Nat → Int32) (t : State) => ∃ (ww : Nat → Int64) (aa : Nat → Nat → Int32) (bb : Nat → Nat → Int64), zA (-1) 9 (aa 0) ∧ (0 ≤ x1.toInt ∧ x1.toInt < (v0 7).toInt → (aa 0) = upd f3 ((x1 : Int32)).toNatClampNeg (-1)) ∧ va_P (dC, dI) vwCl [(h0, .inr (10, mX10 h1 h2 h3 h4 h5 h6 v0)), (h3, zi k3 10 (aa 0))] t.heap ∧ va_K (dC, dI) vwCl [(k3, .int)] t ∧ va_D (va_A [(h0, .inr (10, mX10 h1 h2 h3 h4 h5 h6 v0)), (h3, zi k3 10 f3)] sz) [(h0, .inr (10, mX10 h1 h2 h3 h4 h5 h6 v0)), (h3, zi k3 10 (aa 0))]) (va_A [(h0, .inr (10, mX10 h1 h2 h3 h4 h5 h6 v0)), (h3, zi k3 10 f3)] sz)) 0 0 (va_A [(h0, .inr (10, mX10 h1 h2 h3 h4 h5 h6 v0)), (h3, zi k3 10 f3)] sz) := by
  refine Met.ofW (cc := cX10_strike) (maxL := 2) (ret := none) (by decide) rfl ?_
  intro p e s m args below meth c s₁ B hml hv
  obtain ⟨rfl, hsz, hP, hK, hD0, hE, hZ⟩ := hv
  have hx := B.exec
  have hb := B.bytes
  have hr := B.returns
  have hG : ∀ w ∈ zG, w.before _ s = true := fun w h => atoms_spec (ws := (zw yX10_strike cX10_strike 2 none)) B.pre w (List.mem_cons_of_mem _ h)
  have hown : s.vm.findClass RX10 = some m.cls := findClass_of_methodNamed B.named
  have hlocks := B.notSynchronized

  subst hsz
  have hD := hD0.self (sz := s.heap.size)
  generalize hAe : va_A [(h0, .inr (10, mX10 h1 h2 h3 h4 h5 h6 v0)), (h3, zi k3 10 f3)] s.heap.size = A at hD hZ ⊢
  have hA : ∀ q : Nat, s.heap.size ≤ q → A q := fun q h => by rw [← hAe]; exact Or.inr h
  have hS : va_S A s.heap s.heap [] := va_S.rf
  have hl := lv_entry ([.ref h0, .int x1]) (n := 2) (Nat.le_of_ble_eq_true rfl)
  rw [lg_entry_eq]
  generalize (lg_sl ([.ref h0, .int x1]) ++ List.replicate (2 - (lg_sl ([.ref h0, .int x1])).length) Slot.unset).toArray = ls at hl ⊢
  have hl : lv_has ls 2 [(0, .ref h0), (1, .int x1)] := hl
  refine lv_iload_n hx hb dX10_strike_0 rfl (lv_at hl 1 rfl) ?_
  have b_ : -2147483648 ≤ x1.toInt ∧ x1.toInt ≤ 2147483647 := ⟨zlo _, zhi _⟩
  refine lv_if_lt (tgt := 19) hx hb dX10_strike_1 (by decide) (fun c_ => ?_) (fun c_ => ?_)
  · skip
    have b_ := zT_lt rfl zk_0 c_
    refine W.widen (k := 0) (n := 0) (by decide) (by decide) ?_
    have hpost : True := trivial
    have hP9 : va_P (dC, dI) vwCl [(h0, .inr (10, mX10 h1 h2 h3 h4 h5 h6 v0)), (h3, zi k3 10 f3)] s.heap := hP
    have hD9 : va_D A [(h0, .inr (10, mX10 h1 h2 h3 h4 h5 h6 v0)), (h3, zi k3 10 f3)] := hD
    have hB0 : 0 ≤ x1.toInt ∧ x1.toInt < (v0 7).toInt → f3 = upd f3 ((x1 : Int32)).toNatClampNeg (-1) := by first | exact fun _ => e_f_18 | (intro q; omega)
    exact W.vret hx hb hr (fun t ht hW => ⟨⟨(fun _ => 0), rfl, hpost, (fun _ => 0), (fun i => ([f3] : List (Nat → Int32)).getD i (fun _ => 0)), (fun _ => (fun _ => 0)), hf3, hB0, by rw [ht]; exact hP9, va_K.moved hW.alike hK, hD9⟩, hS.F ht⟩) hS.2.2 dX10_strike_19
  · skip
    have b_ := zF_lt rfl zk_0 c_
    refine lv_iload_n hx hb dX10_strike_4 rfl (lv_at hl 1 rfl) ?_
    refine lv_aload_n hx hb dX10_strike_5 rfl (lv_at hl 0 rfl) ?_
    have b_ : 0 ≤ (v0 7).toInt ∧ (v0 7).toInt ≤ 10 := hv0 7
    refine va_get (D := (dC, dI)) (ci := 10) (v := .int (v0 7)) (C := RX10) (T := TX10) (N := 8) hx hb hG zuX10 hown hK hP 0 rfl rfl 7 (by decide) (hG _ zv196) (fun _ h9 => h9) rfl dX10_strike_6 ?_
    refine lv_icmp_ge (tgt := 19) hx hb dX10_strike_9 (by decide) (fun c_ => ?_) (fun c_ => ?_)
    · skip
      have b_ := zT_ge rfl rfl c_
      refine W.widen (k := 0) (n := 0) (by decide) (by decide) ?_
      have hpost : True := trivial
      have hP9 : va_P (dC, dI) vwCl [(h0, .inr (10, mX10 h1 h2 h3 h4 h5 h6 v0)), (h3, zi k3 10 f3)] s.heap := hP
      have hD9 : va_D A [(h0, .inr (10, mX10 h1 h2 h3 h4 h5 h6 v0)), (h3, zi k3 10 f3)] := hD
      have hB0 : 0 ≤ x1.toInt ∧ x1.toInt < (v0 7).toInt → f3 = upd f3 ((x1 : Int32)).toNatClampNeg (-1) := by first | exact fun _ => e_f_18 | (intro q; omega)
      exact W.vret hx hb hr (fun t ht hW => ⟨⟨(fun _ => 0), rfl, hpost, (fun _ => 0), (fun i => ([f3] : List (Nat → Int32)).getD i (fun _ => 0)), (fun _ => (fun _ => 0)), hf3, hB0, by rw [ht]; exact hP9, va_K.moved hW.alike hK, hD9⟩, hS.F ht⟩) hS.2.2 dX10_strike_19
    · skip
      have b_ := zF_ge rfl rfl c_
      refine lv_aload_n hx hb dX10_strike_12 rfl (lv_at hl 0 rfl) ?_
      refine va_get (D := (dC, dI)) (ci := 10) (v := .ref h3) (C := RX10) (T := TX10) (N := 8) hx hb hG zuX10 hown hK hP 0 rfl rfl 3 (by decide) (hG _ zv192) (fun _ h9 => h9) rfl dX10_strike_13 ?_
      refine lv_iload_n hx hb dX10_strike_16 rfl (lv_at hl 1 rfl) ?_
      refine lv_iconst (v := (-1)) hx hb dX10_strike_17 (by decide) ?_
      refine va_iast hx hb hK hP hD hS 1 0 rfl rfl (zin_lit ⟨by omega, by omega⟩) dX10_strike_18 (fun H locs hP hD hS => ?_)
      obtain ⟨f_18, e_f_18⟩ : ∃ z : Nat → Int32, z = upd f3 (x1 : Int32).toNatClampNeg (-1) := ⟨_, rfl⟩
      have hP : va_P (dC, dI) vwCl [(h0, .inr (10, mX10 h1 h2 h3 h4 h5 h6 v0)), (h3, zi k3 10 f_18)] H := by rw [e_f_18]; exact hP
      have hD : va_D A [(h0, .inr (10, mX10 h1 h2 h3 h4 h5 h6 v0)), (h3, zi k3 10 f_18)] := by rw [e_f_18]; exact hD
      have hf_18 : zA (-1) 9 f_18 := by rw [e_f_18]; exact zA_upd hf3 (show (-1) ≤ ((-1) : Int32).toInt from by decide) (show ((-1) : Int32).toInt ≤ 9 from by decide)
      refine W.widen (k := 0) (n := 0) (by decide) (by decide) ?_
      have hpost : True := trivial
      have hP9 : va_P (dC, dI) vwCl [(h0, .inr (10, mX10 h1 h2 h3 h4 h5 h6 v0)), (h3, zi k3 10 f_18)] H := hP
      have hD9 : va_D A [(h0, .inr (10, mX10 h1 h2 h3 h4 h5 h6 v0)), (h3, zi k3 10 f_18)] := hD
      have hB0 : 0 ≤ x1.toInt ∧ x1.toInt < (v0 7).toInt → f_18 = upd f3 ((x1 : Int32)).toNatClampNeg (-1) := by first | exact fun _ => e_f_18 | (intro q; omega)
      exact W.vret hx hb hr (fun t ht hW => ⟨⟨(fun _ => 0), rfl, hpost, (fun _ => 0), (fun i => ([f_18] : List (Nat → Int32)).getD i (fun _ => 0)), (fun _ => (fun _ => 0)), hf_18, hB0, by rw [ht]; exact hP9, va_K.moved hW.alike hK, hD9⟩, hS.F ht⟩) hS.2.2 dX10_strike_19
set_option maxHeartbeats 8000000 in
set_option maxRecDepth 100000 in
theorem sJ7_fill_53178_5 (l : Launch) (dC : Nat → ClassId) (dI : Nat → Nat → Nat) (adK adV : Nat → Nat) (h0 : Nat) (k0 : ClassId) (sz : Nat) (f0 : Nat → Int32) (x1 : Int32) (hf0 : zA (-1) 9 f0) (hx1 : (-1) ≤ x1.toInt ∧ x1.toInt ≤ 9) : Met l yJ7_fill_53178 (zw yJ7_fill_53178 cJ7_fill_53178 4 none) { frames := 0, cells := 0, slots := 0, locals := 0 } (zPc dC dI adK adV [.ref h0, .int x1] sz [(h0, zi k0 10 f0)] [(k0, .int)]) (va_Qv (fun (u : Nat → Int32) => True) (fun (u : Nat → Int32) (t : State) => ∃ (ww : Nat → Int64) (aa : Nat → Nat → Int32) (bb : Nat → Nat → Int64), zA (-1) 9 (aa 0) ∧ (∀ j : Nat, (j : Int) < 10 → (aa 0) j = (x1 : Int32)) ∧ va_P (dC, dI) vwCl [(h0, zi k0 10 (aa 0))] t.heap ∧ va_K (dC, dI) vwCl [(k0, .int)] t ∧ va_D (va_A [(h0, zi k0 10 f0)] sz) [(h0, zi k0 10 (aa 0))]) (va_A [(h0, zi k0 10 f0)] sz)) 0 0 (va_A [(h0, zi k0 10 f0)] sz) := by
  refine Met.ofW (cc := cJ7_fill_53178) (maxL := 4) (ret := none) (by decide) rfl ?_
  intro p e s m args below meth c s₁ B hml hv
  obtain ⟨rfl, hsz, hP, hK, hD0, hE, hZ⟩ := hv
  have hx := B.exec
  have hb := B.bytes
  have hr := B.returns
  have hG : ∀ w ∈ zG, w.before _ s = true := fun w h => atoms_spec (ws := (zw yJ7_fill_53178 cJ7_fill_53178 4 none)) B.pre w (List.mem_cons_of_mem _ h)
  have hown : s.vm.findClass RJ7 = some m.cls := findClass_of_methodNamed B.named
  have hlocks := B.notSynchronized

  subst hsz
  have hD := hD0.self (sz := s.heap.size)
  generalize hAe : va_A [(h0, zi k0 10 f0)] s.heap.size = A at hD hZ ⊢
  have hA : ∀ q : Nat, s.heap.size ≤ q → A q := fun q h => by rw [← hAe]; exact Or.inr h
  have hS : va_S A s.heap s.heap [] := va_S.rf
  have hl := lv_entry ([.ref h0, .int x1]) (n := 4) (Nat.le_of_ble_eq_true rfl)
  rw [lg_entry_eq]
  generalize (lg_sl ([.ref h0, .int x1]) ++ List.replicate (4 - (lg_sl ([.ref h0, .int x1])).length) Slot.unset).toArray = ls at hl ⊢
  have hl : lv_has ls 4 [(0, .ref h0), (1, .int x1)] := hl
  have b_ := zk_0
  refine lv_iconst (v := 0) hx hb dJ7_fill_53178_0 (by decide) ?_
  refine lv_istore_n (lv' := [(2, .int 0), (0, .ref h0), (1, .int x1)]) hx hb dJ7_fill_53178_1 rfl hl (by decide) rfl (fun ls hl => ?_)
  refine lv_aload_n hx hb dJ7_fill_53178_2 rfl (lv_at hl 1 rfl) ?_
  refine va_alen (v := 10) hx hb hK hP 0 0 rfl rfl (show Int32.ofNat 10 = 10 from by decide +kernel) dJ7_fill_53178_3 ?_
  refine lv_istore_n (lv' := [(3, .int 10), (2, .int 0), (0, .ref h0), (1, .int x1)]) hx hb dJ7_fill_53178_4 rfl hl (by decide) rfl (fun ls hl => ?_)
  refine zcutL (fun u5_ => (10 - (u5_ 0).toInt).toNat) (fun H locs ls u5_ w5_ a5_ b5_ => va_P (dC, dI) vwCl [(h0, zi k0 10 (a5_ 0))] H ∧ va_D A [(h0, zi k0 10 (a5_ 0))] ∧ va_S A s.heap H locs ∧ lv_has ls 4 [(0, .ref h0), (1, .int x1), (2, .int (u5_ 0)), (3, .int 10)] ∧ zA (-1) 9 (a5_ 0) ∧ (0 ≤ (u5_ 0).toInt ∧ (u5_ 0).toInt ≤ 10) ∧ (∀ j : Nat, (j : Int) < (u5_ 0).toInt → (a5_ 0) j = (x1 : Int32))) (fun ls u5_ w5_ => F0 m 5 ls []) 0 0 ?_ (fun hJ5 => ?_)
  · skip
    intro H locs ls u5_ w5_ a5_ b5_ hc hJ5
    obtain ⟨hP, hD, hS, hl, ha5_0, b_, hI5_0⟩ := hc
    refine lv_iload_n hx hb dJ7_fill_53178_5 rfl (lv_at hl 2 rfl) ?_
    refine lv_iload_n hx hb dJ7_fill_53178_6 rfl (lv_at hl 3 rfl) ?_
    refine lv_icmp_ge (tgt := 20) hx hb dJ7_fill_53178_7 (by decide) (fun c_ => ?_) (fun c_ => ?_)
    · skip
      have b_ := zT_ge rfl zk_10 c_
      refine W.widen (k := 0) (n := 0) (by decide) (by decide) ?_
      have hpost : True := trivial
      have hP9 : va_P (dC, dI) vwCl [(h0, zi k0 10 (a5_ 0))] H := hP
      have hD9 : va_D A [(h0, zi k0 10 (a5_ 0))] := hD
      have hB0 : ∀ j : Nat, (j : Int) < 10 → (a5_ 0) j = (x1 : Int32) := by intro j hj; exact hI5_0 j (by omega)
      exact W.vret hx hb hr (fun t ht hW => ⟨⟨(fun _ => 0), rfl, hpost, (fun _ => 0), (fun i => ([(a5_ 0)] : List (Nat → Int32)).getD i (fun _ => 0)), (fun _ => (fun _ => 0)), ha5_0, hB0, by rw [ht]; exact hP9, va_K.moved hW.alike hK, hD9⟩, hS.F ht⟩) hS.2.2 dJ7_fill_53178_20
    · skip
      have b_ := zF_ge rfl zk_10 c_
      refine lv_aload_n hx hb dJ7_fill_53178_10 rfl (lv_at hl 0 rfl) ?_
      refine lv_iload_n hx hb dJ7_fill_53178_11 rfl (lv_at hl 2 rfl) ?_
      refine lv_iload_n hx hb dJ7_fill_53178_12 rfl (lv_at hl 1 rfl) ?_
      refine va_iast hx hb hK hP hD hS 0 0 rfl rfl (zin_lit ⟨by omega, by omega⟩) dJ7_fill_53178_13 (fun H locs hP hD hS => ?_)
      obtain ⟨f_13, e_f_13⟩ : ∃ z : Nat → Int32, z = upd (a5_ 0) ((u5_ 0) : Int32).toNatClampNeg x1 := ⟨_, rfl⟩
      have hP : va_P (dC, dI) vwCl [(h0, zi k0 10 f_13)] H := by rw [e_f_13]; exact hP
      have hD : va_D A [(h0, zi k0 10 f_13)] := by rw [e_f_13]; exact hD
      have hf_13 : zA (-1) 9 f_13 := by rw [e_f_13]; exact zA_upd ha5_0 (show (-1) ≤ (x1 : Int32).toInt from by omega) (show (x1 : Int32).toInt ≤ 9 from by omega)
      obtain ⟨z14, e_z14⟩ : ∃ z : Int32, z = (u5_ 0) + Int32.ofInt 1 := ⟨_, rfl⟩
      have b_ := zadd (x := (u5_ 0)) (y := Int32.ofInt 1) rfl (show (Int32.ofInt 1).toInt = 1 from by decide) e_z14 (by omega) (by omega)
      refine lv_iinc (v := z14) (lv' := [(2, .int z14), (0, .ref h0), (1, .int x1), (3, .int 10)]) hx hb dJ7_fill_53178_14 hl (k := 2) rfl e_z14.symm (by decide) rfl (fun ls hl => ?_)
      refine lv_goto (tgt := 5) hx hb dJ7_fill_53178_17 (by decide) ?_
      have hc : va_P (dC, dI) vwCl [(h0, zi k0 10 f_13)] H ∧ va_D A [(h0, zi k0 10 f_13)] ∧ va_S A s.heap H locs ∧ lv_has ls 4 [(0, .ref h0), (1, .int x1), (2, .int z14), (3, .int 10)] ∧ zA (-1) 9 f_13 ∧ (0 ≤ z14.toInt ∧ z14.toInt ≤ 10) ∧ (∀ j : Nat, (j : Int) < z14.toInt → f_13 j = (x1 : Int32)) := ⟨hP, hD, hS, lv_sub hl [1, 2, 0, 3] rfl, hf_13, (by first | with_reducible assumption | exact ⟨by omega, by omega⟩), by first | (intro j hj; omega) | (rw [e_f_13]; exact zfill (by assumption) (by omega) (by omega))⟩
      exact hJ5 H locs ls (fun i => ([z14] : List (Int32)).getD i 0) (fun _ => 0) (fun i => ([f_13] : List (Nat → Int32)).getD i (fun _ => 0)) (fun _ => (fun _ => 0)) hc (show (10 - z14.toInt).toNat < (10 - (u5_ 0).toInt).toNat from by omega)
  · skip
    have hc : va_P (dC, dI) vwCl [(h0, zi k0 10 f0)] s.heap ∧ va_D A [(h0, zi k0 10 f0)] ∧ va_S A s.heap s.heap [] ∧ lv_has ls 4 [(0, .ref h0), (1, .int x1), (2, .int 0), (3, .int 10)] ∧ zA (-1) 9 f0 ∧ (0 ≤ (0 : Int32).toInt ∧ (0 : Int32).toInt ≤ 10) ∧ (∀ j : Nat, (j : Int) < (0 : Int32).toInt → f0 j = (x1 : Int32)) := ⟨hP, hD, hS, lv_sub hl [2, 3, 1, 0] rfl, hf0, (by first | with_reducible assumption | exact ⟨by omega, by omega⟩), by first | (intro j hj; omega) | (rw [e_f_13]; exact zfill (by assumption) (by omega) (by omega))⟩
    exact hJ5 s.heap [] ls (fun i => ([0] : List (Int32)).getD i 0) (fun _ => 0) (fun i => ([f0] : List (Nat → Int32)).getD i (fun _ => 0)) (fun _ => (fun _ => 0)) hc
set_option maxHeartbeats 8000000 in
set_option maxRecDepth 100000 in
theorem sX10_closeRanks_1 (l : Launch) (dC : Nat → ClassId) (dI : Nat → Nat → Nat) (adK adV : Nat → Nat) (h0 : Nat) (h3 : Nat) (h2 : Nat) (h1 : Nat) (h4 : Nat) (h5 : Nat) (h6 : Nat) (k3 : ClassId) (k2 : ClassId) (k1 : ClassId) (sz : Nat) (v0 : Nat → Int32) (f3 : Nat → Int32) (f2 : Nat → Int32) (f1 : Nat → Int64) (hv0 : zR rg_Words10 v0) (hf3 : zA (-1) 9 f3) (hf2 : zA 0 9 f2) : Met l yX10_closeRanks (zw yX10_closeRanks cX10_closeRanks 5 none) { frames := 1, cells := 0, slots := 0, locals := 23 } (zPc dC dI adK adV [.ref h0] sz [(h0, .inr (10, mX10 h1 h2 h3 h4 h5 h6 v0)), (h3, zi k3 10 f3), (h2, zi k2 10 f2), (h1, .inl (k1, 10, .inr (.inl f1)))] [(k3, .int), (k2, .int), (k1, .long)]) (va_Qv (fun (u : Nat → Int32) => (0 ≤ (u 0).toInt ∧ (u 0).toInt ≤ 10)) (fun (u : Nat → Int32) (t : State) => ∃ (ww : Nat → Int64) (aa : Nat → Nat → Int32) (bb : Nat → Nat → Int64), zA (-1) 9 (aa 0) ∧ zA 0 9 (aa 1) ∧ (zClo f3 f1 (bb 0) f2 (aa 1) (v0 7).toInt (u 0).toInt) ∧ (∀ j : Nat, (j : Int) < 10 → (aa 0) j = 0) ∧ va_P (dC, dI) vwCl [(h0, .inr (10, mX10 h1 h2 h3 h4 h5 h6 (upd v0 7 (u 0)))), (h3, zi k3 10 (aa 0)), (h2, zi k2 10 (aa 1)), (h1, .inl (k1, 10, .inr (.inl (bb 0))))] t.heap ∧ va_K (dC, dI) vwCl [(k3, .int), (k2, .int), (k1, .long)] t ∧ va_D (va_A [(h0, .inr (10, mX10 h1 h2 h3 h4 h5 h6 v0)), (h3, zi k3 10 f3), (h2, zi k2 10 f2), (h1, .inl (k1, 10, .inr (.inl f1)))] sz) [(h0, .inr (10, mX10 h1 h2 h3 h4 h5 h6 (upd v0 7 (u 0)))), (h3, zi k3 10 (aa 0)), (h2, zi k2 10 (aa 1)), (h1, .inl (k1, 10, .inr (.inl (bb 0))))]) (va_A [(h0, .inr (10, mX10 h1 h2 h3 h4 h5 h6 v0)), (h3, zi k3 10 f3), (h2, zi k2 10 f2), (h1, .inl (k1, 10, .inr (.inl f1)))] sz)) 0 0 (va_A [(h0, .inr (10, mX10 h1 h2 h3 h4 h5 h6 v0)), (h3, zi k3 10 f3), (h2, zi k2 10 f2), (h1, .inl (k1, 10, .inr (.inl f1)))] sz) := by
  refine Met.ofW (cc := cX10_closeRanks) (maxL := 5) (ret := none) (by decide) rfl ?_
  intro p e s m args below meth c s₁ B hml hv
  obtain ⟨rfl, hsz, hP, hK, hD0, hE, hZ⟩ := hv
  have hx := B.exec
  have hb := B.bytes
  have hr := B.returns
  have hG : ∀ w ∈ zG, w.before _ s = true := fun w h => atoms_spec (ws := (zw yX10_closeRanks cX10_closeRanks 5 none)) B.pre w (List.mem_cons_of_mem _ h)
  have hown : s.vm.findClass RX10 = some m.cls := findClass_of_methodNamed B.named
  have hlocks := B.notSynchronized

  subst hsz
  have hD := hD0.self (sz := s.heap.size)
  generalize hAe : va_A [(h0, .inr (10, mX10 h1 h2 h3 h4 h5 h6 v0)), (h3, zi k3 10 f3), (h2, zi k2 10 f2), (h1, .inl (k1, 10, .inr (.inl f1)))] s.heap.size = A at hD hZ ⊢
  have hA : ∀ q : Nat, s.heap.size ≤ q → A q := fun q h => by rw [← hAe]; exact Or.inr h
  have hS : va_S A s.heap s.heap [] := va_S.rf
  have hl := lv_entry ([.ref h0]) (n := 5) (Nat.le_of_ble_eq_true rfl)
  rw [lg_entry_eq]
  generalize (lg_sl ([.ref h0]) ++ List.replicate (5 - (lg_sl ([.ref h0])).length) Slot.unset).toArray = ls at hl ⊢
  have hl : lv_has ls 5 [(0, .ref h0)] := hl
  have b_ := zk_0
  have b_ : 0 ≤ (v0 7).toInt ∧ (v0 7).toInt ≤ 10 := hv0 7
  refine lv_iconst (v := 0) hx hb dX10_closeRanks_0 (by decide) ?_
  refine lv_istore_n (lv' := [(1, .int 0), (0, .ref h0)]) hx hb dX10_closeRanks_1 rfl hl (by decide) rfl (fun ls hl => ?_)
  refine lv_iconst (v := 0) hx hb dX10_closeRanks_2 (by decide) ?_
  refine lv_istore_n (lv' := [(2, .int 0), (1, .int 0), (0, .ref h0)]) hx hb dX10_closeRanks_3 rfl hl (by decide) rfl (fun ls hl => ?_)
  refine zcutL (fun u4_ => (10 - (u4_ 1).toInt).toNat) (fun H locs ls u4_ w4_ a4_ b4_ => va_P (dC, dI) vwCl [(h0, .inr (10, mX10 h1 h2 h3 h4 h5 h6 v0)), (h3, zi k3 10 (a4_ 0)), (h2, zi k2 10 f2), (h1, .inl (k1, 10, .inr (.inl f1)))] H ∧ va_D A [(h0, .inr (10, mX10 h1 h2 h3 h4 h5 h6 v0)), (h3, zi k3 10 (a4_ 0)), (h2, zi k2 10 f2), (h1, .inl (k1, 10, .inr (.inl f1)))] ∧ va_S A s.heap H locs ∧ lv_has ls 5 [(0, .ref h0), (1, .int (u4_ 0)), (2, .int (u4_ 1))] ∧ zA (-1) 9 (a4_ 0) ∧ (0 ≤ (u4_ 0).toInt ∧ (u4_ 0).toInt ≤ 10) ∧ (0 ≤ (u4_ 1).toInt ∧ (u4_ 1).toInt ≤ 10) ∧ ((u4_ 0).toInt ≤ (u4_ 1).toInt) ∧ ((u4_ 1).toInt ≤ (v0 7).toInt) ∧ (zCl1 f3 (a4_ 0) (u4_ 0).toInt (u4_ 1).toInt)) (fun ls u4_ w4_ => F0 m 4 ls []) 0 0 ?_ (fun hJ4 => ?_)
  · skip
    intro H locs ls u4_ w4_ a4_ b4_ hc hJ4
    obtain ⟨hP, hD, hS, hl, ha4_0, b_, b_, b_, b_, hI4_2⟩ := hc
    refine lv_iload_n hx hb dX10_closeRanks_4 rfl (lv_at hl 2 rfl) ?_
    refine lv_aload_n hx hb dX10_closeRanks_5 rfl (lv_at hl 0 rfl) ?_
    refine va_get (D := (dC, dI)) (ci := 10) (v := .int (v0 7)) (C := RX10) (T := TX10) (N := 8) hx hb hG zuX10 hown hK hP 0 rfl rfl 7 (by decide) (hG _ zv196) (fun _ h9 => h9) rfl dX10_closeRanks_6 ?_
    refine lv_icmp_ge (tgt := 38) hx hb dX10_closeRanks_9 (by decide) (fun c_ => ?_) (fun c_ => ?_)
    · skip
      have b_ := zT_ge rfl rfl c_
      refine lv_iconst (v := 0) hx hb dX10_closeRanks_38 (by decide) ?_
      refine lv_istore_n (lv' := [(2, .int 0), (0, .ref h0), (1, .int (u4_ 0))]) hx hb dX10_closeRanks_39 rfl hl (by decide) rfl (fun ls hl => ?_)
      refine lv_iconst (v := 0) hx hb dX10_closeRanks_40 (by decide) ?_
      refine lv_istore_n (lv' := [(3, .int 0), (2, .int 0), (0, .ref h0), (1, .int (u4_ 0))]) hx hb dX10_closeRanks_41 rfl hl (by decide) rfl (fun ls hl => ?_)
      refine zcutL (fun u42_ => (10 - (u42_ 1).toInt).toNat) (fun H locs ls u42_ w42_ a42_ b42_ => va_P (dC, dI) vwCl [(h0, .inr (10, mX10 h1 h2 h3 h4 h5 h6 v0)), (h3, zi k3 10 (a4_ 0)), (h2, zi k2 10 (a42_ 0)), (h1, .inl (k1, 10, .inr (.inl (b42_ 0))))] H ∧ va_D A [(h0, .inr (10, mX10 h1 h2 h3 h4 h5 h6 v0)), (h3, zi k3 10 (a4_ 0)), (h2, zi k2 10 (a42_ 0)), (h1, .inl (k1, 10, .inr (.inl (b42_ 0))))] ∧ va_S A s.heap H locs ∧ lv_has ls 5 [(0, .ref h0), (1, .int (u4_ 0)), (2, .int (u42_ 0)), (3, .int (u42_ 1))] ∧ zA 0 9 (a42_ 0) ∧ (0 ≤ (u42_ 0).toInt ∧ (u42_ 0).toInt ≤ 10) ∧ (0 ≤ (u42_ 1).toInt ∧ (u42_ 1).toInt ≤ 10) ∧ ((u42_ 0).toInt ≤ (u42_ 1).toInt) ∧ ((u42_ 1).toInt ≤ (v0 7).toInt) ∧ (zCl1 f3 (a4_ 0) (u4_ 0).toInt (v0 7).toInt) ∧ (zCl2 (a4_ 0) f1 (b42_ 0) f2 (a42_ 0) (u42_ 0).toInt (u42_ 1).toInt)) (fun ls u42_ w42_ => F0 m 42 ls []) 0 0 ?_ (fun hJ42 => ?_)
      · skip
        intro H locs ls u42_ w42_ a42_ b42_ hc hJ42
        obtain ⟨hP, hD, hS, hl, ha42_0, b_, b_, b_, b_, hI42_2, hI42_3⟩ := hc
        refine lv_iload_n hx hb dX10_closeRanks_42 rfl (lv_at hl 3 rfl) ?_
        refine lv_aload_n hx hb dX10_closeRanks_43 rfl (lv_at hl 0 rfl) ?_
        refine va_get (D := (dC, dI)) (ci := 10) (v := .int (v0 7)) (C := RX10) (T := TX10) (N := 8) hx hb hG zuX10 hown hK hP 0 rfl rfl 7 (by decide) (hG _ zv196) (fun _ h9 => h9) rfl dX10_closeRanks_44 ?_
        refine lv_icmp_ge (tgt := 98) hx hb dX10_closeRanks_47 (by decide) (fun c_ => ?_) (fun c_ => ?_)
        · skip
          have b_ := zT_ge rfl rfl c_
          refine lv_aload_n hx hb dX10_closeRanks_98 rfl (lv_at hl 0 rfl) ?_
          refine va_get (D := (dC, dI)) (ci := 10) (v := .ref h3) (C := RX10) (T := TX10) (N := 8) hx hb hG zuX10 hown hK hP 0 rfl rfl 3 (by decide) (hG _ zv192) (fun _ h9 => h9) rfl dX10_closeRanks_99 ?_
          refine lv_iconst (v := 0) hx hb dX10_closeRanks_102 (by decide) ?_
          have hPc := hP.sub (ws' := [(h3, zi k3 10 (a4_ 0))]) [1] rfl
          have hDc := hD.sub (ws' := [(h3, zi k3 10 (a4_ 0))]) [1] (by decide) rfl
          have hKc := hK.sub (tys' := [(k3, .int)]) [0] rfl
          have hFc := va_free (wc := [(h3, zi k3 10 (a4_ 0))]) hD hS hA [1] rfl
          refine va_callv (va_runS (As := [.ref h3, .int 0]) (rest := []) ⟨hx, hb, hml, hown, hG⟩ (sJ7_fill_53178_5 l dC dI adK adV h3 k3 H.size (a4_ 0) 0 ha4_0 ⟨show ((-1) : Int) ≤ (0 : Int32).toInt from by decide, show (0 : Int32).toInt ≤ (9 : Int) from by decide⟩) (va_cwS 2 hG (zgS zv825 zv471 zv141 zv472) rfl rfl rfl (by decide +kernel) ⟨Nat.le_of_ble_eq_true rfl, Nat.le_of_ble_eq_true rfl⟩) ⟨zPc_blind, zPc_pre hPc hKc hDc hE hS hFc hZ⟩ rfl rfl hl.1 rfl (lv_room (Nat.le_of_ble_eq_true rfl)) dX10_closeRanks_103 ⟨Nat.le_of_ble_eq_true rfl, Nat.le_of_ble_eq_true rfl⟩) hS (fun q _ h => hFc q h) hFc (fun u103_ t H1 locs ht hvm hw hB hz1 hk1 hS => ?_)
          obtain ⟨w103_, a103_, b103_, ha103_0, hB103_0, hP1, hK1, hD1⟩ := hB
          have hB103_0 : ∀ j : Nat, (j : Int) < 10 → (a103_ 0) j = (0 : Int32) := hB103_0
          rw [ht] at hP1
          obtain ⟨hP, hD⟩ := va_join (wr := [(h0, .inr (10, mX10 h1 h2 h3 h4 h5 h6 v0)), (h2, zi k2 10 (a42_ 0)), (h1, .inl (k1, 10, .inr (.inl (b42_ 0))))]) (w1 := [(h3, zi k3 10 (a103_ 0))]) hP hD [1] [0, 2, 3] rfl rfl (by decide) (by decide) hk1 hFc hP1 hD1
          have hP : va_P (dC, dI) vwCl [(h0, .inr (10, mX10 h1 h2 h3 h4 h5 h6 v0)), (h3, zi k3 10 (a103_ 0)), (h2, zi k2 10 (a42_ 0)), (h1, .inl (k1, 10, .inr (.inl (b42_ 0))))] H1 := hP.sub [0, 3, 1, 2] rfl
          have hD : va_D A [(h0, .inr (10, mX10 h1 h2 h3 h4 h5 h6 v0)), (h3, zi k3 10 (a103_ 0)), (h2, zi k2 10 (a42_ 0)), (h1, .inl (k1, 10, .inr (.inl (b42_ 0))))] := hD.sub [0, 3, 1, 2] (by decide) rfl
          generalize H1 = H at hP hS ⊢
          clear hz1
          refine lv_aload_n hx hb dX10_closeRanks_106 rfl (lv_at hl 0 rfl) ?_
          refine lv_iload_n hx hb dX10_closeRanks_107 rfl (lv_at hl 1 rfl) ?_
          refine va_put (D := (dC, dI)) (ci := 10) (v := .int (u4_ 0)) (ty := .int) (C := RX10) (T := TX10) (N := 8) hx hb hG zuX10 tyX10 tyX10_ok nmX10 hown hK hP hD hS 0 rfl rfl 7 (by decide) (hG _ zv196) (fun _ h9 => h9) rfl (by decide +kernel) rfl rfl (Nat.le_of_ble_eq_true rfl) dX10_closeRanks_108 (fun H locs hP hD hS => ?_)
          have hP : va_P (dC, dI) vwCl [(h0, .inr (10, mX10 h1 h2 h3 h4 h5 h6 (upd v0 7 (u4_ 0)))), (h3, zi k3 10 (a103_ 0)), (h2, zi k2 10 (a42_ 0)), (h1, .inl (k1, 10, .inr (.inl (b42_ 0))))] H := hP
          have hD : va_D A [(h0, .inr (10, mX10 h1 h2 h3 h4 h5 h6 (upd v0 7 (u4_ 0)))), (h3, zi k3 10 (a103_ 0)), (h2, zi k2 10 (a42_ 0)), (h1, .inl (k1, 10, .inr (.inl (b42_ 0))))] := hD
          refine W.widen (k := 0) (n := 0) (by decide) (by decide) ?_
          have hpost : (0 ≤ (u4_ 0).toInt ∧ (u4_ 0).toInt ≤ 10) := (by first | with_reducible assumption | exact ⟨by omega, by omega⟩)
          have hP9 : va_P (dC, dI) vwCl [(h0, .inr (10, mX10 h1 h2 h3 h4 h5 h6 (upd v0 7 (u4_ 0)))), (h3, zi k3 10 (a103_ 0)), (h2, zi k2 10 (a42_ 0)), (h1, .inl (k1, 10, .inr (.inl (b42_ 0))))] H := hP
          have hD9 : va_D A [(h0, .inr (10, mX10 h1 h2 h3 h4 h5 h6 (upd v0 7 (u4_ 0)))), (h3, zi k3 10 (a103_ 0)), (h2, zi k2 10 (a42_ 0)), (h1, .inl (k1, 10, .inr (.inl (b42_ 0))))] := hD
          have hB0 : zClo f3 f1 (b42_ 0) f2 (a42_ 0) (v0 7).toInt (u4_ 0).toInt := by exact ⟨_, _, hI42_2, zCl2_e hI42_3 (by omega)⟩
          have hB1 : ∀ j : Nat, (j : Int) < 10 → (a103_ 0) j = 0 := by exact hB103_0
          exact W.vret hx hb hr (fun t ht hW => ⟨⟨(fun i => ([(u4_ 0)] : List (Int32)).getD i 0), rfl, hpost, (fun _ => 0), (fun i => ([(a103_ 0), (a42_ 0)] : List (Nat → Int32)).getD i (fun _ => 0)), (fun i => ([(b42_ 0)] : List (Nat → Int64)).getD i (fun _ => 0)), ha103_0, ha42_0, hB0, hB1, by rw [ht]; exact hP9, va_K.moved hW.alike hK, hD9⟩, hS.F ht⟩) hS.2.2 dX10_closeRanks_111
        · skip
          have b_ := zF_ge rfl rfl c_
          refine lv_aload_n hx hb dX10_closeRanks_50 rfl (lv_at hl 0 rfl) ?_
          refine va_get (D := (dC, dI)) (ci := 10) (v := .ref h3) (C := RX10) (T := TX10) (N := 8) hx hb hG zuX10 hown hK hP 0 rfl rfl 3 (by decide) (hG _ zv192) (fun _ h9 => h9) rfl dX10_closeRanks_51 ?_
          refine lv_aload_n hx hb dX10_closeRanks_54 rfl (lv_at hl 0 rfl) ?_
          refine va_get (D := (dC, dI)) (ci := 10) (v := .ref h2) (C := RX10) (T := TX10) (N := 8) hx hb hG zuX10 hown hK hP 0 rfl rfl 2 (by decide) (hG _ zv191) (fun _ h9 => h9) rfl dX10_closeRanks_55 ?_
          refine lv_iload_n hx hb dX10_closeRanks_58 rfl (lv_at hl 3 rfl) ?_
          refine va_iald hx hb hK hP 2 1 rfl rfl (zin_lit ⟨by omega, by omega⟩) dX10_closeRanks_59 ?_
          refine lv_topi (fun z59 e_z59 => ?_)
          have b_ : 0 ≤ z59.toInt ∧ z59.toInt ≤ 9 := by rw [e_z59]; exact ha42_0 _
          refine va_iald hx hb hK hP 1 0 rfl rfl (zin_lit ⟨by omega, by omega⟩) dX10_closeRanks_60 ?_
          refine lv_topi (fun z60 e_z60 => ?_)
          have b_ : (-1) ≤ z60.toInt ∧ z60.toInt ≤ 9 := by rw [e_z60]; exact ha4_0 _
          refine lv_istore (lv' := [(4, .int z60), (0, .ref h0), (1, .int (u4_ 0)), (2, .int (u42_ 0)), (3, .int (u42_ 1))]) hx hb dX10_closeRanks_61 hl (by decide) rfl (fun ls hl => ?_)
          refine lv_iload hx hb dX10_closeRanks_63 (lv_at hl 0 rfl) ?_
          refine lv_iconst (v := (-1)) hx hb dX10_closeRanks_65 (by decide) ?_
          refine lv_icmp_eq (tgt := 92) hx hb dX10_closeRanks_66 (by decide) (fun c_ => ?_) (fun c_ => ?_)
          · skip
            have b_ := zT_eq rfl zk_m1 c_
            obtain ⟨z92, e_z92⟩ : ∃ z : Int32, z = (u42_ 1) + Int32.ofInt 1 := ⟨_, rfl⟩
            have b_ := zadd (x := (u42_ 1)) (y := Int32.ofInt 1) rfl (show (Int32.ofInt 1).toInt = 1 from by decide) e_z92 (by omega) (by omega)
            refine lv_iinc (v := z92) (lv' := [(3, .int z92), (4, .int z60), (0, .ref h0), (1, .int (u4_ 0)), (2, .int (u42_ 0))]) hx hb dX10_closeRanks_92 hl (k := 4) rfl e_z92.symm (by decide) rfl (fun ls hl => ?_)
            refine lv_goto (tgt := 42) hx hb dX10_closeRanks_95 (by decide) ?_
            have hc : va_P (dC, dI) vwCl [(h0, .inr (10, mX10 h1 h2 h3 h4 h5 h6 v0)), (h3, zi k3 10 (a4_ 0)), (h2, zi k2 10 (a42_ 0)), (h1, .inl (k1, 10, .inr (.inl (b42_ 0))))] H ∧ va_D A [(h0, .inr (10, mX10 h1 h2 h3 h4 h5 h6 v0)), (h3, zi k3 10 (a4_ 0)), (h2, zi k2 10 (a42_ 0)), (h1, .inl (k1, 10, .inr (.inl (b42_ 0))))] ∧ va_S A s.heap H locs ∧ lv_has ls 5 [(0, .ref h0), (1, .int (u4_ 0)), (2, .int (u42_ 0)), (3, .int z92)] ∧ zA 0 9 (a42_ 0) ∧ (0 ≤ (u42_ 0).toInt ∧ (u42_ 0).toInt ≤ 10) ∧ (0 ≤ z92.toInt ∧ z92.toInt ≤ 10) ∧ ((u42_ 0).toInt ≤ z92.toInt) ∧ (z92.toInt ≤ (v0 7).toInt) ∧ (zCl1 f3 (a4_ 0) (u4_ 0).toInt (v0 7).toInt) ∧ (zCl2 (a4_ 0) f1 (b42_ 0) f2 (a42_ 0) (u42_ 0).toInt z92.toInt) := ⟨hP, hD, hS, lv_sub hl [2, 3, 4, 0] rfl, ha42_0, (by first | with_reducible assumption | exact ⟨by omega, by omega⟩), (by first | with_reducible assumption | exact ⟨by omega, by omega⟩), by omega, by omega, by first | assumption | exact zCl1_e hI4_2 rfl (by omega), by first | exact zCl2_0 (by decide) (by decide) | exact zCl2_a hI42_3 e_z59 e_z60 (by omega) (by omega) (by omega) | (rw [e_f_80, e_f_88]; exact zCl2_b hI42_3 e_z59 e_z60 e_y_79 (by omega) (by omega) (by omega) (by omega))⟩
            exact hJ42 H locs ls (fun i => ([(u42_ 0), z92] : List (Int32)).getD i 0) (fun _ => 0) (fun i => ([(a42_ 0)] : List (Nat → Int32)).getD i (fun _ => 0)) (fun i => ([(b42_ 0)] : List (Nat → Int64)).getD i (fun _ => 0)) hc (show (10 - z92.toInt).toNat < (10 - (u42_ 1).toInt).toNat from by omega)
          · skip
            have b_ := zF_eq rfl zk_m1 c_
            refine lv_aload_n hx hb dX10_closeRanks_69 rfl (lv_at hl 1 rfl) ?_
            refine va_get (D := (dC, dI)) (ci := 10) (v := .ref h1) (C := RX10) (T := TX10) (N := 8) hx hb hG zuX10 hown hK hP 0 rfl rfl 1 (by decide) (hG _ zv190) (fun _ h9 => h9) rfl dX10_closeRanks_70 ?_
            refine lv_iload_n hx hb dX10_closeRanks_73 rfl (lv_at hl 3 rfl) ?_
            refine lv_aload_n hx hb dX10_closeRanks_74 rfl (lv_at hl 1 rfl) ?_
            refine va_get (D := (dC, dI)) (ci := 10) (v := .ref h1) (C := RX10) (T := TX10) (N := 8) hx hb hG zuX10 hown hK hP 0 rfl rfl 1 (by decide) (hG _ zv190) (fun _ h9 => h9) rfl dX10_closeRanks_75 ?_
            refine lv_iload_n hx hb dX10_closeRanks_78 rfl (lv_at hl 4 rfl) ?_
            refine va_lald hx hb hK hP 3 2 rfl rfl (zin_lit ⟨by omega, by omega⟩) dX10_closeRanks_79 ?_
            refine lv_topl (fun y_79 e_y_79 => ?_)
            refine va_last hx hb hK hP hD hS 3 2 rfl rfl (zin_lit ⟨by omega, by omega⟩) dX10_closeRanks_80 (fun H locs hP hD hS => ?_)
            obtain ⟨f_80, e_f_80⟩ : ∃ z : Nat → Int64, z = vp_updL (b42_ 0) ((u42_ 0) : Int32).toNatClampNeg y_79 := ⟨_, rfl⟩
            have hP : va_P (dC, dI) vwCl [(h0, .inr (10, mX10 h1 h2 h3 h4 h5 h6 v0)), (h3, zi k3 10 (a4_ 0)), (h2, zi k2 10 (a42_ 0)), (h1, .inl (k1, 10, .inr (.inl f_80)))] H := by rw [e_f_80]; exact hP
            have hD : va_D A [(h0, .inr (10, mX10 h1 h2 h3 h4 h5 h6 v0)), (h3, zi k3 10 (a4_ 0)), (h2, zi k2 10 (a42_ 0)), (h1, .inl (k1, 10, .inr (.inl f_80)))] := by rw [e_f_80]; exact hD
            refine lv_aload_n hx hb dX10_closeRanks_81 rfl (lv_at hl 1 rfl) ?_
            refine va_get (D := (dC, dI)) (ci := 10) (v := .ref h2) (C := RX10) (T := TX10) (N := 8) hx hb hG zuX10 hown hK hP 0 rfl rfl 2 (by decide) (hG _ zv191) (fun _ h9 => h9) rfl dX10_closeRanks_82 ?_
            refine lv_iload_n hx hb dX10_closeRanks_85 rfl (lv_at hl 3 rfl) ?_
            refine lv_iload hx hb dX10_closeRanks_86 (lv_at hl 0 rfl) ?_
            refine va_iast hx hb hK hP hD hS 2 1 rfl rfl (zin_lit ⟨by omega, by omega⟩) dX10_closeRanks_88 (fun H locs hP hD hS => ?_)
            obtain ⟨f_88, e_f_88⟩ : ∃ z : Nat → Int32, z = upd (a42_ 0) ((u42_ 0) : Int32).toNatClampNeg z60 := ⟨_, rfl⟩
            have hP : va_P (dC, dI) vwCl [(h0, .inr (10, mX10 h1 h2 h3 h4 h5 h6 v0)), (h3, zi k3 10 (a4_ 0)), (h2, zi k2 10 f_88), (h1, .inl (k1, 10, .inr (.inl f_80)))] H := by rw [e_f_88]; exact hP
            have hD : va_D A [(h0, .inr (10, mX10 h1 h2 h3 h4 h5 h6 v0)), (h3, zi k3 10 (a4_ 0)), (h2, zi k2 10 f_88), (h1, .inl (k1, 10, .inr (.inl f_80)))] := by rw [e_f_88]; exact hD
            have hf_88 : zA 0 9 f_88 := by rw [e_f_88]; exact zA_upd ha42_0 (show 0 ≤ (z60 : Int32).toInt from by omega) (show (z60 : Int32).toInt ≤ 9 from by omega)
            obtain ⟨z89, e_z89⟩ : ∃ z : Int32, z = (u42_ 0) + Int32.ofInt 1 := ⟨_, rfl⟩
            have b_ := zadd (x := (u42_ 0)) (y := Int32.ofInt 1) rfl (show (Int32.ofInt 1).toInt = 1 from by decide) e_z89 (by omega) (by omega)
            refine lv_iinc (v := z89) (lv' := [(2, .int z89), (4, .int z60), (0, .ref h0), (1, .int (u4_ 0)), (3, .int (u42_ 1))]) hx hb dX10_closeRanks_89 hl (k := 3) rfl e_z89.symm (by decide) rfl (fun ls hl => ?_)
            obtain ⟨z92, e_z92⟩ : ∃ z : Int32, z = (u42_ 1) + Int32.ofInt 1 := ⟨_, rfl⟩
            have b_ := zadd (x := (u42_ 1)) (y := Int32.ofInt 1) rfl (show (Int32.ofInt 1).toInt = 1 from by decide) e_z92 (by omega) (by omega)
            refine lv_iinc (v := z92) (lv' := [(3, .int z92), (2, .int z89), (4, .int z60), (0, .ref h0), (1, .int (u4_ 0))]) hx hb dX10_closeRanks_92 hl (k := 4) rfl e_z92.symm (by decide) rfl (fun ls hl => ?_)
            refine lv_goto (tgt := 42) hx hb dX10_closeRanks_95 (by decide) ?_
            have hc : va_P (dC, dI) vwCl [(h0, .inr (10, mX10 h1 h2 h3 h4 h5 h6 v0)), (h3, zi k3 10 (a4_ 0)), (h2, zi k2 10 f_88), (h1, .inl (k1, 10, .inr (.inl f_80)))] H ∧ va_D A [(h0, .inr (10, mX10 h1 h2 h3 h4 h5 h6 v0)), (h3, zi k3 10 (a4_ 0)), (h2, zi k2 10 f_88), (h1, .inl (k1, 10, .inr (.inl f_80)))] ∧ va_S A s.heap H locs ∧ lv_has ls 5 [(0, .ref h0), (1, .int (u4_ 0)), (2, .int z89), (3, .int z92)] ∧ zA 0 9 f_88 ∧ (0 ≤ z89.toInt ∧ z89.toInt ≤ 10) ∧ (0 ≤ z92.toInt ∧ z92.toInt ≤ 10) ∧ (z89.toInt ≤ z92.toInt) ∧ (z92.toInt ≤ (v0 7).toInt) ∧ (zCl1 f3 (a4_ 0) (u4_ 0).toInt (v0 7).toInt) ∧ (zCl2 (a4_ 0) f1 f_80 f2 f_88 z89.toInt z92.toInt) := ⟨hP, hD, hS, lv_sub hl [3, 4, 1, 0] rfl, hf_88, (by first | with_reducible assumption | exact ⟨by omega, by omega⟩), (by first | with_reducible assumption | exact ⟨by omega, by omega⟩), by omega, by omega, by first | assumption | exact zCl1_e hI4_2 rfl (by omega), by first | exact zCl2_0 (by decide) (by decide) | exact zCl2_a hI42_3 e_z59 e_z60 (by omega) (by omega) (by omega) | (rw [e_f_80, e_f_88]; exact zCl2_b hI42_3 e_z59 e_z60 e_y_79 (by omega) (by omega) (by omega) (by omega))⟩
            exact hJ42 H locs ls (fun i => ([z89, z92] : List (Int32)).getD i 0) (fun _ => 0) (fun i => ([f_88] : List (Nat → Int32)).getD i (fun _ => 0)) (fun i => ([f_80] : List (Nat → Int64)).getD i (fun _ => 0)) hc (show (10 - z92.toInt).toNat < (10 - (u42_ 1).toInt).toNat from by omega)
      · skip
        have hc : va_P (dC, dI) vwCl [(h0, .inr (10, mX10 h1 h2 h3 h4 h5 h6 v0)), (h3, zi k3 10 (a4_ 0)), (h2, zi k2 10 f2), (h1, .inl (k1, 10, .inr (.inl f1)))] H ∧ va_D A [(h0, .inr (10, mX10 h1 h2 h3 h4 h5 h6 v0)), (h3, zi k3 10 (a4_ 0)), (h2, zi k2 10 f2), (h1, .inl (k1, 10, .inr (.inl f1)))] ∧ va_S A s.heap H locs ∧ lv_has ls 5 [(0, .ref h0), (1, .int (u4_ 0)), (2, .int 0), (3, .int 0)] ∧ zA 0 9 f2 ∧ (0 ≤ (0 : Int32).toInt ∧ (0 : Int32).toInt ≤ 10) ∧ (0 ≤ (0 : Int32).toInt ∧ (0 : Int32).toInt ≤ 10) ∧ ((0 : Int32).toInt ≤ (0 : Int32).toInt) ∧ ((0 : Int32).toInt ≤ (v0 7).toInt) ∧ (zCl1 f3 (a4_ 0) (u4_ 0).toInt (v0 7).toInt) ∧ (zCl2 (a4_ 0) f1 f1 f2 f2 (0 : Int32).toInt (0 : Int32).toInt) := ⟨hP, hD, hS, lv_sub hl [2, 3, 1, 0] rfl, hf2, (by first | with_reducible assumption | exact ⟨by omega, by omega⟩), (by first | with_reducible assumption | exact ⟨by omega, by omega⟩), by omega, by omega, by first | assumption | exact zCl1_e hI4_2 rfl (by omega), by first | exact zCl2_0 (by decide) (by decide) | exact zCl2_a hI42_3 e_z59 e_z60 (by omega) (by omega) (by omega) | (rw [e_f_80, e_f_88]; exact zCl2_b hI42_3 e_z59 e_z60 e_y_79 (by omega) (by omega) (by omega) (by omega))⟩
        exact hJ42 H locs ls (fun i => ([0, 0] : List (Int32)).getD i 0) (fun _ => 0) (fun i => ([f2] : List (Nat → Int32)).getD i (fun _ => 0)) (fun i => ([f1] : List (Nat → Int64)).getD i (fun _ => 0)) hc
    · skip
      have b_ := zF_ge rfl rfl c_
      refine lv_aload_n hx hb dX10_closeRanks_12 rfl (lv_at hl 0 rfl) ?_
      refine va_get (D := (dC, dI)) (ci := 10) (v := .ref h3) (C := RX10) (T := TX10) (N := 8) hx hb hG zuX10 hown hK hP 0 rfl rfl 3 (by decide) (hG _ zv192) (fun _ h9 => h9) rfl dX10_closeRanks_13 ?_
      refine lv_iload_n hx hb dX10_closeRanks_16 rfl (lv_at hl 2 rfl) ?_
      refine va_iald hx hb hK hP 1 0 rfl rfl (zin_lit ⟨by omega, by omega⟩) dX10_closeRanks_17 ?_
      refine lv_topi (fun z17 e_z17 => ?_)
      have b_ : (-1) ≤ z17.toInt ∧ z17.toInt ≤ 9 := by rw [e_z17]; exact ha4_0 _
      refine lv_iconst (v := (-1)) hx hb dX10_closeRanks_18 (by decide) ?_
      refine lv_icmp_eq (tgt := 32) hx hb dX10_closeRanks_19 (by decide) (fun c_ => ?_) (fun c_ => ?_)
      · skip
        have b_ := zT_eq rfl zk_m1 c_
        obtain ⟨z32, e_z32⟩ : ∃ z : Int32, z = (u4_ 1) + Int32.ofInt 1 := ⟨_, rfl⟩
        have b_ := zadd (x := (u4_ 1)) (y := Int32.ofInt 1) rfl (show (Int32.ofInt 1).toInt = 1 from by decide) e_z32 (by omega) (by omega)
        refine lv_iinc (v := z32) (lv' := [(2, .int z32), (0, .ref h0), (1, .int (u4_ 0))]) hx hb dX10_closeRanks_32 hl (k := 2) rfl e_z32.symm (by decide) rfl (fun ls hl => ?_)
        refine lv_goto (tgt := 4) hx hb dX10_closeRanks_35 (by decide) ?_
        have hc : va_P (dC, dI) vwCl [(h0, .inr (10, mX10 h1 h2 h3 h4 h5 h6 v0)), (h3, zi k3 10 (a4_ 0)), (h2, zi k2 10 f2), (h1, .inl (k1, 10, .inr (.inl f1)))] H ∧ va_D A [(h0, .inr (10, mX10 h1 h2 h3 h4 h5 h6 v0)), (h3, zi k3 10 (a4_ 0)), (h2, zi k2 10 f2), (h1, .inl (k1, 10, .inr (.inl f1)))] ∧ va_S A s.heap H locs ∧ lv_has ls 5 [(0, .ref h0), (1, .int (u4_ 0)), (2, .int z32)] ∧ zA (-1) 9 (a4_ 0) ∧ (0 ≤ (u4_ 0).toInt ∧ (u4_ 0).toInt ≤ 10) ∧ (0 ≤ z32.toInt ∧ z32.toInt ≤ 10) ∧ ((u4_ 0).toInt ≤ z32.toInt) ∧ (z32.toInt ≤ (v0 7).toInt) ∧ (zCl1 f3 (a4_ 0) (u4_ 0).toInt z32.toInt) := ⟨hP, hD, hS, lv_sub hl [1, 2, 0] rfl, ha4_0, (by first | with_reducible assumption | exact ⟨by omega, by omega⟩), (by first | with_reducible assumption | exact ⟨by omega, by omega⟩), by omega, by omega, by first | exact zCl1_0 (by decide) (by decide) | exact zCl1_a hI4_2 e_z17 (by omega) (by omega) (by omega) | (rw [e_f_28]; exact zCl1_b hI4_2 e_z17 (by omega) rfl (by omega) (by omega) (by omega))⟩
        exact hJ4 H locs ls (fun i => ([(u4_ 0), z32] : List (Int32)).getD i 0) (fun _ => 0) (fun i => ([(a4_ 0)] : List (Nat → Int32)).getD i (fun _ => 0)) (fun _ => (fun _ => 0)) hc (show (10 - z32.toInt).toNat < (10 - (u4_ 1).toInt).toNat from by omega)
      · skip
        have b_ := zF_eq rfl zk_m1 c_
        refine lv_aload_n hx hb dX10_closeRanks_22 rfl (lv_at hl 0 rfl) ?_
        refine va_get (D := (dC, dI)) (ci := 10) (v := .ref h3) (C := RX10) (T := TX10) (N := 8) hx hb hG zuX10 hown hK hP 0 rfl rfl 3 (by decide) (hG _ zv192) (fun _ h9 => h9) rfl dX10_closeRanks_23 ?_
        refine lv_iload_n hx hb dX10_closeRanks_26 rfl (lv_at hl 2 rfl) ?_
        refine lv_iload_n hx hb dX10_closeRanks_27 rfl (lv_at hl 1 rfl) ?_
        refine va_iast hx hb hK hP hD hS 1 0 rfl rfl (zin_lit ⟨by omega, by omega⟩) dX10_closeRanks_28 (fun H locs hP hD hS => ?_)
        obtain ⟨f_28, e_f_28⟩ : ∃ z : Nat → Int32, z = upd (a4_ 0) ((u4_ 1) : Int32).toNatClampNeg (u4_ 0) := ⟨_, rfl⟩
        have hP : va_P (dC, dI) vwCl [(h0, .inr (10, mX10 h1 h2 h3 h4 h5 h6 v0)), (h3, zi k3 10 f_28), (h2, zi k2 10 f2), (h1, .inl (k1, 10, .inr (.inl f1)))] H := by rw [e_f_28]; exact hP
        have hD : va_D A [(h0, .inr (10, mX10 h1 h2 h3 h4 h5 h6 v0)), (h3, zi k3 10 f_28), (h2, zi k2 10 f2), (h1, .inl (k1, 10, .inr (.inl f1)))] := by rw [e_f_28]; exact hD
        have hf_28 : zA (-1) 9 f_28 := by rw [e_f_28]; exact zA_upd ha4_0 (show (-1) ≤ ((u4_ 0) : Int32).toInt from by omega) (show ((u4_ 0) : Int32).toInt ≤ 9 from by omega)
        obtain ⟨z29, e_z29⟩ : ∃ z : Int32, z = (u4_ 0) + Int32.ofInt 1 := ⟨_, rfl⟩
        have b_ := zadd (x := (u4_ 0)) (y := Int32.ofInt 1) rfl (show (Int32.ofInt 1).toInt = 1 from by decide) e_z29 (by omega) (by omega)
        refine lv_iinc (v := z29) (lv' := [(1, .int z29), (0, .ref h0), (2, .int (u4_ 1))]) hx hb dX10_closeRanks_29 hl (k := 1) rfl e_z29.symm (by decide) rfl (fun ls hl => ?_)
        obtain ⟨z32, e_z32⟩ : ∃ z : Int32, z = (u4_ 1) + Int32.ofInt 1 := ⟨_, rfl⟩
        have b_ := zadd (x := (u4_ 1)) (y := Int32.ofInt 1) rfl (show (Int32.ofInt 1).toInt = 1 from by decide) e_z32 (by omega) (by omega)
        refine lv_iinc (v := z32) (lv' := [(2, .int z32), (1, .int z29), (0, .ref h0)]) hx hb dX10_closeRanks_32 hl (k := 2) rfl e_z32.symm (by decide) rfl (fun ls hl => ?_)
        refine lv_goto (tgt := 4) hx hb dX10_closeRanks_35 (by decide) ?_
        have hc : va_P (dC, dI) vwCl [(h0, .inr (10, mX10 h1 h2 h3 h4 h5 h6 v0)), (h3, zi k3 10 f_28), (h2, zi k2 10 f2), (h1, .inl (k1, 10, .inr (.inl f1)))] H ∧ va_D A [(h0, .inr (10, mX10 h1 h2 h3 h4 h5 h6 v0)), (h3, zi k3 10 f_28), (h2, zi k2 10 f2), (h1, .inl (k1, 10, .inr (.inl f1)))] ∧ va_S A s.heap H locs ∧ lv_has ls 5 [(0, .ref h0), (1, .int z29), (2, .int z32)] ∧ zA (-1) 9 f_28 ∧ (0 ≤ z29.toInt ∧ z29.toInt ≤ 10) ∧ (0 ≤ z32.toInt ∧ z32.toInt ≤ 10) ∧ (z29.toInt ≤ z32.toInt) ∧ (z32.toInt ≤ (v0 7).toInt) ∧ (zCl1 f3 f_28 z29.toInt z32.toInt) := ⟨hP, hD, hS, lv_sub hl [2, 1, 0] rfl, hf_28, (by first | with_reducible assumption | exact ⟨by omega, by omega⟩), (by first | with_reducible assumption | exact ⟨by omega, by omega⟩), by omega, by omega, by first | exact zCl1_0 (by decide) (by decide) | exact zCl1_a hI4_2 e_z17 (by omega) (by omega) (by omega) | (rw [e_f_28]; exact zCl1_b hI4_2 e_z17 (by omega) rfl (by omega) (by omega) (by omega))⟩
        exact hJ4 H locs ls (fun i => ([z29, z32] : List (Int32)).getD i 0) (fun _ => 0) (fun i => ([f_28] : List (Nat → Int32)).getD i (fun _ => 0)) (fun _ => (fun _ => 0)) hc (show (10 - z32.toInt).toNat < (10 - (u4_ 1).toInt).toNat from by omega)
  · skip
    have hc : va_P (dC, dI) vwCl [(h0, .inr (10, mX10 h1 h2 h3 h4 h5 h6 v0)), (h3, zi k3 10 f3), (h2, zi k2 10 f2), (h1, .inl (k1, 10, .inr (.inl f1)))] s.heap ∧ va_D A [(h0, .inr (10, mX10 h1 h2 h3 h4 h5 h6 v0)), (h3, zi k3 10 f3), (h2, zi k2 10 f2), (h1, .inl (k1, 10, .inr (.inl f1)))] ∧ va_S A s.heap s.heap [] ∧ lv_has ls 5 [(0, .ref h0), (1, .int 0), (2, .int 0)] ∧ zA (-1) 9 f3 ∧ (0 ≤ (0 : Int32).toInt ∧ (0 : Int32).toInt ≤ 10) ∧ (0 ≤ (0 : Int32).toInt ∧ (0 : Int32).toInt ≤ 10) ∧ ((0 : Int32).toInt ≤ (0 : Int32).toInt) ∧ ((0 : Int32).toInt ≤ (v0 7).toInt) ∧ (zCl1 f3 f3 (0 : Int32).toInt (0 : Int32).toInt) := ⟨hP, hD, hS, lv_sub hl [2, 1, 0] rfl, hf3, (by first | with_reducible assumption | exact ⟨by omega, by omega⟩), (by first | with_reducible assumption | exact ⟨by omega, by omega⟩), by omega, by omega, by first | exact zCl1_0 (by decide) (by decide) | exact zCl1_a hI4_2 e_z17 (by omega) (by omega) (by omega) | (rw [e_f_28]; exact zCl1_b hI4_2 e_z17 (by omega) rfl (by omega) (by omega) (by omega))⟩
    exact hJ4 s.heap [] ls (fun i => ([0, 0] : List (Int32)).getD i 0) (fun _ => 0) (fun i => ([f3] : List (Nat → Int32)).getD i (fun _ => 0)) (fun _ => (fun _ => 0)) hc
set_option maxHeartbeats 8000000 in
set_option maxRecDepth 100000 in
theorem sX10_add_1 (l : Launch) (dC : Nat → ClassId) (dI : Nat → Nat → Nat) (adK adV : Nat → Nat) (h0 : Nat) (h1 : Nat) (h2 : Nat) (h3 : Nat) (h4 : Nat) (h5 : Nat) (h6 : Nat) (k1 : ClassId) (k2 : ClassId) (sz : Nat) (v0 : Nat → Int32) (f1 : Nat → Int64) (f2 : Nat → Int32) (y1 : Int64) (hv0 : zR rg_Words10 v0) (hf2 : zA 0 9 f2) : Met l yX10_add (zw yX10_add cX10_add 4 (some .int)) { frames := 1, cells := 0, slots := 0, locals := 100 } (zPc dC dI adK adV [.ref h0, .long y1] sz [(h0, .inr (10, mX10 h1 h2 h3 h4 h5 h6 v0)), (h1, .inl (k1, 10, .inr (.inl f1))), (h2, zi k2 10 f2)] [(k1, .long), (k2, .int)]) (va_Qi (fun (r : Int32) (u : Nat → Int32) => ((-1) ≤ r.toInt ∧ r.toInt ≤ 9) ∧ (1 ≤ (u 0).toInt ∧ (u 0).toInt ≤ 10) ∧ (r.toInt = -1 → (v0 0).toInt ≤ (v0 7).toInt ∧ (u 0).toInt = (v0 7).toInt) ∧ (r.toInt ≠ -1 → (v0 7).toInt < (v0 0).toInt ∧ (u 0).toInt = (v0 7).toInt + 1 ∧ r.toInt = (v0 7).toInt) ∧ (r.toInt = (u 1).toInt)) (fun (u : Nat → Int32) (t : State) => ∃ (ww : Nat → Int64) (aa : Nat → Nat → Int32) (bb : Nat → Nat → Int64), zA 0 9 (aa 0) ∧ ((u 1).toInt = -1 ∨ zIns f1 (bb 0) f2 (aa 0) (v0 7).toInt y1.toInt) ∧ ((u 1).toInt = -1 → ∀ j : Nat, (bb 0) j = f1 j ∧ (aa 0) j = f2 j) ∧ va_P (dC, dI) vwCl [(h0, .inr (10, mX10 h1 h2 h3 h4 h5 h6 (upd v0 7 (u 0)))), (h1, .inl (k1, 10, .inr (.inl (bb 0)))), (h2, zi k2 10 (aa 0))] t.heap ∧ va_K (dC, dI) vwCl [(k1, .long), (k2, .int)] t ∧ va_D (va_A [(h0, .inr (10, mX10 h1 h2 h3 h4 h5 h6 v0)), (h1, .inl (k1, 10, .inr (.inl f1))), (h2, zi k2 10 f2)] sz) [(h0, .inr (10, mX10 h1 h2 h3 h4 h5 h6 (upd v0 7 (u 0)))), (h1, .inl (k1, 10, .inr (.inl (bb 0)))), (h2, zi k2 10 (aa 0))]) (va_A [(h0, .inr (10, mX10 h1 h2 h3 h4 h5 h6 v0)), (h1, .inl (k1, 10, .inr (.inl f1))), (h2, zi k2 10 f2)] sz)) 0 0 (va_A [(h0, .inr (10, mX10 h1 h2 h3 h4 h5 h6 v0)), (h1, .inl (k1, 10, .inr (.inl f1))), (h2, zi k2 10 f2)] sz) := by
  refine Met.ofW (cc := cX10_add) (maxL := 4) (ret := (some .int)) (by decide) rfl ?_
  intro p e s m args below meth c s₁ B hml hv
  obtain ⟨rfl, hsz, hP, hK, hD0, hE, hZ⟩ := hv
  have hx := B.exec
  have hb := B.bytes
  have hr := B.returns
  have hG : ∀ w ∈ zG, w.before _ s = true := fun w h => atoms_spec (ws := (zw yX10_add cX10_add 4 (some .int))) B.pre w (List.mem_cons_of_mem _ h)
  have hown : s.vm.findClass RX10 = some m.cls := findClass_of_methodNamed B.named
  have hlocks := B.notSynchronized

  subst hsz
  have hD := hD0.self (sz := s.heap.size)
  generalize hAe : va_A [(h0, .inr (10, mX10 h1 h2 h3 h4 h5 h6 v0)), (h1, .inl (k1, 10, .inr (.inl f1))), (h2, zi k2 10 f2)] s.heap.size = A at hD hZ ⊢
  have hA : ∀ q : Nat, s.heap.size ≤ q → A q := fun q h => by rw [← hAe]; exact Or.inr h
  have hS : va_S A s.heap s.heap [] := va_S.rf
  have hl := lv_entry ([.ref h0, .long y1]) (n := 4) (Nat.le_of_ble_eq_true rfl)
  rw [lg_entry_eq]
  generalize (lg_sl ([.ref h0, .long y1]) ++ List.replicate (4 - (lg_sl ([.ref h0, .long y1])).length) Slot.unset).toArray = ls at hl ⊢
  have hl : lv_has ls 4 [(0, .ref h0), (1, .long y1)] := hl
  have b_ := zk_m1
  have b_ : 10 ≤ (v0 0).toInt ∧ (v0 0).toInt ≤ 10 := hv0 0
  have b_ : 0 ≤ (v0 7).toInt ∧ (v0 7).toInt ≤ 10 := hv0 7
  refine lv_aload_n hx hb dX10_add_0 rfl (lv_at hl 0 rfl) ?_
  refine va_get (D := (dC, dI)) (ci := 10) (v := .int (v0 7)) (C := RX10) (T := TX10) (N := 8) hx hb hG zuX10 hown hK hP 0 rfl rfl 7 (by decide) (hG _ zv196) (fun _ h9 => h9) rfl dX10_add_1 ?_
  refine lv_aload_n hx hb dX10_add_4 rfl (lv_at hl 0 rfl) ?_
  refine va_get (D := (dC, dI)) (ci := 10) (v := .int (v0 0)) (C := RX10) (T := TX10) (N := 8) hx hb hG zuX10 hown hK hP 0 rfl rfl 0 (by decide) (hG _ zv189) (fun _ h9 => h9) rfl dX10_add_5 ?_
  refine lv_icmp_lt (tgt := 13) hx hb dX10_add_8 (by decide) (fun c_ => ?_) (fun c_ => ?_)
  · skip
    have b_ := zT_lt rfl rfl c_
    refine lv_aload_n hx hb dX10_add_13 rfl (lv_at hl 0 rfl) ?_
    refine lv_lload_n hx hb dX10_add_14 rfl (lv_at hl 1 rfl) ?_
    have hPc := hP.sub (ws' := [(h0, .inr (10, mX10 h1 h2 h3 h4 h5 h6 v0)), (h1, .inl (k1, 10, .inr (.inl f1)))]) [0, 1] rfl
    have hDc := hD.sub (ws' := [(h0, .inr (10, mX10 h1 h2 h3 h4 h5 h6 v0)), (h1, .inl (k1, 10, .inr (.inl f1)))]) [0, 1] (by decide) rfl
    have hKc := hK.sub (tys' := [(k1, .long)]) [0] rfl
    have hFc := va_free (wc := [(h0, .inr (10, mX10 h1 h2 h3 h4 h5 h6 v0)), (h1, .inl (k1, 10, .inr (.inl f1)))]) hD hS hA [0, 1] rfl
    refine va_calli (va_runV (As := [.long y1]) (rest := []) ⟨hx, hb, hml, hown, hG⟩ (sX10_rankAhead_0 l dC dI adK adV h0 h1 h2 h3 h4 h5 h6 k1 s.heap.size v0 f1 y1 hv0) (cwV 1 hG (zgV zv743 zv744 zv745 zv131 zv746) rfl rfl rfl (by decide +kernel) ⟨Nat.le_of_ble_eq_true rfl, Nat.le_of_ble_eq_true rfl⟩) ⟨zPc_blind, va_recv hKc hPc (ci := 10) (q0 := 0) rfl rfl, zPc_pre hPc hKc hDc hE hS hFc hZ⟩ rfl rfl hl.1 rfl (lv_room (Nat.le_of_ble_eq_true rfl)) dX10_add_15 ⟨Nat.le_of_ble_eq_true rfl, Nat.le_of_ble_eq_true rfl⟩) hS (fun q _ h => hFc q h) hFc (fun r15_ u15_ t H1 locs ht hvm hw hB hz1 hk1 hS => ?_)
    replace hw : (0 ≤ r15_.toInt ∧ r15_.toInt ≤ 10) ∧ (r15_.toInt ≤ (v0 7).toInt) ∧ (zRk f1 (v0 7).toInt y1.toInt r15_.toInt r15_.toInt) := hw
    obtain ⟨b_, hX15_0, hX15_1⟩ := hw
    obtain ⟨w15_, a15_, b15_, hP1, hK1, hD1⟩ := hB
    rw [ht] at hP1
    obtain ⟨hP, hD⟩ := va_join (wr := [(h2, zi k2 10 f2)]) (w1 := [(h0, .inr (10, mX10 h1 h2 h3 h4 h5 h6 v0)), (h1, .inl (k1, 10, .inr (.inl f1)))]) hP hD [0, 1] [2] rfl rfl (by decide) (by decide) hk1 hFc hP1 hD1
    have hP : va_P (dC, dI) vwCl [(h0, .inr (10, mX10 h1 h2 h3 h4 h5 h6 v0)), (h1, .inl (k1, 10, .inr (.inl f1))), (h2, zi k2 10 f2)] H1 := hP.sub [1, 2, 0] rfl
    have hD : va_D A [(h0, .inr (10, mX10 h1 h2 h3 h4 h5 h6 v0)), (h1, .inl (k1, 10, .inr (.inl f1))), (h2, zi k2 10 f2)] := hD.sub [1, 2, 0] (by decide) rfl
    generalize H1 = H at hP hS ⊢
    clear hz1
    refine lv_istore_n (lv' := [(3, .int r15_), (0, .ref h0), (1, .long y1)]) hx hb dX10_add_18 rfl hl (by decide) rfl (fun ls hl => ?_)
    refine lv_aload_n hx hb dX10_add_19 rfl (lv_at hl 1 rfl) ?_
    refine va_get (D := (dC, dI)) (ci := 10) (v := .ref h1) (C := RX10) (T := TX10) (N := 8) hx hb hG zuX10 hown hK hP 0 rfl rfl 1 (by decide) (hG _ zv190) (fun _ h9 => h9) rfl dX10_add_20 ?_
    refine lv_iload_n hx hb dX10_add_23 rfl (lv_at hl 0 rfl) ?_
    refine lv_aload_n hx hb dX10_add_24 rfl (lv_at hl 1 rfl) ?_
    refine va_get (D := (dC, dI)) (ci := 10) (v := .ref h1) (C := RX10) (T := TX10) (N := 8) hx hb hG zuX10 hown hK hP 0 rfl rfl 1 (by decide) (hG _ zv190) (fun _ h9 => h9) rfl dX10_add_25 ?_
    refine lv_iload_n hx hb dX10_add_28 rfl (lv_at hl 0 rfl) ?_
    refine lv_iconst (v := 1) hx hb dX10_add_29 (by decide) ?_
    refine lv_iadd hx hb dX10_add_30 ?_
    refine lv_topi (fun z30 e_z30 => ?_)
    have b_ := zadd rfl zk_1 e_z30 (by omega) (by omega)
    refine lv_aload_n hx hb dX10_add_31 rfl (lv_at hl 1 rfl) ?_
    refine va_get (D := (dC, dI)) (ci := 10) (v := .int (v0 7)) (C := RX10) (T := TX10) (N := 8) hx hb hG zuX10 hown hK hP 0 rfl rfl 7 (by decide) (hG _ zv196) (fun _ h9 => h9) rfl dX10_add_32 ?_
    refine lv_iload_n hx hb dX10_add_35 rfl (lv_at hl 0 rfl) ?_
    refine lv_isub hx hb dX10_add_36 ?_
    refine lv_topi (fun z36 e_z36 => ?_)
    have b_ := zsub rfl rfl e_z36 (by omega) (by omega)
    refine va_copyl (ty := .long) hx hb (by rw [hml]; exact hl.1.symm) hown (hG _ zv760) (hG _ zv762) (hG _ zv761) (hG _ zv150) hK hP hD hS 1 1 0 0 rfl rfl rfl rfl rfl (znn (by omega)) (znn (by omega)) (znn (by omega)) (zcl rfl rfl (by omega) (by omega) (by omega)) (zcl rfl rfl (by omega) (by omega) (by omega)) (fun _ _ => rfl) (Nat.le_of_ble_eq_true rfl) (Nat.le_of_ble_eq_true rfl) dX10_add_37 (fun H locs hP hD hS => ?_)
    obtain ⟨f_37, e_f_37⟩ : ∃ z : Nat → Int64, z = va_cpy f1 f1 (r15_ : Int32).toNatClampNeg (z30 : Int32).toNatClampNeg (z36 : Int32).toNatClampNeg := ⟨_, rfl⟩
    have hP : va_P (dC, dI) vwCl [(h0, .inr (10, mX10 h1 h2 h3 h4 h5 h6 v0)), (h1, .inl (k1, 10, .inr (.inl f_37))), (h2, zi k2 10 f2)] H := by rw [e_f_37]; exact hP
    have hD : va_D A [(h0, .inr (10, mX10 h1 h2 h3 h4 h5 h6 v0)), (h1, .inl (k1, 10, .inr (.inl f_37))), (h2, zi k2 10 f2)] := by rw [e_f_37]; exact hD
    refine lv_aload_n hx hb dX10_add_40 rfl (lv_at hl 1 rfl) ?_
    refine va_get (D := (dC, dI)) (ci := 10) (v := .ref h2) (C := RX10) (T := TX10) (N := 8) hx hb hG zuX10 hown hK hP 0 rfl rfl 2 (by decide) (hG _ zv191) (fun _ h9 => h9) rfl dX10_add_41 ?_
    refine lv_iload_n hx hb dX10_add_44 rfl (lv_at hl 0 rfl) ?_
    refine lv_aload_n hx hb dX10_add_45 rfl (lv_at hl 1 rfl) ?_
    refine va_get (D := (dC, dI)) (ci := 10) (v := .ref h2) (C := RX10) (T := TX10) (N := 8) hx hb hG zuX10 hown hK hP 0 rfl rfl 2 (by decide) (hG _ zv191) (fun _ h9 => h9) rfl dX10_add_46 ?_
    refine lv_iload_n hx hb dX10_add_49 rfl (lv_at hl 0 rfl) ?_
    refine lv_iconst (v := 1) hx hb dX10_add_50 (by decide) ?_
    refine lv_iadd hx hb dX10_add_51 ?_
    refine lv_topi (fun z51 e_z51 => ?_)
    have b_ := zadd rfl zk_1 e_z51 (by omega) (by omega)
    refine lv_aload_n hx hb dX10_add_52 rfl (lv_at hl 1 rfl) ?_
    refine va_get (D := (dC, dI)) (ci := 10) (v := .int (v0 7)) (C := RX10) (T := TX10) (N := 8) hx hb hG zuX10 hown hK hP 0 rfl rfl 7 (by decide) (hG _ zv196) (fun _ h9 => h9) rfl dX10_add_53 ?_
    refine lv_iload_n hx hb dX10_add_56 rfl (lv_at hl 0 rfl) ?_
    refine lv_isub hx hb dX10_add_57 ?_
    refine lv_topi (fun z57 e_z57 => ?_)
    have b_ := zsub rfl rfl e_z57 (by omega) (by omega)
    refine va_copyi (ty := .int) hx hb (by rw [hml]; exact hl.1.symm) hown (hG _ zv760) (hG _ zv762) (hG _ zv761) (hG _ zv150) hK hP hD hS 2 2 1 1 rfl rfl rfl rfl rfl (znn (by omega)) (znn (by omega)) (znn (by omega)) (zcl rfl rfl (by omega) (by omega) (by omega)) (zcl rfl rfl (by omega) (by omega) (by omega)) (fun _ _ => rfl) (Nat.le_of_ble_eq_true rfl) (Nat.le_of_ble_eq_true rfl) dX10_add_58 (fun H locs hP hD hS => ?_)
    obtain ⟨f_58, e_f_58⟩ : ∃ z : Nat → Int32, z = va_cpy f2 f2 (r15_ : Int32).toNatClampNeg (z51 : Int32).toNatClampNeg (z57 : Int32).toNatClampNeg := ⟨_, rfl⟩
    have hP : va_P (dC, dI) vwCl [(h0, .inr (10, mX10 h1 h2 h3 h4 h5 h6 v0)), (h1, .inl (k1, 10, .inr (.inl f_37))), (h2, zi k2 10 f_58)] H := by rw [e_f_58]; exact hP
    have hD : va_D A [(h0, .inr (10, mX10 h1 h2 h3 h4 h5 h6 v0)), (h1, .inl (k1, 10, .inr (.inl f_37))), (h2, zi k2 10 f_58)] := by rw [e_f_58]; exact hD
    have hf_58 : zA 0 9 f_58 := by rw [e_f_58]; exact zA_cpy hf2 hf2
    refine lv_aload_n hx hb dX10_add_61 rfl (lv_at hl 1 rfl) ?_
    refine va_get (D := (dC, dI)) (ci := 10) (v := .ref h1) (C := RX10) (T := TX10) (N := 8) hx hb hG zuX10 hown hK hP 0 rfl rfl 1 (by decide) (hG _ zv190) (fun _ h9 => h9) rfl dX10_add_62 ?_
    refine lv_iload_n hx hb dX10_add_65 rfl (lv_at hl 0 rfl) ?_
    refine lv_lload_n hx hb dX10_add_66 rfl (lv_at hl 2 rfl) ?_
    refine va_last hx hb hK hP hD hS 1 0 rfl rfl (zin_lit ⟨by omega, by omega⟩) dX10_add_67 (fun H locs hP hD hS => ?_)
    obtain ⟨f_67, e_f_67⟩ : ∃ z : Nat → Int64, z = vp_updL f_37 (r15_ : Int32).toNatClampNeg y1 := ⟨_, rfl⟩
    have hP : va_P (dC, dI) vwCl [(h0, .inr (10, mX10 h1 h2 h3 h4 h5 h6 v0)), (h1, .inl (k1, 10, .inr (.inl f_67))), (h2, zi k2 10 f_58)] H := by rw [e_f_67]; exact hP
    have hD : va_D A [(h0, .inr (10, mX10 h1 h2 h3 h4 h5 h6 v0)), (h1, .inl (k1, 10, .inr (.inl f_67))), (h2, zi k2 10 f_58)] := by rw [e_f_67]; exact hD
    refine lv_aload_n hx hb dX10_add_68 rfl (lv_at hl 1 rfl) ?_
    refine va_get (D := (dC, dI)) (ci := 10) (v := .ref h2) (C := RX10) (T := TX10) (N := 8) hx hb hG zuX10 hown hK hP 0 rfl rfl 2 (by decide) (hG _ zv191) (fun _ h9 => h9) rfl dX10_add_69 ?_
    refine lv_iload_n hx hb dX10_add_72 rfl (lv_at hl 0 rfl) ?_
    refine lv_aload_n hx hb dX10_add_73 rfl (lv_at hl 1 rfl) ?_
    refine va_get (D := (dC, dI)) (ci := 10) (v := .int (v0 7)) (C := RX10) (T := TX10) (N := 8) hx hb hG zuX10 hown hK hP 0 rfl rfl 7 (by decide) (hG _ zv196) (fun _ h9 => h9) rfl dX10_add_74 ?_
    refine va_iast hx hb hK hP hD hS 2 1 rfl rfl (zin_lit ⟨by omega, by omega⟩) dX10_add_77 (fun H locs hP hD hS => ?_)
    obtain ⟨f_77, e_f_77⟩ : ∃ z : Nat → Int32, z = upd f_58 (r15_ : Int32).toNatClampNeg (v0 7) := ⟨_, rfl⟩
    have hP : va_P (dC, dI) vwCl [(h0, .inr (10, mX10 h1 h2 h3 h4 h5 h6 v0)), (h1, .inl (k1, 10, .inr (.inl f_67))), (h2, zi k2 10 f_77)] H := by rw [e_f_77]; exact hP
    have hD : va_D A [(h0, .inr (10, mX10 h1 h2 h3 h4 h5 h6 v0)), (h1, .inl (k1, 10, .inr (.inl f_67))), (h2, zi k2 10 f_77)] := by rw [e_f_77]; exact hD
    have hf_77 : zA 0 9 f_77 := by rw [e_f_77]; exact zA_upd hf_58 (show 0 ≤ ((v0 7) : Int32).toInt from by omega) (show ((v0 7) : Int32).toInt ≤ 9 from by omega)
    refine lv_aload_n hx hb dX10_add_78 rfl (lv_at hl 1 rfl) ?_
    refine lv_dup hx hb dX10_add_79 rfl ?_
    refine va_get (D := (dC, dI)) (ci := 10) (v := .int (v0 7)) (C := RX10) (T := TX10) (N := 8) hx hb hG zuX10 hown hK hP 0 rfl rfl 7 (by decide) (hG _ zv196) (fun _ h9 => h9) rfl dX10_add_80 ?_
    refine lv_iconst (v := 1) hx hb dX10_add_83 (by decide) ?_
    refine lv_iadd hx hb dX10_add_84 ?_
    refine lv_topi (fun z84 e_z84 => ?_)
    have b_ := zadd rfl zk_1 e_z84 (by omega) (by omega)
    refine va_put (D := (dC, dI)) (ci := 10) (v := .int z84) (ty := .int) (C := RX10) (T := TX10) (N := 8) hx hb hG zuX10 tyX10 tyX10_ok nmX10 hown hK hP hD hS 0 rfl rfl 7 (by decide) (hG _ zv196) (fun _ h9 => h9) rfl (by decide +kernel) rfl rfl (Nat.le_of_ble_eq_true rfl) dX10_add_85 (fun H locs hP hD hS => ?_)
    have hP : va_P (dC, dI) vwCl [(h0, .inr (10, mX10 h1 h2 h3 h4 h5 h6 (upd v0 7 z84))), (h1, .inl (k1, 10, .inr (.inl f_67))), (h2, zi k2 10 f_77)] H := hP
    have hD : va_D A [(h0, .inr (10, mX10 h1 h2 h3 h4 h5 h6 (upd v0 7 z84))), (h1, .inl (k1, 10, .inr (.inl f_67))), (h2, zi k2 10 f_77)] := hD
    refine lv_aload_n hx hb dX10_add_88 rfl (lv_at hl 1 rfl) ?_
    refine va_get (D := (dC, dI)) (ci := 10) (v := .int z84) (C := RX10) (T := TX10) (N := 8) hx hb hG zuX10 hown hK hP 0 rfl rfl 7 (by decide) (hG _ zv196) (fun _ h9 => h9) rfl dX10_add_89 ?_
    refine lv_iconst (v := 1) hx hb dX10_add_92 (by decide) ?_
    refine lv_isub hx hb dX10_add_93 ?_
    refine lv_topi (fun z93 e_z93 => ?_)
    have b_ := zsub rfl zk_1 e_z93 (by omega) (by omega)
    refine W.widen (k := 0) (n := 0) (by decide) (by decide) ?_
    have hpost : ((-1) ≤ z93.toInt ∧ z93.toInt ≤ 9) ∧ (1 ≤ z84.toInt ∧ z84.toInt ≤ 10) ∧ (z93.toInt = -1 → (v0 0).toInt ≤ (v0 7).toInt ∧ z84.toInt = (v0 7).toInt) ∧ (z93.toInt ≠ -1 → (v0 7).toInt < (v0 0).toInt ∧ z84.toInt = (v0 7).toInt + 1 ∧ z93.toInt = (v0 7).toInt) ∧ (z93.toInt = z93.toInt) := ⟨(by first | with_reducible assumption | exact ⟨by omega, by omega⟩), (by first | with_reducible assumption | exact ⟨by omega, by omega⟩), by omega, by omega, rfl⟩
    have hP9 : va_P (dC, dI) vwCl [(h0, .inr (10, mX10 h1 h2 h3 h4 h5 h6 (upd v0 7 z84))), (h1, .inl (k1, 10, .inr (.inl f_67))), (h2, zi k2 10 f_77)] H := hP
    have hD9 : va_D A [(h0, .inr (10, mX10 h1 h2 h3 h4 h5 h6 (upd v0 7 z84))), (h1, .inl (k1, 10, .inr (.inl f_67))), (h2, zi k2 10 f_77)] := hD
    have hB0 : z93.toInt = -1 ∨ zIns f1 f_67 f2 f_77 (v0 7).toInt y1.toInt := by first | exact Or.inl (by decide) | exact Or.inr (zIns_i e_f_37 e_f_58 e_f_67 e_f_77 hX15_1 (by omega) (by omega) (by omega) (by omega) (by omega) rfl (by omega) (by omega))
    have hB1 : z93.toInt = -1 → ∀ j : Nat, f_67 j = f1 j ∧ f_77 j = f2 j := by first | exact fun _ _ => ⟨rfl, rfl⟩ | exact fun q => absurd q (by omega)
    exact W.iret (v := z93) hx hb hr (fun t ht hW => ⟨⟨z93, (fun i => ([z84, z93] : List (Int32)).getD i 0), rfl, hpost, (fun _ => 0), (fun i => ([f_77] : List (Nat → Int32)).getD i (fun _ => 0)), (fun i => ([f_67] : List (Nat → Int64)).getD i (fun _ => 0)), hf_77, hB0, hB1, by rw [ht]; exact hP9, va_K.moved hW.alike hK, hD9⟩, hS.F ht⟩) hS.2.2 dX10_add_94
  · skip
    have b_ := zF_lt rfl rfl c_
    refine lv_iconst (v := (-1)) hx hb dX10_add_11 (by decide) ?_
    refine W.widen (k := 0) (n := 0) (by decide) (by decide) ?_
    have hpost : ((-1) ≤ ((-1) : Int32).toInt ∧ ((-1) : Int32).toInt ≤ 9) ∧ (1 ≤ (v0 7).toInt ∧ (v0 7).toInt ≤ 10) ∧ (((-1) : Int32).toInt = -1 → (v0 0).toInt ≤ (v0 7).toInt ∧ (v0 7).toInt = (v0 7).toInt) ∧ (((-1) : Int32).toInt ≠ -1 → (v0 7).toInt < (v0 0).toInt ∧ (v0 7).toInt = (v0 7).toInt + 1 ∧ ((-1) : Int32).toInt = (v0 7).toInt) ∧ (((-1) : Int32).toInt = ((-1) : Int32).toInt) := ⟨(by first | with_reducible assumption | exact ⟨by omega, by omega⟩), (by first | with_reducible assumption | exact ⟨by omega, by omega⟩), by omega, by omega, rfl⟩
    have hP9 : va_P (dC, dI) vwCl [(h0, .inr (10, mX10 h1 h2 h3 h4 h5 h6 (upd v0 7 (v0 7)))), (h1, .inl (k1, 10, .inr (.inl f1))), (h2, zi k2 10 f2)] s.heap := hP
    have hD9 : va_D A [(h0, .inr (10, mX10 h1 h2 h3 h4 h5 h6 (upd v0 7 (v0 7)))), (h1, .inl (k1, 10, .inr (.inl f1))), (h2, zi k2 10 f2)] := hD
    have hB0 : ((-1) : Int32).toInt = -1 ∨ zIns f1 f1 f2 f2 (v0 7).toInt y1.toInt := by first | exact Or.inl (by decide) | exact Or.inr (zIns_i e_f_37 e_f_58 e_f_67 e_f_77 hX15_1 (by omega) (by omega) (by omega) (by omega) (by omega) rfl (by omega) (by omega))
    have hB1 : ((-1) : Int32).toInt = -1 → ∀ j : Nat, f1 j = f1 j ∧ f2 j = f2 j := by first | exact fun _ _ => ⟨rfl, rfl⟩ | exact fun q => absurd q (by omega)
    exact W.iret (v := (-1)) hx hb hr (fun t ht hW => ⟨⟨(-1), (fun i => ([(v0 7), (-1)] : List (Int32)).getD i 0), rfl, hpost, (fun _ => 0), (fun i => ([f2] : List (Nat → Int32)).getD i (fun _ => 0)), (fun i => ([f1] : List (Nat → Int64)).getD i (fun _ => 0)), hf2, hB0, hB1, by rw [ht]; exact hP9, va_K.moved hW.alike hK, hD9⟩, hS.F ht⟩) hS.2.2 dX10_add_12
set_option maxHeartbeats 8000000 in
set_option maxRecDepth 100000 in
theorem sX11_stop_0 (l : Launch) (dC : Nat → ClassId) (dI : Nat → Nat → Nat) (adK adV : Nat → Nat) (h0 : Nat) (h1 : Nat) (h2 : Nat) (h3 : Nat) (h11 : Nat) (h12 : Nat) (h13 : Nat) (h14 : Nat) (h4 : Nat) (h18 : Nat) (h23 : Nat) (h32 : Nat) (h33 : Nat) (h40 : Nat) (h48 : Nat) (h49 : Nat) (h15 : Nat) (h16 : Nat) (h17 : Nat) (k2 : ClassId) (k3 : ClassId) (k12 : ClassId) (k13 : ClassId) (k14 : ClassId) (sz : Nat) (sp0 : Value) (lw0 : Int64) (v1 : Nat → Int32) (f2 : Nat → Int32) (f3 : Nat → Int32) (v11 : Nat → Int32) (f12 : Nat → Int64) (f13 : Nat → Int32) (f14 : Nat → Int32) (x1 : Int32) (hv1 : zR rg_Tape v1) (hv11 : zR rg_Words10 v11) (hf13 : zA 0 9 f13) (hf14 : zA (-1) 9 f14) (hx1 : 0 ≤ x1.toInt ∧ x1.toInt ≤ 1) : Met l yX11_stop (zw yX11_stop cX11_stop 5 (some .int)) { frames := 8, cells := 0, slots := 0, locals := 170 } (zPc dC dI adK adV [.ref h0, .int x1] sz [(h0, .inr (11, mX11 h1 h4 h11 h18 h23 h32 h33 h40 h48 h49 sp0 lw0)), (h1, .inr (9, mX9 h2 h3 v1)), (h2, zi k2 600 f2), (h3, zi k3 12 f3), (h11, .inr (10, mX10 h12 h13 h14 h15 h16 h17 v11)), (h12, .inl (k12, 10, .inr (.inl f12))), (h13, zi k13 10 f13), (h14, zi k14 10 f14)] [(k2, .byte), (k3, .byte), (k12, .long), (k13, .int), (k14, .int)]) (va_Qi (fun (r : Int32) (u : Nat → Int32) => ((-2) ≤ r.toInt ∧ r.toInt ≤ 10) ∧ (0 ≤ (u 0).toInt ∧ (u 0).toInt ≤ 0) ∧ (0 ≤ (u 1).toInt ∧ (u 1).toInt ≤ 12) ∧ (0 ≤ (u 2).toInt ∧ (u 2).toInt ≤ 10) ∧ (r.toInt = (u 3).toInt)) (fun (u : Nat → Int32) (t : State) => ∃ (ww : Nat → Int64) (aa : Nat → Nat → Int32) (bb : Nat → Nat → Int64), zA 0 9 (aa 1) ∧ zA (-1) 9 (aa 2) ∧ (zSd f12 f13 f14 (v11 7).toInt → zSd (bb 0) (aa 1) (aa 2) (u 2).toInt ∧ ∃ x : Int, zFW f2 (v1 2).toInt x ∧ zStp x1.toInt x (v11 7).toInt (u 2).toInt (u 3).toInt (zHas f12 (v11 7).toInt) (zHas (bb 0) (u 2).toInt)) ∧ va_P (dC, dI) vwCl [(h0, .inr (11, mX11 h1 h4 h11 h18 h23 h32 h33 h40 h48 h49 sp0 lw0)), (h1, .inr (9, mX9 h2 h3 (upd (upd v1 2 (u 0)) 3 (u 1)))), (h2, zi k2 600 f2), (h3, zi k3 12 (aa 0)), (h11, .inr (10, mX10 h12 h13 h14 h15 h16 h17 (upd v11 7 (u 2)))), (h12, .inl (k12, 10, .inr (.inl (bb 0)))), (h13, zi k13 10 (aa 1)), (h14, zi k14 10 (aa 2))] t.heap ∧ va_K (dC, dI) vwCl [(k2, .byte), (k3, .byte), (k12, .long), (k13, .int), (k14, .int)] t ∧ va_D (va_A [(h0, .inr (11, mX11 h1 h4 h11 h18 h23 h32 h33 h40 h48 h49 sp0 lw0)), (h1, .inr (9, mX9 h2 h3 v1)), (h2, zi k2 600 f2), (h3, zi k3 12 f3), (h11, .inr (10, mX10 h12 h13 h14 h15 h16 h17 v11)), (h12, .inl (k12, 10, .inr (.inl f12))), (h13, zi k13 10 f13), (h14, zi k14 10 f14)] sz) [(h0, .inr (11, mX11 h1 h4 h11 h18 h23 h32 h33 h40 h48 h49 sp0 lw0)), (h1, .inr (9, mX9 h2 h3 (upd (upd v1 2 (u 0)) 3 (u 1)))), (h2, zi k2 600 f2), (h3, zi k3 12 (aa 0)), (h11, .inr (10, mX10 h12 h13 h14 h15 h16 h17 (upd v11 7 (u 2)))), (h12, .inl (k12, 10, .inr (.inl (bb 0)))), (h13, zi k13 10 (aa 1)), (h14, zi k14 10 (aa 2))]) (va_A [(h0, .inr (11, mX11 h1 h4 h11 h18 h23 h32 h33 h40 h48 h49 sp0 lw0)), (h1, .inr (9, mX9 h2 h3 v1)), (h2, zi k2 600 f2), (h3, zi k3 12 f3), (h11, .inr (10, mX10 h12 h13 h14 h15 h16 h17 v11)), (h12, .inl (k12, 10, .inr (.inl f12))), (h13, zi k13 10 f13), (h14, zi k14 10 f14)] sz)) 0 0 (va_A [(h0, .inr (11, mX11 h1 h4 h11 h18 h23 h32 h33 h40 h48 h49 sp0 lw0)), (h1, .inr (9, mX9 h2 h3 v1)), (h2, zi k2 600 f2), (h3, zi k3 12 f3), (h11, .inr (10, mX10 h12 h13 h14 h15 h16 h17 v11)), (h12, .inl (k12, 10, .inr (.inl f12))), (h13, zi k13 10 f13), (h14, zi k14 10 f14)] sz) := by
  refine Met.ofW (cc := cX11_stop) (maxL := 5) (ret := (some .int)) (by decide) rfl ?_
  intro p e s m args below meth c s₁ B hml hv
  obtain ⟨rfl, hsz, hP, hK, hD0, hE, hZ⟩ := hv
  have hx := B.exec
  have hb := B.bytes
  have hr := B.returns
  have hG : ∀ w ∈ zG, w.before _ s = true := fun w h => atoms_spec (ws := (zw yX11_stop cX11_stop 5 (some .int))) B.pre w (List.mem_cons_of_mem _ h)
  have hown : s.vm.findClass RX11 = some m.cls := findClass_of_methodNamed B.named
  have hlocks := B.notSynchronized

  subst hsz
  have hD := hD0.self (sz := s.heap.size)
  generalize hAe : va_A [(h0, .inr (11, mX11 h1 h4 h11 h18 h23 h32 h33 h40 h48 h49 sp0 lw0)), (h1, .inr (9, mX9 h2 h3 v1)), (h2, zi k2 600 f2), (h3, zi k3 12 f3), (h11, .inr (10, mX10 h12 h13 h14 h15 h16 h17 v11)), (h12, .inl (k12, 10, .inr (.inl f12))), (h13, zi k13 10 f13), (h14, zi k14 10 f14)] s.heap.size = A at hD hZ ⊢
  have hA : ∀ q : Nat, s.heap.size ≤ q → A q := fun q h => by rw [← hAe]; exact Or.inr h
  have hS : va_S A s.heap s.heap [] := va_S.rf
  have hl := lv_entry ([.ref h0, .int x1]) (n := 5) (Nat.le_of_ble_eq_true rfl)
  rw [lg_entry_eq]
  generalize (lg_sl ([.ref h0, .int x1]) ++ List.replicate (5 - (lg_sl ([.ref h0, .int x1])).length) Slot.unset).toArray = ls at hl ⊢
  have hl : lv_has ls 5 [(0, .ref h0), (1, .int x1)] := hl
  have b_ := zk_m2
  have b_ := zk_m1
  refine lv_aload_n hx hb dX11_stop_0 rfl (lv_at hl 0 rfl) ?_
  refine va_get (D := (dC, dI)) (ci := 11) (v := .ref h1) (C := RX11) (T := TX11) (N := 12) hx hb hG zuX11 hown hK hP 0 rfl rfl 0 (by decide) (hG _ zv557) (fun _ h9 => h9) rfl dX11_stop_1 ?_
  have hPc := hP.sub (ws' := [(h1, .inr (9, mX9 h2 h3 v1)), (h2, zi k2 600 f2), (h3, zi k3 12 f3)]) [1, 2, 3] rfl
  have hDc := hD.sub (ws' := [(h1, .inr (9, mX9 h2 h3 v1)), (h2, zi k2 600 f2), (h3, zi k3 12 f3)]) [1, 2, 3] (by decide) rfl
  have hKc := hK.sub (tys' := [(k2, .byte), (k3, .byte)]) [0, 1] rfl
  have hFc := va_free (wc := [(h1, .inr (9, mX9 h2 h3 v1)), (h2, zi k2 600 f2), (h3, zi k3 12 f3)]) hD hS hA [1, 2, 3] rfl
  refine va_calll (va_runV (As := []) (rest := []) ⟨hx, hb, hml, hown, hG⟩ (sX9_firstWord_0 l dC dI adK adV h1 h2 h3 k2 k3 s.heap.size v1 f2 f3 hv1) (cwV 0 hG (zgV zv956 zv957 zv958 zv130 zv959) rfl rfl rfl (by decide +kernel) ⟨Nat.le_of_ble_eq_true rfl, Nat.le_of_ble_eq_true rfl⟩) ⟨zPc_blind, va_recv hKc hPc (ci := 9) (q0 := 0) rfl rfl, zPc_pre hPc hKc hDc hE hS hFc hZ⟩ rfl rfl hl.1 rfl (lv_room (Nat.le_of_ble_eq_true rfl)) dX11_stop_4 ⟨Nat.le_of_ble_eq_true rfl, Nat.le_of_ble_eq_true rfl⟩) hS (fun q _ h => hFc q h) hFc (fun r4_ u4_ t H1 locs ht hvm hw hB hz1 hk1 hS => ?_)
  replace hw : (0 ≤ (u4_ 0).toInt ∧ (u4_ 0).toInt ≤ 12) ∧ (zFW f2 (v1 2).toInt r4_.toInt) := hw
  obtain ⟨b_, hX4_0⟩ := hw
  obtain ⟨w4_, a4_, b4_, hP1, hK1, hD1⟩ := hB
  rw [ht] at hP1
  obtain ⟨hP, hD⟩ := va_join (wr := [(h0, .inr (11, mX11 h1 h4 h11 h18 h23 h32 h33 h40 h48 h49 sp0 lw0)), (h11, .inr (10, mX10 h12 h13 h14 h15 h16 h17 v11)), (h12, .inl (k12, 10, .inr (.inl f12))), (h13, zi k13 10 f13), (h14, zi k14 10 f14)]) (w1 := [(h1, .inr (9, mX9 h2 h3 (upd v1 3 (u4_ 0)))), (h2, zi k2 600 f2), (h3, zi k3 12 (a4_ 0))]) hP hD [1, 2, 3] [0, 4, 5, 6, 7] rfl rfl (by decide) (by decide) hk1 hFc hP1 hD1
  have hP : va_P (dC, dI) vwCl [(h0, .inr (11, mX11 h1 h4 h11 h18 h23 h32 h33 h40 h48 h49 sp0 lw0)), (h1, .inr (9, mX9 h2 h3 (upd v1 3 (u4_ 0)))), (h2, zi k2 600 f2), (h3, zi k3 12 (a4_ 0)), (h11, .inr (10, mX10 h12 h13 h14 h15 h16 h17 v11)), (h12, .inl (k12, 10, .inr (.inl f12))), (h13, zi k13 10 f13), (h14, zi k14 10 f14)] H1 := hP.sub [0, 5, 6, 7, 1, 2, 3, 4] rfl
  have hD : va_D A [(h0, .inr (11, mX11 h1 h4 h11 h18 h23 h32 h33 h40 h48 h49 sp0 lw0)), (h1, .inr (9, mX9 h2 h3 (upd v1 3 (u4_ 0)))), (h2, zi k2 600 f2), (h3, zi k3 12 (a4_ 0)), (h11, .inr (10, mX10 h12 h13 h14 h15 h16 h17 v11)), (h12, .inl (k12, 10, .inr (.inl f12))), (h13, zi k13 10 f13), (h14, zi k14 10 f14)] := hD.sub [0, 5, 6, 7, 1, 2, 3, 4] (by decide) rfl
  generalize H1 = H at hP hS ⊢
  clear hz1
  refine lv_lstore_n (lv' := [(2, .long r4_), (0, .ref h0), (1, .int x1)]) hx hb dX11_stop_7 rfl hl (by decide) rfl (fun ls hl => ?_)
  refine lv_aload_n hx hb dX11_stop_8 rfl (lv_at hl 1 rfl) ?_
  refine va_get (D := (dC, dI)) (ci := 11) (v := .ref h1) (C := RX11) (T := TX11) (N := 12) hx hb hG zuX11 hown hK hP 0 rfl rfl 0 (by decide) (hG _ zv557) (fun _ h9 => h9) rfl dX11_stop_9 ?_
  have hPc := hP.sub (ws' := [(h1, .inr (9, mX9 h2 h3 (upd v1 3 (u4_ 0))))]) [1] rfl
  have hDc := hD.sub (ws' := [(h1, .inr (9, mX9 h2 h3 (upd v1 3 (u4_ 0))))]) [1] (by decide) rfl
  have hKc := hK.sub (tys' := []) [] rfl
  have hFc := va_free (wc := [(h1, .inr (9, mX9 h2 h3 (upd v1 3 (u4_ 0))))]) hD hS hA [1] rfl
  refine va_callv (va_runV (As := []) (rest := []) ⟨hx, hb, hml, hown, hG⟩ (sX9_clear_0 l dC dI adK adV h1 h2 h3 H.size (upd v1 3 (u4_ 0)) (zR_up2 hv1 3 (show (0 : Int) ≤ ((u4_ 0) : Int32).toInt ∧ ((u4_ 0) : Int32).toInt ≤ (12 : Int) from (by first | with_reducible assumption | exact ⟨by omega, by omega⟩)))) (cwV 0 hG (zgV zv809 zv810 zv811 zv130 zv812) rfl rfl rfl (by decide +kernel) ⟨Nat.le_of_ble_eq_true rfl, Nat.le_of_ble_eq_true rfl⟩) ⟨zPc_blind, va_recv hKc hPc (ci := 9) (q0 := 0) rfl rfl, zPc_pre hPc hKc hDc hE hS hFc hZ⟩ rfl rfl hl.1 rfl (lv_room (Nat.le_of_ble_eq_true rfl)) dX11_stop_12 ⟨Nat.le_of_ble_eq_true rfl, Nat.le_of_ble_eq_true rfl⟩) hS (fun q _ h => hFc q h) hFc (fun u12_ t H1 locs ht hvm hw hB hz1 hk1 hS => ?_)
  replace hw : (0 ≤ (u12_ 0).toInt ∧ (u12_ 0).toInt ≤ 0) ∧ ((u12_ 0).toInt = 0) := hw
  obtain ⟨b_, hX12_0⟩ := hw
  obtain ⟨w12_, a12_, b12_, hP1, hK1, hD1⟩ := hB
  rw [ht] at hP1
  obtain ⟨hP, hD⟩ := va_join (wr := [(h0, .inr (11, mX11 h1 h4 h11 h18 h23 h32 h33 h40 h48 h49 sp0 lw0)), (h2, zi k2 600 f2), (h3, zi k3 12 (a4_ 0)), (h11, .inr (10, mX10 h12 h13 h14 h15 h16 h17 v11)), (h12, .inl (k12, 10, .inr (.inl f12))), (h13, zi k13 10 f13), (h14, zi k14 10 f14)]) (w1 := [(h1, .inr (9, mX9 h2 h3 (upd (upd v1 2 (u12_ 0)) 3 (u4_ 0))))]) hP hD [1] [0, 2, 3, 4, 5, 6, 7] rfl rfl (by decide) (by decide) hk1 hFc hP1 hD1
  have hP : va_P (dC, dI) vwCl [(h0, .inr (11, mX11 h1 h4 h11 h18 h23 h32 h33 h40 h48 h49 sp0 lw0)), (h1, .inr (9, mX9 h2 h3 (upd (upd v1 2 (u12_ 0)) 3 (u4_ 0)))), (h2, zi k2 600 f2), (h3, zi k3 12 (a4_ 0)), (h11, .inr (10, mX10 h12 h13 h14 h15 h16 h17 v11)), (h12, .inl (k12, 10, .inr (.inl f12))), (h13, zi k13 10 f13), (h14, zi k14 10 f14)] H1 := hP.sub [0, 7, 1, 2, 3, 4, 5, 6] rfl
  have hD : va_D A [(h0, .inr (11, mX11 h1 h4 h11 h18 h23 h32 h33 h40 h48 h49 sp0 lw0)), (h1, .inr (9, mX9 h2 h3 (upd (upd v1 2 (u12_ 0)) 3 (u4_ 0)))), (h2, zi k2 600 f2), (h3, zi k3 12 (a4_ 0)), (h11, .inr (10, mX10 h12 h13 h14 h15 h16 h17 v11)), (h12, .inl (k12, 10, .inr (.inl f12))), (h13, zi k13 10 f13), (h14, zi k14 10 f14)] := hD.sub [0, 7, 1, 2, 3, 4, 5, 6] (by decide) rfl
  generalize H1 = H at hP hS ⊢
  clear hz1
  have b_ : 10 ≤ (v11 0).toInt ∧ (v11 0).toInt ≤ 10 := hv11 0
  have b_ : 0 ≤ (v11 7).toInt ∧ (v11 7).toInt ≤ 10 := hv11 7
  refine lv_lload_n hx hb dX11_stop_15 rfl (lv_at hl 0 rfl) ?_
  refine lv_lconst (v := 0) hx hb dX11_stop_16 (by decide) ?_
  refine W.lcmp hx hb dX11_stop_17 ?_
  refine lv_topi (fun z17 e_z17 => ?_)
  have b_ : (0 : Int64).toInt = 0 := by decide
  have b_ := zlcmp e_z17
  have b_ : -2147483648 ≤ z17.toInt ∧ z17.toInt ≤ 2147483647 := ⟨zlo _, zhi _⟩
  refine lv_if_ne (tgt := 23) hx hb dX11_stop_18 (by decide) (fun c_ => ?_) (fun c_ => ?_)
  · skip
    have b_ := zT_ne rfl zk_0 c_
    refine lv_aload_n hx hb dX11_stop_23 rfl (lv_at hl 1 rfl) ?_
    refine va_get (D := (dC, dI)) (ci := 11) (v := .ref h11) (C := RX11) (T := TX11) (N := 12) hx hb hG zuX11 hown hK hP 0 rfl rfl 2 (by decide) (hG _ zv559) (fun _ h9 => h9) rfl dX11_stop_24 ?_
    refine lv_lload_n hx hb dX11_stop_27 rfl (lv_at hl 0 rfl) ?_
    have hPc := hP.sub (ws' := [(h11, .inr (10, mX10 h12 h13 h14 h15 h16 h17 v11)), (h12, .inl (k12, 10, .inr (.inl f12)))]) [4, 5] rfl
    have hDc := hD.sub (ws' := [(h11, .inr (10, mX10 h12 h13 h14 h15 h16 h17 v11)), (h12, .inl (k12, 10, .inr (.inl f12)))]) [4, 5] (by decide) rfl
    have hKc := hK.sub (tys' := [(k12, .long)]) [2] rfl
    have hFc := va_free (wc := [(h11, .inr (10, mX10 h12 h13 h14 h15 h16 h17 v11)), (h12, .inl (k12, 10, .inr (.inl f12)))]) hD hS hA [4, 5] rfl
    refine va_calli (va_runV (As := [.long r4_]) (rest := []) ⟨hx, hb, hml, hown, hG⟩ (sX10_rankOf_0 l dC dI adK adV h11 h12 h13 h14 h15 h16 h17 k12 H.size v11 f12 r4_ hv11) (cwV 1 hG (zgV zv961 zv740 zv741 zv131 zv742) rfl rfl rfl (by decide +kernel) ⟨Nat.le_of_ble_eq_true rfl, Nat.le_of_ble_eq_true rfl⟩) ⟨zPc_blind, va_recv hKc hPc (ci := 10) (q0 := 0) rfl rfl, zPc_pre hPc hKc hDc hE hS hFc hZ⟩ rfl rfl hl.1 rfl (lv_room (Nat.le_of_ble_eq_true rfl)) dX11_stop_28 ⟨Nat.le_of_ble_eq_true rfl, Nat.le_of_ble_eq_true rfl⟩) hS (fun q _ h => hFc q h) hFc (fun r28_ u28_ t H1 locs ht hvm hw hB hz1 hk1 hS => ?_)
    replace hw : ((-1) ≤ r28_.toInt ∧ r28_.toInt ≤ 9) ∧ (r28_.toInt < (v11 7).toInt) ∧ (zRf f12 (v11 7).toInt r4_.toInt r28_.toInt) := hw
    obtain ⟨b_, hX28_0, hX28_1⟩ := hw
    obtain ⟨w28_, a28_, b28_, hP1, hK1, hD1⟩ := hB
    rw [ht] at hP1
    obtain ⟨hP, hD⟩ := va_join (wr := [(h0, .inr (11, mX11 h1 h4 h11 h18 h23 h32 h33 h40 h48 h49 sp0 lw0)), (h1, .inr (9, mX9 h2 h3 (upd (upd v1 2 (u12_ 0)) 3 (u4_ 0)))), (h2, zi k2 600 f2), (h3, zi k3 12 (a4_ 0)), (h13, zi k13 10 f13), (h14, zi k14 10 f14)]) (w1 := [(h11, .inr (10, mX10 h12 h13 h14 h15 h16 h17 v11)), (h12, .inl (k12, 10, .inr (.inl f12)))]) hP hD [4, 5] [0, 1, 2, 3, 6, 7] rfl rfl (by decide) (by decide) hk1 hFc hP1 hD1
    have hP : va_P (dC, dI) vwCl [(h0, .inr (11, mX11 h1 h4 h11 h18 h23 h32 h33 h40 h48 h49 sp0 lw0)), (h1, .inr (9, mX9 h2 h3 (upd (upd v1 2 (u12_ 0)) 3 (u4_ 0)))), (h2, zi k2 600 f2), (h3, zi k3 12 (a4_ 0)), (h11, .inr (10, mX10 h12 h13 h14 h15 h16 h17 v11)), (h12, .inl (k12, 10, .inr (.inl f12))), (h13, zi k13 10 f13), (h14, zi k14 10 f14)] H1 := hP.sub [0, 1, 2, 3, 6, 7, 4, 5] rfl
    have hD : va_D A [(h0, .inr (11, mX11 h1 h4 h11 h18 h23 h32 h33 h40 h48 h49 sp0 lw0)), (h1, .inr (9, mX9 h2 h3 (upd (upd v1 2 (u12_ 0)) 3 (u4_ 0)))), (h2, zi k2 600 f2), (h3, zi k3 12 (a4_ 0)), (h11, .inr (10, mX10 h12 h13 h14 h15 h16 h17 v11)), (h12, .inl (k12, 10, .inr (.inl f12))), (h13, zi k13 10 f13), (h14, zi k14 10 f14)] := hD.sub [0, 1, 2, 3, 6, 7, 4, 5] (by decide) rfl
    generalize H1 = H at hP hS ⊢
    clear hz1
    refine lv_istore (lv' := [(4, .int r28_), (2, .long r4_), (0, .ref h0), (1, .int x1)]) hx hb dX11_stop_31 hl (by decide) rfl (fun ls hl => ?_)
    refine lv_iload_n hx hb dX11_stop_33 rfl (lv_at hl 3 rfl) ?_
    refine lv_if_eq (tgt := 58) hx hb dX11_stop_34 (by decide) (fun c_ => ?_) (fun c_ => ?_)
    · skip
      have b_ := zT_eq rfl zk_0 c_
      refine lv_iload_n hx hb dX11_stop_58 rfl (lv_at hl 3 rfl) ?_
      refine lv_if_ne (tgt := 91) hx hb dX11_stop_59 (by decide) (fun c_ => False.elim (by have b_ := zT_ne rfl zk_0 c_; omega)) (fun c_ => ?_)
      have b_ := zF_ne rfl zk_0 c_
      refine lv_iload hx hb dX11_stop_62 (lv_at hl 0 rfl) ?_
      refine lv_iconst (v := (-1)) hx hb dX11_stop_64 (by decide) ?_
      refine lv_icmp_eq (tgt := 91) hx hb dX11_stop_65 (by decide) (fun c_ => ?_) (fun c_ => ?_)
      · skip
        have b_ := zT_eq rfl zk_m1 c_
        refine lv_aload_n hx hb dX11_stop_91 rfl (lv_at hl 2 rfl) ?_
        refine va_get (D := (dC, dI)) (ci := 11) (v := .ref h11) (C := RX11) (T := TX11) (N := 12) hx hb hG zuX11 hown hK hP 0 rfl rfl 2 (by decide) (hG _ zv559) (fun _ h9 => h9) rfl dX11_stop_92 ?_
        have hPc := hP.sub (ws' := [(h11, .inr (10, mX10 h12 h13 h14 h15 h16 h17 v11))]) [4] rfl
        have hDc := hD.sub (ws' := [(h11, .inr (10, mX10 h12 h13 h14 h15 h16 h17 v11))]) [4] (by decide) rfl
        have hKc := hK.sub (tys' := []) [] rfl
        have hFc := va_free (wc := [(h11, .inr (10, mX10 h12 h13 h14 h15 h16 h17 v11))]) hD hS hA [4] rfl
        refine va_calli (va_runV (As := []) (rest := []) ⟨hx, hb, hml, hown, hG⟩ (sX10_size_1 l dC dI adK adV h11 h12 h13 h14 h15 h16 h17 H.size v11 hv11) (cwV 0 hG (zgV zv626 zv627 zv628 zv131 zv629) rfl rfl rfl (by decide +kernel) ⟨Nat.le_of_ble_eq_true rfl, Nat.le_of_ble_eq_true rfl⟩) ⟨zPc_blind, va_recv hKc hPc (ci := 10) (q0 := 0) rfl rfl, zPc_pre hPc hKc hDc hE hS hFc hZ⟩ rfl rfl hl.1 rfl (lv_room (Nat.le_of_ble_eq_true rfl)) dX11_stop_95 ⟨Nat.le_of_ble_eq_true rfl, Nat.le_of_ble_eq_true rfl⟩) hS (fun q _ h => hFc q h) hFc (fun r95_ u95_ t H1 locs ht hvm hw hB hz1 hk1 hS => ?_)
        replace hw : (0 ≤ r95_.toInt ∧ r95_.toInt ≤ 10) ∧ (r95_.toInt = (v11 7).toInt) ∧ (r95_.toInt = (v11 7).toInt) := hw
        obtain ⟨b_, hX95_0, hX95_1⟩ := hw
        obtain ⟨w95_, a95_, b95_, hP1, hK1, hD1⟩ := hB
        rw [ht] at hP1
        obtain ⟨hP, hD⟩ := va_join (wr := [(h0, .inr (11, mX11 h1 h4 h11 h18 h23 h32 h33 h40 h48 h49 sp0 lw0)), (h1, .inr (9, mX9 h2 h3 (upd (upd v1 2 (u12_ 0)) 3 (u4_ 0)))), (h2, zi k2 600 f2), (h3, zi k3 12 (a4_ 0)), (h12, .inl (k12, 10, .inr (.inl f12))), (h13, zi k13 10 f13), (h14, zi k14 10 f14)]) (w1 := [(h11, .inr (10, mX10 h12 h13 h14 h15 h16 h17 v11))]) hP hD [4] [0, 1, 2, 3, 5, 6, 7] rfl rfl (by decide) (by decide) hk1 hFc hP1 hD1
        have hP : va_P (dC, dI) vwCl [(h0, .inr (11, mX11 h1 h4 h11 h18 h23 h32 h33 h40 h48 h49 sp0 lw0)), (h1, .inr (9, mX9 h2 h3 (upd (upd v1 2 (u12_ 0)) 3 (u4_ 0)))), (h2, zi k2 600 f2), (h3, zi k3 12 (a4_ 0)), (h11, .inr (10, mX10 h12 h13 h14 h15 h16 h17 v11)), (h12, .inl (k12, 10, .inr (.inl f12))), (h13, zi k13 10 f13), (h14, zi k14 10 f14)] H1 := hP.sub [0, 1, 2, 3, 7, 4, 5, 6] rfl
        have hD : va_D A [(h0, .inr (11, mX11 h1 h4 h11 h18 h23 h32 h33 h40 h48 h49 sp0 lw0)), (h1, .inr (9, mX9 h2 h3 (upd (upd v1 2 (u12_ 0)) 3 (u4_ 0)))), (h2, zi k2 600 f2), (h3, zi k3 12 (a4_ 0)), (h11, .inr (10, mX10 h12 h13 h14 h15 h16 h17 v11)), (h12, .inl (k12, 10, .inr (.inl f12))), (h13, zi k13 10 f13), (h14, zi k14 10 f14)] := hD.sub [0, 1, 2, 3, 7, 4, 5, 6] (by decide) rfl
        generalize H1 = H at hP hS ⊢
        clear hz1
        refine W.widen (k := 0) (n := 0) (by decide) (by decide) ?_
        have hpost : ((-2) ≤ r95_.toInt ∧ r95_.toInt ≤ 10) ∧ (0 ≤ (u12_ 0).toInt ∧ (u12_ 0).toInt ≤ 0) ∧ (0 ≤ (u4_ 0).toInt ∧ (u4_ 0).toInt ≤ 12) ∧ (0 ≤ (v11 7).toInt ∧ (v11 7).toInt ≤ 10) ∧ (r95_.toInt = r95_.toInt) := ⟨(by first | with_reducible assumption | exact ⟨by omega, by omega⟩), (by first | with_reducible assumption | exact ⟨by omega, by omega⟩), (by first | with_reducible assumption | exact ⟨by omega, by omega⟩), (by first | with_reducible assumption | exact ⟨by omega, by omega⟩), rfl⟩
        have hP9 : va_P (dC, dI) vwCl [(h0, .inr (11, mX11 h1 h4 h11 h18 h23 h32 h33 h40 h48 h49 sp0 lw0)), (h1, .inr (9, mX9 h2 h3 (upd (upd v1 2 (u12_ 0)) 3 (u4_ 0)))), (h2, zi k2 600 f2), (h3, zi k3 12 (a4_ 0)), (h11, .inr (10, mX10 h12 h13 h14 h15 h16 h17 (upd v11 7 (v11 7)))), (h12, .inl (k12, 10, .inr (.inl f12))), (h13, zi k13 10 f13), (h14, zi k14 10 f14)] H := hP
        have hD9 : va_D A [(h0, .inr (11, mX11 h1 h4 h11 h18 h23 h32 h33 h40 h48 h49 sp0 lw0)), (h1, .inr (9, mX9 h2 h3 (upd (upd v1 2 (u12_ 0)) 3 (u4_ 0)))), (h2, zi k2 600 f2), (h3, zi k3 12 (a4_ 0)), (h11, .inr (10, mX10 h12 h13 h14 h15 h16 h17 (upd v11 7 (v11 7)))), (h12, .inl (k12, 10, .inr (.inl f12))), (h13, zi k13 10 f13), (h14, zi k14 10 f14)] := hD
        have hB0 : zSd f12 f13 f14 (v11 7).toInt → zSd f12 f13 f14 (v11 7).toInt ∧ ∃ x : Int, zFW f2 (v1 2).toInt x ∧ zStp x1.toInt x (v11 7).toInt (v11 7).toInt r95_.toInt (zHas f12 (v11 7).toInt) (zHas f12 (v11 7).toInt) := by first | exact zst1 hX4_0 (by omega) (by omega) (by omega) | exact zst2 hX4_0 (by omega) hX28_1 (by omega) (by omega) (by omega) (by omega) (by omega) (hB48_1 (by omega)) | exact zst3 hX4_0 (by omega) hX28_1 (by omega) (by omega) (by omega) (by omega) (by omega) (Or.resolve_left hB48_0 (by omega)) | exact zst6 hX4_0 (by omega) hX28_1 (by omega) (by omega) (by omega) hX78_0 hB81_0 hB88_0 (fun j hj => hB88_1 j (by omega)) (by omega) | exact zst4 hX4_0 (by omega) hX28_1 (by omega) (by omega) (by omega)
        exact W.iret (v := r95_) hx hb hr (fun t ht hW => ⟨⟨r95_, (fun i => ([(u12_ 0), (u4_ 0), (v11 7), r95_] : List (Int32)).getD i 0), rfl, hpost, (fun _ => 0), (fun i => ([(a4_ 0), f13, f14] : List (Nat → Int32)).getD i (fun _ => 0)), (fun i => ([f12] : List (Nat → Int64)).getD i (fun _ => 0)), hf13, hf14, hB0, by rw [ht]; exact hP9, va_K.moved hW.alike hK, hD9⟩, hS.F ht⟩) hS.2.2 dX11_stop_98
      · skip
        have b_ := zF_eq rfl zk_m1 c_
        refine lv_aload_n hx hb dX11_stop_68 rfl (lv_at hl 2 rfl) ?_
        refine va_get (D := (dC, dI)) (ci := 11) (v := .ref h11) (C := RX11) (T := TX11) (N := 12) hx hb hG zuX11 hown hK hP 0 rfl rfl 2 (by decide) (hG _ zv559) (fun _ h9 => h9) rfl dX11_stop_69 ?_
        refine lv_aload_n hx hb dX11_stop_72 rfl (lv_at hl 2 rfl) ?_
        refine va_get (D := (dC, dI)) (ci := 11) (v := .ref h11) (C := RX11) (T := TX11) (N := 12) hx hb hG zuX11 hown hK hP 0 rfl rfl 2 (by decide) (hG _ zv559) (fun _ h9 => h9) rfl dX11_stop_73 ?_
        refine lv_iload hx hb dX11_stop_76 (lv_at hl 0 rfl) ?_
        have hPc := hP.sub (ws' := [(h11, .inr (10, mX10 h12 h13 h14 h15 h16 h17 v11)), (h13, zi k13 10 f13)]) [4, 6] rfl
        have hDc := hD.sub (ws' := [(h11, .inr (10, mX10 h12 h13 h14 h15 h16 h17 v11)), (h13, zi k13 10 f13)]) [4, 6] (by decide) rfl
        have hKc := hK.sub (tys' := [(k13, .int)]) [3] rfl
        have hFc := va_free (wc := [(h11, .inr (10, mX10 h12 h13 h14 h15 h16 h17 v11)), (h13, zi k13 10 f13)]) hD hS hA [4, 6] rfl
        refine va_calli (va_runV (As := [.int r28_]) (rest := [.ref h11]) ⟨hx, hb, hml, hown, hG⟩ (sX10_idAt_1 l dC dI adK adV h11 h13 h12 h14 h15 h16 h17 k13 H.size v11 f13 r28_ hv11 hf13) (cwV 1 hG (zgV zv963 zv753 zv754 zv131 zv755) rfl rfl rfl (by decide +kernel) ⟨Nat.le_of_ble_eq_true rfl, Nat.le_of_ble_eq_true rfl⟩) ⟨zPc_blind, va_recv hKc hPc (ci := 10) (q0 := 0) rfl rfl, zPc_pre hPc hKc hDc hE hS hFc hZ⟩ rfl rfl hl.1 rfl (lv_room (Nat.le_of_ble_eq_true rfl)) dX11_stop_78 ⟨Nat.le_of_ble_eq_true rfl, Nat.le_of_ble_eq_true rfl⟩) hS (fun q _ h => hFc q h) hFc (fun r78_ u78_ t H1 locs ht hvm hw hB hz1 hk1 hS => ?_)
        replace hw : ((-1) ≤ r78_.toInt ∧ r78_.toInt ≤ 9) ∧ (0 ≤ r28_.toInt ∧ r28_.toInt < (v11 7).toInt → r78_.toInt = (f13 ((r28_ : Int32)).toNatClampNeg).toInt) ∧ (r28_.toInt < 0 → r78_.toInt = -1) := hw
        obtain ⟨b_, hX78_0, hX78_1⟩ := hw
        obtain ⟨w78_, a78_, b78_, hP1, hK1, hD1⟩ := hB
        rw [ht] at hP1
        obtain ⟨hP, hD⟩ := va_join (wr := [(h0, .inr (11, mX11 h1 h4 h11 h18 h23 h32 h33 h40 h48 h49 sp0 lw0)), (h1, .inr (9, mX9 h2 h3 (upd (upd v1 2 (u12_ 0)) 3 (u4_ 0)))), (h2, zi k2 600 f2), (h3, zi k3 12 (a4_ 0)), (h12, .inl (k12, 10, .inr (.inl f12))), (h14, zi k14 10 f14)]) (w1 := [(h11, .inr (10, mX10 h12 h13 h14 h15 h16 h17 v11)), (h13, zi k13 10 f13)]) hP hD [4, 6] [0, 1, 2, 3, 5, 7] rfl rfl (by decide) (by decide) hk1 hFc hP1 hD1
        have hP : va_P (dC, dI) vwCl [(h0, .inr (11, mX11 h1 h4 h11 h18 h23 h32 h33 h40 h48 h49 sp0 lw0)), (h1, .inr (9, mX9 h2 h3 (upd (upd v1 2 (u12_ 0)) 3 (u4_ 0)))), (h2, zi k2 600 f2), (h3, zi k3 12 (a4_ 0)), (h11, .inr (10, mX10 h12 h13 h14 h15 h16 h17 v11)), (h12, .inl (k12, 10, .inr (.inl f12))), (h13, zi k13 10 f13), (h14, zi k14 10 f14)] H1 := hP.sub [0, 1, 2, 3, 6, 4, 7, 5] rfl
        have hD : va_D A [(h0, .inr (11, mX11 h1 h4 h11 h18 h23 h32 h33 h40 h48 h49 sp0 lw0)), (h1, .inr (9, mX9 h2 h3 (upd (upd v1 2 (u12_ 0)) 3 (u4_ 0)))), (h2, zi k2 600 f2), (h3, zi k3 12 (a4_ 0)), (h11, .inr (10, mX10 h12 h13 h14 h15 h16 h17 v11)), (h12, .inl (k12, 10, .inr (.inl f12))), (h13, zi k13 10 f13), (h14, zi k14 10 f14)] := hD.sub [0, 1, 2, 3, 6, 4, 7, 5] (by decide) rfl
        generalize H1 = H at hP hS ⊢
        clear hz1
        have hPc := hP.sub (ws' := [(h11, .inr (10, mX10 h12 h13 h14 h15 h16 h17 v11)), (h14, zi k14 10 f14)]) [4, 7] rfl
        have hDc := hD.sub (ws' := [(h11, .inr (10, mX10 h12 h13 h14 h15 h16 h17 v11)), (h14, zi k14 10 f14)]) [4, 7] (by decide) rfl
        have hKc := hK.sub (tys' := [(k14, .int)]) [4] rfl
        have hFc := va_free (wc := [(h11, .inr (10, mX10 h12 h13 h14 h15 h16 h17 v11)), (h14, zi k14 10 f14)]) hD hS hA [4, 7] rfl
        refine va_callv (va_runV (As := [.int r78_]) (rest := []) ⟨hx, hb, hml, hown, hG⟩ (sX10_strike_1 l dC dI adK adV h11 h14 h12 h13 h15 h16 h17 k14 H.size v11 f14 r78_ hv11 hf14) (cwV 1 hG (zgV zv945 zv818 zv819 zv131 zv820) rfl rfl rfl (by decide +kernel) ⟨Nat.le_of_ble_eq_true rfl, Nat.le_of_ble_eq_true rfl⟩) ⟨zPc_blind, va_recv hKc hPc (ci := 10) (q0 := 0) rfl rfl, zPc_pre hPc hKc hDc hE hS hFc hZ⟩ rfl rfl hl.1 rfl (lv_room (Nat.le_of_ble_eq_true rfl)) dX11_stop_81 ⟨Nat.le_of_ble_eq_true rfl, Nat.le_of_ble_eq_true rfl⟩) hS (fun q _ h => hFc q h) hFc (fun u81_ t H1 locs ht hvm hw hB hz1 hk1 hS => ?_)
        obtain ⟨w81_, a81_, b81_, ha81_0, hB81_0, hP1, hK1, hD1⟩ := hB
        have hB81_0 : 0 ≤ r78_.toInt ∧ r78_.toInt < (v11 7).toInt → (a81_ 0) = upd f14 ((r78_ : Int32)).toNatClampNeg (-1) := hB81_0
        rw [ht] at hP1
        obtain ⟨hP, hD⟩ := va_join (wr := [(h0, .inr (11, mX11 h1 h4 h11 h18 h23 h32 h33 h40 h48 h49 sp0 lw0)), (h1, .inr (9, mX9 h2 h3 (upd (upd v1 2 (u12_ 0)) 3 (u4_ 0)))), (h2, zi k2 600 f2), (h3, zi k3 12 (a4_ 0)), (h12, .inl (k12, 10, .inr (.inl f12))), (h13, zi k13 10 f13)]) (w1 := [(h11, .inr (10, mX10 h12 h13 h14 h15 h16 h17 v11)), (h14, zi k14 10 (a81_ 0))]) hP hD [4, 7] [0, 1, 2, 3, 5, 6] rfl rfl (by decide) (by decide) hk1 hFc hP1 hD1
        have hP : va_P (dC, dI) vwCl [(h0, .inr (11, mX11 h1 h4 h11 h18 h23 h32 h33 h40 h48 h49 sp0 lw0)), (h1, .inr (9, mX9 h2 h3 (upd (upd v1 2 (u12_ 0)) 3 (u4_ 0)))), (h2, zi k2 600 f2), (h3, zi k3 12 (a4_ 0)), (h11, .inr (10, mX10 h12 h13 h14 h15 h16 h17 v11)), (h12, .inl (k12, 10, .inr (.inl f12))), (h13, zi k13 10 f13), (h14, zi k14 10 (a81_ 0))] H1 := hP.sub [0, 1, 2, 3, 6, 4, 5, 7] rfl
        have hD : va_D A [(h0, .inr (11, mX11 h1 h4 h11 h18 h23 h32 h33 h40 h48 h49 sp0 lw0)), (h1, .inr (9, mX9 h2 h3 (upd (upd v1 2 (u12_ 0)) 3 (u4_ 0)))), (h2, zi k2 600 f2), (h3, zi k3 12 (a4_ 0)), (h11, .inr (10, mX10 h12 h13 h14 h15 h16 h17 v11)), (h12, .inl (k12, 10, .inr (.inl f12))), (h13, zi k13 10 f13), (h14, zi k14 10 (a81_ 0))] := hD.sub [0, 1, 2, 3, 6, 4, 5, 7] (by decide) rfl
        generalize H1 = H at hP hS ⊢
        clear hz1
        refine lv_aload_n hx hb dX11_stop_84 rfl (lv_at hl 2 rfl) ?_
        refine va_get (D := (dC, dI)) (ci := 11) (v := .ref h11) (C := RX11) (T := TX11) (N := 12) hx hb hG zuX11 hown hK hP 0 rfl rfl 2 (by decide) (hG _ zv559) (fun _ h9 => h9) rfl dX11_stop_85 ?_
        have hPc := hP.sub (ws' := [(h11, .inr (10, mX10 h12 h13 h14 h15 h16 h17 v11)), (h14, zi k14 10 (a81_ 0)), (h13, zi k13 10 f13), (h12, .inl (k12, 10, .inr (.inl f12)))]) [4, 7, 6, 5] rfl
        have hDc := hD.sub (ws' := [(h11, .inr (10, mX10 h12 h13 h14 h15 h16 h17 v11)), (h14, zi k14 10 (a81_ 0)), (h13, zi k13 10 f13), (h12, .inl (k12, 10, .inr (.inl f12)))]) [4, 7, 6, 5] (by decide) rfl
        have hKc := hK.sub (tys' := [(k14, .int), (k13, .int), (k12, .long)]) [4, 3, 2] rfl
        have hFc := va_free (wc := [(h11, .inr (10, mX10 h12 h13 h14 h15 h16 h17 v11)), (h14, zi k14 10 (a81_ 0)), (h13, zi k13 10 f13), (h12, .inl (k12, 10, .inr (.inl f12)))]) hD hS hA [4, 7, 6, 5] rfl
        refine va_callv (va_runV (As := []) (rest := []) ⟨hx, hb, hml, hown, hG⟩ (sX10_closeRanks_1 l dC dI adK adV h11 h14 h13 h12 h15 h16 h17 k14 k13 k12 H.size v11 (a81_ 0) f13 f12 hv11 ha81_0 hf13) (cwV 0 hG (zgV zv946 zv822 zv823 zv131 zv824) rfl rfl rfl (by decide +kernel) ⟨Nat.le_of_ble_eq_true rfl, Nat.le_of_ble_eq_true rfl⟩) ⟨zPc_blind, va_recv hKc hPc (ci := 10) (q0 := 0) rfl rfl, zPc_pre hPc hKc hDc hE hS hFc hZ⟩ rfl rfl hl.1 rfl (lv_room (Nat.le_of_ble_eq_true rfl)) dX11_stop_88 ⟨Nat.le_of_ble_eq_true rfl, Nat.le_of_ble_eq_true rfl⟩) hS (fun q _ h => hFc q h) hFc (fun u88_ t H1 locs ht hvm hw hB hz1 hk1 hS => ?_)
        replace hw : (0 ≤ (u88_ 0).toInt ∧ (u88_ 0).toInt ≤ 10) := hw
        have b_ := hw
        obtain ⟨w88_, a88_, b88_, ha88_0, ha88_1, hB88_0, hB88_1, hP1, hK1, hD1⟩ := hB
        have hB88_0 : zClo (a81_ 0) f12 (b88_ 0) f13 (a88_ 1) (v11 7).toInt (u88_ 0).toInt := hB88_0
        have hB88_1 : ∀ j : Nat, (j : Int) < 10 → (a88_ 0) j = 0 := hB88_1
        rw [ht] at hP1
        obtain ⟨hP, hD⟩ := va_join (wr := [(h0, .inr (11, mX11 h1 h4 h11 h18 h23 h32 h33 h40 h48 h49 sp0 lw0)), (h1, .inr (9, mX9 h2 h3 (upd (upd v1 2 (u12_ 0)) 3 (u4_ 0)))), (h2, zi k2 600 f2), (h3, zi k3 12 (a4_ 0))]) (w1 := [(h11, .inr (10, mX10 h12 h13 h14 h15 h16 h17 (upd v11 7 (u88_ 0)))), (h14, zi k14 10 (a88_ 0)), (h13, zi k13 10 (a88_ 1)), (h12, .inl (k12, 10, .inr (.inl (b88_ 0))))]) hP hD [4, 7, 6, 5] [0, 1, 2, 3] rfl rfl (by decide) (by decide) hk1 hFc hP1 hD1
        have hP : va_P (dC, dI) vwCl [(h0, .inr (11, mX11 h1 h4 h11 h18 h23 h32 h33 h40 h48 h49 sp0 lw0)), (h1, .inr (9, mX9 h2 h3 (upd (upd v1 2 (u12_ 0)) 3 (u4_ 0)))), (h2, zi k2 600 f2), (h3, zi k3 12 (a4_ 0)), (h11, .inr (10, mX10 h12 h13 h14 h15 h16 h17 (upd v11 7 (u88_ 0)))), (h12, .inl (k12, 10, .inr (.inl (b88_ 0)))), (h13, zi k13 10 (a88_ 1)), (h14, zi k14 10 (a88_ 0))] H1 := hP.sub [0, 1, 2, 3, 4, 7, 6, 5] rfl
        have hD : va_D A [(h0, .inr (11, mX11 h1 h4 h11 h18 h23 h32 h33 h40 h48 h49 sp0 lw0)), (h1, .inr (9, mX9 h2 h3 (upd (upd v1 2 (u12_ 0)) 3 (u4_ 0)))), (h2, zi k2 600 f2), (h3, zi k3 12 (a4_ 0)), (h11, .inr (10, mX10 h12 h13 h14 h15 h16 h17 (upd v11 7 (u88_ 0)))), (h12, .inl (k12, 10, .inr (.inl (b88_ 0)))), (h13, zi k13 10 (a88_ 1)), (h14, zi k14 10 (a88_ 0))] := hD.sub [0, 1, 2, 3, 4, 7, 6, 5] (by decide) rfl
        generalize H1 = H at hP hS ⊢
        clear hz1
        refine lv_aload_n hx hb dX11_stop_91 rfl (lv_at hl 2 rfl) ?_
        refine va_get (D := (dC, dI)) (ci := 11) (v := .ref h11) (C := RX11) (T := TX11) (N := 12) hx hb hG zuX11 hown hK hP 0 rfl rfl 2 (by decide) (hG _ zv559) (fun _ h9 => h9) rfl dX11_stop_92 ?_
        have hPc := hP.sub (ws' := [(h11, .inr (10, mX10 h12 h13 h14 h15 h16 h17 (upd v11 7 (u88_ 0))))]) [4] rfl
        have hDc := hD.sub (ws' := [(h11, .inr (10, mX10 h12 h13 h14 h15 h16 h17 (upd v11 7 (u88_ 0))))]) [4] (by decide) rfl
        have hKc := hK.sub (tys' := []) [] rfl
        have hFc := va_free (wc := [(h11, .inr (10, mX10 h12 h13 h14 h15 h16 h17 (upd v11 7 (u88_ 0))))]) hD hS hA [4] rfl
        refine va_calli (va_runV (As := []) (rest := []) ⟨hx, hb, hml, hown, hG⟩ (sX10_size_1 l dC dI adK adV h11 h12 h13 h14 h15 h16 h17 H.size (upd v11 7 (u88_ 0)) (zR_up2 hv11 7 (show (0 : Int) ≤ ((u88_ 0) : Int32).toInt ∧ ((u88_ 0) : Int32).toInt ≤ (10 : Int) from (by first | with_reducible assumption | exact ⟨by omega, by omega⟩)))) (cwV 0 hG (zgV zv626 zv627 zv628 zv131 zv629) rfl rfl rfl (by decide +kernel) ⟨Nat.le_of_ble_eq_true rfl, Nat.le_of_ble_eq_true rfl⟩) ⟨zPc_blind, va_recv hKc hPc (ci := 10) (q0 := 0) rfl rfl, zPc_pre hPc hKc hDc hE hS hFc hZ⟩ rfl rfl hl.1 rfl (lv_room (Nat.le_of_ble_eq_true rfl)) dX11_stop_95 ⟨Nat.le_of_ble_eq_true rfl, Nat.le_of_ble_eq_true rfl⟩) hS (fun q _ h => hFc q h) hFc (fun r95_ u95_ t H1 locs ht hvm hw hB hz1 hk1 hS => ?_)
        replace hw : (0 ≤ r95_.toInt ∧ r95_.toInt ≤ 10) ∧ (r95_.toInt = (u88_ 0).toInt) ∧ (r95_.toInt = (u88_ 0).toInt) := hw
        obtain ⟨b_, hX95_0, hX95_1⟩ := hw
        obtain ⟨w95_, a95_, b95_, hP1, hK1, hD1⟩ := hB
        rw [ht] at hP1
        obtain ⟨hP, hD⟩ := va_join (wr := [(h0, .inr (11, mX11 h1 h4 h11 h18 h23 h32 h33 h40 h48 h49 sp0 lw0)), (h1, .inr (9, mX9 h2 h3 (upd (upd v1 2 (u12_ 0)) 3 (u4_ 0)))), (h2, zi k2 600 f2), (h3, zi k3 12 (a4_ 0)), (h12, .inl (k12, 10, .inr (.inl (b88_ 0)))), (h13, zi k13 10 (a88_ 1)), (h14, zi k14 10 (a88_ 0))]) (w1 := [(h11, .inr (10, mX10 h12 h13 h14 h15 h16 h17 (upd v11 7 (u88_ 0))))]) hP hD [4] [0, 1, 2, 3, 5, 6, 7] rfl rfl (by decide) (by decide) hk1 hFc hP1 hD1
        have hP : va_P (dC, dI) vwCl [(h0, .inr (11, mX11 h1 h4 h11 h18 h23 h32 h33 h40 h48 h49 sp0 lw0)), (h1, .inr (9, mX9 h2 h3 (upd (upd v1 2 (u12_ 0)) 3 (u4_ 0)))), (h2, zi k2 600 f2), (h3, zi k3 12 (a4_ 0)), (h11, .inr (10, mX10 h12 h13 h14 h15 h16 h17 (upd v11 7 (u88_ 0)))), (h12, .inl (k12, 10, .inr (.inl (b88_ 0)))), (h13, zi k13 10 (a88_ 1)), (h14, zi k14 10 (a88_ 0))] H1 := hP.sub [0, 1, 2, 3, 7, 4, 5, 6] rfl
        have hD : va_D A [(h0, .inr (11, mX11 h1 h4 h11 h18 h23 h32 h33 h40 h48 h49 sp0 lw0)), (h1, .inr (9, mX9 h2 h3 (upd (upd v1 2 (u12_ 0)) 3 (u4_ 0)))), (h2, zi k2 600 f2), (h3, zi k3 12 (a4_ 0)), (h11, .inr (10, mX10 h12 h13 h14 h15 h16 h17 (upd v11 7 (u88_ 0)))), (h12, .inl (k12, 10, .inr (.inl (b88_ 0)))), (h13, zi k13 10 (a88_ 1)), (h14, zi k14 10 (a88_ 0))] := hD.sub [0, 1, 2, 3, 7, 4, 5, 6] (by decide) rfl
        generalize H1 = H at hP hS ⊢
        clear hz1
        refine W.widen (k := 0) (n := 0) (by decide) (by decide) ?_
        have hpost : ((-2) ≤ r95_.toInt ∧ r95_.toInt ≤ 10) ∧ (0 ≤ (u12_ 0).toInt ∧ (u12_ 0).toInt ≤ 0) ∧ (0 ≤ (u4_ 0).toInt ∧ (u4_ 0).toInt ≤ 12) ∧ (0 ≤ (u88_ 0).toInt ∧ (u88_ 0).toInt ≤ 10) ∧ (r95_.toInt = r95_.toInt) := ⟨(by first | with_reducible assumption | exact ⟨by omega, by omega⟩), (by first | with_reducible assumption | exact ⟨by omega, by omega⟩), (by first | with_reducible assumption | exact ⟨by omega, by omega⟩), (by first | with_reducible assumption | exact ⟨by omega, by omega⟩), rfl⟩
        have hP9 : va_P (dC, dI) vwCl [(h0, .inr (11, mX11 h1 h4 h11 h18 h23 h32 h33 h40 h48 h49 sp0 lw0)), (h1, .inr (9, mX9 h2 h3 (upd (upd v1 2 (u12_ 0)) 3 (u4_ 0)))), (h2, zi k2 600 f2), (h3, zi k3 12 (a4_ 0)), (h11, .inr (10, mX10 h12 h13 h14 h15 h16 h17 (upd v11 7 (u88_ 0)))), (h12, .inl (k12, 10, .inr (.inl (b88_ 0)))), (h13, zi k13 10 (a88_ 1)), (h14, zi k14 10 (a88_ 0))] H := hP
        have hD9 : va_D A [(h0, .inr (11, mX11 h1 h4 h11 h18 h23 h32 h33 h40 h48 h49 sp0 lw0)), (h1, .inr (9, mX9 h2 h3 (upd (upd v1 2 (u12_ 0)) 3 (u4_ 0)))), (h2, zi k2 600 f2), (h3, zi k3 12 (a4_ 0)), (h11, .inr (10, mX10 h12 h13 h14 h15 h16 h17 (upd v11 7 (u88_ 0)))), (h12, .inl (k12, 10, .inr (.inl (b88_ 0)))), (h13, zi k13 10 (a88_ 1)), (h14, zi k14 10 (a88_ 0))] := hD
        have hB0 : zSd f12 f13 f14 (v11 7).toInt → zSd (b88_ 0) (a88_ 1) (a88_ 0) (u88_ 0).toInt ∧ ∃ x : Int, zFW f2 (v1 2).toInt x ∧ zStp x1.toInt x (v11 7).toInt (u88_ 0).toInt r95_.toInt (zHas f12 (v11 7).toInt) (zHas (b88_ 0) (u88_ 0).toInt) := by first | exact zst1 hX4_0 (by omega) (by omega) (by omega) | exact zst2 hX4_0 (by omega) hX28_1 (by omega) (by omega) (by omega) (by omega) (by omega) (hB48_1 (by omega)) | exact zst3 hX4_0 (by omega) hX28_1 (by omega) (by omega) (by omega) (by omega) (by omega) (Or.resolve_left hB48_0 (by omega)) | exact zst6 hX4_0 (by omega) hX28_1 (by omega) (by omega) (by omega) hX78_0 hB81_0 hB88_0 (fun j hj => hB88_1 j (by omega)) (by omega) | exact zst4 hX4_0 (by omega) hX28_1 (by omega) (by omega) (by omega)
        exact W.iret (v := r95_) hx hb hr (fun t ht hW => ⟨⟨r95_, (fun i => ([(u12_ 0), (u4_ 0), (u88_ 0), r95_] : List (Int32)).getD i 0), rfl, hpost, (fun _ => 0), (fun i => ([(a4_ 0), (a88_ 1), (a88_ 0)] : List (Nat → Int32)).getD i (fun _ => 0)), (fun i => ([(b88_ 0)] : List (Nat → Int64)).getD i (fun _ => 0)), ha88_1, ha88_0, hB0, by rw [ht]; exact hP9, va_K.moved hW.alike hK, hD9⟩, hS.F ht⟩) hS.2.2 dX11_stop_98
    · skip
      have b_ := zF_eq rfl zk_0 c_
      refine lv_iload hx hb dX11_stop_37 (lv_at hl 0 rfl) ?_
      refine lv_iconst (v := (-1)) hx hb dX11_stop_39 (by decide) ?_
      refine lv_icmp_ne (tgt := 58) hx hb dX11_stop_40 (by decide) (fun c_ => ?_) (fun c_ => ?_)
      · skip
        have b_ := zT_ne rfl zk_m1 c_
        refine lv_iload_n hx hb dX11_stop_58 rfl (lv_at hl 3 rfl) ?_
        refine lv_if_ne (tgt := 91) hx hb dX11_stop_59 (by decide) (fun c_ => ?_) (fun c_ => False.elim (by have b_ := zF_ne rfl zk_0 c_; omega))
        have b_ := zT_ne rfl zk_0 c_
        refine lv_aload_n hx hb dX11_stop_91 rfl (lv_at hl 2 rfl) ?_
        refine va_get (D := (dC, dI)) (ci := 11) (v := .ref h11) (C := RX11) (T := TX11) (N := 12) hx hb hG zuX11 hown hK hP 0 rfl rfl 2 (by decide) (hG _ zv559) (fun _ h9 => h9) rfl dX11_stop_92 ?_
        have hPc := hP.sub (ws' := [(h11, .inr (10, mX10 h12 h13 h14 h15 h16 h17 v11))]) [4] rfl
        have hDc := hD.sub (ws' := [(h11, .inr (10, mX10 h12 h13 h14 h15 h16 h17 v11))]) [4] (by decide) rfl
        have hKc := hK.sub (tys' := []) [] rfl
        have hFc := va_free (wc := [(h11, .inr (10, mX10 h12 h13 h14 h15 h16 h17 v11))]) hD hS hA [4] rfl
        refine va_calli (va_runV (As := []) (rest := []) ⟨hx, hb, hml, hown, hG⟩ (sX10_size_1 l dC dI adK adV h11 h12 h13 h14 h15 h16 h17 H.size v11 hv11) (cwV 0 hG (zgV zv626 zv627 zv628 zv131 zv629) rfl rfl rfl (by decide +kernel) ⟨Nat.le_of_ble_eq_true rfl, Nat.le_of_ble_eq_true rfl⟩) ⟨zPc_blind, va_recv hKc hPc (ci := 10) (q0 := 0) rfl rfl, zPc_pre hPc hKc hDc hE hS hFc hZ⟩ rfl rfl hl.1 rfl (lv_room (Nat.le_of_ble_eq_true rfl)) dX11_stop_95 ⟨Nat.le_of_ble_eq_true rfl, Nat.le_of_ble_eq_true rfl⟩) hS (fun q _ h => hFc q h) hFc (fun r95_ u95_ t H1 locs ht hvm hw hB hz1 hk1 hS => ?_)
        replace hw : (0 ≤ r95_.toInt ∧ r95_.toInt ≤ 10) ∧ (r95_.toInt = (v11 7).toInt) ∧ (r95_.toInt = (v11 7).toInt) := hw
        obtain ⟨b_, hX95_0, hX95_1⟩ := hw
        obtain ⟨w95_, a95_, b95_, hP1, hK1, hD1⟩ := hB
        rw [ht] at hP1
        obtain ⟨hP, hD⟩ := va_join (wr := [(h0, .inr (11, mX11 h1 h4 h11 h18 h23 h32 h33 h40 h48 h49 sp0 lw0)), (h1, .inr (9, mX9 h2 h3 (upd (upd v1 2 (u12_ 0)) 3 (u4_ 0)))), (h2, zi k2 600 f2), (h3, zi k3 12 (a4_ 0)), (h12, .inl (k12, 10, .inr (.inl f12))), (h13, zi k13 10 f13), (h14, zi k14 10 f14)]) (w1 := [(h11, .inr (10, mX10 h12 h13 h14 h15 h16 h17 v11))]) hP hD [4] [0, 1, 2, 3, 5, 6, 7] rfl rfl (by decide) (by decide) hk1 hFc hP1 hD1
        have hP : va_P (dC, dI) vwCl [(h0, .inr (11, mX11 h1 h4 h11 h18 h23 h32 h33 h40 h48 h49 sp0 lw0)), (h1, .inr (9, mX9 h2 h3 (upd (upd v1 2 (u12_ 0)) 3 (u4_ 0)))), (h2, zi k2 600 f2), (h3, zi k3 12 (a4_ 0)), (h11, .inr (10, mX10 h12 h13 h14 h15 h16 h17 v11)), (h12, .inl (k12, 10, .inr (.inl f12))), (h13, zi k13 10 f13), (h14, zi k14 10 f14)] H1 := hP.sub [0, 1, 2, 3, 7, 4, 5, 6] rfl
        have hD : va_D A [(h0, .inr (11, mX11 h1 h4 h11 h18 h23 h32 h33 h40 h48 h49 sp0 lw0)), (h1, .inr (9, mX9 h2 h3 (upd (upd v1 2 (u12_ 0)) 3 (u4_ 0)))), (h2, zi k2 600 f2), (h3, zi k3 12 (a4_ 0)), (h11, .inr (10, mX10 h12 h13 h14 h15 h16 h17 v11)), (h12, .inl (k12, 10, .inr (.inl f12))), (h13, zi k13 10 f13), (h14, zi k14 10 f14)] := hD.sub [0, 1, 2, 3, 7, 4, 5, 6] (by decide) rfl
        generalize H1 = H at hP hS ⊢
        clear hz1
        refine W.widen (k := 0) (n := 0) (by decide) (by decide) ?_
        have hpost : ((-2) ≤ r95_.toInt ∧ r95_.toInt ≤ 10) ∧ (0 ≤ (u12_ 0).toInt ∧ (u12_ 0).toInt ≤ 0) ∧ (0 ≤ (u4_ 0).toInt ∧ (u4_ 0).toInt ≤ 12) ∧ (0 ≤ (v11 7).toInt ∧ (v11 7).toInt ≤ 10) ∧ (r95_.toInt = r95_.toInt) := ⟨(by first | with_reducible assumption | exact ⟨by omega, by omega⟩), (by first | with_reducible assumption | exact ⟨by omega, by omega⟩), (by first | with_reducible assumption | exact ⟨by omega, by omega⟩), (by first | with_reducible assumption | exact ⟨by omega, by omega⟩), rfl⟩
        have hP9 : va_P (dC, dI) vwCl [(h0, .inr (11, mX11 h1 h4 h11 h18 h23 h32 h33 h40 h48 h49 sp0 lw0)), (h1, .inr (9, mX9 h2 h3 (upd (upd v1 2 (u12_ 0)) 3 (u4_ 0)))), (h2, zi k2 600 f2), (h3, zi k3 12 (a4_ 0)), (h11, .inr (10, mX10 h12 h13 h14 h15 h16 h17 (upd v11 7 (v11 7)))), (h12, .inl (k12, 10, .inr (.inl f12))), (h13, zi k13 10 f13), (h14, zi k14 10 f14)] H := hP
        have hD9 : va_D A [(h0, .inr (11, mX11 h1 h4 h11 h18 h23 h32 h33 h40 h48 h49 sp0 lw0)), (h1, .inr (9, mX9 h2 h3 (upd (upd v1 2 (u12_ 0)) 3 (u4_ 0)))), (h2, zi k2 600 f2), (h3, zi k3 12 (a4_ 0)), (h11, .inr (10, mX10 h12 h13 h14 h15 h16 h17 (upd v11 7 (v11 7)))), (h12, .inl (k12, 10, .inr (.inl f12))), (h13, zi k13 10 f13), (h14, zi k14 10 f14)] := hD
        have hB0 : zSd f12 f13 f14 (v11 7).toInt → zSd f12 f13 f14 (v11 7).toInt ∧ ∃ x : Int, zFW f2 (v1 2).toInt x ∧ zStp x1.toInt x (v11 7).toInt (v11 7).toInt r95_.toInt (zHas f12 (v11 7).toInt) (zHas f12 (v11 7).toInt) := by first | exact zst1 hX4_0 (by omega) (by omega) (by omega) | exact zst2 hX4_0 (by omega) hX28_1 (by omega) (by omega) (by omega) (by omega) (by omega) (hB48_1 (by omega)) | exact zst3 hX4_0 (by omega) hX28_1 (by omega) (by omega) (by omega) (by omega) (by omega) (Or.resolve_left hB48_0 (by omega)) | exact zst6 hX4_0 (by omega) hX28_1 (by omega) (by omega) (by omega) hX78_0 hB81_0 hB88_0 (fun j hj => hB88_1 j (by omega)) (by omega) | exact zst4 hX4_0 (by omega) hX28_1 (by omega) (by omega) (by omega)
        exact W.iret (v := r95_) hx hb hr (fun t ht hW => ⟨⟨r95_, (fun i => ([(u12_ 0), (u4_ 0), (v11 7), r95_] : List (Int32)).getD i 0), rfl, hpost, (fun _ => 0), (fun i => ([(a4_ 0), f13, f14] : List (Nat → Int32)).getD i (fun _ => 0)), (fun i => ([f12] : List (Nat → Int64)).getD i (fun _ => 0)), hf13, hf14, hB0, by rw [ht]; exact hP9, va_K.moved hW.alike hK, hD9⟩, hS.F ht⟩) hS.2.2 dX11_stop_98
      · skip
        have b_ := zF_ne rfl zk_m1 c_
        refine lv_aload_n hx hb dX11_stop_43 rfl (lv_at hl 2 rfl) ?_
        refine va_get (D := (dC, dI)) (ci := 11) (v := .ref h11) (C := RX11) (T := TX11) (N := 12) hx hb hG zuX11 hown hK hP 0 rfl rfl 2 (by decide) (hG _ zv559) (fun _ h9 => h9) rfl dX11_stop_44 ?_
        refine lv_lload_n hx hb dX11_stop_47 rfl (lv_at hl 1 rfl) ?_
        have hPc := hP.sub (ws' := [(h11, .inr (10, mX10 h12 h13 h14 h15 h16 h17 v11)), (h12, .inl (k12, 10, .inr (.inl f12))), (h13, zi k13 10 f13)]) [4, 5, 6] rfl
        have hDc := hD.sub (ws' := [(h11, .inr (10, mX10 h12 h13 h14 h15 h16 h17 v11)), (h12, .inl (k12, 10, .inr (.inl f12))), (h13, zi k13 10 f13)]) [4, 5, 6] (by decide) rfl
        have hKc := hK.sub (tys' := [(k12, .long), (k13, .int)]) [2, 3] rfl
        have hFc := va_free (wc := [(h11, .inr (10, mX10 h12 h13 h14 h15 h16 h17 v11)), (h12, .inl (k12, 10, .inr (.inl f12))), (h13, zi k13 10 f13)]) hD hS hA [4, 5, 6] rfl
        refine va_calli (va_runV (As := [.long r4_]) (rest := []) ⟨hx, hb, hml, hown, hG⟩ (sX10_add_1 l dC dI adK adV h11 h12 h13 h14 h15 h16 h17 k12 k13 H.size v11 f12 f13 r4_ hv11 hf13) (cwV 1 hG (zgV zv962 zv757 zv758 zv131 zv759) rfl rfl rfl (by decide +kernel) ⟨Nat.le_of_ble_eq_true rfl, Nat.le_of_ble_eq_true rfl⟩) ⟨zPc_blind, va_recv hKc hPc (ci := 10) (q0 := 0) rfl rfl, zPc_pre hPc hKc hDc hE hS hFc hZ⟩ rfl rfl hl.1 rfl (lv_room (Nat.le_of_ble_eq_true rfl)) dX11_stop_48 ⟨Nat.le_of_ble_eq_true rfl, Nat.le_of_ble_eq_true rfl⟩) hS (fun q _ h => hFc q h) hFc (fun r48_ u48_ t H1 locs ht hvm hw hB hz1 hk1 hS => ?_)
        replace hw : ((-1) ≤ r48_.toInt ∧ r48_.toInt ≤ 9) ∧ (1 ≤ (u48_ 0).toInt ∧ (u48_ 0).toInt ≤ 10) ∧ (r48_.toInt = -1 → (v11 0).toInt ≤ (v11 7).toInt ∧ (u48_ 0).toInt = (v11 7).toInt) ∧ (r48_.toInt ≠ -1 → (v11 7).toInt < (v11 0).toInt ∧ (u48_ 0).toInt = (v11 7).toInt + 1 ∧ r48_.toInt = (v11 7).toInt) ∧ (r48_.toInt = (u48_ 1).toInt) := hw
        obtain ⟨b_, b_, hX48_0, hX48_1, b_⟩ := hw
        obtain ⟨w48_, a48_, b48_, ha48_0, hB48_0, hB48_1, hP1, hK1, hD1⟩ := hB
        have hB48_0 : (u48_ 1).toInt = -1 ∨ zIns f12 (b48_ 0) f13 (a48_ 0) (v11 7).toInt r4_.toInt := hB48_0
        have hB48_1 : (u48_ 1).toInt = -1 → ∀ j : Nat, (b48_ 0) j = f12 j ∧ (a48_ 0) j = f13 j := hB48_1
        rw [ht] at hP1
        obtain ⟨hP, hD⟩ := va_join (wr := [(h0, .inr (11, mX11 h1 h4 h11 h18 h23 h32 h33 h40 h48 h49 sp0 lw0)), (h1, .inr (9, mX9 h2 h3 (upd (upd v1 2 (u12_ 0)) 3 (u4_ 0)))), (h2, zi k2 600 f2), (h3, zi k3 12 (a4_ 0)), (h14, zi k14 10 f14)]) (w1 := [(h11, .inr (10, mX10 h12 h13 h14 h15 h16 h17 (upd v11 7 (u48_ 0)))), (h12, .inl (k12, 10, .inr (.inl (b48_ 0)))), (h13, zi k13 10 (a48_ 0))]) hP hD [4, 5, 6] [0, 1, 2, 3, 7] rfl rfl (by decide) (by decide) hk1 hFc hP1 hD1
        have hP : va_P (dC, dI) vwCl [(h0, .inr (11, mX11 h1 h4 h11 h18 h23 h32 h33 h40 h48 h49 sp0 lw0)), (h1, .inr (9, mX9 h2 h3 (upd (upd v1 2 (u12_ 0)) 3 (u4_ 0)))), (h2, zi k2 600 f2), (h3, zi k3 12 (a4_ 0)), (h11, .inr (10, mX10 h12 h13 h14 h15 h16 h17 (upd v11 7 (u48_ 0)))), (h12, .inl (k12, 10, .inr (.inl (b48_ 0)))), (h13, zi k13 10 (a48_ 0)), (h14, zi k14 10 f14)] H1 := hP.sub [0, 1, 2, 3, 5, 6, 7, 4] rfl
        have hD : va_D A [(h0, .inr (11, mX11 h1 h4 h11 h18 h23 h32 h33 h40 h48 h49 sp0 lw0)), (h1, .inr (9, mX9 h2 h3 (upd (upd v1 2 (u12_ 0)) 3 (u4_ 0)))), (h2, zi k2 600 f2), (h3, zi k3 12 (a4_ 0)), (h11, .inr (10, mX10 h12 h13 h14 h15 h16 h17 (upd v11 7 (u48_ 0)))), (h12, .inl (k12, 10, .inr (.inl (b48_ 0)))), (h13, zi k13 10 (a48_ 0)), (h14, zi k14 10 f14)] := hD.sub [0, 1, 2, 3, 5, 6, 7, 4] (by decide) rfl
        generalize H1 = H at hP hS ⊢
        clear hz1
        refine lv_iconst (v := (-1)) hx hb dX11_stop_51 (by decide) ?_
        refine lv_icmp_ne (tgt := 58) hx hb dX11_stop_52 (by decide) (fun c_ => ?_) (fun c_ => ?_)
        · skip
          have b_ := zT_ne rfl zk_m1 c_
          refine lv_iload_n hx hb dX11_stop_58 rfl (lv_at hl 3 rfl) ?_
          refine lv_if_ne (tgt := 91) hx hb dX11_stop_59 (by decide) (fun c_ => ?_) (fun c_ => False.elim (by have b_ := zF_ne rfl zk_0 c_; omega))
          have b_ := zT_ne rfl zk_0 c_
          refine lv_aload_n hx hb dX11_stop_91 rfl (lv_at hl 2 rfl) ?_
          refine va_get (D := (dC, dI)) (ci := 11) (v := .ref h11) (C := RX11) (T := TX11) (N := 12) hx hb hG zuX11 hown hK hP 0 rfl rfl 2 (by decide) (hG _ zv559) (fun _ h9 => h9) rfl dX11_stop_92 ?_
          have hPc := hP.sub (ws' := [(h11, .inr (10, mX10 h12 h13 h14 h15 h16 h17 (upd v11 7 (u48_ 0))))]) [4] rfl
          have hDc := hD.sub (ws' := [(h11, .inr (10, mX10 h12 h13 h14 h15 h16 h17 (upd v11 7 (u48_ 0))))]) [4] (by decide) rfl
          have hKc := hK.sub (tys' := []) [] rfl
          have hFc := va_free (wc := [(h11, .inr (10, mX10 h12 h13 h14 h15 h16 h17 (upd v11 7 (u48_ 0))))]) hD hS hA [4] rfl
          refine va_calli (va_runV (As := []) (rest := []) ⟨hx, hb, hml, hown, hG⟩ (sX10_size_1 l dC dI adK adV h11 h12 h13 h14 h15 h16 h17 H.size (upd v11 7 (u48_ 0)) (zR_up2 hv11 7 (show (0 : Int) ≤ ((u48_ 0) : Int32).toInt ∧ ((u48_ 0) : Int32).toInt ≤ (10 : Int) from (by first | with_reducible assumption | exact ⟨by omega, by omega⟩)))) (cwV 0 hG (zgV zv626 zv627 zv628 zv131 zv629) rfl rfl rfl (by decide +kernel) ⟨Nat.le_of_ble_eq_true rfl, Nat.le_of_ble_eq_true rfl⟩) ⟨zPc_blind, va_recv hKc hPc (ci := 10) (q0 := 0) rfl rfl, zPc_pre hPc hKc hDc hE hS hFc hZ⟩ rfl rfl hl.1 rfl (lv_room (Nat.le_of_ble_eq_true rfl)) dX11_stop_95 ⟨Nat.le_of_ble_eq_true rfl, Nat.le_of_ble_eq_true rfl⟩) hS (fun q _ h => hFc q h) hFc (fun r95_ u95_ t H1 locs ht hvm hw hB hz1 hk1 hS => ?_)
          replace hw : (0 ≤ r95_.toInt ∧ r95_.toInt ≤ 10) ∧ (r95_.toInt = (u48_ 0).toInt) ∧ (r95_.toInt = (u48_ 0).toInt) := hw
          obtain ⟨b_, hX95_0, hX95_1⟩ := hw
          obtain ⟨w95_, a95_, b95_, hP1, hK1, hD1⟩ := hB
          rw [ht] at hP1
          obtain ⟨hP, hD⟩ := va_join (wr := [(h0, .inr (11, mX11 h1 h4 h11 h18 h23 h32 h33 h40 h48 h49 sp0 lw0)), (h1, .inr (9, mX9 h2 h3 (upd (upd v1 2 (u12_ 0)) 3 (u4_ 0)))), (h2, zi k2 600 f2), (h3, zi k3 12 (a4_ 0)), (h12, .inl (k12, 10, .inr (.inl (b48_ 0)))), (h13, zi k13 10 (a48_ 0)), (h14, zi k14 10 f14)]) (w1 := [(h11, .inr (10, mX10 h12 h13 h14 h15 h16 h17 (upd v11 7 (u48_ 0))))]) hP hD [4] [0, 1, 2, 3, 5, 6, 7] rfl rfl (by decide) (by decide) hk1 hFc hP1 hD1
          have hP : va_P (dC, dI) vwCl [(h0, .inr (11, mX11 h1 h4 h11 h18 h23 h32 h33 h40 h48 h49 sp0 lw0)), (h1, .inr (9, mX9 h2 h3 (upd (upd v1 2 (u12_ 0)) 3 (u4_ 0)))), (h2, zi k2 600 f2), (h3, zi k3 12 (a4_ 0)), (h11, .inr (10, mX10 h12 h13 h14 h15 h16 h17 (upd v11 7 (u48_ 0)))), (h12, .inl (k12, 10, .inr (.inl (b48_ 0)))), (h13, zi k13 10 (a48_ 0)), (h14, zi k14 10 f14)] H1 := hP.sub [0, 1, 2, 3, 7, 4, 5, 6] rfl
          have hD : va_D A [(h0, .inr (11, mX11 h1 h4 h11 h18 h23 h32 h33 h40 h48 h49 sp0 lw0)), (h1, .inr (9, mX9 h2 h3 (upd (upd v1 2 (u12_ 0)) 3 (u4_ 0)))), (h2, zi k2 600 f2), (h3, zi k3 12 (a4_ 0)), (h11, .inr (10, mX10 h12 h13 h14 h15 h16 h17 (upd v11 7 (u48_ 0)))), (h12, .inl (k12, 10, .inr (.inl (b48_ 0)))), (h13, zi k13 10 (a48_ 0)), (h14, zi k14 10 f14)] := hD.sub [0, 1, 2, 3, 7, 4, 5, 6] (by decide) rfl
          generalize H1 = H at hP hS ⊢
          clear hz1
          refine W.widen (k := 0) (n := 0) (by decide) (by decide) ?_
          have hpost : ((-2) ≤ r95_.toInt ∧ r95_.toInt ≤ 10) ∧ (0 ≤ (u12_ 0).toInt ∧ (u12_ 0).toInt ≤ 0) ∧ (0 ≤ (u4_ 0).toInt ∧ (u4_ 0).toInt ≤ 12) ∧ (0 ≤ (u48_ 0).toInt ∧ (u48_ 0).toInt ≤ 10) ∧ (r95_.toInt = r95_.toInt) := ⟨(by first | with_reducible assumption | exact ⟨by omega, by omega⟩), (by first | with_reducible assumption | exact ⟨by omega, by omega⟩), (by first | with_reducible assumption | exact ⟨by omega, by omega⟩), (by first | with_reducible assumption | exact ⟨by omega, by omega⟩), rfl⟩
          have hP9 : va_P (dC, dI) vwCl [(h0, .inr (11, mX11 h1 h4 h11 h18 h23 h32 h33 h40 h48 h49 sp0 lw0)), (h1, .inr (9, mX9 h2 h3 (upd (upd v1 2 (u12_ 0)) 3 (u4_ 0)))), (h2, zi k2 600 f2), (h3, zi k3 12 (a4_ 0)), (h11, .inr (10, mX10 h12 h13 h14 h15 h16 h17 (upd v11 7 (u48_ 0)))), (h12, .inl (k12, 10, .inr (.inl (b48_ 0)))), (h13, zi k13 10 (a48_ 0)), (h14, zi k14 10 f14)] H := hP
          have hD9 : va_D A [(h0, .inr (11, mX11 h1 h4 h11 h18 h23 h32 h33 h40 h48 h49 sp0 lw0)), (h1, .inr (9, mX9 h2 h3 (upd (upd v1 2 (u12_ 0)) 3 (u4_ 0)))), (h2, zi k2 600 f2), (h3, zi k3 12 (a4_ 0)), (h11, .inr (10, mX10 h12 h13 h14 h15 h16 h17 (upd v11 7 (u48_ 0)))), (h12, .inl (k12, 10, .inr (.inl (b48_ 0)))), (h13, zi k13 10 (a48_ 0)), (h14, zi k14 10 f14)] := hD
          have hB0 : zSd f12 f13 f14 (v11 7).toInt → zSd (b48_ 0) (a48_ 0) f14 (u48_ 0).toInt ∧ ∃ x : Int, zFW f2 (v1 2).toInt x ∧ zStp x1.toInt x (v11 7).toInt (u48_ 0).toInt r95_.toInt (zHas f12 (v11 7).toInt) (zHas (b48_ 0) (u48_ 0).toInt) := by first | exact zst1 hX4_0 (by omega) (by omega) (by omega) | exact zst2 hX4_0 (by omega) hX28_1 (by omega) (by omega) (by omega) (by omega) (by omega) (hB48_1 (by omega)) | exact zst3 hX4_0 (by omega) hX28_1 (by omega) (by omega) (by omega) (by omega) (by omega) (Or.resolve_left hB48_0 (by omega)) | exact zst6 hX4_0 (by omega) hX28_1 (by omega) (by omega) (by omega) hX78_0 hB81_0 hB88_0 (fun j hj => hB88_1 j (by omega)) (by omega) | exact zst4 hX4_0 (by omega) hX28_1 (by omega) (by omega) (by omega)
          exact W.iret (v := r95_) hx hb hr (fun t ht hW => ⟨⟨r95_, (fun i => ([(u12_ 0), (u4_ 0), (u48_ 0), r95_] : List (Int32)).getD i 0), rfl, hpost, (fun _ => 0), (fun i => ([(a4_ 0), (a48_ 0), f14] : List (Nat → Int32)).getD i (fun _ => 0)), (fun i => ([(b48_ 0)] : List (Nat → Int64)).getD i (fun _ => 0)), ha48_0, hf14, hB0, by rw [ht]; exact hP9, va_K.moved hW.alike hK, hD9⟩, hS.F ht⟩) hS.2.2 dX11_stop_98
        · skip
          have b_ := zF_ne rfl zk_m1 c_
          refine lv_bipush (v := (-2)) hx hb dX11_stop_55 (by decide) ?_
          refine W.widen (k := 0) (n := 0) (by decide) (by decide) ?_
          have hpost : ((-2) ≤ ((-2) : Int32).toInt ∧ ((-2) : Int32).toInt ≤ 10) ∧ (0 ≤ (u12_ 0).toInt ∧ (u12_ 0).toInt ≤ 0) ∧ (0 ≤ (u4_ 0).toInt ∧ (u4_ 0).toInt ≤ 12) ∧ (0 ≤ (u48_ 0).toInt ∧ (u48_ 0).toInt ≤ 10) ∧ (((-2) : Int32).toInt = ((-2) : Int32).toInt) := ⟨(by first | with_reducible assumption | exact ⟨by omega, by omega⟩), (by first | with_reducible assumption | exact ⟨by omega, by omega⟩), (by first | with_reducible assumption | exact ⟨by omega, by omega⟩), (by first | with_reducible assumption | exact ⟨by omega, by omega⟩), rfl⟩
          have hP9 : va_P (dC, dI) vwCl [(h0, .inr (11, mX11 h1 h4 h11 h18 h23 h32 h33 h40 h48 h49 sp0 lw0)), (h1, .inr (9, mX9 h2 h3 (upd (upd v1 2 (u12_ 0)) 3 (u4_ 0)))), (h2, zi k2 600 f2), (h3, zi k3 12 (a4_ 0)), (h11, .inr (10, mX10 h12 h13 h14 h15 h16 h17 (upd v11 7 (u48_ 0)))), (h12, .inl (k12, 10, .inr (.inl (b48_ 0)))), (h13, zi k13 10 (a48_ 0)), (h14, zi k14 10 f14)] H := hP
          have hD9 : va_D A [(h0, .inr (11, mX11 h1 h4 h11 h18 h23 h32 h33 h40 h48 h49 sp0 lw0)), (h1, .inr (9, mX9 h2 h3 (upd (upd v1 2 (u12_ 0)) 3 (u4_ 0)))), (h2, zi k2 600 f2), (h3, zi k3 12 (a4_ 0)), (h11, .inr (10, mX10 h12 h13 h14 h15 h16 h17 (upd v11 7 (u48_ 0)))), (h12, .inl (k12, 10, .inr (.inl (b48_ 0)))), (h13, zi k13 10 (a48_ 0)), (h14, zi k14 10 f14)] := hD
          have hB0 : zSd f12 f13 f14 (v11 7).toInt → zSd (b48_ 0) (a48_ 0) f14 (u48_ 0).toInt ∧ ∃ x : Int, zFW f2 (v1 2).toInt x ∧ zStp x1.toInt x (v11 7).toInt (u48_ 0).toInt ((-2) : Int32).toInt (zHas f12 (v11 7).toInt) (zHas (b48_ 0) (u48_ 0).toInt) := by first | exact zst1 hX4_0 (by omega) (by omega) (by omega) | exact zst2 hX4_0 (by omega) hX28_1 (by omega) (by omega) (by omega) (by omega) (by omega) (hB48_1 (by omega)) | exact zst3 hX4_0 (by omega) hX28_1 (by omega) (by omega) (by omega) (by omega) (by omega) (Or.resolve_left hB48_0 (by omega)) | exact zst6 hX4_0 (by omega) hX28_1 (by omega) (by omega) (by omega) hX78_0 hB81_0 hB88_0 (fun j hj => hB88_1 j (by omega)) (by omega) | exact zst4 hX4_0 (by omega) hX28_1 (by omega) (by omega) (by omega)
          exact W.iret (v := (-2)) hx hb hr (fun t ht hW => ⟨⟨(-2), (fun i => ([(u12_ 0), (u4_ 0), (u48_ 0), (-2)] : List (Int32)).getD i 0), rfl, hpost, (fun _ => 0), (fun i => ([(a4_ 0), (a48_ 0), f14] : List (Nat → Int32)).getD i (fun _ => 0)), (fun i => ([(b48_ 0)] : List (Nat → Int64)).getD i (fun _ => 0)), ha48_0, hf14, hB0, by rw [ht]; exact hP9, va_K.moved hW.alike hK, hD9⟩, hS.F ht⟩) hS.2.2 dX11_stop_57
  · skip
    have b_ := zF_ne rfl zk_0 c_
    refine lv_iconst (v := (-1)) hx hb dX11_stop_21 (by decide) ?_
    refine W.widen (k := 0) (n := 0) (by decide) (by decide) ?_
    have hpost : ((-2) ≤ ((-1) : Int32).toInt ∧ ((-1) : Int32).toInt ≤ 10) ∧ (0 ≤ (u12_ 0).toInt ∧ (u12_ 0).toInt ≤ 0) ∧ (0 ≤ (u4_ 0).toInt ∧ (u4_ 0).toInt ≤ 12) ∧ (0 ≤ (v11 7).toInt ∧ (v11 7).toInt ≤ 10) ∧ (((-1) : Int32).toInt = ((-1) : Int32).toInt) := ⟨(by first | with_reducible assumption | exact ⟨by omega, by omega⟩), (by first | with_reducible assumption | exact ⟨by omega, by omega⟩), (by first | with_reducible assumption | exact ⟨by omega, by omega⟩), (by first | with_reducible assumption | exact ⟨by omega, by omega⟩), rfl⟩
    have hP9 : va_P (dC, dI) vwCl [(h0, .inr (11, mX11 h1 h4 h11 h18 h23 h32 h33 h40 h48 h49 sp0 lw0)), (h1, .inr (9, mX9 h2 h3 (upd (upd v1 2 (u12_ 0)) 3 (u4_ 0)))), (h2, zi k2 600 f2), (h3, zi k3 12 (a4_ 0)), (h11, .inr (10, mX10 h12 h13 h14 h15 h16 h17 (upd v11 7 (v11 7)))), (h12, .inl (k12, 10, .inr (.inl f12))), (h13, zi k13 10 f13), (h14, zi k14 10 f14)] H := hP
    have hD9 : va_D A [(h0, .inr (11, mX11 h1 h4 h11 h18 h23 h32 h33 h40 h48 h49 sp0 lw0)), (h1, .inr (9, mX9 h2 h3 (upd (upd v1 2 (u12_ 0)) 3 (u4_ 0)))), (h2, zi k2 600 f2), (h3, zi k3 12 (a4_ 0)), (h11, .inr (10, mX10 h12 h13 h14 h15 h16 h17 (upd v11 7 (v11 7)))), (h12, .inl (k12, 10, .inr (.inl f12))), (h13, zi k13 10 f13), (h14, zi k14 10 f14)] := hD
    have hB0 : zSd f12 f13 f14 (v11 7).toInt → zSd f12 f13 f14 (v11 7).toInt ∧ ∃ x : Int, zFW f2 (v1 2).toInt x ∧ zStp x1.toInt x (v11 7).toInt (v11 7).toInt ((-1) : Int32).toInt (zHas f12 (v11 7).toInt) (zHas f12 (v11 7).toInt) := by first | exact zst1 hX4_0 (by omega) (by omega) (by omega) | exact zst2 hX4_0 (by omega) hX28_1 (by omega) (by omega) (by omega) (by omega) (by omega) (hB48_1 (by omega)) | exact zst3 hX4_0 (by omega) hX28_1 (by omega) (by omega) (by omega) (by omega) (by omega) (Or.resolve_left hB48_0 (by omega)) | exact zst6 hX4_0 (by omega) hX28_1 (by omega) (by omega) (by omega) hX78_0 hB81_0 hB88_0 (fun j hj => hB88_1 j (by omega)) (by omega) | exact zst4 hX4_0 (by omega) hX28_1 (by omega) (by omega) (by omega)
    exact W.iret (v := (-1)) hx hb hr (fun t ht hW => ⟨⟨(-1), (fun i => ([(u12_ 0), (u4_ 0), (v11 7), (-1)] : List (Int32)).getD i 0), rfl, hpost, (fun _ => 0), (fun i => ([(a4_ 0), f13, f14] : List (Nat → Int32)).getD i (fun _ => 0)), (fun i => ([f12] : List (Nat → Int64)).getD i (fun _ => 0)), hf13, hf14, hB0, by rw [ht]; exact hP9, va_K.moved hW.alike hK, hD9⟩, hS.F ht⟩) hS.2.2 dX11_stop_22
set_option maxHeartbeats 8000000 in
set_option maxRecDepth 100000 in
theorem sX0_wordsOf_0 (l : Launch) (dC : Nat → ClassId) (dI : Nat → Nat → Nat) (adK adV : Nat → Nat) (h0 : Nat) (h4 : Nat) (h1 : Nat) (h2 : Nat) (h3 : Nat) (k4 : ClassId) (sz : Nat) (v0 : Nat → Int32) (f4 : Nat → Int32) (x1 : Int32) (hv0 : zR rg_Documents v0) : Met l yX0_wordsOf (zw yX0_wordsOf cX0_wordsOf 2 (some .int)) { frames := 1, cells := 0, slots := 0, locals := 21 } (zPc dC dI adK adV [.ref h0, .int x1] sz [(h0, .inr (0, mX0 h1 h2 h3 h4 v0)), (h4, zi k4 120 f4)] [(k4, .int)]) (va_Qi (fun (r : Int32) (u : Nat → Int32) => True) (fun (u : Nat → Int32) (t : State) => ∃ (ww : Nat → Int64) (aa : Nat → Nat → Int32) (bb : Nat → Nat → Int64), va_P (dC, dI) vwCl [(h0, .inr (0, mX0 h1 h2 h3 h4 v0)), (h4, zi k4 120 f4)] t.heap ∧ va_K (dC, dI) vwCl [(k4, .int)] t ∧ va_D (va_A [(h0, .inr (0, mX0 h1 h2 h3 h4 v0)), (h4, zi k4 120 f4)] sz) [(h0, .inr (0, mX0 h1 h2 h3 h4 v0)), (h4, zi k4 120 f4)]) (va_A [(h0, .inr (0, mX0 h1 h2 h3 h4 v0)), (h4, zi k4 120 f4)] sz)) 0 0 (va_A [(h0, .inr (0, mX0 h1 h2 h3 h4 v0)), (h4, zi k4 120 f4)] sz) := by
  refine Met.ofW (cc := cX0_wordsOf) (maxL := 2) (ret := (some .int)) (by decide) rfl ?_
  intro p e s m args below meth c s₁ B hml hv
  obtain ⟨rfl, hsz, hP, hK, hD0, hE, hZ⟩ := hv
  have hx := B.exec
  have hb := B.bytes
  have hr := B.returns
  have hG : ∀ w ∈ zG, w.before _ s = true := fun w h => atoms_spec (ws := (zw yX0_wordsOf cX0_wordsOf 2 (some .int))) B.pre w (List.mem_cons_of_mem _ h)
  have hown : s.vm.findClass RX0 = some m.cls := findClass_of_methodNamed B.named
  have hlocks := B.notSynchronized

  subst hsz
  have hD := hD0.self (sz := s.heap.size)
  generalize hAe : va_A [(h0, .inr (0, mX0 h1 h2 h3 h4 v0)), (h4, zi k4 120 f4)] s.heap.size = A at hD hZ ⊢
  have hA : ∀ q : Nat, s.heap.size ≤ q → A q := fun q h => by rw [← hAe]; exact Or.inr h
  have hS : va_S A s.heap s.heap [] := va_S.rf
  have hl := lv_entry ([.ref h0, .int x1]) (n := 2) (Nat.le_of_ble_eq_true rfl)
  rw [lg_entry_eq]
  generalize (lg_sl ([.ref h0, .int x1]) ++ List.replicate (2 - (lg_sl ([.ref h0, .int x1])).length) Slot.unset).toArray = ls at hl ⊢
  have hl : lv_has ls 2 [(0, .ref h0), (1, .int x1)] := hl
  refine lv_aload_n hx hb dX0_wordsOf_0 rfl (lv_at hl 0 rfl) ?_
  refine lv_iload_n hx hb dX0_wordsOf_1 rfl (lv_at hl 1 rfl) ?_
  have hPc := hP.sub (ws' := [(h0, .inr (0, mX0 h1 h2 h3 h4 v0))]) [0] rfl
  have hDc := hD.sub (ws' := [(h0, .inr (0, mX0 h1 h2 h3 h4 v0))]) [0] (by decide) rfl
  have hKc := hK.sub (tys' := []) [] rfl
  have hFc := va_free (wc := [(h0, .inr (0, mX0 h1 h2 h3 h4 v0))]) hD hS hA [0] rfl
  refine va_calli (va_runV (As := [.int x1]) (rest := []) ⟨hx, hb, hml, hown, hG⟩ (sX0_came_0 l dC dI adK adV h0 h1 h2 h3 h4 s.heap.size v0 x1 hv0) (cwV 1 hG (zgV zv875 zv876 zv877 zv132 zv878) rfl rfl rfl (by decide +kernel) ⟨Nat.le_of_ble_eq_true rfl, Nat.le_of_ble_eq_true rfl⟩) ⟨zPc_blind, va_recv hKc hPc (ci := 0) (q0 := 0) rfl rfl, zPc_pre hPc hKc hDc hE hS hFc hZ⟩ rfl rfl hl.1 rfl (lv_room (Nat.le_of_ble_eq_true rfl)) dX0_wordsOf_2 ⟨Nat.le_of_ble_eq_true rfl, Nat.le_of_ble_eq_true rfl⟩) hS (fun q _ h => hFc q h) hFc (fun r2_ u2_ t H1 locs ht hvm hw hB hz1 hk1 hS => ?_)
  replace hw : (0 ≤ r2_.toInt ∧ r2_.toInt ≤ 1) ∧ (r2_.toInt = 1 → (0 ≤ x1.toInt ∧ x1.toInt ≤ 119)) ∧ (r2_.toInt = 1 → x1.toInt < (v0 4).toInt) ∧ (r2_.toInt = 0 → x1.toInt < 0 ∨ (v0 4).toInt ≤ x1.toInt) := hw
  obtain ⟨b_, hX2_0, hX2_1, hX2_2⟩ := hw
  obtain ⟨w2_, a2_, b2_, hP1, hK1, hD1⟩ := hB
  rw [ht] at hP1
  obtain ⟨hP, hD⟩ := va_join (wr := [(h4, zi k4 120 f4)]) (w1 := [(h0, .inr (0, mX0 h1 h2 h3 h4 v0))]) hP hD [0] [1] rfl rfl (by decide) (by decide) hk1 hFc hP1 hD1
  have hP : va_P (dC, dI) vwCl [(h0, .inr (0, mX0 h1 h2 h3 h4 v0)), (h4, zi k4 120 f4)] H1 := hP.sub [1, 0] rfl
  have hD : va_D A [(h0, .inr (0, mX0 h1 h2 h3 h4 v0)), (h4, zi k4 120 f4)] := hD.sub [1, 0] (by decide) rfl
  generalize H1 = H at hP hS ⊢
  clear hz1
  refine lv_if_eq (tgt := 17) hx hb dX0_wordsOf_5 (by decide) (fun c_ => ?_) (fun c_ => ?_)
  · skip
    have b_ := zT_eq rfl zk_0 c_
    refine lv_iconst (v := 0) hx hb dX0_wordsOf_17 (by decide) ?_
    refine W.widen (k := 0) (n := 0) (by decide) (by decide) ?_
    have hpost : True := trivial
    have hP9 : va_P (dC, dI) vwCl [(h0, .inr (0, mX0 h1 h2 h3 h4 v0)), (h4, zi k4 120 f4)] H := hP
    have hD9 : va_D A [(h0, .inr (0, mX0 h1 h2 h3 h4 v0)), (h4, zi k4 120 f4)] := hD
    exact W.iret (v := 0) hx hb hr (fun t ht hW => ⟨⟨0, (fun _ => 0), rfl, hpost, (fun _ => 0), (fun _ => (fun _ => 0)), (fun _ => (fun _ => 0)), by rw [ht]; exact hP9, va_K.moved hW.alike hK, hD9⟩, hS.F ht⟩) hS.2.2 dX0_wordsOf_18
  · skip
    have b_ := zF_eq rfl zk_0 c_
    refine lv_aload_n hx hb dX0_wordsOf_8 rfl (lv_at hl 0 rfl) ?_
    refine va_get (D := (dC, dI)) (ci := 0) (v := .ref h4) (C := RX0) (T := TX0) (N := 6) hx hb hG zuX0 hown hK hP 0 rfl rfl 3 (by decide) (hG _ zv225) (fun _ h9 => h9) rfl dX0_wordsOf_9 ?_
    refine lv_iload_n hx hb dX0_wordsOf_12 rfl (lv_at hl 1 rfl) ?_
    refine va_iald hx hb hK hP 1 0 rfl rfl (zin_lit ⟨by omega, by omega⟩) dX0_wordsOf_13 ?_
    refine lv_topi (fun z13 e_z13 => ?_)
    refine lv_goto (tgt := 18) hx hb dX0_wordsOf_14 (by decide) ?_
    refine W.widen (k := 0) (n := 0) (by decide) (by decide) ?_
    have b_ : -2147483648 ≤ z13.toInt ∧ z13.toInt ≤ 2147483647 := ⟨zlo _, zhi _⟩
    have hpost : True := trivial
    have hP9 : va_P (dC, dI) vwCl [(h0, .inr (0, mX0 h1 h2 h3 h4 v0)), (h4, zi k4 120 f4)] H := hP
    have hD9 : va_D A [(h0, .inr (0, mX0 h1 h2 h3 h4 v0)), (h4, zi k4 120 f4)] := hD
    exact W.iret (v := z13) hx hb hr (fun t ht hW => ⟨⟨z13, (fun _ => 0), rfl, hpost, (fun _ => 0), (fun _ => (fun _ => 0)), (fun _ => (fun _ => 0)), by rw [ht]; exact hP9, va_K.moved hW.alike hK, hD9⟩, hS.F ht⟩) hS.2.2 dX0_wordsOf_18
set_option maxHeartbeats 8000000 in
set_option maxRecDepth 100000 in
theorem sX11_document_0 (l : Launch) (hl0 : l.stackTraces = false) (dC : Nat → ClassId) (dI : Nat → Nat → Nat) (adK adV : Nat → Nat) (h0 : Nat) (h18 : Nat) (h19 : Nat) (h20 : Nat) (h21 : Nat) (h22 : Nat) (h1 : Nat) (h4 : Nat) (h11 : Nat) (h23 : Nat) (h32 : Nat) (h33 : Nat) (h40 : Nat) (h48 : Nat) (h49 : Nat) (k19 : ClassId) (k20 : ClassId) (k21 : ClassId) (k22 : ClassId) (sz : Nat) (sp0 : Value) (lw0 : Int64) (v18 : Nat → Int32) (f19 : Nat → Int32) (f20 : Nat → Int32) (f21 : Nat → Int32) (f22 : Nat → Int32) (x1 : Int32) (x2 : Int32) (hv18 : zR rg_Documents v18) (hf20 : zA 0 300 f20) : vx_Met l yX11_document (zw yX11_document cX11_document 3 (some .int)) { frames := 8, cells := 1, slots := 6, locals := 120 } (zPc dC dI adK adV [.ref h0, .int x1, .int x2] sz [(h0, .inr (11, mX11 h1 h4 h11 h18 h23 h32 h33 h40 h48 h49 sp0 lw0)), (h18, .inr (0, mX0 h19 h20 h21 h22 v18)), (h19, zi k19 120 f19), (h20, zi k20 120 f20), (h21, zi k21 120 f21), (h22, zi k22 120 f22)] [(k19, .boolean), (k20, .int), (k21, .int), (k22, .int)]) (va_Qi (fun (r : Int32) (u : Nat → Int32) => True) (fun (u : Nat → Int32) (t : State) => ∃ (ww : Nat → Int64) (aa : Nat → Nat → Int32) (bb : Nat → Nat → Int64), va_P (dC, dI) vwCl [(h0, .inr (11, mX11 h1 h4 h11 h18 h23 h32 h33 h40 h48 h49 sp0 lw0)), (h18, .inr (0, mX0 h19 h20 h21 h22 v18)), (h19, zi k19 120 f19), (h20, zi k20 120 f20), (h21, zi k21 120 f21), (h22, zi k22 120 f22)] t.heap ∧ va_K (dC, dI) vwCl [(k19, .boolean), (k20, .int), (k21, .int), (k22, .int)] t ∧ va_D (va_A [(h0, .inr (11, mX11 h1 h4 h11 h18 h23 h32 h33 h40 h48 h49 sp0 lw0)), (h18, .inr (0, mX0 h19 h20 h21 h22 v18)), (h19, zi k19 120 f19), (h20, zi k20 120 f20), (h21, zi k21 120 f21), (h22, zi k22 120 f22)] sz) [(h0, .inr (11, mX11 h1 h4 h11 h18 h23 h32 h33 h40 h48 h49 sp0 lw0)), (h18, .inr (0, mX0 h19 h20 h21 h22 v18)), (h19, zi k19 120 f19), (h20, zi k20 120 f20), (h21, zi k21 120 f21), (h22, zi k22 120 f22)]) (va_A [(h0, .inr (11, mX11 h1 h4 h11 h18 h23 h32 h33 h40 h48 h49 sp0 lw0)), (h18, .inr (0, mX0 h19 h20 h21 h22 v18)), (h19, zi k19 120 f19), (h20, zi k20 120 f20), (h21, zi k21 120 f21), (h22, zi k22 120 f22)] sz)) (vx_X (fun (u : Nat → Int32) => True) (fun (E : String) (u : Nat → Int32) (t : State) => E = "java/lang/IndexOutOfBoundsException" ∧ ∃ (ww : Nat → Int64) (aa : Nat → Nat → Int32) (bb : Nat → Nat → Int64), va_P (dC, dI) vwCl [(h0, .inr (11, mX11 h1 h4 h11 h18 h23 h32 h33 h40 h48 h49 sp0 lw0)), (h18, .inr (0, mX0 h19 h20 h21 h22 v18)), (h19, zi k19 120 f19), (h20, zi k20 120 f20), (h21, zi k21 120 f21), (h22, zi k22 120 f22)] t.heap ∧ va_K (dC, dI) vwCl [(k19, .boolean), (k20, .int), (k21, .int), (k22, .int)] t ∧ va_D (va_A [(h0, .inr (11, mX11 h1 h4 h11 h18 h23 h32 h33 h40 h48 h49 sp0 lw0)), (h18, .inr (0, mX0 h19 h20 h21 h22 v18)), (h19, zi k19 120 f19), (h20, zi k20 120 f20), (h21, zi k21 120 f21), (h22, zi k22 120 f22)] sz) [(h0, .inr (11, mX11 h1 h4 h11 h18 h23 h32 h33 h40 h48 h49 sp0 lw0)), (h18, .inr (0, mX0 h19 h20 h21 h22 v18)), (h19, zi k19 120 f19), (h20, zi k20 120 f20), (h21, zi k21 120 f21), (h22, zi k22 120 f22)]) (va_A [(h0, .inr (11, mX11 h1 h4 h11 h18 h23 h32 h33 h40 h48 h49 sp0 lw0)), (h18, .inr (0, mX0 h19 h20 h21 h22 v18)), (h19, zi k19 120 f19), (h20, zi k20 120 f20), (h21, zi k21 120 f21), (h22, zi k22 120 f22)] sz)) 1 6 (va_A [(h0, .inr (11, mX11 h1 h4 h11 h18 h23 h32 h33 h40 h48 h49 sp0 lw0)), (h18, .inr (0, mX0 h19 h20 h21 h22 v18)), (h19, zi k19 120 f19), (h20, zi k20 120 f20), (h21, zi k21 120 f21), (h22, zi k22 120 f22)] sz) := by
  refine vx_ofW (cc := cX11_document) (maxL := 3) (ret := (some .int)) (by decide) rfl ?_
  intro p e s m args below meth c s₁ B hml hout hv
  obtain ⟨rfl, hsz, hP, hK, hD0, hE, hZ⟩ := hv
  have hx := B.exec
  have hb := B.bytes
  have hr := B.returns
  have hG : ∀ w ∈ zG, w.before _ s = true := fun w h => atoms_spec (ws := (zw yX11_document cX11_document 3 (some .int))) B.pre w (List.mem_cons_of_mem _ h)
  have hown : s.vm.findClass RX11 = some m.cls := findClass_of_methodNamed B.named
  have hlocks := B.notSynchronized

  subst hsz
  have hD := hD0.self (sz := s.heap.size)
  generalize hAe : va_A [(h0, .inr (11, mX11 h1 h4 h11 h18 h23 h32 h33 h40 h48 h49 sp0 lw0)), (h18, .inr (0, mX0 h19 h20 h21 h22 v18)), (h19, zi k19 120 f19), (h20, zi k20 120 f20), (h21, zi k21 120 f21), (h22, zi k22 120 f22)] s.heap.size = A at hD hZ ⊢
  have hA : ∀ q : Nat, s.heap.size ≤ q → A q := fun q h => by rw [← hAe]; exact Or.inr h
  have hS : va_S A s.heap s.heap [] := va_S.rf
  have hl := lv_entry ([.ref h0, .int x1, .int x2]) (n := 3) (Nat.le_of_ble_eq_true rfl)
  rw [lg_entry_eq]
  generalize (lg_sl ([.ref h0, .int x1, .int x2]) ++ List.replicate (3 - (lg_sl ([.ref h0, .int x1, .int x2])).length) Slot.unset).toArray = ls at hl ⊢
  have hl : lv_has ls 3 [(0, .ref h0), (1, .int x1), (2, .int x2)] := hl
  have b_ := zk_0
  have b_ := zk_1
  have b_ := zk_2
  have b_ := zk_3
  refine lv_aload_n hx hb dX11_document_0 rfl (lv_at hl 0 rfl) ?_
  refine va_get (D := (dC, dI)) (ci := 11) (v := .ref h18) (C := RX11) (T := TX11) (N := 12) hx hb hG zuX11 hown hK hP 0 rfl rfl 3 (by decide) (hG _ zv560) (fun _ h9 => h9) rfl dX11_document_1 ?_
  refine lv_iload_n hx hb dX11_document_4 rfl (lv_at hl 1 rfl) ?_
  have hPc := hP.sub (ws' := [(h18, .inr (0, mX0 h19 h20 h21 h22 v18))]) [1] rfl
  have hDc := hD.sub (ws' := [(h18, .inr (0, mX0 h19 h20 h21 h22 v18))]) [1] (by decide) rfl
  have hKc := hK.sub (tys' := []) [] rfl
  have hFc := va_free (wc := [(h18, .inr (0, mX0 h19 h20 h21 h22 v18))]) hD hS hA [1] rfl
  refine va_calli (va_runV (As := [.int x1]) (rest := []) ⟨hx, hb, hml, hown, hG⟩ (sX0_came_0 l dC dI adK adV h18 h19 h20 h21 h22 s.heap.size v18 x1 hv18) (cwV 1 hG (zgV zv1410 zv876 zv877 zv132 zv878) rfl rfl rfl (by decide +kernel) ⟨Nat.le_of_ble_eq_true rfl, Nat.le_of_ble_eq_true rfl⟩) ⟨zPc_blind, va_recv hKc hPc (ci := 0) (q0 := 0) rfl rfl, zPc_pre hPc hKc hDc hE hS hFc hZ⟩ rfl rfl hl.1 rfl (lv_room (Nat.le_of_ble_eq_true rfl)) dX11_document_5 ⟨Nat.le_of_ble_eq_true rfl, Nat.le_of_ble_eq_true rfl⟩) hS (fun q _ h => hFc q h) hFc (fun r5_ u5_ t H1 locs ht hvm hw hB hz1 hk1 hS => ?_)
  replace hw : (0 ≤ r5_.toInt ∧ r5_.toInt ≤ 1) ∧ (r5_.toInt = 1 → (0 ≤ x1.toInt ∧ x1.toInt ≤ 119)) ∧ (r5_.toInt = 1 → x1.toInt < (v18 4).toInt) ∧ (r5_.toInt = 0 → x1.toInt < 0 ∨ (v18 4).toInt ≤ x1.toInt) := hw
  obtain ⟨b_, hX5_0, hX5_1, hX5_2⟩ := hw
  obtain ⟨w5_, a5_, b5_, hP1, hK1, hD1⟩ := hB
  rw [ht] at hP1
  obtain ⟨hP, hD⟩ := va_join (wr := [(h0, .inr (11, mX11 h1 h4 h11 h18 h23 h32 h33 h40 h48 h49 sp0 lw0)), (h19, zi k19 120 f19), (h20, zi k20 120 f20), (h21, zi k21 120 f21), (h22, zi k22 120 f22)]) (w1 := [(h18, .inr (0, mX0 h19 h20 h21 h22 v18))]) hP hD [1] [0, 2, 3, 4, 5] rfl rfl (by decide) (by decide) hk1 hFc hP1 hD1
  have hP : va_P (dC, dI) vwCl [(h0, .inr (11, mX11 h1 h4 h11 h18 h23 h32 h33 h40 h48 h49 sp0 lw0)), (h18, .inr (0, mX0 h19 h20 h21 h22 v18)), (h19, zi k19 120 f19), (h20, zi k20 120 f20), (h21, zi k21 120 f21), (h22, zi k22 120 f22)] H1 := hP.sub [0, 5, 1, 2, 3, 4] rfl
  have hD : va_D A [(h0, .inr (11, mX11 h1 h4 h11 h18 h23 h32 h33 h40 h48 h49 sp0 lw0)), (h18, .inr (0, mX0 h19 h20 h21 h22 v18)), (h19, zi k19 120 f19), (h20, zi k20 120 f20), (h21, zi k21 120 f21), (h22, zi k22 120 f22)] := hD.sub [0, 5, 1, 2, 3, 4] (by decide) rfl
  generalize H1 = H at hP hS ⊢
  clear hz1
  refine lv_if_ne (tgt := 21) hx hb dX11_document_8 (by decide) (fun c_ => ?_) (fun c_ => ?_)
  · skip
    have b_ := zT_ne rfl zk_0 c_
    refine lv_iload_n hx hb dX11_document_21 rfl (lv_at hl 2 rfl) ?_
    rcases Classical.em (x2 = (0 : Int32)) with c_ | c_
    · skip
      have b_ : x2.toInt = 0 := by rw [c_]; exact zk_0
      refine lv_tableIn (off := 30) (tgt := 52) hx hb dX11_document_22 (by omega) (by omega) (by rw [b_]; decide) (by decide) ?_
      refine lv_aload_n hx hb dX11_document_52 rfl (lv_at hl 0 rfl) ?_
      refine va_get (D := (dC, dI)) (ci := 11) (v := .ref h18) (C := RX11) (T := TX11) (N := 12) hx hb hG zuX11 hown hK hP 0 rfl rfl 3 (by decide) (hG _ zv560) (fun _ h9 => h9) rfl dX11_document_53 ?_
      refine lv_iload_n hx hb dX11_document_56 rfl (lv_at hl 1 rfl) ?_
      have hPc := hP.sub (ws' := [(h18, .inr (0, mX0 h19 h20 h21 h22 v18)), (h19, zi k19 120 f19)]) [1, 2] rfl
      have hDc := hD.sub (ws' := [(h18, .inr (0, mX0 h19 h20 h21 h22 v18)), (h19, zi k19 120 f19)]) [1, 2] (by decide) rfl
      have hKc := hK.sub (tys' := [(k19, .boolean)]) [0] rfl
      have hFc := va_free (wc := [(h18, .inr (0, mX0 h19 h20 h21 h22 v18)), (h19, zi k19 120 f19)]) hD hS hA [1, 2] rfl
      refine va_calli (va_runV (As := [.int x1]) (rest := []) ⟨hx, hb, hml, hown, hG⟩ (sX0_isOn_0 l dC dI adK adV h18 h19 h20 h21 h22 k19 H.size v18 f19 x1 hv18) (cwV 1 hG (zgV zv1477 zv872 zv873 zv132 zv874) rfl rfl rfl (by decide +kernel) ⟨Nat.le_of_ble_eq_true rfl, Nat.le_of_ble_eq_true rfl⟩) ⟨zPc_blind, va_recv hKc hPc (ci := 0) (q0 := 0) rfl rfl, zPc_pre hPc hKc hDc hE hS hFc hZ⟩ rfl rfl hl.1 rfl (lv_room (Nat.le_of_ble_eq_true rfl)) dX11_document_57 ⟨Nat.le_of_ble_eq_true rfl, Nat.le_of_ble_eq_true rfl⟩) hS (fun q _ h => hFc q h) hFc (fun r57_ u57_ t H1 locs ht hvm hw hB hz1 hk1 hS => ?_)
      replace hw : (0 ≤ r57_.toInt ∧ r57_.toInt ≤ 1) ∧ (r57_.toInt = 1 → (0 ≤ x1.toInt ∧ x1.toInt ≤ 119)) ∧ (r57_.toInt = 1 → x1.toInt < (v18 4).toInt) ∧ (zIo f19 (v18 4).toInt (x1 : Int32) r57_.toInt) := hw
      obtain ⟨b_, hX57_0, hX57_1, hX57_2⟩ := hw
      obtain ⟨w57_, a57_, b57_, hP1, hK1, hD1⟩ := hB
      rw [ht] at hP1
      obtain ⟨hP, hD⟩ := va_join (wr := [(h0, .inr (11, mX11 h1 h4 h11 h18 h23 h32 h33 h40 h48 h49 sp0 lw0)), (h20, zi k20 120 f20), (h21, zi k21 120 f21), (h22, zi k22 120 f22)]) (w1 := [(h18, .inr (0, mX0 h19 h20 h21 h22 v18)), (h19, zi k19 120 f19)]) hP hD [1, 2] [0, 3, 4, 5] rfl rfl (by decide) (by decide) hk1 hFc hP1 hD1
      have hP : va_P (dC, dI) vwCl [(h0, .inr (11, mX11 h1 h4 h11 h18 h23 h32 h33 h40 h48 h49 sp0 lw0)), (h18, .inr (0, mX0 h19 h20 h21 h22 v18)), (h19, zi k19 120 f19), (h20, zi k20 120 f20), (h21, zi k21 120 f21), (h22, zi k22 120 f22)] H1 := hP.sub [0, 4, 5, 1, 2, 3] rfl
      have hD : va_D A [(h0, .inr (11, mX11 h1 h4 h11 h18 h23 h32 h33 h40 h48 h49 sp0 lw0)), (h18, .inr (0, mX0 h19 h20 h21 h22 v18)), (h19, zi k19 120 f19), (h20, zi k20 120 f20), (h21, zi k21 120 f21), (h22, zi k22 120 f22)] := hD.sub [0, 4, 5, 1, 2, 3] (by decide) rfl
      generalize H1 = H at hP hS ⊢
      clear hz1
      refine lv_if_eq (tgt := 67) hx hb dX11_document_60 (by decide) (fun c_ => ?_) (fun c_ => ?_)
      · skip
        have b_ := zT_eq rfl zk_0 c_
        refine lv_iconst (v := 0) hx hb dX11_document_67 (by decide) ?_
        refine W.widen (k := 1) (n := 6) (by decide) (by decide) ?_
        have hpost : True := trivial
        have hP9 : va_P (dC, dI) vwCl [(h0, .inr (11, mX11 h1 h4 h11 h18 h23 h32 h33 h40 h48 h49 sp0 lw0)), (h18, .inr (0, mX0 h19 h20 h21 h22 v18)), (h19, zi k19 120 f19), (h20, zi k20 120 f20), (h21, zi k21 120 f21), (h22, zi k22 120 f22)] H := hP
        have hD9 : va_D A [(h0, .inr (11, mX11 h1 h4 h11 h18 h23 h32 h33 h40 h48 h49 sp0 lw0)), (h18, .inr (0, mX0 h19 h20 h21 h22 v18)), (h19, zi k19 120 f19), (h20, zi k20 120 f20), (h21, zi k21 120 f21), (h22, zi k22 120 f22)] := hD
        exact vx_ret (W.iret (v := 0) hx hb hr (fun t ht hW => ⟨⟨0, (fun _ => 0), rfl, hpost, (fun _ => 0), (fun _ => (fun _ => 0)), (fun _ => (fun _ => 0)), by rw [ht]; exact hP9, va_K.moved hW.alike hK, hD9⟩, hS.F ht⟩) hS.2.2 dX11_document_68)
      · skip
        have b_ := zF_eq rfl zk_0 c_
        refine lv_iconst (v := 1) hx hb dX11_document_63 (by decide) ?_
        refine lv_goto (tgt := 68) hx hb dX11_document_64 (by decide) ?_
        refine W.widen (k := 1) (n := 6) (by decide) (by decide) ?_
        have hpost : True := trivial
        have hP9 : va_P (dC, dI) vwCl [(h0, .inr (11, mX11 h1 h4 h11 h18 h23 h32 h33 h40 h48 h49 sp0 lw0)), (h18, .inr (0, mX0 h19 h20 h21 h22 v18)), (h19, zi k19 120 f19), (h20, zi k20 120 f20), (h21, zi k21 120 f21), (h22, zi k22 120 f22)] H := hP
        have hD9 : va_D A [(h0, .inr (11, mX11 h1 h4 h11 h18 h23 h32 h33 h40 h48 h49 sp0 lw0)), (h18, .inr (0, mX0 h19 h20 h21 h22 v18)), (h19, zi k19 120 f19), (h20, zi k20 120 f20), (h21, zi k21 120 f21), (h22, zi k22 120 f22)] := hD
        exact vx_ret (W.iret (v := 1) hx hb hr (fun t ht hW => ⟨⟨1, (fun _ => 0), rfl, hpost, (fun _ => 0), (fun _ => (fun _ => 0)), (fun _ => (fun _ => 0)), by rw [ht]; exact hP9, va_K.moved hW.alike hK, hD9⟩, hS.F ht⟩) hS.2.2 dX11_document_68)
    · skip
      have b_ : x2.toInt ≠ 0 := fun h => c_ (zeqi.mpr (h.trans zk_0.symm))
      rcases Classical.em (x2 = (1 : Int32)) with c_ | c_
      · skip
        have b_ : x2.toInt = 1 := by rw [c_]; exact zk_1
        refine lv_tableIn (off := 47) (tgt := 69) hx hb dX11_document_22 (by omega) (by omega) (by rw [b_]; decide) (by decide) ?_
        refine lv_aload_n hx hb dX11_document_69 rfl (lv_at hl 0 rfl) ?_
        refine va_get (D := (dC, dI)) (ci := 11) (v := .ref h18) (C := RX11) (T := TX11) (N := 12) hx hb hG zuX11 hown hK hP 0 rfl rfl 3 (by decide) (hG _ zv560) (fun _ h9 => h9) rfl dX11_document_70 ?_
        refine lv_iload_n hx hb dX11_document_73 rfl (lv_at hl 1 rfl) ?_
        have hPc := hP.sub (ws' := [(h18, .inr (0, mX0 h19 h20 h21 h22 v18)), (h20, zi k20 120 f20)]) [1, 3] rfl
        have hDc := hD.sub (ws' := [(h18, .inr (0, mX0 h19 h20 h21 h22 v18)), (h20, zi k20 120 f20)]) [1, 3] (by decide) rfl
        have hKc := hK.sub (tys' := [(k20, .int)]) [1] rfl
        have hFc := va_free (wc := [(h18, .inr (0, mX0 h19 h20 h21 h22 v18)), (h20, zi k20 120 f20)]) hD hS hA [1, 3] rfl
        refine va_calli (va_runV (As := [.int x1]) (rest := []) ⟨hx, hb, hml, hown, hG⟩ (sX0_lengthOf_0 l dC dI adK adV h18 h20 h19 h21 h22 k20 H.size v18 f20 x1 hv18 hf20) (cwV 1 hG (zgV zv1478 zv1352 zv1353 zv132 zv1354) rfl rfl rfl (by decide +kernel) ⟨Nat.le_of_ble_eq_true rfl, Nat.le_of_ble_eq_true rfl⟩) ⟨zPc_blind, va_recv hKc hPc (ci := 0) (q0 := 0) rfl rfl, zPc_pre hPc hKc hDc hE hS hFc hZ⟩ rfl rfl hl.1 rfl (lv_room (Nat.le_of_ble_eq_true rfl)) dX11_document_74 ⟨Nat.le_of_ble_eq_true rfl, Nat.le_of_ble_eq_true rfl⟩) hS (fun q _ h => hFc q h) hFc (fun r74_ u74_ t H1 locs ht hvm hw hB hz1 hk1 hS => ?_)
        replace hw : (0 ≤ r74_.toInt ∧ r74_.toInt ≤ 300) ∧ (r74_.toInt = zMk f20 (v18 4).toInt x1.toInt) := hw
        obtain ⟨b_, hX74_0⟩ := hw
        obtain ⟨w74_, a74_, b74_, hP1, hK1, hD1⟩ := hB
        rw [ht] at hP1
        obtain ⟨hP, hD⟩ := va_join (wr := [(h0, .inr (11, mX11 h1 h4 h11 h18 h23 h32 h33 h40 h48 h49 sp0 lw0)), (h19, zi k19 120 f19), (h21, zi k21 120 f21), (h22, zi k22 120 f22)]) (w1 := [(h18, .inr (0, mX0 h19 h20 h21 h22 v18)), (h20, zi k20 120 f20)]) hP hD [1, 3] [0, 2, 4, 5] rfl rfl (by decide) (by decide) hk1 hFc hP1 hD1
        have hP : va_P (dC, dI) vwCl [(h0, .inr (11, mX11 h1 h4 h11 h18 h23 h32 h33 h40 h48 h49 sp0 lw0)), (h18, .inr (0, mX0 h19 h20 h21 h22 v18)), (h19, zi k19 120 f19), (h20, zi k20 120 f20), (h21, zi k21 120 f21), (h22, zi k22 120 f22)] H1 := hP.sub [0, 4, 1, 5, 2, 3] rfl
        have hD : va_D A [(h0, .inr (11, mX11 h1 h4 h11 h18 h23 h32 h33 h40 h48 h49 sp0 lw0)), (h18, .inr (0, mX0 h19 h20 h21 h22 v18)), (h19, zi k19 120 f19), (h20, zi k20 120 f20), (h21, zi k21 120 f21), (h22, zi k22 120 f22)] := hD.sub [0, 4, 1, 5, 2, 3] (by decide) rfl
        generalize H1 = H at hP hS ⊢
        clear hz1
        refine W.widen (k := 1) (n := 6) (by decide) (by decide) ?_
        have hpost : True := trivial
        have hP9 : va_P (dC, dI) vwCl [(h0, .inr (11, mX11 h1 h4 h11 h18 h23 h32 h33 h40 h48 h49 sp0 lw0)), (h18, .inr (0, mX0 h19 h20 h21 h22 v18)), (h19, zi k19 120 f19), (h20, zi k20 120 f20), (h21, zi k21 120 f21), (h22, zi k22 120 f22)] H := hP
        have hD9 : va_D A [(h0, .inr (11, mX11 h1 h4 h11 h18 h23 h32 h33 h40 h48 h49 sp0 lw0)), (h18, .inr (0, mX0 h19 h20 h21 h22 v18)), (h19, zi k19 120 f19), (h20, zi k20 120 f20), (h21, zi k21 120 f21), (h22, zi k22 120 f22)] := hD
        exact vx_ret (W.iret (v := r74_) hx hb hr (fun t ht hW => ⟨⟨r74_, (fun _ => 0), rfl, hpost, (fun _ => 0), (fun _ => (fun _ => 0)), (fun _ => (fun _ => 0)), by rw [ht]; exact hP9, va_K.moved hW.alike hK, hD9⟩, hS.F ht⟩) hS.2.2 dX11_document_77)
      · skip
        have b_ : x2.toInt ≠ 1 := fun h => c_ (zeqi.mpr (h.trans zk_1.symm))
        rcases Classical.em (x2 = (2 : Int32)) with c_ | c_
        · skip
          have b_ : x2.toInt = 2 := by rw [c_]; exact zk_2
          refine lv_tableIn (off := 56) (tgt := 78) hx hb dX11_document_22 (by omega) (by omega) (by rw [b_]; decide) (by decide) ?_
          refine lv_aload_n hx hb dX11_document_78 rfl (lv_at hl 0 rfl) ?_
          refine va_get (D := (dC, dI)) (ci := 11) (v := .ref h18) (C := RX11) (T := TX11) (N := 12) hx hb hG zuX11 hown hK hP 0 rfl rfl 3 (by decide) (hG _ zv560) (fun _ h9 => h9) rfl dX11_document_79 ?_
          refine lv_iload_n hx hb dX11_document_82 rfl (lv_at hl 1 rfl) ?_
          have hPc := hP.sub (ws' := [(h18, .inr (0, mX0 h19 h20 h21 h22 v18)), (h21, zi k21 120 f21)]) [1, 4] rfl
          have hDc := hD.sub (ws' := [(h18, .inr (0, mX0 h19 h20 h21 h22 v18)), (h21, zi k21 120 f21)]) [1, 4] (by decide) rfl
          have hKc := hK.sub (tys' := [(k21, .int)]) [2] rfl
          have hFc := va_free (wc := [(h18, .inr (0, mX0 h19 h20 h21 h22 v18)), (h21, zi k21 120 f21)]) hD hS hA [1, 4] rfl
          refine va_calli (va_runV (As := [.int x1]) (rest := []) ⟨hx, hb, hml, hown, hG⟩ (sX0_markOf_0 l dC dI adK adV h18 h21 h19 h20 h22 k21 H.size v18 f21 x1 hv18) (cwV 1 hG (zgV zv1479 zv1238 zv1239 zv132 zv1240) rfl rfl rfl (by decide +kernel) ⟨Nat.le_of_ble_eq_true rfl, Nat.le_of_ble_eq_true rfl⟩) ⟨zPc_blind, va_recv hKc hPc (ci := 0) (q0 := 0) rfl rfl, zPc_pre hPc hKc hDc hE hS hFc hZ⟩ rfl rfl hl.1 rfl (lv_room (Nat.le_of_ble_eq_true rfl)) dX11_document_83 ⟨Nat.le_of_ble_eq_true rfl, Nat.le_of_ble_eq_true rfl⟩) hS (fun q _ h => hFc q h) hFc (fun r83_ u83_ t H1 locs ht hvm hw hB hz1 hk1 hS => ?_)
          replace hw : (r83_.toInt = zMk f21 (v18 4).toInt x1.toInt) := hw
          have hX83_0 := hw
          obtain ⟨w83_, a83_, b83_, hP1, hK1, hD1⟩ := hB
          rw [ht] at hP1
          obtain ⟨hP, hD⟩ := va_join (wr := [(h0, .inr (11, mX11 h1 h4 h11 h18 h23 h32 h33 h40 h48 h49 sp0 lw0)), (h19, zi k19 120 f19), (h20, zi k20 120 f20), (h22, zi k22 120 f22)]) (w1 := [(h18, .inr (0, mX0 h19 h20 h21 h22 v18)), (h21, zi k21 120 f21)]) hP hD [1, 4] [0, 2, 3, 5] rfl rfl (by decide) (by decide) hk1 hFc hP1 hD1
          have hP : va_P (dC, dI) vwCl [(h0, .inr (11, mX11 h1 h4 h11 h18 h23 h32 h33 h40 h48 h49 sp0 lw0)), (h18, .inr (0, mX0 h19 h20 h21 h22 v18)), (h19, zi k19 120 f19), (h20, zi k20 120 f20), (h21, zi k21 120 f21), (h22, zi k22 120 f22)] H1 := hP.sub [0, 4, 1, 2, 5, 3] rfl
          have hD : va_D A [(h0, .inr (11, mX11 h1 h4 h11 h18 h23 h32 h33 h40 h48 h49 sp0 lw0)), (h18, .inr (0, mX0 h19 h20 h21 h22 v18)), (h19, zi k19 120 f19), (h20, zi k20 120 f20), (h21, zi k21 120 f21), (h22, zi k22 120 f22)] := hD.sub [0, 4, 1, 2, 5, 3] (by decide) rfl
          generalize H1 = H at hP hS ⊢
          clear hz1
          refine W.widen (k := 1) (n := 6) (by decide) (by decide) ?_
          have b_ : -2147483648 ≤ r83_.toInt ∧ r83_.toInt ≤ 2147483647 := ⟨zlo _, zhi _⟩
          have hpost : True := trivial
          have hP9 : va_P (dC, dI) vwCl [(h0, .inr (11, mX11 h1 h4 h11 h18 h23 h32 h33 h40 h48 h49 sp0 lw0)), (h18, .inr (0, mX0 h19 h20 h21 h22 v18)), (h19, zi k19 120 f19), (h20, zi k20 120 f20), (h21, zi k21 120 f21), (h22, zi k22 120 f22)] H := hP
          have hD9 : va_D A [(h0, .inr (11, mX11 h1 h4 h11 h18 h23 h32 h33 h40 h48 h49 sp0 lw0)), (h18, .inr (0, mX0 h19 h20 h21 h22 v18)), (h19, zi k19 120 f19), (h20, zi k20 120 f20), (h21, zi k21 120 f21), (h22, zi k22 120 f22)] := hD
          exact vx_ret (W.iret (v := r83_) hx hb hr (fun t ht hW => ⟨⟨r83_, (fun _ => 0), rfl, hpost, (fun _ => 0), (fun _ => (fun _ => 0)), (fun _ => (fun _ => 0)), by rw [ht]; exact hP9, va_K.moved hW.alike hK, hD9⟩, hS.F ht⟩) hS.2.2 dX11_document_86)
        · skip
          have b_ : x2.toInt ≠ 2 := fun h => c_ (zeqi.mpr (h.trans zk_2.symm))
          rcases Classical.em (x2 = (3 : Int32)) with c_ | c_
          · skip
            have b_ : x2.toInt = 3 := by rw [c_]; exact zk_3
            refine lv_tableIn (off := 65) (tgt := 87) hx hb dX11_document_22 (by omega) (by omega) (by rw [b_]; decide) (by decide) ?_
            refine lv_aload_n hx hb dX11_document_87 rfl (lv_at hl 0 rfl) ?_
            refine va_get (D := (dC, dI)) (ci := 11) (v := .ref h18) (C := RX11) (T := TX11) (N := 12) hx hb hG zuX11 hown hK hP 0 rfl rfl 3 (by decide) (hG _ zv560) (fun _ h9 => h9) rfl dX11_document_88 ?_
            refine lv_iload_n hx hb dX11_document_91 rfl (lv_at hl 1 rfl) ?_
            have hPc := hP.sub (ws' := [(h18, .inr (0, mX0 h19 h20 h21 h22 v18)), (h22, zi k22 120 f22)]) [1, 5] rfl
            have hDc := hD.sub (ws' := [(h18, .inr (0, mX0 h19 h20 h21 h22 v18)), (h22, zi k22 120 f22)]) [1, 5] (by decide) rfl
            have hKc := hK.sub (tys' := [(k22, .int)]) [3] rfl
            have hFc := va_free (wc := [(h18, .inr (0, mX0 h19 h20 h21 h22 v18)), (h22, zi k22 120 f22)]) hD hS hA [1, 5] rfl
            refine va_calli (va_runV (As := [.int x1]) (rest := []) ⟨hx, hb, hml, hown, hG⟩ (sX0_wordsOf_0 l dC dI adK adV h18 h22 h19 h20 h21 k22 H.size v18 f22 x1 hv18) (cwV 1 hG (zgV zv1480 zv1481 zv1482 zv132 zv1483) rfl rfl rfl (by decide +kernel) ⟨Nat.le_of_ble_eq_true rfl, Nat.le_of_ble_eq_true rfl⟩) ⟨zPc_blind, va_recv hKc hPc (ci := 0) (q0 := 0) rfl rfl, zPc_pre hPc hKc hDc hE hS hFc hZ⟩ rfl rfl hl.1 rfl (lv_room (Nat.le_of_ble_eq_true rfl)) dX11_document_92 ⟨Nat.le_of_ble_eq_true rfl, Nat.le_of_ble_eq_true rfl⟩) hS (fun q _ h => hFc q h) hFc (fun r92_ u92_ t H1 locs ht hvm hw hB hz1 hk1 hS => ?_)
            obtain ⟨w92_, a92_, b92_, hP1, hK1, hD1⟩ := hB
            rw [ht] at hP1
            obtain ⟨hP, hD⟩ := va_join (wr := [(h0, .inr (11, mX11 h1 h4 h11 h18 h23 h32 h33 h40 h48 h49 sp0 lw0)), (h19, zi k19 120 f19), (h20, zi k20 120 f20), (h21, zi k21 120 f21)]) (w1 := [(h18, .inr (0, mX0 h19 h20 h21 h22 v18)), (h22, zi k22 120 f22)]) hP hD [1, 5] [0, 2, 3, 4] rfl rfl (by decide) (by decide) hk1 hFc hP1 hD1
            have hP : va_P (dC, dI) vwCl [(h0, .inr (11, mX11 h1 h4 h11 h18 h23 h32 h33 h40 h48 h49 sp0 lw0)), (h18, .inr (0, mX0 h19 h20 h21 h22 v18)), (h19, zi k19 120 f19), (h20, zi k20 120 f20), (h21, zi k21 120 f21), (h22, zi k22 120 f22)] H1 := hP.sub [0, 4, 1, 2, 3, 5] rfl
            have hD : va_D A [(h0, .inr (11, mX11 h1 h4 h11 h18 h23 h32 h33 h40 h48 h49 sp0 lw0)), (h18, .inr (0, mX0 h19 h20 h21 h22 v18)), (h19, zi k19 120 f19), (h20, zi k20 120 f20), (h21, zi k21 120 f21), (h22, zi k22 120 f22)] := hD.sub [0, 4, 1, 2, 3, 5] (by decide) rfl
            generalize H1 = H at hP hS ⊢
            clear hz1
            refine W.widen (k := 1) (n := 6) (by decide) (by decide) ?_
            have b_ : -2147483648 ≤ r92_.toInt ∧ r92_.toInt ≤ 2147483647 := ⟨zlo _, zhi _⟩
            have hpost : True := trivial
            have hP9 : va_P (dC, dI) vwCl [(h0, .inr (11, mX11 h1 h4 h11 h18 h23 h32 h33 h40 h48 h49 sp0 lw0)), (h18, .inr (0, mX0 h19 h20 h21 h22 v18)), (h19, zi k19 120 f19), (h20, zi k20 120 f20), (h21, zi k21 120 f21), (h22, zi k22 120 f22)] H := hP
            have hD9 : va_D A [(h0, .inr (11, mX11 h1 h4 h11 h18 h23 h32 h33 h40 h48 h49 sp0 lw0)), (h18, .inr (0, mX0 h19 h20 h21 h22 v18)), (h19, zi k19 120 f19), (h20, zi k20 120 f20), (h21, zi k21 120 f21), (h22, zi k22 120 f22)] := hD
            exact vx_ret (W.iret (v := r92_) hx hb hr (fun t ht hW => ⟨⟨r92_, (fun _ => 0), rfl, hpost, (fun _ => 0), (fun _ => (fun _ => 0)), (fun _ => (fun _ => 0)), by rw [ht]; exact hP9, va_K.moved hW.alike hK, hD9⟩, hS.F ht⟩) hS.2.2 dX11_document_95)
          · skip
            have b_ : x2.toInt ≠ 3 := fun h => c_ (zeqi.mpr (h.trans zk_3.symm))
            refine lv_tableOut (tgt := 96) hx hb dX11_document_22 (by omega) (by decide) ?_
            refine lv_iconst (v := (-1)) hx hb dX11_document_96 (by decide) ?_
            refine W.widen (k := 1) (n := 6) (by decide) (by decide) ?_
            have hpost : True := trivial
            have hP9 : va_P (dC, dI) vwCl [(h0, .inr (11, mX11 h1 h4 h11 h18 h23 h32 h33 h40 h48 h49 sp0 lw0)), (h18, .inr (0, mX0 h19 h20 h21 h22 v18)), (h19, zi k19 120 f19), (h20, zi k20 120 f20), (h21, zi k21 120 f21), (h22, zi k22 120 f22)] H := hP
            have hD9 : va_D A [(h0, .inr (11, mX11 h1 h4 h11 h18 h23 h32 h33 h40 h48 h49 sp0 lw0)), (h18, .inr (0, mX0 h19 h20 h21 h22 v18)), (h19, zi k19 120 f19), (h20, zi k20 120 f20), (h21, zi k21 120 f21), (h22, zi k22 120 f22)] := hD
            exact vx_ret (W.iret (v := (-1)) hx hb hr (fun t ht hW => ⟨⟨(-1), (fun _ => 0), rfl, hpost, (fun _ => 0), (fun _ => (fun _ => 0)), (fun _ => (fun _ => 0)), by rw [ht]; exact hP9, va_K.moved hW.alike hK, hD9⟩, hS.F ht⟩) hS.2.2 dX11_document_97)
  · skip
    have b_ := zF_ne rfl zk_0 c_
    have hpost : True := trivial
    have hP9 : va_P (dC, dI) vwCl [(h0, .inr (11, mX11 h1 h4 h11 h18 h23 h32 h33 h40 h48 h49 sp0 lw0)), (h18, .inr (0, mX0 h19 h20 h21 h22 v18)), (h19, zi k19 120 f19), (h20, zi k20 120 f20), (h21, zi k21 120 f21), (h22, zi k22 120 f22)] H := hP
    have hD9 : va_D A [(h0, .inr (11, mX11 h1 h4 h11 h18 h23 h32 h33 h40 h48 h49 sp0 lw0)), (h18, .inr (0, mX0 h19 h20 h21 h22 v18)), (h19, zi k19 120 f19), (h20, zi k20 120 f20), (h21, zi k21 120 f21), (h22, zi k22 120 f22)] := hD
    obtain ⟨sa, hstr⟩ := zE_S184 hE
    exact vx_throwS (names := ["java/lang/RuntimeException", "java/lang/Exception"]) (A := A) hx hb hl0 hown (by decide +kernel) (by decide +kernel) (hG _ zv1411) (hG _ zv154) hstr (zhat hG hE) zAT_ot hZ.1 hZ.2.1 hS (hl.1.trans hml.symm) dX11_document_11 dX11_document_14 dX11_document_15 dX11_document_17 dX11_document_20 (fun x h => (hout x h).elim) (by decide) (by decide +kernel) (Nat.le_of_ble_eq_true rfl) (Nat.le_of_ble_eq_true rfl) hlocks (fun t hvm hz hk => ⟨(fun _ => 0), hpost, ⟨rfl, (fun _ => 0), (fun _ => (fun _ => 0)), (fun _ => (fun _ => 0)), zkeepP hP9 hk, va_K.moved hvm hK, hD9⟩, zkeepF hS hz hk⟩) hS.2.2 (Nat.le_of_ble_eq_true rfl) (Nat.le_of_ble_eq_true rfl)
