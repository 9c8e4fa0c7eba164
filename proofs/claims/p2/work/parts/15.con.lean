set_option maxHeartbeats 8000000 in
set_option maxRecDepth 100000 in
theorem sX0_size_0 (l : Launch) (dC : Nat → ClassId) (dI : Nat → Nat → Nat) (adK adV : Nat → Nat) (h0 : Nat) (h1 : Nat) (h2 : Nat) (h3 : Nat) (h4 : Nat) (sz : Nat) (v0 : Nat → Int32) (hv0 : zR rg_Documents v0) : Met l yX0_size (zw yX0_size cX0_size 1 (some .int)) { frames := 0, cells := 0, slots := 0, locals := 0 } (zPc dC dI adK adV [.ref h0] sz [(h0, .inr (0, mX0 h1 h2 h3 h4 v0))] []) (va_Qi (fun (r : Int32) (u : Nat → Int32) => (0 ≤ r.toInt ∧ r.toInt ≤ 120)) (fun (u : Nat → Int32) (t : State) => ∃ (ww : Nat → Int64) (aa : Nat → Nat → Int32) (bb : Nat → Nat → Int64), va_P (dC, dI) vwCl [(h0, .inr (0, mX0 h1 h2 h3 h4 v0))] t.heap ∧ va_K (dC, dI) vwCl [] t ∧ va_D (va_A [(h0, .inr (0, mX0 h1 h2 h3 h4 v0))] sz) [(h0, .inr (0, mX0 h1 h2 h3 h4 v0))]) (va_A [(h0, .inr (0, mX0 h1 h2 h3 h4 v0))] sz)) 0 0 (va_A [(h0, .inr (0, mX0 h1 h2 h3 h4 v0))] sz) := by
  refine Met.ofW (cc := cX0_size) (maxL := 1) (ret := (some .int)) (by decide) rfl ?_
  intro p e s m args below meth c s₁ B hml hv
  obtain ⟨rfl, hsz, hP, hK, hD0, hE, hZ⟩ := hv
  have hx := B.exec
  have hb := B.bytes
  have hr := B.returns
  have hG : ∀ w ∈ zG, w.before _ s = true := fun w h => atoms_spec (ws := (zw yX0_size cX0_size 1 (some .int))) B.pre w (List.mem_cons_of_mem _ h)
  have hown : s.vm.findClass RX0 = some m.cls := findClass_of_methodNamed B.named
  have hlocks := B.notSynchronized

  subst hsz
  have hD := hD0.self (sz := s.heap.size)
  generalize hAe : va_A [(h0, .inr (0, mX0 h1 h2 h3 h4 v0))] s.heap.size = A at hD hZ ⊢
  have hA : ∀ q : Nat, s.heap.size ≤ q → A q := fun q h => by rw [← hAe]; exact Or.inr h
  have hS : va_S A s.heap s.heap [] := va_S.rf
  have hl := lv_entry ([.ref h0]) (n := 1) (Nat.le_of_ble_eq_true rfl)
  rw [lg_entry_eq]
  generalize (lg_sl ([.ref h0]) ++ List.replicate (1 - (lg_sl ([.ref h0])).length) Slot.unset).toArray = ls at hl ⊢
  have hl : lv_has ls 1 [(0, .ref h0)] := hl
  refine lv_aload_n hx hb dX0_size_0 rfl (lv_at hl 0 rfl) ?_
  have b_ : 0 ≤ (v0 4).toInt ∧ (v0 4).toInt ≤ 120 := hv0 4
  refine va_get (D := (dC, dI)) (ci := 0) (v := .int (v0 4)) (C := RX0) (T := TX0) (N := 6) hx hb hG zuX0 hown hK hP 0 rfl rfl 4 (by decide) (hG _ zw129) (fun _ h9 => h9) rfl dX0_size_1 ?_
  refine W.widen (k := 0) (n := 0) (by decide) (by decide) ?_
  have hpost : (0 ≤ (v0 4).toInt ∧ (v0 4).toInt ≤ 120) := ⟨by omega, by omega⟩
  have hP9 : va_P (dC, dI) vwCl [(h0, .inr (0, mX0 h1 h2 h3 h4 v0))] s.heap := hP
  have hD9 : va_D A [(h0, .inr (0, mX0 h1 h2 h3 h4 v0))] := hD
  exact W.iret (v := (v0 4)) hx hb hr (fun t ht hW => ⟨⟨(v0 4), (fun _ => 0), rfl, hpost, (fun _ => 0), (fun _ => (fun _ => 0)), (fun _ => (fun _ => 0)), by rw [ht]; exact hP9, va_K.moved hW.alike hK, hD9⟩, hS.F ht⟩) hS.2.2 dX0_size_4
set_option maxHeartbeats 8000000 in
set_option maxRecDepth 100000 in
theorem sX0_onShelf_0 (l : Launch) (dC : Nat → ClassId) (dI : Nat → Nat → Nat) (adK adV : Nat → Nat) (h0 : Nat) (h1 : Nat) (h2 : Nat) (h3 : Nat) (h4 : Nat) (sz : Nat) (v0 : Nat → Int32) (hv0 : zR rg_Documents v0) : Met l yX0_onShelf (zw yX0_onShelf cX0_onShelf 1 (some .int)) { frames := 0, cells := 0, slots := 0, locals := 0 } (zPc dC dI adK adV [.ref h0] sz [(h0, .inr (0, mX0 h1 h2 h3 h4 v0))] []) (va_Qi (fun (r : Int32) (u : Nat → Int32) => True) (fun (u : Nat → Int32) (t : State) => ∃ (ww : Nat → Int64) (aa : Nat → Nat → Int32) (bb : Nat → Nat → Int64), va_P (dC, dI) vwCl [(h0, .inr (0, mX0 h1 h2 h3 h4 v0))] t.heap ∧ va_K (dC, dI) vwCl [] t ∧ va_D (va_A [(h0, .inr (0, mX0 h1 h2 h3 h4 v0))] sz) [(h0, .inr (0, mX0 h1 h2 h3 h4 v0))]) (va_A [(h0, .inr (0, mX0 h1 h2 h3 h4 v0))] sz)) 0 0 (va_A [(h0, .inr (0, mX0 h1 h2 h3 h4 v0))] sz) := by
  refine Met.ofW (cc := cX0_onShelf) (maxL := 1) (ret := (some .int)) (by decide) rfl ?_
  intro p e s m args below meth c s₁ B hml hv
  obtain ⟨rfl, hsz, hP, hK, hD0, hE, hZ⟩ := hv
  have hx := B.exec
  have hb := B.bytes
  have hr := B.returns
  have hG : ∀ w ∈ zG, w.before _ s = true := fun w h => atoms_spec (ws := (zw yX0_onShelf cX0_onShelf 1 (some .int))) B.pre w (List.mem_cons_of_mem _ h)
  have hown : s.vm.findClass RX0 = some m.cls := findClass_of_methodNamed B.named
  have hlocks := B.notSynchronized

  subst hsz
  have hD := hD0.self (sz := s.heap.size)
  generalize hAe : va_A [(h0, .inr (0, mX0 h1 h2 h3 h4 v0))] s.heap.size = A at hD hZ ⊢
  have hA : ∀ q : Nat, s.heap.size ≤ q → A q := fun q h => by rw [← hAe]; exact Or.inr h
  have hS : va_S A s.heap s.heap [] := va_S.rf
  have hl := lv_entry ([.ref h0]) (n := 1) (Nat.le_of_ble_eq_true rfl)
  rw [lg_entry_eq]
  generalize (lg_sl ([.ref h0]) ++ List.replicate (1 - (lg_sl ([.ref h0])).length) Slot.unset).toArray = ls at hl ⊢
  have hl : lv_has ls 1 [(0, .ref h0)] := hl
  refine lv_aload_n hx hb dX0_onShelf_0 rfl (lv_at hl 0 rfl) ?_
  refine va_get (D := (dC, dI)) (ci := 0) (v := .int (v0 5)) (C := RX0) (T := TX0) (N := 6) hx hb hG zuX0 hown hK hP 0 rfl rfl 5 (by decide) (hG _ zw130) (fun _ h9 => h9) rfl dX0_onShelf_1 ?_
  refine W.widen (k := 0) (n := 0) (by decide) (by decide) ?_
  have b_ : -2147483648 ≤ (v0 5).toInt ∧ (v0 5).toInt ≤ 2147483647 := ⟨zlo _, zhi _⟩
  have hpost : True := trivial
  have hP9 : va_P (dC, dI) vwCl [(h0, .inr (0, mX0 h1 h2 h3 h4 v0))] s.heap := hP
  have hD9 : va_D A [(h0, .inr (0, mX0 h1 h2 h3 h4 v0))] := hD
  exact W.iret (v := (v0 5)) hx hb hr (fun t ht hW => ⟨⟨(v0 5), (fun _ => 0), rfl, hpost, (fun _ => 0), (fun _ => (fun _ => 0)), (fun _ => (fun _ => 0)), by rw [ht]; exact hP9, va_K.moved hW.alike hK, hD9⟩, hS.F ht⟩) hS.2.2 dX0_onShelf_4
set_option maxHeartbeats 8000000 in
set_option maxRecDepth 100000 in
theorem sX0_add_0 (l : Launch) (dC : Nat → ClassId) (dI : Nat → Nat → Nat) (adK adV : Nat → Nat) (h0 : Nat) (h1 : Nat) (h2 : Nat) (h4 : Nat) (h3 : Nat) (k1 : ClassId) (k2 : ClassId) (k4 : ClassId) (sz : Nat) (v0 : Nat → Int32) (f1 : Nat → Int32) (f2 : Nat → Int32) (f4 : Nat → Int32) (x1 : Int32) (x2 : Int32) (hv0 : zR rg_Documents v0) (hf2 : zA 0 300 f2) (hx1 : 0 ≤ x1.toInt ∧ x1.toInt ≤ 300) : Met l yX0_add (zw yX0_add cX0_add 3 none) { frames := 0, cells := 0, slots := 0, locals := 0 } (zPc dC dI adK adV [.ref h0, .int x1, .int x2] sz [(h0, .inr (0, mX0 h1 h2 h3 h4 v0)), (h1, .inl (k1, 120, .inl f1)), (h2, .inl (k2, 120, .inl f2)), (h4, .inl (k4, 120, .inl f4))] [(k1, .boolean), (k2, .int), (k4, .int)]) (va_Qv (fun (u : Nat → Int32) => (1 ≤ (u 0).toInt ∧ (u 0).toInt ≤ 120)) (fun (u : Nat → Int32) (t : State) => ∃ (ww : Nat → Int64) (aa : Nat → Nat → Int32) (bb : Nat → Nat → Int64), zA 0 300 (aa 1) ∧ va_P (dC, dI) vwCl [(h0, .inr (0, mX0 h1 h2 h3 h4 (upd (upd v0 4 (u 0)) 5 (u 1)))), (h1, .inl (k1, 120, .inl (aa 0))), (h2, .inl (k2, 120, .inl (aa 1))), (h4, .inl (k4, 120, .inl (aa 2)))] t.heap ∧ va_K (dC, dI) vwCl [(k1, .boolean), (k2, .int), (k4, .int)] t ∧ va_D (va_A [(h0, .inr (0, mX0 h1 h2 h3 h4 v0)), (h1, .inl (k1, 120, .inl f1)), (h2, .inl (k2, 120, .inl f2)), (h4, .inl (k4, 120, .inl f4))] sz) [(h0, .inr (0, mX0 h1 h2 h3 h4 (upd (upd v0 4 (u 0)) 5 (u 1)))), (h1, .inl (k1, 120, .inl (aa 0))), (h2, .inl (k2, 120, .inl (aa 1))), (h4, .inl (k4, 120, .inl (aa 2)))]) (va_A [(h0, .inr (0, mX0 h1 h2 h3 h4 v0)), (h1, .inl (k1, 120, .inl f1)), (h2, .inl (k2, 120, .inl f2)), (h4, .inl (k4, 120, .inl f4))] sz)) 0 0 (va_A [(h0, .inr (0, mX0 h1 h2 h3 h4 v0)), (h1, .inl (k1, 120, .inl f1)), (h2, .inl (k2, 120, .inl f2)), (h4, .inl (k4, 120, .inl f4))] sz) := by
  refine Met.ofW (cc := cX0_add) (maxL := 3) (ret := none) (by decide) rfl ?_
  intro p e s m args below meth c s₁ B hml hv
  obtain ⟨rfl, hsz, hP, hK, hD0, hE, hZ⟩ := hv
  have hx := B.exec
  have hb := B.bytes
  have hr := B.returns
  have hG : ∀ w ∈ zG, w.before _ s = true := fun w h => atoms_spec (ws := (zw yX0_add cX0_add 3 none)) B.pre w (List.mem_cons_of_mem _ h)
  have hown : s.vm.findClass RX0 = some m.cls := findClass_of_methodNamed B.named
  have hlocks := B.notSynchronized

  subst hsz
  have hD := hD0.self (sz := s.heap.size)
  generalize hAe : va_A [(h0, .inr (0, mX0 h1 h2 h3 h4 v0)), (h1, .inl (k1, 120, .inl f1)), (h2, .inl (k2, 120, .inl f2)), (h4, .inl (k4, 120, .inl f4))] s.heap.size = A at hD hZ ⊢
  have hA : ∀ q : Nat, s.heap.size ≤ q → A q := fun q h => by rw [← hAe]; exact Or.inr h
  have hS : va_S A s.heap s.heap [] := va_S.rf
  have hl := lv_entry ([.ref h0, .int x1, .int x2]) (n := 3) (Nat.le_of_ble_eq_true rfl)
  rw [lg_entry_eq]
  generalize (lg_sl ([.ref h0, .int x1, .int x2]) ++ List.replicate (3 - (lg_sl ([.ref h0, .int x1, .int x2])).length) Slot.unset).toArray = ls at hl ⊢
  have hl : lv_has ls 3 [(0, .ref h0), (1, .int x1), (2, .int x2)] := hl
  refine lv_aload_n hx hb dX0_add_0 rfl (lv_at hl 0 rfl) ?_
  have b_ : 0 ≤ (v0 4).toInt ∧ (v0 4).toInt ≤ 120 := hv0 4
  refine va_get (D := (dC, dI)) (ci := 0) (v := .int (v0 4)) (C := RX0) (T := TX0) (N := 6) hx hb hG zuX0 hown hK hP 0 rfl rfl 4 (by decide) (hG _ zw129) (fun _ h9 => h9) rfl dX0_add_1 ?_
  refine lv_bipush (v := 120) hx hb dX0_add_4 (by decide) ?_
  refine lv_icmp_ge (tgt := 59) hx hb dX0_add_6 (by decide) (fun c_ => ?_) (fun c_ => ?_)
  · skip
    have b_ := zT_ge rfl zk_120 c_
    refine W.widen (k := 0) (n := 0) (by decide) (by decide) ?_
    have b_ : -2147483648 ≤ (v0 5).toInt ∧ (v0 5).toInt ≤ 2147483647 := ⟨zlo _, zhi _⟩
    have hpost : (1 ≤ (v0 4).toInt ∧ (v0 4).toInt ≤ 120) := ⟨by omega, by omega⟩
    have hP9 : va_P (dC, dI) vwCl [(h0, .inr (0, mX0 h1 h2 h3 h4 (upd (upd v0 4 (v0 4)) 5 (v0 5)))), (h1, .inl (k1, 120, .inl f1)), (h2, .inl (k2, 120, .inl f2)), (h4, .inl (k4, 120, .inl f4))] s.heap := hP
    have hD9 : va_D A [(h0, .inr (0, mX0 h1 h2 h3 h4 (upd (upd v0 4 (v0 4)) 5 (v0 5)))), (h1, .inl (k1, 120, .inl f1)), (h2, .inl (k2, 120, .inl f2)), (h4, .inl (k4, 120, .inl f4))] := hD
    exact W.vret hx hb hr (fun t ht hW => ⟨⟨(fun i => ([(v0 4), (v0 5)] : List (Int32)).getD i 0), rfl, hpost, (fun _ => 0), (fun i => ([f1, f2, f4] : List (Nat → Int32)).getD i (fun _ => 0)), (fun _ => (fun _ => 0)), hf2, by rw [ht]; exact hP9, va_K.moved hW.alike hK, hD9⟩, hS.F ht⟩) hS.2.2 dX0_add_59
  · skip
    have b_ := zF_ge rfl zk_120 c_
    refine lv_aload_n hx hb dX0_add_9 rfl (lv_at hl 0 rfl) ?_
    refine va_get (D := (dC, dI)) (ci := 0) (v := .ref h1) (C := RX0) (T := TX0) (N := 6) hx hb hG zuX0 hown hK hP 0 rfl rfl 0 (by decide) (hG _ zw131) (fun _ h9 => h9) rfl dX0_add_10 ?_
    refine lv_aload_n hx hb dX0_add_13 rfl (lv_at hl 0 rfl) ?_
    refine va_get (D := (dC, dI)) (ci := 0) (v := .int (v0 4)) (C := RX0) (T := TX0) (N := 6) hx hb hG zuX0 hown hK hP 0 rfl rfl 4 (by decide) (hG _ zw129) (fun _ h9 => h9) rfl dX0_add_14 ?_
    refine lv_iconst (v := 1) hx hb dX0_add_17 (by decide) ?_
    refine va_zast hx hb hK hP hD hS 1 0 rfl rfl (zin_lit ⟨by omega, by omega⟩) dX0_add_18 (fun H locs hP hD hS => ?_)
    obtain ⟨f_18, e_f_18⟩ : ∃ z : Nat → Int32, z = upd f1 ((v0 4) : Int32).toNatClampNeg (vp_nar .boolean 1) := ⟨_, rfl⟩
    have hP : va_P (dC, dI) vwCl [(h0, .inr (0, mX0 h1 h2 h3 h4 v0)), (h1, .inl (k1, 120, .inl f_18)), (h2, .inl (k2, 120, .inl f2)), (h4, .inl (k4, 120, .inl f4))] H := by rw [e_f_18]; exact hP
    have hD : va_D A [(h0, .inr (0, mX0 h1 h2 h3 h4 v0)), (h1, .inl (k1, 120, .inl f_18)), (h2, .inl (k2, 120, .inl f2)), (h4, .inl (k4, 120, .inl f4))] := by rw [e_f_18]; exact hD
    refine lv_aload_n hx hb dX0_add_19 rfl (lv_at hl 0 rfl) ?_
    refine va_get (D := (dC, dI)) (ci := 0) (v := .ref h2) (C := RX0) (T := TX0) (N := 6) hx hb hG zuX0 hown hK hP 0 rfl rfl 1 (by decide) (hG _ zw132) (fun _ h9 => h9) rfl dX0_add_20 ?_
    refine lv_aload_n hx hb dX0_add_23 rfl (lv_at hl 0 rfl) ?_
    refine va_get (D := (dC, dI)) (ci := 0) (v := .int (v0 4)) (C := RX0) (T := TX0) (N := 6) hx hb hG zuX0 hown hK hP 0 rfl rfl 4 (by decide) (hG _ zw129) (fun _ h9 => h9) rfl dX0_add_24 ?_
    refine lv_iload_n hx hb dX0_add_27 rfl (lv_at hl 1 rfl) ?_
    refine va_iast hx hb hK hP hD hS 2 1 rfl rfl (zin_lit ⟨by omega, by omega⟩) dX0_add_28 (fun H locs hP hD hS => ?_)
    obtain ⟨f_28, e_f_28⟩ : ∃ z : Nat → Int32, z = upd f2 ((v0 4) : Int32).toNatClampNeg x1 := ⟨_, rfl⟩
    have hP : va_P (dC, dI) vwCl [(h0, .inr (0, mX0 h1 h2 h3 h4 v0)), (h1, .inl (k1, 120, .inl f_18)), (h2, .inl (k2, 120, .inl f_28)), (h4, .inl (k4, 120, .inl f4))] H := by rw [e_f_28]; exact hP
    have hD : va_D A [(h0, .inr (0, mX0 h1 h2 h3 h4 v0)), (h1, .inl (k1, 120, .inl f_18)), (h2, .inl (k2, 120, .inl f_28)), (h4, .inl (k4, 120, .inl f4))] := by rw [e_f_28]; exact hD
    have hf_28 : zA 0 300 f_28 := by rw [e_f_28]; exact zA_upd hf2 (show 0 ≤ (x1 : Int32).toInt from by omega) (show (x1 : Int32).toInt ≤ 300 from by omega)
    refine lv_aload_n hx hb dX0_add_29 rfl (lv_at hl 0 rfl) ?_
    refine va_get (D := (dC, dI)) (ci := 0) (v := .ref h4) (C := RX0) (T := TX0) (N := 6) hx hb hG zuX0 hown hK hP 0 rfl rfl 3 (by decide) (hG _ zw133) (fun _ h9 => h9) rfl dX0_add_30 ?_
    refine lv_aload_n hx hb dX0_add_33 rfl (lv_at hl 0 rfl) ?_
    refine va_get (D := (dC, dI)) (ci := 0) (v := .int (v0 4)) (C := RX0) (T := TX0) (N := 6) hx hb hG zuX0 hown hK hP 0 rfl rfl 4 (by decide) (hG _ zw129) (fun _ h9 => h9) rfl dX0_add_34 ?_
    refine lv_iload_n hx hb dX0_add_37 rfl (lv_at hl 2 rfl) ?_
    refine va_iast hx hb hK hP hD hS 3 2 rfl rfl (zin_lit ⟨by omega, by omega⟩) dX0_add_38 (fun H locs hP hD hS => ?_)
    obtain ⟨f_38, e_f_38⟩ : ∃ z : Nat → Int32, z = upd f4 ((v0 4) : Int32).toNatClampNeg x2 := ⟨_, rfl⟩
    have hP : va_P (dC, dI) vwCl [(h0, .inr (0, mX0 h1 h2 h3 h4 v0)), (h1, .inl (k1, 120, .inl f_18)), (h2, .inl (k2, 120, .inl f_28)), (h4, .inl (k4, 120, .inl f_38))] H := by rw [e_f_38]; exact hP
    have hD : va_D A [(h0, .inr (0, mX0 h1 h2 h3 h4 v0)), (h1, .inl (k1, 120, .inl f_18)), (h2, .inl (k2, 120, .inl f_28)), (h4, .inl (k4, 120, .inl f_38))] := by rw [e_f_38]; exact hD
    refine lv_aload_n hx hb dX0_add_39 rfl (lv_at hl 0 rfl) ?_
    refine lv_dup hx hb dX0_add_40 rfl ?_
    refine va_get (D := (dC, dI)) (ci := 0) (v := .int (v0 4)) (C := RX0) (T := TX0) (N := 6) hx hb hG zuX0 hown hK hP 0 rfl rfl 4 (by decide) (hG _ zw129) (fun _ h9 => h9) rfl dX0_add_41 ?_
    refine lv_iconst (v := 1) hx hb dX0_add_44 (by decide) ?_
    refine lv_iadd hx hb dX0_add_45 ?_
    refine lv_topi (fun z45 e_z45 => ?_)
    have b_ := zadd rfl zk_1 e_z45 (by omega) (by omega)
    refine va_put (D := (dC, dI)) (ci := 0) (v := .int z45) (ty := .int) (C := RX0) (T := TX0) (N := 6) hx hb hG zuX0 tyX0 tyX0_ok nmX0 hown hK hP hD hS 0 rfl rfl 4 (by decide) (hG _ zw129) (fun _ h9 => h9) rfl (by decide +kernel) rfl rfl (Nat.le_of_ble_eq_true rfl) dX0_add_46 (fun H locs hP hD hS => ?_)
    have hP : va_P (dC, dI) vwCl [(h0, .inr (0, mX0 h1 h2 h3 h4 (upd v0 4 z45))), (h1, .inl (k1, 120, .inl f_18)), (h2, .inl (k2, 120, .inl f_28)), (h4, .inl (k4, 120, .inl f_38))] H := hP
    have hD : va_D A [(h0, .inr (0, mX0 h1 h2 h3 h4 (upd v0 4 z45))), (h1, .inl (k1, 120, .inl f_18)), (h2, .inl (k2, 120, .inl f_28)), (h4, .inl (k4, 120, .inl f_38))] := hD
    refine lv_aload_n hx hb dX0_add_49 rfl (lv_at hl 0 rfl) ?_
    refine lv_dup hx hb dX0_add_50 rfl ?_
    refine va_get (D := (dC, dI)) (ci := 0) (v := .int (v0 5)) (C := RX0) (T := TX0) (N := 6) hx hb hG zuX0 hown hK hP 0 rfl rfl 5 (by decide) (hG _ zw130) (fun _ h9 => h9) rfl dX0_add_51 ?_
    refine lv_iconst (v := 1) hx hb dX0_add_54 (by decide) ?_
    have b_ : -2147483648 ≤ (v0 5).toInt ∧ (v0 5).toInt ≤ 2147483647 := ⟨zlo _, zhi _⟩
    refine lv_iadd hx hb dX0_add_55 ?_
    refine lv_topi (fun z55 e_z55 => ?_)
    refine va_put (D := (dC, dI)) (ci := 0) (v := .int z55) (ty := .int) (C := RX0) (T := TX0) (N := 6) hx hb hG zuX0 tyX0 tyX0_ok nmX0 hown hK hP hD hS 0 rfl rfl 5 (by decide) (hG _ zw130) (fun _ h9 => h9) rfl (by decide +kernel) rfl rfl (Nat.le_of_ble_eq_true rfl) dX0_add_56 (fun H locs hP hD hS => ?_)
    have hP : va_P (dC, dI) vwCl [(h0, .inr (0, mX0 h1 h2 h3 h4 (upd (upd v0 4 z45) 5 z55))), (h1, .inl (k1, 120, .inl f_18)), (h2, .inl (k2, 120, .inl f_28)), (h4, .inl (k4, 120, .inl f_38))] H := hP
    have hD : va_D A [(h0, .inr (0, mX0 h1 h2 h3 h4 (upd (upd v0 4 z45) 5 z55))), (h1, .inl (k1, 120, .inl f_18)), (h2, .inl (k2, 120, .inl f_28)), (h4, .inl (k4, 120, .inl f_38))] := hD
    refine W.widen (k := 0) (n := 0) (by decide) (by decide) ?_
    have b_ : -2147483648 ≤ z55.toInt ∧ z55.toInt ≤ 2147483647 := ⟨zlo _, zhi _⟩
    have hpost : (1 ≤ z45.toInt ∧ z45.toInt ≤ 120) := ⟨by omega, by omega⟩
    have hP9 : va_P (dC, dI) vwCl [(h0, .inr (0, mX0 h1 h2 h3 h4 (upd (upd v0 4 z45) 5 z55))), (h1, .inl (k1, 120, .inl f_18)), (h2, .inl (k2, 120, .inl f_28)), (h4, .inl (k4, 120, .inl f_38))] H := hP
    have hD9 : va_D A [(h0, .inr (0, mX0 h1 h2 h3 h4 (upd (upd v0 4 z45) 5 z55))), (h1, .inl (k1, 120, .inl f_18)), (h2, .inl (k2, 120, .inl f_28)), (h4, .inl (k4, 120, .inl f_38))] := hD
    exact W.vret hx hb hr (fun t ht hW => ⟨⟨(fun i => ([z45, z55] : List (Int32)).getD i 0), rfl, hpost, (fun _ => 0), (fun i => ([f_18, f_28, f_38] : List (Nat → Int32)).getD i (fun _ => 0)), (fun _ => (fun _ => 0)), hf_28, by rw [ht]; exact hP9, va_K.moved hW.alike hK, hD9⟩, hS.F ht⟩) hS.2.2 dX0_add_59
set_option maxHeartbeats 8000000 in
set_option maxRecDepth 100000 in
theorem sX0_came_0 (l : Launch) (dC : Nat → ClassId) (dI : Nat → Nat → Nat) (adK adV : Nat → Nat) (h0 : Nat) (h1 : Nat) (h2 : Nat) (h3 : Nat) (h4 : Nat) (sz : Nat) (v0 : Nat → Int32) (x1 : Int32) (hv0 : zR rg_Documents v0) : Met l yX0_came (zw yX0_came cX0_came 2 (some .boolean)) { frames := 0, cells := 0, slots := 0, locals := 0 } (zPc dC dI adK adV [.ref h0, .int x1] sz [(h0, .inr (0, mX0 h1 h2 h3 h4 v0))] []) (va_Qi (fun (r : Int32) (u : Nat → Int32) => (0 ≤ r.toInt ∧ r.toInt ≤ 1) ∧ (r.toInt = 1 → (0 ≤ x1.toInt ∧ x1.toInt ≤ 119)) ∧ (r.toInt = 1 → x1.toInt < (v0 4).toInt)) (fun (u : Nat → Int32) (t : State) => ∃ (ww : Nat → Int64) (aa : Nat → Nat → Int32) (bb : Nat → Nat → Int64), va_P (dC, dI) vwCl [(h0, .inr (0, mX0 h1 h2 h3 h4 v0))] t.heap ∧ va_K (dC, dI) vwCl [] t ∧ va_D (va_A [(h0, .inr (0, mX0 h1 h2 h3 h4 v0))] sz) [(h0, .inr (0, mX0 h1 h2 h3 h4 v0))]) (va_A [(h0, .inr (0, mX0 h1 h2 h3 h4 v0))] sz)) 0 0 (va_A [(h0, .inr (0, mX0 h1 h2 h3 h4 v0))] sz) := by
  refine Met.ofW (cc := cX0_came) (maxL := 2) (ret := (some .boolean)) (by decide) rfl ?_
  intro p e s m args below meth c s₁ B hml hv
  obtain ⟨rfl, hsz, hP, hK, hD0, hE, hZ⟩ := hv
  have hx := B.exec
  have hb := B.bytes
  have hr := B.returns
  have hG : ∀ w ∈ zG, w.before _ s = true := fun w h => atoms_spec (ws := (zw yX0_came cX0_came 2 (some .boolean))) B.pre w (List.mem_cons_of_mem _ h)
  have hown : s.vm.findClass RX0 = some m.cls := findClass_of_methodNamed B.named
  have hlocks := B.notSynchronized

  subst hsz
  have hD := hD0.self (sz := s.heap.size)
  generalize hAe : va_A [(h0, .inr (0, mX0 h1 h2 h3 h4 v0))] s.heap.size = A at hD hZ ⊢
  have hA : ∀ q : Nat, s.heap.size ≤ q → A q := fun q h => by rw [← hAe]; exact Or.inr h
  have hS : va_S A s.heap s.heap [] := va_S.rf
  have hl := lv_entry ([.ref h0, .int x1]) (n := 2) (Nat.le_of_ble_eq_true rfl)
  rw [lg_entry_eq]
  generalize (lg_sl ([.ref h0, .int x1]) ++ List.replicate (2 - (lg_sl ([.ref h0, .int x1])).length) Slot.unset).toArray = ls at hl ⊢
  have hl : lv_has ls 2 [(0, .ref h0), (1, .int x1)] := hl
  have b_ := zk_0
  have b_ := zk_1
  have b_ : 0 ≤ (v0 4).toInt ∧ (v0 4).toInt ≤ 120 := hv0 4
  refine lv_iload_n hx hb dX0_came_0 rfl (lv_at hl 1 rfl) ?_
  have b_ : -2147483648 ≤ x1.toInt ∧ x1.toInt ≤ 2147483647 := ⟨zlo _, zhi _⟩
  refine lv_if_lt (tgt := 16) hx hb dX0_came_1 (by decide) (fun c_ => ?_) (fun c_ => ?_)
  · skip
    have b_ := zT_lt rfl zk_0 c_
    refine lv_iconst (v := 0) hx hb dX0_came_16 (by decide) ?_
    refine W.widen (k := 0) (n := 0) (by decide) (by decide) ?_
    have hpost : (0 ≤ (0 : Int32).toInt ∧ (0 : Int32).toInt ≤ 1) ∧ ((0 : Int32).toInt = 1 → (0 ≤ x1.toInt ∧ x1.toInt ≤ 119)) ∧ ((0 : Int32).toInt = 1 → x1.toInt < (v0 4).toInt) := ⟨⟨by omega, by omega⟩, by omega, by omega⟩
    have hP9 : va_P (dC, dI) vwCl [(h0, .inr (0, mX0 h1 h2 h3 h4 v0))] s.heap := hP
    have hD9 : va_D A [(h0, .inr (0, mX0 h1 h2 h3 h4 v0))] := hD
    exact W.zret (v := 0) hx hb hr rfl (fun t ht hW => ⟨⟨0, (fun _ => 0), rfl, hpost, (fun _ => 0), (fun _ => (fun _ => 0)), (fun _ => (fun _ => 0)), by rw [ht]; exact hP9, va_K.moved hW.alike hK, hD9⟩, hS.F ht⟩) hS.2.2 dX0_came_17
  · skip
    have b_ := zF_lt rfl zk_0 c_
    refine lv_iload_n hx hb dX0_came_4 rfl (lv_at hl 1 rfl) ?_
    refine lv_aload_n hx hb dX0_came_5 rfl (lv_at hl 0 rfl) ?_
    refine va_get (D := (dC, dI)) (ci := 0) (v := .int (v0 4)) (C := RX0) (T := TX0) (N := 6) hx hb hG zuX0 hown hK hP 0 rfl rfl 4 (by decide) (hG _ zw129) (fun _ h9 => h9) rfl dX0_came_6 ?_
    refine lv_icmp_ge (tgt := 16) hx hb dX0_came_9 (by decide) (fun c_ => ?_) (fun c_ => ?_)
    · skip
      have b_ := zT_ge rfl rfl c_
      refine lv_iconst (v := 0) hx hb dX0_came_16 (by decide) ?_
      refine W.widen (k := 0) (n := 0) (by decide) (by decide) ?_
      have hpost : (0 ≤ (0 : Int32).toInt ∧ (0 : Int32).toInt ≤ 1) ∧ ((0 : Int32).toInt = 1 → (0 ≤ x1.toInt ∧ x1.toInt ≤ 119)) ∧ ((0 : Int32).toInt = 1 → x1.toInt < (v0 4).toInt) := ⟨⟨by omega, by omega⟩, by omega, by omega⟩
      have hP9 : va_P (dC, dI) vwCl [(h0, .inr (0, mX0 h1 h2 h3 h4 v0))] s.heap := hP
      have hD9 : va_D A [(h0, .inr (0, mX0 h1 h2 h3 h4 v0))] := hD
      exact W.zret (v := 0) hx hb hr rfl (fun t ht hW => ⟨⟨0, (fun _ => 0), rfl, hpost, (fun _ => 0), (fun _ => (fun _ => 0)), (fun _ => (fun _ => 0)), by rw [ht]; exact hP9, va_K.moved hW.alike hK, hD9⟩, hS.F ht⟩) hS.2.2 dX0_came_17
    · skip
      have b_ := zF_ge rfl rfl c_
      refine lv_iconst (v := 1) hx hb dX0_came_12 (by decide) ?_
      refine lv_goto (tgt := 17) hx hb dX0_came_13 (by decide) ?_
      refine W.widen (k := 0) (n := 0) (by decide) (by decide) ?_
      have hpost : (0 ≤ (1 : Int32).toInt ∧ (1 : Int32).toInt ≤ 1) ∧ ((1 : Int32).toInt = 1 → (0 ≤ x1.toInt ∧ x1.toInt ≤ 119)) ∧ ((1 : Int32).toInt = 1 → x1.toInt < (v0 4).toInt) := ⟨⟨by omega, by omega⟩, by omega, by omega⟩
      have hP9 : va_P (dC, dI) vwCl [(h0, .inr (0, mX0 h1 h2 h3 h4 v0))] s.heap := hP
      have hD9 : va_D A [(h0, .inr (0, mX0 h1 h2 h3 h4 v0))] := hD
      exact W.zret (v := 1) hx hb hr rfl (fun t ht hW => ⟨⟨1, (fun _ => 0), rfl, hpost, (fun _ => 0), (fun _ => (fun _ => 0)), (fun _ => (fun _ => 0)), by rw [ht]; exact hP9, va_K.moved hW.alike hK, hD9⟩, hS.F ht⟩) hS.2.2 dX0_came_17
set_option maxHeartbeats 8000000 in
set_option maxRecDepth 100000 in
theorem sX0_isOn_0 (l : Launch) (dC : Nat → ClassId) (dI : Nat → Nat → Nat) (adK adV : Nat → Nat) (h0 : Nat) (h1 : Nat) (h2 : Nat) (h3 : Nat) (h4 : Nat) (k1 : ClassId) (sz : Nat) (v0 : Nat → Int32) (f1 : Nat → Int32) (x1 : Int32) (hv0 : zR rg_Documents v0) : Met l yX0_isOn (zw yX0_isOn cX0_isOn 2 (some .boolean)) { frames := 1, cells := 0, slots := 0, locals := 21 } (zPc dC dI adK adV [.ref h0, .int x1] sz [(h0, .inr (0, mX0 h1 h2 h3 h4 v0)), (h1, .inl (k1, 120, .inl f1))] [(k1, .boolean)]) (va_Qi (fun (r : Int32) (u : Nat → Int32) => (0 ≤ r.toInt ∧ r.toInt ≤ 1) ∧ (r.toInt = 1 → (0 ≤ x1.toInt ∧ x1.toInt ≤ 119)) ∧ (r.toInt = 1 → x1.toInt < (v0 4).toInt)) (fun (u : Nat → Int32) (t : State) => ∃ (ww : Nat → Int64) (aa : Nat → Nat → Int32) (bb : Nat → Nat → Int64), va_P (dC, dI) vwCl [(h0, .inr (0, mX0 h1 h2 h3 h4 v0)), (h1, .inl (k1, 120, .inl f1))] t.heap ∧ va_K (dC, dI) vwCl [(k1, .boolean)] t ∧ va_D (va_A [(h0, .inr (0, mX0 h1 h2 h3 h4 v0)), (h1, .inl (k1, 120, .inl f1))] sz) [(h0, .inr (0, mX0 h1 h2 h3 h4 v0)), (h1, .inl (k1, 120, .inl f1))]) (va_A [(h0, .inr (0, mX0 h1 h2 h3 h4 v0)), (h1, .inl (k1, 120, .inl f1))] sz)) 0 0 (va_A [(h0, .inr (0, mX0 h1 h2 h3 h4 v0)), (h1, .inl (k1, 120, .inl f1))] sz) := by
  refine Met.ofW (cc := cX0_isOn) (maxL := 2) (ret := (some .boolean)) (by decide) rfl ?_
  intro p e s m args below meth c s₁ B hml hv
  obtain ⟨rfl, hsz, hP, hK, hD0, hE, hZ⟩ := hv
  have hx := B.exec
  have hb := B.bytes
  have hr := B.returns
  have hG : ∀ w ∈ zG, w.before _ s = true := fun w h => atoms_spec (ws := (zw yX0_isOn cX0_isOn 2 (some .boolean))) B.pre w (List.mem_cons_of_mem _ h)
  have hown : s.vm.findClass RX0 = some m.cls := findClass_of_methodNamed B.named
  have hlocks := B.notSynchronized

  subst hsz
  have hD := hD0.self (sz := s.heap.size)
  generalize hAe : va_A [(h0, .inr (0, mX0 h1 h2 h3 h4 v0)), (h1, .inl (k1, 120, .inl f1))] s.heap.size = A at hD hZ ⊢
  have hA : ∀ q : Nat, s.heap.size ≤ q → A q := fun q h => by rw [← hAe]; exact Or.inr h
  have hS : va_S A s.heap s.heap [] := va_S.rf
  have hl := lv_entry ([.ref h0, .int x1]) (n := 2) (Nat.le_of_ble_eq_true rfl)
  rw [lg_entry_eq]
  generalize (lg_sl ([.ref h0, .int x1]) ++ List.replicate (2 - (lg_sl ([.ref h0, .int x1])).length) Slot.unset).toArray = ls at hl ⊢
  have hl : lv_has ls 2 [(0, .ref h0), (1, .int x1)] := hl
  have b_ := zk_0
  have b_ := zk_1
  have b_ : 0 ≤ (v0 4).toInt ∧ (v0 4).toInt ≤ 120 := hv0 4
  refine lv_aload_n hx hb dX0_isOn_0 rfl (lv_at hl 0 rfl) ?_
  refine lv_iload_n hx hb dX0_isOn_1 rfl (lv_at hl 1 rfl) ?_
  have hPc := hP.sub (ws' := [(h0, .inr (0, mX0 h1 h2 h3 h4 v0))]) [0] rfl
  have hDc := hD.sub (ws' := [(h0, .inr (0, mX0 h1 h2 h3 h4 v0))]) [0] (by decide) rfl
  have hKc := hK.sub (tys' := []) [] rfl
  have hFc := va_free (wc := [(h0, .inr (0, mX0 h1 h2 h3 h4 v0))]) hD hS hA [0] rfl
  refine va_calli (va_runV (As := [.int x1]) (rest := []) ⟨hx, hb, hml, hown, hG⟩ (sX0_came_0 l dC dI adK adV h0 h1 h2 h3 h4 s.heap.size v0 x1 hv0) (cwV 1 hG (zgV zw134 zw135 zw136 zw137 zw138) rfl rfl rfl (by decide +kernel) ⟨Nat.le_of_ble_eq_true rfl, Nat.le_of_ble_eq_true rfl⟩) ⟨zPc_blind, va_recv hKc hPc (ci := 0) (q0 := 0) rfl rfl, zPc_pre hPc hKc hDc hE hS hFc hZ⟩ rfl rfl hl.1 rfl (lv_room (Nat.le_of_ble_eq_true rfl)) dX0_isOn_2 ⟨Nat.le_of_ble_eq_true rfl, Nat.le_of_ble_eq_true rfl⟩) hS (fun q _ h => hFc q h) hFc (fun r2_ u2_ t H1 locs ht hvm hw hB hz1 hk1 hS => ?_)
  have hw : (0 ≤ r2_.toInt ∧ r2_.toInt ≤ 1) ∧ (r2_.toInt = 1 → (0 ≤ x1.toInt ∧ x1.toInt ≤ 119)) ∧ (r2_.toInt = 1 → x1.toInt < (v0 4).toInt) := hw
  obtain ⟨b_, hX2_0, hX2_1⟩ := hw
  obtain ⟨w2_, a2_, b2_, hP1, hK1, hD1⟩ := hB
  rw [ht] at hP1
  obtain ⟨hP, hD⟩ := va_join (wr := [(h1, .inl (k1, 120, .inl f1))]) (w1 := [(h0, .inr (0, mX0 h1 h2 h3 h4 v0))]) hP hD [0] [1] rfl rfl (by decide) (by decide) hk1 hFc hP1 hD1
  have hP : va_P (dC, dI) vwCl [(h0, .inr (0, mX0 h1 h2 h3 h4 v0)), (h1, .inl (k1, 120, .inl f1))] H1 := hP.sub [1, 0] rfl
  have hD : va_D A [(h0, .inr (0, mX0 h1 h2 h3 h4 v0)), (h1, .inl (k1, 120, .inl f1))] := hD.sub [1, 0] (by decide) rfl
  generalize H1 = H at hP hS ⊢
  clear hz1
  refine lv_if_eq (tgt := 21) hx hb dX0_isOn_5 (by decide) (fun c_ => ?_) (fun c_ => ?_)
  · skip
    have b_ := zT_eq rfl zk_0 c_
    refine lv_iconst (v := 0) hx hb dX0_isOn_21 (by decide) ?_
    refine W.widen (k := 0) (n := 0) (by decide) (by decide) ?_
    have hpost : (0 ≤ (0 : Int32).toInt ∧ (0 : Int32).toInt ≤ 1) ∧ ((0 : Int32).toInt = 1 → (0 ≤ x1.toInt ∧ x1.toInt ≤ 119)) ∧ ((0 : Int32).toInt = 1 → x1.toInt < (v0 4).toInt) := ⟨⟨by omega, by omega⟩, by omega, by omega⟩
    have hP9 : va_P (dC, dI) vwCl [(h0, .inr (0, mX0 h1 h2 h3 h4 v0)), (h1, .inl (k1, 120, .inl f1))] H := hP
    have hD9 : va_D A [(h0, .inr (0, mX0 h1 h2 h3 h4 v0)), (h1, .inl (k1, 120, .inl f1))] := hD
    exact W.zret (v := 0) hx hb hr rfl (fun t ht hW => ⟨⟨0, (fun _ => 0), rfl, hpost, (fun _ => 0), (fun _ => (fun _ => 0)), (fun _ => (fun _ => 0)), by rw [ht]; exact hP9, va_K.moved hW.alike hK, hD9⟩, hS.F ht⟩) hS.2.2 dX0_isOn_22
  · skip
    have b_ := zF_eq rfl zk_0 c_
    refine lv_aload_n hx hb dX0_isOn_8 rfl (lv_at hl 0 rfl) ?_
    refine va_get (D := (dC, dI)) (ci := 0) (v := .ref h1) (C := RX0) (T := TX0) (N := 6) hx hb hG zuX0 hown hK hP 0 rfl rfl 0 (by decide) (hG _ zw131) (fun _ h9 => h9) rfl dX0_isOn_9 ?_
    refine lv_iload_n hx hb dX0_isOn_12 rfl (lv_at hl 1 rfl) ?_
    refine va_zald hx hb hK hP 1 0 rfl rfl (zin_lit ⟨by omega, by omega⟩) dX0_isOn_13 ?_
    refine lv_topi (fun z13 e_z13 => ?_)
    have b_ : -2147483648 ≤ z13.toInt ∧ z13.toInt ≤ 2147483647 := ⟨zlo _, zhi _⟩
    refine lv_if_eq (tgt := 21) hx hb dX0_isOn_14 (by decide) (fun c_ => ?_) (fun c_ => ?_)
    · skip
      have b_ := zT_eq rfl zk_0 c_
      refine lv_iconst (v := 0) hx hb dX0_isOn_21 (by decide) ?_
      refine W.widen (k := 0) (n := 0) (by decide) (by decide) ?_
      have hpost : (0 ≤ (0 : Int32).toInt ∧ (0 : Int32).toInt ≤ 1) ∧ ((0 : Int32).toInt = 1 → (0 ≤ x1.toInt ∧ x1.toInt ≤ 119)) ∧ ((0 : Int32).toInt = 1 → x1.toInt < (v0 4).toInt) := ⟨⟨by omega, by omega⟩, by omega, by omega⟩
      have hP9 : va_P (dC, dI) vwCl [(h0, .inr (0, mX0 h1 h2 h3 h4 v0)), (h1, .inl (k1, 120, .inl f1))] H := hP
      have hD9 : va_D A [(h0, .inr (0, mX0 h1 h2 h3 h4 v0)), (h1, .inl (k1, 120, .inl f1))] := hD
      exact W.zret (v := 0) hx hb hr rfl (fun t ht hW => ⟨⟨0, (fun _ => 0), rfl, hpost, (fun _ => 0), (fun _ => (fun _ => 0)), (fun _ => (fun _ => 0)), by rw [ht]; exact hP9, va_K.moved hW.alike hK, hD9⟩, hS.F ht⟩) hS.2.2 dX0_isOn_22
    · skip
      have b_ := zF_eq rfl zk_0 c_
      refine lv_iconst (v := 1) hx hb dX0_isOn_17 (by decide) ?_
      refine lv_goto (tgt := 22) hx hb dX0_isOn_18 (by decide) ?_
      refine W.widen (k := 0) (n := 0) (by decide) (by decide) ?_
      have hpost : (0 ≤ (1 : Int32).toInt ∧ (1 : Int32).toInt ≤ 1) ∧ ((1 : Int32).toInt = 1 → (0 ≤ x1.toInt ∧ x1.toInt ≤ 119)) ∧ ((1 : Int32).toInt = 1 → x1.toInt < (v0 4).toInt) := ⟨⟨by omega, by omega⟩, by omega, by omega⟩
      have hP9 : va_P (dC, dI) vwCl [(h0, .inr (0, mX0 h1 h2 h3 h4 v0)), (h1, .inl (k1, 120, .inl f1))] H := hP
      have hD9 : va_D A [(h0, .inr (0, mX0 h1 h2 h3 h4 v0)), (h1, .inl (k1, 120, .inl f1))] := hD
      exact W.zret (v := 1) hx hb hr rfl (fun t ht hW => ⟨⟨1, (fun _ => 0), rfl, hpost, (fun _ => 0), (fun _ => (fun _ => 0)), (fun _ => (fun _ => 0)), by rw [ht]; exact hP9, va_K.moved hW.alike hK, hD9⟩, hS.F ht⟩) hS.2.2 dX0_isOn_22
set_option maxHeartbeats 8000000 in
set_option maxRecDepth 100000 in
theorem sX0_takeOff_0 (l : Launch) (dC : Nat → ClassId) (dI : Nat → Nat → Nat) (adK adV : Nat → Nat) (h0 : Nat) (h1 : Nat) (h2 : Nat) (h3 : Nat) (h4 : Nat) (k1 : ClassId) (sz : Nat) (v0 : Nat → Int32) (f1 : Nat → Int32) (x1 : Int32) (hv0 : zR rg_Documents v0) : Met l yX0_takeOff (zw yX0_takeOff cX0_takeOff 2 (some .boolean)) { frames := 2, cells := 0, slots := 0, locals := 42 } (zPc dC dI adK adV [.ref h0, .int x1] sz [(h0, .inr (0, mX0 h1 h2 h3 h4 v0)), (h1, .inl (k1, 120, .inl f1))] [(k1, .boolean)]) (va_Qi (fun (r : Int32) (u : Nat → Int32) => (0 ≤ r.toInt ∧ r.toInt ≤ 1)) (fun (u : Nat → Int32) (t : State) => ∃ (ww : Nat → Int64) (aa : Nat → Nat → Int32) (bb : Nat → Nat → Int64), va_P (dC, dI) vwCl [(h0, .inr (0, mX0 h1 h2 h3 h4 (upd v0 5 (u 0)))), (h1, .inl (k1, 120, .inl (aa 0)))] t.heap ∧ va_K (dC, dI) vwCl [(k1, .boolean)] t ∧ va_D (va_A [(h0, .inr (0, mX0 h1 h2 h3 h4 v0)), (h1, .inl (k1, 120, .inl f1))] sz) [(h0, .inr (0, mX0 h1 h2 h3 h4 (upd v0 5 (u 0)))), (h1, .inl (k1, 120, .inl (aa 0)))]) (va_A [(h0, .inr (0, mX0 h1 h2 h3 h4 v0)), (h1, .inl (k1, 120, .inl f1))] sz)) 0 0 (va_A [(h0, .inr (0, mX0 h1 h2 h3 h4 v0)), (h1, .inl (k1, 120, .inl f1))] sz) := by
  refine Met.ofW (cc := cX0_takeOff) (maxL := 2) (ret := (some .boolean)) (by decide) rfl ?_
  intro p e s m args below meth c s₁ B hml hv
  obtain ⟨rfl, hsz, hP, hK, hD0, hE, hZ⟩ := hv
  have hx := B.exec
  have hb := B.bytes
  have hr := B.returns
  have hG : ∀ w ∈ zG, w.before _ s = true := fun w h => atoms_spec (ws := (zw yX0_takeOff cX0_takeOff 2 (some .boolean))) B.pre w (List.mem_cons_of_mem _ h)
  have hown : s.vm.findClass RX0 = some m.cls := findClass_of_methodNamed B.named
  have hlocks := B.notSynchronized

  subst hsz
  have hD := hD0.self (sz := s.heap.size)
  generalize hAe : va_A [(h0, .inr (0, mX0 h1 h2 h3 h4 v0)), (h1, .inl (k1, 120, .inl f1))] s.heap.size = A at hD hZ ⊢
  have hA : ∀ q : Nat, s.heap.size ≤ q → A q := fun q h => by rw [← hAe]; exact Or.inr h
  have hS : va_S A s.heap s.heap [] := va_S.rf
  have hl := lv_entry ([.ref h0, .int x1]) (n := 2) (Nat.le_of_ble_eq_true rfl)
  rw [lg_entry_eq]
  generalize (lg_sl ([.ref h0, .int x1]) ++ List.replicate (2 - (lg_sl ([.ref h0, .int x1])).length) Slot.unset).toArray = ls at hl ⊢
  have hl : lv_has ls 2 [(0, .ref h0), (1, .int x1)] := hl
  have b_ := zk_0
  have b_ := zk_1
  refine lv_aload_n hx hb dX0_takeOff_0 rfl (lv_at hl 0 rfl) ?_
  refine lv_iload_n hx hb dX0_takeOff_1 rfl (lv_at hl 1 rfl) ?_
  have hPc := hP.sub (ws' := [(h0, .inr (0, mX0 h1 h2 h3 h4 v0)), (h1, .inl (k1, 120, .inl f1))]) [0, 1] rfl
  have hDc := hD.sub (ws' := [(h0, .inr (0, mX0 h1 h2 h3 h4 v0)), (h1, .inl (k1, 120, .inl f1))]) [0, 1] (by decide) rfl
  have hKc := hK.sub (tys' := [(k1, .boolean)]) [0] rfl
  have hFc := va_free (wc := [(h0, .inr (0, mX0 h1 h2 h3 h4 v0)), (h1, .inl (k1, 120, .inl f1))]) hD hS hA [0, 1] rfl
  refine va_calli (va_runV (As := [.int x1]) (rest := []) ⟨hx, hb, hml, hown, hG⟩ (sX0_isOn_0 l dC dI adK adV h0 h1 h2 h3 h4 k1 s.heap.size v0 f1 x1 hv0) (cwV 1 hG (zgV zw139 zw140 zw141 zw137 zw142) rfl rfl rfl (by decide +kernel) ⟨Nat.le_of_ble_eq_true rfl, Nat.le_of_ble_eq_true rfl⟩) ⟨zPc_blind, va_recv hKc hPc (ci := 0) (q0 := 0) rfl rfl, zPc_pre hPc hKc hDc hE hS hFc hZ⟩ rfl rfl hl.1 rfl (lv_room (Nat.le_of_ble_eq_true rfl)) dX0_takeOff_2 ⟨Nat.le_of_ble_eq_true rfl, Nat.le_of_ble_eq_true rfl⟩) hS (fun q _ h => hFc q h) hFc (fun r2_ u2_ t H1 locs ht hvm hw hB hz1 hk1 hS => ?_)
  have hw : (0 ≤ r2_.toInt ∧ r2_.toInt ≤ 1) ∧ (r2_.toInt = 1 → (0 ≤ x1.toInt ∧ x1.toInt ≤ 119)) ∧ (r2_.toInt = 1 → x1.toInt < (v0 4).toInt) := hw
  obtain ⟨b_, hX2_0, hX2_1⟩ := hw
  obtain ⟨w2_, a2_, b2_, hP1, hK1, hD1⟩ := hB
  rw [ht] at hP1
  obtain ⟨hP, hD⟩ := va_join (wr := []) (w1 := [(h0, .inr (0, mX0 h1 h2 h3 h4 v0)), (h1, .inl (k1, 120, .inl f1))]) hP hD [0, 1] [] rfl rfl (by decide) (by decide) hk1 hFc hP1 hD1
  have hP : va_P (dC, dI) vwCl [(h0, .inr (0, mX0 h1 h2 h3 h4 v0)), (h1, .inl (k1, 120, .inl f1))] H1 := hP.sub [0, 1] rfl
  have hD : va_D A [(h0, .inr (0, mX0 h1 h2 h3 h4 v0)), (h1, .inl (k1, 120, .inl f1))] := hD.sub [0, 1] (by decide) rfl
  generalize H1 = H at hP hS ⊢
  clear hz1
  refine lv_if_ne (tgt := 10) hx hb dX0_takeOff_5 (by decide) (fun c_ => ?_) (fun c_ => ?_)
  · skip
    have b_ := zT_ne rfl zk_0 c_
    refine lv_aload_n hx hb dX0_takeOff_10 rfl (lv_at hl 0 rfl) ?_
    refine va_get (D := (dC, dI)) (ci := 0) (v := .ref h1) (C := RX0) (T := TX0) (N := 6) hx hb hG zuX0 hown hK hP 0 rfl rfl 0 (by decide) (hG _ zw131) (fun _ h9 => h9) rfl dX0_takeOff_11 ?_
    refine lv_iload_n hx hb dX0_takeOff_14 rfl (lv_at hl 1 rfl) ?_
    refine lv_iconst (v := 0) hx hb dX0_takeOff_15 (by decide) ?_
    refine va_zast hx hb hK hP hD hS 1 0 rfl rfl (zin_lit ⟨by omega, by omega⟩) dX0_takeOff_16 (fun H locs hP hD hS => ?_)
    obtain ⟨f_16, e_f_16⟩ : ∃ z : Nat → Int32, z = upd f1 (x1 : Int32).toNatClampNeg (vp_nar .boolean 0) := ⟨_, rfl⟩
    have hP : va_P (dC, dI) vwCl [(h0, .inr (0, mX0 h1 h2 h3 h4 v0)), (h1, .inl (k1, 120, .inl f_16))] H := by rw [e_f_16]; exact hP
    have hD : va_D A [(h0, .inr (0, mX0 h1 h2 h3 h4 v0)), (h1, .inl (k1, 120, .inl f_16))] := by rw [e_f_16]; exact hD
    refine lv_aload_n hx hb dX0_takeOff_17 rfl (lv_at hl 0 rfl) ?_
    refine lv_dup hx hb dX0_takeOff_18 rfl ?_
    refine va_get (D := (dC, dI)) (ci := 0) (v := .int (v0 5)) (C := RX0) (T := TX0) (N := 6) hx hb hG zuX0 hown hK hP 0 rfl rfl 5 (by decide) (hG _ zw130) (fun _ h9 => h9) rfl dX0_takeOff_19 ?_
    refine lv_iconst (v := 1) hx hb dX0_takeOff_22 (by decide) ?_
    have b_ : -2147483648 ≤ (v0 5).toInt ∧ (v0 5).toInt ≤ 2147483647 := ⟨zlo _, zhi _⟩
    refine lv_isub hx hb dX0_takeOff_23 ?_
    refine lv_topi (fun z23 e_z23 => ?_)
    refine va_put (D := (dC, dI)) (ci := 0) (v := .int z23) (ty := .int) (C := RX0) (T := TX0) (N := 6) hx hb hG zuX0 tyX0 tyX0_ok nmX0 hown hK hP hD hS 0 rfl rfl 5 (by decide) (hG _ zw130) (fun _ h9 => h9) rfl (by decide +kernel) rfl rfl (Nat.le_of_ble_eq_true rfl) dX0_takeOff_24 (fun H locs hP hD hS => ?_)
    have hP : va_P (dC, dI) vwCl [(h0, .inr (0, mX0 h1 h2 h3 h4 (upd v0 5 z23))), (h1, .inl (k1, 120, .inl f_16))] H := hP
    have hD : va_D A [(h0, .inr (0, mX0 h1 h2 h3 h4 (upd v0 5 z23))), (h1, .inl (k1, 120, .inl f_16))] := hD
    refine lv_iconst (v := 1) hx hb dX0_takeOff_27 (by decide) ?_
    refine W.widen (k := 0) (n := 0) (by decide) (by decide) ?_
    have b_ : -2147483648 ≤ z23.toInt ∧ z23.toInt ≤ 2147483647 := ⟨zlo _, zhi _⟩
    have hpost : (0 ≤ (1 : Int32).toInt ∧ (1 : Int32).toInt ≤ 1) := ⟨by omega, by omega⟩
    have hP9 : va_P (dC, dI) vwCl [(h0, .inr (0, mX0 h1 h2 h3 h4 (upd v0 5 z23))), (h1, .inl (k1, 120, .inl f_16))] H := hP
    have hD9 : va_D A [(h0, .inr (0, mX0 h1 h2 h3 h4 (upd v0 5 z23))), (h1, .inl (k1, 120, .inl f_16))] := hD
    exact W.zret (v := 1) hx hb hr rfl (fun t ht hW => ⟨⟨1, (fun i => ([z23] : List (Int32)).getD i 0), rfl, hpost, (fun _ => 0), (fun i => ([f_16] : List (Nat → Int32)).getD i (fun _ => 0)), (fun _ => (fun _ => 0)), by rw [ht]; exact hP9, va_K.moved hW.alike hK, hD9⟩, hS.F ht⟩) hS.2.2 dX0_takeOff_28
  · skip
    have b_ := zF_ne rfl zk_0 c_
    refine lv_iconst (v := 0) hx hb dX0_takeOff_8 (by decide) ?_
    refine W.widen (k := 0) (n := 0) (by decide) (by decide) ?_
    have b_ : -2147483648 ≤ (v0 5).toInt ∧ (v0 5).toInt ≤ 2147483647 := ⟨zlo _, zhi _⟩
    have hpost : (0 ≤ (0 : Int32).toInt ∧ (0 : Int32).toInt ≤ 1) := ⟨by omega, by omega⟩
    have hP9 : va_P (dC, dI) vwCl [(h0, .inr (0, mX0 h1 h2 h3 h4 (upd v0 5 (v0 5)))), (h1, .inl (k1, 120, .inl f1))] H := hP
    have hD9 : va_D A [(h0, .inr (0, mX0 h1 h2 h3 h4 (upd v0 5 (v0 5)))), (h1, .inl (k1, 120, .inl f1))] := hD
    exact W.zret (v := 0) hx hb hr rfl (fun t ht hW => ⟨⟨0, (fun i => ([(v0 5)] : List (Int32)).getD i 0), rfl, hpost, (fun _ => 0), (fun i => ([f1] : List (Nat → Int32)).getD i (fun _ => 0)), (fun _ => (fun _ => 0)), by rw [ht]; exact hP9, va_K.moved hW.alike hK, hD9⟩, hS.F ht⟩) hS.2.2 dX0_takeOff_9
set_option maxHeartbeats 8000000 in
set_option maxRecDepth 100000 in
theorem sX0_setMark_0 (l : Launch) (dC : Nat → ClassId) (dI : Nat → Nat → Nat) (adK adV : Nat → Nat) (h0 : Nat) (h1 : Nat) (h3 : Nat) (h2 : Nat) (h4 : Nat) (k1 : ClassId) (k3 : ClassId) (sz : Nat) (v0 : Nat → Int32) (f1 : Nat → Int32) (f3 : Nat → Int32) (x1 : Int32) (x2 : Int32) (hv0 : zR rg_Documents v0) : Met l yX0_setMark (zw yX0_setMark cX0_setMark 3 (some .boolean)) { frames := 2, cells := 0, slots := 0, locals := 42 } (zPc dC dI adK adV [.ref h0, .int x1, .int x2] sz [(h0, .inr (0, mX0 h1 h2 h3 h4 v0)), (h1, .inl (k1, 120, .inl f1)), (h3, .inl (k3, 120, .inl f3))] [(k1, .boolean), (k3, .int)]) (va_Qi (fun (r : Int32) (u : Nat → Int32) => (0 ≤ r.toInt ∧ r.toInt ≤ 1)) (fun (u : Nat → Int32) (t : State) => ∃ (ww : Nat → Int64) (aa : Nat → Nat → Int32) (bb : Nat → Nat → Int64), va_P (dC, dI) vwCl [(h0, .inr (0, mX0 h1 h2 h3 h4 v0)), (h1, .inl (k1, 120, .inl f1)), (h3, .inl (k3, 120, .inl (aa 0)))] t.heap ∧ va_K (dC, dI) vwCl [(k1, .boolean), (k3, .int)] t ∧ va_D (va_A [(h0, .inr (0, mX0 h1 h2 h3 h4 v0)), (h1, .inl (k1, 120, .inl f1)), (h3, .inl (k3, 120, .inl f3))] sz) [(h0, .inr (0, mX0 h1 h2 h3 h4 v0)), (h1, .inl (k1, 120, .inl f1)), (h3, .inl (k3, 120, .inl (aa 0)))]) (va_A [(h0, .inr (0, mX0 h1 h2 h3 h4 v0)), (h1, .inl (k1, 120, .inl f1)), (h3, .inl (k3, 120, .inl f3))] sz)) 0 0 (va_A [(h0, .inr (0, mX0 h1 h2 h3 h4 v0)), (h1, .inl (k1, 120, .inl f1)), (h3, .inl (k3, 120, .inl f3))] sz) := by
  refine Met.ofW (cc := cX0_setMark) (maxL := 3) (ret := (some .boolean)) (by decide) rfl ?_
  intro p e s m args below meth c s₁ B hml hv
  obtain ⟨rfl, hsz, hP, hK, hD0, hE, hZ⟩ := hv
  have hx := B.exec
  have hb := B.bytes
  have hr := B.returns
  have hG : ∀ w ∈ zG, w.before _ s = true := fun w h => atoms_spec (ws := (zw yX0_setMark cX0_setMark 3 (some .boolean))) B.pre w (List.mem_cons_of_mem _ h)
  have hown : s.vm.findClass RX0 = some m.cls := findClass_of_methodNamed B.named
  have hlocks := B.notSynchronized

  subst hsz
  have hD := hD0.self (sz := s.heap.size)
  generalize hAe : va_A [(h0, .inr (0, mX0 h1 h2 h3 h4 v0)), (h1, .inl (k1, 120, .inl f1)), (h3, .inl (k3, 120, .inl f3))] s.heap.size = A at hD hZ ⊢
  have hA : ∀ q : Nat, s.heap.size ≤ q → A q := fun q h => by rw [← hAe]; exact Or.inr h
  have hS : va_S A s.heap s.heap [] := va_S.rf
  have hl := lv_entry ([.ref h0, .int x1, .int x2]) (n := 3) (Nat.le_of_ble_eq_true rfl)
  rw [lg_entry_eq]
  generalize (lg_sl ([.ref h0, .int x1, .int x2]) ++ List.replicate (3 - (lg_sl ([.ref h0, .int x1, .int x2])).length) Slot.unset).toArray = ls at hl ⊢
  have hl : lv_has ls 3 [(0, .ref h0), (1, .int x1), (2, .int x2)] := hl
  have b_ := zk_0
  have b_ := zk_1
  refine lv_aload_n hx hb dX0_setMark_0 rfl (lv_at hl 0 rfl) ?_
  refine lv_iload_n hx hb dX0_setMark_1 rfl (lv_at hl 1 rfl) ?_
  have hPc := hP.sub (ws' := [(h0, .inr (0, mX0 h1 h2 h3 h4 v0)), (h1, .inl (k1, 120, .inl f1))]) [0, 1] rfl
  have hDc := hD.sub (ws' := [(h0, .inr (0, mX0 h1 h2 h3 h4 v0)), (h1, .inl (k1, 120, .inl f1))]) [0, 1] (by decide) rfl
  have hKc := hK.sub (tys' := [(k1, .boolean)]) [0] rfl
  have hFc := va_free (wc := [(h0, .inr (0, mX0 h1 h2 h3 h4 v0)), (h1, .inl (k1, 120, .inl f1))]) hD hS hA [0, 1] rfl
  refine va_calli (va_runV (As := [.int x1]) (rest := []) ⟨hx, hb, hml, hown, hG⟩ (sX0_isOn_0 l dC dI adK adV h0 h1 h2 h3 h4 k1 s.heap.size v0 f1 x1 hv0) (cwV 1 hG (zgV zw139 zw140 zw141 zw137 zw142) rfl rfl rfl (by decide +kernel) ⟨Nat.le_of_ble_eq_true rfl, Nat.le_of_ble_eq_true rfl⟩) ⟨zPc_blind, va_recv hKc hPc (ci := 0) (q0 := 0) rfl rfl, zPc_pre hPc hKc hDc hE hS hFc hZ⟩ rfl rfl hl.1 rfl (lv_room (Nat.le_of_ble_eq_true rfl)) dX0_setMark_2 ⟨Nat.le_of_ble_eq_true rfl, Nat.le_of_ble_eq_true rfl⟩) hS (fun q _ h => hFc q h) hFc (fun r2_ u2_ t H1 locs ht hvm hw hB hz1 hk1 hS => ?_)
  have hw : (0 ≤ r2_.toInt ∧ r2_.toInt ≤ 1) ∧ (r2_.toInt = 1 → (0 ≤ x1.toInt ∧ x1.toInt ≤ 119)) ∧ (r2_.toInt = 1 → x1.toInt < (v0 4).toInt) := hw
  obtain ⟨b_, hX2_0, hX2_1⟩ := hw
  obtain ⟨w2_, a2_, b2_, hP1, hK1, hD1⟩ := hB
  rw [ht] at hP1
  obtain ⟨hP, hD⟩ := va_join (wr := [(h3, .inl (k3, 120, .inl f3))]) (w1 := [(h0, .inr (0, mX0 h1 h2 h3 h4 v0)), (h1, .inl (k1, 120, .inl f1))]) hP hD [0, 1] [2] rfl rfl (by decide) (by decide) hk1 hFc hP1 hD1
  have hP : va_P (dC, dI) vwCl [(h0, .inr (0, mX0 h1 h2 h3 h4 v0)), (h1, .inl (k1, 120, .inl f1)), (h3, .inl (k3, 120, .inl f3))] H1 := hP.sub [1, 2, 0] rfl
  have hD : va_D A [(h0, .inr (0, mX0 h1 h2 h3 h4 v0)), (h1, .inl (k1, 120, .inl f1)), (h3, .inl (k3, 120, .inl f3))] := hD.sub [1, 2, 0] (by decide) rfl
  generalize H1 = H at hP hS ⊢
  clear hz1
  refine lv_if_ne (tgt := 10) hx hb dX0_setMark_5 (by decide) (fun c_ => ?_) (fun c_ => ?_)
  · skip
    have b_ := zT_ne rfl zk_0 c_
    refine lv_aload_n hx hb dX0_setMark_10 rfl (lv_at hl 0 rfl) ?_
    refine va_get (D := (dC, dI)) (ci := 0) (v := .ref h3) (C := RX0) (T := TX0) (N := 6) hx hb hG zuX0 hown hK hP 0 rfl rfl 2 (by decide) (hG _ zw143) (fun _ h9 => h9) rfl dX0_setMark_11 ?_
    refine lv_iload_n hx hb dX0_setMark_14 rfl (lv_at hl 1 rfl) ?_
    refine lv_iload_n hx hb dX0_setMark_15 rfl (lv_at hl 2 rfl) ?_
    refine va_iast hx hb hK hP hD hS 2 1 rfl rfl (zin_lit ⟨by omega, by omega⟩) dX0_setMark_16 (fun H locs hP hD hS => ?_)
    obtain ⟨f_16, e_f_16⟩ : ∃ z : Nat → Int32, z = upd f3 (x1 : Int32).toNatClampNeg x2 := ⟨_, rfl⟩
    have hP : va_P (dC, dI) vwCl [(h0, .inr (0, mX0 h1 h2 h3 h4 v0)), (h1, .inl (k1, 120, .inl f1)), (h3, .inl (k3, 120, .inl f_16))] H := by rw [e_f_16]; exact hP
    have hD : va_D A [(h0, .inr (0, mX0 h1 h2 h3 h4 v0)), (h1, .inl (k1, 120, .inl f1)), (h3, .inl (k3, 120, .inl f_16))] := by rw [e_f_16]; exact hD
    refine lv_iconst (v := 1) hx hb dX0_setMark_17 (by decide) ?_
    refine W.widen (k := 0) (n := 0) (by decide) (by decide) ?_
    have hpost : (0 ≤ (1 : Int32).toInt ∧ (1 : Int32).toInt ≤ 1) := ⟨by omega, by omega⟩
    have hP9 : va_P (dC, dI) vwCl [(h0, .inr (0, mX0 h1 h2 h3 h4 v0)), (h1, .inl (k1, 120, .inl f1)), (h3, .inl (k3, 120, .inl f_16))] H := hP
    have hD9 : va_D A [(h0, .inr (0, mX0 h1 h2 h3 h4 v0)), (h1, .inl (k1, 120, .inl f1)), (h3, .inl (k3, 120, .inl f_16))] := hD
    exact W.zret (v := 1) hx hb hr rfl (fun t ht hW => ⟨⟨1, (fun _ => 0), rfl, hpost, (fun _ => 0), (fun i => ([f_16] : List (Nat → Int32)).getD i (fun _ => 0)), (fun _ => (fun _ => 0)), by rw [ht]; exact hP9, va_K.moved hW.alike hK, hD9⟩, hS.F ht⟩) hS.2.2 dX0_setMark_18
  · skip
    have b_ := zF_ne rfl zk_0 c_
    refine lv_iconst (v := 0) hx hb dX0_setMark_8 (by decide) ?_
    refine W.widen (k := 0) (n := 0) (by decide) (by decide) ?_
    have hpost : (0 ≤ (0 : Int32).toInt ∧ (0 : Int32).toInt ≤ 1) := ⟨by omega, by omega⟩
    have hP9 : va_P (dC, dI) vwCl [(h0, .inr (0, mX0 h1 h2 h3 h4 v0)), (h1, .inl (k1, 120, .inl f1)), (h3, .inl (k3, 120, .inl f3))] H := hP
    have hD9 : va_D A [(h0, .inr (0, mX0 h1 h2 h3 h4 v0)), (h1, .inl (k1, 120, .inl f1)), (h3, .inl (k3, 120, .inl f3))] := hD
    exact W.zret (v := 0) hx hb hr rfl (fun t ht hW => ⟨⟨0, (fun _ => 0), rfl, hpost, (fun _ => 0), (fun i => ([f3] : List (Nat → Int32)).getD i (fun _ => 0)), (fun _ => (fun _ => 0)), by rw [ht]; exact hP9, va_K.moved hW.alike hK, hD9⟩, hS.F ht⟩) hS.2.2 dX0_setMark_9
set_option maxHeartbeats 8000000 in
set_option maxRecDepth 100000 in
theorem sX0_lengthOf_0 (l : Launch) (dC : Nat → ClassId) (dI : Nat → Nat → Nat) (adK adV : Nat → Nat) (h0 : Nat) (h2 : Nat) (h1 : Nat) (h3 : Nat) (h4 : Nat) (k2 : ClassId) (sz : Nat) (v0 : Nat → Int32) (f2 : Nat → Int32) (x1 : Int32) (hv0 : zR rg_Documents v0) (hf2 : zA 0 300 f2) : Met l yX0_lengthOf (zw yX0_lengthOf cX0_lengthOf 2 (some .int)) { frames := 1, cells := 0, slots := 0, locals := 21 } (zPc dC dI adK adV [.ref h0, .int x1] sz [(h0, .inr (0, mX0 h1 h2 h3 h4 v0)), (h2, .inl (k2, 120, .inl f2))] [(k2, .int)]) (va_Qi (fun (r : Int32) (u : Nat → Int32) => (0 ≤ r.toInt ∧ r.toInt ≤ 300)) (fun (u : Nat → Int32) (t : State) => ∃ (ww : Nat → Int64) (aa : Nat → Nat → Int32) (bb : Nat → Nat → Int64), va_P (dC, dI) vwCl [(h0, .inr (0, mX0 h1 h2 h3 h4 v0)), (h2, .inl (k2, 120, .inl f2))] t.heap ∧ va_K (dC, dI) vwCl [(k2, .int)] t ∧ va_D (va_A [(h0, .inr (0, mX0 h1 h2 h3 h4 v0)), (h2, .inl (k2, 120, .inl f2))] sz) [(h0, .inr (0, mX0 h1 h2 h3 h4 v0)), (h2, .inl (k2, 120, .inl f2))]) (va_A [(h0, .inr (0, mX0 h1 h2 h3 h4 v0)), (h2, .inl (k2, 120, .inl f2))] sz)) 0 0 (va_A [(h0, .inr (0, mX0 h1 h2 h3 h4 v0)), (h2, .inl (k2, 120, .inl f2))] sz) := by
  refine Met.ofW (cc := cX0_lengthOf) (maxL := 2) (ret := (some .int)) (by decide) rfl ?_
  intro p e s m args below meth c s₁ B hml hv
  obtain ⟨rfl, hsz, hP, hK, hD0, hE, hZ⟩ := hv
  have hx := B.exec
  have hb := B.bytes
  have hr := B.returns
  have hG : ∀ w ∈ zG, w.before _ s = true := fun w h => atoms_spec (ws := (zw yX0_lengthOf cX0_lengthOf 2 (some .int))) B.pre w (List.mem_cons_of_mem _ h)
  have hown : s.vm.findClass RX0 = some m.cls := findClass_of_methodNamed B.named
  have hlocks := B.notSynchronized

  subst hsz
  have hD := hD0.self (sz := s.heap.size)
  generalize hAe : va_A [(h0, .inr (0, mX0 h1 h2 h3 h4 v0)), (h2, .inl (k2, 120, .inl f2))] s.heap.size = A at hD hZ ⊢
  have hA : ∀ q : Nat, s.heap.size ≤ q → A q := fun q h => by rw [← hAe]; exact Or.inr h
  have hS : va_S A s.heap s.heap [] := va_S.rf
  have hl := lv_entry ([.ref h0, .int x1]) (n := 2) (Nat.le_of_ble_eq_true rfl)
  rw [lg_entry_eq]
  generalize (lg_sl ([.ref h0, .int x1]) ++ List.replicate (2 - (lg_sl ([.ref h0, .int x1])).length) Slot.unset).toArray = ls at hl ⊢
  have hl : lv_has ls 2 [(0, .ref h0), (1, .int x1)] := hl
  have b_ := zk_0
  refine lv_aload_n hx hb dX0_lengthOf_0 rfl (lv_at hl 0 rfl) ?_
  refine lv_iload_n hx hb dX0_lengthOf_1 rfl (lv_at hl 1 rfl) ?_
  have hPc := hP.sub (ws' := [(h0, .inr (0, mX0 h1 h2 h3 h4 v0))]) [0] rfl
  have hDc := hD.sub (ws' := [(h0, .inr (0, mX0 h1 h2 h3 h4 v0))]) [0] (by decide) rfl
  have hKc := hK.sub (tys' := []) [] rfl
  have hFc := va_free (wc := [(h0, .inr (0, mX0 h1 h2 h3 h4 v0))]) hD hS hA [0] rfl
  refine va_calli (va_runV (As := [.int x1]) (rest := []) ⟨hx, hb, hml, hown, hG⟩ (sX0_came_0 l dC dI adK adV h0 h1 h2 h3 h4 s.heap.size v0 x1 hv0) (cwV 1 hG (zgV zw134 zw135 zw136 zw137 zw138) rfl rfl rfl (by decide +kernel) ⟨Nat.le_of_ble_eq_true rfl, Nat.le_of_ble_eq_true rfl⟩) ⟨zPc_blind, va_recv hKc hPc (ci := 0) (q0 := 0) rfl rfl, zPc_pre hPc hKc hDc hE hS hFc hZ⟩ rfl rfl hl.1 rfl (lv_room (Nat.le_of_ble_eq_true rfl)) dX0_lengthOf_2 ⟨Nat.le_of_ble_eq_true rfl, Nat.le_of_ble_eq_true rfl⟩) hS (fun q _ h => hFc q h) hFc (fun r2_ u2_ t H1 locs ht hvm hw hB hz1 hk1 hS => ?_)
  have hw : (0 ≤ r2_.toInt ∧ r2_.toInt ≤ 1) ∧ (r2_.toInt = 1 → (0 ≤ x1.toInt ∧ x1.toInt ≤ 119)) ∧ (r2_.toInt = 1 → x1.toInt < (v0 4).toInt) := hw
  obtain ⟨b_, hX2_0, hX2_1⟩ := hw
  obtain ⟨w2_, a2_, b2_, hP1, hK1, hD1⟩ := hB
  rw [ht] at hP1
  obtain ⟨hP, hD⟩ := va_join (wr := [(h2, .inl (k2, 120, .inl f2))]) (w1 := [(h0, .inr (0, mX0 h1 h2 h3 h4 v0))]) hP hD [0] [1] rfl rfl (by decide) (by decide) hk1 hFc hP1 hD1
  have hP : va_P (dC, dI) vwCl [(h0, .inr (0, mX0 h1 h2 h3 h4 v0)), (h2, .inl (k2, 120, .inl f2))] H1 := hP.sub [1, 0] rfl
  have hD : va_D A [(h0, .inr (0, mX0 h1 h2 h3 h4 v0)), (h2, .inl (k2, 120, .inl f2))] := hD.sub [1, 0] (by decide) rfl
  generalize H1 = H at hP hS ⊢
  clear hz1
  refine lv_if_eq (tgt := 17) hx hb dX0_lengthOf_5 (by decide) (fun c_ => ?_) (fun c_ => ?_)
  · skip
    have b_ := zT_eq rfl zk_0 c_
    refine lv_iconst (v := 0) hx hb dX0_lengthOf_17 (by decide) ?_
    refine W.widen (k := 0) (n := 0) (by decide) (by decide) ?_
    have hpost : (0 ≤ (0 : Int32).toInt ∧ (0 : Int32).toInt ≤ 300) := ⟨by omega, by omega⟩
    have hP9 : va_P (dC, dI) vwCl [(h0, .inr (0, mX0 h1 h2 h3 h4 v0)), (h2, .inl (k2, 120, .inl f2))] H := hP
    have hD9 : va_D A [(h0, .inr (0, mX0 h1 h2 h3 h4 v0)), (h2, .inl (k2, 120, .inl f2))] := hD
    exact W.iret (v := 0) hx hb hr (fun t ht hW => ⟨⟨0, (fun _ => 0), rfl, hpost, (fun _ => 0), (fun _ => (fun _ => 0)), (fun _ => (fun _ => 0)), by rw [ht]; exact hP9, va_K.moved hW.alike hK, hD9⟩, hS.F ht⟩) hS.2.2 dX0_lengthOf_18
  · skip
    have b_ := zF_eq rfl zk_0 c_
    refine lv_aload_n hx hb dX0_lengthOf_8 rfl (lv_at hl 0 rfl) ?_
    refine va_get (D := (dC, dI)) (ci := 0) (v := .ref h2) (C := RX0) (T := TX0) (N := 6) hx hb hG zuX0 hown hK hP 0 rfl rfl 1 (by decide) (hG _ zw132) (fun _ h9 => h9) rfl dX0_lengthOf_9 ?_
    refine lv_iload_n hx hb dX0_lengthOf_12 rfl (lv_at hl 1 rfl) ?_
    refine va_iald hx hb hK hP 1 0 rfl rfl (zin_lit ⟨by omega, by omega⟩) dX0_lengthOf_13 ?_
    refine lv_topi (fun z13 e_z13 => ?_)
    have b_ : 0 ≤ z13.toInt ∧ z13.toInt ≤ 300 := by rw [e_z13]; exact hf2 _
    refine lv_goto (tgt := 18) hx hb dX0_lengthOf_14 (by decide) ?_
    refine W.widen (k := 0) (n := 0) (by decide) (by decide) ?_
    have hpost : (0 ≤ z13.toInt ∧ z13.toInt ≤ 300) := ⟨by omega, by omega⟩
    have hP9 : va_P (dC, dI) vwCl [(h0, .inr (0, mX0 h1 h2 h3 h4 v0)), (h2, .inl (k2, 120, .inl f2))] H := hP
    have hD9 : va_D A [(h0, .inr (0, mX0 h1 h2 h3 h4 v0)), (h2, .inl (k2, 120, .inl f2))] := hD
    exact W.iret (v := z13) hx hb hr (fun t ht hW => ⟨⟨z13, (fun _ => 0), rfl, hpost, (fun _ => 0), (fun _ => (fun _ => 0)), (fun _ => (fun _ => 0)), by rw [ht]; exact hP9, va_K.moved hW.alike hK, hD9⟩, hS.F ht⟩) hS.2.2 dX0_lengthOf_18
set_option maxHeartbeats 8000000 in
set_option maxRecDepth 100000 in
theorem sX0_markOf_0 (l : Launch) (dC : Nat → ClassId) (dI : Nat → Nat → Nat) (adK adV : Nat → Nat) (h0 : Nat) (h3 : Nat) (h1 : Nat) (h2 : Nat) (h4 : Nat) (k3 : ClassId) (sz : Nat) (v0 : Nat → Int32) (f3 : Nat → Int32) (x1 : Int32) (hv0 : zR rg_Documents v0) : Met l yX0_markOf (zw yX0_markOf cX0_markOf 2 (some .int)) { frames := 1, cells := 0, slots := 0, locals := 21 } (zPc dC dI adK adV [.ref h0, .int x1] sz [(h0, .inr (0, mX0 h1 h2 h3 h4 v0)), (h3, .inl (k3, 120, .inl f3))] [(k3, .int)]) (va_Qi (fun (r : Int32) (u : Nat → Int32) => True) (fun (u : Nat → Int32) (t : State) => ∃ (ww : Nat → Int64) (aa : Nat → Nat → Int32) (bb : Nat → Nat → Int64), va_P (dC, dI) vwCl [(h0, .inr (0, mX0 h1 h2 h3 h4 v0)), (h3, .inl (k3, 120, .inl f3))] t.heap ∧ va_K (dC, dI) vwCl [(k3, .int)] t ∧ va_D (va_A [(h0, .inr (0, mX0 h1 h2 h3 h4 v0)), (h3, .inl (k3, 120, .inl f3))] sz) [(h0, .inr (0, mX0 h1 h2 h3 h4 v0)), (h3, .inl (k3, 120, .inl f3))]) (va_A [(h0, .inr (0, mX0 h1 h2 h3 h4 v0)), (h3, .inl (k3, 120, .inl f3))] sz)) 0 0 (va_A [(h0, .inr (0, mX0 h1 h2 h3 h4 v0)), (h3, .inl (k3, 120, .inl f3))] sz) := by
  refine Met.ofW (cc := cX0_markOf) (maxL := 2) (ret := (some .int)) (by decide) rfl ?_
  intro p e s m args below meth c s₁ B hml hv
  obtain ⟨rfl, hsz, hP, hK, hD0, hE, hZ⟩ := hv
  have hx := B.exec
  have hb := B.bytes
  have hr := B.returns
  have hG : ∀ w ∈ zG, w.before _ s = true := fun w h => atoms_spec (ws := (zw yX0_markOf cX0_markOf 2 (some .int))) B.pre w (List.mem_cons_of_mem _ h)
  have hown : s.vm.findClass RX0 = some m.cls := findClass_of_methodNamed B.named
  have hlocks := B.notSynchronized

  subst hsz
  have hD := hD0.self (sz := s.heap.size)
  generalize hAe : va_A [(h0, .inr (0, mX0 h1 h2 h3 h4 v0)), (h3, .inl (k3, 120, .inl f3))] s.heap.size = A at hD hZ ⊢
  have hA : ∀ q : Nat, s.heap.size ≤ q → A q := fun q h => by rw [← hAe]; exact Or.inr h
  have hS : va_S A s.heap s.heap [] := va_S.rf
  have hl := lv_entry ([.ref h0, .int x1]) (n := 2) (Nat.le_of_ble_eq_true rfl)
  rw [lg_entry_eq]
  generalize (lg_sl ([.ref h0, .int x1]) ++ List.replicate (2 - (lg_sl ([.ref h0, .int x1])).length) Slot.unset).toArray = ls at hl ⊢
  have hl : lv_has ls 2 [(0, .ref h0), (1, .int x1)] := hl
  refine lv_aload_n hx hb dX0_markOf_0 rfl (lv_at hl 0 rfl) ?_
  refine lv_iload_n hx hb dX0_markOf_1 rfl (lv_at hl 1 rfl) ?_
  have hPc := hP.sub (ws' := [(h0, .inr (0, mX0 h1 h2 h3 h4 v0))]) [0] rfl
  have hDc := hD.sub (ws' := [(h0, .inr (0, mX0 h1 h2 h3 h4 v0))]) [0] (by decide) rfl
  have hKc := hK.sub (tys' := []) [] rfl
  have hFc := va_free (wc := [(h0, .inr (0, mX0 h1 h2 h3 h4 v0))]) hD hS hA [0] rfl
  refine va_calli (va_runV (As := [.int x1]) (rest := []) ⟨hx, hb, hml, hown, hG⟩ (sX0_came_0 l dC dI adK adV h0 h1 h2 h3 h4 s.heap.size v0 x1 hv0) (cwV 1 hG (zgV zw134 zw135 zw136 zw137 zw138) rfl rfl rfl (by decide +kernel) ⟨Nat.le_of_ble_eq_true rfl, Nat.le_of_ble_eq_true rfl⟩) ⟨zPc_blind, va_recv hKc hPc (ci := 0) (q0 := 0) rfl rfl, zPc_pre hPc hKc hDc hE hS hFc hZ⟩ rfl rfl hl.1 rfl (lv_room (Nat.le_of_ble_eq_true rfl)) dX0_markOf_2 ⟨Nat.le_of_ble_eq_true rfl, Nat.le_of_ble_eq_true rfl⟩) hS (fun q _ h => hFc q h) hFc (fun r2_ u2_ t H1 locs ht hvm hw hB hz1 hk1 hS => ?_)
  have hw : (0 ≤ r2_.toInt ∧ r2_.toInt ≤ 1) ∧ (r2_.toInt = 1 → (0 ≤ x1.toInt ∧ x1.toInt ≤ 119)) ∧ (r2_.toInt = 1 → x1.toInt < (v0 4).toInt) := hw
  obtain ⟨b_, hX2_0, hX2_1⟩ := hw
  obtain ⟨w2_, a2_, b2_, hP1, hK1, hD1⟩ := hB
  rw [ht] at hP1
  obtain ⟨hP, hD⟩ := va_join (wr := [(h3, .inl (k3, 120, .inl f3))]) (w1 := [(h0, .inr (0, mX0 h1 h2 h3 h4 v0))]) hP hD [0] [1] rfl rfl (by decide) (by decide) hk1 hFc hP1 hD1
  have hP : va_P (dC, dI) vwCl [(h0, .inr (0, mX0 h1 h2 h3 h4 v0)), (h3, .inl (k3, 120, .inl f3))] H1 := hP.sub [1, 0] rfl
  have hD : va_D A [(h0, .inr (0, mX0 h1 h2 h3 h4 v0)), (h3, .inl (k3, 120, .inl f3))] := hD.sub [1, 0] (by decide) rfl
  generalize H1 = H at hP hS ⊢
  clear hz1
  refine lv_if_eq (tgt := 17) hx hb dX0_markOf_5 (by decide) (fun c_ => ?_) (fun c_ => ?_)
  · skip
    have b_ := zT_eq rfl zk_0 c_
    refine lv_iconst (v := 0) hx hb dX0_markOf_17 (by decide) ?_
    refine W.widen (k := 0) (n := 0) (by decide) (by decide) ?_
    have hpost : True := trivial
    have hP9 : va_P (dC, dI) vwCl [(h0, .inr (0, mX0 h1 h2 h3 h4 v0)), (h3, .inl (k3, 120, .inl f3))] H := hP
    have hD9 : va_D A [(h0, .inr (0, mX0 h1 h2 h3 h4 v0)), (h3, .inl (k3, 120, .inl f3))] := hD
    exact W.iret (v := 0) hx hb hr (fun t ht hW => ⟨⟨0, (fun _ => 0), rfl, hpost, (fun _ => 0), (fun _ => (fun _ => 0)), (fun _ => (fun _ => 0)), by rw [ht]; exact hP9, va_K.moved hW.alike hK, hD9⟩, hS.F ht⟩) hS.2.2 dX0_markOf_18
  · skip
    have b_ := zF_eq rfl zk_0 c_
    refine lv_aload_n hx hb dX0_markOf_8 rfl (lv_at hl 0 rfl) ?_
    refine va_get (D := (dC, dI)) (ci := 0) (v := .ref h3) (C := RX0) (T := TX0) (N := 6) hx hb hG zuX0 hown hK hP 0 rfl rfl 2 (by decide) (hG _ zw143) (fun _ h9 => h9) rfl dX0_markOf_9 ?_
    refine lv_iload_n hx hb dX0_markOf_12 rfl (lv_at hl 1 rfl) ?_
    refine va_iald hx hb hK hP 1 0 rfl rfl (zin_lit ⟨by omega, by omega⟩) dX0_markOf_13 ?_
    refine lv_topi (fun z13 e_z13 => ?_)
    refine lv_goto (tgt := 18) hx hb dX0_markOf_14 (by decide) ?_
    refine W.widen (k := 0) (n := 0) (by decide) (by decide) ?_
    have b_ : -2147483648 ≤ z13.toInt ∧ z13.toInt ≤ 2147483647 := ⟨zlo _, zhi _⟩
    have hpost : True := trivial
    have hP9 : va_P (dC, dI) vwCl [(h0, .inr (0, mX0 h1 h2 h3 h4 v0)), (h3, .inl (k3, 120, .inl f3))] H := hP
    have hD9 : va_D A [(h0, .inr (0, mX0 h1 h2 h3 h4 v0)), (h3, .inl (k3, 120, .inl f3))] := hD
    exact W.iret (v := z13) hx hb hr (fun t ht hW => ⟨⟨z13, (fun _ => 0), rfl, hpost, (fun _ => 0), (fun _ => (fun _ => 0)), (fun _ => (fun _ => 0)), by rw [ht]; exact hP9, va_K.moved hW.alike hK, hD9⟩, hS.F ht⟩) hS.2.2 dX0_markOf_18
set_option maxHeartbeats 8000000 in
set_option maxRecDepth 100000 in
theorem sX0_wordsOf_0 (l : Launch) (dC : Nat → ClassId) (dI : Nat → Nat → Nat) (adK adV : Nat → Nat) (h0 : Nat) (h4 : Nat) (h1 : Nat) (h2 : Nat) (h3 : Nat) (k4 : ClassId) (sz : Nat) (v0 : Nat → Int32) (f4 : Nat → Int32) (x1 : Int32) (hv0 : zR rg_Documents v0) : Met l yX0_wordsOf (zw yX0_wordsOf cX0_wordsOf 2 (some .int)) { frames := 1, cells := 0, slots := 0, locals := 21 } (zPc dC dI adK adV [.ref h0, .int x1] sz [(h0, .inr (0, mX0 h1 h2 h3 h4 v0)), (h4, .inl (k4, 120, .inl f4))] [(k4, .int)]) (va_Qi (fun (r : Int32) (u : Nat → Int32) => True) (fun (u : Nat → Int32) (t : State) => ∃ (ww : Nat → Int64) (aa : Nat → Nat → Int32) (bb : Nat → Nat → Int64), va_P (dC, dI) vwCl [(h0, .inr (0, mX0 h1 h2 h3 h4 v0)), (h4, .inl (k4, 120, .inl f4))] t.heap ∧ va_K (dC, dI) vwCl [(k4, .int)] t ∧ va_D (va_A [(h0, .inr (0, mX0 h1 h2 h3 h4 v0)), (h4, .inl (k4, 120, .inl f4))] sz) [(h0, .inr (0, mX0 h1 h2 h3 h4 v0)), (h4, .inl (k4, 120, .inl f4))]) (va_A [(h0, .inr (0, mX0 h1 h2 h3 h4 v0)), (h4, .inl (k4, 120, .inl f4))] sz)) 0 0 (va_A [(h0, .inr (0, mX0 h1 h2 h3 h4 v0)), (h4, .inl (k4, 120, .inl f4))] sz) := by
  refine Met.ofW (cc := cX0_wordsOf) (maxL := 2) (ret := (some .int)) (by decide) rfl ?_
  intro p e s m args below meth c s₁ B hml hv
  obtain ⟨rfl, hsz, hP, hK, hD0, hE, hZ⟩ := hv
  have hx := B.exec
  have hb := B.bytes
  have hr := B.returns
  have hG : ∀ w ∈ zG, w.before _ s = true := fun w h => atoms_spec (ws := (zw yX0_wordsOf cX0_wordsOf 2 (some .int))) B.pre w (List.mem_cons_of_mem _ h)
  have hown : s.vm.findClass RX0 = some m.cls := findClass_of_methodNamed B.named
  have hlocks := B.notSynchronized

  subst hsz
  have hD := hD0.self (sz := s.heap.size)
  generalize hAe : va_A [(h0, .inr (0, mX0 h1 h2 h3 h4 v0)), (h4, .inl (k4, 120, .inl f4))] s.heap.size = A at hD hZ ⊢
  have hA : ∀ q : Nat, s.heap.size ≤ q → A q := fun q h => by rw [← hAe]; exact Or.inr h
  have hS : va_S A s.heap s.heap [] := va_S.rf
  have hl := lv_entry ([.ref h0, .int x1]) (n := 2) (Nat.le_of_ble_eq_true rfl)
  rw [lg_entry_eq]
  generalize (lg_sl ([.ref h0, .int x1]) ++ List.replicate (2 - (lg_sl ([.ref h0, .int x1])).length) Slot.unset).toArray = ls at hl ⊢
  have hl : lv_has ls 2 [(0, .ref h0), (1, .int x1)] := hl
  refine lv_aload_n hx hb dX0_wordsOf_0 rfl (lv_at hl 0 rfl) ?_
  refine lv_iload_n hx hb dX0_wordsOf_1 rfl (lv_at hl 1 rfl) ?_
  have hPc := hP.sub (ws' := [(h0, .inr (0, mX0 h1 h2 h3 h4 v0))]) [0] rfl
  have hDc := hD.sub (ws' := [(h0, .inr (0, mX0 h1 h2 h3 h4 v0))]) [0] (by decide) rfl
  have hKc := hK.sub (tys' := []) [] rfl
  have hFc := va_free (wc := [(h0, .inr (0, mX0 h1 h2 h3 h4 v0))]) hD hS hA [0] rfl
  refine va_calli (va_runV (As := [.int x1]) (rest := []) ⟨hx, hb, hml, hown, hG⟩ (sX0_came_0 l dC dI adK adV h0 h1 h2 h3 h4 s.heap.size v0 x1 hv0) (cwV 1 hG (zgV zw134 zw135 zw136 zw137 zw138) rfl rfl rfl (by decide +kernel) ⟨Nat.le_of_ble_eq_true rfl, Nat.le_of_ble_eq_true rfl⟩) ⟨zPc_blind, va_recv hKc hPc (ci := 0) (q0 := 0) rfl rfl, zPc_pre hPc hKc hDc hE hS hFc hZ⟩ rfl rfl hl.1 rfl (lv_room (Nat.le_of_ble_eq_true rfl)) dX0_wordsOf_2 ⟨Nat.le_of_ble_eq_true rfl, Nat.le_of_ble_eq_true rfl⟩) hS (fun q _ h => hFc q h) hFc (fun r2_ u2_ t H1 locs ht hvm hw hB hz1 hk1 hS => ?_)
  have hw : (0 ≤ r2_.toInt ∧ r2_.toInt ≤ 1) ∧ (r2_.toInt = 1 → (0 ≤ x1.toInt ∧ x1.toInt ≤ 119)) ∧ (r2_.toInt = 1 → x1.toInt < (v0 4).toInt) := hw
  obtain ⟨b_, hX2_0, hX2_1⟩ := hw
  obtain ⟨w2_, a2_, b2_, hP1, hK1, hD1⟩ := hB
  rw [ht] at hP1
  obtain ⟨hP, hD⟩ := va_join (wr := [(h4, .inl (k4, 120, .inl f4))]) (w1 := [(h0, .inr (0, mX0 h1 h2 h3 h4 v0))]) hP hD [0] [1] rfl rfl (by decide) (by decide) hk1 hFc hP1 hD1
  have hP : va_P (dC, dI) vwCl [(h0, .inr (0, mX0 h1 h2 h3 h4 v0)), (h4, .inl (k4, 120, .inl f4))] H1 := hP.sub [1, 0] rfl
  have hD : va_D A [(h0, .inr (0, mX0 h1 h2 h3 h4 v0)), (h4, .inl (k4, 120, .inl f4))] := hD.sub [1, 0] (by decide) rfl
  generalize H1 = H at hP hS ⊢
  clear hz1
  refine lv_if_eq (tgt := 17) hx hb dX0_wordsOf_5 (by decide) (fun c_ => ?_) (fun c_ => ?_)
  · skip
    have b_ := zT_eq rfl zk_0 c_
    refine lv_iconst (v := 0) hx hb dX0_wordsOf_17 (by decide) ?_
    refine W.widen (k := 0) (n := 0) (by decide) (by decide) ?_
    have hpost : True := trivial
    have hP9 : va_P (dC, dI) vwCl [(h0, .inr (0, mX0 h1 h2 h3 h4 v0)), (h4, .inl (k4, 120, .inl f4))] H := hP
    have hD9 : va_D A [(h0, .inr (0, mX0 h1 h2 h3 h4 v0)), (h4, .inl (k4, 120, .inl f4))] := hD
    exact W.iret (v := 0) hx hb hr (fun t ht hW => ⟨⟨0, (fun _ => 0), rfl, hpost, (fun _ => 0), (fun _ => (fun _ => 0)), (fun _ => (fun _ => 0)), by rw [ht]; exact hP9, va_K.moved hW.alike hK, hD9⟩, hS.F ht⟩) hS.2.2 dX0_wordsOf_18
  · skip
    have b_ := zF_eq rfl zk_0 c_
    refine lv_aload_n hx hb dX0_wordsOf_8 rfl (lv_at hl 0 rfl) ?_
    refine va_get (D := (dC, dI)) (ci := 0) (v := .ref h4) (C := RX0) (T := TX0) (N := 6) hx hb hG zuX0 hown hK hP 0 rfl rfl 3 (by decide) (hG _ zw133) (fun _ h9 => h9) rfl dX0_wordsOf_9 ?_
    refine lv_iload_n hx hb dX0_wordsOf_12 rfl (lv_at hl 1 rfl) ?_
    refine va_iald hx hb hK hP 1 0 rfl rfl (zin_lit ⟨by omega, by omega⟩) dX0_wordsOf_13 ?_
    refine lv_topi (fun z13 e_z13 => ?_)
    refine lv_goto (tgt := 18) hx hb dX0_wordsOf_14 (by decide) ?_
    refine W.widen (k := 0) (n := 0) (by decide) (by decide) ?_
    have b_ : -2147483648 ≤ z13.toInt ∧ z13.toInt ≤ 2147483647 := ⟨zlo _, zhi _⟩
    have hpost : True := trivial
    have hP9 : va_P (dC, dI) vwCl [(h0, .inr (0, mX0 h1 h2 h3 h4 v0)), (h4, .inl (k4, 120, .inl f4))] H := hP
    have hD9 : va_D A [(h0, .inr (0, mX0 h1 h2 h3 h4 v0)), (h4, .inl (k4, 120, .inl f4))] := hD
    exact W.iret (v := z13) hx hb hr (fun t ht hW => ⟨⟨z13, (fun _ => 0), rfl, hpost, (fun _ => 0), (fun _ => (fun _ => 0)), (fun _ => (fun _ => 0)), by rw [ht]; exact hP9, va_K.moved hW.alike hK, hD9⟩, hS.F ht⟩) hS.2.2 dX0_wordsOf_18
set_option maxHeartbeats 8000000 in
set_option maxRecDepth 100000 in
theorem sX6_chunkOf_0 (l : Launch) (dC : Nat → ClassId) (dI : Nat → Nat → Nat) (adK adV : Nat → Nat) (sz : Nat) (x0 : Int32) : Met l yX6_chunkOf (zw yX6_chunkOf cX6_chunkOf 1 (some .int)) { frames := 0, cells := 0, slots := 0, locals := 0 } (zPc dC dI adK adV [.int x0] sz [] []) (va_Qi (fun (r : Int32) (u : Nat → Int32) => (0 ≤ r.toInt ∧ r.toInt ≤ 8388610) ∧ (0 ≤ x0.toInt → zCk x0.toInt r.toInt)) (fun (u : Nat → Int32) (t : State) => ∃ (ww : Nat → Int64) (aa : Nat → Nat → Int32) (bb : Nat → Nat → Int64), va_P (dC, dI) vwCl [] t.heap ∧ va_K (dC, dI) vwCl [] t ∧ va_D (va_A [] sz) []) (va_A [] sz)) 0 0 (va_A [] sz) := by
  refine Met.ofW (cc := cX6_chunkOf) (maxL := 1) (ret := (some .int)) (by decide) rfl ?_
  intro p e s m args below meth c s₁ B hml hv
  obtain ⟨rfl, hsz, hP, hK, hD0, hE, hZ⟩ := hv
  have hx := B.exec
  have hb := B.bytes
  have hr := B.returns
  have hG : ∀ w ∈ zG, w.before _ s = true := fun w h => atoms_spec (ws := (zw yX6_chunkOf cX6_chunkOf 1 (some .int))) B.pre w (List.mem_cons_of_mem _ h)
  have hown : s.vm.findClass RX6 = some m.cls := findClass_of_methodNamed B.named
  have hlocks := B.notSynchronized

  subst hsz
  have hD := hD0.self (sz := s.heap.size)
  generalize hAe : va_A [] s.heap.size = A at hD hZ ⊢
  have hA : ∀ q : Nat, s.heap.size ≤ q → A q := fun q h => by rw [← hAe]; exact Or.inr h
  have hS : va_S A s.heap s.heap [] := va_S.rf
  have hl := lv_entry ([.int x0]) (n := 1) (Nat.le_of_ble_eq_true rfl)
  rw [lg_entry_eq]
  generalize (lg_sl ([.int x0]) ++ List.replicate (1 - (lg_sl ([.int x0])).length) Slot.unset).toArray = ls at hl ⊢
  have hl : lv_has ls 1 [(0, .int x0)] := hl
  have b_ := zk_0
  have b_ := zk_1
  have b_ := zk_2
  refine lv_iload_n hx hb dX6_chunkOf_0 rfl (lv_at hl 0 rfl) ?_
  refine lv_bipush (v := 96) hx hb dX6_chunkOf_1 (by decide) ?_
  have b_ : -2147483648 ≤ x0.toInt ∧ x0.toInt ≤ 2147483647 := ⟨zlo _, zhi _⟩
  refine lv_icmp_ge (tgt := 18) hx hb dX6_chunkOf_3 (by decide) (fun c_ => ?_) (fun c_ => ?_)
  · skip
    have b_ := zT_ge rfl zk_96 c_
    refine lv_iload_n hx hb dX6_chunkOf_18 rfl (lv_at hl 0 rfl) ?_
    refine lv_sipush (v := 224) hx hb dX6_chunkOf_19 (by decide) ?_
    refine lv_icmp_ge (tgt := 29) hx hb dX6_chunkOf_22 (by decide) (fun c_ => ?_) (fun c_ => ?_)
    · skip
      have b_ := zT_ge rfl zk_224 c_
      refine lv_iconst (v := 3) hx hb dX6_chunkOf_29 (by decide) ?_
      refine lv_iload_n hx hb dX6_chunkOf_30 rfl (lv_at hl 0 rfl) ?_
      refine lv_sipush (v := 224) hx hb dX6_chunkOf_31 (by decide) ?_
      refine lv_isub hx hb dX6_chunkOf_34 ?_
      refine lv_topi (fun z34 e_z34 => ?_)
      have b_ := zsub rfl zk_224 e_z34 (by omega) (by omega)
      refine lv_sipush (v := 256) hx hb dX6_chunkOf_35 (by decide) ?_
      refine lv_idiv hx hb dX6_chunkOf_38 (by decide) ?_
      refine lv_topi (fun z38 e_z38 => ?_)
      have b_ := zdiv rfl zk_256 e_z38 (by omega) (by decide)
      refine lv_iadd hx hb dX6_chunkOf_39 ?_
      refine lv_topi (fun z39 e_z39 => ?_)
      have b_ := zadd zk_3 rfl e_z39 (by omega) (by omega)
      refine W.widen (k := 0) (n := 0) (by decide) (by decide) ?_
      have hpost : (0 ≤ z39.toInt ∧ z39.toInt ≤ 8388610) ∧ (0 ≤ x0.toInt → zCk x0.toInt z39.toInt) := ⟨⟨by omega, by omega⟩, by intro _; unfold zCk; omega⟩
      have hP9 : va_P (dC, dI) vwCl [] s.heap := hP
      have hD9 : va_D A [] := hD
      exact W.iret (v := z39) hx hb hr (fun t ht hW => ⟨⟨z39, (fun _ => 0), rfl, hpost, (fun _ => 0), (fun _ => (fun _ => 0)), (fun _ => (fun _ => 0)), by rw [ht]; exact hP9, va_K.moved hW.alike hK, hD9⟩, hS.F ht⟩) hS.2.2 dX6_chunkOf_40
    · skip
      have b_ := zF_ge rfl zk_224 c_
      refine lv_iconst (v := 2) hx hb dX6_chunkOf_25 (by decide) ?_
      refine lv_goto (tgt := 40) hx hb dX6_chunkOf_26 (by decide) ?_
      refine W.widen (k := 0) (n := 0) (by decide) (by decide) ?_
      have hpost : (0 ≤ (2 : Int32).toInt ∧ (2 : Int32).toInt ≤ 8388610) ∧ (0 ≤ x0.toInt → zCk x0.toInt (2 : Int32).toInt) := ⟨⟨by omega, by omega⟩, by intro _; unfold zCk; omega⟩
      have hP9 : va_P (dC, dI) vwCl [] s.heap := hP
      have hD9 : va_D A [] := hD
      exact W.iret (v := 2) hx hb hr (fun t ht hW => ⟨⟨2, (fun _ => 0), rfl, hpost, (fun _ => 0), (fun _ => (fun _ => 0)), (fun _ => (fun _ => 0)), by rw [ht]; exact hP9, va_K.moved hW.alike hK, hD9⟩, hS.F ht⟩) hS.2.2 dX6_chunkOf_40
  · skip
    have b_ := zF_ge rfl zk_96 c_
    refine lv_iload_n hx hb dX6_chunkOf_6 rfl (lv_at hl 0 rfl) ?_
    refine lv_bipush (v := 32) hx hb dX6_chunkOf_7 (by decide) ?_
    refine lv_icmp_ge (tgt := 16) hx hb dX6_chunkOf_9 (by decide) (fun c_ => ?_) (fun c_ => ?_)
    · skip
      have b_ := zT_ge rfl zk_32 c_
      refine lv_iconst (v := 1) hx hb dX6_chunkOf_16 (by decide) ?_
      refine W.widen (k := 0) (n := 0) (by decide) (by decide) ?_
      have hpost : (0 ≤ (1 : Int32).toInt ∧ (1 : Int32).toInt ≤ 8388610) ∧ (0 ≤ x0.toInt → zCk x0.toInt (1 : Int32).toInt) := ⟨⟨by omega, by omega⟩, by intro _; unfold zCk; omega⟩
      have hP9 : va_P (dC, dI) vwCl [] s.heap := hP
      have hD9 : va_D A [] := hD
      exact W.iret (v := 1) hx hb hr (fun t ht hW => ⟨⟨1, (fun _ => 0), rfl, hpost, (fun _ => 0), (fun _ => (fun _ => 0)), (fun _ => (fun _ => 0)), by rw [ht]; exact hP9, va_K.moved hW.alike hK, hD9⟩, hS.F ht⟩) hS.2.2 dX6_chunkOf_17
    · skip
      have b_ := zF_ge rfl zk_32 c_
      refine lv_iconst (v := 0) hx hb dX6_chunkOf_12 (by decide) ?_
      refine lv_goto (tgt := 17) hx hb dX6_chunkOf_13 (by decide) ?_
      refine W.widen (k := 0) (n := 0) (by decide) (by decide) ?_
      have hpost : (0 ≤ (0 : Int32).toInt ∧ (0 : Int32).toInt ≤ 8388610) ∧ (0 ≤ x0.toInt → zCk x0.toInt (0 : Int32).toInt) := ⟨⟨by omega, by omega⟩, by intro _; unfold zCk; omega⟩
      have hP9 : va_P (dC, dI) vwCl [] s.heap := hP
      have hD9 : va_D A [] := hD
      exact W.iret (v := 0) hx hb hr (fun t ht hW => ⟨⟨0, (fun _ => 0), rfl, hpost, (fun _ => 0), (fun _ => (fun _ => 0)), (fun _ => (fun _ => 0)), by rw [ht]; exact hP9, va_K.moved hW.alike hK, hD9⟩, hS.F ht⟩) hS.2.2 dX6_chunkOf_17
set_option maxHeartbeats 8000000 in
set_option maxRecDepth 100000 in
theorem sX6_chunksFor_0 (l : Launch) (dC : Nat → ClassId) (dI : Nat → Nat → Nat) (adK adV : Nat → Nat) (sz : Nat) (x0 : Int32) : Met l yX6_chunksFor (zw yX6_chunksFor cX6_chunksFor 1 (some .int)) { frames := 1, cells := 0, slots := 0, locals := 20 } (zPc dC dI adK adV [.int x0] sz [] []) (va_Qi (fun (r : Int32) (u : Nat → Int32) => (0 ≤ r.toInt ∧ r.toInt ≤ 8388611)) (fun (u : Nat → Int32) (t : State) => ∃ (ww : Nat → Int64) (aa : Nat → Nat → Int32) (bb : Nat → Nat → Int64), va_P (dC, dI) vwCl [] t.heap ∧ va_K (dC, dI) vwCl [] t ∧ va_D (va_A [] sz) []) (va_A [] sz)) 0 0 (va_A [] sz) := by
  refine Met.ofW (cc := cX6_chunksFor) (maxL := 1) (ret := (some .int)) (by decide) rfl ?_
  intro p e s m args below meth c s₁ B hml hv
  obtain ⟨rfl, hsz, hP, hK, hD0, hE, hZ⟩ := hv
  have hx := B.exec
  have hb := B.bytes
  have hr := B.returns
  have hG : ∀ w ∈ zG, w.before _ s = true := fun w h => atoms_spec (ws := (zw yX6_chunksFor cX6_chunksFor 1 (some .int))) B.pre w (List.mem_cons_of_mem _ h)
  have hown : s.vm.findClass RX6 = some m.cls := findClass_of_methodNamed B.named
  have hlocks := B.notSynchronized

  subst hsz
  have hD := hD0.self (sz := s.heap.size)
  generalize hAe : va_A [] s.heap.size = A at hD hZ ⊢
  have hA : ∀ q : Nat, s.heap.size ≤ q → A q := fun q h => by rw [← hAe]; exact Or.inr h
  have hS : va_S A s.heap s.heap [] := va_S.rf
  have hl := lv_entry ([.int x0]) (n := 1) (Nat.le_of_ble_eq_true rfl)
  rw [lg_entry_eq]
  generalize (lg_sl ([.int x0]) ++ List.replicate (1 - (lg_sl ([.int x0])).length) Slot.unset).toArray = ls at hl ⊢
  have hl : lv_has ls 1 [(0, .int x0)] := hl
  have b_ := zk_0
  refine lv_iload_n hx hb dX6_chunksFor_0 rfl (lv_at hl 0 rfl) ?_
  have b_ : -2147483648 ≤ x0.toInt ∧ x0.toInt ≤ 2147483647 := ⟨zlo _, zhi _⟩
  refine lv_if_le (tgt := 15) hx hb dX6_chunksFor_1 (by decide) (fun c_ => ?_) (fun c_ => ?_)
  · skip
    have b_ := zT_le rfl zk_0 c_
    refine lv_iconst (v := 0) hx hb dX6_chunksFor_15 (by decide) ?_
    refine W.widen (k := 0) (n := 0) (by decide) (by decide) ?_
    have hpost : (0 ≤ (0 : Int32).toInt ∧ (0 : Int32).toInt ≤ 8388611) := ⟨by omega, by omega⟩
    have hP9 : va_P (dC, dI) vwCl [] s.heap := hP
    have hD9 : va_D A [] := hD
    exact W.iret (v := 0) hx hb hr (fun t ht hW => ⟨⟨0, (fun _ => 0), rfl, hpost, (fun _ => 0), (fun _ => (fun _ => 0)), (fun _ => (fun _ => 0)), by rw [ht]; exact hP9, va_K.moved hW.alike hK, hD9⟩, hS.F ht⟩) hS.2.2 dX6_chunksFor_16
  · skip
    have b_ := zF_le rfl zk_0 c_
    refine lv_iload_n hx hb dX6_chunksFor_4 rfl (lv_at hl 0 rfl) ?_
    refine lv_iconst (v := 1) hx hb dX6_chunksFor_5 (by decide) ?_
    refine lv_isub hx hb dX6_chunksFor_6 ?_
    refine lv_topi (fun z6 e_z6 => ?_)
    have b_ := zsub rfl zk_1 e_z6 (by omega) (by omega)
    have hPc := hP.sub (ws' := []) [] rfl
    have hDc := hD.sub (ws' := []) [] (by decide) rfl
    have hKc := hK.sub (tys' := []) [] rfl
    have hFc := va_free (wc := []) hD hS hA [] rfl
    refine va_calli (va_runS (As := [.int z6]) (rest := []) ⟨hx, hb, hml, hown, hG⟩ (sX6_chunkOf_0 l dC dI adK adV s.heap.size z6) (va_cwS 1 hG (zgS zw144 zw145 zw146 zw147) rfl rfl rfl (by decide +kernel) ⟨Nat.le_of_ble_eq_true rfl, Nat.le_of_ble_eq_true rfl⟩) ⟨zPc_blind, zPc_pre hPc hKc hDc hE hS hFc hZ⟩ rfl rfl hl.1 rfl (lv_room (Nat.le_of_ble_eq_true rfl)) dX6_chunksFor_7 ⟨Nat.le_of_ble_eq_true rfl, Nat.le_of_ble_eq_true rfl⟩) hS (fun q _ h => hFc q h) hFc (fun r7_ u7_ t H1 locs ht hvm hw hB hz1 hk1 hS => ?_)
    have hw : (0 ≤ r7_.toInt ∧ r7_.toInt ≤ 8388610) ∧ (0 ≤ z6.toInt → zCk z6.toInt r7_.toInt) := hw
    obtain ⟨b_, hX7_0⟩ := hw
    obtain ⟨w7_, a7_, b7_, hP1, hK1, hD1⟩ := hB
    rw [ht] at hP1
    obtain ⟨hP, hD⟩ := va_join (wr := []) (w1 := []) hP hD [] [] rfl rfl (by decide) (by decide) hk1 hFc hP1 hD1
    have hP : va_P (dC, dI) vwCl [] H1 := hP.sub [] rfl
    have hD : va_D A [] := hD.sub [] (by decide) rfl
    generalize H1 = H at hP hS ⊢
    clear hz1
    refine lv_iconst (v := 1) hx hb dX6_chunksFor_10 (by decide) ?_
    refine lv_iadd hx hb dX6_chunksFor_11 ?_
    refine lv_topi (fun z11 e_z11 => ?_)
    have b_ := zadd rfl zk_1 e_z11 (by omega) (by omega)
    refine lv_goto (tgt := 16) hx hb dX6_chunksFor_12 (by decide) ?_
    refine W.widen (k := 0) (n := 0) (by decide) (by decide) ?_
    have hpost : (0 ≤ z11.toInt ∧ z11.toInt ≤ 8388611) := ⟨by omega, by omega⟩
    have hP9 : va_P (dC, dI) vwCl [] H := hP
    have hD9 : va_D A [] := hD
    exact W.iret (v := z11) hx hb hr (fun t ht hW => ⟨⟨z11, (fun _ => 0), rfl, hpost, (fun _ => 0), (fun _ => (fun _ => 0)), (fun _ => (fun _ => 0)), by rw [ht]; exact hP9, va_K.moved hW.alike hK, hD9⟩, hS.F ht⟩) hS.2.2 dX6_chunksFor_16
set_option maxHeartbeats 8000000 in
set_option maxRecDepth 100000 in
theorem sX6_bitsOfChunk_0 (l : Launch) (dC : Nat → ClassId) (dI : Nat → Nat → Nat) (adK adV : Nat → Nat) (sz : Nat) (x0 : Int32) : Met l yX6_bitsOfChunk (zw yX6_bitsOfChunk cX6_bitsOfChunk 1 (some .int)) { frames := 0, cells := 0, slots := 0, locals := 0 } (zPc dC dI adK adV [.int x0] sz [] []) (va_Qi (fun (r : Int32) (u : Nat → Int32) => (0 ≤ x0.toInt → zBs x0.toInt r.toInt)) (fun (u : Nat → Int32) (t : State) => ∃ (ww : Nat → Int64) (aa : Nat → Nat → Int32) (bb : Nat → Nat → Int64), va_P (dC, dI) vwCl [] t.heap ∧ va_K (dC, dI) vwCl [] t ∧ va_D (va_A [] sz) []) (va_A [] sz)) 0 0 (va_A [] sz) := by
  refine Met.ofW (cc := cX6_bitsOfChunk) (maxL := 1) (ret := (some .int)) (by decide) rfl ?_
  intro p e s m args below meth c s₁ B hml hv
  obtain ⟨rfl, hsz, hP, hK, hD0, hE, hZ⟩ := hv
  have hx := B.exec
  have hb := B.bytes
  have hr := B.returns
  have hG : ∀ w ∈ zG, w.before _ s = true := fun w h => atoms_spec (ws := (zw yX6_bitsOfChunk cX6_bitsOfChunk 1 (some .int))) B.pre w (List.mem_cons_of_mem _ h)
  have hown : s.vm.findClass RX6 = some m.cls := findClass_of_methodNamed B.named
  have hlocks := B.notSynchronized

  subst hsz
  have hD := hD0.self (sz := s.heap.size)
  generalize hAe : va_A [] s.heap.size = A at hD hZ ⊢
  have hA : ∀ q : Nat, s.heap.size ≤ q → A q := fun q h => by rw [← hAe]; exact Or.inr h
  have hS : va_S A s.heap s.heap [] := va_S.rf
  have hl := lv_entry ([.int x0]) (n := 1) (Nat.le_of_ble_eq_true rfl)
  rw [lg_entry_eq]
  generalize (lg_sl ([.int x0]) ++ List.replicate (1 - (lg_sl ([.int x0])).length) Slot.unset).toArray = ls at hl ⊢
  have hl : lv_has ls 1 [(0, .int x0)] := hl
  have b_ := zk_256
  refine lv_iload_n hx hb dX6_bitsOfChunk_0 rfl (lv_at hl 0 rfl) ?_
  refine lv_iconst (v := 3) hx hb dX6_bitsOfChunk_1 (by decide) ?_
  have b_ : -2147483648 ≤ x0.toInt ∧ x0.toInt ≤ 2147483647 := ⟨zlo _, zhi _⟩
  refine lv_icmp_ge (tgt := 12) hx hb dX6_bitsOfChunk_2 (by decide) (fun c_ => ?_) (fun c_ => ?_)
  · skip
    have b_ := zT_ge rfl zk_3 c_
    refine lv_sipush (v := 256) hx hb dX6_bitsOfChunk_12 (by decide) ?_
    refine W.widen (k := 0) (n := 0) (by decide) (by decide) ?_
    have hpost : (0 ≤ x0.toInt → zBs x0.toInt (256 : Int32).toInt) := by intro _; unfold zBs; omega
    have hP9 : va_P (dC, dI) vwCl [] s.heap := hP
    have hD9 : va_D A [] := hD
    exact W.iret (v := 256) hx hb hr (fun t ht hW => ⟨⟨256, (fun _ => 0), rfl, hpost, (fun _ => 0), (fun _ => (fun _ => 0)), (fun _ => (fun _ => 0)), by rw [ht]; exact hP9, va_K.moved hW.alike hK, hD9⟩, hS.F ht⟩) hS.2.2 dX6_bitsOfChunk_15
  · skip
    have b_ := zF_ge rfl zk_3 c_
    refine lv_bipush (v := 32) hx hb dX6_bitsOfChunk_5 (by decide) ?_
    refine lv_iload_n hx hb dX6_bitsOfChunk_7 rfl (lv_at hl 0 rfl) ?_
    refine lv_ishl hx hb dX6_bitsOfChunk_8 ?_
    refine lv_topi (fun z8 e_z8 => ?_)
    have b_ : 0 ≤ x0.toInt → (x0.toInt = 0 ∧ z8.toInt = 32) ∨ (x0.toInt = 1 ∧ z8.toInt = 64) ∨ (x0.toInt = 2 ∧ z8.toInt = 128) ∨ (x0.toInt = 3 ∧ z8.toInt = 256) := fun h => zshl32 e_z8 h (by omega)
    refine lv_goto (tgt := 15) hx hb dX6_bitsOfChunk_9 (by decide) ?_
    refine W.widen (k := 0) (n := 0) (by decide) (by decide) ?_
    have b_ : -2147483648 ≤ z8.toInt ∧ z8.toInt ≤ 2147483647 := ⟨zlo _, zhi _⟩
    have hpost : (0 ≤ x0.toInt → zBs x0.toInt z8.toInt) := by intro _; unfold zBs; omega
    have hP9 : va_P (dC, dI) vwCl [] s.heap := hP
    have hD9 : va_D A [] := hD
    exact W.iret (v := z8) hx hb hr (fun t ht hW => ⟨⟨z8, (fun _ => 0), rfl, hpost, (fun _ => 0), (fun _ => (fun _ => 0)), (fun _ => (fun _ => 0)), by rw [ht]; exact hP9, va_K.moved hW.alike hK, hD9⟩, hS.F ht⟩) hS.2.2 dX6_bitsOfChunk_15
set_option maxHeartbeats 8000000 in
set_option maxRecDepth 100000 in
theorem sX6_roomOf_0 (l : Launch) (dC : Nat → ClassId) (dI : Nat → Nat → Nat) (adK adV : Nat → Nat) (sz : Nat) (x0 : Int32) : Met l yX6_roomOf (zw yX6_roomOf cX6_roomOf 1 (some .int)) { frames := 0, cells := 0, slots := 0, locals := 0 } (zPc dC dI adK adV [.int x0] sz [] []) (va_Qi (fun (r : Int32) (u : Nat → Int32) => (0 ≤ x0.toInt → x0.toInt ≤ 1000 → zRo x0.toInt r.toInt)) (fun (u : Nat → Int32) (t : State) => ∃ (ww : Nat → Int64) (aa : Nat → Nat → Int32) (bb : Nat → Nat → Int64), va_P (dC, dI) vwCl [] t.heap ∧ va_K (dC, dI) vwCl [] t ∧ va_D (va_A [] sz) []) (va_A [] sz)) 0 0 (va_A [] sz) := by
  refine Met.ofW (cc := cX6_roomOf) (maxL := 1) (ret := (some .int)) (by decide) rfl ?_
  intro p e s m args below meth c s₁ B hml hv
  obtain ⟨rfl, hsz, hP, hK, hD0, hE, hZ⟩ := hv
  have hx := B.exec
  have hb := B.bytes
  have hr := B.returns
  have hG : ∀ w ∈ zG, w.before _ s = true := fun w h => atoms_spec (ws := (zw yX6_roomOf cX6_roomOf 1 (some .int))) B.pre w (List.mem_cons_of_mem _ h)
  have hown : s.vm.findClass RX6 = some m.cls := findClass_of_methodNamed B.named
  have hlocks := B.notSynchronized

  subst hsz
  have hD := hD0.self (sz := s.heap.size)
  generalize hAe : va_A [] s.heap.size = A at hD hZ ⊢
  have hA : ∀ q : Nat, s.heap.size ≤ q → A q := fun q h => by rw [← hAe]; exact Or.inr h
  have hS : va_S A s.heap s.heap [] := va_S.rf
  have hl := lv_entry ([.int x0]) (n := 1) (Nat.le_of_ble_eq_true rfl)
  rw [lg_entry_eq]
  generalize (lg_sl ([.int x0]) ++ List.replicate (1 - (lg_sl ([.int x0])).length) Slot.unset).toArray = ls at hl ⊢
  have hl : lv_has ls 1 [(0, .int x0)] := hl
  refine lv_iload_n hx hb dX6_roomOf_0 rfl (lv_at hl 0 rfl) ?_
  refine lv_iconst (v := 3) hx hb dX6_roomOf_1 (by decide) ?_
  have b_ : -2147483648 ≤ x0.toInt ∧ x0.toInt ≤ 2147483647 := ⟨zlo _, zhi _⟩
  refine lv_icmp_gt (tgt := 15) hx hb dX6_roomOf_2 (by decide) (fun c_ => ?_) (fun c_ => ?_)
  · skip
    have b_ := zT_gt rfl zk_3 c_
    refine lv_sipush (v := 224) hx hb dX6_roomOf_15 (by decide) ?_
    refine lv_sipush (v := 256) hx hb dX6_roomOf_18 (by decide) ?_
    refine lv_iload_n hx hb dX6_roomOf_21 rfl (lv_at hl 0 rfl) ?_
    refine lv_iconst (v := 3) hx hb dX6_roomOf_22 (by decide) ?_
    refine lv_isub hx hb dX6_roomOf_23 ?_
    refine lv_topi (fun z23 e_z23 => ?_)
    have b_ := zsub rfl zk_3 e_z23 (by omega) (by omega)
    refine lv_imul hx hb dX6_roomOf_24 ?_
    refine lv_topi (fun z24 e_z24 => ?_)
    have b_ : x0.toInt ≤ 1000 → z24.toInt = 256 * (x0.toInt - 3) := fun h => by have q := zmul zk_256 rfl e_z24 (by omega) (by omega); omega
    have b_ : -2147483648 ≤ z24.toInt ∧ z24.toInt ≤ 2147483647 := ⟨zlo _, zhi _⟩
    refine lv_iadd hx hb dX6_roomOf_25 ?_
    refine lv_topi (fun z25 e_z25 => ?_)
    have b_ : x0.toInt ≤ 1000 → z25.toInt = 224 + z24.toInt := fun h => zadd zk_224 rfl e_z25 (by omega) (by omega)
    refine W.widen (k := 0) (n := 0) (by decide) (by decide) ?_
    have b_ : -2147483648 ≤ z25.toInt ∧ z25.toInt ≤ 2147483647 := ⟨zlo _, zhi _⟩
    have hpost : (0 ≤ x0.toInt → x0.toInt ≤ 1000 → zRo x0.toInt z25.toInt) := by intro _ _; unfold zRo; omega
    have hP9 : va_P (dC, dI) vwCl [] s.heap := hP
    have hD9 : va_D A [] := hD
    exact W.iret (v := z25) hx hb hr (fun t ht hW => ⟨⟨z25, (fun _ => 0), rfl, hpost, (fun _ => 0), (fun _ => (fun _ => 0)), (fun _ => (fun _ => 0)), by rw [ht]; exact hP9, va_K.moved hW.alike hK, hD9⟩, hS.F ht⟩) hS.2.2 dX6_roomOf_26
  · skip
    have b_ := zF_gt rfl zk_3 c_
    refine lv_bipush (v := 32) hx hb dX6_roomOf_5 (by decide) ?_
    refine lv_iload_n hx hb dX6_roomOf_7 rfl (lv_at hl 0 rfl) ?_
    refine lv_ishl hx hb dX6_roomOf_8 ?_
    refine lv_topi (fun z8 e_z8 => ?_)
    have b_ : 0 ≤ x0.toInt → (x0.toInt = 0 ∧ z8.toInt = 32) ∨ (x0.toInt = 1 ∧ z8.toInt = 64) ∨ (x0.toInt = 2 ∧ z8.toInt = 128) ∨ (x0.toInt = 3 ∧ z8.toInt = 256) := fun h => zshl32 e_z8 h (by omega)
    refine lv_bipush (v := 32) hx hb dX6_roomOf_9 (by decide) ?_
    have b_ : -2147483648 ≤ z8.toInt ∧ z8.toInt ≤ 2147483647 := ⟨zlo _, zhi _⟩
    refine lv_isub hx hb dX6_roomOf_11 ?_
    refine lv_topi (fun z11 e_z11 => ?_)
    have b_ : 0 ≤ x0.toInt → z11.toInt = z8.toInt - 32 := fun h => zsub rfl zk_32 e_z11 (by omega) (by omega)
    refine lv_goto (tgt := 26) hx hb dX6_roomOf_12 (by decide) ?_
    refine W.widen (k := 0) (n := 0) (by decide) (by decide) ?_
    have b_ : -2147483648 ≤ z11.toInt ∧ z11.toInt ≤ 2147483647 := ⟨zlo _, zhi _⟩
    have hpost : (0 ≤ x0.toInt → x0.toInt ≤ 1000 → zRo x0.toInt z11.toInt) := by intro _ _; unfold zRo; omega
    have hP9 : va_P (dC, dI) vwCl [] s.heap := hP
    have hD9 : va_D A [] := hD
    exact W.iret (v := z11) hx hb hr (fun t ht hW => ⟨⟨z11, (fun _ => 0), rfl, hpost, (fun _ => 0), (fun _ => (fun _ => 0)), (fun _ => (fun _ => 0)), by rw [ht]; exact hP9, va_K.moved hW.alike hK, hD9⟩, hS.F ht⟩) hS.2.2 dX6_roomOf_26
set_option maxHeartbeats 8000000 in
set_option maxRecDepth 100000 in
theorem sX6_takenFor_0 (l : Launch) (dC : Nat → ClassId) (dI : Nat → Nat → Nat) (adK adV : Nat → Nat) (sz : Nat) (x0 : Int32) : Met l yX6_takenFor (zw yX6_takenFor cX6_takenFor 2 (some .int)) { frames := 2, cells := 0, slots := 0, locals := 40 } (zPc dC dI adK adV [.int x0] sz [] []) (va_Qi (fun (r : Int32) (u : Nat → Int32) => True) (fun (u : Nat → Int32) (t : State) => ∃ (ww : Nat → Int64) (aa : Nat → Nat → Int32) (bb : Nat → Nat → Int64), va_P (dC, dI) vwCl [] t.heap ∧ va_K (dC, dI) vwCl [] t ∧ va_D (va_A [] sz) []) (va_A [] sz)) 0 0 (va_A [] sz) := by
  refine Met.ofW (cc := cX6_takenFor) (maxL := 2) (ret := (some .int)) (by decide) rfl ?_
  intro p e s m args below meth c s₁ B hml hv
  obtain ⟨rfl, hsz, hP, hK, hD0, hE, hZ⟩ := hv
  have hx := B.exec
  have hb := B.bytes
  have hr := B.returns
  have hG : ∀ w ∈ zG, w.before _ s = true := fun w h => atoms_spec (ws := (zw yX6_takenFor cX6_takenFor 2 (some .int))) B.pre w (List.mem_cons_of_mem _ h)
  have hown : s.vm.findClass RX6 = some m.cls := findClass_of_methodNamed B.named
  have hlocks := B.notSynchronized

  subst hsz
  have hD := hD0.self (sz := s.heap.size)
  generalize hAe : va_A [] s.heap.size = A at hD hZ ⊢
  have hA : ∀ q : Nat, s.heap.size ≤ q → A q := fun q h => by rw [← hAe]; exact Or.inr h
  have hS : va_S A s.heap s.heap [] := va_S.rf
  have hl := lv_entry ([.int x0]) (n := 2) (Nat.le_of_ble_eq_true rfl)
  rw [lg_entry_eq]
  generalize (lg_sl ([.int x0]) ++ List.replicate (2 - (lg_sl ([.int x0])).length) Slot.unset).toArray = ls at hl ⊢
  have hl : lv_has ls 2 [(0, .int x0)] := hl
  refine lv_iload_n hx hb dX6_takenFor_0 rfl (lv_at hl 0 rfl) ?_
  have hPc := hP.sub (ws' := []) [] rfl
  have hDc := hD.sub (ws' := []) [] (by decide) rfl
  have hKc := hK.sub (tys' := []) [] rfl
  have hFc := va_free (wc := []) hD hS hA [] rfl
  refine va_calli (va_runS (As := [.int x0]) (rest := []) ⟨hx, hb, hml, hown, hG⟩ (sX6_chunksFor_0 l dC dI adK adV s.heap.size x0) (va_cwS 1 hG (zgS zw148 zw149 zw146 zw150) rfl rfl rfl (by decide +kernel) ⟨Nat.le_of_ble_eq_true rfl, Nat.le_of_ble_eq_true rfl⟩) ⟨zPc_blind, zPc_pre hPc hKc hDc hE hS hFc hZ⟩ rfl rfl hl.1 rfl (lv_room (Nat.le_of_ble_eq_true rfl)) dX6_takenFor_1 ⟨Nat.le_of_ble_eq_true rfl, Nat.le_of_ble_eq_true rfl⟩) hS (fun q _ h => hFc q h) hFc (fun r1_ u1_ t H1 locs ht hvm hw hB hz1 hk1 hS => ?_)
  have hw : (0 ≤ r1_.toInt ∧ r1_.toInt ≤ 8388611) := hw
  have b_ := hw
  obtain ⟨w1_, a1_, b1_, hP1, hK1, hD1⟩ := hB
  rw [ht] at hP1
  obtain ⟨hP, hD⟩ := va_join (wr := []) (w1 := []) hP hD [] [] rfl rfl (by decide) (by decide) hk1 hFc hP1 hD1
  have hP : va_P (dC, dI) vwCl [] H1 := hP.sub [] rfl
  have hD : va_D A [] := hD.sub [] (by decide) rfl
  generalize H1 = H at hP hS ⊢
  clear hz1
  refine lv_istore_n (lv' := [(1, .int r1_), (0, .int x0)]) hx hb dX6_takenFor_4 rfl hl (by decide) rfl (fun ls hl => ?_)
  refine lv_iload_n hx hb dX6_takenFor_5 rfl (lv_at hl 0 rfl) ?_
  have hPc := hP.sub (ws' := []) [] rfl
  have hDc := hD.sub (ws' := []) [] (by decide) rfl
  have hKc := hK.sub (tys' := []) [] rfl
  have hFc := va_free (wc := []) hD hS hA [] rfl
  refine va_calli (va_runS (As := [.int r1_]) (rest := []) ⟨hx, hb, hml, hown, hG⟩ (sX6_roomOf_0 l dC dI adK adV H.size r1_) (va_cwS 1 hG (zgS zw151 zw152 zw146 zw153) rfl rfl rfl (by decide +kernel) ⟨Nat.le_of_ble_eq_true rfl, Nat.le_of_ble_eq_true rfl⟩) ⟨zPc_blind, zPc_pre hPc hKc hDc hE hS hFc hZ⟩ rfl rfl hl.1 rfl (lv_room (Nat.le_of_ble_eq_true rfl)) dX6_takenFor_6 ⟨Nat.le_of_ble_eq_true rfl, Nat.le_of_ble_eq_true rfl⟩) hS (fun q _ h => hFc q h) hFc (fun r6_ u6_ t H1 locs ht hvm hw hB hz1 hk1 hS => ?_)
  have hw : (0 ≤ r1_.toInt → r1_.toInt ≤ 1000 → zRo r1_.toInt r6_.toInt) := hw
  have hX6_0 := hw
  obtain ⟨w6_, a6_, b6_, hP1, hK1, hD1⟩ := hB
  rw [ht] at hP1
  obtain ⟨hP, hD⟩ := va_join (wr := []) (w1 := []) hP hD [] [] rfl rfl (by decide) (by decide) hk1 hFc hP1 hD1
  have hP : va_P (dC, dI) vwCl [] H1 := hP.sub [] rfl
  have hD : va_D A [] := hD.sub [] (by decide) rfl
  generalize H1 = H at hP hS ⊢
  clear hz1
  refine lv_bipush (v := 16) hx hb dX6_takenFor_9 (by decide) ?_
  refine lv_iload_n hx hb dX6_takenFor_11 rfl (lv_at hl 0 rfl) ?_
  refine lv_imul hx hb dX6_takenFor_12 ?_
  refine lv_topi (fun z12 e_z12 => ?_)
  have b_ := zmul zk_16 rfl e_z12 (by omega) (by omega)
  have b_ : -2147483648 ≤ r6_.toInt ∧ r6_.toInt ≤ 2147483647 := ⟨zlo _, zhi _⟩
  refine lv_iadd hx hb dX6_takenFor_13 ?_
  refine lv_topi (fun z13 e_z13 => ?_)
  refine W.widen (k := 0) (n := 0) (by decide) (by decide) ?_
  have b_ : -2147483648 ≤ z13.toInt ∧ z13.toInt ≤ 2147483647 := ⟨zlo _, zhi _⟩
  have hpost : True := trivial
  have hP9 : va_P (dC, dI) vwCl [] H := hP
  have hD9 : va_D A [] := hD
  exact W.iret (v := z13) hx hb hr (fun t ht hW => ⟨⟨z13, (fun _ => 0), rfl, hpost, (fun _ => 0), (fun _ => (fun _ => 0)), (fun _ => (fun _ => 0)), by rw [ht]; exact hP9, va_K.moved hW.alike hK, hD9⟩, hS.F ht⟩) hS.2.2 dX6_takenFor_14
set_option maxHeartbeats 8000000 in
set_option maxRecDepth 100000 in
theorem sJ6_numberOfLeadingZeros_0f7a4_0 (l : Launch) (dC : Nat → ClassId) (dI : Nat → Nat → Nat) (adK adV : Nat → Nat) (sz : Nat) (x0 : Int32) : Met l yJ6_numberOfLeadingZeros_0f7a4 (zw yJ6_numberOfLeadingZeros_0f7a4 cJ6_numberOfLeadingZeros_0f7a4 2 (some .int)) { frames := 0, cells := 0, slots := 0, locals := 0 } (zPc dC dI adK adV [.int x0] sz [] []) (va_Qi (fun (r : Int32) (u : Nat → Int32) => (0 ≤ r.toInt ∧ r.toInt ≤ 32)) (fun (u : Nat → Int32) (t : State) => ∃ (ww : Nat → Int64) (aa : Nat → Nat → Int32) (bb : Nat → Nat → Int64), va_P (dC, dI) vwCl [] t.heap ∧ va_K (dC, dI) vwCl [] t ∧ va_D (va_A [] sz) []) (va_A [] sz)) 0 0 (va_A [] sz) := by
  refine Met.ofW (cc := cJ6_numberOfLeadingZeros_0f7a4) (maxL := 2) (ret := (some .int)) (by decide) rfl ?_
  intro p e s m args below meth c s₁ B hml hv
  obtain ⟨rfl, hsz, hP, hK, hD0, hE, hZ⟩ := hv
  have hx := B.exec
  have hb := B.bytes
  have hr := B.returns
  have hG : ∀ w ∈ zG, w.before _ s = true := fun w h => atoms_spec (ws := (zw yJ6_numberOfLeadingZeros_0f7a4 cJ6_numberOfLeadingZeros_0f7a4 2 (some .int))) B.pre w (List.mem_cons_of_mem _ h)
  have hown : s.vm.findClass RJ6 = some m.cls := findClass_of_methodNamed B.named
  have hlocks := B.notSynchronized

  subst hsz
  have hD := hD0.self (sz := s.heap.size)
  generalize hAe : va_A [] s.heap.size = A at hD hZ ⊢
  have hA : ∀ q : Nat, s.heap.size ≤ q → A q := fun q h => by rw [← hAe]; exact Or.inr h
  have hS : va_S A s.heap s.heap [] := va_S.rf
  have hl := lv_entry ([.int x0]) (n := 2) (Nat.le_of_ble_eq_true rfl)
  rw [lg_entry_eq]
  generalize (lg_sl ([.int x0]) ++ List.replicate (2 - (lg_sl ([.int x0])).length) Slot.unset).toArray = ls at hl ⊢
  have hl : lv_has ls 2 [(0, .int x0)] := hl
  have b_ := zk_0
  have b_ := zk_15
  have b_ := zk_31
  have b_ := zk_32
  refine lv_iload_n hx hb dJ6_numberOfLeadingZeros_0f7a4_0 rfl (lv_at hl 0 rfl) ?_
  have b_ : -2147483648 ≤ x0.toInt ∧ x0.toInt ≤ 2147483647 := ⟨zlo _, zhi _⟩
  refine lv_if_gt (tgt := 15) hx hb dJ6_numberOfLeadingZeros_0f7a4_1 (by decide) (fun c_ => ?_) (fun c_ => ?_)
  · skip
    have b_ := zT_gt rfl zk_0 c_
    refine lv_bipush (v := 31) hx hb dJ6_numberOfLeadingZeros_0f7a4_15 (by decide) ?_
    refine lv_istore_n (lv' := [(1, .int 31), (0, .int x0)]) hx hb dJ6_numberOfLeadingZeros_0f7a4_17 rfl hl (by decide) rfl (fun ls hl => ?_)
    refine lv_iload_n hx hb dJ6_numberOfLeadingZeros_0f7a4_18 rfl (lv_at hl 1 rfl) ?_
    refine lv_ldcw hx hb hown (hG _ zw154) dJ6_numberOfLeadingZeros_0f7a4_19 ?_
    refine zcutW (fun H locs ls u33_ w33_ a33_ b33_ => va_P (dC, dI) vwCl [] H ∧ va_D A [] ∧ va_S A s.heap H locs ∧ lv_has ls 2 [(0, .int (u33_ 0)), (1, .int (u33_ 1))] ∧ (1 ≤ (u33_ 0).toInt ∧ (u33_ 0).toInt ≤ 65535) ∧ (15 ≤ (u33_ 1).toInt ∧ (u33_ 1).toInt ≤ 31)) (fun ls u33_ w33_ => F0 m 33 ls []) 0 0 ?_ (fun hJ33 => ?_)
    · skip
      intro H locs ls u33_ w33_ a33_ b33_ hc
      obtain ⟨hP, hD, hS, hl, b_, b_⟩ := hc
      refine lv_iload_n hx hb dJ6_numberOfLeadingZeros_0f7a4_33 rfl (lv_at hl 0 rfl) ?_
      refine lv_sipush (v := 256) hx hb dJ6_numberOfLeadingZeros_0f7a4_34 (by decide) ?_
      refine zcutW (fun H locs ls u48_ w48_ a48_ b48_ => va_P (dC, dI) vwCl [] H ∧ va_D A [] ∧ va_S A s.heap H locs ∧ lv_has ls 2 [(0, .int (u48_ 0)), (1, .int (u48_ 1))] ∧ (1 ≤ (u48_ 0).toInt ∧ (u48_ 0).toInt ≤ 255) ∧ (7 ≤ (u48_ 1).toInt ∧ (u48_ 1).toInt ≤ 31) ∧ (1 ≤ (u33_ 0).toInt ∧ (u33_ 0).toInt ≤ 65535)) (fun ls u48_ w48_ => F0 m 48 ls []) 0 0 ?_ (fun hJ48 => ?_)
      · skip
        intro H locs ls u48_ w48_ a48_ b48_ hc
        obtain ⟨hP, hD, hS, hl, b_, b_, b_⟩ := hc
        refine lv_iload_n hx hb dJ6_numberOfLeadingZeros_0f7a4_48 rfl (lv_at hl 0 rfl) ?_
        refine lv_bipush (v := 16) hx hb dJ6_numberOfLeadingZeros_0f7a4_49 (by decide) ?_
        refine zcutW (fun H locs ls u61_ w61_ a61_ b61_ => va_P (dC, dI) vwCl [] H ∧ va_D A [] ∧ va_S A s.heap H locs ∧ lv_has ls 2 [(0, .int (u61_ 0)), (1, .int (u61_ 1))] ∧ (1 ≤ (u61_ 0).toInt ∧ (u61_ 0).toInt ≤ 15) ∧ (3 ≤ (u61_ 1).toInt ∧ (u61_ 1).toInt ≤ 31) ∧ (1 ≤ (u48_ 0).toInt ∧ (u48_ 0).toInt ≤ 255)) (fun ls u61_ w61_ => F0 m 61 ls []) 0 0 ?_ (fun hJ61 => ?_)
        · skip
          intro H locs ls u61_ w61_ a61_ b61_ hc
          obtain ⟨hP, hD, hS, hl, b_, b_, b_⟩ := hc
          refine lv_iload_n hx hb dJ6_numberOfLeadingZeros_0f7a4_61 rfl (lv_at hl 0 rfl) ?_
          refine lv_iconst (v := 4) hx hb dJ6_numberOfLeadingZeros_0f7a4_62 (by decide) ?_
          refine zcutW (fun H locs ls u73_ w73_ a73_ b73_ => va_P (dC, dI) vwCl [] H ∧ va_D A [] ∧ va_S A s.heap H locs ∧ lv_has ls 2 [(0, .int (u73_ 0)), (1, .int (u73_ 1))] ∧ (1 ≤ (u73_ 0).toInt ∧ (u73_ 0).toInt ≤ 3) ∧ (1 ≤ (u73_ 1).toInt ∧ (u73_ 1).toInt ≤ 31) ∧ (1 ≤ (u61_ 0).toInt ∧ (u61_ 0).toInt ≤ 15)) (fun ls u73_ w73_ => F0 m 73 ls []) 0 0 ?_ (fun hJ73 => ?_)
          · skip
            intro H locs ls u73_ w73_ a73_ b73_ hc
            obtain ⟨hP, hD, hS, hl, b_, b_, b_⟩ := hc
            refine lv_iload_n hx hb dJ6_numberOfLeadingZeros_0f7a4_73 rfl (lv_at hl 1 rfl) ?_
            refine lv_iload_n hx hb dJ6_numberOfLeadingZeros_0f7a4_74 rfl (lv_at hl 0 rfl) ?_
            refine lv_iconst (v := 1) hx hb dJ6_numberOfLeadingZeros_0f7a4_75 (by decide) ?_
            refine lv_iushr hx hb dJ6_numberOfLeadingZeros_0f7a4_76 rfl ?_
            refine lv_topi (fun z76 e_z76 => ?_)
            have b_ := zushr1 rfl e_z76 (by omega)
            refine lv_isub hx hb dJ6_numberOfLeadingZeros_0f7a4_77 ?_
            refine lv_topi (fun z77 e_z77 => ?_)
            have b_ := zsub rfl rfl e_z77 (by omega) (by omega)
            refine W.widen (k := 0) (n := 0) (by decide) (by decide) ?_
            have hpost : (0 ≤ z77.toInt ∧ z77.toInt ≤ 32) := ⟨by omega, by omega⟩
            have hP9 : va_P (dC, dI) vwCl [] H := hP
            have hD9 : va_D A [] := hD
            exact W.iret (v := z77) hx hb hr (fun t ht hW => ⟨⟨z77, (fun _ => 0), rfl, hpost, (fun _ => 0), (fun _ => (fun _ => 0)), (fun _ => (fun _ => 0)), by rw [ht]; exact hP9, va_K.moved hW.alike hK, hD9⟩, hS.F ht⟩) hS.2.2 dJ6_numberOfLeadingZeros_0f7a4_78
          · skip
            refine lv_icmp_lt (tgt := 73) hx hb dJ6_numberOfLeadingZeros_0f7a4_63 (by decide) (fun c_ => ?_) (fun c_ => ?_)
            · skip
              have b_ := zT_lt rfl zk_4 c_
              have hc : va_P (dC, dI) vwCl [] H ∧ va_D A [] ∧ va_S A s.heap H locs ∧ lv_has ls 2 [(0, .int (u61_ 0)), (1, .int (u61_ 1))] ∧ (1 ≤ (u61_ 0).toInt ∧ (u61_ 0).toInt ≤ 3) ∧ (1 ≤ (u61_ 1).toInt ∧ (u61_ 1).toInt ≤ 31) ∧ (1 ≤ (u61_ 0).toInt ∧ (u61_ 0).toInt ≤ 15) := ⟨hP, hD, hS, lv_sub hl [0, 1] rfl, ⟨by omega, by omega⟩, ⟨by omega, by omega⟩, ⟨by omega, by omega⟩⟩
              exact hJ73 H locs ls (fun i => ([(u61_ 0), (u61_ 1)] : List (Int32)).getD i 0) (fun _ => 0) (fun _ => (fun _ => 0)) (fun _ => (fun _ => 0)) hc
            · skip
              have b_ := zF_lt rfl zk_4 c_
              obtain ⟨z66, e_z66⟩ : ∃ z : Int32, z = (u61_ 1) + Int32.ofInt (-2) := ⟨_, rfl⟩
              have b_ := zadd (x := (u61_ 1)) (y := Int32.ofInt (-2)) rfl (show (Int32.ofInt (-2)).toInt = (-2) from by decide) e_z66 (by omega) (by omega)
              refine lv_iinc (v := z66) (lv' := [(1, .int z66), (0, .int (u61_ 0))]) hx hb dJ6_numberOfLeadingZeros_0f7a4_66 hl (k := 1) rfl e_z66.symm (by decide) rfl (fun ls hl => ?_)
              refine lv_iload_n hx hb dJ6_numberOfLeadingZeros_0f7a4_69 rfl (lv_at hl 1 rfl) ?_
              refine lv_iconst (v := 2) hx hb dJ6_numberOfLeadingZeros_0f7a4_70 (by decide) ?_
              refine lv_iushr hx hb dJ6_numberOfLeadingZeros_0f7a4_71 rfl ?_
              refine lv_topi (fun z71 e_z71 => ?_)
              have b_ := zushr2 rfl e_z71 (by omega)
              refine lv_istore_n (lv' := [(0, .int z71), (1, .int z66)]) hx hb dJ6_numberOfLeadingZeros_0f7a4_72 rfl hl (by decide) rfl (fun ls hl => ?_)
              have hc : va_P (dC, dI) vwCl [] H ∧ va_D A [] ∧ va_S A s.heap H locs ∧ lv_has ls 2 [(0, .int z71), (1, .int z66)] ∧ (1 ≤ z71.toInt ∧ z71.toInt ≤ 3) ∧ (1 ≤ z66.toInt ∧ z66.toInt ≤ 31) ∧ (1 ≤ (u61_ 0).toInt ∧ (u61_ 0).toInt ≤ 15) := ⟨hP, hD, hS, lv_sub hl [0, 1] rfl, ⟨by omega, by omega⟩, ⟨by omega, by omega⟩, ⟨by omega, by omega⟩⟩
              exact hJ73 H locs ls (fun i => ([z71, z66] : List (Int32)).getD i 0) (fun _ => 0) (fun _ => (fun _ => 0)) (fun _ => (fun _ => 0)) hc
        · skip
          refine lv_icmp_lt (tgt := 61) hx hb dJ6_numberOfLeadingZeros_0f7a4_51 (by decide) (fun c_ => ?_) (fun c_ => ?_)
          · skip
            have b_ := zT_lt rfl zk_16 c_
            have hc : va_P (dC, dI) vwCl [] H ∧ va_D A [] ∧ va_S A s.heap H locs ∧ lv_has ls 2 [(0, .int (u48_ 0)), (1, .int (u48_ 1))] ∧ (1 ≤ (u48_ 0).toInt ∧ (u48_ 0).toInt ≤ 15) ∧ (3 ≤ (u48_ 1).toInt ∧ (u48_ 1).toInt ≤ 31) ∧ (1 ≤ (u48_ 0).toInt ∧ (u48_ 0).toInt ≤ 255) := ⟨hP, hD, hS, lv_sub hl [0, 1] rfl, ⟨by omega, by omega⟩, ⟨by omega, by omega⟩, ⟨by omega, by omega⟩⟩
            exact hJ61 H locs ls (fun i => ([(u48_ 0), (u48_ 1)] : List (Int32)).getD i 0) (fun _ => 0) (fun _ => (fun _ => 0)) (fun _ => (fun _ => 0)) hc
          · skip
            have b_ := zF_lt rfl zk_16 c_
            obtain ⟨z54, e_z54⟩ : ∃ z : Int32, z = (u48_ 1) + Int32.ofInt (-4) := ⟨_, rfl⟩
            have b_ := zadd (x := (u48_ 1)) (y := Int32.ofInt (-4)) rfl (show (Int32.ofInt (-4)).toInt = (-4) from by decide) e_z54 (by omega) (by omega)
            refine lv_iinc (v := z54) (lv' := [(1, .int z54), (0, .int (u48_ 0))]) hx hb dJ6_numberOfLeadingZeros_0f7a4_54 hl (k := 1) rfl e_z54.symm (by decide) rfl (fun ls hl => ?_)
            refine lv_iload_n hx hb dJ6_numberOfLeadingZeros_0f7a4_57 rfl (lv_at hl 1 rfl) ?_
            refine lv_iconst (v := 4) hx hb dJ6_numberOfLeadingZeros_0f7a4_58 (by decide) ?_
            refine lv_iushr hx hb dJ6_numberOfLeadingZeros_0f7a4_59 rfl ?_
            refine lv_topi (fun z59 e_z59 => ?_)
            have b_ := zushr4 rfl e_z59 (by omega)
            refine lv_istore_n (lv' := [(0, .int z59), (1, .int z54)]) hx hb dJ6_numberOfLeadingZeros_0f7a4_60 rfl hl (by decide) rfl (fun ls hl => ?_)
            have hc : va_P (dC, dI) vwCl [] H ∧ va_D A [] ∧ va_S A s.heap H locs ∧ lv_has ls 2 [(0, .int z59), (1, .int z54)] ∧ (1 ≤ z59.toInt ∧ z59.toInt ≤ 15) ∧ (3 ≤ z54.toInt ∧ z54.toInt ≤ 31) ∧ (1 ≤ (u48_ 0).toInt ∧ (u48_ 0).toInt ≤ 255) := ⟨hP, hD, hS, lv_sub hl [0, 1] rfl, ⟨by omega, by omega⟩, ⟨by omega, by omega⟩, ⟨by omega, by omega⟩⟩
            exact hJ61 H locs ls (fun i => ([z59, z54] : List (Int32)).getD i 0) (fun _ => 0) (fun _ => (fun _ => 0)) (fun _ => (fun _ => 0)) hc
      · skip
        refine lv_icmp_lt (tgt := 48) hx hb dJ6_numberOfLeadingZeros_0f7a4_37 (by decide) (fun c_ => ?_) (fun c_ => ?_)
        · skip
          have b_ := zT_lt rfl zk_256 c_
          have hc : va_P (dC, dI) vwCl [] H ∧ va_D A [] ∧ va_S A s.heap H locs ∧ lv_has ls 2 [(0, .int (u33_ 0)), (1, .int (u33_ 1))] ∧ (1 ≤ (u33_ 0).toInt ∧ (u33_ 0).toInt ≤ 255) ∧ (7 ≤ (u33_ 1).toInt ∧ (u33_ 1).toInt ≤ 31) ∧ (1 ≤ (u33_ 0).toInt ∧ (u33_ 0).toInt ≤ 65535) := ⟨hP, hD, hS, lv_sub hl [0, 1] rfl, ⟨by omega, by omega⟩, ⟨by omega, by omega⟩, ⟨by omega, by omega⟩⟩
          exact hJ48 H locs ls (fun i => ([(u33_ 0), (u33_ 1)] : List (Int32)).getD i 0) (fun _ => 0) (fun _ => (fun _ => 0)) (fun _ => (fun _ => 0)) hc
        · skip
          have b_ := zF_lt rfl zk_256 c_
          obtain ⟨z40, e_z40⟩ : ∃ z : Int32, z = (u33_ 1) + Int32.ofInt (-8) := ⟨_, rfl⟩
          have b_ := zadd (x := (u33_ 1)) (y := Int32.ofInt (-8)) rfl (show (Int32.ofInt (-8)).toInt = (-8) from by decide) e_z40 (by omega) (by omega)
          refine lv_iinc (v := z40) (lv' := [(1, .int z40), (0, .int (u33_ 0))]) hx hb dJ6_numberOfLeadingZeros_0f7a4_40 hl (k := 1) rfl e_z40.symm (by decide) rfl (fun ls hl => ?_)
          refine lv_iload_n hx hb dJ6_numberOfLeadingZeros_0f7a4_43 rfl (lv_at hl 1 rfl) ?_
          refine lv_bipush (v := 8) hx hb dJ6_numberOfLeadingZeros_0f7a4_44 (by decide) ?_
          refine lv_iushr hx hb dJ6_numberOfLeadingZeros_0f7a4_46 rfl ?_
          refine lv_topi (fun z46 e_z46 => ?_)
          have b_ := zushr8 rfl e_z46 (by omega)
          refine lv_istore_n (lv' := [(0, .int z46), (1, .int z40)]) hx hb dJ6_numberOfLeadingZeros_0f7a4_47 rfl hl (by decide) rfl (fun ls hl => ?_)
          have hc : va_P (dC, dI) vwCl [] H ∧ va_D A [] ∧ va_S A s.heap H locs ∧ lv_has ls 2 [(0, .int z46), (1, .int z40)] ∧ (1 ≤ z46.toInt ∧ z46.toInt ≤ 255) ∧ (7 ≤ z40.toInt ∧ z40.toInt ≤ 31) ∧ (1 ≤ (u33_ 0).toInt ∧ (u33_ 0).toInt ≤ 65535) := ⟨hP, hD, hS, lv_sub hl [0, 1] rfl, ⟨by omega, by omega⟩, ⟨by omega, by omega⟩, ⟨by omega, by omega⟩⟩
          exact hJ48 H locs ls (fun i => ([z46, z40] : List (Int32)).getD i 0) (fun _ => 0) (fun _ => (fun _ => 0)) (fun _ => (fun _ => 0)) hc
    · skip
      refine lv_icmp_lt (tgt := 33) hx hb dJ6_numberOfLeadingZeros_0f7a4_22 (by decide) (fun c_ => ?_) (fun c_ => ?_)
      · skip
        have b_ := zT_lt rfl zk_65536 c_
        have hc : va_P (dC, dI) vwCl [] s.heap ∧ va_D A [] ∧ va_S A s.heap s.heap [] ∧ lv_has ls 2 [(0, .int x0), (1, .int 31)] ∧ (1 ≤ x0.toInt ∧ x0.toInt ≤ 65535) ∧ (15 ≤ (31 : Int32).toInt ∧ (31 : Int32).toInt ≤ 31) := ⟨hP, hD, hS, lv_sub hl [1, 0] rfl, ⟨by omega, by omega⟩, ⟨by omega, by omega⟩⟩
        exact hJ33 s.heap [] ls (fun i => ([x0, 31] : List (Int32)).getD i 0) (fun _ => 0) (fun _ => (fun _ => 0)) (fun _ => (fun _ => 0)) hc
      · skip
        have b_ := zF_lt rfl zk_65536 c_
        refine lv_iinc (v := 15) (lv' := [(1, .int 15), (0, .int x0)]) hx hb dJ6_numberOfLeadingZeros_0f7a4_25 hl (k := 0) rfl (by decide) (by decide) rfl (fun ls hl => ?_)
        refine lv_iload_n hx hb dJ6_numberOfLeadingZeros_0f7a4_28 rfl (lv_at hl 1 rfl) ?_
        refine lv_bipush (v := 16) hx hb dJ6_numberOfLeadingZeros_0f7a4_29 (by decide) ?_
        refine lv_iushr hx hb dJ6_numberOfLeadingZeros_0f7a4_31 rfl ?_
        refine lv_topi (fun z31 e_z31 => ?_)
        have b_ := zushr16 rfl e_z31 (by omega)
        refine lv_istore_n (lv' := [(0, .int z31), (1, .int 15)]) hx hb dJ6_numberOfLeadingZeros_0f7a4_32 rfl hl (by decide) rfl (fun ls hl => ?_)
        have hc : va_P (dC, dI) vwCl [] s.heap ∧ va_D A [] ∧ va_S A s.heap s.heap [] ∧ lv_has ls 2 [(0, .int z31), (1, .int 15)] ∧ (1 ≤ z31.toInt ∧ z31.toInt ≤ 65535) ∧ (15 ≤ (15 : Int32).toInt ∧ (15 : Int32).toInt ≤ 31) := ⟨hP, hD, hS, lv_sub hl [0, 1] rfl, ⟨by omega, by omega⟩, ⟨by omega, by omega⟩⟩
        exact hJ33 s.heap [] ls (fun i => ([z31, 15] : List (Int32)).getD i 0) (fun _ => 0) (fun _ => (fun _ => 0)) (fun _ => (fun _ => 0)) hc
  · skip
    have b_ := zF_gt rfl zk_0 c_
    refine lv_iload_n hx hb dJ6_numberOfLeadingZeros_0f7a4_4 rfl (lv_at hl 0 rfl) ?_
    refine lv_if_ne (tgt := 13) hx hb dJ6_numberOfLeadingZeros_0f7a4_5 (by decide) (fun c_ => ?_) (fun c_ => ?_)
    · skip
      have b_ := zT_ne rfl zk_0 c_
      refine lv_iconst (v := 0) hx hb dJ6_numberOfLeadingZeros_0f7a4_13 (by decide) ?_
      refine W.widen (k := 0) (n := 0) (by decide) (by decide) ?_
      have hpost : (0 ≤ (0 : Int32).toInt ∧ (0 : Int32).toInt ≤ 32) := ⟨by omega, by omega⟩
      have hP9 : va_P (dC, dI) vwCl [] s.heap := hP
      have hD9 : va_D A [] := hD
      exact W.iret (v := 0) hx hb hr (fun t ht hW => ⟨⟨0, (fun _ => 0), rfl, hpost, (fun _ => 0), (fun _ => (fun _ => 0)), (fun _ => (fun _ => 0)), by rw [ht]; exact hP9, va_K.moved hW.alike hK, hD9⟩, hS.F ht⟩) hS.2.2 dJ6_numberOfLeadingZeros_0f7a4_14
    · skip
      have b_ := zF_ne rfl zk_0 c_
      refine lv_bipush (v := 32) hx hb dJ6_numberOfLeadingZeros_0f7a4_8 (by decide) ?_
      refine lv_goto (tgt := 14) hx hb dJ6_numberOfLeadingZeros_0f7a4_10 (by decide) ?_
      refine W.widen (k := 0) (n := 0) (by decide) (by decide) ?_
      have hpost : (0 ≤ (32 : Int32).toInt ∧ (32 : Int32).toInt ≤ 32) := ⟨by omega, by omega⟩
      have hP9 : va_P (dC, dI) vwCl [] s.heap := hP
      have hD9 : va_D A [] := hD
      exact W.iret (v := 32) hx hb hr (fun t ht hW => ⟨⟨32, (fun _ => 0), rfl, hpost, (fun _ => 0), (fun _ => (fun _ => 0)), (fun _ => (fun _ => 0)), by rw [ht]; exact hP9, va_K.moved hW.alike hK, hD9⟩, hS.F ht⟩) hS.2.2 dJ6_numberOfLeadingZeros_0f7a4_14
set_option maxHeartbeats 8000000 in
set_option maxRecDepth 100000 in
theorem sX11_binaryDigits_0 (l : Launch) (dC : Nat → ClassId) (dI : Nat → Nat → Nat) (adK adV : Nat → Nat) (sz : Nat) (x0 : Int32) : Met l yX11_binaryDigits (zw yX11_binaryDigits cX11_binaryDigits 1 (some .int)) { frames := 1, cells := 0, slots := 0, locals := 21 } (zPc dC dI adK adV [.int x0] sz [] []) (va_Qi (fun (r : Int32) (u : Nat → Int32) => (0 ≤ r.toInt ∧ r.toInt ≤ 32)) (fun (u : Nat → Int32) (t : State) => ∃ (ww : Nat → Int64) (aa : Nat → Nat → Int32) (bb : Nat → Nat → Int64), va_P (dC, dI) vwCl [] t.heap ∧ va_K (dC, dI) vwCl [] t ∧ va_D (va_A [] sz) []) (va_A [] sz)) 0 0 (va_A [] sz) := by
  refine Met.ofW (cc := cX11_binaryDigits) (maxL := 1) (ret := (some .int)) (by decide) rfl ?_
  intro p e s m args below meth c s₁ B hml hv
  obtain ⟨rfl, hsz, hP, hK, hD0, hE, hZ⟩ := hv
  have hx := B.exec
  have hb := B.bytes
  have hr := B.returns
  have hG : ∀ w ∈ zG, w.before _ s = true := fun w h => atoms_spec (ws := (zw yX11_binaryDigits cX11_binaryDigits 1 (some .int))) B.pre w (List.mem_cons_of_mem _ h)
  have hown : s.vm.findClass RX11 = some m.cls := findClass_of_methodNamed B.named
  have hlocks := B.notSynchronized

  subst hsz
  have hD := hD0.self (sz := s.heap.size)
  generalize hAe : va_A [] s.heap.size = A at hD hZ ⊢
  have hA : ∀ q : Nat, s.heap.size ≤ q → A q := fun q h => by rw [← hAe]; exact Or.inr h
  have hS : va_S A s.heap s.heap [] := va_S.rf
  have hl := lv_entry ([.int x0]) (n := 1) (Nat.le_of_ble_eq_true rfl)
  rw [lg_entry_eq]
  generalize (lg_sl ([.int x0]) ++ List.replicate (1 - (lg_sl ([.int x0])).length) Slot.unset).toArray = ls at hl ⊢
  have hl : lv_has ls 1 [(0, .int x0)] := hl
  refine lv_bipush (v := 32) hx hb dX11_binaryDigits_0 (by decide) ?_
  refine lv_iload_n hx hb dX11_binaryDigits_2 rfl (lv_at hl 0 rfl) ?_
  have hPc := hP.sub (ws' := []) [] rfl
  have hDc := hD.sub (ws' := []) [] (by decide) rfl
  have hKc := hK.sub (tys' := []) [] rfl
  have hFc := va_free (wc := []) hD hS hA [] rfl
  refine va_calli (va_runS (As := [.int x0]) (rest := [.int 32]) ⟨hx, hb, hml, hown, hG⟩ (sJ6_numberOfLeadingZeros_0f7a4_0 l dC dI adK adV s.heap.size x0) (va_cwS 1 hG (zgS zw155 zw156 zw157 zw158) rfl rfl rfl (by decide +kernel) ⟨Nat.le_of_ble_eq_true rfl, Nat.le_of_ble_eq_true rfl⟩) ⟨zPc_blind, zPc_pre hPc hKc hDc hE hS hFc hZ⟩ rfl rfl hl.1 rfl (lv_room (Nat.le_of_ble_eq_true rfl)) dX11_binaryDigits_3 ⟨Nat.le_of_ble_eq_true rfl, Nat.le_of_ble_eq_true rfl⟩) hS (fun q _ h => hFc q h) hFc (fun r3_ u3_ t H1 locs ht hvm hw hB hz1 hk1 hS => ?_)
  have hw : (0 ≤ r3_.toInt ∧ r3_.toInt ≤ 32) := hw
  have b_ := hw
  obtain ⟨w3_, a3_, b3_, hP1, hK1, hD1⟩ := hB
  rw [ht] at hP1
  obtain ⟨hP, hD⟩ := va_join (wr := []) (w1 := []) hP hD [] [] rfl rfl (by decide) (by decide) hk1 hFc hP1 hD1
  have hP : va_P (dC, dI) vwCl [] H1 := hP.sub [] rfl
  have hD : va_D A [] := hD.sub [] (by decide) rfl
  generalize H1 = H at hP hS ⊢
  clear hz1
  refine lv_isub hx hb dX11_binaryDigits_6 ?_
  refine lv_topi (fun z6 e_z6 => ?_)
  have b_ := zsub zk_32 rfl e_z6 (by omega) (by omega)
  refine W.widen (k := 0) (n := 0) (by decide) (by decide) ?_
  have hpost : (0 ≤ z6.toInt ∧ z6.toInt ≤ 32) := ⟨by omega, by omega⟩
  have hP9 : va_P (dC, dI) vwCl [] H := hP
  have hD9 : va_D A [] := hD
  exact W.iret (v := z6) hx hb hr (fun t ht hW => ⟨⟨z6, (fun _ => 0), rfl, hpost, (fun _ => 0), (fun _ => (fun _ => 0)), (fun _ => (fun _ => 0)), by rw [ht]; exact hP9, va_K.moved hW.alike hK, hD9⟩, hS.F ht⟩) hS.2.2 dX11_binaryDigits_7
set_option maxHeartbeats 8000000 in
set_option maxRecDepth 100000 in
theorem sX6_gammaBits_0 (l : Launch) (dC : Nat → ClassId) (dI : Nat → Nat → Nat) (adK adV : Nat → Nat) (sz : Nat) (x0 : Int32) : Met l yX6_gammaBits (zw yX6_gammaBits cX6_gammaBits 1 (some .int)) { frames := 2, cells := 0, slots := 0, locals := 41 } (zPc dC dI adK adV [.int x0] sz [] []) (va_Qi (fun (r : Int32) (u : Nat → Int32) => ((-1) ≤ r.toInt ∧ r.toInt ≤ 63)) (fun (u : Nat → Int32) (t : State) => ∃ (ww : Nat → Int64) (aa : Nat → Nat → Int32) (bb : Nat → Nat → Int64), va_P (dC, dI) vwCl [] t.heap ∧ va_K (dC, dI) vwCl [] t ∧ va_D (va_A [] sz) []) (va_A [] sz)) 0 0 (va_A [] sz) := by
  refine Met.ofW (cc := cX6_gammaBits) (maxL := 1) (ret := (some .int)) (by decide) rfl ?_
  intro p e s m args below meth c s₁ B hml hv
  obtain ⟨rfl, hsz, hP, hK, hD0, hE, hZ⟩ := hv
  have hx := B.exec
  have hb := B.bytes
  have hr := B.returns
  have hG : ∀ w ∈ zG, w.before _ s = true := fun w h => atoms_spec (ws := (zw yX6_gammaBits cX6_gammaBits 1 (some .int))) B.pre w (List.mem_cons_of_mem _ h)
  have hown : s.vm.findClass RX6 = some m.cls := findClass_of_methodNamed B.named
  have hlocks := B.notSynchronized

  subst hsz
  have hD := hD0.self (sz := s.heap.size)
  generalize hAe : va_A [] s.heap.size = A at hD hZ ⊢
  have hA : ∀ q : Nat, s.heap.size ≤ q → A q := fun q h => by rw [← hAe]; exact Or.inr h
  have hS : va_S A s.heap s.heap [] := va_S.rf
  have hl := lv_entry ([.int x0]) (n := 1) (Nat.le_of_ble_eq_true rfl)
  rw [lg_entry_eq]
  generalize (lg_sl ([.int x0]) ++ List.replicate (1 - (lg_sl ([.int x0])).length) Slot.unset).toArray = ls at hl ⊢
  have hl : lv_has ls 1 [(0, .int x0)] := hl
  refine lv_iconst (v := 2) hx hb dX6_gammaBits_0 (by decide) ?_
  refine lv_iload_n hx hb dX6_gammaBits_1 rfl (lv_at hl 0 rfl) ?_
  have hPc := hP.sub (ws' := []) [] rfl
  have hDc := hD.sub (ws' := []) [] (by decide) rfl
  have hKc := hK.sub (tys' := []) [] rfl
  have hFc := va_free (wc := []) hD hS hA [] rfl
  refine va_calli (va_runSN (As := [.int x0]) (rest := [.int 2]) ⟨hx, hb, hml, hown, hG⟩ (sX11_binaryDigits_0 l dC dI adK adV s.heap.size x0) ⟨va_cnB 1 hG (zgI zw159) rfl rfl rfl (zE_RX6_59 hE) (hG _ zw160) (by decide +kernel) ⟨Nat.le_of_ble_eq_true rfl, Nat.le_of_ble_eq_true rfl⟩, hG _ zw161, trivial⟩ ⟨zPc_blind, zPc_pre hPc hKc hDc hE hS hFc hZ⟩ rfl rfl hl.1 rfl (lv_room (Nat.le_of_ble_eq_true rfl)) dX6_gammaBits_2 ⟨Nat.le_of_ble_eq_true rfl, Nat.le_of_ble_eq_true rfl⟩) hS (fun q _ h => hFc q h) hFc (fun r2_ u2_ t H1 locs ht hvm hw hB hz1 hk1 hS => ?_)
  have hw : (0 ≤ r2_.toInt ∧ r2_.toInt ≤ 32) := hw
  have b_ := hw
  obtain ⟨w2_, a2_, b2_, hP1, hK1, hD1⟩ := hB
  rw [ht] at hP1
  obtain ⟨hP, hD⟩ := va_join (wr := []) (w1 := []) hP hD [] [] rfl rfl (by decide) (by decide) hk1 hFc hP1 hD1
  have hP : va_P (dC, dI) vwCl [] H1 := hP.sub [] rfl
  have hD : va_D A [] := hD.sub [] (by decide) rfl
  generalize H1 = H at hP hS ⊢
  clear hz1
  refine lv_imul hx hb dX6_gammaBits_5 ?_
  refine lv_topi (fun z5 e_z5 => ?_)
  have b_ := zmul zk_2 rfl e_z5 (by omega) (by omega)
  refine lv_iconst (v := 1) hx hb dX6_gammaBits_6 (by decide) ?_
  refine lv_isub hx hb dX6_gammaBits_7 ?_
  refine lv_topi (fun z7 e_z7 => ?_)
  have b_ := zsub rfl zk_1 e_z7 (by omega) (by omega)
  refine W.widen (k := 0) (n := 0) (by decide) (by decide) ?_
  have hpost : ((-1) ≤ z7.toInt ∧ z7.toInt ≤ 63) := ⟨by omega, by omega⟩
  have hP9 : va_P (dC, dI) vwCl [] H := hP
  have hD9 : va_D A [] := hD
  exact W.iret (v := z7) hx hb hr (fun t ht hW => ⟨⟨z7, (fun _ => 0), rfl, hpost, (fun _ => 0), (fun _ => (fun _ => 0)), (fun _ => (fun _ => 0)), by rw [ht]; exact hP9, va_K.moved hW.alike hK, hD9⟩, hS.F ht⟩) hS.2.2 dX6_gammaBits_8
set_option maxHeartbeats 8000000 in
set_option maxRecDepth 100000 in
theorem sX6_isId_0 (l : Launch) (dC : Nat → ClassId) (dI : Nat → Nat → Nat) (adK adV : Nat → Nat) (sz : Nat) (x0 : Int32) : Met l yX6_isId (zw yX6_isId cX6_isId 1 (some .boolean)) { frames := 0, cells := 0, slots := 0, locals := 0 } (zPc dC dI adK adV [.int x0] sz [] []) (va_Qi (fun (r : Int32) (u : Nat → Int32) => (0 ≤ r.toInt ∧ r.toInt ≤ 1) ∧ (r.toInt = 1 → (0 ≤ x0.toInt ∧ x0.toInt ≤ 399))) (fun (u : Nat → Int32) (t : State) => ∃ (ww : Nat → Int64) (aa : Nat → Nat → Int32) (bb : Nat → Nat → Int64), va_P (dC, dI) vwCl [] t.heap ∧ va_K (dC, dI) vwCl [] t ∧ va_D (va_A [] sz) []) (va_A [] sz)) 0 0 (va_A [] sz) := by
  refine Met.ofW (cc := cX6_isId) (maxL := 1) (ret := (some .boolean)) (by decide) rfl ?_
  intro p e s m args below meth c s₁ B hml hv
  obtain ⟨rfl, hsz, hP, hK, hD0, hE, hZ⟩ := hv
  have hx := B.exec
  have hb := B.bytes
  have hr := B.returns
  have hG : ∀ w ∈ zG, w.before _ s = true := fun w h => atoms_spec (ws := (zw yX6_isId cX6_isId 1 (some .boolean))) B.pre w (List.mem_cons_of_mem _ h)
  have hown : s.vm.findClass RX6 = some m.cls := findClass_of_methodNamed B.named
  have hlocks := B.notSynchronized

  subst hsz
  have hD := hD0.self (sz := s.heap.size)
  generalize hAe : va_A [] s.heap.size = A at hD hZ ⊢
  have hA : ∀ q : Nat, s.heap.size ≤ q → A q := fun q h => by rw [← hAe]; exact Or.inr h
  have hS : va_S A s.heap s.heap [] := va_S.rf
  have hl := lv_entry ([.int x0]) (n := 1) (Nat.le_of_ble_eq_true rfl)
  rw [lg_entry_eq]
  generalize (lg_sl ([.int x0]) ++ List.replicate (1 - (lg_sl ([.int x0])).length) Slot.unset).toArray = ls at hl ⊢
  have hl : lv_has ls 1 [(0, .int x0)] := hl
  have b_ := zk_0
  have b_ := zk_1
  refine lv_iload_n hx hb dX6_isId_0 rfl (lv_at hl 0 rfl) ?_
  have b_ : -2147483648 ≤ x0.toInt ∧ x0.toInt ≤ 2147483647 := ⟨zlo _, zhi _⟩
  refine lv_if_lt (tgt := 15) hx hb dX6_isId_1 (by decide) (fun c_ => ?_) (fun c_ => ?_)
  · skip
    have b_ := zT_lt rfl zk_0 c_
    refine lv_iconst (v := 0) hx hb dX6_isId_15 (by decide) ?_
    refine W.widen (k := 0) (n := 0) (by decide) (by decide) ?_
    have hpost : (0 ≤ (0 : Int32).toInt ∧ (0 : Int32).toInt ≤ 1) ∧ ((0 : Int32).toInt = 1 → (0 ≤ x0.toInt ∧ x0.toInt ≤ 399)) := ⟨⟨by omega, by omega⟩, by omega⟩
    have hP9 : va_P (dC, dI) vwCl [] s.heap := hP
    have hD9 : va_D A [] := hD
    exact W.zret (v := 0) hx hb hr rfl (fun t ht hW => ⟨⟨0, (fun _ => 0), rfl, hpost, (fun _ => 0), (fun _ => (fun _ => 0)), (fun _ => (fun _ => 0)), by rw [ht]; exact hP9, va_K.moved hW.alike hK, hD9⟩, hS.F ht⟩) hS.2.2 dX6_isId_16
  · skip
    have b_ := zF_lt rfl zk_0 c_
    refine lv_iload_n hx hb dX6_isId_4 rfl (lv_at hl 0 rfl) ?_
    refine lv_sipush (v := 400) hx hb dX6_isId_5 (by decide) ?_
    refine lv_icmp_ge (tgt := 15) hx hb dX6_isId_8 (by decide) (fun c_ => ?_) (fun c_ => ?_)
    · skip
      have b_ := zT_ge rfl zk_400 c_
      refine lv_iconst (v := 0) hx hb dX6_isId_15 (by decide) ?_
      refine W.widen (k := 0) (n := 0) (by decide) (by decide) ?_
      have hpost : (0 ≤ (0 : Int32).toInt ∧ (0 : Int32).toInt ≤ 1) ∧ ((0 : Int32).toInt = 1 → (0 ≤ x0.toInt ∧ x0.toInt ≤ 399)) := ⟨⟨by omega, by omega⟩, by omega⟩
      have hP9 : va_P (dC, dI) vwCl [] s.heap := hP
      have hD9 : va_D A [] := hD
      exact W.zret (v := 0) hx hb hr rfl (fun t ht hW => ⟨⟨0, (fun _ => 0), rfl, hpost, (fun _ => 0), (fun _ => (fun _ => 0)), (fun _ => (fun _ => 0)), by rw [ht]; exact hP9, va_K.moved hW.alike hK, hD9⟩, hS.F ht⟩) hS.2.2 dX6_isId_16
    · skip
      have b_ := zF_ge rfl zk_400 c_
      refine lv_iconst (v := 1) hx hb dX6_isId_11 (by decide) ?_
      refine lv_goto (tgt := 16) hx hb dX6_isId_12 (by decide) ?_
      refine W.widen (k := 0) (n := 0) (by decide) (by decide) ?_
      have hpost : (0 ≤ (1 : Int32).toInt ∧ (1 : Int32).toInt ≤ 1) ∧ ((1 : Int32).toInt = 1 → (0 ≤ x0.toInt ∧ x0.toInt ≤ 399)) := ⟨⟨by omega, by omega⟩, by omega⟩
      have hP9 : va_P (dC, dI) vwCl [] s.heap := hP
      have hD9 : va_D A [] := hD
      exact W.zret (v := 1) hx hb hr rfl (fun t ht hW => ⟨⟨1, (fun _ => 0), rfl, hpost, (fun _ => 0), (fun _ => (fun _ => 0)), (fun _ => (fun _ => 0)), by rw [ht]; exact hP9, va_K.moved hW.alike hK, hD9⟩, hS.F ht⟩) hS.2.2 dX6_isId_16
set_option maxHeartbeats 8000000 in
set_option maxRecDepth 100000 in
theorem sX6_taken_0 (l : Launch) (dC : Nat → ClassId) (dI : Nat → Nat → Nat) (adK adV : Nat → Nat) (h0 : Nat) (h1 : Nat) (h2 : Nat) (h3 : Nat) (h4 : Nat) (h5 : Nat) (h6 : Nat) (h7 : Nat) (h8 : Nat) (sz : Nat) (v0 : Nat → Int32) (hv0 : zR rg_Postings v0) : Met l yX6_taken (zw yX6_taken cX6_taken 1 (some .int)) { frames := 0, cells := 0, slots := 0, locals := 0 } (zPc dC dI adK adV [.ref h0] sz [(h0, .inr (6, mX6 h1 h2 h3 h4 h5 h6 h7 h8 v0))] []) (va_Qi (fun (r : Int32) (u : Nat → Int32) => True) (fun (u : Nat → Int32) (t : State) => ∃ (ww : Nat → Int64) (aa : Nat → Nat → Int32) (bb : Nat → Nat → Int64), va_P (dC, dI) vwCl [(h0, .inr (6, mX6 h1 h2 h3 h4 h5 h6 h7 h8 v0))] t.heap ∧ va_K (dC, dI) vwCl [] t ∧ va_D (va_A [(h0, .inr (6, mX6 h1 h2 h3 h4 h5 h6 h7 h8 v0))] sz) [(h0, .inr (6, mX6 h1 h2 h3 h4 h5 h6 h7 h8 v0))]) (va_A [(h0, .inr (6, mX6 h1 h2 h3 h4 h5 h6 h7 h8 v0))] sz)) 0 0 (va_A [(h0, .inr (6, mX6 h1 h2 h3 h4 h5 h6 h7 h8 v0))] sz) := by
  refine Met.ofW (cc := cX6_taken) (maxL := 1) (ret := (some .int)) (by decide) rfl ?_
  intro p e s m args below meth c s₁ B hml hv
  obtain ⟨rfl, hsz, hP, hK, hD0, hE, hZ⟩ := hv
  have hx := B.exec
  have hb := B.bytes
  have hr := B.returns
  have hG : ∀ w ∈ zG, w.before _ s = true := fun w h => atoms_spec (ws := (zw yX6_taken cX6_taken 1 (some .int))) B.pre w (List.mem_cons_of_mem _ h)
  have hown : s.vm.findClass RX6 = some m.cls := findClass_of_methodNamed B.named
  have hlocks := B.notSynchronized

  subst hsz
  have hD := hD0.self (sz := s.heap.size)
  generalize hAe : va_A [(h0, .inr (6, mX6 h1 h2 h3 h4 h5 h6 h7 h8 v0))] s.heap.size = A at hD hZ ⊢
  have hA : ∀ q : Nat, s.heap.size ≤ q → A q := fun q h => by rw [← hAe]; exact Or.inr h
  have hS : va_S A s.heap s.heap [] := va_S.rf
  have hl := lv_entry ([.ref h0]) (n := 1) (Nat.le_of_ble_eq_true rfl)
  rw [lg_entry_eq]
  generalize (lg_sl ([.ref h0]) ++ List.replicate (1 - (lg_sl ([.ref h0])).length) Slot.unset).toArray = ls at hl ⊢
  have hl : lv_has ls 1 [(0, .ref h0)] := hl
  refine lv_aload_n hx hb dX6_taken_0 rfl (lv_at hl 0 rfl) ?_
  refine va_get (D := (dC, dI)) (ci := 6) (v := .int (v0 11)) (C := RX6) (T := TX6) (N := 12) hx hb hG zuX6 hown hK hP 0 rfl rfl 11 (by decide) (hG _ zw162) (fun _ h9 => h9) rfl dX6_taken_1 ?_
  refine W.widen (k := 0) (n := 0) (by decide) (by decide) ?_
  have b_ : -2147483648 ≤ (v0 11).toInt ∧ (v0 11).toInt ≤ 2147483647 := ⟨zlo _, zhi _⟩
  have hpost : True := trivial
  have hP9 : va_P (dC, dI) vwCl [(h0, .inr (6, mX6 h1 h2 h3 h4 h5 h6 h7 h8 v0))] s.heap := hP
  have hD9 : va_D A [(h0, .inr (6, mX6 h1 h2 h3 h4 h5 h6 h7 h8 v0))] := hD
  exact W.iret (v := (v0 11)) hx hb hr (fun t ht hW => ⟨⟨(v0 11), (fun _ => 0), rfl, hpost, (fun _ => 0), (fun _ => (fun _ => 0)), (fun _ => (fun _ => 0)), by rw [ht]; exact hP9, va_K.moved hW.alike hK, hD9⟩, hS.F ht⟩) hS.2.2 dX6_taken_4
set_option maxHeartbeats 8000000 in
set_option maxRecDepth 100000 in
theorem sX6_allBits_0 (l : Launch) (dC : Nat → ClassId) (dI : Nat → Nat → Nat) (adK adV : Nat → Nat) (h0 : Nat) (h1 : Nat) (h2 : Nat) (h3 : Nat) (h4 : Nat) (h5 : Nat) (h6 : Nat) (h7 : Nat) (h8 : Nat) (sz : Nat) (v0 : Nat → Int32) (hv0 : zR rg_Postings v0) : Met l yX6_allBits (zw yX6_allBits cX6_allBits 1 (some .int)) { frames := 0, cells := 0, slots := 0, locals := 0 } (zPc dC dI adK adV [.ref h0] sz [(h0, .inr (6, mX6 h1 h2 h3 h4 h5 h6 h7 h8 v0))] []) (va_Qi (fun (r : Int32) (u : Nat → Int32) => True) (fun (u : Nat → Int32) (t : State) => ∃ (ww : Nat → Int64) (aa : Nat → Nat → Int32) (bb : Nat → Nat → Int64), va_P (dC, dI) vwCl [(h0, .inr (6, mX6 h1 h2 h3 h4 h5 h6 h7 h8 v0))] t.heap ∧ va_K (dC, dI) vwCl [] t ∧ va_D (va_A [(h0, .inr (6, mX6 h1 h2 h3 h4 h5 h6 h7 h8 v0))] sz) [(h0, .inr (6, mX6 h1 h2 h3 h4 h5 h6 h7 h8 v0))]) (va_A [(h0, .inr (6, mX6 h1 h2 h3 h4 h5 h6 h7 h8 v0))] sz)) 0 0 (va_A [(h0, .inr (6, mX6 h1 h2 h3 h4 h5 h6 h7 h8 v0))] sz) := by
  refine Met.ofW (cc := cX6_allBits) (maxL := 1) (ret := (some .int)) (by decide) rfl ?_
  intro p e s m args below meth c s₁ B hml hv
  obtain ⟨rfl, hsz, hP, hK, hD0, hE, hZ⟩ := hv
  have hx := B.exec
  have hb := B.bytes
  have hr := B.returns
  have hG : ∀ w ∈ zG, w.before _ s = true := fun w h => atoms_spec (ws := (zw yX6_allBits cX6_allBits 1 (some .int))) B.pre w (List.mem_cons_of_mem _ h)
  have hown : s.vm.findClass RX6 = some m.cls := findClass_of_methodNamed B.named
  have hlocks := B.notSynchronized

  subst hsz
  have hD := hD0.self (sz := s.heap.size)
  generalize hAe : va_A [(h0, .inr (6, mX6 h1 h2 h3 h4 h5 h6 h7 h8 v0))] s.heap.size = A at hD hZ ⊢
  have hA : ∀ q : Nat, s.heap.size ≤ q → A q := fun q h => by rw [← hAe]; exact Or.inr h
  have hS : va_S A s.heap s.heap [] := va_S.rf
  have hl := lv_entry ([.ref h0]) (n := 1) (Nat.le_of_ble_eq_true rfl)
  rw [lg_entry_eq]
  generalize (lg_sl ([.ref h0]) ++ List.replicate (1 - (lg_sl ([.ref h0])).length) Slot.unset).toArray = ls at hl ⊢
  have hl : lv_has ls 1 [(0, .ref h0)] := hl
  refine lv_aload_n hx hb dX6_allBits_0 rfl (lv_at hl 0 rfl) ?_
  refine va_get (D := (dC, dI)) (ci := 6) (v := .int (v0 10)) (C := RX6) (T := TX6) (N := 12) hx hb hG zuX6 hown hK hP 0 rfl rfl 10 (by decide) (hG _ zw163) (fun _ h9 => h9) rfl dX6_allBits_1 ?_
  refine W.widen (k := 0) (n := 0) (by decide) (by decide) ?_
  have b_ : -2147483648 ≤ (v0 10).toInt ∧ (v0 10).toInt ≤ 2147483647 := ⟨zlo _, zhi _⟩
  have hpost : True := trivial
  have hP9 : va_P (dC, dI) vwCl [(h0, .inr (6, mX6 h1 h2 h3 h4 h5 h6 h7 h8 v0))] s.heap := hP
  have hD9 : va_D A [(h0, .inr (6, mX6 h1 h2 h3 h4 h5 h6 h7 h8 v0))] := hD
  exact W.iret (v := (v0 10)) hx hb hr (fun t ht hW => ⟨⟨(v0 10), (fun _ => 0), rfl, hpost, (fun _ => 0), (fun _ => (fun _ => 0)), (fun _ => (fun _ => 0)), by rw [ht]; exact hP9, va_K.moved hW.alike hK, hD9⟩, hS.F ht⟩) hS.2.2 dX6_allBits_4
set_option maxHeartbeats 8000000 in
set_option maxRecDepth 100000 in
theorem sX6_bitsOf_0 (l : Launch) (dC : Nat → ClassId) (dI : Nat → Nat → Nat) (adK adV : Nat → Nat) (h0 : Nat) (h6 : Nat) (h1 : Nat) (h2 : Nat) (h3 : Nat) (h4 : Nat) (h5 : Nat) (h7 : Nat) (h8 : Nat) (k6 : ClassId) (sz : Nat) (v0 : Nat → Int32) (f6 : Nat → Int32) (x1 : Int32) (hv0 : zR rg_Postings v0) : Met l yX6_bitsOf (zw yX6_bitsOf cX6_bitsOf 2 (some .int)) { frames := 1, cells := 0, slots := 0, locals := 20 } (zPc dC dI adK adV [.ref h0, .int x1] sz [(h0, .inr (6, mX6 h1 h2 h3 h4 h5 h6 h7 h8 v0)), (h6, .inl (k6, 400, .inl f6))] [(k6, .int)]) (va_Qi (fun (r : Int32) (u : Nat → Int32) => True) (fun (u : Nat → Int32) (t : State) => ∃ (ww : Nat → Int64) (aa : Nat → Nat → Int32) (bb : Nat → Nat → Int64), va_P (dC, dI) vwCl [(h0, .inr (6, mX6 h1 h2 h3 h4 h5 h6 h7 h8 v0)), (h6, .inl (k6, 400, .inl f6))] t.heap ∧ va_K (dC, dI) vwCl [(k6, .int)] t ∧ va_D (va_A [(h0, .inr (6, mX6 h1 h2 h3 h4 h5 h6 h7 h8 v0)), (h6, .inl (k6, 400, .inl f6))] sz) [(h0, .inr (6, mX6 h1 h2 h3 h4 h5 h6 h7 h8 v0)), (h6, .inl (k6, 400, .inl f6))]) (va_A [(h0, .inr (6, mX6 h1 h2 h3 h4 h5 h6 h7 h8 v0)), (h6, .inl (k6, 400, .inl f6))] sz)) 0 0 (va_A [(h0, .inr (6, mX6 h1 h2 h3 h4 h5 h6 h7 h8 v0)), (h6, .inl (k6, 400, .inl f6))] sz) := by
  refine Met.ofW (cc := cX6_bitsOf) (maxL := 2) (ret := (some .int)) (by decide) rfl ?_
  intro p e s m args below meth c s₁ B hml hv
  obtain ⟨rfl, hsz, hP, hK, hD0, hE, hZ⟩ := hv
  have hx := B.exec
  have hb := B.bytes
  have hr := B.returns
  have hG : ∀ w ∈ zG, w.before _ s = true := fun w h => atoms_spec (ws := (zw yX6_bitsOf cX6_bitsOf 2 (some .int))) B.pre w (List.mem_cons_of_mem _ h)
  have hown : s.vm.findClass RX6 = some m.cls := findClass_of_methodNamed B.named
  have hlocks := B.notSynchronized

  subst hsz
  have hD := hD0.self (sz := s.heap.size)
  generalize hAe : va_A [(h0, .inr (6, mX6 h1 h2 h3 h4 h5 h6 h7 h8 v0)), (h6, .inl (k6, 400, .inl f6))] s.heap.size = A at hD hZ ⊢
  have hA : ∀ q : Nat, s.heap.size ≤ q → A q := fun q h => by rw [← hAe]; exact Or.inr h
  have hS : va_S A s.heap s.heap [] := va_S.rf
  have hl := lv_entry ([.ref h0, .int x1]) (n := 2) (Nat.le_of_ble_eq_true rfl)
  rw [lg_entry_eq]
  generalize (lg_sl ([.ref h0, .int x1]) ++ List.replicate (2 - (lg_sl ([.ref h0, .int x1])).length) Slot.unset).toArray = ls at hl ⊢
  have hl : lv_has ls 2 [(0, .ref h0), (1, .int x1)] := hl
  refine lv_iload_n hx hb dX6_bitsOf_0 rfl (lv_at hl 1 rfl) ?_
  have hPc := hP.sub (ws' := []) [] rfl
  have hDc := hD.sub (ws' := []) [] (by decide) rfl
  have hKc := hK.sub (tys' := []) [] rfl
  have hFc := va_free (wc := []) hD hS hA [] rfl
  refine va_calli (va_runS (As := [.int x1]) (rest := []) ⟨hx, hb, hml, hown, hG⟩ (sX6_isId_0 l dC dI adK adV s.heap.size x1) (va_cwS 1 hG (zgS zw165 zw166 zw146 zw167) rfl rfl rfl (by decide +kernel) ⟨Nat.le_of_ble_eq_true rfl, Nat.le_of_ble_eq_true rfl⟩) ⟨zPc_blind, zPc_pre hPc hKc hDc hE hS hFc hZ⟩ rfl rfl hl.1 rfl (lv_room (Nat.le_of_ble_eq_true rfl)) dX6_bitsOf_1 ⟨Nat.le_of_ble_eq_true rfl, Nat.le_of_ble_eq_true rfl⟩) hS (fun q _ h => hFc q h) hFc (fun r1_ u1_ t H1 locs ht hvm hw hB hz1 hk1 hS => ?_)
  have hw : (0 ≤ r1_.toInt ∧ r1_.toInt ≤ 1) ∧ (r1_.toInt = 1 → (0 ≤ x1.toInt ∧ x1.toInt ≤ 399)) := hw
  obtain ⟨b_, hX1_0⟩ := hw
  obtain ⟨w1_, a1_, b1_, hP1, hK1, hD1⟩ := hB
  rw [ht] at hP1
  obtain ⟨hP, hD⟩ := va_join (wr := [(h0, .inr (6, mX6 h1 h2 h3 h4 h5 h6 h7 h8 v0)), (h6, .inl (k6, 400, .inl f6))]) (w1 := []) hP hD [] [0, 1] rfl rfl (by decide) (by decide) hk1 hFc hP1 hD1
  have hP : va_P (dC, dI) vwCl [(h0, .inr (6, mX6 h1 h2 h3 h4 h5 h6 h7 h8 v0)), (h6, .inl (k6, 400, .inl f6))] H1 := hP.sub [0, 1] rfl
  have hD : va_D A [(h0, .inr (6, mX6 h1 h2 h3 h4 h5 h6 h7 h8 v0)), (h6, .inl (k6, 400, .inl f6))] := hD.sub [0, 1] (by decide) rfl
  generalize H1 = H at hP hS ⊢
  clear hz1
  refine lv_if_eq (tgt := 16) hx hb dX6_bitsOf_4 (by decide) (fun c_ => ?_) (fun c_ => ?_)
  · skip
    have b_ := zT_eq rfl zk_0 c_
    refine lv_iconst (v := 0) hx hb dX6_bitsOf_16 (by decide) ?_
    refine W.widen (k := 0) (n := 0) (by decide) (by decide) ?_
    have hpost : True := trivial
    have hP9 : va_P (dC, dI) vwCl [(h0, .inr (6, mX6 h1 h2 h3 h4 h5 h6 h7 h8 v0)), (h6, .inl (k6, 400, .inl f6))] H := hP
    have hD9 : va_D A [(h0, .inr (6, mX6 h1 h2 h3 h4 h5 h6 h7 h8 v0)), (h6, .inl (k6, 400, .inl f6))] := hD
    exact W.iret (v := 0) hx hb hr (fun t ht hW => ⟨⟨0, (fun _ => 0), rfl, hpost, (fun _ => 0), (fun _ => (fun _ => 0)), (fun _ => (fun _ => 0)), by rw [ht]; exact hP9, va_K.moved hW.alike hK, hD9⟩, hS.F ht⟩) hS.2.2 dX6_bitsOf_17
  · skip
    have b_ := zF_eq rfl zk_0 c_
    refine lv_aload_n hx hb dX6_bitsOf_7 rfl (lv_at hl 0 rfl) ?_
    refine va_get (D := (dC, dI)) (ci := 6) (v := .ref h6) (C := RX6) (T := TX6) (N := 12) hx hb hG zuX6 hown hK hP 0 rfl rfl 5 (by decide) (hG _ zw164) (fun _ h9 => h9) rfl dX6_bitsOf_8 ?_
    refine lv_iload_n hx hb dX6_bitsOf_11 rfl (lv_at hl 1 rfl) ?_
    refine va_iald hx hb hK hP 1 0 rfl rfl (zin_lit ⟨by omega, by omega⟩) dX6_bitsOf_12 ?_
    refine lv_topi (fun z12 e_z12 => ?_)
    refine lv_goto (tgt := 17) hx hb dX6_bitsOf_13 (by decide) ?_
    refine W.widen (k := 0) (n := 0) (by decide) (by decide) ?_
    have b_ : -2147483648 ≤ z12.toInt ∧ z12.toInt ≤ 2147483647 := ⟨zlo _, zhi _⟩
    have hpost : True := trivial
    have hP9 : va_P (dC, dI) vwCl [(h0, .inr (6, mX6 h1 h2 h3 h4 h5 h6 h7 h8 v0)), (h6, .inl (k6, 400, .inl f6))] H := hP
    have hD9 : va_D A [(h0, .inr (6, mX6 h1 h2 h3 h4 h5 h6 h7 h8 v0)), (h6, .inl (k6, 400, .inl f6))] := hD
    exact W.iret (v := z12) hx hb hr (fun t ht hW => ⟨⟨z12, (fun _ => 0), rfl, hpost, (fun _ => 0), (fun _ => (fun _ => 0)), (fun _ => (fun _ => 0)), by rw [ht]; exact hP9, va_K.moved hW.alike hK, hD9⟩, hS.F ht⟩) hS.2.2 dX6_bitsOf_17
set_option maxHeartbeats 8000000 in
set_option maxRecDepth 100000 in
theorem sX6_documentsOf_0 (l : Launch) (dC : Nat → ClassId) (dI : Nat → Nat → Nat) (adK adV : Nat → Nat) (h0 : Nat) (h7 : Nat) (h1 : Nat) (h2 : Nat) (h3 : Nat) (h4 : Nat) (h5 : Nat) (h6 : Nat) (h8 : Nat) (k7 : ClassId) (sz : Nat) (v0 : Nat → Int32) (f7 : Nat → Int32) (x1 : Int32) (hv0 : zR rg_Postings v0) : Met l yX6_documentsOf (zw yX6_documentsOf cX6_documentsOf 2 (some .int)) { frames := 1, cells := 0, slots := 0, locals := 20 } (zPc dC dI adK adV [.ref h0, .int x1] sz [(h0, .inr (6, mX6 h1 h2 h3 h4 h5 h6 h7 h8 v0)), (h7, .inl (k7, 400, .inl f7))] [(k7, .int)]) (va_Qi (fun (r : Int32) (u : Nat → Int32) => True) (fun (u : Nat → Int32) (t : State) => ∃ (ww : Nat → Int64) (aa : Nat → Nat → Int32) (bb : Nat → Nat → Int64), va_P (dC, dI) vwCl [(h0, .inr (6, mX6 h1 h2 h3 h4 h5 h6 h7 h8 v0)), (h7, .inl (k7, 400, .inl f7))] t.heap ∧ va_K (dC, dI) vwCl [(k7, .int)] t ∧ va_D (va_A [(h0, .inr (6, mX6 h1 h2 h3 h4 h5 h6 h7 h8 v0)), (h7, .inl (k7, 400, .inl f7))] sz) [(h0, .inr (6, mX6 h1 h2 h3 h4 h5 h6 h7 h8 v0)), (h7, .inl (k7, 400, .inl f7))]) (va_A [(h0, .inr (6, mX6 h1 h2 h3 h4 h5 h6 h7 h8 v0)), (h7, .inl (k7, 400, .inl f7))] sz)) 0 0 (va_A [(h0, .inr (6, mX6 h1 h2 h3 h4 h5 h6 h7 h8 v0)), (h7, .inl (k7, 400, .inl f7))] sz) := by
  refine Met.ofW (cc := cX6_documentsOf) (maxL := 2) (ret := (some .int)) (by decide) rfl ?_
  intro p e s m args below meth c s₁ B hml hv
  obtain ⟨rfl, hsz, hP, hK, hD0, hE, hZ⟩ := hv
  have hx := B.exec
  have hb := B.bytes
  have hr := B.returns
  have hG : ∀ w ∈ zG, w.before _ s = true := fun w h => atoms_spec (ws := (zw yX6_documentsOf cX6_documentsOf 2 (some .int))) B.pre w (List.mem_cons_of_mem _ h)
  have hown : s.vm.findClass RX6 = some m.cls := findClass_of_methodNamed B.named
  have hlocks := B.notSynchronized

  subst hsz
  have hD := hD0.self (sz := s.heap.size)
  generalize hAe : va_A [(h0, .inr (6, mX6 h1 h2 h3 h4 h5 h6 h7 h8 v0)), (h7, .inl (k7, 400, .inl f7))] s.heap.size = A at hD hZ ⊢
  have hA : ∀ q : Nat, s.heap.size ≤ q → A q := fun q h => by rw [← hAe]; exact Or.inr h
  have hS : va_S A s.heap s.heap [] := va_S.rf
  have hl := lv_entry ([.ref h0, .int x1]) (n := 2) (Nat.le_of_ble_eq_true rfl)
  rw [lg_entry_eq]
  generalize (lg_sl ([.ref h0, .int x1]) ++ List.replicate (2 - (lg_sl ([.ref h0, .int x1])).length) Slot.unset).toArray = ls at hl ⊢
  have hl : lv_has ls 2 [(0, .ref h0), (1, .int x1)] := hl
  refine lv_iload_n hx hb dX6_documentsOf_0 rfl (lv_at hl 1 rfl) ?_
  have hPc := hP.sub (ws' := []) [] rfl
  have hDc := hD.sub (ws' := []) [] (by decide) rfl
  have hKc := hK.sub (tys' := []) [] rfl
  have hFc := va_free (wc := []) hD hS hA [] rfl
  refine va_calli (va_runS (As := [.int x1]) (rest := []) ⟨hx, hb, hml, hown, hG⟩ (sX6_isId_0 l dC dI adK adV s.heap.size x1) (va_cwS 1 hG (zgS zw165 zw166 zw146 zw167) rfl rfl rfl (by decide +kernel) ⟨Nat.le_of_ble_eq_true rfl, Nat.le_of_ble_eq_true rfl⟩) ⟨zPc_blind, zPc_pre hPc hKc hDc hE hS hFc hZ⟩ rfl rfl hl.1 rfl (lv_room (Nat.le_of_ble_eq_true rfl)) dX6_documentsOf_1 ⟨Nat.le_of_ble_eq_true rfl, Nat.le_of_ble_eq_true rfl⟩) hS (fun q _ h => hFc q h) hFc (fun r1_ u1_ t H1 locs ht hvm hw hB hz1 hk1 hS => ?_)
  have hw : (0 ≤ r1_.toInt ∧ r1_.toInt ≤ 1) ∧ (r1_.toInt = 1 → (0 ≤ x1.toInt ∧ x1.toInt ≤ 399)) := hw
  obtain ⟨b_, hX1_0⟩ := hw
  obtain ⟨w1_, a1_, b1_, hP1, hK1, hD1⟩ := hB
  rw [ht] at hP1
  obtain ⟨hP, hD⟩ := va_join (wr := [(h0, .inr (6, mX6 h1 h2 h3 h4 h5 h6 h7 h8 v0)), (h7, .inl (k7, 400, .inl f7))]) (w1 := []) hP hD [] [0, 1] rfl rfl (by decide) (by decide) hk1 hFc hP1 hD1
  have hP : va_P (dC, dI) vwCl [(h0, .inr (6, mX6 h1 h2 h3 h4 h5 h6 h7 h8 v0)), (h7, .inl (k7, 400, .inl f7))] H1 := hP.sub [0, 1] rfl
  have hD : va_D A [(h0, .inr (6, mX6 h1 h2 h3 h4 h5 h6 h7 h8 v0)), (h7, .inl (k7, 400, .inl f7))] := hD.sub [0, 1] (by decide) rfl
  generalize H1 = H at hP hS ⊢
  clear hz1
  refine lv_if_eq (tgt := 16) hx hb dX6_documentsOf_4 (by decide) (fun c_ => ?_) (fun c_ => ?_)
  · skip
    have b_ := zT_eq rfl zk_0 c_
    refine lv_iconst (v := 0) hx hb dX6_documentsOf_16 (by decide) ?_
    refine W.widen (k := 0) (n := 0) (by decide) (by decide) ?_
    have hpost : True := trivial
    have hP9 : va_P (dC, dI) vwCl [(h0, .inr (6, mX6 h1 h2 h3 h4 h5 h6 h7 h8 v0)), (h7, .inl (k7, 400, .inl f7))] H := hP
    have hD9 : va_D A [(h0, .inr (6, mX6 h1 h2 h3 h4 h5 h6 h7 h8 v0)), (h7, .inl (k7, 400, .inl f7))] := hD
    exact W.iret (v := 0) hx hb hr (fun t ht hW => ⟨⟨0, (fun _ => 0), rfl, hpost, (fun _ => 0), (fun _ => (fun _ => 0)), (fun _ => (fun _ => 0)), by rw [ht]; exact hP9, va_K.moved hW.alike hK, hD9⟩, hS.F ht⟩) hS.2.2 dX6_documentsOf_17
  · skip
    have b_ := zF_eq rfl zk_0 c_
    refine lv_aload_n hx hb dX6_documentsOf_7 rfl (lv_at hl 0 rfl) ?_
    refine va_get (D := (dC, dI)) (ci := 6) (v := .ref h7) (C := RX6) (T := TX6) (N := 12) hx hb hG zuX6 hown hK hP 0 rfl rfl 6 (by decide) (hG _ zw168) (fun _ h9 => h9) rfl dX6_documentsOf_8 ?_
    refine lv_iload_n hx hb dX6_documentsOf_11 rfl (lv_at hl 1 rfl) ?_
    refine va_iald hx hb hK hP 1 0 rfl rfl (zin_lit ⟨by omega, by omega⟩) dX6_documentsOf_12 ?_
    refine lv_topi (fun z12 e_z12 => ?_)
    refine lv_goto (tgt := 17) hx hb dX6_documentsOf_13 (by decide) ?_
    refine W.widen (k := 0) (n := 0) (by decide) (by decide) ?_
    have b_ : -2147483648 ≤ z12.toInt ∧ z12.toInt ≤ 2147483647 := ⟨zlo _, zhi _⟩
    have hpost : True := trivial
    have hP9 : va_P (dC, dI) vwCl [(h0, .inr (6, mX6 h1 h2 h3 h4 h5 h6 h7 h8 v0)), (h7, .inl (k7, 400, .inl f7))] H := hP
    have hD9 : va_D A [(h0, .inr (6, mX6 h1 h2 h3 h4 h5 h6 h7 h8 v0)), (h7, .inl (k7, 400, .inl f7))] := hD
    exact W.iret (v := z12) hx hb hr (fun t ht hW => ⟨⟨z12, (fun _ => 0), rfl, hpost, (fun _ => 0), (fun _ => (fun _ => 0)), (fun _ => (fun _ => 0)), by rw [ht]; exact hP9, va_K.moved hW.alike hK, hD9⟩, hS.F ht⟩) hS.2.2 dX6_documentsOf_17
set_option maxHeartbeats 8000000 in
set_option maxRecDepth 100000 in
theorem sX6_latestOf_0 (l : Launch) (dC : Nat → ClassId) (dI : Nat → Nat → Nat) (adK adV : Nat → Nat) (h0 : Nat) (h8 : Nat) (h1 : Nat) (h2 : Nat) (h3 : Nat) (h4 : Nat) (h5 : Nat) (h6 : Nat) (h7 : Nat) (k8 : ClassId) (sz : Nat) (v0 : Nat → Int32) (f8 : Nat → Int32) (x1 : Int32) (hv0 : zR rg_Postings v0) : Met l yX6_latestOf (zw yX6_latestOf cX6_latestOf 2 (some .int)) { frames := 1, cells := 0, slots := 0, locals := 20 } (zPc dC dI adK adV [.ref h0, .int x1] sz [(h0, .inr (6, mX6 h1 h2 h3 h4 h5 h6 h7 h8 v0)), (h8, .inl (k8, 400, .inl f8))] [(k8, .int)]) (va_Qi (fun (r : Int32) (u : Nat → Int32) => True) (fun (u : Nat → Int32) (t : State) => ∃ (ww : Nat → Int64) (aa : Nat → Nat → Int32) (bb : Nat → Nat → Int64), va_P (dC, dI) vwCl [(h0, .inr (6, mX6 h1 h2 h3 h4 h5 h6 h7 h8 v0)), (h8, .inl (k8, 400, .inl f8))] t.heap ∧ va_K (dC, dI) vwCl [(k8, .int)] t ∧ va_D (va_A [(h0, .inr (6, mX6 h1 h2 h3 h4 h5 h6 h7 h8 v0)), (h8, .inl (k8, 400, .inl f8))] sz) [(h0, .inr (6, mX6 h1 h2 h3 h4 h5 h6 h7 h8 v0)), (h8, .inl (k8, 400, .inl f8))]) (va_A [(h0, .inr (6, mX6 h1 h2 h3 h4 h5 h6 h7 h8 v0)), (h8, .inl (k8, 400, .inl f8))] sz)) 0 0 (va_A [(h0, .inr (6, mX6 h1 h2 h3 h4 h5 h6 h7 h8 v0)), (h8, .inl (k8, 400, .inl f8))] sz) := by
  refine Met.ofW (cc := cX6_latestOf) (maxL := 2) (ret := (some .int)) (by decide) rfl ?_
  intro p e s m args below meth c s₁ B hml hv
  obtain ⟨rfl, hsz, hP, hK, hD0, hE, hZ⟩ := hv
  have hx := B.exec
  have hb := B.bytes
  have hr := B.returns
  have hG : ∀ w ∈ zG, w.before _ s = true := fun w h => atoms_spec (ws := (zw yX6_latestOf cX6_latestOf 2 (some .int))) B.pre w (List.mem_cons_of_mem _ h)
  have hown : s.vm.findClass RX6 = some m.cls := findClass_of_methodNamed B.named
  have hlocks := B.notSynchronized

  subst hsz
  have hD := hD0.self (sz := s.heap.size)
  generalize hAe : va_A [(h0, .inr (6, mX6 h1 h2 h3 h4 h5 h6 h7 h8 v0)), (h8, .inl (k8, 400, .inl f8))] s.heap.size = A at hD hZ ⊢
  have hA : ∀ q : Nat, s.heap.size ≤ q → A q := fun q h => by rw [← hAe]; exact Or.inr h
  have hS : va_S A s.heap s.heap [] := va_S.rf
  have hl := lv_entry ([.ref h0, .int x1]) (n := 2) (Nat.le_of_ble_eq_true rfl)
  rw [lg_entry_eq]
  generalize (lg_sl ([.ref h0, .int x1]) ++ List.replicate (2 - (lg_sl ([.ref h0, .int x1])).length) Slot.unset).toArray = ls at hl ⊢
  have hl : lv_has ls 2 [(0, .ref h0), (1, .int x1)] := hl
  refine lv_iload_n hx hb dX6_latestOf_0 rfl (lv_at hl 1 rfl) ?_
  have hPc := hP.sub (ws' := []) [] rfl
  have hDc := hD.sub (ws' := []) [] (by decide) rfl
  have hKc := hK.sub (tys' := []) [] rfl
  have hFc := va_free (wc := []) hD hS hA [] rfl
  refine va_calli (va_runS (As := [.int x1]) (rest := []) ⟨hx, hb, hml, hown, hG⟩ (sX6_isId_0 l dC dI adK adV s.heap.size x1) (va_cwS 1 hG (zgS zw165 zw166 zw146 zw167) rfl rfl rfl (by decide +kernel) ⟨Nat.le_of_ble_eq_true rfl, Nat.le_of_ble_eq_true rfl⟩) ⟨zPc_blind, zPc_pre hPc hKc hDc hE hS hFc hZ⟩ rfl rfl hl.1 rfl (lv_room (Nat.le_of_ble_eq_true rfl)) dX6_latestOf_1 ⟨Nat.le_of_ble_eq_true rfl, Nat.le_of_ble_eq_true rfl⟩) hS (fun q _ h => hFc q h) hFc (fun r1_ u1_ t H1 locs ht hvm hw hB hz1 hk1 hS => ?_)
  have hw : (0 ≤ r1_.toInt ∧ r1_.toInt ≤ 1) ∧ (r1_.toInt = 1 → (0 ≤ x1.toInt ∧ x1.toInt ≤ 399)) := hw
  obtain ⟨b_, hX1_0⟩ := hw
  obtain ⟨w1_, a1_, b1_, hP1, hK1, hD1⟩ := hB
  rw [ht] at hP1
  obtain ⟨hP, hD⟩ := va_join (wr := [(h0, .inr (6, mX6 h1 h2 h3 h4 h5 h6 h7 h8 v0)), (h8, .inl (k8, 400, .inl f8))]) (w1 := []) hP hD [] [0, 1] rfl rfl (by decide) (by decide) hk1 hFc hP1 hD1
  have hP : va_P (dC, dI) vwCl [(h0, .inr (6, mX6 h1 h2 h3 h4 h5 h6 h7 h8 v0)), (h8, .inl (k8, 400, .inl f8))] H1 := hP.sub [0, 1] rfl
  have hD : va_D A [(h0, .inr (6, mX6 h1 h2 h3 h4 h5 h6 h7 h8 v0)), (h8, .inl (k8, 400, .inl f8))] := hD.sub [0, 1] (by decide) rfl
  generalize H1 = H at hP hS ⊢
  clear hz1
  refine lv_if_eq (tgt := 18) hx hb dX6_latestOf_4 (by decide) (fun c_ => ?_) (fun c_ => ?_)
  · skip
    have b_ := zT_eq rfl zk_0 c_
    refine lv_iconst (v := (-1)) hx hb dX6_latestOf_18 (by decide) ?_
    refine W.widen (k := 0) (n := 0) (by decide) (by decide) ?_
    have hpost : True := trivial
    have hP9 : va_P (dC, dI) vwCl [(h0, .inr (6, mX6 h1 h2 h3 h4 h5 h6 h7 h8 v0)), (h8, .inl (k8, 400, .inl f8))] H := hP
    have hD9 : va_D A [(h0, .inr (6, mX6 h1 h2 h3 h4 h5 h6 h7 h8 v0)), (h8, .inl (k8, 400, .inl f8))] := hD
    exact W.iret (v := (-1)) hx hb hr (fun t ht hW => ⟨⟨(-1), (fun _ => 0), rfl, hpost, (fun _ => 0), (fun _ => (fun _ => 0)), (fun _ => (fun _ => 0)), by rw [ht]; exact hP9, va_K.moved hW.alike hK, hD9⟩, hS.F ht⟩) hS.2.2 dX6_latestOf_19
  · skip
    have b_ := zF_eq rfl zk_0 c_
    refine lv_aload_n hx hb dX6_latestOf_7 rfl (lv_at hl 0 rfl) ?_
    refine va_get (D := (dC, dI)) (ci := 6) (v := .ref h8) (C := RX6) (T := TX6) (N := 12) hx hb hG zuX6 hown hK hP 0 rfl rfl 7 (by decide) (hG _ zw169) (fun _ h9 => h9) rfl dX6_latestOf_8 ?_
    refine lv_iload_n hx hb dX6_latestOf_11 rfl (lv_at hl 1 rfl) ?_
    refine va_iald hx hb hK hP 1 0 rfl rfl (zin_lit ⟨by omega, by omega⟩) dX6_latestOf_12 ?_
    refine lv_topi (fun z12 e_z12 => ?_)
    refine lv_iconst (v := 1) hx hb dX6_latestOf_13 (by decide) ?_
    have b_ : -2147483648 ≤ z12.toInt ∧ z12.toInt ≤ 2147483647 := ⟨zlo _, zhi _⟩
    refine lv_isub hx hb dX6_latestOf_14 ?_
    refine lv_topi (fun z14 e_z14 => ?_)
    refine lv_goto (tgt := 19) hx hb dX6_latestOf_15 (by decide) ?_
    refine W.widen (k := 0) (n := 0) (by decide) (by decide) ?_
    have b_ : -2147483648 ≤ z14.toInt ∧ z14.toInt ≤ 2147483647 := ⟨zlo _, zhi _⟩
    have hpost : True := trivial
    have hP9 : va_P (dC, dI) vwCl [(h0, .inr (6, mX6 h1 h2 h3 h4 h5 h6 h7 h8 v0)), (h8, .inl (k8, 400, .inl f8))] H := hP
    have hD9 : va_D A [(h0, .inr (6, mX6 h1 h2 h3 h4 h5 h6 h7 h8 v0)), (h8, .inl (k8, 400, .inl f8))] := hD
    exact W.iret (v := z14) hx hb hr (fun t ht hW => ⟨⟨z14, (fun _ => 0), rfl, hpost, (fun _ => 0), (fun _ => (fun _ => 0)), (fun _ => (fun _ => 0)), by rw [ht]; exact hP9, va_K.moved hW.alike hK, hD9⟩, hS.F ht⟩) hS.2.2 dX6_latestOf_19
set_option maxHeartbeats 8000000 in
set_option maxRecDepth 100000 in
theorem sX6_firstChunkOf_0 (l : Launch) (dC : Nat → ClassId) (dI : Nat → Nat → Nat) (adK adV : Nat → Nat) (h0 : Nat) (h6 : Nat) (h4 : Nat) (h1 : Nat) (h2 : Nat) (h3 : Nat) (h5 : Nat) (h7 : Nat) (h8 : Nat) (k6 : ClassId) (k4 : ClassId) (sz : Nat) (v0 : Nat → Int32) (f6 : Nat → Int32) (f4 : Nat → Int32) (x1 : Int32) (hv0 : zR rg_Postings v0) : Met l yX6_firstChunkOf (zw yX6_firstChunkOf cX6_firstChunkOf 2 (some .int)) { frames := 1, cells := 0, slots := 0, locals := 20 } (zPc dC dI adK adV [.ref h0, .int x1] sz [(h0, .inr (6, mX6 h1 h2 h3 h4 h5 h6 h7 h8 v0)), (h6, .inl (k6, 400, .inl f6)), (h4, .inl (k4, 400, .inl f4))] [(k6, .int), (k4, .int)]) (va_Qi (fun (r : Int32) (u : Nat → Int32) => True) (fun (u : Nat → Int32) (t : State) => ∃ (ww : Nat → Int64) (aa : Nat → Nat → Int32) (bb : Nat → Nat → Int64), va_P (dC, dI) vwCl [(h0, .inr (6, mX6 h1 h2 h3 h4 h5 h6 h7 h8 v0)), (h6, .inl (k6, 400, .inl f6)), (h4, .inl (k4, 400, .inl f4))] t.heap ∧ va_K (dC, dI) vwCl [(k6, .int), (k4, .int)] t ∧ va_D (va_A [(h0, .inr (6, mX6 h1 h2 h3 h4 h5 h6 h7 h8 v0)), (h6, .inl (k6, 400, .inl f6)), (h4, .inl (k4, 400, .inl f4))] sz) [(h0, .inr (6, mX6 h1 h2 h3 h4 h5 h6 h7 h8 v0)), (h6, .inl (k6, 400, .inl f6)), (h4, .inl (k4, 400, .inl f4))]) (va_A [(h0, .inr (6, mX6 h1 h2 h3 h4 h5 h6 h7 h8 v0)), (h6, .inl (k6, 400, .inl f6)), (h4, .inl (k4, 400, .inl f4))] sz)) 0 0 (va_A [(h0, .inr (6, mX6 h1 h2 h3 h4 h5 h6 h7 h8 v0)), (h6, .inl (k6, 400, .inl f6)), (h4, .inl (k4, 400, .inl f4))] sz) := by
  refine Met.ofW (cc := cX6_firstChunkOf) (maxL := 2) (ret := (some .int)) (by decide) rfl ?_
  intro p e s m args below meth c s₁ B hml hv
  obtain ⟨rfl, hsz, hP, hK, hD0, hE, hZ⟩ := hv
  have hx := B.exec
  have hb := B.bytes
  have hr := B.returns
  have hG : ∀ w ∈ zG, w.before _ s = true := fun w h => atoms_spec (ws := (zw yX6_firstChunkOf cX6_firstChunkOf 2 (some .int))) B.pre w (List.mem_cons_of_mem _ h)
  have hown : s.vm.findClass RX6 = some m.cls := findClass_of_methodNamed B.named
  have hlocks := B.notSynchronized

  subst hsz
  have hD := hD0.self (sz := s.heap.size)
  generalize hAe : va_A [(h0, .inr (6, mX6 h1 h2 h3 h4 h5 h6 h7 h8 v0)), (h6, .inl (k6, 400, .inl f6)), (h4, .inl (k4, 400, .inl f4))] s.heap.size = A at hD hZ ⊢
  have hA : ∀ q : Nat, s.heap.size ≤ q → A q := fun q h => by rw [← hAe]; exact Or.inr h
  have hS : va_S A s.heap s.heap [] := va_S.rf
  have hl := lv_entry ([.ref h0, .int x1]) (n := 2) (Nat.le_of_ble_eq_true rfl)
  rw [lg_entry_eq]
  generalize (lg_sl ([.ref h0, .int x1]) ++ List.replicate (2 - (lg_sl ([.ref h0, .int x1])).length) Slot.unset).toArray = ls at hl ⊢
  have hl : lv_has ls 2 [(0, .ref h0), (1, .int x1)] := hl
  refine lv_iload_n hx hb dX6_firstChunkOf_0 rfl (lv_at hl 1 rfl) ?_
  have hPc := hP.sub (ws' := []) [] rfl
  have hDc := hD.sub (ws' := []) [] (by decide) rfl
  have hKc := hK.sub (tys' := []) [] rfl
  have hFc := va_free (wc := []) hD hS hA [] rfl
  refine va_calli (va_runS (As := [.int x1]) (rest := []) ⟨hx, hb, hml, hown, hG⟩ (sX6_isId_0 l dC dI adK adV s.heap.size x1) (va_cwS 1 hG (zgS zw165 zw166 zw146 zw167) rfl rfl rfl (by decide +kernel) ⟨Nat.le_of_ble_eq_true rfl, Nat.le_of_ble_eq_true rfl⟩) ⟨zPc_blind, zPc_pre hPc hKc hDc hE hS hFc hZ⟩ rfl rfl hl.1 rfl (lv_room (Nat.le_of_ble_eq_true rfl)) dX6_firstChunkOf_1 ⟨Nat.le_of_ble_eq_true rfl, Nat.le_of_ble_eq_true rfl⟩) hS (fun q _ h => hFc q h) hFc (fun r1_ u1_ t H1 locs ht hvm hw hB hz1 hk1 hS => ?_)
  have hw : (0 ≤ r1_.toInt ∧ r1_.toInt ≤ 1) ∧ (r1_.toInt = 1 → (0 ≤ x1.toInt ∧ x1.toInt ≤ 399)) := hw
  obtain ⟨b_, hX1_0⟩ := hw
  obtain ⟨w1_, a1_, b1_, hP1, hK1, hD1⟩ := hB
  rw [ht] at hP1
  obtain ⟨hP, hD⟩ := va_join (wr := [(h0, .inr (6, mX6 h1 h2 h3 h4 h5 h6 h7 h8 v0)), (h6, .inl (k6, 400, .inl f6)), (h4, .inl (k4, 400, .inl f4))]) (w1 := []) hP hD [] [0, 1, 2] rfl rfl (by decide) (by decide) hk1 hFc hP1 hD1
  have hP : va_P (dC, dI) vwCl [(h0, .inr (6, mX6 h1 h2 h3 h4 h5 h6 h7 h8 v0)), (h6, .inl (k6, 400, .inl f6)), (h4, .inl (k4, 400, .inl f4))] H1 := hP.sub [0, 1, 2] rfl
  have hD : va_D A [(h0, .inr (6, mX6 h1 h2 h3 h4 h5 h6 h7 h8 v0)), (h6, .inl (k6, 400, .inl f6)), (h4, .inl (k4, 400, .inl f4))] := hD.sub [0, 1, 2] (by decide) rfl
  generalize H1 = H at hP hS ⊢
  clear hz1
  refine lv_if_eq (tgt := 25) hx hb dX6_firstChunkOf_4 (by decide) (fun c_ => ?_) (fun c_ => ?_)
  · skip
    have b_ := zT_eq rfl zk_0 c_
    refine lv_iconst (v := (-1)) hx hb dX6_firstChunkOf_25 (by decide) ?_
    refine W.widen (k := 0) (n := 0) (by decide) (by decide) ?_
    have hpost : True := trivial
    have hP9 : va_P (dC, dI) vwCl [(h0, .inr (6, mX6 h1 h2 h3 h4 h5 h6 h7 h8 v0)), (h6, .inl (k6, 400, .inl f6)), (h4, .inl (k4, 400, .inl f4))] H := hP
    have hD9 : va_D A [(h0, .inr (6, mX6 h1 h2 h3 h4 h5 h6 h7 h8 v0)), (h6, .inl (k6, 400, .inl f6)), (h4, .inl (k4, 400, .inl f4))] := hD
    exact W.iret (v := (-1)) hx hb hr (fun t ht hW => ⟨⟨(-1), (fun _ => 0), rfl, hpost, (fun _ => 0), (fun _ => (fun _ => 0)), (fun _ => (fun _ => 0)), by rw [ht]; exact hP9, va_K.moved hW.alike hK, hD9⟩, hS.F ht⟩) hS.2.2 dX6_firstChunkOf_26
  · skip
    have b_ := zF_eq rfl zk_0 c_
    refine lv_aload_n hx hb dX6_firstChunkOf_7 rfl (lv_at hl 0 rfl) ?_
    refine va_get (D := (dC, dI)) (ci := 6) (v := .ref h6) (C := RX6) (T := TX6) (N := 12) hx hb hG zuX6 hown hK hP 0 rfl rfl 5 (by decide) (hG _ zw164) (fun _ h9 => h9) rfl dX6_firstChunkOf_8 ?_
    refine lv_iload_n hx hb dX6_firstChunkOf_11 rfl (lv_at hl 1 rfl) ?_
    refine va_iald hx hb hK hP 1 0 rfl rfl (zin_lit ⟨by omega, by omega⟩) dX6_firstChunkOf_12 ?_
    refine lv_topi (fun z12 e_z12 => ?_)
    have b_ : -2147483648 ≤ z12.toInt ∧ z12.toInt ≤ 2147483647 := ⟨zlo _, zhi _⟩
    refine lv_if_le (tgt := 25) hx hb dX6_firstChunkOf_13 (by decide) (fun c_ => ?_) (fun c_ => ?_)
    · skip
      have b_ := zT_le rfl zk_0 c_
      refine lv_iconst (v := (-1)) hx hb dX6_firstChunkOf_25 (by decide) ?_
      refine W.widen (k := 0) (n := 0) (by decide) (by decide) ?_
      have hpost : True := trivial
      have hP9 : va_P (dC, dI) vwCl [(h0, .inr (6, mX6 h1 h2 h3 h4 h5 h6 h7 h8 v0)), (h6, .inl (k6, 400, .inl f6)), (h4, .inl (k4, 400, .inl f4))] H := hP
      have hD9 : va_D A [(h0, .inr (6, mX6 h1 h2 h3 h4 h5 h6 h7 h8 v0)), (h6, .inl (k6, 400, .inl f6)), (h4, .inl (k4, 400, .inl f4))] := hD
      exact W.iret (v := (-1)) hx hb hr (fun t ht hW => ⟨⟨(-1), (fun _ => 0), rfl, hpost, (fun _ => 0), (fun _ => (fun _ => 0)), (fun _ => (fun _ => 0)), by rw [ht]; exact hP9, va_K.moved hW.alike hK, hD9⟩, hS.F ht⟩) hS.2.2 dX6_firstChunkOf_26
    · skip
      have b_ := zF_le rfl zk_0 c_
      refine lv_aload_n hx hb dX6_firstChunkOf_16 rfl (lv_at hl 0 rfl) ?_
      refine va_get (D := (dC, dI)) (ci := 6) (v := .ref h4) (C := RX6) (T := TX6) (N := 12) hx hb hG zuX6 hown hK hP 0 rfl rfl 3 (by decide) (hG _ zw170) (fun _ h9 => h9) rfl dX6_firstChunkOf_17 ?_
      refine lv_iload_n hx hb dX6_firstChunkOf_20 rfl (lv_at hl 1 rfl) ?_
      refine va_iald hx hb hK hP 2 1 rfl rfl (zin_lit ⟨by omega, by omega⟩) dX6_firstChunkOf_21 ?_
      refine lv_topi (fun z21 e_z21 => ?_)
      refine lv_goto (tgt := 26) hx hb dX6_firstChunkOf_22 (by decide) ?_
      refine W.widen (k := 0) (n := 0) (by decide) (by decide) ?_
      have b_ : -2147483648 ≤ z21.toInt ∧ z21.toInt ≤ 2147483647 := ⟨zlo _, zhi _⟩
      have hpost : True := trivial
      have hP9 : va_P (dC, dI) vwCl [(h0, .inr (6, mX6 h1 h2 h3 h4 h5 h6 h7 h8 v0)), (h6, .inl (k6, 400, .inl f6)), (h4, .inl (k4, 400, .inl f4))] H := hP
      have hD9 : va_D A [(h0, .inr (6, mX6 h1 h2 h3 h4 h5 h6 h7 h8 v0)), (h6, .inl (k6, 400, .inl f6)), (h4, .inl (k4, 400, .inl f4))] := hD
      exact W.iret (v := z21) hx hb hr (fun t ht hW => ⟨⟨z21, (fun _ => 0), rfl, hpost, (fun _ => 0), (fun _ => (fun _ => 0)), (fun _ => (fun _ => 0)), by rw [ht]; exact hP9, va_K.moved hW.alike hK, hD9⟩, hS.F ht⟩) hS.2.2 dX6_firstChunkOf_26
set_option maxHeartbeats 8000000 in
set_option maxRecDepth 100000 in
theorem sX6_chunkBehind_0 (l : Launch) (dC : Nat → ClassId) (dI : Nat → Nat → Nat) (adK adV : Nat → Nat) (h0 : Nat) (h3 : Nat) (h1 : Nat) (h2 : Nat) (h4 : Nat) (h5 : Nat) (h6 : Nat) (h7 : Nat) (h8 : Nat) (k3 : ClassId) (sz : Nat) (v0 : Nat → Int32) (f3 : Nat → Int32) (x1 : Int32) (hv0 : zR rg_Postings v0) : Met l yX6_chunkBehind (zw yX6_chunkBehind cX6_chunkBehind 2 (some .int)) { frames := 0, cells := 0, slots := 0, locals := 0 } (zPc dC dI adK adV [.ref h0, .int x1] sz [(h0, .inr (6, mX6 h1 h2 h3 h4 h5 h6 h7 h8 v0)), (h3, .inl (k3, 833, .inl f3))] [(k3, .int)]) (va_Qi (fun (r : Int32) (u : Nat → Int32) => True) (fun (u : Nat → Int32) (t : State) => ∃ (ww : Nat → Int64) (aa : Nat → Nat → Int32) (bb : Nat → Nat → Int64), va_P (dC, dI) vwCl [(h0, .inr (6, mX6 h1 h2 h3 h4 h5 h6 h7 h8 v0)), (h3, .inl (k3, 833, .inl f3))] t.heap ∧ va_K (dC, dI) vwCl [(k3, .int)] t ∧ va_D (va_A [(h0, .inr (6, mX6 h1 h2 h3 h4 h5 h6 h7 h8 v0)), (h3, .inl (k3, 833, .inl f3))] sz) [(h0, .inr (6, mX6 h1 h2 h3 h4 h5 h6 h7 h8 v0)), (h3, .inl (k3, 833, .inl f3))]) (va_A [(h0, .inr (6, mX6 h1 h2 h3 h4 h5 h6 h7 h8 v0)), (h3, .inl (k3, 833, .inl f3))] sz)) 0 0 (va_A [(h0, .inr (6, mX6 h1 h2 h3 h4 h5 h6 h7 h8 v0)), (h3, .inl (k3, 833, .inl f3))] sz) := by
  refine Met.ofW (cc := cX6_chunkBehind) (maxL := 2) (ret := (some .int)) (by decide) rfl ?_
  intro p e s m args below meth c s₁ B hml hv
  obtain ⟨rfl, hsz, hP, hK, hD0, hE, hZ⟩ := hv
  have hx := B.exec
  have hb := B.bytes
  have hr := B.returns
  have hG : ∀ w ∈ zG, w.before _ s = true := fun w h => atoms_spec (ws := (zw yX6_chunkBehind cX6_chunkBehind 2 (some .int))) B.pre w (List.mem_cons_of_mem _ h)
  have hown : s.vm.findClass RX6 = some m.cls := findClass_of_methodNamed B.named
  have hlocks := B.notSynchronized

  subst hsz
  have hD := hD0.self (sz := s.heap.size)
  generalize hAe : va_A [(h0, .inr (6, mX6 h1 h2 h3 h4 h5 h6 h7 h8 v0)), (h3, .inl (k3, 833, .inl f3))] s.heap.size = A at hD hZ ⊢
  have hA : ∀ q : Nat, s.heap.size ≤ q → A q := fun q h => by rw [← hAe]; exact Or.inr h
  have hS : va_S A s.heap s.heap [] := va_S.rf
  have hl := lv_entry ([.ref h0, .int x1]) (n := 2) (Nat.le_of_ble_eq_true rfl)
  rw [lg_entry_eq]
  generalize (lg_sl ([.ref h0, .int x1]) ++ List.replicate (2 - (lg_sl ([.ref h0, .int x1])).length) Slot.unset).toArray = ls at hl ⊢
  have hl : lv_has ls 2 [(0, .ref h0), (1, .int x1)] := hl
  refine lv_iload_n hx hb dX6_chunkBehind_0 rfl (lv_at hl 1 rfl) ?_
  have b_ : -2147483648 ≤ x1.toInt ∧ x1.toInt ≤ 2147483647 := ⟨zlo _, zhi _⟩
  refine lv_if_lt (tgt := 21) hx hb dX6_chunkBehind_1 (by decide) (fun c_ => ?_) (fun c_ => ?_)
  · skip
    have b_ := zT_lt rfl zk_0 c_
    refine lv_iconst (v := (-1)) hx hb dX6_chunkBehind_21 (by decide) ?_
    refine W.widen (k := 0) (n := 0) (by decide) (by decide) ?_
    have hpost : True := trivial
    have hP9 : va_P (dC, dI) vwCl [(h0, .inr (6, mX6 h1 h2 h3 h4 h5 h6 h7 h8 v0)), (h3, .inl (k3, 833, .inl f3))] s.heap := hP
    have hD9 : va_D A [(h0, .inr (6, mX6 h1 h2 h3 h4 h5 h6 h7 h8 v0)), (h3, .inl (k3, 833, .inl f3))] := hD
    exact W.iret (v := (-1)) hx hb hr (fun t ht hW => ⟨⟨(-1), (fun _ => 0), rfl, hpost, (fun _ => 0), (fun _ => (fun _ => 0)), (fun _ => (fun _ => 0)), by rw [ht]; exact hP9, va_K.moved hW.alike hK, hD9⟩, hS.F ht⟩) hS.2.2 dX6_chunkBehind_22
  · skip
    have b_ := zF_lt rfl zk_0 c_
    refine lv_iload_n hx hb dX6_chunkBehind_4 rfl (lv_at hl 1 rfl) ?_
    refine lv_aload_n hx hb dX6_chunkBehind_5 rfl (lv_at hl 0 rfl) ?_
    have b_ : 0 ≤ (v0 8).toInt ∧ (v0 8).toInt ≤ 833 := hv0 8
    refine va_get (D := (dC, dI)) (ci := 6) (v := .int (v0 8)) (C := RX6) (T := TX6) (N := 12) hx hb hG zuX6 hown hK hP 0 rfl rfl 8 (by decide) (hG _ zw171) (fun _ h9 => h9) rfl dX6_chunkBehind_6 ?_
    refine lv_icmp_ge (tgt := 21) hx hb dX6_chunkBehind_9 (by decide) (fun c_ => ?_) (fun c_ => ?_)
    · skip
      have b_ := zT_ge rfl rfl c_
      refine lv_iconst (v := (-1)) hx hb dX6_chunkBehind_21 (by decide) ?_
      refine W.widen (k := 0) (n := 0) (by decide) (by decide) ?_
      have hpost : True := trivial
      have hP9 : va_P (dC, dI) vwCl [(h0, .inr (6, mX6 h1 h2 h3 h4 h5 h6 h7 h8 v0)), (h3, .inl (k3, 833, .inl f3))] s.heap := hP
      have hD9 : va_D A [(h0, .inr (6, mX6 h1 h2 h3 h4 h5 h6 h7 h8 v0)), (h3, .inl (k3, 833, .inl f3))] := hD
      exact W.iret (v := (-1)) hx hb hr (fun t ht hW => ⟨⟨(-1), (fun _ => 0), rfl, hpost, (fun _ => 0), (fun _ => (fun _ => 0)), (fun _ => (fun _ => 0)), by rw [ht]; exact hP9, va_K.moved hW.alike hK, hD9⟩, hS.F ht⟩) hS.2.2 dX6_chunkBehind_22
    · skip
      have b_ := zF_ge rfl rfl c_
      refine lv_aload_n hx hb dX6_chunkBehind_12 rfl (lv_at hl 0 rfl) ?_
      refine va_get (D := (dC, dI)) (ci := 6) (v := .ref h3) (C := RX6) (T := TX6) (N := 12) hx hb hG zuX6 hown hK hP 0 rfl rfl 2 (by decide) (hG _ zw172) (fun _ h9 => h9) rfl dX6_chunkBehind_13 ?_
      refine lv_iload_n hx hb dX6_chunkBehind_16 rfl (lv_at hl 1 rfl) ?_
      refine va_iald hx hb hK hP 1 0 rfl rfl (zin_lit ⟨by omega, by omega⟩) dX6_chunkBehind_17 ?_
      refine lv_topi (fun z17 e_z17 => ?_)
      refine lv_goto (tgt := 22) hx hb dX6_chunkBehind_18 (by decide) ?_
      refine W.widen (k := 0) (n := 0) (by decide) (by decide) ?_
      have b_ : -2147483648 ≤ z17.toInt ∧ z17.toInt ≤ 2147483647 := ⟨zlo _, zhi _⟩
      have hpost : True := trivial
      have hP9 : va_P (dC, dI) vwCl [(h0, .inr (6, mX6 h1 h2 h3 h4 h5 h6 h7 h8 v0)), (h3, .inl (k3, 833, .inl f3))] s.heap := hP
      have hD9 : va_D A [(h0, .inr (6, mX6 h1 h2 h3 h4 h5 h6 h7 h8 v0)), (h3, .inl (k3, 833, .inl f3))] := hD
      exact W.iret (v := z17) hx hb hr (fun t ht hW => ⟨⟨z17, (fun _ => 0), rfl, hpost, (fun _ => 0), (fun _ => (fun _ => 0)), (fun _ => (fun _ => 0)), by rw [ht]; exact hP9, va_K.moved hW.alike hK, hD9⟩, hS.F ht⟩) hS.2.2 dX6_chunkBehind_22
