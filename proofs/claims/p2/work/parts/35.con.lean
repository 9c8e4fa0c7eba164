set_option maxHeartbeats 8000000 in
set_option maxRecDepth 100000 in
theorem sX13_isOr_0 (l : Launch) (dC : Nat → ClassId) (dI : Nat → Nat → Nat) (adK adV : Nat → Nat) (h0 : Nat) (q0 : Nat → Nat) (k1 : ClassId) (sz : Nat) (v0 : Nat → Int32) (f1 : Nat → Int32) (hv0 : zR rg_Model v0) : Met l yX13_isOr (zw yX13_isOr cX13_isOr 1 (some .boolean)) { frames := 3, cells := 0, slots := 0, locals := 66 } (zPc dC dI adK adV [.ref h0] sz [(h0, .inr (13, mX13 q0 v0)), ((q0 0), .inl (k1, 600, .inl f1))] [(k1, .byte)]) (va_Qi (fun (r : Int32) (u : Nat → Int32) => (0 ≤ r.toInt ∧ r.toInt ≤ 1) ∧ (r.toInt = 1 → (v0 36).toInt = 1)) (fun (u : Nat → Int32) (t : State) => ∃ (ww : Nat → Int64) (aa : Nat → Nat → Int32) (bb : Nat → Nat → Int64), va_P (dC, dI) vwCl [(h0, .inr (13, mX13 q0 v0)), ((q0 0), .inl (k1, 600, .inl f1))] t.heap ∧ va_K (dC, dI) vwCl [(k1, .byte)] t ∧ va_D (va_A [(h0, .inr (13, mX13 q0 v0)), ((q0 0), .inl (k1, 600, .inl f1))] sz) [(h0, .inr (13, mX13 q0 v0)), ((q0 0), .inl (k1, 600, .inl f1))]) (va_A [(h0, .inr (13, mX13 q0 v0)), ((q0 0), .inl (k1, 600, .inl f1))] sz)) 0 0 (va_A [(h0, .inr (13, mX13 q0 v0)), ((q0 0), .inl (k1, 600, .inl f1))] sz) := by
  refine Met.ofW (cc := cX13_isOr) (maxL := 1) (ret := (some .boolean)) (by decide) rfl ?_
  intro p e s m args below meth c s₁ B hml hv
  obtain ⟨rfl, hsz, hP, hK, hD0, hE, hZ⟩ := hv
  have hx := B.exec
  have hb := B.bytes
  have hr := B.returns
  have hG : ∀ w ∈ zG, w.before _ s = true := fun w h => atoms_spec (ws := (zw yX13_isOr cX13_isOr 1 (some .boolean))) B.pre w (List.mem_cons_of_mem _ h)
  have hown : s.vm.findClass RX13 = some m.cls := findClass_of_methodNamed B.named
  have hlocks := B.notSynchronized
  subst hsz
  have hD := hD0.self (sz := s.heap.size)
  generalize hAe : va_A [(h0, .inr (13, mX13 q0 v0)), ((q0 0), .inl (k1, 600, .inl f1))] s.heap.size = A at hD hZ ⊢
  have hA : ∀ q : Nat, s.heap.size ≤ q → A q := fun q h => by rw [← hAe]; exact Or.inr h
  have hS : va_S A s.heap s.heap [] := va_S.rf
  have hl := lv_entry ([.ref h0]) (n := 1) (Nat.le_of_ble_eq_true rfl)
  rw [lg_entry_eq]
  generalize (lg_sl ([.ref h0]) ++ List.replicate (1 - (lg_sl ([.ref h0])).length) Slot.unset).toArray = ls at hl ⊢
  have hl : lv_has ls 1 [(0, .ref h0)] := hl
  have b_ : 0 ≤ (v0 36).toInt ∧ (v0 36).toInt ≤ 3 := hv0 36
  refine lv_aload_n hx hb dX13_isOr_0 rfl (lv_at hl 0 rfl) ?_
  refine lv_bipush (v := 111) hx hb dX13_isOr_1 (by decide) ?_
  refine lv_bipush (v := 114) hx hb dX13_isOr_3 (by decide) ?_
  refine lv_iconst (v := 0) hx hb dX13_isOr_5 (by decide) ?_
  refine lv_iconst (v := 0) hx hb dX13_isOr_6 (by decide) ?_
  refine lv_iconst (v := 0) hx hb dX13_isOr_7 (by decide) ?_
  have hPc := hP.sub (ws' := [(h0, .inr (13, mX13 q0 v0)), ((q0 0), .inl (k1, 600, .inl f1))]) [0, 1] rfl
  have hDc := hD.sub (ws' := [(h0, .inr (13, mX13 q0 v0)), ((q0 0), .inl (k1, 600, .inl f1))]) [0, 1] (by decide) rfl
  have hKc := hK.sub (tys' := [(k1, .byte)]) [0] rfl
  have hFc := va_free (wc := [(h0, .inr (13, mX13 q0 v0)), ((q0 0), .inl (k1, 600, .inl f1))]) hD hS hA [0, 1] rfl
  refine va_calli (va_runV (As := [.int 111, .int 114, .int 0, .int 0, .int 0]) (rest := []) ⟨hx, hb, hml, hown, hG⟩ (sX13_isRun_0 l dC dI adK adV h0 q0 k1 s.heap.size v0 f1 111 114 0 0 0 hv0) (cwV 5 hG (zgV zw690 zw691 zw692 zw524 zw693) rfl rfl rfl (by decide +kernel) ⟨Nat.le_of_ble_eq_true rfl, Nat.le_of_ble_eq_true rfl⟩) ⟨zPc_blind, va_recv hKc hPc (ci := 13) (q0 := 0) rfl rfl, zPc_pre hPc hKc hDc hE hS hFc hZ⟩ rfl rfl hl.1 rfl (lv_room (Nat.le_of_ble_eq_true rfl)) dX13_isOr_8 ⟨Nat.le_of_ble_eq_true rfl, Nat.le_of_ble_eq_true rfl⟩) hS (fun q _ h => hFc q h) hFc (fun r8_ u8_ t H1 locs ht hvm hw hB hz1 hk1 hS => ?_)
  have hw : (0 ≤ r8_.toInt ∧ r8_.toInt ≤ 1) ∧ (r8_.toInt = 1 → (v0 36).toInt = 1) := hw
  obtain ⟨b_, hX8_0⟩ := hw
  obtain ⟨w8_, a8_, b8_, hP1, hK1, hD1⟩ := hB
  rw [ht] at hP1
  obtain ⟨hP, hD⟩ := va_join (wr := []) (w1 := [(h0, .inr (13, mX13 q0 v0)), ((q0 0), .inl (k1, 600, .inl f1))]) hP hD [0, 1] [] rfl rfl (by decide) (by decide) hk1 hFc hP1 hD1
  have hP : va_P (dC, dI) vwCl [(h0, .inr (13, mX13 q0 v0)), ((q0 0), .inl (k1, 600, .inl f1))] H1 := hP.sub [0, 1] rfl
  have hD : va_D A [(h0, .inr (13, mX13 q0 v0)), ((q0 0), .inl (k1, 600, .inl f1))] := hD.sub [0, 1] (by decide) rfl
  generalize H1 = H at hP hS ⊢
  clear hz1
  refine W.widen (k := 0) (n := 0) (by decide) (by decide) ?_
  have hpost : (0 ≤ r8_.toInt ∧ r8_.toInt ≤ 1) ∧ (r8_.toInt = 1 → (v0 36).toInt = 1) := ⟨⟨by omega, by omega⟩, by omega⟩
  have hP9 : va_P (dC, dI) vwCl [(h0, .inr (13, mX13 q0 v0)), ((q0 0), .inl (k1, 600, .inl f1))] H := hP
  have hD9 : va_D A [(h0, .inr (13, mX13 q0 v0)), ((q0 0), .inl (k1, 600, .inl f1))] := hD
  exact W.zret (v := r8_) hx hb hr (zbn ⟨by omega, by omega⟩) (fun t ht hW => ⟨⟨r8_, (fun _ => 0), rfl, hpost, (fun _ => 0), (fun _ => (fun _ => 0)), (fun _ => (fun _ => 0)), by rw [ht]; exact hP9, va_K.moved hW.alike hK, hD9⟩, hS.F ht⟩) hS.2.2 dX13_isOr_11
set_option maxHeartbeats 8000000 in
set_option maxRecDepth 100000 in
theorem sX13_isAnd_0 (l : Launch) (dC : Nat → ClassId) (dI : Nat → Nat → Nat) (adK adV : Nat → Nat) (h0 : Nat) (q0 : Nat → Nat) (k1 : ClassId) (sz : Nat) (v0 : Nat → Int32) (f1 : Nat → Int32) (hv0 : zR rg_Model v0) : Met l yX13_isAnd (zw yX13_isAnd cX13_isAnd 1 (some .boolean)) { frames := 3, cells := 0, slots := 0, locals := 66 } (zPc dC dI adK adV [.ref h0] sz [(h0, .inr (13, mX13 q0 v0)), ((q0 0), .inl (k1, 600, .inl f1))] [(k1, .byte)]) (va_Qi (fun (r : Int32) (u : Nat → Int32) => (0 ≤ r.toInt ∧ r.toInt ≤ 1) ∧ (r.toInt = 1 → (v0 36).toInt = 1)) (fun (u : Nat → Int32) (t : State) => ∃ (ww : Nat → Int64) (aa : Nat → Nat → Int32) (bb : Nat → Nat → Int64), va_P (dC, dI) vwCl [(h0, .inr (13, mX13 q0 v0)), ((q0 0), .inl (k1, 600, .inl f1))] t.heap ∧ va_K (dC, dI) vwCl [(k1, .byte)] t ∧ va_D (va_A [(h0, .inr (13, mX13 q0 v0)), ((q0 0), .inl (k1, 600, .inl f1))] sz) [(h0, .inr (13, mX13 q0 v0)), ((q0 0), .inl (k1, 600, .inl f1))]) (va_A [(h0, .inr (13, mX13 q0 v0)), ((q0 0), .inl (k1, 600, .inl f1))] sz)) 0 0 (va_A [(h0, .inr (13, mX13 q0 v0)), ((q0 0), .inl (k1, 600, .inl f1))] sz) := by
  refine Met.ofW (cc := cX13_isAnd) (maxL := 1) (ret := (some .boolean)) (by decide) rfl ?_
  intro p e s m args below meth c s₁ B hml hv
  obtain ⟨rfl, hsz, hP, hK, hD0, hE, hZ⟩ := hv
  have hx := B.exec
  have hb := B.bytes
  have hr := B.returns
  have hG : ∀ w ∈ zG, w.before _ s = true := fun w h => atoms_spec (ws := (zw yX13_isAnd cX13_isAnd 1 (some .boolean))) B.pre w (List.mem_cons_of_mem _ h)
  have hown : s.vm.findClass RX13 = some m.cls := findClass_of_methodNamed B.named
  have hlocks := B.notSynchronized
  subst hsz
  have hD := hD0.self (sz := s.heap.size)
  generalize hAe : va_A [(h0, .inr (13, mX13 q0 v0)), ((q0 0), .inl (k1, 600, .inl f1))] s.heap.size = A at hD hZ ⊢
  have hA : ∀ q : Nat, s.heap.size ≤ q → A q := fun q h => by rw [← hAe]; exact Or.inr h
  have hS : va_S A s.heap s.heap [] := va_S.rf
  have hl := lv_entry ([.ref h0]) (n := 1) (Nat.le_of_ble_eq_true rfl)
  rw [lg_entry_eq]
  generalize (lg_sl ([.ref h0]) ++ List.replicate (1 - (lg_sl ([.ref h0])).length) Slot.unset).toArray = ls at hl ⊢
  have hl : lv_has ls 1 [(0, .ref h0)] := hl
  have b_ : 0 ≤ (v0 36).toInt ∧ (v0 36).toInt ≤ 3 := hv0 36
  refine lv_aload_n hx hb dX13_isAnd_0 rfl (lv_at hl 0 rfl) ?_
  refine lv_bipush (v := 97) hx hb dX13_isAnd_1 (by decide) ?_
  refine lv_bipush (v := 110) hx hb dX13_isAnd_3 (by decide) ?_
  refine lv_bipush (v := 100) hx hb dX13_isAnd_5 (by decide) ?_
  refine lv_iconst (v := 0) hx hb dX13_isAnd_7 (by decide) ?_
  refine lv_iconst (v := 0) hx hb dX13_isAnd_8 (by decide) ?_
  have hPc := hP.sub (ws' := [(h0, .inr (13, mX13 q0 v0)), ((q0 0), .inl (k1, 600, .inl f1))]) [0, 1] rfl
  have hDc := hD.sub (ws' := [(h0, .inr (13, mX13 q0 v0)), ((q0 0), .inl (k1, 600, .inl f1))]) [0, 1] (by decide) rfl
  have hKc := hK.sub (tys' := [(k1, .byte)]) [0] rfl
  have hFc := va_free (wc := [(h0, .inr (13, mX13 q0 v0)), ((q0 0), .inl (k1, 600, .inl f1))]) hD hS hA [0, 1] rfl
  refine va_calli (va_runV (As := [.int 97, .int 110, .int 100, .int 0, .int 0]) (rest := []) ⟨hx, hb, hml, hown, hG⟩ (sX13_isRun_0 l dC dI adK adV h0 q0 k1 s.heap.size v0 f1 97 110 100 0 0 hv0) (cwV 5 hG (zgV zw690 zw691 zw692 zw524 zw693) rfl rfl rfl (by decide +kernel) ⟨Nat.le_of_ble_eq_true rfl, Nat.le_of_ble_eq_true rfl⟩) ⟨zPc_blind, va_recv hKc hPc (ci := 13) (q0 := 0) rfl rfl, zPc_pre hPc hKc hDc hE hS hFc hZ⟩ rfl rfl hl.1 rfl (lv_room (Nat.le_of_ble_eq_true rfl)) dX13_isAnd_9 ⟨Nat.le_of_ble_eq_true rfl, Nat.le_of_ble_eq_true rfl⟩) hS (fun q _ h => hFc q h) hFc (fun r9_ u9_ t H1 locs ht hvm hw hB hz1 hk1 hS => ?_)
  have hw : (0 ≤ r9_.toInt ∧ r9_.toInt ≤ 1) ∧ (r9_.toInt = 1 → (v0 36).toInt = 1) := hw
  obtain ⟨b_, hX9_0⟩ := hw
  obtain ⟨w9_, a9_, b9_, hP1, hK1, hD1⟩ := hB
  rw [ht] at hP1
  obtain ⟨hP, hD⟩ := va_join (wr := []) (w1 := [(h0, .inr (13, mX13 q0 v0)), ((q0 0), .inl (k1, 600, .inl f1))]) hP hD [0, 1] [] rfl rfl (by decide) (by decide) hk1 hFc hP1 hD1
  have hP : va_P (dC, dI) vwCl [(h0, .inr (13, mX13 q0 v0)), ((q0 0), .inl (k1, 600, .inl f1))] H1 := hP.sub [0, 1] rfl
  have hD : va_D A [(h0, .inr (13, mX13 q0 v0)), ((q0 0), .inl (k1, 600, .inl f1))] := hD.sub [0, 1] (by decide) rfl
  generalize H1 = H at hP hS ⊢
  clear hz1
  refine W.widen (k := 0) (n := 0) (by decide) (by decide) ?_
  have hpost : (0 ≤ r9_.toInt ∧ r9_.toInt ≤ 1) ∧ (r9_.toInt = 1 → (v0 36).toInt = 1) := ⟨⟨by omega, by omega⟩, by omega⟩
  have hP9 : va_P (dC, dI) vwCl [(h0, .inr (13, mX13 q0 v0)), ((q0 0), .inl (k1, 600, .inl f1))] H := hP
  have hD9 : va_D A [(h0, .inr (13, mX13 q0 v0)), ((q0 0), .inl (k1, 600, .inl f1))] := hD
  exact W.zret (v := r9_) hx hb hr (zbn ⟨by omega, by omega⟩) (fun t ht hW => ⟨⟨r9_, (fun _ => 0), rfl, hpost, (fun _ => 0), (fun _ => (fun _ => 0)), (fun _ => (fun _ => 0)), by rw [ht]; exact hP9, va_K.moved hW.alike hK, hD9⟩, hS.F ht⟩) hS.2.2 dX13_isAnd_12
set_option maxHeartbeats 8000000 in
set_option maxRecDepth 100000 in
theorem sX13_isNot_0 (l : Launch) (dC : Nat → ClassId) (dI : Nat → Nat → Nat) (adK adV : Nat → Nat) (h0 : Nat) (q0 : Nat → Nat) (k1 : ClassId) (sz : Nat) (v0 : Nat → Int32) (f1 : Nat → Int32) (hv0 : zR rg_Model v0) : Met l yX13_isNot (zw yX13_isNot cX13_isNot 1 (some .boolean)) { frames := 3, cells := 0, slots := 0, locals := 66 } (zPc dC dI adK adV [.ref h0] sz [(h0, .inr (13, mX13 q0 v0)), ((q0 0), .inl (k1, 600, .inl f1))] [(k1, .byte)]) (va_Qi (fun (r : Int32) (u : Nat → Int32) => (0 ≤ r.toInt ∧ r.toInt ≤ 1) ∧ (r.toInt = 1 → (v0 36).toInt = 1)) (fun (u : Nat → Int32) (t : State) => ∃ (ww : Nat → Int64) (aa : Nat → Nat → Int32) (bb : Nat → Nat → Int64), va_P (dC, dI) vwCl [(h0, .inr (13, mX13 q0 v0)), ((q0 0), .inl (k1, 600, .inl f1))] t.heap ∧ va_K (dC, dI) vwCl [(k1, .byte)] t ∧ va_D (va_A [(h0, .inr (13, mX13 q0 v0)), ((q0 0), .inl (k1, 600, .inl f1))] sz) [(h0, .inr (13, mX13 q0 v0)), ((q0 0), .inl (k1, 600, .inl f1))]) (va_A [(h0, .inr (13, mX13 q0 v0)), ((q0 0), .inl (k1, 600, .inl f1))] sz)) 0 0 (va_A [(h0, .inr (13, mX13 q0 v0)), ((q0 0), .inl (k1, 600, .inl f1))] sz) := by
  refine Met.ofW (cc := cX13_isNot) (maxL := 1) (ret := (some .boolean)) (by decide) rfl ?_
  intro p e s m args below meth c s₁ B hml hv
  obtain ⟨rfl, hsz, hP, hK, hD0, hE, hZ⟩ := hv
  have hx := B.exec
  have hb := B.bytes
  have hr := B.returns
  have hG : ∀ w ∈ zG, w.before _ s = true := fun w h => atoms_spec (ws := (zw yX13_isNot cX13_isNot 1 (some .boolean))) B.pre w (List.mem_cons_of_mem _ h)
  have hown : s.vm.findClass RX13 = some m.cls := findClass_of_methodNamed B.named
  have hlocks := B.notSynchronized
  subst hsz
  have hD := hD0.self (sz := s.heap.size)
  generalize hAe : va_A [(h0, .inr (13, mX13 q0 v0)), ((q0 0), .inl (k1, 600, .inl f1))] s.heap.size = A at hD hZ ⊢
  have hA : ∀ q : Nat, s.heap.size ≤ q → A q := fun q h => by rw [← hAe]; exact Or.inr h
  have hS : va_S A s.heap s.heap [] := va_S.rf
  have hl := lv_entry ([.ref h0]) (n := 1) (Nat.le_of_ble_eq_true rfl)
  rw [lg_entry_eq]
  generalize (lg_sl ([.ref h0]) ++ List.replicate (1 - (lg_sl ([.ref h0])).length) Slot.unset).toArray = ls at hl ⊢
  have hl : lv_has ls 1 [(0, .ref h0)] := hl
  have b_ : 0 ≤ (v0 36).toInt ∧ (v0 36).toInt ≤ 3 := hv0 36
  refine lv_aload_n hx hb dX13_isNot_0 rfl (lv_at hl 0 rfl) ?_
  refine lv_bipush (v := 110) hx hb dX13_isNot_1 (by decide) ?_
  refine lv_bipush (v := 111) hx hb dX13_isNot_3 (by decide) ?_
  refine lv_bipush (v := 116) hx hb dX13_isNot_5 (by decide) ?_
  refine lv_iconst (v := 0) hx hb dX13_isNot_7 (by decide) ?_
  refine lv_iconst (v := 0) hx hb dX13_isNot_8 (by decide) ?_
  have hPc := hP.sub (ws' := [(h0, .inr (13, mX13 q0 v0)), ((q0 0), .inl (k1, 600, .inl f1))]) [0, 1] rfl
  have hDc := hD.sub (ws' := [(h0, .inr (13, mX13 q0 v0)), ((q0 0), .inl (k1, 600, .inl f1))]) [0, 1] (by decide) rfl
  have hKc := hK.sub (tys' := [(k1, .byte)]) [0] rfl
  have hFc := va_free (wc := [(h0, .inr (13, mX13 q0 v0)), ((q0 0), .inl (k1, 600, .inl f1))]) hD hS hA [0, 1] rfl
  refine va_calli (va_runV (As := [.int 110, .int 111, .int 116, .int 0, .int 0]) (rest := []) ⟨hx, hb, hml, hown, hG⟩ (sX13_isRun_0 l dC dI adK adV h0 q0 k1 s.heap.size v0 f1 110 111 116 0 0 hv0) (cwV 5 hG (zgV zw690 zw691 zw692 zw524 zw693) rfl rfl rfl (by decide +kernel) ⟨Nat.le_of_ble_eq_true rfl, Nat.le_of_ble_eq_true rfl⟩) ⟨zPc_blind, va_recv hKc hPc (ci := 13) (q0 := 0) rfl rfl, zPc_pre hPc hKc hDc hE hS hFc hZ⟩ rfl rfl hl.1 rfl (lv_room (Nat.le_of_ble_eq_true rfl)) dX13_isNot_9 ⟨Nat.le_of_ble_eq_true rfl, Nat.le_of_ble_eq_true rfl⟩) hS (fun q _ h => hFc q h) hFc (fun r9_ u9_ t H1 locs ht hvm hw hB hz1 hk1 hS => ?_)
  have hw : (0 ≤ r9_.toInt ∧ r9_.toInt ≤ 1) ∧ (r9_.toInt = 1 → (v0 36).toInt = 1) := hw
  obtain ⟨b_, hX9_0⟩ := hw
  obtain ⟨w9_, a9_, b9_, hP1, hK1, hD1⟩ := hB
  rw [ht] at hP1
  obtain ⟨hP, hD⟩ := va_join (wr := []) (w1 := [(h0, .inr (13, mX13 q0 v0)), ((q0 0), .inl (k1, 600, .inl f1))]) hP hD [0, 1] [] rfl rfl (by decide) (by decide) hk1 hFc hP1 hD1
  have hP : va_P (dC, dI) vwCl [(h0, .inr (13, mX13 q0 v0)), ((q0 0), .inl (k1, 600, .inl f1))] H1 := hP.sub [0, 1] rfl
  have hD : va_D A [(h0, .inr (13, mX13 q0 v0)), ((q0 0), .inl (k1, 600, .inl f1))] := hD.sub [0, 1] (by decide) rfl
  generalize H1 = H at hP hS ⊢
  clear hz1
  refine W.widen (k := 0) (n := 0) (by decide) (by decide) ?_
  have hpost : (0 ≤ r9_.toInt ∧ r9_.toInt ≤ 1) ∧ (r9_.toInt = 1 → (v0 36).toInt = 1) := ⟨⟨by omega, by omega⟩, by omega⟩
  have hP9 : va_P (dC, dI) vwCl [(h0, .inr (13, mX13 q0 v0)), ((q0 0), .inl (k1, 600, .inl f1))] H := hP
  have hD9 : va_D A [(h0, .inr (13, mX13 q0 v0)), ((q0 0), .inl (k1, 600, .inl f1))] := hD
  exact W.zret (v := r9_) hx hb hr (zbn ⟨by omega, by omega⟩) (fun t ht hW => ⟨⟨r9_, (fun _ => 0), rfl, hpost, (fun _ => 0), (fun _ => (fun _ => 0)), (fun _ => (fun _ => 0)), by rw [ht]; exact hP9, va_K.moved hW.alike hK, hD9⟩, hS.F ht⟩) hS.2.2 dX13_isNot_12
set_option maxHeartbeats 8000000 in
set_option maxRecDepth 100000 in
theorem sX13_isNear_0 (l : Launch) (dC : Nat → ClassId) (dI : Nat → Nat → Nat) (adK adV : Nat → Nat) (h0 : Nat) (q0 : Nat → Nat) (k1 : ClassId) (sz : Nat) (v0 : Nat → Int32) (f1 : Nat → Int32) (hv0 : zR rg_Model v0) : Met l yX13_isNear (zw yX13_isNear cX13_isNear 1 (some .boolean)) { frames := 3, cells := 0, slots := 0, locals := 66 } (zPc dC dI adK adV [.ref h0] sz [(h0, .inr (13, mX13 q0 v0)), ((q0 0), .inl (k1, 600, .inl f1))] [(k1, .byte)]) (va_Qi (fun (r : Int32) (u : Nat → Int32) => (0 ≤ r.toInt ∧ r.toInt ≤ 1) ∧ (r.toInt = 1 → (v0 36).toInt = 1)) (fun (u : Nat → Int32) (t : State) => ∃ (ww : Nat → Int64) (aa : Nat → Nat → Int32) (bb : Nat → Nat → Int64), va_P (dC, dI) vwCl [(h0, .inr (13, mX13 q0 v0)), ((q0 0), .inl (k1, 600, .inl f1))] t.heap ∧ va_K (dC, dI) vwCl [(k1, .byte)] t ∧ va_D (va_A [(h0, .inr (13, mX13 q0 v0)), ((q0 0), .inl (k1, 600, .inl f1))] sz) [(h0, .inr (13, mX13 q0 v0)), ((q0 0), .inl (k1, 600, .inl f1))]) (va_A [(h0, .inr (13, mX13 q0 v0)), ((q0 0), .inl (k1, 600, .inl f1))] sz)) 0 0 (va_A [(h0, .inr (13, mX13 q0 v0)), ((q0 0), .inl (k1, 600, .inl f1))] sz) := by
  refine Met.ofW (cc := cX13_isNear) (maxL := 1) (ret := (some .boolean)) (by decide) rfl ?_
  intro p e s m args below meth c s₁ B hml hv
  obtain ⟨rfl, hsz, hP, hK, hD0, hE, hZ⟩ := hv
  have hx := B.exec
  have hb := B.bytes
  have hr := B.returns
  have hG : ∀ w ∈ zG, w.before _ s = true := fun w h => atoms_spec (ws := (zw yX13_isNear cX13_isNear 1 (some .boolean))) B.pre w (List.mem_cons_of_mem _ h)
  have hown : s.vm.findClass RX13 = some m.cls := findClass_of_methodNamed B.named
  have hlocks := B.notSynchronized
  subst hsz
  have hD := hD0.self (sz := s.heap.size)
  generalize hAe : va_A [(h0, .inr (13, mX13 q0 v0)), ((q0 0), .inl (k1, 600, .inl f1))] s.heap.size = A at hD hZ ⊢
  have hA : ∀ q : Nat, s.heap.size ≤ q → A q := fun q h => by rw [← hAe]; exact Or.inr h
  have hS : va_S A s.heap s.heap [] := va_S.rf
  have hl := lv_entry ([.ref h0]) (n := 1) (Nat.le_of_ble_eq_true rfl)
  rw [lg_entry_eq]
  generalize (lg_sl ([.ref h0]) ++ List.replicate (1 - (lg_sl ([.ref h0])).length) Slot.unset).toArray = ls at hl ⊢
  have hl : lv_has ls 1 [(0, .ref h0)] := hl
  have b_ : 0 ≤ (v0 36).toInt ∧ (v0 36).toInt ≤ 3 := hv0 36
  refine lv_aload_n hx hb dX13_isNear_0 rfl (lv_at hl 0 rfl) ?_
  refine lv_bipush (v := 110) hx hb dX13_isNear_1 (by decide) ?_
  refine lv_bipush (v := 101) hx hb dX13_isNear_3 (by decide) ?_
  refine lv_bipush (v := 97) hx hb dX13_isNear_5 (by decide) ?_
  refine lv_bipush (v := 114) hx hb dX13_isNear_7 (by decide) ?_
  refine lv_iconst (v := 0) hx hb dX13_isNear_9 (by decide) ?_
  have hPc := hP.sub (ws' := [(h0, .inr (13, mX13 q0 v0)), ((q0 0), .inl (k1, 600, .inl f1))]) [0, 1] rfl
  have hDc := hD.sub (ws' := [(h0, .inr (13, mX13 q0 v0)), ((q0 0), .inl (k1, 600, .inl f1))]) [0, 1] (by decide) rfl
  have hKc := hK.sub (tys' := [(k1, .byte)]) [0] rfl
  have hFc := va_free (wc := [(h0, .inr (13, mX13 q0 v0)), ((q0 0), .inl (k1, 600, .inl f1))]) hD hS hA [0, 1] rfl
  refine va_calli (va_runV (As := [.int 110, .int 101, .int 97, .int 114, .int 0]) (rest := []) ⟨hx, hb, hml, hown, hG⟩ (sX13_isRun_0 l dC dI adK adV h0 q0 k1 s.heap.size v0 f1 110 101 97 114 0 hv0) (cwV 5 hG (zgV zw690 zw691 zw692 zw524 zw693) rfl rfl rfl (by decide +kernel) ⟨Nat.le_of_ble_eq_true rfl, Nat.le_of_ble_eq_true rfl⟩) ⟨zPc_blind, va_recv hKc hPc (ci := 13) (q0 := 0) rfl rfl, zPc_pre hPc hKc hDc hE hS hFc hZ⟩ rfl rfl hl.1 rfl (lv_room (Nat.le_of_ble_eq_true rfl)) dX13_isNear_10 ⟨Nat.le_of_ble_eq_true rfl, Nat.le_of_ble_eq_true rfl⟩) hS (fun q _ h => hFc q h) hFc (fun r10_ u10_ t H1 locs ht hvm hw hB hz1 hk1 hS => ?_)
  have hw : (0 ≤ r10_.toInt ∧ r10_.toInt ≤ 1) ∧ (r10_.toInt = 1 → (v0 36).toInt = 1) := hw
  obtain ⟨b_, hX10_0⟩ := hw
  obtain ⟨w10_, a10_, b10_, hP1, hK1, hD1⟩ := hB
  rw [ht] at hP1
  obtain ⟨hP, hD⟩ := va_join (wr := []) (w1 := [(h0, .inr (13, mX13 q0 v0)), ((q0 0), .inl (k1, 600, .inl f1))]) hP hD [0, 1] [] rfl rfl (by decide) (by decide) hk1 hFc hP1 hD1
  have hP : va_P (dC, dI) vwCl [(h0, .inr (13, mX13 q0 v0)), ((q0 0), .inl (k1, 600, .inl f1))] H1 := hP.sub [0, 1] rfl
  have hD : va_D A [(h0, .inr (13, mX13 q0 v0)), ((q0 0), .inl (k1, 600, .inl f1))] := hD.sub [0, 1] (by decide) rfl
  generalize H1 = H at hP hS ⊢
  clear hz1
  refine W.widen (k := 0) (n := 0) (by decide) (by decide) ?_
  have hpost : (0 ≤ r10_.toInt ∧ r10_.toInt ≤ 1) ∧ (r10_.toInt = 1 → (v0 36).toInt = 1) := ⟨⟨by omega, by omega⟩, by omega⟩
  have hP9 : va_P (dC, dI) vwCl [(h0, .inr (13, mX13 q0 v0)), ((q0 0), .inl (k1, 600, .inl f1))] H := hP
  have hD9 : va_D A [(h0, .inr (13, mX13 q0 v0)), ((q0 0), .inl (k1, 600, .inl f1))] := hD
  exact W.zret (v := r10_) hx hb hr (zbn ⟨by omega, by omega⟩) (fun t ht hW => ⟨⟨r10_, (fun _ => 0), rfl, hpost, (fun _ => 0), (fun _ => (fun _ => 0)), (fun _ => (fun _ => 0)), by rw [ht]; exact hP9, va_K.moved hW.alike hK, hD9⟩, hS.F ht⟩) hS.2.2 dX13_isNear_13
set_option maxHeartbeats 8000000 in
set_option maxRecDepth 100000 in
theorem sX13_isField_0 (l : Launch) (dC : Nat → ClassId) (dI : Nat → Nat → Nat) (adK adV : Nat → Nat) (h0 : Nat) (q0 : Nat → Nat) (k1 : ClassId) (sz : Nat) (v0 : Nat → Int32) (f1 : Nat → Int32) (hv0 : zR rg_Model v0) : Met l yX13_isField (zw yX13_isField cX13_isField 2 (some .boolean)) { frames := 3, cells := 0, slots := 0, locals := 66 } (zPc dC dI adK adV [.ref h0] sz [(h0, .inr (13, mX13 q0 v0)), ((q0 0), .inl (k1, 600, .inl f1))] [(k1, .byte)]) (va_Qi (fun (r : Int32) (u : Nat → Int32) => (0 ≤ r.toInt ∧ r.toInt ≤ 1) ∧ (r.toInt = 1 → (v0 36).toInt = 1)) (fun (u : Nat → Int32) (t : State) => ∃ (ww : Nat → Int64) (aa : Nat → Nat → Int32) (bb : Nat → Nat → Int64), va_P (dC, dI) vwCl [(h0, .inr (13, mX13 q0 v0)), ((q0 0), .inl (k1, 600, .inl f1))] t.heap ∧ va_K (dC, dI) vwCl [(k1, .byte)] t ∧ va_D (va_A [(h0, .inr (13, mX13 q0 v0)), ((q0 0), .inl (k1, 600, .inl f1))] sz) [(h0, .inr (13, mX13 q0 v0)), ((q0 0), .inl (k1, 600, .inl f1))]) (va_A [(h0, .inr (13, mX13 q0 v0)), ((q0 0), .inl (k1, 600, .inl f1))] sz)) 0 0 (va_A [(h0, .inr (13, mX13 q0 v0)), ((q0 0), .inl (k1, 600, .inl f1))] sz) := by
  refine Met.ofW (cc := cX13_isField) (maxL := 2) (ret := (some .boolean)) (by decide) rfl ?_
  intro p e s m args below meth c s₁ B hml hv
  obtain ⟨rfl, hsz, hP, hK, hD0, hE, hZ⟩ := hv
  have hx := B.exec
  have hb := B.bytes
  have hr := B.returns
  have hG : ∀ w ∈ zG, w.before _ s = true := fun w h => atoms_spec (ws := (zw yX13_isField cX13_isField 2 (some .boolean))) B.pre w (List.mem_cons_of_mem _ h)
  have hown : s.vm.findClass RX13 = some m.cls := findClass_of_methodNamed B.named
  have hlocks := B.notSynchronized
  subst hsz
  have hD := hD0.self (sz := s.heap.size)
  generalize hAe : va_A [(h0, .inr (13, mX13 q0 v0)), ((q0 0), .inl (k1, 600, .inl f1))] s.heap.size = A at hD hZ ⊢
  have hA : ∀ q : Nat, s.heap.size ≤ q → A q := fun q h => by rw [← hAe]; exact Or.inr h
  have hS : va_S A s.heap s.heap [] := va_S.rf
  have hl := lv_entry ([.ref h0]) (n := 2) (Nat.le_of_ble_eq_true rfl)
  rw [lg_entry_eq]
  generalize (lg_sl ([.ref h0]) ++ List.replicate (2 - (lg_sl ([.ref h0])).length) Slot.unset).toArray = ls at hl ⊢
  have hl : lv_has ls 2 [(0, .ref h0)] := hl
  have b_ := zk_0
  have b_ := zk_1
  have b_ : 0 ≤ (v0 36).toInt ∧ (v0 36).toInt ≤ 3 := hv0 36
  refine lv_aload_n hx hb dX13_isField_0 rfl (lv_at hl 0 rfl) ?_
  refine lv_bipush (v := 116) hx hb dX13_isField_1 (by decide) ?_
  refine lv_bipush (v := 105) hx hb dX13_isField_3 (by decide) ?_
  refine lv_bipush (v := 116) hx hb dX13_isField_5 (by decide) ?_
  refine lv_bipush (v := 108) hx hb dX13_isField_7 (by decide) ?_
  refine lv_bipush (v := 101) hx hb dX13_isField_9 (by decide) ?_
  have hPc := hP.sub (ws' := [(h0, .inr (13, mX13 q0 v0)), ((q0 0), .inl (k1, 600, .inl f1))]) [0, 1] rfl
  have hDc := hD.sub (ws' := [(h0, .inr (13, mX13 q0 v0)), ((q0 0), .inl (k1, 600, .inl f1))]) [0, 1] (by decide) rfl
  have hKc := hK.sub (tys' := [(k1, .byte)]) [0] rfl
  have hFc := va_free (wc := [(h0, .inr (13, mX13 q0 v0)), ((q0 0), .inl (k1, 600, .inl f1))]) hD hS hA [0, 1] rfl
  refine va_calli (va_runV (As := [.int 116, .int 105, .int 116, .int 108, .int 101]) (rest := []) ⟨hx, hb, hml, hown, hG⟩ (sX13_isRun_0 l dC dI adK adV h0 q0 k1 s.heap.size v0 f1 116 105 116 108 101 hv0) (cwV 5 hG (zgV zw690 zw691 zw692 zw524 zw693) rfl rfl rfl (by decide +kernel) ⟨Nat.le_of_ble_eq_true rfl, Nat.le_of_ble_eq_true rfl⟩) ⟨zPc_blind, va_recv hKc hPc (ci := 13) (q0 := 0) rfl rfl, zPc_pre hPc hKc hDc hE hS hFc hZ⟩ rfl rfl hl.1 rfl (lv_room (Nat.le_of_ble_eq_true rfl)) dX13_isField_11 ⟨Nat.le_of_ble_eq_true rfl, Nat.le_of_ble_eq_true rfl⟩) hS (fun q _ h => hFc q h) hFc (fun r11_ u11_ t H1 locs ht hvm hw hB hz1 hk1 hS => ?_)
  have hw : (0 ≤ r11_.toInt ∧ r11_.toInt ≤ 1) ∧ (r11_.toInt = 1 → (v0 36).toInt = 1) := hw
  obtain ⟨b_, hX11_0⟩ := hw
  obtain ⟨w11_, a11_, b11_, hP1, hK1, hD1⟩ := hB
  rw [ht] at hP1
  obtain ⟨hP, hD⟩ := va_join (wr := []) (w1 := [(h0, .inr (13, mX13 q0 v0)), ((q0 0), .inl (k1, 600, .inl f1))]) hP hD [0, 1] [] rfl rfl (by decide) (by decide) hk1 hFc hP1 hD1
  have hP : va_P (dC, dI) vwCl [(h0, .inr (13, mX13 q0 v0)), ((q0 0), .inl (k1, 600, .inl f1))] H1 := hP.sub [0, 1] rfl
  have hD : va_D A [(h0, .inr (13, mX13 q0 v0)), ((q0 0), .inl (k1, 600, .inl f1))] := hD.sub [0, 1] (by decide) rfl
  generalize H1 = H at hP hS ⊢
  clear hz1
  refine zcutW (fun H locs ls u35_ w35_ a35_ b35_ => va_P (dC, dI) vwCl [(h0, .inr (13, mX13 q0 v0)), ((q0 0), .inl (k1, 600, .inl f1))] H ∧ va_D A [(h0, .inr (13, mX13 q0 v0)), ((q0 0), .inl (k1, 600, .inl f1))] ∧ va_S A s.heap H locs ∧ lv_has ls 2 [(0, .ref h0)] ∧ (0 ≤ r11_.toInt ∧ r11_.toInt ≤ 1) ∧ ((v0 36).toInt = 1)) (fun ls u35_ w35_ => F0 m 35 ls []) 0 0 ?_ (fun hJ35 => ?_)
  · skip
    intro H locs ls u35_ w35_ a35_ b35_ hc
    obtain ⟨hP, hD, hS, hl, b_, b_⟩ := hc
    refine lv_aload_n hx hb dX13_isField_35 rfl (lv_at hl 0 rfl) ?_
    have b_ : 0 ≤ (v0 35).toInt ∧ (v0 35).toInt ≤ 600 := hv0 35
    refine va_get (D := (dC, dI)) (ci := 13) (v := .int (v0 35)) (C := RX13) (T := TX13) (N := 75) hx hb hG zuX13 hown hK hP 0 rfl rfl 35 (by decide) (hG _ zw679) (fun _ h9 => h9) rfl dX13_isField_36 ?_
    refine lv_istore_n (lv' := [(1, .int (v0 35)), (0, .ref h0)]) hx hb dX13_isField_39 rfl hl (by decide) rfl (fun ls hl => ?_)
    refine zcutL (fun u40_ => (600 - (u40_ 0).toInt).toNat) (fun H locs ls u40_ w40_ a40_ b40_ => va_P (dC, dI) vwCl [(h0, .inr (13, mX13 q0 v0)), ((q0 0), .inl (k1, 600, .inl f1))] H ∧ va_D A [(h0, .inr (13, mX13 q0 v0)), ((q0 0), .inl (k1, 600, .inl f1))] ∧ va_S A s.heap H locs ∧ lv_has ls 2 [(0, .ref h0), (1, .int (u40_ 0))] ∧ (0 ≤ (u40_ 0).toInt ∧ (u40_ 0).toInt ≤ 600) ∧ ((v0 36).toInt = 1)) (fun ls u40_ w40_ => F0 m 40 ls []) 0 0 ?_ (fun hJ40 => ?_)
    · skip
      intro H locs ls u40_ w40_ a40_ b40_ hc hJ40
      obtain ⟨hP, hD, hS, hl, b_, b_⟩ := hc
      refine lv_iload_n hx hb dX13_isField_40 rfl (lv_at hl 1 rfl) ?_
      refine lv_aload_n hx hb dX13_isField_41 rfl (lv_at hl 0 rfl) ?_
      have b_ : 0 ≤ (v0 34).toInt ∧ (v0 34).toInt ≤ 600 := hv0 34
      refine va_get (D := (dC, dI)) (ci := 13) (v := .int (v0 34)) (C := RX13) (T := TX13) (N := 75) hx hb hG zuX13 hown hK hP 0 rfl rfl 34 (by decide) (hG _ zw678) (fun _ h9 => h9) rfl dX13_isField_42 ?_
      refine zcutW (fun H locs ls u67_ w67_ a67_ b67_ => va_P (dC, dI) vwCl [(h0, .inr (13, mX13 q0 v0)), ((q0 0), .inl (k1, 600, .inl f1))] H ∧ va_D A [(h0, .inr (13, mX13 q0 v0)), ((q0 0), .inl (k1, 600, .inl f1))] ∧ va_S A s.heap H locs ∧ lv_has ls 2 [(0, .ref h0), (1, .int (u40_ 0))] ∧ (0 ≤ (u40_ 0).toInt ∧ (u40_ 0).toInt ≤ 600) ∧ (0 ≤ (v0 34).toInt ∧ (v0 34).toInt ≤ 600) ∧ ((v0 36).toInt = 1)) (fun ls u67_ w67_ => F0 m 67 ls []) 0 0 ?_ (fun hJ67 => ?_)
      · skip
        intro H locs ls u67_ w67_ a67_ b67_ hc
        obtain ⟨hP, hD, hS, hl, b_, b_, b_⟩ := hc
        refine lv_aload_n hx hb dX13_isField_67 rfl (lv_at hl 0 rfl) ?_
        refine lv_iload_n hx hb dX13_isField_68 rfl (lv_at hl 1 rfl) ?_
        have hPc := hP.sub (ws' := [(h0, .inr (13, mX13 q0 v0)), ((q0 0), .inl (k1, 600, .inl f1))]) [0, 1] rfl
        have hDc := hD.sub (ws' := [(h0, .inr (13, mX13 q0 v0)), ((q0 0), .inl (k1, 600, .inl f1))]) [0, 1] (by decide) rfl
        have hKc := hK.sub (tys' := [(k1, .byte)]) [0] rfl
        have hFc := va_free (wc := [(h0, .inr (13, mX13 q0 v0)), ((q0 0), .inl (k1, 600, .inl f1))]) hD hS hA [0, 1] rfl
        refine va_calli (va_runV (As := [.int (u40_ 0)]) (rest := []) ⟨hx, hb, hml, hown, hG⟩ (sX13_byteAt_0 l dC dI adK adV h0 q0 k1 H.size v0 f1 (u40_ 0) hv0 ⟨show (0 : Int) ≤ ((u40_ 0) : Int32).toInt from by omega, show ((u40_ 0) : Int32).toInt ≤ (602 : Int) from by omega⟩) (cwV 1 hG (zgV zw682 zw683 zw684 zw524 zw685) rfl rfl rfl (by decide +kernel) ⟨Nat.le_of_ble_eq_true rfl, Nat.le_of_ble_eq_true rfl⟩) ⟨zPc_blind, va_recv hKc hPc (ci := 13) (q0 := 0) rfl rfl, zPc_pre hPc hKc hDc hE hS hFc hZ⟩ rfl rfl hl.1 rfl (lv_room (Nat.le_of_ble_eq_true rfl)) dX13_isField_69 ⟨Nat.le_of_ble_eq_true rfl, Nat.le_of_ble_eq_true rfl⟩) hS (fun q _ h => hFc q h) hFc (fun r69_ u69_ t H1 locs ht hvm hw hB hz1 hk1 hS => ?_)
        have hw : (r69_.toInt ≠ 0 → (u40_ 0).toInt < (v0 34).toInt) := hw
        have hX69_0 := hw
        obtain ⟨w69_, a69_, b69_, hP1, hK1, hD1⟩ := hB
        rw [ht] at hP1
        obtain ⟨hP, hD⟩ := va_join (wr := []) (w1 := [(h0, .inr (13, mX13 q0 v0)), ((q0 0), .inl (k1, 600, .inl f1))]) hP hD [0, 1] [] rfl rfl (by decide) (by decide) hk1 hFc hP1 hD1
        have hP : va_P (dC, dI) vwCl [(h0, .inr (13, mX13 q0 v0)), ((q0 0), .inl (k1, 600, .inl f1))] H1 := hP.sub [0, 1] rfl
        have hD : va_D A [(h0, .inr (13, mX13 q0 v0)), ((q0 0), .inl (k1, 600, .inl f1))] := hD.sub [0, 1] (by decide) rfl
        generalize H1 = H at hP hS ⊢
        clear hz1
        refine lv_bipush (v := 58) hx hb dX13_isField_72 (by decide) ?_
        have b_ : -2147483648 ≤ r69_.toInt ∧ r69_.toInt ≤ 2147483647 := ⟨zlo _, zhi _⟩
        refine lv_icmp_ne (tgt := 81) hx hb dX13_isField_74 (by decide) (fun c_ => ?_) (fun c_ => ?_)
        · skip
          have b_ := zT_ne rfl zk_58 c_
          refine lv_iconst (v := 0) hx hb dX13_isField_81 (by decide) ?_
          refine W.widen (k := 0) (n := 0) (by decide) (by decide) ?_
          have hpost : (0 ≤ (0 : Int32).toInt ∧ (0 : Int32).toInt ≤ 1) ∧ ((0 : Int32).toInt = 1 → (v0 36).toInt = 1) := ⟨⟨by omega, by omega⟩, by omega⟩
          have hP9 : va_P (dC, dI) vwCl [(h0, .inr (13, mX13 q0 v0)), ((q0 0), .inl (k1, 600, .inl f1))] H := hP
          have hD9 : va_D A [(h0, .inr (13, mX13 q0 v0)), ((q0 0), .inl (k1, 600, .inl f1))] := hD
          exact W.zret (v := 0) hx hb hr rfl (fun t ht hW => ⟨⟨0, (fun _ => 0), rfl, hpost, (fun _ => 0), (fun _ => (fun _ => 0)), (fun _ => (fun _ => 0)), by rw [ht]; exact hP9, va_K.moved hW.alike hK, hD9⟩, hS.F ht⟩) hS.2.2 dX13_isField_82
        · skip
          have b_ := zF_ne rfl zk_58 c_
          refine lv_iconst (v := 1) hx hb dX13_isField_77 (by decide) ?_
          refine lv_goto (tgt := 82) hx hb dX13_isField_78 (by decide) ?_
          refine W.widen (k := 0) (n := 0) (by decide) (by decide) ?_
          have hpost : (0 ≤ (1 : Int32).toInt ∧ (1 : Int32).toInt ≤ 1) ∧ ((1 : Int32).toInt = 1 → (v0 36).toInt = 1) := ⟨⟨by omega, by omega⟩, by omega⟩
          have hP9 : va_P (dC, dI) vwCl [(h0, .inr (13, mX13 q0 v0)), ((q0 0), .inl (k1, 600, .inl f1))] H := hP
          have hD9 : va_D A [(h0, .inr (13, mX13 q0 v0)), ((q0 0), .inl (k1, 600, .inl f1))] := hD
          exact W.zret (v := 1) hx hb hr rfl (fun t ht hW => ⟨⟨1, (fun _ => 0), rfl, hpost, (fun _ => 0), (fun _ => (fun _ => 0)), (fun _ => (fun _ => 0)), by rw [ht]; exact hP9, va_K.moved hW.alike hK, hD9⟩, hS.F ht⟩) hS.2.2 dX13_isField_82
      · skip
        refine lv_icmp_ge (tgt := 67) hx hb dX13_isField_45 (by decide) (fun c_ => ?_) (fun c_ => ?_)
        · skip
          have b_ := zT_ge rfl rfl c_
          have hc : va_P (dC, dI) vwCl [(h0, .inr (13, mX13 q0 v0)), ((q0 0), .inl (k1, 600, .inl f1))] H ∧ va_D A [(h0, .inr (13, mX13 q0 v0)), ((q0 0), .inl (k1, 600, .inl f1))] ∧ va_S A s.heap H locs ∧ lv_has ls 2 [(0, .ref h0), (1, .int (u40_ 0))] ∧ (0 ≤ (u40_ 0).toInt ∧ (u40_ 0).toInt ≤ 600) ∧ (0 ≤ (v0 34).toInt ∧ (v0 34).toInt ≤ 600) ∧ ((v0 36).toInt = 1) := ⟨hP, hD, hS, lv_sub hl [0, 1] rfl, ⟨by omega, by omega⟩, ⟨by omega, by omega⟩, by omega⟩
          exact hJ67 H locs ls (fun _ => 0) (fun _ => 0) (fun _ => (fun _ => 0)) (fun _ => (fun _ => 0)) hc
        · skip
          have b_ := zF_ge rfl rfl c_
          refine lv_aload_n hx hb dX13_isField_48 rfl (lv_at hl 0 rfl) ?_
          refine lv_aload_n hx hb dX13_isField_49 rfl (lv_at hl 0 rfl) ?_
          refine va_get (D := (dC, dI)) (ci := 13) (v := .ref (q0 0)) (C := RX13) (T := TX13) (N := 75) hx hb hG zuX13 hown hK hP 0 rfl rfl 0 (by decide) (hG _ zw520) (fun _ h9 => h9) rfl dX13_isField_50 ?_
          refine lv_iload_n hx hb dX13_isField_53 rfl (lv_at hl 1 rfl) ?_
          refine va_bald hx hb hK hP 1 0 rfl rfl (zin_lit ⟨by omega, by omega⟩) dX13_isField_54 ?_
          refine lv_topi (fun z54 e_z54 => ?_)
          have hPc := hP.sub (ws' := []) [] rfl
          have hDc := hD.sub (ws' := []) [] (by decide) rfl
          have hKc := hK.sub (tys' := []) [] rfl
          have hFc := va_free (wc := []) hD hS hA [] rfl
          refine va_calli (va_runV (As := [.int z54]) (rest := []) ⟨hx, hb, hml, hown, hG⟩ (sX13_isBlank_0 l dC dI adK adV h0 H.size z54) (cwV 1 hG (zgV zw686 zw687 zw688 zw524 zw689) rfl rfl rfl (by decide +kernel) ⟨Nat.le_of_ble_eq_true rfl, Nat.le_of_ble_eq_true rfl⟩) ⟨zPc_blind, va_recv hK hP (ci := 13) (q0 := 0) rfl rfl, zPc_pre hPc hKc hDc hE hS hFc hZ⟩ rfl rfl hl.1 rfl (lv_room (Nat.le_of_ble_eq_true rfl)) dX13_isField_55 ⟨Nat.le_of_ble_eq_true rfl, Nat.le_of_ble_eq_true rfl⟩) hS (fun q _ h => hFc q h) hFc (fun r55_ u55_ t H1 locs ht hvm hw hB hz1 hk1 hS => ?_)
          have hw : (0 ≤ r55_.toInt ∧ r55_.toInt ≤ 1) := hw
          have b_ := hw
          obtain ⟨w55_, a55_, b55_, hP1, hK1, hD1⟩ := hB
          rw [ht] at hP1
          obtain ⟨hP, hD⟩ := va_join (wr := [(h0, .inr (13, mX13 q0 v0)), ((q0 0), .inl (k1, 600, .inl f1))]) (w1 := []) hP hD [] [0, 1] rfl rfl (by decide) (by decide) hk1 hFc hP1 hD1
          have hP : va_P (dC, dI) vwCl [(h0, .inr (13, mX13 q0 v0)), ((q0 0), .inl (k1, 600, .inl f1))] H1 := hP.sub [0, 1] rfl
          have hD : va_D A [(h0, .inr (13, mX13 q0 v0)), ((q0 0), .inl (k1, 600, .inl f1))] := hD.sub [0, 1] (by decide) rfl
          generalize H1 = H at hP hS ⊢
          clear hz1
          refine lv_if_eq (tgt := 67) hx hb dX13_isField_58 (by decide) (fun c_ => ?_) (fun c_ => ?_)
          · skip
            have b_ := zT_eq rfl zk_0 c_
            have hc : va_P (dC, dI) vwCl [(h0, .inr (13, mX13 q0 v0)), ((q0 0), .inl (k1, 600, .inl f1))] H ∧ va_D A [(h0, .inr (13, mX13 q0 v0)), ((q0 0), .inl (k1, 600, .inl f1))] ∧ va_S A s.heap H locs ∧ lv_has ls 2 [(0, .ref h0), (1, .int (u40_ 0))] ∧ (0 ≤ (u40_ 0).toInt ∧ (u40_ 0).toInt ≤ 600) ∧ (0 ≤ (v0 34).toInt ∧ (v0 34).toInt ≤ 600) ∧ ((v0 36).toInt = 1) := ⟨hP, hD, hS, lv_sub hl [0, 1] rfl, ⟨by omega, by omega⟩, ⟨by omega, by omega⟩, by omega⟩
            exact hJ67 H locs ls (fun _ => 0) (fun _ => 0) (fun _ => (fun _ => 0)) (fun _ => (fun _ => 0)) hc
          · skip
            have b_ := zF_eq rfl zk_0 c_
            obtain ⟨z61, e_z61⟩ : ∃ z : Int32, z = (u40_ 0) + Int32.ofInt 1 := ⟨_, rfl⟩
            have b_ := zadd (x := (u40_ 0)) (y := Int32.ofInt 1) rfl (show (Int32.ofInt 1).toInt = 1 from by decide) e_z61 (by omega) (by omega)
            refine lv_iinc (v := z61) (lv' := [(1, .int z61), (0, .ref h0)]) hx hb dX13_isField_61 hl (k := 1) rfl e_z61.symm (by decide) rfl (fun ls hl => ?_)
            refine lv_goto (tgt := 40) hx hb dX13_isField_64 (by decide) ?_
            have hc : va_P (dC, dI) vwCl [(h0, .inr (13, mX13 q0 v0)), ((q0 0), .inl (k1, 600, .inl f1))] H ∧ va_D A [(h0, .inr (13, mX13 q0 v0)), ((q0 0), .inl (k1, 600, .inl f1))] ∧ va_S A s.heap H locs ∧ lv_has ls 2 [(0, .ref h0), (1, .int z61)] ∧ (0 ≤ z61.toInt ∧ z61.toInt ≤ 600) ∧ ((v0 36).toInt = 1) := ⟨hP, hD, hS, lv_sub hl [1, 0] rfl, ⟨by omega, by omega⟩, by omega⟩
            exact hJ40 H locs ls (fun i => ([z61] : List (Int32)).getD i 0) (fun _ => 0) (fun _ => (fun _ => 0)) (fun _ => (fun _ => 0)) hc (show (600 - z61.toInt).toNat < (600 - (u40_ 0).toInt).toNat from by omega)
    · skip
      have hc : va_P (dC, dI) vwCl [(h0, .inr (13, mX13 q0 v0)), ((q0 0), .inl (k1, 600, .inl f1))] H ∧ va_D A [(h0, .inr (13, mX13 q0 v0)), ((q0 0), .inl (k1, 600, .inl f1))] ∧ va_S A s.heap H locs ∧ lv_has ls 2 [(0, .ref h0), (1, .int (v0 35))] ∧ (0 ≤ (v0 35).toInt ∧ (v0 35).toInt ≤ 600) ∧ ((v0 36).toInt = 1) := ⟨hP, hD, hS, lv_sub hl [1, 0] rfl, ⟨by omega, by omega⟩, by omega⟩
      exact hJ40 H locs ls (fun i => ([(v0 35)] : List (Int32)).getD i 0) (fun _ => 0) (fun _ => (fun _ => 0)) (fun _ => (fun _ => 0)) hc
  · skip
    refine lv_if_ne (tgt := 35) hx hb dX13_isField_14 (by decide) (fun c_ => ?_) (fun c_ => ?_)
    · skip
      have b_ := zT_ne rfl zk_0 c_
      have hc : va_P (dC, dI) vwCl [(h0, .inr (13, mX13 q0 v0)), ((q0 0), .inl (k1, 600, .inl f1))] H ∧ va_D A [(h0, .inr (13, mX13 q0 v0)), ((q0 0), .inl (k1, 600, .inl f1))] ∧ va_S A s.heap H locs ∧ lv_has ls 2 [(0, .ref h0)] ∧ (0 ≤ r11_.toInt ∧ r11_.toInt ≤ 1) ∧ ((v0 36).toInt = 1) := ⟨hP, hD, hS, lv_sub hl [0] rfl, ⟨by omega, by omega⟩, by omega⟩
      exact hJ35 H locs ls (fun _ => 0) (fun _ => 0) (fun _ => (fun _ => 0)) (fun _ => (fun _ => 0)) hc
    · skip
      have b_ := zF_ne rfl zk_0 c_
      refine lv_aload_n hx hb dX13_isField_17 rfl (lv_at hl 0 rfl) ?_
      refine lv_bipush (v := 98) hx hb dX13_isField_18 (by decide) ?_
      refine lv_bipush (v := 111) hx hb dX13_isField_20 (by decide) ?_
      refine lv_bipush (v := 100) hx hb dX13_isField_22 (by decide) ?_
      refine lv_bipush (v := 121) hx hb dX13_isField_24 (by decide) ?_
      refine lv_iconst (v := 0) hx hb dX13_isField_26 (by decide) ?_
      have hPc := hP.sub (ws' := [(h0, .inr (13, mX13 q0 v0)), ((q0 0), .inl (k1, 600, .inl f1))]) [0, 1] rfl
      have hDc := hD.sub (ws' := [(h0, .inr (13, mX13 q0 v0)), ((q0 0), .inl (k1, 600, .inl f1))]) [0, 1] (by decide) rfl
      have hKc := hK.sub (tys' := [(k1, .byte)]) [0] rfl
      have hFc := va_free (wc := [(h0, .inr (13, mX13 q0 v0)), ((q0 0), .inl (k1, 600, .inl f1))]) hD hS hA [0, 1] rfl
      refine va_calli (va_runV (As := [.int 98, .int 111, .int 100, .int 121, .int 0]) (rest := []) ⟨hx, hb, hml, hown, hG⟩ (sX13_isRun_0 l dC dI adK adV h0 q0 k1 H.size v0 f1 98 111 100 121 0 hv0) (cwV 5 hG (zgV zw690 zw691 zw692 zw524 zw693) rfl rfl rfl (by decide +kernel) ⟨Nat.le_of_ble_eq_true rfl, Nat.le_of_ble_eq_true rfl⟩) ⟨zPc_blind, va_recv hKc hPc (ci := 13) (q0 := 0) rfl rfl, zPc_pre hPc hKc hDc hE hS hFc hZ⟩ rfl rfl hl.1 rfl (lv_room (Nat.le_of_ble_eq_true rfl)) dX13_isField_27 ⟨Nat.le_of_ble_eq_true rfl, Nat.le_of_ble_eq_true rfl⟩) hS (fun q _ h => hFc q h) hFc (fun r27_ u27_ t H1 locs ht hvm hw hB hz1 hk1 hS => ?_)
      have hw : (0 ≤ r27_.toInt ∧ r27_.toInt ≤ 1) ∧ (r27_.toInt = 1 → (v0 36).toInt = 1) := hw
      obtain ⟨b_, hX27_0⟩ := hw
      obtain ⟨w27_, a27_, b27_, hP1, hK1, hD1⟩ := hB
      rw [ht] at hP1
      obtain ⟨hP, hD⟩ := va_join (wr := []) (w1 := [(h0, .inr (13, mX13 q0 v0)), ((q0 0), .inl (k1, 600, .inl f1))]) hP hD [0, 1] [] rfl rfl (by decide) (by decide) hk1 hFc hP1 hD1
      have hP : va_P (dC, dI) vwCl [(h0, .inr (13, mX13 q0 v0)), ((q0 0), .inl (k1, 600, .inl f1))] H1 := hP.sub [0, 1] rfl
      have hD : va_D A [(h0, .inr (13, mX13 q0 v0)), ((q0 0), .inl (k1, 600, .inl f1))] := hD.sub [0, 1] (by decide) rfl
      generalize H1 = H at hP hS ⊢
      clear hz1
      refine lv_if_ne (tgt := 35) hx hb dX13_isField_30 (by decide) (fun c_ => ?_) (fun c_ => ?_)
      · skip
        have b_ := zT_ne rfl zk_0 c_
        have hc : va_P (dC, dI) vwCl [(h0, .inr (13, mX13 q0 v0)), ((q0 0), .inl (k1, 600, .inl f1))] H ∧ va_D A [(h0, .inr (13, mX13 q0 v0)), ((q0 0), .inl (k1, 600, .inl f1))] ∧ va_S A s.heap H locs ∧ lv_has ls 2 [(0, .ref h0)] ∧ (0 ≤ r11_.toInt ∧ r11_.toInt ≤ 1) ∧ ((v0 36).toInt = 1) := ⟨hP, hD, hS, lv_sub hl [0] rfl, ⟨by omega, by omega⟩, by omega⟩
        exact hJ35 H locs ls (fun _ => 0) (fun _ => 0) (fun _ => (fun _ => 0)) (fun _ => (fun _ => 0)) hc
      · skip
        have b_ := zF_ne rfl zk_0 c_
        refine lv_iconst (v := 0) hx hb dX13_isField_33 (by decide) ?_
        refine W.widen (k := 0) (n := 0) (by decide) (by decide) ?_
        have hpost : (0 ≤ (0 : Int32).toInt ∧ (0 : Int32).toInt ≤ 1) ∧ ((0 : Int32).toInt = 1 → (v0 36).toInt = 1) := ⟨⟨by omega, by omega⟩, by omega⟩
        have hP9 : va_P (dC, dI) vwCl [(h0, .inr (13, mX13 q0 v0)), ((q0 0), .inl (k1, 600, .inl f1))] H := hP
        have hD9 : va_D A [(h0, .inr (13, mX13 q0 v0)), ((q0 0), .inl (k1, 600, .inl f1))] := hD
        exact W.zret (v := 0) hx hb hr rfl (fun t ht hW => ⟨⟨0, (fun _ => 0), rfl, hpost, (fun _ => 0), (fun _ => (fun _ => 0)), (fun _ => (fun _ => 0)), by rw [ht]; exact hP9, va_K.moved hW.alike hK, hD9⟩, hS.F ht⟩) hS.2.2 dX13_isField_34
set_option maxHeartbeats 8000000 in
set_option maxRecDepth 100000 in
theorem sX13_begins_0 (l : Launch) (dC : Nat → ClassId) (dI : Nat → Nat → Nat) (adK adV : Nat → Nat) (h0 : Nat) (q0 : Nat → Nat) (k1 : ClassId) (sz : Nat) (v0 : Nat → Int32) (f1 : Nat → Int32) (hv0 : zR rg_Model v0) (hp0_ : (v0 36).toInt ≠ 0 → (v0 37).toInt < (v0 34).toInt) : Met l yX13_begins (zw yX13_begins cX13_begins 1 (some .boolean)) { frames := 4, cells := 0, slots := 0, locals := 86 } (zPc dC dI adK adV [.ref h0] sz [(h0, .inr (13, mX13 q0 v0)), ((q0 0), .inl (k1, 600, .inl f1))] [(k1, .byte)]) (va_Qi (fun (r : Int32) (u : Nat → Int32) => (0 ≤ r.toInt ∧ r.toInt ≤ 1) ∧ (r.toInt = 1 → (v0 36).toInt ≠ 0)) (fun (u : Nat → Int32) (t : State) => ∃ (ww : Nat → Int64) (aa : Nat → Nat → Int32) (bb : Nat → Nat → Int64), va_P (dC, dI) vwCl [(h0, .inr (13, mX13 q0 v0)), ((q0 0), .inl (k1, 600, .inl f1))] t.heap ∧ va_K (dC, dI) vwCl [(k1, .byte)] t ∧ va_D (va_A [(h0, .inr (13, mX13 q0 v0)), ((q0 0), .inl (k1, 600, .inl f1))] sz) [(h0, .inr (13, mX13 q0 v0)), ((q0 0), .inl (k1, 600, .inl f1))]) (va_A [(h0, .inr (13, mX13 q0 v0)), ((q0 0), .inl (k1, 600, .inl f1))] sz)) 0 0 (va_A [(h0, .inr (13, mX13 q0 v0)), ((q0 0), .inl (k1, 600, .inl f1))] sz) := by
  refine Met.ofW (cc := cX13_begins) (maxL := 1) (ret := (some .boolean)) (by decide) rfl ?_
  intro p e s m args below meth c s₁ B hml hv
  obtain ⟨rfl, hsz, hP, hK, hD0, hE, hZ⟩ := hv
  have hx := B.exec
  have hb := B.bytes
  have hr := B.returns
  have hG : ∀ w ∈ zG, w.before _ s = true := fun w h => atoms_spec (ws := (zw yX13_begins cX13_begins 1 (some .boolean))) B.pre w (List.mem_cons_of_mem _ h)
  have hown : s.vm.findClass RX13 = some m.cls := findClass_of_methodNamed B.named
  have hlocks := B.notSynchronized
  subst hsz
  have hD := hD0.self (sz := s.heap.size)
  generalize hAe : va_A [(h0, .inr (13, mX13 q0 v0)), ((q0 0), .inl (k1, 600, .inl f1))] s.heap.size = A at hD hZ ⊢
  have hA : ∀ q : Nat, s.heap.size ≤ q → A q := fun q h => by rw [← hAe]; exact Or.inr h
  have hS : va_S A s.heap s.heap [] := va_S.rf
  have hl := lv_entry ([.ref h0]) (n := 1) (Nat.le_of_ble_eq_true rfl)
  rw [lg_entry_eq]
  generalize (lg_sl ([.ref h0]) ++ List.replicate (1 - (lg_sl ([.ref h0])).length) Slot.unset).toArray = ls at hl ⊢
  have hl : lv_has ls 1 [(0, .ref h0)] := hl
  have b_ := zk_0
  have b_ := zk_1
  have b_ : 0 ≤ (v0 36).toInt ∧ (v0 36).toInt ≤ 3 := hv0 36
  have b_ : 0 ≤ (v0 37).toInt ∧ (v0 37).toInt ≤ 600 := hv0 37
  have b_ : 0 ≤ (v0 34).toInt ∧ (v0 34).toInt ≤ 600 := hv0 34
  refine lv_aload_n hx hb dX13_begins_0 rfl (lv_at hl 0 rfl) ?_
  refine va_get (D := (dC, dI)) (ci := 13) (v := .int (v0 36)) (C := RX13) (T := TX13) (N := 75) hx hb hG zuX13 hown hK hP 0 rfl rfl 36 (by decide) (hG _ zw681) (fun _ h9 => h9) rfl dX13_begins_1 ?_
  refine lv_iconst (v := 1) hx hb dX13_begins_4 (by decide) ?_
  refine lv_icmp_ne (tgt := 35) hx hb dX13_begins_5 (by decide) (fun c_ => ?_) (fun c_ => ?_)
  · skip
    have b_ := zT_ne rfl zk_1 c_
    refine lv_aload_n hx hb dX13_begins_35 rfl (lv_at hl 0 rfl) ?_
    refine lv_bipush (v := 40) hx hb dX13_begins_36 (by decide) ?_
    have hPc := hP.sub (ws' := [(h0, .inr (13, mX13 q0 v0)), ((q0 0), .inl (k1, 600, .inl f1))]) [0, 1] rfl
    have hDc := hD.sub (ws' := [(h0, .inr (13, mX13 q0 v0)), ((q0 0), .inl (k1, 600, .inl f1))]) [0, 1] (by decide) rfl
    have hKc := hK.sub (tys' := [(k1, .byte)]) [0] rfl
    have hFc := va_free (wc := [(h0, .inr (13, mX13 q0 v0)), ((q0 0), .inl (k1, 600, .inl f1))]) hD hS hA [0, 1] rfl
    refine va_calli (va_runV (As := [.int 40]) (rest := []) ⟨hx, hb, hml, hown, hG⟩ (sX13_isSign_0 l dC dI adK adV h0 q0 k1 s.heap.size v0 f1 40 hv0 (show (v0 36).toInt ≠ 0 → (v0 37).toInt < (v0 34).toInt from by omega)) (cwV 1 hG (zgV zw694 zw695 zw696 zw524 zw697) rfl rfl rfl (by decide +kernel) ⟨Nat.le_of_ble_eq_true rfl, Nat.le_of_ble_eq_true rfl⟩) ⟨zPc_blind, va_recv hKc hPc (ci := 13) (q0 := 0) rfl rfl, zPc_pre hPc hKc hDc hE hS hFc hZ⟩ rfl rfl hl.1 rfl (lv_room (Nat.le_of_ble_eq_true rfl)) dX13_begins_38 ⟨Nat.le_of_ble_eq_true rfl, Nat.le_of_ble_eq_true rfl⟩) hS (fun q _ h => hFc q h) hFc (fun r38_ u38_ t H1 locs ht hvm hw hB hz1 hk1 hS => ?_)
    have hw : (0 ≤ r38_.toInt ∧ r38_.toInt ≤ 1) ∧ (r38_.toInt = 1 → (v0 36).toInt = 2) := hw
    obtain ⟨b_, hX38_0⟩ := hw
    obtain ⟨w38_, a38_, b38_, hP1, hK1, hD1⟩ := hB
    rw [ht] at hP1
    obtain ⟨hP, hD⟩ := va_join (wr := []) (w1 := [(h0, .inr (13, mX13 q0 v0)), ((q0 0), .inl (k1, 600, .inl f1))]) hP hD [0, 1] [] rfl rfl (by decide) (by decide) hk1 hFc hP1 hD1
    have hP : va_P (dC, dI) vwCl [(h0, .inr (13, mX13 q0 v0)), ((q0 0), .inl (k1, 600, .inl f1))] H1 := hP.sub [0, 1] rfl
    have hD : va_D A [(h0, .inr (13, mX13 q0 v0)), ((q0 0), .inl (k1, 600, .inl f1))] := hD.sub [0, 1] (by decide) rfl
    generalize H1 = H at hP hS ⊢
    clear hz1
    refine lv_if_ne (tgt := 62) hx hb dX13_begins_41 (by decide) (fun c_ => ?_) (fun c_ => ?_)
    · skip
      have b_ := zT_ne rfl zk_0 c_
      refine lv_iconst (v := 1) hx hb dX13_begins_62 (by decide) ?_
      refine lv_goto (tgt := 67) hx hb dX13_begins_63 (by decide) ?_
      refine W.widen (k := 0) (n := 0) (by decide) (by decide) ?_
      have hpost : (0 ≤ (1 : Int32).toInt ∧ (1 : Int32).toInt ≤ 1) ∧ ((1 : Int32).toInt = 1 → (v0 36).toInt ≠ 0) := ⟨⟨by omega, by omega⟩, by omega⟩
      have hP9 : va_P (dC, dI) vwCl [(h0, .inr (13, mX13 q0 v0)), ((q0 0), .inl (k1, 600, .inl f1))] H := hP
      have hD9 : va_D A [(h0, .inr (13, mX13 q0 v0)), ((q0 0), .inl (k1, 600, .inl f1))] := hD
      exact W.zret (v := 1) hx hb hr rfl (fun t ht hW => ⟨⟨1, (fun _ => 0), rfl, hpost, (fun _ => 0), (fun _ => (fun _ => 0)), (fun _ => (fun _ => 0)), by rw [ht]; exact hP9, va_K.moved hW.alike hK, hD9⟩, hS.F ht⟩) hS.2.2 dX13_begins_67
    · skip
      have b_ := zF_ne rfl zk_0 c_
      refine lv_aload_n hx hb dX13_begins_44 rfl (lv_at hl 0 rfl) ?_
      refine lv_bipush (v := 91) hx hb dX13_begins_45 (by decide) ?_
      have hPc := hP.sub (ws' := [(h0, .inr (13, mX13 q0 v0)), ((q0 0), .inl (k1, 600, .inl f1))]) [0, 1] rfl
      have hDc := hD.sub (ws' := [(h0, .inr (13, mX13 q0 v0)), ((q0 0), .inl (k1, 600, .inl f1))]) [0, 1] (by decide) rfl
      have hKc := hK.sub (tys' := [(k1, .byte)]) [0] rfl
      have hFc := va_free (wc := [(h0, .inr (13, mX13 q0 v0)), ((q0 0), .inl (k1, 600, .inl f1))]) hD hS hA [0, 1] rfl
      refine va_calli (va_runV (As := [.int 91]) (rest := []) ⟨hx, hb, hml, hown, hG⟩ (sX13_isSign_0 l dC dI adK adV h0 q0 k1 H.size v0 f1 91 hv0 (show (v0 36).toInt ≠ 0 → (v0 37).toInt < (v0 34).toInt from by omega)) (cwV 1 hG (zgV zw694 zw695 zw696 zw524 zw697) rfl rfl rfl (by decide +kernel) ⟨Nat.le_of_ble_eq_true rfl, Nat.le_of_ble_eq_true rfl⟩) ⟨zPc_blind, va_recv hKc hPc (ci := 13) (q0 := 0) rfl rfl, zPc_pre hPc hKc hDc hE hS hFc hZ⟩ rfl rfl hl.1 rfl (lv_room (Nat.le_of_ble_eq_true rfl)) dX13_begins_47 ⟨Nat.le_of_ble_eq_true rfl, Nat.le_of_ble_eq_true rfl⟩) hS (fun q _ h => hFc q h) hFc (fun r47_ u47_ t H1 locs ht hvm hw hB hz1 hk1 hS => ?_)
      have hw : (0 ≤ r47_.toInt ∧ r47_.toInt ≤ 1) ∧ (r47_.toInt = 1 → (v0 36).toInt = 2) := hw
      obtain ⟨b_, hX47_0⟩ := hw
      obtain ⟨w47_, a47_, b47_, hP1, hK1, hD1⟩ := hB
      rw [ht] at hP1
      obtain ⟨hP, hD⟩ := va_join (wr := []) (w1 := [(h0, .inr (13, mX13 q0 v0)), ((q0 0), .inl (k1, 600, .inl f1))]) hP hD [0, 1] [] rfl rfl (by decide) (by decide) hk1 hFc hP1 hD1
      have hP : va_P (dC, dI) vwCl [(h0, .inr (13, mX13 q0 v0)), ((q0 0), .inl (k1, 600, .inl f1))] H1 := hP.sub [0, 1] rfl
      have hD : va_D A [(h0, .inr (13, mX13 q0 v0)), ((q0 0), .inl (k1, 600, .inl f1))] := hD.sub [0, 1] (by decide) rfl
      generalize H1 = H at hP hS ⊢
      clear hz1
      refine lv_if_ne (tgt := 62) hx hb dX13_begins_50 (by decide) (fun c_ => ?_) (fun c_ => ?_)
      · skip
        have b_ := zT_ne rfl zk_0 c_
        refine lv_iconst (v := 1) hx hb dX13_begins_62 (by decide) ?_
        refine lv_goto (tgt := 67) hx hb dX13_begins_63 (by decide) ?_
        refine W.widen (k := 0) (n := 0) (by decide) (by decide) ?_
        have hpost : (0 ≤ (1 : Int32).toInt ∧ (1 : Int32).toInt ≤ 1) ∧ ((1 : Int32).toInt = 1 → (v0 36).toInt ≠ 0) := ⟨⟨by omega, by omega⟩, by omega⟩
        have hP9 : va_P (dC, dI) vwCl [(h0, .inr (13, mX13 q0 v0)), ((q0 0), .inl (k1, 600, .inl f1))] H := hP
        have hD9 : va_D A [(h0, .inr (13, mX13 q0 v0)), ((q0 0), .inl (k1, 600, .inl f1))] := hD
        exact W.zret (v := 1) hx hb hr rfl (fun t ht hW => ⟨⟨1, (fun _ => 0), rfl, hpost, (fun _ => 0), (fun _ => (fun _ => 0)), (fun _ => (fun _ => 0)), by rw [ht]; exact hP9, va_K.moved hW.alike hK, hD9⟩, hS.F ht⟩) hS.2.2 dX13_begins_67
      · skip
        have b_ := zF_ne rfl zk_0 c_
        refine lv_aload_n hx hb dX13_begins_53 rfl (lv_at hl 0 rfl) ?_
        refine lv_bipush (v := 34) hx hb dX13_begins_54 (by decide) ?_
        have hPc := hP.sub (ws' := [(h0, .inr (13, mX13 q0 v0)), ((q0 0), .inl (k1, 600, .inl f1))]) [0, 1] rfl
        have hDc := hD.sub (ws' := [(h0, .inr (13, mX13 q0 v0)), ((q0 0), .inl (k1, 600, .inl f1))]) [0, 1] (by decide) rfl
        have hKc := hK.sub (tys' := [(k1, .byte)]) [0] rfl
        have hFc := va_free (wc := [(h0, .inr (13, mX13 q0 v0)), ((q0 0), .inl (k1, 600, .inl f1))]) hD hS hA [0, 1] rfl
        refine va_calli (va_runV (As := [.int 34]) (rest := []) ⟨hx, hb, hml, hown, hG⟩ (sX13_isSign_0 l dC dI adK adV h0 q0 k1 H.size v0 f1 34 hv0 (show (v0 36).toInt ≠ 0 → (v0 37).toInt < (v0 34).toInt from by omega)) (cwV 1 hG (zgV zw694 zw695 zw696 zw524 zw697) rfl rfl rfl (by decide +kernel) ⟨Nat.le_of_ble_eq_true rfl, Nat.le_of_ble_eq_true rfl⟩) ⟨zPc_blind, va_recv hKc hPc (ci := 13) (q0 := 0) rfl rfl, zPc_pre hPc hKc hDc hE hS hFc hZ⟩ rfl rfl hl.1 rfl (lv_room (Nat.le_of_ble_eq_true rfl)) dX13_begins_56 ⟨Nat.le_of_ble_eq_true rfl, Nat.le_of_ble_eq_true rfl⟩) hS (fun q _ h => hFc q h) hFc (fun r56_ u56_ t H1 locs ht hvm hw hB hz1 hk1 hS => ?_)
        have hw : (0 ≤ r56_.toInt ∧ r56_.toInt ≤ 1) ∧ (r56_.toInt = 1 → (v0 36).toInt = 2) := hw
        obtain ⟨b_, hX56_0⟩ := hw
        obtain ⟨w56_, a56_, b56_, hP1, hK1, hD1⟩ := hB
        rw [ht] at hP1
        obtain ⟨hP, hD⟩ := va_join (wr := []) (w1 := [(h0, .inr (13, mX13 q0 v0)), ((q0 0), .inl (k1, 600, .inl f1))]) hP hD [0, 1] [] rfl rfl (by decide) (by decide) hk1 hFc hP1 hD1
        have hP : va_P (dC, dI) vwCl [(h0, .inr (13, mX13 q0 v0)), ((q0 0), .inl (k1, 600, .inl f1))] H1 := hP.sub [0, 1] rfl
        have hD : va_D A [(h0, .inr (13, mX13 q0 v0)), ((q0 0), .inl (k1, 600, .inl f1))] := hD.sub [0, 1] (by decide) rfl
        generalize H1 = H at hP hS ⊢
        clear hz1
        refine lv_if_eq (tgt := 66) hx hb dX13_begins_59 (by decide) (fun c_ => ?_) (fun c_ => ?_)
        · skip
          have b_ := zT_eq rfl zk_0 c_
          refine lv_iconst (v := 0) hx hb dX13_begins_66 (by decide) ?_
          refine W.widen (k := 0) (n := 0) (by decide) (by decide) ?_
          have hpost : (0 ≤ (0 : Int32).toInt ∧ (0 : Int32).toInt ≤ 1) ∧ ((0 : Int32).toInt = 1 → (v0 36).toInt ≠ 0) := ⟨⟨by omega, by omega⟩, by omega⟩
          have hP9 : va_P (dC, dI) vwCl [(h0, .inr (13, mX13 q0 v0)), ((q0 0), .inl (k1, 600, .inl f1))] H := hP
          have hD9 : va_D A [(h0, .inr (13, mX13 q0 v0)), ((q0 0), .inl (k1, 600, .inl f1))] := hD
          exact W.zret (v := 0) hx hb hr rfl (fun t ht hW => ⟨⟨0, (fun _ => 0), rfl, hpost, (fun _ => 0), (fun _ => (fun _ => 0)), (fun _ => (fun _ => 0)), by rw [ht]; exact hP9, va_K.moved hW.alike hK, hD9⟩, hS.F ht⟩) hS.2.2 dX13_begins_67
        · skip
          have b_ := zF_eq rfl zk_0 c_
          refine lv_iconst (v := 1) hx hb dX13_begins_62 (by decide) ?_
          refine lv_goto (tgt := 67) hx hb dX13_begins_63 (by decide) ?_
          refine W.widen (k := 0) (n := 0) (by decide) (by decide) ?_
          have hpost : (0 ≤ (1 : Int32).toInt ∧ (1 : Int32).toInt ≤ 1) ∧ ((1 : Int32).toInt = 1 → (v0 36).toInt ≠ 0) := ⟨⟨by omega, by omega⟩, by omega⟩
          have hP9 : va_P (dC, dI) vwCl [(h0, .inr (13, mX13 q0 v0)), ((q0 0), .inl (k1, 600, .inl f1))] H := hP
          have hD9 : va_D A [(h0, .inr (13, mX13 q0 v0)), ((q0 0), .inl (k1, 600, .inl f1))] := hD
          exact W.zret (v := 1) hx hb hr rfl (fun t ht hW => ⟨⟨1, (fun _ => 0), rfl, hpost, (fun _ => 0), (fun _ => (fun _ => 0)), (fun _ => (fun _ => 0)), by rw [ht]; exact hP9, va_K.moved hW.alike hK, hD9⟩, hS.F ht⟩) hS.2.2 dX13_begins_67
  · skip
    have b_ := zF_ne rfl zk_1 c_
    refine lv_aload_n hx hb dX13_begins_8 rfl (lv_at hl 0 rfl) ?_
    have hPc := hP.sub (ws' := [(h0, .inr (13, mX13 q0 v0)), ((q0 0), .inl (k1, 600, .inl f1))]) [0, 1] rfl
    have hDc := hD.sub (ws' := [(h0, .inr (13, mX13 q0 v0)), ((q0 0), .inl (k1, 600, .inl f1))]) [0, 1] (by decide) rfl
    have hKc := hK.sub (tys' := [(k1, .byte)]) [0] rfl
    have hFc := va_free (wc := [(h0, .inr (13, mX13 q0 v0)), ((q0 0), .inl (k1, 600, .inl f1))]) hD hS hA [0, 1] rfl
    refine va_calli (va_runV (As := []) (rest := []) ⟨hx, hb, hml, hown, hG⟩ (sX13_isOr_0 l dC dI adK adV h0 q0 k1 s.heap.size v0 f1 hv0) (cwV 0 hG (zgV zw698 zw699 zw700 zw524 zw701) rfl rfl rfl (by decide +kernel) ⟨Nat.le_of_ble_eq_true rfl, Nat.le_of_ble_eq_true rfl⟩) ⟨zPc_blind, va_recv hKc hPc (ci := 13) (q0 := 0) rfl rfl, zPc_pre hPc hKc hDc hE hS hFc hZ⟩ rfl rfl hl.1 rfl (lv_room (Nat.le_of_ble_eq_true rfl)) dX13_begins_9 ⟨Nat.le_of_ble_eq_true rfl, Nat.le_of_ble_eq_true rfl⟩) hS (fun q _ h => hFc q h) hFc (fun r9_ u9_ t H1 locs ht hvm hw hB hz1 hk1 hS => ?_)
    have hw : (0 ≤ r9_.toInt ∧ r9_.toInt ≤ 1) ∧ (r9_.toInt = 1 → (v0 36).toInt = 1) := hw
    obtain ⟨b_, hX9_0⟩ := hw
    obtain ⟨w9_, a9_, b9_, hP1, hK1, hD1⟩ := hB
    rw [ht] at hP1
    obtain ⟨hP, hD⟩ := va_join (wr := []) (w1 := [(h0, .inr (13, mX13 q0 v0)), ((q0 0), .inl (k1, 600, .inl f1))]) hP hD [0, 1] [] rfl rfl (by decide) (by decide) hk1 hFc hP1 hD1
    have hP : va_P (dC, dI) vwCl [(h0, .inr (13, mX13 q0 v0)), ((q0 0), .inl (k1, 600, .inl f1))] H1 := hP.sub [0, 1] rfl
    have hD : va_D A [(h0, .inr (13, mX13 q0 v0)), ((q0 0), .inl (k1, 600, .inl f1))] := hD.sub [0, 1] (by decide) rfl
    generalize H1 = H at hP hS ⊢
    clear hz1
    refine lv_if_ne (tgt := 33) hx hb dX13_begins_12 (by decide) (fun c_ => ?_) (fun c_ => ?_)
    · skip
      have b_ := zT_ne rfl zk_0 c_
      refine lv_iconst (v := 0) hx hb dX13_begins_33 (by decide) ?_
      refine W.widen (k := 0) (n := 0) (by decide) (by decide) ?_
      have hpost : (0 ≤ (0 : Int32).toInt ∧ (0 : Int32).toInt ≤ 1) ∧ ((0 : Int32).toInt = 1 → (v0 36).toInt ≠ 0) := ⟨⟨by omega, by omega⟩, by omega⟩
      have hP9 : va_P (dC, dI) vwCl [(h0, .inr (13, mX13 q0 v0)), ((q0 0), .inl (k1, 600, .inl f1))] H := hP
      have hD9 : va_D A [(h0, .inr (13, mX13 q0 v0)), ((q0 0), .inl (k1, 600, .inl f1))] := hD
      exact W.zret (v := 0) hx hb hr rfl (fun t ht hW => ⟨⟨0, (fun _ => 0), rfl, hpost, (fun _ => 0), (fun _ => (fun _ => 0)), (fun _ => (fun _ => 0)), by rw [ht]; exact hP9, va_K.moved hW.alike hK, hD9⟩, hS.F ht⟩) hS.2.2 dX13_begins_34
    · skip
      have b_ := zF_ne rfl zk_0 c_
      refine lv_aload_n hx hb dX13_begins_15 rfl (lv_at hl 0 rfl) ?_
      have hPc := hP.sub (ws' := [(h0, .inr (13, mX13 q0 v0)), ((q0 0), .inl (k1, 600, .inl f1))]) [0, 1] rfl
      have hDc := hD.sub (ws' := [(h0, .inr (13, mX13 q0 v0)), ((q0 0), .inl (k1, 600, .inl f1))]) [0, 1] (by decide) rfl
      have hKc := hK.sub (tys' := [(k1, .byte)]) [0] rfl
      have hFc := va_free (wc := [(h0, .inr (13, mX13 q0 v0)), ((q0 0), .inl (k1, 600, .inl f1))]) hD hS hA [0, 1] rfl
      refine va_calli (va_runV (As := []) (rest := []) ⟨hx, hb, hml, hown, hG⟩ (sX13_isAnd_0 l dC dI adK adV h0 q0 k1 H.size v0 f1 hv0) (cwV 0 hG (zgV zw702 zw703 zw704 zw524 zw705) rfl rfl rfl (by decide +kernel) ⟨Nat.le_of_ble_eq_true rfl, Nat.le_of_ble_eq_true rfl⟩) ⟨zPc_blind, va_recv hKc hPc (ci := 13) (q0 := 0) rfl rfl, zPc_pre hPc hKc hDc hE hS hFc hZ⟩ rfl rfl hl.1 rfl (lv_room (Nat.le_of_ble_eq_true rfl)) dX13_begins_16 ⟨Nat.le_of_ble_eq_true rfl, Nat.le_of_ble_eq_true rfl⟩) hS (fun q _ h => hFc q h) hFc (fun r16_ u16_ t H1 locs ht hvm hw hB hz1 hk1 hS => ?_)
      have hw : (0 ≤ r16_.toInt ∧ r16_.toInt ≤ 1) ∧ (r16_.toInt = 1 → (v0 36).toInt = 1) := hw
      obtain ⟨b_, hX16_0⟩ := hw
      obtain ⟨w16_, a16_, b16_, hP1, hK1, hD1⟩ := hB
      rw [ht] at hP1
      obtain ⟨hP, hD⟩ := va_join (wr := []) (w1 := [(h0, .inr (13, mX13 q0 v0)), ((q0 0), .inl (k1, 600, .inl f1))]) hP hD [0, 1] [] rfl rfl (by decide) (by decide) hk1 hFc hP1 hD1
      have hP : va_P (dC, dI) vwCl [(h0, .inr (13, mX13 q0 v0)), ((q0 0), .inl (k1, 600, .inl f1))] H1 := hP.sub [0, 1] rfl
      have hD : va_D A [(h0, .inr (13, mX13 q0 v0)), ((q0 0), .inl (k1, 600, .inl f1))] := hD.sub [0, 1] (by decide) rfl
      generalize H1 = H at hP hS ⊢
      clear hz1
      refine lv_if_ne (tgt := 33) hx hb dX13_begins_19 (by decide) (fun c_ => ?_) (fun c_ => ?_)
      · skip
        have b_ := zT_ne rfl zk_0 c_
        refine lv_iconst (v := 0) hx hb dX13_begins_33 (by decide) ?_
        refine W.widen (k := 0) (n := 0) (by decide) (by decide) ?_
        have hpost : (0 ≤ (0 : Int32).toInt ∧ (0 : Int32).toInt ≤ 1) ∧ ((0 : Int32).toInt = 1 → (v0 36).toInt ≠ 0) := ⟨⟨by omega, by omega⟩, by omega⟩
        have hP9 : va_P (dC, dI) vwCl [(h0, .inr (13, mX13 q0 v0)), ((q0 0), .inl (k1, 600, .inl f1))] H := hP
        have hD9 : va_D A [(h0, .inr (13, mX13 q0 v0)), ((q0 0), .inl (k1, 600, .inl f1))] := hD
        exact W.zret (v := 0) hx hb hr rfl (fun t ht hW => ⟨⟨0, (fun _ => 0), rfl, hpost, (fun _ => 0), (fun _ => (fun _ => 0)), (fun _ => (fun _ => 0)), by rw [ht]; exact hP9, va_K.moved hW.alike hK, hD9⟩, hS.F ht⟩) hS.2.2 dX13_begins_34
      · skip
        have b_ := zF_ne rfl zk_0 c_
        refine lv_aload_n hx hb dX13_begins_22 rfl (lv_at hl 0 rfl) ?_
        have hPc := hP.sub (ws' := [(h0, .inr (13, mX13 q0 v0)), ((q0 0), .inl (k1, 600, .inl f1))]) [0, 1] rfl
        have hDc := hD.sub (ws' := [(h0, .inr (13, mX13 q0 v0)), ((q0 0), .inl (k1, 600, .inl f1))]) [0, 1] (by decide) rfl
        have hKc := hK.sub (tys' := [(k1, .byte)]) [0] rfl
        have hFc := va_free (wc := [(h0, .inr (13, mX13 q0 v0)), ((q0 0), .inl (k1, 600, .inl f1))]) hD hS hA [0, 1] rfl
        refine va_calli (va_runV (As := []) (rest := []) ⟨hx, hb, hml, hown, hG⟩ (sX13_isNear_0 l dC dI adK adV h0 q0 k1 H.size v0 f1 hv0) (cwV 0 hG (zgV zw706 zw707 zw708 zw524 zw709) rfl rfl rfl (by decide +kernel) ⟨Nat.le_of_ble_eq_true rfl, Nat.le_of_ble_eq_true rfl⟩) ⟨zPc_blind, va_recv hKc hPc (ci := 13) (q0 := 0) rfl rfl, zPc_pre hPc hKc hDc hE hS hFc hZ⟩ rfl rfl hl.1 rfl (lv_room (Nat.le_of_ble_eq_true rfl)) dX13_begins_23 ⟨Nat.le_of_ble_eq_true rfl, Nat.le_of_ble_eq_true rfl⟩) hS (fun q _ h => hFc q h) hFc (fun r23_ u23_ t H1 locs ht hvm hw hB hz1 hk1 hS => ?_)
        have hw : (0 ≤ r23_.toInt ∧ r23_.toInt ≤ 1) ∧ (r23_.toInt = 1 → (v0 36).toInt = 1) := hw
        obtain ⟨b_, hX23_0⟩ := hw
        obtain ⟨w23_, a23_, b23_, hP1, hK1, hD1⟩ := hB
        rw [ht] at hP1
        obtain ⟨hP, hD⟩ := va_join (wr := []) (w1 := [(h0, .inr (13, mX13 q0 v0)), ((q0 0), .inl (k1, 600, .inl f1))]) hP hD [0, 1] [] rfl rfl (by decide) (by decide) hk1 hFc hP1 hD1
        have hP : va_P (dC, dI) vwCl [(h0, .inr (13, mX13 q0 v0)), ((q0 0), .inl (k1, 600, .inl f1))] H1 := hP.sub [0, 1] rfl
        have hD : va_D A [(h0, .inr (13, mX13 q0 v0)), ((q0 0), .inl (k1, 600, .inl f1))] := hD.sub [0, 1] (by decide) rfl
        generalize H1 = H at hP hS ⊢
        clear hz1
        refine lv_if_ne (tgt := 33) hx hb dX13_begins_26 (by decide) (fun c_ => ?_) (fun c_ => ?_)
        · skip
          have b_ := zT_ne rfl zk_0 c_
          refine lv_iconst (v := 0) hx hb dX13_begins_33 (by decide) ?_
          refine W.widen (k := 0) (n := 0) (by decide) (by decide) ?_
          have hpost : (0 ≤ (0 : Int32).toInt ∧ (0 : Int32).toInt ≤ 1) ∧ ((0 : Int32).toInt = 1 → (v0 36).toInt ≠ 0) := ⟨⟨by omega, by omega⟩, by omega⟩
          have hP9 : va_P (dC, dI) vwCl [(h0, .inr (13, mX13 q0 v0)), ((q0 0), .inl (k1, 600, .inl f1))] H := hP
          have hD9 : va_D A [(h0, .inr (13, mX13 q0 v0)), ((q0 0), .inl (k1, 600, .inl f1))] := hD
          exact W.zret (v := 0) hx hb hr rfl (fun t ht hW => ⟨⟨0, (fun _ => 0), rfl, hpost, (fun _ => 0), (fun _ => (fun _ => 0)), (fun _ => (fun _ => 0)), by rw [ht]; exact hP9, va_K.moved hW.alike hK, hD9⟩, hS.F ht⟩) hS.2.2 dX13_begins_34
        · skip
          have b_ := zF_ne rfl zk_0 c_
          refine lv_iconst (v := 1) hx hb dX13_begins_29 (by decide) ?_
          refine lv_goto (tgt := 34) hx hb dX13_begins_30 (by decide) ?_
          refine W.widen (k := 0) (n := 0) (by decide) (by decide) ?_
          have hpost : (0 ≤ (1 : Int32).toInt ∧ (1 : Int32).toInt ≤ 1) ∧ ((1 : Int32).toInt = 1 → (v0 36).toInt ≠ 0) := ⟨⟨by omega, by omega⟩, by omega⟩
          have hP9 : va_P (dC, dI) vwCl [(h0, .inr (13, mX13 q0 v0)), ((q0 0), .inl (k1, 600, .inl f1))] H := hP
          have hD9 : va_D A [(h0, .inr (13, mX13 q0 v0)), ((q0 0), .inl (k1, 600, .inl f1))] := hD
          exact W.zret (v := 1) hx hb hr rfl (fun t ht hW => ⟨⟨1, (fun _ => 0), rfl, hpost, (fun _ => 0), (fun _ => (fun _ => 0)), (fun _ => (fun _ => 0)), by rw [ht]; exact hP9, va_K.moved hW.alike hK, hD9⟩, hS.F ht⟩) hS.2.2 dX13_begins_34
set_option maxHeartbeats 8000000 in
set_option maxRecDepth 100000 in
theorem sX13_node_0 (l : Launch) (dC : Nat → ClassId) (dI : Nat → Nat → Nat) (adK adV : Nat → Nat) (h0 : Nat) (q0 : Nat → Nat) (k23 : ClassId) (k24 : ClassId) (k25 : ClassId) (k26 : ClassId) (k34 : ClassId) (k33 : ClassId) (sz : Nat) (v0 : Nat → Int32) (f23 : Nat → Int32) (f24 : Nat → Int32) (f25 : Nat → Int32) (f26 : Nat → Int32) (f34 : Nat → Int32) (f33 : Nat → Int32) (x1 : Int32) (x2 : Int32) (x3 : Int32) (x4 : Int32) (hv0 : zR rg_Model v0) (hf24 : zA (-1) 1299 f24) (hf25 : zA (-1) 1299 f25) (hx2 : (-1) ≤ x2.toInt ∧ x2.toInt ≤ 1299) (hx3 : (-1) ≤ x3.toInt ∧ x3.toInt ≤ 1299) (hp0_ : (v0 42).toInt ≤ 1299) (hp1_ : (v0 53).toInt ≤ 1299) (hp2_ : zTr f23 f24 f25 f26 (v0 42).toInt) (hp3_ : zNd f23 (v0 42).toInt x1.toInt x2.toInt x3.toInt x4.toInt) : Met l yX13_node (zw yX13_node cX13_node 5 (some .int)) { frames := 0, cells := 0, slots := 0, locals := 0 } (zPc dC dI adK adV [.ref h0, .int x1, .int x2, .int x3, .int x4] sz [(h0, .inr (13, mX13 q0 v0)), ((q0 38), .inl (k23, 1300, .inl f23)), ((q0 39), .inl (k24, 1300, .inl f24)), ((q0 40), .inl (k25, 1300, .inl f25)), ((q0 41), .inl (k26, 1300, .inl f26)), ((q0 56), .inl (k34, 1300, .inl f34)), ((q0 52), .inl (k33, 1300, .inl f33))] [(k23, .int), (k24, .int), (k25, .int), (k26, .int), (k34, .boolean), (k33, .int)]) (va_Qi (fun (r : Int32) (u : Nat → Int32) => (0 ≤ r.toInt ∧ r.toInt ≤ 1299) ∧ (1 ≤ (u 0).toInt ∧ (u 0).toInt ≤ 1300) ∧ (1 ≤ (u 1).toInt ∧ (u 1).toInt ≤ 1300) ∧ (r.toInt = (v0 42).toInt) ∧ ((u 0).toInt = (v0 42).toInt + 1) ∧ ((u 1).toInt = (v0 53).toInt + 1)) (fun (u : Nat → Int32) (t : State) => ∃ (ww : Nat → Int64) (aa : Nat → Nat → Int32) (bb : Nat → Nat → Int64), zA (-1) 1299 (aa 1) ∧ zA (-1) 1299 (aa 2) ∧ (zTr (aa 0) (aa 1) (aa 2) (aa 3) (u 0).toInt) ∧ va_P (dC, dI) vwCl [(h0, .inr (13, mX13 q0 (upd (upd v0 42 (u 0)) 53 (u 1)))), ((q0 38), .inl (k23, 1300, .inl (aa 0))), ((q0 39), .inl (k24, 1300, .inl (aa 1))), ((q0 40), .inl (k25, 1300, .inl (aa 2))), ((q0 41), .inl (k26, 1300, .inl (aa 3))), ((q0 56), .inl (k34, 1300, .inl (aa 4))), ((q0 52), .inl (k33, 1300, .inl (aa 5)))] t.heap ∧ va_K (dC, dI) vwCl [(k23, .int), (k24, .int), (k25, .int), (k26, .int), (k34, .boolean), (k33, .int)] t ∧ va_D (va_A [(h0, .inr (13, mX13 q0 v0)), ((q0 38), .inl (k23, 1300, .inl f23)), ((q0 39), .inl (k24, 1300, .inl f24)), ((q0 40), .inl (k25, 1300, .inl f25)), ((q0 41), .inl (k26, 1300, .inl f26)), ((q0 56), .inl (k34, 1300, .inl f34)), ((q0 52), .inl (k33, 1300, .inl f33))] sz) [(h0, .inr (13, mX13 q0 (upd (upd v0 42 (u 0)) 53 (u 1)))), ((q0 38), .inl (k23, 1300, .inl (aa 0))), ((q0 39), .inl (k24, 1300, .inl (aa 1))), ((q0 40), .inl (k25, 1300, .inl (aa 2))), ((q0 41), .inl (k26, 1300, .inl (aa 3))), ((q0 56), .inl (k34, 1300, .inl (aa 4))), ((q0 52), .inl (k33, 1300, .inl (aa 5)))]) (va_A [(h0, .inr (13, mX13 q0 v0)), ((q0 38), .inl (k23, 1300, .inl f23)), ((q0 39), .inl (k24, 1300, .inl f24)), ((q0 40), .inl (k25, 1300, .inl f25)), ((q0 41), .inl (k26, 1300, .inl f26)), ((q0 56), .inl (k34, 1300, .inl f34)), ((q0 52), .inl (k33, 1300, .inl f33))] sz)) 0 0 (va_A [(h0, .inr (13, mX13 q0 v0)), ((q0 38), .inl (k23, 1300, .inl f23)), ((q0 39), .inl (k24, 1300, .inl f24)), ((q0 40), .inl (k25, 1300, .inl f25)), ((q0 41), .inl (k26, 1300, .inl f26)), ((q0 56), .inl (k34, 1300, .inl f34)), ((q0 52), .inl (k33, 1300, .inl f33))] sz) := by
  refine Met.ofW (cc := cX13_node) (maxL := 5) (ret := (some .int)) (by decide) rfl ?_
  intro p e s m args below meth c s₁ B hml hv
  obtain ⟨rfl, hsz, hP, hK, hD0, hE, hZ⟩ := hv
  have hx := B.exec
  have hb := B.bytes
  have hr := B.returns
  have hG : ∀ w ∈ zG, w.before _ s = true := fun w h => atoms_spec (ws := (zw yX13_node cX13_node 5 (some .int))) B.pre w (List.mem_cons_of_mem _ h)
  have hown : s.vm.findClass RX13 = some m.cls := findClass_of_methodNamed B.named
  have hlocks := B.notSynchronized
  subst hsz
  have hD := hD0.self (sz := s.heap.size)
  generalize hAe : va_A [(h0, .inr (13, mX13 q0 v0)), ((q0 38), .inl (k23, 1300, .inl f23)), ((q0 39), .inl (k24, 1300, .inl f24)), ((q0 40), .inl (k25, 1300, .inl f25)), ((q0 41), .inl (k26, 1300, .inl f26)), ((q0 56), .inl (k34, 1300, .inl f34)), ((q0 52), .inl (k33, 1300, .inl f33))] s.heap.size = A at hD hZ ⊢
  have hA : ∀ q : Nat, s.heap.size ≤ q → A q := fun q h => by rw [← hAe]; exact Or.inr h
  have hS : va_S A s.heap s.heap [] := va_S.rf
  have hl := lv_entry ([.ref h0, .int x1, .int x2, .int x3, .int x4]) (n := 5) (Nat.le_of_ble_eq_true rfl)
  rw [lg_entry_eq]
  generalize (lg_sl ([.ref h0, .int x1, .int x2, .int x3, .int x4]) ++ List.replicate (5 - (lg_sl ([.ref h0, .int x1, .int x2, .int x3, .int x4])).length) Slot.unset).toArray = ls at hl ⊢
  have hl : lv_has ls 5 [(0, .ref h0), (1, .int x1), (2, .int x2), (3, .int x3), (4, .int x4)] := hl
  have b_ : 0 ≤ (v0 42).toInt ∧ (v0 42).toInt ≤ 1300 := hv0 42
  have b_ : 0 ≤ (v0 53).toInt ∧ (v0 53).toInt ≤ 1300 := hv0 53
  refine lv_aload_n hx hb dX13_node_0 rfl (lv_at hl 0 rfl) ?_
  refine va_get (D := (dC, dI)) (ci := 13) (v := .ref (q0 38)) (C := RX13) (T := TX13) (N := 75) hx hb hG zuX13 hown hK hP 0 rfl rfl 38 (by decide) (hG _ zw710) (fun _ h9 => h9) rfl dX13_node_1 ?_
  refine lv_aload_n hx hb dX13_node_4 rfl (lv_at hl 0 rfl) ?_
  refine va_get (D := (dC, dI)) (ci := 13) (v := .int (v0 42)) (C := RX13) (T := TX13) (N := 75) hx hb hG zuX13 hown hK hP 0 rfl rfl 42 (by decide) (hG _ zw711) (fun _ h9 => h9) rfl dX13_node_5 ?_
  refine lv_iload_n hx hb dX13_node_8 rfl (lv_at hl 1 rfl) ?_
  refine va_iast hx hb hK hP hD hS 1 0 rfl rfl (zin_lit ⟨by omega, by omega⟩) dX13_node_9 (fun H locs hP hD hS => ?_)
  obtain ⟨f_9, e_f_9⟩ : ∃ z : Nat → Int32, z = upd f23 ((v0 42) : Int32).toNatClampNeg x1 := ⟨_, rfl⟩
  have hP : va_P (dC, dI) vwCl [(h0, .inr (13, mX13 q0 v0)), ((q0 38), .inl (k23, 1300, .inl f_9)), ((q0 39), .inl (k24, 1300, .inl f24)), ((q0 40), .inl (k25, 1300, .inl f25)), ((q0 41), .inl (k26, 1300, .inl f26)), ((q0 56), .inl (k34, 1300, .inl f34)), ((q0 52), .inl (k33, 1300, .inl f33))] H := by rw [e_f_9]; exact hP
  have hD : va_D A [(h0, .inr (13, mX13 q0 v0)), ((q0 38), .inl (k23, 1300, .inl f_9)), ((q0 39), .inl (k24, 1300, .inl f24)), ((q0 40), .inl (k25, 1300, .inl f25)), ((q0 41), .inl (k26, 1300, .inl f26)), ((q0 56), .inl (k34, 1300, .inl f34)), ((q0 52), .inl (k33, 1300, .inl f33))] := by rw [e_f_9]; exact hD
  refine lv_aload_n hx hb dX13_node_10 rfl (lv_at hl 0 rfl) ?_
  refine va_get (D := (dC, dI)) (ci := 13) (v := .ref (q0 39)) (C := RX13) (T := TX13) (N := 75) hx hb hG zuX13 hown hK hP 0 rfl rfl 39 (by decide) (hG _ zw712) (fun _ h9 => h9) rfl dX13_node_11 ?_
  refine lv_aload_n hx hb dX13_node_14 rfl (lv_at hl 0 rfl) ?_
  refine va_get (D := (dC, dI)) (ci := 13) (v := .int (v0 42)) (C := RX13) (T := TX13) (N := 75) hx hb hG zuX13 hown hK hP 0 rfl rfl 42 (by decide) (hG _ zw711) (fun _ h9 => h9) rfl dX13_node_15 ?_
  refine lv_iload_n hx hb dX13_node_18 rfl (lv_at hl 2 rfl) ?_
  refine va_iast hx hb hK hP hD hS 2 1 rfl rfl (zin_lit ⟨by omega, by omega⟩) dX13_node_19 (fun H locs hP hD hS => ?_)
  obtain ⟨f_19, e_f_19⟩ : ∃ z : Nat → Int32, z = upd f24 ((v0 42) : Int32).toNatClampNeg x2 := ⟨_, rfl⟩
  have hP : va_P (dC, dI) vwCl [(h0, .inr (13, mX13 q0 v0)), ((q0 38), .inl (k23, 1300, .inl f_9)), ((q0 39), .inl (k24, 1300, .inl f_19)), ((q0 40), .inl (k25, 1300, .inl f25)), ((q0 41), .inl (k26, 1300, .inl f26)), ((q0 56), .inl (k34, 1300, .inl f34)), ((q0 52), .inl (k33, 1300, .inl f33))] H := by rw [e_f_19]; exact hP
  have hD : va_D A [(h0, .inr (13, mX13 q0 v0)), ((q0 38), .inl (k23, 1300, .inl f_9)), ((q0 39), .inl (k24, 1300, .inl f_19)), ((q0 40), .inl (k25, 1300, .inl f25)), ((q0 41), .inl (k26, 1300, .inl f26)), ((q0 56), .inl (k34, 1300, .inl f34)), ((q0 52), .inl (k33, 1300, .inl f33))] := by rw [e_f_19]; exact hD
  have hf_19 : zA (-1) 1299 f_19 := by rw [e_f_19]; exact zA_upd hf24 (show (-1) ≤ (x2 : Int32).toInt from by omega) (show (x2 : Int32).toInt ≤ 1299 from by omega)
  refine lv_aload_n hx hb dX13_node_20 rfl (lv_at hl 0 rfl) ?_
  refine va_get (D := (dC, dI)) (ci := 13) (v := .ref (q0 40)) (C := RX13) (T := TX13) (N := 75) hx hb hG zuX13 hown hK hP 0 rfl rfl 40 (by decide) (hG _ zw713) (fun _ h9 => h9) rfl dX13_node_21 ?_
  refine lv_aload_n hx hb dX13_node_24 rfl (lv_at hl 0 rfl) ?_
  refine va_get (D := (dC, dI)) (ci := 13) (v := .int (v0 42)) (C := RX13) (T := TX13) (N := 75) hx hb hG zuX13 hown hK hP 0 rfl rfl 42 (by decide) (hG _ zw711) (fun _ h9 => h9) rfl dX13_node_25 ?_
  refine lv_iload_n hx hb dX13_node_28 rfl (lv_at hl 3 rfl) ?_
  refine va_iast hx hb hK hP hD hS 3 2 rfl rfl (zin_lit ⟨by omega, by omega⟩) dX13_node_29 (fun H locs hP hD hS => ?_)
  obtain ⟨f_29, e_f_29⟩ : ∃ z : Nat → Int32, z = upd f25 ((v0 42) : Int32).toNatClampNeg x3 := ⟨_, rfl⟩
  have hP : va_P (dC, dI) vwCl [(h0, .inr (13, mX13 q0 v0)), ((q0 38), .inl (k23, 1300, .inl f_9)), ((q0 39), .inl (k24, 1300, .inl f_19)), ((q0 40), .inl (k25, 1300, .inl f_29)), ((q0 41), .inl (k26, 1300, .inl f26)), ((q0 56), .inl (k34, 1300, .inl f34)), ((q0 52), .inl (k33, 1300, .inl f33))] H := by rw [e_f_29]; exact hP
  have hD : va_D A [(h0, .inr (13, mX13 q0 v0)), ((q0 38), .inl (k23, 1300, .inl f_9)), ((q0 39), .inl (k24, 1300, .inl f_19)), ((q0 40), .inl (k25, 1300, .inl f_29)), ((q0 41), .inl (k26, 1300, .inl f26)), ((q0 56), .inl (k34, 1300, .inl f34)), ((q0 52), .inl (k33, 1300, .inl f33))] := by rw [e_f_29]; exact hD
  have hf_29 : zA (-1) 1299 f_29 := by rw [e_f_29]; exact zA_upd hf25 (show (-1) ≤ (x3 : Int32).toInt from by omega) (show (x3 : Int32).toInt ≤ 1299 from by omega)
  refine lv_aload_n hx hb dX13_node_30 rfl (lv_at hl 0 rfl) ?_
  refine va_get (D := (dC, dI)) (ci := 13) (v := .ref (q0 41)) (C := RX13) (T := TX13) (N := 75) hx hb hG zuX13 hown hK hP 0 rfl rfl 41 (by decide) (hG _ zw714) (fun _ h9 => h9) rfl dX13_node_31 ?_
  refine lv_aload_n hx hb dX13_node_34 rfl (lv_at hl 0 rfl) ?_
  refine va_get (D := (dC, dI)) (ci := 13) (v := .int (v0 42)) (C := RX13) (T := TX13) (N := 75) hx hb hG zuX13 hown hK hP 0 rfl rfl 42 (by decide) (hG _ zw711) (fun _ h9 => h9) rfl dX13_node_35 ?_
  refine lv_iload hx hb dX13_node_38 (lv_at hl 4 rfl) ?_
  refine va_iast hx hb hK hP hD hS 4 3 rfl rfl (zin_lit ⟨by omega, by omega⟩) dX13_node_40 (fun H locs hP hD hS => ?_)
  obtain ⟨f_40, e_f_40⟩ : ∃ z : Nat → Int32, z = upd f26 ((v0 42) : Int32).toNatClampNeg x4 := ⟨_, rfl⟩
  have hP : va_P (dC, dI) vwCl [(h0, .inr (13, mX13 q0 v0)), ((q0 38), .inl (k23, 1300, .inl f_9)), ((q0 39), .inl (k24, 1300, .inl f_19)), ((q0 40), .inl (k25, 1300, .inl f_29)), ((q0 41), .inl (k26, 1300, .inl f_40)), ((q0 56), .inl (k34, 1300, .inl f34)), ((q0 52), .inl (k33, 1300, .inl f33))] H := by rw [e_f_40]; exact hP
  have hD : va_D A [(h0, .inr (13, mX13 q0 v0)), ((q0 38), .inl (k23, 1300, .inl f_9)), ((q0 39), .inl (k24, 1300, .inl f_19)), ((q0 40), .inl (k25, 1300, .inl f_29)), ((q0 41), .inl (k26, 1300, .inl f_40)), ((q0 56), .inl (k34, 1300, .inl f34)), ((q0 52), .inl (k33, 1300, .inl f33))] := by rw [e_f_40]; exact hD
  refine lv_aload_n hx hb dX13_node_41 rfl (lv_at hl 0 rfl) ?_
  refine va_get (D := (dC, dI)) (ci := 13) (v := .ref (q0 56)) (C := RX13) (T := TX13) (N := 75) hx hb hG zuX13 hown hK hP 0 rfl rfl 56 (by decide) (hG _ zw715) (fun _ h9 => h9) rfl dX13_node_42 ?_
  refine lv_aload_n hx hb dX13_node_45 rfl (lv_at hl 0 rfl) ?_
  refine va_get (D := (dC, dI)) (ci := 13) (v := .int (v0 42)) (C := RX13) (T := TX13) (N := 75) hx hb hG zuX13 hown hK hP 0 rfl rfl 42 (by decide) (hG _ zw711) (fun _ h9 => h9) rfl dX13_node_46 ?_
  refine lv_iconst (v := 0) hx hb dX13_node_49 (by decide) ?_
  refine va_zast hx hb hK hP hD hS 5 4 rfl rfl (zin_lit ⟨by omega, by omega⟩) dX13_node_50 (fun H locs hP hD hS => ?_)
  obtain ⟨f_50, e_f_50⟩ : ∃ z : Nat → Int32, z = upd f34 ((v0 42) : Int32).toNatClampNeg (vp_nar .boolean 0) := ⟨_, rfl⟩
  have hP : va_P (dC, dI) vwCl [(h0, .inr (13, mX13 q0 v0)), ((q0 38), .inl (k23, 1300, .inl f_9)), ((q0 39), .inl (k24, 1300, .inl f_19)), ((q0 40), .inl (k25, 1300, .inl f_29)), ((q0 41), .inl (k26, 1300, .inl f_40)), ((q0 56), .inl (k34, 1300, .inl f_50)), ((q0 52), .inl (k33, 1300, .inl f33))] H := by rw [e_f_50]; exact hP
  have hD : va_D A [(h0, .inr (13, mX13 q0 v0)), ((q0 38), .inl (k23, 1300, .inl f_9)), ((q0 39), .inl (k24, 1300, .inl f_19)), ((q0 40), .inl (k25, 1300, .inl f_29)), ((q0 41), .inl (k26, 1300, .inl f_40)), ((q0 56), .inl (k34, 1300, .inl f_50)), ((q0 52), .inl (k33, 1300, .inl f33))] := by rw [e_f_50]; exact hD
  refine lv_aload_n hx hb dX13_node_51 rfl (lv_at hl 0 rfl) ?_
  refine lv_dup hx hb dX13_node_52 rfl ?_
  refine va_get (D := (dC, dI)) (ci := 13) (v := .int (v0 42)) (C := RX13) (T := TX13) (N := 75) hx hb hG zuX13 hown hK hP 0 rfl rfl 42 (by decide) (hG _ zw711) (fun _ h9 => h9) rfl dX13_node_53 ?_
  refine lv_iconst (v := 1) hx hb dX13_node_56 (by decide) ?_
  refine lv_iadd hx hb dX13_node_57 ?_
  refine lv_topi (fun z57 e_z57 => ?_)
  have b_ := zadd rfl zk_1 e_z57 (by omega) (by omega)
  have b_ : 0 ≤ z57.toInt ∧ z57.toInt ≤ 1300 := ⟨by omega, by omega⟩
  refine va_put (D := (dC, dI)) (ci := 13) (v := .int z57) (ty := .int) (C := RX13) (T := TX13) (N := 75) hx hb hG zuX13 tyX13 tyX13_ok nmX13 hown hK hP hD hS 0 rfl rfl 42 (by decide) (hG _ zw711) (fun _ h9 => h9) rfl (by decide +kernel) rfl rfl (Nat.le_of_ble_eq_true rfl) dX13_node_58 (fun H locs hP hD hS => ?_)
  have hP : va_P (dC, dI) vwCl [(h0, .inr (13, mX13 q0 (upd v0 42 z57))), ((q0 38), .inl (k23, 1300, .inl f_9)), ((q0 39), .inl (k24, 1300, .inl f_19)), ((q0 40), .inl (k25, 1300, .inl f_29)), ((q0 41), .inl (k26, 1300, .inl f_40)), ((q0 56), .inl (k34, 1300, .inl f_50)), ((q0 52), .inl (k33, 1300, .inl f33))] H := hP
  have hD : va_D A [(h0, .inr (13, mX13 q0 (upd v0 42 z57))), ((q0 38), .inl (k23, 1300, .inl f_9)), ((q0 39), .inl (k24, 1300, .inl f_19)), ((q0 40), .inl (k25, 1300, .inl f_29)), ((q0 41), .inl (k26, 1300, .inl f_40)), ((q0 56), .inl (k34, 1300, .inl f_50)), ((q0 52), .inl (k33, 1300, .inl f33))] := hD
  refine lv_aload_n hx hb dX13_node_61 rfl (lv_at hl 0 rfl) ?_
  refine va_get (D := (dC, dI)) (ci := 13) (v := .ref (q0 52)) (C := RX13) (T := TX13) (N := 75) hx hb hG zuX13 hown hK hP 0 rfl rfl 52 (by decide) (hG _ zw716) (fun _ h9 => h9) rfl dX13_node_62 ?_
  refine lv_aload_n hx hb dX13_node_65 rfl (lv_at hl 0 rfl) ?_
  refine va_get (D := (dC, dI)) (ci := 13) (v := .int (v0 53)) (C := RX13) (T := TX13) (N := 75) hx hb hG zuX13 hown hK hP 0 rfl rfl 53 (by decide) (hG _ zw717) (fun _ h9 => h9) rfl dX13_node_66 ?_
  refine lv_sipush (v := 1000) hx hb dX13_node_69 (by decide) ?_
  refine lv_iload_n hx hb dX13_node_72 rfl (lv_at hl 1 rfl) ?_
  have b_ : -2147483648 ≤ x1.toInt ∧ x1.toInt ≤ 2147483647 := ⟨zlo _, zhi _⟩
  refine lv_imul hx hb dX13_node_73 ?_
  refine lv_topi (fun z73 e_z73 => ?_)
  refine lv_iload hx hb dX13_node_74 (lv_at hl 4 rfl) ?_
  have b_ : -2147483648 ≤ z73.toInt ∧ z73.toInt ≤ 2147483647 := ⟨zlo _, zhi _⟩
  have b_ : -2147483648 ≤ x4.toInt ∧ x4.toInt ≤ 2147483647 := ⟨zlo _, zhi _⟩
  refine lv_iadd hx hb dX13_node_76 ?_
  refine lv_topi (fun z76 e_z76 => ?_)
  refine va_iast hx hb hK hP hD hS 6 5 rfl rfl (zin_lit ⟨by omega, by omega⟩) dX13_node_77 (fun H locs hP hD hS => ?_)
  obtain ⟨f_77, e_f_77⟩ : ∃ z : Nat → Int32, z = upd f33 ((v0 53) : Int32).toNatClampNeg z76 := ⟨_, rfl⟩
  have hP : va_P (dC, dI) vwCl [(h0, .inr (13, mX13 q0 (upd v0 42 z57))), ((q0 38), .inl (k23, 1300, .inl f_9)), ((q0 39), .inl (k24, 1300, .inl f_19)), ((q0 40), .inl (k25, 1300, .inl f_29)), ((q0 41), .inl (k26, 1300, .inl f_40)), ((q0 56), .inl (k34, 1300, .inl f_50)), ((q0 52), .inl (k33, 1300, .inl f_77))] H := by rw [e_f_77]; exact hP
  have hD : va_D A [(h0, .inr (13, mX13 q0 (upd v0 42 z57))), ((q0 38), .inl (k23, 1300, .inl f_9)), ((q0 39), .inl (k24, 1300, .inl f_19)), ((q0 40), .inl (k25, 1300, .inl f_29)), ((q0 41), .inl (k26, 1300, .inl f_40)), ((q0 56), .inl (k34, 1300, .inl f_50)), ((q0 52), .inl (k33, 1300, .inl f_77))] := by rw [e_f_77]; exact hD
  refine lv_aload_n hx hb dX13_node_78 rfl (lv_at hl 0 rfl) ?_
  refine lv_dup hx hb dX13_node_79 rfl ?_
  refine va_get (D := (dC, dI)) (ci := 13) (v := .int (v0 53)) (C := RX13) (T := TX13) (N := 75) hx hb hG zuX13 hown hK hP 0 rfl rfl 53 (by decide) (hG _ zw717) (fun _ h9 => h9) rfl dX13_node_80 ?_
  refine lv_iconst (v := 1) hx hb dX13_node_83 (by decide) ?_
  refine lv_iadd hx hb dX13_node_84 ?_
  refine lv_topi (fun z84 e_z84 => ?_)
  have b_ := zadd rfl zk_1 e_z84 (by omega) (by omega)
  have b_ : 0 ≤ z84.toInt ∧ z84.toInt ≤ 1300 := ⟨by omega, by omega⟩
  refine va_put (D := (dC, dI)) (ci := 13) (v := .int z84) (ty := .int) (C := RX13) (T := TX13) (N := 75) hx hb hG zuX13 tyX13 tyX13_ok nmX13 hown hK hP hD hS 0 rfl rfl 53 (by decide) (hG _ zw717) (fun _ h9 => h9) rfl (by decide +kernel) rfl rfl (Nat.le_of_ble_eq_true rfl) dX13_node_85 (fun H locs hP hD hS => ?_)
  have hP : va_P (dC, dI) vwCl [(h0, .inr (13, mX13 q0 (upd (upd v0 42 z57) 53 z84))), ((q0 38), .inl (k23, 1300, .inl f_9)), ((q0 39), .inl (k24, 1300, .inl f_19)), ((q0 40), .inl (k25, 1300, .inl f_29)), ((q0 41), .inl (k26, 1300, .inl f_40)), ((q0 56), .inl (k34, 1300, .inl f_50)), ((q0 52), .inl (k33, 1300, .inl f_77))] H := hP
  have hD : va_D A [(h0, .inr (13, mX13 q0 (upd (upd v0 42 z57) 53 z84))), ((q0 38), .inl (k23, 1300, .inl f_9)), ((q0 39), .inl (k24, 1300, .inl f_19)), ((q0 40), .inl (k25, 1300, .inl f_29)), ((q0 41), .inl (k26, 1300, .inl f_40)), ((q0 56), .inl (k34, 1300, .inl f_50)), ((q0 52), .inl (k33, 1300, .inl f_77))] := hD
  refine lv_aload_n hx hb dX13_node_88 rfl (lv_at hl 0 rfl) ?_
  refine va_get (D := (dC, dI)) (ci := 13) (v := .int z57) (C := RX13) (T := TX13) (N := 75) hx hb hG zuX13 hown hK hP 0 rfl rfl 42 (by decide) (hG _ zw711) (fun _ h9 => h9) rfl dX13_node_89 ?_
  refine lv_iconst (v := 1) hx hb dX13_node_92 (by decide) ?_
  refine lv_isub hx hb dX13_node_93 ?_
  refine lv_topi (fun z93 e_z93 => ?_)
  have b_ := zsub rfl zk_1 e_z93 (by omega) (by omega)
  have htr : zTr f_9 f_19 f_29 f_40 z57.toInt := by rw [show z57.toInt = (v0 42).toInt + 1 from by omega, e_f_9, e_f_19, e_f_29, e_f_40]; exact zTr_push hp2_ rfl (by omega) hp3_
  refine W.widen (k := 0) (n := 0) (by decide) (by decide) ?_
  have hpost : (0 ≤ z93.toInt ∧ z93.toInt ≤ 1299) ∧ (1 ≤ z57.toInt ∧ z57.toInt ≤ 1300) ∧ (1 ≤ z84.toInt ∧ z84.toInt ≤ 1300) ∧ (z93.toInt = (v0 42).toInt) ∧ (z57.toInt = (v0 42).toInt + 1) ∧ (z84.toInt = (v0 53).toInt + 1) := ⟨⟨by omega, by omega⟩, ⟨by omega, by omega⟩, ⟨by omega, by omega⟩, by omega, by omega, by omega⟩
  have hP9 : va_P (dC, dI) vwCl [(h0, .inr (13, mX13 q0 (upd (upd v0 42 z57) 53 z84))), ((q0 38), .inl (k23, 1300, .inl f_9)), ((q0 39), .inl (k24, 1300, .inl f_19)), ((q0 40), .inl (k25, 1300, .inl f_29)), ((q0 41), .inl (k26, 1300, .inl f_40)), ((q0 56), .inl (k34, 1300, .inl f_50)), ((q0 52), .inl (k33, 1300, .inl f_77))] H := hP
  have hD9 : va_D A [(h0, .inr (13, mX13 q0 (upd (upd v0 42 z57) 53 z84))), ((q0 38), .inl (k23, 1300, .inl f_9)), ((q0 39), .inl (k24, 1300, .inl f_19)), ((q0 40), .inl (k25, 1300, .inl f_29)), ((q0 41), .inl (k26, 1300, .inl f_40)), ((q0 56), .inl (k34, 1300, .inl f_50)), ((q0 52), .inl (k33, 1300, .inl f_77))] := hD
  have hB0 : zTr f_9 f_19 f_29 f_40 z57.toInt := by assumption
  exact W.iret (v := z93) hx hb hr (fun t ht hW => ⟨⟨z93, (fun i => ([z57, z84] : List (Int32)).getD i 0), rfl, hpost, (fun _ => 0), (fun i => ([f_9, f_19, f_29, f_40, f_50, f_77] : List (Nat → Int32)).getD i (fun _ => 0)), (fun _ => (fun _ => 0)), hf_19, hf_29, hB0, by rw [ht]; exact hP9, va_K.moved hW.alike hK, hD9⟩, hS.F ht⟩) hS.2.2 dX13_node_94
set_option maxHeartbeats 8000000 in
set_option maxRecDepth 100000 in
theorem sX13_hasPlaces_0 (l : Launch) (dC : Nat → ClassId) (dI : Nat → Nat → Nat) (adK adV : Nat → Nat) (h0 : Nat) (q0 : Nat → Nat) (k34 : ClassId) (k23 : ClassId) (sz : Nat) (v0 : Nat → Int32) (f34 : Nat → Int32) (f23 : Nat → Int32) (x1 : Int32) (hv0 : zR rg_Model v0) (hx1 : 0 ≤ x1.toInt ∧ x1.toInt ≤ 1299) : Met l yX13_hasPlaces (zw yX13_hasPlaces cX13_hasPlaces 2 (some .boolean)) { frames := 0, cells := 0, slots := 0, locals := 0 } (zPc dC dI adK adV [.ref h0, .int x1] sz [(h0, .inr (13, mX13 q0 v0)), ((q0 56), .inl (k34, 1300, .inl f34)), ((q0 38), .inl (k23, 1300, .inl f23))] [(k34, .boolean), (k23, .int)]) (va_Qi (fun (r : Int32) (u : Nat → Int32) => (0 ≤ r.toInt ∧ r.toInt ≤ 1) ∧ (r.toInt = 1 → zPl (f23 ((x1 : Int32)).toNatClampNeg).toInt)) (fun (u : Nat → Int32) (t : State) => ∃ (ww : Nat → Int64) (aa : Nat → Nat → Int32) (bb : Nat → Nat → Int64), va_P (dC, dI) vwCl [(h0, .inr (13, mX13 q0 v0)), ((q0 56), .inl (k34, 1300, .inl f34)), ((q0 38), .inl (k23, 1300, .inl f23))] t.heap ∧ va_K (dC, dI) vwCl [(k34, .boolean), (k23, .int)] t ∧ va_D (va_A [(h0, .inr (13, mX13 q0 v0)), ((q0 56), .inl (k34, 1300, .inl f34)), ((q0 38), .inl (k23, 1300, .inl f23))] sz) [(h0, .inr (13, mX13 q0 v0)), ((q0 56), .inl (k34, 1300, .inl f34)), ((q0 38), .inl (k23, 1300, .inl f23))]) (va_A [(h0, .inr (13, mX13 q0 v0)), ((q0 56), .inl (k34, 1300, .inl f34)), ((q0 38), .inl (k23, 1300, .inl f23))] sz)) 0 0 (va_A [(h0, .inr (13, mX13 q0 v0)), ((q0 56), .inl (k34, 1300, .inl f34)), ((q0 38), .inl (k23, 1300, .inl f23))] sz) := by
  refine Met.ofW (cc := cX13_hasPlaces) (maxL := 2) (ret := (some .boolean)) (by decide) rfl ?_
  intro p e s m args below meth c s₁ B hml hv
  obtain ⟨rfl, hsz, hP, hK, hD0, hE, hZ⟩ := hv
  have hx := B.exec
  have hb := B.bytes
  have hr := B.returns
  have hG : ∀ w ∈ zG, w.before _ s = true := fun w h => atoms_spec (ws := (zw yX13_hasPlaces cX13_hasPlaces 2 (some .boolean))) B.pre w (List.mem_cons_of_mem _ h)
  have hown : s.vm.findClass RX13 = some m.cls := findClass_of_methodNamed B.named
  have hlocks := B.notSynchronized
  subst hsz
  have hD := hD0.self (sz := s.heap.size)
  generalize hAe : va_A [(h0, .inr (13, mX13 q0 v0)), ((q0 56), .inl (k34, 1300, .inl f34)), ((q0 38), .inl (k23, 1300, .inl f23))] s.heap.size = A at hD hZ ⊢
  have hA : ∀ q : Nat, s.heap.size ≤ q → A q := fun q h => by rw [← hAe]; exact Or.inr h
  have hS : va_S A s.heap s.heap [] := va_S.rf
  have hl := lv_entry ([.ref h0, .int x1]) (n := 2) (Nat.le_of_ble_eq_true rfl)
  rw [lg_entry_eq]
  generalize (lg_sl ([.ref h0, .int x1]) ++ List.replicate (2 - (lg_sl ([.ref h0, .int x1])).length) Slot.unset).toArray = ls at hl ⊢
  have hl : lv_has ls 2 [(0, .ref h0), (1, .int x1)] := hl
  have b_ := zk_0
  have b_ := zk_1
  refine lv_aload_n hx hb dX13_hasPlaces_0 rfl (lv_at hl 0 rfl) ?_
  refine va_get (D := (dC, dI)) (ci := 13) (v := .ref (q0 56)) (C := RX13) (T := TX13) (N := 75) hx hb hG zuX13 hown hK hP 0 rfl rfl 56 (by decide) (hG _ zw715) (fun _ h9 => h9) rfl dX13_hasPlaces_1 ?_
  refine lv_iload_n hx hb dX13_hasPlaces_4 rfl (lv_at hl 1 rfl) ?_
  refine va_zald hx hb hK hP 1 0 rfl rfl (zin_lit ⟨by omega, by omega⟩) dX13_hasPlaces_5 ?_
  refine lv_topi (fun z5 e_z5 => ?_)
  have b_ : -2147483648 ≤ z5.toInt ∧ z5.toInt ≤ 2147483647 := ⟨zlo _, zhi _⟩
  refine lv_if_ne (tgt := 65) hx hb dX13_hasPlaces_6 (by decide) (fun c_ => ?_) (fun c_ => ?_)
  · skip
    have b_ := zT_ne rfl zk_0 c_
    refine lv_iconst (v := 0) hx hb dX13_hasPlaces_65 (by decide) ?_
    refine W.widen (k := 0) (n := 0) (by decide) (by decide) ?_
    have hpost : (0 ≤ (0 : Int32).toInt ∧ (0 : Int32).toInt ≤ 1) ∧ ((0 : Int32).toInt = 1 → zPl (f23 ((x1 : Int32)).toNatClampNeg).toInt) := ⟨⟨by omega, by omega⟩, by first | (intro q; exact absurd q (by decide)) | (intro _; rw [← e_z14]; unfold zPl; omega) | (intro _; rw [← e_z24]; unfold zPl; omega) | (intro _; rw [← e_z34]; unfold zPl; omega) | (intro _; rw [← e_z44]; unfold zPl; omega) | (intro _; rw [← e_z55]; unfold zPl; omega)⟩
    have hP9 : va_P (dC, dI) vwCl [(h0, .inr (13, mX13 q0 v0)), ((q0 56), .inl (k34, 1300, .inl f34)), ((q0 38), .inl (k23, 1300, .inl f23))] s.heap := hP
    have hD9 : va_D A [(h0, .inr (13, mX13 q0 v0)), ((q0 56), .inl (k34, 1300, .inl f34)), ((q0 38), .inl (k23, 1300, .inl f23))] := hD
    exact W.zret (v := 0) hx hb hr rfl (fun t ht hW => ⟨⟨0, (fun _ => 0), rfl, hpost, (fun _ => 0), (fun _ => (fun _ => 0)), (fun _ => (fun _ => 0)), by rw [ht]; exact hP9, va_K.moved hW.alike hK, hD9⟩, hS.F ht⟩) hS.2.2 dX13_hasPlaces_66
  · skip
    have b_ := zF_ne rfl zk_0 c_
    refine lv_aload_n hx hb dX13_hasPlaces_9 rfl (lv_at hl 0 rfl) ?_
    refine va_get (D := (dC, dI)) (ci := 13) (v := .ref (q0 38)) (C := RX13) (T := TX13) (N := 75) hx hb hG zuX13 hown hK hP 0 rfl rfl 38 (by decide) (hG _ zw710) (fun _ h9 => h9) rfl dX13_hasPlaces_10 ?_
    refine lv_iload_n hx hb dX13_hasPlaces_13 rfl (lv_at hl 1 rfl) ?_
    refine va_iald hx hb hK hP 2 1 rfl rfl (zin_lit ⟨by omega, by omega⟩) dX13_hasPlaces_14 ?_
    refine lv_topi (fun z14 e_z14 => ?_)
    refine lv_iconst (v := 1) hx hb dX13_hasPlaces_15 (by decide) ?_
    have b_ : -2147483648 ≤ z14.toInt ∧ z14.toInt ≤ 2147483647 := ⟨zlo _, zhi _⟩
    refine lv_icmp_eq (tgt := 61) hx hb dX13_hasPlaces_16 (by decide) (fun c_ => ?_) (fun c_ => ?_)
    · skip
      have b_ := zT_eq rfl zk_1 c_
      refine lv_iconst (v := 1) hx hb dX13_hasPlaces_61 (by decide) ?_
      refine lv_goto (tgt := 66) hx hb dX13_hasPlaces_62 (by decide) ?_
      refine W.widen (k := 0) (n := 0) (by decide) (by decide) ?_
      have hpost : (0 ≤ (1 : Int32).toInt ∧ (1 : Int32).toInt ≤ 1) ∧ ((1 : Int32).toInt = 1 → zPl (f23 ((x1 : Int32)).toNatClampNeg).toInt) := ⟨⟨by omega, by omega⟩, by first | (intro q; exact absurd q (by decide)) | (intro _; rw [← e_z14]; unfold zPl; omega) | (intro _; rw [← e_z24]; unfold zPl; omega) | (intro _; rw [← e_z34]; unfold zPl; omega) | (intro _; rw [← e_z44]; unfold zPl; omega) | (intro _; rw [← e_z55]; unfold zPl; omega)⟩
      have hP9 : va_P (dC, dI) vwCl [(h0, .inr (13, mX13 q0 v0)), ((q0 56), .inl (k34, 1300, .inl f34)), ((q0 38), .inl (k23, 1300, .inl f23))] s.heap := hP
      have hD9 : va_D A [(h0, .inr (13, mX13 q0 v0)), ((q0 56), .inl (k34, 1300, .inl f34)), ((q0 38), .inl (k23, 1300, .inl f23))] := hD
      exact W.zret (v := 1) hx hb hr rfl (fun t ht hW => ⟨⟨1, (fun _ => 0), rfl, hpost, (fun _ => 0), (fun _ => (fun _ => 0)), (fun _ => (fun _ => 0)), by rw [ht]; exact hP9, va_K.moved hW.alike hK, hD9⟩, hS.F ht⟩) hS.2.2 dX13_hasPlaces_66
    · skip
      have b_ := zF_eq rfl zk_1 c_
      refine lv_aload_n hx hb dX13_hasPlaces_19 rfl (lv_at hl 0 rfl) ?_
      refine va_get (D := (dC, dI)) (ci := 13) (v := .ref (q0 38)) (C := RX13) (T := TX13) (N := 75) hx hb hG zuX13 hown hK hP 0 rfl rfl 38 (by decide) (hG _ zw710) (fun _ h9 => h9) rfl dX13_hasPlaces_20 ?_
      refine lv_iload_n hx hb dX13_hasPlaces_23 rfl (lv_at hl 1 rfl) ?_
      refine va_iald hx hb hK hP 2 1 rfl rfl (zin_lit ⟨by omega, by omega⟩) dX13_hasPlaces_24 ?_
      refine lv_topi (fun z24 e_z24 => ?_)
      refine lv_iconst (v := 2) hx hb dX13_hasPlaces_25 (by decide) ?_
      have b_ : -2147483648 ≤ z24.toInt ∧ z24.toInt ≤ 2147483647 := ⟨zlo _, zhi _⟩
      refine lv_icmp_eq (tgt := 61) hx hb dX13_hasPlaces_26 (by decide) (fun c_ => ?_) (fun c_ => ?_)
      · skip
        have b_ := zT_eq rfl zk_2 c_
        refine lv_iconst (v := 1) hx hb dX13_hasPlaces_61 (by decide) ?_
        refine lv_goto (tgt := 66) hx hb dX13_hasPlaces_62 (by decide) ?_
        refine W.widen (k := 0) (n := 0) (by decide) (by decide) ?_
        have hpost : (0 ≤ (1 : Int32).toInt ∧ (1 : Int32).toInt ≤ 1) ∧ ((1 : Int32).toInt = 1 → zPl (f23 ((x1 : Int32)).toNatClampNeg).toInt) := ⟨⟨by omega, by omega⟩, by first | (intro q; exact absurd q (by decide)) | (intro _; rw [← e_z14]; unfold zPl; omega) | (intro _; rw [← e_z24]; unfold zPl; omega) | (intro _; rw [← e_z34]; unfold zPl; omega) | (intro _; rw [← e_z44]; unfold zPl; omega) | (intro _; rw [← e_z55]; unfold zPl; omega)⟩
        have hP9 : va_P (dC, dI) vwCl [(h0, .inr (13, mX13 q0 v0)), ((q0 56), .inl (k34, 1300, .inl f34)), ((q0 38), .inl (k23, 1300, .inl f23))] s.heap := hP
        have hD9 : va_D A [(h0, .inr (13, mX13 q0 v0)), ((q0 56), .inl (k34, 1300, .inl f34)), ((q0 38), .inl (k23, 1300, .inl f23))] := hD
        exact W.zret (v := 1) hx hb hr rfl (fun t ht hW => ⟨⟨1, (fun _ => 0), rfl, hpost, (fun _ => 0), (fun _ => (fun _ => 0)), (fun _ => (fun _ => 0)), by rw [ht]; exact hP9, va_K.moved hW.alike hK, hD9⟩, hS.F ht⟩) hS.2.2 dX13_hasPlaces_66
      · skip
        have b_ := zF_eq rfl zk_2 c_
        refine lv_aload_n hx hb dX13_hasPlaces_29 rfl (lv_at hl 0 rfl) ?_
        refine va_get (D := (dC, dI)) (ci := 13) (v := .ref (q0 38)) (C := RX13) (T := TX13) (N := 75) hx hb hG zuX13 hown hK hP 0 rfl rfl 38 (by decide) (hG _ zw710) (fun _ h9 => h9) rfl dX13_hasPlaces_30 ?_
        refine lv_iload_n hx hb dX13_hasPlaces_33 rfl (lv_at hl 1 rfl) ?_
        refine va_iald hx hb hK hP 2 1 rfl rfl (zin_lit ⟨by omega, by omega⟩) dX13_hasPlaces_34 ?_
        refine lv_topi (fun z34 e_z34 => ?_)
        refine lv_iconst (v := 3) hx hb dX13_hasPlaces_35 (by decide) ?_
        have b_ : -2147483648 ≤ z34.toInt ∧ z34.toInt ≤ 2147483647 := ⟨zlo _, zhi _⟩
        refine lv_icmp_eq (tgt := 61) hx hb dX13_hasPlaces_36 (by decide) (fun c_ => ?_) (fun c_ => ?_)
        · skip
          have b_ := zT_eq rfl zk_3 c_
          refine lv_iconst (v := 1) hx hb dX13_hasPlaces_61 (by decide) ?_
          refine lv_goto (tgt := 66) hx hb dX13_hasPlaces_62 (by decide) ?_
          refine W.widen (k := 0) (n := 0) (by decide) (by decide) ?_
          have hpost : (0 ≤ (1 : Int32).toInt ∧ (1 : Int32).toInt ≤ 1) ∧ ((1 : Int32).toInt = 1 → zPl (f23 ((x1 : Int32)).toNatClampNeg).toInt) := ⟨⟨by omega, by omega⟩, by first | (intro q; exact absurd q (by decide)) | (intro _; rw [← e_z14]; unfold zPl; omega) | (intro _; rw [← e_z24]; unfold zPl; omega) | (intro _; rw [← e_z34]; unfold zPl; omega) | (intro _; rw [← e_z44]; unfold zPl; omega) | (intro _; rw [← e_z55]; unfold zPl; omega)⟩
          have hP9 : va_P (dC, dI) vwCl [(h0, .inr (13, mX13 q0 v0)), ((q0 56), .inl (k34, 1300, .inl f34)), ((q0 38), .inl (k23, 1300, .inl f23))] s.heap := hP
          have hD9 : va_D A [(h0, .inr (13, mX13 q0 v0)), ((q0 56), .inl (k34, 1300, .inl f34)), ((q0 38), .inl (k23, 1300, .inl f23))] := hD
          exact W.zret (v := 1) hx hb hr rfl (fun t ht hW => ⟨⟨1, (fun _ => 0), rfl, hpost, (fun _ => 0), (fun _ => (fun _ => 0)), (fun _ => (fun _ => 0)), by rw [ht]; exact hP9, va_K.moved hW.alike hK, hD9⟩, hS.F ht⟩) hS.2.2 dX13_hasPlaces_66
        · skip
          have b_ := zF_eq rfl zk_3 c_
          refine lv_aload_n hx hb dX13_hasPlaces_39 rfl (lv_at hl 0 rfl) ?_
          refine va_get (D := (dC, dI)) (ci := 13) (v := .ref (q0 38)) (C := RX13) (T := TX13) (N := 75) hx hb hG zuX13 hown hK hP 0 rfl rfl 38 (by decide) (hG _ zw710) (fun _ h9 => h9) rfl dX13_hasPlaces_40 ?_
          refine lv_iload_n hx hb dX13_hasPlaces_43 rfl (lv_at hl 1 rfl) ?_
          refine va_iald hx hb hK hP 2 1 rfl rfl (zin_lit ⟨by omega, by omega⟩) dX13_hasPlaces_44 ?_
          refine lv_topi (fun z44 e_z44 => ?_)
          refine lv_bipush (v := 6) hx hb dX13_hasPlaces_45 (by decide) ?_
          have b_ : -2147483648 ≤ z44.toInt ∧ z44.toInt ≤ 2147483647 := ⟨zlo _, zhi _⟩
          refine lv_icmp_eq (tgt := 61) hx hb dX13_hasPlaces_47 (by decide) (fun c_ => ?_) (fun c_ => ?_)
          · skip
            have b_ := zT_eq rfl zk_6 c_
            refine lv_iconst (v := 1) hx hb dX13_hasPlaces_61 (by decide) ?_
            refine lv_goto (tgt := 66) hx hb dX13_hasPlaces_62 (by decide) ?_
            refine W.widen (k := 0) (n := 0) (by decide) (by decide) ?_
            have hpost : (0 ≤ (1 : Int32).toInt ∧ (1 : Int32).toInt ≤ 1) ∧ ((1 : Int32).toInt = 1 → zPl (f23 ((x1 : Int32)).toNatClampNeg).toInt) := ⟨⟨by omega, by omega⟩, by first | (intro q; exact absurd q (by decide)) | (intro _; rw [← e_z14]; unfold zPl; omega) | (intro _; rw [← e_z24]; unfold zPl; omega) | (intro _; rw [← e_z34]; unfold zPl; omega) | (intro _; rw [← e_z44]; unfold zPl; omega) | (intro _; rw [← e_z55]; unfold zPl; omega)⟩
            have hP9 : va_P (dC, dI) vwCl [(h0, .inr (13, mX13 q0 v0)), ((q0 56), .inl (k34, 1300, .inl f34)), ((q0 38), .inl (k23, 1300, .inl f23))] s.heap := hP
            have hD9 : va_D A [(h0, .inr (13, mX13 q0 v0)), ((q0 56), .inl (k34, 1300, .inl f34)), ((q0 38), .inl (k23, 1300, .inl f23))] := hD
            exact W.zret (v := 1) hx hb hr rfl (fun t ht hW => ⟨⟨1, (fun _ => 0), rfl, hpost, (fun _ => 0), (fun _ => (fun _ => 0)), (fun _ => (fun _ => 0)), by rw [ht]; exact hP9, va_K.moved hW.alike hK, hD9⟩, hS.F ht⟩) hS.2.2 dX13_hasPlaces_66
          · skip
            have b_ := zF_eq rfl zk_6 c_
            refine lv_aload_n hx hb dX13_hasPlaces_50 rfl (lv_at hl 0 rfl) ?_
            refine va_get (D := (dC, dI)) (ci := 13) (v := .ref (q0 38)) (C := RX13) (T := TX13) (N := 75) hx hb hG zuX13 hown hK hP 0 rfl rfl 38 (by decide) (hG _ zw710) (fun _ h9 => h9) rfl dX13_hasPlaces_51 ?_
            refine lv_iload_n hx hb dX13_hasPlaces_54 rfl (lv_at hl 1 rfl) ?_
            refine va_iald hx hb hK hP 2 1 rfl rfl (zin_lit ⟨by omega, by omega⟩) dX13_hasPlaces_55 ?_
            refine lv_topi (fun z55 e_z55 => ?_)
            refine lv_bipush (v := 7) hx hb dX13_hasPlaces_56 (by decide) ?_
            have b_ : -2147483648 ≤ z55.toInt ∧ z55.toInt ≤ 2147483647 := ⟨zlo _, zhi _⟩
            refine lv_icmp_ne (tgt := 65) hx hb dX13_hasPlaces_58 (by decide) (fun c_ => ?_) (fun c_ => ?_)
            · skip
              have b_ := zT_ne rfl zk_7 c_
              refine lv_iconst (v := 0) hx hb dX13_hasPlaces_65 (by decide) ?_
              refine W.widen (k := 0) (n := 0) (by decide) (by decide) ?_
              have hpost : (0 ≤ (0 : Int32).toInt ∧ (0 : Int32).toInt ≤ 1) ∧ ((0 : Int32).toInt = 1 → zPl (f23 ((x1 : Int32)).toNatClampNeg).toInt) := ⟨⟨by omega, by omega⟩, by first | (intro q; exact absurd q (by decide)) | (intro _; rw [← e_z14]; unfold zPl; omega) | (intro _; rw [← e_z24]; unfold zPl; omega) | (intro _; rw [← e_z34]; unfold zPl; omega) | (intro _; rw [← e_z44]; unfold zPl; omega) | (intro _; rw [← e_z55]; unfold zPl; omega)⟩
              have hP9 : va_P (dC, dI) vwCl [(h0, .inr (13, mX13 q0 v0)), ((q0 56), .inl (k34, 1300, .inl f34)), ((q0 38), .inl (k23, 1300, .inl f23))] s.heap := hP
              have hD9 : va_D A [(h0, .inr (13, mX13 q0 v0)), ((q0 56), .inl (k34, 1300, .inl f34)), ((q0 38), .inl (k23, 1300, .inl f23))] := hD
              exact W.zret (v := 0) hx hb hr rfl (fun t ht hW => ⟨⟨0, (fun _ => 0), rfl, hpost, (fun _ => 0), (fun _ => (fun _ => 0)), (fun _ => (fun _ => 0)), by rw [ht]; exact hP9, va_K.moved hW.alike hK, hD9⟩, hS.F ht⟩) hS.2.2 dX13_hasPlaces_66
            · skip
              have b_ := zF_ne rfl zk_7 c_
              refine lv_iconst (v := 1) hx hb dX13_hasPlaces_61 (by decide) ?_
              refine lv_goto (tgt := 66) hx hb dX13_hasPlaces_62 (by decide) ?_
              refine W.widen (k := 0) (n := 0) (by decide) (by decide) ?_
              have hpost : (0 ≤ (1 : Int32).toInt ∧ (1 : Int32).toInt ≤ 1) ∧ ((1 : Int32).toInt = 1 → zPl (f23 ((x1 : Int32)).toNatClampNeg).toInt) := ⟨⟨by omega, by omega⟩, by first | (intro q; exact absurd q (by decide)) | (intro _; rw [← e_z14]; unfold zPl; omega) | (intro _; rw [← e_z24]; unfold zPl; omega) | (intro _; rw [← e_z34]; unfold zPl; omega) | (intro _; rw [← e_z44]; unfold zPl; omega) | (intro _; rw [← e_z55]; unfold zPl; omega)⟩
              have hP9 : va_P (dC, dI) vwCl [(h0, .inr (13, mX13 q0 v0)), ((q0 56), .inl (k34, 1300, .inl f34)), ((q0 38), .inl (k23, 1300, .inl f23))] s.heap := hP
              have hD9 : va_D A [(h0, .inr (13, mX13 q0 v0)), ((q0 56), .inl (k34, 1300, .inl f34)), ((q0 38), .inl (k23, 1300, .inl f23))] := hD
              exact W.zret (v := 1) hx hb hr rfl (fun t ht hW => ⟨⟨1, (fun _ => 0), rfl, hpost, (fun _ => 0), (fun _ => (fun _ => 0)), (fun _ => (fun _ => 0)), by rw [ht]; exact hP9, va_K.moved hW.alike hK, hD9⟩, hS.F ht⟩) hS.2.2 dX13_hasPlaces_66
set_option maxHeartbeats 8000000 in
set_option maxRecDepth 100000 in
theorem sX13_want_0 (l : Launch) (dC : Nat → ClassId) (dI : Nat → Nat → Nat) (adK adV : Nat → Nat) (h0 : Nat) (q0 : Nat → Nat) (k32 : ClassId) (k15 : ClassId) (k31 : ClassId) (sz : Nat) (v0 : Nat → Int32) (f32 : Nat → Int32) (f15 : Nat → Int32) (f31 : Nat → Int32) (hv0 : zR rg_Model v0) (hf32 : zA 0 12 f32) (hp0_ : (v0 50).toInt ≤ 199) : Met l yX13_want (zw yX13_want cX13_want 2 none) { frames := 0, cells := 0, slots := 0, locals := 0 } (zPc dC dI adK adV [.ref h0] sz [(h0, .inr (13, mX13 q0 v0)), ((q0 49), .inl (k32, 200, .inl f32)), ((q0 19), .inl (k15, 12, .inl f15)), ((q0 48), .inl (k31, 2400, .inl f31))] [(k32, .int), (k15, .byte), (k31, .byte)]) (va_Qv (fun (u : Nat → Int32) => (1 ≤ (u 0).toInt ∧ (u 0).toInt ≤ 200) ∧ ((u 0).toInt = (v0 50).toInt + 1)) (fun (u : Nat → Int32) (t : State) => ∃ (ww : Nat → Int64) (aa : Nat → Nat → Int32) (bb : Nat → Nat → Int64), zA 0 12 (aa 0) ∧ va_P (dC, dI) vwCl [(h0, .inr (13, mX13 q0 (upd v0 50 (u 0)))), ((q0 49), .inl (k32, 200, .inl (aa 0))), ((q0 19), .inl (k15, 12, .inl f15)), ((q0 48), .inl (k31, 2400, .inl (aa 1)))] t.heap ∧ va_K (dC, dI) vwCl [(k32, .int), (k15, .byte), (k31, .byte)] t ∧ va_D (va_A [(h0, .inr (13, mX13 q0 v0)), ((q0 49), .inl (k32, 200, .inl f32)), ((q0 19), .inl (k15, 12, .inl f15)), ((q0 48), .inl (k31, 2400, .inl f31))] sz) [(h0, .inr (13, mX13 q0 (upd v0 50 (u 0)))), ((q0 49), .inl (k32, 200, .inl (aa 0))), ((q0 19), .inl (k15, 12, .inl f15)), ((q0 48), .inl (k31, 2400, .inl (aa 1)))]) (va_A [(h0, .inr (13, mX13 q0 v0)), ((q0 49), .inl (k32, 200, .inl f32)), ((q0 19), .inl (k15, 12, .inl f15)), ((q0 48), .inl (k31, 2400, .inl f31))] sz)) 0 0 (va_A [(h0, .inr (13, mX13 q0 v0)), ((q0 49), .inl (k32, 200, .inl f32)), ((q0 19), .inl (k15, 12, .inl f15)), ((q0 48), .inl (k31, 2400, .inl f31))] sz) := by
  refine Met.ofW (cc := cX13_want) (maxL := 2) (ret := none) (by decide) rfl ?_
  intro p e s m args below meth c s₁ B hml hv
  obtain ⟨rfl, hsz, hP, hK, hD0, hE, hZ⟩ := hv
  have hx := B.exec
  have hb := B.bytes
  have hr := B.returns
  have hG : ∀ w ∈ zG, w.before _ s = true := fun w h => atoms_spec (ws := (zw yX13_want cX13_want 2 none)) B.pre w (List.mem_cons_of_mem _ h)
  have hown : s.vm.findClass RX13 = some m.cls := findClass_of_methodNamed B.named
  have hlocks := B.notSynchronized
  subst hsz
  have hD := hD0.self (sz := s.heap.size)
  generalize hAe : va_A [(h0, .inr (13, mX13 q0 v0)), ((q0 49), .inl (k32, 200, .inl f32)), ((q0 19), .inl (k15, 12, .inl f15)), ((q0 48), .inl (k31, 2400, .inl f31))] s.heap.size = A at hD hZ ⊢
  have hA : ∀ q : Nat, s.heap.size ≤ q → A q := fun q h => by rw [← hAe]; exact Or.inr h
  have hS : va_S A s.heap s.heap [] := va_S.rf
  have hl := lv_entry ([.ref h0]) (n := 2) (Nat.le_of_ble_eq_true rfl)
  rw [lg_entry_eq]
  generalize (lg_sl ([.ref h0]) ++ List.replicate (2 - (lg_sl ([.ref h0])).length) Slot.unset).toArray = ls at hl ⊢
  have hl : lv_has ls 2 [(0, .ref h0)] := hl
  have b_ := zk_0
  have b_ : 0 ≤ (v0 50).toInt ∧ (v0 50).toInt ≤ 200 := hv0 50
  refine lv_iconst (v := 0) hx hb dX13_want_0 (by decide) ?_
  refine lv_istore_n (lv' := [(1, .int 0), (0, .ref h0)]) hx hb dX13_want_1 rfl hl (by decide) rfl (fun ls hl => ?_)
  refine zcutL (fun u2_ => (12 - (u2_ 0).toInt).toNat) (fun H locs ls u2_ w2_ a2_ b2_ => va_P (dC, dI) vwCl [(h0, .inr (13, mX13 q0 v0)), ((q0 49), .inl (k32, 200, .inl f32)), ((q0 19), .inl (k15, 12, .inl f15)), ((q0 48), .inl (k31, 2400, .inl (a2_ 0)))] H ∧ va_D A [(h0, .inr (13, mX13 q0 v0)), ((q0 49), .inl (k32, 200, .inl f32)), ((q0 19), .inl (k15, 12, .inl f15)), ((q0 48), .inl (k31, 2400, .inl (a2_ 0)))] ∧ va_S A s.heap H locs ∧ lv_has ls 2 [(0, .ref h0), (1, .int (u2_ 0))] ∧ (0 ≤ (u2_ 0).toInt ∧ (u2_ 0).toInt ≤ 12)) (fun ls u2_ w2_ => F0 m 2 ls []) 0 0 ?_ (fun hJ2 => ?_)
  · skip
    intro H locs ls u2_ w2_ a2_ b2_ hc hJ2
    obtain ⟨hP, hD, hS, hl, b_⟩ := hc
    refine lv_iload_n hx hb dX13_want_2 rfl (lv_at hl 1 rfl) ?_
    refine lv_aload_n hx hb dX13_want_3 rfl (lv_at hl 0 rfl) ?_
    have b_ : 0 ≤ (v0 20).toInt ∧ (v0 20).toInt ≤ 12 := hv0 20
    refine va_get (D := (dC, dI)) (ci := 13) (v := .int (v0 20)) (C := RX13) (T := TX13) (N := 75) hx hb hG zuX13 hown hK hP 0 rfl rfl 20 (by decide) (hG _ zw538) (fun _ h9 => h9) rfl dX13_want_4 ?_
    refine lv_icmp_ge (tgt := 36) hx hb dX13_want_7 (by decide) (fun c_ => ?_) (fun c_ => ?_)
    · skip
      have b_ := zT_ge rfl rfl c_
      refine lv_aload_n hx hb dX13_want_36 rfl (lv_at hl 0 rfl) ?_
      refine va_get (D := (dC, dI)) (ci := 13) (v := .ref (q0 49)) (C := RX13) (T := TX13) (N := 75) hx hb hG zuX13 hown hK hP 0 rfl rfl 49 (by decide) (hG _ zw718) (fun _ h9 => h9) rfl dX13_want_37 ?_
      refine lv_aload_n hx hb dX13_want_40 rfl (lv_at hl 0 rfl) ?_
      refine va_get (D := (dC, dI)) (ci := 13) (v := .int (v0 50)) (C := RX13) (T := TX13) (N := 75) hx hb hG zuX13 hown hK hP 0 rfl rfl 50 (by decide) (hG _ zw719) (fun _ h9 => h9) rfl dX13_want_41 ?_
      refine lv_aload_n hx hb dX13_want_44 rfl (lv_at hl 0 rfl) ?_
      refine va_get (D := (dC, dI)) (ci := 13) (v := .int (v0 20)) (C := RX13) (T := TX13) (N := 75) hx hb hG zuX13 hown hK hP 0 rfl rfl 20 (by decide) (hG _ zw538) (fun _ h9 => h9) rfl dX13_want_45 ?_
      refine va_iast hx hb hK hP hD hS 1 0 rfl rfl (zin_lit ⟨by omega, by omega⟩) dX13_want_48 (fun H locs hP hD hS => ?_)
      obtain ⟨f_48, e_f_48⟩ : ∃ z : Nat → Int32, z = upd f32 ((v0 50) : Int32).toNatClampNeg (v0 20) := ⟨_, rfl⟩
      have hP : va_P (dC, dI) vwCl [(h0, .inr (13, mX13 q0 v0)), ((q0 49), .inl (k32, 200, .inl f_48)), ((q0 19), .inl (k15, 12, .inl f15)), ((q0 48), .inl (k31, 2400, .inl (a2_ 0)))] H := by rw [e_f_48]; exact hP
      have hD : va_D A [(h0, .inr (13, mX13 q0 v0)), ((q0 49), .inl (k32, 200, .inl f_48)), ((q0 19), .inl (k15, 12, .inl f15)), ((q0 48), .inl (k31, 2400, .inl (a2_ 0)))] := by rw [e_f_48]; exact hD
      have hf_48 : zA 0 12 f_48 := by rw [e_f_48]; exact zA_upd hf32 (show 0 ≤ ((v0 20) : Int32).toInt from by omega) (show ((v0 20) : Int32).toInt ≤ 12 from by omega)
      refine lv_aload_n hx hb dX13_want_49 rfl (lv_at hl 0 rfl) ?_
      refine lv_dup hx hb dX13_want_50 rfl ?_
      refine va_get (D := (dC, dI)) (ci := 13) (v := .int (v0 50)) (C := RX13) (T := TX13) (N := 75) hx hb hG zuX13 hown hK hP 0 rfl rfl 50 (by decide) (hG _ zw719) (fun _ h9 => h9) rfl dX13_want_51 ?_
      refine lv_iconst (v := 1) hx hb dX13_want_54 (by decide) ?_
      refine lv_iadd hx hb dX13_want_55 ?_
      refine lv_topi (fun z55 e_z55 => ?_)
      have b_ := zadd rfl zk_1 e_z55 (by omega) (by omega)
      have b_ : 0 ≤ z55.toInt ∧ z55.toInt ≤ 200 := ⟨by omega, by omega⟩
      refine va_put (D := (dC, dI)) (ci := 13) (v := .int z55) (ty := .int) (C := RX13) (T := TX13) (N := 75) hx hb hG zuX13 tyX13 tyX13_ok nmX13 hown hK hP hD hS 0 rfl rfl 50 (by decide) (hG _ zw719) (fun _ h9 => h9) rfl (by decide +kernel) rfl rfl (Nat.le_of_ble_eq_true rfl) dX13_want_56 (fun H locs hP hD hS => ?_)
      have hP : va_P (dC, dI) vwCl [(h0, .inr (13, mX13 q0 (upd v0 50 z55))), ((q0 49), .inl (k32, 200, .inl f_48)), ((q0 19), .inl (k15, 12, .inl f15)), ((q0 48), .inl (k31, 2400, .inl (a2_ 0)))] H := hP
      have hD : va_D A [(h0, .inr (13, mX13 q0 (upd v0 50 z55))), ((q0 49), .inl (k32, 200, .inl f_48)), ((q0 19), .inl (k15, 12, .inl f15)), ((q0 48), .inl (k31, 2400, .inl (a2_ 0)))] := hD
      refine W.widen (k := 0) (n := 0) (by decide) (by decide) ?_
      have hpost : (1 ≤ z55.toInt ∧ z55.toInt ≤ 200) ∧ (z55.toInt = (v0 50).toInt + 1) := ⟨⟨by omega, by omega⟩, by omega⟩
      have hP9 : va_P (dC, dI) vwCl [(h0, .inr (13, mX13 q0 (upd v0 50 z55))), ((q0 49), .inl (k32, 200, .inl f_48)), ((q0 19), .inl (k15, 12, .inl f15)), ((q0 48), .inl (k31, 2400, .inl (a2_ 0)))] H := hP
      have hD9 : va_D A [(h0, .inr (13, mX13 q0 (upd v0 50 z55))), ((q0 49), .inl (k32, 200, .inl f_48)), ((q0 19), .inl (k15, 12, .inl f15)), ((q0 48), .inl (k31, 2400, .inl (a2_ 0)))] := hD
      exact W.vret hx hb hr (fun t ht hW => ⟨⟨(fun i => ([z55] : List (Int32)).getD i 0), rfl, hpost, (fun _ => 0), (fun i => ([f_48, (a2_ 0)] : List (Nat → Int32)).getD i (fun _ => 0)), (fun _ => (fun _ => 0)), hf_48, by rw [ht]; exact hP9, va_K.moved hW.alike hK, hD9⟩, hS.F ht⟩) hS.2.2 dX13_want_59
    · skip
      have b_ := zF_ge rfl rfl c_
      refine lv_aload_n hx hb dX13_want_10 rfl (lv_at hl 0 rfl) ?_
      refine va_get (D := (dC, dI)) (ci := 13) (v := .ref (q0 48)) (C := RX13) (T := TX13) (N := 75) hx hb hG zuX13 hown hK hP 0 rfl rfl 48 (by decide) (hG _ zw720) (fun _ h9 => h9) rfl dX13_want_11 ?_
      refine lv_bipush (v := 12) hx hb dX13_want_14 (by decide) ?_
      refine lv_aload_n hx hb dX13_want_16 rfl (lv_at hl 0 rfl) ?_
      refine va_get (D := (dC, dI)) (ci := 13) (v := .int (v0 50)) (C := RX13) (T := TX13) (N := 75) hx hb hG zuX13 hown hK hP 0 rfl rfl 50 (by decide) (hG _ zw719) (fun _ h9 => h9) rfl dX13_want_17 ?_
      refine lv_imul hx hb dX13_want_20 ?_
      refine lv_topi (fun z20 e_z20 => ?_)
      have b_ := zmul zk_12 rfl e_z20 (by omega) (by omega)
      refine lv_iload_n hx hb dX13_want_21 rfl (lv_at hl 1 rfl) ?_
      refine lv_iadd hx hb dX13_want_22 ?_
      refine lv_topi (fun z22 e_z22 => ?_)
      have b_ := zadd rfl rfl e_z22 (by omega) (by omega)
      refine lv_aload_n hx hb dX13_want_23 rfl (lv_at hl 0 rfl) ?_
      refine va_get (D := (dC, dI)) (ci := 13) (v := .ref (q0 19)) (C := RX13) (T := TX13) (N := 75) hx hb hG zuX13 hown hK hP 0 rfl rfl 19 (by decide) (hG _ zw539) (fun _ h9 => h9) rfl dX13_want_24 ?_
      refine lv_iload_n hx hb dX13_want_27 rfl (lv_at hl 1 rfl) ?_
      refine va_bald hx hb hK hP 2 1 rfl rfl (zin_lit ⟨by omega, by omega⟩) dX13_want_28 ?_
      refine lv_topi (fun z28 e_z28 => ?_)
      refine va_bast hx hb hK hP hD hS 3 2 rfl rfl (zin_lit ⟨by omega, by omega⟩) dX13_want_29 (fun H locs hP hD hS => ?_)
      obtain ⟨f_29, e_f_29⟩ : ∃ z : Nat → Int32, z = upd (a2_ 0) (z22 : Int32).toNatClampNeg (vp_nar .byte z28) := ⟨_, rfl⟩
      have hP : va_P (dC, dI) vwCl [(h0, .inr (13, mX13 q0 v0)), ((q0 49), .inl (k32, 200, .inl f32)), ((q0 19), .inl (k15, 12, .inl f15)), ((q0 48), .inl (k31, 2400, .inl f_29))] H := by rw [e_f_29]; exact hP
      have hD : va_D A [(h0, .inr (13, mX13 q0 v0)), ((q0 49), .inl (k32, 200, .inl f32)), ((q0 19), .inl (k15, 12, .inl f15)), ((q0 48), .inl (k31, 2400, .inl f_29))] := by rw [e_f_29]; exact hD
      obtain ⟨z30, e_z30⟩ : ∃ z : Int32, z = (u2_ 0) + Int32.ofInt 1 := ⟨_, rfl⟩
      have b_ := zadd (x := (u2_ 0)) (y := Int32.ofInt 1) rfl (show (Int32.ofInt 1).toInt = 1 from by decide) e_z30 (by omega) (by omega)
      refine lv_iinc (v := z30) (lv' := [(1, .int z30), (0, .ref h0)]) hx hb dX13_want_30 hl (k := 1) rfl e_z30.symm (by decide) rfl (fun ls hl => ?_)
      refine lv_goto (tgt := 2) hx hb dX13_want_33 (by decide) ?_
      have hc : va_P (dC, dI) vwCl [(h0, .inr (13, mX13 q0 v0)), ((q0 49), .inl (k32, 200, .inl f32)), ((q0 19), .inl (k15, 12, .inl f15)), ((q0 48), .inl (k31, 2400, .inl f_29))] H ∧ va_D A [(h0, .inr (13, mX13 q0 v0)), ((q0 49), .inl (k32, 200, .inl f32)), ((q0 19), .inl (k15, 12, .inl f15)), ((q0 48), .inl (k31, 2400, .inl f_29))] ∧ va_S A s.heap H locs ∧ lv_has ls 2 [(0, .ref h0), (1, .int z30)] ∧ (0 ≤ z30.toInt ∧ z30.toInt ≤ 12) := ⟨hP, hD, hS, lv_sub hl [1, 0] rfl, ⟨by omega, by omega⟩⟩
      exact hJ2 H locs ls (fun i => ([z30] : List (Int32)).getD i 0) (fun _ => 0) (fun i => ([f_29] : List (Nat → Int32)).getD i (fun _ => 0)) (fun _ => (fun _ => 0)) hc (show (12 - z30.toInt).toNat < (12 - (u2_ 0).toInt).toNat from by omega)
  · skip
    have hc : va_P (dC, dI) vwCl [(h0, .inr (13, mX13 q0 v0)), ((q0 49), .inl (k32, 200, .inl f32)), ((q0 19), .inl (k15, 12, .inl f15)), ((q0 48), .inl (k31, 2400, .inl f31))] s.heap ∧ va_D A [(h0, .inr (13, mX13 q0 v0)), ((q0 49), .inl (k32, 200, .inl f32)), ((q0 19), .inl (k15, 12, .inl f15)), ((q0 48), .inl (k31, 2400, .inl f31))] ∧ va_S A s.heap s.heap [] ∧ lv_has ls 2 [(0, .ref h0), (1, .int 0)] ∧ (0 ≤ (0 : Int32).toInt ∧ (0 : Int32).toInt ≤ 12) := ⟨hP, hD, hS, lv_sub hl [1, 0] rfl, ⟨by omega, by omega⟩⟩
    exact hJ2 s.heap [] ls (fun i => ([0] : List (Int32)).getD i 0) (fun _ => 0) (fun i => ([f31] : List (Nat → Int32)).getD i (fun _ => 0)) (fun _ => (fun _ => 0)) hc
set_option maxHeartbeats 8000000 in
set_option maxRecDepth 100000 in
theorem sX13_leafNode_0 (l : Launch) (dC : Nat → ClassId) (dI : Nat → Nat → Nat) (adK adV : Nat → Nat) (h0 : Nat) (q0 : Nat → Nat) (k27 : ClassId) (k23 : ClassId) (k24 : ClassId) (k25 : ClassId) (k26 : ClassId) (k34 : ClassId) (k33 : ClassId) (k28 : ClassId) (k29 : ClassId) (sz : Nat) (v0 : Nat → Int32) (f27 : Nat → Int32) (f23 : Nat → Int32) (f24 : Nat → Int32) (f25 : Nat → Int32) (f26 : Nat → Int32) (f34 : Nat → Int32) (f33 : Nat → Int32) (f28 : Nat → Int32) (f29 : Nat → Int32) (x1 : Int32) (hv0 : zR rg_Model v0) (hf24 : zA (-1) 1299 f24) (hf25 : zA (-1) 1299 f25) (hx1 : 0 ≤ x1.toInt ∧ x1.toInt ≤ 39) (hp0_ : (v0 42).toInt ≤ 1299) (hp1_ : (v0 53).toInt ≤ 1299) (hp2_ : zTr f23 f24 f25 f26 (v0 42).toInt) (hp3_ : zLf f27 f28 f29 (v0 47).toInt) (hp4_ : x1.toInt < (v0 47).toInt) : Met l yX13_leafNode (zw yX13_leafNode cX13_leafNode 2 (some .int)) { frames := 1, cells := 0, slots := 0, locals := 24 } (zPc dC dI adK adV [.ref h0, .int x1] sz [(h0, .inr (13, mX13 q0 v0)), ((q0 43), .inl (k27, 40, .inl f27)), ((q0 38), .inl (k23, 1300, .inl f23)), ((q0 39), .inl (k24, 1300, .inl f24)), ((q0 40), .inl (k25, 1300, .inl f25)), ((q0 41), .inl (k26, 1300, .inl f26)), ((q0 56), .inl (k34, 1300, .inl f34)), ((q0 52), .inl (k33, 1300, .inl f33)), ((q0 44), .inl (k28, 40, .inl f28)), ((q0 45), .inl (k29, 40, .inl f29))] [(k27, .int), (k23, .int), (k24, .int), (k25, .int), (k26, .int), (k34, .boolean), (k33, .int), (k28, .int), (k29, .int)]) (va_Qi (fun (r : Int32) (u : Nat → Int32) => (0 ≤ r.toInt ∧ r.toInt ≤ 1299) ∧ (1 ≤ (u 0).toInt ∧ (u 0).toInt ≤ 1300) ∧ (1 ≤ (u 1).toInt ∧ (u 1).toInt ≤ 1300) ∧ (r.toInt = (v0 42).toInt) ∧ ((u 0).toInt = (v0 42).toInt + 1) ∧ ((u 1).toInt = (v0 53).toInt + 1)) (fun (u : Nat → Int32) (t : State) => ∃ (ww : Nat → Int64) (aa : Nat → Nat → Int32) (bb : Nat → Nat → Int64), zA (-1) 1299 (aa 1) ∧ zA (-1) 1299 (aa 2) ∧ (zTr (aa 0) (aa 1) (aa 2) (aa 3) (u 0).toInt) ∧ va_P (dC, dI) vwCl [(h0, .inr (13, mX13 q0 (upd (upd v0 42 (u 0)) 53 (u 1)))), ((q0 43), .inl (k27, 40, .inl f27)), ((q0 38), .inl (k23, 1300, .inl (aa 0))), ((q0 39), .inl (k24, 1300, .inl (aa 1))), ((q0 40), .inl (k25, 1300, .inl (aa 2))), ((q0 41), .inl (k26, 1300, .inl (aa 3))), ((q0 56), .inl (k34, 1300, .inl (aa 4))), ((q0 52), .inl (k33, 1300, .inl (aa 5))), ((q0 44), .inl (k28, 40, .inl f28)), ((q0 45), .inl (k29, 40, .inl f29))] t.heap ∧ va_K (dC, dI) vwCl [(k27, .int), (k23, .int), (k24, .int), (k25, .int), (k26, .int), (k34, .boolean), (k33, .int), (k28, .int), (k29, .int)] t ∧ va_D (va_A [(h0, .inr (13, mX13 q0 v0)), ((q0 43), .inl (k27, 40, .inl f27)), ((q0 38), .inl (k23, 1300, .inl f23)), ((q0 39), .inl (k24, 1300, .inl f24)), ((q0 40), .inl (k25, 1300, .inl f25)), ((q0 41), .inl (k26, 1300, .inl f26)), ((q0 56), .inl (k34, 1300, .inl f34)), ((q0 52), .inl (k33, 1300, .inl f33)), ((q0 44), .inl (k28, 40, .inl f28)), ((q0 45), .inl (k29, 40, .inl f29))] sz) [(h0, .inr (13, mX13 q0 (upd (upd v0 42 (u 0)) 53 (u 1)))), ((q0 43), .inl (k27, 40, .inl f27)), ((q0 38), .inl (k23, 1300, .inl (aa 0))), ((q0 39), .inl (k24, 1300, .inl (aa 1))), ((q0 40), .inl (k25, 1300, .inl (aa 2))), ((q0 41), .inl (k26, 1300, .inl (aa 3))), ((q0 56), .inl (k34, 1300, .inl (aa 4))), ((q0 52), .inl (k33, 1300, .inl (aa 5))), ((q0 44), .inl (k28, 40, .inl f28)), ((q0 45), .inl (k29, 40, .inl f29))]) (va_A [(h0, .inr (13, mX13 q0 v0)), ((q0 43), .inl (k27, 40, .inl f27)), ((q0 38), .inl (k23, 1300, .inl f23)), ((q0 39), .inl (k24, 1300, .inl f24)), ((q0 40), .inl (k25, 1300, .inl f25)), ((q0 41), .inl (k26, 1300, .inl f26)), ((q0 56), .inl (k34, 1300, .inl f34)), ((q0 52), .inl (k33, 1300, .inl f33)), ((q0 44), .inl (k28, 40, .inl f28)), ((q0 45), .inl (k29, 40, .inl f29))] sz)) 0 0 (va_A [(h0, .inr (13, mX13 q0 v0)), ((q0 43), .inl (k27, 40, .inl f27)), ((q0 38), .inl (k23, 1300, .inl f23)), ((q0 39), .inl (k24, 1300, .inl f24)), ((q0 40), .inl (k25, 1300, .inl f25)), ((q0 41), .inl (k26, 1300, .inl f26)), ((q0 56), .inl (k34, 1300, .inl f34)), ((q0 52), .inl (k33, 1300, .inl f33)), ((q0 44), .inl (k28, 40, .inl f28)), ((q0 45), .inl (k29, 40, .inl f29))] sz) := by
  refine Met.ofW (cc := cX13_leafNode) (maxL := 2) (ret := (some .int)) (by decide) rfl ?_
  intro p e s m args below meth c s₁ B hml hv
  obtain ⟨rfl, hsz, hP, hK, hD0, hE, hZ⟩ := hv
  have hx := B.exec
  have hb := B.bytes
  have hr := B.returns
  have hG : ∀ w ∈ zG, w.before _ s = true := fun w h => atoms_spec (ws := (zw yX13_leafNode cX13_leafNode 2 (some .int))) B.pre w (List.mem_cons_of_mem _ h)
  have hown : s.vm.findClass RX13 = some m.cls := findClass_of_methodNamed B.named
  have hlocks := B.notSynchronized
  subst hsz
  have hD := hD0.self (sz := s.heap.size)
  generalize hAe : va_A [(h0, .inr (13, mX13 q0 v0)), ((q0 43), .inl (k27, 40, .inl f27)), ((q0 38), .inl (k23, 1300, .inl f23)), ((q0 39), .inl (k24, 1300, .inl f24)), ((q0 40), .inl (k25, 1300, .inl f25)), ((q0 41), .inl (k26, 1300, .inl f26)), ((q0 56), .inl (k34, 1300, .inl f34)), ((q0 52), .inl (k33, 1300, .inl f33)), ((q0 44), .inl (k28, 40, .inl f28)), ((q0 45), .inl (k29, 40, .inl f29))] s.heap.size = A at hD hZ ⊢
  have hA : ∀ q : Nat, s.heap.size ≤ q → A q := fun q h => by rw [← hAe]; exact Or.inr h
  have hS : va_S A s.heap s.heap [] := va_S.rf
  have hl := lv_entry ([.ref h0, .int x1]) (n := 2) (Nat.le_of_ble_eq_true rfl)
  rw [lg_entry_eq]
  generalize (lg_sl ([.ref h0, .int x1]) ++ List.replicate (2 - (lg_sl ([.ref h0, .int x1])).length) Slot.unset).toArray = ls at hl ⊢
  have hl : lv_has ls 2 [(0, .ref h0), (1, .int x1)] := hl
  have b_ := zk_m1
  have b_ : 0 ≤ (v0 42).toInt ∧ (v0 42).toInt ≤ 1300 := hv0 42
  have b_ : 0 ≤ (v0 53).toInt ∧ (v0 53).toInt ≤ 1300 := hv0 53
  have b_ : 0 ≤ (v0 47).toInt ∧ (v0 47).toInt ≤ 40 := hv0 47
  refine lv_aload_n hx hb dX13_leafNode_0 rfl (lv_at hl 0 rfl) ?_
  refine lv_aload_n hx hb dX13_leafNode_1 rfl (lv_at hl 0 rfl) ?_
  refine va_get (D := (dC, dI)) (ci := 13) (v := .ref (q0 43)) (C := RX13) (T := TX13) (N := 75) hx hb hG zuX13 hown hK hP 0 rfl rfl 43 (by decide) (hG _ zw721) (fun _ h9 => h9) rfl dX13_leafNode_2 ?_
  refine lv_iload_n hx hb dX13_leafNode_5 rfl (lv_at hl 1 rfl) ?_
  refine va_iald hx hb hK hP 1 0 rfl rfl (zin_lit ⟨by omega, by omega⟩) dX13_leafNode_6 ?_
  refine lv_topi (fun z6 e_z6 => ?_)
  refine lv_iconst (v := (-1)) hx hb dX13_leafNode_7 (by decide) ?_
  refine lv_iconst (v := (-1)) hx hb dX13_leafNode_8 (by decide) ?_
  refine lv_iload_n hx hb dX13_leafNode_9 rfl (lv_at hl 1 rfl) ?_
  have hg := zLf_get hp3_ hp4_ (by omega)
  have b_ : -2147483648 ≤ z6.toInt ∧ z6.toInt ≤ 2147483647 := ⟨zlo _, zhi _⟩
  have hnd : zNd f23 (v0 42).toInt z6.toInt ((-1) : Int32).toInt ((-1) : Int32).toInt x1.toInt := zNd_leaf (by rw [e_z6]; exact ⟨hg.1, hg.2.1⟩) ⟨by omega, by omega⟩
  have hPc := hP.sub (ws' := [(h0, .inr (13, mX13 q0 v0)), ((q0 38), .inl (k23, 1300, .inl f23)), ((q0 39), .inl (k24, 1300, .inl f24)), ((q0 40), .inl (k25, 1300, .inl f25)), ((q0 41), .inl (k26, 1300, .inl f26)), ((q0 56), .inl (k34, 1300, .inl f34)), ((q0 52), .inl (k33, 1300, .inl f33))]) [0, 2, 3, 4, 5, 6, 7] rfl
  have hDc := hD.sub (ws' := [(h0, .inr (13, mX13 q0 v0)), ((q0 38), .inl (k23, 1300, .inl f23)), ((q0 39), .inl (k24, 1300, .inl f24)), ((q0 40), .inl (k25, 1300, .inl f25)), ((q0 41), .inl (k26, 1300, .inl f26)), ((q0 56), .inl (k34, 1300, .inl f34)), ((q0 52), .inl (k33, 1300, .inl f33))]) [0, 2, 3, 4, 5, 6, 7] (by decide) rfl
  have hKc := hK.sub (tys' := [(k23, .int), (k24, .int), (k25, .int), (k26, .int), (k34, .boolean), (k33, .int)]) [1, 2, 3, 4, 5, 6] rfl
  have hFc := va_free (wc := [(h0, .inr (13, mX13 q0 v0)), ((q0 38), .inl (k23, 1300, .inl f23)), ((q0 39), .inl (k24, 1300, .inl f24)), ((q0 40), .inl (k25, 1300, .inl f25)), ((q0 41), .inl (k26, 1300, .inl f26)), ((q0 56), .inl (k34, 1300, .inl f34)), ((q0 52), .inl (k33, 1300, .inl f33))]) hD hS hA [0, 2, 3, 4, 5, 6, 7] rfl
  refine va_calli (va_runV (As := [.int z6, .int (-1), .int (-1), .int x1]) (rest := []) ⟨hx, hb, hml, hown, hG⟩ (sX13_node_0 l dC dI adK adV h0 q0 k23 k24 k25 k26 k34 k33 s.heap.size v0 f23 f24 f25 f26 f34 f33 z6 (-1) (-1) x1 hv0 hf24 hf25 ⟨show ((-1) : Int) ≤ ((-1) : Int32).toInt from by decide, show ((-1) : Int32).toInt ≤ (1299 : Int) from by decide⟩ ⟨show ((-1) : Int) ≤ ((-1) : Int32).toInt from by decide, show ((-1) : Int32).toInt ≤ (1299 : Int) from by decide⟩ (show (v0 42).toInt ≤ 1299 from by omega) (show (v0 53).toInt ≤ 1299 from by omega) (show zTr f23 f24 f25 f26 (v0 42).toInt from by assumption) (show zNd f23 (v0 42).toInt z6.toInt ((-1) : Int32).toInt ((-1) : Int32).toInt x1.toInt from by assumption)) (cwV 4 hG (zgV zw722 zw723 zw724 zw524 zw725) rfl rfl rfl (by decide +kernel) ⟨Nat.le_of_ble_eq_true rfl, Nat.le_of_ble_eq_true rfl⟩) ⟨zPc_blind, va_recv hKc hPc (ci := 13) (q0 := 0) rfl rfl, zPc_pre hPc hKc hDc hE hS hFc hZ⟩ rfl rfl hl.1 rfl (lv_room (Nat.le_of_ble_eq_true rfl)) dX13_leafNode_10 ⟨Nat.le_of_ble_eq_true rfl, Nat.le_of_ble_eq_true rfl⟩) hS (fun q _ h => hFc q h) hFc (fun r10_ u10_ t H1 locs ht hvm hw hB hz1 hk1 hS => ?_)
  have hw : (0 ≤ r10_.toInt ∧ r10_.toInt ≤ 1299) ∧ (1 ≤ (u10_ 0).toInt ∧ (u10_ 0).toInt ≤ 1300) ∧ (1 ≤ (u10_ 1).toInt ∧ (u10_ 1).toInt ≤ 1300) ∧ (r10_.toInt = (v0 42).toInt) ∧ ((u10_ 0).toInt = (v0 42).toInt + 1) ∧ ((u10_ 1).toInt = (v0 53).toInt + 1) := hw
  obtain ⟨b_, b_, b_, hX10_0, hX10_1, hX10_2⟩ := hw
  obtain ⟨w10_, a10_, b10_, ha10_1, ha10_2, hB10_0, hP1, hK1, hD1⟩ := hB
  have hB10_0 : zTr (a10_ 0) (a10_ 1) (a10_ 2) (a10_ 3) (u10_ 0).toInt := hB10_0
  rw [ht] at hP1
  obtain ⟨hP, hD⟩ := va_join (wr := [((q0 43), .inl (k27, 40, .inl f27)), ((q0 44), .inl (k28, 40, .inl f28)), ((q0 45), .inl (k29, 40, .inl f29))]) (w1 := [(h0, .inr (13, mX13 q0 (upd (upd v0 42 (u10_ 0)) 53 (u10_ 1)))), ((q0 38), .inl (k23, 1300, .inl (a10_ 0))), ((q0 39), .inl (k24, 1300, .inl (a10_ 1))), ((q0 40), .inl (k25, 1300, .inl (a10_ 2))), ((q0 41), .inl (k26, 1300, .inl (a10_ 3))), ((q0 56), .inl (k34, 1300, .inl (a10_ 4))), ((q0 52), .inl (k33, 1300, .inl (a10_ 5)))]) hP hD [0, 2, 3, 4, 5, 6, 7] [1, 8, 9] rfl rfl (by decide) (by decide) hk1 hFc hP1 hD1
  have hP : va_P (dC, dI) vwCl [(h0, .inr (13, mX13 q0 (upd (upd v0 42 (u10_ 0)) 53 (u10_ 1)))), ((q0 43), .inl (k27, 40, .inl f27)), ((q0 38), .inl (k23, 1300, .inl (a10_ 0))), ((q0 39), .inl (k24, 1300, .inl (a10_ 1))), ((q0 40), .inl (k25, 1300, .inl (a10_ 2))), ((q0 41), .inl (k26, 1300, .inl (a10_ 3))), ((q0 56), .inl (k34, 1300, .inl (a10_ 4))), ((q0 52), .inl (k33, 1300, .inl (a10_ 5))), ((q0 44), .inl (k28, 40, .inl f28)), ((q0 45), .inl (k29, 40, .inl f29))] H1 := hP.sub [3, 0, 4, 5, 6, 7, 8, 9, 1, 2] rfl
  have hD : va_D A [(h0, .inr (13, mX13 q0 (upd (upd v0 42 (u10_ 0)) 53 (u10_ 1)))), ((q0 43), .inl (k27, 40, .inl f27)), ((q0 38), .inl (k23, 1300, .inl (a10_ 0))), ((q0 39), .inl (k24, 1300, .inl (a10_ 1))), ((q0 40), .inl (k25, 1300, .inl (a10_ 2))), ((q0 41), .inl (k26, 1300, .inl (a10_ 3))), ((q0 56), .inl (k34, 1300, .inl (a10_ 4))), ((q0 52), .inl (k33, 1300, .inl (a10_ 5))), ((q0 44), .inl (k28, 40, .inl f28)), ((q0 45), .inl (k29, 40, .inl f29))] := hD.sub [3, 0, 4, 5, 6, 7, 8, 9, 1, 2] (by decide) rfl
  generalize H1 = H at hP hS ⊢
  clear hz1
  refine W.widen (k := 0) (n := 0) (by decide) (by decide) ?_
  have hpost : (0 ≤ r10_.toInt ∧ r10_.toInt ≤ 1299) ∧ (1 ≤ (u10_ 0).toInt ∧ (u10_ 0).toInt ≤ 1300) ∧ (1 ≤ (u10_ 1).toInt ∧ (u10_ 1).toInt ≤ 1300) ∧ (r10_.toInt = (v0 42).toInt) ∧ ((u10_ 0).toInt = (v0 42).toInt + 1) ∧ ((u10_ 1).toInt = (v0 53).toInt + 1) := ⟨⟨by omega, by omega⟩, ⟨by omega, by omega⟩, ⟨by omega, by omega⟩, by omega, by omega, by omega⟩
  have hP9 : va_P (dC, dI) vwCl [(h0, .inr (13, mX13 q0 (upd (upd v0 42 (u10_ 0)) 53 (u10_ 1)))), ((q0 43), .inl (k27, 40, .inl f27)), ((q0 38), .inl (k23, 1300, .inl (a10_ 0))), ((q0 39), .inl (k24, 1300, .inl (a10_ 1))), ((q0 40), .inl (k25, 1300, .inl (a10_ 2))), ((q0 41), .inl (k26, 1300, .inl (a10_ 3))), ((q0 56), .inl (k34, 1300, .inl (a10_ 4))), ((q0 52), .inl (k33, 1300, .inl (a10_ 5))), ((q0 44), .inl (k28, 40, .inl f28)), ((q0 45), .inl (k29, 40, .inl f29))] H := hP
  have hD9 : va_D A [(h0, .inr (13, mX13 q0 (upd (upd v0 42 (u10_ 0)) 53 (u10_ 1)))), ((q0 43), .inl (k27, 40, .inl f27)), ((q0 38), .inl (k23, 1300, .inl (a10_ 0))), ((q0 39), .inl (k24, 1300, .inl (a10_ 1))), ((q0 40), .inl (k25, 1300, .inl (a10_ 2))), ((q0 41), .inl (k26, 1300, .inl (a10_ 3))), ((q0 56), .inl (k34, 1300, .inl (a10_ 4))), ((q0 52), .inl (k33, 1300, .inl (a10_ 5))), ((q0 44), .inl (k28, 40, .inl f28)), ((q0 45), .inl (k29, 40, .inl f29))] := hD
  have hB0 : zTr (a10_ 0) (a10_ 1) (a10_ 2) (a10_ 3) (u10_ 0).toInt := by assumption
  exact W.iret (v := r10_) hx hb hr (fun t ht hW => ⟨⟨r10_, (fun i => ([(u10_ 0), (u10_ 1)] : List (Int32)).getD i 0), rfl, hpost, (fun _ => 0), (fun i => ([(a10_ 0), (a10_ 1), (a10_ 2), (a10_ 3), (a10_ 4), (a10_ 5)] : List (Nat → Int32)).getD i (fun _ => 0)), (fun _ => (fun _ => 0)), ha10_1, ha10_2, hB0, by rw [ht]; exact hP9, va_K.moved hW.alike hK, hD9⟩, hS.F ht⟩) hS.2.2 dX13_leafNode_13
set_option maxHeartbeats 8000000 in
set_option maxRecDepth 100000 in
theorem sX13_isStopped_0 (l : Launch) (dC : Nat → ClassId) (dI : Nat → Nat → Nat) (adK adV : Nat → Nat) (h0 : Nat) (q0 : Nat → Nat) (k32 : ClassId) (k13 : ClassId) (k12 : ClassId) (k15 : ClassId) (k31 : ClassId) (sz : Nat) (v0 : Nat → Int32) (f32 : Nat → Int32) (f13 : Nat → Int32) (f12 : Nat → Int32) (f15 : Nat → Int32) (f31 : Nat → Int32) (x1 : Int32) (hv0 : zR rg_Model v0) (hf32 : zA 0 12 f32) (hf13 : zA 0 12 f13) (hx1 : 0 ≤ x1.toInt ∧ x1.toInt ≤ 199) : Met l yX13_isStopped (zw yX13_isStopped cX13_isStopped 3 (some .boolean)) { frames := 2, cells := 0, slots := 0, locals := 45 } (zPc dC dI adK adV [.ref h0, .int x1] sz [(h0, .inr (13, mX13 q0 v0)), ((q0 49), .inl (k32, 200, .inl f32)), ((q0 15), .inl (k13, 10, .inl f13)), ((q0 14), .inl (k12, 120, .inl f12)), ((q0 19), .inl (k15, 12, .inl f15)), ((q0 48), .inl (k31, 2400, .inl f31))] [(k32, .int), (k13, .int), (k12, .byte), (k15, .byte), (k31, .byte)]) (va_Qi (fun (r : Int32) (u : Nat → Int32) => (0 ≤ r.toInt ∧ r.toInt ≤ 1) ∧ (0 ≤ (u 0).toInt ∧ (u 0).toInt ≤ 12)) (fun (u : Nat → Int32) (t : State) => ∃ (ww : Nat → Int64) (aa : Nat → Nat → Int32) (bb : Nat → Nat → Int64), va_P (dC, dI) vwCl [(h0, .inr (13, mX13 q0 (upd v0 20 (u 0)))), ((q0 49), .inl (k32, 200, .inl f32)), ((q0 15), .inl (k13, 10, .inl f13)), ((q0 14), .inl (k12, 120, .inl f12)), ((q0 19), .inl (k15, 12, .inl (aa 0))), ((q0 48), .inl (k31, 2400, .inl f31))] t.heap ∧ va_K (dC, dI) vwCl [(k32, .int), (k13, .int), (k12, .byte), (k15, .byte), (k31, .byte)] t ∧ va_D (va_A [(h0, .inr (13, mX13 q0 v0)), ((q0 49), .inl (k32, 200, .inl f32)), ((q0 15), .inl (k13, 10, .inl f13)), ((q0 14), .inl (k12, 120, .inl f12)), ((q0 19), .inl (k15, 12, .inl f15)), ((q0 48), .inl (k31, 2400, .inl f31))] sz) [(h0, .inr (13, mX13 q0 (upd v0 20 (u 0)))), ((q0 49), .inl (k32, 200, .inl f32)), ((q0 15), .inl (k13, 10, .inl f13)), ((q0 14), .inl (k12, 120, .inl f12)), ((q0 19), .inl (k15, 12, .inl (aa 0))), ((q0 48), .inl (k31, 2400, .inl f31))]) (va_A [(h0, .inr (13, mX13 q0 v0)), ((q0 49), .inl (k32, 200, .inl f32)), ((q0 15), .inl (k13, 10, .inl f13)), ((q0 14), .inl (k12, 120, .inl f12)), ((q0 19), .inl (k15, 12, .inl f15)), ((q0 48), .inl (k31, 2400, .inl f31))] sz)) 0 0 (va_A [(h0, .inr (13, mX13 q0 v0)), ((q0 49), .inl (k32, 200, .inl f32)), ((q0 15), .inl (k13, 10, .inl f13)), ((q0 14), .inl (k12, 120, .inl f12)), ((q0 19), .inl (k15, 12, .inl f15)), ((q0 48), .inl (k31, 2400, .inl f31))] sz) := by
  refine Met.ofW (cc := cX13_isStopped) (maxL := 3) (ret := (some .boolean)) (by decide) rfl ?_
  intro p e s m args below meth c s₁ B hml hv
  obtain ⟨rfl, hsz, hP, hK, hD0, hE, hZ⟩ := hv
  have hx := B.exec
  have hb := B.bytes
  have hr := B.returns
  have hG : ∀ w ∈ zG, w.before _ s = true := fun w h => atoms_spec (ws := (zw yX13_isStopped cX13_isStopped 3 (some .boolean))) B.pre w (List.mem_cons_of_mem _ h)
  have hown : s.vm.findClass RX13 = some m.cls := findClass_of_methodNamed B.named
  have hlocks := B.notSynchronized
  subst hsz
  have hD := hD0.self (sz := s.heap.size)
  generalize hAe : va_A [(h0, .inr (13, mX13 q0 v0)), ((q0 49), .inl (k32, 200, .inl f32)), ((q0 15), .inl (k13, 10, .inl f13)), ((q0 14), .inl (k12, 120, .inl f12)), ((q0 19), .inl (k15, 12, .inl f15)), ((q0 48), .inl (k31, 2400, .inl f31))] s.heap.size = A at hD hZ ⊢
  have hA : ∀ q : Nat, s.heap.size ≤ q → A q := fun q h => by rw [← hAe]; exact Or.inr h
  have hS : va_S A s.heap s.heap [] := va_S.rf
  have hl := lv_entry ([.ref h0, .int x1]) (n := 3) (Nat.le_of_ble_eq_true rfl)
  rw [lg_entry_eq]
  generalize (lg_sl ([.ref h0, .int x1]) ++ List.replicate (3 - (lg_sl ([.ref h0, .int x1])).length) Slot.unset).toArray = ls at hl ⊢
  have hl : lv_has ls 3 [(0, .ref h0), (1, .int x1)] := hl
  have b_ := zk_0
  have b_ := zk_1
  refine lv_aload_n hx hb dX13_isStopped_0 rfl (lv_at hl 0 rfl) ?_
  refine lv_aload_n hx hb dX13_isStopped_1 rfl (lv_at hl 0 rfl) ?_
  refine va_get (D := (dC, dI)) (ci := 13) (v := .ref (q0 49)) (C := RX13) (T := TX13) (N := 75) hx hb hG zuX13 hown hK hP 0 rfl rfl 49 (by decide) (hG _ zw718) (fun _ h9 => h9) rfl dX13_isStopped_2 ?_
  refine lv_iload_n hx hb dX13_isStopped_5 rfl (lv_at hl 1 rfl) ?_
  refine va_iald hx hb hK hP 1 0 rfl rfl (zin_lit ⟨by omega, by omega⟩) dX13_isStopped_6 ?_
  refine lv_topi (fun z6 e_z6 => ?_)
  have b_ : 0 ≤ z6.toInt ∧ z6.toInt ≤ 12 := by rw [e_z6]; exact hf32 _
  refine va_put (D := (dC, dI)) (ci := 13) (v := .int z6) (ty := .int) (C := RX13) (T := TX13) (N := 75) hx hb hG zuX13 tyX13 tyX13_ok nmX13 hown hK hP hD hS 0 rfl rfl 20 (by decide) (hG _ zw538) (fun _ h9 => h9) rfl (by decide +kernel) rfl rfl (Nat.le_of_ble_eq_true rfl) dX13_isStopped_7 (fun H locs hP hD hS => ?_)
  have hP : va_P (dC, dI) vwCl [(h0, .inr (13, mX13 q0 (upd v0 20 z6))), ((q0 49), .inl (k32, 200, .inl f32)), ((q0 15), .inl (k13, 10, .inl f13)), ((q0 14), .inl (k12, 120, .inl f12)), ((q0 19), .inl (k15, 12, .inl f15)), ((q0 48), .inl (k31, 2400, .inl f31))] H := hP
  have hD : va_D A [(h0, .inr (13, mX13 q0 (upd v0 20 z6))), ((q0 49), .inl (k32, 200, .inl f32)), ((q0 15), .inl (k13, 10, .inl f13)), ((q0 14), .inl (k12, 120, .inl f12)), ((q0 19), .inl (k15, 12, .inl f15)), ((q0 48), .inl (k31, 2400, .inl f31))] := hD
  refine lv_iconst (v := 0) hx hb dX13_isStopped_10 (by decide) ?_
  refine lv_istore_n (lv' := [(2, .int 0), (0, .ref h0), (1, .int x1)]) hx hb dX13_isStopped_11 rfl hl (by decide) rfl (fun ls hl => ?_)
  refine zcutL (fun u12_ => (12 - (u12_ 0).toInt).toNat) (fun H locs ls u12_ w12_ a12_ b12_ => va_P (dC, dI) vwCl [(h0, .inr (13, mX13 q0 (upd v0 20 z6))), ((q0 49), .inl (k32, 200, .inl f32)), ((q0 15), .inl (k13, 10, .inl f13)), ((q0 14), .inl (k12, 120, .inl f12)), ((q0 19), .inl (k15, 12, .inl (a12_ 0))), ((q0 48), .inl (k31, 2400, .inl f31))] H ∧ va_D A [(h0, .inr (13, mX13 q0 (upd v0 20 z6))), ((q0 49), .inl (k32, 200, .inl f32)), ((q0 15), .inl (k13, 10, .inl f13)), ((q0 14), .inl (k12, 120, .inl f12)), ((q0 19), .inl (k15, 12, .inl (a12_ 0))), ((q0 48), .inl (k31, 2400, .inl f31))] ∧ va_S A s.heap H locs ∧ lv_has ls 3 [(0, .ref h0), (1, .int x1), (2, .int (u12_ 0))] ∧ (0 ≤ (u12_ 0).toInt ∧ (u12_ 0).toInt ≤ 12)) (fun ls u12_ w12_ => F0 m 12 ls []) 0 0 ?_ (fun hJ12 => ?_)
  · skip
    intro H locs ls u12_ w12_ a12_ b12_ hc hJ12
    obtain ⟨hP, hD, hS, hl, b_⟩ := hc
    refine lv_iload_n hx hb dX13_isStopped_12 rfl (lv_at hl 2 rfl) ?_
    refine lv_aload_n hx hb dX13_isStopped_13 rfl (lv_at hl 0 rfl) ?_
    refine va_get (D := (dC, dI)) (ci := 13) (v := .int z6) (C := RX13) (T := TX13) (N := 75) hx hb hG zuX13 hown hK hP 0 rfl rfl 20 (by decide) (hG _ zw538) (fun _ h9 => h9) rfl dX13_isStopped_14 ?_
    refine lv_icmp_ge (tgt := 43) hx hb dX13_isStopped_17 (by decide) (fun c_ => ?_) (fun c_ => ?_)
    · skip
      have b_ := zT_ge rfl rfl c_
      refine lv_aload_n hx hb dX13_isStopped_43 rfl (lv_at hl 0 rfl) ?_
      have hPc := hP.sub (ws' := [(h0, .inr (13, mX13 q0 (upd v0 20 z6))), ((q0 15), .inl (k13, 10, .inl f13)), ((q0 14), .inl (k12, 120, .inl f12)), ((q0 19), .inl (k15, 12, .inl (a12_ 0)))]) [0, 2, 3, 4] rfl
      have hDc := hD.sub (ws' := [(h0, .inr (13, mX13 q0 (upd v0 20 z6))), ((q0 15), .inl (k13, 10, .inl f13)), ((q0 14), .inl (k12, 120, .inl f12)), ((q0 19), .inl (k15, 12, .inl (a12_ 0)))]) [0, 2, 3, 4] (by decide) rfl
      have hKc := hK.sub (tys' := [(k13, .int), (k12, .byte), (k15, .byte)]) [1, 2, 3] rfl
      have hFc := va_free (wc := [(h0, .inr (13, mX13 q0 (upd v0 20 z6))), ((q0 15), .inl (k13, 10, .inl f13)), ((q0 14), .inl (k12, 120, .inl f12)), ((q0 19), .inl (k15, 12, .inl (a12_ 0)))]) hD hS hA [0, 2, 3, 4] rfl
      refine va_calli (va_runV (As := []) (rest := []) ⟨hx, hb, hml, hown, hG⟩ (sX13_findStop_0 l dC dI adK adV h0 q0 k13 k12 k15 H.size (upd v0 20 z6) f13 f12 (a12_ 0) (zR_upd hv0 20 (show (0 : Int) ≤ (z6 : Int32).toInt from by omega) (show (z6 : Int32).toInt ≤ (12 : Int) from by omega)) hf13) (cwV 0 hG (zgV zw614 zw615 zw616 zw524 zw617) rfl rfl rfl (by decide +kernel) ⟨Nat.le_of_ble_eq_true rfl, Nat.le_of_ble_eq_true rfl⟩) ⟨zPc_blind, va_recv hKc hPc (ci := 13) (q0 := 0) rfl rfl, zPc_pre hPc hKc hDc hE hS hFc hZ⟩ rfl rfl hl.1 rfl (lv_room (Nat.le_of_ble_eq_true rfl)) dX13_isStopped_44 ⟨Nat.le_of_ble_eq_true rfl, Nat.le_of_ble_eq_true rfl⟩) hS (fun q _ h => hFc q h) hFc (fun r44_ u44_ t H1 locs ht hvm hw hB hz1 hk1 hS => ?_)
      have hw : ((-1) ≤ r44_.toInt ∧ r44_.toInt ≤ 9) ∧ (r44_.toInt < (v0 16).toInt) := hw
      obtain ⟨b_, hX44_0⟩ := hw
      obtain ⟨w44_, a44_, b44_, hP1, hK1, hD1⟩ := hB
      rw [ht] at hP1
      obtain ⟨hP, hD⟩ := va_join (wr := [((q0 49), .inl (k32, 200, .inl f32)), ((q0 48), .inl (k31, 2400, .inl f31))]) (w1 := [(h0, .inr (13, mX13 q0 (upd v0 20 z6))), ((q0 15), .inl (k13, 10, .inl f13)), ((q0 14), .inl (k12, 120, .inl f12)), ((q0 19), .inl (k15, 12, .inl (a12_ 0)))]) hP hD [0, 2, 3, 4] [1, 5] rfl rfl (by decide) (by decide) hk1 hFc hP1 hD1
      have hP : va_P (dC, dI) vwCl [(h0, .inr (13, mX13 q0 (upd v0 20 z6))), ((q0 49), .inl (k32, 200, .inl f32)), ((q0 15), .inl (k13, 10, .inl f13)), ((q0 14), .inl (k12, 120, .inl f12)), ((q0 19), .inl (k15, 12, .inl (a12_ 0))), ((q0 48), .inl (k31, 2400, .inl f31))] H1 := hP.sub [2, 0, 3, 4, 5, 1] rfl
      have hD : va_D A [(h0, .inr (13, mX13 q0 (upd v0 20 z6))), ((q0 49), .inl (k32, 200, .inl f32)), ((q0 15), .inl (k13, 10, .inl f13)), ((q0 14), .inl (k12, 120, .inl f12)), ((q0 19), .inl (k15, 12, .inl (a12_ 0))), ((q0 48), .inl (k31, 2400, .inl f31))] := hD.sub [2, 0, 3, 4, 5, 1] (by decide) rfl
      generalize H1 = H at hP hS ⊢
      clear hz1
      refine lv_iconst (v := (-1)) hx hb dX13_isStopped_47 (by decide) ?_
      refine lv_icmp_eq (tgt := 55) hx hb dX13_isStopped_48 (by decide) (fun c_ => ?_) (fun c_ => ?_)
      · skip
        have b_ := zT_eq rfl zk_m1 c_
        refine lv_iconst (v := 0) hx hb dX13_isStopped_55 (by decide) ?_
        refine W.widen (k := 0) (n := 0) (by decide) (by decide) ?_
        have hpost : (0 ≤ (0 : Int32).toInt ∧ (0 : Int32).toInt ≤ 1) ∧ (0 ≤ z6.toInt ∧ z6.toInt ≤ 12) := ⟨⟨by omega, by omega⟩, ⟨by omega, by omega⟩⟩
        have hP9 : va_P (dC, dI) vwCl [(h0, .inr (13, mX13 q0 (upd v0 20 z6))), ((q0 49), .inl (k32, 200, .inl f32)), ((q0 15), .inl (k13, 10, .inl f13)), ((q0 14), .inl (k12, 120, .inl f12)), ((q0 19), .inl (k15, 12, .inl (a12_ 0))), ((q0 48), .inl (k31, 2400, .inl f31))] H := hP
        have hD9 : va_D A [(h0, .inr (13, mX13 q0 (upd v0 20 z6))), ((q0 49), .inl (k32, 200, .inl f32)), ((q0 15), .inl (k13, 10, .inl f13)), ((q0 14), .inl (k12, 120, .inl f12)), ((q0 19), .inl (k15, 12, .inl (a12_ 0))), ((q0 48), .inl (k31, 2400, .inl f31))] := hD
        exact W.zret (v := 0) hx hb hr rfl (fun t ht hW => ⟨⟨0, (fun i => ([z6] : List (Int32)).getD i 0), rfl, hpost, (fun _ => 0), (fun i => ([(a12_ 0)] : List (Nat → Int32)).getD i (fun _ => 0)), (fun _ => (fun _ => 0)), by rw [ht]; exact hP9, va_K.moved hW.alike hK, hD9⟩, hS.F ht⟩) hS.2.2 dX13_isStopped_56
      · skip
        have b_ := zF_eq rfl zk_m1 c_
        refine lv_iconst (v := 1) hx hb dX13_isStopped_51 (by decide) ?_
        refine lv_goto (tgt := 56) hx hb dX13_isStopped_52 (by decide) ?_
        refine W.widen (k := 0) (n := 0) (by decide) (by decide) ?_
        have hpost : (0 ≤ (1 : Int32).toInt ∧ (1 : Int32).toInt ≤ 1) ∧ (0 ≤ z6.toInt ∧ z6.toInt ≤ 12) := ⟨⟨by omega, by omega⟩, ⟨by omega, by omega⟩⟩
        have hP9 : va_P (dC, dI) vwCl [(h0, .inr (13, mX13 q0 (upd v0 20 z6))), ((q0 49), .inl (k32, 200, .inl f32)), ((q0 15), .inl (k13, 10, .inl f13)), ((q0 14), .inl (k12, 120, .inl f12)), ((q0 19), .inl (k15, 12, .inl (a12_ 0))), ((q0 48), .inl (k31, 2400, .inl f31))] H := hP
        have hD9 : va_D A [(h0, .inr (13, mX13 q0 (upd v0 20 z6))), ((q0 49), .inl (k32, 200, .inl f32)), ((q0 15), .inl (k13, 10, .inl f13)), ((q0 14), .inl (k12, 120, .inl f12)), ((q0 19), .inl (k15, 12, .inl (a12_ 0))), ((q0 48), .inl (k31, 2400, .inl f31))] := hD
        exact W.zret (v := 1) hx hb hr rfl (fun t ht hW => ⟨⟨1, (fun i => ([z6] : List (Int32)).getD i 0), rfl, hpost, (fun _ => 0), (fun i => ([(a12_ 0)] : List (Nat → Int32)).getD i (fun _ => 0)), (fun _ => (fun _ => 0)), by rw [ht]; exact hP9, va_K.moved hW.alike hK, hD9⟩, hS.F ht⟩) hS.2.2 dX13_isStopped_56
    · skip
      have b_ := zF_ge rfl rfl c_
      refine lv_aload_n hx hb dX13_isStopped_20 rfl (lv_at hl 0 rfl) ?_
      refine va_get (D := (dC, dI)) (ci := 13) (v := .ref (q0 19)) (C := RX13) (T := TX13) (N := 75) hx hb hG zuX13 hown hK hP 0 rfl rfl 19 (by decide) (hG _ zw539) (fun _ h9 => h9) rfl dX13_isStopped_21 ?_
      refine lv_iload_n hx hb dX13_isStopped_24 rfl (lv_at hl 2 rfl) ?_
      refine lv_aload_n hx hb dX13_isStopped_25 rfl (lv_at hl 0 rfl) ?_
      refine va_get (D := (dC, dI)) (ci := 13) (v := .ref (q0 48)) (C := RX13) (T := TX13) (N := 75) hx hb hG zuX13 hown hK hP 0 rfl rfl 48 (by decide) (hG _ zw720) (fun _ h9 => h9) rfl dX13_isStopped_26 ?_
      refine lv_bipush (v := 12) hx hb dX13_isStopped_29 (by decide) ?_
      refine lv_iload_n hx hb dX13_isStopped_31 rfl (lv_at hl 1 rfl) ?_
      refine lv_imul hx hb dX13_isStopped_32 ?_
      refine lv_topi (fun z32 e_z32 => ?_)
      have b_ := zmul zk_12 rfl e_z32 (by omega) (by omega)
      refine lv_iload_n hx hb dX13_isStopped_33 rfl (lv_at hl 2 rfl) ?_
      refine lv_iadd hx hb dX13_isStopped_34 ?_
      refine lv_topi (fun z34 e_z34 => ?_)
      have b_ := zadd rfl rfl e_z34 (by omega) (by omega)
      refine va_bald hx hb hK hP 5 4 rfl rfl (zin_lit ⟨by omega, by omega⟩) dX13_isStopped_35 ?_
      refine lv_topi (fun z35 e_z35 => ?_)
      refine va_bast hx hb hK hP hD hS 4 3 rfl rfl (zin_lit ⟨by omega, by omega⟩) dX13_isStopped_36 (fun H locs hP hD hS => ?_)
      obtain ⟨f_36, e_f_36⟩ : ∃ z : Nat → Int32, z = upd (a12_ 0) ((u12_ 0) : Int32).toNatClampNeg (vp_nar .byte z35) := ⟨_, rfl⟩
      have hP : va_P (dC, dI) vwCl [(h0, .inr (13, mX13 q0 (upd v0 20 z6))), ((q0 49), .inl (k32, 200, .inl f32)), ((q0 15), .inl (k13, 10, .inl f13)), ((q0 14), .inl (k12, 120, .inl f12)), ((q0 19), .inl (k15, 12, .inl f_36)), ((q0 48), .inl (k31, 2400, .inl f31))] H := by rw [e_f_36]; exact hP
      have hD : va_D A [(h0, .inr (13, mX13 q0 (upd v0 20 z6))), ((q0 49), .inl (k32, 200, .inl f32)), ((q0 15), .inl (k13, 10, .inl f13)), ((q0 14), .inl (k12, 120, .inl f12)), ((q0 19), .inl (k15, 12, .inl f_36)), ((q0 48), .inl (k31, 2400, .inl f31))] := by rw [e_f_36]; exact hD
      obtain ⟨z37, e_z37⟩ : ∃ z : Int32, z = (u12_ 0) + Int32.ofInt 1 := ⟨_, rfl⟩
      have b_ := zadd (x := (u12_ 0)) (y := Int32.ofInt 1) rfl (show (Int32.ofInt 1).toInt = 1 from by decide) e_z37 (by omega) (by omega)
      refine lv_iinc (v := z37) (lv' := [(2, .int z37), (0, .ref h0), (1, .int x1)]) hx hb dX13_isStopped_37 hl (k := 2) rfl e_z37.symm (by decide) rfl (fun ls hl => ?_)
      refine lv_goto (tgt := 12) hx hb dX13_isStopped_40 (by decide) ?_
      have hc : va_P (dC, dI) vwCl [(h0, .inr (13, mX13 q0 (upd v0 20 z6))), ((q0 49), .inl (k32, 200, .inl f32)), ((q0 15), .inl (k13, 10, .inl f13)), ((q0 14), .inl (k12, 120, .inl f12)), ((q0 19), .inl (k15, 12, .inl f_36)), ((q0 48), .inl (k31, 2400, .inl f31))] H ∧ va_D A [(h0, .inr (13, mX13 q0 (upd v0 20 z6))), ((q0 49), .inl (k32, 200, .inl f32)), ((q0 15), .inl (k13, 10, .inl f13)), ((q0 14), .inl (k12, 120, .inl f12)), ((q0 19), .inl (k15, 12, .inl f_36)), ((q0 48), .inl (k31, 2400, .inl f31))] ∧ va_S A s.heap H locs ∧ lv_has ls 3 [(0, .ref h0), (1, .int x1), (2, .int z37)] ∧ (0 ≤ z37.toInt ∧ z37.toInt ≤ 12) := ⟨hP, hD, hS, lv_sub hl [1, 2, 0] rfl, ⟨by omega, by omega⟩⟩
      exact hJ12 H locs ls (fun i => ([z37] : List (Int32)).getD i 0) (fun _ => 0) (fun i => ([f_36] : List (Nat → Int32)).getD i (fun _ => 0)) (fun _ => (fun _ => 0)) hc (show (12 - z37.toInt).toNat < (12 - (u12_ 0).toInt).toNat from by omega)
  · skip
    have hc : va_P (dC, dI) vwCl [(h0, .inr (13, mX13 q0 (upd v0 20 z6))), ((q0 49), .inl (k32, 200, .inl f32)), ((q0 15), .inl (k13, 10, .inl f13)), ((q0 14), .inl (k12, 120, .inl f12)), ((q0 19), .inl (k15, 12, .inl f15)), ((q0 48), .inl (k31, 2400, .inl f31))] H ∧ va_D A [(h0, .inr (13, mX13 q0 (upd v0 20 z6))), ((q0 49), .inl (k32, 200, .inl f32)), ((q0 15), .inl (k13, 10, .inl f13)), ((q0 14), .inl (k12, 120, .inl f12)), ((q0 19), .inl (k15, 12, .inl f15)), ((q0 48), .inl (k31, 2400, .inl f31))] ∧ va_S A s.heap H locs ∧ lv_has ls 3 [(0, .ref h0), (1, .int x1), (2, .int 0)] ∧ (0 ≤ (0 : Int32).toInt ∧ (0 : Int32).toInt ≤ 12) := ⟨hP, hD, hS, lv_sub hl [1, 2, 0] rfl, ⟨by omega, by omega⟩⟩
    exact hJ12 H locs ls (fun i => ([0] : List (Int32)).getD i 0) (fun _ => 0) (fun i => ([f15] : List (Nat → Int32)).getD i (fun _ => 0)) (fun _ => (fun _ => 0)) hc
set_option maxHeartbeats 8000000 in
set_option maxRecDepth 100000 in
theorem sX13_beginsBy_0 (l : Launch) (dC : Nat → ClassId) (dI : Nat → Nat → Nat) (adK adV : Nat → Nat) (h0 : Nat) (q0 : Nat → Nat) (k3 : ClassId) (k32 : ClassId) (k2 : ClassId) (k31 : ClassId) (sz : Nat) (v0 : Nat → Int32) (f3 : Nat → Int32) (f32 : Nat → Int32) (f2 : Nat → Int32) (f31 : Nat → Int32) (x1 : Int32) (x2 : Int32) (hv0 : zR rg_Model v0) (hf3 : zA 0 12 f3) (hf32 : zA 0 12 f32) (hx1 : 0 ≤ x1.toInt ∧ x1.toInt ≤ 399) (hx2 : 0 ≤ x2.toInt ∧ x2.toInt ≤ 199) : Met l yX13_beginsBy (zw yX13_beginsBy cX13_beginsBy 4 (some .boolean)) { frames := 0, cells := 0, slots := 0, locals := 0 } (zPc dC dI adK adV [.ref h0, .int x1, .int x2] sz [(h0, .inr (13, mX13 q0 v0)), ((q0 3), .inl (k3, 400, .inl f3)), ((q0 49), .inl (k32, 200, .inl f32)), ((q0 2), .inl (k2, 4800, .inl f2)), ((q0 48), .inl (k31, 2400, .inl f31))] [(k3, .int), (k32, .int), (k2, .byte), (k31, .byte)]) (va_Qi (fun (r : Int32) (u : Nat → Int32) => (0 ≤ r.toInt ∧ r.toInt ≤ 1)) (fun (u : Nat → Int32) (t : State) => ∃ (ww : Nat → Int64) (aa : Nat → Nat → Int32) (bb : Nat → Nat → Int64), va_P (dC, dI) vwCl [(h0, .inr (13, mX13 q0 v0)), ((q0 3), .inl (k3, 400, .inl f3)), ((q0 49), .inl (k32, 200, .inl f32)), ((q0 2), .inl (k2, 4800, .inl f2)), ((q0 48), .inl (k31, 2400, .inl f31))] t.heap ∧ va_K (dC, dI) vwCl [(k3, .int), (k32, .int), (k2, .byte), (k31, .byte)] t ∧ va_D (va_A [(h0, .inr (13, mX13 q0 v0)), ((q0 3), .inl (k3, 400, .inl f3)), ((q0 49), .inl (k32, 200, .inl f32)), ((q0 2), .inl (k2, 4800, .inl f2)), ((q0 48), .inl (k31, 2400, .inl f31))] sz) [(h0, .inr (13, mX13 q0 v0)), ((q0 3), .inl (k3, 400, .inl f3)), ((q0 49), .inl (k32, 200, .inl f32)), ((q0 2), .inl (k2, 4800, .inl f2)), ((q0 48), .inl (k31, 2400, .inl f31))]) (va_A [(h0, .inr (13, mX13 q0 v0)), ((q0 3), .inl (k3, 400, .inl f3)), ((q0 49), .inl (k32, 200, .inl f32)), ((q0 2), .inl (k2, 4800, .inl f2)), ((q0 48), .inl (k31, 2400, .inl f31))] sz)) 0 0 (va_A [(h0, .inr (13, mX13 q0 v0)), ((q0 3), .inl (k3, 400, .inl f3)), ((q0 49), .inl (k32, 200, .inl f32)), ((q0 2), .inl (k2, 4800, .inl f2)), ((q0 48), .inl (k31, 2400, .inl f31))] sz) := by
  refine Met.ofW (cc := cX13_beginsBy) (maxL := 4) (ret := (some .boolean)) (by decide) rfl ?_
  intro p e s m args below meth c s₁ B hml hv
  obtain ⟨rfl, hsz, hP, hK, hD0, hE, hZ⟩ := hv
  have hx := B.exec
  have hb := B.bytes
  have hr := B.returns
  have hG : ∀ w ∈ zG, w.before _ s = true := fun w h => atoms_spec (ws := (zw yX13_beginsBy cX13_beginsBy 4 (some .boolean))) B.pre w (List.mem_cons_of_mem _ h)
  have hown : s.vm.findClass RX13 = some m.cls := findClass_of_methodNamed B.named
  have hlocks := B.notSynchronized
  subst hsz
  have hD := hD0.self (sz := s.heap.size)
  generalize hAe : va_A [(h0, .inr (13, mX13 q0 v0)), ((q0 3), .inl (k3, 400, .inl f3)), ((q0 49), .inl (k32, 200, .inl f32)), ((q0 2), .inl (k2, 4800, .inl f2)), ((q0 48), .inl (k31, 2400, .inl f31))] s.heap.size = A at hD hZ ⊢
  have hA : ∀ q : Nat, s.heap.size ≤ q → A q := fun q h => by rw [← hAe]; exact Or.inr h
  have hS : va_S A s.heap s.heap [] := va_S.rf
  have hl := lv_entry ([.ref h0, .int x1, .int x2]) (n := 4) (Nat.le_of_ble_eq_true rfl)
  rw [lg_entry_eq]
  generalize (lg_sl ([.ref h0, .int x1, .int x2]) ++ List.replicate (4 - (lg_sl ([.ref h0, .int x1, .int x2])).length) Slot.unset).toArray = ls at hl ⊢
  have hl : lv_has ls 4 [(0, .ref h0), (1, .int x1), (2, .int x2)] := hl
  have b_ := zk_0
  have b_ := zk_1
  refine lv_aload_n hx hb dX13_beginsBy_0 rfl (lv_at hl 0 rfl) ?_
  refine va_get (D := (dC, dI)) (ci := 13) (v := .ref (q0 3)) (C := RX13) (T := TX13) (N := 75) hx hb hG zuX13 hown hK hP 0 rfl rfl 3 (by decide) (hG _ zw553) (fun _ h9 => h9) rfl dX13_beginsBy_1 ?_
  refine lv_iload_n hx hb dX13_beginsBy_4 rfl (lv_at hl 1 rfl) ?_
  refine va_iald hx hb hK hP 1 0 rfl rfl (zin_lit ⟨by omega, by omega⟩) dX13_beginsBy_5 ?_
  refine lv_topi (fun z5 e_z5 => ?_)
  have b_ : 0 ≤ z5.toInt ∧ z5.toInt ≤ 12 := by rw [e_z5]; exact hf3 _
  refine lv_aload_n hx hb dX13_beginsBy_6 rfl (lv_at hl 0 rfl) ?_
  refine va_get (D := (dC, dI)) (ci := 13) (v := .ref (q0 49)) (C := RX13) (T := TX13) (N := 75) hx hb hG zuX13 hown hK hP 0 rfl rfl 49 (by decide) (hG _ zw718) (fun _ h9 => h9) rfl dX13_beginsBy_7 ?_
  refine lv_iload_n hx hb dX13_beginsBy_10 rfl (lv_at hl 2 rfl) ?_
  refine va_iald hx hb hK hP 2 1 rfl rfl (zin_lit ⟨by omega, by omega⟩) dX13_beginsBy_11 ?_
  refine lv_topi (fun z11 e_z11 => ?_)
  have b_ : 0 ≤ z11.toInt ∧ z11.toInt ≤ 12 := by rw [e_z11]; exact hf32 _
  refine lv_icmp_ge (tgt := 17) hx hb dX13_beginsBy_12 (by decide) (fun c_ => ?_) (fun c_ => ?_)
  · skip
    have b_ := zT_ge rfl rfl c_
    refine lv_iconst (v := 0) hx hb dX13_beginsBy_17 (by decide) ?_
    refine lv_istore_n (lv' := [(3, .int 0), (0, .ref h0), (1, .int x1), (2, .int x2)]) hx hb dX13_beginsBy_18 rfl hl (by decide) rfl (fun ls hl => ?_)
    refine zcutL (fun u19_ => (12 - (u19_ 0).toInt).toNat) (fun H locs ls u19_ w19_ a19_ b19_ => va_P (dC, dI) vwCl [(h0, .inr (13, mX13 q0 v0)), ((q0 3), .inl (k3, 400, .inl f3)), ((q0 49), .inl (k32, 200, .inl f32)), ((q0 2), .inl (k2, 4800, .inl f2)), ((q0 48), .inl (k31, 2400, .inl f31))] H ∧ va_D A [(h0, .inr (13, mX13 q0 v0)), ((q0 3), .inl (k3, 400, .inl f3)), ((q0 49), .inl (k32, 200, .inl f32)), ((q0 2), .inl (k2, 4800, .inl f2)), ((q0 48), .inl (k31, 2400, .inl f31))] ∧ va_S A s.heap H locs ∧ lv_has ls 4 [(0, .ref h0), (1, .int x1), (2, .int x2), (3, .int (u19_ 0))] ∧ (0 ≤ (u19_ 0).toInt ∧ (u19_ 0).toInt ≤ 12)) (fun ls u19_ w19_ => F0 m 19 ls []) 0 0 ?_ (fun hJ19 => ?_)
    · skip
      intro H locs ls u19_ w19_ a19_ b19_ hc hJ19
      obtain ⟨hP, hD, hS, hl, b_⟩ := hc
      refine lv_iload_n hx hb dX13_beginsBy_19 rfl (lv_at hl 3 rfl) ?_
      refine lv_aload_n hx hb dX13_beginsBy_20 rfl (lv_at hl 0 rfl) ?_
      refine va_get (D := (dC, dI)) (ci := 13) (v := .ref (q0 49)) (C := RX13) (T := TX13) (N := 75) hx hb hG zuX13 hown hK hP 0 rfl rfl 49 (by decide) (hG _ zw718) (fun _ h9 => h9) rfl dX13_beginsBy_21 ?_
      refine lv_iload_n hx hb dX13_beginsBy_24 rfl (lv_at hl 2 rfl) ?_
      refine va_iald hx hb hK hP 2 1 rfl rfl (zin_lit ⟨by omega, by omega⟩) dX13_beginsBy_25 ?_
      refine lv_topi (fun z25 e_z25 => ?_)
      have b_ : 0 ≤ z25.toInt ∧ z25.toInt ≤ 12 := by rw [e_z25]; exact hf32 _
      refine lv_icmp_ge (tgt := 62) hx hb dX13_beginsBy_26 (by decide) (fun c_ => ?_) (fun c_ => ?_)
      · skip
        have b_ := zT_ge rfl rfl c_
        refine lv_iconst (v := 1) hx hb dX13_beginsBy_62 (by decide) ?_
        refine W.widen (k := 0) (n := 0) (by decide) (by decide) ?_
        have hpost : (0 ≤ (1 : Int32).toInt ∧ (1 : Int32).toInt ≤ 1) := ⟨by omega, by omega⟩
        have hP9 : va_P (dC, dI) vwCl [(h0, .inr (13, mX13 q0 v0)), ((q0 3), .inl (k3, 400, .inl f3)), ((q0 49), .inl (k32, 200, .inl f32)), ((q0 2), .inl (k2, 4800, .inl f2)), ((q0 48), .inl (k31, 2400, .inl f31))] H := hP
        have hD9 : va_D A [(h0, .inr (13, mX13 q0 v0)), ((q0 3), .inl (k3, 400, .inl f3)), ((q0 49), .inl (k32, 200, .inl f32)), ((q0 2), .inl (k2, 4800, .inl f2)), ((q0 48), .inl (k31, 2400, .inl f31))] := hD
        exact W.zret (v := 1) hx hb hr rfl (fun t ht hW => ⟨⟨1, (fun _ => 0), rfl, hpost, (fun _ => 0), (fun _ => (fun _ => 0)), (fun _ => (fun _ => 0)), by rw [ht]; exact hP9, va_K.moved hW.alike hK, hD9⟩, hS.F ht⟩) hS.2.2 dX13_beginsBy_63
      · skip
        have b_ := zF_ge rfl rfl c_
        refine lv_aload_n hx hb dX13_beginsBy_29 rfl (lv_at hl 0 rfl) ?_
        refine va_get (D := (dC, dI)) (ci := 13) (v := .ref (q0 2)) (C := RX13) (T := TX13) (N := 75) hx hb hG zuX13 hown hK hP 0 rfl rfl 2 (by decide) (hG _ zw552) (fun _ h9 => h9) rfl dX13_beginsBy_30 ?_
        refine lv_bipush (v := 12) hx hb dX13_beginsBy_33 (by decide) ?_
        refine lv_iload_n hx hb dX13_beginsBy_35 rfl (lv_at hl 1 rfl) ?_
        refine lv_imul hx hb dX13_beginsBy_36 ?_
        refine lv_topi (fun z36 e_z36 => ?_)
        have b_ := zmul zk_12 rfl e_z36 (by omega) (by omega)
        refine lv_iload_n hx hb dX13_beginsBy_37 rfl (lv_at hl 3 rfl) ?_
        refine lv_iadd hx hb dX13_beginsBy_38 ?_
        refine lv_topi (fun z38 e_z38 => ?_)
        have b_ := zadd rfl rfl e_z38 (by omega) (by omega)
        refine va_bald hx hb hK hP 3 2 rfl rfl (zin_lit ⟨by omega, by omega⟩) dX13_beginsBy_39 ?_
        refine lv_topi (fun z39 e_z39 => ?_)
        refine lv_aload_n hx hb dX13_beginsBy_40 rfl (lv_at hl 0 rfl) ?_
        refine va_get (D := (dC, dI)) (ci := 13) (v := .ref (q0 48)) (C := RX13) (T := TX13) (N := 75) hx hb hG zuX13 hown hK hP 0 rfl rfl 48 (by decide) (hG _ zw720) (fun _ h9 => h9) rfl dX13_beginsBy_41 ?_
        refine lv_bipush (v := 12) hx hb dX13_beginsBy_44 (by decide) ?_
        refine lv_iload_n hx hb dX13_beginsBy_46 rfl (lv_at hl 2 rfl) ?_
        refine lv_imul hx hb dX13_beginsBy_47 ?_
        refine lv_topi (fun z47 e_z47 => ?_)
        have b_ := zmul zk_12 rfl e_z47 (by omega) (by omega)
        refine lv_iload_n hx hb dX13_beginsBy_48 rfl (lv_at hl 3 rfl) ?_
        refine lv_iadd hx hb dX13_beginsBy_49 ?_
        refine lv_topi (fun z49 e_z49 => ?_)
        have b_ := zadd rfl rfl e_z49 (by omega) (by omega)
        refine va_bald hx hb hK hP 4 3 rfl rfl (zin_lit ⟨by omega, by omega⟩) dX13_beginsBy_50 ?_
        refine lv_topi (fun z50 e_z50 => ?_)
        have b_ : -2147483648 ≤ z39.toInt ∧ z39.toInt ≤ 2147483647 := ⟨zlo _, zhi _⟩
        have b_ : -2147483648 ≤ z50.toInt ∧ z50.toInt ≤ 2147483647 := ⟨zlo _, zhi _⟩
        refine lv_icmp_eq (tgt := 56) hx hb dX13_beginsBy_51 (by decide) (fun c_ => ?_) (fun c_ => ?_)
        · skip
          have b_ := zT_eq rfl rfl c_
          obtain ⟨z56, e_z56⟩ : ∃ z : Int32, z = (u19_ 0) + Int32.ofInt 1 := ⟨_, rfl⟩
          have b_ := zadd (x := (u19_ 0)) (y := Int32.ofInt 1) rfl (show (Int32.ofInt 1).toInt = 1 from by decide) e_z56 (by omega) (by omega)
          refine lv_iinc (v := z56) (lv' := [(3, .int z56), (0, .ref h0), (1, .int x1), (2, .int x2)]) hx hb dX13_beginsBy_56 hl (k := 3) rfl e_z56.symm (by decide) rfl (fun ls hl => ?_)
          refine lv_goto (tgt := 19) hx hb dX13_beginsBy_59 (by decide) ?_
          have hc : va_P (dC, dI) vwCl [(h0, .inr (13, mX13 q0 v0)), ((q0 3), .inl (k3, 400, .inl f3)), ((q0 49), .inl (k32, 200, .inl f32)), ((q0 2), .inl (k2, 4800, .inl f2)), ((q0 48), .inl (k31, 2400, .inl f31))] H ∧ va_D A [(h0, .inr (13, mX13 q0 v0)), ((q0 3), .inl (k3, 400, .inl f3)), ((q0 49), .inl (k32, 200, .inl f32)), ((q0 2), .inl (k2, 4800, .inl f2)), ((q0 48), .inl (k31, 2400, .inl f31))] ∧ va_S A s.heap H locs ∧ lv_has ls 4 [(0, .ref h0), (1, .int x1), (2, .int x2), (3, .int z56)] ∧ (0 ≤ z56.toInt ∧ z56.toInt ≤ 12) := ⟨hP, hD, hS, lv_sub hl [1, 2, 3, 0] rfl, ⟨by omega, by omega⟩⟩
          exact hJ19 H locs ls (fun i => ([z56] : List (Int32)).getD i 0) (fun _ => 0) (fun _ => (fun _ => 0)) (fun _ => (fun _ => 0)) hc (show (12 - z56.toInt).toNat < (12 - (u19_ 0).toInt).toNat from by omega)
        · skip
          have b_ := zF_eq rfl rfl c_
          refine lv_iconst (v := 0) hx hb dX13_beginsBy_54 (by decide) ?_
          refine W.widen (k := 0) (n := 0) (by decide) (by decide) ?_
          have hpost : (0 ≤ (0 : Int32).toInt ∧ (0 : Int32).toInt ≤ 1) := ⟨by omega, by omega⟩
          have hP9 : va_P (dC, dI) vwCl [(h0, .inr (13, mX13 q0 v0)), ((q0 3), .inl (k3, 400, .inl f3)), ((q0 49), .inl (k32, 200, .inl f32)), ((q0 2), .inl (k2, 4800, .inl f2)), ((q0 48), .inl (k31, 2400, .inl f31))] H := hP
          have hD9 : va_D A [(h0, .inr (13, mX13 q0 v0)), ((q0 3), .inl (k3, 400, .inl f3)), ((q0 49), .inl (k32, 200, .inl f32)), ((q0 2), .inl (k2, 4800, .inl f2)), ((q0 48), .inl (k31, 2400, .inl f31))] := hD
          exact W.zret (v := 0) hx hb hr rfl (fun t ht hW => ⟨⟨0, (fun _ => 0), rfl, hpost, (fun _ => 0), (fun _ => (fun _ => 0)), (fun _ => (fun _ => 0)), by rw [ht]; exact hP9, va_K.moved hW.alike hK, hD9⟩, hS.F ht⟩) hS.2.2 dX13_beginsBy_55
    · skip
      have hc : va_P (dC, dI) vwCl [(h0, .inr (13, mX13 q0 v0)), ((q0 3), .inl (k3, 400, .inl f3)), ((q0 49), .inl (k32, 200, .inl f32)), ((q0 2), .inl (k2, 4800, .inl f2)), ((q0 48), .inl (k31, 2400, .inl f31))] s.heap ∧ va_D A [(h0, .inr (13, mX13 q0 v0)), ((q0 3), .inl (k3, 400, .inl f3)), ((q0 49), .inl (k32, 200, .inl f32)), ((q0 2), .inl (k2, 4800, .inl f2)), ((q0 48), .inl (k31, 2400, .inl f31))] ∧ va_S A s.heap s.heap [] ∧ lv_has ls 4 [(0, .ref h0), (1, .int x1), (2, .int x2), (3, .int 0)] ∧ (0 ≤ (0 : Int32).toInt ∧ (0 : Int32).toInt ≤ 12) := ⟨hP, hD, hS, lv_sub hl [1, 2, 3, 0] rfl, ⟨by omega, by omega⟩⟩
      exact hJ19 s.heap [] ls (fun i => ([0] : List (Int32)).getD i 0) (fun _ => 0) (fun _ => (fun _ => 0)) (fun _ => (fun _ => 0)) hc
  · skip
    have b_ := zF_ge rfl rfl c_
    refine lv_iconst (v := 0) hx hb dX13_beginsBy_15 (by decide) ?_
    refine W.widen (k := 0) (n := 0) (by decide) (by decide) ?_
    have hpost : (0 ≤ (0 : Int32).toInt ∧ (0 : Int32).toInt ≤ 1) := ⟨by omega, by omega⟩
    have hP9 : va_P (dC, dI) vwCl [(h0, .inr (13, mX13 q0 v0)), ((q0 3), .inl (k3, 400, .inl f3)), ((q0 49), .inl (k32, 200, .inl f32)), ((q0 2), .inl (k2, 4800, .inl f2)), ((q0 48), .inl (k31, 2400, .inl f31))] s.heap := hP
    have hD9 : va_D A [(h0, .inr (13, mX13 q0 v0)), ((q0 3), .inl (k3, 400, .inl f3)), ((q0 49), .inl (k32, 200, .inl f32)), ((q0 2), .inl (k2, 4800, .inl f2)), ((q0 48), .inl (k31, 2400, .inl f31))] := hD
    exact W.zret (v := 0) hx hb hr rfl (fun t ht hW => ⟨⟨0, (fun _ => 0), rfl, hpost, (fun _ => 0), (fun _ => (fun _ => 0)), (fun _ => (fun _ => 0)), by rw [ht]; exact hP9, va_K.moved hW.alike hK, hD9⟩, hS.F ht⟩) hS.2.2 dX13_beginsBy_16
