set_option maxHeartbeats 8000000 in
set_option maxRecDepth 100000 in
theorem sX13_isLeft_0 (l : Launch) (dC : Nat → ClassId) (dI : Nat → Nat → Nat) (adK adV : Nat → Nat) (h0 : Nat) (q0 : Nat → Nat) (k40 : ClassId) (sz : Nat) (v0 : Nat → Int32) (f40 : Nat → Int32) (x1 : Int32) (x2 : Int32) (hv0 : zR rg_Model v0) (hx1 : 0 ≤ x1.toInt ∧ x1.toInt ≤ 39) : Met l yX13_isLeft (zw yX13_isLeft cX13_isLeft 3 (some .boolean)) { frames := 0, cells := 0, slots := 0, locals := 0 } (zPc dC dI adK adV [.ref h0, .int x1, .int x2] sz [(h0, .inr (13, mX13 q0 v0)), ((q0 64), .inl (k40, 40, .inl f40))] [(k40, .int)]) (va_Qi (fun (r : Int32) (u : Nat → Int32) => (0 ≤ r.toInt ∧ r.toInt ≤ 1)) (fun (u : Nat → Int32) (t : State) => ∃ (ww : Nat → Int64) (aa : Nat → Nat → Int32) (bb : Nat → Nat → Int64), va_P (dC, dI) vwCl [(h0, .inr (13, mX13 q0 v0)), ((q0 64), .inl (k40, 40, .inl f40))] t.heap ∧ va_K (dC, dI) vwCl [(k40, .int)] t ∧ va_D (va_A [(h0, .inr (13, mX13 q0 v0)), ((q0 64), .inl (k40, 40, .inl f40))] sz) [(h0, .inr (13, mX13 q0 v0)), ((q0 64), .inl (k40, 40, .inl f40))]) (va_A [(h0, .inr (13, mX13 q0 v0)), ((q0 64), .inl (k40, 40, .inl f40))] sz)) 0 0 (va_A [(h0, .inr (13, mX13 q0 v0)), ((q0 64), .inl (k40, 40, .inl f40))] sz) := by
  refine Met.ofW (cc := cX13_isLeft) (maxL := 3) (ret := (some .boolean)) (by decide) rfl ?_
  intro p e s m args below meth c s₁ B hml hv
  obtain ⟨rfl, hsz, hP, hK, hD0, hE, hZ⟩ := hv
  have hx := B.exec
  have hb := B.bytes
  have hr := B.returns
  have hG : ∀ w ∈ zG, w.before _ s = true := fun w h => atoms_spec (ws := (zw yX13_isLeft cX13_isLeft 3 (some .boolean))) B.pre w (List.mem_cons_of_mem _ h)
  have hown : s.vm.findClass RX13 = some m.cls := findClass_of_methodNamed B.named
  have hlocks := B.notSynchronized
  subst hsz
  have hD := hD0.self (sz := s.heap.size)
  generalize hAe : va_A [(h0, .inr (13, mX13 q0 v0)), ((q0 64), .inl (k40, 40, .inl f40))] s.heap.size = A at hD hZ ⊢
  have hA : ∀ q : Nat, s.heap.size ≤ q → A q := fun q h => by rw [← hAe]; exact Or.inr h
  have hS : va_S A s.heap s.heap [] := va_S.rf
  have hl := lv_entry ([.ref h0, .int x1, .int x2]) (n := 3) (Nat.le_of_ble_eq_true rfl)
  rw [lg_entry_eq]
  generalize (lg_sl ([.ref h0, .int x1, .int x2]) ++ List.replicate (3 - (lg_sl ([.ref h0, .int x1, .int x2])).length) Slot.unset).toArray = ls at hl ⊢
  have hl : lv_has ls 3 [(0, .ref h0), (1, .int x1), (2, .int x2)] := hl
  have b_ := zk_0
  have b_ := zk_1
  have b_ := zk_2
  refine lv_aload_n hx hb dX13_isLeft_0 rfl (lv_at hl 0 rfl) ?_
  refine va_get (D := (dC, dI)) (ci := 13) (v := .ref (q0 64)) (C := RX13) (T := TX13) (N := 75) hx hb hG zuX13 hown hK hP 0 rfl rfl 64 (by decide) (hG _ zw726) (fun _ h9 => h9) rfl dX13_isLeft_1 ?_
  refine lv_iload_n hx hb dX13_isLeft_4 rfl (lv_at hl 1 rfl) ?_
  refine va_iald hx hb hK hP 1 0 rfl rfl (zin_lit ⟨by omega, by omega⟩) dX13_isLeft_5 ?_
  refine lv_topi (fun z5 e_z5 => ?_)
  have b_ : -2147483648 ≤ z5.toInt ∧ z5.toInt ≤ 2147483647 := ⟨zlo _, zhi _⟩
  refine lv_if_eq (tgt := 30) hx hb dX13_isLeft_6 (by decide) (fun c_ => ?_) (fun c_ => ?_)
  · skip
    have b_ := zT_eq rfl zk_0 c_
    refine lv_iconst (v := 1) hx hb dX13_isLeft_30 (by decide) ?_
    refine lv_goto (tgt := 35) hx hb dX13_isLeft_31 (by decide) ?_
    refine W.widen (k := 0) (n := 0) (by decide) (by decide) ?_
    have hpost : (0 ≤ (1 : Int32).toInt ∧ (1 : Int32).toInt ≤ 1) := ⟨by omega, by omega⟩
    have hP9 : va_P (dC, dI) vwCl [(h0, .inr (13, mX13 q0 v0)), ((q0 64), .inl (k40, 40, .inl f40))] s.heap := hP
    have hD9 : va_D A [(h0, .inr (13, mX13 q0 v0)), ((q0 64), .inl (k40, 40, .inl f40))] := hD
    exact W.zret (v := 1) hx hb hr rfl (fun t ht hW => ⟨⟨1, (fun _ => 0), rfl, hpost, (fun _ => 0), (fun _ => (fun _ => 0)), (fun _ => (fun _ => 0)), by rw [ht]; exact hP9, va_K.moved hW.alike hK, hD9⟩, hS.F ht⟩) hS.2.2 dX13_isLeft_35
  · skip
    have b_ := zF_eq rfl zk_0 c_
    refine lv_aload_n hx hb dX13_isLeft_9 rfl (lv_at hl 0 rfl) ?_
    refine va_get (D := (dC, dI)) (ci := 13) (v := .ref (q0 64)) (C := RX13) (T := TX13) (N := 75) hx hb hG zuX13 hown hK hP 0 rfl rfl 64 (by decide) (hG _ zw726) (fun _ h9 => h9) rfl dX13_isLeft_10 ?_
    refine lv_iload_n hx hb dX13_isLeft_13 rfl (lv_at hl 1 rfl) ?_
    refine va_iald hx hb hK hP 1 0 rfl rfl (zin_lit ⟨by omega, by omega⟩) dX13_isLeft_14 ?_
    refine lv_topi (fun z14 e_z14 => ?_)
    refine lv_iload_n hx hb dX13_isLeft_15 rfl (lv_at hl 2 rfl) ?_
    refine lv_sipush (v := 512) hx hb dX13_isLeft_16 (by decide) ?_
    refine zcutW (fun H locs ls u27_ w27_ a27_ b27_ => va_P (dC, dI) vwCl [(h0, .inr (13, mX13 q0 v0)), ((q0 64), .inl (k40, 40, .inl f40))] H ∧ va_D A [(h0, .inr (13, mX13 q0 v0)), ((q0 64), .inl (k40, 40, .inl f40))] ∧ va_S A s.heap H locs ∧ lv_has ls 3 [(0, .ref h0), (1, .int x1), (2, .int x2)] ∧ (1 ≤ (u27_ 0).toInt ∧ (u27_ 0).toInt ≤ 2)) (fun ls u27_ w27_ => F0 m 27 ls [.int (u27_ 0), .int z14]) 0 0 ?_ (fun hJ27 => ?_)
    · skip
      intro H locs ls u27_ w27_ a27_ b27_ hc
      obtain ⟨hP, hD, hS, hl, b_⟩ := hc
      have b_ : -2147483648 ≤ z14.toInt ∧ z14.toInt ≤ 2147483647 := ⟨zlo _, zhi _⟩
      refine lv_icmp_ne (tgt := 34) hx hb dX13_isLeft_27 (by decide) (fun c_ => ?_) (fun c_ => ?_)
      · skip
        have b_ := zT_ne rfl rfl c_
        refine lv_iconst (v := 0) hx hb dX13_isLeft_34 (by decide) ?_
        refine W.widen (k := 0) (n := 0) (by decide) (by decide) ?_
        have hpost : (0 ≤ (0 : Int32).toInt ∧ (0 : Int32).toInt ≤ 1) := ⟨by omega, by omega⟩
        have hP9 : va_P (dC, dI) vwCl [(h0, .inr (13, mX13 q0 v0)), ((q0 64), .inl (k40, 40, .inl f40))] H := hP
        have hD9 : va_D A [(h0, .inr (13, mX13 q0 v0)), ((q0 64), .inl (k40, 40, .inl f40))] := hD
        exact W.zret (v := 0) hx hb hr rfl (fun t ht hW => ⟨⟨0, (fun _ => 0), rfl, hpost, (fun _ => 0), (fun _ => (fun _ => 0)), (fun _ => (fun _ => 0)), by rw [ht]; exact hP9, va_K.moved hW.alike hK, hD9⟩, hS.F ht⟩) hS.2.2 dX13_isLeft_35
      · skip
        have b_ := zF_ne rfl rfl c_
        refine lv_iconst (v := 1) hx hb dX13_isLeft_30 (by decide) ?_
        refine lv_goto (tgt := 35) hx hb dX13_isLeft_31 (by decide) ?_
        refine W.widen (k := 0) (n := 0) (by decide) (by decide) ?_
        have hpost : (0 ≤ (1 : Int32).toInt ∧ (1 : Int32).toInt ≤ 1) := ⟨by omega, by omega⟩
        have hP9 : va_P (dC, dI) vwCl [(h0, .inr (13, mX13 q0 v0)), ((q0 64), .inl (k40, 40, .inl f40))] H := hP
        have hD9 : va_D A [(h0, .inr (13, mX13 q0 v0)), ((q0 64), .inl (k40, 40, .inl f40))] := hD
        exact W.zret (v := 1) hx hb hr rfl (fun t ht hW => ⟨⟨1, (fun _ => 0), rfl, hpost, (fun _ => 0), (fun _ => (fun _ => 0)), (fun _ => (fun _ => 0)), by rw [ht]; exact hP9, va_K.moved hW.alike hK, hD9⟩, hS.F ht⟩) hS.2.2 dX13_isLeft_35
    · skip
      have b_ : -2147483648 ≤ x2.toInt ∧ x2.toInt ≤ 2147483647 := ⟨zlo _, zhi _⟩
      refine lv_icmp_ge (tgt := 26) hx hb dX13_isLeft_19 (by decide) (fun c_ => ?_) (fun c_ => ?_)
      · skip
        have b_ := zT_ge rfl zk_512 c_
        refine lv_iconst (v := 2) hx hb dX13_isLeft_26 (by decide) ?_
        have hc : va_P (dC, dI) vwCl [(h0, .inr (13, mX13 q0 v0)), ((q0 64), .inl (k40, 40, .inl f40))] s.heap ∧ va_D A [(h0, .inr (13, mX13 q0 v0)), ((q0 64), .inl (k40, 40, .inl f40))] ∧ va_S A s.heap s.heap [] ∧ lv_has ls 3 [(0, .ref h0), (1, .int x1), (2, .int x2)] ∧ (1 ≤ (2 : Int32).toInt ∧ (2 : Int32).toInt ≤ 2) := ⟨hP, hD, hS, lv_sub hl [0, 1, 2] rfl, ⟨by omega, by omega⟩⟩
        exact hJ27 s.heap [] ls (fun i => ([2] : List (Int32)).getD i 0) (fun _ => 0) (fun _ => (fun _ => 0)) (fun _ => (fun _ => 0)) hc
      · skip
        have b_ := zF_ge rfl zk_512 c_
        refine lv_iconst (v := 1) hx hb dX13_isLeft_22 (by decide) ?_
        refine lv_goto (tgt := 27) hx hb dX13_isLeft_23 (by decide) ?_
        have hc : va_P (dC, dI) vwCl [(h0, .inr (13, mX13 q0 v0)), ((q0 64), .inl (k40, 40, .inl f40))] s.heap ∧ va_D A [(h0, .inr (13, mX13 q0 v0)), ((q0 64), .inl (k40, 40, .inl f40))] ∧ va_S A s.heap s.heap [] ∧ lv_has ls 3 [(0, .ref h0), (1, .int x1), (2, .int x2)] ∧ (1 ≤ (1 : Int32).toInt ∧ (1 : Int32).toInt ≤ 2) := ⟨hP, hD, hS, lv_sub hl [0, 1, 2] rfl, ⟨by omega, by omega⟩⟩
        exact hJ27 s.heap [] ls (fun i => ([1] : List (Int32)).getD i 0) (fun _ => 0) (fun _ => (fun _ => 0)) (fun _ => (fun _ => 0)) hc
set_option maxHeartbeats 8000000 in
set_option maxRecDepth 100000 in
theorem sX13_hit_0 (l : Launch) (dC : Nat → ClassId) (dI : Nat → Nat → Nat) (adK adV : Nat → Nat) (h0 : Nat) (q0 : Nat → Nat) (k43 : ClassId) (sz : Nat) (v0 : Nat → Int32) (f43 : Nat → Int32) (x1 : Int32) (hv0 : zR rg_Model v0) : Met l yX13_hit (zw yX13_hit cX13_hit 2 (some .int)) { frames := 1, cells := 0, slots := 0, locals := 20 } (zPc dC dI adK adV [.ref h0, .int x1] sz [(h0, .inr (13, mX13 q0 v0)), ((q0 67), .inl (k43, 120, .inl f43))] [(k43, .int)]) (va_Qi (fun (r : Int32) (u : Nat → Int32) => (0 ≤ (u 0).toInt ∧ (u 0).toInt ≤ 1)) (fun (u : Nat → Int32) (t : State) => ∃ (ww : Nat → Int64) (aa : Nat → Nat → Int32) (bb : Nat → Nat → Int64), va_P (dC, dI) vwCl [(h0, .inr (13, mX13 q0 (upd v0 21 (u 0)))), ((q0 67), .inl (k43, 120, .inl f43))] t.heap ∧ va_K (dC, dI) vwCl [(k43, .int)] t ∧ va_D (va_A [(h0, .inr (13, mX13 q0 v0)), ((q0 67), .inl (k43, 120, .inl f43))] sz) [(h0, .inr (13, mX13 q0 (upd v0 21 (u 0)))), ((q0 67), .inl (k43, 120, .inl f43))]) (va_A [(h0, .inr (13, mX13 q0 v0)), ((q0 67), .inl (k43, 120, .inl f43))] sz)) 0 0 (va_A [(h0, .inr (13, mX13 q0 v0)), ((q0 67), .inl (k43, 120, .inl f43))] sz) := by
  refine Met.ofW (cc := cX13_hit) (maxL := 2) (ret := (some .int)) (by decide) rfl ?_
  intro p e s m args below meth c s₁ B hml hv
  obtain ⟨rfl, hsz, hP, hK, hD0, hE, hZ⟩ := hv
  have hx := B.exec
  have hb := B.bytes
  have hr := B.returns
  have hG : ∀ w ∈ zG, w.before _ s = true := fun w h => atoms_spec (ws := (zw yX13_hit cX13_hit 2 (some .int))) B.pre w (List.mem_cons_of_mem _ h)
  have hown : s.vm.findClass RX13 = some m.cls := findClass_of_methodNamed B.named
  have hlocks := B.notSynchronized
  subst hsz
  have hD := hD0.self (sz := s.heap.size)
  generalize hAe : va_A [(h0, .inr (13, mX13 q0 v0)), ((q0 67), .inl (k43, 120, .inl f43))] s.heap.size = A at hD hZ ⊢
  have hA : ∀ q : Nat, s.heap.size ≤ q → A q := fun q h => by rw [← hAe]; exact Or.inr h
  have hS : va_S A s.heap s.heap [] := va_S.rf
  have hl := lv_entry ([.ref h0, .int x1]) (n := 2) (Nat.le_of_ble_eq_true rfl)
  rw [lg_entry_eq]
  generalize (lg_sl ([.ref h0, .int x1]) ++ List.replicate (2 - (lg_sl ([.ref h0, .int x1])).length) Slot.unset).toArray = ls at hl ⊢
  have hl : lv_has ls 2 [(0, .ref h0), (1, .int x1)] := hl
  have b_ := zk_0
  refine lv_aload_n hx hb dX13_hit_0 rfl (lv_at hl 0 rfl) ?_
  refine lv_iconst (v := 0) hx hb dX13_hit_1 (by decide) ?_
  refine va_put (D := (dC, dI)) (ci := 13) (v := .int 0) (ty := .int) (C := RX13) (T := TX13) (N := 75) hx hb hG zuX13 tyX13 tyX13_ok nmX13 hown hK hP hD hS 0 rfl rfl 21 (by decide) (hG _ zw518) (fun _ h9 => h9) rfl (by decide +kernel) rfl rfl (Nat.le_of_ble_eq_true rfl) dX13_hit_2 (fun H locs hP hD hS => ?_)
  have hP : va_P (dC, dI) vwCl [(h0, .inr (13, mX13 q0 (upd v0 21 0))), ((q0 67), .inl (k43, 120, .inl f43))] H := hP
  have hD : va_D A [(h0, .inr (13, mX13 q0 (upd v0 21 0))), ((q0 67), .inl (k43, 120, .inl f43))] := hD
  refine lv_iload_n hx hb dX13_hit_5 rfl (lv_at hl 1 rfl) ?_
  have b_ : -2147483648 ≤ x1.toInt ∧ x1.toInt ≤ 2147483647 := ⟨zlo _, zhi _⟩
  refine lv_if_ge (tgt := 14) hx hb dX13_hit_6 (by decide) (fun c_ => ?_) (fun c_ => ?_)
  · skip
    have b_ := zT_ge rfl zk_0 c_
    refine lv_iload_n hx hb dX13_hit_14 rfl (lv_at hl 1 rfl) ?_
    refine lv_aload_n hx hb dX13_hit_15 rfl (lv_at hl 0 rfl) ?_
    have b_ : 0 ≤ (v0 71).toInt ∧ (v0 71).toInt ≤ 120 := hv0 71
    refine va_get (D := (dC, dI)) (ci := 13) (v := .int (v0 71)) (C := RX13) (T := TX13) (N := 75) hx hb hG zuX13 hown hK hP 0 rfl rfl 71 (by decide) (hG _ zw727) (fun _ h9 => h9) rfl dX13_hit_16 ?_
    refine lv_icmp_ge (tgt := 31) hx hb dX13_hit_19 (by decide) (fun c_ => ?_) (fun c_ => ?_)
    · skip
      have b_ := zT_ge rfl rfl c_
      refine lv_iconst (v := (-1)) hx hb dX13_hit_31 (by decide) ?_
      refine W.widen (k := 0) (n := 0) (by decide) (by decide) ?_
      have hpost : (0 ≤ (0 : Int32).toInt ∧ (0 : Int32).toInt ≤ 1) := ⟨by omega, by omega⟩
      have hP9 : va_P (dC, dI) vwCl [(h0, .inr (13, mX13 q0 (upd v0 21 0))), ((q0 67), .inl (k43, 120, .inl f43))] H := hP
      have hD9 : va_D A [(h0, .inr (13, mX13 q0 (upd v0 21 0))), ((q0 67), .inl (k43, 120, .inl f43))] := hD
      exact W.iret (v := (-1)) hx hb hr (fun t ht hW => ⟨⟨(-1), (fun i => ([0] : List (Int32)).getD i 0), rfl, hpost, (fun _ => 0), (fun _ => (fun _ => 0)), (fun _ => (fun _ => 0)), by rw [ht]; exact hP9, va_K.moved hW.alike hK, hD9⟩, hS.F ht⟩) hS.2.2 dX13_hit_32
    · skip
      have b_ := zF_ge rfl rfl c_
      refine lv_aload_n hx hb dX13_hit_22 rfl (lv_at hl 0 rfl) ?_
      refine va_get (D := (dC, dI)) (ci := 13) (v := .ref (q0 67)) (C := RX13) (T := TX13) (N := 75) hx hb hG zuX13 hown hK hP 0 rfl rfl 67 (by decide) (hG _ zw728) (fun _ h9 => h9) rfl dX13_hit_23 ?_
      refine lv_iload_n hx hb dX13_hit_26 rfl (lv_at hl 1 rfl) ?_
      refine va_iald hx hb hK hP 1 0 rfl rfl (zin_lit ⟨by omega, by omega⟩) dX13_hit_27 ?_
      refine lv_topi (fun z27 e_z27 => ?_)
      refine lv_goto (tgt := 32) hx hb dX13_hit_28 (by decide) ?_
      refine W.widen (k := 0) (n := 0) (by decide) (by decide) ?_
      have b_ : -2147483648 ≤ z27.toInt ∧ z27.toInt ≤ 2147483647 := ⟨zlo _, zhi _⟩
      have hpost : (0 ≤ (0 : Int32).toInt ∧ (0 : Int32).toInt ≤ 1) := ⟨by omega, by omega⟩
      have hP9 : va_P (dC, dI) vwCl [(h0, .inr (13, mX13 q0 (upd v0 21 0))), ((q0 67), .inl (k43, 120, .inl f43))] H := hP
      have hD9 : va_D A [(h0, .inr (13, mX13 q0 (upd v0 21 0))), ((q0 67), .inl (k43, 120, .inl f43))] := hD
      exact W.iret (v := z27) hx hb hr (fun t ht hW => ⟨⟨z27, (fun i => ([0] : List (Int32)).getD i 0), rfl, hpost, (fun _ => 0), (fun _ => (fun _ => 0)), (fun _ => (fun _ => 0)), by rw [ht]; exact hP9, va_K.moved hW.alike hK, hD9⟩, hS.F ht⟩) hS.2.2 dX13_hit_32
  · skip
    have b_ := zF_ge rfl zk_0 c_
    refine lv_aload_n hx hb dX13_hit_9 rfl (lv_at hl 0 rfl) ?_
    have hPc := hP.sub (ws' := [(h0, .inr (13, mX13 q0 (upd v0 21 0)))]) [0] rfl
    have hDc := hD.sub (ws' := [(h0, .inr (13, mX13 q0 (upd v0 21 0)))]) [0] (by decide) rfl
    have hKc := hK.sub (tys' := []) [] rfl
    have hFc := va_free (wc := [(h0, .inr (13, mX13 q0 (upd v0 21 0)))]) hD hS hA [0] rfl
    refine va_calli (va_runV (As := []) (rest := []) ⟨hx, hb, hml, hown, hG⟩ (sX13_refuse_0 l dC dI adK adV h0 q0 H.size (upd v0 21 0) (zR_updF hv0 21 rfl)) (cwV 0 hG (zgV zw651 zw652 zw653 zw524 zw654) rfl rfl rfl (by decide +kernel) ⟨Nat.le_of_ble_eq_true rfl, Nat.le_of_ble_eq_true rfl⟩) ⟨zPc_blind, va_recv hKc hPc (ci := 13) (q0 := 0) rfl rfl, zPc_pre hPc hKc hDc hE hS hFc hZ⟩ rfl rfl hl.1 rfl (lv_room (Nat.le_of_ble_eq_true rfl)) dX13_hit_10 ⟨Nat.le_of_ble_eq_true rfl, Nat.le_of_ble_eq_true rfl⟩) hS (fun q _ h => hFc q h) hFc (fun r10_ u10_ t H1 locs ht hvm hw hB hz1 hk1 hS => ?_)
    have hw : (0 ≤ r10_.toInt ∧ r10_.toInt ≤ 0) ∧ (1 ≤ (u10_ 0).toInt ∧ (u10_ 0).toInt ≤ 1) := hw
    obtain ⟨b_, b_⟩ := hw
    obtain rfl : r10_ = (0 : Int32) := zeqi.mpr ((show r10_.toInt = 0 from by omega).trans zk_0.symm)
    obtain ⟨w10_, a10_, b10_, hP1, hK1, hD1⟩ := hB
    rw [ht] at hP1
    obtain ⟨hP, hD⟩ := va_join (wr := [((q0 67), .inl (k43, 120, .inl f43))]) (w1 := [(h0, .inr (13, mX13 q0 (upd v0 21 (u10_ 0))))]) hP hD [0] [1] rfl rfl (by decide) (by decide) hk1 hFc hP1 hD1
    have hP : va_P (dC, dI) vwCl [(h0, .inr (13, mX13 q0 (upd v0 21 (u10_ 0)))), ((q0 67), .inl (k43, 120, .inl f43))] H1 := hP.sub [1, 0] rfl
    have hD : va_D A [(h0, .inr (13, mX13 q0 (upd v0 21 (u10_ 0)))), ((q0 67), .inl (k43, 120, .inl f43))] := hD.sub [1, 0] (by decide) rfl
    generalize H1 = H at hP hS ⊢
    clear hz1
    refine W.widen (k := 0) (n := 0) (by decide) (by decide) ?_
    have hpost : (0 ≤ (u10_ 0).toInt ∧ (u10_ 0).toInt ≤ 1) := ⟨by omega, by omega⟩
    have hP9 : va_P (dC, dI) vwCl [(h0, .inr (13, mX13 q0 (upd v0 21 (u10_ 0)))), ((q0 67), .inl (k43, 120, .inl f43))] H := hP
    have hD9 : va_D A [(h0, .inr (13, mX13 q0 (upd v0 21 (u10_ 0)))), ((q0 67), .inl (k43, 120, .inl f43))] := hD
    exact W.iret (v := 0) hx hb hr (fun t ht hW => ⟨⟨0, (fun i => ([(u10_ 0)] : List (Int32)).getD i 0), rfl, hpost, (fun _ => 0), (fun _ => (fun _ => 0)), (fun _ => (fun _ => 0)), by rw [ht]; exact hP9, va_K.moved hW.alike hK, hD9⟩, hS.F ht⟩) hS.2.2 dX13_hit_13
set_option maxHeartbeats 8000000 in
set_option maxRecDepth 100000 in
theorem sX13_rank_0 (l : Launch) (dC : Nat → ClassId) (dI : Nat → Nat → Nat) (adK adV : Nat → Nat) (h0 : Nat) (q0 : Nat → Nat) (k46 : ClassId) (k45 : ClassId) (k44 : ClassId) (sz : Nat) (v0 : Nat → Int32) (f46 : Nat → Int32) (f45 : Nat → Int32) (f44 : Nat → Int32) (x1 : Int32) (x2 : Int32) (hv0 : zR rg_Model v0) : Met l yX13_rank (zw yX13_rank cX13_rank 3 (some .int)) { frames := 1, cells := 0, slots := 0, locals := 20 } (zPc dC dI adK adV [.ref h0, .int x1, .int x2] sz [(h0, .inr (13, mX13 q0 v0)), ((q0 70), .inl (k46, 120, .inl f46)), ((q0 69), .inl (k45, 120, .inl f45)), ((q0 68), .inl (k44, 120, .inl f44))] [(k46, .int), (k45, .int), (k44, .int)]) (va_Qi (fun (r : Int32) (u : Nat → Int32) => (0 ≤ (u 0).toInt ∧ (u 0).toInt ≤ 1)) (fun (u : Nat → Int32) (t : State) => ∃ (ww : Nat → Int64) (aa : Nat → Nat → Int32) (bb : Nat → Nat → Int64), va_P (dC, dI) vwCl [(h0, .inr (13, mX13 q0 (upd v0 21 (u 0)))), ((q0 70), .inl (k46, 120, .inl f46)), ((q0 69), .inl (k45, 120, .inl f45)), ((q0 68), .inl (k44, 120, .inl f44))] t.heap ∧ va_K (dC, dI) vwCl [(k46, .int), (k45, .int), (k44, .int)] t ∧ va_D (va_A [(h0, .inr (13, mX13 q0 v0)), ((q0 70), .inl (k46, 120, .inl f46)), ((q0 69), .inl (k45, 120, .inl f45)), ((q0 68), .inl (k44, 120, .inl f44))] sz) [(h0, .inr (13, mX13 q0 (upd v0 21 (u 0)))), ((q0 70), .inl (k46, 120, .inl f46)), ((q0 69), .inl (k45, 120, .inl f45)), ((q0 68), .inl (k44, 120, .inl f44))]) (va_A [(h0, .inr (13, mX13 q0 v0)), ((q0 70), .inl (k46, 120, .inl f46)), ((q0 69), .inl (k45, 120, .inl f45)), ((q0 68), .inl (k44, 120, .inl f44))] sz)) 0 0 (va_A [(h0, .inr (13, mX13 q0 v0)), ((q0 70), .inl (k46, 120, .inl f46)), ((q0 69), .inl (k45, 120, .inl f45)), ((q0 68), .inl (k44, 120, .inl f44))] sz) := by
  refine Met.ofW (cc := cX13_rank) (maxL := 3) (ret := (some .int)) (by decide) rfl ?_
  intro p e s m args below meth c s₁ B hml hv
  obtain ⟨rfl, hsz, hP, hK, hD0, hE, hZ⟩ := hv
  have hx := B.exec
  have hb := B.bytes
  have hr := B.returns
  have hG : ∀ w ∈ zG, w.before _ s = true := fun w h => atoms_spec (ws := (zw yX13_rank cX13_rank 3 (some .int))) B.pre w (List.mem_cons_of_mem _ h)
  have hown : s.vm.findClass RX13 = some m.cls := findClass_of_methodNamed B.named
  have hlocks := B.notSynchronized
  subst hsz
  have hD := hD0.self (sz := s.heap.size)
  generalize hAe : va_A [(h0, .inr (13, mX13 q0 v0)), ((q0 70), .inl (k46, 120, .inl f46)), ((q0 69), .inl (k45, 120, .inl f45)), ((q0 68), .inl (k44, 120, .inl f44))] s.heap.size = A at hD hZ ⊢
  have hA : ∀ q : Nat, s.heap.size ≤ q → A q := fun q h => by rw [← hAe]; exact Or.inr h
  have hS : va_S A s.heap s.heap [] := va_S.rf
  have hl := lv_entry ([.ref h0, .int x1, .int x2]) (n := 3) (Nat.le_of_ble_eq_true rfl)
  rw [lg_entry_eq]
  generalize (lg_sl ([.ref h0, .int x1, .int x2]) ++ List.replicate (3 - (lg_sl ([.ref h0, .int x1, .int x2])).length) Slot.unset).toArray = ls at hl ⊢
  have hl : lv_has ls 3 [(0, .ref h0), (1, .int x1), (2, .int x2)] := hl
  have b_ := zk_0
  refine lv_aload_n hx hb dX13_rank_0 rfl (lv_at hl 0 rfl) ?_
  refine lv_iconst (v := 0) hx hb dX13_rank_1 (by decide) ?_
  refine va_put (D := (dC, dI)) (ci := 13) (v := .int 0) (ty := .int) (C := RX13) (T := TX13) (N := 75) hx hb hG zuX13 tyX13 tyX13_ok nmX13 hown hK hP hD hS 0 rfl rfl 21 (by decide) (hG _ zw518) (fun _ h9 => h9) rfl (by decide +kernel) rfl rfl (Nat.le_of_ble_eq_true rfl) dX13_rank_2 (fun H locs hP hD hS => ?_)
  have hP : va_P (dC, dI) vwCl [(h0, .inr (13, mX13 q0 (upd v0 21 0))), ((q0 70), .inl (k46, 120, .inl f46)), ((q0 69), .inl (k45, 120, .inl f45)), ((q0 68), .inl (k44, 120, .inl f44))] H := hP
  have hD : va_D A [(h0, .inr (13, mX13 q0 (upd v0 21 0))), ((q0 70), .inl (k46, 120, .inl f46)), ((q0 69), .inl (k45, 120, .inl f45)), ((q0 68), .inl (k44, 120, .inl f44))] := hD
  refine lv_iload_n hx hb dX13_rank_5 rfl (lv_at hl 1 rfl) ?_
  refine zcutW (fun H locs ls u17_ w17_ a17_ b17_ => va_P (dC, dI) vwCl [(h0, .inr (13, mX13 q0 (upd v0 21 0))), ((q0 70), .inl (k46, 120, .inl f46)), ((q0 69), .inl (k45, 120, .inl f45)), ((q0 68), .inl (k44, 120, .inl f44))] H ∧ va_D A [(h0, .inr (13, mX13 q0 (upd v0 21 0))), ((q0 70), .inl (k46, 120, .inl f46)), ((q0 69), .inl (k45, 120, .inl f45)), ((q0 68), .inl (k44, 120, .inl f44))] ∧ va_S A s.heap H locs ∧ lv_has ls 3 [(0, .ref h0), (1, .int x1), (2, .int x2)]) (fun ls u17_ w17_ => F0 m 17 ls []) 0 0 ?_ (fun hJ17 => ?_)
  · skip
    intro H locs ls u17_ w17_ a17_ b17_ hc
    obtain ⟨hP, hD, hS, hl⟩ := hc
    refine lv_aload_n hx hb dX13_rank_17 rfl (lv_at hl 0 rfl) ?_
    have hPc := hP.sub (ws' := [(h0, .inr (13, mX13 q0 (upd v0 21 0)))]) [0] rfl
    have hDc := hD.sub (ws' := [(h0, .inr (13, mX13 q0 (upd v0 21 0)))]) [0] (by decide) rfl
    have hKc := hK.sub (tys' := []) [] rfl
    have hFc := va_free (wc := [(h0, .inr (13, mX13 q0 (upd v0 21 0)))]) hD hS hA [0] rfl
    refine va_calli (va_runV (As := []) (rest := []) ⟨hx, hb, hml, hown, hG⟩ (sX13_refuse_0 l dC dI adK adV h0 q0 H.size (upd v0 21 0) (zR_updF hv0 21 rfl)) (cwV 0 hG (zgV zw651 zw652 zw653 zw524 zw654) rfl rfl rfl (by decide +kernel) ⟨Nat.le_of_ble_eq_true rfl, Nat.le_of_ble_eq_true rfl⟩) ⟨zPc_blind, va_recv hKc hPc (ci := 13) (q0 := 0) rfl rfl, zPc_pre hPc hKc hDc hE hS hFc hZ⟩ rfl rfl hl.1 rfl (lv_room (Nat.le_of_ble_eq_true rfl)) dX13_rank_18 ⟨Nat.le_of_ble_eq_true rfl, Nat.le_of_ble_eq_true rfl⟩) hS (fun q _ h => hFc q h) hFc (fun r18_ u18_ t H1 locs ht hvm hw hB hz1 hk1 hS => ?_)
    have hw : (0 ≤ r18_.toInt ∧ r18_.toInt ≤ 0) ∧ (1 ≤ (u18_ 0).toInt ∧ (u18_ 0).toInt ≤ 1) := hw
    obtain ⟨b_, b_⟩ := hw
    obtain rfl : r18_ = (0 : Int32) := zeqi.mpr ((show r18_.toInt = 0 from by omega).trans zk_0.symm)
    obtain ⟨w18_, a18_, b18_, hP1, hK1, hD1⟩ := hB
    rw [ht] at hP1
    obtain ⟨hP, hD⟩ := va_join (wr := [((q0 70), .inl (k46, 120, .inl f46)), ((q0 69), .inl (k45, 120, .inl f45)), ((q0 68), .inl (k44, 120, .inl f44))]) (w1 := [(h0, .inr (13, mX13 q0 (upd v0 21 (u18_ 0))))]) hP hD [0] [1, 2, 3] rfl rfl (by decide) (by decide) hk1 hFc hP1 hD1
    have hP : va_P (dC, dI) vwCl [(h0, .inr (13, mX13 q0 (upd v0 21 (u18_ 0)))), ((q0 70), .inl (k46, 120, .inl f46)), ((q0 69), .inl (k45, 120, .inl f45)), ((q0 68), .inl (k44, 120, .inl f44))] H1 := hP.sub [3, 0, 1, 2] rfl
    have hD : va_D A [(h0, .inr (13, mX13 q0 (upd v0 21 (u18_ 0)))), ((q0 70), .inl (k46, 120, .inl f46)), ((q0 69), .inl (k45, 120, .inl f45)), ((q0 68), .inl (k44, 120, .inl f44))] := hD.sub [3, 0, 1, 2] (by decide) rfl
    generalize H1 = H at hP hS ⊢
    clear hz1
    refine W.widen (k := 0) (n := 0) (by decide) (by decide) ?_
    have hpost : (0 ≤ (u18_ 0).toInt ∧ (u18_ 0).toInt ≤ 1) := ⟨by omega, by omega⟩
    have hP9 : va_P (dC, dI) vwCl [(h0, .inr (13, mX13 q0 (upd v0 21 (u18_ 0)))), ((q0 70), .inl (k46, 120, .inl f46)), ((q0 69), .inl (k45, 120, .inl f45)), ((q0 68), .inl (k44, 120, .inl f44))] H := hP
    have hD9 : va_D A [(h0, .inr (13, mX13 q0 (upd v0 21 (u18_ 0)))), ((q0 70), .inl (k46, 120, .inl f46)), ((q0 69), .inl (k45, 120, .inl f45)), ((q0 68), .inl (k44, 120, .inl f44))] := hD
    exact W.iret (v := 0) hx hb hr (fun t ht hW => ⟨⟨0, (fun i => ([(u18_ 0)] : List (Int32)).getD i 0), rfl, hpost, (fun _ => 0), (fun _ => (fun _ => 0)), (fun _ => (fun _ => 0)), by rw [ht]; exact hP9, va_K.moved hW.alike hK, hD9⟩, hS.F ht⟩) hS.2.2 dX13_rank_21
  · skip
    have b_ : -2147483648 ≤ x1.toInt ∧ x1.toInt ≤ 2147483647 := ⟨zlo _, zhi _⟩
    refine lv_if_lt (tgt := 17) hx hb dX13_rank_6 (by decide) (fun c_ => ?_) (fun c_ => ?_)
    · skip
      have b_ := zT_lt rfl zk_0 c_
      have hc : va_P (dC, dI) vwCl [(h0, .inr (13, mX13 q0 (upd v0 21 0))), ((q0 70), .inl (k46, 120, .inl f46)), ((q0 69), .inl (k45, 120, .inl f45)), ((q0 68), .inl (k44, 120, .inl f44))] H ∧ va_D A [(h0, .inr (13, mX13 q0 (upd v0 21 0))), ((q0 70), .inl (k46, 120, .inl f46)), ((q0 69), .inl (k45, 120, .inl f45)), ((q0 68), .inl (k44, 120, .inl f44))] ∧ va_S A s.heap H locs ∧ lv_has ls 3 [(0, .ref h0), (1, .int x1), (2, .int x2)] := ⟨hP, hD, hS, lv_sub hl [0, 1, 2] rfl⟩
      exact hJ17 H locs ls (fun _ => 0) (fun _ => 0) (fun _ => (fun _ => 0)) (fun _ => (fun _ => 0)) hc
    · skip
      have b_ := zF_lt rfl zk_0 c_
      refine lv_iload_n hx hb dX13_rank_9 rfl (lv_at hl 1 rfl) ?_
      refine lv_aload_n hx hb dX13_rank_10 rfl (lv_at hl 0 rfl) ?_
      have b_ : 0 ≤ (v0 71).toInt ∧ (v0 71).toInt ≤ 120 := hv0 71
      refine va_get (D := (dC, dI)) (ci := 13) (v := .int (v0 71)) (C := RX13) (T := TX13) (N := 75) hx hb hG zuX13 hown hK hP 0 rfl rfl 71 (by decide) (hG _ zw727) (fun _ h9 => h9) rfl dX13_rank_11 ?_
      refine lv_icmp_lt (tgt := 22) hx hb dX13_rank_14 (by decide) (fun c_ => ?_) (fun c_ => ?_)
      · skip
        have b_ := zT_lt rfl rfl c_
        refine lv_iload_n hx hb dX13_rank_22 rfl (lv_at hl 2 rfl) ?_
        have b_ : -2147483648 ≤ x2.toInt ∧ x2.toInt ≤ 2147483647 := ⟨zlo _, zhi _⟩
        refine lv_if_ne (tgt := 35) hx hb dX13_rank_23 (by decide) (fun c_ => ?_) (fun c_ => ?_)
        · skip
          have b_ := zT_ne rfl zk_0 c_
          refine lv_iload_n hx hb dX13_rank_35 rfl (lv_at hl 2 rfl) ?_
          refine lv_iconst (v := 1) hx hb dX13_rank_36 (by decide) ?_
          refine lv_icmp_ne (tgt := 49) hx hb dX13_rank_37 (by decide) (fun c_ => ?_) (fun c_ => ?_)
          · skip
            have b_ := zT_ne rfl zk_1 c_
            refine lv_iload_n hx hb dX13_rank_49 rfl (lv_at hl 2 rfl) ?_
            refine lv_iconst (v := 2) hx hb dX13_rank_50 (by decide) ?_
            refine lv_icmp_ne (tgt := 63) hx hb dX13_rank_51 (by decide) (fun c_ => ?_) (fun c_ => ?_)
            · skip
              have b_ := zT_ne rfl zk_2 c_
              refine lv_iconst (v := (-1)) hx hb dX13_rank_63 (by decide) ?_
              refine W.widen (k := 0) (n := 0) (by decide) (by decide) ?_
              have hpost : (0 ≤ (0 : Int32).toInt ∧ (0 : Int32).toInt ≤ 1) := ⟨by omega, by omega⟩
              have hP9 : va_P (dC, dI) vwCl [(h0, .inr (13, mX13 q0 (upd v0 21 0))), ((q0 70), .inl (k46, 120, .inl f46)), ((q0 69), .inl (k45, 120, .inl f45)), ((q0 68), .inl (k44, 120, .inl f44))] H := hP
              have hD9 : va_D A [(h0, .inr (13, mX13 q0 (upd v0 21 0))), ((q0 70), .inl (k46, 120, .inl f46)), ((q0 69), .inl (k45, 120, .inl f45)), ((q0 68), .inl (k44, 120, .inl f44))] := hD
              exact W.iret (v := (-1)) hx hb hr (fun t ht hW => ⟨⟨(-1), (fun i => ([0] : List (Int32)).getD i 0), rfl, hpost, (fun _ => 0), (fun _ => (fun _ => 0)), (fun _ => (fun _ => 0)), by rw [ht]; exact hP9, va_K.moved hW.alike hK, hD9⟩, hS.F ht⟩) hS.2.2 dX13_rank_64
            · skip
              have b_ := zF_ne rfl zk_2 c_
              refine lv_aload_n hx hb dX13_rank_54 rfl (lv_at hl 0 rfl) ?_
              refine va_get (D := (dC, dI)) (ci := 13) (v := .ref (q0 70)) (C := RX13) (T := TX13) (N := 75) hx hb hG zuX13 hown hK hP 0 rfl rfl 70 (by decide) (hG _ zw729) (fun _ h9 => h9) rfl dX13_rank_55 ?_
              refine lv_iload_n hx hb dX13_rank_58 rfl (lv_at hl 1 rfl) ?_
              refine va_iald hx hb hK hP 1 0 rfl rfl (zin_lit ⟨by omega, by omega⟩) dX13_rank_59 ?_
              refine lv_topi (fun z59 e_z59 => ?_)
              refine lv_goto (tgt := 64) hx hb dX13_rank_60 (by decide) ?_
              refine W.widen (k := 0) (n := 0) (by decide) (by decide) ?_
              have b_ : -2147483648 ≤ z59.toInt ∧ z59.toInt ≤ 2147483647 := ⟨zlo _, zhi _⟩
              have hpost : (0 ≤ (0 : Int32).toInt ∧ (0 : Int32).toInt ≤ 1) := ⟨by omega, by omega⟩
              have hP9 : va_P (dC, dI) vwCl [(h0, .inr (13, mX13 q0 (upd v0 21 0))), ((q0 70), .inl (k46, 120, .inl f46)), ((q0 69), .inl (k45, 120, .inl f45)), ((q0 68), .inl (k44, 120, .inl f44))] H := hP
              have hD9 : va_D A [(h0, .inr (13, mX13 q0 (upd v0 21 0))), ((q0 70), .inl (k46, 120, .inl f46)), ((q0 69), .inl (k45, 120, .inl f45)), ((q0 68), .inl (k44, 120, .inl f44))] := hD
              exact W.iret (v := z59) hx hb hr (fun t ht hW => ⟨⟨z59, (fun i => ([0] : List (Int32)).getD i 0), rfl, hpost, (fun _ => 0), (fun _ => (fun _ => 0)), (fun _ => (fun _ => 0)), by rw [ht]; exact hP9, va_K.moved hW.alike hK, hD9⟩, hS.F ht⟩) hS.2.2 dX13_rank_64
          · skip
            have b_ := zF_ne rfl zk_1 c_
            refine lv_aload_n hx hb dX13_rank_40 rfl (lv_at hl 0 rfl) ?_
            refine va_get (D := (dC, dI)) (ci := 13) (v := .ref (q0 69)) (C := RX13) (T := TX13) (N := 75) hx hb hG zuX13 hown hK hP 0 rfl rfl 69 (by decide) (hG _ zw730) (fun _ h9 => h9) rfl dX13_rank_41 ?_
            refine lv_iload_n hx hb dX13_rank_44 rfl (lv_at hl 1 rfl) ?_
            refine va_iald hx hb hK hP 2 1 rfl rfl (zin_lit ⟨by omega, by omega⟩) dX13_rank_45 ?_
            refine lv_topi (fun z45 e_z45 => ?_)
            refine lv_goto (tgt := 64) hx hb dX13_rank_46 (by decide) ?_
            refine W.widen (k := 0) (n := 0) (by decide) (by decide) ?_
            have b_ : -2147483648 ≤ z45.toInt ∧ z45.toInt ≤ 2147483647 := ⟨zlo _, zhi _⟩
            have hpost : (0 ≤ (0 : Int32).toInt ∧ (0 : Int32).toInt ≤ 1) := ⟨by omega, by omega⟩
            have hP9 : va_P (dC, dI) vwCl [(h0, .inr (13, mX13 q0 (upd v0 21 0))), ((q0 70), .inl (k46, 120, .inl f46)), ((q0 69), .inl (k45, 120, .inl f45)), ((q0 68), .inl (k44, 120, .inl f44))] H := hP
            have hD9 : va_D A [(h0, .inr (13, mX13 q0 (upd v0 21 0))), ((q0 70), .inl (k46, 120, .inl f46)), ((q0 69), .inl (k45, 120, .inl f45)), ((q0 68), .inl (k44, 120, .inl f44))] := hD
            exact W.iret (v := z45) hx hb hr (fun t ht hW => ⟨⟨z45, (fun i => ([0] : List (Int32)).getD i 0), rfl, hpost, (fun _ => 0), (fun _ => (fun _ => 0)), (fun _ => (fun _ => 0)), by rw [ht]; exact hP9, va_K.moved hW.alike hK, hD9⟩, hS.F ht⟩) hS.2.2 dX13_rank_64
        · skip
          have b_ := zF_ne rfl zk_0 c_
          refine lv_aload_n hx hb dX13_rank_26 rfl (lv_at hl 0 rfl) ?_
          refine va_get (D := (dC, dI)) (ci := 13) (v := .ref (q0 68)) (C := RX13) (T := TX13) (N := 75) hx hb hG zuX13 hown hK hP 0 rfl rfl 68 (by decide) (hG _ zw731) (fun _ h9 => h9) rfl dX13_rank_27 ?_
          refine lv_iload_n hx hb dX13_rank_30 rfl (lv_at hl 1 rfl) ?_
          refine va_iald hx hb hK hP 3 2 rfl rfl (zin_lit ⟨by omega, by omega⟩) dX13_rank_31 ?_
          refine lv_topi (fun z31 e_z31 => ?_)
          refine lv_goto (tgt := 64) hx hb dX13_rank_32 (by decide) ?_
          refine W.widen (k := 0) (n := 0) (by decide) (by decide) ?_
          have b_ : -2147483648 ≤ z31.toInt ∧ z31.toInt ≤ 2147483647 := ⟨zlo _, zhi _⟩
          have hpost : (0 ≤ (0 : Int32).toInt ∧ (0 : Int32).toInt ≤ 1) := ⟨by omega, by omega⟩
          have hP9 : va_P (dC, dI) vwCl [(h0, .inr (13, mX13 q0 (upd v0 21 0))), ((q0 70), .inl (k46, 120, .inl f46)), ((q0 69), .inl (k45, 120, .inl f45)), ((q0 68), .inl (k44, 120, .inl f44))] H := hP
          have hD9 : va_D A [(h0, .inr (13, mX13 q0 (upd v0 21 0))), ((q0 70), .inl (k46, 120, .inl f46)), ((q0 69), .inl (k45, 120, .inl f45)), ((q0 68), .inl (k44, 120, .inl f44))] := hD
          exact W.iret (v := z31) hx hb hr (fun t ht hW => ⟨⟨z31, (fun i => ([0] : List (Int32)).getD i 0), rfl, hpost, (fun _ => 0), (fun _ => (fun _ => 0)), (fun _ => (fun _ => 0)), by rw [ht]; exact hP9, va_K.moved hW.alike hK, hD9⟩, hS.F ht⟩) hS.2.2 dX13_rank_64
      · skip
        have b_ := zF_lt rfl rfl c_
        have hc : va_P (dC, dI) vwCl [(h0, .inr (13, mX13 q0 (upd v0 21 0))), ((q0 70), .inl (k46, 120, .inl f46)), ((q0 69), .inl (k45, 120, .inl f45)), ((q0 68), .inl (k44, 120, .inl f44))] H ∧ va_D A [(h0, .inr (13, mX13 q0 (upd v0 21 0))), ((q0 70), .inl (k46, 120, .inl f46)), ((q0 69), .inl (k45, 120, .inl f45)), ((q0 68), .inl (k44, 120, .inl f44))] ∧ va_S A s.heap H locs ∧ lv_has ls 3 [(0, .ref h0), (1, .int x1), (2, .int x2)] := ⟨hP, hD, hS, lv_sub hl [0, 1, 2] rfl⟩
        exact hJ17 H locs ls (fun _ => 0) (fun _ => 0) (fun _ => (fun _ => 0)) (fun _ => (fun _ => 0)) hc
set_option maxHeartbeats 8000000 in
set_option maxRecDepth 100000 in
theorem sX13_code_0 (l : Launch) (dC : Nat → ClassId) (dI : Nat → Nat → Nat) (adK adV : Nat → Nat) (h0 : Nat) (q0 : Nat → Nat) (k33 : ClassId) (sz : Nat) (v0 : Nat → Int32) (f33 : Nat → Int32) (x1 : Int32) (hv0 : zR rg_Model v0) : Met l yX13_code (zw yX13_code cX13_code 2 (some .int)) { frames := 1, cells := 0, slots := 0, locals := 20 } (zPc dC dI adK adV [.ref h0, .int x1] sz [(h0, .inr (13, mX13 q0 v0)), ((q0 52), .inl (k33, 1300, .inl f33))] [(k33, .int)]) (va_Qi (fun (r : Int32) (u : Nat → Int32) => (0 ≤ (u 0).toInt ∧ (u 0).toInt ≤ 1)) (fun (u : Nat → Int32) (t : State) => ∃ (ww : Nat → Int64) (aa : Nat → Nat → Int32) (bb : Nat → Nat → Int64), va_P (dC, dI) vwCl [(h0, .inr (13, mX13 q0 (upd v0 21 (u 0)))), ((q0 52), .inl (k33, 1300, .inl f33))] t.heap ∧ va_K (dC, dI) vwCl [(k33, .int)] t ∧ va_D (va_A [(h0, .inr (13, mX13 q0 v0)), ((q0 52), .inl (k33, 1300, .inl f33))] sz) [(h0, .inr (13, mX13 q0 (upd v0 21 (u 0)))), ((q0 52), .inl (k33, 1300, .inl f33))]) (va_A [(h0, .inr (13, mX13 q0 v0)), ((q0 52), .inl (k33, 1300, .inl f33))] sz)) 0 0 (va_A [(h0, .inr (13, mX13 q0 v0)), ((q0 52), .inl (k33, 1300, .inl f33))] sz) := by
  refine Met.ofW (cc := cX13_code) (maxL := 2) (ret := (some .int)) (by decide) rfl ?_
  intro p e s m args below meth c s₁ B hml hv
  obtain ⟨rfl, hsz, hP, hK, hD0, hE, hZ⟩ := hv
  have hx := B.exec
  have hb := B.bytes
  have hr := B.returns
  have hG : ∀ w ∈ zG, w.before _ s = true := fun w h => atoms_spec (ws := (zw yX13_code cX13_code 2 (some .int))) B.pre w (List.mem_cons_of_mem _ h)
  have hown : s.vm.findClass RX13 = some m.cls := findClass_of_methodNamed B.named
  have hlocks := B.notSynchronized
  subst hsz
  have hD := hD0.self (sz := s.heap.size)
  generalize hAe : va_A [(h0, .inr (13, mX13 q0 v0)), ((q0 52), .inl (k33, 1300, .inl f33))] s.heap.size = A at hD hZ ⊢
  have hA : ∀ q : Nat, s.heap.size ≤ q → A q := fun q h => by rw [← hAe]; exact Or.inr h
  have hS : va_S A s.heap s.heap [] := va_S.rf
  have hl := lv_entry ([.ref h0, .int x1]) (n := 2) (Nat.le_of_ble_eq_true rfl)
  rw [lg_entry_eq]
  generalize (lg_sl ([.ref h0, .int x1]) ++ List.replicate (2 - (lg_sl ([.ref h0, .int x1])).length) Slot.unset).toArray = ls at hl ⊢
  have hl : lv_has ls 2 [(0, .ref h0), (1, .int x1)] := hl
  have b_ := zk_0
  refine lv_aload_n hx hb dX13_code_0 rfl (lv_at hl 0 rfl) ?_
  refine lv_iconst (v := 0) hx hb dX13_code_1 (by decide) ?_
  refine va_put (D := (dC, dI)) (ci := 13) (v := .int 0) (ty := .int) (C := RX13) (T := TX13) (N := 75) hx hb hG zuX13 tyX13 tyX13_ok nmX13 hown hK hP hD hS 0 rfl rfl 21 (by decide) (hG _ zw518) (fun _ h9 => h9) rfl (by decide +kernel) rfl rfl (Nat.le_of_ble_eq_true rfl) dX13_code_2 (fun H locs hP hD hS => ?_)
  have hP : va_P (dC, dI) vwCl [(h0, .inr (13, mX13 q0 (upd v0 21 0))), ((q0 52), .inl (k33, 1300, .inl f33))] H := hP
  have hD : va_D A [(h0, .inr (13, mX13 q0 (upd v0 21 0))), ((q0 52), .inl (k33, 1300, .inl f33))] := hD
  refine lv_iload_n hx hb dX13_code_5 rfl (lv_at hl 1 rfl) ?_
  have b_ : -2147483648 ≤ x1.toInt ∧ x1.toInt ≤ 2147483647 := ⟨zlo _, zhi _⟩
  refine lv_if_ge (tgt := 14) hx hb dX13_code_6 (by decide) (fun c_ => ?_) (fun c_ => ?_)
  · skip
    have b_ := zT_ge rfl zk_0 c_
    refine lv_iload_n hx hb dX13_code_14 rfl (lv_at hl 1 rfl) ?_
    refine lv_aload_n hx hb dX13_code_15 rfl (lv_at hl 0 rfl) ?_
    have b_ : 0 ≤ (v0 53).toInt ∧ (v0 53).toInt ≤ 1300 := hv0 53
    refine va_get (D := (dC, dI)) (ci := 13) (v := .int (v0 53)) (C := RX13) (T := TX13) (N := 75) hx hb hG zuX13 hown hK hP 0 rfl rfl 53 (by decide) (hG _ zw717) (fun _ h9 => h9) rfl dX13_code_16 ?_
    refine lv_icmp_ge (tgt := 31) hx hb dX13_code_19 (by decide) (fun c_ => ?_) (fun c_ => ?_)
    · skip
      have b_ := zT_ge rfl rfl c_
      refine lv_iconst (v := (-1)) hx hb dX13_code_31 (by decide) ?_
      refine W.widen (k := 0) (n := 0) (by decide) (by decide) ?_
      have hpost : (0 ≤ (0 : Int32).toInt ∧ (0 : Int32).toInt ≤ 1) := ⟨by omega, by omega⟩
      have hP9 : va_P (dC, dI) vwCl [(h0, .inr (13, mX13 q0 (upd v0 21 0))), ((q0 52), .inl (k33, 1300, .inl f33))] H := hP
      have hD9 : va_D A [(h0, .inr (13, mX13 q0 (upd v0 21 0))), ((q0 52), .inl (k33, 1300, .inl f33))] := hD
      exact W.iret (v := (-1)) hx hb hr (fun t ht hW => ⟨⟨(-1), (fun i => ([0] : List (Int32)).getD i 0), rfl, hpost, (fun _ => 0), (fun _ => (fun _ => 0)), (fun _ => (fun _ => 0)), by rw [ht]; exact hP9, va_K.moved hW.alike hK, hD9⟩, hS.F ht⟩) hS.2.2 dX13_code_32
    · skip
      have b_ := zF_ge rfl rfl c_
      refine lv_aload_n hx hb dX13_code_22 rfl (lv_at hl 0 rfl) ?_
      refine va_get (D := (dC, dI)) (ci := 13) (v := .ref (q0 52)) (C := RX13) (T := TX13) (N := 75) hx hb hG zuX13 hown hK hP 0 rfl rfl 52 (by decide) (hG _ zw716) (fun _ h9 => h9) rfl dX13_code_23 ?_
      refine lv_iload_n hx hb dX13_code_26 rfl (lv_at hl 1 rfl) ?_
      refine va_iald hx hb hK hP 1 0 rfl rfl (zin_lit ⟨by omega, by omega⟩) dX13_code_27 ?_
      refine lv_topi (fun z27 e_z27 => ?_)
      refine lv_goto (tgt := 32) hx hb dX13_code_28 (by decide) ?_
      refine W.widen (k := 0) (n := 0) (by decide) (by decide) ?_
      have b_ : -2147483648 ≤ z27.toInt ∧ z27.toInt ≤ 2147483647 := ⟨zlo _, zhi _⟩
      have hpost : (0 ≤ (0 : Int32).toInt ∧ (0 : Int32).toInt ≤ 1) := ⟨by omega, by omega⟩
      have hP9 : va_P (dC, dI) vwCl [(h0, .inr (13, mX13 q0 (upd v0 21 0))), ((q0 52), .inl (k33, 1300, .inl f33))] H := hP
      have hD9 : va_D A [(h0, .inr (13, mX13 q0 (upd v0 21 0))), ((q0 52), .inl (k33, 1300, .inl f33))] := hD
      exact W.iret (v := z27) hx hb hr (fun t ht hW => ⟨⟨z27, (fun i => ([0] : List (Int32)).getD i 0), rfl, hpost, (fun _ => 0), (fun _ => (fun _ => 0)), (fun _ => (fun _ => 0)), by rw [ht]; exact hP9, va_K.moved hW.alike hK, hD9⟩, hS.F ht⟩) hS.2.2 dX13_code_32
  · skip
    have b_ := zF_ge rfl zk_0 c_
    refine lv_aload_n hx hb dX13_code_9 rfl (lv_at hl 0 rfl) ?_
    have hPc := hP.sub (ws' := [(h0, .inr (13, mX13 q0 (upd v0 21 0)))]) [0] rfl
    have hDc := hD.sub (ws' := [(h0, .inr (13, mX13 q0 (upd v0 21 0)))]) [0] (by decide) rfl
    have hKc := hK.sub (tys' := []) [] rfl
    have hFc := va_free (wc := [(h0, .inr (13, mX13 q0 (upd v0 21 0)))]) hD hS hA [0] rfl
    refine va_calli (va_runV (As := []) (rest := []) ⟨hx, hb, hml, hown, hG⟩ (sX13_refuse_0 l dC dI adK adV h0 q0 H.size (upd v0 21 0) (zR_updF hv0 21 rfl)) (cwV 0 hG (zgV zw651 zw652 zw653 zw524 zw654) rfl rfl rfl (by decide +kernel) ⟨Nat.le_of_ble_eq_true rfl, Nat.le_of_ble_eq_true rfl⟩) ⟨zPc_blind, va_recv hKc hPc (ci := 13) (q0 := 0) rfl rfl, zPc_pre hPc hKc hDc hE hS hFc hZ⟩ rfl rfl hl.1 rfl (lv_room (Nat.le_of_ble_eq_true rfl)) dX13_code_10 ⟨Nat.le_of_ble_eq_true rfl, Nat.le_of_ble_eq_true rfl⟩) hS (fun q _ h => hFc q h) hFc (fun r10_ u10_ t H1 locs ht hvm hw hB hz1 hk1 hS => ?_)
    have hw : (0 ≤ r10_.toInt ∧ r10_.toInt ≤ 0) ∧ (1 ≤ (u10_ 0).toInt ∧ (u10_ 0).toInt ≤ 1) := hw
    obtain ⟨b_, b_⟩ := hw
    obtain rfl : r10_ = (0 : Int32) := zeqi.mpr ((show r10_.toInt = 0 from by omega).trans zk_0.symm)
    obtain ⟨w10_, a10_, b10_, hP1, hK1, hD1⟩ := hB
    rw [ht] at hP1
    obtain ⟨hP, hD⟩ := va_join (wr := [((q0 52), .inl (k33, 1300, .inl f33))]) (w1 := [(h0, .inr (13, mX13 q0 (upd v0 21 (u10_ 0))))]) hP hD [0] [1] rfl rfl (by decide) (by decide) hk1 hFc hP1 hD1
    have hP : va_P (dC, dI) vwCl [(h0, .inr (13, mX13 q0 (upd v0 21 (u10_ 0)))), ((q0 52), .inl (k33, 1300, .inl f33))] H1 := hP.sub [1, 0] rfl
    have hD : va_D A [(h0, .inr (13, mX13 q0 (upd v0 21 (u10_ 0)))), ((q0 52), .inl (k33, 1300, .inl f33))] := hD.sub [1, 0] (by decide) rfl
    generalize H1 = H at hP hS ⊢
    clear hz1
    refine W.widen (k := 0) (n := 0) (by decide) (by decide) ?_
    have hpost : (0 ≤ (u10_ 0).toInt ∧ (u10_ 0).toInt ≤ 1) := ⟨by omega, by omega⟩
    have hP9 : va_P (dC, dI) vwCl [(h0, .inr (13, mX13 q0 (upd v0 21 (u10_ 0)))), ((q0 52), .inl (k33, 1300, .inl f33))] H := hP
    have hD9 : va_D A [(h0, .inr (13, mX13 q0 (upd v0 21 (u10_ 0)))), ((q0 52), .inl (k33, 1300, .inl f33))] := hD
    exact W.iret (v := 0) hx hb hr (fun t ht hW => ⟨⟨0, (fun i => ([(u10_ 0)] : List (Int32)).getD i 0), rfl, hpost, (fun _ => 0), (fun _ => (fun _ => 0)), (fun _ => (fun _ => 0)), by rw [ht]; exact hP9, va_K.moved hW.alike hK, hD9⟩, hS.F ht⟩) hS.2.2 dX13_code_13
set_option maxHeartbeats 8000000 in
set_option maxRecDepth 100000 in
theorem sX13_deepest_0 (l : Launch) (dC : Nat → ClassId) (dI : Nat → Nat → Nat) (adK adV : Nat → Nat) (h0 : Nat) (q0 : Nat → Nat) (k33 : ClassId) (sz : Nat) (v0 : Nat → Int32) (f33 : Nat → Int32) (hv0 : zR rg_Model v0) : Met l yX13_deepest (zw yX13_deepest cX13_deepest 5 (some .int)) { frames := 1, cells := 0, slots := 0, locals := 40 } (zPc dC dI adK adV [.ref h0] sz [(h0, .inr (13, mX13 q0 v0)), ((q0 52), .inl (k33, 1300, .inl f33))] [(k33, .int)]) (va_Qi (fun (r : Int32) (u : Nat → Int32) => (0 ≤ r.toInt ∧ r.toInt ≤ 2147483647) ∧ (0 ≤ (u 0).toInt ∧ (u 0).toInt ≤ 0)) (fun (u : Nat → Int32) (t : State) => ∃ (ww : Nat → Int64) (aa : Nat → Nat → Int32) (bb : Nat → Nat → Int64), va_P (dC, dI) vwCl [(h0, .inr (13, mX13 q0 (upd v0 21 (u 0)))), ((q0 52), .inl (k33, 1300, .inl f33))] t.heap ∧ va_K (dC, dI) vwCl [(k33, .int)] t ∧ va_D (va_A [(h0, .inr (13, mX13 q0 v0)), ((q0 52), .inl (k33, 1300, .inl f33))] sz) [(h0, .inr (13, mX13 q0 (upd v0 21 (u 0)))), ((q0 52), .inl (k33, 1300, .inl f33))]) (va_A [(h0, .inr (13, mX13 q0 v0)), ((q0 52), .inl (k33, 1300, .inl f33))] sz)) 0 0 (va_A [(h0, .inr (13, mX13 q0 v0)), ((q0 52), .inl (k33, 1300, .inl f33))] sz) := by
  refine Met.ofW (cc := cX13_deepest) (maxL := 5) (ret := (some .int)) (by decide) rfl ?_
  intro p e s m args below meth c s₁ B hml hv
  obtain ⟨rfl, hsz, hP, hK, hD0, hE, hZ⟩ := hv
  have hx := B.exec
  have hb := B.bytes
  have hr := B.returns
  have hG : ∀ w ∈ zG, w.before _ s = true := fun w h => atoms_spec (ws := (zw yX13_deepest cX13_deepest 5 (some .int))) B.pre w (List.mem_cons_of_mem _ h)
  have hown : s.vm.findClass RX13 = some m.cls := findClass_of_methodNamed B.named
  have hlocks := B.notSynchronized
  subst hsz
  have hD := hD0.self (sz := s.heap.size)
  generalize hAe : va_A [(h0, .inr (13, mX13 q0 v0)), ((q0 52), .inl (k33, 1300, .inl f33))] s.heap.size = A at hD hZ ⊢
  have hA : ∀ q : Nat, s.heap.size ≤ q → A q := fun q h => by rw [← hAe]; exact Or.inr h
  have hS : va_S A s.heap s.heap [] := va_S.rf
  have hl := lv_entry ([.ref h0]) (n := 5) (Nat.le_of_ble_eq_true rfl)
  rw [lg_entry_eq]
  generalize (lg_sl ([.ref h0]) ++ List.replicate (5 - (lg_sl ([.ref h0])).length) Slot.unset).toArray = ls at hl ⊢
  have hl : lv_has ls 5 [(0, .ref h0)] := hl
  have b_ := zk_0
  refine lv_aload_n hx hb dX13_deepest_0 rfl (lv_at hl 0 rfl) ?_
  refine lv_iconst (v := 0) hx hb dX13_deepest_1 (by decide) ?_
  refine va_put (D := (dC, dI)) (ci := 13) (v := .int 0) (ty := .int) (C := RX13) (T := TX13) (N := 75) hx hb hG zuX13 tyX13 tyX13_ok nmX13 hown hK hP hD hS 0 rfl rfl 21 (by decide) (hG _ zw518) (fun _ h9 => h9) rfl (by decide +kernel) rfl rfl (Nat.le_of_ble_eq_true rfl) dX13_deepest_2 (fun H locs hP hD hS => ?_)
  have hP : va_P (dC, dI) vwCl [(h0, .inr (13, mX13 q0 (upd v0 21 0))), ((q0 52), .inl (k33, 1300, .inl f33))] H := hP
  have hD : va_D A [(h0, .inr (13, mX13 q0 (upd v0 21 0))), ((q0 52), .inl (k33, 1300, .inl f33))] := hD
  refine lv_iconst (v := 0) hx hb dX13_deepest_5 (by decide) ?_
  refine lv_istore_n (lv' := [(1, .int 0), (0, .ref h0)]) hx hb dX13_deepest_6 rfl hl (by decide) rfl (fun ls hl => ?_)
  refine lv_iconst (v := 0) hx hb dX13_deepest_7 (by decide) ?_
  refine lv_istore_n (lv' := [(2, .int 0), (1, .int 0), (0, .ref h0)]) hx hb dX13_deepest_8 rfl hl (by decide) rfl (fun ls hl => ?_)
  refine lv_iconst (v := 0) hx hb dX13_deepest_9 (by decide) ?_
  refine lv_istore_n (lv' := [(3, .int 0), (2, .int 0), (1, .int 0), (0, .ref h0)]) hx hb dX13_deepest_10 rfl hl (by decide) rfl (fun ls hl => ?_)
  refine zcutL (fun u11_ => (1300 - (u11_ 2).toInt).toNat) (fun H locs ls u11_ w11_ a11_ b11_ => va_P (dC, dI) vwCl [(h0, .inr (13, mX13 q0 (upd v0 21 0))), ((q0 52), .inl (k33, 1300, .inl f33))] H ∧ va_D A [(h0, .inr (13, mX13 q0 (upd v0 21 0))), ((q0 52), .inl (k33, 1300, .inl f33))] ∧ va_S A s.heap H locs ∧ lv_has ls 5 [(0, .ref h0), (1, .int (u11_ 0)), (2, .int (u11_ 1)), (3, .int (u11_ 2))] ∧ (0 ≤ (u11_ 0).toInt ∧ (u11_ 0).toInt ≤ 2147483647) ∧ (0 ≤ (u11_ 2).toInt ∧ (u11_ 2).toInt ≤ 1300)) (fun ls u11_ w11_ => F0 m 11 ls []) 0 0 ?_ (fun hJ11 => ?_)
  · skip
    intro H locs ls u11_ w11_ a11_ b11_ hc hJ11
    obtain ⟨hP, hD, hS, hl, b_, b_⟩ := hc
    refine lv_iload_n hx hb dX13_deepest_11 rfl (lv_at hl 3 rfl) ?_
    refine lv_aload_n hx hb dX13_deepest_12 rfl (lv_at hl 0 rfl) ?_
    have b_ : 0 ≤ (v0 53).toInt ∧ (v0 53).toInt ≤ 1300 := hv0 53
    refine va_get (D := (dC, dI)) (ci := 13) (v := .int (v0 53)) (C := RX13) (T := TX13) (N := 75) hx hb hG zuX13 hown hK hP 0 rfl rfl 53 (by decide) (hG _ zw717) (fun _ h9 => h9) rfl dX13_deepest_13 ?_
    refine lv_icmp_ge (tgt := 85) hx hb dX13_deepest_16 (by decide) (fun c_ => ?_) (fun c_ => ?_)
    · skip
      have b_ := zT_ge rfl rfl c_
      refine lv_iload_n hx hb dX13_deepest_85 rfl (lv_at hl 1 rfl) ?_
      refine W.widen (k := 0) (n := 0) (by decide) (by decide) ?_
      have hpost : (0 ≤ (u11_ 0).toInt ∧ (u11_ 0).toInt ≤ 2147483647) ∧ (0 ≤ (0 : Int32).toInt ∧ (0 : Int32).toInt ≤ 0) := ⟨⟨by omega, by omega⟩, ⟨by omega, by omega⟩⟩
      have hP9 : va_P (dC, dI) vwCl [(h0, .inr (13, mX13 q0 (upd v0 21 0))), ((q0 52), .inl (k33, 1300, .inl f33))] H := hP
      have hD9 : va_D A [(h0, .inr (13, mX13 q0 (upd v0 21 0))), ((q0 52), .inl (k33, 1300, .inl f33))] := hD
      exact W.iret (v := (u11_ 0)) hx hb hr (fun t ht hW => ⟨⟨(u11_ 0), (fun i => ([0] : List (Int32)).getD i 0), rfl, hpost, (fun _ => 0), (fun _ => (fun _ => 0)), (fun _ => (fun _ => 0)), by rw [ht]; exact hP9, va_K.moved hW.alike hK, hD9⟩, hS.F ht⟩) hS.2.2 dX13_deepest_86
    · skip
      have b_ := zF_ge rfl rfl c_
      refine lv_aload_n hx hb dX13_deepest_19 rfl (lv_at hl 0 rfl) ?_
      refine va_get (D := (dC, dI)) (ci := 13) (v := .ref (q0 52)) (C := RX13) (T := TX13) (N := 75) hx hb hG zuX13 hown hK hP 0 rfl rfl 52 (by decide) (hG _ zw716) (fun _ h9 => h9) rfl dX13_deepest_20 ?_
      refine lv_iload_n hx hb dX13_deepest_23 rfl (lv_at hl 3 rfl) ?_
      refine va_iald hx hb hK hP 1 0 rfl rfl (zin_lit ⟨by omega, by omega⟩) dX13_deepest_24 ?_
      refine lv_topi (fun z24 e_z24 => ?_)
      refine lv_sipush (v := 1000) hx hb dX13_deepest_25 (by decide) ?_
      have b_ : -2147483648 ≤ z24.toInt ∧ z24.toInt ≤ 2147483647 := ⟨zlo _, zhi _⟩
      refine lv_idiv hx hb dX13_deepest_28 (by decide) ?_
      refine lv_topi (fun z28 e_z28 => ?_)
      refine lv_istore (lv' := [(4, .int z28), (0, .ref h0), (1, .int (u11_ 0)), (2, .int (u11_ 1)), (3, .int (u11_ 2))]) hx hb dX13_deepest_29 hl (by decide) rfl (fun ls hl => ?_)
      refine lv_iload hx hb dX13_deepest_31 (lv_at hl 0 rfl) ?_
      refine lv_iconst (v := 4) hx hb dX13_deepest_33 (by decide) ?_
      refine zcutW (fun H locs ls u73_ w73_ a73_ b73_ => va_P (dC, dI) vwCl [(h0, .inr (13, mX13 q0 (upd v0 21 0))), ((q0 52), .inl (k33, 1300, .inl f33))] H ∧ va_D A [(h0, .inr (13, mX13 q0 (upd v0 21 0))), ((q0 52), .inl (k33, 1300, .inl f33))] ∧ va_S A s.heap H locs ∧ lv_has ls 5 [(0, .ref h0), (1, .int (u11_ 0)), (2, .int (u73_ 0)), (3, .int (u11_ 2)), (4, .int z28)]) (fun ls u73_ w73_ => F0 m 73 ls []) 0 0 ?_ (fun hJ73 => ?_)
      · skip
        intro H locs ls u73_ w73_ a73_ b73_ hc
        obtain ⟨hP, hD, hS, hl⟩ := hc
        refine lv_iload_n hx hb dX13_deepest_73 rfl (lv_at hl 1 rfl) ?_
        refine lv_iload_n hx hb dX13_deepest_74 rfl (lv_at hl 2 rfl) ?_
        have b_ : -2147483648 ≤ (u73_ 0).toInt ∧ (u73_ 0).toInt ≤ 2147483647 := ⟨zlo _, zhi _⟩
        refine va_mmax hx hb (by rw [hml]; exact hl.1.symm) hown (hG _ zw732) (hG _ zw8) (hG _ zw9) (hG _ zw10) (Nat.le_of_ble_eq_true rfl) (Nat.le_of_ble_eq_true rfl) (Nat.le_of_ble_eq_true rfl) (Nat.le_of_ble_eq_true rfl) dX13_deepest_75 ?_
        refine lv_topi (fun z75 e_z75 => ?_)
        have b_ := zmax rfl rfl e_z75
        refine lv_istore_n (lv' := [(1, .int z75), (0, .ref h0), (2, .int (u73_ 0)), (3, .int (u11_ 2)), (4, .int z28)]) hx hb dX13_deepest_78 rfl hl (by decide) rfl (fun ls hl => ?_)
        obtain ⟨z79, e_z79⟩ : ∃ z : Int32, z = (u11_ 2) + Int32.ofInt 1 := ⟨_, rfl⟩
        have b_ := zadd (x := (u11_ 2)) (y := Int32.ofInt 1) rfl (show (Int32.ofInt 1).toInt = 1 from by decide) e_z79 (by omega) (by omega)
        refine lv_iinc (v := z79) (lv' := [(3, .int z79), (1, .int z75), (0, .ref h0), (2, .int (u73_ 0)), (4, .int z28)]) hx hb dX13_deepest_79 hl (k := 3) rfl e_z79.symm (by decide) rfl (fun ls hl => ?_)
        refine lv_goto (tgt := 11) hx hb dX13_deepest_82 (by decide) ?_
        have hc : va_P (dC, dI) vwCl [(h0, .inr (13, mX13 q0 (upd v0 21 0))), ((q0 52), .inl (k33, 1300, .inl f33))] H ∧ va_D A [(h0, .inr (13, mX13 q0 (upd v0 21 0))), ((q0 52), .inl (k33, 1300, .inl f33))] ∧ va_S A s.heap H locs ∧ lv_has ls 5 [(0, .ref h0), (1, .int z75), (2, .int (u73_ 0)), (3, .int z79)] ∧ (0 ≤ z75.toInt ∧ z75.toInt ≤ 2147483647) ∧ (0 ≤ z79.toInt ∧ z79.toInt ≤ 1300) := ⟨hP, hD, hS, lv_sub hl [2, 1, 3, 0] rfl, ⟨by omega, by omega⟩, ⟨by omega, by omega⟩⟩
        exact hJ11 H locs ls (fun i => ([z75, (u73_ 0), z79] : List (Int32)).getD i 0) (fun _ => 0) (fun _ => (fun _ => 0)) (fun _ => (fun _ => 0)) hc (show (1300 - z79.toInt).toNat < (1300 - (u11_ 2).toInt).toNat from by omega)
      · skip
        have b_ : -2147483648 ≤ z28.toInt ∧ z28.toInt ≤ 2147483647 := ⟨zlo _, zhi _⟩
        refine lv_icmp_gt (tgt := 43) hx hb dX13_deepest_34 (by decide) (fun c_ => ?_) (fun c_ => ?_)
        · skip
          have b_ := zT_gt rfl zk_4 c_
          refine lv_iload hx hb dX13_deepest_43 (lv_at hl 0 rfl) ?_
          refine lv_iconst (v := 5) hx hb dX13_deepest_45 (by decide) ?_
          refine zcutW (fun H locs ls u70_ w70_ a70_ b70_ => va_P (dC, dI) vwCl [(h0, .inr (13, mX13 q0 (upd v0 21 0))), ((q0 52), .inl (k33, 1300, .inl f33))] H ∧ va_D A [(h0, .inr (13, mX13 q0 (upd v0 21 0))), ((q0 52), .inl (k33, 1300, .inl f33))] ∧ va_S A s.heap H locs ∧ lv_has ls 5 [(0, .ref h0), (1, .int (u11_ 0)), (2, .int (u11_ 1)), (3, .int (u11_ 2)), (4, .int z28)] ∧ (5 ≤ z28.toInt ∧ z28.toInt ≤ 11)) (fun ls u70_ w70_ => F0 m 70 ls []) 0 0 ?_ (fun hJ70 => ?_)
          · skip
            intro H locs ls u70_ w70_ a70_ b70_ hc
            obtain ⟨hP, hD, hS, hl, b_⟩ := hc
            have b_ : -2147483648 ≤ (u11_ 1).toInt ∧ (u11_ 1).toInt ≤ 2147483647 := ⟨zlo _, zhi _⟩
            obtain ⟨z70, e_z70⟩ : ∃ z : Int32, z = (u11_ 1) + Int32.ofInt (-1) := ⟨_, rfl⟩
            refine lv_iinc (v := z70) (lv' := [(2, .int z70), (0, .ref h0), (1, .int (u11_ 0)), (3, .int (u11_ 2)), (4, .int z28)]) hx hb dX13_deepest_70 hl (k := 2) rfl e_z70.symm (by decide) rfl (fun ls hl => ?_)
            have hc : va_P (dC, dI) vwCl [(h0, .inr (13, mX13 q0 (upd v0 21 0))), ((q0 52), .inl (k33, 1300, .inl f33))] H ∧ va_D A [(h0, .inr (13, mX13 q0 (upd v0 21 0))), ((q0 52), .inl (k33, 1300, .inl f33))] ∧ va_S A s.heap H locs ∧ lv_has ls 5 [(0, .ref h0), (1, .int (u11_ 0)), (2, .int z70), (3, .int (u11_ 2)), (4, .int z28)] := ⟨hP, hD, hS, lv_sub hl [1, 2, 0, 3, 4] rfl⟩
            exact hJ73 H locs ls (fun i => ([z70] : List (Int32)).getD i 0) (fun _ => 0) (fun _ => (fun _ => 0)) (fun _ => (fun _ => 0)) hc
          · skip
            refine lv_icmp_eq (tgt := 70) hx hb dX13_deepest_46 (by decide) (fun c_ => ?_) (fun c_ => ?_)
            · skip
              have b_ := zT_eq rfl zk_5 c_
              have hc : va_P (dC, dI) vwCl [(h0, .inr (13, mX13 q0 (upd v0 21 0))), ((q0 52), .inl (k33, 1300, .inl f33))] H ∧ va_D A [(h0, .inr (13, mX13 q0 (upd v0 21 0))), ((q0 52), .inl (k33, 1300, .inl f33))] ∧ va_S A s.heap H locs ∧ lv_has ls 5 [(0, .ref h0), (1, .int (u11_ 0)), (2, .int (u11_ 1)), (3, .int (u11_ 2)), (4, .int z28)] ∧ (5 ≤ z28.toInt ∧ z28.toInt ≤ 11) := ⟨hP, hD, hS, lv_sub hl [1, 2, 3, 4, 0] rfl, ⟨by omega, by omega⟩⟩
              exact hJ70 H locs ls (fun _ => 0) (fun _ => 0) (fun _ => (fun _ => 0)) (fun _ => (fun _ => 0)) hc
            · skip
              have b_ := zF_eq rfl zk_5 c_
              refine lv_iload hx hb dX13_deepest_49 (lv_at hl 0 rfl) ?_
              refine lv_bipush (v := 8) hx hb dX13_deepest_51 (by decide) ?_
              refine lv_icmp_eq (tgt := 70) hx hb dX13_deepest_53 (by decide) (fun c_ => ?_) (fun c_ => ?_)
              · skip
                have b_ := zT_eq rfl zk_8 c_
                have hc : va_P (dC, dI) vwCl [(h0, .inr (13, mX13 q0 (upd v0 21 0))), ((q0 52), .inl (k33, 1300, .inl f33))] H ∧ va_D A [(h0, .inr (13, mX13 q0 (upd v0 21 0))), ((q0 52), .inl (k33, 1300, .inl f33))] ∧ va_S A s.heap H locs ∧ lv_has ls 5 [(0, .ref h0), (1, .int (u11_ 0)), (2, .int (u11_ 1)), (3, .int (u11_ 2)), (4, .int z28)] ∧ (5 ≤ z28.toInt ∧ z28.toInt ≤ 11) := ⟨hP, hD, hS, lv_sub hl [1, 2, 3, 4, 0] rfl, ⟨by omega, by omega⟩⟩
                exact hJ70 H locs ls (fun _ => 0) (fun _ => 0) (fun _ => (fun _ => 0)) (fun _ => (fun _ => 0)) hc
              · skip
                have b_ := zF_eq rfl zk_8 c_
                refine lv_iload hx hb dX13_deepest_56 (lv_at hl 0 rfl) ?_
                refine lv_bipush (v := 9) hx hb dX13_deepest_58 (by decide) ?_
                refine lv_icmp_eq (tgt := 70) hx hb dX13_deepest_60 (by decide) (fun c_ => ?_) (fun c_ => ?_)
                · skip
                  have b_ := zT_eq rfl zk_9 c_
                  have hc : va_P (dC, dI) vwCl [(h0, .inr (13, mX13 q0 (upd v0 21 0))), ((q0 52), .inl (k33, 1300, .inl f33))] H ∧ va_D A [(h0, .inr (13, mX13 q0 (upd v0 21 0))), ((q0 52), .inl (k33, 1300, .inl f33))] ∧ va_S A s.heap H locs ∧ lv_has ls 5 [(0, .ref h0), (1, .int (u11_ 0)), (2, .int (u11_ 1)), (3, .int (u11_ 2)), (4, .int z28)] ∧ (5 ≤ z28.toInt ∧ z28.toInt ≤ 11) := ⟨hP, hD, hS, lv_sub hl [1, 2, 3, 4, 0] rfl, ⟨by omega, by omega⟩⟩
                  exact hJ70 H locs ls (fun _ => 0) (fun _ => 0) (fun _ => (fun _ => 0)) (fun _ => (fun _ => 0)) hc
                · skip
                  have b_ := zF_eq rfl zk_9 c_
                  refine lv_iload hx hb dX13_deepest_63 (lv_at hl 0 rfl) ?_
                  refine lv_bipush (v := 11) hx hb dX13_deepest_65 (by decide) ?_
                  refine lv_icmp_ne (tgt := 73) hx hb dX13_deepest_67 (by decide) (fun c_ => ?_) (fun c_ => ?_)
                  · skip
                    have b_ := zT_ne rfl zk_11 c_
                    have hc : va_P (dC, dI) vwCl [(h0, .inr (13, mX13 q0 (upd v0 21 0))), ((q0 52), .inl (k33, 1300, .inl f33))] H ∧ va_D A [(h0, .inr (13, mX13 q0 (upd v0 21 0))), ((q0 52), .inl (k33, 1300, .inl f33))] ∧ va_S A s.heap H locs ∧ lv_has ls 5 [(0, .ref h0), (1, .int (u11_ 0)), (2, .int (u11_ 1)), (3, .int (u11_ 2)), (4, .int z28)] := ⟨hP, hD, hS, lv_sub hl [1, 2, 3, 4, 0] rfl⟩
                    exact hJ73 H locs ls (fun i => ([(u11_ 1)] : List (Int32)).getD i 0) (fun _ => 0) (fun _ => (fun _ => 0)) (fun _ => (fun _ => 0)) hc
                  · skip
                    have b_ := zF_ne rfl zk_11 c_
                    have hc : va_P (dC, dI) vwCl [(h0, .inr (13, mX13 q0 (upd v0 21 0))), ((q0 52), .inl (k33, 1300, .inl f33))] H ∧ va_D A [(h0, .inr (13, mX13 q0 (upd v0 21 0))), ((q0 52), .inl (k33, 1300, .inl f33))] ∧ va_S A s.heap H locs ∧ lv_has ls 5 [(0, .ref h0), (1, .int (u11_ 0)), (2, .int (u11_ 1)), (3, .int (u11_ 2)), (4, .int z28)] ∧ (5 ≤ z28.toInt ∧ z28.toInt ≤ 11) := ⟨hP, hD, hS, lv_sub hl [1, 2, 3, 4, 0] rfl, ⟨by omega, by omega⟩⟩
                    exact hJ70 H locs ls (fun _ => 0) (fun _ => 0) (fun _ => (fun _ => 0)) (fun _ => (fun _ => 0)) hc
        · skip
          have b_ := zF_gt rfl zk_4 c_
          have b_ : -2147483648 ≤ (u11_ 1).toInt ∧ (u11_ 1).toInt ≤ 2147483647 := ⟨zlo _, zhi _⟩
          obtain ⟨z37, e_z37⟩ : ∃ z : Int32, z = (u11_ 1) + Int32.ofInt 1 := ⟨_, rfl⟩
          refine lv_iinc (v := z37) (lv' := [(2, .int z37), (4, .int z28), (0, .ref h0), (1, .int (u11_ 0)), (3, .int (u11_ 2))]) hx hb dX13_deepest_37 hl (k := 3) rfl e_z37.symm (by decide) rfl (fun ls hl => ?_)
          refine lv_goto (tgt := 73) hx hb dX13_deepest_40 (by decide) ?_
          have hc : va_P (dC, dI) vwCl [(h0, .inr (13, mX13 q0 (upd v0 21 0))), ((q0 52), .inl (k33, 1300, .inl f33))] H ∧ va_D A [(h0, .inr (13, mX13 q0 (upd v0 21 0))), ((q0 52), .inl (k33, 1300, .inl f33))] ∧ va_S A s.heap H locs ∧ lv_has ls 5 [(0, .ref h0), (1, .int (u11_ 0)), (2, .int z37), (3, .int (u11_ 2)), (4, .int z28)] := ⟨hP, hD, hS, lv_sub hl [2, 3, 0, 4, 1] rfl⟩
          exact hJ73 H locs ls (fun i => ([z37] : List (Int32)).getD i 0) (fun _ => 0) (fun _ => (fun _ => 0)) (fun _ => (fun _ => 0)) hc
  · skip
    have hc : va_P (dC, dI) vwCl [(h0, .inr (13, mX13 q0 (upd v0 21 0))), ((q0 52), .inl (k33, 1300, .inl f33))] H ∧ va_D A [(h0, .inr (13, mX13 q0 (upd v0 21 0))), ((q0 52), .inl (k33, 1300, .inl f33))] ∧ va_S A s.heap H locs ∧ lv_has ls 5 [(0, .ref h0), (1, .int 0), (2, .int 0), (3, .int 0)] ∧ (0 ≤ (0 : Int32).toInt ∧ (0 : Int32).toInt ≤ 2147483647) ∧ (0 ≤ (0 : Int32).toInt ∧ (0 : Int32).toInt ≤ 1300) := ⟨hP, hD, hS, lv_sub hl [3, 2, 1, 0] rfl, ⟨by omega, by omega⟩, ⟨by omega, by omega⟩⟩
    exact hJ11 H locs ls (fun i => ([0, 0, 0] : List (Int32)).getD i 0) (fun _ => 0) (fun _ => (fun _ => 0)) (fun _ => (fun _ => 0)) hc
set_option maxHeartbeats 8000000 in
set_option maxRecDepth 100000 in
theorem sX13_distance_0 (l : Launch) (dC : Nat → ClassId) (dI : Nat → Nat → Nat) (adK adV : Nat → Nat) (h0 : Nat) (q0 : Nat → Nat) (k3 : ClassId) (k47 : ClassId) (k15 : ClassId) (k2 : ClassId) (sz : Nat) (v0 : Nat → Int32) (f3 : Nat → Int32) (f47 : Nat → Int32) (f15 : Nat → Int32) (f2 : Nat → Int32) (x1 : Int32) (hv0 : zR rg_Model v0) (hf3 : zA 0 12 f3) (hx1 : 0 ≤ x1.toInt ∧ x1.toInt ≤ 399) : Met l yX13_distance (zw yX13_distance cX13_distance 6 (some .int)) { frames := 1, cells := 0, slots := 0, locals := 40 } (zPc dC dI adK adV [.ref h0, .int x1] sz [(h0, .inr (13, mX13 q0 v0)), ((q0 3), .inl (k3, 400, .inl f3)), ((q0 72), .inl (k47, 13, .inl f47)), ((q0 19), .inl (k15, 12, .inl f15)), ((q0 2), .inl (k2, 4800, .inl f2))] [(k3, .int), (k47, .int), (k15, .byte), (k2, .byte)]) (va_Qi (fun (r : Int32) (u : Nat → Int32) => True) (fun (u : Nat → Int32) (t : State) => ∃ (ww : Nat → Int64) (aa : Nat → Nat → Int32) (bb : Nat → Nat → Int64), va_P (dC, dI) vwCl [(h0, .inr (13, mX13 q0 v0)), ((q0 3), .inl (k3, 400, .inl f3)), ((q0 72), .inl (k47, 13, .inl (aa 0))), ((q0 19), .inl (k15, 12, .inl f15)), ((q0 2), .inl (k2, 4800, .inl f2))] t.heap ∧ va_K (dC, dI) vwCl [(k3, .int), (k47, .int), (k15, .byte), (k2, .byte)] t ∧ va_D (va_A [(h0, .inr (13, mX13 q0 v0)), ((q0 3), .inl (k3, 400, .inl f3)), ((q0 72), .inl (k47, 13, .inl f47)), ((q0 19), .inl (k15, 12, .inl f15)), ((q0 2), .inl (k2, 4800, .inl f2))] sz) [(h0, .inr (13, mX13 q0 v0)), ((q0 3), .inl (k3, 400, .inl f3)), ((q0 72), .inl (k47, 13, .inl (aa 0))), ((q0 19), .inl (k15, 12, .inl f15)), ((q0 2), .inl (k2, 4800, .inl f2))]) (va_A [(h0, .inr (13, mX13 q0 v0)), ((q0 3), .inl (k3, 400, .inl f3)), ((q0 72), .inl (k47, 13, .inl f47)), ((q0 19), .inl (k15, 12, .inl f15)), ((q0 2), .inl (k2, 4800, .inl f2))] sz)) 0 0 (va_A [(h0, .inr (13, mX13 q0 v0)), ((q0 3), .inl (k3, 400, .inl f3)), ((q0 72), .inl (k47, 13, .inl f47)), ((q0 19), .inl (k15, 12, .inl f15)), ((q0 2), .inl (k2, 4800, .inl f2))] sz) := by
  refine Met.ofW (cc := cX13_distance) (maxL := 6) (ret := (some .int)) (by decide) rfl ?_
  intro p e s m args below meth c s₁ B hml hv
  obtain ⟨rfl, hsz, hP, hK, hD0, hE, hZ⟩ := hv
  have hx := B.exec
  have hb := B.bytes
  have hr := B.returns
  have hG : ∀ w ∈ zG, w.before _ s = true := fun w h => atoms_spec (ws := (zw yX13_distance cX13_distance 6 (some .int))) B.pre w (List.mem_cons_of_mem _ h)
  have hown : s.vm.findClass RX13 = some m.cls := findClass_of_methodNamed B.named
  have hlocks := B.notSynchronized
  subst hsz
  have hD := hD0.self (sz := s.heap.size)
  generalize hAe : va_A [(h0, .inr (13, mX13 q0 v0)), ((q0 3), .inl (k3, 400, .inl f3)), ((q0 72), .inl (k47, 13, .inl f47)), ((q0 19), .inl (k15, 12, .inl f15)), ((q0 2), .inl (k2, 4800, .inl f2))] s.heap.size = A at hD hZ ⊢
  have hA : ∀ q : Nat, s.heap.size ≤ q → A q := fun q h => by rw [← hAe]; exact Or.inr h
  have hS : va_S A s.heap s.heap [] := va_S.rf
  have hl := lv_entry ([.ref h0, .int x1]) (n := 6) (Nat.le_of_ble_eq_true rfl)
  rw [lg_entry_eq]
  generalize (lg_sl ([.ref h0, .int x1]) ++ List.replicate (6 - (lg_sl ([.ref h0, .int x1])).length) Slot.unset).toArray = ls at hl ⊢
  have hl : lv_has ls 6 [(0, .ref h0), (1, .int x1)] := hl
  have b_ := zk_0
  have b_ := zk_1
  refine lv_iconst (v := 0) hx hb dX13_distance_0 (by decide) ?_
  refine lv_istore_n (lv' := [(2, .int 0), (0, .ref h0), (1, .int x1)]) hx hb dX13_distance_1 rfl hl (by decide) rfl (fun ls hl => ?_)
  refine zcutL (fun u2_ => (13 - (u2_ 0).toInt).toNat) (fun H locs ls u2_ w2_ a2_ b2_ => va_P (dC, dI) vwCl [(h0, .inr (13, mX13 q0 v0)), ((q0 3), .inl (k3, 400, .inl f3)), ((q0 72), .inl (k47, 13, .inl (a2_ 0))), ((q0 19), .inl (k15, 12, .inl f15)), ((q0 2), .inl (k2, 4800, .inl f2))] H ∧ va_D A [(h0, .inr (13, mX13 q0 v0)), ((q0 3), .inl (k3, 400, .inl f3)), ((q0 72), .inl (k47, 13, .inl (a2_ 0))), ((q0 19), .inl (k15, 12, .inl f15)), ((q0 2), .inl (k2, 4800, .inl f2))] ∧ va_S A s.heap H locs ∧ lv_has ls 6 [(0, .ref h0), (1, .int x1), (2, .int (u2_ 0))] ∧ (0 ≤ (u2_ 0).toInt ∧ (u2_ 0).toInt ≤ 13)) (fun ls u2_ w2_ => F0 m 2 ls []) 0 0 ?_ (fun hJ2 => ?_)
  · skip
    intro H locs ls u2_ w2_ a2_ b2_ hc hJ2
    obtain ⟨hP, hD, hS, hl, b_⟩ := hc
    refine lv_iload_n hx hb dX13_distance_2 rfl (lv_at hl 2 rfl) ?_
    refine lv_aload_n hx hb dX13_distance_3 rfl (lv_at hl 0 rfl) ?_
    refine va_get (D := (dC, dI)) (ci := 13) (v := .ref (q0 3)) (C := RX13) (T := TX13) (N := 75) hx hb hG zuX13 hown hK hP 0 rfl rfl 3 (by decide) (hG _ zw553) (fun _ h9 => h9) rfl dX13_distance_4 ?_
    refine lv_iload_n hx hb dX13_distance_7 rfl (lv_at hl 1 rfl) ?_
    refine va_iald hx hb hK hP 1 0 rfl rfl (zin_lit ⟨by omega, by omega⟩) dX13_distance_8 ?_
    refine lv_topi (fun z8 e_z8 => ?_)
    have b_ : 0 ≤ z8.toInt ∧ z8.toInt ≤ 12 := by rw [e_z8]; exact hf3 _
    refine lv_icmp_gt (tgt := 25) hx hb dX13_distance_9 (by decide) (fun c_ => ?_) (fun c_ => ?_)
    · skip
      have b_ := zT_gt rfl rfl c_
      refine lv_iconst (v := 1) hx hb dX13_distance_25 (by decide) ?_
      refine lv_istore_n (lv' := [(2, .int 1), (0, .ref h0), (1, .int x1)]) hx hb dX13_distance_26 rfl hl (by decide) rfl (fun ls hl => ?_)
      refine zcutL (fun u27_ => (13 - (u27_ 0).toInt).toNat) (fun H locs ls u27_ w27_ a27_ b27_ => va_P (dC, dI) vwCl [(h0, .inr (13, mX13 q0 v0)), ((q0 3), .inl (k3, 400, .inl f3)), ((q0 72), .inl (k47, 13, .inl (a27_ 0))), ((q0 19), .inl (k15, 12, .inl f15)), ((q0 2), .inl (k2, 4800, .inl f2))] H ∧ va_D A [(h0, .inr (13, mX13 q0 v0)), ((q0 3), .inl (k3, 400, .inl f3)), ((q0 72), .inl (k47, 13, .inl (a27_ 0))), ((q0 19), .inl (k15, 12, .inl f15)), ((q0 2), .inl (k2, 4800, .inl f2))] ∧ va_S A s.heap H locs ∧ lv_has ls 6 [(0, .ref h0), (1, .int x1), (2, .int (u27_ 0))] ∧ (1 ≤ (u27_ 0).toInt ∧ (u27_ 0).toInt ≤ 13)) (fun ls u27_ w27_ => F0 m 27 ls []) 0 0 ?_ (fun hJ27 => ?_)
      · skip
        intro H locs ls u27_ w27_ a27_ b27_ hc hJ27
        obtain ⟨hP, hD, hS, hl, b_⟩ := hc
        refine lv_iload_n hx hb dX13_distance_27 rfl (lv_at hl 2 rfl) ?_
        refine lv_aload_n hx hb dX13_distance_28 rfl (lv_at hl 0 rfl) ?_
        have b_ : 0 ≤ (v0 20).toInt ∧ (v0 20).toInt ≤ 12 := hv0 20
        refine va_get (D := (dC, dI)) (ci := 13) (v := .int (v0 20)) (C := RX13) (T := TX13) (N := 75) hx hb hG zuX13 hown hK hP 0 rfl rfl 20 (by decide) (hG _ zw538) (fun _ h9 => h9) rfl dX13_distance_29 ?_
        refine lv_icmp_gt (tgt := 150) hx hb dX13_distance_32 (by decide) (fun c_ => ?_) (fun c_ => ?_)
        · skip
          have b_ := zT_gt rfl rfl c_
          refine lv_aload_n hx hb dX13_distance_150 rfl (lv_at hl 0 rfl) ?_
          refine va_get (D := (dC, dI)) (ci := 13) (v := .ref (q0 72)) (C := RX13) (T := TX13) (N := 75) hx hb hG zuX13 hown hK hP 0 rfl rfl 72 (by decide) (hG _ zw733) (fun _ h9 => h9) rfl dX13_distance_151 ?_
          refine lv_aload_n hx hb dX13_distance_154 rfl (lv_at hl 0 rfl) ?_
          refine va_get (D := (dC, dI)) (ci := 13) (v := .ref (q0 3)) (C := RX13) (T := TX13) (N := 75) hx hb hG zuX13 hown hK hP 0 rfl rfl 3 (by decide) (hG _ zw553) (fun _ h9 => h9) rfl dX13_distance_155 ?_
          refine lv_iload_n hx hb dX13_distance_158 rfl (lv_at hl 1 rfl) ?_
          refine va_iald hx hb hK hP 1 0 rfl rfl (zin_lit ⟨by omega, by omega⟩) dX13_distance_159 ?_
          refine lv_topi (fun z159 e_z159 => ?_)
          have b_ : 0 ≤ z159.toInt ∧ z159.toInt ≤ 12 := by rw [e_z159]; exact hf3 _
          refine va_iald hx hb hK hP 2 1 rfl rfl (zin_lit ⟨by omega, by omega⟩) dX13_distance_160 ?_
          refine lv_topi (fun z160 e_z160 => ?_)
          refine W.widen (k := 0) (n := 0) (by decide) (by decide) ?_
          have b_ : -2147483648 ≤ z160.toInt ∧ z160.toInt ≤ 2147483647 := ⟨zlo _, zhi _⟩
          have hpost : True := trivial
          have hP9 : va_P (dC, dI) vwCl [(h0, .inr (13, mX13 q0 v0)), ((q0 3), .inl (k3, 400, .inl f3)), ((q0 72), .inl (k47, 13, .inl (a27_ 0))), ((q0 19), .inl (k15, 12, .inl f15)), ((q0 2), .inl (k2, 4800, .inl f2))] H := hP
          have hD9 : va_D A [(h0, .inr (13, mX13 q0 v0)), ((q0 3), .inl (k3, 400, .inl f3)), ((q0 72), .inl (k47, 13, .inl (a27_ 0))), ((q0 19), .inl (k15, 12, .inl f15)), ((q0 2), .inl (k2, 4800, .inl f2))] := hD
          exact W.iret (v := z160) hx hb hr (fun t ht hW => ⟨⟨z160, (fun _ => 0), rfl, hpost, (fun _ => 0), (fun i => ([(a27_ 0)] : List (Nat → Int32)).getD i (fun _ => 0)), (fun _ => (fun _ => 0)), by rw [ht]; exact hP9, va_K.moved hW.alike hK, hD9⟩, hS.F ht⟩) hS.2.2 dX13_distance_161
        · skip
          have b_ := zF_gt rfl rfl c_
          refine lv_aload_n hx hb dX13_distance_35 rfl (lv_at hl 0 rfl) ?_
          refine va_get (D := (dC, dI)) (ci := 13) (v := .ref (q0 72)) (C := RX13) (T := TX13) (N := 75) hx hb hG zuX13 hown hK hP 0 rfl rfl 72 (by decide) (hG _ zw733) (fun _ h9 => h9) rfl dX13_distance_36 ?_
          refine lv_iconst (v := 0) hx hb dX13_distance_39 (by decide) ?_
          refine va_iald hx hb hK hP 2 1 rfl rfl (zin_lit (by decide)) dX13_distance_40 ?_
          refine lv_topi (fun z40 e_z40 => ?_)
          refine lv_istore_n (lv' := [(3, .int z40), (0, .ref h0), (1, .int x1), (2, .int (u27_ 0))]) hx hb dX13_distance_41 rfl hl (by decide) rfl (fun ls hl => ?_)
          refine lv_aload_n hx hb dX13_distance_42 rfl (lv_at hl 1 rfl) ?_
          refine va_get (D := (dC, dI)) (ci := 13) (v := .ref (q0 72)) (C := RX13) (T := TX13) (N := 75) hx hb hG zuX13 hown hK hP 0 rfl rfl 72 (by decide) (hG _ zw733) (fun _ h9 => h9) rfl dX13_distance_43 ?_
          refine lv_iconst (v := 0) hx hb dX13_distance_46 (by decide) ?_
          refine lv_iload_n hx hb dX13_distance_47 rfl (lv_at hl 3 rfl) ?_
          refine va_iast hx hb hK hP hD hS 2 1 rfl rfl (zin_lit (by decide)) dX13_distance_48 (fun H locs hP hD hS => ?_)
          obtain ⟨f_48, e_f_48⟩ : ∃ z : Nat → Int32, z = upd (a27_ 0) (0 : Int32).toNatClampNeg (u27_ 0) := ⟨_, rfl⟩
          have hP : va_P (dC, dI) vwCl [(h0, .inr (13, mX13 q0 v0)), ((q0 3), .inl (k3, 400, .inl f3)), ((q0 72), .inl (k47, 13, .inl f_48)), ((q0 19), .inl (k15, 12, .inl f15)), ((q0 2), .inl (k2, 4800, .inl f2))] H := by rw [e_f_48]; exact hP
          have hD : va_D A [(h0, .inr (13, mX13 q0 v0)), ((q0 3), .inl (k3, 400, .inl f3)), ((q0 72), .inl (k47, 13, .inl f_48)), ((q0 19), .inl (k15, 12, .inl f15)), ((q0 2), .inl (k2, 4800, .inl f2))] := by rw [e_f_48]; exact hD
          refine lv_iconst (v := 1) hx hb dX13_distance_49 (by decide) ?_
          refine lv_istore (lv' := [(4, .int 1), (3, .int z40), (0, .ref h0), (1, .int x1), (2, .int (u27_ 0))]) hx hb dX13_distance_50 hl (by decide) rfl (fun ls hl => ?_)
          refine zcutL (fun u52_ => (13 - (u52_ 1).toInt).toNat) (fun H locs ls u52_ w52_ a52_ b52_ => va_P (dC, dI) vwCl [(h0, .inr (13, mX13 q0 v0)), ((q0 3), .inl (k3, 400, .inl f3)), ((q0 72), .inl (k47, 13, .inl (a52_ 0))), ((q0 19), .inl (k15, 12, .inl f15)), ((q0 2), .inl (k2, 4800, .inl f2))] H ∧ va_D A [(h0, .inr (13, mX13 q0 v0)), ((q0 3), .inl (k3, 400, .inl f3)), ((q0 72), .inl (k47, 13, .inl (a52_ 0))), ((q0 19), .inl (k15, 12, .inl f15)), ((q0 2), .inl (k2, 4800, .inl f2))] ∧ va_S A s.heap H locs ∧ lv_has ls 6 [(0, .ref h0), (1, .int x1), (2, .int (u27_ 0)), (3, .int (u52_ 0)), (4, .int (u52_ 1))] ∧ (1 ≤ (u52_ 1).toInt ∧ (u52_ 1).toInt ≤ 13)) (fun ls u52_ w52_ => F0 m 52 ls []) 0 0 ?_ (fun hJ52 => ?_)
          · skip
            intro H locs ls u52_ w52_ a52_ b52_ hc hJ52
            obtain ⟨hP, hD, hS, hl, b_⟩ := hc
            refine lv_iload hx hb dX13_distance_52 (lv_at hl 4 rfl) ?_
            refine lv_aload_n hx hb dX13_distance_54 rfl (lv_at hl 0 rfl) ?_
            refine va_get (D := (dC, dI)) (ci := 13) (v := .ref (q0 3)) (C := RX13) (T := TX13) (N := 75) hx hb hG zuX13 hown hK hP 0 rfl rfl 3 (by decide) (hG _ zw553) (fun _ h9 => h9) rfl dX13_distance_55 ?_
            refine lv_iload_n hx hb dX13_distance_58 rfl (lv_at hl 1 rfl) ?_
            refine va_iald hx hb hK hP 1 0 rfl rfl (zin_lit ⟨by omega, by omega⟩) dX13_distance_59 ?_
            refine lv_topi (fun z59 e_z59 => ?_)
            have b_ : 0 ≤ z59.toInt ∧ z59.toInt ≤ 12 := by rw [e_z59]; exact hf3 _
            refine lv_icmp_gt (tgt := 144) hx hb dX13_distance_60 (by decide) (fun c_ => ?_) (fun c_ => ?_)
            · skip
              have b_ := zT_gt rfl rfl c_
              obtain ⟨z144, e_z144⟩ : ∃ z : Int32, z = (u27_ 0) + Int32.ofInt 1 := ⟨_, rfl⟩
              have b_ := zadd (x := (u27_ 0)) (y := Int32.ofInt 1) rfl (show (Int32.ofInt 1).toInt = 1 from by decide) e_z144 (by omega) (by omega)
              refine lv_iinc (v := z144) (lv' := [(2, .int z144), (0, .ref h0), (1, .int x1), (3, .int (u52_ 0)), (4, .int (u52_ 1))]) hx hb dX13_distance_144 hl (k := 2) rfl e_z144.symm (by decide) rfl (fun ls hl => ?_)
              refine lv_goto (tgt := 27) hx hb dX13_distance_147 (by decide) ?_
              have hc : va_P (dC, dI) vwCl [(h0, .inr (13, mX13 q0 v0)), ((q0 3), .inl (k3, 400, .inl f3)), ((q0 72), .inl (k47, 13, .inl (a52_ 0))), ((q0 19), .inl (k15, 12, .inl f15)), ((q0 2), .inl (k2, 4800, .inl f2))] H ∧ va_D A [(h0, .inr (13, mX13 q0 v0)), ((q0 3), .inl (k3, 400, .inl f3)), ((q0 72), .inl (k47, 13, .inl (a52_ 0))), ((q0 19), .inl (k15, 12, .inl f15)), ((q0 2), .inl (k2, 4800, .inl f2))] ∧ va_S A s.heap H locs ∧ lv_has ls 6 [(0, .ref h0), (1, .int x1), (2, .int z144)] ∧ (1 ≤ z144.toInt ∧ z144.toInt ≤ 13) := ⟨hP, hD, hS, lv_sub hl [1, 2, 0] rfl, ⟨by omega, by omega⟩⟩
              exact hJ27 H locs ls (fun i => ([z144] : List (Int32)).getD i 0) (fun _ => 0) (fun i => ([(a52_ 0)] : List (Nat → Int32)).getD i (fun _ => 0)) (fun _ => (fun _ => 0)) hc (show (13 - z144.toInt).toNat < (13 - (u27_ 0).toInt).toNat from by omega)
            · skip
              have b_ := zF_gt rfl rfl c_
              refine lv_iload_n hx hb dX13_distance_63 rfl (lv_at hl 3 rfl) ?_
              refine lv_aload_n hx hb dX13_distance_64 rfl (lv_at hl 0 rfl) ?_
              refine va_get (D := (dC, dI)) (ci := 13) (v := .ref (q0 19)) (C := RX13) (T := TX13) (N := 75) hx hb hG zuX13 hown hK hP 0 rfl rfl 19 (by decide) (hG _ zw539) (fun _ h9 => h9) rfl dX13_distance_65 ?_
              refine lv_iload_n hx hb dX13_distance_68 rfl (lv_at hl 2 rfl) ?_
              refine lv_iconst (v := 1) hx hb dX13_distance_69 (by decide) ?_
              refine lv_isub hx hb dX13_distance_70 ?_
              refine lv_topi (fun z70 e_z70 => ?_)
              have b_ := zsub rfl zk_1 e_z70 (by omega) (by omega)
              refine va_bald hx hb hK hP 3 2 rfl rfl (zin_lit ⟨by omega, by omega⟩) dX13_distance_71 ?_
              refine lv_topi (fun z71 e_z71 => ?_)
              refine lv_aload_n hx hb dX13_distance_72 rfl (lv_at hl 0 rfl) ?_
              refine va_get (D := (dC, dI)) (ci := 13) (v := .ref (q0 2)) (C := RX13) (T := TX13) (N := 75) hx hb hG zuX13 hown hK hP 0 rfl rfl 2 (by decide) (hG _ zw552) (fun _ h9 => h9) rfl dX13_distance_73 ?_
              refine lv_bipush (v := 12) hx hb dX13_distance_76 (by decide) ?_
              refine lv_iload_n hx hb dX13_distance_78 rfl (lv_at hl 1 rfl) ?_
              refine lv_imul hx hb dX13_distance_79 ?_
              refine lv_topi (fun z79 e_z79 => ?_)
              have b_ := zmul zk_12 rfl e_z79 (by omega) (by omega)
              refine lv_iload hx hb dX13_distance_80 (lv_at hl 4 rfl) ?_
              refine lv_iadd hx hb dX13_distance_82 ?_
              refine lv_topi (fun z82 e_z82 => ?_)
              have b_ := zadd rfl rfl e_z82 (by omega) (by omega)
              refine lv_iconst (v := 1) hx hb dX13_distance_83 (by decide) ?_
              refine lv_isub hx hb dX13_distance_84 ?_
              refine lv_topi (fun z84 e_z84 => ?_)
              have b_ := zsub rfl zk_1 e_z84 (by omega) (by omega)
              refine va_bald hx hb hK hP 4 3 rfl rfl (zin_lit ⟨by omega, by omega⟩) dX13_distance_85 ?_
              refine lv_topi (fun z85 e_z85 => ?_)
              refine zcutW (fun H locs ls u94_ w94_ a94_ b94_ => va_P (dC, dI) vwCl [(h0, .inr (13, mX13 q0 v0)), ((q0 3), .inl (k3, 400, .inl f3)), ((q0 72), .inl (k47, 13, .inl (a52_ 0))), ((q0 19), .inl (k15, 12, .inl f15)), ((q0 2), .inl (k2, 4800, .inl f2))] H ∧ va_D A [(h0, .inr (13, mX13 q0 v0)), ((q0 3), .inl (k3, 400, .inl f3)), ((q0 72), .inl (k47, 13, .inl (a52_ 0))), ((q0 19), .inl (k15, 12, .inl f15)), ((q0 2), .inl (k2, 4800, .inl f2))] ∧ va_S A s.heap H locs ∧ lv_has ls 6 [(0, .ref h0), (1, .int x1), (2, .int (u27_ 0)), (3, .int (u52_ 0)), (4, .int (u52_ 1))] ∧ (0 ≤ (u94_ 0).toInt ∧ (u94_ 0).toInt ≤ 1)) (fun ls u94_ w94_ => F0 m 94 ls [.int (u94_ 0), .int (u52_ 0)]) 0 0 ?_ (fun hJ94 => ?_)
              · skip
                intro H locs ls u94_ w94_ a94_ b94_ hc
                obtain ⟨hP, hD, hS, hl, b_⟩ := hc
                have b_ : -2147483648 ≤ (u52_ 0).toInt ∧ (u52_ 0).toInt ≤ 2147483647 := ⟨zlo _, zhi _⟩
                refine lv_iadd hx hb dX13_distance_94 ?_
                refine lv_topi (fun z94 e_z94 => ?_)
                refine lv_istore (lv' := [(5, .int z94), (0, .ref h0), (1, .int x1), (2, .int (u27_ 0)), (3, .int (u52_ 0)), (4, .int (u52_ 1))]) hx hb dX13_distance_95 hl (by decide) rfl (fun ls hl => ?_)
                refine lv_aload_n hx hb dX13_distance_97 rfl (lv_at hl 1 rfl) ?_
                refine va_get (D := (dC, dI)) (ci := 13) (v := .ref (q0 72)) (C := RX13) (T := TX13) (N := 75) hx hb hG zuX13 hown hK hP 0 rfl rfl 72 (by decide) (hG _ zw733) (fun _ h9 => h9) rfl dX13_distance_98 ?_
                refine lv_iload hx hb dX13_distance_101 (lv_at hl 5 rfl) ?_
                refine va_iald hx hb hK hP 2 1 rfl rfl (zin_lit ⟨by omega, by omega⟩) dX13_distance_103 ?_
                refine lv_topi (fun z103 e_z103 => ?_)
                refine lv_istore_n (lv' := [(3, .int z103), (5, .int z94), (0, .ref h0), (1, .int x1), (2, .int (u27_ 0)), (4, .int (u52_ 1))]) hx hb dX13_distance_104 rfl hl (by decide) rfl (fun ls hl => ?_)
                refine lv_aload_n hx hb dX13_distance_105 rfl (lv_at hl 2 rfl) ?_
                refine va_get (D := (dC, dI)) (ci := 13) (v := .ref (q0 72)) (C := RX13) (T := TX13) (N := 75) hx hb hG zuX13 hown hK hP 0 rfl rfl 72 (by decide) (hG _ zw733) (fun _ h9 => h9) rfl dX13_distance_106 ?_
                refine lv_iload hx hb dX13_distance_109 (lv_at hl 5 rfl) ?_
                refine lv_iload hx hb dX13_distance_111 (lv_at hl 1 rfl) ?_
                refine lv_aload_n hx hb dX13_distance_113 rfl (lv_at hl 2 rfl) ?_
                refine va_get (D := (dC, dI)) (ci := 13) (v := .ref (q0 72)) (C := RX13) (T := TX13) (N := 75) hx hb hG zuX13 hown hK hP 0 rfl rfl 72 (by decide) (hG _ zw733) (fun _ h9 => h9) rfl dX13_distance_114 ?_
                refine lv_iload hx hb dX13_distance_117 (lv_at hl 5 rfl) ?_
                refine va_iald hx hb hK hP 2 1 rfl rfl (zin_lit ⟨by omega, by omega⟩) dX13_distance_119 ?_
                refine lv_topi (fun z119 e_z119 => ?_)
                refine lv_aload_n hx hb dX13_distance_120 rfl (lv_at hl 2 rfl) ?_
                refine va_get (D := (dC, dI)) (ci := 13) (v := .ref (q0 72)) (C := RX13) (T := TX13) (N := 75) hx hb hG zuX13 hown hK hP 0 rfl rfl 72 (by decide) (hG _ zw733) (fun _ h9 => h9) rfl dX13_distance_121 ?_
                refine lv_iload hx hb dX13_distance_124 (lv_at hl 5 rfl) ?_
                refine lv_iconst (v := 1) hx hb dX13_distance_126 (by decide) ?_
                refine lv_isub hx hb dX13_distance_127 ?_
                refine lv_topi (fun z127 e_z127 => ?_)
                have b_ := zsub rfl zk_1 e_z127 (by omega) (by omega)
                refine va_iald hx hb hK hP 2 1 rfl rfl (zin_lit ⟨by omega, by omega⟩) dX13_distance_128 ?_
                refine lv_topi (fun z128 e_z128 => ?_)
                have b_ : -2147483648 ≤ z119.toInt ∧ z119.toInt ≤ 2147483647 := ⟨zlo _, zhi _⟩
                have b_ : -2147483648 ≤ z128.toInt ∧ z128.toInt ≤ 2147483647 := ⟨zlo _, zhi _⟩
                refine va_mmin hx hb (by rw [hml]; exact hl.1.symm) hown (hG _ zw569) (hG _ zw120) (hG _ zw9) (hG _ zw121) (Nat.le_of_ble_eq_true rfl) (Nat.le_of_ble_eq_true rfl) (Nat.le_of_ble_eq_true rfl) (Nat.le_of_ble_eq_true rfl) dX13_distance_129 ?_
                refine lv_topi (fun z129 e_z129 => ?_)
                have b_ := zmin rfl rfl e_z129
                refine lv_iconst (v := 1) hx hb dX13_distance_132 (by decide) ?_
                refine lv_iadd hx hb dX13_distance_133 ?_
                refine lv_topi (fun z133 e_z133 => ?_)
                have b_ : -2147483648 ≤ z94.toInt ∧ z94.toInt ≤ 2147483647 := ⟨zlo _, zhi _⟩
                have b_ : -2147483648 ≤ z133.toInt ∧ z133.toInt ≤ 2147483647 := ⟨zlo _, zhi _⟩
                refine va_mmin hx hb (by rw [hml]; exact hl.1.symm) hown (hG _ zw569) (hG _ zw120) (hG _ zw9) (hG _ zw121) (Nat.le_of_ble_eq_true rfl) (Nat.le_of_ble_eq_true rfl) (Nat.le_of_ble_eq_true rfl) (Nat.le_of_ble_eq_true rfl) dX13_distance_134 ?_
                refine lv_topi (fun z134 e_z134 => ?_)
                have b_ := zmin rfl rfl e_z134
                refine va_iast hx hb hK hP hD hS 2 1 rfl rfl (zin_lit ⟨by omega, by omega⟩) dX13_distance_137 (fun H locs hP hD hS => ?_)
                obtain ⟨f_137, e_f_137⟩ : ∃ z : Nat → Int32, z = upd (a52_ 0) ((u52_ 1) : Int32).toNatClampNeg z134 := ⟨_, rfl⟩
                have hP : va_P (dC, dI) vwCl [(h0, .inr (13, mX13 q0 v0)), ((q0 3), .inl (k3, 400, .inl f3)), ((q0 72), .inl (k47, 13, .inl f_137)), ((q0 19), .inl (k15, 12, .inl f15)), ((q0 2), .inl (k2, 4800, .inl f2))] H := by rw [e_f_137]; exact hP
                have hD : va_D A [(h0, .inr (13, mX13 q0 v0)), ((q0 3), .inl (k3, 400, .inl f3)), ((q0 72), .inl (k47, 13, .inl f_137)), ((q0 19), .inl (k15, 12, .inl f15)), ((q0 2), .inl (k2, 4800, .inl f2))] := by rw [e_f_137]; exact hD
                obtain ⟨z138, e_z138⟩ : ∃ z : Int32, z = (u52_ 1) + Int32.ofInt 1 := ⟨_, rfl⟩
                have b_ := zadd (x := (u52_ 1)) (y := Int32.ofInt 1) rfl (show (Int32.ofInt 1).toInt = 1 from by decide) e_z138 (by omega) (by omega)
                refine lv_iinc (v := z138) (lv' := [(4, .int z138), (3, .int z103), (5, .int z94), (0, .ref h0), (1, .int x1), (2, .int (u27_ 0))]) hx hb dX13_distance_138 hl (k := 5) rfl e_z138.symm (by decide) rfl (fun ls hl => ?_)
                refine lv_goto (tgt := 52) hx hb dX13_distance_141 (by decide) ?_
                have b_ : -2147483648 ≤ z103.toInt ∧ z103.toInt ≤ 2147483647 := ⟨zlo _, zhi _⟩
                have hc : va_P (dC, dI) vwCl [(h0, .inr (13, mX13 q0 v0)), ((q0 3), .inl (k3, 400, .inl f3)), ((q0 72), .inl (k47, 13, .inl f_137)), ((q0 19), .inl (k15, 12, .inl f15)), ((q0 2), .inl (k2, 4800, .inl f2))] H ∧ va_D A [(h0, .inr (13, mX13 q0 v0)), ((q0 3), .inl (k3, 400, .inl f3)), ((q0 72), .inl (k47, 13, .inl f_137)), ((q0 19), .inl (k15, 12, .inl f15)), ((q0 2), .inl (k2, 4800, .inl f2))] ∧ va_S A s.heap H locs ∧ lv_has ls 6 [(0, .ref h0), (1, .int x1), (2, .int (u27_ 0)), (3, .int z103), (4, .int z138)] ∧ (1 ≤ z138.toInt ∧ z138.toInt ≤ 13) := ⟨hP, hD, hS, lv_sub hl [3, 4, 5, 1, 0] rfl, ⟨by omega, by omega⟩⟩
                exact hJ52 H locs ls (fun i => ([z103, z138] : List (Int32)).getD i 0) (fun _ => 0) (fun i => ([f_137] : List (Nat → Int32)).getD i (fun _ => 0)) (fun _ => (fun _ => 0)) hc (show (13 - z138.toInt).toNat < (13 - (u52_ 1).toInt).toNat from by omega)
              · skip
                have b_ : -2147483648 ≤ z71.toInt ∧ z71.toInt ≤ 2147483647 := ⟨zlo _, zhi _⟩
                have b_ : -2147483648 ≤ z85.toInt ∧ z85.toInt ≤ 2147483647 := ⟨zlo _, zhi _⟩
                refine lv_icmp_ne (tgt := 93) hx hb dX13_distance_86 (by decide) (fun c_ => ?_) (fun c_ => ?_)
                · skip
                  have b_ := zT_ne rfl rfl c_
                  refine lv_iconst (v := 1) hx hb dX13_distance_93 (by decide) ?_
                  have hc : va_P (dC, dI) vwCl [(h0, .inr (13, mX13 q0 v0)), ((q0 3), .inl (k3, 400, .inl f3)), ((q0 72), .inl (k47, 13, .inl (a52_ 0))), ((q0 19), .inl (k15, 12, .inl f15)), ((q0 2), .inl (k2, 4800, .inl f2))] H ∧ va_D A [(h0, .inr (13, mX13 q0 v0)), ((q0 3), .inl (k3, 400, .inl f3)), ((q0 72), .inl (k47, 13, .inl (a52_ 0))), ((q0 19), .inl (k15, 12, .inl f15)), ((q0 2), .inl (k2, 4800, .inl f2))] ∧ va_S A s.heap H locs ∧ lv_has ls 6 [(0, .ref h0), (1, .int x1), (2, .int (u27_ 0)), (3, .int (u52_ 0)), (4, .int (u52_ 1))] ∧ (0 ≤ (1 : Int32).toInt ∧ (1 : Int32).toInt ≤ 1) := ⟨hP, hD, hS, lv_sub hl [0, 1, 2, 3, 4] rfl, ⟨by omega, by omega⟩⟩
                  exact hJ94 H locs ls (fun i => ([1] : List (Int32)).getD i 0) (fun _ => 0) (fun _ => (fun _ => 0)) (fun _ => (fun _ => 0)) hc
                · skip
                  have b_ := zF_ne rfl rfl c_
                  refine lv_iconst (v := 0) hx hb dX13_distance_89 (by decide) ?_
                  refine lv_goto (tgt := 94) hx hb dX13_distance_90 (by decide) ?_
                  have hc : va_P (dC, dI) vwCl [(h0, .inr (13, mX13 q0 v0)), ((q0 3), .inl (k3, 400, .inl f3)), ((q0 72), .inl (k47, 13, .inl (a52_ 0))), ((q0 19), .inl (k15, 12, .inl f15)), ((q0 2), .inl (k2, 4800, .inl f2))] H ∧ va_D A [(h0, .inr (13, mX13 q0 v0)), ((q0 3), .inl (k3, 400, .inl f3)), ((q0 72), .inl (k47, 13, .inl (a52_ 0))), ((q0 19), .inl (k15, 12, .inl f15)), ((q0 2), .inl (k2, 4800, .inl f2))] ∧ va_S A s.heap H locs ∧ lv_has ls 6 [(0, .ref h0), (1, .int x1), (2, .int (u27_ 0)), (3, .int (u52_ 0)), (4, .int (u52_ 1))] ∧ (0 ≤ (0 : Int32).toInt ∧ (0 : Int32).toInt ≤ 1) := ⟨hP, hD, hS, lv_sub hl [0, 1, 2, 3, 4] rfl, ⟨by omega, by omega⟩⟩
                  exact hJ94 H locs ls (fun i => ([0] : List (Int32)).getD i 0) (fun _ => 0) (fun _ => (fun _ => 0)) (fun _ => (fun _ => 0)) hc
          · skip
            have b_ : -2147483648 ≤ z40.toInt ∧ z40.toInt ≤ 2147483647 := ⟨zlo _, zhi _⟩
            have hc : va_P (dC, dI) vwCl [(h0, .inr (13, mX13 q0 v0)), ((q0 3), .inl (k3, 400, .inl f3)), ((q0 72), .inl (k47, 13, .inl f_48)), ((q0 19), .inl (k15, 12, .inl f15)), ((q0 2), .inl (k2, 4800, .inl f2))] H ∧ va_D A [(h0, .inr (13, mX13 q0 v0)), ((q0 3), .inl (k3, 400, .inl f3)), ((q0 72), .inl (k47, 13, .inl f_48)), ((q0 19), .inl (k15, 12, .inl f15)), ((q0 2), .inl (k2, 4800, .inl f2))] ∧ va_S A s.heap H locs ∧ lv_has ls 6 [(0, .ref h0), (1, .int x1), (2, .int (u27_ 0)), (3, .int z40), (4, .int 1)] ∧ (1 ≤ (1 : Int32).toInt ∧ (1 : Int32).toInt ≤ 13) := ⟨hP, hD, hS, lv_sub hl [2, 3, 4, 1, 0] rfl, ⟨by omega, by omega⟩⟩
            exact hJ52 H locs ls (fun i => ([z40, 1] : List (Int32)).getD i 0) (fun _ => 0) (fun i => ([f_48] : List (Nat → Int32)).getD i (fun _ => 0)) (fun _ => (fun _ => 0)) hc
      · skip
        have hc : va_P (dC, dI) vwCl [(h0, .inr (13, mX13 q0 v0)), ((q0 3), .inl (k3, 400, .inl f3)), ((q0 72), .inl (k47, 13, .inl (a2_ 0))), ((q0 19), .inl (k15, 12, .inl f15)), ((q0 2), .inl (k2, 4800, .inl f2))] H ∧ va_D A [(h0, .inr (13, mX13 q0 v0)), ((q0 3), .inl (k3, 400, .inl f3)), ((q0 72), .inl (k47, 13, .inl (a2_ 0))), ((q0 19), .inl (k15, 12, .inl f15)), ((q0 2), .inl (k2, 4800, .inl f2))] ∧ va_S A s.heap H locs ∧ lv_has ls 6 [(0, .ref h0), (1, .int x1), (2, .int 1)] ∧ (1 ≤ (1 : Int32).toInt ∧ (1 : Int32).toInt ≤ 13) := ⟨hP, hD, hS, lv_sub hl [1, 2, 0] rfl, ⟨by omega, by omega⟩⟩
        exact hJ27 H locs ls (fun i => ([1] : List (Int32)).getD i 0) (fun _ => 0) (fun i => ([(a2_ 0)] : List (Nat → Int32)).getD i (fun _ => 0)) (fun _ => (fun _ => 0)) hc
    · skip
      have b_ := zF_gt rfl rfl c_
      refine lv_aload_n hx hb dX13_distance_12 rfl (lv_at hl 0 rfl) ?_
      refine va_get (D := (dC, dI)) (ci := 13) (v := .ref (q0 72)) (C := RX13) (T := TX13) (N := 75) hx hb hG zuX13 hown hK hP 0 rfl rfl 72 (by decide) (hG _ zw733) (fun _ h9 => h9) rfl dX13_distance_13 ?_
      refine lv_iload_n hx hb dX13_distance_16 rfl (lv_at hl 2 rfl) ?_
      refine lv_iload_n hx hb dX13_distance_17 rfl (lv_at hl 2 rfl) ?_
      refine va_iast hx hb hK hP hD hS 2 1 rfl rfl (zin_lit ⟨by omega, by omega⟩) dX13_distance_18 (fun H locs hP hD hS => ?_)
      obtain ⟨f_18, e_f_18⟩ : ∃ z : Nat → Int32, z = upd (a2_ 0) ((u2_ 0) : Int32).toNatClampNeg (u2_ 0) := ⟨_, rfl⟩
      have hP : va_P (dC, dI) vwCl [(h0, .inr (13, mX13 q0 v0)), ((q0 3), .inl (k3, 400, .inl f3)), ((q0 72), .inl (k47, 13, .inl f_18)), ((q0 19), .inl (k15, 12, .inl f15)), ((q0 2), .inl (k2, 4800, .inl f2))] H := by rw [e_f_18]; exact hP
      have hD : va_D A [(h0, .inr (13, mX13 q0 v0)), ((q0 3), .inl (k3, 400, .inl f3)), ((q0 72), .inl (k47, 13, .inl f_18)), ((q0 19), .inl (k15, 12, .inl f15)), ((q0 2), .inl (k2, 4800, .inl f2))] := by rw [e_f_18]; exact hD
      obtain ⟨z19, e_z19⟩ : ∃ z : Int32, z = (u2_ 0) + Int32.ofInt 1 := ⟨_, rfl⟩
      have b_ := zadd (x := (u2_ 0)) (y := Int32.ofInt 1) rfl (show (Int32.ofInt 1).toInt = 1 from by decide) e_z19 (by omega) (by omega)
      refine lv_iinc (v := z19) (lv' := [(2, .int z19), (0, .ref h0), (1, .int x1)]) hx hb dX13_distance_19 hl (k := 2) rfl e_z19.symm (by decide) rfl (fun ls hl => ?_)
      refine lv_goto (tgt := 2) hx hb dX13_distance_22 (by decide) ?_
      have hc : va_P (dC, dI) vwCl [(h0, .inr (13, mX13 q0 v0)), ((q0 3), .inl (k3, 400, .inl f3)), ((q0 72), .inl (k47, 13, .inl f_18)), ((q0 19), .inl (k15, 12, .inl f15)), ((q0 2), .inl (k2, 4800, .inl f2))] H ∧ va_D A [(h0, .inr (13, mX13 q0 v0)), ((q0 3), .inl (k3, 400, .inl f3)), ((q0 72), .inl (k47, 13, .inl f_18)), ((q0 19), .inl (k15, 12, .inl f15)), ((q0 2), .inl (k2, 4800, .inl f2))] ∧ va_S A s.heap H locs ∧ lv_has ls 6 [(0, .ref h0), (1, .int x1), (2, .int z19)] ∧ (0 ≤ z19.toInt ∧ z19.toInt ≤ 13) := ⟨hP, hD, hS, lv_sub hl [1, 2, 0] rfl, ⟨by omega, by omega⟩⟩
      exact hJ2 H locs ls (fun i => ([z19] : List (Int32)).getD i 0) (fun _ => 0) (fun i => ([f_18] : List (Nat → Int32)).getD i (fun _ => 0)) (fun _ => (fun _ => 0)) hc (show (13 - z19.toInt).toNat < (13 - (u2_ 0).toInt).toNat from by omega)
  · skip
    have hc : va_P (dC, dI) vwCl [(h0, .inr (13, mX13 q0 v0)), ((q0 3), .inl (k3, 400, .inl f3)), ((q0 72), .inl (k47, 13, .inl f47)), ((q0 19), .inl (k15, 12, .inl f15)), ((q0 2), .inl (k2, 4800, .inl f2))] s.heap ∧ va_D A [(h0, .inr (13, mX13 q0 v0)), ((q0 3), .inl (k3, 400, .inl f3)), ((q0 72), .inl (k47, 13, .inl f47)), ((q0 19), .inl (k15, 12, .inl f15)), ((q0 2), .inl (k2, 4800, .inl f2))] ∧ va_S A s.heap s.heap [] ∧ lv_has ls 6 [(0, .ref h0), (1, .int x1), (2, .int 0)] ∧ (0 ≤ (0 : Int32).toInt ∧ (0 : Int32).toInt ≤ 13) := ⟨hP, hD, hS, lv_sub hl [1, 2, 0] rfl, ⟨by omega, by omega⟩⟩
    exact hJ2 s.heap [] ls (fun i => ([0] : List (Int32)).getD i 0) (fun _ => 0) (fun i => ([f47] : List (Nat → Int32)).getD i (fun _ => 0)) (fun _ => (fun _ => 0)) hc
set_option maxHeartbeats 8000000 in
set_option maxRecDepth 100000 in
theorem sX13_hold_0 (l : Launch) (dC : Nat → ClassId) (dI : Nat → Nat → Nat) (adK adV : Nat → Nat) (h0 : Nat) (q0 : Nat → Nat) (k48 : ClassId) (k5 : ClassId) (k20 : ClassId) (k10 : ClassId) (k4 : ClassId) (k11 : ClassId) (sz : Nat) (v0 : Nat → Int32) (f48 : Nat → Int32) (f5 : Nat → Int32) (f20 : Nat → Int32) (f10 : Nat → Int32) (f4 : Nat → Int32) (f11 : Nat → Int32) (hv0 : zR rg_Model v0) (hf10 : zA 0 512 f10) (hf4 : zA 0 400 f4) (hf11 : zA 0 512 f11) : Met l yX13_hold (zw yX13_hold cX13_hold 3 none) { frames := 1, cells := 0, slots := 0, locals := 23 } (zPc dC dI adK adV [.ref h0] sz [(h0, .inr (13, mX13 q0 v0)), ((q0 73), .inl (k48, 400, .inl f48)), ((q0 6), .inl (k5, 120, .inl f5)), ((q0 28), .inl (k20, 400, .inl f20)), ((q0 11), .inl (k10, 120, .inl f10)), ((q0 5), .inl (k4, 122880, .inl f4)), ((q0 12), .inl (k11, 120, .inl f11))] [(k48, .int), (k5, .boolean), (k20, .int), (k10, .int), (k4, .short), (k11, .int)]) (va_Qv (fun (u : Nat → Int32) => True) (fun (u : Nat → Int32) (t : State) => ∃ (ww : Nat → Int64) (aa : Nat → Nat → Int32) (bb : Nat → Nat → Int64), va_P (dC, dI) vwCl [(h0, .inr (13, mX13 q0 v0)), ((q0 73), .inl (k48, 400, .inl (aa 0))), ((q0 6), .inl (k5, 120, .inl f5)), ((q0 28), .inl (k20, 400, .inl (aa 1))), ((q0 11), .inl (k10, 120, .inl f10)), ((q0 5), .inl (k4, 122880, .inl f4)), ((q0 12), .inl (k11, 120, .inl f11))] t.heap ∧ va_K (dC, dI) vwCl [(k48, .int), (k5, .boolean), (k20, .int), (k10, .int), (k4, .short), (k11, .int)] t ∧ va_D (va_A [(h0, .inr (13, mX13 q0 v0)), ((q0 73), .inl (k48, 400, .inl f48)), ((q0 6), .inl (k5, 120, .inl f5)), ((q0 28), .inl (k20, 400, .inl f20)), ((q0 11), .inl (k10, 120, .inl f10)), ((q0 5), .inl (k4, 122880, .inl f4)), ((q0 12), .inl (k11, 120, .inl f11))] sz) [(h0, .inr (13, mX13 q0 v0)), ((q0 73), .inl (k48, 400, .inl (aa 0))), ((q0 6), .inl (k5, 120, .inl f5)), ((q0 28), .inl (k20, 400, .inl (aa 1))), ((q0 11), .inl (k10, 120, .inl f10)), ((q0 5), .inl (k4, 122880, .inl f4)), ((q0 12), .inl (k11, 120, .inl f11))]) (va_A [(h0, .inr (13, mX13 q0 v0)), ((q0 73), .inl (k48, 400, .inl f48)), ((q0 6), .inl (k5, 120, .inl f5)), ((q0 28), .inl (k20, 400, .inl f20)), ((q0 11), .inl (k10, 120, .inl f10)), ((q0 5), .inl (k4, 122880, .inl f4)), ((q0 12), .inl (k11, 120, .inl f11))] sz)) 0 0 (va_A [(h0, .inr (13, mX13 q0 v0)), ((q0 73), .inl (k48, 400, .inl f48)), ((q0 6), .inl (k5, 120, .inl f5)), ((q0 28), .inl (k20, 400, .inl f20)), ((q0 11), .inl (k10, 120, .inl f10)), ((q0 5), .inl (k4, 122880, .inl f4)), ((q0 12), .inl (k11, 120, .inl f11))] sz) := by
  refine Met.ofW (cc := cX13_hold) (maxL := 3) (ret := none) (by decide) rfl ?_
  intro p e s m args below meth c s₁ B hml hv
  obtain ⟨rfl, hsz, hP, hK, hD0, hE, hZ⟩ := hv
  have hx := B.exec
  have hb := B.bytes
  have hr := B.returns
  have hG : ∀ w ∈ zG, w.before _ s = true := fun w h => atoms_spec (ws := (zw yX13_hold cX13_hold 3 none)) B.pre w (List.mem_cons_of_mem _ h)
  have hown : s.vm.findClass RX13 = some m.cls := findClass_of_methodNamed B.named
  have hlocks := B.notSynchronized
  subst hsz
  have hD := hD0.self (sz := s.heap.size)
  generalize hAe : va_A [(h0, .inr (13, mX13 q0 v0)), ((q0 73), .inl (k48, 400, .inl f48)), ((q0 6), .inl (k5, 120, .inl f5)), ((q0 28), .inl (k20, 400, .inl f20)), ((q0 11), .inl (k10, 120, .inl f10)), ((q0 5), .inl (k4, 122880, .inl f4)), ((q0 12), .inl (k11, 120, .inl f11))] s.heap.size = A at hD hZ ⊢
  have hA : ∀ q : Nat, s.heap.size ≤ q → A q := fun q h => by rw [← hAe]; exact Or.inr h
  have hS : va_S A s.heap s.heap [] := va_S.rf
  have hl := lv_entry ([.ref h0]) (n := 3) (Nat.le_of_ble_eq_true rfl)
  rw [lg_entry_eq]
  generalize (lg_sl ([.ref h0]) ++ List.replicate (3 - (lg_sl ([.ref h0])).length) Slot.unset).toArray = ls at hl ⊢
  have hl : lv_has ls 3 [(0, .ref h0)] := hl
  have b_ := zk_0
  have b_ := zk_1
  refine lv_iconst (v := 0) hx hb dX13_hold_0 (by decide) ?_
  refine lv_istore_n (lv' := [(1, .int 0), (0, .ref h0)]) hx hb dX13_hold_1 rfl hl (by decide) rfl (fun ls hl => ?_)
  refine zcutL (fun u2_ => (400 - (u2_ 0).toInt).toNat) (fun H locs ls u2_ w2_ a2_ b2_ => va_P (dC, dI) vwCl [(h0, .inr (13, mX13 q0 v0)), ((q0 73), .inl (k48, 400, .inl (a2_ 0))), ((q0 6), .inl (k5, 120, .inl f5)), ((q0 28), .inl (k20, 400, .inl f20)), ((q0 11), .inl (k10, 120, .inl f10)), ((q0 5), .inl (k4, 122880, .inl f4)), ((q0 12), .inl (k11, 120, .inl f11))] H ∧ va_D A [(h0, .inr (13, mX13 q0 v0)), ((q0 73), .inl (k48, 400, .inl (a2_ 0))), ((q0 6), .inl (k5, 120, .inl f5)), ((q0 28), .inl (k20, 400, .inl f20)), ((q0 11), .inl (k10, 120, .inl f10)), ((q0 5), .inl (k4, 122880, .inl f4)), ((q0 12), .inl (k11, 120, .inl f11))] ∧ va_S A s.heap H locs ∧ lv_has ls 3 [(0, .ref h0), (1, .int (u2_ 0))] ∧ (0 ≤ (u2_ 0).toInt ∧ (u2_ 0).toInt ≤ 400)) (fun ls u2_ w2_ => F0 m 2 ls []) 0 0 ?_ (fun hJ2 => ?_)
  · skip
    intro H locs ls u2_ w2_ a2_ b2_ hc hJ2
    obtain ⟨hP, hD, hS, hl, b_⟩ := hc
    refine lv_iload_n hx hb dX13_hold_2 rfl (lv_at hl 1 rfl) ?_
    refine lv_aload_n hx hb dX13_hold_3 rfl (lv_at hl 0 rfl) ?_
    have b_ : 0 ≤ (v0 4).toInt ∧ (v0 4).toInt ≤ 400 := hv0 4
    refine va_get (D := (dC, dI)) (ci := 13) (v := .int (v0 4)) (C := RX13) (T := TX13) (N := 75) hx hb hG zuX13 hown hK hP 0 rfl rfl 4 (by decide) (hG _ zw551) (fun _ h9 => h9) rfl dX13_hold_4 ?_
    refine lv_icmp_ge (tgt := 23) hx hb dX13_hold_7 (by decide) (fun c_ => ?_) (fun c_ => ?_)
    · skip
      have b_ := zT_ge rfl rfl c_
      refine lv_iconst (v := 0) hx hb dX13_hold_23 (by decide) ?_
      refine lv_istore_n (lv' := [(1, .int 0), (0, .ref h0)]) hx hb dX13_hold_24 rfl hl (by decide) rfl (fun ls hl => ?_)
      refine zcutL (fun u25_ => (120 - (u25_ 0).toInt).toNat) (fun H locs ls u25_ w25_ a25_ b25_ => va_P (dC, dI) vwCl [(h0, .inr (13, mX13 q0 v0)), ((q0 73), .inl (k48, 400, .inl (a25_ 1))), ((q0 6), .inl (k5, 120, .inl f5)), ((q0 28), .inl (k20, 400, .inl (a25_ 0))), ((q0 11), .inl (k10, 120, .inl f10)), ((q0 5), .inl (k4, 122880, .inl f4)), ((q0 12), .inl (k11, 120, .inl f11))] H ∧ va_D A [(h0, .inr (13, mX13 q0 v0)), ((q0 73), .inl (k48, 400, .inl (a25_ 1))), ((q0 6), .inl (k5, 120, .inl f5)), ((q0 28), .inl (k20, 400, .inl (a25_ 0))), ((q0 11), .inl (k10, 120, .inl f10)), ((q0 5), .inl (k4, 122880, .inl f4)), ((q0 12), .inl (k11, 120, .inl f11))] ∧ va_S A s.heap H locs ∧ lv_has ls 3 [(0, .ref h0), (1, .int (u25_ 0))] ∧ (0 ≤ (u25_ 0).toInt ∧ (u25_ 0).toInt ≤ 120)) (fun ls u25_ w25_ => F0 m 25 ls []) 0 0 ?_ (fun hJ25 => ?_)
      · skip
        intro H locs ls u25_ w25_ a25_ b25_ hc hJ25
        obtain ⟨hP, hD, hS, hl, b_⟩ := hc
        refine lv_iload_n hx hb dX13_hold_25 rfl (lv_at hl 1 rfl) ?_
        refine lv_aload_n hx hb dX13_hold_26 rfl (lv_at hl 0 rfl) ?_
        have b_ : 0 ≤ (v0 13).toInt ∧ (v0 13).toInt ≤ 120 := hv0 13
        refine va_get (D := (dC, dI)) (ci := 13) (v := .int (v0 13)) (C := RX13) (T := TX13) (N := 75) hx hb hG zuX13 hown hK hP 0 rfl rfl 13 (by decide) (hG _ zw565) (fun _ h9 => h9) rfl dX13_hold_27 ?_
        refine lv_icmp_ge (tgt := 99) hx hb dX13_hold_30 (by decide) (fun c_ => ?_) (fun c_ => ?_)
        · skip
          have b_ := zT_ge rfl rfl c_
          refine W.widen (k := 0) (n := 0) (by decide) (by decide) ?_
          have hpost : True := trivial
          have hP9 : va_P (dC, dI) vwCl [(h0, .inr (13, mX13 q0 v0)), ((q0 73), .inl (k48, 400, .inl (a25_ 1))), ((q0 6), .inl (k5, 120, .inl f5)), ((q0 28), .inl (k20, 400, .inl (a25_ 0))), ((q0 11), .inl (k10, 120, .inl f10)), ((q0 5), .inl (k4, 122880, .inl f4)), ((q0 12), .inl (k11, 120, .inl f11))] H := hP
          have hD9 : va_D A [(h0, .inr (13, mX13 q0 v0)), ((q0 73), .inl (k48, 400, .inl (a25_ 1))), ((q0 6), .inl (k5, 120, .inl f5)), ((q0 28), .inl (k20, 400, .inl (a25_ 0))), ((q0 11), .inl (k10, 120, .inl f10)), ((q0 5), .inl (k4, 122880, .inl f4)), ((q0 12), .inl (k11, 120, .inl f11))] := hD
          exact W.vret hx hb hr (fun t ht hW => ⟨⟨(fun _ => 0), rfl, hpost, (fun _ => 0), (fun i => ([(a25_ 1), (a25_ 0)] : List (Nat → Int32)).getD i (fun _ => 0)), (fun _ => (fun _ => 0)), by rw [ht]; exact hP9, va_K.moved hW.alike hK, hD9⟩, hS.F ht⟩) hS.2.2 dX13_hold_99
        · skip
          have b_ := zF_ge rfl rfl c_
          refine lv_aload_n hx hb dX13_hold_33 rfl (lv_at hl 0 rfl) ?_
          refine va_get (D := (dC, dI)) (ci := 13) (v := .ref (q0 6)) (C := RX13) (T := TX13) (N := 75) hx hb hG zuX13 hown hK hP 0 rfl rfl 6 (by decide) (hG _ zw590) (fun _ h9 => h9) rfl dX13_hold_34 ?_
          refine lv_iload_n hx hb dX13_hold_37 rfl (lv_at hl 1 rfl) ?_
          refine va_zald hx hb hK hP 2 1 rfl rfl (zin_lit ⟨by omega, by omega⟩) dX13_hold_38 ?_
          refine lv_topi (fun z38 e_z38 => ?_)
          have b_ : -2147483648 ≤ z38.toInt ∧ z38.toInt ≤ 2147483647 := ⟨zlo _, zhi _⟩
          refine lv_if_ne (tgt := 45) hx hb dX13_hold_39 (by decide) (fun c_ => ?_) (fun c_ => ?_)
          · skip
            have b_ := zT_ne rfl zk_0 c_
            refine lv_aload_n hx hb dX13_hold_45 rfl (lv_at hl 0 rfl) ?_
            refine lv_iload_n hx hb dX13_hold_46 rfl (lv_at hl 1 rfl) ?_
            refine lv_aload_n hx hb dX13_hold_47 rfl (lv_at hl 0 rfl) ?_
            refine va_get (D := (dC, dI)) (ci := 13) (v := .ref (q0 28)) (C := RX13) (T := TX13) (N := 75) hx hb hG zuX13 hown hK hP 0 rfl rfl 28 (by decide) (hG _ zw574) (fun _ h9 => h9) rfl dX13_hold_48 ?_
            have hPc := hP.sub (ws' := [(h0, .inr (13, mX13 q0 v0)), ((q0 28), .inl (k20, 400, .inl (a25_ 0))), ((q0 11), .inl (k10, 120, .inl f10)), ((q0 5), .inl (k4, 122880, .inl f4)), ((q0 12), .inl (k11, 120, .inl f11))]) [0, 3, 4, 5, 6] rfl
            have hDc := hD.sub (ws' := [(h0, .inr (13, mX13 q0 v0)), ((q0 28), .inl (k20, 400, .inl (a25_ 0))), ((q0 11), .inl (k10, 120, .inl f10)), ((q0 5), .inl (k4, 122880, .inl f4)), ((q0 12), .inl (k11, 120, .inl f11))]) [0, 3, 4, 5, 6] (by decide) rfl
            have hKc := hK.sub (tys' := [(k20, .int), (k10, .int), (k4, .short), (k11, .int)]) [2, 3, 4, 5] rfl
            have hFc := va_free (wc := [(h0, .inr (13, mX13 q0 v0)), ((q0 28), .inl (k20, 400, .inl (a25_ 0))), ((q0 11), .inl (k10, 120, .inl f10)), ((q0 5), .inl (k4, 122880, .inl f4)), ((q0 12), .inl (k11, 120, .inl f11))]) hD hS hA [0, 3, 4, 5, 6] rfl
            refine va_callv (va_runV (As := [.int (u25_ 0), .ref (q0 28)]) (rest := []) ⟨hx, hb, hml, hown, hG⟩ (sX13_tally_0 l dC dI adK adV h0 q0 (q0 28) k20 k10 k4 k11 H.size v0 (a25_ 0) f10 f4 f11 (u25_ 0) hv0 hf10 hf4 hf11 ⟨show (0 : Int) ≤ ((u25_ 0) : Int32).toInt from by omega, show ((u25_ 0) : Int32).toInt ≤ (119 : Int) from by omega⟩) (cwV 2 hG (zgV zw594 zw595 zw596 zw524 zw597) rfl rfl rfl (by decide +kernel) ⟨Nat.le_of_ble_eq_true rfl, Nat.le_of_ble_eq_true rfl⟩) ⟨zPc_blind, va_recv hKc hPc (ci := 13) (q0 := 0) rfl rfl, zPc_pre hPc hKc hDc hE hS hFc hZ⟩ rfl rfl hl.1 rfl (lv_room (Nat.le_of_ble_eq_true rfl)) dX13_hold_51 ⟨Nat.le_of_ble_eq_true rfl, Nat.le_of_ble_eq_true rfl⟩) hS (fun q _ h => hFc q h) hFc (fun u51_ t H1 locs ht hvm hw hB hz1 hk1 hS => ?_)
            obtain ⟨w51_, a51_, b51_, hP1, hK1, hD1⟩ := hB
            rw [ht] at hP1
            obtain ⟨hP, hD⟩ := va_join (wr := [((q0 73), .inl (k48, 400, .inl (a25_ 1))), ((q0 6), .inl (k5, 120, .inl f5))]) (w1 := [(h0, .inr (13, mX13 q0 v0)), ((q0 28), .inl (k20, 400, .inl (a51_ 0))), ((q0 11), .inl (k10, 120, .inl f10)), ((q0 5), .inl (k4, 122880, .inl f4)), ((q0 12), .inl (k11, 120, .inl f11))]) hP hD [0, 3, 4, 5, 6] [1, 2] rfl rfl (by decide) (by decide) hk1 hFc hP1 hD1
            have hP : va_P (dC, dI) vwCl [(h0, .inr (13, mX13 q0 v0)), ((q0 73), .inl (k48, 400, .inl (a25_ 1))), ((q0 6), .inl (k5, 120, .inl f5)), ((q0 28), .inl (k20, 400, .inl (a51_ 0))), ((q0 11), .inl (k10, 120, .inl f10)), ((q0 5), .inl (k4, 122880, .inl f4)), ((q0 12), .inl (k11, 120, .inl f11))] H1 := hP.sub [2, 0, 1, 3, 4, 5, 6] rfl
            have hD : va_D A [(h0, .inr (13, mX13 q0 v0)), ((q0 73), .inl (k48, 400, .inl (a25_ 1))), ((q0 6), .inl (k5, 120, .inl f5)), ((q0 28), .inl (k20, 400, .inl (a51_ 0))), ((q0 11), .inl (k10, 120, .inl f10)), ((q0 5), .inl (k4, 122880, .inl f4)), ((q0 12), .inl (k11, 120, .inl f11))] := hD.sub [2, 0, 1, 3, 4, 5, 6] (by decide) rfl
            generalize H1 = H at hP hS ⊢
            clear hz1
            refine lv_iconst (v := 0) hx hb dX13_hold_54 (by decide) ?_
            refine lv_istore_n (lv' := [(2, .int 0), (0, .ref h0), (1, .int (u25_ 0))]) hx hb dX13_hold_55 rfl hl (by decide) rfl (fun ls hl => ?_)
            refine zcutL (fun u56_ => (400 - (u56_ 0).toInt).toNat) (fun H locs ls u56_ w56_ a56_ b56_ => va_P (dC, dI) vwCl [(h0, .inr (13, mX13 q0 v0)), ((q0 73), .inl (k48, 400, .inl (a56_ 0))), ((q0 6), .inl (k5, 120, .inl f5)), ((q0 28), .inl (k20, 400, .inl (a51_ 0))), ((q0 11), .inl (k10, 120, .inl f10)), ((q0 5), .inl (k4, 122880, .inl f4)), ((q0 12), .inl (k11, 120, .inl f11))] H ∧ va_D A [(h0, .inr (13, mX13 q0 v0)), ((q0 73), .inl (k48, 400, .inl (a56_ 0))), ((q0 6), .inl (k5, 120, .inl f5)), ((q0 28), .inl (k20, 400, .inl (a51_ 0))), ((q0 11), .inl (k10, 120, .inl f10)), ((q0 5), .inl (k4, 122880, .inl f4)), ((q0 12), .inl (k11, 120, .inl f11))] ∧ va_S A s.heap H locs ∧ lv_has ls 3 [(0, .ref h0), (1, .int (u25_ 0)), (2, .int (u56_ 0))] ∧ (0 ≤ (u56_ 0).toInt ∧ (u56_ 0).toInt ≤ 400)) (fun ls u56_ w56_ => F0 m 56 ls []) 0 0 ?_ (fun hJ56 => ?_)
            · skip
              intro H locs ls u56_ w56_ a56_ b56_ hc hJ56
              obtain ⟨hP, hD, hS, hl, b_⟩ := hc
              refine lv_iload_n hx hb dX13_hold_56 rfl (lv_at hl 2 rfl) ?_
              refine lv_aload_n hx hb dX13_hold_57 rfl (lv_at hl 0 rfl) ?_
              refine va_get (D := (dC, dI)) (ci := 13) (v := .int (v0 4)) (C := RX13) (T := TX13) (N := 75) hx hb hG zuX13 hown hK hP 0 rfl rfl 4 (by decide) (hG _ zw551) (fun _ h9 => h9) rfl dX13_hold_58 ?_
              refine lv_icmp_ge (tgt := 93) hx hb dX13_hold_61 (by decide) (fun c_ => ?_) (fun c_ => ?_)
              · skip
                have b_ := zT_ge rfl rfl c_
                obtain ⟨z93, e_z93⟩ : ∃ z : Int32, z = (u25_ 0) + Int32.ofInt 1 := ⟨_, rfl⟩
                have b_ := zadd (x := (u25_ 0)) (y := Int32.ofInt 1) rfl (show (Int32.ofInt 1).toInt = 1 from by decide) e_z93 (by omega) (by omega)
                refine lv_iinc (v := z93) (lv' := [(1, .int z93), (0, .ref h0), (2, .int (u56_ 0))]) hx hb dX13_hold_93 hl (k := 1) rfl e_z93.symm (by decide) rfl (fun ls hl => ?_)
                refine lv_goto (tgt := 25) hx hb dX13_hold_96 (by decide) ?_
                have hc : va_P (dC, dI) vwCl [(h0, .inr (13, mX13 q0 v0)), ((q0 73), .inl (k48, 400, .inl (a56_ 0))), ((q0 6), .inl (k5, 120, .inl f5)), ((q0 28), .inl (k20, 400, .inl (a51_ 0))), ((q0 11), .inl (k10, 120, .inl f10)), ((q0 5), .inl (k4, 122880, .inl f4)), ((q0 12), .inl (k11, 120, .inl f11))] H ∧ va_D A [(h0, .inr (13, mX13 q0 v0)), ((q0 73), .inl (k48, 400, .inl (a56_ 0))), ((q0 6), .inl (k5, 120, .inl f5)), ((q0 28), .inl (k20, 400, .inl (a51_ 0))), ((q0 11), .inl (k10, 120, .inl f10)), ((q0 5), .inl (k4, 122880, .inl f4)), ((q0 12), .inl (k11, 120, .inl f11))] ∧ va_S A s.heap H locs ∧ lv_has ls 3 [(0, .ref h0), (1, .int z93)] ∧ (0 ≤ z93.toInt ∧ z93.toInt ≤ 120) := ⟨hP, hD, hS, lv_sub hl [1, 0] rfl, ⟨by omega, by omega⟩⟩
                exact hJ25 H locs ls (fun i => ([z93] : List (Int32)).getD i 0) (fun _ => 0) (fun i => ([(a51_ 0), (a56_ 0)] : List (Nat → Int32)).getD i (fun _ => 0)) (fun _ => (fun _ => 0)) hc (show (120 - z93.toInt).toNat < (120 - (u25_ 0).toInt).toNat from by omega)
              · skip
                have b_ := zF_ge rfl rfl c_
                refine lv_aload_n hx hb dX13_hold_64 rfl (lv_at hl 0 rfl) ?_
                refine va_get (D := (dC, dI)) (ci := 13) (v := .ref (q0 73)) (C := RX13) (T := TX13) (N := 75) hx hb hG zuX13 hown hK hP 0 rfl rfl 73 (by decide) (hG _ zw634) (fun _ h9 => h9) rfl dX13_hold_65 ?_
                refine lv_iload_n hx hb dX13_hold_68 rfl (lv_at hl 2 rfl) ?_
                refine lv_dup2_11 hx hb dX13_hold_69 rfl rfl ?_
                refine va_iald hx hb hK hP 1 0 rfl rfl (zin_lit ⟨by omega, by omega⟩) dX13_hold_70 ?_
                refine lv_topi (fun z70 e_z70 => ?_)
                refine lv_aload_n hx hb dX13_hold_71 rfl (lv_at hl 0 rfl) ?_
                refine va_get (D := (dC, dI)) (ci := 13) (v := .ref (q0 28)) (C := RX13) (T := TX13) (N := 75) hx hb hG zuX13 hown hK hP 0 rfl rfl 28 (by decide) (hG _ zw574) (fun _ h9 => h9) rfl dX13_hold_72 ?_
                refine lv_iload_n hx hb dX13_hold_75 rfl (lv_at hl 2 rfl) ?_
                refine va_iald hx hb hK hP 3 2 rfl rfl (zin_lit ⟨by omega, by omega⟩) dX13_hold_76 ?_
                refine lv_topi (fun z76 e_z76 => ?_)
                refine zcutW (fun H locs ls u85_ w85_ a85_ b85_ => va_P (dC, dI) vwCl [(h0, .inr (13, mX13 q0 v0)), ((q0 73), .inl (k48, 400, .inl (a56_ 0))), ((q0 6), .inl (k5, 120, .inl f5)), ((q0 28), .inl (k20, 400, .inl (a51_ 0))), ((q0 11), .inl (k10, 120, .inl f10)), ((q0 5), .inl (k4, 122880, .inl f4)), ((q0 12), .inl (k11, 120, .inl f11))] H ∧ va_D A [(h0, .inr (13, mX13 q0 v0)), ((q0 73), .inl (k48, 400, .inl (a56_ 0))), ((q0 6), .inl (k5, 120, .inl f5)), ((q0 28), .inl (k20, 400, .inl (a51_ 0))), ((q0 11), .inl (k10, 120, .inl f10)), ((q0 5), .inl (k4, 122880, .inl f4)), ((q0 12), .inl (k11, 120, .inl f11))] ∧ va_S A s.heap H locs ∧ lv_has ls 3 [(0, .ref h0), (1, .int (u25_ 0)), (2, .int (u56_ 0))] ∧ (0 ≤ (u85_ 0).toInt ∧ (u85_ 0).toInt ≤ 1)) (fun ls u85_ w85_ => F0 m 85 ls [.int (u85_ 0), .int z70, .int (u56_ 0), .ref (q0 73)]) 0 0 ?_ (fun hJ85 => ?_)
                · skip
                  intro H locs ls u85_ w85_ a85_ b85_ hc
                  obtain ⟨hP, hD, hS, hl, b_⟩ := hc
                  have b_ : -2147483648 ≤ z70.toInt ∧ z70.toInt ≤ 2147483647 := ⟨zlo _, zhi _⟩
                  refine lv_iadd hx hb dX13_hold_85 ?_
                  refine lv_topi (fun z85 e_z85 => ?_)
                  refine va_iast hx hb hK hP hD hS 1 0 rfl rfl (zin_lit ⟨by omega, by omega⟩) dX13_hold_86 (fun H locs hP hD hS => ?_)
                  obtain ⟨f_86, e_f_86⟩ : ∃ z : Nat → Int32, z = upd (a56_ 0) ((u56_ 0) : Int32).toNatClampNeg z85 := ⟨_, rfl⟩
                  have hP : va_P (dC, dI) vwCl [(h0, .inr (13, mX13 q0 v0)), ((q0 73), .inl (k48, 400, .inl f_86)), ((q0 6), .inl (k5, 120, .inl f5)), ((q0 28), .inl (k20, 400, .inl (a51_ 0))), ((q0 11), .inl (k10, 120, .inl f10)), ((q0 5), .inl (k4, 122880, .inl f4)), ((q0 12), .inl (k11, 120, .inl f11))] H := by rw [e_f_86]; exact hP
                  have hD : va_D A [(h0, .inr (13, mX13 q0 v0)), ((q0 73), .inl (k48, 400, .inl f_86)), ((q0 6), .inl (k5, 120, .inl f5)), ((q0 28), .inl (k20, 400, .inl (a51_ 0))), ((q0 11), .inl (k10, 120, .inl f10)), ((q0 5), .inl (k4, 122880, .inl f4)), ((q0 12), .inl (k11, 120, .inl f11))] := by rw [e_f_86]; exact hD
                  obtain ⟨z87, e_z87⟩ : ∃ z : Int32, z = (u56_ 0) + Int32.ofInt 1 := ⟨_, rfl⟩
                  have b_ := zadd (x := (u56_ 0)) (y := Int32.ofInt 1) rfl (show (Int32.ofInt 1).toInt = 1 from by decide) e_z87 (by omega) (by omega)
                  refine lv_iinc (v := z87) (lv' := [(2, .int z87), (0, .ref h0), (1, .int (u25_ 0))]) hx hb dX13_hold_87 hl (k := 2) rfl e_z87.symm (by decide) rfl (fun ls hl => ?_)
                  refine lv_goto (tgt := 56) hx hb dX13_hold_90 (by decide) ?_
                  have hc : va_P (dC, dI) vwCl [(h0, .inr (13, mX13 q0 v0)), ((q0 73), .inl (k48, 400, .inl f_86)), ((q0 6), .inl (k5, 120, .inl f5)), ((q0 28), .inl (k20, 400, .inl (a51_ 0))), ((q0 11), .inl (k10, 120, .inl f10)), ((q0 5), .inl (k4, 122880, .inl f4)), ((q0 12), .inl (k11, 120, .inl f11))] H ∧ va_D A [(h0, .inr (13, mX13 q0 v0)), ((q0 73), .inl (k48, 400, .inl f_86)), ((q0 6), .inl (k5, 120, .inl f5)), ((q0 28), .inl (k20, 400, .inl (a51_ 0))), ((q0 11), .inl (k10, 120, .inl f10)), ((q0 5), .inl (k4, 122880, .inl f4)), ((q0 12), .inl (k11, 120, .inl f11))] ∧ va_S A s.heap H locs ∧ lv_has ls 3 [(0, .ref h0), (1, .int (u25_ 0)), (2, .int z87)] ∧ (0 ≤ z87.toInt ∧ z87.toInt ≤ 400) := ⟨hP, hD, hS, lv_sub hl [1, 2, 0] rfl, ⟨by omega, by omega⟩⟩
                  exact hJ56 H locs ls (fun i => ([z87] : List (Int32)).getD i 0) (fun _ => 0) (fun i => ([f_86] : List (Nat → Int32)).getD i (fun _ => 0)) (fun _ => (fun _ => 0)) hc (show (400 - z87.toInt).toNat < (400 - (u56_ 0).toInt).toNat from by omega)
                · skip
                  have b_ : -2147483648 ≤ z76.toInt ∧ z76.toInt ≤ 2147483647 := ⟨zlo _, zhi _⟩
                  refine lv_if_le (tgt := 84) hx hb dX13_hold_77 (by decide) (fun c_ => ?_) (fun c_ => ?_)
                  · skip
                    have b_ := zT_le rfl zk_0 c_
                    refine lv_iconst (v := 0) hx hb dX13_hold_84 (by decide) ?_
                    have hc : va_P (dC, dI) vwCl [(h0, .inr (13, mX13 q0 v0)), ((q0 73), .inl (k48, 400, .inl (a56_ 0))), ((q0 6), .inl (k5, 120, .inl f5)), ((q0 28), .inl (k20, 400, .inl (a51_ 0))), ((q0 11), .inl (k10, 120, .inl f10)), ((q0 5), .inl (k4, 122880, .inl f4)), ((q0 12), .inl (k11, 120, .inl f11))] H ∧ va_D A [(h0, .inr (13, mX13 q0 v0)), ((q0 73), .inl (k48, 400, .inl (a56_ 0))), ((q0 6), .inl (k5, 120, .inl f5)), ((q0 28), .inl (k20, 400, .inl (a51_ 0))), ((q0 11), .inl (k10, 120, .inl f10)), ((q0 5), .inl (k4, 122880, .inl f4)), ((q0 12), .inl (k11, 120, .inl f11))] ∧ va_S A s.heap H locs ∧ lv_has ls 3 [(0, .ref h0), (1, .int (u25_ 0)), (2, .int (u56_ 0))] ∧ (0 ≤ (0 : Int32).toInt ∧ (0 : Int32).toInt ≤ 1) := ⟨hP, hD, hS, lv_sub hl [0, 1, 2] rfl, ⟨by omega, by omega⟩⟩
                    exact hJ85 H locs ls (fun i => ([0] : List (Int32)).getD i 0) (fun _ => 0) (fun _ => (fun _ => 0)) (fun _ => (fun _ => 0)) hc
                  · skip
                    have b_ := zF_le rfl zk_0 c_
                    refine lv_iconst (v := 1) hx hb dX13_hold_80 (by decide) ?_
                    refine lv_goto (tgt := 85) hx hb dX13_hold_81 (by decide) ?_
                    have hc : va_P (dC, dI) vwCl [(h0, .inr (13, mX13 q0 v0)), ((q0 73), .inl (k48, 400, .inl (a56_ 0))), ((q0 6), .inl (k5, 120, .inl f5)), ((q0 28), .inl (k20, 400, .inl (a51_ 0))), ((q0 11), .inl (k10, 120, .inl f10)), ((q0 5), .inl (k4, 122880, .inl f4)), ((q0 12), .inl (k11, 120, .inl f11))] H ∧ va_D A [(h0, .inr (13, mX13 q0 v0)), ((q0 73), .inl (k48, 400, .inl (a56_ 0))), ((q0 6), .inl (k5, 120, .inl f5)), ((q0 28), .inl (k20, 400, .inl (a51_ 0))), ((q0 11), .inl (k10, 120, .inl f10)), ((q0 5), .inl (k4, 122880, .inl f4)), ((q0 12), .inl (k11, 120, .inl f11))] ∧ va_S A s.heap H locs ∧ lv_has ls 3 [(0, .ref h0), (1, .int (u25_ 0)), (2, .int (u56_ 0))] ∧ (0 ≤ (1 : Int32).toInt ∧ (1 : Int32).toInt ≤ 1) := ⟨hP, hD, hS, lv_sub hl [0, 1, 2] rfl, ⟨by omega, by omega⟩⟩
                    exact hJ85 H locs ls (fun i => ([1] : List (Int32)).getD i 0) (fun _ => 0) (fun _ => (fun _ => 0)) (fun _ => (fun _ => 0)) hc
            · skip
              have hc : va_P (dC, dI) vwCl [(h0, .inr (13, mX13 q0 v0)), ((q0 73), .inl (k48, 400, .inl (a25_ 1))), ((q0 6), .inl (k5, 120, .inl f5)), ((q0 28), .inl (k20, 400, .inl (a51_ 0))), ((q0 11), .inl (k10, 120, .inl f10)), ((q0 5), .inl (k4, 122880, .inl f4)), ((q0 12), .inl (k11, 120, .inl f11))] H ∧ va_D A [(h0, .inr (13, mX13 q0 v0)), ((q0 73), .inl (k48, 400, .inl (a25_ 1))), ((q0 6), .inl (k5, 120, .inl f5)), ((q0 28), .inl (k20, 400, .inl (a51_ 0))), ((q0 11), .inl (k10, 120, .inl f10)), ((q0 5), .inl (k4, 122880, .inl f4)), ((q0 12), .inl (k11, 120, .inl f11))] ∧ va_S A s.heap H locs ∧ lv_has ls 3 [(0, .ref h0), (1, .int (u25_ 0)), (2, .int 0)] ∧ (0 ≤ (0 : Int32).toInt ∧ (0 : Int32).toInt ≤ 400) := ⟨hP, hD, hS, lv_sub hl [1, 2, 0] rfl, ⟨by omega, by omega⟩⟩
              exact hJ56 H locs ls (fun i => ([0] : List (Int32)).getD i 0) (fun _ => 0) (fun i => ([(a25_ 1)] : List (Nat → Int32)).getD i (fun _ => 0)) (fun _ => (fun _ => 0)) hc
          · skip
            have b_ := zF_ne rfl zk_0 c_
            refine lv_goto (tgt := 93) hx hb dX13_hold_42 (by decide) ?_
            obtain ⟨z93, e_z93⟩ : ∃ z : Int32, z = (u25_ 0) + Int32.ofInt 1 := ⟨_, rfl⟩
            have b_ := zadd (x := (u25_ 0)) (y := Int32.ofInt 1) rfl (show (Int32.ofInt 1).toInt = 1 from by decide) e_z93 (by omega) (by omega)
            refine lv_iinc (v := z93) (lv' := [(1, .int z93), (0, .ref h0)]) hx hb dX13_hold_93 hl (k := 1) rfl e_z93.symm (by decide) rfl (fun ls hl => ?_)
            refine lv_goto (tgt := 25) hx hb dX13_hold_96 (by decide) ?_
            have hc : va_P (dC, dI) vwCl [(h0, .inr (13, mX13 q0 v0)), ((q0 73), .inl (k48, 400, .inl (a25_ 1))), ((q0 6), .inl (k5, 120, .inl f5)), ((q0 28), .inl (k20, 400, .inl (a25_ 0))), ((q0 11), .inl (k10, 120, .inl f10)), ((q0 5), .inl (k4, 122880, .inl f4)), ((q0 12), .inl (k11, 120, .inl f11))] H ∧ va_D A [(h0, .inr (13, mX13 q0 v0)), ((q0 73), .inl (k48, 400, .inl (a25_ 1))), ((q0 6), .inl (k5, 120, .inl f5)), ((q0 28), .inl (k20, 400, .inl (a25_ 0))), ((q0 11), .inl (k10, 120, .inl f10)), ((q0 5), .inl (k4, 122880, .inl f4)), ((q0 12), .inl (k11, 120, .inl f11))] ∧ va_S A s.heap H locs ∧ lv_has ls 3 [(0, .ref h0), (1, .int z93)] ∧ (0 ≤ z93.toInt ∧ z93.toInt ≤ 120) := ⟨hP, hD, hS, lv_sub hl [1, 0] rfl, ⟨by omega, by omega⟩⟩
            exact hJ25 H locs ls (fun i => ([z93] : List (Int32)).getD i 0) (fun _ => 0) (fun i => ([(a25_ 0), (a25_ 1)] : List (Nat → Int32)).getD i (fun _ => 0)) (fun _ => (fun _ => 0)) hc (show (120 - z93.toInt).toNat < (120 - (u25_ 0).toInt).toNat from by omega)
      · skip
        have hc : va_P (dC, dI) vwCl [(h0, .inr (13, mX13 q0 v0)), ((q0 73), .inl (k48, 400, .inl (a2_ 0))), ((q0 6), .inl (k5, 120, .inl f5)), ((q0 28), .inl (k20, 400, .inl f20)), ((q0 11), .inl (k10, 120, .inl f10)), ((q0 5), .inl (k4, 122880, .inl f4)), ((q0 12), .inl (k11, 120, .inl f11))] H ∧ va_D A [(h0, .inr (13, mX13 q0 v0)), ((q0 73), .inl (k48, 400, .inl (a2_ 0))), ((q0 6), .inl (k5, 120, .inl f5)), ((q0 28), .inl (k20, 400, .inl f20)), ((q0 11), .inl (k10, 120, .inl f10)), ((q0 5), .inl (k4, 122880, .inl f4)), ((q0 12), .inl (k11, 120, .inl f11))] ∧ va_S A s.heap H locs ∧ lv_has ls 3 [(0, .ref h0), (1, .int 0)] ∧ (0 ≤ (0 : Int32).toInt ∧ (0 : Int32).toInt ≤ 120) := ⟨hP, hD, hS, lv_sub hl [1, 0] rfl, ⟨by omega, by omega⟩⟩
        exact hJ25 H locs ls (fun i => ([0] : List (Int32)).getD i 0) (fun _ => 0) (fun i => ([f20, (a2_ 0)] : List (Nat → Int32)).getD i (fun _ => 0)) (fun _ => (fun _ => 0)) hc
    · skip
      have b_ := zF_ge rfl rfl c_
      refine lv_aload_n hx hb dX13_hold_10 rfl (lv_at hl 0 rfl) ?_
      refine va_get (D := (dC, dI)) (ci := 13) (v := .ref (q0 73)) (C := RX13) (T := TX13) (N := 75) hx hb hG zuX13 hown hK hP 0 rfl rfl 73 (by decide) (hG _ zw634) (fun _ h9 => h9) rfl dX13_hold_11 ?_
      refine lv_iload_n hx hb dX13_hold_14 rfl (lv_at hl 1 rfl) ?_
      refine lv_iconst (v := 0) hx hb dX13_hold_15 (by decide) ?_
      refine va_iast hx hb hK hP hD hS 1 0 rfl rfl (zin_lit ⟨by omega, by omega⟩) dX13_hold_16 (fun H locs hP hD hS => ?_)
      obtain ⟨f_16, e_f_16⟩ : ∃ z : Nat → Int32, z = upd (a2_ 0) ((u2_ 0) : Int32).toNatClampNeg 0 := ⟨_, rfl⟩
      have hP : va_P (dC, dI) vwCl [(h0, .inr (13, mX13 q0 v0)), ((q0 73), .inl (k48, 400, .inl f_16)), ((q0 6), .inl (k5, 120, .inl f5)), ((q0 28), .inl (k20, 400, .inl f20)), ((q0 11), .inl (k10, 120, .inl f10)), ((q0 5), .inl (k4, 122880, .inl f4)), ((q0 12), .inl (k11, 120, .inl f11))] H := by rw [e_f_16]; exact hP
      have hD : va_D A [(h0, .inr (13, mX13 q0 v0)), ((q0 73), .inl (k48, 400, .inl f_16)), ((q0 6), .inl (k5, 120, .inl f5)), ((q0 28), .inl (k20, 400, .inl f20)), ((q0 11), .inl (k10, 120, .inl f10)), ((q0 5), .inl (k4, 122880, .inl f4)), ((q0 12), .inl (k11, 120, .inl f11))] := by rw [e_f_16]; exact hD
      obtain ⟨z17, e_z17⟩ : ∃ z : Int32, z = (u2_ 0) + Int32.ofInt 1 := ⟨_, rfl⟩
      have b_ := zadd (x := (u2_ 0)) (y := Int32.ofInt 1) rfl (show (Int32.ofInt 1).toInt = 1 from by decide) e_z17 (by omega) (by omega)
      refine lv_iinc (v := z17) (lv' := [(1, .int z17), (0, .ref h0)]) hx hb dX13_hold_17 hl (k := 1) rfl e_z17.symm (by decide) rfl (fun ls hl => ?_)
      refine lv_goto (tgt := 2) hx hb dX13_hold_20 (by decide) ?_
      have hc : va_P (dC, dI) vwCl [(h0, .inr (13, mX13 q0 v0)), ((q0 73), .inl (k48, 400, .inl f_16)), ((q0 6), .inl (k5, 120, .inl f5)), ((q0 28), .inl (k20, 400, .inl f20)), ((q0 11), .inl (k10, 120, .inl f10)), ((q0 5), .inl (k4, 122880, .inl f4)), ((q0 12), .inl (k11, 120, .inl f11))] H ∧ va_D A [(h0, .inr (13, mX13 q0 v0)), ((q0 73), .inl (k48, 400, .inl f_16)), ((q0 6), .inl (k5, 120, .inl f5)), ((q0 28), .inl (k20, 400, .inl f20)), ((q0 11), .inl (k10, 120, .inl f10)), ((q0 5), .inl (k4, 122880, .inl f4)), ((q0 12), .inl (k11, 120, .inl f11))] ∧ va_S A s.heap H locs ∧ lv_has ls 3 [(0, .ref h0), (1, .int z17)] ∧ (0 ≤ z17.toInt ∧ z17.toInt ≤ 400) := ⟨hP, hD, hS, lv_sub hl [1, 0] rfl, ⟨by omega, by omega⟩⟩
      exact hJ2 H locs ls (fun i => ([z17] : List (Int32)).getD i 0) (fun _ => 0) (fun i => ([f_16] : List (Nat → Int32)).getD i (fun _ => 0)) (fun _ => (fun _ => 0)) hc (show (400 - z17.toInt).toNat < (400 - (u2_ 0).toInt).toNat from by omega)
  · skip
    have hc : va_P (dC, dI) vwCl [(h0, .inr (13, mX13 q0 v0)), ((q0 73), .inl (k48, 400, .inl f48)), ((q0 6), .inl (k5, 120, .inl f5)), ((q0 28), .inl (k20, 400, .inl f20)), ((q0 11), .inl (k10, 120, .inl f10)), ((q0 5), .inl (k4, 122880, .inl f4)), ((q0 12), .inl (k11, 120, .inl f11))] s.heap ∧ va_D A [(h0, .inr (13, mX13 q0 v0)), ((q0 73), .inl (k48, 400, .inl f48)), ((q0 6), .inl (k5, 120, .inl f5)), ((q0 28), .inl (k20, 400, .inl f20)), ((q0 11), .inl (k10, 120, .inl f10)), ((q0 5), .inl (k4, 122880, .inl f4)), ((q0 12), .inl (k11, 120, .inl f11))] ∧ va_S A s.heap s.heap [] ∧ lv_has ls 3 [(0, .ref h0), (1, .int 0)] ∧ (0 ≤ (0 : Int32).toInt ∧ (0 : Int32).toInt ≤ 400) := ⟨hP, hD, hS, lv_sub hl [1, 0] rfl, ⟨by omega, by omega⟩⟩
    exact hJ2 s.heap [] ls (fun i => ([0] : List (Int32)).getD i 0) (fun _ => 0) (fun i => ([f48] : List (Nat → Int32)).getD i (fun _ => 0)) (fun _ => (fun _ => 0)) hc
set_option maxHeartbeats 8000000 in
set_option maxRecDepth 100000 in
theorem sX13_nearest_0 (l : Launch) (dC : Nat → ClassId) (dI : Nat → Nat → Nat) (adK adV : Nat → Nat) (h0 : Nat) (q0 : Nat → Nat) (k1 : ClassId) (k15 : ClassId) (k48 : ClassId) (k5 : ClassId) (k20 : ClassId) (k10 : ClassId) (k4 : ClassId) (k11 : ClassId) (k3 : ClassId) (k47 : ClassId) (k2 : ClassId) (k14 : ClassId) (sz : Nat) (v0 : Nat → Int32) (f1 : Nat → Int32) (f15 : Nat → Int32) (f48 : Nat → Int32) (f5 : Nat → Int32) (f20 : Nat → Int32) (f10 : Nat → Int32) (f4 : Nat → Int32) (f11 : Nat → Int32) (f3 : Nat → Int32) (f47 : Nat → Int32) (f2 : Nat → Int32) (f14 : Nat → Int32) (hv0 : zR rg_Model v0) (hf10 : zA 0 512 f10) (hf4 : zA 0 400 f4) (hf11 : zA 0 512 f11) (hf3 : zA 0 12 f3) : Met l yX13_nearest (zw yX13_nearest cX13_nearest 5 (some .int)) { frames := 5, cells := 0, slots := 0, locals := 108 } (zPc dC dI adK adV [.ref h0] sz [(h0, .inr (13, mX13 q0 v0)), ((q0 0), .inl (k1, 600, .inl f1)), ((q0 19), .inl (k15, 12, .inl f15)), ((q0 73), .inl (k48, 400, .inl f48)), ((q0 6), .inl (k5, 120, .inl f5)), ((q0 28), .inl (k20, 400, .inl f20)), ((q0 11), .inl (k10, 120, .inl f10)), ((q0 5), .inl (k4, 122880, .inl f4)), ((q0 12), .inl (k11, 120, .inl f11)), ((q0 3), .inl (k3, 400, .inl f3)), ((q0 72), .inl (k47, 13, .inl f47)), ((q0 2), .inl (k2, 4800, .inl f2)), ((q0 17), .inl (k14, 12, .inl f14))] [(k1, .byte), (k15, .byte), (k48, .int), (k5, .boolean), (k20, .int), (k10, .int), (k4, .short), (k11, .int), (k3, .int), (k47, .int), (k2, .byte), (k14, .byte)]) (va_Qi (fun (r : Int32) (u : Nat → Int32) => ((-2147483648) ≤ r.toInt ∧ r.toInt ≤ 3) ∧ (0 ≤ (u 0).toInt ∧ (u 0).toInt ≤ 0) ∧ ((-1) ≤ (u 1).toInt ∧ (u 1).toInt ≤ 12) ∧ (0 ≤ (u 2).toInt ∧ (u 2).toInt ≤ 12) ∧ (0 ≤ (u 3).toInt ∧ (u 3).toInt ≤ 0)) (fun (u : Nat → Int32) (t : State) => ∃ (ww : Nat → Int64) (aa : Nat → Nat → Int32) (bb : Nat → Nat → Int64), va_P (dC, dI) vwCl [(h0, .inr (13, mX13 q0 (upd (upd (upd (upd v0 1 (u 0)) 18 (u 1)) 20 (u 2)) 21 (u 3)))), ((q0 0), .inl (k1, 600, .inl f1)), ((q0 19), .inl (k15, 12, .inl (aa 0))), ((q0 73), .inl (k48, 400, .inl (aa 1))), ((q0 6), .inl (k5, 120, .inl f5)), ((q0 28), .inl (k20, 400, .inl (aa 2))), ((q0 11), .inl (k10, 120, .inl f10)), ((q0 5), .inl (k4, 122880, .inl f4)), ((q0 12), .inl (k11, 120, .inl f11)), ((q0 3), .inl (k3, 400, .inl f3)), ((q0 72), .inl (k47, 13, .inl (aa 3))), ((q0 2), .inl (k2, 4800, .inl f2)), ((q0 17), .inl (k14, 12, .inl (aa 4)))] t.heap ∧ va_K (dC, dI) vwCl [(k1, .byte), (k15, .byte), (k48, .int), (k5, .boolean), (k20, .int), (k10, .int), (k4, .short), (k11, .int), (k3, .int), (k47, .int), (k2, .byte), (k14, .byte)] t ∧ va_D (va_A [(h0, .inr (13, mX13 q0 v0)), ((q0 0), .inl (k1, 600, .inl f1)), ((q0 19), .inl (k15, 12, .inl f15)), ((q0 73), .inl (k48, 400, .inl f48)), ((q0 6), .inl (k5, 120, .inl f5)), ((q0 28), .inl (k20, 400, .inl f20)), ((q0 11), .inl (k10, 120, .inl f10)), ((q0 5), .inl (k4, 122880, .inl f4)), ((q0 12), .inl (k11, 120, .inl f11)), ((q0 3), .inl (k3, 400, .inl f3)), ((q0 72), .inl (k47, 13, .inl f47)), ((q0 2), .inl (k2, 4800, .inl f2)), ((q0 17), .inl (k14, 12, .inl f14))] sz) [(h0, .inr (13, mX13 q0 (upd (upd (upd (upd v0 1 (u 0)) 18 (u 1)) 20 (u 2)) 21 (u 3)))), ((q0 0), .inl (k1, 600, .inl f1)), ((q0 19), .inl (k15, 12, .inl (aa 0))), ((q0 73), .inl (k48, 400, .inl (aa 1))), ((q0 6), .inl (k5, 120, .inl f5)), ((q0 28), .inl (k20, 400, .inl (aa 2))), ((q0 11), .inl (k10, 120, .inl f10)), ((q0 5), .inl (k4, 122880, .inl f4)), ((q0 12), .inl (k11, 120, .inl f11)), ((q0 3), .inl (k3, 400, .inl f3)), ((q0 72), .inl (k47, 13, .inl (aa 3))), ((q0 2), .inl (k2, 4800, .inl f2)), ((q0 17), .inl (k14, 12, .inl (aa 4)))]) (va_A [(h0, .inr (13, mX13 q0 v0)), ((q0 0), .inl (k1, 600, .inl f1)), ((q0 19), .inl (k15, 12, .inl f15)), ((q0 73), .inl (k48, 400, .inl f48)), ((q0 6), .inl (k5, 120, .inl f5)), ((q0 28), .inl (k20, 400, .inl f20)), ((q0 11), .inl (k10, 120, .inl f10)), ((q0 5), .inl (k4, 122880, .inl f4)), ((q0 12), .inl (k11, 120, .inl f11)), ((q0 3), .inl (k3, 400, .inl f3)), ((q0 72), .inl (k47, 13, .inl f47)), ((q0 2), .inl (k2, 4800, .inl f2)), ((q0 17), .inl (k14, 12, .inl f14))] sz)) 0 0 (va_A [(h0, .inr (13, mX13 q0 v0)), ((q0 0), .inl (k1, 600, .inl f1)), ((q0 19), .inl (k15, 12, .inl f15)), ((q0 73), .inl (k48, 400, .inl f48)), ((q0 6), .inl (k5, 120, .inl f5)), ((q0 28), .inl (k20, 400, .inl f20)), ((q0 11), .inl (k10, 120, .inl f10)), ((q0 5), .inl (k4, 122880, .inl f4)), ((q0 12), .inl (k11, 120, .inl f11)), ((q0 3), .inl (k3, 400, .inl f3)), ((q0 72), .inl (k47, 13, .inl f47)), ((q0 2), .inl (k2, 4800, .inl f2)), ((q0 17), .inl (k14, 12, .inl f14))] sz) := by
  refine Met.ofW (cc := cX13_nearest) (maxL := 5) (ret := (some .int)) (by decide) rfl ?_
  intro p e s m args below meth c s₁ B hml hv
  obtain ⟨rfl, hsz, hP, hK, hD0, hE, hZ⟩ := hv
  have hx := B.exec
  have hb := B.bytes
  have hr := B.returns
  have hG : ∀ w ∈ zG, w.before _ s = true := fun w h => atoms_spec (ws := (zw yX13_nearest cX13_nearest 5 (some .int))) B.pre w (List.mem_cons_of_mem _ h)
  have hown : s.vm.findClass RX13 = some m.cls := findClass_of_methodNamed B.named
  have hlocks := B.notSynchronized
  subst hsz
  have hD := hD0.self (sz := s.heap.size)
  generalize hAe : va_A [(h0, .inr (13, mX13 q0 v0)), ((q0 0), .inl (k1, 600, .inl f1)), ((q0 19), .inl (k15, 12, .inl f15)), ((q0 73), .inl (k48, 400, .inl f48)), ((q0 6), .inl (k5, 120, .inl f5)), ((q0 28), .inl (k20, 400, .inl f20)), ((q0 11), .inl (k10, 120, .inl f10)), ((q0 5), .inl (k4, 122880, .inl f4)), ((q0 12), .inl (k11, 120, .inl f11)), ((q0 3), .inl (k3, 400, .inl f3)), ((q0 72), .inl (k47, 13, .inl f47)), ((q0 2), .inl (k2, 4800, .inl f2)), ((q0 17), .inl (k14, 12, .inl f14))] s.heap.size = A at hD hZ ⊢
  have hA : ∀ q : Nat, s.heap.size ≤ q → A q := fun q h => by rw [← hAe]; exact Or.inr h
  have hS : va_S A s.heap s.heap [] := va_S.rf
  have hl := lv_entry ([.ref h0]) (n := 5) (Nat.le_of_ble_eq_true rfl)
  rw [lg_entry_eq]
  generalize (lg_sl ([.ref h0]) ++ List.replicate (5 - (lg_sl ([.ref h0])).length) Slot.unset).toArray = ls at hl ⊢
  have hl : lv_has ls 5 [(0, .ref h0)] := hl
  have b_ := zk_m1
  have b_ := zk_0
  have b_ := zk_3
  refine lv_aload_n hx hb dX13_nearest_0 rfl (lv_at hl 0 rfl) ?_
  refine lv_iconst (v := 0) hx hb dX13_nearest_1 (by decide) ?_
  refine va_put (D := (dC, dI)) (ci := 13) (v := .int 0) (ty := .int) (C := RX13) (T := TX13) (N := 75) hx hb hG zuX13 tyX13 tyX13_ok nmX13 hown hK hP hD hS 0 rfl rfl 21 (by decide) (hG _ zw518) (fun _ h9 => h9) rfl (by decide +kernel) rfl rfl (Nat.le_of_ble_eq_true rfl) dX13_nearest_2 (fun H locs hP hD hS => ?_)
  have hP : va_P (dC, dI) vwCl [(h0, .inr (13, mX13 q0 (upd v0 21 0))), ((q0 0), .inl (k1, 600, .inl f1)), ((q0 19), .inl (k15, 12, .inl f15)), ((q0 73), .inl (k48, 400, .inl f48)), ((q0 6), .inl (k5, 120, .inl f5)), ((q0 28), .inl (k20, 400, .inl f20)), ((q0 11), .inl (k10, 120, .inl f10)), ((q0 5), .inl (k4, 122880, .inl f4)), ((q0 12), .inl (k11, 120, .inl f11)), ((q0 3), .inl (k3, 400, .inl f3)), ((q0 72), .inl (k47, 13, .inl f47)), ((q0 2), .inl (k2, 4800, .inl f2)), ((q0 17), .inl (k14, 12, .inl f14))] H := hP
  have hD : va_D A [(h0, .inr (13, mX13 q0 (upd v0 21 0))), ((q0 0), .inl (k1, 600, .inl f1)), ((q0 19), .inl (k15, 12, .inl f15)), ((q0 73), .inl (k48, 400, .inl f48)), ((q0 6), .inl (k5, 120, .inl f5)), ((q0 28), .inl (k20, 400, .inl f20)), ((q0 11), .inl (k10, 120, .inl f10)), ((q0 5), .inl (k4, 122880, .inl f4)), ((q0 12), .inl (k11, 120, .inl f11)), ((q0 3), .inl (k3, 400, .inl f3)), ((q0 72), .inl (k47, 13, .inl f47)), ((q0 2), .inl (k2, 4800, .inl f2)), ((q0 17), .inl (k14, 12, .inl f14))] := hD
  refine lv_aload_n hx hb dX13_nearest_5 rfl (lv_at hl 0 rfl) ?_
  have hPc := hP.sub (ws' := [(h0, .inr (13, mX13 q0 (upd v0 21 0))), ((q0 0), .inl (k1, 600, .inl f1)), ((q0 19), .inl (k15, 12, .inl f15))]) [0, 1, 2] rfl
  have hDc := hD.sub (ws' := [(h0, .inr (13, mX13 q0 (upd v0 21 0))), ((q0 0), .inl (k1, 600, .inl f1)), ((q0 19), .inl (k15, 12, .inl f15))]) [0, 1, 2] (by decide) rfl
  have hKc := hK.sub (tys' := [(k1, .byte), (k15, .byte)]) [0, 1] rfl
  have hFc := va_free (wc := [(h0, .inr (13, mX13 q0 (upd v0 21 0))), ((q0 0), .inl (k1, 600, .inl f1)), ((q0 19), .inl (k15, 12, .inl f15))]) hD hS hA [0, 1, 2] rfl
  refine va_calli (va_runV (As := []) (rest := []) ⟨hx, hb, hml, hown, hG⟩ (sX13_takesToken_0 l dC dI adK adV h0 q0 k1 k15 H.size (upd v0 21 0) f1 f15 (zR_updF hv0 21 rfl)) (cwV 0 hG (zgV zw647 zw648 zw649 zw524 zw650) rfl rfl rfl (by decide +kernel) ⟨Nat.le_of_ble_eq_true rfl, Nat.le_of_ble_eq_true rfl⟩) ⟨zPc_blind, va_recv hKc hPc (ci := 13) (q0 := 0) rfl rfl, zPc_pre hPc hKc hDc hE hS hFc hZ⟩ rfl rfl hl.1 rfl (lv_room (Nat.le_of_ble_eq_true rfl)) dX13_nearest_6 ⟨Nat.le_of_ble_eq_true rfl, Nat.le_of_ble_eq_true rfl⟩) hS (fun q _ h => hFc q h) hFc (fun r6_ u6_ t H1 locs ht hvm hw hB hz1 hk1 hS => ?_)
  have hw : (0 ≤ r6_.toInt ∧ r6_.toInt ≤ 1) ∧ (0 ≤ (u6_ 0).toInt ∧ (u6_ 0).toInt ≤ 0) ∧ (0 ≤ (u6_ 1).toInt ∧ (u6_ 1).toInt ≤ 12) := hw
  obtain ⟨b_, b_, b_⟩ := hw
  obtain ⟨w6_, a6_, b6_, hP1, hK1, hD1⟩ := hB
  rw [ht] at hP1
  obtain ⟨hP, hD⟩ := va_join (wr := [((q0 73), .inl (k48, 400, .inl f48)), ((q0 6), .inl (k5, 120, .inl f5)), ((q0 28), .inl (k20, 400, .inl f20)), ((q0 11), .inl (k10, 120, .inl f10)), ((q0 5), .inl (k4, 122880, .inl f4)), ((q0 12), .inl (k11, 120, .inl f11)), ((q0 3), .inl (k3, 400, .inl f3)), ((q0 72), .inl (k47, 13, .inl f47)), ((q0 2), .inl (k2, 4800, .inl f2)), ((q0 17), .inl (k14, 12, .inl f14))]) (w1 := [(h0, .inr (13, mX13 q0 (upd (upd (upd v0 1 (u6_ 0)) 20 (u6_ 1)) 21 0))), ((q0 0), .inl (k1, 600, .inl f1)), ((q0 19), .inl (k15, 12, .inl (a6_ 0)))]) hP hD [0, 1, 2] [3, 4, 5, 6, 7, 8, 9, 10, 11, 12] rfl rfl (by decide) (by decide) hk1 hFc hP1 hD1
  have hP : va_P (dC, dI) vwCl [(h0, .inr (13, mX13 q0 (upd (upd (upd v0 1 (u6_ 0)) 20 (u6_ 1)) 21 0))), ((q0 0), .inl (k1, 600, .inl f1)), ((q0 19), .inl (k15, 12, .inl (a6_ 0))), ((q0 73), .inl (k48, 400, .inl f48)), ((q0 6), .inl (k5, 120, .inl f5)), ((q0 28), .inl (k20, 400, .inl f20)), ((q0 11), .inl (k10, 120, .inl f10)), ((q0 5), .inl (k4, 122880, .inl f4)), ((q0 12), .inl (k11, 120, .inl f11)), ((q0 3), .inl (k3, 400, .inl f3)), ((q0 72), .inl (k47, 13, .inl f47)), ((q0 2), .inl (k2, 4800, .inl f2)), ((q0 17), .inl (k14, 12, .inl f14))] H1 := hP.sub [10, 11, 12, 0, 1, 2, 3, 4, 5, 6, 7, 8, 9] rfl
  have hD : va_D A [(h0, .inr (13, mX13 q0 (upd (upd (upd v0 1 (u6_ 0)) 20 (u6_ 1)) 21 0))), ((q0 0), .inl (k1, 600, .inl f1)), ((q0 19), .inl (k15, 12, .inl (a6_ 0))), ((q0 73), .inl (k48, 400, .inl f48)), ((q0 6), .inl (k5, 120, .inl f5)), ((q0 28), .inl (k20, 400, .inl f20)), ((q0 11), .inl (k10, 120, .inl f10)), ((q0 5), .inl (k4, 122880, .inl f4)), ((q0 12), .inl (k11, 120, .inl f11)), ((q0 3), .inl (k3, 400, .inl f3)), ((q0 72), .inl (k47, 13, .inl f47)), ((q0 2), .inl (k2, 4800, .inl f2)), ((q0 17), .inl (k14, 12, .inl f14))] := hD.sub [10, 11, 12, 0, 1, 2, 3, 4, 5, 6, 7, 8, 9] (by decide) rfl
  generalize H1 = H at hP hS ⊢
  clear hz1
  refine lv_if_ne (tgt := 14) hx hb dX13_nearest_9 (by decide) (fun c_ => ?_) (fun c_ => ?_)
  · skip
    have b_ := zT_ne rfl zk_0 c_
    refine lv_aload_n hx hb dX13_nearest_14 rfl (lv_at hl 0 rfl) ?_
    have hPc := hP.sub (ws' := [(h0, .inr (13, mX13 q0 (upd (upd (upd v0 1 (u6_ 0)) 20 (u6_ 1)) 21 0))), ((q0 73), .inl (k48, 400, .inl f48)), ((q0 6), .inl (k5, 120, .inl f5)), ((q0 28), .inl (k20, 400, .inl f20)), ((q0 11), .inl (k10, 120, .inl f10)), ((q0 5), .inl (k4, 122880, .inl f4)), ((q0 12), .inl (k11, 120, .inl f11))]) [0, 3, 4, 5, 6, 7, 8] rfl
    have hDc := hD.sub (ws' := [(h0, .inr (13, mX13 q0 (upd (upd (upd v0 1 (u6_ 0)) 20 (u6_ 1)) 21 0))), ((q0 73), .inl (k48, 400, .inl f48)), ((q0 6), .inl (k5, 120, .inl f5)), ((q0 28), .inl (k20, 400, .inl f20)), ((q0 11), .inl (k10, 120, .inl f10)), ((q0 5), .inl (k4, 122880, .inl f4)), ((q0 12), .inl (k11, 120, .inl f11))]) [0, 3, 4, 5, 6, 7, 8] (by decide) rfl
    have hKc := hK.sub (tys' := [(k48, .int), (k5, .boolean), (k20, .int), (k10, .int), (k4, .short), (k11, .int)]) [2, 3, 4, 5, 6, 7] rfl
    have hFc := va_free (wc := [(h0, .inr (13, mX13 q0 (upd (upd (upd v0 1 (u6_ 0)) 20 (u6_ 1)) 21 0))), ((q0 73), .inl (k48, 400, .inl f48)), ((q0 6), .inl (k5, 120, .inl f5)), ((q0 28), .inl (k20, 400, .inl f20)), ((q0 11), .inl (k10, 120, .inl f10)), ((q0 5), .inl (k4, 122880, .inl f4)), ((q0 12), .inl (k11, 120, .inl f11))]) hD hS hA [0, 3, 4, 5, 6, 7, 8] rfl
    refine va_callv (va_runV (As := []) (rest := []) ⟨hx, hb, hml, hown, hG⟩ (sX13_hold_0 l dC dI adK adV h0 q0 k48 k5 k20 k10 k4 k11 H.size (upd (upd (upd v0 1 (u6_ 0)) 20 (u6_ 1)) 21 0) f48 f5 f20 f10 f4 f11 (zR_updF (zR_upd (zR_upd hv0 1 (show (0 : Int) ≤ ((u6_ 0) : Int32).toInt from by omega) (show ((u6_ 0) : Int32).toInt ≤ (600 : Int) from by omega)) 20 (show (0 : Int) ≤ ((u6_ 1) : Int32).toInt from by omega) (show ((u6_ 1) : Int32).toInt ≤ (12 : Int) from by omega)) 21 rfl) hf10 hf4 hf11) (cwV 0 hG (zgV zw734 zw735 zw736 zw524 zw737) rfl rfl rfl (by decide +kernel) ⟨Nat.le_of_ble_eq_true rfl, Nat.le_of_ble_eq_true rfl⟩) ⟨zPc_blind, va_recv hKc hPc (ci := 13) (q0 := 0) rfl rfl, zPc_pre hPc hKc hDc hE hS hFc hZ⟩ rfl rfl hl.1 rfl (lv_room (Nat.le_of_ble_eq_true rfl)) dX13_nearest_15 ⟨Nat.le_of_ble_eq_true rfl, Nat.le_of_ble_eq_true rfl⟩) hS (fun q _ h => hFc q h) hFc (fun u15_ t H1 locs ht hvm hw hB hz1 hk1 hS => ?_)
    obtain ⟨w15_, a15_, b15_, hP1, hK1, hD1⟩ := hB
    rw [ht] at hP1
    obtain ⟨hP, hD⟩ := va_join (wr := [((q0 0), .inl (k1, 600, .inl f1)), ((q0 19), .inl (k15, 12, .inl (a6_ 0))), ((q0 3), .inl (k3, 400, .inl f3)), ((q0 72), .inl (k47, 13, .inl f47)), ((q0 2), .inl (k2, 4800, .inl f2)), ((q0 17), .inl (k14, 12, .inl f14))]) (w1 := [(h0, .inr (13, mX13 q0 (upd (upd (upd v0 1 (u6_ 0)) 20 (u6_ 1)) 21 0))), ((q0 73), .inl (k48, 400, .inl (a15_ 0))), ((q0 6), .inl (k5, 120, .inl f5)), ((q0 28), .inl (k20, 400, .inl (a15_ 1))), ((q0 11), .inl (k10, 120, .inl f10)), ((q0 5), .inl (k4, 122880, .inl f4)), ((q0 12), .inl (k11, 120, .inl f11))]) hP hD [0, 3, 4, 5, 6, 7, 8] [1, 2, 9, 10, 11, 12] rfl rfl (by decide) (by decide) hk1 hFc hP1 hD1
    have hP : va_P (dC, dI) vwCl [(h0, .inr (13, mX13 q0 (upd (upd (upd v0 1 (u6_ 0)) 20 (u6_ 1)) 21 0))), ((q0 0), .inl (k1, 600, .inl f1)), ((q0 19), .inl (k15, 12, .inl (a6_ 0))), ((q0 73), .inl (k48, 400, .inl (a15_ 0))), ((q0 6), .inl (k5, 120, .inl f5)), ((q0 28), .inl (k20, 400, .inl (a15_ 1))), ((q0 11), .inl (k10, 120, .inl f10)), ((q0 5), .inl (k4, 122880, .inl f4)), ((q0 12), .inl (k11, 120, .inl f11)), ((q0 3), .inl (k3, 400, .inl f3)), ((q0 72), .inl (k47, 13, .inl f47)), ((q0 2), .inl (k2, 4800, .inl f2)), ((q0 17), .inl (k14, 12, .inl f14))] H1 := hP.sub [6, 0, 1, 7, 8, 9, 10, 11, 12, 2, 3, 4, 5] rfl
    have hD : va_D A [(h0, .inr (13, mX13 q0 (upd (upd (upd v0 1 (u6_ 0)) 20 (u6_ 1)) 21 0))), ((q0 0), .inl (k1, 600, .inl f1)), ((q0 19), .inl (k15, 12, .inl (a6_ 0))), ((q0 73), .inl (k48, 400, .inl (a15_ 0))), ((q0 6), .inl (k5, 120, .inl f5)), ((q0 28), .inl (k20, 400, .inl (a15_ 1))), ((q0 11), .inl (k10, 120, .inl f10)), ((q0 5), .inl (k4, 122880, .inl f4)), ((q0 12), .inl (k11, 120, .inl f11)), ((q0 3), .inl (k3, 400, .inl f3)), ((q0 72), .inl (k47, 13, .inl f47)), ((q0 2), .inl (k2, 4800, .inl f2)), ((q0 17), .inl (k14, 12, .inl f14))] := hD.sub [6, 0, 1, 7, 8, 9, 10, 11, 12, 2, 3, 4, 5] (by decide) rfl
    generalize H1 = H at hP hS ⊢
    clear hz1
    refine lv_iconst (v := (-1)) hx hb dX13_nearest_18 (by decide) ?_
    refine lv_istore_n (lv' := [(1, .int (-1)), (0, .ref h0)]) hx hb dX13_nearest_19 rfl hl (by decide) rfl (fun ls hl => ?_)
    refine lv_iconst (v := 3) hx hb dX13_nearest_20 (by decide) ?_
    refine lv_istore_n (lv' := [(2, .int 3), (1, .int (-1)), (0, .ref h0)]) hx hb dX13_nearest_21 rfl hl (by decide) rfl (fun ls hl => ?_)
    refine lv_iconst (v := 0) hx hb dX13_nearest_22 (by decide) ?_
    refine lv_istore_n (lv' := [(3, .int 0), (2, .int 3), (1, .int (-1)), (0, .ref h0)]) hx hb dX13_nearest_23 rfl hl (by decide) rfl (fun ls hl => ?_)
    refine zcutL (fun u24_ => (400 - (u24_ 2).toInt).toNat) (fun H locs ls u24_ w24_ a24_ b24_ => va_P (dC, dI) vwCl [(h0, .inr (13, mX13 q0 (upd (upd (upd v0 1 (u6_ 0)) 20 (u6_ 1)) 21 0))), ((q0 0), .inl (k1, 600, .inl f1)), ((q0 19), .inl (k15, 12, .inl (a6_ 0))), ((q0 73), .inl (k48, 400, .inl (a15_ 0))), ((q0 6), .inl (k5, 120, .inl f5)), ((q0 28), .inl (k20, 400, .inl (a15_ 1))), ((q0 11), .inl (k10, 120, .inl f10)), ((q0 5), .inl (k4, 122880, .inl f4)), ((q0 12), .inl (k11, 120, .inl f11)), ((q0 3), .inl (k3, 400, .inl f3)), ((q0 72), .inl (k47, 13, .inl (a24_ 0))), ((q0 2), .inl (k2, 4800, .inl f2)), ((q0 17), .inl (k14, 12, .inl f14))] H ∧ va_D A [(h0, .inr (13, mX13 q0 (upd (upd (upd v0 1 (u6_ 0)) 20 (u6_ 1)) 21 0))), ((q0 0), .inl (k1, 600, .inl f1)), ((q0 19), .inl (k15, 12, .inl (a6_ 0))), ((q0 73), .inl (k48, 400, .inl (a15_ 0))), ((q0 6), .inl (k5, 120, .inl f5)), ((q0 28), .inl (k20, 400, .inl (a15_ 1))), ((q0 11), .inl (k10, 120, .inl f10)), ((q0 5), .inl (k4, 122880, .inl f4)), ((q0 12), .inl (k11, 120, .inl f11)), ((q0 3), .inl (k3, 400, .inl f3)), ((q0 72), .inl (k47, 13, .inl (a24_ 0))), ((q0 2), .inl (k2, 4800, .inl f2)), ((q0 17), .inl (k14, 12, .inl f14))] ∧ va_S A s.heap H locs ∧ lv_has ls 5 [(0, .ref h0), (1, .int (u24_ 0)), (2, .int (u24_ 1)), (3, .int (u24_ 2))] ∧ ((-1) ≤ (u24_ 0).toInt ∧ (u24_ 0).toInt ≤ 399) ∧ ((-2147483648) ≤ (u24_ 1).toInt ∧ (u24_ 1).toInt ≤ 3) ∧ (0 ≤ (u24_ 2).toInt ∧ (u24_ 2).toInt ≤ 400)) (fun ls u24_ w24_ => F0 m 24 ls []) 0 0 ?_ (fun hJ24 => ?_)
    · skip
      intro H locs ls u24_ w24_ a24_ b24_ hc hJ24
      obtain ⟨hP, hD, hS, hl, b_, b_, b_⟩ := hc
      refine lv_iload_n hx hb dX13_nearest_24 rfl (lv_at hl 3 rfl) ?_
      refine lv_aload_n hx hb dX13_nearest_25 rfl (lv_at hl 0 rfl) ?_
      have b_ : 0 ≤ (v0 4).toInt ∧ (v0 4).toInt ≤ 400 := hv0 4
      refine va_get (D := (dC, dI)) (ci := 13) (v := .int (v0 4)) (C := RX13) (T := TX13) (N := 75) hx hb hG zuX13 hown hK hP 0 rfl rfl 4 (by decide) (hG _ zw551) (fun _ h9 => h9) rfl dX13_nearest_26 ?_
      refine lv_icmp_ge (tgt := 118) hx hb dX13_nearest_29 (by decide) (fun c_ => ?_) (fun c_ => ?_)
      · skip
        have b_ := zT_ge rfl rfl c_
        refine lv_iload_n hx hb dX13_nearest_118 rfl (lv_at hl 1 rfl) ?_
        refine lv_iconst (v := (-1)) hx hb dX13_nearest_119 (by decide) ?_
        refine lv_icmp_ne (tgt := 125) hx hb dX13_nearest_120 (by decide) (fun c_ => ?_) (fun c_ => ?_)
        · skip
          have b_ := zT_ne rfl zk_m1 c_
          refine lv_aload_n hx hb dX13_nearest_125 rfl (lv_at hl 0 rfl) ?_
          refine lv_aload_n hx hb dX13_nearest_126 rfl (lv_at hl 0 rfl) ?_
          refine va_get (D := (dC, dI)) (ci := 13) (v := .ref (q0 3)) (C := RX13) (T := TX13) (N := 75) hx hb hG zuX13 hown hK hP 0 rfl rfl 3 (by decide) (hG _ zw553) (fun _ h9 => h9) rfl dX13_nearest_127 ?_
          refine lv_iload_n hx hb dX13_nearest_130 rfl (lv_at hl 1 rfl) ?_
          refine va_iald hx hb hK hP 9 8 rfl rfl (zin_lit ⟨by omega, by omega⟩) dX13_nearest_131 ?_
          refine lv_topi (fun z131 e_z131 => ?_)
          have b_ : 0 ≤ z131.toInt ∧ z131.toInt ≤ 12 := by rw [e_z131]; exact hf3 _
          refine va_put (D := (dC, dI)) (ci := 13) (v := .int z131) (ty := .int) (C := RX13) (T := TX13) (N := 75) hx hb hG zuX13 tyX13 tyX13_ok nmX13 hown hK hP hD hS 0 rfl rfl 20 (by decide) (hG _ zw538) (fun _ h9 => h9) rfl (by decide +kernel) rfl rfl (Nat.le_of_ble_eq_true rfl) dX13_nearest_132 (fun H locs hP hD hS => ?_)
          have hP : va_P (dC, dI) vwCl [(h0, .inr (13, mX13 q0 (upd (upd (upd v0 1 (u6_ 0)) 20 z131) 21 0))), ((q0 0), .inl (k1, 600, .inl f1)), ((q0 19), .inl (k15, 12, .inl (a6_ 0))), ((q0 73), .inl (k48, 400, .inl (a15_ 0))), ((q0 6), .inl (k5, 120, .inl f5)), ((q0 28), .inl (k20, 400, .inl (a15_ 1))), ((q0 11), .inl (k10, 120, .inl f10)), ((q0 5), .inl (k4, 122880, .inl f4)), ((q0 12), .inl (k11, 120, .inl f11)), ((q0 3), .inl (k3, 400, .inl f3)), ((q0 72), .inl (k47, 13, .inl (a24_ 0))), ((q0 2), .inl (k2, 4800, .inl f2)), ((q0 17), .inl (k14, 12, .inl f14))] H := hP
          have hD : va_D A [(h0, .inr (13, mX13 q0 (upd (upd (upd v0 1 (u6_ 0)) 20 z131) 21 0))), ((q0 0), .inl (k1, 600, .inl f1)), ((q0 19), .inl (k15, 12, .inl (a6_ 0))), ((q0 73), .inl (k48, 400, .inl (a15_ 0))), ((q0 6), .inl (k5, 120, .inl f5)), ((q0 28), .inl (k20, 400, .inl (a15_ 1))), ((q0 11), .inl (k10, 120, .inl f10)), ((q0 5), .inl (k4, 122880, .inl f4)), ((q0 12), .inl (k11, 120, .inl f11)), ((q0 3), .inl (k3, 400, .inl f3)), ((q0 72), .inl (k47, 13, .inl (a24_ 0))), ((q0 2), .inl (k2, 4800, .inl f2)), ((q0 17), .inl (k14, 12, .inl f14))] := hD
          refine lv_iconst (v := 0) hx hb dX13_nearest_135 (by decide) ?_
          refine lv_istore_n (lv' := [(3, .int 0), (0, .ref h0), (1, .int (u24_ 0)), (2, .int (u24_ 1))]) hx hb dX13_nearest_136 rfl hl (by decide) rfl (fun ls hl => ?_)
          refine zcutL (fun u137_ => (12 - (u137_ 0).toInt).toNat) (fun H locs ls u137_ w137_ a137_ b137_ => va_P (dC, dI) vwCl [(h0, .inr (13, mX13 q0 (upd (upd (upd v0 1 (u6_ 0)) 20 z131) 21 0))), ((q0 0), .inl (k1, 600, .inl f1)), ((q0 19), .inl (k15, 12, .inl (a137_ 0))), ((q0 73), .inl (k48, 400, .inl (a15_ 0))), ((q0 6), .inl (k5, 120, .inl f5)), ((q0 28), .inl (k20, 400, .inl (a15_ 1))), ((q0 11), .inl (k10, 120, .inl f10)), ((q0 5), .inl (k4, 122880, .inl f4)), ((q0 12), .inl (k11, 120, .inl f11)), ((q0 3), .inl (k3, 400, .inl f3)), ((q0 72), .inl (k47, 13, .inl (a24_ 0))), ((q0 2), .inl (k2, 4800, .inl f2)), ((q0 17), .inl (k14, 12, .inl f14))] H ∧ va_D A [(h0, .inr (13, mX13 q0 (upd (upd (upd v0 1 (u6_ 0)) 20 z131) 21 0))), ((q0 0), .inl (k1, 600, .inl f1)), ((q0 19), .inl (k15, 12, .inl (a137_ 0))), ((q0 73), .inl (k48, 400, .inl (a15_ 0))), ((q0 6), .inl (k5, 120, .inl f5)), ((q0 28), .inl (k20, 400, .inl (a15_ 1))), ((q0 11), .inl (k10, 120, .inl f10)), ((q0 5), .inl (k4, 122880, .inl f4)), ((q0 12), .inl (k11, 120, .inl f11)), ((q0 3), .inl (k3, 400, .inl f3)), ((q0 72), .inl (k47, 13, .inl (a24_ 0))), ((q0 2), .inl (k2, 4800, .inl f2)), ((q0 17), .inl (k14, 12, .inl f14))] ∧ va_S A s.heap H locs ∧ lv_has ls 5 [(0, .ref h0), (1, .int (u24_ 0)), (2, .int (u24_ 1)), (3, .int (u137_ 0))] ∧ (0 ≤ (u137_ 0).toInt ∧ (u137_ 0).toInt ≤ 12)) (fun ls u137_ w137_ => F0 m 137 ls []) 0 0 ?_ (fun hJ137 => ?_)
          · skip
            intro H locs ls u137_ w137_ a137_ b137_ hc hJ137
            obtain ⟨hP, hD, hS, hl, b_⟩ := hc
            refine lv_iload_n hx hb dX13_nearest_137 rfl (lv_at hl 3 rfl) ?_
            refine lv_aload_n hx hb dX13_nearest_138 rfl (lv_at hl 0 rfl) ?_
            refine va_get (D := (dC, dI)) (ci := 13) (v := .int z131) (C := RX13) (T := TX13) (N := 75) hx hb hG zuX13 hown hK hP 0 rfl rfl 20 (by decide) (hG _ zw538) (fun _ h9 => h9) rfl dX13_nearest_139 ?_
            refine lv_icmp_ge (tgt := 168) hx hb dX13_nearest_142 (by decide) (fun c_ => ?_) (fun c_ => ?_)
            · skip
              have b_ := zT_ge rfl rfl c_
              refine lv_aload_n hx hb dX13_nearest_168 rfl (lv_at hl 0 rfl) ?_
              have hPc := hP.sub (ws' := [(h0, .inr (13, mX13 q0 (upd (upd (upd v0 1 (u6_ 0)) 20 z131) 21 0))), ((q0 19), .inl (k15, 12, .inl (a137_ 0))), ((q0 17), .inl (k14, 12, .inl f14))]) [0, 2, 12] rfl
              have hDc := hD.sub (ws' := [(h0, .inr (13, mX13 q0 (upd (upd (upd v0 1 (u6_ 0)) 20 z131) 21 0))), ((q0 19), .inl (k15, 12, .inl (a137_ 0))), ((q0 17), .inl (k14, 12, .inl f14))]) [0, 2, 12] (by decide) rfl
              have hKc := hK.sub (tys' := [(k15, .byte), (k14, .byte)]) [1, 11] rfl
              have hFc := va_free (wc := [(h0, .inr (13, mX13 q0 (upd (upd (upd v0 1 (u6_ 0)) 20 z131) 21 0))), ((q0 19), .inl (k15, 12, .inl (a137_ 0))), ((q0 17), .inl (k14, 12, .inl f14))]) hD hS hA [0, 2, 12] rfl
              refine va_callv (va_runV (As := []) (rest := []) ⟨hx, hb, hml, hown, hG⟩ (sX13_lookAt_0 l dC dI adK adV h0 q0 k15 k14 H.size (upd (upd (upd v0 1 (u6_ 0)) 20 z131) 21 0) (a137_ 0) f14 (zR_updF (zR_upd (zR_upd hv0 1 (show (0 : Int) ≤ ((u6_ 0) : Int32).toInt from by omega) (show ((u6_ 0) : Int32).toInt ≤ (600 : Int) from by omega)) 20 (show (0 : Int) ≤ (z131 : Int32).toInt from by omega) (show (z131 : Int32).toInt ≤ (12 : Int) from by omega)) 21 rfl)) (cwV 0 hG (zgV zw657 zw658 zw659 zw524 zw660) rfl rfl rfl (by decide +kernel) ⟨Nat.le_of_ble_eq_true rfl, Nat.le_of_ble_eq_true rfl⟩) ⟨zPc_blind, va_recv hKc hPc (ci := 13) (q0 := 0) rfl rfl, zPc_pre hPc hKc hDc hE hS hFc hZ⟩ rfl rfl hl.1 rfl (lv_room (Nat.le_of_ble_eq_true rfl)) dX13_nearest_169 ⟨Nat.le_of_ble_eq_true rfl, Nat.le_of_ble_eq_true rfl⟩) hS (fun q _ h => hFc q h) hFc (fun u169_ t H1 locs ht hvm hw hB hz1 hk1 hS => ?_)
              have hw : (0 ≤ (u169_ 0).toInt ∧ (u169_ 0).toInt ≤ 12) := hw
              have b_ := hw
              obtain ⟨w169_, a169_, b169_, hP1, hK1, hD1⟩ := hB
              rw [ht] at hP1
              obtain ⟨hP, hD⟩ := va_join (wr := [((q0 0), .inl (k1, 600, .inl f1)), ((q0 73), .inl (k48, 400, .inl (a15_ 0))), ((q0 6), .inl (k5, 120, .inl f5)), ((q0 28), .inl (k20, 400, .inl (a15_ 1))), ((q0 11), .inl (k10, 120, .inl f10)), ((q0 5), .inl (k4, 122880, .inl f4)), ((q0 12), .inl (k11, 120, .inl f11)), ((q0 3), .inl (k3, 400, .inl f3)), ((q0 72), .inl (k47, 13, .inl (a24_ 0))), ((q0 2), .inl (k2, 4800, .inl f2))]) (w1 := [(h0, .inr (13, mX13 q0 (upd (upd (upd (upd v0 1 (u6_ 0)) 18 (u169_ 0)) 20 z131) 21 0))), ((q0 19), .inl (k15, 12, .inl (a137_ 0))), ((q0 17), .inl (k14, 12, .inl (a169_ 0)))]) hP hD [0, 2, 12] [1, 3, 4, 5, 6, 7, 8, 9, 10, 11] rfl rfl (by decide) (by decide) hk1 hFc hP1 hD1
              have hP : va_P (dC, dI) vwCl [(h0, .inr (13, mX13 q0 (upd (upd (upd (upd v0 1 (u6_ 0)) 18 (u169_ 0)) 20 z131) 21 0))), ((q0 0), .inl (k1, 600, .inl f1)), ((q0 19), .inl (k15, 12, .inl (a137_ 0))), ((q0 73), .inl (k48, 400, .inl (a15_ 0))), ((q0 6), .inl (k5, 120, .inl f5)), ((q0 28), .inl (k20, 400, .inl (a15_ 1))), ((q0 11), .inl (k10, 120, .inl f10)), ((q0 5), .inl (k4, 122880, .inl f4)), ((q0 12), .inl (k11, 120, .inl f11)), ((q0 3), .inl (k3, 400, .inl f3)), ((q0 72), .inl (k47, 13, .inl (a24_ 0))), ((q0 2), .inl (k2, 4800, .inl f2)), ((q0 17), .inl (k14, 12, .inl (a169_ 0)))] H1 := hP.sub [10, 0, 11, 1, 2, 3, 4, 5, 6, 7, 8, 9, 12] rfl
              have hD : va_D A [(h0, .inr (13, mX13 q0 (upd (upd (upd (upd v0 1 (u6_ 0)) 18 (u169_ 0)) 20 z131) 21 0))), ((q0 0), .inl (k1, 600, .inl f1)), ((q0 19), .inl (k15, 12, .inl (a137_ 0))), ((q0 73), .inl (k48, 400, .inl (a15_ 0))), ((q0 6), .inl (k5, 120, .inl f5)), ((q0 28), .inl (k20, 400, .inl (a15_ 1))), ((q0 11), .inl (k10, 120, .inl f10)), ((q0 5), .inl (k4, 122880, .inl f4)), ((q0 12), .inl (k11, 120, .inl f11)), ((q0 3), .inl (k3, 400, .inl f3)), ((q0 72), .inl (k47, 13, .inl (a24_ 0))), ((q0 2), .inl (k2, 4800, .inl f2)), ((q0 17), .inl (k14, 12, .inl (a169_ 0)))] := hD.sub [10, 0, 11, 1, 2, 3, 4, 5, 6, 7, 8, 9, 12] (by decide) rfl
              generalize H1 = H at hP hS ⊢
              clear hz1
              refine lv_iload_n hx hb dX13_nearest_172 rfl (lv_at hl 2 rfl) ?_
              refine W.widen (k := 0) (n := 0) (by decide) (by decide) ?_
              have hpost : ((-2147483648) ≤ (u24_ 1).toInt ∧ (u24_ 1).toInt ≤ 3) ∧ (0 ≤ (u6_ 0).toInt ∧ (u6_ 0).toInt ≤ 0) ∧ ((-1) ≤ (u169_ 0).toInt ∧ (u169_ 0).toInt ≤ 12) ∧ (0 ≤ z131.toInt ∧ z131.toInt ≤ 12) ∧ (0 ≤ (0 : Int32).toInt ∧ (0 : Int32).toInt ≤ 0) := ⟨⟨by omega, by omega⟩, ⟨by omega, by omega⟩, ⟨by omega, by omega⟩, ⟨by omega, by omega⟩, ⟨by omega, by omega⟩⟩
              have hP9 : va_P (dC, dI) vwCl [(h0, .inr (13, mX13 q0 (upd (upd (upd (upd v0 1 (u6_ 0)) 18 (u169_ 0)) 20 z131) 21 0))), ((q0 0), .inl (k1, 600, .inl f1)), ((q0 19), .inl (k15, 12, .inl (a137_ 0))), ((q0 73), .inl (k48, 400, .inl (a15_ 0))), ((q0 6), .inl (k5, 120, .inl f5)), ((q0 28), .inl (k20, 400, .inl (a15_ 1))), ((q0 11), .inl (k10, 120, .inl f10)), ((q0 5), .inl (k4, 122880, .inl f4)), ((q0 12), .inl (k11, 120, .inl f11)), ((q0 3), .inl (k3, 400, .inl f3)), ((q0 72), .inl (k47, 13, .inl (a24_ 0))), ((q0 2), .inl (k2, 4800, .inl f2)), ((q0 17), .inl (k14, 12, .inl (a169_ 0)))] H := hP
              have hD9 : va_D A [(h0, .inr (13, mX13 q0 (upd (upd (upd (upd v0 1 (u6_ 0)) 18 (u169_ 0)) 20 z131) 21 0))), ((q0 0), .inl (k1, 600, .inl f1)), ((q0 19), .inl (k15, 12, .inl (a137_ 0))), ((q0 73), .inl (k48, 400, .inl (a15_ 0))), ((q0 6), .inl (k5, 120, .inl f5)), ((q0 28), .inl (k20, 400, .inl (a15_ 1))), ((q0 11), .inl (k10, 120, .inl f10)), ((q0 5), .inl (k4, 122880, .inl f4)), ((q0 12), .inl (k11, 120, .inl f11)), ((q0 3), .inl (k3, 400, .inl f3)), ((q0 72), .inl (k47, 13, .inl (a24_ 0))), ((q0 2), .inl (k2, 4800, .inl f2)), ((q0 17), .inl (k14, 12, .inl (a169_ 0)))] := hD
              exact W.iret (v := (u24_ 1)) hx hb hr (fun t ht hW => ⟨⟨(u24_ 1), (fun i => ([(u6_ 0), (u169_ 0), z131, 0] : List (Int32)).getD i 0), rfl, hpost, (fun _ => 0), (fun i => ([(a137_ 0), (a15_ 0), (a15_ 1), (a24_ 0), (a169_ 0)] : List (Nat → Int32)).getD i (fun _ => 0)), (fun _ => (fun _ => 0)), by rw [ht]; exact hP9, va_K.moved hW.alike hK, hD9⟩, hS.F ht⟩) hS.2.2 dX13_nearest_173
            · skip
              have b_ := zF_ge rfl rfl c_
              refine lv_aload_n hx hb dX13_nearest_145 rfl (lv_at hl 0 rfl) ?_
              refine va_get (D := (dC, dI)) (ci := 13) (v := .ref (q0 19)) (C := RX13) (T := TX13) (N := 75) hx hb hG zuX13 hown hK hP 0 rfl rfl 19 (by decide) (hG _ zw539) (fun _ h9 => h9) rfl dX13_nearest_146 ?_
              refine lv_iload_n hx hb dX13_nearest_149 rfl (lv_at hl 3 rfl) ?_
              refine lv_aload_n hx hb dX13_nearest_150 rfl (lv_at hl 0 rfl) ?_
              refine va_get (D := (dC, dI)) (ci := 13) (v := .ref (q0 2)) (C := RX13) (T := TX13) (N := 75) hx hb hG zuX13 hown hK hP 0 rfl rfl 2 (by decide) (hG _ zw552) (fun _ h9 => h9) rfl dX13_nearest_151 ?_
              refine lv_bipush (v := 12) hx hb dX13_nearest_154 (by decide) ?_
              refine lv_iload_n hx hb dX13_nearest_156 rfl (lv_at hl 1 rfl) ?_
              refine lv_imul hx hb dX13_nearest_157 ?_
              refine lv_topi (fun z157 e_z157 => ?_)
              have b_ := zmul zk_12 rfl e_z157 (by omega) (by omega)
              refine lv_iload_n hx hb dX13_nearest_158 rfl (lv_at hl 3 rfl) ?_
              refine lv_iadd hx hb dX13_nearest_159 ?_
              refine lv_topi (fun z159 e_z159 => ?_)
              have b_ := zadd rfl rfl e_z159 (by omega) (by omega)
              refine va_bald hx hb hK hP 11 10 rfl rfl (zin_lit ⟨by omega, by omega⟩) dX13_nearest_160 ?_
              refine lv_topi (fun z160 e_z160 => ?_)
              refine va_bast hx hb hK hP hD hS 2 1 rfl rfl (zin_lit ⟨by omega, by omega⟩) dX13_nearest_161 (fun H locs hP hD hS => ?_)
              obtain ⟨f_161, e_f_161⟩ : ∃ z : Nat → Int32, z = upd (a137_ 0) ((u137_ 0) : Int32).toNatClampNeg (vp_nar .byte z160) := ⟨_, rfl⟩
              have hP : va_P (dC, dI) vwCl [(h0, .inr (13, mX13 q0 (upd (upd (upd v0 1 (u6_ 0)) 20 z131) 21 0))), ((q0 0), .inl (k1, 600, .inl f1)), ((q0 19), .inl (k15, 12, .inl f_161)), ((q0 73), .inl (k48, 400, .inl (a15_ 0))), ((q0 6), .inl (k5, 120, .inl f5)), ((q0 28), .inl (k20, 400, .inl (a15_ 1))), ((q0 11), .inl (k10, 120, .inl f10)), ((q0 5), .inl (k4, 122880, .inl f4)), ((q0 12), .inl (k11, 120, .inl f11)), ((q0 3), .inl (k3, 400, .inl f3)), ((q0 72), .inl (k47, 13, .inl (a24_ 0))), ((q0 2), .inl (k2, 4800, .inl f2)), ((q0 17), .inl (k14, 12, .inl f14))] H := by rw [e_f_161]; exact hP
              have hD : va_D A [(h0, .inr (13, mX13 q0 (upd (upd (upd v0 1 (u6_ 0)) 20 z131) 21 0))), ((q0 0), .inl (k1, 600, .inl f1)), ((q0 19), .inl (k15, 12, .inl f_161)), ((q0 73), .inl (k48, 400, .inl (a15_ 0))), ((q0 6), .inl (k5, 120, .inl f5)), ((q0 28), .inl (k20, 400, .inl (a15_ 1))), ((q0 11), .inl (k10, 120, .inl f10)), ((q0 5), .inl (k4, 122880, .inl f4)), ((q0 12), .inl (k11, 120, .inl f11)), ((q0 3), .inl (k3, 400, .inl f3)), ((q0 72), .inl (k47, 13, .inl (a24_ 0))), ((q0 2), .inl (k2, 4800, .inl f2)), ((q0 17), .inl (k14, 12, .inl f14))] := by rw [e_f_161]; exact hD
              obtain ⟨z162, e_z162⟩ : ∃ z : Int32, z = (u137_ 0) + Int32.ofInt 1 := ⟨_, rfl⟩
              have b_ := zadd (x := (u137_ 0)) (y := Int32.ofInt 1) rfl (show (Int32.ofInt 1).toInt = 1 from by decide) e_z162 (by omega) (by omega)
              refine lv_iinc (v := z162) (lv' := [(3, .int z162), (0, .ref h0), (1, .int (u24_ 0)), (2, .int (u24_ 1))]) hx hb dX13_nearest_162 hl (k := 3) rfl e_z162.symm (by decide) rfl (fun ls hl => ?_)
              refine lv_goto (tgt := 137) hx hb dX13_nearest_165 (by decide) ?_
              have hc : va_P (dC, dI) vwCl [(h0, .inr (13, mX13 q0 (upd (upd (upd v0 1 (u6_ 0)) 20 z131) 21 0))), ((q0 0), .inl (k1, 600, .inl f1)), ((q0 19), .inl (k15, 12, .inl f_161)), ((q0 73), .inl (k48, 400, .inl (a15_ 0))), ((q0 6), .inl (k5, 120, .inl f5)), ((q0 28), .inl (k20, 400, .inl (a15_ 1))), ((q0 11), .inl (k10, 120, .inl f10)), ((q0 5), .inl (k4, 122880, .inl f4)), ((q0 12), .inl (k11, 120, .inl f11)), ((q0 3), .inl (k3, 400, .inl f3)), ((q0 72), .inl (k47, 13, .inl (a24_ 0))), ((q0 2), .inl (k2, 4800, .inl f2)), ((q0 17), .inl (k14, 12, .inl f14))] H ∧ va_D A [(h0, .inr (13, mX13 q0 (upd (upd (upd v0 1 (u6_ 0)) 20 z131) 21 0))), ((q0 0), .inl (k1, 600, .inl f1)), ((q0 19), .inl (k15, 12, .inl f_161)), ((q0 73), .inl (k48, 400, .inl (a15_ 0))), ((q0 6), .inl (k5, 120, .inl f5)), ((q0 28), .inl (k20, 400, .inl (a15_ 1))), ((q0 11), .inl (k10, 120, .inl f10)), ((q0 5), .inl (k4, 122880, .inl f4)), ((q0 12), .inl (k11, 120, .inl f11)), ((q0 3), .inl (k3, 400, .inl f3)), ((q0 72), .inl (k47, 13, .inl (a24_ 0))), ((q0 2), .inl (k2, 4800, .inl f2)), ((q0 17), .inl (k14, 12, .inl f14))] ∧ va_S A s.heap H locs ∧ lv_has ls 5 [(0, .ref h0), (1, .int (u24_ 0)), (2, .int (u24_ 1)), (3, .int z162)] ∧ (0 ≤ z162.toInt ∧ z162.toInt ≤ 12) := ⟨hP, hD, hS, lv_sub hl [1, 2, 3, 0] rfl, ⟨by omega, by omega⟩⟩
              exact hJ137 H locs ls (fun i => ([z162] : List (Int32)).getD i 0) (fun _ => 0) (fun i => ([f_161] : List (Nat → Int32)).getD i (fun _ => 0)) (fun _ => (fun _ => 0)) hc (show (12 - z162.toInt).toNat < (12 - (u137_ 0).toInt).toNat from by omega)
          · skip
            have hc : va_P (dC, dI) vwCl [(h0, .inr (13, mX13 q0 (upd (upd (upd v0 1 (u6_ 0)) 20 z131) 21 0))), ((q0 0), .inl (k1, 600, .inl f1)), ((q0 19), .inl (k15, 12, .inl (a6_ 0))), ((q0 73), .inl (k48, 400, .inl (a15_ 0))), ((q0 6), .inl (k5, 120, .inl f5)), ((q0 28), .inl (k20, 400, .inl (a15_ 1))), ((q0 11), .inl (k10, 120, .inl f10)), ((q0 5), .inl (k4, 122880, .inl f4)), ((q0 12), .inl (k11, 120, .inl f11)), ((q0 3), .inl (k3, 400, .inl f3)), ((q0 72), .inl (k47, 13, .inl (a24_ 0))), ((q0 2), .inl (k2, 4800, .inl f2)), ((q0 17), .inl (k14, 12, .inl f14))] H ∧ va_D A [(h0, .inr (13, mX13 q0 (upd (upd (upd v0 1 (u6_ 0)) 20 z131) 21 0))), ((q0 0), .inl (k1, 600, .inl f1)), ((q0 19), .inl (k15, 12, .inl (a6_ 0))), ((q0 73), .inl (k48, 400, .inl (a15_ 0))), ((q0 6), .inl (k5, 120, .inl f5)), ((q0 28), .inl (k20, 400, .inl (a15_ 1))), ((q0 11), .inl (k10, 120, .inl f10)), ((q0 5), .inl (k4, 122880, .inl f4)), ((q0 12), .inl (k11, 120, .inl f11)), ((q0 3), .inl (k3, 400, .inl f3)), ((q0 72), .inl (k47, 13, .inl (a24_ 0))), ((q0 2), .inl (k2, 4800, .inl f2)), ((q0 17), .inl (k14, 12, .inl f14))] ∧ va_S A s.heap H locs ∧ lv_has ls 5 [(0, .ref h0), (1, .int (u24_ 0)), (2, .int (u24_ 1)), (3, .int 0)] ∧ (0 ≤ (0 : Int32).toInt ∧ (0 : Int32).toInt ≤ 12) := ⟨hP, hD, hS, lv_sub hl [1, 2, 3, 0] rfl, ⟨by omega, by omega⟩⟩
            exact hJ137 H locs ls (fun i => ([0] : List (Int32)).getD i 0) (fun _ => 0) (fun i => ([(a6_ 0)] : List (Nat → Int32)).getD i (fun _ => 0)) (fun _ => (fun _ => 0)) hc
        · skip
          have b_ := zF_ne rfl zk_m1 c_
          refine lv_iconst (v := (-1)) hx hb dX13_nearest_123 (by decide) ?_
          refine W.widen (k := 0) (n := 0) (by decide) (by decide) ?_
          have b_ : (-1) ≤ (v0 18).toInt ∧ (v0 18).toInt ≤ 12 := hv0 18
          have hpost : ((-2147483648) ≤ ((-1) : Int32).toInt ∧ ((-1) : Int32).toInt ≤ 3) ∧ (0 ≤ (u6_ 0).toInt ∧ (u6_ 0).toInt ≤ 0) ∧ ((-1) ≤ (v0 18).toInt ∧ (v0 18).toInt ≤ 12) ∧ (0 ≤ (u6_ 1).toInt ∧ (u6_ 1).toInt ≤ 12) ∧ (0 ≤ (0 : Int32).toInt ∧ (0 : Int32).toInt ≤ 0) := ⟨⟨by omega, by omega⟩, ⟨by omega, by omega⟩, ⟨by omega, by omega⟩, ⟨by omega, by omega⟩, ⟨by omega, by omega⟩⟩
          have hP9 : va_P (dC, dI) vwCl [(h0, .inr (13, mX13 q0 (upd (upd (upd (upd v0 1 (u6_ 0)) 18 (v0 18)) 20 (u6_ 1)) 21 0))), ((q0 0), .inl (k1, 600, .inl f1)), ((q0 19), .inl (k15, 12, .inl (a6_ 0))), ((q0 73), .inl (k48, 400, .inl (a15_ 0))), ((q0 6), .inl (k5, 120, .inl f5)), ((q0 28), .inl (k20, 400, .inl (a15_ 1))), ((q0 11), .inl (k10, 120, .inl f10)), ((q0 5), .inl (k4, 122880, .inl f4)), ((q0 12), .inl (k11, 120, .inl f11)), ((q0 3), .inl (k3, 400, .inl f3)), ((q0 72), .inl (k47, 13, .inl (a24_ 0))), ((q0 2), .inl (k2, 4800, .inl f2)), ((q0 17), .inl (k14, 12, .inl f14))] H := hP
          have hD9 : va_D A [(h0, .inr (13, mX13 q0 (upd (upd (upd (upd v0 1 (u6_ 0)) 18 (v0 18)) 20 (u6_ 1)) 21 0))), ((q0 0), .inl (k1, 600, .inl f1)), ((q0 19), .inl (k15, 12, .inl (a6_ 0))), ((q0 73), .inl (k48, 400, .inl (a15_ 0))), ((q0 6), .inl (k5, 120, .inl f5)), ((q0 28), .inl (k20, 400, .inl (a15_ 1))), ((q0 11), .inl (k10, 120, .inl f10)), ((q0 5), .inl (k4, 122880, .inl f4)), ((q0 12), .inl (k11, 120, .inl f11)), ((q0 3), .inl (k3, 400, .inl f3)), ((q0 72), .inl (k47, 13, .inl (a24_ 0))), ((q0 2), .inl (k2, 4800, .inl f2)), ((q0 17), .inl (k14, 12, .inl f14))] := hD
          exact W.iret (v := (-1)) hx hb hr (fun t ht hW => ⟨⟨(-1), (fun i => ([(u6_ 0), (v0 18), (u6_ 1), 0] : List (Int32)).getD i 0), rfl, hpost, (fun _ => 0), (fun i => ([(a6_ 0), (a15_ 0), (a15_ 1), (a24_ 0), f14] : List (Nat → Int32)).getD i (fun _ => 0)), (fun _ => (fun _ => 0)), by rw [ht]; exact hP9, va_K.moved hW.alike hK, hD9⟩, hS.F ht⟩) hS.2.2 dX13_nearest_124
      · skip
        have b_ := zF_ge rfl rfl c_
        refine lv_aload_n hx hb dX13_nearest_32 rfl (lv_at hl 0 rfl) ?_
        refine lv_iload_n hx hb dX13_nearest_33 rfl (lv_at hl 3 rfl) ?_
        have hPc := hP.sub (ws' := [(h0, .inr (13, mX13 q0 (upd (upd (upd v0 1 (u6_ 0)) 20 (u6_ 1)) 21 0))), ((q0 3), .inl (k3, 400, .inl f3)), ((q0 72), .inl (k47, 13, .inl (a24_ 0))), ((q0 19), .inl (k15, 12, .inl (a6_ 0))), ((q0 2), .inl (k2, 4800, .inl f2))]) [0, 9, 10, 2, 11] rfl
        have hDc := hD.sub (ws' := [(h0, .inr (13, mX13 q0 (upd (upd (upd v0 1 (u6_ 0)) 20 (u6_ 1)) 21 0))), ((q0 3), .inl (k3, 400, .inl f3)), ((q0 72), .inl (k47, 13, .inl (a24_ 0))), ((q0 19), .inl (k15, 12, .inl (a6_ 0))), ((q0 2), .inl (k2, 4800, .inl f2))]) [0, 9, 10, 2, 11] (by decide) rfl
        have hKc := hK.sub (tys' := [(k3, .int), (k47, .int), (k15, .byte), (k2, .byte)]) [8, 9, 1, 10] rfl
        have hFc := va_free (wc := [(h0, .inr (13, mX13 q0 (upd (upd (upd v0 1 (u6_ 0)) 20 (u6_ 1)) 21 0))), ((q0 3), .inl (k3, 400, .inl f3)), ((q0 72), .inl (k47, 13, .inl (a24_ 0))), ((q0 19), .inl (k15, 12, .inl (a6_ 0))), ((q0 2), .inl (k2, 4800, .inl f2))]) hD hS hA [0, 9, 10, 2, 11] rfl
        refine va_calli (va_runV (As := [.int (u24_ 2)]) (rest := []) ⟨hx, hb, hml, hown, hG⟩ (sX13_distance_0 l dC dI adK adV h0 q0 k3 k47 k15 k2 H.size (upd (upd (upd v0 1 (u6_ 0)) 20 (u6_ 1)) 21 0) f3 (a24_ 0) (a6_ 0) f2 (u24_ 2) (zR_updF (zR_upd (zR_upd hv0 1 (show (0 : Int) ≤ ((u6_ 0) : Int32).toInt from by omega) (show ((u6_ 0) : Int32).toInt ≤ (600 : Int) from by omega)) 20 (show (0 : Int) ≤ ((u6_ 1) : Int32).toInt from by omega) (show ((u6_ 1) : Int32).toInt ≤ (12 : Int) from by omega)) 21 rfl) hf3 ⟨show (0 : Int) ≤ ((u24_ 2) : Int32).toInt from by omega, show ((u24_ 2) : Int32).toInt ≤ (399 : Int) from by omega⟩) (cwV 1 hG (zgV zw738 zw739 zw740 zw524 zw741) rfl rfl rfl (by decide +kernel) ⟨Nat.le_of_ble_eq_true rfl, Nat.le_of_ble_eq_true rfl⟩) ⟨zPc_blind, va_recv hKc hPc (ci := 13) (q0 := 0) rfl rfl, zPc_pre hPc hKc hDc hE hS hFc hZ⟩ rfl rfl hl.1 rfl (lv_room (Nat.le_of_ble_eq_true rfl)) dX13_nearest_34 ⟨Nat.le_of_ble_eq_true rfl, Nat.le_of_ble_eq_true rfl⟩) hS (fun q _ h => hFc q h) hFc (fun r34_ u34_ t H1 locs ht hvm hw hB hz1 hk1 hS => ?_)
        obtain ⟨w34_, a34_, b34_, hP1, hK1, hD1⟩ := hB
        rw [ht] at hP1
        obtain ⟨hP, hD⟩ := va_join (wr := [((q0 0), .inl (k1, 600, .inl f1)), ((q0 73), .inl (k48, 400, .inl (a15_ 0))), ((q0 6), .inl (k5, 120, .inl f5)), ((q0 28), .inl (k20, 400, .inl (a15_ 1))), ((q0 11), .inl (k10, 120, .inl f10)), ((q0 5), .inl (k4, 122880, .inl f4)), ((q0 12), .inl (k11, 120, .inl f11)), ((q0 17), .inl (k14, 12, .inl f14))]) (w1 := [(h0, .inr (13, mX13 q0 (upd (upd (upd v0 1 (u6_ 0)) 20 (u6_ 1)) 21 0))), ((q0 3), .inl (k3, 400, .inl f3)), ((q0 72), .inl (k47, 13, .inl (a34_ 0))), ((q0 19), .inl (k15, 12, .inl (a6_ 0))), ((q0 2), .inl (k2, 4800, .inl f2))]) hP hD [0, 9, 10, 2, 11] [1, 3, 4, 5, 6, 7, 8, 12] rfl rfl (by decide) (by decide) hk1 hFc hP1 hD1
        have hP : va_P (dC, dI) vwCl [(h0, .inr (13, mX13 q0 (upd (upd (upd v0 1 (u6_ 0)) 20 (u6_ 1)) 21 0))), ((q0 0), .inl (k1, 600, .inl f1)), ((q0 19), .inl (k15, 12, .inl (a6_ 0))), ((q0 73), .inl (k48, 400, .inl (a15_ 0))), ((q0 6), .inl (k5, 120, .inl f5)), ((q0 28), .inl (k20, 400, .inl (a15_ 1))), ((q0 11), .inl (k10, 120, .inl f10)), ((q0 5), .inl (k4, 122880, .inl f4)), ((q0 12), .inl (k11, 120, .inl f11)), ((q0 3), .inl (k3, 400, .inl f3)), ((q0 72), .inl (k47, 13, .inl (a34_ 0))), ((q0 2), .inl (k2, 4800, .inl f2)), ((q0 17), .inl (k14, 12, .inl f14))] H1 := hP.sub [8, 0, 11, 1, 2, 3, 4, 5, 6, 9, 10, 12, 7] rfl
        have hD : va_D A [(h0, .inr (13, mX13 q0 (upd (upd (upd v0 1 (u6_ 0)) 20 (u6_ 1)) 21 0))), ((q0 0), .inl (k1, 600, .inl f1)), ((q0 19), .inl (k15, 12, .inl (a6_ 0))), ((q0 73), .inl (k48, 400, .inl (a15_ 0))), ((q0 6), .inl (k5, 120, .inl f5)), ((q0 28), .inl (k20, 400, .inl (a15_ 1))), ((q0 11), .inl (k10, 120, .inl f10)), ((q0 5), .inl (k4, 122880, .inl f4)), ((q0 12), .inl (k11, 120, .inl f11)), ((q0 3), .inl (k3, 400, .inl f3)), ((q0 72), .inl (k47, 13, .inl (a34_ 0))), ((q0 2), .inl (k2, 4800, .inl f2)), ((q0 17), .inl (k14, 12, .inl f14))] := hD.sub [8, 0, 11, 1, 2, 3, 4, 5, 6, 9, 10, 12, 7] (by decide) rfl
        generalize H1 = H at hP hS ⊢
        clear hz1
        refine lv_istore (lv' := [(4, .int r34_), (0, .ref h0), (1, .int (u24_ 0)), (2, .int (u24_ 1)), (3, .int (u24_ 2))]) hx hb dX13_nearest_37 hl (by decide) rfl (fun ls hl => ?_)
        refine lv_iload hx hb dX13_nearest_39 (lv_at hl 0 rfl) ?_
        refine lv_iconst (v := 2) hx hb dX13_nearest_41 (by decide) ?_
        have b_ : -2147483648 ≤ r34_.toInt ∧ r34_.toInt ≤ 2147483647 := ⟨zlo _, zhi _⟩
        refine lv_icmp_gt (tgt := 112) hx hb dX13_nearest_42 (by decide) (fun c_ => ?_) (fun c_ => ?_)
        · skip
          have b_ := zT_gt rfl zk_2 c_
          obtain ⟨z112, e_z112⟩ : ∃ z : Int32, z = (u24_ 2) + Int32.ofInt 1 := ⟨_, rfl⟩
          have b_ := zadd (x := (u24_ 2)) (y := Int32.ofInt 1) rfl (show (Int32.ofInt 1).toInt = 1 from by decide) e_z112 (by omega) (by omega)
          refine lv_iinc (v := z112) (lv' := [(3, .int z112), (4, .int r34_), (0, .ref h0), (1, .int (u24_ 0)), (2, .int (u24_ 1))]) hx hb dX13_nearest_112 hl (k := 4) rfl e_z112.symm (by decide) rfl (fun ls hl => ?_)
          refine lv_goto (tgt := 24) hx hb dX13_nearest_115 (by decide) ?_
          have hc : va_P (dC, dI) vwCl [(h0, .inr (13, mX13 q0 (upd (upd (upd v0 1 (u6_ 0)) 20 (u6_ 1)) 21 0))), ((q0 0), .inl (k1, 600, .inl f1)), ((q0 19), .inl (k15, 12, .inl (a6_ 0))), ((q0 73), .inl (k48, 400, .inl (a15_ 0))), ((q0 6), .inl (k5, 120, .inl f5)), ((q0 28), .inl (k20, 400, .inl (a15_ 1))), ((q0 11), .inl (k10, 120, .inl f10)), ((q0 5), .inl (k4, 122880, .inl f4)), ((q0 12), .inl (k11, 120, .inl f11)), ((q0 3), .inl (k3, 400, .inl f3)), ((q0 72), .inl (k47, 13, .inl (a34_ 0))), ((q0 2), .inl (k2, 4800, .inl f2)), ((q0 17), .inl (k14, 12, .inl f14))] H ∧ va_D A [(h0, .inr (13, mX13 q0 (upd (upd (upd v0 1 (u6_ 0)) 20 (u6_ 1)) 21 0))), ((q0 0), .inl (k1, 600, .inl f1)), ((q0 19), .inl (k15, 12, .inl (a6_ 0))), ((q0 73), .inl (k48, 400, .inl (a15_ 0))), ((q0 6), .inl (k5, 120, .inl f5)), ((q0 28), .inl (k20, 400, .inl (a15_ 1))), ((q0 11), .inl (k10, 120, .inl f10)), ((q0 5), .inl (k4, 122880, .inl f4)), ((q0 12), .inl (k11, 120, .inl f11)), ((q0 3), .inl (k3, 400, .inl f3)), ((q0 72), .inl (k47, 13, .inl (a34_ 0))), ((q0 2), .inl (k2, 4800, .inl f2)), ((q0 17), .inl (k14, 12, .inl f14))] ∧ va_S A s.heap H locs ∧ lv_has ls 5 [(0, .ref h0), (1, .int (u24_ 0)), (2, .int (u24_ 1)), (3, .int z112)] ∧ ((-1) ≤ (u24_ 0).toInt ∧ (u24_ 0).toInt ≤ 399) ∧ ((-2147483648) ≤ (u24_ 1).toInt ∧ (u24_ 1).toInt ≤ 3) ∧ (0 ≤ z112.toInt ∧ z112.toInt ≤ 400) := ⟨hP, hD, hS, lv_sub hl [2, 3, 4, 0] rfl, ⟨by omega, by omega⟩, ⟨by omega, by omega⟩, ⟨by omega, by omega⟩⟩
          exact hJ24 H locs ls (fun i => ([(u24_ 0), (u24_ 1), z112] : List (Int32)).getD i 0) (fun _ => 0) (fun i => ([(a34_ 0)] : List (Nat → Int32)).getD i (fun _ => 0)) (fun _ => (fun _ => 0)) hc (show (400 - z112.toInt).toNat < (400 - (u24_ 2).toInt).toNat from by omega)
        · skip
          have b_ := zF_gt rfl zk_2 c_
          refine lv_iload hx hb dX13_nearest_45 (lv_at hl 0 rfl) ?_
          refine lv_iload_n hx hb dX13_nearest_47 rfl (lv_at hl 3 rfl) ?_
          refine lv_icmp_le (tgt := 54) hx hb dX13_nearest_48 (by decide) (fun c_ => ?_) (fun c_ => ?_)
          · skip
            have b_ := zT_le rfl rfl c_
            refine lv_iload_n hx hb dX13_nearest_54 rfl (lv_at hl 2 rfl) ?_
            refine lv_iconst (v := (-1)) hx hb dX13_nearest_55 (by decide) ?_
            refine zcutW (fun H locs ls u107_ w107_ a107_ b107_ => va_P (dC, dI) vwCl [(h0, .inr (13, mX13 q0 (upd (upd (upd v0 1 (u6_ 0)) 20 (u6_ 1)) 21 0))), ((q0 0), .inl (k1, 600, .inl f1)), ((q0 19), .inl (k15, 12, .inl (a6_ 0))), ((q0 73), .inl (k48, 400, .inl (a15_ 0))), ((q0 6), .inl (k5, 120, .inl f5)), ((q0 28), .inl (k20, 400, .inl (a15_ 1))), ((q0 11), .inl (k10, 120, .inl f10)), ((q0 5), .inl (k4, 122880, .inl f4)), ((q0 12), .inl (k11, 120, .inl f11)), ((q0 3), .inl (k3, 400, .inl f3)), ((q0 72), .inl (k47, 13, .inl (a34_ 0))), ((q0 2), .inl (k2, 4800, .inl f2)), ((q0 17), .inl (k14, 12, .inl f14))] H ∧ va_D A [(h0, .inr (13, mX13 q0 (upd (upd (upd v0 1 (u6_ 0)) 20 (u6_ 1)) 21 0))), ((q0 0), .inl (k1, 600, .inl f1)), ((q0 19), .inl (k15, 12, .inl (a6_ 0))), ((q0 73), .inl (k48, 400, .inl (a15_ 0))), ((q0 6), .inl (k5, 120, .inl f5)), ((q0 28), .inl (k20, 400, .inl (a15_ 1))), ((q0 11), .inl (k10, 120, .inl f10)), ((q0 5), .inl (k4, 122880, .inl f4)), ((q0 12), .inl (k11, 120, .inl f11)), ((q0 3), .inl (k3, 400, .inl f3)), ((q0 72), .inl (k47, 13, .inl (a34_ 0))), ((q0 2), .inl (k2, 4800, .inl f2)), ((q0 17), .inl (k14, 12, .inl f14))] ∧ va_S A s.heap H locs ∧ lv_has ls 5 [(0, .ref h0), (1, .int (u24_ 0)), (2, .int (u24_ 1)), (3, .int (u24_ 2)), (4, .int r34_)] ∧ ((-1) ≤ (u24_ 0).toInt ∧ (u24_ 0).toInt ≤ 399)) (fun ls u107_ w107_ => F0 m 107 ls []) 0 0 ?_ (fun hJ107 => ?_)
            · skip
              intro H locs ls u107_ w107_ a107_ b107_ hc
              obtain ⟨hP, hD, hS, hl, b_⟩ := hc
              refine lv_iload_n hx hb dX13_nearest_107 rfl (lv_at hl 3 rfl) ?_
              refine lv_istore_n (lv' := [(1, .int (u24_ 2)), (0, .ref h0), (2, .int (u24_ 1)), (3, .int (u24_ 2)), (4, .int r34_)]) hx hb dX13_nearest_108 rfl hl (by decide) rfl (fun ls hl => ?_)
              refine lv_iload hx hb dX13_nearest_109 (lv_at hl 4 rfl) ?_
              refine lv_istore_n (lv' := [(2, .int r34_), (1, .int (u24_ 2)), (0, .ref h0), (3, .int (u24_ 2)), (4, .int r34_)]) hx hb dX13_nearest_111 rfl hl (by decide) rfl (fun ls hl => ?_)
              obtain ⟨z112, e_z112⟩ : ∃ z : Int32, z = (u24_ 2) + Int32.ofInt 1 := ⟨_, rfl⟩
              have b_ := zadd (x := (u24_ 2)) (y := Int32.ofInt 1) rfl (show (Int32.ofInt 1).toInt = 1 from by decide) e_z112 (by omega) (by omega)
              refine lv_iinc (v := z112) (lv' := [(3, .int z112), (2, .int r34_), (1, .int (u24_ 2)), (0, .ref h0), (4, .int r34_)]) hx hb dX13_nearest_112 hl (k := 3) rfl e_z112.symm (by decide) rfl (fun ls hl => ?_)
              refine lv_goto (tgt := 24) hx hb dX13_nearest_115 (by decide) ?_
              have hc : va_P (dC, dI) vwCl [(h0, .inr (13, mX13 q0 (upd (upd (upd v0 1 (u6_ 0)) 20 (u6_ 1)) 21 0))), ((q0 0), .inl (k1, 600, .inl f1)), ((q0 19), .inl (k15, 12, .inl (a6_ 0))), ((q0 73), .inl (k48, 400, .inl (a15_ 0))), ((q0 6), .inl (k5, 120, .inl f5)), ((q0 28), .inl (k20, 400, .inl (a15_ 1))), ((q0 11), .inl (k10, 120, .inl f10)), ((q0 5), .inl (k4, 122880, .inl f4)), ((q0 12), .inl (k11, 120, .inl f11)), ((q0 3), .inl (k3, 400, .inl f3)), ((q0 72), .inl (k47, 13, .inl (a34_ 0))), ((q0 2), .inl (k2, 4800, .inl f2)), ((q0 17), .inl (k14, 12, .inl f14))] H ∧ va_D A [(h0, .inr (13, mX13 q0 (upd (upd (upd v0 1 (u6_ 0)) 20 (u6_ 1)) 21 0))), ((q0 0), .inl (k1, 600, .inl f1)), ((q0 19), .inl (k15, 12, .inl (a6_ 0))), ((q0 73), .inl (k48, 400, .inl (a15_ 0))), ((q0 6), .inl (k5, 120, .inl f5)), ((q0 28), .inl (k20, 400, .inl (a15_ 1))), ((q0 11), .inl (k10, 120, .inl f10)), ((q0 5), .inl (k4, 122880, .inl f4)), ((q0 12), .inl (k11, 120, .inl f11)), ((q0 3), .inl (k3, 400, .inl f3)), ((q0 72), .inl (k47, 13, .inl (a34_ 0))), ((q0 2), .inl (k2, 4800, .inl f2)), ((q0 17), .inl (k14, 12, .inl f14))] ∧ va_S A s.heap H locs ∧ lv_has ls 5 [(0, .ref h0), (1, .int (u24_ 2)), (2, .int r34_), (3, .int z112)] ∧ ((-1) ≤ (u24_ 2).toInt ∧ (u24_ 2).toInt ≤ 399) ∧ ((-2147483648) ≤ r34_.toInt ∧ r34_.toInt ≤ 3) ∧ (0 ≤ z112.toInt ∧ z112.toInt ≤ 400) := ⟨hP, hD, hS, lv_sub hl [3, 2, 1, 0] rfl, ⟨by omega, by omega⟩, ⟨by omega, by omega⟩, ⟨by omega, by omega⟩⟩
              exact hJ24 H locs ls (fun i => ([(u24_ 2), r34_, z112] : List (Int32)).getD i 0) (fun _ => 0) (fun i => ([(a34_ 0)] : List (Nat → Int32)).getD i (fun _ => 0)) (fun _ => (fun _ => 0)) hc (show (400 - z112.toInt).toNat < (400 - (u24_ 2).toInt).toNat from by omega)
            · skip
              refine lv_icmp_eq (tgt := 107) hx hb dX13_nearest_56 (by decide) (fun c_ => ?_) (fun c_ => ?_)
              · skip
                have b_ := zT_eq rfl zk_m1 c_
                have hc : va_P (dC, dI) vwCl [(h0, .inr (13, mX13 q0 (upd (upd (upd v0 1 (u6_ 0)) 20 (u6_ 1)) 21 0))), ((q0 0), .inl (k1, 600, .inl f1)), ((q0 19), .inl (k15, 12, .inl (a6_ 0))), ((q0 73), .inl (k48, 400, .inl (a15_ 0))), ((q0 6), .inl (k5, 120, .inl f5)), ((q0 28), .inl (k20, 400, .inl (a15_ 1))), ((q0 11), .inl (k10, 120, .inl f10)), ((q0 5), .inl (k4, 122880, .inl f4)), ((q0 12), .inl (k11, 120, .inl f11)), ((q0 3), .inl (k3, 400, .inl f3)), ((q0 72), .inl (k47, 13, .inl (a34_ 0))), ((q0 2), .inl (k2, 4800, .inl f2)), ((q0 17), .inl (k14, 12, .inl f14))] H ∧ va_D A [(h0, .inr (13, mX13 q0 (upd (upd (upd v0 1 (u6_ 0)) 20 (u6_ 1)) 21 0))), ((q0 0), .inl (k1, 600, .inl f1)), ((q0 19), .inl (k15, 12, .inl (a6_ 0))), ((q0 73), .inl (k48, 400, .inl (a15_ 0))), ((q0 6), .inl (k5, 120, .inl f5)), ((q0 28), .inl (k20, 400, .inl (a15_ 1))), ((q0 11), .inl (k10, 120, .inl f10)), ((q0 5), .inl (k4, 122880, .inl f4)), ((q0 12), .inl (k11, 120, .inl f11)), ((q0 3), .inl (k3, 400, .inl f3)), ((q0 72), .inl (k47, 13, .inl (a34_ 0))), ((q0 2), .inl (k2, 4800, .inl f2)), ((q0 17), .inl (k14, 12, .inl f14))] ∧ va_S A s.heap H locs ∧ lv_has ls 5 [(0, .ref h0), (1, .int (u24_ 0)), (2, .int (u24_ 1)), (3, .int (u24_ 2)), (4, .int r34_)] ∧ ((-1) ≤ (u24_ 0).toInt ∧ (u24_ 0).toInt ≤ 399) := ⟨hP, hD, hS, lv_sub hl [1, 2, 3, 4, 0] rfl, ⟨by omega, by omega⟩⟩
                exact hJ107 H locs ls (fun _ => 0) (fun _ => 0) (fun _ => (fun _ => 0)) (fun _ => (fun _ => 0)) hc
              · skip
                have b_ := zF_eq rfl zk_m1 c_
                refine lv_iload hx hb dX13_nearest_59 (lv_at hl 0 rfl) ?_
                refine lv_iload_n hx hb dX13_nearest_61 rfl (lv_at hl 3 rfl) ?_
                refine lv_icmp_ne (tgt := 107) hx hb dX13_nearest_62 (by decide) (fun c_ => ?_) (fun c_ => ?_)
                · skip
                  have b_ := zT_ne rfl rfl c_
                  have hc : va_P (dC, dI) vwCl [(h0, .inr (13, mX13 q0 (upd (upd (upd v0 1 (u6_ 0)) 20 (u6_ 1)) 21 0))), ((q0 0), .inl (k1, 600, .inl f1)), ((q0 19), .inl (k15, 12, .inl (a6_ 0))), ((q0 73), .inl (k48, 400, .inl (a15_ 0))), ((q0 6), .inl (k5, 120, .inl f5)), ((q0 28), .inl (k20, 400, .inl (a15_ 1))), ((q0 11), .inl (k10, 120, .inl f10)), ((q0 5), .inl (k4, 122880, .inl f4)), ((q0 12), .inl (k11, 120, .inl f11)), ((q0 3), .inl (k3, 400, .inl f3)), ((q0 72), .inl (k47, 13, .inl (a34_ 0))), ((q0 2), .inl (k2, 4800, .inl f2)), ((q0 17), .inl (k14, 12, .inl f14))] H ∧ va_D A [(h0, .inr (13, mX13 q0 (upd (upd (upd v0 1 (u6_ 0)) 20 (u6_ 1)) 21 0))), ((q0 0), .inl (k1, 600, .inl f1)), ((q0 19), .inl (k15, 12, .inl (a6_ 0))), ((q0 73), .inl (k48, 400, .inl (a15_ 0))), ((q0 6), .inl (k5, 120, .inl f5)), ((q0 28), .inl (k20, 400, .inl (a15_ 1))), ((q0 11), .inl (k10, 120, .inl f10)), ((q0 5), .inl (k4, 122880, .inl f4)), ((q0 12), .inl (k11, 120, .inl f11)), ((q0 3), .inl (k3, 400, .inl f3)), ((q0 72), .inl (k47, 13, .inl (a34_ 0))), ((q0 2), .inl (k2, 4800, .inl f2)), ((q0 17), .inl (k14, 12, .inl f14))] ∧ va_S A s.heap H locs ∧ lv_has ls 5 [(0, .ref h0), (1, .int (u24_ 0)), (2, .int (u24_ 1)), (3, .int (u24_ 2)), (4, .int r34_)] ∧ ((-1) ≤ (u24_ 0).toInt ∧ (u24_ 0).toInt ≤ 399) := ⟨hP, hD, hS, lv_sub hl [1, 2, 3, 4, 0] rfl, ⟨by omega, by omega⟩⟩
                  exact hJ107 H locs ls (fun _ => 0) (fun _ => 0) (fun _ => (fun _ => 0)) (fun _ => (fun _ => 0)) hc
                · skip
                  have b_ := zF_ne rfl rfl c_
                  refine lv_aload_n hx hb dX13_nearest_65 rfl (lv_at hl 1 rfl) ?_
                  refine va_get (D := (dC, dI)) (ci := 13) (v := .ref (q0 73)) (C := RX13) (T := TX13) (N := 75) hx hb hG zuX13 hown hK hP 0 rfl rfl 73 (by decide) (hG _ zw634) (fun _ h9 => h9) rfl dX13_nearest_66 ?_
                  refine lv_iload_n hx hb dX13_nearest_69 rfl (lv_at hl 4 rfl) ?_
                  refine va_iald hx hb hK hP 3 2 rfl rfl (zin_lit ⟨by omega, by omega⟩) dX13_nearest_70 ?_
                  refine lv_topi (fun z70 e_z70 => ?_)
                  refine lv_aload_n hx hb dX13_nearest_71 rfl (lv_at hl 1 rfl) ?_
                  refine va_get (D := (dC, dI)) (ci := 13) (v := .ref (q0 73)) (C := RX13) (T := TX13) (N := 75) hx hb hG zuX13 hown hK hP 0 rfl rfl 73 (by decide) (hG _ zw634) (fun _ h9 => h9) rfl dX13_nearest_72 ?_
                  refine lv_iload_n hx hb dX13_nearest_75 rfl (lv_at hl 2 rfl) ?_
                  refine va_iald hx hb hK hP 3 2 rfl rfl (zin_lit ⟨by omega, by omega⟩) dX13_nearest_76 ?_
                  refine lv_topi (fun z76 e_z76 => ?_)
                  have b_ : -2147483648 ≤ z70.toInt ∧ z70.toInt ≤ 2147483647 := ⟨zlo _, zhi _⟩
                  have b_ : -2147483648 ≤ z76.toInt ∧ z76.toInt ≤ 2147483647 := ⟨zlo _, zhi _⟩
                  refine lv_icmp_lt (tgt := 112) hx hb dX13_nearest_77 (by decide) (fun c_ => ?_) (fun c_ => ?_)
                  · skip
                    have b_ := zT_lt rfl rfl c_
                    obtain ⟨z112, e_z112⟩ : ∃ z : Int32, z = (u24_ 2) + Int32.ofInt 1 := ⟨_, rfl⟩
                    have b_ := zadd (x := (u24_ 2)) (y := Int32.ofInt 1) rfl (show (Int32.ofInt 1).toInt = 1 from by decide) e_z112 (by omega) (by omega)
                    refine lv_iinc (v := z112) (lv' := [(3, .int z112), (4, .int r34_), (0, .ref h0), (1, .int (u24_ 0)), (2, .int (u24_ 1))]) hx hb dX13_nearest_112 hl (k := 4) rfl e_z112.symm (by decide) rfl (fun ls hl => ?_)
                    refine lv_goto (tgt := 24) hx hb dX13_nearest_115 (by decide) ?_
                    have hc : va_P (dC, dI) vwCl [(h0, .inr (13, mX13 q0 (upd (upd (upd v0 1 (u6_ 0)) 20 (u6_ 1)) 21 0))), ((q0 0), .inl (k1, 600, .inl f1)), ((q0 19), .inl (k15, 12, .inl (a6_ 0))), ((q0 73), .inl (k48, 400, .inl (a15_ 0))), ((q0 6), .inl (k5, 120, .inl f5)), ((q0 28), .inl (k20, 400, .inl (a15_ 1))), ((q0 11), .inl (k10, 120, .inl f10)), ((q0 5), .inl (k4, 122880, .inl f4)), ((q0 12), .inl (k11, 120, .inl f11)), ((q0 3), .inl (k3, 400, .inl f3)), ((q0 72), .inl (k47, 13, .inl (a34_ 0))), ((q0 2), .inl (k2, 4800, .inl f2)), ((q0 17), .inl (k14, 12, .inl f14))] H ∧ va_D A [(h0, .inr (13, mX13 q0 (upd (upd (upd v0 1 (u6_ 0)) 20 (u6_ 1)) 21 0))), ((q0 0), .inl (k1, 600, .inl f1)), ((q0 19), .inl (k15, 12, .inl (a6_ 0))), ((q0 73), .inl (k48, 400, .inl (a15_ 0))), ((q0 6), .inl (k5, 120, .inl f5)), ((q0 28), .inl (k20, 400, .inl (a15_ 1))), ((q0 11), .inl (k10, 120, .inl f10)), ((q0 5), .inl (k4, 122880, .inl f4)), ((q0 12), .inl (k11, 120, .inl f11)), ((q0 3), .inl (k3, 400, .inl f3)), ((q0 72), .inl (k47, 13, .inl (a34_ 0))), ((q0 2), .inl (k2, 4800, .inl f2)), ((q0 17), .inl (k14, 12, .inl f14))] ∧ va_S A s.heap H locs ∧ lv_has ls 5 [(0, .ref h0), (1, .int (u24_ 0)), (2, .int (u24_ 1)), (3, .int z112)] ∧ ((-1) ≤ (u24_ 0).toInt ∧ (u24_ 0).toInt ≤ 399) ∧ ((-2147483648) ≤ (u24_ 1).toInt ∧ (u24_ 1).toInt ≤ 3) ∧ (0 ≤ z112.toInt ∧ z112.toInt ≤ 400) := ⟨hP, hD, hS, lv_sub hl [2, 3, 4, 0] rfl, ⟨by omega, by omega⟩, ⟨by omega, by omega⟩, ⟨by omega, by omega⟩⟩
                    exact hJ24 H locs ls (fun i => ([(u24_ 0), (u24_ 1), z112] : List (Int32)).getD i 0) (fun _ => 0) (fun i => ([(a34_ 0)] : List (Nat → Int32)).getD i (fun _ => 0)) (fun _ => (fun _ => 0)) hc (show (400 - z112.toInt).toNat < (400 - (u24_ 2).toInt).toNat from by omega)
                  · skip
                    have b_ := zF_lt rfl rfl c_
                    refine lv_aload_n hx hb dX13_nearest_80 rfl (lv_at hl 1 rfl) ?_
                    refine va_get (D := (dC, dI)) (ci := 13) (v := .ref (q0 73)) (C := RX13) (T := TX13) (N := 75) hx hb hG zuX13 hown hK hP 0 rfl rfl 73 (by decide) (hG _ zw634) (fun _ h9 => h9) rfl dX13_nearest_81 ?_
                    refine lv_iload_n hx hb dX13_nearest_84 rfl (lv_at hl 4 rfl) ?_
                    refine va_iald hx hb hK hP 3 2 rfl rfl (zin_lit ⟨by omega, by omega⟩) dX13_nearest_85 ?_
                    refine lv_topi (fun z85 e_z85 => ?_)
                    refine lv_aload_n hx hb dX13_nearest_86 rfl (lv_at hl 1 rfl) ?_
                    refine va_get (D := (dC, dI)) (ci := 13) (v := .ref (q0 73)) (C := RX13) (T := TX13) (N := 75) hx hb hG zuX13 hown hK hP 0 rfl rfl 73 (by decide) (hG _ zw634) (fun _ h9 => h9) rfl dX13_nearest_87 ?_
                    refine lv_iload_n hx hb dX13_nearest_90 rfl (lv_at hl 2 rfl) ?_
                    refine va_iald hx hb hK hP 3 2 rfl rfl (zin_lit ⟨by omega, by omega⟩) dX13_nearest_91 ?_
                    refine lv_topi (fun z91 e_z91 => ?_)
                    have b_ : -2147483648 ≤ z85.toInt ∧ z85.toInt ≤ 2147483647 := ⟨zlo _, zhi _⟩
                    have b_ : -2147483648 ≤ z91.toInt ∧ z91.toInt ≤ 2147483647 := ⟨zlo _, zhi _⟩
                    refine lv_icmp_ne (tgt := 107) hx hb dX13_nearest_92 (by decide) (fun c_ => ?_) (fun c_ => ?_)
                    · skip
                      have b_ := zT_ne rfl rfl c_
                      have hc : va_P (dC, dI) vwCl [(h0, .inr (13, mX13 q0 (upd (upd (upd v0 1 (u6_ 0)) 20 (u6_ 1)) 21 0))), ((q0 0), .inl (k1, 600, .inl f1)), ((q0 19), .inl (k15, 12, .inl (a6_ 0))), ((q0 73), .inl (k48, 400, .inl (a15_ 0))), ((q0 6), .inl (k5, 120, .inl f5)), ((q0 28), .inl (k20, 400, .inl (a15_ 1))), ((q0 11), .inl (k10, 120, .inl f10)), ((q0 5), .inl (k4, 122880, .inl f4)), ((q0 12), .inl (k11, 120, .inl f11)), ((q0 3), .inl (k3, 400, .inl f3)), ((q0 72), .inl (k47, 13, .inl (a34_ 0))), ((q0 2), .inl (k2, 4800, .inl f2)), ((q0 17), .inl (k14, 12, .inl f14))] H ∧ va_D A [(h0, .inr (13, mX13 q0 (upd (upd (upd v0 1 (u6_ 0)) 20 (u6_ 1)) 21 0))), ((q0 0), .inl (k1, 600, .inl f1)), ((q0 19), .inl (k15, 12, .inl (a6_ 0))), ((q0 73), .inl (k48, 400, .inl (a15_ 0))), ((q0 6), .inl (k5, 120, .inl f5)), ((q0 28), .inl (k20, 400, .inl (a15_ 1))), ((q0 11), .inl (k10, 120, .inl f10)), ((q0 5), .inl (k4, 122880, .inl f4)), ((q0 12), .inl (k11, 120, .inl f11)), ((q0 3), .inl (k3, 400, .inl f3)), ((q0 72), .inl (k47, 13, .inl (a34_ 0))), ((q0 2), .inl (k2, 4800, .inl f2)), ((q0 17), .inl (k14, 12, .inl f14))] ∧ va_S A s.heap H locs ∧ lv_has ls 5 [(0, .ref h0), (1, .int (u24_ 0)), (2, .int (u24_ 1)), (3, .int (u24_ 2)), (4, .int r34_)] ∧ ((-1) ≤ (u24_ 0).toInt ∧ (u24_ 0).toInt ≤ 399) := ⟨hP, hD, hS, lv_sub hl [1, 2, 3, 4, 0] rfl, ⟨by omega, by omega⟩⟩
                      exact hJ107 H locs ls (fun _ => 0) (fun _ => 0) (fun _ => (fun _ => 0)) (fun _ => (fun _ => 0)) hc
                    · skip
                      have b_ := zF_ne rfl rfl c_
                      refine lv_aload_n hx hb dX13_nearest_95 rfl (lv_at hl 1 rfl) ?_
                      refine lv_iload_n hx hb dX13_nearest_96 rfl (lv_at hl 4 rfl) ?_
                      refine lv_iload_n hx hb dX13_nearest_97 rfl (lv_at hl 2 rfl) ?_
                      have hPc := hP.sub (ws' := [(h0, .inr (13, mX13 q0 (upd (upd (upd v0 1 (u6_ 0)) 20 (u6_ 1)) 21 0))), ((q0 3), .inl (k3, 400, .inl f3)), ((q0 2), .inl (k2, 4800, .inl f2))]) [0, 9, 11] rfl
                      have hDc := hD.sub (ws' := [(h0, .inr (13, mX13 q0 (upd (upd (upd v0 1 (u6_ 0)) 20 (u6_ 1)) 21 0))), ((q0 3), .inl (k3, 400, .inl f3)), ((q0 2), .inl (k2, 4800, .inl f2))]) [0, 9, 11] (by decide) rfl
                      have hKc := hK.sub (tys' := [(k3, .int), (k2, .byte)]) [8, 10] rfl
                      have hFc := va_free (wc := [(h0, .inr (13, mX13 q0 (upd (upd (upd v0 1 (u6_ 0)) 20 (u6_ 1)) 21 0))), ((q0 3), .inl (k3, 400, .inl f3)), ((q0 2), .inl (k2, 4800, .inl f2))]) hD hS hA [0, 9, 11] rfl
                      refine va_calli (va_runV (As := [.int (u24_ 2), .int (u24_ 0)]) (rest := []) ⟨hx, hb, hml, hown, hG⟩ (sX13_order_0 l dC dI adK adV h0 q0 k3 k2 H.size (upd (upd (upd v0 1 (u6_ 0)) 20 (u6_ 1)) 21 0) f3 f2 (u24_ 2) (u24_ 0) (zR_updF (zR_upd (zR_upd hv0 1 (show (0 : Int) ≤ ((u6_ 0) : Int32).toInt from by omega) (show ((u6_ 0) : Int32).toInt ≤ (600 : Int) from by omega)) 20 (show (0 : Int) ≤ ((u6_ 1) : Int32).toInt from by omega) (show ((u6_ 1) : Int32).toInt ≤ (12 : Int) from by omega)) 21 rfl) hf3 ⟨show (0 : Int) ≤ ((u24_ 2) : Int32).toInt from by omega, show ((u24_ 2) : Int32).toInt ≤ (399 : Int) from by omega⟩ ⟨show (0 : Int) ≤ ((u24_ 0) : Int32).toInt from by omega, show ((u24_ 0) : Int32).toInt ≤ (399 : Int) from by omega⟩) (cwV 2 hG (zgV zw561 zw562 zw563 zw524 zw564) rfl rfl rfl (by decide +kernel) ⟨Nat.le_of_ble_eq_true rfl, Nat.le_of_ble_eq_true rfl⟩) ⟨zPc_blind, va_recv hKc hPc (ci := 13) (q0 := 0) rfl rfl, zPc_pre hPc hKc hDc hE hS hFc hZ⟩ rfl rfl hl.1 rfl (lv_room (Nat.le_of_ble_eq_true rfl)) dX13_nearest_98 ⟨Nat.le_of_ble_eq_true rfl, Nat.le_of_ble_eq_true rfl⟩) hS (fun q _ h => hFc q h) hFc (fun r98_ u98_ t H1 locs ht hvm hw hB hz1 hk1 hS => ?_)
                      obtain ⟨w98_, a98_, b98_, hP1, hK1, hD1⟩ := hB
                      rw [ht] at hP1
                      obtain ⟨hP, hD⟩ := va_join (wr := [((q0 0), .inl (k1, 600, .inl f1)), ((q0 19), .inl (k15, 12, .inl (a6_ 0))), ((q0 73), .inl (k48, 400, .inl (a15_ 0))), ((q0 6), .inl (k5, 120, .inl f5)), ((q0 28), .inl (k20, 400, .inl (a15_ 1))), ((q0 11), .inl (k10, 120, .inl f10)), ((q0 5), .inl (k4, 122880, .inl f4)), ((q0 12), .inl (k11, 120, .inl f11)), ((q0 72), .inl (k47, 13, .inl (a34_ 0))), ((q0 17), .inl (k14, 12, .inl f14))]) (w1 := [(h0, .inr (13, mX13 q0 (upd (upd (upd v0 1 (u6_ 0)) 20 (u6_ 1)) 21 0))), ((q0 3), .inl (k3, 400, .inl f3)), ((q0 2), .inl (k2, 4800, .inl f2))]) hP hD [0, 9, 11] [1, 2, 3, 4, 5, 6, 7, 8, 10, 12] rfl rfl (by decide) (by decide) hk1 hFc hP1 hD1
                      have hP : va_P (dC, dI) vwCl [(h0, .inr (13, mX13 q0 (upd (upd (upd v0 1 (u6_ 0)) 20 (u6_ 1)) 21 0))), ((q0 0), .inl (k1, 600, .inl f1)), ((q0 19), .inl (k15, 12, .inl (a6_ 0))), ((q0 73), .inl (k48, 400, .inl (a15_ 0))), ((q0 6), .inl (k5, 120, .inl f5)), ((q0 28), .inl (k20, 400, .inl (a15_ 1))), ((q0 11), .inl (k10, 120, .inl f10)), ((q0 5), .inl (k4, 122880, .inl f4)), ((q0 12), .inl (k11, 120, .inl f11)), ((q0 3), .inl (k3, 400, .inl f3)), ((q0 72), .inl (k47, 13, .inl (a34_ 0))), ((q0 2), .inl (k2, 4800, .inl f2)), ((q0 17), .inl (k14, 12, .inl f14))] H1 := hP.sub [10, 0, 1, 2, 3, 4, 5, 6, 7, 11, 8, 12, 9] rfl
                      have hD : va_D A [(h0, .inr (13, mX13 q0 (upd (upd (upd v0 1 (u6_ 0)) 20 (u6_ 1)) 21 0))), ((q0 0), .inl (k1, 600, .inl f1)), ((q0 19), .inl (k15, 12, .inl (a6_ 0))), ((q0 73), .inl (k48, 400, .inl (a15_ 0))), ((q0 6), .inl (k5, 120, .inl f5)), ((q0 28), .inl (k20, 400, .inl (a15_ 1))), ((q0 11), .inl (k10, 120, .inl f10)), ((q0 5), .inl (k4, 122880, .inl f4)), ((q0 12), .inl (k11, 120, .inl f11)), ((q0 3), .inl (k3, 400, .inl f3)), ((q0 72), .inl (k47, 13, .inl (a34_ 0))), ((q0 2), .inl (k2, 4800, .inl f2)), ((q0 17), .inl (k14, 12, .inl f14))] := hD.sub [10, 0, 1, 2, 3, 4, 5, 6, 7, 11, 8, 12, 9] (by decide) rfl
                      generalize H1 = H at hP hS ⊢
                      clear hz1
                      have b_ : -2147483648 ≤ r98_.toInt ∧ r98_.toInt ≤ 2147483647 := ⟨zlo _, zhi _⟩
                      refine lv_if_le (tgt := 107) hx hb dX13_nearest_101 (by decide) (fun c_ => ?_) (fun c_ => ?_)
                      · skip
                        have b_ := zT_le rfl zk_0 c_
                        have hc : va_P (dC, dI) vwCl [(h0, .inr (13, mX13 q0 (upd (upd (upd v0 1 (u6_ 0)) 20 (u6_ 1)) 21 0))), ((q0 0), .inl (k1, 600, .inl f1)), ((q0 19), .inl (k15, 12, .inl (a6_ 0))), ((q0 73), .inl (k48, 400, .inl (a15_ 0))), ((q0 6), .inl (k5, 120, .inl f5)), ((q0 28), .inl (k20, 400, .inl (a15_ 1))), ((q0 11), .inl (k10, 120, .inl f10)), ((q0 5), .inl (k4, 122880, .inl f4)), ((q0 12), .inl (k11, 120, .inl f11)), ((q0 3), .inl (k3, 400, .inl f3)), ((q0 72), .inl (k47, 13, .inl (a34_ 0))), ((q0 2), .inl (k2, 4800, .inl f2)), ((q0 17), .inl (k14, 12, .inl f14))] H ∧ va_D A [(h0, .inr (13, mX13 q0 (upd (upd (upd v0 1 (u6_ 0)) 20 (u6_ 1)) 21 0))), ((q0 0), .inl (k1, 600, .inl f1)), ((q0 19), .inl (k15, 12, .inl (a6_ 0))), ((q0 73), .inl (k48, 400, .inl (a15_ 0))), ((q0 6), .inl (k5, 120, .inl f5)), ((q0 28), .inl (k20, 400, .inl (a15_ 1))), ((q0 11), .inl (k10, 120, .inl f10)), ((q0 5), .inl (k4, 122880, .inl f4)), ((q0 12), .inl (k11, 120, .inl f11)), ((q0 3), .inl (k3, 400, .inl f3)), ((q0 72), .inl (k47, 13, .inl (a34_ 0))), ((q0 2), .inl (k2, 4800, .inl f2)), ((q0 17), .inl (k14, 12, .inl f14))] ∧ va_S A s.heap H locs ∧ lv_has ls 5 [(0, .ref h0), (1, .int (u24_ 0)), (2, .int (u24_ 1)), (3, .int (u24_ 2)), (4, .int r34_)] ∧ ((-1) ≤ (u24_ 0).toInt ∧ (u24_ 0).toInt ≤ 399) := ⟨hP, hD, hS, lv_sub hl [1, 2, 3, 4, 0] rfl, ⟨by omega, by omega⟩⟩
                        exact hJ107 H locs ls (fun _ => 0) (fun _ => 0) (fun _ => (fun _ => 0)) (fun _ => (fun _ => 0)) hc
                      · skip
                        have b_ := zF_le rfl zk_0 c_
                        refine lv_goto (tgt := 112) hx hb dX13_nearest_104 (by decide) ?_
                        obtain ⟨z112, e_z112⟩ : ∃ z : Int32, z = (u24_ 2) + Int32.ofInt 1 := ⟨_, rfl⟩
                        have b_ := zadd (x := (u24_ 2)) (y := Int32.ofInt 1) rfl (show (Int32.ofInt 1).toInt = 1 from by decide) e_z112 (by omega) (by omega)
                        refine lv_iinc (v := z112) (lv' := [(3, .int z112), (4, .int r34_), (0, .ref h0), (1, .int (u24_ 0)), (2, .int (u24_ 1))]) hx hb dX13_nearest_112 hl (k := 4) rfl e_z112.symm (by decide) rfl (fun ls hl => ?_)
                        refine lv_goto (tgt := 24) hx hb dX13_nearest_115 (by decide) ?_
                        have hc : va_P (dC, dI) vwCl [(h0, .inr (13, mX13 q0 (upd (upd (upd v0 1 (u6_ 0)) 20 (u6_ 1)) 21 0))), ((q0 0), .inl (k1, 600, .inl f1)), ((q0 19), .inl (k15, 12, .inl (a6_ 0))), ((q0 73), .inl (k48, 400, .inl (a15_ 0))), ((q0 6), .inl (k5, 120, .inl f5)), ((q0 28), .inl (k20, 400, .inl (a15_ 1))), ((q0 11), .inl (k10, 120, .inl f10)), ((q0 5), .inl (k4, 122880, .inl f4)), ((q0 12), .inl (k11, 120, .inl f11)), ((q0 3), .inl (k3, 400, .inl f3)), ((q0 72), .inl (k47, 13, .inl (a34_ 0))), ((q0 2), .inl (k2, 4800, .inl f2)), ((q0 17), .inl (k14, 12, .inl f14))] H ∧ va_D A [(h0, .inr (13, mX13 q0 (upd (upd (upd v0 1 (u6_ 0)) 20 (u6_ 1)) 21 0))), ((q0 0), .inl (k1, 600, .inl f1)), ((q0 19), .inl (k15, 12, .inl (a6_ 0))), ((q0 73), .inl (k48, 400, .inl (a15_ 0))), ((q0 6), .inl (k5, 120, .inl f5)), ((q0 28), .inl (k20, 400, .inl (a15_ 1))), ((q0 11), .inl (k10, 120, .inl f10)), ((q0 5), .inl (k4, 122880, .inl f4)), ((q0 12), .inl (k11, 120, .inl f11)), ((q0 3), .inl (k3, 400, .inl f3)), ((q0 72), .inl (k47, 13, .inl (a34_ 0))), ((q0 2), .inl (k2, 4800, .inl f2)), ((q0 17), .inl (k14, 12, .inl f14))] ∧ va_S A s.heap H locs ∧ lv_has ls 5 [(0, .ref h0), (1, .int (u24_ 0)), (2, .int (u24_ 1)), (3, .int z112)] ∧ ((-1) ≤ (u24_ 0).toInt ∧ (u24_ 0).toInt ≤ 399) ∧ ((-2147483648) ≤ (u24_ 1).toInt ∧ (u24_ 1).toInt ≤ 3) ∧ (0 ≤ z112.toInt ∧ z112.toInt ≤ 400) := ⟨hP, hD, hS, lv_sub hl [2, 3, 4, 0] rfl, ⟨by omega, by omega⟩, ⟨by omega, by omega⟩, ⟨by omega, by omega⟩⟩
                        exact hJ24 H locs ls (fun i => ([(u24_ 0), (u24_ 1), z112] : List (Int32)).getD i 0) (fun _ => 0) (fun i => ([(a34_ 0)] : List (Nat → Int32)).getD i (fun _ => 0)) (fun _ => (fun _ => 0)) hc (show (400 - z112.toInt).toNat < (400 - (u24_ 2).toInt).toNat from by omega)
          · skip
            have b_ := zF_le rfl rfl c_
            refine lv_goto (tgt := 112) hx hb dX13_nearest_51 (by decide) ?_
            obtain ⟨z112, e_z112⟩ : ∃ z : Int32, z = (u24_ 2) + Int32.ofInt 1 := ⟨_, rfl⟩
            have b_ := zadd (x := (u24_ 2)) (y := Int32.ofInt 1) rfl (show (Int32.ofInt 1).toInt = 1 from by decide) e_z112 (by omega) (by omega)
            refine lv_iinc (v := z112) (lv' := [(3, .int z112), (4, .int r34_), (0, .ref h0), (1, .int (u24_ 0)), (2, .int (u24_ 1))]) hx hb dX13_nearest_112 hl (k := 4) rfl e_z112.symm (by decide) rfl (fun ls hl => ?_)
            refine lv_goto (tgt := 24) hx hb dX13_nearest_115 (by decide) ?_
            have hc : va_P (dC, dI) vwCl [(h0, .inr (13, mX13 q0 (upd (upd (upd v0 1 (u6_ 0)) 20 (u6_ 1)) 21 0))), ((q0 0), .inl (k1, 600, .inl f1)), ((q0 19), .inl (k15, 12, .inl (a6_ 0))), ((q0 73), .inl (k48, 400, .inl (a15_ 0))), ((q0 6), .inl (k5, 120, .inl f5)), ((q0 28), .inl (k20, 400, .inl (a15_ 1))), ((q0 11), .inl (k10, 120, .inl f10)), ((q0 5), .inl (k4, 122880, .inl f4)), ((q0 12), .inl (k11, 120, .inl f11)), ((q0 3), .inl (k3, 400, .inl f3)), ((q0 72), .inl (k47, 13, .inl (a34_ 0))), ((q0 2), .inl (k2, 4800, .inl f2)), ((q0 17), .inl (k14, 12, .inl f14))] H ∧ va_D A [(h0, .inr (13, mX13 q0 (upd (upd (upd v0 1 (u6_ 0)) 20 (u6_ 1)) 21 0))), ((q0 0), .inl (k1, 600, .inl f1)), ((q0 19), .inl (k15, 12, .inl (a6_ 0))), ((q0 73), .inl (k48, 400, .inl (a15_ 0))), ((q0 6), .inl (k5, 120, .inl f5)), ((q0 28), .inl (k20, 400, .inl (a15_ 1))), ((q0 11), .inl (k10, 120, .inl f10)), ((q0 5), .inl (k4, 122880, .inl f4)), ((q0 12), .inl (k11, 120, .inl f11)), ((q0 3), .inl (k3, 400, .inl f3)), ((q0 72), .inl (k47, 13, .inl (a34_ 0))), ((q0 2), .inl (k2, 4800, .inl f2)), ((q0 17), .inl (k14, 12, .inl f14))] ∧ va_S A s.heap H locs ∧ lv_has ls 5 [(0, .ref h0), (1, .int (u24_ 0)), (2, .int (u24_ 1)), (3, .int z112)] ∧ ((-1) ≤ (u24_ 0).toInt ∧ (u24_ 0).toInt ≤ 399) ∧ ((-2147483648) ≤ (u24_ 1).toInt ∧ (u24_ 1).toInt ≤ 3) ∧ (0 ≤ z112.toInt ∧ z112.toInt ≤ 400) := ⟨hP, hD, hS, lv_sub hl [2, 3, 4, 0] rfl, ⟨by omega, by omega⟩, ⟨by omega, by omega⟩, ⟨by omega, by omega⟩⟩
            exact hJ24 H locs ls (fun i => ([(u24_ 0), (u24_ 1), z112] : List (Int32)).getD i 0) (fun _ => 0) (fun i => ([(a34_ 0)] : List (Nat → Int32)).getD i (fun _ => 0)) (fun _ => (fun _ => 0)) hc (show (400 - z112.toInt).toNat < (400 - (u24_ 2).toInt).toNat from by omega)
    · skip
      have hc : va_P (dC, dI) vwCl [(h0, .inr (13, mX13 q0 (upd (upd (upd v0 1 (u6_ 0)) 20 (u6_ 1)) 21 0))), ((q0 0), .inl (k1, 600, .inl f1)), ((q0 19), .inl (k15, 12, .inl (a6_ 0))), ((q0 73), .inl (k48, 400, .inl (a15_ 0))), ((q0 6), .inl (k5, 120, .inl f5)), ((q0 28), .inl (k20, 400, .inl (a15_ 1))), ((q0 11), .inl (k10, 120, .inl f10)), ((q0 5), .inl (k4, 122880, .inl f4)), ((q0 12), .inl (k11, 120, .inl f11)), ((q0 3), .inl (k3, 400, .inl f3)), ((q0 72), .inl (k47, 13, .inl f47)), ((q0 2), .inl (k2, 4800, .inl f2)), ((q0 17), .inl (k14, 12, .inl f14))] H ∧ va_D A [(h0, .inr (13, mX13 q0 (upd (upd (upd v0 1 (u6_ 0)) 20 (u6_ 1)) 21 0))), ((q0 0), .inl (k1, 600, .inl f1)), ((q0 19), .inl (k15, 12, .inl (a6_ 0))), ((q0 73), .inl (k48, 400, .inl (a15_ 0))), ((q0 6), .inl (k5, 120, .inl f5)), ((q0 28), .inl (k20, 400, .inl (a15_ 1))), ((q0 11), .inl (k10, 120, .inl f10)), ((q0 5), .inl (k4, 122880, .inl f4)), ((q0 12), .inl (k11, 120, .inl f11)), ((q0 3), .inl (k3, 400, .inl f3)), ((q0 72), .inl (k47, 13, .inl f47)), ((q0 2), .inl (k2, 4800, .inl f2)), ((q0 17), .inl (k14, 12, .inl f14))] ∧ va_S A s.heap H locs ∧ lv_has ls 5 [(0, .ref h0), (1, .int (-1)), (2, .int 3), (3, .int 0)] ∧ ((-1) ≤ ((-1) : Int32).toInt ∧ ((-1) : Int32).toInt ≤ 399) ∧ ((-2147483648) ≤ (3 : Int32).toInt ∧ (3 : Int32).toInt ≤ 3) ∧ (0 ≤ (0 : Int32).toInt ∧ (0 : Int32).toInt ≤ 400) := ⟨hP, hD, hS, lv_sub hl [3, 2, 1, 0] rfl, ⟨by omega, by omega⟩, ⟨by omega, by omega⟩, ⟨by omega, by omega⟩⟩
      exact hJ24 H locs ls (fun i => ([(-1), 3, 0] : List (Int32)).getD i 0) (fun _ => 0) (fun i => ([f47] : List (Nat → Int32)).getD i (fun _ => 0)) (fun _ => (fun _ => 0)) hc
  · skip
    have b_ := zF_ne rfl zk_0 c_
    refine lv_iconst (v := (-1)) hx hb dX13_nearest_12 (by decide) ?_
    refine W.widen (k := 0) (n := 0) (by decide) (by decide) ?_
    have b_ : (-1) ≤ (v0 18).toInt ∧ (v0 18).toInt ≤ 12 := hv0 18
    have hpost : ((-2147483648) ≤ ((-1) : Int32).toInt ∧ ((-1) : Int32).toInt ≤ 3) ∧ (0 ≤ (u6_ 0).toInt ∧ (u6_ 0).toInt ≤ 0) ∧ ((-1) ≤ (v0 18).toInt ∧ (v0 18).toInt ≤ 12) ∧ (0 ≤ (u6_ 1).toInt ∧ (u6_ 1).toInt ≤ 12) ∧ (0 ≤ (0 : Int32).toInt ∧ (0 : Int32).toInt ≤ 0) := ⟨⟨by omega, by omega⟩, ⟨by omega, by omega⟩, ⟨by omega, by omega⟩, ⟨by omega, by omega⟩, ⟨by omega, by omega⟩⟩
    have hP9 : va_P (dC, dI) vwCl [(h0, .inr (13, mX13 q0 (upd (upd (upd (upd v0 1 (u6_ 0)) 18 (v0 18)) 20 (u6_ 1)) 21 0))), ((q0 0), .inl (k1, 600, .inl f1)), ((q0 19), .inl (k15, 12, .inl (a6_ 0))), ((q0 73), .inl (k48, 400, .inl f48)), ((q0 6), .inl (k5, 120, .inl f5)), ((q0 28), .inl (k20, 400, .inl f20)), ((q0 11), .inl (k10, 120, .inl f10)), ((q0 5), .inl (k4, 122880, .inl f4)), ((q0 12), .inl (k11, 120, .inl f11)), ((q0 3), .inl (k3, 400, .inl f3)), ((q0 72), .inl (k47, 13, .inl f47)), ((q0 2), .inl (k2, 4800, .inl f2)), ((q0 17), .inl (k14, 12, .inl f14))] H := hP
    have hD9 : va_D A [(h0, .inr (13, mX13 q0 (upd (upd (upd (upd v0 1 (u6_ 0)) 18 (v0 18)) 20 (u6_ 1)) 21 0))), ((q0 0), .inl (k1, 600, .inl f1)), ((q0 19), .inl (k15, 12, .inl (a6_ 0))), ((q0 73), .inl (k48, 400, .inl f48)), ((q0 6), .inl (k5, 120, .inl f5)), ((q0 28), .inl (k20, 400, .inl f20)), ((q0 11), .inl (k10, 120, .inl f10)), ((q0 5), .inl (k4, 122880, .inl f4)), ((q0 12), .inl (k11, 120, .inl f11)), ((q0 3), .inl (k3, 400, .inl f3)), ((q0 72), .inl (k47, 13, .inl f47)), ((q0 2), .inl (k2, 4800, .inl f2)), ((q0 17), .inl (k14, 12, .inl f14))] := hD
    exact W.iret (v := (-1)) hx hb hr (fun t ht hW => ⟨⟨(-1), (fun i => ([(u6_ 0), (v0 18), (u6_ 1), 0] : List (Int32)).getD i 0), rfl, hpost, (fun _ => 0), (fun i => ([(a6_ 0), f48, f20, f47, f14] : List (Nat → Int32)).getD i (fun _ => 0)), (fun _ => (fun _ => 0)), by rw [ht]; exact hP9, va_K.moved hW.alike hK, hD9⟩, hS.F ht⟩) hS.2.2 dX13_nearest_13
