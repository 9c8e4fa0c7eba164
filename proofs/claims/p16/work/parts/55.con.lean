set_option maxHeartbeats 8000000 in
set_option maxRecDepth 100000 in
theorem sX13_score_0 (l : Launch) (dC : Nat → ClassId) (dI : Nat → Nat → Nat) (adK adV : Nat → Nat) (h0 : Nat) (q0 : Nat → Nat) (k39 : ClassId) (k10 : ClassId) (k40 : ClassId) (k4 : ClassId) (k27 : ClassId) (k28 : ClassId) (k29 : ClassId) (k37 : ClassId) (k38 : ClassId) (k11 : ClassId) (k7 : ClassId) (k41 : ClassId) (k5 : ClassId) (sz : Nat) (v0 : Nat → Int32) (f39 : Nat → Int32) (f10 : Nat → Int32) (f40 : Nat → Int32) (f4 : Nat → Int32) (f27 : Nat → Int32) (f28 : Nat → Int32) (f29 : Nat → Int32) (f37 : Nat → Int32) (f38 : Nat → Int32) (f11 : Nat → Int32) (f7 : Nat → Int32) (f41 : Nat → Int32) (f5 : Nat → Int32) (x1 : Int32) (x2 : Int32) (hv0 : zR rg_Model v0) (hf10 : zA 0 512 f10) (hf4 : zA 0 400 f4) (hf11 : zA 0 512 f11) (hf7 : zA 0 600 f7) (hx1 : 0 ≤ x1.toInt ∧ x1.toInt ≤ 119) (hp0_ : zLf f27 f28 f29 (v0 47).toInt) (hp1_ : zMa f41 f39 f5 f4 f27 f28 f29 f37 f38 f40 f10 f11 (v0 13).toInt (v0 47).toInt) (hp2_ : x1.toInt < (v0 13).toInt) (hp3_ : (f5 ((x1 : Int32)).toNatClampNeg).toInt ≠ 0) : Met l yX13_score (zw yX13_score cX13_score 6 (some .int)) { frames := 3, cells := 0, slots := 0, locals := 75 } (zPc dC dI adK adV [.ref h0, .int x1, .int x2] sz [(h0, .inr (13, mX13 q0 v0)), ((q0 63), zi k39 40 f39), ((q0 11), zi k10 120 f10), ((q0 64), zi k40 40 f40), ((q0 5), zi k4 122880 f4), ((q0 43), zi k27 40 f27), ((q0 44), zi k28 40 f28), ((q0 45), zi k29 40 f29), ((q0 61), zi k37 200 f37), ((q0 62), zi k38 16000 f38), ((q0 12), zi k11 120 f11), ((q0 8), zi k7 120 f7), ((q0 65), zi k41 40 f41), ((q0 6), zi k5 120 f5)] [(k39, .boolean), (k10, .int), (k40, .int), (k4, .short), (k27, .int), (k28, .int), (k29, .int), (k37, .int), (k38, .boolean), (k11, .int), (k7, .int), (k41, .int), (k5, .boolean)]) (va_Qi (fun (r : Int32) (u : Nat → Int32) => True) (fun (u : Nat → Int32) (t : State) => ∃ (ww : Nat → Int64) (aa : Nat → Nat → Int32) (bb : Nat → Nat → Int64), va_P (dC, dI) vwCl [(h0, .inr (13, mX13 q0 v0)), ((q0 63), zi k39 40 f39), ((q0 11), zi k10 120 f10), ((q0 64), zi k40 40 f40), ((q0 5), zi k4 122880 f4), ((q0 43), zi k27 40 f27), ((q0 44), zi k28 40 f28), ((q0 45), zi k29 40 f29), ((q0 61), zi k37 200 f37), ((q0 62), zi k38 16000 f38), ((q0 12), zi k11 120 f11), ((q0 8), zi k7 120 f7), ((q0 65), zi k41 40 f41), ((q0 6), zi k5 120 f5)] t.heap ∧ va_K (dC, dI) vwCl [(k39, .boolean), (k10, .int), (k40, .int), (k4, .short), (k27, .int), (k28, .int), (k29, .int), (k37, .int), (k38, .boolean), (k11, .int), (k7, .int), (k41, .int), (k5, .boolean)] t ∧ va_D (va_A [(h0, .inr (13, mX13 q0 v0)), ((q0 63), zi k39 40 f39), ((q0 11), zi k10 120 f10), ((q0 64), zi k40 40 f40), ((q0 5), zi k4 122880 f4), ((q0 43), zi k27 40 f27), ((q0 44), zi k28 40 f28), ((q0 45), zi k29 40 f29), ((q0 61), zi k37 200 f37), ((q0 62), zi k38 16000 f38), ((q0 12), zi k11 120 f11), ((q0 8), zi k7 120 f7), ((q0 65), zi k41 40 f41), ((q0 6), zi k5 120 f5)] sz) [(h0, .inr (13, mX13 q0 v0)), ((q0 63), zi k39 40 f39), ((q0 11), zi k10 120 f10), ((q0 64), zi k40 40 f40), ((q0 5), zi k4 122880 f4), ((q0 43), zi k27 40 f27), ((q0 44), zi k28 40 f28), ((q0 45), zi k29 40 f29), ((q0 61), zi k37 200 f37), ((q0 62), zi k38 16000 f38), ((q0 12), zi k11 120 f11), ((q0 8), zi k7 120 f7), ((q0 65), zi k41 40 f41), ((q0 6), zi k5 120 f5)]) (va_A [(h0, .inr (13, mX13 q0 v0)), ((q0 63), zi k39 40 f39), ((q0 11), zi k10 120 f10), ((q0 64), zi k40 40 f40), ((q0 5), zi k4 122880 f4), ((q0 43), zi k27 40 f27), ((q0 44), zi k28 40 f28), ((q0 45), zi k29 40 f29), ((q0 61), zi k37 200 f37), ((q0 62), zi k38 16000 f38), ((q0 12), zi k11 120 f11), ((q0 8), zi k7 120 f7), ((q0 65), zi k41 40 f41), ((q0 6), zi k5 120 f5)] sz)) 0 0 (va_A [(h0, .inr (13, mX13 q0 v0)), ((q0 63), zi k39 40 f39), ((q0 11), zi k10 120 f10), ((q0 64), zi k40 40 f40), ((q0 5), zi k4 122880 f4), ((q0 43), zi k27 40 f27), ((q0 44), zi k28 40 f28), ((q0 45), zi k29 40 f29), ((q0 61), zi k37 200 f37), ((q0 62), zi k38 16000 f38), ((q0 12), zi k11 120 f11), ((q0 8), zi k7 120 f7), ((q0 65), zi k41 40 f41), ((q0 6), zi k5 120 f5)] sz) := by
  refine Met.ofW (cc := cX13_score) (maxL := 6) (ret := (some .int)) (by decide) rfl ?_
  intro p e s m args below meth c s₁ B hml hv
  obtain ⟨rfl, hsz, hP, hK, hD0, hE, hZ⟩ := hv
  have hx := B.exec
  have hb := B.bytes
  have hr := B.returns
  have hG : ∀ w ∈ zG, w.before _ s = true := fun w h => atoms_spec (ws := (zw yX13_score cX13_score 6 (some .int))) B.pre w (List.mem_cons_of_mem _ h)
  have hown : s.vm.findClass RX13 = some m.cls := findClass_of_methodNamed B.named
  have hlocks := B.notSynchronized

  subst hsz
  have hD := hD0.self (sz := s.heap.size)
  generalize hAe : va_A [(h0, .inr (13, mX13 q0 v0)), ((q0 63), zi k39 40 f39), ((q0 11), zi k10 120 f10), ((q0 64), zi k40 40 f40), ((q0 5), zi k4 122880 f4), ((q0 43), zi k27 40 f27), ((q0 44), zi k28 40 f28), ((q0 45), zi k29 40 f29), ((q0 61), zi k37 200 f37), ((q0 62), zi k38 16000 f38), ((q0 12), zi k11 120 f11), ((q0 8), zi k7 120 f7), ((q0 65), zi k41 40 f41), ((q0 6), zi k5 120 f5)] s.heap.size = A at hD hZ ⊢
  have hA : ∀ q : Nat, s.heap.size ≤ q → A q := fun q h => by rw [← hAe]; exact Or.inr h
  have hS : va_S A s.heap s.heap [] := va_S.rf
  have hl := lv_entry ([.ref h0, .int x1, .int x2]) (n := 6) (Nat.le_of_ble_eq_true rfl)
  rw [lg_entry_eq]
  generalize (lg_sl ([.ref h0, .int x1, .int x2]) ++ List.replicate (6 - (lg_sl ([.ref h0, .int x1, .int x2])).length) Slot.unset).toArray = ls at hl ⊢
  have hl : lv_has ls 6 [(0, .ref h0), (1, .int x1), (2, .int x2)] := hl
  have b_ := zk_0
  have b_ : 0 ≤ (v0 47).toInt ∧ (v0 47).toInt ≤ 40 := hv0 47
  have b_ : 0 ≤ (v0 13).toInt ∧ (v0 13).toInt ≤ 120 := hv0 13
  refine lv_iconst (v := 0) hx hb dX13_score_0 (by decide) ?_
  refine lv_istore_n (lv' := [(3, .int 0), (0, .ref h0), (1, .int x1), (2, .int x2)]) hx hb dX13_score_1 rfl hl (by decide) rfl (fun ls hl => ?_)
  refine lv_iconst (v := 0) hx hb dX13_score_2 (by decide) ?_
  refine lv_istore (lv' := [(4, .int 0), (3, .int 0), (0, .ref h0), (1, .int x1), (2, .int x2)]) hx hb dX13_score_3 hl (by decide) rfl (fun ls hl => ?_)
  refine zcutL (fun u5_ => (40 - (u5_ 1).toInt).toNat) (fun H locs ls u5_ w5_ a5_ b5_ => va_P (dC, dI) vwCl [(h0, .inr (13, mX13 q0 v0)), ((q0 63), zi k39 40 f39), ((q0 11), zi k10 120 f10), ((q0 64), zi k40 40 f40), ((q0 5), zi k4 122880 f4), ((q0 43), zi k27 40 f27), ((q0 44), zi k28 40 f28), ((q0 45), zi k29 40 f29), ((q0 61), zi k37 200 f37), ((q0 62), zi k38 16000 f38), ((q0 12), zi k11 120 f11), ((q0 8), zi k7 120 f7), ((q0 65), zi k41 40 f41), ((q0 6), zi k5 120 f5)] H ∧ va_D A [(h0, .inr (13, mX13 q0 v0)), ((q0 63), zi k39 40 f39), ((q0 11), zi k10 120 f10), ((q0 64), zi k40 40 f40), ((q0 5), zi k4 122880 f4), ((q0 43), zi k27 40 f27), ((q0 44), zi k28 40 f28), ((q0 45), zi k29 40 f29), ((q0 61), zi k37 200 f37), ((q0 62), zi k38 16000 f38), ((q0 12), zi k11 120 f11), ((q0 8), zi k7 120 f7), ((q0 65), zi k41 40 f41), ((q0 6), zi k5 120 f5)] ∧ va_S A s.heap H locs ∧ lv_has ls 6 [(0, .ref h0), (1, .int x1), (2, .int x2), (3, .int (u5_ 0)), (4, .int (u5_ 1))] ∧ (0 ≤ (u5_ 1).toInt ∧ (u5_ 1).toInt ≤ 40)) (fun ls u5_ w5_ => F0 m 5 ls []) 0 0 ?_ (fun hJ5 => ?_)
  · skip
    intro H locs ls u5_ w5_ a5_ b5_ hc hJ5
    obtain ⟨hP, hD, hS, hl, b_⟩ := hc
    refine lv_iload hx hb dX13_score_5 (lv_at hl 4 rfl) ?_
    refine lv_aload_n hx hb dX13_score_7 rfl (lv_at hl 0 rfl) ?_
    refine va_get (D := (dC, dI)) (ci := 13) (v := .int (v0 47)) (C := RX13) (T := TX13) (N := 75) hx hb hG zuX13 hown hK hP 0 rfl rfl 47 (by decide) (hG _ zv1651) (fun _ h9 => h9) rfl dX13_score_8 ?_
    refine lv_icmp_ge (tgt := 87) hx hb dX13_score_11 (by decide) (fun c_ => ?_) (fun c_ => ?_)
    · skip
      have b_ := zT_ge rfl rfl c_
      refine lv_iload_n hx hb dX13_score_87 rfl (lv_at hl 3 rfl) ?_
      refine W.widen (k := 0) (n := 0) (by decide) (by decide) ?_
      have b_ : -2147483648 ≤ (u5_ 0).toInt ∧ (u5_ 0).toInt ≤ 2147483647 := ⟨zlo _, zhi _⟩
      have hpost : True := trivial
      have hP9 : va_P (dC, dI) vwCl [(h0, .inr (13, mX13 q0 v0)), ((q0 63), zi k39 40 f39), ((q0 11), zi k10 120 f10), ((q0 64), zi k40 40 f40), ((q0 5), zi k4 122880 f4), ((q0 43), zi k27 40 f27), ((q0 44), zi k28 40 f28), ((q0 45), zi k29 40 f29), ((q0 61), zi k37 200 f37), ((q0 62), zi k38 16000 f38), ((q0 12), zi k11 120 f11), ((q0 8), zi k7 120 f7), ((q0 65), zi k41 40 f41), ((q0 6), zi k5 120 f5)] H := hP
      have hD9 : va_D A [(h0, .inr (13, mX13 q0 v0)), ((q0 63), zi k39 40 f39), ((q0 11), zi k10 120 f10), ((q0 64), zi k40 40 f40), ((q0 5), zi k4 122880 f4), ((q0 43), zi k27 40 f27), ((q0 44), zi k28 40 f28), ((q0 45), zi k29 40 f29), ((q0 61), zi k37 200 f37), ((q0 62), zi k38 16000 f38), ((q0 12), zi k11 120 f11), ((q0 8), zi k7 120 f7), ((q0 65), zi k41 40 f41), ((q0 6), zi k5 120 f5)] := hD
      exact W.iret (v := (u5_ 0)) hx hb hr (fun t ht hW => ⟨⟨(u5_ 0), (fun _ => 0), rfl, hpost, (fun _ => 0), (fun _ => (fun _ => 0)), (fun _ => (fun _ => 0)), by rw [ht]; exact hP9, va_K.moved hW.alike hK, hD9⟩, hS.F ht⟩) hS.2.2 dX13_score_88
    · skip
      have b_ := zF_ge rfl rfl c_
      refine lv_aload_n hx hb dX13_score_14 rfl (lv_at hl 0 rfl) ?_
      refine va_get (D := (dC, dI)) (ci := 13) (v := .ref (q0 63)) (C := RX13) (T := TX13) (N := 75) hx hb hG zuX13 hown hK hP 0 rfl rfl 63 (by decide) (hG _ zv1667) (fun _ h9 => h9) rfl dX13_score_15 ?_
      refine lv_iload hx hb dX13_score_18 (lv_at hl 4 rfl) ?_
      refine va_zald hx hb hK hP 1 0 rfl rfl (zin_lit ⟨by omega, by omega⟩) dX13_score_20 ?_
      refine lv_topi (fun z20 e_z20 => ?_)
      have b_ : -2147483648 ≤ z20.toInt ∧ z20.toInt ≤ 2147483647 := ⟨zlo _, zhi _⟩
      refine lv_if_eq (tgt := 34) hx hb dX13_score_21 (by decide) (fun c_ => ?_) (fun c_ => ?_)
      · skip
        have b_ := zT_eq rfl zk_0 c_
        refine lv_iconst (v := 0) hx hb dX13_score_34 (by decide) ?_
        refine lv_istore (lv' := [(5, .int 0), (0, .ref h0), (1, .int x1), (2, .int x2), (3, .int (u5_ 0)), (4, .int (u5_ 1))]) hx hb dX13_score_35 hl (by decide) rfl (fun ls hl => ?_)
        refine lv_iload hx hb dX13_score_37 (lv_at hl 0 rfl) ?_
        refine lv_if_le (tgt := 81) hx hb dX13_score_39 (by decide) (fun c_ => ?_) (fun c_ => absurd c_ (by decide))
        obtain ⟨z81, e_z81⟩ : ∃ z : Int32, z = (u5_ 1) + Int32.ofInt 1 := ⟨_, rfl⟩
        have b_ := zadd (x := (u5_ 1)) (y := Int32.ofInt 1) rfl (show (Int32.ofInt 1).toInt = 1 from by decide) e_z81 (by omega) (by omega)
        refine lv_iinc (v := z81) (lv' := [(4, .int z81), (5, .int 0), (0, .ref h0), (1, .int x1), (2, .int x2), (3, .int (u5_ 0))]) hx hb dX13_score_81 hl (k := 5) rfl e_z81.symm (by decide) rfl (fun ls hl => ?_)
        refine lv_goto (tgt := 5) hx hb dX13_score_84 (by decide) ?_
        have b_ : -2147483648 ≤ x2.toInt ∧ x2.toInt ≤ 2147483647 := ⟨zlo _, zhi _⟩
        have b_ : -2147483648 ≤ (u5_ 0).toInt ∧ (u5_ 0).toInt ≤ 2147483647 := ⟨zlo _, zhi _⟩
        have hc : va_P (dC, dI) vwCl [(h0, .inr (13, mX13 q0 v0)), ((q0 63), zi k39 40 f39), ((q0 11), zi k10 120 f10), ((q0 64), zi k40 40 f40), ((q0 5), zi k4 122880 f4), ((q0 43), zi k27 40 f27), ((q0 44), zi k28 40 f28), ((q0 45), zi k29 40 f29), ((q0 61), zi k37 200 f37), ((q0 62), zi k38 16000 f38), ((q0 12), zi k11 120 f11), ((q0 8), zi k7 120 f7), ((q0 65), zi k41 40 f41), ((q0 6), zi k5 120 f5)] H ∧ va_D A [(h0, .inr (13, mX13 q0 v0)), ((q0 63), zi k39 40 f39), ((q0 11), zi k10 120 f10), ((q0 64), zi k40 40 f40), ((q0 5), zi k4 122880 f4), ((q0 43), zi k27 40 f27), ((q0 44), zi k28 40 f28), ((q0 45), zi k29 40 f29), ((q0 61), zi k37 200 f37), ((q0 62), zi k38 16000 f38), ((q0 12), zi k11 120 f11), ((q0 8), zi k7 120 f7), ((q0 65), zi k41 40 f41), ((q0 6), zi k5 120 f5)] ∧ va_S A s.heap H locs ∧ lv_has ls 6 [(0, .ref h0), (1, .int x1), (2, .int x2), (3, .int (u5_ 0)), (4, .int z81)] ∧ (0 ≤ z81.toInt ∧ z81.toInt ≤ 40) := ⟨hP, hD, hS, lv_sub hl [2, 3, 4, 5, 0] rfl, (by first | with_reducible assumption | exact ⟨by omega, by omega⟩)⟩
        exact hJ5 H locs ls (fun i => ([(u5_ 0), z81] : List (Int32)).getD i 0) (fun _ => 0) (fun _ => (fun _ => 0)) (fun _ => (fun _ => 0)) hc (show (40 - z81.toInt).toNat < (40 - (u5_ 1).toInt).toNat from by omega)
      · skip
        have b_ := zF_eq rfl zk_0 c_
        refine lv_aload_n hx hb dX13_score_24 rfl (lv_at hl 0 rfl) ?_
        refine lv_iload hx hb dX13_score_25 (lv_at hl 4 rfl) ?_
        refine lv_iload_n hx hb dX13_score_27 rfl (lv_at hl 1 rfl) ?_
        have hPc := hP.sub (ws' := [(h0, .inr (13, mX13 q0 v0)), ((q0 11), zi k10 120 f10), ((q0 64), zi k40 40 f40), ((q0 5), zi k4 122880 f4), ((q0 43), zi k27 40 f27), ((q0 44), zi k28 40 f28), ((q0 45), zi k29 40 f29), ((q0 61), zi k37 200 f37), ((q0 62), zi k38 16000 f38), ((q0 12), zi k11 120 f11)]) [0, 2, 3, 4, 5, 6, 7, 8, 9, 10] rfl
        have hDc := hD.sub (ws' := [(h0, .inr (13, mX13 q0 v0)), ((q0 11), zi k10 120 f10), ((q0 64), zi k40 40 f40), ((q0 5), zi k4 122880 f4), ((q0 43), zi k27 40 f27), ((q0 44), zi k28 40 f28), ((q0 45), zi k29 40 f29), ((q0 61), zi k37 200 f37), ((q0 62), zi k38 16000 f38), ((q0 12), zi k11 120 f11)]) [0, 2, 3, 4, 5, 6, 7, 8, 9, 10] (by decide) rfl
        have hKc := hK.sub (tys' := [(k10, .int), (k40, .int), (k4, .short), (k27, .int), (k28, .int), (k29, .int), (k37, .int), (k38, .boolean), (k11, .int)]) [1, 2, 3, 4, 5, 6, 7, 8, 9] rfl
        have hFc := va_free (wc := [(h0, .inr (13, mX13 q0 v0)), ((q0 11), zi k10 120 f10), ((q0 64), zi k40 40 f40), ((q0 5), zi k4 122880 f4), ((q0 43), zi k27 40 f27), ((q0 44), zi k28 40 f28), ((q0 45), zi k29 40 f29), ((q0 61), zi k37 200 f37), ((q0 62), zi k38 16000 f38), ((q0 12), zi k11 120 f11)]) hD hS hA [0, 2, 3, 4, 5, 6, 7, 8, 9, 10] rfl
        refine va_calli (va_runV (As := [.int (u5_ 1), .int x1]) (rest := []) ⟨hx, hb, hml, hown, hG⟩ (sX13_weighed_0 l dC dI adK adV h0 q0 k10 k40 k4 k27 k28 k29 k37 k38 k11 H.size v0 f10 f40 f4 f27 f28 f29 f37 f38 f11 (u5_ 1) x1 hv0 hf10 hf4 hf11 (show (0 : Int) ≤ ((u5_ 1) : Int32).toInt ∧ ((u5_ 1) : Int32).toInt ≤ (39 : Int) from (by first | with_reducible assumption | exact ⟨by omega, by omega⟩)) (show (0 : Int) ≤ (x1 : Int32).toInt ∧ (x1 : Int32).toInt ≤ (119 : Int) from (by first | with_reducible assumption | exact ⟨by omega, by omega⟩)) (show zLf f27 f28 f29 (v0 47).toInt from by first | with_reducible assumption | assumption) (show (u5_ 1).toInt < (v0 47).toInt from by omega)) (cwV 2 hG (zgV zv2170 zv2172 zv113 zv142 zv2173) rfl rfl rfl (by decide +kernel) ⟨Nat.le_of_ble_eq_true rfl, Nat.le_of_ble_eq_true rfl⟩) ⟨zPc_blind, va_recv hKc hPc (ci := 13) (q0 := 0) rfl rfl, zPc_pre hPc hKc hDc hE hS hFc hZ⟩ rfl rfl hl.1 rfl (lv_room (Nat.le_of_ble_eq_true rfl)) dX13_score_28 ⟨Nat.le_of_ble_eq_true rfl, Nat.le_of_ble_eq_true rfl⟩) hS (fun q _ h => hFc q h) hFc (fun r28_ u28_ t H1 locs ht hvm hw hB hz1 hk1 hS => ?_)
        replace hw : (0 ≤ r28_.toInt ∧ r28_.toInt ≤ 2048) ∧ (0 < r28_.toInt ↔ zWd f4 f27 f28 f29 f37 f38 f40 f10 f11 (u5_ 1).toInt x1.toInt) ∧ (0 ≤ r28_.toInt) := hw
        obtain ⟨b_, hX28_0, hX28_1⟩ := hw
        obtain ⟨w28_, a28_, b28_, hP1, hK1, hD1⟩ := hB
        rw [ht] at hP1
        obtain ⟨hP, hD⟩ := va_join (wr := [((q0 63), zi k39 40 f39), ((q0 8), zi k7 120 f7), ((q0 65), zi k41 40 f41), ((q0 6), zi k5 120 f5)]) (w1 := [(h0, .inr (13, mX13 q0 v0)), ((q0 11), zi k10 120 f10), ((q0 64), zi k40 40 f40), ((q0 5), zi k4 122880 f4), ((q0 43), zi k27 40 f27), ((q0 44), zi k28 40 f28), ((q0 45), zi k29 40 f29), ((q0 61), zi k37 200 f37), ((q0 62), zi k38 16000 f38), ((q0 12), zi k11 120 f11)]) hP hD [0, 2, 3, 4, 5, 6, 7, 8, 9, 10] [1, 11, 12, 13] rfl rfl (by decide) (by decide) hk1 hFc hP1 hD1
        have hP : va_P (dC, dI) vwCl [(h0, .inr (13, mX13 q0 v0)), ((q0 63), zi k39 40 f39), ((q0 11), zi k10 120 f10), ((q0 64), zi k40 40 f40), ((q0 5), zi k4 122880 f4), ((q0 43), zi k27 40 f27), ((q0 44), zi k28 40 f28), ((q0 45), zi k29 40 f29), ((q0 61), zi k37 200 f37), ((q0 62), zi k38 16000 f38), ((q0 12), zi k11 120 f11), ((q0 8), zi k7 120 f7), ((q0 65), zi k41 40 f41), ((q0 6), zi k5 120 f5)] H1 := hP.sub [4, 0, 5, 6, 7, 8, 9, 10, 11, 12, 13, 1, 2, 3] rfl
        have hD : va_D A [(h0, .inr (13, mX13 q0 v0)), ((q0 63), zi k39 40 f39), ((q0 11), zi k10 120 f10), ((q0 64), zi k40 40 f40), ((q0 5), zi k4 122880 f4), ((q0 43), zi k27 40 f27), ((q0 44), zi k28 40 f28), ((q0 45), zi k29 40 f29), ((q0 61), zi k37 200 f37), ((q0 62), zi k38 16000 f38), ((q0 12), zi k11 120 f11), ((q0 8), zi k7 120 f7), ((q0 65), zi k41 40 f41), ((q0 6), zi k5 120 f5)] := hD.sub [4, 0, 5, 6, 7, 8, 9, 10, 11, 12, 13, 1, 2, 3] (by decide) rfl
        generalize H1 = H at hP hS ⊢
        clear hz1
        refine lv_goto (tgt := 35) hx hb dX13_score_31 (by decide) ?_
        refine lv_istore (lv' := [(5, .int r28_), (0, .ref h0), (1, .int x1), (2, .int x2), (3, .int (u5_ 0)), (4, .int (u5_ 1))]) hx hb dX13_score_35 hl (by decide) rfl (fun ls hl => ?_)
        refine lv_iload hx hb dX13_score_37 (lv_at hl 0 rfl) ?_
        refine lv_if_le (tgt := 81) hx hb dX13_score_39 (by decide) (fun c_ => ?_) (fun c_ => ?_)
        · skip
          have b_ := zT_le rfl zk_0 c_
          obtain ⟨z81, e_z81⟩ : ∃ z : Int32, z = (u5_ 1) + Int32.ofInt 1 := ⟨_, rfl⟩
          have b_ := zadd (x := (u5_ 1)) (y := Int32.ofInt 1) rfl (show (Int32.ofInt 1).toInt = 1 from by decide) e_z81 (by omega) (by omega)
          refine lv_iinc (v := z81) (lv' := [(4, .int z81), (5, .int r28_), (0, .ref h0), (1, .int x1), (2, .int x2), (3, .int (u5_ 0))]) hx hb dX13_score_81 hl (k := 5) rfl e_z81.symm (by decide) rfl (fun ls hl => ?_)
          refine lv_goto (tgt := 5) hx hb dX13_score_84 (by decide) ?_
          have b_ : -2147483648 ≤ x2.toInt ∧ x2.toInt ≤ 2147483647 := ⟨zlo _, zhi _⟩
          have b_ : -2147483648 ≤ (u5_ 0).toInt ∧ (u5_ 0).toInt ≤ 2147483647 := ⟨zlo _, zhi _⟩
          have hc : va_P (dC, dI) vwCl [(h0, .inr (13, mX13 q0 v0)), ((q0 63), zi k39 40 f39), ((q0 11), zi k10 120 f10), ((q0 64), zi k40 40 f40), ((q0 5), zi k4 122880 f4), ((q0 43), zi k27 40 f27), ((q0 44), zi k28 40 f28), ((q0 45), zi k29 40 f29), ((q0 61), zi k37 200 f37), ((q0 62), zi k38 16000 f38), ((q0 12), zi k11 120 f11), ((q0 8), zi k7 120 f7), ((q0 65), zi k41 40 f41), ((q0 6), zi k5 120 f5)] H ∧ va_D A [(h0, .inr (13, mX13 q0 v0)), ((q0 63), zi k39 40 f39), ((q0 11), zi k10 120 f10), ((q0 64), zi k40 40 f40), ((q0 5), zi k4 122880 f4), ((q0 43), zi k27 40 f27), ((q0 44), zi k28 40 f28), ((q0 45), zi k29 40 f29), ((q0 61), zi k37 200 f37), ((q0 62), zi k38 16000 f38), ((q0 12), zi k11 120 f11), ((q0 8), zi k7 120 f7), ((q0 65), zi k41 40 f41), ((q0 6), zi k5 120 f5)] ∧ va_S A s.heap H locs ∧ lv_has ls 6 [(0, .ref h0), (1, .int x1), (2, .int x2), (3, .int (u5_ 0)), (4, .int z81)] ∧ (0 ≤ z81.toInt ∧ z81.toInt ≤ 40) := ⟨hP, hD, hS, lv_sub hl [2, 3, 4, 5, 0] rfl, (by first | with_reducible assumption | exact ⟨by omega, by omega⟩)⟩
          exact hJ5 H locs ls (fun i => ([(u5_ 0), z81] : List (Int32)).getD i 0) (fun _ => 0) (fun _ => (fun _ => 0)) (fun _ => (fun _ => 0)) hc (show (40 - z81.toInt).toNat < (40 - (u5_ 1).toInt).toNat from by omega)
        · skip
          have b_ := zF_le rfl zk_0 c_
          refine lv_iload_n hx hb dX13_score_42 rfl (lv_at hl 4 rfl) ?_
          refine lv_bipush (v := 100) hx hb dX13_score_43 (by decide) ?_
          refine lv_iload hx hb dX13_score_45 (lv_at hl 0 rfl) ?_
          refine lv_imul hx hb dX13_score_47 ?_
          refine lv_topi (fun z47 e_z47 => ?_)
          have b_ := zmul zk_100 rfl e_z47 (by omega) (by omega)
          refine lv_iload hx hb dX13_score_48 (lv_at hl 0 rfl) ?_
          refine lv_iconst (v := 1) hx hb dX13_score_50 (by decide) ?_
          refine lv_iadd hx hb dX13_score_51 ?_
          refine lv_topi (fun z51 e_z51 => ?_)
          have b_ := zadd rfl zk_1 e_z51 (by omega) (by omega)
          refine lv_aload_n hx hb dX13_score_52 rfl (lv_at hl 1 rfl) ?_
          refine va_get (D := (dC, dI)) (ci := 13) (v := .ref (q0 8)) (C := RX13) (T := TX13) (N := 75) hx hb hG zuX13 hown hK hP 0 rfl rfl 8 (by decide) (hG _ zv1612) (fun _ h9 => h9) rfl dX13_score_53 ?_
          refine lv_iload_n hx hb dX13_score_56 rfl (lv_at hl 2 rfl) ?_
          refine va_iald hx hb hK hP 11 10 rfl rfl (zin_lit ⟨by omega, by omega⟩) dX13_score_57 ?_
          refine lv_topi (fun z57 e_z57 => ?_)
          have b_ : 0 ≤ z57.toInt ∧ z57.toInt ≤ 600 := by rw [e_z57]; exact hf7 _
          refine lv_bipush (v := 8) hx hb dX13_score_58 (by decide) ?_
          refine lv_idiv hx hb dX13_score_60 (by decide) ?_
          refine lv_topi (fun z60 e_z60 => ?_)
          have b_ := zdiv rfl zk_8 e_z60 (by omega) (by decide)
          refine lv_iadd hx hb dX13_score_61 ?_
          refine lv_topi (fun z61 e_z61 => ?_)
          have b_ := zadd rfl rfl e_z61 (by omega) (by omega)
          refine lv_idiv hx hb dX13_score_62 (zne0 (show (z61 : Int32).toInt ≠ 0 from by omega)) ?_
          refine lv_topi (fun z62 e_z62 => ?_)
          have b_ := zdivV rfl rfl e_z62 (by omega) (by omega)
          refine lv_bipush (v := 16) hx hb dX13_score_63 (by decide) ?_
          refine lv_iload_n hx hb dX13_score_65 rfl (lv_at hl 3 rfl) ?_
          have b_ : -2147483648 ≤ x2.toInt ∧ x2.toInt ≤ 2147483647 := ⟨zlo _, zhi _⟩
          refine lv_imul hx hb dX13_score_66 ?_
          refine lv_topi (fun z66 e_z66 => ?_)
          refine lv_aload_n hx hb dX13_score_67 rfl (lv_at hl 1 rfl) ?_
          refine va_get (D := (dC, dI)) (ci := 13) (v := .ref (q0 65)) (C := RX13) (T := TX13) (N := 75) hx hb hG zuX13 hown hK hP 0 rfl rfl 65 (by decide) (hG _ zv1669) (fun _ h9 => h9) rfl dX13_score_68 ?_
          refine lv_iload hx hb dX13_score_71 (lv_at hl 5 rfl) ?_
          refine va_iald hx hb hK hP 12 11 rfl rfl (zin_lit ⟨by omega, by omega⟩) dX13_score_73 ?_
          refine lv_topi (fun z73 e_z73 => ?_)
          have b_ : 1 ≤ z73.toInt := by rw [e_z73]; exact hp1_ (u5_ 1).toInt x1.toInt (by omega) (by omega) (by omega) (by omega) (show (f39 ((u5_ 1).toInt).toNat).toInt ≠ 0 from by rw [show f39 ((u5_ 1).toInt).toNat = z20 from e_z20.symm]; omega) hp3_ (hX28_0.mp (by omega))
          have b_ : -2147483648 ≤ z66.toInt ∧ z66.toInt ≤ 2147483647 := ⟨zlo _, zhi _⟩
          refine lv_idiv hx hb dX13_score_74 (zne0 (show (z73 : Int32).toInt ≠ 0 from by omega)) ?_
          refine lv_topi (fun z74 e_z74 => ?_)
          have hPc := hP.sub (ws' := []) [] rfl
          have hDc := hD.sub (ws' := []) [] (by decide) rfl
          have hKc := hK.sub (tys' := []) [] rfl
          have hFc := va_free (wc := []) hD hS hA [] rfl
          refine va_calli (va_runS (As := [.int z74]) (rest := [.int z62, .int (u5_ 0)]) ⟨hx, hb, hml, hown, hG⟩ (sX13_digits_0 l dC dI adK adV H.size z74) (va_cwS 1 hG (zgS zv1909 zv1910 zv142 zv1911) rfl rfl rfl (by decide +kernel) ⟨Nat.le_of_ble_eq_true rfl, Nat.le_of_ble_eq_true rfl⟩) ⟨zPc_blind, zPc_pre hPc hKc hDc hE hS hFc hZ⟩ rfl rfl hl.1 rfl (lv_room (Nat.le_of_ble_eq_true rfl)) dX13_score_75 ⟨Nat.le_of_ble_eq_true rfl, Nat.le_of_ble_eq_true rfl⟩) hS (fun q _ h => hFc q h) hFc (fun r75_ u75_ t H1 locs ht hvm hw hB hz1 hk1 hS => ?_)
          replace hw : (0 ≤ r75_.toInt ∧ r75_.toInt ≤ 31) ∧ (r75_.toInt = zdig z74.toInt) := hw
          obtain ⟨b_, hX75_0⟩ := hw
          obtain ⟨w75_, a75_, b75_, hP1, hK1, hD1⟩ := hB
          rw [ht] at hP1
          obtain ⟨hP, hD⟩ := va_join (wr := [(h0, .inr (13, mX13 q0 v0)), ((q0 63), zi k39 40 f39), ((q0 11), zi k10 120 f10), ((q0 64), zi k40 40 f40), ((q0 5), zi k4 122880 f4), ((q0 43), zi k27 40 f27), ((q0 44), zi k28 40 f28), ((q0 45), zi k29 40 f29), ((q0 61), zi k37 200 f37), ((q0 62), zi k38 16000 f38), ((q0 12), zi k11 120 f11), ((q0 8), zi k7 120 f7), ((q0 65), zi k41 40 f41), ((q0 6), zi k5 120 f5)]) (w1 := []) hP hD [] [0, 1, 2, 3, 4, 5, 6, 7, 8, 9, 10, 11, 12, 13] rfl rfl (by decide) (by decide) hk1 hFc hP1 hD1
          have hP : va_P (dC, dI) vwCl [(h0, .inr (13, mX13 q0 v0)), ((q0 63), zi k39 40 f39), ((q0 11), zi k10 120 f10), ((q0 64), zi k40 40 f40), ((q0 5), zi k4 122880 f4), ((q0 43), zi k27 40 f27), ((q0 44), zi k28 40 f28), ((q0 45), zi k29 40 f29), ((q0 61), zi k37 200 f37), ((q0 62), zi k38 16000 f38), ((q0 12), zi k11 120 f11), ((q0 8), zi k7 120 f7), ((q0 65), zi k41 40 f41), ((q0 6), zi k5 120 f5)] H1 := hP.sub [0, 1, 2, 3, 4, 5, 6, 7, 8, 9, 10, 11, 12, 13] rfl
          have hD : va_D A [(h0, .inr (13, mX13 q0 v0)), ((q0 63), zi k39 40 f39), ((q0 11), zi k10 120 f10), ((q0 64), zi k40 40 f40), ((q0 5), zi k4 122880 f4), ((q0 43), zi k27 40 f27), ((q0 44), zi k28 40 f28), ((q0 45), zi k29 40 f29), ((q0 61), zi k37 200 f37), ((q0 62), zi k38 16000 f38), ((q0 12), zi k11 120 f11), ((q0 8), zi k7 120 f7), ((q0 65), zi k41 40 f41), ((q0 6), zi k5 120 f5)] := hD.sub [0, 1, 2, 3, 4, 5, 6, 7, 8, 9, 10, 11, 12, 13] (by decide) rfl
          generalize H1 = H at hP hS ⊢
          clear hz1
          refine lv_imul hx hb dX13_score_78 ?_
          refine lv_topi (fun z78 e_z78 => ?_)
          have b_ := zmulN (M := 204800) (N := 31) rfl rfl e_z78 ⟨by omega, by omega⟩ ⟨by omega, by omega⟩ (by decide)
          have b_ : -2147483648 ≤ (u5_ 0).toInt ∧ (u5_ 0).toInt ≤ 2147483647 := ⟨zlo _, zhi _⟩
          refine lv_iadd hx hb dX13_score_79 ?_
          refine lv_topi (fun z79 e_z79 => ?_)
          refine lv_istore_n (lv' := [(3, .int z79), (5, .int r28_), (0, .ref h0), (1, .int x1), (2, .int x2), (4, .int (u5_ 1))]) hx hb dX13_score_80 rfl hl (by decide) rfl (fun ls hl => ?_)
          obtain ⟨z81, e_z81⟩ : ∃ z : Int32, z = (u5_ 1) + Int32.ofInt 1 := ⟨_, rfl⟩
          have b_ := zadd (x := (u5_ 1)) (y := Int32.ofInt 1) rfl (show (Int32.ofInt 1).toInt = 1 from by decide) e_z81 (by omega) (by omega)
          refine lv_iinc (v := z81) (lv' := [(4, .int z81), (3, .int z79), (5, .int r28_), (0, .ref h0), (1, .int x1), (2, .int x2)]) hx hb dX13_score_81 hl (k := 5) rfl e_z81.symm (by decide) rfl (fun ls hl => ?_)
          refine lv_goto (tgt := 5) hx hb dX13_score_84 (by decide) ?_
          have b_ : -2147483648 ≤ z79.toInt ∧ z79.toInt ≤ 2147483647 := ⟨zlo _, zhi _⟩
          have hc : va_P (dC, dI) vwCl [(h0, .inr (13, mX13 q0 v0)), ((q0 63), zi k39 40 f39), ((q0 11), zi k10 120 f10), ((q0 64), zi k40 40 f40), ((q0 5), zi k4 122880 f4), ((q0 43), zi k27 40 f27), ((q0 44), zi k28 40 f28), ((q0 45), zi k29 40 f29), ((q0 61), zi k37 200 f37), ((q0 62), zi k38 16000 f38), ((q0 12), zi k11 120 f11), ((q0 8), zi k7 120 f7), ((q0 65), zi k41 40 f41), ((q0 6), zi k5 120 f5)] H ∧ va_D A [(h0, .inr (13, mX13 q0 v0)), ((q0 63), zi k39 40 f39), ((q0 11), zi k10 120 f10), ((q0 64), zi k40 40 f40), ((q0 5), zi k4 122880 f4), ((q0 43), zi k27 40 f27), ((q0 44), zi k28 40 f28), ((q0 45), zi k29 40 f29), ((q0 61), zi k37 200 f37), ((q0 62), zi k38 16000 f38), ((q0 12), zi k11 120 f11), ((q0 8), zi k7 120 f7), ((q0 65), zi k41 40 f41), ((q0 6), zi k5 120 f5)] ∧ va_S A s.heap H locs ∧ lv_has ls 6 [(0, .ref h0), (1, .int x1), (2, .int x2), (3, .int z79), (4, .int z81)] ∧ (0 ≤ z81.toInt ∧ z81.toInt ≤ 40) := ⟨hP, hD, hS, lv_sub hl [3, 4, 5, 1, 0] rfl, (by first | with_reducible assumption | exact ⟨by omega, by omega⟩)⟩
          exact hJ5 H locs ls (fun i => ([z79, z81] : List (Int32)).getD i 0) (fun _ => 0) (fun _ => (fun _ => 0)) (fun _ => (fun _ => 0)) hc (show (40 - z81.toInt).toNat < (40 - (u5_ 1).toInt).toNat from by omega)
  · skip
    have b_ : -2147483648 ≤ x2.toInt ∧ x2.toInt ≤ 2147483647 := ⟨zlo _, zhi _⟩
    have hc : va_P (dC, dI) vwCl [(h0, .inr (13, mX13 q0 v0)), ((q0 63), zi k39 40 f39), ((q0 11), zi k10 120 f10), ((q0 64), zi k40 40 f40), ((q0 5), zi k4 122880 f4), ((q0 43), zi k27 40 f27), ((q0 44), zi k28 40 f28), ((q0 45), zi k29 40 f29), ((q0 61), zi k37 200 f37), ((q0 62), zi k38 16000 f38), ((q0 12), zi k11 120 f11), ((q0 8), zi k7 120 f7), ((q0 65), zi k41 40 f41), ((q0 6), zi k5 120 f5)] s.heap ∧ va_D A [(h0, .inr (13, mX13 q0 v0)), ((q0 63), zi k39 40 f39), ((q0 11), zi k10 120 f10), ((q0 64), zi k40 40 f40), ((q0 5), zi k4 122880 f4), ((q0 43), zi k27 40 f27), ((q0 44), zi k28 40 f28), ((q0 45), zi k29 40 f29), ((q0 61), zi k37 200 f37), ((q0 62), zi k38 16000 f38), ((q0 12), zi k11 120 f11), ((q0 8), zi k7 120 f7), ((q0 65), zi k41 40 f41), ((q0 6), zi k5 120 f5)] ∧ va_S A s.heap s.heap [] ∧ lv_has ls 6 [(0, .ref h0), (1, .int x1), (2, .int x2), (3, .int 0), (4, .int 0)] ∧ (0 ≤ (0 : Int32).toInt ∧ (0 : Int32).toInt ≤ 40) := ⟨hP, hD, hS, lv_sub hl [2, 3, 4, 1, 0] rfl, (by first | with_reducible assumption | exact ⟨by omega, by omega⟩)⟩
    exact hJ5 s.heap [] ls (fun i => ([0, 0] : List (Int32)).getD i 0) (fun _ => 0) (fun _ => (fun _ => 0)) (fun _ => (fun _ => 0)) hc
set_option maxHeartbeats 8000000 in
set_option maxRecDepth 100000 in
theorem sX13_isShown_0 (l : Launch) (dC : Nat → ClassId) (dI : Nat → Nat → Nat) (adK adV : Nat → Nat) (h0 : Nat) (q0 : Nat → Nat) (k39 : ClassId) (k40 : ClassId) (k4 : ClassId) (k27 : ClassId) (k28 : ClassId) (k29 : ClassId) (k37 : ClassId) (k38 : ClassId) (sz : Nat) (v0 : Nat → Int32) (f39 : Nat → Int32) (f40 : Nat → Int32) (f4 : Nat → Int32) (f27 : Nat → Int32) (f28 : Nat → Int32) (f29 : Nat → Int32) (f37 : Nat → Int32) (f38 : Nat → Int32) (x1 : Int32) (x2 : Int32) (hv0 : zR rg_Model v0) (hf4 : zA 0 400 f4) (hx1 : 0 ≤ x1.toInt ∧ x1.toInt ≤ 119) (hx2 : 0 ≤ x2.toInt ∧ x2.toInt ≤ 1023) (hp0_ : zLf f27 f28 f29 (v0 47).toInt) : Met l yX13_isShown (zw yX13_isShown cX13_isShown 4 (some .boolean)) { frames := 2, cells := 0, slots := 0, locals := 51 } (zPc dC dI adK adV [.ref h0, .int x1, .int x2] sz [(h0, .inr (13, mX13 q0 v0)), ((q0 63), zi k39 40 f39), ((q0 64), zi k40 40 f40), ((q0 5), zi k4 122880 f4), ((q0 43), zi k27 40 f27), ((q0 44), zi k28 40 f28), ((q0 45), zi k29 40 f29), ((q0 61), zi k37 200 f37), ((q0 62), zi k38 16000 f38)] [(k39, .boolean), (k40, .int), (k4, .short), (k27, .int), (k28, .int), (k29, .int), (k37, .int), (k38, .boolean)]) (va_Qi (fun (r : Int32) (u : Nat → Int32) => (0 ≤ r.toInt ∧ r.toInt ≤ 1)) (fun (u : Nat → Int32) (t : State) => ∃ (ww : Nat → Int64) (aa : Nat → Nat → Int32) (bb : Nat → Nat → Int64), va_P (dC, dI) vwCl [(h0, .inr (13, mX13 q0 v0)), ((q0 63), zi k39 40 f39), ((q0 64), zi k40 40 f40), ((q0 5), zi k4 122880 f4), ((q0 43), zi k27 40 f27), ((q0 44), zi k28 40 f28), ((q0 45), zi k29 40 f29), ((q0 61), zi k37 200 f37), ((q0 62), zi k38 16000 f38)] t.heap ∧ va_K (dC, dI) vwCl [(k39, .boolean), (k40, .int), (k4, .short), (k27, .int), (k28, .int), (k29, .int), (k37, .int), (k38, .boolean)] t ∧ va_D (va_A [(h0, .inr (13, mX13 q0 v0)), ((q0 63), zi k39 40 f39), ((q0 64), zi k40 40 f40), ((q0 5), zi k4 122880 f4), ((q0 43), zi k27 40 f27), ((q0 44), zi k28 40 f28), ((q0 45), zi k29 40 f29), ((q0 61), zi k37 200 f37), ((q0 62), zi k38 16000 f38)] sz) [(h0, .inr (13, mX13 q0 v0)), ((q0 63), zi k39 40 f39), ((q0 64), zi k40 40 f40), ((q0 5), zi k4 122880 f4), ((q0 43), zi k27 40 f27), ((q0 44), zi k28 40 f28), ((q0 45), zi k29 40 f29), ((q0 61), zi k37 200 f37), ((q0 62), zi k38 16000 f38)]) (va_A [(h0, .inr (13, mX13 q0 v0)), ((q0 63), zi k39 40 f39), ((q0 64), zi k40 40 f40), ((q0 5), zi k4 122880 f4), ((q0 43), zi k27 40 f27), ((q0 44), zi k28 40 f28), ((q0 45), zi k29 40 f29), ((q0 61), zi k37 200 f37), ((q0 62), zi k38 16000 f38)] sz)) 0 0 (va_A [(h0, .inr (13, mX13 q0 v0)), ((q0 63), zi k39 40 f39), ((q0 64), zi k40 40 f40), ((q0 5), zi k4 122880 f4), ((q0 43), zi k27 40 f27), ((q0 44), zi k28 40 f28), ((q0 45), zi k29 40 f29), ((q0 61), zi k37 200 f37), ((q0 62), zi k38 16000 f38)] sz) := by
  refine Met.ofW (cc := cX13_isShown) (maxL := 4) (ret := (some .boolean)) (by decide) rfl ?_
  intro p e s m args below meth c s₁ B hml hv
  obtain ⟨rfl, hsz, hP, hK, hD0, hE, hZ⟩ := hv
  have hx := B.exec
  have hb := B.bytes
  have hr := B.returns
  have hG : ∀ w ∈ zG, w.before _ s = true := fun w h => atoms_spec (ws := (zw yX13_isShown cX13_isShown 4 (some .boolean))) B.pre w (List.mem_cons_of_mem _ h)
  have hown : s.vm.findClass RX13 = some m.cls := findClass_of_methodNamed B.named
  have hlocks := B.notSynchronized

  subst hsz
  have hD := hD0.self (sz := s.heap.size)
  generalize hAe : va_A [(h0, .inr (13, mX13 q0 v0)), ((q0 63), zi k39 40 f39), ((q0 64), zi k40 40 f40), ((q0 5), zi k4 122880 f4), ((q0 43), zi k27 40 f27), ((q0 44), zi k28 40 f28), ((q0 45), zi k29 40 f29), ((q0 61), zi k37 200 f37), ((q0 62), zi k38 16000 f38)] s.heap.size = A at hD hZ ⊢
  have hA : ∀ q : Nat, s.heap.size ≤ q → A q := fun q h => by rw [← hAe]; exact Or.inr h
  have hS : va_S A s.heap s.heap [] := va_S.rf
  have hl := lv_entry ([.ref h0, .int x1, .int x2]) (n := 4) (Nat.le_of_ble_eq_true rfl)
  rw [lg_entry_eq]
  generalize (lg_sl ([.ref h0, .int x1, .int x2]) ++ List.replicate (4 - (lg_sl ([.ref h0, .int x1, .int x2])).length) Slot.unset).toArray = ls at hl ⊢
  have hl : lv_has ls 4 [(0, .ref h0), (1, .int x1), (2, .int x2)] := hl
  have b_ := zk_0
  have b_ := zk_1
  have b_ : 0 ≤ (v0 47).toInt ∧ (v0 47).toInt ≤ 40 := hv0 47
  refine lv_iconst (v := 0) hx hb dX13_isShown_0 (by decide) ?_
  refine lv_istore_n (lv' := [(3, .int 0), (0, .ref h0), (1, .int x1), (2, .int x2)]) hx hb dX13_isShown_1 rfl hl (by decide) rfl (fun ls hl => ?_)
  refine zcutL (fun u2_ => (40 - (u2_ 0).toInt).toNat) (fun H locs ls u2_ w2_ a2_ b2_ => va_P (dC, dI) vwCl [(h0, .inr (13, mX13 q0 v0)), ((q0 63), zi k39 40 f39), ((q0 64), zi k40 40 f40), ((q0 5), zi k4 122880 f4), ((q0 43), zi k27 40 f27), ((q0 44), zi k28 40 f28), ((q0 45), zi k29 40 f29), ((q0 61), zi k37 200 f37), ((q0 62), zi k38 16000 f38)] H ∧ va_D A [(h0, .inr (13, mX13 q0 v0)), ((q0 63), zi k39 40 f39), ((q0 64), zi k40 40 f40), ((q0 5), zi k4 122880 f4), ((q0 43), zi k27 40 f27), ((q0 44), zi k28 40 f28), ((q0 45), zi k29 40 f29), ((q0 61), zi k37 200 f37), ((q0 62), zi k38 16000 f38)] ∧ va_S A s.heap H locs ∧ lv_has ls 4 [(0, .ref h0), (1, .int x1), (2, .int x2), (3, .int (u2_ 0))] ∧ (0 ≤ (u2_ 0).toInt ∧ (u2_ 0).toInt ≤ 40)) (fun ls u2_ w2_ => F0 m 2 ls []) 0 0 ?_ (fun hJ2 => ?_)
  · skip
    intro H locs ls u2_ w2_ a2_ b2_ hc hJ2
    obtain ⟨hP, hD, hS, hl, b_⟩ := hc
    refine lv_iload_n hx hb dX13_isShown_2 rfl (lv_at hl 3 rfl) ?_
    refine lv_aload_n hx hb dX13_isShown_3 rfl (lv_at hl 0 rfl) ?_
    refine va_get (D := (dC, dI)) (ci := 13) (v := .int (v0 47)) (C := RX13) (T := TX13) (N := 75) hx hb hG zuX13 hown hK hP 0 rfl rfl 47 (by decide) (hG _ zv1651) (fun _ h9 => h9) rfl dX13_isShown_4 ?_
    refine lv_icmp_ge (tgt := 46) hx hb dX13_isShown_7 (by decide) (fun c_ => ?_) (fun c_ => ?_)
    · skip
      have b_ := zT_ge rfl rfl c_
      refine lv_iconst (v := 0) hx hb dX13_isShown_46 (by decide) ?_
      refine W.widen (k := 0) (n := 0) (by decide) (by decide) ?_
      have hpost : (0 ≤ (0 : Int32).toInt ∧ (0 : Int32).toInt ≤ 1) := (by first | with_reducible assumption | exact ⟨by omega, by omega⟩)
      have hP9 : va_P (dC, dI) vwCl [(h0, .inr (13, mX13 q0 v0)), ((q0 63), zi k39 40 f39), ((q0 64), zi k40 40 f40), ((q0 5), zi k4 122880 f4), ((q0 43), zi k27 40 f27), ((q0 44), zi k28 40 f28), ((q0 45), zi k29 40 f29), ((q0 61), zi k37 200 f37), ((q0 62), zi k38 16000 f38)] H := hP
      have hD9 : va_D A [(h0, .inr (13, mX13 q0 v0)), ((q0 63), zi k39 40 f39), ((q0 64), zi k40 40 f40), ((q0 5), zi k4 122880 f4), ((q0 43), zi k27 40 f27), ((q0 44), zi k28 40 f28), ((q0 45), zi k29 40 f29), ((q0 61), zi k37 200 f37), ((q0 62), zi k38 16000 f38)] := hD
      exact W.zret (v := 0) hx hb hr rfl (fun t ht hW => ⟨⟨0, (fun _ => 0), rfl, hpost, (fun _ => 0), (fun _ => (fun _ => 0)), (fun _ => (fun _ => 0)), by rw [ht]; exact hP9, va_K.moved hW.alike hK, hD9⟩, hS.F ht⟩) hS.2.2 dX13_isShown_47
    · skip
      have b_ := zF_ge rfl rfl c_
      refine lv_aload_n hx hb dX13_isShown_10 rfl (lv_at hl 0 rfl) ?_
      refine va_get (D := (dC, dI)) (ci := 13) (v := .ref (q0 63)) (C := RX13) (T := TX13) (N := 75) hx hb hG zuX13 hown hK hP 0 rfl rfl 63 (by decide) (hG _ zv1667) (fun _ h9 => h9) rfl dX13_isShown_11 ?_
      refine lv_iload_n hx hb dX13_isShown_14 rfl (lv_at hl 3 rfl) ?_
      refine va_zald hx hb hK hP 1 0 rfl rfl (zin_lit ⟨by omega, by omega⟩) dX13_isShown_15 ?_
      refine lv_topi (fun z15 e_z15 => ?_)
      have b_ : -2147483648 ≤ z15.toInt ∧ z15.toInt ≤ 2147483647 := ⟨zlo _, zhi _⟩
      refine lv_if_eq (tgt := 40) hx hb dX13_isShown_16 (by decide) (fun c_ => ?_) (fun c_ => ?_)
      · skip
        have b_ := zT_eq rfl zk_0 c_
        obtain ⟨z40, e_z40⟩ : ∃ z : Int32, z = (u2_ 0) + Int32.ofInt 1 := ⟨_, rfl⟩
        have b_ := zadd (x := (u2_ 0)) (y := Int32.ofInt 1) rfl (show (Int32.ofInt 1).toInt = 1 from by decide) e_z40 (by omega) (by omega)
        refine lv_iinc (v := z40) (lv' := [(3, .int z40), (0, .ref h0), (1, .int x1), (2, .int x2)]) hx hb dX13_isShown_40 hl (k := 3) rfl e_z40.symm (by decide) rfl (fun ls hl => ?_)
        refine lv_goto (tgt := 2) hx hb dX13_isShown_43 (by decide) ?_
        have hc : va_P (dC, dI) vwCl [(h0, .inr (13, mX13 q0 v0)), ((q0 63), zi k39 40 f39), ((q0 64), zi k40 40 f40), ((q0 5), zi k4 122880 f4), ((q0 43), zi k27 40 f27), ((q0 44), zi k28 40 f28), ((q0 45), zi k29 40 f29), ((q0 61), zi k37 200 f37), ((q0 62), zi k38 16000 f38)] H ∧ va_D A [(h0, .inr (13, mX13 q0 v0)), ((q0 63), zi k39 40 f39), ((q0 64), zi k40 40 f40), ((q0 5), zi k4 122880 f4), ((q0 43), zi k27 40 f27), ((q0 44), zi k28 40 f28), ((q0 45), zi k29 40 f29), ((q0 61), zi k37 200 f37), ((q0 62), zi k38 16000 f38)] ∧ va_S A s.heap H locs ∧ lv_has ls 4 [(0, .ref h0), (1, .int x1), (2, .int x2), (3, .int z40)] ∧ (0 ≤ z40.toInt ∧ z40.toInt ≤ 40) := ⟨hP, hD, hS, lv_sub hl [1, 2, 3, 0] rfl, (by first | with_reducible assumption | exact ⟨by omega, by omega⟩)⟩
        exact hJ2 H locs ls (fun i => ([z40] : List (Int32)).getD i 0) (fun _ => 0) (fun _ => (fun _ => 0)) (fun _ => (fun _ => 0)) hc (show (40 - z40.toInt).toNat < (40 - (u2_ 0).toInt).toNat from by omega)
      · skip
        have b_ := zF_eq rfl zk_0 c_
        refine lv_aload_n hx hb dX13_isShown_19 rfl (lv_at hl 0 rfl) ?_
        refine lv_iload_n hx hb dX13_isShown_20 rfl (lv_at hl 3 rfl) ?_
        refine lv_iload_n hx hb dX13_isShown_21 rfl (lv_at hl 2 rfl) ?_
        have hPc := hP.sub (ws' := [(h0, .inr (13, mX13 q0 v0)), ((q0 64), zi k40 40 f40)]) [0, 2] rfl
        have hDc := hD.sub (ws' := [(h0, .inr (13, mX13 q0 v0)), ((q0 64), zi k40 40 f40)]) [0, 2] (by decide) rfl
        have hKc := hK.sub (tys' := [(k40, .int)]) [1] rfl
        have hFc := va_free (wc := [(h0, .inr (13, mX13 q0 v0)), ((q0 64), zi k40 40 f40)]) hD hS hA [0, 2] rfl
        refine va_calli (va_runV (As := [.int (u2_ 0), .int x2]) (rest := []) ⟨hx, hb, hml, hown, hG⟩ (sX13_isLeft_0 l dC dI adK adV h0 q0 k40 H.size v0 f40 (u2_ 0) x2 hv0 (show (0 : Int) ≤ ((u2_ 0) : Int32).toInt ∧ ((u2_ 0) : Int32).toInt ≤ (39 : Int) from (by first | with_reducible assumption | exact ⟨by omega, by omega⟩))) (cwV 2 hG (zgV zv2174 zv2176 zv114 zv142 zv2177) rfl rfl rfl (by decide +kernel) ⟨Nat.le_of_ble_eq_true rfl, Nat.le_of_ble_eq_true rfl⟩) ⟨zPc_blind, va_recv hKc hPc (ci := 13) (q0 := 0) rfl rfl, zPc_pre hPc hKc hDc hE hS hFc hZ⟩ rfl rfl hl.1 rfl (lv_room (Nat.le_of_ble_eq_true rfl)) dX13_isShown_22 ⟨Nat.le_of_ble_eq_true rfl, Nat.le_of_ble_eq_true rfl⟩) hS (fun q _ h => hFc q h) hFc (fun r22_ u22_ t H1 locs ht hvm hw hB hz1 hk1 hS => ?_)
        replace hw : (0 ≤ r22_.toInt ∧ r22_.toInt ≤ 1) ∧ (r22_.toInt = 1 ↔ zIl f40 (u2_ 0).toInt x2.toInt) := hw
        obtain ⟨b_, hX22_0⟩ := hw
        obtain ⟨w22_, a22_, b22_, hP1, hK1, hD1⟩ := hB
        rw [ht] at hP1
        obtain ⟨hP, hD⟩ := va_join (wr := [((q0 63), zi k39 40 f39), ((q0 5), zi k4 122880 f4), ((q0 43), zi k27 40 f27), ((q0 44), zi k28 40 f28), ((q0 45), zi k29 40 f29), ((q0 61), zi k37 200 f37), ((q0 62), zi k38 16000 f38)]) (w1 := [(h0, .inr (13, mX13 q0 v0)), ((q0 64), zi k40 40 f40)]) hP hD [0, 2] [1, 3, 4, 5, 6, 7, 8] rfl rfl (by decide) (by decide) hk1 hFc hP1 hD1
        have hP : va_P (dC, dI) vwCl [(h0, .inr (13, mX13 q0 v0)), ((q0 63), zi k39 40 f39), ((q0 64), zi k40 40 f40), ((q0 5), zi k4 122880 f4), ((q0 43), zi k27 40 f27), ((q0 44), zi k28 40 f28), ((q0 45), zi k29 40 f29), ((q0 61), zi k37 200 f37), ((q0 62), zi k38 16000 f38)] H1 := hP.sub [7, 0, 8, 1, 2, 3, 4, 5, 6] rfl
        have hD : va_D A [(h0, .inr (13, mX13 q0 v0)), ((q0 63), zi k39 40 f39), ((q0 64), zi k40 40 f40), ((q0 5), zi k4 122880 f4), ((q0 43), zi k27 40 f27), ((q0 44), zi k28 40 f28), ((q0 45), zi k29 40 f29), ((q0 61), zi k37 200 f37), ((q0 62), zi k38 16000 f38)] := hD.sub [7, 0, 8, 1, 2, 3, 4, 5, 6] (by decide) rfl
        generalize H1 = H at hP hS ⊢
        clear hz1
        refine lv_if_eq (tgt := 40) hx hb dX13_isShown_25 (by decide) (fun c_ => ?_) (fun c_ => ?_)
        · skip
          have b_ := zT_eq rfl zk_0 c_
          obtain ⟨z40, e_z40⟩ : ∃ z : Int32, z = (u2_ 0) + Int32.ofInt 1 := ⟨_, rfl⟩
          have b_ := zadd (x := (u2_ 0)) (y := Int32.ofInt 1) rfl (show (Int32.ofInt 1).toInt = 1 from by decide) e_z40 (by omega) (by omega)
          refine lv_iinc (v := z40) (lv' := [(3, .int z40), (0, .ref h0), (1, .int x1), (2, .int x2)]) hx hb dX13_isShown_40 hl (k := 3) rfl e_z40.symm (by decide) rfl (fun ls hl => ?_)
          refine lv_goto (tgt := 2) hx hb dX13_isShown_43 (by decide) ?_
          have hc : va_P (dC, dI) vwCl [(h0, .inr (13, mX13 q0 v0)), ((q0 63), zi k39 40 f39), ((q0 64), zi k40 40 f40), ((q0 5), zi k4 122880 f4), ((q0 43), zi k27 40 f27), ((q0 44), zi k28 40 f28), ((q0 45), zi k29 40 f29), ((q0 61), zi k37 200 f37), ((q0 62), zi k38 16000 f38)] H ∧ va_D A [(h0, .inr (13, mX13 q0 v0)), ((q0 63), zi k39 40 f39), ((q0 64), zi k40 40 f40), ((q0 5), zi k4 122880 f4), ((q0 43), zi k27 40 f27), ((q0 44), zi k28 40 f28), ((q0 45), zi k29 40 f29), ((q0 61), zi k37 200 f37), ((q0 62), zi k38 16000 f38)] ∧ va_S A s.heap H locs ∧ lv_has ls 4 [(0, .ref h0), (1, .int x1), (2, .int x2), (3, .int z40)] ∧ (0 ≤ z40.toInt ∧ z40.toInt ≤ 40) := ⟨hP, hD, hS, lv_sub hl [1, 2, 3, 0] rfl, (by first | with_reducible assumption | exact ⟨by omega, by omega⟩)⟩
          exact hJ2 H locs ls (fun i => ([z40] : List (Int32)).getD i 0) (fun _ => 0) (fun _ => (fun _ => 0)) (fun _ => (fun _ => 0)) hc (show (40 - z40.toInt).toNat < (40 - (u2_ 0).toInt).toNat from by omega)
        · skip
          have b_ := zF_eq rfl zk_0 c_
          refine lv_aload_n hx hb dX13_isShown_28 rfl (lv_at hl 0 rfl) ?_
          refine lv_iload_n hx hb dX13_isShown_29 rfl (lv_at hl 3 rfl) ?_
          refine lv_iload_n hx hb dX13_isShown_30 rfl (lv_at hl 1 rfl) ?_
          refine lv_iload_n hx hb dX13_isShown_31 rfl (lv_at hl 2 rfl) ?_
          have hPc := hP.sub (ws' := [(h0, .inr (13, mX13 q0 v0)), ((q0 5), zi k4 122880 f4), ((q0 43), zi k27 40 f27), ((q0 44), zi k28 40 f28), ((q0 45), zi k29 40 f29), ((q0 61), zi k37 200 f37), ((q0 62), zi k38 16000 f38)]) [0, 3, 4, 5, 6, 7, 8] rfl
          have hDc := hD.sub (ws' := [(h0, .inr (13, mX13 q0 v0)), ((q0 5), zi k4 122880 f4), ((q0 43), zi k27 40 f27), ((q0 44), zi k28 40 f28), ((q0 45), zi k29 40 f29), ((q0 61), zi k37 200 f37), ((q0 62), zi k38 16000 f38)]) [0, 3, 4, 5, 6, 7, 8] (by decide) rfl
          have hKc := hK.sub (tys' := [(k4, .short), (k27, .int), (k28, .int), (k29, .int), (k37, .int), (k38, .boolean)]) [2, 3, 4, 5, 6, 7] rfl
          have hFc := va_free (wc := [(h0, .inr (13, mX13 q0 v0)), ((q0 5), zi k4 122880 f4), ((q0 43), zi k27 40 f27), ((q0 44), zi k28 40 f28), ((q0 45), zi k29 40 f29), ((q0 61), zi k37 200 f37), ((q0 62), zi k38 16000 f38)]) hD hS hA [0, 3, 4, 5, 6, 7, 8] rfl
          refine va_calli (va_runV (As := [.int (u2_ 0), .int x1, .int x2]) (rest := []) ⟨hx, hb, hml, hown, hG⟩ (sX13_matches_0 l dC dI adK adV h0 q0 k4 k27 k28 k29 k37 k38 H.size v0 f4 f27 f28 f29 f37 f38 (u2_ 0) x1 x2 hv0 hf4 (show (0 : Int) ≤ ((u2_ 0) : Int32).toInt ∧ ((u2_ 0) : Int32).toInt ≤ (39 : Int) from (by first | with_reducible assumption | exact ⟨by omega, by omega⟩)) (show (0 : Int) ≤ (x1 : Int32).toInt ∧ (x1 : Int32).toInt ≤ (119 : Int) from (by first | with_reducible assumption | exact ⟨by omega, by omega⟩)) (show (0 : Int) ≤ (x2 : Int32).toInt ∧ (x2 : Int32).toInt ≤ (1023 : Int) from (by first | with_reducible assumption | exact ⟨by omega, by omega⟩)) (show zLf f27 f28 f29 (v0 47).toInt from by first | with_reducible assumption | assumption) (show (u2_ 0).toInt < (v0 47).toInt from by omega)) (cwV 3 hG (zgV zv2178 zv2180 zv115 zv142 zv2181) rfl rfl rfl (by decide +kernel) ⟨Nat.le_of_ble_eq_true rfl, Nat.le_of_ble_eq_true rfl⟩) ⟨zPc_blind, va_recv hKc hPc (ci := 13) (q0 := 0) rfl rfl, zPc_pre hPc hKc hDc hE hS hFc hZ⟩ rfl rfl hl.1 rfl (lv_room (Nat.le_of_ble_eq_true rfl)) dX13_isShown_32 ⟨Nat.le_of_ble_eq_true rfl, Nat.le_of_ble_eq_true rfl⟩) hS (fun q _ h => hFc q h) hFc (fun r32_ u32_ t H1 locs ht hvm hw hB hz1 hk1 hS => ?_)
          replace hw : (0 ≤ r32_.toInt ∧ r32_.toInt ≤ 1) ∧ (r32_.toInt = zMt f4 f27 f28 f29 f37 f38 (u2_ 0).toInt x1.toInt x2.toInt) := hw
          obtain ⟨b_, hX32_0⟩ := hw
          obtain ⟨w32_, a32_, b32_, hP1, hK1, hD1⟩ := hB
          rw [ht] at hP1
          obtain ⟨hP, hD⟩ := va_join (wr := [((q0 63), zi k39 40 f39), ((q0 64), zi k40 40 f40)]) (w1 := [(h0, .inr (13, mX13 q0 v0)), ((q0 5), zi k4 122880 f4), ((q0 43), zi k27 40 f27), ((q0 44), zi k28 40 f28), ((q0 45), zi k29 40 f29), ((q0 61), zi k37 200 f37), ((q0 62), zi k38 16000 f38)]) hP hD [0, 3, 4, 5, 6, 7, 8] [1, 2] rfl rfl (by decide) (by decide) hk1 hFc hP1 hD1
          have hP : va_P (dC, dI) vwCl [(h0, .inr (13, mX13 q0 v0)), ((q0 63), zi k39 40 f39), ((q0 64), zi k40 40 f40), ((q0 5), zi k4 122880 f4), ((q0 43), zi k27 40 f27), ((q0 44), zi k28 40 f28), ((q0 45), zi k29 40 f29), ((q0 61), zi k37 200 f37), ((q0 62), zi k38 16000 f38)] H1 := hP.sub [2, 0, 1, 3, 4, 5, 6, 7, 8] rfl
          have hD : va_D A [(h0, .inr (13, mX13 q0 v0)), ((q0 63), zi k39 40 f39), ((q0 64), zi k40 40 f40), ((q0 5), zi k4 122880 f4), ((q0 43), zi k27 40 f27), ((q0 44), zi k28 40 f28), ((q0 45), zi k29 40 f29), ((q0 61), zi k37 200 f37), ((q0 62), zi k38 16000 f38)] := hD.sub [2, 0, 1, 3, 4, 5, 6, 7, 8] (by decide) rfl
          generalize H1 = H at hP hS ⊢
          clear hz1
          refine lv_if_eq (tgt := 40) hx hb dX13_isShown_35 (by decide) (fun c_ => ?_) (fun c_ => ?_)
          · skip
            have b_ := zT_eq rfl zk_0 c_
            obtain ⟨z40, e_z40⟩ : ∃ z : Int32, z = (u2_ 0) + Int32.ofInt 1 := ⟨_, rfl⟩
            have b_ := zadd (x := (u2_ 0)) (y := Int32.ofInt 1) rfl (show (Int32.ofInt 1).toInt = 1 from by decide) e_z40 (by omega) (by omega)
            refine lv_iinc (v := z40) (lv' := [(3, .int z40), (0, .ref h0), (1, .int x1), (2, .int x2)]) hx hb dX13_isShown_40 hl (k := 3) rfl e_z40.symm (by decide) rfl (fun ls hl => ?_)
            refine lv_goto (tgt := 2) hx hb dX13_isShown_43 (by decide) ?_
            have hc : va_P (dC, dI) vwCl [(h0, .inr (13, mX13 q0 v0)), ((q0 63), zi k39 40 f39), ((q0 64), zi k40 40 f40), ((q0 5), zi k4 122880 f4), ((q0 43), zi k27 40 f27), ((q0 44), zi k28 40 f28), ((q0 45), zi k29 40 f29), ((q0 61), zi k37 200 f37), ((q0 62), zi k38 16000 f38)] H ∧ va_D A [(h0, .inr (13, mX13 q0 v0)), ((q0 63), zi k39 40 f39), ((q0 64), zi k40 40 f40), ((q0 5), zi k4 122880 f4), ((q0 43), zi k27 40 f27), ((q0 44), zi k28 40 f28), ((q0 45), zi k29 40 f29), ((q0 61), zi k37 200 f37), ((q0 62), zi k38 16000 f38)] ∧ va_S A s.heap H locs ∧ lv_has ls 4 [(0, .ref h0), (1, .int x1), (2, .int x2), (3, .int z40)] ∧ (0 ≤ z40.toInt ∧ z40.toInt ≤ 40) := ⟨hP, hD, hS, lv_sub hl [1, 2, 3, 0] rfl, (by first | with_reducible assumption | exact ⟨by omega, by omega⟩)⟩
            exact hJ2 H locs ls (fun i => ([z40] : List (Int32)).getD i 0) (fun _ => 0) (fun _ => (fun _ => 0)) (fun _ => (fun _ => 0)) hc (show (40 - z40.toInt).toNat < (40 - (u2_ 0).toInt).toNat from by omega)
          · skip
            have b_ := zF_eq rfl zk_0 c_
            refine lv_iconst (v := 1) hx hb dX13_isShown_38 (by decide) ?_
            refine W.widen (k := 0) (n := 0) (by decide) (by decide) ?_
            have hpost : (0 ≤ (1 : Int32).toInt ∧ (1 : Int32).toInt ≤ 1) := (by first | with_reducible assumption | exact ⟨by omega, by omega⟩)
            have hP9 : va_P (dC, dI) vwCl [(h0, .inr (13, mX13 q0 v0)), ((q0 63), zi k39 40 f39), ((q0 64), zi k40 40 f40), ((q0 5), zi k4 122880 f4), ((q0 43), zi k27 40 f27), ((q0 44), zi k28 40 f28), ((q0 45), zi k29 40 f29), ((q0 61), zi k37 200 f37), ((q0 62), zi k38 16000 f38)] H := hP
            have hD9 : va_D A [(h0, .inr (13, mX13 q0 v0)), ((q0 63), zi k39 40 f39), ((q0 64), zi k40 40 f40), ((q0 5), zi k4 122880 f4), ((q0 43), zi k27 40 f27), ((q0 44), zi k28 40 f28), ((q0 45), zi k29 40 f29), ((q0 61), zi k37 200 f37), ((q0 62), zi k38 16000 f38)] := hD
            exact W.zret (v := 1) hx hb hr rfl (fun t ht hW => ⟨⟨1, (fun _ => 0), rfl, hpost, (fun _ => 0), (fun _ => (fun _ => 0)), (fun _ => (fun _ => 0)), by rw [ht]; exact hP9, va_K.moved hW.alike hK, hD9⟩, hS.F ht⟩) hS.2.2 dX13_isShown_39
  · skip
    have hc : va_P (dC, dI) vwCl [(h0, .inr (13, mX13 q0 v0)), ((q0 63), zi k39 40 f39), ((q0 64), zi k40 40 f40), ((q0 5), zi k4 122880 f4), ((q0 43), zi k27 40 f27), ((q0 44), zi k28 40 f28), ((q0 45), zi k29 40 f29), ((q0 61), zi k37 200 f37), ((q0 62), zi k38 16000 f38)] s.heap ∧ va_D A [(h0, .inr (13, mX13 q0 v0)), ((q0 63), zi k39 40 f39), ((q0 64), zi k40 40 f40), ((q0 5), zi k4 122880 f4), ((q0 43), zi k27 40 f27), ((q0 44), zi k28 40 f28), ((q0 45), zi k29 40 f29), ((q0 61), zi k37 200 f37), ((q0 62), zi k38 16000 f38)] ∧ va_S A s.heap s.heap [] ∧ lv_has ls 4 [(0, .ref h0), (1, .int x1), (2, .int x2), (3, .int 0)] ∧ (0 ≤ (0 : Int32).toInt ∧ (0 : Int32).toInt ≤ 40) := ⟨hP, hD, hS, lv_sub hl [1, 2, 3, 0] rfl, (by first | with_reducible assumption | exact ⟨by omega, by omega⟩)⟩
    exact hJ2 s.heap [] ls (fun i => ([0] : List (Int32)).getD i 0) (fun _ => 0) (fun _ => (fun _ => 0)) (fun _ => (fun _ => 0)) hc
set_option maxHeartbeats 8000000 in
set_option maxRecDepth 100000 in
theorem sX13_shown_0 (l : Launch) (dC : Nat → ClassId) (dI : Nat → Nat → Nat) (adK adV : Nat → Nat) (h0 : Nat) (q0 : Nat → Nat) (k10 : ClassId) (k39 : ClassId) (k40 : ClassId) (k4 : ClassId) (k27 : ClassId) (k28 : ClassId) (k29 : ClassId) (k37 : ClassId) (k38 : ClassId) (k42 : ClassId) (k11 : ClassId) (sz : Nat) (v0 : Nat → Int32) (f10 : Nat → Int32) (f39 : Nat → Int32) (f40 : Nat → Int32) (f4 : Nat → Int32) (f27 : Nat → Int32) (f28 : Nat → Int32) (f29 : Nat → Int32) (f37 : Nat → Int32) (f38 : Nat → Int32) (f42 : Nat → Int32) (f11 : Nat → Int32) (x1 : Int32) (hv0 : zR rg_Model v0) (hf10 : zA 0 512 f10) (hf4 : zA 0 400 f4) (hf11 : zA 0 512 f11) (hx1 : 0 ≤ x1.toInt ∧ x1.toInt ≤ 119) (hp0_ : zLf f27 f28 f29 (v0 47).toInt) : Met l yX13_shown (zw yX13_shown cX13_shown 7 (some .int)) { frames := 3, cells := 0, slots := 0, locals := 74 } (zPc dC dI adK adV [.ref h0, .int x1] sz [(h0, .inr (13, mX13 q0 v0)), ((q0 11), zi k10 120 f10), ((q0 63), zi k39 40 f39), ((q0 64), zi k40 40 f40), ((q0 5), zi k4 122880 f4), ((q0 43), zi k27 40 f27), ((q0 44), zi k28 40 f28), ((q0 45), zi k29 40 f29), ((q0 61), zi k37 200 f37), ((q0 62), zi k38 16000 f38), ((q0 66), zi k42 1034 f42), ((q0 12), zi k11 120 f11)] [(k10, .int), (k39, .boolean), (k40, .int), (k4, .short), (k27, .int), (k28, .int), (k29, .int), (k37, .int), (k38, .boolean), (k42, .boolean), (k11, .int)]) (va_Qi (fun (r : Int32) (u : Nat → Int32) => ((-1) ≤ r.toInt ∧ r.toInt ≤ 1023)) (fun (u : Nat → Int32) (t : State) => ∃ (ww : Nat → Int64) (aa : Nat → Nat → Int32) (bb : Nat → Nat → Int64), va_P (dC, dI) vwCl [(h0, .inr (13, mX13 q0 v0)), ((q0 11), zi k10 120 f10), ((q0 63), zi k39 40 f39), ((q0 64), zi k40 40 f40), ((q0 5), zi k4 122880 f4), ((q0 43), zi k27 40 f27), ((q0 44), zi k28 40 f28), ((q0 45), zi k29 40 f29), ((q0 61), zi k37 200 f37), ((q0 62), zi k38 16000 f38), ((q0 66), zi k42 1034 (aa 0)), ((q0 12), zi k11 120 f11)] t.heap ∧ va_K (dC, dI) vwCl [(k10, .int), (k39, .boolean), (k40, .int), (k4, .short), (k27, .int), (k28, .int), (k29, .int), (k37, .int), (k38, .boolean), (k42, .boolean), (k11, .int)] t ∧ va_D (va_A [(h0, .inr (13, mX13 q0 v0)), ((q0 11), zi k10 120 f10), ((q0 63), zi k39 40 f39), ((q0 64), zi k40 40 f40), ((q0 5), zi k4 122880 f4), ((q0 43), zi k27 40 f27), ((q0 44), zi k28 40 f28), ((q0 45), zi k29 40 f29), ((q0 61), zi k37 200 f37), ((q0 62), zi k38 16000 f38), ((q0 66), zi k42 1034 f42), ((q0 12), zi k11 120 f11)] sz) [(h0, .inr (13, mX13 q0 v0)), ((q0 11), zi k10 120 f10), ((q0 63), zi k39 40 f39), ((q0 64), zi k40 40 f40), ((q0 5), zi k4 122880 f4), ((q0 43), zi k27 40 f27), ((q0 44), zi k28 40 f28), ((q0 45), zi k29 40 f29), ((q0 61), zi k37 200 f37), ((q0 62), zi k38 16000 f38), ((q0 66), zi k42 1034 (aa 0)), ((q0 12), zi k11 120 f11)]) (va_A [(h0, .inr (13, mX13 q0 v0)), ((q0 11), zi k10 120 f10), ((q0 63), zi k39 40 f39), ((q0 64), zi k40 40 f40), ((q0 5), zi k4 122880 f4), ((q0 43), zi k27 40 f27), ((q0 44), zi k28 40 f28), ((q0 45), zi k29 40 f29), ((q0 61), zi k37 200 f37), ((q0 62), zi k38 16000 f38), ((q0 66), zi k42 1034 f42), ((q0 12), zi k11 120 f11)] sz)) 0 0 (va_A [(h0, .inr (13, mX13 q0 v0)), ((q0 11), zi k10 120 f10), ((q0 63), zi k39 40 f39), ((q0 64), zi k40 40 f40), ((q0 5), zi k4 122880 f4), ((q0 43), zi k27 40 f27), ((q0 44), zi k28 40 f28), ((q0 45), zi k29 40 f29), ((q0 61), zi k37 200 f37), ((q0 62), zi k38 16000 f38), ((q0 66), zi k42 1034 f42), ((q0 12), zi k11 120 f11)] sz) := by
  refine Met.ofW (cc := cX13_shown) (maxL := 7) (ret := (some .int)) (by decide) rfl ?_
  intro p e s m args below meth c s₁ B hml hv
  obtain ⟨rfl, hsz, hP, hK, hD0, hE, hZ⟩ := hv
  have hx := B.exec
  have hb := B.bytes
  have hr := B.returns
  have hG : ∀ w ∈ zG, w.before _ s = true := fun w h => atoms_spec (ws := (zw yX13_shown cX13_shown 7 (some .int))) B.pre w (List.mem_cons_of_mem _ h)
  have hown : s.vm.findClass RX13 = some m.cls := findClass_of_methodNamed B.named
  have hlocks := B.notSynchronized

  subst hsz
  have hD := hD0.self (sz := s.heap.size)
  generalize hAe : va_A [(h0, .inr (13, mX13 q0 v0)), ((q0 11), zi k10 120 f10), ((q0 63), zi k39 40 f39), ((q0 64), zi k40 40 f40), ((q0 5), zi k4 122880 f4), ((q0 43), zi k27 40 f27), ((q0 44), zi k28 40 f28), ((q0 45), zi k29 40 f29), ((q0 61), zi k37 200 f37), ((q0 62), zi k38 16000 f38), ((q0 66), zi k42 1034 f42), ((q0 12), zi k11 120 f11)] s.heap.size = A at hD hZ ⊢
  have hA : ∀ q : Nat, s.heap.size ≤ q → A q := fun q h => by rw [← hAe]; exact Or.inr h
  have hS : va_S A s.heap s.heap [] := va_S.rf
  have hl := lv_entry ([.ref h0, .int x1]) (n := 7) (Nat.le_of_ble_eq_true rfl)
  rw [lg_entry_eq]
  generalize (lg_sl ([.ref h0, .int x1]) ++ List.replicate (7 - (lg_sl ([.ref h0, .int x1])).length) Slot.unset).toArray = ls at hl ⊢
  have hl : lv_has ls 7 [(0, .ref h0), (1, .int x1)] := hl
  have b_ := zk_m1
  have b_ := zk_0
  have b_ := zk_1
  have b_ : 0 ≤ (v0 47).toInt ∧ (v0 47).toInt ≤ 40 := hv0 47
  refine lv_iconst (v := 0) hx hb dX13_shown_0 (by decide) ?_
  refine lv_istore_n (lv' := [(2, .int 0), (0, .ref h0), (1, .int x1)]) hx hb dX13_shown_1 rfl hl (by decide) rfl (fun ls hl => ?_)
  refine zcutL (fun u2_ => (1024 - (u2_ 0).toInt).toNat) (fun H locs ls u2_ w2_ a2_ b2_ => va_P (dC, dI) vwCl [(h0, .inr (13, mX13 q0 v0)), ((q0 11), zi k10 120 f10), ((q0 63), zi k39 40 f39), ((q0 64), zi k40 40 f40), ((q0 5), zi k4 122880 f4), ((q0 43), zi k27 40 f27), ((q0 44), zi k28 40 f28), ((q0 45), zi k29 40 f29), ((q0 61), zi k37 200 f37), ((q0 62), zi k38 16000 f38), ((q0 66), zi k42 1034 (a2_ 0)), ((q0 12), zi k11 120 f11)] H ∧ va_D A [(h0, .inr (13, mX13 q0 v0)), ((q0 11), zi k10 120 f10), ((q0 63), zi k39 40 f39), ((q0 64), zi k40 40 f40), ((q0 5), zi k4 122880 f4), ((q0 43), zi k27 40 f27), ((q0 44), zi k28 40 f28), ((q0 45), zi k29 40 f29), ((q0 61), zi k37 200 f37), ((q0 62), zi k38 16000 f38), ((q0 66), zi k42 1034 (a2_ 0)), ((q0 12), zi k11 120 f11)] ∧ va_S A s.heap H locs ∧ lv_has ls 7 [(0, .ref h0), (1, .int x1), (2, .int (u2_ 0))] ∧ (0 ≤ (u2_ 0).toInt ∧ (u2_ 0).toInt ≤ 1024)) (fun ls u2_ w2_ => F0 m 2 ls []) 0 0 ?_ (fun hJ2 => ?_)
  · skip
    intro H locs ls u2_ w2_ a2_ b2_ hc hJ2
    obtain ⟨hP, hD, hS, hl, b_⟩ := hc
    refine lv_iload_n hx hb dX13_shown_2 rfl (lv_at hl 2 rfl) ?_
    refine lv_sipush (v := 1024) hx hb dX13_shown_3 (by decide) ?_
    refine lv_icmp_ge (tgt := 69) hx hb dX13_shown_6 (by decide) (fun c_ => ?_) (fun c_ => ?_)
    · skip
      have b_ := zT_ge rfl zk_1024 c_
      refine lv_iconst (v := (-1)) hx hb dX13_shown_69 (by decide) ?_
      refine lv_istore_n (lv' := [(2, .int (-1)), (0, .ref h0), (1, .int x1)]) hx hb dX13_shown_70 rfl hl (by decide) rfl (fun ls hl => ?_)
      refine lv_iconst (v := 0) hx hb dX13_shown_71 (by decide) ?_
      refine lv_istore_n (lv' := [(3, .int 0), (2, .int (-1)), (0, .ref h0), (1, .int x1)]) hx hb dX13_shown_72 rfl hl (by decide) rfl (fun ls hl => ?_)
      refine lv_iconst (v := 0) hx hb dX13_shown_73 (by decide) ?_
      refine lv_istore (lv' := [(4, .int 0), (3, .int 0), (2, .int (-1)), (0, .ref h0), (1, .int x1)]) hx hb dX13_shown_74 hl (by decide) rfl (fun ls hl => ?_)
      refine zcutL (fun u76_ => (1024 - (u76_ 2).toInt).toNat) (fun H locs ls u76_ w76_ a76_ b76_ => va_P (dC, dI) vwCl [(h0, .inr (13, mX13 q0 v0)), ((q0 11), zi k10 120 f10), ((q0 63), zi k39 40 f39), ((q0 64), zi k40 40 f40), ((q0 5), zi k4 122880 f4), ((q0 43), zi k27 40 f27), ((q0 44), zi k28 40 f28), ((q0 45), zi k29 40 f29), ((q0 61), zi k37 200 f37), ((q0 62), zi k38 16000 f38), ((q0 66), zi k42 1034 (a2_ 0)), ((q0 12), zi k11 120 f11)] H ∧ va_D A [(h0, .inr (13, mX13 q0 v0)), ((q0 11), zi k10 120 f10), ((q0 63), zi k39 40 f39), ((q0 64), zi k40 40 f40), ((q0 5), zi k4 122880 f4), ((q0 43), zi k27 40 f27), ((q0 44), zi k28 40 f28), ((q0 45), zi k29 40 f29), ((q0 61), zi k37 200 f37), ((q0 62), zi k38 16000 f38), ((q0 66), zi k42 1034 (a2_ 0)), ((q0 12), zi k11 120 f11)] ∧ va_S A s.heap H locs ∧ lv_has ls 7 [(0, .ref h0), (1, .int x1), (2, .int (u76_ 0)), (3, .int (u76_ 1)), (4, .int (u76_ 2))] ∧ ((-1) ≤ (u76_ 0).toInt ∧ (u76_ 0).toInt ≤ 1023) ∧ (0 ≤ (u76_ 1).toInt ∧ (u76_ 1).toInt ≤ 2147483647) ∧ (0 ≤ (u76_ 2).toInt ∧ (u76_ 2).toInt ≤ 1024)) (fun ls u76_ w76_ => F0 m 76 ls []) 0 0 ?_ (fun hJ76 => ?_)
      · skip
        intro H locs ls u76_ w76_ a76_ b76_ hc hJ76
        obtain ⟨hP, hD, hS, hl, b_, b_, b_⟩ := hc
        refine lv_iload hx hb dX13_shown_76 (lv_at hl 4 rfl) ?_
        refine lv_sipush (v := 1024) hx hb dX13_shown_78 (by decide) ?_
        refine lv_icmp_ge (tgt := 157) hx hb dX13_shown_81 (by decide) (fun c_ => ?_) (fun c_ => ?_)
        · skip
          have b_ := zT_ge rfl zk_1024 c_
          refine lv_iload_n hx hb dX13_shown_157 rfl (lv_at hl 2 rfl) ?_
          refine W.widen (k := 0) (n := 0) (by decide) (by decide) ?_
          have hpost : ((-1) ≤ (u76_ 0).toInt ∧ (u76_ 0).toInt ≤ 1023) := (by first | with_reducible assumption | exact ⟨by omega, by omega⟩)
          have hP9 : va_P (dC, dI) vwCl [(h0, .inr (13, mX13 q0 v0)), ((q0 11), zi k10 120 f10), ((q0 63), zi k39 40 f39), ((q0 64), zi k40 40 f40), ((q0 5), zi k4 122880 f4), ((q0 43), zi k27 40 f27), ((q0 44), zi k28 40 f28), ((q0 45), zi k29 40 f29), ((q0 61), zi k37 200 f37), ((q0 62), zi k38 16000 f38), ((q0 66), zi k42 1034 (a2_ 0)), ((q0 12), zi k11 120 f11)] H := hP
          have hD9 : va_D A [(h0, .inr (13, mX13 q0 v0)), ((q0 11), zi k10 120 f10), ((q0 63), zi k39 40 f39), ((q0 64), zi k40 40 f40), ((q0 5), zi k4 122880 f4), ((q0 43), zi k27 40 f27), ((q0 44), zi k28 40 f28), ((q0 45), zi k29 40 f29), ((q0 61), zi k37 200 f37), ((q0 62), zi k38 16000 f38), ((q0 66), zi k42 1034 (a2_ 0)), ((q0 12), zi k11 120 f11)] := hD
          exact W.iret (v := (u76_ 0)) hx hb hr (fun t ht hW => ⟨⟨(u76_ 0), (fun _ => 0), rfl, hpost, (fun _ => 0), (fun i => ([(a2_ 0)] : List (Nat → Int32)).getD i (fun _ => 0)), (fun _ => (fun _ => 0)), by rw [ht]; exact hP9, va_K.moved hW.alike hK, hD9⟩, hS.F ht⟩) hS.2.2 dX13_shown_158
        · skip
          have b_ := zF_ge rfl zk_1024 c_
          refine lv_aload_n hx hb dX13_shown_84 rfl (lv_at hl 0 rfl) ?_
          refine va_get (D := (dC, dI)) (ci := 13) (v := .ref (q0 66)) (C := RX13) (T := TX13) (N := 75) hx hb hG zuX13 hown hK hP 0 rfl rfl 66 (by decide) (hG _ zv1670) (fun _ h9 => h9) rfl dX13_shown_85 ?_
          refine lv_iload hx hb dX13_shown_88 (lv_at hl 4 rfl) ?_
          refine va_zald hx hb hK hP 10 9 rfl rfl (zin_lit ⟨by omega, by omega⟩) dX13_shown_90 ?_
          refine lv_topi (fun z90 e_z90 => ?_)
          have b_ : -2147483648 ≤ z90.toInt ∧ z90.toInt ≤ 2147483647 := ⟨zlo _, zhi _⟩
          refine lv_if_ne (tgt := 97) hx hb dX13_shown_91 (by decide) (fun c_ => ?_) (fun c_ => ?_)
          · skip
            have b_ := zT_ne rfl zk_0 c_
            refine lv_iconst (v := 0) hx hb dX13_shown_97 (by decide) ?_
            refine lv_istore (lv' := [(5, .int 0), (0, .ref h0), (1, .int x1), (2, .int (u76_ 0)), (3, .int (u76_ 1)), (4, .int (u76_ 2))]) hx hb dX13_shown_98 hl (by decide) rfl (fun ls hl => ?_)
            refine lv_iconst (v := 0) hx hb dX13_shown_100 (by decide) ?_
            refine lv_istore (lv' := [(6, .int 0), (5, .int 0), (0, .ref h0), (1, .int x1), (2, .int (u76_ 0)), (3, .int (u76_ 1)), (4, .int (u76_ 2))]) hx hb dX13_shown_101 hl (by decide) rfl (fun ls hl => ?_)
            refine zcutL (fun u103_ => (10 - (u103_ 1).toInt).toNat) (fun H locs ls u103_ w103_ a103_ b103_ => va_P (dC, dI) vwCl [(h0, .inr (13, mX13 q0 v0)), ((q0 11), zi k10 120 f10), ((q0 63), zi k39 40 f39), ((q0 64), zi k40 40 f40), ((q0 5), zi k4 122880 f4), ((q0 43), zi k27 40 f27), ((q0 44), zi k28 40 f28), ((q0 45), zi k29 40 f29), ((q0 61), zi k37 200 f37), ((q0 62), zi k38 16000 f38), ((q0 66), zi k42 1034 (a2_ 0)), ((q0 12), zi k11 120 f11)] H ∧ va_D A [(h0, .inr (13, mX13 q0 v0)), ((q0 11), zi k10 120 f10), ((q0 63), zi k39 40 f39), ((q0 64), zi k40 40 f40), ((q0 5), zi k4 122880 f4), ((q0 43), zi k27 40 f27), ((q0 44), zi k28 40 f28), ((q0 45), zi k29 40 f29), ((q0 61), zi k37 200 f37), ((q0 62), zi k38 16000 f38), ((q0 66), zi k42 1034 (a2_ 0)), ((q0 12), zi k11 120 f11)] ∧ va_S A s.heap H locs ∧ lv_has ls 7 [(0, .ref h0), (1, .int x1), (2, .int (u76_ 0)), (3, .int (u76_ 1)), (4, .int (u76_ 2)), (5, .int (u103_ 0)), (6, .int (u103_ 1))] ∧ (0 ≤ (u103_ 1).toInt ∧ (u103_ 1).toInt ≤ 10)) (fun ls u103_ w103_ => F0 m 103 ls []) 0 0 ?_ (fun hJ103 => ?_)
            · skip
              intro H locs ls u103_ w103_ a103_ b103_ hc hJ103
              obtain ⟨hP, hD, hS, hl, b_⟩ := hc
              refine lv_iload hx hb dX13_shown_103 (lv_at hl 6 rfl) ?_
              refine lv_bipush (v := 10) hx hb dX13_shown_105 (by decide) ?_
              refine lv_icmp_ge (tgt := 139) hx hb dX13_shown_107 (by decide) (fun c_ => ?_) (fun c_ => ?_)
              · skip
                have b_ := zT_ge rfl zk_10 c_
                refine lv_iload hx hb dX13_shown_139 (lv_at hl 5 rfl) ?_
                refine lv_iload_n hx hb dX13_shown_141 rfl (lv_at hl 3 rfl) ?_
                have b_ : -2147483648 ≤ (u103_ 0).toInt ∧ (u103_ 0).toInt ≤ 2147483647 := ⟨zlo _, zhi _⟩
                refine lv_icmp_le (tgt := 151) hx hb dX13_shown_142 (by decide) (fun c_ => ?_) (fun c_ => ?_)
                · skip
                  have b_ := zT_le rfl rfl c_
                  obtain ⟨z151, e_z151⟩ : ∃ z : Int32, z = (u76_ 2) + Int32.ofInt 1 := ⟨_, rfl⟩
                  have b_ := zadd (x := (u76_ 2)) (y := Int32.ofInt 1) rfl (show (Int32.ofInt 1).toInt = 1 from by decide) e_z151 (by omega) (by omega)
                  refine lv_iinc (v := z151) (lv' := [(4, .int z151), (0, .ref h0), (1, .int x1), (2, .int (u76_ 0)), (3, .int (u76_ 1)), (5, .int (u103_ 0)), (6, .int (u103_ 1))]) hx hb dX13_shown_151 hl (k := 4) rfl e_z151.symm (by decide) rfl (fun ls hl => ?_)
                  refine lv_goto (tgt := 76) hx hb dX13_shown_154 (by decide) ?_
                  have hc : va_P (dC, dI) vwCl [(h0, .inr (13, mX13 q0 v0)), ((q0 11), zi k10 120 f10), ((q0 63), zi k39 40 f39), ((q0 64), zi k40 40 f40), ((q0 5), zi k4 122880 f4), ((q0 43), zi k27 40 f27), ((q0 44), zi k28 40 f28), ((q0 45), zi k29 40 f29), ((q0 61), zi k37 200 f37), ((q0 62), zi k38 16000 f38), ((q0 66), zi k42 1034 (a2_ 0)), ((q0 12), zi k11 120 f11)] H ∧ va_D A [(h0, .inr (13, mX13 q0 v0)), ((q0 11), zi k10 120 f10), ((q0 63), zi k39 40 f39), ((q0 64), zi k40 40 f40), ((q0 5), zi k4 122880 f4), ((q0 43), zi k27 40 f27), ((q0 44), zi k28 40 f28), ((q0 45), zi k29 40 f29), ((q0 61), zi k37 200 f37), ((q0 62), zi k38 16000 f38), ((q0 66), zi k42 1034 (a2_ 0)), ((q0 12), zi k11 120 f11)] ∧ va_S A s.heap H locs ∧ lv_has ls 7 [(0, .ref h0), (1, .int x1), (2, .int (u76_ 0)), (3, .int (u76_ 1)), (4, .int z151)] ∧ ((-1) ≤ (u76_ 0).toInt ∧ (u76_ 0).toInt ≤ 1023) ∧ (0 ≤ (u76_ 1).toInt ∧ (u76_ 1).toInt ≤ 2147483647) ∧ (0 ≤ z151.toInt ∧ z151.toInt ≤ 1024) := ⟨hP, hD, hS, lv_sub hl [1, 2, 3, 4, 0] rfl, (by first | with_reducible assumption | exact ⟨by omega, by omega⟩), (by first | with_reducible assumption | exact ⟨by omega, by omega⟩), (by first | with_reducible assumption | exact ⟨by omega, by omega⟩)⟩
                  exact hJ76 H locs ls (fun i => ([(u76_ 0), (u76_ 1), z151] : List (Int32)).getD i 0) (fun _ => 0) (fun _ => (fun _ => 0)) (fun _ => (fun _ => 0)) hc (show (1024 - z151.toInt).toNat < (1024 - (u76_ 2).toInt).toNat from by omega)
                · skip
                  have b_ := zF_le rfl rfl c_
                  refine lv_iload hx hb dX13_shown_145 (lv_at hl 5 rfl) ?_
                  refine lv_istore_n (lv' := [(3, .int (u103_ 0)), (0, .ref h0), (1, .int x1), (2, .int (u76_ 0)), (4, .int (u76_ 2)), (5, .int (u103_ 0)), (6, .int (u103_ 1))]) hx hb dX13_shown_147 rfl hl (by decide) rfl (fun ls hl => ?_)
                  refine lv_iload hx hb dX13_shown_148 (lv_at hl 4 rfl) ?_
                  refine lv_istore_n (lv' := [(2, .int (u76_ 2)), (3, .int (u103_ 0)), (0, .ref h0), (1, .int x1), (4, .int (u76_ 2)), (5, .int (u103_ 0)), (6, .int (u103_ 1))]) hx hb dX13_shown_150 rfl hl (by decide) rfl (fun ls hl => ?_)
                  obtain ⟨z151, e_z151⟩ : ∃ z : Int32, z = (u76_ 2) + Int32.ofInt 1 := ⟨_, rfl⟩
                  have b_ := zadd (x := (u76_ 2)) (y := Int32.ofInt 1) rfl (show (Int32.ofInt 1).toInt = 1 from by decide) e_z151 (by omega) (by omega)
                  refine lv_iinc (v := z151) (lv' := [(4, .int z151), (2, .int (u76_ 2)), (3, .int (u103_ 0)), (0, .ref h0), (1, .int x1), (5, .int (u103_ 0)), (6, .int (u103_ 1))]) hx hb dX13_shown_151 hl (k := 4) rfl e_z151.symm (by decide) rfl (fun ls hl => ?_)
                  refine lv_goto (tgt := 76) hx hb dX13_shown_154 (by decide) ?_
                  have hc : va_P (dC, dI) vwCl [(h0, .inr (13, mX13 q0 v0)), ((q0 11), zi k10 120 f10), ((q0 63), zi k39 40 f39), ((q0 64), zi k40 40 f40), ((q0 5), zi k4 122880 f4), ((q0 43), zi k27 40 f27), ((q0 44), zi k28 40 f28), ((q0 45), zi k29 40 f29), ((q0 61), zi k37 200 f37), ((q0 62), zi k38 16000 f38), ((q0 66), zi k42 1034 (a2_ 0)), ((q0 12), zi k11 120 f11)] H ∧ va_D A [(h0, .inr (13, mX13 q0 v0)), ((q0 11), zi k10 120 f10), ((q0 63), zi k39 40 f39), ((q0 64), zi k40 40 f40), ((q0 5), zi k4 122880 f4), ((q0 43), zi k27 40 f27), ((q0 44), zi k28 40 f28), ((q0 45), zi k29 40 f29), ((q0 61), zi k37 200 f37), ((q0 62), zi k38 16000 f38), ((q0 66), zi k42 1034 (a2_ 0)), ((q0 12), zi k11 120 f11)] ∧ va_S A s.heap H locs ∧ lv_has ls 7 [(0, .ref h0), (1, .int x1), (2, .int (u76_ 2)), (3, .int (u103_ 0)), (4, .int z151)] ∧ ((-1) ≤ (u76_ 2).toInt ∧ (u76_ 2).toInt ≤ 1023) ∧ (0 ≤ (u103_ 0).toInt ∧ (u103_ 0).toInt ≤ 2147483647) ∧ (0 ≤ z151.toInt ∧ z151.toInt ≤ 1024) := ⟨hP, hD, hS, lv_sub hl [3, 4, 1, 2, 0] rfl, (by first | with_reducible assumption | exact ⟨by omega, by omega⟩), (by first | with_reducible assumption | exact ⟨by omega, by omega⟩), (by first | with_reducible assumption | exact ⟨by omega, by omega⟩)⟩
                  exact hJ76 H locs ls (fun i => ([(u76_ 2), (u103_ 0), z151] : List (Int32)).getD i 0) (fun _ => 0) (fun _ => (fun _ => 0)) (fun _ => (fun _ => 0)) hc (show (1024 - z151.toInt).toNat < (1024 - (u76_ 2).toInt).toNat from by omega)
              · skip
                have b_ := zF_ge rfl zk_10 c_
                refine lv_iload hx hb dX13_shown_110 (lv_at hl 5 rfl) ?_
                refine lv_aload_n hx hb dX13_shown_112 rfl (lv_at hl 0 rfl) ?_
                refine va_get (D := (dC, dI)) (ci := 13) (v := .ref (q0 66)) (C := RX13) (T := TX13) (N := 75) hx hb hG zuX13 hown hK hP 0 rfl rfl 66 (by decide) (hG _ zv1670) (fun _ h9 => h9) rfl dX13_shown_113 ?_
                refine lv_iload hx hb dX13_shown_116 (lv_at hl 4 rfl) ?_
                refine lv_iload hx hb dX13_shown_118 (lv_at hl 6 rfl) ?_
                refine lv_iadd hx hb dX13_shown_120 ?_
                refine lv_topi (fun z120 e_z120 => ?_)
                have b_ := zadd rfl rfl e_z120 (by omega) (by omega)
                refine va_zald hx hb hK hP 10 9 rfl rfl (zin_lit ⟨by omega, by omega⟩) dX13_shown_121 ?_
                refine lv_topi (fun z121 e_z121 => ?_)
                have b_ : -2147483648 ≤ z121.toInt ∧ z121.toInt ≤ 2147483647 := ⟨zlo _, zhi _⟩
                refine lv_if_eq (tgt := 129) hx hb dX13_shown_122 (by decide) (fun c_ => ?_) (fun c_ => ?_)
                · skip
                  have b_ := zT_eq rfl zk_0 c_
                  refine lv_iconst (v := 0) hx hb dX13_shown_129 (by decide) ?_
                  have b_ : -2147483648 ≤ (u103_ 0).toInt ∧ (u103_ 0).toInt ≤ 2147483647 := ⟨zlo _, zhi _⟩
                  refine lv_iadd hx hb dX13_shown_130 ?_
                  refine lv_topi (fun z130 e_z130 => ?_)
                  have b_ := zadd rfl zk_0 e_z130 (by omega) (by omega)
                  refine lv_istore (lv' := [(5, .int z130), (0, .ref h0), (1, .int x1), (2, .int (u76_ 0)), (3, .int (u76_ 1)), (4, .int (u76_ 2)), (6, .int (u103_ 1))]) hx hb dX13_shown_131 hl (by decide) rfl (fun ls hl => ?_)
                  obtain ⟨z133, e_z133⟩ : ∃ z : Int32, z = (u103_ 1) + Int32.ofInt 1 := ⟨_, rfl⟩
                  have b_ := zadd (x := (u103_ 1)) (y := Int32.ofInt 1) rfl (show (Int32.ofInt 1).toInt = 1 from by decide) e_z133 (by omega) (by omega)
                  refine lv_iinc (v := z133) (lv' := [(6, .int z133), (5, .int z130), (0, .ref h0), (1, .int x1), (2, .int (u76_ 0)), (3, .int (u76_ 1)), (4, .int (u76_ 2))]) hx hb dX13_shown_133 hl (k := 6) rfl e_z133.symm (by decide) rfl (fun ls hl => ?_)
                  refine lv_goto (tgt := 103) hx hb dX13_shown_136 (by decide) ?_
                  have hc : va_P (dC, dI) vwCl [(h0, .inr (13, mX13 q0 v0)), ((q0 11), zi k10 120 f10), ((q0 63), zi k39 40 f39), ((q0 64), zi k40 40 f40), ((q0 5), zi k4 122880 f4), ((q0 43), zi k27 40 f27), ((q0 44), zi k28 40 f28), ((q0 45), zi k29 40 f29), ((q0 61), zi k37 200 f37), ((q0 62), zi k38 16000 f38), ((q0 66), zi k42 1034 (a2_ 0)), ((q0 12), zi k11 120 f11)] H ∧ va_D A [(h0, .inr (13, mX13 q0 v0)), ((q0 11), zi k10 120 f10), ((q0 63), zi k39 40 f39), ((q0 64), zi k40 40 f40), ((q0 5), zi k4 122880 f4), ((q0 43), zi k27 40 f27), ((q0 44), zi k28 40 f28), ((q0 45), zi k29 40 f29), ((q0 61), zi k37 200 f37), ((q0 62), zi k38 16000 f38), ((q0 66), zi k42 1034 (a2_ 0)), ((q0 12), zi k11 120 f11)] ∧ va_S A s.heap H locs ∧ lv_has ls 7 [(0, .ref h0), (1, .int x1), (2, .int (u76_ 0)), (3, .int (u76_ 1)), (4, .int (u76_ 2)), (5, .int z130), (6, .int z133)] ∧ (0 ≤ z133.toInt ∧ z133.toInt ≤ 10) := ⟨hP, hD, hS, lv_sub hl [2, 3, 4, 5, 6, 1, 0] rfl, (by first | with_reducible assumption | exact ⟨by omega, by omega⟩)⟩
                  exact hJ103 H locs ls (fun i => ([z130, z133] : List (Int32)).getD i 0) (fun _ => 0) (fun _ => (fun _ => 0)) (fun _ => (fun _ => 0)) hc (show (10 - z133.toInt).toNat < (10 - (u103_ 1).toInt).toNat from by omega)
                · skip
                  have b_ := zF_eq rfl zk_0 c_
                  refine lv_iconst (v := 1) hx hb dX13_shown_125 (by decide) ?_
                  refine lv_goto (tgt := 130) hx hb dX13_shown_126 (by decide) ?_
                  have b_ : -2147483648 ≤ (u103_ 0).toInt ∧ (u103_ 0).toInt ≤ 2147483647 := ⟨zlo _, zhi _⟩
                  refine lv_iadd hx hb dX13_shown_130 ?_
                  refine lv_topi (fun z130 e_z130 => ?_)
                  refine lv_istore (lv' := [(5, .int z130), (0, .ref h0), (1, .int x1), (2, .int (u76_ 0)), (3, .int (u76_ 1)), (4, .int (u76_ 2)), (6, .int (u103_ 1))]) hx hb dX13_shown_131 hl (by decide) rfl (fun ls hl => ?_)
                  obtain ⟨z133, e_z133⟩ : ∃ z : Int32, z = (u103_ 1) + Int32.ofInt 1 := ⟨_, rfl⟩
                  have b_ := zadd (x := (u103_ 1)) (y := Int32.ofInt 1) rfl (show (Int32.ofInt 1).toInt = 1 from by decide) e_z133 (by omega) (by omega)
                  refine lv_iinc (v := z133) (lv' := [(6, .int z133), (5, .int z130), (0, .ref h0), (1, .int x1), (2, .int (u76_ 0)), (3, .int (u76_ 1)), (4, .int (u76_ 2))]) hx hb dX13_shown_133 hl (k := 6) rfl e_z133.symm (by decide) rfl (fun ls hl => ?_)
                  refine lv_goto (tgt := 103) hx hb dX13_shown_136 (by decide) ?_
                  have b_ : -2147483648 ≤ z130.toInt ∧ z130.toInt ≤ 2147483647 := ⟨zlo _, zhi _⟩
                  have hc : va_P (dC, dI) vwCl [(h0, .inr (13, mX13 q0 v0)), ((q0 11), zi k10 120 f10), ((q0 63), zi k39 40 f39), ((q0 64), zi k40 40 f40), ((q0 5), zi k4 122880 f4), ((q0 43), zi k27 40 f27), ((q0 44), zi k28 40 f28), ((q0 45), zi k29 40 f29), ((q0 61), zi k37 200 f37), ((q0 62), zi k38 16000 f38), ((q0 66), zi k42 1034 (a2_ 0)), ((q0 12), zi k11 120 f11)] H ∧ va_D A [(h0, .inr (13, mX13 q0 v0)), ((q0 11), zi k10 120 f10), ((q0 63), zi k39 40 f39), ((q0 64), zi k40 40 f40), ((q0 5), zi k4 122880 f4), ((q0 43), zi k27 40 f27), ((q0 44), zi k28 40 f28), ((q0 45), zi k29 40 f29), ((q0 61), zi k37 200 f37), ((q0 62), zi k38 16000 f38), ((q0 66), zi k42 1034 (a2_ 0)), ((q0 12), zi k11 120 f11)] ∧ va_S A s.heap H locs ∧ lv_has ls 7 [(0, .ref h0), (1, .int x1), (2, .int (u76_ 0)), (3, .int (u76_ 1)), (4, .int (u76_ 2)), (5, .int z130), (6, .int z133)] ∧ (0 ≤ z133.toInt ∧ z133.toInt ≤ 10) := ⟨hP, hD, hS, lv_sub hl [2, 3, 4, 5, 6, 1, 0] rfl, (by first | with_reducible assumption | exact ⟨by omega, by omega⟩)⟩
                  exact hJ103 H locs ls (fun i => ([z130, z133] : List (Int32)).getD i 0) (fun _ => 0) (fun _ => (fun _ => 0)) (fun _ => (fun _ => 0)) hc (show (10 - z133.toInt).toNat < (10 - (u103_ 1).toInt).toNat from by omega)
            · skip
              have hc : va_P (dC, dI) vwCl [(h0, .inr (13, mX13 q0 v0)), ((q0 11), zi k10 120 f10), ((q0 63), zi k39 40 f39), ((q0 64), zi k40 40 f40), ((q0 5), zi k4 122880 f4), ((q0 43), zi k27 40 f27), ((q0 44), zi k28 40 f28), ((q0 45), zi k29 40 f29), ((q0 61), zi k37 200 f37), ((q0 62), zi k38 16000 f38), ((q0 66), zi k42 1034 (a2_ 0)), ((q0 12), zi k11 120 f11)] H ∧ va_D A [(h0, .inr (13, mX13 q0 v0)), ((q0 11), zi k10 120 f10), ((q0 63), zi k39 40 f39), ((q0 64), zi k40 40 f40), ((q0 5), zi k4 122880 f4), ((q0 43), zi k27 40 f27), ((q0 44), zi k28 40 f28), ((q0 45), zi k29 40 f29), ((q0 61), zi k37 200 f37), ((q0 62), zi k38 16000 f38), ((q0 66), zi k42 1034 (a2_ 0)), ((q0 12), zi k11 120 f11)] ∧ va_S A s.heap H locs ∧ lv_has ls 7 [(0, .ref h0), (1, .int x1), (2, .int (u76_ 0)), (3, .int (u76_ 1)), (4, .int (u76_ 2)), (5, .int 0), (6, .int 0)] ∧ (0 ≤ (0 : Int32).toInt ∧ (0 : Int32).toInt ≤ 10) := ⟨hP, hD, hS, lv_sub hl [2, 3, 4, 5, 6, 1, 0] rfl, (by first | with_reducible assumption | exact ⟨by omega, by omega⟩)⟩
              exact hJ103 H locs ls (fun i => ([0, 0] : List (Int32)).getD i 0) (fun _ => 0) (fun _ => (fun _ => 0)) (fun _ => (fun _ => 0)) hc
          · skip
            have b_ := zF_ne rfl zk_0 c_
            refine lv_goto (tgt := 151) hx hb dX13_shown_94 (by decide) ?_
            obtain ⟨z151, e_z151⟩ : ∃ z : Int32, z = (u76_ 2) + Int32.ofInt 1 := ⟨_, rfl⟩
            have b_ := zadd (x := (u76_ 2)) (y := Int32.ofInt 1) rfl (show (Int32.ofInt 1).toInt = 1 from by decide) e_z151 (by omega) (by omega)
            refine lv_iinc (v := z151) (lv' := [(4, .int z151), (0, .ref h0), (1, .int x1), (2, .int (u76_ 0)), (3, .int (u76_ 1))]) hx hb dX13_shown_151 hl (k := 4) rfl e_z151.symm (by decide) rfl (fun ls hl => ?_)
            refine lv_goto (tgt := 76) hx hb dX13_shown_154 (by decide) ?_
            have hc : va_P (dC, dI) vwCl [(h0, .inr (13, mX13 q0 v0)), ((q0 11), zi k10 120 f10), ((q0 63), zi k39 40 f39), ((q0 64), zi k40 40 f40), ((q0 5), zi k4 122880 f4), ((q0 43), zi k27 40 f27), ((q0 44), zi k28 40 f28), ((q0 45), zi k29 40 f29), ((q0 61), zi k37 200 f37), ((q0 62), zi k38 16000 f38), ((q0 66), zi k42 1034 (a2_ 0)), ((q0 12), zi k11 120 f11)] H ∧ va_D A [(h0, .inr (13, mX13 q0 v0)), ((q0 11), zi k10 120 f10), ((q0 63), zi k39 40 f39), ((q0 64), zi k40 40 f40), ((q0 5), zi k4 122880 f4), ((q0 43), zi k27 40 f27), ((q0 44), zi k28 40 f28), ((q0 45), zi k29 40 f29), ((q0 61), zi k37 200 f37), ((q0 62), zi k38 16000 f38), ((q0 66), zi k42 1034 (a2_ 0)), ((q0 12), zi k11 120 f11)] ∧ va_S A s.heap H locs ∧ lv_has ls 7 [(0, .ref h0), (1, .int x1), (2, .int (u76_ 0)), (3, .int (u76_ 1)), (4, .int z151)] ∧ ((-1) ≤ (u76_ 0).toInt ∧ (u76_ 0).toInt ≤ 1023) ∧ (0 ≤ (u76_ 1).toInt ∧ (u76_ 1).toInt ≤ 2147483647) ∧ (0 ≤ z151.toInt ∧ z151.toInt ≤ 1024) := ⟨hP, hD, hS, lv_sub hl [1, 2, 3, 4, 0] rfl, (by first | with_reducible assumption | exact ⟨by omega, by omega⟩), (by first | with_reducible assumption | exact ⟨by omega, by omega⟩), (by first | with_reducible assumption | exact ⟨by omega, by omega⟩)⟩
            exact hJ76 H locs ls (fun i => ([(u76_ 0), (u76_ 1), z151] : List (Int32)).getD i 0) (fun _ => 0) (fun _ => (fun _ => 0)) (fun _ => (fun _ => 0)) hc (show (1024 - z151.toInt).toNat < (1024 - (u76_ 2).toInt).toNat from by omega)
      · skip
        have hc : va_P (dC, dI) vwCl [(h0, .inr (13, mX13 q0 v0)), ((q0 11), zi k10 120 f10), ((q0 63), zi k39 40 f39), ((q0 64), zi k40 40 f40), ((q0 5), zi k4 122880 f4), ((q0 43), zi k27 40 f27), ((q0 44), zi k28 40 f28), ((q0 45), zi k29 40 f29), ((q0 61), zi k37 200 f37), ((q0 62), zi k38 16000 f38), ((q0 66), zi k42 1034 (a2_ 0)), ((q0 12), zi k11 120 f11)] H ∧ va_D A [(h0, .inr (13, mX13 q0 v0)), ((q0 11), zi k10 120 f10), ((q0 63), zi k39 40 f39), ((q0 64), zi k40 40 f40), ((q0 5), zi k4 122880 f4), ((q0 43), zi k27 40 f27), ((q0 44), zi k28 40 f28), ((q0 45), zi k29 40 f29), ((q0 61), zi k37 200 f37), ((q0 62), zi k38 16000 f38), ((q0 66), zi k42 1034 (a2_ 0)), ((q0 12), zi k11 120 f11)] ∧ va_S A s.heap H locs ∧ lv_has ls 7 [(0, .ref h0), (1, .int x1), (2, .int (-1)), (3, .int 0), (4, .int 0)] ∧ ((-1) ≤ ((-1) : Int32).toInt ∧ ((-1) : Int32).toInt ≤ 1023) ∧ (0 ≤ (0 : Int32).toInt ∧ (0 : Int32).toInt ≤ 2147483647) ∧ (0 ≤ (0 : Int32).toInt ∧ (0 : Int32).toInt ≤ 1024) := ⟨hP, hD, hS, lv_sub hl [3, 4, 2, 1, 0] rfl, (by first | with_reducible assumption | exact ⟨by omega, by omega⟩), (by first | with_reducible assumption | exact ⟨by omega, by omega⟩), (by first | with_reducible assumption | exact ⟨by omega, by omega⟩)⟩
        exact hJ76 H locs ls (fun i => ([(-1), 0, 0] : List (Int32)).getD i 0) (fun _ => 0) (fun _ => (fun _ => 0)) (fun _ => (fun _ => 0)) hc
    · skip
      have b_ := zF_ge rfl zk_1024 c_
      refine lv_aload_n hx hb dX13_shown_9 rfl (lv_at hl 0 rfl) ?_
      refine va_get (D := (dC, dI)) (ci := 13) (v := .ref (q0 66)) (C := RX13) (T := TX13) (N := 75) hx hb hG zuX13 hown hK hP 0 rfl rfl 66 (by decide) (hG _ zv1670) (fun _ h9 => h9) rfl dX13_shown_10 ?_
      refine lv_iload_n hx hb dX13_shown_13 rfl (lv_at hl 2 rfl) ?_
      refine lv_iload_n hx hb dX13_shown_14 rfl (lv_at hl 2 rfl) ?_
      refine lv_sipush (v := 512) hx hb dX13_shown_15 (by decide) ?_
      refine zcutW (fun H locs ls u62_ w62_ a62_ b62_ => va_P (dC, dI) vwCl [(h0, .inr (13, mX13 q0 v0)), ((q0 11), zi k10 120 f10), ((q0 63), zi k39 40 f39), ((q0 64), zi k40 40 f40), ((q0 5), zi k4 122880 f4), ((q0 43), zi k27 40 f27), ((q0 44), zi k28 40 f28), ((q0 45), zi k29 40 f29), ((q0 61), zi k37 200 f37), ((q0 62), zi k38 16000 f38), ((q0 66), zi k42 1034 (a2_ 0)), ((q0 12), zi k11 120 f11)] H ∧ va_D A [(h0, .inr (13, mX13 q0 v0)), ((q0 11), zi k10 120 f10), ((q0 63), zi k39 40 f39), ((q0 64), zi k40 40 f40), ((q0 5), zi k4 122880 f4), ((q0 43), zi k27 40 f27), ((q0 44), zi k28 40 f28), ((q0 45), zi k29 40 f29), ((q0 61), zi k37 200 f37), ((q0 62), zi k38 16000 f38), ((q0 66), zi k42 1034 (a2_ 0)), ((q0 12), zi k11 120 f11)] ∧ va_S A s.heap H locs ∧ lv_has ls 7 [(0, .ref h0), (1, .int x1), (2, .int (u2_ 0))] ∧ (0 ≤ (u62_ 0).toInt ∧ (u62_ 0).toInt ≤ 1)) (fun ls u62_ w62_ => F0 m 62 ls [.int (u62_ 0), .int (u2_ 0), .ref (q0 66)]) 0 0 ?_ (fun hJ62 => ?_)
      · skip
        intro H locs ls u62_ w62_ a62_ b62_ hc
        obtain ⟨hP, hD, hS, hl, b_⟩ := hc
        refine va_zast hx hb hK hP hD hS 10 9 rfl rfl (zin_lit ⟨by omega, by omega⟩) dX13_shown_62 (fun H locs hP hD hS => ?_)
        obtain ⟨f_62, e_f_62⟩ : ∃ z : Nat → Int32, z = upd (a2_ 0) ((u2_ 0) : Int32).toNatClampNeg (vp_nar .boolean (u62_ 0)) := ⟨_, rfl⟩
        have hP : va_P (dC, dI) vwCl [(h0, .inr (13, mX13 q0 v0)), ((q0 11), zi k10 120 f10), ((q0 63), zi k39 40 f39), ((q0 64), zi k40 40 f40), ((q0 5), zi k4 122880 f4), ((q0 43), zi k27 40 f27), ((q0 44), zi k28 40 f28), ((q0 45), zi k29 40 f29), ((q0 61), zi k37 200 f37), ((q0 62), zi k38 16000 f38), ((q0 66), zi k42 1034 f_62), ((q0 12), zi k11 120 f11)] H := by rw [e_f_62]; exact hP
        have hD : va_D A [(h0, .inr (13, mX13 q0 v0)), ((q0 11), zi k10 120 f10), ((q0 63), zi k39 40 f39), ((q0 64), zi k40 40 f40), ((q0 5), zi k4 122880 f4), ((q0 43), zi k27 40 f27), ((q0 44), zi k28 40 f28), ((q0 45), zi k29 40 f29), ((q0 61), zi k37 200 f37), ((q0 62), zi k38 16000 f38), ((q0 66), zi k42 1034 f_62), ((q0 12), zi k11 120 f11)] := by rw [e_f_62]; exact hD
        obtain ⟨z63, e_z63⟩ : ∃ z : Int32, z = (u2_ 0) + Int32.ofInt 1 := ⟨_, rfl⟩
        have b_ := zadd (x := (u2_ 0)) (y := Int32.ofInt 1) rfl (show (Int32.ofInt 1).toInt = 1 from by decide) e_z63 (by omega) (by omega)
        refine lv_iinc (v := z63) (lv' := [(2, .int z63), (0, .ref h0), (1, .int x1)]) hx hb dX13_shown_63 hl (k := 2) rfl e_z63.symm (by decide) rfl (fun ls hl => ?_)
        refine lv_goto (tgt := 2) hx hb dX13_shown_66 (by decide) ?_
        have hc : va_P (dC, dI) vwCl [(h0, .inr (13, mX13 q0 v0)), ((q0 11), zi k10 120 f10), ((q0 63), zi k39 40 f39), ((q0 64), zi k40 40 f40), ((q0 5), zi k4 122880 f4), ((q0 43), zi k27 40 f27), ((q0 44), zi k28 40 f28), ((q0 45), zi k29 40 f29), ((q0 61), zi k37 200 f37), ((q0 62), zi k38 16000 f38), ((q0 66), zi k42 1034 f_62), ((q0 12), zi k11 120 f11)] H ∧ va_D A [(h0, .inr (13, mX13 q0 v0)), ((q0 11), zi k10 120 f10), ((q0 63), zi k39 40 f39), ((q0 64), zi k40 40 f40), ((q0 5), zi k4 122880 f4), ((q0 43), zi k27 40 f27), ((q0 44), zi k28 40 f28), ((q0 45), zi k29 40 f29), ((q0 61), zi k37 200 f37), ((q0 62), zi k38 16000 f38), ((q0 66), zi k42 1034 f_62), ((q0 12), zi k11 120 f11)] ∧ va_S A s.heap H locs ∧ lv_has ls 7 [(0, .ref h0), (1, .int x1), (2, .int z63)] ∧ (0 ≤ z63.toInt ∧ z63.toInt ≤ 1024) := ⟨hP, hD, hS, lv_sub hl [1, 2, 0] rfl, (by first | with_reducible assumption | exact ⟨by omega, by omega⟩)⟩
        exact hJ2 H locs ls (fun i => ([z63] : List (Int32)).getD i 0) (fun _ => 0) (fun i => ([f_62] : List (Nat → Int32)).getD i (fun _ => 0)) (fun _ => (fun _ => 0)) hc (show (1024 - z63.toInt).toNat < (1024 - (u2_ 0).toInt).toNat from by omega)
      · skip
        refine zcutW (fun H locs ls u61_ w61_ a61_ b61_ => va_P (dC, dI) vwCl [(h0, .inr (13, mX13 q0 v0)), ((q0 11), zi k10 120 f10), ((q0 63), zi k39 40 f39), ((q0 64), zi k40 40 f40), ((q0 5), zi k4 122880 f4), ((q0 43), zi k27 40 f27), ((q0 44), zi k28 40 f28), ((q0 45), zi k29 40 f29), ((q0 61), zi k37 200 f37), ((q0 62), zi k38 16000 f38), ((q0 66), zi k42 1034 (a2_ 0)), ((q0 12), zi k11 120 f11)] H ∧ va_D A [(h0, .inr (13, mX13 q0 v0)), ((q0 11), zi k10 120 f10), ((q0 63), zi k39 40 f39), ((q0 64), zi k40 40 f40), ((q0 5), zi k4 122880 f4), ((q0 43), zi k27 40 f27), ((q0 44), zi k28 40 f28), ((q0 45), zi k29 40 f29), ((q0 61), zi k37 200 f37), ((q0 62), zi k38 16000 f38), ((q0 66), zi k42 1034 (a2_ 0)), ((q0 12), zi k11 120 f11)] ∧ va_S A s.heap H locs ∧ lv_has ls 7 [(0, .ref h0), (1, .int x1), (2, .int (u2_ 0))]) (fun ls u61_ w61_ => F0 m 61 ls [.int (u2_ 0), .ref (q0 66)]) 0 0 ?_ (fun hJ61 => ?_)
        · skip
          intro H locs ls u61_ w61_ a61_ b61_ hc
          obtain ⟨hP, hD, hS, hl⟩ := hc
          refine lv_iconst (v := 0) hx hb dX13_shown_61 (by decide) ?_
          have hc : va_P (dC, dI) vwCl [(h0, .inr (13, mX13 q0 v0)), ((q0 11), zi k10 120 f10), ((q0 63), zi k39 40 f39), ((q0 64), zi k40 40 f40), ((q0 5), zi k4 122880 f4), ((q0 43), zi k27 40 f27), ((q0 44), zi k28 40 f28), ((q0 45), zi k29 40 f29), ((q0 61), zi k37 200 f37), ((q0 62), zi k38 16000 f38), ((q0 66), zi k42 1034 (a2_ 0)), ((q0 12), zi k11 120 f11)] H ∧ va_D A [(h0, .inr (13, mX13 q0 v0)), ((q0 11), zi k10 120 f10), ((q0 63), zi k39 40 f39), ((q0 64), zi k40 40 f40), ((q0 5), zi k4 122880 f4), ((q0 43), zi k27 40 f27), ((q0 44), zi k28 40 f28), ((q0 45), zi k29 40 f29), ((q0 61), zi k37 200 f37), ((q0 62), zi k38 16000 f38), ((q0 66), zi k42 1034 (a2_ 0)), ((q0 12), zi k11 120 f11)] ∧ va_S A s.heap H locs ∧ lv_has ls 7 [(0, .ref h0), (1, .int x1), (2, .int (u2_ 0))] ∧ (0 ≤ (0 : Int32).toInt ∧ (0 : Int32).toInt ≤ 1) := ⟨hP, hD, hS, lv_sub hl [0, 1, 2] rfl, (by first | with_reducible assumption | exact ⟨by omega, by omega⟩)⟩
          exact hJ62 H locs ls (fun i => ([0] : List (Int32)).getD i 0) (fun _ => 0) (fun _ => (fun _ => 0)) (fun _ => (fun _ => 0)) hc
        · skip
          refine zcutW (fun H locs ls u48_ w48_ a48_ b48_ => va_P (dC, dI) vwCl [(h0, .inr (13, mX13 q0 v0)), ((q0 11), zi k10 120 f10), ((q0 63), zi k39 40 f39), ((q0 64), zi k40 40 f40), ((q0 5), zi k4 122880 f4), ((q0 43), zi k27 40 f27), ((q0 44), zi k28 40 f28), ((q0 45), zi k29 40 f29), ((q0 61), zi k37 200 f37), ((q0 62), zi k38 16000 f38), ((q0 66), zi k42 1034 (a2_ 0)), ((q0 12), zi k11 120 f11)] H ∧ va_D A [(h0, .inr (13, mX13 q0 v0)), ((q0 11), zi k10 120 f10), ((q0 63), zi k39 40 f39), ((q0 64), zi k40 40 f40), ((q0 5), zi k4 122880 f4), ((q0 43), zi k27 40 f27), ((q0 44), zi k28 40 f28), ((q0 45), zi k29 40 f29), ((q0 61), zi k37 200 f37), ((q0 62), zi k38 16000 f38), ((q0 66), zi k42 1034 (a2_ 0)), ((q0 12), zi k11 120 f11)] ∧ va_S A s.heap H locs ∧ lv_has ls 7 [(0, .ref h0), (1, .int x1), (2, .int (u2_ 0))]) (fun ls u48_ w48_ => F0 m 48 ls [.int (u2_ 0), .ref (q0 66)]) 0 0 ?_ (fun hJ48 => ?_)
          · skip
            intro H locs ls u48_ w48_ a48_ b48_ hc
            obtain ⟨hP, hD, hS, hl⟩ := hc
            refine lv_aload_n hx hb dX13_shown_48 rfl (lv_at hl 0 rfl) ?_
            refine lv_iload_n hx hb dX13_shown_49 rfl (lv_at hl 1 rfl) ?_
            refine lv_iload_n hx hb dX13_shown_50 rfl (lv_at hl 2 rfl) ?_
            have hPc := hP.sub (ws' := [(h0, .inr (13, mX13 q0 v0)), ((q0 63), zi k39 40 f39), ((q0 64), zi k40 40 f40), ((q0 5), zi k4 122880 f4), ((q0 43), zi k27 40 f27), ((q0 44), zi k28 40 f28), ((q0 45), zi k29 40 f29), ((q0 61), zi k37 200 f37), ((q0 62), zi k38 16000 f38)]) [0, 2, 3, 4, 5, 6, 7, 8, 9] rfl
            have hDc := hD.sub (ws' := [(h0, .inr (13, mX13 q0 v0)), ((q0 63), zi k39 40 f39), ((q0 64), zi k40 40 f40), ((q0 5), zi k4 122880 f4), ((q0 43), zi k27 40 f27), ((q0 44), zi k28 40 f28), ((q0 45), zi k29 40 f29), ((q0 61), zi k37 200 f37), ((q0 62), zi k38 16000 f38)]) [0, 2, 3, 4, 5, 6, 7, 8, 9] (by decide) rfl
            have hKc := hK.sub (tys' := [(k39, .boolean), (k40, .int), (k4, .short), (k27, .int), (k28, .int), (k29, .int), (k37, .int), (k38, .boolean)]) [1, 2, 3, 4, 5, 6, 7, 8] rfl
            have hFc := va_free (wc := [(h0, .inr (13, mX13 q0 v0)), ((q0 63), zi k39 40 f39), ((q0 64), zi k40 40 f40), ((q0 5), zi k4 122880 f4), ((q0 43), zi k27 40 f27), ((q0 44), zi k28 40 f28), ((q0 45), zi k29 40 f29), ((q0 61), zi k37 200 f37), ((q0 62), zi k38 16000 f38)]) hD hS hA [0, 2, 3, 4, 5, 6, 7, 8, 9] rfl
            refine va_calli (va_runV (As := [.int x1, .int (u2_ 0)]) (rest := [.int (u2_ 0), .ref (q0 66)]) ⟨hx, hb, hml, hown, hG⟩ (sX13_isShown_0 l dC dI adK adV h0 q0 k39 k40 k4 k27 k28 k29 k37 k38 H.size v0 f39 f40 f4 f27 f28 f29 f37 f38 x1 (u2_ 0) hv0 hf4 (show (0 : Int) ≤ (x1 : Int32).toInt ∧ (x1 : Int32).toInt ≤ (119 : Int) from (by first | with_reducible assumption | exact ⟨by omega, by omega⟩)) (show (0 : Int) ≤ ((u2_ 0) : Int32).toInt ∧ ((u2_ 0) : Int32).toInt ≤ (1023 : Int) from (by first | with_reducible assumption | exact ⟨by omega, by omega⟩)) (show zLf f27 f28 f29 (v0 47).toInt from by first | with_reducible assumption | assumption)) (cwV 2 hG (zgV zv2215 zv2217 zv124 zv142 zv2218) rfl rfl rfl (by decide +kernel) ⟨Nat.le_of_ble_eq_true rfl, Nat.le_of_ble_eq_true rfl⟩) ⟨zPc_blind, va_recv hKc hPc (ci := 13) (q0 := 0) rfl rfl, zPc_pre hPc hKc hDc hE hS hFc hZ⟩ rfl rfl hl.1 rfl (lv_room (Nat.le_of_ble_eq_true rfl)) dX13_shown_51 ⟨Nat.le_of_ble_eq_true rfl, Nat.le_of_ble_eq_true rfl⟩) hS (fun q _ h => hFc q h) hFc (fun r51_ u51_ t H1 locs ht hvm hw hB hz1 hk1 hS => ?_)
            replace hw : (0 ≤ r51_.toInt ∧ r51_.toInt ≤ 1) := hw
            have b_ := hw
            obtain ⟨w51_, a51_, b51_, hP1, hK1, hD1⟩ := hB
            rw [ht] at hP1
            obtain ⟨hP, hD⟩ := va_join (wr := [((q0 11), zi k10 120 f10), ((q0 66), zi k42 1034 (a2_ 0)), ((q0 12), zi k11 120 f11)]) (w1 := [(h0, .inr (13, mX13 q0 v0)), ((q0 63), zi k39 40 f39), ((q0 64), zi k40 40 f40), ((q0 5), zi k4 122880 f4), ((q0 43), zi k27 40 f27), ((q0 44), zi k28 40 f28), ((q0 45), zi k29 40 f29), ((q0 61), zi k37 200 f37), ((q0 62), zi k38 16000 f38)]) hP hD [0, 2, 3, 4, 5, 6, 7, 8, 9] [1, 10, 11] rfl rfl (by decide) (by decide) hk1 hFc hP1 hD1
            have hP : va_P (dC, dI) vwCl [(h0, .inr (13, mX13 q0 v0)), ((q0 11), zi k10 120 f10), ((q0 63), zi k39 40 f39), ((q0 64), zi k40 40 f40), ((q0 5), zi k4 122880 f4), ((q0 43), zi k27 40 f27), ((q0 44), zi k28 40 f28), ((q0 45), zi k29 40 f29), ((q0 61), zi k37 200 f37), ((q0 62), zi k38 16000 f38), ((q0 66), zi k42 1034 (a2_ 0)), ((q0 12), zi k11 120 f11)] H1 := hP.sub [3, 0, 4, 5, 6, 7, 8, 9, 10, 11, 1, 2] rfl
            have hD : va_D A [(h0, .inr (13, mX13 q0 v0)), ((q0 11), zi k10 120 f10), ((q0 63), zi k39 40 f39), ((q0 64), zi k40 40 f40), ((q0 5), zi k4 122880 f4), ((q0 43), zi k27 40 f27), ((q0 44), zi k28 40 f28), ((q0 45), zi k29 40 f29), ((q0 61), zi k37 200 f37), ((q0 62), zi k38 16000 f38), ((q0 66), zi k42 1034 (a2_ 0)), ((q0 12), zi k11 120 f11)] := hD.sub [3, 0, 4, 5, 6, 7, 8, 9, 10, 11, 1, 2] (by decide) rfl
            generalize H1 = H at hP hS ⊢
            clear hz1
            refine lv_if_eq (tgt := 61) hx hb dX13_shown_54 (by decide) (fun c_ => ?_) (fun c_ => ?_)
            · skip
              have b_ := zT_eq rfl zk_0 c_
              have hc : va_P (dC, dI) vwCl [(h0, .inr (13, mX13 q0 v0)), ((q0 11), zi k10 120 f10), ((q0 63), zi k39 40 f39), ((q0 64), zi k40 40 f40), ((q0 5), zi k4 122880 f4), ((q0 43), zi k27 40 f27), ((q0 44), zi k28 40 f28), ((q0 45), zi k29 40 f29), ((q0 61), zi k37 200 f37), ((q0 62), zi k38 16000 f38), ((q0 66), zi k42 1034 (a2_ 0)), ((q0 12), zi k11 120 f11)] H ∧ va_D A [(h0, .inr (13, mX13 q0 v0)), ((q0 11), zi k10 120 f10), ((q0 63), zi k39 40 f39), ((q0 64), zi k40 40 f40), ((q0 5), zi k4 122880 f4), ((q0 43), zi k27 40 f27), ((q0 44), zi k28 40 f28), ((q0 45), zi k29 40 f29), ((q0 61), zi k37 200 f37), ((q0 62), zi k38 16000 f38), ((q0 66), zi k42 1034 (a2_ 0)), ((q0 12), zi k11 120 f11)] ∧ va_S A s.heap H locs ∧ lv_has ls 7 [(0, .ref h0), (1, .int x1), (2, .int (u2_ 0))] := ⟨hP, hD, hS, lv_sub hl [0, 1, 2] rfl⟩
              exact hJ61 H locs ls (fun _ => 0) (fun _ => 0) (fun _ => (fun _ => 0)) (fun _ => (fun _ => 0)) hc
            · skip
              have b_ := zF_eq rfl zk_0 c_
              refine lv_iconst (v := 1) hx hb dX13_shown_57 (by decide) ?_
              refine lv_goto (tgt := 62) hx hb dX13_shown_58 (by decide) ?_
              have hc : va_P (dC, dI) vwCl [(h0, .inr (13, mX13 q0 v0)), ((q0 11), zi k10 120 f10), ((q0 63), zi k39 40 f39), ((q0 64), zi k40 40 f40), ((q0 5), zi k4 122880 f4), ((q0 43), zi k27 40 f27), ((q0 44), zi k28 40 f28), ((q0 45), zi k29 40 f29), ((q0 61), zi k37 200 f37), ((q0 62), zi k38 16000 f38), ((q0 66), zi k42 1034 (a2_ 0)), ((q0 12), zi k11 120 f11)] H ∧ va_D A [(h0, .inr (13, mX13 q0 v0)), ((q0 11), zi k10 120 f10), ((q0 63), zi k39 40 f39), ((q0 64), zi k40 40 f40), ((q0 5), zi k4 122880 f4), ((q0 43), zi k27 40 f27), ((q0 44), zi k28 40 f28), ((q0 45), zi k29 40 f29), ((q0 61), zi k37 200 f37), ((q0 62), zi k38 16000 f38), ((q0 66), zi k42 1034 (a2_ 0)), ((q0 12), zi k11 120 f11)] ∧ va_S A s.heap H locs ∧ lv_has ls 7 [(0, .ref h0), (1, .int x1), (2, .int (u2_ 0))] ∧ (0 ≤ (1 : Int32).toInt ∧ (1 : Int32).toInt ≤ 1) := ⟨hP, hD, hS, lv_sub hl [0, 1, 2] rfl, (by first | with_reducible assumption | exact ⟨by omega, by omega⟩)⟩
              exact hJ62 H locs ls (fun i => ([1] : List (Int32)).getD i 0) (fun _ => 0) (fun _ => (fun _ => 0)) (fun _ => (fun _ => 0)) hc
          · skip
            refine lv_icmp_ge (tgt := 34) hx hb dX13_shown_18 (by decide) (fun c_ => ?_) (fun c_ => ?_)
            · skip
              have b_ := zT_ge rfl zk_512 c_
              refine lv_iload_n hx hb dX13_shown_34 rfl (lv_at hl 2 rfl) ?_
              refine lv_sipush (v := 512) hx hb dX13_shown_35 (by decide) ?_
              refine lv_aload_n hx hb dX13_shown_38 rfl (lv_at hl 0 rfl) ?_
              refine va_get (D := (dC, dI)) (ci := 13) (v := .ref (q0 12)) (C := RX13) (T := TX13) (N := 75) hx hb hG zuX13 hown hK hP 0 rfl rfl 12 (by decide) (hG _ zv1616) (fun _ h9 => h9) rfl dX13_shown_39 ?_
              refine lv_iload_n hx hb dX13_shown_42 rfl (lv_at hl 1 rfl) ?_
              refine va_iald hx hb hK hP 11 10 rfl rfl (zin_lit ⟨by omega, by omega⟩) dX13_shown_43 ?_
              refine lv_topi (fun z43 e_z43 => ?_)
              have b_ : 0 ≤ z43.toInt ∧ z43.toInt ≤ 512 := by rw [e_z43]; exact hf11 _
              refine lv_iadd hx hb dX13_shown_44 ?_
              refine lv_topi (fun z44 e_z44 => ?_)
              have b_ := zadd zk_512 rfl e_z44 (by omega) (by omega)
              refine lv_icmp_ge (tgt := 61) hx hb dX13_shown_45 (by decide) (fun c_ => ?_) (fun c_ => ?_)
              · skip
                have b_ := zT_ge rfl rfl c_
                have hc : va_P (dC, dI) vwCl [(h0, .inr (13, mX13 q0 v0)), ((q0 11), zi k10 120 f10), ((q0 63), zi k39 40 f39), ((q0 64), zi k40 40 f40), ((q0 5), zi k4 122880 f4), ((q0 43), zi k27 40 f27), ((q0 44), zi k28 40 f28), ((q0 45), zi k29 40 f29), ((q0 61), zi k37 200 f37), ((q0 62), zi k38 16000 f38), ((q0 66), zi k42 1034 (a2_ 0)), ((q0 12), zi k11 120 f11)] H ∧ va_D A [(h0, .inr (13, mX13 q0 v0)), ((q0 11), zi k10 120 f10), ((q0 63), zi k39 40 f39), ((q0 64), zi k40 40 f40), ((q0 5), zi k4 122880 f4), ((q0 43), zi k27 40 f27), ((q0 44), zi k28 40 f28), ((q0 45), zi k29 40 f29), ((q0 61), zi k37 200 f37), ((q0 62), zi k38 16000 f38), ((q0 66), zi k42 1034 (a2_ 0)), ((q0 12), zi k11 120 f11)] ∧ va_S A s.heap H locs ∧ lv_has ls 7 [(0, .ref h0), (1, .int x1), (2, .int (u2_ 0))] := ⟨hP, hD, hS, lv_sub hl [0, 1, 2] rfl⟩
                exact hJ61 H locs ls (fun _ => 0) (fun _ => 0) (fun _ => (fun _ => 0)) (fun _ => (fun _ => 0)) hc
              · skip
                have b_ := zF_ge rfl rfl c_
                have hc : va_P (dC, dI) vwCl [(h0, .inr (13, mX13 q0 v0)), ((q0 11), zi k10 120 f10), ((q0 63), zi k39 40 f39), ((q0 64), zi k40 40 f40), ((q0 5), zi k4 122880 f4), ((q0 43), zi k27 40 f27), ((q0 44), zi k28 40 f28), ((q0 45), zi k29 40 f29), ((q0 61), zi k37 200 f37), ((q0 62), zi k38 16000 f38), ((q0 66), zi k42 1034 (a2_ 0)), ((q0 12), zi k11 120 f11)] H ∧ va_D A [(h0, .inr (13, mX13 q0 v0)), ((q0 11), zi k10 120 f10), ((q0 63), zi k39 40 f39), ((q0 64), zi k40 40 f40), ((q0 5), zi k4 122880 f4), ((q0 43), zi k27 40 f27), ((q0 44), zi k28 40 f28), ((q0 45), zi k29 40 f29), ((q0 61), zi k37 200 f37), ((q0 62), zi k38 16000 f38), ((q0 66), zi k42 1034 (a2_ 0)), ((q0 12), zi k11 120 f11)] ∧ va_S A s.heap H locs ∧ lv_has ls 7 [(0, .ref h0), (1, .int x1), (2, .int (u2_ 0))] := ⟨hP, hD, hS, lv_sub hl [0, 1, 2] rfl⟩
                exact hJ48 H locs ls (fun _ => 0) (fun _ => 0) (fun _ => (fun _ => 0)) (fun _ => (fun _ => 0)) hc
            · skip
              have b_ := zF_ge rfl zk_512 c_
              refine lv_iload_n hx hb dX13_shown_21 rfl (lv_at hl 2 rfl) ?_
              refine lv_aload_n hx hb dX13_shown_22 rfl (lv_at hl 0 rfl) ?_
              refine va_get (D := (dC, dI)) (ci := 13) (v := .ref (q0 11)) (C := RX13) (T := TX13) (N := 75) hx hb hG zuX13 hown hK hP 0 rfl rfl 11 (by decide) (hG _ zv1615) (fun _ h9 => h9) rfl dX13_shown_23 ?_
              refine lv_iload_n hx hb dX13_shown_26 rfl (lv_at hl 1 rfl) ?_
              refine va_iald hx hb hK hP 1 0 rfl rfl (zin_lit ⟨by omega, by omega⟩) dX13_shown_27 ?_
              refine lv_topi (fun z27 e_z27 => ?_)
              have b_ : 0 ≤ z27.toInt ∧ z27.toInt ≤ 512 := by rw [e_z27]; exact hf10 _
              refine lv_icmp_ge (tgt := 61) hx hb dX13_shown_28 (by decide) (fun c_ => ?_) (fun c_ => ?_)
              · skip
                have b_ := zT_ge rfl rfl c_
                have hc : va_P (dC, dI) vwCl [(h0, .inr (13, mX13 q0 v0)), ((q0 11), zi k10 120 f10), ((q0 63), zi k39 40 f39), ((q0 64), zi k40 40 f40), ((q0 5), zi k4 122880 f4), ((q0 43), zi k27 40 f27), ((q0 44), zi k28 40 f28), ((q0 45), zi k29 40 f29), ((q0 61), zi k37 200 f37), ((q0 62), zi k38 16000 f38), ((q0 66), zi k42 1034 (a2_ 0)), ((q0 12), zi k11 120 f11)] H ∧ va_D A [(h0, .inr (13, mX13 q0 v0)), ((q0 11), zi k10 120 f10), ((q0 63), zi k39 40 f39), ((q0 64), zi k40 40 f40), ((q0 5), zi k4 122880 f4), ((q0 43), zi k27 40 f27), ((q0 44), zi k28 40 f28), ((q0 45), zi k29 40 f29), ((q0 61), zi k37 200 f37), ((q0 62), zi k38 16000 f38), ((q0 66), zi k42 1034 (a2_ 0)), ((q0 12), zi k11 120 f11)] ∧ va_S A s.heap H locs ∧ lv_has ls 7 [(0, .ref h0), (1, .int x1), (2, .int (u2_ 0))] := ⟨hP, hD, hS, lv_sub hl [0, 1, 2] rfl⟩
                exact hJ61 H locs ls (fun _ => 0) (fun _ => 0) (fun _ => (fun _ => 0)) (fun _ => (fun _ => 0)) hc
              · skip
                have b_ := zF_ge rfl rfl c_
                refine lv_goto (tgt := 48) hx hb dX13_shown_31 (by decide) ?_
                have hc : va_P (dC, dI) vwCl [(h0, .inr (13, mX13 q0 v0)), ((q0 11), zi k10 120 f10), ((q0 63), zi k39 40 f39), ((q0 64), zi k40 40 f40), ((q0 5), zi k4 122880 f4), ((q0 43), zi k27 40 f27), ((q0 44), zi k28 40 f28), ((q0 45), zi k29 40 f29), ((q0 61), zi k37 200 f37), ((q0 62), zi k38 16000 f38), ((q0 66), zi k42 1034 (a2_ 0)), ((q0 12), zi k11 120 f11)] H ∧ va_D A [(h0, .inr (13, mX13 q0 v0)), ((q0 11), zi k10 120 f10), ((q0 63), zi k39 40 f39), ((q0 64), zi k40 40 f40), ((q0 5), zi k4 122880 f4), ((q0 43), zi k27 40 f27), ((q0 44), zi k28 40 f28), ((q0 45), zi k29 40 f29), ((q0 61), zi k37 200 f37), ((q0 62), zi k38 16000 f38), ((q0 66), zi k42 1034 (a2_ 0)), ((q0 12), zi k11 120 f11)] ∧ va_S A s.heap H locs ∧ lv_has ls 7 [(0, .ref h0), (1, .int x1), (2, .int (u2_ 0))] := ⟨hP, hD, hS, lv_sub hl [0, 1, 2] rfl⟩
                exact hJ48 H locs ls (fun _ => 0) (fun _ => 0) (fun _ => (fun _ => 0)) (fun _ => (fun _ => 0)) hc
  · skip
    have hc : va_P (dC, dI) vwCl [(h0, .inr (13, mX13 q0 v0)), ((q0 11), zi k10 120 f10), ((q0 63), zi k39 40 f39), ((q0 64), zi k40 40 f40), ((q0 5), zi k4 122880 f4), ((q0 43), zi k27 40 f27), ((q0 44), zi k28 40 f28), ((q0 45), zi k29 40 f29), ((q0 61), zi k37 200 f37), ((q0 62), zi k38 16000 f38), ((q0 66), zi k42 1034 f42), ((q0 12), zi k11 120 f11)] s.heap ∧ va_D A [(h0, .inr (13, mX13 q0 v0)), ((q0 11), zi k10 120 f10), ((q0 63), zi k39 40 f39), ((q0 64), zi k40 40 f40), ((q0 5), zi k4 122880 f4), ((q0 43), zi k27 40 f27), ((q0 44), zi k28 40 f28), ((q0 45), zi k29 40 f29), ((q0 61), zi k37 200 f37), ((q0 62), zi k38 16000 f38), ((q0 66), zi k42 1034 f42), ((q0 12), zi k11 120 f11)] ∧ va_S A s.heap s.heap [] ∧ lv_has ls 7 [(0, .ref h0), (1, .int x1), (2, .int 0)] ∧ (0 ≤ (0 : Int32).toInt ∧ (0 : Int32).toInt ≤ 1024) := ⟨hP, hD, hS, lv_sub hl [1, 2, 0] rfl, (by first | with_reducible assumption | exact ⟨by omega, by omega⟩)⟩
    exact hJ2 s.heap [] ls (fun i => ([0] : List (Int32)).getD i 0) (fun _ => 0) (fun i => ([f42] : List (Nat → Int32)).getD i (fun _ => 0)) (fun _ => (fun _ => 0)) hc
set_option maxHeartbeats 8000000 in
set_option maxRecDepth 100000 in
theorem sX13_take_0 (l : Launch) (dC : Nat → ClassId) (dI : Nat → Nat → Nat) (adK adV : Nat → Nat) (h0 : Nat) (q0 : Nat → Nat) (k43 : ClassId) (k45 : ClassId) (k44 : ClassId) (k46 : ClassId) (k10 : ClassId) (k39 : ClassId) (k40 : ClassId) (k4 : ClassId) (k27 : ClassId) (k28 : ClassId) (k29 : ClassId) (k37 : ClassId) (k38 : ClassId) (k42 : ClassId) (k11 : ClassId) (sz : Nat) (v0 : Nat → Int32) (f43 : Nat → Int32) (f45 : Nat → Int32) (f44 : Nat → Int32) (f46 : Nat → Int32) (f10 : Nat → Int32) (f39 : Nat → Int32) (f40 : Nat → Int32) (f4 : Nat → Int32) (f27 : Nat → Int32) (f28 : Nat → Int32) (f29 : Nat → Int32) (f37 : Nat → Int32) (f38 : Nat → Int32) (f42 : Nat → Int32) (f11 : Nat → Int32) (x1 : Int32) (x2 : Int32) (hv0 : zR rg_Model v0) (hf10 : zA 0 512 f10) (hf4 : zA 0 400 f4) (hf11 : zA 0 512 f11) (hx1 : 0 ≤ x1.toInt ∧ x1.toInt ≤ 119) (hp0_ : (v0 71).toInt ≤ 119) (hp1_ : zLf f27 f28 f29 (v0 47).toInt) : Met l yX13_take (zw yX13_take cX13_take 4 none) { frames := 4, cells := 0, slots := 0, locals := 100 } (zPc dC dI adK adV [.ref h0, .int x1, .int x2] sz [(h0, .inr (13, mX13 q0 v0)), ((q0 67), zi k43 120 f43), ((q0 69), zi k45 120 f45), ((q0 68), zi k44 120 f44), ((q0 70), zi k46 120 f46), ((q0 11), zi k10 120 f10), ((q0 63), zi k39 40 f39), ((q0 64), zi k40 40 f40), ((q0 5), zi k4 122880 f4), ((q0 43), zi k27 40 f27), ((q0 44), zi k28 40 f28), ((q0 45), zi k29 40 f29), ((q0 61), zi k37 200 f37), ((q0 62), zi k38 16000 f38), ((q0 66), zi k42 1034 f42), ((q0 12), zi k11 120 f11)] [(k43, .int), (k45, .int), (k44, .int), (k46, .int), (k10, .int), (k39, .boolean), (k40, .int), (k4, .short), (k27, .int), (k28, .int), (k29, .int), (k37, .int), (k38, .boolean), (k42, .boolean), (k11, .int)]) (va_Qv (fun (u : Nat → Int32) => (1 ≤ (u 0).toInt ∧ (u 0).toInt ≤ 120) ∧ ((u 0).toInt = (v0 71).toInt + 1)) (fun (u : Nat → Int32) (t : State) => ∃ (ww : Nat → Int64) (aa : Nat → Nat → Int32) (bb : Nat → Nat → Int64), (zKpt f43 (v0 71).toInt (x1 : Int32) (aa 0) (u 0).toInt) ∧ va_P (dC, dI) vwCl [(h0, .inr (13, mX13 q0 (upd v0 71 (u 0)))), ((q0 67), zi k43 120 (aa 0)), ((q0 69), zi k45 120 (aa 1)), ((q0 68), zi k44 120 (aa 2)), ((q0 70), zi k46 120 (aa 3)), ((q0 11), zi k10 120 f10), ((q0 63), zi k39 40 f39), ((q0 64), zi k40 40 f40), ((q0 5), zi k4 122880 f4), ((q0 43), zi k27 40 f27), ((q0 44), zi k28 40 f28), ((q0 45), zi k29 40 f29), ((q0 61), zi k37 200 f37), ((q0 62), zi k38 16000 f38), ((q0 66), zi k42 1034 (aa 4)), ((q0 12), zi k11 120 f11)] t.heap ∧ va_K (dC, dI) vwCl [(k43, .int), (k45, .int), (k44, .int), (k46, .int), (k10, .int), (k39, .boolean), (k40, .int), (k4, .short), (k27, .int), (k28, .int), (k29, .int), (k37, .int), (k38, .boolean), (k42, .boolean), (k11, .int)] t ∧ va_D (va_A [(h0, .inr (13, mX13 q0 v0)), ((q0 67), zi k43 120 f43), ((q0 69), zi k45 120 f45), ((q0 68), zi k44 120 f44), ((q0 70), zi k46 120 f46), ((q0 11), zi k10 120 f10), ((q0 63), zi k39 40 f39), ((q0 64), zi k40 40 f40), ((q0 5), zi k4 122880 f4), ((q0 43), zi k27 40 f27), ((q0 44), zi k28 40 f28), ((q0 45), zi k29 40 f29), ((q0 61), zi k37 200 f37), ((q0 62), zi k38 16000 f38), ((q0 66), zi k42 1034 f42), ((q0 12), zi k11 120 f11)] sz) [(h0, .inr (13, mX13 q0 (upd v0 71 (u 0)))), ((q0 67), zi k43 120 (aa 0)), ((q0 69), zi k45 120 (aa 1)), ((q0 68), zi k44 120 (aa 2)), ((q0 70), zi k46 120 (aa 3)), ((q0 11), zi k10 120 f10), ((q0 63), zi k39 40 f39), ((q0 64), zi k40 40 f40), ((q0 5), zi k4 122880 f4), ((q0 43), zi k27 40 f27), ((q0 44), zi k28 40 f28), ((q0 45), zi k29 40 f29), ((q0 61), zi k37 200 f37), ((q0 62), zi k38 16000 f38), ((q0 66), zi k42 1034 (aa 4)), ((q0 12), zi k11 120 f11)]) (va_A [(h0, .inr (13, mX13 q0 v0)), ((q0 67), zi k43 120 f43), ((q0 69), zi k45 120 f45), ((q0 68), zi k44 120 f44), ((q0 70), zi k46 120 f46), ((q0 11), zi k10 120 f10), ((q0 63), zi k39 40 f39), ((q0 64), zi k40 40 f40), ((q0 5), zi k4 122880 f4), ((q0 43), zi k27 40 f27), ((q0 44), zi k28 40 f28), ((q0 45), zi k29 40 f29), ((q0 61), zi k37 200 f37), ((q0 62), zi k38 16000 f38), ((q0 66), zi k42 1034 f42), ((q0 12), zi k11 120 f11)] sz)) 0 0 (va_A [(h0, .inr (13, mX13 q0 v0)), ((q0 67), zi k43 120 f43), ((q0 69), zi k45 120 f45), ((q0 68), zi k44 120 f44), ((q0 70), zi k46 120 f46), ((q0 11), zi k10 120 f10), ((q0 63), zi k39 40 f39), ((q0 64), zi k40 40 f40), ((q0 5), zi k4 122880 f4), ((q0 43), zi k27 40 f27), ((q0 44), zi k28 40 f28), ((q0 45), zi k29 40 f29), ((q0 61), zi k37 200 f37), ((q0 62), zi k38 16000 f38), ((q0 66), zi k42 1034 f42), ((q0 12), zi k11 120 f11)] sz) := by
  refine Met.ofW (cc := cX13_take) (maxL := 4) (ret := none) (by decide) rfl ?_
  intro p e s m args below meth c s₁ B hml hv
  obtain ⟨rfl, hsz, hP, hK, hD0, hE, hZ⟩ := hv
  have hx := B.exec
  have hb := B.bytes
  have hr := B.returns
  have hG : ∀ w ∈ zG, w.before _ s = true := fun w h => atoms_spec (ws := (zw yX13_take cX13_take 4 none)) B.pre w (List.mem_cons_of_mem _ h)
  have hown : s.vm.findClass RX13 = some m.cls := findClass_of_methodNamed B.named
  have hlocks := B.notSynchronized

  subst hsz
  have hD := hD0.self (sz := s.heap.size)
  generalize hAe : va_A [(h0, .inr (13, mX13 q0 v0)), ((q0 67), zi k43 120 f43), ((q0 69), zi k45 120 f45), ((q0 68), zi k44 120 f44), ((q0 70), zi k46 120 f46), ((q0 11), zi k10 120 f10), ((q0 63), zi k39 40 f39), ((q0 64), zi k40 40 f40), ((q0 5), zi k4 122880 f4), ((q0 43), zi k27 40 f27), ((q0 44), zi k28 40 f28), ((q0 45), zi k29 40 f29), ((q0 61), zi k37 200 f37), ((q0 62), zi k38 16000 f38), ((q0 66), zi k42 1034 f42), ((q0 12), zi k11 120 f11)] s.heap.size = A at hD hZ ⊢
  have hA : ∀ q : Nat, s.heap.size ≤ q → A q := fun q h => by rw [← hAe]; exact Or.inr h
  have hS : va_S A s.heap s.heap [] := va_S.rf
  have hl := lv_entry ([.ref h0, .int x1, .int x2]) (n := 4) (Nat.le_of_ble_eq_true rfl)
  rw [lg_entry_eq]
  generalize (lg_sl ([.ref h0, .int x1, .int x2]) ++ List.replicate (4 - (lg_sl ([.ref h0, .int x1, .int x2])).length) Slot.unset).toArray = ls at hl ⊢
  have hl : lv_has ls 4 [(0, .ref h0), (1, .int x1), (2, .int x2)] := hl
  have b_ : 0 ≤ (v0 71).toInt ∧ (v0 71).toInt ≤ 120 := hv0 71
  have b_ : 0 ≤ (v0 47).toInt ∧ (v0 47).toInt ≤ 40 := hv0 47
  refine lv_aload_n hx hb dX13_take_0 rfl (lv_at hl 0 rfl) ?_
  refine va_get (D := (dC, dI)) (ci := 13) (v := .ref (q0 67)) (C := RX13) (T := TX13) (N := 75) hx hb hG zuX13 hown hK hP 0 rfl rfl 67 (by decide) (hG _ zv1671) (fun _ h9 => h9) rfl dX13_take_1 ?_
  refine lv_aload_n hx hb dX13_take_4 rfl (lv_at hl 0 rfl) ?_
  refine va_get (D := (dC, dI)) (ci := 13) (v := .int (v0 71)) (C := RX13) (T := TX13) (N := 75) hx hb hG zuX13 hown hK hP 0 rfl rfl 71 (by decide) (hG _ zv1675) (fun _ h9 => h9) rfl dX13_take_5 ?_
  refine lv_iload_n hx hb dX13_take_8 rfl (lv_at hl 1 rfl) ?_
  refine va_iast hx hb hK hP hD hS 1 0 rfl rfl (zin_lit ⟨by omega, by omega⟩) dX13_take_9 (fun H locs hP hD hS => ?_)
  obtain ⟨f_9, e_f_9⟩ : ∃ z : Nat → Int32, z = upd f43 ((v0 71) : Int32).toNatClampNeg x1 := ⟨_, rfl⟩
  have hP : va_P (dC, dI) vwCl [(h0, .inr (13, mX13 q0 v0)), ((q0 67), zi k43 120 f_9), ((q0 69), zi k45 120 f45), ((q0 68), zi k44 120 f44), ((q0 70), zi k46 120 f46), ((q0 11), zi k10 120 f10), ((q0 63), zi k39 40 f39), ((q0 64), zi k40 40 f40), ((q0 5), zi k4 122880 f4), ((q0 43), zi k27 40 f27), ((q0 44), zi k28 40 f28), ((q0 45), zi k29 40 f29), ((q0 61), zi k37 200 f37), ((q0 62), zi k38 16000 f38), ((q0 66), zi k42 1034 f42), ((q0 12), zi k11 120 f11)] H := by rw [e_f_9]; exact hP
  have hD : va_D A [(h0, .inr (13, mX13 q0 v0)), ((q0 67), zi k43 120 f_9), ((q0 69), zi k45 120 f45), ((q0 68), zi k44 120 f44), ((q0 70), zi k46 120 f46), ((q0 11), zi k10 120 f10), ((q0 63), zi k39 40 f39), ((q0 64), zi k40 40 f40), ((q0 5), zi k4 122880 f4), ((q0 43), zi k27 40 f27), ((q0 44), zi k28 40 f28), ((q0 45), zi k29 40 f29), ((q0 61), zi k37 200 f37), ((q0 62), zi k38 16000 f38), ((q0 66), zi k42 1034 f42), ((q0 12), zi k11 120 f11)] := by rw [e_f_9]; exact hD
  refine lv_aload_n hx hb dX13_take_10 rfl (lv_at hl 0 rfl) ?_
  refine va_get (D := (dC, dI)) (ci := 13) (v := .int (v0 71)) (C := RX13) (T := TX13) (N := 75) hx hb hG zuX13 hown hK hP 0 rfl rfl 71 (by decide) (hG _ zv1675) (fun _ h9 => h9) rfl dX13_take_11 ?_
  refine lv_istore_n (lv' := [(3, .int (v0 71)), (0, .ref h0), (1, .int x1), (2, .int x2)]) hx hb dX13_take_14 rfl hl (by decide) rfl (fun ls hl => ?_)
  refine zcutL (fun u15_ => ((u15_ 0).toInt - 0).toNat) (fun H locs ls u15_ w15_ a15_ b15_ => va_P (dC, dI) vwCl [(h0, .inr (13, mX13 q0 v0)), ((q0 67), zi k43 120 f_9), ((q0 69), zi k45 120 (a15_ 1)), ((q0 68), zi k44 120 (a15_ 0)), ((q0 70), zi k46 120 (a15_ 2)), ((q0 11), zi k10 120 f10), ((q0 63), zi k39 40 f39), ((q0 64), zi k40 40 f40), ((q0 5), zi k4 122880 f4), ((q0 43), zi k27 40 f27), ((q0 44), zi k28 40 f28), ((q0 45), zi k29 40 f29), ((q0 61), zi k37 200 f37), ((q0 62), zi k38 16000 f38), ((q0 66), zi k42 1034 f42), ((q0 12), zi k11 120 f11)] H ∧ va_D A [(h0, .inr (13, mX13 q0 v0)), ((q0 67), zi k43 120 f_9), ((q0 69), zi k45 120 (a15_ 1)), ((q0 68), zi k44 120 (a15_ 0)), ((q0 70), zi k46 120 (a15_ 2)), ((q0 11), zi k10 120 f10), ((q0 63), zi k39 40 f39), ((q0 64), zi k40 40 f40), ((q0 5), zi k4 122880 f4), ((q0 43), zi k27 40 f27), ((q0 44), zi k28 40 f28), ((q0 45), zi k29 40 f29), ((q0 61), zi k37 200 f37), ((q0 62), zi k38 16000 f38), ((q0 66), zi k42 1034 f42), ((q0 12), zi k11 120 f11)] ∧ va_S A s.heap H locs ∧ lv_has ls 4 [(0, .ref h0), (1, .int x1), (2, .int x2), (3, .int (u15_ 0))] ∧ (0 ≤ (u15_ 0).toInt ∧ (u15_ 0).toInt ≤ 120) ∧ ((u15_ 0).toInt ≤ (v0 71).toInt)) (fun ls u15_ w15_ => F0 m 15 ls []) 0 0 ?_ (fun hJ15 => ?_)
  · skip
    intro H locs ls u15_ w15_ a15_ b15_ hc hJ15
    obtain ⟨hP, hD, hS, hl, b_, b_⟩ := hc
    refine lv_iload_n hx hb dX13_take_15 rfl (lv_at hl 3 rfl) ?_
    refine zcutW (fun H locs ls u79_ w79_ a79_ b79_ => va_P (dC, dI) vwCl [(h0, .inr (13, mX13 q0 v0)), ((q0 67), zi k43 120 f_9), ((q0 69), zi k45 120 (a15_ 1)), ((q0 68), zi k44 120 (a15_ 0)), ((q0 70), zi k46 120 (a15_ 2)), ((q0 11), zi k10 120 f10), ((q0 63), zi k39 40 f39), ((q0 64), zi k40 40 f40), ((q0 5), zi k4 122880 f4), ((q0 43), zi k27 40 f27), ((q0 44), zi k28 40 f28), ((q0 45), zi k29 40 f29), ((q0 61), zi k37 200 f37), ((q0 62), zi k38 16000 f38), ((q0 66), zi k42 1034 f42), ((q0 12), zi k11 120 f11)] H ∧ va_D A [(h0, .inr (13, mX13 q0 v0)), ((q0 67), zi k43 120 f_9), ((q0 69), zi k45 120 (a15_ 1)), ((q0 68), zi k44 120 (a15_ 0)), ((q0 70), zi k46 120 (a15_ 2)), ((q0 11), zi k10 120 f10), ((q0 63), zi k39 40 f39), ((q0 64), zi k40 40 f40), ((q0 5), zi k4 122880 f4), ((q0 43), zi k27 40 f27), ((q0 44), zi k28 40 f28), ((q0 45), zi k29 40 f29), ((q0 61), zi k37 200 f37), ((q0 62), zi k38 16000 f38), ((q0 66), zi k42 1034 f42), ((q0 12), zi k11 120 f11)] ∧ va_S A s.heap H locs ∧ lv_has ls 4 [(0, .ref h0), (1, .int x1), (2, .int x2), (3, .int (u15_ 0))] ∧ (0 ≤ (u15_ 0).toInt ∧ (u15_ 0).toInt ≤ 120) ∧ ((u15_ 0).toInt ≤ (v0 71).toInt)) (fun ls u79_ w79_ => F0 m 79 ls []) 0 0 ?_ (fun hJ79 => ?_)
    · skip
      intro H locs ls u79_ w79_ a79_ b79_ hc
      obtain ⟨hP, hD, hS, hl, b_, b_⟩ := hc
      refine lv_aload_n hx hb dX13_take_79 rfl (lv_at hl 0 rfl) ?_
      refine va_get (D := (dC, dI)) (ci := 13) (v := .ref (q0 68)) (C := RX13) (T := TX13) (N := 75) hx hb hG zuX13 hown hK hP 0 rfl rfl 68 (by decide) (hG _ zv1672) (fun _ h9 => h9) rfl dX13_take_80 ?_
      refine lv_iload_n hx hb dX13_take_83 rfl (lv_at hl 3 rfl) ?_
      refine lv_iload_n hx hb dX13_take_84 rfl (lv_at hl 1 rfl) ?_
      refine va_iast hx hb hK hP hD hS 3 2 rfl rfl (zin_lit ⟨by omega, by omega⟩) dX13_take_85 (fun H locs hP hD hS => ?_)
      obtain ⟨f_85, e_f_85⟩ : ∃ z : Nat → Int32, z = upd (a15_ 0) ((u15_ 0) : Int32).toNatClampNeg x1 := ⟨_, rfl⟩
      have hP : va_P (dC, dI) vwCl [(h0, .inr (13, mX13 q0 v0)), ((q0 67), zi k43 120 f_9), ((q0 69), zi k45 120 (a15_ 1)), ((q0 68), zi k44 120 f_85), ((q0 70), zi k46 120 (a15_ 2)), ((q0 11), zi k10 120 f10), ((q0 63), zi k39 40 f39), ((q0 64), zi k40 40 f40), ((q0 5), zi k4 122880 f4), ((q0 43), zi k27 40 f27), ((q0 44), zi k28 40 f28), ((q0 45), zi k29 40 f29), ((q0 61), zi k37 200 f37), ((q0 62), zi k38 16000 f38), ((q0 66), zi k42 1034 f42), ((q0 12), zi k11 120 f11)] H := by rw [e_f_85]; exact hP
      have hD : va_D A [(h0, .inr (13, mX13 q0 v0)), ((q0 67), zi k43 120 f_9), ((q0 69), zi k45 120 (a15_ 1)), ((q0 68), zi k44 120 f_85), ((q0 70), zi k46 120 (a15_ 2)), ((q0 11), zi k10 120 f10), ((q0 63), zi k39 40 f39), ((q0 64), zi k40 40 f40), ((q0 5), zi k4 122880 f4), ((q0 43), zi k27 40 f27), ((q0 44), zi k28 40 f28), ((q0 45), zi k29 40 f29), ((q0 61), zi k37 200 f37), ((q0 62), zi k38 16000 f38), ((q0 66), zi k42 1034 f42), ((q0 12), zi k11 120 f11)] := by rw [e_f_85]; exact hD
      refine lv_aload_n hx hb dX13_take_86 rfl (lv_at hl 0 rfl) ?_
      refine va_get (D := (dC, dI)) (ci := 13) (v := .ref (q0 69)) (C := RX13) (T := TX13) (N := 75) hx hb hG zuX13 hown hK hP 0 rfl rfl 69 (by decide) (hG _ zv1673) (fun _ h9 => h9) rfl dX13_take_87 ?_
      refine lv_iload_n hx hb dX13_take_90 rfl (lv_at hl 3 rfl) ?_
      refine lv_iload_n hx hb dX13_take_91 rfl (lv_at hl 2 rfl) ?_
      refine va_iast hx hb hK hP hD hS 2 1 rfl rfl (zin_lit ⟨by omega, by omega⟩) dX13_take_92 (fun H locs hP hD hS => ?_)
      obtain ⟨f_92, e_f_92⟩ : ∃ z : Nat → Int32, z = upd (a15_ 1) ((u15_ 0) : Int32).toNatClampNeg x2 := ⟨_, rfl⟩
      have hP : va_P (dC, dI) vwCl [(h0, .inr (13, mX13 q0 v0)), ((q0 67), zi k43 120 f_9), ((q0 69), zi k45 120 f_92), ((q0 68), zi k44 120 f_85), ((q0 70), zi k46 120 (a15_ 2)), ((q0 11), zi k10 120 f10), ((q0 63), zi k39 40 f39), ((q0 64), zi k40 40 f40), ((q0 5), zi k4 122880 f4), ((q0 43), zi k27 40 f27), ((q0 44), zi k28 40 f28), ((q0 45), zi k29 40 f29), ((q0 61), zi k37 200 f37), ((q0 62), zi k38 16000 f38), ((q0 66), zi k42 1034 f42), ((q0 12), zi k11 120 f11)] H := by rw [e_f_92]; exact hP
      have hD : va_D A [(h0, .inr (13, mX13 q0 v0)), ((q0 67), zi k43 120 f_9), ((q0 69), zi k45 120 f_92), ((q0 68), zi k44 120 f_85), ((q0 70), zi k46 120 (a15_ 2)), ((q0 11), zi k10 120 f10), ((q0 63), zi k39 40 f39), ((q0 64), zi k40 40 f40), ((q0 5), zi k4 122880 f4), ((q0 43), zi k27 40 f27), ((q0 44), zi k28 40 f28), ((q0 45), zi k29 40 f29), ((q0 61), zi k37 200 f37), ((q0 62), zi k38 16000 f38), ((q0 66), zi k42 1034 f42), ((q0 12), zi k11 120 f11)] := by rw [e_f_92]; exact hD
      refine lv_aload_n hx hb dX13_take_93 rfl (lv_at hl 0 rfl) ?_
      refine va_get (D := (dC, dI)) (ci := 13) (v := .ref (q0 70)) (C := RX13) (T := TX13) (N := 75) hx hb hG zuX13 hown hK hP 0 rfl rfl 70 (by decide) (hG _ zv1674) (fun _ h9 => h9) rfl dX13_take_94 ?_
      refine lv_iload_n hx hb dX13_take_97 rfl (lv_at hl 3 rfl) ?_
      refine lv_aload_n hx hb dX13_take_98 rfl (lv_at hl 0 rfl) ?_
      refine lv_iload_n hx hb dX13_take_99 rfl (lv_at hl 1 rfl) ?_
      have hPc := hP.sub (ws' := [(h0, .inr (13, mX13 q0 v0)), ((q0 11), zi k10 120 f10), ((q0 63), zi k39 40 f39), ((q0 64), zi k40 40 f40), ((q0 5), zi k4 122880 f4), ((q0 43), zi k27 40 f27), ((q0 44), zi k28 40 f28), ((q0 45), zi k29 40 f29), ((q0 61), zi k37 200 f37), ((q0 62), zi k38 16000 f38), ((q0 66), zi k42 1034 f42), ((q0 12), zi k11 120 f11)]) [0, 5, 6, 7, 8, 9, 10, 11, 12, 13, 14, 15] rfl
      have hDc := hD.sub (ws' := [(h0, .inr (13, mX13 q0 v0)), ((q0 11), zi k10 120 f10), ((q0 63), zi k39 40 f39), ((q0 64), zi k40 40 f40), ((q0 5), zi k4 122880 f4), ((q0 43), zi k27 40 f27), ((q0 44), zi k28 40 f28), ((q0 45), zi k29 40 f29), ((q0 61), zi k37 200 f37), ((q0 62), zi k38 16000 f38), ((q0 66), zi k42 1034 f42), ((q0 12), zi k11 120 f11)]) [0, 5, 6, 7, 8, 9, 10, 11, 12, 13, 14, 15] (by decide) rfl
      have hKc := hK.sub (tys' := [(k10, .int), (k39, .boolean), (k40, .int), (k4, .short), (k27, .int), (k28, .int), (k29, .int), (k37, .int), (k38, .boolean), (k42, .boolean), (k11, .int)]) [4, 5, 6, 7, 8, 9, 10, 11, 12, 13, 14] rfl
      have hFc := va_free (wc := [(h0, .inr (13, mX13 q0 v0)), ((q0 11), zi k10 120 f10), ((q0 63), zi k39 40 f39), ((q0 64), zi k40 40 f40), ((q0 5), zi k4 122880 f4), ((q0 43), zi k27 40 f27), ((q0 44), zi k28 40 f28), ((q0 45), zi k29 40 f29), ((q0 61), zi k37 200 f37), ((q0 62), zi k38 16000 f38), ((q0 66), zi k42 1034 f42), ((q0 12), zi k11 120 f11)]) hD hS hA [0, 5, 6, 7, 8, 9, 10, 11, 12, 13, 14, 15] rfl
      refine va_calli (va_runV (As := [.int x1]) (rest := [.int (u15_ 0), .ref (q0 70)]) ⟨hx, hb, hml, hown, hG⟩ (sX13_shown_0 l dC dI adK adV h0 q0 k10 k39 k40 k4 k27 k28 k29 k37 k38 k42 k11 H.size v0 f10 f39 f40 f4 f27 f28 f29 f37 f38 f42 f11 x1 hv0 hf10 hf4 hf11 (show (0 : Int) ≤ (x1 : Int32).toInt ∧ (x1 : Int32).toInt ≤ (119 : Int) from (by first | with_reducible assumption | exact ⟨by omega, by omega⟩)) (show zLf f27 f28 f29 (v0 47).toInt from by first | with_reducible assumption | assumption)) (cwV 1 hG (zgV zv2211 zv2213 zv123 zv142 zv2214) rfl rfl rfl (by decide +kernel) ⟨Nat.le_of_ble_eq_true rfl, Nat.le_of_ble_eq_true rfl⟩) ⟨zPc_blind, va_recv hKc hPc (ci := 13) (q0 := 0) rfl rfl, zPc_pre hPc hKc hDc hE hS hFc hZ⟩ rfl rfl hl.1 rfl (lv_room (Nat.le_of_ble_eq_true rfl)) dX13_take_100 ⟨Nat.le_of_ble_eq_true rfl, Nat.le_of_ble_eq_true rfl⟩) hS (fun q _ h => hFc q h) hFc (fun r100_ u100_ t H1 locs ht hvm hw hB hz1 hk1 hS => ?_)
      replace hw : ((-1) ≤ r100_.toInt ∧ r100_.toInt ≤ 1023) := hw
      have b_ := hw
      obtain ⟨w100_, a100_, b100_, hP1, hK1, hD1⟩ := hB
      rw [ht] at hP1
      obtain ⟨hP, hD⟩ := va_join (wr := [((q0 67), zi k43 120 f_9), ((q0 69), zi k45 120 f_92), ((q0 68), zi k44 120 f_85), ((q0 70), zi k46 120 (a15_ 2))]) (w1 := [(h0, .inr (13, mX13 q0 v0)), ((q0 11), zi k10 120 f10), ((q0 63), zi k39 40 f39), ((q0 64), zi k40 40 f40), ((q0 5), zi k4 122880 f4), ((q0 43), zi k27 40 f27), ((q0 44), zi k28 40 f28), ((q0 45), zi k29 40 f29), ((q0 61), zi k37 200 f37), ((q0 62), zi k38 16000 f38), ((q0 66), zi k42 1034 (a100_ 0)), ((q0 12), zi k11 120 f11)]) hP hD [0, 5, 6, 7, 8, 9, 10, 11, 12, 13, 14, 15] [1, 2, 3, 4] rfl rfl (by decide) (by decide) hk1 hFc hP1 hD1
      have hP : va_P (dC, dI) vwCl [(h0, .inr (13, mX13 q0 v0)), ((q0 67), zi k43 120 f_9), ((q0 69), zi k45 120 f_92), ((q0 68), zi k44 120 f_85), ((q0 70), zi k46 120 (a15_ 2)), ((q0 11), zi k10 120 f10), ((q0 63), zi k39 40 f39), ((q0 64), zi k40 40 f40), ((q0 5), zi k4 122880 f4), ((q0 43), zi k27 40 f27), ((q0 44), zi k28 40 f28), ((q0 45), zi k29 40 f29), ((q0 61), zi k37 200 f37), ((q0 62), zi k38 16000 f38), ((q0 66), zi k42 1034 (a100_ 0)), ((q0 12), zi k11 120 f11)] H1 := hP.sub [4, 0, 1, 2, 3, 5, 6, 7, 8, 9, 10, 11, 12, 13, 14, 15] rfl
      have hD : va_D A [(h0, .inr (13, mX13 q0 v0)), ((q0 67), zi k43 120 f_9), ((q0 69), zi k45 120 f_92), ((q0 68), zi k44 120 f_85), ((q0 70), zi k46 120 (a15_ 2)), ((q0 11), zi k10 120 f10), ((q0 63), zi k39 40 f39), ((q0 64), zi k40 40 f40), ((q0 5), zi k4 122880 f4), ((q0 43), zi k27 40 f27), ((q0 44), zi k28 40 f28), ((q0 45), zi k29 40 f29), ((q0 61), zi k37 200 f37), ((q0 62), zi k38 16000 f38), ((q0 66), zi k42 1034 (a100_ 0)), ((q0 12), zi k11 120 f11)] := hD.sub [4, 0, 1, 2, 3, 5, 6, 7, 8, 9, 10, 11, 12, 13, 14, 15] (by decide) rfl
      generalize H1 = H at hP hS ⊢
      clear hz1
      refine va_iast hx hb hK hP hD hS 4 3 rfl rfl (zin_lit ⟨by omega, by omega⟩) dX13_take_103 (fun H locs hP hD hS => ?_)
      obtain ⟨f_103, e_f_103⟩ : ∃ z : Nat → Int32, z = upd (a15_ 2) ((u15_ 0) : Int32).toNatClampNeg r100_ := ⟨_, rfl⟩
      have hP : va_P (dC, dI) vwCl [(h0, .inr (13, mX13 q0 v0)), ((q0 67), zi k43 120 f_9), ((q0 69), zi k45 120 f_92), ((q0 68), zi k44 120 f_85), ((q0 70), zi k46 120 f_103), ((q0 11), zi k10 120 f10), ((q0 63), zi k39 40 f39), ((q0 64), zi k40 40 f40), ((q0 5), zi k4 122880 f4), ((q0 43), zi k27 40 f27), ((q0 44), zi k28 40 f28), ((q0 45), zi k29 40 f29), ((q0 61), zi k37 200 f37), ((q0 62), zi k38 16000 f38), ((q0 66), zi k42 1034 (a100_ 0)), ((q0 12), zi k11 120 f11)] H := by rw [e_f_103]; exact hP
      have hD : va_D A [(h0, .inr (13, mX13 q0 v0)), ((q0 67), zi k43 120 f_9), ((q0 69), zi k45 120 f_92), ((q0 68), zi k44 120 f_85), ((q0 70), zi k46 120 f_103), ((q0 11), zi k10 120 f10), ((q0 63), zi k39 40 f39), ((q0 64), zi k40 40 f40), ((q0 5), zi k4 122880 f4), ((q0 43), zi k27 40 f27), ((q0 44), zi k28 40 f28), ((q0 45), zi k29 40 f29), ((q0 61), zi k37 200 f37), ((q0 62), zi k38 16000 f38), ((q0 66), zi k42 1034 (a100_ 0)), ((q0 12), zi k11 120 f11)] := by rw [e_f_103]; exact hD
      refine lv_aload_n hx hb dX13_take_104 rfl (lv_at hl 0 rfl) ?_
      refine lv_dup hx hb dX13_take_105 rfl ?_
      refine va_get (D := (dC, dI)) (ci := 13) (v := .int (v0 71)) (C := RX13) (T := TX13) (N := 75) hx hb hG zuX13 hown hK hP 0 rfl rfl 71 (by decide) (hG _ zv1675) (fun _ h9 => h9) rfl dX13_take_106 ?_
      refine lv_iconst (v := 1) hx hb dX13_take_109 (by decide) ?_
      refine lv_iadd hx hb dX13_take_110 ?_
      refine lv_topi (fun z110 e_z110 => ?_)
      have b_ := zadd rfl zk_1 e_z110 (by omega) (by omega)
      have b_ : 0 ≤ z110.toInt ∧ z110.toInt ≤ 120 := ⟨by omega, by omega⟩
      refine va_put (D := (dC, dI)) (ci := 13) (v := .int z110) (ty := .int) (C := RX13) (T := TX13) (N := 75) hx hb hG zuX13 tyX13 tyX13_ok nmX13 hown hK hP hD hS 0 rfl rfl 71 (by decide) (hG _ zv1675) (fun _ h9 => h9) rfl (by decide +kernel) rfl rfl (Nat.le_of_ble_eq_true rfl) dX13_take_111 (fun H locs hP hD hS => ?_)
      have hP : va_P (dC, dI) vwCl [(h0, .inr (13, mX13 q0 (upd v0 71 z110))), ((q0 67), zi k43 120 f_9), ((q0 69), zi k45 120 f_92), ((q0 68), zi k44 120 f_85), ((q0 70), zi k46 120 f_103), ((q0 11), zi k10 120 f10), ((q0 63), zi k39 40 f39), ((q0 64), zi k40 40 f40), ((q0 5), zi k4 122880 f4), ((q0 43), zi k27 40 f27), ((q0 44), zi k28 40 f28), ((q0 45), zi k29 40 f29), ((q0 61), zi k37 200 f37), ((q0 62), zi k38 16000 f38), ((q0 66), zi k42 1034 (a100_ 0)), ((q0 12), zi k11 120 f11)] H := hP
      have hD : va_D A [(h0, .inr (13, mX13 q0 (upd v0 71 z110))), ((q0 67), zi k43 120 f_9), ((q0 69), zi k45 120 f_92), ((q0 68), zi k44 120 f_85), ((q0 70), zi k46 120 f_103), ((q0 11), zi k10 120 f10), ((q0 63), zi k39 40 f39), ((q0 64), zi k40 40 f40), ((q0 5), zi k4 122880 f4), ((q0 43), zi k27 40 f27), ((q0 44), zi k28 40 f28), ((q0 45), zi k29 40 f29), ((q0 61), zi k37 200 f37), ((q0 62), zi k38 16000 f38), ((q0 66), zi k42 1034 (a100_ 0)), ((q0 12), zi k11 120 f11)] := hD
      refine W.widen (k := 0) (n := 0) (by decide) (by decide) ?_
      have hpost : (1 ≤ z110.toInt ∧ z110.toInt ≤ 120) ∧ (z110.toInt = (v0 71).toInt + 1) := ⟨(by first | with_reducible assumption | exact ⟨by omega, by omega⟩), by omega⟩
      have hP9 : va_P (dC, dI) vwCl [(h0, .inr (13, mX13 q0 (upd v0 71 z110))), ((q0 67), zi k43 120 f_9), ((q0 69), zi k45 120 f_92), ((q0 68), zi k44 120 f_85), ((q0 70), zi k46 120 f_103), ((q0 11), zi k10 120 f10), ((q0 63), zi k39 40 f39), ((q0 64), zi k40 40 f40), ((q0 5), zi k4 122880 f4), ((q0 43), zi k27 40 f27), ((q0 44), zi k28 40 f28), ((q0 45), zi k29 40 f29), ((q0 61), zi k37 200 f37), ((q0 62), zi k38 16000 f38), ((q0 66), zi k42 1034 (a100_ 0)), ((q0 12), zi k11 120 f11)] H := hP
      have hD9 : va_D A [(h0, .inr (13, mX13 q0 (upd v0 71 z110))), ((q0 67), zi k43 120 f_9), ((q0 69), zi k45 120 f_92), ((q0 68), zi k44 120 f_85), ((q0 70), zi k46 120 f_103), ((q0 11), zi k10 120 f10), ((q0 63), zi k39 40 f39), ((q0 64), zi k40 40 f40), ((q0 5), zi k4 122880 f4), ((q0 43), zi k27 40 f27), ((q0 44), zi k28 40 f28), ((q0 45), zi k29 40 f29), ((q0 61), zi k37 200 f37), ((q0 62), zi k38 16000 f38), ((q0 66), zi k42 1034 (a100_ 0)), ((q0 12), zi k11 120 f11)] := hD
      have hB0 : zKpt f43 (v0 71).toInt (x1 : Int32) f_9 z110.toInt := by exact zKpt_y e_f_9 rfl (by omega)
      exact W.vret hx hb hr (fun t ht hW => ⟨⟨(fun i => ([z110] : List (Int32)).getD i 0), rfl, hpost, (fun _ => 0), (fun i => ([f_9, f_92, f_85, f_103, (a100_ 0)] : List (Nat → Int32)).getD i (fun _ => 0)), (fun _ => (fun _ => 0)), hB0, by rw [ht]; exact hP9, va_K.moved hW.alike hK, hD9⟩, hS.F ht⟩) hS.2.2 dX13_take_114
    · skip
      refine lv_if_le (tgt := 79) hx hb dX13_take_16 (by decide) (fun c_ => ?_) (fun c_ => ?_)
      · skip
        have b_ := zT_le rfl zk_0 c_
        have b_ : -2147483648 ≤ x2.toInt ∧ x2.toInt ≤ 2147483647 := ⟨zlo _, zhi _⟩
        have hc : va_P (dC, dI) vwCl [(h0, .inr (13, mX13 q0 v0)), ((q0 67), zi k43 120 f_9), ((q0 69), zi k45 120 (a15_ 1)), ((q0 68), zi k44 120 (a15_ 0)), ((q0 70), zi k46 120 (a15_ 2)), ((q0 11), zi k10 120 f10), ((q0 63), zi k39 40 f39), ((q0 64), zi k40 40 f40), ((q0 5), zi k4 122880 f4), ((q0 43), zi k27 40 f27), ((q0 44), zi k28 40 f28), ((q0 45), zi k29 40 f29), ((q0 61), zi k37 200 f37), ((q0 62), zi k38 16000 f38), ((q0 66), zi k42 1034 f42), ((q0 12), zi k11 120 f11)] H ∧ va_D A [(h0, .inr (13, mX13 q0 v0)), ((q0 67), zi k43 120 f_9), ((q0 69), zi k45 120 (a15_ 1)), ((q0 68), zi k44 120 (a15_ 0)), ((q0 70), zi k46 120 (a15_ 2)), ((q0 11), zi k10 120 f10), ((q0 63), zi k39 40 f39), ((q0 64), zi k40 40 f40), ((q0 5), zi k4 122880 f4), ((q0 43), zi k27 40 f27), ((q0 44), zi k28 40 f28), ((q0 45), zi k29 40 f29), ((q0 61), zi k37 200 f37), ((q0 62), zi k38 16000 f38), ((q0 66), zi k42 1034 f42), ((q0 12), zi k11 120 f11)] ∧ va_S A s.heap H locs ∧ lv_has ls 4 [(0, .ref h0), (1, .int x1), (2, .int x2), (3, .int (u15_ 0))] ∧ (0 ≤ (u15_ 0).toInt ∧ (u15_ 0).toInt ≤ 120) ∧ ((u15_ 0).toInt ≤ (v0 71).toInt) := ⟨hP, hD, hS, lv_sub hl [0, 1, 2, 3] rfl, (by first | with_reducible assumption | exact ⟨by omega, by omega⟩), by omega⟩
        exact hJ79 H locs ls (fun _ => 0) (fun _ => 0) (fun _ => (fun _ => 0)) (fun _ => (fun _ => 0)) hc
      · skip
        have b_ := zF_le rfl zk_0 c_
        refine lv_aload_n hx hb dX13_take_19 rfl (lv_at hl 0 rfl) ?_
        refine va_get (D := (dC, dI)) (ci := 13) (v := .ref (q0 69)) (C := RX13) (T := TX13) (N := 75) hx hb hG zuX13 hown hK hP 0 rfl rfl 69 (by decide) (hG _ zv1673) (fun _ h9 => h9) rfl dX13_take_20 ?_
        refine lv_iload_n hx hb dX13_take_23 rfl (lv_at hl 3 rfl) ?_
        refine lv_iconst (v := 1) hx hb dX13_take_24 (by decide) ?_
        refine lv_isub hx hb dX13_take_25 ?_
        refine lv_topi (fun z25 e_z25 => ?_)
        have b_ := zsub rfl zk_1 e_z25 (by omega) (by omega)
        refine va_iald hx hb hK hP 2 1 rfl rfl (zin_lit ⟨by omega, by omega⟩) dX13_take_26 ?_
        refine lv_topi (fun z26 e_z26 => ?_)
        refine lv_iload_n hx hb dX13_take_27 rfl (lv_at hl 2 rfl) ?_
        have b_ : -2147483648 ≤ z26.toInt ∧ z26.toInt ≤ 2147483647 := ⟨zlo _, zhi _⟩
        have b_ : -2147483648 ≤ x2.toInt ∧ x2.toInt ≤ 2147483647 := ⟨zlo _, zhi _⟩
        refine lv_icmp_ge (tgt := 79) hx hb dX13_take_28 (by decide) (fun c_ => ?_) (fun c_ => ?_)
        · skip
          have b_ := zT_ge rfl rfl c_
          have hc : va_P (dC, dI) vwCl [(h0, .inr (13, mX13 q0 v0)), ((q0 67), zi k43 120 f_9), ((q0 69), zi k45 120 (a15_ 1)), ((q0 68), zi k44 120 (a15_ 0)), ((q0 70), zi k46 120 (a15_ 2)), ((q0 11), zi k10 120 f10), ((q0 63), zi k39 40 f39), ((q0 64), zi k40 40 f40), ((q0 5), zi k4 122880 f4), ((q0 43), zi k27 40 f27), ((q0 44), zi k28 40 f28), ((q0 45), zi k29 40 f29), ((q0 61), zi k37 200 f37), ((q0 62), zi k38 16000 f38), ((q0 66), zi k42 1034 f42), ((q0 12), zi k11 120 f11)] H ∧ va_D A [(h0, .inr (13, mX13 q0 v0)), ((q0 67), zi k43 120 f_9), ((q0 69), zi k45 120 (a15_ 1)), ((q0 68), zi k44 120 (a15_ 0)), ((q0 70), zi k46 120 (a15_ 2)), ((q0 11), zi k10 120 f10), ((q0 63), zi k39 40 f39), ((q0 64), zi k40 40 f40), ((q0 5), zi k4 122880 f4), ((q0 43), zi k27 40 f27), ((q0 44), zi k28 40 f28), ((q0 45), zi k29 40 f29), ((q0 61), zi k37 200 f37), ((q0 62), zi k38 16000 f38), ((q0 66), zi k42 1034 f42), ((q0 12), zi k11 120 f11)] ∧ va_S A s.heap H locs ∧ lv_has ls 4 [(0, .ref h0), (1, .int x1), (2, .int x2), (3, .int (u15_ 0))] ∧ (0 ≤ (u15_ 0).toInt ∧ (u15_ 0).toInt ≤ 120) ∧ ((u15_ 0).toInt ≤ (v0 71).toInt) := ⟨hP, hD, hS, lv_sub hl [0, 1, 2, 3] rfl, (by first | with_reducible assumption | exact ⟨by omega, by omega⟩), by omega⟩
          exact hJ79 H locs ls (fun _ => 0) (fun _ => 0) (fun _ => (fun _ => 0)) (fun _ => (fun _ => 0)) hc
        · skip
          have b_ := zF_ge rfl rfl c_
          refine lv_aload_n hx hb dX13_take_31 rfl (lv_at hl 0 rfl) ?_
          refine va_get (D := (dC, dI)) (ci := 13) (v := .ref (q0 68)) (C := RX13) (T := TX13) (N := 75) hx hb hG zuX13 hown hK hP 0 rfl rfl 68 (by decide) (hG _ zv1672) (fun _ h9 => h9) rfl dX13_take_32 ?_
          refine lv_iload_n hx hb dX13_take_35 rfl (lv_at hl 3 rfl) ?_
          refine lv_aload_n hx hb dX13_take_36 rfl (lv_at hl 0 rfl) ?_
          refine va_get (D := (dC, dI)) (ci := 13) (v := .ref (q0 68)) (C := RX13) (T := TX13) (N := 75) hx hb hG zuX13 hown hK hP 0 rfl rfl 68 (by decide) (hG _ zv1672) (fun _ h9 => h9) rfl dX13_take_37 ?_
          refine lv_iload_n hx hb dX13_take_40 rfl (lv_at hl 3 rfl) ?_
          refine lv_iconst (v := 1) hx hb dX13_take_41 (by decide) ?_
          refine lv_isub hx hb dX13_take_42 ?_
          refine lv_topi (fun z42 e_z42 => ?_)
          have b_ := zsub rfl zk_1 e_z42 (by omega) (by omega)
          refine va_iald hx hb hK hP 3 2 rfl rfl (zin_lit ⟨by omega, by omega⟩) dX13_take_43 ?_
          refine lv_topi (fun z43 e_z43 => ?_)
          refine va_iast hx hb hK hP hD hS 3 2 rfl rfl (zin_lit ⟨by omega, by omega⟩) dX13_take_44 (fun H locs hP hD hS => ?_)
          obtain ⟨f_44, e_f_44⟩ : ∃ z : Nat → Int32, z = upd (a15_ 0) ((u15_ 0) : Int32).toNatClampNeg z43 := ⟨_, rfl⟩
          have hP : va_P (dC, dI) vwCl [(h0, .inr (13, mX13 q0 v0)), ((q0 67), zi k43 120 f_9), ((q0 69), zi k45 120 (a15_ 1)), ((q0 68), zi k44 120 f_44), ((q0 70), zi k46 120 (a15_ 2)), ((q0 11), zi k10 120 f10), ((q0 63), zi k39 40 f39), ((q0 64), zi k40 40 f40), ((q0 5), zi k4 122880 f4), ((q0 43), zi k27 40 f27), ((q0 44), zi k28 40 f28), ((q0 45), zi k29 40 f29), ((q0 61), zi k37 200 f37), ((q0 62), zi k38 16000 f38), ((q0 66), zi k42 1034 f42), ((q0 12), zi k11 120 f11)] H := by rw [e_f_44]; exact hP
          have hD : va_D A [(h0, .inr (13, mX13 q0 v0)), ((q0 67), zi k43 120 f_9), ((q0 69), zi k45 120 (a15_ 1)), ((q0 68), zi k44 120 f_44), ((q0 70), zi k46 120 (a15_ 2)), ((q0 11), zi k10 120 f10), ((q0 63), zi k39 40 f39), ((q0 64), zi k40 40 f40), ((q0 5), zi k4 122880 f4), ((q0 43), zi k27 40 f27), ((q0 44), zi k28 40 f28), ((q0 45), zi k29 40 f29), ((q0 61), zi k37 200 f37), ((q0 62), zi k38 16000 f38), ((q0 66), zi k42 1034 f42), ((q0 12), zi k11 120 f11)] := by rw [e_f_44]; exact hD
          refine lv_aload_n hx hb dX13_take_45 rfl (lv_at hl 0 rfl) ?_
          refine va_get (D := (dC, dI)) (ci := 13) (v := .ref (q0 69)) (C := RX13) (T := TX13) (N := 75) hx hb hG zuX13 hown hK hP 0 rfl rfl 69 (by decide) (hG _ zv1673) (fun _ h9 => h9) rfl dX13_take_46 ?_
          refine lv_iload_n hx hb dX13_take_49 rfl (lv_at hl 3 rfl) ?_
          refine lv_aload_n hx hb dX13_take_50 rfl (lv_at hl 0 rfl) ?_
          refine va_get (D := (dC, dI)) (ci := 13) (v := .ref (q0 69)) (C := RX13) (T := TX13) (N := 75) hx hb hG zuX13 hown hK hP 0 rfl rfl 69 (by decide) (hG _ zv1673) (fun _ h9 => h9) rfl dX13_take_51 ?_
          refine lv_iload_n hx hb dX13_take_54 rfl (lv_at hl 3 rfl) ?_
          refine lv_iconst (v := 1) hx hb dX13_take_55 (by decide) ?_
          refine lv_isub hx hb dX13_take_56 ?_
          refine lv_topi (fun z56 e_z56 => ?_)
          have b_ := zsub rfl zk_1 e_z56 (by omega) (by omega)
          refine va_iald hx hb hK hP 2 1 rfl rfl (zin_lit ⟨by omega, by omega⟩) dX13_take_57 ?_
          refine lv_topi (fun z57 e_z57 => ?_)
          refine va_iast hx hb hK hP hD hS 2 1 rfl rfl (zin_lit ⟨by omega, by omega⟩) dX13_take_58 (fun H locs hP hD hS => ?_)
          obtain ⟨f_58, e_f_58⟩ : ∃ z : Nat → Int32, z = upd (a15_ 1) ((u15_ 0) : Int32).toNatClampNeg z57 := ⟨_, rfl⟩
          have hP : va_P (dC, dI) vwCl [(h0, .inr (13, mX13 q0 v0)), ((q0 67), zi k43 120 f_9), ((q0 69), zi k45 120 f_58), ((q0 68), zi k44 120 f_44), ((q0 70), zi k46 120 (a15_ 2)), ((q0 11), zi k10 120 f10), ((q0 63), zi k39 40 f39), ((q0 64), zi k40 40 f40), ((q0 5), zi k4 122880 f4), ((q0 43), zi k27 40 f27), ((q0 44), zi k28 40 f28), ((q0 45), zi k29 40 f29), ((q0 61), zi k37 200 f37), ((q0 62), zi k38 16000 f38), ((q0 66), zi k42 1034 f42), ((q0 12), zi k11 120 f11)] H := by rw [e_f_58]; exact hP
          have hD : va_D A [(h0, .inr (13, mX13 q0 v0)), ((q0 67), zi k43 120 f_9), ((q0 69), zi k45 120 f_58), ((q0 68), zi k44 120 f_44), ((q0 70), zi k46 120 (a15_ 2)), ((q0 11), zi k10 120 f10), ((q0 63), zi k39 40 f39), ((q0 64), zi k40 40 f40), ((q0 5), zi k4 122880 f4), ((q0 43), zi k27 40 f27), ((q0 44), zi k28 40 f28), ((q0 45), zi k29 40 f29), ((q0 61), zi k37 200 f37), ((q0 62), zi k38 16000 f38), ((q0 66), zi k42 1034 f42), ((q0 12), zi k11 120 f11)] := by rw [e_f_58]; exact hD
          refine lv_aload_n hx hb dX13_take_59 rfl (lv_at hl 0 rfl) ?_
          refine va_get (D := (dC, dI)) (ci := 13) (v := .ref (q0 70)) (C := RX13) (T := TX13) (N := 75) hx hb hG zuX13 hown hK hP 0 rfl rfl 70 (by decide) (hG _ zv1674) (fun _ h9 => h9) rfl dX13_take_60 ?_
          refine lv_iload_n hx hb dX13_take_63 rfl (lv_at hl 3 rfl) ?_
          refine lv_aload_n hx hb dX13_take_64 rfl (lv_at hl 0 rfl) ?_
          refine va_get (D := (dC, dI)) (ci := 13) (v := .ref (q0 70)) (C := RX13) (T := TX13) (N := 75) hx hb hG zuX13 hown hK hP 0 rfl rfl 70 (by decide) (hG _ zv1674) (fun _ h9 => h9) rfl dX13_take_65 ?_
          refine lv_iload_n hx hb dX13_take_68 rfl (lv_at hl 3 rfl) ?_
          refine lv_iconst (v := 1) hx hb dX13_take_69 (by decide) ?_
          refine lv_isub hx hb dX13_take_70 ?_
          refine lv_topi (fun z70 e_z70 => ?_)
          have b_ := zsub rfl zk_1 e_z70 (by omega) (by omega)
          refine va_iald hx hb hK hP 4 3 rfl rfl (zin_lit ⟨by omega, by omega⟩) dX13_take_71 ?_
          refine lv_topi (fun z71 e_z71 => ?_)
          refine va_iast hx hb hK hP hD hS 4 3 rfl rfl (zin_lit ⟨by omega, by omega⟩) dX13_take_72 (fun H locs hP hD hS => ?_)
          obtain ⟨f_72, e_f_72⟩ : ∃ z : Nat → Int32, z = upd (a15_ 2) ((u15_ 0) : Int32).toNatClampNeg z71 := ⟨_, rfl⟩
          have hP : va_P (dC, dI) vwCl [(h0, .inr (13, mX13 q0 v0)), ((q0 67), zi k43 120 f_9), ((q0 69), zi k45 120 f_58), ((q0 68), zi k44 120 f_44), ((q0 70), zi k46 120 f_72), ((q0 11), zi k10 120 f10), ((q0 63), zi k39 40 f39), ((q0 64), zi k40 40 f40), ((q0 5), zi k4 122880 f4), ((q0 43), zi k27 40 f27), ((q0 44), zi k28 40 f28), ((q0 45), zi k29 40 f29), ((q0 61), zi k37 200 f37), ((q0 62), zi k38 16000 f38), ((q0 66), zi k42 1034 f42), ((q0 12), zi k11 120 f11)] H := by rw [e_f_72]; exact hP
          have hD : va_D A [(h0, .inr (13, mX13 q0 v0)), ((q0 67), zi k43 120 f_9), ((q0 69), zi k45 120 f_58), ((q0 68), zi k44 120 f_44), ((q0 70), zi k46 120 f_72), ((q0 11), zi k10 120 f10), ((q0 63), zi k39 40 f39), ((q0 64), zi k40 40 f40), ((q0 5), zi k4 122880 f4), ((q0 43), zi k27 40 f27), ((q0 44), zi k28 40 f28), ((q0 45), zi k29 40 f29), ((q0 61), zi k37 200 f37), ((q0 62), zi k38 16000 f38), ((q0 66), zi k42 1034 f42), ((q0 12), zi k11 120 f11)] := by rw [e_f_72]; exact hD
          obtain ⟨z73, e_z73⟩ : ∃ z : Int32, z = (u15_ 0) + Int32.ofInt (-1) := ⟨_, rfl⟩
          have b_ := zadd (x := (u15_ 0)) (y := Int32.ofInt (-1)) rfl (show (Int32.ofInt (-1)).toInt = (-1) from by decide) e_z73 (by omega) (by omega)
          refine lv_iinc (v := z73) (lv' := [(3, .int z73), (0, .ref h0), (1, .int x1), (2, .int x2)]) hx hb dX13_take_73 hl (k := 3) rfl e_z73.symm (by decide) rfl (fun ls hl => ?_)
          refine lv_goto (tgt := 15) hx hb dX13_take_76 (by decide) ?_
          have hc : va_P (dC, dI) vwCl [(h0, .inr (13, mX13 q0 v0)), ((q0 67), zi k43 120 f_9), ((q0 69), zi k45 120 f_58), ((q0 68), zi k44 120 f_44), ((q0 70), zi k46 120 f_72), ((q0 11), zi k10 120 f10), ((q0 63), zi k39 40 f39), ((q0 64), zi k40 40 f40), ((q0 5), zi k4 122880 f4), ((q0 43), zi k27 40 f27), ((q0 44), zi k28 40 f28), ((q0 45), zi k29 40 f29), ((q0 61), zi k37 200 f37), ((q0 62), zi k38 16000 f38), ((q0 66), zi k42 1034 f42), ((q0 12), zi k11 120 f11)] H ∧ va_D A [(h0, .inr (13, mX13 q0 v0)), ((q0 67), zi k43 120 f_9), ((q0 69), zi k45 120 f_58), ((q0 68), zi k44 120 f_44), ((q0 70), zi k46 120 f_72), ((q0 11), zi k10 120 f10), ((q0 63), zi k39 40 f39), ((q0 64), zi k40 40 f40), ((q0 5), zi k4 122880 f4), ((q0 43), zi k27 40 f27), ((q0 44), zi k28 40 f28), ((q0 45), zi k29 40 f29), ((q0 61), zi k37 200 f37), ((q0 62), zi k38 16000 f38), ((q0 66), zi k42 1034 f42), ((q0 12), zi k11 120 f11)] ∧ va_S A s.heap H locs ∧ lv_has ls 4 [(0, .ref h0), (1, .int x1), (2, .int x2), (3, .int z73)] ∧ (0 ≤ z73.toInt ∧ z73.toInt ≤ 120) ∧ (z73.toInt ≤ (v0 71).toInt) := ⟨hP, hD, hS, lv_sub hl [1, 2, 3, 0] rfl, (by first | with_reducible assumption | exact ⟨by omega, by omega⟩), by omega⟩
          exact hJ15 H locs ls (fun i => ([z73] : List (Int32)).getD i 0) (fun _ => 0) (fun i => ([f_44, f_58, f_72] : List (Nat → Int32)).getD i (fun _ => 0)) (fun _ => (fun _ => 0)) hc (show (z73.toInt - 0).toNat < ((u15_ 0).toInt - 0).toNat from by omega)
  · skip
    have b_ : -2147483648 ≤ x2.toInt ∧ x2.toInt ≤ 2147483647 := ⟨zlo _, zhi _⟩
    have hc : va_P (dC, dI) vwCl [(h0, .inr (13, mX13 q0 v0)), ((q0 67), zi k43 120 f_9), ((q0 69), zi k45 120 f45), ((q0 68), zi k44 120 f44), ((q0 70), zi k46 120 f46), ((q0 11), zi k10 120 f10), ((q0 63), zi k39 40 f39), ((q0 64), zi k40 40 f40), ((q0 5), zi k4 122880 f4), ((q0 43), zi k27 40 f27), ((q0 44), zi k28 40 f28), ((q0 45), zi k29 40 f29), ((q0 61), zi k37 200 f37), ((q0 62), zi k38 16000 f38), ((q0 66), zi k42 1034 f42), ((q0 12), zi k11 120 f11)] H ∧ va_D A [(h0, .inr (13, mX13 q0 v0)), ((q0 67), zi k43 120 f_9), ((q0 69), zi k45 120 f45), ((q0 68), zi k44 120 f44), ((q0 70), zi k46 120 f46), ((q0 11), zi k10 120 f10), ((q0 63), zi k39 40 f39), ((q0 64), zi k40 40 f40), ((q0 5), zi k4 122880 f4), ((q0 43), zi k27 40 f27), ((q0 44), zi k28 40 f28), ((q0 45), zi k29 40 f29), ((q0 61), zi k37 200 f37), ((q0 62), zi k38 16000 f38), ((q0 66), zi k42 1034 f42), ((q0 12), zi k11 120 f11)] ∧ va_S A s.heap H locs ∧ lv_has ls 4 [(0, .ref h0), (1, .int x1), (2, .int x2), (3, .int (v0 71))] ∧ (0 ≤ (v0 71).toInt ∧ (v0 71).toInt ≤ 120) ∧ ((v0 71).toInt ≤ (v0 71).toInt) := ⟨hP, hD, hS, lv_sub hl [1, 2, 3, 0] rfl, (by first | with_reducible assumption | exact ⟨by omega, by omega⟩), by omega⟩
    exact hJ15 H locs ls (fun i => ([(v0 71)] : List (Int32)).getD i 0) (fun _ => 0) (fun i => ([f44, f45, f46] : List (Nat → Int32)).getD i (fun _ => 0)) (fun _ => (fun _ => 0)) hc
def C_X13_standsAt (k : Nat) (l : Launch) : Prop := ∀ (dC : Nat → ClassId) (dI : Nat → Nat → Nat) (adK adV : Nat → Nat) (h0 : Nat) (q0 : Nat → Nat) (k23 : ClassId) (k24 : ClassId) (k26 : ClassId) (k4 : ClassId) (k27 : ClassId) (k28 : ClassId) (k29 : ClassId) (k37 : ClassId) (k38 : ClassId) (k25 : ClassId) (sz : Nat) (v0 : Nat → Int32) (f23 : Nat → Int32) (f24 : Nat → Int32) (f26 : Nat → Int32) (f4 : Nat → Int32) (f27 : Nat → Int32) (f28 : Nat → Int32) (f29 : Nat → Int32) (f37 : Nat → Int32) (f38 : Nat → Int32) (f25 : Nat → Int32) (x1 : Int32) (x2 : Int32) (x3 : Int32) (hv0 : zR rg_Model v0) (hf24 : zA (-1) 1299 f24) (hf4 : zA 0 400 f4) (hf25 : zA (-1) 1299 f25) (hx1 : 0 ≤ x1.toInt ∧ x1.toInt ≤ 1299) (hx2 : 0 ≤ x2.toInt ∧ x2.toInt ≤ 119) (hx3 : 0 ≤ x3.toInt ∧ x3.toInt ≤ 1023) (hp0_ : x1.toInt < ((k : Nat) : Int)) (hp1_ : zTr f23 f24 f25 f26 (v0 42).toInt (v0 47).toInt) (hp2_ : zLf f27 f28 f29 (v0 47).toInt) (hp3_ : x1.toInt < (v0 42).toInt) (hp4_ : zPl (f23 ((x1 : Int32)).toNatClampNeg).toInt), Met l yX13_standsAt (zw yX13_standsAt cX13_standsAt 4 (some .boolean)) { frames := k + 20, cells := 0, slots := 0, locals := 24 * k + 600 } (zPc dC dI adK adV [.ref h0, .int x1, .int x2, .int x3] sz [(h0, .inr (13, mX13 q0 v0)), ((q0 38), zi k23 1300 f23), ((q0 39), zi k24 1300 f24), ((q0 41), zi k26 1300 f26), ((q0 5), zi k4 122880 f4), ((q0 43), zi k27 40 f27), ((q0 44), zi k28 40 f28), ((q0 45), zi k29 40 f29), ((q0 61), zi k37 200 f37), ((q0 62), zi k38 16000 f38), ((q0 40), zi k25 1300 f25)] [(k23, .int), (k24, .int), (k26, .int), (k4, .short), (k27, .int), (k28, .int), (k29, .int), (k37, .int), (k38, .boolean), (k25, .int)]) (va_Qi (fun (r : Int32) (u : Nat → Int32) => (0 ≤ r.toInt ∧ r.toInt ≤ 1) ∧ (zSaR f4 f27 f28 f29 f37 f38 f23 f24 f26 (v0 42).toInt x2.toInt x3.toInt ((x1 : Int32)).toNatClampNeg r.toInt)) (fun (u : Nat → Int32) (t : State) => ∃ (ww : Nat → Int64) (aa : Nat → Nat → Int32) (bb : Nat → Nat → Int64), va_P (dC, dI) vwCl [(h0, .inr (13, mX13 q0 v0)), ((q0 38), zi k23 1300 f23), ((q0 39), zi k24 1300 f24), ((q0 41), zi k26 1300 f26), ((q0 5), zi k4 122880 f4), ((q0 43), zi k27 40 f27), ((q0 44), zi k28 40 f28), ((q0 45), zi k29 40 f29), ((q0 61), zi k37 200 f37), ((q0 62), zi k38 16000 f38), ((q0 40), zi k25 1300 f25)] t.heap ∧ va_K (dC, dI) vwCl [(k23, .int), (k24, .int), (k26, .int), (k4, .short), (k27, .int), (k28, .int), (k29, .int), (k37, .int), (k38, .boolean), (k25, .int)] t ∧ va_D (va_A [(h0, .inr (13, mX13 q0 v0)), ((q0 38), zi k23 1300 f23), ((q0 39), zi k24 1300 f24), ((q0 41), zi k26 1300 f26), ((q0 5), zi k4 122880 f4), ((q0 43), zi k27 40 f27), ((q0 44), zi k28 40 f28), ((q0 45), zi k29 40 f29), ((q0 61), zi k37 200 f37), ((q0 62), zi k38 16000 f38), ((q0 40), zi k25 1300 f25)] sz) [(h0, .inr (13, mX13 q0 v0)), ((q0 38), zi k23 1300 f23), ((q0 39), zi k24 1300 f24), ((q0 41), zi k26 1300 f26), ((q0 5), zi k4 122880 f4), ((q0 43), zi k27 40 f27), ((q0 44), zi k28 40 f28), ((q0 45), zi k29 40 f29), ((q0 61), zi k37 200 f37), ((q0 62), zi k38 16000 f38), ((q0 40), zi k25 1300 f25)]) (va_A [(h0, .inr (13, mX13 q0 v0)), ((q0 38), zi k23 1300 f23), ((q0 39), zi k24 1300 f24), ((q0 41), zi k26 1300 f26), ((q0 5), zi k4 122880 f4), ((q0 43), zi k27 40 f27), ((q0 44), zi k28 40 f28), ((q0 45), zi k29 40 f29), ((q0 61), zi k37 200 f37), ((q0 62), zi k38 16000 f38), ((q0 40), zi k25 1300 f25)] sz)) 0 0 (va_A [(h0, .inr (13, mX13 q0 v0)), ((q0 38), zi k23 1300 f23), ((q0 39), zi k24 1300 f24), ((q0 41), zi k26 1300 f26), ((q0 5), zi k4 122880 f4), ((q0 43), zi k27 40 f27), ((q0 44), zi k28 40 f28), ((q0 45), zi k29 40 f29), ((q0 61), zi k37 200 f37), ((q0 62), zi k38 16000 f38), ((q0 40), zi k25 1300 f25)] sz)
theorem zv2196 : (.instanceMethod yX13_standsAt : Cond) ∈ zG := zin9 148 (by decide +kernel) (by decide +kernel)
set_option maxHeartbeats 8000000 in
set_option maxRecDepth 100000 in
theorem sX13_standsAt_0 (l : Launch) (n : Nat) (ih : C_X13_standsAt n l) : C_X13_standsAt (n + 1) l := by
  intro dC dI adK adV h0 q0 k23 k24 k26 k4 k27 k28 k29 k37 k38 k25 sz v0 f23 f24 f26 f4 f27 f28 f29 f37 f38 f25 x1 x2 x3 hv0 hf24 hf4 hf25 hx1 hx2 hx3 hp0_ hp1_ hp2_ hp3_ hp4_
  refine Met.ofW (cc := cX13_standsAt) (maxL := 4) (ret := (some .boolean)) (by decide) rfl ?_
  intro p e s m args below meth c s₁ B hml hv
  obtain ⟨rfl, hsz, hP, hK, hD0, hE, hZ⟩ := hv
  have hx := B.exec
  have hb := B.bytes
  have hr := B.returns
  have hG : ∀ w ∈ zG, w.before _ s = true := fun w h => atoms_spec (ws := (zw yX13_standsAt cX13_standsAt 4 (some .boolean))) B.pre w (List.mem_cons_of_mem _ h)
  have hown : s.vm.findClass RX13 = some m.cls := findClass_of_methodNamed B.named
  have hlocks := B.notSynchronized

  subst hsz
  have hD := hD0.self (sz := s.heap.size)
  generalize hAe : va_A [(h0, .inr (13, mX13 q0 v0)), ((q0 38), zi k23 1300 f23), ((q0 39), zi k24 1300 f24), ((q0 41), zi k26 1300 f26), ((q0 5), zi k4 122880 f4), ((q0 43), zi k27 40 f27), ((q0 44), zi k28 40 f28), ((q0 45), zi k29 40 f29), ((q0 61), zi k37 200 f37), ((q0 62), zi k38 16000 f38), ((q0 40), zi k25 1300 f25)] s.heap.size = A at hD hZ ⊢
  have hA : ∀ q : Nat, s.heap.size ≤ q → A q := fun q h => by rw [← hAe]; exact Or.inr h
  have hS : va_S A s.heap s.heap [] := va_S.rf
  have hl := lv_entry ([.ref h0, .int x1, .int x2, .int x3]) (n := 4) (Nat.le_of_ble_eq_true rfl)
  rw [lg_entry_eq]
  generalize (lg_sl ([.ref h0, .int x1, .int x2, .int x3]) ++ List.replicate (4 - (lg_sl ([.ref h0, .int x1, .int x2, .int x3])).length) Slot.unset).toArray = ls at hl ⊢
  have hl : lv_has ls 4 [(0, .ref h0), (1, .int x1), (2, .int x2), (3, .int x3)] := hl
  have b_ := zk_0
  have b_ := zk_1
  have b_ := zk_6
  have b_ := zk_7
  have b_ : 0 ≤ (v0 42).toInt ∧ (v0 42).toInt ≤ 1300 := hv0 42
  have b_ : 0 ≤ (v0 47).toInt ∧ (v0 47).toInt ≤ 40 := hv0 47
  refine lv_aload_n hx hb dX13_standsAt_0 rfl (lv_at hl 0 rfl) ?_
  refine va_get (D := (dC, dI)) (ci := 13) (v := .ref (q0 38)) (C := RX13) (T := TX13) (N := 75) hx hb hG zuX13 hown hK hP 0 rfl rfl 38 (by decide) (hG _ zv1642) (fun _ h9 => h9) rfl dX13_standsAt_1 ?_
  refine lv_iload_n hx hb dX13_standsAt_4 rfl (lv_at hl 1 rfl) ?_
  refine va_iald hx hb hK hP 1 0 rfl rfl (zin_lit ⟨by omega, by omega⟩) dX13_standsAt_5 ?_
  refine lv_topi (fun z5 e_z5 => ?_)
  obtain ⟨n1, n2, n3, n4, n5, n6, n7⟩ := zTr_get hp1_ (x := x1) (by omega) hp3_
  rw [← e_z5] at n1 n2 n3 n4 n5 n6 n7
  have b_ : 1 ≤ z5.toInt ∧ z5.toInt ≤ 11 := ⟨n6, n7⟩
  clear n6 n7
  have b_ : z5.toInt = 1 ∨ z5.toInt = 2 ∨ z5.toInt = 3 ∨ z5.toInt = 6 ∨ z5.toInt = 7 := by have q := hp4_; rw [← e_z5] at q; exact q
  rcases Classical.em (z5 = (6 : Int32)) with c_ | c_
  · skip
    have b_ : z5.toInt = 6 := by rw [c_]; exact zk_6
    refine lv_lookup (off := 26) (tgt := 32) hx hb dX13_standsAt_6 (by decide +kernel) (by rw [b_]; decide +kernel) (by decide) ?_
    refine lv_iload_n hx hb dX13_standsAt_32 rfl (lv_at hl 3 rfl) ?_
    refine lv_sipush (v := 512) hx hb dX13_standsAt_33 (by decide) ?_
    refine lv_icmp_ge (tgt := 58) hx hb dX13_standsAt_36 (by decide) (fun c_ => ?_) (fun c_ => ?_)
    · skip
      have b_ := zT_ge rfl zk_512 c_
      refine lv_iconst (v := 0) hx hb dX13_standsAt_58 (by decide) ?_
      refine W.widen (k := 0) (n := 0) (by decide) (by decide) ?_
      have hpost : (0 ≤ (0 : Int32).toInt ∧ (0 : Int32).toInt ≤ 1) ∧ (zSaR f4 f27 f28 f29 f37 f38 f23 f24 f26 (v0 42).toInt x2.toInt x3.toInt ((x1 : Int32)).toNatClampNeg (0 : Int32).toInt) := ⟨(by first | with_reducible assumption | exact ⟨by omega, by omega⟩), by first | exact zSaR_x e_z5 (by omega) (by omega) (by omega) (by decide) | exact zSaR_r e_z5 (by omega) (by omega) (by omega) e_z45 hX48_0 (by omega) | exact zSaR_r e_z5 (by omega) (by omega) (by omega) e_z73 hX76_0 (by omega) | exact zSaR_m e_z5 (by omega) (by omega) (by omega) e_z94 hX97_0⟩
      have hP9 : va_P (dC, dI) vwCl [(h0, .inr (13, mX13 q0 v0)), ((q0 38), zi k23 1300 f23), ((q0 39), zi k24 1300 f24), ((q0 41), zi k26 1300 f26), ((q0 5), zi k4 122880 f4), ((q0 43), zi k27 40 f27), ((q0 44), zi k28 40 f28), ((q0 45), zi k29 40 f29), ((q0 61), zi k37 200 f37), ((q0 62), zi k38 16000 f38), ((q0 40), zi k25 1300 f25)] s.heap := hP
      have hD9 : va_D A [(h0, .inr (13, mX13 q0 v0)), ((q0 38), zi k23 1300 f23), ((q0 39), zi k24 1300 f24), ((q0 41), zi k26 1300 f26), ((q0 5), zi k4 122880 f4), ((q0 43), zi k27 40 f27), ((q0 44), zi k28 40 f28), ((q0 45), zi k29 40 f29), ((q0 61), zi k37 200 f37), ((q0 62), zi k38 16000 f38), ((q0 40), zi k25 1300 f25)] := hD
      exact W.zret (v := 0) hx hb hr rfl (fun t ht hW => ⟨⟨0, (fun _ => 0), rfl, hpost, (fun _ => 0), (fun _ => (fun _ => 0)), (fun _ => (fun _ => 0)), by rw [ht]; exact hP9, va_K.moved hW.alike hK, hD9⟩, hS.F ht⟩) hS.2.2 dX13_standsAt_59
    · skip
      have b_ := zF_ge rfl zk_512 c_
      refine lv_aload_n hx hb dX13_standsAt_39 rfl (lv_at hl 0 rfl) ?_
      refine lv_aload_n hx hb dX13_standsAt_40 rfl (lv_at hl 0 rfl) ?_
      refine va_get (D := (dC, dI)) (ci := 13) (v := .ref (q0 39)) (C := RX13) (T := TX13) (N := 75) hx hb hG zuX13 hown hK hP 0 rfl rfl 39 (by decide) (hG _ zv1643) (fun _ h9 => h9) rfl dX13_standsAt_41 ?_
      refine lv_iload_n hx hb dX13_standsAt_44 rfl (lv_at hl 1 rfl) ?_
      refine va_iald hx hb hK hP 2 1 rfl rfl (zin_lit ⟨by omega, by omega⟩) dX13_standsAt_45 ?_
      refine lv_topi (fun z45 e_z45 => ?_)
      have b_ : (-1) ≤ z45.toInt ∧ z45.toInt ≤ 1299 := by rw [e_z45]; exact hf24 _
      have b_ : 0 ≤ z45.toInt ∧ z45.toInt < x1.toInt := by have q := n2 (by omega); rw [← e_z45] at q; omega
      have hpl45 : zPl (f23 (z45).toNatClampNeg).toInt := by have q := n4 (by omega); rw [← e_z45] at q; exact q
      refine lv_iload_n hx hb dX13_standsAt_46 rfl (lv_at hl 2 rfl) ?_
      refine lv_iload_n hx hb dX13_standsAt_47 rfl (lv_at hl 3 rfl) ?_
      have hPc := hP.sub (ws' := [(h0, .inr (13, mX13 q0 v0)), ((q0 38), zi k23 1300 f23), ((q0 39), zi k24 1300 f24), ((q0 41), zi k26 1300 f26), ((q0 5), zi k4 122880 f4), ((q0 43), zi k27 40 f27), ((q0 44), zi k28 40 f28), ((q0 45), zi k29 40 f29), ((q0 61), zi k37 200 f37), ((q0 62), zi k38 16000 f38), ((q0 40), zi k25 1300 f25)]) [0, 1, 2, 3, 4, 5, 6, 7, 8, 9, 10] rfl
      have hDc := hD.sub (ws' := [(h0, .inr (13, mX13 q0 v0)), ((q0 38), zi k23 1300 f23), ((q0 39), zi k24 1300 f24), ((q0 41), zi k26 1300 f26), ((q0 5), zi k4 122880 f4), ((q0 43), zi k27 40 f27), ((q0 44), zi k28 40 f28), ((q0 45), zi k29 40 f29), ((q0 61), zi k37 200 f37), ((q0 62), zi k38 16000 f38), ((q0 40), zi k25 1300 f25)]) [0, 1, 2, 3, 4, 5, 6, 7, 8, 9, 10] (by decide) rfl
      have hKc := hK.sub (tys' := [(k23, .int), (k24, .int), (k26, .int), (k4, .short), (k27, .int), (k28, .int), (k29, .int), (k37, .int), (k38, .boolean), (k25, .int)]) [0, 1, 2, 3, 4, 5, 6, 7, 8, 9] rfl
      have hFc := va_free (wc := [(h0, .inr (13, mX13 q0 v0)), ((q0 38), zi k23 1300 f23), ((q0 39), zi k24 1300 f24), ((q0 41), zi k26 1300 f26), ((q0 5), zi k4 122880 f4), ((q0 43), zi k27 40 f27), ((q0 44), zi k28 40 f28), ((q0 45), zi k29 40 f29), ((q0 61), zi k37 200 f37), ((q0 62), zi k38 16000 f38), ((q0 40), zi k25 1300 f25)]) hD hS hA [0, 1, 2, 3, 4, 5, 6, 7, 8, 9, 10] rfl
      refine va_calli (va_runV (As := [.int z45, .int x2, .int x3]) (rest := []) ⟨hx, hb, hml, hown, hG⟩ (ih dC dI adK adV h0 q0 k23 k24 k26 k4 k27 k28 k29 k37 k38 k25 s.heap.size v0 f23 f24 f26 f4 f27 f28 f29 f37 f38 f25 z45 x2 x3 hv0 hf24 hf4 hf25 (show (0 : Int) ≤ (z45 : Int32).toInt ∧ (z45 : Int32).toInt ≤ (1299 : Int) from (by first | with_reducible assumption | exact ⟨by omega, by omega⟩)) (show (0 : Int) ≤ (x2 : Int32).toInt ∧ (x2 : Int32).toInt ≤ (119 : Int) from (by first | with_reducible assumption | exact ⟨by omega, by omega⟩)) (show (0 : Int) ≤ (x3 : Int32).toInt ∧ (x3 : Int32).toInt ≤ (1023 : Int) from (by first | with_reducible assumption | exact ⟨by omega, by omega⟩)) (show z45.toInt < ((n : Nat) : Int) from by omega) (show zTr f23 f24 f25 f26 (v0 42).toInt (v0 47).toInt from by first | with_reducible assumption | assumption) (show zLf f27 f28 f29 (v0 47).toInt from by first | with_reducible assumption | assumption) (show z45.toInt < (v0 42).toInt from by omega) (show zPl (f23 ((z45 : Int32)).toNatClampNeg).toInt from by first | with_reducible assumption | assumption)) (cwV 3 hG (zgV zv2194 zv2196 zv119 zv142 zv2197) rfl rfl rfl (by decide +kernel) ⟨(show n + 20 + 1 ≤ (n + 1) + 20 from by omega), (show 8 + (4 + 11) + (24 * n + 600) ≤ 24 * (n + 1) + 600 from by omega)⟩) ⟨zPc_blind, va_recv hKc hPc (ci := 13) (q0 := 0) rfl rfl, zPc_pre hPc hKc hDc hE hS hFc hZ⟩ rfl rfl hl.1 rfl (lv_room (Nat.le_of_ble_eq_true rfl)) dX13_standsAt_48 ⟨Nat.le_of_ble_eq_true rfl, Nat.le_of_ble_eq_true rfl⟩) hS (fun q _ h => hFc q h) hFc (fun r48_ u48_ t H1 locs ht hvm hw hB hz1 hk1 hS => ?_)
      replace hw : (0 ≤ r48_.toInt ∧ r48_.toInt ≤ 1) ∧ (zSaR f4 f27 f28 f29 f37 f38 f23 f24 f26 (v0 42).toInt x2.toInt x3.toInt ((z45 : Int32)).toNatClampNeg r48_.toInt) := hw
      obtain ⟨b_, hX48_0⟩ := hw
      obtain ⟨w48_, a48_, b48_, hP1, hK1, hD1⟩ := hB
      rw [ht] at hP1
      obtain ⟨hP, hD⟩ := va_join (wr := []) (w1 := [(h0, .inr (13, mX13 q0 v0)), ((q0 38), zi k23 1300 f23), ((q0 39), zi k24 1300 f24), ((q0 41), zi k26 1300 f26), ((q0 5), zi k4 122880 f4), ((q0 43), zi k27 40 f27), ((q0 44), zi k28 40 f28), ((q0 45), zi k29 40 f29), ((q0 61), zi k37 200 f37), ((q0 62), zi k38 16000 f38), ((q0 40), zi k25 1300 f25)]) hP hD [0, 1, 2, 3, 4, 5, 6, 7, 8, 9, 10] [] rfl rfl (by decide) (by decide) hk1 hFc hP1 hD1
      have hP : va_P (dC, dI) vwCl [(h0, .inr (13, mX13 q0 v0)), ((q0 38), zi k23 1300 f23), ((q0 39), zi k24 1300 f24), ((q0 41), zi k26 1300 f26), ((q0 5), zi k4 122880 f4), ((q0 43), zi k27 40 f27), ((q0 44), zi k28 40 f28), ((q0 45), zi k29 40 f29), ((q0 61), zi k37 200 f37), ((q0 62), zi k38 16000 f38), ((q0 40), zi k25 1300 f25)] H1 := hP.sub [0, 1, 2, 3, 4, 5, 6, 7, 8, 9, 10] rfl
      have hD : va_D A [(h0, .inr (13, mX13 q0 v0)), ((q0 38), zi k23 1300 f23), ((q0 39), zi k24 1300 f24), ((q0 41), zi k26 1300 f26), ((q0 5), zi k4 122880 f4), ((q0 43), zi k27 40 f27), ((q0 44), zi k28 40 f28), ((q0 45), zi k29 40 f29), ((q0 61), zi k37 200 f37), ((q0 62), zi k38 16000 f38), ((q0 40), zi k25 1300 f25)] := hD.sub [0, 1, 2, 3, 4, 5, 6, 7, 8, 9, 10] (by decide) rfl
      generalize H1 = H at hP hS ⊢
      clear hz1
      refine lv_if_eq (tgt := 58) hx hb dX13_standsAt_51 (by decide) (fun c_ => ?_) (fun c_ => ?_)
      · skip
        have b_ := zT_eq rfl zk_0 c_
        refine lv_iconst (v := 0) hx hb dX13_standsAt_58 (by decide) ?_
        refine W.widen (k := 0) (n := 0) (by decide) (by decide) ?_
        have hpost : (0 ≤ (0 : Int32).toInt ∧ (0 : Int32).toInt ≤ 1) ∧ (zSaR f4 f27 f28 f29 f37 f38 f23 f24 f26 (v0 42).toInt x2.toInt x3.toInt ((x1 : Int32)).toNatClampNeg (0 : Int32).toInt) := ⟨(by first | with_reducible assumption | exact ⟨by omega, by omega⟩), by first | exact zSaR_x e_z5 (by omega) (by omega) (by omega) (by decide) | exact zSaR_r e_z5 (by omega) (by omega) (by omega) e_z45 hX48_0 (by omega) | exact zSaR_r e_z5 (by omega) (by omega) (by omega) e_z73 hX76_0 (by omega) | exact zSaR_m e_z5 (by omega) (by omega) (by omega) e_z94 hX97_0⟩
        have hP9 : va_P (dC, dI) vwCl [(h0, .inr (13, mX13 q0 v0)), ((q0 38), zi k23 1300 f23), ((q0 39), zi k24 1300 f24), ((q0 41), zi k26 1300 f26), ((q0 5), zi k4 122880 f4), ((q0 43), zi k27 40 f27), ((q0 44), zi k28 40 f28), ((q0 45), zi k29 40 f29), ((q0 61), zi k37 200 f37), ((q0 62), zi k38 16000 f38), ((q0 40), zi k25 1300 f25)] H := hP
        have hD9 : va_D A [(h0, .inr (13, mX13 q0 v0)), ((q0 38), zi k23 1300 f23), ((q0 39), zi k24 1300 f24), ((q0 41), zi k26 1300 f26), ((q0 5), zi k4 122880 f4), ((q0 43), zi k27 40 f27), ((q0 44), zi k28 40 f28), ((q0 45), zi k29 40 f29), ((q0 61), zi k37 200 f37), ((q0 62), zi k38 16000 f38), ((q0 40), zi k25 1300 f25)] := hD
        exact W.zret (v := 0) hx hb hr rfl (fun t ht hW => ⟨⟨0, (fun _ => 0), rfl, hpost, (fun _ => 0), (fun _ => (fun _ => 0)), (fun _ => (fun _ => 0)), by rw [ht]; exact hP9, va_K.moved hW.alike hK, hD9⟩, hS.F ht⟩) hS.2.2 dX13_standsAt_59
      · skip
        have b_ := zF_eq rfl zk_0 c_
        refine lv_iconst (v := 1) hx hb dX13_standsAt_54 (by decide) ?_
        refine lv_goto (tgt := 59) hx hb dX13_standsAt_55 (by decide) ?_
        refine W.widen (k := 0) (n := 0) (by decide) (by decide) ?_
        have hpost : (0 ≤ (1 : Int32).toInt ∧ (1 : Int32).toInt ≤ 1) ∧ (zSaR f4 f27 f28 f29 f37 f38 f23 f24 f26 (v0 42).toInt x2.toInt x3.toInt ((x1 : Int32)).toNatClampNeg (1 : Int32).toInt) := ⟨(by first | with_reducible assumption | exact ⟨by omega, by omega⟩), by first | exact zSaR_x e_z5 (by omega) (by omega) (by omega) (by decide) | exact zSaR_r e_z5 (by omega) (by omega) (by omega) e_z45 hX48_0 (by omega) | exact zSaR_r e_z5 (by omega) (by omega) (by omega) e_z73 hX76_0 (by omega) | exact zSaR_m e_z5 (by omega) (by omega) (by omega) e_z94 hX97_0⟩
        have hP9 : va_P (dC, dI) vwCl [(h0, .inr (13, mX13 q0 v0)), ((q0 38), zi k23 1300 f23), ((q0 39), zi k24 1300 f24), ((q0 41), zi k26 1300 f26), ((q0 5), zi k4 122880 f4), ((q0 43), zi k27 40 f27), ((q0 44), zi k28 40 f28), ((q0 45), zi k29 40 f29), ((q0 61), zi k37 200 f37), ((q0 62), zi k38 16000 f38), ((q0 40), zi k25 1300 f25)] H := hP
        have hD9 : va_D A [(h0, .inr (13, mX13 q0 v0)), ((q0 38), zi k23 1300 f23), ((q0 39), zi k24 1300 f24), ((q0 41), zi k26 1300 f26), ((q0 5), zi k4 122880 f4), ((q0 43), zi k27 40 f27), ((q0 44), zi k28 40 f28), ((q0 45), zi k29 40 f29), ((q0 61), zi k37 200 f37), ((q0 62), zi k38 16000 f38), ((q0 40), zi k25 1300 f25)] := hD
        exact W.zret (v := 1) hx hb hr rfl (fun t ht hW => ⟨⟨1, (fun _ => 0), rfl, hpost, (fun _ => 0), (fun _ => (fun _ => 0)), (fun _ => (fun _ => 0)), by rw [ht]; exact hP9, va_K.moved hW.alike hK, hD9⟩, hS.F ht⟩) hS.2.2 dX13_standsAt_59
  · skip
    have b_ : z5.toInt ≠ 6 := fun h => c_ (zeqi.mpr (h.trans zk_6.symm))
    rcases Classical.em (z5 = (7 : Int32)) with c_ | c_
    · skip
      have b_ : z5.toInt = 7 := by rw [c_]; exact zk_7
      refine lv_lookup (off := 54) (tgt := 60) hx hb dX13_standsAt_6 (by decide +kernel) (by rw [b_]; decide +kernel) (by decide) ?_
      refine lv_iload_n hx hb dX13_standsAt_60 rfl (lv_at hl 3 rfl) ?_
      refine lv_sipush (v := 512) hx hb dX13_standsAt_61 (by decide) ?_
      refine lv_icmp_lt (tgt := 86) hx hb dX13_standsAt_64 (by decide) (fun c_ => ?_) (fun c_ => ?_)
      · skip
        have b_ := zT_lt rfl zk_512 c_
        refine lv_iconst (v := 0) hx hb dX13_standsAt_86 (by decide) ?_
        refine W.widen (k := 0) (n := 0) (by decide) (by decide) ?_
        have hpost : (0 ≤ (0 : Int32).toInt ∧ (0 : Int32).toInt ≤ 1) ∧ (zSaR f4 f27 f28 f29 f37 f38 f23 f24 f26 (v0 42).toInt x2.toInt x3.toInt ((x1 : Int32)).toNatClampNeg (0 : Int32).toInt) := ⟨(by first | with_reducible assumption | exact ⟨by omega, by omega⟩), by first | exact zSaR_x e_z5 (by omega) (by omega) (by omega) (by decide) | exact zSaR_r e_z5 (by omega) (by omega) (by omega) e_z45 hX48_0 (by omega) | exact zSaR_r e_z5 (by omega) (by omega) (by omega) e_z73 hX76_0 (by omega) | exact zSaR_m e_z5 (by omega) (by omega) (by omega) e_z94 hX97_0⟩
        have hP9 : va_P (dC, dI) vwCl [(h0, .inr (13, mX13 q0 v0)), ((q0 38), zi k23 1300 f23), ((q0 39), zi k24 1300 f24), ((q0 41), zi k26 1300 f26), ((q0 5), zi k4 122880 f4), ((q0 43), zi k27 40 f27), ((q0 44), zi k28 40 f28), ((q0 45), zi k29 40 f29), ((q0 61), zi k37 200 f37), ((q0 62), zi k38 16000 f38), ((q0 40), zi k25 1300 f25)] s.heap := hP
        have hD9 : va_D A [(h0, .inr (13, mX13 q0 v0)), ((q0 38), zi k23 1300 f23), ((q0 39), zi k24 1300 f24), ((q0 41), zi k26 1300 f26), ((q0 5), zi k4 122880 f4), ((q0 43), zi k27 40 f27), ((q0 44), zi k28 40 f28), ((q0 45), zi k29 40 f29), ((q0 61), zi k37 200 f37), ((q0 62), zi k38 16000 f38), ((q0 40), zi k25 1300 f25)] := hD
        exact W.zret (v := 0) hx hb hr rfl (fun t ht hW => ⟨⟨0, (fun _ => 0), rfl, hpost, (fun _ => 0), (fun _ => (fun _ => 0)), (fun _ => (fun _ => 0)), by rw [ht]; exact hP9, va_K.moved hW.alike hK, hD9⟩, hS.F ht⟩) hS.2.2 dX13_standsAt_87
      · skip
        have b_ := zF_lt rfl zk_512 c_
        refine lv_aload_n hx hb dX13_standsAt_67 rfl (lv_at hl 0 rfl) ?_
        refine lv_aload_n hx hb dX13_standsAt_68 rfl (lv_at hl 0 rfl) ?_
        refine va_get (D := (dC, dI)) (ci := 13) (v := .ref (q0 39)) (C := RX13) (T := TX13) (N := 75) hx hb hG zuX13 hown hK hP 0 rfl rfl 39 (by decide) (hG _ zv1643) (fun _ h9 => h9) rfl dX13_standsAt_69 ?_
        refine lv_iload_n hx hb dX13_standsAt_72 rfl (lv_at hl 1 rfl) ?_
        refine va_iald hx hb hK hP 2 1 rfl rfl (zin_lit ⟨by omega, by omega⟩) dX13_standsAt_73 ?_
        refine lv_topi (fun z73 e_z73 => ?_)
        have b_ : (-1) ≤ z73.toInt ∧ z73.toInt ≤ 1299 := by rw [e_z73]; exact hf24 _
        have b_ : 0 ≤ z73.toInt ∧ z73.toInt < x1.toInt := by have q := n2 (by omega); rw [← e_z73] at q; omega
        have hpl73 : zPl (f23 (z73).toNatClampNeg).toInt := by have q := n4 (by omega); rw [← e_z73] at q; exact q
        refine lv_iload_n hx hb dX13_standsAt_74 rfl (lv_at hl 2 rfl) ?_
        refine lv_iload_n hx hb dX13_standsAt_75 rfl (lv_at hl 3 rfl) ?_
        have hPc := hP.sub (ws' := [(h0, .inr (13, mX13 q0 v0)), ((q0 38), zi k23 1300 f23), ((q0 39), zi k24 1300 f24), ((q0 41), zi k26 1300 f26), ((q0 5), zi k4 122880 f4), ((q0 43), zi k27 40 f27), ((q0 44), zi k28 40 f28), ((q0 45), zi k29 40 f29), ((q0 61), zi k37 200 f37), ((q0 62), zi k38 16000 f38), ((q0 40), zi k25 1300 f25)]) [0, 1, 2, 3, 4, 5, 6, 7, 8, 9, 10] rfl
        have hDc := hD.sub (ws' := [(h0, .inr (13, mX13 q0 v0)), ((q0 38), zi k23 1300 f23), ((q0 39), zi k24 1300 f24), ((q0 41), zi k26 1300 f26), ((q0 5), zi k4 122880 f4), ((q0 43), zi k27 40 f27), ((q0 44), zi k28 40 f28), ((q0 45), zi k29 40 f29), ((q0 61), zi k37 200 f37), ((q0 62), zi k38 16000 f38), ((q0 40), zi k25 1300 f25)]) [0, 1, 2, 3, 4, 5, 6, 7, 8, 9, 10] (by decide) rfl
        have hKc := hK.sub (tys' := [(k23, .int), (k24, .int), (k26, .int), (k4, .short), (k27, .int), (k28, .int), (k29, .int), (k37, .int), (k38, .boolean), (k25, .int)]) [0, 1, 2, 3, 4, 5, 6, 7, 8, 9] rfl
        have hFc := va_free (wc := [(h0, .inr (13, mX13 q0 v0)), ((q0 38), zi k23 1300 f23), ((q0 39), zi k24 1300 f24), ((q0 41), zi k26 1300 f26), ((q0 5), zi k4 122880 f4), ((q0 43), zi k27 40 f27), ((q0 44), zi k28 40 f28), ((q0 45), zi k29 40 f29), ((q0 61), zi k37 200 f37), ((q0 62), zi k38 16000 f38), ((q0 40), zi k25 1300 f25)]) hD hS hA [0, 1, 2, 3, 4, 5, 6, 7, 8, 9, 10] rfl
        refine va_calli (va_runV (As := [.int z73, .int x2, .int x3]) (rest := []) ⟨hx, hb, hml, hown, hG⟩ (ih dC dI adK adV h0 q0 k23 k24 k26 k4 k27 k28 k29 k37 k38 k25 s.heap.size v0 f23 f24 f26 f4 f27 f28 f29 f37 f38 f25 z73 x2 x3 hv0 hf24 hf4 hf25 (show (0 : Int) ≤ (z73 : Int32).toInt ∧ (z73 : Int32).toInt ≤ (1299 : Int) from (by first | with_reducible assumption | exact ⟨by omega, by omega⟩)) (show (0 : Int) ≤ (x2 : Int32).toInt ∧ (x2 : Int32).toInt ≤ (119 : Int) from (by first | with_reducible assumption | exact ⟨by omega, by omega⟩)) (show (0 : Int) ≤ (x3 : Int32).toInt ∧ (x3 : Int32).toInt ≤ (1023 : Int) from (by first | with_reducible assumption | exact ⟨by omega, by omega⟩)) (show z73.toInt < ((n : Nat) : Int) from by omega) (show zTr f23 f24 f25 f26 (v0 42).toInt (v0 47).toInt from by first | with_reducible assumption | assumption) (show zLf f27 f28 f29 (v0 47).toInt from by first | with_reducible assumption | assumption) (show z73.toInt < (v0 42).toInt from by omega) (show zPl (f23 ((z73 : Int32)).toNatClampNeg).toInt from by first | with_reducible assumption | assumption)) (cwV 3 hG (zgV zv2194 zv2196 zv119 zv142 zv2197) rfl rfl rfl (by decide +kernel) ⟨(show n + 20 + 1 ≤ (n + 1) + 20 from by omega), (show 8 + (4 + 11) + (24 * n + 600) ≤ 24 * (n + 1) + 600 from by omega)⟩) ⟨zPc_blind, va_recv hKc hPc (ci := 13) (q0 := 0) rfl rfl, zPc_pre hPc hKc hDc hE hS hFc hZ⟩ rfl rfl hl.1 rfl (lv_room (Nat.le_of_ble_eq_true rfl)) dX13_standsAt_76 ⟨Nat.le_of_ble_eq_true rfl, Nat.le_of_ble_eq_true rfl⟩) hS (fun q _ h => hFc q h) hFc (fun r76_ u76_ t H1 locs ht hvm hw hB hz1 hk1 hS => ?_)
        replace hw : (0 ≤ r76_.toInt ∧ r76_.toInt ≤ 1) ∧ (zSaR f4 f27 f28 f29 f37 f38 f23 f24 f26 (v0 42).toInt x2.toInt x3.toInt ((z73 : Int32)).toNatClampNeg r76_.toInt) := hw
        obtain ⟨b_, hX76_0⟩ := hw
        obtain ⟨w76_, a76_, b76_, hP1, hK1, hD1⟩ := hB
        rw [ht] at hP1
        obtain ⟨hP, hD⟩ := va_join (wr := []) (w1 := [(h0, .inr (13, mX13 q0 v0)), ((q0 38), zi k23 1300 f23), ((q0 39), zi k24 1300 f24), ((q0 41), zi k26 1300 f26), ((q0 5), zi k4 122880 f4), ((q0 43), zi k27 40 f27), ((q0 44), zi k28 40 f28), ((q0 45), zi k29 40 f29), ((q0 61), zi k37 200 f37), ((q0 62), zi k38 16000 f38), ((q0 40), zi k25 1300 f25)]) hP hD [0, 1, 2, 3, 4, 5, 6, 7, 8, 9, 10] [] rfl rfl (by decide) (by decide) hk1 hFc hP1 hD1
        have hP : va_P (dC, dI) vwCl [(h0, .inr (13, mX13 q0 v0)), ((q0 38), zi k23 1300 f23), ((q0 39), zi k24 1300 f24), ((q0 41), zi k26 1300 f26), ((q0 5), zi k4 122880 f4), ((q0 43), zi k27 40 f27), ((q0 44), zi k28 40 f28), ((q0 45), zi k29 40 f29), ((q0 61), zi k37 200 f37), ((q0 62), zi k38 16000 f38), ((q0 40), zi k25 1300 f25)] H1 := hP.sub [0, 1, 2, 3, 4, 5, 6, 7, 8, 9, 10] rfl
        have hD : va_D A [(h0, .inr (13, mX13 q0 v0)), ((q0 38), zi k23 1300 f23), ((q0 39), zi k24 1300 f24), ((q0 41), zi k26 1300 f26), ((q0 5), zi k4 122880 f4), ((q0 43), zi k27 40 f27), ((q0 44), zi k28 40 f28), ((q0 45), zi k29 40 f29), ((q0 61), zi k37 200 f37), ((q0 62), zi k38 16000 f38), ((q0 40), zi k25 1300 f25)] := hD.sub [0, 1, 2, 3, 4, 5, 6, 7, 8, 9, 10] (by decide) rfl
        generalize H1 = H at hP hS ⊢
        clear hz1
        refine lv_if_eq (tgt := 86) hx hb dX13_standsAt_79 (by decide) (fun c_ => ?_) (fun c_ => ?_)
        · skip
          have b_ := zT_eq rfl zk_0 c_
          refine lv_iconst (v := 0) hx hb dX13_standsAt_86 (by decide) ?_
          refine W.widen (k := 0) (n := 0) (by decide) (by decide) ?_
          have hpost : (0 ≤ (0 : Int32).toInt ∧ (0 : Int32).toInt ≤ 1) ∧ (zSaR f4 f27 f28 f29 f37 f38 f23 f24 f26 (v0 42).toInt x2.toInt x3.toInt ((x1 : Int32)).toNatClampNeg (0 : Int32).toInt) := ⟨(by first | with_reducible assumption | exact ⟨by omega, by omega⟩), by first | exact zSaR_x e_z5 (by omega) (by omega) (by omega) (by decide) | exact zSaR_r e_z5 (by omega) (by omega) (by omega) e_z45 hX48_0 (by omega) | exact zSaR_r e_z5 (by omega) (by omega) (by omega) e_z73 hX76_0 (by omega) | exact zSaR_m e_z5 (by omega) (by omega) (by omega) e_z94 hX97_0⟩
          have hP9 : va_P (dC, dI) vwCl [(h0, .inr (13, mX13 q0 v0)), ((q0 38), zi k23 1300 f23), ((q0 39), zi k24 1300 f24), ((q0 41), zi k26 1300 f26), ((q0 5), zi k4 122880 f4), ((q0 43), zi k27 40 f27), ((q0 44), zi k28 40 f28), ((q0 45), zi k29 40 f29), ((q0 61), zi k37 200 f37), ((q0 62), zi k38 16000 f38), ((q0 40), zi k25 1300 f25)] H := hP
          have hD9 : va_D A [(h0, .inr (13, mX13 q0 v0)), ((q0 38), zi k23 1300 f23), ((q0 39), zi k24 1300 f24), ((q0 41), zi k26 1300 f26), ((q0 5), zi k4 122880 f4), ((q0 43), zi k27 40 f27), ((q0 44), zi k28 40 f28), ((q0 45), zi k29 40 f29), ((q0 61), zi k37 200 f37), ((q0 62), zi k38 16000 f38), ((q0 40), zi k25 1300 f25)] := hD
          exact W.zret (v := 0) hx hb hr rfl (fun t ht hW => ⟨⟨0, (fun _ => 0), rfl, hpost, (fun _ => 0), (fun _ => (fun _ => 0)), (fun _ => (fun _ => 0)), by rw [ht]; exact hP9, va_K.moved hW.alike hK, hD9⟩, hS.F ht⟩) hS.2.2 dX13_standsAt_87
        · skip
          have b_ := zF_eq rfl zk_0 c_
          refine lv_iconst (v := 1) hx hb dX13_standsAt_82 (by decide) ?_
          refine lv_goto (tgt := 87) hx hb dX13_standsAt_83 (by decide) ?_
          refine W.widen (k := 0) (n := 0) (by decide) (by decide) ?_
          have hpost : (0 ≤ (1 : Int32).toInt ∧ (1 : Int32).toInt ≤ 1) ∧ (zSaR f4 f27 f28 f29 f37 f38 f23 f24 f26 (v0 42).toInt x2.toInt x3.toInt ((x1 : Int32)).toNatClampNeg (1 : Int32).toInt) := ⟨(by first | with_reducible assumption | exact ⟨by omega, by omega⟩), by first | exact zSaR_x e_z5 (by omega) (by omega) (by omega) (by decide) | exact zSaR_r e_z5 (by omega) (by omega) (by omega) e_z45 hX48_0 (by omega) | exact zSaR_r e_z5 (by omega) (by omega) (by omega) e_z73 hX76_0 (by omega) | exact zSaR_m e_z5 (by omega) (by omega) (by omega) e_z94 hX97_0⟩
          have hP9 : va_P (dC, dI) vwCl [(h0, .inr (13, mX13 q0 v0)), ((q0 38), zi k23 1300 f23), ((q0 39), zi k24 1300 f24), ((q0 41), zi k26 1300 f26), ((q0 5), zi k4 122880 f4), ((q0 43), zi k27 40 f27), ((q0 44), zi k28 40 f28), ((q0 45), zi k29 40 f29), ((q0 61), zi k37 200 f37), ((q0 62), zi k38 16000 f38), ((q0 40), zi k25 1300 f25)] H := hP
          have hD9 : va_D A [(h0, .inr (13, mX13 q0 v0)), ((q0 38), zi k23 1300 f23), ((q0 39), zi k24 1300 f24), ((q0 41), zi k26 1300 f26), ((q0 5), zi k4 122880 f4), ((q0 43), zi k27 40 f27), ((q0 44), zi k28 40 f28), ((q0 45), zi k29 40 f29), ((q0 61), zi k37 200 f37), ((q0 62), zi k38 16000 f38), ((q0 40), zi k25 1300 f25)] := hD
          exact W.zret (v := 1) hx hb hr rfl (fun t ht hW => ⟨⟨1, (fun _ => 0), rfl, hpost, (fun _ => 0), (fun _ => (fun _ => 0)), (fun _ => (fun _ => 0)), by rw [ht]; exact hP9, va_K.moved hW.alike hK, hD9⟩, hS.F ht⟩) hS.2.2 dX13_standsAt_87
    · skip
      have b_ : z5.toInt ≠ 7 := fun h => c_ (zeqi.mpr (h.trans zk_7.symm))
      refine lv_lookup (off := 82) (tgt := 88) hx hb dX13_standsAt_6 (by decide +kernel) (zlookup (by simp; omega)) (by decide) ?_
      refine lv_aload_n hx hb dX13_standsAt_88 rfl (lv_at hl 0 rfl) ?_
      refine lv_aload_n hx hb dX13_standsAt_89 rfl (lv_at hl 0 rfl) ?_
      refine va_get (D := (dC, dI)) (ci := 13) (v := .ref (q0 41)) (C := RX13) (T := TX13) (N := 75) hx hb hG zuX13 hown hK hP 0 rfl rfl 41 (by decide) (hG _ zv1645) (fun _ h9 => h9) rfl dX13_standsAt_90 ?_
      refine lv_iload_n hx hb dX13_standsAt_93 rfl (lv_at hl 1 rfl) ?_
      refine va_iald hx hb hK hP 3 2 rfl rfl (zin_lit ⟨by omega, by omega⟩) dX13_standsAt_94 ?_
      refine lv_topi (fun z94 e_z94 => ?_)
      have b_ : 0 ≤ z94.toInt ∧ z94.toInt < (v0 47).toInt := by have q := n3 (by omega); rw [← e_z94] at q; exact q
      refine lv_iload_n hx hb dX13_standsAt_95 rfl (lv_at hl 2 rfl) ?_
      refine lv_iload_n hx hb dX13_standsAt_96 rfl (lv_at hl 3 rfl) ?_
      have hPc := hP.sub (ws' := [(h0, .inr (13, mX13 q0 v0)), ((q0 5), zi k4 122880 f4), ((q0 43), zi k27 40 f27), ((q0 44), zi k28 40 f28), ((q0 45), zi k29 40 f29), ((q0 61), zi k37 200 f37), ((q0 62), zi k38 16000 f38)]) [0, 4, 5, 6, 7, 8, 9] rfl
      have hDc := hD.sub (ws' := [(h0, .inr (13, mX13 q0 v0)), ((q0 5), zi k4 122880 f4), ((q0 43), zi k27 40 f27), ((q0 44), zi k28 40 f28), ((q0 45), zi k29 40 f29), ((q0 61), zi k37 200 f37), ((q0 62), zi k38 16000 f38)]) [0, 4, 5, 6, 7, 8, 9] (by decide) rfl
      have hKc := hK.sub (tys' := [(k4, .short), (k27, .int), (k28, .int), (k29, .int), (k37, .int), (k38, .boolean)]) [3, 4, 5, 6, 7, 8] rfl
      have hFc := va_free (wc := [(h0, .inr (13, mX13 q0 v0)), ((q0 5), zi k4 122880 f4), ((q0 43), zi k27 40 f27), ((q0 44), zi k28 40 f28), ((q0 45), zi k29 40 f29), ((q0 61), zi k37 200 f37), ((q0 62), zi k38 16000 f38)]) hD hS hA [0, 4, 5, 6, 7, 8, 9] rfl
      refine va_calli (va_runV (As := [.int z94, .int x2, .int x3]) (rest := []) ⟨hx, hb, hml, hown, hG⟩ (sX13_matches_0 l dC dI adK adV h0 q0 k4 k27 k28 k29 k37 k38 s.heap.size v0 f4 f27 f28 f29 f37 f38 z94 x2 x3 hv0 hf4 (show (0 : Int) ≤ (z94 : Int32).toInt ∧ (z94 : Int32).toInt ≤ (39 : Int) from (by first | with_reducible assumption | exact ⟨by omega, by omega⟩)) (show (0 : Int) ≤ (x2 : Int32).toInt ∧ (x2 : Int32).toInt ≤ (119 : Int) from (by first | with_reducible assumption | exact ⟨by omega, by omega⟩)) (show (0 : Int) ≤ (x3 : Int32).toInt ∧ (x3 : Int32).toInt ≤ (1023 : Int) from (by first | with_reducible assumption | exact ⟨by omega, by omega⟩)) (show zLf f27 f28 f29 (v0 47).toInt from by first | with_reducible assumption | assumption) (show z94.toInt < (v0 47).toInt from by omega)) (cwV 3 hG (zgV zv2178 zv2180 zv115 zv142 zv2181) rfl rfl rfl (by decide +kernel) ⟨(show 1 + 1 ≤ (n + 1) + 20 from by omega), (show 8 + (5 + 11) + (27) ≤ 24 * (n + 1) + 600 from by omega)⟩) ⟨zPc_blind, va_recv hKc hPc (ci := 13) (q0 := 0) rfl rfl, zPc_pre hPc hKc hDc hE hS hFc hZ⟩ rfl rfl hl.1 rfl (lv_room (Nat.le_of_ble_eq_true rfl)) dX13_standsAt_97 ⟨Nat.le_of_ble_eq_true rfl, Nat.le_of_ble_eq_true rfl⟩) hS (fun q _ h => hFc q h) hFc (fun r97_ u97_ t H1 locs ht hvm hw hB hz1 hk1 hS => ?_)
      replace hw : (0 ≤ r97_.toInt ∧ r97_.toInt ≤ 1) ∧ (r97_.toInt = zMt f4 f27 f28 f29 f37 f38 z94.toInt x2.toInt x3.toInt) := hw
      obtain ⟨b_, hX97_0⟩ := hw
      obtain ⟨w97_, a97_, b97_, hP1, hK1, hD1⟩ := hB
      rw [ht] at hP1
      obtain ⟨hP, hD⟩ := va_join (wr := [((q0 38), zi k23 1300 f23), ((q0 39), zi k24 1300 f24), ((q0 41), zi k26 1300 f26), ((q0 40), zi k25 1300 f25)]) (w1 := [(h0, .inr (13, mX13 q0 v0)), ((q0 5), zi k4 122880 f4), ((q0 43), zi k27 40 f27), ((q0 44), zi k28 40 f28), ((q0 45), zi k29 40 f29), ((q0 61), zi k37 200 f37), ((q0 62), zi k38 16000 f38)]) hP hD [0, 4, 5, 6, 7, 8, 9] [1, 2, 3, 10] rfl rfl (by decide) (by decide) hk1 hFc hP1 hD1
      have hP : va_P (dC, dI) vwCl [(h0, .inr (13, mX13 q0 v0)), ((q0 38), zi k23 1300 f23), ((q0 39), zi k24 1300 f24), ((q0 41), zi k26 1300 f26), ((q0 5), zi k4 122880 f4), ((q0 43), zi k27 40 f27), ((q0 44), zi k28 40 f28), ((q0 45), zi k29 40 f29), ((q0 61), zi k37 200 f37), ((q0 62), zi k38 16000 f38), ((q0 40), zi k25 1300 f25)] H1 := hP.sub [4, 0, 1, 2, 5, 6, 7, 8, 9, 10, 3] rfl
      have hD : va_D A [(h0, .inr (13, mX13 q0 v0)), ((q0 38), zi k23 1300 f23), ((q0 39), zi k24 1300 f24), ((q0 41), zi k26 1300 f26), ((q0 5), zi k4 122880 f4), ((q0 43), zi k27 40 f27), ((q0 44), zi k28 40 f28), ((q0 45), zi k29 40 f29), ((q0 61), zi k37 200 f37), ((q0 62), zi k38 16000 f38), ((q0 40), zi k25 1300 f25)] := hD.sub [4, 0, 1, 2, 5, 6, 7, 8, 9, 10, 3] (by decide) rfl
      generalize H1 = H at hP hS ⊢
      clear hz1
      refine W.widen (k := 0) (n := 0) (by decide) (by decide) ?_
      have hpost : (0 ≤ r97_.toInt ∧ r97_.toInt ≤ 1) ∧ (zSaR f4 f27 f28 f29 f37 f38 f23 f24 f26 (v0 42).toInt x2.toInt x3.toInt ((x1 : Int32)).toNatClampNeg r97_.toInt) := ⟨(by first | with_reducible assumption | exact ⟨by omega, by omega⟩), by first | exact zSaR_x e_z5 (by omega) (by omega) (by omega) (by decide) | exact zSaR_r e_z5 (by omega) (by omega) (by omega) e_z45 hX48_0 (by omega) | exact zSaR_r e_z5 (by omega) (by omega) (by omega) e_z73 hX76_0 (by omega) | exact zSaR_m e_z5 (by omega) (by omega) (by omega) e_z94 hX97_0⟩
      have hP9 : va_P (dC, dI) vwCl [(h0, .inr (13, mX13 q0 v0)), ((q0 38), zi k23 1300 f23), ((q0 39), zi k24 1300 f24), ((q0 41), zi k26 1300 f26), ((q0 5), zi k4 122880 f4), ((q0 43), zi k27 40 f27), ((q0 44), zi k28 40 f28), ((q0 45), zi k29 40 f29), ((q0 61), zi k37 200 f37), ((q0 62), zi k38 16000 f38), ((q0 40), zi k25 1300 f25)] H := hP
      have hD9 : va_D A [(h0, .inr (13, mX13 q0 v0)), ((q0 38), zi k23 1300 f23), ((q0 39), zi k24 1300 f24), ((q0 41), zi k26 1300 f26), ((q0 5), zi k4 122880 f4), ((q0 43), zi k27 40 f27), ((q0 44), zi k28 40 f28), ((q0 45), zi k29 40 f29), ((q0 61), zi k37 200 f37), ((q0 62), zi k38 16000 f38), ((q0 40), zi k25 1300 f25)] := hD
      exact W.zret (v := r97_) hx hb hr (zbn ⟨by omega, by omega⟩) (fun t ht hW => ⟨⟨r97_, (fun _ => 0), rfl, hpost, (fun _ => 0), (fun _ => (fun _ => 0)), (fun _ => (fun _ => 0)), by rw [ht]; exact hP9, va_K.moved hW.alike hK, hD9⟩, hS.F ht⟩) hS.2.2 dX13_standsAt_100
