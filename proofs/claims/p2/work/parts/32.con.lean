set_option maxHeartbeats 8000000 in
set_option maxRecDepth 100000 in
theorem sX13_timesOf_0 (l : Launch) (dC : Nat → ClassId) (dI : Nat → Nat → Nat) (adK adV : Nat → Nat) (h0 : Nat) (q0 : Nat → Nat) (k10 : ClassId) (k4 : ClassId) (k11 : ClassId) (sz : Nat) (v0 : Nat → Int32) (f10 : Nat → Int32) (f4 : Nat → Int32) (f11 : Nat → Int32) (x1 : Int32) (x2 : Int32) (hv0 : zR rg_Model v0) (hf10 : zA 0 512 f10) (hf4 : zA 0 400 f4) (hf11 : zA 0 512 f11) (hx1 : 0 ≤ x1.toInt ∧ x1.toInt ≤ 119) : Met l yX13_timesOf (zw yX13_timesOf cX13_timesOf 5 (some .int)) { frames := 0, cells := 0, slots := 0, locals := 0 } (zPc dC dI adK adV [.ref h0, .int x1, .int x2] sz [(h0, .inr (13, mX13 q0 v0)), ((q0 11), .inl (k10, 120, .inl f10)), ((q0 5), .inl (k4, 122880, .inl f4)), ((q0 12), .inl (k11, 120, .inl f11))] [(k10, .int), (k4, .short), (k11, .int)]) (va_Qi (fun (r : Int32) (u : Nat → Int32) => True) (fun (u : Nat → Int32) (t : State) => ∃ (ww : Nat → Int64) (aa : Nat → Nat → Int32) (bb : Nat → Nat → Int64), va_P (dC, dI) vwCl [(h0, .inr (13, mX13 q0 v0)), ((q0 11), .inl (k10, 120, .inl f10)), ((q0 5), .inl (k4, 122880, .inl f4)), ((q0 12), .inl (k11, 120, .inl f11))] t.heap ∧ va_K (dC, dI) vwCl [(k10, .int), (k4, .short), (k11, .int)] t ∧ va_D (va_A [(h0, .inr (13, mX13 q0 v0)), ((q0 11), .inl (k10, 120, .inl f10)), ((q0 5), .inl (k4, 122880, .inl f4)), ((q0 12), .inl (k11, 120, .inl f11))] sz) [(h0, .inr (13, mX13 q0 v0)), ((q0 11), .inl (k10, 120, .inl f10)), ((q0 5), .inl (k4, 122880, .inl f4)), ((q0 12), .inl (k11, 120, .inl f11))]) (va_A [(h0, .inr (13, mX13 q0 v0)), ((q0 11), .inl (k10, 120, .inl f10)), ((q0 5), .inl (k4, 122880, .inl f4)), ((q0 12), .inl (k11, 120, .inl f11))] sz)) 0 0 (va_A [(h0, .inr (13, mX13 q0 v0)), ((q0 11), .inl (k10, 120, .inl f10)), ((q0 5), .inl (k4, 122880, .inl f4)), ((q0 12), .inl (k11, 120, .inl f11))] sz) := by
  refine Met.ofW (cc := cX13_timesOf) (maxL := 5) (ret := (some .int)) (by decide) rfl ?_
  intro p e s m args below meth c s₁ B hml hv
  obtain ⟨rfl, hsz, hP, hK, hD0, hE, hZ⟩ := hv
  have hx := B.exec
  have hb := B.bytes
  have hr := B.returns
  have hG : ∀ w ∈ zG, w.before _ s = true := fun w h => atoms_spec (ws := (zw yX13_timesOf cX13_timesOf 5 (some .int))) B.pre w (List.mem_cons_of_mem _ h)
  have hown : s.vm.findClass RX13 = some m.cls := findClass_of_methodNamed B.named
  have hlocks := B.notSynchronized
  subst hsz
  have hD := hD0.self (sz := s.heap.size)
  generalize hAe : va_A [(h0, .inr (13, mX13 q0 v0)), ((q0 11), .inl (k10, 120, .inl f10)), ((q0 5), .inl (k4, 122880, .inl f4)), ((q0 12), .inl (k11, 120, .inl f11))] s.heap.size = A at hD hZ ⊢
  have hA : ∀ q : Nat, s.heap.size ≤ q → A q := fun q h => by rw [← hAe]; exact Or.inr h
  have hS : va_S A s.heap s.heap [] := va_S.rf
  have hl := lv_entry ([.ref h0, .int x1, .int x2]) (n := 5) (Nat.le_of_ble_eq_true rfl)
  rw [lg_entry_eq]
  generalize (lg_sl ([.ref h0, .int x1, .int x2]) ++ List.replicate (5 - (lg_sl ([.ref h0, .int x1, .int x2])).length) Slot.unset).toArray = ls at hl ⊢
  have hl : lv_has ls 5 [(0, .ref h0), (1, .int x1), (2, .int x2)] := hl
  have b_ := zk_0
  have b_ := zk_512
  refine lv_iconst (v := 0) hx hb dX13_timesOf_0 (by decide) ?_
  refine lv_istore_n (lv' := [(3, .int 0), (0, .ref h0), (1, .int x1), (2, .int x2)]) hx hb dX13_timesOf_1 rfl hl (by decide) rfl (fun ls hl => ?_)
  refine lv_iconst (v := 0) hx hb dX13_timesOf_2 (by decide) ?_
  refine lv_istore (lv' := [(4, .int 0), (3, .int 0), (0, .ref h0), (1, .int x1), (2, .int x2)]) hx hb dX13_timesOf_3 hl (by decide) rfl (fun ls hl => ?_)
  refine zcutL (fun u5_ => (512 - (u5_ 1).toInt).toNat) (fun H locs ls u5_ w5_ a5_ b5_ => va_P (dC, dI) vwCl [(h0, .inr (13, mX13 q0 v0)), ((q0 11), .inl (k10, 120, .inl f10)), ((q0 5), .inl (k4, 122880, .inl f4)), ((q0 12), .inl (k11, 120, .inl f11))] H ∧ va_D A [(h0, .inr (13, mX13 q0 v0)), ((q0 11), .inl (k10, 120, .inl f10)), ((q0 5), .inl (k4, 122880, .inl f4)), ((q0 12), .inl (k11, 120, .inl f11))] ∧ va_S A s.heap H locs ∧ lv_has ls 5 [(0, .ref h0), (1, .int x1), (2, .int x2), (3, .int (u5_ 0)), (4, .int (u5_ 1))] ∧ (0 ≤ (u5_ 1).toInt ∧ (u5_ 1).toInt ≤ 512)) (fun ls u5_ w5_ => F0 m 5 ls []) 0 0 ?_ (fun hJ5 => ?_)
  · skip
    intro H locs ls u5_ w5_ a5_ b5_ hc hJ5
    obtain ⟨hP, hD, hS, hl, b_⟩ := hc
    refine lv_iload hx hb dX13_timesOf_5 (lv_at hl 4 rfl) ?_
    refine lv_aload_n hx hb dX13_timesOf_7 rfl (lv_at hl 0 rfl) ?_
    refine va_get (D := (dC, dI)) (ci := 13) (v := .ref (q0 11)) (C := RX13) (T := TX13) (N := 75) hx hb hG zuX13 hown hK hP 0 rfl rfl 11 (by decide) (hG _ zw566) (fun _ h9 => h9) rfl dX13_timesOf_8 ?_
    refine lv_iload_n hx hb dX13_timesOf_11 rfl (lv_at hl 1 rfl) ?_
    refine va_iald hx hb hK hP 1 0 rfl rfl (zin_lit ⟨by omega, by omega⟩) dX13_timesOf_12 ?_
    refine lv_topi (fun z12 e_z12 => ?_)
    have b_ : 0 ≤ z12.toInt ∧ z12.toInt ≤ 512 := by rw [e_z12]; exact hf10 _
    refine lv_icmp_ge (tgt := 49) hx hb dX13_timesOf_13 (by decide) (fun c_ => ?_) (fun c_ => ?_)
    · skip
      have b_ := zT_ge rfl rfl c_
      refine lv_sipush (v := 512) hx hb dX13_timesOf_49 (by decide) ?_
      refine lv_istore (lv' := [(4, .int 512), (0, .ref h0), (1, .int x1), (2, .int x2), (3, .int (u5_ 0))]) hx hb dX13_timesOf_52 hl (by decide) rfl (fun ls hl => ?_)
      refine zcutL (fun u54_ => (1024 - (u54_ 1).toInt).toNat) (fun H locs ls u54_ w54_ a54_ b54_ => va_P (dC, dI) vwCl [(h0, .inr (13, mX13 q0 v0)), ((q0 11), .inl (k10, 120, .inl f10)), ((q0 5), .inl (k4, 122880, .inl f4)), ((q0 12), .inl (k11, 120, .inl f11))] H ∧ va_D A [(h0, .inr (13, mX13 q0 v0)), ((q0 11), .inl (k10, 120, .inl f10)), ((q0 5), .inl (k4, 122880, .inl f4)), ((q0 12), .inl (k11, 120, .inl f11))] ∧ va_S A s.heap H locs ∧ lv_has ls 5 [(0, .ref h0), (1, .int x1), (2, .int x2), (3, .int (u54_ 0)), (4, .int (u54_ 1))] ∧ (512 ≤ (u54_ 1).toInt ∧ (u54_ 1).toInt ≤ 1024)) (fun ls u54_ w54_ => F0 m 54 ls []) 0 0 ?_ (fun hJ54 => ?_)
      · skip
        intro H locs ls u54_ w54_ a54_ b54_ hc hJ54
        obtain ⟨hP, hD, hS, hl, b_⟩ := hc
        refine lv_iload hx hb dX13_timesOf_54 (lv_at hl 4 rfl) ?_
        refine lv_sipush (v := 512) hx hb dX13_timesOf_56 (by decide) ?_
        refine lv_aload_n hx hb dX13_timesOf_59 rfl (lv_at hl 0 rfl) ?_
        refine va_get (D := (dC, dI)) (ci := 13) (v := .ref (q0 12)) (C := RX13) (T := TX13) (N := 75) hx hb hG zuX13 hown hK hP 0 rfl rfl 12 (by decide) (hG _ zw570) (fun _ h9 => h9) rfl dX13_timesOf_60 ?_
        refine lv_iload_n hx hb dX13_timesOf_63 rfl (lv_at hl 1 rfl) ?_
        refine va_iald hx hb hK hP 3 2 rfl rfl (zin_lit ⟨by omega, by omega⟩) dX13_timesOf_64 ?_
        refine lv_topi (fun z64 e_z64 => ?_)
        have b_ : 0 ≤ z64.toInt ∧ z64.toInt ≤ 512 := by rw [e_z64]; exact hf11 _
        refine lv_iadd hx hb dX13_timesOf_65 ?_
        refine lv_topi (fun z65 e_z65 => ?_)
        have b_ := zadd zk_512 rfl e_z65 (by omega) (by omega)
        refine lv_icmp_ge (tgt := 102) hx hb dX13_timesOf_66 (by decide) (fun c_ => ?_) (fun c_ => ?_)
        · skip
          have b_ := zT_ge rfl rfl c_
          refine lv_iload_n hx hb dX13_timesOf_102 rfl (lv_at hl 3 rfl) ?_
          refine W.widen (k := 0) (n := 0) (by decide) (by decide) ?_
          have b_ : -2147483648 ≤ (u54_ 0).toInt ∧ (u54_ 0).toInt ≤ 2147483647 := ⟨zlo _, zhi _⟩
          have hpost : True := trivial
          have hP9 : va_P (dC, dI) vwCl [(h0, .inr (13, mX13 q0 v0)), ((q0 11), .inl (k10, 120, .inl f10)), ((q0 5), .inl (k4, 122880, .inl f4)), ((q0 12), .inl (k11, 120, .inl f11))] H := hP
          have hD9 : va_D A [(h0, .inr (13, mX13 q0 v0)), ((q0 11), .inl (k10, 120, .inl f10)), ((q0 5), .inl (k4, 122880, .inl f4)), ((q0 12), .inl (k11, 120, .inl f11))] := hD
          exact W.iret (v := (u54_ 0)) hx hb hr (fun t ht hW => ⟨⟨(u54_ 0), (fun _ => 0), rfl, hpost, (fun _ => 0), (fun _ => (fun _ => 0)), (fun _ => (fun _ => 0)), by rw [ht]; exact hP9, va_K.moved hW.alike hK, hD9⟩, hS.F ht⟩) hS.2.2 dX13_timesOf_103
        · skip
          have b_ := zF_ge rfl rfl c_
          refine lv_iload_n hx hb dX13_timesOf_69 rfl (lv_at hl 3 rfl) ?_
          refine lv_aload_n hx hb dX13_timesOf_70 rfl (lv_at hl 0 rfl) ?_
          refine va_get (D := (dC, dI)) (ci := 13) (v := .ref (q0 5)) (C := RX13) (T := TX13) (N := 75) hx hb hG zuX13 hown hK hP 0 rfl rfl 5 (by decide) (hG _ zw567) (fun _ h9 => h9) rfl dX13_timesOf_71 ?_
          refine lv_sipush (v := 1024) hx hb dX13_timesOf_74 (by decide) ?_
          refine lv_iload_n hx hb dX13_timesOf_77 rfl (lv_at hl 1 rfl) ?_
          refine lv_imul hx hb dX13_timesOf_78 ?_
          refine lv_topi (fun z78 e_z78 => ?_)
          have b_ := zmul zk_1024 rfl e_z78 (by omega) (by omega)
          refine lv_iload hx hb dX13_timesOf_79 (lv_at hl 4 rfl) ?_
          refine lv_iadd hx hb dX13_timesOf_81 ?_
          refine lv_topi (fun z81 e_z81 => ?_)
          have b_ := zadd rfl rfl e_z81 (by omega) (by omega)
          refine va_sald hx hb hK hP 2 1 rfl rfl (zin_lit ⟨by omega, by omega⟩) dX13_timesOf_82 ?_
          refine lv_topi (fun z82 e_z82 => ?_)
          have b_ : 0 ≤ z82.toInt ∧ z82.toInt ≤ 400 := by rw [e_z82]; exact hf4 _
          refine lv_iload_n hx hb dX13_timesOf_83 rfl (lv_at hl 2 rfl) ?_
          refine lv_iconst (v := 1) hx hb dX13_timesOf_84 (by decide) ?_
          have b_ : -2147483648 ≤ x2.toInt ∧ x2.toInt ≤ 2147483647 := ⟨zlo _, zhi _⟩
          refine lv_iadd hx hb dX13_timesOf_85 ?_
          refine lv_topi (fun z85 e_z85 => ?_)
          have b_ : -2147483648 ≤ z85.toInt ∧ z85.toInt ≤ 2147483647 := ⟨zlo _, zhi _⟩
          refine lv_icmp_ne (tgt := 93) hx hb dX13_timesOf_86 (by decide) (fun c_ => ?_) (fun c_ => ?_)
          · skip
            have b_ := zT_ne rfl rfl c_
            refine lv_iconst (v := 0) hx hb dX13_timesOf_93 (by decide) ?_
            have b_ : -2147483648 ≤ (u54_ 0).toInt ∧ (u54_ 0).toInt ≤ 2147483647 := ⟨zlo _, zhi _⟩
            refine lv_iadd hx hb dX13_timesOf_94 ?_
            refine lv_topi (fun z94 e_z94 => ?_)
            have b_ := zadd rfl zk_0 e_z94 (by omega) (by omega)
            refine lv_istore_n (lv' := [(3, .int z94), (0, .ref h0), (1, .int x1), (2, .int x2), (4, .int (u54_ 1))]) hx hb dX13_timesOf_95 rfl hl (by decide) rfl (fun ls hl => ?_)
            obtain ⟨z96, e_z96⟩ : ∃ z : Int32, z = (u54_ 1) + Int32.ofInt 1 := ⟨_, rfl⟩
            have b_ := zadd (x := (u54_ 1)) (y := Int32.ofInt 1) rfl (show (Int32.ofInt 1).toInt = 1 from by decide) e_z96 (by omega) (by omega)
            refine lv_iinc (v := z96) (lv' := [(4, .int z96), (3, .int z94), (0, .ref h0), (1, .int x1), (2, .int x2)]) hx hb dX13_timesOf_96 hl (k := 4) rfl e_z96.symm (by decide) rfl (fun ls hl => ?_)
            refine lv_goto (tgt := 54) hx hb dX13_timesOf_99 (by decide) ?_
            have hc : va_P (dC, dI) vwCl [(h0, .inr (13, mX13 q0 v0)), ((q0 11), .inl (k10, 120, .inl f10)), ((q0 5), .inl (k4, 122880, .inl f4)), ((q0 12), .inl (k11, 120, .inl f11))] H ∧ va_D A [(h0, .inr (13, mX13 q0 v0)), ((q0 11), .inl (k10, 120, .inl f10)), ((q0 5), .inl (k4, 122880, .inl f4)), ((q0 12), .inl (k11, 120, .inl f11))] ∧ va_S A s.heap H locs ∧ lv_has ls 5 [(0, .ref h0), (1, .int x1), (2, .int x2), (3, .int z94), (4, .int z96)] ∧ (512 ≤ z96.toInt ∧ z96.toInt ≤ 1024) := ⟨hP, hD, hS, lv_sub hl [2, 3, 4, 1, 0] rfl, ⟨by omega, by omega⟩⟩
            exact hJ54 H locs ls (fun i => ([z94, z96] : List (Int32)).getD i 0) (fun _ => 0) (fun _ => (fun _ => 0)) (fun _ => (fun _ => 0)) hc (show (1024 - z96.toInt).toNat < (1024 - (u54_ 1).toInt).toNat from by omega)
          · skip
            have b_ := zF_ne rfl rfl c_
            refine lv_iconst (v := 1) hx hb dX13_timesOf_89 (by decide) ?_
            refine lv_goto (tgt := 94) hx hb dX13_timesOf_90 (by decide) ?_
            have b_ : -2147483648 ≤ (u54_ 0).toInt ∧ (u54_ 0).toInt ≤ 2147483647 := ⟨zlo _, zhi _⟩
            refine lv_iadd hx hb dX13_timesOf_94 ?_
            refine lv_topi (fun z94 e_z94 => ?_)
            refine lv_istore_n (lv' := [(3, .int z94), (0, .ref h0), (1, .int x1), (2, .int x2), (4, .int (u54_ 1))]) hx hb dX13_timesOf_95 rfl hl (by decide) rfl (fun ls hl => ?_)
            obtain ⟨z96, e_z96⟩ : ∃ z : Int32, z = (u54_ 1) + Int32.ofInt 1 := ⟨_, rfl⟩
            have b_ := zadd (x := (u54_ 1)) (y := Int32.ofInt 1) rfl (show (Int32.ofInt 1).toInt = 1 from by decide) e_z96 (by omega) (by omega)
            refine lv_iinc (v := z96) (lv' := [(4, .int z96), (3, .int z94), (0, .ref h0), (1, .int x1), (2, .int x2)]) hx hb dX13_timesOf_96 hl (k := 4) rfl e_z96.symm (by decide) rfl (fun ls hl => ?_)
            refine lv_goto (tgt := 54) hx hb dX13_timesOf_99 (by decide) ?_
            have b_ : -2147483648 ≤ z94.toInt ∧ z94.toInt ≤ 2147483647 := ⟨zlo _, zhi _⟩
            have hc : va_P (dC, dI) vwCl [(h0, .inr (13, mX13 q0 v0)), ((q0 11), .inl (k10, 120, .inl f10)), ((q0 5), .inl (k4, 122880, .inl f4)), ((q0 12), .inl (k11, 120, .inl f11))] H ∧ va_D A [(h0, .inr (13, mX13 q0 v0)), ((q0 11), .inl (k10, 120, .inl f10)), ((q0 5), .inl (k4, 122880, .inl f4)), ((q0 12), .inl (k11, 120, .inl f11))] ∧ va_S A s.heap H locs ∧ lv_has ls 5 [(0, .ref h0), (1, .int x1), (2, .int x2), (3, .int z94), (4, .int z96)] ∧ (512 ≤ z96.toInt ∧ z96.toInt ≤ 1024) := ⟨hP, hD, hS, lv_sub hl [2, 3, 4, 1, 0] rfl, ⟨by omega, by omega⟩⟩
            exact hJ54 H locs ls (fun i => ([z94, z96] : List (Int32)).getD i 0) (fun _ => 0) (fun _ => (fun _ => 0)) (fun _ => (fun _ => 0)) hc (show (1024 - z96.toInt).toNat < (1024 - (u54_ 1).toInt).toNat from by omega)
      · skip
        have b_ : -2147483648 ≤ x2.toInt ∧ x2.toInt ≤ 2147483647 := ⟨zlo _, zhi _⟩
        have b_ : -2147483648 ≤ (u5_ 0).toInt ∧ (u5_ 0).toInt ≤ 2147483647 := ⟨zlo _, zhi _⟩
        have hc : va_P (dC, dI) vwCl [(h0, .inr (13, mX13 q0 v0)), ((q0 11), .inl (k10, 120, .inl f10)), ((q0 5), .inl (k4, 122880, .inl f4)), ((q0 12), .inl (k11, 120, .inl f11))] H ∧ va_D A [(h0, .inr (13, mX13 q0 v0)), ((q0 11), .inl (k10, 120, .inl f10)), ((q0 5), .inl (k4, 122880, .inl f4)), ((q0 12), .inl (k11, 120, .inl f11))] ∧ va_S A s.heap H locs ∧ lv_has ls 5 [(0, .ref h0), (1, .int x1), (2, .int x2), (3, .int (u5_ 0)), (4, .int 512)] ∧ (512 ≤ (512 : Int32).toInt ∧ (512 : Int32).toInt ≤ 1024) := ⟨hP, hD, hS, lv_sub hl [1, 2, 3, 4, 0] rfl, ⟨by omega, by omega⟩⟩
        exact hJ54 H locs ls (fun i => ([(u5_ 0), 512] : List (Int32)).getD i 0) (fun _ => 0) (fun _ => (fun _ => 0)) (fun _ => (fun _ => 0)) hc
    · skip
      have b_ := zF_ge rfl rfl c_
      refine lv_iload_n hx hb dX13_timesOf_16 rfl (lv_at hl 3 rfl) ?_
      refine lv_aload_n hx hb dX13_timesOf_17 rfl (lv_at hl 0 rfl) ?_
      refine va_get (D := (dC, dI)) (ci := 13) (v := .ref (q0 5)) (C := RX13) (T := TX13) (N := 75) hx hb hG zuX13 hown hK hP 0 rfl rfl 5 (by decide) (hG _ zw567) (fun _ h9 => h9) rfl dX13_timesOf_18 ?_
      refine lv_sipush (v := 1024) hx hb dX13_timesOf_21 (by decide) ?_
      refine lv_iload_n hx hb dX13_timesOf_24 rfl (lv_at hl 1 rfl) ?_
      refine lv_imul hx hb dX13_timesOf_25 ?_
      refine lv_topi (fun z25 e_z25 => ?_)
      have b_ := zmul zk_1024 rfl e_z25 (by omega) (by omega)
      refine lv_iload hx hb dX13_timesOf_26 (lv_at hl 4 rfl) ?_
      refine lv_iadd hx hb dX13_timesOf_28 ?_
      refine lv_topi (fun z28 e_z28 => ?_)
      have b_ := zadd rfl rfl e_z28 (by omega) (by omega)
      refine va_sald hx hb hK hP 2 1 rfl rfl (zin_lit ⟨by omega, by omega⟩) dX13_timesOf_29 ?_
      refine lv_topi (fun z29 e_z29 => ?_)
      have b_ : 0 ≤ z29.toInt ∧ z29.toInt ≤ 400 := by rw [e_z29]; exact hf4 _
      refine lv_iload_n hx hb dX13_timesOf_30 rfl (lv_at hl 2 rfl) ?_
      refine lv_iconst (v := 1) hx hb dX13_timesOf_31 (by decide) ?_
      have b_ : -2147483648 ≤ x2.toInt ∧ x2.toInt ≤ 2147483647 := ⟨zlo _, zhi _⟩
      refine lv_iadd hx hb dX13_timesOf_32 ?_
      refine lv_topi (fun z32 e_z32 => ?_)
      have b_ : -2147483648 ≤ z32.toInt ∧ z32.toInt ≤ 2147483647 := ⟨zlo _, zhi _⟩
      refine lv_icmp_ne (tgt := 40) hx hb dX13_timesOf_33 (by decide) (fun c_ => ?_) (fun c_ => ?_)
      · skip
        have b_ := zT_ne rfl rfl c_
        refine lv_iconst (v := 0) hx hb dX13_timesOf_40 (by decide) ?_
        have b_ : -2147483648 ≤ (u5_ 0).toInt ∧ (u5_ 0).toInt ≤ 2147483647 := ⟨zlo _, zhi _⟩
        refine lv_iadd hx hb dX13_timesOf_41 ?_
        refine lv_topi (fun z41 e_z41 => ?_)
        have b_ := zadd rfl zk_0 e_z41 (by omega) (by omega)
        refine lv_istore_n (lv' := [(3, .int z41), (0, .ref h0), (1, .int x1), (2, .int x2), (4, .int (u5_ 1))]) hx hb dX13_timesOf_42 rfl hl (by decide) rfl (fun ls hl => ?_)
        obtain ⟨z43, e_z43⟩ : ∃ z : Int32, z = (u5_ 1) + Int32.ofInt 1 := ⟨_, rfl⟩
        have b_ := zadd (x := (u5_ 1)) (y := Int32.ofInt 1) rfl (show (Int32.ofInt 1).toInt = 1 from by decide) e_z43 (by omega) (by omega)
        refine lv_iinc (v := z43) (lv' := [(4, .int z43), (3, .int z41), (0, .ref h0), (1, .int x1), (2, .int x2)]) hx hb dX13_timesOf_43 hl (k := 4) rfl e_z43.symm (by decide) rfl (fun ls hl => ?_)
        refine lv_goto (tgt := 5) hx hb dX13_timesOf_46 (by decide) ?_
        have hc : va_P (dC, dI) vwCl [(h0, .inr (13, mX13 q0 v0)), ((q0 11), .inl (k10, 120, .inl f10)), ((q0 5), .inl (k4, 122880, .inl f4)), ((q0 12), .inl (k11, 120, .inl f11))] H ∧ va_D A [(h0, .inr (13, mX13 q0 v0)), ((q0 11), .inl (k10, 120, .inl f10)), ((q0 5), .inl (k4, 122880, .inl f4)), ((q0 12), .inl (k11, 120, .inl f11))] ∧ va_S A s.heap H locs ∧ lv_has ls 5 [(0, .ref h0), (1, .int x1), (2, .int x2), (3, .int z41), (4, .int z43)] ∧ (0 ≤ z43.toInt ∧ z43.toInt ≤ 512) := ⟨hP, hD, hS, lv_sub hl [2, 3, 4, 1, 0] rfl, ⟨by omega, by omega⟩⟩
        exact hJ5 H locs ls (fun i => ([z41, z43] : List (Int32)).getD i 0) (fun _ => 0) (fun _ => (fun _ => 0)) (fun _ => (fun _ => 0)) hc (show (512 - z43.toInt).toNat < (512 - (u5_ 1).toInt).toNat from by omega)
      · skip
        have b_ := zF_ne rfl rfl c_
        refine lv_iconst (v := 1) hx hb dX13_timesOf_36 (by decide) ?_
        refine lv_goto (tgt := 41) hx hb dX13_timesOf_37 (by decide) ?_
        have b_ : -2147483648 ≤ (u5_ 0).toInt ∧ (u5_ 0).toInt ≤ 2147483647 := ⟨zlo _, zhi _⟩
        refine lv_iadd hx hb dX13_timesOf_41 ?_
        refine lv_topi (fun z41 e_z41 => ?_)
        refine lv_istore_n (lv' := [(3, .int z41), (0, .ref h0), (1, .int x1), (2, .int x2), (4, .int (u5_ 1))]) hx hb dX13_timesOf_42 rfl hl (by decide) rfl (fun ls hl => ?_)
        obtain ⟨z43, e_z43⟩ : ∃ z : Int32, z = (u5_ 1) + Int32.ofInt 1 := ⟨_, rfl⟩
        have b_ := zadd (x := (u5_ 1)) (y := Int32.ofInt 1) rfl (show (Int32.ofInt 1).toInt = 1 from by decide) e_z43 (by omega) (by omega)
        refine lv_iinc (v := z43) (lv' := [(4, .int z43), (3, .int z41), (0, .ref h0), (1, .int x1), (2, .int x2)]) hx hb dX13_timesOf_43 hl (k := 4) rfl e_z43.symm (by decide) rfl (fun ls hl => ?_)
        refine lv_goto (tgt := 5) hx hb dX13_timesOf_46 (by decide) ?_
        have b_ : -2147483648 ≤ z41.toInt ∧ z41.toInt ≤ 2147483647 := ⟨zlo _, zhi _⟩
        have hc : va_P (dC, dI) vwCl [(h0, .inr (13, mX13 q0 v0)), ((q0 11), .inl (k10, 120, .inl f10)), ((q0 5), .inl (k4, 122880, .inl f4)), ((q0 12), .inl (k11, 120, .inl f11))] H ∧ va_D A [(h0, .inr (13, mX13 q0 v0)), ((q0 11), .inl (k10, 120, .inl f10)), ((q0 5), .inl (k4, 122880, .inl f4)), ((q0 12), .inl (k11, 120, .inl f11))] ∧ va_S A s.heap H locs ∧ lv_has ls 5 [(0, .ref h0), (1, .int x1), (2, .int x2), (3, .int z41), (4, .int z43)] ∧ (0 ≤ z43.toInt ∧ z43.toInt ≤ 512) := ⟨hP, hD, hS, lv_sub hl [2, 3, 4, 1, 0] rfl, ⟨by omega, by omega⟩⟩
        exact hJ5 H locs ls (fun i => ([z41, z43] : List (Int32)).getD i 0) (fun _ => 0) (fun _ => (fun _ => 0)) (fun _ => (fun _ => 0)) hc (show (512 - z43.toInt).toNat < (512 - (u5_ 1).toInt).toNat from by omega)
  · skip
    have b_ : -2147483648 ≤ x2.toInt ∧ x2.toInt ≤ 2147483647 := ⟨zlo _, zhi _⟩
    have hc : va_P (dC, dI) vwCl [(h0, .inr (13, mX13 q0 v0)), ((q0 11), .inl (k10, 120, .inl f10)), ((q0 5), .inl (k4, 122880, .inl f4)), ((q0 12), .inl (k11, 120, .inl f11))] s.heap ∧ va_D A [(h0, .inr (13, mX13 q0 v0)), ((q0 11), .inl (k10, 120, .inl f10)), ((q0 5), .inl (k4, 122880, .inl f4)), ((q0 12), .inl (k11, 120, .inl f11))] ∧ va_S A s.heap s.heap [] ∧ lv_has ls 5 [(0, .ref h0), (1, .int x1), (2, .int x2), (3, .int 0), (4, .int 0)] ∧ (0 ≤ (0 : Int32).toInt ∧ (0 : Int32).toInt ≤ 512) := ⟨hP, hD, hS, lv_sub hl [2, 3, 4, 1, 0] rfl, ⟨by omega, by omega⟩⟩
    exact hJ5 s.heap [] ls (fun i => ([0, 0] : List (Int32)).getD i 0) (fun _ => 0) (fun _ => (fun _ => 0)) (fun _ => (fun _ => 0)) hc
set_option maxHeartbeats 8000000 in
set_option maxRecDepth 100000 in
theorem sX13_isThere_0 (l : Launch) (dC : Nat → ClassId) (dI : Nat → Nat → Nat) (adK adV : Nat → Nat) (h0 : Nat) (q0 : Nat → Nat) (sz : Nat) (v0 : Nat → Int32) (x1 : Int32) (hv0 : zR rg_Model v0) : Met l yX13_isThere (zw yX13_isThere cX13_isThere 2 (some .boolean)) { frames := 0, cells := 0, slots := 0, locals := 0 } (zPc dC dI adK adV [.ref h0, .int x1] sz [(h0, .inr (13, mX13 q0 v0))] []) (va_Qi (fun (r : Int32) (u : Nat → Int32) => (0 ≤ r.toInt ∧ r.toInt ≤ 1) ∧ (r.toInt = 1 → (0 ≤ x1.toInt ∧ x1.toInt ≤ 119)) ∧ (r.toInt = 1 → x1.toInt < (v0 13).toInt)) (fun (u : Nat → Int32) (t : State) => ∃ (ww : Nat → Int64) (aa : Nat → Nat → Int32) (bb : Nat → Nat → Int64), va_P (dC, dI) vwCl [(h0, .inr (13, mX13 q0 v0))] t.heap ∧ va_K (dC, dI) vwCl [] t ∧ va_D (va_A [(h0, .inr (13, mX13 q0 v0))] sz) [(h0, .inr (13, mX13 q0 v0))]) (va_A [(h0, .inr (13, mX13 q0 v0))] sz)) 0 0 (va_A [(h0, .inr (13, mX13 q0 v0))] sz) := by
  refine Met.ofW (cc := cX13_isThere) (maxL := 2) (ret := (some .boolean)) (by decide) rfl ?_
  intro p e s m args below meth c s₁ B hml hv
  obtain ⟨rfl, hsz, hP, hK, hD0, hE, hZ⟩ := hv
  have hx := B.exec
  have hb := B.bytes
  have hr := B.returns
  have hG : ∀ w ∈ zG, w.before _ s = true := fun w h => atoms_spec (ws := (zw yX13_isThere cX13_isThere 2 (some .boolean))) B.pre w (List.mem_cons_of_mem _ h)
  have hown : s.vm.findClass RX13 = some m.cls := findClass_of_methodNamed B.named
  have hlocks := B.notSynchronized
  subst hsz
  have hD := hD0.self (sz := s.heap.size)
  generalize hAe : va_A [(h0, .inr (13, mX13 q0 v0))] s.heap.size = A at hD hZ ⊢
  have hA : ∀ q : Nat, s.heap.size ≤ q → A q := fun q h => by rw [← hAe]; exact Or.inr h
  have hS : va_S A s.heap s.heap [] := va_S.rf
  have hl := lv_entry ([.ref h0, .int x1]) (n := 2) (Nat.le_of_ble_eq_true rfl)
  rw [lg_entry_eq]
  generalize (lg_sl ([.ref h0, .int x1]) ++ List.replicate (2 - (lg_sl ([.ref h0, .int x1])).length) Slot.unset).toArray = ls at hl ⊢
  have hl : lv_has ls 2 [(0, .ref h0), (1, .int x1)] := hl
  have b_ := zk_0
  have b_ := zk_1
  have b_ : 0 ≤ (v0 13).toInt ∧ (v0 13).toInt ≤ 120 := hv0 13
  refine lv_iload_n hx hb dX13_isThere_0 rfl (lv_at hl 1 rfl) ?_
  have b_ : -2147483648 ≤ x1.toInt ∧ x1.toInt ≤ 2147483647 := ⟨zlo _, zhi _⟩
  refine lv_if_lt (tgt := 16) hx hb dX13_isThere_1 (by decide) (fun c_ => ?_) (fun c_ => ?_)
  · skip
    have b_ := zT_lt rfl zk_0 c_
    refine lv_iconst (v := 0) hx hb dX13_isThere_16 (by decide) ?_
    refine W.widen (k := 0) (n := 0) (by decide) (by decide) ?_
    have hpost : (0 ≤ (0 : Int32).toInt ∧ (0 : Int32).toInt ≤ 1) ∧ ((0 : Int32).toInt = 1 → (0 ≤ x1.toInt ∧ x1.toInt ≤ 119)) ∧ ((0 : Int32).toInt = 1 → x1.toInt < (v0 13).toInt) := ⟨⟨by omega, by omega⟩, by omega, by omega⟩
    have hP9 : va_P (dC, dI) vwCl [(h0, .inr (13, mX13 q0 v0))] s.heap := hP
    have hD9 : va_D A [(h0, .inr (13, mX13 q0 v0))] := hD
    exact W.zret (v := 0) hx hb hr rfl (fun t ht hW => ⟨⟨0, (fun _ => 0), rfl, hpost, (fun _ => 0), (fun _ => (fun _ => 0)), (fun _ => (fun _ => 0)), by rw [ht]; exact hP9, va_K.moved hW.alike hK, hD9⟩, hS.F ht⟩) hS.2.2 dX13_isThere_17
  · skip
    have b_ := zF_lt rfl zk_0 c_
    refine lv_iload_n hx hb dX13_isThere_4 rfl (lv_at hl 1 rfl) ?_
    refine lv_aload_n hx hb dX13_isThere_5 rfl (lv_at hl 0 rfl) ?_
    refine va_get (D := (dC, dI)) (ci := 13) (v := .int (v0 13)) (C := RX13) (T := TX13) (N := 75) hx hb hG zuX13 hown hK hP 0 rfl rfl 13 (by decide) (hG _ zw565) (fun _ h9 => h9) rfl dX13_isThere_6 ?_
    refine lv_icmp_ge (tgt := 16) hx hb dX13_isThere_9 (by decide) (fun c_ => ?_) (fun c_ => ?_)
    · skip
      have b_ := zT_ge rfl rfl c_
      refine lv_iconst (v := 0) hx hb dX13_isThere_16 (by decide) ?_
      refine W.widen (k := 0) (n := 0) (by decide) (by decide) ?_
      have hpost : (0 ≤ (0 : Int32).toInt ∧ (0 : Int32).toInt ≤ 1) ∧ ((0 : Int32).toInt = 1 → (0 ≤ x1.toInt ∧ x1.toInt ≤ 119)) ∧ ((0 : Int32).toInt = 1 → x1.toInt < (v0 13).toInt) := ⟨⟨by omega, by omega⟩, by omega, by omega⟩
      have hP9 : va_P (dC, dI) vwCl [(h0, .inr (13, mX13 q0 v0))] s.heap := hP
      have hD9 : va_D A [(h0, .inr (13, mX13 q0 v0))] := hD
      exact W.zret (v := 0) hx hb hr rfl (fun t ht hW => ⟨⟨0, (fun _ => 0), rfl, hpost, (fun _ => 0), (fun _ => (fun _ => 0)), (fun _ => (fun _ => 0)), by rw [ht]; exact hP9, va_K.moved hW.alike hK, hD9⟩, hS.F ht⟩) hS.2.2 dX13_isThere_17
    · skip
      have b_ := zF_ge rfl rfl c_
      refine lv_iconst (v := 1) hx hb dX13_isThere_12 (by decide) ?_
      refine lv_goto (tgt := 17) hx hb dX13_isThere_13 (by decide) ?_
      refine W.widen (k := 0) (n := 0) (by decide) (by decide) ?_
      have hpost : (0 ≤ (1 : Int32).toInt ∧ (1 : Int32).toInt ≤ 1) ∧ ((1 : Int32).toInt = 1 → (0 ≤ x1.toInt ∧ x1.toInt ≤ 119)) ∧ ((1 : Int32).toInt = 1 → x1.toInt < (v0 13).toInt) := ⟨⟨by omega, by omega⟩, by omega, by omega⟩
      have hP9 : va_P (dC, dI) vwCl [(h0, .inr (13, mX13 q0 v0))] s.heap := hP
      have hD9 : va_D A [(h0, .inr (13, mX13 q0 v0))] := hD
      exact W.zret (v := 1) hx hb hr rfl (fun t ht hW => ⟨⟨1, (fun _ => 0), rfl, hpost, (fun _ => 0), (fun _ => (fun _ => 0)), (fun _ => (fun _ => 0)), by rw [ht]; exact hP9, va_K.moved hW.alike hK, hD9⟩, hS.F ht⟩) hS.2.2 dX13_isThere_17
set_option maxHeartbeats 8000000 in
set_option maxRecDepth 100000 in
theorem sX13_stands_0 (l : Launch) (dC : Nat → ClassId) (dI : Nat → Nat → Nat) (adK adV : Nat → Nat) (h0 : Nat) (q0 : Nat → Nat) (k5 : ClassId) (sz : Nat) (v0 : Nat → Int32) (f5 : Nat → Int32) (x1 : Int32) (hv0 : zR rg_Model v0) : Met l yX13_stands (zw yX13_stands cX13_stands 2 (some .boolean)) { frames := 1, cells := 0, slots := 0, locals := 21 } (zPc dC dI adK adV [.ref h0, .int x1] sz [(h0, .inr (13, mX13 q0 v0)), ((q0 6), .inl (k5, 120, .inl f5))] [(k5, .boolean)]) (va_Qi (fun (r : Int32) (u : Nat → Int32) => (0 ≤ r.toInt ∧ r.toInt ≤ 1) ∧ (r.toInt = 1 → (0 ≤ x1.toInt ∧ x1.toInt ≤ 119)) ∧ (r.toInt = 1 → x1.toInt < (v0 13).toInt)) (fun (u : Nat → Int32) (t : State) => ∃ (ww : Nat → Int64) (aa : Nat → Nat → Int32) (bb : Nat → Nat → Int64), va_P (dC, dI) vwCl [(h0, .inr (13, mX13 q0 v0)), ((q0 6), .inl (k5, 120, .inl f5))] t.heap ∧ va_K (dC, dI) vwCl [(k5, .boolean)] t ∧ va_D (va_A [(h0, .inr (13, mX13 q0 v0)), ((q0 6), .inl (k5, 120, .inl f5))] sz) [(h0, .inr (13, mX13 q0 v0)), ((q0 6), .inl (k5, 120, .inl f5))]) (va_A [(h0, .inr (13, mX13 q0 v0)), ((q0 6), .inl (k5, 120, .inl f5))] sz)) 0 0 (va_A [(h0, .inr (13, mX13 q0 v0)), ((q0 6), .inl (k5, 120, .inl f5))] sz) := by
  refine Met.ofW (cc := cX13_stands) (maxL := 2) (ret := (some .boolean)) (by decide) rfl ?_
  intro p e s m args below meth c s₁ B hml hv
  obtain ⟨rfl, hsz, hP, hK, hD0, hE, hZ⟩ := hv
  have hx := B.exec
  have hb := B.bytes
  have hr := B.returns
  have hG : ∀ w ∈ zG, w.before _ s = true := fun w h => atoms_spec (ws := (zw yX13_stands cX13_stands 2 (some .boolean))) B.pre w (List.mem_cons_of_mem _ h)
  have hown : s.vm.findClass RX13 = some m.cls := findClass_of_methodNamed B.named
  have hlocks := B.notSynchronized
  subst hsz
  have hD := hD0.self (sz := s.heap.size)
  generalize hAe : va_A [(h0, .inr (13, mX13 q0 v0)), ((q0 6), .inl (k5, 120, .inl f5))] s.heap.size = A at hD hZ ⊢
  have hA : ∀ q : Nat, s.heap.size ≤ q → A q := fun q h => by rw [← hAe]; exact Or.inr h
  have hS : va_S A s.heap s.heap [] := va_S.rf
  have hl := lv_entry ([.ref h0, .int x1]) (n := 2) (Nat.le_of_ble_eq_true rfl)
  rw [lg_entry_eq]
  generalize (lg_sl ([.ref h0, .int x1]) ++ List.replicate (2 - (lg_sl ([.ref h0, .int x1])).length) Slot.unset).toArray = ls at hl ⊢
  have hl : lv_has ls 2 [(0, .ref h0), (1, .int x1)] := hl
  have b_ := zk_0
  have b_ := zk_1
  have b_ : 0 ≤ (v0 13).toInt ∧ (v0 13).toInt ≤ 120 := hv0 13
  refine lv_aload_n hx hb dX13_stands_0 rfl (lv_at hl 0 rfl) ?_
  refine lv_iload_n hx hb dX13_stands_1 rfl (lv_at hl 1 rfl) ?_
  have hPc := hP.sub (ws' := [(h0, .inr (13, mX13 q0 v0))]) [0] rfl
  have hDc := hD.sub (ws' := [(h0, .inr (13, mX13 q0 v0))]) [0] (by decide) rfl
  have hKc := hK.sub (tys' := []) [] rfl
  have hFc := va_free (wc := [(h0, .inr (13, mX13 q0 v0))]) hD hS hA [0] rfl
  refine va_calli (va_runV (As := [.int x1]) (rest := []) ⟨hx, hb, hml, hown, hG⟩ (sX13_isThere_0 l dC dI adK adV h0 q0 s.heap.size v0 x1 hv0) (cwV 1 hG (zgV zw626 zw627 zw628 zw524 zw629) rfl rfl rfl (by decide +kernel) ⟨Nat.le_of_ble_eq_true rfl, Nat.le_of_ble_eq_true rfl⟩) ⟨zPc_blind, va_recv hKc hPc (ci := 13) (q0 := 0) rfl rfl, zPc_pre hPc hKc hDc hE hS hFc hZ⟩ rfl rfl hl.1 rfl (lv_room (Nat.le_of_ble_eq_true rfl)) dX13_stands_2 ⟨Nat.le_of_ble_eq_true rfl, Nat.le_of_ble_eq_true rfl⟩) hS (fun q _ h => hFc q h) hFc (fun r2_ u2_ t H1 locs ht hvm hw hB hz1 hk1 hS => ?_)
  have hw : (0 ≤ r2_.toInt ∧ r2_.toInt ≤ 1) ∧ (r2_.toInt = 1 → (0 ≤ x1.toInt ∧ x1.toInt ≤ 119)) ∧ (r2_.toInt = 1 → x1.toInt < (v0 13).toInt) := hw
  obtain ⟨b_, hX2_0, hX2_1⟩ := hw
  obtain ⟨w2_, a2_, b2_, hP1, hK1, hD1⟩ := hB
  rw [ht] at hP1
  obtain ⟨hP, hD⟩ := va_join (wr := [((q0 6), .inl (k5, 120, .inl f5))]) (w1 := [(h0, .inr (13, mX13 q0 v0))]) hP hD [0] [1] rfl rfl (by decide) (by decide) hk1 hFc hP1 hD1
  have hP : va_P (dC, dI) vwCl [(h0, .inr (13, mX13 q0 v0)), ((q0 6), .inl (k5, 120, .inl f5))] H1 := hP.sub [1, 0] rfl
  have hD : va_D A [(h0, .inr (13, mX13 q0 v0)), ((q0 6), .inl (k5, 120, .inl f5))] := hD.sub [1, 0] (by decide) rfl
  generalize H1 = H at hP hS ⊢
  clear hz1
  refine lv_if_eq (tgt := 21) hx hb dX13_stands_5 (by decide) (fun c_ => ?_) (fun c_ => ?_)
  · skip
    have b_ := zT_eq rfl zk_0 c_
    refine lv_iconst (v := 0) hx hb dX13_stands_21 (by decide) ?_
    refine W.widen (k := 0) (n := 0) (by decide) (by decide) ?_
    have hpost : (0 ≤ (0 : Int32).toInt ∧ (0 : Int32).toInt ≤ 1) ∧ ((0 : Int32).toInt = 1 → (0 ≤ x1.toInt ∧ x1.toInt ≤ 119)) ∧ ((0 : Int32).toInt = 1 → x1.toInt < (v0 13).toInt) := ⟨⟨by omega, by omega⟩, by omega, by omega⟩
    have hP9 : va_P (dC, dI) vwCl [(h0, .inr (13, mX13 q0 v0)), ((q0 6), .inl (k5, 120, .inl f5))] H := hP
    have hD9 : va_D A [(h0, .inr (13, mX13 q0 v0)), ((q0 6), .inl (k5, 120, .inl f5))] := hD
    exact W.zret (v := 0) hx hb hr rfl (fun t ht hW => ⟨⟨0, (fun _ => 0), rfl, hpost, (fun _ => 0), (fun _ => (fun _ => 0)), (fun _ => (fun _ => 0)), by rw [ht]; exact hP9, va_K.moved hW.alike hK, hD9⟩, hS.F ht⟩) hS.2.2 dX13_stands_22
  · skip
    have b_ := zF_eq rfl zk_0 c_
    refine lv_aload_n hx hb dX13_stands_8 rfl (lv_at hl 0 rfl) ?_
    refine va_get (D := (dC, dI)) (ci := 13) (v := .ref (q0 6)) (C := RX13) (T := TX13) (N := 75) hx hb hG zuX13 hown hK hP 0 rfl rfl 6 (by decide) (hG _ zw590) (fun _ h9 => h9) rfl dX13_stands_9 ?_
    refine lv_iload_n hx hb dX13_stands_12 rfl (lv_at hl 1 rfl) ?_
    refine va_zald hx hb hK hP 1 0 rfl rfl (zin_lit ⟨by omega, by omega⟩) dX13_stands_13 ?_
    refine lv_topi (fun z13 e_z13 => ?_)
    have b_ : -2147483648 ≤ z13.toInt ∧ z13.toInt ≤ 2147483647 := ⟨zlo _, zhi _⟩
    refine lv_if_eq (tgt := 21) hx hb dX13_stands_14 (by decide) (fun c_ => ?_) (fun c_ => ?_)
    · skip
      have b_ := zT_eq rfl zk_0 c_
      refine lv_iconst (v := 0) hx hb dX13_stands_21 (by decide) ?_
      refine W.widen (k := 0) (n := 0) (by decide) (by decide) ?_
      have hpost : (0 ≤ (0 : Int32).toInt ∧ (0 : Int32).toInt ≤ 1) ∧ ((0 : Int32).toInt = 1 → (0 ≤ x1.toInt ∧ x1.toInt ≤ 119)) ∧ ((0 : Int32).toInt = 1 → x1.toInt < (v0 13).toInt) := ⟨⟨by omega, by omega⟩, by omega, by omega⟩
      have hP9 : va_P (dC, dI) vwCl [(h0, .inr (13, mX13 q0 v0)), ((q0 6), .inl (k5, 120, .inl f5))] H := hP
      have hD9 : va_D A [(h0, .inr (13, mX13 q0 v0)), ((q0 6), .inl (k5, 120, .inl f5))] := hD
      exact W.zret (v := 0) hx hb hr rfl (fun t ht hW => ⟨⟨0, (fun _ => 0), rfl, hpost, (fun _ => 0), (fun _ => (fun _ => 0)), (fun _ => (fun _ => 0)), by rw [ht]; exact hP9, va_K.moved hW.alike hK, hD9⟩, hS.F ht⟩) hS.2.2 dX13_stands_22
    · skip
      have b_ := zF_eq rfl zk_0 c_
      refine lv_iconst (v := 1) hx hb dX13_stands_17 (by decide) ?_
      refine lv_goto (tgt := 22) hx hb dX13_stands_18 (by decide) ?_
      refine W.widen (k := 0) (n := 0) (by decide) (by decide) ?_
      have hpost : (0 ≤ (1 : Int32).toInt ∧ (1 : Int32).toInt ≤ 1) ∧ ((1 : Int32).toInt = 1 → (0 ≤ x1.toInt ∧ x1.toInt ≤ 119)) ∧ ((1 : Int32).toInt = 1 → x1.toInt < (v0 13).toInt) := ⟨⟨by omega, by omega⟩, by omega, by omega⟩
      have hP9 : va_P (dC, dI) vwCl [(h0, .inr (13, mX13 q0 v0)), ((q0 6), .inl (k5, 120, .inl f5))] H := hP
      have hD9 : va_D A [(h0, .inr (13, mX13 q0 v0)), ((q0 6), .inl (k5, 120, .inl f5))] := hD
      exact W.zret (v := 1) hx hb hr rfl (fun t ht hW => ⟨⟨1, (fun _ => 0), rfl, hpost, (fun _ => 0), (fun _ => (fun _ => 0)), (fun _ => (fun _ => 0)), by rw [ht]; exact hP9, va_K.moved hW.alike hK, hD9⟩, hS.F ht⟩) hS.2.2 dX13_stands_22
set_option maxHeartbeats 8000000 in
set_option maxRecDepth 100000 in
theorem sX13_remove_0 (l : Launch) (dC : Nat → ClassId) (dI : Nat → Nat → Nat) (adK adV : Nat → Nat) (h0 : Nat) (q0 : Nat → Nat) (k5 : ClassId) (sz : Nat) (v0 : Nat → Int32) (f5 : Nat → Int32) (x1 : Int32) (hv0 : zR rg_Model v0) : Met l yX13_remove (zw yX13_remove cX13_remove 2 (some .boolean)) { frames := 2, cells := 0, slots := 0, locals := 42 } (zPc dC dI adK adV [.ref h0, .int x1] sz [(h0, .inr (13, mX13 q0 v0)), ((q0 6), .inl (k5, 120, .inl f5))] [(k5, .boolean)]) (va_Qi (fun (r : Int32) (u : Nat → Int32) => (0 ≤ r.toInt ∧ r.toInt ≤ 1) ∧ (0 ≤ (u 0).toInt ∧ (u 0).toInt ≤ 0)) (fun (u : Nat → Int32) (t : State) => ∃ (ww : Nat → Int64) (aa : Nat → Nat → Int32) (bb : Nat → Nat → Int64), va_P (dC, dI) vwCl [(h0, .inr (13, mX13 q0 (upd v0 21 (u 0)))), ((q0 6), .inl (k5, 120, .inl (aa 0)))] t.heap ∧ va_K (dC, dI) vwCl [(k5, .boolean)] t ∧ va_D (va_A [(h0, .inr (13, mX13 q0 v0)), ((q0 6), .inl (k5, 120, .inl f5))] sz) [(h0, .inr (13, mX13 q0 (upd v0 21 (u 0)))), ((q0 6), .inl (k5, 120, .inl (aa 0)))]) (va_A [(h0, .inr (13, mX13 q0 v0)), ((q0 6), .inl (k5, 120, .inl f5))] sz)) 0 0 (va_A [(h0, .inr (13, mX13 q0 v0)), ((q0 6), .inl (k5, 120, .inl f5))] sz) := by
  refine Met.ofW (cc := cX13_remove) (maxL := 2) (ret := (some .boolean)) (by decide) rfl ?_
  intro p e s m args below meth c s₁ B hml hv
  obtain ⟨rfl, hsz, hP, hK, hD0, hE, hZ⟩ := hv
  have hx := B.exec
  have hb := B.bytes
  have hr := B.returns
  have hG : ∀ w ∈ zG, w.before _ s = true := fun w h => atoms_spec (ws := (zw yX13_remove cX13_remove 2 (some .boolean))) B.pre w (List.mem_cons_of_mem _ h)
  have hown : s.vm.findClass RX13 = some m.cls := findClass_of_methodNamed B.named
  have hlocks := B.notSynchronized
  subst hsz
  have hD := hD0.self (sz := s.heap.size)
  generalize hAe : va_A [(h0, .inr (13, mX13 q0 v0)), ((q0 6), .inl (k5, 120, .inl f5))] s.heap.size = A at hD hZ ⊢
  have hA : ∀ q : Nat, s.heap.size ≤ q → A q := fun q h => by rw [← hAe]; exact Or.inr h
  have hS : va_S A s.heap s.heap [] := va_S.rf
  have hl := lv_entry ([.ref h0, .int x1]) (n := 2) (Nat.le_of_ble_eq_true rfl)
  rw [lg_entry_eq]
  generalize (lg_sl ([.ref h0, .int x1]) ++ List.replicate (2 - (lg_sl ([.ref h0, .int x1])).length) Slot.unset).toArray = ls at hl ⊢
  have hl : lv_has ls 2 [(0, .ref h0), (1, .int x1)] := hl
  have b_ := zk_0
  have b_ := zk_1
  refine lv_aload_n hx hb dX13_remove_0 rfl (lv_at hl 0 rfl) ?_
  refine lv_iconst (v := 0) hx hb dX13_remove_1 (by decide) ?_
  refine va_put (D := (dC, dI)) (ci := 13) (v := .int 0) (ty := .int) (C := RX13) (T := TX13) (N := 75) hx hb hG zuX13 tyX13 tyX13_ok nmX13 hown hK hP hD hS 0 rfl rfl 21 (by decide) (hG _ zw518) (fun _ h9 => h9) rfl (by decide +kernel) rfl rfl (Nat.le_of_ble_eq_true rfl) dX13_remove_2 (fun H locs hP hD hS => ?_)
  have hP : va_P (dC, dI) vwCl [(h0, .inr (13, mX13 q0 (upd v0 21 0))), ((q0 6), .inl (k5, 120, .inl f5))] H := hP
  have hD : va_D A [(h0, .inr (13, mX13 q0 (upd v0 21 0))), ((q0 6), .inl (k5, 120, .inl f5))] := hD
  refine lv_aload_n hx hb dX13_remove_5 rfl (lv_at hl 0 rfl) ?_
  refine lv_iload_n hx hb dX13_remove_6 rfl (lv_at hl 1 rfl) ?_
  have hPc := hP.sub (ws' := [(h0, .inr (13, mX13 q0 (upd v0 21 0))), ((q0 6), .inl (k5, 120, .inl f5))]) [0, 1] rfl
  have hDc := hD.sub (ws' := [(h0, .inr (13, mX13 q0 (upd v0 21 0))), ((q0 6), .inl (k5, 120, .inl f5))]) [0, 1] (by decide) rfl
  have hKc := hK.sub (tys' := [(k5, .boolean)]) [0] rfl
  have hFc := va_free (wc := [(h0, .inr (13, mX13 q0 (upd v0 21 0))), ((q0 6), .inl (k5, 120, .inl f5))]) hD hS hA [0, 1] rfl
  refine va_calli (va_runV (As := [.int x1]) (rest := []) ⟨hx, hb, hml, hown, hG⟩ (sX13_stands_0 l dC dI adK adV h0 q0 k5 H.size (upd v0 21 0) f5 x1 (zR_updF hv0 21 rfl)) (cwV 1 hG (zgV zw630 zw631 zw632 zw524 zw633) rfl rfl rfl (by decide +kernel) ⟨Nat.le_of_ble_eq_true rfl, Nat.le_of_ble_eq_true rfl⟩) ⟨zPc_blind, va_recv hKc hPc (ci := 13) (q0 := 0) rfl rfl, zPc_pre hPc hKc hDc hE hS hFc hZ⟩ rfl rfl hl.1 rfl (lv_room (Nat.le_of_ble_eq_true rfl)) dX13_remove_7 ⟨Nat.le_of_ble_eq_true rfl, Nat.le_of_ble_eq_true rfl⟩) hS (fun q _ h => hFc q h) hFc (fun r7_ u7_ t H1 locs ht hvm hw hB hz1 hk1 hS => ?_)
  have hw : (0 ≤ r7_.toInt ∧ r7_.toInt ≤ 1) ∧ (r7_.toInt = 1 → (0 ≤ x1.toInt ∧ x1.toInt ≤ 119)) ∧ (r7_.toInt = 1 → x1.toInt < (v0 13).toInt) := hw
  obtain ⟨b_, hX7_0, hX7_1⟩ := hw
  obtain ⟨w7_, a7_, b7_, hP1, hK1, hD1⟩ := hB
  rw [ht] at hP1
  obtain ⟨hP, hD⟩ := va_join (wr := []) (w1 := [(h0, .inr (13, mX13 q0 (upd v0 21 0))), ((q0 6), .inl (k5, 120, .inl f5))]) hP hD [0, 1] [] rfl rfl (by decide) (by decide) hk1 hFc hP1 hD1
  have hP : va_P (dC, dI) vwCl [(h0, .inr (13, mX13 q0 (upd v0 21 0))), ((q0 6), .inl (k5, 120, .inl f5))] H1 := hP.sub [0, 1] rfl
  have hD : va_D A [(h0, .inr (13, mX13 q0 (upd v0 21 0))), ((q0 6), .inl (k5, 120, .inl f5))] := hD.sub [0, 1] (by decide) rfl
  generalize H1 = H at hP hS ⊢
  clear hz1
  refine lv_if_ne (tgt := 15) hx hb dX13_remove_10 (by decide) (fun c_ => ?_) (fun c_ => ?_)
  · skip
    have b_ := zT_ne rfl zk_0 c_
    refine lv_aload_n hx hb dX13_remove_15 rfl (lv_at hl 0 rfl) ?_
    refine va_get (D := (dC, dI)) (ci := 13) (v := .ref (q0 6)) (C := RX13) (T := TX13) (N := 75) hx hb hG zuX13 hown hK hP 0 rfl rfl 6 (by decide) (hG _ zw590) (fun _ h9 => h9) rfl dX13_remove_16 ?_
    refine lv_iload_n hx hb dX13_remove_19 rfl (lv_at hl 1 rfl) ?_
    refine lv_iconst (v := 0) hx hb dX13_remove_20 (by decide) ?_
    refine va_zast hx hb hK hP hD hS 1 0 rfl rfl (zin_lit ⟨by omega, by omega⟩) dX13_remove_21 (fun H locs hP hD hS => ?_)
    obtain ⟨f_21, e_f_21⟩ : ∃ z : Nat → Int32, z = upd f5 (x1 : Int32).toNatClampNeg (vp_nar .boolean 0) := ⟨_, rfl⟩
    have hP : va_P (dC, dI) vwCl [(h0, .inr (13, mX13 q0 (upd v0 21 0))), ((q0 6), .inl (k5, 120, .inl f_21))] H := by rw [e_f_21]; exact hP
    have hD : va_D A [(h0, .inr (13, mX13 q0 (upd v0 21 0))), ((q0 6), .inl (k5, 120, .inl f_21))] := by rw [e_f_21]; exact hD
    refine lv_iconst (v := 1) hx hb dX13_remove_22 (by decide) ?_
    refine W.widen (k := 0) (n := 0) (by decide) (by decide) ?_
    have hpost : (0 ≤ (1 : Int32).toInt ∧ (1 : Int32).toInt ≤ 1) ∧ (0 ≤ (0 : Int32).toInt ∧ (0 : Int32).toInt ≤ 0) := ⟨⟨by omega, by omega⟩, ⟨by omega, by omega⟩⟩
    have hP9 : va_P (dC, dI) vwCl [(h0, .inr (13, mX13 q0 (upd v0 21 0))), ((q0 6), .inl (k5, 120, .inl f_21))] H := hP
    have hD9 : va_D A [(h0, .inr (13, mX13 q0 (upd v0 21 0))), ((q0 6), .inl (k5, 120, .inl f_21))] := hD
    exact W.zret (v := 1) hx hb hr rfl (fun t ht hW => ⟨⟨1, (fun i => ([0] : List (Int32)).getD i 0), rfl, hpost, (fun _ => 0), (fun i => ([f_21] : List (Nat → Int32)).getD i (fun _ => 0)), (fun _ => (fun _ => 0)), by rw [ht]; exact hP9, va_K.moved hW.alike hK, hD9⟩, hS.F ht⟩) hS.2.2 dX13_remove_23
  · skip
    have b_ := zF_ne rfl zk_0 c_
    refine lv_iconst (v := 0) hx hb dX13_remove_13 (by decide) ?_
    refine W.widen (k := 0) (n := 0) (by decide) (by decide) ?_
    have hpost : (0 ≤ (0 : Int32).toInt ∧ (0 : Int32).toInt ≤ 1) ∧ (0 ≤ (0 : Int32).toInt ∧ (0 : Int32).toInt ≤ 0) := ⟨⟨by omega, by omega⟩, ⟨by omega, by omega⟩⟩
    have hP9 : va_P (dC, dI) vwCl [(h0, .inr (13, mX13 q0 (upd v0 21 0))), ((q0 6), .inl (k5, 120, .inl f5))] H := hP
    have hD9 : va_D A [(h0, .inr (13, mX13 q0 (upd v0 21 0))), ((q0 6), .inl (k5, 120, .inl f5))] := hD
    exact W.zret (v := 0) hx hb hr rfl (fun t ht hW => ⟨⟨0, (fun i => ([0] : List (Int32)).getD i 0), rfl, hpost, (fun _ => 0), (fun i => ([f5] : List (Nat → Int32)).getD i (fun _ => 0)), (fun _ => (fun _ => 0)), by rw [ht]; exact hP9, va_K.moved hW.alike hK, hD9⟩, hS.F ht⟩) hS.2.2 dX13_remove_14
set_option maxHeartbeats 8000000 in
set_option maxRecDepth 100000 in
theorem sX13_mark_0 (l : Launch) (dC : Nat → ClassId) (dI : Nat → Nat → Nat) (adK adV : Nat → Nat) (h0 : Nat) (q0 : Nat → Nat) (k5 : ClassId) (k8 : ClassId) (sz : Nat) (v0 : Nat → Int32) (f5 : Nat → Int32) (f8 : Nat → Int32) (x1 : Int32) (x2 : Int32) (hv0 : zR rg_Model v0) : Met l yX13_mark (zw yX13_mark cX13_mark 3 (some .boolean)) { frames := 2, cells := 0, slots := 0, locals := 42 } (zPc dC dI adK adV [.ref h0, .int x1, .int x2] sz [(h0, .inr (13, mX13 q0 v0)), ((q0 6), .inl (k5, 120, .inl f5)), ((q0 9), .inl (k8, 120, .inl f8))] [(k5, .boolean), (k8, .int)]) (va_Qi (fun (r : Int32) (u : Nat → Int32) => (0 ≤ r.toInt ∧ r.toInt ≤ 1) ∧ (0 ≤ (u 0).toInt ∧ (u 0).toInt ≤ 0)) (fun (u : Nat → Int32) (t : State) => ∃ (ww : Nat → Int64) (aa : Nat → Nat → Int32) (bb : Nat → Nat → Int64), va_P (dC, dI) vwCl [(h0, .inr (13, mX13 q0 (upd v0 21 (u 0)))), ((q0 6), .inl (k5, 120, .inl f5)), ((q0 9), .inl (k8, 120, .inl (aa 0)))] t.heap ∧ va_K (dC, dI) vwCl [(k5, .boolean), (k8, .int)] t ∧ va_D (va_A [(h0, .inr (13, mX13 q0 v0)), ((q0 6), .inl (k5, 120, .inl f5)), ((q0 9), .inl (k8, 120, .inl f8))] sz) [(h0, .inr (13, mX13 q0 (upd v0 21 (u 0)))), ((q0 6), .inl (k5, 120, .inl f5)), ((q0 9), .inl (k8, 120, .inl (aa 0)))]) (va_A [(h0, .inr (13, mX13 q0 v0)), ((q0 6), .inl (k5, 120, .inl f5)), ((q0 9), .inl (k8, 120, .inl f8))] sz)) 0 0 (va_A [(h0, .inr (13, mX13 q0 v0)), ((q0 6), .inl (k5, 120, .inl f5)), ((q0 9), .inl (k8, 120, .inl f8))] sz) := by
  refine Met.ofW (cc := cX13_mark) (maxL := 3) (ret := (some .boolean)) (by decide) rfl ?_
  intro p e s m args below meth c s₁ B hml hv
  obtain ⟨rfl, hsz, hP, hK, hD0, hE, hZ⟩ := hv
  have hx := B.exec
  have hb := B.bytes
  have hr := B.returns
  have hG : ∀ w ∈ zG, w.before _ s = true := fun w h => atoms_spec (ws := (zw yX13_mark cX13_mark 3 (some .boolean))) B.pre w (List.mem_cons_of_mem _ h)
  have hown : s.vm.findClass RX13 = some m.cls := findClass_of_methodNamed B.named
  have hlocks := B.notSynchronized
  subst hsz
  have hD := hD0.self (sz := s.heap.size)
  generalize hAe : va_A [(h0, .inr (13, mX13 q0 v0)), ((q0 6), .inl (k5, 120, .inl f5)), ((q0 9), .inl (k8, 120, .inl f8))] s.heap.size = A at hD hZ ⊢
  have hA : ∀ q : Nat, s.heap.size ≤ q → A q := fun q h => by rw [← hAe]; exact Or.inr h
  have hS : va_S A s.heap s.heap [] := va_S.rf
  have hl := lv_entry ([.ref h0, .int x1, .int x2]) (n := 3) (Nat.le_of_ble_eq_true rfl)
  rw [lg_entry_eq]
  generalize (lg_sl ([.ref h0, .int x1, .int x2]) ++ List.replicate (3 - (lg_sl ([.ref h0, .int x1, .int x2])).length) Slot.unset).toArray = ls at hl ⊢
  have hl : lv_has ls 3 [(0, .ref h0), (1, .int x1), (2, .int x2)] := hl
  have b_ := zk_0
  have b_ := zk_1
  refine lv_aload_n hx hb dX13_mark_0 rfl (lv_at hl 0 rfl) ?_
  refine lv_iconst (v := 0) hx hb dX13_mark_1 (by decide) ?_
  refine va_put (D := (dC, dI)) (ci := 13) (v := .int 0) (ty := .int) (C := RX13) (T := TX13) (N := 75) hx hb hG zuX13 tyX13 tyX13_ok nmX13 hown hK hP hD hS 0 rfl rfl 21 (by decide) (hG _ zw518) (fun _ h9 => h9) rfl (by decide +kernel) rfl rfl (Nat.le_of_ble_eq_true rfl) dX13_mark_2 (fun H locs hP hD hS => ?_)
  have hP : va_P (dC, dI) vwCl [(h0, .inr (13, mX13 q0 (upd v0 21 0))), ((q0 6), .inl (k5, 120, .inl f5)), ((q0 9), .inl (k8, 120, .inl f8))] H := hP
  have hD : va_D A [(h0, .inr (13, mX13 q0 (upd v0 21 0))), ((q0 6), .inl (k5, 120, .inl f5)), ((q0 9), .inl (k8, 120, .inl f8))] := hD
  refine lv_aload_n hx hb dX13_mark_5 rfl (lv_at hl 0 rfl) ?_
  refine lv_iload_n hx hb dX13_mark_6 rfl (lv_at hl 1 rfl) ?_
  have hPc := hP.sub (ws' := [(h0, .inr (13, mX13 q0 (upd v0 21 0))), ((q0 6), .inl (k5, 120, .inl f5))]) [0, 1] rfl
  have hDc := hD.sub (ws' := [(h0, .inr (13, mX13 q0 (upd v0 21 0))), ((q0 6), .inl (k5, 120, .inl f5))]) [0, 1] (by decide) rfl
  have hKc := hK.sub (tys' := [(k5, .boolean)]) [0] rfl
  have hFc := va_free (wc := [(h0, .inr (13, mX13 q0 (upd v0 21 0))), ((q0 6), .inl (k5, 120, .inl f5))]) hD hS hA [0, 1] rfl
  refine va_calli (va_runV (As := [.int x1]) (rest := []) ⟨hx, hb, hml, hown, hG⟩ (sX13_stands_0 l dC dI adK adV h0 q0 k5 H.size (upd v0 21 0) f5 x1 (zR_updF hv0 21 rfl)) (cwV 1 hG (zgV zw630 zw631 zw632 zw524 zw633) rfl rfl rfl (by decide +kernel) ⟨Nat.le_of_ble_eq_true rfl, Nat.le_of_ble_eq_true rfl⟩) ⟨zPc_blind, va_recv hKc hPc (ci := 13) (q0 := 0) rfl rfl, zPc_pre hPc hKc hDc hE hS hFc hZ⟩ rfl rfl hl.1 rfl (lv_room (Nat.le_of_ble_eq_true rfl)) dX13_mark_7 ⟨Nat.le_of_ble_eq_true rfl, Nat.le_of_ble_eq_true rfl⟩) hS (fun q _ h => hFc q h) hFc (fun r7_ u7_ t H1 locs ht hvm hw hB hz1 hk1 hS => ?_)
  have hw : (0 ≤ r7_.toInt ∧ r7_.toInt ≤ 1) ∧ (r7_.toInt = 1 → (0 ≤ x1.toInt ∧ x1.toInt ≤ 119)) ∧ (r7_.toInt = 1 → x1.toInt < (v0 13).toInt) := hw
  obtain ⟨b_, hX7_0, hX7_1⟩ := hw
  obtain ⟨w7_, a7_, b7_, hP1, hK1, hD1⟩ := hB
  rw [ht] at hP1
  obtain ⟨hP, hD⟩ := va_join (wr := [((q0 9), .inl (k8, 120, .inl f8))]) (w1 := [(h0, .inr (13, mX13 q0 (upd v0 21 0))), ((q0 6), .inl (k5, 120, .inl f5))]) hP hD [0, 1] [2] rfl rfl (by decide) (by decide) hk1 hFc hP1 hD1
  have hP : va_P (dC, dI) vwCl [(h0, .inr (13, mX13 q0 (upd v0 21 0))), ((q0 6), .inl (k5, 120, .inl f5)), ((q0 9), .inl (k8, 120, .inl f8))] H1 := hP.sub [1, 2, 0] rfl
  have hD : va_D A [(h0, .inr (13, mX13 q0 (upd v0 21 0))), ((q0 6), .inl (k5, 120, .inl f5)), ((q0 9), .inl (k8, 120, .inl f8))] := hD.sub [1, 2, 0] (by decide) rfl
  generalize H1 = H at hP hS ⊢
  clear hz1
  refine lv_if_ne (tgt := 15) hx hb dX13_mark_10 (by decide) (fun c_ => ?_) (fun c_ => ?_)
  · skip
    have b_ := zT_ne rfl zk_0 c_
    refine lv_aload_n hx hb dX13_mark_15 rfl (lv_at hl 0 rfl) ?_
    refine va_get (D := (dC, dI)) (ci := 13) (v := .ref (q0 9)) (C := RX13) (T := TX13) (N := 75) hx hb hG zuX13 hown hK hP 0 rfl rfl 9 (by decide) (hG _ zw592) (fun _ h9 => h9) rfl dX13_mark_16 ?_
    refine lv_iload_n hx hb dX13_mark_19 rfl (lv_at hl 1 rfl) ?_
    refine lv_iload_n hx hb dX13_mark_20 rfl (lv_at hl 2 rfl) ?_
    refine va_iast hx hb hK hP hD hS 2 1 rfl rfl (zin_lit ⟨by omega, by omega⟩) dX13_mark_21 (fun H locs hP hD hS => ?_)
    obtain ⟨f_21, e_f_21⟩ : ∃ z : Nat → Int32, z = upd f8 (x1 : Int32).toNatClampNeg x2 := ⟨_, rfl⟩
    have hP : va_P (dC, dI) vwCl [(h0, .inr (13, mX13 q0 (upd v0 21 0))), ((q0 6), .inl (k5, 120, .inl f5)), ((q0 9), .inl (k8, 120, .inl f_21))] H := by rw [e_f_21]; exact hP
    have hD : va_D A [(h0, .inr (13, mX13 q0 (upd v0 21 0))), ((q0 6), .inl (k5, 120, .inl f5)), ((q0 9), .inl (k8, 120, .inl f_21))] := by rw [e_f_21]; exact hD
    refine lv_iconst (v := 1) hx hb dX13_mark_22 (by decide) ?_
    refine W.widen (k := 0) (n := 0) (by decide) (by decide) ?_
    have hpost : (0 ≤ (1 : Int32).toInt ∧ (1 : Int32).toInt ≤ 1) ∧ (0 ≤ (0 : Int32).toInt ∧ (0 : Int32).toInt ≤ 0) := ⟨⟨by omega, by omega⟩, ⟨by omega, by omega⟩⟩
    have hP9 : va_P (dC, dI) vwCl [(h0, .inr (13, mX13 q0 (upd v0 21 0))), ((q0 6), .inl (k5, 120, .inl f5)), ((q0 9), .inl (k8, 120, .inl f_21))] H := hP
    have hD9 : va_D A [(h0, .inr (13, mX13 q0 (upd v0 21 0))), ((q0 6), .inl (k5, 120, .inl f5)), ((q0 9), .inl (k8, 120, .inl f_21))] := hD
    exact W.zret (v := 1) hx hb hr rfl (fun t ht hW => ⟨⟨1, (fun i => ([0] : List (Int32)).getD i 0), rfl, hpost, (fun _ => 0), (fun i => ([f_21] : List (Nat → Int32)).getD i (fun _ => 0)), (fun _ => (fun _ => 0)), by rw [ht]; exact hP9, va_K.moved hW.alike hK, hD9⟩, hS.F ht⟩) hS.2.2 dX13_mark_23
  · skip
    have b_ := zF_ne rfl zk_0 c_
    refine lv_iconst (v := 0) hx hb dX13_mark_13 (by decide) ?_
    refine W.widen (k := 0) (n := 0) (by decide) (by decide) ?_
    have hpost : (0 ≤ (0 : Int32).toInt ∧ (0 : Int32).toInt ≤ 1) ∧ (0 ≤ (0 : Int32).toInt ∧ (0 : Int32).toInt ≤ 0) := ⟨⟨by omega, by omega⟩, ⟨by omega, by omega⟩⟩
    have hP9 : va_P (dC, dI) vwCl [(h0, .inr (13, mX13 q0 (upd v0 21 0))), ((q0 6), .inl (k5, 120, .inl f5)), ((q0 9), .inl (k8, 120, .inl f8))] H := hP
    have hD9 : va_D A [(h0, .inr (13, mX13 q0 (upd v0 21 0))), ((q0 6), .inl (k5, 120, .inl f5)), ((q0 9), .inl (k8, 120, .inl f8))] := hD
    exact W.zret (v := 0) hx hb hr rfl (fun t ht hW => ⟨⟨0, (fun i => ([0] : List (Int32)).getD i 0), rfl, hpost, (fun _ => 0), (fun i => ([f8] : List (Nat → Int32)).getD i (fun _ => 0)), (fun _ => (fun _ => 0)), by rw [ht]; exact hP9, va_K.moved hW.alike hK, hD9⟩, hS.F ht⟩) hS.2.2 dX13_mark_14
set_option maxHeartbeats 8000000 in
set_option maxRecDepth 100000 in
theorem sX13_drop_0 (l : Launch) (dC : Nat → ClassId) (dI : Nat → Nat → Nat) (adK adV : Nat → Nat) (h0 : Nat) (q0 : Nat → Nat) (k2 : ClassId) (k3 : ClassId) (k48 : ClassId) (k4 : ClassId) (sz : Nat) (v0 : Nat → Int32) (f2 : Nat → Int32) (f3 : Nat → Int32) (f48 : Nat → Int32) (f4 : Nat → Int32) (x1 : Int32) (hv0 : zR rg_Model v0) (hf3 : zA 0 12 f3) (hf4 : zA 0 400 f4) (hx1 : 0 ≤ x1.toInt ∧ x1.toInt ≤ 399) (hp0_ : 1 ≤ (v0 4).toInt) : Met l yX13_drop (zw yX13_drop cX13_drop 4 none) { frames := 0, cells := 0, slots := 0, locals := 0 } (zPc dC dI adK adV [.ref h0, .int x1] sz [(h0, .inr (13, mX13 q0 v0)), ((q0 2), .inl (k2, 4800, .inl f2)), ((q0 3), .inl (k3, 400, .inl f3)), ((q0 73), .inl (k48, 400, .inl f48)), ((q0 5), .inl (k4, 122880, .inl f4))] [(k2, .byte), (k3, .int), (k48, .int), (k4, .short)]) (va_Qv (fun (u : Nat → Int32) => (0 ≤ (u 0).toInt ∧ (u 0).toInt ≤ 399) ∧ (0 ≤ (u 1).toInt ∧ (u 1).toInt ≤ 0) ∧ ((u 0).toInt = (v0 4).toInt - 1)) (fun (u : Nat → Int32) (t : State) => ∃ (ww : Nat → Int64) (aa : Nat → Nat → Int32) (bb : Nat → Nat → Int64), zA 0 12 (aa 1) ∧ zA 0 400 (aa 3) ∧ va_P (dC, dI) vwCl [(h0, .inr (13, mX13 q0 (upd (upd v0 4 (u 0)) 30 (u 1)))), ((q0 2), .inl (k2, 4800, .inl (aa 0))), ((q0 3), .inl (k3, 400, .inl (aa 1))), ((q0 73), .inl (k48, 400, .inl (aa 2))), ((q0 5), .inl (k4, 122880, .inl (aa 3)))] t.heap ∧ va_K (dC, dI) vwCl [(k2, .byte), (k3, .int), (k48, .int), (k4, .short)] t ∧ va_D (va_A [(h0, .inr (13, mX13 q0 v0)), ((q0 2), .inl (k2, 4800, .inl f2)), ((q0 3), .inl (k3, 400, .inl f3)), ((q0 73), .inl (k48, 400, .inl f48)), ((q0 5), .inl (k4, 122880, .inl f4))] sz) [(h0, .inr (13, mX13 q0 (upd (upd v0 4 (u 0)) 30 (u 1)))), ((q0 2), .inl (k2, 4800, .inl (aa 0))), ((q0 3), .inl (k3, 400, .inl (aa 1))), ((q0 73), .inl (k48, 400, .inl (aa 2))), ((q0 5), .inl (k4, 122880, .inl (aa 3)))]) (va_A [(h0, .inr (13, mX13 q0 v0)), ((q0 2), .inl (k2, 4800, .inl f2)), ((q0 3), .inl (k3, 400, .inl f3)), ((q0 73), .inl (k48, 400, .inl f48)), ((q0 5), .inl (k4, 122880, .inl f4))] sz)) 0 0 (va_A [(h0, .inr (13, mX13 q0 v0)), ((q0 2), .inl (k2, 4800, .inl f2)), ((q0 3), .inl (k3, 400, .inl f3)), ((q0 73), .inl (k48, 400, .inl f48)), ((q0 5), .inl (k4, 122880, .inl f4))] sz) := by
  refine Met.ofW (cc := cX13_drop) (maxL := 4) (ret := none) (by decide) rfl ?_
  intro p e s m args below meth c s₁ B hml hv
  obtain ⟨rfl, hsz, hP, hK, hD0, hE, hZ⟩ := hv
  have hx := B.exec
  have hb := B.bytes
  have hr := B.returns
  have hG : ∀ w ∈ zG, w.before _ s = true := fun w h => atoms_spec (ws := (zw yX13_drop cX13_drop 4 none)) B.pre w (List.mem_cons_of_mem _ h)
  have hown : s.vm.findClass RX13 = some m.cls := findClass_of_methodNamed B.named
  have hlocks := B.notSynchronized
  subst hsz
  have hD := hD0.self (sz := s.heap.size)
  generalize hAe : va_A [(h0, .inr (13, mX13 q0 v0)), ((q0 2), .inl (k2, 4800, .inl f2)), ((q0 3), .inl (k3, 400, .inl f3)), ((q0 73), .inl (k48, 400, .inl f48)), ((q0 5), .inl (k4, 122880, .inl f4))] s.heap.size = A at hD hZ ⊢
  have hA : ∀ q : Nat, s.heap.size ≤ q → A q := fun q h => by rw [← hAe]; exact Or.inr h
  have hS : va_S A s.heap s.heap [] := va_S.rf
  have hl := lv_entry ([.ref h0, .int x1]) (n := 4) (Nat.le_of_ble_eq_true rfl)
  rw [lg_entry_eq]
  generalize (lg_sl ([.ref h0, .int x1]) ++ List.replicate (4 - (lg_sl ([.ref h0, .int x1])).length) Slot.unset).toArray = ls at hl ⊢
  have hl : lv_has ls 4 [(0, .ref h0), (1, .int x1)] := hl
  have b_ := zk_0
  have b_ : 0 ≤ (v0 4).toInt ∧ (v0 4).toInt ≤ 400 := hv0 4
  refine lv_aload_n hx hb dX13_drop_0 rfl (lv_at hl 0 rfl) ?_
  refine va_get (D := (dC, dI)) (ci := 13) (v := .int (v0 4)) (C := RX13) (T := TX13) (N := 75) hx hb hG zuX13 hown hK hP 0 rfl rfl 4 (by decide) (hG _ zw551) (fun _ h9 => h9) rfl dX13_drop_1 ?_
  refine lv_iconst (v := 1) hx hb dX13_drop_4 (by decide) ?_
  refine lv_isub hx hb dX13_drop_5 ?_
  refine lv_topi (fun z5 e_z5 => ?_)
  have b_ := zsub rfl zk_1 e_z5 (by omega) (by omega)
  refine lv_istore_n (lv' := [(2, .int z5), (0, .ref h0), (1, .int x1)]) hx hb dX13_drop_6 rfl hl (by decide) rfl (fun ls hl => ?_)
  refine lv_iconst (v := 0) hx hb dX13_drop_7 (by decide) ?_
  refine lv_istore_n (lv' := [(3, .int 0), (2, .int z5), (0, .ref h0), (1, .int x1)]) hx hb dX13_drop_8 rfl hl (by decide) rfl (fun ls hl => ?_)
  refine zcutL (fun u9_ => (12 - (u9_ 0).toInt).toNat) (fun H locs ls u9_ w9_ a9_ b9_ => va_P (dC, dI) vwCl [(h0, .inr (13, mX13 q0 v0)), ((q0 2), .inl (k2, 4800, .inl (a9_ 0))), ((q0 3), .inl (k3, 400, .inl f3)), ((q0 73), .inl (k48, 400, .inl f48)), ((q0 5), .inl (k4, 122880, .inl f4))] H ∧ va_D A [(h0, .inr (13, mX13 q0 v0)), ((q0 2), .inl (k2, 4800, .inl (a9_ 0))), ((q0 3), .inl (k3, 400, .inl f3)), ((q0 73), .inl (k48, 400, .inl f48)), ((q0 5), .inl (k4, 122880, .inl f4))] ∧ va_S A s.heap H locs ∧ lv_has ls 4 [(0, .ref h0), (1, .int x1), (2, .int z5), (3, .int (u9_ 0))] ∧ (0 ≤ (u9_ 0).toInt ∧ (u9_ 0).toInt ≤ 12)) (fun ls u9_ w9_ => F0 m 9 ls []) 0 0 ?_ (fun hJ9 => ?_)
  · skip
    intro H locs ls u9_ w9_ a9_ b9_ hc hJ9
    obtain ⟨hP, hD, hS, hl, b_⟩ := hc
    refine lv_iload_n hx hb dX13_drop_9 rfl (lv_at hl 3 rfl) ?_
    refine lv_bipush (v := 12) hx hb dX13_drop_10 (by decide) ?_
    refine lv_icmp_ge (tgt := 43) hx hb dX13_drop_12 (by decide) (fun c_ => ?_) (fun c_ => ?_)
    · skip
      have b_ := zT_ge rfl zk_12 c_
      refine lv_aload_n hx hb dX13_drop_43 rfl (lv_at hl 0 rfl) ?_
      refine va_get (D := (dC, dI)) (ci := 13) (v := .ref (q0 3)) (C := RX13) (T := TX13) (N := 75) hx hb hG zuX13 hown hK hP 0 rfl rfl 3 (by decide) (hG _ zw553) (fun _ h9 => h9) rfl dX13_drop_44 ?_
      refine lv_iload_n hx hb dX13_drop_47 rfl (lv_at hl 1 rfl) ?_
      refine lv_aload_n hx hb dX13_drop_48 rfl (lv_at hl 0 rfl) ?_
      refine va_get (D := (dC, dI)) (ci := 13) (v := .ref (q0 3)) (C := RX13) (T := TX13) (N := 75) hx hb hG zuX13 hown hK hP 0 rfl rfl 3 (by decide) (hG _ zw553) (fun _ h9 => h9) rfl dX13_drop_49 ?_
      refine lv_iload_n hx hb dX13_drop_52 rfl (lv_at hl 2 rfl) ?_
      refine va_iald hx hb hK hP 2 1 rfl rfl (zin_lit ⟨by omega, by omega⟩) dX13_drop_53 ?_
      refine lv_topi (fun z53 e_z53 => ?_)
      have b_ : 0 ≤ z53.toInt ∧ z53.toInt ≤ 12 := by rw [e_z53]; exact hf3 _
      refine va_iast hx hb hK hP hD hS 2 1 rfl rfl (zin_lit ⟨by omega, by omega⟩) dX13_drop_54 (fun H locs hP hD hS => ?_)
      obtain ⟨f_54, e_f_54⟩ : ∃ z : Nat → Int32, z = upd f3 (x1 : Int32).toNatClampNeg z53 := ⟨_, rfl⟩
      have hP : va_P (dC, dI) vwCl [(h0, .inr (13, mX13 q0 v0)), ((q0 2), .inl (k2, 4800, .inl (a9_ 0))), ((q0 3), .inl (k3, 400, .inl f_54)), ((q0 73), .inl (k48, 400, .inl f48)), ((q0 5), .inl (k4, 122880, .inl f4))] H := by rw [e_f_54]; exact hP
      have hD : va_D A [(h0, .inr (13, mX13 q0 v0)), ((q0 2), .inl (k2, 4800, .inl (a9_ 0))), ((q0 3), .inl (k3, 400, .inl f_54)), ((q0 73), .inl (k48, 400, .inl f48)), ((q0 5), .inl (k4, 122880, .inl f4))] := by rw [e_f_54]; exact hD
      have hf_54 : zA 0 12 f_54 := by rw [e_f_54]; exact zA_upd hf3 (show 0 ≤ (z53 : Int32).toInt from by omega) (show (z53 : Int32).toInt ≤ 12 from by omega)
      refine lv_aload_n hx hb dX13_drop_55 rfl (lv_at hl 0 rfl) ?_
      refine va_get (D := (dC, dI)) (ci := 13) (v := .ref (q0 73)) (C := RX13) (T := TX13) (N := 75) hx hb hG zuX13 hown hK hP 0 rfl rfl 73 (by decide) (hG _ zw634) (fun _ h9 => h9) rfl dX13_drop_56 ?_
      refine lv_iload_n hx hb dX13_drop_59 rfl (lv_at hl 1 rfl) ?_
      refine lv_aload_n hx hb dX13_drop_60 rfl (lv_at hl 0 rfl) ?_
      refine va_get (D := (dC, dI)) (ci := 13) (v := .ref (q0 73)) (C := RX13) (T := TX13) (N := 75) hx hb hG zuX13 hown hK hP 0 rfl rfl 73 (by decide) (hG _ zw634) (fun _ h9 => h9) rfl dX13_drop_61 ?_
      refine lv_iload_n hx hb dX13_drop_64 rfl (lv_at hl 2 rfl) ?_
      refine va_iald hx hb hK hP 3 2 rfl rfl (zin_lit ⟨by omega, by omega⟩) dX13_drop_65 ?_
      refine lv_topi (fun z65 e_z65 => ?_)
      refine va_iast hx hb hK hP hD hS 3 2 rfl rfl (zin_lit ⟨by omega, by omega⟩) dX13_drop_66 (fun H locs hP hD hS => ?_)
      obtain ⟨f_66, e_f_66⟩ : ∃ z : Nat → Int32, z = upd f48 (x1 : Int32).toNatClampNeg z65 := ⟨_, rfl⟩
      have hP : va_P (dC, dI) vwCl [(h0, .inr (13, mX13 q0 v0)), ((q0 2), .inl (k2, 4800, .inl (a9_ 0))), ((q0 3), .inl (k3, 400, .inl f_54)), ((q0 73), .inl (k48, 400, .inl f_66)), ((q0 5), .inl (k4, 122880, .inl f4))] H := by rw [e_f_66]; exact hP
      have hD : va_D A [(h0, .inr (13, mX13 q0 v0)), ((q0 2), .inl (k2, 4800, .inl (a9_ 0))), ((q0 3), .inl (k3, 400, .inl f_54)), ((q0 73), .inl (k48, 400, .inl f_66)), ((q0 5), .inl (k4, 122880, .inl f4))] := by rw [e_f_66]; exact hD
      refine lv_iconst (v := 0) hx hb dX13_drop_67 (by decide) ?_
      refine lv_istore_n (lv' := [(3, .int 0), (0, .ref h0), (1, .int x1), (2, .int z5)]) hx hb dX13_drop_68 rfl hl (by decide) rfl (fun ls hl => ?_)
      refine zcutL (fun u69_ => (122880 - (u69_ 0).toInt).toNat) (fun H locs ls u69_ w69_ a69_ b69_ => va_P (dC, dI) vwCl [(h0, .inr (13, mX13 q0 v0)), ((q0 2), .inl (k2, 4800, .inl (a9_ 0))), ((q0 3), .inl (k3, 400, .inl f_54)), ((q0 73), .inl (k48, 400, .inl f_66)), ((q0 5), .inl (k4, 122880, .inl (a69_ 0)))] H ∧ va_D A [(h0, .inr (13, mX13 q0 v0)), ((q0 2), .inl (k2, 4800, .inl (a9_ 0))), ((q0 3), .inl (k3, 400, .inl f_54)), ((q0 73), .inl (k48, 400, .inl f_66)), ((q0 5), .inl (k4, 122880, .inl (a69_ 0)))] ∧ va_S A s.heap H locs ∧ lv_has ls 4 [(0, .ref h0), (1, .int x1), (2, .int z5), (3, .int (u69_ 0))] ∧ zA 0 400 (a69_ 0) ∧ (0 ≤ (u69_ 0).toInt ∧ (u69_ 0).toInt ≤ 122880)) (fun ls u69_ w69_ => F0 m 69 ls []) 0 0 ?_ (fun hJ69 => ?_)
      · skip
        intro H locs ls u69_ w69_ a69_ b69_ hc hJ69
        obtain ⟨hP, hD, hS, hl, ha69_0, b_⟩ := hc
        refine lv_iload_n hx hb dX13_drop_69 rfl (lv_at hl 3 rfl) ?_
        refine lv_sipush (v := 1024) hx hb dX13_drop_70 (by decide) ?_
        refine lv_aload_n hx hb dX13_drop_73 rfl (lv_at hl 0 rfl) ?_
        have b_ : 0 ≤ (v0 13).toInt ∧ (v0 13).toInt ≤ 120 := hv0 13
        refine va_get (D := (dC, dI)) (ci := 13) (v := .int (v0 13)) (C := RX13) (T := TX13) (N := 75) hx hb hG zuX13 hown hK hP 0 rfl rfl 13 (by decide) (hG _ zw565) (fun _ h9 => h9) rfl dX13_drop_74 ?_
        refine lv_imul hx hb dX13_drop_77 ?_
        refine lv_topi (fun z77 e_z77 => ?_)
        have b_ := zmul zk_1024 rfl e_z77 (by omega) (by omega)
        refine lv_icmp_ge (tgt := 109) hx hb dX13_drop_78 (by decide) (fun c_ => ?_) (fun c_ => ?_)
        · skip
          have b_ := zT_ge rfl rfl c_
          refine lv_aload_n hx hb dX13_drop_109 rfl (lv_at hl 0 rfl) ?_
          refine lv_dup hx hb dX13_drop_110 rfl ?_
          refine va_get (D := (dC, dI)) (ci := 13) (v := .int (v0 4)) (C := RX13) (T := TX13) (N := 75) hx hb hG zuX13 hown hK hP 0 rfl rfl 4 (by decide) (hG _ zw551) (fun _ h9 => h9) rfl dX13_drop_111 ?_
          refine lv_iconst (v := 1) hx hb dX13_drop_114 (by decide) ?_
          refine lv_isub hx hb dX13_drop_115 ?_
          refine lv_topi (fun z115 e_z115 => ?_)
          have b_ := zsub rfl zk_1 e_z115 (by omega) (by omega)
          have b_ : 0 ≤ z115.toInt ∧ z115.toInt ≤ 400 := ⟨by omega, by omega⟩
          refine va_put (D := (dC, dI)) (ci := 13) (v := .int z115) (ty := .int) (C := RX13) (T := TX13) (N := 75) hx hb hG zuX13 tyX13 tyX13_ok nmX13 hown hK hP hD hS 0 rfl rfl 4 (by decide) (hG _ zw551) (fun _ h9 => h9) rfl (by decide +kernel) rfl rfl (Nat.le_of_ble_eq_true rfl) dX13_drop_116 (fun H locs hP hD hS => ?_)
          have hP : va_P (dC, dI) vwCl [(h0, .inr (13, mX13 q0 (upd v0 4 z115))), ((q0 2), .inl (k2, 4800, .inl (a9_ 0))), ((q0 3), .inl (k3, 400, .inl f_54)), ((q0 73), .inl (k48, 400, .inl f_66)), ((q0 5), .inl (k4, 122880, .inl (a69_ 0)))] H := hP
          have hD : va_D A [(h0, .inr (13, mX13 q0 (upd v0 4 z115))), ((q0 2), .inl (k2, 4800, .inl (a9_ 0))), ((q0 3), .inl (k3, 400, .inl f_54)), ((q0 73), .inl (k48, 400, .inl f_66)), ((q0 5), .inl (k4, 122880, .inl (a69_ 0)))] := hD
          refine lv_aload_n hx hb dX13_drop_119 rfl (lv_at hl 0 rfl) ?_
          refine lv_iconst (v := 0) hx hb dX13_drop_120 (by decide) ?_
          refine va_put (D := (dC, dI)) (ci := 13) (v := .int 0) (ty := .boolean) (C := RX13) (T := TX13) (N := 75) hx hb hG zuX13 tyX13 tyX13_ok nmX13 hown hK hP hD hS 0 rfl rfl 30 (by decide) (hG _ zw568) (fun _ h9 => h9) rfl (by decide +kernel) rfl rfl (Nat.le_of_ble_eq_true rfl) dX13_drop_121 (fun H locs hP hD hS => ?_)
          have hP : va_P (dC, dI) vwCl [(h0, .inr (13, mX13 q0 (upd (upd v0 4 z115) 30 0))), ((q0 2), .inl (k2, 4800, .inl (a9_ 0))), ((q0 3), .inl (k3, 400, .inl f_54)), ((q0 73), .inl (k48, 400, .inl f_66)), ((q0 5), .inl (k4, 122880, .inl (a69_ 0)))] H := hP
          have hD : va_D A [(h0, .inr (13, mX13 q0 (upd (upd v0 4 z115) 30 0))), ((q0 2), .inl (k2, 4800, .inl (a9_ 0))), ((q0 3), .inl (k3, 400, .inl f_54)), ((q0 73), .inl (k48, 400, .inl f_66)), ((q0 5), .inl (k4, 122880, .inl (a69_ 0)))] := hD
          refine W.widen (k := 0) (n := 0) (by decide) (by decide) ?_
          have hpost : (0 ≤ z115.toInt ∧ z115.toInt ≤ 399) ∧ (0 ≤ (0 : Int32).toInt ∧ (0 : Int32).toInt ≤ 0) ∧ (z115.toInt = (v0 4).toInt - 1) := ⟨⟨by omega, by omega⟩, ⟨by omega, by omega⟩, by omega⟩
          have hP9 : va_P (dC, dI) vwCl [(h0, .inr (13, mX13 q0 (upd (upd v0 4 z115) 30 0))), ((q0 2), .inl (k2, 4800, .inl (a9_ 0))), ((q0 3), .inl (k3, 400, .inl f_54)), ((q0 73), .inl (k48, 400, .inl f_66)), ((q0 5), .inl (k4, 122880, .inl (a69_ 0)))] H := hP
          have hD9 : va_D A [(h0, .inr (13, mX13 q0 (upd (upd v0 4 z115) 30 0))), ((q0 2), .inl (k2, 4800, .inl (a9_ 0))), ((q0 3), .inl (k3, 400, .inl f_54)), ((q0 73), .inl (k48, 400, .inl f_66)), ((q0 5), .inl (k4, 122880, .inl (a69_ 0)))] := hD
          exact W.vret hx hb hr (fun t ht hW => ⟨⟨(fun i => ([z115, 0] : List (Int32)).getD i 0), rfl, hpost, (fun _ => 0), (fun i => ([(a9_ 0), f_54, f_66, (a69_ 0)] : List (Nat → Int32)).getD i (fun _ => 0)), (fun _ => (fun _ => 0)), hf_54, ha69_0, by rw [ht]; exact hP9, va_K.moved hW.alike hK, hD9⟩, hS.F ht⟩) hS.2.2 dX13_drop_124
        · skip
          have b_ := zF_ge rfl rfl c_
          refine lv_aload_n hx hb dX13_drop_81 rfl (lv_at hl 0 rfl) ?_
          refine va_get (D := (dC, dI)) (ci := 13) (v := .ref (q0 5)) (C := RX13) (T := TX13) (N := 75) hx hb hG zuX13 hown hK hP 0 rfl rfl 5 (by decide) (hG _ zw567) (fun _ h9 => h9) rfl dX13_drop_82 ?_
          refine lv_iload_n hx hb dX13_drop_85 rfl (lv_at hl 3 rfl) ?_
          refine va_sald hx hb hK hP 4 3 rfl rfl (zin_lit ⟨by omega, by omega⟩) dX13_drop_86 ?_
          refine lv_topi (fun z86 e_z86 => ?_)
          have b_ : 0 ≤ z86.toInt ∧ z86.toInt ≤ 400 := by rw [e_z86]; exact ha69_0 _
          refine lv_iload_n hx hb dX13_drop_87 rfl (lv_at hl 2 rfl) ?_
          refine lv_iconst (v := 1) hx hb dX13_drop_88 (by decide) ?_
          refine lv_iadd hx hb dX13_drop_89 ?_
          refine lv_topi (fun z89 e_z89 => ?_)
          have b_ := zadd rfl zk_1 e_z89 (by omega) (by omega)
          refine lv_icmp_ne (tgt := 103) hx hb dX13_drop_90 (by decide) (fun c_ => ?_) (fun c_ => ?_)
          · skip
            have b_ := zT_ne rfl rfl c_
            obtain ⟨z103, e_z103⟩ : ∃ z : Int32, z = (u69_ 0) + Int32.ofInt 1 := ⟨_, rfl⟩
            have b_ := zadd (x := (u69_ 0)) (y := Int32.ofInt 1) rfl (show (Int32.ofInt 1).toInt = 1 from by decide) e_z103 (by omega) (by omega)
            refine lv_iinc (v := z103) (lv' := [(3, .int z103), (0, .ref h0), (1, .int x1), (2, .int z5)]) hx hb dX13_drop_103 hl (k := 3) rfl e_z103.symm (by decide) rfl (fun ls hl => ?_)
            refine lv_goto (tgt := 69) hx hb dX13_drop_106 (by decide) ?_
            have hc : va_P (dC, dI) vwCl [(h0, .inr (13, mX13 q0 v0)), ((q0 2), .inl (k2, 4800, .inl (a9_ 0))), ((q0 3), .inl (k3, 400, .inl f_54)), ((q0 73), .inl (k48, 400, .inl f_66)), ((q0 5), .inl (k4, 122880, .inl (a69_ 0)))] H ∧ va_D A [(h0, .inr (13, mX13 q0 v0)), ((q0 2), .inl (k2, 4800, .inl (a9_ 0))), ((q0 3), .inl (k3, 400, .inl f_54)), ((q0 73), .inl (k48, 400, .inl f_66)), ((q0 5), .inl (k4, 122880, .inl (a69_ 0)))] ∧ va_S A s.heap H locs ∧ lv_has ls 4 [(0, .ref h0), (1, .int x1), (2, .int z5), (3, .int z103)] ∧ zA 0 400 (a69_ 0) ∧ (0 ≤ z103.toInt ∧ z103.toInt ≤ 122880) := ⟨hP, hD, hS, lv_sub hl [1, 2, 3, 0] rfl, ha69_0, ⟨by omega, by omega⟩⟩
            exact hJ69 H locs ls (fun i => ([z103] : List (Int32)).getD i 0) (fun _ => 0) (fun i => ([(a69_ 0)] : List (Nat → Int32)).getD i (fun _ => 0)) (fun _ => (fun _ => 0)) hc (show (122880 - z103.toInt).toNat < (122880 - (u69_ 0).toInt).toNat from by omega)
          · skip
            have b_ := zF_ne rfl rfl c_
            refine lv_aload_n hx hb dX13_drop_93 rfl (lv_at hl 0 rfl) ?_
            refine va_get (D := (dC, dI)) (ci := 13) (v := .ref (q0 5)) (C := RX13) (T := TX13) (N := 75) hx hb hG zuX13 hown hK hP 0 rfl rfl 5 (by decide) (hG _ zw567) (fun _ h9 => h9) rfl dX13_drop_94 ?_
            refine lv_iload_n hx hb dX13_drop_97 rfl (lv_at hl 3 rfl) ?_
            refine lv_iload_n hx hb dX13_drop_98 rfl (lv_at hl 1 rfl) ?_
            refine lv_iconst (v := 1) hx hb dX13_drop_99 (by decide) ?_
            refine lv_iadd hx hb dX13_drop_100 ?_
            refine lv_topi (fun z100 e_z100 => ?_)
            have b_ := zadd rfl zk_1 e_z100 (by omega) (by omega)
            refine lv_i2s hx hb dX13_drop_101 rfl ?_
            refine lv_topi (fun z101 e_z101 => ?_)
            have b_ := zi2s rfl e_z101 (by omega) (by omega)
            refine va_sast hx hb hK hP hD hS 4 3 rfl rfl (zin_lit ⟨by omega, by omega⟩) dX13_drop_102 (fun H locs hP hD hS => ?_)
            obtain ⟨f_102, e_f_102⟩ : ∃ z : Nat → Int32, z = upd (a69_ 0) ((u69_ 0) : Int32).toNatClampNeg (vp_nar .short z101) := ⟨_, rfl⟩
            have hP : va_P (dC, dI) vwCl [(h0, .inr (13, mX13 q0 v0)), ((q0 2), .inl (k2, 4800, .inl (a9_ 0))), ((q0 3), .inl (k3, 400, .inl f_54)), ((q0 73), .inl (k48, 400, .inl f_66)), ((q0 5), .inl (k4, 122880, .inl f_102))] H := by rw [e_f_102]; exact hP
            have hD : va_D A [(h0, .inr (13, mX13 q0 v0)), ((q0 2), .inl (k2, 4800, .inl (a9_ 0))), ((q0 3), .inl (k3, 400, .inl f_54)), ((q0 73), .inl (k48, 400, .inl f_66)), ((q0 5), .inl (k4, 122880, .inl f_102))] := by rw [e_f_102]; exact hD
            have hf_102 : zA 0 400 f_102 := by rw [e_f_102]; exact zA_updS ha69_0 (show 0 ≤ (z101 : Int32).toInt from by omega) (show (z101 : Int32).toInt ≤ 400 from by omega)
            obtain ⟨z103, e_z103⟩ : ∃ z : Int32, z = (u69_ 0) + Int32.ofInt 1 := ⟨_, rfl⟩
            have b_ := zadd (x := (u69_ 0)) (y := Int32.ofInt 1) rfl (show (Int32.ofInt 1).toInt = 1 from by decide) e_z103 (by omega) (by omega)
            refine lv_iinc (v := z103) (lv' := [(3, .int z103), (0, .ref h0), (1, .int x1), (2, .int z5)]) hx hb dX13_drop_103 hl (k := 3) rfl e_z103.symm (by decide) rfl (fun ls hl => ?_)
            refine lv_goto (tgt := 69) hx hb dX13_drop_106 (by decide) ?_
            have hc : va_P (dC, dI) vwCl [(h0, .inr (13, mX13 q0 v0)), ((q0 2), .inl (k2, 4800, .inl (a9_ 0))), ((q0 3), .inl (k3, 400, .inl f_54)), ((q0 73), .inl (k48, 400, .inl f_66)), ((q0 5), .inl (k4, 122880, .inl f_102))] H ∧ va_D A [(h0, .inr (13, mX13 q0 v0)), ((q0 2), .inl (k2, 4800, .inl (a9_ 0))), ((q0 3), .inl (k3, 400, .inl f_54)), ((q0 73), .inl (k48, 400, .inl f_66)), ((q0 5), .inl (k4, 122880, .inl f_102))] ∧ va_S A s.heap H locs ∧ lv_has ls 4 [(0, .ref h0), (1, .int x1), (2, .int z5), (3, .int z103)] ∧ zA 0 400 f_102 ∧ (0 ≤ z103.toInt ∧ z103.toInt ≤ 122880) := ⟨hP, hD, hS, lv_sub hl [1, 2, 3, 0] rfl, hf_102, ⟨by omega, by omega⟩⟩
            exact hJ69 H locs ls (fun i => ([z103] : List (Int32)).getD i 0) (fun _ => 0) (fun i => ([f_102] : List (Nat → Int32)).getD i (fun _ => 0)) (fun _ => (fun _ => 0)) hc (show (122880 - z103.toInt).toNat < (122880 - (u69_ 0).toInt).toNat from by omega)
      · skip
        have hc : va_P (dC, dI) vwCl [(h0, .inr (13, mX13 q0 v0)), ((q0 2), .inl (k2, 4800, .inl (a9_ 0))), ((q0 3), .inl (k3, 400, .inl f_54)), ((q0 73), .inl (k48, 400, .inl f_66)), ((q0 5), .inl (k4, 122880, .inl f4))] H ∧ va_D A [(h0, .inr (13, mX13 q0 v0)), ((q0 2), .inl (k2, 4800, .inl (a9_ 0))), ((q0 3), .inl (k3, 400, .inl f_54)), ((q0 73), .inl (k48, 400, .inl f_66)), ((q0 5), .inl (k4, 122880, .inl f4))] ∧ va_S A s.heap H locs ∧ lv_has ls 4 [(0, .ref h0), (1, .int x1), (2, .int z5), (3, .int 0)] ∧ zA 0 400 f4 ∧ (0 ≤ (0 : Int32).toInt ∧ (0 : Int32).toInt ≤ 122880) := ⟨hP, hD, hS, lv_sub hl [1, 2, 3, 0] rfl, hf4, ⟨by omega, by omega⟩⟩
        exact hJ69 H locs ls (fun i => ([0] : List (Int32)).getD i 0) (fun _ => 0) (fun i => ([f4] : List (Nat → Int32)).getD i (fun _ => 0)) (fun _ => (fun _ => 0)) hc
    · skip
      have b_ := zF_ge rfl zk_12 c_
      refine lv_aload_n hx hb dX13_drop_15 rfl (lv_at hl 0 rfl) ?_
      refine va_get (D := (dC, dI)) (ci := 13) (v := .ref (q0 2)) (C := RX13) (T := TX13) (N := 75) hx hb hG zuX13 hown hK hP 0 rfl rfl 2 (by decide) (hG _ zw552) (fun _ h9 => h9) rfl dX13_drop_16 ?_
      refine lv_bipush (v := 12) hx hb dX13_drop_19 (by decide) ?_
      refine lv_iload_n hx hb dX13_drop_21 rfl (lv_at hl 1 rfl) ?_
      refine lv_imul hx hb dX13_drop_22 ?_
      refine lv_topi (fun z22 e_z22 => ?_)
      have b_ := zmul zk_12 rfl e_z22 (by omega) (by omega)
      refine lv_iload_n hx hb dX13_drop_23 rfl (lv_at hl 3 rfl) ?_
      refine lv_iadd hx hb dX13_drop_24 ?_
      refine lv_topi (fun z24 e_z24 => ?_)
      have b_ := zadd rfl rfl e_z24 (by omega) (by omega)
      refine lv_aload_n hx hb dX13_drop_25 rfl (lv_at hl 0 rfl) ?_
      refine va_get (D := (dC, dI)) (ci := 13) (v := .ref (q0 2)) (C := RX13) (T := TX13) (N := 75) hx hb hG zuX13 hown hK hP 0 rfl rfl 2 (by decide) (hG _ zw552) (fun _ h9 => h9) rfl dX13_drop_26 ?_
      refine lv_bipush (v := 12) hx hb dX13_drop_29 (by decide) ?_
      refine lv_iload_n hx hb dX13_drop_31 rfl (lv_at hl 2 rfl) ?_
      refine lv_imul hx hb dX13_drop_32 ?_
      refine lv_topi (fun z32 e_z32 => ?_)
      have b_ := zmul zk_12 rfl e_z32 (by omega) (by omega)
      refine lv_iload_n hx hb dX13_drop_33 rfl (lv_at hl 3 rfl) ?_
      refine lv_iadd hx hb dX13_drop_34 ?_
      refine lv_topi (fun z34 e_z34 => ?_)
      have b_ := zadd rfl rfl e_z34 (by omega) (by omega)
      refine va_bald hx hb hK hP 1 0 rfl rfl (zin_lit ⟨by omega, by omega⟩) dX13_drop_35 ?_
      refine lv_topi (fun z35 e_z35 => ?_)
      refine va_bast hx hb hK hP hD hS 1 0 rfl rfl (zin_lit ⟨by omega, by omega⟩) dX13_drop_36 (fun H locs hP hD hS => ?_)
      obtain ⟨f_36, e_f_36⟩ : ∃ z : Nat → Int32, z = upd (a9_ 0) (z24 : Int32).toNatClampNeg (vp_nar .byte z35) := ⟨_, rfl⟩
      have hP : va_P (dC, dI) vwCl [(h0, .inr (13, mX13 q0 v0)), ((q0 2), .inl (k2, 4800, .inl f_36)), ((q0 3), .inl (k3, 400, .inl f3)), ((q0 73), .inl (k48, 400, .inl f48)), ((q0 5), .inl (k4, 122880, .inl f4))] H := by rw [e_f_36]; exact hP
      have hD : va_D A [(h0, .inr (13, mX13 q0 v0)), ((q0 2), .inl (k2, 4800, .inl f_36)), ((q0 3), .inl (k3, 400, .inl f3)), ((q0 73), .inl (k48, 400, .inl f48)), ((q0 5), .inl (k4, 122880, .inl f4))] := by rw [e_f_36]; exact hD
      obtain ⟨z37, e_z37⟩ : ∃ z : Int32, z = (u9_ 0) + Int32.ofInt 1 := ⟨_, rfl⟩
      have b_ := zadd (x := (u9_ 0)) (y := Int32.ofInt 1) rfl (show (Int32.ofInt 1).toInt = 1 from by decide) e_z37 (by omega) (by omega)
      refine lv_iinc (v := z37) (lv' := [(3, .int z37), (0, .ref h0), (1, .int x1), (2, .int z5)]) hx hb dX13_drop_37 hl (k := 3) rfl e_z37.symm (by decide) rfl (fun ls hl => ?_)
      refine lv_goto (tgt := 9) hx hb dX13_drop_40 (by decide) ?_
      have hc : va_P (dC, dI) vwCl [(h0, .inr (13, mX13 q0 v0)), ((q0 2), .inl (k2, 4800, .inl f_36)), ((q0 3), .inl (k3, 400, .inl f3)), ((q0 73), .inl (k48, 400, .inl f48)), ((q0 5), .inl (k4, 122880, .inl f4))] H ∧ va_D A [(h0, .inr (13, mX13 q0 v0)), ((q0 2), .inl (k2, 4800, .inl f_36)), ((q0 3), .inl (k3, 400, .inl f3)), ((q0 73), .inl (k48, 400, .inl f48)), ((q0 5), .inl (k4, 122880, .inl f4))] ∧ va_S A s.heap H locs ∧ lv_has ls 4 [(0, .ref h0), (1, .int x1), (2, .int z5), (3, .int z37)] ∧ (0 ≤ z37.toInt ∧ z37.toInt ≤ 12) := ⟨hP, hD, hS, lv_sub hl [1, 2, 3, 0] rfl, ⟨by omega, by omega⟩⟩
      exact hJ9 H locs ls (fun i => ([z37] : List (Int32)).getD i 0) (fun _ => 0) (fun i => ([f_36] : List (Nat → Int32)).getD i (fun _ => 0)) (fun _ => (fun _ => 0)) hc (show (12 - z37.toInt).toNat < (12 - (u9_ 0).toInt).toNat from by omega)
  · skip
    have hc : va_P (dC, dI) vwCl [(h0, .inr (13, mX13 q0 v0)), ((q0 2), .inl (k2, 4800, .inl f2)), ((q0 3), .inl (k3, 400, .inl f3)), ((q0 73), .inl (k48, 400, .inl f48)), ((q0 5), .inl (k4, 122880, .inl f4))] s.heap ∧ va_D A [(h0, .inr (13, mX13 q0 v0)), ((q0 2), .inl (k2, 4800, .inl f2)), ((q0 3), .inl (k3, 400, .inl f3)), ((q0 73), .inl (k48, 400, .inl f48)), ((q0 5), .inl (k4, 122880, .inl f4))] ∧ va_S A s.heap s.heap [] ∧ lv_has ls 4 [(0, .ref h0), (1, .int x1), (2, .int z5), (3, .int 0)] ∧ (0 ≤ (0 : Int32).toInt ∧ (0 : Int32).toInt ≤ 12) := ⟨hP, hD, hS, lv_sub hl [2, 3, 1, 0] rfl, ⟨by omega, by omega⟩⟩
    exact hJ9 s.heap [] ls (fun i => ([0] : List (Int32)).getD i 0) (fun _ => 0) (fun i => ([f2] : List (Nat → Int32)).getD i (fun _ => 0)) (fun _ => (fun _ => 0)) hc
set_option maxHeartbeats 8000000 in
set_option maxRecDepth 100000 in
theorem sX13_tidy_0 (l : Launch) (dC : Nat → ClassId) (dI : Nat → Nat → Nat) (adK adV : Nat → Nat) (h0 : Nat) (q0 : Nat → Nat) (k17 : ClassId) (k18 : ClassId) (k6 : ClassId) (k4 : ClassId) (k20 : ClassId) (k19 : ClassId) (k5 : ClassId) (k48 : ClassId) (k2 : ClassId) (k3 : ClassId) (sz : Nat) (v0 : Nat → Int32) (f17 : Nat → Int32) (f18 : Nat → Int32) (f6 : Nat → Int32) (f4 : Nat → Int32) (f20 : Nat → Int32) (f19 : Nat → Int32) (f5 : Nat → Int32) (f48 : Nat → Int32) (f2 : Nat → Int32) (f3 : Nat → Int32) (hv0 : zR rg_Model v0) (hf18 : zA (-1) 119 f18) (hf4 : zA 0 400 f4) (hf19 : zA (-1) 1023 f19) (hf3 : zA 0 12 f3) : Met l yX13_tidy (zw yX13_tidy cX13_tidy 4 (some .int)) { frames := 4, cells := 0, slots := 0, locals := 87 } (zPc dC dI adK adV [.ref h0] sz [(h0, .inr (13, mX13 q0 v0)), ((q0 25), .inl (k17, 400, .inl f17)), ((q0 26), .inl (k18, 400, .inl f18)), ((q0 7), .inl (k6, 120, .inl f6)), ((q0 5), .inl (k4, 122880, .inl f4)), ((q0 28), .inl (k20, 400, .inl f20)), ((q0 27), .inl (k19, 400, .inl f19)), ((q0 6), .inl (k5, 120, .inl f5)), ((q0 73), .inl (k48, 400, .inl f48)), ((q0 2), .inl (k2, 4800, .inl f2)), ((q0 3), .inl (k3, 400, .inl f3))] [(k17, .int), (k18, .int), (k6, .boolean), (k4, .short), (k20, .int), (k19, .int), (k5, .boolean), (k48, .int), (k2, .byte), (k3, .int)]) (va_Qi (fun (r : Int32) (u : Nat → Int32) => (0 ≤ (u 0).toInt ∧ (u 0).toInt ≤ 400) ∧ (0 ≤ (u 1).toInt ∧ (u 1).toInt ≤ 0) ∧ (0 ≤ (u 2).toInt ∧ (u 2).toInt ≤ 1)) (fun (u : Nat → Int32) (t : State) => ∃ (ww : Nat → Int64) (aa : Nat → Nat → Int32) (bb : Nat → Nat → Int64), zA (-1) 119 (aa 1) ∧ zA 0 400 (aa 3) ∧ zA (-1) 1023 (aa 5) ∧ zA 0 12 (aa 8) ∧ va_P (dC, dI) vwCl [(h0, .inr (13, mX13 q0 (upd (upd (upd v0 4 (u 0)) 21 (u 1)) 30 (u 2)))), ((q0 25), .inl (k17, 400, .inl (aa 0))), ((q0 26), .inl (k18, 400, .inl (aa 1))), ((q0 7), .inl (k6, 120, .inl (aa 2))), ((q0 5), .inl (k4, 122880, .inl (aa 3))), ((q0 28), .inl (k20, 400, .inl (aa 4))), ((q0 27), .inl (k19, 400, .inl (aa 5))), ((q0 6), .inl (k5, 120, .inl f5)), ((q0 73), .inl (k48, 400, .inl (aa 6))), ((q0 2), .inl (k2, 4800, .inl (aa 7))), ((q0 3), .inl (k3, 400, .inl (aa 8)))] t.heap ∧ va_K (dC, dI) vwCl [(k17, .int), (k18, .int), (k6, .boolean), (k4, .short), (k20, .int), (k19, .int), (k5, .boolean), (k48, .int), (k2, .byte), (k3, .int)] t ∧ va_D (va_A [(h0, .inr (13, mX13 q0 v0)), ((q0 25), .inl (k17, 400, .inl f17)), ((q0 26), .inl (k18, 400, .inl f18)), ((q0 7), .inl (k6, 120, .inl f6)), ((q0 5), .inl (k4, 122880, .inl f4)), ((q0 28), .inl (k20, 400, .inl f20)), ((q0 27), .inl (k19, 400, .inl f19)), ((q0 6), .inl (k5, 120, .inl f5)), ((q0 73), .inl (k48, 400, .inl f48)), ((q0 2), .inl (k2, 4800, .inl f2)), ((q0 3), .inl (k3, 400, .inl f3))] sz) [(h0, .inr (13, mX13 q0 (upd (upd (upd v0 4 (u 0)) 21 (u 1)) 30 (u 2)))), ((q0 25), .inl (k17, 400, .inl (aa 0))), ((q0 26), .inl (k18, 400, .inl (aa 1))), ((q0 7), .inl (k6, 120, .inl (aa 2))), ((q0 5), .inl (k4, 122880, .inl (aa 3))), ((q0 28), .inl (k20, 400, .inl (aa 4))), ((q0 27), .inl (k19, 400, .inl (aa 5))), ((q0 6), .inl (k5, 120, .inl f5)), ((q0 73), .inl (k48, 400, .inl (aa 6))), ((q0 2), .inl (k2, 4800, .inl (aa 7))), ((q0 3), .inl (k3, 400, .inl (aa 8)))]) (va_A [(h0, .inr (13, mX13 q0 v0)), ((q0 25), .inl (k17, 400, .inl f17)), ((q0 26), .inl (k18, 400, .inl f18)), ((q0 7), .inl (k6, 120, .inl f6)), ((q0 5), .inl (k4, 122880, .inl f4)), ((q0 28), .inl (k20, 400, .inl f20)), ((q0 27), .inl (k19, 400, .inl f19)), ((q0 6), .inl (k5, 120, .inl f5)), ((q0 73), .inl (k48, 400, .inl f48)), ((q0 2), .inl (k2, 4800, .inl f2)), ((q0 3), .inl (k3, 400, .inl f3))] sz)) 0 0 (va_A [(h0, .inr (13, mX13 q0 v0)), ((q0 25), .inl (k17, 400, .inl f17)), ((q0 26), .inl (k18, 400, .inl f18)), ((q0 7), .inl (k6, 120, .inl f6)), ((q0 5), .inl (k4, 122880, .inl f4)), ((q0 28), .inl (k20, 400, .inl f20)), ((q0 27), .inl (k19, 400, .inl f19)), ((q0 6), .inl (k5, 120, .inl f5)), ((q0 73), .inl (k48, 400, .inl f48)), ((q0 2), .inl (k2, 4800, .inl f2)), ((q0 3), .inl (k3, 400, .inl f3))] sz) := by
  refine Met.ofW (cc := cX13_tidy) (maxL := 4) (ret := (some .int)) (by decide) rfl ?_
  intro p e s m args below meth c s₁ B hml hv
  obtain ⟨rfl, hsz, hP, hK, hD0, hE, hZ⟩ := hv
  have hx := B.exec
  have hb := B.bytes
  have hr := B.returns
  have hG : ∀ w ∈ zG, w.before _ s = true := fun w h => atoms_spec (ws := (zw yX13_tidy cX13_tidy 4 (some .int))) B.pre w (List.mem_cons_of_mem _ h)
  have hown : s.vm.findClass RX13 = some m.cls := findClass_of_methodNamed B.named
  have hlocks := B.notSynchronized
  subst hsz
  have hD := hD0.self (sz := s.heap.size)
  generalize hAe : va_A [(h0, .inr (13, mX13 q0 v0)), ((q0 25), .inl (k17, 400, .inl f17)), ((q0 26), .inl (k18, 400, .inl f18)), ((q0 7), .inl (k6, 120, .inl f6)), ((q0 5), .inl (k4, 122880, .inl f4)), ((q0 28), .inl (k20, 400, .inl f20)), ((q0 27), .inl (k19, 400, .inl f19)), ((q0 6), .inl (k5, 120, .inl f5)), ((q0 73), .inl (k48, 400, .inl f48)), ((q0 2), .inl (k2, 4800, .inl f2)), ((q0 3), .inl (k3, 400, .inl f3))] s.heap.size = A at hD hZ ⊢
  have hA : ∀ q : Nat, s.heap.size ≤ q → A q := fun q h => by rw [← hAe]; exact Or.inr h
  have hS : va_S A s.heap s.heap [] := va_S.rf
  have hl := lv_entry ([.ref h0]) (n := 4) (Nat.le_of_ble_eq_true rfl)
  rw [lg_entry_eq]
  generalize (lg_sl ([.ref h0]) ++ List.replicate (4 - (lg_sl ([.ref h0])).length) Slot.unset).toArray = ls at hl ⊢
  have hl : lv_has ls 4 [(0, .ref h0)] := hl
  have b_ := zk_0
  refine lv_aload_n hx hb dX13_tidy_0 rfl (lv_at hl 0 rfl) ?_
  refine lv_iconst (v := 0) hx hb dX13_tidy_1 (by decide) ?_
  refine va_put (D := (dC, dI)) (ci := 13) (v := .int 0) (ty := .int) (C := RX13) (T := TX13) (N := 75) hx hb hG zuX13 tyX13 tyX13_ok nmX13 hown hK hP hD hS 0 rfl rfl 21 (by decide) (hG _ zw518) (fun _ h9 => h9) rfl (by decide +kernel) rfl rfl (Nat.le_of_ble_eq_true rfl) dX13_tidy_2 (fun H locs hP hD hS => ?_)
  have hP : va_P (dC, dI) vwCl [(h0, .inr (13, mX13 q0 (upd v0 21 0))), ((q0 25), .inl (k17, 400, .inl f17)), ((q0 26), .inl (k18, 400, .inl f18)), ((q0 7), .inl (k6, 120, .inl f6)), ((q0 5), .inl (k4, 122880, .inl f4)), ((q0 28), .inl (k20, 400, .inl f20)), ((q0 27), .inl (k19, 400, .inl f19)), ((q0 6), .inl (k5, 120, .inl f5)), ((q0 73), .inl (k48, 400, .inl f48)), ((q0 2), .inl (k2, 4800, .inl f2)), ((q0 3), .inl (k3, 400, .inl f3))] H := hP
  have hD : va_D A [(h0, .inr (13, mX13 q0 (upd v0 21 0))), ((q0 25), .inl (k17, 400, .inl f17)), ((q0 26), .inl (k18, 400, .inl f18)), ((q0 7), .inl (k6, 120, .inl f6)), ((q0 5), .inl (k4, 122880, .inl f4)), ((q0 28), .inl (k20, 400, .inl f20)), ((q0 27), .inl (k19, 400, .inl f19)), ((q0 6), .inl (k5, 120, .inl f5)), ((q0 73), .inl (k48, 400, .inl f48)), ((q0 2), .inl (k2, 4800, .inl f2)), ((q0 3), .inl (k3, 400, .inl f3))] := hD
  refine lv_aload_n hx hb dX13_tidy_5 rfl (lv_at hl 0 rfl) ?_
  have hPc := hP.sub (ws' := [(h0, .inr (13, mX13 q0 (upd v0 21 0))), ((q0 25), .inl (k17, 400, .inl f17)), ((q0 26), .inl (k18, 400, .inl f18)), ((q0 7), .inl (k6, 120, .inl f6)), ((q0 5), .inl (k4, 122880, .inl f4)), ((q0 28), .inl (k20, 400, .inl f20)), ((q0 27), .inl (k19, 400, .inl f19))]) [0, 1, 2, 3, 4, 5, 6] rfl
  have hDc := hD.sub (ws' := [(h0, .inr (13, mX13 q0 (upd v0 21 0))), ((q0 25), .inl (k17, 400, .inl f17)), ((q0 26), .inl (k18, 400, .inl f18)), ((q0 7), .inl (k6, 120, .inl f6)), ((q0 5), .inl (k4, 122880, .inl f4)), ((q0 28), .inl (k20, 400, .inl f20)), ((q0 27), .inl (k19, 400, .inl f19))]) [0, 1, 2, 3, 4, 5, 6] (by decide) rfl
  have hKc := hK.sub (tys' := [(k17, .int), (k18, .int), (k6, .boolean), (k4, .short), (k20, .int), (k19, .int)]) [0, 1, 2, 3, 4, 5] rfl
  have hFc := va_free (wc := [(h0, .inr (13, mX13 q0 (upd v0 21 0))), ((q0 25), .inl (k17, 400, .inl f17)), ((q0 26), .inl (k18, 400, .inl f18)), ((q0 7), .inl (k6, 120, .inl f6)), ((q0 5), .inl (k4, 122880, .inl f4)), ((q0 28), .inl (k20, 400, .inl f20)), ((q0 27), .inl (k19, 400, .inl f19))]) hD hS hA [0, 1, 2, 3, 4, 5, 6] rfl
  refine va_calli (va_runV (As := []) (rest := []) ⟨hx, hb, hml, hown, hG⟩ (sX13_taken_0 l dC dI adK adV h0 q0 k17 k18 k6 k4 k20 k19 H.size (upd v0 21 0) f17 f18 f6 f4 f20 f19 (zR_updF hv0 21 rfl) hf18 hf4 hf19) (cwV 0 hG (zgV zw598 zw599 zw600 zw524 zw601) rfl rfl rfl (by decide +kernel) ⟨Nat.le_of_ble_eq_true rfl, Nat.le_of_ble_eq_true rfl⟩) ⟨zPc_blind, va_recv hKc hPc (ci := 13) (q0 := 0) rfl rfl, zPc_pre hPc hKc hDc hE hS hFc hZ⟩ rfl rfl hl.1 rfl (lv_room (Nat.le_of_ble_eq_true rfl)) dX13_tidy_6 ⟨Nat.le_of_ble_eq_true rfl, Nat.le_of_ble_eq_true rfl⟩) hS (fun q _ h => hFc q h) hFc (fun r6_ u6_ t H1 locs ht hvm hw hB hz1 hk1 hS => ?_)
  obtain ⟨w6_, a6_, b6_, ha6_1, ha6_3, hP1, hK1, hD1⟩ := hB
  rw [ht] at hP1
  obtain ⟨hP, hD⟩ := va_join (wr := [((q0 6), .inl (k5, 120, .inl f5)), ((q0 73), .inl (k48, 400, .inl f48)), ((q0 2), .inl (k2, 4800, .inl f2)), ((q0 3), .inl (k3, 400, .inl f3))]) (w1 := [(h0, .inr (13, mX13 q0 (upd v0 21 0))), ((q0 25), .inl (k17, 400, .inl (a6_ 0))), ((q0 26), .inl (k18, 400, .inl (a6_ 1))), ((q0 7), .inl (k6, 120, .inl f6)), ((q0 5), .inl (k4, 122880, .inl f4)), ((q0 28), .inl (k20, 400, .inl (a6_ 2))), ((q0 27), .inl (k19, 400, .inl (a6_ 3)))]) hP hD [0, 1, 2, 3, 4, 5, 6] [7, 8, 9, 10] rfl rfl (by decide) (by decide) hk1 hFc hP1 hD1
  have hP : va_P (dC, dI) vwCl [(h0, .inr (13, mX13 q0 (upd v0 21 0))), ((q0 25), .inl (k17, 400, .inl (a6_ 0))), ((q0 26), .inl (k18, 400, .inl (a6_ 1))), ((q0 7), .inl (k6, 120, .inl f6)), ((q0 5), .inl (k4, 122880, .inl f4)), ((q0 28), .inl (k20, 400, .inl (a6_ 2))), ((q0 27), .inl (k19, 400, .inl (a6_ 3))), ((q0 6), .inl (k5, 120, .inl f5)), ((q0 73), .inl (k48, 400, .inl f48)), ((q0 2), .inl (k2, 4800, .inl f2)), ((q0 3), .inl (k3, 400, .inl f3))] H1 := hP.sub [4, 5, 6, 7, 8, 9, 10, 0, 1, 2, 3] rfl
  have hD : va_D A [(h0, .inr (13, mX13 q0 (upd v0 21 0))), ((q0 25), .inl (k17, 400, .inl (a6_ 0))), ((q0 26), .inl (k18, 400, .inl (a6_ 1))), ((q0 7), .inl (k6, 120, .inl f6)), ((q0 5), .inl (k4, 122880, .inl f4)), ((q0 28), .inl (k20, 400, .inl (a6_ 2))), ((q0 27), .inl (k19, 400, .inl (a6_ 3))), ((q0 6), .inl (k5, 120, .inl f5)), ((q0 73), .inl (k48, 400, .inl f48)), ((q0 2), .inl (k2, 4800, .inl f2)), ((q0 3), .inl (k3, 400, .inl f3))] := hD.sub [4, 5, 6, 7, 8, 9, 10, 0, 1, 2, 3] (by decide) rfl
  generalize H1 = H at hP hS ⊢
  clear hz1
  refine lv_istore_n (lv' := [(1, .int r6_), (0, .ref h0)]) hx hb dX13_tidy_9 rfl hl (by decide) rfl (fun ls hl => ?_)
  refine lv_iconst (v := 0) hx hb dX13_tidy_10 (by decide) ?_
  refine lv_istore_n (lv' := [(2, .int 0), (1, .int r6_), (0, .ref h0)]) hx hb dX13_tidy_11 rfl hl (by decide) rfl (fun ls hl => ?_)
  refine zcutL (fun u12_ => (120 - (u12_ 0).toInt).toNat) (fun H locs ls u12_ w12_ a12_ b12_ => va_P (dC, dI) vwCl [(h0, .inr (13, mX13 q0 (upd v0 21 0))), ((q0 25), .inl (k17, 400, .inl (a6_ 0))), ((q0 26), .inl (k18, 400, .inl (a6_ 1))), ((q0 7), .inl (k6, 120, .inl (a12_ 1))), ((q0 5), .inl (k4, 122880, .inl (a12_ 0))), ((q0 28), .inl (k20, 400, .inl (a6_ 2))), ((q0 27), .inl (k19, 400, .inl (a6_ 3))), ((q0 6), .inl (k5, 120, .inl f5)), ((q0 73), .inl (k48, 400, .inl f48)), ((q0 2), .inl (k2, 4800, .inl f2)), ((q0 3), .inl (k3, 400, .inl f3))] H ∧ va_D A [(h0, .inr (13, mX13 q0 (upd v0 21 0))), ((q0 25), .inl (k17, 400, .inl (a6_ 0))), ((q0 26), .inl (k18, 400, .inl (a6_ 1))), ((q0 7), .inl (k6, 120, .inl (a12_ 1))), ((q0 5), .inl (k4, 122880, .inl (a12_ 0))), ((q0 28), .inl (k20, 400, .inl (a6_ 2))), ((q0 27), .inl (k19, 400, .inl (a6_ 3))), ((q0 6), .inl (k5, 120, .inl f5)), ((q0 73), .inl (k48, 400, .inl f48)), ((q0 2), .inl (k2, 4800, .inl f2)), ((q0 3), .inl (k3, 400, .inl f3))] ∧ va_S A s.heap H locs ∧ lv_has ls 4 [(0, .ref h0), (1, .int r6_), (2, .int (u12_ 0))] ∧ zA 0 400 (a12_ 0) ∧ (0 ≤ (u12_ 0).toInt ∧ (u12_ 0).toInt ≤ 120)) (fun ls u12_ w12_ => F0 m 12 ls []) 0 0 ?_ (fun hJ12 => ?_)
  · skip
    intro H locs ls u12_ w12_ a12_ b12_ hc hJ12
    obtain ⟨hP, hD, hS, hl, ha12_0, b_⟩ := hc
    refine lv_iload_n hx hb dX13_tidy_12 rfl (lv_at hl 2 rfl) ?_
    refine lv_aload_n hx hb dX13_tidy_13 rfl (lv_at hl 0 rfl) ?_
    have b_ : 0 ≤ (v0 13).toInt ∧ (v0 13).toInt ≤ 120 := hv0 13
    refine va_get (D := (dC, dI)) (ci := 13) (v := .int (v0 13)) (C := RX13) (T := TX13) (N := 75) hx hb hG zuX13 hown hK hP 0 rfl rfl 13 (by decide) (hG _ zw565) (fun _ h9 => h9) rfl dX13_tidy_14 ?_
    refine lv_icmp_ge (tgt := 82) hx hb dX13_tidy_17 (by decide) (fun c_ => ?_) (fun c_ => ?_)
    · skip
      have b_ := zT_ge rfl rfl c_
      refine lv_iconst (v := 0) hx hb dX13_tidy_82 (by decide) ?_
      refine lv_istore_n (lv' := [(2, .int 0), (0, .ref h0), (1, .int r6_)]) hx hb dX13_tidy_83 rfl hl (by decide) rfl (fun ls hl => ?_)
      refine zcutL (fun u84_ => (400 - (u84_ 0).toInt).toNat) (fun H locs ls u84_ w84_ a84_ b84_ => va_P (dC, dI) vwCl [(h0, .inr (13, mX13 q0 (upd v0 21 0))), ((q0 25), .inl (k17, 400, .inl (a6_ 0))), ((q0 26), .inl (k18, 400, .inl (a6_ 1))), ((q0 7), .inl (k6, 120, .inl (a12_ 1))), ((q0 5), .inl (k4, 122880, .inl (a12_ 0))), ((q0 28), .inl (k20, 400, .inl (a6_ 2))), ((q0 27), .inl (k19, 400, .inl (a6_ 3))), ((q0 6), .inl (k5, 120, .inl f5)), ((q0 73), .inl (k48, 400, .inl (a84_ 0))), ((q0 2), .inl (k2, 4800, .inl f2)), ((q0 3), .inl (k3, 400, .inl f3))] H ∧ va_D A [(h0, .inr (13, mX13 q0 (upd v0 21 0))), ((q0 25), .inl (k17, 400, .inl (a6_ 0))), ((q0 26), .inl (k18, 400, .inl (a6_ 1))), ((q0 7), .inl (k6, 120, .inl (a12_ 1))), ((q0 5), .inl (k4, 122880, .inl (a12_ 0))), ((q0 28), .inl (k20, 400, .inl (a6_ 2))), ((q0 27), .inl (k19, 400, .inl (a6_ 3))), ((q0 6), .inl (k5, 120, .inl f5)), ((q0 73), .inl (k48, 400, .inl (a84_ 0))), ((q0 2), .inl (k2, 4800, .inl f2)), ((q0 3), .inl (k3, 400, .inl f3))] ∧ va_S A s.heap H locs ∧ lv_has ls 4 [(0, .ref h0), (1, .int r6_), (2, .int (u84_ 0))] ∧ (0 ≤ (u84_ 0).toInt ∧ (u84_ 0).toInt ≤ 400)) (fun ls u84_ w84_ => F0 m 84 ls []) 0 0 ?_ (fun hJ84 => ?_)
      · skip
        intro H locs ls u84_ w84_ a84_ b84_ hc hJ84
        obtain ⟨hP, hD, hS, hl, b_⟩ := hc
        refine lv_iload_n hx hb dX13_tidy_84 rfl (lv_at hl 2 rfl) ?_
        refine lv_aload_n hx hb dX13_tidy_85 rfl (lv_at hl 0 rfl) ?_
        have b_ : 0 ≤ (v0 4).toInt ∧ (v0 4).toInt ≤ 400 := hv0 4
        refine va_get (D := (dC, dI)) (ci := 13) (v := .int (v0 4)) (C := RX13) (T := TX13) (N := 75) hx hb hG zuX13 hown hK hP 0 rfl rfl 4 (by decide) (hG _ zw551) (fun _ h9 => h9) rfl dX13_tidy_86 ?_
        refine lv_icmp_ge (tgt := 105) hx hb dX13_tidy_89 (by decide) (fun c_ => ?_) (fun c_ => ?_)
        · skip
          have b_ := zT_ge rfl rfl c_
          refine lv_iconst (v := 0) hx hb dX13_tidy_105 (by decide) ?_
          refine lv_istore_n (lv' := [(2, .int 0), (0, .ref h0), (1, .int r6_)]) hx hb dX13_tidy_106 rfl hl (by decide) rfl (fun ls hl => ?_)
          refine zcutL (fun u107_ => (122880 - (u107_ 0).toInt).toNat) (fun H locs ls u107_ w107_ a107_ b107_ => va_P (dC, dI) vwCl [(h0, .inr (13, mX13 q0 (upd v0 21 0))), ((q0 25), .inl (k17, 400, .inl (a6_ 0))), ((q0 26), .inl (k18, 400, .inl (a6_ 1))), ((q0 7), .inl (k6, 120, .inl (a12_ 1))), ((q0 5), .inl (k4, 122880, .inl (a12_ 0))), ((q0 28), .inl (k20, 400, .inl (a6_ 2))), ((q0 27), .inl (k19, 400, .inl (a6_ 3))), ((q0 6), .inl (k5, 120, .inl f5)), ((q0 73), .inl (k48, 400, .inl (a107_ 0))), ((q0 2), .inl (k2, 4800, .inl f2)), ((q0 3), .inl (k3, 400, .inl f3))] H ∧ va_D A [(h0, .inr (13, mX13 q0 (upd v0 21 0))), ((q0 25), .inl (k17, 400, .inl (a6_ 0))), ((q0 26), .inl (k18, 400, .inl (a6_ 1))), ((q0 7), .inl (k6, 120, .inl (a12_ 1))), ((q0 5), .inl (k4, 122880, .inl (a12_ 0))), ((q0 28), .inl (k20, 400, .inl (a6_ 2))), ((q0 27), .inl (k19, 400, .inl (a6_ 3))), ((q0 6), .inl (k5, 120, .inl f5)), ((q0 73), .inl (k48, 400, .inl (a107_ 0))), ((q0 2), .inl (k2, 4800, .inl f2)), ((q0 3), .inl (k3, 400, .inl f3))] ∧ va_S A s.heap H locs ∧ lv_has ls 4 [(0, .ref h0), (1, .int r6_), (2, .int (u107_ 0))] ∧ (0 ≤ (u107_ 0).toInt ∧ (u107_ 0).toInt ≤ 122880)) (fun ls u107_ w107_ => F0 m 107 ls []) 0 0 ?_ (fun hJ107 => ?_)
          · skip
            intro H locs ls u107_ w107_ a107_ b107_ hc hJ107
            obtain ⟨hP, hD, hS, hl, b_⟩ := hc
            refine lv_iload_n hx hb dX13_tidy_107 rfl (lv_at hl 2 rfl) ?_
            refine lv_sipush (v := 1024) hx hb dX13_tidy_108 (by decide) ?_
            refine lv_aload_n hx hb dX13_tidy_111 rfl (lv_at hl 0 rfl) ?_
            refine va_get (D := (dC, dI)) (ci := 13) (v := .int (v0 13)) (C := RX13) (T := TX13) (N := 75) hx hb hG zuX13 hown hK hP 0 rfl rfl 13 (by decide) (hG _ zw565) (fun _ h9 => h9) rfl dX13_tidy_112 ?_
            refine lv_imul hx hb dX13_tidy_115 ?_
            refine lv_topi (fun z115 e_z115 => ?_)
            have b_ := zmul zk_1024 rfl e_z115 (by omega) (by omega)
            refine lv_icmp_ge (tgt := 151) hx hb dX13_tidy_116 (by decide) (fun c_ => ?_) (fun c_ => ?_)
            · skip
              have b_ := zT_ge rfl rfl c_
              refine lv_iconst (v := 0) hx hb dX13_tidy_151 (by decide) ?_
              refine lv_istore_n (lv' := [(2, .int 0), (0, .ref h0), (1, .int r6_)]) hx hb dX13_tidy_152 rfl hl (by decide) rfl (fun ls hl => ?_)
              refine zcutL (fun u153_ => ((u153_ 1).toInt - (u153_ 0).toInt).toNat) (fun H locs ls u153_ w153_ a153_ b153_ => va_P (dC, dI) vwCl [(h0, .inr (13, mX13 q0 (upd (upd (upd v0 4 (u153_ 1)) 21 0) 30 (u153_ 2)))), ((q0 25), .inl (k17, 400, .inl (a6_ 0))), ((q0 26), .inl (k18, 400, .inl (a6_ 1))), ((q0 7), .inl (k6, 120, .inl (a12_ 1))), ((q0 5), .inl (k4, 122880, .inl (a153_ 2))), ((q0 28), .inl (k20, 400, .inl (a6_ 2))), ((q0 27), .inl (k19, 400, .inl (a6_ 3))), ((q0 6), .inl (k5, 120, .inl f5)), ((q0 73), .inl (k48, 400, .inl (a153_ 3))), ((q0 2), .inl (k2, 4800, .inl (a153_ 0))), ((q0 3), .inl (k3, 400, .inl (a153_ 1)))] H ∧ va_D A [(h0, .inr (13, mX13 q0 (upd (upd (upd v0 4 (u153_ 1)) 21 0) 30 (u153_ 2)))), ((q0 25), .inl (k17, 400, .inl (a6_ 0))), ((q0 26), .inl (k18, 400, .inl (a6_ 1))), ((q0 7), .inl (k6, 120, .inl (a12_ 1))), ((q0 5), .inl (k4, 122880, .inl (a153_ 2))), ((q0 28), .inl (k20, 400, .inl (a6_ 2))), ((q0 27), .inl (k19, 400, .inl (a6_ 3))), ((q0 6), .inl (k5, 120, .inl f5)), ((q0 73), .inl (k48, 400, .inl (a153_ 3))), ((q0 2), .inl (k2, 4800, .inl (a153_ 0))), ((q0 3), .inl (k3, 400, .inl (a153_ 1)))] ∧ va_S A s.heap H locs ∧ lv_has ls 4 [(0, .ref h0), (1, .int r6_), (2, .int (u153_ 0))] ∧ zA 0 12 (a153_ 1) ∧ zA 0 400 (a153_ 2) ∧ (0 ≤ (u153_ 0).toInt ∧ (u153_ 0).toInt ≤ 400) ∧ (0 ≤ (u153_ 1).toInt ∧ (u153_ 1).toInt ≤ 400) ∧ (0 ≤ (u153_ 2).toInt ∧ (u153_ 2).toInt ≤ 1) ∧ ((u153_ 0).toInt ≤ (u153_ 1).toInt)) (fun ls u153_ w153_ => F0 m 153 ls []) 0 0 ?_ (fun hJ153 => ?_)
              · skip
                intro H locs ls u153_ w153_ a153_ b153_ hc hJ153
                obtain ⟨hP, hD, hS, hl, ha153_1, ha153_2, b_, b_, b_, b_⟩ := hc
                refine lv_iload_n hx hb dX13_tidy_153 rfl (lv_at hl 2 rfl) ?_
                refine lv_aload_n hx hb dX13_tidy_154 rfl (lv_at hl 0 rfl) ?_
                refine va_get (D := (dC, dI)) (ci := 13) (v := .int (u153_ 1)) (C := RX13) (T := TX13) (N := 75) hx hb hG zuX13 hown hK hP 0 rfl rfl 4 (by decide) (hG _ zw551) (fun _ h9 => h9) rfl dX13_tidy_155 ?_
                refine lv_icmp_ge (tgt := 184) hx hb dX13_tidy_158 (by decide) (fun c_ => ?_) (fun c_ => ?_)
                · skip
                  have b_ := zT_ge rfl rfl c_
                  refine lv_iload_n hx hb dX13_tidy_184 rfl (lv_at hl 1 rfl) ?_
                  refine lv_aload_n hx hb dX13_tidy_185 rfl (lv_at hl 0 rfl) ?_
                  have hPc := hP.sub (ws' := [(h0, .inr (13, mX13 q0 (upd (upd (upd v0 4 (u153_ 1)) 21 0) 30 (u153_ 2)))), ((q0 25), .inl (k17, 400, .inl (a6_ 0))), ((q0 26), .inl (k18, 400, .inl (a6_ 1))), ((q0 7), .inl (k6, 120, .inl (a12_ 1))), ((q0 5), .inl (k4, 122880, .inl (a153_ 2))), ((q0 28), .inl (k20, 400, .inl (a6_ 2))), ((q0 27), .inl (k19, 400, .inl (a6_ 3)))]) [0, 1, 2, 3, 4, 5, 6] rfl
                  have hDc := hD.sub (ws' := [(h0, .inr (13, mX13 q0 (upd (upd (upd v0 4 (u153_ 1)) 21 0) 30 (u153_ 2)))), ((q0 25), .inl (k17, 400, .inl (a6_ 0))), ((q0 26), .inl (k18, 400, .inl (a6_ 1))), ((q0 7), .inl (k6, 120, .inl (a12_ 1))), ((q0 5), .inl (k4, 122880, .inl (a153_ 2))), ((q0 28), .inl (k20, 400, .inl (a6_ 2))), ((q0 27), .inl (k19, 400, .inl (a6_ 3)))]) [0, 1, 2, 3, 4, 5, 6] (by decide) rfl
                  have hKc := hK.sub (tys' := [(k17, .int), (k18, .int), (k6, .boolean), (k4, .short), (k20, .int), (k19, .int)]) [0, 1, 2, 3, 4, 5] rfl
                  have hFc := va_free (wc := [(h0, .inr (13, mX13 q0 (upd (upd (upd v0 4 (u153_ 1)) 21 0) 30 (u153_ 2)))), ((q0 25), .inl (k17, 400, .inl (a6_ 0))), ((q0 26), .inl (k18, 400, .inl (a6_ 1))), ((q0 7), .inl (k6, 120, .inl (a12_ 1))), ((q0 5), .inl (k4, 122880, .inl (a153_ 2))), ((q0 28), .inl (k20, 400, .inl (a6_ 2))), ((q0 27), .inl (k19, 400, .inl (a6_ 3)))]) hD hS hA [0, 1, 2, 3, 4, 5, 6] rfl
                  refine va_calli (va_runV (As := []) (rest := [.int r6_]) ⟨hx, hb, hml, hown, hG⟩ (sX13_taken_0 l dC dI adK adV h0 q0 k17 k18 k6 k4 k20 k19 H.size (upd (upd (upd v0 4 (u153_ 1)) 21 0) 30 (u153_ 2)) (a6_ 0) (a6_ 1) (a12_ 1) (a153_ 2) (a6_ 2) (a6_ 3) (zR_upd (zR_updF (zR_upd hv0 4 (show (0 : Int) ≤ ((u153_ 1) : Int32).toInt from by omega) (show ((u153_ 1) : Int32).toInt ≤ (400 : Int) from by omega)) 21 rfl) 30 (show (0 : Int) ≤ ((u153_ 2) : Int32).toInt from by omega) (show ((u153_ 2) : Int32).toInt ≤ (1 : Int) from by omega)) ha6_1 ha153_2 ha6_3) (cwV 0 hG (zgV zw598 zw599 zw600 zw524 zw601) rfl rfl rfl (by decide +kernel) ⟨Nat.le_of_ble_eq_true rfl, Nat.le_of_ble_eq_true rfl⟩) ⟨zPc_blind, va_recv hKc hPc (ci := 13) (q0 := 0) rfl rfl, zPc_pre hPc hKc hDc hE hS hFc hZ⟩ rfl rfl hl.1 rfl (lv_room (Nat.le_of_ble_eq_true rfl)) dX13_tidy_186 ⟨Nat.le_of_ble_eq_true rfl, Nat.le_of_ble_eq_true rfl⟩) hS (fun q _ h => hFc q h) hFc (fun r186_ u186_ t H1 locs ht hvm hw hB hz1 hk1 hS => ?_)
                  obtain ⟨w186_, a186_, b186_, ha186_1, ha186_3, hP1, hK1, hD1⟩ := hB
                  rw [ht] at hP1
                  obtain ⟨hP, hD⟩ := va_join (wr := [((q0 6), .inl (k5, 120, .inl f5)), ((q0 73), .inl (k48, 400, .inl (a153_ 3))), ((q0 2), .inl (k2, 4800, .inl (a153_ 0))), ((q0 3), .inl (k3, 400, .inl (a153_ 1)))]) (w1 := [(h0, .inr (13, mX13 q0 (upd (upd (upd v0 4 (u153_ 1)) 21 0) 30 (u153_ 2)))), ((q0 25), .inl (k17, 400, .inl (a186_ 0))), ((q0 26), .inl (k18, 400, .inl (a186_ 1))), ((q0 7), .inl (k6, 120, .inl (a12_ 1))), ((q0 5), .inl (k4, 122880, .inl (a153_ 2))), ((q0 28), .inl (k20, 400, .inl (a186_ 2))), ((q0 27), .inl (k19, 400, .inl (a186_ 3)))]) hP hD [0, 1, 2, 3, 4, 5, 6] [7, 8, 9, 10] rfl rfl (by decide) (by decide) hk1 hFc hP1 hD1
                  have hP : va_P (dC, dI) vwCl [(h0, .inr (13, mX13 q0 (upd (upd (upd v0 4 (u153_ 1)) 21 0) 30 (u153_ 2)))), ((q0 25), .inl (k17, 400, .inl (a186_ 0))), ((q0 26), .inl (k18, 400, .inl (a186_ 1))), ((q0 7), .inl (k6, 120, .inl (a12_ 1))), ((q0 5), .inl (k4, 122880, .inl (a153_ 2))), ((q0 28), .inl (k20, 400, .inl (a186_ 2))), ((q0 27), .inl (k19, 400, .inl (a186_ 3))), ((q0 6), .inl (k5, 120, .inl f5)), ((q0 73), .inl (k48, 400, .inl (a153_ 3))), ((q0 2), .inl (k2, 4800, .inl (a153_ 0))), ((q0 3), .inl (k3, 400, .inl (a153_ 1)))] H1 := hP.sub [4, 5, 6, 7, 8, 9, 10, 0, 1, 2, 3] rfl
                  have hD : va_D A [(h0, .inr (13, mX13 q0 (upd (upd (upd v0 4 (u153_ 1)) 21 0) 30 (u153_ 2)))), ((q0 25), .inl (k17, 400, .inl (a186_ 0))), ((q0 26), .inl (k18, 400, .inl (a186_ 1))), ((q0 7), .inl (k6, 120, .inl (a12_ 1))), ((q0 5), .inl (k4, 122880, .inl (a153_ 2))), ((q0 28), .inl (k20, 400, .inl (a186_ 2))), ((q0 27), .inl (k19, 400, .inl (a186_ 3))), ((q0 6), .inl (k5, 120, .inl f5)), ((q0 73), .inl (k48, 400, .inl (a153_ 3))), ((q0 2), .inl (k2, 4800, .inl (a153_ 0))), ((q0 3), .inl (k3, 400, .inl (a153_ 1)))] := hD.sub [4, 5, 6, 7, 8, 9, 10, 0, 1, 2, 3] (by decide) rfl
                  generalize H1 = H at hP hS ⊢
                  clear hz1
                  have b_ : -2147483648 ≤ r6_.toInt ∧ r6_.toInt ≤ 2147483647 := ⟨zlo _, zhi _⟩
                  have b_ : -2147483648 ≤ r186_.toInt ∧ r186_.toInt ≤ 2147483647 := ⟨zlo _, zhi _⟩
                  refine lv_isub hx hb dX13_tidy_189 ?_
                  refine lv_topi (fun z189 e_z189 => ?_)
                  refine W.widen (k := 0) (n := 0) (by decide) (by decide) ?_
                  have b_ : -2147483648 ≤ z189.toInt ∧ z189.toInt ≤ 2147483647 := ⟨zlo _, zhi _⟩
                  have hpost : (0 ≤ (u153_ 1).toInt ∧ (u153_ 1).toInt ≤ 400) ∧ (0 ≤ (0 : Int32).toInt ∧ (0 : Int32).toInt ≤ 0) ∧ (0 ≤ (u153_ 2).toInt ∧ (u153_ 2).toInt ≤ 1) := ⟨⟨by omega, by omega⟩, ⟨by omega, by omega⟩, ⟨by omega, by omega⟩⟩
                  have hP9 : va_P (dC, dI) vwCl [(h0, .inr (13, mX13 q0 (upd (upd (upd v0 4 (u153_ 1)) 21 0) 30 (u153_ 2)))), ((q0 25), .inl (k17, 400, .inl (a186_ 0))), ((q0 26), .inl (k18, 400, .inl (a186_ 1))), ((q0 7), .inl (k6, 120, .inl (a12_ 1))), ((q0 5), .inl (k4, 122880, .inl (a153_ 2))), ((q0 28), .inl (k20, 400, .inl (a186_ 2))), ((q0 27), .inl (k19, 400, .inl (a186_ 3))), ((q0 6), .inl (k5, 120, .inl f5)), ((q0 73), .inl (k48, 400, .inl (a153_ 3))), ((q0 2), .inl (k2, 4800, .inl (a153_ 0))), ((q0 3), .inl (k3, 400, .inl (a153_ 1)))] H := hP
                  have hD9 : va_D A [(h0, .inr (13, mX13 q0 (upd (upd (upd v0 4 (u153_ 1)) 21 0) 30 (u153_ 2)))), ((q0 25), .inl (k17, 400, .inl (a186_ 0))), ((q0 26), .inl (k18, 400, .inl (a186_ 1))), ((q0 7), .inl (k6, 120, .inl (a12_ 1))), ((q0 5), .inl (k4, 122880, .inl (a153_ 2))), ((q0 28), .inl (k20, 400, .inl (a186_ 2))), ((q0 27), .inl (k19, 400, .inl (a186_ 3))), ((q0 6), .inl (k5, 120, .inl f5)), ((q0 73), .inl (k48, 400, .inl (a153_ 3))), ((q0 2), .inl (k2, 4800, .inl (a153_ 0))), ((q0 3), .inl (k3, 400, .inl (a153_ 1)))] := hD
                  exact W.iret (v := z189) hx hb hr (fun t ht hW => ⟨⟨z189, (fun i => ([(u153_ 1), 0, (u153_ 2)] : List (Int32)).getD i 0), rfl, hpost, (fun _ => 0), (fun i => ([(a186_ 0), (a186_ 1), (a12_ 1), (a153_ 2), (a186_ 2), (a186_ 3), (a153_ 3), (a153_ 0), (a153_ 1)] : List (Nat → Int32)).getD i (fun _ => 0)), (fun _ => (fun _ => 0)), ha186_1, ha153_2, ha186_3, ha153_1, by rw [ht]; exact hP9, va_K.moved hW.alike hK, hD9⟩, hS.F ht⟩) hS.2.2 dX13_tidy_190
                · skip
                  have b_ := zF_ge rfl rfl c_
                  refine lv_aload_n hx hb dX13_tidy_161 rfl (lv_at hl 0 rfl) ?_
                  refine va_get (D := (dC, dI)) (ci := 13) (v := .ref (q0 73)) (C := RX13) (T := TX13) (N := 75) hx hb hG zuX13 hown hK hP 0 rfl rfl 73 (by decide) (hG _ zw634) (fun _ h9 => h9) rfl dX13_tidy_162 ?_
                  refine lv_iload_n hx hb dX13_tidy_165 rfl (lv_at hl 2 rfl) ?_
                  refine va_iald hx hb hK hP 8 7 rfl rfl (zin_lit ⟨by omega, by omega⟩) dX13_tidy_166 ?_
                  refine lv_topi (fun z166 e_z166 => ?_)
                  have b_ : -2147483648 ≤ z166.toInt ∧ z166.toInt ≤ 2147483647 := ⟨zlo _, zhi _⟩
                  refine lv_if_le (tgt := 176) hx hb dX13_tidy_167 (by decide) (fun c_ => ?_) (fun c_ => ?_)
                  · skip
                    have b_ := zT_le rfl zk_0 c_
                    refine lv_aload_n hx hb dX13_tidy_176 rfl (lv_at hl 0 rfl) ?_
                    refine lv_iload_n hx hb dX13_tidy_177 rfl (lv_at hl 2 rfl) ?_
                    have hPc := hP.sub (ws' := [(h0, .inr (13, mX13 q0 (upd (upd (upd v0 4 (u153_ 1)) 21 0) 30 (u153_ 2)))), ((q0 2), .inl (k2, 4800, .inl (a153_ 0))), ((q0 3), .inl (k3, 400, .inl (a153_ 1))), ((q0 73), .inl (k48, 400, .inl (a153_ 3))), ((q0 5), .inl (k4, 122880, .inl (a153_ 2)))]) [0, 9, 10, 8, 4] rfl
                    have hDc := hD.sub (ws' := [(h0, .inr (13, mX13 q0 (upd (upd (upd v0 4 (u153_ 1)) 21 0) 30 (u153_ 2)))), ((q0 2), .inl (k2, 4800, .inl (a153_ 0))), ((q0 3), .inl (k3, 400, .inl (a153_ 1))), ((q0 73), .inl (k48, 400, .inl (a153_ 3))), ((q0 5), .inl (k4, 122880, .inl (a153_ 2)))]) [0, 9, 10, 8, 4] (by decide) rfl
                    have hKc := hK.sub (tys' := [(k2, .byte), (k3, .int), (k48, .int), (k4, .short)]) [8, 9, 7, 3] rfl
                    have hFc := va_free (wc := [(h0, .inr (13, mX13 q0 (upd (upd (upd v0 4 (u153_ 1)) 21 0) 30 (u153_ 2)))), ((q0 2), .inl (k2, 4800, .inl (a153_ 0))), ((q0 3), .inl (k3, 400, .inl (a153_ 1))), ((q0 73), .inl (k48, 400, .inl (a153_ 3))), ((q0 5), .inl (k4, 122880, .inl (a153_ 2)))]) hD hS hA [0, 9, 10, 8, 4] rfl
                    refine va_callv (va_runV (As := [.int (u153_ 0)]) (rest := []) ⟨hx, hb, hml, hown, hG⟩ (sX13_drop_0 l dC dI adK adV h0 q0 k2 k3 k48 k4 H.size (upd (upd (upd v0 4 (u153_ 1)) 21 0) 30 (u153_ 2)) (a153_ 0) (a153_ 1) (a153_ 3) (a153_ 2) (u153_ 0) (zR_upd (zR_updF (zR_upd hv0 4 (show (0 : Int) ≤ ((u153_ 1) : Int32).toInt from by omega) (show ((u153_ 1) : Int32).toInt ≤ (400 : Int) from by omega)) 21 rfl) 30 (show (0 : Int) ≤ ((u153_ 2) : Int32).toInt from by omega) (show ((u153_ 2) : Int32).toInt ≤ (1 : Int) from by omega)) ha153_1 ha153_2 ⟨show (0 : Int) ≤ ((u153_ 0) : Int32).toInt from by omega, show ((u153_ 0) : Int32).toInt ≤ (399 : Int) from by omega⟩ (show 1 ≤ (u153_ 1).toInt from by omega)) (cwV 1 hG (zgV zw635 zw636 zw637 zw524 zw638) rfl rfl rfl (by decide +kernel) ⟨Nat.le_of_ble_eq_true rfl, Nat.le_of_ble_eq_true rfl⟩) ⟨zPc_blind, va_recv hKc hPc (ci := 13) (q0 := 0) rfl rfl, zPc_pre hPc hKc hDc hE hS hFc hZ⟩ rfl rfl hl.1 rfl (lv_room (Nat.le_of_ble_eq_true rfl)) dX13_tidy_178 ⟨Nat.le_of_ble_eq_true rfl, Nat.le_of_ble_eq_true rfl⟩) hS (fun q _ h => hFc q h) hFc (fun u178_ t H1 locs ht hvm hw hB hz1 hk1 hS => ?_)
                    have hw : (0 ≤ (u178_ 0).toInt ∧ (u178_ 0).toInt ≤ 399) ∧ (0 ≤ (u178_ 1).toInt ∧ (u178_ 1).toInt ≤ 0) ∧ ((u178_ 0).toInt = (u153_ 1).toInt - 1) := hw
                    obtain ⟨b_, b_, hX178_0⟩ := hw
                    obtain ⟨w178_, a178_, b178_, ha178_1, ha178_3, hP1, hK1, hD1⟩ := hB
                    rw [ht] at hP1
                    obtain ⟨hP, hD⟩ := va_join (wr := [((q0 25), .inl (k17, 400, .inl (a6_ 0))), ((q0 26), .inl (k18, 400, .inl (a6_ 1))), ((q0 7), .inl (k6, 120, .inl (a12_ 1))), ((q0 28), .inl (k20, 400, .inl (a6_ 2))), ((q0 27), .inl (k19, 400, .inl (a6_ 3))), ((q0 6), .inl (k5, 120, .inl f5))]) (w1 := [(h0, .inr (13, mX13 q0 (upd (upd (upd v0 4 (u178_ 0)) 21 0) 30 (u178_ 1)))), ((q0 2), .inl (k2, 4800, .inl (a178_ 0))), ((q0 3), .inl (k3, 400, .inl (a178_ 1))), ((q0 73), .inl (k48, 400, .inl (a178_ 2))), ((q0 5), .inl (k4, 122880, .inl (a178_ 3)))]) hP hD [0, 9, 10, 8, 4] [1, 2, 3, 5, 6, 7] rfl rfl (by decide) (by decide) hk1 hFc hP1 hD1
                    have hP : va_P (dC, dI) vwCl [(h0, .inr (13, mX13 q0 (upd (upd (upd v0 4 (u178_ 0)) 21 0) 30 (u178_ 1)))), ((q0 25), .inl (k17, 400, .inl (a6_ 0))), ((q0 26), .inl (k18, 400, .inl (a6_ 1))), ((q0 7), .inl (k6, 120, .inl (a12_ 1))), ((q0 5), .inl (k4, 122880, .inl (a178_ 3))), ((q0 28), .inl (k20, 400, .inl (a6_ 2))), ((q0 27), .inl (k19, 400, .inl (a6_ 3))), ((q0 6), .inl (k5, 120, .inl f5)), ((q0 73), .inl (k48, 400, .inl (a178_ 2))), ((q0 2), .inl (k2, 4800, .inl (a178_ 0))), ((q0 3), .inl (k3, 400, .inl (a178_ 1)))] H1 := hP.sub [6, 0, 1, 2, 10, 3, 4, 5, 9, 7, 8] rfl
                    have hD : va_D A [(h0, .inr (13, mX13 q0 (upd (upd (upd v0 4 (u178_ 0)) 21 0) 30 (u178_ 1)))), ((q0 25), .inl (k17, 400, .inl (a6_ 0))), ((q0 26), .inl (k18, 400, .inl (a6_ 1))), ((q0 7), .inl (k6, 120, .inl (a12_ 1))), ((q0 5), .inl (k4, 122880, .inl (a178_ 3))), ((q0 28), .inl (k20, 400, .inl (a6_ 2))), ((q0 27), .inl (k19, 400, .inl (a6_ 3))), ((q0 6), .inl (k5, 120, .inl f5)), ((q0 73), .inl (k48, 400, .inl (a178_ 2))), ((q0 2), .inl (k2, 4800, .inl (a178_ 0))), ((q0 3), .inl (k3, 400, .inl (a178_ 1)))] := hD.sub [6, 0, 1, 2, 10, 3, 4, 5, 9, 7, 8] (by decide) rfl
                    generalize H1 = H at hP hS ⊢
                    clear hz1
                    refine lv_goto (tgt := 153) hx hb dX13_tidy_181 (by decide) ?_
                    have b_ : -2147483648 ≤ r6_.toInt ∧ r6_.toInt ≤ 2147483647 := ⟨zlo _, zhi _⟩
                    have hc : va_P (dC, dI) vwCl [(h0, .inr (13, mX13 q0 (upd (upd (upd v0 4 (u178_ 0)) 21 0) 30 (u178_ 1)))), ((q0 25), .inl (k17, 400, .inl (a6_ 0))), ((q0 26), .inl (k18, 400, .inl (a6_ 1))), ((q0 7), .inl (k6, 120, .inl (a12_ 1))), ((q0 5), .inl (k4, 122880, .inl (a178_ 3))), ((q0 28), .inl (k20, 400, .inl (a6_ 2))), ((q0 27), .inl (k19, 400, .inl (a6_ 3))), ((q0 6), .inl (k5, 120, .inl f5)), ((q0 73), .inl (k48, 400, .inl (a178_ 2))), ((q0 2), .inl (k2, 4800, .inl (a178_ 0))), ((q0 3), .inl (k3, 400, .inl (a178_ 1)))] H ∧ va_D A [(h0, .inr (13, mX13 q0 (upd (upd (upd v0 4 (u178_ 0)) 21 0) 30 (u178_ 1)))), ((q0 25), .inl (k17, 400, .inl (a6_ 0))), ((q0 26), .inl (k18, 400, .inl (a6_ 1))), ((q0 7), .inl (k6, 120, .inl (a12_ 1))), ((q0 5), .inl (k4, 122880, .inl (a178_ 3))), ((q0 28), .inl (k20, 400, .inl (a6_ 2))), ((q0 27), .inl (k19, 400, .inl (a6_ 3))), ((q0 6), .inl (k5, 120, .inl f5)), ((q0 73), .inl (k48, 400, .inl (a178_ 2))), ((q0 2), .inl (k2, 4800, .inl (a178_ 0))), ((q0 3), .inl (k3, 400, .inl (a178_ 1)))] ∧ va_S A s.heap H locs ∧ lv_has ls 4 [(0, .ref h0), (1, .int r6_), (2, .int (u153_ 0))] ∧ zA 0 12 (a178_ 1) ∧ zA 0 400 (a178_ 3) ∧ (0 ≤ (u153_ 0).toInt ∧ (u153_ 0).toInt ≤ 400) ∧ (0 ≤ (u178_ 0).toInt ∧ (u178_ 0).toInt ≤ 400) ∧ (0 ≤ (u178_ 1).toInt ∧ (u178_ 1).toInt ≤ 1) ∧ ((u153_ 0).toInt ≤ (u178_ 0).toInt) := ⟨hP, hD, hS, lv_sub hl [0, 1, 2] rfl, ha178_1, ha178_3, ⟨by omega, by omega⟩, ⟨by omega, by omega⟩, ⟨by omega, by omega⟩, by omega⟩
                    exact hJ153 H locs ls (fun i => ([(u153_ 0), (u178_ 0), (u178_ 1)] : List (Int32)).getD i 0) (fun _ => 0) (fun i => ([(a178_ 0), (a178_ 1), (a178_ 3), (a178_ 2)] : List (Nat → Int32)).getD i (fun _ => 0)) (fun _ => (fun _ => 0)) hc (show ((u178_ 0).toInt - (u153_ 0).toInt).toNat < ((u153_ 1).toInt - (u153_ 0).toInt).toNat from by omega)
                  · skip
                    have b_ := zF_le rfl zk_0 c_
                    obtain ⟨z170, e_z170⟩ : ∃ z : Int32, z = (u153_ 0) + Int32.ofInt 1 := ⟨_, rfl⟩
                    have b_ := zadd (x := (u153_ 0)) (y := Int32.ofInt 1) rfl (show (Int32.ofInt 1).toInt = 1 from by decide) e_z170 (by omega) (by omega)
                    refine lv_iinc (v := z170) (lv' := [(2, .int z170), (0, .ref h0), (1, .int r6_)]) hx hb dX13_tidy_170 hl (k := 2) rfl e_z170.symm (by decide) rfl (fun ls hl => ?_)
                    refine lv_goto (tgt := 153) hx hb dX13_tidy_173 (by decide) ?_
                    have b_ : -2147483648 ≤ r6_.toInt ∧ r6_.toInt ≤ 2147483647 := ⟨zlo _, zhi _⟩
                    have hc : va_P (dC, dI) vwCl [(h0, .inr (13, mX13 q0 (upd (upd (upd v0 4 (u153_ 1)) 21 0) 30 (u153_ 2)))), ((q0 25), .inl (k17, 400, .inl (a6_ 0))), ((q0 26), .inl (k18, 400, .inl (a6_ 1))), ((q0 7), .inl (k6, 120, .inl (a12_ 1))), ((q0 5), .inl (k4, 122880, .inl (a153_ 2))), ((q0 28), .inl (k20, 400, .inl (a6_ 2))), ((q0 27), .inl (k19, 400, .inl (a6_ 3))), ((q0 6), .inl (k5, 120, .inl f5)), ((q0 73), .inl (k48, 400, .inl (a153_ 3))), ((q0 2), .inl (k2, 4800, .inl (a153_ 0))), ((q0 3), .inl (k3, 400, .inl (a153_ 1)))] H ∧ va_D A [(h0, .inr (13, mX13 q0 (upd (upd (upd v0 4 (u153_ 1)) 21 0) 30 (u153_ 2)))), ((q0 25), .inl (k17, 400, .inl (a6_ 0))), ((q0 26), .inl (k18, 400, .inl (a6_ 1))), ((q0 7), .inl (k6, 120, .inl (a12_ 1))), ((q0 5), .inl (k4, 122880, .inl (a153_ 2))), ((q0 28), .inl (k20, 400, .inl (a6_ 2))), ((q0 27), .inl (k19, 400, .inl (a6_ 3))), ((q0 6), .inl (k5, 120, .inl f5)), ((q0 73), .inl (k48, 400, .inl (a153_ 3))), ((q0 2), .inl (k2, 4800, .inl (a153_ 0))), ((q0 3), .inl (k3, 400, .inl (a153_ 1)))] ∧ va_S A s.heap H locs ∧ lv_has ls 4 [(0, .ref h0), (1, .int r6_), (2, .int z170)] ∧ zA 0 12 (a153_ 1) ∧ zA 0 400 (a153_ 2) ∧ (0 ≤ z170.toInt ∧ z170.toInt ≤ 400) ∧ (0 ≤ (u153_ 1).toInt ∧ (u153_ 1).toInt ≤ 400) ∧ (0 ≤ (u153_ 2).toInt ∧ (u153_ 2).toInt ≤ 1) ∧ (z170.toInt ≤ (u153_ 1).toInt) := ⟨hP, hD, hS, lv_sub hl [1, 2, 0] rfl, ha153_1, ha153_2, ⟨by omega, by omega⟩, ⟨by omega, by omega⟩, ⟨by omega, by omega⟩, by omega⟩
                    exact hJ153 H locs ls (fun i => ([z170, (u153_ 1), (u153_ 2)] : List (Int32)).getD i 0) (fun _ => 0) (fun i => ([(a153_ 0), (a153_ 1), (a153_ 2), (a153_ 3)] : List (Nat → Int32)).getD i (fun _ => 0)) (fun _ => (fun _ => 0)) hc (show ((u153_ 1).toInt - z170.toInt).toNat < ((u153_ 1).toInt - (u153_ 0).toInt).toNat from by omega)
              · skip
                have b_ : 0 ≤ (v0 30).toInt ∧ (v0 30).toInt ≤ 1 := hv0 30
                have b_ : -2147483648 ≤ r6_.toInt ∧ r6_.toInt ≤ 2147483647 := ⟨zlo _, zhi _⟩
                have hc : va_P (dC, dI) vwCl [(h0, .inr (13, mX13 q0 (upd (upd (upd v0 4 (v0 4)) 21 0) 30 (v0 30)))), ((q0 25), .inl (k17, 400, .inl (a6_ 0))), ((q0 26), .inl (k18, 400, .inl (a6_ 1))), ((q0 7), .inl (k6, 120, .inl (a12_ 1))), ((q0 5), .inl (k4, 122880, .inl (a12_ 0))), ((q0 28), .inl (k20, 400, .inl (a6_ 2))), ((q0 27), .inl (k19, 400, .inl (a6_ 3))), ((q0 6), .inl (k5, 120, .inl f5)), ((q0 73), .inl (k48, 400, .inl (a107_ 0))), ((q0 2), .inl (k2, 4800, .inl f2)), ((q0 3), .inl (k3, 400, .inl f3))] H ∧ va_D A [(h0, .inr (13, mX13 q0 (upd (upd (upd v0 4 (v0 4)) 21 0) 30 (v0 30)))), ((q0 25), .inl (k17, 400, .inl (a6_ 0))), ((q0 26), .inl (k18, 400, .inl (a6_ 1))), ((q0 7), .inl (k6, 120, .inl (a12_ 1))), ((q0 5), .inl (k4, 122880, .inl (a12_ 0))), ((q0 28), .inl (k20, 400, .inl (a6_ 2))), ((q0 27), .inl (k19, 400, .inl (a6_ 3))), ((q0 6), .inl (k5, 120, .inl f5)), ((q0 73), .inl (k48, 400, .inl (a107_ 0))), ((q0 2), .inl (k2, 4800, .inl f2)), ((q0 3), .inl (k3, 400, .inl f3))] ∧ va_S A s.heap H locs ∧ lv_has ls 4 [(0, .ref h0), (1, .int r6_), (2, .int 0)] ∧ zA 0 12 f3 ∧ zA 0 400 (a12_ 0) ∧ (0 ≤ (0 : Int32).toInt ∧ (0 : Int32).toInt ≤ 400) ∧ (0 ≤ (v0 4).toInt ∧ (v0 4).toInt ≤ 400) ∧ (0 ≤ (v0 30).toInt ∧ (v0 30).toInt ≤ 1) ∧ ((0 : Int32).toInt ≤ (v0 4).toInt) := ⟨hP, hD, hS, lv_sub hl [1, 2, 0] rfl, hf3, ha12_0, ⟨by omega, by omega⟩, ⟨by omega, by omega⟩, ⟨by omega, by omega⟩, by omega⟩
                exact hJ153 H locs ls (fun i => ([0, (v0 4), (v0 30)] : List (Int32)).getD i 0) (fun _ => 0) (fun i => ([f2, f3, (a12_ 0), (a107_ 0)] : List (Nat → Int32)).getD i (fun _ => 0)) (fun _ => (fun _ => 0)) hc
            · skip
              have b_ := zF_ge rfl rfl c_
              refine lv_aload_n hx hb dX13_tidy_119 rfl (lv_at hl 0 rfl) ?_
              refine va_get (D := (dC, dI)) (ci := 13) (v := .ref (q0 5)) (C := RX13) (T := TX13) (N := 75) hx hb hG zuX13 hown hK hP 0 rfl rfl 5 (by decide) (hG _ zw567) (fun _ h9 => h9) rfl dX13_tidy_120 ?_
              refine lv_iload_n hx hb dX13_tidy_123 rfl (lv_at hl 2 rfl) ?_
              refine va_sald hx hb hK hP 4 3 rfl rfl (zin_lit ⟨by omega, by omega⟩) dX13_tidy_124 ?_
              refine lv_topi (fun z124 e_z124 => ?_)
              have b_ : 0 ≤ z124.toInt ∧ z124.toInt ≤ 400 := by rw [e_z124]; exact ha12_0 _
              refine lv_if_le (tgt := 145) hx hb dX13_tidy_125 (by decide) (fun c_ => ?_) (fun c_ => ?_)
              · skip
                have b_ := zT_le rfl zk_0 c_
                obtain ⟨z145, e_z145⟩ : ∃ z : Int32, z = (u107_ 0) + Int32.ofInt 1 := ⟨_, rfl⟩
                have b_ := zadd (x := (u107_ 0)) (y := Int32.ofInt 1) rfl (show (Int32.ofInt 1).toInt = 1 from by decide) e_z145 (by omega) (by omega)
                refine lv_iinc (v := z145) (lv' := [(2, .int z145), (0, .ref h0), (1, .int r6_)]) hx hb dX13_tidy_145 hl (k := 2) rfl e_z145.symm (by decide) rfl (fun ls hl => ?_)
                refine lv_goto (tgt := 107) hx hb dX13_tidy_148 (by decide) ?_
                have b_ : -2147483648 ≤ r6_.toInt ∧ r6_.toInt ≤ 2147483647 := ⟨zlo _, zhi _⟩
                have hc : va_P (dC, dI) vwCl [(h0, .inr (13, mX13 q0 (upd v0 21 0))), ((q0 25), .inl (k17, 400, .inl (a6_ 0))), ((q0 26), .inl (k18, 400, .inl (a6_ 1))), ((q0 7), .inl (k6, 120, .inl (a12_ 1))), ((q0 5), .inl (k4, 122880, .inl (a12_ 0))), ((q0 28), .inl (k20, 400, .inl (a6_ 2))), ((q0 27), .inl (k19, 400, .inl (a6_ 3))), ((q0 6), .inl (k5, 120, .inl f5)), ((q0 73), .inl (k48, 400, .inl (a107_ 0))), ((q0 2), .inl (k2, 4800, .inl f2)), ((q0 3), .inl (k3, 400, .inl f3))] H ∧ va_D A [(h0, .inr (13, mX13 q0 (upd v0 21 0))), ((q0 25), .inl (k17, 400, .inl (a6_ 0))), ((q0 26), .inl (k18, 400, .inl (a6_ 1))), ((q0 7), .inl (k6, 120, .inl (a12_ 1))), ((q0 5), .inl (k4, 122880, .inl (a12_ 0))), ((q0 28), .inl (k20, 400, .inl (a6_ 2))), ((q0 27), .inl (k19, 400, .inl (a6_ 3))), ((q0 6), .inl (k5, 120, .inl f5)), ((q0 73), .inl (k48, 400, .inl (a107_ 0))), ((q0 2), .inl (k2, 4800, .inl f2)), ((q0 3), .inl (k3, 400, .inl f3))] ∧ va_S A s.heap H locs ∧ lv_has ls 4 [(0, .ref h0), (1, .int r6_), (2, .int z145)] ∧ (0 ≤ z145.toInt ∧ z145.toInt ≤ 122880) := ⟨hP, hD, hS, lv_sub hl [1, 2, 0] rfl, ⟨by omega, by omega⟩⟩
                exact hJ107 H locs ls (fun i => ([z145] : List (Int32)).getD i 0) (fun _ => 0) (fun i => ([(a107_ 0)] : List (Nat → Int32)).getD i (fun _ => 0)) (fun _ => (fun _ => 0)) hc (show (122880 - z145.toInt).toNat < (122880 - (u107_ 0).toInt).toNat from by omega)
              · skip
                have b_ := zF_le rfl zk_0 c_
                refine lv_aload_n hx hb dX13_tidy_128 rfl (lv_at hl 0 rfl) ?_
                refine va_get (D := (dC, dI)) (ci := 13) (v := .ref (q0 73)) (C := RX13) (T := TX13) (N := 75) hx hb hG zuX13 hown hK hP 0 rfl rfl 73 (by decide) (hG _ zw634) (fun _ h9 => h9) rfl dX13_tidy_129 ?_
                refine lv_aload_n hx hb dX13_tidy_132 rfl (lv_at hl 0 rfl) ?_
                refine va_get (D := (dC, dI)) (ci := 13) (v := .ref (q0 5)) (C := RX13) (T := TX13) (N := 75) hx hb hG zuX13 hown hK hP 0 rfl rfl 5 (by decide) (hG _ zw567) (fun _ h9 => h9) rfl dX13_tidy_133 ?_
                refine lv_iload_n hx hb dX13_tidy_136 rfl (lv_at hl 2 rfl) ?_
                refine va_sald hx hb hK hP 4 3 rfl rfl (zin_lit ⟨by omega, by omega⟩) dX13_tidy_137 ?_
                refine lv_topi (fun z137 e_z137 => ?_)
                have b_ : 0 ≤ z137.toInt ∧ z137.toInt ≤ 400 := by rw [e_z137]; exact ha12_0 _
                have b_ : z137.toInt = z124.toInt := by rw [e_z137, e_z124]
                refine lv_iconst (v := 1) hx hb dX13_tidy_138 (by decide) ?_
                refine lv_isub hx hb dX13_tidy_139 ?_
                refine lv_topi (fun z139 e_z139 => ?_)
                have b_ := zsub rfl zk_1 e_z139 (by omega) (by omega)
                refine lv_dup2_11 hx hb dX13_tidy_140 rfl rfl ?_
                refine va_iald hx hb hK hP 8 7 rfl rfl (zin_lit ⟨by omega, by omega⟩) dX13_tidy_141 ?_
                refine lv_topi (fun z141 e_z141 => ?_)
                refine lv_iconst (v := 1) hx hb dX13_tidy_142 (by decide) ?_
                have b_ : -2147483648 ≤ z141.toInt ∧ z141.toInt ≤ 2147483647 := ⟨zlo _, zhi _⟩
                refine lv_iadd hx hb dX13_tidy_143 ?_
                refine lv_topi (fun z143 e_z143 => ?_)
                refine va_iast hx hb hK hP hD hS 8 7 rfl rfl (zin_lit ⟨by omega, by omega⟩) dX13_tidy_144 (fun H locs hP hD hS => ?_)
                obtain ⟨f_144, e_f_144⟩ : ∃ z : Nat → Int32, z = upd (a107_ 0) (z139 : Int32).toNatClampNeg z143 := ⟨_, rfl⟩
                have hP : va_P (dC, dI) vwCl [(h0, .inr (13, mX13 q0 (upd v0 21 0))), ((q0 25), .inl (k17, 400, .inl (a6_ 0))), ((q0 26), .inl (k18, 400, .inl (a6_ 1))), ((q0 7), .inl (k6, 120, .inl (a12_ 1))), ((q0 5), .inl (k4, 122880, .inl (a12_ 0))), ((q0 28), .inl (k20, 400, .inl (a6_ 2))), ((q0 27), .inl (k19, 400, .inl (a6_ 3))), ((q0 6), .inl (k5, 120, .inl f5)), ((q0 73), .inl (k48, 400, .inl f_144)), ((q0 2), .inl (k2, 4800, .inl f2)), ((q0 3), .inl (k3, 400, .inl f3))] H := by rw [e_f_144]; exact hP
                have hD : va_D A [(h0, .inr (13, mX13 q0 (upd v0 21 0))), ((q0 25), .inl (k17, 400, .inl (a6_ 0))), ((q0 26), .inl (k18, 400, .inl (a6_ 1))), ((q0 7), .inl (k6, 120, .inl (a12_ 1))), ((q0 5), .inl (k4, 122880, .inl (a12_ 0))), ((q0 28), .inl (k20, 400, .inl (a6_ 2))), ((q0 27), .inl (k19, 400, .inl (a6_ 3))), ((q0 6), .inl (k5, 120, .inl f5)), ((q0 73), .inl (k48, 400, .inl f_144)), ((q0 2), .inl (k2, 4800, .inl f2)), ((q0 3), .inl (k3, 400, .inl f3))] := by rw [e_f_144]; exact hD
                obtain ⟨z145, e_z145⟩ : ∃ z : Int32, z = (u107_ 0) + Int32.ofInt 1 := ⟨_, rfl⟩
                have b_ := zadd (x := (u107_ 0)) (y := Int32.ofInt 1) rfl (show (Int32.ofInt 1).toInt = 1 from by decide) e_z145 (by omega) (by omega)
                refine lv_iinc (v := z145) (lv' := [(2, .int z145), (0, .ref h0), (1, .int r6_)]) hx hb dX13_tidy_145 hl (k := 2) rfl e_z145.symm (by decide) rfl (fun ls hl => ?_)
                refine lv_goto (tgt := 107) hx hb dX13_tidy_148 (by decide) ?_
                have b_ : -2147483648 ≤ r6_.toInt ∧ r6_.toInt ≤ 2147483647 := ⟨zlo _, zhi _⟩
                have hc : va_P (dC, dI) vwCl [(h0, .inr (13, mX13 q0 (upd v0 21 0))), ((q0 25), .inl (k17, 400, .inl (a6_ 0))), ((q0 26), .inl (k18, 400, .inl (a6_ 1))), ((q0 7), .inl (k6, 120, .inl (a12_ 1))), ((q0 5), .inl (k4, 122880, .inl (a12_ 0))), ((q0 28), .inl (k20, 400, .inl (a6_ 2))), ((q0 27), .inl (k19, 400, .inl (a6_ 3))), ((q0 6), .inl (k5, 120, .inl f5)), ((q0 73), .inl (k48, 400, .inl f_144)), ((q0 2), .inl (k2, 4800, .inl f2)), ((q0 3), .inl (k3, 400, .inl f3))] H ∧ va_D A [(h0, .inr (13, mX13 q0 (upd v0 21 0))), ((q0 25), .inl (k17, 400, .inl (a6_ 0))), ((q0 26), .inl (k18, 400, .inl (a6_ 1))), ((q0 7), .inl (k6, 120, .inl (a12_ 1))), ((q0 5), .inl (k4, 122880, .inl (a12_ 0))), ((q0 28), .inl (k20, 400, .inl (a6_ 2))), ((q0 27), .inl (k19, 400, .inl (a6_ 3))), ((q0 6), .inl (k5, 120, .inl f5)), ((q0 73), .inl (k48, 400, .inl f_144)), ((q0 2), .inl (k2, 4800, .inl f2)), ((q0 3), .inl (k3, 400, .inl f3))] ∧ va_S A s.heap H locs ∧ lv_has ls 4 [(0, .ref h0), (1, .int r6_), (2, .int z145)] ∧ (0 ≤ z145.toInt ∧ z145.toInt ≤ 122880) := ⟨hP, hD, hS, lv_sub hl [1, 2, 0] rfl, ⟨by omega, by omega⟩⟩
                exact hJ107 H locs ls (fun i => ([z145] : List (Int32)).getD i 0) (fun _ => 0) (fun i => ([f_144] : List (Nat → Int32)).getD i (fun _ => 0)) (fun _ => (fun _ => 0)) hc (show (122880 - z145.toInt).toNat < (122880 - (u107_ 0).toInt).toNat from by omega)
          · skip
            have b_ : -2147483648 ≤ r6_.toInt ∧ r6_.toInt ≤ 2147483647 := ⟨zlo _, zhi _⟩
            have hc : va_P (dC, dI) vwCl [(h0, .inr (13, mX13 q0 (upd v0 21 0))), ((q0 25), .inl (k17, 400, .inl (a6_ 0))), ((q0 26), .inl (k18, 400, .inl (a6_ 1))), ((q0 7), .inl (k6, 120, .inl (a12_ 1))), ((q0 5), .inl (k4, 122880, .inl (a12_ 0))), ((q0 28), .inl (k20, 400, .inl (a6_ 2))), ((q0 27), .inl (k19, 400, .inl (a6_ 3))), ((q0 6), .inl (k5, 120, .inl f5)), ((q0 73), .inl (k48, 400, .inl (a84_ 0))), ((q0 2), .inl (k2, 4800, .inl f2)), ((q0 3), .inl (k3, 400, .inl f3))] H ∧ va_D A [(h0, .inr (13, mX13 q0 (upd v0 21 0))), ((q0 25), .inl (k17, 400, .inl (a6_ 0))), ((q0 26), .inl (k18, 400, .inl (a6_ 1))), ((q0 7), .inl (k6, 120, .inl (a12_ 1))), ((q0 5), .inl (k4, 122880, .inl (a12_ 0))), ((q0 28), .inl (k20, 400, .inl (a6_ 2))), ((q0 27), .inl (k19, 400, .inl (a6_ 3))), ((q0 6), .inl (k5, 120, .inl f5)), ((q0 73), .inl (k48, 400, .inl (a84_ 0))), ((q0 2), .inl (k2, 4800, .inl f2)), ((q0 3), .inl (k3, 400, .inl f3))] ∧ va_S A s.heap H locs ∧ lv_has ls 4 [(0, .ref h0), (1, .int r6_), (2, .int 0)] ∧ (0 ≤ (0 : Int32).toInt ∧ (0 : Int32).toInt ≤ 122880) := ⟨hP, hD, hS, lv_sub hl [1, 2, 0] rfl, ⟨by omega, by omega⟩⟩
            exact hJ107 H locs ls (fun i => ([0] : List (Int32)).getD i 0) (fun _ => 0) (fun i => ([(a84_ 0)] : List (Nat → Int32)).getD i (fun _ => 0)) (fun _ => (fun _ => 0)) hc
        · skip
          have b_ := zF_ge rfl rfl c_
          refine lv_aload_n hx hb dX13_tidy_92 rfl (lv_at hl 0 rfl) ?_
          refine va_get (D := (dC, dI)) (ci := 13) (v := .ref (q0 73)) (C := RX13) (T := TX13) (N := 75) hx hb hG zuX13 hown hK hP 0 rfl rfl 73 (by decide) (hG _ zw634) (fun _ h9 => h9) rfl dX13_tidy_93 ?_
          refine lv_iload_n hx hb dX13_tidy_96 rfl (lv_at hl 2 rfl) ?_
          refine lv_iconst (v := 0) hx hb dX13_tidy_97 (by decide) ?_
          refine va_iast hx hb hK hP hD hS 8 7 rfl rfl (zin_lit ⟨by omega, by omega⟩) dX13_tidy_98 (fun H locs hP hD hS => ?_)
          obtain ⟨f_98, e_f_98⟩ : ∃ z : Nat → Int32, z = upd (a84_ 0) ((u84_ 0) : Int32).toNatClampNeg 0 := ⟨_, rfl⟩
          have hP : va_P (dC, dI) vwCl [(h0, .inr (13, mX13 q0 (upd v0 21 0))), ((q0 25), .inl (k17, 400, .inl (a6_ 0))), ((q0 26), .inl (k18, 400, .inl (a6_ 1))), ((q0 7), .inl (k6, 120, .inl (a12_ 1))), ((q0 5), .inl (k4, 122880, .inl (a12_ 0))), ((q0 28), .inl (k20, 400, .inl (a6_ 2))), ((q0 27), .inl (k19, 400, .inl (a6_ 3))), ((q0 6), .inl (k5, 120, .inl f5)), ((q0 73), .inl (k48, 400, .inl f_98)), ((q0 2), .inl (k2, 4800, .inl f2)), ((q0 3), .inl (k3, 400, .inl f3))] H := by rw [e_f_98]; exact hP
          have hD : va_D A [(h0, .inr (13, mX13 q0 (upd v0 21 0))), ((q0 25), .inl (k17, 400, .inl (a6_ 0))), ((q0 26), .inl (k18, 400, .inl (a6_ 1))), ((q0 7), .inl (k6, 120, .inl (a12_ 1))), ((q0 5), .inl (k4, 122880, .inl (a12_ 0))), ((q0 28), .inl (k20, 400, .inl (a6_ 2))), ((q0 27), .inl (k19, 400, .inl (a6_ 3))), ((q0 6), .inl (k5, 120, .inl f5)), ((q0 73), .inl (k48, 400, .inl f_98)), ((q0 2), .inl (k2, 4800, .inl f2)), ((q0 3), .inl (k3, 400, .inl f3))] := by rw [e_f_98]; exact hD
          obtain ⟨z99, e_z99⟩ : ∃ z : Int32, z = (u84_ 0) + Int32.ofInt 1 := ⟨_, rfl⟩
          have b_ := zadd (x := (u84_ 0)) (y := Int32.ofInt 1) rfl (show (Int32.ofInt 1).toInt = 1 from by decide) e_z99 (by omega) (by omega)
          refine lv_iinc (v := z99) (lv' := [(2, .int z99), (0, .ref h0), (1, .int r6_)]) hx hb dX13_tidy_99 hl (k := 2) rfl e_z99.symm (by decide) rfl (fun ls hl => ?_)
          refine lv_goto (tgt := 84) hx hb dX13_tidy_102 (by decide) ?_
          have b_ : -2147483648 ≤ r6_.toInt ∧ r6_.toInt ≤ 2147483647 := ⟨zlo _, zhi _⟩
          have hc : va_P (dC, dI) vwCl [(h0, .inr (13, mX13 q0 (upd v0 21 0))), ((q0 25), .inl (k17, 400, .inl (a6_ 0))), ((q0 26), .inl (k18, 400, .inl (a6_ 1))), ((q0 7), .inl (k6, 120, .inl (a12_ 1))), ((q0 5), .inl (k4, 122880, .inl (a12_ 0))), ((q0 28), .inl (k20, 400, .inl (a6_ 2))), ((q0 27), .inl (k19, 400, .inl (a6_ 3))), ((q0 6), .inl (k5, 120, .inl f5)), ((q0 73), .inl (k48, 400, .inl f_98)), ((q0 2), .inl (k2, 4800, .inl f2)), ((q0 3), .inl (k3, 400, .inl f3))] H ∧ va_D A [(h0, .inr (13, mX13 q0 (upd v0 21 0))), ((q0 25), .inl (k17, 400, .inl (a6_ 0))), ((q0 26), .inl (k18, 400, .inl (a6_ 1))), ((q0 7), .inl (k6, 120, .inl (a12_ 1))), ((q0 5), .inl (k4, 122880, .inl (a12_ 0))), ((q0 28), .inl (k20, 400, .inl (a6_ 2))), ((q0 27), .inl (k19, 400, .inl (a6_ 3))), ((q0 6), .inl (k5, 120, .inl f5)), ((q0 73), .inl (k48, 400, .inl f_98)), ((q0 2), .inl (k2, 4800, .inl f2)), ((q0 3), .inl (k3, 400, .inl f3))] ∧ va_S A s.heap H locs ∧ lv_has ls 4 [(0, .ref h0), (1, .int r6_), (2, .int z99)] ∧ (0 ≤ z99.toInt ∧ z99.toInt ≤ 400) := ⟨hP, hD, hS, lv_sub hl [1, 2, 0] rfl, ⟨by omega, by omega⟩⟩
          exact hJ84 H locs ls (fun i => ([z99] : List (Int32)).getD i 0) (fun _ => 0) (fun i => ([f_98] : List (Nat → Int32)).getD i (fun _ => 0)) (fun _ => (fun _ => 0)) hc (show (400 - z99.toInt).toNat < (400 - (u84_ 0).toInt).toNat from by omega)
      · skip
        have b_ : -2147483648 ≤ r6_.toInt ∧ r6_.toInt ≤ 2147483647 := ⟨zlo _, zhi _⟩
        have hc : va_P (dC, dI) vwCl [(h0, .inr (13, mX13 q0 (upd v0 21 0))), ((q0 25), .inl (k17, 400, .inl (a6_ 0))), ((q0 26), .inl (k18, 400, .inl (a6_ 1))), ((q0 7), .inl (k6, 120, .inl (a12_ 1))), ((q0 5), .inl (k4, 122880, .inl (a12_ 0))), ((q0 28), .inl (k20, 400, .inl (a6_ 2))), ((q0 27), .inl (k19, 400, .inl (a6_ 3))), ((q0 6), .inl (k5, 120, .inl f5)), ((q0 73), .inl (k48, 400, .inl f48)), ((q0 2), .inl (k2, 4800, .inl f2)), ((q0 3), .inl (k3, 400, .inl f3))] H ∧ va_D A [(h0, .inr (13, mX13 q0 (upd v0 21 0))), ((q0 25), .inl (k17, 400, .inl (a6_ 0))), ((q0 26), .inl (k18, 400, .inl (a6_ 1))), ((q0 7), .inl (k6, 120, .inl (a12_ 1))), ((q0 5), .inl (k4, 122880, .inl (a12_ 0))), ((q0 28), .inl (k20, 400, .inl (a6_ 2))), ((q0 27), .inl (k19, 400, .inl (a6_ 3))), ((q0 6), .inl (k5, 120, .inl f5)), ((q0 73), .inl (k48, 400, .inl f48)), ((q0 2), .inl (k2, 4800, .inl f2)), ((q0 3), .inl (k3, 400, .inl f3))] ∧ va_S A s.heap H locs ∧ lv_has ls 4 [(0, .ref h0), (1, .int r6_), (2, .int 0)] ∧ (0 ≤ (0 : Int32).toInt ∧ (0 : Int32).toInt ≤ 400) := ⟨hP, hD, hS, lv_sub hl [1, 2, 0] rfl, ⟨by omega, by omega⟩⟩
        exact hJ84 H locs ls (fun i => ([0] : List (Int32)).getD i 0) (fun _ => 0) (fun i => ([f48] : List (Nat → Int32)).getD i (fun _ => 0)) (fun _ => (fun _ => 0)) hc
    · skip
      have b_ := zF_ge rfl rfl c_
      refine lv_aload_n hx hb dX13_tidy_20 rfl (lv_at hl 0 rfl) ?_
      refine va_get (D := (dC, dI)) (ci := 13) (v := .ref (q0 6)) (C := RX13) (T := TX13) (N := 75) hx hb hG zuX13 hown hK hP 0 rfl rfl 6 (by decide) (hG _ zw590) (fun _ h9 => h9) rfl dX13_tidy_21 ?_
      refine lv_iload_n hx hb dX13_tidy_24 rfl (lv_at hl 2 rfl) ?_
      refine va_zald hx hb hK hP 7 6 rfl rfl (zin_lit ⟨by omega, by omega⟩) dX13_tidy_25 ?_
      refine lv_topi (fun z25 e_z25 => ?_)
      have b_ : -2147483648 ≤ z25.toInt ∧ z25.toInt ≤ 2147483647 := ⟨zlo _, zhi _⟩
      refine lv_if_ne (tgt := 76) hx hb dX13_tidy_26 (by decide) (fun c_ => ?_) (fun c_ => ?_)
      · skip
        have b_ := zT_ne rfl zk_0 c_
        obtain ⟨z76, e_z76⟩ : ∃ z : Int32, z = (u12_ 0) + Int32.ofInt 1 := ⟨_, rfl⟩
        have b_ := zadd (x := (u12_ 0)) (y := Int32.ofInt 1) rfl (show (Int32.ofInt 1).toInt = 1 from by decide) e_z76 (by omega) (by omega)
        refine lv_iinc (v := z76) (lv' := [(2, .int z76), (0, .ref h0), (1, .int r6_)]) hx hb dX13_tidy_76 hl (k := 2) rfl e_z76.symm (by decide) rfl (fun ls hl => ?_)
        refine lv_goto (tgt := 12) hx hb dX13_tidy_79 (by decide) ?_
        have b_ : -2147483648 ≤ r6_.toInt ∧ r6_.toInt ≤ 2147483647 := ⟨zlo _, zhi _⟩
        have hc : va_P (dC, dI) vwCl [(h0, .inr (13, mX13 q0 (upd v0 21 0))), ((q0 25), .inl (k17, 400, .inl (a6_ 0))), ((q0 26), .inl (k18, 400, .inl (a6_ 1))), ((q0 7), .inl (k6, 120, .inl (a12_ 1))), ((q0 5), .inl (k4, 122880, .inl (a12_ 0))), ((q0 28), .inl (k20, 400, .inl (a6_ 2))), ((q0 27), .inl (k19, 400, .inl (a6_ 3))), ((q0 6), .inl (k5, 120, .inl f5)), ((q0 73), .inl (k48, 400, .inl f48)), ((q0 2), .inl (k2, 4800, .inl f2)), ((q0 3), .inl (k3, 400, .inl f3))] H ∧ va_D A [(h0, .inr (13, mX13 q0 (upd v0 21 0))), ((q0 25), .inl (k17, 400, .inl (a6_ 0))), ((q0 26), .inl (k18, 400, .inl (a6_ 1))), ((q0 7), .inl (k6, 120, .inl (a12_ 1))), ((q0 5), .inl (k4, 122880, .inl (a12_ 0))), ((q0 28), .inl (k20, 400, .inl (a6_ 2))), ((q0 27), .inl (k19, 400, .inl (a6_ 3))), ((q0 6), .inl (k5, 120, .inl f5)), ((q0 73), .inl (k48, 400, .inl f48)), ((q0 2), .inl (k2, 4800, .inl f2)), ((q0 3), .inl (k3, 400, .inl f3))] ∧ va_S A s.heap H locs ∧ lv_has ls 4 [(0, .ref h0), (1, .int r6_), (2, .int z76)] ∧ zA 0 400 (a12_ 0) ∧ (0 ≤ z76.toInt ∧ z76.toInt ≤ 120) := ⟨hP, hD, hS, lv_sub hl [1, 2, 0] rfl, ha12_0, ⟨by omega, by omega⟩⟩
        exact hJ12 H locs ls (fun i => ([z76] : List (Int32)).getD i 0) (fun _ => 0) (fun i => ([(a12_ 0), (a12_ 1)] : List (Nat → Int32)).getD i (fun _ => 0)) (fun _ => (fun _ => 0)) hc (show (120 - z76.toInt).toNat < (120 - (u12_ 0).toInt).toNat from by omega)
      · skip
        have b_ := zF_ne rfl zk_0 c_
        refine lv_aload_n hx hb dX13_tidy_29 rfl (lv_at hl 0 rfl) ?_
        refine va_get (D := (dC, dI)) (ci := 13) (v := .ref (q0 7)) (C := RX13) (T := TX13) (N := 75) hx hb hG zuX13 hown hK hP 0 rfl rfl 7 (by decide) (hG _ zw571) (fun _ h9 => h9) rfl dX13_tidy_30 ?_
        refine lv_iload_n hx hb dX13_tidy_33 rfl (lv_at hl 2 rfl) ?_
        refine va_zald hx hb hK hP 3 2 rfl rfl (zin_lit ⟨by omega, by omega⟩) dX13_tidy_34 ?_
        refine lv_topi (fun z34 e_z34 => ?_)
        have b_ : -2147483648 ≤ z34.toInt ∧ z34.toInt ≤ 2147483647 := ⟨zlo _, zhi _⟩
        refine lv_if_ne (tgt := 41) hx hb dX13_tidy_35 (by decide) (fun c_ => ?_) (fun c_ => ?_)
        · skip
          have b_ := zT_ne rfl zk_0 c_
          refine lv_aload_n hx hb dX13_tidy_41 rfl (lv_at hl 0 rfl) ?_
          refine va_get (D := (dC, dI)) (ci := 13) (v := .ref (q0 7)) (C := RX13) (T := TX13) (N := 75) hx hb hG zuX13 hown hK hP 0 rfl rfl 7 (by decide) (hG _ zw571) (fun _ h9 => h9) rfl dX13_tidy_42 ?_
          refine lv_iload_n hx hb dX13_tidy_45 rfl (lv_at hl 2 rfl) ?_
          refine lv_iconst (v := 0) hx hb dX13_tidy_46 (by decide) ?_
          refine va_zast hx hb hK hP hD hS 3 2 rfl rfl (zin_lit ⟨by omega, by omega⟩) dX13_tidy_47 (fun H locs hP hD hS => ?_)
          obtain ⟨f_47, e_f_47⟩ : ∃ z : Nat → Int32, z = upd (a12_ 1) ((u12_ 0) : Int32).toNatClampNeg (vp_nar .boolean 0) := ⟨_, rfl⟩
          have hP : va_P (dC, dI) vwCl [(h0, .inr (13, mX13 q0 (upd v0 21 0))), ((q0 25), .inl (k17, 400, .inl (a6_ 0))), ((q0 26), .inl (k18, 400, .inl (a6_ 1))), ((q0 7), .inl (k6, 120, .inl f_47)), ((q0 5), .inl (k4, 122880, .inl (a12_ 0))), ((q0 28), .inl (k20, 400, .inl (a6_ 2))), ((q0 27), .inl (k19, 400, .inl (a6_ 3))), ((q0 6), .inl (k5, 120, .inl f5)), ((q0 73), .inl (k48, 400, .inl f48)), ((q0 2), .inl (k2, 4800, .inl f2)), ((q0 3), .inl (k3, 400, .inl f3))] H := by rw [e_f_47]; exact hP
          have hD : va_D A [(h0, .inr (13, mX13 q0 (upd v0 21 0))), ((q0 25), .inl (k17, 400, .inl (a6_ 0))), ((q0 26), .inl (k18, 400, .inl (a6_ 1))), ((q0 7), .inl (k6, 120, .inl f_47)), ((q0 5), .inl (k4, 122880, .inl (a12_ 0))), ((q0 28), .inl (k20, 400, .inl (a6_ 2))), ((q0 27), .inl (k19, 400, .inl (a6_ 3))), ((q0 6), .inl (k5, 120, .inl f5)), ((q0 73), .inl (k48, 400, .inl f48)), ((q0 2), .inl (k2, 4800, .inl f2)), ((q0 3), .inl (k3, 400, .inl f3))] := by rw [e_f_47]; exact hD
          refine lv_iconst (v := 0) hx hb dX13_tidy_48 (by decide) ?_
          refine lv_istore_n (lv' := [(3, .int 0), (0, .ref h0), (1, .int r6_), (2, .int (u12_ 0))]) hx hb dX13_tidy_49 rfl hl (by decide) rfl (fun ls hl => ?_)
          refine zcutL (fun u50_ => (1024 - (u50_ 0).toInt).toNat) (fun H locs ls u50_ w50_ a50_ b50_ => va_P (dC, dI) vwCl [(h0, .inr (13, mX13 q0 (upd v0 21 0))), ((q0 25), .inl (k17, 400, .inl (a6_ 0))), ((q0 26), .inl (k18, 400, .inl (a6_ 1))), ((q0 7), .inl (k6, 120, .inl f_47)), ((q0 5), .inl (k4, 122880, .inl (a50_ 0))), ((q0 28), .inl (k20, 400, .inl (a6_ 2))), ((q0 27), .inl (k19, 400, .inl (a6_ 3))), ((q0 6), .inl (k5, 120, .inl f5)), ((q0 73), .inl (k48, 400, .inl f48)), ((q0 2), .inl (k2, 4800, .inl f2)), ((q0 3), .inl (k3, 400, .inl f3))] H ∧ va_D A [(h0, .inr (13, mX13 q0 (upd v0 21 0))), ((q0 25), .inl (k17, 400, .inl (a6_ 0))), ((q0 26), .inl (k18, 400, .inl (a6_ 1))), ((q0 7), .inl (k6, 120, .inl f_47)), ((q0 5), .inl (k4, 122880, .inl (a50_ 0))), ((q0 28), .inl (k20, 400, .inl (a6_ 2))), ((q0 27), .inl (k19, 400, .inl (a6_ 3))), ((q0 6), .inl (k5, 120, .inl f5)), ((q0 73), .inl (k48, 400, .inl f48)), ((q0 2), .inl (k2, 4800, .inl f2)), ((q0 3), .inl (k3, 400, .inl f3))] ∧ va_S A s.heap H locs ∧ lv_has ls 4 [(0, .ref h0), (1, .int r6_), (2, .int (u12_ 0)), (3, .int (u50_ 0))] ∧ zA 0 400 (a50_ 0) ∧ (0 ≤ (u50_ 0).toInt ∧ (u50_ 0).toInt ≤ 1024)) (fun ls u50_ w50_ => F0 m 50 ls []) 0 0 ?_ (fun hJ50 => ?_)
          · skip
            intro H locs ls u50_ w50_ a50_ b50_ hc hJ50
            obtain ⟨hP, hD, hS, hl, ha50_0, b_⟩ := hc
            refine lv_iload_n hx hb dX13_tidy_50 rfl (lv_at hl 3 rfl) ?_
            refine lv_sipush (v := 1024) hx hb dX13_tidy_51 (by decide) ?_
            refine lv_icmp_ge (tgt := 76) hx hb dX13_tidy_54 (by decide) (fun c_ => ?_) (fun c_ => ?_)
            · skip
              have b_ := zT_ge rfl zk_1024 c_
              obtain ⟨z76, e_z76⟩ : ∃ z : Int32, z = (u12_ 0) + Int32.ofInt 1 := ⟨_, rfl⟩
              have b_ := zadd (x := (u12_ 0)) (y := Int32.ofInt 1) rfl (show (Int32.ofInt 1).toInt = 1 from by decide) e_z76 (by omega) (by omega)
              refine lv_iinc (v := z76) (lv' := [(2, .int z76), (0, .ref h0), (1, .int r6_), (3, .int (u50_ 0))]) hx hb dX13_tidy_76 hl (k := 2) rfl e_z76.symm (by decide) rfl (fun ls hl => ?_)
              refine lv_goto (tgt := 12) hx hb dX13_tidy_79 (by decide) ?_
              have b_ : -2147483648 ≤ r6_.toInt ∧ r6_.toInt ≤ 2147483647 := ⟨zlo _, zhi _⟩
              have hc : va_P (dC, dI) vwCl [(h0, .inr (13, mX13 q0 (upd v0 21 0))), ((q0 25), .inl (k17, 400, .inl (a6_ 0))), ((q0 26), .inl (k18, 400, .inl (a6_ 1))), ((q0 7), .inl (k6, 120, .inl f_47)), ((q0 5), .inl (k4, 122880, .inl (a50_ 0))), ((q0 28), .inl (k20, 400, .inl (a6_ 2))), ((q0 27), .inl (k19, 400, .inl (a6_ 3))), ((q0 6), .inl (k5, 120, .inl f5)), ((q0 73), .inl (k48, 400, .inl f48)), ((q0 2), .inl (k2, 4800, .inl f2)), ((q0 3), .inl (k3, 400, .inl f3))] H ∧ va_D A [(h0, .inr (13, mX13 q0 (upd v0 21 0))), ((q0 25), .inl (k17, 400, .inl (a6_ 0))), ((q0 26), .inl (k18, 400, .inl (a6_ 1))), ((q0 7), .inl (k6, 120, .inl f_47)), ((q0 5), .inl (k4, 122880, .inl (a50_ 0))), ((q0 28), .inl (k20, 400, .inl (a6_ 2))), ((q0 27), .inl (k19, 400, .inl (a6_ 3))), ((q0 6), .inl (k5, 120, .inl f5)), ((q0 73), .inl (k48, 400, .inl f48)), ((q0 2), .inl (k2, 4800, .inl f2)), ((q0 3), .inl (k3, 400, .inl f3))] ∧ va_S A s.heap H locs ∧ lv_has ls 4 [(0, .ref h0), (1, .int r6_), (2, .int z76)] ∧ zA 0 400 (a50_ 0) ∧ (0 ≤ z76.toInt ∧ z76.toInt ≤ 120) := ⟨hP, hD, hS, lv_sub hl [1, 2, 0] rfl, ha50_0, ⟨by omega, by omega⟩⟩
              exact hJ12 H locs ls (fun i => ([z76] : List (Int32)).getD i 0) (fun _ => 0) (fun i => ([(a50_ 0), f_47] : List (Nat → Int32)).getD i (fun _ => 0)) (fun _ => (fun _ => 0)) hc (show (120 - z76.toInt).toNat < (120 - (u12_ 0).toInt).toNat from by omega)
            · skip
              have b_ := zF_ge rfl zk_1024 c_
              refine lv_aload_n hx hb dX13_tidy_57 rfl (lv_at hl 0 rfl) ?_
              refine va_get (D := (dC, dI)) (ci := 13) (v := .ref (q0 5)) (C := RX13) (T := TX13) (N := 75) hx hb hG zuX13 hown hK hP 0 rfl rfl 5 (by decide) (hG _ zw567) (fun _ h9 => h9) rfl dX13_tidy_58 ?_
              refine lv_sipush (v := 1024) hx hb dX13_tidy_61 (by decide) ?_
              refine lv_iload_n hx hb dX13_tidy_64 rfl (lv_at hl 2 rfl) ?_
              refine lv_imul hx hb dX13_tidy_65 ?_
              refine lv_topi (fun z65 e_z65 => ?_)
              have b_ := zmul zk_1024 rfl e_z65 (by omega) (by omega)
              refine lv_iload_n hx hb dX13_tidy_66 rfl (lv_at hl 3 rfl) ?_
              refine lv_iadd hx hb dX13_tidy_67 ?_
              refine lv_topi (fun z67 e_z67 => ?_)
              have b_ := zadd rfl rfl e_z67 (by omega) (by omega)
              refine lv_iconst (v := 0) hx hb dX13_tidy_68 (by decide) ?_
              refine va_sast hx hb hK hP hD hS 4 3 rfl rfl (zin_lit ⟨by omega, by omega⟩) dX13_tidy_69 (fun H locs hP hD hS => ?_)
              obtain ⟨f_69, e_f_69⟩ : ∃ z : Nat → Int32, z = upd (a50_ 0) (z67 : Int32).toNatClampNeg (vp_nar .short 0) := ⟨_, rfl⟩
              have hP : va_P (dC, dI) vwCl [(h0, .inr (13, mX13 q0 (upd v0 21 0))), ((q0 25), .inl (k17, 400, .inl (a6_ 0))), ((q0 26), .inl (k18, 400, .inl (a6_ 1))), ((q0 7), .inl (k6, 120, .inl f_47)), ((q0 5), .inl (k4, 122880, .inl f_69)), ((q0 28), .inl (k20, 400, .inl (a6_ 2))), ((q0 27), .inl (k19, 400, .inl (a6_ 3))), ((q0 6), .inl (k5, 120, .inl f5)), ((q0 73), .inl (k48, 400, .inl f48)), ((q0 2), .inl (k2, 4800, .inl f2)), ((q0 3), .inl (k3, 400, .inl f3))] H := by rw [e_f_69]; exact hP
              have hD : va_D A [(h0, .inr (13, mX13 q0 (upd v0 21 0))), ((q0 25), .inl (k17, 400, .inl (a6_ 0))), ((q0 26), .inl (k18, 400, .inl (a6_ 1))), ((q0 7), .inl (k6, 120, .inl f_47)), ((q0 5), .inl (k4, 122880, .inl f_69)), ((q0 28), .inl (k20, 400, .inl (a6_ 2))), ((q0 27), .inl (k19, 400, .inl (a6_ 3))), ((q0 6), .inl (k5, 120, .inl f5)), ((q0 73), .inl (k48, 400, .inl f48)), ((q0 2), .inl (k2, 4800, .inl f2)), ((q0 3), .inl (k3, 400, .inl f3))] := by rw [e_f_69]; exact hD
              have hf_69 : zA 0 400 f_69 := by rw [e_f_69]; exact zA_updS ha50_0 (show 0 ≤ (0 : Int32).toInt from by decide) (show (0 : Int32).toInt ≤ 400 from by decide)
              obtain ⟨z70, e_z70⟩ : ∃ z : Int32, z = (u50_ 0) + Int32.ofInt 1 := ⟨_, rfl⟩
              have b_ := zadd (x := (u50_ 0)) (y := Int32.ofInt 1) rfl (show (Int32.ofInt 1).toInt = 1 from by decide) e_z70 (by omega) (by omega)
              refine lv_iinc (v := z70) (lv' := [(3, .int z70), (0, .ref h0), (1, .int r6_), (2, .int (u12_ 0))]) hx hb dX13_tidy_70 hl (k := 3) rfl e_z70.symm (by decide) rfl (fun ls hl => ?_)
              refine lv_goto (tgt := 50) hx hb dX13_tidy_73 (by decide) ?_
              have b_ : -2147483648 ≤ r6_.toInt ∧ r6_.toInt ≤ 2147483647 := ⟨zlo _, zhi _⟩
              have hc : va_P (dC, dI) vwCl [(h0, .inr (13, mX13 q0 (upd v0 21 0))), ((q0 25), .inl (k17, 400, .inl (a6_ 0))), ((q0 26), .inl (k18, 400, .inl (a6_ 1))), ((q0 7), .inl (k6, 120, .inl f_47)), ((q0 5), .inl (k4, 122880, .inl f_69)), ((q0 28), .inl (k20, 400, .inl (a6_ 2))), ((q0 27), .inl (k19, 400, .inl (a6_ 3))), ((q0 6), .inl (k5, 120, .inl f5)), ((q0 73), .inl (k48, 400, .inl f48)), ((q0 2), .inl (k2, 4800, .inl f2)), ((q0 3), .inl (k3, 400, .inl f3))] H ∧ va_D A [(h0, .inr (13, mX13 q0 (upd v0 21 0))), ((q0 25), .inl (k17, 400, .inl (a6_ 0))), ((q0 26), .inl (k18, 400, .inl (a6_ 1))), ((q0 7), .inl (k6, 120, .inl f_47)), ((q0 5), .inl (k4, 122880, .inl f_69)), ((q0 28), .inl (k20, 400, .inl (a6_ 2))), ((q0 27), .inl (k19, 400, .inl (a6_ 3))), ((q0 6), .inl (k5, 120, .inl f5)), ((q0 73), .inl (k48, 400, .inl f48)), ((q0 2), .inl (k2, 4800, .inl f2)), ((q0 3), .inl (k3, 400, .inl f3))] ∧ va_S A s.heap H locs ∧ lv_has ls 4 [(0, .ref h0), (1, .int r6_), (2, .int (u12_ 0)), (3, .int z70)] ∧ zA 0 400 f_69 ∧ (0 ≤ z70.toInt ∧ z70.toInt ≤ 1024) := ⟨hP, hD, hS, lv_sub hl [1, 2, 3, 0] rfl, hf_69, ⟨by omega, by omega⟩⟩
              exact hJ50 H locs ls (fun i => ([z70] : List (Int32)).getD i 0) (fun _ => 0) (fun i => ([f_69] : List (Nat → Int32)).getD i (fun _ => 0)) (fun _ => (fun _ => 0)) hc (show (1024 - z70.toInt).toNat < (1024 - (u50_ 0).toInt).toNat from by omega)
          · skip
            have b_ : -2147483648 ≤ r6_.toInt ∧ r6_.toInt ≤ 2147483647 := ⟨zlo _, zhi _⟩
            have hc : va_P (dC, dI) vwCl [(h0, .inr (13, mX13 q0 (upd v0 21 0))), ((q0 25), .inl (k17, 400, .inl (a6_ 0))), ((q0 26), .inl (k18, 400, .inl (a6_ 1))), ((q0 7), .inl (k6, 120, .inl f_47)), ((q0 5), .inl (k4, 122880, .inl (a12_ 0))), ((q0 28), .inl (k20, 400, .inl (a6_ 2))), ((q0 27), .inl (k19, 400, .inl (a6_ 3))), ((q0 6), .inl (k5, 120, .inl f5)), ((q0 73), .inl (k48, 400, .inl f48)), ((q0 2), .inl (k2, 4800, .inl f2)), ((q0 3), .inl (k3, 400, .inl f3))] H ∧ va_D A [(h0, .inr (13, mX13 q0 (upd v0 21 0))), ((q0 25), .inl (k17, 400, .inl (a6_ 0))), ((q0 26), .inl (k18, 400, .inl (a6_ 1))), ((q0 7), .inl (k6, 120, .inl f_47)), ((q0 5), .inl (k4, 122880, .inl (a12_ 0))), ((q0 28), .inl (k20, 400, .inl (a6_ 2))), ((q0 27), .inl (k19, 400, .inl (a6_ 3))), ((q0 6), .inl (k5, 120, .inl f5)), ((q0 73), .inl (k48, 400, .inl f48)), ((q0 2), .inl (k2, 4800, .inl f2)), ((q0 3), .inl (k3, 400, .inl f3))] ∧ va_S A s.heap H locs ∧ lv_has ls 4 [(0, .ref h0), (1, .int r6_), (2, .int (u12_ 0)), (3, .int 0)] ∧ zA 0 400 (a12_ 0) ∧ (0 ≤ (0 : Int32).toInt ∧ (0 : Int32).toInt ≤ 1024) := ⟨hP, hD, hS, lv_sub hl [1, 2, 3, 0] rfl, ha12_0, ⟨by omega, by omega⟩⟩
            exact hJ50 H locs ls (fun i => ([0] : List (Int32)).getD i 0) (fun _ => 0) (fun i => ([(a12_ 0)] : List (Nat → Int32)).getD i (fun _ => 0)) (fun _ => (fun _ => 0)) hc
        · skip
          have b_ := zF_ne rfl zk_0 c_
          refine lv_goto (tgt := 76) hx hb dX13_tidy_38 (by decide) ?_
          obtain ⟨z76, e_z76⟩ : ∃ z : Int32, z = (u12_ 0) + Int32.ofInt 1 := ⟨_, rfl⟩
          have b_ := zadd (x := (u12_ 0)) (y := Int32.ofInt 1) rfl (show (Int32.ofInt 1).toInt = 1 from by decide) e_z76 (by omega) (by omega)
          refine lv_iinc (v := z76) (lv' := [(2, .int z76), (0, .ref h0), (1, .int r6_)]) hx hb dX13_tidy_76 hl (k := 2) rfl e_z76.symm (by decide) rfl (fun ls hl => ?_)
          refine lv_goto (tgt := 12) hx hb dX13_tidy_79 (by decide) ?_
          have b_ : -2147483648 ≤ r6_.toInt ∧ r6_.toInt ≤ 2147483647 := ⟨zlo _, zhi _⟩
          have hc : va_P (dC, dI) vwCl [(h0, .inr (13, mX13 q0 (upd v0 21 0))), ((q0 25), .inl (k17, 400, .inl (a6_ 0))), ((q0 26), .inl (k18, 400, .inl (a6_ 1))), ((q0 7), .inl (k6, 120, .inl (a12_ 1))), ((q0 5), .inl (k4, 122880, .inl (a12_ 0))), ((q0 28), .inl (k20, 400, .inl (a6_ 2))), ((q0 27), .inl (k19, 400, .inl (a6_ 3))), ((q0 6), .inl (k5, 120, .inl f5)), ((q0 73), .inl (k48, 400, .inl f48)), ((q0 2), .inl (k2, 4800, .inl f2)), ((q0 3), .inl (k3, 400, .inl f3))] H ∧ va_D A [(h0, .inr (13, mX13 q0 (upd v0 21 0))), ((q0 25), .inl (k17, 400, .inl (a6_ 0))), ((q0 26), .inl (k18, 400, .inl (a6_ 1))), ((q0 7), .inl (k6, 120, .inl (a12_ 1))), ((q0 5), .inl (k4, 122880, .inl (a12_ 0))), ((q0 28), .inl (k20, 400, .inl (a6_ 2))), ((q0 27), .inl (k19, 400, .inl (a6_ 3))), ((q0 6), .inl (k5, 120, .inl f5)), ((q0 73), .inl (k48, 400, .inl f48)), ((q0 2), .inl (k2, 4800, .inl f2)), ((q0 3), .inl (k3, 400, .inl f3))] ∧ va_S A s.heap H locs ∧ lv_has ls 4 [(0, .ref h0), (1, .int r6_), (2, .int z76)] ∧ zA 0 400 (a12_ 0) ∧ (0 ≤ z76.toInt ∧ z76.toInt ≤ 120) := ⟨hP, hD, hS, lv_sub hl [1, 2, 0] rfl, ha12_0, ⟨by omega, by omega⟩⟩
          exact hJ12 H locs ls (fun i => ([z76] : List (Int32)).getD i 0) (fun _ => 0) (fun i => ([(a12_ 0), (a12_ 1)] : List (Nat → Int32)).getD i (fun _ => 0)) (fun _ => (fun _ => 0)) hc (show (120 - z76.toInt).toNat < (120 - (u12_ 0).toInt).toNat from by omega)
  · skip
    have b_ : -2147483648 ≤ r6_.toInt ∧ r6_.toInt ≤ 2147483647 := ⟨zlo _, zhi _⟩
    have hc : va_P (dC, dI) vwCl [(h0, .inr (13, mX13 q0 (upd v0 21 0))), ((q0 25), .inl (k17, 400, .inl (a6_ 0))), ((q0 26), .inl (k18, 400, .inl (a6_ 1))), ((q0 7), .inl (k6, 120, .inl f6)), ((q0 5), .inl (k4, 122880, .inl f4)), ((q0 28), .inl (k20, 400, .inl (a6_ 2))), ((q0 27), .inl (k19, 400, .inl (a6_ 3))), ((q0 6), .inl (k5, 120, .inl f5)), ((q0 73), .inl (k48, 400, .inl f48)), ((q0 2), .inl (k2, 4800, .inl f2)), ((q0 3), .inl (k3, 400, .inl f3))] H ∧ va_D A [(h0, .inr (13, mX13 q0 (upd v0 21 0))), ((q0 25), .inl (k17, 400, .inl (a6_ 0))), ((q0 26), .inl (k18, 400, .inl (a6_ 1))), ((q0 7), .inl (k6, 120, .inl f6)), ((q0 5), .inl (k4, 122880, .inl f4)), ((q0 28), .inl (k20, 400, .inl (a6_ 2))), ((q0 27), .inl (k19, 400, .inl (a6_ 3))), ((q0 6), .inl (k5, 120, .inl f5)), ((q0 73), .inl (k48, 400, .inl f48)), ((q0 2), .inl (k2, 4800, .inl f2)), ((q0 3), .inl (k3, 400, .inl f3))] ∧ va_S A s.heap H locs ∧ lv_has ls 4 [(0, .ref h0), (1, .int r6_), (2, .int 0)] ∧ zA 0 400 f4 ∧ (0 ≤ (0 : Int32).toInt ∧ (0 : Int32).toInt ≤ 120) := ⟨hP, hD, hS, lv_sub hl [2, 1, 0] rfl, hf4, ⟨by omega, by omega⟩⟩
    exact hJ12 H locs ls (fun i => ([0] : List (Int32)).getD i 0) (fun _ => 0) (fun i => ([f4, f6] : List (Nat → Int32)).getD i (fun _ => 0)) (fun _ => (fun _ => 0)) hc
set_option maxHeartbeats 8000000 in
set_option maxRecDepth 100000 in
theorem sX13_keepers_0 (l : Launch) (dC : Nat → ClassId) (dI : Nat → Nat → Nat) (adK adV : Nat → Nat) (h0 : Nat) (q0 : Nat → Nat) (k6 : ClassId) (k10 : ClassId) (k4 : ClassId) (k11 : ClassId) (sz : Nat) (v0 : Nat → Int32) (f6 : Nat → Int32) (f10 : Nat → Int32) (f4 : Nat → Int32) (f11 : Nat → Int32) (x1 : Int32) (hv0 : zR rg_Model v0) (hf10 : zA 0 512 f10) (hf4 : zA 0 400 f4) (hf11 : zA 0 512 f11) : Met l yX13_keepers (zw yX13_keepers cX13_keepers 4 (some .int)) { frames := 1, cells := 0, slots := 0, locals := 24 } (zPc dC dI adK adV [.ref h0, .int x1] sz [(h0, .inr (13, mX13 q0 v0)), ((q0 7), .inl (k6, 120, .inl f6)), ((q0 11), .inl (k10, 120, .inl f10)), ((q0 5), .inl (k4, 122880, .inl f4)), ((q0 12), .inl (k11, 120, .inl f11))] [(k6, .boolean), (k10, .int), (k4, .short), (k11, .int)]) (va_Qi (fun (r : Int32) (u : Nat → Int32) => True) (fun (u : Nat → Int32) (t : State) => ∃ (ww : Nat → Int64) (aa : Nat → Nat → Int32) (bb : Nat → Nat → Int64), va_P (dC, dI) vwCl [(h0, .inr (13, mX13 q0 v0)), ((q0 7), .inl (k6, 120, .inl f6)), ((q0 11), .inl (k10, 120, .inl f10)), ((q0 5), .inl (k4, 122880, .inl f4)), ((q0 12), .inl (k11, 120, .inl f11))] t.heap ∧ va_K (dC, dI) vwCl [(k6, .boolean), (k10, .int), (k4, .short), (k11, .int)] t ∧ va_D (va_A [(h0, .inr (13, mX13 q0 v0)), ((q0 7), .inl (k6, 120, .inl f6)), ((q0 11), .inl (k10, 120, .inl f10)), ((q0 5), .inl (k4, 122880, .inl f4)), ((q0 12), .inl (k11, 120, .inl f11))] sz) [(h0, .inr (13, mX13 q0 v0)), ((q0 7), .inl (k6, 120, .inl f6)), ((q0 11), .inl (k10, 120, .inl f10)), ((q0 5), .inl (k4, 122880, .inl f4)), ((q0 12), .inl (k11, 120, .inl f11))]) (va_A [(h0, .inr (13, mX13 q0 v0)), ((q0 7), .inl (k6, 120, .inl f6)), ((q0 11), .inl (k10, 120, .inl f10)), ((q0 5), .inl (k4, 122880, .inl f4)), ((q0 12), .inl (k11, 120, .inl f11))] sz)) 0 0 (va_A [(h0, .inr (13, mX13 q0 v0)), ((q0 7), .inl (k6, 120, .inl f6)), ((q0 11), .inl (k10, 120, .inl f10)), ((q0 5), .inl (k4, 122880, .inl f4)), ((q0 12), .inl (k11, 120, .inl f11))] sz) := by
  refine Met.ofW (cc := cX13_keepers) (maxL := 4) (ret := (some .int)) (by decide) rfl ?_
  intro p e s m args below meth c s₁ B hml hv
  obtain ⟨rfl, hsz, hP, hK, hD0, hE, hZ⟩ := hv
  have hx := B.exec
  have hb := B.bytes
  have hr := B.returns
  have hG : ∀ w ∈ zG, w.before _ s = true := fun w h => atoms_spec (ws := (zw yX13_keepers cX13_keepers 4 (some .int))) B.pre w (List.mem_cons_of_mem _ h)
  have hown : s.vm.findClass RX13 = some m.cls := findClass_of_methodNamed B.named
  have hlocks := B.notSynchronized
  subst hsz
  have hD := hD0.self (sz := s.heap.size)
  generalize hAe : va_A [(h0, .inr (13, mX13 q0 v0)), ((q0 7), .inl (k6, 120, .inl f6)), ((q0 11), .inl (k10, 120, .inl f10)), ((q0 5), .inl (k4, 122880, .inl f4)), ((q0 12), .inl (k11, 120, .inl f11))] s.heap.size = A at hD hZ ⊢
  have hA : ∀ q : Nat, s.heap.size ≤ q → A q := fun q h => by rw [← hAe]; exact Or.inr h
  have hS : va_S A s.heap s.heap [] := va_S.rf
  have hl := lv_entry ([.ref h0, .int x1]) (n := 4) (Nat.le_of_ble_eq_true rfl)
  rw [lg_entry_eq]
  generalize (lg_sl ([.ref h0, .int x1]) ++ List.replicate (4 - (lg_sl ([.ref h0, .int x1])).length) Slot.unset).toArray = ls at hl ⊢
  have hl : lv_has ls 4 [(0, .ref h0), (1, .int x1)] := hl
  have b_ := zk_0
  refine lv_iconst (v := 0) hx hb dX13_keepers_0 (by decide) ?_
  refine lv_istore_n (lv' := [(2, .int 0), (0, .ref h0), (1, .int x1)]) hx hb dX13_keepers_1 rfl hl (by decide) rfl (fun ls hl => ?_)
  refine lv_iconst (v := 0) hx hb dX13_keepers_2 (by decide) ?_
  refine lv_istore_n (lv' := [(3, .int 0), (2, .int 0), (0, .ref h0), (1, .int x1)]) hx hb dX13_keepers_3 rfl hl (by decide) rfl (fun ls hl => ?_)
  refine zcutL (fun u4_ => (120 - (u4_ 1).toInt).toNat) (fun H locs ls u4_ w4_ a4_ b4_ => va_P (dC, dI) vwCl [(h0, .inr (13, mX13 q0 v0)), ((q0 7), .inl (k6, 120, .inl f6)), ((q0 11), .inl (k10, 120, .inl f10)), ((q0 5), .inl (k4, 122880, .inl f4)), ((q0 12), .inl (k11, 120, .inl f11))] H ∧ va_D A [(h0, .inr (13, mX13 q0 v0)), ((q0 7), .inl (k6, 120, .inl f6)), ((q0 11), .inl (k10, 120, .inl f10)), ((q0 5), .inl (k4, 122880, .inl f4)), ((q0 12), .inl (k11, 120, .inl f11))] ∧ va_S A s.heap H locs ∧ lv_has ls 4 [(0, .ref h0), (1, .int x1), (2, .int (u4_ 0)), (3, .int (u4_ 1))] ∧ (0 ≤ (u4_ 1).toInt ∧ (u4_ 1).toInt ≤ 120)) (fun ls u4_ w4_ => F0 m 4 ls []) 0 0 ?_ (fun hJ4 => ?_)
  · skip
    intro H locs ls u4_ w4_ a4_ b4_ hc hJ4
    obtain ⟨hP, hD, hS, hl, b_⟩ := hc
    refine lv_iload_n hx hb dX13_keepers_4 rfl (lv_at hl 3 rfl) ?_
    refine lv_aload_n hx hb dX13_keepers_5 rfl (lv_at hl 0 rfl) ?_
    have b_ : 0 ≤ (v0 13).toInt ∧ (v0 13).toInt ≤ 120 := hv0 13
    refine va_get (D := (dC, dI)) (ci := 13) (v := .int (v0 13)) (C := RX13) (T := TX13) (N := 75) hx hb hG zuX13 hown hK hP 0 rfl rfl 13 (by decide) (hG _ zw565) (fun _ h9 => h9) rfl dX13_keepers_6 ?_
    refine lv_icmp_ge (tgt := 44) hx hb dX13_keepers_9 (by decide) (fun c_ => ?_) (fun c_ => ?_)
    · skip
      have b_ := zT_ge rfl rfl c_
      refine lv_iload_n hx hb dX13_keepers_44 rfl (lv_at hl 2 rfl) ?_
      refine W.widen (k := 0) (n := 0) (by decide) (by decide) ?_
      have b_ : -2147483648 ≤ (u4_ 0).toInt ∧ (u4_ 0).toInt ≤ 2147483647 := ⟨zlo _, zhi _⟩
      have hpost : True := trivial
      have hP9 : va_P (dC, dI) vwCl [(h0, .inr (13, mX13 q0 v0)), ((q0 7), .inl (k6, 120, .inl f6)), ((q0 11), .inl (k10, 120, .inl f10)), ((q0 5), .inl (k4, 122880, .inl f4)), ((q0 12), .inl (k11, 120, .inl f11))] H := hP
      have hD9 : va_D A [(h0, .inr (13, mX13 q0 v0)), ((q0 7), .inl (k6, 120, .inl f6)), ((q0 11), .inl (k10, 120, .inl f10)), ((q0 5), .inl (k4, 122880, .inl f4)), ((q0 12), .inl (k11, 120, .inl f11))] := hD
      exact W.iret (v := (u4_ 0)) hx hb hr (fun t ht hW => ⟨⟨(u4_ 0), (fun _ => 0), rfl, hpost, (fun _ => 0), (fun _ => (fun _ => 0)), (fun _ => (fun _ => 0)), by rw [ht]; exact hP9, va_K.moved hW.alike hK, hD9⟩, hS.F ht⟩) hS.2.2 dX13_keepers_45
    · skip
      have b_ := zF_ge rfl rfl c_
      refine lv_iload_n hx hb dX13_keepers_12 rfl (lv_at hl 2 rfl) ?_
      refine lv_aload_n hx hb dX13_keepers_13 rfl (lv_at hl 0 rfl) ?_
      refine va_get (D := (dC, dI)) (ci := 13) (v := .ref (q0 7)) (C := RX13) (T := TX13) (N := 75) hx hb hG zuX13 hown hK hP 0 rfl rfl 7 (by decide) (hG _ zw571) (fun _ h9 => h9) rfl dX13_keepers_14 ?_
      refine lv_iload_n hx hb dX13_keepers_17 rfl (lv_at hl 3 rfl) ?_
      refine va_zald hx hb hK hP 1 0 rfl rfl (zin_lit ⟨by omega, by omega⟩) dX13_keepers_18 ?_
      refine lv_topi (fun z18 e_z18 => ?_)
      have b_ : -2147483648 ≤ z18.toInt ∧ z18.toInt ≤ 2147483647 := ⟨zlo _, zhi _⟩
      refine lv_if_eq (tgt := 35) hx hb dX13_keepers_19 (by decide) (fun c_ => ?_) (fun c_ => ?_)
      · skip
        have b_ := zT_eq rfl zk_0 c_
        refine lv_iconst (v := 0) hx hb dX13_keepers_35 (by decide) ?_
        have b_ : -2147483648 ≤ (u4_ 0).toInt ∧ (u4_ 0).toInt ≤ 2147483647 := ⟨zlo _, zhi _⟩
        refine lv_iadd hx hb dX13_keepers_36 ?_
        refine lv_topi (fun z36 e_z36 => ?_)
        have b_ := zadd rfl zk_0 e_z36 (by omega) (by omega)
        refine lv_istore_n (lv' := [(2, .int z36), (0, .ref h0), (1, .int x1), (3, .int (u4_ 1))]) hx hb dX13_keepers_37 rfl hl (by decide) rfl (fun ls hl => ?_)
        obtain ⟨z38, e_z38⟩ : ∃ z : Int32, z = (u4_ 1) + Int32.ofInt 1 := ⟨_, rfl⟩
        have b_ := zadd (x := (u4_ 1)) (y := Int32.ofInt 1) rfl (show (Int32.ofInt 1).toInt = 1 from by decide) e_z38 (by omega) (by omega)
        refine lv_iinc (v := z38) (lv' := [(3, .int z38), (2, .int z36), (0, .ref h0), (1, .int x1)]) hx hb dX13_keepers_38 hl (k := 3) rfl e_z38.symm (by decide) rfl (fun ls hl => ?_)
        refine lv_goto (tgt := 4) hx hb dX13_keepers_41 (by decide) ?_
        have b_ : -2147483648 ≤ x1.toInt ∧ x1.toInt ≤ 2147483647 := ⟨zlo _, zhi _⟩
        have hc : va_P (dC, dI) vwCl [(h0, .inr (13, mX13 q0 v0)), ((q0 7), .inl (k6, 120, .inl f6)), ((q0 11), .inl (k10, 120, .inl f10)), ((q0 5), .inl (k4, 122880, .inl f4)), ((q0 12), .inl (k11, 120, .inl f11))] H ∧ va_D A [(h0, .inr (13, mX13 q0 v0)), ((q0 7), .inl (k6, 120, .inl f6)), ((q0 11), .inl (k10, 120, .inl f10)), ((q0 5), .inl (k4, 122880, .inl f4)), ((q0 12), .inl (k11, 120, .inl f11))] ∧ va_S A s.heap H locs ∧ lv_has ls 4 [(0, .ref h0), (1, .int x1), (2, .int z36), (3, .int z38)] ∧ (0 ≤ z38.toInt ∧ z38.toInt ≤ 120) := ⟨hP, hD, hS, lv_sub hl [2, 3, 1, 0] rfl, ⟨by omega, by omega⟩⟩
        exact hJ4 H locs ls (fun i => ([z36, z38] : List (Int32)).getD i 0) (fun _ => 0) (fun _ => (fun _ => 0)) (fun _ => (fun _ => 0)) hc (show (120 - z38.toInt).toNat < (120 - (u4_ 1).toInt).toNat from by omega)
      · skip
        have b_ := zF_eq rfl zk_0 c_
        refine lv_aload_n hx hb dX13_keepers_22 rfl (lv_at hl 0 rfl) ?_
        refine lv_iload_n hx hb dX13_keepers_23 rfl (lv_at hl 3 rfl) ?_
        refine lv_iload_n hx hb dX13_keepers_24 rfl (lv_at hl 1 rfl) ?_
        have hPc := hP.sub (ws' := [(h0, .inr (13, mX13 q0 v0)), ((q0 11), .inl (k10, 120, .inl f10)), ((q0 5), .inl (k4, 122880, .inl f4)), ((q0 12), .inl (k11, 120, .inl f11))]) [0, 2, 3, 4] rfl
        have hDc := hD.sub (ws' := [(h0, .inr (13, mX13 q0 v0)), ((q0 11), .inl (k10, 120, .inl f10)), ((q0 5), .inl (k4, 122880, .inl f4)), ((q0 12), .inl (k11, 120, .inl f11))]) [0, 2, 3, 4] (by decide) rfl
        have hKc := hK.sub (tys' := [(k10, .int), (k4, .short), (k11, .int)]) [1, 2, 3] rfl
        have hFc := va_free (wc := [(h0, .inr (13, mX13 q0 v0)), ((q0 11), .inl (k10, 120, .inl f10)), ((q0 5), .inl (k4, 122880, .inl f4)), ((q0 12), .inl (k11, 120, .inl f11))]) hD hS hA [0, 2, 3, 4] rfl
        refine va_calli (va_runV (As := [.int (u4_ 1), .int x1]) (rest := [.int (u4_ 0)]) ⟨hx, hb, hml, hown, hG⟩ (sX13_timesOf_0 l dC dI adK adV h0 q0 k10 k4 k11 H.size v0 f10 f4 f11 (u4_ 1) x1 hv0 hf10 hf4 hf11 ⟨show (0 : Int) ≤ ((u4_ 1) : Int32).toInt from by omega, show ((u4_ 1) : Int32).toInt ≤ (119 : Int) from by omega⟩) (cwV 2 hG (zgV zw639 zw640 zw641 zw524 zw642) rfl rfl rfl (by decide +kernel) ⟨Nat.le_of_ble_eq_true rfl, Nat.le_of_ble_eq_true rfl⟩) ⟨zPc_blind, va_recv hKc hPc (ci := 13) (q0 := 0) rfl rfl, zPc_pre hPc hKc hDc hE hS hFc hZ⟩ rfl rfl hl.1 rfl (lv_room (Nat.le_of_ble_eq_true rfl)) dX13_keepers_25 ⟨Nat.le_of_ble_eq_true rfl, Nat.le_of_ble_eq_true rfl⟩) hS (fun q _ h => hFc q h) hFc (fun r25_ u25_ t H1 locs ht hvm hw hB hz1 hk1 hS => ?_)
        obtain ⟨w25_, a25_, b25_, hP1, hK1, hD1⟩ := hB
        rw [ht] at hP1
        obtain ⟨hP, hD⟩ := va_join (wr := [((q0 7), .inl (k6, 120, .inl f6))]) (w1 := [(h0, .inr (13, mX13 q0 v0)), ((q0 11), .inl (k10, 120, .inl f10)), ((q0 5), .inl (k4, 122880, .inl f4)), ((q0 12), .inl (k11, 120, .inl f11))]) hP hD [0, 2, 3, 4] [1] rfl rfl (by decide) (by decide) hk1 hFc hP1 hD1
        have hP : va_P (dC, dI) vwCl [(h0, .inr (13, mX13 q0 v0)), ((q0 7), .inl (k6, 120, .inl f6)), ((q0 11), .inl (k10, 120, .inl f10)), ((q0 5), .inl (k4, 122880, .inl f4)), ((q0 12), .inl (k11, 120, .inl f11))] H1 := hP.sub [1, 0, 2, 3, 4] rfl
        have hD : va_D A [(h0, .inr (13, mX13 q0 v0)), ((q0 7), .inl (k6, 120, .inl f6)), ((q0 11), .inl (k10, 120, .inl f10)), ((q0 5), .inl (k4, 122880, .inl f4)), ((q0 12), .inl (k11, 120, .inl f11))] := hD.sub [1, 0, 2, 3, 4] (by decide) rfl
        generalize H1 = H at hP hS ⊢
        clear hz1
        have b_ : -2147483648 ≤ r25_.toInt ∧ r25_.toInt ≤ 2147483647 := ⟨zlo _, zhi _⟩
        refine lv_if_le (tgt := 35) hx hb dX13_keepers_28 (by decide) (fun c_ => ?_) (fun c_ => ?_)
        · skip
          have b_ := zT_le rfl zk_0 c_
          refine lv_iconst (v := 0) hx hb dX13_keepers_35 (by decide) ?_
          have b_ : -2147483648 ≤ (u4_ 0).toInt ∧ (u4_ 0).toInt ≤ 2147483647 := ⟨zlo _, zhi _⟩
          refine lv_iadd hx hb dX13_keepers_36 ?_
          refine lv_topi (fun z36 e_z36 => ?_)
          have b_ := zadd rfl zk_0 e_z36 (by omega) (by omega)
          refine lv_istore_n (lv' := [(2, .int z36), (0, .ref h0), (1, .int x1), (3, .int (u4_ 1))]) hx hb dX13_keepers_37 rfl hl (by decide) rfl (fun ls hl => ?_)
          obtain ⟨z38, e_z38⟩ : ∃ z : Int32, z = (u4_ 1) + Int32.ofInt 1 := ⟨_, rfl⟩
          have b_ := zadd (x := (u4_ 1)) (y := Int32.ofInt 1) rfl (show (Int32.ofInt 1).toInt = 1 from by decide) e_z38 (by omega) (by omega)
          refine lv_iinc (v := z38) (lv' := [(3, .int z38), (2, .int z36), (0, .ref h0), (1, .int x1)]) hx hb dX13_keepers_38 hl (k := 3) rfl e_z38.symm (by decide) rfl (fun ls hl => ?_)
          refine lv_goto (tgt := 4) hx hb dX13_keepers_41 (by decide) ?_
          have b_ : -2147483648 ≤ x1.toInt ∧ x1.toInt ≤ 2147483647 := ⟨zlo _, zhi _⟩
          have hc : va_P (dC, dI) vwCl [(h0, .inr (13, mX13 q0 v0)), ((q0 7), .inl (k6, 120, .inl f6)), ((q0 11), .inl (k10, 120, .inl f10)), ((q0 5), .inl (k4, 122880, .inl f4)), ((q0 12), .inl (k11, 120, .inl f11))] H ∧ va_D A [(h0, .inr (13, mX13 q0 v0)), ((q0 7), .inl (k6, 120, .inl f6)), ((q0 11), .inl (k10, 120, .inl f10)), ((q0 5), .inl (k4, 122880, .inl f4)), ((q0 12), .inl (k11, 120, .inl f11))] ∧ va_S A s.heap H locs ∧ lv_has ls 4 [(0, .ref h0), (1, .int x1), (2, .int z36), (3, .int z38)] ∧ (0 ≤ z38.toInt ∧ z38.toInt ≤ 120) := ⟨hP, hD, hS, lv_sub hl [2, 3, 1, 0] rfl, ⟨by omega, by omega⟩⟩
          exact hJ4 H locs ls (fun i => ([z36, z38] : List (Int32)).getD i 0) (fun _ => 0) (fun _ => (fun _ => 0)) (fun _ => (fun _ => 0)) hc (show (120 - z38.toInt).toNat < (120 - (u4_ 1).toInt).toNat from by omega)
        · skip
          have b_ := zF_le rfl zk_0 c_
          refine lv_iconst (v := 1) hx hb dX13_keepers_31 (by decide) ?_
          refine lv_goto (tgt := 36) hx hb dX13_keepers_32 (by decide) ?_
          have b_ : -2147483648 ≤ (u4_ 0).toInt ∧ (u4_ 0).toInt ≤ 2147483647 := ⟨zlo _, zhi _⟩
          refine lv_iadd hx hb dX13_keepers_36 ?_
          refine lv_topi (fun z36 e_z36 => ?_)
          refine lv_istore_n (lv' := [(2, .int z36), (0, .ref h0), (1, .int x1), (3, .int (u4_ 1))]) hx hb dX13_keepers_37 rfl hl (by decide) rfl (fun ls hl => ?_)
          obtain ⟨z38, e_z38⟩ : ∃ z : Int32, z = (u4_ 1) + Int32.ofInt 1 := ⟨_, rfl⟩
          have b_ := zadd (x := (u4_ 1)) (y := Int32.ofInt 1) rfl (show (Int32.ofInt 1).toInt = 1 from by decide) e_z38 (by omega) (by omega)
          refine lv_iinc (v := z38) (lv' := [(3, .int z38), (2, .int z36), (0, .ref h0), (1, .int x1)]) hx hb dX13_keepers_38 hl (k := 3) rfl e_z38.symm (by decide) rfl (fun ls hl => ?_)
          refine lv_goto (tgt := 4) hx hb dX13_keepers_41 (by decide) ?_
          have b_ : -2147483648 ≤ x1.toInt ∧ x1.toInt ≤ 2147483647 := ⟨zlo _, zhi _⟩
          have b_ : -2147483648 ≤ z36.toInt ∧ z36.toInt ≤ 2147483647 := ⟨zlo _, zhi _⟩
          have hc : va_P (dC, dI) vwCl [(h0, .inr (13, mX13 q0 v0)), ((q0 7), .inl (k6, 120, .inl f6)), ((q0 11), .inl (k10, 120, .inl f10)), ((q0 5), .inl (k4, 122880, .inl f4)), ((q0 12), .inl (k11, 120, .inl f11))] H ∧ va_D A [(h0, .inr (13, mX13 q0 v0)), ((q0 7), .inl (k6, 120, .inl f6)), ((q0 11), .inl (k10, 120, .inl f10)), ((q0 5), .inl (k4, 122880, .inl f4)), ((q0 12), .inl (k11, 120, .inl f11))] ∧ va_S A s.heap H locs ∧ lv_has ls 4 [(0, .ref h0), (1, .int x1), (2, .int z36), (3, .int z38)] ∧ (0 ≤ z38.toInt ∧ z38.toInt ≤ 120) := ⟨hP, hD, hS, lv_sub hl [2, 3, 1, 0] rfl, ⟨by omega, by omega⟩⟩
          exact hJ4 H locs ls (fun i => ([z36, z38] : List (Int32)).getD i 0) (fun _ => 0) (fun _ => (fun _ => 0)) (fun _ => (fun _ => 0)) hc (show (120 - z38.toInt).toNat < (120 - (u4_ 1).toInt).toNat from by omega)
  · skip
    have b_ : -2147483648 ≤ x1.toInt ∧ x1.toInt ≤ 2147483647 := ⟨zlo _, zhi _⟩
    have hc : va_P (dC, dI) vwCl [(h0, .inr (13, mX13 q0 v0)), ((q0 7), .inl (k6, 120, .inl f6)), ((q0 11), .inl (k10, 120, .inl f10)), ((q0 5), .inl (k4, 122880, .inl f4)), ((q0 12), .inl (k11, 120, .inl f11))] s.heap ∧ va_D A [(h0, .inr (13, mX13 q0 v0)), ((q0 7), .inl (k6, 120, .inl f6)), ((q0 11), .inl (k10, 120, .inl f10)), ((q0 5), .inl (k4, 122880, .inl f4)), ((q0 12), .inl (k11, 120, .inl f11))] ∧ va_S A s.heap s.heap [] ∧ lv_has ls 4 [(0, .ref h0), (1, .int x1), (2, .int 0), (3, .int 0)] ∧ (0 ≤ (0 : Int32).toInt ∧ (0 : Int32).toInt ≤ 120) := ⟨hP, hD, hS, lv_sub hl [2, 3, 1, 0] rfl, ⟨by omega, by omega⟩⟩
    exact hJ4 s.heap [] ls (fun i => ([0, 0] : List (Int32)).getD i 0) (fun _ => 0) (fun _ => (fun _ => 0)) (fun _ => (fun _ => 0)) hc
