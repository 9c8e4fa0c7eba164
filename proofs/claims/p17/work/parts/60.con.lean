set_option maxHeartbeats 8000000 in
set_option maxRecDepth 100000 in
theorem sX13_tally_0 (l : Launch) (dC : Nat → ClassId) (dI : Nat → Nat → Nat) (adK adV : Nat → Nat) (h0 : Nat) (q0 : Nat → Nat) (h50 : Nat) (k50 : ClassId) (k10 : ClassId) (k4 : ClassId) (k11 : ClassId) (sz : Nat) (v0 : Nat → Int32) (f50 : Nat → Int32) (f10 : Nat → Int32) (f4 : Nat → Int32) (f11 : Nat → Int32) (x1 : Int32) (hv0 : zR rg_Model v0) (hf10 : zA 0 512 f10) (hf4 : zA 0 400 f4) (hf11 : zA 0 512 f11) (hx1 : 0 ≤ x1.toInt ∧ x1.toInt ≤ 119) : Met l yX13_tally (zw yX13_tally cX13_tally 4 none) { frames := 0, cells := 0, slots := 0, locals := 0 } (zPc dC dI adK adV [.ref h0, .int x1, .ref h50] sz [(h0, .inr (13, mX13 q0 v0)), (h50, zi k50 400 f50), ((q0 11), zi k10 120 f10), ((q0 5), zi k4 122880 f4), ((q0 12), zi k11 120 f11)] [(k50, .int), (k10, .int), (k4, .short), (k11, .int)]) (va_Qv (fun (u : Nat → Int32) => True) (fun (u : Nat → Int32) (t : State) => ∃ (ww : Nat → Int64) (aa : Nat → Nat → Int32) (bb : Nat → Nat → Int64), (zTc (aa 0) f4 f10 f11 (v0 4).toInt x1.toInt) ∧ va_P (dC, dI) vwCl [(h0, .inr (13, mX13 q0 v0)), (h50, zi k50 400 (aa 0)), ((q0 11), zi k10 120 f10), ((q0 5), zi k4 122880 f4), ((q0 12), zi k11 120 f11)] t.heap ∧ va_K (dC, dI) vwCl [(k50, .int), (k10, .int), (k4, .short), (k11, .int)] t ∧ va_D (va_A [(h0, .inr (13, mX13 q0 v0)), (h50, zi k50 400 f50), ((q0 11), zi k10 120 f10), ((q0 5), zi k4 122880 f4), ((q0 12), zi k11 120 f11)] sz) [(h0, .inr (13, mX13 q0 v0)), (h50, zi k50 400 (aa 0)), ((q0 11), zi k10 120 f10), ((q0 5), zi k4 122880 f4), ((q0 12), zi k11 120 f11)]) (va_A [(h0, .inr (13, mX13 q0 v0)), (h50, zi k50 400 f50), ((q0 11), zi k10 120 f10), ((q0 5), zi k4 122880 f4), ((q0 12), zi k11 120 f11)] sz)) 0 0 (va_A [(h0, .inr (13, mX13 q0 v0)), (h50, zi k50 400 f50), ((q0 11), zi k10 120 f10), ((q0 5), zi k4 122880 f4), ((q0 12), zi k11 120 f11)] sz) := by
  refine Met.ofW (cc := cX13_tally) (maxL := 4) (ret := none) (by decide) rfl ?_
  intro p e s m args below meth c s₁ B hml hv
  obtain ⟨rfl, hsz, hP, hK, hD0, hE, hZ⟩ := hv
  have hx := B.exec
  have hb := B.bytes
  have hr := B.returns
  have hG : ∀ w ∈ zG, w.before _ s = true := fun w h => atoms_spec (ws := (zw yX13_tally cX13_tally 4 none)) B.pre w (List.mem_cons_of_mem _ h)
  have hown : s.vm.findClass RX13 = some m.cls := findClass_of_methodNamed B.named
  have hlocks := B.notSynchronized

  subst hsz
  have hD := hD0.self (sz := s.heap.size)
  generalize hAe : va_A [(h0, .inr (13, mX13 q0 v0)), (h50, zi k50 400 f50), ((q0 11), zi k10 120 f10), ((q0 5), zi k4 122880 f4), ((q0 12), zi k11 120 f11)] s.heap.size = A at hD hZ ⊢
  have hA : ∀ q : Nat, s.heap.size ≤ q → A q := fun q h => by rw [← hAe]; exact Or.inr h
  have hS : va_S A s.heap s.heap [] := va_S.rf
  have hl := lv_entry ([.ref h0, .int x1, .ref h50]) (n := 4) (Nat.le_of_ble_eq_true rfl)
  rw [lg_entry_eq]
  generalize (lg_sl ([.ref h0, .int x1, .ref h50]) ++ List.replicate (4 - (lg_sl ([.ref h0, .int x1, .ref h50])).length) Slot.unset).toArray = ls at hl ⊢
  have hl : lv_has ls 4 [(0, .ref h0), (1, .int x1), (2, .ref h50)] := hl
  have b_ := zk_0
  have b_ := zk_512
  have b_ := hf10 (x1 : Int32).toNatClampNeg
  have b_ := hf11 (x1 : Int32).toNatClampNeg
  have b_ : 0 ≤ (v0 4).toInt ∧ (v0 4).toInt ≤ 400 := hv0 4
  have b_ : 0 ≤ (v0 13).toInt ∧ (v0 13).toInt ≤ 120 := hv0 13
  refine lv_iconst (v := 0) hx hb dX13_tally_0 (by decide) ?_
  refine lv_istore_n (lv' := [(3, .int 0), (0, .ref h0), (1, .int x1), (2, .ref h50)]) hx hb dX13_tally_1 rfl hl (by decide) rfl (fun ls hl => ?_)
  refine zcutL (fun u2_ => (400 - (u2_ 0).toInt).toNat) (fun H locs ls u2_ w2_ a2_ b2_ => va_P (dC, dI) vwCl [(h0, .inr (13, mX13 q0 v0)), (h50, zi k50 400 (a2_ 0)), ((q0 11), zi k10 120 f10), ((q0 5), zi k4 122880 f4), ((q0 12), zi k11 120 f11)] H ∧ va_D A [(h0, .inr (13, mX13 q0 v0)), (h50, zi k50 400 (a2_ 0)), ((q0 11), zi k10 120 f10), ((q0 5), zi k4 122880 f4), ((q0 12), zi k11 120 f11)] ∧ va_S A s.heap H locs ∧ lv_has ls 4 [(0, .ref h0), (1, .int x1), (2, .ref h50), (3, .int (u2_ 0))] ∧ (0 ≤ (u2_ 0).toInt ∧ (u2_ 0).toInt ≤ 400) ∧ (zT0 (a2_ 0) (u2_ 0).toInt) ∧ ((u2_ 0).toInt ≤ (v0 4).toInt)) (fun ls u2_ w2_ => F0 m 2 ls []) 0 0 ?_ (fun hJ2 => ?_)
  · skip
    intro H locs ls u2_ w2_ a2_ b2_ hc hJ2
    obtain ⟨hP, hD, hS, hl, b_, hI2_0, b_⟩ := hc
    refine lv_iload_n hx hb dX13_tally_2 rfl (lv_at hl 3 rfl) ?_
    refine lv_aload_n hx hb dX13_tally_3 rfl (lv_at hl 0 rfl) ?_
    refine va_get (D := (dC, dI)) (ci := 13) (v := .int (v0 4)) (C := RX13) (T := TX13) (N := 75) hx hb hG zuX13 hown hK hP 0 rfl rfl 4 (by decide) (hG _ zv1608) (fun _ h9 => h9) rfl dX13_tally_4 ?_
    refine lv_icmp_ge (tgt := 20) hx hb dX13_tally_7 (by decide) (fun c_ => ?_) (fun c_ => ?_)
    · skip
      have b_ := zT_ge rfl rfl c_
      refine lv_iconst (v := 0) hx hb dX13_tally_20 (by decide) ?_
      refine lv_istore_n (lv' := [(3, .int 0), (0, .ref h0), (1, .int x1), (2, .ref h50)]) hx hb dX13_tally_21 rfl hl (by decide) rfl (fun ls hl => ?_)
      refine zcutL (fun u22_ => (512 - (u22_ 0).toInt).toNat) (fun H locs ls u22_ w22_ a22_ b22_ => va_P (dC, dI) vwCl [(h0, .inr (13, mX13 q0 v0)), (h50, zi k50 400 (a22_ 0)), ((q0 11), zi k10 120 f10), ((q0 5), zi k4 122880 f4), ((q0 12), zi k11 120 f11)] H ∧ va_D A [(h0, .inr (13, mX13 q0 v0)), (h50, zi k50 400 (a22_ 0)), ((q0 11), zi k10 120 f10), ((q0 5), zi k4 122880 f4), ((q0 12), zi k11 120 f11)] ∧ va_S A s.heap H locs ∧ lv_has ls 4 [(0, .ref h0), (1, .int x1), (2, .ref h50), (3, .int (u22_ 0))] ∧ (0 ≤ (u22_ 0).toInt ∧ (u22_ 0).toInt ≤ 512) ∧ (zTa (a22_ 0) f4 (v0 4).toInt x1.toInt (u22_ 0).toInt) ∧ ((u22_ 0).toInt ≤ (f10 ((x1 : Int32)).toNatClampNeg).toInt)) (fun ls u22_ w22_ => F0 m 22 ls []) 0 0 ?_ (fun hJ22 => ?_)
      · skip
        intro H locs ls u22_ w22_ a22_ b22_ hc hJ22
        obtain ⟨hP, hD, hS, hl, b_, hI22_0, b_⟩ := hc
        refine lv_iload_n hx hb dX13_tally_22 rfl (lv_at hl 3 rfl) ?_
        refine lv_aload_n hx hb dX13_tally_23 rfl (lv_at hl 0 rfl) ?_
        refine va_get (D := (dC, dI)) (ci := 13) (v := .ref (q0 11)) (C := RX13) (T := TX13) (N := 75) hx hb hG zuX13 hown hK hP 0 rfl rfl 11 (by decide) (hG _ zv1615) (fun _ h9 => h9) rfl dX13_tally_24 ?_
        refine lv_iload_n hx hb dX13_tally_27 rfl (lv_at hl 1 rfl) ?_
        refine va_iald hx hb hK hP 2 1 rfl rfl (zin_lit ⟨by omega, by omega⟩) dX13_tally_28 ?_
        refine lv_topi (fun z28 e_z28 => ?_)
        have b_ : 0 ≤ z28.toInt ∧ z28.toInt ≤ 512 := by rw [e_z28]; exact hf10 _
        have b_ : z28.toInt = (f10 (x1 : Int32).toNatClampNeg).toInt := by rw [e_z28]
        refine lv_icmp_ge (tgt := 73) hx hb dX13_tally_29 (by decide) (fun c_ => ?_) (fun c_ => ?_)
        · skip
          have b_ := zT_ge rfl rfl c_
          refine lv_sipush (v := 512) hx hb dX13_tally_73 (by decide) ?_
          refine lv_istore_n (lv' := [(3, .int 512), (0, .ref h0), (1, .int x1), (2, .ref h50)]) hx hb dX13_tally_76 rfl hl (by decide) rfl (fun ls hl => ?_)
          refine zcutL (fun u77_ => (1024 - (u77_ 0).toInt).toNat) (fun H locs ls u77_ w77_ a77_ b77_ => va_P (dC, dI) vwCl [(h0, .inr (13, mX13 q0 v0)), (h50, zi k50 400 (a77_ 0)), ((q0 11), zi k10 120 f10), ((q0 5), zi k4 122880 f4), ((q0 12), zi k11 120 f11)] H ∧ va_D A [(h0, .inr (13, mX13 q0 v0)), (h50, zi k50 400 (a77_ 0)), ((q0 11), zi k10 120 f10), ((q0 5), zi k4 122880 f4), ((q0 12), zi k11 120 f11)] ∧ va_S A s.heap H locs ∧ lv_has ls 4 [(0, .ref h0), (1, .int x1), (2, .ref h50), (3, .int (u77_ 0))] ∧ (512 ≤ (u77_ 0).toInt ∧ (u77_ 0).toInt ≤ 1024) ∧ (zTb (a77_ 0) f4 (v0 4).toInt x1.toInt (f10 ((x1 : Int32)).toNatClampNeg).toInt (u77_ 0).toInt) ∧ ((u77_ 0).toInt ≤ 512 + (f11 ((x1 : Int32)).toNatClampNeg).toInt)) (fun ls u77_ w77_ => F0 m 77 ls []) 0 0 ?_ (fun hJ77 => ?_)
          · skip
            intro H locs ls u77_ w77_ a77_ b77_ hc hJ77
            obtain ⟨hP, hD, hS, hl, b_, hI77_0, b_⟩ := hc
            refine lv_iload_n hx hb dX13_tally_77 rfl (lv_at hl 3 rfl) ?_
            refine lv_sipush (v := 512) hx hb dX13_tally_78 (by decide) ?_
            refine lv_aload_n hx hb dX13_tally_81 rfl (lv_at hl 0 rfl) ?_
            refine va_get (D := (dC, dI)) (ci := 13) (v := .ref (q0 12)) (C := RX13) (T := TX13) (N := 75) hx hb hG zuX13 hown hK hP 0 rfl rfl 12 (by decide) (hG _ zv1616) (fun _ h9 => h9) rfl dX13_tally_82 ?_
            refine lv_iload_n hx hb dX13_tally_85 rfl (lv_at hl 1 rfl) ?_
            refine va_iald hx hb hK hP 4 3 rfl rfl (zin_lit ⟨by omega, by omega⟩) dX13_tally_86 ?_
            refine lv_topi (fun z86 e_z86 => ?_)
            have b_ : 0 ≤ z86.toInt ∧ z86.toInt ≤ 512 := by rw [e_z86]; exact hf11 _
            have b_ : z86.toInt = (f11 (x1 : Int32).toNatClampNeg).toInt := by rw [e_z86]
            refine lv_iadd hx hb dX13_tally_87 ?_
            refine lv_topi (fun z87 e_z87 => ?_)
            have b_ := zadd zk_512 rfl e_z87 (by omega) (by omega)
            refine lv_icmp_ge (tgt := 132) hx hb dX13_tally_88 (by decide) (fun c_ => ?_) (fun c_ => ?_)
            · skip
              have b_ := zT_ge rfl rfl c_
              have htc : zTc (a77_ 0) f4 f10 f11 (v0 4).toInt x1.toInt := zTc_of hI77_0 rfl (show (u77_ 0).toInt = 512 + (f11 (x1 : Int32).toNatClampNeg).toInt from by omega)
              refine W.widen (k := 0) (n := 0) (by decide) (by decide) ?_
              have hpost : True := trivial
              have hP9 : va_P (dC, dI) vwCl [(h0, .inr (13, mX13 q0 v0)), (h50, zi k50 400 (a77_ 0)), ((q0 11), zi k10 120 f10), ((q0 5), zi k4 122880 f4), ((q0 12), zi k11 120 f11)] H := hP
              have hD9 : va_D A [(h0, .inr (13, mX13 q0 v0)), (h50, zi k50 400 (a77_ 0)), ((q0 11), zi k10 120 f10), ((q0 5), zi k4 122880 f4), ((q0 12), zi k11 120 f11)] := hD
              have hB0 : zTc (a77_ 0) f4 f10 f11 (v0 4).toInt x1.toInt := by exact htc
              exact W.vret hx hb hr (fun t ht hW => ⟨⟨(fun _ => 0), rfl, hpost, (fun _ => 0), (fun i => ([(a77_ 0)] : List (Nat → Int32)).getD i (fun _ => 0)), (fun _ => (fun _ => 0)), hB0, by rw [ht]; exact hP9, va_K.moved hW.alike hK, hD9⟩, hS.F ht⟩) hS.2.2 dX13_tally_132
            · skip
              have b_ := zF_ge rfl rfl c_
              refine lv_aload_n hx hb dX13_tally_91 rfl (lv_at hl 0 rfl) ?_
              refine va_get (D := (dC, dI)) (ci := 13) (v := .ref (q0 5)) (C := RX13) (T := TX13) (N := 75) hx hb hG zuX13 hown hK hP 0 rfl rfl 5 (by decide) (hG _ zv1609) (fun _ h9 => h9) rfl dX13_tally_92 ?_
              refine lv_sipush (v := 1024) hx hb dX13_tally_95 (by decide) ?_
              refine lv_iload_n hx hb dX13_tally_98 rfl (lv_at hl 1 rfl) ?_
              refine lv_imul hx hb dX13_tally_99 ?_
              refine lv_topi (fun z99 e_z99 => ?_)
              have b_ := zmul zk_1024 rfl e_z99 (by omega) (by omega)
              refine lv_iload_n hx hb dX13_tally_100 rfl (lv_at hl 3 rfl) ?_
              refine lv_iadd hx hb dX13_tally_101 ?_
              refine lv_topi (fun z101 e_z101 => ?_)
              have b_ := zadd rfl rfl e_z101 (by omega) (by omega)
              refine va_sald hx hb hK hP 3 2 rfl rfl (zin_lit ⟨by omega, by omega⟩) dX13_tally_102 ?_
              refine lv_topi (fun z102 e_z102 => ?_)
              have b_ : 0 ≤ z102.toInt ∧ z102.toInt ≤ 400 := by rw [e_z102]; exact hf4 _
              have hat : (f4 (1024 * x1.toInt + (u77_ 0).toInt).toNat).toInt = z102.toInt := congrArg Int32.toInt ((e_z102.trans (zix (by omega))).symm)
              refine lv_if_le (tgt := 126) hx hb dX13_tally_103 (by decide) (fun c_ => ?_) (fun c_ => ?_)
              · skip
                have b_ := zT_le rfl zk_0 c_
                obtain ⟨z126, e_z126⟩ : ∃ z : Int32, z = (u77_ 0) + Int32.ofInt 1 := ⟨_, rfl⟩
                have b_ := zadd (x := (u77_ 0)) (y := Int32.ofInt 1) rfl (show (Int32.ofInt 1).toInt = 1 from by decide) e_z126 (by omega) (by omega)
                refine lv_iinc (v := z126) (lv' := [(3, .int z126), (0, .ref h0), (1, .int x1), (2, .ref h50)]) hx hb dX13_tally_126 hl (k := 3) rfl e_z126.symm (by decide) rfl (fun ls hl => ?_)
                have htb : zTb (a77_ 0) f4 (v0 4).toInt x1.toInt (f10 ((x1 : Int32)).toNatClampNeg).toInt z126.toInt := zTb_n hI77_0 (by omega) (by omega)
                refine lv_goto (tgt := 77) hx hb dX13_tally_129 (by decide) ?_
                have hc : va_P (dC, dI) vwCl [(h0, .inr (13, mX13 q0 v0)), (h50, zi k50 400 (a77_ 0)), ((q0 11), zi k10 120 f10), ((q0 5), zi k4 122880 f4), ((q0 12), zi k11 120 f11)] H ∧ va_D A [(h0, .inr (13, mX13 q0 v0)), (h50, zi k50 400 (a77_ 0)), ((q0 11), zi k10 120 f10), ((q0 5), zi k4 122880 f4), ((q0 12), zi k11 120 f11)] ∧ va_S A s.heap H locs ∧ lv_has ls 4 [(0, .ref h0), (1, .int x1), (2, .ref h50), (3, .int z126)] ∧ (512 ≤ z126.toInt ∧ z126.toInt ≤ 1024) ∧ (zTb (a77_ 0) f4 (v0 4).toInt x1.toInt (f10 ((x1 : Int32)).toNatClampNeg).toInt z126.toInt) ∧ (z126.toInt ≤ 512 + (f11 ((x1 : Int32)).toNatClampNeg).toInt) := ⟨hP, hD, hS, lv_sub hl [1, 2, 3, 0] rfl, (by first | with_reducible assumption | exact ⟨by omega, by omega⟩), by first | exact htb | exact zTb_0 hI22_0 (by omega) (by omega) (by omega), by omega⟩
                exact hJ77 H locs ls (fun i => ([z126] : List (Int32)).getD i 0) (fun _ => 0) (fun i => ([(a77_ 0)] : List (Nat → Int32)).getD i (fun _ => 0)) (fun _ => (fun _ => 0)) hc (show (1024 - z126.toInt).toNat < (1024 - (u77_ 0).toInt).toNat from by omega)
              · skip
                have b_ := zF_le rfl zk_0 c_
                refine lv_aload_n hx hb dX13_tally_106 rfl (lv_at hl 2 rfl) ?_
                refine lv_aload_n hx hb dX13_tally_107 rfl (lv_at hl 0 rfl) ?_
                refine va_get (D := (dC, dI)) (ci := 13) (v := .ref (q0 5)) (C := RX13) (T := TX13) (N := 75) hx hb hG zuX13 hown hK hP 0 rfl rfl 5 (by decide) (hG _ zv1609) (fun _ h9 => h9) rfl dX13_tally_108 ?_
                refine lv_sipush (v := 1024) hx hb dX13_tally_111 (by decide) ?_
                refine lv_iload_n hx hb dX13_tally_114 rfl (lv_at hl 1 rfl) ?_
                refine lv_imul hx hb dX13_tally_115 ?_
                refine lv_topi (fun z115 e_z115 => ?_)
                have b_ := zmul zk_1024 rfl e_z115 (by omega) (by omega)
                refine lv_iload_n hx hb dX13_tally_116 rfl (lv_at hl 3 rfl) ?_
                refine lv_iadd hx hb dX13_tally_117 ?_
                refine lv_topi (fun z117 e_z117 => ?_)
                have b_ := zadd rfl rfl e_z117 (by omega) (by omega)
                refine va_sald hx hb hK hP 3 2 rfl rfl (zin_lit ⟨by omega, by omega⟩) dX13_tally_118 ?_
                refine lv_topi (fun z118 e_z118 => ?_)
                have b_ : 0 ≤ z118.toInt ∧ z118.toInt ≤ 400 := by rw [e_z118]; exact hf4 _
                have b_ : z118.toInt = z102.toInt := by rw [e_z118, e_z102, show z117 = z101 from zeqi.mpr (by omega)]
                refine lv_iconst (v := 1) hx hb dX13_tally_119 (by decide) ?_
                refine lv_isub hx hb dX13_tally_120 ?_
                refine lv_topi (fun z120 e_z120 => ?_)
                have b_ := zsub rfl zk_1 e_z120 (by omega) (by omega)
                refine lv_dup2_11 hx hb dX13_tally_121 rfl rfl ?_
                refine va_iald hx hb hK hP 1 0 rfl rfl (zin_lit ⟨by omega, by omega⟩) dX13_tally_122 ?_
                refine lv_topi (fun z122 e_z122 => ?_)
                refine lv_iconst (v := 1) hx hb dX13_tally_123 (by decide) ?_
                have b_ : -2147483648 ≤ z122.toInt ∧ z122.toInt ≤ 2147483647 := ⟨zlo _, zhi _⟩
                refine lv_iadd hx hb dX13_tally_124 ?_
                refine lv_topi (fun z124 e_z124 => ?_)
                refine va_iast hx hb hK hP hD hS 1 0 rfl rfl (zin_lit ⟨by omega, by omega⟩) dX13_tally_125 (fun H locs hP hD hS => ?_)
                obtain ⟨f_125, e_f_125⟩ : ∃ z : Nat → Int32, z = upd (a77_ 0) (z120 : Int32).toNatClampNeg z124 := ⟨_, rfl⟩
                have hP : va_P (dC, dI) vwCl [(h0, .inr (13, mX13 q0 v0)), (h50, zi k50 400 f_125), ((q0 11), zi k10 120 f10), ((q0 5), zi k4 122880 f4), ((q0 12), zi k11 120 f11)] H := by rw [e_f_125]; exact hP
                have hD : va_D A [(h0, .inr (13, mX13 q0 v0)), (h50, zi k50 400 f_125), ((q0 11), zi k10 120 f10), ((q0 5), zi k4 122880 f4), ((q0 12), zi k11 120 f11)] := by rw [e_f_125]; exact hD
                obtain ⟨z126, e_z126⟩ : ∃ z : Int32, z = (u77_ 0) + Int32.ofInt 1 := ⟨_, rfl⟩
                have b_ := zadd (x := (u77_ 0)) (y := Int32.ofInt 1) rfl (show (Int32.ofInt 1).toInt = 1 from by decide) e_z126 (by omega) (by omega)
                refine lv_iinc (v := z126) (lv' := [(3, .int z126), (0, .ref h0), (1, .int x1), (2, .ref h50)]) hx hb dX13_tally_126 hl (k := 3) rfl e_z126.symm (by decide) rfl (fun ls hl => ?_)
                have hxx : z120.toInt < (v0 4).toInt → z124.toInt = ((a77_ 0) (z120 : Int32).toNatClampNeg).toInt + 1 := fun h => by
                  have ei := zclamp (x := z120) (by omega)
                  have q := hI77_0 (z120 : Int32).toNatClampNeg (by omega)
                  exact zadd (congrArg Int32.toInt e_z122) zk_1 e_z124 (by omega) (by omega)
                have htb : zTb f_125 f4 (v0 4).toInt x1.toInt (f10 ((x1 : Int32)).toNatClampNeg).toInt z126.toInt := by rw [e_f_125]; exact zTb_y hI77_0 hat (by omega) (by omega) hxx (by omega) (by omega)
                refine lv_goto (tgt := 77) hx hb dX13_tally_129 (by decide) ?_
                have hc : va_P (dC, dI) vwCl [(h0, .inr (13, mX13 q0 v0)), (h50, zi k50 400 f_125), ((q0 11), zi k10 120 f10), ((q0 5), zi k4 122880 f4), ((q0 12), zi k11 120 f11)] H ∧ va_D A [(h0, .inr (13, mX13 q0 v0)), (h50, zi k50 400 f_125), ((q0 11), zi k10 120 f10), ((q0 5), zi k4 122880 f4), ((q0 12), zi k11 120 f11)] ∧ va_S A s.heap H locs ∧ lv_has ls 4 [(0, .ref h0), (1, .int x1), (2, .ref h50), (3, .int z126)] ∧ (512 ≤ z126.toInt ∧ z126.toInt ≤ 1024) ∧ (zTb f_125 f4 (v0 4).toInt x1.toInt (f10 ((x1 : Int32)).toNatClampNeg).toInt z126.toInt) ∧ (z126.toInt ≤ 512 + (f11 ((x1 : Int32)).toNatClampNeg).toInt) := ⟨hP, hD, hS, lv_sub hl [1, 2, 3, 0] rfl, (by first | with_reducible assumption | exact ⟨by omega, by omega⟩), by first | exact htb | exact zTb_0 hI22_0 (by omega) (by omega) (by omega), by omega⟩
                exact hJ77 H locs ls (fun i => ([z126] : List (Int32)).getD i 0) (fun _ => 0) (fun i => ([f_125] : List (Nat → Int32)).getD i (fun _ => 0)) (fun _ => (fun _ => 0)) hc (show (1024 - z126.toInt).toNat < (1024 - (u77_ 0).toInt).toNat from by omega)
          · skip
            have hc : va_P (dC, dI) vwCl [(h0, .inr (13, mX13 q0 v0)), (h50, zi k50 400 (a22_ 0)), ((q0 11), zi k10 120 f10), ((q0 5), zi k4 122880 f4), ((q0 12), zi k11 120 f11)] H ∧ va_D A [(h0, .inr (13, mX13 q0 v0)), (h50, zi k50 400 (a22_ 0)), ((q0 11), zi k10 120 f10), ((q0 5), zi k4 122880 f4), ((q0 12), zi k11 120 f11)] ∧ va_S A s.heap H locs ∧ lv_has ls 4 [(0, .ref h0), (1, .int x1), (2, .ref h50), (3, .int 512)] ∧ (512 ≤ (512 : Int32).toInt ∧ (512 : Int32).toInt ≤ 1024) ∧ (zTb (a22_ 0) f4 (v0 4).toInt x1.toInt (f10 ((x1 : Int32)).toNatClampNeg).toInt (512 : Int32).toInt) ∧ ((512 : Int32).toInt ≤ 512 + (f11 ((x1 : Int32)).toNatClampNeg).toInt) := ⟨hP, hD, hS, lv_sub hl [1, 2, 3, 0] rfl, (by first | with_reducible assumption | exact ⟨by omega, by omega⟩), by first | exact htb | exact zTb_0 hI22_0 (by omega) (by omega) (by omega), by omega⟩
            exact hJ77 H locs ls (fun i => ([512] : List (Int32)).getD i 0) (fun _ => 0) (fun i => ([(a22_ 0)] : List (Nat → Int32)).getD i (fun _ => 0)) (fun _ => (fun _ => 0)) hc
        · skip
          have b_ := zF_ge rfl rfl c_
          refine lv_aload_n hx hb dX13_tally_32 rfl (lv_at hl 0 rfl) ?_
          refine va_get (D := (dC, dI)) (ci := 13) (v := .ref (q0 5)) (C := RX13) (T := TX13) (N := 75) hx hb hG zuX13 hown hK hP 0 rfl rfl 5 (by decide) (hG _ zv1609) (fun _ h9 => h9) rfl dX13_tally_33 ?_
          refine lv_sipush (v := 1024) hx hb dX13_tally_36 (by decide) ?_
          refine lv_iload_n hx hb dX13_tally_39 rfl (lv_at hl 1 rfl) ?_
          refine lv_imul hx hb dX13_tally_40 ?_
          refine lv_topi (fun z40 e_z40 => ?_)
          have b_ := zmul zk_1024 rfl e_z40 (by omega) (by omega)
          refine lv_iload_n hx hb dX13_tally_41 rfl (lv_at hl 3 rfl) ?_
          refine lv_iadd hx hb dX13_tally_42 ?_
          refine lv_topi (fun z42 e_z42 => ?_)
          have b_ := zadd rfl rfl e_z42 (by omega) (by omega)
          refine va_sald hx hb hK hP 3 2 rfl rfl (zin_lit ⟨by omega, by omega⟩) dX13_tally_43 ?_
          refine lv_topi (fun z43 e_z43 => ?_)
          have b_ : 0 ≤ z43.toInt ∧ z43.toInt ≤ 400 := by rw [e_z43]; exact hf4 _
          have hat : (f4 (1024 * x1.toInt + (u22_ 0).toInt).toNat).toInt = z43.toInt := congrArg Int32.toInt ((e_z43.trans (zix (by omega))).symm)
          refine lv_if_le (tgt := 67) hx hb dX13_tally_44 (by decide) (fun c_ => ?_) (fun c_ => ?_)
          · skip
            have b_ := zT_le rfl zk_0 c_
            obtain ⟨z67, e_z67⟩ : ∃ z : Int32, z = (u22_ 0) + Int32.ofInt 1 := ⟨_, rfl⟩
            have b_ := zadd (x := (u22_ 0)) (y := Int32.ofInt 1) rfl (show (Int32.ofInt 1).toInt = 1 from by decide) e_z67 (by omega) (by omega)
            refine lv_iinc (v := z67) (lv' := [(3, .int z67), (0, .ref h0), (1, .int x1), (2, .ref h50)]) hx hb dX13_tally_67 hl (k := 3) rfl e_z67.symm (by decide) rfl (fun ls hl => ?_)
            have hta : zTa (a22_ 0) f4 (v0 4).toInt x1.toInt z67.toInt := zTa_n hI22_0 (by omega) (by omega)
            refine lv_goto (tgt := 22) hx hb dX13_tally_70 (by decide) ?_
            have hc : va_P (dC, dI) vwCl [(h0, .inr (13, mX13 q0 v0)), (h50, zi k50 400 (a22_ 0)), ((q0 11), zi k10 120 f10), ((q0 5), zi k4 122880 f4), ((q0 12), zi k11 120 f11)] H ∧ va_D A [(h0, .inr (13, mX13 q0 v0)), (h50, zi k50 400 (a22_ 0)), ((q0 11), zi k10 120 f10), ((q0 5), zi k4 122880 f4), ((q0 12), zi k11 120 f11)] ∧ va_S A s.heap H locs ∧ lv_has ls 4 [(0, .ref h0), (1, .int x1), (2, .ref h50), (3, .int z67)] ∧ (0 ≤ z67.toInt ∧ z67.toInt ≤ 512) ∧ (zTa (a22_ 0) f4 (v0 4).toInt x1.toInt z67.toInt) ∧ (z67.toInt ≤ (f10 ((x1 : Int32)).toNatClampNeg).toInt) := ⟨hP, hD, hS, lv_sub hl [1, 2, 3, 0] rfl, (by first | with_reducible assumption | exact ⟨by omega, by omega⟩), by first | exact hta | exact zTa_0 hI2_0 (by omega) (by omega), by omega⟩
            exact hJ22 H locs ls (fun i => ([z67] : List (Int32)).getD i 0) (fun _ => 0) (fun i => ([(a22_ 0)] : List (Nat → Int32)).getD i (fun _ => 0)) (fun _ => (fun _ => 0)) hc (show (512 - z67.toInt).toNat < (512 - (u22_ 0).toInt).toNat from by omega)
          · skip
            have b_ := zF_le rfl zk_0 c_
            refine lv_aload_n hx hb dX13_tally_47 rfl (lv_at hl 2 rfl) ?_
            refine lv_aload_n hx hb dX13_tally_48 rfl (lv_at hl 0 rfl) ?_
            refine va_get (D := (dC, dI)) (ci := 13) (v := .ref (q0 5)) (C := RX13) (T := TX13) (N := 75) hx hb hG zuX13 hown hK hP 0 rfl rfl 5 (by decide) (hG _ zv1609) (fun _ h9 => h9) rfl dX13_tally_49 ?_
            refine lv_sipush (v := 1024) hx hb dX13_tally_52 (by decide) ?_
            refine lv_iload_n hx hb dX13_tally_55 rfl (lv_at hl 1 rfl) ?_
            refine lv_imul hx hb dX13_tally_56 ?_
            refine lv_topi (fun z56 e_z56 => ?_)
            have b_ := zmul zk_1024 rfl e_z56 (by omega) (by omega)
            refine lv_iload_n hx hb dX13_tally_57 rfl (lv_at hl 3 rfl) ?_
            refine lv_iadd hx hb dX13_tally_58 ?_
            refine lv_topi (fun z58 e_z58 => ?_)
            have b_ := zadd rfl rfl e_z58 (by omega) (by omega)
            refine va_sald hx hb hK hP 3 2 rfl rfl (zin_lit ⟨by omega, by omega⟩) dX13_tally_59 ?_
            refine lv_topi (fun z59 e_z59 => ?_)
            have b_ : 0 ≤ z59.toInt ∧ z59.toInt ≤ 400 := by rw [e_z59]; exact hf4 _
            have b_ : z59.toInt = z43.toInt := by rw [e_z59, e_z43, show z58 = z42 from zeqi.mpr (by omega)]
            refine lv_iconst (v := 1) hx hb dX13_tally_60 (by decide) ?_
            refine lv_isub hx hb dX13_tally_61 ?_
            refine lv_topi (fun z61 e_z61 => ?_)
            have b_ := zsub rfl zk_1 e_z61 (by omega) (by omega)
            refine lv_dup2_11 hx hb dX13_tally_62 rfl rfl ?_
            refine va_iald hx hb hK hP 1 0 rfl rfl (zin_lit ⟨by omega, by omega⟩) dX13_tally_63 ?_
            refine lv_topi (fun z63 e_z63 => ?_)
            refine lv_iconst (v := 1) hx hb dX13_tally_64 (by decide) ?_
            have b_ : -2147483648 ≤ z63.toInt ∧ z63.toInt ≤ 2147483647 := ⟨zlo _, zhi _⟩
            refine lv_iadd hx hb dX13_tally_65 ?_
            refine lv_topi (fun z65 e_z65 => ?_)
            refine va_iast hx hb hK hP hD hS 1 0 rfl rfl (zin_lit ⟨by omega, by omega⟩) dX13_tally_66 (fun H locs hP hD hS => ?_)
            obtain ⟨f_66, e_f_66⟩ : ∃ z : Nat → Int32, z = upd (a22_ 0) (z61 : Int32).toNatClampNeg z65 := ⟨_, rfl⟩
            have hP : va_P (dC, dI) vwCl [(h0, .inr (13, mX13 q0 v0)), (h50, zi k50 400 f_66), ((q0 11), zi k10 120 f10), ((q0 5), zi k4 122880 f4), ((q0 12), zi k11 120 f11)] H := by rw [e_f_66]; exact hP
            have hD : va_D A [(h0, .inr (13, mX13 q0 v0)), (h50, zi k50 400 f_66), ((q0 11), zi k10 120 f10), ((q0 5), zi k4 122880 f4), ((q0 12), zi k11 120 f11)] := by rw [e_f_66]; exact hD
            obtain ⟨z67, e_z67⟩ : ∃ z : Int32, z = (u22_ 0) + Int32.ofInt 1 := ⟨_, rfl⟩
            have b_ := zadd (x := (u22_ 0)) (y := Int32.ofInt 1) rfl (show (Int32.ofInt 1).toInt = 1 from by decide) e_z67 (by omega) (by omega)
            refine lv_iinc (v := z67) (lv' := [(3, .int z67), (0, .ref h0), (1, .int x1), (2, .ref h50)]) hx hb dX13_tally_67 hl (k := 3) rfl e_z67.symm (by decide) rfl (fun ls hl => ?_)
            have hxx : z61.toInt < (v0 4).toInt → z65.toInt = ((a22_ 0) (z61 : Int32).toNatClampNeg).toInt + 1 := fun h => by
              have ei := zclamp (x := z61) (by omega)
              have q := hI22_0 (z61 : Int32).toNatClampNeg (by omega)
              exact zadd (congrArg Int32.toInt e_z63) zk_1 e_z65 (by omega) (by omega)
            have hta : zTa f_66 f4 (v0 4).toInt x1.toInt z67.toInt := by rw [e_f_66]; exact zTa_y hI22_0 hat (by omega) (by omega) hxx (by omega) (by omega)
            refine lv_goto (tgt := 22) hx hb dX13_tally_70 (by decide) ?_
            have hc : va_P (dC, dI) vwCl [(h0, .inr (13, mX13 q0 v0)), (h50, zi k50 400 f_66), ((q0 11), zi k10 120 f10), ((q0 5), zi k4 122880 f4), ((q0 12), zi k11 120 f11)] H ∧ va_D A [(h0, .inr (13, mX13 q0 v0)), (h50, zi k50 400 f_66), ((q0 11), zi k10 120 f10), ((q0 5), zi k4 122880 f4), ((q0 12), zi k11 120 f11)] ∧ va_S A s.heap H locs ∧ lv_has ls 4 [(0, .ref h0), (1, .int x1), (2, .ref h50), (3, .int z67)] ∧ (0 ≤ z67.toInt ∧ z67.toInt ≤ 512) ∧ (zTa f_66 f4 (v0 4).toInt x1.toInt z67.toInt) ∧ (z67.toInt ≤ (f10 ((x1 : Int32)).toNatClampNeg).toInt) := ⟨hP, hD, hS, lv_sub hl [1, 2, 3, 0] rfl, (by first | with_reducible assumption | exact ⟨by omega, by omega⟩), by first | exact hta | exact zTa_0 hI2_0 (by omega) (by omega), by omega⟩
            exact hJ22 H locs ls (fun i => ([z67] : List (Int32)).getD i 0) (fun _ => 0) (fun i => ([f_66] : List (Nat → Int32)).getD i (fun _ => 0)) (fun _ => (fun _ => 0)) hc (show (512 - z67.toInt).toNat < (512 - (u22_ 0).toInt).toNat from by omega)
      · skip
        have hc : va_P (dC, dI) vwCl [(h0, .inr (13, mX13 q0 v0)), (h50, zi k50 400 (a2_ 0)), ((q0 11), zi k10 120 f10), ((q0 5), zi k4 122880 f4), ((q0 12), zi k11 120 f11)] H ∧ va_D A [(h0, .inr (13, mX13 q0 v0)), (h50, zi k50 400 (a2_ 0)), ((q0 11), zi k10 120 f10), ((q0 5), zi k4 122880 f4), ((q0 12), zi k11 120 f11)] ∧ va_S A s.heap H locs ∧ lv_has ls 4 [(0, .ref h0), (1, .int x1), (2, .ref h50), (3, .int 0)] ∧ (0 ≤ (0 : Int32).toInt ∧ (0 : Int32).toInt ≤ 512) ∧ (zTa (a2_ 0) f4 (v0 4).toInt x1.toInt (0 : Int32).toInt) ∧ ((0 : Int32).toInt ≤ (f10 ((x1 : Int32)).toNatClampNeg).toInt) := ⟨hP, hD, hS, lv_sub hl [1, 2, 3, 0] rfl, (by first | with_reducible assumption | exact ⟨by omega, by omega⟩), by first | exact hta | exact zTa_0 hI2_0 (by omega) (by omega), by omega⟩
        exact hJ22 H locs ls (fun i => ([0] : List (Int32)).getD i 0) (fun _ => 0) (fun i => ([(a2_ 0)] : List (Nat → Int32)).getD i (fun _ => 0)) (fun _ => (fun _ => 0)) hc
    · skip
      have b_ := zF_ge rfl rfl c_
      refine lv_aload_n hx hb dX13_tally_10 rfl (lv_at hl 2 rfl) ?_
      refine lv_iload_n hx hb dX13_tally_11 rfl (lv_at hl 3 rfl) ?_
      refine lv_iconst (v := 0) hx hb dX13_tally_12 (by decide) ?_
      refine va_iast hx hb hK hP hD hS 1 0 rfl rfl (zin_lit ⟨by omega, by omega⟩) dX13_tally_13 (fun H locs hP hD hS => ?_)
      obtain ⟨f_13, e_f_13⟩ : ∃ z : Nat → Int32, z = upd (a2_ 0) ((u2_ 0) : Int32).toNatClampNeg 0 := ⟨_, rfl⟩
      have hP : va_P (dC, dI) vwCl [(h0, .inr (13, mX13 q0 v0)), (h50, zi k50 400 f_13), ((q0 11), zi k10 120 f10), ((q0 5), zi k4 122880 f4), ((q0 12), zi k11 120 f11)] H := by rw [e_f_13]; exact hP
      have hD : va_D A [(h0, .inr (13, mX13 q0 v0)), (h50, zi k50 400 f_13), ((q0 11), zi k10 120 f10), ((q0 5), zi k4 122880 f4), ((q0 12), zi k11 120 f11)] := by rw [e_f_13]; exact hD
      obtain ⟨z14, e_z14⟩ : ∃ z : Int32, z = (u2_ 0) + Int32.ofInt 1 := ⟨_, rfl⟩
      have b_ := zadd (x := (u2_ 0)) (y := Int32.ofInt 1) rfl (show (Int32.ofInt 1).toInt = 1 from by decide) e_z14 (by omega) (by omega)
      refine lv_iinc (v := z14) (lv' := [(3, .int z14), (0, .ref h0), (1, .int x1), (2, .ref h50)]) hx hb dX13_tally_14 hl (k := 3) rfl e_z14.symm (by decide) rfl (fun ls hl => ?_)
      refine lv_goto (tgt := 2) hx hb dX13_tally_17 (by decide) ?_
      have hc : va_P (dC, dI) vwCl [(h0, .inr (13, mX13 q0 v0)), (h50, zi k50 400 f_13), ((q0 11), zi k10 120 f10), ((q0 5), zi k4 122880 f4), ((q0 12), zi k11 120 f11)] H ∧ va_D A [(h0, .inr (13, mX13 q0 v0)), (h50, zi k50 400 f_13), ((q0 11), zi k10 120 f10), ((q0 5), zi k4 122880 f4), ((q0 12), zi k11 120 f11)] ∧ va_S A s.heap H locs ∧ lv_has ls 4 [(0, .ref h0), (1, .int x1), (2, .ref h50), (3, .int z14)] ∧ (0 ≤ z14.toInt ∧ z14.toInt ≤ 400) ∧ (zT0 f_13 z14.toInt) ∧ (z14.toInt ≤ (v0 4).toInt) := ⟨hP, hD, hS, lv_sub hl [1, 2, 3, 0] rfl, (by first | with_reducible assumption | exact ⟨by omega, by omega⟩), by first | (rw [e_f_13]; exact zT0_s hI2_0 rfl (by omega) zk_0 (by omega)) | exact zT0_0 (by omega), by omega⟩
      exact hJ2 H locs ls (fun i => ([z14] : List (Int32)).getD i 0) (fun _ => 0) (fun i => ([f_13] : List (Nat → Int32)).getD i (fun _ => 0)) (fun _ => (fun _ => 0)) hc (show (400 - z14.toInt).toNat < (400 - (u2_ 0).toInt).toNat from by omega)
  · skip
    have hc : va_P (dC, dI) vwCl [(h0, .inr (13, mX13 q0 v0)), (h50, zi k50 400 f50), ((q0 11), zi k10 120 f10), ((q0 5), zi k4 122880 f4), ((q0 12), zi k11 120 f11)] s.heap ∧ va_D A [(h0, .inr (13, mX13 q0 v0)), (h50, zi k50 400 f50), ((q0 11), zi k10 120 f10), ((q0 5), zi k4 122880 f4), ((q0 12), zi k11 120 f11)] ∧ va_S A s.heap s.heap [] ∧ lv_has ls 4 [(0, .ref h0), (1, .int x1), (2, .ref h50), (3, .int 0)] ∧ (0 ≤ (0 : Int32).toInt ∧ (0 : Int32).toInt ≤ 400) ∧ (zT0 f50 (0 : Int32).toInt) ∧ ((0 : Int32).toInt ≤ (v0 4).toInt) := ⟨hP, hD, hS, lv_sub hl [1, 2, 3, 0] rfl, (by first | with_reducible assumption | exact ⟨by omega, by omega⟩), by first | (rw [e_f_13]; exact zT0_s hI2_0 rfl (by omega) zk_0 (by omega)) | exact zT0_0 (by omega), by omega⟩
    exact hJ2 s.heap [] ls (fun i => ([0] : List (Int32)).getD i 0) (fun _ => 0) (fun i => ([f50] : List (Nat → Int32)).getD i (fun _ => 0)) (fun _ => (fun _ => 0)) hc
set_option maxHeartbeats 8000000 in
set_option maxRecDepth 100000 in
theorem sX13_hold_0 (l : Launch) (dC : Nat → ClassId) (dI : Nat → Nat → Nat) (adK adV : Nat → Nat) (h0 : Nat) (q0 : Nat → Nat) (k48 : ClassId) (k5 : ClassId) (k4 : ClassId) (k10 : ClassId) (k11 : ClassId) (k20 : ClassId) (sz : Nat) (v0 : Nat → Int32) (f48 : Nat → Int32) (f5 : Nat → Int32) (f4 : Nat → Int32) (f10 : Nat → Int32) (f11 : Nat → Int32) (f20 : Nat → Int32) (hv0 : zR rg_Model v0) (hf4 : zA 0 400 f4) (hf10 : zA 0 512 f10) (hf11 : zA 0 512 f11) : Met l yX13_hold (zw yX13_hold cX13_hold 3 none) { frames := 1, cells := 0, slots := 0, locals := 23 } (zPc dC dI adK adV [.ref h0] sz [(h0, .inr (13, mX13 q0 v0)), ((q0 73), zi k48 400 f48), ((q0 6), zi k5 120 f5), ((q0 5), zi k4 122880 f4), ((q0 11), zi k10 120 f10), ((q0 12), zi k11 120 f11), ((q0 28), zi k20 400 f20)] [(k48, .int), (k5, .boolean), (k4, .short), (k10, .int), (k11, .int), (k20, .int)]) (va_Qv (fun (u : Nat → Int32) => True) (fun (u : Nat → Int32) (t : State) => ∃ (ww : Nat → Int64) (aa : Nat → Nat → Int32) (bb : Nat → Nat → Int64), (zHo (aa 0) f5 f4 f10 f11 (v0 4).toInt (v0 13).toInt) ∧ va_P (dC, dI) vwCl [(h0, .inr (13, mX13 q0 v0)), ((q0 73), zi k48 400 (aa 0)), ((q0 6), zi k5 120 f5), ((q0 5), zi k4 122880 f4), ((q0 11), zi k10 120 f10), ((q0 12), zi k11 120 f11), ((q0 28), zi k20 400 (aa 1))] t.heap ∧ va_K (dC, dI) vwCl [(k48, .int), (k5, .boolean), (k4, .short), (k10, .int), (k11, .int), (k20, .int)] t ∧ va_D (va_A [(h0, .inr (13, mX13 q0 v0)), ((q0 73), zi k48 400 f48), ((q0 6), zi k5 120 f5), ((q0 5), zi k4 122880 f4), ((q0 11), zi k10 120 f10), ((q0 12), zi k11 120 f11), ((q0 28), zi k20 400 f20)] sz) [(h0, .inr (13, mX13 q0 v0)), ((q0 73), zi k48 400 (aa 0)), ((q0 6), zi k5 120 f5), ((q0 5), zi k4 122880 f4), ((q0 11), zi k10 120 f10), ((q0 12), zi k11 120 f11), ((q0 28), zi k20 400 (aa 1))]) (va_A [(h0, .inr (13, mX13 q0 v0)), ((q0 73), zi k48 400 f48), ((q0 6), zi k5 120 f5), ((q0 5), zi k4 122880 f4), ((q0 11), zi k10 120 f10), ((q0 12), zi k11 120 f11), ((q0 28), zi k20 400 f20)] sz)) 0 0 (va_A [(h0, .inr (13, mX13 q0 v0)), ((q0 73), zi k48 400 f48), ((q0 6), zi k5 120 f5), ((q0 5), zi k4 122880 f4), ((q0 11), zi k10 120 f10), ((q0 12), zi k11 120 f11), ((q0 28), zi k20 400 f20)] sz) := by
  refine Met.ofW (cc := cX13_hold) (maxL := 3) (ret := none) (by decide) rfl ?_
  intro p e s m args below meth c s₁ B hml hv
  obtain ⟨rfl, hsz, hP, hK, hD0, hE, hZ⟩ := hv
  have hx := B.exec
  have hb := B.bytes
  have hr := B.returns
  have hG : ∀ w ∈ zG, w.before _ s = true := fun w h => atoms_spec (ws := (zw yX13_hold cX13_hold 3 none)) B.pre w (List.mem_cons_of_mem _ h)
  have hown : s.vm.findClass RX13 = some m.cls := findClass_of_methodNamed B.named
  have hlocks := B.notSynchronized

  subst hsz
  have hD := hD0.self (sz := s.heap.size)
  generalize hAe : va_A [(h0, .inr (13, mX13 q0 v0)), ((q0 73), zi k48 400 f48), ((q0 6), zi k5 120 f5), ((q0 5), zi k4 122880 f4), ((q0 11), zi k10 120 f10), ((q0 12), zi k11 120 f11), ((q0 28), zi k20 400 f20)] s.heap.size = A at hD hZ ⊢
  have hA : ∀ q : Nat, s.heap.size ≤ q → A q := fun q h => by rw [← hAe]; exact Or.inr h
  have hS : va_S A s.heap s.heap [] := va_S.rf
  have hl := lv_entry ([.ref h0]) (n := 3) (Nat.le_of_ble_eq_true rfl)
  rw [lg_entry_eq]
  generalize (lg_sl ([.ref h0]) ++ List.replicate (3 - (lg_sl ([.ref h0])).length) Slot.unset).toArray = ls at hl ⊢
  have hl : lv_has ls 3 [(0, .ref h0)] := hl
  have b_ := zk_0
  have b_ : 0 ≤ (v0 4).toInt ∧ (v0 4).toInt ≤ 400 := hv0 4
  have b_ : 0 ≤ (v0 13).toInt ∧ (v0 13).toInt ≤ 120 := hv0 13
  refine lv_iconst (v := 0) hx hb dX13_hold_0 (by decide) ?_
  refine lv_istore_n (lv' := [(1, .int 0), (0, .ref h0)]) hx hb dX13_hold_1 rfl hl (by decide) rfl (fun ls hl => ?_)
  refine zcutL (fun u2_ => (400 - (u2_ 0).toInt).toNat) (fun H locs ls u2_ w2_ a2_ b2_ => va_P (dC, dI) vwCl [(h0, .inr (13, mX13 q0 v0)), ((q0 73), zi k48 400 (a2_ 0)), ((q0 6), zi k5 120 f5), ((q0 5), zi k4 122880 f4), ((q0 11), zi k10 120 f10), ((q0 12), zi k11 120 f11), ((q0 28), zi k20 400 f20)] H ∧ va_D A [(h0, .inr (13, mX13 q0 v0)), ((q0 73), zi k48 400 (a2_ 0)), ((q0 6), zi k5 120 f5), ((q0 5), zi k4 122880 f4), ((q0 11), zi k10 120 f10), ((q0 12), zi k11 120 f11), ((q0 28), zi k20 400 f20)] ∧ va_S A s.heap H locs ∧ lv_has ls 3 [(0, .ref h0), (1, .int (u2_ 0))] ∧ (0 ≤ (u2_ 0).toInt ∧ (u2_ 0).toInt ≤ 400) ∧ (zT0 (a2_ 0) (u2_ 0).toInt) ∧ ((u2_ 0).toInt ≤ (v0 4).toInt)) (fun ls u2_ w2_ => F0 m 2 ls []) 0 0 ?_ (fun hJ2 => ?_)
  · skip
    intro H locs ls u2_ w2_ a2_ b2_ hc hJ2
    obtain ⟨hP, hD, hS, hl, b_, hI2_0, b_⟩ := hc
    refine lv_iload_n hx hb dX13_hold_2 rfl (lv_at hl 1 rfl) ?_
    refine lv_aload_n hx hb dX13_hold_3 rfl (lv_at hl 0 rfl) ?_
    refine va_get (D := (dC, dI)) (ci := 13) (v := .int (v0 4)) (C := RX13) (T := TX13) (N := 75) hx hb hG zuX13 hown hK hP 0 rfl rfl 4 (by decide) (hG _ zv1608) (fun _ h9 => h9) rfl dX13_hold_4 ?_
    refine lv_icmp_ge (tgt := 23) hx hb dX13_hold_7 (by decide) (fun c_ => ?_) (fun c_ => ?_)
    · skip
      have b_ := zT_ge rfl rfl c_
      refine lv_iconst (v := 0) hx hb dX13_hold_23 (by decide) ?_
      refine lv_istore_n (lv' := [(1, .int 0), (0, .ref h0)]) hx hb dX13_hold_24 rfl hl (by decide) rfl (fun ls hl => ?_)
      refine zcutL (fun u25_ => (120 - (u25_ 0).toInt).toNat) (fun H locs ls u25_ w25_ a25_ b25_ => va_P (dC, dI) vwCl [(h0, .inr (13, mX13 q0 v0)), ((q0 73), zi k48 400 (a25_ 1)), ((q0 6), zi k5 120 f5), ((q0 5), zi k4 122880 f4), ((q0 11), zi k10 120 f10), ((q0 12), zi k11 120 f11), ((q0 28), zi k20 400 (a25_ 0))] H ∧ va_D A [(h0, .inr (13, mX13 q0 v0)), ((q0 73), zi k48 400 (a25_ 1)), ((q0 6), zi k5 120 f5), ((q0 5), zi k4 122880 f4), ((q0 11), zi k10 120 f10), ((q0 12), zi k11 120 f11), ((q0 28), zi k20 400 (a25_ 0))] ∧ va_S A s.heap H locs ∧ lv_has ls 3 [(0, .ref h0), (1, .int (u25_ 0))] ∧ (0 ≤ (u25_ 0).toInt ∧ (u25_ 0).toInt ≤ 120) ∧ (zHo (a25_ 1) f5 f4 f10 f11 (v0 4).toInt (u25_ 0).toInt) ∧ ((u25_ 0).toInt ≤ (v0 13).toInt)) (fun ls u25_ w25_ => F0 m 25 ls []) 0 0 ?_ (fun hJ25 => ?_)
      · skip
        intro H locs ls u25_ w25_ a25_ b25_ hc hJ25
        obtain ⟨hP, hD, hS, hl, b_, hI25_0, b_⟩ := hc
        refine lv_iload_n hx hb dX13_hold_25 rfl (lv_at hl 1 rfl) ?_
        refine lv_aload_n hx hb dX13_hold_26 rfl (lv_at hl 0 rfl) ?_
        refine va_get (D := (dC, dI)) (ci := 13) (v := .int (v0 13)) (C := RX13) (T := TX13) (N := 75) hx hb hG zuX13 hown hK hP 0 rfl rfl 13 (by decide) (hG _ zv1617) (fun _ h9 => h9) rfl dX13_hold_27 ?_
        refine lv_icmp_ge (tgt := 99) hx hb dX13_hold_30 (by decide) (fun c_ => ?_) (fun c_ => ?_)
        · skip
          have b_ := zT_ge rfl rfl c_
          have hfin : zHo (a25_ 1) f5 f4 f10 f11 (v0 4).toInt (v0 13).toInt := by rw [show (v0 13).toInt = (u25_ 0).toInt from by omega]; exact hI25_0
          refine W.widen (k := 0) (n := 0) (by decide) (by decide) ?_
          have hpost : True := trivial
          have hP9 : va_P (dC, dI) vwCl [(h0, .inr (13, mX13 q0 v0)), ((q0 73), zi k48 400 (a25_ 1)), ((q0 6), zi k5 120 f5), ((q0 5), zi k4 122880 f4), ((q0 11), zi k10 120 f10), ((q0 12), zi k11 120 f11), ((q0 28), zi k20 400 (a25_ 0))] H := hP
          have hD9 : va_D A [(h0, .inr (13, mX13 q0 v0)), ((q0 73), zi k48 400 (a25_ 1)), ((q0 6), zi k5 120 f5), ((q0 5), zi k4 122880 f4), ((q0 11), zi k10 120 f10), ((q0 12), zi k11 120 f11), ((q0 28), zi k20 400 (a25_ 0))] := hD
          have hB0 : zHo (a25_ 1) f5 f4 f10 f11 (v0 4).toInt (v0 13).toInt := by exact hfin
          exact W.vret hx hb hr (fun t ht hW => ⟨⟨(fun _ => 0), rfl, hpost, (fun _ => 0), (fun i => ([(a25_ 1), (a25_ 0)] : List (Nat → Int32)).getD i (fun _ => 0)), (fun _ => (fun _ => 0)), hB0, by rw [ht]; exact hP9, va_K.moved hW.alike hK, hD9⟩, hS.F ht⟩) hS.2.2 dX13_hold_99
        · skip
          have b_ := zF_ge rfl rfl c_
          refine lv_aload_n hx hb dX13_hold_33 rfl (lv_at hl 0 rfl) ?_
          refine va_get (D := (dC, dI)) (ci := 13) (v := .ref (q0 6)) (C := RX13) (T := TX13) (N := 75) hx hb hG zuX13 hown hK hP 0 rfl rfl 6 (by decide) (hG _ zv1610) (fun _ h9 => h9) rfl dX13_hold_34 ?_
          refine lv_iload_n hx hb dX13_hold_37 rfl (lv_at hl 1 rfl) ?_
          refine va_zald hx hb hK hP 2 1 rfl rfl (zin_lit ⟨by omega, by omega⟩) dX13_hold_38 ?_
          refine lv_topi (fun z38 e_z38 => ?_)
          have hon : (f5 ((u25_ 0).toInt).toNat).toInt = z38.toInt := congrArg Int32.toInt e_z38.symm
          have b_ : -2147483648 ≤ z38.toInt ∧ z38.toInt ≤ 2147483647 := ⟨zlo _, zhi _⟩
          refine lv_if_ne (tgt := 45) hx hb dX13_hold_39 (by decide) (fun c_ => ?_) (fun c_ => ?_)
          · skip
            have b_ := zT_ne rfl zk_0 c_
            refine lv_aload_n hx hb dX13_hold_45 rfl (lv_at hl 0 rfl) ?_
            refine lv_iload_n hx hb dX13_hold_46 rfl (lv_at hl 1 rfl) ?_
            refine lv_aload_n hx hb dX13_hold_47 rfl (lv_at hl 0 rfl) ?_
            refine va_get (D := (dC, dI)) (ci := 13) (v := .ref (q0 28)) (C := RX13) (T := TX13) (N := 75) hx hb hG zuX13 hown hK hP 0 rfl rfl 28 (by decide) (hG _ zv1632) (fun _ h9 => h9) rfl dX13_hold_48 ?_
            have hPc := hP.sub (ws' := [(h0, .inr (13, mX13 q0 v0)), ((q0 28), zi k20 400 (a25_ 0)), ((q0 11), zi k10 120 f10), ((q0 5), zi k4 122880 f4), ((q0 12), zi k11 120 f11)]) [0, 6, 4, 3, 5] rfl
            have hDc := hD.sub (ws' := [(h0, .inr (13, mX13 q0 v0)), ((q0 28), zi k20 400 (a25_ 0)), ((q0 11), zi k10 120 f10), ((q0 5), zi k4 122880 f4), ((q0 12), zi k11 120 f11)]) [0, 6, 4, 3, 5] (by decide) rfl
            have hKc := hK.sub (tys' := [(k20, .int), (k10, .int), (k4, .short), (k11, .int)]) [5, 3, 2, 4] rfl
            have hFc := va_free (wc := [(h0, .inr (13, mX13 q0 v0)), ((q0 28), zi k20 400 (a25_ 0)), ((q0 11), zi k10 120 f10), ((q0 5), zi k4 122880 f4), ((q0 12), zi k11 120 f11)]) hD hS hA [0, 6, 4, 3, 5] rfl
            refine va_callv (va_runV (As := [.int (u25_ 0), .ref (q0 28)]) (rest := []) ⟨hx, hb, hml, hown, hG⟩ (sX13_tally_0 l dC dI adK adV h0 q0 (q0 28) k20 k10 k4 k11 H.size v0 (a25_ 0) f10 f4 f11 (u25_ 0) hv0 hf10 hf4 hf11 (show (0 : Int) ≤ ((u25_ 0) : Int32).toInt ∧ ((u25_ 0) : Int32).toInt ≤ (119 : Int) from (by first | with_reducible assumption | exact ⟨by omega, by omega⟩))) (cwV 2 hG (zgV zv1919 zv1921 zv62 zv142 zv1922) rfl rfl rfl (by decide +kernel) ⟨Nat.le_of_ble_eq_true rfl, Nat.le_of_ble_eq_true rfl⟩) ⟨zPc_blind, va_recv hKc hPc (ci := 13) (q0 := 0) rfl rfl, zPc_pre hPc hKc hDc hE hS hFc hZ⟩ rfl rfl hl.1 rfl (lv_room (Nat.le_of_ble_eq_true rfl)) dX13_hold_51 ⟨Nat.le_of_ble_eq_true rfl, Nat.le_of_ble_eq_true rfl⟩) hS (fun q _ h => hFc q h) hFc (fun u51_ t H1 locs ht hvm hw hB hz1 hk1 hS => ?_)
            obtain ⟨w51_, a51_, b51_, hB51_0, hP1, hK1, hD1⟩ := hB
            have hB51_0 : zTc (a51_ 0) f4 f10 f11 (v0 4).toInt (u25_ 0).toInt := hB51_0
            rw [ht] at hP1
            obtain ⟨hP, hD⟩ := va_join (wr := [((q0 73), zi k48 400 (a25_ 1)), ((q0 6), zi k5 120 f5)]) (w1 := [(h0, .inr (13, mX13 q0 v0)), ((q0 28), zi k20 400 (a51_ 0)), ((q0 11), zi k10 120 f10), ((q0 5), zi k4 122880 f4), ((q0 12), zi k11 120 f11)]) hP hD [0, 6, 4, 3, 5] [1, 2] rfl rfl (by decide) (by decide) hk1 hFc hP1 hD1
            have hP : va_P (dC, dI) vwCl [(h0, .inr (13, mX13 q0 v0)), ((q0 73), zi k48 400 (a25_ 1)), ((q0 6), zi k5 120 f5), ((q0 5), zi k4 122880 f4), ((q0 11), zi k10 120 f10), ((q0 12), zi k11 120 f11), ((q0 28), zi k20 400 (a51_ 0))] H1 := hP.sub [2, 0, 1, 5, 4, 6, 3] rfl
            have hD : va_D A [(h0, .inr (13, mX13 q0 v0)), ((q0 73), zi k48 400 (a25_ 1)), ((q0 6), zi k5 120 f5), ((q0 5), zi k4 122880 f4), ((q0 11), zi k10 120 f10), ((q0 12), zi k11 120 f11), ((q0 28), zi k20 400 (a51_ 0))] := hD.sub [2, 0, 1, 5, 4, 6, 3] (by decide) rfl
            generalize H1 = H at hP hS ⊢
            clear hz1
            refine lv_iconst (v := 0) hx hb dX13_hold_54 (by decide) ?_
            refine lv_istore_n (lv' := [(2, .int 0), (0, .ref h0), (1, .int (u25_ 0))]) hx hb dX13_hold_55 rfl hl (by decide) rfl (fun ls hl => ?_)
            refine zcutL (fun u56_ => (400 - (u56_ 0).toInt).toNat) (fun H locs ls u56_ w56_ a56_ b56_ => va_P (dC, dI) vwCl [(h0, .inr (13, mX13 q0 v0)), ((q0 73), zi k48 400 (a56_ 0)), ((q0 6), zi k5 120 f5), ((q0 5), zi k4 122880 f4), ((q0 11), zi k10 120 f10), ((q0 12), zi k11 120 f11), ((q0 28), zi k20 400 (a51_ 0))] H ∧ va_D A [(h0, .inr (13, mX13 q0 v0)), ((q0 73), zi k48 400 (a56_ 0)), ((q0 6), zi k5 120 f5), ((q0 5), zi k4 122880 f4), ((q0 11), zi k10 120 f10), ((q0 12), zi k11 120 f11), ((q0 28), zi k20 400 (a51_ 0))] ∧ va_S A s.heap H locs ∧ lv_has ls 3 [(0, .ref h0), (1, .int (u25_ 0)), (2, .int (u56_ 0))] ∧ (0 ≤ (u56_ 0).toInt ∧ (u56_ 0).toInt ≤ 400) ∧ (zHi (a56_ 0) (a25_ 1) (a51_ 0) (v0 4).toInt (u56_ 0).toInt) ∧ ((u56_ 0).toInt ≤ (v0 4).toInt)) (fun ls u56_ w56_ => F0 m 56 ls []) 0 0 ?_ (fun hJ56 => ?_)
            · skip
              intro H locs ls u56_ w56_ a56_ b56_ hc hJ56
              obtain ⟨hP, hD, hS, hl, b_, hI56_0, b_⟩ := hc
              refine lv_iload_n hx hb dX13_hold_56 rfl (lv_at hl 2 rfl) ?_
              refine lv_aload_n hx hb dX13_hold_57 rfl (lv_at hl 0 rfl) ?_
              refine va_get (D := (dC, dI)) (ci := 13) (v := .int (v0 4)) (C := RX13) (T := TX13) (N := 75) hx hb hG zuX13 hown hK hP 0 rfl rfl 4 (by decide) (hG _ zv1608) (fun _ h9 => h9) rfl dX13_hold_58 ?_
              refine lv_icmp_ge (tgt := 93) hx hb dX13_hold_61 (by decide) (fun c_ => ?_) (fun c_ => ?_)
              · skip
                have b_ := zT_ge rfl rfl c_
                obtain ⟨z93, e_z93⟩ : ∃ z : Int32, z = (u25_ 0) + Int32.ofInt 1 := ⟨_, rfl⟩
                have b_ := zadd (x := (u25_ 0)) (y := Int32.ofInt 1) rfl (show (Int32.ofInt 1).toInt = 1 from by decide) e_z93 (by omega) (by omega)
                refine lv_iinc (v := z93) (lv' := [(1, .int z93), (0, .ref h0), (2, .int (u56_ 0))]) hx hb dX13_hold_93 hl (k := 1) rfl e_z93.symm (by decide) rfl (fun ls hl => ?_)
                have hho : zHo (a56_ 0) f5 f4 f10 f11 (v0 4).toInt z93.toInt := zHo_s hI25_0 hI56_0 (by omega) hB51_0 (by omega)
                refine lv_goto (tgt := 25) hx hb dX13_hold_96 (by decide) ?_
                have hc : va_P (dC, dI) vwCl [(h0, .inr (13, mX13 q0 v0)), ((q0 73), zi k48 400 (a56_ 0)), ((q0 6), zi k5 120 f5), ((q0 5), zi k4 122880 f4), ((q0 11), zi k10 120 f10), ((q0 12), zi k11 120 f11), ((q0 28), zi k20 400 (a51_ 0))] H ∧ va_D A [(h0, .inr (13, mX13 q0 v0)), ((q0 73), zi k48 400 (a56_ 0)), ((q0 6), zi k5 120 f5), ((q0 5), zi k4 122880 f4), ((q0 11), zi k10 120 f10), ((q0 12), zi k11 120 f11), ((q0 28), zi k20 400 (a51_ 0))] ∧ va_S A s.heap H locs ∧ lv_has ls 3 [(0, .ref h0), (1, .int z93)] ∧ (0 ≤ z93.toInt ∧ z93.toInt ≤ 120) ∧ (zHo (a56_ 0) f5 f4 f10 f11 (v0 4).toInt z93.toInt) ∧ (z93.toInt ≤ (v0 13).toInt) := ⟨hP, hD, hS, lv_sub hl [1, 0] rfl, (by first | with_reducible assumption | exact ⟨by omega, by omega⟩), by first | exact hho | exact zHo_0 hI2_0 (by omega) (by omega), by omega⟩
                exact hJ25 H locs ls (fun i => ([z93] : List (Int32)).getD i 0) (fun _ => 0) (fun i => ([(a51_ 0), (a56_ 0)] : List (Nat → Int32)).getD i (fun _ => 0)) (fun _ => (fun _ => 0)) hc (show (120 - z93.toInt).toNat < (120 - (u25_ 0).toInt).toNat from by omega)
              · skip
                have b_ := zF_ge rfl rfl c_
                refine lv_aload_n hx hb dX13_hold_64 rfl (lv_at hl 0 rfl) ?_
                refine va_get (D := (dC, dI)) (ci := 13) (v := .ref (q0 73)) (C := RX13) (T := TX13) (N := 75) hx hb hG zuX13 hown hK hP 0 rfl rfl 73 (by decide) (hG _ zv1677) (fun _ h9 => h9) rfl dX13_hold_65 ?_
                refine lv_iload_n hx hb dX13_hold_68 rfl (lv_at hl 2 rfl) ?_
                refine lv_dup2_11 hx hb dX13_hold_69 rfl rfl ?_
                refine va_iald hx hb hK hP 1 0 rfl rfl (zin_lit ⟨by omega, by omega⟩) dX13_hold_70 ?_
                refine lv_topi (fun z70 e_z70 => ?_)
                have hat : z70 = (a25_ 1) ((u56_ 0) : Int32).toNatClampNeg := e_z70.trans (zHi_at hI56_0 rfl (by omega) (by omega))
                have b_ : 0 ≤ z70.toInt ∧ z70.toInt ≤ 120 := by have ei := zclamp (x := (u56_ 0)) (by omega); have q := hI25_0 ((u56_ 0) : Int32).toNatClampNeg (by omega); rw [← hat] at q; omega
                refine lv_aload_n hx hb dX13_hold_71 rfl (lv_at hl 0 rfl) ?_
                refine va_get (D := (dC, dI)) (ci := 13) (v := .ref (q0 28)) (C := RX13) (T := TX13) (N := 75) hx hb hG zuX13 hown hK hP 0 rfl rfl 28 (by decide) (hG _ zv1632) (fun _ h9 => h9) rfl dX13_hold_72 ?_
                refine lv_iload_n hx hb dX13_hold_75 rfl (lv_at hl 2 rfl) ?_
                refine va_iald hx hb hK hP 6 5 rfl rfl (zin_lit ⟨by omega, by omega⟩) dX13_hold_76 ?_
                refine lv_topi (fun z76 e_z76 => ?_)
                have b_ : -2147483648 ≤ z76.toInt ∧ z76.toInt ≤ 2147483647 := ⟨zlo _, zhi _⟩
                refine lv_if_le (tgt := 84) hx hb dX13_hold_77 (by decide) (fun c_ => ?_) (fun c_ => ?_)
                · skip
                  have b_ := zT_le rfl zk_0 c_
                  refine lv_iconst (v := 0) hx hb dX13_hold_84 (by decide) ?_
                  refine lv_iadd hx hb dX13_hold_85 ?_
                  refine lv_topi (fun z85 e_z85 => ?_)
                  have b_ := zadd rfl zk_0 e_z85 (by omega) (by omega)
                  refine va_iast hx hb hK hP hD hS 1 0 rfl rfl (zin_lit ⟨by omega, by omega⟩) dX13_hold_86 (fun H locs hP hD hS => ?_)
                  obtain ⟨f_86, e_f_86⟩ : ∃ z : Nat → Int32, z = upd (a56_ 0) ((u56_ 0) : Int32).toNatClampNeg z85 := ⟨_, rfl⟩
                  have hP : va_P (dC, dI) vwCl [(h0, .inr (13, mX13 q0 v0)), ((q0 73), zi k48 400 f_86), ((q0 6), zi k5 120 f5), ((q0 5), zi k4 122880 f4), ((q0 11), zi k10 120 f10), ((q0 12), zi k11 120 f11), ((q0 28), zi k20 400 (a51_ 0))] H := by rw [e_f_86]; exact hP
                  have hD : va_D A [(h0, .inr (13, mX13 q0 v0)), ((q0 73), zi k48 400 f_86), ((q0 6), zi k5 120 f5), ((q0 5), zi k4 122880 f4), ((q0 11), zi k10 120 f10), ((q0 12), zi k11 120 f11), ((q0 28), zi k20 400 (a51_ 0))] := by rw [e_f_86]; exact hD
                  obtain ⟨z87, e_z87⟩ : ∃ z : Int32, z = (u56_ 0) + Int32.ofInt 1 := ⟨_, rfl⟩
                  have b_ := zadd (x := (u56_ 0)) (y := Int32.ofInt 1) rfl (show (Int32.ofInt 1).toInt = 1 from by decide) e_z87 (by omega) (by omega)
                  refine lv_iinc (v := z87) (lv' := [(2, .int z87), (0, .ref h0), (1, .int (u25_ 0))]) hx hb dX13_hold_87 hl (k := 2) rfl e_z87.symm (by decide) rfl (fun ls hl => ?_)
                  have hhi : zHi f_86 (a25_ 1) (a51_ 0) (v0 4).toInt z87.toInt := by rw [e_f_86]; exact zHi_s hI56_0 rfl (by omega) (by rw [← hat, ← e_z76]; omega) (by omega)
                  refine lv_goto (tgt := 56) hx hb dX13_hold_90 (by decide) ?_
                  have hc : va_P (dC, dI) vwCl [(h0, .inr (13, mX13 q0 v0)), ((q0 73), zi k48 400 f_86), ((q0 6), zi k5 120 f5), ((q0 5), zi k4 122880 f4), ((q0 11), zi k10 120 f10), ((q0 12), zi k11 120 f11), ((q0 28), zi k20 400 (a51_ 0))] H ∧ va_D A [(h0, .inr (13, mX13 q0 v0)), ((q0 73), zi k48 400 f_86), ((q0 6), zi k5 120 f5), ((q0 5), zi k4 122880 f4), ((q0 11), zi k10 120 f10), ((q0 12), zi k11 120 f11), ((q0 28), zi k20 400 (a51_ 0))] ∧ va_S A s.heap H locs ∧ lv_has ls 3 [(0, .ref h0), (1, .int (u25_ 0)), (2, .int z87)] ∧ (0 ≤ z87.toInt ∧ z87.toInt ≤ 400) ∧ (zHi f_86 (a25_ 1) (a51_ 0) (v0 4).toInt z87.toInt) ∧ (z87.toInt ≤ (v0 4).toInt) := ⟨hP, hD, hS, lv_sub hl [1, 2, 0] rfl, (by first | with_reducible assumption | exact ⟨by omega, by omega⟩), by first | exact hhi | exact zHi_0 (by omega), by omega⟩
                  exact hJ56 H locs ls (fun i => ([z87] : List (Int32)).getD i 0) (fun _ => 0) (fun i => ([f_86] : List (Nat → Int32)).getD i (fun _ => 0)) (fun _ => (fun _ => 0)) hc (show (400 - z87.toInt).toNat < (400 - (u56_ 0).toInt).toNat from by omega)
                · skip
                  have b_ := zF_le rfl zk_0 c_
                  refine lv_iconst (v := 1) hx hb dX13_hold_80 (by decide) ?_
                  refine lv_goto (tgt := 85) hx hb dX13_hold_81 (by decide) ?_
                  refine lv_iadd hx hb dX13_hold_85 ?_
                  refine lv_topi (fun z85 e_z85 => ?_)
                  have b_ := zadd rfl zk_1 e_z85 (by omega) (by omega)
                  refine va_iast hx hb hK hP hD hS 1 0 rfl rfl (zin_lit ⟨by omega, by omega⟩) dX13_hold_86 (fun H locs hP hD hS => ?_)
                  obtain ⟨f_86, e_f_86⟩ : ∃ z : Nat → Int32, z = upd (a56_ 0) ((u56_ 0) : Int32).toNatClampNeg z85 := ⟨_, rfl⟩
                  have hP : va_P (dC, dI) vwCl [(h0, .inr (13, mX13 q0 v0)), ((q0 73), zi k48 400 f_86), ((q0 6), zi k5 120 f5), ((q0 5), zi k4 122880 f4), ((q0 11), zi k10 120 f10), ((q0 12), zi k11 120 f11), ((q0 28), zi k20 400 (a51_ 0))] H := by rw [e_f_86]; exact hP
                  have hD : va_D A [(h0, .inr (13, mX13 q0 v0)), ((q0 73), zi k48 400 f_86), ((q0 6), zi k5 120 f5), ((q0 5), zi k4 122880 f4), ((q0 11), zi k10 120 f10), ((q0 12), zi k11 120 f11), ((q0 28), zi k20 400 (a51_ 0))] := by rw [e_f_86]; exact hD
                  obtain ⟨z87, e_z87⟩ : ∃ z : Int32, z = (u56_ 0) + Int32.ofInt 1 := ⟨_, rfl⟩
                  have b_ := zadd (x := (u56_ 0)) (y := Int32.ofInt 1) rfl (show (Int32.ofInt 1).toInt = 1 from by decide) e_z87 (by omega) (by omega)
                  refine lv_iinc (v := z87) (lv' := [(2, .int z87), (0, .ref h0), (1, .int (u25_ 0))]) hx hb dX13_hold_87 hl (k := 2) rfl e_z87.symm (by decide) rfl (fun ls hl => ?_)
                  have hhi : zHi f_86 (a25_ 1) (a51_ 0) (v0 4).toInt z87.toInt := by rw [e_f_86]; exact zHi_s hI56_0 rfl (by omega) (by rw [← hat, ← e_z76]; omega) (by omega)
                  refine lv_goto (tgt := 56) hx hb dX13_hold_90 (by decide) ?_
                  have hc : va_P (dC, dI) vwCl [(h0, .inr (13, mX13 q0 v0)), ((q0 73), zi k48 400 f_86), ((q0 6), zi k5 120 f5), ((q0 5), zi k4 122880 f4), ((q0 11), zi k10 120 f10), ((q0 12), zi k11 120 f11), ((q0 28), zi k20 400 (a51_ 0))] H ∧ va_D A [(h0, .inr (13, mX13 q0 v0)), ((q0 73), zi k48 400 f_86), ((q0 6), zi k5 120 f5), ((q0 5), zi k4 122880 f4), ((q0 11), zi k10 120 f10), ((q0 12), zi k11 120 f11), ((q0 28), zi k20 400 (a51_ 0))] ∧ va_S A s.heap H locs ∧ lv_has ls 3 [(0, .ref h0), (1, .int (u25_ 0)), (2, .int z87)] ∧ (0 ≤ z87.toInt ∧ z87.toInt ≤ 400) ∧ (zHi f_86 (a25_ 1) (a51_ 0) (v0 4).toInt z87.toInt) ∧ (z87.toInt ≤ (v0 4).toInt) := ⟨hP, hD, hS, lv_sub hl [1, 2, 0] rfl, (by first | with_reducible assumption | exact ⟨by omega, by omega⟩), by first | exact hhi | exact zHi_0 (by omega), by omega⟩
                  exact hJ56 H locs ls (fun i => ([z87] : List (Int32)).getD i 0) (fun _ => 0) (fun i => ([f_86] : List (Nat → Int32)).getD i (fun _ => 0)) (fun _ => (fun _ => 0)) hc (show (400 - z87.toInt).toNat < (400 - (u56_ 0).toInt).toNat from by omega)
            · skip
              have hc : va_P (dC, dI) vwCl [(h0, .inr (13, mX13 q0 v0)), ((q0 73), zi k48 400 (a25_ 1)), ((q0 6), zi k5 120 f5), ((q0 5), zi k4 122880 f4), ((q0 11), zi k10 120 f10), ((q0 12), zi k11 120 f11), ((q0 28), zi k20 400 (a51_ 0))] H ∧ va_D A [(h0, .inr (13, mX13 q0 v0)), ((q0 73), zi k48 400 (a25_ 1)), ((q0 6), zi k5 120 f5), ((q0 5), zi k4 122880 f4), ((q0 11), zi k10 120 f10), ((q0 12), zi k11 120 f11), ((q0 28), zi k20 400 (a51_ 0))] ∧ va_S A s.heap H locs ∧ lv_has ls 3 [(0, .ref h0), (1, .int (u25_ 0)), (2, .int 0)] ∧ (0 ≤ (0 : Int32).toInt ∧ (0 : Int32).toInt ≤ 400) ∧ (zHi (a25_ 1) (a25_ 1) (a51_ 0) (v0 4).toInt (0 : Int32).toInt) ∧ ((0 : Int32).toInt ≤ (v0 4).toInt) := ⟨hP, hD, hS, lv_sub hl [1, 2, 0] rfl, (by first | with_reducible assumption | exact ⟨by omega, by omega⟩), by first | exact hhi | exact zHi_0 (by omega), by omega⟩
              exact hJ56 H locs ls (fun i => ([0] : List (Int32)).getD i 0) (fun _ => 0) (fun i => ([(a25_ 1)] : List (Nat → Int32)).getD i (fun _ => 0)) (fun _ => (fun _ => 0)) hc
          · skip
            have b_ := zF_ne rfl zk_0 c_
            refine lv_goto (tgt := 93) hx hb dX13_hold_42 (by decide) ?_
            obtain ⟨z93, e_z93⟩ : ∃ z : Int32, z = (u25_ 0) + Int32.ofInt 1 := ⟨_, rfl⟩
            have b_ := zadd (x := (u25_ 0)) (y := Int32.ofInt 1) rfl (show (Int32.ofInt 1).toInt = 1 from by decide) e_z93 (by omega) (by omega)
            refine lv_iinc (v := z93) (lv' := [(1, .int z93), (0, .ref h0)]) hx hb dX13_hold_93 hl (k := 1) rfl e_z93.symm (by decide) rfl (fun ls hl => ?_)
            have hho : zHo (a25_ 1) f5 f4 f10 f11 (v0 4).toInt z93.toInt := zHo_n hI25_0 (hon.trans (by omega)) (by omega)
            refine lv_goto (tgt := 25) hx hb dX13_hold_96 (by decide) ?_
            have hc : va_P (dC, dI) vwCl [(h0, .inr (13, mX13 q0 v0)), ((q0 73), zi k48 400 (a25_ 1)), ((q0 6), zi k5 120 f5), ((q0 5), zi k4 122880 f4), ((q0 11), zi k10 120 f10), ((q0 12), zi k11 120 f11), ((q0 28), zi k20 400 (a25_ 0))] H ∧ va_D A [(h0, .inr (13, mX13 q0 v0)), ((q0 73), zi k48 400 (a25_ 1)), ((q0 6), zi k5 120 f5), ((q0 5), zi k4 122880 f4), ((q0 11), zi k10 120 f10), ((q0 12), zi k11 120 f11), ((q0 28), zi k20 400 (a25_ 0))] ∧ va_S A s.heap H locs ∧ lv_has ls 3 [(0, .ref h0), (1, .int z93)] ∧ (0 ≤ z93.toInt ∧ z93.toInt ≤ 120) ∧ (zHo (a25_ 1) f5 f4 f10 f11 (v0 4).toInt z93.toInt) ∧ (z93.toInt ≤ (v0 13).toInt) := ⟨hP, hD, hS, lv_sub hl [1, 0] rfl, (by first | with_reducible assumption | exact ⟨by omega, by omega⟩), by first | exact hho | exact zHo_0 hI2_0 (by omega) (by omega), by omega⟩
            exact hJ25 H locs ls (fun i => ([z93] : List (Int32)).getD i 0) (fun _ => 0) (fun i => ([(a25_ 0), (a25_ 1)] : List (Nat → Int32)).getD i (fun _ => 0)) (fun _ => (fun _ => 0)) hc (show (120 - z93.toInt).toNat < (120 - (u25_ 0).toInt).toNat from by omega)
      · skip
        have hc : va_P (dC, dI) vwCl [(h0, .inr (13, mX13 q0 v0)), ((q0 73), zi k48 400 (a2_ 0)), ((q0 6), zi k5 120 f5), ((q0 5), zi k4 122880 f4), ((q0 11), zi k10 120 f10), ((q0 12), zi k11 120 f11), ((q0 28), zi k20 400 f20)] H ∧ va_D A [(h0, .inr (13, mX13 q0 v0)), ((q0 73), zi k48 400 (a2_ 0)), ((q0 6), zi k5 120 f5), ((q0 5), zi k4 122880 f4), ((q0 11), zi k10 120 f10), ((q0 12), zi k11 120 f11), ((q0 28), zi k20 400 f20)] ∧ va_S A s.heap H locs ∧ lv_has ls 3 [(0, .ref h0), (1, .int 0)] ∧ (0 ≤ (0 : Int32).toInt ∧ (0 : Int32).toInt ≤ 120) ∧ (zHo (a2_ 0) f5 f4 f10 f11 (v0 4).toInt (0 : Int32).toInt) ∧ ((0 : Int32).toInt ≤ (v0 13).toInt) := ⟨hP, hD, hS, lv_sub hl [1, 0] rfl, (by first | with_reducible assumption | exact ⟨by omega, by omega⟩), by first | exact hho | exact zHo_0 hI2_0 (by omega) (by omega), by omega⟩
        exact hJ25 H locs ls (fun i => ([0] : List (Int32)).getD i 0) (fun _ => 0) (fun i => ([f20, (a2_ 0)] : List (Nat → Int32)).getD i (fun _ => 0)) (fun _ => (fun _ => 0)) hc
    · skip
      have b_ := zF_ge rfl rfl c_
      refine lv_aload_n hx hb dX13_hold_10 rfl (lv_at hl 0 rfl) ?_
      refine va_get (D := (dC, dI)) (ci := 13) (v := .ref (q0 73)) (C := RX13) (T := TX13) (N := 75) hx hb hG zuX13 hown hK hP 0 rfl rfl 73 (by decide) (hG _ zv1677) (fun _ h9 => h9) rfl dX13_hold_11 ?_
      refine lv_iload_n hx hb dX13_hold_14 rfl (lv_at hl 1 rfl) ?_
      refine lv_iconst (v := 0) hx hb dX13_hold_15 (by decide) ?_
      refine va_iast hx hb hK hP hD hS 1 0 rfl rfl (zin_lit ⟨by omega, by omega⟩) dX13_hold_16 (fun H locs hP hD hS => ?_)
      obtain ⟨f_16, e_f_16⟩ : ∃ z : Nat → Int32, z = upd (a2_ 0) ((u2_ 0) : Int32).toNatClampNeg 0 := ⟨_, rfl⟩
      have hP : va_P (dC, dI) vwCl [(h0, .inr (13, mX13 q0 v0)), ((q0 73), zi k48 400 f_16), ((q0 6), zi k5 120 f5), ((q0 5), zi k4 122880 f4), ((q0 11), zi k10 120 f10), ((q0 12), zi k11 120 f11), ((q0 28), zi k20 400 f20)] H := by rw [e_f_16]; exact hP
      have hD : va_D A [(h0, .inr (13, mX13 q0 v0)), ((q0 73), zi k48 400 f_16), ((q0 6), zi k5 120 f5), ((q0 5), zi k4 122880 f4), ((q0 11), zi k10 120 f10), ((q0 12), zi k11 120 f11), ((q0 28), zi k20 400 f20)] := by rw [e_f_16]; exact hD
      obtain ⟨z17, e_z17⟩ : ∃ z : Int32, z = (u2_ 0) + Int32.ofInt 1 := ⟨_, rfl⟩
      have b_ := zadd (x := (u2_ 0)) (y := Int32.ofInt 1) rfl (show (Int32.ofInt 1).toInt = 1 from by decide) e_z17 (by omega) (by omega)
      refine lv_iinc (v := z17) (lv' := [(1, .int z17), (0, .ref h0)]) hx hb dX13_hold_17 hl (k := 1) rfl e_z17.symm (by decide) rfl (fun ls hl => ?_)
      refine lv_goto (tgt := 2) hx hb dX13_hold_20 (by decide) ?_
      have hc : va_P (dC, dI) vwCl [(h0, .inr (13, mX13 q0 v0)), ((q0 73), zi k48 400 f_16), ((q0 6), zi k5 120 f5), ((q0 5), zi k4 122880 f4), ((q0 11), zi k10 120 f10), ((q0 12), zi k11 120 f11), ((q0 28), zi k20 400 f20)] H ∧ va_D A [(h0, .inr (13, mX13 q0 v0)), ((q0 73), zi k48 400 f_16), ((q0 6), zi k5 120 f5), ((q0 5), zi k4 122880 f4), ((q0 11), zi k10 120 f10), ((q0 12), zi k11 120 f11), ((q0 28), zi k20 400 f20)] ∧ va_S A s.heap H locs ∧ lv_has ls 3 [(0, .ref h0), (1, .int z17)] ∧ (0 ≤ z17.toInt ∧ z17.toInt ≤ 400) ∧ (zT0 f_16 z17.toInt) ∧ (z17.toInt ≤ (v0 4).toInt) := ⟨hP, hD, hS, lv_sub hl [1, 0] rfl, (by first | with_reducible assumption | exact ⟨by omega, by omega⟩), by first | (rw [e_f_16]; exact zT0_s hI2_0 rfl (by omega) zk_0 (by omega)) | exact zT0_0 (by omega), by omega⟩
      exact hJ2 H locs ls (fun i => ([z17] : List (Int32)).getD i 0) (fun _ => 0) (fun i => ([f_16] : List (Nat → Int32)).getD i (fun _ => 0)) (fun _ => (fun _ => 0)) hc (show (400 - z17.toInt).toNat < (400 - (u2_ 0).toInt).toNat from by omega)
  · skip
    have hc : va_P (dC, dI) vwCl [(h0, .inr (13, mX13 q0 v0)), ((q0 73), zi k48 400 f48), ((q0 6), zi k5 120 f5), ((q0 5), zi k4 122880 f4), ((q0 11), zi k10 120 f10), ((q0 12), zi k11 120 f11), ((q0 28), zi k20 400 f20)] s.heap ∧ va_D A [(h0, .inr (13, mX13 q0 v0)), ((q0 73), zi k48 400 f48), ((q0 6), zi k5 120 f5), ((q0 5), zi k4 122880 f4), ((q0 11), zi k10 120 f10), ((q0 12), zi k11 120 f11), ((q0 28), zi k20 400 f20)] ∧ va_S A s.heap s.heap [] ∧ lv_has ls 3 [(0, .ref h0), (1, .int 0)] ∧ (0 ≤ (0 : Int32).toInt ∧ (0 : Int32).toInt ≤ 400) ∧ (zT0 f48 (0 : Int32).toInt) ∧ ((0 : Int32).toInt ≤ (v0 4).toInt) := ⟨hP, hD, hS, lv_sub hl [1, 0] rfl, (by first | with_reducible assumption | exact ⟨by omega, by omega⟩), by first | (rw [e_f_16]; exact zT0_s hI2_0 rfl (by omega) zk_0 (by omega)) | exact zT0_0 (by omega), by omega⟩
    exact hJ2 s.heap [] ls (fun i => ([0] : List (Int32)).getD i 0) (fun _ => 0) (fun i => ([f48] : List (Nat → Int32)).getD i (fun _ => 0)) (fun _ => (fun _ => 0)) hc
set_option maxHeartbeats 8000000 in
set_option maxRecDepth 100000 in
theorem sX13_alike_0 (l : Launch) (dC : Nat → ClassId) (dI : Nat → Nat → Nat) (adK adV : Nat → Nat) (h0 : Nat) (q0 : Nat → Nat) (k20 : ClassId) (k10 : ClassId) (k4 : ClassId) (k11 : ClassId) (k49 : ClassId) (k48 : ClassId) (k5 : ClassId) (sz : Nat) (v0 : Nat → Int32) (f20 : Nat → Int32) (f10 : Nat → Int32) (f4 : Nat → Int32) (f11 : Nat → Int32) (f49 : Nat → Int32) (f48 : Nat → Int32) (f5 : Nat → Int32) (x1 : Int32) (x2 : Int32) (hv0 : zR rg_Model v0) (hf10 : zA 0 512 f10) (hf4 : zA 0 400 f4) (hf11 : zA 0 512 f11) (hx1 : 0 ≤ x1.toInt ∧ x1.toInt ≤ 119) (hp0_ : zHo f48 f5 f4 f10 f11 (v0 4).toInt (v0 13).toInt) (hp1_ : x1.toInt < (v0 13).toInt) (hp2_ : (f5 ((x1 : Int32)).toNatClampNeg).toInt ≠ 0) : Met l yX13_alike (zw yX13_alike cX13_alike 5 (some .int)) { frames := 1, cells := 0, slots := 0, locals := 40 } (zPc dC dI adK adV [.ref h0, .int x1, .int x2] sz [(h0, .inr (13, mX13 q0 v0)), ((q0 28), zi k20 400 f20), ((q0 11), zi k10 120 f10), ((q0 5), zi k4 122880 f4), ((q0 12), zi k11 120 f11), ((q0 74), zi k49 400 f49), ((q0 73), zi k48 400 f48), ((q0 6), zi k5 120 f5)] [(k20, .int), (k10, .int), (k4, .short), (k11, .int), (k49, .int), (k48, .int), (k5, .boolean)]) (va_Qi (fun (r : Int32) (u : Nat → Int32) => True) (fun (u : Nat → Int32) (t : State) => ∃ (ww : Nat → Int64) (aa : Nat → Nat → Int32) (bb : Nat → Nat → Int64), va_P (dC, dI) vwCl [(h0, .inr (13, mX13 q0 v0)), ((q0 28), zi k20 400 (aa 0)), ((q0 11), zi k10 120 f10), ((q0 5), zi k4 122880 f4), ((q0 12), zi k11 120 f11), ((q0 74), zi k49 400 f49), ((q0 73), zi k48 400 f48), ((q0 6), zi k5 120 f5)] t.heap ∧ va_K (dC, dI) vwCl [(k20, .int), (k10, .int), (k4, .short), (k11, .int), (k49, .int), (k48, .int), (k5, .boolean)] t ∧ va_D (va_A [(h0, .inr (13, mX13 q0 v0)), ((q0 28), zi k20 400 f20), ((q0 11), zi k10 120 f10), ((q0 5), zi k4 122880 f4), ((q0 12), zi k11 120 f11), ((q0 74), zi k49 400 f49), ((q0 73), zi k48 400 f48), ((q0 6), zi k5 120 f5)] sz) [(h0, .inr (13, mX13 q0 v0)), ((q0 28), zi k20 400 (aa 0)), ((q0 11), zi k10 120 f10), ((q0 5), zi k4 122880 f4), ((q0 12), zi k11 120 f11), ((q0 74), zi k49 400 f49), ((q0 73), zi k48 400 f48), ((q0 6), zi k5 120 f5)]) (va_A [(h0, .inr (13, mX13 q0 v0)), ((q0 28), zi k20 400 f20), ((q0 11), zi k10 120 f10), ((q0 5), zi k4 122880 f4), ((q0 12), zi k11 120 f11), ((q0 74), zi k49 400 f49), ((q0 73), zi k48 400 f48), ((q0 6), zi k5 120 f5)] sz)) 0 0 (va_A [(h0, .inr (13, mX13 q0 v0)), ((q0 28), zi k20 400 f20), ((q0 11), zi k10 120 f10), ((q0 5), zi k4 122880 f4), ((q0 12), zi k11 120 f11), ((q0 74), zi k49 400 f49), ((q0 73), zi k48 400 f48), ((q0 6), zi k5 120 f5)] sz) := by
  refine Met.ofW (cc := cX13_alike) (maxL := 5) (ret := (some .int)) (by decide) rfl ?_
  intro p e s m args below meth c s₁ B hml hv
  obtain ⟨rfl, hsz, hP, hK, hD0, hE, hZ⟩ := hv
  have hx := B.exec
  have hb := B.bytes
  have hr := B.returns
  have hG : ∀ w ∈ zG, w.before _ s = true := fun w h => atoms_spec (ws := (zw yX13_alike cX13_alike 5 (some .int))) B.pre w (List.mem_cons_of_mem _ h)
  have hown : s.vm.findClass RX13 = some m.cls := findClass_of_methodNamed B.named
  have hlocks := B.notSynchronized

  subst hsz
  have hD := hD0.self (sz := s.heap.size)
  generalize hAe : va_A [(h0, .inr (13, mX13 q0 v0)), ((q0 28), zi k20 400 f20), ((q0 11), zi k10 120 f10), ((q0 5), zi k4 122880 f4), ((q0 12), zi k11 120 f11), ((q0 74), zi k49 400 f49), ((q0 73), zi k48 400 f48), ((q0 6), zi k5 120 f5)] s.heap.size = A at hD hZ ⊢
  have hA : ∀ q : Nat, s.heap.size ≤ q → A q := fun q h => by rw [← hAe]; exact Or.inr h
  have hS : va_S A s.heap s.heap [] := va_S.rf
  have hl := lv_entry ([.ref h0, .int x1, .int x2]) (n := 5) (Nat.le_of_ble_eq_true rfl)
  rw [lg_entry_eq]
  generalize (lg_sl ([.ref h0, .int x1, .int x2]) ++ List.replicate (5 - (lg_sl ([.ref h0, .int x1, .int x2])).length) Slot.unset).toArray = ls at hl ⊢
  have hl : lv_has ls 5 [(0, .ref h0), (1, .int x1), (2, .int x2)] := hl
  have b_ := zk_0
  have b_ : 0 ≤ (v0 4).toInt ∧ (v0 4).toInt ≤ 400 := hv0 4
  have b_ : 0 ≤ (v0 13).toInt ∧ (v0 13).toInt ≤ 120 := hv0 13
  refine lv_aload_n hx hb dX13_alike_0 rfl (lv_at hl 0 rfl) ?_
  refine lv_iload_n hx hb dX13_alike_1 rfl (lv_at hl 1 rfl) ?_
  refine lv_aload_n hx hb dX13_alike_2 rfl (lv_at hl 0 rfl) ?_
  refine va_get (D := (dC, dI)) (ci := 13) (v := .ref (q0 28)) (C := RX13) (T := TX13) (N := 75) hx hb hG zuX13 hown hK hP 0 rfl rfl 28 (by decide) (hG _ zv1632) (fun _ h9 => h9) rfl dX13_alike_3 ?_
  have hPc := hP.sub (ws' := [(h0, .inr (13, mX13 q0 v0)), ((q0 28), zi k20 400 f20), ((q0 11), zi k10 120 f10), ((q0 5), zi k4 122880 f4), ((q0 12), zi k11 120 f11)]) [0, 1, 2, 3, 4] rfl
  have hDc := hD.sub (ws' := [(h0, .inr (13, mX13 q0 v0)), ((q0 28), zi k20 400 f20), ((q0 11), zi k10 120 f10), ((q0 5), zi k4 122880 f4), ((q0 12), zi k11 120 f11)]) [0, 1, 2, 3, 4] (by decide) rfl
  have hKc := hK.sub (tys' := [(k20, .int), (k10, .int), (k4, .short), (k11, .int)]) [0, 1, 2, 3] rfl
  have hFc := va_free (wc := [(h0, .inr (13, mX13 q0 v0)), ((q0 28), zi k20 400 f20), ((q0 11), zi k10 120 f10), ((q0 5), zi k4 122880 f4), ((q0 12), zi k11 120 f11)]) hD hS hA [0, 1, 2, 3, 4] rfl
  refine va_callv (va_runV (As := [.int x1, .ref (q0 28)]) (rest := []) ⟨hx, hb, hml, hown, hG⟩ (sX13_tally_0 l dC dI adK adV h0 q0 (q0 28) k20 k10 k4 k11 s.heap.size v0 f20 f10 f4 f11 x1 hv0 hf10 hf4 hf11 (show (0 : Int) ≤ (x1 : Int32).toInt ∧ (x1 : Int32).toInt ≤ (119 : Int) from (by first | with_reducible assumption | exact ⟨by omega, by omega⟩))) (cwV 2 hG (zgV zv1919 zv1921 zv62 zv142 zv1922) rfl rfl rfl (by decide +kernel) ⟨Nat.le_of_ble_eq_true rfl, Nat.le_of_ble_eq_true rfl⟩) ⟨zPc_blind, va_recv hKc hPc (ci := 13) (q0 := 0) rfl rfl, zPc_pre hPc hKc hDc hE hS hFc hZ⟩ rfl rfl hl.1 rfl (lv_room (Nat.le_of_ble_eq_true rfl)) dX13_alike_6 ⟨Nat.le_of_ble_eq_true rfl, Nat.le_of_ble_eq_true rfl⟩) hS (fun q _ h => hFc q h) hFc (fun u6_ t H1 locs ht hvm hw hB hz1 hk1 hS => ?_)
  obtain ⟨w6_, a6_, b6_, hB6_0, hP1, hK1, hD1⟩ := hB
  have hB6_0 : zTc (a6_ 0) f4 f10 f11 (v0 4).toInt x1.toInt := hB6_0
  rw [ht] at hP1
  obtain ⟨hP, hD⟩ := va_join (wr := [((q0 74), zi k49 400 f49), ((q0 73), zi k48 400 f48), ((q0 6), zi k5 120 f5)]) (w1 := [(h0, .inr (13, mX13 q0 v0)), ((q0 28), zi k20 400 (a6_ 0)), ((q0 11), zi k10 120 f10), ((q0 5), zi k4 122880 f4), ((q0 12), zi k11 120 f11)]) hP hD [0, 1, 2, 3, 4] [5, 6, 7] rfl rfl (by decide) (by decide) hk1 hFc hP1 hD1
  have hP : va_P (dC, dI) vwCl [(h0, .inr (13, mX13 q0 v0)), ((q0 28), zi k20 400 (a6_ 0)), ((q0 11), zi k10 120 f10), ((q0 5), zi k4 122880 f4), ((q0 12), zi k11 120 f11), ((q0 74), zi k49 400 f49), ((q0 73), zi k48 400 f48), ((q0 6), zi k5 120 f5)] H1 := hP.sub [3, 4, 5, 6, 7, 0, 1, 2] rfl
  have hD : va_D A [(h0, .inr (13, mX13 q0 v0)), ((q0 28), zi k20 400 (a6_ 0)), ((q0 11), zi k10 120 f10), ((q0 5), zi k4 122880 f4), ((q0 12), zi k11 120 f11), ((q0 74), zi k49 400 f49), ((q0 73), zi k48 400 f48), ((q0 6), zi k5 120 f5)] := hD.sub [3, 4, 5, 6, 7, 0, 1, 2] (by decide) rfl
  generalize H1 = H at hP hS ⊢
  clear hz1
  refine lv_iconst (v := 0) hx hb dX13_alike_9 (by decide) ?_
  refine lv_istore_n (lv' := [(3, .int 0), (0, .ref h0), (1, .int x1), (2, .int x2)]) hx hb dX13_alike_10 rfl hl (by decide) rfl (fun ls hl => ?_)
  refine lv_iconst (v := 0) hx hb dX13_alike_11 (by decide) ?_
  refine lv_istore (lv' := [(4, .int 0), (3, .int 0), (0, .ref h0), (1, .int x1), (2, .int x2)]) hx hb dX13_alike_12 hl (by decide) rfl (fun ls hl => ?_)
  refine zcutL (fun u14_ => (400 - (u14_ 1).toInt).toNat) (fun H locs ls u14_ w14_ a14_ b14_ => va_P (dC, dI) vwCl [(h0, .inr (13, mX13 q0 v0)), ((q0 28), zi k20 400 (a6_ 0)), ((q0 11), zi k10 120 f10), ((q0 5), zi k4 122880 f4), ((q0 12), zi k11 120 f11), ((q0 74), zi k49 400 f49), ((q0 73), zi k48 400 f48), ((q0 6), zi k5 120 f5)] H ∧ va_D A [(h0, .inr (13, mX13 q0 v0)), ((q0 28), zi k20 400 (a6_ 0)), ((q0 11), zi k10 120 f10), ((q0 5), zi k4 122880 f4), ((q0 12), zi k11 120 f11), ((q0 74), zi k49 400 f49), ((q0 73), zi k48 400 f48), ((q0 6), zi k5 120 f5)] ∧ va_S A s.heap H locs ∧ lv_has ls 5 [(0, .ref h0), (1, .int x1), (2, .int x2), (3, .int (u14_ 0)), (4, .int (u14_ 1))] ∧ (0 ≤ (u14_ 1).toInt ∧ (u14_ 1).toInt ≤ 400)) (fun ls u14_ w14_ => F0 m 14 ls []) 0 0 ?_ (fun hJ14 => ?_)
  · skip
    intro H locs ls u14_ w14_ a14_ b14_ hc hJ14
    obtain ⟨hP, hD, hS, hl, b_⟩ := hc
    refine lv_iload hx hb dX13_alike_14 (lv_at hl 4 rfl) ?_
    refine lv_aload_n hx hb dX13_alike_16 rfl (lv_at hl 0 rfl) ?_
    refine va_get (D := (dC, dI)) (ci := 13) (v := .int (v0 4)) (C := RX13) (T := TX13) (N := 75) hx hb hG zuX13 hown hK hP 0 rfl rfl 4 (by decide) (hG _ zv1608) (fun _ h9 => h9) rfl dX13_alike_17 ?_
    refine lv_icmp_ge (tgt := 85) hx hb dX13_alike_20 (by decide) (fun c_ => ?_) (fun c_ => ?_)
    · skip
      have b_ := zT_ge rfl rfl c_
      refine lv_iload_n hx hb dX13_alike_85 rfl (lv_at hl 3 rfl) ?_
      refine W.widen (k := 0) (n := 0) (by decide) (by decide) ?_
      have b_ : -2147483648 ≤ (u14_ 0).toInt ∧ (u14_ 0).toInt ≤ 2147483647 := ⟨zlo _, zhi _⟩
      have hpost : True := trivial
      have hP9 : va_P (dC, dI) vwCl [(h0, .inr (13, mX13 q0 v0)), ((q0 28), zi k20 400 (a6_ 0)), ((q0 11), zi k10 120 f10), ((q0 5), zi k4 122880 f4), ((q0 12), zi k11 120 f11), ((q0 74), zi k49 400 f49), ((q0 73), zi k48 400 f48), ((q0 6), zi k5 120 f5)] H := hP
      have hD9 : va_D A [(h0, .inr (13, mX13 q0 v0)), ((q0 28), zi k20 400 (a6_ 0)), ((q0 11), zi k10 120 f10), ((q0 5), zi k4 122880 f4), ((q0 12), zi k11 120 f11), ((q0 74), zi k49 400 f49), ((q0 73), zi k48 400 f48), ((q0 6), zi k5 120 f5)] := hD
      exact W.iret (v := (u14_ 0)) hx hb hr (fun t ht hW => ⟨⟨(u14_ 0), (fun _ => 0), rfl, hpost, (fun _ => 0), (fun i => ([(a6_ 0)] : List (Nat → Int32)).getD i (fun _ => 0)), (fun _ => (fun _ => 0)), by rw [ht]; exact hP9, va_K.moved hW.alike hK, hD9⟩, hS.F ht⟩) hS.2.2 dX13_alike_86
    · skip
      have b_ := zF_ge rfl rfl c_
      refine lv_aload_n hx hb dX13_alike_23 rfl (lv_at hl 0 rfl) ?_
      refine va_get (D := (dC, dI)) (ci := 13) (v := .ref (q0 74)) (C := RX13) (T := TX13) (N := 75) hx hb hG zuX13 hown hK hP 0 rfl rfl 74 (by decide) (hG _ zv1678) (fun _ h9 => h9) rfl dX13_alike_24 ?_
      refine lv_iload hx hb dX13_alike_27 (lv_at hl 4 rfl) ?_
      refine va_iald hx hb hK hP 5 4 rfl rfl (zin_lit ⟨by omega, by omega⟩) dX13_alike_29 ?_
      refine lv_topi (fun z29 e_z29 => ?_)
      have b_ : -2147483648 ≤ z29.toInt ∧ z29.toInt ≤ 2147483647 := ⟨zlo _, zhi _⟩
      refine lv_if_le (tgt := 79) hx hb dX13_alike_30 (by decide) (fun c_ => ?_) (fun c_ => ?_)
      · skip
        have b_ := zT_le rfl zk_0 c_
        obtain ⟨z79, e_z79⟩ : ∃ z : Int32, z = (u14_ 1) + Int32.ofInt 1 := ⟨_, rfl⟩
        have b_ := zadd (x := (u14_ 1)) (y := Int32.ofInt 1) rfl (show (Int32.ofInt 1).toInt = 1 from by decide) e_z79 (by omega) (by omega)
        refine lv_iinc (v := z79) (lv' := [(4, .int z79), (0, .ref h0), (1, .int x1), (2, .int x2), (3, .int (u14_ 0))]) hx hb dX13_alike_79 hl (k := 4) rfl e_z79.symm (by decide) rfl (fun ls hl => ?_)
        refine lv_goto (tgt := 14) hx hb dX13_alike_82 (by decide) ?_
        have b_ : -2147483648 ≤ x2.toInt ∧ x2.toInt ≤ 2147483647 := ⟨zlo _, zhi _⟩
        have b_ : -2147483648 ≤ (u14_ 0).toInt ∧ (u14_ 0).toInt ≤ 2147483647 := ⟨zlo _, zhi _⟩
        have hc : va_P (dC, dI) vwCl [(h0, .inr (13, mX13 q0 v0)), ((q0 28), zi k20 400 (a6_ 0)), ((q0 11), zi k10 120 f10), ((q0 5), zi k4 122880 f4), ((q0 12), zi k11 120 f11), ((q0 74), zi k49 400 f49), ((q0 73), zi k48 400 f48), ((q0 6), zi k5 120 f5)] H ∧ va_D A [(h0, .inr (13, mX13 q0 v0)), ((q0 28), zi k20 400 (a6_ 0)), ((q0 11), zi k10 120 f10), ((q0 5), zi k4 122880 f4), ((q0 12), zi k11 120 f11), ((q0 74), zi k49 400 f49), ((q0 73), zi k48 400 f48), ((q0 6), zi k5 120 f5)] ∧ va_S A s.heap H locs ∧ lv_has ls 5 [(0, .ref h0), (1, .int x1), (2, .int x2), (3, .int (u14_ 0)), (4, .int z79)] ∧ (0 ≤ z79.toInt ∧ z79.toInt ≤ 400) := ⟨hP, hD, hS, lv_sub hl [1, 2, 3, 4, 0] rfl, (by first | with_reducible assumption | exact ⟨by omega, by omega⟩)⟩
        exact hJ14 H locs ls (fun i => ([(u14_ 0), z79] : List (Int32)).getD i 0) (fun _ => 0) (fun _ => (fun _ => 0)) (fun _ => (fun _ => 0)) hc (show (400 - z79.toInt).toNat < (400 - (u14_ 1).toInt).toNat from by omega)
      · skip
        have b_ := zF_le rfl zk_0 c_
        refine lv_aload_n hx hb dX13_alike_33 rfl (lv_at hl 0 rfl) ?_
        refine va_get (D := (dC, dI)) (ci := 13) (v := .ref (q0 28)) (C := RX13) (T := TX13) (N := 75) hx hb hG zuX13 hown hK hP 0 rfl rfl 28 (by decide) (hG _ zv1632) (fun _ h9 => h9) rfl dX13_alike_34 ?_
        refine lv_iload hx hb dX13_alike_37 (lv_at hl 4 rfl) ?_
        refine va_iald hx hb hK hP 1 0 rfl rfl (zin_lit ⟨by omega, by omega⟩) dX13_alike_39 ?_
        refine lv_topi (fun z39 e_z39 => ?_)
        have b_ : -2147483648 ≤ z39.toInt ∧ z39.toInt ≤ 2147483647 := ⟨zlo _, zhi _⟩
        refine lv_if_le (tgt := 79) hx hb dX13_alike_40 (by decide) (fun c_ => ?_) (fun c_ => ?_)
        · skip
          have b_ := zT_le rfl zk_0 c_
          obtain ⟨z79, e_z79⟩ : ∃ z : Int32, z = (u14_ 1) + Int32.ofInt 1 := ⟨_, rfl⟩
          have b_ := zadd (x := (u14_ 1)) (y := Int32.ofInt 1) rfl (show (Int32.ofInt 1).toInt = 1 from by decide) e_z79 (by omega) (by omega)
          refine lv_iinc (v := z79) (lv' := [(4, .int z79), (0, .ref h0), (1, .int x1), (2, .int x2), (3, .int (u14_ 0))]) hx hb dX13_alike_79 hl (k := 4) rfl e_z79.symm (by decide) rfl (fun ls hl => ?_)
          refine lv_goto (tgt := 14) hx hb dX13_alike_82 (by decide) ?_
          have b_ : -2147483648 ≤ x2.toInt ∧ x2.toInt ≤ 2147483647 := ⟨zlo _, zhi _⟩
          have b_ : -2147483648 ≤ (u14_ 0).toInt ∧ (u14_ 0).toInt ≤ 2147483647 := ⟨zlo _, zhi _⟩
          have hc : va_P (dC, dI) vwCl [(h0, .inr (13, mX13 q0 v0)), ((q0 28), zi k20 400 (a6_ 0)), ((q0 11), zi k10 120 f10), ((q0 5), zi k4 122880 f4), ((q0 12), zi k11 120 f11), ((q0 74), zi k49 400 f49), ((q0 73), zi k48 400 f48), ((q0 6), zi k5 120 f5)] H ∧ va_D A [(h0, .inr (13, mX13 q0 v0)), ((q0 28), zi k20 400 (a6_ 0)), ((q0 11), zi k10 120 f10), ((q0 5), zi k4 122880 f4), ((q0 12), zi k11 120 f11), ((q0 74), zi k49 400 f49), ((q0 73), zi k48 400 f48), ((q0 6), zi k5 120 f5)] ∧ va_S A s.heap H locs ∧ lv_has ls 5 [(0, .ref h0), (1, .int x1), (2, .int x2), (3, .int (u14_ 0)), (4, .int z79)] ∧ (0 ≤ z79.toInt ∧ z79.toInt ≤ 400) := ⟨hP, hD, hS, lv_sub hl [1, 2, 3, 4, 0] rfl, (by first | with_reducible assumption | exact ⟨by omega, by omega⟩)⟩
          exact hJ14 H locs ls (fun i => ([(u14_ 0), z79] : List (Int32)).getD i 0) (fun _ => 0) (fun _ => (fun _ => 0)) (fun _ => (fun _ => 0)) hc (show (400 - z79.toInt).toNat < (400 - (u14_ 1).toInt).toNat from by omega)
        · skip
          have b_ := zF_le rfl zk_0 c_
          refine lv_iload_n hx hb dX13_alike_43 rfl (lv_at hl 3 rfl) ?_
          refine lv_aload_n hx hb dX13_alike_44 rfl (lv_at hl 0 rfl) ?_
          refine va_get (D := (dC, dI)) (ci := 13) (v := .ref (q0 74)) (C := RX13) (T := TX13) (N := 75) hx hb hG zuX13 hown hK hP 0 rfl rfl 74 (by decide) (hG _ zv1678) (fun _ h9 => h9) rfl dX13_alike_45 ?_
          refine lv_iload hx hb dX13_alike_48 (lv_at hl 4 rfl) ?_
          refine va_iald hx hb hK hP 5 4 rfl rfl (zin_lit ⟨by omega, by omega⟩) dX13_alike_50 ?_
          refine lv_topi (fun z50 e_z50 => ?_)
          refine lv_aload_n hx hb dX13_alike_51 rfl (lv_at hl 0 rfl) ?_
          refine va_get (D := (dC, dI)) (ci := 13) (v := .ref (q0 28)) (C := RX13) (T := TX13) (N := 75) hx hb hG zuX13 hown hK hP 0 rfl rfl 28 (by decide) (hG _ zv1632) (fun _ h9 => h9) rfl dX13_alike_52 ?_
          refine lv_iload hx hb dX13_alike_55 (lv_at hl 4 rfl) ?_
          refine va_iald hx hb hK hP 1 0 rfl rfl (zin_lit ⟨by omega, by omega⟩) dX13_alike_57 ?_
          refine lv_topi (fun z57 e_z57 => ?_)
          have b_ : -2147483648 ≤ z50.toInt ∧ z50.toInt ≤ 2147483647 := ⟨zlo _, zhi _⟩
          have b_ : -2147483648 ≤ z57.toInt ∧ z57.toInt ≤ 2147483647 := ⟨zlo _, zhi _⟩
          refine va_mmin hx hb (by rw [hml]; exact hl.1.symm) hown (hG _ zv1897) (hG _ zv1385) (hG _ zv152) (hG _ zv1386) (Nat.le_of_ble_eq_true rfl) (Nat.le_of_ble_eq_true rfl) (Nat.le_of_ble_eq_true rfl) (Nat.le_of_ble_eq_true rfl) dX13_alike_58 ?_
          refine lv_topi (fun z58 e_z58 => ?_)
          have b_ := zmin rfl rfl e_z58
          refine lv_bipush (v := 16) hx hb dX13_alike_61 (by decide) ?_
          refine lv_iload_n hx hb dX13_alike_63 rfl (lv_at hl 2 rfl) ?_
          have b_ : -2147483648 ≤ x2.toInt ∧ x2.toInt ≤ 2147483647 := ⟨zlo _, zhi _⟩
          refine lv_imul hx hb dX13_alike_64 ?_
          refine lv_topi (fun z64 e_z64 => ?_)
          refine lv_aload_n hx hb dX13_alike_65 rfl (lv_at hl 0 rfl) ?_
          refine va_get (D := (dC, dI)) (ci := 13) (v := .ref (q0 73)) (C := RX13) (T := TX13) (N := 75) hx hb hG zuX13 hown hK hP 0 rfl rfl 73 (by decide) (hG _ zv1677) (fun _ h9 => h9) rfl dX13_alike_66 ?_
          refine lv_iload hx hb dX13_alike_69 (lv_at hl 4 rfl) ?_
          refine va_iald hx hb hK hP 6 5 rfl rfl (zin_lit ⟨by omega, by omega⟩) dX13_alike_71 ?_
          refine lv_topi (fun z71 e_z71 => ?_)
          have b_ : 1 ≤ z71.toInt := by rw [e_z71]; exact zHo_get hp0_ hB6_0 (by omega) (by omega) (by omega) (by omega) hp2_ (by rw [← e_z39]; omega)
          have b_ : -2147483648 ≤ z64.toInt ∧ z64.toInt ≤ 2147483647 := ⟨zlo _, zhi _⟩
          refine lv_idiv hx hb dX13_alike_72 (zne0 (show (z71 : Int32).toInt ≠ 0 from by omega)) ?_
          refine lv_topi (fun z72 e_z72 => ?_)
          have hPc := hP.sub (ws' := []) [] rfl
          have hDc := hD.sub (ws' := []) [] (by decide) rfl
          have hKc := hK.sub (tys' := []) [] rfl
          have hFc := va_free (wc := []) hD hS hA [] rfl
          refine va_calli (va_runS (As := [.int z72]) (rest := [.int z58, .int (u14_ 0)]) ⟨hx, hb, hml, hown, hG⟩ (sX13_digits_0 l dC dI adK adV H.size z72) (va_cwS 1 hG (zgS zv1909 zv1910 zv142 zv1911) rfl rfl rfl (by decide +kernel) ⟨Nat.le_of_ble_eq_true rfl, Nat.le_of_ble_eq_true rfl⟩) ⟨zPc_blind, zPc_pre hPc hKc hDc hE hS hFc hZ⟩ rfl rfl hl.1 rfl (lv_room (Nat.le_of_ble_eq_true rfl)) dX13_alike_73 ⟨Nat.le_of_ble_eq_true rfl, Nat.le_of_ble_eq_true rfl⟩) hS (fun q _ h => hFc q h) hFc (fun r73_ u73_ t H1 locs ht hvm hw hB hz1 hk1 hS => ?_)
          replace hw : (0 ≤ r73_.toInt ∧ r73_.toInt ≤ 31) ∧ (r73_.toInt = zdig z72.toInt) := hw
          obtain ⟨b_, hX73_0⟩ := hw
          obtain ⟨w73_, a73_, b73_, hP1, hK1, hD1⟩ := hB
          rw [ht] at hP1
          obtain ⟨hP, hD⟩ := va_join (wr := [(h0, .inr (13, mX13 q0 v0)), ((q0 28), zi k20 400 (a6_ 0)), ((q0 11), zi k10 120 f10), ((q0 5), zi k4 122880 f4), ((q0 12), zi k11 120 f11), ((q0 74), zi k49 400 f49), ((q0 73), zi k48 400 f48), ((q0 6), zi k5 120 f5)]) (w1 := []) hP hD [] [0, 1, 2, 3, 4, 5, 6, 7] rfl rfl (by decide) (by decide) hk1 hFc hP1 hD1
          have hP : va_P (dC, dI) vwCl [(h0, .inr (13, mX13 q0 v0)), ((q0 28), zi k20 400 (a6_ 0)), ((q0 11), zi k10 120 f10), ((q0 5), zi k4 122880 f4), ((q0 12), zi k11 120 f11), ((q0 74), zi k49 400 f49), ((q0 73), zi k48 400 f48), ((q0 6), zi k5 120 f5)] H1 := hP.sub [0, 1, 2, 3, 4, 5, 6, 7] rfl
          have hD : va_D A [(h0, .inr (13, mX13 q0 v0)), ((q0 28), zi k20 400 (a6_ 0)), ((q0 11), zi k10 120 f10), ((q0 5), zi k4 122880 f4), ((q0 12), zi k11 120 f11), ((q0 74), zi k49 400 f49), ((q0 73), zi k48 400 f48), ((q0 6), zi k5 120 f5)] := hD.sub [0, 1, 2, 3, 4, 5, 6, 7] (by decide) rfl
          generalize H1 = H at hP hS ⊢
          clear hz1
          refine lv_imul hx hb dX13_alike_76 ?_
          refine lv_topi (fun z76 e_z76 => ?_)
          have b_ : -2147483648 ≤ (u14_ 0).toInt ∧ (u14_ 0).toInt ≤ 2147483647 := ⟨zlo _, zhi _⟩
          have b_ : -2147483648 ≤ z76.toInt ∧ z76.toInt ≤ 2147483647 := ⟨zlo _, zhi _⟩
          refine lv_iadd hx hb dX13_alike_77 ?_
          refine lv_topi (fun z77 e_z77 => ?_)
          refine lv_istore_n (lv' := [(3, .int z77), (0, .ref h0), (1, .int x1), (2, .int x2), (4, .int (u14_ 1))]) hx hb dX13_alike_78 rfl hl (by decide) rfl (fun ls hl => ?_)
          obtain ⟨z79, e_z79⟩ : ∃ z : Int32, z = (u14_ 1) + Int32.ofInt 1 := ⟨_, rfl⟩
          have b_ := zadd (x := (u14_ 1)) (y := Int32.ofInt 1) rfl (show (Int32.ofInt 1).toInt = 1 from by decide) e_z79 (by omega) (by omega)
          refine lv_iinc (v := z79) (lv' := [(4, .int z79), (3, .int z77), (0, .ref h0), (1, .int x1), (2, .int x2)]) hx hb dX13_alike_79 hl (k := 4) rfl e_z79.symm (by decide) rfl (fun ls hl => ?_)
          refine lv_goto (tgt := 14) hx hb dX13_alike_82 (by decide) ?_
          have b_ : -2147483648 ≤ z77.toInt ∧ z77.toInt ≤ 2147483647 := ⟨zlo _, zhi _⟩
          have hc : va_P (dC, dI) vwCl [(h0, .inr (13, mX13 q0 v0)), ((q0 28), zi k20 400 (a6_ 0)), ((q0 11), zi k10 120 f10), ((q0 5), zi k4 122880 f4), ((q0 12), zi k11 120 f11), ((q0 74), zi k49 400 f49), ((q0 73), zi k48 400 f48), ((q0 6), zi k5 120 f5)] H ∧ va_D A [(h0, .inr (13, mX13 q0 v0)), ((q0 28), zi k20 400 (a6_ 0)), ((q0 11), zi k10 120 f10), ((q0 5), zi k4 122880 f4), ((q0 12), zi k11 120 f11), ((q0 74), zi k49 400 f49), ((q0 73), zi k48 400 f48), ((q0 6), zi k5 120 f5)] ∧ va_S A s.heap H locs ∧ lv_has ls 5 [(0, .ref h0), (1, .int x1), (2, .int x2), (3, .int z77), (4, .int z79)] ∧ (0 ≤ z79.toInt ∧ z79.toInt ≤ 400) := ⟨hP, hD, hS, lv_sub hl [2, 3, 4, 1, 0] rfl, (by first | with_reducible assumption | exact ⟨by omega, by omega⟩)⟩
          exact hJ14 H locs ls (fun i => ([z77, z79] : List (Int32)).getD i 0) (fun _ => 0) (fun _ => (fun _ => 0)) (fun _ => (fun _ => 0)) hc (show (400 - z79.toInt).toNat < (400 - (u14_ 1).toInt).toNat from by omega)
  · skip
    have b_ : -2147483648 ≤ x2.toInt ∧ x2.toInt ≤ 2147483647 := ⟨zlo _, zhi _⟩
    have hc : va_P (dC, dI) vwCl [(h0, .inr (13, mX13 q0 v0)), ((q0 28), zi k20 400 (a6_ 0)), ((q0 11), zi k10 120 f10), ((q0 5), zi k4 122880 f4), ((q0 12), zi k11 120 f11), ((q0 74), zi k49 400 f49), ((q0 73), zi k48 400 f48), ((q0 6), zi k5 120 f5)] H ∧ va_D A [(h0, .inr (13, mX13 q0 v0)), ((q0 28), zi k20 400 (a6_ 0)), ((q0 11), zi k10 120 f10), ((q0 5), zi k4 122880 f4), ((q0 12), zi k11 120 f11), ((q0 74), zi k49 400 f49), ((q0 73), zi k48 400 f48), ((q0 6), zi k5 120 f5)] ∧ va_S A s.heap H locs ∧ lv_has ls 5 [(0, .ref h0), (1, .int x1), (2, .int x2), (3, .int 0), (4, .int 0)] ∧ (0 ≤ (0 : Int32).toInt ∧ (0 : Int32).toInt ≤ 400) := ⟨hP, hD, hS, lv_sub hl [2, 3, 4, 1, 0] rfl, (by first | with_reducible assumption | exact ⟨by omega, by omega⟩)⟩
    exact hJ14 H locs ls (fun i => ([0, 0] : List (Int32)).getD i 0) (fun _ => 0) (fun _ => (fun _ => 0)) (fun _ => (fun _ => 0)) hc
theorem zv2252 : (.methodLink RX13 533 yX13_alike : Cond) ∈ zG := zin9 204 (by decide +kernel) (by decide +kernel)
theorem zv2255 : (.code yX13_alike cX13_alike 5 (some .int) : Cond) ∈ zG := zin9 207 (by decide +kernel) (by decide +kernel)
set_option maxHeartbeats 8000000 in
set_option maxRecDepth 100000 in
theorem sX13_like_0 (l : Launch) (dC : Nat → ClassId) (dI : Nat → Nat → Nat) (adK adV : Nat → Nat) (h0 : Nat) (q0 : Nat → Nat) (k5 : ClassId) (k48 : ClassId) (k4 : ClassId) (k10 : ClassId) (k11 : ClassId) (k20 : ClassId) (k49 : ClassId) (sz : Nat) (v0 : Nat → Int32) (f5 : Nat → Int32) (f48 : Nat → Int32) (f4 : Nat → Int32) (f10 : Nat → Int32) (f11 : Nat → Int32) (f20 : Nat → Int32) (f49 : Nat → Int32) (x1 : Int32) (hv0 : zR rg_Model v0) (hf4 : zA 0 400 f4) (hf10 : zA 0 512 f10) (hf11 : zA 0 512 f11) : Met l yX13_like (zw yX13_like cX13_like 7 (some .int)) { frames := 2, cells := 0, slots := 0, locals := 64 } (zPc dC dI adK adV [.ref h0, .int x1] sz [(h0, .inr (13, mX13 q0 v0)), ((q0 6), zi k5 120 f5), ((q0 73), zi k48 400 f48), ((q0 5), zi k4 122880 f4), ((q0 11), zi k10 120 f10), ((q0 12), zi k11 120 f11), ((q0 28), zi k20 400 f20), ((q0 74), zi k49 400 f49)] [(k5, .boolean), (k48, .int), (k4, .short), (k10, .int), (k11, .int), (k20, .int), (k49, .int)]) (va_Qi (fun (r : Int32) (u : Nat → Int32) => ((-1) ≤ r.toInt ∧ r.toInt ≤ 119) ∧ (0 ≤ (u 0).toInt ∧ (u 0).toInt ≤ 1)) (fun (u : Nat → Int32) (t : State) => ∃ (ww : Nat → Int64) (aa : Nat → Nat → Int32) (bb : Nat → Nat → Int64), va_P (dC, dI) vwCl [(h0, .inr (13, mX13 q0 (upd v0 21 (u 0)))), ((q0 6), zi k5 120 f5), ((q0 73), zi k48 400 (aa 0)), ((q0 5), zi k4 122880 f4), ((q0 11), zi k10 120 f10), ((q0 12), zi k11 120 f11), ((q0 28), zi k20 400 (aa 1)), ((q0 74), zi k49 400 (aa 2))] t.heap ∧ va_K (dC, dI) vwCl [(k5, .boolean), (k48, .int), (k4, .short), (k10, .int), (k11, .int), (k20, .int), (k49, .int)] t ∧ va_D (va_A [(h0, .inr (13, mX13 q0 v0)), ((q0 6), zi k5 120 f5), ((q0 73), zi k48 400 f48), ((q0 5), zi k4 122880 f4), ((q0 11), zi k10 120 f10), ((q0 12), zi k11 120 f11), ((q0 28), zi k20 400 f20), ((q0 74), zi k49 400 f49)] sz) [(h0, .inr (13, mX13 q0 (upd v0 21 (u 0)))), ((q0 6), zi k5 120 f5), ((q0 73), zi k48 400 (aa 0)), ((q0 5), zi k4 122880 f4), ((q0 11), zi k10 120 f10), ((q0 12), zi k11 120 f11), ((q0 28), zi k20 400 (aa 1)), ((q0 74), zi k49 400 (aa 2))]) (va_A [(h0, .inr (13, mX13 q0 v0)), ((q0 6), zi k5 120 f5), ((q0 73), zi k48 400 f48), ((q0 5), zi k4 122880 f4), ((q0 11), zi k10 120 f10), ((q0 12), zi k11 120 f11), ((q0 28), zi k20 400 f20), ((q0 74), zi k49 400 f49)] sz)) 0 0 (va_A [(h0, .inr (13, mX13 q0 v0)), ((q0 6), zi k5 120 f5), ((q0 73), zi k48 400 f48), ((q0 5), zi k4 122880 f4), ((q0 11), zi k10 120 f10), ((q0 12), zi k11 120 f11), ((q0 28), zi k20 400 f20), ((q0 74), zi k49 400 f49)] sz) := by
  refine Met.ofW (cc := cX13_like) (maxL := 7) (ret := (some .int)) (by decide) rfl ?_
  intro p e s m args below meth c s₁ B hml hv
  obtain ⟨rfl, hsz, hP, hK, hD0, hE, hZ⟩ := hv
  have hx := B.exec
  have hb := B.bytes
  have hr := B.returns
  have hG : ∀ w ∈ zG, w.before _ s = true := fun w h => atoms_spec (ws := (zw yX13_like cX13_like 7 (some .int))) B.pre w (List.mem_cons_of_mem _ h)
  have hown : s.vm.findClass RX13 = some m.cls := findClass_of_methodNamed B.named
  have hlocks := B.notSynchronized

  subst hsz
  have hD := hD0.self (sz := s.heap.size)
  generalize hAe : va_A [(h0, .inr (13, mX13 q0 v0)), ((q0 6), zi k5 120 f5), ((q0 73), zi k48 400 f48), ((q0 5), zi k4 122880 f4), ((q0 11), zi k10 120 f10), ((q0 12), zi k11 120 f11), ((q0 28), zi k20 400 f20), ((q0 74), zi k49 400 f49)] s.heap.size = A at hD hZ ⊢
  have hA : ∀ q : Nat, s.heap.size ≤ q → A q := fun q h => by rw [← hAe]; exact Or.inr h
  have hS : va_S A s.heap s.heap [] := va_S.rf
  have hl := lv_entry ([.ref h0, .int x1]) (n := 7) (Nat.le_of_ble_eq_true rfl)
  rw [lg_entry_eq]
  generalize (lg_sl ([.ref h0, .int x1]) ++ List.replicate (7 - (lg_sl ([.ref h0, .int x1])).length) Slot.unset).toArray = ls at hl ⊢
  have hl : lv_has ls 7 [(0, .ref h0), (1, .int x1)] := hl
  have b_ := zk_m1
  have b_ := zk_0
  refine lv_aload_n hx hb dX13_like_0 rfl (lv_at hl 0 rfl) ?_
  refine lv_iconst (v := 0) hx hb dX13_like_1 (by decide) ?_
  refine va_put (D := (dC, dI)) (ci := 13) (v := .int 0) (ty := .int) (C := RX13) (T := TX13) (N := 75) hx hb hG zuX13 tyX13 tyX13_ok nmX13 hown hK hP hD hS 0 rfl rfl 21 (by decide) (hG _ zv1625) (fun _ h9 => h9) rfl (by decide +kernel) rfl rfl (Nat.le_of_ble_eq_true rfl) dX13_like_2 (fun H locs hP hD hS => ?_)
  have hP : va_P (dC, dI) vwCl [(h0, .inr (13, mX13 q0 (upd v0 21 0))), ((q0 6), zi k5 120 f5), ((q0 73), zi k48 400 f48), ((q0 5), zi k4 122880 f4), ((q0 11), zi k10 120 f10), ((q0 12), zi k11 120 f11), ((q0 28), zi k20 400 f20), ((q0 74), zi k49 400 f49)] H := hP
  have hD : va_D A [(h0, .inr (13, mX13 q0 (upd v0 21 0))), ((q0 6), zi k5 120 f5), ((q0 73), zi k48 400 f48), ((q0 5), zi k4 122880 f4), ((q0 11), zi k10 120 f10), ((q0 12), zi k11 120 f11), ((q0 28), zi k20 400 f20), ((q0 74), zi k49 400 f49)] := hD
  refine lv_aload_n hx hb dX13_like_5 rfl (lv_at hl 0 rfl) ?_
  refine lv_iload_n hx hb dX13_like_6 rfl (lv_at hl 1 rfl) ?_
  have hPc := hP.sub (ws' := [(h0, .inr (13, mX13 q0 (upd v0 21 0))), ((q0 6), zi k5 120 f5)]) [0, 1] rfl
  have hDc := hD.sub (ws' := [(h0, .inr (13, mX13 q0 (upd v0 21 0))), ((q0 6), zi k5 120 f5)]) [0, 1] (by decide) rfl
  have hKc := hK.sub (tys' := [(k5, .boolean)]) [0] rfl
  have hFc := va_free (wc := [(h0, .inr (13, mX13 q0 (upd v0 21 0))), ((q0 6), zi k5 120 f5)]) hD hS hA [0, 1] rfl
  refine va_calli (va_runV (As := [.int x1]) (rest := []) ⟨hx, hb, hml, hown, hG⟩ (sX13_stands_0 l dC dI adK adV h0 q0 k5 H.size (upd v0 21 0) f5 x1 (zR_updF hv0 21 rfl)) (cwV 1 hG (zgV zv1927 zv1929 zv63 zv142 zv1930) rfl rfl rfl (by decide +kernel) ⟨Nat.le_of_ble_eq_true rfl, Nat.le_of_ble_eq_true rfl⟩) ⟨zPc_blind, va_recv hKc hPc (ci := 13) (q0 := 0) rfl rfl, zPc_pre hPc hKc hDc hE hS hFc hZ⟩ rfl rfl hl.1 rfl (lv_room (Nat.le_of_ble_eq_true rfl)) dX13_like_7 ⟨Nat.le_of_ble_eq_true rfl, Nat.le_of_ble_eq_true rfl⟩) hS (fun q _ h => hFc q h) hFc (fun r7_ u7_ t H1 locs ht hvm hw hB hz1 hk1 hS => ?_)
  replace hw : (0 ≤ r7_.toInt ∧ r7_.toInt ≤ 1) ∧ (r7_.toInt = 1 → (0 ≤ x1.toInt ∧ x1.toInt ≤ 119)) ∧ (r7_.toInt = 1 → x1.toInt < (v0 13).toInt) ∧ (zIo f5 (v0 13).toInt (x1 : Int32) r7_.toInt) := hw
  obtain ⟨b_, hX7_0, hX7_1, hX7_2⟩ := hw
  obtain ⟨w7_, a7_, b7_, hP1, hK1, hD1⟩ := hB
  rw [ht] at hP1
  obtain ⟨hP, hD⟩ := va_join (wr := [((q0 73), zi k48 400 f48), ((q0 5), zi k4 122880 f4), ((q0 11), zi k10 120 f10), ((q0 12), zi k11 120 f11), ((q0 28), zi k20 400 f20), ((q0 74), zi k49 400 f49)]) (w1 := [(h0, .inr (13, mX13 q0 (upd v0 21 0))), ((q0 6), zi k5 120 f5)]) hP hD [0, 1] [2, 3, 4, 5, 6, 7] rfl rfl (by decide) (by decide) hk1 hFc hP1 hD1
  have hP : va_P (dC, dI) vwCl [(h0, .inr (13, mX13 q0 (upd v0 21 0))), ((q0 6), zi k5 120 f5), ((q0 73), zi k48 400 f48), ((q0 5), zi k4 122880 f4), ((q0 11), zi k10 120 f10), ((q0 12), zi k11 120 f11), ((q0 28), zi k20 400 f20), ((q0 74), zi k49 400 f49)] H1 := hP.sub [6, 7, 0, 1, 2, 3, 4, 5] rfl
  have hD : va_D A [(h0, .inr (13, mX13 q0 (upd v0 21 0))), ((q0 6), zi k5 120 f5), ((q0 73), zi k48 400 f48), ((q0 5), zi k4 122880 f4), ((q0 11), zi k10 120 f10), ((q0 12), zi k11 120 f11), ((q0 28), zi k20 400 f20), ((q0 74), zi k49 400 f49)] := hD.sub [6, 7, 0, 1, 2, 3, 4, 5] (by decide) rfl
  generalize H1 = H at hP hS ⊢
  clear hz1
  refine lv_if_ne (tgt := 18) hx hb dX13_like_10 (by decide) (fun c_ => ?_) (fun c_ => ?_)
  · skip
    have b_ := zT_ne rfl zk_0 c_
    refine lv_aload_n hx hb dX13_like_18 rfl (lv_at hl 0 rfl) ?_
    have hPc := hP.sub (ws' := [(h0, .inr (13, mX13 q0 (upd v0 21 0))), ((q0 6), zi k5 120 f5)]) [0, 1] rfl
    have hDc := hD.sub (ws' := [(h0, .inr (13, mX13 q0 (upd v0 21 0))), ((q0 6), zi k5 120 f5)]) [0, 1] (by decide) rfl
    have hKc := hK.sub (tys' := [(k5, .boolean)]) [0] rfl
    have hFc := va_free (wc := [(h0, .inr (13, mX13 q0 (upd v0 21 0))), ((q0 6), zi k5 120 f5)]) hD hS hA [0, 1] rfl
    refine va_calli (va_runV (As := []) (rest := []) ⟨hx, hb, hml, hown, hG⟩ (sX13_standing_0 l dC dI adK adV h0 q0 k5 H.size (upd v0 21 0) f5 (zR_updF hv0 21 rfl)) (cwV 0 hG (zgV zv2022 zv2024 zv78 zv142 zv2025) rfl rfl rfl (by decide +kernel) ⟨Nat.le_of_ble_eq_true rfl, Nat.le_of_ble_eq_true rfl⟩) ⟨zPc_blind, va_recv hKc hPc (ci := 13) (q0 := 0) rfl rfl, zPc_pre hPc hKc hDc hE hS hFc hZ⟩ rfl rfl hl.1 rfl (lv_room (Nat.le_of_ble_eq_true rfl)) dX13_like_19 ⟨Nat.le_of_ble_eq_true rfl, Nat.le_of_ble_eq_true rfl⟩) hS (fun q _ h => hFc q h) hFc (fun r19_ u19_ t H1 locs ht hvm hw hB hz1 hk1 hS => ?_)
    replace hw : (0 ≤ r19_.toInt ∧ r19_.toInt ≤ 120) ∧ (zStn f5 (v0 13).toInt r19_.toInt) := hw
    obtain ⟨b_, hX19_0⟩ := hw
    obtain ⟨w19_, a19_, b19_, hP1, hK1, hD1⟩ := hB
    rw [ht] at hP1
    obtain ⟨hP, hD⟩ := va_join (wr := [((q0 73), zi k48 400 f48), ((q0 5), zi k4 122880 f4), ((q0 11), zi k10 120 f10), ((q0 12), zi k11 120 f11), ((q0 28), zi k20 400 f20), ((q0 74), zi k49 400 f49)]) (w1 := [(h0, .inr (13, mX13 q0 (upd v0 21 0))), ((q0 6), zi k5 120 f5)]) hP hD [0, 1] [2, 3, 4, 5, 6, 7] rfl rfl (by decide) (by decide) hk1 hFc hP1 hD1
    have hP : va_P (dC, dI) vwCl [(h0, .inr (13, mX13 q0 (upd v0 21 0))), ((q0 6), zi k5 120 f5), ((q0 73), zi k48 400 f48), ((q0 5), zi k4 122880 f4), ((q0 11), zi k10 120 f10), ((q0 12), zi k11 120 f11), ((q0 28), zi k20 400 f20), ((q0 74), zi k49 400 f49)] H1 := hP.sub [6, 7, 0, 1, 2, 3, 4, 5] rfl
    have hD : va_D A [(h0, .inr (13, mX13 q0 (upd v0 21 0))), ((q0 6), zi k5 120 f5), ((q0 73), zi k48 400 f48), ((q0 5), zi k4 122880 f4), ((q0 11), zi k10 120 f10), ((q0 12), zi k11 120 f11), ((q0 28), zi k20 400 f20), ((q0 74), zi k49 400 f49)] := hD.sub [6, 7, 0, 1, 2, 3, 4, 5] (by decide) rfl
    generalize H1 = H at hP hS ⊢
    clear hz1
    refine lv_istore_n (lv' := [(2, .int r19_), (0, .ref h0), (1, .int x1)]) hx hb dX13_like_22 rfl hl (by decide) rfl (fun ls hl => ?_)
    refine lv_aload_n hx hb dX13_like_23 rfl (lv_at hl 1 rfl) ?_
    have hPc := hP.sub (ws' := [(h0, .inr (13, mX13 q0 (upd v0 21 0))), ((q0 73), zi k48 400 f48), ((q0 6), zi k5 120 f5), ((q0 5), zi k4 122880 f4), ((q0 11), zi k10 120 f10), ((q0 12), zi k11 120 f11), ((q0 28), zi k20 400 f20)]) [0, 2, 1, 3, 4, 5, 6] rfl
    have hDc := hD.sub (ws' := [(h0, .inr (13, mX13 q0 (upd v0 21 0))), ((q0 73), zi k48 400 f48), ((q0 6), zi k5 120 f5), ((q0 5), zi k4 122880 f4), ((q0 11), zi k10 120 f10), ((q0 12), zi k11 120 f11), ((q0 28), zi k20 400 f20)]) [0, 2, 1, 3, 4, 5, 6] (by decide) rfl
    have hKc := hK.sub (tys' := [(k48, .int), (k5, .boolean), (k4, .short), (k10, .int), (k11, .int), (k20, .int)]) [1, 0, 2, 3, 4, 5] rfl
    have hFc := va_free (wc := [(h0, .inr (13, mX13 q0 (upd v0 21 0))), ((q0 73), zi k48 400 f48), ((q0 6), zi k5 120 f5), ((q0 5), zi k4 122880 f4), ((q0 11), zi k10 120 f10), ((q0 12), zi k11 120 f11), ((q0 28), zi k20 400 f20)]) hD hS hA [0, 2, 1, 3, 4, 5, 6] rfl
    refine va_callv (va_runV (As := []) (rest := []) ⟨hx, hb, hml, hown, hG⟩ (sX13_hold_0 l dC dI adK adV h0 q0 k48 k5 k4 k10 k11 k20 H.size (upd v0 21 0) f48 f5 f4 f10 f11 f20 (zR_updF hv0 21 rfl) hf4 hf10 hf11) (cwV 0 hG (zgV zv2240 zv2242 zv125 zv142 zv2243) rfl rfl rfl (by decide +kernel) ⟨Nat.le_of_ble_eq_true rfl, Nat.le_of_ble_eq_true rfl⟩) ⟨zPc_blind, va_recv hKc hPc (ci := 13) (q0 := 0) rfl rfl, zPc_pre hPc hKc hDc hE hS hFc hZ⟩ rfl rfl hl.1 rfl (lv_room (Nat.le_of_ble_eq_true rfl)) dX13_like_24 ⟨Nat.le_of_ble_eq_true rfl, Nat.le_of_ble_eq_true rfl⟩) hS (fun q _ h => hFc q h) hFc (fun u24_ t H1 locs ht hvm hw hB hz1 hk1 hS => ?_)
    obtain ⟨w24_, a24_, b24_, hB24_0, hP1, hK1, hD1⟩ := hB
    have hB24_0 : zHo (a24_ 0) f5 f4 f10 f11 (v0 4).toInt (v0 13).toInt := hB24_0
    rw [ht] at hP1
    obtain ⟨hP, hD⟩ := va_join (wr := [((q0 74), zi k49 400 f49)]) (w1 := [(h0, .inr (13, mX13 q0 (upd v0 21 0))), ((q0 73), zi k48 400 (a24_ 0)), ((q0 6), zi k5 120 f5), ((q0 5), zi k4 122880 f4), ((q0 11), zi k10 120 f10), ((q0 12), zi k11 120 f11), ((q0 28), zi k20 400 (a24_ 1))]) hP hD [0, 2, 1, 3, 4, 5, 6] [7] rfl rfl (by decide) (by decide) hk1 hFc hP1 hD1
    have hP : va_P (dC, dI) vwCl [(h0, .inr (13, mX13 q0 (upd v0 21 0))), ((q0 6), zi k5 120 f5), ((q0 73), zi k48 400 (a24_ 0)), ((q0 5), zi k4 122880 f4), ((q0 11), zi k10 120 f10), ((q0 12), zi k11 120 f11), ((q0 28), zi k20 400 (a24_ 1)), ((q0 74), zi k49 400 f49)] H1 := hP.sub [1, 3, 2, 4, 5, 6, 7, 0] rfl
    have hD : va_D A [(h0, .inr (13, mX13 q0 (upd v0 21 0))), ((q0 6), zi k5 120 f5), ((q0 73), zi k48 400 (a24_ 0)), ((q0 5), zi k4 122880 f4), ((q0 11), zi k10 120 f10), ((q0 12), zi k11 120 f11), ((q0 28), zi k20 400 (a24_ 1)), ((q0 74), zi k49 400 f49)] := hD.sub [1, 3, 2, 4, 5, 6, 7, 0] (by decide) rfl
    generalize H1 = H at hP hS ⊢
    clear hz1
    refine lv_aload_n hx hb dX13_like_27 rfl (lv_at hl 1 rfl) ?_
    refine lv_iload_n hx hb dX13_like_28 rfl (lv_at hl 2 rfl) ?_
    refine lv_aload_n hx hb dX13_like_29 rfl (lv_at hl 1 rfl) ?_
    refine va_get (D := (dC, dI)) (ci := 13) (v := .ref (q0 74)) (C := RX13) (T := TX13) (N := 75) hx hb hG zuX13 hown hK hP 0 rfl rfl 74 (by decide) (hG _ zv1678) (fun _ h9 => h9) rfl dX13_like_30 ?_
    have hPc := hP.sub (ws' := [(h0, .inr (13, mX13 q0 (upd v0 21 0))), ((q0 74), zi k49 400 f49), ((q0 11), zi k10 120 f10), ((q0 5), zi k4 122880 f4), ((q0 12), zi k11 120 f11)]) [0, 7, 4, 3, 5] rfl
    have hDc := hD.sub (ws' := [(h0, .inr (13, mX13 q0 (upd v0 21 0))), ((q0 74), zi k49 400 f49), ((q0 11), zi k10 120 f10), ((q0 5), zi k4 122880 f4), ((q0 12), zi k11 120 f11)]) [0, 7, 4, 3, 5] (by decide) rfl
    have hKc := hK.sub (tys' := [(k49, .int), (k10, .int), (k4, .short), (k11, .int)]) [6, 3, 2, 4] rfl
    have hFc := va_free (wc := [(h0, .inr (13, mX13 q0 (upd v0 21 0))), ((q0 74), zi k49 400 f49), ((q0 11), zi k10 120 f10), ((q0 5), zi k4 122880 f4), ((q0 12), zi k11 120 f11)]) hD hS hA [0, 7, 4, 3, 5] rfl
    refine va_callv (va_runV (As := [.int x1, .ref (q0 74)]) (rest := []) ⟨hx, hb, hml, hown, hG⟩ (sX13_tally_0 l dC dI adK adV h0 q0 (q0 74) k49 k10 k4 k11 H.size (upd v0 21 0) f49 f10 f4 f11 x1 (zR_updF hv0 21 rfl) hf10 hf4 hf11 (show (0 : Int) ≤ (x1 : Int32).toInt ∧ (x1 : Int32).toInt ≤ (119 : Int) from (by first | with_reducible assumption | exact ⟨by omega, by omega⟩))) (cwV 2 hG (zgV zv1919 zv1921 zv62 zv142 zv1922) rfl rfl rfl (by decide +kernel) ⟨Nat.le_of_ble_eq_true rfl, Nat.le_of_ble_eq_true rfl⟩) ⟨zPc_blind, va_recv hKc hPc (ci := 13) (q0 := 0) rfl rfl, zPc_pre hPc hKc hDc hE hS hFc hZ⟩ rfl rfl hl.1 rfl (lv_room (Nat.le_of_ble_eq_true rfl)) dX13_like_33 ⟨Nat.le_of_ble_eq_true rfl, Nat.le_of_ble_eq_true rfl⟩) hS (fun q _ h => hFc q h) hFc (fun u33_ t H1 locs ht hvm hw hB hz1 hk1 hS => ?_)
    obtain ⟨w33_, a33_, b33_, hB33_0, hP1, hK1, hD1⟩ := hB
    have hB33_0 : zTc (a33_ 0) f4 f10 f11 (v0 4).toInt x1.toInt := hB33_0
    rw [ht] at hP1
    obtain ⟨hP, hD⟩ := va_join (wr := [((q0 6), zi k5 120 f5), ((q0 73), zi k48 400 (a24_ 0)), ((q0 28), zi k20 400 (a24_ 1))]) (w1 := [(h0, .inr (13, mX13 q0 (upd v0 21 0))), ((q0 74), zi k49 400 (a33_ 0)), ((q0 11), zi k10 120 f10), ((q0 5), zi k4 122880 f4), ((q0 12), zi k11 120 f11)]) hP hD [0, 7, 4, 3, 5] [1, 2, 6] rfl rfl (by decide) (by decide) hk1 hFc hP1 hD1
    have hP : va_P (dC, dI) vwCl [(h0, .inr (13, mX13 q0 (upd v0 21 0))), ((q0 6), zi k5 120 f5), ((q0 73), zi k48 400 (a24_ 0)), ((q0 5), zi k4 122880 f4), ((q0 11), zi k10 120 f10), ((q0 12), zi k11 120 f11), ((q0 28), zi k20 400 (a24_ 1)), ((q0 74), zi k49 400 (a33_ 0))] H1 := hP.sub [3, 0, 1, 6, 5, 7, 2, 4] rfl
    have hD : va_D A [(h0, .inr (13, mX13 q0 (upd v0 21 0))), ((q0 6), zi k5 120 f5), ((q0 73), zi k48 400 (a24_ 0)), ((q0 5), zi k4 122880 f4), ((q0 11), zi k10 120 f10), ((q0 12), zi k11 120 f11), ((q0 28), zi k20 400 (a24_ 1)), ((q0 74), zi k49 400 (a33_ 0))] := hD.sub [3, 0, 1, 6, 5, 7, 2, 4] (by decide) rfl
    generalize H1 = H at hP hS ⊢
    clear hz1
    refine lv_iconst (v := (-1)) hx hb dX13_like_36 (by decide) ?_
    refine lv_istore_n (lv' := [(3, .int (-1)), (2, .int r19_), (0, .ref h0), (1, .int x1)]) hx hb dX13_like_37 rfl hl (by decide) rfl (fun ls hl => ?_)
    refine lv_iconst (v := 0) hx hb dX13_like_38 (by decide) ?_
    refine lv_istore (lv' := [(4, .int 0), (3, .int (-1)), (2, .int r19_), (0, .ref h0), (1, .int x1)]) hx hb dX13_like_39 hl (by decide) rfl (fun ls hl => ?_)
    refine lv_iconst (v := 0) hx hb dX13_like_41 (by decide) ?_
    refine lv_istore (lv' := [(5, .int 0), (4, .int 0), (3, .int (-1)), (2, .int r19_), (0, .ref h0), (1, .int x1)]) hx hb dX13_like_42 hl (by decide) rfl (fun ls hl => ?_)
    refine zcutL (fun u44_ => (120 - (u44_ 2).toInt).toNat) (fun H locs ls u44_ w44_ a44_ b44_ => va_P (dC, dI) vwCl [(h0, .inr (13, mX13 q0 (upd v0 21 0))), ((q0 6), zi k5 120 f5), ((q0 73), zi k48 400 (a24_ 0)), ((q0 5), zi k4 122880 f4), ((q0 11), zi k10 120 f10), ((q0 12), zi k11 120 f11), ((q0 28), zi k20 400 (a44_ 0)), ((q0 74), zi k49 400 (a33_ 0))] H ∧ va_D A [(h0, .inr (13, mX13 q0 (upd v0 21 0))), ((q0 6), zi k5 120 f5), ((q0 73), zi k48 400 (a24_ 0)), ((q0 5), zi k4 122880 f4), ((q0 11), zi k10 120 f10), ((q0 12), zi k11 120 f11), ((q0 28), zi k20 400 (a44_ 0)), ((q0 74), zi k49 400 (a33_ 0))] ∧ va_S A s.heap H locs ∧ lv_has ls 7 [(0, .ref h0), (1, .int x1), (2, .int r19_), (3, .int (u44_ 0)), (4, .int (u44_ 1)), (5, .int (u44_ 2))] ∧ ((-1) ≤ (u44_ 0).toInt ∧ (u44_ 0).toInt ≤ 119) ∧ (0 ≤ (u44_ 1).toInt ∧ (u44_ 1).toInt ≤ 2147483647) ∧ (0 ≤ (u44_ 2).toInt ∧ (u44_ 2).toInt ≤ 120)) (fun ls u44_ w44_ => F0 m 44 ls []) 0 0 ?_ (fun hJ44 => ?_)
    · skip
      intro H locs ls u44_ w44_ a44_ b44_ hc hJ44
      obtain ⟨hP, hD, hS, hl, b_, b_, b_⟩ := hc
      refine lv_iload hx hb dX13_like_44 (lv_at hl 5 rfl) ?_
      refine lv_aload_n hx hb dX13_like_46 rfl (lv_at hl 0 rfl) ?_
      have b_ : 0 ≤ (v0 13).toInt ∧ (v0 13).toInt ≤ 120 := hv0 13
      refine va_get (D := (dC, dI)) (ci := 13) (v := .int (v0 13)) (C := RX13) (T := TX13) (N := 75) hx hb hG zuX13 hown hK hP 0 rfl rfl 13 (by decide) (hG _ zv1617) (fun _ h9 => h9) rfl dX13_like_47 ?_
      refine lv_icmp_ge (tgt := 101) hx hb dX13_like_50 (by decide) (fun c_ => ?_) (fun c_ => ?_)
      · skip
        have b_ := zT_ge rfl rfl c_
        refine lv_iload_n hx hb dX13_like_101 rfl (lv_at hl 3 rfl) ?_
        refine W.widen (k := 0) (n := 0) (by decide) (by decide) ?_
        have hpost : ((-1) ≤ (u44_ 0).toInt ∧ (u44_ 0).toInt ≤ 119) ∧ (0 ≤ (0 : Int32).toInt ∧ (0 : Int32).toInt ≤ 1) := ⟨(by first | with_reducible assumption | exact ⟨by omega, by omega⟩), (by first | with_reducible assumption | exact ⟨by omega, by omega⟩)⟩
        have hP9 : va_P (dC, dI) vwCl [(h0, .inr (13, mX13 q0 (upd v0 21 0))), ((q0 6), zi k5 120 f5), ((q0 73), zi k48 400 (a24_ 0)), ((q0 5), zi k4 122880 f4), ((q0 11), zi k10 120 f10), ((q0 12), zi k11 120 f11), ((q0 28), zi k20 400 (a44_ 0)), ((q0 74), zi k49 400 (a33_ 0))] H := hP
        have hD9 : va_D A [(h0, .inr (13, mX13 q0 (upd v0 21 0))), ((q0 6), zi k5 120 f5), ((q0 73), zi k48 400 (a24_ 0)), ((q0 5), zi k4 122880 f4), ((q0 11), zi k10 120 f10), ((q0 12), zi k11 120 f11), ((q0 28), zi k20 400 (a44_ 0)), ((q0 74), zi k49 400 (a33_ 0))] := hD
        exact W.iret (v := (u44_ 0)) hx hb hr (fun t ht hW => ⟨⟨(u44_ 0), (fun i => ([0] : List (Int32)).getD i 0), rfl, hpost, (fun _ => 0), (fun i => ([(a24_ 0), (a44_ 0), (a33_ 0)] : List (Nat → Int32)).getD i (fun _ => 0)), (fun _ => (fun _ => 0)), by rw [ht]; exact hP9, va_K.moved hW.alike hK, hD9⟩, hS.F ht⟩) hS.2.2 dX13_like_102
      · skip
        have b_ := zF_ge rfl rfl c_
        refine lv_iload hx hb dX13_like_53 (lv_at hl 5 rfl) ?_
        refine lv_iload_n hx hb dX13_like_55 rfl (lv_at hl 1 rfl) ?_
        refine lv_icmp_eq (tgt := 95) hx hb dX13_like_56 (by decide) (fun c_ => ?_) (fun c_ => ?_)
        · skip
          have b_ := zT_eq rfl rfl c_
          obtain ⟨z95, e_z95⟩ : ∃ z : Int32, z = (u44_ 2) + Int32.ofInt 1 := ⟨_, rfl⟩
          have b_ := zadd (x := (u44_ 2)) (y := Int32.ofInt 1) rfl (show (Int32.ofInt 1).toInt = 1 from by decide) e_z95 (by omega) (by omega)
          refine lv_iinc (v := z95) (lv' := [(5, .int z95), (0, .ref h0), (1, .int x1), (2, .int r19_), (3, .int (u44_ 0)), (4, .int (u44_ 1))]) hx hb dX13_like_95 hl (k := 5) rfl e_z95.symm (by decide) rfl (fun ls hl => ?_)
          refine lv_goto (tgt := 44) hx hb dX13_like_98 (by decide) ?_
          have hc : va_P (dC, dI) vwCl [(h0, .inr (13, mX13 q0 (upd v0 21 0))), ((q0 6), zi k5 120 f5), ((q0 73), zi k48 400 (a24_ 0)), ((q0 5), zi k4 122880 f4), ((q0 11), zi k10 120 f10), ((q0 12), zi k11 120 f11), ((q0 28), zi k20 400 (a44_ 0)), ((q0 74), zi k49 400 (a33_ 0))] H ∧ va_D A [(h0, .inr (13, mX13 q0 (upd v0 21 0))), ((q0 6), zi k5 120 f5), ((q0 73), zi k48 400 (a24_ 0)), ((q0 5), zi k4 122880 f4), ((q0 11), zi k10 120 f10), ((q0 12), zi k11 120 f11), ((q0 28), zi k20 400 (a44_ 0)), ((q0 74), zi k49 400 (a33_ 0))] ∧ va_S A s.heap H locs ∧ lv_has ls 7 [(0, .ref h0), (1, .int x1), (2, .int r19_), (3, .int (u44_ 0)), (4, .int (u44_ 1)), (5, .int z95)] ∧ ((-1) ≤ (u44_ 0).toInt ∧ (u44_ 0).toInt ≤ 119) ∧ (0 ≤ (u44_ 1).toInt ∧ (u44_ 1).toInt ≤ 2147483647) ∧ (0 ≤ z95.toInt ∧ z95.toInt ≤ 120) := ⟨hP, hD, hS, lv_sub hl [1, 2, 3, 4, 5, 0] rfl, (by first | with_reducible assumption | exact ⟨by omega, by omega⟩), (by first | with_reducible assumption | exact ⟨by omega, by omega⟩), (by first | with_reducible assumption | exact ⟨by omega, by omega⟩)⟩
          exact hJ44 H locs ls (fun i => ([(u44_ 0), (u44_ 1), z95] : List (Int32)).getD i 0) (fun _ => 0) (fun i => ([(a44_ 0)] : List (Nat → Int32)).getD i (fun _ => 0)) (fun _ => (fun _ => 0)) hc (show (120 - z95.toInt).toNat < (120 - (u44_ 2).toInt).toNat from by omega)
        · skip
          have b_ := zF_eq rfl rfl c_
          refine lv_aload_n hx hb dX13_like_59 rfl (lv_at hl 0 rfl) ?_
          refine va_get (D := (dC, dI)) (ci := 13) (v := .ref (q0 6)) (C := RX13) (T := TX13) (N := 75) hx hb hG zuX13 hown hK hP 0 rfl rfl 6 (by decide) (hG _ zv1610) (fun _ h9 => h9) rfl dX13_like_60 ?_
          refine lv_iload hx hb dX13_like_63 (lv_at hl 5 rfl) ?_
          refine va_zald hx hb hK hP 1 0 rfl rfl (zin_lit ⟨by omega, by omega⟩) dX13_like_65 ?_
          refine lv_topi (fun z65 e_z65 => ?_)
          have b_ : (f5 ((u44_ 2) : Int32).toNatClampNeg).toInt = z65.toInt := congrArg Int32.toInt e_z65.symm
          have b_ : -2147483648 ≤ z65.toInt ∧ z65.toInt ≤ 2147483647 := ⟨zlo _, zhi _⟩
          refine lv_if_ne (tgt := 72) hx hb dX13_like_66 (by decide) (fun c_ => ?_) (fun c_ => ?_)
          · skip
            have b_ := zT_ne rfl zk_0 c_
            refine lv_aload_n hx hb dX13_like_72 rfl (lv_at hl 0 rfl) ?_
            refine lv_iload hx hb dX13_like_73 (lv_at hl 5 rfl) ?_
            refine lv_iload_n hx hb dX13_like_75 rfl (lv_at hl 2 rfl) ?_
            have hPc := hP.sub (ws' := [(h0, .inr (13, mX13 q0 (upd v0 21 0))), ((q0 28), zi k20 400 (a44_ 0)), ((q0 11), zi k10 120 f10), ((q0 5), zi k4 122880 f4), ((q0 12), zi k11 120 f11), ((q0 74), zi k49 400 (a33_ 0)), ((q0 73), zi k48 400 (a24_ 0)), ((q0 6), zi k5 120 f5)]) [0, 6, 4, 3, 5, 7, 2, 1] rfl
            have hDc := hD.sub (ws' := [(h0, .inr (13, mX13 q0 (upd v0 21 0))), ((q0 28), zi k20 400 (a44_ 0)), ((q0 11), zi k10 120 f10), ((q0 5), zi k4 122880 f4), ((q0 12), zi k11 120 f11), ((q0 74), zi k49 400 (a33_ 0)), ((q0 73), zi k48 400 (a24_ 0)), ((q0 6), zi k5 120 f5)]) [0, 6, 4, 3, 5, 7, 2, 1] (by decide) rfl
            have hKc := hK.sub (tys' := [(k20, .int), (k10, .int), (k4, .short), (k11, .int), (k49, .int), (k48, .int), (k5, .boolean)]) [5, 3, 2, 4, 6, 1, 0] rfl
            have hFc := va_free (wc := [(h0, .inr (13, mX13 q0 (upd v0 21 0))), ((q0 28), zi k20 400 (a44_ 0)), ((q0 11), zi k10 120 f10), ((q0 5), zi k4 122880 f4), ((q0 12), zi k11 120 f11), ((q0 74), zi k49 400 (a33_ 0)), ((q0 73), zi k48 400 (a24_ 0)), ((q0 6), zi k5 120 f5)]) hD hS hA [0, 6, 4, 3, 5, 7, 2, 1] rfl
            refine va_calli (va_runV (As := [.int (u44_ 2), .int r19_]) (rest := []) ⟨hx, hb, hml, hown, hG⟩ (sX13_alike_0 l dC dI adK adV h0 q0 k20 k10 k4 k11 k49 k48 k5 H.size (upd v0 21 0) (a44_ 0) f10 f4 f11 (a33_ 0) (a24_ 0) f5 (u44_ 2) r19_ (zR_updF hv0 21 rfl) hf10 hf4 hf11 (show (0 : Int) ≤ ((u44_ 2) : Int32).toInt ∧ ((u44_ 2) : Int32).toInt ≤ (119 : Int) from (by first | with_reducible assumption | exact ⟨by omega, by omega⟩)) (show zHo (a24_ 0) f5 f4 f10 f11 (v0 4).toInt (v0 13).toInt from by first | with_reducible assumption | assumption) (show (u44_ 2).toInt < (v0 13).toInt from by omega) (show (f5 (((u44_ 2) : Int32)).toNatClampNeg).toInt ≠ 0 from by omega)) (cwV 2 hG (zgV zv2252 zv2254 zv127 zv142 zv2255) rfl rfl rfl (by decide +kernel) ⟨Nat.le_of_ble_eq_true rfl, Nat.le_of_ble_eq_true rfl⟩) ⟨zPc_blind, va_recv hKc hPc (ci := 13) (q0 := 0) rfl rfl, zPc_pre hPc hKc hDc hE hS hFc hZ⟩ rfl rfl hl.1 rfl (lv_room (Nat.le_of_ble_eq_true rfl)) dX13_like_76 ⟨Nat.le_of_ble_eq_true rfl, Nat.le_of_ble_eq_true rfl⟩) hS (fun q _ h => hFc q h) hFc (fun r76_ u76_ t H1 locs ht hvm hw hB hz1 hk1 hS => ?_)
            obtain ⟨w76_, a76_, b76_, hP1, hK1, hD1⟩ := hB
            rw [ht] at hP1
            obtain ⟨hP, hD⟩ := va_join (wr := []) (w1 := [(h0, .inr (13, mX13 q0 (upd v0 21 0))), ((q0 28), zi k20 400 (a76_ 0)), ((q0 11), zi k10 120 f10), ((q0 5), zi k4 122880 f4), ((q0 12), zi k11 120 f11), ((q0 74), zi k49 400 (a33_ 0)), ((q0 73), zi k48 400 (a24_ 0)), ((q0 6), zi k5 120 f5)]) hP hD [0, 6, 4, 3, 5, 7, 2, 1] [] rfl rfl (by decide) (by decide) hk1 hFc hP1 hD1
            have hP : va_P (dC, dI) vwCl [(h0, .inr (13, mX13 q0 (upd v0 21 0))), ((q0 6), zi k5 120 f5), ((q0 73), zi k48 400 (a24_ 0)), ((q0 5), zi k4 122880 f4), ((q0 11), zi k10 120 f10), ((q0 12), zi k11 120 f11), ((q0 28), zi k20 400 (a76_ 0)), ((q0 74), zi k49 400 (a33_ 0))] H1 := hP.sub [0, 7, 6, 3, 2, 4, 1, 5] rfl
            have hD : va_D A [(h0, .inr (13, mX13 q0 (upd v0 21 0))), ((q0 6), zi k5 120 f5), ((q0 73), zi k48 400 (a24_ 0)), ((q0 5), zi k4 122880 f4), ((q0 11), zi k10 120 f10), ((q0 12), zi k11 120 f11), ((q0 28), zi k20 400 (a76_ 0)), ((q0 74), zi k49 400 (a33_ 0))] := hD.sub [0, 7, 6, 3, 2, 4, 1, 5] (by decide) rfl
            generalize H1 = H at hP hS ⊢
            clear hz1
            refine lv_istore (lv' := [(6, .int r76_), (0, .ref h0), (1, .int x1), (2, .int r19_), (3, .int (u44_ 0)), (4, .int (u44_ 1)), (5, .int (u44_ 2))]) hx hb dX13_like_79 hl (by decide) rfl (fun ls hl => ?_)
            refine lv_iload hx hb dX13_like_81 (lv_at hl 0 rfl) ?_
            refine lv_iload hx hb dX13_like_83 (lv_at hl 5 rfl) ?_
            have b_ : -2147483648 ≤ r76_.toInt ∧ r76_.toInt ≤ 2147483647 := ⟨zlo _, zhi _⟩
            refine lv_icmp_le (tgt := 95) hx hb dX13_like_85 (by decide) (fun c_ => ?_) (fun c_ => ?_)
            · skip
              have b_ := zT_le rfl rfl c_
              obtain ⟨z95, e_z95⟩ : ∃ z : Int32, z = (u44_ 2) + Int32.ofInt 1 := ⟨_, rfl⟩
              have b_ := zadd (x := (u44_ 2)) (y := Int32.ofInt 1) rfl (show (Int32.ofInt 1).toInt = 1 from by decide) e_z95 (by omega) (by omega)
              refine lv_iinc (v := z95) (lv' := [(5, .int z95), (6, .int r76_), (0, .ref h0), (1, .int x1), (2, .int r19_), (3, .int (u44_ 0)), (4, .int (u44_ 1))]) hx hb dX13_like_95 hl (k := 6) rfl e_z95.symm (by decide) rfl (fun ls hl => ?_)
              refine lv_goto (tgt := 44) hx hb dX13_like_98 (by decide) ?_
              have hc : va_P (dC, dI) vwCl [(h0, .inr (13, mX13 q0 (upd v0 21 0))), ((q0 6), zi k5 120 f5), ((q0 73), zi k48 400 (a24_ 0)), ((q0 5), zi k4 122880 f4), ((q0 11), zi k10 120 f10), ((q0 12), zi k11 120 f11), ((q0 28), zi k20 400 (a76_ 0)), ((q0 74), zi k49 400 (a33_ 0))] H ∧ va_D A [(h0, .inr (13, mX13 q0 (upd v0 21 0))), ((q0 6), zi k5 120 f5), ((q0 73), zi k48 400 (a24_ 0)), ((q0 5), zi k4 122880 f4), ((q0 11), zi k10 120 f10), ((q0 12), zi k11 120 f11), ((q0 28), zi k20 400 (a76_ 0)), ((q0 74), zi k49 400 (a33_ 0))] ∧ va_S A s.heap H locs ∧ lv_has ls 7 [(0, .ref h0), (1, .int x1), (2, .int r19_), (3, .int (u44_ 0)), (4, .int (u44_ 1)), (5, .int z95)] ∧ ((-1) ≤ (u44_ 0).toInt ∧ (u44_ 0).toInt ≤ 119) ∧ (0 ≤ (u44_ 1).toInt ∧ (u44_ 1).toInt ≤ 2147483647) ∧ (0 ≤ z95.toInt ∧ z95.toInt ≤ 120) := ⟨hP, hD, hS, lv_sub hl [2, 3, 4, 5, 6, 0] rfl, (by first | with_reducible assumption | exact ⟨by omega, by omega⟩), (by first | with_reducible assumption | exact ⟨by omega, by omega⟩), (by first | with_reducible assumption | exact ⟨by omega, by omega⟩)⟩
              exact hJ44 H locs ls (fun i => ([(u44_ 0), (u44_ 1), z95] : List (Int32)).getD i 0) (fun _ => 0) (fun i => ([(a76_ 0)] : List (Nat → Int32)).getD i (fun _ => 0)) (fun _ => (fun _ => 0)) hc (show (120 - z95.toInt).toNat < (120 - (u44_ 2).toInt).toNat from by omega)
            · skip
              have b_ := zF_le rfl rfl c_
              refine lv_iload hx hb dX13_like_88 (lv_at hl 0 rfl) ?_
              refine lv_istore (lv' := [(4, .int r76_), (6, .int r76_), (0, .ref h0), (1, .int x1), (2, .int r19_), (3, .int (u44_ 0)), (5, .int (u44_ 2))]) hx hb dX13_like_90 hl (by decide) rfl (fun ls hl => ?_)
              refine lv_iload hx hb dX13_like_92 (lv_at hl 6 rfl) ?_
              refine lv_istore_n (lv' := [(3, .int (u44_ 2)), (4, .int r76_), (6, .int r76_), (0, .ref h0), (1, .int x1), (2, .int r19_), (5, .int (u44_ 2))]) hx hb dX13_like_94 rfl hl (by decide) rfl (fun ls hl => ?_)
              obtain ⟨z95, e_z95⟩ : ∃ z : Int32, z = (u44_ 2) + Int32.ofInt 1 := ⟨_, rfl⟩
              have b_ := zadd (x := (u44_ 2)) (y := Int32.ofInt 1) rfl (show (Int32.ofInt 1).toInt = 1 from by decide) e_z95 (by omega) (by omega)
              refine lv_iinc (v := z95) (lv' := [(5, .int z95), (3, .int (u44_ 2)), (4, .int r76_), (6, .int r76_), (0, .ref h0), (1, .int x1), (2, .int r19_)]) hx hb dX13_like_95 hl (k := 6) rfl e_z95.symm (by decide) rfl (fun ls hl => ?_)
              refine lv_goto (tgt := 44) hx hb dX13_like_98 (by decide) ?_
              have hc : va_P (dC, dI) vwCl [(h0, .inr (13, mX13 q0 (upd v0 21 0))), ((q0 6), zi k5 120 f5), ((q0 73), zi k48 400 (a24_ 0)), ((q0 5), zi k4 122880 f4), ((q0 11), zi k10 120 f10), ((q0 12), zi k11 120 f11), ((q0 28), zi k20 400 (a76_ 0)), ((q0 74), zi k49 400 (a33_ 0))] H ∧ va_D A [(h0, .inr (13, mX13 q0 (upd v0 21 0))), ((q0 6), zi k5 120 f5), ((q0 73), zi k48 400 (a24_ 0)), ((q0 5), zi k4 122880 f4), ((q0 11), zi k10 120 f10), ((q0 12), zi k11 120 f11), ((q0 28), zi k20 400 (a76_ 0)), ((q0 74), zi k49 400 (a33_ 0))] ∧ va_S A s.heap H locs ∧ lv_has ls 7 [(0, .ref h0), (1, .int x1), (2, .int r19_), (3, .int (u44_ 2)), (4, .int r76_), (5, .int z95)] ∧ ((-1) ≤ (u44_ 2).toInt ∧ (u44_ 2).toInt ≤ 119) ∧ (0 ≤ r76_.toInt ∧ r76_.toInt ≤ 2147483647) ∧ (0 ≤ z95.toInt ∧ z95.toInt ≤ 120) := ⟨hP, hD, hS, lv_sub hl [4, 5, 6, 1, 2, 0] rfl, (by first | with_reducible assumption | exact ⟨by omega, by omega⟩), (by first | with_reducible assumption | exact ⟨by omega, by omega⟩), (by first | with_reducible assumption | exact ⟨by omega, by omega⟩)⟩
              exact hJ44 H locs ls (fun i => ([(u44_ 2), r76_, z95] : List (Int32)).getD i 0) (fun _ => 0) (fun i => ([(a76_ 0)] : List (Nat → Int32)).getD i (fun _ => 0)) (fun _ => (fun _ => 0)) hc (show (120 - z95.toInt).toNat < (120 - (u44_ 2).toInt).toNat from by omega)
          · skip
            have b_ := zF_ne rfl zk_0 c_
            refine lv_goto (tgt := 95) hx hb dX13_like_69 (by decide) ?_
            obtain ⟨z95, e_z95⟩ : ∃ z : Int32, z = (u44_ 2) + Int32.ofInt 1 := ⟨_, rfl⟩
            have b_ := zadd (x := (u44_ 2)) (y := Int32.ofInt 1) rfl (show (Int32.ofInt 1).toInt = 1 from by decide) e_z95 (by omega) (by omega)
            refine lv_iinc (v := z95) (lv' := [(5, .int z95), (0, .ref h0), (1, .int x1), (2, .int r19_), (3, .int (u44_ 0)), (4, .int (u44_ 1))]) hx hb dX13_like_95 hl (k := 5) rfl e_z95.symm (by decide) rfl (fun ls hl => ?_)
            refine lv_goto (tgt := 44) hx hb dX13_like_98 (by decide) ?_
            have hc : va_P (dC, dI) vwCl [(h0, .inr (13, mX13 q0 (upd v0 21 0))), ((q0 6), zi k5 120 f5), ((q0 73), zi k48 400 (a24_ 0)), ((q0 5), zi k4 122880 f4), ((q0 11), zi k10 120 f10), ((q0 12), zi k11 120 f11), ((q0 28), zi k20 400 (a44_ 0)), ((q0 74), zi k49 400 (a33_ 0))] H ∧ va_D A [(h0, .inr (13, mX13 q0 (upd v0 21 0))), ((q0 6), zi k5 120 f5), ((q0 73), zi k48 400 (a24_ 0)), ((q0 5), zi k4 122880 f4), ((q0 11), zi k10 120 f10), ((q0 12), zi k11 120 f11), ((q0 28), zi k20 400 (a44_ 0)), ((q0 74), zi k49 400 (a33_ 0))] ∧ va_S A s.heap H locs ∧ lv_has ls 7 [(0, .ref h0), (1, .int x1), (2, .int r19_), (3, .int (u44_ 0)), (4, .int (u44_ 1)), (5, .int z95)] ∧ ((-1) ≤ (u44_ 0).toInt ∧ (u44_ 0).toInt ≤ 119) ∧ (0 ≤ (u44_ 1).toInt ∧ (u44_ 1).toInt ≤ 2147483647) ∧ (0 ≤ z95.toInt ∧ z95.toInt ≤ 120) := ⟨hP, hD, hS, lv_sub hl [1, 2, 3, 4, 5, 0] rfl, (by first | with_reducible assumption | exact ⟨by omega, by omega⟩), (by first | with_reducible assumption | exact ⟨by omega, by omega⟩), (by first | with_reducible assumption | exact ⟨by omega, by omega⟩)⟩
            exact hJ44 H locs ls (fun i => ([(u44_ 0), (u44_ 1), z95] : List (Int32)).getD i 0) (fun _ => 0) (fun i => ([(a44_ 0)] : List (Nat → Int32)).getD i (fun _ => 0)) (fun _ => (fun _ => 0)) hc (show (120 - z95.toInt).toNat < (120 - (u44_ 2).toInt).toNat from by omega)
    · skip
      have hc : va_P (dC, dI) vwCl [(h0, .inr (13, mX13 q0 (upd v0 21 0))), ((q0 6), zi k5 120 f5), ((q0 73), zi k48 400 (a24_ 0)), ((q0 5), zi k4 122880 f4), ((q0 11), zi k10 120 f10), ((q0 12), zi k11 120 f11), ((q0 28), zi k20 400 (a24_ 1)), ((q0 74), zi k49 400 (a33_ 0))] H ∧ va_D A [(h0, .inr (13, mX13 q0 (upd v0 21 0))), ((q0 6), zi k5 120 f5), ((q0 73), zi k48 400 (a24_ 0)), ((q0 5), zi k4 122880 f4), ((q0 11), zi k10 120 f10), ((q0 12), zi k11 120 f11), ((q0 28), zi k20 400 (a24_ 1)), ((q0 74), zi k49 400 (a33_ 0))] ∧ va_S A s.heap H locs ∧ lv_has ls 7 [(0, .ref h0), (1, .int x1), (2, .int r19_), (3, .int (-1)), (4, .int 0), (5, .int 0)] ∧ ((-1) ≤ ((-1) : Int32).toInt ∧ ((-1) : Int32).toInt ≤ 119) ∧ (0 ≤ (0 : Int32).toInt ∧ (0 : Int32).toInt ≤ 2147483647) ∧ (0 ≤ (0 : Int32).toInt ∧ (0 : Int32).toInt ≤ 120) := ⟨hP, hD, hS, lv_sub hl [4, 5, 3, 2, 1, 0] rfl, (by first | with_reducible assumption | exact ⟨by omega, by omega⟩), (by first | with_reducible assumption | exact ⟨by omega, by omega⟩), (by first | with_reducible assumption | exact ⟨by omega, by omega⟩)⟩
      exact hJ44 H locs ls (fun i => ([(-1), 0, 0] : List (Int32)).getD i 0) (fun _ => 0) (fun i => ([(a24_ 1)] : List (Nat → Int32)).getD i (fun _ => 0)) (fun _ => (fun _ => 0)) hc
  · skip
    have b_ := zF_ne rfl zk_0 c_
    refine lv_aload_n hx hb dX13_like_13 rfl (lv_at hl 0 rfl) ?_
    have hPc := hP.sub (ws' := [(h0, .inr (13, mX13 q0 (upd v0 21 0)))]) [0] rfl
    have hDc := hD.sub (ws' := [(h0, .inr (13, mX13 q0 (upd v0 21 0)))]) [0] (by decide) rfl
    have hKc := hK.sub (tys' := []) [] rfl
    have hFc := va_free (wc := [(h0, .inr (13, mX13 q0 (upd v0 21 0)))]) hD hS hA [0] rfl
    refine va_calli (va_runV (As := []) (rest := []) ⟨hx, hb, hml, hown, hG⟩ (sX13_refuse_0 l dC dI adK adV h0 q0 H.size (upd v0 21 0) (zR_updF hv0 21 rfl)) (cwV 0 hG (zgV zv1963 zv1965 zv68 zv142 zv1966) rfl rfl rfl (by decide +kernel) ⟨Nat.le_of_ble_eq_true rfl, Nat.le_of_ble_eq_true rfl⟩) ⟨zPc_blind, va_recv hKc hPc (ci := 13) (q0 := 0) rfl rfl, zPc_pre hPc hKc hDc hE hS hFc hZ⟩ rfl rfl hl.1 rfl (lv_room (Nat.le_of_ble_eq_true rfl)) dX13_like_14 ⟨Nat.le_of_ble_eq_true rfl, Nat.le_of_ble_eq_true rfl⟩) hS (fun q _ h => hFc q h) hFc (fun r14_ u14_ t H1 locs ht hvm hw hB hz1 hk1 hS => ?_)
    replace hw : (0 ≤ r14_.toInt ∧ r14_.toInt ≤ 0) ∧ (1 ≤ (u14_ 0).toInt ∧ (u14_ 0).toInt ≤ 1) := hw
    obtain ⟨b_, b_⟩ := hw
    obtain rfl : r14_ = (0 : Int32) := zeqi.mpr ((show r14_.toInt = 0 from by omega).trans zk_0.symm)
    obtain ⟨w14_, a14_, b14_, hP1, hK1, hD1⟩ := hB
    rw [ht] at hP1
    obtain ⟨hP, hD⟩ := va_join (wr := [((q0 6), zi k5 120 f5), ((q0 73), zi k48 400 f48), ((q0 5), zi k4 122880 f4), ((q0 11), zi k10 120 f10), ((q0 12), zi k11 120 f11), ((q0 28), zi k20 400 f20), ((q0 74), zi k49 400 f49)]) (w1 := [(h0, .inr (13, mX13 q0 (upd v0 21 (u14_ 0))))]) hP hD [0] [1, 2, 3, 4, 5, 6, 7] rfl rfl (by decide) (by decide) hk1 hFc hP1 hD1
    have hP : va_P (dC, dI) vwCl [(h0, .inr (13, mX13 q0 (upd v0 21 (u14_ 0)))), ((q0 6), zi k5 120 f5), ((q0 73), zi k48 400 f48), ((q0 5), zi k4 122880 f4), ((q0 11), zi k10 120 f10), ((q0 12), zi k11 120 f11), ((q0 28), zi k20 400 f20), ((q0 74), zi k49 400 f49)] H1 := hP.sub [7, 0, 1, 2, 3, 4, 5, 6] rfl
    have hD : va_D A [(h0, .inr (13, mX13 q0 (upd v0 21 (u14_ 0)))), ((q0 6), zi k5 120 f5), ((q0 73), zi k48 400 f48), ((q0 5), zi k4 122880 f4), ((q0 11), zi k10 120 f10), ((q0 12), zi k11 120 f11), ((q0 28), zi k20 400 f20), ((q0 74), zi k49 400 f49)] := hD.sub [7, 0, 1, 2, 3, 4, 5, 6] (by decide) rfl
    generalize H1 = H at hP hS ⊢
    clear hz1
    refine W.widen (k := 0) (n := 0) (by decide) (by decide) ?_
    have hpost : ((-1) ≤ (0 : Int32).toInt ∧ (0 : Int32).toInt ≤ 119) ∧ (0 ≤ (u14_ 0).toInt ∧ (u14_ 0).toInt ≤ 1) := ⟨(by first | with_reducible assumption | exact ⟨by omega, by omega⟩), (by first | with_reducible assumption | exact ⟨by omega, by omega⟩)⟩
    have hP9 : va_P (dC, dI) vwCl [(h0, .inr (13, mX13 q0 (upd v0 21 (u14_ 0)))), ((q0 6), zi k5 120 f5), ((q0 73), zi k48 400 f48), ((q0 5), zi k4 122880 f4), ((q0 11), zi k10 120 f10), ((q0 12), zi k11 120 f11), ((q0 28), zi k20 400 f20), ((q0 74), zi k49 400 f49)] H := hP
    have hD9 : va_D A [(h0, .inr (13, mX13 q0 (upd v0 21 (u14_ 0)))), ((q0 6), zi k5 120 f5), ((q0 73), zi k48 400 f48), ((q0 5), zi k4 122880 f4), ((q0 11), zi k10 120 f10), ((q0 12), zi k11 120 f11), ((q0 28), zi k20 400 f20), ((q0 74), zi k49 400 f49)] := hD
    exact W.iret (v := 0) hx hb hr (fun t ht hW => ⟨⟨0, (fun i => ([(u14_ 0)] : List (Int32)).getD i 0), rfl, hpost, (fun _ => 0), (fun i => ([f48, f20, f49] : List (Nat → Int32)).getD i (fun _ => 0)), (fun _ => (fun _ => 0)), by rw [ht]; exact hP9, va_K.moved hW.alike hK, hD9⟩, hS.F ht⟩) hS.2.2 dX13_like_17
set_option maxHeartbeats 8000000 in
set_option maxRecDepth 100000 in
theorem sX13_isDigit_0 (l : Launch) (dC : Nat → ClassId) (dI : Nat → Nat → Nat) (adK adV : Nat → Nat) (sz : Nat) (x0 : Int32) : Met l yX13_isDigit (zw yX13_isDigit cX13_isDigit 1 (some .boolean)) { frames := 0, cells := 0, slots := 0, locals := 0 } (zPc dC dI adK adV [.int x0] sz [] []) (va_Qi (fun (r : Int32) (u : Nat → Int32) => (0 ≤ r.toInt ∧ r.toInt ≤ 1) ∧ (r.toInt = 1 → 48 ≤ x0.toInt ∧ x0.toInt ≤ 57) ∧ (r.toInt = 0 → x0.toInt < 48 ∨ 57 < x0.toInt)) (fun (u : Nat → Int32) (t : State) => ∃ (ww : Nat → Int64) (aa : Nat → Nat → Int32) (bb : Nat → Nat → Int64), va_P (dC, dI) vwCl [] t.heap ∧ va_K (dC, dI) vwCl [] t ∧ va_D (va_A [] sz) []) (va_A [] sz)) 0 0 (va_A [] sz) := by
  refine Met.ofW (cc := cX13_isDigit) (maxL := 1) (ret := (some .boolean)) (by decide) rfl ?_
  intro p e s m args below meth c s₁ B hml hv
  obtain ⟨rfl, hsz, hP, hK, hD0, hE, hZ⟩ := hv
  have hx := B.exec
  have hb := B.bytes
  have hr := B.returns
  have hG : ∀ w ∈ zG, w.before _ s = true := fun w h => atoms_spec (ws := (zw yX13_isDigit cX13_isDigit 1 (some .boolean))) B.pre w (List.mem_cons_of_mem _ h)
  have hown : s.vm.findClass RX13 = some m.cls := findClass_of_methodNamed B.named
  have hlocks := B.notSynchronized

  subst hsz
  have hD := hD0.self (sz := s.heap.size)
  generalize hAe : va_A [] s.heap.size = A at hD hZ ⊢
  have hA : ∀ q : Nat, s.heap.size ≤ q → A q := fun q h => by rw [← hAe]; exact Or.inr h
  have hS : va_S A s.heap s.heap [] := va_S.rf
  have hl := lv_entry ([.int x0]) (n := 1) (Nat.le_of_ble_eq_true rfl)
  rw [lg_entry_eq]
  generalize (lg_sl ([.int x0]) ++ List.replicate (1 - (lg_sl ([.int x0])).length) Slot.unset).toArray = ls at hl ⊢
  have hl : lv_has ls 1 [(0, .int x0)] := hl
  have b_ := zk_0
  have b_ := zk_1
  refine lv_iload_n hx hb dX13_isDigit_0 rfl (lv_at hl 0 rfl) ?_
  refine lv_bipush (v := 48) hx hb dX13_isDigit_1 (by decide) ?_
  have b_ : -2147483648 ≤ x0.toInt ∧ x0.toInt ≤ 2147483647 := ⟨zlo _, zhi _⟩
  refine lv_icmp_lt (tgt := 16) hx hb dX13_isDigit_3 (by decide) (fun c_ => ?_) (fun c_ => ?_)
  · skip
    have b_ := zT_lt rfl zk_48 c_
    refine lv_iconst (v := 0) hx hb dX13_isDigit_16 (by decide) ?_
    refine W.widen (k := 0) (n := 0) (by decide) (by decide) ?_
    have hpost : (0 ≤ (0 : Int32).toInt ∧ (0 : Int32).toInt ≤ 1) ∧ ((0 : Int32).toInt = 1 → 48 ≤ x0.toInt ∧ x0.toInt ≤ 57) ∧ ((0 : Int32).toInt = 0 → x0.toInt < 48 ∨ 57 < x0.toInt) := ⟨(by first | with_reducible assumption | exact ⟨by omega, by omega⟩), by omega, by omega⟩
    have hP9 : va_P (dC, dI) vwCl [] s.heap := hP
    have hD9 : va_D A [] := hD
    exact W.zret (v := 0) hx hb hr rfl (fun t ht hW => ⟨⟨0, (fun _ => 0), rfl, hpost, (fun _ => 0), (fun _ => (fun _ => 0)), (fun _ => (fun _ => 0)), by rw [ht]; exact hP9, va_K.moved hW.alike hK, hD9⟩, hS.F ht⟩) hS.2.2 dX13_isDigit_17
  · skip
    have b_ := zF_lt rfl zk_48 c_
    refine lv_iload_n hx hb dX13_isDigit_6 rfl (lv_at hl 0 rfl) ?_
    refine lv_bipush (v := 57) hx hb dX13_isDigit_7 (by decide) ?_
    refine lv_icmp_gt (tgt := 16) hx hb dX13_isDigit_9 (by decide) (fun c_ => ?_) (fun c_ => ?_)
    · skip
      have b_ := zT_gt rfl zk_57 c_
      refine lv_iconst (v := 0) hx hb dX13_isDigit_16 (by decide) ?_
      refine W.widen (k := 0) (n := 0) (by decide) (by decide) ?_
      have hpost : (0 ≤ (0 : Int32).toInt ∧ (0 : Int32).toInt ≤ 1) ∧ ((0 : Int32).toInt = 1 → 48 ≤ x0.toInt ∧ x0.toInt ≤ 57) ∧ ((0 : Int32).toInt = 0 → x0.toInt < 48 ∨ 57 < x0.toInt) := ⟨(by first | with_reducible assumption | exact ⟨by omega, by omega⟩), by omega, by omega⟩
      have hP9 : va_P (dC, dI) vwCl [] s.heap := hP
      have hD9 : va_D A [] := hD
      exact W.zret (v := 0) hx hb hr rfl (fun t ht hW => ⟨⟨0, (fun _ => 0), rfl, hpost, (fun _ => 0), (fun _ => (fun _ => 0)), (fun _ => (fun _ => 0)), by rw [ht]; exact hP9, va_K.moved hW.alike hK, hD9⟩, hS.F ht⟩) hS.2.2 dX13_isDigit_17
    · skip
      have b_ := zF_gt rfl zk_57 c_
      refine lv_iconst (v := 1) hx hb dX13_isDigit_12 (by decide) ?_
      refine lv_goto (tgt := 17) hx hb dX13_isDigit_13 (by decide) ?_
      refine W.widen (k := 0) (n := 0) (by decide) (by decide) ?_
      have hpost : (0 ≤ (1 : Int32).toInt ∧ (1 : Int32).toInt ≤ 1) ∧ ((1 : Int32).toInt = 1 → 48 ≤ x0.toInt ∧ x0.toInt ≤ 57) ∧ ((1 : Int32).toInt = 0 → x0.toInt < 48 ∨ 57 < x0.toInt) := ⟨(by first | with_reducible assumption | exact ⟨by omega, by omega⟩), by omega, by omega⟩
      have hP9 : va_P (dC, dI) vwCl [] s.heap := hP
      have hD9 : va_D A [] := hD
      exact W.zret (v := 1) hx hb hr rfl (fun t ht hW => ⟨⟨1, (fun _ => 0), rfl, hpost, (fun _ => 0), (fun _ => (fun _ => 0)), (fun _ => (fun _ => 0)), by rw [ht]; exact hP9, va_K.moved hW.alike hK, hD9⟩, hS.F ht⟩) hS.2.2 dX13_isDigit_17
set_option maxHeartbeats 8000000 in
set_option maxRecDepth 100000 in
theorem sX13_isSmall_0 (l : Launch) (dC : Nat → ClassId) (dI : Nat → Nat → Nat) (adK adV : Nat → Nat) (sz : Nat) (x0 : Int32) : Met l yX13_isSmall (zw yX13_isSmall cX13_isSmall 1 (some .boolean)) { frames := 0, cells := 0, slots := 0, locals := 0 } (zPc dC dI adK adV [.int x0] sz [] []) (va_Qi (fun (r : Int32) (u : Nat → Int32) => (0 ≤ r.toInt ∧ r.toInt ≤ 1) ∧ (r.toInt = 1 → 97 ≤ x0.toInt ∧ x0.toInt ≤ 122) ∧ (r.toInt = 0 → x0.toInt < 97 ∨ 122 < x0.toInt)) (fun (u : Nat → Int32) (t : State) => ∃ (ww : Nat → Int64) (aa : Nat → Nat → Int32) (bb : Nat → Nat → Int64), va_P (dC, dI) vwCl [] t.heap ∧ va_K (dC, dI) vwCl [] t ∧ va_D (va_A [] sz) []) (va_A [] sz)) 0 0 (va_A [] sz) := by
  refine Met.ofW (cc := cX13_isSmall) (maxL := 1) (ret := (some .boolean)) (by decide) rfl ?_
  intro p e s m args below meth c s₁ B hml hv
  obtain ⟨rfl, hsz, hP, hK, hD0, hE, hZ⟩ := hv
  have hx := B.exec
  have hb := B.bytes
  have hr := B.returns
  have hG : ∀ w ∈ zG, w.before _ s = true := fun w h => atoms_spec (ws := (zw yX13_isSmall cX13_isSmall 1 (some .boolean))) B.pre w (List.mem_cons_of_mem _ h)
  have hown : s.vm.findClass RX13 = some m.cls := findClass_of_methodNamed B.named
  have hlocks := B.notSynchronized

  subst hsz
  have hD := hD0.self (sz := s.heap.size)
  generalize hAe : va_A [] s.heap.size = A at hD hZ ⊢
  have hA : ∀ q : Nat, s.heap.size ≤ q → A q := fun q h => by rw [← hAe]; exact Or.inr h
  have hS : va_S A s.heap s.heap [] := va_S.rf
  have hl := lv_entry ([.int x0]) (n := 1) (Nat.le_of_ble_eq_true rfl)
  rw [lg_entry_eq]
  generalize (lg_sl ([.int x0]) ++ List.replicate (1 - (lg_sl ([.int x0])).length) Slot.unset).toArray = ls at hl ⊢
  have hl : lv_has ls 1 [(0, .int x0)] := hl
  have b_ := zk_0
  have b_ := zk_1
  refine lv_iload_n hx hb dX13_isSmall_0 rfl (lv_at hl 0 rfl) ?_
  refine lv_bipush (v := 97) hx hb dX13_isSmall_1 (by decide) ?_
  have b_ : -2147483648 ≤ x0.toInt ∧ x0.toInt ≤ 2147483647 := ⟨zlo _, zhi _⟩
  refine lv_icmp_lt (tgt := 16) hx hb dX13_isSmall_3 (by decide) (fun c_ => ?_) (fun c_ => ?_)
  · skip
    have b_ := zT_lt rfl zk_97 c_
    refine lv_iconst (v := 0) hx hb dX13_isSmall_16 (by decide) ?_
    refine W.widen (k := 0) (n := 0) (by decide) (by decide) ?_
    have hpost : (0 ≤ (0 : Int32).toInt ∧ (0 : Int32).toInt ≤ 1) ∧ ((0 : Int32).toInt = 1 → 97 ≤ x0.toInt ∧ x0.toInt ≤ 122) ∧ ((0 : Int32).toInt = 0 → x0.toInt < 97 ∨ 122 < x0.toInt) := ⟨(by first | with_reducible assumption | exact ⟨by omega, by omega⟩), by omega, by omega⟩
    have hP9 : va_P (dC, dI) vwCl [] s.heap := hP
    have hD9 : va_D A [] := hD
    exact W.zret (v := 0) hx hb hr rfl (fun t ht hW => ⟨⟨0, (fun _ => 0), rfl, hpost, (fun _ => 0), (fun _ => (fun _ => 0)), (fun _ => (fun _ => 0)), by rw [ht]; exact hP9, va_K.moved hW.alike hK, hD9⟩, hS.F ht⟩) hS.2.2 dX13_isSmall_17
  · skip
    have b_ := zF_lt rfl zk_97 c_
    refine lv_iload_n hx hb dX13_isSmall_6 rfl (lv_at hl 0 rfl) ?_
    refine lv_bipush (v := 122) hx hb dX13_isSmall_7 (by decide) ?_
    refine lv_icmp_gt (tgt := 16) hx hb dX13_isSmall_9 (by decide) (fun c_ => ?_) (fun c_ => ?_)
    · skip
      have b_ := zT_gt rfl zk_122 c_
      refine lv_iconst (v := 0) hx hb dX13_isSmall_16 (by decide) ?_
      refine W.widen (k := 0) (n := 0) (by decide) (by decide) ?_
      have hpost : (0 ≤ (0 : Int32).toInt ∧ (0 : Int32).toInt ≤ 1) ∧ ((0 : Int32).toInt = 1 → 97 ≤ x0.toInt ∧ x0.toInt ≤ 122) ∧ ((0 : Int32).toInt = 0 → x0.toInt < 97 ∨ 122 < x0.toInt) := ⟨(by first | with_reducible assumption | exact ⟨by omega, by omega⟩), by omega, by omega⟩
      have hP9 : va_P (dC, dI) vwCl [] s.heap := hP
      have hD9 : va_D A [] := hD
      exact W.zret (v := 0) hx hb hr rfl (fun t ht hW => ⟨⟨0, (fun _ => 0), rfl, hpost, (fun _ => 0), (fun _ => (fun _ => 0)), (fun _ => (fun _ => 0)), by rw [ht]; exact hP9, va_K.moved hW.alike hK, hD9⟩, hS.F ht⟩) hS.2.2 dX13_isSmall_17
    · skip
      have b_ := zF_gt rfl zk_122 c_
      refine lv_iconst (v := 1) hx hb dX13_isSmall_12 (by decide) ?_
      refine lv_goto (tgt := 17) hx hb dX13_isSmall_13 (by decide) ?_
      refine W.widen (k := 0) (n := 0) (by decide) (by decide) ?_
      have hpost : (0 ≤ (1 : Int32).toInt ∧ (1 : Int32).toInt ≤ 1) ∧ ((1 : Int32).toInt = 1 → 97 ≤ x0.toInt ∧ x0.toInt ≤ 122) ∧ ((1 : Int32).toInt = 0 → x0.toInt < 97 ∨ 122 < x0.toInt) := ⟨(by first | with_reducible assumption | exact ⟨by omega, by omega⟩), by omega, by omega⟩
      have hP9 : va_P (dC, dI) vwCl [] s.heap := hP
      have hD9 : va_D A [] := hD
      exact W.zret (v := 1) hx hb hr rfl (fun t ht hW => ⟨⟨1, (fun _ => 0), rfl, hpost, (fun _ => 0), (fun _ => (fun _ => 0)), (fun _ => (fun _ => 0)), by rw [ht]; exact hP9, va_K.moved hW.alike hK, hD9⟩, hS.F ht⟩) hS.2.2 dX13_isSmall_17
set_option maxHeartbeats 8000000 in
set_option maxRecDepth 100000 in
theorem sX13_isGreat_0 (l : Launch) (dC : Nat → ClassId) (dI : Nat → Nat → Nat) (adK adV : Nat → Nat) (sz : Nat) (x0 : Int32) : Met l yX13_isGreat (zw yX13_isGreat cX13_isGreat 1 (some .boolean)) { frames := 0, cells := 0, slots := 0, locals := 0 } (zPc dC dI adK adV [.int x0] sz [] []) (va_Qi (fun (r : Int32) (u : Nat → Int32) => (0 ≤ r.toInt ∧ r.toInt ≤ 1) ∧ (r.toInt = 1 → 65 ≤ x0.toInt ∧ x0.toInt ≤ 90) ∧ (r.toInt = 0 → x0.toInt < 65 ∨ 90 < x0.toInt)) (fun (u : Nat → Int32) (t : State) => ∃ (ww : Nat → Int64) (aa : Nat → Nat → Int32) (bb : Nat → Nat → Int64), va_P (dC, dI) vwCl [] t.heap ∧ va_K (dC, dI) vwCl [] t ∧ va_D (va_A [] sz) []) (va_A [] sz)) 0 0 (va_A [] sz) := by
  refine Met.ofW (cc := cX13_isGreat) (maxL := 1) (ret := (some .boolean)) (by decide) rfl ?_
  intro p e s m args below meth c s₁ B hml hv
  obtain ⟨rfl, hsz, hP, hK, hD0, hE, hZ⟩ := hv
  have hx := B.exec
  have hb := B.bytes
  have hr := B.returns
  have hG : ∀ w ∈ zG, w.before _ s = true := fun w h => atoms_spec (ws := (zw yX13_isGreat cX13_isGreat 1 (some .boolean))) B.pre w (List.mem_cons_of_mem _ h)
  have hown : s.vm.findClass RX13 = some m.cls := findClass_of_methodNamed B.named
  have hlocks := B.notSynchronized

  subst hsz
  have hD := hD0.self (sz := s.heap.size)
  generalize hAe : va_A [] s.heap.size = A at hD hZ ⊢
  have hA : ∀ q : Nat, s.heap.size ≤ q → A q := fun q h => by rw [← hAe]; exact Or.inr h
  have hS : va_S A s.heap s.heap [] := va_S.rf
  have hl := lv_entry ([.int x0]) (n := 1) (Nat.le_of_ble_eq_true rfl)
  rw [lg_entry_eq]
  generalize (lg_sl ([.int x0]) ++ List.replicate (1 - (lg_sl ([.int x0])).length) Slot.unset).toArray = ls at hl ⊢
  have hl : lv_has ls 1 [(0, .int x0)] := hl
  have b_ := zk_0
  have b_ := zk_1
  refine lv_iload_n hx hb dX13_isGreat_0 rfl (lv_at hl 0 rfl) ?_
  refine lv_bipush (v := 65) hx hb dX13_isGreat_1 (by decide) ?_
  have b_ : -2147483648 ≤ x0.toInt ∧ x0.toInt ≤ 2147483647 := ⟨zlo _, zhi _⟩
  refine lv_icmp_lt (tgt := 16) hx hb dX13_isGreat_3 (by decide) (fun c_ => ?_) (fun c_ => ?_)
  · skip
    have b_ := zT_lt rfl zk_65 c_
    refine lv_iconst (v := 0) hx hb dX13_isGreat_16 (by decide) ?_
    refine W.widen (k := 0) (n := 0) (by decide) (by decide) ?_
    have hpost : (0 ≤ (0 : Int32).toInt ∧ (0 : Int32).toInt ≤ 1) ∧ ((0 : Int32).toInt = 1 → 65 ≤ x0.toInt ∧ x0.toInt ≤ 90) ∧ ((0 : Int32).toInt = 0 → x0.toInt < 65 ∨ 90 < x0.toInt) := ⟨(by first | with_reducible assumption | exact ⟨by omega, by omega⟩), by omega, by omega⟩
    have hP9 : va_P (dC, dI) vwCl [] s.heap := hP
    have hD9 : va_D A [] := hD
    exact W.zret (v := 0) hx hb hr rfl (fun t ht hW => ⟨⟨0, (fun _ => 0), rfl, hpost, (fun _ => 0), (fun _ => (fun _ => 0)), (fun _ => (fun _ => 0)), by rw [ht]; exact hP9, va_K.moved hW.alike hK, hD9⟩, hS.F ht⟩) hS.2.2 dX13_isGreat_17
  · skip
    have b_ := zF_lt rfl zk_65 c_
    refine lv_iload_n hx hb dX13_isGreat_6 rfl (lv_at hl 0 rfl) ?_
    refine lv_bipush (v := 90) hx hb dX13_isGreat_7 (by decide) ?_
    refine lv_icmp_gt (tgt := 16) hx hb dX13_isGreat_9 (by decide) (fun c_ => ?_) (fun c_ => ?_)
    · skip
      have b_ := zT_gt rfl zk_90 c_
      refine lv_iconst (v := 0) hx hb dX13_isGreat_16 (by decide) ?_
      refine W.widen (k := 0) (n := 0) (by decide) (by decide) ?_
      have hpost : (0 ≤ (0 : Int32).toInt ∧ (0 : Int32).toInt ≤ 1) ∧ ((0 : Int32).toInt = 1 → 65 ≤ x0.toInt ∧ x0.toInt ≤ 90) ∧ ((0 : Int32).toInt = 0 → x0.toInt < 65 ∨ 90 < x0.toInt) := ⟨(by first | with_reducible assumption | exact ⟨by omega, by omega⟩), by omega, by omega⟩
      have hP9 : va_P (dC, dI) vwCl [] s.heap := hP
      have hD9 : va_D A [] := hD
      exact W.zret (v := 0) hx hb hr rfl (fun t ht hW => ⟨⟨0, (fun _ => 0), rfl, hpost, (fun _ => 0), (fun _ => (fun _ => 0)), (fun _ => (fun _ => 0)), by rw [ht]; exact hP9, va_K.moved hW.alike hK, hD9⟩, hS.F ht⟩) hS.2.2 dX13_isGreat_17
    · skip
      have b_ := zF_gt rfl zk_90 c_
      refine lv_iconst (v := 1) hx hb dX13_isGreat_12 (by decide) ?_
      refine lv_goto (tgt := 17) hx hb dX13_isGreat_13 (by decide) ?_
      refine W.widen (k := 0) (n := 0) (by decide) (by decide) ?_
      have hpost : (0 ≤ (1 : Int32).toInt ∧ (1 : Int32).toInt ≤ 1) ∧ ((1 : Int32).toInt = 1 → 65 ≤ x0.toInt ∧ x0.toInt ≤ 90) ∧ ((1 : Int32).toInt = 0 → x0.toInt < 65 ∨ 90 < x0.toInt) := ⟨(by first | with_reducible assumption | exact ⟨by omega, by omega⟩), by omega, by omega⟩
      have hP9 : va_P (dC, dI) vwCl [] s.heap := hP
      have hD9 : va_D A [] := hD
      exact W.zret (v := 1) hx hb hr rfl (fun t ht hW => ⟨⟨1, (fun _ => 0), rfl, hpost, (fun _ => 0), (fun _ => (fun _ => 0)), (fun _ => (fun _ => 0)), by rw [ht]; exact hP9, va_K.moved hW.alike hK, hD9⟩, hS.F ht⟩) hS.2.2 dX13_isGreat_17
theorem zv1859 : (.methodLink RX13 187 yX13_isGreat : Cond) ∈ zG := zin8 51 (by decide +kernel) (by decide +kernel)
set_option maxHeartbeats 8000000 in
set_option maxRecDepth 100000 in
theorem sX13_isToken_0 (l : Launch) (dC : Nat → ClassId) (dI : Nat → Nat → Nat) (adK adV : Nat → Nat) (sz : Nat) (x0 : Int32) : Met l yX13_isToken (zw yX13_isToken cX13_isToken 1 (some .boolean)) { frames := 1, cells := 0, slots := 0, locals := 20 } (zPc dC dI adK adV [.int x0] sz [] []) (va_Qi (fun (r : Int32) (u : Nat → Int32) => (0 ≤ r.toInt ∧ r.toInt ≤ 1) ∧ (r.toInt = 1 → zTok x0.toInt) ∧ (r.toInt = 0 → ¬ zTok x0.toInt)) (fun (u : Nat → Int32) (t : State) => ∃ (ww : Nat → Int64) (aa : Nat → Nat → Int32) (bb : Nat → Nat → Int64), va_P (dC, dI) vwCl [] t.heap ∧ va_K (dC, dI) vwCl [] t ∧ va_D (va_A [] sz) []) (va_A [] sz)) 0 0 (va_A [] sz) := by
  refine Met.ofW (cc := cX13_isToken) (maxL := 1) (ret := (some .boolean)) (by decide) rfl ?_
  intro p e s m args below meth c s₁ B hml hv
  obtain ⟨rfl, hsz, hP, hK, hD0, hE, hZ⟩ := hv
  have hx := B.exec
  have hb := B.bytes
  have hr := B.returns
  have hG : ∀ w ∈ zG, w.before _ s = true := fun w h => atoms_spec (ws := (zw yX13_isToken cX13_isToken 1 (some .boolean))) B.pre w (List.mem_cons_of_mem _ h)
  have hown : s.vm.findClass RX13 = some m.cls := findClass_of_methodNamed B.named
  have hlocks := B.notSynchronized

  subst hsz
  have hD := hD0.self (sz := s.heap.size)
  generalize hAe : va_A [] s.heap.size = A at hD hZ ⊢
  have hA : ∀ q : Nat, s.heap.size ≤ q → A q := fun q h => by rw [← hAe]; exact Or.inr h
  have hS : va_S A s.heap s.heap [] := va_S.rf
  have hl := lv_entry ([.int x0]) (n := 1) (Nat.le_of_ble_eq_true rfl)
  rw [lg_entry_eq]
  generalize (lg_sl ([.int x0]) ++ List.replicate (1 - (lg_sl ([.int x0])).length) Slot.unset).toArray = ls at hl ⊢
  have hl : lv_has ls 1 [(0, .int x0)] := hl
  have b_ := zk_0
  have b_ := zk_1
  refine lv_iload_n hx hb dX13_isToken_0 rfl (lv_at hl 0 rfl) ?_
  have hPc := hP.sub (ws' := []) [] rfl
  have hDc := hD.sub (ws' := []) [] (by decide) rfl
  have hKc := hK.sub (tys' := []) [] rfl
  have hFc := va_free (wc := []) hD hS hA [] rfl
  refine va_calli (va_runS (As := [.int x0]) (rest := []) ⟨hx, hb, hml, hown, hG⟩ (sX13_isDigit_0 l dC dI adK adV s.heap.size x0) (va_cwS 1 hG (zgS zv1853 zv1854 zv142 zv1855) rfl rfl rfl (by decide +kernel) ⟨Nat.le_of_ble_eq_true rfl, Nat.le_of_ble_eq_true rfl⟩) ⟨zPc_blind, zPc_pre hPc hKc hDc hE hS hFc hZ⟩ rfl rfl hl.1 rfl (lv_room (Nat.le_of_ble_eq_true rfl)) dX13_isToken_1 ⟨Nat.le_of_ble_eq_true rfl, Nat.le_of_ble_eq_true rfl⟩) hS (fun q _ h => hFc q h) hFc (fun r1_ u1_ t H1 locs ht hvm hw hB hz1 hk1 hS => ?_)
  replace hw : (0 ≤ r1_.toInt ∧ r1_.toInt ≤ 1) ∧ (r1_.toInt = 1 → 48 ≤ x0.toInt ∧ x0.toInt ≤ 57) ∧ (r1_.toInt = 0 → x0.toInt < 48 ∨ 57 < x0.toInt) := hw
  obtain ⟨b_, hX1_0, hX1_1⟩ := hw
  obtain ⟨w1_, a1_, b1_, hP1, hK1, hD1⟩ := hB
  rw [ht] at hP1
  obtain ⟨hP, hD⟩ := va_join (wr := []) (w1 := []) hP hD [] [] rfl rfl (by decide) (by decide) hk1 hFc hP1 hD1
  have hP : va_P (dC, dI) vwCl [] H1 := hP.sub [] rfl
  have hD : va_D A [] := hD.sub [] (by decide) rfl
  generalize H1 = H at hP hS ⊢
  clear hz1
  refine lv_if_ne (tgt := 21) hx hb dX13_isToken_4 (by decide) (fun c_ => ?_) (fun c_ => ?_)
  · skip
    have b_ := zT_ne rfl zk_0 c_
    refine lv_iconst (v := 1) hx hb dX13_isToken_21 (by decide) ?_
    refine lv_goto (tgt := 26) hx hb dX13_isToken_22 (by decide) ?_
    refine W.widen (k := 0) (n := 0) (by decide) (by decide) ?_
    have hpost : (0 ≤ (1 : Int32).toInt ∧ (1 : Int32).toInt ≤ 1) ∧ ((1 : Int32).toInt = 1 → zTok x0.toInt) ∧ ((1 : Int32).toInt = 0 → ¬ zTok x0.toInt) := ⟨(by first | with_reducible assumption | exact ⟨by omega, by omega⟩), by intro _; unfold zTok; omega, by intro _; unfold zTok; omega⟩
    have hP9 : va_P (dC, dI) vwCl [] H := hP
    have hD9 : va_D A [] := hD
    exact W.zret (v := 1) hx hb hr rfl (fun t ht hW => ⟨⟨1, (fun _ => 0), rfl, hpost, (fun _ => 0), (fun _ => (fun _ => 0)), (fun _ => (fun _ => 0)), by rw [ht]; exact hP9, va_K.moved hW.alike hK, hD9⟩, hS.F ht⟩) hS.2.2 dX13_isToken_26
  · skip
    have b_ := zF_ne rfl zk_0 c_
    refine lv_iload_n hx hb dX13_isToken_7 rfl (lv_at hl 0 rfl) ?_
    have hPc := hP.sub (ws' := []) [] rfl
    have hDc := hD.sub (ws' := []) [] (by decide) rfl
    have hKc := hK.sub (tys' := []) [] rfl
    have hFc := va_free (wc := []) hD hS hA [] rfl
    refine va_calli (va_runS (As := [.int x0]) (rest := []) ⟨hx, hb, hml, hown, hG⟩ (sX13_isSmall_0 l dC dI adK adV H.size x0) (va_cwS 1 hG (zgS zv1856 zv1857 zv142 zv1858) rfl rfl rfl (by decide +kernel) ⟨Nat.le_of_ble_eq_true rfl, Nat.le_of_ble_eq_true rfl⟩) ⟨zPc_blind, zPc_pre hPc hKc hDc hE hS hFc hZ⟩ rfl rfl hl.1 rfl (lv_room (Nat.le_of_ble_eq_true rfl)) dX13_isToken_8 ⟨Nat.le_of_ble_eq_true rfl, Nat.le_of_ble_eq_true rfl⟩) hS (fun q _ h => hFc q h) hFc (fun r8_ u8_ t H1 locs ht hvm hw hB hz1 hk1 hS => ?_)
    replace hw : (0 ≤ r8_.toInt ∧ r8_.toInt ≤ 1) ∧ (r8_.toInt = 1 → 97 ≤ x0.toInt ∧ x0.toInt ≤ 122) ∧ (r8_.toInt = 0 → x0.toInt < 97 ∨ 122 < x0.toInt) := hw
    obtain ⟨b_, hX8_0, hX8_1⟩ := hw
    obtain ⟨w8_, a8_, b8_, hP1, hK1, hD1⟩ := hB
    rw [ht] at hP1
    obtain ⟨hP, hD⟩ := va_join (wr := []) (w1 := []) hP hD [] [] rfl rfl (by decide) (by decide) hk1 hFc hP1 hD1
    have hP : va_P (dC, dI) vwCl [] H1 := hP.sub [] rfl
    have hD : va_D A [] := hD.sub [] (by decide) rfl
    generalize H1 = H at hP hS ⊢
    clear hz1
    refine lv_if_ne (tgt := 21) hx hb dX13_isToken_11 (by decide) (fun c_ => ?_) (fun c_ => ?_)
    · skip
      have b_ := zT_ne rfl zk_0 c_
      refine lv_iconst (v := 1) hx hb dX13_isToken_21 (by decide) ?_
      refine lv_goto (tgt := 26) hx hb dX13_isToken_22 (by decide) ?_
      refine W.widen (k := 0) (n := 0) (by decide) (by decide) ?_
      have hpost : (0 ≤ (1 : Int32).toInt ∧ (1 : Int32).toInt ≤ 1) ∧ ((1 : Int32).toInt = 1 → zTok x0.toInt) ∧ ((1 : Int32).toInt = 0 → ¬ zTok x0.toInt) := ⟨(by first | with_reducible assumption | exact ⟨by omega, by omega⟩), by intro _; unfold zTok; omega, by intro _; unfold zTok; omega⟩
      have hP9 : va_P (dC, dI) vwCl [] H := hP
      have hD9 : va_D A [] := hD
      exact W.zret (v := 1) hx hb hr rfl (fun t ht hW => ⟨⟨1, (fun _ => 0), rfl, hpost, (fun _ => 0), (fun _ => (fun _ => 0)), (fun _ => (fun _ => 0)), by rw [ht]; exact hP9, va_K.moved hW.alike hK, hD9⟩, hS.F ht⟩) hS.2.2 dX13_isToken_26
    · skip
      have b_ := zF_ne rfl zk_0 c_
      refine lv_iload_n hx hb dX13_isToken_14 rfl (lv_at hl 0 rfl) ?_
      have hPc := hP.sub (ws' := []) [] rfl
      have hDc := hD.sub (ws' := []) [] (by decide) rfl
      have hKc := hK.sub (tys' := []) [] rfl
      have hFc := va_free (wc := []) hD hS hA [] rfl
      refine va_calli (va_runS (As := [.int x0]) (rest := []) ⟨hx, hb, hml, hown, hG⟩ (sX13_isGreat_0 l dC dI adK adV H.size x0) (va_cwS 1 hG (zgS zv1859 zv1860 zv142 zv1861) rfl rfl rfl (by decide +kernel) ⟨Nat.le_of_ble_eq_true rfl, Nat.le_of_ble_eq_true rfl⟩) ⟨zPc_blind, zPc_pre hPc hKc hDc hE hS hFc hZ⟩ rfl rfl hl.1 rfl (lv_room (Nat.le_of_ble_eq_true rfl)) dX13_isToken_15 ⟨Nat.le_of_ble_eq_true rfl, Nat.le_of_ble_eq_true rfl⟩) hS (fun q _ h => hFc q h) hFc (fun r15_ u15_ t H1 locs ht hvm hw hB hz1 hk1 hS => ?_)
      replace hw : (0 ≤ r15_.toInt ∧ r15_.toInt ≤ 1) ∧ (r15_.toInt = 1 → 65 ≤ x0.toInt ∧ x0.toInt ≤ 90) ∧ (r15_.toInt = 0 → x0.toInt < 65 ∨ 90 < x0.toInt) := hw
      obtain ⟨b_, hX15_0, hX15_1⟩ := hw
      obtain ⟨w15_, a15_, b15_, hP1, hK1, hD1⟩ := hB
      rw [ht] at hP1
      obtain ⟨hP, hD⟩ := va_join (wr := []) (w1 := []) hP hD [] [] rfl rfl (by decide) (by decide) hk1 hFc hP1 hD1
      have hP : va_P (dC, dI) vwCl [] H1 := hP.sub [] rfl
      have hD : va_D A [] := hD.sub [] (by decide) rfl
      generalize H1 = H at hP hS ⊢
      clear hz1
      refine lv_if_eq (tgt := 25) hx hb dX13_isToken_18 (by decide) (fun c_ => ?_) (fun c_ => ?_)
      · skip
        have b_ := zT_eq rfl zk_0 c_
        refine lv_iconst (v := 0) hx hb dX13_isToken_25 (by decide) ?_
        refine W.widen (k := 0) (n := 0) (by decide) (by decide) ?_
        have hpost : (0 ≤ (0 : Int32).toInt ∧ (0 : Int32).toInt ≤ 1) ∧ ((0 : Int32).toInt = 1 → zTok x0.toInt) ∧ ((0 : Int32).toInt = 0 → ¬ zTok x0.toInt) := ⟨(by first | with_reducible assumption | exact ⟨by omega, by omega⟩), by intro _; unfold zTok; omega, by intro _; unfold zTok; omega⟩
        have hP9 : va_P (dC, dI) vwCl [] H := hP
        have hD9 : va_D A [] := hD
        exact W.zret (v := 0) hx hb hr rfl (fun t ht hW => ⟨⟨0, (fun _ => 0), rfl, hpost, (fun _ => 0), (fun _ => (fun _ => 0)), (fun _ => (fun _ => 0)), by rw [ht]; exact hP9, va_K.moved hW.alike hK, hD9⟩, hS.F ht⟩) hS.2.2 dX13_isToken_26
      · skip
        have b_ := zF_eq rfl zk_0 c_
        refine lv_iconst (v := 1) hx hb dX13_isToken_21 (by decide) ?_
        refine lv_goto (tgt := 26) hx hb dX13_isToken_22 (by decide) ?_
        refine W.widen (k := 0) (n := 0) (by decide) (by decide) ?_
        have hpost : (0 ≤ (1 : Int32).toInt ∧ (1 : Int32).toInt ≤ 1) ∧ ((1 : Int32).toInt = 1 → zTok x0.toInt) ∧ ((1 : Int32).toInt = 0 → ¬ zTok x0.toInt) := ⟨(by first | with_reducible assumption | exact ⟨by omega, by omega⟩), by intro _; unfold zTok; omega, by intro _; unfold zTok; omega⟩
        have hP9 : va_P (dC, dI) vwCl [] H := hP
        have hD9 : va_D A [] := hD
        exact W.zret (v := 1) hx hb hr rfl (fun t ht hW => ⟨⟨1, (fun _ => 0), rfl, hpost, (fun _ => 0), (fun _ => (fun _ => 0)), (fun _ => (fun _ => 0)), by rw [ht]; exact hP9, va_K.moved hW.alike hK, hD9⟩, hS.F ht⟩) hS.2.2 dX13_isToken_26
set_option maxHeartbeats 8000000 in
set_option maxRecDepth 100000 in
theorem sX13_runFrom_0 (l : Launch) (dC : Nat → ClassId) (dI : Nat → Nat → Nat) (adK adV : Nat → Nat) (h0 : Nat) (q0 : Nat → Nat) (k1 : ClassId) (sz : Nat) (v0 : Nat → Int32) (f1 : Nat → Int32) (x1 : Int32) (x2 : Int32) (hv0 : zR rg_Model v0) (hx1 : 0 ≤ x1.toInt ∧ x1.toInt ≤ 600) (hx2 : 0 ≤ x2.toInt ∧ x2.toInt ≤ 600) : Met l yX13_runFrom (zw yX13_runFrom cX13_runFrom 4 (some .int)) { frames := 2, cells := 0, slots := 0, locals := 40 } (zPc dC dI adK adV [.ref h0, .int x1, .int x2] sz [(h0, .inr (13, mX13 q0 v0)), ((q0 0), zi k1 600 f1)] [(k1, .byte)]) (va_Qi (fun (r : Int32) (u : Nat → Int32) => (0 ≤ r.toInt ∧ r.toInt ≤ 600) ∧ (x1.toInt ≤ r.toInt) ∧ (r.toInt ≤ x2.toInt ∨ r.toInt = x1.toInt) ∧ (zNt f1 x1.toInt r.toInt) ∧ (r.toInt < x2.toInt → zTok (f1 ((r : Int32)).toNatClampNeg).toInt)) (fun (u : Nat → Int32) (t : State) => ∃ (ww : Nat → Int64) (aa : Nat → Nat → Int32) (bb : Nat → Nat → Int64), va_P (dC, dI) vwCl [(h0, .inr (13, mX13 q0 v0)), ((q0 0), zi k1 600 f1)] t.heap ∧ va_K (dC, dI) vwCl [(k1, .byte)] t ∧ va_D (va_A [(h0, .inr (13, mX13 q0 v0)), ((q0 0), zi k1 600 f1)] sz) [(h0, .inr (13, mX13 q0 v0)), ((q0 0), zi k1 600 f1)]) (va_A [(h0, .inr (13, mX13 q0 v0)), ((q0 0), zi k1 600 f1)] sz)) 0 0 (va_A [(h0, .inr (13, mX13 q0 v0)), ((q0 0), zi k1 600 f1)] sz) := by
  refine Met.ofW (cc := cX13_runFrom) (maxL := 4) (ret := (some .int)) (by decide) rfl ?_
  intro p e s m args below meth c s₁ B hml hv
  obtain ⟨rfl, hsz, hP, hK, hD0, hE, hZ⟩ := hv
  have hx := B.exec
  have hb := B.bytes
  have hr := B.returns
  have hG : ∀ w ∈ zG, w.before _ s = true := fun w h => atoms_spec (ws := (zw yX13_runFrom cX13_runFrom 4 (some .int))) B.pre w (List.mem_cons_of_mem _ h)
  have hown : s.vm.findClass RX13 = some m.cls := findClass_of_methodNamed B.named
  have hlocks := B.notSynchronized

  subst hsz
  have hD := hD0.self (sz := s.heap.size)
  generalize hAe : va_A [(h0, .inr (13, mX13 q0 v0)), ((q0 0), zi k1 600 f1)] s.heap.size = A at hD hZ ⊢
  have hA : ∀ q : Nat, s.heap.size ≤ q → A q := fun q h => by rw [← hAe]; exact Or.inr h
  have hS : va_S A s.heap s.heap [] := va_S.rf
  have hl := lv_entry ([.ref h0, .int x1, .int x2]) (n := 4) (Nat.le_of_ble_eq_true rfl)
  rw [lg_entry_eq]
  generalize (lg_sl ([.ref h0, .int x1, .int x2]) ++ List.replicate (4 - (lg_sl ([.ref h0, .int x1, .int x2])).length) Slot.unset).toArray = ls at hl ⊢
  have hl : lv_has ls 4 [(0, .ref h0), (1, .int x1), (2, .int x2)] := hl
  refine lv_iload_n hx hb dX13_runFrom_0 rfl (lv_at hl 1 rfl) ?_
  refine lv_istore_n (lv' := [(3, .int x1), (0, .ref h0), (1, .int x1), (2, .int x2)]) hx hb dX13_runFrom_1 rfl hl (by decide) rfl (fun ls hl => ?_)
  refine zcutL (fun u2_ => (600 - (u2_ 0).toInt).toNat) (fun H locs ls u2_ w2_ a2_ b2_ => va_P (dC, dI) vwCl [(h0, .inr (13, mX13 q0 v0)), ((q0 0), zi k1 600 f1)] H ∧ va_D A [(h0, .inr (13, mX13 q0 v0)), ((q0 0), zi k1 600 f1)] ∧ va_S A s.heap H locs ∧ lv_has ls 4 [(0, .ref h0), (1, .int x1), (2, .int x2), (3, .int (u2_ 0))] ∧ (0 ≤ (u2_ 0).toInt ∧ (u2_ 0).toInt ≤ 600) ∧ (x1.toInt ≤ (u2_ 0).toInt) ∧ ((u2_ 0).toInt ≤ x2.toInt ∨ (u2_ 0).toInt = x1.toInt) ∧ (zNt f1 x1.toInt (u2_ 0).toInt)) (fun ls u2_ w2_ => F0 m 2 ls []) 0 0 ?_ (fun hJ2 => ?_)
  · skip
    intro H locs ls u2_ w2_ a2_ b2_ hc hJ2
    obtain ⟨hP, hD, hS, hl, b_, b_, b_, hI2_2⟩ := hc
    refine lv_iload_n hx hb dX13_runFrom_2 rfl (lv_at hl 3 rfl) ?_
    refine lv_iload_n hx hb dX13_runFrom_3 rfl (lv_at hl 2 rfl) ?_
    refine lv_icmp_ge (tgt := 25) hx hb dX13_runFrom_4 (by decide) (fun c_ => ?_) (fun c_ => ?_)
    · skip
      have b_ := zT_ge rfl rfl c_
      refine lv_iload_n hx hb dX13_runFrom_25 rfl (lv_at hl 3 rfl) ?_
      refine W.widen (k := 0) (n := 0) (by decide) (by decide) ?_
      have hpost : (0 ≤ (u2_ 0).toInt ∧ (u2_ 0).toInt ≤ 600) ∧ (x1.toInt ≤ (u2_ 0).toInt) ∧ ((u2_ 0).toInt ≤ x2.toInt ∨ (u2_ 0).toInt = x1.toInt) ∧ (zNt f1 x1.toInt (u2_ 0).toInt) ∧ ((u2_ 0).toInt < x2.toInt → zTok (f1 (((u2_ 0) : Int32)).toNatClampNeg).toInt) := ⟨(by first | with_reducible assumption | exact ⟨by omega, by omega⟩), by omega, by omega, by exact hI2_2, by first | exact fun _ => htk | (intro _; omega)⟩
      have hP9 : va_P (dC, dI) vwCl [(h0, .inr (13, mX13 q0 v0)), ((q0 0), zi k1 600 f1)] H := hP
      have hD9 : va_D A [(h0, .inr (13, mX13 q0 v0)), ((q0 0), zi k1 600 f1)] := hD
      exact W.iret (v := (u2_ 0)) hx hb hr (fun t ht hW => ⟨⟨(u2_ 0), (fun _ => 0), rfl, hpost, (fun _ => 0), (fun _ => (fun _ => 0)), (fun _ => (fun _ => 0)), by rw [ht]; exact hP9, va_K.moved hW.alike hK, hD9⟩, hS.F ht⟩) hS.2.2 dX13_runFrom_26
    · skip
      have b_ := zF_ge rfl rfl c_
      refine lv_aload_n hx hb dX13_runFrom_7 rfl (lv_at hl 0 rfl) ?_
      refine va_get (D := (dC, dI)) (ci := 13) (v := .ref (q0 0)) (C := RX13) (T := TX13) (N := 75) hx hb hG zuX13 hown hK hP 0 rfl rfl 0 (by decide) (hG _ zv1604) (fun _ h9 => h9) rfl dX13_runFrom_8 ?_
      refine lv_iload_n hx hb dX13_runFrom_11 rfl (lv_at hl 3 rfl) ?_
      refine va_bald hx hb hK hP 1 0 rfl rfl (zin_lit ⟨by omega, by omega⟩) dX13_runFrom_12 ?_
      refine lv_topi (fun z12 e_z12 => ?_)
      have hPc := hP.sub (ws' := []) [] rfl
      have hDc := hD.sub (ws' := []) [] (by decide) rfl
      have hKc := hK.sub (tys' := []) [] rfl
      have hFc := va_free (wc := []) hD hS hA [] rfl
      refine va_calli (va_runS (As := [.int z12]) (rest := []) ⟨hx, hb, hml, hown, hG⟩ (sX13_isToken_0 l dC dI adK adV H.size z12) (va_cwS 1 hG (zgS zv1850 zv1851 zv142 zv1852) rfl rfl rfl (by decide +kernel) ⟨Nat.le_of_ble_eq_true rfl, Nat.le_of_ble_eq_true rfl⟩) ⟨zPc_blind, zPc_pre hPc hKc hDc hE hS hFc hZ⟩ rfl rfl hl.1 rfl (lv_room (Nat.le_of_ble_eq_true rfl)) dX13_runFrom_13 ⟨Nat.le_of_ble_eq_true rfl, Nat.le_of_ble_eq_true rfl⟩) hS (fun q _ h => hFc q h) hFc (fun r13_ u13_ t H1 locs ht hvm hw hB hz1 hk1 hS => ?_)
      replace hw : (0 ≤ r13_.toInt ∧ r13_.toInt ≤ 1) ∧ (r13_.toInt = 1 → zTok z12.toInt) ∧ (r13_.toInt = 0 → ¬ zTok z12.toInt) := hw
      obtain ⟨b_, hX13_0, hX13_1⟩ := hw
      obtain ⟨w13_, a13_, b13_, hP1, hK1, hD1⟩ := hB
      rw [ht] at hP1
      obtain ⟨hP, hD⟩ := va_join (wr := [(h0, .inr (13, mX13 q0 v0)), ((q0 0), zi k1 600 f1)]) (w1 := []) hP hD [] [0, 1] rfl rfl (by decide) (by decide) hk1 hFc hP1 hD1
      have hP : va_P (dC, dI) vwCl [(h0, .inr (13, mX13 q0 v0)), ((q0 0), zi k1 600 f1)] H1 := hP.sub [0, 1] rfl
      have hD : va_D A [(h0, .inr (13, mX13 q0 v0)), ((q0 0), zi k1 600 f1)] := hD.sub [0, 1] (by decide) rfl
      generalize H1 = H at hP hS ⊢
      clear hz1
      refine lv_if_ne (tgt := 25) hx hb dX13_runFrom_16 (by decide) (fun c_ => ?_) (fun c_ => ?_)
      · skip
        have b_ := zT_ne rfl zk_0 c_
        have htk : zTok (f1 ((u2_ 0) : Int32).toNatClampNeg).toInt := by rw [← e_z12]; exact hX13_0 (by omega)
        refine lv_iload_n hx hb dX13_runFrom_25 rfl (lv_at hl 3 rfl) ?_
        refine W.widen (k := 0) (n := 0) (by decide) (by decide) ?_
        have hpost : (0 ≤ (u2_ 0).toInt ∧ (u2_ 0).toInt ≤ 600) ∧ (x1.toInt ≤ (u2_ 0).toInt) ∧ ((u2_ 0).toInt ≤ x2.toInt ∨ (u2_ 0).toInt = x1.toInt) ∧ (zNt f1 x1.toInt (u2_ 0).toInt) ∧ ((u2_ 0).toInt < x2.toInt → zTok (f1 (((u2_ 0) : Int32)).toNatClampNeg).toInt) := ⟨(by first | with_reducible assumption | exact ⟨by omega, by omega⟩), by omega, by omega, by exact hI2_2, by first | exact fun _ => htk | (intro _; omega)⟩
        have hP9 : va_P (dC, dI) vwCl [(h0, .inr (13, mX13 q0 v0)), ((q0 0), zi k1 600 f1)] H := hP
        have hD9 : va_D A [(h0, .inr (13, mX13 q0 v0)), ((q0 0), zi k1 600 f1)] := hD
        exact W.iret (v := (u2_ 0)) hx hb hr (fun t ht hW => ⟨⟨(u2_ 0), (fun _ => 0), rfl, hpost, (fun _ => 0), (fun _ => (fun _ => 0)), (fun _ => (fun _ => 0)), by rw [ht]; exact hP9, va_K.moved hW.alike hK, hD9⟩, hS.F ht⟩) hS.2.2 dX13_runFrom_26
      · skip
        have b_ := zF_ne rfl zk_0 c_
        obtain ⟨z19, e_z19⟩ : ∃ z : Int32, z = (u2_ 0) + Int32.ofInt 1 := ⟨_, rfl⟩
        have b_ := zadd (x := (u2_ 0)) (y := Int32.ofInt 1) rfl (show (Int32.ofInt 1).toInt = 1 from by decide) e_z19 (by omega) (by omega)
        refine lv_iinc (v := z19) (lv' := [(3, .int z19), (0, .ref h0), (1, .int x1), (2, .int x2)]) hx hb dX13_runFrom_19 hl (k := 3) rfl e_z19.symm (by decide) rfl (fun ls hl => ?_)
        refine lv_goto (tgt := 2) hx hb dX13_runFrom_22 (by decide) ?_
        have hc : va_P (dC, dI) vwCl [(h0, .inr (13, mX13 q0 v0)), ((q0 0), zi k1 600 f1)] H ∧ va_D A [(h0, .inr (13, mX13 q0 v0)), ((q0 0), zi k1 600 f1)] ∧ va_S A s.heap H locs ∧ lv_has ls 4 [(0, .ref h0), (1, .int x1), (2, .int x2), (3, .int z19)] ∧ (0 ≤ z19.toInt ∧ z19.toInt ≤ 600) ∧ (x1.toInt ≤ z19.toInt) ∧ (z19.toInt ≤ x2.toInt ∨ z19.toInt = x1.toInt) ∧ (zNt f1 x1.toInt z19.toInt) := ⟨hP, hD, hS, lv_sub hl [1, 2, 3, 0] rfl, (by first | with_reducible assumption | exact ⟨by omega, by omega⟩), by omega, by omega, by first | exact zNt_0 (by omega) | exact zNt_s (by assumption) e_z12 (hX13_1 (by omega)) (by omega) (by omega)⟩
        exact hJ2 H locs ls (fun i => ([z19] : List (Int32)).getD i 0) (fun _ => 0) (fun _ => (fun _ => 0)) (fun _ => (fun _ => 0)) hc (show (600 - z19.toInt).toNat < (600 - (u2_ 0).toInt).toNat from by omega)
  · skip
    have hc : va_P (dC, dI) vwCl [(h0, .inr (13, mX13 q0 v0)), ((q0 0), zi k1 600 f1)] s.heap ∧ va_D A [(h0, .inr (13, mX13 q0 v0)), ((q0 0), zi k1 600 f1)] ∧ va_S A s.heap s.heap [] ∧ lv_has ls 4 [(0, .ref h0), (1, .int x1), (2, .int x2), (3, .int x1)] ∧ (0 ≤ x1.toInt ∧ x1.toInt ≤ 600) ∧ (x1.toInt ≤ x1.toInt) ∧ (x1.toInt ≤ x2.toInt ∨ x1.toInt = x1.toInt) ∧ (zNt f1 x1.toInt x1.toInt) := ⟨hP, hD, hS, lv_sub hl [1, 2, 3, 0] rfl, (by first | with_reducible assumption | exact ⟨by omega, by omega⟩), by omega, by omega, by first | exact zNt_0 (by omega) | exact zNt_s (by assumption) e_z12 (hX13_1 (by omega)) (by omega) (by omega)⟩
    exact hJ2 s.heap [] ls (fun i => ([x1] : List (Int32)).getD i 0) (fun _ => 0) (fun _ => (fun _ => 0)) (fun _ => (fun _ => 0)) hc
set_option maxHeartbeats 8000000 in
set_option maxRecDepth 100000 in
theorem sX13_runEnd_0 (l : Launch) (dC : Nat → ClassId) (dI : Nat → Nat → Nat) (adK adV : Nat → Nat) (h0 : Nat) (q0 : Nat → Nat) (k1 : ClassId) (sz : Nat) (v0 : Nat → Int32) (f1 : Nat → Int32) (x1 : Int32) (x2 : Int32) (hv0 : zR rg_Model v0) (hx1 : 0 ≤ x1.toInt ∧ x1.toInt ≤ 600) (hx2 : 0 ≤ x2.toInt ∧ x2.toInt ≤ 600) : Met l yX13_runEnd (zw yX13_runEnd cX13_runEnd 4 (some .int)) { frames := 2, cells := 0, slots := 0, locals := 40 } (zPc dC dI adK adV [.ref h0, .int x1, .int x2] sz [(h0, .inr (13, mX13 q0 v0)), ((q0 0), zi k1 600 f1)] [(k1, .byte)]) (va_Qi (fun (r : Int32) (u : Nat → Int32) => (0 ≤ r.toInt ∧ r.toInt ≤ 600) ∧ (x1.toInt ≤ r.toInt) ∧ (r.toInt ≤ x2.toInt ∨ r.toInt = x1.toInt) ∧ (r.toInt ≤ 600) ∧ (r.toInt < x2.toInt → ¬ zTok (f1 ((r : Int32)).toNatClampNeg).toInt) ∧ (x1.toInt < x2.toInt → zTok (f1 ((x1 : Int32)).toNatClampNeg).toInt → x1.toInt < r.toInt) ∧ (zAt f1 x1.toInt r.toInt)) (fun (u : Nat → Int32) (t : State) => ∃ (ww : Nat → Int64) (aa : Nat → Nat → Int32) (bb : Nat → Nat → Int64), va_P (dC, dI) vwCl [(h0, .inr (13, mX13 q0 v0)), ((q0 0), zi k1 600 f1)] t.heap ∧ va_K (dC, dI) vwCl [(k1, .byte)] t ∧ va_D (va_A [(h0, .inr (13, mX13 q0 v0)), ((q0 0), zi k1 600 f1)] sz) [(h0, .inr (13, mX13 q0 v0)), ((q0 0), zi k1 600 f1)]) (va_A [(h0, .inr (13, mX13 q0 v0)), ((q0 0), zi k1 600 f1)] sz)) 0 0 (va_A [(h0, .inr (13, mX13 q0 v0)), ((q0 0), zi k1 600 f1)] sz) := by
  refine Met.ofW (cc := cX13_runEnd) (maxL := 4) (ret := (some .int)) (by decide) rfl ?_
  intro p e s m args below meth c s₁ B hml hv
  obtain ⟨rfl, hsz, hP, hK, hD0, hE, hZ⟩ := hv
  have hx := B.exec
  have hb := B.bytes
  have hr := B.returns
  have hG : ∀ w ∈ zG, w.before _ s = true := fun w h => atoms_spec (ws := (zw yX13_runEnd cX13_runEnd 4 (some .int))) B.pre w (List.mem_cons_of_mem _ h)
  have hown : s.vm.findClass RX13 = some m.cls := findClass_of_methodNamed B.named
  have hlocks := B.notSynchronized

  subst hsz
  have hD := hD0.self (sz := s.heap.size)
  generalize hAe : va_A [(h0, .inr (13, mX13 q0 v0)), ((q0 0), zi k1 600 f1)] s.heap.size = A at hD hZ ⊢
  have hA : ∀ q : Nat, s.heap.size ≤ q → A q := fun q h => by rw [← hAe]; exact Or.inr h
  have hS : va_S A s.heap s.heap [] := va_S.rf
  have hl := lv_entry ([.ref h0, .int x1, .int x2]) (n := 4) (Nat.le_of_ble_eq_true rfl)
  rw [lg_entry_eq]
  generalize (lg_sl ([.ref h0, .int x1, .int x2]) ++ List.replicate (4 - (lg_sl ([.ref h0, .int x1, .int x2])).length) Slot.unset).toArray = ls at hl ⊢
  have hl : lv_has ls 4 [(0, .ref h0), (1, .int x1), (2, .int x2)] := hl
  refine lv_iload_n hx hb dX13_runEnd_0 rfl (lv_at hl 1 rfl) ?_
  refine lv_istore_n (lv' := [(3, .int x1), (0, .ref h0), (1, .int x1), (2, .int x2)]) hx hb dX13_runEnd_1 rfl hl (by decide) rfl (fun ls hl => ?_)
  refine zcutL (fun u2_ => (600 - (u2_ 0).toInt).toNat) (fun H locs ls u2_ w2_ a2_ b2_ => va_P (dC, dI) vwCl [(h0, .inr (13, mX13 q0 v0)), ((q0 0), zi k1 600 f1)] H ∧ va_D A [(h0, .inr (13, mX13 q0 v0)), ((q0 0), zi k1 600 f1)] ∧ va_S A s.heap H locs ∧ lv_has ls 4 [(0, .ref h0), (1, .int x1), (2, .int x2), (3, .int (u2_ 0))] ∧ (0 ≤ (u2_ 0).toInt ∧ (u2_ 0).toInt ≤ 600) ∧ (x1.toInt ≤ (u2_ 0).toInt) ∧ ((u2_ 0).toInt ≤ x2.toInt ∨ (u2_ 0).toInt = x1.toInt) ∧ (zAt f1 x1.toInt (u2_ 0).toInt)) (fun ls u2_ w2_ => F0 m 2 ls []) 0 0 ?_ (fun hJ2 => ?_)
  · skip
    intro H locs ls u2_ w2_ a2_ b2_ hc hJ2
    obtain ⟨hP, hD, hS, hl, b_, b_, b_, hI2_2⟩ := hc
    refine lv_iload_n hx hb dX13_runEnd_2 rfl (lv_at hl 3 rfl) ?_
    refine lv_iload_n hx hb dX13_runEnd_3 rfl (lv_at hl 2 rfl) ?_
    refine lv_icmp_ge (tgt := 25) hx hb dX13_runEnd_4 (by decide) (fun c_ => ?_) (fun c_ => ?_)
    · skip
      have b_ := zT_ge rfl rfl c_
      refine lv_iload_n hx hb dX13_runEnd_25 rfl (lv_at hl 3 rfl) ?_
      refine W.widen (k := 0) (n := 0) (by decide) (by decide) ?_
      have hpost : (0 ≤ (u2_ 0).toInt ∧ (u2_ 0).toInt ≤ 600) ∧ (x1.toInt ≤ (u2_ 0).toInt) ∧ ((u2_ 0).toInt ≤ x2.toInt ∨ (u2_ 0).toInt = x1.toInt) ∧ ((u2_ 0).toInt ≤ 600) ∧ ((u2_ 0).toInt < x2.toInt → ¬ zTok (f1 (((u2_ 0) : Int32)).toNatClampNeg).toInt) ∧ (x1.toInt < x2.toInt → zTok (f1 ((x1 : Int32)).toNatClampNeg).toInt → x1.toInt < (u2_ 0).toInt) ∧ (zAt f1 x1.toInt (u2_ 0).toInt) := ⟨(by first | with_reducible assumption | exact ⟨by omega, by omega⟩), by omega, by omega, by omega, by first | (intro _; omega) | exact fun _ => hnt, by first | (intro _ _; omega) | exact fun _ => zrun hnt (by omega), by exact hI2_2⟩
      have hP9 : va_P (dC, dI) vwCl [(h0, .inr (13, mX13 q0 v0)), ((q0 0), zi k1 600 f1)] H := hP
      have hD9 : va_D A [(h0, .inr (13, mX13 q0 v0)), ((q0 0), zi k1 600 f1)] := hD
      exact W.iret (v := (u2_ 0)) hx hb hr (fun t ht hW => ⟨⟨(u2_ 0), (fun _ => 0), rfl, hpost, (fun _ => 0), (fun _ => (fun _ => 0)), (fun _ => (fun _ => 0)), by rw [ht]; exact hP9, va_K.moved hW.alike hK, hD9⟩, hS.F ht⟩) hS.2.2 dX13_runEnd_26
    · skip
      have b_ := zF_ge rfl rfl c_
      refine lv_aload_n hx hb dX13_runEnd_7 rfl (lv_at hl 0 rfl) ?_
      refine va_get (D := (dC, dI)) (ci := 13) (v := .ref (q0 0)) (C := RX13) (T := TX13) (N := 75) hx hb hG zuX13 hown hK hP 0 rfl rfl 0 (by decide) (hG _ zv1604) (fun _ h9 => h9) rfl dX13_runEnd_8 ?_
      refine lv_iload_n hx hb dX13_runEnd_11 rfl (lv_at hl 3 rfl) ?_
      refine va_bald hx hb hK hP 1 0 rfl rfl (zin_lit ⟨by omega, by omega⟩) dX13_runEnd_12 ?_
      refine lv_topi (fun z12 e_z12 => ?_)
      have hPc := hP.sub (ws' := []) [] rfl
      have hDc := hD.sub (ws' := []) [] (by decide) rfl
      have hKc := hK.sub (tys' := []) [] rfl
      have hFc := va_free (wc := []) hD hS hA [] rfl
      refine va_calli (va_runS (As := [.int z12]) (rest := []) ⟨hx, hb, hml, hown, hG⟩ (sX13_isToken_0 l dC dI adK adV H.size z12) (va_cwS 1 hG (zgS zv1850 zv1851 zv142 zv1852) rfl rfl rfl (by decide +kernel) ⟨Nat.le_of_ble_eq_true rfl, Nat.le_of_ble_eq_true rfl⟩) ⟨zPc_blind, zPc_pre hPc hKc hDc hE hS hFc hZ⟩ rfl rfl hl.1 rfl (lv_room (Nat.le_of_ble_eq_true rfl)) dX13_runEnd_13 ⟨Nat.le_of_ble_eq_true rfl, Nat.le_of_ble_eq_true rfl⟩) hS (fun q _ h => hFc q h) hFc (fun r13_ u13_ t H1 locs ht hvm hw hB hz1 hk1 hS => ?_)
      replace hw : (0 ≤ r13_.toInt ∧ r13_.toInt ≤ 1) ∧ (r13_.toInt = 1 → zTok z12.toInt) ∧ (r13_.toInt = 0 → ¬ zTok z12.toInt) := hw
      obtain ⟨b_, hX13_0, hX13_1⟩ := hw
      obtain ⟨w13_, a13_, b13_, hP1, hK1, hD1⟩ := hB
      rw [ht] at hP1
      obtain ⟨hP, hD⟩ := va_join (wr := [(h0, .inr (13, mX13 q0 v0)), ((q0 0), zi k1 600 f1)]) (w1 := []) hP hD [] [0, 1] rfl rfl (by decide) (by decide) hk1 hFc hP1 hD1
      have hP : va_P (dC, dI) vwCl [(h0, .inr (13, mX13 q0 v0)), ((q0 0), zi k1 600 f1)] H1 := hP.sub [0, 1] rfl
      have hD : va_D A [(h0, .inr (13, mX13 q0 v0)), ((q0 0), zi k1 600 f1)] := hD.sub [0, 1] (by decide) rfl
      generalize H1 = H at hP hS ⊢
      clear hz1
      refine lv_if_eq (tgt := 25) hx hb dX13_runEnd_16 (by decide) (fun c_ => ?_) (fun c_ => ?_)
      · skip
        have b_ := zT_eq rfl zk_0 c_
        have hnt : ¬ zTok (f1 ((u2_ 0) : Int32).toNatClampNeg).toInt := by rw [← e_z12]; exact hX13_1 (by omega)
        refine lv_iload_n hx hb dX13_runEnd_25 rfl (lv_at hl 3 rfl) ?_
        refine W.widen (k := 0) (n := 0) (by decide) (by decide) ?_
        have hpost : (0 ≤ (u2_ 0).toInt ∧ (u2_ 0).toInt ≤ 600) ∧ (x1.toInt ≤ (u2_ 0).toInt) ∧ ((u2_ 0).toInt ≤ x2.toInt ∨ (u2_ 0).toInt = x1.toInt) ∧ ((u2_ 0).toInt ≤ 600) ∧ ((u2_ 0).toInt < x2.toInt → ¬ zTok (f1 (((u2_ 0) : Int32)).toNatClampNeg).toInt) ∧ (x1.toInt < x2.toInt → zTok (f1 ((x1 : Int32)).toNatClampNeg).toInt → x1.toInt < (u2_ 0).toInt) ∧ (zAt f1 x1.toInt (u2_ 0).toInt) := ⟨(by first | with_reducible assumption | exact ⟨by omega, by omega⟩), by omega, by omega, by omega, by first | (intro _; omega) | exact fun _ => hnt, by first | (intro _ _; omega) | exact fun _ => zrun hnt (by omega), by exact hI2_2⟩
        have hP9 : va_P (dC, dI) vwCl [(h0, .inr (13, mX13 q0 v0)), ((q0 0), zi k1 600 f1)] H := hP
        have hD9 : va_D A [(h0, .inr (13, mX13 q0 v0)), ((q0 0), zi k1 600 f1)] := hD
        exact W.iret (v := (u2_ 0)) hx hb hr (fun t ht hW => ⟨⟨(u2_ 0), (fun _ => 0), rfl, hpost, (fun _ => 0), (fun _ => (fun _ => 0)), (fun _ => (fun _ => 0)), by rw [ht]; exact hP9, va_K.moved hW.alike hK, hD9⟩, hS.F ht⟩) hS.2.2 dX13_runEnd_26
      · skip
        have b_ := zF_eq rfl zk_0 c_
        obtain ⟨z19, e_z19⟩ : ∃ z : Int32, z = (u2_ 0) + Int32.ofInt 1 := ⟨_, rfl⟩
        have b_ := zadd (x := (u2_ 0)) (y := Int32.ofInt 1) rfl (show (Int32.ofInt 1).toInt = 1 from by decide) e_z19 (by omega) (by omega)
        refine lv_iinc (v := z19) (lv' := [(3, .int z19), (0, .ref h0), (1, .int x1), (2, .int x2)]) hx hb dX13_runEnd_19 hl (k := 3) rfl e_z19.symm (by decide) rfl (fun ls hl => ?_)
        refine lv_goto (tgt := 2) hx hb dX13_runEnd_22 (by decide) ?_
        have hc : va_P (dC, dI) vwCl [(h0, .inr (13, mX13 q0 v0)), ((q0 0), zi k1 600 f1)] H ∧ va_D A [(h0, .inr (13, mX13 q0 v0)), ((q0 0), zi k1 600 f1)] ∧ va_S A s.heap H locs ∧ lv_has ls 4 [(0, .ref h0), (1, .int x1), (2, .int x2), (3, .int z19)] ∧ (0 ≤ z19.toInt ∧ z19.toInt ≤ 600) ∧ (x1.toInt ≤ z19.toInt) ∧ (z19.toInt ≤ x2.toInt ∨ z19.toInt = x1.toInt) ∧ (zAt f1 x1.toInt z19.toInt) := ⟨hP, hD, hS, lv_sub hl [1, 2, 3, 0] rfl, (by first | with_reducible assumption | exact ⟨by omega, by omega⟩), by omega, by omega, by first | exact zAt_0 (by omega) | exact zAt_s (by assumption) e_z12 (hX13_0 (by omega)) (by omega) (by omega)⟩
        exact hJ2 H locs ls (fun i => ([z19] : List (Int32)).getD i 0) (fun _ => 0) (fun _ => (fun _ => 0)) (fun _ => (fun _ => 0)) hc (show (600 - z19.toInt).toNat < (600 - (u2_ 0).toInt).toNat from by omega)
  · skip
    have hc : va_P (dC, dI) vwCl [(h0, .inr (13, mX13 q0 v0)), ((q0 0), zi k1 600 f1)] s.heap ∧ va_D A [(h0, .inr (13, mX13 q0 v0)), ((q0 0), zi k1 600 f1)] ∧ va_S A s.heap s.heap [] ∧ lv_has ls 4 [(0, .ref h0), (1, .int x1), (2, .int x2), (3, .int x1)] ∧ (0 ≤ x1.toInt ∧ x1.toInt ≤ 600) ∧ (x1.toInt ≤ x1.toInt) ∧ (x1.toInt ≤ x2.toInt ∨ x1.toInt = x1.toInt) ∧ (zAt f1 x1.toInt x1.toInt) := ⟨hP, hD, hS, lv_sub hl [1, 2, 3, 0] rfl, (by first | with_reducible assumption | exact ⟨by omega, by omega⟩), by omega, by omega, by first | exact zAt_0 (by omega) | exact zAt_s (by assumption) e_z12 (hX13_0 (by omega)) (by omega) (by omega)⟩
    exact hJ2 s.heap [] ls (fun i => ([x1] : List (Int32)).getD i 0) (fun _ => 0) (fun _ => (fun _ => 0)) (fun _ => (fun _ => 0)) hc
set_option maxHeartbeats 8000000 in
set_option maxRecDepth 100000 in
theorem sX13_small_0 (l : Launch) (dC : Nat → ClassId) (dI : Nat → Nat → Nat) (adK adV : Nat → Nat) (sz : Nat) (x0 : Int32) : Met l yX13_small (zw yX13_small cX13_small 1 (some .int)) { frames := 1, cells := 0, slots := 0, locals := 20 } (zPc dC dI adK adV [.int x0] sz [] []) (va_Qi (fun (r : Int32) (u : Nat → Int32) => (r.toInt = zSml x0.toInt)) (fun (u : Nat → Int32) (t : State) => ∃ (ww : Nat → Int64) (aa : Nat → Nat → Int32) (bb : Nat → Nat → Int64), va_P (dC, dI) vwCl [] t.heap ∧ va_K (dC, dI) vwCl [] t ∧ va_D (va_A [] sz) []) (va_A [] sz)) 0 0 (va_A [] sz) := by
  refine Met.ofW (cc := cX13_small) (maxL := 1) (ret := (some .int)) (by decide) rfl ?_
  intro p e s m args below meth c s₁ B hml hv
  obtain ⟨rfl, hsz, hP, hK, hD0, hE, hZ⟩ := hv
  have hx := B.exec
  have hb := B.bytes
  have hr := B.returns
  have hG : ∀ w ∈ zG, w.before _ s = true := fun w h => atoms_spec (ws := (zw yX13_small cX13_small 1 (some .int))) B.pre w (List.mem_cons_of_mem _ h)
  have hown : s.vm.findClass RX13 = some m.cls := findClass_of_methodNamed B.named
  have hlocks := B.notSynchronized

  subst hsz
  have hD := hD0.self (sz := s.heap.size)
  generalize hAe : va_A [] s.heap.size = A at hD hZ ⊢
  have hA : ∀ q : Nat, s.heap.size ≤ q → A q := fun q h => by rw [← hAe]; exact Or.inr h
  have hS : va_S A s.heap s.heap [] := va_S.rf
  have hl := lv_entry ([.int x0]) (n := 1) (Nat.le_of_ble_eq_true rfl)
  rw [lg_entry_eq]
  generalize (lg_sl ([.int x0]) ++ List.replicate (1 - (lg_sl ([.int x0])).length) Slot.unset).toArray = ls at hl ⊢
  have hl : lv_has ls 1 [(0, .int x0)] := hl
  refine lv_iload_n hx hb dX13_small_0 rfl (lv_at hl 0 rfl) ?_
  have hPc := hP.sub (ws' := []) [] rfl
  have hDc := hD.sub (ws' := []) [] (by decide) rfl
  have hKc := hK.sub (tys' := []) [] rfl
  have hFc := va_free (wc := []) hD hS hA [] rfl
  refine va_calli (va_runS (As := [.int x0]) (rest := []) ⟨hx, hb, hml, hown, hG⟩ (sX13_isGreat_0 l dC dI adK adV s.heap.size x0) (va_cwS 1 hG (zgS zv1859 zv1860 zv142 zv1861) rfl rfl rfl (by decide +kernel) ⟨Nat.le_of_ble_eq_true rfl, Nat.le_of_ble_eq_true rfl⟩) ⟨zPc_blind, zPc_pre hPc hKc hDc hE hS hFc hZ⟩ rfl rfl hl.1 rfl (lv_room (Nat.le_of_ble_eq_true rfl)) dX13_small_1 ⟨Nat.le_of_ble_eq_true rfl, Nat.le_of_ble_eq_true rfl⟩) hS (fun q _ h => hFc q h) hFc (fun r1_ u1_ t H1 locs ht hvm hw hB hz1 hk1 hS => ?_)
  replace hw : (0 ≤ r1_.toInt ∧ r1_.toInt ≤ 1) ∧ (r1_.toInt = 1 → 65 ≤ x0.toInt ∧ x0.toInt ≤ 90) ∧ (r1_.toInt = 0 → x0.toInt < 65 ∨ 90 < x0.toInt) := hw
  obtain ⟨b_, hX1_0, hX1_1⟩ := hw
  obtain ⟨w1_, a1_, b1_, hP1, hK1, hD1⟩ := hB
  rw [ht] at hP1
  obtain ⟨hP, hD⟩ := va_join (wr := []) (w1 := []) hP hD [] [] rfl rfl (by decide) (by decide) hk1 hFc hP1 hD1
  have hP : va_P (dC, dI) vwCl [] H1 := hP.sub [] rfl
  have hD : va_D A [] := hD.sub [] (by decide) rfl
  generalize H1 = H at hP hS ⊢
  clear hz1
  refine lv_if_eq (tgt := 14) hx hb dX13_small_4 (by decide) (fun c_ => ?_) (fun c_ => ?_)
  · skip
    have b_ := zT_eq rfl zk_0 c_
    refine lv_iload_n hx hb dX13_small_14 rfl (lv_at hl 0 rfl) ?_
    refine W.widen (k := 0) (n := 0) (by decide) (by decide) ?_
    have b_ : -2147483648 ≤ x0.toInt ∧ x0.toInt ≤ 2147483647 := ⟨zlo _, zhi _⟩
    have hpost : (x0.toInt = zSml x0.toInt) := by first | exact zSml_y (by omega) (by omega) (by omega) | exact zSml_n (by omega)
    have hP9 : va_P (dC, dI) vwCl [] H := hP
    have hD9 : va_D A [] := hD
    exact W.iret (v := x0) hx hb hr (fun t ht hW => ⟨⟨x0, (fun _ => 0), rfl, hpost, (fun _ => 0), (fun _ => (fun _ => 0)), (fun _ => (fun _ => 0)), by rw [ht]; exact hP9, va_K.moved hW.alike hK, hD9⟩, hS.F ht⟩) hS.2.2 dX13_small_15
  · skip
    have b_ := zF_eq rfl zk_0 c_
    refine lv_iload_n hx hb dX13_small_7 rfl (lv_at hl 0 rfl) ?_
    refine lv_bipush (v := 32) hx hb dX13_small_8 (by decide) ?_
    have b_ : -2147483648 ≤ x0.toInt ∧ x0.toInt ≤ 2147483647 := ⟨zlo _, zhi _⟩
    refine lv_iadd hx hb dX13_small_10 ?_
    refine lv_topi (fun z10 e_z10 => ?_)
    have b_ : z10.toInt = x0.toInt + 32 := zadd rfl (by decide : (32 : Int32).toInt = 32) e_z10 (by omega) (by omega)
    refine lv_goto (tgt := 15) hx hb dX13_small_11 (by decide) ?_
    refine W.widen (k := 0) (n := 0) (by decide) (by decide) ?_
    have b_ : -2147483648 ≤ z10.toInt ∧ z10.toInt ≤ 2147483647 := ⟨zlo _, zhi _⟩
    have hpost : (z10.toInt = zSml x0.toInt) := by first | exact zSml_y (by omega) (by omega) (by omega) | exact zSml_n (by omega)
    have hP9 : va_P (dC, dI) vwCl [] H := hP
    have hD9 : va_D A [] := hD
    exact W.iret (v := z10) hx hb hr (fun t ht hW => ⟨⟨z10, (fun _ => 0), rfl, hpost, (fun _ => 0), (fun _ => (fun _ => 0)), (fun _ => (fun _ => 0)), by rw [ht]; exact hP9, va_K.moved hW.alike hK, hD9⟩, hS.F ht⟩) hS.2.2 dX13_small_15
theorem zv1874 : (.methodLink RX13 196 yX13_small : Cond) ∈ zG := zin8 66 (by decide +kernel) (by decide +kernel)
set_option maxHeartbeats 8000000 in
set_option maxRecDepth 100000 in
theorem sX13_takeBytes_0 (l : Launch) (dC : Nat → ClassId) (dI : Nat → Nat → Nat) (adK adV : Nat → Nat) (h0 : Nat) (q0 : Nat → Nat) (k1 : ClassId) (k15 : ClassId) (sz : Nat) (v0 : Nat → Int32) (f1 : Nat → Int32) (f15 : Nat → Int32) (x1 : Int32) (x2 : Int32) (hv0 : zR rg_Model v0) (hx1 : 0 ≤ x1.toInt ∧ x1.toInt ≤ 600) (hx2 : 0 ≤ x2.toInt ∧ x2.toInt ≤ 600) : Met l yX13_takeBytes (zw yX13_takeBytes cX13_takeBytes 4 none) { frames := 2, cells := 0, slots := 0, locals := 40 } (zPc dC dI adK adV [.ref h0, .int x1, .int x2] sz [(h0, .inr (13, mX13 q0 v0)), ((q0 0), zi k1 600 f1), ((q0 19), zi k15 12 f15)] [(k1, .byte), (k15, .byte)]) (va_Qv (fun (u : Nat → Int32) => (0 ≤ (u 0).toInt ∧ (u 0).toInt ≤ 12) ∧ (x1.toInt ≤ x2.toInt → ((u 0).toInt = 12 ∨ x1.toInt + (u 0).toInt = x2.toInt) ∧ x1.toInt + (u 0).toInt ≤ x2.toInt)) (fun (u : Nat → Int32) (t : State) => ∃ (ww : Nat → Int64) (aa : Nat → Nat → Int32) (bb : Nat → Nat → Int64), (zTkb f1 x1.toInt x2.toInt (aa 0) (u 0).toInt) ∧ va_P (dC, dI) vwCl [(h0, .inr (13, mX13 q0 (upd v0 20 (u 0)))), ((q0 0), zi k1 600 f1), ((q0 19), zi k15 12 (aa 0))] t.heap ∧ va_K (dC, dI) vwCl [(k1, .byte), (k15, .byte)] t ∧ va_D (va_A [(h0, .inr (13, mX13 q0 v0)), ((q0 0), zi k1 600 f1), ((q0 19), zi k15 12 f15)] sz) [(h0, .inr (13, mX13 q0 (upd v0 20 (u 0)))), ((q0 0), zi k1 600 f1), ((q0 19), zi k15 12 (aa 0))]) (va_A [(h0, .inr (13, mX13 q0 v0)), ((q0 0), zi k1 600 f1), ((q0 19), zi k15 12 f15)] sz)) 0 0 (va_A [(h0, .inr (13, mX13 q0 v0)), ((q0 0), zi k1 600 f1), ((q0 19), zi k15 12 f15)] sz) := by
  refine Met.ofW (cc := cX13_takeBytes) (maxL := 4) (ret := none) (by decide) rfl ?_
  intro p e s m args below meth c s₁ B hml hv
  obtain ⟨rfl, hsz, hP, hK, hD0, hE, hZ⟩ := hv
  have hx := B.exec
  have hb := B.bytes
  have hr := B.returns
  have hG : ∀ w ∈ zG, w.before _ s = true := fun w h => atoms_spec (ws := (zw yX13_takeBytes cX13_takeBytes 4 none)) B.pre w (List.mem_cons_of_mem _ h)
  have hown : s.vm.findClass RX13 = some m.cls := findClass_of_methodNamed B.named
  have hlocks := B.notSynchronized

  subst hsz
  have hD := hD0.self (sz := s.heap.size)
  generalize hAe : va_A [(h0, .inr (13, mX13 q0 v0)), ((q0 0), zi k1 600 f1), ((q0 19), zi k15 12 f15)] s.heap.size = A at hD hZ ⊢
  have hA : ∀ q : Nat, s.heap.size ≤ q → A q := fun q h => by rw [← hAe]; exact Or.inr h
  have hS : va_S A s.heap s.heap [] := va_S.rf
  have hl := lv_entry ([.ref h0, .int x1, .int x2]) (n := 4) (Nat.le_of_ble_eq_true rfl)
  rw [lg_entry_eq]
  generalize (lg_sl ([.ref h0, .int x1, .int x2]) ++ List.replicate (4 - (lg_sl ([.ref h0, .int x1, .int x2])).length) Slot.unset).toArray = ls at hl ⊢
  have hl : lv_has ls 4 [(0, .ref h0), (1, .int x1), (2, .int x2)] := hl
  have b_ := zk_0
  have b_ : 0 ≤ (v0 20).toInt ∧ (v0 20).toInt ≤ 12 := hv0 20
  refine lv_aload_n hx hb dX13_takeBytes_0 rfl (lv_at hl 0 rfl) ?_
  refine lv_iconst (v := 0) hx hb dX13_takeBytes_1 (by decide) ?_
  refine va_put (D := (dC, dI)) (ci := 13) (v := .int 0) (ty := .int) (C := RX13) (T := TX13) (N := 75) hx hb hG zuX13 tyX13 tyX13_ok nmX13 hown hK hP hD hS 0 rfl rfl 20 (by decide) (hG _ zv1624) (fun _ h9 => h9) rfl (by decide +kernel) rfl rfl (Nat.le_of_ble_eq_true rfl) dX13_takeBytes_2 (fun H locs hP hD hS => ?_)
  have hP : va_P (dC, dI) vwCl [(h0, .inr (13, mX13 q0 (upd v0 20 0))), ((q0 0), zi k1 600 f1), ((q0 19), zi k15 12 f15)] H := hP
  have hD : va_D A [(h0, .inr (13, mX13 q0 (upd v0 20 0))), ((q0 0), zi k1 600 f1), ((q0 19), zi k15 12 f15)] := hD
  refine lv_iload_n hx hb dX13_takeBytes_5 rfl (lv_at hl 1 rfl) ?_
  refine lv_istore_n (lv' := [(3, .int x1), (0, .ref h0), (1, .int x1), (2, .int x2)]) hx hb dX13_takeBytes_6 rfl hl (by decide) rfl (fun ls hl => ?_)
  refine zcutL (fun u7_ => (600 - (u7_ 0).toInt).toNat) (fun H locs ls u7_ w7_ a7_ b7_ => va_P (dC, dI) vwCl [(h0, .inr (13, mX13 q0 (upd v0 20 (u7_ 1)))), ((q0 0), zi k1 600 f1), ((q0 19), zi k15 12 (a7_ 0))] H ∧ va_D A [(h0, .inr (13, mX13 q0 (upd v0 20 (u7_ 1)))), ((q0 0), zi k1 600 f1), ((q0 19), zi k15 12 (a7_ 0))] ∧ va_S A s.heap H locs ∧ lv_has ls 4 [(0, .ref h0), (1, .int x1), (2, .int x2), (3, .int (u7_ 0))] ∧ (0 ≤ (u7_ 0).toInt ∧ (u7_ 0).toInt ≤ 600) ∧ (0 ≤ (u7_ 1).toInt ∧ (u7_ 1).toInt ≤ 12) ∧ ((u7_ 0).toInt = x1.toInt + (u7_ 1).toInt) ∧ ((u7_ 0).toInt ≤ x2.toInt ∨ (u7_ 0).toInt = x1.toInt) ∧ (zTkb f1 x1.toInt x2.toInt (a7_ 0) (u7_ 1).toInt)) (fun ls u7_ w7_ => F0 m 7 ls []) 0 0 ?_ (fun hJ7 => ?_)
  · skip
    intro H locs ls u7_ w7_ a7_ b7_ hc hJ7
    obtain ⟨hP, hD, hS, hl, b_, b_, b_, b_, hI7_2⟩ := hc
    refine lv_iload_n hx hb dX13_takeBytes_7 rfl (lv_at hl 3 rfl) ?_
    refine lv_iload_n hx hb dX13_takeBytes_8 rfl (lv_at hl 2 rfl) ?_
    refine lv_icmp_ge (tgt := 56) hx hb dX13_takeBytes_9 (by decide) (fun c_ => ?_) (fun c_ => ?_)
    · skip
      have b_ := zT_ge rfl rfl c_
      refine W.widen (k := 0) (n := 0) (by decide) (by decide) ?_
      have hpost : (0 ≤ (u7_ 1).toInt ∧ (u7_ 1).toInt ≤ 12) ∧ (x1.toInt ≤ x2.toInt → ((u7_ 1).toInt = 12 ∨ x1.toInt + (u7_ 1).toInt = x2.toInt) ∧ x1.toInt + (u7_ 1).toInt ≤ x2.toInt) := ⟨(by first | with_reducible assumption | exact ⟨by omega, by omega⟩), by omega⟩
      have hP9 : va_P (dC, dI) vwCl [(h0, .inr (13, mX13 q0 (upd v0 20 (u7_ 1)))), ((q0 0), zi k1 600 f1), ((q0 19), zi k15 12 (a7_ 0))] H := hP
      have hD9 : va_D A [(h0, .inr (13, mX13 q0 (upd v0 20 (u7_ 1)))), ((q0 0), zi k1 600 f1), ((q0 19), zi k15 12 (a7_ 0))] := hD
      have hB0 : zTkb f1 x1.toInt x2.toInt (a7_ 0) (u7_ 1).toInt := by assumption
      exact W.vret hx hb hr (fun t ht hW => ⟨⟨(fun i => ([(u7_ 1)] : List (Int32)).getD i 0), rfl, hpost, (fun _ => 0), (fun i => ([(a7_ 0)] : List (Nat → Int32)).getD i (fun _ => 0)), (fun _ => (fun _ => 0)), hB0, by rw [ht]; exact hP9, va_K.moved hW.alike hK, hD9⟩, hS.F ht⟩) hS.2.2 dX13_takeBytes_56
    · skip
      have b_ := zF_ge rfl rfl c_
      refine lv_aload_n hx hb dX13_takeBytes_12 rfl (lv_at hl 0 rfl) ?_
      refine va_get (D := (dC, dI)) (ci := 13) (v := .int (u7_ 1)) (C := RX13) (T := TX13) (N := 75) hx hb hG zuX13 hown hK hP 0 rfl rfl 20 (by decide) (hG _ zv1624) (fun _ h9 => h9) rfl dX13_takeBytes_13 ?_
      refine lv_bipush (v := 12) hx hb dX13_takeBytes_16 (by decide) ?_
      refine lv_icmp_ge (tgt := 56) hx hb dX13_takeBytes_18 (by decide) (fun c_ => ?_) (fun c_ => ?_)
      · skip
        have b_ := zT_ge rfl zk_12 c_
        refine W.widen (k := 0) (n := 0) (by decide) (by decide) ?_
        have hpost : (0 ≤ (u7_ 1).toInt ∧ (u7_ 1).toInt ≤ 12) ∧ (x1.toInt ≤ x2.toInt → ((u7_ 1).toInt = 12 ∨ x1.toInt + (u7_ 1).toInt = x2.toInt) ∧ x1.toInt + (u7_ 1).toInt ≤ x2.toInt) := ⟨(by first | with_reducible assumption | exact ⟨by omega, by omega⟩), by omega⟩
        have hP9 : va_P (dC, dI) vwCl [(h0, .inr (13, mX13 q0 (upd v0 20 (u7_ 1)))), ((q0 0), zi k1 600 f1), ((q0 19), zi k15 12 (a7_ 0))] H := hP
        have hD9 : va_D A [(h0, .inr (13, mX13 q0 (upd v0 20 (u7_ 1)))), ((q0 0), zi k1 600 f1), ((q0 19), zi k15 12 (a7_ 0))] := hD
        have hB0 : zTkb f1 x1.toInt x2.toInt (a7_ 0) (u7_ 1).toInt := by assumption
        exact W.vret hx hb hr (fun t ht hW => ⟨⟨(fun i => ([(u7_ 1)] : List (Int32)).getD i 0), rfl, hpost, (fun _ => 0), (fun i => ([(a7_ 0)] : List (Nat → Int32)).getD i (fun _ => 0)), (fun _ => (fun _ => 0)), hB0, by rw [ht]; exact hP9, va_K.moved hW.alike hK, hD9⟩, hS.F ht⟩) hS.2.2 dX13_takeBytes_56
      · skip
        have b_ := zF_ge rfl zk_12 c_
        refine lv_aload_n hx hb dX13_takeBytes_21 rfl (lv_at hl 0 rfl) ?_
        refine va_get (D := (dC, dI)) (ci := 13) (v := .ref (q0 19)) (C := RX13) (T := TX13) (N := 75) hx hb hG zuX13 hown hK hP 0 rfl rfl 19 (by decide) (hG _ zv1623) (fun _ h9 => h9) rfl dX13_takeBytes_22 ?_
        refine lv_aload_n hx hb dX13_takeBytes_25 rfl (lv_at hl 0 rfl) ?_
        refine va_get (D := (dC, dI)) (ci := 13) (v := .int (u7_ 1)) (C := RX13) (T := TX13) (N := 75) hx hb hG zuX13 hown hK hP 0 rfl rfl 20 (by decide) (hG _ zv1624) (fun _ h9 => h9) rfl dX13_takeBytes_26 ?_
        refine lv_aload_n hx hb dX13_takeBytes_29 rfl (lv_at hl 0 rfl) ?_
        refine va_get (D := (dC, dI)) (ci := 13) (v := .ref (q0 0)) (C := RX13) (T := TX13) (N := 75) hx hb hG zuX13 hown hK hP 0 rfl rfl 0 (by decide) (hG _ zv1604) (fun _ h9 => h9) rfl dX13_takeBytes_30 ?_
        refine lv_iload_n hx hb dX13_takeBytes_33 rfl (lv_at hl 3 rfl) ?_
        refine va_bald hx hb hK hP 1 0 rfl rfl (zin_lit ⟨by omega, by omega⟩) dX13_takeBytes_34 ?_
        refine lv_topi (fun z34 e_z34 => ?_)
        have hPc := hP.sub (ws' := []) [] rfl
        have hDc := hD.sub (ws' := []) [] (by decide) rfl
        have hKc := hK.sub (tys' := []) [] rfl
        have hFc := va_free (wc := []) hD hS hA [] rfl
        refine va_calli (va_runS (As := [.int z34]) (rest := [.int (u7_ 1), .ref (q0 19)]) ⟨hx, hb, hml, hown, hG⟩ (sX13_small_0 l dC dI adK adV H.size z34) (va_cwS 1 hG (zgS zv1874 zv1875 zv142 zv1876) rfl rfl rfl (by decide +kernel) ⟨Nat.le_of_ble_eq_true rfl, Nat.le_of_ble_eq_true rfl⟩) ⟨zPc_blind, zPc_pre hPc hKc hDc hE hS hFc hZ⟩ rfl rfl hl.1 rfl (lv_room (Nat.le_of_ble_eq_true rfl)) dX13_takeBytes_35 ⟨Nat.le_of_ble_eq_true rfl, Nat.le_of_ble_eq_true rfl⟩) hS (fun q _ h => hFc q h) hFc (fun r35_ u35_ t H1 locs ht hvm hw hB hz1 hk1 hS => ?_)
        replace hw : (r35_.toInt = zSml z34.toInt) := hw
        have hX35_0 := hw
        obtain ⟨w35_, a35_, b35_, hP1, hK1, hD1⟩ := hB
        rw [ht] at hP1
        obtain ⟨hP, hD⟩ := va_join (wr := [(h0, .inr (13, mX13 q0 (upd v0 20 (u7_ 1)))), ((q0 0), zi k1 600 f1), ((q0 19), zi k15 12 (a7_ 0))]) (w1 := []) hP hD [] [0, 1, 2] rfl rfl (by decide) (by decide) hk1 hFc hP1 hD1
        have hP : va_P (dC, dI) vwCl [(h0, .inr (13, mX13 q0 (upd v0 20 (u7_ 1)))), ((q0 0), zi k1 600 f1), ((q0 19), zi k15 12 (a7_ 0))] H1 := hP.sub [0, 1, 2] rfl
        have hD : va_D A [(h0, .inr (13, mX13 q0 (upd v0 20 (u7_ 1)))), ((q0 0), zi k1 600 f1), ((q0 19), zi k15 12 (a7_ 0))] := hD.sub [0, 1, 2] (by decide) rfl
        generalize H1 = H at hP hS ⊢
        clear hz1
        have b_ : -2147483648 ≤ r35_.toInt ∧ r35_.toInt ≤ 2147483647 := ⟨zlo _, zhi _⟩
        refine lv_i2b hx hb dX13_takeBytes_38 rfl ?_
        refine lv_topi (fun z38 e_z38 => ?_)
        have b_ := zi2bB (x := r35_) e_z38
        refine va_bast hx hb hK hP hD hS 2 1 rfl rfl (zin_lit ⟨by omega, by omega⟩) dX13_takeBytes_39 (fun H locs hP hD hS => ?_)
        obtain ⟨f_39, e_f_39⟩ : ∃ z : Nat → Int32, z = upd (a7_ 0) ((u7_ 1) : Int32).toNatClampNeg (vp_nar .byte z38) := ⟨_, rfl⟩
        have hP : va_P (dC, dI) vwCl [(h0, .inr (13, mX13 q0 (upd v0 20 (u7_ 1)))), ((q0 0), zi k1 600 f1), ((q0 19), zi k15 12 f_39)] H := by rw [e_f_39]; exact hP
        have hD : va_D A [(h0, .inr (13, mX13 q0 (upd v0 20 (u7_ 1)))), ((q0 0), zi k1 600 f1), ((q0 19), zi k15 12 f_39)] := by rw [e_f_39]; exact hD
        refine lv_aload_n hx hb dX13_takeBytes_40 rfl (lv_at hl 0 rfl) ?_
        refine lv_dup hx hb dX13_takeBytes_41 rfl ?_
        refine va_get (D := (dC, dI)) (ci := 13) (v := .int (u7_ 1)) (C := RX13) (T := TX13) (N := 75) hx hb hG zuX13 hown hK hP 0 rfl rfl 20 (by decide) (hG _ zv1624) (fun _ h9 => h9) rfl dX13_takeBytes_42 ?_
        refine lv_iconst (v := 1) hx hb dX13_takeBytes_45 (by decide) ?_
        refine lv_iadd hx hb dX13_takeBytes_46 ?_
        refine lv_topi (fun z46 e_z46 => ?_)
        have b_ := zadd rfl zk_1 e_z46 (by omega) (by omega)
        refine va_put (D := (dC, dI)) (ci := 13) (v := .int z46) (ty := .int) (C := RX13) (T := TX13) (N := 75) hx hb hG zuX13 tyX13 tyX13_ok nmX13 hown hK hP hD hS 0 rfl rfl 20 (by decide) (hG _ zv1624) (fun _ h9 => h9) rfl (by decide +kernel) rfl rfl (Nat.le_of_ble_eq_true rfl) dX13_takeBytes_47 (fun H locs hP hD hS => ?_)
        have hP : va_P (dC, dI) vwCl [(h0, .inr (13, mX13 q0 (upd v0 20 z46))), ((q0 0), zi k1 600 f1), ((q0 19), zi k15 12 f_39)] H := hP
        have hD : va_D A [(h0, .inr (13, mX13 q0 (upd v0 20 z46))), ((q0 0), zi k1 600 f1), ((q0 19), zi k15 12 f_39)] := hD
        obtain ⟨z50, e_z50⟩ : ∃ z : Int32, z = (u7_ 0) + Int32.ofInt 1 := ⟨_, rfl⟩
        have b_ := zadd (x := (u7_ 0)) (y := Int32.ofInt 1) rfl (show (Int32.ofInt 1).toInt = 1 from by decide) e_z50 (by omega) (by omega)
        refine lv_iinc (v := z50) (lv' := [(3, .int z50), (0, .ref h0), (1, .int x1), (2, .int x2)]) hx hb dX13_takeBytes_50 hl (k := 3) rfl e_z50.symm (by decide) rfl (fun ls hl => ?_)
        refine lv_goto (tgt := 7) hx hb dX13_takeBytes_53 (by decide) ?_
        have hc : va_P (dC, dI) vwCl [(h0, .inr (13, mX13 q0 (upd v0 20 z46))), ((q0 0), zi k1 600 f1), ((q0 19), zi k15 12 f_39)] H ∧ va_D A [(h0, .inr (13, mX13 q0 (upd v0 20 z46))), ((q0 0), zi k1 600 f1), ((q0 19), zi k15 12 f_39)] ∧ va_S A s.heap H locs ∧ lv_has ls 4 [(0, .ref h0), (1, .int x1), (2, .int x2), (3, .int z50)] ∧ (0 ≤ z50.toInt ∧ z50.toInt ≤ 600) ∧ (0 ≤ z46.toInt ∧ z46.toInt ≤ 12) ∧ (z50.toInt = x1.toInt + z46.toInt) ∧ (z50.toInt ≤ x2.toInt ∨ z50.toInt = x1.toInt) ∧ (zTkb f1 x1.toInt x2.toInt f_39 z46.toInt) := ⟨hP, hD, hS, lv_sub hl [1, 2, 3, 0] rfl, (by first | with_reducible assumption | exact ⟨by omega, by omega⟩), (by first | with_reducible assumption | exact ⟨by omega, by omega⟩), by omega, by omega, by first | exact zTkb_0 (by omega) | (rw [e_f_39]; exact zTkb_s (by assumption) e_z34 hX35_0 e_z38 (zclamp (by omega)) (by omega) (by omega) (by omega) (by omega) (by omega))⟩
        exact hJ7 H locs ls (fun i => ([z50, z46] : List (Int32)).getD i 0) (fun _ => 0) (fun i => ([f_39] : List (Nat → Int32)).getD i (fun _ => 0)) (fun _ => (fun _ => 0)) hc (show (600 - z50.toInt).toNat < (600 - (u7_ 0).toInt).toNat from by omega)
  · skip
    have hc : va_P (dC, dI) vwCl [(h0, .inr (13, mX13 q0 (upd v0 20 0))), ((q0 0), zi k1 600 f1), ((q0 19), zi k15 12 f15)] H ∧ va_D A [(h0, .inr (13, mX13 q0 (upd v0 20 0))), ((q0 0), zi k1 600 f1), ((q0 19), zi k15 12 f15)] ∧ va_S A s.heap H locs ∧ lv_has ls 4 [(0, .ref h0), (1, .int x1), (2, .int x2), (3, .int x1)] ∧ (0 ≤ x1.toInt ∧ x1.toInt ≤ 600) ∧ (0 ≤ (0 : Int32).toInt ∧ (0 : Int32).toInt ≤ 12) ∧ (x1.toInt = x1.toInt + (0 : Int32).toInt) ∧ (x1.toInt ≤ x2.toInt ∨ x1.toInt = x1.toInt) ∧ (zTkb f1 x1.toInt x2.toInt f15 (0 : Int32).toInt) := ⟨hP, hD, hS, lv_sub hl [1, 2, 3, 0] rfl, (by first | with_reducible assumption | exact ⟨by omega, by omega⟩), (by first | with_reducible assumption | exact ⟨by omega, by omega⟩), by omega, by omega, by first | exact zTkb_0 (by omega) | (rw [e_f_39]; exact zTkb_s (by assumption) e_z34 hX35_0 e_z38 (zclamp (by omega)) (by omega) (by omega) (by omega) (by omega) (by omega))⟩
    exact hJ7 H locs ls (fun i => ([x1, 0] : List (Int32)).getD i 0) (fun _ => 0) (fun i => ([f15] : List (Nat → Int32)).getD i (fun _ => 0)) (fun _ => (fun _ => 0)) hc
