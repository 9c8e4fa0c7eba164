set_option maxHeartbeats 8000000 in
set_option maxRecDepth 100000 in
theorem sX13_distance_0 (l : Launch) (dC : Nat → ClassId) (dI : Nat → Nat → Nat) (adK adV : Nat → Nat) (h0 : Nat) (q0 : Nat → Nat) (k3 : ClassId) (k47 : ClassId) (k15 : ClassId) (k2 : ClassId) (sz : Nat) (v0 : Nat → Int32) (f3 : Nat → Int32) (f47 : Nat → Int32) (f15 : Nat → Int32) (f2 : Nat → Int32) (x1 : Int32) (hv0 : zR rg_Model v0) (hf3 : zA 0 12 f3) (hx1 : 0 ≤ x1.toInt ∧ x1.toInt ≤ 399) : Met l yX13_distance (zw yX13_distance cX13_distance 6 (some .int)) { frames := 1, cells := 0, slots := 0, locals := 40 } (zPc dC dI adK adV [.ref h0, .int x1] sz [(h0, .inr (13, mX13 q0 v0)), ((q0 3), zi k3 400 f3), ((q0 72), zi k47 13 f47), ((q0 19), zi k15 12 f15), ((q0 2), zi k2 4800 f2)] [(k3, .int), (k47, .int), (k15, .byte), (k2, .byte)]) (va_Qi (fun (r : Int32) (u : Nat → Int32) => (0 ≤ r.toInt) ∧ (r.toInt = zxq f15 (v0 20).toInt f2 f3 (x1.toInt).toNat)) (fun (u : Nat → Int32) (t : State) => ∃ (ww : Nat → Int64) (aa : Nat → Nat → Int32) (bb : Nat → Nat → Int64), va_P (dC, dI) vwCl [(h0, .inr (13, mX13 q0 v0)), ((q0 3), zi k3 400 f3), ((q0 72), zi k47 13 (aa 0)), ((q0 19), zi k15 12 f15), ((q0 2), zi k2 4800 f2)] t.heap ∧ va_K (dC, dI) vwCl [(k3, .int), (k47, .int), (k15, .byte), (k2, .byte)] t ∧ va_D (va_A [(h0, .inr (13, mX13 q0 v0)), ((q0 3), zi k3 400 f3), ((q0 72), zi k47 13 f47), ((q0 19), zi k15 12 f15), ((q0 2), zi k2 4800 f2)] sz) [(h0, .inr (13, mX13 q0 v0)), ((q0 3), zi k3 400 f3), ((q0 72), zi k47 13 (aa 0)), ((q0 19), zi k15 12 f15), ((q0 2), zi k2 4800 f2)]) (va_A [(h0, .inr (13, mX13 q0 v0)), ((q0 3), zi k3 400 f3), ((q0 72), zi k47 13 f47), ((q0 19), zi k15 12 f15), ((q0 2), zi k2 4800 f2)] sz)) 0 0 (va_A [(h0, .inr (13, mX13 q0 v0)), ((q0 3), zi k3 400 f3), ((q0 72), zi k47 13 f47), ((q0 19), zi k15 12 f15), ((q0 2), zi k2 4800 f2)] sz) := by
  refine Met.ofW (cc := cX13_distance) (maxL := 6) (ret := (some .int)) (by decide) rfl ?_
  intro p e s m args below meth c s₁ B hml hv
  obtain ⟨rfl, hsz, hP, hK, hD0, hE, hZ⟩ := hv
  have hx := B.exec
  have hb := B.bytes
  have hr := B.returns
  have hG : ∀ w ∈ zG, w.before _ s = true := fun w h => atoms_spec (ws := (zw yX13_distance cX13_distance 6 (some .int))) B.pre w (List.mem_cons_of_mem _ h)
  have hown : s.vm.findClass RX13 = some m.cls := findClass_of_methodNamed B.named
  have hlocks := B.notSynchronized

  subst hsz
  have hD := hD0.self (sz := s.heap.size)
  generalize hAe : va_A [(h0, .inr (13, mX13 q0 v0)), ((q0 3), zi k3 400 f3), ((q0 72), zi k47 13 f47), ((q0 19), zi k15 12 f15), ((q0 2), zi k2 4800 f2)] s.heap.size = A at hD hZ ⊢
  have hA : ∀ q : Nat, s.heap.size ≤ q → A q := fun q h => by rw [← hAe]; exact Or.inr h
  have hS : va_S A s.heap s.heap [] := va_S.rf
  have hl := lv_entry ([.ref h0, .int x1]) (n := 6) (Nat.le_of_ble_eq_true rfl)
  rw [lg_entry_eq]
  generalize (lg_sl ([.ref h0, .int x1]) ++ List.replicate (6 - (lg_sl ([.ref h0, .int x1])).length) Slot.unset).toArray = ls at hl ⊢
  have hl : lv_has ls 6 [(0, .ref h0), (1, .int x1)] := hl
  have b_ := zk_0
  have b_ := zk_1
  have b_ : 0 ≤ (v0 20).toInt ∧ (v0 20).toInt ≤ 12 := hv0 20
  refine lv_iconst (v := 0) hx hb dX13_distance_0 (by decide) ?_
  refine lv_istore_n (lv' := [(2, .int 0), (0, .ref h0), (1, .int x1)]) hx hb dX13_distance_1 rfl hl (by decide) rfl (fun ls hl => ?_)
  refine zcutL (fun u2_ => (13 - (u2_ 0).toInt).toNat) (fun H locs ls u2_ w2_ a2_ b2_ => va_P (dC, dI) vwCl [(h0, .inr (13, mX13 q0 v0)), ((q0 3), zi k3 400 f3), ((q0 72), zi k47 13 (a2_ 0)), ((q0 19), zi k15 12 f15), ((q0 2), zi k2 4800 f2)] H ∧ va_D A [(h0, .inr (13, mX13 q0 v0)), ((q0 3), zi k3 400 f3), ((q0 72), zi k47 13 (a2_ 0)), ((q0 19), zi k15 12 f15), ((q0 2), zi k2 4800 f2)] ∧ va_S A s.heap H locs ∧ lv_has ls 6 [(0, .ref h0), (1, .int x1), (2, .int (u2_ 0))] ∧ (0 ≤ (u2_ 0).toInt ∧ (u2_ 0).toInt ≤ 13) ∧ (zxJ (a2_ 0) (u2_ 0).toInt)) (fun ls u2_ w2_ => F0 m 2 ls []) 0 0 ?_ (fun hJ2 => ?_)
  · skip
    intro H locs ls u2_ w2_ a2_ b2_ hc hJ2
    obtain ⟨hP, hD, hS, hl, b_, hI2_0⟩ := hc
    refine lv_iload_n hx hb dX13_distance_2 rfl (lv_at hl 2 rfl) ?_
    refine lv_aload_n hx hb dX13_distance_3 rfl (lv_at hl 0 rfl) ?_
    refine va_get (D := (dC, dI)) (ci := 13) (v := .ref (q0 3)) (C := RX13) (T := TX13) (N := 75) hx hb hG zuX13 hown hK hP 0 rfl rfl 3 (by decide) (hG _ zv1607) (fun _ h9 => h9) rfl dX13_distance_4 ?_
    refine lv_iload_n hx hb dX13_distance_7 rfl (lv_at hl 1 rfl) ?_
    refine va_iald hx hb hK hP 1 0 rfl rfl (zin_lit ⟨by omega, by omega⟩) dX13_distance_8 ?_
    refine lv_topi (fun z8 e_z8 => ?_)
    have b_ : 0 ≤ z8.toInt ∧ z8.toInt ≤ 12 := by rw [e_z8]; exact hf3 _
    refine lv_icmp_gt (tgt := 25) hx hb dX13_distance_9 (by decide) (fun c_ => ?_) (fun c_ => ?_)
    · skip
      have b_ := zT_gt rfl rfl c_
      refine lv_iconst (v := 1) hx hb dX13_distance_25 (by decide) ?_
      refine lv_istore_n (lv' := [(2, .int 1), (0, .ref h0), (1, .int x1)]) hx hb dX13_distance_26 rfl hl (by decide) rfl (fun ls hl => ?_)
      refine zcutL (fun u27_ => (13 - (u27_ 0).toInt).toNat) (fun H locs ls u27_ w27_ a27_ b27_ => va_P (dC, dI) vwCl [(h0, .inr (13, mX13 q0 v0)), ((q0 3), zi k3 400 f3), ((q0 72), zi k47 13 (a27_ 0)), ((q0 19), zi k15 12 f15), ((q0 2), zi k2 4800 f2)] H ∧ va_D A [(h0, .inr (13, mX13 q0 v0)), ((q0 3), zi k3 400 f3), ((q0 72), zi k47 13 (a27_ 0)), ((q0 19), zi k15 12 f15), ((q0 2), zi k2 4800 f2)] ∧ va_S A s.heap H locs ∧ lv_has ls 6 [(0, .ref h0), (1, .int x1), (2, .int (u27_ 0))] ∧ (1 ≤ (u27_ 0).toInt ∧ (u27_ 0).toInt ≤ 13) ∧ (zxC (fun k => (f15 k).toInt) (fun k => (f2 (12 * (x1.toInt).toNat + k)).toInt) ((u27_ 0).toInt - 1) (f3 ((x1 : Int32)).toNatClampNeg).toInt (a27_ 0)) ∧ ((u27_ 0).toInt ≤ (v0 20).toInt + 1)) (fun ls u27_ w27_ => F0 m 27 ls []) 0 0 ?_ (fun hJ27 => ?_)
      · skip
        intro H locs ls u27_ w27_ a27_ b27_ hc hJ27
        obtain ⟨hP, hD, hS, hl, b_, hI27_0, b_⟩ := hc
        refine lv_iload_n hx hb dX13_distance_27 rfl (lv_at hl 2 rfl) ?_
        refine lv_aload_n hx hb dX13_distance_28 rfl (lv_at hl 0 rfl) ?_
        refine va_get (D := (dC, dI)) (ci := 13) (v := .int (v0 20)) (C := RX13) (T := TX13) (N := 75) hx hb hG zuX13 hown hK hP 0 rfl rfl 20 (by decide) (hG _ zv1624) (fun _ h9 => h9) rfl dX13_distance_29 ?_
        refine lv_icmp_gt (tgt := 150) hx hb dX13_distance_32 (by decide) (fun c_ => ?_) (fun c_ => ?_)
        · skip
          have b_ := zT_gt rfl rfl c_
          refine lv_aload_n hx hb dX13_distance_150 rfl (lv_at hl 0 rfl) ?_
          refine va_get (D := (dC, dI)) (ci := 13) (v := .ref (q0 72)) (C := RX13) (T := TX13) (N := 75) hx hb hG zuX13 hown hK hP 0 rfl rfl 72 (by decide) (hG _ zv1676) (fun _ h9 => h9) rfl dX13_distance_151 ?_
          refine lv_aload_n hx hb dX13_distance_154 rfl (lv_at hl 0 rfl) ?_
          refine va_get (D := (dC, dI)) (ci := 13) (v := .ref (q0 3)) (C := RX13) (T := TX13) (N := 75) hx hb hG zuX13 hown hK hP 0 rfl rfl 3 (by decide) (hG _ zv1607) (fun _ h9 => h9) rfl dX13_distance_155 ?_
          refine lv_iload_n hx hb dX13_distance_158 rfl (lv_at hl 1 rfl) ?_
          refine va_iald hx hb hK hP 1 0 rfl rfl (zin_lit ⟨by omega, by omega⟩) dX13_distance_159 ?_
          refine lv_topi (fun z159 e_z159 => ?_)
          have b_ : 0 ≤ z159.toInt ∧ z159.toInt ≤ 12 := by rw [e_z159]; exact hf3 _
          refine va_iald hx hb hK hP 2 1 rfl rfl (zin_lit ⟨by omega, by omega⟩) dX13_distance_160 ?_
          refine lv_topi (fun z160 e_z160 => ?_)
          have hq9 := zxq_i hI27_0 (show _ = (v0 20).toInt from by omega) e_z159 e_z160 (by omega)
          have b_ : 0 ≤ z160.toInt := by rw [hq9]; exact zxq_n _
          refine W.widen (k := 0) (n := 0) (by decide) (by decide) ?_
          have b_ : -2147483648 ≤ z160.toInt ∧ z160.toInt ≤ 2147483647 := ⟨zlo _, zhi _⟩
          have hpost : (0 ≤ z160.toInt) ∧ (z160.toInt = zxq f15 (v0 20).toInt f2 f3 (x1.toInt).toNat) := ⟨by omega, by exact hq9⟩
          have hP9 : va_P (dC, dI) vwCl [(h0, .inr (13, mX13 q0 v0)), ((q0 3), zi k3 400 f3), ((q0 72), zi k47 13 (a27_ 0)), ((q0 19), zi k15 12 f15), ((q0 2), zi k2 4800 f2)] H := hP
          have hD9 : va_D A [(h0, .inr (13, mX13 q0 v0)), ((q0 3), zi k3 400 f3), ((q0 72), zi k47 13 (a27_ 0)), ((q0 19), zi k15 12 f15), ((q0 2), zi k2 4800 f2)] := hD
          exact W.iret (v := z160) hx hb hr (fun t ht hW => ⟨⟨z160, (fun _ => 0), rfl, hpost, (fun _ => 0), (fun i => ([(a27_ 0)] : List (Nat → Int32)).getD i (fun _ => 0)), (fun _ => (fun _ => 0)), by rw [ht]; exact hP9, va_K.moved hW.alike hK, hD9⟩, hS.F ht⟩) hS.2.2 dX13_distance_161
        · skip
          have b_ := zF_gt rfl rfl c_
          refine lv_aload_n hx hb dX13_distance_35 rfl (lv_at hl 0 rfl) ?_
          refine va_get (D := (dC, dI)) (ci := 13) (v := .ref (q0 72)) (C := RX13) (T := TX13) (N := 75) hx hb hG zuX13 hown hK hP 0 rfl rfl 72 (by decide) (hG _ zv1676) (fun _ h9 => h9) rfl dX13_distance_36 ?_
          refine lv_iconst (v := 0) hx hb dX13_distance_39 (by decide) ?_
          refine va_iald hx hb hK hP 2 1 rfl rfl (zin_lit (by decide)) dX13_distance_40 ?_
          refine lv_topi (fun z40 e_z40 => ?_)
          refine lv_istore_n (lv' := [(3, .int z40), (0, .ref h0), (1, .int x1), (2, .int (u27_ 0))]) hx hb dX13_distance_41 rfl hl (by decide) rfl (fun ls hl => ?_)
          refine lv_aload_n hx hb dX13_distance_42 rfl (lv_at hl 1 rfl) ?_
          refine va_get (D := (dC, dI)) (ci := 13) (v := .ref (q0 72)) (C := RX13) (T := TX13) (N := 75) hx hb hG zuX13 hown hK hP 0 rfl rfl 72 (by decide) (hG _ zv1676) (fun _ h9 => h9) rfl dX13_distance_43 ?_
          refine lv_iconst (v := 0) hx hb dX13_distance_46 (by decide) ?_
          refine lv_iload_n hx hb dX13_distance_47 rfl (lv_at hl 3 rfl) ?_
          refine va_iast hx hb hK hP hD hS 2 1 rfl rfl (zin_lit (by decide)) dX13_distance_48 (fun H locs hP hD hS => ?_)
          obtain ⟨f_48, e_f_48⟩ : ∃ z : Nat → Int32, z = upd (a27_ 0) (0 : Int32).toNatClampNeg (u27_ 0) := ⟨_, rfl⟩
          have hP : va_P (dC, dI) vwCl [(h0, .inr (13, mX13 q0 v0)), ((q0 3), zi k3 400 f3), ((q0 72), zi k47 13 f_48), ((q0 19), zi k15 12 f15), ((q0 2), zi k2 4800 f2)] H := by rw [e_f_48]; exact hP
          have hD : va_D A [(h0, .inr (13, mX13 q0 v0)), ((q0 3), zi k3 400 f3), ((q0 72), zi k47 13 f_48), ((q0 19), zi k15 12 f15), ((q0 2), zi k2 4800 f2)] := by rw [e_f_48]; exact hD
          refine lv_iconst (v := 1) hx hb dX13_distance_49 (by decide) ?_
          refine lv_istore (lv' := [(4, .int 1), (3, .int z40), (0, .ref h0), (1, .int x1), (2, .int (u27_ 0))]) hx hb dX13_distance_50 hl (by decide) rfl (fun ls hl => ?_)
          refine zcutL (fun u52_ => (13 - (u52_ 1).toInt).toNat) (fun H locs ls u52_ w52_ a52_ b52_ => va_P (dC, dI) vwCl [(h0, .inr (13, mX13 q0 v0)), ((q0 3), zi k3 400 f3), ((q0 72), zi k47 13 (a52_ 0)), ((q0 19), zi k15 12 f15), ((q0 2), zi k2 4800 f2)] H ∧ va_D A [(h0, .inr (13, mX13 q0 v0)), ((q0 3), zi k3 400 f3), ((q0 72), zi k47 13 (a52_ 0)), ((q0 19), zi k15 12 f15), ((q0 2), zi k2 4800 f2)] ∧ va_S A s.heap H locs ∧ lv_has ls 6 [(0, .ref h0), (1, .int x1), (2, .int (u27_ 0)), (3, .int (u52_ 0)), (4, .int (u52_ 1))] ∧ (1 ≤ (u52_ 1).toInt ∧ (u52_ 1).toInt ≤ 13) ∧ (zxL (fun k => (f15 k).toInt) (fun k => (f2 (12 * (x1.toInt).toNat + k)).toInt) (u27_ 0).toInt (f3 ((x1 : Int32)).toNatClampNeg).toInt (u52_ 1).toInt (u52_ 0).toInt 0 (a52_ 0))) (fun ls u52_ w52_ => F0 m 52 ls []) 0 0 ?_ (fun hJ52 => ?_)
          · skip
            intro H locs ls u52_ w52_ a52_ b52_ hc hJ52
            obtain ⟨hP, hD, hS, hl, b_, hI52_0⟩ := hc
            refine lv_iload hx hb dX13_distance_52 (lv_at hl 4 rfl) ?_
            refine lv_aload_n hx hb dX13_distance_54 rfl (lv_at hl 0 rfl) ?_
            refine va_get (D := (dC, dI)) (ci := 13) (v := .ref (q0 3)) (C := RX13) (T := TX13) (N := 75) hx hb hG zuX13 hown hK hP 0 rfl rfl 3 (by decide) (hG _ zv1607) (fun _ h9 => h9) rfl dX13_distance_55 ?_
            refine lv_iload_n hx hb dX13_distance_58 rfl (lv_at hl 1 rfl) ?_
            refine va_iald hx hb hK hP 1 0 rfl rfl (zin_lit ⟨by omega, by omega⟩) dX13_distance_59 ?_
            refine lv_topi (fun z59 e_z59 => ?_)
            have b_ : 0 ≤ z59.toInt ∧ z59.toInt ≤ 12 := by rw [e_z59]; exact hf3 _
            refine lv_icmp_gt (tgt := 144) hx hb dX13_distance_60 (by decide) (fun c_ => ?_) (fun c_ => ?_)
            · skip
              have b_ := zT_gt rfl rfl c_
              obtain ⟨z144, e_z144⟩ : ∃ z : Int32, z = (u27_ 0) + Int32.ofInt 1 := ⟨_, rfl⟩
              have b_ := zadd (x := (u27_ 0)) (y := Int32.ofInt 1) rfl (show (Int32.ofInt 1).toInt = 1 from by decide) e_z144 (by omega) (by omega)
              refine lv_iinc (v := z144) (lv' := [(2, .int z144), (0, .ref h0), (1, .int x1), (3, .int (u52_ 0)), (4, .int (u52_ 1))]) hx hb dX13_distance_144 hl (k := 2) rfl e_z144.symm (by decide) rfl (fun ls hl => ?_)
              have hxc9 : zxC (fun k => (f15 k).toInt) (fun k => (f2 (12 * (x1.toInt).toNat + k)).toInt) (z144.toInt - 1) (f3 ((x1 : Int32)).toNatClampNeg).toInt (a52_ 0) := zxL_C hI52_0 (by rw [← e_z59]; omega) (by omega)
              refine lv_goto (tgt := 27) hx hb dX13_distance_147 (by decide) ?_
              have hc : va_P (dC, dI) vwCl [(h0, .inr (13, mX13 q0 v0)), ((q0 3), zi k3 400 f3), ((q0 72), zi k47 13 (a52_ 0)), ((q0 19), zi k15 12 f15), ((q0 2), zi k2 4800 f2)] H ∧ va_D A [(h0, .inr (13, mX13 q0 v0)), ((q0 3), zi k3 400 f3), ((q0 72), zi k47 13 (a52_ 0)), ((q0 19), zi k15 12 f15), ((q0 2), zi k2 4800 f2)] ∧ va_S A s.heap H locs ∧ lv_has ls 6 [(0, .ref h0), (1, .int x1), (2, .int z144)] ∧ (1 ≤ z144.toInt ∧ z144.toInt ≤ 13) ∧ (zxC (fun k => (f15 k).toInt) (fun k => (f2 (12 * (x1.toInt).toNat + k)).toInt) (z144.toInt - 1) (f3 ((x1 : Int32)).toNatClampNeg).toInt (a52_ 0)) ∧ (z144.toInt ≤ (v0 20).toInt + 1) := ⟨hP, hD, hS, lv_sub hl [1, 2, 0] rfl, (by first | with_reducible assumption | exact ⟨by omega, by omega⟩), by first | exact hxc9 | exact zxC_0 hI2_0 (by rw [← e_z8]; omega) (by decide), by omega⟩
              exact hJ27 H locs ls (fun i => ([z144] : List (Int32)).getD i 0) (fun _ => 0) (fun i => ([(a52_ 0)] : List (Nat → Int32)).getD i (fun _ => 0)) (fun _ => (fun _ => 0)) hc (show (13 - z144.toInt).toNat < (13 - (u27_ 0).toInt).toNat from by omega)
            · skip
              have b_ := zF_gt rfl rfl c_
              refine lv_iload_n hx hb dX13_distance_63 rfl (lv_at hl 3 rfl) ?_
              refine lv_aload_n hx hb dX13_distance_64 rfl (lv_at hl 0 rfl) ?_
              refine va_get (D := (dC, dI)) (ci := 13) (v := .ref (q0 19)) (C := RX13) (T := TX13) (N := 75) hx hb hG zuX13 hown hK hP 0 rfl rfl 19 (by decide) (hG _ zv1623) (fun _ h9 => h9) rfl dX13_distance_65 ?_
              refine lv_iload_n hx hb dX13_distance_68 rfl (lv_at hl 2 rfl) ?_
              refine lv_iconst (v := 1) hx hb dX13_distance_69 (by decide) ?_
              refine lv_isub hx hb dX13_distance_70 ?_
              refine lv_topi (fun z70 e_z70 => ?_)
              have b_ := zsub rfl zk_1 e_z70 (by omega) (by omega)
              refine va_bald hx hb hK hP 3 2 rfl rfl (zin_lit ⟨by omega, by omega⟩) dX13_distance_71 ?_
              refine lv_topi (fun z71 e_z71 => ?_)
              refine lv_aload_n hx hb dX13_distance_72 rfl (lv_at hl 0 rfl) ?_
              refine va_get (D := (dC, dI)) (ci := 13) (v := .ref (q0 2)) (C := RX13) (T := TX13) (N := 75) hx hb hG zuX13 hown hK hP 0 rfl rfl 2 (by decide) (hG _ zv1606) (fun _ h9 => h9) rfl dX13_distance_73 ?_
              refine lv_bipush (v := 12) hx hb dX13_distance_76 (by decide) ?_
              refine lv_iload_n hx hb dX13_distance_78 rfl (lv_at hl 1 rfl) ?_
              refine lv_imul hx hb dX13_distance_79 ?_
              refine lv_topi (fun z79 e_z79 => ?_)
              have b_ := zmul zk_12 rfl e_z79 (by omega) (by omega)
              refine lv_iload hx hb dX13_distance_80 (lv_at hl 4 rfl) ?_
              refine lv_iadd hx hb dX13_distance_82 ?_
              refine lv_topi (fun z82 e_z82 => ?_)
              have b_ := zadd rfl rfl e_z82 (by omega) (by omega)
              refine lv_iconst (v := 1) hx hb dX13_distance_83 (by decide) ?_
              refine lv_isub hx hb dX13_distance_84 ?_
              refine lv_topi (fun z84 e_z84 => ?_)
              have b_ := zsub rfl zk_1 e_z84 (by omega) (by omega)
              refine va_bald hx hb hK hP 4 3 rfl rfl (zin_lit ⟨by omega, by omega⟩) dX13_distance_85 ?_
              refine lv_topi (fun z85 e_z85 => ?_)
              have b_ : -2147483648 ≤ z71.toInt ∧ z71.toInt ≤ 2147483647 := ⟨zlo _, zhi _⟩
              have b_ : -2147483648 ≤ z85.toInt ∧ z85.toInt ≤ 2147483647 := ⟨zlo _, zhi _⟩
              refine lv_icmp_ne (tgt := 93) hx hb dX13_distance_86 (by decide) (fun c_ => ?_) (fun c_ => ?_)
              · skip
                have b_ := zT_ne rfl rfl c_
                refine lv_iconst (v := 1) hx hb dX13_distance_93 (by decide) ?_
                have b_ : -2147483648 ≤ (u52_ 0).toInt ∧ (u52_ 0).toInt ≤ 2147483647 := ⟨zlo _, zhi _⟩
                refine lv_iadd hx hb dX13_distance_94 ?_
                refine lv_topi (fun z94 e_z94 => ?_)
                refine lv_istore (lv' := [(5, .int z94), (0, .ref h0), (1, .int x1), (2, .int (u27_ 0)), (3, .int (u52_ 0)), (4, .int (u52_ 1))]) hx hb dX13_distance_95 hl (by decide) rfl (fun ls hl => ?_)
                refine lv_aload_n hx hb dX13_distance_97 rfl (lv_at hl 1 rfl) ?_
                refine va_get (D := (dC, dI)) (ci := 13) (v := .ref (q0 72)) (C := RX13) (T := TX13) (N := 75) hx hb hG zuX13 hown hK hP 0 rfl rfl 72 (by decide) (hG _ zv1676) (fun _ h9 => h9) rfl dX13_distance_98 ?_
                refine lv_iload hx hb dX13_distance_101 (lv_at hl 5 rfl) ?_
                refine va_iald hx hb hK hP 2 1 rfl rfl (zin_lit ⟨by omega, by omega⟩) dX13_distance_103 ?_
                refine lv_topi (fun z103 e_z103 => ?_)
                refine lv_istore_n (lv' := [(3, .int z103), (5, .int z94), (0, .ref h0), (1, .int x1), (2, .int (u27_ 0)), (4, .int (u52_ 1))]) hx hb dX13_distance_104 rfl hl (by decide) rfl (fun ls hl => ?_)
                refine lv_aload_n hx hb dX13_distance_105 rfl (lv_at hl 2 rfl) ?_
                refine va_get (D := (dC, dI)) (ci := 13) (v := .ref (q0 72)) (C := RX13) (T := TX13) (N := 75) hx hb hG zuX13 hown hK hP 0 rfl rfl 72 (by decide) (hG _ zv1676) (fun _ h9 => h9) rfl dX13_distance_106 ?_
                refine lv_iload hx hb dX13_distance_109 (lv_at hl 5 rfl) ?_
                refine lv_iload hx hb dX13_distance_111 (lv_at hl 1 rfl) ?_
                refine lv_aload_n hx hb dX13_distance_113 rfl (lv_at hl 2 rfl) ?_
                refine va_get (D := (dC, dI)) (ci := 13) (v := .ref (q0 72)) (C := RX13) (T := TX13) (N := 75) hx hb hG zuX13 hown hK hP 0 rfl rfl 72 (by decide) (hG _ zv1676) (fun _ h9 => h9) rfl dX13_distance_114 ?_
                refine lv_iload hx hb dX13_distance_117 (lv_at hl 5 rfl) ?_
                refine va_iald hx hb hK hP 2 1 rfl rfl (zin_lit ⟨by omega, by omega⟩) dX13_distance_119 ?_
                refine lv_topi (fun z119 e_z119 => ?_)
                refine lv_aload_n hx hb dX13_distance_120 rfl (lv_at hl 2 rfl) ?_
                refine va_get (D := (dC, dI)) (ci := 13) (v := .ref (q0 72)) (C := RX13) (T := TX13) (N := 75) hx hb hG zuX13 hown hK hP 0 rfl rfl 72 (by decide) (hG _ zv1676) (fun _ h9 => h9) rfl dX13_distance_121 ?_
                refine lv_iload hx hb dX13_distance_124 (lv_at hl 5 rfl) ?_
                refine lv_iconst (v := 1) hx hb dX13_distance_126 (by decide) ?_
                refine lv_isub hx hb dX13_distance_127 ?_
                refine lv_topi (fun z127 e_z127 => ?_)
                have b_ := zsub rfl zk_1 e_z127 (by omega) (by omega)
                refine va_iald hx hb hK hP 2 1 rfl rfl (zin_lit ⟨by omega, by omega⟩) dX13_distance_128 ?_
                refine lv_topi (fun z128 e_z128 => ?_)
                have b_ : -2147483648 ≤ z119.toInt ∧ z119.toInt ≤ 2147483647 := ⟨zlo _, zhi _⟩
                have b_ : -2147483648 ≤ z128.toInt ∧ z128.toInt ≤ 2147483647 := ⟨zlo _, zhi _⟩
                refine va_mmin hx hb (by rw [hml]; exact hl.1.symm) hown (hG _ zv1897) (hG _ zv1385) (hG _ zv152) (hG _ zv1386) (Nat.le_of_ble_eq_true rfl) (Nat.le_of_ble_eq_true rfl) (Nat.le_of_ble_eq_true rfl) (Nat.le_of_ble_eq_true rfl) dX13_distance_129 ?_
                refine lv_topi (fun z129 e_z129 => ?_)
                have b_ := zmin rfl rfl e_z129
                refine lv_iconst (v := 1) hx hb dX13_distance_132 (by decide) ?_
                refine lv_iadd hx hb dX13_distance_133 ?_
                refine lv_topi (fun z133 e_z133 => ?_)
                have b_ : -2147483648 ≤ z94.toInt ∧ z94.toInt ≤ 2147483647 := ⟨zlo _, zhi _⟩
                have b_ : -2147483648 ≤ z133.toInt ∧ z133.toInt ≤ 2147483647 := ⟨zlo _, zhi _⟩
                refine va_mmin hx hb (by rw [hml]; exact hl.1.symm) hown (hG _ zv1897) (hG _ zv1385) (hG _ zv152) (hG _ zv1386) (Nat.le_of_ble_eq_true rfl) (Nat.le_of_ble_eq_true rfl) (Nat.le_of_ble_eq_true rfl) (Nat.le_of_ble_eq_true rfl) dX13_distance_134 ?_
                refine lv_topi (fun z134 e_z134 => ?_)
                have b_ := zmin rfl rfl e_z134
                refine va_iast hx hb hK hP hD hS 2 1 rfl rfl (zin_lit ⟨by omega, by omega⟩) dX13_distance_137 (fun H locs hP hD hS => ?_)
                obtain ⟨f_137, e_f_137⟩ : ∃ z : Nat → Int32, z = upd (a52_ 0) ((u52_ 1) : Int32).toNatClampNeg z134 := ⟨_, rfl⟩
                have hP : va_P (dC, dI) vwCl [(h0, .inr (13, mX13 q0 v0)), ((q0 3), zi k3 400 f3), ((q0 72), zi k47 13 f_137), ((q0 19), zi k15 12 f15), ((q0 2), zi k2 4800 f2)] H := by rw [e_f_137]; exact hP
                have hD : va_D A [(h0, .inr (13, mX13 q0 v0)), ((q0 3), zi k3 400 f3), ((q0 72), zi k47 13 f_137), ((q0 19), zi k15 12 f15), ((q0 2), zi k2 4800 f2)] := by rw [e_f_137]; exact hD
                obtain ⟨z138, e_z138⟩ : ∃ z : Int32, z = (u52_ 1) + Int32.ofInt 1 := ⟨_, rfl⟩
                have b_ := zadd (x := (u52_ 1)) (y := Int32.ofInt 1) rfl (show (Int32.ofInt 1).toInt = 1 from by decide) e_z138 (by omega) (by omega)
                refine lv_iinc (v := z138) (lv' := [(4, .int z138), (3, .int z103), (5, .int z94), (0, .ref h0), (1, .int x1), (2, .int (u27_ 0))]) hx hb dX13_distance_138 hl (k := 5) rfl e_z138.symm (by decide) rfl (fun ls hl => ?_)
                have hxl9 : zxL (fun k => (f15 k).toInt) (fun k => (f2 (12 * (x1.toInt).toNat + k)).toInt) (u27_ 0).toInt (f3 ((x1 : Int32)).toNatClampNeg).toInt z138.toInt z103.toInt 0 f_137 := zxL_s hI52_0 (by omega) (by omega) (by omega) (by rw [← e_z59]; omega) (by rw [← e_z59]; omega) (zxi e_z71 (by omega)) (zxj e_z85 (by omega) (by omega) (by omega)) (Or.inr ⟨by omega, by decide⟩) e_z94 e_z103 e_z119 e_z128 rfl (by omega) (by omega) e_z133 (by omega) e_f_137 (fun h9 => ⟨Int.le_refl _, h9⟩) rfl (by omega)
                refine lv_goto (tgt := 52) hx hb dX13_distance_141 (by decide) ?_
                have b_ : -2147483648 ≤ z103.toInt ∧ z103.toInt ≤ 2147483647 := ⟨zlo _, zhi _⟩
                have hc : va_P (dC, dI) vwCl [(h0, .inr (13, mX13 q0 v0)), ((q0 3), zi k3 400 f3), ((q0 72), zi k47 13 f_137), ((q0 19), zi k15 12 f15), ((q0 2), zi k2 4800 f2)] H ∧ va_D A [(h0, .inr (13, mX13 q0 v0)), ((q0 3), zi k3 400 f3), ((q0 72), zi k47 13 f_137), ((q0 19), zi k15 12 f15), ((q0 2), zi k2 4800 f2)] ∧ va_S A s.heap H locs ∧ lv_has ls 6 [(0, .ref h0), (1, .int x1), (2, .int (u27_ 0)), (3, .int z103), (4, .int z138)] ∧ (1 ≤ z138.toInt ∧ z138.toInt ≤ 13) ∧ (zxL (fun k => (f15 k).toInt) (fun k => (f2 (12 * (x1.toInt).toNat + k)).toInt) (u27_ 0).toInt (f3 ((x1 : Int32)).toNatClampNeg).toInt z138.toInt z103.toInt 0 f_137) := ⟨hP, hD, hS, lv_sub hl [3, 4, 5, 1, 0] rfl, (by first | with_reducible assumption | exact ⟨by omega, by omega⟩), by first | exact hxl9 | exact zxL_0 hI27_0 (by omega) (by rw [← e_z8]; omega) e_z40 e_f_48 rfl (by decide) (by omega)⟩
                exact hJ52 H locs ls (fun i => ([z103, z138] : List (Int32)).getD i 0) (fun _ => 0) (fun i => ([f_137] : List (Nat → Int32)).getD i (fun _ => 0)) (fun _ => (fun _ => 0)) hc (show (13 - z138.toInt).toNat < (13 - (u52_ 1).toInt).toNat from by omega)
              · skip
                have b_ := zF_ne rfl rfl c_
                refine lv_iconst (v := 0) hx hb dX13_distance_89 (by decide) ?_
                refine lv_goto (tgt := 94) hx hb dX13_distance_90 (by decide) ?_
                have b_ : -2147483648 ≤ (u52_ 0).toInt ∧ (u52_ 0).toInt ≤ 2147483647 := ⟨zlo _, zhi _⟩
                refine lv_iadd hx hb dX13_distance_94 ?_
                refine lv_topi (fun z94 e_z94 => ?_)
                have b_ := zadd rfl zk_0 e_z94 (by omega) (by omega)
                refine lv_istore (lv' := [(5, .int z94), (0, .ref h0), (1, .int x1), (2, .int (u27_ 0)), (3, .int (u52_ 0)), (4, .int (u52_ 1))]) hx hb dX13_distance_95 hl (by decide) rfl (fun ls hl => ?_)
                refine lv_aload_n hx hb dX13_distance_97 rfl (lv_at hl 1 rfl) ?_
                refine va_get (D := (dC, dI)) (ci := 13) (v := .ref (q0 72)) (C := RX13) (T := TX13) (N := 75) hx hb hG zuX13 hown hK hP 0 rfl rfl 72 (by decide) (hG _ zv1676) (fun _ h9 => h9) rfl dX13_distance_98 ?_
                refine lv_iload hx hb dX13_distance_101 (lv_at hl 5 rfl) ?_
                refine va_iald hx hb hK hP 2 1 rfl rfl (zin_lit ⟨by omega, by omega⟩) dX13_distance_103 ?_
                refine lv_topi (fun z103 e_z103 => ?_)
                refine lv_istore_n (lv' := [(3, .int z103), (5, .int z94), (0, .ref h0), (1, .int x1), (2, .int (u27_ 0)), (4, .int (u52_ 1))]) hx hb dX13_distance_104 rfl hl (by decide) rfl (fun ls hl => ?_)
                refine lv_aload_n hx hb dX13_distance_105 rfl (lv_at hl 2 rfl) ?_
                refine va_get (D := (dC, dI)) (ci := 13) (v := .ref (q0 72)) (C := RX13) (T := TX13) (N := 75) hx hb hG zuX13 hown hK hP 0 rfl rfl 72 (by decide) (hG _ zv1676) (fun _ h9 => h9) rfl dX13_distance_106 ?_
                refine lv_iload hx hb dX13_distance_109 (lv_at hl 5 rfl) ?_
                refine lv_iload hx hb dX13_distance_111 (lv_at hl 1 rfl) ?_
                refine lv_aload_n hx hb dX13_distance_113 rfl (lv_at hl 2 rfl) ?_
                refine va_get (D := (dC, dI)) (ci := 13) (v := .ref (q0 72)) (C := RX13) (T := TX13) (N := 75) hx hb hG zuX13 hown hK hP 0 rfl rfl 72 (by decide) (hG _ zv1676) (fun _ h9 => h9) rfl dX13_distance_114 ?_
                refine lv_iload hx hb dX13_distance_117 (lv_at hl 5 rfl) ?_
                refine va_iald hx hb hK hP 2 1 rfl rfl (zin_lit ⟨by omega, by omega⟩) dX13_distance_119 ?_
                refine lv_topi (fun z119 e_z119 => ?_)
                refine lv_aload_n hx hb dX13_distance_120 rfl (lv_at hl 2 rfl) ?_
                refine va_get (D := (dC, dI)) (ci := 13) (v := .ref (q0 72)) (C := RX13) (T := TX13) (N := 75) hx hb hG zuX13 hown hK hP 0 rfl rfl 72 (by decide) (hG _ zv1676) (fun _ h9 => h9) rfl dX13_distance_121 ?_
                refine lv_iload hx hb dX13_distance_124 (lv_at hl 5 rfl) ?_
                refine lv_iconst (v := 1) hx hb dX13_distance_126 (by decide) ?_
                refine lv_isub hx hb dX13_distance_127 ?_
                refine lv_topi (fun z127 e_z127 => ?_)
                have b_ := zsub rfl zk_1 e_z127 (by omega) (by omega)
                refine va_iald hx hb hK hP 2 1 rfl rfl (zin_lit ⟨by omega, by omega⟩) dX13_distance_128 ?_
                refine lv_topi (fun z128 e_z128 => ?_)
                have b_ : -2147483648 ≤ z119.toInt ∧ z119.toInt ≤ 2147483647 := ⟨zlo _, zhi _⟩
                have b_ : -2147483648 ≤ z128.toInt ∧ z128.toInt ≤ 2147483647 := ⟨zlo _, zhi _⟩
                refine va_mmin hx hb (by rw [hml]; exact hl.1.symm) hown (hG _ zv1897) (hG _ zv1385) (hG _ zv152) (hG _ zv1386) (Nat.le_of_ble_eq_true rfl) (Nat.le_of_ble_eq_true rfl) (Nat.le_of_ble_eq_true rfl) (Nat.le_of_ble_eq_true rfl) dX13_distance_129 ?_
                refine lv_topi (fun z129 e_z129 => ?_)
                have b_ := zmin rfl rfl e_z129
                refine lv_iconst (v := 1) hx hb dX13_distance_132 (by decide) ?_
                refine lv_iadd hx hb dX13_distance_133 ?_
                refine lv_topi (fun z133 e_z133 => ?_)
                have b_ : -2147483648 ≤ z133.toInt ∧ z133.toInt ≤ 2147483647 := ⟨zlo _, zhi _⟩
                refine va_mmin hx hb (by rw [hml]; exact hl.1.symm) hown (hG _ zv1897) (hG _ zv1385) (hG _ zv152) (hG _ zv1386) (Nat.le_of_ble_eq_true rfl) (Nat.le_of_ble_eq_true rfl) (Nat.le_of_ble_eq_true rfl) (Nat.le_of_ble_eq_true rfl) dX13_distance_134 ?_
                refine lv_topi (fun z134 e_z134 => ?_)
                have b_ := zmin rfl rfl e_z134
                refine va_iast hx hb hK hP hD hS 2 1 rfl rfl (zin_lit ⟨by omega, by omega⟩) dX13_distance_137 (fun H locs hP hD hS => ?_)
                obtain ⟨f_137, e_f_137⟩ : ∃ z : Nat → Int32, z = upd (a52_ 0) ((u52_ 1) : Int32).toNatClampNeg z134 := ⟨_, rfl⟩
                have hP : va_P (dC, dI) vwCl [(h0, .inr (13, mX13 q0 v0)), ((q0 3), zi k3 400 f3), ((q0 72), zi k47 13 f_137), ((q0 19), zi k15 12 f15), ((q0 2), zi k2 4800 f2)] H := by rw [e_f_137]; exact hP
                have hD : va_D A [(h0, .inr (13, mX13 q0 v0)), ((q0 3), zi k3 400 f3), ((q0 72), zi k47 13 f_137), ((q0 19), zi k15 12 f15), ((q0 2), zi k2 4800 f2)] := by rw [e_f_137]; exact hD
                obtain ⟨z138, e_z138⟩ : ∃ z : Int32, z = (u52_ 1) + Int32.ofInt 1 := ⟨_, rfl⟩
                have b_ := zadd (x := (u52_ 1)) (y := Int32.ofInt 1) rfl (show (Int32.ofInt 1).toInt = 1 from by decide) e_z138 (by omega) (by omega)
                refine lv_iinc (v := z138) (lv' := [(4, .int z138), (3, .int z103), (5, .int z94), (0, .ref h0), (1, .int x1), (2, .int (u27_ 0))]) hx hb dX13_distance_138 hl (k := 5) rfl e_z138.symm (by decide) rfl (fun ls hl => ?_)
                have hxl9 : zxL (fun k => (f15 k).toInt) (fun k => (f2 (12 * (x1.toInt).toNat + k)).toInt) (u27_ 0).toInt (f3 ((x1 : Int32)).toNatClampNeg).toInt z138.toInt z103.toInt 0 f_137 := zxL_s hI52_0 (by omega) (by omega) (by omega) (by rw [← e_z59]; omega) (by rw [← e_z59]; omega) (zxi e_z71 (by omega)) (zxj e_z85 (by omega) (by omega) (by omega)) (Or.inl ⟨by omega, by decide⟩) e_z94 e_z103 e_z119 e_z128 rfl (by omega) (by omega) e_z133 (by omega) e_f_137 (fun h9 => ⟨Int.le_refl _, h9⟩) rfl (by omega)
                refine lv_goto (tgt := 52) hx hb dX13_distance_141 (by decide) ?_
                have b_ : -2147483648 ≤ z103.toInt ∧ z103.toInt ≤ 2147483647 := ⟨zlo _, zhi _⟩
                have hc : va_P (dC, dI) vwCl [(h0, .inr (13, mX13 q0 v0)), ((q0 3), zi k3 400 f3), ((q0 72), zi k47 13 f_137), ((q0 19), zi k15 12 f15), ((q0 2), zi k2 4800 f2)] H ∧ va_D A [(h0, .inr (13, mX13 q0 v0)), ((q0 3), zi k3 400 f3), ((q0 72), zi k47 13 f_137), ((q0 19), zi k15 12 f15), ((q0 2), zi k2 4800 f2)] ∧ va_S A s.heap H locs ∧ lv_has ls 6 [(0, .ref h0), (1, .int x1), (2, .int (u27_ 0)), (3, .int z103), (4, .int z138)] ∧ (1 ≤ z138.toInt ∧ z138.toInt ≤ 13) ∧ (zxL (fun k => (f15 k).toInt) (fun k => (f2 (12 * (x1.toInt).toNat + k)).toInt) (u27_ 0).toInt (f3 ((x1 : Int32)).toNatClampNeg).toInt z138.toInt z103.toInt 0 f_137) := ⟨hP, hD, hS, lv_sub hl [3, 4, 5, 1, 0] rfl, (by first | with_reducible assumption | exact ⟨by omega, by omega⟩), by first | exact hxl9 | exact zxL_0 hI27_0 (by omega) (by rw [← e_z8]; omega) e_z40 e_f_48 rfl (by decide) (by omega)⟩
                exact hJ52 H locs ls (fun i => ([z103, z138] : List (Int32)).getD i 0) (fun _ => 0) (fun i => ([f_137] : List (Nat → Int32)).getD i (fun _ => 0)) (fun _ => (fun _ => 0)) hc (show (13 - z138.toInt).toNat < (13 - (u52_ 1).toInt).toNat from by omega)
          · skip
            have b_ : -2147483648 ≤ z40.toInt ∧ z40.toInt ≤ 2147483647 := ⟨zlo _, zhi _⟩
            have hc : va_P (dC, dI) vwCl [(h0, .inr (13, mX13 q0 v0)), ((q0 3), zi k3 400 f3), ((q0 72), zi k47 13 f_48), ((q0 19), zi k15 12 f15), ((q0 2), zi k2 4800 f2)] H ∧ va_D A [(h0, .inr (13, mX13 q0 v0)), ((q0 3), zi k3 400 f3), ((q0 72), zi k47 13 f_48), ((q0 19), zi k15 12 f15), ((q0 2), zi k2 4800 f2)] ∧ va_S A s.heap H locs ∧ lv_has ls 6 [(0, .ref h0), (1, .int x1), (2, .int (u27_ 0)), (3, .int z40), (4, .int 1)] ∧ (1 ≤ (1 : Int32).toInt ∧ (1 : Int32).toInt ≤ 13) ∧ (zxL (fun k => (f15 k).toInt) (fun k => (f2 (12 * (x1.toInt).toNat + k)).toInt) (u27_ 0).toInt (f3 ((x1 : Int32)).toNatClampNeg).toInt (1 : Int32).toInt z40.toInt 0 f_48) := ⟨hP, hD, hS, lv_sub hl [2, 3, 4, 1, 0] rfl, (by first | with_reducible assumption | exact ⟨by omega, by omega⟩), by first | exact hxl9 | exact zxL_0 hI27_0 (by omega) (by rw [← e_z8]; omega) e_z40 e_f_48 rfl (by decide) (by omega)⟩
            exact hJ52 H locs ls (fun i => ([z40, 1] : List (Int32)).getD i 0) (fun _ => 0) (fun i => ([f_48] : List (Nat → Int32)).getD i (fun _ => 0)) (fun _ => (fun _ => 0)) hc
      · skip
        have hc : va_P (dC, dI) vwCl [(h0, .inr (13, mX13 q0 v0)), ((q0 3), zi k3 400 f3), ((q0 72), zi k47 13 (a2_ 0)), ((q0 19), zi k15 12 f15), ((q0 2), zi k2 4800 f2)] H ∧ va_D A [(h0, .inr (13, mX13 q0 v0)), ((q0 3), zi k3 400 f3), ((q0 72), zi k47 13 (a2_ 0)), ((q0 19), zi k15 12 f15), ((q0 2), zi k2 4800 f2)] ∧ va_S A s.heap H locs ∧ lv_has ls 6 [(0, .ref h0), (1, .int x1), (2, .int 1)] ∧ (1 ≤ (1 : Int32).toInt ∧ (1 : Int32).toInt ≤ 13) ∧ (zxC (fun k => (f15 k).toInt) (fun k => (f2 (12 * (x1.toInt).toNat + k)).toInt) ((1 : Int32).toInt - 1) (f3 ((x1 : Int32)).toNatClampNeg).toInt (a2_ 0)) ∧ ((1 : Int32).toInt ≤ (v0 20).toInt + 1) := ⟨hP, hD, hS, lv_sub hl [1, 2, 0] rfl, (by first | with_reducible assumption | exact ⟨by omega, by omega⟩), by first | exact hxc9 | exact zxC_0 hI2_0 (by rw [← e_z8]; omega) (by decide), by omega⟩
        exact hJ27 H locs ls (fun i => ([1] : List (Int32)).getD i 0) (fun _ => 0) (fun i => ([(a2_ 0)] : List (Nat → Int32)).getD i (fun _ => 0)) (fun _ => (fun _ => 0)) hc
    · skip
      have b_ := zF_gt rfl rfl c_
      refine lv_aload_n hx hb dX13_distance_12 rfl (lv_at hl 0 rfl) ?_
      refine va_get (D := (dC, dI)) (ci := 13) (v := .ref (q0 72)) (C := RX13) (T := TX13) (N := 75) hx hb hG zuX13 hown hK hP 0 rfl rfl 72 (by decide) (hG _ zv1676) (fun _ h9 => h9) rfl dX13_distance_13 ?_
      refine lv_iload_n hx hb dX13_distance_16 rfl (lv_at hl 2 rfl) ?_
      refine lv_iload_n hx hb dX13_distance_17 rfl (lv_at hl 2 rfl) ?_
      refine va_iast hx hb hK hP hD hS 2 1 rfl rfl (zin_lit ⟨by omega, by omega⟩) dX13_distance_18 (fun H locs hP hD hS => ?_)
      obtain ⟨f_18, e_f_18⟩ : ∃ z : Nat → Int32, z = upd (a2_ 0) ((u2_ 0) : Int32).toNatClampNeg (u2_ 0) := ⟨_, rfl⟩
      have hP : va_P (dC, dI) vwCl [(h0, .inr (13, mX13 q0 v0)), ((q0 3), zi k3 400 f3), ((q0 72), zi k47 13 f_18), ((q0 19), zi k15 12 f15), ((q0 2), zi k2 4800 f2)] H := by rw [e_f_18]; exact hP
      have hD : va_D A [(h0, .inr (13, mX13 q0 v0)), ((q0 3), zi k3 400 f3), ((q0 72), zi k47 13 f_18), ((q0 19), zi k15 12 f15), ((q0 2), zi k2 4800 f2)] := by rw [e_f_18]; exact hD
      obtain ⟨z19, e_z19⟩ : ∃ z : Int32, z = (u2_ 0) + Int32.ofInt 1 := ⟨_, rfl⟩
      have b_ := zadd (x := (u2_ 0)) (y := Int32.ofInt 1) rfl (show (Int32.ofInt 1).toInt = 1 from by decide) e_z19 (by omega) (by omega)
      refine lv_iinc (v := z19) (lv' := [(2, .int z19), (0, .ref h0), (1, .int x1)]) hx hb dX13_distance_19 hl (k := 2) rfl e_z19.symm (by decide) rfl (fun ls hl => ?_)
      have hxj9 : zxJ f_18 z19.toInt := zxJ_s hI2_0 (by omega) e_f_18 rfl (by omega)
      refine lv_goto (tgt := 2) hx hb dX13_distance_22 (by decide) ?_
      have hc : va_P (dC, dI) vwCl [(h0, .inr (13, mX13 q0 v0)), ((q0 3), zi k3 400 f3), ((q0 72), zi k47 13 f_18), ((q0 19), zi k15 12 f15), ((q0 2), zi k2 4800 f2)] H ∧ va_D A [(h0, .inr (13, mX13 q0 v0)), ((q0 3), zi k3 400 f3), ((q0 72), zi k47 13 f_18), ((q0 19), zi k15 12 f15), ((q0 2), zi k2 4800 f2)] ∧ va_S A s.heap H locs ∧ lv_has ls 6 [(0, .ref h0), (1, .int x1), (2, .int z19)] ∧ (0 ≤ z19.toInt ∧ z19.toInt ≤ 13) ∧ (zxJ f_18 z19.toInt) := ⟨hP, hD, hS, lv_sub hl [1, 2, 0] rfl, (by first | with_reducible assumption | exact ⟨by omega, by omega⟩), by first | exact hxj9 | exact zxJ_0 (by decide)⟩
      exact hJ2 H locs ls (fun i => ([z19] : List (Int32)).getD i 0) (fun _ => 0) (fun i => ([f_18] : List (Nat → Int32)).getD i (fun _ => 0)) (fun _ => (fun _ => 0)) hc (show (13 - z19.toInt).toNat < (13 - (u2_ 0).toInt).toNat from by omega)
  · skip
    have hc : va_P (dC, dI) vwCl [(h0, .inr (13, mX13 q0 v0)), ((q0 3), zi k3 400 f3), ((q0 72), zi k47 13 f47), ((q0 19), zi k15 12 f15), ((q0 2), zi k2 4800 f2)] s.heap ∧ va_D A [(h0, .inr (13, mX13 q0 v0)), ((q0 3), zi k3 400 f3), ((q0 72), zi k47 13 f47), ((q0 19), zi k15 12 f15), ((q0 2), zi k2 4800 f2)] ∧ va_S A s.heap s.heap [] ∧ lv_has ls 6 [(0, .ref h0), (1, .int x1), (2, .int 0)] ∧ (0 ≤ (0 : Int32).toInt ∧ (0 : Int32).toInt ≤ 13) ∧ (zxJ f47 (0 : Int32).toInt) := ⟨hP, hD, hS, lv_sub hl [1, 2, 0] rfl, (by first | with_reducible assumption | exact ⟨by omega, by omega⟩), by first | exact hxj9 | exact zxJ_0 (by decide)⟩
    exact hJ2 s.heap [] ls (fun i => ([0] : List (Int32)).getD i 0) (fun _ => 0) (fun i => ([f47] : List (Nat → Int32)).getD i (fun _ => 0)) (fun _ => (fun _ => 0)) hc
set_option maxHeartbeats 8000000 in
set_option maxRecDepth 100000 in
theorem sX13_lookAt_0 (l : Launch) (dC : Nat → ClassId) (dI : Nat → Nat → Nat) (adK adV : Nat → Nat) (h0 : Nat) (q0 : Nat → Nat) (k15 : ClassId) (k14 : ClassId) (sz : Nat) (v0 : Nat → Int32) (f15 : Nat → Int32) (f14 : Nat → Int32) (hv0 : zR rg_Model v0) : Met l yX13_lookAt (zw yX13_lookAt cX13_lookAt 2 none) { frames := 0, cells := 0, slots := 0, locals := 0 } (zPc dC dI adK adV [.ref h0] sz [(h0, .inr (13, mX13 q0 v0)), ((q0 19), zi k15 12 f15), ((q0 17), zi k14 12 f14)] [(k15, .byte), (k14, .byte)]) (va_Qv (fun (u : Nat → Int32) => (0 ≤ (u 0).toInt ∧ (u 0).toInt ≤ 12) ∧ ((u 0).toInt = (v0 20).toInt)) (fun (u : Nat → Int32) (t : State) => ∃ (ww : Nat → Int64) (aa : Nat → Nat → Int32) (bb : Nat → Nat → Int64), (zCy (aa 0) f15 0 (v0 20).toInt) ∧ va_P (dC, dI) vwCl [(h0, .inr (13, mX13 q0 (upd v0 18 (u 0)))), ((q0 19), zi k15 12 f15), ((q0 17), zi k14 12 (aa 0))] t.heap ∧ va_K (dC, dI) vwCl [(k15, .byte), (k14, .byte)] t ∧ va_D (va_A [(h0, .inr (13, mX13 q0 v0)), ((q0 19), zi k15 12 f15), ((q0 17), zi k14 12 f14)] sz) [(h0, .inr (13, mX13 q0 (upd v0 18 (u 0)))), ((q0 19), zi k15 12 f15), ((q0 17), zi k14 12 (aa 0))]) (va_A [(h0, .inr (13, mX13 q0 v0)), ((q0 19), zi k15 12 f15), ((q0 17), zi k14 12 f14)] sz)) 0 0 (va_A [(h0, .inr (13, mX13 q0 v0)), ((q0 19), zi k15 12 f15), ((q0 17), zi k14 12 f14)] sz) := by
  refine Met.ofW (cc := cX13_lookAt) (maxL := 2) (ret := none) (by decide) rfl ?_
  intro p e s m args below meth c s₁ B hml hv
  obtain ⟨rfl, hsz, hP, hK, hD0, hE, hZ⟩ := hv
  have hx := B.exec
  have hb := B.bytes
  have hr := B.returns
  have hG : ∀ w ∈ zG, w.before _ s = true := fun w h => atoms_spec (ws := (zw yX13_lookAt cX13_lookAt 2 none)) B.pre w (List.mem_cons_of_mem _ h)
  have hown : s.vm.findClass RX13 = some m.cls := findClass_of_methodNamed B.named
  have hlocks := B.notSynchronized

  subst hsz
  have hD := hD0.self (sz := s.heap.size)
  generalize hAe : va_A [(h0, .inr (13, mX13 q0 v0)), ((q0 19), zi k15 12 f15), ((q0 17), zi k14 12 f14)] s.heap.size = A at hD hZ ⊢
  have hA : ∀ q : Nat, s.heap.size ≤ q → A q := fun q h => by rw [← hAe]; exact Or.inr h
  have hS : va_S A s.heap s.heap [] := va_S.rf
  have hl := lv_entry ([.ref h0]) (n := 2) (Nat.le_of_ble_eq_true rfl)
  rw [lg_entry_eq]
  generalize (lg_sl ([.ref h0]) ++ List.replicate (2 - (lg_sl ([.ref h0])).length) Slot.unset).toArray = ls at hl ⊢
  have hl : lv_has ls 2 [(0, .ref h0)] := hl
  have b_ := zk_0
  have b_ : (-1) ≤ (v0 18).toInt ∧ (v0 18).toInt ≤ 12 := hv0 18
  have b_ : 0 ≤ (v0 20).toInt ∧ (v0 20).toInt ≤ 12 := hv0 20
  refine lv_iconst (v := 0) hx hb dX13_lookAt_0 (by decide) ?_
  refine lv_istore_n (lv' := [(1, .int 0), (0, .ref h0)]) hx hb dX13_lookAt_1 rfl hl (by decide) rfl (fun ls hl => ?_)
  refine zcutL (fun u2_ => (12 - (u2_ 0).toInt).toNat) (fun H locs ls u2_ w2_ a2_ b2_ => va_P (dC, dI) vwCl [(h0, .inr (13, mX13 q0 v0)), ((q0 19), zi k15 12 f15), ((q0 17), zi k14 12 (a2_ 0))] H ∧ va_D A [(h0, .inr (13, mX13 q0 v0)), ((q0 19), zi k15 12 f15), ((q0 17), zi k14 12 (a2_ 0))] ∧ va_S A s.heap H locs ∧ lv_has ls 2 [(0, .ref h0), (1, .int (u2_ 0))] ∧ (0 ≤ (u2_ 0).toInt ∧ (u2_ 0).toInt ≤ 12) ∧ (zCy (a2_ 0) f15 0 (u2_ 0).toInt)) (fun ls u2_ w2_ => F0 m 2 ls []) 0 0 ?_ (fun hJ2 => ?_)
  · skip
    intro H locs ls u2_ w2_ a2_ b2_ hc hJ2
    obtain ⟨hP, hD, hS, hl, b_, hI2_0⟩ := hc
    refine lv_iload_n hx hb dX13_lookAt_2 rfl (lv_at hl 1 rfl) ?_
    refine lv_aload_n hx hb dX13_lookAt_3 rfl (lv_at hl 0 rfl) ?_
    refine va_get (D := (dC, dI)) (ci := 13) (v := .int (v0 20)) (C := RX13) (T := TX13) (N := 75) hx hb hG zuX13 hown hK hP 0 rfl rfl 20 (by decide) (hG _ zv1624) (fun _ h9 => h9) rfl dX13_lookAt_4 ?_
    refine lv_icmp_ge (tgt := 28) hx hb dX13_lookAt_7 (by decide) (fun c_ => ?_) (fun c_ => ?_)
    · skip
      have b_ := zT_ge rfl rfl c_
      refine lv_aload_n hx hb dX13_lookAt_28 rfl (lv_at hl 0 rfl) ?_
      refine lv_aload_n hx hb dX13_lookAt_29 rfl (lv_at hl 0 rfl) ?_
      refine va_get (D := (dC, dI)) (ci := 13) (v := .int (v0 20)) (C := RX13) (T := TX13) (N := 75) hx hb hG zuX13 hown hK hP 0 rfl rfl 20 (by decide) (hG _ zv1624) (fun _ h9 => h9) rfl dX13_lookAt_30 ?_
      refine va_put (D := (dC, dI)) (ci := 13) (v := .int (v0 20)) (ty := .int) (C := RX13) (T := TX13) (N := 75) hx hb hG zuX13 tyX13 tyX13_ok nmX13 hown hK hP hD hS 0 rfl rfl 18 (by decide) (hG _ zv1622) (fun _ h9 => h9) rfl (by decide +kernel) rfl rfl (Nat.le_of_ble_eq_true rfl) dX13_lookAt_33 (fun H locs hP hD hS => ?_)
      have hP : va_P (dC, dI) vwCl [(h0, .inr (13, mX13 q0 (upd v0 18 (v0 20)))), ((q0 19), zi k15 12 f15), ((q0 17), zi k14 12 (a2_ 0))] H := hP
      have hD : va_D A [(h0, .inr (13, mX13 q0 (upd v0 18 (v0 20)))), ((q0 19), zi k15 12 f15), ((q0 17), zi k14 12 (a2_ 0))] := hD
      refine W.widen (k := 0) (n := 0) (by decide) (by decide) ?_
      have hpost : (0 ≤ (v0 20).toInt ∧ (v0 20).toInt ≤ 12) ∧ ((v0 20).toInt = (v0 20).toInt) := ⟨(by first | with_reducible assumption | exact ⟨by omega, by omega⟩), by omega⟩
      have hP9 : va_P (dC, dI) vwCl [(h0, .inr (13, mX13 q0 (upd v0 18 (v0 20)))), ((q0 19), zi k15 12 f15), ((q0 17), zi k14 12 (a2_ 0))] H := hP
      have hD9 : va_D A [(h0, .inr (13, mX13 q0 (upd v0 18 (v0 20)))), ((q0 19), zi k15 12 f15), ((q0 17), zi k14 12 (a2_ 0))] := hD
      have hB0 : zCy (a2_ 0) f15 0 (v0 20).toInt := by exact zCy_e hI2_0 (by omega)
      exact W.vret hx hb hr (fun t ht hW => ⟨⟨(fun i => ([(v0 20)] : List (Int32)).getD i 0), rfl, hpost, (fun _ => 0), (fun i => ([(a2_ 0)] : List (Nat → Int32)).getD i (fun _ => 0)), (fun _ => (fun _ => 0)), hB0, by rw [ht]; exact hP9, va_K.moved hW.alike hK, hD9⟩, hS.F ht⟩) hS.2.2 dX13_lookAt_36
    · skip
      have b_ := zF_ge rfl rfl c_
      refine lv_aload_n hx hb dX13_lookAt_10 rfl (lv_at hl 0 rfl) ?_
      refine va_get (D := (dC, dI)) (ci := 13) (v := .ref (q0 17)) (C := RX13) (T := TX13) (N := 75) hx hb hG zuX13 hown hK hP 0 rfl rfl 17 (by decide) (hG _ zv1621) (fun _ h9 => h9) rfl dX13_lookAt_11 ?_
      refine lv_iload_n hx hb dX13_lookAt_14 rfl (lv_at hl 1 rfl) ?_
      refine lv_aload_n hx hb dX13_lookAt_15 rfl (lv_at hl 0 rfl) ?_
      refine va_get (D := (dC, dI)) (ci := 13) (v := .ref (q0 19)) (C := RX13) (T := TX13) (N := 75) hx hb hG zuX13 hown hK hP 0 rfl rfl 19 (by decide) (hG _ zv1623) (fun _ h9 => h9) rfl dX13_lookAt_16 ?_
      refine lv_iload_n hx hb dX13_lookAt_19 rfl (lv_at hl 1 rfl) ?_
      refine va_bald hx hb hK hP 1 0 rfl rfl (zin_lit ⟨by omega, by omega⟩) dX13_lookAt_20 ?_
      refine lv_topi (fun z20 e_z20 => ?_)
      refine va_bast hx hb hK hP hD hS 2 1 rfl rfl (zin_lit ⟨by omega, by omega⟩) dX13_lookAt_21 (fun H locs hP hD hS => ?_)
      obtain ⟨f_21, e_f_21⟩ : ∃ z : Nat → Int32, z = upd (a2_ 0) ((u2_ 0) : Int32).toNatClampNeg (vp_nar .byte z20) := ⟨_, rfl⟩
      have hP : va_P (dC, dI) vwCl [(h0, .inr (13, mX13 q0 v0)), ((q0 19), zi k15 12 f15), ((q0 17), zi k14 12 f_21)] H := by rw [e_f_21]; exact hP
      have hD : va_D A [(h0, .inr (13, mX13 q0 v0)), ((q0 19), zi k15 12 f15), ((q0 17), zi k14 12 f_21)] := by rw [e_f_21]; exact hD
      obtain ⟨z22, e_z22⟩ : ∃ z : Int32, z = (u2_ 0) + Int32.ofInt 1 := ⟨_, rfl⟩
      have b_ := zadd (x := (u2_ 0)) (y := Int32.ofInt 1) rfl (show (Int32.ofInt 1).toInt = 1 from by decide) e_z22 (by omega) (by omega)
      refine lv_iinc (v := z22) (lv' := [(1, .int z22), (0, .ref h0)]) hx hb dX13_lookAt_22 hl (k := 1) rfl e_z22.symm (by decide) rfl (fun ls hl => ?_)
      have hcy : zCy f_21 f15 0 z22.toInt := zCy_s hI2_0 (by omega) (by decide) e_z20 (by omega) e_f_21 rfl (by omega)
      refine lv_goto (tgt := 2) hx hb dX13_lookAt_25 (by decide) ?_
      have hc : va_P (dC, dI) vwCl [(h0, .inr (13, mX13 q0 v0)), ((q0 19), zi k15 12 f15), ((q0 17), zi k14 12 f_21)] H ∧ va_D A [(h0, .inr (13, mX13 q0 v0)), ((q0 19), zi k15 12 f15), ((q0 17), zi k14 12 f_21)] ∧ va_S A s.heap H locs ∧ lv_has ls 2 [(0, .ref h0), (1, .int z22)] ∧ (0 ≤ z22.toInt ∧ z22.toInt ≤ 12) ∧ (zCy f_21 f15 0 z22.toInt) := ⟨hP, hD, hS, lv_sub hl [1, 0] rfl, (by first | with_reducible assumption | exact ⟨by omega, by omega⟩), by first | exact hcy | exact zCy_0 (by decide)⟩
      exact hJ2 H locs ls (fun i => ([z22] : List (Int32)).getD i 0) (fun _ => 0) (fun i => ([f_21] : List (Nat → Int32)).getD i (fun _ => 0)) (fun _ => (fun _ => 0)) hc (show (12 - z22.toInt).toNat < (12 - (u2_ 0).toInt).toNat from by omega)
  · skip
    have hc : va_P (dC, dI) vwCl [(h0, .inr (13, mX13 q0 v0)), ((q0 19), zi k15 12 f15), ((q0 17), zi k14 12 f14)] s.heap ∧ va_D A [(h0, .inr (13, mX13 q0 v0)), ((q0 19), zi k15 12 f15), ((q0 17), zi k14 12 f14)] ∧ va_S A s.heap s.heap [] ∧ lv_has ls 2 [(0, .ref h0), (1, .int 0)] ∧ (0 ≤ (0 : Int32).toInt ∧ (0 : Int32).toInt ≤ 12) ∧ (zCy f14 f15 0 (0 : Int32).toInt) := ⟨hP, hD, hS, lv_sub hl [1, 0] rfl, (by first | with_reducible assumption | exact ⟨by omega, by omega⟩), by first | exact hcy | exact zCy_0 (by decide)⟩
    exact hJ2 s.heap [] ls (fun i => ([0] : List (Int32)).getD i 0) (fun _ => 0) (fun i => ([f14] : List (Nat → Int32)).getD i (fun _ => 0)) (fun _ => (fun _ => 0)) hc
set_option maxHeartbeats 8000000 in
set_option maxRecDepth 100000 in
theorem sX13_nearest_0 (l : Launch) (dC : Nat → ClassId) (dI : Nat → Nat → Nat) (adK adV : Nat → Nat) (h0 : Nat) (q0 : Nat → Nat) (k1 : ClassId) (k15 : ClassId) (k48 : ClassId) (k5 : ClassId) (k4 : ClassId) (k10 : ClassId) (k11 : ClassId) (k2 : ClassId) (k3 : ClassId) (k6 : ClassId) (k20 : ClassId) (k47 : ClassId) (k14 : ClassId) (sz : Nat) (v0 : Nat → Int32) (f1 : Nat → Int32) (f15 : Nat → Int32) (f48 : Nat → Int32) (f5 : Nat → Int32) (f4 : Nat → Int32) (f10 : Nat → Int32) (f11 : Nat → Int32) (f2 : Nat → Int32) (f3 : Nat → Int32) (f6 : Nat → Int32) (f20 : Nat → Int32) (f47 : Nat → Int32) (f14 : Nat → Int32) (hv0 : zR rg_Model v0) (hf4 : zA 0 400 f4) (hf10 : zA 0 512 f10) (hf11 : zA 0 512 f11) (hf3 : zA 0 12 f3) : Met l yX13_nearest (zw yX13_nearest cX13_nearest 5 (some .int)) { frames := 5, cells := 0, slots := 0, locals := 108 } (zPc dC dI adK adV [.ref h0] sz [(h0, .inr (13, mX13 q0 v0)), ((q0 0), zi k1 600 f1), ((q0 19), zi k15 12 f15), ((q0 73), zi k48 400 f48), ((q0 6), zi k5 120 f5), ((q0 5), zi k4 122880 f4), ((q0 11), zi k10 120 f10), ((q0 12), zi k11 120 f11), ((q0 2), zi k2 4800 f2), ((q0 3), zi k3 400 f3), ((q0 7), zi k6 120 f6), ((q0 28), zi k20 400 f20), ((q0 72), zi k47 13 f47), ((q0 17), zi k14 12 f14)] [(k1, .byte), (k15, .byte), (k48, .int), (k5, .boolean), (k4, .short), (k10, .int), (k11, .int), (k2, .byte), (k3, .int), (k6, .boolean), (k20, .int), (k47, .int), (k14, .byte)]) (va_Qi (fun (r : Int32) (u : Nat → Int32) => ((-2147483648) ≤ r.toInt ∧ r.toInt ≤ 3) ∧ (0 ≤ (u 0).toInt ∧ (u 0).toInt ≤ 0) ∧ ((-1) ≤ (u 1).toInt ∧ (u 1).toInt ≤ 12) ∧ (0 ≤ (u 2).toInt ∧ (u 2).toInt ≤ 12) ∧ (0 ≤ (u 3).toInt ∧ (u 3).toInt ≤ 0) ∧ (zxAr f1 (v0 1).toInt f2 f3 (v0 4).toInt r.toInt) ∧ (r.toInt = (u 4).toInt)) (fun (u : Nat → Int32) (t : State) => ∃ (ww : Nat → Int64) (aa : Nat → Nat → Int32) (bb : Nat → Nat → Int64), (zxAr2 f1 (v0 1).toInt f2 f3 (v0 4).toInt f4 f6 f10 f11 (v0 13).toInt f5 f14 (aa 4) (v0 18).toInt (u 1).toInt (u 4).toInt) ∧ va_P (dC, dI) vwCl [(h0, .inr (13, mX13 q0 (upd (upd (upd (upd v0 1 (u 0)) 18 (u 1)) 20 (u 2)) 21 (u 3)))), ((q0 0), zi k1 600 f1), ((q0 19), zi k15 12 (aa 0)), ((q0 73), zi k48 400 (aa 1)), ((q0 6), zi k5 120 f5), ((q0 5), zi k4 122880 f4), ((q0 11), zi k10 120 f10), ((q0 12), zi k11 120 f11), ((q0 2), zi k2 4800 f2), ((q0 3), zi k3 400 f3), ((q0 7), zi k6 120 f6), ((q0 28), zi k20 400 (aa 2)), ((q0 72), zi k47 13 (aa 3)), ((q0 17), zi k14 12 (aa 4))] t.heap ∧ va_K (dC, dI) vwCl [(k1, .byte), (k15, .byte), (k48, .int), (k5, .boolean), (k4, .short), (k10, .int), (k11, .int), (k2, .byte), (k3, .int), (k6, .boolean), (k20, .int), (k47, .int), (k14, .byte)] t ∧ va_D (va_A [(h0, .inr (13, mX13 q0 v0)), ((q0 0), zi k1 600 f1), ((q0 19), zi k15 12 f15), ((q0 73), zi k48 400 f48), ((q0 6), zi k5 120 f5), ((q0 5), zi k4 122880 f4), ((q0 11), zi k10 120 f10), ((q0 12), zi k11 120 f11), ((q0 2), zi k2 4800 f2), ((q0 3), zi k3 400 f3), ((q0 7), zi k6 120 f6), ((q0 28), zi k20 400 f20), ((q0 72), zi k47 13 f47), ((q0 17), zi k14 12 f14)] sz) [(h0, .inr (13, mX13 q0 (upd (upd (upd (upd v0 1 (u 0)) 18 (u 1)) 20 (u 2)) 21 (u 3)))), ((q0 0), zi k1 600 f1), ((q0 19), zi k15 12 (aa 0)), ((q0 73), zi k48 400 (aa 1)), ((q0 6), zi k5 120 f5), ((q0 5), zi k4 122880 f4), ((q0 11), zi k10 120 f10), ((q0 12), zi k11 120 f11), ((q0 2), zi k2 4800 f2), ((q0 3), zi k3 400 f3), ((q0 7), zi k6 120 f6), ((q0 28), zi k20 400 (aa 2)), ((q0 72), zi k47 13 (aa 3)), ((q0 17), zi k14 12 (aa 4))]) (va_A [(h0, .inr (13, mX13 q0 v0)), ((q0 0), zi k1 600 f1), ((q0 19), zi k15 12 f15), ((q0 73), zi k48 400 f48), ((q0 6), zi k5 120 f5), ((q0 5), zi k4 122880 f4), ((q0 11), zi k10 120 f10), ((q0 12), zi k11 120 f11), ((q0 2), zi k2 4800 f2), ((q0 3), zi k3 400 f3), ((q0 7), zi k6 120 f6), ((q0 28), zi k20 400 f20), ((q0 72), zi k47 13 f47), ((q0 17), zi k14 12 f14)] sz)) 0 0 (va_A [(h0, .inr (13, mX13 q0 v0)), ((q0 0), zi k1 600 f1), ((q0 19), zi k15 12 f15), ((q0 73), zi k48 400 f48), ((q0 6), zi k5 120 f5), ((q0 5), zi k4 122880 f4), ((q0 11), zi k10 120 f10), ((q0 12), zi k11 120 f11), ((q0 2), zi k2 4800 f2), ((q0 3), zi k3 400 f3), ((q0 7), zi k6 120 f6), ((q0 28), zi k20 400 f20), ((q0 72), zi k47 13 f47), ((q0 17), zi k14 12 f14)] sz) := by
  refine Met.ofW (cc := cX13_nearest) (maxL := 5) (ret := (some .int)) (by decide) rfl ?_
  intro p e s m args below meth c s₁ B hml hv
  obtain ⟨rfl, hsz, hP, hK, hD0, hE, hZ⟩ := hv
  have hx := B.exec
  have hb := B.bytes
  have hr := B.returns
  have hG : ∀ w ∈ zG, w.before _ s = true := fun w h => atoms_spec (ws := (zw yX13_nearest cX13_nearest 5 (some .int))) B.pre w (List.mem_cons_of_mem _ h)
  have hown : s.vm.findClass RX13 = some m.cls := findClass_of_methodNamed B.named
  have hlocks := B.notSynchronized

  subst hsz
  have hD := hD0.self (sz := s.heap.size)
  generalize hAe : va_A [(h0, .inr (13, mX13 q0 v0)), ((q0 0), zi k1 600 f1), ((q0 19), zi k15 12 f15), ((q0 73), zi k48 400 f48), ((q0 6), zi k5 120 f5), ((q0 5), zi k4 122880 f4), ((q0 11), zi k10 120 f10), ((q0 12), zi k11 120 f11), ((q0 2), zi k2 4800 f2), ((q0 3), zi k3 400 f3), ((q0 7), zi k6 120 f6), ((q0 28), zi k20 400 f20), ((q0 72), zi k47 13 f47), ((q0 17), zi k14 12 f14)] s.heap.size = A at hD hZ ⊢
  have hA : ∀ q : Nat, s.heap.size ≤ q → A q := fun q h => by rw [← hAe]; exact Or.inr h
  have hS : va_S A s.heap s.heap [] := va_S.rf
  have hl := lv_entry ([.ref h0]) (n := 5) (Nat.le_of_ble_eq_true rfl)
  rw [lg_entry_eq]
  generalize (lg_sl ([.ref h0]) ++ List.replicate (5 - (lg_sl ([.ref h0])).length) Slot.unset).toArray = ls at hl ⊢
  have hl : lv_has ls 5 [(0, .ref h0)] := hl
  have b_ := zk_m1
  have b_ := zk_0
  have b_ := zk_3
  have b_ : 0 ≤ (v0 1).toInt ∧ (v0 1).toInt ≤ 600 := hv0 1
  have b_ : 0 ≤ (v0 4).toInt ∧ (v0 4).toInt ≤ 400 := hv0 4
  refine lv_aload_n hx hb dX13_nearest_0 rfl (lv_at hl 0 rfl) ?_
  refine lv_iconst (v := 0) hx hb dX13_nearest_1 (by decide) ?_
  refine va_put (D := (dC, dI)) (ci := 13) (v := .int 0) (ty := .int) (C := RX13) (T := TX13) (N := 75) hx hb hG zuX13 tyX13 tyX13_ok nmX13 hown hK hP hD hS 0 rfl rfl 21 (by decide) (hG _ zv1625) (fun _ h9 => h9) rfl (by decide +kernel) rfl rfl (Nat.le_of_ble_eq_true rfl) dX13_nearest_2 (fun H locs hP hD hS => ?_)
  have hP : va_P (dC, dI) vwCl [(h0, .inr (13, mX13 q0 (upd v0 21 0))), ((q0 0), zi k1 600 f1), ((q0 19), zi k15 12 f15), ((q0 73), zi k48 400 f48), ((q0 6), zi k5 120 f5), ((q0 5), zi k4 122880 f4), ((q0 11), zi k10 120 f10), ((q0 12), zi k11 120 f11), ((q0 2), zi k2 4800 f2), ((q0 3), zi k3 400 f3), ((q0 7), zi k6 120 f6), ((q0 28), zi k20 400 f20), ((q0 72), zi k47 13 f47), ((q0 17), zi k14 12 f14)] H := hP
  have hD : va_D A [(h0, .inr (13, mX13 q0 (upd v0 21 0))), ((q0 0), zi k1 600 f1), ((q0 19), zi k15 12 f15), ((q0 73), zi k48 400 f48), ((q0 6), zi k5 120 f5), ((q0 5), zi k4 122880 f4), ((q0 11), zi k10 120 f10), ((q0 12), zi k11 120 f11), ((q0 2), zi k2 4800 f2), ((q0 3), zi k3 400 f3), ((q0 7), zi k6 120 f6), ((q0 28), zi k20 400 f20), ((q0 72), zi k47 13 f47), ((q0 17), zi k14 12 f14)] := hD
  refine lv_aload_n hx hb dX13_nearest_5 rfl (lv_at hl 0 rfl) ?_
  have hPc := hP.sub (ws' := [(h0, .inr (13, mX13 q0 (upd v0 21 0))), ((q0 0), zi k1 600 f1), ((q0 19), zi k15 12 f15)]) [0, 1, 2] rfl
  have hDc := hD.sub (ws' := [(h0, .inr (13, mX13 q0 (upd v0 21 0))), ((q0 0), zi k1 600 f1), ((q0 19), zi k15 12 f15)]) [0, 1, 2] (by decide) rfl
  have hKc := hK.sub (tys' := [(k1, .byte), (k15, .byte)]) [0, 1] rfl
  have hFc := va_free (wc := [(h0, .inr (13, mX13 q0 (upd v0 21 0))), ((q0 0), zi k1 600 f1), ((q0 19), zi k15 12 f15)]) hD hS hA [0, 1, 2] rfl
  refine va_calli (va_runV (As := []) (rest := []) ⟨hx, hb, hml, hown, hG⟩ (sX13_takesToken_0 l dC dI adK adV h0 q0 k1 k15 H.size (upd v0 21 0) f1 f15 (zR_updF hv0 21 rfl)) (cwV 0 hG (zgV zv1951 zv1953 zv66 zv142 zv1954) rfl rfl rfl (by decide +kernel) ⟨Nat.le_of_ble_eq_true rfl, Nat.le_of_ble_eq_true rfl⟩) ⟨zPc_blind, va_recv hKc hPc (ci := 13) (q0 := 0) rfl rfl, zPc_pre hPc hKc hDc hE hS hFc hZ⟩ rfl rfl hl.1 rfl (lv_room (Nat.le_of_ble_eq_true rfl)) dX13_nearest_6 ⟨Nat.le_of_ble_eq_true rfl, Nat.le_of_ble_eq_true rfl⟩) hS (fun q _ h => hFc q h) hFc (fun r6_ u6_ t H1 locs ht hvm hw hB hz1 hk1 hS => ?_)
  replace hw : (0 ≤ r6_.toInt ∧ r6_.toInt ≤ 1) ∧ (0 ≤ (u6_ 0).toInt ∧ (u6_ 0).toInt ≤ 0) ∧ (0 ≤ (u6_ 1).toInt ∧ (u6_ 1).toInt ≤ 12) ∧ (r6_.toInt = 0 → ∀ i : Int, ¬ zIn f1 (v0 1).toInt i) ∧ (r6_.toInt = (u6_ 2).toInt) := hw
  obtain ⟨b_, b_, b_, hX6_0, b_⟩ := hw
  obtain ⟨w6_, a6_, b6_, hB6_0, hP1, hK1, hD1⟩ := hB
  have hB6_0 : (u6_ 2).toInt = 1 → zTw f1 (v0 1).toInt (a6_ 0) (u6_ 1).toInt := hB6_0
  rw [ht] at hP1
  obtain ⟨hP, hD⟩ := va_join (wr := [((q0 73), zi k48 400 f48), ((q0 6), zi k5 120 f5), ((q0 5), zi k4 122880 f4), ((q0 11), zi k10 120 f10), ((q0 12), zi k11 120 f11), ((q0 2), zi k2 4800 f2), ((q0 3), zi k3 400 f3), ((q0 7), zi k6 120 f6), ((q0 28), zi k20 400 f20), ((q0 72), zi k47 13 f47), ((q0 17), zi k14 12 f14)]) (w1 := [(h0, .inr (13, mX13 q0 (upd (upd (upd v0 1 (u6_ 0)) 20 (u6_ 1)) 21 0))), ((q0 0), zi k1 600 f1), ((q0 19), zi k15 12 (a6_ 0))]) hP hD [0, 1, 2] [3, 4, 5, 6, 7, 8, 9, 10, 11, 12, 13] rfl rfl (by decide) (by decide) hk1 hFc hP1 hD1
  have hP : va_P (dC, dI) vwCl [(h0, .inr (13, mX13 q0 (upd (upd (upd v0 1 (u6_ 0)) 20 (u6_ 1)) 21 0))), ((q0 0), zi k1 600 f1), ((q0 19), zi k15 12 (a6_ 0)), ((q0 73), zi k48 400 f48), ((q0 6), zi k5 120 f5), ((q0 5), zi k4 122880 f4), ((q0 11), zi k10 120 f10), ((q0 12), zi k11 120 f11), ((q0 2), zi k2 4800 f2), ((q0 3), zi k3 400 f3), ((q0 7), zi k6 120 f6), ((q0 28), zi k20 400 f20), ((q0 72), zi k47 13 f47), ((q0 17), zi k14 12 f14)] H1 := hP.sub [11, 12, 13, 0, 1, 2, 3, 4, 5, 6, 7, 8, 9, 10] rfl
  have hD : va_D A [(h0, .inr (13, mX13 q0 (upd (upd (upd v0 1 (u6_ 0)) 20 (u6_ 1)) 21 0))), ((q0 0), zi k1 600 f1), ((q0 19), zi k15 12 (a6_ 0)), ((q0 73), zi k48 400 f48), ((q0 6), zi k5 120 f5), ((q0 5), zi k4 122880 f4), ((q0 11), zi k10 120 f10), ((q0 12), zi k11 120 f11), ((q0 2), zi k2 4800 f2), ((q0 3), zi k3 400 f3), ((q0 7), zi k6 120 f6), ((q0 28), zi k20 400 f20), ((q0 72), zi k47 13 f47), ((q0 17), zi k14 12 f14)] := hD.sub [11, 12, 13, 0, 1, 2, 3, 4, 5, 6, 7, 8, 9, 10] (by decide) rfl
  generalize H1 = H at hP hS ⊢
  clear hz1
  refine lv_if_ne (tgt := 14) hx hb dX13_nearest_9 (by decide) (fun c_ => ?_) (fun c_ => ?_)
  · skip
    have b_ := zT_ne rfl zk_0 c_
    refine lv_aload_n hx hb dX13_nearest_14 rfl (lv_at hl 0 rfl) ?_
    have hPc := hP.sub (ws' := [(h0, .inr (13, mX13 q0 (upd (upd (upd v0 1 (u6_ 0)) 20 (u6_ 1)) 21 0))), ((q0 73), zi k48 400 f48), ((q0 6), zi k5 120 f5), ((q0 5), zi k4 122880 f4), ((q0 11), zi k10 120 f10), ((q0 12), zi k11 120 f11), ((q0 2), zi k2 4800 f2), ((q0 3), zi k3 400 f3), ((q0 7), zi k6 120 f6), ((q0 28), zi k20 400 f20)]) [0, 3, 4, 5, 6, 7, 8, 9, 10, 11] rfl
    have hDc := hD.sub (ws' := [(h0, .inr (13, mX13 q0 (upd (upd (upd v0 1 (u6_ 0)) 20 (u6_ 1)) 21 0))), ((q0 73), zi k48 400 f48), ((q0 6), zi k5 120 f5), ((q0 5), zi k4 122880 f4), ((q0 11), zi k10 120 f10), ((q0 12), zi k11 120 f11), ((q0 2), zi k2 4800 f2), ((q0 3), zi k3 400 f3), ((q0 7), zi k6 120 f6), ((q0 28), zi k20 400 f20)]) [0, 3, 4, 5, 6, 7, 8, 9, 10, 11] (by decide) rfl
    have hKc := hK.sub (tys' := [(k48, .int), (k5, .boolean), (k4, .short), (k10, .int), (k11, .int), (k2, .byte), (k3, .int), (k6, .boolean), (k20, .int)]) [2, 3, 4, 5, 6, 7, 8, 9, 10] rfl
    have hFc := va_free (wc := [(h0, .inr (13, mX13 q0 (upd (upd (upd v0 1 (u6_ 0)) 20 (u6_ 1)) 21 0))), ((q0 73), zi k48 400 f48), ((q0 6), zi k5 120 f5), ((q0 5), zi k4 122880 f4), ((q0 11), zi k10 120 f10), ((q0 12), zi k11 120 f11), ((q0 2), zi k2 4800 f2), ((q0 3), zi k3 400 f3), ((q0 7), zi k6 120 f6), ((q0 28), zi k20 400 f20)]) hD hS hA [0, 3, 4, 5, 6, 7, 8, 9, 10, 11] rfl
    refine va_callv (va_runV (As := []) (rest := []) ⟨hx, hb, hml, hown, hG⟩ (sX13_hold_0 l dC dI adK adV h0 q0 k48 k5 k4 k10 k11 k2 k3 k6 k20 H.size (upd (upd (upd v0 1 (u6_ 0)) 20 (u6_ 1)) 21 0) f48 f5 f4 f10 f11 f2 f3 f6 f20 (zR_updF (zR_up2 (zR_up2 hv0 1 (show (0 : Int) ≤ ((u6_ 0) : Int32).toInt ∧ ((u6_ 0) : Int32).toInt ≤ (600 : Int) from (by first | with_reducible assumption | exact ⟨by omega, by omega⟩))) 20 (show (0 : Int) ≤ ((u6_ 1) : Int32).toInt ∧ ((u6_ 1) : Int32).toInt ≤ (12 : Int) from (by first | with_reducible assumption | exact ⟨by omega, by omega⟩))) 21 rfl) hf4 hf10 hf11 hf3) (cwV 0 hG (zgV zv2240 zv2242 zv125 zv142 zv2243) rfl rfl rfl (by decide +kernel) ⟨Nat.le_of_ble_eq_true rfl, Nat.le_of_ble_eq_true rfl⟩) ⟨zPc_blind, va_recv hKc hPc (ci := 13) (q0 := 0) rfl rfl, zPc_pre hPc hKc hDc hE hS hFc hZ⟩ rfl rfl hl.1 rfl (lv_room (Nat.le_of_ble_eq_true rfl)) dX13_nearest_15 ⟨Nat.le_of_ble_eq_true rfl, Nat.le_of_ble_eq_true rfl⟩) hS (fun q _ h => hFc q h) hFc (fun u15_ t H1 locs ht hvm hw hB hz1 hk1 hS => ?_)
    obtain ⟨w15_, a15_, b15_, hB15_0, hB15_1, hP1, hK1, hD1⟩ := hB
    have hB15_0 : zHo (a15_ 0) f5 f4 f10 f11 (v0 4).toInt (v0 13).toInt := hB15_0
    have hB15_1 : zHx (a15_ 0) f5 f2 f3 (v0 4).toInt f4 f6 f10 f11 (v0 13).toInt (v0 13).toInt := hB15_1
    rw [ht] at hP1
    obtain ⟨hP, hD⟩ := va_join (wr := [((q0 0), zi k1 600 f1), ((q0 19), zi k15 12 (a6_ 0)), ((q0 72), zi k47 13 f47), ((q0 17), zi k14 12 f14)]) (w1 := [(h0, .inr (13, mX13 q0 (upd (upd (upd v0 1 (u6_ 0)) 20 (u6_ 1)) 21 0))), ((q0 73), zi k48 400 (a15_ 0)), ((q0 6), zi k5 120 f5), ((q0 5), zi k4 122880 f4), ((q0 11), zi k10 120 f10), ((q0 12), zi k11 120 f11), ((q0 2), zi k2 4800 f2), ((q0 3), zi k3 400 f3), ((q0 7), zi k6 120 f6), ((q0 28), zi k20 400 (a15_ 1))]) hP hD [0, 3, 4, 5, 6, 7, 8, 9, 10, 11] [1, 2, 12, 13] rfl rfl (by decide) (by decide) hk1 hFc hP1 hD1
    have hP : va_P (dC, dI) vwCl [(h0, .inr (13, mX13 q0 (upd (upd (upd v0 1 (u6_ 0)) 20 (u6_ 1)) 21 0))), ((q0 0), zi k1 600 f1), ((q0 19), zi k15 12 (a6_ 0)), ((q0 73), zi k48 400 (a15_ 0)), ((q0 6), zi k5 120 f5), ((q0 5), zi k4 122880 f4), ((q0 11), zi k10 120 f10), ((q0 12), zi k11 120 f11), ((q0 2), zi k2 4800 f2), ((q0 3), zi k3 400 f3), ((q0 7), zi k6 120 f6), ((q0 28), zi k20 400 (a15_ 1)), ((q0 72), zi k47 13 f47), ((q0 17), zi k14 12 f14)] H1 := hP.sub [4, 0, 1, 5, 6, 7, 8, 9, 10, 11, 12, 13, 2, 3] rfl
    have hD : va_D A [(h0, .inr (13, mX13 q0 (upd (upd (upd v0 1 (u6_ 0)) 20 (u6_ 1)) 21 0))), ((q0 0), zi k1 600 f1), ((q0 19), zi k15 12 (a6_ 0)), ((q0 73), zi k48 400 (a15_ 0)), ((q0 6), zi k5 120 f5), ((q0 5), zi k4 122880 f4), ((q0 11), zi k10 120 f10), ((q0 12), zi k11 120 f11), ((q0 2), zi k2 4800 f2), ((q0 3), zi k3 400 f3), ((q0 7), zi k6 120 f6), ((q0 28), zi k20 400 (a15_ 1)), ((q0 72), zi k47 13 f47), ((q0 17), zi k14 12 f14)] := hD.sub [4, 0, 1, 5, 6, 7, 8, 9, 10, 11, 12, 13, 2, 3] (by decide) rfl
    generalize H1 = H at hP hS ⊢
    clear hz1
    refine lv_iconst (v := (-1)) hx hb dX13_nearest_18 (by decide) ?_
    refine lv_istore_n (lv' := [(1, .int (-1)), (0, .ref h0)]) hx hb dX13_nearest_19 rfl hl (by decide) rfl (fun ls hl => ?_)
    refine lv_iconst (v := 3) hx hb dX13_nearest_20 (by decide) ?_
    refine lv_istore_n (lv' := [(2, .int 3), (1, .int (-1)), (0, .ref h0)]) hx hb dX13_nearest_21 rfl hl (by decide) rfl (fun ls hl => ?_)
    refine lv_iconst (v := 0) hx hb dX13_nearest_22 (by decide) ?_
    refine lv_istore_n (lv' := [(3, .int 0), (2, .int 3), (1, .int (-1)), (0, .ref h0)]) hx hb dX13_nearest_23 rfl hl (by decide) rfl (fun ls hl => ?_)
    refine zcutL (fun u24_ => (400 - (u24_ 2).toInt).toNat) (fun H locs ls u24_ w24_ a24_ b24_ => va_P (dC, dI) vwCl [(h0, .inr (13, mX13 q0 (upd (upd (upd v0 1 (u6_ 0)) 20 (u6_ 1)) 21 0))), ((q0 0), zi k1 600 f1), ((q0 19), zi k15 12 (a6_ 0)), ((q0 73), zi k48 400 (a15_ 0)), ((q0 6), zi k5 120 f5), ((q0 5), zi k4 122880 f4), ((q0 11), zi k10 120 f10), ((q0 12), zi k11 120 f11), ((q0 2), zi k2 4800 f2), ((q0 3), zi k3 400 f3), ((q0 7), zi k6 120 f6), ((q0 28), zi k20 400 (a15_ 1)), ((q0 72), zi k47 13 (a24_ 0)), ((q0 17), zi k14 12 f14)] H ∧ va_D A [(h0, .inr (13, mX13 q0 (upd (upd (upd v0 1 (u6_ 0)) 20 (u6_ 1)) 21 0))), ((q0 0), zi k1 600 f1), ((q0 19), zi k15 12 (a6_ 0)), ((q0 73), zi k48 400 (a15_ 0)), ((q0 6), zi k5 120 f5), ((q0 5), zi k4 122880 f4), ((q0 11), zi k10 120 f10), ((q0 12), zi k11 120 f11), ((q0 2), zi k2 4800 f2), ((q0 3), zi k3 400 f3), ((q0 7), zi k6 120 f6), ((q0 28), zi k20 400 (a15_ 1)), ((q0 72), zi k47 13 (a24_ 0)), ((q0 17), zi k14 12 f14)] ∧ va_S A s.heap H locs ∧ lv_has ls 5 [(0, .ref h0), (1, .int (u24_ 0)), (2, .int (u24_ 1)), (3, .int (u24_ 2))] ∧ ((-1) ≤ (u24_ 0).toInt ∧ (u24_ 0).toInt ≤ 399) ∧ ((-2147483648) ≤ (u24_ 1).toInt ∧ (u24_ 1).toInt ≤ 3) ∧ (0 ≤ (u24_ 2).toInt ∧ (u24_ 2).toInt ≤ 400) ∧ (zxF (zxq (a6_ 0) (u6_ 1).toInt f2 f3) ((u24_ 0).toInt ≠ -1) (u24_ 1).toInt (u24_ 2).toInt) ∧ ((u24_ 2).toInt ≤ (v0 4).toInt) ∧ (zxM2 (a6_ 0) (u6_ 1).toInt f2 f3 (a15_ 0) (v0 4).toInt (u24_ 0).toInt (u24_ 1).toInt (u24_ 2).toInt) ∧ ((u24_ 0).toInt < (v0 4).toInt)) (fun ls u24_ w24_ => F0 m 24 ls []) 0 0 ?_ (fun hJ24 => ?_)
    · skip
      intro H locs ls u24_ w24_ a24_ b24_ hc hJ24
      obtain ⟨hP, hD, hS, hl, b_, b_, b_, hI24_0, b_, hI24_2, b_⟩ := hc
      refine lv_iload_n hx hb dX13_nearest_24 rfl (lv_at hl 3 rfl) ?_
      refine lv_aload_n hx hb dX13_nearest_25 rfl (lv_at hl 0 rfl) ?_
      refine va_get (D := (dC, dI)) (ci := 13) (v := .int (v0 4)) (C := RX13) (T := TX13) (N := 75) hx hb hG zuX13 hown hK hP 0 rfl rfl 4 (by decide) (hG _ zv1608) (fun _ h9 => h9) rfl dX13_nearest_26 ?_
      refine lv_icmp_ge (tgt := 118) hx hb dX13_nearest_29 (by decide) (fun c_ => ?_) (fun c_ => ?_)
      · skip
        have b_ := zT_ge rfl rfl c_
        refine lv_iload_n hx hb dX13_nearest_118 rfl (lv_at hl 1 rfl) ?_
        refine lv_iconst (v := (-1)) hx hb dX13_nearest_119 (by decide) ?_
        refine lv_icmp_ne (tgt := 125) hx hb dX13_nearest_120 (by decide) (fun c_ => ?_) (fun c_ => ?_)
        · skip
          have b_ := zT_ne rfl zk_m1 c_
          refine lv_aload_n hx hb dX13_nearest_125 rfl (lv_at hl 0 rfl) ?_
          refine lv_aload_n hx hb dX13_nearest_126 rfl (lv_at hl 0 rfl) ?_
          refine va_get (D := (dC, dI)) (ci := 13) (v := .ref (q0 3)) (C := RX13) (T := TX13) (N := 75) hx hb hG zuX13 hown hK hP 0 rfl rfl 3 (by decide) (hG _ zv1607) (fun _ h9 => h9) rfl dX13_nearest_127 ?_
          refine lv_iload_n hx hb dX13_nearest_130 rfl (lv_at hl 1 rfl) ?_
          refine va_iald hx hb hK hP 9 8 rfl rfl (zin_lit ⟨by omega, by omega⟩) dX13_nearest_131 ?_
          refine lv_topi (fun z131 e_z131 => ?_)
          have b_ : 0 ≤ z131.toInt ∧ z131.toInt ≤ 12 := by rw [e_z131]; exact hf3 _
          refine va_put (D := (dC, dI)) (ci := 13) (v := .int z131) (ty := .int) (C := RX13) (T := TX13) (N := 75) hx hb hG zuX13 tyX13 tyX13_ok nmX13 hown hK hP hD hS 0 rfl rfl 20 (by decide) (hG _ zv1624) (fun _ h9 => h9) rfl (by decide +kernel) rfl rfl (Nat.le_of_ble_eq_true rfl) dX13_nearest_132 (fun H locs hP hD hS => ?_)
          have hP : va_P (dC, dI) vwCl [(h0, .inr (13, mX13 q0 (upd (upd (upd v0 1 (u6_ 0)) 20 z131) 21 0))), ((q0 0), zi k1 600 f1), ((q0 19), zi k15 12 (a6_ 0)), ((q0 73), zi k48 400 (a15_ 0)), ((q0 6), zi k5 120 f5), ((q0 5), zi k4 122880 f4), ((q0 11), zi k10 120 f10), ((q0 12), zi k11 120 f11), ((q0 2), zi k2 4800 f2), ((q0 3), zi k3 400 f3), ((q0 7), zi k6 120 f6), ((q0 28), zi k20 400 (a15_ 1)), ((q0 72), zi k47 13 (a24_ 0)), ((q0 17), zi k14 12 f14)] H := hP
          have hD : va_D A [(h0, .inr (13, mX13 q0 (upd (upd (upd v0 1 (u6_ 0)) 20 z131) 21 0))), ((q0 0), zi k1 600 f1), ((q0 19), zi k15 12 (a6_ 0)), ((q0 73), zi k48 400 (a15_ 0)), ((q0 6), zi k5 120 f5), ((q0 5), zi k4 122880 f4), ((q0 11), zi k10 120 f10), ((q0 12), zi k11 120 f11), ((q0 2), zi k2 4800 f2), ((q0 3), zi k3 400 f3), ((q0 7), zi k6 120 f6), ((q0 28), zi k20 400 (a15_ 1)), ((q0 72), zi k47 13 (a24_ 0)), ((q0 17), zi k14 12 f14)] := hD
          refine lv_iconst (v := 0) hx hb dX13_nearest_135 (by decide) ?_
          refine lv_istore_n (lv' := [(3, .int 0), (0, .ref h0), (1, .int (u24_ 0)), (2, .int (u24_ 1))]) hx hb dX13_nearest_136 rfl hl (by decide) rfl (fun ls hl => ?_)
          refine zcutL (fun u137_ => (12 - (u137_ 0).toInt).toNat) (fun H locs ls u137_ w137_ a137_ b137_ => va_P (dC, dI) vwCl [(h0, .inr (13, mX13 q0 (upd (upd (upd v0 1 (u6_ 0)) 20 z131) 21 0))), ((q0 0), zi k1 600 f1), ((q0 19), zi k15 12 (a137_ 0)), ((q0 73), zi k48 400 (a15_ 0)), ((q0 6), zi k5 120 f5), ((q0 5), zi k4 122880 f4), ((q0 11), zi k10 120 f10), ((q0 12), zi k11 120 f11), ((q0 2), zi k2 4800 f2), ((q0 3), zi k3 400 f3), ((q0 7), zi k6 120 f6), ((q0 28), zi k20 400 (a15_ 1)), ((q0 72), zi k47 13 (a24_ 0)), ((q0 17), zi k14 12 f14)] H ∧ va_D A [(h0, .inr (13, mX13 q0 (upd (upd (upd v0 1 (u6_ 0)) 20 z131) 21 0))), ((q0 0), zi k1 600 f1), ((q0 19), zi k15 12 (a137_ 0)), ((q0 73), zi k48 400 (a15_ 0)), ((q0 6), zi k5 120 f5), ((q0 5), zi k4 122880 f4), ((q0 11), zi k10 120 f10), ((q0 12), zi k11 120 f11), ((q0 2), zi k2 4800 f2), ((q0 3), zi k3 400 f3), ((q0 7), zi k6 120 f6), ((q0 28), zi k20 400 (a15_ 1)), ((q0 72), zi k47 13 (a24_ 0)), ((q0 17), zi k14 12 f14)] ∧ va_S A s.heap H locs ∧ lv_has ls 5 [(0, .ref h0), (1, .int (u24_ 0)), (2, .int (u24_ 1)), (3, .int (u137_ 0))] ∧ (0 ≤ (u137_ 0).toInt ∧ (u137_ 0).toInt ≤ 12) ∧ (zCy (a137_ 0) f2 (12 * (u24_ 0).toInt) (u137_ 0).toInt)) (fun ls u137_ w137_ => F0 m 137 ls []) 0 0 ?_ (fun hJ137 => ?_)
          · skip
            intro H locs ls u137_ w137_ a137_ b137_ hc hJ137
            obtain ⟨hP, hD, hS, hl, b_, hI137_0⟩ := hc
            refine lv_iload_n hx hb dX13_nearest_137 rfl (lv_at hl 3 rfl) ?_
            refine lv_aload_n hx hb dX13_nearest_138 rfl (lv_at hl 0 rfl) ?_
            refine va_get (D := (dC, dI)) (ci := 13) (v := .int z131) (C := RX13) (T := TX13) (N := 75) hx hb hG zuX13 hown hK hP 0 rfl rfl 20 (by decide) (hG _ zv1624) (fun _ h9 => h9) rfl dX13_nearest_139 ?_
            refine lv_icmp_ge (tgt := 168) hx hb dX13_nearest_142 (by decide) (fun c_ => ?_) (fun c_ => ?_)
            · skip
              have b_ := zT_ge rfl rfl c_
              refine lv_aload_n hx hb dX13_nearest_168 rfl (lv_at hl 0 rfl) ?_
              have hPc := hP.sub (ws' := [(h0, .inr (13, mX13 q0 (upd (upd (upd v0 1 (u6_ 0)) 20 z131) 21 0))), ((q0 19), zi k15 12 (a137_ 0)), ((q0 17), zi k14 12 f14)]) [0, 2, 13] rfl
              have hDc := hD.sub (ws' := [(h0, .inr (13, mX13 q0 (upd (upd (upd v0 1 (u6_ 0)) 20 z131) 21 0))), ((q0 19), zi k15 12 (a137_ 0)), ((q0 17), zi k14 12 f14)]) [0, 2, 13] (by decide) rfl
              have hKc := hK.sub (tys' := [(k15, .byte), (k14, .byte)]) [1, 12] rfl
              have hFc := va_free (wc := [(h0, .inr (13, mX13 q0 (upd (upd (upd v0 1 (u6_ 0)) 20 z131) 21 0))), ((q0 19), zi k15 12 (a137_ 0)), ((q0 17), zi k14 12 f14)]) hD hS hA [0, 2, 13] rfl
              refine va_callv (va_runV (As := []) (rest := []) ⟨hx, hb, hml, hown, hG⟩ (sX13_lookAt_0 l dC dI adK adV h0 q0 k15 k14 H.size (upd (upd (upd v0 1 (u6_ 0)) 20 z131) 21 0) (a137_ 0) f14 (zR_updF (zR_up2 (zR_up2 hv0 1 (show (0 : Int) ≤ ((u6_ 0) : Int32).toInt ∧ ((u6_ 0) : Int32).toInt ≤ (600 : Int) from (by first | with_reducible assumption | exact ⟨by omega, by omega⟩))) 20 (show (0 : Int) ≤ (z131 : Int32).toInt ∧ (z131 : Int32).toInt ≤ (12 : Int) from (by first | with_reducible assumption | exact ⟨by omega, by omega⟩))) 21 rfl)) (cwV 0 hG (zgV zv1971 zv1973 zv69 zv142 zv1974) rfl rfl rfl (by decide +kernel) ⟨Nat.le_of_ble_eq_true rfl, Nat.le_of_ble_eq_true rfl⟩) ⟨zPc_blind, va_recv hKc hPc (ci := 13) (q0 := 0) rfl rfl, zPc_pre hPc hKc hDc hE hS hFc hZ⟩ rfl rfl hl.1 rfl (lv_room (Nat.le_of_ble_eq_true rfl)) dX13_nearest_169 ⟨Nat.le_of_ble_eq_true rfl, Nat.le_of_ble_eq_true rfl⟩) hS (fun q _ h => hFc q h) hFc (fun u169_ t H1 locs ht hvm hw hB hz1 hk1 hS => ?_)
              replace hw : (0 ≤ (u169_ 0).toInt ∧ (u169_ 0).toInt ≤ 12) ∧ ((u169_ 0).toInt = z131.toInt) := hw
              obtain ⟨b_, hX169_0⟩ := hw
              obtain ⟨w169_, a169_, b169_, hB169_0, hP1, hK1, hD1⟩ := hB
              have hB169_0 : zCy (a169_ 0) (a137_ 0) 0 z131.toInt := hB169_0
              rw [ht] at hP1
              obtain ⟨hP, hD⟩ := va_join (wr := [((q0 0), zi k1 600 f1), ((q0 73), zi k48 400 (a15_ 0)), ((q0 6), zi k5 120 f5), ((q0 5), zi k4 122880 f4), ((q0 11), zi k10 120 f10), ((q0 12), zi k11 120 f11), ((q0 2), zi k2 4800 f2), ((q0 3), zi k3 400 f3), ((q0 7), zi k6 120 f6), ((q0 28), zi k20 400 (a15_ 1)), ((q0 72), zi k47 13 (a24_ 0))]) (w1 := [(h0, .inr (13, mX13 q0 (upd (upd (upd (upd v0 1 (u6_ 0)) 18 (u169_ 0)) 20 z131) 21 0))), ((q0 19), zi k15 12 (a137_ 0)), ((q0 17), zi k14 12 (a169_ 0))]) hP hD [0, 2, 13] [1, 3, 4, 5, 6, 7, 8, 9, 10, 11, 12] rfl rfl (by decide) (by decide) hk1 hFc hP1 hD1
              have hP : va_P (dC, dI) vwCl [(h0, .inr (13, mX13 q0 (upd (upd (upd (upd v0 1 (u6_ 0)) 18 (u169_ 0)) 20 z131) 21 0))), ((q0 0), zi k1 600 f1), ((q0 19), zi k15 12 (a137_ 0)), ((q0 73), zi k48 400 (a15_ 0)), ((q0 6), zi k5 120 f5), ((q0 5), zi k4 122880 f4), ((q0 11), zi k10 120 f10), ((q0 12), zi k11 120 f11), ((q0 2), zi k2 4800 f2), ((q0 3), zi k3 400 f3), ((q0 7), zi k6 120 f6), ((q0 28), zi k20 400 (a15_ 1)), ((q0 72), zi k47 13 (a24_ 0)), ((q0 17), zi k14 12 (a169_ 0))] H1 := hP.sub [11, 0, 12, 1, 2, 3, 4, 5, 6, 7, 8, 9, 10, 13] rfl
              have hD : va_D A [(h0, .inr (13, mX13 q0 (upd (upd (upd (upd v0 1 (u6_ 0)) 18 (u169_ 0)) 20 z131) 21 0))), ((q0 0), zi k1 600 f1), ((q0 19), zi k15 12 (a137_ 0)), ((q0 73), zi k48 400 (a15_ 0)), ((q0 6), zi k5 120 f5), ((q0 5), zi k4 122880 f4), ((q0 11), zi k10 120 f10), ((q0 12), zi k11 120 f11), ((q0 2), zi k2 4800 f2), ((q0 3), zi k3 400 f3), ((q0 7), zi k6 120 f6), ((q0 28), zi k20 400 (a15_ 1)), ((q0 72), zi k47 13 (a24_ 0)), ((q0 17), zi k14 12 (a169_ 0))] := hD.sub [11, 0, 12, 1, 2, 3, 4, 5, 6, 7, 8, 9, 10, 13] (by decide) rfl
              generalize H1 = H at hP hS ⊢
              clear hz1
              refine lv_iload_n hx hb dX13_nearest_172 rfl (lv_at hl 2 rfl) ?_
              refine W.widen (k := 0) (n := 0) (by decide) (by decide) ?_
              have hpost : ((-2147483648) ≤ (u24_ 1).toInt ∧ (u24_ 1).toInt ≤ 3) ∧ (0 ≤ (u6_ 0).toInt ∧ (u6_ 0).toInt ≤ 0) ∧ ((-1) ≤ (u169_ 0).toInt ∧ (u169_ 0).toInt ≤ 12) ∧ (0 ≤ z131.toInt ∧ z131.toInt ≤ 12) ∧ (0 ≤ (0 : Int32).toInt ∧ (0 : Int32).toInt ≤ 0) ∧ (zxAr f1 (v0 1).toInt f2 f3 (v0 4).toInt (u24_ 1).toInt) ∧ ((u24_ 1).toInt = (u24_ 1).toInt) := ⟨(by first | with_reducible assumption | exact ⟨by omega, by omega⟩), (by first | with_reducible assumption | exact ⟨by omega, by omega⟩), (by first | with_reducible assumption | exact ⟨by omega, by omega⟩), (by first | with_reducible assumption | exact ⟨by omega, by omega⟩), (by first | with_reducible assumption | exact ⟨by omega, by omega⟩), by first | exact zxAr_i (hB6_0 (by omega)) hI24_0 (by omega) (by omega) (by omega) | exact zxAr_0 (hX6_0 (by omega)) (by decide), rfl⟩
              have hP9 : va_P (dC, dI) vwCl [(h0, .inr (13, mX13 q0 (upd (upd (upd (upd v0 1 (u6_ 0)) 18 (u169_ 0)) 20 z131) 21 0))), ((q0 0), zi k1 600 f1), ((q0 19), zi k15 12 (a137_ 0)), ((q0 73), zi k48 400 (a15_ 0)), ((q0 6), zi k5 120 f5), ((q0 5), zi k4 122880 f4), ((q0 11), zi k10 120 f10), ((q0 12), zi k11 120 f11), ((q0 2), zi k2 4800 f2), ((q0 3), zi k3 400 f3), ((q0 7), zi k6 120 f6), ((q0 28), zi k20 400 (a15_ 1)), ((q0 72), zi k47 13 (a24_ 0)), ((q0 17), zi k14 12 (a169_ 0))] H := hP
              have hD9 : va_D A [(h0, .inr (13, mX13 q0 (upd (upd (upd (upd v0 1 (u6_ 0)) 18 (u169_ 0)) 20 z131) 21 0))), ((q0 0), zi k1 600 f1), ((q0 19), zi k15 12 (a137_ 0)), ((q0 73), zi k48 400 (a15_ 0)), ((q0 6), zi k5 120 f5), ((q0 5), zi k4 122880 f4), ((q0 11), zi k10 120 f10), ((q0 12), zi k11 120 f11), ((q0 2), zi k2 4800 f2), ((q0 3), zi k3 400 f3), ((q0 7), zi k6 120 f6), ((q0 28), zi k20 400 (a15_ 1)), ((q0 72), zi k47 13 (a24_ 0)), ((q0 17), zi k14 12 (a169_ 0))] := hD
              have hB0 : zxAr2 f1 (v0 1).toInt f2 f3 (v0 4).toInt f4 f6 f10 f11 (v0 13).toInt f5 f14 (a169_ 0) (v0 18).toInt (u169_ 0).toInt (u24_ 1).toInt := by first | exact zxAr2_i (hB6_0 (by omega)) hI24_2 hB15_1 (by omega) (by omega) (Or.inr ⟨by omega, rfl, fun q1 q2 q3 q4 => zWl_b (zCy_e (zCy_t hB169_0 (zCy_e hI137_0 (by omega)) rfl) (by omega)) (hX169_0.trans (congrArg Int32.toInt e_z131)) q1 q2 q3 q4⟩) | exact zxAr2_i (hB6_0 (by omega)) hI24_2 hB15_1 (by omega) (by omega) (Or.inl ⟨by omega, by decide, rfl, rfl⟩) | exact zxAr2_0 (hX6_0 (by omega)) (by decide)
              exact W.iret (v := (u24_ 1)) hx hb hr (fun t ht hW => ⟨⟨(u24_ 1), (fun i => ([(u6_ 0), (u169_ 0), z131, 0, (u24_ 1)] : List (Int32)).getD i 0), rfl, hpost, (fun _ => 0), (fun i => ([(a137_ 0), (a15_ 0), (a15_ 1), (a24_ 0), (a169_ 0)] : List (Nat → Int32)).getD i (fun _ => 0)), (fun _ => (fun _ => 0)), hB0, by rw [ht]; exact hP9, va_K.moved hW.alike hK, hD9⟩, hS.F ht⟩) hS.2.2 dX13_nearest_173
            · skip
              have b_ := zF_ge rfl rfl c_
              refine lv_aload_n hx hb dX13_nearest_145 rfl (lv_at hl 0 rfl) ?_
              refine va_get (D := (dC, dI)) (ci := 13) (v := .ref (q0 19)) (C := RX13) (T := TX13) (N := 75) hx hb hG zuX13 hown hK hP 0 rfl rfl 19 (by decide) (hG _ zv1623) (fun _ h9 => h9) rfl dX13_nearest_146 ?_
              refine lv_iload_n hx hb dX13_nearest_149 rfl (lv_at hl 3 rfl) ?_
              refine lv_aload_n hx hb dX13_nearest_150 rfl (lv_at hl 0 rfl) ?_
              refine va_get (D := (dC, dI)) (ci := 13) (v := .ref (q0 2)) (C := RX13) (T := TX13) (N := 75) hx hb hG zuX13 hown hK hP 0 rfl rfl 2 (by decide) (hG _ zv1606) (fun _ h9 => h9) rfl dX13_nearest_151 ?_
              refine lv_bipush (v := 12) hx hb dX13_nearest_154 (by decide) ?_
              refine lv_iload_n hx hb dX13_nearest_156 rfl (lv_at hl 1 rfl) ?_
              refine lv_imul hx hb dX13_nearest_157 ?_
              refine lv_topi (fun z157 e_z157 => ?_)
              have b_ := zmul zk_12 rfl e_z157 (by omega) (by omega)
              refine lv_iload_n hx hb dX13_nearest_158 rfl (lv_at hl 3 rfl) ?_
              refine lv_iadd hx hb dX13_nearest_159 ?_
              refine lv_topi (fun z159 e_z159 => ?_)
              have b_ := zadd rfl rfl e_z159 (by omega) (by omega)
              refine va_bald hx hb hK hP 8 7 rfl rfl (zin_lit ⟨by omega, by omega⟩) dX13_nearest_160 ?_
              refine lv_topi (fun z160 e_z160 => ?_)
              refine va_bast hx hb hK hP hD hS 2 1 rfl rfl (zin_lit ⟨by omega, by omega⟩) dX13_nearest_161 (fun H locs hP hD hS => ?_)
              obtain ⟨f_161, e_f_161⟩ : ∃ z : Nat → Int32, z = upd (a137_ 0) ((u137_ 0) : Int32).toNatClampNeg (vp_nar .byte z160) := ⟨_, rfl⟩
              have hP : va_P (dC, dI) vwCl [(h0, .inr (13, mX13 q0 (upd (upd (upd v0 1 (u6_ 0)) 20 z131) 21 0))), ((q0 0), zi k1 600 f1), ((q0 19), zi k15 12 f_161), ((q0 73), zi k48 400 (a15_ 0)), ((q0 6), zi k5 120 f5), ((q0 5), zi k4 122880 f4), ((q0 11), zi k10 120 f10), ((q0 12), zi k11 120 f11), ((q0 2), zi k2 4800 f2), ((q0 3), zi k3 400 f3), ((q0 7), zi k6 120 f6), ((q0 28), zi k20 400 (a15_ 1)), ((q0 72), zi k47 13 (a24_ 0)), ((q0 17), zi k14 12 f14)] H := by rw [e_f_161]; exact hP
              have hD : va_D A [(h0, .inr (13, mX13 q0 (upd (upd (upd v0 1 (u6_ 0)) 20 z131) 21 0))), ((q0 0), zi k1 600 f1), ((q0 19), zi k15 12 f_161), ((q0 73), zi k48 400 (a15_ 0)), ((q0 6), zi k5 120 f5), ((q0 5), zi k4 122880 f4), ((q0 11), zi k10 120 f10), ((q0 12), zi k11 120 f11), ((q0 2), zi k2 4800 f2), ((q0 3), zi k3 400 f3), ((q0 7), zi k6 120 f6), ((q0 28), zi k20 400 (a15_ 1)), ((q0 72), zi k47 13 (a24_ 0)), ((q0 17), zi k14 12 f14)] := by rw [e_f_161]; exact hD
              obtain ⟨z162, e_z162⟩ : ∃ z : Int32, z = (u137_ 0) + Int32.ofInt 1 := ⟨_, rfl⟩
              have b_ := zadd (x := (u137_ 0)) (y := Int32.ofInt 1) rfl (show (Int32.ofInt 1).toInt = 1 from by decide) e_z162 (by omega) (by omega)
              refine lv_iinc (v := z162) (lv' := [(3, .int z162), (0, .ref h0), (1, .int (u24_ 0)), (2, .int (u24_ 1))]) hx hb dX13_nearest_162 hl (k := 3) rfl e_z162.symm (by decide) rfl (fun ls hl => ?_)
              have hcy : zCy f_161 f2 (12 * (u24_ 0).toInt) z162.toInt := zCy_s hI137_0 (by omega) (by omega) e_z160 (by omega) e_f_161 rfl (by omega)
              refine lv_goto (tgt := 137) hx hb dX13_nearest_165 (by decide) ?_
              have hc : va_P (dC, dI) vwCl [(h0, .inr (13, mX13 q0 (upd (upd (upd v0 1 (u6_ 0)) 20 z131) 21 0))), ((q0 0), zi k1 600 f1), ((q0 19), zi k15 12 f_161), ((q0 73), zi k48 400 (a15_ 0)), ((q0 6), zi k5 120 f5), ((q0 5), zi k4 122880 f4), ((q0 11), zi k10 120 f10), ((q0 12), zi k11 120 f11), ((q0 2), zi k2 4800 f2), ((q0 3), zi k3 400 f3), ((q0 7), zi k6 120 f6), ((q0 28), zi k20 400 (a15_ 1)), ((q0 72), zi k47 13 (a24_ 0)), ((q0 17), zi k14 12 f14)] H ∧ va_D A [(h0, .inr (13, mX13 q0 (upd (upd (upd v0 1 (u6_ 0)) 20 z131) 21 0))), ((q0 0), zi k1 600 f1), ((q0 19), zi k15 12 f_161), ((q0 73), zi k48 400 (a15_ 0)), ((q0 6), zi k5 120 f5), ((q0 5), zi k4 122880 f4), ((q0 11), zi k10 120 f10), ((q0 12), zi k11 120 f11), ((q0 2), zi k2 4800 f2), ((q0 3), zi k3 400 f3), ((q0 7), zi k6 120 f6), ((q0 28), zi k20 400 (a15_ 1)), ((q0 72), zi k47 13 (a24_ 0)), ((q0 17), zi k14 12 f14)] ∧ va_S A s.heap H locs ∧ lv_has ls 5 [(0, .ref h0), (1, .int (u24_ 0)), (2, .int (u24_ 1)), (3, .int z162)] ∧ (0 ≤ z162.toInt ∧ z162.toInt ≤ 12) ∧ (zCy f_161 f2 (12 * (u24_ 0).toInt) z162.toInt) := ⟨hP, hD, hS, lv_sub hl [1, 2, 3, 0] rfl, (by first | with_reducible assumption | exact ⟨by omega, by omega⟩), by first | exact hcy | exact zCy_0 (by decide)⟩
              exact hJ137 H locs ls (fun i => ([z162] : List (Int32)).getD i 0) (fun _ => 0) (fun i => ([f_161] : List (Nat → Int32)).getD i (fun _ => 0)) (fun _ => (fun _ => 0)) hc (show (12 - z162.toInt).toNat < (12 - (u137_ 0).toInt).toNat from by omega)
          · skip
            have hc : va_P (dC, dI) vwCl [(h0, .inr (13, mX13 q0 (upd (upd (upd v0 1 (u6_ 0)) 20 z131) 21 0))), ((q0 0), zi k1 600 f1), ((q0 19), zi k15 12 (a6_ 0)), ((q0 73), zi k48 400 (a15_ 0)), ((q0 6), zi k5 120 f5), ((q0 5), zi k4 122880 f4), ((q0 11), zi k10 120 f10), ((q0 12), zi k11 120 f11), ((q0 2), zi k2 4800 f2), ((q0 3), zi k3 400 f3), ((q0 7), zi k6 120 f6), ((q0 28), zi k20 400 (a15_ 1)), ((q0 72), zi k47 13 (a24_ 0)), ((q0 17), zi k14 12 f14)] H ∧ va_D A [(h0, .inr (13, mX13 q0 (upd (upd (upd v0 1 (u6_ 0)) 20 z131) 21 0))), ((q0 0), zi k1 600 f1), ((q0 19), zi k15 12 (a6_ 0)), ((q0 73), zi k48 400 (a15_ 0)), ((q0 6), zi k5 120 f5), ((q0 5), zi k4 122880 f4), ((q0 11), zi k10 120 f10), ((q0 12), zi k11 120 f11), ((q0 2), zi k2 4800 f2), ((q0 3), zi k3 400 f3), ((q0 7), zi k6 120 f6), ((q0 28), zi k20 400 (a15_ 1)), ((q0 72), zi k47 13 (a24_ 0)), ((q0 17), zi k14 12 f14)] ∧ va_S A s.heap H locs ∧ lv_has ls 5 [(0, .ref h0), (1, .int (u24_ 0)), (2, .int (u24_ 1)), (3, .int 0)] ∧ (0 ≤ (0 : Int32).toInt ∧ (0 : Int32).toInt ≤ 12) ∧ (zCy (a6_ 0) f2 (12 * (u24_ 0).toInt) (0 : Int32).toInt) := ⟨hP, hD, hS, lv_sub hl [1, 2, 3, 0] rfl, (by first | with_reducible assumption | exact ⟨by omega, by omega⟩), by first | exact hcy | exact zCy_0 (by decide)⟩
            exact hJ137 H locs ls (fun i => ([0] : List (Int32)).getD i 0) (fun _ => 0) (fun i => ([(a6_ 0)] : List (Nat → Int32)).getD i (fun _ => 0)) (fun _ => (fun _ => 0)) hc
        · skip
          have b_ := zF_ne rfl zk_m1 c_
          refine lv_iconst (v := (-1)) hx hb dX13_nearest_123 (by decide) ?_
          refine W.widen (k := 0) (n := 0) (by decide) (by decide) ?_
          have b_ : (-1) ≤ (v0 18).toInt ∧ (v0 18).toInt ≤ 12 := hv0 18
          have hpost : ((-2147483648) ≤ ((-1) : Int32).toInt ∧ ((-1) : Int32).toInt ≤ 3) ∧ (0 ≤ (u6_ 0).toInt ∧ (u6_ 0).toInt ≤ 0) ∧ ((-1) ≤ (v0 18).toInt ∧ (v0 18).toInt ≤ 12) ∧ (0 ≤ (u6_ 1).toInt ∧ (u6_ 1).toInt ≤ 12) ∧ (0 ≤ (0 : Int32).toInt ∧ (0 : Int32).toInt ≤ 0) ∧ (zxAr f1 (v0 1).toInt f2 f3 (v0 4).toInt ((-1) : Int32).toInt) ∧ (((-1) : Int32).toInt = ((-1) : Int32).toInt) := ⟨(by first | with_reducible assumption | exact ⟨by omega, by omega⟩), (by first | with_reducible assumption | exact ⟨by omega, by omega⟩), (by first | with_reducible assumption | exact ⟨by omega, by omega⟩), (by first | with_reducible assumption | exact ⟨by omega, by omega⟩), (by first | with_reducible assumption | exact ⟨by omega, by omega⟩), by first | exact zxAr_i (hB6_0 (by omega)) hI24_0 (by omega) (by omega) (by omega) | exact zxAr_0 (hX6_0 (by omega)) (by decide), rfl⟩
          have hP9 : va_P (dC, dI) vwCl [(h0, .inr (13, mX13 q0 (upd (upd (upd (upd v0 1 (u6_ 0)) 18 (v0 18)) 20 (u6_ 1)) 21 0))), ((q0 0), zi k1 600 f1), ((q0 19), zi k15 12 (a6_ 0)), ((q0 73), zi k48 400 (a15_ 0)), ((q0 6), zi k5 120 f5), ((q0 5), zi k4 122880 f4), ((q0 11), zi k10 120 f10), ((q0 12), zi k11 120 f11), ((q0 2), zi k2 4800 f2), ((q0 3), zi k3 400 f3), ((q0 7), zi k6 120 f6), ((q0 28), zi k20 400 (a15_ 1)), ((q0 72), zi k47 13 (a24_ 0)), ((q0 17), zi k14 12 f14)] H := hP
          have hD9 : va_D A [(h0, .inr (13, mX13 q0 (upd (upd (upd (upd v0 1 (u6_ 0)) 18 (v0 18)) 20 (u6_ 1)) 21 0))), ((q0 0), zi k1 600 f1), ((q0 19), zi k15 12 (a6_ 0)), ((q0 73), zi k48 400 (a15_ 0)), ((q0 6), zi k5 120 f5), ((q0 5), zi k4 122880 f4), ((q0 11), zi k10 120 f10), ((q0 12), zi k11 120 f11), ((q0 2), zi k2 4800 f2), ((q0 3), zi k3 400 f3), ((q0 7), zi k6 120 f6), ((q0 28), zi k20 400 (a15_ 1)), ((q0 72), zi k47 13 (a24_ 0)), ((q0 17), zi k14 12 f14)] := hD
          have hB0 : zxAr2 f1 (v0 1).toInt f2 f3 (v0 4).toInt f4 f6 f10 f11 (v0 13).toInt f5 f14 f14 (v0 18).toInt (v0 18).toInt ((-1) : Int32).toInt := by first | exact zxAr2_i (hB6_0 (by omega)) hI24_2 hB15_1 (by omega) (by omega) (Or.inr ⟨by omega, rfl, fun q1 q2 q3 q4 => zWl_b (zCy_e (zCy_t hB169_0 (zCy_e hI137_0 (by omega)) rfl) (by omega)) (hX169_0.trans (congrArg Int32.toInt e_z131)) q1 q2 q3 q4⟩) | exact zxAr2_i (hB6_0 (by omega)) hI24_2 hB15_1 (by omega) (by omega) (Or.inl ⟨by omega, by decide, rfl, rfl⟩) | exact zxAr2_0 (hX6_0 (by omega)) (by decide)
          exact W.iret (v := (-1)) hx hb hr (fun t ht hW => ⟨⟨(-1), (fun i => ([(u6_ 0), (v0 18), (u6_ 1), 0, (-1)] : List (Int32)).getD i 0), rfl, hpost, (fun _ => 0), (fun i => ([(a6_ 0), (a15_ 0), (a15_ 1), (a24_ 0), f14] : List (Nat → Int32)).getD i (fun _ => 0)), (fun _ => (fun _ => 0)), hB0, by rw [ht]; exact hP9, va_K.moved hW.alike hK, hD9⟩, hS.F ht⟩) hS.2.2 dX13_nearest_124
      · skip
        have b_ := zF_ge rfl rfl c_
        refine lv_aload_n hx hb dX13_nearest_32 rfl (lv_at hl 0 rfl) ?_
        refine lv_iload_n hx hb dX13_nearest_33 rfl (lv_at hl 3 rfl) ?_
        have hPc := hP.sub (ws' := [(h0, .inr (13, mX13 q0 (upd (upd (upd v0 1 (u6_ 0)) 20 (u6_ 1)) 21 0))), ((q0 3), zi k3 400 f3), ((q0 72), zi k47 13 (a24_ 0)), ((q0 19), zi k15 12 (a6_ 0)), ((q0 2), zi k2 4800 f2)]) [0, 9, 12, 2, 8] rfl
        have hDc := hD.sub (ws' := [(h0, .inr (13, mX13 q0 (upd (upd (upd v0 1 (u6_ 0)) 20 (u6_ 1)) 21 0))), ((q0 3), zi k3 400 f3), ((q0 72), zi k47 13 (a24_ 0)), ((q0 19), zi k15 12 (a6_ 0)), ((q0 2), zi k2 4800 f2)]) [0, 9, 12, 2, 8] (by decide) rfl
        have hKc := hK.sub (tys' := [(k3, .int), (k47, .int), (k15, .byte), (k2, .byte)]) [8, 11, 1, 7] rfl
        have hFc := va_free (wc := [(h0, .inr (13, mX13 q0 (upd (upd (upd v0 1 (u6_ 0)) 20 (u6_ 1)) 21 0))), ((q0 3), zi k3 400 f3), ((q0 72), zi k47 13 (a24_ 0)), ((q0 19), zi k15 12 (a6_ 0)), ((q0 2), zi k2 4800 f2)]) hD hS hA [0, 9, 12, 2, 8] rfl
        refine va_calli (va_runV (As := [.int (u24_ 2)]) (rest := []) ⟨hx, hb, hml, hown, hG⟩ (sX13_distance_0 l dC dI adK adV h0 q0 k3 k47 k15 k2 H.size (upd (upd (upd v0 1 (u6_ 0)) 20 (u6_ 1)) 21 0) f3 (a24_ 0) (a6_ 0) f2 (u24_ 2) (zR_updF (zR_up2 (zR_up2 hv0 1 (show (0 : Int) ≤ ((u6_ 0) : Int32).toInt ∧ ((u6_ 0) : Int32).toInt ≤ (600 : Int) from (by first | with_reducible assumption | exact ⟨by omega, by omega⟩))) 20 (show (0 : Int) ≤ ((u6_ 1) : Int32).toInt ∧ ((u6_ 1) : Int32).toInt ≤ (12 : Int) from (by first | with_reducible assumption | exact ⟨by omega, by omega⟩))) 21 rfl) hf3 (show (0 : Int) ≤ ((u24_ 2) : Int32).toInt ∧ ((u24_ 2) : Int32).toInt ≤ (399 : Int) from (by first | with_reducible assumption | exact ⟨by omega, by omega⟩))) (cwV 1 hG (zgV zv2244 zv2246 zv126 zv142 zv2247) rfl rfl rfl (by decide +kernel) ⟨Nat.le_of_ble_eq_true rfl, Nat.le_of_ble_eq_true rfl⟩) ⟨zPc_blind, va_recv hKc hPc (ci := 13) (q0 := 0) rfl rfl, zPc_pre hPc hKc hDc hE hS hFc hZ⟩ rfl rfl hl.1 rfl (lv_room (Nat.le_of_ble_eq_true rfl)) dX13_nearest_34 ⟨Nat.le_of_ble_eq_true rfl, Nat.le_of_ble_eq_true rfl⟩) hS (fun q _ h => hFc q h) hFc (fun r34_ u34_ t H1 locs ht hvm hw hB hz1 hk1 hS => ?_)
        replace hw : (0 ≤ r34_.toInt) ∧ (r34_.toInt = zxq (a6_ 0) (u6_ 1).toInt f2 f3 ((u24_ 2).toInt).toNat) := hw
        obtain ⟨hX34_0, hX34_1⟩ := hw
        obtain ⟨w34_, a34_, b34_, hP1, hK1, hD1⟩ := hB
        rw [ht] at hP1
        obtain ⟨hP, hD⟩ := va_join (wr := [((q0 0), zi k1 600 f1), ((q0 73), zi k48 400 (a15_ 0)), ((q0 6), zi k5 120 f5), ((q0 5), zi k4 122880 f4), ((q0 11), zi k10 120 f10), ((q0 12), zi k11 120 f11), ((q0 7), zi k6 120 f6), ((q0 28), zi k20 400 (a15_ 1)), ((q0 17), zi k14 12 f14)]) (w1 := [(h0, .inr (13, mX13 q0 (upd (upd (upd v0 1 (u6_ 0)) 20 (u6_ 1)) 21 0))), ((q0 3), zi k3 400 f3), ((q0 72), zi k47 13 (a34_ 0)), ((q0 19), zi k15 12 (a6_ 0)), ((q0 2), zi k2 4800 f2)]) hP hD [0, 9, 12, 2, 8] [1, 3, 4, 5, 6, 7, 10, 11, 13] rfl rfl (by decide) (by decide) hk1 hFc hP1 hD1
        have hP : va_P (dC, dI) vwCl [(h0, .inr (13, mX13 q0 (upd (upd (upd v0 1 (u6_ 0)) 20 (u6_ 1)) 21 0))), ((q0 0), zi k1 600 f1), ((q0 19), zi k15 12 (a6_ 0)), ((q0 73), zi k48 400 (a15_ 0)), ((q0 6), zi k5 120 f5), ((q0 5), zi k4 122880 f4), ((q0 11), zi k10 120 f10), ((q0 12), zi k11 120 f11), ((q0 2), zi k2 4800 f2), ((q0 3), zi k3 400 f3), ((q0 7), zi k6 120 f6), ((q0 28), zi k20 400 (a15_ 1)), ((q0 72), zi k47 13 (a34_ 0)), ((q0 17), zi k14 12 f14)] H1 := hP.sub [9, 0, 12, 1, 2, 3, 4, 5, 13, 10, 6, 7, 11, 8] rfl
        have hD : va_D A [(h0, .inr (13, mX13 q0 (upd (upd (upd v0 1 (u6_ 0)) 20 (u6_ 1)) 21 0))), ((q0 0), zi k1 600 f1), ((q0 19), zi k15 12 (a6_ 0)), ((q0 73), zi k48 400 (a15_ 0)), ((q0 6), zi k5 120 f5), ((q0 5), zi k4 122880 f4), ((q0 11), zi k10 120 f10), ((q0 12), zi k11 120 f11), ((q0 2), zi k2 4800 f2), ((q0 3), zi k3 400 f3), ((q0 7), zi k6 120 f6), ((q0 28), zi k20 400 (a15_ 1)), ((q0 72), zi k47 13 (a34_ 0)), ((q0 17), zi k14 12 f14)] := hD.sub [9, 0, 12, 1, 2, 3, 4, 5, 13, 10, 6, 7, 11, 8] (by decide) rfl
        generalize H1 = H at hP hS ⊢
        clear hz1
        refine lv_istore (lv' := [(4, .int r34_), (0, .ref h0), (1, .int (u24_ 0)), (2, .int (u24_ 1)), (3, .int (u24_ 2))]) hx hb dX13_nearest_37 hl (by decide) rfl (fun ls hl => ?_)
        refine lv_iload hx hb dX13_nearest_39 (lv_at hl 0 rfl) ?_
        refine lv_iconst (v := 2) hx hb dX13_nearest_41 (by decide) ?_
        have b_ : -2147483648 ≤ r34_.toInt ∧ r34_.toInt ≤ 2147483647 := ⟨zlo _, zhi _⟩
        refine lv_icmp_gt (tgt := 112) hx hb dX13_nearest_42 (by decide) (fun c_ => ?_) (fun c_ => ?_)
        · skip
          have b_ := zT_gt rfl zk_2 c_
          obtain ⟨z112, e_z112⟩ : ∃ z : Int32, z = (u24_ 2) + Int32.ofInt 1 := ⟨_, rfl⟩
          have b_ := zadd (x := (u24_ 2)) (y := Int32.ofInt 1) rfl (show (Int32.ofInt 1).toInt = 1 from by decide) e_z112 (by omega) (by omega)
          refine lv_iinc (v := z112) (lv' := [(3, .int z112), (4, .int r34_), (0, .ref h0), (1, .int (u24_ 0)), (2, .int (u24_ 1))]) hx hb dX13_nearest_112 hl (k := 4) rfl e_z112.symm (by decide) rfl (fun ls hl => ?_)
          have hxf9 : zxF (zxq (a6_ 0) (u6_ 1).toInt f2 f3) ((u24_ 0).toInt ≠ -1) (u24_ 1).toInt z112.toInt := zxF_k hI24_0 (by omega) (by rw [← hX34_1]; omega) Iff.rfl rfl (by omega)
          have hxm9 : zxM2 (a6_ 0) (u6_ 1).toInt f2 f3 (a15_ 0) (v0 4).toInt (u24_ 0).toInt (u24_ 1).toInt z112.toInt := zxM2_k hI24_2 (by omega) (fun hm => by have k1 := hX34_1; omega) rfl rfl (by omega)
          refine lv_goto (tgt := 24) hx hb dX13_nearest_115 (by decide) ?_
          have hc : va_P (dC, dI) vwCl [(h0, .inr (13, mX13 q0 (upd (upd (upd v0 1 (u6_ 0)) 20 (u6_ 1)) 21 0))), ((q0 0), zi k1 600 f1), ((q0 19), zi k15 12 (a6_ 0)), ((q0 73), zi k48 400 (a15_ 0)), ((q0 6), zi k5 120 f5), ((q0 5), zi k4 122880 f4), ((q0 11), zi k10 120 f10), ((q0 12), zi k11 120 f11), ((q0 2), zi k2 4800 f2), ((q0 3), zi k3 400 f3), ((q0 7), zi k6 120 f6), ((q0 28), zi k20 400 (a15_ 1)), ((q0 72), zi k47 13 (a34_ 0)), ((q0 17), zi k14 12 f14)] H ∧ va_D A [(h0, .inr (13, mX13 q0 (upd (upd (upd v0 1 (u6_ 0)) 20 (u6_ 1)) 21 0))), ((q0 0), zi k1 600 f1), ((q0 19), zi k15 12 (a6_ 0)), ((q0 73), zi k48 400 (a15_ 0)), ((q0 6), zi k5 120 f5), ((q0 5), zi k4 122880 f4), ((q0 11), zi k10 120 f10), ((q0 12), zi k11 120 f11), ((q0 2), zi k2 4800 f2), ((q0 3), zi k3 400 f3), ((q0 7), zi k6 120 f6), ((q0 28), zi k20 400 (a15_ 1)), ((q0 72), zi k47 13 (a34_ 0)), ((q0 17), zi k14 12 f14)] ∧ va_S A s.heap H locs ∧ lv_has ls 5 [(0, .ref h0), (1, .int (u24_ 0)), (2, .int (u24_ 1)), (3, .int z112)] ∧ ((-1) ≤ (u24_ 0).toInt ∧ (u24_ 0).toInt ≤ 399) ∧ ((-2147483648) ≤ (u24_ 1).toInt ∧ (u24_ 1).toInt ≤ 3) ∧ (0 ≤ z112.toInt ∧ z112.toInt ≤ 400) ∧ (zxF (zxq (a6_ 0) (u6_ 1).toInt f2 f3) ((u24_ 0).toInt ≠ -1) (u24_ 1).toInt z112.toInt) ∧ (z112.toInt ≤ (v0 4).toInt) ∧ (zxM2 (a6_ 0) (u6_ 1).toInt f2 f3 (a15_ 0) (v0 4).toInt (u24_ 0).toInt (u24_ 1).toInt z112.toInt) ∧ ((u24_ 0).toInt < (v0 4).toInt) := ⟨hP, hD, hS, lv_sub hl [2, 3, 4, 0] rfl, (by first | with_reducible assumption | exact ⟨by omega, by omega⟩), (by first | with_reducible assumption | exact ⟨by omega, by omega⟩), (by first | with_reducible assumption | exact ⟨by omega, by omega⟩), by first | exact hxf9 | exact zxF_0 (fun c => c (by decide)) (by decide) (by decide), by omega, by first | exact hxm9 | exact zxM2_0 (by decide) (by decide) (by decide), by omega⟩
          exact hJ24 H locs ls (fun i => ([(u24_ 0), (u24_ 1), z112] : List (Int32)).getD i 0) (fun _ => 0) (fun i => ([(a34_ 0)] : List (Nat → Int32)).getD i (fun _ => 0)) (fun _ => (fun _ => 0)) hc (show (400 - z112.toInt).toNat < (400 - (u24_ 2).toInt).toNat from by omega)
        · skip
          have b_ := zF_gt rfl zk_2 c_
          refine lv_iload hx hb dX13_nearest_45 (lv_at hl 0 rfl) ?_
          refine lv_iload_n hx hb dX13_nearest_47 rfl (lv_at hl 3 rfl) ?_
          refine lv_icmp_le (tgt := 54) hx hb dX13_nearest_48 (by decide) (fun c_ => ?_) (fun c_ => ?_)
          · skip
            have b_ := zT_le rfl rfl c_
            refine lv_iload_n hx hb dX13_nearest_54 rfl (lv_at hl 2 rfl) ?_
            refine lv_iconst (v := (-1)) hx hb dX13_nearest_55 (by decide) ?_
            refine lv_icmp_eq (tgt := 107) hx hb dX13_nearest_56 (by decide) (fun c_ => ?_) (fun c_ => ?_)
            · skip
              have b_ := zT_eq rfl zk_m1 c_
              refine lv_iload_n hx hb dX13_nearest_107 rfl (lv_at hl 4 rfl) ?_
              refine lv_istore_n (lv' := [(1, .int (u24_ 2)), (4, .int r34_), (0, .ref h0), (2, .int (u24_ 1)), (3, .int (u24_ 2))]) hx hb dX13_nearest_108 rfl hl (by decide) rfl (fun ls hl => ?_)
              refine lv_iload hx hb dX13_nearest_109 (lv_at hl 1 rfl) ?_
              refine lv_istore_n (lv' := [(2, .int r34_), (1, .int (u24_ 2)), (4, .int r34_), (0, .ref h0), (3, .int (u24_ 2))]) hx hb dX13_nearest_111 rfl hl (by decide) rfl (fun ls hl => ?_)
              obtain ⟨z112, e_z112⟩ : ∃ z : Int32, z = (u24_ 2) + Int32.ofInt 1 := ⟨_, rfl⟩
              have b_ := zadd (x := (u24_ 2)) (y := Int32.ofInt 1) rfl (show (Int32.ofInt 1).toInt = 1 from by decide) e_z112 (by omega) (by omega)
              refine lv_iinc (v := z112) (lv' := [(3, .int z112), (2, .int r34_), (1, .int (u24_ 2)), (4, .int r34_), (0, .ref h0)]) hx hb dX13_nearest_112 hl (k := 4) rfl e_z112.symm (by decide) rfl (fun ls hl => ?_)
              have hxf9 : zxF (zxq (a6_ 0) (u6_ 1).toInt f2 f3) ((u24_ 2).toInt ≠ -1) r34_.toInt z112.toInt := zxF_u hI24_0 (by omega) (by omega) (by omega) (by omega) hX34_1.symm (by omega) rfl (by omega)
              have hxm9 : zxM2 (a6_ 0) (u6_ 1).toInt f2 f3 (a15_ 0) (v0 4).toInt (u24_ 2).toInt r34_.toInt z112.toInt := zxM2_u hI24_2 (by omega) (by rw [← hX34_1]; omega) (by rw [← hX34_1]; omega) (fun hm => by have k1 := hX34_1; omega) rfl hX34_1 (by omega)
              refine lv_goto (tgt := 24) hx hb dX13_nearest_115 (by decide) ?_
              have hc : va_P (dC, dI) vwCl [(h0, .inr (13, mX13 q0 (upd (upd (upd v0 1 (u6_ 0)) 20 (u6_ 1)) 21 0))), ((q0 0), zi k1 600 f1), ((q0 19), zi k15 12 (a6_ 0)), ((q0 73), zi k48 400 (a15_ 0)), ((q0 6), zi k5 120 f5), ((q0 5), zi k4 122880 f4), ((q0 11), zi k10 120 f10), ((q0 12), zi k11 120 f11), ((q0 2), zi k2 4800 f2), ((q0 3), zi k3 400 f3), ((q0 7), zi k6 120 f6), ((q0 28), zi k20 400 (a15_ 1)), ((q0 72), zi k47 13 (a34_ 0)), ((q0 17), zi k14 12 f14)] H ∧ va_D A [(h0, .inr (13, mX13 q0 (upd (upd (upd v0 1 (u6_ 0)) 20 (u6_ 1)) 21 0))), ((q0 0), zi k1 600 f1), ((q0 19), zi k15 12 (a6_ 0)), ((q0 73), zi k48 400 (a15_ 0)), ((q0 6), zi k5 120 f5), ((q0 5), zi k4 122880 f4), ((q0 11), zi k10 120 f10), ((q0 12), zi k11 120 f11), ((q0 2), zi k2 4800 f2), ((q0 3), zi k3 400 f3), ((q0 7), zi k6 120 f6), ((q0 28), zi k20 400 (a15_ 1)), ((q0 72), zi k47 13 (a34_ 0)), ((q0 17), zi k14 12 f14)] ∧ va_S A s.heap H locs ∧ lv_has ls 5 [(0, .ref h0), (1, .int (u24_ 2)), (2, .int r34_), (3, .int z112)] ∧ ((-1) ≤ (u24_ 2).toInt ∧ (u24_ 2).toInt ≤ 399) ∧ ((-2147483648) ≤ r34_.toInt ∧ r34_.toInt ≤ 3) ∧ (0 ≤ z112.toInt ∧ z112.toInt ≤ 400) ∧ (zxF (zxq (a6_ 0) (u6_ 1).toInt f2 f3) ((u24_ 2).toInt ≠ -1) r34_.toInt z112.toInt) ∧ (z112.toInt ≤ (v0 4).toInt) ∧ (zxM2 (a6_ 0) (u6_ 1).toInt f2 f3 (a15_ 0) (v0 4).toInt (u24_ 2).toInt r34_.toInt z112.toInt) ∧ ((u24_ 2).toInt < (v0 4).toInt) := ⟨hP, hD, hS, lv_sub hl [4, 2, 1, 0] rfl, (by first | with_reducible assumption | exact ⟨by omega, by omega⟩), (by first | with_reducible assumption | exact ⟨by omega, by omega⟩), (by first | with_reducible assumption | exact ⟨by omega, by omega⟩), by first | exact hxf9 | exact zxF_0 (fun c => c (by decide)) (by decide) (by decide), by omega, by first | exact hxm9 | exact zxM2_0 (by decide) (by decide) (by decide), by omega⟩
              exact hJ24 H locs ls (fun i => ([(u24_ 2), r34_, z112] : List (Int32)).getD i 0) (fun _ => 0) (fun i => ([(a34_ 0)] : List (Nat → Int32)).getD i (fun _ => 0)) (fun _ => (fun _ => 0)) hc (show (400 - z112.toInt).toNat < (400 - (u24_ 2).toInt).toNat from by omega)
            · skip
              have b_ := zF_eq rfl zk_m1 c_
              refine lv_iload hx hb dX13_nearest_59 (lv_at hl 0 rfl) ?_
              refine lv_iload_n hx hb dX13_nearest_61 rfl (lv_at hl 3 rfl) ?_
              refine lv_icmp_ne (tgt := 107) hx hb dX13_nearest_62 (by decide) (fun c_ => ?_) (fun c_ => ?_)
              · skip
                have b_ := zT_ne rfl rfl c_
                refine lv_iload_n hx hb dX13_nearest_107 rfl (lv_at hl 4 rfl) ?_
                refine lv_istore_n (lv' := [(1, .int (u24_ 2)), (4, .int r34_), (0, .ref h0), (2, .int (u24_ 1)), (3, .int (u24_ 2))]) hx hb dX13_nearest_108 rfl hl (by decide) rfl (fun ls hl => ?_)
                refine lv_iload hx hb dX13_nearest_109 (lv_at hl 1 rfl) ?_
                refine lv_istore_n (lv' := [(2, .int r34_), (1, .int (u24_ 2)), (4, .int r34_), (0, .ref h0), (3, .int (u24_ 2))]) hx hb dX13_nearest_111 rfl hl (by decide) rfl (fun ls hl => ?_)
                obtain ⟨z112, e_z112⟩ : ∃ z : Int32, z = (u24_ 2) + Int32.ofInt 1 := ⟨_, rfl⟩
                have b_ := zadd (x := (u24_ 2)) (y := Int32.ofInt 1) rfl (show (Int32.ofInt 1).toInt = 1 from by decide) e_z112 (by omega) (by omega)
                refine lv_iinc (v := z112) (lv' := [(3, .int z112), (2, .int r34_), (1, .int (u24_ 2)), (4, .int r34_), (0, .ref h0)]) hx hb dX13_nearest_112 hl (k := 4) rfl e_z112.symm (by decide) rfl (fun ls hl => ?_)
                have hxf9 : zxF (zxq (a6_ 0) (u6_ 1).toInt f2 f3) ((u24_ 2).toInt ≠ -1) r34_.toInt z112.toInt := zxF_u hI24_0 (by omega) (by omega) (by omega) (by omega) hX34_1.symm (by omega) rfl (by omega)
                have hxm9 : zxM2 (a6_ 0) (u6_ 1).toInt f2 f3 (a15_ 0) (v0 4).toInt (u24_ 2).toInt r34_.toInt z112.toInt := zxM2_u hI24_2 (by omega) (by rw [← hX34_1]; omega) (by rw [← hX34_1]; omega) (fun hm => by have k1 := hX34_1; omega) rfl hX34_1 (by omega)
                refine lv_goto (tgt := 24) hx hb dX13_nearest_115 (by decide) ?_
                have hc : va_P (dC, dI) vwCl [(h0, .inr (13, mX13 q0 (upd (upd (upd v0 1 (u6_ 0)) 20 (u6_ 1)) 21 0))), ((q0 0), zi k1 600 f1), ((q0 19), zi k15 12 (a6_ 0)), ((q0 73), zi k48 400 (a15_ 0)), ((q0 6), zi k5 120 f5), ((q0 5), zi k4 122880 f4), ((q0 11), zi k10 120 f10), ((q0 12), zi k11 120 f11), ((q0 2), zi k2 4800 f2), ((q0 3), zi k3 400 f3), ((q0 7), zi k6 120 f6), ((q0 28), zi k20 400 (a15_ 1)), ((q0 72), zi k47 13 (a34_ 0)), ((q0 17), zi k14 12 f14)] H ∧ va_D A [(h0, .inr (13, mX13 q0 (upd (upd (upd v0 1 (u6_ 0)) 20 (u6_ 1)) 21 0))), ((q0 0), zi k1 600 f1), ((q0 19), zi k15 12 (a6_ 0)), ((q0 73), zi k48 400 (a15_ 0)), ((q0 6), zi k5 120 f5), ((q0 5), zi k4 122880 f4), ((q0 11), zi k10 120 f10), ((q0 12), zi k11 120 f11), ((q0 2), zi k2 4800 f2), ((q0 3), zi k3 400 f3), ((q0 7), zi k6 120 f6), ((q0 28), zi k20 400 (a15_ 1)), ((q0 72), zi k47 13 (a34_ 0)), ((q0 17), zi k14 12 f14)] ∧ va_S A s.heap H locs ∧ lv_has ls 5 [(0, .ref h0), (1, .int (u24_ 2)), (2, .int r34_), (3, .int z112)] ∧ ((-1) ≤ (u24_ 2).toInt ∧ (u24_ 2).toInt ≤ 399) ∧ ((-2147483648) ≤ r34_.toInt ∧ r34_.toInt ≤ 3) ∧ (0 ≤ z112.toInt ∧ z112.toInt ≤ 400) ∧ (zxF (zxq (a6_ 0) (u6_ 1).toInt f2 f3) ((u24_ 2).toInt ≠ -1) r34_.toInt z112.toInt) ∧ (z112.toInt ≤ (v0 4).toInt) ∧ (zxM2 (a6_ 0) (u6_ 1).toInt f2 f3 (a15_ 0) (v0 4).toInt (u24_ 2).toInt r34_.toInt z112.toInt) ∧ ((u24_ 2).toInt < (v0 4).toInt) := ⟨hP, hD, hS, lv_sub hl [4, 2, 1, 0] rfl, (by first | with_reducible assumption | exact ⟨by omega, by omega⟩), (by first | with_reducible assumption | exact ⟨by omega, by omega⟩), (by first | with_reducible assumption | exact ⟨by omega, by omega⟩), by first | exact hxf9 | exact zxF_0 (fun c => c (by decide)) (by decide) (by decide), by omega, by first | exact hxm9 | exact zxM2_0 (by decide) (by decide) (by decide), by omega⟩
                exact hJ24 H locs ls (fun i => ([(u24_ 2), r34_, z112] : List (Int32)).getD i 0) (fun _ => 0) (fun i => ([(a34_ 0)] : List (Nat → Int32)).getD i (fun _ => 0)) (fun _ => (fun _ => 0)) hc (show (400 - z112.toInt).toNat < (400 - (u24_ 2).toInt).toNat from by omega)
              · skip
                have b_ := zF_ne rfl rfl c_
                refine lv_aload_n hx hb dX13_nearest_65 rfl (lv_at hl 1 rfl) ?_
                refine va_get (D := (dC, dI)) (ci := 13) (v := .ref (q0 73)) (C := RX13) (T := TX13) (N := 75) hx hb hG zuX13 hown hK hP 0 rfl rfl 73 (by decide) (hG _ zv1677) (fun _ h9 => h9) rfl dX13_nearest_66 ?_
                refine lv_iload_n hx hb dX13_nearest_69 rfl (lv_at hl 4 rfl) ?_
                refine va_iald hx hb hK hP 3 2 rfl rfl (zin_lit ⟨by omega, by omega⟩) dX13_nearest_70 ?_
                refine lv_topi (fun z70 e_z70 => ?_)
                refine lv_aload_n hx hb dX13_nearest_71 rfl (lv_at hl 1 rfl) ?_
                refine va_get (D := (dC, dI)) (ci := 13) (v := .ref (q0 73)) (C := RX13) (T := TX13) (N := 75) hx hb hG zuX13 hown hK hP 0 rfl rfl 73 (by decide) (hG _ zv1677) (fun _ h9 => h9) rfl dX13_nearest_72 ?_
                refine lv_iload_n hx hb dX13_nearest_75 rfl (lv_at hl 2 rfl) ?_
                refine va_iald hx hb hK hP 3 2 rfl rfl (zin_lit ⟨by omega, by omega⟩) dX13_nearest_76 ?_
                refine lv_topi (fun z76 e_z76 => ?_)
                have b_ : -2147483648 ≤ z70.toInt ∧ z70.toInt ≤ 2147483647 := ⟨zlo _, zhi _⟩
                have b_ : -2147483648 ≤ z76.toInt ∧ z76.toInt ≤ 2147483647 := ⟨zlo _, zhi _⟩
                refine lv_icmp_lt (tgt := 112) hx hb dX13_nearest_77 (by decide) (fun c_ => ?_) (fun c_ => ?_)
                · skip
                  have b_ := zT_lt rfl rfl c_
                  obtain ⟨z112, e_z112⟩ : ∃ z : Int32, z = (u24_ 2) + Int32.ofInt 1 := ⟨_, rfl⟩
                  have b_ := zadd (x := (u24_ 2)) (y := Int32.ofInt 1) rfl (show (Int32.ofInt 1).toInt = 1 from by decide) e_z112 (by omega) (by omega)
                  refine lv_iinc (v := z112) (lv' := [(3, .int z112), (4, .int r34_), (0, .ref h0), (1, .int (u24_ 0)), (2, .int (u24_ 1))]) hx hb dX13_nearest_112 hl (k := 4) rfl e_z112.symm (by decide) rfl (fun ls hl => ?_)
                  have hxf9 : zxF (zxq (a6_ 0) (u6_ 1).toInt f2 f3) ((u24_ 0).toInt ≠ -1) (u24_ 1).toInt z112.toInt := zxF_k hI24_0 (by omega) (by rw [← hX34_1]; omega) Iff.rfl rfl (by omega)
                  have hxm9 : zxM2 (a6_ 0) (u6_ 1).toInt f2 f3 (a15_ 0) (v0 4).toInt (u24_ 0).toInt (u24_ 1).toInt z112.toInt := zxM2_k hI24_2 (by omega) (fun hm => by have k1 := hX34_1; have k2 : z70.toInt = ((a15_ 0) ((u24_ 2).toInt).toNat).toInt := congrArg Int32.toInt e_z70; have k3 : z76.toInt = ((a15_ 0) ((u24_ 0).toInt).toNat).toInt := congrArg Int32.toInt e_z76; omega) rfl rfl (by omega)
                  refine lv_goto (tgt := 24) hx hb dX13_nearest_115 (by decide) ?_
                  have hc : va_P (dC, dI) vwCl [(h0, .inr (13, mX13 q0 (upd (upd (upd v0 1 (u6_ 0)) 20 (u6_ 1)) 21 0))), ((q0 0), zi k1 600 f1), ((q0 19), zi k15 12 (a6_ 0)), ((q0 73), zi k48 400 (a15_ 0)), ((q0 6), zi k5 120 f5), ((q0 5), zi k4 122880 f4), ((q0 11), zi k10 120 f10), ((q0 12), zi k11 120 f11), ((q0 2), zi k2 4800 f2), ((q0 3), zi k3 400 f3), ((q0 7), zi k6 120 f6), ((q0 28), zi k20 400 (a15_ 1)), ((q0 72), zi k47 13 (a34_ 0)), ((q0 17), zi k14 12 f14)] H ∧ va_D A [(h0, .inr (13, mX13 q0 (upd (upd (upd v0 1 (u6_ 0)) 20 (u6_ 1)) 21 0))), ((q0 0), zi k1 600 f1), ((q0 19), zi k15 12 (a6_ 0)), ((q0 73), zi k48 400 (a15_ 0)), ((q0 6), zi k5 120 f5), ((q0 5), zi k4 122880 f4), ((q0 11), zi k10 120 f10), ((q0 12), zi k11 120 f11), ((q0 2), zi k2 4800 f2), ((q0 3), zi k3 400 f3), ((q0 7), zi k6 120 f6), ((q0 28), zi k20 400 (a15_ 1)), ((q0 72), zi k47 13 (a34_ 0)), ((q0 17), zi k14 12 f14)] ∧ va_S A s.heap H locs ∧ lv_has ls 5 [(0, .ref h0), (1, .int (u24_ 0)), (2, .int (u24_ 1)), (3, .int z112)] ∧ ((-1) ≤ (u24_ 0).toInt ∧ (u24_ 0).toInt ≤ 399) ∧ ((-2147483648) ≤ (u24_ 1).toInt ∧ (u24_ 1).toInt ≤ 3) ∧ (0 ≤ z112.toInt ∧ z112.toInt ≤ 400) ∧ (zxF (zxq (a6_ 0) (u6_ 1).toInt f2 f3) ((u24_ 0).toInt ≠ -1) (u24_ 1).toInt z112.toInt) ∧ (z112.toInt ≤ (v0 4).toInt) ∧ (zxM2 (a6_ 0) (u6_ 1).toInt f2 f3 (a15_ 0) (v0 4).toInt (u24_ 0).toInt (u24_ 1).toInt z112.toInt) ∧ ((u24_ 0).toInt < (v0 4).toInt) := ⟨hP, hD, hS, lv_sub hl [2, 3, 4, 0] rfl, (by first | with_reducible assumption | exact ⟨by omega, by omega⟩), (by first | with_reducible assumption | exact ⟨by omega, by omega⟩), (by first | with_reducible assumption | exact ⟨by omega, by omega⟩), by first | exact hxf9 | exact zxF_0 (fun c => c (by decide)) (by decide) (by decide), by omega, by first | exact hxm9 | exact zxM2_0 (by decide) (by decide) (by decide), by omega⟩
                  exact hJ24 H locs ls (fun i => ([(u24_ 0), (u24_ 1), z112] : List (Int32)).getD i 0) (fun _ => 0) (fun i => ([(a34_ 0)] : List (Nat → Int32)).getD i (fun _ => 0)) (fun _ => (fun _ => 0)) hc (show (400 - z112.toInt).toNat < (400 - (u24_ 2).toInt).toNat from by omega)
                · skip
                  have b_ := zF_lt rfl rfl c_
                  refine lv_aload_n hx hb dX13_nearest_80 rfl (lv_at hl 1 rfl) ?_
                  refine va_get (D := (dC, dI)) (ci := 13) (v := .ref (q0 73)) (C := RX13) (T := TX13) (N := 75) hx hb hG zuX13 hown hK hP 0 rfl rfl 73 (by decide) (hG _ zv1677) (fun _ h9 => h9) rfl dX13_nearest_81 ?_
                  refine lv_iload_n hx hb dX13_nearest_84 rfl (lv_at hl 4 rfl) ?_
                  refine va_iald hx hb hK hP 3 2 rfl rfl (zin_lit ⟨by omega, by omega⟩) dX13_nearest_85 ?_
                  refine lv_topi (fun z85 e_z85 => ?_)
                  refine lv_aload_n hx hb dX13_nearest_86 rfl (lv_at hl 1 rfl) ?_
                  refine va_get (D := (dC, dI)) (ci := 13) (v := .ref (q0 73)) (C := RX13) (T := TX13) (N := 75) hx hb hG zuX13 hown hK hP 0 rfl rfl 73 (by decide) (hG _ zv1677) (fun _ h9 => h9) rfl dX13_nearest_87 ?_
                  refine lv_iload_n hx hb dX13_nearest_90 rfl (lv_at hl 2 rfl) ?_
                  refine va_iald hx hb hK hP 3 2 rfl rfl (zin_lit ⟨by omega, by omega⟩) dX13_nearest_91 ?_
                  refine lv_topi (fun z91 e_z91 => ?_)
                  have b_ : -2147483648 ≤ z85.toInt ∧ z85.toInt ≤ 2147483647 := ⟨zlo _, zhi _⟩
                  have b_ : -2147483648 ≤ z91.toInt ∧ z91.toInt ≤ 2147483647 := ⟨zlo _, zhi _⟩
                  refine lv_icmp_ne (tgt := 107) hx hb dX13_nearest_92 (by decide) (fun c_ => ?_) (fun c_ => ?_)
                  · skip
                    have b_ := zT_ne rfl rfl c_
                    refine lv_iload_n hx hb dX13_nearest_107 rfl (lv_at hl 4 rfl) ?_
                    refine lv_istore_n (lv' := [(1, .int (u24_ 2)), (4, .int r34_), (0, .ref h0), (2, .int (u24_ 1)), (3, .int (u24_ 2))]) hx hb dX13_nearest_108 rfl hl (by decide) rfl (fun ls hl => ?_)
                    refine lv_iload hx hb dX13_nearest_109 (lv_at hl 1 rfl) ?_
                    refine lv_istore_n (lv' := [(2, .int r34_), (1, .int (u24_ 2)), (4, .int r34_), (0, .ref h0), (3, .int (u24_ 2))]) hx hb dX13_nearest_111 rfl hl (by decide) rfl (fun ls hl => ?_)
                    obtain ⟨z112, e_z112⟩ : ∃ z : Int32, z = (u24_ 2) + Int32.ofInt 1 := ⟨_, rfl⟩
                    have b_ := zadd (x := (u24_ 2)) (y := Int32.ofInt 1) rfl (show (Int32.ofInt 1).toInt = 1 from by decide) e_z112 (by omega) (by omega)
                    refine lv_iinc (v := z112) (lv' := [(3, .int z112), (2, .int r34_), (1, .int (u24_ 2)), (4, .int r34_), (0, .ref h0)]) hx hb dX13_nearest_112 hl (k := 4) rfl e_z112.symm (by decide) rfl (fun ls hl => ?_)
                    have hxf9 : zxF (zxq (a6_ 0) (u6_ 1).toInt f2 f3) ((u24_ 2).toInt ≠ -1) r34_.toInt z112.toInt := zxF_u hI24_0 (by omega) (by omega) (by omega) (by omega) hX34_1.symm (by omega) rfl (by omega)
                    have hxm9 : zxM2 (a6_ 0) (u6_ 1).toInt f2 f3 (a15_ 0) (v0 4).toInt (u24_ 2).toInt r34_.toInt z112.toInt := zxM2_u hI24_2 (by omega) (by rw [← hX34_1]; omega) (by rw [← hX34_1]; omega) (fun hm => by have k1 := hX34_1; have k2 : z70.toInt = ((a15_ 0) ((u24_ 2).toInt).toNat).toInt := congrArg Int32.toInt e_z70; have k3 : z76.toInt = ((a15_ 0) ((u24_ 0).toInt).toNat).toInt := congrArg Int32.toInt e_z76; have k4 : z85.toInt = ((a15_ 0) ((u24_ 2).toInt).toNat).toInt := congrArg Int32.toInt e_z85; have k5 : z91.toInt = ((a15_ 0) ((u24_ 0).toInt).toNat).toInt := congrArg Int32.toInt e_z91; omega) rfl hX34_1 (by omega)
                    refine lv_goto (tgt := 24) hx hb dX13_nearest_115 (by decide) ?_
                    have hc : va_P (dC, dI) vwCl [(h0, .inr (13, mX13 q0 (upd (upd (upd v0 1 (u6_ 0)) 20 (u6_ 1)) 21 0))), ((q0 0), zi k1 600 f1), ((q0 19), zi k15 12 (a6_ 0)), ((q0 73), zi k48 400 (a15_ 0)), ((q0 6), zi k5 120 f5), ((q0 5), zi k4 122880 f4), ((q0 11), zi k10 120 f10), ((q0 12), zi k11 120 f11), ((q0 2), zi k2 4800 f2), ((q0 3), zi k3 400 f3), ((q0 7), zi k6 120 f6), ((q0 28), zi k20 400 (a15_ 1)), ((q0 72), zi k47 13 (a34_ 0)), ((q0 17), zi k14 12 f14)] H ∧ va_D A [(h0, .inr (13, mX13 q0 (upd (upd (upd v0 1 (u6_ 0)) 20 (u6_ 1)) 21 0))), ((q0 0), zi k1 600 f1), ((q0 19), zi k15 12 (a6_ 0)), ((q0 73), zi k48 400 (a15_ 0)), ((q0 6), zi k5 120 f5), ((q0 5), zi k4 122880 f4), ((q0 11), zi k10 120 f10), ((q0 12), zi k11 120 f11), ((q0 2), zi k2 4800 f2), ((q0 3), zi k3 400 f3), ((q0 7), zi k6 120 f6), ((q0 28), zi k20 400 (a15_ 1)), ((q0 72), zi k47 13 (a34_ 0)), ((q0 17), zi k14 12 f14)] ∧ va_S A s.heap H locs ∧ lv_has ls 5 [(0, .ref h0), (1, .int (u24_ 2)), (2, .int r34_), (3, .int z112)] ∧ ((-1) ≤ (u24_ 2).toInt ∧ (u24_ 2).toInt ≤ 399) ∧ ((-2147483648) ≤ r34_.toInt ∧ r34_.toInt ≤ 3) ∧ (0 ≤ z112.toInt ∧ z112.toInt ≤ 400) ∧ (zxF (zxq (a6_ 0) (u6_ 1).toInt f2 f3) ((u24_ 2).toInt ≠ -1) r34_.toInt z112.toInt) ∧ (z112.toInt ≤ (v0 4).toInt) ∧ (zxM2 (a6_ 0) (u6_ 1).toInt f2 f3 (a15_ 0) (v0 4).toInt (u24_ 2).toInt r34_.toInt z112.toInt) ∧ ((u24_ 2).toInt < (v0 4).toInt) := ⟨hP, hD, hS, lv_sub hl [4, 2, 1, 0] rfl, (by first | with_reducible assumption | exact ⟨by omega, by omega⟩), (by first | with_reducible assumption | exact ⟨by omega, by omega⟩), (by first | with_reducible assumption | exact ⟨by omega, by omega⟩), by first | exact hxf9 | exact zxF_0 (fun c => c (by decide)) (by decide) (by decide), by omega, by first | exact hxm9 | exact zxM2_0 (by decide) (by decide) (by decide), by omega⟩
                    exact hJ24 H locs ls (fun i => ([(u24_ 2), r34_, z112] : List (Int32)).getD i 0) (fun _ => 0) (fun i => ([(a34_ 0)] : List (Nat → Int32)).getD i (fun _ => 0)) (fun _ => (fun _ => 0)) hc (show (400 - z112.toInt).toNat < (400 - (u24_ 2).toInt).toNat from by omega)
                  · skip
                    have b_ := zF_ne rfl rfl c_
                    refine lv_aload_n hx hb dX13_nearest_95 rfl (lv_at hl 1 rfl) ?_
                    refine lv_iload_n hx hb dX13_nearest_96 rfl (lv_at hl 4 rfl) ?_
                    refine lv_iload_n hx hb dX13_nearest_97 rfl (lv_at hl 2 rfl) ?_
                    have hPc := hP.sub (ws' := [(h0, .inr (13, mX13 q0 (upd (upd (upd v0 1 (u6_ 0)) 20 (u6_ 1)) 21 0))), ((q0 3), zi k3 400 f3), ((q0 2), zi k2 4800 f2)]) [0, 9, 8] rfl
                    have hDc := hD.sub (ws' := [(h0, .inr (13, mX13 q0 (upd (upd (upd v0 1 (u6_ 0)) 20 (u6_ 1)) 21 0))), ((q0 3), zi k3 400 f3), ((q0 2), zi k2 4800 f2)]) [0, 9, 8] (by decide) rfl
                    have hKc := hK.sub (tys' := [(k3, .int), (k2, .byte)]) [8, 7] rfl
                    have hFc := va_free (wc := [(h0, .inr (13, mX13 q0 (upd (upd (upd v0 1 (u6_ 0)) 20 (u6_ 1)) 21 0))), ((q0 3), zi k3 400 f3), ((q0 2), zi k2 4800 f2)]) hD hS hA [0, 9, 8] rfl
                    refine va_calli (va_runV (As := [.int (u24_ 2), .int (u24_ 0)]) (rest := []) ⟨hx, hb, hml, hown, hG⟩ (sX13_order_0 l dC dI adK adV h0 q0 k3 k2 H.size (upd (upd (upd v0 1 (u6_ 0)) 20 (u6_ 1)) 21 0) f3 f2 (u24_ 2) (u24_ 0) (zR_updF (zR_up2 (zR_up2 hv0 1 (show (0 : Int) ≤ ((u6_ 0) : Int32).toInt ∧ ((u6_ 0) : Int32).toInt ≤ (600 : Int) from (by first | with_reducible assumption | exact ⟨by omega, by omega⟩))) 20 (show (0 : Int) ≤ ((u6_ 1) : Int32).toInt ∧ ((u6_ 1) : Int32).toInt ≤ (12 : Int) from (by first | with_reducible assumption | exact ⟨by omega, by omega⟩))) 21 rfl) hf3 (show (0 : Int) ≤ ((u24_ 2) : Int32).toInt ∧ ((u24_ 2) : Int32).toInt ≤ (399 : Int) from (by first | with_reducible assumption | exact ⟨by omega, by omega⟩)) (show (0 : Int) ≤ ((u24_ 0) : Int32).toInt ∧ ((u24_ 0) : Int32).toInt ≤ (399 : Int) from (by first | with_reducible assumption | exact ⟨by omega, by omega⟩))) (cwV 2 hG (zgV zv2010 zv2012 zv77 zv142 zv2013) rfl rfl rfl (by decide +kernel) ⟨Nat.le_of_ble_eq_true rfl, Nat.le_of_ble_eq_true rfl⟩) ⟨zPc_blind, va_recv hKc hPc (ci := 13) (q0 := 0) rfl rfl, zPc_pre hPc hKc hDc hE hS hFc hZ⟩ rfl rfl hl.1 rfl (lv_room (Nat.le_of_ble_eq_true rfl)) dX13_nearest_98 ⟨Nat.le_of_ble_eq_true rfl, Nat.le_of_ble_eq_true rfl⟩) hS (fun q _ h => hFc q h) hFc (fun r98_ u98_ t H1 locs ht hvm hw hB hz1 hk1 hS => ?_)
                    replace hw : (zOr f2 f3 (v0 4).toInt (u24_ 2).toInt (u24_ 0).toInt r98_.toInt) := hw
                    have hX98_0 := hw
                    obtain ⟨w98_, a98_, b98_, hP1, hK1, hD1⟩ := hB
                    rw [ht] at hP1
                    obtain ⟨hP, hD⟩ := va_join (wr := [((q0 0), zi k1 600 f1), ((q0 19), zi k15 12 (a6_ 0)), ((q0 73), zi k48 400 (a15_ 0)), ((q0 6), zi k5 120 f5), ((q0 5), zi k4 122880 f4), ((q0 11), zi k10 120 f10), ((q0 12), zi k11 120 f11), ((q0 7), zi k6 120 f6), ((q0 28), zi k20 400 (a15_ 1)), ((q0 72), zi k47 13 (a34_ 0)), ((q0 17), zi k14 12 f14)]) (w1 := [(h0, .inr (13, mX13 q0 (upd (upd (upd v0 1 (u6_ 0)) 20 (u6_ 1)) 21 0))), ((q0 3), zi k3 400 f3), ((q0 2), zi k2 4800 f2)]) hP hD [0, 9, 8] [1, 2, 3, 4, 5, 6, 7, 10, 11, 12, 13] rfl rfl (by decide) (by decide) hk1 hFc hP1 hD1
                    have hP : va_P (dC, dI) vwCl [(h0, .inr (13, mX13 q0 (upd (upd (upd v0 1 (u6_ 0)) 20 (u6_ 1)) 21 0))), ((q0 0), zi k1 600 f1), ((q0 19), zi k15 12 (a6_ 0)), ((q0 73), zi k48 400 (a15_ 0)), ((q0 6), zi k5 120 f5), ((q0 5), zi k4 122880 f4), ((q0 11), zi k10 120 f10), ((q0 12), zi k11 120 f11), ((q0 2), zi k2 4800 f2), ((q0 3), zi k3 400 f3), ((q0 7), zi k6 120 f6), ((q0 28), zi k20 400 (a15_ 1)), ((q0 72), zi k47 13 (a34_ 0)), ((q0 17), zi k14 12 f14)] H1 := hP.sub [11, 0, 1, 2, 3, 4, 5, 6, 13, 12, 7, 8, 9, 10] rfl
                    have hD : va_D A [(h0, .inr (13, mX13 q0 (upd (upd (upd v0 1 (u6_ 0)) 20 (u6_ 1)) 21 0))), ((q0 0), zi k1 600 f1), ((q0 19), zi k15 12 (a6_ 0)), ((q0 73), zi k48 400 (a15_ 0)), ((q0 6), zi k5 120 f5), ((q0 5), zi k4 122880 f4), ((q0 11), zi k10 120 f10), ((q0 12), zi k11 120 f11), ((q0 2), zi k2 4800 f2), ((q0 3), zi k3 400 f3), ((q0 7), zi k6 120 f6), ((q0 28), zi k20 400 (a15_ 1)), ((q0 72), zi k47 13 (a34_ 0)), ((q0 17), zi k14 12 f14)] := hD.sub [11, 0, 1, 2, 3, 4, 5, 6, 13, 12, 7, 8, 9, 10] (by decide) rfl
                    generalize H1 = H at hP hS ⊢
                    clear hz1
                    have b_ : -2147483648 ≤ r98_.toInt ∧ r98_.toInt ≤ 2147483647 := ⟨zlo _, zhi _⟩
                    refine lv_if_le (tgt := 107) hx hb dX13_nearest_101 (by decide) (fun c_ => ?_) (fun c_ => ?_)
                    · skip
                      have b_ := zT_le rfl zk_0 c_
                      refine lv_iload_n hx hb dX13_nearest_107 rfl (lv_at hl 4 rfl) ?_
                      refine lv_istore_n (lv' := [(1, .int (u24_ 2)), (4, .int r34_), (0, .ref h0), (2, .int (u24_ 1)), (3, .int (u24_ 2))]) hx hb dX13_nearest_108 rfl hl (by decide) rfl (fun ls hl => ?_)
                      refine lv_iload hx hb dX13_nearest_109 (lv_at hl 1 rfl) ?_
                      refine lv_istore_n (lv' := [(2, .int r34_), (1, .int (u24_ 2)), (4, .int r34_), (0, .ref h0), (3, .int (u24_ 2))]) hx hb dX13_nearest_111 rfl hl (by decide) rfl (fun ls hl => ?_)
                      obtain ⟨z112, e_z112⟩ : ∃ z : Int32, z = (u24_ 2) + Int32.ofInt 1 := ⟨_, rfl⟩
                      have b_ := zadd (x := (u24_ 2)) (y := Int32.ofInt 1) rfl (show (Int32.ofInt 1).toInt = 1 from by decide) e_z112 (by omega) (by omega)
                      refine lv_iinc (v := z112) (lv' := [(3, .int z112), (2, .int r34_), (1, .int (u24_ 2)), (4, .int r34_), (0, .ref h0)]) hx hb dX13_nearest_112 hl (k := 4) rfl e_z112.symm (by decide) rfl (fun ls hl => ?_)
                      have hxf9 : zxF (zxq (a6_ 0) (u6_ 1).toInt f2 f3) ((u24_ 2).toInt ≠ -1) r34_.toInt z112.toInt := zxF_u hI24_0 (by omega) (by omega) (by omega) (by omega) hX34_1.symm (by omega) rfl (by omega)
                      have hxm9 : zxM2 (a6_ 0) (u6_ 1).toInt f2 f3 (a15_ 0) (v0 4).toInt (u24_ 2).toInt r34_.toInt z112.toInt := zxM2_u hI24_2 (by omega) (by rw [← hX34_1]; omega) (by rw [← hX34_1]; omega) (fun hm => by have k1 := hX34_1; have k2 : z70.toInt = ((a15_ 0) ((u24_ 2).toInt).toNat).toInt := congrArg Int32.toInt e_z70; have k3 : z76.toInt = ((a15_ 0) ((u24_ 0).toInt).toNat).toInt := congrArg Int32.toInt e_z76; have k4 : z85.toInt = ((a15_ 0) ((u24_ 2).toInt).toNat).toInt := congrArg Int32.toInt e_z85; have k5 : z91.toInt = ((a15_ 0) ((u24_ 0).toInt).toNat).toInt := congrArg Int32.toInt e_z91; have k6 := hX98_0 hm (by omega) (by omega) (by omega) (by omega); omega) rfl hX34_1 (by omega)
                      refine lv_goto (tgt := 24) hx hb dX13_nearest_115 (by decide) ?_
                      have hc : va_P (dC, dI) vwCl [(h0, .inr (13, mX13 q0 (upd (upd (upd v0 1 (u6_ 0)) 20 (u6_ 1)) 21 0))), ((q0 0), zi k1 600 f1), ((q0 19), zi k15 12 (a6_ 0)), ((q0 73), zi k48 400 (a15_ 0)), ((q0 6), zi k5 120 f5), ((q0 5), zi k4 122880 f4), ((q0 11), zi k10 120 f10), ((q0 12), zi k11 120 f11), ((q0 2), zi k2 4800 f2), ((q0 3), zi k3 400 f3), ((q0 7), zi k6 120 f6), ((q0 28), zi k20 400 (a15_ 1)), ((q0 72), zi k47 13 (a34_ 0)), ((q0 17), zi k14 12 f14)] H ∧ va_D A [(h0, .inr (13, mX13 q0 (upd (upd (upd v0 1 (u6_ 0)) 20 (u6_ 1)) 21 0))), ((q0 0), zi k1 600 f1), ((q0 19), zi k15 12 (a6_ 0)), ((q0 73), zi k48 400 (a15_ 0)), ((q0 6), zi k5 120 f5), ((q0 5), zi k4 122880 f4), ((q0 11), zi k10 120 f10), ((q0 12), zi k11 120 f11), ((q0 2), zi k2 4800 f2), ((q0 3), zi k3 400 f3), ((q0 7), zi k6 120 f6), ((q0 28), zi k20 400 (a15_ 1)), ((q0 72), zi k47 13 (a34_ 0)), ((q0 17), zi k14 12 f14)] ∧ va_S A s.heap H locs ∧ lv_has ls 5 [(0, .ref h0), (1, .int (u24_ 2)), (2, .int r34_), (3, .int z112)] ∧ ((-1) ≤ (u24_ 2).toInt ∧ (u24_ 2).toInt ≤ 399) ∧ ((-2147483648) ≤ r34_.toInt ∧ r34_.toInt ≤ 3) ∧ (0 ≤ z112.toInt ∧ z112.toInt ≤ 400) ∧ (zxF (zxq (a6_ 0) (u6_ 1).toInt f2 f3) ((u24_ 2).toInt ≠ -1) r34_.toInt z112.toInt) ∧ (z112.toInt ≤ (v0 4).toInt) ∧ (zxM2 (a6_ 0) (u6_ 1).toInt f2 f3 (a15_ 0) (v0 4).toInt (u24_ 2).toInt r34_.toInt z112.toInt) ∧ ((u24_ 2).toInt < (v0 4).toInt) := ⟨hP, hD, hS, lv_sub hl [4, 2, 1, 0] rfl, (by first | with_reducible assumption | exact ⟨by omega, by omega⟩), (by first | with_reducible assumption | exact ⟨by omega, by omega⟩), (by first | with_reducible assumption | exact ⟨by omega, by omega⟩), by first | exact hxf9 | exact zxF_0 (fun c => c (by decide)) (by decide) (by decide), by omega, by first | exact hxm9 | exact zxM2_0 (by decide) (by decide) (by decide), by omega⟩
                      exact hJ24 H locs ls (fun i => ([(u24_ 2), r34_, z112] : List (Int32)).getD i 0) (fun _ => 0) (fun i => ([(a34_ 0)] : List (Nat → Int32)).getD i (fun _ => 0)) (fun _ => (fun _ => 0)) hc (show (400 - z112.toInt).toNat < (400 - (u24_ 2).toInt).toNat from by omega)
                    · skip
                      have b_ := zF_le rfl zk_0 c_
                      refine lv_goto (tgt := 112) hx hb dX13_nearest_104 (by decide) ?_
                      obtain ⟨z112, e_z112⟩ : ∃ z : Int32, z = (u24_ 2) + Int32.ofInt 1 := ⟨_, rfl⟩
                      have b_ := zadd (x := (u24_ 2)) (y := Int32.ofInt 1) rfl (show (Int32.ofInt 1).toInt = 1 from by decide) e_z112 (by omega) (by omega)
                      refine lv_iinc (v := z112) (lv' := [(3, .int z112), (4, .int r34_), (0, .ref h0), (1, .int (u24_ 0)), (2, .int (u24_ 1))]) hx hb dX13_nearest_112 hl (k := 4) rfl e_z112.symm (by decide) rfl (fun ls hl => ?_)
                      have hxf9 : zxF (zxq (a6_ 0) (u6_ 1).toInt f2 f3) ((u24_ 0).toInt ≠ -1) (u24_ 1).toInt z112.toInt := zxF_k hI24_0 (by omega) (by rw [← hX34_1]; omega) Iff.rfl rfl (by omega)
                      have hxm9 : zxM2 (a6_ 0) (u6_ 1).toInt f2 f3 (a15_ 0) (v0 4).toInt (u24_ 0).toInt (u24_ 1).toInt z112.toInt := zxM2_k hI24_2 (by omega) (fun hm => by have k1 := hX34_1; have k2 : z70.toInt = ((a15_ 0) ((u24_ 2).toInt).toNat).toInt := congrArg Int32.toInt e_z70; have k3 : z76.toInt = ((a15_ 0) ((u24_ 0).toInt).toNat).toInt := congrArg Int32.toInt e_z76; have k4 : z85.toInt = ((a15_ 0) ((u24_ 2).toInt).toNat).toInt := congrArg Int32.toInt e_z85; have k5 : z91.toInt = ((a15_ 0) ((u24_ 0).toInt).toNat).toInt := congrArg Int32.toInt e_z91; have k6 := hX98_0 hm (by omega) (by omega) (by omega) (by omega); omega) rfl rfl (by omega)
                      refine lv_goto (tgt := 24) hx hb dX13_nearest_115 (by decide) ?_
                      have hc : va_P (dC, dI) vwCl [(h0, .inr (13, mX13 q0 (upd (upd (upd v0 1 (u6_ 0)) 20 (u6_ 1)) 21 0))), ((q0 0), zi k1 600 f1), ((q0 19), zi k15 12 (a6_ 0)), ((q0 73), zi k48 400 (a15_ 0)), ((q0 6), zi k5 120 f5), ((q0 5), zi k4 122880 f4), ((q0 11), zi k10 120 f10), ((q0 12), zi k11 120 f11), ((q0 2), zi k2 4800 f2), ((q0 3), zi k3 400 f3), ((q0 7), zi k6 120 f6), ((q0 28), zi k20 400 (a15_ 1)), ((q0 72), zi k47 13 (a34_ 0)), ((q0 17), zi k14 12 f14)] H ∧ va_D A [(h0, .inr (13, mX13 q0 (upd (upd (upd v0 1 (u6_ 0)) 20 (u6_ 1)) 21 0))), ((q0 0), zi k1 600 f1), ((q0 19), zi k15 12 (a6_ 0)), ((q0 73), zi k48 400 (a15_ 0)), ((q0 6), zi k5 120 f5), ((q0 5), zi k4 122880 f4), ((q0 11), zi k10 120 f10), ((q0 12), zi k11 120 f11), ((q0 2), zi k2 4800 f2), ((q0 3), zi k3 400 f3), ((q0 7), zi k6 120 f6), ((q0 28), zi k20 400 (a15_ 1)), ((q0 72), zi k47 13 (a34_ 0)), ((q0 17), zi k14 12 f14)] ∧ va_S A s.heap H locs ∧ lv_has ls 5 [(0, .ref h0), (1, .int (u24_ 0)), (2, .int (u24_ 1)), (3, .int z112)] ∧ ((-1) ≤ (u24_ 0).toInt ∧ (u24_ 0).toInt ≤ 399) ∧ ((-2147483648) ≤ (u24_ 1).toInt ∧ (u24_ 1).toInt ≤ 3) ∧ (0 ≤ z112.toInt ∧ z112.toInt ≤ 400) ∧ (zxF (zxq (a6_ 0) (u6_ 1).toInt f2 f3) ((u24_ 0).toInt ≠ -1) (u24_ 1).toInt z112.toInt) ∧ (z112.toInt ≤ (v0 4).toInt) ∧ (zxM2 (a6_ 0) (u6_ 1).toInt f2 f3 (a15_ 0) (v0 4).toInt (u24_ 0).toInt (u24_ 1).toInt z112.toInt) ∧ ((u24_ 0).toInt < (v0 4).toInt) := ⟨hP, hD, hS, lv_sub hl [2, 3, 4, 0] rfl, (by first | with_reducible assumption | exact ⟨by omega, by omega⟩), (by first | with_reducible assumption | exact ⟨by omega, by omega⟩), (by first | with_reducible assumption | exact ⟨by omega, by omega⟩), by first | exact hxf9 | exact zxF_0 (fun c => c (by decide)) (by decide) (by decide), by omega, by first | exact hxm9 | exact zxM2_0 (by decide) (by decide) (by decide), by omega⟩
                      exact hJ24 H locs ls (fun i => ([(u24_ 0), (u24_ 1), z112] : List (Int32)).getD i 0) (fun _ => 0) (fun i => ([(a34_ 0)] : List (Nat → Int32)).getD i (fun _ => 0)) (fun _ => (fun _ => 0)) hc (show (400 - z112.toInt).toNat < (400 - (u24_ 2).toInt).toNat from by omega)
          · skip
            have b_ := zF_le rfl rfl c_
            refine lv_goto (tgt := 112) hx hb dX13_nearest_51 (by decide) ?_
            obtain ⟨z112, e_z112⟩ : ∃ z : Int32, z = (u24_ 2) + Int32.ofInt 1 := ⟨_, rfl⟩
            have b_ := zadd (x := (u24_ 2)) (y := Int32.ofInt 1) rfl (show (Int32.ofInt 1).toInt = 1 from by decide) e_z112 (by omega) (by omega)
            refine lv_iinc (v := z112) (lv' := [(3, .int z112), (4, .int r34_), (0, .ref h0), (1, .int (u24_ 0)), (2, .int (u24_ 1))]) hx hb dX13_nearest_112 hl (k := 4) rfl e_z112.symm (by decide) rfl (fun ls hl => ?_)
            have hxf9 : zxF (zxq (a6_ 0) (u6_ 1).toInt f2 f3) ((u24_ 0).toInt ≠ -1) (u24_ 1).toInt z112.toInt := zxF_k hI24_0 (by omega) (by rw [← hX34_1]; omega) Iff.rfl rfl (by omega)
            have hxm9 : zxM2 (a6_ 0) (u6_ 1).toInt f2 f3 (a15_ 0) (v0 4).toInt (u24_ 0).toInt (u24_ 1).toInt z112.toInt := zxM2_k hI24_2 (by omega) (fun hm => by have k1 := hX34_1; omega) rfl rfl (by omega)
            refine lv_goto (tgt := 24) hx hb dX13_nearest_115 (by decide) ?_
            have hc : va_P (dC, dI) vwCl [(h0, .inr (13, mX13 q0 (upd (upd (upd v0 1 (u6_ 0)) 20 (u6_ 1)) 21 0))), ((q0 0), zi k1 600 f1), ((q0 19), zi k15 12 (a6_ 0)), ((q0 73), zi k48 400 (a15_ 0)), ((q0 6), zi k5 120 f5), ((q0 5), zi k4 122880 f4), ((q0 11), zi k10 120 f10), ((q0 12), zi k11 120 f11), ((q0 2), zi k2 4800 f2), ((q0 3), zi k3 400 f3), ((q0 7), zi k6 120 f6), ((q0 28), zi k20 400 (a15_ 1)), ((q0 72), zi k47 13 (a34_ 0)), ((q0 17), zi k14 12 f14)] H ∧ va_D A [(h0, .inr (13, mX13 q0 (upd (upd (upd v0 1 (u6_ 0)) 20 (u6_ 1)) 21 0))), ((q0 0), zi k1 600 f1), ((q0 19), zi k15 12 (a6_ 0)), ((q0 73), zi k48 400 (a15_ 0)), ((q0 6), zi k5 120 f5), ((q0 5), zi k4 122880 f4), ((q0 11), zi k10 120 f10), ((q0 12), zi k11 120 f11), ((q0 2), zi k2 4800 f2), ((q0 3), zi k3 400 f3), ((q0 7), zi k6 120 f6), ((q0 28), zi k20 400 (a15_ 1)), ((q0 72), zi k47 13 (a34_ 0)), ((q0 17), zi k14 12 f14)] ∧ va_S A s.heap H locs ∧ lv_has ls 5 [(0, .ref h0), (1, .int (u24_ 0)), (2, .int (u24_ 1)), (3, .int z112)] ∧ ((-1) ≤ (u24_ 0).toInt ∧ (u24_ 0).toInt ≤ 399) ∧ ((-2147483648) ≤ (u24_ 1).toInt ∧ (u24_ 1).toInt ≤ 3) ∧ (0 ≤ z112.toInt ∧ z112.toInt ≤ 400) ∧ (zxF (zxq (a6_ 0) (u6_ 1).toInt f2 f3) ((u24_ 0).toInt ≠ -1) (u24_ 1).toInt z112.toInt) ∧ (z112.toInt ≤ (v0 4).toInt) ∧ (zxM2 (a6_ 0) (u6_ 1).toInt f2 f3 (a15_ 0) (v0 4).toInt (u24_ 0).toInt (u24_ 1).toInt z112.toInt) ∧ ((u24_ 0).toInt < (v0 4).toInt) := ⟨hP, hD, hS, lv_sub hl [2, 3, 4, 0] rfl, (by first | with_reducible assumption | exact ⟨by omega, by omega⟩), (by first | with_reducible assumption | exact ⟨by omega, by omega⟩), (by first | with_reducible assumption | exact ⟨by omega, by omega⟩), by first | exact hxf9 | exact zxF_0 (fun c => c (by decide)) (by decide) (by decide), by omega, by first | exact hxm9 | exact zxM2_0 (by decide) (by decide) (by decide), by omega⟩
            exact hJ24 H locs ls (fun i => ([(u24_ 0), (u24_ 1), z112] : List (Int32)).getD i 0) (fun _ => 0) (fun i => ([(a34_ 0)] : List (Nat → Int32)).getD i (fun _ => 0)) (fun _ => (fun _ => 0)) hc (show (400 - z112.toInt).toNat < (400 - (u24_ 2).toInt).toNat from by omega)
    · skip
      have hc : va_P (dC, dI) vwCl [(h0, .inr (13, mX13 q0 (upd (upd (upd v0 1 (u6_ 0)) 20 (u6_ 1)) 21 0))), ((q0 0), zi k1 600 f1), ((q0 19), zi k15 12 (a6_ 0)), ((q0 73), zi k48 400 (a15_ 0)), ((q0 6), zi k5 120 f5), ((q0 5), zi k4 122880 f4), ((q0 11), zi k10 120 f10), ((q0 12), zi k11 120 f11), ((q0 2), zi k2 4800 f2), ((q0 3), zi k3 400 f3), ((q0 7), zi k6 120 f6), ((q0 28), zi k20 400 (a15_ 1)), ((q0 72), zi k47 13 f47), ((q0 17), zi k14 12 f14)] H ∧ va_D A [(h0, .inr (13, mX13 q0 (upd (upd (upd v0 1 (u6_ 0)) 20 (u6_ 1)) 21 0))), ((q0 0), zi k1 600 f1), ((q0 19), zi k15 12 (a6_ 0)), ((q0 73), zi k48 400 (a15_ 0)), ((q0 6), zi k5 120 f5), ((q0 5), zi k4 122880 f4), ((q0 11), zi k10 120 f10), ((q0 12), zi k11 120 f11), ((q0 2), zi k2 4800 f2), ((q0 3), zi k3 400 f3), ((q0 7), zi k6 120 f6), ((q0 28), zi k20 400 (a15_ 1)), ((q0 72), zi k47 13 f47), ((q0 17), zi k14 12 f14)] ∧ va_S A s.heap H locs ∧ lv_has ls 5 [(0, .ref h0), (1, .int (-1)), (2, .int 3), (3, .int 0)] ∧ ((-1) ≤ ((-1) : Int32).toInt ∧ ((-1) : Int32).toInt ≤ 399) ∧ ((-2147483648) ≤ (3 : Int32).toInt ∧ (3 : Int32).toInt ≤ 3) ∧ (0 ≤ (0 : Int32).toInt ∧ (0 : Int32).toInt ≤ 400) ∧ (zxF (zxq (a6_ 0) (u6_ 1).toInt f2 f3) (((-1) : Int32).toInt ≠ -1) (3 : Int32).toInt (0 : Int32).toInt) ∧ ((0 : Int32).toInt ≤ (v0 4).toInt) ∧ (zxM2 (a6_ 0) (u6_ 1).toInt f2 f3 (a15_ 0) (v0 4).toInt ((-1) : Int32).toInt (3 : Int32).toInt (0 : Int32).toInt) ∧ (((-1) : Int32).toInt < (v0 4).toInt) := ⟨hP, hD, hS, lv_sub hl [3, 2, 1, 0] rfl, (by first | with_reducible assumption | exact ⟨by omega, by omega⟩), (by first | with_reducible assumption | exact ⟨by omega, by omega⟩), (by first | with_reducible assumption | exact ⟨by omega, by omega⟩), by first | exact hxf9 | exact zxF_0 (fun c => c (by decide)) (by decide) (by decide), by omega, by first | exact hxm9 | exact zxM2_0 (by decide) (by decide) (by decide), by omega⟩
      exact hJ24 H locs ls (fun i => ([(-1), 3, 0] : List (Int32)).getD i 0) (fun _ => 0) (fun i => ([f47] : List (Nat → Int32)).getD i (fun _ => 0)) (fun _ => (fun _ => 0)) hc
  · skip
    have b_ := zF_ne rfl zk_0 c_
    refine lv_iconst (v := (-1)) hx hb dX13_nearest_12 (by decide) ?_
    refine W.widen (k := 0) (n := 0) (by decide) (by decide) ?_
    have b_ : (-1) ≤ (v0 18).toInt ∧ (v0 18).toInt ≤ 12 := hv0 18
    have hpost : ((-2147483648) ≤ ((-1) : Int32).toInt ∧ ((-1) : Int32).toInt ≤ 3) ∧ (0 ≤ (u6_ 0).toInt ∧ (u6_ 0).toInt ≤ 0) ∧ ((-1) ≤ (v0 18).toInt ∧ (v0 18).toInt ≤ 12) ∧ (0 ≤ (u6_ 1).toInt ∧ (u6_ 1).toInt ≤ 12) ∧ (0 ≤ (0 : Int32).toInt ∧ (0 : Int32).toInt ≤ 0) ∧ (zxAr f1 (v0 1).toInt f2 f3 (v0 4).toInt ((-1) : Int32).toInt) ∧ (((-1) : Int32).toInt = ((-1) : Int32).toInt) := ⟨(by first | with_reducible assumption | exact ⟨by omega, by omega⟩), (by first | with_reducible assumption | exact ⟨by omega, by omega⟩), (by first | with_reducible assumption | exact ⟨by omega, by omega⟩), (by first | with_reducible assumption | exact ⟨by omega, by omega⟩), (by first | with_reducible assumption | exact ⟨by omega, by omega⟩), by first | exact zxAr_i (hB6_0 (by omega)) hI24_0 (by omega) (by omega) (by omega) | exact zxAr_0 (hX6_0 (by omega)) (by decide), rfl⟩
    have hP9 : va_P (dC, dI) vwCl [(h0, .inr (13, mX13 q0 (upd (upd (upd (upd v0 1 (u6_ 0)) 18 (v0 18)) 20 (u6_ 1)) 21 0))), ((q0 0), zi k1 600 f1), ((q0 19), zi k15 12 (a6_ 0)), ((q0 73), zi k48 400 f48), ((q0 6), zi k5 120 f5), ((q0 5), zi k4 122880 f4), ((q0 11), zi k10 120 f10), ((q0 12), zi k11 120 f11), ((q0 2), zi k2 4800 f2), ((q0 3), zi k3 400 f3), ((q0 7), zi k6 120 f6), ((q0 28), zi k20 400 f20), ((q0 72), zi k47 13 f47), ((q0 17), zi k14 12 f14)] H := hP
    have hD9 : va_D A [(h0, .inr (13, mX13 q0 (upd (upd (upd (upd v0 1 (u6_ 0)) 18 (v0 18)) 20 (u6_ 1)) 21 0))), ((q0 0), zi k1 600 f1), ((q0 19), zi k15 12 (a6_ 0)), ((q0 73), zi k48 400 f48), ((q0 6), zi k5 120 f5), ((q0 5), zi k4 122880 f4), ((q0 11), zi k10 120 f10), ((q0 12), zi k11 120 f11), ((q0 2), zi k2 4800 f2), ((q0 3), zi k3 400 f3), ((q0 7), zi k6 120 f6), ((q0 28), zi k20 400 f20), ((q0 72), zi k47 13 f47), ((q0 17), zi k14 12 f14)] := hD
    have hB0 : zxAr2 f1 (v0 1).toInt f2 f3 (v0 4).toInt f4 f6 f10 f11 (v0 13).toInt f5 f14 f14 (v0 18).toInt (v0 18).toInt ((-1) : Int32).toInt := by first | exact zxAr2_i (hB6_0 (by omega)) hI24_2 hB15_1 (by omega) (by omega) (Or.inr ⟨by omega, rfl, fun q1 q2 q3 q4 => zWl_b (zCy_e (zCy_t hB169_0 (zCy_e hI137_0 (by omega)) rfl) (by omega)) (hX169_0.trans (congrArg Int32.toInt e_z131)) q1 q2 q3 q4⟩) | exact zxAr2_i (hB6_0 (by omega)) hI24_2 hB15_1 (by omega) (by omega) (Or.inl ⟨by omega, by decide, rfl, rfl⟩) | exact zxAr2_0 (hX6_0 (by omega)) (by decide)
    exact W.iret (v := (-1)) hx hb hr (fun t ht hW => ⟨⟨(-1), (fun i => ([(u6_ 0), (v0 18), (u6_ 1), 0, (-1)] : List (Int32)).getD i 0), rfl, hpost, (fun _ => 0), (fun i => ([(a6_ 0), f48, f20, f47, f14] : List (Nat → Int32)).getD i (fun _ => 0)), (fun _ => (fun _ => 0)), hB0, by rw [ht]; exact hP9, va_K.moved hW.alike hK, hD9⟩, hS.F ht⟩) hS.2.2 dX13_nearest_13
set_option maxHeartbeats 8000000 in
set_option maxRecDepth 100000 in
theorem sX13_drop_0 (l : Launch) (dC : Nat → ClassId) (dI : Nat → Nat → Nat) (adK adV : Nat → Nat) (h0 : Nat) (q0 : Nat → Nat) (k2 : ClassId) (k3 : ClassId) (k48 : ClassId) (k4 : ClassId) (k6 : ClassId) (sz : Nat) (v0 : Nat → Int32) (f2 : Nat → Int32) (f3 : Nat → Int32) (f48 : Nat → Int32) (f4 : Nat → Int32) (f6 : Nat → Int32) (x1 : Int32) (hv0 : zR rg_Model v0) (hf3 : zA 0 12 f3) (hf4 : zA 0 400 f4) (hx1 : 0 ≤ x1.toInt ∧ x1.toInt ≤ 399) (hp0_ : 1 ≤ (v0 4).toInt) (hp1_ : zJ f4 f6 (v0 4).toInt (v0 13).toInt) (hp2_ : zHd f48 f4 (v0 4).toInt (1024 * (v0 13).toInt)) (hp3_ : (f48 ((x1 : Int32)).toNatClampNeg).toInt ≤ 0) (hp4_ : x1.toInt < (v0 4).toInt) : Met l yX13_drop (zw yX13_drop cX13_drop 4 none) { frames := 0, cells := 0, slots := 0, locals := 0 } (zPc dC dI adK adV [.ref h0, .int x1] sz [(h0, .inr (13, mX13 q0 v0)), ((q0 2), zi k2 4800 f2), ((q0 3), zi k3 400 f3), ((q0 73), zi k48 400 f48), ((q0 5), zi k4 122880 f4), ((q0 7), zi k6 120 f6)] [(k2, .byte), (k3, .int), (k48, .int), (k4, .short), (k6, .boolean)]) (va_Qv (fun (u : Nat → Int32) => (0 ≤ (u 0).toInt ∧ (u 0).toInt ≤ 399) ∧ (0 ≤ (u 1).toInt ∧ (u 1).toInt ≤ 0) ∧ ((u 0).toInt = (v0 4).toInt - 1)) (fun (u : Nat → Int32) (t : State) => ∃ (ww : Nat → Int64) (aa : Nat → Nat → Int32) (bb : Nat → Nat → Int64), zA 0 12 (aa 1) ∧ zA 0 400 (aa 3) ∧ (zJ (aa 3) f6 (u 0).toInt (v0 13).toInt) ∧ (zHd (aa 2) (aa 3) (u 0).toInt (1024 * (v0 13).toInt)) ∧ (zDp f2 f3 (v0 4).toInt f4 f6 (v0 13).toInt (aa 0) (aa 1) (u 0).toInt (aa 3) x1.toInt) ∧ (zHr f48 f4 (v0 4).toInt (1024 * (v0 13).toInt) → zHr (aa 2) (aa 3) (u 0).toInt (1024 * (v0 13).toInt)) ∧ va_P (dC, dI) vwCl [(h0, .inr (13, mX13 q0 (upd (upd v0 4 (u 0)) 30 (u 1)))), ((q0 2), zi k2 4800 (aa 0)), ((q0 3), zi k3 400 (aa 1)), ((q0 73), zi k48 400 (aa 2)), ((q0 5), zi k4 122880 (aa 3)), ((q0 7), zi k6 120 f6)] t.heap ∧ va_K (dC, dI) vwCl [(k2, .byte), (k3, .int), (k48, .int), (k4, .short), (k6, .boolean)] t ∧ va_D (va_A [(h0, .inr (13, mX13 q0 v0)), ((q0 2), zi k2 4800 f2), ((q0 3), zi k3 400 f3), ((q0 73), zi k48 400 f48), ((q0 5), zi k4 122880 f4), ((q0 7), zi k6 120 f6)] sz) [(h0, .inr (13, mX13 q0 (upd (upd v0 4 (u 0)) 30 (u 1)))), ((q0 2), zi k2 4800 (aa 0)), ((q0 3), zi k3 400 (aa 1)), ((q0 73), zi k48 400 (aa 2)), ((q0 5), zi k4 122880 (aa 3)), ((q0 7), zi k6 120 f6)]) (va_A [(h0, .inr (13, mX13 q0 v0)), ((q0 2), zi k2 4800 f2), ((q0 3), zi k3 400 f3), ((q0 73), zi k48 400 f48), ((q0 5), zi k4 122880 f4), ((q0 7), zi k6 120 f6)] sz)) 0 0 (va_A [(h0, .inr (13, mX13 q0 v0)), ((q0 2), zi k2 4800 f2), ((q0 3), zi k3 400 f3), ((q0 73), zi k48 400 f48), ((q0 5), zi k4 122880 f4), ((q0 7), zi k6 120 f6)] sz) := by
  refine Met.ofW (cc := cX13_drop) (maxL := 4) (ret := none) (by decide) rfl ?_
  intro p e s m args below meth c s₁ B hml hv
  obtain ⟨rfl, hsz, hP, hK, hD0, hE, hZ⟩ := hv
  have hx := B.exec
  have hb := B.bytes
  have hr := B.returns
  have hG : ∀ w ∈ zG, w.before _ s = true := fun w h => atoms_spec (ws := (zw yX13_drop cX13_drop 4 none)) B.pre w (List.mem_cons_of_mem _ h)
  have hown : s.vm.findClass RX13 = some m.cls := findClass_of_methodNamed B.named
  have hlocks := B.notSynchronized

  subst hsz
  have hD := hD0.self (sz := s.heap.size)
  generalize hAe : va_A [(h0, .inr (13, mX13 q0 v0)), ((q0 2), zi k2 4800 f2), ((q0 3), zi k3 400 f3), ((q0 73), zi k48 400 f48), ((q0 5), zi k4 122880 f4), ((q0 7), zi k6 120 f6)] s.heap.size = A at hD hZ ⊢
  have hA : ∀ q : Nat, s.heap.size ≤ q → A q := fun q h => by rw [← hAe]; exact Or.inr h
  have hS : va_S A s.heap s.heap [] := va_S.rf
  have hl := lv_entry ([.ref h0, .int x1]) (n := 4) (Nat.le_of_ble_eq_true rfl)
  rw [lg_entry_eq]
  generalize (lg_sl ([.ref h0, .int x1]) ++ List.replicate (4 - (lg_sl ([.ref h0, .int x1])).length) Slot.unset).toArray = ls at hl ⊢
  have hl : lv_has ls 4 [(0, .ref h0), (1, .int x1)] := hl
  have b_ := zk_0
  have b_ : 0 ≤ (v0 4).toInt ∧ (v0 4).toInt ≤ 400 := hv0 4
  have b_ : 0 ≤ (v0 13).toInt ∧ (v0 13).toInt ≤ 120 := hv0 13
  refine lv_aload_n hx hb dX13_drop_0 rfl (lv_at hl 0 rfl) ?_
  refine va_get (D := (dC, dI)) (ci := 13) (v := .int (v0 4)) (C := RX13) (T := TX13) (N := 75) hx hb hG zuX13 hown hK hP 0 rfl rfl 4 (by decide) (hG _ zv1608) (fun _ h9 => h9) rfl dX13_drop_1 ?_
  refine lv_iconst (v := 1) hx hb dX13_drop_4 (by decide) ?_
  refine lv_isub hx hb dX13_drop_5 ?_
  refine lv_topi (fun z5 e_z5 => ?_)
  have b_ := zsub rfl zk_1 e_z5 (by omega) (by omega)
  refine lv_istore_n (lv' := [(2, .int z5), (0, .ref h0), (1, .int x1)]) hx hb dX13_drop_6 rfl hl (by decide) rfl (fun ls hl => ?_)
  refine lv_iconst (v := 0) hx hb dX13_drop_7 (by decide) ?_
  refine lv_istore_n (lv' := [(3, .int 0), (2, .int z5), (0, .ref h0), (1, .int x1)]) hx hb dX13_drop_8 rfl hl (by decide) rfl (fun ls hl => ?_)
  refine zcutL (fun u9_ => (12 - (u9_ 0).toInt).toNat) (fun H locs ls u9_ w9_ a9_ b9_ => va_P (dC, dI) vwCl [(h0, .inr (13, mX13 q0 v0)), ((q0 2), zi k2 4800 (a9_ 0)), ((q0 3), zi k3 400 f3), ((q0 73), zi k48 400 f48), ((q0 5), zi k4 122880 f4), ((q0 7), zi k6 120 f6)] H ∧ va_D A [(h0, .inr (13, mX13 q0 v0)), ((q0 2), zi k2 4800 (a9_ 0)), ((q0 3), zi k3 400 f3), ((q0 73), zi k48 400 f48), ((q0 5), zi k4 122880 f4), ((q0 7), zi k6 120 f6)] ∧ va_S A s.heap H locs ∧ lv_has ls 4 [(0, .ref h0), (1, .int x1), (2, .int z5), (3, .int (u9_ 0))] ∧ (0 ≤ (u9_ 0).toInt ∧ (u9_ 0).toInt ≤ 12) ∧ (zC f2 (a9_ 0) (fun i => f2 ((12 * z5.toInt).toNat + i)) (12 * x1.toInt) (u9_ 0).toInt) ∧ ((u9_ 0).toInt ≤ 12)) (fun ls u9_ w9_ => F0 m 9 ls []) 0 0 ?_ (fun hJ9 => ?_)
  · skip
    intro H locs ls u9_ w9_ a9_ b9_ hc hJ9
    obtain ⟨hP, hD, hS, hl, b_, hI9_0, b_⟩ := hc
    refine lv_iload_n hx hb dX13_drop_9 rfl (lv_at hl 3 rfl) ?_
    refine lv_bipush (v := 12) hx hb dX13_drop_10 (by decide) ?_
    refine lv_icmp_ge (tgt := 43) hx hb dX13_drop_12 (by decide) (fun c_ => ?_) (fun c_ => ?_)
    · skip
      have b_ := zT_ge rfl zk_12 c_
      refine lv_aload_n hx hb dX13_drop_43 rfl (lv_at hl 0 rfl) ?_
      refine va_get (D := (dC, dI)) (ci := 13) (v := .ref (q0 3)) (C := RX13) (T := TX13) (N := 75) hx hb hG zuX13 hown hK hP 0 rfl rfl 3 (by decide) (hG _ zv1607) (fun _ h9 => h9) rfl dX13_drop_44 ?_
      refine lv_iload_n hx hb dX13_drop_47 rfl (lv_at hl 1 rfl) ?_
      refine lv_aload_n hx hb dX13_drop_48 rfl (lv_at hl 0 rfl) ?_
      refine va_get (D := (dC, dI)) (ci := 13) (v := .ref (q0 3)) (C := RX13) (T := TX13) (N := 75) hx hb hG zuX13 hown hK hP 0 rfl rfl 3 (by decide) (hG _ zv1607) (fun _ h9 => h9) rfl dX13_drop_49 ?_
      refine lv_iload_n hx hb dX13_drop_52 rfl (lv_at hl 2 rfl) ?_
      refine va_iald hx hb hK hP 2 1 rfl rfl (zin_lit ⟨by omega, by omega⟩) dX13_drop_53 ?_
      refine lv_topi (fun z53 e_z53 => ?_)
      have b_ : 0 ≤ z53.toInt ∧ z53.toInt ≤ 12 := by rw [e_z53]; exact hf3 _
      refine va_iast hx hb hK hP hD hS 2 1 rfl rfl (zin_lit ⟨by omega, by omega⟩) dX13_drop_54 (fun H locs hP hD hS => ?_)
      obtain ⟨f_54, e_f_54⟩ : ∃ z : Nat → Int32, z = upd f3 (x1 : Int32).toNatClampNeg z53 := ⟨_, rfl⟩
      have hP : va_P (dC, dI) vwCl [(h0, .inr (13, mX13 q0 v0)), ((q0 2), zi k2 4800 (a9_ 0)), ((q0 3), zi k3 400 f_54), ((q0 73), zi k48 400 f48), ((q0 5), zi k4 122880 f4), ((q0 7), zi k6 120 f6)] H := by rw [e_f_54]; exact hP
      have hD : va_D A [(h0, .inr (13, mX13 q0 v0)), ((q0 2), zi k2 4800 (a9_ 0)), ((q0 3), zi k3 400 f_54), ((q0 73), zi k48 400 f48), ((q0 5), zi k4 122880 f4), ((q0 7), zi k6 120 f6)] := by rw [e_f_54]; exact hD
      have hf_54 : zA 0 12 f_54 := by rw [e_f_54]; exact zA_upd hf3 (show 0 ≤ (z53 : Int32).toInt from by omega) (show (z53 : Int32).toInt ≤ 12 from by omega)
      refine lv_aload_n hx hb dX13_drop_55 rfl (lv_at hl 0 rfl) ?_
      refine va_get (D := (dC, dI)) (ci := 13) (v := .ref (q0 73)) (C := RX13) (T := TX13) (N := 75) hx hb hG zuX13 hown hK hP 0 rfl rfl 73 (by decide) (hG _ zv1677) (fun _ h9 => h9) rfl dX13_drop_56 ?_
      refine lv_iload_n hx hb dX13_drop_59 rfl (lv_at hl 1 rfl) ?_
      refine lv_aload_n hx hb dX13_drop_60 rfl (lv_at hl 0 rfl) ?_
      refine va_get (D := (dC, dI)) (ci := 13) (v := .ref (q0 73)) (C := RX13) (T := TX13) (N := 75) hx hb hG zuX13 hown hK hP 0 rfl rfl 73 (by decide) (hG _ zv1677) (fun _ h9 => h9) rfl dX13_drop_61 ?_
      refine lv_iload_n hx hb dX13_drop_64 rfl (lv_at hl 2 rfl) ?_
      refine va_iald hx hb hK hP 3 2 rfl rfl (zin_lit ⟨by omega, by omega⟩) dX13_drop_65 ?_
      refine lv_topi (fun z65 e_z65 => ?_)
      refine va_iast hx hb hK hP hD hS 3 2 rfl rfl (zin_lit ⟨by omega, by omega⟩) dX13_drop_66 (fun H locs hP hD hS => ?_)
      obtain ⟨f_66, e_f_66⟩ : ∃ z : Nat → Int32, z = upd f48 (x1 : Int32).toNatClampNeg z65 := ⟨_, rfl⟩
      have hP : va_P (dC, dI) vwCl [(h0, .inr (13, mX13 q0 v0)), ((q0 2), zi k2 4800 (a9_ 0)), ((q0 3), zi k3 400 f_54), ((q0 73), zi k48 400 f_66), ((q0 5), zi k4 122880 f4), ((q0 7), zi k6 120 f6)] H := by rw [e_f_66]; exact hP
      have hD : va_D A [(h0, .inr (13, mX13 q0 v0)), ((q0 2), zi k2 4800 (a9_ 0)), ((q0 3), zi k3 400 f_54), ((q0 73), zi k48 400 f_66), ((q0 5), zi k4 122880 f4), ((q0 7), zi k6 120 f6)] := by rw [e_f_66]; exact hD
      refine lv_iconst (v := 0) hx hb dX13_drop_67 (by decide) ?_
      refine lv_istore_n (lv' := [(3, .int 0), (0, .ref h0), (1, .int x1), (2, .int z5)]) hx hb dX13_drop_68 rfl hl (by decide) rfl (fun ls hl => ?_)
      refine zcutL (fun u69_ => (122880 - (u69_ 0).toInt).toNat) (fun H locs ls u69_ w69_ a69_ b69_ => va_P (dC, dI) vwCl [(h0, .inr (13, mX13 q0 v0)), ((q0 2), zi k2 4800 (a9_ 0)), ((q0 3), zi k3 400 f_54), ((q0 73), zi k48 400 f_66), ((q0 5), zi k4 122880 (a69_ 0)), ((q0 7), zi k6 120 f6)] H ∧ va_D A [(h0, .inr (13, mX13 q0 v0)), ((q0 2), zi k2 4800 (a9_ 0)), ((q0 3), zi k3 400 f_54), ((q0 73), zi k48 400 f_66), ((q0 5), zi k4 122880 (a69_ 0)), ((q0 7), zi k6 120 f6)] ∧ va_S A s.heap H locs ∧ lv_has ls 4 [(0, .ref h0), (1, .int x1), (2, .int z5), (3, .int (u69_ 0))] ∧ zA 0 400 (a69_ 0) ∧ (0 ≤ (u69_ 0).toInt ∧ (u69_ 0).toInt ≤ 122880) ∧ (zRn f4 (a69_ 0) x1.toInt ((v0 4).toInt - 1) (u69_ 0).toInt) ∧ ((u69_ 0).toInt ≤ 1024 * (v0 13).toInt)) (fun ls u69_ w69_ => F0 m 69 ls []) 0 0 ?_ (fun hJ69 => ?_)
      · skip
        intro H locs ls u69_ w69_ a69_ b69_ hc hJ69
        obtain ⟨hP, hD, hS, hl, ha69_0, b_, hI69_0, b_⟩ := hc
        refine lv_iload_n hx hb dX13_drop_69 rfl (lv_at hl 3 rfl) ?_
        refine lv_sipush (v := 1024) hx hb dX13_drop_70 (by decide) ?_
        refine lv_aload_n hx hb dX13_drop_73 rfl (lv_at hl 0 rfl) ?_
        refine va_get (D := (dC, dI)) (ci := 13) (v := .int (v0 13)) (C := RX13) (T := TX13) (N := 75) hx hb hG zuX13 hown hK hP 0 rfl rfl 13 (by decide) (hG _ zv1617) (fun _ h9 => h9) rfl dX13_drop_74 ?_
        refine lv_imul hx hb dX13_drop_77 ?_
        refine lv_topi (fun z77 e_z77 => ?_)
        have b_ := zmul zk_1024 rfl e_z77 (by omega) (by omega)
        refine lv_icmp_ge (tgt := 109) hx hb dX13_drop_78 (by decide) (fun c_ => ?_) (fun c_ => ?_)
        · skip
          have b_ := zT_ge rfl rfl c_
          have hrn9 : zRn f4 (a69_ 0) x1.toInt ((v0 4).toInt - 1) (1024 * (v0 13).toInt) := by rw [show 1024 * (v0 13).toInt = (u69_ 0).toInt from by omega]; exact hI69_0
          refine lv_aload_n hx hb dX13_drop_109 rfl (lv_at hl 0 rfl) ?_
          refine lv_dup hx hb dX13_drop_110 rfl ?_
          refine va_get (D := (dC, dI)) (ci := 13) (v := .int (v0 4)) (C := RX13) (T := TX13) (N := 75) hx hb hG zuX13 hown hK hP 0 rfl rfl 4 (by decide) (hG _ zv1608) (fun _ h9 => h9) rfl dX13_drop_111 ?_
          refine lv_iconst (v := 1) hx hb dX13_drop_114 (by decide) ?_
          refine lv_isub hx hb dX13_drop_115 ?_
          refine lv_topi (fun z115 e_z115 => ?_)
          have b_ := zsub rfl zk_1 e_z115 (by omega) (by omega)
          have b_ : 0 ≤ z115.toInt ∧ z115.toInt ≤ 400 := ⟨by omega, by omega⟩
          refine va_put (D := (dC, dI)) (ci := 13) (v := .int z115) (ty := .int) (C := RX13) (T := TX13) (N := 75) hx hb hG zuX13 tyX13 tyX13_ok nmX13 hown hK hP hD hS 0 rfl rfl 4 (by decide) (hG _ zv1608) (fun _ h9 => h9) rfl (by decide +kernel) rfl rfl (Nat.le_of_ble_eq_true rfl) dX13_drop_116 (fun H locs hP hD hS => ?_)
          have hP : va_P (dC, dI) vwCl [(h0, .inr (13, mX13 q0 (upd v0 4 z115))), ((q0 2), zi k2 4800 (a9_ 0)), ((q0 3), zi k3 400 f_54), ((q0 73), zi k48 400 f_66), ((q0 5), zi k4 122880 (a69_ 0)), ((q0 7), zi k6 120 f6)] H := hP
          have hD : va_D A [(h0, .inr (13, mX13 q0 (upd v0 4 z115))), ((q0 2), zi k2 4800 (a9_ 0)), ((q0 3), zi k3 400 f_54), ((q0 73), zi k48 400 f_66), ((q0 5), zi k4 122880 (a69_ 0)), ((q0 7), zi k6 120 f6)] := hD
          refine lv_aload_n hx hb dX13_drop_119 rfl (lv_at hl 0 rfl) ?_
          refine lv_iconst (v := 0) hx hb dX13_drop_120 (by decide) ?_
          refine va_put (D := (dC, dI)) (ci := 13) (v := .int 0) (ty := .boolean) (C := RX13) (T := TX13) (N := 75) hx hb hG zuX13 tyX13 tyX13_ok nmX13 hown hK hP hD hS 0 rfl rfl 30 (by decide) (hG _ zv1634) (fun _ h9 => h9) rfl (by decide +kernel) rfl rfl (Nat.le_of_ble_eq_true rfl) dX13_drop_121 (fun H locs hP hD hS => ?_)
          have hP : va_P (dC, dI) vwCl [(h0, .inr (13, mX13 q0 (upd (upd v0 4 z115) 30 0))), ((q0 2), zi k2 4800 (a9_ 0)), ((q0 3), zi k3 400 f_54), ((q0 73), zi k48 400 f_66), ((q0 5), zi k4 122880 (a69_ 0)), ((q0 7), zi k6 120 f6)] H := hP
          have hD : va_D A [(h0, .inr (13, mX13 q0 (upd (upd v0 4 z115) 30 0))), ((q0 2), zi k2 4800 (a9_ 0)), ((q0 3), zi k3 400 f_54), ((q0 73), zi k48 400 f_66), ((q0 5), zi k4 122880 (a69_ 0)), ((q0 7), zi k6 120 f6)] := hD
          have hj : zJ (a69_ 0) f6 z115.toInt (v0 13).toInt := by rw [show z115.toInt = (v0 4).toInt - 1 from by omega]; exact zJ_drop hp1_ hrn9 hp2_ hp3_ (by omega) (by omega) rfl (by omega)
          have hhd : zHd f_66 (a69_ 0) z115.toInt (1024 * (v0 13).toInt) := by rw [show z115.toInt = (v0 4).toInt - 1 from by omega, e_f_66]; exact zHd_drop (q := x1) hrn9 hp2_ hp3_ (by omega) (by omega) rfl rfl (e_z65.trans (zix (by omega)))
          have hdp : zDp f2 f3 (v0 4).toInt f4 f6 (v0 13).toInt (a9_ 0) f_54 z115.toInt (a69_ 0) x1.toInt := zDp_i (P := x1) (N := z5) (S := z53) rfl (by omega) (by omega) rfl (by omega) hp2_ hp3_ hrn9 (by rw [show (v0 4).toInt - 1 = z5.toInt from by omega]; exact zC_e hI9_0 rfl (by omega)) e_f_54 e_z53 (by omega)
          refine W.widen (k := 0) (n := 0) (by decide) (by decide) ?_
          have hpost : (0 ≤ z115.toInt ∧ z115.toInt ≤ 399) ∧ (0 ≤ (0 : Int32).toInt ∧ (0 : Int32).toInt ≤ 0) ∧ (z115.toInt = (v0 4).toInt - 1) := ⟨(by first | with_reducible assumption | exact ⟨by omega, by omega⟩), (by first | with_reducible assumption | exact ⟨by omega, by omega⟩), by omega⟩
          have hP9 : va_P (dC, dI) vwCl [(h0, .inr (13, mX13 q0 (upd (upd v0 4 z115) 30 0))), ((q0 2), zi k2 4800 (a9_ 0)), ((q0 3), zi k3 400 f_54), ((q0 73), zi k48 400 f_66), ((q0 5), zi k4 122880 (a69_ 0)), ((q0 7), zi k6 120 f6)] H := hP
          have hD9 : va_D A [(h0, .inr (13, mX13 q0 (upd (upd v0 4 z115) 30 0))), ((q0 2), zi k2 4800 (a9_ 0)), ((q0 3), zi k3 400 f_54), ((q0 73), zi k48 400 f_66), ((q0 5), zi k4 122880 (a69_ 0)), ((q0 7), zi k6 120 f6)] := hD
          have hB0 : zJ (a69_ 0) f6 z115.toInt (v0 13).toInt := by exact hj
          have hB1 : zHd f_66 (a69_ 0) z115.toInt (1024 * (v0 13).toInt) := by exact hhd
          have hB2 : zDp f2 f3 (v0 4).toInt f4 f6 (v0 13).toInt (a9_ 0) f_54 z115.toInt (a69_ 0) x1.toInt := by exact hdp
          have hB3 : zHr f48 f4 (v0 4).toInt (1024 * (v0 13).toInt) → zHr f_66 (a69_ 0) z115.toInt (1024 * (v0 13).toInt) := by exact fun h => zHr_d h hrn9 (by omega) (by omega) rfl (by omega) e_f_66 rfl (e_z65.trans (zix (by omega)))
          exact W.vret hx hb hr (fun t ht hW => ⟨⟨(fun i => ([z115, 0] : List (Int32)).getD i 0), rfl, hpost, (fun _ => 0), (fun i => ([(a9_ 0), f_54, f_66, (a69_ 0)] : List (Nat → Int32)).getD i (fun _ => 0)), (fun _ => (fun _ => 0)), hf_54, ha69_0, hB0, hB1, hB2, hB3, by rw [ht]; exact hP9, va_K.moved hW.alike hK, hD9⟩, hS.F ht⟩) hS.2.2 dX13_drop_124
        · skip
          have b_ := zF_ge rfl rfl c_
          refine lv_aload_n hx hb dX13_drop_81 rfl (lv_at hl 0 rfl) ?_
          refine va_get (D := (dC, dI)) (ci := 13) (v := .ref (q0 5)) (C := RX13) (T := TX13) (N := 75) hx hb hG zuX13 hown hK hP 0 rfl rfl 5 (by decide) (hG _ zv1609) (fun _ h9 => h9) rfl dX13_drop_82 ?_
          refine lv_iload_n hx hb dX13_drop_85 rfl (lv_at hl 3 rfl) ?_
          refine va_sald hx hb hK hP 4 3 rfl rfl (zin_lit ⟨by omega, by omega⟩) dX13_drop_86 ?_
          refine lv_topi (fun z86 e_z86 => ?_)
          have b_ : 0 ≤ z86.toInt ∧ z86.toInt ≤ 400 := by rw [e_z86]; exact ha69_0 _
          have hat : (f4 ((u69_ 0) : Int32).toNatClampNeg).toInt = z86.toInt := by rw [← zRn_at hI69_0 rfl (by omega)]; exact congrArg Int32.toInt e_z86.symm
          refine lv_iload_n hx hb dX13_drop_87 rfl (lv_at hl 2 rfl) ?_
          refine lv_iconst (v := 1) hx hb dX13_drop_88 (by decide) ?_
          refine lv_iadd hx hb dX13_drop_89 ?_
          refine lv_topi (fun z89 e_z89 => ?_)
          have b_ := zadd rfl zk_1 e_z89 (by omega) (by omega)
          refine lv_icmp_ne (tgt := 103) hx hb dX13_drop_90 (by decide) (fun c_ => ?_) (fun c_ => ?_)
          · skip
            have b_ := zT_ne rfl rfl c_
            obtain ⟨z103, e_z103⟩ : ∃ z : Int32, z = (u69_ 0) + Int32.ofInt 1 := ⟨_, rfl⟩
            have b_ := zadd (x := (u69_ 0)) (y := Int32.ofInt 1) rfl (show (Int32.ofInt 1).toInt = 1 from by decide) e_z103 (by omega) (by omega)
            refine lv_iinc (v := z103) (lv' := [(3, .int z103), (0, .ref h0), (1, .int x1), (2, .int z5)]) hx hb dX13_drop_103 hl (k := 3) rfl e_z103.symm (by decide) rfl (fun ls hl => ?_)
            have hrn : zRn f4 (a69_ 0) x1.toInt ((v0 4).toInt - 1) z103.toInt := zRn_n (i := (u69_ 0)) hI69_0 rfl (by omega) (by rw [hat]; omega) (by omega)
            refine lv_goto (tgt := 69) hx hb dX13_drop_106 (by decide) ?_
            have hc : va_P (dC, dI) vwCl [(h0, .inr (13, mX13 q0 v0)), ((q0 2), zi k2 4800 (a9_ 0)), ((q0 3), zi k3 400 f_54), ((q0 73), zi k48 400 f_66), ((q0 5), zi k4 122880 (a69_ 0)), ((q0 7), zi k6 120 f6)] H ∧ va_D A [(h0, .inr (13, mX13 q0 v0)), ((q0 2), zi k2 4800 (a9_ 0)), ((q0 3), zi k3 400 f_54), ((q0 73), zi k48 400 f_66), ((q0 5), zi k4 122880 (a69_ 0)), ((q0 7), zi k6 120 f6)] ∧ va_S A s.heap H locs ∧ lv_has ls 4 [(0, .ref h0), (1, .int x1), (2, .int z5), (3, .int z103)] ∧ zA 0 400 (a69_ 0) ∧ (0 ≤ z103.toInt ∧ z103.toInt ≤ 122880) ∧ (zRn f4 (a69_ 0) x1.toInt ((v0 4).toInt - 1) z103.toInt) ∧ (z103.toInt ≤ 1024 * (v0 13).toInt) := ⟨hP, hD, hS, lv_sub hl [1, 2, 3, 0] rfl, ha69_0, (by first | with_reducible assumption | exact ⟨by omega, by omega⟩), by first | exact hrn | exact zRn_0 (by omega), by omega⟩
            exact hJ69 H locs ls (fun i => ([z103] : List (Int32)).getD i 0) (fun _ => 0) (fun i => ([(a69_ 0)] : List (Nat → Int32)).getD i (fun _ => 0)) (fun _ => (fun _ => 0)) hc (show (122880 - z103.toInt).toNat < (122880 - (u69_ 0).toInt).toNat from by omega)
          · skip
            have b_ := zF_ne rfl rfl c_
            refine lv_aload_n hx hb dX13_drop_93 rfl (lv_at hl 0 rfl) ?_
            refine va_get (D := (dC, dI)) (ci := 13) (v := .ref (q0 5)) (C := RX13) (T := TX13) (N := 75) hx hb hG zuX13 hown hK hP 0 rfl rfl 5 (by decide) (hG _ zv1609) (fun _ h9 => h9) rfl dX13_drop_94 ?_
            refine lv_iload_n hx hb dX13_drop_97 rfl (lv_at hl 3 rfl) ?_
            refine lv_iload_n hx hb dX13_drop_98 rfl (lv_at hl 1 rfl) ?_
            refine lv_iconst (v := 1) hx hb dX13_drop_99 (by decide) ?_
            refine lv_iadd hx hb dX13_drop_100 ?_
            refine lv_topi (fun z100 e_z100 => ?_)
            have b_ := zadd rfl zk_1 e_z100 (by omega) (by omega)
            refine lv_i2s hx hb dX13_drop_101 rfl ?_
            refine lv_topi (fun z101 e_z101 => ?_)
            have b_ := zi2s rfl e_z101 (by omega) (by omega)
            refine va_sast hx hb hK hP hD hS 4 3 rfl rfl (zin_lit ⟨by omega, by omega⟩) dX13_drop_102 (fun H locs hP hD hS => ?_)
            obtain ⟨f_102, e_f_102⟩ : ∃ z : Nat → Int32, z = upd (a69_ 0) ((u69_ 0) : Int32).toNatClampNeg (vp_nar .short z101) := ⟨_, rfl⟩
            have hP : va_P (dC, dI) vwCl [(h0, .inr (13, mX13 q0 v0)), ((q0 2), zi k2 4800 (a9_ 0)), ((q0 3), zi k3 400 f_54), ((q0 73), zi k48 400 f_66), ((q0 5), zi k4 122880 f_102), ((q0 7), zi k6 120 f6)] H := by rw [e_f_102]; exact hP
            have hD : va_D A [(h0, .inr (13, mX13 q0 v0)), ((q0 2), zi k2 4800 (a9_ 0)), ((q0 3), zi k3 400 f_54), ((q0 73), zi k48 400 f_66), ((q0 5), zi k4 122880 f_102), ((q0 7), zi k6 120 f6)] := by rw [e_f_102]; exact hD
            have hf_102 : zA 0 400 f_102 := by rw [e_f_102]; exact zA_updS ha69_0 (show 0 ≤ (z101 : Int32).toInt from by omega) (show (z101 : Int32).toInt ≤ 400 from by omega)
            obtain ⟨z103, e_z103⟩ : ∃ z : Int32, z = (u69_ 0) + Int32.ofInt 1 := ⟨_, rfl⟩
            have b_ := zadd (x := (u69_ 0)) (y := Int32.ofInt 1) rfl (show (Int32.ofInt 1).toInt = 1 from by decide) e_z103 (by omega) (by omega)
            refine lv_iinc (v := z103) (lv' := [(3, .int z103), (0, .ref h0), (1, .int x1), (2, .int z5)]) hx hb dX13_drop_103 hl (k := 3) rfl e_z103.symm (by decide) rfl (fun ls hl => ?_)
            have hrn : zRn f4 f_102 x1.toInt ((v0 4).toInt - 1) z103.toInt := by rw [e_f_102]; exact zRn_y (i := (u69_ 0)) hI69_0 rfl (by omega) (hat.trans (by omega)) (by rw [vp_nar_short, zi2s rfl rfl (by omega) (by omega)]; omega) (by omega)
            refine lv_goto (tgt := 69) hx hb dX13_drop_106 (by decide) ?_
            have hc : va_P (dC, dI) vwCl [(h0, .inr (13, mX13 q0 v0)), ((q0 2), zi k2 4800 (a9_ 0)), ((q0 3), zi k3 400 f_54), ((q0 73), zi k48 400 f_66), ((q0 5), zi k4 122880 f_102), ((q0 7), zi k6 120 f6)] H ∧ va_D A [(h0, .inr (13, mX13 q0 v0)), ((q0 2), zi k2 4800 (a9_ 0)), ((q0 3), zi k3 400 f_54), ((q0 73), zi k48 400 f_66), ((q0 5), zi k4 122880 f_102), ((q0 7), zi k6 120 f6)] ∧ va_S A s.heap H locs ∧ lv_has ls 4 [(0, .ref h0), (1, .int x1), (2, .int z5), (3, .int z103)] ∧ zA 0 400 f_102 ∧ (0 ≤ z103.toInt ∧ z103.toInt ≤ 122880) ∧ (zRn f4 f_102 x1.toInt ((v0 4).toInt - 1) z103.toInt) ∧ (z103.toInt ≤ 1024 * (v0 13).toInt) := ⟨hP, hD, hS, lv_sub hl [1, 2, 3, 0] rfl, hf_102, (by first | with_reducible assumption | exact ⟨by omega, by omega⟩), by first | exact hrn | exact zRn_0 (by omega), by omega⟩
            exact hJ69 H locs ls (fun i => ([z103] : List (Int32)).getD i 0) (fun _ => 0) (fun i => ([f_102] : List (Nat → Int32)).getD i (fun _ => 0)) (fun _ => (fun _ => 0)) hc (show (122880 - z103.toInt).toNat < (122880 - (u69_ 0).toInt).toNat from by omega)
      · skip
        have hc : va_P (dC, dI) vwCl [(h0, .inr (13, mX13 q0 v0)), ((q0 2), zi k2 4800 (a9_ 0)), ((q0 3), zi k3 400 f_54), ((q0 73), zi k48 400 f_66), ((q0 5), zi k4 122880 f4), ((q0 7), zi k6 120 f6)] H ∧ va_D A [(h0, .inr (13, mX13 q0 v0)), ((q0 2), zi k2 4800 (a9_ 0)), ((q0 3), zi k3 400 f_54), ((q0 73), zi k48 400 f_66), ((q0 5), zi k4 122880 f4), ((q0 7), zi k6 120 f6)] ∧ va_S A s.heap H locs ∧ lv_has ls 4 [(0, .ref h0), (1, .int x1), (2, .int z5), (3, .int 0)] ∧ zA 0 400 f4 ∧ (0 ≤ (0 : Int32).toInt ∧ (0 : Int32).toInt ≤ 122880) ∧ (zRn f4 f4 x1.toInt ((v0 4).toInt - 1) (0 : Int32).toInt) ∧ ((0 : Int32).toInt ≤ 1024 * (v0 13).toInt) := ⟨hP, hD, hS, lv_sub hl [1, 2, 3, 0] rfl, hf4, (by first | with_reducible assumption | exact ⟨by omega, by omega⟩), by first | exact hrn | exact zRn_0 (by omega), by omega⟩
        exact hJ69 H locs ls (fun i => ([0] : List (Int32)).getD i 0) (fun _ => 0) (fun i => ([f4] : List (Nat → Int32)).getD i (fun _ => 0)) (fun _ => (fun _ => 0)) hc
    · skip
      have b_ := zF_ge rfl zk_12 c_
      refine lv_aload_n hx hb dX13_drop_15 rfl (lv_at hl 0 rfl) ?_
      refine va_get (D := (dC, dI)) (ci := 13) (v := .ref (q0 2)) (C := RX13) (T := TX13) (N := 75) hx hb hG zuX13 hown hK hP 0 rfl rfl 2 (by decide) (hG _ zv1606) (fun _ h9 => h9) rfl dX13_drop_16 ?_
      refine lv_bipush (v := 12) hx hb dX13_drop_19 (by decide) ?_
      refine lv_iload_n hx hb dX13_drop_21 rfl (lv_at hl 1 rfl) ?_
      refine lv_imul hx hb dX13_drop_22 ?_
      refine lv_topi (fun z22 e_z22 => ?_)
      have b_ := zmul zk_12 rfl e_z22 (by omega) (by omega)
      refine lv_iload_n hx hb dX13_drop_23 rfl (lv_at hl 3 rfl) ?_
      refine lv_iadd hx hb dX13_drop_24 ?_
      refine lv_topi (fun z24 e_z24 => ?_)
      have b_ := zadd rfl rfl e_z24 (by omega) (by omega)
      refine lv_aload_n hx hb dX13_drop_25 rfl (lv_at hl 0 rfl) ?_
      refine va_get (D := (dC, dI)) (ci := 13) (v := .ref (q0 2)) (C := RX13) (T := TX13) (N := 75) hx hb hG zuX13 hown hK hP 0 rfl rfl 2 (by decide) (hG _ zv1606) (fun _ h9 => h9) rfl dX13_drop_26 ?_
      refine lv_bipush (v := 12) hx hb dX13_drop_29 (by decide) ?_
      refine lv_iload_n hx hb dX13_drop_31 rfl (lv_at hl 2 rfl) ?_
      refine lv_imul hx hb dX13_drop_32 ?_
      refine lv_topi (fun z32 e_z32 => ?_)
      have b_ := zmul zk_12 rfl e_z32 (by omega) (by omega)
      refine lv_iload_n hx hb dX13_drop_33 rfl (lv_at hl 3 rfl) ?_
      refine lv_iadd hx hb dX13_drop_34 ?_
      refine lv_topi (fun z34 e_z34 => ?_)
      have b_ := zadd rfl rfl e_z34 (by omega) (by omega)
      refine va_bald hx hb hK hP 1 0 rfl rfl (zin_lit ⟨by omega, by omega⟩) dX13_drop_35 ?_
      refine lv_topi (fun z35 e_z35 => ?_)
      refine va_bast hx hb hK hP hD hS 1 0 rfl rfl (zin_lit ⟨by omega, by omega⟩) dX13_drop_36 (fun H locs hP hD hS => ?_)
      obtain ⟨f_36, e_f_36⟩ : ∃ z : Nat → Int32, z = upd (a9_ 0) (z24 : Int32).toNatClampNeg (vp_nar .byte z35) := ⟨_, rfl⟩
      have hP : va_P (dC, dI) vwCl [(h0, .inr (13, mX13 q0 v0)), ((q0 2), zi k2 4800 f_36), ((q0 3), zi k3 400 f3), ((q0 73), zi k48 400 f48), ((q0 5), zi k4 122880 f4), ((q0 7), zi k6 120 f6)] H := by rw [e_f_36]; exact hP
      have hD : va_D A [(h0, .inr (13, mX13 q0 v0)), ((q0 2), zi k2 4800 f_36), ((q0 3), zi k3 400 f3), ((q0 73), zi k48 400 f48), ((q0 5), zi k4 122880 f4), ((q0 7), zi k6 120 f6)] := by rw [e_f_36]; exact hD
      obtain ⟨z37, e_z37⟩ : ∃ z : Int32, z = (u9_ 0) + Int32.ofInt 1 := ⟨_, rfl⟩
      have b_ := zadd (x := (u9_ 0)) (y := Int32.ofInt 1) rfl (show (Int32.ofInt 1).toInt = 1 from by decide) e_z37 (by omega) (by omega)
      refine lv_iinc (v := z37) (lv' := [(3, .int z37), (0, .ref h0), (1, .int x1), (2, .int z5)]) hx hb dX13_drop_37 hl (k := 3) rfl e_z37.symm (by decide) rfl (fun ls hl => ?_)
      refine lv_goto (tgt := 9) hx hb dX13_drop_40 (by decide) ?_
      have hc : va_P (dC, dI) vwCl [(h0, .inr (13, mX13 q0 v0)), ((q0 2), zi k2 4800 f_36), ((q0 3), zi k3 400 f3), ((q0 73), zi k48 400 f48), ((q0 5), zi k4 122880 f4), ((q0 7), zi k6 120 f6)] H ∧ va_D A [(h0, .inr (13, mX13 q0 v0)), ((q0 2), zi k2 4800 f_36), ((q0 3), zi k3 400 f3), ((q0 73), zi k48 400 f48), ((q0 5), zi k4 122880 f4), ((q0 7), zi k6 120 f6)] ∧ va_S A s.heap H locs ∧ lv_has ls 4 [(0, .ref h0), (1, .int x1), (2, .int z5), (3, .int z37)] ∧ (0 ≤ z37.toInt ∧ z37.toInt ≤ 12) ∧ (zC f2 f_36 (fun i => f2 ((12 * z5.toInt).toNat + i)) (12 * x1.toInt) z37.toInt) ∧ (z37.toInt ≤ 12) := ⟨hP, hD, hS, lv_sub hl [1, 2, 3, 0] rfl, (by first | with_reducible assumption | exact ⟨by omega, by omega⟩), by first | (rw [e_f_36]; exact zC_t (by assumption) e_z35 (by omega) (by omega) (by omega) (by omega) (by omega) (by omega) (by omega) (by omega)) | exact zC_0 (by omega), by omega⟩
      exact hJ9 H locs ls (fun i => ([z37] : List (Int32)).getD i 0) (fun _ => 0) (fun i => ([f_36] : List (Nat → Int32)).getD i (fun _ => 0)) (fun _ => (fun _ => 0)) hc (show (12 - z37.toInt).toNat < (12 - (u9_ 0).toInt).toNat from by omega)
  · skip
    have hc : va_P (dC, dI) vwCl [(h0, .inr (13, mX13 q0 v0)), ((q0 2), zi k2 4800 f2), ((q0 3), zi k3 400 f3), ((q0 73), zi k48 400 f48), ((q0 5), zi k4 122880 f4), ((q0 7), zi k6 120 f6)] s.heap ∧ va_D A [(h0, .inr (13, mX13 q0 v0)), ((q0 2), zi k2 4800 f2), ((q0 3), zi k3 400 f3), ((q0 73), zi k48 400 f48), ((q0 5), zi k4 122880 f4), ((q0 7), zi k6 120 f6)] ∧ va_S A s.heap s.heap [] ∧ lv_has ls 4 [(0, .ref h0), (1, .int x1), (2, .int z5), (3, .int 0)] ∧ (0 ≤ (0 : Int32).toInt ∧ (0 : Int32).toInt ≤ 12) ∧ (zC f2 f2 (fun i => f2 ((12 * z5.toInt).toNat + i)) (12 * x1.toInt) (0 : Int32).toInt) ∧ ((0 : Int32).toInt ≤ 12) := ⟨hP, hD, hS, lv_sub hl [2, 3, 1, 0] rfl, (by first | with_reducible assumption | exact ⟨by omega, by omega⟩), by first | (rw [e_f_36]; exact zC_t (by assumption) e_z35 (by omega) (by omega) (by omega) (by omega) (by omega) (by omega) (by omega) (by omega)) | exact zC_0 (by omega), by omega⟩
    exact hJ9 s.heap [] ls (fun i => ([0] : List (Int32)).getD i 0) (fun _ => 0) (fun i => ([f2] : List (Nat → Int32)).getD i (fun _ => 0)) (fun _ => (fun _ => 0)) hc
