set_option maxHeartbeats 8000000 in
set_option maxRecDepth 100000 in
theorem sX13_chunks_0 (l : Launch) (dC : Nat → ClassId) (dI : Nat → Nat → Nat) (adK adV : Nat → Nat) (sz : Nat) (x0 : Int32) (hx0 : 0 ≤ x0.toInt ∧ x0.toInt ≤ 2600021) : Met l yX13_chunks (zw yX13_chunks cX13_chunks 4 (some .int)) { frames := 1, cells := 0, slots := 0, locals := 40 } (zPc dC dI adK adV [.int x0] sz [] []) (va_Qi (fun (r : Int32) (u : Nat → Int32) => (0 ≤ r.toInt ∧ r.toInt ≤ 81260) ∧ (0 ≤ x0.toInt → r.toInt = (znc (x0.toInt).toNat : Int))) (fun (u : Nat → Int32) (t : State) => ∃ (ww : Nat → Int64) (aa : Nat → Nat → Int32) (bb : Nat → Nat → Int64), va_P (dC, dI) vwCl [] t.heap ∧ va_K (dC, dI) vwCl [] t ∧ va_D (va_A [] sz) []) (va_A [] sz)) 0 0 (va_A [] sz) := by
  refine Met.ofW (cc := cX13_chunks) (maxL := 4) (ret := (some .int)) (by decide) rfl ?_
  intro p e s m args below meth c s₁ B hml hv
  obtain ⟨rfl, hsz, hP, hK, hD0, hE, hZ⟩ := hv
  have hx := B.exec
  have hb := B.bytes
  have hr := B.returns
  have hG : ∀ w ∈ zG, w.before _ s = true := fun w h => atoms_spec (ws := (zw yX13_chunks cX13_chunks 4 (some .int))) B.pre w (List.mem_cons_of_mem _ h)
  have hown : s.vm.findClass RX13 = some m.cls := findClass_of_methodNamed B.named
  have hlocks := B.notSynchronized

  subst hsz
  have hD := hD0.self (sz := s.heap.size)
  generalize hAe : va_A [] s.heap.size = A at hD hZ ⊢
  have hA : ∀ q : Nat, s.heap.size ≤ q → A q := fun q h => by rw [← hAe]; exact Or.inr h
  have hS : va_S A s.heap s.heap [] := va_S.rf
  have hl := lv_entry ([.int x0]) (n := 4) (Nat.le_of_ble_eq_true rfl)
  rw [lg_entry_eq]
  generalize (lg_sl ([.int x0]) ++ List.replicate (4 - (lg_sl ([.int x0])).length) Slot.unset).toArray = ls at hl ⊢
  have hl : lv_has ls 4 [(0, .int x0)] := hl
  have b_ := zk_0
  have b_ := zk_32
  refine lv_iconst (v := 0) hx hb dX13_chunks_0 (by decide) ?_
  refine lv_istore_n (lv' := [(1, .int 0), (0, .int x0)]) hx hb dX13_chunks_1 rfl hl (by decide) rfl (fun ls hl => ?_)
  refine lv_iload_n hx hb dX13_chunks_2 rfl (lv_at hl 1 rfl) ?_
  refine lv_istore_n (lv' := [(2, .int x0), (1, .int 0), (0, .int x0)]) hx hb dX13_chunks_3 rfl hl (by decide) rfl (fun ls hl => ?_)
  refine lv_bipush (v := 32) hx hb dX13_chunks_4 (by decide) ?_
  refine lv_istore_n (lv' := [(3, .int 32), (2, .int x0), (1, .int 0), (0, .int x0)]) hx hb dX13_chunks_6 rfl hl (by decide) rfl (fun ls hl => ?_)
  refine zcutL (fun u7_ => ((u7_ 1).toInt).toNat) (fun H locs ls u7_ w7_ a7_ b7_ => va_P (dC, dI) vwCl [] H ∧ va_D A [] ∧ va_S A s.heap H locs ∧ lv_has ls 4 [(0, .int x0), (1, .int (u7_ 0)), (2, .int (u7_ 1)), (3, .int (u7_ 2))] ∧ (0 ≤ (u7_ 0).toInt ∧ (u7_ 0).toInt ≤ 81260) ∧ ((-255) ≤ (u7_ 1).toInt ∧ (u7_ 1).toInt ≤ 2600021) ∧ (32 ≤ (u7_ 2).toInt ∧ (u7_ 2).toInt ≤ 256) ∧ (zCj x0.toInt (u7_ 0).toInt (u7_ 1).toInt (u7_ 2).toInt) ∧ (32 * (u7_ 0).toInt ≤ x0.toInt - (u7_ 1).toInt)) (fun ls u7_ w7_ => F0 m 7 ls []) 0 0 ?_ (fun hJ7 => ?_)
  · skip
    intro H locs ls u7_ w7_ a7_ b7_ hc hJ7
    obtain ⟨hP, hD, hS, hl, b_, b_, b_, hI7_0, b_⟩ := hc
    refine lv_iload_n hx hb dX13_chunks_7 rfl (lv_at hl 2 rfl) ?_
    refine lv_if_le (tgt := 31) hx hb dX13_chunks_8 (by decide) (fun c_ => ?_) (fun c_ => ?_)
    · skip
      have b_ := zT_le rfl zk_0 c_
      refine lv_iload_n hx hb dX13_chunks_31 rfl (lv_at hl 1 rfl) ?_
      refine W.widen (k := 0) (n := 0) (by decide) (by decide) ?_
      have hpost : (0 ≤ (u7_ 0).toInt ∧ (u7_ 0).toInt ≤ 81260) ∧ (0 ≤ x0.toInt → (u7_ 0).toInt = (znc (x0.toInt).toNat : Int)) := ⟨(by first | with_reducible assumption | exact ⟨by omega, by omega⟩), by exact zCj_e hI7_0 (by omega) rfl⟩
      have hP9 : va_P (dC, dI) vwCl [] H := hP
      have hD9 : va_D A [] := hD
      exact W.iret (v := (u7_ 0)) hx hb hr (fun t ht hW => ⟨⟨(u7_ 0), (fun _ => 0), rfl, hpost, (fun _ => 0), (fun _ => (fun _ => 0)), (fun _ => (fun _ => 0)), by rw [ht]; exact hP9, va_K.moved hW.alike hK, hD9⟩, hS.F ht⟩) hS.2.2 dX13_chunks_32
    · skip
      have b_ := zF_le rfl zk_0 c_
      refine lv_iload_n hx hb dX13_chunks_11 rfl (lv_at hl 2 rfl) ?_
      refine lv_iload_n hx hb dX13_chunks_12 rfl (lv_at hl 3 rfl) ?_
      refine lv_isub hx hb dX13_chunks_13 ?_
      refine lv_topi (fun z13 e_z13 => ?_)
      have b_ := zsub rfl rfl e_z13 (by omega) (by omega)
      refine lv_istore_n (lv' := [(2, .int z13), (0, .int x0), (1, .int (u7_ 0)), (3, .int (u7_ 2))]) hx hb dX13_chunks_14 rfl hl (by decide) rfl (fun ls hl => ?_)
      refine lv_sipush (v := 256) hx hb dX13_chunks_15 (by decide) ?_
      refine lv_iconst (v := 2) hx hb dX13_chunks_18 (by decide) ?_
      refine lv_iload_n hx hb dX13_chunks_19 rfl (lv_at hl 3 rfl) ?_
      refine lv_imul hx hb dX13_chunks_20 ?_
      refine lv_topi (fun z20 e_z20 => ?_)
      have b_ := zmul zk_2 rfl e_z20 (by omega) (by omega)
      refine va_mmin hx hb (by rw [hml]; exact hl.1.symm) hown (hG _ zv1897) (hG _ zv1385) (hG _ zv152) (hG _ zv1386) (Nat.le_of_ble_eq_true rfl) (Nat.le_of_ble_eq_true rfl) (Nat.le_of_ble_eq_true rfl) (Nat.le_of_ble_eq_true rfl) dX13_chunks_21 ?_
      refine lv_topi (fun z21 e_z21 => ?_)
      have b_ := zmin zk_256 rfl e_z21
      refine lv_istore_n (lv' := [(3, .int z21), (2, .int z13), (0, .int x0), (1, .int (u7_ 0))]) hx hb dX13_chunks_24 rfl hl (by decide) rfl (fun ls hl => ?_)
      obtain ⟨z25, e_z25⟩ : ∃ z : Int32, z = (u7_ 0) + Int32.ofInt 1 := ⟨_, rfl⟩
      have b_ := zadd (x := (u7_ 0)) (y := Int32.ofInt 1) rfl (show (Int32.ofInt 1).toInt = 1 from by decide) e_z25 (by omega) (by omega)
      refine lv_iinc (v := z25) (lv' := [(1, .int z25), (3, .int z21), (2, .int z13), (0, .int x0)]) hx hb dX13_chunks_25 hl (k := 3) rfl e_z25.symm (by decide) rfl (fun ls hl => ?_)
      refine lv_goto (tgt := 7) hx hb dX13_chunks_28 (by decide) ?_
      have hc : va_P (dC, dI) vwCl [] H ∧ va_D A [] ∧ va_S A s.heap H locs ∧ lv_has ls 4 [(0, .int x0), (1, .int z25), (2, .int z13), (3, .int z21)] ∧ (0 ≤ z25.toInt ∧ z25.toInt ≤ 81260) ∧ ((-255) ≤ z13.toInt ∧ z13.toInt ≤ 2600021) ∧ (32 ≤ z21.toInt ∧ z21.toInt ≤ 256) ∧ (zCj x0.toInt z25.toInt z13.toInt z21.toInt) ∧ (32 * z25.toInt ≤ x0.toInt - z13.toInt) := ⟨hP, hD, hS, lv_sub hl [3, 0, 2, 1] rfl, (by first | with_reducible assumption | exact ⟨by omega, by omega⟩), (by first | with_reducible assumption | exact ⟨by omega, by omega⟩), (by first | with_reducible assumption | exact ⟨by omega, by omega⟩), by first | exact zCj_s hI7_0 (by omega) (by omega) (by omega) (by omega) | exact zCj_0 (by decide) rfl (by decide), by omega⟩
      exact hJ7 H locs ls (fun i => ([z25, z13, z21] : List (Int32)).getD i 0) (fun _ => 0) (fun _ => (fun _ => 0)) (fun _ => (fun _ => 0)) hc (show (z13.toInt).toNat < ((u7_ 1).toInt).toNat from by omega)
  · skip
    have hc : va_P (dC, dI) vwCl [] s.heap ∧ va_D A [] ∧ va_S A s.heap s.heap [] ∧ lv_has ls 4 [(0, .int x0), (1, .int 0), (2, .int x0), (3, .int 32)] ∧ (0 ≤ (0 : Int32).toInt ∧ (0 : Int32).toInt ≤ 81260) ∧ ((-255) ≤ x0.toInt ∧ x0.toInt ≤ 2600021) ∧ (32 ≤ (32 : Int32).toInt ∧ (32 : Int32).toInt ≤ 256) ∧ (zCj x0.toInt (0 : Int32).toInt x0.toInt (32 : Int32).toInt) ∧ (32 * (0 : Int32).toInt ≤ x0.toInt - x0.toInt) := ⟨hP, hD, hS, lv_sub hl [3, 2, 1, 0] rfl, (by first | with_reducible assumption | exact ⟨by omega, by omega⟩), (by first | with_reducible assumption | exact ⟨by omega, by omega⟩), (by first | with_reducible assumption | exact ⟨by omega, by omega⟩), by first | exact zCj_s hI7_0 (by omega) (by omega) (by omega) (by omega) | exact zCj_0 (by decide) rfl (by decide), by omega⟩
    exact hJ7 s.heap [] ls (fun i => ([0, x0, 32] : List (Int32)).getD i 0) (fun _ => 0) (fun _ => (fun _ => 0)) (fun _ => (fun _ => 0)) hc
set_option maxHeartbeats 8000000 in
set_option maxRecDepth 100000 in
theorem sX13_holders_0 (l : Launch) (dC : Nat → ClassId) (dI : Nat → Nat → Nat) (adK adV : Nat → Nat) (h0 : Nat) (q0 : Nat → Nat) (k5 : ClassId) (k10 : ClassId) (k4 : ClassId) (k11 : ClassId) (k2 : ClassId) (k3 : ClassId) (k6 : ClassId) (sz : Nat) (v0 : Nat → Int32) (f5 : Nat → Int32) (f10 : Nat → Int32) (f4 : Nat → Int32) (f11 : Nat → Int32) (f2 : Nat → Int32) (f3 : Nat → Int32) (f6 : Nat → Int32) (x1 : Int32) (hv0 : zR rg_Model v0) (hf10 : zA 0 512 f10) (hf4 : zA 0 400 f4) (hf11 : zA 0 512 f11) (hf3 : zA 0 12 f3) (hx1 : 0 ≤ x1.toInt ∧ x1.toInt ≤ 399) : Met l yX13_holders (zw yX13_holders cX13_holders 4 (some .int)) { frames := 1, cells := 0, slots := 0, locals := 24 } (zPc dC dI adK adV [.ref h0, .int x1] sz [(h0, .inr (13, mX13 q0 v0)), ((q0 6), zi k5 120 f5), ((q0 11), zi k10 120 f10), ((q0 5), zi k4 122880 f4), ((q0 12), zi k11 120 f11), ((q0 2), zi k2 4800 f2), ((q0 3), zi k3 400 f3), ((q0 7), zi k6 120 f6)] [(k5, .boolean), (k10, .int), (k4, .short), (k11, .int), (k2, .byte), (k3, .int), (k6, .boolean)]) (va_Qi (fun (r : Int32) (u : Nat → Int32) => (0 ≤ r.toInt ∧ r.toInt ≤ 120) ∧ (zKg zf1 f5 f2 f3 (v0 4).toInt f4 f6 f10 f11 (v0 13).toInt x1.toInt (v0 13).toInt r.toInt)) (fun (u : Nat → Int32) (t : State) => ∃ (ww : Nat → Int64) (aa : Nat → Nat → Int32) (bb : Nat → Nat → Int64), va_P (dC, dI) vwCl [(h0, .inr (13, mX13 q0 v0)), ((q0 6), zi k5 120 f5), ((q0 11), zi k10 120 f10), ((q0 5), zi k4 122880 f4), ((q0 12), zi k11 120 f11), ((q0 2), zi k2 4800 f2), ((q0 3), zi k3 400 f3), ((q0 7), zi k6 120 f6)] t.heap ∧ va_K (dC, dI) vwCl [(k5, .boolean), (k10, .int), (k4, .short), (k11, .int), (k2, .byte), (k3, .int), (k6, .boolean)] t ∧ va_D (va_A [(h0, .inr (13, mX13 q0 v0)), ((q0 6), zi k5 120 f5), ((q0 11), zi k10 120 f10), ((q0 5), zi k4 122880 f4), ((q0 12), zi k11 120 f11), ((q0 2), zi k2 4800 f2), ((q0 3), zi k3 400 f3), ((q0 7), zi k6 120 f6)] sz) [(h0, .inr (13, mX13 q0 v0)), ((q0 6), zi k5 120 f5), ((q0 11), zi k10 120 f10), ((q0 5), zi k4 122880 f4), ((q0 12), zi k11 120 f11), ((q0 2), zi k2 4800 f2), ((q0 3), zi k3 400 f3), ((q0 7), zi k6 120 f6)]) (va_A [(h0, .inr (13, mX13 q0 v0)), ((q0 6), zi k5 120 f5), ((q0 11), zi k10 120 f10), ((q0 5), zi k4 122880 f4), ((q0 12), zi k11 120 f11), ((q0 2), zi k2 4800 f2), ((q0 3), zi k3 400 f3), ((q0 7), zi k6 120 f6)] sz)) 0 0 (va_A [(h0, .inr (13, mX13 q0 v0)), ((q0 6), zi k5 120 f5), ((q0 11), zi k10 120 f10), ((q0 5), zi k4 122880 f4), ((q0 12), zi k11 120 f11), ((q0 2), zi k2 4800 f2), ((q0 3), zi k3 400 f3), ((q0 7), zi k6 120 f6)] sz) := by
  refine Met.ofW (cc := cX13_holders) (maxL := 4) (ret := (some .int)) (by decide) rfl ?_
  intro p e s m args below meth c s₁ B hml hv
  obtain ⟨rfl, hsz, hP, hK, hD0, hE, hZ⟩ := hv
  have hx := B.exec
  have hb := B.bytes
  have hr := B.returns
  have hG : ∀ w ∈ zG, w.before _ s = true := fun w h => atoms_spec (ws := (zw yX13_holders cX13_holders 4 (some .int))) B.pre w (List.mem_cons_of_mem _ h)
  have hown : s.vm.findClass RX13 = some m.cls := findClass_of_methodNamed B.named
  have hlocks := B.notSynchronized

  subst hsz
  have hD := hD0.self (sz := s.heap.size)
  generalize hAe : va_A [(h0, .inr (13, mX13 q0 v0)), ((q0 6), zi k5 120 f5), ((q0 11), zi k10 120 f10), ((q0 5), zi k4 122880 f4), ((q0 12), zi k11 120 f11), ((q0 2), zi k2 4800 f2), ((q0 3), zi k3 400 f3), ((q0 7), zi k6 120 f6)] s.heap.size = A at hD hZ ⊢
  have hA : ∀ q : Nat, s.heap.size ≤ q → A q := fun q h => by rw [← hAe]; exact Or.inr h
  have hS : va_S A s.heap s.heap [] := va_S.rf
  have hl := lv_entry ([.ref h0, .int x1]) (n := 4) (Nat.le_of_ble_eq_true rfl)
  rw [lg_entry_eq]
  generalize (lg_sl ([.ref h0, .int x1]) ++ List.replicate (4 - (lg_sl ([.ref h0, .int x1])).length) Slot.unset).toArray = ls at hl ⊢
  have hl : lv_has ls 4 [(0, .ref h0), (1, .int x1)] := hl
  have b_ := zk_0
  have b_ : 0 ≤ (v0 4).toInt ∧ (v0 4).toInt ≤ 400 := hv0 4
  have b_ : 0 ≤ (v0 13).toInt ∧ (v0 13).toInt ≤ 120 := hv0 13
  refine lv_iconst (v := 0) hx hb dX13_holders_0 (by decide) ?_
  refine lv_istore_n (lv' := [(2, .int 0), (0, .ref h0), (1, .int x1)]) hx hb dX13_holders_1 rfl hl (by decide) rfl (fun ls hl => ?_)
  refine lv_iconst (v := 0) hx hb dX13_holders_2 (by decide) ?_
  refine lv_istore_n (lv' := [(3, .int 0), (2, .int 0), (0, .ref h0), (1, .int x1)]) hx hb dX13_holders_3 rfl hl (by decide) rfl (fun ls hl => ?_)
  refine zcutL (fun u4_ => (120 - (u4_ 1).toInt).toNat) (fun H locs ls u4_ w4_ a4_ b4_ => va_P (dC, dI) vwCl [(h0, .inr (13, mX13 q0 v0)), ((q0 6), zi k5 120 f5), ((q0 11), zi k10 120 f10), ((q0 5), zi k4 122880 f4), ((q0 12), zi k11 120 f11), ((q0 2), zi k2 4800 f2), ((q0 3), zi k3 400 f3), ((q0 7), zi k6 120 f6)] H ∧ va_D A [(h0, .inr (13, mX13 q0 v0)), ((q0 6), zi k5 120 f5), ((q0 11), zi k10 120 f10), ((q0 5), zi k4 122880 f4), ((q0 12), zi k11 120 f11), ((q0 2), zi k2 4800 f2), ((q0 3), zi k3 400 f3), ((q0 7), zi k6 120 f6)] ∧ va_S A s.heap H locs ∧ lv_has ls 4 [(0, .ref h0), (1, .int x1), (2, .int (u4_ 0)), (3, .int (u4_ 1))] ∧ (0 ≤ (u4_ 0).toInt ∧ (u4_ 0).toInt ≤ 120) ∧ (0 ≤ (u4_ 1).toInt ∧ (u4_ 1).toInt ≤ 120) ∧ (zKg zf1 f5 f2 f3 (v0 4).toInt f4 f6 f10 f11 (v0 13).toInt x1.toInt (u4_ 1).toInt (u4_ 0).toInt) ∧ ((u4_ 1).toInt ≤ (v0 13).toInt) ∧ ((u4_ 0).toInt ≤ (u4_ 1).toInt) ∧ (0 ≤ (u4_ 0).toInt)) (fun ls u4_ w4_ => F0 m 4 ls []) 0 0 ?_ (fun hJ4 => ?_)
  · skip
    intro H locs ls u4_ w4_ a4_ b4_ hc hJ4
    obtain ⟨hP, hD, hS, hl, b_, b_, hI4_0, b_, b_, b_⟩ := hc
    refine lv_iload_n hx hb dX13_holders_4 rfl (lv_at hl 3 rfl) ?_
    refine lv_aload_n hx hb dX13_holders_5 rfl (lv_at hl 0 rfl) ?_
    refine va_get (D := (dC, dI)) (ci := 13) (v := .int (v0 13)) (C := RX13) (T := TX13) (N := 75) hx hb hG zuX13 hown hK hP 0 rfl rfl 13 (by decide) (hG _ zv1617) (fun _ h9 => h9) rfl dX13_holders_6 ?_
    refine lv_icmp_ge (tgt := 44) hx hb dX13_holders_9 (by decide) (fun c_ => ?_) (fun c_ => ?_)
    · skip
      have b_ := zT_ge rfl rfl c_
      refine lv_iload_n hx hb dX13_holders_44 rfl (lv_at hl 2 rfl) ?_
      refine W.widen (k := 0) (n := 0) (by decide) (by decide) ?_
      have hpost : (0 ≤ (u4_ 0).toInt ∧ (u4_ 0).toInt ≤ 120) ∧ (zKg zf1 f5 f2 f3 (v0 4).toInt f4 f6 f10 f11 (v0 13).toInt x1.toInt (v0 13).toInt (u4_ 0).toInt) := ⟨(by first | with_reducible assumption | exact ⟨by omega, by omega⟩), by exact zKg_e hI4_0 (by omega) (by omega) rfl⟩
      have hP9 : va_P (dC, dI) vwCl [(h0, .inr (13, mX13 q0 v0)), ((q0 6), zi k5 120 f5), ((q0 11), zi k10 120 f10), ((q0 5), zi k4 122880 f4), ((q0 12), zi k11 120 f11), ((q0 2), zi k2 4800 f2), ((q0 3), zi k3 400 f3), ((q0 7), zi k6 120 f6)] H := hP
      have hD9 : va_D A [(h0, .inr (13, mX13 q0 v0)), ((q0 6), zi k5 120 f5), ((q0 11), zi k10 120 f10), ((q0 5), zi k4 122880 f4), ((q0 12), zi k11 120 f11), ((q0 2), zi k2 4800 f2), ((q0 3), zi k3 400 f3), ((q0 7), zi k6 120 f6)] := hD
      exact W.iret (v := (u4_ 0)) hx hb hr (fun t ht hW => ⟨⟨(u4_ 0), (fun _ => 0), rfl, hpost, (fun _ => 0), (fun _ => (fun _ => 0)), (fun _ => (fun _ => 0)), by rw [ht]; exact hP9, va_K.moved hW.alike hK, hD9⟩, hS.F ht⟩) hS.2.2 dX13_holders_45
    · skip
      have b_ := zF_ge rfl rfl c_
      refine lv_iload_n hx hb dX13_holders_12 rfl (lv_at hl 2 rfl) ?_
      refine lv_aload_n hx hb dX13_holders_13 rfl (lv_at hl 0 rfl) ?_
      refine va_get (D := (dC, dI)) (ci := 13) (v := .ref (q0 6)) (C := RX13) (T := TX13) (N := 75) hx hb hG zuX13 hown hK hP 0 rfl rfl 6 (by decide) (hG _ zv1610) (fun _ h9 => h9) rfl dX13_holders_14 ?_
      refine lv_iload_n hx hb dX13_holders_17 rfl (lv_at hl 3 rfl) ?_
      refine va_zald hx hb hK hP 1 0 rfl rfl (zin_lit ⟨by omega, by omega⟩) dX13_holders_18 ?_
      refine lv_topi (fun z18 e_z18 => ?_)
      have b_ : -2147483648 ≤ z18.toInt ∧ z18.toInt ≤ 2147483647 := ⟨zlo _, zhi _⟩
      refine lv_if_eq (tgt := 35) hx hb dX13_holders_19 (by decide) (fun c_ => ?_) (fun c_ => ?_)
      · skip
        have b_ := zT_eq rfl zk_0 c_
        refine lv_iconst (v := 0) hx hb dX13_holders_35 (by decide) ?_
        refine lv_iadd hx hb dX13_holders_36 ?_
        refine lv_topi (fun z36 e_z36 => ?_)
        have b_ := zadd rfl zk_0 e_z36 (by omega) (by omega)
        refine lv_istore_n (lv' := [(2, .int z36), (0, .ref h0), (1, .int x1), (3, .int (u4_ 1))]) hx hb dX13_holders_37 rfl hl (by decide) rfl (fun ls hl => ?_)
        obtain ⟨z38, e_z38⟩ : ∃ z : Int32, z = (u4_ 1) + Int32.ofInt 1 := ⟨_, rfl⟩
        have b_ := zadd (x := (u4_ 1)) (y := Int32.ofInt 1) rfl (show (Int32.ofInt 1).toInt = 1 from by decide) e_z38 (by omega) (by omega)
        refine lv_iinc (v := z38) (lv' := [(3, .int z38), (2, .int z36), (0, .ref h0), (1, .int x1)]) hx hb dX13_holders_38 hl (k := 3) rfl e_z38.symm (by decide) rfl (fun ls hl => ?_)
        have hkg : zKg zf1 f5 f2 f3 (v0 4).toInt f4 f6 f10 f11 (v0 13).toInt x1.toInt z38.toInt z36.toInt := zKg_n zf1_b hI4_0 (by omega) (by rw [← e_z18]; omega) (by omega) (by omega)
        refine lv_goto (tgt := 4) hx hb dX13_holders_41 (by decide) ?_
        have hc : va_P (dC, dI) vwCl [(h0, .inr (13, mX13 q0 v0)), ((q0 6), zi k5 120 f5), ((q0 11), zi k10 120 f10), ((q0 5), zi k4 122880 f4), ((q0 12), zi k11 120 f11), ((q0 2), zi k2 4800 f2), ((q0 3), zi k3 400 f3), ((q0 7), zi k6 120 f6)] H ∧ va_D A [(h0, .inr (13, mX13 q0 v0)), ((q0 6), zi k5 120 f5), ((q0 11), zi k10 120 f10), ((q0 5), zi k4 122880 f4), ((q0 12), zi k11 120 f11), ((q0 2), zi k2 4800 f2), ((q0 3), zi k3 400 f3), ((q0 7), zi k6 120 f6)] ∧ va_S A s.heap H locs ∧ lv_has ls 4 [(0, .ref h0), (1, .int x1), (2, .int z36), (3, .int z38)] ∧ (0 ≤ z36.toInt ∧ z36.toInt ≤ 120) ∧ (0 ≤ z38.toInt ∧ z38.toInt ≤ 120) ∧ (zKg zf1 f5 f2 f3 (v0 4).toInt f4 f6 f10 f11 (v0 13).toInt x1.toInt z38.toInt z36.toInt) ∧ (z38.toInt ≤ (v0 13).toInt) ∧ (z36.toInt ≤ z38.toInt) ∧ (0 ≤ z36.toInt) := ⟨hP, hD, hS, lv_sub hl [2, 3, 1, 0] rfl, (by first | with_reducible assumption | exact ⟨by omega, by omega⟩), (by first | with_reducible assumption | exact ⟨by omega, by omega⟩), by first | exact hkg | exact zKg_0 (by decide) (by decide), by omega, by omega, by omega⟩
        exact hJ4 H locs ls (fun i => ([z36, z38] : List (Int32)).getD i 0) (fun _ => 0) (fun _ => (fun _ => 0)) (fun _ => (fun _ => 0)) hc (show (120 - z38.toInt).toNat < (120 - (u4_ 1).toInt).toNat from by omega)
      · skip
        have b_ := zF_eq rfl zk_0 c_
        refine lv_aload_n hx hb dX13_holders_22 rfl (lv_at hl 0 rfl) ?_
        refine lv_iload_n hx hb dX13_holders_23 rfl (lv_at hl 3 rfl) ?_
        refine lv_iload_n hx hb dX13_holders_24 rfl (lv_at hl 1 rfl) ?_
        have hPc := hP.sub (ws' := [(h0, .inr (13, mX13 q0 v0)), ((q0 11), zi k10 120 f10), ((q0 5), zi k4 122880 f4), ((q0 12), zi k11 120 f11)]) [0, 2, 3, 4] rfl
        have hDc := hD.sub (ws' := [(h0, .inr (13, mX13 q0 v0)), ((q0 11), zi k10 120 f10), ((q0 5), zi k4 122880 f4), ((q0 12), zi k11 120 f11)]) [0, 2, 3, 4] (by decide) rfl
        have hKc := hK.sub (tys' := [(k10, .int), (k4, .short), (k11, .int)]) [1, 2, 3] rfl
        have hFc := va_free (wc := [(h0, .inr (13, mX13 q0 v0)), ((q0 11), zi k10 120 f10), ((q0 5), zi k4 122880 f4), ((q0 12), zi k11 120 f11)]) hD hS hA [0, 2, 3, 4] rfl
        refine va_calli (va_runV (As := [.int (u4_ 1), .int x1]) (rest := [.int (u4_ 0)]) ⟨hx, hb, hml, hown, hG⟩ (sX13_timesOf_0 l dC dI adK adV h0 q0 k10 k4 k11 H.size v0 f10 f4 f11 (u4_ 1) x1 hv0 hf10 hf4 hf11 (show (0 : Int) ≤ ((u4_ 1) : Int32).toInt ∧ ((u4_ 1) : Int32).toInt ≤ (119 : Int) from (by first | with_reducible assumption | exact ⟨by omega, by omega⟩)) (show (0 : Int) ≤ (x1 : Int32).toInt ∧ (x1 : Int32).toInt ≤ (399 : Int) from (by first | with_reducible assumption | exact ⟨by omega, by omega⟩))) (cwV 2 hG (zgV zv1979 zv1981 zv71 zv142 zv1982) rfl rfl rfl (by decide +kernel) ⟨Nat.le_of_ble_eq_true rfl, Nat.le_of_ble_eq_true rfl⟩) ⟨zPc_blind, va_recv hKc hPc (ci := 13) (q0 := 0) rfl rfl, zPc_pre hPc hKc hDc hE hS hFc hZ⟩ rfl rfl hl.1 rfl (lv_room (Nat.le_of_ble_eq_true rfl)) dX13_holders_25 ⟨Nat.le_of_ble_eq_true rfl, Nat.le_of_ble_eq_true rfl⟩) hS (fun q _ h => hFc q h) hFc (fun r25_ u25_ t H1 locs ht hvm hw hB hz1 hk1 hS => ?_)
        replace hw : (0 ≤ r25_.toInt ∧ r25_.toInt ≤ 1024) ∧ (r25_.toInt ≤ (zp f4 (u4_ 1).toInt x1.toInt 1024).1) ∧ (zTf f4 f10 f11 ((u4_ 1) : Int32) x1.toInt r25_.toInt) := hw
        obtain ⟨b_, hX25_0, hX25_1⟩ := hw
        obtain ⟨w25_, a25_, b25_, hP1, hK1, hD1⟩ := hB
        rw [ht] at hP1
        obtain ⟨hP, hD⟩ := va_join (wr := [((q0 6), zi k5 120 f5), ((q0 2), zi k2 4800 f2), ((q0 3), zi k3 400 f3), ((q0 7), zi k6 120 f6)]) (w1 := [(h0, .inr (13, mX13 q0 v0)), ((q0 11), zi k10 120 f10), ((q0 5), zi k4 122880 f4), ((q0 12), zi k11 120 f11)]) hP hD [0, 2, 3, 4] [1, 5, 6, 7] rfl rfl (by decide) (by decide) hk1 hFc hP1 hD1
        have hP : va_P (dC, dI) vwCl [(h0, .inr (13, mX13 q0 v0)), ((q0 6), zi k5 120 f5), ((q0 11), zi k10 120 f10), ((q0 5), zi k4 122880 f4), ((q0 12), zi k11 120 f11), ((q0 2), zi k2 4800 f2), ((q0 3), zi k3 400 f3), ((q0 7), zi k6 120 f6)] H1 := hP.sub [4, 0, 5, 6, 7, 1, 2, 3] rfl
        have hD : va_D A [(h0, .inr (13, mX13 q0 v0)), ((q0 6), zi k5 120 f5), ((q0 11), zi k10 120 f10), ((q0 5), zi k4 122880 f4), ((q0 12), zi k11 120 f11), ((q0 2), zi k2 4800 f2), ((q0 3), zi k3 400 f3), ((q0 7), zi k6 120 f6)] := hD.sub [4, 0, 5, 6, 7, 1, 2, 3] (by decide) rfl
        generalize H1 = H at hP hS ⊢
        clear hz1
        refine lv_if_le (tgt := 35) hx hb dX13_holders_28 (by decide) (fun c_ => ?_) (fun c_ => ?_)
        · skip
          have b_ := zT_le rfl zk_0 c_
          refine lv_iconst (v := 0) hx hb dX13_holders_35 (by decide) ?_
          refine lv_iadd hx hb dX13_holders_36 ?_
          refine lv_topi (fun z36 e_z36 => ?_)
          have b_ := zadd rfl zk_0 e_z36 (by omega) (by omega)
          refine lv_istore_n (lv' := [(2, .int z36), (0, .ref h0), (1, .int x1), (3, .int (u4_ 1))]) hx hb dX13_holders_37 rfl hl (by decide) rfl (fun ls hl => ?_)
          obtain ⟨z38, e_z38⟩ : ∃ z : Int32, z = (u4_ 1) + Int32.ofInt 1 := ⟨_, rfl⟩
          have b_ := zadd (x := (u4_ 1)) (y := Int32.ofInt 1) rfl (show (Int32.ofInt 1).toInt = 1 from by decide) e_z38 (by omega) (by omega)
          refine lv_iinc (v := z38) (lv' := [(3, .int z38), (2, .int z36), (0, .ref h0), (1, .int x1)]) hx hb dX13_holders_38 hl (k := 3) rfl e_z38.symm (by decide) rfl (fun ls hl => ?_)
          have hkg : zKg zf1 f5 f2 f3 (v0 4).toInt f4 f6 f10 f11 (v0 13).toInt x1.toInt z38.toInt z36.toInt := zKg_t zf1_b hI4_0 (by omega) (by omega) (by omega) (by omega) (by rw [← e_z18]; omega) hX25_1 (by omega) (fun q1 q2 q3 q4 => by have f := zf1_b (r25_.toInt).toNat; omega)
          refine lv_goto (tgt := 4) hx hb dX13_holders_41 (by decide) ?_
          have hc : va_P (dC, dI) vwCl [(h0, .inr (13, mX13 q0 v0)), ((q0 6), zi k5 120 f5), ((q0 11), zi k10 120 f10), ((q0 5), zi k4 122880 f4), ((q0 12), zi k11 120 f11), ((q0 2), zi k2 4800 f2), ((q0 3), zi k3 400 f3), ((q0 7), zi k6 120 f6)] H ∧ va_D A [(h0, .inr (13, mX13 q0 v0)), ((q0 6), zi k5 120 f5), ((q0 11), zi k10 120 f10), ((q0 5), zi k4 122880 f4), ((q0 12), zi k11 120 f11), ((q0 2), zi k2 4800 f2), ((q0 3), zi k3 400 f3), ((q0 7), zi k6 120 f6)] ∧ va_S A s.heap H locs ∧ lv_has ls 4 [(0, .ref h0), (1, .int x1), (2, .int z36), (3, .int z38)] ∧ (0 ≤ z36.toInt ∧ z36.toInt ≤ 120) ∧ (0 ≤ z38.toInt ∧ z38.toInt ≤ 120) ∧ (zKg zf1 f5 f2 f3 (v0 4).toInt f4 f6 f10 f11 (v0 13).toInt x1.toInt z38.toInt z36.toInt) ∧ (z38.toInt ≤ (v0 13).toInt) ∧ (z36.toInt ≤ z38.toInt) ∧ (0 ≤ z36.toInt) := ⟨hP, hD, hS, lv_sub hl [2, 3, 1, 0] rfl, (by first | with_reducible assumption | exact ⟨by omega, by omega⟩), (by first | with_reducible assumption | exact ⟨by omega, by omega⟩), by first | exact hkg | exact zKg_0 (by decide) (by decide), by omega, by omega, by omega⟩
          exact hJ4 H locs ls (fun i => ([z36, z38] : List (Int32)).getD i 0) (fun _ => 0) (fun _ => (fun _ => 0)) (fun _ => (fun _ => 0)) hc (show (120 - z38.toInt).toNat < (120 - (u4_ 1).toInt).toNat from by omega)
        · skip
          have b_ := zF_le rfl zk_0 c_
          refine lv_iconst (v := 1) hx hb dX13_holders_31 (by decide) ?_
          refine lv_goto (tgt := 36) hx hb dX13_holders_32 (by decide) ?_
          refine lv_iadd hx hb dX13_holders_36 ?_
          refine lv_topi (fun z36 e_z36 => ?_)
          have b_ := zadd rfl zk_1 e_z36 (by omega) (by omega)
          refine lv_istore_n (lv' := [(2, .int z36), (0, .ref h0), (1, .int x1), (3, .int (u4_ 1))]) hx hb dX13_holders_37 rfl hl (by decide) rfl (fun ls hl => ?_)
          obtain ⟨z38, e_z38⟩ : ∃ z : Int32, z = (u4_ 1) + Int32.ofInt 1 := ⟨_, rfl⟩
          have b_ := zadd (x := (u4_ 1)) (y := Int32.ofInt 1) rfl (show (Int32.ofInt 1).toInt = 1 from by decide) e_z38 (by omega) (by omega)
          refine lv_iinc (v := z38) (lv' := [(3, .int z38), (2, .int z36), (0, .ref h0), (1, .int x1)]) hx hb dX13_holders_38 hl (k := 3) rfl e_z38.symm (by decide) rfl (fun ls hl => ?_)
          have hkg : zKg zf1 f5 f2 f3 (v0 4).toInt f4 f6 f10 f11 (v0 13).toInt x1.toInt z38.toInt z36.toInt := zKg_t zf1_b hI4_0 (by omega) (by omega) (by omega) (by omega) (by rw [← e_z18]; omega) hX25_1 (by omega) (fun q1 q2 q3 q4 => by rw [zf1_p (by omega)]; omega)
          refine lv_goto (tgt := 4) hx hb dX13_holders_41 (by decide) ?_
          have hc : va_P (dC, dI) vwCl [(h0, .inr (13, mX13 q0 v0)), ((q0 6), zi k5 120 f5), ((q0 11), zi k10 120 f10), ((q0 5), zi k4 122880 f4), ((q0 12), zi k11 120 f11), ((q0 2), zi k2 4800 f2), ((q0 3), zi k3 400 f3), ((q0 7), zi k6 120 f6)] H ∧ va_D A [(h0, .inr (13, mX13 q0 v0)), ((q0 6), zi k5 120 f5), ((q0 11), zi k10 120 f10), ((q0 5), zi k4 122880 f4), ((q0 12), zi k11 120 f11), ((q0 2), zi k2 4800 f2), ((q0 3), zi k3 400 f3), ((q0 7), zi k6 120 f6)] ∧ va_S A s.heap H locs ∧ lv_has ls 4 [(0, .ref h0), (1, .int x1), (2, .int z36), (3, .int z38)] ∧ (0 ≤ z36.toInt ∧ z36.toInt ≤ 120) ∧ (0 ≤ z38.toInt ∧ z38.toInt ≤ 120) ∧ (zKg zf1 f5 f2 f3 (v0 4).toInt f4 f6 f10 f11 (v0 13).toInt x1.toInt z38.toInt z36.toInt) ∧ (z38.toInt ≤ (v0 13).toInt) ∧ (z36.toInt ≤ z38.toInt) ∧ (0 ≤ z36.toInt) := ⟨hP, hD, hS, lv_sub hl [2, 3, 1, 0] rfl, (by first | with_reducible assumption | exact ⟨by omega, by omega⟩), (by first | with_reducible assumption | exact ⟨by omega, by omega⟩), by first | exact hkg | exact zKg_0 (by decide) (by decide), by omega, by omega, by omega⟩
          exact hJ4 H locs ls (fun i => ([z36, z38] : List (Int32)).getD i 0) (fun _ => 0) (fun _ => (fun _ => 0)) (fun _ => (fun _ => 0)) hc (show (120 - z38.toInt).toNat < (120 - (u4_ 1).toInt).toNat from by omega)
  · skip
    have hc : va_P (dC, dI) vwCl [(h0, .inr (13, mX13 q0 v0)), ((q0 6), zi k5 120 f5), ((q0 11), zi k10 120 f10), ((q0 5), zi k4 122880 f4), ((q0 12), zi k11 120 f11), ((q0 2), zi k2 4800 f2), ((q0 3), zi k3 400 f3), ((q0 7), zi k6 120 f6)] s.heap ∧ va_D A [(h0, .inr (13, mX13 q0 v0)), ((q0 6), zi k5 120 f5), ((q0 11), zi k10 120 f10), ((q0 5), zi k4 122880 f4), ((q0 12), zi k11 120 f11), ((q0 2), zi k2 4800 f2), ((q0 3), zi k3 400 f3), ((q0 7), zi k6 120 f6)] ∧ va_S A s.heap s.heap [] ∧ lv_has ls 4 [(0, .ref h0), (1, .int x1), (2, .int 0), (3, .int 0)] ∧ (0 ≤ (0 : Int32).toInt ∧ (0 : Int32).toInt ≤ 120) ∧ (0 ≤ (0 : Int32).toInt ∧ (0 : Int32).toInt ≤ 120) ∧ (zKg zf1 f5 f2 f3 (v0 4).toInt f4 f6 f10 f11 (v0 13).toInt x1.toInt (0 : Int32).toInt (0 : Int32).toInt) ∧ ((0 : Int32).toInt ≤ (v0 13).toInt) ∧ ((0 : Int32).toInt ≤ (0 : Int32).toInt) ∧ (0 ≤ (0 : Int32).toInt) := ⟨hP, hD, hS, lv_sub hl [2, 3, 1, 0] rfl, (by first | with_reducible assumption | exact ⟨by omega, by omega⟩), (by first | with_reducible assumption | exact ⟨by omega, by omega⟩), by first | exact hkg | exact zKg_0 (by decide) (by decide), by omega, by omega, by omega⟩
    exact hJ4 s.heap [] ls (fun i => ([0, 0] : List (Int32)).getD i 0) (fun _ => 0) (fun _ => (fun _ => 0)) (fun _ => (fun _ => 0)) hc
set_option maxHeartbeats 8000000 in
set_option maxRecDepth 100000 in
theorem sX13_order_0 (l : Launch) (dC : Nat → ClassId) (dI : Nat → Nat → Nat) (adK adV : Nat → Nat) (h0 : Nat) (q0 : Nat → Nat) (k3 : ClassId) (k2 : ClassId) (sz : Nat) (v0 : Nat → Int32) (f3 : Nat → Int32) (f2 : Nat → Int32) (x1 : Int32) (x2 : Int32) (hv0 : zR rg_Model v0) (hf3 : zA 0 12 f3) (hx1 : 0 ≤ x1.toInt ∧ x1.toInt ≤ 399) (hx2 : 0 ≤ x2.toInt ∧ x2.toInt ≤ 399) : Met l yX13_order (zw yX13_order cX13_order 4 (some .int)) { frames := 0, cells := 0, slots := 0, locals := 0 } (zPc dC dI adK adV [.ref h0, .int x1, .int x2] sz [(h0, .inr (13, mX13 q0 v0)), ((q0 3), zi k3 400 f3), ((q0 2), zi k2 4800 f2)] [(k3, .int), (k2, .byte)]) (va_Qi (fun (r : Int32) (u : Nat → Int32) => (zOr f2 f3 (v0 4).toInt x1.toInt x2.toInt r.toInt)) (fun (u : Nat → Int32) (t : State) => ∃ (ww : Nat → Int64) (aa : Nat → Nat → Int32) (bb : Nat → Nat → Int64), va_P (dC, dI) vwCl [(h0, .inr (13, mX13 q0 v0)), ((q0 3), zi k3 400 f3), ((q0 2), zi k2 4800 f2)] t.heap ∧ va_K (dC, dI) vwCl [(k3, .int), (k2, .byte)] t ∧ va_D (va_A [(h0, .inr (13, mX13 q0 v0)), ((q0 3), zi k3 400 f3), ((q0 2), zi k2 4800 f2)] sz) [(h0, .inr (13, mX13 q0 v0)), ((q0 3), zi k3 400 f3), ((q0 2), zi k2 4800 f2)]) (va_A [(h0, .inr (13, mX13 q0 v0)), ((q0 3), zi k3 400 f3), ((q0 2), zi k2 4800 f2)] sz)) 0 0 (va_A [(h0, .inr (13, mX13 q0 v0)), ((q0 3), zi k3 400 f3), ((q0 2), zi k2 4800 f2)] sz) := by
  refine Met.ofW (cc := cX13_order) (maxL := 4) (ret := (some .int)) (by decide) rfl ?_
  intro p e s m args below meth c s₁ B hml hv
  obtain ⟨rfl, hsz, hP, hK, hD0, hE, hZ⟩ := hv
  have hx := B.exec
  have hb := B.bytes
  have hr := B.returns
  have hG : ∀ w ∈ zG, w.before _ s = true := fun w h => atoms_spec (ws := (zw yX13_order cX13_order 4 (some .int))) B.pre w (List.mem_cons_of_mem _ h)
  have hown : s.vm.findClass RX13 = some m.cls := findClass_of_methodNamed B.named
  have hlocks := B.notSynchronized

  subst hsz
  have hD := hD0.self (sz := s.heap.size)
  generalize hAe : va_A [(h0, .inr (13, mX13 q0 v0)), ((q0 3), zi k3 400 f3), ((q0 2), zi k2 4800 f2)] s.heap.size = A at hD hZ ⊢
  have hA : ∀ q : Nat, s.heap.size ≤ q → A q := fun q h => by rw [← hAe]; exact Or.inr h
  have hS : va_S A s.heap s.heap [] := va_S.rf
  have hl := lv_entry ([.ref h0, .int x1, .int x2]) (n := 4) (Nat.le_of_ble_eq_true rfl)
  rw [lg_entry_eq]
  generalize (lg_sl ([.ref h0, .int x1, .int x2]) ++ List.replicate (4 - (lg_sl ([.ref h0, .int x1, .int x2])).length) Slot.unset).toArray = ls at hl ⊢
  have hl : lv_has ls 4 [(0, .ref h0), (1, .int x1), (2, .int x2)] := hl
  have b_ := zk_0
  have b_ : 0 ≤ (v0 4).toInt ∧ (v0 4).toInt ≤ 400 := hv0 4
  refine lv_iconst (v := 0) hx hb dX13_order_0 (by decide) ?_
  refine lv_istore_n (lv' := [(3, .int 0), (0, .ref h0), (1, .int x1), (2, .int x2)]) hx hb dX13_order_1 rfl hl (by decide) rfl (fun ls hl => ?_)
  refine zcutL (fun u2_ => (12 - (u2_ 0).toInt).toNat) (fun H locs ls u2_ w2_ a2_ b2_ => va_P (dC, dI) vwCl [(h0, .inr (13, mX13 q0 v0)), ((q0 3), zi k3 400 f3), ((q0 2), zi k2 4800 f2)] H ∧ va_D A [(h0, .inr (13, mX13 q0 v0)), ((q0 3), zi k3 400 f3), ((q0 2), zi k2 4800 f2)] ∧ va_S A s.heap H locs ∧ lv_has ls 4 [(0, .ref h0), (1, .int x1), (2, .int x2), (3, .int (u2_ 0))] ∧ (0 ≤ (u2_ 0).toInt ∧ (u2_ 0).toInt ≤ 12) ∧ (zOd f2 f3 x1.toInt x2.toInt (u2_ 0).toInt)) (fun ls u2_ w2_ => F0 m 2 ls []) 0 0 ?_ (fun hJ2 => ?_)
  · skip
    intro H locs ls u2_ w2_ a2_ b2_ hc hJ2
    obtain ⟨hP, hD, hS, hl, b_, hI2_0⟩ := hc
    refine lv_iload_n hx hb dX13_order_2 rfl (lv_at hl 3 rfl) ?_
    refine lv_aload_n hx hb dX13_order_3 rfl (lv_at hl 0 rfl) ?_
    refine va_get (D := (dC, dI)) (ci := 13) (v := .ref (q0 3)) (C := RX13) (T := TX13) (N := 75) hx hb hG zuX13 hown hK hP 0 rfl rfl 3 (by decide) (hG _ zv1607) (fun _ h9 => h9) rfl dX13_order_4 ?_
    refine lv_iload_n hx hb dX13_order_7 rfl (lv_at hl 1 rfl) ?_
    refine va_iald hx hb hK hP 1 0 rfl rfl (zin_lit ⟨by omega, by omega⟩) dX13_order_8 ?_
    refine lv_topi (fun z8 e_z8 => ?_)
    have b_ : 0 ≤ z8.toInt ∧ z8.toInt ≤ 12 := by rw [e_z8]; exact hf3 _
    refine lv_icmp_ge (tgt := 77) hx hb dX13_order_9 (by decide) (fun c_ => ?_) (fun c_ => ?_)
    · skip
      have b_ := zT_ge rfl rfl c_
      refine lv_aload_n hx hb dX13_order_77 rfl (lv_at hl 0 rfl) ?_
      refine va_get (D := (dC, dI)) (ci := 13) (v := .ref (q0 3)) (C := RX13) (T := TX13) (N := 75) hx hb hG zuX13 hown hK hP 0 rfl rfl 3 (by decide) (hG _ zv1607) (fun _ h9 => h9) rfl dX13_order_78 ?_
      refine lv_iload_n hx hb dX13_order_81 rfl (lv_at hl 1 rfl) ?_
      refine va_iald hx hb hK hP 1 0 rfl rfl (zin_lit ⟨by omega, by omega⟩) dX13_order_82 ?_
      refine lv_topi (fun z82 e_z82 => ?_)
      have b_ : 0 ≤ z82.toInt ∧ z82.toInt ≤ 12 := by rw [e_z82]; exact hf3 _
      refine lv_aload_n hx hb dX13_order_83 rfl (lv_at hl 0 rfl) ?_
      refine va_get (D := (dC, dI)) (ci := 13) (v := .ref (q0 3)) (C := RX13) (T := TX13) (N := 75) hx hb hG zuX13 hown hK hP 0 rfl rfl 3 (by decide) (hG _ zv1607) (fun _ h9 => h9) rfl dX13_order_84 ?_
      refine lv_iload_n hx hb dX13_order_87 rfl (lv_at hl 2 rfl) ?_
      refine va_iald hx hb hK hP 1 0 rfl rfl (zin_lit ⟨by omega, by omega⟩) dX13_order_88 ?_
      refine lv_topi (fun z88 e_z88 => ?_)
      have b_ : 0 ≤ z88.toInt ∧ z88.toInt ≤ 12 := by rw [e_z88]; exact hf3 _
      refine lv_isub hx hb dX13_order_89 ?_
      refine lv_topi (fun z89 e_z89 => ?_)
      have b_ := zsub rfl rfl e_z89 (by omega) (by omega)
      have e82 : z82 = z8 := e_z82.trans e_z8.symm
      have b_ : z82.toInt = z8.toInt := by rw [e82]
      refine W.widen (k := 0) (n := 0) (by decide) (by decide) ?_
      have hpost : (zOr f2 f3 (v0 4).toInt x1.toInt x2.toInt z89.toInt) := by first | exact zOr_d hI2_0 (by omega) (by omega) e_z8 e_z18 (by omega) (by omega) e_z57 e_z68 (by omega) (by omega) (by omega) (by omega) (by omega) e_z69 | exact zOr_e hI2_0 (by omega) (by omega) (by omega) e_z82 e_z88 (by first | exact Or.inl (by omega) | (right; rw [show z88 = z18 from e_z88.trans e_z18.symm]; omega)) (by omega)
      have hP9 : va_P (dC, dI) vwCl [(h0, .inr (13, mX13 q0 v0)), ((q0 3), zi k3 400 f3), ((q0 2), zi k2 4800 f2)] H := hP
      have hD9 : va_D A [(h0, .inr (13, mX13 q0 v0)), ((q0 3), zi k3 400 f3), ((q0 2), zi k2 4800 f2)] := hD
      exact W.iret (v := z89) hx hb hr (fun t ht hW => ⟨⟨z89, (fun _ => 0), rfl, hpost, (fun _ => 0), (fun _ => (fun _ => 0)), (fun _ => (fun _ => 0)), by rw [ht]; exact hP9, va_K.moved hW.alike hK, hD9⟩, hS.F ht⟩) hS.2.2 dX13_order_90
    · skip
      have b_ := zF_ge rfl rfl c_
      refine lv_iload_n hx hb dX13_order_12 rfl (lv_at hl 3 rfl) ?_
      refine lv_aload_n hx hb dX13_order_13 rfl (lv_at hl 0 rfl) ?_
      refine va_get (D := (dC, dI)) (ci := 13) (v := .ref (q0 3)) (C := RX13) (T := TX13) (N := 75) hx hb hG zuX13 hown hK hP 0 rfl rfl 3 (by decide) (hG _ zv1607) (fun _ h9 => h9) rfl dX13_order_14 ?_
      refine lv_iload_n hx hb dX13_order_17 rfl (lv_at hl 2 rfl) ?_
      refine va_iald hx hb hK hP 1 0 rfl rfl (zin_lit ⟨by omega, by omega⟩) dX13_order_18 ?_
      refine lv_topi (fun z18 e_z18 => ?_)
      have b_ : 0 ≤ z18.toInt ∧ z18.toInt ≤ 12 := by rw [e_z18]; exact hf3 _
      refine lv_icmp_ge (tgt := 77) hx hb dX13_order_19 (by decide) (fun c_ => ?_) (fun c_ => ?_)
      · skip
        have b_ := zT_ge rfl rfl c_
        refine lv_aload_n hx hb dX13_order_77 rfl (lv_at hl 0 rfl) ?_
        refine va_get (D := (dC, dI)) (ci := 13) (v := .ref (q0 3)) (C := RX13) (T := TX13) (N := 75) hx hb hG zuX13 hown hK hP 0 rfl rfl 3 (by decide) (hG _ zv1607) (fun _ h9 => h9) rfl dX13_order_78 ?_
        refine lv_iload_n hx hb dX13_order_81 rfl (lv_at hl 1 rfl) ?_
        refine va_iald hx hb hK hP 1 0 rfl rfl (zin_lit ⟨by omega, by omega⟩) dX13_order_82 ?_
        refine lv_topi (fun z82 e_z82 => ?_)
        have b_ : 0 ≤ z82.toInt ∧ z82.toInt ≤ 12 := by rw [e_z82]; exact hf3 _
        refine lv_aload_n hx hb dX13_order_83 rfl (lv_at hl 0 rfl) ?_
        refine va_get (D := (dC, dI)) (ci := 13) (v := .ref (q0 3)) (C := RX13) (T := TX13) (N := 75) hx hb hG zuX13 hown hK hP 0 rfl rfl 3 (by decide) (hG _ zv1607) (fun _ h9 => h9) rfl dX13_order_84 ?_
        refine lv_iload_n hx hb dX13_order_87 rfl (lv_at hl 2 rfl) ?_
        refine va_iald hx hb hK hP 1 0 rfl rfl (zin_lit ⟨by omega, by omega⟩) dX13_order_88 ?_
        refine lv_topi (fun z88 e_z88 => ?_)
        have b_ : 0 ≤ z88.toInt ∧ z88.toInt ≤ 12 := by rw [e_z88]; exact hf3 _
        refine lv_isub hx hb dX13_order_89 ?_
        refine lv_topi (fun z89 e_z89 => ?_)
        have b_ := zsub rfl rfl e_z89 (by omega) (by omega)
        have e82 : z82 = z8 := e_z82.trans e_z8.symm
        have b_ : z82.toInt = z8.toInt := by rw [e82]
        refine W.widen (k := 0) (n := 0) (by decide) (by decide) ?_
        have hpost : (zOr f2 f3 (v0 4).toInt x1.toInt x2.toInt z89.toInt) := by first | exact zOr_d hI2_0 (by omega) (by omega) e_z8 e_z18 (by omega) (by omega) e_z57 e_z68 (by omega) (by omega) (by omega) (by omega) (by omega) e_z69 | exact zOr_e hI2_0 (by omega) (by omega) (by omega) e_z82 e_z88 (by first | exact Or.inl (by omega) | (right; rw [show z88 = z18 from e_z88.trans e_z18.symm]; omega)) (by omega)
        have hP9 : va_P (dC, dI) vwCl [(h0, .inr (13, mX13 q0 v0)), ((q0 3), zi k3 400 f3), ((q0 2), zi k2 4800 f2)] H := hP
        have hD9 : va_D A [(h0, .inr (13, mX13 q0 v0)), ((q0 3), zi k3 400 f3), ((q0 2), zi k2 4800 f2)] := hD
        exact W.iret (v := z89) hx hb hr (fun t ht hW => ⟨⟨z89, (fun _ => 0), rfl, hpost, (fun _ => 0), (fun _ => (fun _ => 0)), (fun _ => (fun _ => 0)), by rw [ht]; exact hP9, va_K.moved hW.alike hK, hD9⟩, hS.F ht⟩) hS.2.2 dX13_order_90
      · skip
        have b_ := zF_ge rfl rfl c_
        refine lv_aload_n hx hb dX13_order_22 rfl (lv_at hl 0 rfl) ?_
        refine va_get (D := (dC, dI)) (ci := 13) (v := .ref (q0 2)) (C := RX13) (T := TX13) (N := 75) hx hb hG zuX13 hown hK hP 0 rfl rfl 2 (by decide) (hG _ zv1606) (fun _ h9 => h9) rfl dX13_order_23 ?_
        refine lv_bipush (v := 12) hx hb dX13_order_26 (by decide) ?_
        refine lv_iload_n hx hb dX13_order_28 rfl (lv_at hl 1 rfl) ?_
        refine lv_imul hx hb dX13_order_29 ?_
        refine lv_topi (fun z29 e_z29 => ?_)
        have b_ := zmul zk_12 rfl e_z29 (by omega) (by omega)
        refine lv_iload_n hx hb dX13_order_30 rfl (lv_at hl 3 rfl) ?_
        refine lv_iadd hx hb dX13_order_31 ?_
        refine lv_topi (fun z31 e_z31 => ?_)
        have b_ := zadd rfl rfl e_z31 (by omega) (by omega)
        refine va_bald hx hb hK hP 2 1 rfl rfl (zin_lit ⟨by omega, by omega⟩) dX13_order_32 ?_
        refine lv_topi (fun z32 e_z32 => ?_)
        refine lv_aload_n hx hb dX13_order_33 rfl (lv_at hl 0 rfl) ?_
        refine va_get (D := (dC, dI)) (ci := 13) (v := .ref (q0 2)) (C := RX13) (T := TX13) (N := 75) hx hb hG zuX13 hown hK hP 0 rfl rfl 2 (by decide) (hG _ zv1606) (fun _ h9 => h9) rfl dX13_order_34 ?_
        refine lv_bipush (v := 12) hx hb dX13_order_37 (by decide) ?_
        refine lv_iload_n hx hb dX13_order_39 rfl (lv_at hl 2 rfl) ?_
        refine lv_imul hx hb dX13_order_40 ?_
        refine lv_topi (fun z40 e_z40 => ?_)
        have b_ := zmul zk_12 rfl e_z40 (by omega) (by omega)
        refine lv_iload_n hx hb dX13_order_41 rfl (lv_at hl 3 rfl) ?_
        refine lv_iadd hx hb dX13_order_42 ?_
        refine lv_topi (fun z42 e_z42 => ?_)
        have b_ := zadd rfl rfl e_z42 (by omega) (by omega)
        refine va_bald hx hb hK hP 2 1 rfl rfl (zin_lit ⟨by omega, by omega⟩) dX13_order_43 ?_
        refine lv_topi (fun z43 e_z43 => ?_)
        have b_ : -2147483648 ≤ z32.toInt ∧ z32.toInt ≤ 2147483647 := ⟨zlo _, zhi _⟩
        have b_ : -2147483648 ≤ z43.toInt ∧ z43.toInt ≤ 2147483647 := ⟨zlo _, zhi _⟩
        refine lv_icmp_eq (tgt := 71) hx hb dX13_order_44 (by decide) (fun c_ => ?_) (fun c_ => ?_)
        · skip
          have b_ := zT_eq rfl rfl c_
          obtain ⟨z71, e_z71⟩ : ∃ z : Int32, z = (u2_ 0) + Int32.ofInt 1 := ⟨_, rfl⟩
          have b_ := zadd (x := (u2_ 0)) (y := Int32.ofInt 1) rfl (show (Int32.ofInt 1).toInt = 1 from by decide) e_z71 (by omega) (by omega)
          refine lv_iinc (v := z71) (lv' := [(3, .int z71), (0, .ref h0), (1, .int x1), (2, .int x2)]) hx hb dX13_order_71 hl (k := 3) rfl e_z71.symm (by decide) rfl (fun ls hl => ?_)
          refine lv_goto (tgt := 2) hx hb dX13_order_74 (by decide) ?_
          have hc : va_P (dC, dI) vwCl [(h0, .inr (13, mX13 q0 v0)), ((q0 3), zi k3 400 f3), ((q0 2), zi k2 4800 f2)] H ∧ va_D A [(h0, .inr (13, mX13 q0 v0)), ((q0 3), zi k3 400 f3), ((q0 2), zi k2 4800 f2)] ∧ va_S A s.heap H locs ∧ lv_has ls 4 [(0, .ref h0), (1, .int x1), (2, .int x2), (3, .int z71)] ∧ (0 ≤ z71.toInt ∧ z71.toInt ≤ 12) ∧ (zOd f2 f3 x1.toInt x2.toInt z71.toInt) := ⟨hP, hD, hS, lv_sub hl [1, 2, 3, 0] rfl, (by first | with_reducible assumption | exact ⟨by omega, by omega⟩), by first | exact zOd_s hI2_0 (by omega) (by omega) (by omega) e_z8 e_z18 (by omega) (by omega) e_z32 e_z43 (by omega) (by omega) (by omega) (by omega) | exact zOd_0 (by omega)⟩
          exact hJ2 H locs ls (fun i => ([z71] : List (Int32)).getD i 0) (fun _ => 0) (fun _ => (fun _ => 0)) (fun _ => (fun _ => 0)) hc (show (12 - z71.toInt).toNat < (12 - (u2_ 0).toInt).toNat from by omega)
        · skip
          have b_ := zF_eq rfl rfl c_
          refine lv_aload_n hx hb dX13_order_47 rfl (lv_at hl 0 rfl) ?_
          refine va_get (D := (dC, dI)) (ci := 13) (v := .ref (q0 2)) (C := RX13) (T := TX13) (N := 75) hx hb hG zuX13 hown hK hP 0 rfl rfl 2 (by decide) (hG _ zv1606) (fun _ h9 => h9) rfl dX13_order_48 ?_
          refine lv_bipush (v := 12) hx hb dX13_order_51 (by decide) ?_
          refine lv_iload_n hx hb dX13_order_53 rfl (lv_at hl 1 rfl) ?_
          refine lv_imul hx hb dX13_order_54 ?_
          refine lv_topi (fun z54 e_z54 => ?_)
          have b_ := zmul zk_12 rfl e_z54 (by omega) (by omega)
          refine lv_iload_n hx hb dX13_order_55 rfl (lv_at hl 3 rfl) ?_
          refine lv_iadd hx hb dX13_order_56 ?_
          refine lv_topi (fun z56 e_z56 => ?_)
          have b_ := zadd rfl rfl e_z56 (by omega) (by omega)
          refine va_bald hx hb hK hP 2 1 rfl rfl (zin_lit ⟨by omega, by omega⟩) dX13_order_57 ?_
          refine lv_topi (fun z57 e_z57 => ?_)
          refine lv_aload_n hx hb dX13_order_58 rfl (lv_at hl 0 rfl) ?_
          refine va_get (D := (dC, dI)) (ci := 13) (v := .ref (q0 2)) (C := RX13) (T := TX13) (N := 75) hx hb hG zuX13 hown hK hP 0 rfl rfl 2 (by decide) (hG _ zv1606) (fun _ h9 => h9) rfl dX13_order_59 ?_
          refine lv_bipush (v := 12) hx hb dX13_order_62 (by decide) ?_
          refine lv_iload_n hx hb dX13_order_64 rfl (lv_at hl 2 rfl) ?_
          refine lv_imul hx hb dX13_order_65 ?_
          refine lv_topi (fun z65 e_z65 => ?_)
          have b_ := zmul zk_12 rfl e_z65 (by omega) (by omega)
          refine lv_iload_n hx hb dX13_order_66 rfl (lv_at hl 3 rfl) ?_
          refine lv_iadd hx hb dX13_order_67 ?_
          refine lv_topi (fun z67 e_z67 => ?_)
          have b_ := zadd rfl rfl e_z67 (by omega) (by omega)
          refine va_bald hx hb hK hP 2 1 rfl rfl (zin_lit ⟨by omega, by omega⟩) dX13_order_68 ?_
          refine lv_topi (fun z68 e_z68 => ?_)
          have b_ : -2147483648 ≤ z57.toInt ∧ z57.toInt ≤ 2147483647 := ⟨zlo _, zhi _⟩
          have b_ : -2147483648 ≤ z68.toInt ∧ z68.toInt ≤ 2147483647 := ⟨zlo _, zhi _⟩
          refine lv_isub hx hb dX13_order_69 ?_
          refine lv_topi (fun z69 e_z69 => ?_)
          have e57 : z57 = z32 := by rw [e_z57, e_z32, show z56 = z31 from zeqi.mpr (by omega)]
          have e68 : z68 = z43 := by rw [e_z68, e_z43, show z67 = z42 from zeqi.mpr (by omega)]
          have b_ : z57.toInt = z32.toInt ∧ z68.toInt = z43.toInt := ⟨by rw [e57], by rw [e68]⟩
          refine W.widen (k := 0) (n := 0) (by decide) (by decide) ?_
          have b_ : -2147483648 ≤ z69.toInt ∧ z69.toInt ≤ 2147483647 := ⟨zlo _, zhi _⟩
          have hpost : (zOr f2 f3 (v0 4).toInt x1.toInt x2.toInt z69.toInt) := by first | exact zOr_d hI2_0 (by omega) (by omega) e_z8 e_z18 (by omega) (by omega) e_z57 e_z68 (by omega) (by omega) (by omega) (by omega) (by omega) e_z69 | exact zOr_e hI2_0 (by omega) (by omega) (by omega) e_z82 e_z88 (by first | exact Or.inl (by omega) | (right; rw [show z88 = z18 from e_z88.trans e_z18.symm]; omega)) (by omega)
          have hP9 : va_P (dC, dI) vwCl [(h0, .inr (13, mX13 q0 v0)), ((q0 3), zi k3 400 f3), ((q0 2), zi k2 4800 f2)] H := hP
          have hD9 : va_D A [(h0, .inr (13, mX13 q0 v0)), ((q0 3), zi k3 400 f3), ((q0 2), zi k2 4800 f2)] := hD
          exact W.iret (v := z69) hx hb hr (fun t ht hW => ⟨⟨z69, (fun _ => 0), rfl, hpost, (fun _ => 0), (fun _ => (fun _ => 0)), (fun _ => (fun _ => 0)), by rw [ht]; exact hP9, va_K.moved hW.alike hK, hD9⟩, hS.F ht⟩) hS.2.2 dX13_order_70
  · skip
    have hc : va_P (dC, dI) vwCl [(h0, .inr (13, mX13 q0 v0)), ((q0 3), zi k3 400 f3), ((q0 2), zi k2 4800 f2)] s.heap ∧ va_D A [(h0, .inr (13, mX13 q0 v0)), ((q0 3), zi k3 400 f3), ((q0 2), zi k2 4800 f2)] ∧ va_S A s.heap s.heap [] ∧ lv_has ls 4 [(0, .ref h0), (1, .int x1), (2, .int x2), (3, .int 0)] ∧ (0 ≤ (0 : Int32).toInt ∧ (0 : Int32).toInt ≤ 12) ∧ (zOd f2 f3 x1.toInt x2.toInt (0 : Int32).toInt) := ⟨hP, hD, hS, lv_sub hl [1, 2, 3, 0] rfl, (by first | with_reducible assumption | exact ⟨by omega, by omega⟩), by first | exact zOd_s hI2_0 (by omega) (by omega) (by omega) e_z8 e_z18 (by omega) (by omega) e_z32 e_z43 (by omega) (by omega) (by omega) (by omega) | exact zOd_0 (by omega)⟩
    exact hJ2 s.heap [] ls (fun i => ([0] : List (Int32)).getD i 0) (fun _ => 0) (fun _ => (fun _ => 0)) (fun _ => (fun _ => 0)) hc
set_option maxHeartbeats 8000000 in
set_option maxRecDepth 100000 in
theorem sX13_ahead_0 (l : Launch) (dC : Nat → ClassId) (dI : Nat → Nat → Nat) (adK adV : Nat → Nat) (h0 : Nat) (q0 : Nat → Nat) (k3 : ClassId) (k2 : ClassId) (sz : Nat) (v0 : Nat → Int32) (f3 : Nat → Int32) (f2 : Nat → Int32) (x1 : Int32) (hv0 : zR rg_Model v0) (hf3 : zA 0 12 f3) (hx1 : 0 ≤ x1.toInt ∧ x1.toInt ≤ 399) : Met l yX13_ahead (zw yX13_ahead cX13_ahead 4 (some .int)) { frames := 1, cells := 0, slots := 0, locals := 23 } (zPc dC dI adK adV [.ref h0, .int x1] sz [(h0, .inr (13, mX13 q0 v0)), ((q0 3), zi k3 400 f3), ((q0 2), zi k2 4800 f2)] [(k3, .int), (k2, .byte)]) (va_Qi (fun (r : Int32) (u : Nat → Int32) => (0 ≤ r.toInt ∧ r.toInt ≤ 400) ∧ (zAh f2 f3 (v0 4).toInt x1.toInt (v0 4).toInt r.toInt)) (fun (u : Nat → Int32) (t : State) => ∃ (ww : Nat → Int64) (aa : Nat → Nat → Int32) (bb : Nat → Nat → Int64), va_P (dC, dI) vwCl [(h0, .inr (13, mX13 q0 v0)), ((q0 3), zi k3 400 f3), ((q0 2), zi k2 4800 f2)] t.heap ∧ va_K (dC, dI) vwCl [(k3, .int), (k2, .byte)] t ∧ va_D (va_A [(h0, .inr (13, mX13 q0 v0)), ((q0 3), zi k3 400 f3), ((q0 2), zi k2 4800 f2)] sz) [(h0, .inr (13, mX13 q0 v0)), ((q0 3), zi k3 400 f3), ((q0 2), zi k2 4800 f2)]) (va_A [(h0, .inr (13, mX13 q0 v0)), ((q0 3), zi k3 400 f3), ((q0 2), zi k2 4800 f2)] sz)) 0 0 (va_A [(h0, .inr (13, mX13 q0 v0)), ((q0 3), zi k3 400 f3), ((q0 2), zi k2 4800 f2)] sz) := by
  refine Met.ofW (cc := cX13_ahead) (maxL := 4) (ret := (some .int)) (by decide) rfl ?_
  intro p e s m args below meth c s₁ B hml hv
  obtain ⟨rfl, hsz, hP, hK, hD0, hE, hZ⟩ := hv
  have hx := B.exec
  have hb := B.bytes
  have hr := B.returns
  have hG : ∀ w ∈ zG, w.before _ s = true := fun w h => atoms_spec (ws := (zw yX13_ahead cX13_ahead 4 (some .int))) B.pre w (List.mem_cons_of_mem _ h)
  have hown : s.vm.findClass RX13 = some m.cls := findClass_of_methodNamed B.named
  have hlocks := B.notSynchronized

  subst hsz
  have hD := hD0.self (sz := s.heap.size)
  generalize hAe : va_A [(h0, .inr (13, mX13 q0 v0)), ((q0 3), zi k3 400 f3), ((q0 2), zi k2 4800 f2)] s.heap.size = A at hD hZ ⊢
  have hA : ∀ q : Nat, s.heap.size ≤ q → A q := fun q h => by rw [← hAe]; exact Or.inr h
  have hS : va_S A s.heap s.heap [] := va_S.rf
  have hl := lv_entry ([.ref h0, .int x1]) (n := 4) (Nat.le_of_ble_eq_true rfl)
  rw [lg_entry_eq]
  generalize (lg_sl ([.ref h0, .int x1]) ++ List.replicate (4 - (lg_sl ([.ref h0, .int x1])).length) Slot.unset).toArray = ls at hl ⊢
  have hl : lv_has ls 4 [(0, .ref h0), (1, .int x1)] := hl
  have b_ := zk_0
  have b_ : 0 ≤ (v0 4).toInt ∧ (v0 4).toInt ≤ 400 := hv0 4
  refine lv_iconst (v := 0) hx hb dX13_ahead_0 (by decide) ?_
  refine lv_istore_n (lv' := [(2, .int 0), (0, .ref h0), (1, .int x1)]) hx hb dX13_ahead_1 rfl hl (by decide) rfl (fun ls hl => ?_)
  refine lv_iconst (v := 0) hx hb dX13_ahead_2 (by decide) ?_
  refine lv_istore_n (lv' := [(3, .int 0), (2, .int 0), (0, .ref h0), (1, .int x1)]) hx hb dX13_ahead_3 rfl hl (by decide) rfl (fun ls hl => ?_)
  refine zcutL (fun u4_ => (400 - (u4_ 1).toInt).toNat) (fun H locs ls u4_ w4_ a4_ b4_ => va_P (dC, dI) vwCl [(h0, .inr (13, mX13 q0 v0)), ((q0 3), zi k3 400 f3), ((q0 2), zi k2 4800 f2)] H ∧ va_D A [(h0, .inr (13, mX13 q0 v0)), ((q0 3), zi k3 400 f3), ((q0 2), zi k2 4800 f2)] ∧ va_S A s.heap H locs ∧ lv_has ls 4 [(0, .ref h0), (1, .int x1), (2, .int (u4_ 0)), (3, .int (u4_ 1))] ∧ (0 ≤ (u4_ 0).toInt ∧ (u4_ 0).toInt ≤ 400) ∧ (0 ≤ (u4_ 1).toInt ∧ (u4_ 1).toInt ≤ 400) ∧ (zAh f2 f3 (v0 4).toInt x1.toInt (u4_ 1).toInt (u4_ 0).toInt) ∧ ((u4_ 1).toInt ≤ (v0 4).toInt) ∧ ((u4_ 0).toInt ≤ (u4_ 1).toInt) ∧ (0 ≤ (u4_ 0).toInt)) (fun ls u4_ w4_ => F0 m 4 ls []) 0 0 ?_ (fun hJ4 => ?_)
  · skip
    intro H locs ls u4_ w4_ a4_ b4_ hc hJ4
    obtain ⟨hP, hD, hS, hl, b_, b_, hI4_0, b_, b_, b_⟩ := hc
    refine lv_iload_n hx hb dX13_ahead_4 rfl (lv_at hl 3 rfl) ?_
    refine lv_aload_n hx hb dX13_ahead_5 rfl (lv_at hl 0 rfl) ?_
    refine va_get (D := (dC, dI)) (ci := 13) (v := .int (v0 4)) (C := RX13) (T := TX13) (N := 75) hx hb hG zuX13 hown hK hP 0 rfl rfl 4 (by decide) (hG _ zv1608) (fun _ h9 => h9) rfl dX13_ahead_6 ?_
    refine lv_icmp_ge (tgt := 35) hx hb dX13_ahead_9 (by decide) (fun c_ => ?_) (fun c_ => ?_)
    · skip
      have b_ := zT_ge rfl rfl c_
      refine lv_iload_n hx hb dX13_ahead_35 rfl (lv_at hl 2 rfl) ?_
      refine W.widen (k := 0) (n := 0) (by decide) (by decide) ?_
      have hpost : (0 ≤ (u4_ 0).toInt ∧ (u4_ 0).toInt ≤ 400) ∧ (zAh f2 f3 (v0 4).toInt x1.toInt (v0 4).toInt (u4_ 0).toInt) := ⟨(by first | with_reducible assumption | exact ⟨by omega, by omega⟩), by exact zAh_e hI4_0 (by omega) (by omega) rfl⟩
      have hP9 : va_P (dC, dI) vwCl [(h0, .inr (13, mX13 q0 v0)), ((q0 3), zi k3 400 f3), ((q0 2), zi k2 4800 f2)] H := hP
      have hD9 : va_D A [(h0, .inr (13, mX13 q0 v0)), ((q0 3), zi k3 400 f3), ((q0 2), zi k2 4800 f2)] := hD
      exact W.iret (v := (u4_ 0)) hx hb hr (fun t ht hW => ⟨⟨(u4_ 0), (fun _ => 0), rfl, hpost, (fun _ => 0), (fun _ => (fun _ => 0)), (fun _ => (fun _ => 0)), by rw [ht]; exact hP9, va_K.moved hW.alike hK, hD9⟩, hS.F ht⟩) hS.2.2 dX13_ahead_36
    · skip
      have b_ := zF_ge rfl rfl c_
      refine lv_iload_n hx hb dX13_ahead_12 rfl (lv_at hl 2 rfl) ?_
      refine lv_aload_n hx hb dX13_ahead_13 rfl (lv_at hl 0 rfl) ?_
      refine lv_iload_n hx hb dX13_ahead_14 rfl (lv_at hl 3 rfl) ?_
      refine lv_iload_n hx hb dX13_ahead_15 rfl (lv_at hl 1 rfl) ?_
      have hPc := hP.sub (ws' := [(h0, .inr (13, mX13 q0 v0)), ((q0 3), zi k3 400 f3), ((q0 2), zi k2 4800 f2)]) [0, 1, 2] rfl
      have hDc := hD.sub (ws' := [(h0, .inr (13, mX13 q0 v0)), ((q0 3), zi k3 400 f3), ((q0 2), zi k2 4800 f2)]) [0, 1, 2] (by decide) rfl
      have hKc := hK.sub (tys' := [(k3, .int), (k2, .byte)]) [0, 1] rfl
      have hFc := va_free (wc := [(h0, .inr (13, mX13 q0 v0)), ((q0 3), zi k3 400 f3), ((q0 2), zi k2 4800 f2)]) hD hS hA [0, 1, 2] rfl
      refine va_calli (va_runV (As := [.int (u4_ 1), .int x1]) (rest := [.int (u4_ 0)]) ⟨hx, hb, hml, hown, hG⟩ (sX13_order_0 l dC dI adK adV h0 q0 k3 k2 H.size v0 f3 f2 (u4_ 1) x1 hv0 hf3 (show (0 : Int) ≤ ((u4_ 1) : Int32).toInt ∧ ((u4_ 1) : Int32).toInt ≤ (399 : Int) from (by first | with_reducible assumption | exact ⟨by omega, by omega⟩)) (show (0 : Int) ≤ (x1 : Int32).toInt ∧ (x1 : Int32).toInt ≤ (399 : Int) from (by first | with_reducible assumption | exact ⟨by omega, by omega⟩))) (cwV 2 hG (zgV zv2010 zv2012 zv77 zv142 zv2013) rfl rfl rfl (by decide +kernel) ⟨Nat.le_of_ble_eq_true rfl, Nat.le_of_ble_eq_true rfl⟩) ⟨zPc_blind, va_recv hKc hPc (ci := 13) (q0 := 0) rfl rfl, zPc_pre hPc hKc hDc hE hS hFc hZ⟩ rfl rfl hl.1 rfl (lv_room (Nat.le_of_ble_eq_true rfl)) dX13_ahead_16 ⟨Nat.le_of_ble_eq_true rfl, Nat.le_of_ble_eq_true rfl⟩) hS (fun q _ h => hFc q h) hFc (fun r16_ u16_ t H1 locs ht hvm hw hB hz1 hk1 hS => ?_)
      replace hw : (zOr f2 f3 (v0 4).toInt (u4_ 1).toInt x1.toInt r16_.toInt) := hw
      have hX16_0 := hw
      obtain ⟨w16_, a16_, b16_, hP1, hK1, hD1⟩ := hB
      rw [ht] at hP1
      obtain ⟨hP, hD⟩ := va_join (wr := []) (w1 := [(h0, .inr (13, mX13 q0 v0)), ((q0 3), zi k3 400 f3), ((q0 2), zi k2 4800 f2)]) hP hD [0, 1, 2] [] rfl rfl (by decide) (by decide) hk1 hFc hP1 hD1
      have hP : va_P (dC, dI) vwCl [(h0, .inr (13, mX13 q0 v0)), ((q0 3), zi k3 400 f3), ((q0 2), zi k2 4800 f2)] H1 := hP.sub [0, 1, 2] rfl
      have hD : va_D A [(h0, .inr (13, mX13 q0 v0)), ((q0 3), zi k3 400 f3), ((q0 2), zi k2 4800 f2)] := hD.sub [0, 1, 2] (by decide) rfl
      generalize H1 = H at hP hS ⊢
      clear hz1
      have b_ : -2147483648 ≤ r16_.toInt ∧ r16_.toInt ≤ 2147483647 := ⟨zlo _, zhi _⟩
      refine lv_if_ge (tgt := 26) hx hb dX13_ahead_19 (by decide) (fun c_ => ?_) (fun c_ => ?_)
      · skip
        have b_ := zT_ge rfl zk_0 c_
        refine lv_iconst (v := 0) hx hb dX13_ahead_26 (by decide) ?_
        refine lv_iadd hx hb dX13_ahead_27 ?_
        refine lv_topi (fun z27 e_z27 => ?_)
        have b_ := zadd rfl zk_0 e_z27 (by omega) (by omega)
        refine lv_istore_n (lv' := [(2, .int z27), (0, .ref h0), (1, .int x1), (3, .int (u4_ 1))]) hx hb dX13_ahead_28 rfl hl (by decide) rfl (fun ls hl => ?_)
        obtain ⟨z29, e_z29⟩ : ∃ z : Int32, z = (u4_ 1) + Int32.ofInt 1 := ⟨_, rfl⟩
        have b_ := zadd (x := (u4_ 1)) (y := Int32.ofInt 1) rfl (show (Int32.ofInt 1).toInt = 1 from by decide) e_z29 (by omega) (by omega)
        refine lv_iinc (v := z29) (lv' := [(3, .int z29), (2, .int z27), (0, .ref h0), (1, .int x1)]) hx hb dX13_ahead_29 hl (k := 3) rfl e_z29.symm (by decide) rfl (fun ls hl => ?_)
        have hah : zAh f2 f3 (v0 4).toInt x1.toInt z29.toInt z27.toInt := zAh_s hI4_0 hX16_0 (by omega) (by omega) (by omega) (by omega)
        refine lv_goto (tgt := 4) hx hb dX13_ahead_32 (by decide) ?_
        have hc : va_P (dC, dI) vwCl [(h0, .inr (13, mX13 q0 v0)), ((q0 3), zi k3 400 f3), ((q0 2), zi k2 4800 f2)] H ∧ va_D A [(h0, .inr (13, mX13 q0 v0)), ((q0 3), zi k3 400 f3), ((q0 2), zi k2 4800 f2)] ∧ va_S A s.heap H locs ∧ lv_has ls 4 [(0, .ref h0), (1, .int x1), (2, .int z27), (3, .int z29)] ∧ (0 ≤ z27.toInt ∧ z27.toInt ≤ 400) ∧ (0 ≤ z29.toInt ∧ z29.toInt ≤ 400) ∧ (zAh f2 f3 (v0 4).toInt x1.toInt z29.toInt z27.toInt) ∧ (z29.toInt ≤ (v0 4).toInt) ∧ (z27.toInt ≤ z29.toInt) ∧ (0 ≤ z27.toInt) := ⟨hP, hD, hS, lv_sub hl [2, 3, 1, 0] rfl, (by first | with_reducible assumption | exact ⟨by omega, by omega⟩), (by first | with_reducible assumption | exact ⟨by omega, by omega⟩), by first | exact hah | exact zAh_0 (by decide) (by decide), by omega, by omega, by omega⟩
        exact hJ4 H locs ls (fun i => ([z27, z29] : List (Int32)).getD i 0) (fun _ => 0) (fun _ => (fun _ => 0)) (fun _ => (fun _ => 0)) hc (show (400 - z29.toInt).toNat < (400 - (u4_ 1).toInt).toNat from by omega)
      · skip
        have b_ := zF_ge rfl zk_0 c_
        refine lv_iconst (v := 1) hx hb dX13_ahead_22 (by decide) ?_
        refine lv_goto (tgt := 27) hx hb dX13_ahead_23 (by decide) ?_
        refine lv_iadd hx hb dX13_ahead_27 ?_
        refine lv_topi (fun z27 e_z27 => ?_)
        have b_ := zadd rfl zk_1 e_z27 (by omega) (by omega)
        refine lv_istore_n (lv' := [(2, .int z27), (0, .ref h0), (1, .int x1), (3, .int (u4_ 1))]) hx hb dX13_ahead_28 rfl hl (by decide) rfl (fun ls hl => ?_)
        obtain ⟨z29, e_z29⟩ : ∃ z : Int32, z = (u4_ 1) + Int32.ofInt 1 := ⟨_, rfl⟩
        have b_ := zadd (x := (u4_ 1)) (y := Int32.ofInt 1) rfl (show (Int32.ofInt 1).toInt = 1 from by decide) e_z29 (by omega) (by omega)
        refine lv_iinc (v := z29) (lv' := [(3, .int z29), (2, .int z27), (0, .ref h0), (1, .int x1)]) hx hb dX13_ahead_29 hl (k := 3) rfl e_z29.symm (by decide) rfl (fun ls hl => ?_)
        have hah : zAh f2 f3 (v0 4).toInt x1.toInt z29.toInt z27.toInt := zAh_s hI4_0 hX16_0 (by omega) (by omega) (by omega) (by omega)
        refine lv_goto (tgt := 4) hx hb dX13_ahead_32 (by decide) ?_
        have hc : va_P (dC, dI) vwCl [(h0, .inr (13, mX13 q0 v0)), ((q0 3), zi k3 400 f3), ((q0 2), zi k2 4800 f2)] H ∧ va_D A [(h0, .inr (13, mX13 q0 v0)), ((q0 3), zi k3 400 f3), ((q0 2), zi k2 4800 f2)] ∧ va_S A s.heap H locs ∧ lv_has ls 4 [(0, .ref h0), (1, .int x1), (2, .int z27), (3, .int z29)] ∧ (0 ≤ z27.toInt ∧ z27.toInt ≤ 400) ∧ (0 ≤ z29.toInt ∧ z29.toInt ≤ 400) ∧ (zAh f2 f3 (v0 4).toInt x1.toInt z29.toInt z27.toInt) ∧ (z29.toInt ≤ (v0 4).toInt) ∧ (z27.toInt ≤ z29.toInt) ∧ (0 ≤ z27.toInt) := ⟨hP, hD, hS, lv_sub hl [2, 3, 1, 0] rfl, (by first | with_reducible assumption | exact ⟨by omega, by omega⟩), (by first | with_reducible assumption | exact ⟨by omega, by omega⟩), by first | exact hah | exact zAh_0 (by decide) (by decide), by omega, by omega, by omega⟩
        exact hJ4 H locs ls (fun i => ([z27, z29] : List (Int32)).getD i 0) (fun _ => 0) (fun _ => (fun _ => 0)) (fun _ => (fun _ => 0)) hc (show (400 - z29.toInt).toNat < (400 - (u4_ 1).toInt).toNat from by omega)
  · skip
    have hc : va_P (dC, dI) vwCl [(h0, .inr (13, mX13 q0 v0)), ((q0 3), zi k3 400 f3), ((q0 2), zi k2 4800 f2)] s.heap ∧ va_D A [(h0, .inr (13, mX13 q0 v0)), ((q0 3), zi k3 400 f3), ((q0 2), zi k2 4800 f2)] ∧ va_S A s.heap s.heap [] ∧ lv_has ls 4 [(0, .ref h0), (1, .int x1), (2, .int 0), (3, .int 0)] ∧ (0 ≤ (0 : Int32).toInt ∧ (0 : Int32).toInt ≤ 400) ∧ (0 ≤ (0 : Int32).toInt ∧ (0 : Int32).toInt ≤ 400) ∧ (zAh f2 f3 (v0 4).toInt x1.toInt (0 : Int32).toInt (0 : Int32).toInt) ∧ ((0 : Int32).toInt ≤ (v0 4).toInt) ∧ ((0 : Int32).toInt ≤ (0 : Int32).toInt) ∧ (0 ≤ (0 : Int32).toInt) := ⟨hP, hD, hS, lv_sub hl [2, 3, 1, 0] rfl, (by first | with_reducible assumption | exact ⟨by omega, by omega⟩), (by first | with_reducible assumption | exact ⟨by omega, by omega⟩), by first | exact hah | exact zAh_0 (by decide) (by decide), by omega, by omega, by omega⟩
    exact hJ4 s.heap [] ls (fun i => ([0, 0] : List (Int32)).getD i 0) (fun _ => 0) (fun _ => (fun _ => 0)) (fun _ => (fun _ => 0)) hc
theorem zv1999 : (.methodLink RX13 316 yX13_chunks : Cond) ∈ zG := zin8 191 (by decide +kernel) (by decide +kernel)
set_option maxHeartbeats 8000000 in
set_option maxRecDepth 100000 in
theorem sX13_posting_0 (l : Launch) (dC : Nat → ClassId) (dI : Nat → Nat → Nat) (adK adV : Nat → Nat) (h0 : Nat) (q0 : Nat → Nat) (k14 : ClassId) (k15 : ClassId) (k3 : ClassId) (k2 : ClassId) (k6 : ClassId) (k10 : ClassId) (k4 : ClassId) (k11 : ClassId) (k16 : ClassId) (k5 : ClassId) (sz : Nat) (v0 : Nat → Int32) (f14 : Nat → Int32) (f15 : Nat → Int32) (f3 : Nat → Int32) (f2 : Nat → Int32) (f6 : Nat → Int32) (f10 : Nat → Int32) (f4 : Nat → Int32) (f11 : Nat → Int32) (f16 : Nat → Int32) (f5 : Nat → Int32) (x1 : Int32) (hv0 : zR rg_Model v0) (hf3 : zA 0 12 f3) (hf10 : zA 0 512 f10) (hf4 : zA 0 400 f4) (hf11 : zA 0 512 f11) : Met l yX13_posting (zw yX13_posting cX13_posting 5 (some .int)) { frames := 3, cells := 0, slots := 0, locals := 72 } (zPc dC dI adK adV [.ref h0, .int x1] sz [(h0, .inr (13, mX13 q0 v0)), ((q0 17), zi k14 12 f14), ((q0 19), zi k15 12 f15), ((q0 3), zi k3 400 f3), ((q0 2), zi k2 4800 f2), ((q0 7), zi k6 120 f6), ((q0 11), zi k10 120 f10), ((q0 5), zi k4 122880 f4), ((q0 12), zi k11 120 f11), ((q0 22), zi k16 40000 f16), ((q0 6), zi k5 120 f5)] [(k14, .byte), (k15, .byte), (k3, .int), (k2, .byte), (k6, .boolean), (k10, .int), (k4, .short), (k11, .int), (k16, .byte), (k5, .boolean)]) (va_Qi (fun (r : Int32) (u : Nat → Int32) => ((-1) ≤ r.toInt ∧ r.toInt ≤ 2600021) ∧ (0 ≤ (u 0).toInt ∧ (u 0).toInt ≤ 12) ∧ (0 ≤ (u 1).toInt ∧ (u 1).toInt ≤ 0) ∧ (0 ≤ (u 3).toInt ∧ (u 3).toInt ≤ 1) ∧ (zPr f14 (v0 18).toInt f2 f3 (v0 4).toInt f4 f6 f10 f11 (v0 13).toInt f5 x1.toInt r.toInt)) (fun (u : Nat → Int32) (t : State) => ∃ (ww : Nat → Int64) (aa : Nat → Nat → Int32) (bb : Nat → Nat → Int64), va_P (dC, dI) vwCl [(h0, .inr (13, mX13 q0 (upd (upd (upd (upd v0 20 (u 0)) 21 (u 1)) 23 (u 2)) 24 (u 3)))), ((q0 17), zi k14 12 f14), ((q0 19), zi k15 12 (aa 0)), ((q0 3), zi k3 400 f3), ((q0 2), zi k2 4800 f2), ((q0 7), zi k6 120 f6), ((q0 11), zi k10 120 f10), ((q0 5), zi k4 122880 f4), ((q0 12), zi k11 120 f11), ((q0 22), zi k16 40000 (aa 1)), ((q0 6), zi k5 120 f5)] t.heap ∧ va_K (dC, dI) vwCl [(k14, .byte), (k15, .byte), (k3, .int), (k2, .byte), (k6, .boolean), (k10, .int), (k4, .short), (k11, .int), (k16, .byte), (k5, .boolean)] t ∧ va_D (va_A [(h0, .inr (13, mX13 q0 v0)), ((q0 17), zi k14 12 f14), ((q0 19), zi k15 12 f15), ((q0 3), zi k3 400 f3), ((q0 2), zi k2 4800 f2), ((q0 7), zi k6 120 f6), ((q0 11), zi k10 120 f10), ((q0 5), zi k4 122880 f4), ((q0 12), zi k11 120 f11), ((q0 22), zi k16 40000 f16), ((q0 6), zi k5 120 f5)] sz) [(h0, .inr (13, mX13 q0 (upd (upd (upd (upd v0 20 (u 0)) 21 (u 1)) 23 (u 2)) 24 (u 3)))), ((q0 17), zi k14 12 f14), ((q0 19), zi k15 12 (aa 0)), ((q0 3), zi k3 400 f3), ((q0 2), zi k2 4800 f2), ((q0 7), zi k6 120 f6), ((q0 11), zi k10 120 f10), ((q0 5), zi k4 122880 f4), ((q0 12), zi k11 120 f11), ((q0 22), zi k16 40000 (aa 1)), ((q0 6), zi k5 120 f5)]) (va_A [(h0, .inr (13, mX13 q0 v0)), ((q0 17), zi k14 12 f14), ((q0 19), zi k15 12 f15), ((q0 3), zi k3 400 f3), ((q0 2), zi k2 4800 f2), ((q0 7), zi k6 120 f6), ((q0 11), zi k10 120 f10), ((q0 5), zi k4 122880 f4), ((q0 12), zi k11 120 f11), ((q0 22), zi k16 40000 f16), ((q0 6), zi k5 120 f5)] sz)) 0 0 (va_A [(h0, .inr (13, mX13 q0 v0)), ((q0 17), zi k14 12 f14), ((q0 19), zi k15 12 f15), ((q0 3), zi k3 400 f3), ((q0 2), zi k2 4800 f2), ((q0 7), zi k6 120 f6), ((q0 11), zi k10 120 f10), ((q0 5), zi k4 122880 f4), ((q0 12), zi k11 120 f11), ((q0 22), zi k16 40000 f16), ((q0 6), zi k5 120 f5)] sz) := by
  refine Met.ofW (cc := cX13_posting) (maxL := 5) (ret := (some .int)) (by decide) rfl ?_
  intro p e s m args below meth c s₁ B hml hv
  obtain ⟨rfl, hsz, hP, hK, hD0, hE, hZ⟩ := hv
  have hx := B.exec
  have hb := B.bytes
  have hr := B.returns
  have hG : ∀ w ∈ zG, w.before _ s = true := fun w h => atoms_spec (ws := (zw yX13_posting cX13_posting 5 (some .int))) B.pre w (List.mem_cons_of_mem _ h)
  have hown : s.vm.findClass RX13 = some m.cls := findClass_of_methodNamed B.named
  have hlocks := B.notSynchronized

  subst hsz
  have hD := hD0.self (sz := s.heap.size)
  generalize hAe : va_A [(h0, .inr (13, mX13 q0 v0)), ((q0 17), zi k14 12 f14), ((q0 19), zi k15 12 f15), ((q0 3), zi k3 400 f3), ((q0 2), zi k2 4800 f2), ((q0 7), zi k6 120 f6), ((q0 11), zi k10 120 f10), ((q0 5), zi k4 122880 f4), ((q0 12), zi k11 120 f11), ((q0 22), zi k16 40000 f16), ((q0 6), zi k5 120 f5)] s.heap.size = A at hD hZ ⊢
  have hA : ∀ q : Nat, s.heap.size ≤ q → A q := fun q h => by rw [← hAe]; exact Or.inr h
  have hS : va_S A s.heap s.heap [] := va_S.rf
  have hl := lv_entry ([.ref h0, .int x1]) (n := 5) (Nat.le_of_ble_eq_true rfl)
  rw [lg_entry_eq]
  generalize (lg_sl ([.ref h0, .int x1]) ++ List.replicate (5 - (lg_sl ([.ref h0, .int x1])).length) Slot.unset).toArray = ls at hl ⊢
  have hl : lv_has ls 5 [(0, .ref h0), (1, .int x1)] := hl
  have b_ := zk_m1
  have b_ := zk_0
  have b_ := zk_1
  have b_ := zk_2
  have b_ := zk_3
  have b_ : (-1) ≤ (v0 18).toInt ∧ (v0 18).toInt ≤ 12 := hv0 18
  have b_ : 0 ≤ (v0 4).toInt ∧ (v0 4).toInt ≤ 400 := hv0 4
  have b_ : 0 ≤ (v0 13).toInt ∧ (v0 13).toInt ≤ 120 := hv0 13
  refine lv_aload_n hx hb dX13_posting_0 rfl (lv_at hl 0 rfl) ?_
  refine lv_iconst (v := 0) hx hb dX13_posting_1 (by decide) ?_
  refine va_put (D := (dC, dI)) (ci := 13) (v := .int 0) (ty := .int) (C := RX13) (T := TX13) (N := 75) hx hb hG zuX13 tyX13 tyX13_ok nmX13 hown hK hP hD hS 0 rfl rfl 21 (by decide) (hG _ zv1625) (fun _ h9 => h9) rfl (by decide +kernel) rfl rfl (Nat.le_of_ble_eq_true rfl) dX13_posting_2 (fun H locs hP hD hS => ?_)
  have hP : va_P (dC, dI) vwCl [(h0, .inr (13, mX13 q0 (upd v0 21 0))), ((q0 17), zi k14 12 f14), ((q0 19), zi k15 12 f15), ((q0 3), zi k3 400 f3), ((q0 2), zi k2 4800 f2), ((q0 7), zi k6 120 f6), ((q0 11), zi k10 120 f10), ((q0 5), zi k4 122880 f4), ((q0 12), zi k11 120 f11), ((q0 22), zi k16 40000 f16), ((q0 6), zi k5 120 f5)] H := hP
  have hD : va_D A [(h0, .inr (13, mX13 q0 (upd v0 21 0))), ((q0 17), zi k14 12 f14), ((q0 19), zi k15 12 f15), ((q0 3), zi k3 400 f3), ((q0 2), zi k2 4800 f2), ((q0 7), zi k6 120 f6), ((q0 11), zi k10 120 f10), ((q0 5), zi k4 122880 f4), ((q0 12), zi k11 120 f11), ((q0 22), zi k16 40000 f16), ((q0 6), zi k5 120 f5)] := hD
  refine lv_aload_n hx hb dX13_posting_5 rfl (lv_at hl 0 rfl) ?_
  refine va_get (D := (dC, dI)) (ci := 13) (v := .int (v0 18)) (C := RX13) (T := TX13) (N := 75) hx hb hG zuX13 hown hK hP 0 rfl rfl 18 (by decide) (hG _ zv1622) (fun _ h9 => h9) rfl dX13_posting_6 ?_
  refine lv_iconst (v := (-1)) hx hb dX13_posting_9 (by decide) ?_
  refine lv_icmp_eq (tgt := 22) hx hb dX13_posting_10 (by decide) (fun c_ => ?_) (fun c_ => ?_)
  · skip
    have b_ := zT_eq rfl zk_m1 c_
    refine lv_iconst (v := (-1)) hx hb dX13_posting_22 (by decide) ?_
    refine W.widen (k := 0) (n := 0) (by decide) (by decide) ?_
    have b_ : 0 ≤ (v0 20).toInt ∧ (v0 20).toInt ≤ 12 := hv0 20
    have b_ : -2147483648 ≤ (v0 23).toInt ∧ (v0 23).toInt ≤ 2147483647 := ⟨zlo _, zhi _⟩
    have b_ : 0 ≤ (v0 24).toInt ∧ (v0 24).toInt ≤ 1 := hv0 24
    have hpost : ((-1) ≤ ((-1) : Int32).toInt ∧ ((-1) : Int32).toInt ≤ 2600021) ∧ (0 ≤ (v0 20).toInt ∧ (v0 20).toInt ≤ 12) ∧ (0 ≤ (0 : Int32).toInt ∧ (0 : Int32).toInt ≤ 0) ∧ (0 ≤ (v0 24).toInt ∧ (v0 24).toInt ≤ 1) ∧ (zPr f14 (v0 18).toInt f2 f3 (v0 4).toInt f4 f6 f10 f11 (v0 13).toInt f5 x1.toInt ((-1) : Int32).toInt) := ⟨(by first | with_reducible assumption | exact ⟨by omega, by omega⟩), (by first | with_reducible assumption | exact ⟨by omega, by omega⟩), (by first | with_reducible assumption | exact ⟨by omega, by omega⟩), (by first | with_reducible assumption | exact ⟨by omega, by omega⟩), by first | exact zPr_y hX25_1 (by omega) (fun T V x hm hb hv => Or.inl ⟨by omega, hX71_2 T V x hm hb hv⟩) | exact zPr_y hX25_1 (by omega) (fun T V x hm hb hv => Or.inr (Or.inl ⟨by omega, by have e := hX78_2 T V x hm hb hv; have c := hX81_0 (by omega); rw [c, e, Int.toNat_natCast]⟩)) | exact zPr_y hX25_1 (by omega) (fun T V x hm hb hv => Or.inr (Or.inr (Or.inl ⟨by omega, hX87_0 T V x hm hb hv⟩))) | exact zPr_y hX25_1 (by omega) (fun T V x hm hb hv => Or.inr (Or.inr (Or.inr (Or.inl ⟨by omega, zKg_e hI96_0 (by omega) (by omega) rfl T V x hm hb hv⟩)))) | exact zPr_y hX25_1 (by omega) (fun T V x hm hb hv => Or.inr (Or.inr (Or.inr (Or.inr ⟨by omega, zAh_V hm.1 hX139_0 (by omega) hv⟩)))) | exact zPr_0 (by omega) (by omega) (by omega) hX25_1 (by omega) (by decide) | exact zPr_n (by omega) (by decide)⟩
    have hP9 : va_P (dC, dI) vwCl [(h0, .inr (13, mX13 q0 (upd (upd (upd (upd v0 20 (v0 20)) 21 0) 23 (v0 23)) 24 (v0 24)))), ((q0 17), zi k14 12 f14), ((q0 19), zi k15 12 f15), ((q0 3), zi k3 400 f3), ((q0 2), zi k2 4800 f2), ((q0 7), zi k6 120 f6), ((q0 11), zi k10 120 f10), ((q0 5), zi k4 122880 f4), ((q0 12), zi k11 120 f11), ((q0 22), zi k16 40000 f16), ((q0 6), zi k5 120 f5)] H := hP
    have hD9 : va_D A [(h0, .inr (13, mX13 q0 (upd (upd (upd (upd v0 20 (v0 20)) 21 0) 23 (v0 23)) 24 (v0 24)))), ((q0 17), zi k14 12 f14), ((q0 19), zi k15 12 f15), ((q0 3), zi k3 400 f3), ((q0 2), zi k2 4800 f2), ((q0 7), zi k6 120 f6), ((q0 11), zi k10 120 f10), ((q0 5), zi k4 122880 f4), ((q0 12), zi k11 120 f11), ((q0 22), zi k16 40000 f16), ((q0 6), zi k5 120 f5)] := hD
    exact W.iret (v := (-1)) hx hb hr (fun t ht hW => ⟨⟨(-1), (fun i => ([(v0 20), 0, (v0 23), (v0 24)] : List (Int32)).getD i 0), rfl, hpost, (fun _ => 0), (fun i => ([f15, f16] : List (Nat → Int32)).getD i (fun _ => 0)), (fun _ => (fun _ => 0)), by rw [ht]; exact hP9, va_K.moved hW.alike hK, hD9⟩, hS.F ht⟩) hS.2.2 dX13_posting_23
  · skip
    have b_ := zF_eq rfl zk_m1 c_
    refine lv_iload_n hx hb dX13_posting_13 rfl (lv_at hl 1 rfl) ?_
    have b_ : -2147483648 ≤ x1.toInt ∧ x1.toInt ≤ 2147483647 := ⟨zlo _, zhi _⟩
    refine lv_if_lt (tgt := 22) hx hb dX13_posting_14 (by decide) (fun c_ => ?_) (fun c_ => ?_)
    · skip
      have b_ := zT_lt rfl zk_0 c_
      refine lv_iconst (v := (-1)) hx hb dX13_posting_22 (by decide) ?_
      refine W.widen (k := 0) (n := 0) (by decide) (by decide) ?_
      have b_ : 0 ≤ (v0 20).toInt ∧ (v0 20).toInt ≤ 12 := hv0 20
      have b_ : -2147483648 ≤ (v0 23).toInt ∧ (v0 23).toInt ≤ 2147483647 := ⟨zlo _, zhi _⟩
      have b_ : 0 ≤ (v0 24).toInt ∧ (v0 24).toInt ≤ 1 := hv0 24
      have hpost : ((-1) ≤ ((-1) : Int32).toInt ∧ ((-1) : Int32).toInt ≤ 2600021) ∧ (0 ≤ (v0 20).toInt ∧ (v0 20).toInt ≤ 12) ∧ (0 ≤ (0 : Int32).toInt ∧ (0 : Int32).toInt ≤ 0) ∧ (0 ≤ (v0 24).toInt ∧ (v0 24).toInt ≤ 1) ∧ (zPr f14 (v0 18).toInt f2 f3 (v0 4).toInt f4 f6 f10 f11 (v0 13).toInt f5 x1.toInt ((-1) : Int32).toInt) := ⟨(by first | with_reducible assumption | exact ⟨by omega, by omega⟩), (by first | with_reducible assumption | exact ⟨by omega, by omega⟩), (by first | with_reducible assumption | exact ⟨by omega, by omega⟩), (by first | with_reducible assumption | exact ⟨by omega, by omega⟩), by first | exact zPr_y hX25_1 (by omega) (fun T V x hm hb hv => Or.inl ⟨by omega, hX71_2 T V x hm hb hv⟩) | exact zPr_y hX25_1 (by omega) (fun T V x hm hb hv => Or.inr (Or.inl ⟨by omega, by have e := hX78_2 T V x hm hb hv; have c := hX81_0 (by omega); rw [c, e, Int.toNat_natCast]⟩)) | exact zPr_y hX25_1 (by omega) (fun T V x hm hb hv => Or.inr (Or.inr (Or.inl ⟨by omega, hX87_0 T V x hm hb hv⟩))) | exact zPr_y hX25_1 (by omega) (fun T V x hm hb hv => Or.inr (Or.inr (Or.inr (Or.inl ⟨by omega, zKg_e hI96_0 (by omega) (by omega) rfl T V x hm hb hv⟩)))) | exact zPr_y hX25_1 (by omega) (fun T V x hm hb hv => Or.inr (Or.inr (Or.inr (Or.inr ⟨by omega, zAh_V hm.1 hX139_0 (by omega) hv⟩)))) | exact zPr_0 (by omega) (by omega) (by omega) hX25_1 (by omega) (by decide) | exact zPr_n (by omega) (by decide)⟩
      have hP9 : va_P (dC, dI) vwCl [(h0, .inr (13, mX13 q0 (upd (upd (upd (upd v0 20 (v0 20)) 21 0) 23 (v0 23)) 24 (v0 24)))), ((q0 17), zi k14 12 f14), ((q0 19), zi k15 12 f15), ((q0 3), zi k3 400 f3), ((q0 2), zi k2 4800 f2), ((q0 7), zi k6 120 f6), ((q0 11), zi k10 120 f10), ((q0 5), zi k4 122880 f4), ((q0 12), zi k11 120 f11), ((q0 22), zi k16 40000 f16), ((q0 6), zi k5 120 f5)] H := hP
      have hD9 : va_D A [(h0, .inr (13, mX13 q0 (upd (upd (upd (upd v0 20 (v0 20)) 21 0) 23 (v0 23)) 24 (v0 24)))), ((q0 17), zi k14 12 f14), ((q0 19), zi k15 12 f15), ((q0 3), zi k3 400 f3), ((q0 2), zi k2 4800 f2), ((q0 7), zi k6 120 f6), ((q0 11), zi k10 120 f10), ((q0 5), zi k4 122880 f4), ((q0 12), zi k11 120 f11), ((q0 22), zi k16 40000 f16), ((q0 6), zi k5 120 f5)] := hD
      exact W.iret (v := (-1)) hx hb hr (fun t ht hW => ⟨⟨(-1), (fun i => ([(v0 20), 0, (v0 23), (v0 24)] : List (Int32)).getD i 0), rfl, hpost, (fun _ => 0), (fun i => ([f15, f16] : List (Nat → Int32)).getD i (fun _ => 0)), (fun _ => (fun _ => 0)), by rw [ht]; exact hP9, va_K.moved hW.alike hK, hD9⟩, hS.F ht⟩) hS.2.2 dX13_posting_23
    · skip
      have b_ := zF_lt rfl zk_0 c_
      refine lv_iload_n hx hb dX13_posting_17 rfl (lv_at hl 1 rfl) ?_
      refine lv_iconst (v := 4) hx hb dX13_posting_18 (by decide) ?_
      refine lv_icmp_le (tgt := 24) hx hb dX13_posting_19 (by decide) (fun c_ => ?_) (fun c_ => ?_)
      · skip
        have b_ := zT_le rfl zk_4 c_
        refine lv_aload_n hx hb dX13_posting_24 rfl (lv_at hl 0 rfl) ?_
        have hPc := hP.sub (ws' := [(h0, .inr (13, mX13 q0 (upd v0 21 0))), ((q0 17), zi k14 12 f14), ((q0 19), zi k15 12 f15), ((q0 3), zi k3 400 f3), ((q0 2), zi k2 4800 f2)]) [0, 1, 2, 3, 4] rfl
        have hDc := hD.sub (ws' := [(h0, .inr (13, mX13 q0 (upd v0 21 0))), ((q0 17), zi k14 12 f14), ((q0 19), zi k15 12 f15), ((q0 3), zi k3 400 f3), ((q0 2), zi k2 4800 f2)]) [0, 1, 2, 3, 4] (by decide) rfl
        have hKc := hK.sub (tys' := [(k14, .byte), (k15, .byte), (k3, .int), (k2, .byte)]) [0, 1, 2, 3] rfl
        have hFc := va_free (wc := [(h0, .inr (13, mX13 q0 (upd v0 21 0))), ((q0 17), zi k14 12 f14), ((q0 19), zi k15 12 f15), ((q0 3), zi k3 400 f3), ((q0 2), zi k2 4800 f2)]) hD hS hA [0, 1, 2, 3, 4] rfl
        refine va_calli (va_runV (As := []) (rest := []) ⟨hx, hb, hml, hown, hG⟩ (sX13_lookedWord_0 l dC dI adK adV h0 q0 k14 k15 k3 k2 H.size (upd v0 21 0) f14 f15 f3 f2 (zR_updF hv0 21 rfl) hf3) (cwV 0 hG (zgV zv1987 zv1989 zv72 zv142 zv1990) rfl rfl rfl (by decide +kernel) ⟨Nat.le_of_ble_eq_true rfl, Nat.le_of_ble_eq_true rfl⟩) ⟨zPc_blind, va_recv hKc hPc (ci := 13) (q0 := 0) rfl rfl, zPc_pre hPc hKc hDc hE hS hFc hZ⟩ rfl rfl hl.1 rfl (lv_room (Nat.le_of_ble_eq_true rfl)) dX13_posting_25 ⟨Nat.le_of_ble_eq_true rfl, Nat.le_of_ble_eq_true rfl⟩) hS (fun q _ h => hFc q h) hFc (fun r25_ u25_ t H1 locs ht hvm hw hB hz1 hk1 hS => ?_)
        replace hw : ((-1) ≤ r25_.toInt ∧ r25_.toInt ≤ 399) ∧ (0 ≤ (u25_ 0).toInt ∧ (u25_ 0).toInt ≤ 12) ∧ (r25_.toInt < (v0 4).toInt) ∧ (zLw f14 (v0 18).toInt f2 f3 (v0 4).toInt r25_.toInt) := hw
        obtain ⟨b_, b_, hX25_0, hX25_1⟩ := hw
        obtain ⟨w25_, a25_, b25_, hP1, hK1, hD1⟩ := hB
        rw [ht] at hP1
        obtain ⟨hP, hD⟩ := va_join (wr := [((q0 7), zi k6 120 f6), ((q0 11), zi k10 120 f10), ((q0 5), zi k4 122880 f4), ((q0 12), zi k11 120 f11), ((q0 22), zi k16 40000 f16), ((q0 6), zi k5 120 f5)]) (w1 := [(h0, .inr (13, mX13 q0 (upd (upd v0 20 (u25_ 0)) 21 0))), ((q0 17), zi k14 12 f14), ((q0 19), zi k15 12 (a25_ 0)), ((q0 3), zi k3 400 f3), ((q0 2), zi k2 4800 f2)]) hP hD [0, 1, 2, 3, 4] [5, 6, 7, 8, 9, 10] rfl rfl (by decide) (by decide) hk1 hFc hP1 hD1
        have hP : va_P (dC, dI) vwCl [(h0, .inr (13, mX13 q0 (upd (upd v0 20 (u25_ 0)) 21 0))), ((q0 17), zi k14 12 f14), ((q0 19), zi k15 12 (a25_ 0)), ((q0 3), zi k3 400 f3), ((q0 2), zi k2 4800 f2), ((q0 7), zi k6 120 f6), ((q0 11), zi k10 120 f10), ((q0 5), zi k4 122880 f4), ((q0 12), zi k11 120 f11), ((q0 22), zi k16 40000 f16), ((q0 6), zi k5 120 f5)] H1 := hP.sub [6, 7, 8, 9, 10, 0, 1, 2, 3, 4, 5] rfl
        have hD : va_D A [(h0, .inr (13, mX13 q0 (upd (upd v0 20 (u25_ 0)) 21 0))), ((q0 17), zi k14 12 f14), ((q0 19), zi k15 12 (a25_ 0)), ((q0 3), zi k3 400 f3), ((q0 2), zi k2 4800 f2), ((q0 7), zi k6 120 f6), ((q0 11), zi k10 120 f10), ((q0 5), zi k4 122880 f4), ((q0 12), zi k11 120 f11), ((q0 22), zi k16 40000 f16), ((q0 6), zi k5 120 f5)] := hD.sub [6, 7, 8, 9, 10, 0, 1, 2, 3, 4, 5] (by decide) rfl
        generalize H1 = H at hP hS ⊢
        clear hz1
        refine lv_istore_n (lv' := [(2, .int r25_), (0, .ref h0), (1, .int x1)]) hx hb dX13_posting_28 rfl hl (by decide) rfl (fun ls hl => ?_)
        refine lv_iload_n hx hb dX13_posting_29 rfl (lv_at hl 0 rfl) ?_
        refine lv_iconst (v := (-1)) hx hb dX13_posting_30 (by decide) ?_
        refine lv_icmp_ne (tgt := 36) hx hb dX13_posting_31 (by decide) (fun c_ => ?_) (fun c_ => ?_)
        · skip
          have b_ := zT_ne rfl zk_m1 c_
          refine lv_iload_n hx hb dX13_posting_36 rfl (lv_at hl 2 rfl) ?_
          rcases Classical.em (x1 = (0 : Int32)) with c_ | c_
          · skip
            have b_ : x1.toInt = 0 := by rw [c_]; exact zk_0
            refine lv_tableIn (off := 31) (tgt := 68) hx hb dX13_posting_37 (by omega) (by omega) (by rw [b_]; decide) (by decide) ?_
            refine lv_aload_n hx hb dX13_posting_68 rfl (lv_at hl 1 rfl) ?_
            refine lv_iload_n hx hb dX13_posting_69 rfl (lv_at hl 0 rfl) ?_
            refine lv_iconst (v := 0) hx hb dX13_posting_70 (by decide) ?_
            have hPc := hP.sub (ws' := [(h0, .inr (13, mX13 q0 (upd (upd v0 20 (u25_ 0)) 21 0))), ((q0 7), zi k6 120 f6), ((q0 11), zi k10 120 f10), ((q0 5), zi k4 122880 f4), ((q0 12), zi k11 120 f11), ((q0 22), zi k16 40000 f16), ((q0 2), zi k2 4800 f2), ((q0 3), zi k3 400 f3)]) [0, 5, 6, 7, 8, 9, 4, 3] rfl
            have hDc := hD.sub (ws' := [(h0, .inr (13, mX13 q0 (upd (upd v0 20 (u25_ 0)) 21 0))), ((q0 7), zi k6 120 f6), ((q0 11), zi k10 120 f10), ((q0 5), zi k4 122880 f4), ((q0 12), zi k11 120 f11), ((q0 22), zi k16 40000 f16), ((q0 2), zi k2 4800 f2), ((q0 3), zi k3 400 f3)]) [0, 5, 6, 7, 8, 9, 4, 3] (by decide) rfl
            have hKc := hK.sub (tys' := [(k6, .boolean), (k10, .int), (k4, .short), (k11, .int), (k16, .byte), (k2, .byte), (k3, .int)]) [4, 5, 6, 7, 8, 3, 2] rfl
            have hFc := va_free (wc := [(h0, .inr (13, mX13 q0 (upd (upd v0 20 (u25_ 0)) 21 0))), ((q0 7), zi k6 120 f6), ((q0 11), zi k10 120 f10), ((q0 5), zi k4 122880 f4), ((q0 12), zi k11 120 f11), ((q0 22), zi k16 40000 f16), ((q0 2), zi k2 4800 f2), ((q0 3), zi k3 400 f3)]) hD hS hA [0, 5, 6, 7, 8, 9, 4, 3] rfl
            refine va_calli (va_runV (As := [.int r25_, .int 0]) (rest := []) ⟨hx, hb, hml, hown, hG⟩ (sX13_layOut_0 l dC dI adK adV h0 q0 k6 k10 k4 k11 k16 k2 k3 H.size (upd (upd v0 20 (u25_ 0)) 21 0) f6 f10 f4 f11 f16 f2 f3 r25_ 0 (zR_updF (zR_up2 hv0 20 (show (0 : Int) ≤ ((u25_ 0) : Int32).toInt ∧ ((u25_ 0) : Int32).toInt ≤ (12 : Int) from (by first | with_reducible assumption | exact ⟨by omega, by omega⟩))) 21 rfl) hf10 hf4 hf11 hf3 (show (0 : Int) ≤ (r25_ : Int32).toInt ∧ (r25_ : Int32).toInt ≤ (399 : Int) from (by first | with_reducible assumption | exact ⟨by omega, by omega⟩)) ⟨show (0 : Int) ≤ (0 : Int32).toInt from by decide, show (0 : Int32).toInt ≤ (1 : Int) from by decide⟩ (show (0 : Int32).toInt = 1 → (zB f4 f6 r25_.toInt  ((v0 13).toInt).toNat).1 ≤ 40000 from by omega)) (cwV 2 hG (zgV zv1991 zv1993 zv73 zv142 zv1994) rfl rfl rfl (by decide +kernel) ⟨Nat.le_of_ble_eq_true rfl, Nat.le_of_ble_eq_true rfl⟩) ⟨zPc_blind, va_recv hKc hPc (ci := 13) (q0 := 0) rfl rfl, zPc_pre hPc hKc hDc hE hS hFc hZ⟩ rfl rfl hl.1 rfl (lv_room (Nat.le_of_ble_eq_true rfl)) dX13_posting_71 ⟨Nat.le_of_ble_eq_true rfl, Nat.le_of_ble_eq_true rfl⟩) hS (fun q _ h => hFc q h) hFc (fun r71_ u71_ t H1 locs ht hvm hw hB hz1 hk1 hS => ?_)
            replace hw : (0 ≤ r71_.toInt ∧ r71_.toInt ≤ 2600021) ∧ (0 ≤ (u71_ 0).toInt ∧ (u71_ 0).toInt ≤ 2600021) ∧ (0 ≤ (u71_ 1).toInt ∧ (u71_ 1).toInt ≤ 1) ∧ (r71_.toInt ≤ (zB f4 f6 r25_.toInt  ((v0 13).toInt).toNat).1) ∧ (0 ≤ r71_.toInt) ∧ (zW (∀ (T : Nat → Nat → Int) (V : List Int) (x : Int), zMd f2 f3 (v0 4).toInt f4 f6 (v0 13).toInt T V → zMb f10 f11 (v0 13).toInt T → V[(r25_.toInt).toNat]? = some x → r71_.toInt = ((zPq T x ((v0 13).toInt).toNat).length : Int))) := hw
            obtain ⟨b_, b_, b_, hX71_0, hX71_1, hX71_2⟩ := hw
            obtain ⟨w71_, a71_, b71_, hP1, hK1, hD1⟩ := hB
            rw [ht] at hP1
            obtain ⟨hP, hD⟩ := va_join (wr := [((q0 17), zi k14 12 f14), ((q0 19), zi k15 12 (a25_ 0)), ((q0 6), zi k5 120 f5)]) (w1 := [(h0, .inr (13, mX13 q0 (upd (upd (upd (upd v0 20 (u25_ 0)) 21 0) 23 (u71_ 0)) 24 (u71_ 1)))), ((q0 7), zi k6 120 f6), ((q0 11), zi k10 120 f10), ((q0 5), zi k4 122880 f4), ((q0 12), zi k11 120 f11), ((q0 22), zi k16 40000 (a71_ 0)), ((q0 2), zi k2 4800 f2), ((q0 3), zi k3 400 f3)]) hP hD [0, 5, 6, 7, 8, 9, 4, 3] [1, 2, 10] rfl rfl (by decide) (by decide) hk1 hFc hP1 hD1
            have hP : va_P (dC, dI) vwCl [(h0, .inr (13, mX13 q0 (upd (upd (upd (upd v0 20 (u25_ 0)) 21 0) 23 (u71_ 0)) 24 (u71_ 1)))), ((q0 17), zi k14 12 f14), ((q0 19), zi k15 12 (a25_ 0)), ((q0 3), zi k3 400 f3), ((q0 2), zi k2 4800 f2), ((q0 7), zi k6 120 f6), ((q0 11), zi k10 120 f10), ((q0 5), zi k4 122880 f4), ((q0 12), zi k11 120 f11), ((q0 22), zi k16 40000 (a71_ 0)), ((q0 6), zi k5 120 f5)] H1 := hP.sub [3, 0, 1, 10, 9, 4, 5, 6, 7, 8, 2] rfl
            have hD : va_D A [(h0, .inr (13, mX13 q0 (upd (upd (upd (upd v0 20 (u25_ 0)) 21 0) 23 (u71_ 0)) 24 (u71_ 1)))), ((q0 17), zi k14 12 f14), ((q0 19), zi k15 12 (a25_ 0)), ((q0 3), zi k3 400 f3), ((q0 2), zi k2 4800 f2), ((q0 7), zi k6 120 f6), ((q0 11), zi k10 120 f10), ((q0 5), zi k4 122880 f4), ((q0 12), zi k11 120 f11), ((q0 22), zi k16 40000 (a71_ 0)), ((q0 6), zi k5 120 f5)] := hD.sub [3, 0, 1, 10, 9, 4, 5, 6, 7, 8, 2] (by decide) rfl
            generalize H1 = H at hP hS ⊢
            clear hz1
            refine W.widen (k := 0) (n := 0) (by decide) (by decide) ?_
            have hpost : ((-1) ≤ r71_.toInt ∧ r71_.toInt ≤ 2600021) ∧ (0 ≤ (u25_ 0).toInt ∧ (u25_ 0).toInt ≤ 12) ∧ (0 ≤ (0 : Int32).toInt ∧ (0 : Int32).toInt ≤ 0) ∧ (0 ≤ (u71_ 1).toInt ∧ (u71_ 1).toInt ≤ 1) ∧ (zPr f14 (v0 18).toInt f2 f3 (v0 4).toInt f4 f6 f10 f11 (v0 13).toInt f5 x1.toInt r71_.toInt) := ⟨(by first | with_reducible assumption | exact ⟨by omega, by omega⟩), (by first | with_reducible assumption | exact ⟨by omega, by omega⟩), (by first | with_reducible assumption | exact ⟨by omega, by omega⟩), (by first | with_reducible assumption | exact ⟨by omega, by omega⟩), by first | exact zPr_y hX25_1 (by omega) (fun T V x hm hb hv => Or.inl ⟨by omega, hX71_2 T V x hm hb hv⟩) | exact zPr_y hX25_1 (by omega) (fun T V x hm hb hv => Or.inr (Or.inl ⟨by omega, by have e := hX78_2 T V x hm hb hv; have c := hX81_0 (by omega); rw [c, e, Int.toNat_natCast]⟩)) | exact zPr_y hX25_1 (by omega) (fun T V x hm hb hv => Or.inr (Or.inr (Or.inl ⟨by omega, hX87_0 T V x hm hb hv⟩))) | exact zPr_y hX25_1 (by omega) (fun T V x hm hb hv => Or.inr (Or.inr (Or.inr (Or.inl ⟨by omega, zKg_e hI96_0 (by omega) (by omega) rfl T V x hm hb hv⟩)))) | exact zPr_y hX25_1 (by omega) (fun T V x hm hb hv => Or.inr (Or.inr (Or.inr (Or.inr ⟨by omega, zAh_V hm.1 hX139_0 (by omega) hv⟩)))) | exact zPr_0 (by omega) (by omega) (by omega) hX25_1 (by omega) (by decide) | exact zPr_n (by omega) (by decide)⟩
            have hP9 : va_P (dC, dI) vwCl [(h0, .inr (13, mX13 q0 (upd (upd (upd (upd v0 20 (u25_ 0)) 21 0) 23 (u71_ 0)) 24 (u71_ 1)))), ((q0 17), zi k14 12 f14), ((q0 19), zi k15 12 (a25_ 0)), ((q0 3), zi k3 400 f3), ((q0 2), zi k2 4800 f2), ((q0 7), zi k6 120 f6), ((q0 11), zi k10 120 f10), ((q0 5), zi k4 122880 f4), ((q0 12), zi k11 120 f11), ((q0 22), zi k16 40000 (a71_ 0)), ((q0 6), zi k5 120 f5)] H := hP
            have hD9 : va_D A [(h0, .inr (13, mX13 q0 (upd (upd (upd (upd v0 20 (u25_ 0)) 21 0) 23 (u71_ 0)) 24 (u71_ 1)))), ((q0 17), zi k14 12 f14), ((q0 19), zi k15 12 (a25_ 0)), ((q0 3), zi k3 400 f3), ((q0 2), zi k2 4800 f2), ((q0 7), zi k6 120 f6), ((q0 11), zi k10 120 f10), ((q0 5), zi k4 122880 f4), ((q0 12), zi k11 120 f11), ((q0 22), zi k16 40000 (a71_ 0)), ((q0 6), zi k5 120 f5)] := hD
            exact W.iret (v := r71_) hx hb hr (fun t ht hW => ⟨⟨r71_, (fun i => ([(u25_ 0), 0, (u71_ 0), (u71_ 1)] : List (Int32)).getD i 0), rfl, hpost, (fun _ => 0), (fun i => ([(a25_ 0), (a71_ 0)] : List (Nat → Int32)).getD i (fun _ => 0)), (fun _ => (fun _ => 0)), by rw [ht]; exact hP9, va_K.moved hW.alike hK, hD9⟩, hS.F ht⟩) hS.2.2 dX13_posting_74
          · skip
            have b_ : x1.toInt ≠ 0 := fun h => c_ (zeqi.mpr (h.trans zk_0.symm))
            rcases Classical.em (x1 = (1 : Int32)) with c_ | c_
            · skip
              have b_ : x1.toInt = 1 := by rw [c_]; exact zk_1
              refine lv_tableIn (off := 38) (tgt := 75) hx hb dX13_posting_37 (by omega) (by omega) (by rw [b_]; decide) (by decide) ?_
              refine lv_aload_n hx hb dX13_posting_75 rfl (lv_at hl 1 rfl) ?_
              refine lv_iload_n hx hb dX13_posting_76 rfl (lv_at hl 0 rfl) ?_
              refine lv_iconst (v := 0) hx hb dX13_posting_77 (by decide) ?_
              have hPc := hP.sub (ws' := [(h0, .inr (13, mX13 q0 (upd (upd v0 20 (u25_ 0)) 21 0))), ((q0 7), zi k6 120 f6), ((q0 11), zi k10 120 f10), ((q0 5), zi k4 122880 f4), ((q0 12), zi k11 120 f11), ((q0 22), zi k16 40000 f16), ((q0 2), zi k2 4800 f2), ((q0 3), zi k3 400 f3)]) [0, 5, 6, 7, 8, 9, 4, 3] rfl
              have hDc := hD.sub (ws' := [(h0, .inr (13, mX13 q0 (upd (upd v0 20 (u25_ 0)) 21 0))), ((q0 7), zi k6 120 f6), ((q0 11), zi k10 120 f10), ((q0 5), zi k4 122880 f4), ((q0 12), zi k11 120 f11), ((q0 22), zi k16 40000 f16), ((q0 2), zi k2 4800 f2), ((q0 3), zi k3 400 f3)]) [0, 5, 6, 7, 8, 9, 4, 3] (by decide) rfl
              have hKc := hK.sub (tys' := [(k6, .boolean), (k10, .int), (k4, .short), (k11, .int), (k16, .byte), (k2, .byte), (k3, .int)]) [4, 5, 6, 7, 8, 3, 2] rfl
              have hFc := va_free (wc := [(h0, .inr (13, mX13 q0 (upd (upd v0 20 (u25_ 0)) 21 0))), ((q0 7), zi k6 120 f6), ((q0 11), zi k10 120 f10), ((q0 5), zi k4 122880 f4), ((q0 12), zi k11 120 f11), ((q0 22), zi k16 40000 f16), ((q0 2), zi k2 4800 f2), ((q0 3), zi k3 400 f3)]) hD hS hA [0, 5, 6, 7, 8, 9, 4, 3] rfl
              refine va_calli (va_runV (As := [.int r25_, .int 0]) (rest := []) ⟨hx, hb, hml, hown, hG⟩ (sX13_layOut_0 l dC dI adK adV h0 q0 k6 k10 k4 k11 k16 k2 k3 H.size (upd (upd v0 20 (u25_ 0)) 21 0) f6 f10 f4 f11 f16 f2 f3 r25_ 0 (zR_updF (zR_up2 hv0 20 (show (0 : Int) ≤ ((u25_ 0) : Int32).toInt ∧ ((u25_ 0) : Int32).toInt ≤ (12 : Int) from (by first | with_reducible assumption | exact ⟨by omega, by omega⟩))) 21 rfl) hf10 hf4 hf11 hf3 (show (0 : Int) ≤ (r25_ : Int32).toInt ∧ (r25_ : Int32).toInt ≤ (399 : Int) from (by first | with_reducible assumption | exact ⟨by omega, by omega⟩)) ⟨show (0 : Int) ≤ (0 : Int32).toInt from by decide, show (0 : Int32).toInt ≤ (1 : Int) from by decide⟩ (show (0 : Int32).toInt = 1 → (zB f4 f6 r25_.toInt  ((v0 13).toInt).toNat).1 ≤ 40000 from by omega)) (cwV 2 hG (zgV zv1991 zv1993 zv73 zv142 zv1994) rfl rfl rfl (by decide +kernel) ⟨Nat.le_of_ble_eq_true rfl, Nat.le_of_ble_eq_true rfl⟩) ⟨zPc_blind, va_recv hKc hPc (ci := 13) (q0 := 0) rfl rfl, zPc_pre hPc hKc hDc hE hS hFc hZ⟩ rfl rfl hl.1 rfl (lv_room (Nat.le_of_ble_eq_true rfl)) dX13_posting_78 ⟨Nat.le_of_ble_eq_true rfl, Nat.le_of_ble_eq_true rfl⟩) hS (fun q _ h => hFc q h) hFc (fun r78_ u78_ t H1 locs ht hvm hw hB hz1 hk1 hS => ?_)
              replace hw : (0 ≤ r78_.toInt ∧ r78_.toInt ≤ 2600021) ∧ (0 ≤ (u78_ 0).toInt ∧ (u78_ 0).toInt ≤ 2600021) ∧ (0 ≤ (u78_ 1).toInt ∧ (u78_ 1).toInt ≤ 1) ∧ (r78_.toInt ≤ (zB f4 f6 r25_.toInt  ((v0 13).toInt).toNat).1) ∧ (0 ≤ r78_.toInt) ∧ (zW (∀ (T : Nat → Nat → Int) (V : List Int) (x : Int), zMd f2 f3 (v0 4).toInt f4 f6 (v0 13).toInt T V → zMb f10 f11 (v0 13).toInt T → V[(r25_.toInt).toNat]? = some x → r78_.toInt = ((zPq T x ((v0 13).toInt).toNat).length : Int))) := hw
              obtain ⟨b_, b_, b_, hX78_0, hX78_1, hX78_2⟩ := hw
              obtain ⟨w78_, a78_, b78_, hP1, hK1, hD1⟩ := hB
              rw [ht] at hP1
              obtain ⟨hP, hD⟩ := va_join (wr := [((q0 17), zi k14 12 f14), ((q0 19), zi k15 12 (a25_ 0)), ((q0 6), zi k5 120 f5)]) (w1 := [(h0, .inr (13, mX13 q0 (upd (upd (upd (upd v0 20 (u25_ 0)) 21 0) 23 (u78_ 0)) 24 (u78_ 1)))), ((q0 7), zi k6 120 f6), ((q0 11), zi k10 120 f10), ((q0 5), zi k4 122880 f4), ((q0 12), zi k11 120 f11), ((q0 22), zi k16 40000 (a78_ 0)), ((q0 2), zi k2 4800 f2), ((q0 3), zi k3 400 f3)]) hP hD [0, 5, 6, 7, 8, 9, 4, 3] [1, 2, 10] rfl rfl (by decide) (by decide) hk1 hFc hP1 hD1
              have hP : va_P (dC, dI) vwCl [(h0, .inr (13, mX13 q0 (upd (upd (upd (upd v0 20 (u25_ 0)) 21 0) 23 (u78_ 0)) 24 (u78_ 1)))), ((q0 17), zi k14 12 f14), ((q0 19), zi k15 12 (a25_ 0)), ((q0 3), zi k3 400 f3), ((q0 2), zi k2 4800 f2), ((q0 7), zi k6 120 f6), ((q0 11), zi k10 120 f10), ((q0 5), zi k4 122880 f4), ((q0 12), zi k11 120 f11), ((q0 22), zi k16 40000 (a78_ 0)), ((q0 6), zi k5 120 f5)] H1 := hP.sub [3, 0, 1, 10, 9, 4, 5, 6, 7, 8, 2] rfl
              have hD : va_D A [(h0, .inr (13, mX13 q0 (upd (upd (upd (upd v0 20 (u25_ 0)) 21 0) 23 (u78_ 0)) 24 (u78_ 1)))), ((q0 17), zi k14 12 f14), ((q0 19), zi k15 12 (a25_ 0)), ((q0 3), zi k3 400 f3), ((q0 2), zi k2 4800 f2), ((q0 7), zi k6 120 f6), ((q0 11), zi k10 120 f10), ((q0 5), zi k4 122880 f4), ((q0 12), zi k11 120 f11), ((q0 22), zi k16 40000 (a78_ 0)), ((q0 6), zi k5 120 f5)] := hD.sub [3, 0, 1, 10, 9, 4, 5, 6, 7, 8, 2] (by decide) rfl
              generalize H1 = H at hP hS ⊢
              clear hz1
              have hPc := hP.sub (ws' := []) [] rfl
              have hDc := hD.sub (ws' := []) [] (by decide) rfl
              have hKc := hK.sub (tys' := []) [] rfl
              have hFc := va_free (wc := []) hD hS hA [] rfl
              refine va_calli (va_runS (As := [.int r78_]) (rest := []) ⟨hx, hb, hml, hown, hG⟩ (sX13_chunks_0 l dC dI adK adV H.size r78_ (show (0 : Int) ≤ (r78_ : Int32).toInt ∧ (r78_ : Int32).toInt ≤ (2600021 : Int) from (by first | with_reducible assumption | exact ⟨by omega, by omega⟩))) (va_cwS 1 hG (zgS zv1999 zv2000 zv142 zv2001) rfl rfl rfl (by decide +kernel) ⟨Nat.le_of_ble_eq_true rfl, Nat.le_of_ble_eq_true rfl⟩) ⟨zPc_blind, zPc_pre hPc hKc hDc hE hS hFc hZ⟩ rfl rfl hl.1 rfl (lv_room (Nat.le_of_ble_eq_true rfl)) dX13_posting_81 ⟨Nat.le_of_ble_eq_true rfl, Nat.le_of_ble_eq_true rfl⟩) hS (fun q _ h => hFc q h) hFc (fun r81_ u81_ t H1 locs ht hvm hw hB hz1 hk1 hS => ?_)
              replace hw : (0 ≤ r81_.toInt ∧ r81_.toInt ≤ 81260) ∧ (0 ≤ r78_.toInt → r81_.toInt = (znc (r78_.toInt).toNat : Int)) := hw
              obtain ⟨b_, hX81_0⟩ := hw
              obtain ⟨w81_, a81_, b81_, hP1, hK1, hD1⟩ := hB
              rw [ht] at hP1
              obtain ⟨hP, hD⟩ := va_join (wr := [(h0, .inr (13, mX13 q0 (upd (upd (upd (upd v0 20 (u25_ 0)) 21 0) 23 (u78_ 0)) 24 (u78_ 1)))), ((q0 17), zi k14 12 f14), ((q0 19), zi k15 12 (a25_ 0)), ((q0 3), zi k3 400 f3), ((q0 2), zi k2 4800 f2), ((q0 7), zi k6 120 f6), ((q0 11), zi k10 120 f10), ((q0 5), zi k4 122880 f4), ((q0 12), zi k11 120 f11), ((q0 22), zi k16 40000 (a78_ 0)), ((q0 6), zi k5 120 f5)]) (w1 := []) hP hD [] [0, 1, 2, 3, 4, 5, 6, 7, 8, 9, 10] rfl rfl (by decide) (by decide) hk1 hFc hP1 hD1
              have hP : va_P (dC, dI) vwCl [(h0, .inr (13, mX13 q0 (upd (upd (upd (upd v0 20 (u25_ 0)) 21 0) 23 (u78_ 0)) 24 (u78_ 1)))), ((q0 17), zi k14 12 f14), ((q0 19), zi k15 12 (a25_ 0)), ((q0 3), zi k3 400 f3), ((q0 2), zi k2 4800 f2), ((q0 7), zi k6 120 f6), ((q0 11), zi k10 120 f10), ((q0 5), zi k4 122880 f4), ((q0 12), zi k11 120 f11), ((q0 22), zi k16 40000 (a78_ 0)), ((q0 6), zi k5 120 f5)] H1 := hP.sub [0, 1, 2, 3, 4, 5, 6, 7, 8, 9, 10] rfl
              have hD : va_D A [(h0, .inr (13, mX13 q0 (upd (upd (upd (upd v0 20 (u25_ 0)) 21 0) 23 (u78_ 0)) 24 (u78_ 1)))), ((q0 17), zi k14 12 f14), ((q0 19), zi k15 12 (a25_ 0)), ((q0 3), zi k3 400 f3), ((q0 2), zi k2 4800 f2), ((q0 7), zi k6 120 f6), ((q0 11), zi k10 120 f10), ((q0 5), zi k4 122880 f4), ((q0 12), zi k11 120 f11), ((q0 22), zi k16 40000 (a78_ 0)), ((q0 6), zi k5 120 f5)] := hD.sub [0, 1, 2, 3, 4, 5, 6, 7, 8, 9, 10] (by decide) rfl
              generalize H1 = H at hP hS ⊢
              clear hz1
              refine W.widen (k := 0) (n := 0) (by decide) (by decide) ?_
              have hpost : ((-1) ≤ r81_.toInt ∧ r81_.toInt ≤ 2600021) ∧ (0 ≤ (u25_ 0).toInt ∧ (u25_ 0).toInt ≤ 12) ∧ (0 ≤ (0 : Int32).toInt ∧ (0 : Int32).toInt ≤ 0) ∧ (0 ≤ (u78_ 1).toInt ∧ (u78_ 1).toInt ≤ 1) ∧ (zPr f14 (v0 18).toInt f2 f3 (v0 4).toInt f4 f6 f10 f11 (v0 13).toInt f5 x1.toInt r81_.toInt) := ⟨(by first | with_reducible assumption | exact ⟨by omega, by omega⟩), (by first | with_reducible assumption | exact ⟨by omega, by omega⟩), (by first | with_reducible assumption | exact ⟨by omega, by omega⟩), (by first | with_reducible assumption | exact ⟨by omega, by omega⟩), by first | exact zPr_y hX25_1 (by omega) (fun T V x hm hb hv => Or.inl ⟨by omega, hX71_2 T V x hm hb hv⟩) | exact zPr_y hX25_1 (by omega) (fun T V x hm hb hv => Or.inr (Or.inl ⟨by omega, by have e := hX78_2 T V x hm hb hv; have c := hX81_0 (by omega); rw [c, e, Int.toNat_natCast]⟩)) | exact zPr_y hX25_1 (by omega) (fun T V x hm hb hv => Or.inr (Or.inr (Or.inl ⟨by omega, hX87_0 T V x hm hb hv⟩))) | exact zPr_y hX25_1 (by omega) (fun T V x hm hb hv => Or.inr (Or.inr (Or.inr (Or.inl ⟨by omega, zKg_e hI96_0 (by omega) (by omega) rfl T V x hm hb hv⟩)))) | exact zPr_y hX25_1 (by omega) (fun T V x hm hb hv => Or.inr (Or.inr (Or.inr (Or.inr ⟨by omega, zAh_V hm.1 hX139_0 (by omega) hv⟩)))) | exact zPr_0 (by omega) (by omega) (by omega) hX25_1 (by omega) (by decide) | exact zPr_n (by omega) (by decide)⟩
              have hP9 : va_P (dC, dI) vwCl [(h0, .inr (13, mX13 q0 (upd (upd (upd (upd v0 20 (u25_ 0)) 21 0) 23 (u78_ 0)) 24 (u78_ 1)))), ((q0 17), zi k14 12 f14), ((q0 19), zi k15 12 (a25_ 0)), ((q0 3), zi k3 400 f3), ((q0 2), zi k2 4800 f2), ((q0 7), zi k6 120 f6), ((q0 11), zi k10 120 f10), ((q0 5), zi k4 122880 f4), ((q0 12), zi k11 120 f11), ((q0 22), zi k16 40000 (a78_ 0)), ((q0 6), zi k5 120 f5)] H := hP
              have hD9 : va_D A [(h0, .inr (13, mX13 q0 (upd (upd (upd (upd v0 20 (u25_ 0)) 21 0) 23 (u78_ 0)) 24 (u78_ 1)))), ((q0 17), zi k14 12 f14), ((q0 19), zi k15 12 (a25_ 0)), ((q0 3), zi k3 400 f3), ((q0 2), zi k2 4800 f2), ((q0 7), zi k6 120 f6), ((q0 11), zi k10 120 f10), ((q0 5), zi k4 122880 f4), ((q0 12), zi k11 120 f11), ((q0 22), zi k16 40000 (a78_ 0)), ((q0 6), zi k5 120 f5)] := hD
              exact W.iret (v := r81_) hx hb hr (fun t ht hW => ⟨⟨r81_, (fun i => ([(u25_ 0), 0, (u78_ 0), (u78_ 1)] : List (Int32)).getD i 0), rfl, hpost, (fun _ => 0), (fun i => ([(a25_ 0), (a78_ 0)] : List (Nat → Int32)).getD i (fun _ => 0)), (fun _ => (fun _ => 0)), by rw [ht]; exact hP9, va_K.moved hW.alike hK, hD9⟩, hS.F ht⟩) hS.2.2 dX13_posting_84
            · skip
              have b_ : x1.toInt ≠ 1 := fun h => c_ (zeqi.mpr (h.trans zk_1.symm))
              rcases Classical.em (x1 = (2 : Int32)) with c_ | c_
              · skip
                have b_ : x1.toInt = 2 := by rw [c_]; exact zk_2
                refine lv_tableIn (off := 48) (tgt := 85) hx hb dX13_posting_37 (by omega) (by omega) (by rw [b_]; decide) (by decide) ?_
                refine lv_aload_n hx hb dX13_posting_85 rfl (lv_at hl 1 rfl) ?_
                refine lv_iload_n hx hb dX13_posting_86 rfl (lv_at hl 0 rfl) ?_
                have hPc := hP.sub (ws' := [(h0, .inr (13, mX13 q0 (upd (upd v0 20 (u25_ 0)) 21 0))), ((q0 6), zi k5 120 f5), ((q0 11), zi k10 120 f10), ((q0 5), zi k4 122880 f4), ((q0 12), zi k11 120 f11), ((q0 2), zi k2 4800 f2), ((q0 3), zi k3 400 f3), ((q0 7), zi k6 120 f6)]) [0, 10, 6, 7, 8, 4, 3, 5] rfl
                have hDc := hD.sub (ws' := [(h0, .inr (13, mX13 q0 (upd (upd v0 20 (u25_ 0)) 21 0))), ((q0 6), zi k5 120 f5), ((q0 11), zi k10 120 f10), ((q0 5), zi k4 122880 f4), ((q0 12), zi k11 120 f11), ((q0 2), zi k2 4800 f2), ((q0 3), zi k3 400 f3), ((q0 7), zi k6 120 f6)]) [0, 10, 6, 7, 8, 4, 3, 5] (by decide) rfl
                have hKc := hK.sub (tys' := [(k5, .boolean), (k10, .int), (k4, .short), (k11, .int), (k2, .byte), (k3, .int), (k6, .boolean)]) [9, 5, 6, 7, 3, 2, 4] rfl
                have hFc := va_free (wc := [(h0, .inr (13, mX13 q0 (upd (upd v0 20 (u25_ 0)) 21 0))), ((q0 6), zi k5 120 f5), ((q0 11), zi k10 120 f10), ((q0 5), zi k4 122880 f4), ((q0 12), zi k11 120 f11), ((q0 2), zi k2 4800 f2), ((q0 3), zi k3 400 f3), ((q0 7), zi k6 120 f6)]) hD hS hA [0, 10, 6, 7, 8, 4, 3, 5] rfl
                refine va_calli (va_runV (As := [.int r25_]) (rest := []) ⟨hx, hb, hml, hown, hG⟩ (sX13_holders_0 l dC dI adK adV h0 q0 k5 k10 k4 k11 k2 k3 k6 H.size (upd (upd v0 20 (u25_ 0)) 21 0) f5 f10 f4 f11 f2 f3 f6 r25_ (zR_updF (zR_up2 hv0 20 (show (0 : Int) ≤ ((u25_ 0) : Int32).toInt ∧ ((u25_ 0) : Int32).toInt ≤ (12 : Int) from (by first | with_reducible assumption | exact ⟨by omega, by omega⟩))) 21 rfl) hf10 hf4 hf11 hf3 (show (0 : Int) ≤ (r25_ : Int32).toInt ∧ (r25_ : Int32).toInt ≤ (399 : Int) from (by first | with_reducible assumption | exact ⟨by omega, by omega⟩))) (cwV 1 hG (zgV zv2002 zv2004 zv75 zv142 zv2005) rfl rfl rfl (by decide +kernel) ⟨Nat.le_of_ble_eq_true rfl, Nat.le_of_ble_eq_true rfl⟩) ⟨zPc_blind, va_recv hKc hPc (ci := 13) (q0 := 0) rfl rfl, zPc_pre hPc hKc hDc hE hS hFc hZ⟩ rfl rfl hl.1 rfl (lv_room (Nat.le_of_ble_eq_true rfl)) dX13_posting_87 ⟨Nat.le_of_ble_eq_true rfl, Nat.le_of_ble_eq_true rfl⟩) hS (fun q _ h => hFc q h) hFc (fun r87_ u87_ t H1 locs ht hvm hw hB hz1 hk1 hS => ?_)
                replace hw : (0 ≤ r87_.toInt ∧ r87_.toInt ≤ 120) ∧ (zKg zf1 f5 f2 f3 (v0 4).toInt f4 f6 f10 f11 (v0 13).toInt r25_.toInt (v0 13).toInt r87_.toInt) := hw
                obtain ⟨b_, hX87_0⟩ := hw
                obtain ⟨w87_, a87_, b87_, hP1, hK1, hD1⟩ := hB
                rw [ht] at hP1
                obtain ⟨hP, hD⟩ := va_join (wr := [((q0 17), zi k14 12 f14), ((q0 19), zi k15 12 (a25_ 0)), ((q0 22), zi k16 40000 f16)]) (w1 := [(h0, .inr (13, mX13 q0 (upd (upd v0 20 (u25_ 0)) 21 0))), ((q0 6), zi k5 120 f5), ((q0 11), zi k10 120 f10), ((q0 5), zi k4 122880 f4), ((q0 12), zi k11 120 f11), ((q0 2), zi k2 4800 f2), ((q0 3), zi k3 400 f3), ((q0 7), zi k6 120 f6)]) hP hD [0, 10, 6, 7, 8, 4, 3, 5] [1, 2, 9] rfl rfl (by decide) (by decide) hk1 hFc hP1 hD1
                have hP : va_P (dC, dI) vwCl [(h0, .inr (13, mX13 q0 (upd (upd v0 20 (u25_ 0)) 21 0))), ((q0 17), zi k14 12 f14), ((q0 19), zi k15 12 (a25_ 0)), ((q0 3), zi k3 400 f3), ((q0 2), zi k2 4800 f2), ((q0 7), zi k6 120 f6), ((q0 11), zi k10 120 f10), ((q0 5), zi k4 122880 f4), ((q0 12), zi k11 120 f11), ((q0 22), zi k16 40000 f16), ((q0 6), zi k5 120 f5)] H1 := hP.sub [3, 0, 1, 9, 8, 10, 5, 6, 7, 2, 4] rfl
                have hD : va_D A [(h0, .inr (13, mX13 q0 (upd (upd v0 20 (u25_ 0)) 21 0))), ((q0 17), zi k14 12 f14), ((q0 19), zi k15 12 (a25_ 0)), ((q0 3), zi k3 400 f3), ((q0 2), zi k2 4800 f2), ((q0 7), zi k6 120 f6), ((q0 11), zi k10 120 f10), ((q0 5), zi k4 122880 f4), ((q0 12), zi k11 120 f11), ((q0 22), zi k16 40000 f16), ((q0 6), zi k5 120 f5)] := hD.sub [3, 0, 1, 9, 8, 10, 5, 6, 7, 2, 4] (by decide) rfl
                generalize H1 = H at hP hS ⊢
                clear hz1
                refine W.widen (k := 0) (n := 0) (by decide) (by decide) ?_
                have b_ : -2147483648 ≤ (v0 23).toInt ∧ (v0 23).toInt ≤ 2147483647 := ⟨zlo _, zhi _⟩
                have b_ : 0 ≤ (v0 24).toInt ∧ (v0 24).toInt ≤ 1 := hv0 24
                have hpost : ((-1) ≤ r87_.toInt ∧ r87_.toInt ≤ 2600021) ∧ (0 ≤ (u25_ 0).toInt ∧ (u25_ 0).toInt ≤ 12) ∧ (0 ≤ (0 : Int32).toInt ∧ (0 : Int32).toInt ≤ 0) ∧ (0 ≤ (v0 24).toInt ∧ (v0 24).toInt ≤ 1) ∧ (zPr f14 (v0 18).toInt f2 f3 (v0 4).toInt f4 f6 f10 f11 (v0 13).toInt f5 x1.toInt r87_.toInt) := ⟨(by first | with_reducible assumption | exact ⟨by omega, by omega⟩), (by first | with_reducible assumption | exact ⟨by omega, by omega⟩), (by first | with_reducible assumption | exact ⟨by omega, by omega⟩), (by first | with_reducible assumption | exact ⟨by omega, by omega⟩), by first | exact zPr_y hX25_1 (by omega) (fun T V x hm hb hv => Or.inl ⟨by omega, hX71_2 T V x hm hb hv⟩) | exact zPr_y hX25_1 (by omega) (fun T V x hm hb hv => Or.inr (Or.inl ⟨by omega, by have e := hX78_2 T V x hm hb hv; have c := hX81_0 (by omega); rw [c, e, Int.toNat_natCast]⟩)) | exact zPr_y hX25_1 (by omega) (fun T V x hm hb hv => Or.inr (Or.inr (Or.inl ⟨by omega, hX87_0 T V x hm hb hv⟩))) | exact zPr_y hX25_1 (by omega) (fun T V x hm hb hv => Or.inr (Or.inr (Or.inr (Or.inl ⟨by omega, zKg_e hI96_0 (by omega) (by omega) rfl T V x hm hb hv⟩)))) | exact zPr_y hX25_1 (by omega) (fun T V x hm hb hv => Or.inr (Or.inr (Or.inr (Or.inr ⟨by omega, zAh_V hm.1 hX139_0 (by omega) hv⟩)))) | exact zPr_0 (by omega) (by omega) (by omega) hX25_1 (by omega) (by decide) | exact zPr_n (by omega) (by decide)⟩
                have hP9 : va_P (dC, dI) vwCl [(h0, .inr (13, mX13 q0 (upd (upd (upd (upd v0 20 (u25_ 0)) 21 0) 23 (v0 23)) 24 (v0 24)))), ((q0 17), zi k14 12 f14), ((q0 19), zi k15 12 (a25_ 0)), ((q0 3), zi k3 400 f3), ((q0 2), zi k2 4800 f2), ((q0 7), zi k6 120 f6), ((q0 11), zi k10 120 f10), ((q0 5), zi k4 122880 f4), ((q0 12), zi k11 120 f11), ((q0 22), zi k16 40000 f16), ((q0 6), zi k5 120 f5)] H := hP
                have hD9 : va_D A [(h0, .inr (13, mX13 q0 (upd (upd (upd (upd v0 20 (u25_ 0)) 21 0) 23 (v0 23)) 24 (v0 24)))), ((q0 17), zi k14 12 f14), ((q0 19), zi k15 12 (a25_ 0)), ((q0 3), zi k3 400 f3), ((q0 2), zi k2 4800 f2), ((q0 7), zi k6 120 f6), ((q0 11), zi k10 120 f10), ((q0 5), zi k4 122880 f4), ((q0 12), zi k11 120 f11), ((q0 22), zi k16 40000 f16), ((q0 6), zi k5 120 f5)] := hD
                exact W.iret (v := r87_) hx hb hr (fun t ht hW => ⟨⟨r87_, (fun i => ([(u25_ 0), 0, (v0 23), (v0 24)] : List (Int32)).getD i 0), rfl, hpost, (fun _ => 0), (fun i => ([(a25_ 0), f16] : List (Nat → Int32)).getD i (fun _ => 0)), (fun _ => (fun _ => 0)), by rw [ht]; exact hP9, va_K.moved hW.alike hK, hD9⟩, hS.F ht⟩) hS.2.2 dX13_posting_90
              · skip
                have b_ : x1.toInt ≠ 2 := fun h => c_ (zeqi.mpr (h.trans zk_2.symm))
                rcases Classical.em (x1 = (3 : Int32)) with c_ | c_
                · skip
                  have b_ : x1.toInt = 3 := by rw [c_]; exact zk_3
                  refine lv_tableIn (off := 54) (tgt := 91) hx hb dX13_posting_37 (by omega) (by omega) (by rw [b_]; decide) (by decide) ?_
                  refine lv_iconst (v := 0) hx hb dX13_posting_91 (by decide) ?_
                  refine lv_istore_n (lv' := [(3, .int 0), (2, .int r25_), (0, .ref h0), (1, .int x1)]) hx hb dX13_posting_92 rfl hl (by decide) rfl (fun ls hl => ?_)
                  refine lv_iconst (v := 0) hx hb dX13_posting_93 (by decide) ?_
                  refine lv_istore (lv' := [(4, .int 0), (3, .int 0), (2, .int r25_), (0, .ref h0), (1, .int x1)]) hx hb dX13_posting_94 hl (by decide) rfl (fun ls hl => ?_)
                  refine zcutL (fun u96_ => (120 - (u96_ 1).toInt).toNat) (fun H locs ls u96_ w96_ a96_ b96_ => va_P (dC, dI) vwCl [(h0, .inr (13, mX13 q0 (upd (upd v0 20 (u25_ 0)) 21 0))), ((q0 17), zi k14 12 f14), ((q0 19), zi k15 12 (a25_ 0)), ((q0 3), zi k3 400 f3), ((q0 2), zi k2 4800 f2), ((q0 7), zi k6 120 f6), ((q0 11), zi k10 120 f10), ((q0 5), zi k4 122880 f4), ((q0 12), zi k11 120 f11), ((q0 22), zi k16 40000 f16), ((q0 6), zi k5 120 f5)] H ∧ va_D A [(h0, .inr (13, mX13 q0 (upd (upd v0 20 (u25_ 0)) 21 0))), ((q0 17), zi k14 12 f14), ((q0 19), zi k15 12 (a25_ 0)), ((q0 3), zi k3 400 f3), ((q0 2), zi k2 4800 f2), ((q0 7), zi k6 120 f6), ((q0 11), zi k10 120 f10), ((q0 5), zi k4 122880 f4), ((q0 12), zi k11 120 f11), ((q0 22), zi k16 40000 f16), ((q0 6), zi k5 120 f5)] ∧ va_S A s.heap H locs ∧ lv_has ls 5 [(0, .ref h0), (1, .int x1), (2, .int r25_), (3, .int (u96_ 0)), (4, .int (u96_ 1))] ∧ (0 ≤ (u96_ 0).toInt ∧ (u96_ 0).toInt ≤ 122880) ∧ (0 ≤ (u96_ 1).toInt ∧ (u96_ 1).toInt ≤ 120) ∧ (zKg zf2 f5 f2 f3 (v0 4).toInt f4 f6 f10 f11 (v0 13).toInt r25_.toInt (u96_ 1).toInt (u96_ 0).toInt) ∧ ((u96_ 1).toInt ≤ (v0 13).toInt) ∧ ((u96_ 0).toInt ≤ 1024 * (u96_ 1).toInt) ∧ (0 ≤ (u96_ 0).toInt)) (fun ls u96_ w96_ => F0 m 96 ls []) 0 0 ?_ (fun hJ96 => ?_)
                  · skip
                    intro H locs ls u96_ w96_ a96_ b96_ hc hJ96
                    obtain ⟨hP, hD, hS, hl, b_, b_, hI96_0, b_, b_, b_⟩ := hc
                    refine lv_iload hx hb dX13_posting_96 (lv_at hl 4 rfl) ?_
                    refine lv_aload_n hx hb dX13_posting_98 rfl (lv_at hl 0 rfl) ?_
                    refine va_get (D := (dC, dI)) (ci := 13) (v := .int (v0 13)) (C := RX13) (T := TX13) (N := 75) hx hb hG zuX13 hown hK hP 0 rfl rfl 13 (by decide) (hG _ zv1617) (fun _ h9 => h9) rfl dX13_posting_99 ?_
                    refine lv_icmp_ge (tgt := 135) hx hb dX13_posting_102 (by decide) (fun c_ => ?_) (fun c_ => ?_)
                    · skip
                      have b_ := zT_ge rfl rfl c_
                      refine lv_iload_n hx hb dX13_posting_135 rfl (lv_at hl 3 rfl) ?_
                      refine W.widen (k := 0) (n := 0) (by decide) (by decide) ?_
                      have b_ : -2147483648 ≤ (v0 23).toInt ∧ (v0 23).toInt ≤ 2147483647 := ⟨zlo _, zhi _⟩
                      have b_ : 0 ≤ (v0 24).toInt ∧ (v0 24).toInt ≤ 1 := hv0 24
                      have hpost : ((-1) ≤ (u96_ 0).toInt ∧ (u96_ 0).toInt ≤ 2600021) ∧ (0 ≤ (u25_ 0).toInt ∧ (u25_ 0).toInt ≤ 12) ∧ (0 ≤ (0 : Int32).toInt ∧ (0 : Int32).toInt ≤ 0) ∧ (0 ≤ (v0 24).toInt ∧ (v0 24).toInt ≤ 1) ∧ (zPr f14 (v0 18).toInt f2 f3 (v0 4).toInt f4 f6 f10 f11 (v0 13).toInt f5 x1.toInt (u96_ 0).toInt) := ⟨(by first | with_reducible assumption | exact ⟨by omega, by omega⟩), (by first | with_reducible assumption | exact ⟨by omega, by omega⟩), (by first | with_reducible assumption | exact ⟨by omega, by omega⟩), (by first | with_reducible assumption | exact ⟨by omega, by omega⟩), by first | exact zPr_y hX25_1 (by omega) (fun T V x hm hb hv => Or.inl ⟨by omega, hX71_2 T V x hm hb hv⟩) | exact zPr_y hX25_1 (by omega) (fun T V x hm hb hv => Or.inr (Or.inl ⟨by omega, by have e := hX78_2 T V x hm hb hv; have c := hX81_0 (by omega); rw [c, e, Int.toNat_natCast]⟩)) | exact zPr_y hX25_1 (by omega) (fun T V x hm hb hv => Or.inr (Or.inr (Or.inl ⟨by omega, hX87_0 T V x hm hb hv⟩))) | exact zPr_y hX25_1 (by omega) (fun T V x hm hb hv => Or.inr (Or.inr (Or.inr (Or.inl ⟨by omega, zKg_e hI96_0 (by omega) (by omega) rfl T V x hm hb hv⟩)))) | exact zPr_y hX25_1 (by omega) (fun T V x hm hb hv => Or.inr (Or.inr (Or.inr (Or.inr ⟨by omega, zAh_V hm.1 hX139_0 (by omega) hv⟩)))) | exact zPr_0 (by omega) (by omega) (by omega) hX25_1 (by omega) (by decide) | exact zPr_n (by omega) (by decide)⟩
                      have hP9 : va_P (dC, dI) vwCl [(h0, .inr (13, mX13 q0 (upd (upd (upd (upd v0 20 (u25_ 0)) 21 0) 23 (v0 23)) 24 (v0 24)))), ((q0 17), zi k14 12 f14), ((q0 19), zi k15 12 (a25_ 0)), ((q0 3), zi k3 400 f3), ((q0 2), zi k2 4800 f2), ((q0 7), zi k6 120 f6), ((q0 11), zi k10 120 f10), ((q0 5), zi k4 122880 f4), ((q0 12), zi k11 120 f11), ((q0 22), zi k16 40000 f16), ((q0 6), zi k5 120 f5)] H := hP
                      have hD9 : va_D A [(h0, .inr (13, mX13 q0 (upd (upd (upd (upd v0 20 (u25_ 0)) 21 0) 23 (v0 23)) 24 (v0 24)))), ((q0 17), zi k14 12 f14), ((q0 19), zi k15 12 (a25_ 0)), ((q0 3), zi k3 400 f3), ((q0 2), zi k2 4800 f2), ((q0 7), zi k6 120 f6), ((q0 11), zi k10 120 f10), ((q0 5), zi k4 122880 f4), ((q0 12), zi k11 120 f11), ((q0 22), zi k16 40000 f16), ((q0 6), zi k5 120 f5)] := hD
                      exact W.iret (v := (u96_ 0)) hx hb hr (fun t ht hW => ⟨⟨(u96_ 0), (fun i => ([(u25_ 0), 0, (v0 23), (v0 24)] : List (Int32)).getD i 0), rfl, hpost, (fun _ => 0), (fun i => ([(a25_ 0), f16] : List (Nat → Int32)).getD i (fun _ => 0)), (fun _ => (fun _ => 0)), by rw [ht]; exact hP9, va_K.moved hW.alike hK, hD9⟩, hS.F ht⟩) hS.2.2 dX13_posting_136
                    · skip
                      have b_ := zF_ge rfl rfl c_
                      refine lv_iload_n hx hb dX13_posting_105 rfl (lv_at hl 3 rfl) ?_
                      refine lv_aload_n hx hb dX13_posting_106 rfl (lv_at hl 0 rfl) ?_
                      refine va_get (D := (dC, dI)) (ci := 13) (v := .ref (q0 6)) (C := RX13) (T := TX13) (N := 75) hx hb hG zuX13 hown hK hP 0 rfl rfl 6 (by decide) (hG _ zv1610) (fun _ h9 => h9) rfl dX13_posting_107 ?_
                      refine lv_iload hx hb dX13_posting_110 (lv_at hl 4 rfl) ?_
                      refine va_zald hx hb hK hP 10 9 rfl rfl (zin_lit ⟨by omega, by omega⟩) dX13_posting_112 ?_
                      refine lv_topi (fun z112 e_z112 => ?_)
                      have b_ : -2147483648 ≤ z112.toInt ∧ z112.toInt ≤ 2147483647 := ⟨zlo _, zhi _⟩
                      refine lv_if_eq (tgt := 126) hx hb dX13_posting_113 (by decide) (fun c_ => ?_) (fun c_ => ?_)
                      · skip
                        have b_ := zT_eq rfl zk_0 c_
                        refine lv_iconst (v := 0) hx hb dX13_posting_126 (by decide) ?_
                        refine lv_iadd hx hb dX13_posting_127 ?_
                        refine lv_topi (fun z127 e_z127 => ?_)
                        have b_ := zadd rfl zk_0 e_z127 (by omega) (by omega)
                        refine lv_istore_n (lv' := [(3, .int z127), (0, .ref h0), (1, .int x1), (2, .int r25_), (4, .int (u96_ 1))]) hx hb dX13_posting_128 rfl hl (by decide) rfl (fun ls hl => ?_)
                        obtain ⟨z129, e_z129⟩ : ∃ z : Int32, z = (u96_ 1) + Int32.ofInt 1 := ⟨_, rfl⟩
                        have b_ := zadd (x := (u96_ 1)) (y := Int32.ofInt 1) rfl (show (Int32.ofInt 1).toInt = 1 from by decide) e_z129 (by omega) (by omega)
                        refine lv_iinc (v := z129) (lv' := [(4, .int z129), (3, .int z127), (0, .ref h0), (1, .int x1), (2, .int r25_)]) hx hb dX13_posting_129 hl (k := 4) rfl e_z129.symm (by decide) rfl (fun ls hl => ?_)
                        have hkg : zKg zf2 f5 f2 f3 (v0 4).toInt f4 f6 f10 f11 (v0 13).toInt r25_.toInt z129.toInt z127.toInt := zKg_n zf2_b hI96_0 (by omega) (by rw [← e_z112]; omega) (by omega) (by omega)
                        refine lv_goto (tgt := 96) hx hb dX13_posting_132 (by decide) ?_
                        have hc : va_P (dC, dI) vwCl [(h0, .inr (13, mX13 q0 (upd (upd v0 20 (u25_ 0)) 21 0))), ((q0 17), zi k14 12 f14), ((q0 19), zi k15 12 (a25_ 0)), ((q0 3), zi k3 400 f3), ((q0 2), zi k2 4800 f2), ((q0 7), zi k6 120 f6), ((q0 11), zi k10 120 f10), ((q0 5), zi k4 122880 f4), ((q0 12), zi k11 120 f11), ((q0 22), zi k16 40000 f16), ((q0 6), zi k5 120 f5)] H ∧ va_D A [(h0, .inr (13, mX13 q0 (upd (upd v0 20 (u25_ 0)) 21 0))), ((q0 17), zi k14 12 f14), ((q0 19), zi k15 12 (a25_ 0)), ((q0 3), zi k3 400 f3), ((q0 2), zi k2 4800 f2), ((q0 7), zi k6 120 f6), ((q0 11), zi k10 120 f10), ((q0 5), zi k4 122880 f4), ((q0 12), zi k11 120 f11), ((q0 22), zi k16 40000 f16), ((q0 6), zi k5 120 f5)] ∧ va_S A s.heap H locs ∧ lv_has ls 5 [(0, .ref h0), (1, .int x1), (2, .int r25_), (3, .int z127), (4, .int z129)] ∧ (0 ≤ z127.toInt ∧ z127.toInt ≤ 122880) ∧ (0 ≤ z129.toInt ∧ z129.toInt ≤ 120) ∧ (zKg zf2 f5 f2 f3 (v0 4).toInt f4 f6 f10 f11 (v0 13).toInt r25_.toInt z129.toInt z127.toInt) ∧ (z129.toInt ≤ (v0 13).toInt) ∧ (z127.toInt ≤ 1024 * z129.toInt) ∧ (0 ≤ z127.toInt) := ⟨hP, hD, hS, lv_sub hl [2, 3, 4, 1, 0] rfl, (by first | with_reducible assumption | exact ⟨by omega, by omega⟩), (by first | with_reducible assumption | exact ⟨by omega, by omega⟩), by first | exact hkg | exact zKg_0 (by decide) (by decide), by omega, by omega, by omega⟩
                        exact hJ96 H locs ls (fun i => ([z127, z129] : List (Int32)).getD i 0) (fun _ => 0) (fun _ => (fun _ => 0)) (fun _ => (fun _ => 0)) hc (show (120 - z129.toInt).toNat < (120 - (u96_ 1).toInt).toNat from by omega)
                      · skip
                        have b_ := zF_eq rfl zk_0 c_
                        refine lv_aload_n hx hb dX13_posting_116 rfl (lv_at hl 0 rfl) ?_
                        refine lv_iload hx hb dX13_posting_117 (lv_at hl 4 rfl) ?_
                        refine lv_iload_n hx hb dX13_posting_119 rfl (lv_at hl 2 rfl) ?_
                        have hPc := hP.sub (ws' := [(h0, .inr (13, mX13 q0 (upd (upd v0 20 (u25_ 0)) 21 0))), ((q0 11), zi k10 120 f10), ((q0 5), zi k4 122880 f4), ((q0 12), zi k11 120 f11)]) [0, 6, 7, 8] rfl
                        have hDc := hD.sub (ws' := [(h0, .inr (13, mX13 q0 (upd (upd v0 20 (u25_ 0)) 21 0))), ((q0 11), zi k10 120 f10), ((q0 5), zi k4 122880 f4), ((q0 12), zi k11 120 f11)]) [0, 6, 7, 8] (by decide) rfl
                        have hKc := hK.sub (tys' := [(k10, .int), (k4, .short), (k11, .int)]) [5, 6, 7] rfl
                        have hFc := va_free (wc := [(h0, .inr (13, mX13 q0 (upd (upd v0 20 (u25_ 0)) 21 0))), ((q0 11), zi k10 120 f10), ((q0 5), zi k4 122880 f4), ((q0 12), zi k11 120 f11)]) hD hS hA [0, 6, 7, 8] rfl
                        refine va_calli (va_runV (As := [.int (u96_ 1), .int r25_]) (rest := [.int (u96_ 0)]) ⟨hx, hb, hml, hown, hG⟩ (sX13_timesOf_0 l dC dI adK adV h0 q0 k10 k4 k11 H.size (upd (upd v0 20 (u25_ 0)) 21 0) f10 f4 f11 (u96_ 1) r25_ (zR_updF (zR_up2 hv0 20 (show (0 : Int) ≤ ((u25_ 0) : Int32).toInt ∧ ((u25_ 0) : Int32).toInt ≤ (12 : Int) from (by first | with_reducible assumption | exact ⟨by omega, by omega⟩))) 21 rfl) hf10 hf4 hf11 (show (0 : Int) ≤ ((u96_ 1) : Int32).toInt ∧ ((u96_ 1) : Int32).toInt ≤ (119 : Int) from (by first | with_reducible assumption | exact ⟨by omega, by omega⟩)) (show (0 : Int) ≤ (r25_ : Int32).toInt ∧ (r25_ : Int32).toInt ≤ (399 : Int) from (by first | with_reducible assumption | exact ⟨by omega, by omega⟩))) (cwV 2 hG (zgV zv1979 zv1981 zv71 zv142 zv1982) rfl rfl rfl (by decide +kernel) ⟨Nat.le_of_ble_eq_true rfl, Nat.le_of_ble_eq_true rfl⟩) ⟨zPc_blind, va_recv hKc hPc (ci := 13) (q0 := 0) rfl rfl, zPc_pre hPc hKc hDc hE hS hFc hZ⟩ rfl rfl hl.1 rfl (lv_room (Nat.le_of_ble_eq_true rfl)) dX13_posting_120 ⟨Nat.le_of_ble_eq_true rfl, Nat.le_of_ble_eq_true rfl⟩) hS (fun q _ h => hFc q h) hFc (fun r120_ u120_ t H1 locs ht hvm hw hB hz1 hk1 hS => ?_)
                        replace hw : (0 ≤ r120_.toInt ∧ r120_.toInt ≤ 1024) ∧ (r120_.toInt ≤ (zp f4 (u96_ 1).toInt r25_.toInt 1024).1) ∧ (zTf f4 f10 f11 ((u96_ 1) : Int32) r25_.toInt r120_.toInt) := hw
                        obtain ⟨b_, hX120_0, hX120_1⟩ := hw
                        obtain ⟨w120_, a120_, b120_, hP1, hK1, hD1⟩ := hB
                        rw [ht] at hP1
                        obtain ⟨hP, hD⟩ := va_join (wr := [((q0 17), zi k14 12 f14), ((q0 19), zi k15 12 (a25_ 0)), ((q0 3), zi k3 400 f3), ((q0 2), zi k2 4800 f2), ((q0 7), zi k6 120 f6), ((q0 22), zi k16 40000 f16), ((q0 6), zi k5 120 f5)]) (w1 := [(h0, .inr (13, mX13 q0 (upd (upd v0 20 (u25_ 0)) 21 0))), ((q0 11), zi k10 120 f10), ((q0 5), zi k4 122880 f4), ((q0 12), zi k11 120 f11)]) hP hD [0, 6, 7, 8] [1, 2, 3, 4, 5, 9, 10] rfl rfl (by decide) (by decide) hk1 hFc hP1 hD1
                        have hP : va_P (dC, dI) vwCl [(h0, .inr (13, mX13 q0 (upd (upd v0 20 (u25_ 0)) 21 0))), ((q0 17), zi k14 12 f14), ((q0 19), zi k15 12 (a25_ 0)), ((q0 3), zi k3 400 f3), ((q0 2), zi k2 4800 f2), ((q0 7), zi k6 120 f6), ((q0 11), zi k10 120 f10), ((q0 5), zi k4 122880 f4), ((q0 12), zi k11 120 f11), ((q0 22), zi k16 40000 f16), ((q0 6), zi k5 120 f5)] H1 := hP.sub [7, 0, 1, 2, 3, 4, 8, 9, 10, 5, 6] rfl
                        have hD : va_D A [(h0, .inr (13, mX13 q0 (upd (upd v0 20 (u25_ 0)) 21 0))), ((q0 17), zi k14 12 f14), ((q0 19), zi k15 12 (a25_ 0)), ((q0 3), zi k3 400 f3), ((q0 2), zi k2 4800 f2), ((q0 7), zi k6 120 f6), ((q0 11), zi k10 120 f10), ((q0 5), zi k4 122880 f4), ((q0 12), zi k11 120 f11), ((q0 22), zi k16 40000 f16), ((q0 6), zi k5 120 f5)] := hD.sub [7, 0, 1, 2, 3, 4, 8, 9, 10, 5, 6] (by decide) rfl
                        generalize H1 = H at hP hS ⊢
                        clear hz1
                        refine lv_goto (tgt := 127) hx hb dX13_posting_123 (by decide) ?_
                        refine lv_iadd hx hb dX13_posting_127 ?_
                        refine lv_topi (fun z127 e_z127 => ?_)
                        have b_ := zadd rfl rfl e_z127 (by omega) (by omega)
                        refine lv_istore_n (lv' := [(3, .int z127), (0, .ref h0), (1, .int x1), (2, .int r25_), (4, .int (u96_ 1))]) hx hb dX13_posting_128 rfl hl (by decide) rfl (fun ls hl => ?_)
                        obtain ⟨z129, e_z129⟩ : ∃ z : Int32, z = (u96_ 1) + Int32.ofInt 1 := ⟨_, rfl⟩
                        have b_ := zadd (x := (u96_ 1)) (y := Int32.ofInt 1) rfl (show (Int32.ofInt 1).toInt = 1 from by decide) e_z129 (by omega) (by omega)
                        refine lv_iinc (v := z129) (lv' := [(4, .int z129), (3, .int z127), (0, .ref h0), (1, .int x1), (2, .int r25_)]) hx hb dX13_posting_129 hl (k := 4) rfl e_z129.symm (by decide) rfl (fun ls hl => ?_)
                        have hkg : zKg zf2 f5 f2 f3 (v0 4).toInt f4 f6 f10 f11 (v0 13).toInt r25_.toInt z129.toInt z127.toInt := zKg_t zf2_b hI96_0 (by omega) (by omega) (by omega) (by omega) (by rw [← e_z112]; omega) hX120_1 (by omega) (fun q1 q2 q3 q4 => by unfold zf2; omega)
                        refine lv_goto (tgt := 96) hx hb dX13_posting_132 (by decide) ?_
                        have hc : va_P (dC, dI) vwCl [(h0, .inr (13, mX13 q0 (upd (upd v0 20 (u25_ 0)) 21 0))), ((q0 17), zi k14 12 f14), ((q0 19), zi k15 12 (a25_ 0)), ((q0 3), zi k3 400 f3), ((q0 2), zi k2 4800 f2), ((q0 7), zi k6 120 f6), ((q0 11), zi k10 120 f10), ((q0 5), zi k4 122880 f4), ((q0 12), zi k11 120 f11), ((q0 22), zi k16 40000 f16), ((q0 6), zi k5 120 f5)] H ∧ va_D A [(h0, .inr (13, mX13 q0 (upd (upd v0 20 (u25_ 0)) 21 0))), ((q0 17), zi k14 12 f14), ((q0 19), zi k15 12 (a25_ 0)), ((q0 3), zi k3 400 f3), ((q0 2), zi k2 4800 f2), ((q0 7), zi k6 120 f6), ((q0 11), zi k10 120 f10), ((q0 5), zi k4 122880 f4), ((q0 12), zi k11 120 f11), ((q0 22), zi k16 40000 f16), ((q0 6), zi k5 120 f5)] ∧ va_S A s.heap H locs ∧ lv_has ls 5 [(0, .ref h0), (1, .int x1), (2, .int r25_), (3, .int z127), (4, .int z129)] ∧ (0 ≤ z127.toInt ∧ z127.toInt ≤ 122880) ∧ (0 ≤ z129.toInt ∧ z129.toInt ≤ 120) ∧ (zKg zf2 f5 f2 f3 (v0 4).toInt f4 f6 f10 f11 (v0 13).toInt r25_.toInt z129.toInt z127.toInt) ∧ (z129.toInt ≤ (v0 13).toInt) ∧ (z127.toInt ≤ 1024 * z129.toInt) ∧ (0 ≤ z127.toInt) := ⟨hP, hD, hS, lv_sub hl [2, 3, 4, 1, 0] rfl, (by first | with_reducible assumption | exact ⟨by omega, by omega⟩), (by first | with_reducible assumption | exact ⟨by omega, by omega⟩), by first | exact hkg | exact zKg_0 (by decide) (by decide), by omega, by omega, by omega⟩
                        exact hJ96 H locs ls (fun i => ([z127, z129] : List (Int32)).getD i 0) (fun _ => 0) (fun _ => (fun _ => 0)) (fun _ => (fun _ => 0)) hc (show (120 - z129.toInt).toNat < (120 - (u96_ 1).toInt).toNat from by omega)
                  · skip
                    have hc : va_P (dC, dI) vwCl [(h0, .inr (13, mX13 q0 (upd (upd v0 20 (u25_ 0)) 21 0))), ((q0 17), zi k14 12 f14), ((q0 19), zi k15 12 (a25_ 0)), ((q0 3), zi k3 400 f3), ((q0 2), zi k2 4800 f2), ((q0 7), zi k6 120 f6), ((q0 11), zi k10 120 f10), ((q0 5), zi k4 122880 f4), ((q0 12), zi k11 120 f11), ((q0 22), zi k16 40000 f16), ((q0 6), zi k5 120 f5)] H ∧ va_D A [(h0, .inr (13, mX13 q0 (upd (upd v0 20 (u25_ 0)) 21 0))), ((q0 17), zi k14 12 f14), ((q0 19), zi k15 12 (a25_ 0)), ((q0 3), zi k3 400 f3), ((q0 2), zi k2 4800 f2), ((q0 7), zi k6 120 f6), ((q0 11), zi k10 120 f10), ((q0 5), zi k4 122880 f4), ((q0 12), zi k11 120 f11), ((q0 22), zi k16 40000 f16), ((q0 6), zi k5 120 f5)] ∧ va_S A s.heap H locs ∧ lv_has ls 5 [(0, .ref h0), (1, .int x1), (2, .int r25_), (3, .int 0), (4, .int 0)] ∧ (0 ≤ (0 : Int32).toInt ∧ (0 : Int32).toInt ≤ 122880) ∧ (0 ≤ (0 : Int32).toInt ∧ (0 : Int32).toInt ≤ 120) ∧ (zKg zf2 f5 f2 f3 (v0 4).toInt f4 f6 f10 f11 (v0 13).toInt r25_.toInt (0 : Int32).toInt (0 : Int32).toInt) ∧ ((0 : Int32).toInt ≤ (v0 13).toInt) ∧ ((0 : Int32).toInt ≤ 1024 * (0 : Int32).toInt) ∧ (0 ≤ (0 : Int32).toInt) := ⟨hP, hD, hS, lv_sub hl [3, 4, 2, 1, 0] rfl, (by first | with_reducible assumption | exact ⟨by omega, by omega⟩), (by first | with_reducible assumption | exact ⟨by omega, by omega⟩), by first | exact hkg | exact zKg_0 (by decide) (by decide), by omega, by omega, by omega⟩
                    exact hJ96 H locs ls (fun i => ([0, 0] : List (Int32)).getD i 0) (fun _ => 0) (fun _ => (fun _ => 0)) (fun _ => (fun _ => 0)) hc
                · skip
                  have b_ : x1.toInt ≠ 3 := fun h => c_ (zeqi.mpr (h.trans zk_3.symm))
                  refine lv_tableOut (tgt := 137) hx hb dX13_posting_37 (by omega) (by decide) ?_
                  refine lv_aload_n hx hb dX13_posting_137 rfl (lv_at hl 1 rfl) ?_
                  refine lv_iload_n hx hb dX13_posting_138 rfl (lv_at hl 0 rfl) ?_
                  have hPc := hP.sub (ws' := [(h0, .inr (13, mX13 q0 (upd (upd v0 20 (u25_ 0)) 21 0))), ((q0 3), zi k3 400 f3), ((q0 2), zi k2 4800 f2)]) [0, 3, 4] rfl
                  have hDc := hD.sub (ws' := [(h0, .inr (13, mX13 q0 (upd (upd v0 20 (u25_ 0)) 21 0))), ((q0 3), zi k3 400 f3), ((q0 2), zi k2 4800 f2)]) [0, 3, 4] (by decide) rfl
                  have hKc := hK.sub (tys' := [(k3, .int), (k2, .byte)]) [2, 3] rfl
                  have hFc := va_free (wc := [(h0, .inr (13, mX13 q0 (upd (upd v0 20 (u25_ 0)) 21 0))), ((q0 3), zi k3 400 f3), ((q0 2), zi k2 4800 f2)]) hD hS hA [0, 3, 4] rfl
                  refine va_calli (va_runV (As := [.int r25_]) (rest := []) ⟨hx, hb, hml, hown, hG⟩ (sX13_ahead_0 l dC dI adK adV h0 q0 k3 k2 H.size (upd (upd v0 20 (u25_ 0)) 21 0) f3 f2 r25_ (zR_updF (zR_up2 hv0 20 (show (0 : Int) ≤ ((u25_ 0) : Int32).toInt ∧ ((u25_ 0) : Int32).toInt ≤ (12 : Int) from (by first | with_reducible assumption | exact ⟨by omega, by omega⟩))) 21 rfl) hf3 (show (0 : Int) ≤ (r25_ : Int32).toInt ∧ (r25_ : Int32).toInt ≤ (399 : Int) from (by first | with_reducible assumption | exact ⟨by omega, by omega⟩))) (cwV 1 hG (zgV zv2006 zv2008 zv76 zv142 zv2009) rfl rfl rfl (by decide +kernel) ⟨Nat.le_of_ble_eq_true rfl, Nat.le_of_ble_eq_true rfl⟩) ⟨zPc_blind, va_recv hKc hPc (ci := 13) (q0 := 0) rfl rfl, zPc_pre hPc hKc hDc hE hS hFc hZ⟩ rfl rfl hl.1 rfl (lv_room (Nat.le_of_ble_eq_true rfl)) dX13_posting_139 ⟨Nat.le_of_ble_eq_true rfl, Nat.le_of_ble_eq_true rfl⟩) hS (fun q _ h => hFc q h) hFc (fun r139_ u139_ t H1 locs ht hvm hw hB hz1 hk1 hS => ?_)
                  replace hw : (0 ≤ r139_.toInt ∧ r139_.toInt ≤ 400) ∧ (zAh f2 f3 (v0 4).toInt r25_.toInt (v0 4).toInt r139_.toInt) := hw
                  obtain ⟨b_, hX139_0⟩ := hw
                  obtain ⟨w139_, a139_, b139_, hP1, hK1, hD1⟩ := hB
                  rw [ht] at hP1
                  obtain ⟨hP, hD⟩ := va_join (wr := [((q0 17), zi k14 12 f14), ((q0 19), zi k15 12 (a25_ 0)), ((q0 7), zi k6 120 f6), ((q0 11), zi k10 120 f10), ((q0 5), zi k4 122880 f4), ((q0 12), zi k11 120 f11), ((q0 22), zi k16 40000 f16), ((q0 6), zi k5 120 f5)]) (w1 := [(h0, .inr (13, mX13 q0 (upd (upd v0 20 (u25_ 0)) 21 0))), ((q0 3), zi k3 400 f3), ((q0 2), zi k2 4800 f2)]) hP hD [0, 3, 4] [1, 2, 5, 6, 7, 8, 9, 10] rfl rfl (by decide) (by decide) hk1 hFc hP1 hD1
                  have hP : va_P (dC, dI) vwCl [(h0, .inr (13, mX13 q0 (upd (upd v0 20 (u25_ 0)) 21 0))), ((q0 17), zi k14 12 f14), ((q0 19), zi k15 12 (a25_ 0)), ((q0 3), zi k3 400 f3), ((q0 2), zi k2 4800 f2), ((q0 7), zi k6 120 f6), ((q0 11), zi k10 120 f10), ((q0 5), zi k4 122880 f4), ((q0 12), zi k11 120 f11), ((q0 22), zi k16 40000 f16), ((q0 6), zi k5 120 f5)] H1 := hP.sub [8, 0, 1, 9, 10, 2, 3, 4, 5, 6, 7] rfl
                  have hD : va_D A [(h0, .inr (13, mX13 q0 (upd (upd v0 20 (u25_ 0)) 21 0))), ((q0 17), zi k14 12 f14), ((q0 19), zi k15 12 (a25_ 0)), ((q0 3), zi k3 400 f3), ((q0 2), zi k2 4800 f2), ((q0 7), zi k6 120 f6), ((q0 11), zi k10 120 f10), ((q0 5), zi k4 122880 f4), ((q0 12), zi k11 120 f11), ((q0 22), zi k16 40000 f16), ((q0 6), zi k5 120 f5)] := hD.sub [8, 0, 1, 9, 10, 2, 3, 4, 5, 6, 7] (by decide) rfl
                  generalize H1 = H at hP hS ⊢
                  clear hz1
                  refine W.widen (k := 0) (n := 0) (by decide) (by decide) ?_
                  have b_ : -2147483648 ≤ (v0 23).toInt ∧ (v0 23).toInt ≤ 2147483647 := ⟨zlo _, zhi _⟩
                  have b_ : 0 ≤ (v0 24).toInt ∧ (v0 24).toInt ≤ 1 := hv0 24
                  have hpost : ((-1) ≤ r139_.toInt ∧ r139_.toInt ≤ 2600021) ∧ (0 ≤ (u25_ 0).toInt ∧ (u25_ 0).toInt ≤ 12) ∧ (0 ≤ (0 : Int32).toInt ∧ (0 : Int32).toInt ≤ 0) ∧ (0 ≤ (v0 24).toInt ∧ (v0 24).toInt ≤ 1) ∧ (zPr f14 (v0 18).toInt f2 f3 (v0 4).toInt f4 f6 f10 f11 (v0 13).toInt f5 x1.toInt r139_.toInt) := ⟨(by first | with_reducible assumption | exact ⟨by omega, by omega⟩), (by first | with_reducible assumption | exact ⟨by omega, by omega⟩), (by first | with_reducible assumption | exact ⟨by omega, by omega⟩), (by first | with_reducible assumption | exact ⟨by omega, by omega⟩), by first | exact zPr_y hX25_1 (by omega) (fun T V x hm hb hv => Or.inl ⟨by omega, hX71_2 T V x hm hb hv⟩) | exact zPr_y hX25_1 (by omega) (fun T V x hm hb hv => Or.inr (Or.inl ⟨by omega, by have e := hX78_2 T V x hm hb hv; have c := hX81_0 (by omega); rw [c, e, Int.toNat_natCast]⟩)) | exact zPr_y hX25_1 (by omega) (fun T V x hm hb hv => Or.inr (Or.inr (Or.inl ⟨by omega, hX87_0 T V x hm hb hv⟩))) | exact zPr_y hX25_1 (by omega) (fun T V x hm hb hv => Or.inr (Or.inr (Or.inr (Or.inl ⟨by omega, zKg_e hI96_0 (by omega) (by omega) rfl T V x hm hb hv⟩)))) | exact zPr_y hX25_1 (by omega) (fun T V x hm hb hv => Or.inr (Or.inr (Or.inr (Or.inr ⟨by omega, zAh_V hm.1 hX139_0 (by omega) hv⟩)))) | exact zPr_0 (by omega) (by omega) (by omega) hX25_1 (by omega) (by decide) | exact zPr_n (by omega) (by decide)⟩
                  have hP9 : va_P (dC, dI) vwCl [(h0, .inr (13, mX13 q0 (upd (upd (upd (upd v0 20 (u25_ 0)) 21 0) 23 (v0 23)) 24 (v0 24)))), ((q0 17), zi k14 12 f14), ((q0 19), zi k15 12 (a25_ 0)), ((q0 3), zi k3 400 f3), ((q0 2), zi k2 4800 f2), ((q0 7), zi k6 120 f6), ((q0 11), zi k10 120 f10), ((q0 5), zi k4 122880 f4), ((q0 12), zi k11 120 f11), ((q0 22), zi k16 40000 f16), ((q0 6), zi k5 120 f5)] H := hP
                  have hD9 : va_D A [(h0, .inr (13, mX13 q0 (upd (upd (upd (upd v0 20 (u25_ 0)) 21 0) 23 (v0 23)) 24 (v0 24)))), ((q0 17), zi k14 12 f14), ((q0 19), zi k15 12 (a25_ 0)), ((q0 3), zi k3 400 f3), ((q0 2), zi k2 4800 f2), ((q0 7), zi k6 120 f6), ((q0 11), zi k10 120 f10), ((q0 5), zi k4 122880 f4), ((q0 12), zi k11 120 f11), ((q0 22), zi k16 40000 f16), ((q0 6), zi k5 120 f5)] := hD
                  exact W.iret (v := r139_) hx hb hr (fun t ht hW => ⟨⟨r139_, (fun i => ([(u25_ 0), 0, (v0 23), (v0 24)] : List (Int32)).getD i 0), rfl, hpost, (fun _ => 0), (fun i => ([(a25_ 0), f16] : List (Nat → Int32)).getD i (fun _ => 0)), (fun _ => (fun _ => 0)), by rw [ht]; exact hP9, va_K.moved hW.alike hK, hD9⟩, hS.F ht⟩) hS.2.2 dX13_posting_142
        · skip
          have b_ := zF_ne rfl zk_m1 c_
          refine lv_iconst (v := 0) hx hb dX13_posting_34 (by decide) ?_
          refine W.widen (k := 0) (n := 0) (by decide) (by decide) ?_
          have b_ : -2147483648 ≤ (v0 23).toInt ∧ (v0 23).toInt ≤ 2147483647 := ⟨zlo _, zhi _⟩
          have b_ : 0 ≤ (v0 24).toInt ∧ (v0 24).toInt ≤ 1 := hv0 24
          have hpost : ((-1) ≤ (0 : Int32).toInt ∧ (0 : Int32).toInt ≤ 2600021) ∧ (0 ≤ (u25_ 0).toInt ∧ (u25_ 0).toInt ≤ 12) ∧ (0 ≤ (0 : Int32).toInt ∧ (0 : Int32).toInt ≤ 0) ∧ (0 ≤ (v0 24).toInt ∧ (v0 24).toInt ≤ 1) ∧ (zPr f14 (v0 18).toInt f2 f3 (v0 4).toInt f4 f6 f10 f11 (v0 13).toInt f5 x1.toInt (0 : Int32).toInt) := ⟨(by first | with_reducible assumption | exact ⟨by omega, by omega⟩), (by first | with_reducible assumption | exact ⟨by omega, by omega⟩), (by first | with_reducible assumption | exact ⟨by omega, by omega⟩), (by first | with_reducible assumption | exact ⟨by omega, by omega⟩), by first | exact zPr_y hX25_1 (by omega) (fun T V x hm hb hv => Or.inl ⟨by omega, hX71_2 T V x hm hb hv⟩) | exact zPr_y hX25_1 (by omega) (fun T V x hm hb hv => Or.inr (Or.inl ⟨by omega, by have e := hX78_2 T V x hm hb hv; have c := hX81_0 (by omega); rw [c, e, Int.toNat_natCast]⟩)) | exact zPr_y hX25_1 (by omega) (fun T V x hm hb hv => Or.inr (Or.inr (Or.inl ⟨by omega, hX87_0 T V x hm hb hv⟩))) | exact zPr_y hX25_1 (by omega) (fun T V x hm hb hv => Or.inr (Or.inr (Or.inr (Or.inl ⟨by omega, zKg_e hI96_0 (by omega) (by omega) rfl T V x hm hb hv⟩)))) | exact zPr_y hX25_1 (by omega) (fun T V x hm hb hv => Or.inr (Or.inr (Or.inr (Or.inr ⟨by omega, zAh_V hm.1 hX139_0 (by omega) hv⟩)))) | exact zPr_0 (by omega) (by omega) (by omega) hX25_1 (by omega) (by decide) | exact zPr_n (by omega) (by decide)⟩
          have hP9 : va_P (dC, dI) vwCl [(h0, .inr (13, mX13 q0 (upd (upd (upd (upd v0 20 (u25_ 0)) 21 0) 23 (v0 23)) 24 (v0 24)))), ((q0 17), zi k14 12 f14), ((q0 19), zi k15 12 (a25_ 0)), ((q0 3), zi k3 400 f3), ((q0 2), zi k2 4800 f2), ((q0 7), zi k6 120 f6), ((q0 11), zi k10 120 f10), ((q0 5), zi k4 122880 f4), ((q0 12), zi k11 120 f11), ((q0 22), zi k16 40000 f16), ((q0 6), zi k5 120 f5)] H := hP
          have hD9 : va_D A [(h0, .inr (13, mX13 q0 (upd (upd (upd (upd v0 20 (u25_ 0)) 21 0) 23 (v0 23)) 24 (v0 24)))), ((q0 17), zi k14 12 f14), ((q0 19), zi k15 12 (a25_ 0)), ((q0 3), zi k3 400 f3), ((q0 2), zi k2 4800 f2), ((q0 7), zi k6 120 f6), ((q0 11), zi k10 120 f10), ((q0 5), zi k4 122880 f4), ((q0 12), zi k11 120 f11), ((q0 22), zi k16 40000 f16), ((q0 6), zi k5 120 f5)] := hD
          exact W.iret (v := 0) hx hb hr (fun t ht hW => ⟨⟨0, (fun i => ([(u25_ 0), 0, (v0 23), (v0 24)] : List (Int32)).getD i 0), rfl, hpost, (fun _ => 0), (fun i => ([(a25_ 0), f16] : List (Nat → Int32)).getD i (fun _ => 0)), (fun _ => (fun _ => 0)), by rw [ht]; exact hP9, va_K.moved hW.alike hK, hD9⟩, hS.F ht⟩) hS.2.2 dX13_posting_35
      · skip
        have b_ := zF_le rfl zk_4 c_
        refine lv_iconst (v := (-1)) hx hb dX13_posting_22 (by decide) ?_
        refine W.widen (k := 0) (n := 0) (by decide) (by decide) ?_
        have b_ : 0 ≤ (v0 20).toInt ∧ (v0 20).toInt ≤ 12 := hv0 20
        have b_ : -2147483648 ≤ (v0 23).toInt ∧ (v0 23).toInt ≤ 2147483647 := ⟨zlo _, zhi _⟩
        have b_ : 0 ≤ (v0 24).toInt ∧ (v0 24).toInt ≤ 1 := hv0 24
        have hpost : ((-1) ≤ ((-1) : Int32).toInt ∧ ((-1) : Int32).toInt ≤ 2600021) ∧ (0 ≤ (v0 20).toInt ∧ (v0 20).toInt ≤ 12) ∧ (0 ≤ (0 : Int32).toInt ∧ (0 : Int32).toInt ≤ 0) ∧ (0 ≤ (v0 24).toInt ∧ (v0 24).toInt ≤ 1) ∧ (zPr f14 (v0 18).toInt f2 f3 (v0 4).toInt f4 f6 f10 f11 (v0 13).toInt f5 x1.toInt ((-1) : Int32).toInt) := ⟨(by first | with_reducible assumption | exact ⟨by omega, by omega⟩), (by first | with_reducible assumption | exact ⟨by omega, by omega⟩), (by first | with_reducible assumption | exact ⟨by omega, by omega⟩), (by first | with_reducible assumption | exact ⟨by omega, by omega⟩), by first | exact zPr_y hX25_1 (by omega) (fun T V x hm hb hv => Or.inl ⟨by omega, hX71_2 T V x hm hb hv⟩) | exact zPr_y hX25_1 (by omega) (fun T V x hm hb hv => Or.inr (Or.inl ⟨by omega, by have e := hX78_2 T V x hm hb hv; have c := hX81_0 (by omega); rw [c, e, Int.toNat_natCast]⟩)) | exact zPr_y hX25_1 (by omega) (fun T V x hm hb hv => Or.inr (Or.inr (Or.inl ⟨by omega, hX87_0 T V x hm hb hv⟩))) | exact zPr_y hX25_1 (by omega) (fun T V x hm hb hv => Or.inr (Or.inr (Or.inr (Or.inl ⟨by omega, zKg_e hI96_0 (by omega) (by omega) rfl T V x hm hb hv⟩)))) | exact zPr_y hX25_1 (by omega) (fun T V x hm hb hv => Or.inr (Or.inr (Or.inr (Or.inr ⟨by omega, zAh_V hm.1 hX139_0 (by omega) hv⟩)))) | exact zPr_0 (by omega) (by omega) (by omega) hX25_1 (by omega) (by decide) | exact zPr_n (by omega) (by decide)⟩
        have hP9 : va_P (dC, dI) vwCl [(h0, .inr (13, mX13 q0 (upd (upd (upd (upd v0 20 (v0 20)) 21 0) 23 (v0 23)) 24 (v0 24)))), ((q0 17), zi k14 12 f14), ((q0 19), zi k15 12 f15), ((q0 3), zi k3 400 f3), ((q0 2), zi k2 4800 f2), ((q0 7), zi k6 120 f6), ((q0 11), zi k10 120 f10), ((q0 5), zi k4 122880 f4), ((q0 12), zi k11 120 f11), ((q0 22), zi k16 40000 f16), ((q0 6), zi k5 120 f5)] H := hP
        have hD9 : va_D A [(h0, .inr (13, mX13 q0 (upd (upd (upd (upd v0 20 (v0 20)) 21 0) 23 (v0 23)) 24 (v0 24)))), ((q0 17), zi k14 12 f14), ((q0 19), zi k15 12 f15), ((q0 3), zi k3 400 f3), ((q0 2), zi k2 4800 f2), ((q0 7), zi k6 120 f6), ((q0 11), zi k10 120 f10), ((q0 5), zi k4 122880 f4), ((q0 12), zi k11 120 f11), ((q0 22), zi k16 40000 f16), ((q0 6), zi k5 120 f5)] := hD
        exact W.iret (v := (-1)) hx hb hr (fun t ht hW => ⟨⟨(-1), (fun i => ([(v0 20), 0, (v0 23), (v0 24)] : List (Int32)).getD i 0), rfl, hpost, (fun _ => 0), (fun i => ([f15, f16] : List (Nat → Int32)).getD i (fun _ => 0)), (fun _ => (fun _ => 0)), by rw [ht]; exact hP9, va_K.moved hW.alike hK, hD9⟩, hS.F ht⟩) hS.2.2 dX13_posting_23
set_option maxHeartbeats 8000000 in
set_option maxRecDepth 100000 in
theorem sX13_gamma_0 (l : Launch) (dC : Nat → ClassId) (dI : Nat → Nat → Nat) (adK adV : Nat → Nat) (sz : Nat) (x0 : Int32) : Met l yX13_gamma (zw yX13_gamma cX13_gamma 1 (some .int)) { frames := 1, cells := 0, slots := 0, locals := 22 } (zPc dC dI adK adV [.int x0] sz [] []) (va_Qi (fun (r : Int32) (u : Nat → Int32) => ((-1) ≤ r.toInt ∧ r.toInt ≤ 61) ∧ (r.toInt = zgam x0.toInt)) (fun (u : Nat → Int32) (t : State) => ∃ (ww : Nat → Int64) (aa : Nat → Nat → Int32) (bb : Nat → Nat → Int64), va_P (dC, dI) vwCl [] t.heap ∧ va_K (dC, dI) vwCl [] t ∧ va_D (va_A [] sz) []) (va_A [] sz)) 0 0 (va_A [] sz) := by
  refine Met.ofW (cc := cX13_gamma) (maxL := 1) (ret := (some .int)) (by decide) rfl ?_
  intro p e s m args below meth c s₁ B hml hv
  obtain ⟨rfl, hsz, hP, hK, hD0, hE, hZ⟩ := hv
  have hx := B.exec
  have hb := B.bytes
  have hr := B.returns
  have hG : ∀ w ∈ zG, w.before _ s = true := fun w h => atoms_spec (ws := (zw yX13_gamma cX13_gamma 1 (some .int))) B.pre w (List.mem_cons_of_mem _ h)
  have hown : s.vm.findClass RX13 = some m.cls := findClass_of_methodNamed B.named
  have hlocks := B.notSynchronized

  subst hsz
  have hD := hD0.self (sz := s.heap.size)
  generalize hAe : va_A [] s.heap.size = A at hD hZ ⊢
  have hA : ∀ q : Nat, s.heap.size ≤ q → A q := fun q h => by rw [← hAe]; exact Or.inr h
  have hS : va_S A s.heap s.heap [] := va_S.rf
  have hl := lv_entry ([.int x0]) (n := 1) (Nat.le_of_ble_eq_true rfl)
  rw [lg_entry_eq]
  generalize (lg_sl ([.int x0]) ++ List.replicate (1 - (lg_sl ([.int x0])).length) Slot.unset).toArray = ls at hl ⊢
  have hl : lv_has ls 1 [(0, .int x0)] := hl
  refine lv_iconst (v := 2) hx hb dX13_gamma_0 (by decide) ?_
  refine lv_iload_n hx hb dX13_gamma_1 rfl (lv_at hl 0 rfl) ?_
  have hPc := hP.sub (ws' := []) [] rfl
  have hDc := hD.sub (ws' := []) [] (by decide) rfl
  have hKc := hK.sub (tys' := []) [] rfl
  have hFc := va_free (wc := []) hD hS hA [] rfl
  refine va_calli (va_runS (As := [.int x0]) (rest := [.int 2]) ⟨hx, hb, hml, hown, hG⟩ (sX13_digits_0 l dC dI adK adV s.heap.size x0) (va_cwS 1 hG (zgS zv1909 zv1910 zv142 zv1911) rfl rfl rfl (by decide +kernel) ⟨Nat.le_of_ble_eq_true rfl, Nat.le_of_ble_eq_true rfl⟩) ⟨zPc_blind, zPc_pre hPc hKc hDc hE hS hFc hZ⟩ rfl rfl hl.1 rfl (lv_room (Nat.le_of_ble_eq_true rfl)) dX13_gamma_2 ⟨Nat.le_of_ble_eq_true rfl, Nat.le_of_ble_eq_true rfl⟩) hS (fun q _ h => hFc q h) hFc (fun r2_ u2_ t H1 locs ht hvm hw hB hz1 hk1 hS => ?_)
  replace hw : (0 ≤ r2_.toInt ∧ r2_.toInt ≤ 31) ∧ (r2_.toInt = zdig x0.toInt) := hw
  obtain ⟨b_, hX2_0⟩ := hw
  obtain ⟨w2_, a2_, b2_, hP1, hK1, hD1⟩ := hB
  rw [ht] at hP1
  obtain ⟨hP, hD⟩ := va_join (wr := []) (w1 := []) hP hD [] [] rfl rfl (by decide) (by decide) hk1 hFc hP1 hD1
  have hP : va_P (dC, dI) vwCl [] H1 := hP.sub [] rfl
  have hD : va_D A [] := hD.sub [] (by decide) rfl
  generalize H1 = H at hP hS ⊢
  clear hz1
  refine lv_imul hx hb dX13_gamma_5 ?_
  refine lv_topi (fun z5 e_z5 => ?_)
  have b_ := zmul zk_2 rfl e_z5 (by omega) (by omega)
  refine lv_iconst (v := 1) hx hb dX13_gamma_6 (by decide) ?_
  refine lv_isub hx hb dX13_gamma_7 ?_
  refine lv_topi (fun z7 e_z7 => ?_)
  have b_ := zsub rfl zk_1 e_z7 (by omega) (by omega)
  refine W.widen (k := 0) (n := 0) (by decide) (by decide) ?_
  have hpost : ((-1) ≤ z7.toInt ∧ z7.toInt ≤ 61) ∧ (z7.toInt = zgam x0.toInt) := ⟨(by first | with_reducible assumption | exact ⟨by omega, by omega⟩), by unfold zgam; omega⟩
  have hP9 : va_P (dC, dI) vwCl [] H := hP
  have hD9 : va_D A [] := hD
  exact W.iret (v := z7) hx hb hr (fun t ht hW => ⟨⟨z7, (fun _ => 0), rfl, hpost, (fun _ => 0), (fun _ => (fun _ => 0)), (fun _ => (fun _ => 0)), by rw [ht]; exact hP9, va_K.moved hW.alike hK, hD9⟩, hS.F ht⟩) hS.2.2 dX13_gamma_8
set_option maxHeartbeats 8000000 in
set_option maxRecDepth 100000 in
theorem sX13_measure_0 (l : Launch) (dC : Nat → ClassId) (dI : Nat → Nat → Nat) (adK adV : Nat → Nat) (h0 : Nat) (q0 : Nat → Nat) (k17 : ClassId) (k18 : ClassId) (k4 : ClassId) (k6 : ClassId) (k20 : ClassId) (k19 : ClassId) (sz : Nat) (v0 : Nat → Int32) (f17 : Nat → Int32) (f18 : Nat → Int32) (f4 : Nat → Int32) (f6 : Nat → Int32) (f20 : Nat → Int32) (f19 : Nat → Int32) (hv0 : zR rg_Model v0) (hf18 : zA (-1) 119 f18) (hf4 : zA 0 400 f4) (hf19 : zA (-1) 1023 f19) : Met l yX13_measure (zw yX13_measure cX13_measure 4 none) { frames := 2, cells := 0, slots := 0, locals := 42 } (zPc dC dI adK adV [.ref h0] sz [(h0, .inr (13, mX13 q0 v0)), ((q0 25), zi k17 400 f17), ((q0 26), zi k18 400 f18), ((q0 5), zi k4 122880 f4), ((q0 7), zi k6 120 f6), ((q0 28), zi k20 400 f20), ((q0 27), zi k19 400 f19)] [(k17, .int), (k18, .int), (k4, .short), (k6, .boolean), (k20, .int), (k19, .int)]) (va_Qv (fun (u : Nat → Int32) => True) (fun (u : Nat → Int32) (t : State) => ∃ (ww : Nat → Int64) (aa : Nat → Nat → Int32) (bb : Nat → Nat → Int64), zA (-1) 119 (aa 1) ∧ zA (-1) 1023 (aa 3) ∧ (zM1 (aa 0) (aa 1) f4 f6 (v0 4).toInt (v0 13).toInt) ∧ va_P (dC, dI) vwCl [(h0, .inr (13, mX13 q0 v0)), ((q0 25), zi k17 400 (aa 0)), ((q0 26), zi k18 400 (aa 1)), ((q0 5), zi k4 122880 f4), ((q0 7), zi k6 120 f6), ((q0 28), zi k20 400 (aa 2)), ((q0 27), zi k19 400 (aa 3))] t.heap ∧ va_K (dC, dI) vwCl [(k17, .int), (k18, .int), (k4, .short), (k6, .boolean), (k20, .int), (k19, .int)] t ∧ va_D (va_A [(h0, .inr (13, mX13 q0 v0)), ((q0 25), zi k17 400 f17), ((q0 26), zi k18 400 f18), ((q0 5), zi k4 122880 f4), ((q0 7), zi k6 120 f6), ((q0 28), zi k20 400 f20), ((q0 27), zi k19 400 f19)] sz) [(h0, .inr (13, mX13 q0 v0)), ((q0 25), zi k17 400 (aa 0)), ((q0 26), zi k18 400 (aa 1)), ((q0 5), zi k4 122880 f4), ((q0 7), zi k6 120 f6), ((q0 28), zi k20 400 (aa 2)), ((q0 27), zi k19 400 (aa 3))]) (va_A [(h0, .inr (13, mX13 q0 v0)), ((q0 25), zi k17 400 f17), ((q0 26), zi k18 400 f18), ((q0 5), zi k4 122880 f4), ((q0 7), zi k6 120 f6), ((q0 28), zi k20 400 f20), ((q0 27), zi k19 400 f19)] sz)) 0 0 (va_A [(h0, .inr (13, mX13 q0 v0)), ((q0 25), zi k17 400 f17), ((q0 26), zi k18 400 f18), ((q0 5), zi k4 122880 f4), ((q0 7), zi k6 120 f6), ((q0 28), zi k20 400 f20), ((q0 27), zi k19 400 f19)] sz) := by
  refine Met.ofW (cc := cX13_measure) (maxL := 4) (ret := none) (by decide) rfl ?_
  intro p e s m args below meth c s₁ B hml hv
  obtain ⟨rfl, hsz, hP, hK, hD0, hE, hZ⟩ := hv
  have hx := B.exec
  have hb := B.bytes
  have hr := B.returns
  have hG : ∀ w ∈ zG, w.before _ s = true := fun w h => atoms_spec (ws := (zw yX13_measure cX13_measure 4 none)) B.pre w (List.mem_cons_of_mem _ h)
  have hown : s.vm.findClass RX13 = some m.cls := findClass_of_methodNamed B.named
  have hlocks := B.notSynchronized

  subst hsz
  have hD := hD0.self (sz := s.heap.size)
  generalize hAe : va_A [(h0, .inr (13, mX13 q0 v0)), ((q0 25), zi k17 400 f17), ((q0 26), zi k18 400 f18), ((q0 5), zi k4 122880 f4), ((q0 7), zi k6 120 f6), ((q0 28), zi k20 400 f20), ((q0 27), zi k19 400 f19)] s.heap.size = A at hD hZ ⊢
  have hA : ∀ q : Nat, s.heap.size ≤ q → A q := fun q h => by rw [← hAe]; exact Or.inr h
  have hS : va_S A s.heap s.heap [] := va_S.rf
  have hl := lv_entry ([.ref h0]) (n := 4) (Nat.le_of_ble_eq_true rfl)
  rw [lg_entry_eq]
  generalize (lg_sl ([.ref h0]) ++ List.replicate (4 - (lg_sl ([.ref h0])).length) Slot.unset).toArray = ls at hl ⊢
  have hl : lv_has ls 4 [(0, .ref h0)] := hl
  have b_ := zk_0
  have b_ : 0 ≤ (v0 4).toInt ∧ (v0 4).toInt ≤ 400 := hv0 4
  have b_ : 0 ≤ (v0 13).toInt ∧ (v0 13).toInt ≤ 120 := hv0 13
  refine lv_iconst (v := 0) hx hb dX13_measure_0 (by decide) ?_
  refine lv_istore_n (lv' := [(1, .int 0), (0, .ref h0)]) hx hb dX13_measure_1 rfl hl (by decide) rfl (fun ls hl => ?_)
  refine zcutL (fun u2_ => (400 - (u2_ 0).toInt).toNat) (fun H locs ls u2_ w2_ a2_ b2_ => va_P (dC, dI) vwCl [(h0, .inr (13, mX13 q0 v0)), ((q0 25), zi k17 400 (a2_ 0)), ((q0 26), zi k18 400 (a2_ 1)), ((q0 5), zi k4 122880 f4), ((q0 7), zi k6 120 f6), ((q0 28), zi k20 400 f20), ((q0 27), zi k19 400 f19)] H ∧ va_D A [(h0, .inr (13, mX13 q0 v0)), ((q0 25), zi k17 400 (a2_ 0)), ((q0 26), zi k18 400 (a2_ 1)), ((q0 5), zi k4 122880 f4), ((q0 7), zi k6 120 f6), ((q0 28), zi k20 400 f20), ((q0 27), zi k19 400 f19)] ∧ va_S A s.heap H locs ∧ lv_has ls 4 [(0, .ref h0), (1, .int (u2_ 0))] ∧ zA (-1) 119 (a2_ 1) ∧ (0 ≤ (u2_ 0).toInt ∧ (u2_ 0).toInt ≤ 400) ∧ (zM0 (a2_ 0) (a2_ 1) (u2_ 0).toInt) ∧ ((u2_ 0).toInt ≤ (v0 4).toInt)) (fun ls u2_ w2_ => F0 m 2 ls []) 0 0 ?_ (fun hJ2 => ?_)
  · skip
    intro H locs ls u2_ w2_ a2_ b2_ hc hJ2
    obtain ⟨hP, hD, hS, hl, ha2_1, b_, hI2_0, b_⟩ := hc
    refine lv_iload_n hx hb dX13_measure_2 rfl (lv_at hl 1 rfl) ?_
    refine lv_aload_n hx hb dX13_measure_3 rfl (lv_at hl 0 rfl) ?_
    refine va_get (D := (dC, dI)) (ci := 13) (v := .int (v0 4)) (C := RX13) (T := TX13) (N := 75) hx hb hG zuX13 hown hK hP 0 rfl rfl 4 (by decide) (hG _ zv1608) (fun _ h9 => h9) rfl dX13_measure_4 ?_
    refine lv_icmp_ge (tgt := 30) hx hb dX13_measure_7 (by decide) (fun c_ => ?_) (fun c_ => ?_)
    · skip
      have b_ := zT_ge rfl rfl c_
      refine lv_iconst (v := 0) hx hb dX13_measure_30 (by decide) ?_
      refine lv_istore_n (lv' := [(1, .int 0), (0, .ref h0)]) hx hb dX13_measure_31 rfl hl (by decide) rfl (fun ls hl => ?_)
      refine zcutL (fun u32_ => (120 - (u32_ 0).toInt).toNat) (fun H locs ls u32_ w32_ a32_ b32_ => va_P (dC, dI) vwCl [(h0, .inr (13, mX13 q0 v0)), ((q0 25), zi k17 400 (a32_ 0)), ((q0 26), zi k18 400 (a32_ 1)), ((q0 5), zi k4 122880 f4), ((q0 7), zi k6 120 f6), ((q0 28), zi k20 400 (a32_ 3)), ((q0 27), zi k19 400 (a32_ 2))] H ∧ va_D A [(h0, .inr (13, mX13 q0 v0)), ((q0 25), zi k17 400 (a32_ 0)), ((q0 26), zi k18 400 (a32_ 1)), ((q0 5), zi k4 122880 f4), ((q0 7), zi k6 120 f6), ((q0 28), zi k20 400 (a32_ 3)), ((q0 27), zi k19 400 (a32_ 2))] ∧ va_S A s.heap H locs ∧ lv_has ls 4 [(0, .ref h0), (1, .int (u32_ 0))] ∧ zA (-1) 119 (a32_ 1) ∧ zA (-1) 1023 (a32_ 2) ∧ (0 ≤ (u32_ 0).toInt ∧ (u32_ 0).toInt ≤ 120) ∧ (zM1 (a32_ 0) (a32_ 1) f4 f6 (v0 4).toInt (u32_ 0).toInt) ∧ ((u32_ 0).toInt ≤ (v0 13).toInt)) (fun ls u32_ w32_ => F0 m 32 ls []) 0 0 ?_ (fun hJ32 => ?_)
      · skip
        intro H locs ls u32_ w32_ a32_ b32_ hc hJ32
        obtain ⟨hP, hD, hS, hl, ha32_1, ha32_2, b_, hI32_0, b_⟩ := hc
        refine lv_iload_n hx hb dX13_measure_32 rfl (lv_at hl 1 rfl) ?_
        refine lv_aload_n hx hb dX13_measure_33 rfl (lv_at hl 0 rfl) ?_
        refine va_get (D := (dC, dI)) (ci := 13) (v := .int (v0 13)) (C := RX13) (T := TX13) (N := 75) hx hb hG zuX13 hown hK hP 0 rfl rfl 13 (by decide) (hG _ zv1617) (fun _ h9 => h9) rfl dX13_measure_34 ?_
        refine lv_icmp_ge (tgt := 227) hx hb dX13_measure_37 (by decide) (fun c_ => ?_) (fun c_ => ?_)
        · skip
          have b_ := zT_ge rfl rfl c_
          have hfin : zM1 (a32_ 0) (a32_ 1) f4 f6 (v0 4).toInt (v0 13).toInt := by rw [show (v0 13).toInt = (u32_ 0).toInt from by omega]; exact hI32_0
          refine W.widen (k := 0) (n := 0) (by decide) (by decide) ?_
          have hpost : True := trivial
          have hP9 : va_P (dC, dI) vwCl [(h0, .inr (13, mX13 q0 v0)), ((q0 25), zi k17 400 (a32_ 0)), ((q0 26), zi k18 400 (a32_ 1)), ((q0 5), zi k4 122880 f4), ((q0 7), zi k6 120 f6), ((q0 28), zi k20 400 (a32_ 3)), ((q0 27), zi k19 400 (a32_ 2))] H := hP
          have hD9 : va_D A [(h0, .inr (13, mX13 q0 v0)), ((q0 25), zi k17 400 (a32_ 0)), ((q0 26), zi k18 400 (a32_ 1)), ((q0 5), zi k4 122880 f4), ((q0 7), zi k6 120 f6), ((q0 28), zi k20 400 (a32_ 3)), ((q0 27), zi k19 400 (a32_ 2))] := hD
          have hB0 : zM1 (a32_ 0) (a32_ 1) f4 f6 (v0 4).toInt (v0 13).toInt := by exact hfin
          exact W.vret hx hb hr (fun t ht hW => ⟨⟨(fun _ => 0), rfl, hpost, (fun _ => 0), (fun i => ([(a32_ 0), (a32_ 1), (a32_ 3), (a32_ 2)] : List (Nat → Int32)).getD i (fun _ => 0)), (fun _ => (fun _ => 0)), ha32_1, ha32_2, hB0, by rw [ht]; exact hP9, va_K.moved hW.alike hK, hD9⟩, hS.F ht⟩) hS.2.2 dX13_measure_227
        · skip
          have b_ := zF_ge rfl rfl c_
          refine lv_aload_n hx hb dX13_measure_40 rfl (lv_at hl 0 rfl) ?_
          refine va_get (D := (dC, dI)) (ci := 13) (v := .ref (q0 7)) (C := RX13) (T := TX13) (N := 75) hx hb hG zuX13 hown hK hP 0 rfl rfl 7 (by decide) (hG _ zv1611) (fun _ h9 => h9) rfl dX13_measure_41 ?_
          refine lv_iload_n hx hb dX13_measure_44 rfl (lv_at hl 1 rfl) ?_
          refine va_zald hx hb hK hP 4 3 rfl rfl (zin_lit ⟨by omega, by omega⟩) dX13_measure_45 ?_
          refine lv_topi (fun z45 e_z45 => ?_)
          have hke : (f6 ((u32_ 0).toInt).toNat).toInt = z45.toInt := congrArg Int32.toInt e_z45.symm
          have b_ : -2147483648 ≤ z45.toInt ∧ z45.toInt ≤ 2147483647 := ⟨zlo _, zhi _⟩
          refine lv_if_ne (tgt := 52) hx hb dX13_measure_46 (by decide) (fun c_ => ?_) (fun c_ => ?_)
          · skip
            have b_ := zT_ne rfl zk_0 c_
            refine lv_iconst (v := 0) hx hb dX13_measure_52 (by decide) ?_
            refine lv_istore_n (lv' := [(2, .int 0), (0, .ref h0), (1, .int (u32_ 0))]) hx hb dX13_measure_53 rfl hl (by decide) rfl (fun ls hl => ?_)
            refine zcutL (fun u54_ => (400 - (u54_ 0).toInt).toNat) (fun H locs ls u54_ w54_ a54_ b54_ => va_P (dC, dI) vwCl [(h0, .inr (13, mX13 q0 v0)), ((q0 25), zi k17 400 (a32_ 0)), ((q0 26), zi k18 400 (a32_ 1)), ((q0 5), zi k4 122880 f4), ((q0 7), zi k6 120 f6), ((q0 28), zi k20 400 (a54_ 1)), ((q0 27), zi k19 400 (a54_ 0))] H ∧ va_D A [(h0, .inr (13, mX13 q0 v0)), ((q0 25), zi k17 400 (a32_ 0)), ((q0 26), zi k18 400 (a32_ 1)), ((q0 5), zi k4 122880 f4), ((q0 7), zi k6 120 f6), ((q0 28), zi k20 400 (a54_ 1)), ((q0 27), zi k19 400 (a54_ 0))] ∧ va_S A s.heap H locs ∧ lv_has ls 4 [(0, .ref h0), (1, .int (u32_ 0)), (2, .int (u54_ 0))] ∧ zA (-1) 1023 (a54_ 0) ∧ (0 ≤ (u54_ 0).toInt ∧ (u54_ 0).toInt ≤ 400) ∧ (zM0 (a54_ 1) (a54_ 0) (u54_ 0).toInt) ∧ ((u54_ 0).toInt ≤ (v0 4).toInt)) (fun ls u54_ w54_ => F0 m 54 ls []) 0 0 ?_ (fun hJ54 => ?_)
            · skip
              intro H locs ls u54_ w54_ a54_ b54_ hc hJ54
              obtain ⟨hP, hD, hS, hl, ha54_0, b_, hI54_0, b_⟩ := hc
              refine lv_iload_n hx hb dX13_measure_54 rfl (lv_at hl 2 rfl) ?_
              refine lv_aload_n hx hb dX13_measure_55 rfl (lv_at hl 0 rfl) ?_
              refine va_get (D := (dC, dI)) (ci := 13) (v := .int (v0 4)) (C := RX13) (T := TX13) (N := 75) hx hb hG zuX13 hown hK hP 0 rfl rfl 4 (by decide) (hG _ zv1608) (fun _ h9 => h9) rfl dX13_measure_56 ?_
              refine lv_icmp_ge (tgt := 82) hx hb dX13_measure_59 (by decide) (fun c_ => ?_) (fun c_ => ?_)
              · skip
                have b_ := zT_ge rfl rfl c_
                refine lv_iconst (v := 0) hx hb dX13_measure_82 (by decide) ?_
                refine lv_istore_n (lv' := [(2, .int 0), (0, .ref h0), (1, .int (u32_ 0))]) hx hb dX13_measure_83 rfl hl (by decide) rfl (fun ls hl => ?_)
                refine zcutL (fun u84_ => (1024 - (u84_ 0).toInt).toNat) (fun H locs ls u84_ w84_ a84_ b84_ => va_P (dC, dI) vwCl [(h0, .inr (13, mX13 q0 v0)), ((q0 25), zi k17 400 (a84_ 0)), ((q0 26), zi k18 400 (a32_ 1)), ((q0 5), zi k4 122880 f4), ((q0 7), zi k6 120 f6), ((q0 28), zi k20 400 (a84_ 2)), ((q0 27), zi k19 400 (a84_ 1))] H ∧ va_D A [(h0, .inr (13, mX13 q0 v0)), ((q0 25), zi k17 400 (a84_ 0)), ((q0 26), zi k18 400 (a32_ 1)), ((q0 5), zi k4 122880 f4), ((q0 7), zi k6 120 f6), ((q0 28), zi k20 400 (a84_ 2)), ((q0 27), zi k19 400 (a84_ 1))] ∧ va_S A s.heap H locs ∧ lv_has ls 4 [(0, .ref h0), (1, .int (u32_ 0)), (2, .int (u84_ 0))] ∧ zA (-1) 1023 (a84_ 1) ∧ (0 ≤ (u84_ 0).toInt ∧ (u84_ 0).toInt ≤ 1024) ∧ (zM3 (a84_ 2) (a84_ 1) (a84_ 0) f4 f6 (v0 4).toInt (u32_ 0).toInt (u84_ 0).toInt) ∧ ((u84_ 0).toInt ≤ 1024)) (fun ls u84_ w84_ => F0 m 84 ls []) 0 0 ?_ (fun hJ84 => ?_)
                · skip
                  intro H locs ls u84_ w84_ a84_ b84_ hc hJ84
                  obtain ⟨hP, hD, hS, hl, ha84_1, b_, hI84_0, b_⟩ := hc
                  refine lv_iload_n hx hb dX13_measure_84 rfl (lv_at hl 2 rfl) ?_
                  refine lv_sipush (v := 1024) hx hb dX13_measure_85 (by decide) ?_
                  refine lv_icmp_ge (tgt := 156) hx hb dX13_measure_88 (by decide) (fun c_ => ?_) (fun c_ => ?_)
                  · skip
                    have b_ := zT_ge rfl zk_1024 c_
                    refine lv_iconst (v := 0) hx hb dX13_measure_156 (by decide) ?_
                    refine lv_istore_n (lv' := [(2, .int 0), (0, .ref h0), (1, .int (u32_ 0))]) hx hb dX13_measure_157 rfl hl (by decide) rfl (fun ls hl => ?_)
                    refine zcutL (fun u158_ => (400 - (u158_ 0).toInt).toNat) (fun H locs ls u158_ w158_ a158_ b158_ => va_P (dC, dI) vwCl [(h0, .inr (13, mX13 q0 v0)), ((q0 25), zi k17 400 (a158_ 0)), ((q0 26), zi k18 400 (a158_ 1)), ((q0 5), zi k4 122880 f4), ((q0 7), zi k6 120 f6), ((q0 28), zi k20 400 (a84_ 2)), ((q0 27), zi k19 400 (a84_ 1))] H ∧ va_D A [(h0, .inr (13, mX13 q0 v0)), ((q0 25), zi k17 400 (a158_ 0)), ((q0 26), zi k18 400 (a158_ 1)), ((q0 5), zi k4 122880 f4), ((q0 7), zi k6 120 f6), ((q0 28), zi k20 400 (a84_ 2)), ((q0 27), zi k19 400 (a84_ 1))] ∧ va_S A s.heap H locs ∧ lv_has ls 4 [(0, .ref h0), (1, .int (u32_ 0)), (2, .int (u158_ 0))] ∧ zA (-1) 119 (a158_ 1) ∧ (0 ≤ (u158_ 0).toInt ∧ (u158_ 0).toInt ≤ 400) ∧ (zM4 (a84_ 2) (a158_ 0) (a158_ 1) f4 f6 (v0 4).toInt (u32_ 0).toInt (u158_ 0).toInt) ∧ ((u158_ 0).toInt ≤ (v0 4).toInt)) (fun ls u158_ w158_ => F0 m 158 ls []) 0 0 ?_ (fun hJ158 => ?_)
                    · skip
                      intro H locs ls u158_ w158_ a158_ b158_ hc hJ158
                      obtain ⟨hP, hD, hS, hl, ha158_1, b_, hI158_0, b_⟩ := hc
                      refine lv_iload_n hx hb dX13_measure_158 rfl (lv_at hl 2 rfl) ?_
                      refine lv_aload_n hx hb dX13_measure_159 rfl (lv_at hl 0 rfl) ?_
                      refine va_get (D := (dC, dI)) (ci := 13) (v := .int (v0 4)) (C := RX13) (T := TX13) (N := 75) hx hb hG zuX13 hown hK hP 0 rfl rfl 4 (by decide) (hG _ zv1608) (fun _ h9 => h9) rfl dX13_measure_160 ?_
                      refine lv_icmp_ge (tgt := 221) hx hb dX13_measure_163 (by decide) (fun c_ => ?_) (fun c_ => ?_)
                      · skip
                        have b_ := zT_ge rfl rfl c_
                        obtain ⟨z221, e_z221⟩ : ∃ z : Int32, z = (u32_ 0) + Int32.ofInt 1 := ⟨_, rfl⟩
                        have b_ := zadd (x := (u32_ 0)) (y := Int32.ofInt 1) rfl (show (Int32.ofInt 1).toInt = 1 from by decide) e_z221 (by omega) (by omega)
                        refine lv_iinc (v := z221) (lv' := [(1, .int z221), (0, .ref h0), (2, .int (u158_ 0))]) hx hb dX13_measure_221 hl (k := 1) rfl e_z221.symm (by decide) rfl (fun ls hl => ?_)
                        have hm1 : zM1 (a158_ 0) (a158_ 1) f4 f6 (v0 4).toInt z221.toInt := zM1_s hI158_0 (by omega) (by omega) (by omega)
                        refine lv_goto (tgt := 32) hx hb dX13_measure_224 (by decide) ?_
                        have hc : va_P (dC, dI) vwCl [(h0, .inr (13, mX13 q0 v0)), ((q0 25), zi k17 400 (a158_ 0)), ((q0 26), zi k18 400 (a158_ 1)), ((q0 5), zi k4 122880 f4), ((q0 7), zi k6 120 f6), ((q0 28), zi k20 400 (a84_ 2)), ((q0 27), zi k19 400 (a84_ 1))] H ∧ va_D A [(h0, .inr (13, mX13 q0 v0)), ((q0 25), zi k17 400 (a158_ 0)), ((q0 26), zi k18 400 (a158_ 1)), ((q0 5), zi k4 122880 f4), ((q0 7), zi k6 120 f6), ((q0 28), zi k20 400 (a84_ 2)), ((q0 27), zi k19 400 (a84_ 1))] ∧ va_S A s.heap H locs ∧ lv_has ls 4 [(0, .ref h0), (1, .int z221)] ∧ zA (-1) 119 (a158_ 1) ∧ zA (-1) 1023 (a84_ 1) ∧ (0 ≤ z221.toInt ∧ z221.toInt ≤ 120) ∧ (zM1 (a158_ 0) (a158_ 1) f4 f6 (v0 4).toInt z221.toInt) ∧ (z221.toInt ≤ (v0 13).toInt) := ⟨hP, hD, hS, lv_sub hl [1, 0] rfl, ha158_1, ha84_1, (by first | with_reducible assumption | exact ⟨by omega, by omega⟩), by first | exact hm1 | exact zM1_0 hI2_0 (by omega) (by omega), by omega⟩
                        exact hJ32 H locs ls (fun i => ([z221] : List (Int32)).getD i 0) (fun _ => 0) (fun i => ([(a158_ 0), (a158_ 1), (a84_ 1), (a84_ 2)] : List (Nat → Int32)).getD i (fun _ => 0)) (fun _ => (fun _ => 0)) hc (show (120 - z221.toInt).toNat < (120 - (u32_ 0).toInt).toNat from by omega)
                      · skip
                        have b_ := zF_ge rfl rfl c_
                        refine lv_aload_n hx hb dX13_measure_166 rfl (lv_at hl 0 rfl) ?_
                        refine va_get (D := (dC, dI)) (ci := 13) (v := .ref (q0 28)) (C := RX13) (T := TX13) (N := 75) hx hb hG zuX13 hown hK hP 0 rfl rfl 28 (by decide) (hG _ zv1632) (fun _ h9 => h9) rfl dX13_measure_167 ?_
                        refine lv_iload_n hx hb dX13_measure_170 rfl (lv_at hl 2 rfl) ?_
                        refine va_iald hx hb hK hP 5 4 rfl rfl (zin_lit ⟨by omega, by omega⟩) dX13_measure_171 ?_
                        refine lv_topi (fun z171 e_z171 => ?_)
                        have b_ : -2147483648 ≤ z171.toInt ∧ z171.toInt ≤ 2147483647 := ⟨zlo _, zhi _⟩
                        refine lv_if_ne (tgt := 178) hx hb dX13_measure_172 (by decide) (fun c_ => ?_) (fun c_ => ?_)
                        · skip
                          have b_ := zT_ne rfl zk_0 c_
                          refine lv_aload_n hx hb dX13_measure_178 rfl (lv_at hl 0 rfl) ?_
                          refine va_get (D := (dC, dI)) (ci := 13) (v := .ref (q0 25)) (C := RX13) (T := TX13) (N := 75) hx hb hG zuX13 hown hK hP 0 rfl rfl 25 (by decide) (hG _ zv1629) (fun _ h9 => h9) rfl dX13_measure_179 ?_
                          refine lv_iload_n hx hb dX13_measure_182 rfl (lv_at hl 2 rfl) ?_
                          refine lv_dup2_11 hx hb dX13_measure_183 rfl rfl ?_
                          refine va_iald hx hb hK hP 1 0 rfl rfl (zin_lit ⟨by omega, by omega⟩) dX13_measure_184 ?_
                          refine lv_topi (fun z184 e_z184 => ?_)
                          refine lv_iload_n hx hb dX13_measure_185 rfl (lv_at hl 1 rfl) ?_
                          refine lv_aload_n hx hb dX13_measure_186 rfl (lv_at hl 0 rfl) ?_
                          refine va_get (D := (dC, dI)) (ci := 13) (v := .ref (q0 26)) (C := RX13) (T := TX13) (N := 75) hx hb hG zuX13 hown hK hP 0 rfl rfl 26 (by decide) (hG _ zv1630) (fun _ h9 => h9) rfl dX13_measure_187 ?_
                          refine lv_iload_n hx hb dX13_measure_190 rfl (lv_at hl 2 rfl) ?_
                          refine va_iald hx hb hK hP 2 1 rfl rfl (zin_lit ⟨by omega, by omega⟩) dX13_measure_191 ?_
                          refine lv_topi (fun z191 e_z191 => ?_)
                          have b_ : (-1) ≤ z191.toInt ∧ z191.toInt ≤ 119 := by rw [e_z191]; exact ha158_1 _
                          refine lv_isub hx hb dX13_measure_192 ?_
                          refine lv_topi (fun z192 e_z192 => ?_)
                          have b_ := zsub rfl rfl e_z192 (by omega) (by omega)
                          have hPc := hP.sub (ws' := []) [] rfl
                          have hDc := hD.sub (ws' := []) [] (by decide) rfl
                          have hKc := hK.sub (tys' := []) [] rfl
                          have hFc := va_free (wc := []) hD hS hA [] rfl
                          refine va_calli (va_runS (As := [.int z192]) (rest := [.int z184, .int (u158_ 0), .ref (q0 25)]) ⟨hx, hb, hml, hown, hG⟩ (sX13_gamma_0 l dC dI adK adV H.size z192) (va_cwS 1 hG (zgS zv1906 zv1907 zv142 zv1908) rfl rfl rfl (by decide +kernel) ⟨Nat.le_of_ble_eq_true rfl, Nat.le_of_ble_eq_true rfl⟩) ⟨zPc_blind, zPc_pre hPc hKc hDc hE hS hFc hZ⟩ rfl rfl hl.1 rfl (lv_room (Nat.le_of_ble_eq_true rfl)) dX13_measure_193 ⟨Nat.le_of_ble_eq_true rfl, Nat.le_of_ble_eq_true rfl⟩) hS (fun q _ h => hFc q h) hFc (fun r193_ u193_ t H1 locs ht hvm hw hB hz1 hk1 hS => ?_)
                          replace hw : ((-1) ≤ r193_.toInt ∧ r193_.toInt ≤ 61) ∧ (r193_.toInt = zgam z192.toInt) := hw
                          obtain ⟨b_, hX193_0⟩ := hw
                          obtain ⟨w193_, a193_, b193_, hP1, hK1, hD1⟩ := hB
                          rw [ht] at hP1
                          obtain ⟨hP, hD⟩ := va_join (wr := [(h0, .inr (13, mX13 q0 v0)), ((q0 25), zi k17 400 (a158_ 0)), ((q0 26), zi k18 400 (a158_ 1)), ((q0 5), zi k4 122880 f4), ((q0 7), zi k6 120 f6), ((q0 28), zi k20 400 (a84_ 2)), ((q0 27), zi k19 400 (a84_ 1))]) (w1 := []) hP hD [] [0, 1, 2, 3, 4, 5, 6] rfl rfl (by decide) (by decide) hk1 hFc hP1 hD1
                          have hP : va_P (dC, dI) vwCl [(h0, .inr (13, mX13 q0 v0)), ((q0 25), zi k17 400 (a158_ 0)), ((q0 26), zi k18 400 (a158_ 1)), ((q0 5), zi k4 122880 f4), ((q0 7), zi k6 120 f6), ((q0 28), zi k20 400 (a84_ 2)), ((q0 27), zi k19 400 (a84_ 1))] H1 := hP.sub [0, 1, 2, 3, 4, 5, 6] rfl
                          have hD : va_D A [(h0, .inr (13, mX13 q0 v0)), ((q0 25), zi k17 400 (a158_ 0)), ((q0 26), zi k18 400 (a158_ 1)), ((q0 5), zi k4 122880 f4), ((q0 7), zi k6 120 f6), ((q0 28), zi k20 400 (a84_ 2)), ((q0 27), zi k19 400 (a84_ 1))] := hD.sub [0, 1, 2, 3, 4, 5, 6] (by decide) rfl
                          generalize H1 = H at hP hS ⊢
                          clear hz1
                          refine lv_aload_n hx hb dX13_measure_196 rfl (lv_at hl 0 rfl) ?_
                          refine va_get (D := (dC, dI)) (ci := 13) (v := .ref (q0 28)) (C := RX13) (T := TX13) (N := 75) hx hb hG zuX13 hown hK hP 0 rfl rfl 28 (by decide) (hG _ zv1632) (fun _ h9 => h9) rfl dX13_measure_197 ?_
                          refine lv_iload_n hx hb dX13_measure_200 rfl (lv_at hl 2 rfl) ?_
                          refine va_iald hx hb hK hP 5 4 rfl rfl (zin_lit ⟨by omega, by omega⟩) dX13_measure_201 ?_
                          refine lv_topi (fun z201 e_z201 => ?_)
                          have hPc := hP.sub (ws' := []) [] rfl
                          have hDc := hD.sub (ws' := []) [] (by decide) rfl
                          have hKc := hK.sub (tys' := []) [] rfl
                          have hFc := va_free (wc := []) hD hS hA [] rfl
                          refine va_calli (va_runS (As := [.int z201]) (rest := [.int r193_, .int z184, .int (u158_ 0), .ref (q0 25)]) ⟨hx, hb, hml, hown, hG⟩ (sX13_gamma_0 l dC dI adK adV H.size z201) (va_cwS 1 hG (zgS zv1906 zv1907 zv142 zv1908) rfl rfl rfl (by decide +kernel) ⟨Nat.le_of_ble_eq_true rfl, Nat.le_of_ble_eq_true rfl⟩) ⟨zPc_blind, zPc_pre hPc hKc hDc hE hS hFc hZ⟩ rfl rfl hl.1 rfl (lv_room (Nat.le_of_ble_eq_true rfl)) dX13_measure_202 ⟨Nat.le_of_ble_eq_true rfl, Nat.le_of_ble_eq_true rfl⟩) hS (fun q _ h => hFc q h) hFc (fun r202_ u202_ t H1 locs ht hvm hw hB hz1 hk1 hS => ?_)
                          replace hw : ((-1) ≤ r202_.toInt ∧ r202_.toInt ≤ 61) ∧ (r202_.toInt = zgam z201.toInt) := hw
                          obtain ⟨b_, hX202_0⟩ := hw
                          obtain ⟨w202_, a202_, b202_, hP1, hK1, hD1⟩ := hB
                          rw [ht] at hP1
                          obtain ⟨hP, hD⟩ := va_join (wr := [(h0, .inr (13, mX13 q0 v0)), ((q0 25), zi k17 400 (a158_ 0)), ((q0 26), zi k18 400 (a158_ 1)), ((q0 5), zi k4 122880 f4), ((q0 7), zi k6 120 f6), ((q0 28), zi k20 400 (a84_ 2)), ((q0 27), zi k19 400 (a84_ 1))]) (w1 := []) hP hD [] [0, 1, 2, 3, 4, 5, 6] rfl rfl (by decide) (by decide) hk1 hFc hP1 hD1
                          have hP : va_P (dC, dI) vwCl [(h0, .inr (13, mX13 q0 v0)), ((q0 25), zi k17 400 (a158_ 0)), ((q0 26), zi k18 400 (a158_ 1)), ((q0 5), zi k4 122880 f4), ((q0 7), zi k6 120 f6), ((q0 28), zi k20 400 (a84_ 2)), ((q0 27), zi k19 400 (a84_ 1))] H1 := hP.sub [0, 1, 2, 3, 4, 5, 6] rfl
                          have hD : va_D A [(h0, .inr (13, mX13 q0 v0)), ((q0 25), zi k17 400 (a158_ 0)), ((q0 26), zi k18 400 (a158_ 1)), ((q0 5), zi k4 122880 f4), ((q0 7), zi k6 120 f6), ((q0 28), zi k20 400 (a84_ 2)), ((q0 27), zi k19 400 (a84_ 1))] := hD.sub [0, 1, 2, 3, 4, 5, 6] (by decide) rfl
                          generalize H1 = H at hP hS ⊢
                          clear hz1
                          refine lv_iadd hx hb dX13_measure_205 ?_
                          refine lv_topi (fun z205 e_z205 => ?_)
                          have b_ := zadd rfl rfl e_z205 (by omega) (by omega)
                          have b_ : -2147483648 ≤ z184.toInt ∧ z184.toInt ≤ 2147483647 := ⟨zlo _, zhi _⟩
                          refine lv_iadd hx hb dX13_measure_206 ?_
                          refine lv_topi (fun z206 e_z206 => ?_)
                          refine va_iast hx hb hK hP hD hS 1 0 rfl rfl (zin_lit ⟨by omega, by omega⟩) dX13_measure_207 (fun H locs hP hD hS => ?_)
                          obtain ⟨f_207, e_f_207⟩ : ∃ z : Nat → Int32, z = upd (a158_ 0) ((u158_ 0) : Int32).toNatClampNeg z206 := ⟨_, rfl⟩
                          have hP : va_P (dC, dI) vwCl [(h0, .inr (13, mX13 q0 v0)), ((q0 25), zi k17 400 f_207), ((q0 26), zi k18 400 (a158_ 1)), ((q0 5), zi k4 122880 f4), ((q0 7), zi k6 120 f6), ((q0 28), zi k20 400 (a84_ 2)), ((q0 27), zi k19 400 (a84_ 1))] H := by rw [e_f_207]; exact hP
                          have hD : va_D A [(h0, .inr (13, mX13 q0 v0)), ((q0 25), zi k17 400 f_207), ((q0 26), zi k18 400 (a158_ 1)), ((q0 5), zi k4 122880 f4), ((q0 7), zi k6 120 f6), ((q0 28), zi k20 400 (a84_ 2)), ((q0 27), zi k19 400 (a84_ 1))] := by rw [e_f_207]; exact hD
                          refine lv_aload_n hx hb dX13_measure_208 rfl (lv_at hl 0 rfl) ?_
                          refine va_get (D := (dC, dI)) (ci := 13) (v := .ref (q0 26)) (C := RX13) (T := TX13) (N := 75) hx hb hG zuX13 hown hK hP 0 rfl rfl 26 (by decide) (hG _ zv1630) (fun _ h9 => h9) rfl dX13_measure_209 ?_
                          refine lv_iload_n hx hb dX13_measure_212 rfl (lv_at hl 2 rfl) ?_
                          refine lv_iload_n hx hb dX13_measure_213 rfl (lv_at hl 1 rfl) ?_
                          refine va_iast hx hb hK hP hD hS 2 1 rfl rfl (zin_lit ⟨by omega, by omega⟩) dX13_measure_214 (fun H locs hP hD hS => ?_)
                          obtain ⟨f_214, e_f_214⟩ : ∃ z : Nat → Int32, z = upd (a158_ 1) ((u158_ 0) : Int32).toNatClampNeg (u32_ 0) := ⟨_, rfl⟩
                          have hP : va_P (dC, dI) vwCl [(h0, .inr (13, mX13 q0 v0)), ((q0 25), zi k17 400 f_207), ((q0 26), zi k18 400 f_214), ((q0 5), zi k4 122880 f4), ((q0 7), zi k6 120 f6), ((q0 28), zi k20 400 (a84_ 2)), ((q0 27), zi k19 400 (a84_ 1))] H := by rw [e_f_214]; exact hP
                          have hD : va_D A [(h0, .inr (13, mX13 q0 v0)), ((q0 25), zi k17 400 f_207), ((q0 26), zi k18 400 f_214), ((q0 5), zi k4 122880 f4), ((q0 7), zi k6 120 f6), ((q0 28), zi k20 400 (a84_ 2)), ((q0 27), zi k19 400 (a84_ 1))] := by rw [e_f_214]; exact hD
                          have hf_214 : zA (-1) 119 f_214 := by rw [e_f_214]; exact zA_upd ha158_1 (show (-1) ≤ ((u32_ 0) : Int32).toInt from by omega) (show ((u32_ 0) : Int32).toInt ≤ 119 from by omega)
                          obtain ⟨z215, e_z215⟩ : ∃ z : Int32, z = (u158_ 0) + Int32.ofInt 1 := ⟨_, rfl⟩
                          have b_ := zadd (x := (u158_ 0)) (y := Int32.ofInt 1) rfl (show (Int32.ofInt 1).toInt = 1 from by decide) e_z215 (by omega) (by omega)
                          refine lv_iinc (v := z215) (lv' := [(2, .int z215), (0, .ref h0), (1, .int (u32_ 0))]) hx hb dX13_measure_215 hl (k := 2) rfl e_z215.symm (by decide) rfl (fun ls hl => ?_)
                          have hg4 := zM4_g (i := (u158_ 0)) hI158_0 (by omega) (by omega) rfl (by omega) (by omega)
                          rw [← e_z184, ← e_z191, ← e_z201] at hg4
                          have q1 := zgam_21 (x := z192.toInt) (by omega) (by omega)
                          have q2 := zgam_1 (x := z192.toInt) (by omega)
                          have e7 : z201.toInt = z171.toInt := congrArg Int32.toInt (e_z201.trans e_z171.symm)
                          have q3 := zgam_21 (x := z201.toInt) (by omega) (by omega)
                          have q4 := zgam_1 (x := z201.toInt) (by omega)
                          have b_ := zadd hX193_0 hX202_0 e_z205 (by omega) (by omega)
                          have b_ := zadd (x := z184) (y := z205) rfl rfl e_z206 (by omega) (by omega)
                          have hm4 : zM4 (a84_ 2) f_207 f_214 f4 f6 (v0 4).toInt (u32_ 0).toInt z215.toInt := by rw [e_f_207, e_f_214]; exact zM4_y (i := (u158_ 0)) hI158_0 (by omega) (by omega) (by rw [hke]; omega) rfl (by omega) (by rw [← e_z171]; omega) (by rw [← e_z184, ← e_z191, ← e_z201, show (u32_ 0).toInt - z191.toInt = z192.toInt from by omega]; omega) rfl (by omega)
                          refine lv_goto (tgt := 158) hx hb dX13_measure_218 (by decide) ?_
                          have hc : va_P (dC, dI) vwCl [(h0, .inr (13, mX13 q0 v0)), ((q0 25), zi k17 400 f_207), ((q0 26), zi k18 400 f_214), ((q0 5), zi k4 122880 f4), ((q0 7), zi k6 120 f6), ((q0 28), zi k20 400 (a84_ 2)), ((q0 27), zi k19 400 (a84_ 1))] H ∧ va_D A [(h0, .inr (13, mX13 q0 v0)), ((q0 25), zi k17 400 f_207), ((q0 26), zi k18 400 f_214), ((q0 5), zi k4 122880 f4), ((q0 7), zi k6 120 f6), ((q0 28), zi k20 400 (a84_ 2)), ((q0 27), zi k19 400 (a84_ 1))] ∧ va_S A s.heap H locs ∧ lv_has ls 4 [(0, .ref h0), (1, .int (u32_ 0)), (2, .int z215)] ∧ zA (-1) 119 f_214 ∧ (0 ≤ z215.toInt ∧ z215.toInt ≤ 400) ∧ (zM4 (a84_ 2) f_207 f_214 f4 f6 (v0 4).toInt (u32_ 0).toInt z215.toInt) ∧ (z215.toInt ≤ (v0 4).toInt) := ⟨hP, hD, hS, lv_sub hl [1, 2, 0] rfl, hf_214, (by first | with_reducible assumption | exact ⟨by omega, by omega⟩), by first | exact hm4 | exact zM4_0 hI84_0 (by omega) hI32_0 (by omega), by omega⟩
                          exact hJ158 H locs ls (fun i => ([z215] : List (Int32)).getD i 0) (fun _ => 0) (fun i => ([f_207, f_214] : List (Nat → Int32)).getD i (fun _ => 0)) (fun _ => (fun _ => 0)) hc (show (400 - z215.toInt).toNat < (400 - (u158_ 0).toInt).toNat from by omega)
                        · skip
                          have b_ := zF_ne rfl zk_0 c_
                          refine lv_goto (tgt := 215) hx hb dX13_measure_175 (by decide) ?_
                          obtain ⟨z215, e_z215⟩ : ∃ z : Int32, z = (u158_ 0) + Int32.ofInt 1 := ⟨_, rfl⟩
                          have b_ := zadd (x := (u158_ 0)) (y := Int32.ofInt 1) rfl (show (Int32.ofInt 1).toInt = 1 from by decide) e_z215 (by omega) (by omega)
                          refine lv_iinc (v := z215) (lv' := [(2, .int z215), (0, .ref h0), (1, .int (u32_ 0))]) hx hb dX13_measure_215 hl (k := 2) rfl e_z215.symm (by decide) rfl (fun ls hl => ?_)
                          have hm4 : zM4 (a84_ 2) (a158_ 0) (a158_ 1) f4 f6 (v0 4).toInt (u32_ 0).toInt z215.toInt := zM4_n (i := (u158_ 0)) hI158_0 (by omega) (by omega) (by rw [hke]; omega) rfl (by rw [← e_z171]; omega) (by omega)
                          refine lv_goto (tgt := 158) hx hb dX13_measure_218 (by decide) ?_
                          have hc : va_P (dC, dI) vwCl [(h0, .inr (13, mX13 q0 v0)), ((q0 25), zi k17 400 (a158_ 0)), ((q0 26), zi k18 400 (a158_ 1)), ((q0 5), zi k4 122880 f4), ((q0 7), zi k6 120 f6), ((q0 28), zi k20 400 (a84_ 2)), ((q0 27), zi k19 400 (a84_ 1))] H ∧ va_D A [(h0, .inr (13, mX13 q0 v0)), ((q0 25), zi k17 400 (a158_ 0)), ((q0 26), zi k18 400 (a158_ 1)), ((q0 5), zi k4 122880 f4), ((q0 7), zi k6 120 f6), ((q0 28), zi k20 400 (a84_ 2)), ((q0 27), zi k19 400 (a84_ 1))] ∧ va_S A s.heap H locs ∧ lv_has ls 4 [(0, .ref h0), (1, .int (u32_ 0)), (2, .int z215)] ∧ zA (-1) 119 (a158_ 1) ∧ (0 ≤ z215.toInt ∧ z215.toInt ≤ 400) ∧ (zM4 (a84_ 2) (a158_ 0) (a158_ 1) f4 f6 (v0 4).toInt (u32_ 0).toInt z215.toInt) ∧ (z215.toInt ≤ (v0 4).toInt) := ⟨hP, hD, hS, lv_sub hl [1, 2, 0] rfl, ha158_1, (by first | with_reducible assumption | exact ⟨by omega, by omega⟩), by first | exact hm4 | exact zM4_0 hI84_0 (by omega) hI32_0 (by omega), by omega⟩
                          exact hJ158 H locs ls (fun i => ([z215] : List (Int32)).getD i 0) (fun _ => 0) (fun i => ([(a158_ 0), (a158_ 1)] : List (Nat → Int32)).getD i (fun _ => 0)) (fun _ => (fun _ => 0)) hc (show (400 - z215.toInt).toNat < (400 - (u158_ 0).toInt).toNat from by omega)
                    · skip
                      have hc : va_P (dC, dI) vwCl [(h0, .inr (13, mX13 q0 v0)), ((q0 25), zi k17 400 (a84_ 0)), ((q0 26), zi k18 400 (a32_ 1)), ((q0 5), zi k4 122880 f4), ((q0 7), zi k6 120 f6), ((q0 28), zi k20 400 (a84_ 2)), ((q0 27), zi k19 400 (a84_ 1))] H ∧ va_D A [(h0, .inr (13, mX13 q0 v0)), ((q0 25), zi k17 400 (a84_ 0)), ((q0 26), zi k18 400 (a32_ 1)), ((q0 5), zi k4 122880 f4), ((q0 7), zi k6 120 f6), ((q0 28), zi k20 400 (a84_ 2)), ((q0 27), zi k19 400 (a84_ 1))] ∧ va_S A s.heap H locs ∧ lv_has ls 4 [(0, .ref h0), (1, .int (u32_ 0)), (2, .int 0)] ∧ zA (-1) 119 (a32_ 1) ∧ (0 ≤ (0 : Int32).toInt ∧ (0 : Int32).toInt ≤ 400) ∧ (zM4 (a84_ 2) (a84_ 0) (a32_ 1) f4 f6 (v0 4).toInt (u32_ 0).toInt (0 : Int32).toInt) ∧ ((0 : Int32).toInt ≤ (v0 4).toInt) := ⟨hP, hD, hS, lv_sub hl [1, 2, 0] rfl, ha32_1, (by first | with_reducible assumption | exact ⟨by omega, by omega⟩), by first | exact hm4 | exact zM4_0 hI84_0 (by omega) hI32_0 (by omega), by omega⟩
                      exact hJ158 H locs ls (fun i => ([0] : List (Int32)).getD i 0) (fun _ => 0) (fun i => ([(a84_ 0), (a32_ 1)] : List (Nat → Int32)).getD i (fun _ => 0)) (fun _ => (fun _ => 0)) hc
                  · skip
                    have b_ := zF_ge rfl zk_1024 c_
                    refine lv_aload_n hx hb dX13_measure_91 rfl (lv_at hl 0 rfl) ?_
                    refine va_get (D := (dC, dI)) (ci := 13) (v := .ref (q0 5)) (C := RX13) (T := TX13) (N := 75) hx hb hG zuX13 hown hK hP 0 rfl rfl 5 (by decide) (hG _ zv1609) (fun _ h9 => h9) rfl dX13_measure_92 ?_
                    refine lv_sipush (v := 1024) hx hb dX13_measure_95 (by decide) ?_
                    refine lv_iload_n hx hb dX13_measure_98 rfl (lv_at hl 1 rfl) ?_
                    refine lv_imul hx hb dX13_measure_99 ?_
                    refine lv_topi (fun z99 e_z99 => ?_)
                    have b_ := zmul zk_1024 rfl e_z99 (by omega) (by omega)
                    refine lv_iload_n hx hb dX13_measure_100 rfl (lv_at hl 2 rfl) ?_
                    refine lv_iadd hx hb dX13_measure_101 ?_
                    refine lv_topi (fun z101 e_z101 => ?_)
                    have b_ := zadd rfl rfl e_z101 (by omega) (by omega)
                    refine va_sald hx hb hK hP 3 2 rfl rfl (zin_lit ⟨by omega, by omega⟩) dX13_measure_102 ?_
                    refine lv_topi (fun z102 e_z102 => ?_)
                    have b_ : 0 ≤ z102.toInt ∧ z102.toInt ≤ 400 := by rw [e_z102]; exact hf4 _
                    have hat : (f4 (1024 * (u32_ 0).toInt + (u84_ 0).toInt).toNat).toInt = z102.toInt := congrArg Int32.toInt ((e_z102.trans (zix (by omega))).symm)
                    refine lv_iconst (v := 1) hx hb dX13_measure_103 (by decide) ?_
                    refine lv_isub hx hb dX13_measure_104 ?_
                    refine lv_topi (fun z104 e_z104 => ?_)
                    have b_ := zsub rfl zk_1 e_z104 (by omega) (by omega)
                    refine lv_istore_n (lv' := [(3, .int z104), (0, .ref h0), (1, .int (u32_ 0)), (2, .int (u84_ 0))]) hx hb dX13_measure_105 rfl hl (by decide) rfl (fun ls hl => ?_)
                    refine lv_iload_n hx hb dX13_measure_106 rfl (lv_at hl 0 rfl) ?_
                    refine lv_if_ge (tgt := 113) hx hb dX13_measure_107 (by decide) (fun c_ => ?_) (fun c_ => ?_)
                    · skip
                      have b_ := zT_ge rfl zk_0 c_
                      refine lv_aload_n hx hb dX13_measure_113 rfl (lv_at hl 1 rfl) ?_
                      refine va_get (D := (dC, dI)) (ci := 13) (v := .ref (q0 28)) (C := RX13) (T := TX13) (N := 75) hx hb hG zuX13 hown hK hP 0 rfl rfl 28 (by decide) (hG _ zv1632) (fun _ h9 => h9) rfl dX13_measure_114 ?_
                      refine lv_iload_n hx hb dX13_measure_117 rfl (lv_at hl 0 rfl) ?_
                      refine lv_dup2_11 hx hb dX13_measure_118 rfl rfl ?_
                      refine va_iald hx hb hK hP 5 4 rfl rfl (zin_lit ⟨by omega, by omega⟩) dX13_measure_119 ?_
                      refine lv_topi (fun z119 e_z119 => ?_)
                      refine lv_iconst (v := 1) hx hb dX13_measure_120 (by decide) ?_
                      have b_ : -2147483648 ≤ z119.toInt ∧ z119.toInt ≤ 2147483647 := ⟨zlo _, zhi _⟩
                      refine lv_iadd hx hb dX13_measure_121 ?_
                      refine lv_topi (fun z121 e_z121 => ?_)
                      refine va_iast hx hb hK hP hD hS 5 4 rfl rfl (zin_lit ⟨by omega, by omega⟩) dX13_measure_122 (fun H locs hP hD hS => ?_)
                      obtain ⟨f_122, e_f_122⟩ : ∃ z : Nat → Int32, z = upd (a84_ 2) (z104 : Int32).toNatClampNeg z121 := ⟨_, rfl⟩
                      have hP : va_P (dC, dI) vwCl [(h0, .inr (13, mX13 q0 v0)), ((q0 25), zi k17 400 (a84_ 0)), ((q0 26), zi k18 400 (a32_ 1)), ((q0 5), zi k4 122880 f4), ((q0 7), zi k6 120 f6), ((q0 28), zi k20 400 f_122), ((q0 27), zi k19 400 (a84_ 1))] H := by rw [e_f_122]; exact hP
                      have hD : va_D A [(h0, .inr (13, mX13 q0 v0)), ((q0 25), zi k17 400 (a84_ 0)), ((q0 26), zi k18 400 (a32_ 1)), ((q0 5), zi k4 122880 f4), ((q0 7), zi k6 120 f6), ((q0 28), zi k20 400 f_122), ((q0 27), zi k19 400 (a84_ 1))] := by rw [e_f_122]; exact hD
                      refine lv_aload_n hx hb dX13_measure_123 rfl (lv_at hl 1 rfl) ?_
                      refine va_get (D := (dC, dI)) (ci := 13) (v := .ref (q0 25)) (C := RX13) (T := TX13) (N := 75) hx hb hG zuX13 hown hK hP 0 rfl rfl 25 (by decide) (hG _ zv1629) (fun _ h9 => h9) rfl dX13_measure_124 ?_
                      refine lv_iload_n hx hb dX13_measure_127 rfl (lv_at hl 0 rfl) ?_
                      refine lv_dup2_11 hx hb dX13_measure_128 rfl rfl ?_
                      refine va_iald hx hb hK hP 1 0 rfl rfl (zin_lit ⟨by omega, by omega⟩) dX13_measure_129 ?_
                      refine lv_topi (fun z129 e_z129 => ?_)
                      refine lv_iload_n hx hb dX13_measure_130 rfl (lv_at hl 3 rfl) ?_
                      refine lv_aload_n hx hb dX13_measure_131 rfl (lv_at hl 1 rfl) ?_
                      refine va_get (D := (dC, dI)) (ci := 13) (v := .ref (q0 27)) (C := RX13) (T := TX13) (N := 75) hx hb hG zuX13 hown hK hP 0 rfl rfl 27 (by decide) (hG _ zv1631) (fun _ h9 => h9) rfl dX13_measure_132 ?_
                      refine lv_iload_n hx hb dX13_measure_135 rfl (lv_at hl 0 rfl) ?_
                      refine va_iald hx hb hK hP 6 5 rfl rfl (zin_lit ⟨by omega, by omega⟩) dX13_measure_136 ?_
                      refine lv_topi (fun z136 e_z136 => ?_)
                      have b_ : (-1) ≤ z136.toInt ∧ z136.toInt ≤ 1023 := by rw [e_z136]; exact ha84_1 _
                      refine lv_isub hx hb dX13_measure_137 ?_
                      refine lv_topi (fun z137 e_z137 => ?_)
                      have b_ := zsub rfl rfl e_z137 (by omega) (by omega)
                      have hPc := hP.sub (ws' := []) [] rfl
                      have hDc := hD.sub (ws' := []) [] (by decide) rfl
                      have hKc := hK.sub (tys' := []) [] rfl
                      have hFc := va_free (wc := []) hD hS hA [] rfl
                      refine va_calli (va_runS (As := [.int z137]) (rest := [.int z129, .int z104, .ref (q0 25)]) ⟨hx, hb, hml, hown, hG⟩ (sX13_gamma_0 l dC dI adK adV H.size z137) (va_cwS 1 hG (zgS zv1906 zv1907 zv142 zv1908) rfl rfl rfl (by decide +kernel) ⟨Nat.le_of_ble_eq_true rfl, Nat.le_of_ble_eq_true rfl⟩) ⟨zPc_blind, zPc_pre hPc hKc hDc hE hS hFc hZ⟩ rfl rfl hl.1 rfl (lv_room (Nat.le_of_ble_eq_true rfl)) dX13_measure_138 ⟨Nat.le_of_ble_eq_true rfl, Nat.le_of_ble_eq_true rfl⟩) hS (fun q _ h => hFc q h) hFc (fun r138_ u138_ t H1 locs ht hvm hw hB hz1 hk1 hS => ?_)
                      replace hw : ((-1) ≤ r138_.toInt ∧ r138_.toInt ≤ 61) ∧ (r138_.toInt = zgam z137.toInt) := hw
                      obtain ⟨b_, hX138_0⟩ := hw
                      obtain ⟨w138_, a138_, b138_, hP1, hK1, hD1⟩ := hB
                      rw [ht] at hP1
                      obtain ⟨hP, hD⟩ := va_join (wr := [(h0, .inr (13, mX13 q0 v0)), ((q0 25), zi k17 400 (a84_ 0)), ((q0 26), zi k18 400 (a32_ 1)), ((q0 5), zi k4 122880 f4), ((q0 7), zi k6 120 f6), ((q0 28), zi k20 400 f_122), ((q0 27), zi k19 400 (a84_ 1))]) (w1 := []) hP hD [] [0, 1, 2, 3, 4, 5, 6] rfl rfl (by decide) (by decide) hk1 hFc hP1 hD1
                      have hP : va_P (dC, dI) vwCl [(h0, .inr (13, mX13 q0 v0)), ((q0 25), zi k17 400 (a84_ 0)), ((q0 26), zi k18 400 (a32_ 1)), ((q0 5), zi k4 122880 f4), ((q0 7), zi k6 120 f6), ((q0 28), zi k20 400 f_122), ((q0 27), zi k19 400 (a84_ 1))] H1 := hP.sub [0, 1, 2, 3, 4, 5, 6] rfl
                      have hD : va_D A [(h0, .inr (13, mX13 q0 v0)), ((q0 25), zi k17 400 (a84_ 0)), ((q0 26), zi k18 400 (a32_ 1)), ((q0 5), zi k4 122880 f4), ((q0 7), zi k6 120 f6), ((q0 28), zi k20 400 f_122), ((q0 27), zi k19 400 (a84_ 1))] := hD.sub [0, 1, 2, 3, 4, 5, 6] (by decide) rfl
                      generalize H1 = H at hP hS ⊢
                      clear hz1
                      have b_ : -2147483648 ≤ z129.toInt ∧ z129.toInt ≤ 2147483647 := ⟨zlo _, zhi _⟩
                      refine lv_iadd hx hb dX13_measure_141 ?_
                      refine lv_topi (fun z141 e_z141 => ?_)
                      refine va_iast hx hb hK hP hD hS 1 0 rfl rfl (zin_lit ⟨by omega, by omega⟩) dX13_measure_142 (fun H locs hP hD hS => ?_)
                      obtain ⟨f_142, e_f_142⟩ : ∃ z : Nat → Int32, z = upd (a84_ 0) (z104 : Int32).toNatClampNeg z141 := ⟨_, rfl⟩
                      have hP : va_P (dC, dI) vwCl [(h0, .inr (13, mX13 q0 v0)), ((q0 25), zi k17 400 f_142), ((q0 26), zi k18 400 (a32_ 1)), ((q0 5), zi k4 122880 f4), ((q0 7), zi k6 120 f6), ((q0 28), zi k20 400 f_122), ((q0 27), zi k19 400 (a84_ 1))] H := by rw [e_f_142]; exact hP
                      have hD : va_D A [(h0, .inr (13, mX13 q0 v0)), ((q0 25), zi k17 400 f_142), ((q0 26), zi k18 400 (a32_ 1)), ((q0 5), zi k4 122880 f4), ((q0 7), zi k6 120 f6), ((q0 28), zi k20 400 f_122), ((q0 27), zi k19 400 (a84_ 1))] := by rw [e_f_142]; exact hD
                      refine lv_aload_n hx hb dX13_measure_143 rfl (lv_at hl 1 rfl) ?_
                      refine va_get (D := (dC, dI)) (ci := 13) (v := .ref (q0 27)) (C := RX13) (T := TX13) (N := 75) hx hb hG zuX13 hown hK hP 0 rfl rfl 27 (by decide) (hG _ zv1631) (fun _ h9 => h9) rfl dX13_measure_144 ?_
                      refine lv_iload_n hx hb dX13_measure_147 rfl (lv_at hl 0 rfl) ?_
                      refine lv_iload_n hx hb dX13_measure_148 rfl (lv_at hl 3 rfl) ?_
                      refine va_iast hx hb hK hP hD hS 6 5 rfl rfl (zin_lit ⟨by omega, by omega⟩) dX13_measure_149 (fun H locs hP hD hS => ?_)
                      obtain ⟨f_149, e_f_149⟩ : ∃ z : Nat → Int32, z = upd (a84_ 1) (z104 : Int32).toNatClampNeg (u84_ 0) := ⟨_, rfl⟩
                      have hP : va_P (dC, dI) vwCl [(h0, .inr (13, mX13 q0 v0)), ((q0 25), zi k17 400 f_142), ((q0 26), zi k18 400 (a32_ 1)), ((q0 5), zi k4 122880 f4), ((q0 7), zi k6 120 f6), ((q0 28), zi k20 400 f_122), ((q0 27), zi k19 400 f_149)] H := by rw [e_f_149]; exact hP
                      have hD : va_D A [(h0, .inr (13, mX13 q0 v0)), ((q0 25), zi k17 400 f_142), ((q0 26), zi k18 400 (a32_ 1)), ((q0 5), zi k4 122880 f4), ((q0 7), zi k6 120 f6), ((q0 28), zi k20 400 f_122), ((q0 27), zi k19 400 f_149)] := by rw [e_f_149]; exact hD
                      have hf_149 : zA (-1) 1023 f_149 := by rw [e_f_149]; exact zA_upd ha84_1 (show (-1) ≤ ((u84_ 0) : Int32).toInt from by omega) (show ((u84_ 0) : Int32).toInt ≤ 1023 from by omega)
                      obtain ⟨z150, e_z150⟩ : ∃ z : Int32, z = (u84_ 0) + Int32.ofInt 1 := ⟨_, rfl⟩
                      have b_ := zadd (x := (u84_ 0)) (y := Int32.ofInt 1) rfl (show (Int32.ofInt 1).toInt = 1 from by decide) e_z150 (by omega) (by omega)
                      refine lv_iinc (v := z150) (lv' := [(2, .int z150), (3, .int z104), (0, .ref h0), (1, .int (u32_ 0))]) hx hb dX13_measure_150 hl (k := 3) rfl e_z150.symm (by decide) rfl (fun ls hl => ?_)
                      have hgg : z104.toInt < (v0 4).toInt → _ := fun h => zM3_g (i := z104) hI84_0 (by omega) h (by omega) (by omega) (by omega) (by omega)
                      have hxx : z104.toInt < (v0 4).toInt → z121.toInt = ((a84_ 2) (z104 : Int32).toNatClampNeg).toInt + 1 := fun h => by have q := hgg h; exact zadd (congrArg Int32.toInt e_z119) zk_1 e_z121 (by omega) (by omega)
                      have hyy : z104.toInt < (v0 4).toInt → z141.toInt = ((a84_ 0) (z104 : Int32).toNatClampNeg).toInt + zgam ((u84_ 0).toInt - ((a84_ 1) (z104 : Int32).toNatClampNeg).toInt) := fun h => by have q := hgg h; have q1 := hX138_0; have q2 := zgam_21 (x := z137.toInt) (by rw [← e_z136] at q; omega) (by omega); have q3 := zgam_1 (x := z137.toInt) (by rw [← e_z136] at q; omega); rw [← e_z136, show (u84_ 0).toInt - z136.toInt = z137.toInt from by omega]; exact zadd (congrArg Int32.toInt e_z129) hX138_0 e_z141 (by omega) (by omega)
                      have hm3 : zM3 f_122 f_149 f_142 f4 f6 (v0 4).toInt (u32_ 0).toInt z150.toInt := by rw [e_f_122, e_f_149, e_f_142]; exact zM3_y hI84_0 (by omega) hat (by omega) (by omega) hxx hyy rfl (by omega)
                      refine lv_goto (tgt := 84) hx hb dX13_measure_153 (by decide) ?_
                      have hc : va_P (dC, dI) vwCl [(h0, .inr (13, mX13 q0 v0)), ((q0 25), zi k17 400 f_142), ((q0 26), zi k18 400 (a32_ 1)), ((q0 5), zi k4 122880 f4), ((q0 7), zi k6 120 f6), ((q0 28), zi k20 400 f_122), ((q0 27), zi k19 400 f_149)] H ∧ va_D A [(h0, .inr (13, mX13 q0 v0)), ((q0 25), zi k17 400 f_142), ((q0 26), zi k18 400 (a32_ 1)), ((q0 5), zi k4 122880 f4), ((q0 7), zi k6 120 f6), ((q0 28), zi k20 400 f_122), ((q0 27), zi k19 400 f_149)] ∧ va_S A s.heap H locs ∧ lv_has ls 4 [(0, .ref h0), (1, .int (u32_ 0)), (2, .int z150)] ∧ zA (-1) 1023 f_149 ∧ (0 ≤ z150.toInt ∧ z150.toInt ≤ 1024) ∧ (zM3 f_122 f_149 f_142 f4 f6 (v0 4).toInt (u32_ 0).toInt z150.toInt) ∧ (z150.toInt ≤ 1024) := ⟨hP, hD, hS, lv_sub hl [2, 3, 0] rfl, hf_149, (by first | with_reducible assumption | exact ⟨by omega, by omega⟩), by first | exact hm3 | exact zM3_0 hI32_0 hI54_0 (by omega) (by omega), by omega⟩
                      exact hJ84 H locs ls (fun i => ([z150] : List (Int32)).getD i 0) (fun _ => 0) (fun i => ([f_142, f_149, f_122] : List (Nat → Int32)).getD i (fun _ => 0)) (fun _ => (fun _ => 0)) hc (show (1024 - z150.toInt).toNat < (1024 - (u84_ 0).toInt).toNat from by omega)
                    · skip
                      have b_ := zF_ge rfl zk_0 c_
                      refine lv_goto (tgt := 150) hx hb dX13_measure_110 (by decide) ?_
                      obtain ⟨z150, e_z150⟩ : ∃ z : Int32, z = (u84_ 0) + Int32.ofInt 1 := ⟨_, rfl⟩
                      have b_ := zadd (x := (u84_ 0)) (y := Int32.ofInt 1) rfl (show (Int32.ofInt 1).toInt = 1 from by decide) e_z150 (by omega) (by omega)
                      refine lv_iinc (v := z150) (lv' := [(2, .int z150), (3, .int z104), (0, .ref h0), (1, .int (u32_ 0))]) hx hb dX13_measure_150 hl (k := 3) rfl e_z150.symm (by decide) rfl (fun ls hl => ?_)
                      have hm3 : zM3 (a84_ 2) (a84_ 1) (a84_ 0) f4 f6 (v0 4).toInt (u32_ 0).toInt z150.toInt := zM3_n hI84_0 (by omega) (by rw [hat]; omega) (by omega)
                      refine lv_goto (tgt := 84) hx hb dX13_measure_153 (by decide) ?_
                      have hc : va_P (dC, dI) vwCl [(h0, .inr (13, mX13 q0 v0)), ((q0 25), zi k17 400 (a84_ 0)), ((q0 26), zi k18 400 (a32_ 1)), ((q0 5), zi k4 122880 f4), ((q0 7), zi k6 120 f6), ((q0 28), zi k20 400 (a84_ 2)), ((q0 27), zi k19 400 (a84_ 1))] H ∧ va_D A [(h0, .inr (13, mX13 q0 v0)), ((q0 25), zi k17 400 (a84_ 0)), ((q0 26), zi k18 400 (a32_ 1)), ((q0 5), zi k4 122880 f4), ((q0 7), zi k6 120 f6), ((q0 28), zi k20 400 (a84_ 2)), ((q0 27), zi k19 400 (a84_ 1))] ∧ va_S A s.heap H locs ∧ lv_has ls 4 [(0, .ref h0), (1, .int (u32_ 0)), (2, .int z150)] ∧ zA (-1) 1023 (a84_ 1) ∧ (0 ≤ z150.toInt ∧ z150.toInt ≤ 1024) ∧ (zM3 (a84_ 2) (a84_ 1) (a84_ 0) f4 f6 (v0 4).toInt (u32_ 0).toInt z150.toInt) ∧ (z150.toInt ≤ 1024) := ⟨hP, hD, hS, lv_sub hl [2, 3, 0] rfl, ha84_1, (by first | with_reducible assumption | exact ⟨by omega, by omega⟩), by first | exact hm3 | exact zM3_0 hI32_0 hI54_0 (by omega) (by omega), by omega⟩
                      exact hJ84 H locs ls (fun i => ([z150] : List (Int32)).getD i 0) (fun _ => 0) (fun i => ([(a84_ 0), (a84_ 1), (a84_ 2)] : List (Nat → Int32)).getD i (fun _ => 0)) (fun _ => (fun _ => 0)) hc (show (1024 - z150.toInt).toNat < (1024 - (u84_ 0).toInt).toNat from by omega)
                · skip
                  have hc : va_P (dC, dI) vwCl [(h0, .inr (13, mX13 q0 v0)), ((q0 25), zi k17 400 (a32_ 0)), ((q0 26), zi k18 400 (a32_ 1)), ((q0 5), zi k4 122880 f4), ((q0 7), zi k6 120 f6), ((q0 28), zi k20 400 (a54_ 1)), ((q0 27), zi k19 400 (a54_ 0))] H ∧ va_D A [(h0, .inr (13, mX13 q0 v0)), ((q0 25), zi k17 400 (a32_ 0)), ((q0 26), zi k18 400 (a32_ 1)), ((q0 5), zi k4 122880 f4), ((q0 7), zi k6 120 f6), ((q0 28), zi k20 400 (a54_ 1)), ((q0 27), zi k19 400 (a54_ 0))] ∧ va_S A s.heap H locs ∧ lv_has ls 4 [(0, .ref h0), (1, .int (u32_ 0)), (2, .int 0)] ∧ zA (-1) 1023 (a54_ 0) ∧ (0 ≤ (0 : Int32).toInt ∧ (0 : Int32).toInt ≤ 1024) ∧ (zM3 (a54_ 1) (a54_ 0) (a32_ 0) f4 f6 (v0 4).toInt (u32_ 0).toInt (0 : Int32).toInt) ∧ ((0 : Int32).toInt ≤ 1024) := ⟨hP, hD, hS, lv_sub hl [1, 2, 0] rfl, ha54_0, (by first | with_reducible assumption | exact ⟨by omega, by omega⟩), by first | exact hm3 | exact zM3_0 hI32_0 hI54_0 (by omega) (by omega), by omega⟩
                  exact hJ84 H locs ls (fun i => ([0] : List (Int32)).getD i 0) (fun _ => 0) (fun i => ([(a32_ 0), (a54_ 0), (a54_ 1)] : List (Nat → Int32)).getD i (fun _ => 0)) (fun _ => (fun _ => 0)) hc
              · skip
                have b_ := zF_ge rfl rfl c_
                refine lv_aload_n hx hb dX13_measure_62 rfl (lv_at hl 0 rfl) ?_
                refine va_get (D := (dC, dI)) (ci := 13) (v := .ref (q0 28)) (C := RX13) (T := TX13) (N := 75) hx hb hG zuX13 hown hK hP 0 rfl rfl 28 (by decide) (hG _ zv1632) (fun _ h9 => h9) rfl dX13_measure_63 ?_
                refine lv_iload_n hx hb dX13_measure_66 rfl (lv_at hl 2 rfl) ?_
                refine lv_iconst (v := 0) hx hb dX13_measure_67 (by decide) ?_
                refine va_iast hx hb hK hP hD hS 5 4 rfl rfl (zin_lit ⟨by omega, by omega⟩) dX13_measure_68 (fun H locs hP hD hS => ?_)
                obtain ⟨f_68, e_f_68⟩ : ∃ z : Nat → Int32, z = upd (a54_ 1) ((u54_ 0) : Int32).toNatClampNeg 0 := ⟨_, rfl⟩
                have hP : va_P (dC, dI) vwCl [(h0, .inr (13, mX13 q0 v0)), ((q0 25), zi k17 400 (a32_ 0)), ((q0 26), zi k18 400 (a32_ 1)), ((q0 5), zi k4 122880 f4), ((q0 7), zi k6 120 f6), ((q0 28), zi k20 400 f_68), ((q0 27), zi k19 400 (a54_ 0))] H := by rw [e_f_68]; exact hP
                have hD : va_D A [(h0, .inr (13, mX13 q0 v0)), ((q0 25), zi k17 400 (a32_ 0)), ((q0 26), zi k18 400 (a32_ 1)), ((q0 5), zi k4 122880 f4), ((q0 7), zi k6 120 f6), ((q0 28), zi k20 400 f_68), ((q0 27), zi k19 400 (a54_ 0))] := by rw [e_f_68]; exact hD
                refine lv_aload_n hx hb dX13_measure_69 rfl (lv_at hl 0 rfl) ?_
                refine va_get (D := (dC, dI)) (ci := 13) (v := .ref (q0 27)) (C := RX13) (T := TX13) (N := 75) hx hb hG zuX13 hown hK hP 0 rfl rfl 27 (by decide) (hG _ zv1631) (fun _ h9 => h9) rfl dX13_measure_70 ?_
                refine lv_iload_n hx hb dX13_measure_73 rfl (lv_at hl 2 rfl) ?_
                refine lv_iconst (v := (-1)) hx hb dX13_measure_74 (by decide) ?_
                refine va_iast hx hb hK hP hD hS 6 5 rfl rfl (zin_lit ⟨by omega, by omega⟩) dX13_measure_75 (fun H locs hP hD hS => ?_)
                obtain ⟨f_75, e_f_75⟩ : ∃ z : Nat → Int32, z = upd (a54_ 0) ((u54_ 0) : Int32).toNatClampNeg (-1) := ⟨_, rfl⟩
                have hP : va_P (dC, dI) vwCl [(h0, .inr (13, mX13 q0 v0)), ((q0 25), zi k17 400 (a32_ 0)), ((q0 26), zi k18 400 (a32_ 1)), ((q0 5), zi k4 122880 f4), ((q0 7), zi k6 120 f6), ((q0 28), zi k20 400 f_68), ((q0 27), zi k19 400 f_75)] H := by rw [e_f_75]; exact hP
                have hD : va_D A [(h0, .inr (13, mX13 q0 v0)), ((q0 25), zi k17 400 (a32_ 0)), ((q0 26), zi k18 400 (a32_ 1)), ((q0 5), zi k4 122880 f4), ((q0 7), zi k6 120 f6), ((q0 28), zi k20 400 f_68), ((q0 27), zi k19 400 f_75)] := by rw [e_f_75]; exact hD
                have hf_75 : zA (-1) 1023 f_75 := by rw [e_f_75]; exact zA_upd ha54_0 (show (-1) ≤ ((-1) : Int32).toInt from by decide) (show ((-1) : Int32).toInt ≤ 1023 from by decide)
                obtain ⟨z76, e_z76⟩ : ∃ z : Int32, z = (u54_ 0) + Int32.ofInt 1 := ⟨_, rfl⟩
                have b_ := zadd (x := (u54_ 0)) (y := Int32.ofInt 1) rfl (show (Int32.ofInt 1).toInt = 1 from by decide) e_z76 (by omega) (by omega)
                refine lv_iinc (v := z76) (lv' := [(2, .int z76), (0, .ref h0), (1, .int (u32_ 0))]) hx hb dX13_measure_76 hl (k := 2) rfl e_z76.symm (by decide) rfl (fun ls hl => ?_)
                refine lv_goto (tgt := 54) hx hb dX13_measure_79 (by decide) ?_
                have hc : va_P (dC, dI) vwCl [(h0, .inr (13, mX13 q0 v0)), ((q0 25), zi k17 400 (a32_ 0)), ((q0 26), zi k18 400 (a32_ 1)), ((q0 5), zi k4 122880 f4), ((q0 7), zi k6 120 f6), ((q0 28), zi k20 400 f_68), ((q0 27), zi k19 400 f_75)] H ∧ va_D A [(h0, .inr (13, mX13 q0 v0)), ((q0 25), zi k17 400 (a32_ 0)), ((q0 26), zi k18 400 (a32_ 1)), ((q0 5), zi k4 122880 f4), ((q0 7), zi k6 120 f6), ((q0 28), zi k20 400 f_68), ((q0 27), zi k19 400 f_75)] ∧ va_S A s.heap H locs ∧ lv_has ls 4 [(0, .ref h0), (1, .int (u32_ 0)), (2, .int z76)] ∧ zA (-1) 1023 f_75 ∧ (0 ≤ z76.toInt ∧ z76.toInt ≤ 400) ∧ (zM0 f_68 f_75 z76.toInt) ∧ (z76.toInt ≤ (v0 4).toInt) := ⟨hP, hD, hS, lv_sub hl [1, 2, 0] rfl, hf_75, (by first | with_reducible assumption | exact ⟨by omega, by omega⟩), by first | (rw [e_f_68, e_f_75]; exact zM0_s hI54_0 rfl (by omega) zk_0 zk_m1 (by omega)) | exact zM0_0 (by omega), by omega⟩
                exact hJ54 H locs ls (fun i => ([z76] : List (Int32)).getD i 0) (fun _ => 0) (fun i => ([f_75, f_68] : List (Nat → Int32)).getD i (fun _ => 0)) (fun _ => (fun _ => 0)) hc (show (400 - z76.toInt).toNat < (400 - (u54_ 0).toInt).toNat from by omega)
            · skip
              have hc : va_P (dC, dI) vwCl [(h0, .inr (13, mX13 q0 v0)), ((q0 25), zi k17 400 (a32_ 0)), ((q0 26), zi k18 400 (a32_ 1)), ((q0 5), zi k4 122880 f4), ((q0 7), zi k6 120 f6), ((q0 28), zi k20 400 (a32_ 3)), ((q0 27), zi k19 400 (a32_ 2))] H ∧ va_D A [(h0, .inr (13, mX13 q0 v0)), ((q0 25), zi k17 400 (a32_ 0)), ((q0 26), zi k18 400 (a32_ 1)), ((q0 5), zi k4 122880 f4), ((q0 7), zi k6 120 f6), ((q0 28), zi k20 400 (a32_ 3)), ((q0 27), zi k19 400 (a32_ 2))] ∧ va_S A s.heap H locs ∧ lv_has ls 4 [(0, .ref h0), (1, .int (u32_ 0)), (2, .int 0)] ∧ zA (-1) 1023 (a32_ 2) ∧ (0 ≤ (0 : Int32).toInt ∧ (0 : Int32).toInt ≤ 400) ∧ (zM0 (a32_ 3) (a32_ 2) (0 : Int32).toInt) ∧ ((0 : Int32).toInt ≤ (v0 4).toInt) := ⟨hP, hD, hS, lv_sub hl [1, 2, 0] rfl, ha32_2, (by first | with_reducible assumption | exact ⟨by omega, by omega⟩), by first | (rw [e_f_68, e_f_75]; exact zM0_s hI54_0 rfl (by omega) zk_0 zk_m1 (by omega)) | exact zM0_0 (by omega), by omega⟩
              exact hJ54 H locs ls (fun i => ([0] : List (Int32)).getD i 0) (fun _ => 0) (fun i => ([(a32_ 2), (a32_ 3)] : List (Nat → Int32)).getD i (fun _ => 0)) (fun _ => (fun _ => 0)) hc
          · skip
            have b_ := zF_ne rfl zk_0 c_
            refine lv_goto (tgt := 221) hx hb dX13_measure_49 (by decide) ?_
            obtain ⟨z221, e_z221⟩ : ∃ z : Int32, z = (u32_ 0) + Int32.ofInt 1 := ⟨_, rfl⟩
            have b_ := zadd (x := (u32_ 0)) (y := Int32.ofInt 1) rfl (show (Int32.ofInt 1).toInt = 1 from by decide) e_z221 (by omega) (by omega)
            refine lv_iinc (v := z221) (lv' := [(1, .int z221), (0, .ref h0)]) hx hb dX13_measure_221 hl (k := 1) rfl e_z221.symm (by decide) rfl (fun ls hl => ?_)
            have hm1 : zM1 (a32_ 0) (a32_ 1) f4 f6 (v0 4).toInt z221.toInt := zM1_n hI32_0 (by omega) (hke.trans (by omega)) (by omega)
            refine lv_goto (tgt := 32) hx hb dX13_measure_224 (by decide) ?_
            have hc : va_P (dC, dI) vwCl [(h0, .inr (13, mX13 q0 v0)), ((q0 25), zi k17 400 (a32_ 0)), ((q0 26), zi k18 400 (a32_ 1)), ((q0 5), zi k4 122880 f4), ((q0 7), zi k6 120 f6), ((q0 28), zi k20 400 (a32_ 3)), ((q0 27), zi k19 400 (a32_ 2))] H ∧ va_D A [(h0, .inr (13, mX13 q0 v0)), ((q0 25), zi k17 400 (a32_ 0)), ((q0 26), zi k18 400 (a32_ 1)), ((q0 5), zi k4 122880 f4), ((q0 7), zi k6 120 f6), ((q0 28), zi k20 400 (a32_ 3)), ((q0 27), zi k19 400 (a32_ 2))] ∧ va_S A s.heap H locs ∧ lv_has ls 4 [(0, .ref h0), (1, .int z221)] ∧ zA (-1) 119 (a32_ 1) ∧ zA (-1) 1023 (a32_ 2) ∧ (0 ≤ z221.toInt ∧ z221.toInt ≤ 120) ∧ (zM1 (a32_ 0) (a32_ 1) f4 f6 (v0 4).toInt z221.toInt) ∧ (z221.toInt ≤ (v0 13).toInt) := ⟨hP, hD, hS, lv_sub hl [1, 0] rfl, ha32_1, ha32_2, (by first | with_reducible assumption | exact ⟨by omega, by omega⟩), by first | exact hm1 | exact zM1_0 hI2_0 (by omega) (by omega), by omega⟩
            exact hJ32 H locs ls (fun i => ([z221] : List (Int32)).getD i 0) (fun _ => 0) (fun i => ([(a32_ 0), (a32_ 1), (a32_ 2), (a32_ 3)] : List (Nat → Int32)).getD i (fun _ => 0)) (fun _ => (fun _ => 0)) hc (show (120 - z221.toInt).toNat < (120 - (u32_ 0).toInt).toNat from by omega)
      · skip
        have hc : va_P (dC, dI) vwCl [(h0, .inr (13, mX13 q0 v0)), ((q0 25), zi k17 400 (a2_ 0)), ((q0 26), zi k18 400 (a2_ 1)), ((q0 5), zi k4 122880 f4), ((q0 7), zi k6 120 f6), ((q0 28), zi k20 400 f20), ((q0 27), zi k19 400 f19)] H ∧ va_D A [(h0, .inr (13, mX13 q0 v0)), ((q0 25), zi k17 400 (a2_ 0)), ((q0 26), zi k18 400 (a2_ 1)), ((q0 5), zi k4 122880 f4), ((q0 7), zi k6 120 f6), ((q0 28), zi k20 400 f20), ((q0 27), zi k19 400 f19)] ∧ va_S A s.heap H locs ∧ lv_has ls 4 [(0, .ref h0), (1, .int 0)] ∧ zA (-1) 119 (a2_ 1) ∧ zA (-1) 1023 f19 ∧ (0 ≤ (0 : Int32).toInt ∧ (0 : Int32).toInt ≤ 120) ∧ (zM1 (a2_ 0) (a2_ 1) f4 f6 (v0 4).toInt (0 : Int32).toInt) ∧ ((0 : Int32).toInt ≤ (v0 13).toInt) := ⟨hP, hD, hS, lv_sub hl [1, 0] rfl, ha2_1, hf19, (by first | with_reducible assumption | exact ⟨by omega, by omega⟩), by first | exact hm1 | exact zM1_0 hI2_0 (by omega) (by omega), by omega⟩
        exact hJ32 H locs ls (fun i => ([0] : List (Int32)).getD i 0) (fun _ => 0) (fun i => ([(a2_ 0), (a2_ 1), f19, f20] : List (Nat → Int32)).getD i (fun _ => 0)) (fun _ => (fun _ => 0)) hc
    · skip
      have b_ := zF_ge rfl rfl c_
      refine lv_aload_n hx hb dX13_measure_10 rfl (lv_at hl 0 rfl) ?_
      refine va_get (D := (dC, dI)) (ci := 13) (v := .ref (q0 25)) (C := RX13) (T := TX13) (N := 75) hx hb hG zuX13 hown hK hP 0 rfl rfl 25 (by decide) (hG _ zv1629) (fun _ h9 => h9) rfl dX13_measure_11 ?_
      refine lv_iload_n hx hb dX13_measure_14 rfl (lv_at hl 1 rfl) ?_
      refine lv_iconst (v := 0) hx hb dX13_measure_15 (by decide) ?_
      refine va_iast hx hb hK hP hD hS 1 0 rfl rfl (zin_lit ⟨by omega, by omega⟩) dX13_measure_16 (fun H locs hP hD hS => ?_)
      obtain ⟨f_16, e_f_16⟩ : ∃ z : Nat → Int32, z = upd (a2_ 0) ((u2_ 0) : Int32).toNatClampNeg 0 := ⟨_, rfl⟩
      have hP : va_P (dC, dI) vwCl [(h0, .inr (13, mX13 q0 v0)), ((q0 25), zi k17 400 f_16), ((q0 26), zi k18 400 (a2_ 1)), ((q0 5), zi k4 122880 f4), ((q0 7), zi k6 120 f6), ((q0 28), zi k20 400 f20), ((q0 27), zi k19 400 f19)] H := by rw [e_f_16]; exact hP
      have hD : va_D A [(h0, .inr (13, mX13 q0 v0)), ((q0 25), zi k17 400 f_16), ((q0 26), zi k18 400 (a2_ 1)), ((q0 5), zi k4 122880 f4), ((q0 7), zi k6 120 f6), ((q0 28), zi k20 400 f20), ((q0 27), zi k19 400 f19)] := by rw [e_f_16]; exact hD
      refine lv_aload_n hx hb dX13_measure_17 rfl (lv_at hl 0 rfl) ?_
      refine va_get (D := (dC, dI)) (ci := 13) (v := .ref (q0 26)) (C := RX13) (T := TX13) (N := 75) hx hb hG zuX13 hown hK hP 0 rfl rfl 26 (by decide) (hG _ zv1630) (fun _ h9 => h9) rfl dX13_measure_18 ?_
      refine lv_iload_n hx hb dX13_measure_21 rfl (lv_at hl 1 rfl) ?_
      refine lv_iconst (v := (-1)) hx hb dX13_measure_22 (by decide) ?_
      refine va_iast hx hb hK hP hD hS 2 1 rfl rfl (zin_lit ⟨by omega, by omega⟩) dX13_measure_23 (fun H locs hP hD hS => ?_)
      obtain ⟨f_23, e_f_23⟩ : ∃ z : Nat → Int32, z = upd (a2_ 1) ((u2_ 0) : Int32).toNatClampNeg (-1) := ⟨_, rfl⟩
      have hP : va_P (dC, dI) vwCl [(h0, .inr (13, mX13 q0 v0)), ((q0 25), zi k17 400 f_16), ((q0 26), zi k18 400 f_23), ((q0 5), zi k4 122880 f4), ((q0 7), zi k6 120 f6), ((q0 28), zi k20 400 f20), ((q0 27), zi k19 400 f19)] H := by rw [e_f_23]; exact hP
      have hD : va_D A [(h0, .inr (13, mX13 q0 v0)), ((q0 25), zi k17 400 f_16), ((q0 26), zi k18 400 f_23), ((q0 5), zi k4 122880 f4), ((q0 7), zi k6 120 f6), ((q0 28), zi k20 400 f20), ((q0 27), zi k19 400 f19)] := by rw [e_f_23]; exact hD
      have hf_23 : zA (-1) 119 f_23 := by rw [e_f_23]; exact zA_upd ha2_1 (show (-1) ≤ ((-1) : Int32).toInt from by decide) (show ((-1) : Int32).toInt ≤ 119 from by decide)
      obtain ⟨z24, e_z24⟩ : ∃ z : Int32, z = (u2_ 0) + Int32.ofInt 1 := ⟨_, rfl⟩
      have b_ := zadd (x := (u2_ 0)) (y := Int32.ofInt 1) rfl (show (Int32.ofInt 1).toInt = 1 from by decide) e_z24 (by omega) (by omega)
      refine lv_iinc (v := z24) (lv' := [(1, .int z24), (0, .ref h0)]) hx hb dX13_measure_24 hl (k := 1) rfl e_z24.symm (by decide) rfl (fun ls hl => ?_)
      refine lv_goto (tgt := 2) hx hb dX13_measure_27 (by decide) ?_
      have hc : va_P (dC, dI) vwCl [(h0, .inr (13, mX13 q0 v0)), ((q0 25), zi k17 400 f_16), ((q0 26), zi k18 400 f_23), ((q0 5), zi k4 122880 f4), ((q0 7), zi k6 120 f6), ((q0 28), zi k20 400 f20), ((q0 27), zi k19 400 f19)] H ∧ va_D A [(h0, .inr (13, mX13 q0 v0)), ((q0 25), zi k17 400 f_16), ((q0 26), zi k18 400 f_23), ((q0 5), zi k4 122880 f4), ((q0 7), zi k6 120 f6), ((q0 28), zi k20 400 f20), ((q0 27), zi k19 400 f19)] ∧ va_S A s.heap H locs ∧ lv_has ls 4 [(0, .ref h0), (1, .int z24)] ∧ zA (-1) 119 f_23 ∧ (0 ≤ z24.toInt ∧ z24.toInt ≤ 400) ∧ (zM0 f_16 f_23 z24.toInt) ∧ (z24.toInt ≤ (v0 4).toInt) := ⟨hP, hD, hS, lv_sub hl [1, 0] rfl, hf_23, (by first | with_reducible assumption | exact ⟨by omega, by omega⟩), by first | (rw [e_f_16, e_f_23]; exact zM0_s hI2_0 rfl (by omega) zk_0 zk_m1 (by omega)) | exact zM0_0 (by omega), by omega⟩
      exact hJ2 H locs ls (fun i => ([z24] : List (Int32)).getD i 0) (fun _ => 0) (fun i => ([f_16, f_23] : List (Nat → Int32)).getD i (fun _ => 0)) (fun _ => (fun _ => 0)) hc (show (400 - z24.toInt).toNat < (400 - (u2_ 0).toInt).toNat from by omega)
  · skip
    have hc : va_P (dC, dI) vwCl [(h0, .inr (13, mX13 q0 v0)), ((q0 25), zi k17 400 f17), ((q0 26), zi k18 400 f18), ((q0 5), zi k4 122880 f4), ((q0 7), zi k6 120 f6), ((q0 28), zi k20 400 f20), ((q0 27), zi k19 400 f19)] s.heap ∧ va_D A [(h0, .inr (13, mX13 q0 v0)), ((q0 25), zi k17 400 f17), ((q0 26), zi k18 400 f18), ((q0 5), zi k4 122880 f4), ((q0 7), zi k6 120 f6), ((q0 28), zi k20 400 f20), ((q0 27), zi k19 400 f19)] ∧ va_S A s.heap s.heap [] ∧ lv_has ls 4 [(0, .ref h0), (1, .int 0)] ∧ zA (-1) 119 f18 ∧ (0 ≤ (0 : Int32).toInt ∧ (0 : Int32).toInt ≤ 400) ∧ (zM0 f17 f18 (0 : Int32).toInt) ∧ ((0 : Int32).toInt ≤ (v0 4).toInt) := ⟨hP, hD, hS, lv_sub hl [1, 0] rfl, hf18, (by first | with_reducible assumption | exact ⟨by omega, by omega⟩), by first | (rw [e_f_16, e_f_23]; exact zM0_s hI2_0 rfl (by omega) zk_0 zk_m1 (by omega)) | exact zM0_0 (by omega), by omega⟩
    exact hJ2 s.heap [] ls (fun i => ([0] : List (Int32)).getD i 0) (fun _ => 0) (fun i => ([f17, f18] : List (Nat → Int32)).getD i (fun _ => 0)) (fun _ => (fun _ => 0)) hc
