set_option maxHeartbeats 8000000 in
set_option maxRecDepth 100000 in
theorem sX13_find_0 (l : Launch) (dC : Nat → ClassId) (dI : Nat → Nat → Nat) (adK adV : Nat → Nat) (h0 : Nat) (q0 : Nat → Nat) (k3 : ClassId) (k2 : ClassId) (k15 : ClassId) (sz : Nat) (v0 : Nat → Int32) (f3 : Nat → Int32) (f2 : Nat → Int32) (f15 : Nat → Int32) (hv0 : zR rg_Model v0) (hf3 : zA 0 12 f3) : Met l yX13_find (zw yX13_find cX13_find 2 (some .int)) { frames := 1, cells := 0, slots := 0, locals := 24 } (zPc dC dI adK adV [.ref h0] sz [(h0, .inr (13, mX13 q0 v0)), ((q0 3), zi k3 400 f3), ((q0 2), zi k2 4800 f2), ((q0 19), zi k15 12 f15)] [(k3, .int), (k2, .byte), (k15, .byte)]) (va_Qi (fun (r : Int32) (u : Nat → Int32) => ((-1) ≤ r.toInt ∧ r.toInt ≤ 399) ∧ (r.toInt < (v0 4).toInt) ∧ (zFd f2 f3 f15 (v0 20).toInt (v0 4).toInt r.toInt)) (fun (u : Nat → Int32) (t : State) => ∃ (ww : Nat → Int64) (aa : Nat → Nat → Int32) (bb : Nat → Nat → Int64), va_P (dC, dI) vwCl [(h0, .inr (13, mX13 q0 v0)), ((q0 3), zi k3 400 f3), ((q0 2), zi k2 4800 f2), ((q0 19), zi k15 12 f15)] t.heap ∧ va_K (dC, dI) vwCl [(k3, .int), (k2, .byte), (k15, .byte)] t ∧ va_D (va_A [(h0, .inr (13, mX13 q0 v0)), ((q0 3), zi k3 400 f3), ((q0 2), zi k2 4800 f2), ((q0 19), zi k15 12 f15)] sz) [(h0, .inr (13, mX13 q0 v0)), ((q0 3), zi k3 400 f3), ((q0 2), zi k2 4800 f2), ((q0 19), zi k15 12 f15)]) (va_A [(h0, .inr (13, mX13 q0 v0)), ((q0 3), zi k3 400 f3), ((q0 2), zi k2 4800 f2), ((q0 19), zi k15 12 f15)] sz)) 0 0 (va_A [(h0, .inr (13, mX13 q0 v0)), ((q0 3), zi k3 400 f3), ((q0 2), zi k2 4800 f2), ((q0 19), zi k15 12 f15)] sz) := by
  refine Met.ofW (cc := cX13_find) (maxL := 2) (ret := (some .int)) (by decide) rfl ?_
  intro p e s m args below meth c s₁ B hml hv
  obtain ⟨rfl, hsz, hP, hK, hD0, hE, hZ⟩ := hv
  have hx := B.exec
  have hb := B.bytes
  have hr := B.returns
  have hG : ∀ w ∈ zG, w.before _ s = true := fun w h => atoms_spec (ws := (zw yX13_find cX13_find 2 (some .int))) B.pre w (List.mem_cons_of_mem _ h)
  have hown : s.vm.findClass RX13 = some m.cls := findClass_of_methodNamed B.named
  have hlocks := B.notSynchronized

  subst hsz
  have hD := hD0.self (sz := s.heap.size)
  generalize hAe : va_A [(h0, .inr (13, mX13 q0 v0)), ((q0 3), zi k3 400 f3), ((q0 2), zi k2 4800 f2), ((q0 19), zi k15 12 f15)] s.heap.size = A at hD hZ ⊢
  have hA : ∀ q : Nat, s.heap.size ≤ q → A q := fun q h => by rw [← hAe]; exact Or.inr h
  have hS : va_S A s.heap s.heap [] := va_S.rf
  have hl := lv_entry ([.ref h0]) (n := 2) (Nat.le_of_ble_eq_true rfl)
  rw [lg_entry_eq]
  generalize (lg_sl ([.ref h0]) ++ List.replicate (2 - (lg_sl ([.ref h0])).length) Slot.unset).toArray = ls at hl ⊢
  have hl : lv_has ls 2 [(0, .ref h0)] := hl
  have b_ := zk_m1
  have b_ := zk_0
  have b_ : 0 ≤ (v0 4).toInt ∧ (v0 4).toInt ≤ 400 := hv0 4
  have b_ : 0 ≤ (v0 20).toInt ∧ (v0 20).toInt ≤ 12 := hv0 20
  refine lv_iconst (v := 0) hx hb dX13_find_0 (by decide) ?_
  refine lv_istore_n (lv' := [(1, .int 0), (0, .ref h0)]) hx hb dX13_find_1 rfl hl (by decide) rfl (fun ls hl => ?_)
  refine zcutL (fun u2_ => (400 - (u2_ 0).toInt).toNat) (fun H locs ls u2_ w2_ a2_ b2_ => va_P (dC, dI) vwCl [(h0, .inr (13, mX13 q0 v0)), ((q0 3), zi k3 400 f3), ((q0 2), zi k2 4800 f2), ((q0 19), zi k15 12 f15)] H ∧ va_D A [(h0, .inr (13, mX13 q0 v0)), ((q0 3), zi k3 400 f3), ((q0 2), zi k2 4800 f2), ((q0 19), zi k15 12 f15)] ∧ va_S A s.heap H locs ∧ lv_has ls 2 [(0, .ref h0), (1, .int (u2_ 0))] ∧ (0 ≤ (u2_ 0).toInt ∧ (u2_ 0).toInt ≤ 400) ∧ (zFn f2 f3 f15 (v0 20).toInt (u2_ 0).toInt)) (fun ls u2_ w2_ => F0 m 2 ls []) 0 0 ?_ (fun hJ2 => ?_)
  · skip
    intro H locs ls u2_ w2_ a2_ b2_ hc hJ2
    obtain ⟨hP, hD, hS, hl, b_, hI2_0⟩ := hc
    refine lv_iload_n hx hb dX13_find_2 rfl (lv_at hl 1 rfl) ?_
    refine lv_aload_n hx hb dX13_find_3 rfl (lv_at hl 0 rfl) ?_
    refine va_get (D := (dC, dI)) (ci := 13) (v := .int (v0 4)) (C := RX13) (T := TX13) (N := 75) hx hb hG zuX13 hown hK hP 0 rfl rfl 4 (by decide) (hG _ zv1608) (fun _ h9 => h9) rfl dX13_find_4 ?_
    refine lv_icmp_ge (tgt := 39) hx hb dX13_find_7 (by decide) (fun c_ => ?_) (fun c_ => ?_)
    · skip
      have b_ := zT_ge rfl rfl c_
      refine lv_iconst (v := (-1)) hx hb dX13_find_39 (by decide) ?_
      refine W.widen (k := 0) (n := 0) (by decide) (by decide) ?_
      have hpost : ((-1) ≤ ((-1) : Int32).toInt ∧ ((-1) : Int32).toInt ≤ 399) ∧ (((-1) : Int32).toInt < (v0 4).toInt) ∧ (zFd f2 f3 f15 (v0 20).toInt (v0 4).toInt ((-1) : Int32).toInt) := ⟨(by first | with_reducible assumption | exact ⟨by omega, by omega⟩), by omega, by first | exact zFd_y e_z24 (hX25_0 (by omega)) (by omega) (by omega) (by omega) | exact zFd_n (by assumption) (by omega) (by first | decide | omega)⟩
      have hP9 : va_P (dC, dI) vwCl [(h0, .inr (13, mX13 q0 v0)), ((q0 3), zi k3 400 f3), ((q0 2), zi k2 4800 f2), ((q0 19), zi k15 12 f15)] H := hP
      have hD9 : va_D A [(h0, .inr (13, mX13 q0 v0)), ((q0 3), zi k3 400 f3), ((q0 2), zi k2 4800 f2), ((q0 19), zi k15 12 f15)] := hD
      exact W.iret (v := (-1)) hx hb hr (fun t ht hW => ⟨⟨(-1), (fun _ => 0), rfl, hpost, (fun _ => 0), (fun _ => (fun _ => 0)), (fun _ => (fun _ => 0)), by rw [ht]; exact hP9, va_K.moved hW.alike hK, hD9⟩, hS.F ht⟩) hS.2.2 dX13_find_40
    · skip
      have b_ := zF_ge rfl rfl c_
      refine lv_aload_n hx hb dX13_find_10 rfl (lv_at hl 0 rfl) ?_
      refine lv_aload_n hx hb dX13_find_11 rfl (lv_at hl 0 rfl) ?_
      refine va_get (D := (dC, dI)) (ci := 13) (v := .ref (q0 2)) (C := RX13) (T := TX13) (N := 75) hx hb hG zuX13 hown hK hP 0 rfl rfl 2 (by decide) (hG _ zv1606) (fun _ h9 => h9) rfl dX13_find_12 ?_
      refine lv_bipush (v := 12) hx hb dX13_find_15 (by decide) ?_
      refine lv_iload_n hx hb dX13_find_17 rfl (lv_at hl 1 rfl) ?_
      refine lv_imul hx hb dX13_find_18 ?_
      refine lv_topi (fun z18 e_z18 => ?_)
      have b_ := zmul zk_12 rfl e_z18 (by omega) (by omega)
      refine lv_aload_n hx hb dX13_find_19 rfl (lv_at hl 0 rfl) ?_
      refine va_get (D := (dC, dI)) (ci := 13) (v := .ref (q0 3)) (C := RX13) (T := TX13) (N := 75) hx hb hG zuX13 hown hK hP 0 rfl rfl 3 (by decide) (hG _ zv1607) (fun _ h9 => h9) rfl dX13_find_20 ?_
      refine lv_iload_n hx hb dX13_find_23 rfl (lv_at hl 1 rfl) ?_
      refine va_iald hx hb hK hP 1 0 rfl rfl (zin_lit ⟨by omega, by omega⟩) dX13_find_24 ?_
      refine lv_topi (fun z24 e_z24 => ?_)
      have b_ : 0 ≤ z24.toInt ∧ z24.toInt ≤ 12 := by rw [e_z24]; exact hf3 _
      have hPc := hP.sub (ws' := [(h0, .inr (13, mX13 q0 v0)), ((q0 2), zi k2 4800 f2), ((q0 19), zi k15 12 f15)]) [0, 2, 3] rfl
      have hDc := hD.sub (ws' := [(h0, .inr (13, mX13 q0 v0)), ((q0 2), zi k2 4800 f2), ((q0 19), zi k15 12 f15)]) [0, 2, 3] (by decide) rfl
      have hKc := hK.sub (tys' := [(k2, .byte), (k15, .byte)]) [1, 2] rfl
      have hFc := va_free (wc := [(h0, .inr (13, mX13 q0 v0)), ((q0 2), zi k2 4800 f2), ((q0 19), zi k15 12 f15)]) hD hS hA [0, 2, 3] rfl
      refine va_calli (va_runV (As := [.ref (q0 2), .int z18, .int z24]) (rest := []) ⟨hx, hb, hml, hown, hG⟩ (sX13_isSame_0 l dC dI adK adV h0 q0 (q0 2) k2 k15 H.size v0 f2 f15 z18 z24 hv0 (show (0 : Int) ≤ (z18 : Int32).toInt ∧ (z18 : Int32).toInt ≤ (4788 : Int) from (by first | with_reducible assumption | exact ⟨by omega, by omega⟩)) (show (0 : Int) ≤ (z24 : Int32).toInt ∧ (z24 : Int32).toInt ≤ (12 : Int) from (by first | with_reducible assumption | exact ⟨by omega, by omega⟩))) (cwV 3 hG (zgV zv1885 zv1887 zv56 zv142 zv1888) rfl rfl rfl (by decide +kernel) ⟨Nat.le_of_ble_eq_true rfl, Nat.le_of_ble_eq_true rfl⟩) ⟨zPc_blind, va_recv hKc hPc (ci := 13) (q0 := 0) rfl rfl, zPc_pre hPc hKc hDc hE hS hFc hZ⟩ rfl rfl hl.1 rfl (lv_room (Nat.le_of_ble_eq_true rfl)) dX13_find_25 ⟨Nat.le_of_ble_eq_true rfl, Nat.le_of_ble_eq_true rfl⟩) hS (fun q _ h => hFc q h) hFc (fun r25_ u25_ t H1 locs ht hvm hw hB hz1 hk1 hS => ?_)
      replace hw : (0 ≤ r25_.toInt ∧ r25_.toInt ≤ 1) ∧ (r25_.toInt = 1 → zSme f2 z18.toInt z24.toInt f15 (v0 20).toInt) ∧ (r25_.toInt = 0 → ¬ zSme f2 z18.toInt z24.toInt f15 (v0 20).toInt) := hw
      obtain ⟨b_, hX25_0, hX25_1⟩ := hw
      obtain ⟨w25_, a25_, b25_, hP1, hK1, hD1⟩ := hB
      rw [ht] at hP1
      obtain ⟨hP, hD⟩ := va_join (wr := [((q0 3), zi k3 400 f3)]) (w1 := [(h0, .inr (13, mX13 q0 v0)), ((q0 2), zi k2 4800 f2), ((q0 19), zi k15 12 f15)]) hP hD [0, 2, 3] [1] rfl rfl (by decide) (by decide) hk1 hFc hP1 hD1
      have hP : va_P (dC, dI) vwCl [(h0, .inr (13, mX13 q0 v0)), ((q0 3), zi k3 400 f3), ((q0 2), zi k2 4800 f2), ((q0 19), zi k15 12 f15)] H1 := hP.sub [1, 0, 2, 3] rfl
      have hD : va_D A [(h0, .inr (13, mX13 q0 v0)), ((q0 3), zi k3 400 f3), ((q0 2), zi k2 4800 f2), ((q0 19), zi k15 12 f15)] := hD.sub [1, 0, 2, 3] (by decide) rfl
      generalize H1 = H at hP hS ⊢
      clear hz1
      refine lv_if_eq (tgt := 33) hx hb dX13_find_28 (by decide) (fun c_ => ?_) (fun c_ => ?_)
      · skip
        have b_ := zT_eq rfl zk_0 c_
        obtain ⟨z33, e_z33⟩ : ∃ z : Int32, z = (u2_ 0) + Int32.ofInt 1 := ⟨_, rfl⟩
        have b_ := zadd (x := (u2_ 0)) (y := Int32.ofInt 1) rfl (show (Int32.ofInt 1).toInt = 1 from by decide) e_z33 (by omega) (by omega)
        refine lv_iinc (v := z33) (lv' := [(1, .int z33), (0, .ref h0)]) hx hb dX13_find_33 hl (k := 1) rfl e_z33.symm (by decide) rfl (fun ls hl => ?_)
        refine lv_goto (tgt := 2) hx hb dX13_find_36 (by decide) ?_
        have hc : va_P (dC, dI) vwCl [(h0, .inr (13, mX13 q0 v0)), ((q0 3), zi k3 400 f3), ((q0 2), zi k2 4800 f2), ((q0 19), zi k15 12 f15)] H ∧ va_D A [(h0, .inr (13, mX13 q0 v0)), ((q0 3), zi k3 400 f3), ((q0 2), zi k2 4800 f2), ((q0 19), zi k15 12 f15)] ∧ va_S A s.heap H locs ∧ lv_has ls 2 [(0, .ref h0), (1, .int z33)] ∧ (0 ≤ z33.toInt ∧ z33.toInt ≤ 400) ∧ (zFn f2 f3 f15 (v0 20).toInt z33.toInt) := ⟨hP, hD, hS, lv_sub hl [1, 0] rfl, (by first | with_reducible assumption | exact ⟨by omega, by omega⟩), by first | exact zFn_s (by assumption) e_z24 (by omega) (by omega) (hX25_1 (by omega)) (by omega) | exact zFn_0 (by omega)⟩
        exact hJ2 H locs ls (fun i => ([z33] : List (Int32)).getD i 0) (fun _ => 0) (fun _ => (fun _ => 0)) (fun _ => (fun _ => 0)) hc (show (400 - z33.toInt).toNat < (400 - (u2_ 0).toInt).toNat from by omega)
      · skip
        have b_ := zF_eq rfl zk_0 c_
        refine lv_iload_n hx hb dX13_find_31 rfl (lv_at hl 1 rfl) ?_
        refine W.widen (k := 0) (n := 0) (by decide) (by decide) ?_
        have hpost : ((-1) ≤ (u2_ 0).toInt ∧ (u2_ 0).toInt ≤ 399) ∧ ((u2_ 0).toInt < (v0 4).toInt) ∧ (zFd f2 f3 f15 (v0 20).toInt (v0 4).toInt (u2_ 0).toInt) := ⟨(by first | with_reducible assumption | exact ⟨by omega, by omega⟩), by omega, by first | exact zFd_y e_z24 (hX25_0 (by omega)) (by omega) (by omega) (by omega) | exact zFd_n (by assumption) (by omega) (by first | decide | omega)⟩
        have hP9 : va_P (dC, dI) vwCl [(h0, .inr (13, mX13 q0 v0)), ((q0 3), zi k3 400 f3), ((q0 2), zi k2 4800 f2), ((q0 19), zi k15 12 f15)] H := hP
        have hD9 : va_D A [(h0, .inr (13, mX13 q0 v0)), ((q0 3), zi k3 400 f3), ((q0 2), zi k2 4800 f2), ((q0 19), zi k15 12 f15)] := hD
        exact W.iret (v := (u2_ 0)) hx hb hr (fun t ht hW => ⟨⟨(u2_ 0), (fun _ => 0), rfl, hpost, (fun _ => 0), (fun _ => (fun _ => 0)), (fun _ => (fun _ => 0)), by rw [ht]; exact hP9, va_K.moved hW.alike hK, hD9⟩, hS.F ht⟩) hS.2.2 dX13_find_32
  · skip
    have hc : va_P (dC, dI) vwCl [(h0, .inr (13, mX13 q0 v0)), ((q0 3), zi k3 400 f3), ((q0 2), zi k2 4800 f2), ((q0 19), zi k15 12 f15)] s.heap ∧ va_D A [(h0, .inr (13, mX13 q0 v0)), ((q0 3), zi k3 400 f3), ((q0 2), zi k2 4800 f2), ((q0 19), zi k15 12 f15)] ∧ va_S A s.heap s.heap [] ∧ lv_has ls 2 [(0, .ref h0), (1, .int 0)] ∧ (0 ≤ (0 : Int32).toInt ∧ (0 : Int32).toInt ≤ 400) ∧ (zFn f2 f3 f15 (v0 20).toInt (0 : Int32).toInt) := ⟨hP, hD, hS, lv_sub hl [1, 0] rfl, (by first | with_reducible assumption | exact ⟨by omega, by omega⟩), by first | exact zFn_s (by assumption) e_z24 (by omega) (by omega) (hX25_1 (by omega)) (by omega) | exact zFn_0 (by omega)⟩
    exact hJ2 s.heap [] ls (fun i => ([0] : List (Int32)).getD i 0) (fun _ => 0) (fun _ => (fun _ => 0)) (fun _ => (fun _ => 0)) hc
set_option maxHeartbeats 8000000 in
set_option maxRecDepth 100000 in
theorem sX13_lookedWord_0 (l : Launch) (dC : Nat → ClassId) (dI : Nat → Nat → Nat) (adK adV : Nat → Nat) (h0 : Nat) (q0 : Nat → Nat) (k14 : ClassId) (k15 : ClassId) (k3 : ClassId) (k2 : ClassId) (sz : Nat) (v0 : Nat → Int32) (f14 : Nat → Int32) (f15 : Nat → Int32) (f3 : Nat → Int32) (f2 : Nat → Int32) (hv0 : zR rg_Model v0) (hf3 : zA 0 12 f3) : Met l yX13_lookedWord (zw yX13_lookedWord cX13_lookedWord 2 (some .int)) { frames := 2, cells := 0, slots := 0, locals := 45 } (zPc dC dI adK adV [.ref h0] sz [(h0, .inr (13, mX13 q0 v0)), ((q0 17), zi k14 12 f14), ((q0 19), zi k15 12 f15), ((q0 3), zi k3 400 f3), ((q0 2), zi k2 4800 f2)] [(k14, .byte), (k15, .byte), (k3, .int), (k2, .byte)]) (va_Qi (fun (r : Int32) (u : Nat → Int32) => ((-1) ≤ r.toInt ∧ r.toInt ≤ 399) ∧ (0 ≤ (u 0).toInt ∧ (u 0).toInt ≤ 12) ∧ (r.toInt < (v0 4).toInt) ∧ (zLw f14 (v0 18).toInt f2 f3 (v0 4).toInt r.toInt)) (fun (u : Nat → Int32) (t : State) => ∃ (ww : Nat → Int64) (aa : Nat → Nat → Int32) (bb : Nat → Nat → Int64), va_P (dC, dI) vwCl [(h0, .inr (13, mX13 q0 (upd v0 20 (u 0)))), ((q0 17), zi k14 12 f14), ((q0 19), zi k15 12 (aa 0)), ((q0 3), zi k3 400 f3), ((q0 2), zi k2 4800 f2)] t.heap ∧ va_K (dC, dI) vwCl [(k14, .byte), (k15, .byte), (k3, .int), (k2, .byte)] t ∧ va_D (va_A [(h0, .inr (13, mX13 q0 v0)), ((q0 17), zi k14 12 f14), ((q0 19), zi k15 12 f15), ((q0 3), zi k3 400 f3), ((q0 2), zi k2 4800 f2)] sz) [(h0, .inr (13, mX13 q0 (upd v0 20 (u 0)))), ((q0 17), zi k14 12 f14), ((q0 19), zi k15 12 (aa 0)), ((q0 3), zi k3 400 f3), ((q0 2), zi k2 4800 f2)]) (va_A [(h0, .inr (13, mX13 q0 v0)), ((q0 17), zi k14 12 f14), ((q0 19), zi k15 12 f15), ((q0 3), zi k3 400 f3), ((q0 2), zi k2 4800 f2)] sz)) 0 0 (va_A [(h0, .inr (13, mX13 q0 v0)), ((q0 17), zi k14 12 f14), ((q0 19), zi k15 12 f15), ((q0 3), zi k3 400 f3), ((q0 2), zi k2 4800 f2)] sz) := by
  refine Met.ofW (cc := cX13_lookedWord) (maxL := 2) (ret := (some .int)) (by decide) rfl ?_
  intro p e s m args below meth c s₁ B hml hv
  obtain ⟨rfl, hsz, hP, hK, hD0, hE, hZ⟩ := hv
  have hx := B.exec
  have hb := B.bytes
  have hr := B.returns
  have hG : ∀ w ∈ zG, w.before _ s = true := fun w h => atoms_spec (ws := (zw yX13_lookedWord cX13_lookedWord 2 (some .int))) B.pre w (List.mem_cons_of_mem _ h)
  have hown : s.vm.findClass RX13 = some m.cls := findClass_of_methodNamed B.named
  have hlocks := B.notSynchronized

  subst hsz
  have hD := hD0.self (sz := s.heap.size)
  generalize hAe : va_A [(h0, .inr (13, mX13 q0 v0)), ((q0 17), zi k14 12 f14), ((q0 19), zi k15 12 f15), ((q0 3), zi k3 400 f3), ((q0 2), zi k2 4800 f2)] s.heap.size = A at hD hZ ⊢
  have hA : ∀ q : Nat, s.heap.size ≤ q → A q := fun q h => by rw [← hAe]; exact Or.inr h
  have hS : va_S A s.heap s.heap [] := va_S.rf
  have hl := lv_entry ([.ref h0]) (n := 2) (Nat.le_of_ble_eq_true rfl)
  rw [lg_entry_eq]
  generalize (lg_sl ([.ref h0]) ++ List.replicate (2 - (lg_sl ([.ref h0])).length) Slot.unset).toArray = ls at hl ⊢
  have hl : lv_has ls 2 [(0, .ref h0)] := hl
  have b_ := zk_m1
  have b_ := zk_0
  have b_ : 0 ≤ (v0 4).toInt ∧ (v0 4).toInt ≤ 400 := hv0 4
  have b_ : (-1) ≤ (v0 18).toInt ∧ (v0 18).toInt ≤ 12 := hv0 18
  refine lv_aload_n hx hb dX13_lookedWord_0 rfl (lv_at hl 0 rfl) ?_
  refine va_get (D := (dC, dI)) (ci := 13) (v := .int (v0 18)) (C := RX13) (T := TX13) (N := 75) hx hb hG zuX13 hown hK hP 0 rfl rfl 18 (by decide) (hG _ zv1622) (fun _ h9 => h9) rfl dX13_lookedWord_1 ?_
  refine lv_if_gt (tgt := 9) hx hb dX13_lookedWord_4 (by decide) (fun c_ => ?_) (fun c_ => ?_)
  · skip
    have b_ := zT_gt rfl zk_0 c_
    refine lv_aload_n hx hb dX13_lookedWord_9 rfl (lv_at hl 0 rfl) ?_
    refine lv_aload_n hx hb dX13_lookedWord_10 rfl (lv_at hl 0 rfl) ?_
    refine va_get (D := (dC, dI)) (ci := 13) (v := .int (v0 18)) (C := RX13) (T := TX13) (N := 75) hx hb hG zuX13 hown hK hP 0 rfl rfl 18 (by decide) (hG _ zv1622) (fun _ h9 => h9) rfl dX13_lookedWord_11 ?_
    refine va_put (D := (dC, dI)) (ci := 13) (v := .int (v0 18)) (ty := .int) (C := RX13) (T := TX13) (N := 75) hx hb hG zuX13 tyX13 tyX13_ok nmX13 hown hK hP hD hS 0 rfl rfl 20 (by decide) (hG _ zv1624) (fun _ h9 => h9) rfl (by decide +kernel) rfl rfl (Nat.le_of_ble_eq_true rfl) dX13_lookedWord_14 (fun H locs hP hD hS => ?_)
    have hP : va_P (dC, dI) vwCl [(h0, .inr (13, mX13 q0 (upd v0 20 (v0 18)))), ((q0 17), zi k14 12 f14), ((q0 19), zi k15 12 f15), ((q0 3), zi k3 400 f3), ((q0 2), zi k2 4800 f2)] H := hP
    have hD : va_D A [(h0, .inr (13, mX13 q0 (upd v0 20 (v0 18)))), ((q0 17), zi k14 12 f14), ((q0 19), zi k15 12 f15), ((q0 3), zi k3 400 f3), ((q0 2), zi k2 4800 f2)] := hD
    refine lv_iconst (v := 0) hx hb dX13_lookedWord_17 (by decide) ?_
    refine lv_istore_n (lv' := [(1, .int 0), (0, .ref h0)]) hx hb dX13_lookedWord_18 rfl hl (by decide) rfl (fun ls hl => ?_)
    refine zcutL (fun u19_ => (12 - (u19_ 0).toInt).toNat) (fun H locs ls u19_ w19_ a19_ b19_ => va_P (dC, dI) vwCl [(h0, .inr (13, mX13 q0 (upd v0 20 (v0 18)))), ((q0 17), zi k14 12 f14), ((q0 19), zi k15 12 (a19_ 0)), ((q0 3), zi k3 400 f3), ((q0 2), zi k2 4800 f2)] H ∧ va_D A [(h0, .inr (13, mX13 q0 (upd v0 20 (v0 18)))), ((q0 17), zi k14 12 f14), ((q0 19), zi k15 12 (a19_ 0)), ((q0 3), zi k3 400 f3), ((q0 2), zi k2 4800 f2)] ∧ va_S A s.heap H locs ∧ lv_has ls 2 [(0, .ref h0), (1, .int (u19_ 0))] ∧ (0 ≤ (u19_ 0).toInt ∧ (u19_ 0).toInt ≤ 12) ∧ (zCy (a19_ 0) f14 0 (u19_ 0).toInt)) (fun ls u19_ w19_ => F0 m 19 ls []) 0 0 ?_ (fun hJ19 => ?_)
    · skip
      intro H locs ls u19_ w19_ a19_ b19_ hc hJ19
      obtain ⟨hP, hD, hS, hl, b_, hI19_0⟩ := hc
      refine lv_iload_n hx hb dX13_lookedWord_19 rfl (lv_at hl 1 rfl) ?_
      refine lv_aload_n hx hb dX13_lookedWord_20 rfl (lv_at hl 0 rfl) ?_
      refine va_get (D := (dC, dI)) (ci := 13) (v := .int (v0 18)) (C := RX13) (T := TX13) (N := 75) hx hb hG zuX13 hown hK hP 0 rfl rfl 20 (by decide) (hG _ zv1624) (fun _ h9 => h9) rfl dX13_lookedWord_21 ?_
      refine lv_icmp_ge (tgt := 45) hx hb dX13_lookedWord_24 (by decide) (fun c_ => ?_) (fun c_ => ?_)
      · skip
        have b_ := zT_ge rfl rfl c_
        refine lv_aload_n hx hb dX13_lookedWord_45 rfl (lv_at hl 0 rfl) ?_
        have hPc := hP.sub (ws' := [(h0, .inr (13, mX13 q0 (upd v0 20 (v0 18)))), ((q0 3), zi k3 400 f3), ((q0 2), zi k2 4800 f2), ((q0 19), zi k15 12 (a19_ 0))]) [0, 3, 4, 2] rfl
        have hDc := hD.sub (ws' := [(h0, .inr (13, mX13 q0 (upd v0 20 (v0 18)))), ((q0 3), zi k3 400 f3), ((q0 2), zi k2 4800 f2), ((q0 19), zi k15 12 (a19_ 0))]) [0, 3, 4, 2] (by decide) rfl
        have hKc := hK.sub (tys' := [(k3, .int), (k2, .byte), (k15, .byte)]) [2, 3, 1] rfl
        have hFc := va_free (wc := [(h0, .inr (13, mX13 q0 (upd v0 20 (v0 18)))), ((q0 3), zi k3 400 f3), ((q0 2), zi k2 4800 f2), ((q0 19), zi k15 12 (a19_ 0))]) hD hS hA [0, 3, 4, 2] rfl
        refine va_calli (va_runV (As := []) (rest := []) ⟨hx, hb, hml, hown, hG⟩ (sX13_find_0 l dC dI adK adV h0 q0 k3 k2 k15 H.size (upd v0 20 (v0 18)) f3 f2 (a19_ 0) (zR_up2 hv0 20 (show (0 : Int) ≤ ((v0 18) : Int32).toInt ∧ ((v0 18) : Int32).toInt ≤ (12 : Int) from (by first | with_reducible assumption | exact ⟨by omega, by omega⟩))) hf3) (cwV 0 hG (zgV zv1889 zv1891 zv57 zv142 zv1892) rfl rfl rfl (by decide +kernel) ⟨Nat.le_of_ble_eq_true rfl, Nat.le_of_ble_eq_true rfl⟩) ⟨zPc_blind, va_recv hKc hPc (ci := 13) (q0 := 0) rfl rfl, zPc_pre hPc hKc hDc hE hS hFc hZ⟩ rfl rfl hl.1 rfl (lv_room (Nat.le_of_ble_eq_true rfl)) dX13_lookedWord_46 ⟨Nat.le_of_ble_eq_true rfl, Nat.le_of_ble_eq_true rfl⟩) hS (fun q _ h => hFc q h) hFc (fun r46_ u46_ t H1 locs ht hvm hw hB hz1 hk1 hS => ?_)
        replace hw : ((-1) ≤ r46_.toInt ∧ r46_.toInt ≤ 399) ∧ (r46_.toInt < (v0 4).toInt) ∧ (zFd f2 f3 (a19_ 0) (v0 18).toInt (v0 4).toInt r46_.toInt) := hw
        obtain ⟨b_, hX46_0, hX46_1⟩ := hw
        obtain ⟨w46_, a46_, b46_, hP1, hK1, hD1⟩ := hB
        rw [ht] at hP1
        obtain ⟨hP, hD⟩ := va_join (wr := [((q0 17), zi k14 12 f14)]) (w1 := [(h0, .inr (13, mX13 q0 (upd v0 20 (v0 18)))), ((q0 3), zi k3 400 f3), ((q0 2), zi k2 4800 f2), ((q0 19), zi k15 12 (a19_ 0))]) hP hD [0, 3, 4, 2] [1] rfl rfl (by decide) (by decide) hk1 hFc hP1 hD1
        have hP : va_P (dC, dI) vwCl [(h0, .inr (13, mX13 q0 (upd v0 20 (v0 18)))), ((q0 17), zi k14 12 f14), ((q0 19), zi k15 12 (a19_ 0)), ((q0 3), zi k3 400 f3), ((q0 2), zi k2 4800 f2)] H1 := hP.sub [1, 0, 4, 2, 3] rfl
        have hD : va_D A [(h0, .inr (13, mX13 q0 (upd v0 20 (v0 18)))), ((q0 17), zi k14 12 f14), ((q0 19), zi k15 12 (a19_ 0)), ((q0 3), zi k3 400 f3), ((q0 2), zi k2 4800 f2)] := hD.sub [1, 0, 4, 2, 3] (by decide) rfl
        generalize H1 = H at hP hS ⊢
        clear hz1
        refine W.widen (k := 0) (n := 0) (by decide) (by decide) ?_
        have hpost : ((-1) ≤ r46_.toInt ∧ r46_.toInt ≤ 399) ∧ (0 ≤ (v0 18).toInt ∧ (v0 18).toInt ≤ 12) ∧ (r46_.toInt < (v0 4).toInt) ∧ (zLw f14 (v0 18).toInt f2 f3 (v0 4).toInt r46_.toInt) := ⟨(by first | with_reducible assumption | exact ⟨by omega, by omega⟩), (by first | with_reducible assumption | exact ⟨by omega, by omega⟩), by omega, by first | exact zLw_1 (by omega) hI19_0 (by omega) (by omega) hX46_1 | exact zLw_0 (by omega) (by decide)⟩
        have hP9 : va_P (dC, dI) vwCl [(h0, .inr (13, mX13 q0 (upd v0 20 (v0 18)))), ((q0 17), zi k14 12 f14), ((q0 19), zi k15 12 (a19_ 0)), ((q0 3), zi k3 400 f3), ((q0 2), zi k2 4800 f2)] H := hP
        have hD9 : va_D A [(h0, .inr (13, mX13 q0 (upd v0 20 (v0 18)))), ((q0 17), zi k14 12 f14), ((q0 19), zi k15 12 (a19_ 0)), ((q0 3), zi k3 400 f3), ((q0 2), zi k2 4800 f2)] := hD
        exact W.iret (v := r46_) hx hb hr (fun t ht hW => ⟨⟨r46_, (fun i => ([(v0 18)] : List (Int32)).getD i 0), rfl, hpost, (fun _ => 0), (fun i => ([(a19_ 0)] : List (Nat → Int32)).getD i (fun _ => 0)), (fun _ => (fun _ => 0)), by rw [ht]; exact hP9, va_K.moved hW.alike hK, hD9⟩, hS.F ht⟩) hS.2.2 dX13_lookedWord_49
      · skip
        have b_ := zF_ge rfl rfl c_
        refine lv_aload_n hx hb dX13_lookedWord_27 rfl (lv_at hl 0 rfl) ?_
        refine va_get (D := (dC, dI)) (ci := 13) (v := .ref (q0 19)) (C := RX13) (T := TX13) (N := 75) hx hb hG zuX13 hown hK hP 0 rfl rfl 19 (by decide) (hG _ zv1623) (fun _ h9 => h9) rfl dX13_lookedWord_28 ?_
        refine lv_iload_n hx hb dX13_lookedWord_31 rfl (lv_at hl 1 rfl) ?_
        refine lv_aload_n hx hb dX13_lookedWord_32 rfl (lv_at hl 0 rfl) ?_
        refine va_get (D := (dC, dI)) (ci := 13) (v := .ref (q0 17)) (C := RX13) (T := TX13) (N := 75) hx hb hG zuX13 hown hK hP 0 rfl rfl 17 (by decide) (hG _ zv1621) (fun _ h9 => h9) rfl dX13_lookedWord_33 ?_
        refine lv_iload_n hx hb dX13_lookedWord_36 rfl (lv_at hl 1 rfl) ?_
        refine va_bald hx hb hK hP 1 0 rfl rfl (zin_lit ⟨by omega, by omega⟩) dX13_lookedWord_37 ?_
        refine lv_topi (fun z37 e_z37 => ?_)
        refine va_bast hx hb hK hP hD hS 2 1 rfl rfl (zin_lit ⟨by omega, by omega⟩) dX13_lookedWord_38 (fun H locs hP hD hS => ?_)
        obtain ⟨f_38, e_f_38⟩ : ∃ z : Nat → Int32, z = upd (a19_ 0) ((u19_ 0) : Int32).toNatClampNeg (vp_nar .byte z37) := ⟨_, rfl⟩
        have hP : va_P (dC, dI) vwCl [(h0, .inr (13, mX13 q0 (upd v0 20 (v0 18)))), ((q0 17), zi k14 12 f14), ((q0 19), zi k15 12 f_38), ((q0 3), zi k3 400 f3), ((q0 2), zi k2 4800 f2)] H := by rw [e_f_38]; exact hP
        have hD : va_D A [(h0, .inr (13, mX13 q0 (upd v0 20 (v0 18)))), ((q0 17), zi k14 12 f14), ((q0 19), zi k15 12 f_38), ((q0 3), zi k3 400 f3), ((q0 2), zi k2 4800 f2)] := by rw [e_f_38]; exact hD
        obtain ⟨z39, e_z39⟩ : ∃ z : Int32, z = (u19_ 0) + Int32.ofInt 1 := ⟨_, rfl⟩
        have b_ := zadd (x := (u19_ 0)) (y := Int32.ofInt 1) rfl (show (Int32.ofInt 1).toInt = 1 from by decide) e_z39 (by omega) (by omega)
        refine lv_iinc (v := z39) (lv' := [(1, .int z39), (0, .ref h0)]) hx hb dX13_lookedWord_39 hl (k := 1) rfl e_z39.symm (by decide) rfl (fun ls hl => ?_)
        have hcy : zCy f_38 f14 0 z39.toInt := zCy_s hI19_0 (by omega) (by decide) e_z37 (by omega) e_f_38 rfl (by omega)
        refine lv_goto (tgt := 19) hx hb dX13_lookedWord_42 (by decide) ?_
        have hc : va_P (dC, dI) vwCl [(h0, .inr (13, mX13 q0 (upd v0 20 (v0 18)))), ((q0 17), zi k14 12 f14), ((q0 19), zi k15 12 f_38), ((q0 3), zi k3 400 f3), ((q0 2), zi k2 4800 f2)] H ∧ va_D A [(h0, .inr (13, mX13 q0 (upd v0 20 (v0 18)))), ((q0 17), zi k14 12 f14), ((q0 19), zi k15 12 f_38), ((q0 3), zi k3 400 f3), ((q0 2), zi k2 4800 f2)] ∧ va_S A s.heap H locs ∧ lv_has ls 2 [(0, .ref h0), (1, .int z39)] ∧ (0 ≤ z39.toInt ∧ z39.toInt ≤ 12) ∧ (zCy f_38 f14 0 z39.toInt) := ⟨hP, hD, hS, lv_sub hl [1, 0] rfl, (by first | with_reducible assumption | exact ⟨by omega, by omega⟩), by first | exact hcy | exact zCy_0 (by decide)⟩
        exact hJ19 H locs ls (fun i => ([z39] : List (Int32)).getD i 0) (fun _ => 0) (fun i => ([f_38] : List (Nat → Int32)).getD i (fun _ => 0)) (fun _ => (fun _ => 0)) hc (show (12 - z39.toInt).toNat < (12 - (u19_ 0).toInt).toNat from by omega)
    · skip
      have hc : va_P (dC, dI) vwCl [(h0, .inr (13, mX13 q0 (upd v0 20 (v0 18)))), ((q0 17), zi k14 12 f14), ((q0 19), zi k15 12 f15), ((q0 3), zi k3 400 f3), ((q0 2), zi k2 4800 f2)] H ∧ va_D A [(h0, .inr (13, mX13 q0 (upd v0 20 (v0 18)))), ((q0 17), zi k14 12 f14), ((q0 19), zi k15 12 f15), ((q0 3), zi k3 400 f3), ((q0 2), zi k2 4800 f2)] ∧ va_S A s.heap H locs ∧ lv_has ls 2 [(0, .ref h0), (1, .int 0)] ∧ (0 ≤ (0 : Int32).toInt ∧ (0 : Int32).toInt ≤ 12) ∧ (zCy f15 f14 0 (0 : Int32).toInt) := ⟨hP, hD, hS, lv_sub hl [1, 0] rfl, (by first | with_reducible assumption | exact ⟨by omega, by omega⟩), by first | exact hcy | exact zCy_0 (by decide)⟩
      exact hJ19 H locs ls (fun i => ([0] : List (Int32)).getD i 0) (fun _ => 0) (fun i => ([f15] : List (Nat → Int32)).getD i (fun _ => 0)) (fun _ => (fun _ => 0)) hc
  · skip
    have b_ := zF_gt rfl zk_0 c_
    refine lv_iconst (v := (-1)) hx hb dX13_lookedWord_7 (by decide) ?_
    refine W.widen (k := 0) (n := 0) (by decide) (by decide) ?_
    have b_ : 0 ≤ (v0 20).toInt ∧ (v0 20).toInt ≤ 12 := hv0 20
    have hpost : ((-1) ≤ ((-1) : Int32).toInt ∧ ((-1) : Int32).toInt ≤ 399) ∧ (0 ≤ (v0 20).toInt ∧ (v0 20).toInt ≤ 12) ∧ (((-1) : Int32).toInt < (v0 4).toInt) ∧ (zLw f14 (v0 18).toInt f2 f3 (v0 4).toInt ((-1) : Int32).toInt) := ⟨(by first | with_reducible assumption | exact ⟨by omega, by omega⟩), (by first | with_reducible assumption | exact ⟨by omega, by omega⟩), by omega, by first | exact zLw_1 (by omega) hI19_0 (by omega) (by omega) hX46_1 | exact zLw_0 (by omega) (by decide)⟩
    have hP9 : va_P (dC, dI) vwCl [(h0, .inr (13, mX13 q0 (upd v0 20 (v0 20)))), ((q0 17), zi k14 12 f14), ((q0 19), zi k15 12 f15), ((q0 3), zi k3 400 f3), ((q0 2), zi k2 4800 f2)] s.heap := hP
    have hD9 : va_D A [(h0, .inr (13, mX13 q0 (upd v0 20 (v0 20)))), ((q0 17), zi k14 12 f14), ((q0 19), zi k15 12 f15), ((q0 3), zi k3 400 f3), ((q0 2), zi k2 4800 f2)] := hD
    exact W.iret (v := (-1)) hx hb hr (fun t ht hW => ⟨⟨(-1), (fun i => ([(v0 20)] : List (Int32)).getD i 0), rfl, hpost, (fun _ => 0), (fun i => ([f15] : List (Nat → Int32)).getD i (fun _ => 0)), (fun _ => (fun _ => 0)), by rw [ht]; exact hP9, va_K.moved hW.alike hK, hD9⟩, hS.F ht⟩) hS.2.2 dX13_lookedWord_8
set_option maxHeartbeats 8000000 in
set_option maxRecDepth 100000 in
theorem sX13_timesOf_0 (l : Launch) (dC : Nat → ClassId) (dI : Nat → Nat → Nat) (adK adV : Nat → Nat) (h0 : Nat) (q0 : Nat → Nat) (k10 : ClassId) (k4 : ClassId) (k11 : ClassId) (sz : Nat) (v0 : Nat → Int32) (f10 : Nat → Int32) (f4 : Nat → Int32) (f11 : Nat → Int32) (x1 : Int32) (x2 : Int32) (hv0 : zR rg_Model v0) (hf10 : zA 0 512 f10) (hf4 : zA 0 400 f4) (hf11 : zA 0 512 f11) (hx1 : 0 ≤ x1.toInt ∧ x1.toInt ≤ 119) (hx2 : 0 ≤ x2.toInt ∧ x2.toInt ≤ 399) : Met l yX13_timesOf (zw yX13_timesOf cX13_timesOf 5 (some .int)) { frames := 0, cells := 0, slots := 0, locals := 0 } (zPc dC dI adK adV [.ref h0, .int x1, .int x2] sz [(h0, .inr (13, mX13 q0 v0)), ((q0 11), zi k10 120 f10), ((q0 5), zi k4 122880 f4), ((q0 12), zi k11 120 f11)] [(k10, .int), (k4, .short), (k11, .int)]) (va_Qi (fun (r : Int32) (u : Nat → Int32) => (0 ≤ r.toInt ∧ r.toInt ≤ 1024) ∧ (r.toInt ≤ (zp f4 x1.toInt x2.toInt 1024).1) ∧ (zTf f4 f10 f11 (x1 : Int32) x2.toInt r.toInt)) (fun (u : Nat → Int32) (t : State) => ∃ (ww : Nat → Int64) (aa : Nat → Nat → Int32) (bb : Nat → Nat → Int64), va_P (dC, dI) vwCl [(h0, .inr (13, mX13 q0 v0)), ((q0 11), zi k10 120 f10), ((q0 5), zi k4 122880 f4), ((q0 12), zi k11 120 f11)] t.heap ∧ va_K (dC, dI) vwCl [(k10, .int), (k4, .short), (k11, .int)] t ∧ va_D (va_A [(h0, .inr (13, mX13 q0 v0)), ((q0 11), zi k10 120 f10), ((q0 5), zi k4 122880 f4), ((q0 12), zi k11 120 f11)] sz) [(h0, .inr (13, mX13 q0 v0)), ((q0 11), zi k10 120 f10), ((q0 5), zi k4 122880 f4), ((q0 12), zi k11 120 f11)]) (va_A [(h0, .inr (13, mX13 q0 v0)), ((q0 11), zi k10 120 f10), ((q0 5), zi k4 122880 f4), ((q0 12), zi k11 120 f11)] sz)) 0 0 (va_A [(h0, .inr (13, mX13 q0 v0)), ((q0 11), zi k10 120 f10), ((q0 5), zi k4 122880 f4), ((q0 12), zi k11 120 f11)] sz) := by
  refine Met.ofW (cc := cX13_timesOf) (maxL := 5) (ret := (some .int)) (by decide) rfl ?_
  intro p e s m args below meth c s₁ B hml hv
  obtain ⟨rfl, hsz, hP, hK, hD0, hE, hZ⟩ := hv
  have hx := B.exec
  have hb := B.bytes
  have hr := B.returns
  have hG : ∀ w ∈ zG, w.before _ s = true := fun w h => atoms_spec (ws := (zw yX13_timesOf cX13_timesOf 5 (some .int))) B.pre w (List.mem_cons_of_mem _ h)
  have hown : s.vm.findClass RX13 = some m.cls := findClass_of_methodNamed B.named
  have hlocks := B.notSynchronized

  subst hsz
  have hD := hD0.self (sz := s.heap.size)
  generalize hAe : va_A [(h0, .inr (13, mX13 q0 v0)), ((q0 11), zi k10 120 f10), ((q0 5), zi k4 122880 f4), ((q0 12), zi k11 120 f11)] s.heap.size = A at hD hZ ⊢
  have hA : ∀ q : Nat, s.heap.size ≤ q → A q := fun q h => by rw [← hAe]; exact Or.inr h
  have hS : va_S A s.heap s.heap [] := va_S.rf
  have hl := lv_entry ([.ref h0, .int x1, .int x2]) (n := 5) (Nat.le_of_ble_eq_true rfl)
  rw [lg_entry_eq]
  generalize (lg_sl ([.ref h0, .int x1, .int x2]) ++ List.replicate (5 - (lg_sl ([.ref h0, .int x1, .int x2])).length) Slot.unset).toArray = ls at hl ⊢
  have hl : lv_has ls 5 [(0, .ref h0), (1, .int x1), (2, .int x2)] := hl
  have b_ := zk_0
  have b_ := zk_512
  have b_ := hf10 (x1 : Int32).toNatClampNeg
  have b_ := hf11 (x1 : Int32).toNatClampNeg
  refine lv_iconst (v := 0) hx hb dX13_timesOf_0 (by decide) ?_
  refine lv_istore_n (lv' := [(3, .int 0), (0, .ref h0), (1, .int x1), (2, .int x2)]) hx hb dX13_timesOf_1 rfl hl (by decide) rfl (fun ls hl => ?_)
  refine lv_iconst (v := 0) hx hb dX13_timesOf_2 (by decide) ?_
  refine lv_istore (lv' := [(4, .int 0), (3, .int 0), (0, .ref h0), (1, .int x1), (2, .int x2)]) hx hb dX13_timesOf_3 hl (by decide) rfl (fun ls hl => ?_)
  refine zcutL (fun u5_ => (512 - (u5_ 1).toInt).toNat) (fun H locs ls u5_ w5_ a5_ b5_ => va_P (dC, dI) vwCl [(h0, .inr (13, mX13 q0 v0)), ((q0 11), zi k10 120 f10), ((q0 5), zi k4 122880 f4), ((q0 12), zi k11 120 f11)] H ∧ va_D A [(h0, .inr (13, mX13 q0 v0)), ((q0 11), zi k10 120 f10), ((q0 5), zi k4 122880 f4), ((q0 12), zi k11 120 f11)] ∧ va_S A s.heap H locs ∧ lv_has ls 5 [(0, .ref h0), (1, .int x1), (2, .int x2), (3, .int (u5_ 0)), (4, .int (u5_ 1))] ∧ (0 ≤ (u5_ 0).toInt ∧ (u5_ 0).toInt ≤ 512) ∧ (0 ≤ (u5_ 1).toInt ∧ (u5_ 1).toInt ≤ 512) ∧ ((u5_ 0).toInt ≤ (zp f4 x1.toInt x2.toInt ((u5_ 1).toInt).toNat).1) ∧ ((u5_ 1).toInt ≤ (f10 ((x1 : Int32)).toNatClampNeg).toInt) ∧ ((u5_ 0).toInt ≤ (u5_ 1).toInt) ∧ ((u5_ 0).toInt + 0 = 0 + (zp f4 x1.toInt x2.toInt ((u5_ 1).toInt).toNat).1)) (fun ls u5_ w5_ => F0 m 5 ls []) 0 0 ?_ (fun hJ5 => ?_)
  · skip
    intro H locs ls u5_ w5_ a5_ b5_ hc hJ5
    obtain ⟨hP, hD, hS, hl, b_, b_, hI5_0, b_, b_, hI5_3⟩ := hc
    refine lv_iload hx hb dX13_timesOf_5 (lv_at hl 4 rfl) ?_
    refine lv_aload_n hx hb dX13_timesOf_7 rfl (lv_at hl 0 rfl) ?_
    refine va_get (D := (dC, dI)) (ci := 13) (v := .ref (q0 11)) (C := RX13) (T := TX13) (N := 75) hx hb hG zuX13 hown hK hP 0 rfl rfl 11 (by decide) (hG _ zv1615) (fun _ h9 => h9) rfl dX13_timesOf_8 ?_
    refine lv_iload_n hx hb dX13_timesOf_11 rfl (lv_at hl 1 rfl) ?_
    refine va_iald hx hb hK hP 1 0 rfl rfl (zin_lit ⟨by omega, by omega⟩) dX13_timesOf_12 ?_
    refine lv_topi (fun z12 e_z12 => ?_)
    have b_ : 0 ≤ z12.toInt ∧ z12.toInt ≤ 512 := by rw [e_z12]; exact hf10 _
    have b_ : z12.toInt = (f10 (x1 : Int32).toNatClampNeg).toInt := by rw [e_z12]
    refine lv_icmp_ge (tgt := 49) hx hb dX13_timesOf_13 (by decide) (fun c_ => ?_) (fun c_ => ?_)
    · skip
      have b_ := zT_ge rfl rfl c_
      refine lv_sipush (v := 512) hx hb dX13_timesOf_49 (by decide) ?_
      refine lv_istore (lv' := [(4, .int 512), (0, .ref h0), (1, .int x1), (2, .int x2), (3, .int (u5_ 0))]) hx hb dX13_timesOf_52 hl (by decide) rfl (fun ls hl => ?_)
      refine zcutL (fun u54_ => (1024 - (u54_ 1).toInt).toNat) (fun H locs ls u54_ w54_ a54_ b54_ => va_P (dC, dI) vwCl [(h0, .inr (13, mX13 q0 v0)), ((q0 11), zi k10 120 f10), ((q0 5), zi k4 122880 f4), ((q0 12), zi k11 120 f11)] H ∧ va_D A [(h0, .inr (13, mX13 q0 v0)), ((q0 11), zi k10 120 f10), ((q0 5), zi k4 122880 f4), ((q0 12), zi k11 120 f11)] ∧ va_S A s.heap H locs ∧ lv_has ls 5 [(0, .ref h0), (1, .int x1), (2, .int x2), (3, .int (u54_ 0)), (4, .int (u54_ 1))] ∧ (0 ≤ (u54_ 0).toInt ∧ (u54_ 0).toInt ≤ 1024) ∧ (512 ≤ (u54_ 1).toInt ∧ (u54_ 1).toInt ≤ 1024) ∧ ((u54_ 0).toInt ≤ (zp f4 x1.toInt x2.toInt ((u54_ 1).toInt).toNat).1) ∧ ((u54_ 1).toInt ≤ 512 + (f11 ((x1 : Int32)).toNatClampNeg).toInt) ∧ ((u54_ 0).toInt ≤ (u54_ 1).toInt) ∧ ((u54_ 0).toInt + (zp f4 x1.toInt x2.toInt 512).1 = (zp f4 x1.toInt x2.toInt ((f10 ((x1 : Int32)).toNatClampNeg).toInt).toNat).1 + (zp f4 x1.toInt x2.toInt ((u54_ 1).toInt).toNat).1)) (fun ls u54_ w54_ => F0 m 54 ls []) 0 0 ?_ (fun hJ54 => ?_)
      · skip
        intro H locs ls u54_ w54_ a54_ b54_ hc hJ54
        obtain ⟨hP, hD, hS, hl, b_, b_, hI54_0, b_, b_, hI54_3⟩ := hc
        refine lv_iload hx hb dX13_timesOf_54 (lv_at hl 4 rfl) ?_
        refine lv_sipush (v := 512) hx hb dX13_timesOf_56 (by decide) ?_
        refine lv_aload_n hx hb dX13_timesOf_59 rfl (lv_at hl 0 rfl) ?_
        refine va_get (D := (dC, dI)) (ci := 13) (v := .ref (q0 12)) (C := RX13) (T := TX13) (N := 75) hx hb hG zuX13 hown hK hP 0 rfl rfl 12 (by decide) (hG _ zv1616) (fun _ h9 => h9) rfl dX13_timesOf_60 ?_
        refine lv_iload_n hx hb dX13_timesOf_63 rfl (lv_at hl 1 rfl) ?_
        refine va_iald hx hb hK hP 3 2 rfl rfl (zin_lit ⟨by omega, by omega⟩) dX13_timesOf_64 ?_
        refine lv_topi (fun z64 e_z64 => ?_)
        have b_ : 0 ≤ z64.toInt ∧ z64.toInt ≤ 512 := by rw [e_z64]; exact hf11 _
        have b_ : z64.toInt = (f11 (x1 : Int32).toNatClampNeg).toInt := by rw [e_z64]
        refine lv_iadd hx hb dX13_timesOf_65 ?_
        refine lv_topi (fun z65 e_z65 => ?_)
        have b_ := zadd zk_512 rfl e_z65 (by omega) (by omega)
        refine lv_icmp_ge (tgt := 102) hx hb dX13_timesOf_66 (by decide) (fun c_ => ?_) (fun c_ => ?_)
        · skip
          have b_ := zT_ge rfl rfl c_
          refine lv_iload_n hx hb dX13_timesOf_102 rfl (lv_at hl 3 rfl) ?_
          refine W.widen (k := 0) (n := 0) (by decide) (by decide) ?_
          have hpost : (0 ≤ (u54_ 0).toInt ∧ (u54_ 0).toInt ≤ 1024) ∧ ((u54_ 0).toInt ≤ (zp f4 x1.toInt x2.toInt 1024).1) ∧ (zTf f4 f10 f11 (x1 : Int32) x2.toInt (u54_ 0).toInt) := ⟨(by first | with_reducible assumption | exact ⟨by omega, by omega⟩), by exact zti_m (k' := 1024) hI54_0 (by omega) (by omega) (by omega) rfl, by exact zTf_e hI54_3 (by omega) rfl⟩
          have hP9 : va_P (dC, dI) vwCl [(h0, .inr (13, mX13 q0 v0)), ((q0 11), zi k10 120 f10), ((q0 5), zi k4 122880 f4), ((q0 12), zi k11 120 f11)] H := hP
          have hD9 : va_D A [(h0, .inr (13, mX13 q0 v0)), ((q0 11), zi k10 120 f10), ((q0 5), zi k4 122880 f4), ((q0 12), zi k11 120 f11)] := hD
          exact W.iret (v := (u54_ 0)) hx hb hr (fun t ht hW => ⟨⟨(u54_ 0), (fun _ => 0), rfl, hpost, (fun _ => 0), (fun _ => (fun _ => 0)), (fun _ => (fun _ => 0)), by rw [ht]; exact hP9, va_K.moved hW.alike hK, hD9⟩, hS.F ht⟩) hS.2.2 dX13_timesOf_103
        · skip
          have b_ := zF_ge rfl rfl c_
          refine lv_iload_n hx hb dX13_timesOf_69 rfl (lv_at hl 3 rfl) ?_
          refine lv_aload_n hx hb dX13_timesOf_70 rfl (lv_at hl 0 rfl) ?_
          refine va_get (D := (dC, dI)) (ci := 13) (v := .ref (q0 5)) (C := RX13) (T := TX13) (N := 75) hx hb hG zuX13 hown hK hP 0 rfl rfl 5 (by decide) (hG _ zv1609) (fun _ h9 => h9) rfl dX13_timesOf_71 ?_
          refine lv_sipush (v := 1024) hx hb dX13_timesOf_74 (by decide) ?_
          refine lv_iload_n hx hb dX13_timesOf_77 rfl (lv_at hl 1 rfl) ?_
          refine lv_imul hx hb dX13_timesOf_78 ?_
          refine lv_topi (fun z78 e_z78 => ?_)
          have b_ := zmul zk_1024 rfl e_z78 (by omega) (by omega)
          refine lv_iload hx hb dX13_timesOf_79 (lv_at hl 4 rfl) ?_
          refine lv_iadd hx hb dX13_timesOf_81 ?_
          refine lv_topi (fun z81 e_z81 => ?_)
          have b_ := zadd rfl rfl e_z81 (by omega) (by omega)
          refine va_sald hx hb hK hP 2 1 rfl rfl (zin_lit ⟨by omega, by omega⟩) dX13_timesOf_82 ?_
          refine lv_topi (fun z82 e_z82 => ?_)
          have b_ : 0 ≤ z82.toInt ∧ z82.toInt ≤ 400 := by rw [e_z82]; exact hf4 _
          have hat : (f4 (1024 * x1.toInt + (u54_ 1).toInt).toNat).toInt = z82.toInt := congrArg Int32.toInt ((e_z82.trans (zix (by omega))).symm)
          refine lv_iload_n hx hb dX13_timesOf_83 rfl (lv_at hl 2 rfl) ?_
          refine lv_iconst (v := 1) hx hb dX13_timesOf_84 (by decide) ?_
          refine lv_iadd hx hb dX13_timesOf_85 ?_
          refine lv_topi (fun z85 e_z85 => ?_)
          have b_ := zadd rfl zk_1 e_z85 (by omega) (by omega)
          refine lv_icmp_ne (tgt := 93) hx hb dX13_timesOf_86 (by decide) (fun c_ => ?_) (fun c_ => ?_)
          · skip
            have b_ := zT_ne rfl rfl c_
            refine lv_iconst (v := 0) hx hb dX13_timesOf_93 (by decide) ?_
            refine lv_iadd hx hb dX13_timesOf_94 ?_
            refine lv_topi (fun z94 e_z94 => ?_)
            have b_ := zadd rfl zk_0 e_z94 (by omega) (by omega)
            refine lv_istore_n (lv' := [(3, .int z94), (0, .ref h0), (1, .int x1), (2, .int x2), (4, .int (u54_ 1))]) hx hb dX13_timesOf_95 rfl hl (by decide) rfl (fun ls hl => ?_)
            obtain ⟨z96, e_z96⟩ : ∃ z : Int32, z = (u54_ 1) + Int32.ofInt 1 := ⟨_, rfl⟩
            have b_ := zadd (x := (u54_ 1)) (y := Int32.ofInt 1) rfl (show (Int32.ofInt 1).toInt = 1 from by decide) e_z96 (by omega) (by omega)
            refine lv_iinc (v := z96) (lv' := [(4, .int z96), (3, .int z94), (0, .ref h0), (1, .int x1), (2, .int x2)]) hx hb dX13_timesOf_96 hl (k := 4) rfl e_z96.symm (by decide) rfl (fun ls hl => ?_)
            have hti : z94.toInt ≤ (zp f4 x1.toInt x2.toInt (z96.toInt).toNat).1 := zti_m hI54_0 (by omega) (by omega) (by omega) (by omega)
            have hte : z94.toInt + (zp f4 x1.toInt x2.toInt 512).1 = (zp f4 x1.toInt x2.toInt ((f10 ((x1 : Int32)).toNatClampNeg).toInt).toNat).1 + (zp f4 x1.toInt x2.toInt (z96.toInt).toNat).1 := zte_n hI54_3 (by omega) (by rw [hat]; omega) (by omega) (by omega)
            refine lv_goto (tgt := 54) hx hb dX13_timesOf_99 (by decide) ?_
            have hc : va_P (dC, dI) vwCl [(h0, .inr (13, mX13 q0 v0)), ((q0 11), zi k10 120 f10), ((q0 5), zi k4 122880 f4), ((q0 12), zi k11 120 f11)] H ∧ va_D A [(h0, .inr (13, mX13 q0 v0)), ((q0 11), zi k10 120 f10), ((q0 5), zi k4 122880 f4), ((q0 12), zi k11 120 f11)] ∧ va_S A s.heap H locs ∧ lv_has ls 5 [(0, .ref h0), (1, .int x1), (2, .int x2), (3, .int z94), (4, .int z96)] ∧ (0 ≤ z94.toInt ∧ z94.toInt ≤ 1024) ∧ (512 ≤ z96.toInt ∧ z96.toInt ≤ 1024) ∧ (z94.toInt ≤ (zp f4 x1.toInt x2.toInt (z96.toInt).toNat).1) ∧ (z96.toInt ≤ 512 + (f11 ((x1 : Int32)).toNatClampNeg).toInt) ∧ (z94.toInt ≤ z96.toInt) ∧ (z94.toInt + (zp f4 x1.toInt x2.toInt 512).1 = (zp f4 x1.toInt x2.toInt ((f10 ((x1 : Int32)).toNatClampNeg).toInt).toNat).1 + (zp f4 x1.toInt x2.toInt (z96.toInt).toNat).1) := ⟨hP, hD, hS, lv_sub hl [2, 3, 4, 1, 0] rfl, (by first | with_reducible assumption | exact ⟨by omega, by omega⟩), (by first | with_reducible assumption | exact ⟨by omega, by omega⟩), by first | exact hti | exact zti_m hI5_0 (by omega) (by omega) (by omega) rfl, by omega, by omega, by first | exact hte | exact zte_m hI5_3 (by omega) (by decide)⟩
            exact hJ54 H locs ls (fun i => ([z94, z96] : List (Int32)).getD i 0) (fun _ => 0) (fun _ => (fun _ => 0)) (fun _ => (fun _ => 0)) hc (show (1024 - z96.toInt).toNat < (1024 - (u54_ 1).toInt).toNat from by omega)
          · skip
            have b_ := zF_ne rfl rfl c_
            refine lv_iconst (v := 1) hx hb dX13_timesOf_89 (by decide) ?_
            refine lv_goto (tgt := 94) hx hb dX13_timesOf_90 (by decide) ?_
            refine lv_iadd hx hb dX13_timesOf_94 ?_
            refine lv_topi (fun z94 e_z94 => ?_)
            have b_ := zadd rfl zk_1 e_z94 (by omega) (by omega)
            refine lv_istore_n (lv' := [(3, .int z94), (0, .ref h0), (1, .int x1), (2, .int x2), (4, .int (u54_ 1))]) hx hb dX13_timesOf_95 rfl hl (by decide) rfl (fun ls hl => ?_)
            obtain ⟨z96, e_z96⟩ : ∃ z : Int32, z = (u54_ 1) + Int32.ofInt 1 := ⟨_, rfl⟩
            have b_ := zadd (x := (u54_ 1)) (y := Int32.ofInt 1) rfl (show (Int32.ofInt 1).toInt = 1 from by decide) e_z96 (by omega) (by omega)
            refine lv_iinc (v := z96) (lv' := [(4, .int z96), (3, .int z94), (0, .ref h0), (1, .int x1), (2, .int x2)]) hx hb dX13_timesOf_96 hl (k := 4) rfl e_z96.symm (by decide) rfl (fun ls hl => ?_)
            have hti : z94.toInt ≤ (zp f4 x1.toInt x2.toInt (z96.toInt).toNat).1 := zti_y hI54_0 (by omega) (hat.trans (by omega)) (by omega) (by omega)
            have hte : z94.toInt + (zp f4 x1.toInt x2.toInt 512).1 = (zp f4 x1.toInt x2.toInt ((f10 ((x1 : Int32)).toNatClampNeg).toInt).toNat).1 + (zp f4 x1.toInt x2.toInt (z96.toInt).toNat).1 := zte_y hI54_3 (by omega) (hat.trans (by omega)) (by omega) (by omega)
            refine lv_goto (tgt := 54) hx hb dX13_timesOf_99 (by decide) ?_
            have hc : va_P (dC, dI) vwCl [(h0, .inr (13, mX13 q0 v0)), ((q0 11), zi k10 120 f10), ((q0 5), zi k4 122880 f4), ((q0 12), zi k11 120 f11)] H ∧ va_D A [(h0, .inr (13, mX13 q0 v0)), ((q0 11), zi k10 120 f10), ((q0 5), zi k4 122880 f4), ((q0 12), zi k11 120 f11)] ∧ va_S A s.heap H locs ∧ lv_has ls 5 [(0, .ref h0), (1, .int x1), (2, .int x2), (3, .int z94), (4, .int z96)] ∧ (0 ≤ z94.toInt ∧ z94.toInt ≤ 1024) ∧ (512 ≤ z96.toInt ∧ z96.toInt ≤ 1024) ∧ (z94.toInt ≤ (zp f4 x1.toInt x2.toInt (z96.toInt).toNat).1) ∧ (z96.toInt ≤ 512 + (f11 ((x1 : Int32)).toNatClampNeg).toInt) ∧ (z94.toInt ≤ z96.toInt) ∧ (z94.toInt + (zp f4 x1.toInt x2.toInt 512).1 = (zp f4 x1.toInt x2.toInt ((f10 ((x1 : Int32)).toNatClampNeg).toInt).toNat).1 + (zp f4 x1.toInt x2.toInt (z96.toInt).toNat).1) := ⟨hP, hD, hS, lv_sub hl [2, 3, 4, 1, 0] rfl, (by first | with_reducible assumption | exact ⟨by omega, by omega⟩), (by first | with_reducible assumption | exact ⟨by omega, by omega⟩), by first | exact hti | exact zti_m hI5_0 (by omega) (by omega) (by omega) rfl, by omega, by omega, by first | exact hte | exact zte_m hI5_3 (by omega) (by decide)⟩
            exact hJ54 H locs ls (fun i => ([z94, z96] : List (Int32)).getD i 0) (fun _ => 0) (fun _ => (fun _ => 0)) (fun _ => (fun _ => 0)) hc (show (1024 - z96.toInt).toNat < (1024 - (u54_ 1).toInt).toNat from by omega)
      · skip
        have hc : va_P (dC, dI) vwCl [(h0, .inr (13, mX13 q0 v0)), ((q0 11), zi k10 120 f10), ((q0 5), zi k4 122880 f4), ((q0 12), zi k11 120 f11)] H ∧ va_D A [(h0, .inr (13, mX13 q0 v0)), ((q0 11), zi k10 120 f10), ((q0 5), zi k4 122880 f4), ((q0 12), zi k11 120 f11)] ∧ va_S A s.heap H locs ∧ lv_has ls 5 [(0, .ref h0), (1, .int x1), (2, .int x2), (3, .int (u5_ 0)), (4, .int 512)] ∧ (0 ≤ (u5_ 0).toInt ∧ (u5_ 0).toInt ≤ 1024) ∧ (512 ≤ (512 : Int32).toInt ∧ (512 : Int32).toInt ≤ 1024) ∧ ((u5_ 0).toInt ≤ (zp f4 x1.toInt x2.toInt ((512 : Int32).toInt).toNat).1) ∧ ((512 : Int32).toInt ≤ 512 + (f11 ((x1 : Int32)).toNatClampNeg).toInt) ∧ ((u5_ 0).toInt ≤ (512 : Int32).toInt) ∧ ((u5_ 0).toInt + (zp f4 x1.toInt x2.toInt 512).1 = (zp f4 x1.toInt x2.toInt ((f10 ((x1 : Int32)).toNatClampNeg).toInt).toNat).1 + (zp f4 x1.toInt x2.toInt ((512 : Int32).toInt).toNat).1) := ⟨hP, hD, hS, lv_sub hl [1, 2, 3, 4, 0] rfl, (by first | with_reducible assumption | exact ⟨by omega, by omega⟩), (by first | with_reducible assumption | exact ⟨by omega, by omega⟩), by first | exact hti | exact zti_m hI5_0 (by omega) (by omega) (by omega) rfl, by omega, by omega, by first | exact hte | exact zte_m hI5_3 (by omega) (by decide)⟩
        exact hJ54 H locs ls (fun i => ([(u5_ 0), 512] : List (Int32)).getD i 0) (fun _ => 0) (fun _ => (fun _ => 0)) (fun _ => (fun _ => 0)) hc
    · skip
      have b_ := zF_ge rfl rfl c_
      refine lv_iload_n hx hb dX13_timesOf_16 rfl (lv_at hl 3 rfl) ?_
      refine lv_aload_n hx hb dX13_timesOf_17 rfl (lv_at hl 0 rfl) ?_
      refine va_get (D := (dC, dI)) (ci := 13) (v := .ref (q0 5)) (C := RX13) (T := TX13) (N := 75) hx hb hG zuX13 hown hK hP 0 rfl rfl 5 (by decide) (hG _ zv1609) (fun _ h9 => h9) rfl dX13_timesOf_18 ?_
      refine lv_sipush (v := 1024) hx hb dX13_timesOf_21 (by decide) ?_
      refine lv_iload_n hx hb dX13_timesOf_24 rfl (lv_at hl 1 rfl) ?_
      refine lv_imul hx hb dX13_timesOf_25 ?_
      refine lv_topi (fun z25 e_z25 => ?_)
      have b_ := zmul zk_1024 rfl e_z25 (by omega) (by omega)
      refine lv_iload hx hb dX13_timesOf_26 (lv_at hl 4 rfl) ?_
      refine lv_iadd hx hb dX13_timesOf_28 ?_
      refine lv_topi (fun z28 e_z28 => ?_)
      have b_ := zadd rfl rfl e_z28 (by omega) (by omega)
      refine va_sald hx hb hK hP 2 1 rfl rfl (zin_lit ⟨by omega, by omega⟩) dX13_timesOf_29 ?_
      refine lv_topi (fun z29 e_z29 => ?_)
      have b_ : 0 ≤ z29.toInt ∧ z29.toInt ≤ 400 := by rw [e_z29]; exact hf4 _
      have hat : (f4 (1024 * x1.toInt + (u5_ 1).toInt).toNat).toInt = z29.toInt := congrArg Int32.toInt ((e_z29.trans (zix (by omega))).symm)
      refine lv_iload_n hx hb dX13_timesOf_30 rfl (lv_at hl 2 rfl) ?_
      refine lv_iconst (v := 1) hx hb dX13_timesOf_31 (by decide) ?_
      refine lv_iadd hx hb dX13_timesOf_32 ?_
      refine lv_topi (fun z32 e_z32 => ?_)
      have b_ := zadd rfl zk_1 e_z32 (by omega) (by omega)
      refine lv_icmp_ne (tgt := 40) hx hb dX13_timesOf_33 (by decide) (fun c_ => ?_) (fun c_ => ?_)
      · skip
        have b_ := zT_ne rfl rfl c_
        refine lv_iconst (v := 0) hx hb dX13_timesOf_40 (by decide) ?_
        refine lv_iadd hx hb dX13_timesOf_41 ?_
        refine lv_topi (fun z41 e_z41 => ?_)
        have b_ := zadd rfl zk_0 e_z41 (by omega) (by omega)
        refine lv_istore_n (lv' := [(3, .int z41), (0, .ref h0), (1, .int x1), (2, .int x2), (4, .int (u5_ 1))]) hx hb dX13_timesOf_42 rfl hl (by decide) rfl (fun ls hl => ?_)
        obtain ⟨z43, e_z43⟩ : ∃ z : Int32, z = (u5_ 1) + Int32.ofInt 1 := ⟨_, rfl⟩
        have b_ := zadd (x := (u5_ 1)) (y := Int32.ofInt 1) rfl (show (Int32.ofInt 1).toInt = 1 from by decide) e_z43 (by omega) (by omega)
        refine lv_iinc (v := z43) (lv' := [(4, .int z43), (3, .int z41), (0, .ref h0), (1, .int x1), (2, .int x2)]) hx hb dX13_timesOf_43 hl (k := 4) rfl e_z43.symm (by decide) rfl (fun ls hl => ?_)
        have hti : z41.toInt ≤ (zp f4 x1.toInt x2.toInt (z43.toInt).toNat).1 := zti_m hI5_0 (by omega) (by omega) (by omega) (by omega)
        have hte : z41.toInt + 0 = 0 + (zp f4 x1.toInt x2.toInt (z43.toInt).toNat).1 := zte_n hI5_3 (by omega) (by rw [hat]; omega) (by omega) (by omega)
        refine lv_goto (tgt := 5) hx hb dX13_timesOf_46 (by decide) ?_
        have hc : va_P (dC, dI) vwCl [(h0, .inr (13, mX13 q0 v0)), ((q0 11), zi k10 120 f10), ((q0 5), zi k4 122880 f4), ((q0 12), zi k11 120 f11)] H ∧ va_D A [(h0, .inr (13, mX13 q0 v0)), ((q0 11), zi k10 120 f10), ((q0 5), zi k4 122880 f4), ((q0 12), zi k11 120 f11)] ∧ va_S A s.heap H locs ∧ lv_has ls 5 [(0, .ref h0), (1, .int x1), (2, .int x2), (3, .int z41), (4, .int z43)] ∧ (0 ≤ z41.toInt ∧ z41.toInt ≤ 512) ∧ (0 ≤ z43.toInt ∧ z43.toInt ≤ 512) ∧ (z41.toInt ≤ (zp f4 x1.toInt x2.toInt (z43.toInt).toNat).1) ∧ (z43.toInt ≤ (f10 ((x1 : Int32)).toNatClampNeg).toInt) ∧ (z41.toInt ≤ z43.toInt) ∧ (z41.toInt + 0 = 0 + (zp f4 x1.toInt x2.toInt (z43.toInt).toNat).1) := ⟨hP, hD, hS, lv_sub hl [2, 3, 4, 1, 0] rfl, (by first | with_reducible assumption | exact ⟨by omega, by omega⟩), (by first | with_reducible assumption | exact ⟨by omega, by omega⟩), by first | exact hti | exact zti_0 (by omega) (by omega), by omega, by omega, by first | exact hte | exact zte_0 (by decide) (by decide)⟩
        exact hJ5 H locs ls (fun i => ([z41, z43] : List (Int32)).getD i 0) (fun _ => 0) (fun _ => (fun _ => 0)) (fun _ => (fun _ => 0)) hc (show (512 - z43.toInt).toNat < (512 - (u5_ 1).toInt).toNat from by omega)
      · skip
        have b_ := zF_ne rfl rfl c_
        refine lv_iconst (v := 1) hx hb dX13_timesOf_36 (by decide) ?_
        refine lv_goto (tgt := 41) hx hb dX13_timesOf_37 (by decide) ?_
        refine lv_iadd hx hb dX13_timesOf_41 ?_
        refine lv_topi (fun z41 e_z41 => ?_)
        have b_ := zadd rfl zk_1 e_z41 (by omega) (by omega)
        refine lv_istore_n (lv' := [(3, .int z41), (0, .ref h0), (1, .int x1), (2, .int x2), (4, .int (u5_ 1))]) hx hb dX13_timesOf_42 rfl hl (by decide) rfl (fun ls hl => ?_)
        obtain ⟨z43, e_z43⟩ : ∃ z : Int32, z = (u5_ 1) + Int32.ofInt 1 := ⟨_, rfl⟩
        have b_ := zadd (x := (u5_ 1)) (y := Int32.ofInt 1) rfl (show (Int32.ofInt 1).toInt = 1 from by decide) e_z43 (by omega) (by omega)
        refine lv_iinc (v := z43) (lv' := [(4, .int z43), (3, .int z41), (0, .ref h0), (1, .int x1), (2, .int x2)]) hx hb dX13_timesOf_43 hl (k := 4) rfl e_z43.symm (by decide) rfl (fun ls hl => ?_)
        have hti : z41.toInt ≤ (zp f4 x1.toInt x2.toInt (z43.toInt).toNat).1 := zti_y hI5_0 (by omega) (hat.trans (by omega)) (by omega) (by omega)
        have hte : z41.toInt + 0 = 0 + (zp f4 x1.toInt x2.toInt (z43.toInt).toNat).1 := zte_y hI5_3 (by omega) (hat.trans (by omega)) (by omega) (by omega)
        refine lv_goto (tgt := 5) hx hb dX13_timesOf_46 (by decide) ?_
        have hc : va_P (dC, dI) vwCl [(h0, .inr (13, mX13 q0 v0)), ((q0 11), zi k10 120 f10), ((q0 5), zi k4 122880 f4), ((q0 12), zi k11 120 f11)] H ∧ va_D A [(h0, .inr (13, mX13 q0 v0)), ((q0 11), zi k10 120 f10), ((q0 5), zi k4 122880 f4), ((q0 12), zi k11 120 f11)] ∧ va_S A s.heap H locs ∧ lv_has ls 5 [(0, .ref h0), (1, .int x1), (2, .int x2), (3, .int z41), (4, .int z43)] ∧ (0 ≤ z41.toInt ∧ z41.toInt ≤ 512) ∧ (0 ≤ z43.toInt ∧ z43.toInt ≤ 512) ∧ (z41.toInt ≤ (zp f4 x1.toInt x2.toInt (z43.toInt).toNat).1) ∧ (z43.toInt ≤ (f10 ((x1 : Int32)).toNatClampNeg).toInt) ∧ (z41.toInt ≤ z43.toInt) ∧ (z41.toInt + 0 = 0 + (zp f4 x1.toInt x2.toInt (z43.toInt).toNat).1) := ⟨hP, hD, hS, lv_sub hl [2, 3, 4, 1, 0] rfl, (by first | with_reducible assumption | exact ⟨by omega, by omega⟩), (by first | with_reducible assumption | exact ⟨by omega, by omega⟩), by first | exact hti | exact zti_0 (by omega) (by omega), by omega, by omega, by first | exact hte | exact zte_0 (by decide) (by decide)⟩
        exact hJ5 H locs ls (fun i => ([z41, z43] : List (Int32)).getD i 0) (fun _ => 0) (fun _ => (fun _ => 0)) (fun _ => (fun _ => 0)) hc (show (512 - z43.toInt).toNat < (512 - (u5_ 1).toInt).toNat from by omega)
  · skip
    have hc : va_P (dC, dI) vwCl [(h0, .inr (13, mX13 q0 v0)), ((q0 11), zi k10 120 f10), ((q0 5), zi k4 122880 f4), ((q0 12), zi k11 120 f11)] s.heap ∧ va_D A [(h0, .inr (13, mX13 q0 v0)), ((q0 11), zi k10 120 f10), ((q0 5), zi k4 122880 f4), ((q0 12), zi k11 120 f11)] ∧ va_S A s.heap s.heap [] ∧ lv_has ls 5 [(0, .ref h0), (1, .int x1), (2, .int x2), (3, .int 0), (4, .int 0)] ∧ (0 ≤ (0 : Int32).toInt ∧ (0 : Int32).toInt ≤ 512) ∧ (0 ≤ (0 : Int32).toInt ∧ (0 : Int32).toInt ≤ 512) ∧ ((0 : Int32).toInt ≤ (zp f4 x1.toInt x2.toInt ((0 : Int32).toInt).toNat).1) ∧ ((0 : Int32).toInt ≤ (f10 ((x1 : Int32)).toNatClampNeg).toInt) ∧ ((0 : Int32).toInt ≤ (0 : Int32).toInt) ∧ ((0 : Int32).toInt + 0 = 0 + (zp f4 x1.toInt x2.toInt ((0 : Int32).toInt).toNat).1) := ⟨hP, hD, hS, lv_sub hl [2, 3, 4, 1, 0] rfl, (by first | with_reducible assumption | exact ⟨by omega, by omega⟩), (by first | with_reducible assumption | exact ⟨by omega, by omega⟩), by first | exact hti | exact zti_0 (by omega) (by omega), by omega, by omega, by first | exact hte | exact zte_0 (by decide) (by decide)⟩
    exact hJ5 s.heap [] ls (fun i => ([0, 0] : List (Int32)).getD i 0) (fun _ => 0) (fun _ => (fun _ => 0)) (fun _ => (fun _ => 0)) hc
set_option maxHeartbeats 8000000 in
set_option maxRecDepth 100000 in
theorem sX13_digits_0 (l : Launch) (dC : Nat → ClassId) (dI : Nat → Nat → Nat) (adK adV : Nat → Nat) (sz : Nat) (x0 : Int32) : Met l yX13_digits (zw yX13_digits cX13_digits 3 (some .int)) { frames := 0, cells := 0, slots := 0, locals := 0 } (zPc dC dI adK adV [.int x0] sz [] []) (va_Qi (fun (r : Int32) (u : Nat → Int32) => (0 ≤ r.toInt ∧ r.toInt ≤ 31) ∧ (r.toInt = zdig x0.toInt)) (fun (u : Nat → Int32) (t : State) => ∃ (ww : Nat → Int64) (aa : Nat → Nat → Int32) (bb : Nat → Nat → Int64), va_P (dC, dI) vwCl [] t.heap ∧ va_K (dC, dI) vwCl [] t ∧ va_D (va_A [] sz) []) (va_A [] sz)) 0 0 (va_A [] sz) := by
  refine Met.ofW (cc := cX13_digits) (maxL := 3) (ret := (some .int)) (by decide) rfl ?_
  intro p e s m args below meth c s₁ B hml hv
  obtain ⟨rfl, hsz, hP, hK, hD0, hE, hZ⟩ := hv
  have hx := B.exec
  have hb := B.bytes
  have hr := B.returns
  have hG : ∀ w ∈ zG, w.before _ s = true := fun w h => atoms_spec (ws := (zw yX13_digits cX13_digits 3 (some .int))) B.pre w (List.mem_cons_of_mem _ h)
  have hown : s.vm.findClass RX13 = some m.cls := findClass_of_methodNamed B.named
  have hlocks := B.notSynchronized

  subst hsz
  have hD := hD0.self (sz := s.heap.size)
  generalize hAe : va_A [] s.heap.size = A at hD hZ ⊢
  have hA : ∀ q : Nat, s.heap.size ≤ q → A q := fun q h => by rw [← hAe]; exact Or.inr h
  have hS : va_S A s.heap s.heap [] := va_S.rf
  have hl := lv_entry ([.int x0]) (n := 3) (Nat.le_of_ble_eq_true rfl)
  rw [lg_entry_eq]
  generalize (lg_sl ([.int x0]) ++ List.replicate (3 - (lg_sl ([.int x0])).length) Slot.unset).toArray = ls at hl ⊢
  have hl : lv_has ls 3 [(0, .int x0)] := hl
  have b_ := zk_0
  have b_ := zdig_31 x0
  refine lv_iconst (v := 0) hx hb dX13_digits_0 (by decide) ?_
  refine lv_istore_n (lv' := [(1, .int 0), (0, .int x0)]) hx hb dX13_digits_1 rfl hl (by decide) rfl (fun ls hl => ?_)
  refine lv_iload_n hx hb dX13_digits_2 rfl (lv_at hl 1 rfl) ?_
  refine lv_istore_n (lv' := [(2, .int x0), (1, .int 0), (0, .int x0)]) hx hb dX13_digits_3 rfl hl (by decide) rfl (fun ls hl => ?_)
  refine zcutL (fun u4_ => ((u4_ 1).toInt).toNat) (fun H locs ls u4_ w4_ a4_ b4_ => va_P (dC, dI) vwCl [] H ∧ va_D A [] ∧ va_S A s.heap H locs ∧ lv_has ls 3 [(0, .int x0), (1, .int (u4_ 0)), (2, .int (u4_ 1))] ∧ (0 ≤ (u4_ 0).toInt ∧ (u4_ 0).toInt ≤ 31) ∧ ((u4_ 0).toInt + zdig (u4_ 1).toInt = zdig x0.toInt)) (fun ls u4_ w4_ => F0 m 4 ls []) 0 0 ?_ (fun hJ4 => ?_)
  · skip
    intro H locs ls u4_ w4_ a4_ b4_ hc hJ4
    obtain ⟨hP, hD, hS, hl, b_, b_⟩ := hc
    refine lv_iload_n hx hb dX13_digits_4 rfl (lv_at hl 2 rfl) ?_
    have b_ : -2147483648 ≤ (u4_ 1).toInt ∧ (u4_ 1).toInt ≤ 2147483647 := ⟨zlo _, zhi _⟩
    refine lv_if_le (tgt := 18) hx hb dX13_digits_5 (by decide) (fun c_ => ?_) (fun c_ => ?_)
    · skip
      have b_ := zT_le rfl zk_0 c_
      have b_ := zdig_0 (x := (u4_ 1).toInt) (by omega)
      refine lv_iload_n hx hb dX13_digits_18 rfl (lv_at hl 1 rfl) ?_
      refine W.widen (k := 0) (n := 0) (by decide) (by decide) ?_
      have hpost : (0 ≤ (u4_ 0).toInt ∧ (u4_ 0).toInt ≤ 31) ∧ ((u4_ 0).toInt = zdig x0.toInt) := ⟨(by first | with_reducible assumption | exact ⟨by omega, by omega⟩), by omega⟩
      have hP9 : va_P (dC, dI) vwCl [] H := hP
      have hD9 : va_D A [] := hD
      exact W.iret (v := (u4_ 0)) hx hb hr (fun t ht hW => ⟨⟨(u4_ 0), (fun _ => 0), rfl, hpost, (fun _ => 0), (fun _ => (fun _ => 0)), (fun _ => (fun _ => 0)), by rw [ht]; exact hP9, va_K.moved hW.alike hK, hD9⟩, hS.F ht⟩) hS.2.2 dX13_digits_19
    · skip
      have b_ := zF_le rfl zk_0 c_
      obtain ⟨z8, e_z8⟩ : ∃ z : Int32, z = (u4_ 0) + Int32.ofInt 1 := ⟨_, rfl⟩
      have b_ := zadd (x := (u4_ 0)) (y := Int32.ofInt 1) rfl (show (Int32.ofInt 1).toInt = 1 from by decide) e_z8 (by omega) (by omega)
      refine lv_iinc (v := z8) (lv' := [(1, .int z8), (0, .int x0), (2, .int (u4_ 1))]) hx hb dX13_digits_8 hl (k := 1) rfl e_z8.symm (by decide) rfl (fun ls hl => ?_)
      refine lv_iload_n hx hb dX13_digits_11 rfl (lv_at hl 2 rfl) ?_
      refine lv_iconst (v := 2) hx hb dX13_digits_12 (by decide) ?_
      refine lv_idiv hx hb dX13_digits_13 (by decide) ?_
      refine lv_topi (fun z13 e_z13 => ?_)
      have b_ := zdiv rfl zk_2 e_z13 (by omega) (by decide)
      refine lv_istore_n (lv' := [(2, .int z13), (1, .int z8), (0, .int x0)]) hx hb dX13_digits_14 rfl hl (by decide) rfl (fun ls hl => ?_)
      have b_ : zdig (u4_ 1).toInt = zdig z13.toInt + 1 := by have q := zdig_half (x := (u4_ 1).toInt) (by omega); rwa [show (u4_ 1).toInt / 2 = z13.toInt from by omega] at q
      have b_ := zdig_n z13.toInt
      refine lv_goto (tgt := 4) hx hb dX13_digits_15 (by decide) ?_
      have b_ : -2147483648 ≤ x0.toInt ∧ x0.toInt ≤ 2147483647 := ⟨zlo _, zhi _⟩
      have hc : va_P (dC, dI) vwCl [] H ∧ va_D A [] ∧ va_S A s.heap H locs ∧ lv_has ls 3 [(0, .int x0), (1, .int z8), (2, .int z13)] ∧ (0 ≤ z8.toInt ∧ z8.toInt ≤ 31) ∧ (z8.toInt + zdig z13.toInt = zdig x0.toInt) := ⟨hP, hD, hS, lv_sub hl [2, 1, 0] rfl, (by first | with_reducible assumption | exact ⟨by omega, by omega⟩), by omega⟩
      exact hJ4 H locs ls (fun i => ([z8, z13] : List (Int32)).getD i 0) (fun _ => 0) (fun _ => (fun _ => 0)) (fun _ => (fun _ => 0)) hc (show (z13.toInt).toNat < ((u4_ 1).toInt).toNat from by omega)
  · skip
    have b_ : -2147483648 ≤ x0.toInt ∧ x0.toInt ≤ 2147483647 := ⟨zlo _, zhi _⟩
    have hc : va_P (dC, dI) vwCl [] s.heap ∧ va_D A [] ∧ va_S A s.heap s.heap [] ∧ lv_has ls 3 [(0, .int x0), (1, .int 0), (2, .int x0)] ∧ (0 ≤ (0 : Int32).toInt ∧ (0 : Int32).toInt ≤ 31) ∧ ((0 : Int32).toInt + zdig x0.toInt = zdig x0.toInt) := ⟨hP, hD, hS, lv_sub hl [2, 1, 0] rfl, (by first | with_reducible assumption | exact ⟨by omega, by omega⟩), by omega⟩
    exact hJ4 s.heap [] ls (fun i => ([0, x0] : List (Int32)).getD i 0) (fun _ => 0) (fun _ => (fun _ => 0)) (fun _ => (fun _ => 0)) hc
set_option maxHeartbeats 8000000 in
set_option maxRecDepth 100000 in
theorem sX13_put_0 (l : Launch) (dC : Nat → ClassId) (dI : Nat → Nat → Nat) (adK adV : Nat → Nat) (h0 : Nat) (q0 : Nat → Nat) (k16 : ClassId) (sz : Nat) (v0 : Nat → Int32) (f16 : Nat → Int32) (x1 : Int32) (hv0 : zR rg_Model v0) (hx1 : 1 ≤ x1.toInt ∧ x1.toInt ≤ 1200) (hp0_ : (v0 24).toInt = 1 → (v0 23).toInt + zgam x1.toInt ≤ 40000) (hp1_ : 0 ≤ (v0 23).toInt ∧ (v0 23).toInt ≤ 2600000) : Met l yX13_put (zw yX13_put cX13_put 4 none) { frames := 1, cells := 0, slots := 0, locals := 22 } (zPc dC dI adK adV [.ref h0, .int x1] sz [(h0, .inr (13, mX13 q0 v0)), ((q0 22), zi k16 40000 f16)] [(k16, .byte)]) (va_Qv (fun (u : Nat → Int32) => (1 ≤ (u 0).toInt ∧ (u 0).toInt ≤ 2600021) ∧ ((u 0).toInt = (v0 23).toInt + zgam x1.toInt)) (fun (u : Nat → Int32) (t : State) => ∃ (ww : Nat → Int64) (aa : Nat → Nat → Int32) (bb : Nat → Nat → Int64), va_P (dC, dI) vwCl [(h0, .inr (13, mX13 q0 (upd v0 23 (u 0)))), ((q0 22), zi k16 40000 (aa 0))] t.heap ∧ va_K (dC, dI) vwCl [(k16, .byte)] t ∧ va_D (va_A [(h0, .inr (13, mX13 q0 v0)), ((q0 22), zi k16 40000 f16)] sz) [(h0, .inr (13, mX13 q0 (upd v0 23 (u 0)))), ((q0 22), zi k16 40000 (aa 0))]) (va_A [(h0, .inr (13, mX13 q0 v0)), ((q0 22), zi k16 40000 f16)] sz)) 0 0 (va_A [(h0, .inr (13, mX13 q0 v0)), ((q0 22), zi k16 40000 f16)] sz) := by
  refine Met.ofW (cc := cX13_put) (maxL := 4) (ret := none) (by decide) rfl ?_
  intro p e s m args below meth c s₁ B hml hv
  obtain ⟨rfl, hsz, hP, hK, hD0, hE, hZ⟩ := hv
  have hx := B.exec
  have hb := B.bytes
  have hr := B.returns
  have hG : ∀ w ∈ zG, w.before _ s = true := fun w h => atoms_spec (ws := (zw yX13_put cX13_put 4 none)) B.pre w (List.mem_cons_of_mem _ h)
  have hown : s.vm.findClass RX13 = some m.cls := findClass_of_methodNamed B.named
  have hlocks := B.notSynchronized

  subst hsz
  have hD := hD0.self (sz := s.heap.size)
  generalize hAe : va_A [(h0, .inr (13, mX13 q0 v0)), ((q0 22), zi k16 40000 f16)] s.heap.size = A at hD hZ ⊢
  have hA : ∀ q : Nat, s.heap.size ≤ q → A q := fun q h => by rw [← hAe]; exact Or.inr h
  have hS : va_S A s.heap s.heap [] := va_S.rf
  have hl := lv_entry ([.ref h0, .int x1]) (n := 4) (Nat.le_of_ble_eq_true rfl)
  rw [lg_entry_eq]
  generalize (lg_sl ([.ref h0, .int x1]) ++ List.replicate (4 - (lg_sl ([.ref h0, .int x1])).length) Slot.unset).toArray = ls at hl ⊢
  have hl : lv_has ls 4 [(0, .ref h0), (1, .int x1)] := hl
  have b_ := zk_0
  have b_ : 0 ≤ (v0 24).toInt ∧ (v0 24).toInt ≤ 1 := hv0 24
  have b_ : -2147483648 ≤ (v0 23).toInt ∧ (v0 23).toInt ≤ 2147483647 := ⟨zlo _, zhi _⟩
  refine lv_iload_n hx hb dX13_put_0 rfl (lv_at hl 1 rfl) ?_
  have hPc := hP.sub (ws' := []) [] rfl
  have hDc := hD.sub (ws' := []) [] (by decide) rfl
  have hKc := hK.sub (tys' := []) [] rfl
  have hFc := va_free (wc := []) hD hS hA [] rfl
  refine va_calli (va_runS (As := [.int x1]) (rest := []) ⟨hx, hb, hml, hown, hG⟩ (sX13_digits_0 l dC dI adK adV s.heap.size x1) (va_cwS 1 hG (zgS zv1909 zv1910 zv142 zv1911) rfl rfl rfl (by decide +kernel) ⟨Nat.le_of_ble_eq_true rfl, Nat.le_of_ble_eq_true rfl⟩) ⟨zPc_blind, zPc_pre hPc hKc hDc hE hS hFc hZ⟩ rfl rfl hl.1 rfl (lv_room (Nat.le_of_ble_eq_true rfl)) dX13_put_1 ⟨Nat.le_of_ble_eq_true rfl, Nat.le_of_ble_eq_true rfl⟩) hS (fun q _ h => hFc q h) hFc (fun r1_ u1_ t H1 locs ht hvm hw hB hz1 hk1 hS => ?_)
  replace hw : (0 ≤ r1_.toInt ∧ r1_.toInt ≤ 31) ∧ (r1_.toInt = zdig x1.toInt) := hw
  obtain ⟨b_, hX1_0⟩ := hw
  obtain ⟨w1_, a1_, b1_, hP1, hK1, hD1⟩ := hB
  rw [ht] at hP1
  obtain ⟨hP, hD⟩ := va_join (wr := [(h0, .inr (13, mX13 q0 v0)), ((q0 22), zi k16 40000 f16)]) (w1 := []) hP hD [] [0, 1] rfl rfl (by decide) (by decide) hk1 hFc hP1 hD1
  have hP : va_P (dC, dI) vwCl [(h0, .inr (13, mX13 q0 v0)), ((q0 22), zi k16 40000 f16)] H1 := hP.sub [0, 1] rfl
  have hD : va_D A [(h0, .inr (13, mX13 q0 v0)), ((q0 22), zi k16 40000 f16)] := hD.sub [0, 1] (by decide) rfl
  generalize H1 = H at hP hS ⊢
  clear hz1
  have b_ : zgam x1.toInt = 2 * zdig x1.toInt - 1 := rfl
  have b_ := zdig_1 (x := x1.toInt) (by omega)
  have b_ := zdig_lt (x := x1.toInt) (k := 11) (by omega) (by omega)
  refine lv_istore_n (lv' := [(2, .int r1_), (0, .ref h0), (1, .int x1)]) hx hb dX13_put_4 rfl hl (by decide) rfl (fun ls hl => ?_)
  refine lv_aload_n hx hb dX13_put_5 rfl (lv_at hl 1 rfl) ?_
  refine va_get (D := (dC, dI)) (ci := 13) (v := .int (v0 24)) (C := RX13) (T := TX13) (N := 75) hx hb hG zuX13 hown hK hP 0 rfl rfl 24 (by decide) (hG _ zv1628) (fun _ h9 => h9) rfl dX13_put_6 ?_
  refine zcutW (fun H locs ls u77_ w77_ a77_ b77_ => va_P (dC, dI) vwCl [(h0, .inr (13, mX13 q0 v0)), ((q0 22), zi k16 40000 (a77_ 0))] H ∧ va_D A [(h0, .inr (13, mX13 q0 v0)), ((q0 22), zi k16 40000 (a77_ 0))] ∧ va_S A s.heap H locs ∧ lv_has ls 4 [(0, .ref h0), (1, .int x1), (2, .int r1_)] ∧ (0 ≤ (v0 24).toInt ∧ (v0 24).toInt ≤ 1)) (fun ls u77_ w77_ => F0 m 77 ls []) 0 0 ?_ (fun hJ77 => ?_)
  · skip
    intro H locs ls u77_ w77_ a77_ b77_ hc
    obtain ⟨hP, hD, hS, hl, b_⟩ := hc
    refine lv_aload_n hx hb dX13_put_77 rfl (lv_at hl 0 rfl) ?_
    refine lv_dup hx hb dX13_put_78 rfl ?_
    refine va_get (D := (dC, dI)) (ci := 13) (v := .int (v0 23)) (C := RX13) (T := TX13) (N := 75) hx hb hG zuX13 hown hK hP 0 rfl rfl 23 (by decide) (hG _ zv1627) (fun _ h9 => h9) rfl dX13_put_79 ?_
    refine lv_iconst (v := 2) hx hb dX13_put_82 (by decide) ?_
    refine lv_iload_n hx hb dX13_put_83 rfl (lv_at hl 2 rfl) ?_
    refine lv_imul hx hb dX13_put_84 ?_
    refine lv_topi (fun z84 e_z84 => ?_)
    have b_ := zmul zk_2 rfl e_z84 (by omega) (by omega)
    refine lv_iconst (v := 1) hx hb dX13_put_85 (by decide) ?_
    refine lv_isub hx hb dX13_put_86 ?_
    refine lv_topi (fun z86 e_z86 => ?_)
    have b_ := zsub rfl zk_1 e_z86 (by omega) (by omega)
    refine lv_iadd hx hb dX13_put_87 ?_
    refine lv_topi (fun z87 e_z87 => ?_)
    have b_ := zadd rfl rfl e_z87 (by omega) (by omega)
    refine va_put (D := (dC, dI)) (ci := 13) (v := .int z87) (ty := .int) (C := RX13) (T := TX13) (N := 75) hx hb hG zuX13 tyX13 tyX13_ok nmX13 hown hK hP hD hS 0 rfl rfl 23 (by decide) (hG _ zv1627) (fun _ h9 => h9) rfl (by decide +kernel) rfl rfl (Nat.le_of_ble_eq_true rfl) dX13_put_88 (fun H locs hP hD hS => ?_)
    have hP : va_P (dC, dI) vwCl [(h0, .inr (13, mX13 q0 (upd v0 23 z87))), ((q0 22), zi k16 40000 (a77_ 0))] H := hP
    have hD : va_D A [(h0, .inr (13, mX13 q0 (upd v0 23 z87))), ((q0 22), zi k16 40000 (a77_ 0))] := hD
    refine W.widen (k := 0) (n := 0) (by decide) (by decide) ?_
    have hpost : (1 ≤ z87.toInt ∧ z87.toInt ≤ 2600021) ∧ (z87.toInt = (v0 23).toInt + zgam x1.toInt) := ⟨(by first | with_reducible assumption | exact ⟨by omega, by omega⟩), by omega⟩
    have hP9 : va_P (dC, dI) vwCl [(h0, .inr (13, mX13 q0 (upd v0 23 z87))), ((q0 22), zi k16 40000 (a77_ 0))] H := hP
    have hD9 : va_D A [(h0, .inr (13, mX13 q0 (upd v0 23 z87))), ((q0 22), zi k16 40000 (a77_ 0))] := hD
    exact W.vret hx hb hr (fun t ht hW => ⟨⟨(fun i => ([z87] : List (Int32)).getD i 0), rfl, hpost, (fun _ => 0), (fun i => ([(a77_ 0)] : List (Nat → Int32)).getD i (fun _ => 0)), (fun _ => (fun _ => 0)), by rw [ht]; exact hP9, va_K.moved hW.alike hK, hD9⟩, hS.F ht⟩) hS.2.2 dX13_put_91
  · skip
    refine lv_if_eq (tgt := 77) hx hb dX13_put_9 (by decide) (fun c_ => ?_) (fun c_ => ?_)
    · skip
      have b_ := zT_eq rfl zk_0 c_
      have hc : va_P (dC, dI) vwCl [(h0, .inr (13, mX13 q0 v0)), ((q0 22), zi k16 40000 f16)] H ∧ va_D A [(h0, .inr (13, mX13 q0 v0)), ((q0 22), zi k16 40000 f16)] ∧ va_S A s.heap H locs ∧ lv_has ls 4 [(0, .ref h0), (1, .int x1), (2, .int r1_)] ∧ (0 ≤ (v0 24).toInt ∧ (v0 24).toInt ≤ 1) := ⟨hP, hD, hS, lv_sub hl [1, 2, 0] rfl, (by first | with_reducible assumption | exact ⟨by omega, by omega⟩)⟩
      exact hJ77 H locs ls (fun _ => 0) (fun _ => 0) (fun i => ([f16] : List (Nat → Int32)).getD i (fun _ => 0)) (fun _ => (fun _ => 0)) hc
    · skip
      have b_ := zF_eq rfl zk_0 c_
      have b_ := hp0_ (by omega)
      refine lv_iconst (v := 0) hx hb dX13_put_12 (by decide) ?_
      refine lv_istore_n (lv' := [(3, .int 0), (2, .int r1_), (0, .ref h0), (1, .int x1)]) hx hb dX13_put_13 rfl hl (by decide) rfl (fun ls hl => ?_)
      refine zcutL (fun u14_ => (10 - (u14_ 0).toInt).toNat) (fun H locs ls u14_ w14_ a14_ b14_ => va_P (dC, dI) vwCl [(h0, .inr (13, mX13 q0 v0)), ((q0 22), zi k16 40000 (a14_ 0))] H ∧ va_D A [(h0, .inr (13, mX13 q0 v0)), ((q0 22), zi k16 40000 (a14_ 0))] ∧ va_S A s.heap H locs ∧ lv_has ls 4 [(0, .ref h0), (1, .int x1), (2, .int r1_), (3, .int (u14_ 0))] ∧ (0 ≤ (u14_ 0).toInt ∧ (u14_ 0).toInt ≤ 10)) (fun ls u14_ w14_ => F0 m 14 ls []) 0 0 ?_ (fun hJ14 => ?_)
      · skip
        intro H locs ls u14_ w14_ a14_ b14_ hc hJ14
        obtain ⟨hP, hD, hS, hl, b_⟩ := hc
        refine lv_iload_n hx hb dX13_put_14 rfl (lv_at hl 3 rfl) ?_
        refine lv_iload_n hx hb dX13_put_15 rfl (lv_at hl 2 rfl) ?_
        refine lv_iconst (v := 1) hx hb dX13_put_16 (by decide) ?_
        refine lv_isub hx hb dX13_put_17 ?_
        refine lv_topi (fun z17 e_z17 => ?_)
        have b_ := zsub rfl zk_1 e_z17 (by omega) (by omega)
        refine lv_icmp_ge (tgt := 39) hx hb dX13_put_18 (by decide) (fun c_ => ?_) (fun c_ => ?_)
        · skip
          have b_ := zT_ge rfl rfl c_
          refine lv_iconst (v := 0) hx hb dX13_put_39 (by decide) ?_
          refine lv_istore_n (lv' := [(3, .int 0), (0, .ref h0), (1, .int x1), (2, .int r1_)]) hx hb dX13_put_40 rfl hl (by decide) rfl (fun ls hl => ?_)
          refine zcutL (fun u41_ => (11 - (u41_ 0).toInt).toNat) (fun H locs ls u41_ w41_ a41_ b41_ => va_P (dC, dI) vwCl [(h0, .inr (13, mX13 q0 v0)), ((q0 22), zi k16 40000 (a41_ 0))] H ∧ va_D A [(h0, .inr (13, mX13 q0 v0)), ((q0 22), zi k16 40000 (a41_ 0))] ∧ va_S A s.heap H locs ∧ lv_has ls 4 [(0, .ref h0), (1, .int x1), (2, .int r1_), (3, .int (u41_ 0))] ∧ (0 ≤ (u41_ 0).toInt ∧ (u41_ 0).toInt ≤ 11)) (fun ls u41_ w41_ => F0 m 41 ls []) 0 0 ?_ (fun hJ41 => ?_)
          · skip
            intro H locs ls u41_ w41_ a41_ b41_ hc hJ41
            obtain ⟨hP, hD, hS, hl, b_⟩ := hc
            refine lv_iload_n hx hb dX13_put_41 rfl (lv_at hl 3 rfl) ?_
            refine lv_iload_n hx hb dX13_put_42 rfl (lv_at hl 2 rfl) ?_
            refine lv_icmp_ge (tgt := 77) hx hb dX13_put_43 (by decide) (fun c_ => ?_) (fun c_ => ?_)
            · skip
              have b_ := zT_ge rfl rfl c_
              have hc : va_P (dC, dI) vwCl [(h0, .inr (13, mX13 q0 v0)), ((q0 22), zi k16 40000 (a41_ 0))] H ∧ va_D A [(h0, .inr (13, mX13 q0 v0)), ((q0 22), zi k16 40000 (a41_ 0))] ∧ va_S A s.heap H locs ∧ lv_has ls 4 [(0, .ref h0), (1, .int x1), (2, .int r1_)] ∧ (0 ≤ (v0 24).toInt ∧ (v0 24).toInt ≤ 1) := ⟨hP, hD, hS, lv_sub hl [0, 1, 2] rfl, (by first | with_reducible assumption | exact ⟨by omega, by omega⟩)⟩
              exact hJ77 H locs ls (fun _ => 0) (fun _ => 0) (fun i => ([(a41_ 0)] : List (Nat → Int32)).getD i (fun _ => 0)) (fun _ => (fun _ => 0)) hc
            · skip
              have b_ := zF_ge rfl rfl c_
              refine lv_aload_n hx hb dX13_put_46 rfl (lv_at hl 0 rfl) ?_
              refine va_get (D := (dC, dI)) (ci := 13) (v := .ref (q0 22)) (C := RX13) (T := TX13) (N := 75) hx hb hG zuX13 hown hK hP 0 rfl rfl 22 (by decide) (hG _ zv1626) (fun _ h9 => h9) rfl dX13_put_47 ?_
              refine lv_aload_n hx hb dX13_put_50 rfl (lv_at hl 0 rfl) ?_
              refine va_get (D := (dC, dI)) (ci := 13) (v := .int (v0 23)) (C := RX13) (T := TX13) (N := 75) hx hb hG zuX13 hown hK hP 0 rfl rfl 23 (by decide) (hG _ zv1627) (fun _ h9 => h9) rfl dX13_put_51 ?_
              refine lv_iload_n hx hb dX13_put_54 rfl (lv_at hl 2 rfl) ?_
              refine lv_iadd hx hb dX13_put_55 ?_
              refine lv_topi (fun z55 e_z55 => ?_)
              have b_ := zadd rfl rfl e_z55 (by omega) (by omega)
              refine lv_iconst (v := 1) hx hb dX13_put_56 (by decide) ?_
              refine lv_isub hx hb dX13_put_57 ?_
              refine lv_topi (fun z57 e_z57 => ?_)
              have b_ := zsub rfl zk_1 e_z57 (by omega) (by omega)
              refine lv_iload_n hx hb dX13_put_58 rfl (lv_at hl 3 rfl) ?_
              refine lv_iadd hx hb dX13_put_59 ?_
              refine lv_topi (fun z59 e_z59 => ?_)
              have b_ := zadd rfl rfl e_z59 (by omega) (by omega)
              refine lv_iload_n hx hb dX13_put_60 rfl (lv_at hl 1 rfl) ?_
              refine lv_iload_n hx hb dX13_put_61 rfl (lv_at hl 2 rfl) ?_
              refine lv_iconst (v := 1) hx hb dX13_put_62 (by decide) ?_
              refine lv_isub hx hb dX13_put_63 ?_
              refine lv_topi (fun z63 e_z63 => ?_)
              have b_ := zsub rfl zk_1 e_z63 (by omega) (by omega)
              refine lv_iload_n hx hb dX13_put_64 rfl (lv_at hl 3 rfl) ?_
              refine lv_isub hx hb dX13_put_65 ?_
              refine lv_topi (fun z65 e_z65 => ?_)
              have b_ := zsub rfl rfl e_z65 (by omega) (by omega)
              refine lv_ishr hx hb dX13_put_66 ?_
              refine lv_topi (fun z66 e_z66 => ?_)
              refine lv_iconst (v := 1) hx hb dX13_put_67 (by decide) ?_
              have b_ : -2147483648 ≤ z66.toInt ∧ z66.toInt ≤ 2147483647 := ⟨zlo _, zhi _⟩
              refine lv_iand hx hb dX13_put_68 ?_
              refine lv_topi (fun z68 e_z68 => ?_)
              have b_ := zand (x := z66) zk_1 e_z68 (by decide)
              refine lv_i2b hx hb dX13_put_69 rfl ?_
              refine lv_topi (fun z69 e_z69 => ?_)
              have b_ := zi2b rfl e_z69 (by omega) (by omega)
              refine va_bast hx hb hK hP hD hS 1 0 rfl rfl (zin_lit ⟨by omega, by omega⟩) dX13_put_70 (fun H locs hP hD hS => ?_)
              obtain ⟨f_70, e_f_70⟩ : ∃ z : Nat → Int32, z = upd (a41_ 0) (z59 : Int32).toNatClampNeg (vp_nar .byte z69) := ⟨_, rfl⟩
              have hP : va_P (dC, dI) vwCl [(h0, .inr (13, mX13 q0 v0)), ((q0 22), zi k16 40000 f_70)] H := by rw [e_f_70]; exact hP
              have hD : va_D A [(h0, .inr (13, mX13 q0 v0)), ((q0 22), zi k16 40000 f_70)] := by rw [e_f_70]; exact hD
              obtain ⟨z71, e_z71⟩ : ∃ z : Int32, z = (u41_ 0) + Int32.ofInt 1 := ⟨_, rfl⟩
              have b_ := zadd (x := (u41_ 0)) (y := Int32.ofInt 1) rfl (show (Int32.ofInt 1).toInt = 1 from by decide) e_z71 (by omega) (by omega)
              refine lv_iinc (v := z71) (lv' := [(3, .int z71), (0, .ref h0), (1, .int x1), (2, .int r1_)]) hx hb dX13_put_71 hl (k := 3) rfl e_z71.symm (by decide) rfl (fun ls hl => ?_)
              refine lv_goto (tgt := 41) hx hb dX13_put_74 (by decide) ?_
              have hc : va_P (dC, dI) vwCl [(h0, .inr (13, mX13 q0 v0)), ((q0 22), zi k16 40000 f_70)] H ∧ va_D A [(h0, .inr (13, mX13 q0 v0)), ((q0 22), zi k16 40000 f_70)] ∧ va_S A s.heap H locs ∧ lv_has ls 4 [(0, .ref h0), (1, .int x1), (2, .int r1_), (3, .int z71)] ∧ (0 ≤ z71.toInt ∧ z71.toInt ≤ 11) := ⟨hP, hD, hS, lv_sub hl [1, 2, 3, 0] rfl, (by first | with_reducible assumption | exact ⟨by omega, by omega⟩)⟩
              exact hJ41 H locs ls (fun i => ([z71] : List (Int32)).getD i 0) (fun _ => 0) (fun i => ([f_70] : List (Nat → Int32)).getD i (fun _ => 0)) (fun _ => (fun _ => 0)) hc (show (11 - z71.toInt).toNat < (11 - (u41_ 0).toInt).toNat from by omega)
          · skip
            have hc : va_P (dC, dI) vwCl [(h0, .inr (13, mX13 q0 v0)), ((q0 22), zi k16 40000 (a14_ 0))] H ∧ va_D A [(h0, .inr (13, mX13 q0 v0)), ((q0 22), zi k16 40000 (a14_ 0))] ∧ va_S A s.heap H locs ∧ lv_has ls 4 [(0, .ref h0), (1, .int x1), (2, .int r1_), (3, .int 0)] ∧ (0 ≤ (0 : Int32).toInt ∧ (0 : Int32).toInt ≤ 11) := ⟨hP, hD, hS, lv_sub hl [1, 2, 3, 0] rfl, (by first | with_reducible assumption | exact ⟨by omega, by omega⟩)⟩
            exact hJ41 H locs ls (fun i => ([0] : List (Int32)).getD i 0) (fun _ => 0) (fun i => ([(a14_ 0)] : List (Nat → Int32)).getD i (fun _ => 0)) (fun _ => (fun _ => 0)) hc
        · skip
          have b_ := zF_ge rfl rfl c_
          refine lv_aload_n hx hb dX13_put_21 rfl (lv_at hl 0 rfl) ?_
          refine va_get (D := (dC, dI)) (ci := 13) (v := .ref (q0 22)) (C := RX13) (T := TX13) (N := 75) hx hb hG zuX13 hown hK hP 0 rfl rfl 22 (by decide) (hG _ zv1626) (fun _ h9 => h9) rfl dX13_put_22 ?_
          refine lv_aload_n hx hb dX13_put_25 rfl (lv_at hl 0 rfl) ?_
          refine va_get (D := (dC, dI)) (ci := 13) (v := .int (v0 23)) (C := RX13) (T := TX13) (N := 75) hx hb hG zuX13 hown hK hP 0 rfl rfl 23 (by decide) (hG _ zv1627) (fun _ h9 => h9) rfl dX13_put_26 ?_
          refine lv_iload_n hx hb dX13_put_29 rfl (lv_at hl 3 rfl) ?_
          refine lv_iadd hx hb dX13_put_30 ?_
          refine lv_topi (fun z30 e_z30 => ?_)
          have b_ := zadd rfl rfl e_z30 (by omega) (by omega)
          refine lv_iconst (v := 0) hx hb dX13_put_31 (by decide) ?_
          refine va_bast hx hb hK hP hD hS 1 0 rfl rfl (zin_lit ⟨by omega, by omega⟩) dX13_put_32 (fun H locs hP hD hS => ?_)
          obtain ⟨f_32, e_f_32⟩ : ∃ z : Nat → Int32, z = upd (a14_ 0) (z30 : Int32).toNatClampNeg (vp_nar .byte 0) := ⟨_, rfl⟩
          have hP : va_P (dC, dI) vwCl [(h0, .inr (13, mX13 q0 v0)), ((q0 22), zi k16 40000 f_32)] H := by rw [e_f_32]; exact hP
          have hD : va_D A [(h0, .inr (13, mX13 q0 v0)), ((q0 22), zi k16 40000 f_32)] := by rw [e_f_32]; exact hD
          obtain ⟨z33, e_z33⟩ : ∃ z : Int32, z = (u14_ 0) + Int32.ofInt 1 := ⟨_, rfl⟩
          have b_ := zadd (x := (u14_ 0)) (y := Int32.ofInt 1) rfl (show (Int32.ofInt 1).toInt = 1 from by decide) e_z33 (by omega) (by omega)
          refine lv_iinc (v := z33) (lv' := [(3, .int z33), (0, .ref h0), (1, .int x1), (2, .int r1_)]) hx hb dX13_put_33 hl (k := 3) rfl e_z33.symm (by decide) rfl (fun ls hl => ?_)
          refine lv_goto (tgt := 14) hx hb dX13_put_36 (by decide) ?_
          have hc : va_P (dC, dI) vwCl [(h0, .inr (13, mX13 q0 v0)), ((q0 22), zi k16 40000 f_32)] H ∧ va_D A [(h0, .inr (13, mX13 q0 v0)), ((q0 22), zi k16 40000 f_32)] ∧ va_S A s.heap H locs ∧ lv_has ls 4 [(0, .ref h0), (1, .int x1), (2, .int r1_), (3, .int z33)] ∧ (0 ≤ z33.toInt ∧ z33.toInt ≤ 10) := ⟨hP, hD, hS, lv_sub hl [1, 2, 3, 0] rfl, (by first | with_reducible assumption | exact ⟨by omega, by omega⟩)⟩
          exact hJ14 H locs ls (fun i => ([z33] : List (Int32)).getD i 0) (fun _ => 0) (fun i => ([f_32] : List (Nat → Int32)).getD i (fun _ => 0)) (fun _ => (fun _ => 0)) hc (show (10 - z33.toInt).toNat < (10 - (u14_ 0).toInt).toNat from by omega)
      · skip
        have hc : va_P (dC, dI) vwCl [(h0, .inr (13, mX13 q0 v0)), ((q0 22), zi k16 40000 f16)] H ∧ va_D A [(h0, .inr (13, mX13 q0 v0)), ((q0 22), zi k16 40000 f16)] ∧ va_S A s.heap H locs ∧ lv_has ls 4 [(0, .ref h0), (1, .int x1), (2, .int r1_), (3, .int 0)] ∧ (0 ≤ (0 : Int32).toInt ∧ (0 : Int32).toInt ≤ 10) := ⟨hP, hD, hS, lv_sub hl [2, 3, 1, 0] rfl, (by first | with_reducible assumption | exact ⟨by omega, by omega⟩)⟩
        exact hJ14 H locs ls (fun i => ([0] : List (Int32)).getD i 0) (fun _ => 0) (fun i => ([f16] : List (Nat → Int32)).getD i (fun _ => 0)) (fun _ => (fun _ => 0)) hc
set_option maxHeartbeats 8000000 in
set_option maxRecDepth 100000 in
theorem sX13_layOut_0 (l : Launch) (dC : Nat → ClassId) (dI : Nat → Nat → Nat) (adK adV : Nat → Nat) (h0 : Nat) (q0 : Nat → Nat) (k6 : ClassId) (k10 : ClassId) (k4 : ClassId) (k11 : ClassId) (k16 : ClassId) (k2 : ClassId) (k3 : ClassId) (sz : Nat) (v0 : Nat → Int32) (f6 : Nat → Int32) (f10 : Nat → Int32) (f4 : Nat → Int32) (f11 : Nat → Int32) (f16 : Nat → Int32) (f2 : Nat → Int32) (f3 : Nat → Int32) (x1 : Int32) (x2 : Int32) (hv0 : zR rg_Model v0) (hf10 : zA 0 512 f10) (hf4 : zA 0 400 f4) (hf11 : zA 0 512 f11) (hf3 : zA 0 12 f3) (hx1 : 0 ≤ x1.toInt ∧ x1.toInt ≤ 399) (hx2 : 0 ≤ x2.toInt ∧ x2.toInt ≤ 1) (hp0_ : x2.toInt = 1 → (zB f4 f6 x1.toInt  ((v0 13).toInt).toNat).1 ≤ 40000) : Met l yX13_layOut (zw yX13_layOut cX13_layOut 8 (some .int)) { frames := 2, cells := 0, slots := 0, locals := 45 } (zPc dC dI adK adV [.ref h0, .int x1, .int x2] sz [(h0, .inr (13, mX13 q0 v0)), ((q0 7), zi k6 120 f6), ((q0 11), zi k10 120 f10), ((q0 5), zi k4 122880 f4), ((q0 12), zi k11 120 f11), ((q0 22), zi k16 40000 f16), ((q0 2), zi k2 4800 f2), ((q0 3), zi k3 400 f3)] [(k6, .boolean), (k10, .int), (k4, .short), (k11, .int), (k16, .byte), (k2, .byte), (k3, .int)]) (va_Qi (fun (r : Int32) (u : Nat → Int32) => (0 ≤ r.toInt ∧ r.toInt ≤ 2600021) ∧ (0 ≤ (u 0).toInt ∧ (u 0).toInt ≤ 2600021) ∧ (0 ≤ (u 1).toInt ∧ (u 1).toInt ≤ 1) ∧ (r.toInt ≤ (zB f4 f6 x1.toInt  ((v0 13).toInt).toNat).1) ∧ (0 ≤ r.toInt) ∧ (zW (∀ (T : Nat → Nat → Int) (V : List Int) (x : Int), zMd f2 f3 (v0 4).toInt f4 f6 (v0 13).toInt T V → zMb f10 f11 (v0 13).toInt T → V[(x1.toInt).toNat]? = some x → r.toInt = ((zPq T x ((v0 13).toInt).toNat).length : Int)))) (fun (u : Nat → Int32) (t : State) => ∃ (ww : Nat → Int64) (aa : Nat → Nat → Int32) (bb : Nat → Nat → Int64), va_P (dC, dI) vwCl [(h0, .inr (13, mX13 q0 (upd (upd v0 23 (u 0)) 24 (u 1)))), ((q0 7), zi k6 120 f6), ((q0 11), zi k10 120 f10), ((q0 5), zi k4 122880 f4), ((q0 12), zi k11 120 f11), ((q0 22), zi k16 40000 (aa 0)), ((q0 2), zi k2 4800 f2), ((q0 3), zi k3 400 f3)] t.heap ∧ va_K (dC, dI) vwCl [(k6, .boolean), (k10, .int), (k4, .short), (k11, .int), (k16, .byte), (k2, .byte), (k3, .int)] t ∧ va_D (va_A [(h0, .inr (13, mX13 q0 v0)), ((q0 7), zi k6 120 f6), ((q0 11), zi k10 120 f10), ((q0 5), zi k4 122880 f4), ((q0 12), zi k11 120 f11), ((q0 22), zi k16 40000 f16), ((q0 2), zi k2 4800 f2), ((q0 3), zi k3 400 f3)] sz) [(h0, .inr (13, mX13 q0 (upd (upd v0 23 (u 0)) 24 (u 1)))), ((q0 7), zi k6 120 f6), ((q0 11), zi k10 120 f10), ((q0 5), zi k4 122880 f4), ((q0 12), zi k11 120 f11), ((q0 22), zi k16 40000 (aa 0)), ((q0 2), zi k2 4800 f2), ((q0 3), zi k3 400 f3)]) (va_A [(h0, .inr (13, mX13 q0 v0)), ((q0 7), zi k6 120 f6), ((q0 11), zi k10 120 f10), ((q0 5), zi k4 122880 f4), ((q0 12), zi k11 120 f11), ((q0 22), zi k16 40000 f16), ((q0 2), zi k2 4800 f2), ((q0 3), zi k3 400 f3)] sz)) 0 0 (va_A [(h0, .inr (13, mX13 q0 v0)), ((q0 7), zi k6 120 f6), ((q0 11), zi k10 120 f10), ((q0 5), zi k4 122880 f4), ((q0 12), zi k11 120 f11), ((q0 22), zi k16 40000 f16), ((q0 2), zi k2 4800 f2), ((q0 3), zi k3 400 f3)] sz) := by
  refine Met.ofW (cc := cX13_layOut) (maxL := 8) (ret := (some .int)) (by decide) rfl ?_
  intro p e s m args below meth c s₁ B hml hv
  obtain ⟨rfl, hsz, hP, hK, hD0, hE, hZ⟩ := hv
  have hx := B.exec
  have hb := B.bytes
  have hr := B.returns
  have hG : ∀ w ∈ zG, w.before _ s = true := fun w h => atoms_spec (ws := (zw yX13_layOut cX13_layOut 8 (some .int))) B.pre w (List.mem_cons_of_mem _ h)
  have hown : s.vm.findClass RX13 = some m.cls := findClass_of_methodNamed B.named
  have hlocks := B.notSynchronized

  subst hsz
  have hD := hD0.self (sz := s.heap.size)
  generalize hAe : va_A [(h0, .inr (13, mX13 q0 v0)), ((q0 7), zi k6 120 f6), ((q0 11), zi k10 120 f10), ((q0 5), zi k4 122880 f4), ((q0 12), zi k11 120 f11), ((q0 22), zi k16 40000 f16), ((q0 2), zi k2 4800 f2), ((q0 3), zi k3 400 f3)] s.heap.size = A at hD hZ ⊢
  have hA : ∀ q : Nat, s.heap.size ≤ q → A q := fun q h => by rw [← hAe]; exact Or.inr h
  have hS : va_S A s.heap s.heap [] := va_S.rf
  have hl := lv_entry ([.ref h0, .int x1, .int x2]) (n := 8) (Nat.le_of_ble_eq_true rfl)
  rw [lg_entry_eq]
  generalize (lg_sl ([.ref h0, .int x1, .int x2]) ++ List.replicate (8 - (lg_sl ([.ref h0, .int x1, .int x2])).length) Slot.unset).toArray = ls at hl ⊢
  have hl : lv_has ls 8 [(0, .ref h0), (1, .int x1), (2, .int x2)] := hl
  have b_ := zk_m1
  have b_ := zk_0
  have b_ : 0 ≤ (v0 13).toInt ∧ (v0 13).toInt ≤ 120 := hv0 13
  have b_ : 0 ≤ (v0 4).toInt ∧ (v0 4).toInt ≤ 400 := hv0 4
  have hb0 : (zB f4 f6 x1.toInt 0).1 = 0 ∧ (zB f4 f6 x1.toInt 0).2 = -1 := ⟨rfl, rfl⟩
  refine lv_aload_n hx hb dX13_layOut_0 rfl (lv_at hl 0 rfl) ?_
  refine lv_iload_n hx hb dX13_layOut_1 rfl (lv_at hl 2 rfl) ?_
  refine va_put (D := (dC, dI)) (ci := 13) (v := .int x2) (ty := .boolean) (C := RX13) (T := TX13) (N := 75) hx hb hG zuX13 tyX13 tyX13_ok nmX13 hown hK hP hD hS 0 rfl rfl 24 (by decide) (hG _ zv1628) (fun _ h9 => h9) rfl (by decide +kernel) (zbn ⟨by omega, by omega⟩) (zbf ⟨by omega, by omega⟩) (Nat.le_of_ble_eq_true rfl) dX13_layOut_2 (fun H locs hP hD hS => ?_)
  have hP : va_P (dC, dI) vwCl [(h0, .inr (13, mX13 q0 (upd v0 24 x2))), ((q0 7), zi k6 120 f6), ((q0 11), zi k10 120 f10), ((q0 5), zi k4 122880 f4), ((q0 12), zi k11 120 f11), ((q0 22), zi k16 40000 f16), ((q0 2), zi k2 4800 f2), ((q0 3), zi k3 400 f3)] H := hP
  have hD : va_D A [(h0, .inr (13, mX13 q0 (upd v0 24 x2))), ((q0 7), zi k6 120 f6), ((q0 11), zi k10 120 f10), ((q0 5), zi k4 122880 f4), ((q0 12), zi k11 120 f11), ((q0 22), zi k16 40000 f16), ((q0 2), zi k2 4800 f2), ((q0 3), zi k3 400 f3)] := hD
  refine lv_aload_n hx hb dX13_layOut_5 rfl (lv_at hl 0 rfl) ?_
  refine lv_iconst (v := 0) hx hb dX13_layOut_6 (by decide) ?_
  refine va_put (D := (dC, dI)) (ci := 13) (v := .int 0) (ty := .int) (C := RX13) (T := TX13) (N := 75) hx hb hG zuX13 tyX13 tyX13_ok nmX13 hown hK hP hD hS 0 rfl rfl 23 (by decide) (hG _ zv1627) (fun _ h9 => h9) rfl (by decide +kernel) rfl rfl (Nat.le_of_ble_eq_true rfl) dX13_layOut_7 (fun H locs hP hD hS => ?_)
  have hP : va_P (dC, dI) vwCl [(h0, .inr (13, mX13 q0 (upd (upd v0 23 0) 24 x2))), ((q0 7), zi k6 120 f6), ((q0 11), zi k10 120 f10), ((q0 5), zi k4 122880 f4), ((q0 12), zi k11 120 f11), ((q0 22), zi k16 40000 f16), ((q0 2), zi k2 4800 f2), ((q0 3), zi k3 400 f3)] H := hP
  have hD : va_D A [(h0, .inr (13, mX13 q0 (upd (upd v0 23 0) 24 x2))), ((q0 7), zi k6 120 f6), ((q0 11), zi k10 120 f10), ((q0 5), zi k4 122880 f4), ((q0 12), zi k11 120 f11), ((q0 22), zi k16 40000 f16), ((q0 2), zi k2 4800 f2), ((q0 3), zi k3 400 f3)] := hD
  refine lv_iconst (v := (-1)) hx hb dX13_layOut_10 (by decide) ?_
  refine lv_istore_n (lv' := [(3, .int (-1)), (0, .ref h0), (1, .int x1), (2, .int x2)]) hx hb dX13_layOut_11 rfl hl (by decide) rfl (fun ls hl => ?_)
  refine lv_iconst (v := 0) hx hb dX13_layOut_12 (by decide) ?_
  refine lv_istore (lv' := [(4, .int 0), (3, .int (-1)), (0, .ref h0), (1, .int x1), (2, .int x2)]) hx hb dX13_layOut_13 hl (by decide) rfl (fun ls hl => ?_)
  refine zcutL (fun u15_ => (120 - (u15_ 1).toInt).toNat) (fun H locs ls u15_ w15_ a15_ b15_ => va_P (dC, dI) vwCl [(h0, .inr (13, mX13 q0 (upd (upd v0 23 (u15_ 2)) 24 x2))), ((q0 7), zi k6 120 f6), ((q0 11), zi k10 120 f10), ((q0 5), zi k4 122880 f4), ((q0 12), zi k11 120 f11), ((q0 22), zi k16 40000 (a15_ 0)), ((q0 2), zi k2 4800 f2), ((q0 3), zi k3 400 f3)] H ∧ va_D A [(h0, .inr (13, mX13 q0 (upd (upd v0 23 (u15_ 2)) 24 x2))), ((q0 7), zi k6 120 f6), ((q0 11), zi k10 120 f10), ((q0 5), zi k4 122880 f4), ((q0 12), zi k11 120 f11), ((q0 22), zi k16 40000 (a15_ 0)), ((q0 2), zi k2 4800 f2), ((q0 3), zi k3 400 f3)] ∧ va_S A s.heap H locs ∧ lv_has ls 8 [(0, .ref h0), (1, .int x1), (2, .int x2), (3, .int (u15_ 0)), (4, .int (u15_ 1))] ∧ ((-1) ≤ (u15_ 0).toInt ∧ (u15_ 0).toInt ≤ 119) ∧ (0 ≤ (u15_ 1).toInt ∧ (u15_ 1).toInt ≤ 120) ∧ (0 ≤ (u15_ 2).toInt ∧ (u15_ 2).toInt ≤ 2600021) ∧ (zSl (u15_ 2).toInt (u15_ 0).toInt (zB f4 f6 x1.toInt  ((u15_ 1).toInt).toNat).1 (zB f4 f6 x1.toInt  ((u15_ 1).toInt).toNat).2) ∧ ((u15_ 1).toInt ≤ (v0 13).toInt) ∧ (x2.toInt = x2.toInt) ∧ (0 ≤ (u15_ 2).toInt) ∧ (-1 ≤ (u15_ 0).toInt ∧ (u15_ 0).toInt < (u15_ 1).toInt) ∧ (zLy f2 f3 (v0 4).toInt f4 f6 f10 f11 (v0 13).toInt x1.toInt (u15_ 1).toInt (u15_ 2).toInt (u15_ 0).toInt)) (fun ls u15_ w15_ => F0 m 15 ls []) 0 0 ?_ (fun hJ15 => ?_)
  · skip
    intro H locs ls u15_ w15_ a15_ b15_ hc hJ15
    obtain ⟨hP, hD, hS, hl, b_, b_, b_, hI15_0, b_, b_, b_, b_, hI15_5⟩ := hc
    refine lv_iload hx hb dX13_layOut_15 (lv_at hl 4 rfl) ?_
    refine lv_aload_n hx hb dX13_layOut_17 rfl (lv_at hl 0 rfl) ?_
    refine va_get (D := (dC, dI)) (ci := 13) (v := .int (v0 13)) (C := RX13) (T := TX13) (N := 75) hx hb hG zuX13 hown hK hP 0 rfl rfl 13 (by decide) (hG _ zv1617) (fun _ h9 => h9) rfl dX13_layOut_18 ?_
    refine lv_icmp_ge (tgt := 134) hx hb dX13_layOut_21 (by decide) (fun c_ => ?_) (fun c_ => ?_)
    · skip
      have b_ := zT_ge rfl rfl c_
      have hfi : (u15_ 2).toInt ≤ (zB f4 f6 x1.toInt ((v0 13).toInt).toNat).1 := by rw [show (v0 13).toInt = (u15_ 1).toInt from by omega]; exact hI15_0.1
      refine lv_aload_n hx hb dX13_layOut_134 rfl (lv_at hl 0 rfl) ?_
      refine va_get (D := (dC, dI)) (ci := 13) (v := .int (u15_ 2)) (C := RX13) (T := TX13) (N := 75) hx hb hG zuX13 hown hK hP 0 rfl rfl 23 (by decide) (hG _ zv1627) (fun _ h9 => h9) rfl dX13_layOut_135 ?_
      refine W.widen (k := 0) (n := 0) (by decide) (by decide) ?_
      have hpost : (0 ≤ (u15_ 2).toInt ∧ (u15_ 2).toInt ≤ 2600021) ∧ (0 ≤ (u15_ 2).toInt ∧ (u15_ 2).toInt ≤ 2600021) ∧ (0 ≤ x2.toInt ∧ x2.toInt ≤ 1) ∧ ((u15_ 2).toInt ≤ (zB f4 f6 x1.toInt  ((v0 13).toInt).toNat).1) ∧ (0 ≤ (u15_ 2).toInt) ∧ (zW (∀ (T : Nat → Nat → Int) (V : List Int) (x : Int), zMd f2 f3 (v0 4).toInt f4 f6 (v0 13).toInt T V → zMb f10 f11 (v0 13).toInt T → V[(x1.toInt).toNat]? = some x → (u15_ 2).toInt = ((zPq T x ((v0 13).toInt).toNat).length : Int))) := ⟨(by first | with_reducible assumption | exact ⟨by omega, by omega⟩), (by first | with_reducible assumption | exact ⟨by omega, by omega⟩), (by first | with_reducible assumption | exact ⟨by omega, by omega⟩), by omega, by omega, by exact fun T V x hm hb hv => zLy_e hI15_5 (by omega) (by omega) (by omega) rfl hm hb hv⟩
      have hP9 : va_P (dC, dI) vwCl [(h0, .inr (13, mX13 q0 (upd (upd v0 23 (u15_ 2)) 24 x2))), ((q0 7), zi k6 120 f6), ((q0 11), zi k10 120 f10), ((q0 5), zi k4 122880 f4), ((q0 12), zi k11 120 f11), ((q0 22), zi k16 40000 (a15_ 0)), ((q0 2), zi k2 4800 f2), ((q0 3), zi k3 400 f3)] H := hP
      have hD9 : va_D A [(h0, .inr (13, mX13 q0 (upd (upd v0 23 (u15_ 2)) 24 x2))), ((q0 7), zi k6 120 f6), ((q0 11), zi k10 120 f10), ((q0 5), zi k4 122880 f4), ((q0 12), zi k11 120 f11), ((q0 22), zi k16 40000 (a15_ 0)), ((q0 2), zi k2 4800 f2), ((q0 3), zi k3 400 f3)] := hD
      exact W.iret (v := (u15_ 2)) hx hb hr (fun t ht hW => ⟨⟨(u15_ 2), (fun i => ([(u15_ 2), x2] : List (Int32)).getD i 0), rfl, hpost, (fun _ => 0), (fun i => ([(a15_ 0)] : List (Nat → Int32)).getD i (fun _ => 0)), (fun _ => (fun _ => 0)), by rw [ht]; exact hP9, va_K.moved hW.alike hK, hD9⟩, hS.F ht⟩) hS.2.2 dX13_layOut_138
    · skip
      have b_ := zF_ge rfl rfl c_
      refine lv_aload_n hx hb dX13_layOut_24 rfl (lv_at hl 0 rfl) ?_
      refine va_get (D := (dC, dI)) (ci := 13) (v := .ref (q0 7)) (C := RX13) (T := TX13) (N := 75) hx hb hG zuX13 hown hK hP 0 rfl rfl 7 (by decide) (hG _ zv1611) (fun _ h9 => h9) rfl dX13_layOut_25 ?_
      refine lv_iload hx hb dX13_layOut_28 (lv_at hl 4 rfl) ?_
      refine va_zald hx hb hK hP 1 0 rfl rfl (zin_lit ⟨by omega, by omega⟩) dX13_layOut_30 ?_
      refine lv_topi (fun z30 e_z30 => ?_)
      have hke : (f6 ((u15_ 1).toInt).toNat).toInt = z30.toInt := congrArg Int32.toInt e_z30.symm
      have b_ : -2147483648 ≤ z30.toInt ∧ z30.toInt ≤ 2147483647 := ⟨zlo _, zhi _⟩
      refine lv_if_eq (tgt := 44) hx hb dX13_layOut_31 (by decide) (fun c_ => ?_) (fun c_ => ?_)
      · skip
        have b_ := zT_eq rfl zk_0 c_
        refine lv_iconst (v := 0) hx hb dX13_layOut_44 (by decide) ?_
        refine lv_istore (lv' := [(5, .int 0), (0, .ref h0), (1, .int x1), (2, .int x2), (3, .int (u15_ 0)), (4, .int (u15_ 1))]) hx hb dX13_layOut_45 hl (by decide) rfl (fun ls hl => ?_)
        refine lv_iload hx hb dX13_layOut_47 (lv_at hl 0 rfl) ?_
        refine lv_if_ne (tgt := 55) hx hb dX13_layOut_49 (by decide) (fun c_ => absurd c_ (by decide)) (fun c_ => ?_)
        refine lv_goto (tgt := 128) hx hb dX13_layOut_52 (by decide) ?_
        obtain ⟨z128, e_z128⟩ : ∃ z : Int32, z = (u15_ 1) + Int32.ofInt 1 := ⟨_, rfl⟩
        have b_ := zadd (x := (u15_ 1)) (y := Int32.ofInt 1) rfl (show (Int32.ofInt 1).toInt = 1 from by decide) e_z128 (by omega) (by omega)
        refine lv_iinc (v := z128) (lv' := [(4, .int z128), (5, .int 0), (0, .ref h0), (1, .int x1), (2, .int x2), (3, .int (u15_ 0))]) hx hb dX13_layOut_128 hl (k := 5) rfl e_z128.symm (by decide) rfl (fun ls hl => ?_)
        have e9 : (z128.toInt).toNat = ((u15_ 1).toInt).toNat + 1 := by omega
        have hsl : zSl (u15_ 2).toInt (u15_ 0).toInt (zB f4 f6 x1.toInt  (z128.toInt).toNat).1 (zB f4 f6 x1.toInt  (z128.toInt).toNat).2 := by rw [e9]; exact zSl_d hI15_0 (by omega)
        have hly : zLy f2 f3 (v0 4).toInt f4 f6 f10 f11 (v0 13).toInt x1.toInt z128.toInt (u15_ 2).toInt (u15_ 0).toInt := zLy_k hI15_5 (by omega) (by rw [← e_z30]; omega) (by omega) rfl rfl
        refine lv_goto (tgt := 15) hx hb dX13_layOut_131 (by decide) ?_
        have hc : va_P (dC, dI) vwCl [(h0, .inr (13, mX13 q0 (upd (upd v0 23 (u15_ 2)) 24 x2))), ((q0 7), zi k6 120 f6), ((q0 11), zi k10 120 f10), ((q0 5), zi k4 122880 f4), ((q0 12), zi k11 120 f11), ((q0 22), zi k16 40000 (a15_ 0)), ((q0 2), zi k2 4800 f2), ((q0 3), zi k3 400 f3)] H ∧ va_D A [(h0, .inr (13, mX13 q0 (upd (upd v0 23 (u15_ 2)) 24 x2))), ((q0 7), zi k6 120 f6), ((q0 11), zi k10 120 f10), ((q0 5), zi k4 122880 f4), ((q0 12), zi k11 120 f11), ((q0 22), zi k16 40000 (a15_ 0)), ((q0 2), zi k2 4800 f2), ((q0 3), zi k3 400 f3)] ∧ va_S A s.heap H locs ∧ lv_has ls 8 [(0, .ref h0), (1, .int x1), (2, .int x2), (3, .int (u15_ 0)), (4, .int z128)] ∧ ((-1) ≤ (u15_ 0).toInt ∧ (u15_ 0).toInt ≤ 119) ∧ (0 ≤ z128.toInt ∧ z128.toInt ≤ 120) ∧ (0 ≤ (u15_ 2).toInt ∧ (u15_ 2).toInt ≤ 2600021) ∧ (zSl (u15_ 2).toInt (u15_ 0).toInt (zB f4 f6 x1.toInt  (z128.toInt).toNat).1 (zB f4 f6 x1.toInt  (z128.toInt).toNat).2) ∧ (z128.toInt ≤ (v0 13).toInt) ∧ (x2.toInt = x2.toInt) ∧ (0 ≤ (u15_ 2).toInt) ∧ (-1 ≤ (u15_ 0).toInt ∧ (u15_ 0).toInt < z128.toInt) ∧ (zLy f2 f3 (v0 4).toInt f4 f6 f10 f11 (v0 13).toInt x1.toInt z128.toInt (u15_ 2).toInt (u15_ 0).toInt) := ⟨hP, hD, hS, lv_sub hl [2, 3, 4, 5, 0] rfl, (by first | with_reducible assumption | exact ⟨by omega, by omega⟩), (by first | with_reducible assumption | exact ⟨by omega, by omega⟩), (by first | with_reducible assumption | exact ⟨by omega, by omega⟩), by first | exact hsl | (rw [zk_0, zk_m1]; exact ⟨Int.le_refl _, Int.le_refl _, Or.inl rfl⟩), by omega, by omega, by omega, by omega, by first | exact hly | exact zLy_0 (by decide) (by decide) (by decide)⟩
        exact hJ15 H locs ls (fun i => ([(u15_ 0), z128, (u15_ 2)] : List (Int32)).getD i 0) (fun _ => 0) (fun i => ([(a15_ 0)] : List (Nat → Int32)).getD i (fun _ => 0)) (fun _ => (fun _ => 0)) hc (show (120 - z128.toInt).toNat < (120 - (u15_ 1).toInt).toNat from by omega)
      · skip
        have b_ := zF_eq rfl zk_0 c_
        refine lv_aload_n hx hb dX13_layOut_34 rfl (lv_at hl 0 rfl) ?_
        refine lv_iload hx hb dX13_layOut_35 (lv_at hl 4 rfl) ?_
        refine lv_iload_n hx hb dX13_layOut_37 rfl (lv_at hl 1 rfl) ?_
        have hPc := hP.sub (ws' := [(h0, .inr (13, mX13 q0 (upd (upd v0 23 (u15_ 2)) 24 x2))), ((q0 11), zi k10 120 f10), ((q0 5), zi k4 122880 f4), ((q0 12), zi k11 120 f11)]) [0, 2, 3, 4] rfl
        have hDc := hD.sub (ws' := [(h0, .inr (13, mX13 q0 (upd (upd v0 23 (u15_ 2)) 24 x2))), ((q0 11), zi k10 120 f10), ((q0 5), zi k4 122880 f4), ((q0 12), zi k11 120 f11)]) [0, 2, 3, 4] (by decide) rfl
        have hKc := hK.sub (tys' := [(k10, .int), (k4, .short), (k11, .int)]) [1, 2, 3] rfl
        have hFc := va_free (wc := [(h0, .inr (13, mX13 q0 (upd (upd v0 23 (u15_ 2)) 24 x2))), ((q0 11), zi k10 120 f10), ((q0 5), zi k4 122880 f4), ((q0 12), zi k11 120 f11)]) hD hS hA [0, 2, 3, 4] rfl
        refine va_calli (va_runV (As := [.int (u15_ 1), .int x1]) (rest := []) ⟨hx, hb, hml, hown, hG⟩ (sX13_timesOf_0 l dC dI adK adV h0 q0 k10 k4 k11 H.size (upd (upd v0 23 (u15_ 2)) 24 x2) f10 f4 f11 (u15_ 1) x1 (zR_up2 (zR_updF hv0 23 rfl) 24 (show (0 : Int) ≤ (x2 : Int32).toInt ∧ (x2 : Int32).toInt ≤ (1 : Int) from (by first | with_reducible assumption | exact ⟨by omega, by omega⟩))) hf10 hf4 hf11 (show (0 : Int) ≤ ((u15_ 1) : Int32).toInt ∧ ((u15_ 1) : Int32).toInt ≤ (119 : Int) from (by first | with_reducible assumption | exact ⟨by omega, by omega⟩)) (show (0 : Int) ≤ (x1 : Int32).toInt ∧ (x1 : Int32).toInt ≤ (399 : Int) from (by first | with_reducible assumption | exact ⟨by omega, by omega⟩))) (cwV 2 hG (zgV zv1979 zv1981 zv71 zv142 zv1982) rfl rfl rfl (by decide +kernel) ⟨Nat.le_of_ble_eq_true rfl, Nat.le_of_ble_eq_true rfl⟩) ⟨zPc_blind, va_recv hKc hPc (ci := 13) (q0 := 0) rfl rfl, zPc_pre hPc hKc hDc hE hS hFc hZ⟩ rfl rfl hl.1 rfl (lv_room (Nat.le_of_ble_eq_true rfl)) dX13_layOut_38 ⟨Nat.le_of_ble_eq_true rfl, Nat.le_of_ble_eq_true rfl⟩) hS (fun q _ h => hFc q h) hFc (fun r38_ u38_ t H1 locs ht hvm hw hB hz1 hk1 hS => ?_)
        replace hw : (0 ≤ r38_.toInt ∧ r38_.toInt ≤ 1024) ∧ (r38_.toInt ≤ (zp f4 (u15_ 1).toInt x1.toInt 1024).1) ∧ (zTf f4 f10 f11 ((u15_ 1) : Int32) x1.toInt r38_.toInt) := hw
        obtain ⟨b_, hX38_0, hX38_1⟩ := hw
        obtain ⟨w38_, a38_, b38_, hP1, hK1, hD1⟩ := hB
        rw [ht] at hP1
        obtain ⟨hP, hD⟩ := va_join (wr := [((q0 7), zi k6 120 f6), ((q0 22), zi k16 40000 (a15_ 0)), ((q0 2), zi k2 4800 f2), ((q0 3), zi k3 400 f3)]) (w1 := [(h0, .inr (13, mX13 q0 (upd (upd v0 23 (u15_ 2)) 24 x2))), ((q0 11), zi k10 120 f10), ((q0 5), zi k4 122880 f4), ((q0 12), zi k11 120 f11)]) hP hD [0, 2, 3, 4] [1, 5, 6, 7] rfl rfl (by decide) (by decide) hk1 hFc hP1 hD1
        have hP : va_P (dC, dI) vwCl [(h0, .inr (13, mX13 q0 (upd (upd v0 23 (u15_ 2)) 24 x2))), ((q0 7), zi k6 120 f6), ((q0 11), zi k10 120 f10), ((q0 5), zi k4 122880 f4), ((q0 12), zi k11 120 f11), ((q0 22), zi k16 40000 (a15_ 0)), ((q0 2), zi k2 4800 f2), ((q0 3), zi k3 400 f3)] H1 := hP.sub [4, 0, 5, 6, 7, 1, 2, 3] rfl
        have hD : va_D A [(h0, .inr (13, mX13 q0 (upd (upd v0 23 (u15_ 2)) 24 x2))), ((q0 7), zi k6 120 f6), ((q0 11), zi k10 120 f10), ((q0 5), zi k4 122880 f4), ((q0 12), zi k11 120 f11), ((q0 22), zi k16 40000 (a15_ 0)), ((q0 2), zi k2 4800 f2), ((q0 3), zi k3 400 f3)] := hD.sub [4, 0, 5, 6, 7, 1, 2, 3] (by decide) rfl
        generalize H1 = H at hP hS ⊢
        clear hz1
        refine lv_goto (tgt := 45) hx hb dX13_layOut_41 (by decide) ?_
        refine lv_istore (lv' := [(5, .int r38_), (0, .ref h0), (1, .int x1), (2, .int x2), (3, .int (u15_ 0)), (4, .int (u15_ 1))]) hx hb dX13_layOut_45 hl (by decide) rfl (fun ls hl => ?_)
        refine lv_iload hx hb dX13_layOut_47 (lv_at hl 0 rfl) ?_
        refine lv_if_ne (tgt := 55) hx hb dX13_layOut_49 (by decide) (fun c_ => ?_) (fun c_ => ?_)
        · skip
          have b_ := zT_ne rfl zk_0 c_
          have hst9 := zSl_t (m := r38_.toInt) hI15_0 (by omega) (by omega) (by rw [hke]; omega) (by omega) hX38_0
          have hmo : (zB f4 f6 x1.toInt (((u15_ 1).toInt).toNat + 1)).1 ≤ (zB f4 f6 x1.toInt ((v0 13).toInt).toNat).1 := zB_mono (by omega) (by omega)
          have hbb := zB_b (ta := f4) (ke := f6) (w := x1.toInt) (n := ((v0 13).toInt).toNat) (by omega)
          have hpb := zp_b (ta := f4) (d := (u15_ 1).toInt) (w := x1.toInt) (k := 1024) (Nat.le_refl _)
          have hg1 := zgam_1 (x := r38_.toInt) (by omega)
          have hg2 := zgam_1 (x := (u15_ 1).toInt - (u15_ 0).toInt) (by omega)
          have htb := hst9.2
          refine lv_aload_n hx hb dX13_layOut_55 rfl (lv_at hl 1 rfl) ?_
          refine lv_iload hx hb dX13_layOut_56 (lv_at hl 5 rfl) ?_
          refine lv_iload_n hx hb dX13_layOut_58 rfl (lv_at hl 4 rfl) ?_
          refine lv_isub hx hb dX13_layOut_59 ?_
          refine lv_topi (fun z59 e_z59 => ?_)
          have b_ := zsub rfl rfl e_z59 (by omega) (by omega)
          have b_ : zgam z59.toInt = zgam ((u15_ 1).toInt - (u15_ 0).toInt) := by rw [show z59.toInt = (u15_ 1).toInt - (u15_ 0).toInt from by omega]
          have hPc := hP.sub (ws' := [(h0, .inr (13, mX13 q0 (upd (upd v0 23 (u15_ 2)) 24 x2))), ((q0 22), zi k16 40000 (a15_ 0))]) [0, 5] rfl
          have hDc := hD.sub (ws' := [(h0, .inr (13, mX13 q0 (upd (upd v0 23 (u15_ 2)) 24 x2))), ((q0 22), zi k16 40000 (a15_ 0))]) [0, 5] (by decide) rfl
          have hKc := hK.sub (tys' := [(k16, .byte)]) [4] rfl
          have hFc := va_free (wc := [(h0, .inr (13, mX13 q0 (upd (upd v0 23 (u15_ 2)) 24 x2))), ((q0 22), zi k16 40000 (a15_ 0))]) hD hS hA [0, 5] rfl
          refine va_callv (va_runV (As := [.int z59]) (rest := []) ⟨hx, hb, hml, hown, hG⟩ (sX13_put_0 l dC dI adK adV h0 q0 k16 H.size (upd (upd v0 23 (u15_ 2)) 24 x2) (a15_ 0) z59 (zR_up2 (zR_updF hv0 23 rfl) 24 (show (0 : Int) ≤ (x2 : Int32).toInt ∧ (x2 : Int32).toInt ≤ (1 : Int) from (by first | with_reducible assumption | exact ⟨by omega, by omega⟩))) (show (1 : Int) ≤ (z59 : Int32).toInt ∧ (z59 : Int32).toInt ≤ (1200 : Int) from (by first | with_reducible assumption | exact ⟨by omega, by omega⟩)) (show x2.toInt = 1 → (u15_ 2).toInt + zgam z59.toInt ≤ 40000 from by omega) (show 0 ≤ (u15_ 2).toInt ∧ (u15_ 2).toInt ≤ 2600000 from by omega)) (cwV 1 hG (zgV zv1995 zv1997 zv74 zv142 zv1998) rfl rfl rfl (by decide +kernel) ⟨Nat.le_of_ble_eq_true rfl, Nat.le_of_ble_eq_true rfl⟩) ⟨zPc_blind, va_recv hKc hPc (ci := 13) (q0 := 0) rfl rfl, zPc_pre hPc hKc hDc hE hS hFc hZ⟩ rfl rfl hl.1 rfl (lv_room (Nat.le_of_ble_eq_true rfl)) dX13_layOut_60 ⟨Nat.le_of_ble_eq_true rfl, Nat.le_of_ble_eq_true rfl⟩) hS (fun q _ h => hFc q h) hFc (fun u60_ t H1 locs ht hvm hw hB hz1 hk1 hS => ?_)
          replace hw : (1 ≤ (u60_ 0).toInt ∧ (u60_ 0).toInt ≤ 2600021) ∧ ((u60_ 0).toInt = (u15_ 2).toInt + zgam z59.toInt) := hw
          obtain ⟨b_, hX60_0⟩ := hw
          obtain ⟨w60_, a60_, b60_, hP1, hK1, hD1⟩ := hB
          rw [ht] at hP1
          obtain ⟨hP, hD⟩ := va_join (wr := [((q0 7), zi k6 120 f6), ((q0 11), zi k10 120 f10), ((q0 5), zi k4 122880 f4), ((q0 12), zi k11 120 f11), ((q0 2), zi k2 4800 f2), ((q0 3), zi k3 400 f3)]) (w1 := [(h0, .inr (13, mX13 q0 (upd (upd v0 23 (u60_ 0)) 24 x2))), ((q0 22), zi k16 40000 (a60_ 0))]) hP hD [0, 5] [1, 2, 3, 4, 6, 7] rfl rfl (by decide) (by decide) hk1 hFc hP1 hD1
          have hP : va_P (dC, dI) vwCl [(h0, .inr (13, mX13 q0 (upd (upd v0 23 (u60_ 0)) 24 x2))), ((q0 7), zi k6 120 f6), ((q0 11), zi k10 120 f10), ((q0 5), zi k4 122880 f4), ((q0 12), zi k11 120 f11), ((q0 22), zi k16 40000 (a60_ 0)), ((q0 2), zi k2 4800 f2), ((q0 3), zi k3 400 f3)] H1 := hP.sub [6, 0, 1, 2, 3, 7, 4, 5] rfl
          have hD : va_D A [(h0, .inr (13, mX13 q0 (upd (upd v0 23 (u60_ 0)) 24 x2))), ((q0 7), zi k6 120 f6), ((q0 11), zi k10 120 f10), ((q0 5), zi k4 122880 f4), ((q0 12), zi k11 120 f11), ((q0 22), zi k16 40000 (a60_ 0)), ((q0 2), zi k2 4800 f2), ((q0 3), zi k3 400 f3)] := hD.sub [6, 0, 1, 2, 3, 7, 4, 5] (by decide) rfl
          generalize H1 = H at hP hS ⊢
          clear hz1
          refine lv_iload hx hb dX13_layOut_63 (lv_at hl 5 rfl) ?_
          refine lv_istore_n (lv' := [(3, .int (u15_ 1)), (5, .int r38_), (0, .ref h0), (1, .int x1), (2, .int x2), (4, .int (u15_ 1))]) hx hb dX13_layOut_65 rfl hl (by decide) rfl (fun ls hl => ?_)
          refine lv_aload_n hx hb dX13_layOut_66 rfl (lv_at hl 2 rfl) ?_
          refine lv_iload hx hb dX13_layOut_67 (lv_at hl 1 rfl) ?_
          have hPc := hP.sub (ws' := [(h0, .inr (13, mX13 q0 (upd (upd v0 23 (u60_ 0)) 24 x2))), ((q0 22), zi k16 40000 (a60_ 0))]) [0, 5] rfl
          have hDc := hD.sub (ws' := [(h0, .inr (13, mX13 q0 (upd (upd v0 23 (u60_ 0)) 24 x2))), ((q0 22), zi k16 40000 (a60_ 0))]) [0, 5] (by decide) rfl
          have hKc := hK.sub (tys' := [(k16, .byte)]) [4] rfl
          have hFc := va_free (wc := [(h0, .inr (13, mX13 q0 (upd (upd v0 23 (u60_ 0)) 24 x2))), ((q0 22), zi k16 40000 (a60_ 0))]) hD hS hA [0, 5] rfl
          refine va_callv (va_runV (As := [.int r38_]) (rest := []) ⟨hx, hb, hml, hown, hG⟩ (sX13_put_0 l dC dI adK adV h0 q0 k16 H.size (upd (upd v0 23 (u60_ 0)) 24 x2) (a60_ 0) r38_ (zR_up2 (zR_updF hv0 23 rfl) 24 (show (0 : Int) ≤ (x2 : Int32).toInt ∧ (x2 : Int32).toInt ≤ (1 : Int) from (by first | with_reducible assumption | exact ⟨by omega, by omega⟩))) (show (1 : Int) ≤ (r38_ : Int32).toInt ∧ (r38_ : Int32).toInt ≤ (1200 : Int) from (by first | with_reducible assumption | exact ⟨by omega, by omega⟩)) (show x2.toInt = 1 → (u60_ 0).toInt + zgam r38_.toInt ≤ 40000 from by omega) (show 0 ≤ (u60_ 0).toInt ∧ (u60_ 0).toInt ≤ 2600000 from by omega)) (cwV 1 hG (zgV zv1995 zv1997 zv74 zv142 zv1998) rfl rfl rfl (by decide +kernel) ⟨Nat.le_of_ble_eq_true rfl, Nat.le_of_ble_eq_true rfl⟩) ⟨zPc_blind, va_recv hKc hPc (ci := 13) (q0 := 0) rfl rfl, zPc_pre hPc hKc hDc hE hS hFc hZ⟩ rfl rfl hl.1 rfl (lv_room (Nat.le_of_ble_eq_true rfl)) dX13_layOut_69 ⟨Nat.le_of_ble_eq_true rfl, Nat.le_of_ble_eq_true rfl⟩) hS (fun q _ h => hFc q h) hFc (fun u69_ t H1 locs ht hvm hw hB hz1 hk1 hS => ?_)
          replace hw : (1 ≤ (u69_ 0).toInt ∧ (u69_ 0).toInt ≤ 2600021) ∧ ((u69_ 0).toInt = (u60_ 0).toInt + zgam r38_.toInt) := hw
          obtain ⟨b_, hX69_0⟩ := hw
          obtain ⟨w69_, a69_, b69_, hP1, hK1, hD1⟩ := hB
          rw [ht] at hP1
          obtain ⟨hP, hD⟩ := va_join (wr := [((q0 7), zi k6 120 f6), ((q0 11), zi k10 120 f10), ((q0 5), zi k4 122880 f4), ((q0 12), zi k11 120 f11), ((q0 2), zi k2 4800 f2), ((q0 3), zi k3 400 f3)]) (w1 := [(h0, .inr (13, mX13 q0 (upd (upd v0 23 (u69_ 0)) 24 x2))), ((q0 22), zi k16 40000 (a69_ 0))]) hP hD [0, 5] [1, 2, 3, 4, 6, 7] rfl rfl (by decide) (by decide) hk1 hFc hP1 hD1
          have hP : va_P (dC, dI) vwCl [(h0, .inr (13, mX13 q0 (upd (upd v0 23 (u69_ 0)) 24 x2))), ((q0 7), zi k6 120 f6), ((q0 11), zi k10 120 f10), ((q0 5), zi k4 122880 f4), ((q0 12), zi k11 120 f11), ((q0 22), zi k16 40000 (a69_ 0)), ((q0 2), zi k2 4800 f2), ((q0 3), zi k3 400 f3)] H1 := hP.sub [6, 0, 1, 2, 3, 7, 4, 5] rfl
          have hD : va_D A [(h0, .inr (13, mX13 q0 (upd (upd v0 23 (u69_ 0)) 24 x2))), ((q0 7), zi k6 120 f6), ((q0 11), zi k10 120 f10), ((q0 5), zi k4 122880 f4), ((q0 12), zi k11 120 f11), ((q0 22), zi k16 40000 (a69_ 0)), ((q0 2), zi k2 4800 f2), ((q0 3), zi k3 400 f3)] := hD.sub [6, 0, 1, 2, 3, 7, 4, 5] (by decide) rfl
          generalize H1 = H at hP hS ⊢
          clear hz1
          refine lv_iconst (v := (-1)) hx hb dX13_layOut_72 (by decide) ?_
          refine lv_istore (lv' := [(6, .int (-1)), (3, .int (u15_ 1)), (5, .int r38_), (0, .ref h0), (1, .int x1), (2, .int x2), (4, .int (u15_ 1))]) hx hb dX13_layOut_73 hl (by decide) rfl (fun ls hl => ?_)
          refine lv_iconst (v := 0) hx hb dX13_layOut_75 (by decide) ?_
          refine lv_istore (lv' := [(7, .int 0), (6, .int (-1)), (3, .int (u15_ 1)), (5, .int r38_), (0, .ref h0), (1, .int x1), (2, .int x2), (4, .int (u15_ 1))]) hx hb dX13_layOut_76 hl (by decide) rfl (fun ls hl => ?_)
          refine zcutL (fun u78_ => (1024 - (u78_ 1).toInt).toNat) (fun H locs ls u78_ w78_ a78_ b78_ => va_P (dC, dI) vwCl [(h0, .inr (13, mX13 q0 (upd (upd v0 23 (u78_ 2)) 24 x2))), ((q0 7), zi k6 120 f6), ((q0 11), zi k10 120 f10), ((q0 5), zi k4 122880 f4), ((q0 12), zi k11 120 f11), ((q0 22), zi k16 40000 (a78_ 0)), ((q0 2), zi k2 4800 f2), ((q0 3), zi k3 400 f3)] H ∧ va_D A [(h0, .inr (13, mX13 q0 (upd (upd v0 23 (u78_ 2)) 24 x2))), ((q0 7), zi k6 120 f6), ((q0 11), zi k10 120 f10), ((q0 5), zi k4 122880 f4), ((q0 12), zi k11 120 f11), ((q0 22), zi k16 40000 (a78_ 0)), ((q0 2), zi k2 4800 f2), ((q0 3), zi k3 400 f3)] ∧ va_S A s.heap H locs ∧ lv_has ls 8 [(0, .ref h0), (1, .int x1), (2, .int x2), (3, .int (u15_ 1)), (4, .int (u15_ 1)), (5, .int r38_), (6, .int (u78_ 0)), (7, .int (u78_ 1))] ∧ ((-1) ≤ (u78_ 0).toInt ∧ (u78_ 0).toInt ≤ 1023) ∧ (0 ≤ (u78_ 1).toInt ∧ (u78_ 1).toInt ≤ 1024) ∧ (1 ≤ (u78_ 2).toInt ∧ (u78_ 2).toInt ≤ 2600021) ∧ ((u78_ 2).toInt = (u69_ 0).toInt + (zp f4 (u15_ 1).toInt x1.toInt ((u78_ 1).toInt).toNat).2.1 ∧ (u78_ 0).toInt = (zp f4 (u15_ 1).toInt x1.toInt ((u78_ 1).toInt).toNat).2.2) ∧ (-1 ≤ (u78_ 0).toInt ∧ (u78_ 0).toInt < (u78_ 1).toInt) ∧ ((u78_ 1).toInt ≤ 1024) ∧ (0 ≤ (u78_ 2).toInt) ∧ (x2.toInt = x2.toInt)) (fun ls u78_ w78_ => F0 m 78 ls []) 0 0 ?_ (fun hJ78 => ?_)
          · skip
            intro H locs ls u78_ w78_ a78_ b78_ hc hJ78
            obtain ⟨hP, hD, hS, hl, b_, b_, b_, hI78_0, b_, b_, b_, b_⟩ := hc
            refine lv_iload hx hb dX13_layOut_78 (lv_at hl 7 rfl) ?_
            refine lv_sipush (v := 1024) hx hb dX13_layOut_80 (by decide) ?_
            refine lv_icmp_ge (tgt := 128) hx hb dX13_layOut_83 (by decide) (fun c_ => ?_) (fun c_ => ?_)
            · skip
              have b_ := zT_ge rfl zk_1024 c_
              obtain ⟨z128, e_z128⟩ : ∃ z : Int32, z = (u15_ 1) + Int32.ofInt 1 := ⟨_, rfl⟩
              have b_ := zadd (x := (u15_ 1)) (y := Int32.ofInt 1) rfl (show (Int32.ofInt 1).toInt = 1 from by decide) e_z128 (by omega) (by omega)
              refine lv_iinc (v := z128) (lv' := [(4, .int z128), (0, .ref h0), (1, .int x1), (2, .int x2), (3, .int (u15_ 1)), (5, .int r38_), (6, .int (u78_ 0)), (7, .int (u78_ 1))]) hx hb dX13_layOut_128 hl (k := 4) rfl e_z128.symm (by decide) rfl (fun ls hl => ?_)
              have e9 : (z128.toInt).toNat = ((u15_ 1).toInt).toNat + 1 := by omega
              have e8 : (u78_ 2).toInt = (u15_ 2).toInt + zgam ((u15_ 1).toInt - (u15_ 0).toInt) + zgam r38_.toInt + (zp f4 (u15_ 1).toInt x1.toInt 1024).2.1 := by have q := hI78_0.1; rw [show ((u78_ 1).toInt).toNat = 1024 from by omega] at q; omega
              have hsl : zSl (u78_ 2).toInt (u15_ 1).toInt (zB f4 f6 x1.toInt  (z128.toInt).toNat).1 (zB f4 f6 x1.toInt  (z128.toInt).toNat).2 := by rw [e9, e8]; exact hst9.1
              have hly : zLy f2 f3 (v0 4).toInt f4 f6 f10 f11 (v0 13).toInt x1.toInt z128.toInt (u78_ 2).toInt (u15_ 1).toInt := zLy_s hI15_5 (by omega) (by omega) (by omega) (by rw [← e_z30]; omega) hX38_1 (by omega) (by omega) e8 rfl
              refine lv_goto (tgt := 15) hx hb dX13_layOut_131 (by decide) ?_
              have hc : va_P (dC, dI) vwCl [(h0, .inr (13, mX13 q0 (upd (upd v0 23 (u78_ 2)) 24 x2))), ((q0 7), zi k6 120 f6), ((q0 11), zi k10 120 f10), ((q0 5), zi k4 122880 f4), ((q0 12), zi k11 120 f11), ((q0 22), zi k16 40000 (a78_ 0)), ((q0 2), zi k2 4800 f2), ((q0 3), zi k3 400 f3)] H ∧ va_D A [(h0, .inr (13, mX13 q0 (upd (upd v0 23 (u78_ 2)) 24 x2))), ((q0 7), zi k6 120 f6), ((q0 11), zi k10 120 f10), ((q0 5), zi k4 122880 f4), ((q0 12), zi k11 120 f11), ((q0 22), zi k16 40000 (a78_ 0)), ((q0 2), zi k2 4800 f2), ((q0 3), zi k3 400 f3)] ∧ va_S A s.heap H locs ∧ lv_has ls 8 [(0, .ref h0), (1, .int x1), (2, .int x2), (3, .int (u15_ 1)), (4, .int z128)] ∧ ((-1) ≤ (u15_ 1).toInt ∧ (u15_ 1).toInt ≤ 119) ∧ (0 ≤ z128.toInt ∧ z128.toInt ≤ 120) ∧ (0 ≤ (u78_ 2).toInt ∧ (u78_ 2).toInt ≤ 2600021) ∧ (zSl (u78_ 2).toInt (u15_ 1).toInt (zB f4 f6 x1.toInt  (z128.toInt).toNat).1 (zB f4 f6 x1.toInt  (z128.toInt).toNat).2) ∧ (z128.toInt ≤ (v0 13).toInt) ∧ (x2.toInt = x2.toInt) ∧ (0 ≤ (u78_ 2).toInt) ∧ (-1 ≤ (u15_ 1).toInt ∧ (u15_ 1).toInt < z128.toInt) ∧ (zLy f2 f3 (v0 4).toInt f4 f6 f10 f11 (v0 13).toInt x1.toInt z128.toInt (u78_ 2).toInt (u15_ 1).toInt) := ⟨hP, hD, hS, lv_sub hl [1, 2, 3, 4, 0] rfl, (by first | with_reducible assumption | exact ⟨by omega, by omega⟩), (by first | with_reducible assumption | exact ⟨by omega, by omega⟩), (by first | with_reducible assumption | exact ⟨by omega, by omega⟩), by first | exact hsl | (rw [zk_0, zk_m1]; exact ⟨Int.le_refl _, Int.le_refl _, Or.inl rfl⟩), by omega, by omega, by omega, by omega, by first | exact hly | exact zLy_0 (by decide) (by decide) (by decide)⟩
              exact hJ15 H locs ls (fun i => ([(u15_ 1), z128, (u78_ 2)] : List (Int32)).getD i 0) (fun _ => 0) (fun i => ([(a78_ 0)] : List (Nat → Int32)).getD i (fun _ => 0)) (fun _ => (fun _ => 0)) hc (show (120 - z128.toInt).toNat < (120 - (u15_ 1).toInt).toNat from by omega)
            · skip
              have b_ := zF_ge rfl zk_1024 c_
              refine lv_aload_n hx hb dX13_layOut_86 rfl (lv_at hl 0 rfl) ?_
              refine va_get (D := (dC, dI)) (ci := 13) (v := .ref (q0 5)) (C := RX13) (T := TX13) (N := 75) hx hb hG zuX13 hown hK hP 0 rfl rfl 5 (by decide) (hG _ zv1609) (fun _ h9 => h9) rfl dX13_layOut_87 ?_
              refine lv_sipush (v := 1024) hx hb dX13_layOut_90 (by decide) ?_
              refine lv_iload hx hb dX13_layOut_93 (lv_at hl 4 rfl) ?_
              refine lv_imul hx hb dX13_layOut_95 ?_
              refine lv_topi (fun z95 e_z95 => ?_)
              have b_ := zmul zk_1024 rfl e_z95 (by omega) (by omega)
              refine lv_iload hx hb dX13_layOut_96 (lv_at hl 7 rfl) ?_
              refine lv_iadd hx hb dX13_layOut_98 ?_
              refine lv_topi (fun z98 e_z98 => ?_)
              have b_ := zadd rfl rfl e_z98 (by omega) (by omega)
              refine va_sald hx hb hK hP 3 2 rfl rfl (zin_lit ⟨by omega, by omega⟩) dX13_layOut_99 ?_
              refine lv_topi (fun z99 e_z99 => ?_)
              have b_ : 0 ≤ z99.toInt ∧ z99.toInt ≤ 400 := by rw [e_z99]; exact hf4 _
              have hat : (f4 (1024 * (u15_ 1).toInt + (u78_ 1).toInt).toNat).toInt = z99.toInt := congrArg Int32.toInt ((e_z99.trans (zix (by omega))).symm)
              refine lv_iload_n hx hb dX13_layOut_100 rfl (lv_at hl 1 rfl) ?_
              refine lv_iconst (v := 1) hx hb dX13_layOut_101 (by decide) ?_
              refine lv_iadd hx hb dX13_layOut_102 ?_
              refine lv_topi (fun z102 e_z102 => ?_)
              have b_ := zadd rfl zk_1 e_z102 (by omega) (by omega)
              refine lv_icmp_eq (tgt := 109) hx hb dX13_layOut_103 (by decide) (fun c_ => ?_) (fun c_ => ?_)
              · skip
                have b_ := zT_eq rfl rfl c_
                refine lv_aload_n hx hb dX13_layOut_109 rfl (lv_at hl 0 rfl) ?_
                refine lv_iload hx hb dX13_layOut_110 (lv_at hl 7 rfl) ?_
                refine lv_iload hx hb dX13_layOut_112 (lv_at hl 6 rfl) ?_
                refine lv_isub hx hb dX13_layOut_114 ?_
                refine lv_topi (fun z114 e_z114 => ?_)
                have b_ := zsub rfl rfl e_z114 (by omega) (by omega)
                have hst := zpl_y (g := (u78_ 1).toInt) (f' := (u78_ 2).toInt + zgam ((u78_ 1).toInt - (u78_ 0).toInt)) (k' := (u78_ 1).toInt + 1) hI78_0 (by omega) (hat.trans (by omega)) rfl rfl rfl
                have hpm := zp_mono (ta := f4) (d := (u15_ 1).toInt) (w := x1.toInt) (j := ((u78_ 1).toInt + 1).toNat) (k := 1024) (by omega) (Nat.le_refl _)
                have b_ : zgam z114.toInt = zgam ((u78_ 1).toInt - (u78_ 0).toInt) := by rw [show z114.toInt = (u78_ 1).toInt - (u78_ 0).toInt from by omega]
                have b_ := zgam_1 (x := z114.toInt) (by omega)
                have b_ := hst.1
                have hPc := hP.sub (ws' := [(h0, .inr (13, mX13 q0 (upd (upd v0 23 (u78_ 2)) 24 x2))), ((q0 22), zi k16 40000 (a78_ 0))]) [0, 5] rfl
                have hDc := hD.sub (ws' := [(h0, .inr (13, mX13 q0 (upd (upd v0 23 (u78_ 2)) 24 x2))), ((q0 22), zi k16 40000 (a78_ 0))]) [0, 5] (by decide) rfl
                have hKc := hK.sub (tys' := [(k16, .byte)]) [4] rfl
                have hFc := va_free (wc := [(h0, .inr (13, mX13 q0 (upd (upd v0 23 (u78_ 2)) 24 x2))), ((q0 22), zi k16 40000 (a78_ 0))]) hD hS hA [0, 5] rfl
                refine va_callv (va_runV (As := [.int z114]) (rest := []) ⟨hx, hb, hml, hown, hG⟩ (sX13_put_0 l dC dI adK adV h0 q0 k16 H.size (upd (upd v0 23 (u78_ 2)) 24 x2) (a78_ 0) z114 (zR_up2 (zR_updF hv0 23 rfl) 24 (show (0 : Int) ≤ (x2 : Int32).toInt ∧ (x2 : Int32).toInt ≤ (1 : Int) from (by first | with_reducible assumption | exact ⟨by omega, by omega⟩))) (show (1 : Int) ≤ (z114 : Int32).toInt ∧ (z114 : Int32).toInt ≤ (1200 : Int) from (by first | with_reducible assumption | exact ⟨by omega, by omega⟩)) (show x2.toInt = 1 → (u78_ 2).toInt + zgam z114.toInt ≤ 40000 from by omega) (show 0 ≤ (u78_ 2).toInt ∧ (u78_ 2).toInt ≤ 2600000 from by omega)) (cwV 1 hG (zgV zv1995 zv1997 zv74 zv142 zv1998) rfl rfl rfl (by decide +kernel) ⟨Nat.le_of_ble_eq_true rfl, Nat.le_of_ble_eq_true rfl⟩) ⟨zPc_blind, va_recv hKc hPc (ci := 13) (q0 := 0) rfl rfl, zPc_pre hPc hKc hDc hE hS hFc hZ⟩ rfl rfl hl.1 rfl (lv_room (Nat.le_of_ble_eq_true rfl)) dX13_layOut_115 ⟨Nat.le_of_ble_eq_true rfl, Nat.le_of_ble_eq_true rfl⟩) hS (fun q _ h => hFc q h) hFc (fun u115_ t H1 locs ht hvm hw hB hz1 hk1 hS => ?_)
                replace hw : (1 ≤ (u115_ 0).toInt ∧ (u115_ 0).toInt ≤ 2600021) ∧ ((u115_ 0).toInt = (u78_ 2).toInt + zgam z114.toInt) := hw
                obtain ⟨b_, hX115_0⟩ := hw
                obtain ⟨w115_, a115_, b115_, hP1, hK1, hD1⟩ := hB
                rw [ht] at hP1
                obtain ⟨hP, hD⟩ := va_join (wr := [((q0 7), zi k6 120 f6), ((q0 11), zi k10 120 f10), ((q0 5), zi k4 122880 f4), ((q0 12), zi k11 120 f11), ((q0 2), zi k2 4800 f2), ((q0 3), zi k3 400 f3)]) (w1 := [(h0, .inr (13, mX13 q0 (upd (upd v0 23 (u115_ 0)) 24 x2))), ((q0 22), zi k16 40000 (a115_ 0))]) hP hD [0, 5] [1, 2, 3, 4, 6, 7] rfl rfl (by decide) (by decide) hk1 hFc hP1 hD1
                have hP : va_P (dC, dI) vwCl [(h0, .inr (13, mX13 q0 (upd (upd v0 23 (u115_ 0)) 24 x2))), ((q0 7), zi k6 120 f6), ((q0 11), zi k10 120 f10), ((q0 5), zi k4 122880 f4), ((q0 12), zi k11 120 f11), ((q0 22), zi k16 40000 (a115_ 0)), ((q0 2), zi k2 4800 f2), ((q0 3), zi k3 400 f3)] H1 := hP.sub [6, 0, 1, 2, 3, 7, 4, 5] rfl
                have hD : va_D A [(h0, .inr (13, mX13 q0 (upd (upd v0 23 (u115_ 0)) 24 x2))), ((q0 7), zi k6 120 f6), ((q0 11), zi k10 120 f10), ((q0 5), zi k4 122880 f4), ((q0 12), zi k11 120 f11), ((q0 22), zi k16 40000 (a115_ 0)), ((q0 2), zi k2 4800 f2), ((q0 3), zi k3 400 f3)] := hD.sub [6, 0, 1, 2, 3, 7, 4, 5] (by decide) rfl
                generalize H1 = H at hP hS ⊢
                clear hz1
                refine lv_iload hx hb dX13_layOut_118 (lv_at hl 7 rfl) ?_
                refine lv_istore (lv' := [(6, .int (u78_ 1)), (0, .ref h0), (1, .int x1), (2, .int x2), (3, .int (u15_ 1)), (4, .int (u15_ 1)), (5, .int r38_), (7, .int (u78_ 1))]) hx hb dX13_layOut_120 hl (by decide) rfl (fun ls hl => ?_)
                obtain ⟨z122, e_z122⟩ : ∃ z : Int32, z = (u78_ 1) + Int32.ofInt 1 := ⟨_, rfl⟩
                have b_ := zadd (x := (u78_ 1)) (y := Int32.ofInt 1) rfl (show (Int32.ofInt 1).toInt = 1 from by decide) e_z122 (by omega) (by omega)
                refine lv_iinc (v := z122) (lv' := [(7, .int z122), (6, .int (u78_ 1)), (0, .ref h0), (1, .int x1), (2, .int x2), (3, .int (u15_ 1)), (4, .int (u15_ 1)), (5, .int r38_)]) hx hb dX13_layOut_122 hl (k := 7) rfl e_z122.symm (by decide) rfl (fun ls hl => ?_)
                have hpl : (u115_ 0).toInt = (u69_ 0).toInt + (zp f4 (u15_ 1).toInt x1.toInt (z122.toInt).toNat).2.1 ∧ (u78_ 1).toInt = (zp f4 (u15_ 1).toInt x1.toInt (z122.toInt).toNat).2.2 := zpl_y hI78_0 (by omega) (hat.trans (by omega)) (by omega) (by omega) (by omega)
                refine lv_goto (tgt := 78) hx hb dX13_layOut_125 (by decide) ?_
                have hc : va_P (dC, dI) vwCl [(h0, .inr (13, mX13 q0 (upd (upd v0 23 (u115_ 0)) 24 x2))), ((q0 7), zi k6 120 f6), ((q0 11), zi k10 120 f10), ((q0 5), zi k4 122880 f4), ((q0 12), zi k11 120 f11), ((q0 22), zi k16 40000 (a115_ 0)), ((q0 2), zi k2 4800 f2), ((q0 3), zi k3 400 f3)] H ∧ va_D A [(h0, .inr (13, mX13 q0 (upd (upd v0 23 (u115_ 0)) 24 x2))), ((q0 7), zi k6 120 f6), ((q0 11), zi k10 120 f10), ((q0 5), zi k4 122880 f4), ((q0 12), zi k11 120 f11), ((q0 22), zi k16 40000 (a115_ 0)), ((q0 2), zi k2 4800 f2), ((q0 3), zi k3 400 f3)] ∧ va_S A s.heap H locs ∧ lv_has ls 8 [(0, .ref h0), (1, .int x1), (2, .int x2), (3, .int (u15_ 1)), (4, .int (u15_ 1)), (5, .int r38_), (6, .int (u78_ 1)), (7, .int z122)] ∧ ((-1) ≤ (u78_ 1).toInt ∧ (u78_ 1).toInt ≤ 1023) ∧ (0 ≤ z122.toInt ∧ z122.toInt ≤ 1024) ∧ (1 ≤ (u115_ 0).toInt ∧ (u115_ 0).toInt ≤ 2600021) ∧ ((u115_ 0).toInt = (u69_ 0).toInt + (zp f4 (u15_ 1).toInt x1.toInt (z122.toInt).toNat).2.1 ∧ (u78_ 1).toInt = (zp f4 (u15_ 1).toInt x1.toInt (z122.toInt).toNat).2.2) ∧ (-1 ≤ (u78_ 1).toInt ∧ (u78_ 1).toInt < z122.toInt) ∧ (z122.toInt ≤ 1024) ∧ (0 ≤ (u115_ 0).toInt) ∧ (x2.toInt = x2.toInt) := ⟨hP, hD, hS, lv_sub hl [2, 3, 4, 5, 6, 7, 1, 0] rfl, (by first | with_reducible assumption | exact ⟨by omega, by omega⟩), (by first | with_reducible assumption | exact ⟨by omega, by omega⟩), (by first | with_reducible assumption | exact ⟨by omega, by omega⟩), by first | exact hpl | exact zpl_0 (by omega) rfl (by omega), by omega, by omega, by omega, by omega⟩
                exact hJ78 H locs ls (fun i => ([(u78_ 1), z122, (u115_ 0)] : List (Int32)).getD i 0) (fun _ => 0) (fun i => ([(a115_ 0)] : List (Nat → Int32)).getD i (fun _ => 0)) (fun _ => (fun _ => 0)) hc (show (1024 - z122.toInt).toNat < (1024 - (u78_ 1).toInt).toNat from by omega)
              · skip
                have b_ := zF_eq rfl rfl c_
                refine lv_goto (tgt := 122) hx hb dX13_layOut_106 (by decide) ?_
                obtain ⟨z122, e_z122⟩ : ∃ z : Int32, z = (u78_ 1) + Int32.ofInt 1 := ⟨_, rfl⟩
                have b_ := zadd (x := (u78_ 1)) (y := Int32.ofInt 1) rfl (show (Int32.ofInt 1).toInt = 1 from by decide) e_z122 (by omega) (by omega)
                refine lv_iinc (v := z122) (lv' := [(7, .int z122), (0, .ref h0), (1, .int x1), (2, .int x2), (3, .int (u15_ 1)), (4, .int (u15_ 1)), (5, .int r38_), (6, .int (u78_ 0))]) hx hb dX13_layOut_122 hl (k := 7) rfl e_z122.symm (by decide) rfl (fun ls hl => ?_)
                have hpl : (u78_ 2).toInt = (u69_ 0).toInt + (zp f4 (u15_ 1).toInt x1.toInt (z122.toInt).toNat).2.1 ∧ (u78_ 0).toInt = (zp f4 (u15_ 1).toInt x1.toInt (z122.toInt).toNat).2.2 := zpl_n hI78_0 (by omega) (by rw [hat]; omega) (by omega) rfl rfl
                refine lv_goto (tgt := 78) hx hb dX13_layOut_125 (by decide) ?_
                have hc : va_P (dC, dI) vwCl [(h0, .inr (13, mX13 q0 (upd (upd v0 23 (u78_ 2)) 24 x2))), ((q0 7), zi k6 120 f6), ((q0 11), zi k10 120 f10), ((q0 5), zi k4 122880 f4), ((q0 12), zi k11 120 f11), ((q0 22), zi k16 40000 (a78_ 0)), ((q0 2), zi k2 4800 f2), ((q0 3), zi k3 400 f3)] H ∧ va_D A [(h0, .inr (13, mX13 q0 (upd (upd v0 23 (u78_ 2)) 24 x2))), ((q0 7), zi k6 120 f6), ((q0 11), zi k10 120 f10), ((q0 5), zi k4 122880 f4), ((q0 12), zi k11 120 f11), ((q0 22), zi k16 40000 (a78_ 0)), ((q0 2), zi k2 4800 f2), ((q0 3), zi k3 400 f3)] ∧ va_S A s.heap H locs ∧ lv_has ls 8 [(0, .ref h0), (1, .int x1), (2, .int x2), (3, .int (u15_ 1)), (4, .int (u15_ 1)), (5, .int r38_), (6, .int (u78_ 0)), (7, .int z122)] ∧ ((-1) ≤ (u78_ 0).toInt ∧ (u78_ 0).toInt ≤ 1023) ∧ (0 ≤ z122.toInt ∧ z122.toInt ≤ 1024) ∧ (1 ≤ (u78_ 2).toInt ∧ (u78_ 2).toInt ≤ 2600021) ∧ ((u78_ 2).toInt = (u69_ 0).toInt + (zp f4 (u15_ 1).toInt x1.toInt (z122.toInt).toNat).2.1 ∧ (u78_ 0).toInt = (zp f4 (u15_ 1).toInt x1.toInt (z122.toInt).toNat).2.2) ∧ (-1 ≤ (u78_ 0).toInt ∧ (u78_ 0).toInt < z122.toInt) ∧ (z122.toInt ≤ 1024) ∧ (0 ≤ (u78_ 2).toInt) ∧ (x2.toInt = x2.toInt) := ⟨hP, hD, hS, lv_sub hl [1, 2, 3, 4, 5, 6, 7, 0] rfl, (by first | with_reducible assumption | exact ⟨by omega, by omega⟩), (by first | with_reducible assumption | exact ⟨by omega, by omega⟩), (by first | with_reducible assumption | exact ⟨by omega, by omega⟩), by first | exact hpl | exact zpl_0 (by omega) rfl (by omega), by omega, by omega, by omega, by omega⟩
                exact hJ78 H locs ls (fun i => ([(u78_ 0), z122, (u78_ 2)] : List (Int32)).getD i 0) (fun _ => 0) (fun i => ([(a78_ 0)] : List (Nat → Int32)).getD i (fun _ => 0)) (fun _ => (fun _ => 0)) hc (show (1024 - z122.toInt).toNat < (1024 - (u78_ 1).toInt).toNat from by omega)
          · skip
            have hc : va_P (dC, dI) vwCl [(h0, .inr (13, mX13 q0 (upd (upd v0 23 (u69_ 0)) 24 x2))), ((q0 7), zi k6 120 f6), ((q0 11), zi k10 120 f10), ((q0 5), zi k4 122880 f4), ((q0 12), zi k11 120 f11), ((q0 22), zi k16 40000 (a69_ 0)), ((q0 2), zi k2 4800 f2), ((q0 3), zi k3 400 f3)] H ∧ va_D A [(h0, .inr (13, mX13 q0 (upd (upd v0 23 (u69_ 0)) 24 x2))), ((q0 7), zi k6 120 f6), ((q0 11), zi k10 120 f10), ((q0 5), zi k4 122880 f4), ((q0 12), zi k11 120 f11), ((q0 22), zi k16 40000 (a69_ 0)), ((q0 2), zi k2 4800 f2), ((q0 3), zi k3 400 f3)] ∧ va_S A s.heap H locs ∧ lv_has ls 8 [(0, .ref h0), (1, .int x1), (2, .int x2), (3, .int (u15_ 1)), (4, .int (u15_ 1)), (5, .int r38_), (6, .int (-1)), (7, .int 0)] ∧ ((-1) ≤ ((-1) : Int32).toInt ∧ ((-1) : Int32).toInt ≤ 1023) ∧ (0 ≤ (0 : Int32).toInt ∧ (0 : Int32).toInt ≤ 1024) ∧ (1 ≤ (u69_ 0).toInt ∧ (u69_ 0).toInt ≤ 2600021) ∧ ((u69_ 0).toInt = (u69_ 0).toInt + (zp f4 (u15_ 1).toInt x1.toInt ((0 : Int32).toInt).toNat).2.1 ∧ ((-1) : Int32).toInt = (zp f4 (u15_ 1).toInt x1.toInt ((0 : Int32).toInt).toNat).2.2) ∧ (-1 ≤ ((-1) : Int32).toInt ∧ ((-1) : Int32).toInt < (0 : Int32).toInt) ∧ ((0 : Int32).toInt ≤ 1024) ∧ (0 ≤ (u69_ 0).toInt) ∧ (x2.toInt = x2.toInt) := ⟨hP, hD, hS, lv_sub hl [4, 5, 6, 2, 7, 3, 1, 0] rfl, (by first | with_reducible assumption | exact ⟨by omega, by omega⟩), (by first | with_reducible assumption | exact ⟨by omega, by omega⟩), (by first | with_reducible assumption | exact ⟨by omega, by omega⟩), by first | exact hpl | exact zpl_0 (by omega) rfl (by omega), by omega, by omega, by omega, by omega⟩
            exact hJ78 H locs ls (fun i => ([(-1), 0, (u69_ 0)] : List (Int32)).getD i 0) (fun _ => 0) (fun i => ([(a69_ 0)] : List (Nat → Int32)).getD i (fun _ => 0)) (fun _ => (fun _ => 0)) hc
        · skip
          have b_ := zF_ne rfl zk_0 c_
          refine lv_goto (tgt := 128) hx hb dX13_layOut_52 (by decide) ?_
          obtain ⟨z128, e_z128⟩ : ∃ z : Int32, z = (u15_ 1) + Int32.ofInt 1 := ⟨_, rfl⟩
          have b_ := zadd (x := (u15_ 1)) (y := Int32.ofInt 1) rfl (show (Int32.ofInt 1).toInt = 1 from by decide) e_z128 (by omega) (by omega)
          refine lv_iinc (v := z128) (lv' := [(4, .int z128), (5, .int r38_), (0, .ref h0), (1, .int x1), (2, .int x2), (3, .int (u15_ 0))]) hx hb dX13_layOut_128 hl (k := 5) rfl e_z128.symm (by decide) rfl (fun ls hl => ?_)
          have e9 : (z128.toInt).toNat = ((u15_ 1).toInt).toNat + 1 := by omega
          have hsl : zSl (u15_ 2).toInt (u15_ 0).toInt (zB f4 f6 x1.toInt  (z128.toInt).toNat).1 (zB f4 f6 x1.toInt  (z128.toInt).toNat).2 := by rw [e9]; exact zSl_d hI15_0 (by omega)
          have hly : zLy f2 f3 (v0 4).toInt f4 f6 f10 f11 (v0 13).toInt x1.toInt z128.toInt (u15_ 2).toInt (u15_ 0).toInt := zLy_z hI15_5 (by omega) (by omega) (by omega) (by rw [← e_z30]; omega) hX38_1 (by omega) (by omega) rfl rfl
          refine lv_goto (tgt := 15) hx hb dX13_layOut_131 (by decide) ?_
          have hc : va_P (dC, dI) vwCl [(h0, .inr (13, mX13 q0 (upd (upd v0 23 (u15_ 2)) 24 x2))), ((q0 7), zi k6 120 f6), ((q0 11), zi k10 120 f10), ((q0 5), zi k4 122880 f4), ((q0 12), zi k11 120 f11), ((q0 22), zi k16 40000 (a15_ 0)), ((q0 2), zi k2 4800 f2), ((q0 3), zi k3 400 f3)] H ∧ va_D A [(h0, .inr (13, mX13 q0 (upd (upd v0 23 (u15_ 2)) 24 x2))), ((q0 7), zi k6 120 f6), ((q0 11), zi k10 120 f10), ((q0 5), zi k4 122880 f4), ((q0 12), zi k11 120 f11), ((q0 22), zi k16 40000 (a15_ 0)), ((q0 2), zi k2 4800 f2), ((q0 3), zi k3 400 f3)] ∧ va_S A s.heap H locs ∧ lv_has ls 8 [(0, .ref h0), (1, .int x1), (2, .int x2), (3, .int (u15_ 0)), (4, .int z128)] ∧ ((-1) ≤ (u15_ 0).toInt ∧ (u15_ 0).toInt ≤ 119) ∧ (0 ≤ z128.toInt ∧ z128.toInt ≤ 120) ∧ (0 ≤ (u15_ 2).toInt ∧ (u15_ 2).toInt ≤ 2600021) ∧ (zSl (u15_ 2).toInt (u15_ 0).toInt (zB f4 f6 x1.toInt  (z128.toInt).toNat).1 (zB f4 f6 x1.toInt  (z128.toInt).toNat).2) ∧ (z128.toInt ≤ (v0 13).toInt) ∧ (x2.toInt = x2.toInt) ∧ (0 ≤ (u15_ 2).toInt) ∧ (-1 ≤ (u15_ 0).toInt ∧ (u15_ 0).toInt < z128.toInt) ∧ (zLy f2 f3 (v0 4).toInt f4 f6 f10 f11 (v0 13).toInt x1.toInt z128.toInt (u15_ 2).toInt (u15_ 0).toInt) := ⟨hP, hD, hS, lv_sub hl [2, 3, 4, 5, 0] rfl, (by first | with_reducible assumption | exact ⟨by omega, by omega⟩), (by first | with_reducible assumption | exact ⟨by omega, by omega⟩), (by first | with_reducible assumption | exact ⟨by omega, by omega⟩), by first | exact hsl | (rw [zk_0, zk_m1]; exact ⟨Int.le_refl _, Int.le_refl _, Or.inl rfl⟩), by omega, by omega, by omega, by omega, by first | exact hly | exact zLy_0 (by decide) (by decide) (by decide)⟩
          exact hJ15 H locs ls (fun i => ([(u15_ 0), z128, (u15_ 2)] : List (Int32)).getD i 0) (fun _ => 0) (fun i => ([(a15_ 0)] : List (Nat → Int32)).getD i (fun _ => 0)) (fun _ => (fun _ => 0)) hc (show (120 - z128.toInt).toNat < (120 - (u15_ 1).toInt).toNat from by omega)
  · skip
    have hc : va_P (dC, dI) vwCl [(h0, .inr (13, mX13 q0 (upd (upd v0 23 0) 24 x2))), ((q0 7), zi k6 120 f6), ((q0 11), zi k10 120 f10), ((q0 5), zi k4 122880 f4), ((q0 12), zi k11 120 f11), ((q0 22), zi k16 40000 f16), ((q0 2), zi k2 4800 f2), ((q0 3), zi k3 400 f3)] H ∧ va_D A [(h0, .inr (13, mX13 q0 (upd (upd v0 23 0) 24 x2))), ((q0 7), zi k6 120 f6), ((q0 11), zi k10 120 f10), ((q0 5), zi k4 122880 f4), ((q0 12), zi k11 120 f11), ((q0 22), zi k16 40000 f16), ((q0 2), zi k2 4800 f2), ((q0 3), zi k3 400 f3)] ∧ va_S A s.heap H locs ∧ lv_has ls 8 [(0, .ref h0), (1, .int x1), (2, .int x2), (3, .int (-1)), (4, .int 0)] ∧ ((-1) ≤ ((-1) : Int32).toInt ∧ ((-1) : Int32).toInt ≤ 119) ∧ (0 ≤ (0 : Int32).toInt ∧ (0 : Int32).toInt ≤ 120) ∧ (0 ≤ (0 : Int32).toInt ∧ (0 : Int32).toInt ≤ 2600021) ∧ (zSl (0 : Int32).toInt ((-1) : Int32).toInt (zB f4 f6 x1.toInt  ((0 : Int32).toInt).toNat).1 (zB f4 f6 x1.toInt  ((0 : Int32).toInt).toNat).2) ∧ ((0 : Int32).toInt ≤ (v0 13).toInt) ∧ (x2.toInt = x2.toInt) ∧ (0 ≤ (0 : Int32).toInt) ∧ (-1 ≤ ((-1) : Int32).toInt ∧ ((-1) : Int32).toInt < (0 : Int32).toInt) ∧ (zLy f2 f3 (v0 4).toInt f4 f6 f10 f11 (v0 13).toInt x1.toInt (0 : Int32).toInt (0 : Int32).toInt ((-1) : Int32).toInt) := ⟨hP, hD, hS, lv_sub hl [2, 3, 4, 1, 0] rfl, (by first | with_reducible assumption | exact ⟨by omega, by omega⟩), (by first | with_reducible assumption | exact ⟨by omega, by omega⟩), (by first | with_reducible assumption | exact ⟨by omega, by omega⟩), by first | exact hsl | (rw [zk_0, zk_m1]; exact ⟨Int.le_refl _, Int.le_refl _, Or.inl rfl⟩), by omega, by omega, by omega, by omega, by first | exact hly | exact zLy_0 (by decide) (by decide) (by decide)⟩
    exact hJ15 H locs ls (fun i => ([(-1), 0, 0] : List (Int32)).getD i 0) (fun _ => 0) (fun i => ([f16] : List (Nat → Int32)).getD i (fun _ => 0)) (fun _ => (fun _ => 0)) hc
set_option maxHeartbeats 8000000 in
set_option maxRecDepth 100000 in
theorem sX13_refuse_0 (l : Launch) (dC : Nat → ClassId) (dI : Nat → Nat → Nat) (adK adV : Nat → Nat) (h0 : Nat) (q0 : Nat → Nat) (sz : Nat) (v0 : Nat → Int32) (hv0 : zR rg_Model v0) : Met l yX13_refuse (zw yX13_refuse cX13_refuse 1 (some .int)) { frames := 0, cells := 0, slots := 0, locals := 0 } (zPc dC dI adK adV [.ref h0] sz [(h0, .inr (13, mX13 q0 v0))] []) (va_Qi (fun (r : Int32) (u : Nat → Int32) => (0 ≤ r.toInt ∧ r.toInt ≤ 0) ∧ (1 ≤ (u 0).toInt ∧ (u 0).toInt ≤ 1)) (fun (u : Nat → Int32) (t : State) => ∃ (ww : Nat → Int64) (aa : Nat → Nat → Int32) (bb : Nat → Nat → Int64), va_P (dC, dI) vwCl [(h0, .inr (13, mX13 q0 (upd v0 21 (u 0))))] t.heap ∧ va_K (dC, dI) vwCl [] t ∧ va_D (va_A [(h0, .inr (13, mX13 q0 v0))] sz) [(h0, .inr (13, mX13 q0 (upd v0 21 (u 0))))]) (va_A [(h0, .inr (13, mX13 q0 v0))] sz)) 0 0 (va_A [(h0, .inr (13, mX13 q0 v0))] sz) := by
  refine Met.ofW (cc := cX13_refuse) (maxL := 1) (ret := (some .int)) (by decide) rfl ?_
  intro p e s m args below meth c s₁ B hml hv
  obtain ⟨rfl, hsz, hP, hK, hD0, hE, hZ⟩ := hv
  have hx := B.exec
  have hb := B.bytes
  have hr := B.returns
  have hG : ∀ w ∈ zG, w.before _ s = true := fun w h => atoms_spec (ws := (zw yX13_refuse cX13_refuse 1 (some .int))) B.pre w (List.mem_cons_of_mem _ h)
  have hown : s.vm.findClass RX13 = some m.cls := findClass_of_methodNamed B.named
  have hlocks := B.notSynchronized

  subst hsz
  have hD := hD0.self (sz := s.heap.size)
  generalize hAe : va_A [(h0, .inr (13, mX13 q0 v0))] s.heap.size = A at hD hZ ⊢
  have hA : ∀ q : Nat, s.heap.size ≤ q → A q := fun q h => by rw [← hAe]; exact Or.inr h
  have hS : va_S A s.heap s.heap [] := va_S.rf
  have hl := lv_entry ([.ref h0]) (n := 1) (Nat.le_of_ble_eq_true rfl)
  rw [lg_entry_eq]
  generalize (lg_sl ([.ref h0]) ++ List.replicate (1 - (lg_sl ([.ref h0])).length) Slot.unset).toArray = ls at hl ⊢
  have hl : lv_has ls 1 [(0, .ref h0)] := hl
  have b_ := zk_0
  have b_ := zk_1
  refine lv_aload_n hx hb dX13_refuse_0 rfl (lv_at hl 0 rfl) ?_
  refine lv_iconst (v := 1) hx hb dX13_refuse_1 (by decide) ?_
  refine va_put (D := (dC, dI)) (ci := 13) (v := .int 1) (ty := .int) (C := RX13) (T := TX13) (N := 75) hx hb hG zuX13 tyX13 tyX13_ok nmX13 hown hK hP hD hS 0 rfl rfl 21 (by decide) (hG _ zv1625) (fun _ h9 => h9) rfl (by decide +kernel) rfl rfl (Nat.le_of_ble_eq_true rfl) dX13_refuse_2 (fun H locs hP hD hS => ?_)
  have hP : va_P (dC, dI) vwCl [(h0, .inr (13, mX13 q0 (upd v0 21 1)))] H := hP
  have hD : va_D A [(h0, .inr (13, mX13 q0 (upd v0 21 1)))] := hD
  refine lv_iconst (v := 0) hx hb dX13_refuse_5 (by decide) ?_
  refine W.widen (k := 0) (n := 0) (by decide) (by decide) ?_
  have hpost : (0 ≤ (0 : Int32).toInt ∧ (0 : Int32).toInt ≤ 0) ∧ (1 ≤ (1 : Int32).toInt ∧ (1 : Int32).toInt ≤ 1) := ⟨(by first | with_reducible assumption | exact ⟨by omega, by omega⟩), (by first | with_reducible assumption | exact ⟨by omega, by omega⟩)⟩
  have hP9 : va_P (dC, dI) vwCl [(h0, .inr (13, mX13 q0 (upd v0 21 1)))] H := hP
  have hD9 : va_D A [(h0, .inr (13, mX13 q0 (upd v0 21 1)))] := hD
  exact W.iret (v := 0) hx hb hr (fun t ht hW => ⟨⟨0, (fun i => ([1] : List (Int32)).getD i 0), rfl, hpost, (fun _ => 0), (fun _ => (fun _ => 0)), (fun _ => (fun _ => 0)), by rw [ht]; exact hP9, va_K.moved hW.alike hK, hD9⟩, hS.F ht⟩) hS.2.2 dX13_refuse_6
set_option maxHeartbeats 8000000 in
set_option maxRecDepth 100000 in
theorem sX13_bit_0 (l : Launch) (dC : Nat → ClassId) (dI : Nat → Nat → Nat) (adK adV : Nat → Nat) (h0 : Nat) (q0 : Nat → Nat) (k14 : ClassId) (k15 : ClassId) (k3 : ClassId) (k2 : ClassId) (k6 : ClassId) (k10 : ClassId) (k4 : ClassId) (k11 : ClassId) (k16 : ClassId) (sz : Nat) (v0 : Nat → Int32) (f14 : Nat → Int32) (f15 : Nat → Int32) (f3 : Nat → Int32) (f2 : Nat → Int32) (f6 : Nat → Int32) (f10 : Nat → Int32) (f4 : Nat → Int32) (f11 : Nat → Int32) (f16 : Nat → Int32) (x1 : Int32) (hv0 : zR rg_Model v0) (hf3 : zA 0 12 f3) (hf10 : zA 0 512 f10) (hf4 : zA 0 400 f4) (hf11 : zA 0 512 f11) (hp0_ : zJ f4 f6 (v0 4).toInt (v0 13).toInt) : Met l yX13_bit (zw yX13_bit cX13_bit 3 (some .int)) { frames := 3, cells := 0, slots := 0, locals := 72 } (zPc dC dI adK adV [.ref h0, .int x1] sz [(h0, .inr (13, mX13 q0 v0)), ((q0 17), zi k14 12 f14), ((q0 19), zi k15 12 f15), ((q0 3), zi k3 400 f3), ((q0 2), zi k2 4800 f2), ((q0 7), zi k6 120 f6), ((q0 11), zi k10 120 f10), ((q0 5), zi k4 122880 f4), ((q0 12), zi k11 120 f11), ((q0 22), zi k16 40000 f16)] [(k14, .byte), (k15, .byte), (k3, .int), (k2, .byte), (k6, .boolean), (k10, .int), (k4, .short), (k11, .int), (k16, .byte)]) (va_Qi (fun (r : Int32) (u : Nat → Int32) => (0 ≤ (u 0).toInt ∧ (u 0).toInt ≤ 12) ∧ (0 ≤ (u 1).toInt ∧ (u 1).toInt ≤ 1) ∧ (0 ≤ (u 3).toInt ∧ (u 3).toInt ≤ 1)) (fun (u : Nat → Int32) (t : State) => ∃ (ww : Nat → Int64) (aa : Nat → Nat → Int32) (bb : Nat → Nat → Int64), va_P (dC, dI) vwCl [(h0, .inr (13, mX13 q0 (upd (upd (upd (upd v0 20 (u 0)) 21 (u 1)) 23 (u 2)) 24 (u 3)))), ((q0 17), zi k14 12 f14), ((q0 19), zi k15 12 (aa 0)), ((q0 3), zi k3 400 f3), ((q0 2), zi k2 4800 f2), ((q0 7), zi k6 120 f6), ((q0 11), zi k10 120 f10), ((q0 5), zi k4 122880 f4), ((q0 12), zi k11 120 f11), ((q0 22), zi k16 40000 (aa 1))] t.heap ∧ va_K (dC, dI) vwCl [(k14, .byte), (k15, .byte), (k3, .int), (k2, .byte), (k6, .boolean), (k10, .int), (k4, .short), (k11, .int), (k16, .byte)] t ∧ va_D (va_A [(h0, .inr (13, mX13 q0 v0)), ((q0 17), zi k14 12 f14), ((q0 19), zi k15 12 f15), ((q0 3), zi k3 400 f3), ((q0 2), zi k2 4800 f2), ((q0 7), zi k6 120 f6), ((q0 11), zi k10 120 f10), ((q0 5), zi k4 122880 f4), ((q0 12), zi k11 120 f11), ((q0 22), zi k16 40000 f16)] sz) [(h0, .inr (13, mX13 q0 (upd (upd (upd (upd v0 20 (u 0)) 21 (u 1)) 23 (u 2)) 24 (u 3)))), ((q0 17), zi k14 12 f14), ((q0 19), zi k15 12 (aa 0)), ((q0 3), zi k3 400 f3), ((q0 2), zi k2 4800 f2), ((q0 7), zi k6 120 f6), ((q0 11), zi k10 120 f10), ((q0 5), zi k4 122880 f4), ((q0 12), zi k11 120 f11), ((q0 22), zi k16 40000 (aa 1))]) (va_A [(h0, .inr (13, mX13 q0 v0)), ((q0 17), zi k14 12 f14), ((q0 19), zi k15 12 f15), ((q0 3), zi k3 400 f3), ((q0 2), zi k2 4800 f2), ((q0 7), zi k6 120 f6), ((q0 11), zi k10 120 f10), ((q0 5), zi k4 122880 f4), ((q0 12), zi k11 120 f11), ((q0 22), zi k16 40000 f16)] sz)) 0 0 (va_A [(h0, .inr (13, mX13 q0 v0)), ((q0 17), zi k14 12 f14), ((q0 19), zi k15 12 f15), ((q0 3), zi k3 400 f3), ((q0 2), zi k2 4800 f2), ((q0 7), zi k6 120 f6), ((q0 11), zi k10 120 f10), ((q0 5), zi k4 122880 f4), ((q0 12), zi k11 120 f11), ((q0 22), zi k16 40000 f16)] sz) := by
  refine Met.ofW (cc := cX13_bit) (maxL := 3) (ret := (some .int)) (by decide) rfl ?_
  intro p e s m args below meth c s₁ B hml hv
  obtain ⟨rfl, hsz, hP, hK, hD0, hE, hZ⟩ := hv
  have hx := B.exec
  have hb := B.bytes
  have hr := B.returns
  have hG : ∀ w ∈ zG, w.before _ s = true := fun w h => atoms_spec (ws := (zw yX13_bit cX13_bit 3 (some .int))) B.pre w (List.mem_cons_of_mem _ h)
  have hown : s.vm.findClass RX13 = some m.cls := findClass_of_methodNamed B.named
  have hlocks := B.notSynchronized

  subst hsz
  have hD := hD0.self (sz := s.heap.size)
  generalize hAe : va_A [(h0, .inr (13, mX13 q0 v0)), ((q0 17), zi k14 12 f14), ((q0 19), zi k15 12 f15), ((q0 3), zi k3 400 f3), ((q0 2), zi k2 4800 f2), ((q0 7), zi k6 120 f6), ((q0 11), zi k10 120 f10), ((q0 5), zi k4 122880 f4), ((q0 12), zi k11 120 f11), ((q0 22), zi k16 40000 f16)] s.heap.size = A at hD hZ ⊢
  have hA : ∀ q : Nat, s.heap.size ≤ q → A q := fun q h => by rw [← hAe]; exact Or.inr h
  have hS : va_S A s.heap s.heap [] := va_S.rf
  have hl := lv_entry ([.ref h0, .int x1]) (n := 3) (Nat.le_of_ble_eq_true rfl)
  rw [lg_entry_eq]
  generalize (lg_sl ([.ref h0, .int x1]) ++ List.replicate (3 - (lg_sl ([.ref h0, .int x1])).length) Slot.unset).toArray = ls at hl ⊢
  have hl : lv_has ls 3 [(0, .ref h0), (1, .int x1)] := hl
  have b_ := zk_0
  have b_ := zk_1
  have b_ : 0 ≤ (v0 4).toInt ∧ (v0 4).toInt ≤ 400 := hv0 4
  have b_ : 0 ≤ (v0 13).toInt ∧ (v0 13).toInt ≤ 120 := hv0 13
  refine lv_aload_n hx hb dX13_bit_0 rfl (lv_at hl 0 rfl) ?_
  refine lv_iconst (v := 0) hx hb dX13_bit_1 (by decide) ?_
  refine va_put (D := (dC, dI)) (ci := 13) (v := .int 0) (ty := .int) (C := RX13) (T := TX13) (N := 75) hx hb hG zuX13 tyX13 tyX13_ok nmX13 hown hK hP hD hS 0 rfl rfl 21 (by decide) (hG _ zv1625) (fun _ h9 => h9) rfl (by decide +kernel) rfl rfl (Nat.le_of_ble_eq_true rfl) dX13_bit_2 (fun H locs hP hD hS => ?_)
  have hP : va_P (dC, dI) vwCl [(h0, .inr (13, mX13 q0 (upd v0 21 0))), ((q0 17), zi k14 12 f14), ((q0 19), zi k15 12 f15), ((q0 3), zi k3 400 f3), ((q0 2), zi k2 4800 f2), ((q0 7), zi k6 120 f6), ((q0 11), zi k10 120 f10), ((q0 5), zi k4 122880 f4), ((q0 12), zi k11 120 f11), ((q0 22), zi k16 40000 f16)] H := hP
  have hD : va_D A [(h0, .inr (13, mX13 q0 (upd v0 21 0))), ((q0 17), zi k14 12 f14), ((q0 19), zi k15 12 f15), ((q0 3), zi k3 400 f3), ((q0 2), zi k2 4800 f2), ((q0 7), zi k6 120 f6), ((q0 11), zi k10 120 f10), ((q0 5), zi k4 122880 f4), ((q0 12), zi k11 120 f11), ((q0 22), zi k16 40000 f16)] := hD
  refine lv_aload_n hx hb dX13_bit_5 rfl (lv_at hl 0 rfl) ?_
  have hPc := hP.sub (ws' := [(h0, .inr (13, mX13 q0 (upd v0 21 0))), ((q0 17), zi k14 12 f14), ((q0 19), zi k15 12 f15), ((q0 3), zi k3 400 f3), ((q0 2), zi k2 4800 f2)]) [0, 1, 2, 3, 4] rfl
  have hDc := hD.sub (ws' := [(h0, .inr (13, mX13 q0 (upd v0 21 0))), ((q0 17), zi k14 12 f14), ((q0 19), zi k15 12 f15), ((q0 3), zi k3 400 f3), ((q0 2), zi k2 4800 f2)]) [0, 1, 2, 3, 4] (by decide) rfl
  have hKc := hK.sub (tys' := [(k14, .byte), (k15, .byte), (k3, .int), (k2, .byte)]) [0, 1, 2, 3] rfl
  have hFc := va_free (wc := [(h0, .inr (13, mX13 q0 (upd v0 21 0))), ((q0 17), zi k14 12 f14), ((q0 19), zi k15 12 f15), ((q0 3), zi k3 400 f3), ((q0 2), zi k2 4800 f2)]) hD hS hA [0, 1, 2, 3, 4] rfl
  refine va_calli (va_runV (As := []) (rest := []) ⟨hx, hb, hml, hown, hG⟩ (sX13_lookedWord_0 l dC dI adK adV h0 q0 k14 k15 k3 k2 H.size (upd v0 21 0) f14 f15 f3 f2 (zR_updF hv0 21 rfl) hf3) (cwV 0 hG (zgV zv1987 zv1989 zv72 zv142 zv1990) rfl rfl rfl (by decide +kernel) ⟨Nat.le_of_ble_eq_true rfl, Nat.le_of_ble_eq_true rfl⟩) ⟨zPc_blind, va_recv hKc hPc (ci := 13) (q0 := 0) rfl rfl, zPc_pre hPc hKc hDc hE hS hFc hZ⟩ rfl rfl hl.1 rfl (lv_room (Nat.le_of_ble_eq_true rfl)) dX13_bit_6 ⟨Nat.le_of_ble_eq_true rfl, Nat.le_of_ble_eq_true rfl⟩) hS (fun q _ h => hFc q h) hFc (fun r6_ u6_ t H1 locs ht hvm hw hB hz1 hk1 hS => ?_)
  replace hw : ((-1) ≤ r6_.toInt ∧ r6_.toInt ≤ 399) ∧ (0 ≤ (u6_ 0).toInt ∧ (u6_ 0).toInt ≤ 12) ∧ (r6_.toInt < (v0 4).toInt) ∧ (zLw f14 (v0 18).toInt f2 f3 (v0 4).toInt r6_.toInt) := hw
  obtain ⟨b_, b_, hX6_0, hX6_1⟩ := hw
  obtain ⟨w6_, a6_, b6_, hP1, hK1, hD1⟩ := hB
  rw [ht] at hP1
  obtain ⟨hP, hD⟩ := va_join (wr := [((q0 7), zi k6 120 f6), ((q0 11), zi k10 120 f10), ((q0 5), zi k4 122880 f4), ((q0 12), zi k11 120 f11), ((q0 22), zi k16 40000 f16)]) (w1 := [(h0, .inr (13, mX13 q0 (upd (upd v0 20 (u6_ 0)) 21 0))), ((q0 17), zi k14 12 f14), ((q0 19), zi k15 12 (a6_ 0)), ((q0 3), zi k3 400 f3), ((q0 2), zi k2 4800 f2)]) hP hD [0, 1, 2, 3, 4] [5, 6, 7, 8, 9] rfl rfl (by decide) (by decide) hk1 hFc hP1 hD1
  have hP : va_P (dC, dI) vwCl [(h0, .inr (13, mX13 q0 (upd (upd v0 20 (u6_ 0)) 21 0))), ((q0 17), zi k14 12 f14), ((q0 19), zi k15 12 (a6_ 0)), ((q0 3), zi k3 400 f3), ((q0 2), zi k2 4800 f2), ((q0 7), zi k6 120 f6), ((q0 11), zi k10 120 f10), ((q0 5), zi k4 122880 f4), ((q0 12), zi k11 120 f11), ((q0 22), zi k16 40000 f16)] H1 := hP.sub [5, 6, 7, 8, 9, 0, 1, 2, 3, 4] rfl
  have hD : va_D A [(h0, .inr (13, mX13 q0 (upd (upd v0 20 (u6_ 0)) 21 0))), ((q0 17), zi k14 12 f14), ((q0 19), zi k15 12 (a6_ 0)), ((q0 3), zi k3 400 f3), ((q0 2), zi k2 4800 f2), ((q0 7), zi k6 120 f6), ((q0 11), zi k10 120 f10), ((q0 5), zi k4 122880 f4), ((q0 12), zi k11 120 f11), ((q0 22), zi k16 40000 f16)] := hD.sub [5, 6, 7, 8, 9, 0, 1, 2, 3, 4] (by decide) rfl
  generalize H1 = H at hP hS ⊢
  clear hz1
  refine lv_istore_n (lv' := [(2, .int r6_), (0, .ref h0), (1, .int x1)]) hx hb dX13_bit_9 rfl hl (by decide) rfl (fun ls hl => ?_)
  refine lv_iload_n hx hb dX13_bit_10 rfl (lv_at hl 0 rfl) ?_
  refine lv_iconst (v := (-1)) hx hb dX13_bit_11 (by decide) ?_
  refine zcutW (fun H locs ls u29_ w29_ a29_ b29_ => va_P (dC, dI) vwCl [(h0, .inr (13, mX13 q0 (upd (upd (upd (upd v0 20 (u6_ 0)) 21 0) 23 (u29_ 0)) 24 (u29_ 1)))), ((q0 17), zi k14 12 f14), ((q0 19), zi k15 12 (a6_ 0)), ((q0 3), zi k3 400 f3), ((q0 2), zi k2 4800 f2), ((q0 7), zi k6 120 f6), ((q0 11), zi k10 120 f10), ((q0 5), zi k4 122880 f4), ((q0 12), zi k11 120 f11), ((q0 22), zi k16 40000 (a29_ 0))] H ∧ va_D A [(h0, .inr (13, mX13 q0 (upd (upd (upd (upd v0 20 (u6_ 0)) 21 0) 23 (u29_ 0)) 24 (u29_ 1)))), ((q0 17), zi k14 12 f14), ((q0 19), zi k15 12 (a6_ 0)), ((q0 3), zi k3 400 f3), ((q0 2), zi k2 4800 f2), ((q0 7), zi k6 120 f6), ((q0 11), zi k10 120 f10), ((q0 5), zi k4 122880 f4), ((q0 12), zi k11 120 f11), ((q0 22), zi k16 40000 (a29_ 0))] ∧ va_S A s.heap H locs ∧ lv_has ls 3 [(0, .ref h0), (1, .int x1), (2, .int r6_)] ∧ (0 ≤ (u29_ 1).toInt ∧ (u29_ 1).toInt ≤ 1) ∧ ((-1) ≤ r6_.toInt ∧ r6_.toInt ≤ 399)) (fun ls u29_ w29_ => F0 m 29 ls []) 0 0 ?_ (fun hJ29 => ?_)
  · skip
    intro H locs ls u29_ w29_ a29_ b29_ hc
    obtain ⟨hP, hD, hS, hl, b_, b_⟩ := hc
    refine lv_aload_n hx hb dX13_bit_29 rfl (lv_at hl 0 rfl) ?_
    have b_ : -2147483648 ≤ (u29_ 0).toInt ∧ (u29_ 0).toInt ≤ 2147483647 := ⟨zlo _, zhi _⟩
    have hPc := hP.sub (ws' := [(h0, .inr (13, mX13 q0 (upd (upd (upd (upd v0 20 (u6_ 0)) 21 0) 23 (u29_ 0)) 24 (u29_ 1))))]) [0] rfl
    have hDc := hD.sub (ws' := [(h0, .inr (13, mX13 q0 (upd (upd (upd (upd v0 20 (u6_ 0)) 21 0) 23 (u29_ 0)) 24 (u29_ 1))))]) [0] (by decide) rfl
    have hKc := hK.sub (tys' := []) [] rfl
    have hFc := va_free (wc := [(h0, .inr (13, mX13 q0 (upd (upd (upd (upd v0 20 (u6_ 0)) 21 0) 23 (u29_ 0)) 24 (u29_ 1))))]) hD hS hA [0] rfl
    refine va_calli (va_runV (As := []) (rest := []) ⟨hx, hb, hml, hown, hG⟩ (sX13_refuse_0 l dC dI adK adV h0 q0 H.size (upd (upd (upd (upd v0 20 (u6_ 0)) 21 0) 23 (u29_ 0)) 24 (u29_ 1)) (zR_up2 (zR_updF (zR_updF (zR_up2 hv0 20 (show (0 : Int) ≤ ((u6_ 0) : Int32).toInt ∧ ((u6_ 0) : Int32).toInt ≤ (12 : Int) from (by first | with_reducible assumption | exact ⟨by omega, by omega⟩))) 21 rfl) 23 rfl) 24 (show (0 : Int) ≤ ((u29_ 1) : Int32).toInt ∧ ((u29_ 1) : Int32).toInt ≤ (1 : Int) from (by first | with_reducible assumption | exact ⟨by omega, by omega⟩)))) (cwV 0 hG (zgV zv1963 zv1965 zv68 zv142 zv1966) rfl rfl rfl (by decide +kernel) ⟨Nat.le_of_ble_eq_true rfl, Nat.le_of_ble_eq_true rfl⟩) ⟨zPc_blind, va_recv hKc hPc (ci := 13) (q0 := 0) rfl rfl, zPc_pre hPc hKc hDc hE hS hFc hZ⟩ rfl rfl hl.1 rfl (lv_room (Nat.le_of_ble_eq_true rfl)) dX13_bit_30 ⟨Nat.le_of_ble_eq_true rfl, Nat.le_of_ble_eq_true rfl⟩) hS (fun q _ h => hFc q h) hFc (fun r30_ u30_ t H1 locs ht hvm hw hB hz1 hk1 hS => ?_)
    replace hw : (0 ≤ r30_.toInt ∧ r30_.toInt ≤ 0) ∧ (1 ≤ (u30_ 0).toInt ∧ (u30_ 0).toInt ≤ 1) := hw
    obtain ⟨b_, b_⟩ := hw
    obtain rfl : r30_ = (0 : Int32) := zeqi.mpr ((show r30_.toInt = 0 from by omega).trans zk_0.symm)
    obtain ⟨w30_, a30_, b30_, hP1, hK1, hD1⟩ := hB
    rw [ht] at hP1
    obtain ⟨hP, hD⟩ := va_join (wr := [((q0 17), zi k14 12 f14), ((q0 19), zi k15 12 (a6_ 0)), ((q0 3), zi k3 400 f3), ((q0 2), zi k2 4800 f2), ((q0 7), zi k6 120 f6), ((q0 11), zi k10 120 f10), ((q0 5), zi k4 122880 f4), ((q0 12), zi k11 120 f11), ((q0 22), zi k16 40000 (a29_ 0))]) (w1 := [(h0, .inr (13, mX13 q0 (upd (upd (upd (upd v0 20 (u6_ 0)) 21 (u30_ 0)) 23 (u29_ 0)) 24 (u29_ 1))))]) hP hD [0] [1, 2, 3, 4, 5, 6, 7, 8, 9] rfl rfl (by decide) (by decide) hk1 hFc hP1 hD1
    have hP : va_P (dC, dI) vwCl [(h0, .inr (13, mX13 q0 (upd (upd (upd (upd v0 20 (u6_ 0)) 21 (u30_ 0)) 23 (u29_ 0)) 24 (u29_ 1)))), ((q0 17), zi k14 12 f14), ((q0 19), zi k15 12 (a6_ 0)), ((q0 3), zi k3 400 f3), ((q0 2), zi k2 4800 f2), ((q0 7), zi k6 120 f6), ((q0 11), zi k10 120 f10), ((q0 5), zi k4 122880 f4), ((q0 12), zi k11 120 f11), ((q0 22), zi k16 40000 (a29_ 0))] H1 := hP.sub [9, 0, 1, 2, 3, 4, 5, 6, 7, 8] rfl
    have hD : va_D A [(h0, .inr (13, mX13 q0 (upd (upd (upd (upd v0 20 (u6_ 0)) 21 (u30_ 0)) 23 (u29_ 0)) 24 (u29_ 1)))), ((q0 17), zi k14 12 f14), ((q0 19), zi k15 12 (a6_ 0)), ((q0 3), zi k3 400 f3), ((q0 2), zi k2 4800 f2), ((q0 7), zi k6 120 f6), ((q0 11), zi k10 120 f10), ((q0 5), zi k4 122880 f4), ((q0 12), zi k11 120 f11), ((q0 22), zi k16 40000 (a29_ 0))] := hD.sub [9, 0, 1, 2, 3, 4, 5, 6, 7, 8] (by decide) rfl
    generalize H1 = H at hP hS ⊢
    clear hz1
    refine W.widen (k := 0) (n := 0) (by decide) (by decide) ?_
    have hpost : (0 ≤ (u6_ 0).toInt ∧ (u6_ 0).toInt ≤ 12) ∧ (0 ≤ (u30_ 0).toInt ∧ (u30_ 0).toInt ≤ 1) ∧ (0 ≤ (u29_ 1).toInt ∧ (u29_ 1).toInt ≤ 1) := ⟨(by first | with_reducible assumption | exact ⟨by omega, by omega⟩), (by first | with_reducible assumption | exact ⟨by omega, by omega⟩), (by first | with_reducible assumption | exact ⟨by omega, by omega⟩)⟩
    have hP9 : va_P (dC, dI) vwCl [(h0, .inr (13, mX13 q0 (upd (upd (upd (upd v0 20 (u6_ 0)) 21 (u30_ 0)) 23 (u29_ 0)) 24 (u29_ 1)))), ((q0 17), zi k14 12 f14), ((q0 19), zi k15 12 (a6_ 0)), ((q0 3), zi k3 400 f3), ((q0 2), zi k2 4800 f2), ((q0 7), zi k6 120 f6), ((q0 11), zi k10 120 f10), ((q0 5), zi k4 122880 f4), ((q0 12), zi k11 120 f11), ((q0 22), zi k16 40000 (a29_ 0))] H := hP
    have hD9 : va_D A [(h0, .inr (13, mX13 q0 (upd (upd (upd (upd v0 20 (u6_ 0)) 21 (u30_ 0)) 23 (u29_ 0)) 24 (u29_ 1)))), ((q0 17), zi k14 12 f14), ((q0 19), zi k15 12 (a6_ 0)), ((q0 3), zi k3 400 f3), ((q0 2), zi k2 4800 f2), ((q0 7), zi k6 120 f6), ((q0 11), zi k10 120 f10), ((q0 5), zi k4 122880 f4), ((q0 12), zi k11 120 f11), ((q0 22), zi k16 40000 (a29_ 0))] := hD
    exact W.iret (v := 0) hx hb hr (fun t ht hW => ⟨⟨0, (fun i => ([(u6_ 0), (u30_ 0), (u29_ 0), (u29_ 1)] : List (Int32)).getD i 0), rfl, hpost, (fun _ => 0), (fun i => ([(a6_ 0), (a29_ 0)] : List (Nat → Int32)).getD i (fun _ => 0)), (fun _ => (fun _ => 0)), by rw [ht]; exact hP9, va_K.moved hW.alike hK, hD9⟩, hS.F ht⟩) hS.2.2 dX13_bit_33
  · skip
    refine lv_icmp_eq (tgt := 29) hx hb dX13_bit_12 (by decide) (fun c_ => ?_) (fun c_ => ?_)
    · skip
      have b_ := zT_eq rfl zk_m1 c_
      have b_ : 0 ≤ (v0 24).toInt ∧ (v0 24).toInt ≤ 1 := hv0 24
      have hc : va_P (dC, dI) vwCl [(h0, .inr (13, mX13 q0 (upd (upd (upd (upd v0 20 (u6_ 0)) 21 0) 23 (v0 23)) 24 (v0 24)))), ((q0 17), zi k14 12 f14), ((q0 19), zi k15 12 (a6_ 0)), ((q0 3), zi k3 400 f3), ((q0 2), zi k2 4800 f2), ((q0 7), zi k6 120 f6), ((q0 11), zi k10 120 f10), ((q0 5), zi k4 122880 f4), ((q0 12), zi k11 120 f11), ((q0 22), zi k16 40000 f16)] H ∧ va_D A [(h0, .inr (13, mX13 q0 (upd (upd (upd (upd v0 20 (u6_ 0)) 21 0) 23 (v0 23)) 24 (v0 24)))), ((q0 17), zi k14 12 f14), ((q0 19), zi k15 12 (a6_ 0)), ((q0 3), zi k3 400 f3), ((q0 2), zi k2 4800 f2), ((q0 7), zi k6 120 f6), ((q0 11), zi k10 120 f10), ((q0 5), zi k4 122880 f4), ((q0 12), zi k11 120 f11), ((q0 22), zi k16 40000 f16)] ∧ va_S A s.heap H locs ∧ lv_has ls 3 [(0, .ref h0), (1, .int x1), (2, .int r6_)] ∧ (0 ≤ (v0 24).toInt ∧ (v0 24).toInt ≤ 1) ∧ ((-1) ≤ r6_.toInt ∧ r6_.toInt ≤ 399) := ⟨hP, hD, hS, lv_sub hl [1, 2, 0] rfl, (by first | with_reducible assumption | exact ⟨by omega, by omega⟩), (by first | with_reducible assumption | exact ⟨by omega, by omega⟩)⟩
      exact hJ29 H locs ls (fun i => ([(v0 23), (v0 24)] : List (Int32)).getD i 0) (fun _ => 0) (fun i => ([f16] : List (Nat → Int32)).getD i (fun _ => 0)) (fun _ => (fun _ => 0)) hc
    · skip
      have b_ := zF_eq rfl zk_m1 c_
      refine lv_iload_n hx hb dX13_bit_15 rfl (lv_at hl 2 rfl) ?_
      have b_ : -2147483648 ≤ x1.toInt ∧ x1.toInt ≤ 2147483647 := ⟨zlo _, zhi _⟩
      refine lv_if_lt (tgt := 29) hx hb dX13_bit_16 (by decide) (fun c_ => ?_) (fun c_ => ?_)
      · skip
        have b_ := zT_lt rfl zk_0 c_
        have b_ : 0 ≤ (v0 24).toInt ∧ (v0 24).toInt ≤ 1 := hv0 24
        have hc : va_P (dC, dI) vwCl [(h0, .inr (13, mX13 q0 (upd (upd (upd (upd v0 20 (u6_ 0)) 21 0) 23 (v0 23)) 24 (v0 24)))), ((q0 17), zi k14 12 f14), ((q0 19), zi k15 12 (a6_ 0)), ((q0 3), zi k3 400 f3), ((q0 2), zi k2 4800 f2), ((q0 7), zi k6 120 f6), ((q0 11), zi k10 120 f10), ((q0 5), zi k4 122880 f4), ((q0 12), zi k11 120 f11), ((q0 22), zi k16 40000 f16)] H ∧ va_D A [(h0, .inr (13, mX13 q0 (upd (upd (upd (upd v0 20 (u6_ 0)) 21 0) 23 (v0 23)) 24 (v0 24)))), ((q0 17), zi k14 12 f14), ((q0 19), zi k15 12 (a6_ 0)), ((q0 3), zi k3 400 f3), ((q0 2), zi k2 4800 f2), ((q0 7), zi k6 120 f6), ((q0 11), zi k10 120 f10), ((q0 5), zi k4 122880 f4), ((q0 12), zi k11 120 f11), ((q0 22), zi k16 40000 f16)] ∧ va_S A s.heap H locs ∧ lv_has ls 3 [(0, .ref h0), (1, .int x1), (2, .int r6_)] ∧ (0 ≤ (v0 24).toInt ∧ (v0 24).toInt ≤ 1) ∧ ((-1) ≤ r6_.toInt ∧ r6_.toInt ≤ 399) := ⟨hP, hD, hS, lv_sub hl [1, 2, 0] rfl, (by first | with_reducible assumption | exact ⟨by omega, by omega⟩), (by first | with_reducible assumption | exact ⟨by omega, by omega⟩)⟩
        exact hJ29 H locs ls (fun i => ([(v0 23), (v0 24)] : List (Int32)).getD i 0) (fun _ => 0) (fun i => ([f16] : List (Nat → Int32)).getD i (fun _ => 0)) (fun _ => (fun _ => 0)) hc
      · skip
        have b_ := zF_lt rfl zk_0 c_
        refine lv_iload_n hx hb dX13_bit_19 rfl (lv_at hl 2 rfl) ?_
        refine lv_aload_n hx hb dX13_bit_20 rfl (lv_at hl 1 rfl) ?_
        refine lv_iload_n hx hb dX13_bit_21 rfl (lv_at hl 0 rfl) ?_
        refine lv_iconst (v := 1) hx hb dX13_bit_22 (by decide) ?_
        have hjw : (zB f4 f6 r6_.toInt ((v0 13).toInt).toNat).1 ≤ 40000 := by have q := hp0_ (r6_.toInt).toNat (by omega); rwa [show (((r6_.toInt).toNat : Nat) : Int) = r6_.toInt from by omega] at q
        have hPc := hP.sub (ws' := [(h0, .inr (13, mX13 q0 (upd (upd v0 20 (u6_ 0)) 21 0))), ((q0 7), zi k6 120 f6), ((q0 11), zi k10 120 f10), ((q0 5), zi k4 122880 f4), ((q0 12), zi k11 120 f11), ((q0 22), zi k16 40000 f16), ((q0 2), zi k2 4800 f2), ((q0 3), zi k3 400 f3)]) [0, 5, 6, 7, 8, 9, 4, 3] rfl
        have hDc := hD.sub (ws' := [(h0, .inr (13, mX13 q0 (upd (upd v0 20 (u6_ 0)) 21 0))), ((q0 7), zi k6 120 f6), ((q0 11), zi k10 120 f10), ((q0 5), zi k4 122880 f4), ((q0 12), zi k11 120 f11), ((q0 22), zi k16 40000 f16), ((q0 2), zi k2 4800 f2), ((q0 3), zi k3 400 f3)]) [0, 5, 6, 7, 8, 9, 4, 3] (by decide) rfl
        have hKc := hK.sub (tys' := [(k6, .boolean), (k10, .int), (k4, .short), (k11, .int), (k16, .byte), (k2, .byte), (k3, .int)]) [4, 5, 6, 7, 8, 3, 2] rfl
        have hFc := va_free (wc := [(h0, .inr (13, mX13 q0 (upd (upd v0 20 (u6_ 0)) 21 0))), ((q0 7), zi k6 120 f6), ((q0 11), zi k10 120 f10), ((q0 5), zi k4 122880 f4), ((q0 12), zi k11 120 f11), ((q0 22), zi k16 40000 f16), ((q0 2), zi k2 4800 f2), ((q0 3), zi k3 400 f3)]) hD hS hA [0, 5, 6, 7, 8, 9, 4, 3] rfl
        refine va_calli (va_runV (As := [.int r6_, .int 1]) (rest := [.int x1]) ⟨hx, hb, hml, hown, hG⟩ (sX13_layOut_0 l dC dI adK adV h0 q0 k6 k10 k4 k11 k16 k2 k3 H.size (upd (upd v0 20 (u6_ 0)) 21 0) f6 f10 f4 f11 f16 f2 f3 r6_ 1 (zR_updF (zR_up2 hv0 20 (show (0 : Int) ≤ ((u6_ 0) : Int32).toInt ∧ ((u6_ 0) : Int32).toInt ≤ (12 : Int) from (by first | with_reducible assumption | exact ⟨by omega, by omega⟩))) 21 rfl) hf10 hf4 hf11 hf3 (show (0 : Int) ≤ (r6_ : Int32).toInt ∧ (r6_ : Int32).toInt ≤ (399 : Int) from (by first | with_reducible assumption | exact ⟨by omega, by omega⟩)) ⟨show (0 : Int) ≤ (1 : Int32).toInt from by decide, show (1 : Int32).toInt ≤ (1 : Int) from by decide⟩ (show (1 : Int32).toInt = 1 → (zB f4 f6 r6_.toInt  ((v0 13).toInt).toNat).1 ≤ 40000 from by omega)) (cwV 2 hG (zgV zv1991 zv1993 zv73 zv142 zv1994) rfl rfl rfl (by decide +kernel) ⟨Nat.le_of_ble_eq_true rfl, Nat.le_of_ble_eq_true rfl⟩) ⟨zPc_blind, va_recv hKc hPc (ci := 13) (q0 := 0) rfl rfl, zPc_pre hPc hKc hDc hE hS hFc hZ⟩ rfl rfl hl.1 rfl (lv_room (Nat.le_of_ble_eq_true rfl)) dX13_bit_23 ⟨Nat.le_of_ble_eq_true rfl, Nat.le_of_ble_eq_true rfl⟩) hS (fun q _ h => hFc q h) hFc (fun r23_ u23_ t H1 locs ht hvm hw hB hz1 hk1 hS => ?_)
        replace hw : (0 ≤ r23_.toInt ∧ r23_.toInt ≤ 2600021) ∧ (0 ≤ (u23_ 0).toInt ∧ (u23_ 0).toInt ≤ 2600021) ∧ (0 ≤ (u23_ 1).toInt ∧ (u23_ 1).toInt ≤ 1) ∧ (r23_.toInt ≤ (zB f4 f6 r6_.toInt  ((v0 13).toInt).toNat).1) ∧ (0 ≤ r23_.toInt) ∧ (zW (∀ (T : Nat → Nat → Int) (V : List Int) (x : Int), zMd f2 f3 (v0 4).toInt f4 f6 (v0 13).toInt T V → zMb f10 f11 (v0 13).toInt T → V[(r6_.toInt).toNat]? = some x → r23_.toInt = ((zPq T x ((v0 13).toInt).toNat).length : Int))) := hw
        obtain ⟨b_, b_, b_, hX23_0, hX23_1, hX23_2⟩ := hw
        obtain ⟨w23_, a23_, b23_, hP1, hK1, hD1⟩ := hB
        rw [ht] at hP1
        obtain ⟨hP, hD⟩ := va_join (wr := [((q0 17), zi k14 12 f14), ((q0 19), zi k15 12 (a6_ 0))]) (w1 := [(h0, .inr (13, mX13 q0 (upd (upd (upd (upd v0 20 (u6_ 0)) 21 0) 23 (u23_ 0)) 24 (u23_ 1)))), ((q0 7), zi k6 120 f6), ((q0 11), zi k10 120 f10), ((q0 5), zi k4 122880 f4), ((q0 12), zi k11 120 f11), ((q0 22), zi k16 40000 (a23_ 0)), ((q0 2), zi k2 4800 f2), ((q0 3), zi k3 400 f3)]) hP hD [0, 5, 6, 7, 8, 9, 4, 3] [1, 2] rfl rfl (by decide) (by decide) hk1 hFc hP1 hD1
        have hP : va_P (dC, dI) vwCl [(h0, .inr (13, mX13 q0 (upd (upd (upd (upd v0 20 (u6_ 0)) 21 0) 23 (u23_ 0)) 24 (u23_ 1)))), ((q0 17), zi k14 12 f14), ((q0 19), zi k15 12 (a6_ 0)), ((q0 3), zi k3 400 f3), ((q0 2), zi k2 4800 f2), ((q0 7), zi k6 120 f6), ((q0 11), zi k10 120 f10), ((q0 5), zi k4 122880 f4), ((q0 12), zi k11 120 f11), ((q0 22), zi k16 40000 (a23_ 0))] H1 := hP.sub [2, 0, 1, 9, 8, 3, 4, 5, 6, 7] rfl
        have hD : va_D A [(h0, .inr (13, mX13 q0 (upd (upd (upd (upd v0 20 (u6_ 0)) 21 0) 23 (u23_ 0)) 24 (u23_ 1)))), ((q0 17), zi k14 12 f14), ((q0 19), zi k15 12 (a6_ 0)), ((q0 3), zi k3 400 f3), ((q0 2), zi k2 4800 f2), ((q0 7), zi k6 120 f6), ((q0 11), zi k10 120 f10), ((q0 5), zi k4 122880 f4), ((q0 12), zi k11 120 f11), ((q0 22), zi k16 40000 (a23_ 0))] := hD.sub [2, 0, 1, 9, 8, 3, 4, 5, 6, 7] (by decide) rfl
        generalize H1 = H at hP hS ⊢
        clear hz1
        refine lv_icmp_lt (tgt := 34) hx hb dX13_bit_26 (by decide) (fun c_ => ?_) (fun c_ => ?_)
        · skip
          have b_ := zT_lt rfl rfl c_
          refine lv_aload_n hx hb dX13_bit_34 rfl (lv_at hl 1 rfl) ?_
          refine va_get (D := (dC, dI)) (ci := 13) (v := .ref (q0 22)) (C := RX13) (T := TX13) (N := 75) hx hb hG zuX13 hown hK hP 0 rfl rfl 22 (by decide) (hG _ zv1626) (fun _ h9 => h9) rfl dX13_bit_35 ?_
          refine lv_iload_n hx hb dX13_bit_38 rfl (lv_at hl 2 rfl) ?_
          refine va_bald hx hb hK hP 9 8 rfl rfl (zin_lit ⟨by omega, by omega⟩) dX13_bit_39 ?_
          refine lv_topi (fun z39 e_z39 => ?_)
          refine W.widen (k := 0) (n := 0) (by decide) (by decide) ?_
          have b_ : -2147483648 ≤ z39.toInt ∧ z39.toInt ≤ 2147483647 := ⟨zlo _, zhi _⟩
          have hpost : (0 ≤ (u6_ 0).toInt ∧ (u6_ 0).toInt ≤ 12) ∧ (0 ≤ (0 : Int32).toInt ∧ (0 : Int32).toInt ≤ 1) ∧ (0 ≤ (u23_ 1).toInt ∧ (u23_ 1).toInt ≤ 1) := ⟨(by first | with_reducible assumption | exact ⟨by omega, by omega⟩), (by first | with_reducible assumption | exact ⟨by omega, by omega⟩), (by first | with_reducible assumption | exact ⟨by omega, by omega⟩)⟩
          have hP9 : va_P (dC, dI) vwCl [(h0, .inr (13, mX13 q0 (upd (upd (upd (upd v0 20 (u6_ 0)) 21 0) 23 (u23_ 0)) 24 (u23_ 1)))), ((q0 17), zi k14 12 f14), ((q0 19), zi k15 12 (a6_ 0)), ((q0 3), zi k3 400 f3), ((q0 2), zi k2 4800 f2), ((q0 7), zi k6 120 f6), ((q0 11), zi k10 120 f10), ((q0 5), zi k4 122880 f4), ((q0 12), zi k11 120 f11), ((q0 22), zi k16 40000 (a23_ 0))] H := hP
          have hD9 : va_D A [(h0, .inr (13, mX13 q0 (upd (upd (upd (upd v0 20 (u6_ 0)) 21 0) 23 (u23_ 0)) 24 (u23_ 1)))), ((q0 17), zi k14 12 f14), ((q0 19), zi k15 12 (a6_ 0)), ((q0 3), zi k3 400 f3), ((q0 2), zi k2 4800 f2), ((q0 7), zi k6 120 f6), ((q0 11), zi k10 120 f10), ((q0 5), zi k4 122880 f4), ((q0 12), zi k11 120 f11), ((q0 22), zi k16 40000 (a23_ 0))] := hD
          exact W.iret (v := z39) hx hb hr (fun t ht hW => ⟨⟨z39, (fun i => ([(u6_ 0), 0, (u23_ 0), (u23_ 1)] : List (Int32)).getD i 0), rfl, hpost, (fun _ => 0), (fun i => ([(a6_ 0), (a23_ 0)] : List (Nat → Int32)).getD i (fun _ => 0)), (fun _ => (fun _ => 0)), by rw [ht]; exact hP9, va_K.moved hW.alike hK, hD9⟩, hS.F ht⟩) hS.2.2 dX13_bit_40
        · skip
          have b_ := zF_lt rfl rfl c_
          have hc : va_P (dC, dI) vwCl [(h0, .inr (13, mX13 q0 (upd (upd (upd (upd v0 20 (u6_ 0)) 21 0) 23 (u23_ 0)) 24 (u23_ 1)))), ((q0 17), zi k14 12 f14), ((q0 19), zi k15 12 (a6_ 0)), ((q0 3), zi k3 400 f3), ((q0 2), zi k2 4800 f2), ((q0 7), zi k6 120 f6), ((q0 11), zi k10 120 f10), ((q0 5), zi k4 122880 f4), ((q0 12), zi k11 120 f11), ((q0 22), zi k16 40000 (a23_ 0))] H ∧ va_D A [(h0, .inr (13, mX13 q0 (upd (upd (upd (upd v0 20 (u6_ 0)) 21 0) 23 (u23_ 0)) 24 (u23_ 1)))), ((q0 17), zi k14 12 f14), ((q0 19), zi k15 12 (a6_ 0)), ((q0 3), zi k3 400 f3), ((q0 2), zi k2 4800 f2), ((q0 7), zi k6 120 f6), ((q0 11), zi k10 120 f10), ((q0 5), zi k4 122880 f4), ((q0 12), zi k11 120 f11), ((q0 22), zi k16 40000 (a23_ 0))] ∧ va_S A s.heap H locs ∧ lv_has ls 3 [(0, .ref h0), (1, .int x1), (2, .int r6_)] ∧ (0 ≤ (u23_ 1).toInt ∧ (u23_ 1).toInt ≤ 1) ∧ ((-1) ≤ r6_.toInt ∧ r6_.toInt ≤ 399) := ⟨hP, hD, hS, lv_sub hl [1, 2, 0] rfl, (by first | with_reducible assumption | exact ⟨by omega, by omega⟩), (by first | with_reducible assumption | exact ⟨by omega, by omega⟩)⟩
          exact hJ29 H locs ls (fun i => ([(u23_ 0), (u23_ 1)] : List (Int32)).getD i 0) (fun _ => 0) (fun i => ([(a23_ 0)] : List (Nat → Int32)).getD i (fun _ => 0)) (fun _ => (fun _ => 0)) hc
