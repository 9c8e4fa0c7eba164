set_option maxHeartbeats 8000000 in
set_option maxRecDepth 100000 in
theorem sX13_digits_0 (l : Launch) (dC : Nat → ClassId) (dI : Nat → Nat → Nat) (adK adV : Nat → Nat) (sz : Nat) (x0 : Int32) : Met l yX13_digits (zw yX13_digits cX13_digits 3 (some .int)) { frames := 0, cells := 0, slots := 0, locals := 0 } (zPc dC dI adK adV [.int x0] sz [] []) (va_Qi (fun (r : Int32) (u : Nat → Int32) => (0 ≤ r.toInt ∧ r.toInt ≤ 31) ∧ (r.toInt = zdig x0.toInt)) (fun (u : Nat → Int32) (t : State) => ∃ (ww : Nat → Int64) (aa : Nat → Nat → Int32) (bb : Nat → Nat → Int64), va_P (dC, dI) vwCl [] t.heap ∧ va_K (dC, dI) vwCl [] t ∧ va_D (va_A [] sz) []) (va_A [] sz)) 0 0 (va_A [] sz) := by
  refine Met.ofW (cc := cX13_digits) (maxL := 3) (ret := (some .int)) (by decide) rfl ?_
  intro p e s m args below meth c s₁ B hml hv
  obtain ⟨rfl, hsz, hP, hK, hD0, hE, hZ⟩ := hv
  have hx := B.exec
  have hb := B.bytes
  have hr := B.returns
  have hG : ∀ w ∈ zG, w.before _ s = true := fun w h => atoms_spec (ws := (zw yX13_digits cX13_digits 3 (some .int))) B.pre w (List.mem_cons_of_mem _ h)
  have hown : s.vm.findClass RX13 = some m.cls := findClass_of_methodNamed B.named
  have hlocks := B.notSynchronized

  subst hsz
  have hD := hD0.self (sz := s.heap.size)
  generalize hAe : va_A [] s.heap.size = A at hD hZ ⊢
  have hA : ∀ q : Nat, s.heap.size ≤ q → A q := fun q h => by rw [← hAe]; exact Or.inr h
  have hS : va_S A s.heap s.heap [] := va_S.rf
  have hl := lv_entry ([.int x0]) (n := 3) (Nat.le_of_ble_eq_true rfl)
  rw [lg_entry_eq]
  generalize (lg_sl ([.int x0]) ++ List.replicate (3 - (lg_sl ([.int x0])).length) Slot.unset).toArray = ls at hl ⊢
  have hl : lv_has ls 3 [(0, .int x0)] := hl
  have b_ := zk_0
  have b_ := zdig_31 x0
  refine lv_iconst (v := 0) hx hb dX13_digits_0 (by decide) ?_
  refine lv_istore_n (lv' := [(1, .int 0), (0, .int x0)]) hx hb dX13_digits_1 rfl hl (by decide) rfl (fun ls hl => ?_)
  refine lv_iload_n hx hb dX13_digits_2 rfl (lv_at hl 1 rfl) ?_
  refine lv_istore_n (lv' := [(2, .int x0), (1, .int 0), (0, .int x0)]) hx hb dX13_digits_3 rfl hl (by decide) rfl (fun ls hl => ?_)
  refine zcutL (fun u4_ => ((u4_ 1).toInt).toNat) (fun H locs ls u4_ w4_ a4_ b4_ => va_P (dC, dI) vwCl [] H ∧ va_D A [] ∧ va_S A s.heap H locs ∧ lv_has ls 3 [(0, .int x0), (1, .int (u4_ 0)), (2, .int (u4_ 1))] ∧ (0 ≤ (u4_ 0).toInt ∧ (u4_ 0).toInt ≤ 31) ∧ ((u4_ 0).toInt + zdig (u4_ 1).toInt = zdig x0.toInt)) (fun ls u4_ w4_ => F0 m 4 ls []) 0 0 ?_ (fun hJ4 => ?_)
  · skip
    intro H locs ls u4_ w4_ a4_ b4_ hc hJ4
    obtain ⟨hP, hD, hS, hl, b_, b_⟩ := hc
    refine lv_iload_n hx hb dX13_digits_4 rfl (lv_at hl 2 rfl) ?_
    have b_ : -2147483648 ≤ (u4_ 1).toInt ∧ (u4_ 1).toInt ≤ 2147483647 := ⟨zlo _, zhi _⟩
    refine lv_if_le (tgt := 18) hx hb dX13_digits_5 (by decide) (fun c_ => ?_) (fun c_ => ?_)
    · skip
      have b_ := zT_le rfl zk_0 c_
      have b_ := zdig_0 (x := (u4_ 1).toInt) (by omega)
      refine lv_iload_n hx hb dX13_digits_18 rfl (lv_at hl 1 rfl) ?_
      refine W.widen (k := 0) (n := 0) (by decide) (by decide) ?_
      have hpost : (0 ≤ (u4_ 0).toInt ∧ (u4_ 0).toInt ≤ 31) ∧ ((u4_ 0).toInt = zdig x0.toInt) := ⟨(by first | with_reducible assumption | exact ⟨by omega, by omega⟩), by omega⟩
      have hP9 : va_P (dC, dI) vwCl [] H := hP
      have hD9 : va_D A [] := hD
      exact W.iret (v := (u4_ 0)) hx hb hr (fun t ht hW => ⟨⟨(u4_ 0), (fun _ => 0), rfl, hpost, (fun _ => 0), (fun _ => (fun _ => 0)), (fun _ => (fun _ => 0)), by rw [ht]; exact hP9, va_K.moved hW.alike hK, hD9⟩, hS.F ht⟩) hS.2.2 dX13_digits_19
    · skip
      have b_ := zF_le rfl zk_0 c_
      obtain ⟨z8, e_z8⟩ : ∃ z : Int32, z = (u4_ 0) + Int32.ofInt 1 := ⟨_, rfl⟩
      have b_ := zadd (x := (u4_ 0)) (y := Int32.ofInt 1) rfl (show (Int32.ofInt 1).toInt = 1 from by decide) e_z8 (by omega) (by omega)
      refine lv_iinc (v := z8) (lv' := [(1, .int z8), (0, .int x0), (2, .int (u4_ 1))]) hx hb dX13_digits_8 hl (k := 1) rfl e_z8.symm (by decide) rfl (fun ls hl => ?_)
      refine lv_iload_n hx hb dX13_digits_11 rfl (lv_at hl 2 rfl) ?_
      refine lv_iconst (v := 2) hx hb dX13_digits_12 (by decide) ?_
      refine lv_idiv hx hb dX13_digits_13 (by decide) ?_
      refine lv_topi (fun z13 e_z13 => ?_)
      have b_ := zdiv rfl zk_2 e_z13 (by omega) (by decide)
      refine lv_istore_n (lv' := [(2, .int z13), (1, .int z8), (0, .int x0)]) hx hb dX13_digits_14 rfl hl (by decide) rfl (fun ls hl => ?_)
      have b_ : zdig (u4_ 1).toInt = zdig z13.toInt + 1 := by have q := zdig_half (x := (u4_ 1).toInt) (by omega); rwa [show (u4_ 1).toInt / 2 = z13.toInt from by omega] at q
      have b_ := zdig_n z13.toInt
      refine lv_goto (tgt := 4) hx hb dX13_digits_15 (by decide) ?_
      have b_ : -2147483648 ≤ x0.toInt ∧ x0.toInt ≤ 2147483647 := ⟨zlo _, zhi _⟩
      have hc : va_P (dC, dI) vwCl [] H ∧ va_D A [] ∧ va_S A s.heap H locs ∧ lv_has ls 3 [(0, .int x0), (1, .int z8), (2, .int z13)] ∧ (0 ≤ z8.toInt ∧ z8.toInt ≤ 31) ∧ (z8.toInt + zdig z13.toInt = zdig x0.toInt) := ⟨hP, hD, hS, lv_sub hl [2, 1, 0] rfl, (by first | with_reducible assumption | exact ⟨by omega, by omega⟩), by omega⟩
      exact hJ4 H locs ls (fun i => ([z8, z13] : List (Int32)).getD i 0) (fun _ => 0) (fun _ => (fun _ => 0)) (fun _ => (fun _ => 0)) hc (show (z13.toInt).toNat < ((u4_ 1).toInt).toNat from by omega)
  · skip
    have b_ : -2147483648 ≤ x0.toInt ∧ x0.toInt ≤ 2147483647 := ⟨zlo _, zhi _⟩
    have hc : va_P (dC, dI) vwCl [] s.heap ∧ va_D A [] ∧ va_S A s.heap s.heap [] ∧ lv_has ls 3 [(0, .int x0), (1, .int 0), (2, .int x0)] ∧ (0 ≤ (0 : Int32).toInt ∧ (0 : Int32).toInt ≤ 31) ∧ ((0 : Int32).toInt + zdig x0.toInt = zdig x0.toInt) := ⟨hP, hD, hS, lv_sub hl [2, 1, 0] rfl, (by first | with_reducible assumption | exact ⟨by omega, by omega⟩), by omega⟩
    exact hJ4 s.heap [] ls (fun i => ([0, x0] : List (Int32)).getD i 0) (fun _ => 0) (fun _ => (fun _ => 0)) (fun _ => (fun _ => 0)) hc
set_option maxHeartbeats 8000000 in
set_option maxRecDepth 100000 in
theorem sX13_put_0 (l : Launch) (dC : Nat → ClassId) (dI : Nat → Nat → Nat) (adK adV : Nat → Nat) (h0 : Nat) (q0 : Nat → Nat) (k16 : ClassId) (sz : Nat) (v0 : Nat → Int32) (f16 : Nat → Int32) (x1 : Int32) (hv0 : zR rg_Model v0) (hx1 : 1 ≤ x1.toInt ∧ x1.toInt ≤ 1200) (hp0_ : (v0 24).toInt = 1 → (v0 23).toInt + zgam x1.toInt ≤ 40000) (hp1_ : 0 ≤ (v0 23).toInt ∧ (v0 23).toInt ≤ 2600000) : Met l yX13_put (zw yX13_put cX13_put 4 none) { frames := 1, cells := 0, slots := 0, locals := 22 } (zPc dC dI adK adV [.ref h0, .int x1] sz [(h0, .inr (13, mX13 q0 v0)), ((q0 22), zi k16 40000 f16)] [(k16, .byte)]) (va_Qv (fun (u : Nat → Int32) => (1 ≤ (u 0).toInt ∧ (u 0).toInt ≤ 2600021) ∧ ((u 0).toInt = (v0 23).toInt + zgam x1.toInt)) (fun (u : Nat → Int32) (t : State) => ∃ (ww : Nat → Int64) (aa : Nat → Nat → Int32) (bb : Nat → Nat → Int64), va_P (dC, dI) vwCl [(h0, .inr (13, mX13 q0 (upd v0 23 (u 0)))), ((q0 22), zi k16 40000 (aa 0))] t.heap ∧ va_K (dC, dI) vwCl [(k16, .byte)] t ∧ va_D (va_A [(h0, .inr (13, mX13 q0 v0)), ((q0 22), zi k16 40000 f16)] sz) [(h0, .inr (13, mX13 q0 (upd v0 23 (u 0)))), ((q0 22), zi k16 40000 (aa 0))]) (va_A [(h0, .inr (13, mX13 q0 v0)), ((q0 22), zi k16 40000 f16)] sz)) 0 0 (va_A [(h0, .inr (13, mX13 q0 v0)), ((q0 22), zi k16 40000 f16)] sz) := by
  refine Met.ofW (cc := cX13_put) (maxL := 4) (ret := none) (by decide) rfl ?_
  intro p e s m args below meth c s₁ B hml hv
  obtain ⟨rfl, hsz, hP, hK, hD0, hE, hZ⟩ := hv
  have hx := B.exec
  have hb := B.bytes
  have hr := B.returns
  have hG : ∀ w ∈ zG, w.before _ s = true := fun w h => atoms_spec (ws := (zw yX13_put cX13_put 4 none)) B.pre w (List.mem_cons_of_mem _ h)
  have hown : s.vm.findClass RX13 = some m.cls := findClass_of_methodNamed B.named
  have hlocks := B.notSynchronized

  subst hsz
  have hD := hD0.self (sz := s.heap.size)
  generalize hAe : va_A [(h0, .inr (13, mX13 q0 v0)), ((q0 22), zi k16 40000 f16)] s.heap.size = A at hD hZ ⊢
  have hA : ∀ q : Nat, s.heap.size ≤ q → A q := fun q h => by rw [← hAe]; exact Or.inr h
  have hS : va_S A s.heap s.heap [] := va_S.rf
  have hl := lv_entry ([.ref h0, .int x1]) (n := 4) (Nat.le_of_ble_eq_true rfl)
  rw [lg_entry_eq]
  generalize (lg_sl ([.ref h0, .int x1]) ++ List.replicate (4 - (lg_sl ([.ref h0, .int x1])).length) Slot.unset).toArray = ls at hl ⊢
  have hl : lv_has ls 4 [(0, .ref h0), (1, .int x1)] := hl
  have b_ := zk_0
  have b_ : 0 ≤ (v0 24).toInt ∧ (v0 24).toInt ≤ 1 := hv0 24
  have b_ : -2147483648 ≤ (v0 23).toInt ∧ (v0 23).toInt ≤ 2147483647 := ⟨zlo _, zhi _⟩
  refine lv_iload_n hx hb dX13_put_0 rfl (lv_at hl 1 rfl) ?_
  have hPc := hP.sub (ws' := []) [] rfl
  have hDc := hD.sub (ws' := []) [] (by decide) rfl
  have hKc := hK.sub (tys' := []) [] rfl
  have hFc := va_free (wc := []) hD hS hA [] rfl
  refine va_calli (va_runS (As := [.int x1]) (rest := []) ⟨hx, hb, hml, hown, hG⟩ (sX13_digits_0 l dC dI adK adV s.heap.size x1) (va_cwS 1 hG (zgS zv1909 zv1910 zv142 zv1911) rfl rfl rfl (by decide +kernel) ⟨Nat.le_of_ble_eq_true rfl, Nat.le_of_ble_eq_true rfl⟩) ⟨zPc_blind, zPc_pre hPc hKc hDc hE hS hFc hZ⟩ rfl rfl hl.1 rfl (lv_room (Nat.le_of_ble_eq_true rfl)) dX13_put_1 ⟨Nat.le_of_ble_eq_true rfl, Nat.le_of_ble_eq_true rfl⟩) hS (fun q _ h => hFc q h) hFc (fun r1_ u1_ t H1 locs ht hvm hw hB hz1 hk1 hS => ?_)
  replace hw : (0 ≤ r1_.toInt ∧ r1_.toInt ≤ 31) ∧ (r1_.toInt = zdig x1.toInt) := hw
  obtain ⟨b_, hX1_0⟩ := hw
  obtain ⟨w1_, a1_, b1_, hP1, hK1, hD1⟩ := hB
  rw [ht] at hP1
  obtain ⟨hP, hD⟩ := va_join (wr := [(h0, .inr (13, mX13 q0 v0)), ((q0 22), zi k16 40000 f16)]) (w1 := []) hP hD [] [0, 1] rfl rfl (by decide) (by decide) hk1 hFc hP1 hD1
  have hP : va_P (dC, dI) vwCl [(h0, .inr (13, mX13 q0 v0)), ((q0 22), zi k16 40000 f16)] H1 := hP.sub [0, 1] rfl
  have hD : va_D A [(h0, .inr (13, mX13 q0 v0)), ((q0 22), zi k16 40000 f16)] := hD.sub [0, 1] (by decide) rfl
  generalize H1 = H at hP hS ⊢
  clear hz1
  have b_ : zgam x1.toInt = 2 * zdig x1.toInt - 1 := rfl
  have b_ := zdig_1 (x := x1.toInt) (by omega)
  have b_ := zdig_lt (x := x1.toInt) (k := 11) (by omega) (by omega)
  refine lv_istore_n (lv' := [(2, .int r1_), (0, .ref h0), (1, .int x1)]) hx hb dX13_put_4 rfl hl (by decide) rfl (fun ls hl => ?_)
  refine lv_aload_n hx hb dX13_put_5 rfl (lv_at hl 1 rfl) ?_
  refine va_get (D := (dC, dI)) (ci := 13) (v := .int (v0 24)) (C := RX13) (T := TX13) (N := 75) hx hb hG zuX13 hown hK hP 0 rfl rfl 24 (by decide) (hG _ zv1628) (fun _ h9 => h9) rfl dX13_put_6 ?_
  refine zcutW (fun H locs ls u77_ w77_ a77_ b77_ => va_P (dC, dI) vwCl [(h0, .inr (13, mX13 q0 v0)), ((q0 22), zi k16 40000 (a77_ 0))] H ∧ va_D A [(h0, .inr (13, mX13 q0 v0)), ((q0 22), zi k16 40000 (a77_ 0))] ∧ va_S A s.heap H locs ∧ lv_has ls 4 [(0, .ref h0), (1, .int x1), (2, .int r1_)] ∧ (0 ≤ (v0 24).toInt ∧ (v0 24).toInt ≤ 1)) (fun ls u77_ w77_ => F0 m 77 ls []) 0 0 ?_ (fun hJ77 => ?_)
  · skip
    intro H locs ls u77_ w77_ a77_ b77_ hc
    obtain ⟨hP, hD, hS, hl, b_⟩ := hc
    refine lv_aload_n hx hb dX13_put_77 rfl (lv_at hl 0 rfl) ?_
    refine lv_dup hx hb dX13_put_78 rfl ?_
    refine va_get (D := (dC, dI)) (ci := 13) (v := .int (v0 23)) (C := RX13) (T := TX13) (N := 75) hx hb hG zuX13 hown hK hP 0 rfl rfl 23 (by decide) (hG _ zv1627) (fun _ h9 => h9) rfl dX13_put_79 ?_
    refine lv_iconst (v := 2) hx hb dX13_put_82 (by decide) ?_
    refine lv_iload_n hx hb dX13_put_83 rfl (lv_at hl 2 rfl) ?_
    refine lv_imul hx hb dX13_put_84 ?_
    refine lv_topi (fun z84 e_z84 => ?_)
    have b_ := zmul zk_2 rfl e_z84 (by omega) (by omega)
    refine lv_iconst (v := 1) hx hb dX13_put_85 (by decide) ?_
    refine lv_isub hx hb dX13_put_86 ?_
    refine lv_topi (fun z86 e_z86 => ?_)
    have b_ := zsub rfl zk_1 e_z86 (by omega) (by omega)
    refine lv_iadd hx hb dX13_put_87 ?_
    refine lv_topi (fun z87 e_z87 => ?_)
    have b_ := zadd rfl rfl e_z87 (by omega) (by omega)
    refine va_put (D := (dC, dI)) (ci := 13) (v := .int z87) (ty := .int) (C := RX13) (T := TX13) (N := 75) hx hb hG zuX13 tyX13 tyX13_ok nmX13 hown hK hP hD hS 0 rfl rfl 23 (by decide) (hG _ zv1627) (fun _ h9 => h9) rfl (by decide +kernel) rfl rfl (Nat.le_of_ble_eq_true rfl) dX13_put_88 (fun H locs hP hD hS => ?_)
    have hP : va_P (dC, dI) vwCl [(h0, .inr (13, mX13 q0 (upd v0 23 z87))), ((q0 22), zi k16 40000 (a77_ 0))] H := hP
    have hD : va_D A [(h0, .inr (13, mX13 q0 (upd v0 23 z87))), ((q0 22), zi k16 40000 (a77_ 0))] := hD
    refine W.widen (k := 0) (n := 0) (by decide) (by decide) ?_
    have hpost : (1 ≤ z87.toInt ∧ z87.toInt ≤ 2600021) ∧ (z87.toInt = (v0 23).toInt + zgam x1.toInt) := ⟨(by first | with_reducible assumption | exact ⟨by omega, by omega⟩), by omega⟩
    have hP9 : va_P (dC, dI) vwCl [(h0, .inr (13, mX13 q0 (upd v0 23 z87))), ((q0 22), zi k16 40000 (a77_ 0))] H := hP
    have hD9 : va_D A [(h0, .inr (13, mX13 q0 (upd v0 23 z87))), ((q0 22), zi k16 40000 (a77_ 0))] := hD
    exact W.vret hx hb hr (fun t ht hW => ⟨⟨(fun i => ([z87] : List (Int32)).getD i 0), rfl, hpost, (fun _ => 0), (fun i => ([(a77_ 0)] : List (Nat → Int32)).getD i (fun _ => 0)), (fun _ => (fun _ => 0)), by rw [ht]; exact hP9, va_K.moved hW.alike hK, hD9⟩, hS.F ht⟩) hS.2.2 dX13_put_91
  · skip
    refine lv_if_eq (tgt := 77) hx hb dX13_put_9 (by decide) (fun c_ => ?_) (fun c_ => ?_)
    · skip
      have b_ := zT_eq rfl zk_0 c_
      have hc : va_P (dC, dI) vwCl [(h0, .inr (13, mX13 q0 v0)), ((q0 22), zi k16 40000 f16)] H ∧ va_D A [(h0, .inr (13, mX13 q0 v0)), ((q0 22), zi k16 40000 f16)] ∧ va_S A s.heap H locs ∧ lv_has ls 4 [(0, .ref h0), (1, .int x1), (2, .int r1_)] ∧ (0 ≤ (v0 24).toInt ∧ (v0 24).toInt ≤ 1) := ⟨hP, hD, hS, lv_sub hl [1, 2, 0] rfl, (by first | with_reducible assumption | exact ⟨by omega, by omega⟩)⟩
      exact hJ77 H locs ls (fun _ => 0) (fun _ => 0) (fun i => ([f16] : List (Nat → Int32)).getD i (fun _ => 0)) (fun _ => (fun _ => 0)) hc
    · skip
      have b_ := zF_eq rfl zk_0 c_
      have b_ := hp0_ (by omega)
      refine lv_iconst (v := 0) hx hb dX13_put_12 (by decide) ?_
      refine lv_istore_n (lv' := [(3, .int 0), (2, .int r1_), (0, .ref h0), (1, .int x1)]) hx hb dX13_put_13 rfl hl (by decide) rfl (fun ls hl => ?_)
      refine zcutL (fun u14_ => (10 - (u14_ 0).toInt).toNat) (fun H locs ls u14_ w14_ a14_ b14_ => va_P (dC, dI) vwCl [(h0, .inr (13, mX13 q0 v0)), ((q0 22), zi k16 40000 (a14_ 0))] H ∧ va_D A [(h0, .inr (13, mX13 q0 v0)), ((q0 22), zi k16 40000 (a14_ 0))] ∧ va_S A s.heap H locs ∧ lv_has ls 4 [(0, .ref h0), (1, .int x1), (2, .int r1_), (3, .int (u14_ 0))] ∧ (0 ≤ (u14_ 0).toInt ∧ (u14_ 0).toInt ≤ 10)) (fun ls u14_ w14_ => F0 m 14 ls []) 0 0 ?_ (fun hJ14 => ?_)
      · skip
        intro H locs ls u14_ w14_ a14_ b14_ hc hJ14
        obtain ⟨hP, hD, hS, hl, b_⟩ := hc
        refine lv_iload_n hx hb dX13_put_14 rfl (lv_at hl 3 rfl) ?_
        refine lv_iload_n hx hb dX13_put_15 rfl (lv_at hl 2 rfl) ?_
        refine lv_iconst (v := 1) hx hb dX13_put_16 (by decide) ?_
        refine lv_isub hx hb dX13_put_17 ?_
        refine lv_topi (fun z17 e_z17 => ?_)
        have b_ := zsub rfl zk_1 e_z17 (by omega) (by omega)
        refine lv_icmp_ge (tgt := 39) hx hb dX13_put_18 (by decide) (fun c_ => ?_) (fun c_ => ?_)
        · skip
          have b_ := zT_ge rfl rfl c_
          refine lv_iconst (v := 0) hx hb dX13_put_39 (by decide) ?_
          refine lv_istore_n (lv' := [(3, .int 0), (0, .ref h0), (1, .int x1), (2, .int r1_)]) hx hb dX13_put_40 rfl hl (by decide) rfl (fun ls hl => ?_)
          refine zcutL (fun u41_ => (11 - (u41_ 0).toInt).toNat) (fun H locs ls u41_ w41_ a41_ b41_ => va_P (dC, dI) vwCl [(h0, .inr (13, mX13 q0 v0)), ((q0 22), zi k16 40000 (a41_ 0))] H ∧ va_D A [(h0, .inr (13, mX13 q0 v0)), ((q0 22), zi k16 40000 (a41_ 0))] ∧ va_S A s.heap H locs ∧ lv_has ls 4 [(0, .ref h0), (1, .int x1), (2, .int r1_), (3, .int (u41_ 0))] ∧ (0 ≤ (u41_ 0).toInt ∧ (u41_ 0).toInt ≤ 11)) (fun ls u41_ w41_ => F0 m 41 ls []) 0 0 ?_ (fun hJ41 => ?_)
          · skip
            intro H locs ls u41_ w41_ a41_ b41_ hc hJ41
            obtain ⟨hP, hD, hS, hl, b_⟩ := hc
            refine lv_iload_n hx hb dX13_put_41 rfl (lv_at hl 3 rfl) ?_
            refine lv_iload_n hx hb dX13_put_42 rfl (lv_at hl 2 rfl) ?_
            refine lv_icmp_ge (tgt := 77) hx hb dX13_put_43 (by decide) (fun c_ => ?_) (fun c_ => ?_)
            · skip
              have b_ := zT_ge rfl rfl c_
              have hc : va_P (dC, dI) vwCl [(h0, .inr (13, mX13 q0 v0)), ((q0 22), zi k16 40000 (a41_ 0))] H ∧ va_D A [(h0, .inr (13, mX13 q0 v0)), ((q0 22), zi k16 40000 (a41_ 0))] ∧ va_S A s.heap H locs ∧ lv_has ls 4 [(0, .ref h0), (1, .int x1), (2, .int r1_)] ∧ (0 ≤ (v0 24).toInt ∧ (v0 24).toInt ≤ 1) := ⟨hP, hD, hS, lv_sub hl [0, 1, 2] rfl, (by first | with_reducible assumption | exact ⟨by omega, by omega⟩)⟩
              exact hJ77 H locs ls (fun _ => 0) (fun _ => 0) (fun i => ([(a41_ 0)] : List (Nat → Int32)).getD i (fun _ => 0)) (fun _ => (fun _ => 0)) hc
            · skip
              have b_ := zF_ge rfl rfl c_
              refine lv_aload_n hx hb dX13_put_46 rfl (lv_at hl 0 rfl) ?_
              refine va_get (D := (dC, dI)) (ci := 13) (v := .ref (q0 22)) (C := RX13) (T := TX13) (N := 75) hx hb hG zuX13 hown hK hP 0 rfl rfl 22 (by decide) (hG _ zv1626) (fun _ h9 => h9) rfl dX13_put_47 ?_
              refine lv_aload_n hx hb dX13_put_50 rfl (lv_at hl 0 rfl) ?_
              refine va_get (D := (dC, dI)) (ci := 13) (v := .int (v0 23)) (C := RX13) (T := TX13) (N := 75) hx hb hG zuX13 hown hK hP 0 rfl rfl 23 (by decide) (hG _ zv1627) (fun _ h9 => h9) rfl dX13_put_51 ?_
              refine lv_iload_n hx hb dX13_put_54 rfl (lv_at hl 2 rfl) ?_
              refine lv_iadd hx hb dX13_put_55 ?_
              refine lv_topi (fun z55 e_z55 => ?_)
              have b_ := zadd rfl rfl e_z55 (by omega) (by omega)
              refine lv_iconst (v := 1) hx hb dX13_put_56 (by decide) ?_
              refine lv_isub hx hb dX13_put_57 ?_
              refine lv_topi (fun z57 e_z57 => ?_)
              have b_ := zsub rfl zk_1 e_z57 (by omega) (by omega)
              refine lv_iload_n hx hb dX13_put_58 rfl (lv_at hl 3 rfl) ?_
              refine lv_iadd hx hb dX13_put_59 ?_
              refine lv_topi (fun z59 e_z59 => ?_)
              have b_ := zadd rfl rfl e_z59 (by omega) (by omega)
              refine lv_iload_n hx hb dX13_put_60 rfl (lv_at hl 1 rfl) ?_
              refine lv_iload_n hx hb dX13_put_61 rfl (lv_at hl 2 rfl) ?_
              refine lv_iconst (v := 1) hx hb dX13_put_62 (by decide) ?_
              refine lv_isub hx hb dX13_put_63 ?_
              refine lv_topi (fun z63 e_z63 => ?_)
              have b_ := zsub rfl zk_1 e_z63 (by omega) (by omega)
              refine lv_iload_n hx hb dX13_put_64 rfl (lv_at hl 3 rfl) ?_
              refine lv_isub hx hb dX13_put_65 ?_
              refine lv_topi (fun z65 e_z65 => ?_)
              have b_ := zsub rfl rfl e_z65 (by omega) (by omega)
              refine lv_ishr hx hb dX13_put_66 ?_
              refine lv_topi (fun z66 e_z66 => ?_)
              refine lv_iconst (v := 1) hx hb dX13_put_67 (by decide) ?_
              have b_ : -2147483648 ≤ z66.toInt ∧ z66.toInt ≤ 2147483647 := ⟨zlo _, zhi _⟩
              refine lv_iand hx hb dX13_put_68 ?_
              refine lv_topi (fun z68 e_z68 => ?_)
              have b_ := zand (x := z66) zk_1 e_z68 (by decide)
              refine lv_i2b hx hb dX13_put_69 rfl ?_
              refine lv_topi (fun z69 e_z69 => ?_)
              have b_ := zi2b rfl e_z69 (by omega) (by omega)
              refine va_bast hx hb hK hP hD hS 1 0 rfl rfl (zin_lit ⟨by omega, by omega⟩) dX13_put_70 (fun H locs hP hD hS => ?_)
              obtain ⟨f_70, e_f_70⟩ : ∃ z : Nat → Int32, z = upd (a41_ 0) (z59 : Int32).toNatClampNeg (vp_nar .byte z69) := ⟨_, rfl⟩
              have hP : va_P (dC, dI) vwCl [(h0, .inr (13, mX13 q0 v0)), ((q0 22), zi k16 40000 f_70)] H := by rw [e_f_70]; exact hP
              have hD : va_D A [(h0, .inr (13, mX13 q0 v0)), ((q0 22), zi k16 40000 f_70)] := by rw [e_f_70]; exact hD
              obtain ⟨z71, e_z71⟩ : ∃ z : Int32, z = (u41_ 0) + Int32.ofInt 1 := ⟨_, rfl⟩
              have b_ := zadd (x := (u41_ 0)) (y := Int32.ofInt 1) rfl (show (Int32.ofInt 1).toInt = 1 from by decide) e_z71 (by omega) (by omega)
              refine lv_iinc (v := z71) (lv' := [(3, .int z71), (0, .ref h0), (1, .int x1), (2, .int r1_)]) hx hb dX13_put_71 hl (k := 3) rfl e_z71.symm (by decide) rfl (fun ls hl => ?_)
              refine lv_goto (tgt := 41) hx hb dX13_put_74 (by decide) ?_
              have hc : va_P (dC, dI) vwCl [(h0, .inr (13, mX13 q0 v0)), ((q0 22), zi k16 40000 f_70)] H ∧ va_D A [(h0, .inr (13, mX13 q0 v0)), ((q0 22), zi k16 40000 f_70)] ∧ va_S A s.heap H locs ∧ lv_has ls 4 [(0, .ref h0), (1, .int x1), (2, .int r1_), (3, .int z71)] ∧ (0 ≤ z71.toInt ∧ z71.toInt ≤ 11) := ⟨hP, hD, hS, lv_sub hl [1, 2, 3, 0] rfl, (by first | with_reducible assumption | exact ⟨by omega, by omega⟩)⟩
              exact hJ41 H locs ls (fun i => ([z71] : List (Int32)).getD i 0) (fun _ => 0) (fun i => ([f_70] : List (Nat → Int32)).getD i (fun _ => 0)) (fun _ => (fun _ => 0)) hc (show (11 - z71.toInt).toNat < (11 - (u41_ 0).toInt).toNat from by omega)
          · skip
            have hc : va_P (dC, dI) vwCl [(h0, .inr (13, mX13 q0 v0)), ((q0 22), zi k16 40000 (a14_ 0))] H ∧ va_D A [(h0, .inr (13, mX13 q0 v0)), ((q0 22), zi k16 40000 (a14_ 0))] ∧ va_S A s.heap H locs ∧ lv_has ls 4 [(0, .ref h0), (1, .int x1), (2, .int r1_), (3, .int 0)] ∧ (0 ≤ (0 : Int32).toInt ∧ (0 : Int32).toInt ≤ 11) := ⟨hP, hD, hS, lv_sub hl [1, 2, 3, 0] rfl, (by first | with_reducible assumption | exact ⟨by omega, by omega⟩)⟩
            exact hJ41 H locs ls (fun i => ([0] : List (Int32)).getD i 0) (fun _ => 0) (fun i => ([(a14_ 0)] : List (Nat → Int32)).getD i (fun _ => 0)) (fun _ => (fun _ => 0)) hc
        · skip
          have b_ := zF_ge rfl rfl c_
          refine lv_aload_n hx hb dX13_put_21 rfl (lv_at hl 0 rfl) ?_
          refine va_get (D := (dC, dI)) (ci := 13) (v := .ref (q0 22)) (C := RX13) (T := TX13) (N := 75) hx hb hG zuX13 hown hK hP 0 rfl rfl 22 (by decide) (hG _ zv1626) (fun _ h9 => h9) rfl dX13_put_22 ?_
          refine lv_aload_n hx hb dX13_put_25 rfl (lv_at hl 0 rfl) ?_
          refine va_get (D := (dC, dI)) (ci := 13) (v := .int (v0 23)) (C := RX13) (T := TX13) (N := 75) hx hb hG zuX13 hown hK hP 0 rfl rfl 23 (by decide) (hG _ zv1627) (fun _ h9 => h9) rfl dX13_put_26 ?_
          refine lv_iload_n hx hb dX13_put_29 rfl (lv_at hl 3 rfl) ?_
          refine lv_iadd hx hb dX13_put_30 ?_
          refine lv_topi (fun z30 e_z30 => ?_)
          have b_ := zadd rfl rfl e_z30 (by omega) (by omega)
          refine lv_iconst (v := 0) hx hb dX13_put_31 (by decide) ?_
          refine va_bast hx hb hK hP hD hS 1 0 rfl rfl (zin_lit ⟨by omega, by omega⟩) dX13_put_32 (fun H locs hP hD hS => ?_)
          obtain ⟨f_32, e_f_32⟩ : ∃ z : Nat → Int32, z = upd (a14_ 0) (z30 : Int32).toNatClampNeg (vp_nar .byte 0) := ⟨_, rfl⟩
          have hP : va_P (dC, dI) vwCl [(h0, .inr (13, mX13 q0 v0)), ((q0 22), zi k16 40000 f_32)] H := by rw [e_f_32]; exact hP
          have hD : va_D A [(h0, .inr (13, mX13 q0 v0)), ((q0 22), zi k16 40000 f_32)] := by rw [e_f_32]; exact hD
          obtain ⟨z33, e_z33⟩ : ∃ z : Int32, z = (u14_ 0) + Int32.ofInt 1 := ⟨_, rfl⟩
          have b_ := zadd (x := (u14_ 0)) (y := Int32.ofInt 1) rfl (show (Int32.ofInt 1).toInt = 1 from by decide) e_z33 (by omega) (by omega)
          refine lv_iinc (v := z33) (lv' := [(3, .int z33), (0, .ref h0), (1, .int x1), (2, .int r1_)]) hx hb dX13_put_33 hl (k := 3) rfl e_z33.symm (by decide) rfl (fun ls hl => ?_)
          refine lv_goto (tgt := 14) hx hb dX13_put_36 (by decide) ?_
          have hc : va_P (dC, dI) vwCl [(h0, .inr (13, mX13 q0 v0)), ((q0 22), zi k16 40000 f_32)] H ∧ va_D A [(h0, .inr (13, mX13 q0 v0)), ((q0 22), zi k16 40000 f_32)] ∧ va_S A s.heap H locs ∧ lv_has ls 4 [(0, .ref h0), (1, .int x1), (2, .int r1_), (3, .int z33)] ∧ (0 ≤ z33.toInt ∧ z33.toInt ≤ 10) := ⟨hP, hD, hS, lv_sub hl [1, 2, 3, 0] rfl, (by first | with_reducible assumption | exact ⟨by omega, by omega⟩)⟩
          exact hJ14 H locs ls (fun i => ([z33] : List (Int32)).getD i 0) (fun _ => 0) (fun i => ([f_32] : List (Nat → Int32)).getD i (fun _ => 0)) (fun _ => (fun _ => 0)) hc (show (10 - z33.toInt).toNat < (10 - (u14_ 0).toInt).toNat from by omega)
      · skip
        have hc : va_P (dC, dI) vwCl [(h0, .inr (13, mX13 q0 v0)), ((q0 22), zi k16 40000 f16)] H ∧ va_D A [(h0, .inr (13, mX13 q0 v0)), ((q0 22), zi k16 40000 f16)] ∧ va_S A s.heap H locs ∧ lv_has ls 4 [(0, .ref h0), (1, .int x1), (2, .int r1_), (3, .int 0)] ∧ (0 ≤ (0 : Int32).toInt ∧ (0 : Int32).toInt ≤ 10) := ⟨hP, hD, hS, lv_sub hl [2, 3, 1, 0] rfl, (by first | with_reducible assumption | exact ⟨by omega, by omega⟩)⟩
        exact hJ14 H locs ls (fun i => ([0] : List (Int32)).getD i 0) (fun _ => 0) (fun i => ([f16] : List (Nat → Int32)).getD i (fun _ => 0)) (fun _ => (fun _ => 0)) hc
set_option maxHeartbeats 8000000 in
set_option maxRecDepth 100000 in
theorem sX13_layOut_0 (l : Launch) (dC : Nat → ClassId) (dI : Nat → Nat → Nat) (adK adV : Nat → Nat) (h0 : Nat) (q0 : Nat → Nat) (k6 : ClassId) (k10 : ClassId) (k4 : ClassId) (k11 : ClassId) (k16 : ClassId) (sz : Nat) (v0 : Nat → Int32) (f6 : Nat → Int32) (f10 : Nat → Int32) (f4 : Nat → Int32) (f11 : Nat → Int32) (f16 : Nat → Int32) (x1 : Int32) (x2 : Int32) (hv0 : zR rg_Model v0) (hf10 : zA 0 512 f10) (hf4 : zA 0 400 f4) (hf11 : zA 0 512 f11) (hx1 : 0 ≤ x1.toInt ∧ x1.toInt ≤ 399) (hx2 : 0 ≤ x2.toInt ∧ x2.toInt ≤ 1) (hp0_ : x2.toInt = 1 → (zB f4 f6 x1.toInt  ((v0 13).toInt).toNat).1 ≤ 40000) : Met l yX13_layOut (zw yX13_layOut cX13_layOut 8 (some .int)) { frames := 2, cells := 0, slots := 0, locals := 45 } (zPc dC dI adK adV [.ref h0, .int x1, .int x2] sz [(h0, .inr (13, mX13 q0 v0)), ((q0 7), zi k6 120 f6), ((q0 11), zi k10 120 f10), ((q0 5), zi k4 122880 f4), ((q0 12), zi k11 120 f11), ((q0 22), zi k16 40000 f16)] [(k6, .boolean), (k10, .int), (k4, .short), (k11, .int), (k16, .byte)]) (va_Qi (fun (r : Int32) (u : Nat → Int32) => (0 ≤ r.toInt ∧ r.toInt ≤ 2600021) ∧ (0 ≤ (u 0).toInt ∧ (u 0).toInt ≤ 2600021) ∧ (0 ≤ (u 1).toInt ∧ (u 1).toInt ≤ 1) ∧ (r.toInt ≤ (zB f4 f6 x1.toInt  ((v0 13).toInt).toNat).1) ∧ (0 ≤ r.toInt)) (fun (u : Nat → Int32) (t : State) => ∃ (ww : Nat → Int64) (aa : Nat → Nat → Int32) (bb : Nat → Nat → Int64), va_P (dC, dI) vwCl [(h0, .inr (13, mX13 q0 (upd (upd v0 23 (u 0)) 24 (u 1)))), ((q0 7), zi k6 120 f6), ((q0 11), zi k10 120 f10), ((q0 5), zi k4 122880 f4), ((q0 12), zi k11 120 f11), ((q0 22), zi k16 40000 (aa 0))] t.heap ∧ va_K (dC, dI) vwCl [(k6, .boolean), (k10, .int), (k4, .short), (k11, .int), (k16, .byte)] t ∧ va_D (va_A [(h0, .inr (13, mX13 q0 v0)), ((q0 7), zi k6 120 f6), ((q0 11), zi k10 120 f10), ((q0 5), zi k4 122880 f4), ((q0 12), zi k11 120 f11), ((q0 22), zi k16 40000 f16)] sz) [(h0, .inr (13, mX13 q0 (upd (upd v0 23 (u 0)) 24 (u 1)))), ((q0 7), zi k6 120 f6), ((q0 11), zi k10 120 f10), ((q0 5), zi k4 122880 f4), ((q0 12), zi k11 120 f11), ((q0 22), zi k16 40000 (aa 0))]) (va_A [(h0, .inr (13, mX13 q0 v0)), ((q0 7), zi k6 120 f6), ((q0 11), zi k10 120 f10), ((q0 5), zi k4 122880 f4), ((q0 12), zi k11 120 f11), ((q0 22), zi k16 40000 f16)] sz)) 0 0 (va_A [(h0, .inr (13, mX13 q0 v0)), ((q0 7), zi k6 120 f6), ((q0 11), zi k10 120 f10), ((q0 5), zi k4 122880 f4), ((q0 12), zi k11 120 f11), ((q0 22), zi k16 40000 f16)] sz) := by
  refine Met.ofW (cc := cX13_layOut) (maxL := 8) (ret := (some .int)) (by decide) rfl ?_
  intro p e s m args below meth c s₁ B hml hv
  obtain ⟨rfl, hsz, hP, hK, hD0, hE, hZ⟩ := hv
  have hx := B.exec
  have hb := B.bytes
  have hr := B.returns
  have hG : ∀ w ∈ zG, w.before _ s = true := fun w h => atoms_spec (ws := (zw yX13_layOut cX13_layOut 8 (some .int))) B.pre w (List.mem_cons_of_mem _ h)
  have hown : s.vm.findClass RX13 = some m.cls := findClass_of_methodNamed B.named
  have hlocks := B.notSynchronized

  subst hsz
  have hD := hD0.self (sz := s.heap.size)
  generalize hAe : va_A [(h0, .inr (13, mX13 q0 v0)), ((q0 7), zi k6 120 f6), ((q0 11), zi k10 120 f10), ((q0 5), zi k4 122880 f4), ((q0 12), zi k11 120 f11), ((q0 22), zi k16 40000 f16)] s.heap.size = A at hD hZ ⊢
  have hA : ∀ q : Nat, s.heap.size ≤ q → A q := fun q h => by rw [← hAe]; exact Or.inr h
  have hS : va_S A s.heap s.heap [] := va_S.rf
  have hl := lv_entry ([.ref h0, .int x1, .int x2]) (n := 8) (Nat.le_of_ble_eq_true rfl)
  rw [lg_entry_eq]
  generalize (lg_sl ([.ref h0, .int x1, .int x2]) ++ List.replicate (8 - (lg_sl ([.ref h0, .int x1, .int x2])).length) Slot.unset).toArray = ls at hl ⊢
  have hl : lv_has ls 8 [(0, .ref h0), (1, .int x1), (2, .int x2)] := hl
  have b_ := zk_m1
  have b_ := zk_0
  have b_ : 0 ≤ (v0 13).toInt ∧ (v0 13).toInt ≤ 120 := hv0 13
  have hb0 : (zB f4 f6 x1.toInt 0).1 = 0 ∧ (zB f4 f6 x1.toInt 0).2 = -1 := ⟨rfl, rfl⟩
  refine lv_aload_n hx hb dX13_layOut_0 rfl (lv_at hl 0 rfl) ?_
  refine lv_iload_n hx hb dX13_layOut_1 rfl (lv_at hl 2 rfl) ?_
  refine va_put (D := (dC, dI)) (ci := 13) (v := .int x2) (ty := .boolean) (C := RX13) (T := TX13) (N := 75) hx hb hG zuX13 tyX13 tyX13_ok nmX13 hown hK hP hD hS 0 rfl rfl 24 (by decide) (hG _ zv1628) (fun _ h9 => h9) rfl (by decide +kernel) (zbn ⟨by omega, by omega⟩) (zbf ⟨by omega, by omega⟩) (Nat.le_of_ble_eq_true rfl) dX13_layOut_2 (fun H locs hP hD hS => ?_)
  have hP : va_P (dC, dI) vwCl [(h0, .inr (13, mX13 q0 (upd v0 24 x2))), ((q0 7), zi k6 120 f6), ((q0 11), zi k10 120 f10), ((q0 5), zi k4 122880 f4), ((q0 12), zi k11 120 f11), ((q0 22), zi k16 40000 f16)] H := hP
  have hD : va_D A [(h0, .inr (13, mX13 q0 (upd v0 24 x2))), ((q0 7), zi k6 120 f6), ((q0 11), zi k10 120 f10), ((q0 5), zi k4 122880 f4), ((q0 12), zi k11 120 f11), ((q0 22), zi k16 40000 f16)] := hD
  refine lv_aload_n hx hb dX13_layOut_5 rfl (lv_at hl 0 rfl) ?_
  refine lv_iconst (v := 0) hx hb dX13_layOut_6 (by decide) ?_
  refine va_put (D := (dC, dI)) (ci := 13) (v := .int 0) (ty := .int) (C := RX13) (T := TX13) (N := 75) hx hb hG zuX13 tyX13 tyX13_ok nmX13 hown hK hP hD hS 0 rfl rfl 23 (by decide) (hG _ zv1627) (fun _ h9 => h9) rfl (by decide +kernel) rfl rfl (Nat.le_of_ble_eq_true rfl) dX13_layOut_7 (fun H locs hP hD hS => ?_)
  have hP : va_P (dC, dI) vwCl [(h0, .inr (13, mX13 q0 (upd (upd v0 23 0) 24 x2))), ((q0 7), zi k6 120 f6), ((q0 11), zi k10 120 f10), ((q0 5), zi k4 122880 f4), ((q0 12), zi k11 120 f11), ((q0 22), zi k16 40000 f16)] H := hP
  have hD : va_D A [(h0, .inr (13, mX13 q0 (upd (upd v0 23 0) 24 x2))), ((q0 7), zi k6 120 f6), ((q0 11), zi k10 120 f10), ((q0 5), zi k4 122880 f4), ((q0 12), zi k11 120 f11), ((q0 22), zi k16 40000 f16)] := hD
  refine lv_iconst (v := (-1)) hx hb dX13_layOut_10 (by decide) ?_
  refine lv_istore_n (lv' := [(3, .int (-1)), (0, .ref h0), (1, .int x1), (2, .int x2)]) hx hb dX13_layOut_11 rfl hl (by decide) rfl (fun ls hl => ?_)
  refine lv_iconst (v := 0) hx hb dX13_layOut_12 (by decide) ?_
  refine lv_istore (lv' := [(4, .int 0), (3, .int (-1)), (0, .ref h0), (1, .int x1), (2, .int x2)]) hx hb dX13_layOut_13 hl (by decide) rfl (fun ls hl => ?_)
  refine zcutL (fun u15_ => (120 - (u15_ 1).toInt).toNat) (fun H locs ls u15_ w15_ a15_ b15_ => va_P (dC, dI) vwCl [(h0, .inr (13, mX13 q0 (upd (upd v0 23 (u15_ 2)) 24 x2))), ((q0 7), zi k6 120 f6), ((q0 11), zi k10 120 f10), ((q0 5), zi k4 122880 f4), ((q0 12), zi k11 120 f11), ((q0 22), zi k16 40000 (a15_ 0))] H ∧ va_D A [(h0, .inr (13, mX13 q0 (upd (upd v0 23 (u15_ 2)) 24 x2))), ((q0 7), zi k6 120 f6), ((q0 11), zi k10 120 f10), ((q0 5), zi k4 122880 f4), ((q0 12), zi k11 120 f11), ((q0 22), zi k16 40000 (a15_ 0))] ∧ va_S A s.heap H locs ∧ lv_has ls 8 [(0, .ref h0), (1, .int x1), (2, .int x2), (3, .int (u15_ 0)), (4, .int (u15_ 1))] ∧ ((-1) ≤ (u15_ 0).toInt ∧ (u15_ 0).toInt ≤ 119) ∧ (0 ≤ (u15_ 1).toInt ∧ (u15_ 1).toInt ≤ 120) ∧ (0 ≤ (u15_ 2).toInt ∧ (u15_ 2).toInt ≤ 2600021) ∧ (zSl (u15_ 2).toInt (u15_ 0).toInt (zB f4 f6 x1.toInt  ((u15_ 1).toInt).toNat).1 (zB f4 f6 x1.toInt  ((u15_ 1).toInt).toNat).2) ∧ ((u15_ 1).toInt ≤ (v0 13).toInt) ∧ (x2.toInt = x2.toInt) ∧ (0 ≤ (u15_ 2).toInt) ∧ (-1 ≤ (u15_ 0).toInt ∧ (u15_ 0).toInt < (u15_ 1).toInt)) (fun ls u15_ w15_ => F0 m 15 ls []) 0 0 ?_ (fun hJ15 => ?_)
  · skip
    intro H locs ls u15_ w15_ a15_ b15_ hc hJ15
    obtain ⟨hP, hD, hS, hl, b_, b_, b_, hI15_0, b_, b_, b_, b_⟩ := hc
    refine lv_iload hx hb dX13_layOut_15 (lv_at hl 4 rfl) ?_
    refine lv_aload_n hx hb dX13_layOut_17 rfl (lv_at hl 0 rfl) ?_
    refine va_get (D := (dC, dI)) (ci := 13) (v := .int (v0 13)) (C := RX13) (T := TX13) (N := 75) hx hb hG zuX13 hown hK hP 0 rfl rfl 13 (by decide) (hG _ zv1617) (fun _ h9 => h9) rfl dX13_layOut_18 ?_
    refine lv_icmp_ge (tgt := 134) hx hb dX13_layOut_21 (by decide) (fun c_ => ?_) (fun c_ => ?_)
    · skip
      have b_ := zT_ge rfl rfl c_
      have hfi : (u15_ 2).toInt ≤ (zB f4 f6 x1.toInt ((v0 13).toInt).toNat).1 := by rw [show (v0 13).toInt = (u15_ 1).toInt from by omega]; exact hI15_0.1
      refine lv_aload_n hx hb dX13_layOut_134 rfl (lv_at hl 0 rfl) ?_
      refine va_get (D := (dC, dI)) (ci := 13) (v := .int (u15_ 2)) (C := RX13) (T := TX13) (N := 75) hx hb hG zuX13 hown hK hP 0 rfl rfl 23 (by decide) (hG _ zv1627) (fun _ h9 => h9) rfl dX13_layOut_135 ?_
      refine W.widen (k := 0) (n := 0) (by decide) (by decide) ?_
      have hpost : (0 ≤ (u15_ 2).toInt ∧ (u15_ 2).toInt ≤ 2600021) ∧ (0 ≤ (u15_ 2).toInt ∧ (u15_ 2).toInt ≤ 2600021) ∧ (0 ≤ x2.toInt ∧ x2.toInt ≤ 1) ∧ ((u15_ 2).toInt ≤ (zB f4 f6 x1.toInt  ((v0 13).toInt).toNat).1) ∧ (0 ≤ (u15_ 2).toInt) := ⟨(by first | with_reducible assumption | exact ⟨by omega, by omega⟩), (by first | with_reducible assumption | exact ⟨by omega, by omega⟩), (by first | with_reducible assumption | exact ⟨by omega, by omega⟩), by omega, by omega⟩
      have hP9 : va_P (dC, dI) vwCl [(h0, .inr (13, mX13 q0 (upd (upd v0 23 (u15_ 2)) 24 x2))), ((q0 7), zi k6 120 f6), ((q0 11), zi k10 120 f10), ((q0 5), zi k4 122880 f4), ((q0 12), zi k11 120 f11), ((q0 22), zi k16 40000 (a15_ 0))] H := hP
      have hD9 : va_D A [(h0, .inr (13, mX13 q0 (upd (upd v0 23 (u15_ 2)) 24 x2))), ((q0 7), zi k6 120 f6), ((q0 11), zi k10 120 f10), ((q0 5), zi k4 122880 f4), ((q0 12), zi k11 120 f11), ((q0 22), zi k16 40000 (a15_ 0))] := hD
      exact W.iret (v := (u15_ 2)) hx hb hr (fun t ht hW => ⟨⟨(u15_ 2), (fun i => ([(u15_ 2), x2] : List (Int32)).getD i 0), rfl, hpost, (fun _ => 0), (fun i => ([(a15_ 0)] : List (Nat → Int32)).getD i (fun _ => 0)), (fun _ => (fun _ => 0)), by rw [ht]; exact hP9, va_K.moved hW.alike hK, hD9⟩, hS.F ht⟩) hS.2.2 dX13_layOut_138
    · skip
      have b_ := zF_ge rfl rfl c_
      refine lv_aload_n hx hb dX13_layOut_24 rfl (lv_at hl 0 rfl) ?_
      refine va_get (D := (dC, dI)) (ci := 13) (v := .ref (q0 7)) (C := RX13) (T := TX13) (N := 75) hx hb hG zuX13 hown hK hP 0 rfl rfl 7 (by decide) (hG _ zv1611) (fun _ h9 => h9) rfl dX13_layOut_25 ?_
      refine lv_iload hx hb dX13_layOut_28 (lv_at hl 4 rfl) ?_
      refine va_zald hx hb hK hP 1 0 rfl rfl (zin_lit ⟨by omega, by omega⟩) dX13_layOut_30 ?_
      refine lv_topi (fun z30 e_z30 => ?_)
      have hke : (f6 ((u15_ 1).toInt).toNat).toInt = z30.toInt := congrArg Int32.toInt e_z30.symm
      have b_ : -2147483648 ≤ z30.toInt ∧ z30.toInt ≤ 2147483647 := ⟨zlo _, zhi _⟩
      refine lv_if_eq (tgt := 44) hx hb dX13_layOut_31 (by decide) (fun c_ => ?_) (fun c_ => ?_)
      · skip
        have b_ := zT_eq rfl zk_0 c_
        refine lv_iconst (v := 0) hx hb dX13_layOut_44 (by decide) ?_
        refine lv_istore (lv' := [(5, .int 0), (0, .ref h0), (1, .int x1), (2, .int x2), (3, .int (u15_ 0)), (4, .int (u15_ 1))]) hx hb dX13_layOut_45 hl (by decide) rfl (fun ls hl => ?_)
        refine lv_iload hx hb dX13_layOut_47 (lv_at hl 0 rfl) ?_
        refine lv_if_ne (tgt := 55) hx hb dX13_layOut_49 (by decide) (fun c_ => absurd c_ (by decide)) (fun c_ => ?_)
        refine lv_goto (tgt := 128) hx hb dX13_layOut_52 (by decide) ?_
        obtain ⟨z128, e_z128⟩ : ∃ z : Int32, z = (u15_ 1) + Int32.ofInt 1 := ⟨_, rfl⟩
        have b_ := zadd (x := (u15_ 1)) (y := Int32.ofInt 1) rfl (show (Int32.ofInt 1).toInt = 1 from by decide) e_z128 (by omega) (by omega)
        refine lv_iinc (v := z128) (lv' := [(4, .int z128), (5, .int 0), (0, .ref h0), (1, .int x1), (2, .int x2), (3, .int (u15_ 0))]) hx hb dX13_layOut_128 hl (k := 5) rfl e_z128.symm (by decide) rfl (fun ls hl => ?_)
        have e9 : (z128.toInt).toNat = ((u15_ 1).toInt).toNat + 1 := by omega
        have hsl : zSl (u15_ 2).toInt (u15_ 0).toInt (zB f4 f6 x1.toInt  (z128.toInt).toNat).1 (zB f4 f6 x1.toInt  (z128.toInt).toNat).2 := by rw [e9]; exact zSl_d hI15_0 (by omega)
        refine lv_goto (tgt := 15) hx hb dX13_layOut_131 (by decide) ?_
        have hc : va_P (dC, dI) vwCl [(h0, .inr (13, mX13 q0 (upd (upd v0 23 (u15_ 2)) 24 x2))), ((q0 7), zi k6 120 f6), ((q0 11), zi k10 120 f10), ((q0 5), zi k4 122880 f4), ((q0 12), zi k11 120 f11), ((q0 22), zi k16 40000 (a15_ 0))] H ∧ va_D A [(h0, .inr (13, mX13 q0 (upd (upd v0 23 (u15_ 2)) 24 x2))), ((q0 7), zi k6 120 f6), ((q0 11), zi k10 120 f10), ((q0 5), zi k4 122880 f4), ((q0 12), zi k11 120 f11), ((q0 22), zi k16 40000 (a15_ 0))] ∧ va_S A s.heap H locs ∧ lv_has ls 8 [(0, .ref h0), (1, .int x1), (2, .int x2), (3, .int (u15_ 0)), (4, .int z128)] ∧ ((-1) ≤ (u15_ 0).toInt ∧ (u15_ 0).toInt ≤ 119) ∧ (0 ≤ z128.toInt ∧ z128.toInt ≤ 120) ∧ (0 ≤ (u15_ 2).toInt ∧ (u15_ 2).toInt ≤ 2600021) ∧ (zSl (u15_ 2).toInt (u15_ 0).toInt (zB f4 f6 x1.toInt  (z128.toInt).toNat).1 (zB f4 f6 x1.toInt  (z128.toInt).toNat).2) ∧ (z128.toInt ≤ (v0 13).toInt) ∧ (x2.toInt = x2.toInt) ∧ (0 ≤ (u15_ 2).toInt) ∧ (-1 ≤ (u15_ 0).toInt ∧ (u15_ 0).toInt < z128.toInt) := ⟨hP, hD, hS, lv_sub hl [2, 3, 4, 5, 0] rfl, (by first | with_reducible assumption | exact ⟨by omega, by omega⟩), (by first | with_reducible assumption | exact ⟨by omega, by omega⟩), (by first | with_reducible assumption | exact ⟨by omega, by omega⟩), by first | exact hsl | (rw [zk_0, zk_m1]; exact ⟨Int.le_refl _, Int.le_refl _, Or.inl rfl⟩), by omega, by omega, by omega, by omega⟩
        exact hJ15 H locs ls (fun i => ([(u15_ 0), z128, (u15_ 2)] : List (Int32)).getD i 0) (fun _ => 0) (fun i => ([(a15_ 0)] : List (Nat → Int32)).getD i (fun _ => 0)) (fun _ => (fun _ => 0)) hc (show (120 - z128.toInt).toNat < (120 - (u15_ 1).toInt).toNat from by omega)
      · skip
        have b_ := zF_eq rfl zk_0 c_
        refine lv_aload_n hx hb dX13_layOut_34 rfl (lv_at hl 0 rfl) ?_
        refine lv_iload hx hb dX13_layOut_35 (lv_at hl 4 rfl) ?_
        refine lv_iload_n hx hb dX13_layOut_37 rfl (lv_at hl 1 rfl) ?_
        have hPc := hP.sub (ws' := [(h0, .inr (13, mX13 q0 (upd (upd v0 23 (u15_ 2)) 24 x2))), ((q0 11), zi k10 120 f10), ((q0 5), zi k4 122880 f4), ((q0 12), zi k11 120 f11)]) [0, 2, 3, 4] rfl
        have hDc := hD.sub (ws' := [(h0, .inr (13, mX13 q0 (upd (upd v0 23 (u15_ 2)) 24 x2))), ((q0 11), zi k10 120 f10), ((q0 5), zi k4 122880 f4), ((q0 12), zi k11 120 f11)]) [0, 2, 3, 4] (by decide) rfl
        have hKc := hK.sub (tys' := [(k10, .int), (k4, .short), (k11, .int)]) [1, 2, 3] rfl
        have hFc := va_free (wc := [(h0, .inr (13, mX13 q0 (upd (upd v0 23 (u15_ 2)) 24 x2))), ((q0 11), zi k10 120 f10), ((q0 5), zi k4 122880 f4), ((q0 12), zi k11 120 f11)]) hD hS hA [0, 2, 3, 4] rfl
        refine va_calli (va_runV (As := [.int (u15_ 1), .int x1]) (rest := []) ⟨hx, hb, hml, hown, hG⟩ (sX13_timesOf_0 l dC dI adK adV h0 q0 k10 k4 k11 H.size (upd (upd v0 23 (u15_ 2)) 24 x2) f10 f4 f11 (u15_ 1) x1 (zR_up2 (zR_updF hv0 23 rfl) 24 (show (0 : Int) ≤ (x2 : Int32).toInt ∧ (x2 : Int32).toInt ≤ (1 : Int) from (by first | with_reducible assumption | exact ⟨by omega, by omega⟩))) hf10 hf4 hf11 (show (0 : Int) ≤ ((u15_ 1) : Int32).toInt ∧ ((u15_ 1) : Int32).toInt ≤ (119 : Int) from (by first | with_reducible assumption | exact ⟨by omega, by omega⟩)) (show (0 : Int) ≤ (x1 : Int32).toInt ∧ (x1 : Int32).toInt ≤ (399 : Int) from (by first | with_reducible assumption | exact ⟨by omega, by omega⟩))) (cwV 2 hG (zgV zv1979 zv1981 zv71 zv142 zv1982) rfl rfl rfl (by decide +kernel) ⟨Nat.le_of_ble_eq_true rfl, Nat.le_of_ble_eq_true rfl⟩) ⟨zPc_blind, va_recv hKc hPc (ci := 13) (q0 := 0) rfl rfl, zPc_pre hPc hKc hDc hE hS hFc hZ⟩ rfl rfl hl.1 rfl (lv_room (Nat.le_of_ble_eq_true rfl)) dX13_layOut_38 ⟨Nat.le_of_ble_eq_true rfl, Nat.le_of_ble_eq_true rfl⟩) hS (fun q _ h => hFc q h) hFc (fun r38_ u38_ t H1 locs ht hvm hw hB hz1 hk1 hS => ?_)
        replace hw : (0 ≤ r38_.toInt ∧ r38_.toInt ≤ 1024) ∧ (r38_.toInt ≤ (zp f4 (u15_ 1).toInt x1.toInt 1024).1) := hw
        obtain ⟨b_, hX38_0⟩ := hw
        obtain ⟨w38_, a38_, b38_, hP1, hK1, hD1⟩ := hB
        rw [ht] at hP1
        obtain ⟨hP, hD⟩ := va_join (wr := [((q0 7), zi k6 120 f6), ((q0 22), zi k16 40000 (a15_ 0))]) (w1 := [(h0, .inr (13, mX13 q0 (upd (upd v0 23 (u15_ 2)) 24 x2))), ((q0 11), zi k10 120 f10), ((q0 5), zi k4 122880 f4), ((q0 12), zi k11 120 f11)]) hP hD [0, 2, 3, 4] [1, 5] rfl rfl (by decide) (by decide) hk1 hFc hP1 hD1
        have hP : va_P (dC, dI) vwCl [(h0, .inr (13, mX13 q0 (upd (upd v0 23 (u15_ 2)) 24 x2))), ((q0 7), zi k6 120 f6), ((q0 11), zi k10 120 f10), ((q0 5), zi k4 122880 f4), ((q0 12), zi k11 120 f11), ((q0 22), zi k16 40000 (a15_ 0))] H1 := hP.sub [2, 0, 3, 4, 5, 1] rfl
        have hD : va_D A [(h0, .inr (13, mX13 q0 (upd (upd v0 23 (u15_ 2)) 24 x2))), ((q0 7), zi k6 120 f6), ((q0 11), zi k10 120 f10), ((q0 5), zi k4 122880 f4), ((q0 12), zi k11 120 f11), ((q0 22), zi k16 40000 (a15_ 0))] := hD.sub [2, 0, 3, 4, 5, 1] (by decide) rfl
        generalize H1 = H at hP hS ⊢
        clear hz1
        refine lv_goto (tgt := 45) hx hb dX13_layOut_41 (by decide) ?_
        refine lv_istore (lv' := [(5, .int r38_), (0, .ref h0), (1, .int x1), (2, .int x2), (3, .int (u15_ 0)), (4, .int (u15_ 1))]) hx hb dX13_layOut_45 hl (by decide) rfl (fun ls hl => ?_)
        refine lv_iload hx hb dX13_layOut_47 (lv_at hl 0 rfl) ?_
        refine lv_if_ne (tgt := 55) hx hb dX13_layOut_49 (by decide) (fun c_ => ?_) (fun c_ => ?_)
        · skip
          have b_ := zT_ne rfl zk_0 c_
          have hst9 := zSl_t (m := r38_.toInt) hI15_0 (by omega) (by omega) (by rw [hke]; omega) (by omega) hX38_0
          have hmo : (zB f4 f6 x1.toInt (((u15_ 1).toInt).toNat + 1)).1 ≤ (zB f4 f6 x1.toInt ((v0 13).toInt).toNat).1 := zB_mono (by omega) (by omega)
          have hbb := zB_b (ta := f4) (ke := f6) (w := x1.toInt) (n := ((v0 13).toInt).toNat) (by omega)
          have hpb := zp_b (ta := f4) (d := (u15_ 1).toInt) (w := x1.toInt) (k := 1024) (Nat.le_refl _)
          have hg1 := zgam_1 (x := r38_.toInt) (by omega)
          have hg2 := zgam_1 (x := (u15_ 1).toInt - (u15_ 0).toInt) (by omega)
          have htb := hst9.2
          refine lv_aload_n hx hb dX13_layOut_55 rfl (lv_at hl 1 rfl) ?_
          refine lv_iload hx hb dX13_layOut_56 (lv_at hl 5 rfl) ?_
          refine lv_iload_n hx hb dX13_layOut_58 rfl (lv_at hl 4 rfl) ?_
          refine lv_isub hx hb dX13_layOut_59 ?_
          refine lv_topi (fun z59 e_z59 => ?_)
          have b_ := zsub rfl rfl e_z59 (by omega) (by omega)
          have b_ : zgam z59.toInt = zgam ((u15_ 1).toInt - (u15_ 0).toInt) := by rw [show z59.toInt = (u15_ 1).toInt - (u15_ 0).toInt from by omega]
          have hPc := hP.sub (ws' := [(h0, .inr (13, mX13 q0 (upd (upd v0 23 (u15_ 2)) 24 x2))), ((q0 22), zi k16 40000 (a15_ 0))]) [0, 5] rfl
          have hDc := hD.sub (ws' := [(h0, .inr (13, mX13 q0 (upd (upd v0 23 (u15_ 2)) 24 x2))), ((q0 22), zi k16 40000 (a15_ 0))]) [0, 5] (by decide) rfl
          have hKc := hK.sub (tys' := [(k16, .byte)]) [4] rfl
          have hFc := va_free (wc := [(h0, .inr (13, mX13 q0 (upd (upd v0 23 (u15_ 2)) 24 x2))), ((q0 22), zi k16 40000 (a15_ 0))]) hD hS hA [0, 5] rfl
          refine va_callv (va_runV (As := [.int z59]) (rest := []) ⟨hx, hb, hml, hown, hG⟩ (sX13_put_0 l dC dI adK adV h0 q0 k16 H.size (upd (upd v0 23 (u15_ 2)) 24 x2) (a15_ 0) z59 (zR_up2 (zR_updF hv0 23 rfl) 24 (show (0 : Int) ≤ (x2 : Int32).toInt ∧ (x2 : Int32).toInt ≤ (1 : Int) from (by first | with_reducible assumption | exact ⟨by omega, by omega⟩))) (show (1 : Int) ≤ (z59 : Int32).toInt ∧ (z59 : Int32).toInt ≤ (1200 : Int) from (by first | with_reducible assumption | exact ⟨by omega, by omega⟩)) (show x2.toInt = 1 → (u15_ 2).toInt + zgam z59.toInt ≤ 40000 from by omega) (show 0 ≤ (u15_ 2).toInt ∧ (u15_ 2).toInt ≤ 2600000 from by omega)) (cwV 1 hG (zgV zv1995 zv1997 zv74 zv142 zv1998) rfl rfl rfl (by decide +kernel) ⟨Nat.le_of_ble_eq_true rfl, Nat.le_of_ble_eq_true rfl⟩) ⟨zPc_blind, va_recv hKc hPc (ci := 13) (q0 := 0) rfl rfl, zPc_pre hPc hKc hDc hE hS hFc hZ⟩ rfl rfl hl.1 rfl (lv_room (Nat.le_of_ble_eq_true rfl)) dX13_layOut_60 ⟨Nat.le_of_ble_eq_true rfl, Nat.le_of_ble_eq_true rfl⟩) hS (fun q _ h => hFc q h) hFc (fun u60_ t H1 locs ht hvm hw hB hz1 hk1 hS => ?_)
          replace hw : (1 ≤ (u60_ 0).toInt ∧ (u60_ 0).toInt ≤ 2600021) ∧ ((u60_ 0).toInt = (u15_ 2).toInt + zgam z59.toInt) := hw
          obtain ⟨b_, hX60_0⟩ := hw
          obtain ⟨w60_, a60_, b60_, hP1, hK1, hD1⟩ := hB
          rw [ht] at hP1
          obtain ⟨hP, hD⟩ := va_join (wr := [((q0 7), zi k6 120 f6), ((q0 11), zi k10 120 f10), ((q0 5), zi k4 122880 f4), ((q0 12), zi k11 120 f11)]) (w1 := [(h0, .inr (13, mX13 q0 (upd (upd v0 23 (u60_ 0)) 24 x2))), ((q0 22), zi k16 40000 (a60_ 0))]) hP hD [0, 5] [1, 2, 3, 4] rfl rfl (by decide) (by decide) hk1 hFc hP1 hD1
          have hP : va_P (dC, dI) vwCl [(h0, .inr (13, mX13 q0 (upd (upd v0 23 (u60_ 0)) 24 x2))), ((q0 7), zi k6 120 f6), ((q0 11), zi k10 120 f10), ((q0 5), zi k4 122880 f4), ((q0 12), zi k11 120 f11), ((q0 22), zi k16 40000 (a60_ 0))] H1 := hP.sub [4, 0, 1, 2, 3, 5] rfl
          have hD : va_D A [(h0, .inr (13, mX13 q0 (upd (upd v0 23 (u60_ 0)) 24 x2))), ((q0 7), zi k6 120 f6), ((q0 11), zi k10 120 f10), ((q0 5), zi k4 122880 f4), ((q0 12), zi k11 120 f11), ((q0 22), zi k16 40000 (a60_ 0))] := hD.sub [4, 0, 1, 2, 3, 5] (by decide) rfl
          generalize H1 = H at hP hS ⊢
          clear hz1
          refine lv_iload hx hb dX13_layOut_63 (lv_at hl 5 rfl) ?_
          refine lv_istore_n (lv' := [(3, .int (u15_ 1)), (5, .int r38_), (0, .ref h0), (1, .int x1), (2, .int x2), (4, .int (u15_ 1))]) hx hb dX13_layOut_65 rfl hl (by decide) rfl (fun ls hl => ?_)
          refine lv_aload_n hx hb dX13_layOut_66 rfl (lv_at hl 2 rfl) ?_
          refine lv_iload hx hb dX13_layOut_67 (lv_at hl 1 rfl) ?_
          have hPc := hP.sub (ws' := [(h0, .inr (13, mX13 q0 (upd (upd v0 23 (u60_ 0)) 24 x2))), ((q0 22), zi k16 40000 (a60_ 0))]) [0, 5] rfl
          have hDc := hD.sub (ws' := [(h0, .inr (13, mX13 q0 (upd (upd v0 23 (u60_ 0)) 24 x2))), ((q0 22), zi k16 40000 (a60_ 0))]) [0, 5] (by decide) rfl
          have hKc := hK.sub (tys' := [(k16, .byte)]) [4] rfl
          have hFc := va_free (wc := [(h0, .inr (13, mX13 q0 (upd (upd v0 23 (u60_ 0)) 24 x2))), ((q0 22), zi k16 40000 (a60_ 0))]) hD hS hA [0, 5] rfl
          refine va_callv (va_runV (As := [.int r38_]) (rest := []) ⟨hx, hb, hml, hown, hG⟩ (sX13_put_0 l dC dI adK adV h0 q0 k16 H.size (upd (upd v0 23 (u60_ 0)) 24 x2) (a60_ 0) r38_ (zR_up2 (zR_updF hv0 23 rfl) 24 (show (0 : Int) ≤ (x2 : Int32).toInt ∧ (x2 : Int32).toInt ≤ (1 : Int) from (by first | with_reducible assumption | exact ⟨by omega, by omega⟩))) (show (1 : Int) ≤ (r38_ : Int32).toInt ∧ (r38_ : Int32).toInt ≤ (1200 : Int) from (by first | with_reducible assumption | exact ⟨by omega, by omega⟩)) (show x2.toInt = 1 → (u60_ 0).toInt + zgam r38_.toInt ≤ 40000 from by omega) (show 0 ≤ (u60_ 0).toInt ∧ (u60_ 0).toInt ≤ 2600000 from by omega)) (cwV 1 hG (zgV zv1995 zv1997 zv74 zv142 zv1998) rfl rfl rfl (by decide +kernel) ⟨Nat.le_of_ble_eq_true rfl, Nat.le_of_ble_eq_true rfl⟩) ⟨zPc_blind, va_recv hKc hPc (ci := 13) (q0 := 0) rfl rfl, zPc_pre hPc hKc hDc hE hS hFc hZ⟩ rfl rfl hl.1 rfl (lv_room (Nat.le_of_ble_eq_true rfl)) dX13_layOut_69 ⟨Nat.le_of_ble_eq_true rfl, Nat.le_of_ble_eq_true rfl⟩) hS (fun q _ h => hFc q h) hFc (fun u69_ t H1 locs ht hvm hw hB hz1 hk1 hS => ?_)
          replace hw : (1 ≤ (u69_ 0).toInt ∧ (u69_ 0).toInt ≤ 2600021) ∧ ((u69_ 0).toInt = (u60_ 0).toInt + zgam r38_.toInt) := hw
          obtain ⟨b_, hX69_0⟩ := hw
          obtain ⟨w69_, a69_, b69_, hP1, hK1, hD1⟩ := hB
          rw [ht] at hP1
          obtain ⟨hP, hD⟩ := va_join (wr := [((q0 7), zi k6 120 f6), ((q0 11), zi k10 120 f10), ((q0 5), zi k4 122880 f4), ((q0 12), zi k11 120 f11)]) (w1 := [(h0, .inr (13, mX13 q0 (upd (upd v0 23 (u69_ 0)) 24 x2))), ((q0 22), zi k16 40000 (a69_ 0))]) hP hD [0, 5] [1, 2, 3, 4] rfl rfl (by decide) (by decide) hk1 hFc hP1 hD1
          have hP : va_P (dC, dI) vwCl [(h0, .inr (13, mX13 q0 (upd (upd v0 23 (u69_ 0)) 24 x2))), ((q0 7), zi k6 120 f6), ((q0 11), zi k10 120 f10), ((q0 5), zi k4 122880 f4), ((q0 12), zi k11 120 f11), ((q0 22), zi k16 40000 (a69_ 0))] H1 := hP.sub [4, 0, 1, 2, 3, 5] rfl
          have hD : va_D A [(h0, .inr (13, mX13 q0 (upd (upd v0 23 (u69_ 0)) 24 x2))), ((q0 7), zi k6 120 f6), ((q0 11), zi k10 120 f10), ((q0 5), zi k4 122880 f4), ((q0 12), zi k11 120 f11), ((q0 22), zi k16 40000 (a69_ 0))] := hD.sub [4, 0, 1, 2, 3, 5] (by decide) rfl
          generalize H1 = H at hP hS ⊢
          clear hz1
          refine lv_iconst (v := (-1)) hx hb dX13_layOut_72 (by decide) ?_
          refine lv_istore (lv' := [(6, .int (-1)), (3, .int (u15_ 1)), (5, .int r38_), (0, .ref h0), (1, .int x1), (2, .int x2), (4, .int (u15_ 1))]) hx hb dX13_layOut_73 hl (by decide) rfl (fun ls hl => ?_)
          refine lv_iconst (v := 0) hx hb dX13_layOut_75 (by decide) ?_
          refine lv_istore (lv' := [(7, .int 0), (6, .int (-1)), (3, .int (u15_ 1)), (5, .int r38_), (0, .ref h0), (1, .int x1), (2, .int x2), (4, .int (u15_ 1))]) hx hb dX13_layOut_76 hl (by decide) rfl (fun ls hl => ?_)
          refine zcutL (fun u78_ => (1024 - (u78_ 1).toInt).toNat) (fun H locs ls u78_ w78_ a78_ b78_ => va_P (dC, dI) vwCl [(h0, .inr (13, mX13 q0 (upd (upd v0 23 (u78_ 2)) 24 x2))), ((q0 7), zi k6 120 f6), ((q0 11), zi k10 120 f10), ((q0 5), zi k4 122880 f4), ((q0 12), zi k11 120 f11), ((q0 22), zi k16 40000 (a78_ 0))] H ∧ va_D A [(h0, .inr (13, mX13 q0 (upd (upd v0 23 (u78_ 2)) 24 x2))), ((q0 7), zi k6 120 f6), ((q0 11), zi k10 120 f10), ((q0 5), zi k4 122880 f4), ((q0 12), zi k11 120 f11), ((q0 22), zi k16 40000 (a78_ 0))] ∧ va_S A s.heap H locs ∧ lv_has ls 8 [(0, .ref h0), (1, .int x1), (2, .int x2), (3, .int (u15_ 1)), (4, .int (u15_ 1)), (5, .int r38_), (6, .int (u78_ 0)), (7, .int (u78_ 1))] ∧ ((-1) ≤ (u78_ 0).toInt ∧ (u78_ 0).toInt ≤ 1023) ∧ (0 ≤ (u78_ 1).toInt ∧ (u78_ 1).toInt ≤ 1024) ∧ (1 ≤ (u78_ 2).toInt ∧ (u78_ 2).toInt ≤ 2600021) ∧ ((u78_ 2).toInt = (u69_ 0).toInt + (zp f4 (u15_ 1).toInt x1.toInt ((u78_ 1).toInt).toNat).2.1 ∧ (u78_ 0).toInt = (zp f4 (u15_ 1).toInt x1.toInt ((u78_ 1).toInt).toNat).2.2) ∧ (-1 ≤ (u78_ 0).toInt ∧ (u78_ 0).toInt < (u78_ 1).toInt) ∧ ((u78_ 1).toInt ≤ 1024) ∧ (0 ≤ (u78_ 2).toInt) ∧ (x2.toInt = x2.toInt)) (fun ls u78_ w78_ => F0 m 78 ls []) 0 0 ?_ (fun hJ78 => ?_)
          · skip
            intro H locs ls u78_ w78_ a78_ b78_ hc hJ78
            obtain ⟨hP, hD, hS, hl, b_, b_, b_, hI78_0, b_, b_, b_, b_⟩ := hc
            refine lv_iload hx hb dX13_layOut_78 (lv_at hl 7 rfl) ?_
            refine lv_sipush (v := 1024) hx hb dX13_layOut_80 (by decide) ?_
            refine lv_icmp_ge (tgt := 128) hx hb dX13_layOut_83 (by decide) (fun c_ => ?_) (fun c_ => ?_)
            · skip
              have b_ := zT_ge rfl zk_1024 c_
              obtain ⟨z128, e_z128⟩ : ∃ z : Int32, z = (u15_ 1) + Int32.ofInt 1 := ⟨_, rfl⟩
              have b_ := zadd (x := (u15_ 1)) (y := Int32.ofInt 1) rfl (show (Int32.ofInt 1).toInt = 1 from by decide) e_z128 (by omega) (by omega)
              refine lv_iinc (v := z128) (lv' := [(4, .int z128), (0, .ref h0), (1, .int x1), (2, .int x2), (3, .int (u15_ 1)), (5, .int r38_), (6, .int (u78_ 0)), (7, .int (u78_ 1))]) hx hb dX13_layOut_128 hl (k := 4) rfl e_z128.symm (by decide) rfl (fun ls hl => ?_)
              have e9 : (z128.toInt).toNat = ((u15_ 1).toInt).toNat + 1 := by omega
              have e8 : (u78_ 2).toInt = (u15_ 2).toInt + zgam ((u15_ 1).toInt - (u15_ 0).toInt) + zgam r38_.toInt + (zp f4 (u15_ 1).toInt x1.toInt 1024).2.1 := by have q := hI78_0.1; rw [show ((u78_ 1).toInt).toNat = 1024 from by omega] at q; omega
              have hsl : zSl (u78_ 2).toInt (u15_ 1).toInt (zB f4 f6 x1.toInt  (z128.toInt).toNat).1 (zB f4 f6 x1.toInt  (z128.toInt).toNat).2 := by rw [e9, e8]; exact hst9.1
              refine lv_goto (tgt := 15) hx hb dX13_layOut_131 (by decide) ?_
              have hc : va_P (dC, dI) vwCl [(h0, .inr (13, mX13 q0 (upd (upd v0 23 (u78_ 2)) 24 x2))), ((q0 7), zi k6 120 f6), ((q0 11), zi k10 120 f10), ((q0 5), zi k4 122880 f4), ((q0 12), zi k11 120 f11), ((q0 22), zi k16 40000 (a78_ 0))] H ∧ va_D A [(h0, .inr (13, mX13 q0 (upd (upd v0 23 (u78_ 2)) 24 x2))), ((q0 7), zi k6 120 f6), ((q0 11), zi k10 120 f10), ((q0 5), zi k4 122880 f4), ((q0 12), zi k11 120 f11), ((q0 22), zi k16 40000 (a78_ 0))] ∧ va_S A s.heap H locs ∧ lv_has ls 8 [(0, .ref h0), (1, .int x1), (2, .int x2), (3, .int (u15_ 1)), (4, .int z128)] ∧ ((-1) ≤ (u15_ 1).toInt ∧ (u15_ 1).toInt ≤ 119) ∧ (0 ≤ z128.toInt ∧ z128.toInt ≤ 120) ∧ (0 ≤ (u78_ 2).toInt ∧ (u78_ 2).toInt ≤ 2600021) ∧ (zSl (u78_ 2).toInt (u15_ 1).toInt (zB f4 f6 x1.toInt  (z128.toInt).toNat).1 (zB f4 f6 x1.toInt  (z128.toInt).toNat).2) ∧ (z128.toInt ≤ (v0 13).toInt) ∧ (x2.toInt = x2.toInt) ∧ (0 ≤ (u78_ 2).toInt) ∧ (-1 ≤ (u15_ 1).toInt ∧ (u15_ 1).toInt < z128.toInt) := ⟨hP, hD, hS, lv_sub hl [1, 2, 3, 4, 0] rfl, (by first | with_reducible assumption | exact ⟨by omega, by omega⟩), (by first | with_reducible assumption | exact ⟨by omega, by omega⟩), (by first | with_reducible assumption | exact ⟨by omega, by omega⟩), by first | exact hsl | (rw [zk_0, zk_m1]; exact ⟨Int.le_refl _, Int.le_refl _, Or.inl rfl⟩), by omega, by omega, by omega, by omega⟩
              exact hJ15 H locs ls (fun i => ([(u15_ 1), z128, (u78_ 2)] : List (Int32)).getD i 0) (fun _ => 0) (fun i => ([(a78_ 0)] : List (Nat → Int32)).getD i (fun _ => 0)) (fun _ => (fun _ => 0)) hc (show (120 - z128.toInt).toNat < (120 - (u15_ 1).toInt).toNat from by omega)
            · skip
              have b_ := zF_ge rfl zk_1024 c_
              refine lv_aload_n hx hb dX13_layOut_86 rfl (lv_at hl 0 rfl) ?_
              refine va_get (D := (dC, dI)) (ci := 13) (v := .ref (q0 5)) (C := RX13) (T := TX13) (N := 75) hx hb hG zuX13 hown hK hP 0 rfl rfl 5 (by decide) (hG _ zv1609) (fun _ h9 => h9) rfl dX13_layOut_87 ?_
              refine lv_sipush (v := 1024) hx hb dX13_layOut_90 (by decide) ?_
              refine lv_iload hx hb dX13_layOut_93 (lv_at hl 4 rfl) ?_
              refine lv_imul hx hb dX13_layOut_95 ?_
              refine lv_topi (fun z95 e_z95 => ?_)
              have b_ := zmul zk_1024 rfl e_z95 (by omega) (by omega)
              refine lv_iload hx hb dX13_layOut_96 (lv_at hl 7 rfl) ?_
              refine lv_iadd hx hb dX13_layOut_98 ?_
              refine lv_topi (fun z98 e_z98 => ?_)
              have b_ := zadd rfl rfl e_z98 (by omega) (by omega)
              refine va_sald hx hb hK hP 3 2 rfl rfl (zin_lit ⟨by omega, by omega⟩) dX13_layOut_99 ?_
              refine lv_topi (fun z99 e_z99 => ?_)
              have b_ : 0 ≤ z99.toInt ∧ z99.toInt ≤ 400 := by rw [e_z99]; exact hf4 _
              have hat : (f4 (1024 * (u15_ 1).toInt + (u78_ 1).toInt).toNat).toInt = z99.toInt := congrArg Int32.toInt ((e_z99.trans (zix (by omega))).symm)
              refine lv_iload_n hx hb dX13_layOut_100 rfl (lv_at hl 1 rfl) ?_
              refine lv_iconst (v := 1) hx hb dX13_layOut_101 (by decide) ?_
              refine lv_iadd hx hb dX13_layOut_102 ?_
              refine lv_topi (fun z102 e_z102 => ?_)
              have b_ := zadd rfl zk_1 e_z102 (by omega) (by omega)
              refine lv_icmp_eq (tgt := 109) hx hb dX13_layOut_103 (by decide) (fun c_ => ?_) (fun c_ => ?_)
              · skip
                have b_ := zT_eq rfl rfl c_
                refine lv_aload_n hx hb dX13_layOut_109 rfl (lv_at hl 0 rfl) ?_
                refine lv_iload hx hb dX13_layOut_110 (lv_at hl 7 rfl) ?_
                refine lv_iload hx hb dX13_layOut_112 (lv_at hl 6 rfl) ?_
                refine lv_isub hx hb dX13_layOut_114 ?_
                refine lv_topi (fun z114 e_z114 => ?_)
                have b_ := zsub rfl rfl e_z114 (by omega) (by omega)
                have hst := zpl_y (g := (u78_ 1).toInt) (f' := (u78_ 2).toInt + zgam ((u78_ 1).toInt - (u78_ 0).toInt)) (k' := (u78_ 1).toInt + 1) hI78_0 (by omega) (hat.trans (by omega)) rfl rfl rfl
                have hpm := zp_mono (ta := f4) (d := (u15_ 1).toInt) (w := x1.toInt) (j := ((u78_ 1).toInt + 1).toNat) (k := 1024) (by omega) (Nat.le_refl _)
                have b_ : zgam z114.toInt = zgam ((u78_ 1).toInt - (u78_ 0).toInt) := by rw [show z114.toInt = (u78_ 1).toInt - (u78_ 0).toInt from by omega]
                have b_ := zgam_1 (x := z114.toInt) (by omega)
                have b_ := hst.1
                have hPc := hP.sub (ws' := [(h0, .inr (13, mX13 q0 (upd (upd v0 23 (u78_ 2)) 24 x2))), ((q0 22), zi k16 40000 (a78_ 0))]) [0, 5] rfl
                have hDc := hD.sub (ws' := [(h0, .inr (13, mX13 q0 (upd (upd v0 23 (u78_ 2)) 24 x2))), ((q0 22), zi k16 40000 (a78_ 0))]) [0, 5] (by decide) rfl
                have hKc := hK.sub (tys' := [(k16, .byte)]) [4] rfl
                have hFc := va_free (wc := [(h0, .inr (13, mX13 q0 (upd (upd v0 23 (u78_ 2)) 24 x2))), ((q0 22), zi k16 40000 (a78_ 0))]) hD hS hA [0, 5] rfl
                refine va_callv (va_runV (As := [.int z114]) (rest := []) ⟨hx, hb, hml, hown, hG⟩ (sX13_put_0 l dC dI adK adV h0 q0 k16 H.size (upd (upd v0 23 (u78_ 2)) 24 x2) (a78_ 0) z114 (zR_up2 (zR_updF hv0 23 rfl) 24 (show (0 : Int) ≤ (x2 : Int32).toInt ∧ (x2 : Int32).toInt ≤ (1 : Int) from (by first | with_reducible assumption | exact ⟨by omega, by omega⟩))) (show (1 : Int) ≤ (z114 : Int32).toInt ∧ (z114 : Int32).toInt ≤ (1200 : Int) from (by first | with_reducible assumption | exact ⟨by omega, by omega⟩)) (show x2.toInt = 1 → (u78_ 2).toInt + zgam z114.toInt ≤ 40000 from by omega) (show 0 ≤ (u78_ 2).toInt ∧ (u78_ 2).toInt ≤ 2600000 from by omega)) (cwV 1 hG (zgV zv1995 zv1997 zv74 zv142 zv1998) rfl rfl rfl (by decide +kernel) ⟨Nat.le_of_ble_eq_true rfl, Nat.le_of_ble_eq_true rfl⟩) ⟨zPc_blind, va_recv hKc hPc (ci := 13) (q0 := 0) rfl rfl, zPc_pre hPc hKc hDc hE hS hFc hZ⟩ rfl rfl hl.1 rfl (lv_room (Nat.le_of_ble_eq_true rfl)) dX13_layOut_115 ⟨Nat.le_of_ble_eq_true rfl, Nat.le_of_ble_eq_true rfl⟩) hS (fun q _ h => hFc q h) hFc (fun u115_ t H1 locs ht hvm hw hB hz1 hk1 hS => ?_)
                replace hw : (1 ≤ (u115_ 0).toInt ∧ (u115_ 0).toInt ≤ 2600021) ∧ ((u115_ 0).toInt = (u78_ 2).toInt + zgam z114.toInt) := hw
                obtain ⟨b_, hX115_0⟩ := hw
                obtain ⟨w115_, a115_, b115_, hP1, hK1, hD1⟩ := hB
                rw [ht] at hP1
                obtain ⟨hP, hD⟩ := va_join (wr := [((q0 7), zi k6 120 f6), ((q0 11), zi k10 120 f10), ((q0 5), zi k4 122880 f4), ((q0 12), zi k11 120 f11)]) (w1 := [(h0, .inr (13, mX13 q0 (upd (upd v0 23 (u115_ 0)) 24 x2))), ((q0 22), zi k16 40000 (a115_ 0))]) hP hD [0, 5] [1, 2, 3, 4] rfl rfl (by decide) (by decide) hk1 hFc hP1 hD1
                have hP : va_P (dC, dI) vwCl [(h0, .inr (13, mX13 q0 (upd (upd v0 23 (u115_ 0)) 24 x2))), ((q0 7), zi k6 120 f6), ((q0 11), zi k10 120 f10), ((q0 5), zi k4 122880 f4), ((q0 12), zi k11 120 f11), ((q0 22), zi k16 40000 (a115_ 0))] H1 := hP.sub [4, 0, 1, 2, 3, 5] rfl
                have hD : va_D A [(h0, .inr (13, mX13 q0 (upd (upd v0 23 (u115_ 0)) 24 x2))), ((q0 7), zi k6 120 f6), ((q0 11), zi k10 120 f10), ((q0 5), zi k4 122880 f4), ((q0 12), zi k11 120 f11), ((q0 22), zi k16 40000 (a115_ 0))] := hD.sub [4, 0, 1, 2, 3, 5] (by decide) rfl
                generalize H1 = H at hP hS ⊢
                clear hz1
                refine lv_iload hx hb dX13_layOut_118 (lv_at hl 7 rfl) ?_
                refine lv_istore (lv' := [(6, .int (u78_ 1)), (0, .ref h0), (1, .int x1), (2, .int x2), (3, .int (u15_ 1)), (4, .int (u15_ 1)), (5, .int r38_), (7, .int (u78_ 1))]) hx hb dX13_layOut_120 hl (by decide) rfl (fun ls hl => ?_)
                obtain ⟨z122, e_z122⟩ : ∃ z : Int32, z = (u78_ 1) + Int32.ofInt 1 := ⟨_, rfl⟩
                have b_ := zadd (x := (u78_ 1)) (y := Int32.ofInt 1) rfl (show (Int32.ofInt 1).toInt = 1 from by decide) e_z122 (by omega) (by omega)
                refine lv_iinc (v := z122) (lv' := [(7, .int z122), (6, .int (u78_ 1)), (0, .ref h0), (1, .int x1), (2, .int x2), (3, .int (u15_ 1)), (4, .int (u15_ 1)), (5, .int r38_)]) hx hb dX13_layOut_122 hl (k := 7) rfl e_z122.symm (by decide) rfl (fun ls hl => ?_)
                have hpl : (u115_ 0).toInt = (u69_ 0).toInt + (zp f4 (u15_ 1).toInt x1.toInt (z122.toInt).toNat).2.1 ∧ (u78_ 1).toInt = (zp f4 (u15_ 1).toInt x1.toInt (z122.toInt).toNat).2.2 := zpl_y hI78_0 (by omega) (hat.trans (by omega)) (by omega) (by omega) (by omega)
                refine lv_goto (tgt := 78) hx hb dX13_layOut_125 (by decide) ?_
                have hc : va_P (dC, dI) vwCl [(h0, .inr (13, mX13 q0 (upd (upd v0 23 (u115_ 0)) 24 x2))), ((q0 7), zi k6 120 f6), ((q0 11), zi k10 120 f10), ((q0 5), zi k4 122880 f4), ((q0 12), zi k11 120 f11), ((q0 22), zi k16 40000 (a115_ 0))] H ∧ va_D A [(h0, .inr (13, mX13 q0 (upd (upd v0 23 (u115_ 0)) 24 x2))), ((q0 7), zi k6 120 f6), ((q0 11), zi k10 120 f10), ((q0 5), zi k4 122880 f4), ((q0 12), zi k11 120 f11), ((q0 22), zi k16 40000 (a115_ 0))] ∧ va_S A s.heap H locs ∧ lv_has ls 8 [(0, .ref h0), (1, .int x1), (2, .int x2), (3, .int (u15_ 1)), (4, .int (u15_ 1)), (5, .int r38_), (6, .int (u78_ 1)), (7, .int z122)] ∧ ((-1) ≤ (u78_ 1).toInt ∧ (u78_ 1).toInt ≤ 1023) ∧ (0 ≤ z122.toInt ∧ z122.toInt ≤ 1024) ∧ (1 ≤ (u115_ 0).toInt ∧ (u115_ 0).toInt ≤ 2600021) ∧ ((u115_ 0).toInt = (u69_ 0).toInt + (zp f4 (u15_ 1).toInt x1.toInt (z122.toInt).toNat).2.1 ∧ (u78_ 1).toInt = (zp f4 (u15_ 1).toInt x1.toInt (z122.toInt).toNat).2.2) ∧ (-1 ≤ (u78_ 1).toInt ∧ (u78_ 1).toInt < z122.toInt) ∧ (z122.toInt ≤ 1024) ∧ (0 ≤ (u115_ 0).toInt) ∧ (x2.toInt = x2.toInt) := ⟨hP, hD, hS, lv_sub hl [2, 3, 4, 5, 6, 7, 1, 0] rfl, (by first | with_reducible assumption | exact ⟨by omega, by omega⟩), (by first | with_reducible assumption | exact ⟨by omega, by omega⟩), (by first | with_reducible assumption | exact ⟨by omega, by omega⟩), by first | exact hpl | exact zpl_0 (by omega) rfl (by omega), by omega, by omega, by omega, by omega⟩
                exact hJ78 H locs ls (fun i => ([(u78_ 1), z122, (u115_ 0)] : List (Int32)).getD i 0) (fun _ => 0) (fun i => ([(a115_ 0)] : List (Nat → Int32)).getD i (fun _ => 0)) (fun _ => (fun _ => 0)) hc (show (1024 - z122.toInt).toNat < (1024 - (u78_ 1).toInt).toNat from by omega)
              · skip
                have b_ := zF_eq rfl rfl c_
                refine lv_goto (tgt := 122) hx hb dX13_layOut_106 (by decide) ?_
                obtain ⟨z122, e_z122⟩ : ∃ z : Int32, z = (u78_ 1) + Int32.ofInt 1 := ⟨_, rfl⟩
                have b_ := zadd (x := (u78_ 1)) (y := Int32.ofInt 1) rfl (show (Int32.ofInt 1).toInt = 1 from by decide) e_z122 (by omega) (by omega)
                refine lv_iinc (v := z122) (lv' := [(7, .int z122), (0, .ref h0), (1, .int x1), (2, .int x2), (3, .int (u15_ 1)), (4, .int (u15_ 1)), (5, .int r38_), (6, .int (u78_ 0))]) hx hb dX13_layOut_122 hl (k := 7) rfl e_z122.symm (by decide) rfl (fun ls hl => ?_)
                have hpl : (u78_ 2).toInt = (u69_ 0).toInt + (zp f4 (u15_ 1).toInt x1.toInt (z122.toInt).toNat).2.1 ∧ (u78_ 0).toInt = (zp f4 (u15_ 1).toInt x1.toInt (z122.toInt).toNat).2.2 := zpl_n hI78_0 (by omega) (by rw [hat]; omega) (by omega) rfl rfl
                refine lv_goto (tgt := 78) hx hb dX13_layOut_125 (by decide) ?_
                have hc : va_P (dC, dI) vwCl [(h0, .inr (13, mX13 q0 (upd (upd v0 23 (u78_ 2)) 24 x2))), ((q0 7), zi k6 120 f6), ((q0 11), zi k10 120 f10), ((q0 5), zi k4 122880 f4), ((q0 12), zi k11 120 f11), ((q0 22), zi k16 40000 (a78_ 0))] H ∧ va_D A [(h0, .inr (13, mX13 q0 (upd (upd v0 23 (u78_ 2)) 24 x2))), ((q0 7), zi k6 120 f6), ((q0 11), zi k10 120 f10), ((q0 5), zi k4 122880 f4), ((q0 12), zi k11 120 f11), ((q0 22), zi k16 40000 (a78_ 0))] ∧ va_S A s.heap H locs ∧ lv_has ls 8 [(0, .ref h0), (1, .int x1), (2, .int x2), (3, .int (u15_ 1)), (4, .int (u15_ 1)), (5, .int r38_), (6, .int (u78_ 0)), (7, .int z122)] ∧ ((-1) ≤ (u78_ 0).toInt ∧ (u78_ 0).toInt ≤ 1023) ∧ (0 ≤ z122.toInt ∧ z122.toInt ≤ 1024) ∧ (1 ≤ (u78_ 2).toInt ∧ (u78_ 2).toInt ≤ 2600021) ∧ ((u78_ 2).toInt = (u69_ 0).toInt + (zp f4 (u15_ 1).toInt x1.toInt (z122.toInt).toNat).2.1 ∧ (u78_ 0).toInt = (zp f4 (u15_ 1).toInt x1.toInt (z122.toInt).toNat).2.2) ∧ (-1 ≤ (u78_ 0).toInt ∧ (u78_ 0).toInt < z122.toInt) ∧ (z122.toInt ≤ 1024) ∧ (0 ≤ (u78_ 2).toInt) ∧ (x2.toInt = x2.toInt) := ⟨hP, hD, hS, lv_sub hl [1, 2, 3, 4, 5, 6, 7, 0] rfl, (by first | with_reducible assumption | exact ⟨by omega, by omega⟩), (by first | with_reducible assumption | exact ⟨by omega, by omega⟩), (by first | with_reducible assumption | exact ⟨by omega, by omega⟩), by first | exact hpl | exact zpl_0 (by omega) rfl (by omega), by omega, by omega, by omega, by omega⟩
                exact hJ78 H locs ls (fun i => ([(u78_ 0), z122, (u78_ 2)] : List (Int32)).getD i 0) (fun _ => 0) (fun i => ([(a78_ 0)] : List (Nat → Int32)).getD i (fun _ => 0)) (fun _ => (fun _ => 0)) hc (show (1024 - z122.toInt).toNat < (1024 - (u78_ 1).toInt).toNat from by omega)
          · skip
            have hc : va_P (dC, dI) vwCl [(h0, .inr (13, mX13 q0 (upd (upd v0 23 (u69_ 0)) 24 x2))), ((q0 7), zi k6 120 f6), ((q0 11), zi k10 120 f10), ((q0 5), zi k4 122880 f4), ((q0 12), zi k11 120 f11), ((q0 22), zi k16 40000 (a69_ 0))] H ∧ va_D A [(h0, .inr (13, mX13 q0 (upd (upd v0 23 (u69_ 0)) 24 x2))), ((q0 7), zi k6 120 f6), ((q0 11), zi k10 120 f10), ((q0 5), zi k4 122880 f4), ((q0 12), zi k11 120 f11), ((q0 22), zi k16 40000 (a69_ 0))] ∧ va_S A s.heap H locs ∧ lv_has ls 8 [(0, .ref h0), (1, .int x1), (2, .int x2), (3, .int (u15_ 1)), (4, .int (u15_ 1)), (5, .int r38_), (6, .int (-1)), (7, .int 0)] ∧ ((-1) ≤ ((-1) : Int32).toInt ∧ ((-1) : Int32).toInt ≤ 1023) ∧ (0 ≤ (0 : Int32).toInt ∧ (0 : Int32).toInt ≤ 1024) ∧ (1 ≤ (u69_ 0).toInt ∧ (u69_ 0).toInt ≤ 2600021) ∧ ((u69_ 0).toInt = (u69_ 0).toInt + (zp f4 (u15_ 1).toInt x1.toInt ((0 : Int32).toInt).toNat).2.1 ∧ ((-1) : Int32).toInt = (zp f4 (u15_ 1).toInt x1.toInt ((0 : Int32).toInt).toNat).2.2) ∧ (-1 ≤ ((-1) : Int32).toInt ∧ ((-1) : Int32).toInt < (0 : Int32).toInt) ∧ ((0 : Int32).toInt ≤ 1024) ∧ (0 ≤ (u69_ 0).toInt) ∧ (x2.toInt = x2.toInt) := ⟨hP, hD, hS, lv_sub hl [4, 5, 6, 2, 7, 3, 1, 0] rfl, (by first | with_reducible assumption | exact ⟨by omega, by omega⟩), (by first | with_reducible assumption | exact ⟨by omega, by omega⟩), (by first | with_reducible assumption | exact ⟨by omega, by omega⟩), by first | exact hpl | exact zpl_0 (by omega) rfl (by omega), by omega, by omega, by omega, by omega⟩
            exact hJ78 H locs ls (fun i => ([(-1), 0, (u69_ 0)] : List (Int32)).getD i 0) (fun _ => 0) (fun i => ([(a69_ 0)] : List (Nat → Int32)).getD i (fun _ => 0)) (fun _ => (fun _ => 0)) hc
        · skip
          have b_ := zF_ne rfl zk_0 c_
          refine lv_goto (tgt := 128) hx hb dX13_layOut_52 (by decide) ?_
          obtain ⟨z128, e_z128⟩ : ∃ z : Int32, z = (u15_ 1) + Int32.ofInt 1 := ⟨_, rfl⟩
          have b_ := zadd (x := (u15_ 1)) (y := Int32.ofInt 1) rfl (show (Int32.ofInt 1).toInt = 1 from by decide) e_z128 (by omega) (by omega)
          refine lv_iinc (v := z128) (lv' := [(4, .int z128), (5, .int r38_), (0, .ref h0), (1, .int x1), (2, .int x2), (3, .int (u15_ 0))]) hx hb dX13_layOut_128 hl (k := 5) rfl e_z128.symm (by decide) rfl (fun ls hl => ?_)
          have e9 : (z128.toInt).toNat = ((u15_ 1).toInt).toNat + 1 := by omega
          have hsl : zSl (u15_ 2).toInt (u15_ 0).toInt (zB f4 f6 x1.toInt  (z128.toInt).toNat).1 (zB f4 f6 x1.toInt  (z128.toInt).toNat).2 := by rw [e9]; exact zSl_d hI15_0 (by omega)
          refine lv_goto (tgt := 15) hx hb dX13_layOut_131 (by decide) ?_
          have hc : va_P (dC, dI) vwCl [(h0, .inr (13, mX13 q0 (upd (upd v0 23 (u15_ 2)) 24 x2))), ((q0 7), zi k6 120 f6), ((q0 11), zi k10 120 f10), ((q0 5), zi k4 122880 f4), ((q0 12), zi k11 120 f11), ((q0 22), zi k16 40000 (a15_ 0))] H ∧ va_D A [(h0, .inr (13, mX13 q0 (upd (upd v0 23 (u15_ 2)) 24 x2))), ((q0 7), zi k6 120 f6), ((q0 11), zi k10 120 f10), ((q0 5), zi k4 122880 f4), ((q0 12), zi k11 120 f11), ((q0 22), zi k16 40000 (a15_ 0))] ∧ va_S A s.heap H locs ∧ lv_has ls 8 [(0, .ref h0), (1, .int x1), (2, .int x2), (3, .int (u15_ 0)), (4, .int z128)] ∧ ((-1) ≤ (u15_ 0).toInt ∧ (u15_ 0).toInt ≤ 119) ∧ (0 ≤ z128.toInt ∧ z128.toInt ≤ 120) ∧ (0 ≤ (u15_ 2).toInt ∧ (u15_ 2).toInt ≤ 2600021) ∧ (zSl (u15_ 2).toInt (u15_ 0).toInt (zB f4 f6 x1.toInt  (z128.toInt).toNat).1 (zB f4 f6 x1.toInt  (z128.toInt).toNat).2) ∧ (z128.toInt ≤ (v0 13).toInt) ∧ (x2.toInt = x2.toInt) ∧ (0 ≤ (u15_ 2).toInt) ∧ (-1 ≤ (u15_ 0).toInt ∧ (u15_ 0).toInt < z128.toInt) := ⟨hP, hD, hS, lv_sub hl [2, 3, 4, 5, 0] rfl, (by first | with_reducible assumption | exact ⟨by omega, by omega⟩), (by first | with_reducible assumption | exact ⟨by omega, by omega⟩), (by first | with_reducible assumption | exact ⟨by omega, by omega⟩), by first | exact hsl | (rw [zk_0, zk_m1]; exact ⟨Int.le_refl _, Int.le_refl _, Or.inl rfl⟩), by omega, by omega, by omega, by omega⟩
          exact hJ15 H locs ls (fun i => ([(u15_ 0), z128, (u15_ 2)] : List (Int32)).getD i 0) (fun _ => 0) (fun i => ([(a15_ 0)] : List (Nat → Int32)).getD i (fun _ => 0)) (fun _ => (fun _ => 0)) hc (show (120 - z128.toInt).toNat < (120 - (u15_ 1).toInt).toNat from by omega)
  · skip
    have hc : va_P (dC, dI) vwCl [(h0, .inr (13, mX13 q0 (upd (upd v0 23 0) 24 x2))), ((q0 7), zi k6 120 f6), ((q0 11), zi k10 120 f10), ((q0 5), zi k4 122880 f4), ((q0 12), zi k11 120 f11), ((q0 22), zi k16 40000 f16)] H ∧ va_D A [(h0, .inr (13, mX13 q0 (upd (upd v0 23 0) 24 x2))), ((q0 7), zi k6 120 f6), ((q0 11), zi k10 120 f10), ((q0 5), zi k4 122880 f4), ((q0 12), zi k11 120 f11), ((q0 22), zi k16 40000 f16)] ∧ va_S A s.heap H locs ∧ lv_has ls 8 [(0, .ref h0), (1, .int x1), (2, .int x2), (3, .int (-1)), (4, .int 0)] ∧ ((-1) ≤ ((-1) : Int32).toInt ∧ ((-1) : Int32).toInt ≤ 119) ∧ (0 ≤ (0 : Int32).toInt ∧ (0 : Int32).toInt ≤ 120) ∧ (0 ≤ (0 : Int32).toInt ∧ (0 : Int32).toInt ≤ 2600021) ∧ (zSl (0 : Int32).toInt ((-1) : Int32).toInt (zB f4 f6 x1.toInt  ((0 : Int32).toInt).toNat).1 (zB f4 f6 x1.toInt  ((0 : Int32).toInt).toNat).2) ∧ ((0 : Int32).toInt ≤ (v0 13).toInt) ∧ (x2.toInt = x2.toInt) ∧ (0 ≤ (0 : Int32).toInt) ∧ (-1 ≤ ((-1) : Int32).toInt ∧ ((-1) : Int32).toInt < (0 : Int32).toInt) := ⟨hP, hD, hS, lv_sub hl [2, 3, 4, 1, 0] rfl, (by first | with_reducible assumption | exact ⟨by omega, by omega⟩), (by first | with_reducible assumption | exact ⟨by omega, by omega⟩), (by first | with_reducible assumption | exact ⟨by omega, by omega⟩), by first | exact hsl | (rw [zk_0, zk_m1]; exact ⟨Int.le_refl _, Int.le_refl _, Or.inl rfl⟩), by omega, by omega, by omega, by omega⟩
    exact hJ15 H locs ls (fun i => ([(-1), 0, 0] : List (Int32)).getD i 0) (fun _ => 0) (fun i => ([f16] : List (Nat → Int32)).getD i (fun _ => 0)) (fun _ => (fun _ => 0)) hc
set_option maxHeartbeats 8000000 in
set_option maxRecDepth 100000 in
theorem sX13_refuse_0 (l : Launch) (dC : Nat → ClassId) (dI : Nat → Nat → Nat) (adK adV : Nat → Nat) (h0 : Nat) (q0 : Nat → Nat) (sz : Nat) (v0 : Nat → Int32) (hv0 : zR rg_Model v0) : Met l yX13_refuse (zw yX13_refuse cX13_refuse 1 (some .int)) { frames := 0, cells := 0, slots := 0, locals := 0 } (zPc dC dI adK adV [.ref h0] sz [(h0, .inr (13, mX13 q0 v0))] []) (va_Qi (fun (r : Int32) (u : Nat → Int32) => (0 ≤ r.toInt ∧ r.toInt ≤ 0) ∧ (1 ≤ (u 0).toInt ∧ (u 0).toInt ≤ 1)) (fun (u : Nat → Int32) (t : State) => ∃ (ww : Nat → Int64) (aa : Nat → Nat → Int32) (bb : Nat → Nat → Int64), va_P (dC, dI) vwCl [(h0, .inr (13, mX13 q0 (upd v0 21 (u 0))))] t.heap ∧ va_K (dC, dI) vwCl [] t ∧ va_D (va_A [(h0, .inr (13, mX13 q0 v0))] sz) [(h0, .inr (13, mX13 q0 (upd v0 21 (u 0))))]) (va_A [(h0, .inr (13, mX13 q0 v0))] sz)) 0 0 (va_A [(h0, .inr (13, mX13 q0 v0))] sz) := by
  refine Met.ofW (cc := cX13_refuse) (maxL := 1) (ret := (some .int)) (by decide) rfl ?_
  intro p e s m args below meth c s₁ B hml hv
  obtain ⟨rfl, hsz, hP, hK, hD0, hE, hZ⟩ := hv
  have hx := B.exec
  have hb := B.bytes
  have hr := B.returns
  have hG : ∀ w ∈ zG, w.before _ s = true := fun w h => atoms_spec (ws := (zw yX13_refuse cX13_refuse 1 (some .int))) B.pre w (List.mem_cons_of_mem _ h)
  have hown : s.vm.findClass RX13 = some m.cls := findClass_of_methodNamed B.named
  have hlocks := B.notSynchronized

  subst hsz
  have hD := hD0.self (sz := s.heap.size)
  generalize hAe : va_A [(h0, .inr (13, mX13 q0 v0))] s.heap.size = A at hD hZ ⊢
  have hA : ∀ q : Nat, s.heap.size ≤ q → A q := fun q h => by rw [← hAe]; exact Or.inr h
  have hS : va_S A s.heap s.heap [] := va_S.rf
  have hl := lv_entry ([.ref h0]) (n := 1) (Nat.le_of_ble_eq_true rfl)
  rw [lg_entry_eq]
  generalize (lg_sl ([.ref h0]) ++ List.replicate (1 - (lg_sl ([.ref h0])).length) Slot.unset).toArray = ls at hl ⊢
  have hl : lv_has ls 1 [(0, .ref h0)] := hl
  have b_ := zk_0
  have b_ := zk_1
  refine lv_aload_n hx hb dX13_refuse_0 rfl (lv_at hl 0 rfl) ?_
  refine lv_iconst (v := 1) hx hb dX13_refuse_1 (by decide) ?_
  refine va_put (D := (dC, dI)) (ci := 13) (v := .int 1) (ty := .int) (C := RX13) (T := TX13) (N := 75) hx hb hG zuX13 tyX13 tyX13_ok nmX13 hown hK hP hD hS 0 rfl rfl 21 (by decide) (hG _ zv1625) (fun _ h9 => h9) rfl (by decide +kernel) rfl rfl (Nat.le_of_ble_eq_true rfl) dX13_refuse_2 (fun H locs hP hD hS => ?_)
  have hP : va_P (dC, dI) vwCl [(h0, .inr (13, mX13 q0 (upd v0 21 1)))] H := hP
  have hD : va_D A [(h0, .inr (13, mX13 q0 (upd v0 21 1)))] := hD
  refine lv_iconst (v := 0) hx hb dX13_refuse_5 (by decide) ?_
  refine W.widen (k := 0) (n := 0) (by decide) (by decide) ?_
  have hpost : (0 ≤ (0 : Int32).toInt ∧ (0 : Int32).toInt ≤ 0) ∧ (1 ≤ (1 : Int32).toInt ∧ (1 : Int32).toInt ≤ 1) := ⟨(by first | with_reducible assumption | exact ⟨by omega, by omega⟩), (by first | with_reducible assumption | exact ⟨by omega, by omega⟩)⟩
  have hP9 : va_P (dC, dI) vwCl [(h0, .inr (13, mX13 q0 (upd v0 21 1)))] H := hP
  have hD9 : va_D A [(h0, .inr (13, mX13 q0 (upd v0 21 1)))] := hD
  exact W.iret (v := 0) hx hb hr (fun t ht hW => ⟨⟨0, (fun i => ([1] : List (Int32)).getD i 0), rfl, hpost, (fun _ => 0), (fun _ => (fun _ => 0)), (fun _ => (fun _ => 0)), by rw [ht]; exact hP9, va_K.moved hW.alike hK, hD9⟩, hS.F ht⟩) hS.2.2 dX13_refuse_6
set_option maxHeartbeats 8000000 in
set_option maxRecDepth 100000 in
theorem sX13_bit_0 (l : Launch) (dC : Nat → ClassId) (dI : Nat → Nat → Nat) (adK adV : Nat → Nat) (h0 : Nat) (q0 : Nat → Nat) (k14 : ClassId) (k15 : ClassId) (k3 : ClassId) (k2 : ClassId) (k6 : ClassId) (k10 : ClassId) (k4 : ClassId) (k11 : ClassId) (k16 : ClassId) (sz : Nat) (v0 : Nat → Int32) (f14 : Nat → Int32) (f15 : Nat → Int32) (f3 : Nat → Int32) (f2 : Nat → Int32) (f6 : Nat → Int32) (f10 : Nat → Int32) (f4 : Nat → Int32) (f11 : Nat → Int32) (f16 : Nat → Int32) (x1 : Int32) (hv0 : zR rg_Model v0) (hf3 : zA 0 12 f3) (hf10 : zA 0 512 f10) (hf4 : zA 0 400 f4) (hf11 : zA 0 512 f11) (hp0_ : zJ f4 f6 (v0 4).toInt (v0 13).toInt) : Met l yX13_bit (zw yX13_bit cX13_bit 3 (some .int)) { frames := 3, cells := 0, slots := 0, locals := 72 } (zPc dC dI adK adV [.ref h0, .int x1] sz [(h0, .inr (13, mX13 q0 v0)), ((q0 17), zi k14 12 f14), ((q0 19), zi k15 12 f15), ((q0 3), zi k3 400 f3), ((q0 2), zi k2 4800 f2), ((q0 7), zi k6 120 f6), ((q0 11), zi k10 120 f10), ((q0 5), zi k4 122880 f4), ((q0 12), zi k11 120 f11), ((q0 22), zi k16 40000 f16)] [(k14, .byte), (k15, .byte), (k3, .int), (k2, .byte), (k6, .boolean), (k10, .int), (k4, .short), (k11, .int), (k16, .byte)]) (va_Qi (fun (r : Int32) (u : Nat → Int32) => (0 ≤ (u 0).toInt ∧ (u 0).toInt ≤ 12) ∧ (0 ≤ (u 1).toInt ∧ (u 1).toInt ≤ 1) ∧ (0 ≤ (u 3).toInt ∧ (u 3).toInt ≤ 1)) (fun (u : Nat → Int32) (t : State) => ∃ (ww : Nat → Int64) (aa : Nat → Nat → Int32) (bb : Nat → Nat → Int64), va_P (dC, dI) vwCl [(h0, .inr (13, mX13 q0 (upd (upd (upd (upd v0 20 (u 0)) 21 (u 1)) 23 (u 2)) 24 (u 3)))), ((q0 17), zi k14 12 f14), ((q0 19), zi k15 12 (aa 0)), ((q0 3), zi k3 400 f3), ((q0 2), zi k2 4800 f2), ((q0 7), zi k6 120 f6), ((q0 11), zi k10 120 f10), ((q0 5), zi k4 122880 f4), ((q0 12), zi k11 120 f11), ((q0 22), zi k16 40000 (aa 1))] t.heap ∧ va_K (dC, dI) vwCl [(k14, .byte), (k15, .byte), (k3, .int), (k2, .byte), (k6, .boolean), (k10, .int), (k4, .short), (k11, .int), (k16, .byte)] t ∧ va_D (va_A [(h0, .inr (13, mX13 q0 v0)), ((q0 17), zi k14 12 f14), ((q0 19), zi k15 12 f15), ((q0 3), zi k3 400 f3), ((q0 2), zi k2 4800 f2), ((q0 7), zi k6 120 f6), ((q0 11), zi k10 120 f10), ((q0 5), zi k4 122880 f4), ((q0 12), zi k11 120 f11), ((q0 22), zi k16 40000 f16)] sz) [(h0, .inr (13, mX13 q0 (upd (upd (upd (upd v0 20 (u 0)) 21 (u 1)) 23 (u 2)) 24 (u 3)))), ((q0 17), zi k14 12 f14), ((q0 19), zi k15 12 (aa 0)), ((q0 3), zi k3 400 f3), ((q0 2), zi k2 4800 f2), ((q0 7), zi k6 120 f6), ((q0 11), zi k10 120 f10), ((q0 5), zi k4 122880 f4), ((q0 12), zi k11 120 f11), ((q0 22), zi k16 40000 (aa 1))]) (va_A [(h0, .inr (13, mX13 q0 v0)), ((q0 17), zi k14 12 f14), ((q0 19), zi k15 12 f15), ((q0 3), zi k3 400 f3), ((q0 2), zi k2 4800 f2), ((q0 7), zi k6 120 f6), ((q0 11), zi k10 120 f10), ((q0 5), zi k4 122880 f4), ((q0 12), zi k11 120 f11), ((q0 22), zi k16 40000 f16)] sz)) 0 0 (va_A [(h0, .inr (13, mX13 q0 v0)), ((q0 17), zi k14 12 f14), ((q0 19), zi k15 12 f15), ((q0 3), zi k3 400 f3), ((q0 2), zi k2 4800 f2), ((q0 7), zi k6 120 f6), ((q0 11), zi k10 120 f10), ((q0 5), zi k4 122880 f4), ((q0 12), zi k11 120 f11), ((q0 22), zi k16 40000 f16)] sz) := by
  refine Met.ofW (cc := cX13_bit) (maxL := 3) (ret := (some .int)) (by decide) rfl ?_
  intro p e s m args below meth c s₁ B hml hv
  obtain ⟨rfl, hsz, hP, hK, hD0, hE, hZ⟩ := hv
  have hx := B.exec
  have hb := B.bytes
  have hr := B.returns
  have hG : ∀ w ∈ zG, w.before _ s = true := fun w h => atoms_spec (ws := (zw yX13_bit cX13_bit 3 (some .int))) B.pre w (List.mem_cons_of_mem _ h)
  have hown : s.vm.findClass RX13 = some m.cls := findClass_of_methodNamed B.named
  have hlocks := B.notSynchronized

  subst hsz
  have hD := hD0.self (sz := s.heap.size)
  generalize hAe : va_A [(h0, .inr (13, mX13 q0 v0)), ((q0 17), zi k14 12 f14), ((q0 19), zi k15 12 f15), ((q0 3), zi k3 400 f3), ((q0 2), zi k2 4800 f2), ((q0 7), zi k6 120 f6), ((q0 11), zi k10 120 f10), ((q0 5), zi k4 122880 f4), ((q0 12), zi k11 120 f11), ((q0 22), zi k16 40000 f16)] s.heap.size = A at hD hZ ⊢
  have hA : ∀ q : Nat, s.heap.size ≤ q → A q := fun q h => by rw [← hAe]; exact Or.inr h
  have hS : va_S A s.heap s.heap [] := va_S.rf
  have hl := lv_entry ([.ref h0, .int x1]) (n := 3) (Nat.le_of_ble_eq_true rfl)
  rw [lg_entry_eq]
  generalize (lg_sl ([.ref h0, .int x1]) ++ List.replicate (3 - (lg_sl ([.ref h0, .int x1])).length) Slot.unset).toArray = ls at hl ⊢
  have hl : lv_has ls 3 [(0, .ref h0), (1, .int x1)] := hl
  have b_ := zk_0
  have b_ := zk_1
  have b_ : 0 ≤ (v0 4).toInt ∧ (v0 4).toInt ≤ 400 := hv0 4
  have b_ : 0 ≤ (v0 13).toInt ∧ (v0 13).toInt ≤ 120 := hv0 13
  refine lv_aload_n hx hb dX13_bit_0 rfl (lv_at hl 0 rfl) ?_
  refine lv_iconst (v := 0) hx hb dX13_bit_1 (by decide) ?_
  refine va_put (D := (dC, dI)) (ci := 13) (v := .int 0) (ty := .int) (C := RX13) (T := TX13) (N := 75) hx hb hG zuX13 tyX13 tyX13_ok nmX13 hown hK hP hD hS 0 rfl rfl 21 (by decide) (hG _ zv1625) (fun _ h9 => h9) rfl (by decide +kernel) rfl rfl (Nat.le_of_ble_eq_true rfl) dX13_bit_2 (fun H locs hP hD hS => ?_)
  have hP : va_P (dC, dI) vwCl [(h0, .inr (13, mX13 q0 (upd v0 21 0))), ((q0 17), zi k14 12 f14), ((q0 19), zi k15 12 f15), ((q0 3), zi k3 400 f3), ((q0 2), zi k2 4800 f2), ((q0 7), zi k6 120 f6), ((q0 11), zi k10 120 f10), ((q0 5), zi k4 122880 f4), ((q0 12), zi k11 120 f11), ((q0 22), zi k16 40000 f16)] H := hP
  have hD : va_D A [(h0, .inr (13, mX13 q0 (upd v0 21 0))), ((q0 17), zi k14 12 f14), ((q0 19), zi k15 12 f15), ((q0 3), zi k3 400 f3), ((q0 2), zi k2 4800 f2), ((q0 7), zi k6 120 f6), ((q0 11), zi k10 120 f10), ((q0 5), zi k4 122880 f4), ((q0 12), zi k11 120 f11), ((q0 22), zi k16 40000 f16)] := hD
  refine lv_aload_n hx hb dX13_bit_5 rfl (lv_at hl 0 rfl) ?_
  have hPc := hP.sub (ws' := [(h0, .inr (13, mX13 q0 (upd v0 21 0))), ((q0 17), zi k14 12 f14), ((q0 19), zi k15 12 f15), ((q0 3), zi k3 400 f3), ((q0 2), zi k2 4800 f2)]) [0, 1, 2, 3, 4] rfl
  have hDc := hD.sub (ws' := [(h0, .inr (13, mX13 q0 (upd v0 21 0))), ((q0 17), zi k14 12 f14), ((q0 19), zi k15 12 f15), ((q0 3), zi k3 400 f3), ((q0 2), zi k2 4800 f2)]) [0, 1, 2, 3, 4] (by decide) rfl
  have hKc := hK.sub (tys' := [(k14, .byte), (k15, .byte), (k3, .int), (k2, .byte)]) [0, 1, 2, 3] rfl
  have hFc := va_free (wc := [(h0, .inr (13, mX13 q0 (upd v0 21 0))), ((q0 17), zi k14 12 f14), ((q0 19), zi k15 12 f15), ((q0 3), zi k3 400 f3), ((q0 2), zi k2 4800 f2)]) hD hS hA [0, 1, 2, 3, 4] rfl
  refine va_calli (va_runV (As := []) (rest := []) ⟨hx, hb, hml, hown, hG⟩ (sX13_lookedWord_0 l dC dI adK adV h0 q0 k14 k15 k3 k2 H.size (upd v0 21 0) f14 f15 f3 f2 (zR_updF hv0 21 rfl) hf3) (cwV 0 hG (zgV zv1987 zv1989 zv72 zv142 zv1990) rfl rfl rfl (by decide +kernel) ⟨Nat.le_of_ble_eq_true rfl, Nat.le_of_ble_eq_true rfl⟩) ⟨zPc_blind, va_recv hKc hPc (ci := 13) (q0 := 0) rfl rfl, zPc_pre hPc hKc hDc hE hS hFc hZ⟩ rfl rfl hl.1 rfl (lv_room (Nat.le_of_ble_eq_true rfl)) dX13_bit_6 ⟨Nat.le_of_ble_eq_true rfl, Nat.le_of_ble_eq_true rfl⟩) hS (fun q _ h => hFc q h) hFc (fun r6_ u6_ t H1 locs ht hvm hw hB hz1 hk1 hS => ?_)
  replace hw : ((-1) ≤ r6_.toInt ∧ r6_.toInt ≤ 399) ∧ (0 ≤ (u6_ 0).toInt ∧ (u6_ 0).toInt ≤ 12) ∧ (r6_.toInt < (v0 4).toInt) := hw
  obtain ⟨b_, b_, hX6_0⟩ := hw
  obtain ⟨w6_, a6_, b6_, hP1, hK1, hD1⟩ := hB
  rw [ht] at hP1
  obtain ⟨hP, hD⟩ := va_join (wr := [((q0 7), zi k6 120 f6), ((q0 11), zi k10 120 f10), ((q0 5), zi k4 122880 f4), ((q0 12), zi k11 120 f11), ((q0 22), zi k16 40000 f16)]) (w1 := [(h0, .inr (13, mX13 q0 (upd (upd v0 20 (u6_ 0)) 21 0))), ((q0 17), zi k14 12 f14), ((q0 19), zi k15 12 (a6_ 0)), ((q0 3), zi k3 400 f3), ((q0 2), zi k2 4800 f2)]) hP hD [0, 1, 2, 3, 4] [5, 6, 7, 8, 9] rfl rfl (by decide) (by decide) hk1 hFc hP1 hD1
  have hP : va_P (dC, dI) vwCl [(h0, .inr (13, mX13 q0 (upd (upd v0 20 (u6_ 0)) 21 0))), ((q0 17), zi k14 12 f14), ((q0 19), zi k15 12 (a6_ 0)), ((q0 3), zi k3 400 f3), ((q0 2), zi k2 4800 f2), ((q0 7), zi k6 120 f6), ((q0 11), zi k10 120 f10), ((q0 5), zi k4 122880 f4), ((q0 12), zi k11 120 f11), ((q0 22), zi k16 40000 f16)] H1 := hP.sub [5, 6, 7, 8, 9, 0, 1, 2, 3, 4] rfl
  have hD : va_D A [(h0, .inr (13, mX13 q0 (upd (upd v0 20 (u6_ 0)) 21 0))), ((q0 17), zi k14 12 f14), ((q0 19), zi k15 12 (a6_ 0)), ((q0 3), zi k3 400 f3), ((q0 2), zi k2 4800 f2), ((q0 7), zi k6 120 f6), ((q0 11), zi k10 120 f10), ((q0 5), zi k4 122880 f4), ((q0 12), zi k11 120 f11), ((q0 22), zi k16 40000 f16)] := hD.sub [5, 6, 7, 8, 9, 0, 1, 2, 3, 4] (by decide) rfl
  generalize H1 = H at hP hS ⊢
  clear hz1
  refine lv_istore_n (lv' := [(2, .int r6_), (0, .ref h0), (1, .int x1)]) hx hb dX13_bit_9 rfl hl (by decide) rfl (fun ls hl => ?_)
  refine lv_iload_n hx hb dX13_bit_10 rfl (lv_at hl 0 rfl) ?_
  refine lv_iconst (v := (-1)) hx hb dX13_bit_11 (by decide) ?_
  refine zcutW (fun H locs ls u29_ w29_ a29_ b29_ => va_P (dC, dI) vwCl [(h0, .inr (13, mX13 q0 (upd (upd (upd (upd v0 20 (u6_ 0)) 21 0) 23 (u29_ 0)) 24 (u29_ 1)))), ((q0 17), zi k14 12 f14), ((q0 19), zi k15 12 (a6_ 0)), ((q0 3), zi k3 400 f3), ((q0 2), zi k2 4800 f2), ((q0 7), zi k6 120 f6), ((q0 11), zi k10 120 f10), ((q0 5), zi k4 122880 f4), ((q0 12), zi k11 120 f11), ((q0 22), zi k16 40000 (a29_ 0))] H ∧ va_D A [(h0, .inr (13, mX13 q0 (upd (upd (upd (upd v0 20 (u6_ 0)) 21 0) 23 (u29_ 0)) 24 (u29_ 1)))), ((q0 17), zi k14 12 f14), ((q0 19), zi k15 12 (a6_ 0)), ((q0 3), zi k3 400 f3), ((q0 2), zi k2 4800 f2), ((q0 7), zi k6 120 f6), ((q0 11), zi k10 120 f10), ((q0 5), zi k4 122880 f4), ((q0 12), zi k11 120 f11), ((q0 22), zi k16 40000 (a29_ 0))] ∧ va_S A s.heap H locs ∧ lv_has ls 3 [(0, .ref h0), (1, .int x1), (2, .int r6_)] ∧ (0 ≤ (u29_ 1).toInt ∧ (u29_ 1).toInt ≤ 1) ∧ ((-1) ≤ r6_.toInt ∧ r6_.toInt ≤ 399)) (fun ls u29_ w29_ => F0 m 29 ls []) 0 0 ?_ (fun hJ29 => ?_)
  · skip
    intro H locs ls u29_ w29_ a29_ b29_ hc
    obtain ⟨hP, hD, hS, hl, b_, b_⟩ := hc
    refine lv_aload_n hx hb dX13_bit_29 rfl (lv_at hl 0 rfl) ?_
    have b_ : -2147483648 ≤ (u29_ 0).toInt ∧ (u29_ 0).toInt ≤ 2147483647 := ⟨zlo _, zhi _⟩
    have hPc := hP.sub (ws' := [(h0, .inr (13, mX13 q0 (upd (upd (upd (upd v0 20 (u6_ 0)) 21 0) 23 (u29_ 0)) 24 (u29_ 1))))]) [0] rfl
    have hDc := hD.sub (ws' := [(h0, .inr (13, mX13 q0 (upd (upd (upd (upd v0 20 (u6_ 0)) 21 0) 23 (u29_ 0)) 24 (u29_ 1))))]) [0] (by decide) rfl
    have hKc := hK.sub (tys' := []) [] rfl
    have hFc := va_free (wc := [(h0, .inr (13, mX13 q0 (upd (upd (upd (upd v0 20 (u6_ 0)) 21 0) 23 (u29_ 0)) 24 (u29_ 1))))]) hD hS hA [0] rfl
    refine va_calli (va_runV (As := []) (rest := []) ⟨hx, hb, hml, hown, hG⟩ (sX13_refuse_0 l dC dI adK adV h0 q0 H.size (upd (upd (upd (upd v0 20 (u6_ 0)) 21 0) 23 (u29_ 0)) 24 (u29_ 1)) (zR_up2 (zR_updF (zR_updF (zR_up2 hv0 20 (show (0 : Int) ≤ ((u6_ 0) : Int32).toInt ∧ ((u6_ 0) : Int32).toInt ≤ (12 : Int) from (by first | with_reducible assumption | exact ⟨by omega, by omega⟩))) 21 rfl) 23 rfl) 24 (show (0 : Int) ≤ ((u29_ 1) : Int32).toInt ∧ ((u29_ 1) : Int32).toInt ≤ (1 : Int) from (by first | with_reducible assumption | exact ⟨by omega, by omega⟩)))) (cwV 0 hG (zgV zv1963 zv1965 zv68 zv142 zv1966) rfl rfl rfl (by decide +kernel) ⟨Nat.le_of_ble_eq_true rfl, Nat.le_of_ble_eq_true rfl⟩) ⟨zPc_blind, va_recv hKc hPc (ci := 13) (q0 := 0) rfl rfl, zPc_pre hPc hKc hDc hE hS hFc hZ⟩ rfl rfl hl.1 rfl (lv_room (Nat.le_of_ble_eq_true rfl)) dX13_bit_30 ⟨Nat.le_of_ble_eq_true rfl, Nat.le_of_ble_eq_true rfl⟩) hS (fun q _ h => hFc q h) hFc (fun r30_ u30_ t H1 locs ht hvm hw hB hz1 hk1 hS => ?_)
    replace hw : (0 ≤ r30_.toInt ∧ r30_.toInt ≤ 0) ∧ (1 ≤ (u30_ 0).toInt ∧ (u30_ 0).toInt ≤ 1) := hw
    obtain ⟨b_, b_⟩ := hw
    obtain rfl : r30_ = (0 : Int32) := zeqi.mpr ((show r30_.toInt = 0 from by omega).trans zk_0.symm)
    obtain ⟨w30_, a30_, b30_, hP1, hK1, hD1⟩ := hB
    rw [ht] at hP1
    obtain ⟨hP, hD⟩ := va_join (wr := [((q0 17), zi k14 12 f14), ((q0 19), zi k15 12 (a6_ 0)), ((q0 3), zi k3 400 f3), ((q0 2), zi k2 4800 f2), ((q0 7), zi k6 120 f6), ((q0 11), zi k10 120 f10), ((q0 5), zi k4 122880 f4), ((q0 12), zi k11 120 f11), ((q0 22), zi k16 40000 (a29_ 0))]) (w1 := [(h0, .inr (13, mX13 q0 (upd (upd (upd (upd v0 20 (u6_ 0)) 21 (u30_ 0)) 23 (u29_ 0)) 24 (u29_ 1))))]) hP hD [0] [1, 2, 3, 4, 5, 6, 7, 8, 9] rfl rfl (by decide) (by decide) hk1 hFc hP1 hD1
    have hP : va_P (dC, dI) vwCl [(h0, .inr (13, mX13 q0 (upd (upd (upd (upd v0 20 (u6_ 0)) 21 (u30_ 0)) 23 (u29_ 0)) 24 (u29_ 1)))), ((q0 17), zi k14 12 f14), ((q0 19), zi k15 12 (a6_ 0)), ((q0 3), zi k3 400 f3), ((q0 2), zi k2 4800 f2), ((q0 7), zi k6 120 f6), ((q0 11), zi k10 120 f10), ((q0 5), zi k4 122880 f4), ((q0 12), zi k11 120 f11), ((q0 22), zi k16 40000 (a29_ 0))] H1 := hP.sub [9, 0, 1, 2, 3, 4, 5, 6, 7, 8] rfl
    have hD : va_D A [(h0, .inr (13, mX13 q0 (upd (upd (upd (upd v0 20 (u6_ 0)) 21 (u30_ 0)) 23 (u29_ 0)) 24 (u29_ 1)))), ((q0 17), zi k14 12 f14), ((q0 19), zi k15 12 (a6_ 0)), ((q0 3), zi k3 400 f3), ((q0 2), zi k2 4800 f2), ((q0 7), zi k6 120 f6), ((q0 11), zi k10 120 f10), ((q0 5), zi k4 122880 f4), ((q0 12), zi k11 120 f11), ((q0 22), zi k16 40000 (a29_ 0))] := hD.sub [9, 0, 1, 2, 3, 4, 5, 6, 7, 8] (by decide) rfl
    generalize H1 = H at hP hS ⊢
    clear hz1
    refine W.widen (k := 0) (n := 0) (by decide) (by decide) ?_
    have hpost : (0 ≤ (u6_ 0).toInt ∧ (u6_ 0).toInt ≤ 12) ∧ (0 ≤ (u30_ 0).toInt ∧ (u30_ 0).toInt ≤ 1) ∧ (0 ≤ (u29_ 1).toInt ∧ (u29_ 1).toInt ≤ 1) := ⟨(by first | with_reducible assumption | exact ⟨by omega, by omega⟩), (by first | with_reducible assumption | exact ⟨by omega, by omega⟩), (by first | with_reducible assumption | exact ⟨by omega, by omega⟩)⟩
    have hP9 : va_P (dC, dI) vwCl [(h0, .inr (13, mX13 q0 (upd (upd (upd (upd v0 20 (u6_ 0)) 21 (u30_ 0)) 23 (u29_ 0)) 24 (u29_ 1)))), ((q0 17), zi k14 12 f14), ((q0 19), zi k15 12 (a6_ 0)), ((q0 3), zi k3 400 f3), ((q0 2), zi k2 4800 f2), ((q0 7), zi k6 120 f6), ((q0 11), zi k10 120 f10), ((q0 5), zi k4 122880 f4), ((q0 12), zi k11 120 f11), ((q0 22), zi k16 40000 (a29_ 0))] H := hP
    have hD9 : va_D A [(h0, .inr (13, mX13 q0 (upd (upd (upd (upd v0 20 (u6_ 0)) 21 (u30_ 0)) 23 (u29_ 0)) 24 (u29_ 1)))), ((q0 17), zi k14 12 f14), ((q0 19), zi k15 12 (a6_ 0)), ((q0 3), zi k3 400 f3), ((q0 2), zi k2 4800 f2), ((q0 7), zi k6 120 f6), ((q0 11), zi k10 120 f10), ((q0 5), zi k4 122880 f4), ((q0 12), zi k11 120 f11), ((q0 22), zi k16 40000 (a29_ 0))] := hD
    exact W.iret (v := 0) hx hb hr (fun t ht hW => ⟨⟨0, (fun i => ([(u6_ 0), (u30_ 0), (u29_ 0), (u29_ 1)] : List (Int32)).getD i 0), rfl, hpost, (fun _ => 0), (fun i => ([(a6_ 0), (a29_ 0)] : List (Nat → Int32)).getD i (fun _ => 0)), (fun _ => (fun _ => 0)), by rw [ht]; exact hP9, va_K.moved hW.alike hK, hD9⟩, hS.F ht⟩) hS.2.2 dX13_bit_33
  · skip
    refine lv_icmp_eq (tgt := 29) hx hb dX13_bit_12 (by decide) (fun c_ => ?_) (fun c_ => ?_)
    · skip
      have b_ := zT_eq rfl zk_m1 c_
      have b_ : 0 ≤ (v0 24).toInt ∧ (v0 24).toInt ≤ 1 := hv0 24
      have hc : va_P (dC, dI) vwCl [(h0, .inr (13, mX13 q0 (upd (upd (upd (upd v0 20 (u6_ 0)) 21 0) 23 (v0 23)) 24 (v0 24)))), ((q0 17), zi k14 12 f14), ((q0 19), zi k15 12 (a6_ 0)), ((q0 3), zi k3 400 f3), ((q0 2), zi k2 4800 f2), ((q0 7), zi k6 120 f6), ((q0 11), zi k10 120 f10), ((q0 5), zi k4 122880 f4), ((q0 12), zi k11 120 f11), ((q0 22), zi k16 40000 f16)] H ∧ va_D A [(h0, .inr (13, mX13 q0 (upd (upd (upd (upd v0 20 (u6_ 0)) 21 0) 23 (v0 23)) 24 (v0 24)))), ((q0 17), zi k14 12 f14), ((q0 19), zi k15 12 (a6_ 0)), ((q0 3), zi k3 400 f3), ((q0 2), zi k2 4800 f2), ((q0 7), zi k6 120 f6), ((q0 11), zi k10 120 f10), ((q0 5), zi k4 122880 f4), ((q0 12), zi k11 120 f11), ((q0 22), zi k16 40000 f16)] ∧ va_S A s.heap H locs ∧ lv_has ls 3 [(0, .ref h0), (1, .int x1), (2, .int r6_)] ∧ (0 ≤ (v0 24).toInt ∧ (v0 24).toInt ≤ 1) ∧ ((-1) ≤ r6_.toInt ∧ r6_.toInt ≤ 399) := ⟨hP, hD, hS, lv_sub hl [1, 2, 0] rfl, (by first | with_reducible assumption | exact ⟨by omega, by omega⟩), (by first | with_reducible assumption | exact ⟨by omega, by omega⟩)⟩
      exact hJ29 H locs ls (fun i => ([(v0 23), (v0 24)] : List (Int32)).getD i 0) (fun _ => 0) (fun i => ([f16] : List (Nat → Int32)).getD i (fun _ => 0)) (fun _ => (fun _ => 0)) hc
    · skip
      have b_ := zF_eq rfl zk_m1 c_
      refine lv_iload_n hx hb dX13_bit_15 rfl (lv_at hl 2 rfl) ?_
      have b_ : -2147483648 ≤ x1.toInt ∧ x1.toInt ≤ 2147483647 := ⟨zlo _, zhi _⟩
      refine lv_if_lt (tgt := 29) hx hb dX13_bit_16 (by decide) (fun c_ => ?_) (fun c_ => ?_)
      · skip
        have b_ := zT_lt rfl zk_0 c_
        have b_ : 0 ≤ (v0 24).toInt ∧ (v0 24).toInt ≤ 1 := hv0 24
        have hc : va_P (dC, dI) vwCl [(h0, .inr (13, mX13 q0 (upd (upd (upd (upd v0 20 (u6_ 0)) 21 0) 23 (v0 23)) 24 (v0 24)))), ((q0 17), zi k14 12 f14), ((q0 19), zi k15 12 (a6_ 0)), ((q0 3), zi k3 400 f3), ((q0 2), zi k2 4800 f2), ((q0 7), zi k6 120 f6), ((q0 11), zi k10 120 f10), ((q0 5), zi k4 122880 f4), ((q0 12), zi k11 120 f11), ((q0 22), zi k16 40000 f16)] H ∧ va_D A [(h0, .inr (13, mX13 q0 (upd (upd (upd (upd v0 20 (u6_ 0)) 21 0) 23 (v0 23)) 24 (v0 24)))), ((q0 17), zi k14 12 f14), ((q0 19), zi k15 12 (a6_ 0)), ((q0 3), zi k3 400 f3), ((q0 2), zi k2 4800 f2), ((q0 7), zi k6 120 f6), ((q0 11), zi k10 120 f10), ((q0 5), zi k4 122880 f4), ((q0 12), zi k11 120 f11), ((q0 22), zi k16 40000 f16)] ∧ va_S A s.heap H locs ∧ lv_has ls 3 [(0, .ref h0), (1, .int x1), (2, .int r6_)] ∧ (0 ≤ (v0 24).toInt ∧ (v0 24).toInt ≤ 1) ∧ ((-1) ≤ r6_.toInt ∧ r6_.toInt ≤ 399) := ⟨hP, hD, hS, lv_sub hl [1, 2, 0] rfl, (by first | with_reducible assumption | exact ⟨by omega, by omega⟩), (by first | with_reducible assumption | exact ⟨by omega, by omega⟩)⟩
        exact hJ29 H locs ls (fun i => ([(v0 23), (v0 24)] : List (Int32)).getD i 0) (fun _ => 0) (fun i => ([f16] : List (Nat → Int32)).getD i (fun _ => 0)) (fun _ => (fun _ => 0)) hc
      · skip
        have b_ := zF_lt rfl zk_0 c_
        refine lv_iload_n hx hb dX13_bit_19 rfl (lv_at hl 2 rfl) ?_
        refine lv_aload_n hx hb dX13_bit_20 rfl (lv_at hl 1 rfl) ?_
        refine lv_iload_n hx hb dX13_bit_21 rfl (lv_at hl 0 rfl) ?_
        refine lv_iconst (v := 1) hx hb dX13_bit_22 (by decide) ?_
        have hjw : (zB f4 f6 r6_.toInt ((v0 13).toInt).toNat).1 ≤ 40000 := by have q := hp0_ (r6_.toInt).toNat (by omega); rwa [show (((r6_.toInt).toNat : Nat) : Int) = r6_.toInt from by omega] at q
        have hPc := hP.sub (ws' := [(h0, .inr (13, mX13 q0 (upd (upd v0 20 (u6_ 0)) 21 0))), ((q0 7), zi k6 120 f6), ((q0 11), zi k10 120 f10), ((q0 5), zi k4 122880 f4), ((q0 12), zi k11 120 f11), ((q0 22), zi k16 40000 f16)]) [0, 5, 6, 7, 8, 9] rfl
        have hDc := hD.sub (ws' := [(h0, .inr (13, mX13 q0 (upd (upd v0 20 (u6_ 0)) 21 0))), ((q0 7), zi k6 120 f6), ((q0 11), zi k10 120 f10), ((q0 5), zi k4 122880 f4), ((q0 12), zi k11 120 f11), ((q0 22), zi k16 40000 f16)]) [0, 5, 6, 7, 8, 9] (by decide) rfl
        have hKc := hK.sub (tys' := [(k6, .boolean), (k10, .int), (k4, .short), (k11, .int), (k16, .byte)]) [4, 5, 6, 7, 8] rfl
        have hFc := va_free (wc := [(h0, .inr (13, mX13 q0 (upd (upd v0 20 (u6_ 0)) 21 0))), ((q0 7), zi k6 120 f6), ((q0 11), zi k10 120 f10), ((q0 5), zi k4 122880 f4), ((q0 12), zi k11 120 f11), ((q0 22), zi k16 40000 f16)]) hD hS hA [0, 5, 6, 7, 8, 9] rfl
        refine va_calli (va_runV (As := [.int r6_, .int 1]) (rest := [.int x1]) ⟨hx, hb, hml, hown, hG⟩ (sX13_layOut_0 l dC dI adK adV h0 q0 k6 k10 k4 k11 k16 H.size (upd (upd v0 20 (u6_ 0)) 21 0) f6 f10 f4 f11 f16 r6_ 1 (zR_updF (zR_up2 hv0 20 (show (0 : Int) ≤ ((u6_ 0) : Int32).toInt ∧ ((u6_ 0) : Int32).toInt ≤ (12 : Int) from (by first | with_reducible assumption | exact ⟨by omega, by omega⟩))) 21 rfl) hf10 hf4 hf11 (show (0 : Int) ≤ (r6_ : Int32).toInt ∧ (r6_ : Int32).toInt ≤ (399 : Int) from (by first | with_reducible assumption | exact ⟨by omega, by omega⟩)) ⟨show (0 : Int) ≤ (1 : Int32).toInt from by decide, show (1 : Int32).toInt ≤ (1 : Int) from by decide⟩ (show (1 : Int32).toInt = 1 → (zB f4 f6 r6_.toInt  ((v0 13).toInt).toNat).1 ≤ 40000 from by omega)) (cwV 2 hG (zgV zv1991 zv1993 zv73 zv142 zv1994) rfl rfl rfl (by decide +kernel) ⟨Nat.le_of_ble_eq_true rfl, Nat.le_of_ble_eq_true rfl⟩) ⟨zPc_blind, va_recv hKc hPc (ci := 13) (q0 := 0) rfl rfl, zPc_pre hPc hKc hDc hE hS hFc hZ⟩ rfl rfl hl.1 rfl (lv_room (Nat.le_of_ble_eq_true rfl)) dX13_bit_23 ⟨Nat.le_of_ble_eq_true rfl, Nat.le_of_ble_eq_true rfl⟩) hS (fun q _ h => hFc q h) hFc (fun r23_ u23_ t H1 locs ht hvm hw hB hz1 hk1 hS => ?_)
        replace hw : (0 ≤ r23_.toInt ∧ r23_.toInt ≤ 2600021) ∧ (0 ≤ (u23_ 0).toInt ∧ (u23_ 0).toInt ≤ 2600021) ∧ (0 ≤ (u23_ 1).toInt ∧ (u23_ 1).toInt ≤ 1) ∧ (r23_.toInt ≤ (zB f4 f6 r6_.toInt  ((v0 13).toInt).toNat).1) ∧ (0 ≤ r23_.toInt) := hw
        obtain ⟨b_, b_, b_, hX23_0, hX23_1⟩ := hw
        obtain ⟨w23_, a23_, b23_, hP1, hK1, hD1⟩ := hB
        rw [ht] at hP1
        obtain ⟨hP, hD⟩ := va_join (wr := [((q0 17), zi k14 12 f14), ((q0 19), zi k15 12 (a6_ 0)), ((q0 3), zi k3 400 f3), ((q0 2), zi k2 4800 f2)]) (w1 := [(h0, .inr (13, mX13 q0 (upd (upd (upd (upd v0 20 (u6_ 0)) 21 0) 23 (u23_ 0)) 24 (u23_ 1)))), ((q0 7), zi k6 120 f6), ((q0 11), zi k10 120 f10), ((q0 5), zi k4 122880 f4), ((q0 12), zi k11 120 f11), ((q0 22), zi k16 40000 (a23_ 0))]) hP hD [0, 5, 6, 7, 8, 9] [1, 2, 3, 4] rfl rfl (by decide) (by decide) hk1 hFc hP1 hD1
        have hP : va_P (dC, dI) vwCl [(h0, .inr (13, mX13 q0 (upd (upd (upd (upd v0 20 (u6_ 0)) 21 0) 23 (u23_ 0)) 24 (u23_ 1)))), ((q0 17), zi k14 12 f14), ((q0 19), zi k15 12 (a6_ 0)), ((q0 3), zi k3 400 f3), ((q0 2), zi k2 4800 f2), ((q0 7), zi k6 120 f6), ((q0 11), zi k10 120 f10), ((q0 5), zi k4 122880 f4), ((q0 12), zi k11 120 f11), ((q0 22), zi k16 40000 (a23_ 0))] H1 := hP.sub [4, 0, 1, 2, 3, 5, 6, 7, 8, 9] rfl
        have hD : va_D A [(h0, .inr (13, mX13 q0 (upd (upd (upd (upd v0 20 (u6_ 0)) 21 0) 23 (u23_ 0)) 24 (u23_ 1)))), ((q0 17), zi k14 12 f14), ((q0 19), zi k15 12 (a6_ 0)), ((q0 3), zi k3 400 f3), ((q0 2), zi k2 4800 f2), ((q0 7), zi k6 120 f6), ((q0 11), zi k10 120 f10), ((q0 5), zi k4 122880 f4), ((q0 12), zi k11 120 f11), ((q0 22), zi k16 40000 (a23_ 0))] := hD.sub [4, 0, 1, 2, 3, 5, 6, 7, 8, 9] (by decide) rfl
        generalize H1 = H at hP hS ⊢
        clear hz1
        refine lv_icmp_lt (tgt := 34) hx hb dX13_bit_26 (by decide) (fun c_ => ?_) (fun c_ => ?_)
        · skip
          have b_ := zT_lt rfl rfl c_
          refine lv_aload_n hx hb dX13_bit_34 rfl (lv_at hl 1 rfl) ?_
          refine va_get (D := (dC, dI)) (ci := 13) (v := .ref (q0 22)) (C := RX13) (T := TX13) (N := 75) hx hb hG zuX13 hown hK hP 0 rfl rfl 22 (by decide) (hG _ zv1626) (fun _ h9 => h9) rfl dX13_bit_35 ?_
          refine lv_iload_n hx hb dX13_bit_38 rfl (lv_at hl 2 rfl) ?_
          refine va_bald hx hb hK hP 9 8 rfl rfl (zin_lit ⟨by omega, by omega⟩) dX13_bit_39 ?_
          refine lv_topi (fun z39 e_z39 => ?_)
          refine W.widen (k := 0) (n := 0) (by decide) (by decide) ?_
          have b_ : -2147483648 ≤ z39.toInt ∧ z39.toInt ≤ 2147483647 := ⟨zlo _, zhi _⟩
          have hpost : (0 ≤ (u6_ 0).toInt ∧ (u6_ 0).toInt ≤ 12) ∧ (0 ≤ (0 : Int32).toInt ∧ (0 : Int32).toInt ≤ 1) ∧ (0 ≤ (u23_ 1).toInt ∧ (u23_ 1).toInt ≤ 1) := ⟨(by first | with_reducible assumption | exact ⟨by omega, by omega⟩), (by first | with_reducible assumption | exact ⟨by omega, by omega⟩), (by first | with_reducible assumption | exact ⟨by omega, by omega⟩)⟩
          have hP9 : va_P (dC, dI) vwCl [(h0, .inr (13, mX13 q0 (upd (upd (upd (upd v0 20 (u6_ 0)) 21 0) 23 (u23_ 0)) 24 (u23_ 1)))), ((q0 17), zi k14 12 f14), ((q0 19), zi k15 12 (a6_ 0)), ((q0 3), zi k3 400 f3), ((q0 2), zi k2 4800 f2), ((q0 7), zi k6 120 f6), ((q0 11), zi k10 120 f10), ((q0 5), zi k4 122880 f4), ((q0 12), zi k11 120 f11), ((q0 22), zi k16 40000 (a23_ 0))] H := hP
          have hD9 : va_D A [(h0, .inr (13, mX13 q0 (upd (upd (upd (upd v0 20 (u6_ 0)) 21 0) 23 (u23_ 0)) 24 (u23_ 1)))), ((q0 17), zi k14 12 f14), ((q0 19), zi k15 12 (a6_ 0)), ((q0 3), zi k3 400 f3), ((q0 2), zi k2 4800 f2), ((q0 7), zi k6 120 f6), ((q0 11), zi k10 120 f10), ((q0 5), zi k4 122880 f4), ((q0 12), zi k11 120 f11), ((q0 22), zi k16 40000 (a23_ 0))] := hD
          exact W.iret (v := z39) hx hb hr (fun t ht hW => ⟨⟨z39, (fun i => ([(u6_ 0), 0, (u23_ 0), (u23_ 1)] : List (Int32)).getD i 0), rfl, hpost, (fun _ => 0), (fun i => ([(a6_ 0), (a23_ 0)] : List (Nat → Int32)).getD i (fun _ => 0)), (fun _ => (fun _ => 0)), by rw [ht]; exact hP9, va_K.moved hW.alike hK, hD9⟩, hS.F ht⟩) hS.2.2 dX13_bit_40
        · skip
          have b_ := zF_lt rfl rfl c_
          have hc : va_P (dC, dI) vwCl [(h0, .inr (13, mX13 q0 (upd (upd (upd (upd v0 20 (u6_ 0)) 21 0) 23 (u23_ 0)) 24 (u23_ 1)))), ((q0 17), zi k14 12 f14), ((q0 19), zi k15 12 (a6_ 0)), ((q0 3), zi k3 400 f3), ((q0 2), zi k2 4800 f2), ((q0 7), zi k6 120 f6), ((q0 11), zi k10 120 f10), ((q0 5), zi k4 122880 f4), ((q0 12), zi k11 120 f11), ((q0 22), zi k16 40000 (a23_ 0))] H ∧ va_D A [(h0, .inr (13, mX13 q0 (upd (upd (upd (upd v0 20 (u6_ 0)) 21 0) 23 (u23_ 0)) 24 (u23_ 1)))), ((q0 17), zi k14 12 f14), ((q0 19), zi k15 12 (a6_ 0)), ((q0 3), zi k3 400 f3), ((q0 2), zi k2 4800 f2), ((q0 7), zi k6 120 f6), ((q0 11), zi k10 120 f10), ((q0 5), zi k4 122880 f4), ((q0 12), zi k11 120 f11), ((q0 22), zi k16 40000 (a23_ 0))] ∧ va_S A s.heap H locs ∧ lv_has ls 3 [(0, .ref h0), (1, .int x1), (2, .int r6_)] ∧ (0 ≤ (u23_ 1).toInt ∧ (u23_ 1).toInt ≤ 1) ∧ ((-1) ≤ r6_.toInt ∧ r6_.toInt ≤ 399) := ⟨hP, hD, hS, lv_sub hl [1, 2, 0] rfl, (by first | with_reducible assumption | exact ⟨by omega, by omega⟩), (by first | with_reducible assumption | exact ⟨by omega, by omega⟩)⟩
          exact hJ29 H locs ls (fun i => ([(u23_ 0), (u23_ 1)] : List (Int32)).getD i 0) (fun _ => 0) (fun i => ([(a23_ 0)] : List (Nat → Int32)).getD i (fun _ => 0)) (fun _ => (fun _ => 0)) hc
set_option maxHeartbeats 8000000 in
set_option maxRecDepth 100000 in
theorem sX13_chunks_0 (l : Launch) (dC : Nat → ClassId) (dI : Nat → Nat → Nat) (adK adV : Nat → Nat) (sz : Nat) (x0 : Int32) : Met l yX13_chunks (zw yX13_chunks cX13_chunks 4 (some .int)) { frames := 1, cells := 0, slots := 0, locals := 40 } (zPc dC dI adK adV [.int x0] sz [] []) (va_Qi (fun (r : Int32) (u : Nat → Int32) => True) (fun (u : Nat → Int32) (t : State) => ∃ (ww : Nat → Int64) (aa : Nat → Nat → Int32) (bb : Nat → Nat → Int64), va_P (dC, dI) vwCl [] t.heap ∧ va_K (dC, dI) vwCl [] t ∧ va_D (va_A [] sz) []) (va_A [] sz)) 0 0 (va_A [] sz) := by
  refine Met.ofW (cc := cX13_chunks) (maxL := 4) (ret := (some .int)) (by decide) rfl ?_
  intro p e s m args below meth c s₁ B hml hv
  obtain ⟨rfl, hsz, hP, hK, hD0, hE, hZ⟩ := hv
  have hx := B.exec
  have hb := B.bytes
  have hr := B.returns
  have hG : ∀ w ∈ zG, w.before _ s = true := fun w h => atoms_spec (ws := (zw yX13_chunks cX13_chunks 4 (some .int))) B.pre w (List.mem_cons_of_mem _ h)
  have hown : s.vm.findClass RX13 = some m.cls := findClass_of_methodNamed B.named
  have hlocks := B.notSynchronized

  subst hsz
  have hD := hD0.self (sz := s.heap.size)
  generalize hAe : va_A [] s.heap.size = A at hD hZ ⊢
  have hA : ∀ q : Nat, s.heap.size ≤ q → A q := fun q h => by rw [← hAe]; exact Or.inr h
  have hS : va_S A s.heap s.heap [] := va_S.rf
  have hl := lv_entry ([.int x0]) (n := 4) (Nat.le_of_ble_eq_true rfl)
  rw [lg_entry_eq]
  generalize (lg_sl ([.int x0]) ++ List.replicate (4 - (lg_sl ([.int x0])).length) Slot.unset).toArray = ls at hl ⊢
  have hl : lv_has ls 4 [(0, .int x0)] := hl
  have b_ := zk_32
  refine lv_iconst (v := 0) hx hb dX13_chunks_0 (by decide) ?_
  refine lv_istore_n (lv' := [(1, .int 0), (0, .int x0)]) hx hb dX13_chunks_1 rfl hl (by decide) rfl (fun ls hl => ?_)
  refine lv_iload_n hx hb dX13_chunks_2 rfl (lv_at hl 1 rfl) ?_
  refine lv_istore_n (lv' := [(2, .int x0), (1, .int 0), (0, .int x0)]) hx hb dX13_chunks_3 rfl hl (by decide) rfl (fun ls hl => ?_)
  refine lv_bipush (v := 32) hx hb dX13_chunks_4 (by decide) ?_
  refine lv_istore_n (lv' := [(3, .int 32), (2, .int x0), (1, .int 0), (0, .int x0)]) hx hb dX13_chunks_6 rfl hl (by decide) rfl (fun ls hl => ?_)
  refine zcutL (fun u7_ => ((u7_ 1).toInt).toNat) (fun H locs ls u7_ w7_ a7_ b7_ => va_P (dC, dI) vwCl [] H ∧ va_D A [] ∧ va_S A s.heap H locs ∧ lv_has ls 4 [(0, .int x0), (1, .int (u7_ 0)), (2, .int (u7_ 1)), (3, .int (u7_ 2))] ∧ (32 ≤ (u7_ 2).toInt ∧ (u7_ 2).toInt ≤ 256)) (fun ls u7_ w7_ => F0 m 7 ls []) 0 0 ?_ (fun hJ7 => ?_)
  · skip
    intro H locs ls u7_ w7_ a7_ b7_ hc hJ7
    obtain ⟨hP, hD, hS, hl, b_⟩ := hc
    refine lv_iload_n hx hb dX13_chunks_7 rfl (lv_at hl 2 rfl) ?_
    have b_ : -2147483648 ≤ (u7_ 1).toInt ∧ (u7_ 1).toInt ≤ 2147483647 := ⟨zlo _, zhi _⟩
    refine lv_if_le (tgt := 31) hx hb dX13_chunks_8 (by decide) (fun c_ => ?_) (fun c_ => ?_)
    · skip
      have b_ := zT_le rfl zk_0 c_
      refine lv_iload_n hx hb dX13_chunks_31 rfl (lv_at hl 1 rfl) ?_
      refine W.widen (k := 0) (n := 0) (by decide) (by decide) ?_
      have b_ : -2147483648 ≤ (u7_ 0).toInt ∧ (u7_ 0).toInt ≤ 2147483647 := ⟨zlo _, zhi _⟩
      have hpost : True := trivial
      have hP9 : va_P (dC, dI) vwCl [] H := hP
      have hD9 : va_D A [] := hD
      exact W.iret (v := (u7_ 0)) hx hb hr (fun t ht hW => ⟨⟨(u7_ 0), (fun _ => 0), rfl, hpost, (fun _ => 0), (fun _ => (fun _ => 0)), (fun _ => (fun _ => 0)), by rw [ht]; exact hP9, va_K.moved hW.alike hK, hD9⟩, hS.F ht⟩) hS.2.2 dX13_chunks_32
    · skip
      have b_ := zF_le rfl zk_0 c_
      refine lv_iload_n hx hb dX13_chunks_11 rfl (lv_at hl 2 rfl) ?_
      refine lv_iload_n hx hb dX13_chunks_12 rfl (lv_at hl 3 rfl) ?_
      refine lv_isub hx hb dX13_chunks_13 ?_
      refine lv_topi (fun z13 e_z13 => ?_)
      have b_ := zsub rfl rfl e_z13 (by omega) (by omega)
      refine lv_istore_n (lv' := [(2, .int z13), (0, .int x0), (1, .int (u7_ 0)), (3, .int (u7_ 2))]) hx hb dX13_chunks_14 rfl hl (by decide) rfl (fun ls hl => ?_)
      refine lv_sipush (v := 256) hx hb dX13_chunks_15 (by decide) ?_
      refine lv_iconst (v := 2) hx hb dX13_chunks_18 (by decide) ?_
      refine lv_iload_n hx hb dX13_chunks_19 rfl (lv_at hl 3 rfl) ?_
      refine lv_imul hx hb dX13_chunks_20 ?_
      refine lv_topi (fun z20 e_z20 => ?_)
      have b_ := zmul zk_2 rfl e_z20 (by omega) (by omega)
      refine va_mmin hx hb (by rw [hml]; exact hl.1.symm) hown (hG _ zv1897) (hG _ zv1385) (hG _ zv152) (hG _ zv1386) (Nat.le_of_ble_eq_true rfl) (Nat.le_of_ble_eq_true rfl) (Nat.le_of_ble_eq_true rfl) (Nat.le_of_ble_eq_true rfl) dX13_chunks_21 ?_
      refine lv_topi (fun z21 e_z21 => ?_)
      have b_ := zmin zk_256 rfl e_z21
      refine lv_istore_n (lv' := [(3, .int z21), (2, .int z13), (0, .int x0), (1, .int (u7_ 0))]) hx hb dX13_chunks_24 rfl hl (by decide) rfl (fun ls hl => ?_)
      have b_ : -2147483648 ≤ (u7_ 0).toInt ∧ (u7_ 0).toInt ≤ 2147483647 := ⟨zlo _, zhi _⟩
      obtain ⟨z25, e_z25⟩ : ∃ z : Int32, z = (u7_ 0) + Int32.ofInt 1 := ⟨_, rfl⟩
      refine lv_iinc (v := z25) (lv' := [(1, .int z25), (3, .int z21), (2, .int z13), (0, .int x0)]) hx hb dX13_chunks_25 hl (k := 3) rfl e_z25.symm (by decide) rfl (fun ls hl => ?_)
      refine lv_goto (tgt := 7) hx hb dX13_chunks_28 (by decide) ?_
      have b_ : -2147483648 ≤ x0.toInt ∧ x0.toInt ≤ 2147483647 := ⟨zlo _, zhi _⟩
      have b_ : -2147483648 ≤ z25.toInt ∧ z25.toInt ≤ 2147483647 := ⟨zlo _, zhi _⟩
      have hc : va_P (dC, dI) vwCl [] H ∧ va_D A [] ∧ va_S A s.heap H locs ∧ lv_has ls 4 [(0, .int x0), (1, .int z25), (2, .int z13), (3, .int z21)] ∧ (32 ≤ z21.toInt ∧ z21.toInt ≤ 256) := ⟨hP, hD, hS, lv_sub hl [3, 0, 2, 1] rfl, (by first | with_reducible assumption | exact ⟨by omega, by omega⟩)⟩
      exact hJ7 H locs ls (fun i => ([z25, z13, z21] : List (Int32)).getD i 0) (fun _ => 0) (fun _ => (fun _ => 0)) (fun _ => (fun _ => 0)) hc (show (z13.toInt).toNat < ((u7_ 1).toInt).toNat from by omega)
  · skip
    have b_ : -2147483648 ≤ x0.toInt ∧ x0.toInt ≤ 2147483647 := ⟨zlo _, zhi _⟩
    have hc : va_P (dC, dI) vwCl [] s.heap ∧ va_D A [] ∧ va_S A s.heap s.heap [] ∧ lv_has ls 4 [(0, .int x0), (1, .int 0), (2, .int x0), (3, .int 32)] ∧ (32 ≤ (32 : Int32).toInt ∧ (32 : Int32).toInt ≤ 256) := ⟨hP, hD, hS, lv_sub hl [3, 2, 1, 0] rfl, (by first | with_reducible assumption | exact ⟨by omega, by omega⟩)⟩
    exact hJ7 s.heap [] ls (fun i => ([0, x0, 32] : List (Int32)).getD i 0) (fun _ => 0) (fun _ => (fun _ => 0)) (fun _ => (fun _ => 0)) hc
set_option maxHeartbeats 8000000 in
set_option maxRecDepth 100000 in
theorem sX13_holders_0 (l : Launch) (dC : Nat → ClassId) (dI : Nat → Nat → Nat) (adK adV : Nat → Nat) (h0 : Nat) (q0 : Nat → Nat) (k5 : ClassId) (k10 : ClassId) (k4 : ClassId) (k11 : ClassId) (sz : Nat) (v0 : Nat → Int32) (f5 : Nat → Int32) (f10 : Nat → Int32) (f4 : Nat → Int32) (f11 : Nat → Int32) (x1 : Int32) (hv0 : zR rg_Model v0) (hf10 : zA 0 512 f10) (hf4 : zA 0 400 f4) (hf11 : zA 0 512 f11) (hx1 : 0 ≤ x1.toInt ∧ x1.toInt ≤ 399) : Met l yX13_holders (zw yX13_holders cX13_holders 4 (some .int)) { frames := 1, cells := 0, slots := 0, locals := 24 } (zPc dC dI adK adV [.ref h0, .int x1] sz [(h0, .inr (13, mX13 q0 v0)), ((q0 6), zi k5 120 f5), ((q0 11), zi k10 120 f10), ((q0 5), zi k4 122880 f4), ((q0 12), zi k11 120 f11)] [(k5, .boolean), (k10, .int), (k4, .short), (k11, .int)]) (va_Qi (fun (r : Int32) (u : Nat → Int32) => True) (fun (u : Nat → Int32) (t : State) => ∃ (ww : Nat → Int64) (aa : Nat → Nat → Int32) (bb : Nat → Nat → Int64), va_P (dC, dI) vwCl [(h0, .inr (13, mX13 q0 v0)), ((q0 6), zi k5 120 f5), ((q0 11), zi k10 120 f10), ((q0 5), zi k4 122880 f4), ((q0 12), zi k11 120 f11)] t.heap ∧ va_K (dC, dI) vwCl [(k5, .boolean), (k10, .int), (k4, .short), (k11, .int)] t ∧ va_D (va_A [(h0, .inr (13, mX13 q0 v0)), ((q0 6), zi k5 120 f5), ((q0 11), zi k10 120 f10), ((q0 5), zi k4 122880 f4), ((q0 12), zi k11 120 f11)] sz) [(h0, .inr (13, mX13 q0 v0)), ((q0 6), zi k5 120 f5), ((q0 11), zi k10 120 f10), ((q0 5), zi k4 122880 f4), ((q0 12), zi k11 120 f11)]) (va_A [(h0, .inr (13, mX13 q0 v0)), ((q0 6), zi k5 120 f5), ((q0 11), zi k10 120 f10), ((q0 5), zi k4 122880 f4), ((q0 12), zi k11 120 f11)] sz)) 0 0 (va_A [(h0, .inr (13, mX13 q0 v0)), ((q0 6), zi k5 120 f5), ((q0 11), zi k10 120 f10), ((q0 5), zi k4 122880 f4), ((q0 12), zi k11 120 f11)] sz) := by
  refine Met.ofW (cc := cX13_holders) (maxL := 4) (ret := (some .int)) (by decide) rfl ?_
  intro p e s m args below meth c s₁ B hml hv
  obtain ⟨rfl, hsz, hP, hK, hD0, hE, hZ⟩ := hv
  have hx := B.exec
  have hb := B.bytes
  have hr := B.returns
  have hG : ∀ w ∈ zG, w.before _ s = true := fun w h => atoms_spec (ws := (zw yX13_holders cX13_holders 4 (some .int))) B.pre w (List.mem_cons_of_mem _ h)
  have hown : s.vm.findClass RX13 = some m.cls := findClass_of_methodNamed B.named
  have hlocks := B.notSynchronized

  subst hsz
  have hD := hD0.self (sz := s.heap.size)
  generalize hAe : va_A [(h0, .inr (13, mX13 q0 v0)), ((q0 6), zi k5 120 f5), ((q0 11), zi k10 120 f10), ((q0 5), zi k4 122880 f4), ((q0 12), zi k11 120 f11)] s.heap.size = A at hD hZ ⊢
  have hA : ∀ q : Nat, s.heap.size ≤ q → A q := fun q h => by rw [← hAe]; exact Or.inr h
  have hS : va_S A s.heap s.heap [] := va_S.rf
  have hl := lv_entry ([.ref h0, .int x1]) (n := 4) (Nat.le_of_ble_eq_true rfl)
  rw [lg_entry_eq]
  generalize (lg_sl ([.ref h0, .int x1]) ++ List.replicate (4 - (lg_sl ([.ref h0, .int x1])).length) Slot.unset).toArray = ls at hl ⊢
  have hl : lv_has ls 4 [(0, .ref h0), (1, .int x1)] := hl
  have b_ := zk_0
  refine lv_iconst (v := 0) hx hb dX13_holders_0 (by decide) ?_
  refine lv_istore_n (lv' := [(2, .int 0), (0, .ref h0), (1, .int x1)]) hx hb dX13_holders_1 rfl hl (by decide) rfl (fun ls hl => ?_)
  refine lv_iconst (v := 0) hx hb dX13_holders_2 (by decide) ?_
  refine lv_istore_n (lv' := [(3, .int 0), (2, .int 0), (0, .ref h0), (1, .int x1)]) hx hb dX13_holders_3 rfl hl (by decide) rfl (fun ls hl => ?_)
  refine zcutL (fun u4_ => (120 - (u4_ 1).toInt).toNat) (fun H locs ls u4_ w4_ a4_ b4_ => va_P (dC, dI) vwCl [(h0, .inr (13, mX13 q0 v0)), ((q0 6), zi k5 120 f5), ((q0 11), zi k10 120 f10), ((q0 5), zi k4 122880 f4), ((q0 12), zi k11 120 f11)] H ∧ va_D A [(h0, .inr (13, mX13 q0 v0)), ((q0 6), zi k5 120 f5), ((q0 11), zi k10 120 f10), ((q0 5), zi k4 122880 f4), ((q0 12), zi k11 120 f11)] ∧ va_S A s.heap H locs ∧ lv_has ls 4 [(0, .ref h0), (1, .int x1), (2, .int (u4_ 0)), (3, .int (u4_ 1))] ∧ (0 ≤ (u4_ 1).toInt ∧ (u4_ 1).toInt ≤ 120)) (fun ls u4_ w4_ => F0 m 4 ls []) 0 0 ?_ (fun hJ4 => ?_)
  · skip
    intro H locs ls u4_ w4_ a4_ b4_ hc hJ4
    obtain ⟨hP, hD, hS, hl, b_⟩ := hc
    refine lv_iload_n hx hb dX13_holders_4 rfl (lv_at hl 3 rfl) ?_
    refine lv_aload_n hx hb dX13_holders_5 rfl (lv_at hl 0 rfl) ?_
    have b_ : 0 ≤ (v0 13).toInt ∧ (v0 13).toInt ≤ 120 := hv0 13
    refine va_get (D := (dC, dI)) (ci := 13) (v := .int (v0 13)) (C := RX13) (T := TX13) (N := 75) hx hb hG zuX13 hown hK hP 0 rfl rfl 13 (by decide) (hG _ zv1617) (fun _ h9 => h9) rfl dX13_holders_6 ?_
    refine lv_icmp_ge (tgt := 44) hx hb dX13_holders_9 (by decide) (fun c_ => ?_) (fun c_ => ?_)
    · skip
      have b_ := zT_ge rfl rfl c_
      refine lv_iload_n hx hb dX13_holders_44 rfl (lv_at hl 2 rfl) ?_
      refine W.widen (k := 0) (n := 0) (by decide) (by decide) ?_
      have b_ : -2147483648 ≤ (u4_ 0).toInt ∧ (u4_ 0).toInt ≤ 2147483647 := ⟨zlo _, zhi _⟩
      have hpost : True := trivial
      have hP9 : va_P (dC, dI) vwCl [(h0, .inr (13, mX13 q0 v0)), ((q0 6), zi k5 120 f5), ((q0 11), zi k10 120 f10), ((q0 5), zi k4 122880 f4), ((q0 12), zi k11 120 f11)] H := hP
      have hD9 : va_D A [(h0, .inr (13, mX13 q0 v0)), ((q0 6), zi k5 120 f5), ((q0 11), zi k10 120 f10), ((q0 5), zi k4 122880 f4), ((q0 12), zi k11 120 f11)] := hD
      exact W.iret (v := (u4_ 0)) hx hb hr (fun t ht hW => ⟨⟨(u4_ 0), (fun _ => 0), rfl, hpost, (fun _ => 0), (fun _ => (fun _ => 0)), (fun _ => (fun _ => 0)), by rw [ht]; exact hP9, va_K.moved hW.alike hK, hD9⟩, hS.F ht⟩) hS.2.2 dX13_holders_45
    · skip
      have b_ := zF_ge rfl rfl c_
      refine lv_iload_n hx hb dX13_holders_12 rfl (lv_at hl 2 rfl) ?_
      refine lv_aload_n hx hb dX13_holders_13 rfl (lv_at hl 0 rfl) ?_
      refine va_get (D := (dC, dI)) (ci := 13) (v := .ref (q0 6)) (C := RX13) (T := TX13) (N := 75) hx hb hG zuX13 hown hK hP 0 rfl rfl 6 (by decide) (hG _ zv1610) (fun _ h9 => h9) rfl dX13_holders_14 ?_
      refine lv_iload_n hx hb dX13_holders_17 rfl (lv_at hl 3 rfl) ?_
      refine va_zald hx hb hK hP 1 0 rfl rfl (zin_lit ⟨by omega, by omega⟩) dX13_holders_18 ?_
      refine lv_topi (fun z18 e_z18 => ?_)
      have b_ : -2147483648 ≤ z18.toInt ∧ z18.toInt ≤ 2147483647 := ⟨zlo _, zhi _⟩
      refine lv_if_eq (tgt := 35) hx hb dX13_holders_19 (by decide) (fun c_ => ?_) (fun c_ => ?_)
      · skip
        have b_ := zT_eq rfl zk_0 c_
        refine lv_iconst (v := 0) hx hb dX13_holders_35 (by decide) ?_
        have b_ : -2147483648 ≤ (u4_ 0).toInt ∧ (u4_ 0).toInt ≤ 2147483647 := ⟨zlo _, zhi _⟩
        refine lv_iadd hx hb dX13_holders_36 ?_
        refine lv_topi (fun z36 e_z36 => ?_)
        have b_ := zadd rfl zk_0 e_z36 (by omega) (by omega)
        refine lv_istore_n (lv' := [(2, .int z36), (0, .ref h0), (1, .int x1), (3, .int (u4_ 1))]) hx hb dX13_holders_37 rfl hl (by decide) rfl (fun ls hl => ?_)
        obtain ⟨z38, e_z38⟩ : ∃ z : Int32, z = (u4_ 1) + Int32.ofInt 1 := ⟨_, rfl⟩
        have b_ := zadd (x := (u4_ 1)) (y := Int32.ofInt 1) rfl (show (Int32.ofInt 1).toInt = 1 from by decide) e_z38 (by omega) (by omega)
        refine lv_iinc (v := z38) (lv' := [(3, .int z38), (2, .int z36), (0, .ref h0), (1, .int x1)]) hx hb dX13_holders_38 hl (k := 3) rfl e_z38.symm (by decide) rfl (fun ls hl => ?_)
        refine lv_goto (tgt := 4) hx hb dX13_holders_41 (by decide) ?_
        have hc : va_P (dC, dI) vwCl [(h0, .inr (13, mX13 q0 v0)), ((q0 6), zi k5 120 f5), ((q0 11), zi k10 120 f10), ((q0 5), zi k4 122880 f4), ((q0 12), zi k11 120 f11)] H ∧ va_D A [(h0, .inr (13, mX13 q0 v0)), ((q0 6), zi k5 120 f5), ((q0 11), zi k10 120 f10), ((q0 5), zi k4 122880 f4), ((q0 12), zi k11 120 f11)] ∧ va_S A s.heap H locs ∧ lv_has ls 4 [(0, .ref h0), (1, .int x1), (2, .int z36), (3, .int z38)] ∧ (0 ≤ z38.toInt ∧ z38.toInt ≤ 120) := ⟨hP, hD, hS, lv_sub hl [2, 3, 1, 0] rfl, (by first | with_reducible assumption | exact ⟨by omega, by omega⟩)⟩
        exact hJ4 H locs ls (fun i => ([z36, z38] : List (Int32)).getD i 0) (fun _ => 0) (fun _ => (fun _ => 0)) (fun _ => (fun _ => 0)) hc (show (120 - z38.toInt).toNat < (120 - (u4_ 1).toInt).toNat from by omega)
      · skip
        have b_ := zF_eq rfl zk_0 c_
        refine lv_aload_n hx hb dX13_holders_22 rfl (lv_at hl 0 rfl) ?_
        refine lv_iload_n hx hb dX13_holders_23 rfl (lv_at hl 3 rfl) ?_
        refine lv_iload_n hx hb dX13_holders_24 rfl (lv_at hl 1 rfl) ?_
        have hPc := hP.sub (ws' := [(h0, .inr (13, mX13 q0 v0)), ((q0 11), zi k10 120 f10), ((q0 5), zi k4 122880 f4), ((q0 12), zi k11 120 f11)]) [0, 2, 3, 4] rfl
        have hDc := hD.sub (ws' := [(h0, .inr (13, mX13 q0 v0)), ((q0 11), zi k10 120 f10), ((q0 5), zi k4 122880 f4), ((q0 12), zi k11 120 f11)]) [0, 2, 3, 4] (by decide) rfl
        have hKc := hK.sub (tys' := [(k10, .int), (k4, .short), (k11, .int)]) [1, 2, 3] rfl
        have hFc := va_free (wc := [(h0, .inr (13, mX13 q0 v0)), ((q0 11), zi k10 120 f10), ((q0 5), zi k4 122880 f4), ((q0 12), zi k11 120 f11)]) hD hS hA [0, 2, 3, 4] rfl
        refine va_calli (va_runV (As := [.int (u4_ 1), .int x1]) (rest := [.int (u4_ 0)]) ⟨hx, hb, hml, hown, hG⟩ (sX13_timesOf_0 l dC dI adK adV h0 q0 k10 k4 k11 H.size v0 f10 f4 f11 (u4_ 1) x1 hv0 hf10 hf4 hf11 (show (0 : Int) ≤ ((u4_ 1) : Int32).toInt ∧ ((u4_ 1) : Int32).toInt ≤ (119 : Int) from (by first | with_reducible assumption | exact ⟨by omega, by omega⟩)) (show (0 : Int) ≤ (x1 : Int32).toInt ∧ (x1 : Int32).toInt ≤ (399 : Int) from (by first | with_reducible assumption | exact ⟨by omega, by omega⟩))) (cwV 2 hG (zgV zv1979 zv1981 zv71 zv142 zv1982) rfl rfl rfl (by decide +kernel) ⟨Nat.le_of_ble_eq_true rfl, Nat.le_of_ble_eq_true rfl⟩) ⟨zPc_blind, va_recv hKc hPc (ci := 13) (q0 := 0) rfl rfl, zPc_pre hPc hKc hDc hE hS hFc hZ⟩ rfl rfl hl.1 rfl (lv_room (Nat.le_of_ble_eq_true rfl)) dX13_holders_25 ⟨Nat.le_of_ble_eq_true rfl, Nat.le_of_ble_eq_true rfl⟩) hS (fun q _ h => hFc q h) hFc (fun r25_ u25_ t H1 locs ht hvm hw hB hz1 hk1 hS => ?_)
        replace hw : (0 ≤ r25_.toInt ∧ r25_.toInt ≤ 1024) ∧ (r25_.toInt ≤ (zp f4 (u4_ 1).toInt x1.toInt 1024).1) := hw
        obtain ⟨b_, hX25_0⟩ := hw
        obtain ⟨w25_, a25_, b25_, hP1, hK1, hD1⟩ := hB
        rw [ht] at hP1
        obtain ⟨hP, hD⟩ := va_join (wr := [((q0 6), zi k5 120 f5)]) (w1 := [(h0, .inr (13, mX13 q0 v0)), ((q0 11), zi k10 120 f10), ((q0 5), zi k4 122880 f4), ((q0 12), zi k11 120 f11)]) hP hD [0, 2, 3, 4] [1] rfl rfl (by decide) (by decide) hk1 hFc hP1 hD1
        have hP : va_P (dC, dI) vwCl [(h0, .inr (13, mX13 q0 v0)), ((q0 6), zi k5 120 f5), ((q0 11), zi k10 120 f10), ((q0 5), zi k4 122880 f4), ((q0 12), zi k11 120 f11)] H1 := hP.sub [1, 0, 2, 3, 4] rfl
        have hD : va_D A [(h0, .inr (13, mX13 q0 v0)), ((q0 6), zi k5 120 f5), ((q0 11), zi k10 120 f10), ((q0 5), zi k4 122880 f4), ((q0 12), zi k11 120 f11)] := hD.sub [1, 0, 2, 3, 4] (by decide) rfl
        generalize H1 = H at hP hS ⊢
        clear hz1
        refine lv_if_le (tgt := 35) hx hb dX13_holders_28 (by decide) (fun c_ => ?_) (fun c_ => ?_)
        · skip
          have b_ := zT_le rfl zk_0 c_
          refine lv_iconst (v := 0) hx hb dX13_holders_35 (by decide) ?_
          have b_ : -2147483648 ≤ (u4_ 0).toInt ∧ (u4_ 0).toInt ≤ 2147483647 := ⟨zlo _, zhi _⟩
          refine lv_iadd hx hb dX13_holders_36 ?_
          refine lv_topi (fun z36 e_z36 => ?_)
          have b_ := zadd rfl zk_0 e_z36 (by omega) (by omega)
          refine lv_istore_n (lv' := [(2, .int z36), (0, .ref h0), (1, .int x1), (3, .int (u4_ 1))]) hx hb dX13_holders_37 rfl hl (by decide) rfl (fun ls hl => ?_)
          obtain ⟨z38, e_z38⟩ : ∃ z : Int32, z = (u4_ 1) + Int32.ofInt 1 := ⟨_, rfl⟩
          have b_ := zadd (x := (u4_ 1)) (y := Int32.ofInt 1) rfl (show (Int32.ofInt 1).toInt = 1 from by decide) e_z38 (by omega) (by omega)
          refine lv_iinc (v := z38) (lv' := [(3, .int z38), (2, .int z36), (0, .ref h0), (1, .int x1)]) hx hb dX13_holders_38 hl (k := 3) rfl e_z38.symm (by decide) rfl (fun ls hl => ?_)
          refine lv_goto (tgt := 4) hx hb dX13_holders_41 (by decide) ?_
          have hc : va_P (dC, dI) vwCl [(h0, .inr (13, mX13 q0 v0)), ((q0 6), zi k5 120 f5), ((q0 11), zi k10 120 f10), ((q0 5), zi k4 122880 f4), ((q0 12), zi k11 120 f11)] H ∧ va_D A [(h0, .inr (13, mX13 q0 v0)), ((q0 6), zi k5 120 f5), ((q0 11), zi k10 120 f10), ((q0 5), zi k4 122880 f4), ((q0 12), zi k11 120 f11)] ∧ va_S A s.heap H locs ∧ lv_has ls 4 [(0, .ref h0), (1, .int x1), (2, .int z36), (3, .int z38)] ∧ (0 ≤ z38.toInt ∧ z38.toInt ≤ 120) := ⟨hP, hD, hS, lv_sub hl [2, 3, 1, 0] rfl, (by first | with_reducible assumption | exact ⟨by omega, by omega⟩)⟩
          exact hJ4 H locs ls (fun i => ([z36, z38] : List (Int32)).getD i 0) (fun _ => 0) (fun _ => (fun _ => 0)) (fun _ => (fun _ => 0)) hc (show (120 - z38.toInt).toNat < (120 - (u4_ 1).toInt).toNat from by omega)
        · skip
          have b_ := zF_le rfl zk_0 c_
          refine lv_iconst (v := 1) hx hb dX13_holders_31 (by decide) ?_
          refine lv_goto (tgt := 36) hx hb dX13_holders_32 (by decide) ?_
          have b_ : -2147483648 ≤ (u4_ 0).toInt ∧ (u4_ 0).toInt ≤ 2147483647 := ⟨zlo _, zhi _⟩
          refine lv_iadd hx hb dX13_holders_36 ?_
          refine lv_topi (fun z36 e_z36 => ?_)
          refine lv_istore_n (lv' := [(2, .int z36), (0, .ref h0), (1, .int x1), (3, .int (u4_ 1))]) hx hb dX13_holders_37 rfl hl (by decide) rfl (fun ls hl => ?_)
          obtain ⟨z38, e_z38⟩ : ∃ z : Int32, z = (u4_ 1) + Int32.ofInt 1 := ⟨_, rfl⟩
          have b_ := zadd (x := (u4_ 1)) (y := Int32.ofInt 1) rfl (show (Int32.ofInt 1).toInt = 1 from by decide) e_z38 (by omega) (by omega)
          refine lv_iinc (v := z38) (lv' := [(3, .int z38), (2, .int z36), (0, .ref h0), (1, .int x1)]) hx hb dX13_holders_38 hl (k := 3) rfl e_z38.symm (by decide) rfl (fun ls hl => ?_)
          refine lv_goto (tgt := 4) hx hb dX13_holders_41 (by decide) ?_
          have b_ : -2147483648 ≤ z36.toInt ∧ z36.toInt ≤ 2147483647 := ⟨zlo _, zhi _⟩
          have hc : va_P (dC, dI) vwCl [(h0, .inr (13, mX13 q0 v0)), ((q0 6), zi k5 120 f5), ((q0 11), zi k10 120 f10), ((q0 5), zi k4 122880 f4), ((q0 12), zi k11 120 f11)] H ∧ va_D A [(h0, .inr (13, mX13 q0 v0)), ((q0 6), zi k5 120 f5), ((q0 11), zi k10 120 f10), ((q0 5), zi k4 122880 f4), ((q0 12), zi k11 120 f11)] ∧ va_S A s.heap H locs ∧ lv_has ls 4 [(0, .ref h0), (1, .int x1), (2, .int z36), (3, .int z38)] ∧ (0 ≤ z38.toInt ∧ z38.toInt ≤ 120) := ⟨hP, hD, hS, lv_sub hl [2, 3, 1, 0] rfl, (by first | with_reducible assumption | exact ⟨by omega, by omega⟩)⟩
          exact hJ4 H locs ls (fun i => ([z36, z38] : List (Int32)).getD i 0) (fun _ => 0) (fun _ => (fun _ => 0)) (fun _ => (fun _ => 0)) hc (show (120 - z38.toInt).toNat < (120 - (u4_ 1).toInt).toNat from by omega)
  · skip
    have hc : va_P (dC, dI) vwCl [(h0, .inr (13, mX13 q0 v0)), ((q0 6), zi k5 120 f5), ((q0 11), zi k10 120 f10), ((q0 5), zi k4 122880 f4), ((q0 12), zi k11 120 f11)] s.heap ∧ va_D A [(h0, .inr (13, mX13 q0 v0)), ((q0 6), zi k5 120 f5), ((q0 11), zi k10 120 f10), ((q0 5), zi k4 122880 f4), ((q0 12), zi k11 120 f11)] ∧ va_S A s.heap s.heap [] ∧ lv_has ls 4 [(0, .ref h0), (1, .int x1), (2, .int 0), (3, .int 0)] ∧ (0 ≤ (0 : Int32).toInt ∧ (0 : Int32).toInt ≤ 120) := ⟨hP, hD, hS, lv_sub hl [2, 3, 1, 0] rfl, (by first | with_reducible assumption | exact ⟨by omega, by omega⟩)⟩
    exact hJ4 s.heap [] ls (fun i => ([0, 0] : List (Int32)).getD i 0) (fun _ => 0) (fun _ => (fun _ => 0)) (fun _ => (fun _ => 0)) hc
set_option maxHeartbeats 8000000 in
set_option maxRecDepth 100000 in
theorem sX13_order_0 (l : Launch) (dC : Nat → ClassId) (dI : Nat → Nat → Nat) (adK adV : Nat → Nat) (h0 : Nat) (q0 : Nat → Nat) (k3 : ClassId) (k2 : ClassId) (sz : Nat) (v0 : Nat → Int32) (f3 : Nat → Int32) (f2 : Nat → Int32) (x1 : Int32) (x2 : Int32) (hv0 : zR rg_Model v0) (hf3 : zA 0 12 f3) (hx1 : 0 ≤ x1.toInt ∧ x1.toInt ≤ 399) (hx2 : 0 ≤ x2.toInt ∧ x2.toInt ≤ 399) : Met l yX13_order (zw yX13_order cX13_order 4 (some .int)) { frames := 0, cells := 0, slots := 0, locals := 0 } (zPc dC dI adK adV [.ref h0, .int x1, .int x2] sz [(h0, .inr (13, mX13 q0 v0)), ((q0 3), zi k3 400 f3), ((q0 2), zi k2 4800 f2)] [(k3, .int), (k2, .byte)]) (va_Qi (fun (r : Int32) (u : Nat → Int32) => True) (fun (u : Nat → Int32) (t : State) => ∃ (ww : Nat → Int64) (aa : Nat → Nat → Int32) (bb : Nat → Nat → Int64), va_P (dC, dI) vwCl [(h0, .inr (13, mX13 q0 v0)), ((q0 3), zi k3 400 f3), ((q0 2), zi k2 4800 f2)] t.heap ∧ va_K (dC, dI) vwCl [(k3, .int), (k2, .byte)] t ∧ va_D (va_A [(h0, .inr (13, mX13 q0 v0)), ((q0 3), zi k3 400 f3), ((q0 2), zi k2 4800 f2)] sz) [(h0, .inr (13, mX13 q0 v0)), ((q0 3), zi k3 400 f3), ((q0 2), zi k2 4800 f2)]) (va_A [(h0, .inr (13, mX13 q0 v0)), ((q0 3), zi k3 400 f3), ((q0 2), zi k2 4800 f2)] sz)) 0 0 (va_A [(h0, .inr (13, mX13 q0 v0)), ((q0 3), zi k3 400 f3), ((q0 2), zi k2 4800 f2)] sz) := by
  refine Met.ofW (cc := cX13_order) (maxL := 4) (ret := (some .int)) (by decide) rfl ?_
  intro p e s m args below meth c s₁ B hml hv
  obtain ⟨rfl, hsz, hP, hK, hD0, hE, hZ⟩ := hv
  have hx := B.exec
  have hb := B.bytes
  have hr := B.returns
  have hG : ∀ w ∈ zG, w.before _ s = true := fun w h => atoms_spec (ws := (zw yX13_order cX13_order 4 (some .int))) B.pre w (List.mem_cons_of_mem _ h)
  have hown : s.vm.findClass RX13 = some m.cls := findClass_of_methodNamed B.named
  have hlocks := B.notSynchronized

  subst hsz
  have hD := hD0.self (sz := s.heap.size)
  generalize hAe : va_A [(h0, .inr (13, mX13 q0 v0)), ((q0 3), zi k3 400 f3), ((q0 2), zi k2 4800 f2)] s.heap.size = A at hD hZ ⊢
  have hA : ∀ q : Nat, s.heap.size ≤ q → A q := fun q h => by rw [← hAe]; exact Or.inr h
  have hS : va_S A s.heap s.heap [] := va_S.rf
  have hl := lv_entry ([.ref h0, .int x1, .int x2]) (n := 4) (Nat.le_of_ble_eq_true rfl)
  rw [lg_entry_eq]
  generalize (lg_sl ([.ref h0, .int x1, .int x2]) ++ List.replicate (4 - (lg_sl ([.ref h0, .int x1, .int x2])).length) Slot.unset).toArray = ls at hl ⊢
  have hl : lv_has ls 4 [(0, .ref h0), (1, .int x1), (2, .int x2)] := hl
  have b_ := zk_0
  refine lv_iconst (v := 0) hx hb dX13_order_0 (by decide) ?_
  refine lv_istore_n (lv' := [(3, .int 0), (0, .ref h0), (1, .int x1), (2, .int x2)]) hx hb dX13_order_1 rfl hl (by decide) rfl (fun ls hl => ?_)
  refine zcutL (fun u2_ => (12 - (u2_ 0).toInt).toNat) (fun H locs ls u2_ w2_ a2_ b2_ => va_P (dC, dI) vwCl [(h0, .inr (13, mX13 q0 v0)), ((q0 3), zi k3 400 f3), ((q0 2), zi k2 4800 f2)] H ∧ va_D A [(h0, .inr (13, mX13 q0 v0)), ((q0 3), zi k3 400 f3), ((q0 2), zi k2 4800 f2)] ∧ va_S A s.heap H locs ∧ lv_has ls 4 [(0, .ref h0), (1, .int x1), (2, .int x2), (3, .int (u2_ 0))] ∧ (0 ≤ (u2_ 0).toInt ∧ (u2_ 0).toInt ≤ 12)) (fun ls u2_ w2_ => F0 m 2 ls []) 0 0 ?_ (fun hJ2 => ?_)
  · skip
    intro H locs ls u2_ w2_ a2_ b2_ hc hJ2
    obtain ⟨hP, hD, hS, hl, b_⟩ := hc
    refine lv_iload_n hx hb dX13_order_2 rfl (lv_at hl 3 rfl) ?_
    refine lv_aload_n hx hb dX13_order_3 rfl (lv_at hl 0 rfl) ?_
    refine va_get (D := (dC, dI)) (ci := 13) (v := .ref (q0 3)) (C := RX13) (T := TX13) (N := 75) hx hb hG zuX13 hown hK hP 0 rfl rfl 3 (by decide) (hG _ zv1607) (fun _ h9 => h9) rfl dX13_order_4 ?_
    refine lv_iload_n hx hb dX13_order_7 rfl (lv_at hl 1 rfl) ?_
    refine va_iald hx hb hK hP 1 0 rfl rfl (zin_lit ⟨by omega, by omega⟩) dX13_order_8 ?_
    refine lv_topi (fun z8 e_z8 => ?_)
    have b_ : 0 ≤ z8.toInt ∧ z8.toInt ≤ 12 := by rw [e_z8]; exact hf3 _
    refine zcutW (fun H locs ls u77_ w77_ a77_ b77_ => va_P (dC, dI) vwCl [(h0, .inr (13, mX13 q0 v0)), ((q0 3), zi k3 400 f3), ((q0 2), zi k2 4800 f2)] H ∧ va_D A [(h0, .inr (13, mX13 q0 v0)), ((q0 3), zi k3 400 f3), ((q0 2), zi k2 4800 f2)] ∧ va_S A s.heap H locs ∧ lv_has ls 4 [(0, .ref h0), (1, .int x1), (2, .int x2), (3, .int (u2_ 0))] ∧ (0 ≤ (u2_ 0).toInt ∧ (u2_ 0).toInt ≤ 12) ∧ (0 ≤ z8.toInt ∧ z8.toInt ≤ 12)) (fun ls u77_ w77_ => F0 m 77 ls []) 0 0 ?_ (fun hJ77 => ?_)
    · skip
      intro H locs ls u77_ w77_ a77_ b77_ hc
      obtain ⟨hP, hD, hS, hl, b_, b_⟩ := hc
      refine lv_aload_n hx hb dX13_order_77 rfl (lv_at hl 0 rfl) ?_
      refine va_get (D := (dC, dI)) (ci := 13) (v := .ref (q0 3)) (C := RX13) (T := TX13) (N := 75) hx hb hG zuX13 hown hK hP 0 rfl rfl 3 (by decide) (hG _ zv1607) (fun _ h9 => h9) rfl dX13_order_78 ?_
      refine lv_iload_n hx hb dX13_order_81 rfl (lv_at hl 1 rfl) ?_
      refine va_iald hx hb hK hP 1 0 rfl rfl (zin_lit ⟨by omega, by omega⟩) dX13_order_82 ?_
      refine lv_topi (fun z82 e_z82 => ?_)
      have b_ : 0 ≤ z82.toInt ∧ z82.toInt ≤ 12 := by rw [e_z82]; exact hf3 _
      refine lv_aload_n hx hb dX13_order_83 rfl (lv_at hl 0 rfl) ?_
      refine va_get (D := (dC, dI)) (ci := 13) (v := .ref (q0 3)) (C := RX13) (T := TX13) (N := 75) hx hb hG zuX13 hown hK hP 0 rfl rfl 3 (by decide) (hG _ zv1607) (fun _ h9 => h9) rfl dX13_order_84 ?_
      refine lv_iload_n hx hb dX13_order_87 rfl (lv_at hl 2 rfl) ?_
      refine va_iald hx hb hK hP 1 0 rfl rfl (zin_lit ⟨by omega, by omega⟩) dX13_order_88 ?_
      refine lv_topi (fun z88 e_z88 => ?_)
      have b_ : 0 ≤ z88.toInt ∧ z88.toInt ≤ 12 := by rw [e_z88]; exact hf3 _
      refine lv_isub hx hb dX13_order_89 ?_
      refine lv_topi (fun z89 e_z89 => ?_)
      have b_ := zsub rfl rfl e_z89 (by omega) (by omega)
      refine W.widen (k := 0) (n := 0) (by decide) (by decide) ?_
      have hpost : True := trivial
      have hP9 : va_P (dC, dI) vwCl [(h0, .inr (13, mX13 q0 v0)), ((q0 3), zi k3 400 f3), ((q0 2), zi k2 4800 f2)] H := hP
      have hD9 : va_D A [(h0, .inr (13, mX13 q0 v0)), ((q0 3), zi k3 400 f3), ((q0 2), zi k2 4800 f2)] := hD
      exact W.iret (v := z89) hx hb hr (fun t ht hW => ⟨⟨z89, (fun _ => 0), rfl, hpost, (fun _ => 0), (fun _ => (fun _ => 0)), (fun _ => (fun _ => 0)), by rw [ht]; exact hP9, va_K.moved hW.alike hK, hD9⟩, hS.F ht⟩) hS.2.2 dX13_order_90
    · skip
      refine lv_icmp_ge (tgt := 77) hx hb dX13_order_9 (by decide) (fun c_ => ?_) (fun c_ => ?_)
      · skip
        have b_ := zT_ge rfl rfl c_
        have hc : va_P (dC, dI) vwCl [(h0, .inr (13, mX13 q0 v0)), ((q0 3), zi k3 400 f3), ((q0 2), zi k2 4800 f2)] H ∧ va_D A [(h0, .inr (13, mX13 q0 v0)), ((q0 3), zi k3 400 f3), ((q0 2), zi k2 4800 f2)] ∧ va_S A s.heap H locs ∧ lv_has ls 4 [(0, .ref h0), (1, .int x1), (2, .int x2), (3, .int (u2_ 0))] ∧ (0 ≤ (u2_ 0).toInt ∧ (u2_ 0).toInt ≤ 12) ∧ (0 ≤ z8.toInt ∧ z8.toInt ≤ 12) := ⟨hP, hD, hS, lv_sub hl [0, 1, 2, 3] rfl, (by first | with_reducible assumption | exact ⟨by omega, by omega⟩), (by first | with_reducible assumption | exact ⟨by omega, by omega⟩)⟩
        exact hJ77 H locs ls (fun _ => 0) (fun _ => 0) (fun _ => (fun _ => 0)) (fun _ => (fun _ => 0)) hc
      · skip
        have b_ := zF_ge rfl rfl c_
        refine lv_iload_n hx hb dX13_order_12 rfl (lv_at hl 3 rfl) ?_
        refine lv_aload_n hx hb dX13_order_13 rfl (lv_at hl 0 rfl) ?_
        refine va_get (D := (dC, dI)) (ci := 13) (v := .ref (q0 3)) (C := RX13) (T := TX13) (N := 75) hx hb hG zuX13 hown hK hP 0 rfl rfl 3 (by decide) (hG _ zv1607) (fun _ h9 => h9) rfl dX13_order_14 ?_
        refine lv_iload_n hx hb dX13_order_17 rfl (lv_at hl 2 rfl) ?_
        refine va_iald hx hb hK hP 1 0 rfl rfl (zin_lit ⟨by omega, by omega⟩) dX13_order_18 ?_
        refine lv_topi (fun z18 e_z18 => ?_)
        have b_ : 0 ≤ z18.toInt ∧ z18.toInt ≤ 12 := by rw [e_z18]; exact hf3 _
        refine lv_icmp_ge (tgt := 77) hx hb dX13_order_19 (by decide) (fun c_ => ?_) (fun c_ => ?_)
        · skip
          have b_ := zT_ge rfl rfl c_
          have hc : va_P (dC, dI) vwCl [(h0, .inr (13, mX13 q0 v0)), ((q0 3), zi k3 400 f3), ((q0 2), zi k2 4800 f2)] H ∧ va_D A [(h0, .inr (13, mX13 q0 v0)), ((q0 3), zi k3 400 f3), ((q0 2), zi k2 4800 f2)] ∧ va_S A s.heap H locs ∧ lv_has ls 4 [(0, .ref h0), (1, .int x1), (2, .int x2), (3, .int (u2_ 0))] ∧ (0 ≤ (u2_ 0).toInt ∧ (u2_ 0).toInt ≤ 12) ∧ (0 ≤ z8.toInt ∧ z8.toInt ≤ 12) := ⟨hP, hD, hS, lv_sub hl [0, 1, 2, 3] rfl, (by first | with_reducible assumption | exact ⟨by omega, by omega⟩), (by first | with_reducible assumption | exact ⟨by omega, by omega⟩)⟩
          exact hJ77 H locs ls (fun _ => 0) (fun _ => 0) (fun _ => (fun _ => 0)) (fun _ => (fun _ => 0)) hc
        · skip
          have b_ := zF_ge rfl rfl c_
          refine lv_aload_n hx hb dX13_order_22 rfl (lv_at hl 0 rfl) ?_
          refine va_get (D := (dC, dI)) (ci := 13) (v := .ref (q0 2)) (C := RX13) (T := TX13) (N := 75) hx hb hG zuX13 hown hK hP 0 rfl rfl 2 (by decide) (hG _ zv1606) (fun _ h9 => h9) rfl dX13_order_23 ?_
          refine lv_bipush (v := 12) hx hb dX13_order_26 (by decide) ?_
          refine lv_iload_n hx hb dX13_order_28 rfl (lv_at hl 1 rfl) ?_
          refine lv_imul hx hb dX13_order_29 ?_
          refine lv_topi (fun z29 e_z29 => ?_)
          have b_ := zmul zk_12 rfl e_z29 (by omega) (by omega)
          refine lv_iload_n hx hb dX13_order_30 rfl (lv_at hl 3 rfl) ?_
          refine lv_iadd hx hb dX13_order_31 ?_
          refine lv_topi (fun z31 e_z31 => ?_)
          have b_ := zadd rfl rfl e_z31 (by omega) (by omega)
          refine va_bald hx hb hK hP 2 1 rfl rfl (zin_lit ⟨by omega, by omega⟩) dX13_order_32 ?_
          refine lv_topi (fun z32 e_z32 => ?_)
          refine lv_aload_n hx hb dX13_order_33 rfl (lv_at hl 0 rfl) ?_
          refine va_get (D := (dC, dI)) (ci := 13) (v := .ref (q0 2)) (C := RX13) (T := TX13) (N := 75) hx hb hG zuX13 hown hK hP 0 rfl rfl 2 (by decide) (hG _ zv1606) (fun _ h9 => h9) rfl dX13_order_34 ?_
          refine lv_bipush (v := 12) hx hb dX13_order_37 (by decide) ?_
          refine lv_iload_n hx hb dX13_order_39 rfl (lv_at hl 2 rfl) ?_
          refine lv_imul hx hb dX13_order_40 ?_
          refine lv_topi (fun z40 e_z40 => ?_)
          have b_ := zmul zk_12 rfl e_z40 (by omega) (by omega)
          refine lv_iload_n hx hb dX13_order_41 rfl (lv_at hl 3 rfl) ?_
          refine lv_iadd hx hb dX13_order_42 ?_
          refine lv_topi (fun z42 e_z42 => ?_)
          have b_ := zadd rfl rfl e_z42 (by omega) (by omega)
          refine va_bald hx hb hK hP 2 1 rfl rfl (zin_lit ⟨by omega, by omega⟩) dX13_order_43 ?_
          refine lv_topi (fun z43 e_z43 => ?_)
          have b_ : -2147483648 ≤ z32.toInt ∧ z32.toInt ≤ 2147483647 := ⟨zlo _, zhi _⟩
          have b_ : -2147483648 ≤ z43.toInt ∧ z43.toInt ≤ 2147483647 := ⟨zlo _, zhi _⟩
          refine lv_icmp_eq (tgt := 71) hx hb dX13_order_44 (by decide) (fun c_ => ?_) (fun c_ => ?_)
          · skip
            have b_ := zT_eq rfl rfl c_
            obtain ⟨z71, e_z71⟩ : ∃ z : Int32, z = (u2_ 0) + Int32.ofInt 1 := ⟨_, rfl⟩
            have b_ := zadd (x := (u2_ 0)) (y := Int32.ofInt 1) rfl (show (Int32.ofInt 1).toInt = 1 from by decide) e_z71 (by omega) (by omega)
            refine lv_iinc (v := z71) (lv' := [(3, .int z71), (0, .ref h0), (1, .int x1), (2, .int x2)]) hx hb dX13_order_71 hl (k := 3) rfl e_z71.symm (by decide) rfl (fun ls hl => ?_)
            refine lv_goto (tgt := 2) hx hb dX13_order_74 (by decide) ?_
            have hc : va_P (dC, dI) vwCl [(h0, .inr (13, mX13 q0 v0)), ((q0 3), zi k3 400 f3), ((q0 2), zi k2 4800 f2)] H ∧ va_D A [(h0, .inr (13, mX13 q0 v0)), ((q0 3), zi k3 400 f3), ((q0 2), zi k2 4800 f2)] ∧ va_S A s.heap H locs ∧ lv_has ls 4 [(0, .ref h0), (1, .int x1), (2, .int x2), (3, .int z71)] ∧ (0 ≤ z71.toInt ∧ z71.toInt ≤ 12) := ⟨hP, hD, hS, lv_sub hl [1, 2, 3, 0] rfl, (by first | with_reducible assumption | exact ⟨by omega, by omega⟩)⟩
            exact hJ2 H locs ls (fun i => ([z71] : List (Int32)).getD i 0) (fun _ => 0) (fun _ => (fun _ => 0)) (fun _ => (fun _ => 0)) hc (show (12 - z71.toInt).toNat < (12 - (u2_ 0).toInt).toNat from by omega)
          · skip
            have b_ := zF_eq rfl rfl c_
            refine lv_aload_n hx hb dX13_order_47 rfl (lv_at hl 0 rfl) ?_
            refine va_get (D := (dC, dI)) (ci := 13) (v := .ref (q0 2)) (C := RX13) (T := TX13) (N := 75) hx hb hG zuX13 hown hK hP 0 rfl rfl 2 (by decide) (hG _ zv1606) (fun _ h9 => h9) rfl dX13_order_48 ?_
            refine lv_bipush (v := 12) hx hb dX13_order_51 (by decide) ?_
            refine lv_iload_n hx hb dX13_order_53 rfl (lv_at hl 1 rfl) ?_
            refine lv_imul hx hb dX13_order_54 ?_
            refine lv_topi (fun z54 e_z54 => ?_)
            have b_ := zmul zk_12 rfl e_z54 (by omega) (by omega)
            refine lv_iload_n hx hb dX13_order_55 rfl (lv_at hl 3 rfl) ?_
            refine lv_iadd hx hb dX13_order_56 ?_
            refine lv_topi (fun z56 e_z56 => ?_)
            have b_ := zadd rfl rfl e_z56 (by omega) (by omega)
            refine va_bald hx hb hK hP 2 1 rfl rfl (zin_lit ⟨by omega, by omega⟩) dX13_order_57 ?_
            refine lv_topi (fun z57 e_z57 => ?_)
            refine lv_aload_n hx hb dX13_order_58 rfl (lv_at hl 0 rfl) ?_
            refine va_get (D := (dC, dI)) (ci := 13) (v := .ref (q0 2)) (C := RX13) (T := TX13) (N := 75) hx hb hG zuX13 hown hK hP 0 rfl rfl 2 (by decide) (hG _ zv1606) (fun _ h9 => h9) rfl dX13_order_59 ?_
            refine lv_bipush (v := 12) hx hb dX13_order_62 (by decide) ?_
            refine lv_iload_n hx hb dX13_order_64 rfl (lv_at hl 2 rfl) ?_
            refine lv_imul hx hb dX13_order_65 ?_
            refine lv_topi (fun z65 e_z65 => ?_)
            have b_ := zmul zk_12 rfl e_z65 (by omega) (by omega)
            refine lv_iload_n hx hb dX13_order_66 rfl (lv_at hl 3 rfl) ?_
            refine lv_iadd hx hb dX13_order_67 ?_
            refine lv_topi (fun z67 e_z67 => ?_)
            have b_ := zadd rfl rfl e_z67 (by omega) (by omega)
            refine va_bald hx hb hK hP 2 1 rfl rfl (zin_lit ⟨by omega, by omega⟩) dX13_order_68 ?_
            refine lv_topi (fun z68 e_z68 => ?_)
            have b_ : -2147483648 ≤ z57.toInt ∧ z57.toInt ≤ 2147483647 := ⟨zlo _, zhi _⟩
            have b_ : -2147483648 ≤ z68.toInt ∧ z68.toInt ≤ 2147483647 := ⟨zlo _, zhi _⟩
            refine lv_isub hx hb dX13_order_69 ?_
            refine lv_topi (fun z69 e_z69 => ?_)
            refine W.widen (k := 0) (n := 0) (by decide) (by decide) ?_
            have b_ : -2147483648 ≤ z69.toInt ∧ z69.toInt ≤ 2147483647 := ⟨zlo _, zhi _⟩
            have hpost : True := trivial
            have hP9 : va_P (dC, dI) vwCl [(h0, .inr (13, mX13 q0 v0)), ((q0 3), zi k3 400 f3), ((q0 2), zi k2 4800 f2)] H := hP
            have hD9 : va_D A [(h0, .inr (13, mX13 q0 v0)), ((q0 3), zi k3 400 f3), ((q0 2), zi k2 4800 f2)] := hD
            exact W.iret (v := z69) hx hb hr (fun t ht hW => ⟨⟨z69, (fun _ => 0), rfl, hpost, (fun _ => 0), (fun _ => (fun _ => 0)), (fun _ => (fun _ => 0)), by rw [ht]; exact hP9, va_K.moved hW.alike hK, hD9⟩, hS.F ht⟩) hS.2.2 dX13_order_70
  · skip
    have hc : va_P (dC, dI) vwCl [(h0, .inr (13, mX13 q0 v0)), ((q0 3), zi k3 400 f3), ((q0 2), zi k2 4800 f2)] s.heap ∧ va_D A [(h0, .inr (13, mX13 q0 v0)), ((q0 3), zi k3 400 f3), ((q0 2), zi k2 4800 f2)] ∧ va_S A s.heap s.heap [] ∧ lv_has ls 4 [(0, .ref h0), (1, .int x1), (2, .int x2), (3, .int 0)] ∧ (0 ≤ (0 : Int32).toInt ∧ (0 : Int32).toInt ≤ 12) := ⟨hP, hD, hS, lv_sub hl [1, 2, 3, 0] rfl, (by first | with_reducible assumption | exact ⟨by omega, by omega⟩)⟩
    exact hJ2 s.heap [] ls (fun i => ([0] : List (Int32)).getD i 0) (fun _ => 0) (fun _ => (fun _ => 0)) (fun _ => (fun _ => 0)) hc
set_option maxHeartbeats 8000000 in
set_option maxRecDepth 100000 in
theorem sX13_ahead_0 (l : Launch) (dC : Nat → ClassId) (dI : Nat → Nat → Nat) (adK adV : Nat → Nat) (h0 : Nat) (q0 : Nat → Nat) (k3 : ClassId) (k2 : ClassId) (sz : Nat) (v0 : Nat → Int32) (f3 : Nat → Int32) (f2 : Nat → Int32) (x1 : Int32) (hv0 : zR rg_Model v0) (hf3 : zA 0 12 f3) (hx1 : 0 ≤ x1.toInt ∧ x1.toInt ≤ 399) : Met l yX13_ahead (zw yX13_ahead cX13_ahead 4 (some .int)) { frames := 1, cells := 0, slots := 0, locals := 23 } (zPc dC dI adK adV [.ref h0, .int x1] sz [(h0, .inr (13, mX13 q0 v0)), ((q0 3), zi k3 400 f3), ((q0 2), zi k2 4800 f2)] [(k3, .int), (k2, .byte)]) (va_Qi (fun (r : Int32) (u : Nat → Int32) => True) (fun (u : Nat → Int32) (t : State) => ∃ (ww : Nat → Int64) (aa : Nat → Nat → Int32) (bb : Nat → Nat → Int64), va_P (dC, dI) vwCl [(h0, .inr (13, mX13 q0 v0)), ((q0 3), zi k3 400 f3), ((q0 2), zi k2 4800 f2)] t.heap ∧ va_K (dC, dI) vwCl [(k3, .int), (k2, .byte)] t ∧ va_D (va_A [(h0, .inr (13, mX13 q0 v0)), ((q0 3), zi k3 400 f3), ((q0 2), zi k2 4800 f2)] sz) [(h0, .inr (13, mX13 q0 v0)), ((q0 3), zi k3 400 f3), ((q0 2), zi k2 4800 f2)]) (va_A [(h0, .inr (13, mX13 q0 v0)), ((q0 3), zi k3 400 f3), ((q0 2), zi k2 4800 f2)] sz)) 0 0 (va_A [(h0, .inr (13, mX13 q0 v0)), ((q0 3), zi k3 400 f3), ((q0 2), zi k2 4800 f2)] sz) := by
  refine Met.ofW (cc := cX13_ahead) (maxL := 4) (ret := (some .int)) (by decide) rfl ?_
  intro p e s m args below meth c s₁ B hml hv
  obtain ⟨rfl, hsz, hP, hK, hD0, hE, hZ⟩ := hv
  have hx := B.exec
  have hb := B.bytes
  have hr := B.returns
  have hG : ∀ w ∈ zG, w.before _ s = true := fun w h => atoms_spec (ws := (zw yX13_ahead cX13_ahead 4 (some .int))) B.pre w (List.mem_cons_of_mem _ h)
  have hown : s.vm.findClass RX13 = some m.cls := findClass_of_methodNamed B.named
  have hlocks := B.notSynchronized

  subst hsz
  have hD := hD0.self (sz := s.heap.size)
  generalize hAe : va_A [(h0, .inr (13, mX13 q0 v0)), ((q0 3), zi k3 400 f3), ((q0 2), zi k2 4800 f2)] s.heap.size = A at hD hZ ⊢
  have hA : ∀ q : Nat, s.heap.size ≤ q → A q := fun q h => by rw [← hAe]; exact Or.inr h
  have hS : va_S A s.heap s.heap [] := va_S.rf
  have hl := lv_entry ([.ref h0, .int x1]) (n := 4) (Nat.le_of_ble_eq_true rfl)
  rw [lg_entry_eq]
  generalize (lg_sl ([.ref h0, .int x1]) ++ List.replicate (4 - (lg_sl ([.ref h0, .int x1])).length) Slot.unset).toArray = ls at hl ⊢
  have hl : lv_has ls 4 [(0, .ref h0), (1, .int x1)] := hl
  have b_ := zk_0
  refine lv_iconst (v := 0) hx hb dX13_ahead_0 (by decide) ?_
  refine lv_istore_n (lv' := [(2, .int 0), (0, .ref h0), (1, .int x1)]) hx hb dX13_ahead_1 rfl hl (by decide) rfl (fun ls hl => ?_)
  refine lv_iconst (v := 0) hx hb dX13_ahead_2 (by decide) ?_
  refine lv_istore_n (lv' := [(3, .int 0), (2, .int 0), (0, .ref h0), (1, .int x1)]) hx hb dX13_ahead_3 rfl hl (by decide) rfl (fun ls hl => ?_)
  refine zcutL (fun u4_ => (400 - (u4_ 1).toInt).toNat) (fun H locs ls u4_ w4_ a4_ b4_ => va_P (dC, dI) vwCl [(h0, .inr (13, mX13 q0 v0)), ((q0 3), zi k3 400 f3), ((q0 2), zi k2 4800 f2)] H ∧ va_D A [(h0, .inr (13, mX13 q0 v0)), ((q0 3), zi k3 400 f3), ((q0 2), zi k2 4800 f2)] ∧ va_S A s.heap H locs ∧ lv_has ls 4 [(0, .ref h0), (1, .int x1), (2, .int (u4_ 0)), (3, .int (u4_ 1))] ∧ (0 ≤ (u4_ 1).toInt ∧ (u4_ 1).toInt ≤ 400)) (fun ls u4_ w4_ => F0 m 4 ls []) 0 0 ?_ (fun hJ4 => ?_)
  · skip
    intro H locs ls u4_ w4_ a4_ b4_ hc hJ4
    obtain ⟨hP, hD, hS, hl, b_⟩ := hc
    refine lv_iload_n hx hb dX13_ahead_4 rfl (lv_at hl 3 rfl) ?_
    refine lv_aload_n hx hb dX13_ahead_5 rfl (lv_at hl 0 rfl) ?_
    have b_ : 0 ≤ (v0 4).toInt ∧ (v0 4).toInt ≤ 400 := hv0 4
    refine va_get (D := (dC, dI)) (ci := 13) (v := .int (v0 4)) (C := RX13) (T := TX13) (N := 75) hx hb hG zuX13 hown hK hP 0 rfl rfl 4 (by decide) (hG _ zv1608) (fun _ h9 => h9) rfl dX13_ahead_6 ?_
    refine lv_icmp_ge (tgt := 35) hx hb dX13_ahead_9 (by decide) (fun c_ => ?_) (fun c_ => ?_)
    · skip
      have b_ := zT_ge rfl rfl c_
      refine lv_iload_n hx hb dX13_ahead_35 rfl (lv_at hl 2 rfl) ?_
      refine W.widen (k := 0) (n := 0) (by decide) (by decide) ?_
      have b_ : -2147483648 ≤ (u4_ 0).toInt ∧ (u4_ 0).toInt ≤ 2147483647 := ⟨zlo _, zhi _⟩
      have hpost : True := trivial
      have hP9 : va_P (dC, dI) vwCl [(h0, .inr (13, mX13 q0 v0)), ((q0 3), zi k3 400 f3), ((q0 2), zi k2 4800 f2)] H := hP
      have hD9 : va_D A [(h0, .inr (13, mX13 q0 v0)), ((q0 3), zi k3 400 f3), ((q0 2), zi k2 4800 f2)] := hD
      exact W.iret (v := (u4_ 0)) hx hb hr (fun t ht hW => ⟨⟨(u4_ 0), (fun _ => 0), rfl, hpost, (fun _ => 0), (fun _ => (fun _ => 0)), (fun _ => (fun _ => 0)), by rw [ht]; exact hP9, va_K.moved hW.alike hK, hD9⟩, hS.F ht⟩) hS.2.2 dX13_ahead_36
    · skip
      have b_ := zF_ge rfl rfl c_
      refine lv_iload_n hx hb dX13_ahead_12 rfl (lv_at hl 2 rfl) ?_
      refine lv_aload_n hx hb dX13_ahead_13 rfl (lv_at hl 0 rfl) ?_
      refine lv_iload_n hx hb dX13_ahead_14 rfl (lv_at hl 3 rfl) ?_
      refine lv_iload_n hx hb dX13_ahead_15 rfl (lv_at hl 1 rfl) ?_
      have hPc := hP.sub (ws' := [(h0, .inr (13, mX13 q0 v0)), ((q0 3), zi k3 400 f3), ((q0 2), zi k2 4800 f2)]) [0, 1, 2] rfl
      have hDc := hD.sub (ws' := [(h0, .inr (13, mX13 q0 v0)), ((q0 3), zi k3 400 f3), ((q0 2), zi k2 4800 f2)]) [0, 1, 2] (by decide) rfl
      have hKc := hK.sub (tys' := [(k3, .int), (k2, .byte)]) [0, 1] rfl
      have hFc := va_free (wc := [(h0, .inr (13, mX13 q0 v0)), ((q0 3), zi k3 400 f3), ((q0 2), zi k2 4800 f2)]) hD hS hA [0, 1, 2] rfl
      refine va_calli (va_runV (As := [.int (u4_ 1), .int x1]) (rest := [.int (u4_ 0)]) ⟨hx, hb, hml, hown, hG⟩ (sX13_order_0 l dC dI adK adV h0 q0 k3 k2 H.size v0 f3 f2 (u4_ 1) x1 hv0 hf3 (show (0 : Int) ≤ ((u4_ 1) : Int32).toInt ∧ ((u4_ 1) : Int32).toInt ≤ (399 : Int) from (by first | with_reducible assumption | exact ⟨by omega, by omega⟩)) (show (0 : Int) ≤ (x1 : Int32).toInt ∧ (x1 : Int32).toInt ≤ (399 : Int) from (by first | with_reducible assumption | exact ⟨by omega, by omega⟩))) (cwV 2 hG (zgV zv2010 zv2012 zv77 zv142 zv2013) rfl rfl rfl (by decide +kernel) ⟨Nat.le_of_ble_eq_true rfl, Nat.le_of_ble_eq_true rfl⟩) ⟨zPc_blind, va_recv hKc hPc (ci := 13) (q0 := 0) rfl rfl, zPc_pre hPc hKc hDc hE hS hFc hZ⟩ rfl rfl hl.1 rfl (lv_room (Nat.le_of_ble_eq_true rfl)) dX13_ahead_16 ⟨Nat.le_of_ble_eq_true rfl, Nat.le_of_ble_eq_true rfl⟩) hS (fun q _ h => hFc q h) hFc (fun r16_ u16_ t H1 locs ht hvm hw hB hz1 hk1 hS => ?_)
      obtain ⟨w16_, a16_, b16_, hP1, hK1, hD1⟩ := hB
      rw [ht] at hP1
      obtain ⟨hP, hD⟩ := va_join (wr := []) (w1 := [(h0, .inr (13, mX13 q0 v0)), ((q0 3), zi k3 400 f3), ((q0 2), zi k2 4800 f2)]) hP hD [0, 1, 2] [] rfl rfl (by decide) (by decide) hk1 hFc hP1 hD1
      have hP : va_P (dC, dI) vwCl [(h0, .inr (13, mX13 q0 v0)), ((q0 3), zi k3 400 f3), ((q0 2), zi k2 4800 f2)] H1 := hP.sub [0, 1, 2] rfl
      have hD : va_D A [(h0, .inr (13, mX13 q0 v0)), ((q0 3), zi k3 400 f3), ((q0 2), zi k2 4800 f2)] := hD.sub [0, 1, 2] (by decide) rfl
      generalize H1 = H at hP hS ⊢
      clear hz1
      have b_ : -2147483648 ≤ r16_.toInt ∧ r16_.toInt ≤ 2147483647 := ⟨zlo _, zhi _⟩
      refine lv_if_ge (tgt := 26) hx hb dX13_ahead_19 (by decide) (fun c_ => ?_) (fun c_ => ?_)
      · skip
        have b_ := zT_ge rfl zk_0 c_
        refine lv_iconst (v := 0) hx hb dX13_ahead_26 (by decide) ?_
        have b_ : -2147483648 ≤ (u4_ 0).toInt ∧ (u4_ 0).toInt ≤ 2147483647 := ⟨zlo _, zhi _⟩
        refine lv_iadd hx hb dX13_ahead_27 ?_
        refine lv_topi (fun z27 e_z27 => ?_)
        have b_ := zadd rfl zk_0 e_z27 (by omega) (by omega)
        refine lv_istore_n (lv' := [(2, .int z27), (0, .ref h0), (1, .int x1), (3, .int (u4_ 1))]) hx hb dX13_ahead_28 rfl hl (by decide) rfl (fun ls hl => ?_)
        obtain ⟨z29, e_z29⟩ : ∃ z : Int32, z = (u4_ 1) + Int32.ofInt 1 := ⟨_, rfl⟩
        have b_ := zadd (x := (u4_ 1)) (y := Int32.ofInt 1) rfl (show (Int32.ofInt 1).toInt = 1 from by decide) e_z29 (by omega) (by omega)
        refine lv_iinc (v := z29) (lv' := [(3, .int z29), (2, .int z27), (0, .ref h0), (1, .int x1)]) hx hb dX13_ahead_29 hl (k := 3) rfl e_z29.symm (by decide) rfl (fun ls hl => ?_)
        refine lv_goto (tgt := 4) hx hb dX13_ahead_32 (by decide) ?_
        have hc : va_P (dC, dI) vwCl [(h0, .inr (13, mX13 q0 v0)), ((q0 3), zi k3 400 f3), ((q0 2), zi k2 4800 f2)] H ∧ va_D A [(h0, .inr (13, mX13 q0 v0)), ((q0 3), zi k3 400 f3), ((q0 2), zi k2 4800 f2)] ∧ va_S A s.heap H locs ∧ lv_has ls 4 [(0, .ref h0), (1, .int x1), (2, .int z27), (3, .int z29)] ∧ (0 ≤ z29.toInt ∧ z29.toInt ≤ 400) := ⟨hP, hD, hS, lv_sub hl [2, 3, 1, 0] rfl, (by first | with_reducible assumption | exact ⟨by omega, by omega⟩)⟩
        exact hJ4 H locs ls (fun i => ([z27, z29] : List (Int32)).getD i 0) (fun _ => 0) (fun _ => (fun _ => 0)) (fun _ => (fun _ => 0)) hc (show (400 - z29.toInt).toNat < (400 - (u4_ 1).toInt).toNat from by omega)
      · skip
        have b_ := zF_ge rfl zk_0 c_
        refine lv_iconst (v := 1) hx hb dX13_ahead_22 (by decide) ?_
        refine lv_goto (tgt := 27) hx hb dX13_ahead_23 (by decide) ?_
        have b_ : -2147483648 ≤ (u4_ 0).toInt ∧ (u4_ 0).toInt ≤ 2147483647 := ⟨zlo _, zhi _⟩
        refine lv_iadd hx hb dX13_ahead_27 ?_
        refine lv_topi (fun z27 e_z27 => ?_)
        refine lv_istore_n (lv' := [(2, .int z27), (0, .ref h0), (1, .int x1), (3, .int (u4_ 1))]) hx hb dX13_ahead_28 rfl hl (by decide) rfl (fun ls hl => ?_)
        obtain ⟨z29, e_z29⟩ : ∃ z : Int32, z = (u4_ 1) + Int32.ofInt 1 := ⟨_, rfl⟩
        have b_ := zadd (x := (u4_ 1)) (y := Int32.ofInt 1) rfl (show (Int32.ofInt 1).toInt = 1 from by decide) e_z29 (by omega) (by omega)
        refine lv_iinc (v := z29) (lv' := [(3, .int z29), (2, .int z27), (0, .ref h0), (1, .int x1)]) hx hb dX13_ahead_29 hl (k := 3) rfl e_z29.symm (by decide) rfl (fun ls hl => ?_)
        refine lv_goto (tgt := 4) hx hb dX13_ahead_32 (by decide) ?_
        have b_ : -2147483648 ≤ z27.toInt ∧ z27.toInt ≤ 2147483647 := ⟨zlo _, zhi _⟩
        have hc : va_P (dC, dI) vwCl [(h0, .inr (13, mX13 q0 v0)), ((q0 3), zi k3 400 f3), ((q0 2), zi k2 4800 f2)] H ∧ va_D A [(h0, .inr (13, mX13 q0 v0)), ((q0 3), zi k3 400 f3), ((q0 2), zi k2 4800 f2)] ∧ va_S A s.heap H locs ∧ lv_has ls 4 [(0, .ref h0), (1, .int x1), (2, .int z27), (3, .int z29)] ∧ (0 ≤ z29.toInt ∧ z29.toInt ≤ 400) := ⟨hP, hD, hS, lv_sub hl [2, 3, 1, 0] rfl, (by first | with_reducible assumption | exact ⟨by omega, by omega⟩)⟩
        exact hJ4 H locs ls (fun i => ([z27, z29] : List (Int32)).getD i 0) (fun _ => 0) (fun _ => (fun _ => 0)) (fun _ => (fun _ => 0)) hc (show (400 - z29.toInt).toNat < (400 - (u4_ 1).toInt).toNat from by omega)
  · skip
    have hc : va_P (dC, dI) vwCl [(h0, .inr (13, mX13 q0 v0)), ((q0 3), zi k3 400 f3), ((q0 2), zi k2 4800 f2)] s.heap ∧ va_D A [(h0, .inr (13, mX13 q0 v0)), ((q0 3), zi k3 400 f3), ((q0 2), zi k2 4800 f2)] ∧ va_S A s.heap s.heap [] ∧ lv_has ls 4 [(0, .ref h0), (1, .int x1), (2, .int 0), (3, .int 0)] ∧ (0 ≤ (0 : Int32).toInt ∧ (0 : Int32).toInt ≤ 400) := ⟨hP, hD, hS, lv_sub hl [2, 3, 1, 0] rfl, (by first | with_reducible assumption | exact ⟨by omega, by omega⟩)⟩
    exact hJ4 s.heap [] ls (fun i => ([0, 0] : List (Int32)).getD i 0) (fun _ => 0) (fun _ => (fun _ => 0)) (fun _ => (fun _ => 0)) hc
theorem zv1999 : (.methodLink RX13 316 yX13_chunks : Cond) ∈ zG := zin8 191 (by decide +kernel) (by decide +kernel)
set_option maxHeartbeats 8000000 in
set_option maxRecDepth 100000 in
theorem sX13_posting_0 (l : Launch) (dC : Nat → ClassId) (dI : Nat → Nat → Nat) (adK adV : Nat → Nat) (h0 : Nat) (q0 : Nat → Nat) (k14 : ClassId) (k15 : ClassId) (k3 : ClassId) (k2 : ClassId) (k6 : ClassId) (k10 : ClassId) (k4 : ClassId) (k11 : ClassId) (k16 : ClassId) (k5 : ClassId) (sz : Nat) (v0 : Nat → Int32) (f14 : Nat → Int32) (f15 : Nat → Int32) (f3 : Nat → Int32) (f2 : Nat → Int32) (f6 : Nat → Int32) (f10 : Nat → Int32) (f4 : Nat → Int32) (f11 : Nat → Int32) (f16 : Nat → Int32) (f5 : Nat → Int32) (x1 : Int32) (hv0 : zR rg_Model v0) (hf3 : zA 0 12 f3) (hf10 : zA 0 512 f10) (hf4 : zA 0 400 f4) (hf11 : zA 0 512 f11) : Met l yX13_posting (zw yX13_posting cX13_posting 5 (some .int)) { frames := 3, cells := 0, slots := 0, locals := 72 } (zPc dC dI adK adV [.ref h0, .int x1] sz [(h0, .inr (13, mX13 q0 v0)), ((q0 17), zi k14 12 f14), ((q0 19), zi k15 12 f15), ((q0 3), zi k3 400 f3), ((q0 2), zi k2 4800 f2), ((q0 7), zi k6 120 f6), ((q0 11), zi k10 120 f10), ((q0 5), zi k4 122880 f4), ((q0 12), zi k11 120 f11), ((q0 22), zi k16 40000 f16), ((q0 6), zi k5 120 f5)] [(k14, .byte), (k15, .byte), (k3, .int), (k2, .byte), (k6, .boolean), (k10, .int), (k4, .short), (k11, .int), (k16, .byte), (k5, .boolean)]) (va_Qi (fun (r : Int32) (u : Nat → Int32) => (0 ≤ (u 0).toInt ∧ (u 0).toInt ≤ 12) ∧ (0 ≤ (u 1).toInt ∧ (u 1).toInt ≤ 0) ∧ (0 ≤ (u 3).toInt ∧ (u 3).toInt ≤ 1)) (fun (u : Nat → Int32) (t : State) => ∃ (ww : Nat → Int64) (aa : Nat → Nat → Int32) (bb : Nat → Nat → Int64), va_P (dC, dI) vwCl [(h0, .inr (13, mX13 q0 (upd (upd (upd (upd v0 20 (u 0)) 21 (u 1)) 23 (u 2)) 24 (u 3)))), ((q0 17), zi k14 12 f14), ((q0 19), zi k15 12 (aa 0)), ((q0 3), zi k3 400 f3), ((q0 2), zi k2 4800 f2), ((q0 7), zi k6 120 f6), ((q0 11), zi k10 120 f10), ((q0 5), zi k4 122880 f4), ((q0 12), zi k11 120 f11), ((q0 22), zi k16 40000 (aa 1)), ((q0 6), zi k5 120 f5)] t.heap ∧ va_K (dC, dI) vwCl [(k14, .byte), (k15, .byte), (k3, .int), (k2, .byte), (k6, .boolean), (k10, .int), (k4, .short), (k11, .int), (k16, .byte), (k5, .boolean)] t ∧ va_D (va_A [(h0, .inr (13, mX13 q0 v0)), ((q0 17), zi k14 12 f14), ((q0 19), zi k15 12 f15), ((q0 3), zi k3 400 f3), ((q0 2), zi k2 4800 f2), ((q0 7), zi k6 120 f6), ((q0 11), zi k10 120 f10), ((q0 5), zi k4 122880 f4), ((q0 12), zi k11 120 f11), ((q0 22), zi k16 40000 f16), ((q0 6), zi k5 120 f5)] sz) [(h0, .inr (13, mX13 q0 (upd (upd (upd (upd v0 20 (u 0)) 21 (u 1)) 23 (u 2)) 24 (u 3)))), ((q0 17), zi k14 12 f14), ((q0 19), zi k15 12 (aa 0)), ((q0 3), zi k3 400 f3), ((q0 2), zi k2 4800 f2), ((q0 7), zi k6 120 f6), ((q0 11), zi k10 120 f10), ((q0 5), zi k4 122880 f4), ((q0 12), zi k11 120 f11), ((q0 22), zi k16 40000 (aa 1)), ((q0 6), zi k5 120 f5)]) (va_A [(h0, .inr (13, mX13 q0 v0)), ((q0 17), zi k14 12 f14), ((q0 19), zi k15 12 f15), ((q0 3), zi k3 400 f3), ((q0 2), zi k2 4800 f2), ((q0 7), zi k6 120 f6), ((q0 11), zi k10 120 f10), ((q0 5), zi k4 122880 f4), ((q0 12), zi k11 120 f11), ((q0 22), zi k16 40000 f16), ((q0 6), zi k5 120 f5)] sz)) 0 0 (va_A [(h0, .inr (13, mX13 q0 v0)), ((q0 17), zi k14 12 f14), ((q0 19), zi k15 12 f15), ((q0 3), zi k3 400 f3), ((q0 2), zi k2 4800 f2), ((q0 7), zi k6 120 f6), ((q0 11), zi k10 120 f10), ((q0 5), zi k4 122880 f4), ((q0 12), zi k11 120 f11), ((q0 22), zi k16 40000 f16), ((q0 6), zi k5 120 f5)] sz) := by
  refine Met.ofW (cc := cX13_posting) (maxL := 5) (ret := (some .int)) (by decide) rfl ?_
  intro p e s m args below meth c s₁ B hml hv
  obtain ⟨rfl, hsz, hP, hK, hD0, hE, hZ⟩ := hv
  have hx := B.exec
  have hb := B.bytes
  have hr := B.returns
  have hG : ∀ w ∈ zG, w.before _ s = true := fun w h => atoms_spec (ws := (zw yX13_posting cX13_posting 5 (some .int))) B.pre w (List.mem_cons_of_mem _ h)
  have hown : s.vm.findClass RX13 = some m.cls := findClass_of_methodNamed B.named
  have hlocks := B.notSynchronized

  subst hsz
  have hD := hD0.self (sz := s.heap.size)
  generalize hAe : va_A [(h0, .inr (13, mX13 q0 v0)), ((q0 17), zi k14 12 f14), ((q0 19), zi k15 12 f15), ((q0 3), zi k3 400 f3), ((q0 2), zi k2 4800 f2), ((q0 7), zi k6 120 f6), ((q0 11), zi k10 120 f10), ((q0 5), zi k4 122880 f4), ((q0 12), zi k11 120 f11), ((q0 22), zi k16 40000 f16), ((q0 6), zi k5 120 f5)] s.heap.size = A at hD hZ ⊢
  have hA : ∀ q : Nat, s.heap.size ≤ q → A q := fun q h => by rw [← hAe]; exact Or.inr h
  have hS : va_S A s.heap s.heap [] := va_S.rf
  have hl := lv_entry ([.ref h0, .int x1]) (n := 5) (Nat.le_of_ble_eq_true rfl)
  rw [lg_entry_eq]
  generalize (lg_sl ([.ref h0, .int x1]) ++ List.replicate (5 - (lg_sl ([.ref h0, .int x1])).length) Slot.unset).toArray = ls at hl ⊢
  have hl : lv_has ls 5 [(0, .ref h0), (1, .int x1)] := hl
  have b_ := zk_0
  have b_ := zk_1
  have b_ := zk_2
  have b_ := zk_3
  refine lv_aload_n hx hb dX13_posting_0 rfl (lv_at hl 0 rfl) ?_
  refine lv_iconst (v := 0) hx hb dX13_posting_1 (by decide) ?_
  refine va_put (D := (dC, dI)) (ci := 13) (v := .int 0) (ty := .int) (C := RX13) (T := TX13) (N := 75) hx hb hG zuX13 tyX13 tyX13_ok nmX13 hown hK hP hD hS 0 rfl rfl 21 (by decide) (hG _ zv1625) (fun _ h9 => h9) rfl (by decide +kernel) rfl rfl (Nat.le_of_ble_eq_true rfl) dX13_posting_2 (fun H locs hP hD hS => ?_)
  have hP : va_P (dC, dI) vwCl [(h0, .inr (13, mX13 q0 (upd v0 21 0))), ((q0 17), zi k14 12 f14), ((q0 19), zi k15 12 f15), ((q0 3), zi k3 400 f3), ((q0 2), zi k2 4800 f2), ((q0 7), zi k6 120 f6), ((q0 11), zi k10 120 f10), ((q0 5), zi k4 122880 f4), ((q0 12), zi k11 120 f11), ((q0 22), zi k16 40000 f16), ((q0 6), zi k5 120 f5)] H := hP
  have hD : va_D A [(h0, .inr (13, mX13 q0 (upd v0 21 0))), ((q0 17), zi k14 12 f14), ((q0 19), zi k15 12 f15), ((q0 3), zi k3 400 f3), ((q0 2), zi k2 4800 f2), ((q0 7), zi k6 120 f6), ((q0 11), zi k10 120 f10), ((q0 5), zi k4 122880 f4), ((q0 12), zi k11 120 f11), ((q0 22), zi k16 40000 f16), ((q0 6), zi k5 120 f5)] := hD
  refine lv_aload_n hx hb dX13_posting_5 rfl (lv_at hl 0 rfl) ?_
  have b_ : (-1) ≤ (v0 18).toInt ∧ (v0 18).toInt ≤ 12 := hv0 18
  refine va_get (D := (dC, dI)) (ci := 13) (v := .int (v0 18)) (C := RX13) (T := TX13) (N := 75) hx hb hG zuX13 hown hK hP 0 rfl rfl 18 (by decide) (hG _ zv1622) (fun _ h9 => h9) rfl dX13_posting_6 ?_
  refine lv_iconst (v := (-1)) hx hb dX13_posting_9 (by decide) ?_
  refine lv_icmp_eq (tgt := 22) hx hb dX13_posting_10 (by decide) (fun c_ => ?_) (fun c_ => ?_)
  · skip
    have b_ := zT_eq rfl zk_m1 c_
    refine lv_iconst (v := (-1)) hx hb dX13_posting_22 (by decide) ?_
    refine W.widen (k := 0) (n := 0) (by decide) (by decide) ?_
    have b_ : 0 ≤ (v0 20).toInt ∧ (v0 20).toInt ≤ 12 := hv0 20
    have b_ : -2147483648 ≤ (v0 23).toInt ∧ (v0 23).toInt ≤ 2147483647 := ⟨zlo _, zhi _⟩
    have b_ : 0 ≤ (v0 24).toInt ∧ (v0 24).toInt ≤ 1 := hv0 24
    have hpost : (0 ≤ (v0 20).toInt ∧ (v0 20).toInt ≤ 12) ∧ (0 ≤ (0 : Int32).toInt ∧ (0 : Int32).toInt ≤ 0) ∧ (0 ≤ (v0 24).toInt ∧ (v0 24).toInt ≤ 1) := ⟨(by first | with_reducible assumption | exact ⟨by omega, by omega⟩), (by first | with_reducible assumption | exact ⟨by omega, by omega⟩), (by first | with_reducible assumption | exact ⟨by omega, by omega⟩)⟩
    have hP9 : va_P (dC, dI) vwCl [(h0, .inr (13, mX13 q0 (upd (upd (upd (upd v0 20 (v0 20)) 21 0) 23 (v0 23)) 24 (v0 24)))), ((q0 17), zi k14 12 f14), ((q0 19), zi k15 12 f15), ((q0 3), zi k3 400 f3), ((q0 2), zi k2 4800 f2), ((q0 7), zi k6 120 f6), ((q0 11), zi k10 120 f10), ((q0 5), zi k4 122880 f4), ((q0 12), zi k11 120 f11), ((q0 22), zi k16 40000 f16), ((q0 6), zi k5 120 f5)] H := hP
    have hD9 : va_D A [(h0, .inr (13, mX13 q0 (upd (upd (upd (upd v0 20 (v0 20)) 21 0) 23 (v0 23)) 24 (v0 24)))), ((q0 17), zi k14 12 f14), ((q0 19), zi k15 12 f15), ((q0 3), zi k3 400 f3), ((q0 2), zi k2 4800 f2), ((q0 7), zi k6 120 f6), ((q0 11), zi k10 120 f10), ((q0 5), zi k4 122880 f4), ((q0 12), zi k11 120 f11), ((q0 22), zi k16 40000 f16), ((q0 6), zi k5 120 f5)] := hD
    exact W.iret (v := (-1)) hx hb hr (fun t ht hW => ⟨⟨(-1), (fun i => ([(v0 20), 0, (v0 23), (v0 24)] : List (Int32)).getD i 0), rfl, hpost, (fun _ => 0), (fun i => ([f15, f16] : List (Nat → Int32)).getD i (fun _ => 0)), (fun _ => (fun _ => 0)), by rw [ht]; exact hP9, va_K.moved hW.alike hK, hD9⟩, hS.F ht⟩) hS.2.2 dX13_posting_23
  · skip
    have b_ := zF_eq rfl zk_m1 c_
    refine lv_iload_n hx hb dX13_posting_13 rfl (lv_at hl 1 rfl) ?_
    have b_ : -2147483648 ≤ x1.toInt ∧ x1.toInt ≤ 2147483647 := ⟨zlo _, zhi _⟩
    refine lv_if_lt (tgt := 22) hx hb dX13_posting_14 (by decide) (fun c_ => ?_) (fun c_ => ?_)
    · skip
      have b_ := zT_lt rfl zk_0 c_
      refine lv_iconst (v := (-1)) hx hb dX13_posting_22 (by decide) ?_
      refine W.widen (k := 0) (n := 0) (by decide) (by decide) ?_
      have b_ : 0 ≤ (v0 20).toInt ∧ (v0 20).toInt ≤ 12 := hv0 20
      have b_ : -2147483648 ≤ (v0 23).toInt ∧ (v0 23).toInt ≤ 2147483647 := ⟨zlo _, zhi _⟩
      have b_ : 0 ≤ (v0 24).toInt ∧ (v0 24).toInt ≤ 1 := hv0 24
      have hpost : (0 ≤ (v0 20).toInt ∧ (v0 20).toInt ≤ 12) ∧ (0 ≤ (0 : Int32).toInt ∧ (0 : Int32).toInt ≤ 0) ∧ (0 ≤ (v0 24).toInt ∧ (v0 24).toInt ≤ 1) := ⟨(by first | with_reducible assumption | exact ⟨by omega, by omega⟩), (by first | with_reducible assumption | exact ⟨by omega, by omega⟩), (by first | with_reducible assumption | exact ⟨by omega, by omega⟩)⟩
      have hP9 : va_P (dC, dI) vwCl [(h0, .inr (13, mX13 q0 (upd (upd (upd (upd v0 20 (v0 20)) 21 0) 23 (v0 23)) 24 (v0 24)))), ((q0 17), zi k14 12 f14), ((q0 19), zi k15 12 f15), ((q0 3), zi k3 400 f3), ((q0 2), zi k2 4800 f2), ((q0 7), zi k6 120 f6), ((q0 11), zi k10 120 f10), ((q0 5), zi k4 122880 f4), ((q0 12), zi k11 120 f11), ((q0 22), zi k16 40000 f16), ((q0 6), zi k5 120 f5)] H := hP
      have hD9 : va_D A [(h0, .inr (13, mX13 q0 (upd (upd (upd (upd v0 20 (v0 20)) 21 0) 23 (v0 23)) 24 (v0 24)))), ((q0 17), zi k14 12 f14), ((q0 19), zi k15 12 f15), ((q0 3), zi k3 400 f3), ((q0 2), zi k2 4800 f2), ((q0 7), zi k6 120 f6), ((q0 11), zi k10 120 f10), ((q0 5), zi k4 122880 f4), ((q0 12), zi k11 120 f11), ((q0 22), zi k16 40000 f16), ((q0 6), zi k5 120 f5)] := hD
      exact W.iret (v := (-1)) hx hb hr (fun t ht hW => ⟨⟨(-1), (fun i => ([(v0 20), 0, (v0 23), (v0 24)] : List (Int32)).getD i 0), rfl, hpost, (fun _ => 0), (fun i => ([f15, f16] : List (Nat → Int32)).getD i (fun _ => 0)), (fun _ => (fun _ => 0)), by rw [ht]; exact hP9, va_K.moved hW.alike hK, hD9⟩, hS.F ht⟩) hS.2.2 dX13_posting_23
    · skip
      have b_ := zF_lt rfl zk_0 c_
      refine lv_iload_n hx hb dX13_posting_17 rfl (lv_at hl 1 rfl) ?_
      refine lv_iconst (v := 4) hx hb dX13_posting_18 (by decide) ?_
      refine lv_icmp_le (tgt := 24) hx hb dX13_posting_19 (by decide) (fun c_ => ?_) (fun c_ => ?_)
      · skip
        have b_ := zT_le rfl zk_4 c_
        refine lv_aload_n hx hb dX13_posting_24 rfl (lv_at hl 0 rfl) ?_
        have hPc := hP.sub (ws' := [(h0, .inr (13, mX13 q0 (upd v0 21 0))), ((q0 17), zi k14 12 f14), ((q0 19), zi k15 12 f15), ((q0 3), zi k3 400 f3), ((q0 2), zi k2 4800 f2)]) [0, 1, 2, 3, 4] rfl
        have hDc := hD.sub (ws' := [(h0, .inr (13, mX13 q0 (upd v0 21 0))), ((q0 17), zi k14 12 f14), ((q0 19), zi k15 12 f15), ((q0 3), zi k3 400 f3), ((q0 2), zi k2 4800 f2)]) [0, 1, 2, 3, 4] (by decide) rfl
        have hKc := hK.sub (tys' := [(k14, .byte), (k15, .byte), (k3, .int), (k2, .byte)]) [0, 1, 2, 3] rfl
        have hFc := va_free (wc := [(h0, .inr (13, mX13 q0 (upd v0 21 0))), ((q0 17), zi k14 12 f14), ((q0 19), zi k15 12 f15), ((q0 3), zi k3 400 f3), ((q0 2), zi k2 4800 f2)]) hD hS hA [0, 1, 2, 3, 4] rfl
        refine va_calli (va_runV (As := []) (rest := []) ⟨hx, hb, hml, hown, hG⟩ (sX13_lookedWord_0 l dC dI adK adV h0 q0 k14 k15 k3 k2 H.size (upd v0 21 0) f14 f15 f3 f2 (zR_updF hv0 21 rfl) hf3) (cwV 0 hG (zgV zv1987 zv1989 zv72 zv142 zv1990) rfl rfl rfl (by decide +kernel) ⟨Nat.le_of_ble_eq_true rfl, Nat.le_of_ble_eq_true rfl⟩) ⟨zPc_blind, va_recv hKc hPc (ci := 13) (q0 := 0) rfl rfl, zPc_pre hPc hKc hDc hE hS hFc hZ⟩ rfl rfl hl.1 rfl (lv_room (Nat.le_of_ble_eq_true rfl)) dX13_posting_25 ⟨Nat.le_of_ble_eq_true rfl, Nat.le_of_ble_eq_true rfl⟩) hS (fun q _ h => hFc q h) hFc (fun r25_ u25_ t H1 locs ht hvm hw hB hz1 hk1 hS => ?_)
        replace hw : ((-1) ≤ r25_.toInt ∧ r25_.toInt ≤ 399) ∧ (0 ≤ (u25_ 0).toInt ∧ (u25_ 0).toInt ≤ 12) ∧ (r25_.toInt < (v0 4).toInt) := hw
        obtain ⟨b_, b_, hX25_0⟩ := hw
        obtain ⟨w25_, a25_, b25_, hP1, hK1, hD1⟩ := hB
        rw [ht] at hP1
        obtain ⟨hP, hD⟩ := va_join (wr := [((q0 7), zi k6 120 f6), ((q0 11), zi k10 120 f10), ((q0 5), zi k4 122880 f4), ((q0 12), zi k11 120 f11), ((q0 22), zi k16 40000 f16), ((q0 6), zi k5 120 f5)]) (w1 := [(h0, .inr (13, mX13 q0 (upd (upd v0 20 (u25_ 0)) 21 0))), ((q0 17), zi k14 12 f14), ((q0 19), zi k15 12 (a25_ 0)), ((q0 3), zi k3 400 f3), ((q0 2), zi k2 4800 f2)]) hP hD [0, 1, 2, 3, 4] [5, 6, 7, 8, 9, 10] rfl rfl (by decide) (by decide) hk1 hFc hP1 hD1
        have hP : va_P (dC, dI) vwCl [(h0, .inr (13, mX13 q0 (upd (upd v0 20 (u25_ 0)) 21 0))), ((q0 17), zi k14 12 f14), ((q0 19), zi k15 12 (a25_ 0)), ((q0 3), zi k3 400 f3), ((q0 2), zi k2 4800 f2), ((q0 7), zi k6 120 f6), ((q0 11), zi k10 120 f10), ((q0 5), zi k4 122880 f4), ((q0 12), zi k11 120 f11), ((q0 22), zi k16 40000 f16), ((q0 6), zi k5 120 f5)] H1 := hP.sub [6, 7, 8, 9, 10, 0, 1, 2, 3, 4, 5] rfl
        have hD : va_D A [(h0, .inr (13, mX13 q0 (upd (upd v0 20 (u25_ 0)) 21 0))), ((q0 17), zi k14 12 f14), ((q0 19), zi k15 12 (a25_ 0)), ((q0 3), zi k3 400 f3), ((q0 2), zi k2 4800 f2), ((q0 7), zi k6 120 f6), ((q0 11), zi k10 120 f10), ((q0 5), zi k4 122880 f4), ((q0 12), zi k11 120 f11), ((q0 22), zi k16 40000 f16), ((q0 6), zi k5 120 f5)] := hD.sub [6, 7, 8, 9, 10, 0, 1, 2, 3, 4, 5] (by decide) rfl
        generalize H1 = H at hP hS ⊢
        clear hz1
        refine lv_istore_n (lv' := [(2, .int r25_), (0, .ref h0), (1, .int x1)]) hx hb dX13_posting_28 rfl hl (by decide) rfl (fun ls hl => ?_)
        refine lv_iload_n hx hb dX13_posting_29 rfl (lv_at hl 0 rfl) ?_
        refine lv_iconst (v := (-1)) hx hb dX13_posting_30 (by decide) ?_
        refine lv_icmp_ne (tgt := 36) hx hb dX13_posting_31 (by decide) (fun c_ => ?_) (fun c_ => ?_)
        · skip
          have b_ := zT_ne rfl zk_m1 c_
          refine lv_iload_n hx hb dX13_posting_36 rfl (lv_at hl 2 rfl) ?_
          rcases Classical.em (x1 = (0 : Int32)) with c_ | c_
          · skip
            have b_ : x1.toInt = 0 := by rw [c_]; exact zk_0
            refine lv_tableIn (off := 31) (tgt := 68) hx hb dX13_posting_37 (by omega) (by omega) (by rw [b_]; decide) (by decide) ?_
            refine lv_aload_n hx hb dX13_posting_68 rfl (lv_at hl 1 rfl) ?_
            refine lv_iload_n hx hb dX13_posting_69 rfl (lv_at hl 0 rfl) ?_
            refine lv_iconst (v := 0) hx hb dX13_posting_70 (by decide) ?_
            have hPc := hP.sub (ws' := [(h0, .inr (13, mX13 q0 (upd (upd v0 20 (u25_ 0)) 21 0))), ((q0 7), zi k6 120 f6), ((q0 11), zi k10 120 f10), ((q0 5), zi k4 122880 f4), ((q0 12), zi k11 120 f11), ((q0 22), zi k16 40000 f16)]) [0, 5, 6, 7, 8, 9] rfl
            have hDc := hD.sub (ws' := [(h0, .inr (13, mX13 q0 (upd (upd v0 20 (u25_ 0)) 21 0))), ((q0 7), zi k6 120 f6), ((q0 11), zi k10 120 f10), ((q0 5), zi k4 122880 f4), ((q0 12), zi k11 120 f11), ((q0 22), zi k16 40000 f16)]) [0, 5, 6, 7, 8, 9] (by decide) rfl
            have hKc := hK.sub (tys' := [(k6, .boolean), (k10, .int), (k4, .short), (k11, .int), (k16, .byte)]) [4, 5, 6, 7, 8] rfl
            have hFc := va_free (wc := [(h0, .inr (13, mX13 q0 (upd (upd v0 20 (u25_ 0)) 21 0))), ((q0 7), zi k6 120 f6), ((q0 11), zi k10 120 f10), ((q0 5), zi k4 122880 f4), ((q0 12), zi k11 120 f11), ((q0 22), zi k16 40000 f16)]) hD hS hA [0, 5, 6, 7, 8, 9] rfl
            refine va_calli (va_runV (As := [.int r25_, .int 0]) (rest := []) ⟨hx, hb, hml, hown, hG⟩ (sX13_layOut_0 l dC dI adK adV h0 q0 k6 k10 k4 k11 k16 H.size (upd (upd v0 20 (u25_ 0)) 21 0) f6 f10 f4 f11 f16 r25_ 0 (zR_updF (zR_up2 hv0 20 (show (0 : Int) ≤ ((u25_ 0) : Int32).toInt ∧ ((u25_ 0) : Int32).toInt ≤ (12 : Int) from (by first | with_reducible assumption | exact ⟨by omega, by omega⟩))) 21 rfl) hf10 hf4 hf11 (show (0 : Int) ≤ (r25_ : Int32).toInt ∧ (r25_ : Int32).toInt ≤ (399 : Int) from (by first | with_reducible assumption | exact ⟨by omega, by omega⟩)) ⟨show (0 : Int) ≤ (0 : Int32).toInt from by decide, show (0 : Int32).toInt ≤ (1 : Int) from by decide⟩ (show (0 : Int32).toInt = 1 → (zB f4 f6 r25_.toInt  ((v0 13).toInt).toNat).1 ≤ 40000 from by omega)) (cwV 2 hG (zgV zv1991 zv1993 zv73 zv142 zv1994) rfl rfl rfl (by decide +kernel) ⟨Nat.le_of_ble_eq_true rfl, Nat.le_of_ble_eq_true rfl⟩) ⟨zPc_blind, va_recv hKc hPc (ci := 13) (q0 := 0) rfl rfl, zPc_pre hPc hKc hDc hE hS hFc hZ⟩ rfl rfl hl.1 rfl (lv_room (Nat.le_of_ble_eq_true rfl)) dX13_posting_71 ⟨Nat.le_of_ble_eq_true rfl, Nat.le_of_ble_eq_true rfl⟩) hS (fun q _ h => hFc q h) hFc (fun r71_ u71_ t H1 locs ht hvm hw hB hz1 hk1 hS => ?_)
            replace hw : (0 ≤ r71_.toInt ∧ r71_.toInt ≤ 2600021) ∧ (0 ≤ (u71_ 0).toInt ∧ (u71_ 0).toInt ≤ 2600021) ∧ (0 ≤ (u71_ 1).toInt ∧ (u71_ 1).toInt ≤ 1) ∧ (r71_.toInt ≤ (zB f4 f6 r25_.toInt  ((v0 13).toInt).toNat).1) ∧ (0 ≤ r71_.toInt) := hw
            obtain ⟨b_, b_, b_, hX71_0, hX71_1⟩ := hw
            obtain ⟨w71_, a71_, b71_, hP1, hK1, hD1⟩ := hB
            rw [ht] at hP1
            obtain ⟨hP, hD⟩ := va_join (wr := [((q0 17), zi k14 12 f14), ((q0 19), zi k15 12 (a25_ 0)), ((q0 3), zi k3 400 f3), ((q0 2), zi k2 4800 f2), ((q0 6), zi k5 120 f5)]) (w1 := [(h0, .inr (13, mX13 q0 (upd (upd (upd (upd v0 20 (u25_ 0)) 21 0) 23 (u71_ 0)) 24 (u71_ 1)))), ((q0 7), zi k6 120 f6), ((q0 11), zi k10 120 f10), ((q0 5), zi k4 122880 f4), ((q0 12), zi k11 120 f11), ((q0 22), zi k16 40000 (a71_ 0))]) hP hD [0, 5, 6, 7, 8, 9] [1, 2, 3, 4, 10] rfl rfl (by decide) (by decide) hk1 hFc hP1 hD1
            have hP : va_P (dC, dI) vwCl [(h0, .inr (13, mX13 q0 (upd (upd (upd (upd v0 20 (u25_ 0)) 21 0) 23 (u71_ 0)) 24 (u71_ 1)))), ((q0 17), zi k14 12 f14), ((q0 19), zi k15 12 (a25_ 0)), ((q0 3), zi k3 400 f3), ((q0 2), zi k2 4800 f2), ((q0 7), zi k6 120 f6), ((q0 11), zi k10 120 f10), ((q0 5), zi k4 122880 f4), ((q0 12), zi k11 120 f11), ((q0 22), zi k16 40000 (a71_ 0)), ((q0 6), zi k5 120 f5)] H1 := hP.sub [5, 0, 1, 2, 3, 6, 7, 8, 9, 10, 4] rfl
            have hD : va_D A [(h0, .inr (13, mX13 q0 (upd (upd (upd (upd v0 20 (u25_ 0)) 21 0) 23 (u71_ 0)) 24 (u71_ 1)))), ((q0 17), zi k14 12 f14), ((q0 19), zi k15 12 (a25_ 0)), ((q0 3), zi k3 400 f3), ((q0 2), zi k2 4800 f2), ((q0 7), zi k6 120 f6), ((q0 11), zi k10 120 f10), ((q0 5), zi k4 122880 f4), ((q0 12), zi k11 120 f11), ((q0 22), zi k16 40000 (a71_ 0)), ((q0 6), zi k5 120 f5)] := hD.sub [5, 0, 1, 2, 3, 6, 7, 8, 9, 10, 4] (by decide) rfl
            generalize H1 = H at hP hS ⊢
            clear hz1
            refine W.widen (k := 0) (n := 0) (by decide) (by decide) ?_
            have hpost : (0 ≤ (u25_ 0).toInt ∧ (u25_ 0).toInt ≤ 12) ∧ (0 ≤ (0 : Int32).toInt ∧ (0 : Int32).toInt ≤ 0) ∧ (0 ≤ (u71_ 1).toInt ∧ (u71_ 1).toInt ≤ 1) := ⟨(by first | with_reducible assumption | exact ⟨by omega, by omega⟩), (by first | with_reducible assumption | exact ⟨by omega, by omega⟩), (by first | with_reducible assumption | exact ⟨by omega, by omega⟩)⟩
            have hP9 : va_P (dC, dI) vwCl [(h0, .inr (13, mX13 q0 (upd (upd (upd (upd v0 20 (u25_ 0)) 21 0) 23 (u71_ 0)) 24 (u71_ 1)))), ((q0 17), zi k14 12 f14), ((q0 19), zi k15 12 (a25_ 0)), ((q0 3), zi k3 400 f3), ((q0 2), zi k2 4800 f2), ((q0 7), zi k6 120 f6), ((q0 11), zi k10 120 f10), ((q0 5), zi k4 122880 f4), ((q0 12), zi k11 120 f11), ((q0 22), zi k16 40000 (a71_ 0)), ((q0 6), zi k5 120 f5)] H := hP
            have hD9 : va_D A [(h0, .inr (13, mX13 q0 (upd (upd (upd (upd v0 20 (u25_ 0)) 21 0) 23 (u71_ 0)) 24 (u71_ 1)))), ((q0 17), zi k14 12 f14), ((q0 19), zi k15 12 (a25_ 0)), ((q0 3), zi k3 400 f3), ((q0 2), zi k2 4800 f2), ((q0 7), zi k6 120 f6), ((q0 11), zi k10 120 f10), ((q0 5), zi k4 122880 f4), ((q0 12), zi k11 120 f11), ((q0 22), zi k16 40000 (a71_ 0)), ((q0 6), zi k5 120 f5)] := hD
            exact W.iret (v := r71_) hx hb hr (fun t ht hW => ⟨⟨r71_, (fun i => ([(u25_ 0), 0, (u71_ 0), (u71_ 1)] : List (Int32)).getD i 0), rfl, hpost, (fun _ => 0), (fun i => ([(a25_ 0), (a71_ 0)] : List (Nat → Int32)).getD i (fun _ => 0)), (fun _ => (fun _ => 0)), by rw [ht]; exact hP9, va_K.moved hW.alike hK, hD9⟩, hS.F ht⟩) hS.2.2 dX13_posting_74
          · skip
            have b_ : x1.toInt ≠ 0 := fun h => c_ (zeqi.mpr (h.trans zk_0.symm))
            rcases Classical.em (x1 = (1 : Int32)) with c_ | c_
            · skip
              have b_ : x1.toInt = 1 := by rw [c_]; exact zk_1
              refine lv_tableIn (off := 38) (tgt := 75) hx hb dX13_posting_37 (by omega) (by omega) (by rw [b_]; decide) (by decide) ?_
              refine lv_aload_n hx hb dX13_posting_75 rfl (lv_at hl 1 rfl) ?_
              refine lv_iload_n hx hb dX13_posting_76 rfl (lv_at hl 0 rfl) ?_
              refine lv_iconst (v := 0) hx hb dX13_posting_77 (by decide) ?_
              have hPc := hP.sub (ws' := [(h0, .inr (13, mX13 q0 (upd (upd v0 20 (u25_ 0)) 21 0))), ((q0 7), zi k6 120 f6), ((q0 11), zi k10 120 f10), ((q0 5), zi k4 122880 f4), ((q0 12), zi k11 120 f11), ((q0 22), zi k16 40000 f16)]) [0, 5, 6, 7, 8, 9] rfl
              have hDc := hD.sub (ws' := [(h0, .inr (13, mX13 q0 (upd (upd v0 20 (u25_ 0)) 21 0))), ((q0 7), zi k6 120 f6), ((q0 11), zi k10 120 f10), ((q0 5), zi k4 122880 f4), ((q0 12), zi k11 120 f11), ((q0 22), zi k16 40000 f16)]) [0, 5, 6, 7, 8, 9] (by decide) rfl
              have hKc := hK.sub (tys' := [(k6, .boolean), (k10, .int), (k4, .short), (k11, .int), (k16, .byte)]) [4, 5, 6, 7, 8] rfl
              have hFc := va_free (wc := [(h0, .inr (13, mX13 q0 (upd (upd v0 20 (u25_ 0)) 21 0))), ((q0 7), zi k6 120 f6), ((q0 11), zi k10 120 f10), ((q0 5), zi k4 122880 f4), ((q0 12), zi k11 120 f11), ((q0 22), zi k16 40000 f16)]) hD hS hA [0, 5, 6, 7, 8, 9] rfl
              refine va_calli (va_runV (As := [.int r25_, .int 0]) (rest := []) ⟨hx, hb, hml, hown, hG⟩ (sX13_layOut_0 l dC dI adK adV h0 q0 k6 k10 k4 k11 k16 H.size (upd (upd v0 20 (u25_ 0)) 21 0) f6 f10 f4 f11 f16 r25_ 0 (zR_updF (zR_up2 hv0 20 (show (0 : Int) ≤ ((u25_ 0) : Int32).toInt ∧ ((u25_ 0) : Int32).toInt ≤ (12 : Int) from (by first | with_reducible assumption | exact ⟨by omega, by omega⟩))) 21 rfl) hf10 hf4 hf11 (show (0 : Int) ≤ (r25_ : Int32).toInt ∧ (r25_ : Int32).toInt ≤ (399 : Int) from (by first | with_reducible assumption | exact ⟨by omega, by omega⟩)) ⟨show (0 : Int) ≤ (0 : Int32).toInt from by decide, show (0 : Int32).toInt ≤ (1 : Int) from by decide⟩ (show (0 : Int32).toInt = 1 → (zB f4 f6 r25_.toInt  ((v0 13).toInt).toNat).1 ≤ 40000 from by omega)) (cwV 2 hG (zgV zv1991 zv1993 zv73 zv142 zv1994) rfl rfl rfl (by decide +kernel) ⟨Nat.le_of_ble_eq_true rfl, Nat.le_of_ble_eq_true rfl⟩) ⟨zPc_blind, va_recv hKc hPc (ci := 13) (q0 := 0) rfl rfl, zPc_pre hPc hKc hDc hE hS hFc hZ⟩ rfl rfl hl.1 rfl (lv_room (Nat.le_of_ble_eq_true rfl)) dX13_posting_78 ⟨Nat.le_of_ble_eq_true rfl, Nat.le_of_ble_eq_true rfl⟩) hS (fun q _ h => hFc q h) hFc (fun r78_ u78_ t H1 locs ht hvm hw hB hz1 hk1 hS => ?_)
              replace hw : (0 ≤ r78_.toInt ∧ r78_.toInt ≤ 2600021) ∧ (0 ≤ (u78_ 0).toInt ∧ (u78_ 0).toInt ≤ 2600021) ∧ (0 ≤ (u78_ 1).toInt ∧ (u78_ 1).toInt ≤ 1) ∧ (r78_.toInt ≤ (zB f4 f6 r25_.toInt  ((v0 13).toInt).toNat).1) ∧ (0 ≤ r78_.toInt) := hw
              obtain ⟨b_, b_, b_, hX78_0, hX78_1⟩ := hw
              obtain ⟨w78_, a78_, b78_, hP1, hK1, hD1⟩ := hB
              rw [ht] at hP1
              obtain ⟨hP, hD⟩ := va_join (wr := [((q0 17), zi k14 12 f14), ((q0 19), zi k15 12 (a25_ 0)), ((q0 3), zi k3 400 f3), ((q0 2), zi k2 4800 f2), ((q0 6), zi k5 120 f5)]) (w1 := [(h0, .inr (13, mX13 q0 (upd (upd (upd (upd v0 20 (u25_ 0)) 21 0) 23 (u78_ 0)) 24 (u78_ 1)))), ((q0 7), zi k6 120 f6), ((q0 11), zi k10 120 f10), ((q0 5), zi k4 122880 f4), ((q0 12), zi k11 120 f11), ((q0 22), zi k16 40000 (a78_ 0))]) hP hD [0, 5, 6, 7, 8, 9] [1, 2, 3, 4, 10] rfl rfl (by decide) (by decide) hk1 hFc hP1 hD1
              have hP : va_P (dC, dI) vwCl [(h0, .inr (13, mX13 q0 (upd (upd (upd (upd v0 20 (u25_ 0)) 21 0) 23 (u78_ 0)) 24 (u78_ 1)))), ((q0 17), zi k14 12 f14), ((q0 19), zi k15 12 (a25_ 0)), ((q0 3), zi k3 400 f3), ((q0 2), zi k2 4800 f2), ((q0 7), zi k6 120 f6), ((q0 11), zi k10 120 f10), ((q0 5), zi k4 122880 f4), ((q0 12), zi k11 120 f11), ((q0 22), zi k16 40000 (a78_ 0)), ((q0 6), zi k5 120 f5)] H1 := hP.sub [5, 0, 1, 2, 3, 6, 7, 8, 9, 10, 4] rfl
              have hD : va_D A [(h0, .inr (13, mX13 q0 (upd (upd (upd (upd v0 20 (u25_ 0)) 21 0) 23 (u78_ 0)) 24 (u78_ 1)))), ((q0 17), zi k14 12 f14), ((q0 19), zi k15 12 (a25_ 0)), ((q0 3), zi k3 400 f3), ((q0 2), zi k2 4800 f2), ((q0 7), zi k6 120 f6), ((q0 11), zi k10 120 f10), ((q0 5), zi k4 122880 f4), ((q0 12), zi k11 120 f11), ((q0 22), zi k16 40000 (a78_ 0)), ((q0 6), zi k5 120 f5)] := hD.sub [5, 0, 1, 2, 3, 6, 7, 8, 9, 10, 4] (by decide) rfl
              generalize H1 = H at hP hS ⊢
              clear hz1
              have hPc := hP.sub (ws' := []) [] rfl
              have hDc := hD.sub (ws' := []) [] (by decide) rfl
              have hKc := hK.sub (tys' := []) [] rfl
              have hFc := va_free (wc := []) hD hS hA [] rfl
              refine va_calli (va_runS (As := [.int r78_]) (rest := []) ⟨hx, hb, hml, hown, hG⟩ (sX13_chunks_0 l dC dI adK adV H.size r78_) (va_cwS 1 hG (zgS zv1999 zv2000 zv142 zv2001) rfl rfl rfl (by decide +kernel) ⟨Nat.le_of_ble_eq_true rfl, Nat.le_of_ble_eq_true rfl⟩) ⟨zPc_blind, zPc_pre hPc hKc hDc hE hS hFc hZ⟩ rfl rfl hl.1 rfl (lv_room (Nat.le_of_ble_eq_true rfl)) dX13_posting_81 ⟨Nat.le_of_ble_eq_true rfl, Nat.le_of_ble_eq_true rfl⟩) hS (fun q _ h => hFc q h) hFc (fun r81_ u81_ t H1 locs ht hvm hw hB hz1 hk1 hS => ?_)
              obtain ⟨w81_, a81_, b81_, hP1, hK1, hD1⟩ := hB
              rw [ht] at hP1
              obtain ⟨hP, hD⟩ := va_join (wr := [(h0, .inr (13, mX13 q0 (upd (upd (upd (upd v0 20 (u25_ 0)) 21 0) 23 (u78_ 0)) 24 (u78_ 1)))), ((q0 17), zi k14 12 f14), ((q0 19), zi k15 12 (a25_ 0)), ((q0 3), zi k3 400 f3), ((q0 2), zi k2 4800 f2), ((q0 7), zi k6 120 f6), ((q0 11), zi k10 120 f10), ((q0 5), zi k4 122880 f4), ((q0 12), zi k11 120 f11), ((q0 22), zi k16 40000 (a78_ 0)), ((q0 6), zi k5 120 f5)]) (w1 := []) hP hD [] [0, 1, 2, 3, 4, 5, 6, 7, 8, 9, 10] rfl rfl (by decide) (by decide) hk1 hFc hP1 hD1
              have hP : va_P (dC, dI) vwCl [(h0, .inr (13, mX13 q0 (upd (upd (upd (upd v0 20 (u25_ 0)) 21 0) 23 (u78_ 0)) 24 (u78_ 1)))), ((q0 17), zi k14 12 f14), ((q0 19), zi k15 12 (a25_ 0)), ((q0 3), zi k3 400 f3), ((q0 2), zi k2 4800 f2), ((q0 7), zi k6 120 f6), ((q0 11), zi k10 120 f10), ((q0 5), zi k4 122880 f4), ((q0 12), zi k11 120 f11), ((q0 22), zi k16 40000 (a78_ 0)), ((q0 6), zi k5 120 f5)] H1 := hP.sub [0, 1, 2, 3, 4, 5, 6, 7, 8, 9, 10] rfl
              have hD : va_D A [(h0, .inr (13, mX13 q0 (upd (upd (upd (upd v0 20 (u25_ 0)) 21 0) 23 (u78_ 0)) 24 (u78_ 1)))), ((q0 17), zi k14 12 f14), ((q0 19), zi k15 12 (a25_ 0)), ((q0 3), zi k3 400 f3), ((q0 2), zi k2 4800 f2), ((q0 7), zi k6 120 f6), ((q0 11), zi k10 120 f10), ((q0 5), zi k4 122880 f4), ((q0 12), zi k11 120 f11), ((q0 22), zi k16 40000 (a78_ 0)), ((q0 6), zi k5 120 f5)] := hD.sub [0, 1, 2, 3, 4, 5, 6, 7, 8, 9, 10] (by decide) rfl
              generalize H1 = H at hP hS ⊢
              clear hz1
              refine W.widen (k := 0) (n := 0) (by decide) (by decide) ?_
              have b_ : -2147483648 ≤ r81_.toInt ∧ r81_.toInt ≤ 2147483647 := ⟨zlo _, zhi _⟩
              have hpost : (0 ≤ (u25_ 0).toInt ∧ (u25_ 0).toInt ≤ 12) ∧ (0 ≤ (0 : Int32).toInt ∧ (0 : Int32).toInt ≤ 0) ∧ (0 ≤ (u78_ 1).toInt ∧ (u78_ 1).toInt ≤ 1) := ⟨(by first | with_reducible assumption | exact ⟨by omega, by omega⟩), (by first | with_reducible assumption | exact ⟨by omega, by omega⟩), (by first | with_reducible assumption | exact ⟨by omega, by omega⟩)⟩
              have hP9 : va_P (dC, dI) vwCl [(h0, .inr (13, mX13 q0 (upd (upd (upd (upd v0 20 (u25_ 0)) 21 0) 23 (u78_ 0)) 24 (u78_ 1)))), ((q0 17), zi k14 12 f14), ((q0 19), zi k15 12 (a25_ 0)), ((q0 3), zi k3 400 f3), ((q0 2), zi k2 4800 f2), ((q0 7), zi k6 120 f6), ((q0 11), zi k10 120 f10), ((q0 5), zi k4 122880 f4), ((q0 12), zi k11 120 f11), ((q0 22), zi k16 40000 (a78_ 0)), ((q0 6), zi k5 120 f5)] H := hP
              have hD9 : va_D A [(h0, .inr (13, mX13 q0 (upd (upd (upd (upd v0 20 (u25_ 0)) 21 0) 23 (u78_ 0)) 24 (u78_ 1)))), ((q0 17), zi k14 12 f14), ((q0 19), zi k15 12 (a25_ 0)), ((q0 3), zi k3 400 f3), ((q0 2), zi k2 4800 f2), ((q0 7), zi k6 120 f6), ((q0 11), zi k10 120 f10), ((q0 5), zi k4 122880 f4), ((q0 12), zi k11 120 f11), ((q0 22), zi k16 40000 (a78_ 0)), ((q0 6), zi k5 120 f5)] := hD
              exact W.iret (v := r81_) hx hb hr (fun t ht hW => ⟨⟨r81_, (fun i => ([(u25_ 0), 0, (u78_ 0), (u78_ 1)] : List (Int32)).getD i 0), rfl, hpost, (fun _ => 0), (fun i => ([(a25_ 0), (a78_ 0)] : List (Nat → Int32)).getD i (fun _ => 0)), (fun _ => (fun _ => 0)), by rw [ht]; exact hP9, va_K.moved hW.alike hK, hD9⟩, hS.F ht⟩) hS.2.2 dX13_posting_84
            · skip
              have b_ : x1.toInt ≠ 1 := fun h => c_ (zeqi.mpr (h.trans zk_1.symm))
              rcases Classical.em (x1 = (2 : Int32)) with c_ | c_
              · skip
                have b_ : x1.toInt = 2 := by rw [c_]; exact zk_2
                refine lv_tableIn (off := 48) (tgt := 85) hx hb dX13_posting_37 (by omega) (by omega) (by rw [b_]; decide) (by decide) ?_
                refine lv_aload_n hx hb dX13_posting_85 rfl (lv_at hl 1 rfl) ?_
                refine lv_iload_n hx hb dX13_posting_86 rfl (lv_at hl 0 rfl) ?_
                have hPc := hP.sub (ws' := [(h0, .inr (13, mX13 q0 (upd (upd v0 20 (u25_ 0)) 21 0))), ((q0 6), zi k5 120 f5), ((q0 11), zi k10 120 f10), ((q0 5), zi k4 122880 f4), ((q0 12), zi k11 120 f11)]) [0, 10, 6, 7, 8] rfl
                have hDc := hD.sub (ws' := [(h0, .inr (13, mX13 q0 (upd (upd v0 20 (u25_ 0)) 21 0))), ((q0 6), zi k5 120 f5), ((q0 11), zi k10 120 f10), ((q0 5), zi k4 122880 f4), ((q0 12), zi k11 120 f11)]) [0, 10, 6, 7, 8] (by decide) rfl
                have hKc := hK.sub (tys' := [(k5, .boolean), (k10, .int), (k4, .short), (k11, .int)]) [9, 5, 6, 7] rfl
                have hFc := va_free (wc := [(h0, .inr (13, mX13 q0 (upd (upd v0 20 (u25_ 0)) 21 0))), ((q0 6), zi k5 120 f5), ((q0 11), zi k10 120 f10), ((q0 5), zi k4 122880 f4), ((q0 12), zi k11 120 f11)]) hD hS hA [0, 10, 6, 7, 8] rfl
                refine va_calli (va_runV (As := [.int r25_]) (rest := []) ⟨hx, hb, hml, hown, hG⟩ (sX13_holders_0 l dC dI adK adV h0 q0 k5 k10 k4 k11 H.size (upd (upd v0 20 (u25_ 0)) 21 0) f5 f10 f4 f11 r25_ (zR_updF (zR_up2 hv0 20 (show (0 : Int) ≤ ((u25_ 0) : Int32).toInt ∧ ((u25_ 0) : Int32).toInt ≤ (12 : Int) from (by first | with_reducible assumption | exact ⟨by omega, by omega⟩))) 21 rfl) hf10 hf4 hf11 (show (0 : Int) ≤ (r25_ : Int32).toInt ∧ (r25_ : Int32).toInt ≤ (399 : Int) from (by first | with_reducible assumption | exact ⟨by omega, by omega⟩))) (cwV 1 hG (zgV zv2002 zv2004 zv75 zv142 zv2005) rfl rfl rfl (by decide +kernel) ⟨Nat.le_of_ble_eq_true rfl, Nat.le_of_ble_eq_true rfl⟩) ⟨zPc_blind, va_recv hKc hPc (ci := 13) (q0 := 0) rfl rfl, zPc_pre hPc hKc hDc hE hS hFc hZ⟩ rfl rfl hl.1 rfl (lv_room (Nat.le_of_ble_eq_true rfl)) dX13_posting_87 ⟨Nat.le_of_ble_eq_true rfl, Nat.le_of_ble_eq_true rfl⟩) hS (fun q _ h => hFc q h) hFc (fun r87_ u87_ t H1 locs ht hvm hw hB hz1 hk1 hS => ?_)
                obtain ⟨w87_, a87_, b87_, hP1, hK1, hD1⟩ := hB
                rw [ht] at hP1
                obtain ⟨hP, hD⟩ := va_join (wr := [((q0 17), zi k14 12 f14), ((q0 19), zi k15 12 (a25_ 0)), ((q0 3), zi k3 400 f3), ((q0 2), zi k2 4800 f2), ((q0 7), zi k6 120 f6), ((q0 22), zi k16 40000 f16)]) (w1 := [(h0, .inr (13, mX13 q0 (upd (upd v0 20 (u25_ 0)) 21 0))), ((q0 6), zi k5 120 f5), ((q0 11), zi k10 120 f10), ((q0 5), zi k4 122880 f4), ((q0 12), zi k11 120 f11)]) hP hD [0, 10, 6, 7, 8] [1, 2, 3, 4, 5, 9] rfl rfl (by decide) (by decide) hk1 hFc hP1 hD1
                have hP : va_P (dC, dI) vwCl [(h0, .inr (13, mX13 q0 (upd (upd v0 20 (u25_ 0)) 21 0))), ((q0 17), zi k14 12 f14), ((q0 19), zi k15 12 (a25_ 0)), ((q0 3), zi k3 400 f3), ((q0 2), zi k2 4800 f2), ((q0 7), zi k6 120 f6), ((q0 11), zi k10 120 f10), ((q0 5), zi k4 122880 f4), ((q0 12), zi k11 120 f11), ((q0 22), zi k16 40000 f16), ((q0 6), zi k5 120 f5)] H1 := hP.sub [6, 0, 1, 2, 3, 4, 8, 9, 10, 5, 7] rfl
                have hD : va_D A [(h0, .inr (13, mX13 q0 (upd (upd v0 20 (u25_ 0)) 21 0))), ((q0 17), zi k14 12 f14), ((q0 19), zi k15 12 (a25_ 0)), ((q0 3), zi k3 400 f3), ((q0 2), zi k2 4800 f2), ((q0 7), zi k6 120 f6), ((q0 11), zi k10 120 f10), ((q0 5), zi k4 122880 f4), ((q0 12), zi k11 120 f11), ((q0 22), zi k16 40000 f16), ((q0 6), zi k5 120 f5)] := hD.sub [6, 0, 1, 2, 3, 4, 8, 9, 10, 5, 7] (by decide) rfl
                generalize H1 = H at hP hS ⊢
                clear hz1
                refine W.widen (k := 0) (n := 0) (by decide) (by decide) ?_
                have b_ : -2147483648 ≤ r87_.toInt ∧ r87_.toInt ≤ 2147483647 := ⟨zlo _, zhi _⟩
                have b_ : -2147483648 ≤ (v0 23).toInt ∧ (v0 23).toInt ≤ 2147483647 := ⟨zlo _, zhi _⟩
                have b_ : 0 ≤ (v0 24).toInt ∧ (v0 24).toInt ≤ 1 := hv0 24
                have hpost : (0 ≤ (u25_ 0).toInt ∧ (u25_ 0).toInt ≤ 12) ∧ (0 ≤ (0 : Int32).toInt ∧ (0 : Int32).toInt ≤ 0) ∧ (0 ≤ (v0 24).toInt ∧ (v0 24).toInt ≤ 1) := ⟨(by first | with_reducible assumption | exact ⟨by omega, by omega⟩), (by first | with_reducible assumption | exact ⟨by omega, by omega⟩), (by first | with_reducible assumption | exact ⟨by omega, by omega⟩)⟩
                have hP9 : va_P (dC, dI) vwCl [(h0, .inr (13, mX13 q0 (upd (upd (upd (upd v0 20 (u25_ 0)) 21 0) 23 (v0 23)) 24 (v0 24)))), ((q0 17), zi k14 12 f14), ((q0 19), zi k15 12 (a25_ 0)), ((q0 3), zi k3 400 f3), ((q0 2), zi k2 4800 f2), ((q0 7), zi k6 120 f6), ((q0 11), zi k10 120 f10), ((q0 5), zi k4 122880 f4), ((q0 12), zi k11 120 f11), ((q0 22), zi k16 40000 f16), ((q0 6), zi k5 120 f5)] H := hP
                have hD9 : va_D A [(h0, .inr (13, mX13 q0 (upd (upd (upd (upd v0 20 (u25_ 0)) 21 0) 23 (v0 23)) 24 (v0 24)))), ((q0 17), zi k14 12 f14), ((q0 19), zi k15 12 (a25_ 0)), ((q0 3), zi k3 400 f3), ((q0 2), zi k2 4800 f2), ((q0 7), zi k6 120 f6), ((q0 11), zi k10 120 f10), ((q0 5), zi k4 122880 f4), ((q0 12), zi k11 120 f11), ((q0 22), zi k16 40000 f16), ((q0 6), zi k5 120 f5)] := hD
                exact W.iret (v := r87_) hx hb hr (fun t ht hW => ⟨⟨r87_, (fun i => ([(u25_ 0), 0, (v0 23), (v0 24)] : List (Int32)).getD i 0), rfl, hpost, (fun _ => 0), (fun i => ([(a25_ 0), f16] : List (Nat → Int32)).getD i (fun _ => 0)), (fun _ => (fun _ => 0)), by rw [ht]; exact hP9, va_K.moved hW.alike hK, hD9⟩, hS.F ht⟩) hS.2.2 dX13_posting_90
              · skip
                have b_ : x1.toInt ≠ 2 := fun h => c_ (zeqi.mpr (h.trans zk_2.symm))
                rcases Classical.em (x1 = (3 : Int32)) with c_ | c_
                · skip
                  have b_ : x1.toInt = 3 := by rw [c_]; exact zk_3
                  refine lv_tableIn (off := 54) (tgt := 91) hx hb dX13_posting_37 (by omega) (by omega) (by rw [b_]; decide) (by decide) ?_
                  refine lv_iconst (v := 0) hx hb dX13_posting_91 (by decide) ?_
                  refine lv_istore_n (lv' := [(3, .int 0), (2, .int r25_), (0, .ref h0), (1, .int x1)]) hx hb dX13_posting_92 rfl hl (by decide) rfl (fun ls hl => ?_)
                  refine lv_iconst (v := 0) hx hb dX13_posting_93 (by decide) ?_
                  refine lv_istore (lv' := [(4, .int 0), (3, .int 0), (2, .int r25_), (0, .ref h0), (1, .int x1)]) hx hb dX13_posting_94 hl (by decide) rfl (fun ls hl => ?_)
                  refine zcutL (fun u96_ => (120 - (u96_ 1).toInt).toNat) (fun H locs ls u96_ w96_ a96_ b96_ => va_P (dC, dI) vwCl [(h0, .inr (13, mX13 q0 (upd (upd v0 20 (u25_ 0)) 21 0))), ((q0 17), zi k14 12 f14), ((q0 19), zi k15 12 (a25_ 0)), ((q0 3), zi k3 400 f3), ((q0 2), zi k2 4800 f2), ((q0 7), zi k6 120 f6), ((q0 11), zi k10 120 f10), ((q0 5), zi k4 122880 f4), ((q0 12), zi k11 120 f11), ((q0 22), zi k16 40000 f16), ((q0 6), zi k5 120 f5)] H ∧ va_D A [(h0, .inr (13, mX13 q0 (upd (upd v0 20 (u25_ 0)) 21 0))), ((q0 17), zi k14 12 f14), ((q0 19), zi k15 12 (a25_ 0)), ((q0 3), zi k3 400 f3), ((q0 2), zi k2 4800 f2), ((q0 7), zi k6 120 f6), ((q0 11), zi k10 120 f10), ((q0 5), zi k4 122880 f4), ((q0 12), zi k11 120 f11), ((q0 22), zi k16 40000 f16), ((q0 6), zi k5 120 f5)] ∧ va_S A s.heap H locs ∧ lv_has ls 5 [(0, .ref h0), (1, .int x1), (2, .int r25_), (3, .int (u96_ 0)), (4, .int (u96_ 1))] ∧ (0 ≤ (u96_ 1).toInt ∧ (u96_ 1).toInt ≤ 120)) (fun ls u96_ w96_ => F0 m 96 ls []) 0 0 ?_ (fun hJ96 => ?_)
                  · skip
                    intro H locs ls u96_ w96_ a96_ b96_ hc hJ96
                    obtain ⟨hP, hD, hS, hl, b_⟩ := hc
                    refine lv_iload hx hb dX13_posting_96 (lv_at hl 4 rfl) ?_
                    refine lv_aload_n hx hb dX13_posting_98 rfl (lv_at hl 0 rfl) ?_
                    have b_ : 0 ≤ (v0 13).toInt ∧ (v0 13).toInt ≤ 120 := hv0 13
                    refine va_get (D := (dC, dI)) (ci := 13) (v := .int (v0 13)) (C := RX13) (T := TX13) (N := 75) hx hb hG zuX13 hown hK hP 0 rfl rfl 13 (by decide) (hG _ zv1617) (fun _ h9 => h9) rfl dX13_posting_99 ?_
                    refine lv_icmp_ge (tgt := 135) hx hb dX13_posting_102 (by decide) (fun c_ => ?_) (fun c_ => ?_)
                    · skip
                      have b_ := zT_ge rfl rfl c_
                      refine lv_iload_n hx hb dX13_posting_135 rfl (lv_at hl 3 rfl) ?_
                      refine W.widen (k := 0) (n := 0) (by decide) (by decide) ?_
                      have b_ : -2147483648 ≤ (u96_ 0).toInt ∧ (u96_ 0).toInt ≤ 2147483647 := ⟨zlo _, zhi _⟩
                      have b_ : -2147483648 ≤ (v0 23).toInt ∧ (v0 23).toInt ≤ 2147483647 := ⟨zlo _, zhi _⟩
                      have b_ : 0 ≤ (v0 24).toInt ∧ (v0 24).toInt ≤ 1 := hv0 24
                      have hpost : (0 ≤ (u25_ 0).toInt ∧ (u25_ 0).toInt ≤ 12) ∧ (0 ≤ (0 : Int32).toInt ∧ (0 : Int32).toInt ≤ 0) ∧ (0 ≤ (v0 24).toInt ∧ (v0 24).toInt ≤ 1) := ⟨(by first | with_reducible assumption | exact ⟨by omega, by omega⟩), (by first | with_reducible assumption | exact ⟨by omega, by omega⟩), (by first | with_reducible assumption | exact ⟨by omega, by omega⟩)⟩
                      have hP9 : va_P (dC, dI) vwCl [(h0, .inr (13, mX13 q0 (upd (upd (upd (upd v0 20 (u25_ 0)) 21 0) 23 (v0 23)) 24 (v0 24)))), ((q0 17), zi k14 12 f14), ((q0 19), zi k15 12 (a25_ 0)), ((q0 3), zi k3 400 f3), ((q0 2), zi k2 4800 f2), ((q0 7), zi k6 120 f6), ((q0 11), zi k10 120 f10), ((q0 5), zi k4 122880 f4), ((q0 12), zi k11 120 f11), ((q0 22), zi k16 40000 f16), ((q0 6), zi k5 120 f5)] H := hP
                      have hD9 : va_D A [(h0, .inr (13, mX13 q0 (upd (upd (upd (upd v0 20 (u25_ 0)) 21 0) 23 (v0 23)) 24 (v0 24)))), ((q0 17), zi k14 12 f14), ((q0 19), zi k15 12 (a25_ 0)), ((q0 3), zi k3 400 f3), ((q0 2), zi k2 4800 f2), ((q0 7), zi k6 120 f6), ((q0 11), zi k10 120 f10), ((q0 5), zi k4 122880 f4), ((q0 12), zi k11 120 f11), ((q0 22), zi k16 40000 f16), ((q0 6), zi k5 120 f5)] := hD
                      exact W.iret (v := (u96_ 0)) hx hb hr (fun t ht hW => ⟨⟨(u96_ 0), (fun i => ([(u25_ 0), 0, (v0 23), (v0 24)] : List (Int32)).getD i 0), rfl, hpost, (fun _ => 0), (fun i => ([(a25_ 0), f16] : List (Nat → Int32)).getD i (fun _ => 0)), (fun _ => (fun _ => 0)), by rw [ht]; exact hP9, va_K.moved hW.alike hK, hD9⟩, hS.F ht⟩) hS.2.2 dX13_posting_136
                    · skip
                      have b_ := zF_ge rfl rfl c_
                      refine lv_iload_n hx hb dX13_posting_105 rfl (lv_at hl 3 rfl) ?_
                      refine lv_aload_n hx hb dX13_posting_106 rfl (lv_at hl 0 rfl) ?_
                      refine va_get (D := (dC, dI)) (ci := 13) (v := .ref (q0 6)) (C := RX13) (T := TX13) (N := 75) hx hb hG zuX13 hown hK hP 0 rfl rfl 6 (by decide) (hG _ zv1610) (fun _ h9 => h9) rfl dX13_posting_107 ?_
                      refine lv_iload hx hb dX13_posting_110 (lv_at hl 4 rfl) ?_
                      refine va_zald hx hb hK hP 10 9 rfl rfl (zin_lit ⟨by omega, by omega⟩) dX13_posting_112 ?_
                      refine lv_topi (fun z112 e_z112 => ?_)
                      have b_ : -2147483648 ≤ z112.toInt ∧ z112.toInt ≤ 2147483647 := ⟨zlo _, zhi _⟩
                      refine lv_if_eq (tgt := 126) hx hb dX13_posting_113 (by decide) (fun c_ => ?_) (fun c_ => ?_)
                      · skip
                        have b_ := zT_eq rfl zk_0 c_
                        refine lv_iconst (v := 0) hx hb dX13_posting_126 (by decide) ?_
                        have b_ : -2147483648 ≤ (u96_ 0).toInt ∧ (u96_ 0).toInt ≤ 2147483647 := ⟨zlo _, zhi _⟩
                        refine lv_iadd hx hb dX13_posting_127 ?_
                        refine lv_topi (fun z127 e_z127 => ?_)
                        have b_ := zadd rfl zk_0 e_z127 (by omega) (by omega)
                        refine lv_istore_n (lv' := [(3, .int z127), (0, .ref h0), (1, .int x1), (2, .int r25_), (4, .int (u96_ 1))]) hx hb dX13_posting_128 rfl hl (by decide) rfl (fun ls hl => ?_)
                        obtain ⟨z129, e_z129⟩ : ∃ z : Int32, z = (u96_ 1) + Int32.ofInt 1 := ⟨_, rfl⟩
                        have b_ := zadd (x := (u96_ 1)) (y := Int32.ofInt 1) rfl (show (Int32.ofInt 1).toInt = 1 from by decide) e_z129 (by omega) (by omega)
                        refine lv_iinc (v := z129) (lv' := [(4, .int z129), (3, .int z127), (0, .ref h0), (1, .int x1), (2, .int r25_)]) hx hb dX13_posting_129 hl (k := 4) rfl e_z129.symm (by decide) rfl (fun ls hl => ?_)
                        refine lv_goto (tgt := 96) hx hb dX13_posting_132 (by decide) ?_
                        have hc : va_P (dC, dI) vwCl [(h0, .inr (13, mX13 q0 (upd (upd v0 20 (u25_ 0)) 21 0))), ((q0 17), zi k14 12 f14), ((q0 19), zi k15 12 (a25_ 0)), ((q0 3), zi k3 400 f3), ((q0 2), zi k2 4800 f2), ((q0 7), zi k6 120 f6), ((q0 11), zi k10 120 f10), ((q0 5), zi k4 122880 f4), ((q0 12), zi k11 120 f11), ((q0 22), zi k16 40000 f16), ((q0 6), zi k5 120 f5)] H ∧ va_D A [(h0, .inr (13, mX13 q0 (upd (upd v0 20 (u25_ 0)) 21 0))), ((q0 17), zi k14 12 f14), ((q0 19), zi k15 12 (a25_ 0)), ((q0 3), zi k3 400 f3), ((q0 2), zi k2 4800 f2), ((q0 7), zi k6 120 f6), ((q0 11), zi k10 120 f10), ((q0 5), zi k4 122880 f4), ((q0 12), zi k11 120 f11), ((q0 22), zi k16 40000 f16), ((q0 6), zi k5 120 f5)] ∧ va_S A s.heap H locs ∧ lv_has ls 5 [(0, .ref h0), (1, .int x1), (2, .int r25_), (3, .int z127), (4, .int z129)] ∧ (0 ≤ z129.toInt ∧ z129.toInt ≤ 120) := ⟨hP, hD, hS, lv_sub hl [2, 3, 4, 1, 0] rfl, (by first | with_reducible assumption | exact ⟨by omega, by omega⟩)⟩
                        exact hJ96 H locs ls (fun i => ([z127, z129] : List (Int32)).getD i 0) (fun _ => 0) (fun _ => (fun _ => 0)) (fun _ => (fun _ => 0)) hc (show (120 - z129.toInt).toNat < (120 - (u96_ 1).toInt).toNat from by omega)
                      · skip
                        have b_ := zF_eq rfl zk_0 c_
                        refine lv_aload_n hx hb dX13_posting_116 rfl (lv_at hl 0 rfl) ?_
                        refine lv_iload hx hb dX13_posting_117 (lv_at hl 4 rfl) ?_
                        refine lv_iload_n hx hb dX13_posting_119 rfl (lv_at hl 2 rfl) ?_
                        have hPc := hP.sub (ws' := [(h0, .inr (13, mX13 q0 (upd (upd v0 20 (u25_ 0)) 21 0))), ((q0 11), zi k10 120 f10), ((q0 5), zi k4 122880 f4), ((q0 12), zi k11 120 f11)]) [0, 6, 7, 8] rfl
                        have hDc := hD.sub (ws' := [(h0, .inr (13, mX13 q0 (upd (upd v0 20 (u25_ 0)) 21 0))), ((q0 11), zi k10 120 f10), ((q0 5), zi k4 122880 f4), ((q0 12), zi k11 120 f11)]) [0, 6, 7, 8] (by decide) rfl
                        have hKc := hK.sub (tys' := [(k10, .int), (k4, .short), (k11, .int)]) [5, 6, 7] rfl
                        have hFc := va_free (wc := [(h0, .inr (13, mX13 q0 (upd (upd v0 20 (u25_ 0)) 21 0))), ((q0 11), zi k10 120 f10), ((q0 5), zi k4 122880 f4), ((q0 12), zi k11 120 f11)]) hD hS hA [0, 6, 7, 8] rfl
                        refine va_calli (va_runV (As := [.int (u96_ 1), .int r25_]) (rest := [.int (u96_ 0)]) ⟨hx, hb, hml, hown, hG⟩ (sX13_timesOf_0 l dC dI adK adV h0 q0 k10 k4 k11 H.size (upd (upd v0 20 (u25_ 0)) 21 0) f10 f4 f11 (u96_ 1) r25_ (zR_updF (zR_up2 hv0 20 (show (0 : Int) ≤ ((u25_ 0) : Int32).toInt ∧ ((u25_ 0) : Int32).toInt ≤ (12 : Int) from (by first | with_reducible assumption | exact ⟨by omega, by omega⟩))) 21 rfl) hf10 hf4 hf11 (show (0 : Int) ≤ ((u96_ 1) : Int32).toInt ∧ ((u96_ 1) : Int32).toInt ≤ (119 : Int) from (by first | with_reducible assumption | exact ⟨by omega, by omega⟩)) (show (0 : Int) ≤ (r25_ : Int32).toInt ∧ (r25_ : Int32).toInt ≤ (399 : Int) from (by first | with_reducible assumption | exact ⟨by omega, by omega⟩))) (cwV 2 hG (zgV zv1979 zv1981 zv71 zv142 zv1982) rfl rfl rfl (by decide +kernel) ⟨Nat.le_of_ble_eq_true rfl, Nat.le_of_ble_eq_true rfl⟩) ⟨zPc_blind, va_recv hKc hPc (ci := 13) (q0 := 0) rfl rfl, zPc_pre hPc hKc hDc hE hS hFc hZ⟩ rfl rfl hl.1 rfl (lv_room (Nat.le_of_ble_eq_true rfl)) dX13_posting_120 ⟨Nat.le_of_ble_eq_true rfl, Nat.le_of_ble_eq_true rfl⟩) hS (fun q _ h => hFc q h) hFc (fun r120_ u120_ t H1 locs ht hvm hw hB hz1 hk1 hS => ?_)
                        replace hw : (0 ≤ r120_.toInt ∧ r120_.toInt ≤ 1024) ∧ (r120_.toInt ≤ (zp f4 (u96_ 1).toInt r25_.toInt 1024).1) := hw
                        obtain ⟨b_, hX120_0⟩ := hw
                        obtain ⟨w120_, a120_, b120_, hP1, hK1, hD1⟩ := hB
                        rw [ht] at hP1
                        obtain ⟨hP, hD⟩ := va_join (wr := [((q0 17), zi k14 12 f14), ((q0 19), zi k15 12 (a25_ 0)), ((q0 3), zi k3 400 f3), ((q0 2), zi k2 4800 f2), ((q0 7), zi k6 120 f6), ((q0 22), zi k16 40000 f16), ((q0 6), zi k5 120 f5)]) (w1 := [(h0, .inr (13, mX13 q0 (upd (upd v0 20 (u25_ 0)) 21 0))), ((q0 11), zi k10 120 f10), ((q0 5), zi k4 122880 f4), ((q0 12), zi k11 120 f11)]) hP hD [0, 6, 7, 8] [1, 2, 3, 4, 5, 9, 10] rfl rfl (by decide) (by decide) hk1 hFc hP1 hD1
                        have hP : va_P (dC, dI) vwCl [(h0, .inr (13, mX13 q0 (upd (upd v0 20 (u25_ 0)) 21 0))), ((q0 17), zi k14 12 f14), ((q0 19), zi k15 12 (a25_ 0)), ((q0 3), zi k3 400 f3), ((q0 2), zi k2 4800 f2), ((q0 7), zi k6 120 f6), ((q0 11), zi k10 120 f10), ((q0 5), zi k4 122880 f4), ((q0 12), zi k11 120 f11), ((q0 22), zi k16 40000 f16), ((q0 6), zi k5 120 f5)] H1 := hP.sub [7, 0, 1, 2, 3, 4, 8, 9, 10, 5, 6] rfl
                        have hD : va_D A [(h0, .inr (13, mX13 q0 (upd (upd v0 20 (u25_ 0)) 21 0))), ((q0 17), zi k14 12 f14), ((q0 19), zi k15 12 (a25_ 0)), ((q0 3), zi k3 400 f3), ((q0 2), zi k2 4800 f2), ((q0 7), zi k6 120 f6), ((q0 11), zi k10 120 f10), ((q0 5), zi k4 122880 f4), ((q0 12), zi k11 120 f11), ((q0 22), zi k16 40000 f16), ((q0 6), zi k5 120 f5)] := hD.sub [7, 0, 1, 2, 3, 4, 8, 9, 10, 5, 6] (by decide) rfl
                        generalize H1 = H at hP hS ⊢
                        clear hz1
                        refine lv_goto (tgt := 127) hx hb dX13_posting_123 (by decide) ?_
                        have b_ : -2147483648 ≤ (u96_ 0).toInt ∧ (u96_ 0).toInt ≤ 2147483647 := ⟨zlo _, zhi _⟩
                        refine lv_iadd hx hb dX13_posting_127 ?_
                        refine lv_topi (fun z127 e_z127 => ?_)
                        refine lv_istore_n (lv' := [(3, .int z127), (0, .ref h0), (1, .int x1), (2, .int r25_), (4, .int (u96_ 1))]) hx hb dX13_posting_128 rfl hl (by decide) rfl (fun ls hl => ?_)
                        obtain ⟨z129, e_z129⟩ : ∃ z : Int32, z = (u96_ 1) + Int32.ofInt 1 := ⟨_, rfl⟩
                        have b_ := zadd (x := (u96_ 1)) (y := Int32.ofInt 1) rfl (show (Int32.ofInt 1).toInt = 1 from by decide) e_z129 (by omega) (by omega)
                        refine lv_iinc (v := z129) (lv' := [(4, .int z129), (3, .int z127), (0, .ref h0), (1, .int x1), (2, .int r25_)]) hx hb dX13_posting_129 hl (k := 4) rfl e_z129.symm (by decide) rfl (fun ls hl => ?_)
                        refine lv_goto (tgt := 96) hx hb dX13_posting_132 (by decide) ?_
                        have b_ : -2147483648 ≤ z127.toInt ∧ z127.toInt ≤ 2147483647 := ⟨zlo _, zhi _⟩
                        have hc : va_P (dC, dI) vwCl [(h0, .inr (13, mX13 q0 (upd (upd v0 20 (u25_ 0)) 21 0))), ((q0 17), zi k14 12 f14), ((q0 19), zi k15 12 (a25_ 0)), ((q0 3), zi k3 400 f3), ((q0 2), zi k2 4800 f2), ((q0 7), zi k6 120 f6), ((q0 11), zi k10 120 f10), ((q0 5), zi k4 122880 f4), ((q0 12), zi k11 120 f11), ((q0 22), zi k16 40000 f16), ((q0 6), zi k5 120 f5)] H ∧ va_D A [(h0, .inr (13, mX13 q0 (upd (upd v0 20 (u25_ 0)) 21 0))), ((q0 17), zi k14 12 f14), ((q0 19), zi k15 12 (a25_ 0)), ((q0 3), zi k3 400 f3), ((q0 2), zi k2 4800 f2), ((q0 7), zi k6 120 f6), ((q0 11), zi k10 120 f10), ((q0 5), zi k4 122880 f4), ((q0 12), zi k11 120 f11), ((q0 22), zi k16 40000 f16), ((q0 6), zi k5 120 f5)] ∧ va_S A s.heap H locs ∧ lv_has ls 5 [(0, .ref h0), (1, .int x1), (2, .int r25_), (3, .int z127), (4, .int z129)] ∧ (0 ≤ z129.toInt ∧ z129.toInt ≤ 120) := ⟨hP, hD, hS, lv_sub hl [2, 3, 4, 1, 0] rfl, (by first | with_reducible assumption | exact ⟨by omega, by omega⟩)⟩
                        exact hJ96 H locs ls (fun i => ([z127, z129] : List (Int32)).getD i 0) (fun _ => 0) (fun _ => (fun _ => 0)) (fun _ => (fun _ => 0)) hc (show (120 - z129.toInt).toNat < (120 - (u96_ 1).toInt).toNat from by omega)
                  · skip
                    have hc : va_P (dC, dI) vwCl [(h0, .inr (13, mX13 q0 (upd (upd v0 20 (u25_ 0)) 21 0))), ((q0 17), zi k14 12 f14), ((q0 19), zi k15 12 (a25_ 0)), ((q0 3), zi k3 400 f3), ((q0 2), zi k2 4800 f2), ((q0 7), zi k6 120 f6), ((q0 11), zi k10 120 f10), ((q0 5), zi k4 122880 f4), ((q0 12), zi k11 120 f11), ((q0 22), zi k16 40000 f16), ((q0 6), zi k5 120 f5)] H ∧ va_D A [(h0, .inr (13, mX13 q0 (upd (upd v0 20 (u25_ 0)) 21 0))), ((q0 17), zi k14 12 f14), ((q0 19), zi k15 12 (a25_ 0)), ((q0 3), zi k3 400 f3), ((q0 2), zi k2 4800 f2), ((q0 7), zi k6 120 f6), ((q0 11), zi k10 120 f10), ((q0 5), zi k4 122880 f4), ((q0 12), zi k11 120 f11), ((q0 22), zi k16 40000 f16), ((q0 6), zi k5 120 f5)] ∧ va_S A s.heap H locs ∧ lv_has ls 5 [(0, .ref h0), (1, .int x1), (2, .int r25_), (3, .int 0), (4, .int 0)] ∧ (0 ≤ (0 : Int32).toInt ∧ (0 : Int32).toInt ≤ 120) := ⟨hP, hD, hS, lv_sub hl [3, 4, 2, 1, 0] rfl, (by first | with_reducible assumption | exact ⟨by omega, by omega⟩)⟩
                    exact hJ96 H locs ls (fun i => ([0, 0] : List (Int32)).getD i 0) (fun _ => 0) (fun _ => (fun _ => 0)) (fun _ => (fun _ => 0)) hc
                · skip
                  have b_ : x1.toInt ≠ 3 := fun h => c_ (zeqi.mpr (h.trans zk_3.symm))
                  refine lv_tableOut (tgt := 137) hx hb dX13_posting_37 (by omega) (by decide) ?_
                  refine lv_aload_n hx hb dX13_posting_137 rfl (lv_at hl 1 rfl) ?_
                  refine lv_iload_n hx hb dX13_posting_138 rfl (lv_at hl 0 rfl) ?_
                  have hPc := hP.sub (ws' := [(h0, .inr (13, mX13 q0 (upd (upd v0 20 (u25_ 0)) 21 0))), ((q0 3), zi k3 400 f3), ((q0 2), zi k2 4800 f2)]) [0, 3, 4] rfl
                  have hDc := hD.sub (ws' := [(h0, .inr (13, mX13 q0 (upd (upd v0 20 (u25_ 0)) 21 0))), ((q0 3), zi k3 400 f3), ((q0 2), zi k2 4800 f2)]) [0, 3, 4] (by decide) rfl
                  have hKc := hK.sub (tys' := [(k3, .int), (k2, .byte)]) [2, 3] rfl
                  have hFc := va_free (wc := [(h0, .inr (13, mX13 q0 (upd (upd v0 20 (u25_ 0)) 21 0))), ((q0 3), zi k3 400 f3), ((q0 2), zi k2 4800 f2)]) hD hS hA [0, 3, 4] rfl
                  refine va_calli (va_runV (As := [.int r25_]) (rest := []) ⟨hx, hb, hml, hown, hG⟩ (sX13_ahead_0 l dC dI adK adV h0 q0 k3 k2 H.size (upd (upd v0 20 (u25_ 0)) 21 0) f3 f2 r25_ (zR_updF (zR_up2 hv0 20 (show (0 : Int) ≤ ((u25_ 0) : Int32).toInt ∧ ((u25_ 0) : Int32).toInt ≤ (12 : Int) from (by first | with_reducible assumption | exact ⟨by omega, by omega⟩))) 21 rfl) hf3 (show (0 : Int) ≤ (r25_ : Int32).toInt ∧ (r25_ : Int32).toInt ≤ (399 : Int) from (by first | with_reducible assumption | exact ⟨by omega, by omega⟩))) (cwV 1 hG (zgV zv2006 zv2008 zv76 zv142 zv2009) rfl rfl rfl (by decide +kernel) ⟨Nat.le_of_ble_eq_true rfl, Nat.le_of_ble_eq_true rfl⟩) ⟨zPc_blind, va_recv hKc hPc (ci := 13) (q0 := 0) rfl rfl, zPc_pre hPc hKc hDc hE hS hFc hZ⟩ rfl rfl hl.1 rfl (lv_room (Nat.le_of_ble_eq_true rfl)) dX13_posting_139 ⟨Nat.le_of_ble_eq_true rfl, Nat.le_of_ble_eq_true rfl⟩) hS (fun q _ h => hFc q h) hFc (fun r139_ u139_ t H1 locs ht hvm hw hB hz1 hk1 hS => ?_)
                  obtain ⟨w139_, a139_, b139_, hP1, hK1, hD1⟩ := hB
                  rw [ht] at hP1
                  obtain ⟨hP, hD⟩ := va_join (wr := [((q0 17), zi k14 12 f14), ((q0 19), zi k15 12 (a25_ 0)), ((q0 7), zi k6 120 f6), ((q0 11), zi k10 120 f10), ((q0 5), zi k4 122880 f4), ((q0 12), zi k11 120 f11), ((q0 22), zi k16 40000 f16), ((q0 6), zi k5 120 f5)]) (w1 := [(h0, .inr (13, mX13 q0 (upd (upd v0 20 (u25_ 0)) 21 0))), ((q0 3), zi k3 400 f3), ((q0 2), zi k2 4800 f2)]) hP hD [0, 3, 4] [1, 2, 5, 6, 7, 8, 9, 10] rfl rfl (by decide) (by decide) hk1 hFc hP1 hD1
                  have hP : va_P (dC, dI) vwCl [(h0, .inr (13, mX13 q0 (upd (upd v0 20 (u25_ 0)) 21 0))), ((q0 17), zi k14 12 f14), ((q0 19), zi k15 12 (a25_ 0)), ((q0 3), zi k3 400 f3), ((q0 2), zi k2 4800 f2), ((q0 7), zi k6 120 f6), ((q0 11), zi k10 120 f10), ((q0 5), zi k4 122880 f4), ((q0 12), zi k11 120 f11), ((q0 22), zi k16 40000 f16), ((q0 6), zi k5 120 f5)] H1 := hP.sub [8, 0, 1, 9, 10, 2, 3, 4, 5, 6, 7] rfl
                  have hD : va_D A [(h0, .inr (13, mX13 q0 (upd (upd v0 20 (u25_ 0)) 21 0))), ((q0 17), zi k14 12 f14), ((q0 19), zi k15 12 (a25_ 0)), ((q0 3), zi k3 400 f3), ((q0 2), zi k2 4800 f2), ((q0 7), zi k6 120 f6), ((q0 11), zi k10 120 f10), ((q0 5), zi k4 122880 f4), ((q0 12), zi k11 120 f11), ((q0 22), zi k16 40000 f16), ((q0 6), zi k5 120 f5)] := hD.sub [8, 0, 1, 9, 10, 2, 3, 4, 5, 6, 7] (by decide) rfl
                  generalize H1 = H at hP hS ⊢
                  clear hz1
                  refine W.widen (k := 0) (n := 0) (by decide) (by decide) ?_
                  have b_ : -2147483648 ≤ r139_.toInt ∧ r139_.toInt ≤ 2147483647 := ⟨zlo _, zhi _⟩
                  have b_ : -2147483648 ≤ (v0 23).toInt ∧ (v0 23).toInt ≤ 2147483647 := ⟨zlo _, zhi _⟩
                  have b_ : 0 ≤ (v0 24).toInt ∧ (v0 24).toInt ≤ 1 := hv0 24
                  have hpost : (0 ≤ (u25_ 0).toInt ∧ (u25_ 0).toInt ≤ 12) ∧ (0 ≤ (0 : Int32).toInt ∧ (0 : Int32).toInt ≤ 0) ∧ (0 ≤ (v0 24).toInt ∧ (v0 24).toInt ≤ 1) := ⟨(by first | with_reducible assumption | exact ⟨by omega, by omega⟩), (by first | with_reducible assumption | exact ⟨by omega, by omega⟩), (by first | with_reducible assumption | exact ⟨by omega, by omega⟩)⟩
                  have hP9 : va_P (dC, dI) vwCl [(h0, .inr (13, mX13 q0 (upd (upd (upd (upd v0 20 (u25_ 0)) 21 0) 23 (v0 23)) 24 (v0 24)))), ((q0 17), zi k14 12 f14), ((q0 19), zi k15 12 (a25_ 0)), ((q0 3), zi k3 400 f3), ((q0 2), zi k2 4800 f2), ((q0 7), zi k6 120 f6), ((q0 11), zi k10 120 f10), ((q0 5), zi k4 122880 f4), ((q0 12), zi k11 120 f11), ((q0 22), zi k16 40000 f16), ((q0 6), zi k5 120 f5)] H := hP
                  have hD9 : va_D A [(h0, .inr (13, mX13 q0 (upd (upd (upd (upd v0 20 (u25_ 0)) 21 0) 23 (v0 23)) 24 (v0 24)))), ((q0 17), zi k14 12 f14), ((q0 19), zi k15 12 (a25_ 0)), ((q0 3), zi k3 400 f3), ((q0 2), zi k2 4800 f2), ((q0 7), zi k6 120 f6), ((q0 11), zi k10 120 f10), ((q0 5), zi k4 122880 f4), ((q0 12), zi k11 120 f11), ((q0 22), zi k16 40000 f16), ((q0 6), zi k5 120 f5)] := hD
                  exact W.iret (v := r139_) hx hb hr (fun t ht hW => ⟨⟨r139_, (fun i => ([(u25_ 0), 0, (v0 23), (v0 24)] : List (Int32)).getD i 0), rfl, hpost, (fun _ => 0), (fun i => ([(a25_ 0), f16] : List (Nat → Int32)).getD i (fun _ => 0)), (fun _ => (fun _ => 0)), by rw [ht]; exact hP9, va_K.moved hW.alike hK, hD9⟩, hS.F ht⟩) hS.2.2 dX13_posting_142
        · skip
          have b_ := zF_ne rfl zk_m1 c_
          refine lv_iconst (v := 0) hx hb dX13_posting_34 (by decide) ?_
          refine W.widen (k := 0) (n := 0) (by decide) (by decide) ?_
          have b_ : -2147483648 ≤ (v0 23).toInt ∧ (v0 23).toInt ≤ 2147483647 := ⟨zlo _, zhi _⟩
          have b_ : 0 ≤ (v0 24).toInt ∧ (v0 24).toInt ≤ 1 := hv0 24
          have hpost : (0 ≤ (u25_ 0).toInt ∧ (u25_ 0).toInt ≤ 12) ∧ (0 ≤ (0 : Int32).toInt ∧ (0 : Int32).toInt ≤ 0) ∧ (0 ≤ (v0 24).toInt ∧ (v0 24).toInt ≤ 1) := ⟨(by first | with_reducible assumption | exact ⟨by omega, by omega⟩), (by first | with_reducible assumption | exact ⟨by omega, by omega⟩), (by first | with_reducible assumption | exact ⟨by omega, by omega⟩)⟩
          have hP9 : va_P (dC, dI) vwCl [(h0, .inr (13, mX13 q0 (upd (upd (upd (upd v0 20 (u25_ 0)) 21 0) 23 (v0 23)) 24 (v0 24)))), ((q0 17), zi k14 12 f14), ((q0 19), zi k15 12 (a25_ 0)), ((q0 3), zi k3 400 f3), ((q0 2), zi k2 4800 f2), ((q0 7), zi k6 120 f6), ((q0 11), zi k10 120 f10), ((q0 5), zi k4 122880 f4), ((q0 12), zi k11 120 f11), ((q0 22), zi k16 40000 f16), ((q0 6), zi k5 120 f5)] H := hP
          have hD9 : va_D A [(h0, .inr (13, mX13 q0 (upd (upd (upd (upd v0 20 (u25_ 0)) 21 0) 23 (v0 23)) 24 (v0 24)))), ((q0 17), zi k14 12 f14), ((q0 19), zi k15 12 (a25_ 0)), ((q0 3), zi k3 400 f3), ((q0 2), zi k2 4800 f2), ((q0 7), zi k6 120 f6), ((q0 11), zi k10 120 f10), ((q0 5), zi k4 122880 f4), ((q0 12), zi k11 120 f11), ((q0 22), zi k16 40000 f16), ((q0 6), zi k5 120 f5)] := hD
          exact W.iret (v := 0) hx hb hr (fun t ht hW => ⟨⟨0, (fun i => ([(u25_ 0), 0, (v0 23), (v0 24)] : List (Int32)).getD i 0), rfl, hpost, (fun _ => 0), (fun i => ([(a25_ 0), f16] : List (Nat → Int32)).getD i (fun _ => 0)), (fun _ => (fun _ => 0)), by rw [ht]; exact hP9, va_K.moved hW.alike hK, hD9⟩, hS.F ht⟩) hS.2.2 dX13_posting_35
      · skip
        have b_ := zF_le rfl zk_4 c_
        refine lv_iconst (v := (-1)) hx hb dX13_posting_22 (by decide) ?_
        refine W.widen (k := 0) (n := 0) (by decide) (by decide) ?_
        have b_ : 0 ≤ (v0 20).toInt ∧ (v0 20).toInt ≤ 12 := hv0 20
        have b_ : -2147483648 ≤ (v0 23).toInt ∧ (v0 23).toInt ≤ 2147483647 := ⟨zlo _, zhi _⟩
        have b_ : 0 ≤ (v0 24).toInt ∧ (v0 24).toInt ≤ 1 := hv0 24
        have hpost : (0 ≤ (v0 20).toInt ∧ (v0 20).toInt ≤ 12) ∧ (0 ≤ (0 : Int32).toInt ∧ (0 : Int32).toInt ≤ 0) ∧ (0 ≤ (v0 24).toInt ∧ (v0 24).toInt ≤ 1) := ⟨(by first | with_reducible assumption | exact ⟨by omega, by omega⟩), (by first | with_reducible assumption | exact ⟨by omega, by omega⟩), (by first | with_reducible assumption | exact ⟨by omega, by omega⟩)⟩
        have hP9 : va_P (dC, dI) vwCl [(h0, .inr (13, mX13 q0 (upd (upd (upd (upd v0 20 (v0 20)) 21 0) 23 (v0 23)) 24 (v0 24)))), ((q0 17), zi k14 12 f14), ((q0 19), zi k15 12 f15), ((q0 3), zi k3 400 f3), ((q0 2), zi k2 4800 f2), ((q0 7), zi k6 120 f6), ((q0 11), zi k10 120 f10), ((q0 5), zi k4 122880 f4), ((q0 12), zi k11 120 f11), ((q0 22), zi k16 40000 f16), ((q0 6), zi k5 120 f5)] H := hP
        have hD9 : va_D A [(h0, .inr (13, mX13 q0 (upd (upd (upd (upd v0 20 (v0 20)) 21 0) 23 (v0 23)) 24 (v0 24)))), ((q0 17), zi k14 12 f14), ((q0 19), zi k15 12 f15), ((q0 3), zi k3 400 f3), ((q0 2), zi k2 4800 f2), ((q0 7), zi k6 120 f6), ((q0 11), zi k10 120 f10), ((q0 5), zi k4 122880 f4), ((q0 12), zi k11 120 f11), ((q0 22), zi k16 40000 f16), ((q0 6), zi k5 120 f5)] := hD
        exact W.iret (v := (-1)) hx hb hr (fun t ht hW => ⟨⟨(-1), (fun i => ([(v0 20), 0, (v0 23), (v0 24)] : List (Int32)).getD i 0), rfl, hpost, (fun _ => 0), (fun i => ([f15, f16] : List (Nat → Int32)).getD i (fun _ => 0)), (fun _ => (fun _ => 0)), by rw [ht]; exact hP9, va_K.moved hW.alike hK, hD9⟩, hS.F ht⟩) hS.2.2 dX13_posting_23
