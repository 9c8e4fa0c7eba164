set_option maxHeartbeats 8000000 in
set_option maxRecDepth 100000 in
theorem sX13_takesToken_0 (l : Launch) (dC : Nat → ClassId) (dI : Nat → Nat → Nat) (adK adV : Nat → Nat) (h0 : Nat) (q0 : Nat → Nat) (k1 : ClassId) (k15 : ClassId) (sz : Nat) (v0 : Nat → Int32) (f1 : Nat → Int32) (f15 : Nat → Int32) (hv0 : zR rg_Model v0) : Met l yX13_takesToken (zw yX13_takesToken cX13_takesToken 3 (some .boolean)) { frames := 4, cells := 0, slots := 0, locals := 86 } (zPc dC dI adK adV [.ref h0] sz [(h0, .inr (13, mX13 q0 v0)), ((q0 0), .inl (k1, 600, .inl f1)), ((q0 19), .inl (k15, 12, .inl f15))] [(k1, .byte), (k15, .byte)]) (va_Qi (fun (r : Int32) (u : Nat → Int32) => (0 ≤ r.toInt ∧ r.toInt ≤ 1) ∧ (0 ≤ (u 0).toInt ∧ (u 0).toInt ≤ 0) ∧ (0 ≤ (u 1).toInt ∧ (u 1).toInt ≤ 12)) (fun (u : Nat → Int32) (t : State) => ∃ (ww : Nat → Int64) (aa : Nat → Nat → Int32) (bb : Nat → Nat → Int64), va_P (dC, dI) vwCl [(h0, .inr (13, mX13 q0 (upd (upd v0 1 (u 0)) 20 (u 1)))), ((q0 0), .inl (k1, 600, .inl f1)), ((q0 19), .inl (k15, 12, .inl (aa 0)))] t.heap ∧ va_K (dC, dI) vwCl [(k1, .byte), (k15, .byte)] t ∧ va_D (va_A [(h0, .inr (13, mX13 q0 v0)), ((q0 0), .inl (k1, 600, .inl f1)), ((q0 19), .inl (k15, 12, .inl f15))] sz) [(h0, .inr (13, mX13 q0 (upd (upd v0 1 (u 0)) 20 (u 1)))), ((q0 0), .inl (k1, 600, .inl f1)), ((q0 19), .inl (k15, 12, .inl (aa 0)))]) (va_A [(h0, .inr (13, mX13 q0 v0)), ((q0 0), .inl (k1, 600, .inl f1)), ((q0 19), .inl (k15, 12, .inl f15))] sz)) 0 0 (va_A [(h0, .inr (13, mX13 q0 v0)), ((q0 0), .inl (k1, 600, .inl f1)), ((q0 19), .inl (k15, 12, .inl f15))] sz) := by
  refine Met.ofW (cc := cX13_takesToken) (maxL := 3) (ret := (some .boolean)) (by decide) rfl ?_
  intro p e s m args below meth c s₁ B hml hv
  obtain ⟨rfl, hsz, hP, hK, hD0, hE, hZ⟩ := hv
  have hx := B.exec
  have hb := B.bytes
  have hr := B.returns
  have hG : ∀ w ∈ zG, w.before _ s = true := fun w h => atoms_spec (ws := (zw yX13_takesToken cX13_takesToken 3 (some .boolean))) B.pre w (List.mem_cons_of_mem _ h)
  have hown : s.vm.findClass RX13 = some m.cls := findClass_of_methodNamed B.named
  have hlocks := B.notSynchronized
  subst hsz
  have hD := hD0.self (sz := s.heap.size)
  generalize hAe : va_A [(h0, .inr (13, mX13 q0 v0)), ((q0 0), .inl (k1, 600, .inl f1)), ((q0 19), .inl (k15, 12, .inl f15))] s.heap.size = A at hD hZ ⊢
  have hA : ∀ q : Nat, s.heap.size ≤ q → A q := fun q h => by rw [← hAe]; exact Or.inr h
  have hS : va_S A s.heap s.heap [] := va_S.rf
  have hl := lv_entry ([.ref h0]) (n := 3) (Nat.le_of_ble_eq_true rfl)
  rw [lg_entry_eq]
  generalize (lg_sl ([.ref h0]) ++ List.replicate (3 - (lg_sl ([.ref h0])).length) Slot.unset).toArray = ls at hl ⊢
  have hl : lv_has ls 3 [(0, .ref h0)] := hl
  have b_ := zk_0
  have b_ := zk_1
  refine lv_aload_n hx hb dX13_takesToken_0 rfl (lv_at hl 0 rfl) ?_
  have b_ : 0 ≤ (v0 1).toInt ∧ (v0 1).toInt ≤ 600 := hv0 1
  refine va_get (D := (dC, dI)) (ci := 13) (v := .int (v0 1)) (C := RX13) (T := TX13) (N := 75) hx hb hG zuX13 hown hK hP 0 rfl rfl 1 (by decide) (hG _ zw519) (fun _ h9 => h9) rfl dX13_takesToken_1 ?_
  refine lv_istore_n (lv' := [(1, .int (v0 1)), (0, .ref h0)]) hx hb dX13_takesToken_4 rfl hl (by decide) rfl (fun ls hl => ?_)
  refine lv_aload_n hx hb dX13_takesToken_5 rfl (lv_at hl 1 rfl) ?_
  refine lv_iconst (v := 0) hx hb dX13_takesToken_6 (by decide) ?_
  refine va_put (D := (dC, dI)) (ci := 13) (v := .int 0) (ty := .int) (C := RX13) (T := TX13) (N := 75) hx hb hG zuX13 tyX13 tyX13_ok nmX13 hown hK hP hD hS 0 rfl rfl 1 (by decide) (hG _ zw519) (fun _ h9 => h9) rfl (by decide +kernel) rfl rfl (Nat.le_of_ble_eq_true rfl) dX13_takesToken_7 (fun H locs hP hD hS => ?_)
  have hP : va_P (dC, dI) vwCl [(h0, .inr (13, mX13 q0 (upd v0 1 0))), ((q0 0), .inl (k1, 600, .inl f1)), ((q0 19), .inl (k15, 12, .inl f15))] H := hP
  have hD : va_D A [(h0, .inr (13, mX13 q0 (upd v0 1 0))), ((q0 0), .inl (k1, 600, .inl f1)), ((q0 19), .inl (k15, 12, .inl f15))] := hD
  refine lv_aload_n hx hb dX13_takesToken_10 rfl (lv_at hl 1 rfl) ?_
  refine lv_iconst (v := 0) hx hb dX13_takesToken_11 (by decide) ?_
  refine lv_iload_n hx hb dX13_takesToken_12 rfl (lv_at hl 0 rfl) ?_
  have hPc := hP.sub (ws' := [(h0, .inr (13, mX13 q0 (upd v0 1 0))), ((q0 0), .inl (k1, 600, .inl f1))]) [0, 1] rfl
  have hDc := hD.sub (ws' := [(h0, .inr (13, mX13 q0 (upd v0 1 0))), ((q0 0), .inl (k1, 600, .inl f1))]) [0, 1] (by decide) rfl
  have hKc := hK.sub (tys' := [(k1, .byte)]) [0] rfl
  have hFc := va_free (wc := [(h0, .inr (13, mX13 q0 (upd v0 1 0))), ((q0 0), .inl (k1, 600, .inl f1))]) hD hS hA [0, 1] rfl
  refine va_calli (va_runV (As := [.int 0, .int (v0 1)]) (rest := []) ⟨hx, hb, hml, hown, hG⟩ (sX13_runFrom_0 l dC dI adK adV h0 q0 k1 H.size (upd v0 1 0) f1 0 (v0 1) (zR_upd hv0 1 (show (0 : Int) ≤ (0 : Int32).toInt from by decide) (show (0 : Int32).toInt ≤ (600 : Int) from by decide)) ⟨show (0 : Int) ≤ (0 : Int32).toInt from by decide, show (0 : Int32).toInt ≤ (600 : Int) from by decide⟩ ⟨show (0 : Int) ≤ ((v0 1) : Int32).toInt from by omega, show ((v0 1) : Int32).toInt ≤ (600 : Int) from by omega⟩) (cwV 2 hG (zgV zw643 zw644 zw645 zw524 zw646) rfl rfl rfl (by decide +kernel) ⟨Nat.le_of_ble_eq_true rfl, Nat.le_of_ble_eq_true rfl⟩) ⟨zPc_blind, va_recv hKc hPc (ci := 13) (q0 := 0) rfl rfl, zPc_pre hPc hKc hDc hE hS hFc hZ⟩ rfl rfl hl.1 rfl (lv_room (Nat.le_of_ble_eq_true rfl)) dX13_takesToken_13 ⟨Nat.le_of_ble_eq_true rfl, Nat.le_of_ble_eq_true rfl⟩) hS (fun q _ h => hFc q h) hFc (fun r13_ u13_ t H1 locs ht hvm hw hB hz1 hk1 hS => ?_)
  have hw : (0 ≤ r13_.toInt ∧ r13_.toInt ≤ 600) ∧ ((0 : Int32).toInt ≤ r13_.toInt) ∧ (r13_.toInt ≤ (v0 1).toInt ∨ r13_.toInt = (0 : Int32).toInt) := hw
  obtain ⟨b_, hX13_0, hX13_1⟩ := hw
  obtain ⟨w13_, a13_, b13_, hP1, hK1, hD1⟩ := hB
  rw [ht] at hP1
  obtain ⟨hP, hD⟩ := va_join (wr := [((q0 19), .inl (k15, 12, .inl f15))]) (w1 := [(h0, .inr (13, mX13 q0 (upd v0 1 0))), ((q0 0), .inl (k1, 600, .inl f1))]) hP hD [0, 1] [2] rfl rfl (by decide) (by decide) hk1 hFc hP1 hD1
  have hP : va_P (dC, dI) vwCl [(h0, .inr (13, mX13 q0 (upd v0 1 0))), ((q0 0), .inl (k1, 600, .inl f1)), ((q0 19), .inl (k15, 12, .inl f15))] H1 := hP.sub [1, 2, 0] rfl
  have hD : va_D A [(h0, .inr (13, mX13 q0 (upd v0 1 0))), ((q0 0), .inl (k1, 600, .inl f1)), ((q0 19), .inl (k15, 12, .inl f15))] := hD.sub [1, 2, 0] (by decide) rfl
  generalize H1 = H at hP hS ⊢
  clear hz1
  refine lv_istore_n (lv' := [(2, .int r13_), (1, .int (v0 1)), (0, .ref h0)]) hx hb dX13_takesToken_16 rfl hl (by decide) rfl (fun ls hl => ?_)
  refine lv_iload_n hx hb dX13_takesToken_17 rfl (lv_at hl 0 rfl) ?_
  refine lv_iload_n hx hb dX13_takesToken_18 rfl (lv_at hl 1 rfl) ?_
  refine lv_icmp_ne (tgt := 24) hx hb dX13_takesToken_19 (by decide) (fun c_ => ?_) (fun c_ => ?_)
  · skip
    have b_ := zT_ne rfl rfl c_
    refine lv_aload_n hx hb dX13_takesToken_24 rfl (lv_at hl 2 rfl) ?_
    refine lv_iload_n hx hb dX13_takesToken_25 rfl (lv_at hl 0 rfl) ?_
    refine lv_aload_n hx hb dX13_takesToken_26 rfl (lv_at hl 2 rfl) ?_
    refine lv_iload_n hx hb dX13_takesToken_27 rfl (lv_at hl 0 rfl) ?_
    refine lv_iload_n hx hb dX13_takesToken_28 rfl (lv_at hl 1 rfl) ?_
    have hPc := hP.sub (ws' := [(h0, .inr (13, mX13 q0 (upd v0 1 0))), ((q0 0), .inl (k1, 600, .inl f1))]) [0, 1] rfl
    have hDc := hD.sub (ws' := [(h0, .inr (13, mX13 q0 (upd v0 1 0))), ((q0 0), .inl (k1, 600, .inl f1))]) [0, 1] (by decide) rfl
    have hKc := hK.sub (tys' := [(k1, .byte)]) [0] rfl
    have hFc := va_free (wc := [(h0, .inr (13, mX13 q0 (upd v0 1 0))), ((q0 0), .inl (k1, 600, .inl f1))]) hD hS hA [0, 1] rfl
    refine va_calli (va_runV (As := [.int r13_, .int (v0 1)]) (rest := [.int r13_, .ref h0]) ⟨hx, hb, hml, hown, hG⟩ (sX13_runEnd_0 l dC dI adK adV h0 q0 k1 H.size (upd v0 1 0) f1 r13_ (v0 1) (zR_upd hv0 1 (show (0 : Int) ≤ (0 : Int32).toInt from by decide) (show (0 : Int32).toInt ≤ (600 : Int) from by decide)) ⟨show (0 : Int) ≤ (r13_ : Int32).toInt from by omega, show (r13_ : Int32).toInt ≤ (600 : Int) from by omega⟩ ⟨show (0 : Int) ≤ ((v0 1) : Int32).toInt from by omega, show ((v0 1) : Int32).toInt ≤ (600 : Int) from by omega⟩) (cwV 2 hG (zgV zw606 zw607 zw608 zw524 zw609) rfl rfl rfl (by decide +kernel) ⟨Nat.le_of_ble_eq_true rfl, Nat.le_of_ble_eq_true rfl⟩) ⟨zPc_blind, va_recv hKc hPc (ci := 13) (q0 := 0) rfl rfl, zPc_pre hPc hKc hDc hE hS hFc hZ⟩ rfl rfl hl.1 rfl (lv_room (Nat.le_of_ble_eq_true rfl)) dX13_takesToken_29 ⟨Nat.le_of_ble_eq_true rfl, Nat.le_of_ble_eq_true rfl⟩) hS (fun q _ h => hFc q h) hFc (fun r29_ u29_ t H1 locs ht hvm hw hB hz1 hk1 hS => ?_)
    have hw : (0 ≤ r29_.toInt ∧ r29_.toInt ≤ 600) ∧ (r13_.toInt ≤ r29_.toInt) ∧ (r29_.toInt ≤ (v0 1).toInt ∨ r29_.toInt = r13_.toInt) ∧ (r29_.toInt ≤ 600) ∧ (r29_.toInt < (v0 1).toInt → ¬ zTok (f1 ((r29_ : Int32)).toNatClampNeg).toInt) ∧ (r13_.toInt < (v0 1).toInt → zTok (f1 ((r13_ : Int32)).toNatClampNeg).toInt → r13_.toInt < r29_.toInt) := hw
    obtain ⟨b_, hX29_0, hX29_1, hX29_2, hX29_3, hX29_4⟩ := hw
    obtain ⟨w29_, a29_, b29_, hP1, hK1, hD1⟩ := hB
    rw [ht] at hP1
    obtain ⟨hP, hD⟩ := va_join (wr := [((q0 19), .inl (k15, 12, .inl f15))]) (w1 := [(h0, .inr (13, mX13 q0 (upd v0 1 0))), ((q0 0), .inl (k1, 600, .inl f1))]) hP hD [0, 1] [2] rfl rfl (by decide) (by decide) hk1 hFc hP1 hD1
    have hP : va_P (dC, dI) vwCl [(h0, .inr (13, mX13 q0 (upd v0 1 0))), ((q0 0), .inl (k1, 600, .inl f1)), ((q0 19), .inl (k15, 12, .inl f15))] H1 := hP.sub [1, 2, 0] rfl
    have hD : va_D A [(h0, .inr (13, mX13 q0 (upd v0 1 0))), ((q0 0), .inl (k1, 600, .inl f1)), ((q0 19), .inl (k15, 12, .inl f15))] := hD.sub [1, 2, 0] (by decide) rfl
    generalize H1 = H at hP hS ⊢
    clear hz1
    have hPc := hP.sub (ws' := [(h0, .inr (13, mX13 q0 (upd v0 1 0))), ((q0 0), .inl (k1, 600, .inl f1)), ((q0 19), .inl (k15, 12, .inl f15))]) [0, 1, 2] rfl
    have hDc := hD.sub (ws' := [(h0, .inr (13, mX13 q0 (upd v0 1 0))), ((q0 0), .inl (k1, 600, .inl f1)), ((q0 19), .inl (k15, 12, .inl f15))]) [0, 1, 2] (by decide) rfl
    have hKc := hK.sub (tys' := [(k1, .byte), (k15, .byte)]) [0, 1] rfl
    have hFc := va_free (wc := [(h0, .inr (13, mX13 q0 (upd v0 1 0))), ((q0 0), .inl (k1, 600, .inl f1)), ((q0 19), .inl (k15, 12, .inl f15))]) hD hS hA [0, 1, 2] rfl
    refine va_callv (va_runV (As := [.int r13_, .int r29_]) (rest := []) ⟨hx, hb, hml, hown, hG⟩ (sX13_takeWord_0 l dC dI adK adV h0 q0 k1 k15 H.size (upd v0 1 0) f1 f15 r13_ r29_ (zR_upd hv0 1 (show (0 : Int) ≤ (0 : Int32).toInt from by decide) (show (0 : Int32).toInt ≤ (600 : Int) from by decide)) ⟨show (0 : Int) ≤ (r13_ : Int32).toInt from by omega, show (r13_ : Int32).toInt ≤ (600 : Int) from by omega⟩ ⟨show (0 : Int) ≤ (r29_ : Int32).toInt from by omega, show (r29_ : Int32).toInt ≤ (600 : Int) from by omega⟩) (cwV 2 hG (zgV zw610 zw611 zw612 zw524 zw613) rfl rfl rfl (by decide +kernel) ⟨Nat.le_of_ble_eq_true rfl, Nat.le_of_ble_eq_true rfl⟩) ⟨zPc_blind, va_recv hKc hPc (ci := 13) (q0 := 0) rfl rfl, zPc_pre hPc hKc hDc hE hS hFc hZ⟩ rfl rfl hl.1 rfl (lv_room (Nat.le_of_ble_eq_true rfl)) dX13_takesToken_32 ⟨Nat.le_of_ble_eq_true rfl, Nat.le_of_ble_eq_true rfl⟩) hS (fun q _ h => hFc q h) hFc (fun u32_ t H1 locs ht hvm hw hB hz1 hk1 hS => ?_)
    have hw : (0 ≤ (u32_ 0).toInt ∧ (u32_ 0).toInt ≤ 12) := hw
    have b_ := hw
    obtain ⟨w32_, a32_, b32_, hP1, hK1, hD1⟩ := hB
    rw [ht] at hP1
    obtain ⟨hP, hD⟩ := va_join (wr := []) (w1 := [(h0, .inr (13, mX13 q0 (upd (upd v0 1 0) 20 (u32_ 0)))), ((q0 0), .inl (k1, 600, .inl f1)), ((q0 19), .inl (k15, 12, .inl (a32_ 0)))]) hP hD [0, 1, 2] [] rfl rfl (by decide) (by decide) hk1 hFc hP1 hD1
    have hP : va_P (dC, dI) vwCl [(h0, .inr (13, mX13 q0 (upd (upd v0 1 0) 20 (u32_ 0)))), ((q0 0), .inl (k1, 600, .inl f1)), ((q0 19), .inl (k15, 12, .inl (a32_ 0)))] H1 := hP.sub [0, 1, 2] rfl
    have hD : va_D A [(h0, .inr (13, mX13 q0 (upd (upd v0 1 0) 20 (u32_ 0)))), ((q0 0), .inl (k1, 600, .inl f1)), ((q0 19), .inl (k15, 12, .inl (a32_ 0)))] := hD.sub [0, 1, 2] (by decide) rfl
    generalize H1 = H at hP hS ⊢
    clear hz1
    refine lv_iconst (v := 1) hx hb dX13_takesToken_35 (by decide) ?_
    refine W.widen (k := 0) (n := 0) (by decide) (by decide) ?_
    have hpost : (0 ≤ (1 : Int32).toInt ∧ (1 : Int32).toInt ≤ 1) ∧ (0 ≤ (0 : Int32).toInt ∧ (0 : Int32).toInt ≤ 0) ∧ (0 ≤ (u32_ 0).toInt ∧ (u32_ 0).toInt ≤ 12) := ⟨⟨by omega, by omega⟩, ⟨by omega, by omega⟩, ⟨by omega, by omega⟩⟩
    have hP9 : va_P (dC, dI) vwCl [(h0, .inr (13, mX13 q0 (upd (upd v0 1 0) 20 (u32_ 0)))), ((q0 0), .inl (k1, 600, .inl f1)), ((q0 19), .inl (k15, 12, .inl (a32_ 0)))] H := hP
    have hD9 : va_D A [(h0, .inr (13, mX13 q0 (upd (upd v0 1 0) 20 (u32_ 0)))), ((q0 0), .inl (k1, 600, .inl f1)), ((q0 19), .inl (k15, 12, .inl (a32_ 0)))] := hD
    exact W.zret (v := 1) hx hb hr rfl (fun t ht hW => ⟨⟨1, (fun i => ([0, (u32_ 0)] : List (Int32)).getD i 0), rfl, hpost, (fun _ => 0), (fun i => ([(a32_ 0)] : List (Nat → Int32)).getD i (fun _ => 0)), (fun _ => (fun _ => 0)), by rw [ht]; exact hP9, va_K.moved hW.alike hK, hD9⟩, hS.F ht⟩) hS.2.2 dX13_takesToken_36
  · skip
    have b_ := zF_ne rfl rfl c_
    refine lv_iconst (v := 0) hx hb dX13_takesToken_22 (by decide) ?_
    refine W.widen (k := 0) (n := 0) (by decide) (by decide) ?_
    have b_ : 0 ≤ (v0 20).toInt ∧ (v0 20).toInt ≤ 12 := hv0 20
    have hpost : (0 ≤ (0 : Int32).toInt ∧ (0 : Int32).toInt ≤ 1) ∧ (0 ≤ (0 : Int32).toInt ∧ (0 : Int32).toInt ≤ 0) ∧ (0 ≤ (v0 20).toInt ∧ (v0 20).toInt ≤ 12) := ⟨⟨by omega, by omega⟩, ⟨by omega, by omega⟩, ⟨by omega, by omega⟩⟩
    have hP9 : va_P (dC, dI) vwCl [(h0, .inr (13, mX13 q0 (upd (upd v0 1 0) 20 (v0 20)))), ((q0 0), .inl (k1, 600, .inl f1)), ((q0 19), .inl (k15, 12, .inl f15))] H := hP
    have hD9 : va_D A [(h0, .inr (13, mX13 q0 (upd (upd v0 1 0) 20 (v0 20)))), ((q0 0), .inl (k1, 600, .inl f1)), ((q0 19), .inl (k15, 12, .inl f15))] := hD
    exact W.zret (v := 0) hx hb hr rfl (fun t ht hW => ⟨⟨0, (fun i => ([0, (v0 20)] : List (Int32)).getD i 0), rfl, hpost, (fun _ => 0), (fun i => ([f15] : List (Nat → Int32)).getD i (fun _ => 0)), (fun _ => (fun _ => 0)), by rw [ht]; exact hP9, va_K.moved hW.alike hK, hD9⟩, hS.F ht⟩) hS.2.2 dX13_takesToken_23
set_option maxHeartbeats 8000000 in
set_option maxRecDepth 100000 in
theorem sX13_stop_0 (l : Launch) (dC : Nat → ClassId) (dI : Nat → Nat → Nat) (adK adV : Nat → Nat) (h0 : Nat) (q0 : Nat → Nat) (k1 : ClassId) (k15 : ClassId) (k13 : ClassId) (k12 : ClassId) (sz : Nat) (v0 : Nat → Int32) (f1 : Nat → Int32) (f15 : Nat → Int32) (f13 : Nat → Int32) (f12 : Nat → Int32) (x1 : Int32) (hv0 : zR rg_Model v0) (hf13 : zA 0 12 f13) (hx1 : 0 ≤ x1.toInt ∧ x1.toInt ≤ 1) : Met l yX13_stop (zw yX13_stop cX13_stop 4 (some .int)) { frames := 5, cells := 0, slots := 0, locals := 108 } (zPc dC dI adK adV [.ref h0, .int x1] sz [(h0, .inr (13, mX13 q0 v0)), ((q0 0), .inl (k1, 600, .inl f1)), ((q0 19), .inl (k15, 12, .inl f15)), ((q0 15), .inl (k13, 10, .inl f13)), ((q0 14), .inl (k12, 120, .inl f12))] [(k1, .byte), (k15, .byte), (k13, .int), (k12, .byte)]) (va_Qi (fun (r : Int32) (u : Nat → Int32) => ((-2) ≤ r.toInt ∧ r.toInt ≤ 10) ∧ (0 ≤ (u 0).toInt ∧ (u 0).toInt ≤ 0) ∧ (0 ≤ (u 1).toInt ∧ (u 1).toInt ≤ 10) ∧ (0 ≤ (u 2).toInt ∧ (u 2).toInt ≤ 12) ∧ (0 ≤ (u 3).toInt ∧ (u 3).toInt ≤ 0)) (fun (u : Nat → Int32) (t : State) => ∃ (ww : Nat → Int64) (aa : Nat → Nat → Int32) (bb : Nat → Nat → Int64), zA 0 12 (aa 1) ∧ va_P (dC, dI) vwCl [(h0, .inr (13, mX13 q0 (upd (upd (upd (upd v0 1 (u 0)) 16 (u 1)) 20 (u 2)) 21 (u 3)))), ((q0 0), .inl (k1, 600, .inl f1)), ((q0 19), .inl (k15, 12, .inl (aa 0))), ((q0 15), .inl (k13, 10, .inl (aa 1))), ((q0 14), .inl (k12, 120, .inl (aa 2)))] t.heap ∧ va_K (dC, dI) vwCl [(k1, .byte), (k15, .byte), (k13, .int), (k12, .byte)] t ∧ va_D (va_A [(h0, .inr (13, mX13 q0 v0)), ((q0 0), .inl (k1, 600, .inl f1)), ((q0 19), .inl (k15, 12, .inl f15)), ((q0 15), .inl (k13, 10, .inl f13)), ((q0 14), .inl (k12, 120, .inl f12))] sz) [(h0, .inr (13, mX13 q0 (upd (upd (upd (upd v0 1 (u 0)) 16 (u 1)) 20 (u 2)) 21 (u 3)))), ((q0 0), .inl (k1, 600, .inl f1)), ((q0 19), .inl (k15, 12, .inl (aa 0))), ((q0 15), .inl (k13, 10, .inl (aa 1))), ((q0 14), .inl (k12, 120, .inl (aa 2)))]) (va_A [(h0, .inr (13, mX13 q0 v0)), ((q0 0), .inl (k1, 600, .inl f1)), ((q0 19), .inl (k15, 12, .inl f15)), ((q0 15), .inl (k13, 10, .inl f13)), ((q0 14), .inl (k12, 120, .inl f12))] sz)) 0 0 (va_A [(h0, .inr (13, mX13 q0 v0)), ((q0 0), .inl (k1, 600, .inl f1)), ((q0 19), .inl (k15, 12, .inl f15)), ((q0 15), .inl (k13, 10, .inl f13)), ((q0 14), .inl (k12, 120, .inl f12))] sz) := by
  refine Met.ofW (cc := cX13_stop) (maxL := 4) (ret := (some .int)) (by decide) rfl ?_
  intro p e s m args below meth c s₁ B hml hv
  obtain ⟨rfl, hsz, hP, hK, hD0, hE, hZ⟩ := hv
  have hx := B.exec
  have hb := B.bytes
  have hr := B.returns
  have hG : ∀ w ∈ zG, w.before _ s = true := fun w h => atoms_spec (ws := (zw yX13_stop cX13_stop 4 (some .int))) B.pre w (List.mem_cons_of_mem _ h)
  have hown : s.vm.findClass RX13 = some m.cls := findClass_of_methodNamed B.named
  have hlocks := B.notSynchronized
  subst hsz
  have hD := hD0.self (sz := s.heap.size)
  generalize hAe : va_A [(h0, .inr (13, mX13 q0 v0)), ((q0 0), .inl (k1, 600, .inl f1)), ((q0 19), .inl (k15, 12, .inl f15)), ((q0 15), .inl (k13, 10, .inl f13)), ((q0 14), .inl (k12, 120, .inl f12))] s.heap.size = A at hD hZ ⊢
  have hA : ∀ q : Nat, s.heap.size ≤ q → A q := fun q h => by rw [← hAe]; exact Or.inr h
  have hS : va_S A s.heap s.heap [] := va_S.rf
  have hl := lv_entry ([.ref h0, .int x1]) (n := 4) (Nat.le_of_ble_eq_true rfl)
  rw [lg_entry_eq]
  generalize (lg_sl ([.ref h0, .int x1]) ++ List.replicate (4 - (lg_sl ([.ref h0, .int x1])).length) Slot.unset).toArray = ls at hl ⊢
  have hl : lv_has ls 4 [(0, .ref h0), (1, .int x1)] := hl
  have b_ := zk_m2
  have b_ := zk_m1
  have b_ := zk_0
  refine lv_aload_n hx hb dX13_stop_0 rfl (lv_at hl 0 rfl) ?_
  refine lv_iconst (v := 0) hx hb dX13_stop_1 (by decide) ?_
  refine va_put (D := (dC, dI)) (ci := 13) (v := .int 0) (ty := .int) (C := RX13) (T := TX13) (N := 75) hx hb hG zuX13 tyX13 tyX13_ok nmX13 hown hK hP hD hS 0 rfl rfl 21 (by decide) (hG _ zw518) (fun _ h9 => h9) rfl (by decide +kernel) rfl rfl (Nat.le_of_ble_eq_true rfl) dX13_stop_2 (fun H locs hP hD hS => ?_)
  have hP : va_P (dC, dI) vwCl [(h0, .inr (13, mX13 q0 (upd v0 21 0))), ((q0 0), .inl (k1, 600, .inl f1)), ((q0 19), .inl (k15, 12, .inl f15)), ((q0 15), .inl (k13, 10, .inl f13)), ((q0 14), .inl (k12, 120, .inl f12))] H := hP
  have hD : va_D A [(h0, .inr (13, mX13 q0 (upd v0 21 0))), ((q0 0), .inl (k1, 600, .inl f1)), ((q0 19), .inl (k15, 12, .inl f15)), ((q0 15), .inl (k13, 10, .inl f13)), ((q0 14), .inl (k12, 120, .inl f12))] := hD
  refine lv_aload_n hx hb dX13_stop_5 rfl (lv_at hl 0 rfl) ?_
  have hPc := hP.sub (ws' := [(h0, .inr (13, mX13 q0 (upd v0 21 0))), ((q0 0), .inl (k1, 600, .inl f1)), ((q0 19), .inl (k15, 12, .inl f15))]) [0, 1, 2] rfl
  have hDc := hD.sub (ws' := [(h0, .inr (13, mX13 q0 (upd v0 21 0))), ((q0 0), .inl (k1, 600, .inl f1)), ((q0 19), .inl (k15, 12, .inl f15))]) [0, 1, 2] (by decide) rfl
  have hKc := hK.sub (tys' := [(k1, .byte), (k15, .byte)]) [0, 1] rfl
  have hFc := va_free (wc := [(h0, .inr (13, mX13 q0 (upd v0 21 0))), ((q0 0), .inl (k1, 600, .inl f1)), ((q0 19), .inl (k15, 12, .inl f15))]) hD hS hA [0, 1, 2] rfl
  refine va_calli (va_runV (As := []) (rest := []) ⟨hx, hb, hml, hown, hG⟩ (sX13_takesToken_0 l dC dI adK adV h0 q0 k1 k15 H.size (upd v0 21 0) f1 f15 (zR_updF hv0 21 rfl)) (cwV 0 hG (zgV zw647 zw648 zw649 zw524 zw650) rfl rfl rfl (by decide +kernel) ⟨Nat.le_of_ble_eq_true rfl, Nat.le_of_ble_eq_true rfl⟩) ⟨zPc_blind, va_recv hKc hPc (ci := 13) (q0 := 0) rfl rfl, zPc_pre hPc hKc hDc hE hS hFc hZ⟩ rfl rfl hl.1 rfl (lv_room (Nat.le_of_ble_eq_true rfl)) dX13_stop_6 ⟨Nat.le_of_ble_eq_true rfl, Nat.le_of_ble_eq_true rfl⟩) hS (fun q _ h => hFc q h) hFc (fun r6_ u6_ t H1 locs ht hvm hw hB hz1 hk1 hS => ?_)
  have hw : (0 ≤ r6_.toInt ∧ r6_.toInt ≤ 1) ∧ (0 ≤ (u6_ 0).toInt ∧ (u6_ 0).toInt ≤ 0) ∧ (0 ≤ (u6_ 1).toInt ∧ (u6_ 1).toInt ≤ 12) := hw
  obtain ⟨b_, b_, b_⟩ := hw
  obtain ⟨w6_, a6_, b6_, hP1, hK1, hD1⟩ := hB
  rw [ht] at hP1
  obtain ⟨hP, hD⟩ := va_join (wr := [((q0 15), .inl (k13, 10, .inl f13)), ((q0 14), .inl (k12, 120, .inl f12))]) (w1 := [(h0, .inr (13, mX13 q0 (upd (upd (upd v0 1 (u6_ 0)) 20 (u6_ 1)) 21 0))), ((q0 0), .inl (k1, 600, .inl f1)), ((q0 19), .inl (k15, 12, .inl (a6_ 0)))]) hP hD [0, 1, 2] [3, 4] rfl rfl (by decide) (by decide) hk1 hFc hP1 hD1
  have hP : va_P (dC, dI) vwCl [(h0, .inr (13, mX13 q0 (upd (upd (upd v0 1 (u6_ 0)) 20 (u6_ 1)) 21 0))), ((q0 0), .inl (k1, 600, .inl f1)), ((q0 19), .inl (k15, 12, .inl (a6_ 0))), ((q0 15), .inl (k13, 10, .inl f13)), ((q0 14), .inl (k12, 120, .inl f12))] H1 := hP.sub [2, 3, 4, 0, 1] rfl
  have hD : va_D A [(h0, .inr (13, mX13 q0 (upd (upd (upd v0 1 (u6_ 0)) 20 (u6_ 1)) 21 0))), ((q0 0), .inl (k1, 600, .inl f1)), ((q0 19), .inl (k15, 12, .inl (a6_ 0))), ((q0 15), .inl (k13, 10, .inl f13)), ((q0 14), .inl (k12, 120, .inl f12))] := hD.sub [2, 3, 4, 0, 1] (by decide) rfl
  generalize H1 = H at hP hS ⊢
  clear hz1
  refine lv_if_ne (tgt := 14) hx hb dX13_stop_9 (by decide) (fun c_ => ?_) (fun c_ => ?_)
  · skip
    have b_ := zT_ne rfl zk_0 c_
    refine lv_aload_n hx hb dX13_stop_14 rfl (lv_at hl 0 rfl) ?_
    have hPc := hP.sub (ws' := [(h0, .inr (13, mX13 q0 (upd (upd (upd v0 1 (u6_ 0)) 20 (u6_ 1)) 21 0))), ((q0 15), .inl (k13, 10, .inl f13)), ((q0 14), .inl (k12, 120, .inl f12)), ((q0 19), .inl (k15, 12, .inl (a6_ 0)))]) [0, 3, 4, 2] rfl
    have hDc := hD.sub (ws' := [(h0, .inr (13, mX13 q0 (upd (upd (upd v0 1 (u6_ 0)) 20 (u6_ 1)) 21 0))), ((q0 15), .inl (k13, 10, .inl f13)), ((q0 14), .inl (k12, 120, .inl f12)), ((q0 19), .inl (k15, 12, .inl (a6_ 0)))]) [0, 3, 4, 2] (by decide) rfl
    have hKc := hK.sub (tys' := [(k13, .int), (k12, .byte), (k15, .byte)]) [2, 3, 1] rfl
    have hFc := va_free (wc := [(h0, .inr (13, mX13 q0 (upd (upd (upd v0 1 (u6_ 0)) 20 (u6_ 1)) 21 0))), ((q0 15), .inl (k13, 10, .inl f13)), ((q0 14), .inl (k12, 120, .inl f12)), ((q0 19), .inl (k15, 12, .inl (a6_ 0)))]) hD hS hA [0, 3, 4, 2] rfl
    refine va_calli (va_runV (As := []) (rest := []) ⟨hx, hb, hml, hown, hG⟩ (sX13_findStop_0 l dC dI adK adV h0 q0 k13 k12 k15 H.size (upd (upd (upd v0 1 (u6_ 0)) 20 (u6_ 1)) 21 0) f13 f12 (a6_ 0) (zR_updF (zR_upd (zR_upd hv0 1 (show (0 : Int) ≤ ((u6_ 0) : Int32).toInt from by omega) (show ((u6_ 0) : Int32).toInt ≤ (600 : Int) from by omega)) 20 (show (0 : Int) ≤ ((u6_ 1) : Int32).toInt from by omega) (show ((u6_ 1) : Int32).toInt ≤ (12 : Int) from by omega)) 21 rfl) hf13) (cwV 0 hG (zgV zw614 zw615 zw616 zw524 zw617) rfl rfl rfl (by decide +kernel) ⟨Nat.le_of_ble_eq_true rfl, Nat.le_of_ble_eq_true rfl⟩) ⟨zPc_blind, va_recv hKc hPc (ci := 13) (q0 := 0) rfl rfl, zPc_pre hPc hKc hDc hE hS hFc hZ⟩ rfl rfl hl.1 rfl (lv_room (Nat.le_of_ble_eq_true rfl)) dX13_stop_15 ⟨Nat.le_of_ble_eq_true rfl, Nat.le_of_ble_eq_true rfl⟩) hS (fun q _ h => hFc q h) hFc (fun r15_ u15_ t H1 locs ht hvm hw hB hz1 hk1 hS => ?_)
    have hw : ((-1) ≤ r15_.toInt ∧ r15_.toInt ≤ 9) ∧ (r15_.toInt < (v0 16).toInt) := hw
    obtain ⟨b_, hX15_0⟩ := hw
    obtain ⟨w15_, a15_, b15_, hP1, hK1, hD1⟩ := hB
    rw [ht] at hP1
    obtain ⟨hP, hD⟩ := va_join (wr := [((q0 0), .inl (k1, 600, .inl f1))]) (w1 := [(h0, .inr (13, mX13 q0 (upd (upd (upd v0 1 (u6_ 0)) 20 (u6_ 1)) 21 0))), ((q0 15), .inl (k13, 10, .inl f13)), ((q0 14), .inl (k12, 120, .inl f12)), ((q0 19), .inl (k15, 12, .inl (a6_ 0)))]) hP hD [0, 3, 4, 2] [1] rfl rfl (by decide) (by decide) hk1 hFc hP1 hD1
    have hP : va_P (dC, dI) vwCl [(h0, .inr (13, mX13 q0 (upd (upd (upd v0 1 (u6_ 0)) 20 (u6_ 1)) 21 0))), ((q0 0), .inl (k1, 600, .inl f1)), ((q0 19), .inl (k15, 12, .inl (a6_ 0))), ((q0 15), .inl (k13, 10, .inl f13)), ((q0 14), .inl (k12, 120, .inl f12))] H1 := hP.sub [1, 0, 4, 2, 3] rfl
    have hD : va_D A [(h0, .inr (13, mX13 q0 (upd (upd (upd v0 1 (u6_ 0)) 20 (u6_ 1)) 21 0))), ((q0 0), .inl (k1, 600, .inl f1)), ((q0 19), .inl (k15, 12, .inl (a6_ 0))), ((q0 15), .inl (k13, 10, .inl f13)), ((q0 14), .inl (k12, 120, .inl f12))] := hD.sub [1, 0, 4, 2, 3] (by decide) rfl
    generalize H1 = H at hP hS ⊢
    clear hz1
    refine lv_istore_n (lv' := [(2, .int r15_), (0, .ref h0), (1, .int x1)]) hx hb dX13_stop_18 rfl hl (by decide) rfl (fun ls hl => ?_)
    refine lv_iload_n hx hb dX13_stop_19 rfl (lv_at hl 2 rfl) ?_
    refine zcutW (fun H locs ls u102_ w102_ a102_ b102_ => va_P (dC, dI) vwCl [(h0, .inr (13, mX13 q0 (upd (upd (upd v0 1 (u6_ 0)) 20 (u6_ 1)) 21 0))), ((q0 0), .inl (k1, 600, .inl f1)), ((q0 19), .inl (k15, 12, .inl (a6_ 0))), ((q0 15), .inl (k13, 10, .inl f13)), ((q0 14), .inl (k12, 120, .inl f12))] H ∧ va_D A [(h0, .inr (13, mX13 q0 (upd (upd (upd v0 1 (u6_ 0)) 20 (u6_ 1)) 21 0))), ((q0 0), .inl (k1, 600, .inl f1)), ((q0 19), .inl (k15, 12, .inl (a6_ 0))), ((q0 15), .inl (k13, 10, .inl f13)), ((q0 14), .inl (k12, 120, .inl f12))] ∧ va_S A s.heap H locs ∧ lv_has ls 4 [(0, .ref h0), (1, .int x1), (2, .int r15_)] ∧ (0 ≤ x1.toInt ∧ x1.toInt ≤ 1)) (fun ls u102_ w102_ => F0 m 102 ls []) 0 0 ?_ (fun hJ102 => ?_)
    · skip
      intro H locs ls u102_ w102_ a102_ b102_ hc
      obtain ⟨hP, hD, hS, hl, b_⟩ := hc
      refine lv_iload_n hx hb dX13_stop_102 rfl (lv_at hl 1 rfl) ?_
      refine lv_if_ne (tgt := 175) hx hb dX13_stop_103 (by decide) (fun c_ => ?_) (fun c_ => ?_)
      · skip
        have b_ := zT_ne rfl zk_0 c_
        refine lv_aload_n hx hb dX13_stop_175 rfl (lv_at hl 0 rfl) ?_
        have b_ : 0 ≤ (v0 16).toInt ∧ (v0 16).toInt ≤ 10 := hv0 16
        refine va_get (D := (dC, dI)) (ci := 13) (v := .int (v0 16)) (C := RX13) (T := TX13) (N := 75) hx hb hG zuX13 hown hK hP 0 rfl rfl 16 (by decide) (hG _ zw558) (fun _ h9 => h9) rfl dX13_stop_176 ?_
        refine W.widen (k := 0) (n := 0) (by decide) (by decide) ?_
        have hpost : ((-2) ≤ (v0 16).toInt ∧ (v0 16).toInt ≤ 10) ∧ (0 ≤ (u6_ 0).toInt ∧ (u6_ 0).toInt ≤ 0) ∧ (0 ≤ (v0 16).toInt ∧ (v0 16).toInt ≤ 10) ∧ (0 ≤ (u6_ 1).toInt ∧ (u6_ 1).toInt ≤ 12) ∧ (0 ≤ (0 : Int32).toInt ∧ (0 : Int32).toInt ≤ 0) := ⟨⟨by omega, by omega⟩, ⟨by omega, by omega⟩, ⟨by omega, by omega⟩, ⟨by omega, by omega⟩, ⟨by omega, by omega⟩⟩
        have hP9 : va_P (dC, dI) vwCl [(h0, .inr (13, mX13 q0 (upd (upd (upd (upd v0 1 (u6_ 0)) 16 (v0 16)) 20 (u6_ 1)) 21 0))), ((q0 0), .inl (k1, 600, .inl f1)), ((q0 19), .inl (k15, 12, .inl (a6_ 0))), ((q0 15), .inl (k13, 10, .inl f13)), ((q0 14), .inl (k12, 120, .inl f12))] H := hP
        have hD9 : va_D A [(h0, .inr (13, mX13 q0 (upd (upd (upd (upd v0 1 (u6_ 0)) 16 (v0 16)) 20 (u6_ 1)) 21 0))), ((q0 0), .inl (k1, 600, .inl f1)), ((q0 19), .inl (k15, 12, .inl (a6_ 0))), ((q0 15), .inl (k13, 10, .inl f13)), ((q0 14), .inl (k12, 120, .inl f12))] := hD
        exact W.iret (v := (v0 16)) hx hb hr (fun t ht hW => ⟨⟨(v0 16), (fun i => ([(u6_ 0), (v0 16), (u6_ 1), 0] : List (Int32)).getD i 0), rfl, hpost, (fun _ => 0), (fun i => ([(a6_ 0), f13, f12] : List (Nat → Int32)).getD i (fun _ => 0)), (fun _ => (fun _ => 0)), hf13, by rw [ht]; exact hP9, va_K.moved hW.alike hK, hD9⟩, hS.F ht⟩) hS.2.2 dX13_stop_179
      · skip
        have b_ := zF_ne rfl zk_0 c_
        refine lv_iload_n hx hb dX13_stop_106 rfl (lv_at hl 2 rfl) ?_
        refine lv_iconst (v := (-1)) hx hb dX13_stop_107 (by decide) ?_
        refine lv_icmp_eq (tgt := 175) hx hb dX13_stop_108 (by decide) (fun c_ => ?_) (fun c_ => ?_)
        · skip
          have b_ := zT_eq rfl zk_m1 c_
          refine lv_aload_n hx hb dX13_stop_175 rfl (lv_at hl 0 rfl) ?_
          have b_ : 0 ≤ (v0 16).toInt ∧ (v0 16).toInt ≤ 10 := hv0 16
          refine va_get (D := (dC, dI)) (ci := 13) (v := .int (v0 16)) (C := RX13) (T := TX13) (N := 75) hx hb hG zuX13 hown hK hP 0 rfl rfl 16 (by decide) (hG _ zw558) (fun _ h9 => h9) rfl dX13_stop_176 ?_
          refine W.widen (k := 0) (n := 0) (by decide) (by decide) ?_
          have hpost : ((-2) ≤ (v0 16).toInt ∧ (v0 16).toInt ≤ 10) ∧ (0 ≤ (u6_ 0).toInt ∧ (u6_ 0).toInt ≤ 0) ∧ (0 ≤ (v0 16).toInt ∧ (v0 16).toInt ≤ 10) ∧ (0 ≤ (u6_ 1).toInt ∧ (u6_ 1).toInt ≤ 12) ∧ (0 ≤ (0 : Int32).toInt ∧ (0 : Int32).toInt ≤ 0) := ⟨⟨by omega, by omega⟩, ⟨by omega, by omega⟩, ⟨by omega, by omega⟩, ⟨by omega, by omega⟩, ⟨by omega, by omega⟩⟩
          have hP9 : va_P (dC, dI) vwCl [(h0, .inr (13, mX13 q0 (upd (upd (upd (upd v0 1 (u6_ 0)) 16 (v0 16)) 20 (u6_ 1)) 21 0))), ((q0 0), .inl (k1, 600, .inl f1)), ((q0 19), .inl (k15, 12, .inl (a6_ 0))), ((q0 15), .inl (k13, 10, .inl f13)), ((q0 14), .inl (k12, 120, .inl f12))] H := hP
          have hD9 : va_D A [(h0, .inr (13, mX13 q0 (upd (upd (upd (upd v0 1 (u6_ 0)) 16 (v0 16)) 20 (u6_ 1)) 21 0))), ((q0 0), .inl (k1, 600, .inl f1)), ((q0 19), .inl (k15, 12, .inl (a6_ 0))), ((q0 15), .inl (k13, 10, .inl f13)), ((q0 14), .inl (k12, 120, .inl f12))] := hD
          exact W.iret (v := (v0 16)) hx hb hr (fun t ht hW => ⟨⟨(v0 16), (fun i => ([(u6_ 0), (v0 16), (u6_ 1), 0] : List (Int32)).getD i 0), rfl, hpost, (fun _ => 0), (fun i => ([(a6_ 0), f13, f12] : List (Nat → Int32)).getD i (fun _ => 0)), (fun _ => (fun _ => 0)), hf13, by rw [ht]; exact hP9, va_K.moved hW.alike hK, hD9⟩, hS.F ht⟩) hS.2.2 dX13_stop_179
        · skip
          have b_ := zF_eq rfl zk_m1 c_
          refine lv_aload_n hx hb dX13_stop_111 rfl (lv_at hl 0 rfl) ?_
          refine lv_dup hx hb dX13_stop_112 rfl ?_
          have b_ : 0 ≤ (v0 16).toInt ∧ (v0 16).toInt ≤ 10 := hv0 16
          refine va_get (D := (dC, dI)) (ci := 13) (v := .int (v0 16)) (C := RX13) (T := TX13) (N := 75) hx hb hG zuX13 hown hK hP 0 rfl rfl 16 (by decide) (hG _ zw558) (fun _ h9 => h9) rfl dX13_stop_113 ?_
          refine lv_iconst (v := 1) hx hb dX13_stop_116 (by decide) ?_
          refine lv_isub hx hb dX13_stop_117 ?_
          refine lv_topi (fun z117 e_z117 => ?_)
          have b_ := zsub rfl zk_1 e_z117 (by omega) (by omega)
          have b_ : 0 ≤ z117.toInt ∧ z117.toInt ≤ 10 := ⟨by omega, by omega⟩
          refine va_put (D := (dC, dI)) (ci := 13) (v := .int z117) (ty := .int) (C := RX13) (T := TX13) (N := 75) hx hb hG zuX13 tyX13 tyX13_ok nmX13 hown hK hP hD hS 0 rfl rfl 16 (by decide) (hG _ zw558) (fun _ h9 => h9) rfl (by decide +kernel) rfl rfl (Nat.le_of_ble_eq_true rfl) dX13_stop_118 (fun H locs hP hD hS => ?_)
          have hP : va_P (dC, dI) vwCl [(h0, .inr (13, mX13 q0 (upd (upd (upd (upd v0 1 (u6_ 0)) 16 z117) 20 (u6_ 1)) 21 0))), ((q0 0), .inl (k1, 600, .inl f1)), ((q0 19), .inl (k15, 12, .inl (a6_ 0))), ((q0 15), .inl (k13, 10, .inl f13)), ((q0 14), .inl (k12, 120, .inl f12))] H := hP
          have hD : va_D A [(h0, .inr (13, mX13 q0 (upd (upd (upd (upd v0 1 (u6_ 0)) 16 z117) 20 (u6_ 1)) 21 0))), ((q0 0), .inl (k1, 600, .inl f1)), ((q0 19), .inl (k15, 12, .inl (a6_ 0))), ((q0 15), .inl (k13, 10, .inl f13)), ((q0 14), .inl (k12, 120, .inl f12))] := hD
          refine lv_iconst (v := 0) hx hb dX13_stop_121 (by decide) ?_
          refine lv_istore_n (lv' := [(3, .int 0), (0, .ref h0), (1, .int x1), (2, .int r15_)]) hx hb dX13_stop_122 rfl hl (by decide) rfl (fun ls hl => ?_)
          refine zcutL (fun u123_ => (12 - (u123_ 0).toInt).toNat) (fun H locs ls u123_ w123_ a123_ b123_ => va_P (dC, dI) vwCl [(h0, .inr (13, mX13 q0 (upd (upd (upd (upd v0 1 (u6_ 0)) 16 z117) 20 (u6_ 1)) 21 0))), ((q0 0), .inl (k1, 600, .inl f1)), ((q0 19), .inl (k15, 12, .inl (a6_ 0))), ((q0 15), .inl (k13, 10, .inl f13)), ((q0 14), .inl (k12, 120, .inl (a123_ 0)))] H ∧ va_D A [(h0, .inr (13, mX13 q0 (upd (upd (upd (upd v0 1 (u6_ 0)) 16 z117) 20 (u6_ 1)) 21 0))), ((q0 0), .inl (k1, 600, .inl f1)), ((q0 19), .inl (k15, 12, .inl (a6_ 0))), ((q0 15), .inl (k13, 10, .inl f13)), ((q0 14), .inl (k12, 120, .inl (a123_ 0)))] ∧ va_S A s.heap H locs ∧ lv_has ls 4 [(0, .ref h0), (1, .int x1), (2, .int r15_), (3, .int (u123_ 0))] ∧ (0 ≤ (u123_ 0).toInt ∧ (u123_ 0).toInt ≤ 12)) (fun ls u123_ w123_ => F0 m 123 ls []) 0 0 ?_ (fun hJ123 => ?_)
          · skip
            intro H locs ls u123_ w123_ a123_ b123_ hc hJ123
            obtain ⟨hP, hD, hS, hl, b_⟩ := hc
            refine lv_iload_n hx hb dX13_stop_123 rfl (lv_at hl 3 rfl) ?_
            refine lv_bipush (v := 12) hx hb dX13_stop_124 (by decide) ?_
            refine lv_icmp_ge (tgt := 160) hx hb dX13_stop_126 (by decide) (fun c_ => ?_) (fun c_ => ?_)
            · skip
              have b_ := zT_ge rfl zk_12 c_
              refine lv_aload_n hx hb dX13_stop_160 rfl (lv_at hl 0 rfl) ?_
              refine va_get (D := (dC, dI)) (ci := 13) (v := .ref (q0 15)) (C := RX13) (T := TX13) (N := 75) hx hb hG zuX13 hown hK hP 0 rfl rfl 15 (by decide) (hG _ zw560) (fun _ h9 => h9) rfl dX13_stop_161 ?_
              refine lv_iload_n hx hb dX13_stop_164 rfl (lv_at hl 2 rfl) ?_
              refine lv_aload_n hx hb dX13_stop_165 rfl (lv_at hl 0 rfl) ?_
              refine va_get (D := (dC, dI)) (ci := 13) (v := .ref (q0 15)) (C := RX13) (T := TX13) (N := 75) hx hb hG zuX13 hown hK hP 0 rfl rfl 15 (by decide) (hG _ zw560) (fun _ h9 => h9) rfl dX13_stop_166 ?_
              refine lv_aload_n hx hb dX13_stop_169 rfl (lv_at hl 0 rfl) ?_
              refine va_get (D := (dC, dI)) (ci := 13) (v := .int z117) (C := RX13) (T := TX13) (N := 75) hx hb hG zuX13 hown hK hP 0 rfl rfl 16 (by decide) (hG _ zw558) (fun _ h9 => h9) rfl dX13_stop_170 ?_
              refine va_iald hx hb hK hP 3 2 rfl rfl (zin_lit ⟨by omega, by omega⟩) dX13_stop_173 ?_
              refine lv_topi (fun z173 e_z173 => ?_)
              have b_ : 0 ≤ z173.toInt ∧ z173.toInt ≤ 12 := by rw [e_z173]; exact hf13 _
              refine va_iast hx hb hK hP hD hS 3 2 rfl rfl (zin_lit ⟨by omega, by omega⟩) dX13_stop_174 (fun H locs hP hD hS => ?_)
              obtain ⟨f_174, e_f_174⟩ : ∃ z : Nat → Int32, z = upd f13 (r15_ : Int32).toNatClampNeg z173 := ⟨_, rfl⟩
              have hP : va_P (dC, dI) vwCl [(h0, .inr (13, mX13 q0 (upd (upd (upd (upd v0 1 (u6_ 0)) 16 z117) 20 (u6_ 1)) 21 0))), ((q0 0), .inl (k1, 600, .inl f1)), ((q0 19), .inl (k15, 12, .inl (a6_ 0))), ((q0 15), .inl (k13, 10, .inl f_174)), ((q0 14), .inl (k12, 120, .inl (a123_ 0)))] H := by rw [e_f_174]; exact hP
              have hD : va_D A [(h0, .inr (13, mX13 q0 (upd (upd (upd (upd v0 1 (u6_ 0)) 16 z117) 20 (u6_ 1)) 21 0))), ((q0 0), .inl (k1, 600, .inl f1)), ((q0 19), .inl (k15, 12, .inl (a6_ 0))), ((q0 15), .inl (k13, 10, .inl f_174)), ((q0 14), .inl (k12, 120, .inl (a123_ 0)))] := by rw [e_f_174]; exact hD
              have hf_174 : zA 0 12 f_174 := by rw [e_f_174]; exact zA_upd hf13 (show 0 ≤ (z173 : Int32).toInt from by omega) (show (z173 : Int32).toInt ≤ 12 from by omega)
              refine lv_aload_n hx hb dX13_stop_175 rfl (lv_at hl 0 rfl) ?_
              refine va_get (D := (dC, dI)) (ci := 13) (v := .int z117) (C := RX13) (T := TX13) (N := 75) hx hb hG zuX13 hown hK hP 0 rfl rfl 16 (by decide) (hG _ zw558) (fun _ h9 => h9) rfl dX13_stop_176 ?_
              refine W.widen (k := 0) (n := 0) (by decide) (by decide) ?_
              have hpost : ((-2) ≤ z117.toInt ∧ z117.toInt ≤ 10) ∧ (0 ≤ (u6_ 0).toInt ∧ (u6_ 0).toInt ≤ 0) ∧ (0 ≤ z117.toInt ∧ z117.toInt ≤ 10) ∧ (0 ≤ (u6_ 1).toInt ∧ (u6_ 1).toInt ≤ 12) ∧ (0 ≤ (0 : Int32).toInt ∧ (0 : Int32).toInt ≤ 0) := ⟨⟨by omega, by omega⟩, ⟨by omega, by omega⟩, ⟨by omega, by omega⟩, ⟨by omega, by omega⟩, ⟨by omega, by omega⟩⟩
              have hP9 : va_P (dC, dI) vwCl [(h0, .inr (13, mX13 q0 (upd (upd (upd (upd v0 1 (u6_ 0)) 16 z117) 20 (u6_ 1)) 21 0))), ((q0 0), .inl (k1, 600, .inl f1)), ((q0 19), .inl (k15, 12, .inl (a6_ 0))), ((q0 15), .inl (k13, 10, .inl f_174)), ((q0 14), .inl (k12, 120, .inl (a123_ 0)))] H := hP
              have hD9 : va_D A [(h0, .inr (13, mX13 q0 (upd (upd (upd (upd v0 1 (u6_ 0)) 16 z117) 20 (u6_ 1)) 21 0))), ((q0 0), .inl (k1, 600, .inl f1)), ((q0 19), .inl (k15, 12, .inl (a6_ 0))), ((q0 15), .inl (k13, 10, .inl f_174)), ((q0 14), .inl (k12, 120, .inl (a123_ 0)))] := hD
              exact W.iret (v := z117) hx hb hr (fun t ht hW => ⟨⟨z117, (fun i => ([(u6_ 0), z117, (u6_ 1), 0] : List (Int32)).getD i 0), rfl, hpost, (fun _ => 0), (fun i => ([(a6_ 0), f_174, (a123_ 0)] : List (Nat → Int32)).getD i (fun _ => 0)), (fun _ => (fun _ => 0)), hf_174, by rw [ht]; exact hP9, va_K.moved hW.alike hK, hD9⟩, hS.F ht⟩) hS.2.2 dX13_stop_179
            · skip
              have b_ := zF_ge rfl zk_12 c_
              refine lv_aload_n hx hb dX13_stop_129 rfl (lv_at hl 0 rfl) ?_
              refine va_get (D := (dC, dI)) (ci := 13) (v := .ref (q0 14)) (C := RX13) (T := TX13) (N := 75) hx hb hG zuX13 hown hK hP 0 rfl rfl 14 (by decide) (hG _ zw559) (fun _ h9 => h9) rfl dX13_stop_130 ?_
              refine lv_bipush (v := 12) hx hb dX13_stop_133 (by decide) ?_
              refine lv_iload_n hx hb dX13_stop_135 rfl (lv_at hl 2 rfl) ?_
              refine lv_imul hx hb dX13_stop_136 ?_
              refine lv_topi (fun z136 e_z136 => ?_)
              have b_ := zmul zk_12 rfl e_z136 (by omega) (by omega)
              refine lv_iload_n hx hb dX13_stop_137 rfl (lv_at hl 3 rfl) ?_
              refine lv_iadd hx hb dX13_stop_138 ?_
              refine lv_topi (fun z138 e_z138 => ?_)
              have b_ := zadd rfl rfl e_z138 (by omega) (by omega)
              refine lv_aload_n hx hb dX13_stop_139 rfl (lv_at hl 0 rfl) ?_
              refine va_get (D := (dC, dI)) (ci := 13) (v := .ref (q0 14)) (C := RX13) (T := TX13) (N := 75) hx hb hG zuX13 hown hK hP 0 rfl rfl 14 (by decide) (hG _ zw559) (fun _ h9 => h9) rfl dX13_stop_140 ?_
              refine lv_bipush (v := 12) hx hb dX13_stop_143 (by decide) ?_
              refine lv_aload_n hx hb dX13_stop_145 rfl (lv_at hl 0 rfl) ?_
              refine va_get (D := (dC, dI)) (ci := 13) (v := .int z117) (C := RX13) (T := TX13) (N := 75) hx hb hG zuX13 hown hK hP 0 rfl rfl 16 (by decide) (hG _ zw558) (fun _ h9 => h9) rfl dX13_stop_146 ?_
              refine lv_imul hx hb dX13_stop_149 ?_
              refine lv_topi (fun z149 e_z149 => ?_)
              have b_ := zmul zk_12 rfl e_z149 (by omega) (by omega)
              refine lv_iload_n hx hb dX13_stop_150 rfl (lv_at hl 3 rfl) ?_
              refine lv_iadd hx hb dX13_stop_151 ?_
              refine lv_topi (fun z151 e_z151 => ?_)
              have b_ := zadd rfl rfl e_z151 (by omega) (by omega)
              refine va_bald hx hb hK hP 4 3 rfl rfl (zin_lit ⟨by omega, by omega⟩) dX13_stop_152 ?_
              refine lv_topi (fun z152 e_z152 => ?_)
              refine va_bast hx hb hK hP hD hS 4 3 rfl rfl (zin_lit ⟨by omega, by omega⟩) dX13_stop_153 (fun H locs hP hD hS => ?_)
              obtain ⟨f_153, e_f_153⟩ : ∃ z : Nat → Int32, z = upd (a123_ 0) (z138 : Int32).toNatClampNeg (vp_nar .byte z152) := ⟨_, rfl⟩
              have hP : va_P (dC, dI) vwCl [(h0, .inr (13, mX13 q0 (upd (upd (upd (upd v0 1 (u6_ 0)) 16 z117) 20 (u6_ 1)) 21 0))), ((q0 0), .inl (k1, 600, .inl f1)), ((q0 19), .inl (k15, 12, .inl (a6_ 0))), ((q0 15), .inl (k13, 10, .inl f13)), ((q0 14), .inl (k12, 120, .inl f_153))] H := by rw [e_f_153]; exact hP
              have hD : va_D A [(h0, .inr (13, mX13 q0 (upd (upd (upd (upd v0 1 (u6_ 0)) 16 z117) 20 (u6_ 1)) 21 0))), ((q0 0), .inl (k1, 600, .inl f1)), ((q0 19), .inl (k15, 12, .inl (a6_ 0))), ((q0 15), .inl (k13, 10, .inl f13)), ((q0 14), .inl (k12, 120, .inl f_153))] := by rw [e_f_153]; exact hD
              obtain ⟨z154, e_z154⟩ : ∃ z : Int32, z = (u123_ 0) + Int32.ofInt 1 := ⟨_, rfl⟩
              have b_ := zadd (x := (u123_ 0)) (y := Int32.ofInt 1) rfl (show (Int32.ofInt 1).toInt = 1 from by decide) e_z154 (by omega) (by omega)
              refine lv_iinc (v := z154) (lv' := [(3, .int z154), (0, .ref h0), (1, .int x1), (2, .int r15_)]) hx hb dX13_stop_154 hl (k := 3) rfl e_z154.symm (by decide) rfl (fun ls hl => ?_)
              refine lv_goto (tgt := 123) hx hb dX13_stop_157 (by decide) ?_
              have hc : va_P (dC, dI) vwCl [(h0, .inr (13, mX13 q0 (upd (upd (upd (upd v0 1 (u6_ 0)) 16 z117) 20 (u6_ 1)) 21 0))), ((q0 0), .inl (k1, 600, .inl f1)), ((q0 19), .inl (k15, 12, .inl (a6_ 0))), ((q0 15), .inl (k13, 10, .inl f13)), ((q0 14), .inl (k12, 120, .inl f_153))] H ∧ va_D A [(h0, .inr (13, mX13 q0 (upd (upd (upd (upd v0 1 (u6_ 0)) 16 z117) 20 (u6_ 1)) 21 0))), ((q0 0), .inl (k1, 600, .inl f1)), ((q0 19), .inl (k15, 12, .inl (a6_ 0))), ((q0 15), .inl (k13, 10, .inl f13)), ((q0 14), .inl (k12, 120, .inl f_153))] ∧ va_S A s.heap H locs ∧ lv_has ls 4 [(0, .ref h0), (1, .int x1), (2, .int r15_), (3, .int z154)] ∧ (0 ≤ z154.toInt ∧ z154.toInt ≤ 12) := ⟨hP, hD, hS, lv_sub hl [1, 2, 3, 0] rfl, ⟨by omega, by omega⟩⟩
              exact hJ123 H locs ls (fun i => ([z154] : List (Int32)).getD i 0) (fun _ => 0) (fun i => ([f_153] : List (Nat → Int32)).getD i (fun _ => 0)) (fun _ => (fun _ => 0)) hc (show (12 - z154.toInt).toNat < (12 - (u123_ 0).toInt).toNat from by omega)
          · skip
            have hc : va_P (dC, dI) vwCl [(h0, .inr (13, mX13 q0 (upd (upd (upd (upd v0 1 (u6_ 0)) 16 z117) 20 (u6_ 1)) 21 0))), ((q0 0), .inl (k1, 600, .inl f1)), ((q0 19), .inl (k15, 12, .inl (a6_ 0))), ((q0 15), .inl (k13, 10, .inl f13)), ((q0 14), .inl (k12, 120, .inl f12))] H ∧ va_D A [(h0, .inr (13, mX13 q0 (upd (upd (upd (upd v0 1 (u6_ 0)) 16 z117) 20 (u6_ 1)) 21 0))), ((q0 0), .inl (k1, 600, .inl f1)), ((q0 19), .inl (k15, 12, .inl (a6_ 0))), ((q0 15), .inl (k13, 10, .inl f13)), ((q0 14), .inl (k12, 120, .inl f12))] ∧ va_S A s.heap H locs ∧ lv_has ls 4 [(0, .ref h0), (1, .int x1), (2, .int r15_), (3, .int 0)] ∧ (0 ≤ (0 : Int32).toInt ∧ (0 : Int32).toInt ≤ 12) := ⟨hP, hD, hS, lv_sub hl [1, 2, 3, 0] rfl, ⟨by omega, by omega⟩⟩
            exact hJ123 H locs ls (fun i => ([0] : List (Int32)).getD i 0) (fun _ => 0) (fun i => ([f12] : List (Nat → Int32)).getD i (fun _ => 0)) (fun _ => (fun _ => 0)) hc
    · skip
      refine lv_if_eq (tgt := 102) hx hb dX13_stop_20 (by decide) (fun c_ => ?_) (fun c_ => ?_)
      · skip
        have b_ := zT_eq rfl zk_0 c_
        have hc : va_P (dC, dI) vwCl [(h0, .inr (13, mX13 q0 (upd (upd (upd v0 1 (u6_ 0)) 20 (u6_ 1)) 21 0))), ((q0 0), .inl (k1, 600, .inl f1)), ((q0 19), .inl (k15, 12, .inl (a6_ 0))), ((q0 15), .inl (k13, 10, .inl f13)), ((q0 14), .inl (k12, 120, .inl f12))] H ∧ va_D A [(h0, .inr (13, mX13 q0 (upd (upd (upd v0 1 (u6_ 0)) 20 (u6_ 1)) 21 0))), ((q0 0), .inl (k1, 600, .inl f1)), ((q0 19), .inl (k15, 12, .inl (a6_ 0))), ((q0 15), .inl (k13, 10, .inl f13)), ((q0 14), .inl (k12, 120, .inl f12))] ∧ va_S A s.heap H locs ∧ lv_has ls 4 [(0, .ref h0), (1, .int x1), (2, .int r15_)] ∧ (0 ≤ x1.toInt ∧ x1.toInt ≤ 1) := ⟨hP, hD, hS, lv_sub hl [1, 2, 0] rfl, ⟨by omega, by omega⟩⟩
        exact hJ102 H locs ls (fun _ => 0) (fun _ => 0) (fun _ => (fun _ => 0)) (fun _ => (fun _ => 0)) hc
      · skip
        have b_ := zF_eq rfl zk_0 c_
        refine lv_iload_n hx hb dX13_stop_23 rfl (lv_at hl 0 rfl) ?_
        refine lv_iconst (v := (-1)) hx hb dX13_stop_24 (by decide) ?_
        refine lv_icmp_ne (tgt := 102) hx hb dX13_stop_25 (by decide) (fun c_ => ?_) (fun c_ => ?_)
        · skip
          have b_ := zT_ne rfl zk_m1 c_
          have hc : va_P (dC, dI) vwCl [(h0, .inr (13, mX13 q0 (upd (upd (upd v0 1 (u6_ 0)) 20 (u6_ 1)) 21 0))), ((q0 0), .inl (k1, 600, .inl f1)), ((q0 19), .inl (k15, 12, .inl (a6_ 0))), ((q0 15), .inl (k13, 10, .inl f13)), ((q0 14), .inl (k12, 120, .inl f12))] H ∧ va_D A [(h0, .inr (13, mX13 q0 (upd (upd (upd v0 1 (u6_ 0)) 20 (u6_ 1)) 21 0))), ((q0 0), .inl (k1, 600, .inl f1)), ((q0 19), .inl (k15, 12, .inl (a6_ 0))), ((q0 15), .inl (k13, 10, .inl f13)), ((q0 14), .inl (k12, 120, .inl f12))] ∧ va_S A s.heap H locs ∧ lv_has ls 4 [(0, .ref h0), (1, .int x1), (2, .int r15_)] ∧ (0 ≤ x1.toInt ∧ x1.toInt ≤ 1) := ⟨hP, hD, hS, lv_sub hl [1, 2, 0] rfl, ⟨by omega, by omega⟩⟩
          exact hJ102 H locs ls (fun _ => 0) (fun _ => 0) (fun _ => (fun _ => 0)) (fun _ => (fun _ => 0)) hc
        · skip
          have b_ := zF_ne rfl zk_m1 c_
          refine lv_aload_n hx hb dX13_stop_28 rfl (lv_at hl 1 rfl) ?_
          have b_ : 0 ≤ (v0 16).toInt ∧ (v0 16).toInt ≤ 10 := hv0 16
          refine va_get (D := (dC, dI)) (ci := 13) (v := .int (v0 16)) (C := RX13) (T := TX13) (N := 75) hx hb hG zuX13 hown hK hP 0 rfl rfl 16 (by decide) (hG _ zw558) (fun _ h9 => h9) rfl dX13_stop_29 ?_
          refine lv_bipush (v := 10) hx hb dX13_stop_32 (by decide) ?_
          refine lv_icmp_ne (tgt := 40) hx hb dX13_stop_34 (by decide) (fun c_ => ?_) (fun c_ => ?_)
          · skip
            have b_ := zT_ne rfl zk_10 c_
            refine lv_iconst (v := 0) hx hb dX13_stop_40 (by decide) ?_
            refine lv_istore_n (lv' := [(3, .int 0), (2, .int r15_), (0, .ref h0), (1, .int x1)]) hx hb dX13_stop_41 rfl hl (by decide) rfl (fun ls hl => ?_)
            refine zcutL (fun u42_ => (12 - (u42_ 0).toInt).toNat) (fun H locs ls u42_ w42_ a42_ b42_ => va_P (dC, dI) vwCl [(h0, .inr (13, mX13 q0 (upd (upd (upd v0 1 (u6_ 0)) 20 (u6_ 1)) 21 0))), ((q0 0), .inl (k1, 600, .inl f1)), ((q0 19), .inl (k15, 12, .inl (a6_ 0))), ((q0 15), .inl (k13, 10, .inl f13)), ((q0 14), .inl (k12, 120, .inl (a42_ 0)))] H ∧ va_D A [(h0, .inr (13, mX13 q0 (upd (upd (upd v0 1 (u6_ 0)) 20 (u6_ 1)) 21 0))), ((q0 0), .inl (k1, 600, .inl f1)), ((q0 19), .inl (k15, 12, .inl (a6_ 0))), ((q0 15), .inl (k13, 10, .inl f13)), ((q0 14), .inl (k12, 120, .inl (a42_ 0)))] ∧ va_S A s.heap H locs ∧ lv_has ls 4 [(0, .ref h0), (1, .int x1), (2, .int r15_), (3, .int (u42_ 0))] ∧ (0 ≤ (u42_ 0).toInt ∧ (u42_ 0).toInt ≤ 12)) (fun ls u42_ w42_ => F0 m 42 ls []) 0 0 ?_ (fun hJ42 => ?_)
            · skip
              intro H locs ls u42_ w42_ a42_ b42_ hc hJ42
              obtain ⟨hP, hD, hS, hl, b_⟩ := hc
              refine lv_iload_n hx hb dX13_stop_42 rfl (lv_at hl 3 rfl) ?_
              refine lv_aload_n hx hb dX13_stop_43 rfl (lv_at hl 0 rfl) ?_
              refine va_get (D := (dC, dI)) (ci := 13) (v := .int (u6_ 1)) (C := RX13) (T := TX13) (N := 75) hx hb hG zuX13 hown hK hP 0 rfl rfl 20 (by decide) (hG _ zw538) (fun _ h9 => h9) rfl dX13_stop_44 ?_
              refine lv_icmp_ge (tgt := 76) hx hb dX13_stop_47 (by decide) (fun c_ => ?_) (fun c_ => ?_)
              · skip
                have b_ := zT_ge rfl rfl c_
                refine lv_aload_n hx hb dX13_stop_76 rfl (lv_at hl 0 rfl) ?_
                refine va_get (D := (dC, dI)) (ci := 13) (v := .ref (q0 15)) (C := RX13) (T := TX13) (N := 75) hx hb hG zuX13 hown hK hP 0 rfl rfl 15 (by decide) (hG _ zw560) (fun _ h9 => h9) rfl dX13_stop_77 ?_
                refine lv_aload_n hx hb dX13_stop_80 rfl (lv_at hl 0 rfl) ?_
                refine va_get (D := (dC, dI)) (ci := 13) (v := .int (v0 16)) (C := RX13) (T := TX13) (N := 75) hx hb hG zuX13 hown hK hP 0 rfl rfl 16 (by decide) (hG _ zw558) (fun _ h9 => h9) rfl dX13_stop_81 ?_
                refine lv_aload_n hx hb dX13_stop_84 rfl (lv_at hl 0 rfl) ?_
                refine va_get (D := (dC, dI)) (ci := 13) (v := .int (u6_ 1)) (C := RX13) (T := TX13) (N := 75) hx hb hG zuX13 hown hK hP 0 rfl rfl 20 (by decide) (hG _ zw538) (fun _ h9 => h9) rfl dX13_stop_85 ?_
                refine va_iast hx hb hK hP hD hS 3 2 rfl rfl (zin_lit ⟨by omega, by omega⟩) dX13_stop_88 (fun H locs hP hD hS => ?_)
                obtain ⟨f_88, e_f_88⟩ : ∃ z : Nat → Int32, z = upd f13 ((v0 16) : Int32).toNatClampNeg (u6_ 1) := ⟨_, rfl⟩
                have hP : va_P (dC, dI) vwCl [(h0, .inr (13, mX13 q0 (upd (upd (upd v0 1 (u6_ 0)) 20 (u6_ 1)) 21 0))), ((q0 0), .inl (k1, 600, .inl f1)), ((q0 19), .inl (k15, 12, .inl (a6_ 0))), ((q0 15), .inl (k13, 10, .inl f_88)), ((q0 14), .inl (k12, 120, .inl (a42_ 0)))] H := by rw [e_f_88]; exact hP
                have hD : va_D A [(h0, .inr (13, mX13 q0 (upd (upd (upd v0 1 (u6_ 0)) 20 (u6_ 1)) 21 0))), ((q0 0), .inl (k1, 600, .inl f1)), ((q0 19), .inl (k15, 12, .inl (a6_ 0))), ((q0 15), .inl (k13, 10, .inl f_88)), ((q0 14), .inl (k12, 120, .inl (a42_ 0)))] := by rw [e_f_88]; exact hD
                have hf_88 : zA 0 12 f_88 := by rw [e_f_88]; exact zA_upd hf13 (show 0 ≤ ((u6_ 1) : Int32).toInt from by omega) (show ((u6_ 1) : Int32).toInt ≤ 12 from by omega)
                refine lv_aload_n hx hb dX13_stop_89 rfl (lv_at hl 0 rfl) ?_
                refine lv_dup hx hb dX13_stop_90 rfl ?_
                refine va_get (D := (dC, dI)) (ci := 13) (v := .int (v0 16)) (C := RX13) (T := TX13) (N := 75) hx hb hG zuX13 hown hK hP 0 rfl rfl 16 (by decide) (hG _ zw558) (fun _ h9 => h9) rfl dX13_stop_91 ?_
                refine lv_iconst (v := 1) hx hb dX13_stop_94 (by decide) ?_
                refine lv_iadd hx hb dX13_stop_95 ?_
                refine lv_topi (fun z95 e_z95 => ?_)
                have b_ := zadd rfl zk_1 e_z95 (by omega) (by omega)
                refine va_put (D := (dC, dI)) (ci := 13) (v := .int z95) (ty := .int) (C := RX13) (T := TX13) (N := 75) hx hb hG zuX13 tyX13 tyX13_ok nmX13 hown hK hP hD hS 0 rfl rfl 16 (by decide) (hG _ zw558) (fun _ h9 => h9) rfl (by decide +kernel) rfl rfl (Nat.le_of_ble_eq_true rfl) dX13_stop_96 (fun H locs hP hD hS => ?_)
                have hP : va_P (dC, dI) vwCl [(h0, .inr (13, mX13 q0 (upd (upd (upd (upd v0 1 (u6_ 0)) 16 z95) 20 (u6_ 1)) 21 0))), ((q0 0), .inl (k1, 600, .inl f1)), ((q0 19), .inl (k15, 12, .inl (a6_ 0))), ((q0 15), .inl (k13, 10, .inl f_88)), ((q0 14), .inl (k12, 120, .inl (a42_ 0)))] H := hP
                have hD : va_D A [(h0, .inr (13, mX13 q0 (upd (upd (upd (upd v0 1 (u6_ 0)) 16 z95) 20 (u6_ 1)) 21 0))), ((q0 0), .inl (k1, 600, .inl f1)), ((q0 19), .inl (k15, 12, .inl (a6_ 0))), ((q0 15), .inl (k13, 10, .inl f_88)), ((q0 14), .inl (k12, 120, .inl (a42_ 0)))] := hD
                refine lv_goto (tgt := 175) hx hb dX13_stop_99 (by decide) ?_
                refine lv_aload_n hx hb dX13_stop_175 rfl (lv_at hl 0 rfl) ?_
                refine va_get (D := (dC, dI)) (ci := 13) (v := .int z95) (C := RX13) (T := TX13) (N := 75) hx hb hG zuX13 hown hK hP 0 rfl rfl 16 (by decide) (hG _ zw558) (fun _ h9 => h9) rfl dX13_stop_176 ?_
                refine W.widen (k := 0) (n := 0) (by decide) (by decide) ?_
                have hpost : ((-2) ≤ z95.toInt ∧ z95.toInt ≤ 10) ∧ (0 ≤ (u6_ 0).toInt ∧ (u6_ 0).toInt ≤ 0) ∧ (0 ≤ z95.toInt ∧ z95.toInt ≤ 10) ∧ (0 ≤ (u6_ 1).toInt ∧ (u6_ 1).toInt ≤ 12) ∧ (0 ≤ (0 : Int32).toInt ∧ (0 : Int32).toInt ≤ 0) := ⟨⟨by omega, by omega⟩, ⟨by omega, by omega⟩, ⟨by omega, by omega⟩, ⟨by omega, by omega⟩, ⟨by omega, by omega⟩⟩
                have hP9 : va_P (dC, dI) vwCl [(h0, .inr (13, mX13 q0 (upd (upd (upd (upd v0 1 (u6_ 0)) 16 z95) 20 (u6_ 1)) 21 0))), ((q0 0), .inl (k1, 600, .inl f1)), ((q0 19), .inl (k15, 12, .inl (a6_ 0))), ((q0 15), .inl (k13, 10, .inl f_88)), ((q0 14), .inl (k12, 120, .inl (a42_ 0)))] H := hP
                have hD9 : va_D A [(h0, .inr (13, mX13 q0 (upd (upd (upd (upd v0 1 (u6_ 0)) 16 z95) 20 (u6_ 1)) 21 0))), ((q0 0), .inl (k1, 600, .inl f1)), ((q0 19), .inl (k15, 12, .inl (a6_ 0))), ((q0 15), .inl (k13, 10, .inl f_88)), ((q0 14), .inl (k12, 120, .inl (a42_ 0)))] := hD
                exact W.iret (v := z95) hx hb hr (fun t ht hW => ⟨⟨z95, (fun i => ([(u6_ 0), z95, (u6_ 1), 0] : List (Int32)).getD i 0), rfl, hpost, (fun _ => 0), (fun i => ([(a6_ 0), f_88, (a42_ 0)] : List (Nat → Int32)).getD i (fun _ => 0)), (fun _ => (fun _ => 0)), hf_88, by rw [ht]; exact hP9, va_K.moved hW.alike hK, hD9⟩, hS.F ht⟩) hS.2.2 dX13_stop_179
              · skip
                have b_ := zF_ge rfl rfl c_
                refine lv_aload_n hx hb dX13_stop_50 rfl (lv_at hl 0 rfl) ?_
                refine va_get (D := (dC, dI)) (ci := 13) (v := .ref (q0 14)) (C := RX13) (T := TX13) (N := 75) hx hb hG zuX13 hown hK hP 0 rfl rfl 14 (by decide) (hG _ zw559) (fun _ h9 => h9) rfl dX13_stop_51 ?_
                refine lv_bipush (v := 12) hx hb dX13_stop_54 (by decide) ?_
                refine lv_aload_n hx hb dX13_stop_56 rfl (lv_at hl 0 rfl) ?_
                refine va_get (D := (dC, dI)) (ci := 13) (v := .int (v0 16)) (C := RX13) (T := TX13) (N := 75) hx hb hG zuX13 hown hK hP 0 rfl rfl 16 (by decide) (hG _ zw558) (fun _ h9 => h9) rfl dX13_stop_57 ?_
                refine lv_imul hx hb dX13_stop_60 ?_
                refine lv_topi (fun z60 e_z60 => ?_)
                have b_ := zmul zk_12 rfl e_z60 (by omega) (by omega)
                refine lv_iload_n hx hb dX13_stop_61 rfl (lv_at hl 3 rfl) ?_
                refine lv_iadd hx hb dX13_stop_62 ?_
                refine lv_topi (fun z62 e_z62 => ?_)
                have b_ := zadd rfl rfl e_z62 (by omega) (by omega)
                refine lv_aload_n hx hb dX13_stop_63 rfl (lv_at hl 0 rfl) ?_
                refine va_get (D := (dC, dI)) (ci := 13) (v := .ref (q0 19)) (C := RX13) (T := TX13) (N := 75) hx hb hG zuX13 hown hK hP 0 rfl rfl 19 (by decide) (hG _ zw539) (fun _ h9 => h9) rfl dX13_stop_64 ?_
                refine lv_iload_n hx hb dX13_stop_67 rfl (lv_at hl 3 rfl) ?_
                refine va_bald hx hb hK hP 2 1 rfl rfl (zin_lit ⟨by omega, by omega⟩) dX13_stop_68 ?_
                refine lv_topi (fun z68 e_z68 => ?_)
                refine va_bast hx hb hK hP hD hS 4 3 rfl rfl (zin_lit ⟨by omega, by omega⟩) dX13_stop_69 (fun H locs hP hD hS => ?_)
                obtain ⟨f_69, e_f_69⟩ : ∃ z : Nat → Int32, z = upd (a42_ 0) (z62 : Int32).toNatClampNeg (vp_nar .byte z68) := ⟨_, rfl⟩
                have hP : va_P (dC, dI) vwCl [(h0, .inr (13, mX13 q0 (upd (upd (upd v0 1 (u6_ 0)) 20 (u6_ 1)) 21 0))), ((q0 0), .inl (k1, 600, .inl f1)), ((q0 19), .inl (k15, 12, .inl (a6_ 0))), ((q0 15), .inl (k13, 10, .inl f13)), ((q0 14), .inl (k12, 120, .inl f_69))] H := by rw [e_f_69]; exact hP
                have hD : va_D A [(h0, .inr (13, mX13 q0 (upd (upd (upd v0 1 (u6_ 0)) 20 (u6_ 1)) 21 0))), ((q0 0), .inl (k1, 600, .inl f1)), ((q0 19), .inl (k15, 12, .inl (a6_ 0))), ((q0 15), .inl (k13, 10, .inl f13)), ((q0 14), .inl (k12, 120, .inl f_69))] := by rw [e_f_69]; exact hD
                obtain ⟨z70, e_z70⟩ : ∃ z : Int32, z = (u42_ 0) + Int32.ofInt 1 := ⟨_, rfl⟩
                have b_ := zadd (x := (u42_ 0)) (y := Int32.ofInt 1) rfl (show (Int32.ofInt 1).toInt = 1 from by decide) e_z70 (by omega) (by omega)
                refine lv_iinc (v := z70) (lv' := [(3, .int z70), (0, .ref h0), (1, .int x1), (2, .int r15_)]) hx hb dX13_stop_70 hl (k := 3) rfl e_z70.symm (by decide) rfl (fun ls hl => ?_)
                refine lv_goto (tgt := 42) hx hb dX13_stop_73 (by decide) ?_
                have hc : va_P (dC, dI) vwCl [(h0, .inr (13, mX13 q0 (upd (upd (upd v0 1 (u6_ 0)) 20 (u6_ 1)) 21 0))), ((q0 0), .inl (k1, 600, .inl f1)), ((q0 19), .inl (k15, 12, .inl (a6_ 0))), ((q0 15), .inl (k13, 10, .inl f13)), ((q0 14), .inl (k12, 120, .inl f_69))] H ∧ va_D A [(h0, .inr (13, mX13 q0 (upd (upd (upd v0 1 (u6_ 0)) 20 (u6_ 1)) 21 0))), ((q0 0), .inl (k1, 600, .inl f1)), ((q0 19), .inl (k15, 12, .inl (a6_ 0))), ((q0 15), .inl (k13, 10, .inl f13)), ((q0 14), .inl (k12, 120, .inl f_69))] ∧ va_S A s.heap H locs ∧ lv_has ls 4 [(0, .ref h0), (1, .int x1), (2, .int r15_), (3, .int z70)] ∧ (0 ≤ z70.toInt ∧ z70.toInt ≤ 12) := ⟨hP, hD, hS, lv_sub hl [1, 2, 3, 0] rfl, ⟨by omega, by omega⟩⟩
                exact hJ42 H locs ls (fun i => ([z70] : List (Int32)).getD i 0) (fun _ => 0) (fun i => ([f_69] : List (Nat → Int32)).getD i (fun _ => 0)) (fun _ => (fun _ => 0)) hc (show (12 - z70.toInt).toNat < (12 - (u42_ 0).toInt).toNat from by omega)
            · skip
              have hc : va_P (dC, dI) vwCl [(h0, .inr (13, mX13 q0 (upd (upd (upd v0 1 (u6_ 0)) 20 (u6_ 1)) 21 0))), ((q0 0), .inl (k1, 600, .inl f1)), ((q0 19), .inl (k15, 12, .inl (a6_ 0))), ((q0 15), .inl (k13, 10, .inl f13)), ((q0 14), .inl (k12, 120, .inl f12))] H ∧ va_D A [(h0, .inr (13, mX13 q0 (upd (upd (upd v0 1 (u6_ 0)) 20 (u6_ 1)) 21 0))), ((q0 0), .inl (k1, 600, .inl f1)), ((q0 19), .inl (k15, 12, .inl (a6_ 0))), ((q0 15), .inl (k13, 10, .inl f13)), ((q0 14), .inl (k12, 120, .inl f12))] ∧ va_S A s.heap H locs ∧ lv_has ls 4 [(0, .ref h0), (1, .int x1), (2, .int r15_), (3, .int 0)] ∧ (0 ≤ (0 : Int32).toInt ∧ (0 : Int32).toInt ≤ 12) := ⟨hP, hD, hS, lv_sub hl [2, 3, 1, 0] rfl, ⟨by omega, by omega⟩⟩
              exact hJ42 H locs ls (fun i => ([0] : List (Int32)).getD i 0) (fun _ => 0) (fun i => ([f12] : List (Nat → Int32)).getD i (fun _ => 0)) (fun _ => (fun _ => 0)) hc
          · skip
            have b_ := zF_ne rfl zk_10 c_
            refine lv_bipush (v := (-2)) hx hb dX13_stop_37 (by decide) ?_
            refine W.widen (k := 0) (n := 0) (by decide) (by decide) ?_
            have hpost : ((-2) ≤ ((-2) : Int32).toInt ∧ ((-2) : Int32).toInt ≤ 10) ∧ (0 ≤ (u6_ 0).toInt ∧ (u6_ 0).toInt ≤ 0) ∧ (0 ≤ (v0 16).toInt ∧ (v0 16).toInt ≤ 10) ∧ (0 ≤ (u6_ 1).toInt ∧ (u6_ 1).toInt ≤ 12) ∧ (0 ≤ (0 : Int32).toInt ∧ (0 : Int32).toInt ≤ 0) := ⟨⟨by omega, by omega⟩, ⟨by omega, by omega⟩, ⟨by omega, by omega⟩, ⟨by omega, by omega⟩, ⟨by omega, by omega⟩⟩
            have hP9 : va_P (dC, dI) vwCl [(h0, .inr (13, mX13 q0 (upd (upd (upd (upd v0 1 (u6_ 0)) 16 (v0 16)) 20 (u6_ 1)) 21 0))), ((q0 0), .inl (k1, 600, .inl f1)), ((q0 19), .inl (k15, 12, .inl (a6_ 0))), ((q0 15), .inl (k13, 10, .inl f13)), ((q0 14), .inl (k12, 120, .inl f12))] H := hP
            have hD9 : va_D A [(h0, .inr (13, mX13 q0 (upd (upd (upd (upd v0 1 (u6_ 0)) 16 (v0 16)) 20 (u6_ 1)) 21 0))), ((q0 0), .inl (k1, 600, .inl f1)), ((q0 19), .inl (k15, 12, .inl (a6_ 0))), ((q0 15), .inl (k13, 10, .inl f13)), ((q0 14), .inl (k12, 120, .inl f12))] := hD
            exact W.iret (v := (-2)) hx hb hr (fun t ht hW => ⟨⟨(-2), (fun i => ([(u6_ 0), (v0 16), (u6_ 1), 0] : List (Int32)).getD i 0), rfl, hpost, (fun _ => 0), (fun i => ([(a6_ 0), f13, f12] : List (Nat → Int32)).getD i (fun _ => 0)), (fun _ => (fun _ => 0)), hf13, by rw [ht]; exact hP9, va_K.moved hW.alike hK, hD9⟩, hS.F ht⟩) hS.2.2 dX13_stop_39
  · skip
    have b_ := zF_ne rfl zk_0 c_
    refine lv_iconst (v := (-1)) hx hb dX13_stop_12 (by decide) ?_
    refine W.widen (k := 0) (n := 0) (by decide) (by decide) ?_
    have b_ : 0 ≤ (v0 16).toInt ∧ (v0 16).toInt ≤ 10 := hv0 16
    have hpost : ((-2) ≤ ((-1) : Int32).toInt ∧ ((-1) : Int32).toInt ≤ 10) ∧ (0 ≤ (u6_ 0).toInt ∧ (u6_ 0).toInt ≤ 0) ∧ (0 ≤ (v0 16).toInt ∧ (v0 16).toInt ≤ 10) ∧ (0 ≤ (u6_ 1).toInt ∧ (u6_ 1).toInt ≤ 12) ∧ (0 ≤ (0 : Int32).toInt ∧ (0 : Int32).toInt ≤ 0) := ⟨⟨by omega, by omega⟩, ⟨by omega, by omega⟩, ⟨by omega, by omega⟩, ⟨by omega, by omega⟩, ⟨by omega, by omega⟩⟩
    have hP9 : va_P (dC, dI) vwCl [(h0, .inr (13, mX13 q0 (upd (upd (upd (upd v0 1 (u6_ 0)) 16 (v0 16)) 20 (u6_ 1)) 21 0))), ((q0 0), .inl (k1, 600, .inl f1)), ((q0 19), .inl (k15, 12, .inl (a6_ 0))), ((q0 15), .inl (k13, 10, .inl f13)), ((q0 14), .inl (k12, 120, .inl f12))] H := hP
    have hD9 : va_D A [(h0, .inr (13, mX13 q0 (upd (upd (upd (upd v0 1 (u6_ 0)) 16 (v0 16)) 20 (u6_ 1)) 21 0))), ((q0 0), .inl (k1, 600, .inl f1)), ((q0 19), .inl (k15, 12, .inl (a6_ 0))), ((q0 15), .inl (k13, 10, .inl f13)), ((q0 14), .inl (k12, 120, .inl f12))] := hD
    exact W.iret (v := (-1)) hx hb hr (fun t ht hW => ⟨⟨(-1), (fun i => ([(u6_ 0), (v0 16), (u6_ 1), 0] : List (Int32)).getD i 0), rfl, hpost, (fun _ => 0), (fun i => ([(a6_ 0), f13, f12] : List (Nat → Int32)).getD i (fun _ => 0)), (fun _ => (fun _ => 0)), hf13, by rw [ht]; exact hP9, va_K.moved hW.alike hK, hD9⟩, hS.F ht⟩) hS.2.2 dX13_stop_13
set_option maxHeartbeats 8000000 in
set_option maxRecDepth 100000 in
theorem sX13_document_0 (l : Launch) (dC : Nat → ClassId) (dI : Nat → Nat → Nat) (adK adV : Nat → Nat) (h0 : Nat) (q0 : Nat → Nat) (k5 : ClassId) (k7 : ClassId) (k8 : ClassId) (k9 : ClassId) (sz : Nat) (v0 : Nat → Int32) (f5 : Nat → Int32) (f7 : Nat → Int32) (f8 : Nat → Int32) (f9 : Nat → Int32) (x1 : Int32) (x2 : Int32) (hv0 : zR rg_Model v0) (hf7 : zA 0 600 f7) : Met l yX13_document (zw yX13_document cX13_document 3 (some .int)) { frames := 1, cells := 0, slots := 0, locals := 21 } (zPc dC dI adK adV [.ref h0, .int x1, .int x2] sz [(h0, .inr (13, mX13 q0 v0)), ((q0 6), .inl (k5, 120, .inl f5)), ((q0 8), .inl (k7, 120, .inl f7)), ((q0 9), .inl (k8, 120, .inl f8)), ((q0 10), .inl (k9, 120, .inl f9))] [(k5, .boolean), (k7, .int), (k8, .int), (k9, .int)]) (va_Qi (fun (r : Int32) (u : Nat → Int32) => (0 ≤ (u 0).toInt ∧ (u 0).toInt ≤ 1)) (fun (u : Nat → Int32) (t : State) => ∃ (ww : Nat → Int64) (aa : Nat → Nat → Int32) (bb : Nat → Nat → Int64), va_P (dC, dI) vwCl [(h0, .inr (13, mX13 q0 (upd v0 21 (u 0)))), ((q0 6), .inl (k5, 120, .inl f5)), ((q0 8), .inl (k7, 120, .inl f7)), ((q0 9), .inl (k8, 120, .inl f8)), ((q0 10), .inl (k9, 120, .inl f9))] t.heap ∧ va_K (dC, dI) vwCl [(k5, .boolean), (k7, .int), (k8, .int), (k9, .int)] t ∧ va_D (va_A [(h0, .inr (13, mX13 q0 v0)), ((q0 6), .inl (k5, 120, .inl f5)), ((q0 8), .inl (k7, 120, .inl f7)), ((q0 9), .inl (k8, 120, .inl f8)), ((q0 10), .inl (k9, 120, .inl f9))] sz) [(h0, .inr (13, mX13 q0 (upd v0 21 (u 0)))), ((q0 6), .inl (k5, 120, .inl f5)), ((q0 8), .inl (k7, 120, .inl f7)), ((q0 9), .inl (k8, 120, .inl f8)), ((q0 10), .inl (k9, 120, .inl f9))]) (va_A [(h0, .inr (13, mX13 q0 v0)), ((q0 6), .inl (k5, 120, .inl f5)), ((q0 8), .inl (k7, 120, .inl f7)), ((q0 9), .inl (k8, 120, .inl f8)), ((q0 10), .inl (k9, 120, .inl f9))] sz)) 0 0 (va_A [(h0, .inr (13, mX13 q0 v0)), ((q0 6), .inl (k5, 120, .inl f5)), ((q0 8), .inl (k7, 120, .inl f7)), ((q0 9), .inl (k8, 120, .inl f8)), ((q0 10), .inl (k9, 120, .inl f9))] sz) := by
  refine Met.ofW (cc := cX13_document) (maxL := 3) (ret := (some .int)) (by decide) rfl ?_
  intro p e s m args below meth c s₁ B hml hv
  obtain ⟨rfl, hsz, hP, hK, hD0, hE, hZ⟩ := hv
  have hx := B.exec
  have hb := B.bytes
  have hr := B.returns
  have hG : ∀ w ∈ zG, w.before _ s = true := fun w h => atoms_spec (ws := (zw yX13_document cX13_document 3 (some .int))) B.pre w (List.mem_cons_of_mem _ h)
  have hown : s.vm.findClass RX13 = some m.cls := findClass_of_methodNamed B.named
  have hlocks := B.notSynchronized
  subst hsz
  have hD := hD0.self (sz := s.heap.size)
  generalize hAe : va_A [(h0, .inr (13, mX13 q0 v0)), ((q0 6), .inl (k5, 120, .inl f5)), ((q0 8), .inl (k7, 120, .inl f7)), ((q0 9), .inl (k8, 120, .inl f8)), ((q0 10), .inl (k9, 120, .inl f9))] s.heap.size = A at hD hZ ⊢
  have hA : ∀ q : Nat, s.heap.size ≤ q → A q := fun q h => by rw [← hAe]; exact Or.inr h
  have hS : va_S A s.heap s.heap [] := va_S.rf
  have hl := lv_entry ([.ref h0, .int x1, .int x2]) (n := 3) (Nat.le_of_ble_eq_true rfl)
  rw [lg_entry_eq]
  generalize (lg_sl ([.ref h0, .int x1, .int x2]) ++ List.replicate (3 - (lg_sl ([.ref h0, .int x1, .int x2])).length) Slot.unset).toArray = ls at hl ⊢
  have hl : lv_has ls 3 [(0, .ref h0), (1, .int x1), (2, .int x2)] := hl
  have b_ := zk_0
  have b_ := zk_1
  have b_ := zk_2
  have b_ := zk_3
  refine lv_aload_n hx hb dX13_document_0 rfl (lv_at hl 0 rfl) ?_
  refine lv_iconst (v := 0) hx hb dX13_document_1 (by decide) ?_
  refine va_put (D := (dC, dI)) (ci := 13) (v := .int 0) (ty := .int) (C := RX13) (T := TX13) (N := 75) hx hb hG zuX13 tyX13 tyX13_ok nmX13 hown hK hP hD hS 0 rfl rfl 21 (by decide) (hG _ zw518) (fun _ h9 => h9) rfl (by decide +kernel) rfl rfl (Nat.le_of_ble_eq_true rfl) dX13_document_2 (fun H locs hP hD hS => ?_)
  have hP : va_P (dC, dI) vwCl [(h0, .inr (13, mX13 q0 (upd v0 21 0))), ((q0 6), .inl (k5, 120, .inl f5)), ((q0 8), .inl (k7, 120, .inl f7)), ((q0 9), .inl (k8, 120, .inl f8)), ((q0 10), .inl (k9, 120, .inl f9))] H := hP
  have hD : va_D A [(h0, .inr (13, mX13 q0 (upd v0 21 0))), ((q0 6), .inl (k5, 120, .inl f5)), ((q0 8), .inl (k7, 120, .inl f7)), ((q0 9), .inl (k8, 120, .inl f8)), ((q0 10), .inl (k9, 120, .inl f9))] := hD
  refine lv_aload_n hx hb dX13_document_5 rfl (lv_at hl 0 rfl) ?_
  refine lv_iload_n hx hb dX13_document_6 rfl (lv_at hl 1 rfl) ?_
  have hPc := hP.sub (ws' := [(h0, .inr (13, mX13 q0 (upd v0 21 0)))]) [0] rfl
  have hDc := hD.sub (ws' := [(h0, .inr (13, mX13 q0 (upd v0 21 0)))]) [0] (by decide) rfl
  have hKc := hK.sub (tys' := []) [] rfl
  have hFc := va_free (wc := [(h0, .inr (13, mX13 q0 (upd v0 21 0)))]) hD hS hA [0] rfl
  refine va_calli (va_runV (As := [.int x1]) (rest := []) ⟨hx, hb, hml, hown, hG⟩ (sX13_isThere_0 l dC dI adK adV h0 q0 H.size (upd v0 21 0) x1 (zR_updF hv0 21 rfl)) (cwV 1 hG (zgV zw626 zw627 zw628 zw524 zw629) rfl rfl rfl (by decide +kernel) ⟨Nat.le_of_ble_eq_true rfl, Nat.le_of_ble_eq_true rfl⟩) ⟨zPc_blind, va_recv hKc hPc (ci := 13) (q0 := 0) rfl rfl, zPc_pre hPc hKc hDc hE hS hFc hZ⟩ rfl rfl hl.1 rfl (lv_room (Nat.le_of_ble_eq_true rfl)) dX13_document_7 ⟨Nat.le_of_ble_eq_true rfl, Nat.le_of_ble_eq_true rfl⟩) hS (fun q _ h => hFc q h) hFc (fun r7_ u7_ t H1 locs ht hvm hw hB hz1 hk1 hS => ?_)
  have hw : (0 ≤ r7_.toInt ∧ r7_.toInt ≤ 1) ∧ (r7_.toInt = 1 → (0 ≤ x1.toInt ∧ x1.toInt ≤ 119)) ∧ (r7_.toInt = 1 → x1.toInt < (v0 13).toInt) := hw
  obtain ⟨b_, hX7_0, hX7_1⟩ := hw
  obtain ⟨w7_, a7_, b7_, hP1, hK1, hD1⟩ := hB
  rw [ht] at hP1
  obtain ⟨hP, hD⟩ := va_join (wr := [((q0 6), .inl (k5, 120, .inl f5)), ((q0 8), .inl (k7, 120, .inl f7)), ((q0 9), .inl (k8, 120, .inl f8)), ((q0 10), .inl (k9, 120, .inl f9))]) (w1 := [(h0, .inr (13, mX13 q0 (upd v0 21 0)))]) hP hD [0] [1, 2, 3, 4] rfl rfl (by decide) (by decide) hk1 hFc hP1 hD1
  have hP : va_P (dC, dI) vwCl [(h0, .inr (13, mX13 q0 (upd v0 21 0))), ((q0 6), .inl (k5, 120, .inl f5)), ((q0 8), .inl (k7, 120, .inl f7)), ((q0 9), .inl (k8, 120, .inl f8)), ((q0 10), .inl (k9, 120, .inl f9))] H1 := hP.sub [4, 0, 1, 2, 3] rfl
  have hD : va_D A [(h0, .inr (13, mX13 q0 (upd v0 21 0))), ((q0 6), .inl (k5, 120, .inl f5)), ((q0 8), .inl (k7, 120, .inl f7)), ((q0 9), .inl (k8, 120, .inl f8)), ((q0 10), .inl (k9, 120, .inl f9))] := hD.sub [4, 0, 1, 2, 3] (by decide) rfl
  generalize H1 = H at hP hS ⊢
  clear hz1
  refine lv_if_ne (tgt := 18) hx hb dX13_document_10 (by decide) (fun c_ => ?_) (fun c_ => ?_)
  · skip
    have b_ := zT_ne rfl zk_0 c_
    refine lv_iload_n hx hb dX13_document_18 rfl (lv_at hl 2 rfl) ?_
    rcases Classical.em (x2 = (0 : Int32)) with c_ | c_
    · skip
      have b_ : x2.toInt = 0 := by rw [c_]; exact zk_0
      refine lv_tableIn (off := 29) (tgt := 48) hx hb dX13_document_19 (by omega) (by omega) (by rw [b_]; decide) (by decide) ?_
      refine lv_aload_n hx hb dX13_document_48 rfl (lv_at hl 0 rfl) ?_
      refine va_get (D := (dC, dI)) (ci := 13) (v := .ref (q0 6)) (C := RX13) (T := TX13) (N := 75) hx hb hG zuX13 hown hK hP 0 rfl rfl 6 (by decide) (hG _ zw590) (fun _ h9 => h9) rfl dX13_document_49 ?_
      refine lv_iload_n hx hb dX13_document_52 rfl (lv_at hl 1 rfl) ?_
      refine va_zald hx hb hK hP 1 0 rfl rfl (zin_lit ⟨by omega, by omega⟩) dX13_document_53 ?_
      refine lv_topi (fun z53 e_z53 => ?_)
      have b_ : -2147483648 ≤ z53.toInt ∧ z53.toInt ≤ 2147483647 := ⟨zlo _, zhi _⟩
      refine lv_if_eq (tgt := 61) hx hb dX13_document_54 (by decide) (fun c_ => ?_) (fun c_ => ?_)
      · skip
        have b_ := zT_eq rfl zk_0 c_
        refine lv_iconst (v := 0) hx hb dX13_document_61 (by decide) ?_
        refine W.widen (k := 0) (n := 0) (by decide) (by decide) ?_
        have hpost : (0 ≤ (0 : Int32).toInt ∧ (0 : Int32).toInt ≤ 1) := ⟨by omega, by omega⟩
        have hP9 : va_P (dC, dI) vwCl [(h0, .inr (13, mX13 q0 (upd v0 21 0))), ((q0 6), .inl (k5, 120, .inl f5)), ((q0 8), .inl (k7, 120, .inl f7)), ((q0 9), .inl (k8, 120, .inl f8)), ((q0 10), .inl (k9, 120, .inl f9))] H := hP
        have hD9 : va_D A [(h0, .inr (13, mX13 q0 (upd v0 21 0))), ((q0 6), .inl (k5, 120, .inl f5)), ((q0 8), .inl (k7, 120, .inl f7)), ((q0 9), .inl (k8, 120, .inl f8)), ((q0 10), .inl (k9, 120, .inl f9))] := hD
        exact W.iret (v := 0) hx hb hr (fun t ht hW => ⟨⟨0, (fun i => ([0] : List (Int32)).getD i 0), rfl, hpost, (fun _ => 0), (fun _ => (fun _ => 0)), (fun _ => (fun _ => 0)), by rw [ht]; exact hP9, va_K.moved hW.alike hK, hD9⟩, hS.F ht⟩) hS.2.2 dX13_document_62
      · skip
        have b_ := zF_eq rfl zk_0 c_
        refine lv_iconst (v := 1) hx hb dX13_document_57 (by decide) ?_
        refine lv_goto (tgt := 62) hx hb dX13_document_58 (by decide) ?_
        refine W.widen (k := 0) (n := 0) (by decide) (by decide) ?_
        have hpost : (0 ≤ (0 : Int32).toInt ∧ (0 : Int32).toInt ≤ 1) := ⟨by omega, by omega⟩
        have hP9 : va_P (dC, dI) vwCl [(h0, .inr (13, mX13 q0 (upd v0 21 0))), ((q0 6), .inl (k5, 120, .inl f5)), ((q0 8), .inl (k7, 120, .inl f7)), ((q0 9), .inl (k8, 120, .inl f8)), ((q0 10), .inl (k9, 120, .inl f9))] H := hP
        have hD9 : va_D A [(h0, .inr (13, mX13 q0 (upd v0 21 0))), ((q0 6), .inl (k5, 120, .inl f5)), ((q0 8), .inl (k7, 120, .inl f7)), ((q0 9), .inl (k8, 120, .inl f8)), ((q0 10), .inl (k9, 120, .inl f9))] := hD
        exact W.iret (v := 1) hx hb hr (fun t ht hW => ⟨⟨1, (fun i => ([0] : List (Int32)).getD i 0), rfl, hpost, (fun _ => 0), (fun _ => (fun _ => 0)), (fun _ => (fun _ => 0)), by rw [ht]; exact hP9, va_K.moved hW.alike hK, hD9⟩, hS.F ht⟩) hS.2.2 dX13_document_62
    · skip
      have b_ : x2.toInt ≠ 0 := fun h => c_ (zeqi.mpr (h.trans zk_0.symm))
      rcases Classical.em (x2 = (1 : Int32)) with c_ | c_
      · skip
        have b_ : x2.toInt = 1 := by rw [c_]; exact zk_1
        refine lv_tableIn (off := 44) (tgt := 63) hx hb dX13_document_19 (by omega) (by omega) (by rw [b_]; decide) (by decide) ?_
        refine lv_aload_n hx hb dX13_document_63 rfl (lv_at hl 0 rfl) ?_
        refine va_get (D := (dC, dI)) (ci := 13) (v := .ref (q0 8)) (C := RX13) (T := TX13) (N := 75) hx hb hG zuX13 hown hK hP 0 rfl rfl 8 (by decide) (hG _ zw591) (fun _ h9 => h9) rfl dX13_document_64 ?_
        refine lv_iload_n hx hb dX13_document_67 rfl (lv_at hl 1 rfl) ?_
        refine va_iald hx hb hK hP 2 1 rfl rfl (zin_lit ⟨by omega, by omega⟩) dX13_document_68 ?_
        refine lv_topi (fun z68 e_z68 => ?_)
        have b_ : 0 ≤ z68.toInt ∧ z68.toInt ≤ 600 := by rw [e_z68]; exact hf7 _
        refine W.widen (k := 0) (n := 0) (by decide) (by decide) ?_
        have hpost : (0 ≤ (0 : Int32).toInt ∧ (0 : Int32).toInt ≤ 1) := ⟨by omega, by omega⟩
        have hP9 : va_P (dC, dI) vwCl [(h0, .inr (13, mX13 q0 (upd v0 21 0))), ((q0 6), .inl (k5, 120, .inl f5)), ((q0 8), .inl (k7, 120, .inl f7)), ((q0 9), .inl (k8, 120, .inl f8)), ((q0 10), .inl (k9, 120, .inl f9))] H := hP
        have hD9 : va_D A [(h0, .inr (13, mX13 q0 (upd v0 21 0))), ((q0 6), .inl (k5, 120, .inl f5)), ((q0 8), .inl (k7, 120, .inl f7)), ((q0 9), .inl (k8, 120, .inl f8)), ((q0 10), .inl (k9, 120, .inl f9))] := hD
        exact W.iret (v := z68) hx hb hr (fun t ht hW => ⟨⟨z68, (fun i => ([0] : List (Int32)).getD i 0), rfl, hpost, (fun _ => 0), (fun _ => (fun _ => 0)), (fun _ => (fun _ => 0)), by rw [ht]; exact hP9, va_K.moved hW.alike hK, hD9⟩, hS.F ht⟩) hS.2.2 dX13_document_69
      · skip
        have b_ : x2.toInt ≠ 1 := fun h => c_ (zeqi.mpr (h.trans zk_1.symm))
        rcases Classical.em (x2 = (2 : Int32)) with c_ | c_
        · skip
          have b_ : x2.toInt = 2 := by rw [c_]; exact zk_2
          refine lv_tableIn (off := 51) (tgt := 70) hx hb dX13_document_19 (by omega) (by omega) (by rw [b_]; decide) (by decide) ?_
          refine lv_aload_n hx hb dX13_document_70 rfl (lv_at hl 0 rfl) ?_
          refine va_get (D := (dC, dI)) (ci := 13) (v := .ref (q0 9)) (C := RX13) (T := TX13) (N := 75) hx hb hG zuX13 hown hK hP 0 rfl rfl 9 (by decide) (hG _ zw592) (fun _ h9 => h9) rfl dX13_document_71 ?_
          refine lv_iload_n hx hb dX13_document_74 rfl (lv_at hl 1 rfl) ?_
          refine va_iald hx hb hK hP 3 2 rfl rfl (zin_lit ⟨by omega, by omega⟩) dX13_document_75 ?_
          refine lv_topi (fun z75 e_z75 => ?_)
          refine W.widen (k := 0) (n := 0) (by decide) (by decide) ?_
          have b_ : -2147483648 ≤ z75.toInt ∧ z75.toInt ≤ 2147483647 := ⟨zlo _, zhi _⟩
          have hpost : (0 ≤ (0 : Int32).toInt ∧ (0 : Int32).toInt ≤ 1) := ⟨by omega, by omega⟩
          have hP9 : va_P (dC, dI) vwCl [(h0, .inr (13, mX13 q0 (upd v0 21 0))), ((q0 6), .inl (k5, 120, .inl f5)), ((q0 8), .inl (k7, 120, .inl f7)), ((q0 9), .inl (k8, 120, .inl f8)), ((q0 10), .inl (k9, 120, .inl f9))] H := hP
          have hD9 : va_D A [(h0, .inr (13, mX13 q0 (upd v0 21 0))), ((q0 6), .inl (k5, 120, .inl f5)), ((q0 8), .inl (k7, 120, .inl f7)), ((q0 9), .inl (k8, 120, .inl f8)), ((q0 10), .inl (k9, 120, .inl f9))] := hD
          exact W.iret (v := z75) hx hb hr (fun t ht hW => ⟨⟨z75, (fun i => ([0] : List (Int32)).getD i 0), rfl, hpost, (fun _ => 0), (fun _ => (fun _ => 0)), (fun _ => (fun _ => 0)), by rw [ht]; exact hP9, va_K.moved hW.alike hK, hD9⟩, hS.F ht⟩) hS.2.2 dX13_document_76
        · skip
          have b_ : x2.toInt ≠ 2 := fun h => c_ (zeqi.mpr (h.trans zk_2.symm))
          rcases Classical.em (x2 = (3 : Int32)) with c_ | c_
          · skip
            have b_ : x2.toInt = 3 := by rw [c_]; exact zk_3
            refine lv_tableIn (off := 58) (tgt := 77) hx hb dX13_document_19 (by omega) (by omega) (by rw [b_]; decide) (by decide) ?_
            refine lv_aload_n hx hb dX13_document_77 rfl (lv_at hl 0 rfl) ?_
            refine va_get (D := (dC, dI)) (ci := 13) (v := .ref (q0 10)) (C := RX13) (T := TX13) (N := 75) hx hb hG zuX13 hown hK hP 0 rfl rfl 10 (by decide) (hG _ zw593) (fun _ h9 => h9) rfl dX13_document_78 ?_
            refine lv_iload_n hx hb dX13_document_81 rfl (lv_at hl 1 rfl) ?_
            refine va_iald hx hb hK hP 4 3 rfl rfl (zin_lit ⟨by omega, by omega⟩) dX13_document_82 ?_
            refine lv_topi (fun z82 e_z82 => ?_)
            refine W.widen (k := 0) (n := 0) (by decide) (by decide) ?_
            have b_ : -2147483648 ≤ z82.toInt ∧ z82.toInt ≤ 2147483647 := ⟨zlo _, zhi _⟩
            have hpost : (0 ≤ (0 : Int32).toInt ∧ (0 : Int32).toInt ≤ 1) := ⟨by omega, by omega⟩
            have hP9 : va_P (dC, dI) vwCl [(h0, .inr (13, mX13 q0 (upd v0 21 0))), ((q0 6), .inl (k5, 120, .inl f5)), ((q0 8), .inl (k7, 120, .inl f7)), ((q0 9), .inl (k8, 120, .inl f8)), ((q0 10), .inl (k9, 120, .inl f9))] H := hP
            have hD9 : va_D A [(h0, .inr (13, mX13 q0 (upd v0 21 0))), ((q0 6), .inl (k5, 120, .inl f5)), ((q0 8), .inl (k7, 120, .inl f7)), ((q0 9), .inl (k8, 120, .inl f8)), ((q0 10), .inl (k9, 120, .inl f9))] := hD
            exact W.iret (v := z82) hx hb hr (fun t ht hW => ⟨⟨z82, (fun i => ([0] : List (Int32)).getD i 0), rfl, hpost, (fun _ => 0), (fun _ => (fun _ => 0)), (fun _ => (fun _ => 0)), by rw [ht]; exact hP9, va_K.moved hW.alike hK, hD9⟩, hS.F ht⟩) hS.2.2 dX13_document_83
          · skip
            have b_ : x2.toInt ≠ 3 := fun h => c_ (zeqi.mpr (h.trans zk_3.symm))
            refine lv_tableOut (tgt := 84) hx hb dX13_document_19 (by omega) (by decide) ?_
            refine lv_iconst (v := (-1)) hx hb dX13_document_84 (by decide) ?_
            refine W.widen (k := 0) (n := 0) (by decide) (by decide) ?_
            have hpost : (0 ≤ (0 : Int32).toInt ∧ (0 : Int32).toInt ≤ 1) := ⟨by omega, by omega⟩
            have hP9 : va_P (dC, dI) vwCl [(h0, .inr (13, mX13 q0 (upd v0 21 0))), ((q0 6), .inl (k5, 120, .inl f5)), ((q0 8), .inl (k7, 120, .inl f7)), ((q0 9), .inl (k8, 120, .inl f8)), ((q0 10), .inl (k9, 120, .inl f9))] H := hP
            have hD9 : va_D A [(h0, .inr (13, mX13 q0 (upd v0 21 0))), ((q0 6), .inl (k5, 120, .inl f5)), ((q0 8), .inl (k7, 120, .inl f7)), ((q0 9), .inl (k8, 120, .inl f8)), ((q0 10), .inl (k9, 120, .inl f9))] := hD
            exact W.iret (v := (-1)) hx hb hr (fun t ht hW => ⟨⟨(-1), (fun i => ([0] : List (Int32)).getD i 0), rfl, hpost, (fun _ => 0), (fun _ => (fun _ => 0)), (fun _ => (fun _ => 0)), by rw [ht]; exact hP9, va_K.moved hW.alike hK, hD9⟩, hS.F ht⟩) hS.2.2 dX13_document_85
  · skip
    have b_ := zF_ne rfl zk_0 c_
    refine lv_aload_n hx hb dX13_document_13 rfl (lv_at hl 0 rfl) ?_
    have hPc := hP.sub (ws' := [(h0, .inr (13, mX13 q0 (upd v0 21 0)))]) [0] rfl
    have hDc := hD.sub (ws' := [(h0, .inr (13, mX13 q0 (upd v0 21 0)))]) [0] (by decide) rfl
    have hKc := hK.sub (tys' := []) [] rfl
    have hFc := va_free (wc := [(h0, .inr (13, mX13 q0 (upd v0 21 0)))]) hD hS hA [0] rfl
    refine va_calli (va_runV (As := []) (rest := []) ⟨hx, hb, hml, hown, hG⟩ (sX13_refuse_0 l dC dI adK adV h0 q0 H.size (upd v0 21 0) (zR_updF hv0 21 rfl)) (cwV 0 hG (zgV zw651 zw652 zw653 zw524 zw654) rfl rfl rfl (by decide +kernel) ⟨Nat.le_of_ble_eq_true rfl, Nat.le_of_ble_eq_true rfl⟩) ⟨zPc_blind, va_recv hKc hPc (ci := 13) (q0 := 0) rfl rfl, zPc_pre hPc hKc hDc hE hS hFc hZ⟩ rfl rfl hl.1 rfl (lv_room (Nat.le_of_ble_eq_true rfl)) dX13_document_14 ⟨Nat.le_of_ble_eq_true rfl, Nat.le_of_ble_eq_true rfl⟩) hS (fun q _ h => hFc q h) hFc (fun r14_ u14_ t H1 locs ht hvm hw hB hz1 hk1 hS => ?_)
    have hw : (0 ≤ r14_.toInt ∧ r14_.toInt ≤ 0) ∧ (1 ≤ (u14_ 0).toInt ∧ (u14_ 0).toInt ≤ 1) := hw
    obtain ⟨b_, b_⟩ := hw
    obtain rfl : r14_ = (0 : Int32) := zeqi.mpr ((show r14_.toInt = 0 from by omega).trans zk_0.symm)
    obtain ⟨w14_, a14_, b14_, hP1, hK1, hD1⟩ := hB
    rw [ht] at hP1
    obtain ⟨hP, hD⟩ := va_join (wr := [((q0 6), .inl (k5, 120, .inl f5)), ((q0 8), .inl (k7, 120, .inl f7)), ((q0 9), .inl (k8, 120, .inl f8)), ((q0 10), .inl (k9, 120, .inl f9))]) (w1 := [(h0, .inr (13, mX13 q0 (upd v0 21 (u14_ 0))))]) hP hD [0] [1, 2, 3, 4] rfl rfl (by decide) (by decide) hk1 hFc hP1 hD1
    have hP : va_P (dC, dI) vwCl [(h0, .inr (13, mX13 q0 (upd v0 21 (u14_ 0)))), ((q0 6), .inl (k5, 120, .inl f5)), ((q0 8), .inl (k7, 120, .inl f7)), ((q0 9), .inl (k8, 120, .inl f8)), ((q0 10), .inl (k9, 120, .inl f9))] H1 := hP.sub [4, 0, 1, 2, 3] rfl
    have hD : va_D A [(h0, .inr (13, mX13 q0 (upd v0 21 (u14_ 0)))), ((q0 6), .inl (k5, 120, .inl f5)), ((q0 8), .inl (k7, 120, .inl f7)), ((q0 9), .inl (k8, 120, .inl f8)), ((q0 10), .inl (k9, 120, .inl f9))] := hD.sub [4, 0, 1, 2, 3] (by decide) rfl
    generalize H1 = H at hP hS ⊢
    clear hz1
    refine W.widen (k := 0) (n := 0) (by decide) (by decide) ?_
    have hpost : (0 ≤ (u14_ 0).toInt ∧ (u14_ 0).toInt ≤ 1) := ⟨by omega, by omega⟩
    have hP9 : va_P (dC, dI) vwCl [(h0, .inr (13, mX13 q0 (upd v0 21 (u14_ 0)))), ((q0 6), .inl (k5, 120, .inl f5)), ((q0 8), .inl (k7, 120, .inl f7)), ((q0 9), .inl (k8, 120, .inl f8)), ((q0 10), .inl (k9, 120, .inl f9))] H := hP
    have hD9 : va_D A [(h0, .inr (13, mX13 q0 (upd v0 21 (u14_ 0)))), ((q0 6), .inl (k5, 120, .inl f5)), ((q0 8), .inl (k7, 120, .inl f7)), ((q0 9), .inl (k8, 120, .inl f8)), ((q0 10), .inl (k9, 120, .inl f9))] := hD
    exact W.iret (v := 0) hx hb hr (fun t ht hW => ⟨⟨0, (fun i => ([(u14_ 0)] : List (Int32)).getD i 0), rfl, hpost, (fun _ => 0), (fun _ => (fun _ => 0)), (fun _ => (fun _ => 0)), by rw [ht]; exact hP9, va_K.moved hW.alike hK, hD9⟩, hS.F ht⟩) hS.2.2 dX13_document_17
set_option maxHeartbeats 8000000 in
set_option maxRecDepth 100000 in
theorem sX13_chunks_0 (l : Launch) (dC : Nat → ClassId) (dI : Nat → Nat → Nat) (adK adV : Nat → Nat) (sz : Nat) (x0 : Int32) : Met l yX13_chunks (zw yX13_chunks cX13_chunks 4 (some .int)) { frames := 1, cells := 0, slots := 0, locals := 40 } (zPc dC dI adK adV [.int x0] sz [] []) (va_Qi (fun (r : Int32) (u : Nat → Int32) => True) (fun (u : Nat → Int32) (t : State) => ∃ (ww : Nat → Int64) (aa : Nat → Nat → Int32) (bb : Nat → Nat → Int64), va_P (dC, dI) vwCl [] t.heap ∧ va_K (dC, dI) vwCl [] t ∧ va_D (va_A [] sz) []) (va_A [] sz)) 0 0 (va_A [] sz) := by
  refine Met.ofW (cc := cX13_chunks) (maxL := 4) (ret := (some .int)) (by decide) rfl ?_
  intro p e s m args below meth c s₁ B hml hv
  obtain ⟨rfl, hsz, hP, hK, hD0, hE, hZ⟩ := hv
  have hx := B.exec
  have hb := B.bytes
  have hr := B.returns
  have hG : ∀ w ∈ zG, w.before _ s = true := fun w h => atoms_spec (ws := (zw yX13_chunks cX13_chunks 4 (some .int))) B.pre w (List.mem_cons_of_mem _ h)
  have hown : s.vm.findClass RX13 = some m.cls := findClass_of_methodNamed B.named
  have hlocks := B.notSynchronized
  subst hsz
  have hD := hD0.self (sz := s.heap.size)
  generalize hAe : va_A [] s.heap.size = A at hD hZ ⊢
  have hA : ∀ q : Nat, s.heap.size ≤ q → A q := fun q h => by rw [← hAe]; exact Or.inr h
  have hS : va_S A s.heap s.heap [] := va_S.rf
  have hl := lv_entry ([.int x0]) (n := 4) (Nat.le_of_ble_eq_true rfl)
  rw [lg_entry_eq]
  generalize (lg_sl ([.int x0]) ++ List.replicate (4 - (lg_sl ([.int x0])).length) Slot.unset).toArray = ls at hl ⊢
  have hl : lv_has ls 4 [(0, .int x0)] := hl
  have b_ := zk_32
  refine lv_iconst (v := 0) hx hb dX13_chunks_0 (by decide) ?_
  refine lv_istore_n (lv' := [(1, .int 0), (0, .int x0)]) hx hb dX13_chunks_1 rfl hl (by decide) rfl (fun ls hl => ?_)
  refine lv_iload_n hx hb dX13_chunks_2 rfl (lv_at hl 1 rfl) ?_
  refine lv_istore_n (lv' := [(2, .int x0), (1, .int 0), (0, .int x0)]) hx hb dX13_chunks_3 rfl hl (by decide) rfl (fun ls hl => ?_)
  refine lv_bipush (v := 32) hx hb dX13_chunks_4 (by decide) ?_
  refine lv_istore_n (lv' := [(3, .int 32), (2, .int x0), (1, .int 0), (0, .int x0)]) hx hb dX13_chunks_6 rfl hl (by decide) rfl (fun ls hl => ?_)
  refine zcutL (fun u7_ => ((u7_ 1).toInt).toNat) (fun H locs ls u7_ w7_ a7_ b7_ => va_P (dC, dI) vwCl [] H ∧ va_D A [] ∧ va_S A s.heap H locs ∧ lv_has ls 4 [(0, .int x0), (1, .int (u7_ 0)), (2, .int (u7_ 1)), (3, .int (u7_ 2))] ∧ (32 ≤ (u7_ 2).toInt ∧ (u7_ 2).toInt ≤ 256)) (fun ls u7_ w7_ => F0 m 7 ls []) 0 0 ?_ (fun hJ7 => ?_)
  · skip
    intro H locs ls u7_ w7_ a7_ b7_ hc hJ7
    obtain ⟨hP, hD, hS, hl, b_⟩ := hc
    refine lv_iload_n hx hb dX13_chunks_7 rfl (lv_at hl 2 rfl) ?_
    have b_ : -2147483648 ≤ (u7_ 1).toInt ∧ (u7_ 1).toInt ≤ 2147483647 := ⟨zlo _, zhi _⟩
    refine lv_if_le (tgt := 31) hx hb dX13_chunks_8 (by decide) (fun c_ => ?_) (fun c_ => ?_)
    · skip
      have b_ := zT_le rfl zk_0 c_
      refine lv_iload_n hx hb dX13_chunks_31 rfl (lv_at hl 1 rfl) ?_
      refine W.widen (k := 0) (n := 0) (by decide) (by decide) ?_
      have b_ : -2147483648 ≤ (u7_ 0).toInt ∧ (u7_ 0).toInt ≤ 2147483647 := ⟨zlo _, zhi _⟩
      have hpost : True := trivial
      have hP9 : va_P (dC, dI) vwCl [] H := hP
      have hD9 : va_D A [] := hD
      exact W.iret (v := (u7_ 0)) hx hb hr (fun t ht hW => ⟨⟨(u7_ 0), (fun _ => 0), rfl, hpost, (fun _ => 0), (fun _ => (fun _ => 0)), (fun _ => (fun _ => 0)), by rw [ht]; exact hP9, va_K.moved hW.alike hK, hD9⟩, hS.F ht⟩) hS.2.2 dX13_chunks_32
    · skip
      have b_ := zF_le rfl zk_0 c_
      refine lv_iload_n hx hb dX13_chunks_11 rfl (lv_at hl 2 rfl) ?_
      refine lv_iload_n hx hb dX13_chunks_12 rfl (lv_at hl 3 rfl) ?_
      refine lv_isub hx hb dX13_chunks_13 ?_
      refine lv_topi (fun z13 e_z13 => ?_)
      have b_ := zsub rfl rfl e_z13 (by omega) (by omega)
      refine lv_istore_n (lv' := [(2, .int z13), (0, .int x0), (1, .int (u7_ 0)), (3, .int (u7_ 2))]) hx hb dX13_chunks_14 rfl hl (by decide) rfl (fun ls hl => ?_)
      refine lv_sipush (v := 256) hx hb dX13_chunks_15 (by decide) ?_
      refine lv_iconst (v := 2) hx hb dX13_chunks_18 (by decide) ?_
      refine lv_iload_n hx hb dX13_chunks_19 rfl (lv_at hl 3 rfl) ?_
      refine lv_imul hx hb dX13_chunks_20 ?_
      refine lv_topi (fun z20 e_z20 => ?_)
      have b_ := zmul zk_2 rfl e_z20 (by omega) (by omega)
      refine va_mmin hx hb (by rw [hml]; exact hl.1.symm) hown (hG _ zw569) (hG _ zw120) (hG _ zw9) (hG _ zw121) (Nat.le_of_ble_eq_true rfl) (Nat.le_of_ble_eq_true rfl) (Nat.le_of_ble_eq_true rfl) (Nat.le_of_ble_eq_true rfl) dX13_chunks_21 ?_
      refine lv_topi (fun z21 e_z21 => ?_)
      have b_ := zmin zk_256 rfl e_z21
      refine lv_istore_n (lv' := [(3, .int z21), (2, .int z13), (0, .int x0), (1, .int (u7_ 0))]) hx hb dX13_chunks_24 rfl hl (by decide) rfl (fun ls hl => ?_)
      have b_ : -2147483648 ≤ (u7_ 0).toInt ∧ (u7_ 0).toInt ≤ 2147483647 := ⟨zlo _, zhi _⟩
      obtain ⟨z25, e_z25⟩ : ∃ z : Int32, z = (u7_ 0) + Int32.ofInt 1 := ⟨_, rfl⟩
      refine lv_iinc (v := z25) (lv' := [(1, .int z25), (3, .int z21), (2, .int z13), (0, .int x0)]) hx hb dX13_chunks_25 hl (k := 3) rfl e_z25.symm (by decide) rfl (fun ls hl => ?_)
      refine lv_goto (tgt := 7) hx hb dX13_chunks_28 (by decide) ?_
      have b_ : -2147483648 ≤ x0.toInt ∧ x0.toInt ≤ 2147483647 := ⟨zlo _, zhi _⟩
      have b_ : -2147483648 ≤ z25.toInt ∧ z25.toInt ≤ 2147483647 := ⟨zlo _, zhi _⟩
      have hc : va_P (dC, dI) vwCl [] H ∧ va_D A [] ∧ va_S A s.heap H locs ∧ lv_has ls 4 [(0, .int x0), (1, .int z25), (2, .int z13), (3, .int z21)] ∧ (32 ≤ z21.toInt ∧ z21.toInt ≤ 256) := ⟨hP, hD, hS, lv_sub hl [3, 0, 2, 1] rfl, ⟨by omega, by omega⟩⟩
      exact hJ7 H locs ls (fun i => ([z25, z13, z21] : List (Int32)).getD i 0) (fun _ => 0) (fun _ => (fun _ => 0)) (fun _ => (fun _ => 0)) hc (show (z13.toInt).toNat < ((u7_ 1).toInt).toNat from by omega)
  · skip
    have b_ : -2147483648 ≤ x0.toInt ∧ x0.toInt ≤ 2147483647 := ⟨zlo _, zhi _⟩
    have hc : va_P (dC, dI) vwCl [] s.heap ∧ va_D A [] ∧ va_S A s.heap s.heap [] ∧ lv_has ls 4 [(0, .int x0), (1, .int 0), (2, .int x0), (3, .int 32)] ∧ (32 ≤ (32 : Int32).toInt ∧ (32 : Int32).toInt ≤ 256) := ⟨hP, hD, hS, lv_sub hl [3, 2, 1, 0] rfl, ⟨by omega, by omega⟩⟩
    exact hJ7 s.heap [] ls (fun i => ([0, x0, 32] : List (Int32)).getD i 0) (fun _ => 0) (fun _ => (fun _ => 0)) (fun _ => (fun _ => 0)) hc
set_option maxHeartbeats 8000000 in
set_option maxRecDepth 100000 in
theorem sX13_allBits_0 (l : Launch) (dC : Nat → ClassId) (dI : Nat → Nat → Nat) (adK adV : Nat → Nat) (h0 : Nat) (q0 : Nat → Nat) (k17 : ClassId) (k18 : ClassId) (k6 : ClassId) (k4 : ClassId) (k20 : ClassId) (k19 : ClassId) (sz : Nat) (v0 : Nat → Int32) (f17 : Nat → Int32) (f18 : Nat → Int32) (f6 : Nat → Int32) (f4 : Nat → Int32) (f20 : Nat → Int32) (f19 : Nat → Int32) (hv0 : zR rg_Model v0) (hf18 : zA (-1) 119 f18) (hf4 : zA 0 400 f4) (hf19 : zA (-1) 1023 f19) : Met l yX13_allBits (zw yX13_allBits cX13_allBits 3 (some .int)) { frames := 3, cells := 0, slots := 0, locals := 65 } (zPc dC dI adK adV [.ref h0] sz [(h0, .inr (13, mX13 q0 v0)), ((q0 25), .inl (k17, 400, .inl f17)), ((q0 26), .inl (k18, 400, .inl f18)), ((q0 7), .inl (k6, 120, .inl f6)), ((q0 5), .inl (k4, 122880, .inl f4)), ((q0 28), .inl (k20, 400, .inl f20)), ((q0 27), .inl (k19, 400, .inl f19))] [(k17, .int), (k18, .int), (k6, .boolean), (k4, .short), (k20, .int), (k19, .int)]) (va_Qi (fun (r : Int32) (u : Nat → Int32) => True) (fun (u : Nat → Int32) (t : State) => ∃ (ww : Nat → Int64) (aa : Nat → Nat → Int32) (bb : Nat → Nat → Int64), zA (-1) 119 (aa 1) ∧ zA (-1) 1023 (aa 3) ∧ va_P (dC, dI) vwCl [(h0, .inr (13, mX13 q0 v0)), ((q0 25), .inl (k17, 400, .inl (aa 0))), ((q0 26), .inl (k18, 400, .inl (aa 1))), ((q0 7), .inl (k6, 120, .inl f6)), ((q0 5), .inl (k4, 122880, .inl f4)), ((q0 28), .inl (k20, 400, .inl (aa 2))), ((q0 27), .inl (k19, 400, .inl (aa 3)))] t.heap ∧ va_K (dC, dI) vwCl [(k17, .int), (k18, .int), (k6, .boolean), (k4, .short), (k20, .int), (k19, .int)] t ∧ va_D (va_A [(h0, .inr (13, mX13 q0 v0)), ((q0 25), .inl (k17, 400, .inl f17)), ((q0 26), .inl (k18, 400, .inl f18)), ((q0 7), .inl (k6, 120, .inl f6)), ((q0 5), .inl (k4, 122880, .inl f4)), ((q0 28), .inl (k20, 400, .inl f20)), ((q0 27), .inl (k19, 400, .inl f19))] sz) [(h0, .inr (13, mX13 q0 v0)), ((q0 25), .inl (k17, 400, .inl (aa 0))), ((q0 26), .inl (k18, 400, .inl (aa 1))), ((q0 7), .inl (k6, 120, .inl f6)), ((q0 5), .inl (k4, 122880, .inl f4)), ((q0 28), .inl (k20, 400, .inl (aa 2))), ((q0 27), .inl (k19, 400, .inl (aa 3)))]) (va_A [(h0, .inr (13, mX13 q0 v0)), ((q0 25), .inl (k17, 400, .inl f17)), ((q0 26), .inl (k18, 400, .inl f18)), ((q0 7), .inl (k6, 120, .inl f6)), ((q0 5), .inl (k4, 122880, .inl f4)), ((q0 28), .inl (k20, 400, .inl f20)), ((q0 27), .inl (k19, 400, .inl f19))] sz)) 0 0 (va_A [(h0, .inr (13, mX13 q0 v0)), ((q0 25), .inl (k17, 400, .inl f17)), ((q0 26), .inl (k18, 400, .inl f18)), ((q0 7), .inl (k6, 120, .inl f6)), ((q0 5), .inl (k4, 122880, .inl f4)), ((q0 28), .inl (k20, 400, .inl f20)), ((q0 27), .inl (k19, 400, .inl f19))] sz) := by
  refine Met.ofW (cc := cX13_allBits) (maxL := 3) (ret := (some .int)) (by decide) rfl ?_
  intro p e s m args below meth c s₁ B hml hv
  obtain ⟨rfl, hsz, hP, hK, hD0, hE, hZ⟩ := hv
  have hx := B.exec
  have hb := B.bytes
  have hr := B.returns
  have hG : ∀ w ∈ zG, w.before _ s = true := fun w h => atoms_spec (ws := (zw yX13_allBits cX13_allBits 3 (some .int))) B.pre w (List.mem_cons_of_mem _ h)
  have hown : s.vm.findClass RX13 = some m.cls := findClass_of_methodNamed B.named
  have hlocks := B.notSynchronized
  subst hsz
  have hD := hD0.self (sz := s.heap.size)
  generalize hAe : va_A [(h0, .inr (13, mX13 q0 v0)), ((q0 25), .inl (k17, 400, .inl f17)), ((q0 26), .inl (k18, 400, .inl f18)), ((q0 7), .inl (k6, 120, .inl f6)), ((q0 5), .inl (k4, 122880, .inl f4)), ((q0 28), .inl (k20, 400, .inl f20)), ((q0 27), .inl (k19, 400, .inl f19))] s.heap.size = A at hD hZ ⊢
  have hA : ∀ q : Nat, s.heap.size ≤ q → A q := fun q h => by rw [← hAe]; exact Or.inr h
  have hS : va_S A s.heap s.heap [] := va_S.rf
  have hl := lv_entry ([.ref h0]) (n := 3) (Nat.le_of_ble_eq_true rfl)
  rw [lg_entry_eq]
  generalize (lg_sl ([.ref h0]) ++ List.replicate (3 - (lg_sl ([.ref h0])).length) Slot.unset).toArray = ls at hl ⊢
  have hl : lv_has ls 3 [(0, .ref h0)] := hl
  have b_ := zk_0
  refine lv_aload_n hx hb dX13_allBits_0 rfl (lv_at hl 0 rfl) ?_
  have hPc := hP.sub (ws' := [(h0, .inr (13, mX13 q0 v0)), ((q0 25), .inl (k17, 400, .inl f17)), ((q0 26), .inl (k18, 400, .inl f18)), ((q0 7), .inl (k6, 120, .inl f6)), ((q0 5), .inl (k4, 122880, .inl f4)), ((q0 28), .inl (k20, 400, .inl f20)), ((q0 27), .inl (k19, 400, .inl f19))]) [0, 1, 2, 3, 4, 5, 6] rfl
  have hDc := hD.sub (ws' := [(h0, .inr (13, mX13 q0 v0)), ((q0 25), .inl (k17, 400, .inl f17)), ((q0 26), .inl (k18, 400, .inl f18)), ((q0 7), .inl (k6, 120, .inl f6)), ((q0 5), .inl (k4, 122880, .inl f4)), ((q0 28), .inl (k20, 400, .inl f20)), ((q0 27), .inl (k19, 400, .inl f19))]) [0, 1, 2, 3, 4, 5, 6] (by decide) rfl
  have hKc := hK.sub (tys' := [(k17, .int), (k18, .int), (k6, .boolean), (k4, .short), (k20, .int), (k19, .int)]) [0, 1, 2, 3, 4, 5] rfl
  have hFc := va_free (wc := [(h0, .inr (13, mX13 q0 v0)), ((q0 25), .inl (k17, 400, .inl f17)), ((q0 26), .inl (k18, 400, .inl f18)), ((q0 7), .inl (k6, 120, .inl f6)), ((q0 5), .inl (k4, 122880, .inl f4)), ((q0 28), .inl (k20, 400, .inl f20)), ((q0 27), .inl (k19, 400, .inl f19))]) hD hS hA [0, 1, 2, 3, 4, 5, 6] rfl
  refine va_callv (va_runV (As := []) (rest := []) ⟨hx, hb, hml, hown, hG⟩ (sX13_measure_0 l dC dI adK adV h0 q0 k17 k18 k6 k4 k20 k19 s.heap.size v0 f17 f18 f6 f4 f20 f19 hv0 hf18 hf4 hf19) (cwV 0 hG (zgV zw582 zw583 zw584 zw524 zw585) rfl rfl rfl (by decide +kernel) ⟨Nat.le_of_ble_eq_true rfl, Nat.le_of_ble_eq_true rfl⟩) ⟨zPc_blind, va_recv hKc hPc (ci := 13) (q0 := 0) rfl rfl, zPc_pre hPc hKc hDc hE hS hFc hZ⟩ rfl rfl hl.1 rfl (lv_room (Nat.le_of_ble_eq_true rfl)) dX13_allBits_1 ⟨Nat.le_of_ble_eq_true rfl, Nat.le_of_ble_eq_true rfl⟩) hS (fun q _ h => hFc q h) hFc (fun u1_ t H1 locs ht hvm hw hB hz1 hk1 hS => ?_)
  obtain ⟨w1_, a1_, b1_, ha1_1, ha1_3, hP1, hK1, hD1⟩ := hB
  rw [ht] at hP1
  obtain ⟨hP, hD⟩ := va_join (wr := []) (w1 := [(h0, .inr (13, mX13 q0 v0)), ((q0 25), .inl (k17, 400, .inl (a1_ 0))), ((q0 26), .inl (k18, 400, .inl (a1_ 1))), ((q0 7), .inl (k6, 120, .inl f6)), ((q0 5), .inl (k4, 122880, .inl f4)), ((q0 28), .inl (k20, 400, .inl (a1_ 2))), ((q0 27), .inl (k19, 400, .inl (a1_ 3)))]) hP hD [0, 1, 2, 3, 4, 5, 6] [] rfl rfl (by decide) (by decide) hk1 hFc hP1 hD1
  have hP : va_P (dC, dI) vwCl [(h0, .inr (13, mX13 q0 v0)), ((q0 25), .inl (k17, 400, .inl (a1_ 0))), ((q0 26), .inl (k18, 400, .inl (a1_ 1))), ((q0 7), .inl (k6, 120, .inl f6)), ((q0 5), .inl (k4, 122880, .inl f4)), ((q0 28), .inl (k20, 400, .inl (a1_ 2))), ((q0 27), .inl (k19, 400, .inl (a1_ 3)))] H1 := hP.sub [0, 1, 2, 3, 4, 5, 6] rfl
  have hD : va_D A [(h0, .inr (13, mX13 q0 v0)), ((q0 25), .inl (k17, 400, .inl (a1_ 0))), ((q0 26), .inl (k18, 400, .inl (a1_ 1))), ((q0 7), .inl (k6, 120, .inl f6)), ((q0 5), .inl (k4, 122880, .inl f4)), ((q0 28), .inl (k20, 400, .inl (a1_ 2))), ((q0 27), .inl (k19, 400, .inl (a1_ 3)))] := hD.sub [0, 1, 2, 3, 4, 5, 6] (by decide) rfl
  generalize H1 = H at hP hS ⊢
  clear hz1
  refine lv_iconst (v := 0) hx hb dX13_allBits_4 (by decide) ?_
  refine lv_istore_n (lv' := [(1, .int 0), (0, .ref h0)]) hx hb dX13_allBits_5 rfl hl (by decide) rfl (fun ls hl => ?_)
  refine lv_iconst (v := 0) hx hb dX13_allBits_6 (by decide) ?_
  refine lv_istore_n (lv' := [(2, .int 0), (1, .int 0), (0, .ref h0)]) hx hb dX13_allBits_7 rfl hl (by decide) rfl (fun ls hl => ?_)
  refine zcutL (fun u8_ => (400 - (u8_ 1).toInt).toNat) (fun H locs ls u8_ w8_ a8_ b8_ => va_P (dC, dI) vwCl [(h0, .inr (13, mX13 q0 v0)), ((q0 25), .inl (k17, 400, .inl (a1_ 0))), ((q0 26), .inl (k18, 400, .inl (a1_ 1))), ((q0 7), .inl (k6, 120, .inl f6)), ((q0 5), .inl (k4, 122880, .inl f4)), ((q0 28), .inl (k20, 400, .inl (a1_ 2))), ((q0 27), .inl (k19, 400, .inl (a1_ 3)))] H ∧ va_D A [(h0, .inr (13, mX13 q0 v0)), ((q0 25), .inl (k17, 400, .inl (a1_ 0))), ((q0 26), .inl (k18, 400, .inl (a1_ 1))), ((q0 7), .inl (k6, 120, .inl f6)), ((q0 5), .inl (k4, 122880, .inl f4)), ((q0 28), .inl (k20, 400, .inl (a1_ 2))), ((q0 27), .inl (k19, 400, .inl (a1_ 3)))] ∧ va_S A s.heap H locs ∧ lv_has ls 3 [(0, .ref h0), (1, .int (u8_ 0)), (2, .int (u8_ 1))] ∧ (0 ≤ (u8_ 1).toInt ∧ (u8_ 1).toInt ≤ 400)) (fun ls u8_ w8_ => F0 m 8 ls []) 0 0 ?_ (fun hJ8 => ?_)
  · skip
    intro H locs ls u8_ w8_ a8_ b8_ hc hJ8
    obtain ⟨hP, hD, hS, hl, b_⟩ := hc
    refine lv_iload_n hx hb dX13_allBits_8 rfl (lv_at hl 2 rfl) ?_
    refine lv_aload_n hx hb dX13_allBits_9 rfl (lv_at hl 0 rfl) ?_
    have b_ : 0 ≤ (v0 4).toInt ∧ (v0 4).toInt ≤ 400 := hv0 4
    refine va_get (D := (dC, dI)) (ci := 13) (v := .int (v0 4)) (C := RX13) (T := TX13) (N := 75) hx hb hG zuX13 hown hK hP 0 rfl rfl 4 (by decide) (hG _ zw551) (fun _ h9 => h9) rfl dX13_allBits_10 ?_
    refine lv_icmp_ge (tgt := 31) hx hb dX13_allBits_13 (by decide) (fun c_ => ?_) (fun c_ => ?_)
    · skip
      have b_ := zT_ge rfl rfl c_
      refine lv_iload_n hx hb dX13_allBits_31 rfl (lv_at hl 1 rfl) ?_
      refine W.widen (k := 0) (n := 0) (by decide) (by decide) ?_
      have b_ : -2147483648 ≤ (u8_ 0).toInt ∧ (u8_ 0).toInt ≤ 2147483647 := ⟨zlo _, zhi _⟩
      have hpost : True := trivial
      have hP9 : va_P (dC, dI) vwCl [(h0, .inr (13, mX13 q0 v0)), ((q0 25), .inl (k17, 400, .inl (a1_ 0))), ((q0 26), .inl (k18, 400, .inl (a1_ 1))), ((q0 7), .inl (k6, 120, .inl f6)), ((q0 5), .inl (k4, 122880, .inl f4)), ((q0 28), .inl (k20, 400, .inl (a1_ 2))), ((q0 27), .inl (k19, 400, .inl (a1_ 3)))] H := hP
      have hD9 : va_D A [(h0, .inr (13, mX13 q0 v0)), ((q0 25), .inl (k17, 400, .inl (a1_ 0))), ((q0 26), .inl (k18, 400, .inl (a1_ 1))), ((q0 7), .inl (k6, 120, .inl f6)), ((q0 5), .inl (k4, 122880, .inl f4)), ((q0 28), .inl (k20, 400, .inl (a1_ 2))), ((q0 27), .inl (k19, 400, .inl (a1_ 3)))] := hD
      exact W.iret (v := (u8_ 0)) hx hb hr (fun t ht hW => ⟨⟨(u8_ 0), (fun _ => 0), rfl, hpost, (fun _ => 0), (fun i => ([(a1_ 0), (a1_ 1), (a1_ 2), (a1_ 3)] : List (Nat → Int32)).getD i (fun _ => 0)), (fun _ => (fun _ => 0)), ha1_1, ha1_3, by rw [ht]; exact hP9, va_K.moved hW.alike hK, hD9⟩, hS.F ht⟩) hS.2.2 dX13_allBits_32
    · skip
      have b_ := zF_ge rfl rfl c_
      refine lv_iload_n hx hb dX13_allBits_16 rfl (lv_at hl 1 rfl) ?_
      refine lv_aload_n hx hb dX13_allBits_17 rfl (lv_at hl 0 rfl) ?_
      refine va_get (D := (dC, dI)) (ci := 13) (v := .ref (q0 25)) (C := RX13) (T := TX13) (N := 75) hx hb hG zuX13 hown hK hP 0 rfl rfl 25 (by decide) (hG _ zw572) (fun _ h9 => h9) rfl dX13_allBits_18 ?_
      refine lv_iload_n hx hb dX13_allBits_21 rfl (lv_at hl 2 rfl) ?_
      refine va_iald hx hb hK hP 1 0 rfl rfl (zin_lit ⟨by omega, by omega⟩) dX13_allBits_22 ?_
      refine lv_topi (fun z22 e_z22 => ?_)
      have b_ : -2147483648 ≤ (u8_ 0).toInt ∧ (u8_ 0).toInt ≤ 2147483647 := ⟨zlo _, zhi _⟩
      have b_ : -2147483648 ≤ z22.toInt ∧ z22.toInt ≤ 2147483647 := ⟨zlo _, zhi _⟩
      refine lv_iadd hx hb dX13_allBits_23 ?_
      refine lv_topi (fun z23 e_z23 => ?_)
      refine lv_istore_n (lv' := [(1, .int z23), (0, .ref h0), (2, .int (u8_ 1))]) hx hb dX13_allBits_24 rfl hl (by decide) rfl (fun ls hl => ?_)
      obtain ⟨z25, e_z25⟩ : ∃ z : Int32, z = (u8_ 1) + Int32.ofInt 1 := ⟨_, rfl⟩
      have b_ := zadd (x := (u8_ 1)) (y := Int32.ofInt 1) rfl (show (Int32.ofInt 1).toInt = 1 from by decide) e_z25 (by omega) (by omega)
      refine lv_iinc (v := z25) (lv' := [(2, .int z25), (1, .int z23), (0, .ref h0)]) hx hb dX13_allBits_25 hl (k := 2) rfl e_z25.symm (by decide) rfl (fun ls hl => ?_)
      refine lv_goto (tgt := 8) hx hb dX13_allBits_28 (by decide) ?_
      have b_ : -2147483648 ≤ z23.toInt ∧ z23.toInt ≤ 2147483647 := ⟨zlo _, zhi _⟩
      have hc : va_P (dC, dI) vwCl [(h0, .inr (13, mX13 q0 v0)), ((q0 25), .inl (k17, 400, .inl (a1_ 0))), ((q0 26), .inl (k18, 400, .inl (a1_ 1))), ((q0 7), .inl (k6, 120, .inl f6)), ((q0 5), .inl (k4, 122880, .inl f4)), ((q0 28), .inl (k20, 400, .inl (a1_ 2))), ((q0 27), .inl (k19, 400, .inl (a1_ 3)))] H ∧ va_D A [(h0, .inr (13, mX13 q0 v0)), ((q0 25), .inl (k17, 400, .inl (a1_ 0))), ((q0 26), .inl (k18, 400, .inl (a1_ 1))), ((q0 7), .inl (k6, 120, .inl f6)), ((q0 5), .inl (k4, 122880, .inl f4)), ((q0 28), .inl (k20, 400, .inl (a1_ 2))), ((q0 27), .inl (k19, 400, .inl (a1_ 3)))] ∧ va_S A s.heap H locs ∧ lv_has ls 3 [(0, .ref h0), (1, .int z23), (2, .int z25)] ∧ (0 ≤ z25.toInt ∧ z25.toInt ≤ 400) := ⟨hP, hD, hS, lv_sub hl [2, 1, 0] rfl, ⟨by omega, by omega⟩⟩
      exact hJ8 H locs ls (fun i => ([z23, z25] : List (Int32)).getD i 0) (fun _ => 0) (fun _ => (fun _ => 0)) (fun _ => (fun _ => 0)) hc (show (400 - z25.toInt).toNat < (400 - (u8_ 1).toInt).toNat from by omega)
  · skip
    have hc : va_P (dC, dI) vwCl [(h0, .inr (13, mX13 q0 v0)), ((q0 25), .inl (k17, 400, .inl (a1_ 0))), ((q0 26), .inl (k18, 400, .inl (a1_ 1))), ((q0 7), .inl (k6, 120, .inl f6)), ((q0 5), .inl (k4, 122880, .inl f4)), ((q0 28), .inl (k20, 400, .inl (a1_ 2))), ((q0 27), .inl (k19, 400, .inl (a1_ 3)))] H ∧ va_D A [(h0, .inr (13, mX13 q0 v0)), ((q0 25), .inl (k17, 400, .inl (a1_ 0))), ((q0 26), .inl (k18, 400, .inl (a1_ 1))), ((q0 7), .inl (k6, 120, .inl f6)), ((q0 5), .inl (k4, 122880, .inl f4)), ((q0 28), .inl (k20, 400, .inl (a1_ 2))), ((q0 27), .inl (k19, 400, .inl (a1_ 3)))] ∧ va_S A s.heap H locs ∧ lv_has ls 3 [(0, .ref h0), (1, .int 0), (2, .int 0)] ∧ (0 ≤ (0 : Int32).toInt ∧ (0 : Int32).toInt ≤ 400) := ⟨hP, hD, hS, lv_sub hl [2, 1, 0] rfl, ⟨by omega, by omega⟩⟩
    exact hJ8 H locs ls (fun i => ([0, 0] : List (Int32)).getD i 0) (fun _ => 0) (fun _ => (fun _ => 0)) (fun _ => (fun _ => 0)) hc
set_option maxHeartbeats 8000000 in
set_option maxRecDepth 100000 in
theorem sX13_lookAt_0 (l : Launch) (dC : Nat → ClassId) (dI : Nat → Nat → Nat) (adK adV : Nat → Nat) (h0 : Nat) (q0 : Nat → Nat) (k15 : ClassId) (k14 : ClassId) (sz : Nat) (v0 : Nat → Int32) (f15 : Nat → Int32) (f14 : Nat → Int32) (hv0 : zR rg_Model v0) : Met l yX13_lookAt (zw yX13_lookAt cX13_lookAt 2 none) { frames := 0, cells := 0, slots := 0, locals := 0 } (zPc dC dI adK adV [.ref h0] sz [(h0, .inr (13, mX13 q0 v0)), ((q0 19), .inl (k15, 12, .inl f15)), ((q0 17), .inl (k14, 12, .inl f14))] [(k15, .byte), (k14, .byte)]) (va_Qv (fun (u : Nat → Int32) => (0 ≤ (u 0).toInt ∧ (u 0).toInt ≤ 12)) (fun (u : Nat → Int32) (t : State) => ∃ (ww : Nat → Int64) (aa : Nat → Nat → Int32) (bb : Nat → Nat → Int64), va_P (dC, dI) vwCl [(h0, .inr (13, mX13 q0 (upd v0 18 (u 0)))), ((q0 19), .inl (k15, 12, .inl f15)), ((q0 17), .inl (k14, 12, .inl (aa 0)))] t.heap ∧ va_K (dC, dI) vwCl [(k15, .byte), (k14, .byte)] t ∧ va_D (va_A [(h0, .inr (13, mX13 q0 v0)), ((q0 19), .inl (k15, 12, .inl f15)), ((q0 17), .inl (k14, 12, .inl f14))] sz) [(h0, .inr (13, mX13 q0 (upd v0 18 (u 0)))), ((q0 19), .inl (k15, 12, .inl f15)), ((q0 17), .inl (k14, 12, .inl (aa 0)))]) (va_A [(h0, .inr (13, mX13 q0 v0)), ((q0 19), .inl (k15, 12, .inl f15)), ((q0 17), .inl (k14, 12, .inl f14))] sz)) 0 0 (va_A [(h0, .inr (13, mX13 q0 v0)), ((q0 19), .inl (k15, 12, .inl f15)), ((q0 17), .inl (k14, 12, .inl f14))] sz) := by
  refine Met.ofW (cc := cX13_lookAt) (maxL := 2) (ret := none) (by decide) rfl ?_
  intro p e s m args below meth c s₁ B hml hv
  obtain ⟨rfl, hsz, hP, hK, hD0, hE, hZ⟩ := hv
  have hx := B.exec
  have hb := B.bytes
  have hr := B.returns
  have hG : ∀ w ∈ zG, w.before _ s = true := fun w h => atoms_spec (ws := (zw yX13_lookAt cX13_lookAt 2 none)) B.pre w (List.mem_cons_of_mem _ h)
  have hown : s.vm.findClass RX13 = some m.cls := findClass_of_methodNamed B.named
  have hlocks := B.notSynchronized
  subst hsz
  have hD := hD0.self (sz := s.heap.size)
  generalize hAe : va_A [(h0, .inr (13, mX13 q0 v0)), ((q0 19), .inl (k15, 12, .inl f15)), ((q0 17), .inl (k14, 12, .inl f14))] s.heap.size = A at hD hZ ⊢
  have hA : ∀ q : Nat, s.heap.size ≤ q → A q := fun q h => by rw [← hAe]; exact Or.inr h
  have hS : va_S A s.heap s.heap [] := va_S.rf
  have hl := lv_entry ([.ref h0]) (n := 2) (Nat.le_of_ble_eq_true rfl)
  rw [lg_entry_eq]
  generalize (lg_sl ([.ref h0]) ++ List.replicate (2 - (lg_sl ([.ref h0])).length) Slot.unset).toArray = ls at hl ⊢
  have hl : lv_has ls 2 [(0, .ref h0)] := hl
  have b_ := zk_0
  refine lv_iconst (v := 0) hx hb dX13_lookAt_0 (by decide) ?_
  refine lv_istore_n (lv' := [(1, .int 0), (0, .ref h0)]) hx hb dX13_lookAt_1 rfl hl (by decide) rfl (fun ls hl => ?_)
  refine zcutL (fun u2_ => (12 - (u2_ 0).toInt).toNat) (fun H locs ls u2_ w2_ a2_ b2_ => va_P (dC, dI) vwCl [(h0, .inr (13, mX13 q0 v0)), ((q0 19), .inl (k15, 12, .inl f15)), ((q0 17), .inl (k14, 12, .inl (a2_ 0)))] H ∧ va_D A [(h0, .inr (13, mX13 q0 v0)), ((q0 19), .inl (k15, 12, .inl f15)), ((q0 17), .inl (k14, 12, .inl (a2_ 0)))] ∧ va_S A s.heap H locs ∧ lv_has ls 2 [(0, .ref h0), (1, .int (u2_ 0))] ∧ (0 ≤ (u2_ 0).toInt ∧ (u2_ 0).toInt ≤ 12)) (fun ls u2_ w2_ => F0 m 2 ls []) 0 0 ?_ (fun hJ2 => ?_)
  · skip
    intro H locs ls u2_ w2_ a2_ b2_ hc hJ2
    obtain ⟨hP, hD, hS, hl, b_⟩ := hc
    refine lv_iload_n hx hb dX13_lookAt_2 rfl (lv_at hl 1 rfl) ?_
    refine lv_aload_n hx hb dX13_lookAt_3 rfl (lv_at hl 0 rfl) ?_
    have b_ : 0 ≤ (v0 20).toInt ∧ (v0 20).toInt ≤ 12 := hv0 20
    refine va_get (D := (dC, dI)) (ci := 13) (v := .int (v0 20)) (C := RX13) (T := TX13) (N := 75) hx hb hG zuX13 hown hK hP 0 rfl rfl 20 (by decide) (hG _ zw538) (fun _ h9 => h9) rfl dX13_lookAt_4 ?_
    refine lv_icmp_ge (tgt := 28) hx hb dX13_lookAt_7 (by decide) (fun c_ => ?_) (fun c_ => ?_)
    · skip
      have b_ := zT_ge rfl rfl c_
      refine lv_aload_n hx hb dX13_lookAt_28 rfl (lv_at hl 0 rfl) ?_
      refine lv_aload_n hx hb dX13_lookAt_29 rfl (lv_at hl 0 rfl) ?_
      refine va_get (D := (dC, dI)) (ci := 13) (v := .int (v0 20)) (C := RX13) (T := TX13) (N := 75) hx hb hG zuX13 hown hK hP 0 rfl rfl 20 (by decide) (hG _ zw538) (fun _ h9 => h9) rfl dX13_lookAt_30 ?_
      refine va_put (D := (dC, dI)) (ci := 13) (v := .int (v0 20)) (ty := .int) (C := RX13) (T := TX13) (N := 75) hx hb hG zuX13 tyX13 tyX13_ok nmX13 hown hK hP hD hS 0 rfl rfl 18 (by decide) (hG _ zw655) (fun _ h9 => h9) rfl (by decide +kernel) rfl rfl (Nat.le_of_ble_eq_true rfl) dX13_lookAt_33 (fun H locs hP hD hS => ?_)
      have hP : va_P (dC, dI) vwCl [(h0, .inr (13, mX13 q0 (upd v0 18 (v0 20)))), ((q0 19), .inl (k15, 12, .inl f15)), ((q0 17), .inl (k14, 12, .inl (a2_ 0)))] H := hP
      have hD : va_D A [(h0, .inr (13, mX13 q0 (upd v0 18 (v0 20)))), ((q0 19), .inl (k15, 12, .inl f15)), ((q0 17), .inl (k14, 12, .inl (a2_ 0)))] := hD
      refine W.widen (k := 0) (n := 0) (by decide) (by decide) ?_
      have hpost : (0 ≤ (v0 20).toInt ∧ (v0 20).toInt ≤ 12) := ⟨by omega, by omega⟩
      have hP9 : va_P (dC, dI) vwCl [(h0, .inr (13, mX13 q0 (upd v0 18 (v0 20)))), ((q0 19), .inl (k15, 12, .inl f15)), ((q0 17), .inl (k14, 12, .inl (a2_ 0)))] H := hP
      have hD9 : va_D A [(h0, .inr (13, mX13 q0 (upd v0 18 (v0 20)))), ((q0 19), .inl (k15, 12, .inl f15)), ((q0 17), .inl (k14, 12, .inl (a2_ 0)))] := hD
      exact W.vret hx hb hr (fun t ht hW => ⟨⟨(fun i => ([(v0 20)] : List (Int32)).getD i 0), rfl, hpost, (fun _ => 0), (fun i => ([(a2_ 0)] : List (Nat → Int32)).getD i (fun _ => 0)), (fun _ => (fun _ => 0)), by rw [ht]; exact hP9, va_K.moved hW.alike hK, hD9⟩, hS.F ht⟩) hS.2.2 dX13_lookAt_36
    · skip
      have b_ := zF_ge rfl rfl c_
      refine lv_aload_n hx hb dX13_lookAt_10 rfl (lv_at hl 0 rfl) ?_
      refine va_get (D := (dC, dI)) (ci := 13) (v := .ref (q0 17)) (C := RX13) (T := TX13) (N := 75) hx hb hG zuX13 hown hK hP 0 rfl rfl 17 (by decide) (hG _ zw656) (fun _ h9 => h9) rfl dX13_lookAt_11 ?_
      refine lv_iload_n hx hb dX13_lookAt_14 rfl (lv_at hl 1 rfl) ?_
      refine lv_aload_n hx hb dX13_lookAt_15 rfl (lv_at hl 0 rfl) ?_
      refine va_get (D := (dC, dI)) (ci := 13) (v := .ref (q0 19)) (C := RX13) (T := TX13) (N := 75) hx hb hG zuX13 hown hK hP 0 rfl rfl 19 (by decide) (hG _ zw539) (fun _ h9 => h9) rfl dX13_lookAt_16 ?_
      refine lv_iload_n hx hb dX13_lookAt_19 rfl (lv_at hl 1 rfl) ?_
      refine va_bald hx hb hK hP 1 0 rfl rfl (zin_lit ⟨by omega, by omega⟩) dX13_lookAt_20 ?_
      refine lv_topi (fun z20 e_z20 => ?_)
      refine va_bast hx hb hK hP hD hS 2 1 rfl rfl (zin_lit ⟨by omega, by omega⟩) dX13_lookAt_21 (fun H locs hP hD hS => ?_)
      obtain ⟨f_21, e_f_21⟩ : ∃ z : Nat → Int32, z = upd (a2_ 0) ((u2_ 0) : Int32).toNatClampNeg (vp_nar .byte z20) := ⟨_, rfl⟩
      have hP : va_P (dC, dI) vwCl [(h0, .inr (13, mX13 q0 v0)), ((q0 19), .inl (k15, 12, .inl f15)), ((q0 17), .inl (k14, 12, .inl f_21))] H := by rw [e_f_21]; exact hP
      have hD : va_D A [(h0, .inr (13, mX13 q0 v0)), ((q0 19), .inl (k15, 12, .inl f15)), ((q0 17), .inl (k14, 12, .inl f_21))] := by rw [e_f_21]; exact hD
      obtain ⟨z22, e_z22⟩ : ∃ z : Int32, z = (u2_ 0) + Int32.ofInt 1 := ⟨_, rfl⟩
      have b_ := zadd (x := (u2_ 0)) (y := Int32.ofInt 1) rfl (show (Int32.ofInt 1).toInt = 1 from by decide) e_z22 (by omega) (by omega)
      refine lv_iinc (v := z22) (lv' := [(1, .int z22), (0, .ref h0)]) hx hb dX13_lookAt_22 hl (k := 1) rfl e_z22.symm (by decide) rfl (fun ls hl => ?_)
      refine lv_goto (tgt := 2) hx hb dX13_lookAt_25 (by decide) ?_
      have hc : va_P (dC, dI) vwCl [(h0, .inr (13, mX13 q0 v0)), ((q0 19), .inl (k15, 12, .inl f15)), ((q0 17), .inl (k14, 12, .inl f_21))] H ∧ va_D A [(h0, .inr (13, mX13 q0 v0)), ((q0 19), .inl (k15, 12, .inl f15)), ((q0 17), .inl (k14, 12, .inl f_21))] ∧ va_S A s.heap H locs ∧ lv_has ls 2 [(0, .ref h0), (1, .int z22)] ∧ (0 ≤ z22.toInt ∧ z22.toInt ≤ 12) := ⟨hP, hD, hS, lv_sub hl [1, 0] rfl, ⟨by omega, by omega⟩⟩
      exact hJ2 H locs ls (fun i => ([z22] : List (Int32)).getD i 0) (fun _ => 0) (fun i => ([f_21] : List (Nat → Int32)).getD i (fun _ => 0)) (fun _ => (fun _ => 0)) hc (show (12 - z22.toInt).toNat < (12 - (u2_ 0).toInt).toNat from by omega)
  · skip
    have hc : va_P (dC, dI) vwCl [(h0, .inr (13, mX13 q0 v0)), ((q0 19), .inl (k15, 12, .inl f15)), ((q0 17), .inl (k14, 12, .inl f14))] s.heap ∧ va_D A [(h0, .inr (13, mX13 q0 v0)), ((q0 19), .inl (k15, 12, .inl f15)), ((q0 17), .inl (k14, 12, .inl f14))] ∧ va_S A s.heap s.heap [] ∧ lv_has ls 2 [(0, .ref h0), (1, .int 0)] ∧ (0 ≤ (0 : Int32).toInt ∧ (0 : Int32).toInt ≤ 12) := ⟨hP, hD, hS, lv_sub hl [1, 0] rfl, ⟨by omega, by omega⟩⟩
    exact hJ2 s.heap [] ls (fun i => ([0] : List (Int32)).getD i 0) (fun _ => 0) (fun i => ([f14] : List (Nat → Int32)).getD i (fun _ => 0)) (fun _ => (fun _ => 0)) hc
set_option maxHeartbeats 8000000 in
set_option maxRecDepth 100000 in
theorem sX13_lookedWord_0 (l : Launch) (dC : Nat → ClassId) (dI : Nat → Nat → Nat) (adK adV : Nat → Nat) (h0 : Nat) (q0 : Nat → Nat) (k14 : ClassId) (k15 : ClassId) (k3 : ClassId) (k2 : ClassId) (sz : Nat) (v0 : Nat → Int32) (f14 : Nat → Int32) (f15 : Nat → Int32) (f3 : Nat → Int32) (f2 : Nat → Int32) (hv0 : zR rg_Model v0) (hf3 : zA 0 12 f3) : Met l yX13_lookedWord (zw yX13_lookedWord cX13_lookedWord 2 (some .int)) { frames := 2, cells := 0, slots := 0, locals := 45 } (zPc dC dI adK adV [.ref h0] sz [(h0, .inr (13, mX13 q0 v0)), ((q0 17), .inl (k14, 12, .inl f14)), ((q0 19), .inl (k15, 12, .inl f15)), ((q0 3), .inl (k3, 400, .inl f3)), ((q0 2), .inl (k2, 4800, .inl f2))] [(k14, .byte), (k15, .byte), (k3, .int), (k2, .byte)]) (va_Qi (fun (r : Int32) (u : Nat → Int32) => ((-1) ≤ r.toInt ∧ r.toInt ≤ 399) ∧ (0 ≤ (u 0).toInt ∧ (u 0).toInt ≤ 12)) (fun (u : Nat → Int32) (t : State) => ∃ (ww : Nat → Int64) (aa : Nat → Nat → Int32) (bb : Nat → Nat → Int64), va_P (dC, dI) vwCl [(h0, .inr (13, mX13 q0 (upd v0 20 (u 0)))), ((q0 17), .inl (k14, 12, .inl f14)), ((q0 19), .inl (k15, 12, .inl (aa 0))), ((q0 3), .inl (k3, 400, .inl f3)), ((q0 2), .inl (k2, 4800, .inl f2))] t.heap ∧ va_K (dC, dI) vwCl [(k14, .byte), (k15, .byte), (k3, .int), (k2, .byte)] t ∧ va_D (va_A [(h0, .inr (13, mX13 q0 v0)), ((q0 17), .inl (k14, 12, .inl f14)), ((q0 19), .inl (k15, 12, .inl f15)), ((q0 3), .inl (k3, 400, .inl f3)), ((q0 2), .inl (k2, 4800, .inl f2))] sz) [(h0, .inr (13, mX13 q0 (upd v0 20 (u 0)))), ((q0 17), .inl (k14, 12, .inl f14)), ((q0 19), .inl (k15, 12, .inl (aa 0))), ((q0 3), .inl (k3, 400, .inl f3)), ((q0 2), .inl (k2, 4800, .inl f2))]) (va_A [(h0, .inr (13, mX13 q0 v0)), ((q0 17), .inl (k14, 12, .inl f14)), ((q0 19), .inl (k15, 12, .inl f15)), ((q0 3), .inl (k3, 400, .inl f3)), ((q0 2), .inl (k2, 4800, .inl f2))] sz)) 0 0 (va_A [(h0, .inr (13, mX13 q0 v0)), ((q0 17), .inl (k14, 12, .inl f14)), ((q0 19), .inl (k15, 12, .inl f15)), ((q0 3), .inl (k3, 400, .inl f3)), ((q0 2), .inl (k2, 4800, .inl f2))] sz) := by
  refine Met.ofW (cc := cX13_lookedWord) (maxL := 2) (ret := (some .int)) (by decide) rfl ?_
  intro p e s m args below meth c s₁ B hml hv
  obtain ⟨rfl, hsz, hP, hK, hD0, hE, hZ⟩ := hv
  have hx := B.exec
  have hb := B.bytes
  have hr := B.returns
  have hG : ∀ w ∈ zG, w.before _ s = true := fun w h => atoms_spec (ws := (zw yX13_lookedWord cX13_lookedWord 2 (some .int))) B.pre w (List.mem_cons_of_mem _ h)
  have hown : s.vm.findClass RX13 = some m.cls := findClass_of_methodNamed B.named
  have hlocks := B.notSynchronized
  subst hsz
  have hD := hD0.self (sz := s.heap.size)
  generalize hAe : va_A [(h0, .inr (13, mX13 q0 v0)), ((q0 17), .inl (k14, 12, .inl f14)), ((q0 19), .inl (k15, 12, .inl f15)), ((q0 3), .inl (k3, 400, .inl f3)), ((q0 2), .inl (k2, 4800, .inl f2))] s.heap.size = A at hD hZ ⊢
  have hA : ∀ q : Nat, s.heap.size ≤ q → A q := fun q h => by rw [← hAe]; exact Or.inr h
  have hS : va_S A s.heap s.heap [] := va_S.rf
  have hl := lv_entry ([.ref h0]) (n := 2) (Nat.le_of_ble_eq_true rfl)
  rw [lg_entry_eq]
  generalize (lg_sl ([.ref h0]) ++ List.replicate (2 - (lg_sl ([.ref h0])).length) Slot.unset).toArray = ls at hl ⊢
  have hl : lv_has ls 2 [(0, .ref h0)] := hl
  have b_ := zk_m1
  have b_ := zk_0
  refine lv_aload_n hx hb dX13_lookedWord_0 rfl (lv_at hl 0 rfl) ?_
  have b_ : (-1) ≤ (v0 18).toInt ∧ (v0 18).toInt ≤ 12 := hv0 18
  refine va_get (D := (dC, dI)) (ci := 13) (v := .int (v0 18)) (C := RX13) (T := TX13) (N := 75) hx hb hG zuX13 hown hK hP 0 rfl rfl 18 (by decide) (hG _ zw655) (fun _ h9 => h9) rfl dX13_lookedWord_1 ?_
  refine lv_if_gt (tgt := 9) hx hb dX13_lookedWord_4 (by decide) (fun c_ => ?_) (fun c_ => ?_)
  · skip
    have b_ := zT_gt rfl zk_0 c_
    refine lv_aload_n hx hb dX13_lookedWord_9 rfl (lv_at hl 0 rfl) ?_
    refine lv_aload_n hx hb dX13_lookedWord_10 rfl (lv_at hl 0 rfl) ?_
    refine va_get (D := (dC, dI)) (ci := 13) (v := .int (v0 18)) (C := RX13) (T := TX13) (N := 75) hx hb hG zuX13 hown hK hP 0 rfl rfl 18 (by decide) (hG _ zw655) (fun _ h9 => h9) rfl dX13_lookedWord_11 ?_
    refine va_put (D := (dC, dI)) (ci := 13) (v := .int (v0 18)) (ty := .int) (C := RX13) (T := TX13) (N := 75) hx hb hG zuX13 tyX13 tyX13_ok nmX13 hown hK hP hD hS 0 rfl rfl 20 (by decide) (hG _ zw538) (fun _ h9 => h9) rfl (by decide +kernel) rfl rfl (Nat.le_of_ble_eq_true rfl) dX13_lookedWord_14 (fun H locs hP hD hS => ?_)
    have hP : va_P (dC, dI) vwCl [(h0, .inr (13, mX13 q0 (upd v0 20 (v0 18)))), ((q0 17), .inl (k14, 12, .inl f14)), ((q0 19), .inl (k15, 12, .inl f15)), ((q0 3), .inl (k3, 400, .inl f3)), ((q0 2), .inl (k2, 4800, .inl f2))] H := hP
    have hD : va_D A [(h0, .inr (13, mX13 q0 (upd v0 20 (v0 18)))), ((q0 17), .inl (k14, 12, .inl f14)), ((q0 19), .inl (k15, 12, .inl f15)), ((q0 3), .inl (k3, 400, .inl f3)), ((q0 2), .inl (k2, 4800, .inl f2))] := hD
    refine lv_iconst (v := 0) hx hb dX13_lookedWord_17 (by decide) ?_
    refine lv_istore_n (lv' := [(1, .int 0), (0, .ref h0)]) hx hb dX13_lookedWord_18 rfl hl (by decide) rfl (fun ls hl => ?_)
    refine zcutL (fun u19_ => (12 - (u19_ 0).toInt).toNat) (fun H locs ls u19_ w19_ a19_ b19_ => va_P (dC, dI) vwCl [(h0, .inr (13, mX13 q0 (upd v0 20 (v0 18)))), ((q0 17), .inl (k14, 12, .inl f14)), ((q0 19), .inl (k15, 12, .inl (a19_ 0))), ((q0 3), .inl (k3, 400, .inl f3)), ((q0 2), .inl (k2, 4800, .inl f2))] H ∧ va_D A [(h0, .inr (13, mX13 q0 (upd v0 20 (v0 18)))), ((q0 17), .inl (k14, 12, .inl f14)), ((q0 19), .inl (k15, 12, .inl (a19_ 0))), ((q0 3), .inl (k3, 400, .inl f3)), ((q0 2), .inl (k2, 4800, .inl f2))] ∧ va_S A s.heap H locs ∧ lv_has ls 2 [(0, .ref h0), (1, .int (u19_ 0))] ∧ (0 ≤ (u19_ 0).toInt ∧ (u19_ 0).toInt ≤ 12)) (fun ls u19_ w19_ => F0 m 19 ls []) 0 0 ?_ (fun hJ19 => ?_)
    · skip
      intro H locs ls u19_ w19_ a19_ b19_ hc hJ19
      obtain ⟨hP, hD, hS, hl, b_⟩ := hc
      refine lv_iload_n hx hb dX13_lookedWord_19 rfl (lv_at hl 1 rfl) ?_
      refine lv_aload_n hx hb dX13_lookedWord_20 rfl (lv_at hl 0 rfl) ?_
      refine va_get (D := (dC, dI)) (ci := 13) (v := .int (v0 18)) (C := RX13) (T := TX13) (N := 75) hx hb hG zuX13 hown hK hP 0 rfl rfl 20 (by decide) (hG _ zw538) (fun _ h9 => h9) rfl dX13_lookedWord_21 ?_
      refine lv_icmp_ge (tgt := 45) hx hb dX13_lookedWord_24 (by decide) (fun c_ => ?_) (fun c_ => ?_)
      · skip
        have b_ := zT_ge rfl rfl c_
        refine lv_aload_n hx hb dX13_lookedWord_45 rfl (lv_at hl 0 rfl) ?_
        have hPc := hP.sub (ws' := [(h0, .inr (13, mX13 q0 (upd v0 20 (v0 18)))), ((q0 3), .inl (k3, 400, .inl f3)), ((q0 2), .inl (k2, 4800, .inl f2)), ((q0 19), .inl (k15, 12, .inl (a19_ 0)))]) [0, 3, 4, 2] rfl
        have hDc := hD.sub (ws' := [(h0, .inr (13, mX13 q0 (upd v0 20 (v0 18)))), ((q0 3), .inl (k3, 400, .inl f3)), ((q0 2), .inl (k2, 4800, .inl f2)), ((q0 19), .inl (k15, 12, .inl (a19_ 0)))]) [0, 3, 4, 2] (by decide) rfl
        have hKc := hK.sub (tys' := [(k3, .int), (k2, .byte), (k15, .byte)]) [2, 3, 1] rfl
        have hFc := va_free (wc := [(h0, .inr (13, mX13 q0 (upd v0 20 (v0 18)))), ((q0 3), .inl (k3, 400, .inl f3)), ((q0 2), .inl (k2, 4800, .inl f2)), ((q0 19), .inl (k15, 12, .inl (a19_ 0)))]) hD hS hA [0, 3, 4, 2] rfl
        refine va_calli (va_runV (As := []) (rest := []) ⟨hx, hb, hml, hown, hG⟩ (sX13_find_0 l dC dI adK adV h0 q0 k3 k2 k15 H.size (upd v0 20 (v0 18)) f3 f2 (a19_ 0) (zR_upd hv0 20 (show (0 : Int) ≤ ((v0 18) : Int32).toInt from by omega) (show ((v0 18) : Int32).toInt ≤ (12 : Int) from by omega)) hf3) (cwV 0 hG (zgV zw618 zw619 zw620 zw524 zw621) rfl rfl rfl (by decide +kernel) ⟨Nat.le_of_ble_eq_true rfl, Nat.le_of_ble_eq_true rfl⟩) ⟨zPc_blind, va_recv hKc hPc (ci := 13) (q0 := 0) rfl rfl, zPc_pre hPc hKc hDc hE hS hFc hZ⟩ rfl rfl hl.1 rfl (lv_room (Nat.le_of_ble_eq_true rfl)) dX13_lookedWord_46 ⟨Nat.le_of_ble_eq_true rfl, Nat.le_of_ble_eq_true rfl⟩) hS (fun q _ h => hFc q h) hFc (fun r46_ u46_ t H1 locs ht hvm hw hB hz1 hk1 hS => ?_)
        have hw : ((-1) ≤ r46_.toInt ∧ r46_.toInt ≤ 399) ∧ (r46_.toInt < (v0 4).toInt) := hw
        obtain ⟨b_, hX46_0⟩ := hw
        obtain ⟨w46_, a46_, b46_, hP1, hK1, hD1⟩ := hB
        rw [ht] at hP1
        obtain ⟨hP, hD⟩ := va_join (wr := [((q0 17), .inl (k14, 12, .inl f14))]) (w1 := [(h0, .inr (13, mX13 q0 (upd v0 20 (v0 18)))), ((q0 3), .inl (k3, 400, .inl f3)), ((q0 2), .inl (k2, 4800, .inl f2)), ((q0 19), .inl (k15, 12, .inl (a19_ 0)))]) hP hD [0, 3, 4, 2] [1] rfl rfl (by decide) (by decide) hk1 hFc hP1 hD1
        have hP : va_P (dC, dI) vwCl [(h0, .inr (13, mX13 q0 (upd v0 20 (v0 18)))), ((q0 17), .inl (k14, 12, .inl f14)), ((q0 19), .inl (k15, 12, .inl (a19_ 0))), ((q0 3), .inl (k3, 400, .inl f3)), ((q0 2), .inl (k2, 4800, .inl f2))] H1 := hP.sub [1, 0, 4, 2, 3] rfl
        have hD : va_D A [(h0, .inr (13, mX13 q0 (upd v0 20 (v0 18)))), ((q0 17), .inl (k14, 12, .inl f14)), ((q0 19), .inl (k15, 12, .inl (a19_ 0))), ((q0 3), .inl (k3, 400, .inl f3)), ((q0 2), .inl (k2, 4800, .inl f2))] := hD.sub [1, 0, 4, 2, 3] (by decide) rfl
        generalize H1 = H at hP hS ⊢
        clear hz1
        refine W.widen (k := 0) (n := 0) (by decide) (by decide) ?_
        have hpost : ((-1) ≤ r46_.toInt ∧ r46_.toInt ≤ 399) ∧ (0 ≤ (v0 18).toInt ∧ (v0 18).toInt ≤ 12) := ⟨⟨by omega, by omega⟩, ⟨by omega, by omega⟩⟩
        have hP9 : va_P (dC, dI) vwCl [(h0, .inr (13, mX13 q0 (upd v0 20 (v0 18)))), ((q0 17), .inl (k14, 12, .inl f14)), ((q0 19), .inl (k15, 12, .inl (a19_ 0))), ((q0 3), .inl (k3, 400, .inl f3)), ((q0 2), .inl (k2, 4800, .inl f2))] H := hP
        have hD9 : va_D A [(h0, .inr (13, mX13 q0 (upd v0 20 (v0 18)))), ((q0 17), .inl (k14, 12, .inl f14)), ((q0 19), .inl (k15, 12, .inl (a19_ 0))), ((q0 3), .inl (k3, 400, .inl f3)), ((q0 2), .inl (k2, 4800, .inl f2))] := hD
        exact W.iret (v := r46_) hx hb hr (fun t ht hW => ⟨⟨r46_, (fun i => ([(v0 18)] : List (Int32)).getD i 0), rfl, hpost, (fun _ => 0), (fun i => ([(a19_ 0)] : List (Nat → Int32)).getD i (fun _ => 0)), (fun _ => (fun _ => 0)), by rw [ht]; exact hP9, va_K.moved hW.alike hK, hD9⟩, hS.F ht⟩) hS.2.2 dX13_lookedWord_49
      · skip
        have b_ := zF_ge rfl rfl c_
        refine lv_aload_n hx hb dX13_lookedWord_27 rfl (lv_at hl 0 rfl) ?_
        refine va_get (D := (dC, dI)) (ci := 13) (v := .ref (q0 19)) (C := RX13) (T := TX13) (N := 75) hx hb hG zuX13 hown hK hP 0 rfl rfl 19 (by decide) (hG _ zw539) (fun _ h9 => h9) rfl dX13_lookedWord_28 ?_
        refine lv_iload_n hx hb dX13_lookedWord_31 rfl (lv_at hl 1 rfl) ?_
        refine lv_aload_n hx hb dX13_lookedWord_32 rfl (lv_at hl 0 rfl) ?_
        refine va_get (D := (dC, dI)) (ci := 13) (v := .ref (q0 17)) (C := RX13) (T := TX13) (N := 75) hx hb hG zuX13 hown hK hP 0 rfl rfl 17 (by decide) (hG _ zw656) (fun _ h9 => h9) rfl dX13_lookedWord_33 ?_
        refine lv_iload_n hx hb dX13_lookedWord_36 rfl (lv_at hl 1 rfl) ?_
        refine va_bald hx hb hK hP 1 0 rfl rfl (zin_lit ⟨by omega, by omega⟩) dX13_lookedWord_37 ?_
        refine lv_topi (fun z37 e_z37 => ?_)
        refine va_bast hx hb hK hP hD hS 2 1 rfl rfl (zin_lit ⟨by omega, by omega⟩) dX13_lookedWord_38 (fun H locs hP hD hS => ?_)
        obtain ⟨f_38, e_f_38⟩ : ∃ z : Nat → Int32, z = upd (a19_ 0) ((u19_ 0) : Int32).toNatClampNeg (vp_nar .byte z37) := ⟨_, rfl⟩
        have hP : va_P (dC, dI) vwCl [(h0, .inr (13, mX13 q0 (upd v0 20 (v0 18)))), ((q0 17), .inl (k14, 12, .inl f14)), ((q0 19), .inl (k15, 12, .inl f_38)), ((q0 3), .inl (k3, 400, .inl f3)), ((q0 2), .inl (k2, 4800, .inl f2))] H := by rw [e_f_38]; exact hP
        have hD : va_D A [(h0, .inr (13, mX13 q0 (upd v0 20 (v0 18)))), ((q0 17), .inl (k14, 12, .inl f14)), ((q0 19), .inl (k15, 12, .inl f_38)), ((q0 3), .inl (k3, 400, .inl f3)), ((q0 2), .inl (k2, 4800, .inl f2))] := by rw [e_f_38]; exact hD
        obtain ⟨z39, e_z39⟩ : ∃ z : Int32, z = (u19_ 0) + Int32.ofInt 1 := ⟨_, rfl⟩
        have b_ := zadd (x := (u19_ 0)) (y := Int32.ofInt 1) rfl (show (Int32.ofInt 1).toInt = 1 from by decide) e_z39 (by omega) (by omega)
        refine lv_iinc (v := z39) (lv' := [(1, .int z39), (0, .ref h0)]) hx hb dX13_lookedWord_39 hl (k := 1) rfl e_z39.symm (by decide) rfl (fun ls hl => ?_)
        refine lv_goto (tgt := 19) hx hb dX13_lookedWord_42 (by decide) ?_
        have hc : va_P (dC, dI) vwCl [(h0, .inr (13, mX13 q0 (upd v0 20 (v0 18)))), ((q0 17), .inl (k14, 12, .inl f14)), ((q0 19), .inl (k15, 12, .inl f_38)), ((q0 3), .inl (k3, 400, .inl f3)), ((q0 2), .inl (k2, 4800, .inl f2))] H ∧ va_D A [(h0, .inr (13, mX13 q0 (upd v0 20 (v0 18)))), ((q0 17), .inl (k14, 12, .inl f14)), ((q0 19), .inl (k15, 12, .inl f_38)), ((q0 3), .inl (k3, 400, .inl f3)), ((q0 2), .inl (k2, 4800, .inl f2))] ∧ va_S A s.heap H locs ∧ lv_has ls 2 [(0, .ref h0), (1, .int z39)] ∧ (0 ≤ z39.toInt ∧ z39.toInt ≤ 12) := ⟨hP, hD, hS, lv_sub hl [1, 0] rfl, ⟨by omega, by omega⟩⟩
        exact hJ19 H locs ls (fun i => ([z39] : List (Int32)).getD i 0) (fun _ => 0) (fun i => ([f_38] : List (Nat → Int32)).getD i (fun _ => 0)) (fun _ => (fun _ => 0)) hc (show (12 - z39.toInt).toNat < (12 - (u19_ 0).toInt).toNat from by omega)
    · skip
      have hc : va_P (dC, dI) vwCl [(h0, .inr (13, mX13 q0 (upd v0 20 (v0 18)))), ((q0 17), .inl (k14, 12, .inl f14)), ((q0 19), .inl (k15, 12, .inl f15)), ((q0 3), .inl (k3, 400, .inl f3)), ((q0 2), .inl (k2, 4800, .inl f2))] H ∧ va_D A [(h0, .inr (13, mX13 q0 (upd v0 20 (v0 18)))), ((q0 17), .inl (k14, 12, .inl f14)), ((q0 19), .inl (k15, 12, .inl f15)), ((q0 3), .inl (k3, 400, .inl f3)), ((q0 2), .inl (k2, 4800, .inl f2))] ∧ va_S A s.heap H locs ∧ lv_has ls 2 [(0, .ref h0), (1, .int 0)] ∧ (0 ≤ (0 : Int32).toInt ∧ (0 : Int32).toInt ≤ 12) := ⟨hP, hD, hS, lv_sub hl [1, 0] rfl, ⟨by omega, by omega⟩⟩
      exact hJ19 H locs ls (fun i => ([0] : List (Int32)).getD i 0) (fun _ => 0) (fun i => ([f15] : List (Nat → Int32)).getD i (fun _ => 0)) (fun _ => (fun _ => 0)) hc
  · skip
    have b_ := zF_gt rfl zk_0 c_
    refine lv_iconst (v := (-1)) hx hb dX13_lookedWord_7 (by decide) ?_
    refine W.widen (k := 0) (n := 0) (by decide) (by decide) ?_
    have b_ : 0 ≤ (v0 20).toInt ∧ (v0 20).toInt ≤ 12 := hv0 20
    have hpost : ((-1) ≤ ((-1) : Int32).toInt ∧ ((-1) : Int32).toInt ≤ 399) ∧ (0 ≤ (v0 20).toInt ∧ (v0 20).toInt ≤ 12) := ⟨⟨by omega, by omega⟩, ⟨by omega, by omega⟩⟩
    have hP9 : va_P (dC, dI) vwCl [(h0, .inr (13, mX13 q0 (upd v0 20 (v0 20)))), ((q0 17), .inl (k14, 12, .inl f14)), ((q0 19), .inl (k15, 12, .inl f15)), ((q0 3), .inl (k3, 400, .inl f3)), ((q0 2), .inl (k2, 4800, .inl f2))] s.heap := hP
    have hD9 : va_D A [(h0, .inr (13, mX13 q0 (upd v0 20 (v0 20)))), ((q0 17), .inl (k14, 12, .inl f14)), ((q0 19), .inl (k15, 12, .inl f15)), ((q0 3), .inl (k3, 400, .inl f3)), ((q0 2), .inl (k2, 4800, .inl f2))] := hD
    exact W.iret (v := (-1)) hx hb hr (fun t ht hW => ⟨⟨(-1), (fun i => ([(v0 20)] : List (Int32)).getD i 0), rfl, hpost, (fun _ => 0), (fun i => ([f15] : List (Nat → Int32)).getD i (fun _ => 0)), (fun _ => (fun _ => 0)), by rw [ht]; exact hP9, va_K.moved hW.alike hK, hD9⟩, hS.F ht⟩) hS.2.2 dX13_lookedWord_8
set_option maxHeartbeats 8000000 in
set_option maxRecDepth 100000 in
theorem sX13_look_0 (l : Launch) (dC : Nat → ClassId) (dI : Nat → Nat → Nat) (adK adV : Nat → Nat) (h0 : Nat) (q0 : Nat → Nat) (k1 : ClassId) (k15 : ClassId) (k14 : ClassId) (k3 : ClassId) (k2 : ClassId) (k6 : ClassId) (k10 : ClassId) (k4 : ClassId) (k11 : ClassId) (sz : Nat) (v0 : Nat → Int32) (f1 : Nat → Int32) (f15 : Nat → Int32) (f14 : Nat → Int32) (f3 : Nat → Int32) (f2 : Nat → Int32) (f6 : Nat → Int32) (f10 : Nat → Int32) (f4 : Nat → Int32) (f11 : Nat → Int32) (hv0 : zR rg_Model v0) (hf3 : zA 0 12 f3) (hf10 : zA 0 512 f10) (hf4 : zA 0 400 f4) (hf11 : zA 0 512 f11) : Met l yX13_look (zw yX13_look cX13_look 2 (some .int)) { frames := 5, cells := 0, slots := 0, locals := 108 } (zPc dC dI adK adV [.ref h0] sz [(h0, .inr (13, mX13 q0 v0)), ((q0 0), .inl (k1, 600, .inl f1)), ((q0 19), .inl (k15, 12, .inl f15)), ((q0 17), .inl (k14, 12, .inl f14)), ((q0 3), .inl (k3, 400, .inl f3)), ((q0 2), .inl (k2, 4800, .inl f2)), ((q0 7), .inl (k6, 120, .inl f6)), ((q0 11), .inl (k10, 120, .inl f10)), ((q0 5), .inl (k4, 122880, .inl f4)), ((q0 12), .inl (k11, 120, .inl f11))] [(k1, .byte), (k15, .byte), (k14, .byte), (k3, .int), (k2, .byte), (k6, .boolean), (k10, .int), (k4, .short), (k11, .int)]) (va_Qi (fun (r : Int32) (u : Nat → Int32) => (0 ≤ (u 0).toInt ∧ (u 0).toInt ≤ 0) ∧ (0 ≤ (u 1).toInt ∧ (u 1).toInt ≤ 12) ∧ (0 ≤ (u 2).toInt ∧ (u 2).toInt ≤ 12) ∧ (0 ≤ (u 3).toInt ∧ (u 3).toInt ≤ 0)) (fun (u : Nat → Int32) (t : State) => ∃ (ww : Nat → Int64) (aa : Nat → Nat → Int32) (bb : Nat → Nat → Int64), va_P (dC, dI) vwCl [(h0, .inr (13, mX13 q0 (upd (upd (upd (upd v0 1 (u 0)) 18 (u 1)) 20 (u 2)) 21 (u 3)))), ((q0 0), .inl (k1, 600, .inl f1)), ((q0 19), .inl (k15, 12, .inl (aa 0))), ((q0 17), .inl (k14, 12, .inl (aa 1))), ((q0 3), .inl (k3, 400, .inl f3)), ((q0 2), .inl (k2, 4800, .inl f2)), ((q0 7), .inl (k6, 120, .inl f6)), ((q0 11), .inl (k10, 120, .inl f10)), ((q0 5), .inl (k4, 122880, .inl f4)), ((q0 12), .inl (k11, 120, .inl f11))] t.heap ∧ va_K (dC, dI) vwCl [(k1, .byte), (k15, .byte), (k14, .byte), (k3, .int), (k2, .byte), (k6, .boolean), (k10, .int), (k4, .short), (k11, .int)] t ∧ va_D (va_A [(h0, .inr (13, mX13 q0 v0)), ((q0 0), .inl (k1, 600, .inl f1)), ((q0 19), .inl (k15, 12, .inl f15)), ((q0 17), .inl (k14, 12, .inl f14)), ((q0 3), .inl (k3, 400, .inl f3)), ((q0 2), .inl (k2, 4800, .inl f2)), ((q0 7), .inl (k6, 120, .inl f6)), ((q0 11), .inl (k10, 120, .inl f10)), ((q0 5), .inl (k4, 122880, .inl f4)), ((q0 12), .inl (k11, 120, .inl f11))] sz) [(h0, .inr (13, mX13 q0 (upd (upd (upd (upd v0 1 (u 0)) 18 (u 1)) 20 (u 2)) 21 (u 3)))), ((q0 0), .inl (k1, 600, .inl f1)), ((q0 19), .inl (k15, 12, .inl (aa 0))), ((q0 17), .inl (k14, 12, .inl (aa 1))), ((q0 3), .inl (k3, 400, .inl f3)), ((q0 2), .inl (k2, 4800, .inl f2)), ((q0 7), .inl (k6, 120, .inl f6)), ((q0 11), .inl (k10, 120, .inl f10)), ((q0 5), .inl (k4, 122880, .inl f4)), ((q0 12), .inl (k11, 120, .inl f11))]) (va_A [(h0, .inr (13, mX13 q0 v0)), ((q0 0), .inl (k1, 600, .inl f1)), ((q0 19), .inl (k15, 12, .inl f15)), ((q0 17), .inl (k14, 12, .inl f14)), ((q0 3), .inl (k3, 400, .inl f3)), ((q0 2), .inl (k2, 4800, .inl f2)), ((q0 7), .inl (k6, 120, .inl f6)), ((q0 11), .inl (k10, 120, .inl f10)), ((q0 5), .inl (k4, 122880, .inl f4)), ((q0 12), .inl (k11, 120, .inl f11))] sz)) 0 0 (va_A [(h0, .inr (13, mX13 q0 v0)), ((q0 0), .inl (k1, 600, .inl f1)), ((q0 19), .inl (k15, 12, .inl f15)), ((q0 17), .inl (k14, 12, .inl f14)), ((q0 3), .inl (k3, 400, .inl f3)), ((q0 2), .inl (k2, 4800, .inl f2)), ((q0 7), .inl (k6, 120, .inl f6)), ((q0 11), .inl (k10, 120, .inl f10)), ((q0 5), .inl (k4, 122880, .inl f4)), ((q0 12), .inl (k11, 120, .inl f11))] sz) := by
  refine Met.ofW (cc := cX13_look) (maxL := 2) (ret := (some .int)) (by decide) rfl ?_
  intro p e s m args below meth c s₁ B hml hv
  obtain ⟨rfl, hsz, hP, hK, hD0, hE, hZ⟩ := hv
  have hx := B.exec
  have hb := B.bytes
  have hr := B.returns
  have hG : ∀ w ∈ zG, w.before _ s = true := fun w h => atoms_spec (ws := (zw yX13_look cX13_look 2 (some .int))) B.pre w (List.mem_cons_of_mem _ h)
  have hown : s.vm.findClass RX13 = some m.cls := findClass_of_methodNamed B.named
  have hlocks := B.notSynchronized
  subst hsz
  have hD := hD0.self (sz := s.heap.size)
  generalize hAe : va_A [(h0, .inr (13, mX13 q0 v0)), ((q0 0), .inl (k1, 600, .inl f1)), ((q0 19), .inl (k15, 12, .inl f15)), ((q0 17), .inl (k14, 12, .inl f14)), ((q0 3), .inl (k3, 400, .inl f3)), ((q0 2), .inl (k2, 4800, .inl f2)), ((q0 7), .inl (k6, 120, .inl f6)), ((q0 11), .inl (k10, 120, .inl f10)), ((q0 5), .inl (k4, 122880, .inl f4)), ((q0 12), .inl (k11, 120, .inl f11))] s.heap.size = A at hD hZ ⊢
  have hA : ∀ q : Nat, s.heap.size ≤ q → A q := fun q h => by rw [← hAe]; exact Or.inr h
  have hS : va_S A s.heap s.heap [] := va_S.rf
  have hl := lv_entry ([.ref h0]) (n := 2) (Nat.le_of_ble_eq_true rfl)
  rw [lg_entry_eq]
  generalize (lg_sl ([.ref h0]) ++ List.replicate (2 - (lg_sl ([.ref h0])).length) Slot.unset).toArray = ls at hl ⊢
  have hl : lv_has ls 2 [(0, .ref h0)] := hl
  have b_ := zk_0
  refine lv_aload_n hx hb dX13_look_0 rfl (lv_at hl 0 rfl) ?_
  refine lv_iconst (v := 0) hx hb dX13_look_1 (by decide) ?_
  refine va_put (D := (dC, dI)) (ci := 13) (v := .int 0) (ty := .int) (C := RX13) (T := TX13) (N := 75) hx hb hG zuX13 tyX13 tyX13_ok nmX13 hown hK hP hD hS 0 rfl rfl 21 (by decide) (hG _ zw518) (fun _ h9 => h9) rfl (by decide +kernel) rfl rfl (Nat.le_of_ble_eq_true rfl) dX13_look_2 (fun H locs hP hD hS => ?_)
  have hP : va_P (dC, dI) vwCl [(h0, .inr (13, mX13 q0 (upd v0 21 0))), ((q0 0), .inl (k1, 600, .inl f1)), ((q0 19), .inl (k15, 12, .inl f15)), ((q0 17), .inl (k14, 12, .inl f14)), ((q0 3), .inl (k3, 400, .inl f3)), ((q0 2), .inl (k2, 4800, .inl f2)), ((q0 7), .inl (k6, 120, .inl f6)), ((q0 11), .inl (k10, 120, .inl f10)), ((q0 5), .inl (k4, 122880, .inl f4)), ((q0 12), .inl (k11, 120, .inl f11))] H := hP
  have hD : va_D A [(h0, .inr (13, mX13 q0 (upd v0 21 0))), ((q0 0), .inl (k1, 600, .inl f1)), ((q0 19), .inl (k15, 12, .inl f15)), ((q0 17), .inl (k14, 12, .inl f14)), ((q0 3), .inl (k3, 400, .inl f3)), ((q0 2), .inl (k2, 4800, .inl f2)), ((q0 7), .inl (k6, 120, .inl f6)), ((q0 11), .inl (k10, 120, .inl f10)), ((q0 5), .inl (k4, 122880, .inl f4)), ((q0 12), .inl (k11, 120, .inl f11))] := hD
  refine lv_aload_n hx hb dX13_look_5 rfl (lv_at hl 0 rfl) ?_
  have hPc := hP.sub (ws' := [(h0, .inr (13, mX13 q0 (upd v0 21 0))), ((q0 0), .inl (k1, 600, .inl f1)), ((q0 19), .inl (k15, 12, .inl f15))]) [0, 1, 2] rfl
  have hDc := hD.sub (ws' := [(h0, .inr (13, mX13 q0 (upd v0 21 0))), ((q0 0), .inl (k1, 600, .inl f1)), ((q0 19), .inl (k15, 12, .inl f15))]) [0, 1, 2] (by decide) rfl
  have hKc := hK.sub (tys' := [(k1, .byte), (k15, .byte)]) [0, 1] rfl
  have hFc := va_free (wc := [(h0, .inr (13, mX13 q0 (upd v0 21 0))), ((q0 0), .inl (k1, 600, .inl f1)), ((q0 19), .inl (k15, 12, .inl f15))]) hD hS hA [0, 1, 2] rfl
  refine va_calli (va_runV (As := []) (rest := []) ⟨hx, hb, hml, hown, hG⟩ (sX13_takesToken_0 l dC dI adK adV h0 q0 k1 k15 H.size (upd v0 21 0) f1 f15 (zR_updF hv0 21 rfl)) (cwV 0 hG (zgV zw647 zw648 zw649 zw524 zw650) rfl rfl rfl (by decide +kernel) ⟨Nat.le_of_ble_eq_true rfl, Nat.le_of_ble_eq_true rfl⟩) ⟨zPc_blind, va_recv hKc hPc (ci := 13) (q0 := 0) rfl rfl, zPc_pre hPc hKc hDc hE hS hFc hZ⟩ rfl rfl hl.1 rfl (lv_room (Nat.le_of_ble_eq_true rfl)) dX13_look_6 ⟨Nat.le_of_ble_eq_true rfl, Nat.le_of_ble_eq_true rfl⟩) hS (fun q _ h => hFc q h) hFc (fun r6_ u6_ t H1 locs ht hvm hw hB hz1 hk1 hS => ?_)
  have hw : (0 ≤ r6_.toInt ∧ r6_.toInt ≤ 1) ∧ (0 ≤ (u6_ 0).toInt ∧ (u6_ 0).toInt ≤ 0) ∧ (0 ≤ (u6_ 1).toInt ∧ (u6_ 1).toInt ≤ 12) := hw
  obtain ⟨b_, b_, b_⟩ := hw
  obtain ⟨w6_, a6_, b6_, hP1, hK1, hD1⟩ := hB
  rw [ht] at hP1
  obtain ⟨hP, hD⟩ := va_join (wr := [((q0 17), .inl (k14, 12, .inl f14)), ((q0 3), .inl (k3, 400, .inl f3)), ((q0 2), .inl (k2, 4800, .inl f2)), ((q0 7), .inl (k6, 120, .inl f6)), ((q0 11), .inl (k10, 120, .inl f10)), ((q0 5), .inl (k4, 122880, .inl f4)), ((q0 12), .inl (k11, 120, .inl f11))]) (w1 := [(h0, .inr (13, mX13 q0 (upd (upd (upd v0 1 (u6_ 0)) 20 (u6_ 1)) 21 0))), ((q0 0), .inl (k1, 600, .inl f1)), ((q0 19), .inl (k15, 12, .inl (a6_ 0)))]) hP hD [0, 1, 2] [3, 4, 5, 6, 7, 8, 9] rfl rfl (by decide) (by decide) hk1 hFc hP1 hD1
  have hP : va_P (dC, dI) vwCl [(h0, .inr (13, mX13 q0 (upd (upd (upd v0 1 (u6_ 0)) 20 (u6_ 1)) 21 0))), ((q0 0), .inl (k1, 600, .inl f1)), ((q0 19), .inl (k15, 12, .inl (a6_ 0))), ((q0 17), .inl (k14, 12, .inl f14)), ((q0 3), .inl (k3, 400, .inl f3)), ((q0 2), .inl (k2, 4800, .inl f2)), ((q0 7), .inl (k6, 120, .inl f6)), ((q0 11), .inl (k10, 120, .inl f10)), ((q0 5), .inl (k4, 122880, .inl f4)), ((q0 12), .inl (k11, 120, .inl f11))] H1 := hP.sub [7, 8, 9, 0, 1, 2, 3, 4, 5, 6] rfl
  have hD : va_D A [(h0, .inr (13, mX13 q0 (upd (upd (upd v0 1 (u6_ 0)) 20 (u6_ 1)) 21 0))), ((q0 0), .inl (k1, 600, .inl f1)), ((q0 19), .inl (k15, 12, .inl (a6_ 0))), ((q0 17), .inl (k14, 12, .inl f14)), ((q0 3), .inl (k3, 400, .inl f3)), ((q0 2), .inl (k2, 4800, .inl f2)), ((q0 7), .inl (k6, 120, .inl f6)), ((q0 11), .inl (k10, 120, .inl f10)), ((q0 5), .inl (k4, 122880, .inl f4)), ((q0 12), .inl (k11, 120, .inl f11))] := hD.sub [7, 8, 9, 0, 1, 2, 3, 4, 5, 6] (by decide) rfl
  generalize H1 = H at hP hS ⊢
  clear hz1
  refine lv_if_ne (tgt := 19) hx hb dX13_look_9 (by decide) (fun c_ => ?_) (fun c_ => ?_)
  · skip
    have b_ := zT_ne rfl zk_0 c_
    refine lv_aload_n hx hb dX13_look_19 rfl (lv_at hl 0 rfl) ?_
    have hPc := hP.sub (ws' := [(h0, .inr (13, mX13 q0 (upd (upd (upd v0 1 (u6_ 0)) 20 (u6_ 1)) 21 0))), ((q0 19), .inl (k15, 12, .inl (a6_ 0))), ((q0 17), .inl (k14, 12, .inl f14))]) [0, 2, 3] rfl
    have hDc := hD.sub (ws' := [(h0, .inr (13, mX13 q0 (upd (upd (upd v0 1 (u6_ 0)) 20 (u6_ 1)) 21 0))), ((q0 19), .inl (k15, 12, .inl (a6_ 0))), ((q0 17), .inl (k14, 12, .inl f14))]) [0, 2, 3] (by decide) rfl
    have hKc := hK.sub (tys' := [(k15, .byte), (k14, .byte)]) [1, 2] rfl
    have hFc := va_free (wc := [(h0, .inr (13, mX13 q0 (upd (upd (upd v0 1 (u6_ 0)) 20 (u6_ 1)) 21 0))), ((q0 19), .inl (k15, 12, .inl (a6_ 0))), ((q0 17), .inl (k14, 12, .inl f14))]) hD hS hA [0, 2, 3] rfl
    refine va_callv (va_runV (As := []) (rest := []) ⟨hx, hb, hml, hown, hG⟩ (sX13_lookAt_0 l dC dI adK adV h0 q0 k15 k14 H.size (upd (upd (upd v0 1 (u6_ 0)) 20 (u6_ 1)) 21 0) (a6_ 0) f14 (zR_updF (zR_upd (zR_upd hv0 1 (show (0 : Int) ≤ ((u6_ 0) : Int32).toInt from by omega) (show ((u6_ 0) : Int32).toInt ≤ (600 : Int) from by omega)) 20 (show (0 : Int) ≤ ((u6_ 1) : Int32).toInt from by omega) (show ((u6_ 1) : Int32).toInt ≤ (12 : Int) from by omega)) 21 rfl)) (cwV 0 hG (zgV zw657 zw658 zw659 zw524 zw660) rfl rfl rfl (by decide +kernel) ⟨Nat.le_of_ble_eq_true rfl, Nat.le_of_ble_eq_true rfl⟩) ⟨zPc_blind, va_recv hKc hPc (ci := 13) (q0 := 0) rfl rfl, zPc_pre hPc hKc hDc hE hS hFc hZ⟩ rfl rfl hl.1 rfl (lv_room (Nat.le_of_ble_eq_true rfl)) dX13_look_20 ⟨Nat.le_of_ble_eq_true rfl, Nat.le_of_ble_eq_true rfl⟩) hS (fun q _ h => hFc q h) hFc (fun u20_ t H1 locs ht hvm hw hB hz1 hk1 hS => ?_)
    have hw : (0 ≤ (u20_ 0).toInt ∧ (u20_ 0).toInt ≤ 12) := hw
    have b_ := hw
    obtain ⟨w20_, a20_, b20_, hP1, hK1, hD1⟩ := hB
    rw [ht] at hP1
    obtain ⟨hP, hD⟩ := va_join (wr := [((q0 0), .inl (k1, 600, .inl f1)), ((q0 3), .inl (k3, 400, .inl f3)), ((q0 2), .inl (k2, 4800, .inl f2)), ((q0 7), .inl (k6, 120, .inl f6)), ((q0 11), .inl (k10, 120, .inl f10)), ((q0 5), .inl (k4, 122880, .inl f4)), ((q0 12), .inl (k11, 120, .inl f11))]) (w1 := [(h0, .inr (13, mX13 q0 (upd (upd (upd (upd v0 1 (u6_ 0)) 18 (u20_ 0)) 20 (u6_ 1)) 21 0))), ((q0 19), .inl (k15, 12, .inl (a6_ 0))), ((q0 17), .inl (k14, 12, .inl (a20_ 0)))]) hP hD [0, 2, 3] [1, 4, 5, 6, 7, 8, 9] rfl rfl (by decide) (by decide) hk1 hFc hP1 hD1
    have hP : va_P (dC, dI) vwCl [(h0, .inr (13, mX13 q0 (upd (upd (upd (upd v0 1 (u6_ 0)) 18 (u20_ 0)) 20 (u6_ 1)) 21 0))), ((q0 0), .inl (k1, 600, .inl f1)), ((q0 19), .inl (k15, 12, .inl (a6_ 0))), ((q0 17), .inl (k14, 12, .inl (a20_ 0))), ((q0 3), .inl (k3, 400, .inl f3)), ((q0 2), .inl (k2, 4800, .inl f2)), ((q0 7), .inl (k6, 120, .inl f6)), ((q0 11), .inl (k10, 120, .inl f10)), ((q0 5), .inl (k4, 122880, .inl f4)), ((q0 12), .inl (k11, 120, .inl f11))] H1 := hP.sub [7, 0, 8, 9, 1, 2, 3, 4, 5, 6] rfl
    have hD : va_D A [(h0, .inr (13, mX13 q0 (upd (upd (upd (upd v0 1 (u6_ 0)) 18 (u20_ 0)) 20 (u6_ 1)) 21 0))), ((q0 0), .inl (k1, 600, .inl f1)), ((q0 19), .inl (k15, 12, .inl (a6_ 0))), ((q0 17), .inl (k14, 12, .inl (a20_ 0))), ((q0 3), .inl (k3, 400, .inl f3)), ((q0 2), .inl (k2, 4800, .inl f2)), ((q0 7), .inl (k6, 120, .inl f6)), ((q0 11), .inl (k10, 120, .inl f10)), ((q0 5), .inl (k4, 122880, .inl f4)), ((q0 12), .inl (k11, 120, .inl f11))] := hD.sub [7, 0, 8, 9, 1, 2, 3, 4, 5, 6] (by decide) rfl
    generalize H1 = H at hP hS ⊢
    clear hz1
    refine lv_aload_n hx hb dX13_look_23 rfl (lv_at hl 0 rfl) ?_
    have hPc := hP.sub (ws' := [(h0, .inr (13, mX13 q0 (upd (upd (upd (upd v0 1 (u6_ 0)) 18 (u20_ 0)) 20 (u6_ 1)) 21 0))), ((q0 3), .inl (k3, 400, .inl f3)), ((q0 2), .inl (k2, 4800, .inl f2)), ((q0 19), .inl (k15, 12, .inl (a6_ 0)))]) [0, 4, 5, 2] rfl
    have hDc := hD.sub (ws' := [(h0, .inr (13, mX13 q0 (upd (upd (upd (upd v0 1 (u6_ 0)) 18 (u20_ 0)) 20 (u6_ 1)) 21 0))), ((q0 3), .inl (k3, 400, .inl f3)), ((q0 2), .inl (k2, 4800, .inl f2)), ((q0 19), .inl (k15, 12, .inl (a6_ 0)))]) [0, 4, 5, 2] (by decide) rfl
    have hKc := hK.sub (tys' := [(k3, .int), (k2, .byte), (k15, .byte)]) [3, 4, 1] rfl
    have hFc := va_free (wc := [(h0, .inr (13, mX13 q0 (upd (upd (upd (upd v0 1 (u6_ 0)) 18 (u20_ 0)) 20 (u6_ 1)) 21 0))), ((q0 3), .inl (k3, 400, .inl f3)), ((q0 2), .inl (k2, 4800, .inl f2)), ((q0 19), .inl (k15, 12, .inl (a6_ 0)))]) hD hS hA [0, 4, 5, 2] rfl
    refine va_calli (va_runV (As := []) (rest := []) ⟨hx, hb, hml, hown, hG⟩ (sX13_find_0 l dC dI adK adV h0 q0 k3 k2 k15 H.size (upd (upd (upd (upd v0 1 (u6_ 0)) 18 (u20_ 0)) 20 (u6_ 1)) 21 0) f3 f2 (a6_ 0) (zR_updF (zR_upd (zR_upd (zR_upd hv0 1 (show (0 : Int) ≤ ((u6_ 0) : Int32).toInt from by omega) (show ((u6_ 0) : Int32).toInt ≤ (600 : Int) from by omega)) 18 (show ((-1) : Int) ≤ ((u20_ 0) : Int32).toInt from by omega) (show ((u20_ 0) : Int32).toInt ≤ (12 : Int) from by omega)) 20 (show (0 : Int) ≤ ((u6_ 1) : Int32).toInt from by omega) (show ((u6_ 1) : Int32).toInt ≤ (12 : Int) from by omega)) 21 rfl) hf3) (cwV 0 hG (zgV zw618 zw619 zw620 zw524 zw621) rfl rfl rfl (by decide +kernel) ⟨Nat.le_of_ble_eq_true rfl, Nat.le_of_ble_eq_true rfl⟩) ⟨zPc_blind, va_recv hKc hPc (ci := 13) (q0 := 0) rfl rfl, zPc_pre hPc hKc hDc hE hS hFc hZ⟩ rfl rfl hl.1 rfl (lv_room (Nat.le_of_ble_eq_true rfl)) dX13_look_24 ⟨Nat.le_of_ble_eq_true rfl, Nat.le_of_ble_eq_true rfl⟩) hS (fun q _ h => hFc q h) hFc (fun r24_ u24_ t H1 locs ht hvm hw hB hz1 hk1 hS => ?_)
    have hw : ((-1) ≤ r24_.toInt ∧ r24_.toInt ≤ 399) ∧ (r24_.toInt < (v0 4).toInt) := hw
    obtain ⟨b_, hX24_0⟩ := hw
    obtain ⟨w24_, a24_, b24_, hP1, hK1, hD1⟩ := hB
    rw [ht] at hP1
    obtain ⟨hP, hD⟩ := va_join (wr := [((q0 0), .inl (k1, 600, .inl f1)), ((q0 17), .inl (k14, 12, .inl (a20_ 0))), ((q0 7), .inl (k6, 120, .inl f6)), ((q0 11), .inl (k10, 120, .inl f10)), ((q0 5), .inl (k4, 122880, .inl f4)), ((q0 12), .inl (k11, 120, .inl f11))]) (w1 := [(h0, .inr (13, mX13 q0 (upd (upd (upd (upd v0 1 (u6_ 0)) 18 (u20_ 0)) 20 (u6_ 1)) 21 0))), ((q0 3), .inl (k3, 400, .inl f3)), ((q0 2), .inl (k2, 4800, .inl f2)), ((q0 19), .inl (k15, 12, .inl (a6_ 0)))]) hP hD [0, 4, 5, 2] [1, 3, 6, 7, 8, 9] rfl rfl (by decide) (by decide) hk1 hFc hP1 hD1
    have hP : va_P (dC, dI) vwCl [(h0, .inr (13, mX13 q0 (upd (upd (upd (upd v0 1 (u6_ 0)) 18 (u20_ 0)) 20 (u6_ 1)) 21 0))), ((q0 0), .inl (k1, 600, .inl f1)), ((q0 19), .inl (k15, 12, .inl (a6_ 0))), ((q0 17), .inl (k14, 12, .inl (a20_ 0))), ((q0 3), .inl (k3, 400, .inl f3)), ((q0 2), .inl (k2, 4800, .inl f2)), ((q0 7), .inl (k6, 120, .inl f6)), ((q0 11), .inl (k10, 120, .inl f10)), ((q0 5), .inl (k4, 122880, .inl f4)), ((q0 12), .inl (k11, 120, .inl f11))] H1 := hP.sub [6, 0, 9, 1, 7, 8, 2, 3, 4, 5] rfl
    have hD : va_D A [(h0, .inr (13, mX13 q0 (upd (upd (upd (upd v0 1 (u6_ 0)) 18 (u20_ 0)) 20 (u6_ 1)) 21 0))), ((q0 0), .inl (k1, 600, .inl f1)), ((q0 19), .inl (k15, 12, .inl (a6_ 0))), ((q0 17), .inl (k14, 12, .inl (a20_ 0))), ((q0 3), .inl (k3, 400, .inl f3)), ((q0 2), .inl (k2, 4800, .inl f2)), ((q0 7), .inl (k6, 120, .inl f6)), ((q0 11), .inl (k10, 120, .inl f10)), ((q0 5), .inl (k4, 122880, .inl f4)), ((q0 12), .inl (k11, 120, .inl f11))] := hD.sub [6, 0, 9, 1, 7, 8, 2, 3, 4, 5] (by decide) rfl
    generalize H1 = H at hP hS ⊢
    clear hz1
    refine lv_istore_n (lv' := [(1, .int r24_), (0, .ref h0)]) hx hb dX13_look_27 rfl hl (by decide) rfl (fun ls hl => ?_)
    refine lv_iload_n hx hb dX13_look_28 rfl (lv_at hl 0 rfl) ?_
    refine lv_iconst (v := (-1)) hx hb dX13_look_29 (by decide) ?_
    refine lv_icmp_ne (tgt := 37) hx hb dX13_look_30 (by decide) (fun c_ => ?_) (fun c_ => ?_)
    · skip
      have b_ := zT_ne rfl zk_m1 c_
      refine lv_aload_n hx hb dX13_look_37 rfl (lv_at hl 1 rfl) ?_
      refine lv_iload_n hx hb dX13_look_38 rfl (lv_at hl 0 rfl) ?_
      have hPc := hP.sub (ws' := [(h0, .inr (13, mX13 q0 (upd (upd (upd (upd v0 1 (u6_ 0)) 18 (u20_ 0)) 20 (u6_ 1)) 21 0))), ((q0 7), .inl (k6, 120, .inl f6)), ((q0 11), .inl (k10, 120, .inl f10)), ((q0 5), .inl (k4, 122880, .inl f4)), ((q0 12), .inl (k11, 120, .inl f11))]) [0, 6, 7, 8, 9] rfl
      have hDc := hD.sub (ws' := [(h0, .inr (13, mX13 q0 (upd (upd (upd (upd v0 1 (u6_ 0)) 18 (u20_ 0)) 20 (u6_ 1)) 21 0))), ((q0 7), .inl (k6, 120, .inl f6)), ((q0 11), .inl (k10, 120, .inl f10)), ((q0 5), .inl (k4, 122880, .inl f4)), ((q0 12), .inl (k11, 120, .inl f11))]) [0, 6, 7, 8, 9] (by decide) rfl
      have hKc := hK.sub (tys' := [(k6, .boolean), (k10, .int), (k4, .short), (k11, .int)]) [5, 6, 7, 8] rfl
      have hFc := va_free (wc := [(h0, .inr (13, mX13 q0 (upd (upd (upd (upd v0 1 (u6_ 0)) 18 (u20_ 0)) 20 (u6_ 1)) 21 0))), ((q0 7), .inl (k6, 120, .inl f6)), ((q0 11), .inl (k10, 120, .inl f10)), ((q0 5), .inl (k4, 122880, .inl f4)), ((q0 12), .inl (k11, 120, .inl f11))]) hD hS hA [0, 6, 7, 8, 9] rfl
      refine va_calli (va_runV (As := [.int r24_]) (rest := []) ⟨hx, hb, hml, hown, hG⟩ (sX13_keepers_0 l dC dI adK adV h0 q0 k6 k10 k4 k11 H.size (upd (upd (upd (upd v0 1 (u6_ 0)) 18 (u20_ 0)) 20 (u6_ 1)) 21 0) f6 f10 f4 f11 r24_ (zR_updF (zR_upd (zR_upd (zR_upd hv0 1 (show (0 : Int) ≤ ((u6_ 0) : Int32).toInt from by omega) (show ((u6_ 0) : Int32).toInt ≤ (600 : Int) from by omega)) 18 (show ((-1) : Int) ≤ ((u20_ 0) : Int32).toInt from by omega) (show ((u20_ 0) : Int32).toInt ≤ (12 : Int) from by omega)) 20 (show (0 : Int) ≤ ((u6_ 1) : Int32).toInt from by omega) (show ((u6_ 1) : Int32).toInt ≤ (12 : Int) from by omega)) 21 rfl) hf10 hf4 hf11) (cwV 1 hG (zgV zw661 zw662 zw663 zw524 zw664) rfl rfl rfl (by decide +kernel) ⟨Nat.le_of_ble_eq_true rfl, Nat.le_of_ble_eq_true rfl⟩) ⟨zPc_blind, va_recv hKc hPc (ci := 13) (q0 := 0) rfl rfl, zPc_pre hPc hKc hDc hE hS hFc hZ⟩ rfl rfl hl.1 rfl (lv_room (Nat.le_of_ble_eq_true rfl)) dX13_look_39 ⟨Nat.le_of_ble_eq_true rfl, Nat.le_of_ble_eq_true rfl⟩) hS (fun q _ h => hFc q h) hFc (fun r39_ u39_ t H1 locs ht hvm hw hB hz1 hk1 hS => ?_)
      obtain ⟨w39_, a39_, b39_, hP1, hK1, hD1⟩ := hB
      rw [ht] at hP1
      obtain ⟨hP, hD⟩ := va_join (wr := [((q0 0), .inl (k1, 600, .inl f1)), ((q0 19), .inl (k15, 12, .inl (a6_ 0))), ((q0 17), .inl (k14, 12, .inl (a20_ 0))), ((q0 3), .inl (k3, 400, .inl f3)), ((q0 2), .inl (k2, 4800, .inl f2))]) (w1 := [(h0, .inr (13, mX13 q0 (upd (upd (upd (upd v0 1 (u6_ 0)) 18 (u20_ 0)) 20 (u6_ 1)) 21 0))), ((q0 7), .inl (k6, 120, .inl f6)), ((q0 11), .inl (k10, 120, .inl f10)), ((q0 5), .inl (k4, 122880, .inl f4)), ((q0 12), .inl (k11, 120, .inl f11))]) hP hD [0, 6, 7, 8, 9] [1, 2, 3, 4, 5] rfl rfl (by decide) (by decide) hk1 hFc hP1 hD1
      have hP : va_P (dC, dI) vwCl [(h0, .inr (13, mX13 q0 (upd (upd (upd (upd v0 1 (u6_ 0)) 18 (u20_ 0)) 20 (u6_ 1)) 21 0))), ((q0 0), .inl (k1, 600, .inl f1)), ((q0 19), .inl (k15, 12, .inl (a6_ 0))), ((q0 17), .inl (k14, 12, .inl (a20_ 0))), ((q0 3), .inl (k3, 400, .inl f3)), ((q0 2), .inl (k2, 4800, .inl f2)), ((q0 7), .inl (k6, 120, .inl f6)), ((q0 11), .inl (k10, 120, .inl f10)), ((q0 5), .inl (k4, 122880, .inl f4)), ((q0 12), .inl (k11, 120, .inl f11))] H1 := hP.sub [5, 0, 1, 2, 3, 4, 6, 7, 8, 9] rfl
      have hD : va_D A [(h0, .inr (13, mX13 q0 (upd (upd (upd (upd v0 1 (u6_ 0)) 18 (u20_ 0)) 20 (u6_ 1)) 21 0))), ((q0 0), .inl (k1, 600, .inl f1)), ((q0 19), .inl (k15, 12, .inl (a6_ 0))), ((q0 17), .inl (k14, 12, .inl (a20_ 0))), ((q0 3), .inl (k3, 400, .inl f3)), ((q0 2), .inl (k2, 4800, .inl f2)), ((q0 7), .inl (k6, 120, .inl f6)), ((q0 11), .inl (k10, 120, .inl f10)), ((q0 5), .inl (k4, 122880, .inl f4)), ((q0 12), .inl (k11, 120, .inl f11))] := hD.sub [5, 0, 1, 2, 3, 4, 6, 7, 8, 9] (by decide) rfl
      generalize H1 = H at hP hS ⊢
      clear hz1
      refine W.widen (k := 0) (n := 0) (by decide) (by decide) ?_
      have b_ : -2147483648 ≤ r39_.toInt ∧ r39_.toInt ≤ 2147483647 := ⟨zlo _, zhi _⟩
      have hpost : (0 ≤ (u6_ 0).toInt ∧ (u6_ 0).toInt ≤ 0) ∧ (0 ≤ (u20_ 0).toInt ∧ (u20_ 0).toInt ≤ 12) ∧ (0 ≤ (u6_ 1).toInt ∧ (u6_ 1).toInt ≤ 12) ∧ (0 ≤ (0 : Int32).toInt ∧ (0 : Int32).toInt ≤ 0) := ⟨⟨by omega, by omega⟩, ⟨by omega, by omega⟩, ⟨by omega, by omega⟩, ⟨by omega, by omega⟩⟩
      have hP9 : va_P (dC, dI) vwCl [(h0, .inr (13, mX13 q0 (upd (upd (upd (upd v0 1 (u6_ 0)) 18 (u20_ 0)) 20 (u6_ 1)) 21 0))), ((q0 0), .inl (k1, 600, .inl f1)), ((q0 19), .inl (k15, 12, .inl (a6_ 0))), ((q0 17), .inl (k14, 12, .inl (a20_ 0))), ((q0 3), .inl (k3, 400, .inl f3)), ((q0 2), .inl (k2, 4800, .inl f2)), ((q0 7), .inl (k6, 120, .inl f6)), ((q0 11), .inl (k10, 120, .inl f10)), ((q0 5), .inl (k4, 122880, .inl f4)), ((q0 12), .inl (k11, 120, .inl f11))] H := hP
      have hD9 : va_D A [(h0, .inr (13, mX13 q0 (upd (upd (upd (upd v0 1 (u6_ 0)) 18 (u20_ 0)) 20 (u6_ 1)) 21 0))), ((q0 0), .inl (k1, 600, .inl f1)), ((q0 19), .inl (k15, 12, .inl (a6_ 0))), ((q0 17), .inl (k14, 12, .inl (a20_ 0))), ((q0 3), .inl (k3, 400, .inl f3)), ((q0 2), .inl (k2, 4800, .inl f2)), ((q0 7), .inl (k6, 120, .inl f6)), ((q0 11), .inl (k10, 120, .inl f10)), ((q0 5), .inl (k4, 122880, .inl f4)), ((q0 12), .inl (k11, 120, .inl f11))] := hD
      exact W.iret (v := r39_) hx hb hr (fun t ht hW => ⟨⟨r39_, (fun i => ([(u6_ 0), (u20_ 0), (u6_ 1), 0] : List (Int32)).getD i 0), rfl, hpost, (fun _ => 0), (fun i => ([(a6_ 0), (a20_ 0)] : List (Nat → Int32)).getD i (fun _ => 0)), (fun _ => (fun _ => 0)), by rw [ht]; exact hP9, va_K.moved hW.alike hK, hD9⟩, hS.F ht⟩) hS.2.2 dX13_look_42
    · skip
      have b_ := zF_ne rfl zk_m1 c_
      refine lv_iconst (v := 0) hx hb dX13_look_33 (by decide) ?_
      refine lv_goto (tgt := 42) hx hb dX13_look_34 (by decide) ?_
      refine W.widen (k := 0) (n := 0) (by decide) (by decide) ?_
      have hpost : (0 ≤ (u6_ 0).toInt ∧ (u6_ 0).toInt ≤ 0) ∧ (0 ≤ (u20_ 0).toInt ∧ (u20_ 0).toInt ≤ 12) ∧ (0 ≤ (u6_ 1).toInt ∧ (u6_ 1).toInt ≤ 12) ∧ (0 ≤ (0 : Int32).toInt ∧ (0 : Int32).toInt ≤ 0) := ⟨⟨by omega, by omega⟩, ⟨by omega, by omega⟩, ⟨by omega, by omega⟩, ⟨by omega, by omega⟩⟩
      have hP9 : va_P (dC, dI) vwCl [(h0, .inr (13, mX13 q0 (upd (upd (upd (upd v0 1 (u6_ 0)) 18 (u20_ 0)) 20 (u6_ 1)) 21 0))), ((q0 0), .inl (k1, 600, .inl f1)), ((q0 19), .inl (k15, 12, .inl (a6_ 0))), ((q0 17), .inl (k14, 12, .inl (a20_ 0))), ((q0 3), .inl (k3, 400, .inl f3)), ((q0 2), .inl (k2, 4800, .inl f2)), ((q0 7), .inl (k6, 120, .inl f6)), ((q0 11), .inl (k10, 120, .inl f10)), ((q0 5), .inl (k4, 122880, .inl f4)), ((q0 12), .inl (k11, 120, .inl f11))] H := hP
      have hD9 : va_D A [(h0, .inr (13, mX13 q0 (upd (upd (upd (upd v0 1 (u6_ 0)) 18 (u20_ 0)) 20 (u6_ 1)) 21 0))), ((q0 0), .inl (k1, 600, .inl f1)), ((q0 19), .inl (k15, 12, .inl (a6_ 0))), ((q0 17), .inl (k14, 12, .inl (a20_ 0))), ((q0 3), .inl (k3, 400, .inl f3)), ((q0 2), .inl (k2, 4800, .inl f2)), ((q0 7), .inl (k6, 120, .inl f6)), ((q0 11), .inl (k10, 120, .inl f10)), ((q0 5), .inl (k4, 122880, .inl f4)), ((q0 12), .inl (k11, 120, .inl f11))] := hD
      exact W.iret (v := 0) hx hb hr (fun t ht hW => ⟨⟨0, (fun i => ([(u6_ 0), (u20_ 0), (u6_ 1), 0] : List (Int32)).getD i 0), rfl, hpost, (fun _ => 0), (fun i => ([(a6_ 0), (a20_ 0)] : List (Nat → Int32)).getD i (fun _ => 0)), (fun _ => (fun _ => 0)), by rw [ht]; exact hP9, va_K.moved hW.alike hK, hD9⟩, hS.F ht⟩) hS.2.2 dX13_look_42
  · skip
    have b_ := zF_ne rfl zk_0 c_
    refine lv_aload_n hx hb dX13_look_12 rfl (lv_at hl 0 rfl) ?_
    refine lv_iconst (v := 0) hx hb dX13_look_13 (by decide) ?_
    refine va_put (D := (dC, dI)) (ci := 13) (v := .int 0) (ty := .int) (C := RX13) (T := TX13) (N := 75) hx hb hG zuX13 tyX13 tyX13_ok nmX13 hown hK hP hD hS 0 rfl rfl 18 (by decide) (hG _ zw655) (fun _ h9 => h9) rfl (by decide +kernel) rfl rfl (Nat.le_of_ble_eq_true rfl) dX13_look_14 (fun H locs hP hD hS => ?_)
    have hP : va_P (dC, dI) vwCl [(h0, .inr (13, mX13 q0 (upd (upd (upd (upd v0 1 (u6_ 0)) 18 0) 20 (u6_ 1)) 21 0))), ((q0 0), .inl (k1, 600, .inl f1)), ((q0 19), .inl (k15, 12, .inl (a6_ 0))), ((q0 17), .inl (k14, 12, .inl f14)), ((q0 3), .inl (k3, 400, .inl f3)), ((q0 2), .inl (k2, 4800, .inl f2)), ((q0 7), .inl (k6, 120, .inl f6)), ((q0 11), .inl (k10, 120, .inl f10)), ((q0 5), .inl (k4, 122880, .inl f4)), ((q0 12), .inl (k11, 120, .inl f11))] H := hP
    have hD : va_D A [(h0, .inr (13, mX13 q0 (upd (upd (upd (upd v0 1 (u6_ 0)) 18 0) 20 (u6_ 1)) 21 0))), ((q0 0), .inl (k1, 600, .inl f1)), ((q0 19), .inl (k15, 12, .inl (a6_ 0))), ((q0 17), .inl (k14, 12, .inl f14)), ((q0 3), .inl (k3, 400, .inl f3)), ((q0 2), .inl (k2, 4800, .inl f2)), ((q0 7), .inl (k6, 120, .inl f6)), ((q0 11), .inl (k10, 120, .inl f10)), ((q0 5), .inl (k4, 122880, .inl f4)), ((q0 12), .inl (k11, 120, .inl f11))] := hD
    refine lv_iconst (v := 0) hx hb dX13_look_17 (by decide) ?_
    refine W.widen (k := 0) (n := 0) (by decide) (by decide) ?_
    have hpost : (0 ≤ (u6_ 0).toInt ∧ (u6_ 0).toInt ≤ 0) ∧ (0 ≤ (0 : Int32).toInt ∧ (0 : Int32).toInt ≤ 12) ∧ (0 ≤ (u6_ 1).toInt ∧ (u6_ 1).toInt ≤ 12) ∧ (0 ≤ (0 : Int32).toInt ∧ (0 : Int32).toInt ≤ 0) := ⟨⟨by omega, by omega⟩, ⟨by omega, by omega⟩, ⟨by omega, by omega⟩, ⟨by omega, by omega⟩⟩
    have hP9 : va_P (dC, dI) vwCl [(h0, .inr (13, mX13 q0 (upd (upd (upd (upd v0 1 (u6_ 0)) 18 0) 20 (u6_ 1)) 21 0))), ((q0 0), .inl (k1, 600, .inl f1)), ((q0 19), .inl (k15, 12, .inl (a6_ 0))), ((q0 17), .inl (k14, 12, .inl f14)), ((q0 3), .inl (k3, 400, .inl f3)), ((q0 2), .inl (k2, 4800, .inl f2)), ((q0 7), .inl (k6, 120, .inl f6)), ((q0 11), .inl (k10, 120, .inl f10)), ((q0 5), .inl (k4, 122880, .inl f4)), ((q0 12), .inl (k11, 120, .inl f11))] H := hP
    have hD9 : va_D A [(h0, .inr (13, mX13 q0 (upd (upd (upd (upd v0 1 (u6_ 0)) 18 0) 20 (u6_ 1)) 21 0))), ((q0 0), .inl (k1, 600, .inl f1)), ((q0 19), .inl (k15, 12, .inl (a6_ 0))), ((q0 17), .inl (k14, 12, .inl f14)), ((q0 3), .inl (k3, 400, .inl f3)), ((q0 2), .inl (k2, 4800, .inl f2)), ((q0 7), .inl (k6, 120, .inl f6)), ((q0 11), .inl (k10, 120, .inl f10)), ((q0 5), .inl (k4, 122880, .inl f4)), ((q0 12), .inl (k11, 120, .inl f11))] := hD
    exact W.iret (v := 0) hx hb hr (fun t ht hW => ⟨⟨0, (fun i => ([(u6_ 0), 0, (u6_ 1), 0] : List (Int32)).getD i 0), rfl, hpost, (fun _ => 0), (fun i => ([(a6_ 0), f14] : List (Nat → Int32)).getD i (fun _ => 0)), (fun _ => (fun _ => 0)), by rw [ht]; exact hP9, va_K.moved hW.alike hK, hD9⟩, hS.F ht⟩) hS.2.2 dX13_look_18
set_option maxHeartbeats 8000000 in
set_option maxRecDepth 100000 in
theorem sX13_holders_0 (l : Launch) (dC : Nat → ClassId) (dI : Nat → Nat → Nat) (adK adV : Nat → Nat) (h0 : Nat) (q0 : Nat → Nat) (k5 : ClassId) (k10 : ClassId) (k4 : ClassId) (k11 : ClassId) (sz : Nat) (v0 : Nat → Int32) (f5 : Nat → Int32) (f10 : Nat → Int32) (f4 : Nat → Int32) (f11 : Nat → Int32) (x1 : Int32) (hv0 : zR rg_Model v0) (hf10 : zA 0 512 f10) (hf4 : zA 0 400 f4) (hf11 : zA 0 512 f11) : Met l yX13_holders (zw yX13_holders cX13_holders 4 (some .int)) { frames := 1, cells := 0, slots := 0, locals := 24 } (zPc dC dI adK adV [.ref h0, .int x1] sz [(h0, .inr (13, mX13 q0 v0)), ((q0 6), .inl (k5, 120, .inl f5)), ((q0 11), .inl (k10, 120, .inl f10)), ((q0 5), .inl (k4, 122880, .inl f4)), ((q0 12), .inl (k11, 120, .inl f11))] [(k5, .boolean), (k10, .int), (k4, .short), (k11, .int)]) (va_Qi (fun (r : Int32) (u : Nat → Int32) => True) (fun (u : Nat → Int32) (t : State) => ∃ (ww : Nat → Int64) (aa : Nat → Nat → Int32) (bb : Nat → Nat → Int64), va_P (dC, dI) vwCl [(h0, .inr (13, mX13 q0 v0)), ((q0 6), .inl (k5, 120, .inl f5)), ((q0 11), .inl (k10, 120, .inl f10)), ((q0 5), .inl (k4, 122880, .inl f4)), ((q0 12), .inl (k11, 120, .inl f11))] t.heap ∧ va_K (dC, dI) vwCl [(k5, .boolean), (k10, .int), (k4, .short), (k11, .int)] t ∧ va_D (va_A [(h0, .inr (13, mX13 q0 v0)), ((q0 6), .inl (k5, 120, .inl f5)), ((q0 11), .inl (k10, 120, .inl f10)), ((q0 5), .inl (k4, 122880, .inl f4)), ((q0 12), .inl (k11, 120, .inl f11))] sz) [(h0, .inr (13, mX13 q0 v0)), ((q0 6), .inl (k5, 120, .inl f5)), ((q0 11), .inl (k10, 120, .inl f10)), ((q0 5), .inl (k4, 122880, .inl f4)), ((q0 12), .inl (k11, 120, .inl f11))]) (va_A [(h0, .inr (13, mX13 q0 v0)), ((q0 6), .inl (k5, 120, .inl f5)), ((q0 11), .inl (k10, 120, .inl f10)), ((q0 5), .inl (k4, 122880, .inl f4)), ((q0 12), .inl (k11, 120, .inl f11))] sz)) 0 0 (va_A [(h0, .inr (13, mX13 q0 v0)), ((q0 6), .inl (k5, 120, .inl f5)), ((q0 11), .inl (k10, 120, .inl f10)), ((q0 5), .inl (k4, 122880, .inl f4)), ((q0 12), .inl (k11, 120, .inl f11))] sz) := by
  refine Met.ofW (cc := cX13_holders) (maxL := 4) (ret := (some .int)) (by decide) rfl ?_
  intro p e s m args below meth c s₁ B hml hv
  obtain ⟨rfl, hsz, hP, hK, hD0, hE, hZ⟩ := hv
  have hx := B.exec
  have hb := B.bytes
  have hr := B.returns
  have hG : ∀ w ∈ zG, w.before _ s = true := fun w h => atoms_spec (ws := (zw yX13_holders cX13_holders 4 (some .int))) B.pre w (List.mem_cons_of_mem _ h)
  have hown : s.vm.findClass RX13 = some m.cls := findClass_of_methodNamed B.named
  have hlocks := B.notSynchronized
  subst hsz
  have hD := hD0.self (sz := s.heap.size)
  generalize hAe : va_A [(h0, .inr (13, mX13 q0 v0)), ((q0 6), .inl (k5, 120, .inl f5)), ((q0 11), .inl (k10, 120, .inl f10)), ((q0 5), .inl (k4, 122880, .inl f4)), ((q0 12), .inl (k11, 120, .inl f11))] s.heap.size = A at hD hZ ⊢
  have hA : ∀ q : Nat, s.heap.size ≤ q → A q := fun q h => by rw [← hAe]; exact Or.inr h
  have hS : va_S A s.heap s.heap [] := va_S.rf
  have hl := lv_entry ([.ref h0, .int x1]) (n := 4) (Nat.le_of_ble_eq_true rfl)
  rw [lg_entry_eq]
  generalize (lg_sl ([.ref h0, .int x1]) ++ List.replicate (4 - (lg_sl ([.ref h0, .int x1])).length) Slot.unset).toArray = ls at hl ⊢
  have hl : lv_has ls 4 [(0, .ref h0), (1, .int x1)] := hl
  have b_ := zk_0
  refine lv_iconst (v := 0) hx hb dX13_holders_0 (by decide) ?_
  refine lv_istore_n (lv' := [(2, .int 0), (0, .ref h0), (1, .int x1)]) hx hb dX13_holders_1 rfl hl (by decide) rfl (fun ls hl => ?_)
  refine lv_iconst (v := 0) hx hb dX13_holders_2 (by decide) ?_
  refine lv_istore_n (lv' := [(3, .int 0), (2, .int 0), (0, .ref h0), (1, .int x1)]) hx hb dX13_holders_3 rfl hl (by decide) rfl (fun ls hl => ?_)
  refine zcutL (fun u4_ => (120 - (u4_ 1).toInt).toNat) (fun H locs ls u4_ w4_ a4_ b4_ => va_P (dC, dI) vwCl [(h0, .inr (13, mX13 q0 v0)), ((q0 6), .inl (k5, 120, .inl f5)), ((q0 11), .inl (k10, 120, .inl f10)), ((q0 5), .inl (k4, 122880, .inl f4)), ((q0 12), .inl (k11, 120, .inl f11))] H ∧ va_D A [(h0, .inr (13, mX13 q0 v0)), ((q0 6), .inl (k5, 120, .inl f5)), ((q0 11), .inl (k10, 120, .inl f10)), ((q0 5), .inl (k4, 122880, .inl f4)), ((q0 12), .inl (k11, 120, .inl f11))] ∧ va_S A s.heap H locs ∧ lv_has ls 4 [(0, .ref h0), (1, .int x1), (2, .int (u4_ 0)), (3, .int (u4_ 1))] ∧ (0 ≤ (u4_ 1).toInt ∧ (u4_ 1).toInt ≤ 120)) (fun ls u4_ w4_ => F0 m 4 ls []) 0 0 ?_ (fun hJ4 => ?_)
  · skip
    intro H locs ls u4_ w4_ a4_ b4_ hc hJ4
    obtain ⟨hP, hD, hS, hl, b_⟩ := hc
    refine lv_iload_n hx hb dX13_holders_4 rfl (lv_at hl 3 rfl) ?_
    refine lv_aload_n hx hb dX13_holders_5 rfl (lv_at hl 0 rfl) ?_
    have b_ : 0 ≤ (v0 13).toInt ∧ (v0 13).toInt ≤ 120 := hv0 13
    refine va_get (D := (dC, dI)) (ci := 13) (v := .int (v0 13)) (C := RX13) (T := TX13) (N := 75) hx hb hG zuX13 hown hK hP 0 rfl rfl 13 (by decide) (hG _ zw565) (fun _ h9 => h9) rfl dX13_holders_6 ?_
    refine lv_icmp_ge (tgt := 44) hx hb dX13_holders_9 (by decide) (fun c_ => ?_) (fun c_ => ?_)
    · skip
      have b_ := zT_ge rfl rfl c_
      refine lv_iload_n hx hb dX13_holders_44 rfl (lv_at hl 2 rfl) ?_
      refine W.widen (k := 0) (n := 0) (by decide) (by decide) ?_
      have b_ : -2147483648 ≤ (u4_ 0).toInt ∧ (u4_ 0).toInt ≤ 2147483647 := ⟨zlo _, zhi _⟩
      have hpost : True := trivial
      have hP9 : va_P (dC, dI) vwCl [(h0, .inr (13, mX13 q0 v0)), ((q0 6), .inl (k5, 120, .inl f5)), ((q0 11), .inl (k10, 120, .inl f10)), ((q0 5), .inl (k4, 122880, .inl f4)), ((q0 12), .inl (k11, 120, .inl f11))] H := hP
      have hD9 : va_D A [(h0, .inr (13, mX13 q0 v0)), ((q0 6), .inl (k5, 120, .inl f5)), ((q0 11), .inl (k10, 120, .inl f10)), ((q0 5), .inl (k4, 122880, .inl f4)), ((q0 12), .inl (k11, 120, .inl f11))] := hD
      exact W.iret (v := (u4_ 0)) hx hb hr (fun t ht hW => ⟨⟨(u4_ 0), (fun _ => 0), rfl, hpost, (fun _ => 0), (fun _ => (fun _ => 0)), (fun _ => (fun _ => 0)), by rw [ht]; exact hP9, va_K.moved hW.alike hK, hD9⟩, hS.F ht⟩) hS.2.2 dX13_holders_45
    · skip
      have b_ := zF_ge rfl rfl c_
      refine lv_iload_n hx hb dX13_holders_12 rfl (lv_at hl 2 rfl) ?_
      refine lv_aload_n hx hb dX13_holders_13 rfl (lv_at hl 0 rfl) ?_
      refine va_get (D := (dC, dI)) (ci := 13) (v := .ref (q0 6)) (C := RX13) (T := TX13) (N := 75) hx hb hG zuX13 hown hK hP 0 rfl rfl 6 (by decide) (hG _ zw590) (fun _ h9 => h9) rfl dX13_holders_14 ?_
      refine lv_iload_n hx hb dX13_holders_17 rfl (lv_at hl 3 rfl) ?_
      refine va_zald hx hb hK hP 1 0 rfl rfl (zin_lit ⟨by omega, by omega⟩) dX13_holders_18 ?_
      refine lv_topi (fun z18 e_z18 => ?_)
      have b_ : -2147483648 ≤ z18.toInt ∧ z18.toInt ≤ 2147483647 := ⟨zlo _, zhi _⟩
      refine lv_if_eq (tgt := 35) hx hb dX13_holders_19 (by decide) (fun c_ => ?_) (fun c_ => ?_)
      · skip
        have b_ := zT_eq rfl zk_0 c_
        refine lv_iconst (v := 0) hx hb dX13_holders_35 (by decide) ?_
        have b_ : -2147483648 ≤ (u4_ 0).toInt ∧ (u4_ 0).toInt ≤ 2147483647 := ⟨zlo _, zhi _⟩
        refine lv_iadd hx hb dX13_holders_36 ?_
        refine lv_topi (fun z36 e_z36 => ?_)
        have b_ := zadd rfl zk_0 e_z36 (by omega) (by omega)
        refine lv_istore_n (lv' := [(2, .int z36), (0, .ref h0), (1, .int x1), (3, .int (u4_ 1))]) hx hb dX13_holders_37 rfl hl (by decide) rfl (fun ls hl => ?_)
        obtain ⟨z38, e_z38⟩ : ∃ z : Int32, z = (u4_ 1) + Int32.ofInt 1 := ⟨_, rfl⟩
        have b_ := zadd (x := (u4_ 1)) (y := Int32.ofInt 1) rfl (show (Int32.ofInt 1).toInt = 1 from by decide) e_z38 (by omega) (by omega)
        refine lv_iinc (v := z38) (lv' := [(3, .int z38), (2, .int z36), (0, .ref h0), (1, .int x1)]) hx hb dX13_holders_38 hl (k := 3) rfl e_z38.symm (by decide) rfl (fun ls hl => ?_)
        refine lv_goto (tgt := 4) hx hb dX13_holders_41 (by decide) ?_
        have b_ : -2147483648 ≤ x1.toInt ∧ x1.toInt ≤ 2147483647 := ⟨zlo _, zhi _⟩
        have hc : va_P (dC, dI) vwCl [(h0, .inr (13, mX13 q0 v0)), ((q0 6), .inl (k5, 120, .inl f5)), ((q0 11), .inl (k10, 120, .inl f10)), ((q0 5), .inl (k4, 122880, .inl f4)), ((q0 12), .inl (k11, 120, .inl f11))] H ∧ va_D A [(h0, .inr (13, mX13 q0 v0)), ((q0 6), .inl (k5, 120, .inl f5)), ((q0 11), .inl (k10, 120, .inl f10)), ((q0 5), .inl (k4, 122880, .inl f4)), ((q0 12), .inl (k11, 120, .inl f11))] ∧ va_S A s.heap H locs ∧ lv_has ls 4 [(0, .ref h0), (1, .int x1), (2, .int z36), (3, .int z38)] ∧ (0 ≤ z38.toInt ∧ z38.toInt ≤ 120) := ⟨hP, hD, hS, lv_sub hl [2, 3, 1, 0] rfl, ⟨by omega, by omega⟩⟩
        exact hJ4 H locs ls (fun i => ([z36, z38] : List (Int32)).getD i 0) (fun _ => 0) (fun _ => (fun _ => 0)) (fun _ => (fun _ => 0)) hc (show (120 - z38.toInt).toNat < (120 - (u4_ 1).toInt).toNat from by omega)
      · skip
        have b_ := zF_eq rfl zk_0 c_
        refine lv_aload_n hx hb dX13_holders_22 rfl (lv_at hl 0 rfl) ?_
        refine lv_iload_n hx hb dX13_holders_23 rfl (lv_at hl 3 rfl) ?_
        refine lv_iload_n hx hb dX13_holders_24 rfl (lv_at hl 1 rfl) ?_
        have hPc := hP.sub (ws' := [(h0, .inr (13, mX13 q0 v0)), ((q0 11), .inl (k10, 120, .inl f10)), ((q0 5), .inl (k4, 122880, .inl f4)), ((q0 12), .inl (k11, 120, .inl f11))]) [0, 2, 3, 4] rfl
        have hDc := hD.sub (ws' := [(h0, .inr (13, mX13 q0 v0)), ((q0 11), .inl (k10, 120, .inl f10)), ((q0 5), .inl (k4, 122880, .inl f4)), ((q0 12), .inl (k11, 120, .inl f11))]) [0, 2, 3, 4] (by decide) rfl
        have hKc := hK.sub (tys' := [(k10, .int), (k4, .short), (k11, .int)]) [1, 2, 3] rfl
        have hFc := va_free (wc := [(h0, .inr (13, mX13 q0 v0)), ((q0 11), .inl (k10, 120, .inl f10)), ((q0 5), .inl (k4, 122880, .inl f4)), ((q0 12), .inl (k11, 120, .inl f11))]) hD hS hA [0, 2, 3, 4] rfl
        refine va_calli (va_runV (As := [.int (u4_ 1), .int x1]) (rest := [.int (u4_ 0)]) ⟨hx, hb, hml, hown, hG⟩ (sX13_timesOf_0 l dC dI adK adV h0 q0 k10 k4 k11 H.size v0 f10 f4 f11 (u4_ 1) x1 hv0 hf10 hf4 hf11 ⟨show (0 : Int) ≤ ((u4_ 1) : Int32).toInt from by omega, show ((u4_ 1) : Int32).toInt ≤ (119 : Int) from by omega⟩) (cwV 2 hG (zgV zw639 zw640 zw641 zw524 zw642) rfl rfl rfl (by decide +kernel) ⟨Nat.le_of_ble_eq_true rfl, Nat.le_of_ble_eq_true rfl⟩) ⟨zPc_blind, va_recv hKc hPc (ci := 13) (q0 := 0) rfl rfl, zPc_pre hPc hKc hDc hE hS hFc hZ⟩ rfl rfl hl.1 rfl (lv_room (Nat.le_of_ble_eq_true rfl)) dX13_holders_25 ⟨Nat.le_of_ble_eq_true rfl, Nat.le_of_ble_eq_true rfl⟩) hS (fun q _ h => hFc q h) hFc (fun r25_ u25_ t H1 locs ht hvm hw hB hz1 hk1 hS => ?_)
        obtain ⟨w25_, a25_, b25_, hP1, hK1, hD1⟩ := hB
        rw [ht] at hP1
        obtain ⟨hP, hD⟩ := va_join (wr := [((q0 6), .inl (k5, 120, .inl f5))]) (w1 := [(h0, .inr (13, mX13 q0 v0)), ((q0 11), .inl (k10, 120, .inl f10)), ((q0 5), .inl (k4, 122880, .inl f4)), ((q0 12), .inl (k11, 120, .inl f11))]) hP hD [0, 2, 3, 4] [1] rfl rfl (by decide) (by decide) hk1 hFc hP1 hD1
        have hP : va_P (dC, dI) vwCl [(h0, .inr (13, mX13 q0 v0)), ((q0 6), .inl (k5, 120, .inl f5)), ((q0 11), .inl (k10, 120, .inl f10)), ((q0 5), .inl (k4, 122880, .inl f4)), ((q0 12), .inl (k11, 120, .inl f11))] H1 := hP.sub [1, 0, 2, 3, 4] rfl
        have hD : va_D A [(h0, .inr (13, mX13 q0 v0)), ((q0 6), .inl (k5, 120, .inl f5)), ((q0 11), .inl (k10, 120, .inl f10)), ((q0 5), .inl (k4, 122880, .inl f4)), ((q0 12), .inl (k11, 120, .inl f11))] := hD.sub [1, 0, 2, 3, 4] (by decide) rfl
        generalize H1 = H at hP hS ⊢
        clear hz1
        have b_ : -2147483648 ≤ r25_.toInt ∧ r25_.toInt ≤ 2147483647 := ⟨zlo _, zhi _⟩
        refine lv_if_le (tgt := 35) hx hb dX13_holders_28 (by decide) (fun c_ => ?_) (fun c_ => ?_)
        · skip
          have b_ := zT_le rfl zk_0 c_
          refine lv_iconst (v := 0) hx hb dX13_holders_35 (by decide) ?_
          have b_ : -2147483648 ≤ (u4_ 0).toInt ∧ (u4_ 0).toInt ≤ 2147483647 := ⟨zlo _, zhi _⟩
          refine lv_iadd hx hb dX13_holders_36 ?_
          refine lv_topi (fun z36 e_z36 => ?_)
          have b_ := zadd rfl zk_0 e_z36 (by omega) (by omega)
          refine lv_istore_n (lv' := [(2, .int z36), (0, .ref h0), (1, .int x1), (3, .int (u4_ 1))]) hx hb dX13_holders_37 rfl hl (by decide) rfl (fun ls hl => ?_)
          obtain ⟨z38, e_z38⟩ : ∃ z : Int32, z = (u4_ 1) + Int32.ofInt 1 := ⟨_, rfl⟩
          have b_ := zadd (x := (u4_ 1)) (y := Int32.ofInt 1) rfl (show (Int32.ofInt 1).toInt = 1 from by decide) e_z38 (by omega) (by omega)
          refine lv_iinc (v := z38) (lv' := [(3, .int z38), (2, .int z36), (0, .ref h0), (1, .int x1)]) hx hb dX13_holders_38 hl (k := 3) rfl e_z38.symm (by decide) rfl (fun ls hl => ?_)
          refine lv_goto (tgt := 4) hx hb dX13_holders_41 (by decide) ?_
          have b_ : -2147483648 ≤ x1.toInt ∧ x1.toInt ≤ 2147483647 := ⟨zlo _, zhi _⟩
          have hc : va_P (dC, dI) vwCl [(h0, .inr (13, mX13 q0 v0)), ((q0 6), .inl (k5, 120, .inl f5)), ((q0 11), .inl (k10, 120, .inl f10)), ((q0 5), .inl (k4, 122880, .inl f4)), ((q0 12), .inl (k11, 120, .inl f11))] H ∧ va_D A [(h0, .inr (13, mX13 q0 v0)), ((q0 6), .inl (k5, 120, .inl f5)), ((q0 11), .inl (k10, 120, .inl f10)), ((q0 5), .inl (k4, 122880, .inl f4)), ((q0 12), .inl (k11, 120, .inl f11))] ∧ va_S A s.heap H locs ∧ lv_has ls 4 [(0, .ref h0), (1, .int x1), (2, .int z36), (3, .int z38)] ∧ (0 ≤ z38.toInt ∧ z38.toInt ≤ 120) := ⟨hP, hD, hS, lv_sub hl [2, 3, 1, 0] rfl, ⟨by omega, by omega⟩⟩
          exact hJ4 H locs ls (fun i => ([z36, z38] : List (Int32)).getD i 0) (fun _ => 0) (fun _ => (fun _ => 0)) (fun _ => (fun _ => 0)) hc (show (120 - z38.toInt).toNat < (120 - (u4_ 1).toInt).toNat from by omega)
        · skip
          have b_ := zF_le rfl zk_0 c_
          refine lv_iconst (v := 1) hx hb dX13_holders_31 (by decide) ?_
          refine lv_goto (tgt := 36) hx hb dX13_holders_32 (by decide) ?_
          have b_ : -2147483648 ≤ (u4_ 0).toInt ∧ (u4_ 0).toInt ≤ 2147483647 := ⟨zlo _, zhi _⟩
          refine lv_iadd hx hb dX13_holders_36 ?_
          refine lv_topi (fun z36 e_z36 => ?_)
          refine lv_istore_n (lv' := [(2, .int z36), (0, .ref h0), (1, .int x1), (3, .int (u4_ 1))]) hx hb dX13_holders_37 rfl hl (by decide) rfl (fun ls hl => ?_)
          obtain ⟨z38, e_z38⟩ : ∃ z : Int32, z = (u4_ 1) + Int32.ofInt 1 := ⟨_, rfl⟩
          have b_ := zadd (x := (u4_ 1)) (y := Int32.ofInt 1) rfl (show (Int32.ofInt 1).toInt = 1 from by decide) e_z38 (by omega) (by omega)
          refine lv_iinc (v := z38) (lv' := [(3, .int z38), (2, .int z36), (0, .ref h0), (1, .int x1)]) hx hb dX13_holders_38 hl (k := 3) rfl e_z38.symm (by decide) rfl (fun ls hl => ?_)
          refine lv_goto (tgt := 4) hx hb dX13_holders_41 (by decide) ?_
          have b_ : -2147483648 ≤ x1.toInt ∧ x1.toInt ≤ 2147483647 := ⟨zlo _, zhi _⟩
          have b_ : -2147483648 ≤ z36.toInt ∧ z36.toInt ≤ 2147483647 := ⟨zlo _, zhi _⟩
          have hc : va_P (dC, dI) vwCl [(h0, .inr (13, mX13 q0 v0)), ((q0 6), .inl (k5, 120, .inl f5)), ((q0 11), .inl (k10, 120, .inl f10)), ((q0 5), .inl (k4, 122880, .inl f4)), ((q0 12), .inl (k11, 120, .inl f11))] H ∧ va_D A [(h0, .inr (13, mX13 q0 v0)), ((q0 6), .inl (k5, 120, .inl f5)), ((q0 11), .inl (k10, 120, .inl f10)), ((q0 5), .inl (k4, 122880, .inl f4)), ((q0 12), .inl (k11, 120, .inl f11))] ∧ va_S A s.heap H locs ∧ lv_has ls 4 [(0, .ref h0), (1, .int x1), (2, .int z36), (3, .int z38)] ∧ (0 ≤ z38.toInt ∧ z38.toInt ≤ 120) := ⟨hP, hD, hS, lv_sub hl [2, 3, 1, 0] rfl, ⟨by omega, by omega⟩⟩
          exact hJ4 H locs ls (fun i => ([z36, z38] : List (Int32)).getD i 0) (fun _ => 0) (fun _ => (fun _ => 0)) (fun _ => (fun _ => 0)) hc (show (120 - z38.toInt).toNat < (120 - (u4_ 1).toInt).toNat from by omega)
  · skip
    have b_ : -2147483648 ≤ x1.toInt ∧ x1.toInt ≤ 2147483647 := ⟨zlo _, zhi _⟩
    have hc : va_P (dC, dI) vwCl [(h0, .inr (13, mX13 q0 v0)), ((q0 6), .inl (k5, 120, .inl f5)), ((q0 11), .inl (k10, 120, .inl f10)), ((q0 5), .inl (k4, 122880, .inl f4)), ((q0 12), .inl (k11, 120, .inl f11))] s.heap ∧ va_D A [(h0, .inr (13, mX13 q0 v0)), ((q0 6), .inl (k5, 120, .inl f5)), ((q0 11), .inl (k10, 120, .inl f10)), ((q0 5), .inl (k4, 122880, .inl f4)), ((q0 12), .inl (k11, 120, .inl f11))] ∧ va_S A s.heap s.heap [] ∧ lv_has ls 4 [(0, .ref h0), (1, .int x1), (2, .int 0), (3, .int 0)] ∧ (0 ≤ (0 : Int32).toInt ∧ (0 : Int32).toInt ≤ 120) := ⟨hP, hD, hS, lv_sub hl [2, 3, 1, 0] rfl, ⟨by omega, by omega⟩⟩
    exact hJ4 s.heap [] ls (fun i => ([0, 0] : List (Int32)).getD i 0) (fun _ => 0) (fun _ => (fun _ => 0)) (fun _ => (fun _ => 0)) hc
