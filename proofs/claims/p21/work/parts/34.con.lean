set_option maxHeartbeats 8000000 in
set_option maxRecDepth 100000 in
theorem sX10_pack_0 (l : Launch) (dC : Nat → ClassId) (dI : Nat → Nat → Nat) (adK adV : Nat → Nat) (h0 : Nat) (k0 : ClassId) (sz : Nat) (f0 : Nat → Int32) (x1 : Int32) : Met l yX10_pack (zw yX10_pack cX10_pack 5 (some .long)) { frames := 0, cells := 0, slots := 0, locals := 0 } (zPc dC dI adK adV [.ref h0, .int x1] sz [(h0, zi k0 12 f0)] [(k0, .byte)]) (va_Ql (fun (r : Int64) (u : Nat → Int32) => (zpV f0 x1.toInt → r.toInt = zpk (fun k => (f0 k).toInt) (x1.toInt).toNat 12)) (fun (u : Nat → Int32) (t : State) => ∃ (ww : Nat → Int64) (aa : Nat → Nat → Int32) (bb : Nat → Nat → Int64), va_P (dC, dI) vwCl [(h0, zi k0 12 f0)] t.heap ∧ va_K (dC, dI) vwCl [(k0, .byte)] t ∧ va_D (va_A [(h0, zi k0 12 f0)] sz) [(h0, zi k0 12 f0)]) (va_A [(h0, zi k0 12 f0)] sz)) 0 0 (va_A [(h0, zi k0 12 f0)] sz) := by
  refine Met.ofW (cc := cX10_pack) (maxL := 5) (ret := (some .long)) (by decide) rfl ?_
  intro p e s m args below meth c s₁ B hml hv
  obtain ⟨rfl, hsz, hP, hK, hD0, hE, hZ⟩ := hv
  have hx := B.exec
  have hb := B.bytes
  have hr := B.returns
  have hG : ∀ w ∈ zG, w.before _ s = true := fun w h => atoms_spec (ws := (zw yX10_pack cX10_pack 5 (some .long))) B.pre w (List.mem_cons_of_mem _ h)
  have hown : s.vm.findClass RX10 = some m.cls := findClass_of_methodNamed B.named
  have hlocks := B.notSynchronized

  subst hsz
  have hD := hD0.self (sz := s.heap.size)
  generalize hAe : va_A [(h0, zi k0 12 f0)] s.heap.size = A at hD hZ ⊢
  have hA : ∀ q : Nat, s.heap.size ≤ q → A q := fun q h => by rw [← hAe]; exact Or.inr h
  have hS : va_S A s.heap s.heap [] := va_S.rf
  have hl := lv_entry ([.ref h0, .int x1]) (n := 5) (Nat.le_of_ble_eq_true rfl)
  rw [lg_entry_eq]
  generalize (lg_sl ([.ref h0, .int x1]) ++ List.replicate (5 - (lg_sl ([.ref h0, .int x1])).length) Slot.unset).toArray = ls at hl ⊢
  have hl : lv_has ls 5 [(0, .ref h0), (1, .int x1)] := hl
  have b_ := zk_0
  refine lv_lconst (v := 0) hx hb dX10_pack_0 (by decide) ?_
  refine lv_lstore_n (lv' := [(2, .long 0), (0, .ref h0), (1, .int x1)]) hx hb dX10_pack_1 rfl hl (by decide) rfl (fun ls hl => ?_)
  refine lv_iconst (v := 0) hx hb dX10_pack_2 (by decide) ?_
  refine lv_istore (lv' := [(4, .int 0), (2, .long 0), (0, .ref h0), (1, .int x1)]) hx hb dX10_pack_3 hl (by decide) rfl (fun ls hl => ?_)
  refine zcutL (fun u5_ => (12 - (u5_ 0).toInt).toNat) (fun H locs ls u5_ w5_ a5_ b5_ => va_P (dC, dI) vwCl [(h0, zi k0 12 f0)] H ∧ va_D A [(h0, zi k0 12 f0)] ∧ va_S A s.heap H locs ∧ lv_has ls 5 [(0, .ref h0), (1, .int x1), (2, .long (w5_ 0)), (4, .int (u5_ 0))] ∧ (0 ≤ (u5_ 0).toInt ∧ (u5_ 0).toInt ≤ 12) ∧ (zpV f0 x1.toInt → (w5_ 0).toInt = zpk (fun k => (f0 k).toInt) (x1.toInt).toNat ((u5_ 0).toInt).toNat)) (fun ls u5_ w5_ => F0 m 5 ls []) 0 0 ?_ (fun hJ5 => ?_)
  · skip
    intro H locs ls u5_ w5_ a5_ b5_ hc hJ5
    obtain ⟨hP, hD, hS, hl, b_, hI5_0⟩ := hc
    refine lv_iload hx hb dX10_pack_5 (lv_at hl 3 rfl) ?_
    refine lv_bipush (v := 12) hx hb dX10_pack_7 (by decide) ?_
    refine lv_icmp_ge (tgt := 73) hx hb dX10_pack_9 (by decide) (fun c_ => ?_) (fun c_ => ?_)
    · skip
      have b_ := zT_ge rfl zk_12 c_
      refine lv_lload_n hx hb dX10_pack_73 rfl (lv_at hl 2 rfl) ?_
      refine W.widen (k := 0) (n := 0) (by decide) (by decide) ?_
      have hpost : (zpV f0 x1.toInt → (w5_ 0).toInt = zpk (fun k => (f0 k).toInt) (x1.toInt).toNat 12) := by (intro q; have q1 := hI5_0 q; rw [show (12 : Nat) = ((u5_ 0).toInt).toNat from by omega]; exact q1)
      have hP9 : va_P (dC, dI) vwCl [(h0, zi k0 12 f0)] H := hP
      have hD9 : va_D A [(h0, zi k0 12 f0)] := hD
      exact W.lret (v := (w5_ 0)) hx hb hr (fun t ht hW => ⟨⟨(w5_ 0), (fun _ => 0), rfl, hpost, (fun _ => 0), (fun _ => (fun _ => 0)), (fun _ => (fun _ => 0)), by rw [ht]; exact hP9, va_K.moved hW.alike hK, hD9⟩, hS.F ht⟩) hS.2.2 dX10_pack_74
    · skip
      have b_ := zF_ge rfl zk_12 c_
      refine lv_lload_n hx hb dX10_pack_12 rfl (lv_at hl 2 rfl) ?_
      refine lv_ldc2 hx hb hown (hG _ zv734) dX10_pack_13 ?_
      refine lv_lmul hx hb dX10_pack_16 ?_
      refine lv_topl (fun y_16 e_y_16 => ?_)
      refine lv_lstore_n (lv' := [(2, .long y_16), (0, .ref h0), (1, .int x1), (4, .int (u5_ 0))]) hx hb dX10_pack_17 rfl hl (by decide) rfl (fun ls hl => ?_)
      refine lv_iload hx hb dX10_pack_18 (lv_at hl 3 rfl) ?_
      refine lv_iload_n hx hb dX10_pack_20 rfl (lv_at hl 2 rfl) ?_
      have b_ : -2147483648 ≤ x1.toInt ∧ x1.toInt ≤ 2147483647 := ⟨zlo _, zhi _⟩
      refine lv_icmp_ge (tgt := 67) hx hb dX10_pack_21 (by decide) (fun c_ => ?_) (fun c_ => ?_)
      · skip
        have b_ := zT_ge rfl rfl c_
        obtain ⟨z67, e_z67⟩ : ∃ z : Int32, z = (u5_ 0) + Int32.ofInt 1 := ⟨_, rfl⟩
        have b_ := zadd (x := (u5_ 0)) (y := Int32.ofInt 1) rfl (show (Int32.ofInt 1).toInt = 1 from by decide) e_z67 (by omega) (by omega)
        refine lv_iinc (v := z67) (lv' := [(4, .int z67), (2, .long y_16), (0, .ref h0), (1, .int x1)]) hx hb dX10_pack_67 hl (k := 3) rfl e_z67.symm (by decide) rfl (fun ls hl => ?_)
        refine lv_goto (tgt := 5) hx hb dX10_pack_70 (by decide) ?_
        have hc : va_P (dC, dI) vwCl [(h0, zi k0 12 f0)] H ∧ va_D A [(h0, zi k0 12 f0)] ∧ va_S A s.heap H locs ∧ lv_has ls 5 [(0, .ref h0), (1, .int x1), (2, .long y_16), (4, .int z67)] ∧ (0 ≤ z67.toInt ∧ z67.toInt ≤ 12) ∧ (zpV f0 x1.toInt → y_16.toInt = zpk (fun k => (f0 k).toInt) (x1.toInt).toNat (z67.toInt).toNat) := ⟨hP, hD, hS, lv_sub hl [2, 3, 1, 0] rfl, (by first | with_reducible assumption | exact ⟨by omega, by omega⟩), by first | exact zpk_0 (by decide) (by omega) | exact zpk_s0 (by assumption) e_y_16 (by omega) (by omega) (by omega) (by omega) | exact zpk_sA (by assumption) e_y_16 e_y_51 e_y_65 _ (zclamp (by omega)) e_z35 e_z44 e_z47 e_z50 (by omega) (by omega) (by omega) (by omega) (by omega) | exact zpk_sB (by assumption) e_y_16 e_y_64 e_y_65 _ (zclamp (by omega)) e_z35 e_z58 e_z61 e_z63 (by omega) (by omega) (by omega) (by omega) (by omega)⟩
        exact hJ5 H locs ls (fun i => ([z67] : List (Int32)).getD i 0) (fun i => ([y_16] : List (Int64)).getD i 0) (fun _ => (fun _ => 0)) (fun _ => (fun _ => 0)) hc (show (12 - z67.toInt).toNat < (12 - (u5_ 0).toInt).toNat from by omega)
      · skip
        have b_ := zF_ge rfl rfl c_
        refine lv_iload hx hb dX10_pack_24 (lv_at hl 3 rfl) ?_
        refine lv_aload_n hx hb dX10_pack_26 rfl (lv_at hl 1 rfl) ?_
        refine va_alen (v := 12) hx hb hK hP 0 0 rfl rfl (show Int32.ofNat 12 = 12 from by decide +kernel) dX10_pack_27 ?_
        refine lv_icmp_ge (tgt := 67) hx hb dX10_pack_28 (by decide) (fun c_ => False.elim (by have b_ := zT_ge rfl zk_12 c_; omega)) (fun c_ => ?_)
        have b_ := zF_ge rfl zk_12 c_
        refine lv_lload_n hx hb dX10_pack_31 rfl (lv_at hl 0 rfl) ?_
        refine lv_aload_n hx hb dX10_pack_32 rfl (lv_at hl 1 rfl) ?_
        refine lv_iload hx hb dX10_pack_33 (lv_at hl 3 rfl) ?_
        refine va_bald hx hb hK hP 0 0 rfl rfl (zin_lit ⟨by omega, by omega⟩) dX10_pack_35 ?_
        refine lv_topi (fun z35 e_z35 => ?_)
        refine lv_bipush (v := 97) hx hb dX10_pack_36 (by decide) ?_
        have b_ : -2147483648 ≤ z35.toInt ∧ z35.toInt ≤ 2147483647 := ⟨zlo _, zhi _⟩
        refine lv_icmp_lt (tgt := 55) hx hb dX10_pack_38 (by decide) (fun c_ => ?_) (fun c_ => ?_)
        · skip
          have b_ := zT_lt rfl zk_97 c_
          refine lv_aload_n hx hb dX10_pack_55 rfl (lv_at hl 1 rfl) ?_
          refine lv_iload hx hb dX10_pack_56 (lv_at hl 3 rfl) ?_
          refine va_bald hx hb hK hP 0 0 rfl rfl (zin_lit ⟨by omega, by omega⟩) dX10_pack_58 ?_
          refine lv_topi (fun z58 e_z58 => ?_)
          refine lv_bipush (v := 48) hx hb dX10_pack_59 (by decide) ?_
          have b_ : -2147483648 ≤ z58.toInt ∧ z58.toInt ≤ 2147483647 := ⟨zlo _, zhi _⟩
          refine lv_isub hx hb dX10_pack_61 ?_
          refine lv_topi (fun z61 e_z61 => ?_)
          refine lv_iconst (v := 1) hx hb dX10_pack_62 (by decide) ?_
          have b_ : -2147483648 ≤ z61.toInt ∧ z61.toInt ≤ 2147483647 := ⟨zlo _, zhi _⟩
          refine lv_iadd hx hb dX10_pack_63 ?_
          refine lv_topi (fun z63 e_z63 => ?_)
          refine lv_i2l hx hb dX10_pack_64 rfl ?_
          refine lv_topl (fun y_64 e_y_64 => ?_)
          refine lv_ladd hx hb dX10_pack_65 ?_
          refine lv_topl (fun y_65 e_y_65 => ?_)
          refine lv_lstore_n (lv' := [(2, .long y_65), (0, .ref h0), (1, .int x1), (4, .int (u5_ 0))]) hx hb dX10_pack_66 rfl hl (by decide) rfl (fun ls hl => ?_)
          obtain ⟨z67, e_z67⟩ : ∃ z : Int32, z = (u5_ 0) + Int32.ofInt 1 := ⟨_, rfl⟩
          have b_ := zadd (x := (u5_ 0)) (y := Int32.ofInt 1) rfl (show (Int32.ofInt 1).toInt = 1 from by decide) e_z67 (by omega) (by omega)
          refine lv_iinc (v := z67) (lv' := [(4, .int z67), (2, .long y_65), (0, .ref h0), (1, .int x1)]) hx hb dX10_pack_67 hl (k := 3) rfl e_z67.symm (by decide) rfl (fun ls hl => ?_)
          refine lv_goto (tgt := 5) hx hb dX10_pack_70 (by decide) ?_
          have hc : va_P (dC, dI) vwCl [(h0, zi k0 12 f0)] H ∧ va_D A [(h0, zi k0 12 f0)] ∧ va_S A s.heap H locs ∧ lv_has ls 5 [(0, .ref h0), (1, .int x1), (2, .long y_65), (4, .int z67)] ∧ (0 ≤ z67.toInt ∧ z67.toInt ≤ 12) ∧ (zpV f0 x1.toInt → y_65.toInt = zpk (fun k => (f0 k).toInt) (x1.toInt).toNat (z67.toInt).toNat) := ⟨hP, hD, hS, lv_sub hl [2, 3, 1, 0] rfl, (by first | with_reducible assumption | exact ⟨by omega, by omega⟩), by first | exact zpk_0 (by decide) (by omega) | exact zpk_s0 (by assumption) e_y_16 (by omega) (by omega) (by omega) (by omega) | exact zpk_sA (by assumption) e_y_16 e_y_51 e_y_65 _ (zclamp (by omega)) e_z35 e_z44 e_z47 e_z50 (by omega) (by omega) (by omega) (by omega) (by omega) | exact zpk_sB (by assumption) e_y_16 e_y_64 e_y_65 _ (zclamp (by omega)) e_z35 e_z58 e_z61 e_z63 (by omega) (by omega) (by omega) (by omega) (by omega)⟩
          exact hJ5 H locs ls (fun i => ([z67] : List (Int32)).getD i 0) (fun i => ([y_65] : List (Int64)).getD i 0) (fun _ => (fun _ => 0)) (fun _ => (fun _ => 0)) hc (show (12 - z67.toInt).toNat < (12 - (u5_ 0).toInt).toNat from by omega)
        · skip
          have b_ := zF_lt rfl zk_97 c_
          refine lv_aload_n hx hb dX10_pack_41 rfl (lv_at hl 1 rfl) ?_
          refine lv_iload hx hb dX10_pack_42 (lv_at hl 3 rfl) ?_
          refine va_bald hx hb hK hP 0 0 rfl rfl (zin_lit ⟨by omega, by omega⟩) dX10_pack_44 ?_
          refine lv_topi (fun z44 e_z44 => ?_)
          refine lv_bipush (v := 97) hx hb dX10_pack_45 (by decide) ?_
          have b_ : -2147483648 ≤ z44.toInt ∧ z44.toInt ≤ 2147483647 := ⟨zlo _, zhi _⟩
          refine lv_isub hx hb dX10_pack_47 ?_
          refine lv_topi (fun z47 e_z47 => ?_)
          refine lv_bipush (v := 11) hx hb dX10_pack_48 (by decide) ?_
          have b_ : -2147483648 ≤ z47.toInt ∧ z47.toInt ≤ 2147483647 := ⟨zlo _, zhi _⟩
          refine lv_iadd hx hb dX10_pack_50 ?_
          refine lv_topi (fun z50 e_z50 => ?_)
          refine lv_i2l hx hb dX10_pack_51 rfl ?_
          refine lv_topl (fun y_51 e_y_51 => ?_)
          refine lv_goto (tgt := 65) hx hb dX10_pack_52 (by decide) ?_
          refine lv_ladd hx hb dX10_pack_65 ?_
          refine lv_topl (fun y_65 e_y_65 => ?_)
          refine lv_lstore_n (lv' := [(2, .long y_65), (0, .ref h0), (1, .int x1), (4, .int (u5_ 0))]) hx hb dX10_pack_66 rfl hl (by decide) rfl (fun ls hl => ?_)
          obtain ⟨z67, e_z67⟩ : ∃ z : Int32, z = (u5_ 0) + Int32.ofInt 1 := ⟨_, rfl⟩
          have b_ := zadd (x := (u5_ 0)) (y := Int32.ofInt 1) rfl (show (Int32.ofInt 1).toInt = 1 from by decide) e_z67 (by omega) (by omega)
          refine lv_iinc (v := z67) (lv' := [(4, .int z67), (2, .long y_65), (0, .ref h0), (1, .int x1)]) hx hb dX10_pack_67 hl (k := 3) rfl e_z67.symm (by decide) rfl (fun ls hl => ?_)
          refine lv_goto (tgt := 5) hx hb dX10_pack_70 (by decide) ?_
          have hc : va_P (dC, dI) vwCl [(h0, zi k0 12 f0)] H ∧ va_D A [(h0, zi k0 12 f0)] ∧ va_S A s.heap H locs ∧ lv_has ls 5 [(0, .ref h0), (1, .int x1), (2, .long y_65), (4, .int z67)] ∧ (0 ≤ z67.toInt ∧ z67.toInt ≤ 12) ∧ (zpV f0 x1.toInt → y_65.toInt = zpk (fun k => (f0 k).toInt) (x1.toInt).toNat (z67.toInt).toNat) := ⟨hP, hD, hS, lv_sub hl [2, 3, 1, 0] rfl, (by first | with_reducible assumption | exact ⟨by omega, by omega⟩), by first | exact zpk_0 (by decide) (by omega) | exact zpk_s0 (by assumption) e_y_16 (by omega) (by omega) (by omega) (by omega) | exact zpk_sA (by assumption) e_y_16 e_y_51 e_y_65 _ (zclamp (by omega)) e_z35 e_z44 e_z47 e_z50 (by omega) (by omega) (by omega) (by omega) (by omega) | exact zpk_sB (by assumption) e_y_16 e_y_64 e_y_65 _ (zclamp (by omega)) e_z35 e_z58 e_z61 e_z63 (by omega) (by omega) (by omega) (by omega) (by omega)⟩
          exact hJ5 H locs ls (fun i => ([z67] : List (Int32)).getD i 0) (fun i => ([y_65] : List (Int64)).getD i 0) (fun _ => (fun _ => 0)) (fun _ => (fun _ => 0)) hc (show (12 - z67.toInt).toNat < (12 - (u5_ 0).toInt).toNat from by omega)
  · skip
    have b_ : -2147483648 ≤ x1.toInt ∧ x1.toInt ≤ 2147483647 := ⟨zlo _, zhi _⟩
    have hc : va_P (dC, dI) vwCl [(h0, zi k0 12 f0)] s.heap ∧ va_D A [(h0, zi k0 12 f0)] ∧ va_S A s.heap s.heap [] ∧ lv_has ls 5 [(0, .ref h0), (1, .int x1), (2, .long 0), (4, .int 0)] ∧ (0 ≤ (0 : Int32).toInt ∧ (0 : Int32).toInt ≤ 12) ∧ (zpV f0 x1.toInt → (0 : Int64).toInt = zpk (fun k => (f0 k).toInt) (x1.toInt).toNat ((0 : Int32).toInt).toNat) := ⟨hP, hD, hS, lv_sub hl [2, 3, 1, 0] rfl, (by first | with_reducible assumption | exact ⟨by omega, by omega⟩), by first | exact zpk_0 (by decide) (by omega) | exact zpk_s0 (by assumption) e_y_16 (by omega) (by omega) (by omega) (by omega) | exact zpk_sA (by assumption) e_y_16 e_y_51 e_y_65 _ (zclamp (by omega)) e_z35 e_z44 e_z47 e_z50 (by omega) (by omega) (by omega) (by omega) (by omega) | exact zpk_sB (by assumption) e_y_16 e_y_64 e_y_65 _ (zclamp (by omega)) e_z35 e_z58 e_z61 e_z63 (by omega) (by omega) (by omega) (by omega) (by omega)⟩
    exact hJ5 s.heap [] ls (fun i => ([0] : List (Int32)).getD i 0) (fun i => ([0] : List (Int64)).getD i 0) (fun _ => (fun _ => 0)) (fun _ => (fun _ => 0)) hc
set_option maxHeartbeats 8000000 in
set_option maxRecDepth 100000 in
theorem sX9_wordOf_0 (l : Launch) (dC : Nat → ClassId) (dI : Nat → Nat → Nat) (adK adV : Nat → Nat) (h0 : Nat) (h1 : Nat) (h2 : Nat) (k1 : ClassId) (k2 : ClassId) (sz : Nat) (v0 : Nat → Int32) (f1 : Nat → Int32) (f2 : Nat → Int32) (x1 : Int32) (hv0 : zR rg_Tape v0) : Met l yX9_wordOf (zw yX9_wordOf cX9_wordOf 2 (some .long)) { frames := 6, cells := 0, slots := 0, locals := 128 } (zPc dC dI adK adV [.ref h0, .int x1] sz [(h0, .inr (9, mX9 h1 h2 v0)), (h1, zi k1 600 f1), (h2, zi k2 12 f2)] [(k1, .byte), (k2, .byte)]) (va_Ql (fun (r : Int64) (u : Nat → Int32) => (0 ≤ (u 0).toInt ∧ (u 0).toInt ≤ 12) ∧ (0 ≤ x1.toInt → x1.toInt ≤ 600 → ∃ m : Nat, zRaw f1 (v0 2).toInt x1.toInt m ∧ r.toInt = zWrd f1 x1.toInt m)) (fun (u : Nat → Int32) (t : State) => ∃ (ww : Nat → Int64) (aa : Nat → Nat → Int32) (bb : Nat → Nat → Int64), va_P (dC, dI) vwCl [(h0, .inr (9, mX9 h1 h2 (upd v0 3 (u 0)))), (h1, zi k1 600 f1), (h2, zi k2 12 (aa 0))] t.heap ∧ va_K (dC, dI) vwCl [(k1, .byte), (k2, .byte)] t ∧ va_D (va_A [(h0, .inr (9, mX9 h1 h2 v0)), (h1, zi k1 600 f1), (h2, zi k2 12 f2)] sz) [(h0, .inr (9, mX9 h1 h2 (upd v0 3 (u 0)))), (h1, zi k1 600 f1), (h2, zi k2 12 (aa 0))]) (va_A [(h0, .inr (9, mX9 h1 h2 v0)), (h1, zi k1 600 f1), (h2, zi k2 12 f2)] sz)) 0 0 (va_A [(h0, .inr (9, mX9 h1 h2 v0)), (h1, zi k1 600 f1), (h2, zi k2 12 f2)] sz) := by
  refine Met.ofW (cc := cX9_wordOf) (maxL := 2) (ret := (some .long)) (by decide) rfl ?_
  intro p e s m args below meth c s₁ B hml hv
  obtain ⟨rfl, hsz, hP, hK, hD0, hE, hZ⟩ := hv
  have hx := B.exec
  have hb := B.bytes
  have hr := B.returns
  have hG : ∀ w ∈ zG, w.before _ s = true := fun w h => atoms_spec (ws := (zw yX9_wordOf cX9_wordOf 2 (some .long))) B.pre w (List.mem_cons_of_mem _ h)
  have hown : s.vm.findClass RX9 = some m.cls := findClass_of_methodNamed B.named
  have hlocks := B.notSynchronized

  subst hsz
  have hD := hD0.self (sz := s.heap.size)
  generalize hAe : va_A [(h0, .inr (9, mX9 h1 h2 v0)), (h1, zi k1 600 f1), (h2, zi k2 12 f2)] s.heap.size = A at hD hZ ⊢
  have hA : ∀ q : Nat, s.heap.size ≤ q → A q := fun q h => by rw [← hAe]; exact Or.inr h
  have hS : va_S A s.heap s.heap [] := va_S.rf
  have hl := lv_entry ([.ref h0, .int x1]) (n := 2) (Nat.le_of_ble_eq_true rfl)
  rw [lg_entry_eq]
  generalize (lg_sl ([.ref h0, .int x1]) ++ List.replicate (2 - (lg_sl ([.ref h0, .int x1])).length) Slot.unset).toArray = ls at hl ⊢
  have hl : lv_has ls 2 [(0, .ref h0), (1, .int x1)] := hl
  have b_ : 0 ≤ (v0 2).toInt ∧ (v0 2).toInt ≤ 600 := hv0 2
  refine lv_aload_n hx hb dX9_wordOf_0 rfl (lv_at hl 0 rfl) ?_
  refine lv_iload_n hx hb dX9_wordOf_1 rfl (lv_at hl 1 rfl) ?_
  have hPc := hP.sub (ws' := [(h0, .inr (9, mX9 h1 h2 v0)), (h1, zi k1 600 f1), (h2, zi k2 12 f2)]) [0, 1, 2] rfl
  have hDc := hD.sub (ws' := [(h0, .inr (9, mX9 h1 h2 v0)), (h1, zi k1 600 f1), (h2, zi k2 12 f2)]) [0, 1, 2] (by decide) rfl
  have hKc := hK.sub (tys' := [(k1, .byte), (k2, .byte)]) [0, 1] rfl
  have hFc := va_free (wc := [(h0, .inr (9, mX9 h1 h2 v0)), (h1, zi k1 600 f1), (h2, zi k2 12 f2)]) hD hS hA [0, 1, 2] rfl
  refine va_callv (va_runV (As := [.int x1]) (rest := []) ⟨hx, hb, hml, hown, hG⟩ (sX9_readLetters_0 l dC dI adK adV h0 h1 h2 k1 k2 s.heap.size v0 f1 f2 x1 hv0) (cwV 1 hG (zgV zv656 zv658 zv1 zv130 zv659) rfl rfl rfl (by decide +kernel) ⟨Nat.le_of_ble_eq_true rfl, Nat.le_of_ble_eq_true rfl⟩) ⟨zPc_blind, va_recv hKc hPc (ci := 9) (q0 := 0) rfl rfl, zPc_pre hPc hKc hDc hE hS hFc hZ⟩ rfl rfl hl.1 rfl (lv_room (Nat.le_of_ble_eq_true rfl)) dX9_wordOf_2 ⟨Nat.le_of_ble_eq_true rfl, Nat.le_of_ble_eq_true rfl⟩) hS (fun q _ h => hFc q h) hFc (fun u2_ t H1 locs ht hvm hw hB hz1 hk1 hS => ?_)
  replace hw : (0 ≤ (u2_ 0).toInt ∧ (u2_ 0).toInt ≤ 12) := hw
  have b_ := hw
  obtain ⟨w2_, a2_, b2_, hB2_0, hB2_1, hP1, hK1, hD1⟩ := hB
  have hB2_0 : 0 ≤ x1.toInt → x1.toInt ≤ 600 → zRl f1 (v0 2).toInt x1.toInt (a2_ 0) (u2_ 0).toInt := hB2_0
  have hB2_1 : 0 ≤ x1.toInt → x1.toInt ≤ 600 → ((u2_ 0).toInt = 12 ∨ ¬ zIn f1 (v0 2).toInt (x1.toInt + (u2_ 0).toInt)) := hB2_1
  rw [ht] at hP1
  obtain ⟨hP, hD⟩ := va_join (wr := []) (w1 := [(h0, .inr (9, mX9 h1 h2 (upd v0 3 (u2_ 0)))), (h1, zi k1 600 f1), (h2, zi k2 12 (a2_ 0))]) hP hD [0, 1, 2] [] rfl rfl (by decide) (by decide) hk1 hFc hP1 hD1
  have hP : va_P (dC, dI) vwCl [(h0, .inr (9, mX9 h1 h2 (upd v0 3 (u2_ 0)))), (h1, zi k1 600 f1), (h2, zi k2 12 (a2_ 0))] H1 := hP.sub [0, 1, 2] rfl
  have hD : va_D A [(h0, .inr (9, mX9 h1 h2 (upd v0 3 (u2_ 0)))), (h1, zi k1 600 f1), (h2, zi k2 12 (a2_ 0))] := hD.sub [0, 1, 2] (by decide) rfl
  generalize H1 = H at hP hS ⊢
  clear hz1
  refine lv_aload_n hx hb dX9_wordOf_5 rfl (lv_at hl 0 rfl) ?_
  have hPc := hP.sub (ws' := [(h0, .inr (9, mX9 h1 h2 (upd v0 3 (u2_ 0)))), (h2, zi k2 12 (a2_ 0))]) [0, 2] rfl
  have hDc := hD.sub (ws' := [(h0, .inr (9, mX9 h1 h2 (upd v0 3 (u2_ 0)))), (h2, zi k2 12 (a2_ 0))]) [0, 2] (by decide) rfl
  have hKc := hK.sub (tys' := [(k2, .byte)]) [1] rfl
  have hFc := va_free (wc := [(h0, .inr (9, mX9 h1 h2 (upd v0 3 (u2_ 0)))), (h2, zi k2 12 (a2_ 0))]) hD hS hA [0, 2] rfl
  refine va_callv (va_runV (As := []) (rest := []) ⟨hx, hb, hml, hown, hG⟩ (sX9_shorten_0 l dC dI adK adV h0 h2 h1 k2 H.size (upd v0 3 (u2_ 0)) (a2_ 0) (zR_up2 hv0 3 (show (0 : Int) ≤ ((u2_ 0) : Int32).toInt ∧ ((u2_ 0) : Int32).toInt ≤ (12 : Int) from (by first | with_reducible assumption | exact ⟨by omega, by omega⟩)))) (cwV 0 hG (zgV zv664 zv666 zv2 zv130 zv667) rfl rfl rfl (by decide +kernel) ⟨Nat.le_of_ble_eq_true rfl, Nat.le_of_ble_eq_true rfl⟩) ⟨zPc_blind, va_recv hKc hPc (ci := 9) (q0 := 0) rfl rfl, zPc_pre hPc hKc hDc hE hS hFc hZ⟩ rfl rfl hl.1 rfl (lv_room (Nat.le_of_ble_eq_true rfl)) dX9_wordOf_6 ⟨Nat.le_of_ble_eq_true rfl, Nat.le_of_ble_eq_true rfl⟩) hS (fun q _ h => hFc q h) hFc (fun u6_ t H1 locs ht hvm hw hB hz1 hk1 hS => ?_)
  replace hw : (0 ≤ (u6_ 0).toInt ∧ (u6_ 0).toInt ≤ 12) ∧ ((u6_ 0).toInt = (zshm (fun k => ((a2_ 0) k).toInt) ((u2_ 0).toInt).toNat : Int)) := hw
  obtain ⟨b_, hX6_0⟩ := hw
  obtain ⟨w6_, a6_, b6_, hB6_0, hP1, hK1, hD1⟩ := hB
  have hB6_0 : ∀ k : Nat, ((a6_ 0) k).toInt = zshl (fun k => ((a2_ 0) k).toInt) ((u2_ 0).toInt).toNat k := hB6_0
  rw [ht] at hP1
  obtain ⟨hP, hD⟩ := va_join (wr := [(h1, zi k1 600 f1)]) (w1 := [(h0, .inr (9, mX9 h1 h2 (upd v0 3 (u6_ 0)))), (h2, zi k2 12 (a6_ 0))]) hP hD [0, 2] [1] rfl rfl (by decide) (by decide) hk1 hFc hP1 hD1
  have hP : va_P (dC, dI) vwCl [(h0, .inr (9, mX9 h1 h2 (upd v0 3 (u6_ 0)))), (h1, zi k1 600 f1), (h2, zi k2 12 (a6_ 0))] H1 := hP.sub [1, 0, 2] rfl
  have hD : va_D A [(h0, .inr (9, mX9 h1 h2 (upd v0 3 (u6_ 0)))), (h1, zi k1 600 f1), (h2, zi k2 12 (a6_ 0))] := hD.sub [1, 0, 2] (by decide) rfl
  generalize H1 = H at hP hS ⊢
  clear hz1
  refine lv_aload_n hx hb dX9_wordOf_9 rfl (lv_at hl 0 rfl) ?_
  refine va_get (D := (dC, dI)) (ci := 9) (v := .ref h2) (C := RX9) (T := TX9) (N := 4) hx hb hG zuX9 hown hK hP 0 rfl rfl 1 (by decide) (hG _ zv170) (fun _ h9 => h9) rfl dX9_wordOf_10 ?_
  refine lv_aload_n hx hb dX9_wordOf_13 rfl (lv_at hl 0 rfl) ?_
  refine va_get (D := (dC, dI)) (ci := 9) (v := .int (u6_ 0)) (C := RX9) (T := TX9) (N := 4) hx hb hG zuX9 hown hK hP 0 rfl rfl 3 (by decide) (hG _ zv172) (fun _ h9 => h9) rfl dX9_wordOf_14 ?_
  have hPc := hP.sub (ws' := [(h2, zi k2 12 (a6_ 0))]) [2] rfl
  have hDc := hD.sub (ws' := [(h2, zi k2 12 (a6_ 0))]) [2] (by decide) rfl
  have hKc := hK.sub (tys' := [(k2, .byte)]) [1] rfl
  have hFc := va_free (wc := [(h2, zi k2 12 (a6_ 0))]) hD hS hA [2] rfl
  refine va_calll (va_runS (As := [.ref h2, .int (u6_ 0)]) (rest := []) ⟨hx, hb, hml, hown, hG⟩ (sX10_pack_0 l dC dI adK adV h2 k2 H.size (a6_ 0) (u6_ 0)) (va_cwS 2 hG (zgS zv731 zv732 zv131 zv733) rfl rfl rfl (by decide +kernel) ⟨Nat.le_of_ble_eq_true rfl, Nat.le_of_ble_eq_true rfl⟩) ⟨zPc_blind, zPc_pre hPc hKc hDc hE hS hFc hZ⟩ rfl rfl hl.1 rfl (lv_room (Nat.le_of_ble_eq_true rfl)) dX9_wordOf_17 ⟨Nat.le_of_ble_eq_true rfl, Nat.le_of_ble_eq_true rfl⟩) hS (fun q _ h => hFc q h) hFc (fun r17_ u17_ t H1 locs ht hvm hw hB hz1 hk1 hS => ?_)
  replace hw : (zpV (a6_ 0) (u6_ 0).toInt → r17_.toInt = zpk (fun k => ((a6_ 0) k).toInt) ((u6_ 0).toInt).toNat 12) := hw
  have hX17_0 := hw
  obtain ⟨w17_, a17_, b17_, hP1, hK1, hD1⟩ := hB
  rw [ht] at hP1
  obtain ⟨hP, hD⟩ := va_join (wr := [(h0, .inr (9, mX9 h1 h2 (upd v0 3 (u6_ 0)))), (h1, zi k1 600 f1)]) (w1 := [(h2, zi k2 12 (a6_ 0))]) hP hD [2] [0, 1] rfl rfl (by decide) (by decide) hk1 hFc hP1 hD1
  have hP : va_P (dC, dI) vwCl [(h0, .inr (9, mX9 h1 h2 (upd v0 3 (u6_ 0)))), (h1, zi k1 600 f1), (h2, zi k2 12 (a6_ 0))] H1 := hP.sub [0, 1, 2] rfl
  have hD : va_D A [(h0, .inr (9, mX9 h1 h2 (upd v0 3 (u6_ 0)))), (h1, zi k1 600 f1), (h2, zi k2 12 (a6_ 0))] := hD.sub [0, 1, 2] (by decide) rfl
  generalize H1 = H at hP hS ⊢
  clear hz1
  refine W.widen (k := 0) (n := 0) (by decide) (by decide) ?_
  have hpost : (0 ≤ (u6_ 0).toInt ∧ (u6_ 0).toInt ≤ 12) ∧ (0 ≤ x1.toInt → x1.toInt ≤ 600 → ∃ m : Nat, zRaw f1 (v0 2).toInt x1.toInt m ∧ r17_.toInt = zWrd f1 x1.toInt m) := ⟨(by first | with_reducible assumption | exact ⟨by omega, by omega⟩), by exact fun p0_ p1_ => zwo9 p0_ (by omega) (hB2_0 p0_ p1_) (hB2_1 p0_ p1_) hX6_0 hB6_0 hX17_0⟩
  have hP9 : va_P (dC, dI) vwCl [(h0, .inr (9, mX9 h1 h2 (upd v0 3 (u6_ 0)))), (h1, zi k1 600 f1), (h2, zi k2 12 (a6_ 0))] H := hP
  have hD9 : va_D A [(h0, .inr (9, mX9 h1 h2 (upd v0 3 (u6_ 0)))), (h1, zi k1 600 f1), (h2, zi k2 12 (a6_ 0))] := hD
  exact W.lret (v := r17_) hx hb hr (fun t ht hW => ⟨⟨r17_, (fun i => ([(u6_ 0)] : List (Int32)).getD i 0), rfl, hpost, (fun _ => 0), (fun i => ([(a6_ 0)] : List (Nat → Int32)).getD i (fun _ => 0)), (fun _ => (fun _ => 0)), by rw [ht]; exact hP9, va_K.moved hW.alike hK, hD9⟩, hS.F ht⟩) hS.2.2 dX9_wordOf_20
set_option maxHeartbeats 8000000 in
set_option maxRecDepth 100000 in
theorem sX10_rankAhead_0 (l : Launch) (dC : Nat → ClassId) (dI : Nat → Nat → Nat) (adK adV : Nat → Nat) (h0 : Nat) (h1 : Nat) (h2 : Nat) (h3 : Nat) (h4 : Nat) (h5 : Nat) (h6 : Nat) (k1 : ClassId) (sz : Nat) (v0 : Nat → Int32) (f1 : Nat → Int64) (y1 : Int64) (hv0 : zR rg_Words10 v0) : Met l yX10_rankAhead (zw yX10_rankAhead cX10_rankAhead 6 (some .int)) { frames := 0, cells := 0, slots := 0, locals := 0 } (zPc dC dI adK adV [.ref h0, .long y1] sz [(h0, .inr (10, mX10 h1 h2 h3 h4 h5 h6 v0)), (h1, .inl (k1, 10, .inr (.inl f1)))] [(k1, .long)]) (va_Qi (fun (r : Int32) (u : Nat → Int32) => (0 ≤ r.toInt ∧ r.toInt ≤ 10) ∧ (r.toInt ≤ (v0 7).toInt) ∧ (zRk f1 (v0 7).toInt y1.toInt r.toInt r.toInt)) (fun (u : Nat → Int32) (t : State) => ∃ (ww : Nat → Int64) (aa : Nat → Nat → Int32) (bb : Nat → Nat → Int64), va_P (dC, dI) vwCl [(h0, .inr (10, mX10 h1 h2 h3 h4 h5 h6 v0)), (h1, .inl (k1, 10, .inr (.inl f1)))] t.heap ∧ va_K (dC, dI) vwCl [(k1, .long)] t ∧ va_D (va_A [(h0, .inr (10, mX10 h1 h2 h3 h4 h5 h6 v0)), (h1, .inl (k1, 10, .inr (.inl f1)))] sz) [(h0, .inr (10, mX10 h1 h2 h3 h4 h5 h6 v0)), (h1, .inl (k1, 10, .inr (.inl f1)))]) (va_A [(h0, .inr (10, mX10 h1 h2 h3 h4 h5 h6 v0)), (h1, .inl (k1, 10, .inr (.inl f1)))] sz)) 0 0 (va_A [(h0, .inr (10, mX10 h1 h2 h3 h4 h5 h6 v0)), (h1, .inl (k1, 10, .inr (.inl f1)))] sz) := by
  refine Met.ofW (cc := cX10_rankAhead) (maxL := 6) (ret := (some .int)) (by decide) rfl ?_
  intro p e s m args below meth c s₁ B hml hv
  obtain ⟨rfl, hsz, hP, hK, hD0, hE, hZ⟩ := hv
  have hx := B.exec
  have hb := B.bytes
  have hr := B.returns
  have hG : ∀ w ∈ zG, w.before _ s = true := fun w h => atoms_spec (ws := (zw yX10_rankAhead cX10_rankAhead 6 (some .int))) B.pre w (List.mem_cons_of_mem _ h)
  have hown : s.vm.findClass RX10 = some m.cls := findClass_of_methodNamed B.named
  have hlocks := B.notSynchronized

  subst hsz
  have hD := hD0.self (sz := s.heap.size)
  generalize hAe : va_A [(h0, .inr (10, mX10 h1 h2 h3 h4 h5 h6 v0)), (h1, .inl (k1, 10, .inr (.inl f1)))] s.heap.size = A at hD hZ ⊢
  have hA : ∀ q : Nat, s.heap.size ≤ q → A q := fun q h => by rw [← hAe]; exact Or.inr h
  have hS : va_S A s.heap s.heap [] := va_S.rf
  have hl := lv_entry ([.ref h0, .long y1]) (n := 6) (Nat.le_of_ble_eq_true rfl)
  rw [lg_entry_eq]
  generalize (lg_sl ([.ref h0, .long y1]) ++ List.replicate (6 - (lg_sl ([.ref h0, .long y1])).length) Slot.unset).toArray = ls at hl ⊢
  have hl : lv_has ls 6 [(0, .ref h0), (1, .long y1)] := hl
  have b_ := zk_0
  have b_ : 0 ≤ (v0 7).toInt ∧ (v0 7).toInt ≤ 10 := hv0 7
  refine lv_iconst (v := 0) hx hb dX10_rankAhead_0 (by decide) ?_
  refine lv_istore_n (lv' := [(3, .int 0), (0, .ref h0), (1, .long y1)]) hx hb dX10_rankAhead_1 rfl hl (by decide) rfl (fun ls hl => ?_)
  refine lv_aload_n hx hb dX10_rankAhead_2 rfl (lv_at hl 1 rfl) ?_
  refine va_get (D := (dC, dI)) (ci := 10) (v := .int (v0 7)) (C := RX10) (T := TX10) (N := 8) hx hb hG zuX10 hown hK hP 0 rfl rfl 7 (by decide) (hG _ zv196) (fun _ h9 => h9) rfl dX10_rankAhead_3 ?_
  refine lv_istore (lv' := [(4, .int (v0 7)), (3, .int 0), (0, .ref h0), (1, .long y1)]) hx hb dX10_rankAhead_6 hl (by decide) rfl (fun ls hl => ?_)
  refine zcutL (fun u8_ => ((u8_ 1).toInt - (u8_ 0).toInt).toNat) (fun H locs ls u8_ w8_ a8_ b8_ => va_P (dC, dI) vwCl [(h0, .inr (10, mX10 h1 h2 h3 h4 h5 h6 v0)), (h1, .inl (k1, 10, .inr (.inl f1)))] H ∧ va_D A [(h0, .inr (10, mX10 h1 h2 h3 h4 h5 h6 v0)), (h1, .inl (k1, 10, .inr (.inl f1)))] ∧ va_S A s.heap H locs ∧ lv_has ls 6 [(0, .ref h0), (1, .long y1), (3, .int (u8_ 0)), (4, .int (u8_ 1))] ∧ (0 ≤ (u8_ 0).toInt ∧ (u8_ 0).toInt ≤ 10) ∧ (0 ≤ (u8_ 1).toInt ∧ (u8_ 1).toInt ≤ 10) ∧ ((u8_ 0).toInt ≤ (u8_ 1).toInt) ∧ ((u8_ 1).toInt ≤ (v0 7).toInt) ∧ (zRk f1 (v0 7).toInt y1.toInt (u8_ 0).toInt (u8_ 1).toInt)) (fun ls u8_ w8_ => F0 m 8 ls []) 0 0 ?_ (fun hJ8 => ?_)
  · skip
    intro H locs ls u8_ w8_ a8_ b8_ hc hJ8
    obtain ⟨hP, hD, hS, hl, b_, b_, b_, b_, hI8_2⟩ := hc
    refine lv_iload_n hx hb dX10_rankAhead_8 rfl (lv_at hl 2 rfl) ?_
    refine lv_iload hx hb dX10_rankAhead_9 (lv_at hl 3 rfl) ?_
    refine lv_icmp_ge (tgt := 49) hx hb dX10_rankAhead_11 (by decide) (fun c_ => ?_) (fun c_ => ?_)
    · skip
      have b_ := zT_ge rfl rfl c_
      refine lv_iload_n hx hb dX10_rankAhead_49 rfl (lv_at hl 2 rfl) ?_
      refine W.widen (k := 0) (n := 0) (by decide) (by decide) ?_
      have hpost : (0 ≤ (u8_ 0).toInt ∧ (u8_ 0).toInt ≤ 10) ∧ ((u8_ 0).toInt ≤ (v0 7).toInt) ∧ (zRk f1 (v0 7).toInt y1.toInt (u8_ 0).toInt (u8_ 0).toInt) := ⟨(by first | with_reducible assumption | exact ⟨by omega, by omega⟩), by omega, by exact zRk_e hI8_2 (by omega) (by omega)⟩
      have hP9 : va_P (dC, dI) vwCl [(h0, .inr (10, mX10 h1 h2 h3 h4 h5 h6 v0)), (h1, .inl (k1, 10, .inr (.inl f1)))] H := hP
      have hD9 : va_D A [(h0, .inr (10, mX10 h1 h2 h3 h4 h5 h6 v0)), (h1, .inl (k1, 10, .inr (.inl f1)))] := hD
      exact W.iret (v := (u8_ 0)) hx hb hr (fun t ht hW => ⟨⟨(u8_ 0), (fun _ => 0), rfl, hpost, (fun _ => 0), (fun _ => (fun _ => 0)), (fun _ => (fun _ => 0)), by rw [ht]; exact hP9, va_K.moved hW.alike hK, hD9⟩, hS.F ht⟩) hS.2.2 dX10_rankAhead_50
    · skip
      have b_ := zF_ge rfl rfl c_
      refine lv_iload_n hx hb dX10_rankAhead_14 rfl (lv_at hl 2 rfl) ?_
      refine lv_iload hx hb dX10_rankAhead_15 (lv_at hl 3 rfl) ?_
      refine lv_iadd hx hb dX10_rankAhead_17 ?_
      refine lv_topi (fun z17 e_z17 => ?_)
      have b_ := zadd rfl rfl e_z17 (by omega) (by omega)
      refine lv_iconst (v := 2) hx hb dX10_rankAhead_18 (by decide) ?_
      refine lv_idiv hx hb dX10_rankAhead_19 (by decide) ?_
      refine lv_topi (fun z19 e_z19 => ?_)
      have b_ := zdiv rfl zk_2 e_z19 (by omega) (by decide)
      refine lv_istore (lv' := [(5, .int z19), (0, .ref h0), (1, .long y1), (3, .int (u8_ 0)), (4, .int (u8_ 1))]) hx hb dX10_rankAhead_20 hl (by decide) rfl (fun ls hl => ?_)
      refine lv_aload_n hx hb dX10_rankAhead_22 rfl (lv_at hl 1 rfl) ?_
      refine va_get (D := (dC, dI)) (ci := 10) (v := .ref h1) (C := RX10) (T := TX10) (N := 8) hx hb hG zuX10 hown hK hP 0 rfl rfl 1 (by decide) (hG _ zv190) (fun _ h9 => h9) rfl dX10_rankAhead_23 ?_
      refine lv_iload hx hb dX10_rankAhead_26 (lv_at hl 0 rfl) ?_
      refine va_lald hx hb hK hP 1 0 rfl rfl (zin_lit ⟨by omega, by omega⟩) dX10_rankAhead_28 ?_
      refine lv_topl (fun y_28 e_y_28 => ?_)
      refine lv_lload_n hx hb dX10_rankAhead_29 rfl (lv_at hl 2 rfl) ?_
      refine W.lcmp hx hb dX10_rankAhead_30 ?_
      refine lv_topi (fun z30 e_z30 => ?_)
      have b_ := zlcmp e_z30
      have b_ : -2147483648 ≤ z30.toInt ∧ z30.toInt ≤ 2147483647 := ⟨zlo _, zhi _⟩
      refine lv_if_ge (tgt := 42) hx hb dX10_rankAhead_31 (by decide) (fun c_ => ?_) (fun c_ => ?_)
      · skip
        have b_ := zT_ge rfl zk_0 c_
        refine lv_iload hx hb dX10_rankAhead_42 (lv_at hl 0 rfl) ?_
        refine lv_istore (lv' := [(4, .int z19), (5, .int z19), (0, .ref h0), (1, .long y1), (3, .int (u8_ 0))]) hx hb dX10_rankAhead_44 hl (by decide) rfl (fun ls hl => ?_)
        refine lv_goto (tgt := 8) hx hb dX10_rankAhead_46 (by decide) ?_
        have hc : va_P (dC, dI) vwCl [(h0, .inr (10, mX10 h1 h2 h3 h4 h5 h6 v0)), (h1, .inl (k1, 10, .inr (.inl f1)))] H ∧ va_D A [(h0, .inr (10, mX10 h1 h2 h3 h4 h5 h6 v0)), (h1, .inl (k1, 10, .inr (.inl f1)))] ∧ va_S A s.heap H locs ∧ lv_has ls 6 [(0, .ref h0), (1, .long y1), (3, .int (u8_ 0)), (4, .int z19)] ∧ (0 ≤ (u8_ 0).toInt ∧ (u8_ 0).toInt ≤ 10) ∧ (0 ≤ z19.toInt ∧ z19.toInt ≤ 10) ∧ ((u8_ 0).toInt ≤ z19.toInt) ∧ (z19.toInt ≤ (v0 7).toInt) ∧ (zRk f1 (v0 7).toInt y1.toInt (u8_ 0).toInt z19.toInt) := ⟨hP, hD, hS, lv_sub hl [2, 3, 4, 0] rfl, (by first | with_reducible assumption | exact ⟨by omega, by omega⟩), (by first | with_reducible assumption | exact ⟨by omega, by omega⟩), by omega, by omega, by first | exact zRk_0 (by omega) (by omega) | exact zRk_a (by assumption) e_y_28 (by omega) (by omega) (by omega) (by omega) | exact zRk_b (by assumption) e_y_28 (by omega) (by omega) (by omega)⟩
        exact hJ8 H locs ls (fun i => ([(u8_ 0), z19] : List (Int32)).getD i 0) (fun _ => 0) (fun _ => (fun _ => 0)) (fun _ => (fun _ => 0)) hc (show (z19.toInt - (u8_ 0).toInt).toNat < ((u8_ 1).toInt - (u8_ 0).toInt).toNat from by omega)
      · skip
        have b_ := zF_ge rfl zk_0 c_
        refine lv_iload hx hb dX10_rankAhead_34 (lv_at hl 0 rfl) ?_
        refine lv_iconst (v := 1) hx hb dX10_rankAhead_36 (by decide) ?_
        refine lv_iadd hx hb dX10_rankAhead_37 ?_
        refine lv_topi (fun z37 e_z37 => ?_)
        have b_ := zadd rfl zk_1 e_z37 (by omega) (by omega)
        refine lv_istore_n (lv' := [(3, .int z37), (5, .int z19), (0, .ref h0), (1, .long y1), (4, .int (u8_ 1))]) hx hb dX10_rankAhead_38 rfl hl (by decide) rfl (fun ls hl => ?_)
        refine lv_goto (tgt := 46) hx hb dX10_rankAhead_39 (by decide) ?_
        refine lv_goto (tgt := 8) hx hb dX10_rankAhead_46 (by decide) ?_
        have hc : va_P (dC, dI) vwCl [(h0, .inr (10, mX10 h1 h2 h3 h4 h5 h6 v0)), (h1, .inl (k1, 10, .inr (.inl f1)))] H ∧ va_D A [(h0, .inr (10, mX10 h1 h2 h3 h4 h5 h6 v0)), (h1, .inl (k1, 10, .inr (.inl f1)))] ∧ va_S A s.heap H locs ∧ lv_has ls 6 [(0, .ref h0), (1, .long y1), (3, .int z37), (4, .int (u8_ 1))] ∧ (0 ≤ z37.toInt ∧ z37.toInt ≤ 10) ∧ (0 ≤ (u8_ 1).toInt ∧ (u8_ 1).toInt ≤ 10) ∧ (z37.toInt ≤ (u8_ 1).toInt) ∧ ((u8_ 1).toInt ≤ (v0 7).toInt) ∧ (zRk f1 (v0 7).toInt y1.toInt z37.toInt (u8_ 1).toInt) := ⟨hP, hD, hS, lv_sub hl [2, 3, 0, 4] rfl, (by first | with_reducible assumption | exact ⟨by omega, by omega⟩), (by first | with_reducible assumption | exact ⟨by omega, by omega⟩), by omega, by omega, by first | exact zRk_0 (by omega) (by omega) | exact zRk_a (by assumption) e_y_28 (by omega) (by omega) (by omega) (by omega) | exact zRk_b (by assumption) e_y_28 (by omega) (by omega) (by omega)⟩
        exact hJ8 H locs ls (fun i => ([z37, (u8_ 1)] : List (Int32)).getD i 0) (fun _ => 0) (fun _ => (fun _ => 0)) (fun _ => (fun _ => 0)) hc (show ((u8_ 1).toInt - z37.toInt).toNat < ((u8_ 1).toInt - (u8_ 0).toInt).toNat from by omega)
  · skip
    have hc : va_P (dC, dI) vwCl [(h0, .inr (10, mX10 h1 h2 h3 h4 h5 h6 v0)), (h1, .inl (k1, 10, .inr (.inl f1)))] s.heap ∧ va_D A [(h0, .inr (10, mX10 h1 h2 h3 h4 h5 h6 v0)), (h1, .inl (k1, 10, .inr (.inl f1)))] ∧ va_S A s.heap s.heap [] ∧ lv_has ls 6 [(0, .ref h0), (1, .long y1), (3, .int 0), (4, .int (v0 7))] ∧ (0 ≤ (0 : Int32).toInt ∧ (0 : Int32).toInt ≤ 10) ∧ (0 ≤ (v0 7).toInt ∧ (v0 7).toInt ≤ 10) ∧ ((0 : Int32).toInt ≤ (v0 7).toInt) ∧ ((v0 7).toInt ≤ (v0 7).toInt) ∧ (zRk f1 (v0 7).toInt y1.toInt (0 : Int32).toInt (v0 7).toInt) := ⟨hP, hD, hS, lv_sub hl [2, 3, 1, 0] rfl, (by first | with_reducible assumption | exact ⟨by omega, by omega⟩), (by first | with_reducible assumption | exact ⟨by omega, by omega⟩), by omega, by omega, by first | exact zRk_0 (by omega) (by omega) | exact zRk_a (by assumption) e_y_28 (by omega) (by omega) (by omega) (by omega) | exact zRk_b (by assumption) e_y_28 (by omega) (by omega) (by omega)⟩
    exact hJ8 s.heap [] ls (fun i => ([0, (v0 7)] : List (Int32)).getD i 0) (fun _ => 0) (fun _ => (fun _ => 0)) (fun _ => (fun _ => 0)) hc
set_option maxHeartbeats 8000000 in
set_option maxRecDepth 100000 in
theorem sX10_rankOf_0 (l : Launch) (dC : Nat → ClassId) (dI : Nat → Nat → Nat) (adK adV : Nat → Nat) (h0 : Nat) (h1 : Nat) (h2 : Nat) (h3 : Nat) (h4 : Nat) (h5 : Nat) (h6 : Nat) (k1 : ClassId) (sz : Nat) (v0 : Nat → Int32) (f1 : Nat → Int64) (y1 : Int64) (hv0 : zR rg_Words10 v0) : Met l yX10_rankOf (zw yX10_rankOf cX10_rankOf 4 (some .int)) { frames := 1, cells := 0, slots := 0, locals := 25 } (zPc dC dI adK adV [.ref h0, .long y1] sz [(h0, .inr (10, mX10 h1 h2 h3 h4 h5 h6 v0)), (h1, .inl (k1, 10, .inr (.inl f1)))] [(k1, .long)]) (va_Qi (fun (r : Int32) (u : Nat → Int32) => ((-1) ≤ r.toInt ∧ r.toInt ≤ 9) ∧ (r.toInt < (v0 7).toInt) ∧ (zRf f1 (v0 7).toInt y1.toInt r.toInt)) (fun (u : Nat → Int32) (t : State) => ∃ (ww : Nat → Int64) (aa : Nat → Nat → Int32) (bb : Nat → Nat → Int64), va_P (dC, dI) vwCl [(h0, .inr (10, mX10 h1 h2 h3 h4 h5 h6 v0)), (h1, .inl (k1, 10, .inr (.inl f1)))] t.heap ∧ va_K (dC, dI) vwCl [(k1, .long)] t ∧ va_D (va_A [(h0, .inr (10, mX10 h1 h2 h3 h4 h5 h6 v0)), (h1, .inl (k1, 10, .inr (.inl f1)))] sz) [(h0, .inr (10, mX10 h1 h2 h3 h4 h5 h6 v0)), (h1, .inl (k1, 10, .inr (.inl f1)))]) (va_A [(h0, .inr (10, mX10 h1 h2 h3 h4 h5 h6 v0)), (h1, .inl (k1, 10, .inr (.inl f1)))] sz)) 0 0 (va_A [(h0, .inr (10, mX10 h1 h2 h3 h4 h5 h6 v0)), (h1, .inl (k1, 10, .inr (.inl f1)))] sz) := by
  refine Met.ofW (cc := cX10_rankOf) (maxL := 4) (ret := (some .int)) (by decide) rfl ?_
  intro p e s m args below meth c s₁ B hml hv
  obtain ⟨rfl, hsz, hP, hK, hD0, hE, hZ⟩ := hv
  have hx := B.exec
  have hb := B.bytes
  have hr := B.returns
  have hG : ∀ w ∈ zG, w.before _ s = true := fun w h => atoms_spec (ws := (zw yX10_rankOf cX10_rankOf 4 (some .int))) B.pre w (List.mem_cons_of_mem _ h)
  have hown : s.vm.findClass RX10 = some m.cls := findClass_of_methodNamed B.named
  have hlocks := B.notSynchronized

  subst hsz
  have hD := hD0.self (sz := s.heap.size)
  generalize hAe : va_A [(h0, .inr (10, mX10 h1 h2 h3 h4 h5 h6 v0)), (h1, .inl (k1, 10, .inr (.inl f1)))] s.heap.size = A at hD hZ ⊢
  have hA : ∀ q : Nat, s.heap.size ≤ q → A q := fun q h => by rw [← hAe]; exact Or.inr h
  have hS : va_S A s.heap s.heap [] := va_S.rf
  have hl := lv_entry ([.ref h0, .long y1]) (n := 4) (Nat.le_of_ble_eq_true rfl)
  rw [lg_entry_eq]
  generalize (lg_sl ([.ref h0, .long y1]) ++ List.replicate (4 - (lg_sl ([.ref h0, .long y1])).length) Slot.unset).toArray = ls at hl ⊢
  have hl : lv_has ls 4 [(0, .ref h0), (1, .long y1)] := hl
  have b_ := zk_m1
  have b_ : 0 ≤ (v0 7).toInt ∧ (v0 7).toInt ≤ 10 := hv0 7
  refine lv_aload_n hx hb dX10_rankOf_0 rfl (lv_at hl 0 rfl) ?_
  refine lv_lload_n hx hb dX10_rankOf_1 rfl (lv_at hl 1 rfl) ?_
  have hPc := hP.sub (ws' := [(h0, .inr (10, mX10 h1 h2 h3 h4 h5 h6 v0)), (h1, .inl (k1, 10, .inr (.inl f1)))]) [0, 1] rfl
  have hDc := hD.sub (ws' := [(h0, .inr (10, mX10 h1 h2 h3 h4 h5 h6 v0)), (h1, .inl (k1, 10, .inr (.inl f1)))]) [0, 1] (by decide) rfl
  have hKc := hK.sub (tys' := [(k1, .long)]) [0] rfl
  have hFc := va_free (wc := [(h0, .inr (10, mX10 h1 h2 h3 h4 h5 h6 v0)), (h1, .inl (k1, 10, .inr (.inl f1)))]) hD hS hA [0, 1] rfl
  refine va_calli (va_runV (As := [.long y1]) (rest := []) ⟨hx, hb, hml, hown, hG⟩ (sX10_rankAhead_0 l dC dI adK adV h0 h1 h2 h3 h4 h5 h6 k1 s.heap.size v0 f1 y1 hv0) (cwV 1 hG (zgV zv743 zv744 zv745 zv131 zv746) rfl rfl rfl (by decide +kernel) ⟨Nat.le_of_ble_eq_true rfl, Nat.le_of_ble_eq_true rfl⟩) ⟨zPc_blind, va_recv hKc hPc (ci := 10) (q0 := 0) rfl rfl, zPc_pre hPc hKc hDc hE hS hFc hZ⟩ rfl rfl hl.1 rfl (lv_room (Nat.le_of_ble_eq_true rfl)) dX10_rankOf_2 ⟨Nat.le_of_ble_eq_true rfl, Nat.le_of_ble_eq_true rfl⟩) hS (fun q _ h => hFc q h) hFc (fun r2_ u2_ t H1 locs ht hvm hw hB hz1 hk1 hS => ?_)
  replace hw : (0 ≤ r2_.toInt ∧ r2_.toInt ≤ 10) ∧ (r2_.toInt ≤ (v0 7).toInt) ∧ (zRk f1 (v0 7).toInt y1.toInt r2_.toInt r2_.toInt) := hw
  obtain ⟨b_, hX2_0, hX2_1⟩ := hw
  obtain ⟨w2_, a2_, b2_, hP1, hK1, hD1⟩ := hB
  rw [ht] at hP1
  obtain ⟨hP, hD⟩ := va_join (wr := []) (w1 := [(h0, .inr (10, mX10 h1 h2 h3 h4 h5 h6 v0)), (h1, .inl (k1, 10, .inr (.inl f1)))]) hP hD [0, 1] [] rfl rfl (by decide) (by decide) hk1 hFc hP1 hD1
  have hP : va_P (dC, dI) vwCl [(h0, .inr (10, mX10 h1 h2 h3 h4 h5 h6 v0)), (h1, .inl (k1, 10, .inr (.inl f1)))] H1 := hP.sub [0, 1] rfl
  have hD : va_D A [(h0, .inr (10, mX10 h1 h2 h3 h4 h5 h6 v0)), (h1, .inl (k1, 10, .inr (.inl f1)))] := hD.sub [0, 1] (by decide) rfl
  generalize H1 = H at hP hS ⊢
  clear hz1
  refine lv_istore_n (lv' := [(3, .int r2_), (0, .ref h0), (1, .long y1)]) hx hb dX10_rankOf_5 rfl hl (by decide) rfl (fun ls hl => ?_)
  refine lv_iload_n hx hb dX10_rankOf_6 rfl (lv_at hl 0 rfl) ?_
  refine lv_aload_n hx hb dX10_rankOf_7 rfl (lv_at hl 1 rfl) ?_
  refine va_get (D := (dC, dI)) (ci := 10) (v := .int (v0 7)) (C := RX10) (T := TX10) (N := 8) hx hb hG zuX10 hown hK hP 0 rfl rfl 7 (by decide) (hG _ zv196) (fun _ h9 => h9) rfl dX10_rankOf_8 ?_
  refine lv_icmp_ge (tgt := 29) hx hb dX10_rankOf_11 (by decide) (fun c_ => ?_) (fun c_ => ?_)
  · skip
    have b_ := zT_ge rfl rfl c_
    refine lv_iconst (v := (-1)) hx hb dX10_rankOf_29 (by decide) ?_
    refine W.widen (k := 0) (n := 0) (by decide) (by decide) ?_
    have hpost : ((-1) ≤ ((-1) : Int32).toInt ∧ ((-1) : Int32).toInt ≤ 9) ∧ (((-1) : Int32).toInt < (v0 7).toInt) ∧ (zRf f1 (v0 7).toInt y1.toInt ((-1) : Int32).toInt) := ⟨(by first | with_reducible assumption | exact ⟨by omega, by omega⟩), by omega, by first | exact zRf_1 hX2_1 (by omega) (by omega) | exact zRf_2 e_y_19 (by omega) (by omega) (by omega) | exact zRf_3 hX2_1 e_y_19 (by omega) (by omega) (by omega) (by omega)⟩
    have hP9 : va_P (dC, dI) vwCl [(h0, .inr (10, mX10 h1 h2 h3 h4 h5 h6 v0)), (h1, .inl (k1, 10, .inr (.inl f1)))] H := hP
    have hD9 : va_D A [(h0, .inr (10, mX10 h1 h2 h3 h4 h5 h6 v0)), (h1, .inl (k1, 10, .inr (.inl f1)))] := hD
    exact W.iret (v := (-1)) hx hb hr (fun t ht hW => ⟨⟨(-1), (fun _ => 0), rfl, hpost, (fun _ => 0), (fun _ => (fun _ => 0)), (fun _ => (fun _ => 0)), by rw [ht]; exact hP9, va_K.moved hW.alike hK, hD9⟩, hS.F ht⟩) hS.2.2 dX10_rankOf_30
  · skip
    have b_ := zF_ge rfl rfl c_
    refine lv_aload_n hx hb dX10_rankOf_14 rfl (lv_at hl 1 rfl) ?_
    refine va_get (D := (dC, dI)) (ci := 10) (v := .ref h1) (C := RX10) (T := TX10) (N := 8) hx hb hG zuX10 hown hK hP 0 rfl rfl 1 (by decide) (hG _ zv190) (fun _ h9 => h9) rfl dX10_rankOf_15 ?_
    refine lv_iload_n hx hb dX10_rankOf_18 rfl (lv_at hl 0 rfl) ?_
    refine va_lald hx hb hK hP 1 0 rfl rfl (zin_lit ⟨by omega, by omega⟩) dX10_rankOf_19 ?_
    refine lv_topl (fun y_19 e_y_19 => ?_)
    refine lv_lload_n hx hb dX10_rankOf_20 rfl (lv_at hl 2 rfl) ?_
    refine W.lcmp hx hb dX10_rankOf_21 ?_
    refine lv_topi (fun z21 e_z21 => ?_)
    have b_ := zlcmp e_z21
    have b_ : -2147483648 ≤ z21.toInt ∧ z21.toInt ≤ 2147483647 := ⟨zlo _, zhi _⟩
    refine lv_if_ne (tgt := 29) hx hb dX10_rankOf_22 (by decide) (fun c_ => ?_) (fun c_ => ?_)
    · skip
      have b_ := zT_ne rfl zk_0 c_
      refine lv_iconst (v := (-1)) hx hb dX10_rankOf_29 (by decide) ?_
      refine W.widen (k := 0) (n := 0) (by decide) (by decide) ?_
      have hpost : ((-1) ≤ ((-1) : Int32).toInt ∧ ((-1) : Int32).toInt ≤ 9) ∧ (((-1) : Int32).toInt < (v0 7).toInt) ∧ (zRf f1 (v0 7).toInt y1.toInt ((-1) : Int32).toInt) := ⟨(by first | with_reducible assumption | exact ⟨by omega, by omega⟩), by omega, by first | exact zRf_1 hX2_1 (by omega) (by omega) | exact zRf_2 e_y_19 (by omega) (by omega) (by omega) | exact zRf_3 hX2_1 e_y_19 (by omega) (by omega) (by omega) (by omega)⟩
      have hP9 : va_P (dC, dI) vwCl [(h0, .inr (10, mX10 h1 h2 h3 h4 h5 h6 v0)), (h1, .inl (k1, 10, .inr (.inl f1)))] H := hP
      have hD9 : va_D A [(h0, .inr (10, mX10 h1 h2 h3 h4 h5 h6 v0)), (h1, .inl (k1, 10, .inr (.inl f1)))] := hD
      exact W.iret (v := (-1)) hx hb hr (fun t ht hW => ⟨⟨(-1), (fun _ => 0), rfl, hpost, (fun _ => 0), (fun _ => (fun _ => 0)), (fun _ => (fun _ => 0)), by rw [ht]; exact hP9, va_K.moved hW.alike hK, hD9⟩, hS.F ht⟩) hS.2.2 dX10_rankOf_30
    · skip
      have b_ := zF_ne rfl zk_0 c_
      refine lv_iload_n hx hb dX10_rankOf_25 rfl (lv_at hl 0 rfl) ?_
      refine lv_goto (tgt := 30) hx hb dX10_rankOf_26 (by decide) ?_
      refine W.widen (k := 0) (n := 0) (by decide) (by decide) ?_
      have hpost : ((-1) ≤ r2_.toInt ∧ r2_.toInt ≤ 9) ∧ (r2_.toInt < (v0 7).toInt) ∧ (zRf f1 (v0 7).toInt y1.toInt r2_.toInt) := ⟨(by first | with_reducible assumption | exact ⟨by omega, by omega⟩), by omega, by first | exact zRf_1 hX2_1 (by omega) (by omega) | exact zRf_2 e_y_19 (by omega) (by omega) (by omega) | exact zRf_3 hX2_1 e_y_19 (by omega) (by omega) (by omega) (by omega)⟩
      have hP9 : va_P (dC, dI) vwCl [(h0, .inr (10, mX10 h1 h2 h3 h4 h5 h6 v0)), (h1, .inl (k1, 10, .inr (.inl f1)))] H := hP
      have hD9 : va_D A [(h0, .inr (10, mX10 h1 h2 h3 h4 h5 h6 v0)), (h1, .inl (k1, 10, .inr (.inl f1)))] := hD
      exact W.iret (v := r2_) hx hb hr (fun t ht hW => ⟨⟨r2_, (fun _ => 0), rfl, hpost, (fun _ => 0), (fun _ => (fun _ => 0)), (fun _ => (fun _ => 0)), by rw [ht]; exact hP9, va_K.moved hW.alike hK, hD9⟩, hS.F ht⟩) hS.2.2 dX10_rankOf_30
set_option maxHeartbeats 8000000 in
set_option maxRecDepth 100000 in
theorem sX10_rankAhead_1 (l : Launch) (dC : Nat → ClassId) (dI : Nat → Nat → Nat) (adK adV : Nat → Nat) (h0 : Nat) (h1 : Nat) (h2 : Nat) (h3 : Nat) (h4 : Nat) (h5 : Nat) (h6 : Nat) (k1 : ClassId) (sz : Nat) (v0 : Nat → Int32) (f1 : Nat → Int64) (y1 : Int64) (hv0 : zR rg_Words400 v0) : Met l yX10_rankAhead (zw yX10_rankAhead cX10_rankAhead 6 (some .int)) { frames := 0, cells := 0, slots := 0, locals := 0 } (zPc dC dI adK adV [.ref h0, .long y1] sz [(h0, .inr (10, mX10 h1 h2 h3 h4 h5 h6 v0)), (h1, .inl (k1, 400, .inr (.inl f1)))] [(k1, .long)]) (va_Qi (fun (r : Int32) (u : Nat → Int32) => (0 ≤ r.toInt ∧ r.toInt ≤ 400) ∧ (r.toInt ≤ (v0 7).toInt) ∧ (zRk f1 (v0 7).toInt y1.toInt r.toInt r.toInt)) (fun (u : Nat → Int32) (t : State) => ∃ (ww : Nat → Int64) (aa : Nat → Nat → Int32) (bb : Nat → Nat → Int64), va_P (dC, dI) vwCl [(h0, .inr (10, mX10 h1 h2 h3 h4 h5 h6 v0)), (h1, .inl (k1, 400, .inr (.inl f1)))] t.heap ∧ va_K (dC, dI) vwCl [(k1, .long)] t ∧ va_D (va_A [(h0, .inr (10, mX10 h1 h2 h3 h4 h5 h6 v0)), (h1, .inl (k1, 400, .inr (.inl f1)))] sz) [(h0, .inr (10, mX10 h1 h2 h3 h4 h5 h6 v0)), (h1, .inl (k1, 400, .inr (.inl f1)))]) (va_A [(h0, .inr (10, mX10 h1 h2 h3 h4 h5 h6 v0)), (h1, .inl (k1, 400, .inr (.inl f1)))] sz)) 0 0 (va_A [(h0, .inr (10, mX10 h1 h2 h3 h4 h5 h6 v0)), (h1, .inl (k1, 400, .inr (.inl f1)))] sz) := by
  refine Met.ofW (cc := cX10_rankAhead) (maxL := 6) (ret := (some .int)) (by decide) rfl ?_
  intro p e s m args below meth c s₁ B hml hv
  obtain ⟨rfl, hsz, hP, hK, hD0, hE, hZ⟩ := hv
  have hx := B.exec
  have hb := B.bytes
  have hr := B.returns
  have hG : ∀ w ∈ zG, w.before _ s = true := fun w h => atoms_spec (ws := (zw yX10_rankAhead cX10_rankAhead 6 (some .int))) B.pre w (List.mem_cons_of_mem _ h)
  have hown : s.vm.findClass RX10 = some m.cls := findClass_of_methodNamed B.named
  have hlocks := B.notSynchronized

  subst hsz
  have hD := hD0.self (sz := s.heap.size)
  generalize hAe : va_A [(h0, .inr (10, mX10 h1 h2 h3 h4 h5 h6 v0)), (h1, .inl (k1, 400, .inr (.inl f1)))] s.heap.size = A at hD hZ ⊢
  have hA : ∀ q : Nat, s.heap.size ≤ q → A q := fun q h => by rw [← hAe]; exact Or.inr h
  have hS : va_S A s.heap s.heap [] := va_S.rf
  have hl := lv_entry ([.ref h0, .long y1]) (n := 6) (Nat.le_of_ble_eq_true rfl)
  rw [lg_entry_eq]
  generalize (lg_sl ([.ref h0, .long y1]) ++ List.replicate (6 - (lg_sl ([.ref h0, .long y1])).length) Slot.unset).toArray = ls at hl ⊢
  have hl : lv_has ls 6 [(0, .ref h0), (1, .long y1)] := hl
  have b_ := zk_0
  have b_ : 0 ≤ (v0 7).toInt ∧ (v0 7).toInt ≤ 400 := hv0 7
  refine lv_iconst (v := 0) hx hb dX10_rankAhead_0 (by decide) ?_
  refine lv_istore_n (lv' := [(3, .int 0), (0, .ref h0), (1, .long y1)]) hx hb dX10_rankAhead_1 rfl hl (by decide) rfl (fun ls hl => ?_)
  refine lv_aload_n hx hb dX10_rankAhead_2 rfl (lv_at hl 1 rfl) ?_
  refine va_get (D := (dC, dI)) (ci := 10) (v := .int (v0 7)) (C := RX10) (T := TX10) (N := 8) hx hb hG zuX10 hown hK hP 0 rfl rfl 7 (by decide) (hG _ zv196) (fun _ h9 => h9) rfl dX10_rankAhead_3 ?_
  refine lv_istore (lv' := [(4, .int (v0 7)), (3, .int 0), (0, .ref h0), (1, .long y1)]) hx hb dX10_rankAhead_6 hl (by decide) rfl (fun ls hl => ?_)
  refine zcutL (fun u8_ => ((u8_ 1).toInt - (u8_ 0).toInt).toNat) (fun H locs ls u8_ w8_ a8_ b8_ => va_P (dC, dI) vwCl [(h0, .inr (10, mX10 h1 h2 h3 h4 h5 h6 v0)), (h1, .inl (k1, 400, .inr (.inl f1)))] H ∧ va_D A [(h0, .inr (10, mX10 h1 h2 h3 h4 h5 h6 v0)), (h1, .inl (k1, 400, .inr (.inl f1)))] ∧ va_S A s.heap H locs ∧ lv_has ls 6 [(0, .ref h0), (1, .long y1), (3, .int (u8_ 0)), (4, .int (u8_ 1))] ∧ (0 ≤ (u8_ 0).toInt ∧ (u8_ 0).toInt ≤ 400) ∧ (0 ≤ (u8_ 1).toInt ∧ (u8_ 1).toInt ≤ 400) ∧ ((u8_ 0).toInt ≤ (u8_ 1).toInt) ∧ ((u8_ 1).toInt ≤ (v0 7).toInt) ∧ (zRk f1 (v0 7).toInt y1.toInt (u8_ 0).toInt (u8_ 1).toInt)) (fun ls u8_ w8_ => F0 m 8 ls []) 0 0 ?_ (fun hJ8 => ?_)
  · skip
    intro H locs ls u8_ w8_ a8_ b8_ hc hJ8
    obtain ⟨hP, hD, hS, hl, b_, b_, b_, b_, hI8_2⟩ := hc
    refine lv_iload_n hx hb dX10_rankAhead_8 rfl (lv_at hl 2 rfl) ?_
    refine lv_iload hx hb dX10_rankAhead_9 (lv_at hl 3 rfl) ?_
    refine lv_icmp_ge (tgt := 49) hx hb dX10_rankAhead_11 (by decide) (fun c_ => ?_) (fun c_ => ?_)
    · skip
      have b_ := zT_ge rfl rfl c_
      refine lv_iload_n hx hb dX10_rankAhead_49 rfl (lv_at hl 2 rfl) ?_
      refine W.widen (k := 0) (n := 0) (by decide) (by decide) ?_
      have hpost : (0 ≤ (u8_ 0).toInt ∧ (u8_ 0).toInt ≤ 400) ∧ ((u8_ 0).toInt ≤ (v0 7).toInt) ∧ (zRk f1 (v0 7).toInt y1.toInt (u8_ 0).toInt (u8_ 0).toInt) := ⟨(by first | with_reducible assumption | exact ⟨by omega, by omega⟩), by omega, by exact zRk_e hI8_2 (by omega) (by omega)⟩
      have hP9 : va_P (dC, dI) vwCl [(h0, .inr (10, mX10 h1 h2 h3 h4 h5 h6 v0)), (h1, .inl (k1, 400, .inr (.inl f1)))] H := hP
      have hD9 : va_D A [(h0, .inr (10, mX10 h1 h2 h3 h4 h5 h6 v0)), (h1, .inl (k1, 400, .inr (.inl f1)))] := hD
      exact W.iret (v := (u8_ 0)) hx hb hr (fun t ht hW => ⟨⟨(u8_ 0), (fun _ => 0), rfl, hpost, (fun _ => 0), (fun _ => (fun _ => 0)), (fun _ => (fun _ => 0)), by rw [ht]; exact hP9, va_K.moved hW.alike hK, hD9⟩, hS.F ht⟩) hS.2.2 dX10_rankAhead_50
    · skip
      have b_ := zF_ge rfl rfl c_
      refine lv_iload_n hx hb dX10_rankAhead_14 rfl (lv_at hl 2 rfl) ?_
      refine lv_iload hx hb dX10_rankAhead_15 (lv_at hl 3 rfl) ?_
      refine lv_iadd hx hb dX10_rankAhead_17 ?_
      refine lv_topi (fun z17 e_z17 => ?_)
      have b_ := zadd rfl rfl e_z17 (by omega) (by omega)
      refine lv_iconst (v := 2) hx hb dX10_rankAhead_18 (by decide) ?_
      refine lv_idiv hx hb dX10_rankAhead_19 (by decide) ?_
      refine lv_topi (fun z19 e_z19 => ?_)
      have b_ := zdiv rfl zk_2 e_z19 (by omega) (by decide)
      refine lv_istore (lv' := [(5, .int z19), (0, .ref h0), (1, .long y1), (3, .int (u8_ 0)), (4, .int (u8_ 1))]) hx hb dX10_rankAhead_20 hl (by decide) rfl (fun ls hl => ?_)
      refine lv_aload_n hx hb dX10_rankAhead_22 rfl (lv_at hl 1 rfl) ?_
      refine va_get (D := (dC, dI)) (ci := 10) (v := .ref h1) (C := RX10) (T := TX10) (N := 8) hx hb hG zuX10 hown hK hP 0 rfl rfl 1 (by decide) (hG _ zv190) (fun _ h9 => h9) rfl dX10_rankAhead_23 ?_
      refine lv_iload hx hb dX10_rankAhead_26 (lv_at hl 0 rfl) ?_
      refine va_lald hx hb hK hP 1 0 rfl rfl (zin_lit ⟨by omega, by omega⟩) dX10_rankAhead_28 ?_
      refine lv_topl (fun y_28 e_y_28 => ?_)
      refine lv_lload_n hx hb dX10_rankAhead_29 rfl (lv_at hl 2 rfl) ?_
      refine W.lcmp hx hb dX10_rankAhead_30 ?_
      refine lv_topi (fun z30 e_z30 => ?_)
      have b_ := zlcmp e_z30
      have b_ : -2147483648 ≤ z30.toInt ∧ z30.toInt ≤ 2147483647 := ⟨zlo _, zhi _⟩
      refine lv_if_ge (tgt := 42) hx hb dX10_rankAhead_31 (by decide) (fun c_ => ?_) (fun c_ => ?_)
      · skip
        have b_ := zT_ge rfl zk_0 c_
        refine lv_iload hx hb dX10_rankAhead_42 (lv_at hl 0 rfl) ?_
        refine lv_istore (lv' := [(4, .int z19), (5, .int z19), (0, .ref h0), (1, .long y1), (3, .int (u8_ 0))]) hx hb dX10_rankAhead_44 hl (by decide) rfl (fun ls hl => ?_)
        refine lv_goto (tgt := 8) hx hb dX10_rankAhead_46 (by decide) ?_
        have hc : va_P (dC, dI) vwCl [(h0, .inr (10, mX10 h1 h2 h3 h4 h5 h6 v0)), (h1, .inl (k1, 400, .inr (.inl f1)))] H ∧ va_D A [(h0, .inr (10, mX10 h1 h2 h3 h4 h5 h6 v0)), (h1, .inl (k1, 400, .inr (.inl f1)))] ∧ va_S A s.heap H locs ∧ lv_has ls 6 [(0, .ref h0), (1, .long y1), (3, .int (u8_ 0)), (4, .int z19)] ∧ (0 ≤ (u8_ 0).toInt ∧ (u8_ 0).toInt ≤ 400) ∧ (0 ≤ z19.toInt ∧ z19.toInt ≤ 400) ∧ ((u8_ 0).toInt ≤ z19.toInt) ∧ (z19.toInt ≤ (v0 7).toInt) ∧ (zRk f1 (v0 7).toInt y1.toInt (u8_ 0).toInt z19.toInt) := ⟨hP, hD, hS, lv_sub hl [2, 3, 4, 0] rfl, (by first | with_reducible assumption | exact ⟨by omega, by omega⟩), (by first | with_reducible assumption | exact ⟨by omega, by omega⟩), by omega, by omega, by first | exact zRk_0 (by omega) (by omega) | exact zRk_a (by assumption) e_y_28 (by omega) (by omega) (by omega) (by omega) | exact zRk_b (by assumption) e_y_28 (by omega) (by omega) (by omega)⟩
        exact hJ8 H locs ls (fun i => ([(u8_ 0), z19] : List (Int32)).getD i 0) (fun _ => 0) (fun _ => (fun _ => 0)) (fun _ => (fun _ => 0)) hc (show (z19.toInt - (u8_ 0).toInt).toNat < ((u8_ 1).toInt - (u8_ 0).toInt).toNat from by omega)
      · skip
        have b_ := zF_ge rfl zk_0 c_
        refine lv_iload hx hb dX10_rankAhead_34 (lv_at hl 0 rfl) ?_
        refine lv_iconst (v := 1) hx hb dX10_rankAhead_36 (by decide) ?_
        refine lv_iadd hx hb dX10_rankAhead_37 ?_
        refine lv_topi (fun z37 e_z37 => ?_)
        have b_ := zadd rfl zk_1 e_z37 (by omega) (by omega)
        refine lv_istore_n (lv' := [(3, .int z37), (5, .int z19), (0, .ref h0), (1, .long y1), (4, .int (u8_ 1))]) hx hb dX10_rankAhead_38 rfl hl (by decide) rfl (fun ls hl => ?_)
        refine lv_goto (tgt := 46) hx hb dX10_rankAhead_39 (by decide) ?_
        refine lv_goto (tgt := 8) hx hb dX10_rankAhead_46 (by decide) ?_
        have hc : va_P (dC, dI) vwCl [(h0, .inr (10, mX10 h1 h2 h3 h4 h5 h6 v0)), (h1, .inl (k1, 400, .inr (.inl f1)))] H ∧ va_D A [(h0, .inr (10, mX10 h1 h2 h3 h4 h5 h6 v0)), (h1, .inl (k1, 400, .inr (.inl f1)))] ∧ va_S A s.heap H locs ∧ lv_has ls 6 [(0, .ref h0), (1, .long y1), (3, .int z37), (4, .int (u8_ 1))] ∧ (0 ≤ z37.toInt ∧ z37.toInt ≤ 400) ∧ (0 ≤ (u8_ 1).toInt ∧ (u8_ 1).toInt ≤ 400) ∧ (z37.toInt ≤ (u8_ 1).toInt) ∧ ((u8_ 1).toInt ≤ (v0 7).toInt) ∧ (zRk f1 (v0 7).toInt y1.toInt z37.toInt (u8_ 1).toInt) := ⟨hP, hD, hS, lv_sub hl [2, 3, 0, 4] rfl, (by first | with_reducible assumption | exact ⟨by omega, by omega⟩), (by first | with_reducible assumption | exact ⟨by omega, by omega⟩), by omega, by omega, by first | exact zRk_0 (by omega) (by omega) | exact zRk_a (by assumption) e_y_28 (by omega) (by omega) (by omega) (by omega) | exact zRk_b (by assumption) e_y_28 (by omega) (by omega) (by omega)⟩
        exact hJ8 H locs ls (fun i => ([z37, (u8_ 1)] : List (Int32)).getD i 0) (fun _ => 0) (fun _ => (fun _ => 0)) (fun _ => (fun _ => 0)) hc (show ((u8_ 1).toInt - z37.toInt).toNat < ((u8_ 1).toInt - (u8_ 0).toInt).toNat from by omega)
  · skip
    have hc : va_P (dC, dI) vwCl [(h0, .inr (10, mX10 h1 h2 h3 h4 h5 h6 v0)), (h1, .inl (k1, 400, .inr (.inl f1)))] s.heap ∧ va_D A [(h0, .inr (10, mX10 h1 h2 h3 h4 h5 h6 v0)), (h1, .inl (k1, 400, .inr (.inl f1)))] ∧ va_S A s.heap s.heap [] ∧ lv_has ls 6 [(0, .ref h0), (1, .long y1), (3, .int 0), (4, .int (v0 7))] ∧ (0 ≤ (0 : Int32).toInt ∧ (0 : Int32).toInt ≤ 400) ∧ (0 ≤ (v0 7).toInt ∧ (v0 7).toInt ≤ 400) ∧ ((0 : Int32).toInt ≤ (v0 7).toInt) ∧ ((v0 7).toInt ≤ (v0 7).toInt) ∧ (zRk f1 (v0 7).toInt y1.toInt (0 : Int32).toInt (v0 7).toInt) := ⟨hP, hD, hS, lv_sub hl [2, 3, 1, 0] rfl, (by first | with_reducible assumption | exact ⟨by omega, by omega⟩), (by first | with_reducible assumption | exact ⟨by omega, by omega⟩), by omega, by omega, by first | exact zRk_0 (by omega) (by omega) | exact zRk_a (by assumption) e_y_28 (by omega) (by omega) (by omega) (by omega) | exact zRk_b (by assumption) e_y_28 (by omega) (by omega) (by omega)⟩
    exact hJ8 s.heap [] ls (fun i => ([0, (v0 7)] : List (Int32)).getD i 0) (fun _ => 0) (fun _ => (fun _ => 0)) (fun _ => (fun _ => 0)) hc
set_option maxHeartbeats 8000000 in
set_option maxRecDepth 100000 in
theorem sX10_rankOf_1 (l : Launch) (dC : Nat → ClassId) (dI : Nat → Nat → Nat) (adK adV : Nat → Nat) (h0 : Nat) (h1 : Nat) (h2 : Nat) (h3 : Nat) (h4 : Nat) (h5 : Nat) (h6 : Nat) (k1 : ClassId) (sz : Nat) (v0 : Nat → Int32) (f1 : Nat → Int64) (y1 : Int64) (hv0 : zR rg_Words400 v0) : Met l yX10_rankOf (zw yX10_rankOf cX10_rankOf 4 (some .int)) { frames := 1, cells := 0, slots := 0, locals := 25 } (zPc dC dI adK adV [.ref h0, .long y1] sz [(h0, .inr (10, mX10 h1 h2 h3 h4 h5 h6 v0)), (h1, .inl (k1, 400, .inr (.inl f1)))] [(k1, .long)]) (va_Qi (fun (r : Int32) (u : Nat → Int32) => ((-1) ≤ r.toInt ∧ r.toInt ≤ 399) ∧ (r.toInt < (v0 7).toInt) ∧ (zRf f1 (v0 7).toInt y1.toInt r.toInt)) (fun (u : Nat → Int32) (t : State) => ∃ (ww : Nat → Int64) (aa : Nat → Nat → Int32) (bb : Nat → Nat → Int64), va_P (dC, dI) vwCl [(h0, .inr (10, mX10 h1 h2 h3 h4 h5 h6 v0)), (h1, .inl (k1, 400, .inr (.inl f1)))] t.heap ∧ va_K (dC, dI) vwCl [(k1, .long)] t ∧ va_D (va_A [(h0, .inr (10, mX10 h1 h2 h3 h4 h5 h6 v0)), (h1, .inl (k1, 400, .inr (.inl f1)))] sz) [(h0, .inr (10, mX10 h1 h2 h3 h4 h5 h6 v0)), (h1, .inl (k1, 400, .inr (.inl f1)))]) (va_A [(h0, .inr (10, mX10 h1 h2 h3 h4 h5 h6 v0)), (h1, .inl (k1, 400, .inr (.inl f1)))] sz)) 0 0 (va_A [(h0, .inr (10, mX10 h1 h2 h3 h4 h5 h6 v0)), (h1, .inl (k1, 400, .inr (.inl f1)))] sz) := by
  refine Met.ofW (cc := cX10_rankOf) (maxL := 4) (ret := (some .int)) (by decide) rfl ?_
  intro p e s m args below meth c s₁ B hml hv
  obtain ⟨rfl, hsz, hP, hK, hD0, hE, hZ⟩ := hv
  have hx := B.exec
  have hb := B.bytes
  have hr := B.returns
  have hG : ∀ w ∈ zG, w.before _ s = true := fun w h => atoms_spec (ws := (zw yX10_rankOf cX10_rankOf 4 (some .int))) B.pre w (List.mem_cons_of_mem _ h)
  have hown : s.vm.findClass RX10 = some m.cls := findClass_of_methodNamed B.named
  have hlocks := B.notSynchronized

  subst hsz
  have hD := hD0.self (sz := s.heap.size)
  generalize hAe : va_A [(h0, .inr (10, mX10 h1 h2 h3 h4 h5 h6 v0)), (h1, .inl (k1, 400, .inr (.inl f1)))] s.heap.size = A at hD hZ ⊢
  have hA : ∀ q : Nat, s.heap.size ≤ q → A q := fun q h => by rw [← hAe]; exact Or.inr h
  have hS : va_S A s.heap s.heap [] := va_S.rf
  have hl := lv_entry ([.ref h0, .long y1]) (n := 4) (Nat.le_of_ble_eq_true rfl)
  rw [lg_entry_eq]
  generalize (lg_sl ([.ref h0, .long y1]) ++ List.replicate (4 - (lg_sl ([.ref h0, .long y1])).length) Slot.unset).toArray = ls at hl ⊢
  have hl : lv_has ls 4 [(0, .ref h0), (1, .long y1)] := hl
  have b_ := zk_m1
  have b_ : 0 ≤ (v0 7).toInt ∧ (v0 7).toInt ≤ 400 := hv0 7
  refine lv_aload_n hx hb dX10_rankOf_0 rfl (lv_at hl 0 rfl) ?_
  refine lv_lload_n hx hb dX10_rankOf_1 rfl (lv_at hl 1 rfl) ?_
  have hPc := hP.sub (ws' := [(h0, .inr (10, mX10 h1 h2 h3 h4 h5 h6 v0)), (h1, .inl (k1, 400, .inr (.inl f1)))]) [0, 1] rfl
  have hDc := hD.sub (ws' := [(h0, .inr (10, mX10 h1 h2 h3 h4 h5 h6 v0)), (h1, .inl (k1, 400, .inr (.inl f1)))]) [0, 1] (by decide) rfl
  have hKc := hK.sub (tys' := [(k1, .long)]) [0] rfl
  have hFc := va_free (wc := [(h0, .inr (10, mX10 h1 h2 h3 h4 h5 h6 v0)), (h1, .inl (k1, 400, .inr (.inl f1)))]) hD hS hA [0, 1] rfl
  refine va_calli (va_runV (As := [.long y1]) (rest := []) ⟨hx, hb, hml, hown, hG⟩ (sX10_rankAhead_1 l dC dI adK adV h0 h1 h2 h3 h4 h5 h6 k1 s.heap.size v0 f1 y1 hv0) (cwV 1 hG (zgV zv743 zv744 zv745 zv131 zv746) rfl rfl rfl (by decide +kernel) ⟨Nat.le_of_ble_eq_true rfl, Nat.le_of_ble_eq_true rfl⟩) ⟨zPc_blind, va_recv hKc hPc (ci := 10) (q0 := 0) rfl rfl, zPc_pre hPc hKc hDc hE hS hFc hZ⟩ rfl rfl hl.1 rfl (lv_room (Nat.le_of_ble_eq_true rfl)) dX10_rankOf_2 ⟨Nat.le_of_ble_eq_true rfl, Nat.le_of_ble_eq_true rfl⟩) hS (fun q _ h => hFc q h) hFc (fun r2_ u2_ t H1 locs ht hvm hw hB hz1 hk1 hS => ?_)
  replace hw : (0 ≤ r2_.toInt ∧ r2_.toInt ≤ 400) ∧ (r2_.toInt ≤ (v0 7).toInt) ∧ (zRk f1 (v0 7).toInt y1.toInt r2_.toInt r2_.toInt) := hw
  obtain ⟨b_, hX2_0, hX2_1⟩ := hw
  obtain ⟨w2_, a2_, b2_, hP1, hK1, hD1⟩ := hB
  rw [ht] at hP1
  obtain ⟨hP, hD⟩ := va_join (wr := []) (w1 := [(h0, .inr (10, mX10 h1 h2 h3 h4 h5 h6 v0)), (h1, .inl (k1, 400, .inr (.inl f1)))]) hP hD [0, 1] [] rfl rfl (by decide) (by decide) hk1 hFc hP1 hD1
  have hP : va_P (dC, dI) vwCl [(h0, .inr (10, mX10 h1 h2 h3 h4 h5 h6 v0)), (h1, .inl (k1, 400, .inr (.inl f1)))] H1 := hP.sub [0, 1] rfl
  have hD : va_D A [(h0, .inr (10, mX10 h1 h2 h3 h4 h5 h6 v0)), (h1, .inl (k1, 400, .inr (.inl f1)))] := hD.sub [0, 1] (by decide) rfl
  generalize H1 = H at hP hS ⊢
  clear hz1
  refine lv_istore_n (lv' := [(3, .int r2_), (0, .ref h0), (1, .long y1)]) hx hb dX10_rankOf_5 rfl hl (by decide) rfl (fun ls hl => ?_)
  refine lv_iload_n hx hb dX10_rankOf_6 rfl (lv_at hl 0 rfl) ?_
  refine lv_aload_n hx hb dX10_rankOf_7 rfl (lv_at hl 1 rfl) ?_
  refine va_get (D := (dC, dI)) (ci := 10) (v := .int (v0 7)) (C := RX10) (T := TX10) (N := 8) hx hb hG zuX10 hown hK hP 0 rfl rfl 7 (by decide) (hG _ zv196) (fun _ h9 => h9) rfl dX10_rankOf_8 ?_
  refine lv_icmp_ge (tgt := 29) hx hb dX10_rankOf_11 (by decide) (fun c_ => ?_) (fun c_ => ?_)
  · skip
    have b_ := zT_ge rfl rfl c_
    refine lv_iconst (v := (-1)) hx hb dX10_rankOf_29 (by decide) ?_
    refine W.widen (k := 0) (n := 0) (by decide) (by decide) ?_
    have hpost : ((-1) ≤ ((-1) : Int32).toInt ∧ ((-1) : Int32).toInt ≤ 399) ∧ (((-1) : Int32).toInt < (v0 7).toInt) ∧ (zRf f1 (v0 7).toInt y1.toInt ((-1) : Int32).toInt) := ⟨(by first | with_reducible assumption | exact ⟨by omega, by omega⟩), by omega, by first | exact zRf_1 hX2_1 (by omega) (by omega) | exact zRf_2 e_y_19 (by omega) (by omega) (by omega) | exact zRf_3 hX2_1 e_y_19 (by omega) (by omega) (by omega) (by omega)⟩
    have hP9 : va_P (dC, dI) vwCl [(h0, .inr (10, mX10 h1 h2 h3 h4 h5 h6 v0)), (h1, .inl (k1, 400, .inr (.inl f1)))] H := hP
    have hD9 : va_D A [(h0, .inr (10, mX10 h1 h2 h3 h4 h5 h6 v0)), (h1, .inl (k1, 400, .inr (.inl f1)))] := hD
    exact W.iret (v := (-1)) hx hb hr (fun t ht hW => ⟨⟨(-1), (fun _ => 0), rfl, hpost, (fun _ => 0), (fun _ => (fun _ => 0)), (fun _ => (fun _ => 0)), by rw [ht]; exact hP9, va_K.moved hW.alike hK, hD9⟩, hS.F ht⟩) hS.2.2 dX10_rankOf_30
  · skip
    have b_ := zF_ge rfl rfl c_
    refine lv_aload_n hx hb dX10_rankOf_14 rfl (lv_at hl 1 rfl) ?_
    refine va_get (D := (dC, dI)) (ci := 10) (v := .ref h1) (C := RX10) (T := TX10) (N := 8) hx hb hG zuX10 hown hK hP 0 rfl rfl 1 (by decide) (hG _ zv190) (fun _ h9 => h9) rfl dX10_rankOf_15 ?_
    refine lv_iload_n hx hb dX10_rankOf_18 rfl (lv_at hl 0 rfl) ?_
    refine va_lald hx hb hK hP 1 0 rfl rfl (zin_lit ⟨by omega, by omega⟩) dX10_rankOf_19 ?_
    refine lv_topl (fun y_19 e_y_19 => ?_)
    refine lv_lload_n hx hb dX10_rankOf_20 rfl (lv_at hl 2 rfl) ?_
    refine W.lcmp hx hb dX10_rankOf_21 ?_
    refine lv_topi (fun z21 e_z21 => ?_)
    have b_ := zlcmp e_z21
    have b_ : -2147483648 ≤ z21.toInt ∧ z21.toInt ≤ 2147483647 := ⟨zlo _, zhi _⟩
    refine lv_if_ne (tgt := 29) hx hb dX10_rankOf_22 (by decide) (fun c_ => ?_) (fun c_ => ?_)
    · skip
      have b_ := zT_ne rfl zk_0 c_
      refine lv_iconst (v := (-1)) hx hb dX10_rankOf_29 (by decide) ?_
      refine W.widen (k := 0) (n := 0) (by decide) (by decide) ?_
      have hpost : ((-1) ≤ ((-1) : Int32).toInt ∧ ((-1) : Int32).toInt ≤ 399) ∧ (((-1) : Int32).toInt < (v0 7).toInt) ∧ (zRf f1 (v0 7).toInt y1.toInt ((-1) : Int32).toInt) := ⟨(by first | with_reducible assumption | exact ⟨by omega, by omega⟩), by omega, by first | exact zRf_1 hX2_1 (by omega) (by omega) | exact zRf_2 e_y_19 (by omega) (by omega) (by omega) | exact zRf_3 hX2_1 e_y_19 (by omega) (by omega) (by omega) (by omega)⟩
      have hP9 : va_P (dC, dI) vwCl [(h0, .inr (10, mX10 h1 h2 h3 h4 h5 h6 v0)), (h1, .inl (k1, 400, .inr (.inl f1)))] H := hP
      have hD9 : va_D A [(h0, .inr (10, mX10 h1 h2 h3 h4 h5 h6 v0)), (h1, .inl (k1, 400, .inr (.inl f1)))] := hD
      exact W.iret (v := (-1)) hx hb hr (fun t ht hW => ⟨⟨(-1), (fun _ => 0), rfl, hpost, (fun _ => 0), (fun _ => (fun _ => 0)), (fun _ => (fun _ => 0)), by rw [ht]; exact hP9, va_K.moved hW.alike hK, hD9⟩, hS.F ht⟩) hS.2.2 dX10_rankOf_30
    · skip
      have b_ := zF_ne rfl zk_0 c_
      refine lv_iload_n hx hb dX10_rankOf_25 rfl (lv_at hl 0 rfl) ?_
      refine lv_goto (tgt := 30) hx hb dX10_rankOf_26 (by decide) ?_
      refine W.widen (k := 0) (n := 0) (by decide) (by decide) ?_
      have hpost : ((-1) ≤ r2_.toInt ∧ r2_.toInt ≤ 399) ∧ (r2_.toInt < (v0 7).toInt) ∧ (zRf f1 (v0 7).toInt y1.toInt r2_.toInt) := ⟨(by first | with_reducible assumption | exact ⟨by omega, by omega⟩), by omega, by first | exact zRf_1 hX2_1 (by omega) (by omega) | exact zRf_2 e_y_19 (by omega) (by omega) (by omega) | exact zRf_3 hX2_1 e_y_19 (by omega) (by omega) (by omega) (by omega)⟩
      have hP9 : va_P (dC, dI) vwCl [(h0, .inr (10, mX10 h1 h2 h3 h4 h5 h6 v0)), (h1, .inl (k1, 400, .inr (.inl f1)))] H := hP
      have hD9 : va_D A [(h0, .inr (10, mX10 h1 h2 h3 h4 h5 h6 v0)), (h1, .inl (k1, 400, .inr (.inl f1)))] := hD
      exact W.iret (v := r2_) hx hb hr (fun t ht hW => ⟨⟨r2_, (fun _ => 0), rfl, hpost, (fun _ => 0), (fun _ => (fun _ => 0)), (fun _ => (fun _ => 0)), by rw [ht]; exact hP9, va_K.moved hW.alike hK, hD9⟩, hS.F ht⟩) hS.2.2 dX10_rankOf_30
set_option maxHeartbeats 8000000 in
set_option maxRecDepth 100000 in
theorem sX10_idOf_0 (l : Launch) (dC : Nat → ClassId) (dI : Nat → Nat → Nat) (adK adV : Nat → Nat) (h0 : Nat) (h1 : Nat) (h2 : Nat) (h3 : Nat) (h4 : Nat) (h5 : Nat) (h6 : Nat) (k1 : ClassId) (k2 : ClassId) (k3 : ClassId) (sz : Nat) (v0 : Nat → Int32) (f1 : Nat → Int64) (f2 : Nat → Int32) (f3 : Nat → Int32) (y1 : Int64) (hv0 : zR rg_Words400 v0) (hf2 : zA 0 399 f2) (hf3 : zA (-1) 399 f3) : Met l yX10_idOf (zw yX10_idOf cX10_idOf 3 (some .int)) { frames := 2, cells := 0, slots := 0, locals := 48 } (zPc dC dI adK adV [.ref h0, .long y1] sz [(h0, .inr (10, mX10 h1 h2 h3 h4 h5 h6 v0)), (h1, .inl (k1, 400, .inr (.inl f1))), (h2, zi k2 400 f2), (h3, zi k3 400 f3)] [(k1, .long), (k2, .int), (k3, .int)]) (va_Qi (fun (r : Int32) (u : Nat → Int32) => ((-1) ≤ r.toInt ∧ r.toInt ≤ 399) ∧ (∀ V : List Int, zVo f1 f2 f3 (v0 7).toInt V → zIf V y1.toInt r.toInt)) (fun (u : Nat → Int32) (t : State) => ∃ (ww : Nat → Int64) (aa : Nat → Nat → Int32) (bb : Nat → Nat → Int64), va_P (dC, dI) vwCl [(h0, .inr (10, mX10 h1 h2 h3 h4 h5 h6 v0)), (h1, .inl (k1, 400, .inr (.inl f1))), (h2, zi k2 400 f2), (h3, zi k3 400 f3)] t.heap ∧ va_K (dC, dI) vwCl [(k1, .long), (k2, .int), (k3, .int)] t ∧ va_D (va_A [(h0, .inr (10, mX10 h1 h2 h3 h4 h5 h6 v0)), (h1, .inl (k1, 400, .inr (.inl f1))), (h2, zi k2 400 f2), (h3, zi k3 400 f3)] sz) [(h0, .inr (10, mX10 h1 h2 h3 h4 h5 h6 v0)), (h1, .inl (k1, 400, .inr (.inl f1))), (h2, zi k2 400 f2), (h3, zi k3 400 f3)]) (va_A [(h0, .inr (10, mX10 h1 h2 h3 h4 h5 h6 v0)), (h1, .inl (k1, 400, .inr (.inl f1))), (h2, zi k2 400 f2), (h3, zi k3 400 f3)] sz)) 0 0 (va_A [(h0, .inr (10, mX10 h1 h2 h3 h4 h5 h6 v0)), (h1, .inl (k1, 400, .inr (.inl f1))), (h2, zi k2 400 f2), (h3, zi k3 400 f3)] sz) := by
  refine Met.ofW (cc := cX10_idOf) (maxL := 3) (ret := (some .int)) (by decide) rfl ?_
  intro p e s m args below meth c s₁ B hml hv
  obtain ⟨rfl, hsz, hP, hK, hD0, hE, hZ⟩ := hv
  have hx := B.exec
  have hb := B.bytes
  have hr := B.returns
  have hG : ∀ w ∈ zG, w.before _ s = true := fun w h => atoms_spec (ws := (zw yX10_idOf cX10_idOf 3 (some .int))) B.pre w (List.mem_cons_of_mem _ h)
  have hown : s.vm.findClass RX10 = some m.cls := findClass_of_methodNamed B.named
  have hlocks := B.notSynchronized

  subst hsz
  have hD := hD0.self (sz := s.heap.size)
  generalize hAe : va_A [(h0, .inr (10, mX10 h1 h2 h3 h4 h5 h6 v0)), (h1, .inl (k1, 400, .inr (.inl f1))), (h2, zi k2 400 f2), (h3, zi k3 400 f3)] s.heap.size = A at hD hZ ⊢
  have hA : ∀ q : Nat, s.heap.size ≤ q → A q := fun q h => by rw [← hAe]; exact Or.inr h
  have hS : va_S A s.heap s.heap [] := va_S.rf
  have hl := lv_entry ([.ref h0, .long y1]) (n := 3) (Nat.le_of_ble_eq_true rfl)
  rw [lg_entry_eq]
  generalize (lg_sl ([.ref h0, .long y1]) ++ List.replicate (3 - (lg_sl ([.ref h0, .long y1])).length) Slot.unset).toArray = ls at hl ⊢
  have hl : lv_has ls 3 [(0, .ref h0), (1, .long y1)] := hl
  have b_ : 0 ≤ (v0 7).toInt ∧ (v0 7).toInt ≤ 400 := hv0 7
  refine lv_aload_n hx hb dX10_idOf_0 rfl (lv_at hl 0 rfl) ?_
  refine lv_aload_n hx hb dX10_idOf_1 rfl (lv_at hl 0 rfl) ?_
  refine lv_lload_n hx hb dX10_idOf_2 rfl (lv_at hl 1 rfl) ?_
  have hPc := hP.sub (ws' := [(h0, .inr (10, mX10 h1 h2 h3 h4 h5 h6 v0)), (h1, .inl (k1, 400, .inr (.inl f1)))]) [0, 1] rfl
  have hDc := hD.sub (ws' := [(h0, .inr (10, mX10 h1 h2 h3 h4 h5 h6 v0)), (h1, .inl (k1, 400, .inr (.inl f1)))]) [0, 1] (by decide) rfl
  have hKc := hK.sub (tys' := [(k1, .long)]) [0] rfl
  have hFc := va_free (wc := [(h0, .inr (10, mX10 h1 h2 h3 h4 h5 h6 v0)), (h1, .inl (k1, 400, .inr (.inl f1)))]) hD hS hA [0, 1] rfl
  refine va_calli (va_runV (As := [.long y1]) (rest := [.ref h0]) ⟨hx, hb, hml, hown, hG⟩ (sX10_rankOf_1 l dC dI adK adV h0 h1 h2 h3 h4 h5 h6 k1 s.heap.size v0 f1 y1 hv0) (cwV 1 hG (zgV zv751 zv740 zv741 zv131 zv742) rfl rfl rfl (by decide +kernel) ⟨Nat.le_of_ble_eq_true rfl, Nat.le_of_ble_eq_true rfl⟩) ⟨zPc_blind, va_recv hKc hPc (ci := 10) (q0 := 0) rfl rfl, zPc_pre hPc hKc hDc hE hS hFc hZ⟩ rfl rfl hl.1 rfl (lv_room (Nat.le_of_ble_eq_true rfl)) dX10_idOf_3 ⟨Nat.le_of_ble_eq_true rfl, Nat.le_of_ble_eq_true rfl⟩) hS (fun q _ h => hFc q h) hFc (fun r3_ u3_ t H1 locs ht hvm hw hB hz1 hk1 hS => ?_)
  replace hw : ((-1) ≤ r3_.toInt ∧ r3_.toInt ≤ 399) ∧ (r3_.toInt < (v0 7).toInt) ∧ (zRf f1 (v0 7).toInt y1.toInt r3_.toInt) := hw
  obtain ⟨b_, hX3_0, hX3_1⟩ := hw
  obtain ⟨w3_, a3_, b3_, hP1, hK1, hD1⟩ := hB
  rw [ht] at hP1
  obtain ⟨hP, hD⟩ := va_join (wr := [(h2, zi k2 400 f2), (h3, zi k3 400 f3)]) (w1 := [(h0, .inr (10, mX10 h1 h2 h3 h4 h5 h6 v0)), (h1, .inl (k1, 400, .inr (.inl f1)))]) hP hD [0, 1] [2, 3] rfl rfl (by decide) (by decide) hk1 hFc hP1 hD1
  have hP : va_P (dC, dI) vwCl [(h0, .inr (10, mX10 h1 h2 h3 h4 h5 h6 v0)), (h1, .inl (k1, 400, .inr (.inl f1))), (h2, zi k2 400 f2), (h3, zi k3 400 f3)] H1 := hP.sub [2, 3, 0, 1] rfl
  have hD : va_D A [(h0, .inr (10, mX10 h1 h2 h3 h4 h5 h6 v0)), (h1, .inl (k1, 400, .inr (.inl f1))), (h2, zi k2 400 f2), (h3, zi k3 400 f3)] := hD.sub [2, 3, 0, 1] (by decide) rfl
  generalize H1 = H at hP hS ⊢
  clear hz1
  have hPc := hP.sub (ws' := [(h0, .inr (10, mX10 h1 h2 h3 h4 h5 h6 v0)), (h2, zi k2 400 f2)]) [0, 2] rfl
  have hDc := hD.sub (ws' := [(h0, .inr (10, mX10 h1 h2 h3 h4 h5 h6 v0)), (h2, zi k2 400 f2)]) [0, 2] (by decide) rfl
  have hKc := hK.sub (tys' := [(k2, .int)]) [1] rfl
  have hFc := va_free (wc := [(h0, .inr (10, mX10 h1 h2 h3 h4 h5 h6 v0)), (h2, zi k2 400 f2)]) hD hS hA [0, 2] rfl
  refine va_calli (va_runV (As := [.int r3_]) (rest := []) ⟨hx, hb, hml, hown, hG⟩ (sX10_idAt_0 l dC dI adK adV h0 h2 h1 h3 h4 h5 h6 k2 H.size v0 f2 r3_ hv0 hf2) (cwV 1 hG (zgV zv752 zv753 zv754 zv131 zv755) rfl rfl rfl (by decide +kernel) ⟨Nat.le_of_ble_eq_true rfl, Nat.le_of_ble_eq_true rfl⟩) ⟨zPc_blind, va_recv hKc hPc (ci := 10) (q0 := 0) rfl rfl, zPc_pre hPc hKc hDc hE hS hFc hZ⟩ rfl rfl hl.1 rfl (lv_room (Nat.le_of_ble_eq_true rfl)) dX10_idOf_6 ⟨Nat.le_of_ble_eq_true rfl, Nat.le_of_ble_eq_true rfl⟩) hS (fun q _ h => hFc q h) hFc (fun r6_ u6_ t H1 locs ht hvm hw hB hz1 hk1 hS => ?_)
  replace hw : ((-1) ≤ r6_.toInt ∧ r6_.toInt ≤ 399) ∧ (0 ≤ r3_.toInt ∧ r3_.toInt < (v0 7).toInt → r6_.toInt = (f2 ((r3_ : Int32)).toNatClampNeg).toInt) ∧ (r3_.toInt < 0 → r6_.toInt = -1) := hw
  obtain ⟨b_, hX6_0, hX6_1⟩ := hw
  obtain ⟨w6_, a6_, b6_, hP1, hK1, hD1⟩ := hB
  rw [ht] at hP1
  obtain ⟨hP, hD⟩ := va_join (wr := [(h1, .inl (k1, 400, .inr (.inl f1))), (h3, zi k3 400 f3)]) (w1 := [(h0, .inr (10, mX10 h1 h2 h3 h4 h5 h6 v0)), (h2, zi k2 400 f2)]) hP hD [0, 2] [1, 3] rfl rfl (by decide) (by decide) hk1 hFc hP1 hD1
  have hP : va_P (dC, dI) vwCl [(h0, .inr (10, mX10 h1 h2 h3 h4 h5 h6 v0)), (h1, .inl (k1, 400, .inr (.inl f1))), (h2, zi k2 400 f2), (h3, zi k3 400 f3)] H1 := hP.sub [2, 0, 3, 1] rfl
  have hD : va_D A [(h0, .inr (10, mX10 h1 h2 h3 h4 h5 h6 v0)), (h1, .inl (k1, 400, .inr (.inl f1))), (h2, zi k2 400 f2), (h3, zi k3 400 f3)] := hD.sub [2, 0, 3, 1] (by decide) rfl
  generalize H1 = H at hP hS ⊢
  clear hz1
  refine W.widen (k := 0) (n := 0) (by decide) (by decide) ?_
  have hpost : ((-1) ≤ r6_.toInt ∧ r6_.toInt ≤ 399) ∧ (∀ V : List Int, zVo f1 f2 f3 (v0 7).toInt V → zIf V y1.toInt r6_.toInt) := ⟨(by first | with_reducible assumption | exact ⟨by omega, by omega⟩), by exact fun V h => zIf_i (P := r3_) h hX3_1 hX6_0 (fun q => by omega)⟩
  have hP9 : va_P (dC, dI) vwCl [(h0, .inr (10, mX10 h1 h2 h3 h4 h5 h6 v0)), (h1, .inl (k1, 400, .inr (.inl f1))), (h2, zi k2 400 f2), (h3, zi k3 400 f3)] H := hP
  have hD9 : va_D A [(h0, .inr (10, mX10 h1 h2 h3 h4 h5 h6 v0)), (h1, .inl (k1, 400, .inr (.inl f1))), (h2, zi k2 400 f2), (h3, zi k3 400 f3)] := hD
  exact W.iret (v := r6_) hx hb hr (fun t ht hW => ⟨⟨r6_, (fun _ => 0), rfl, hpost, (fun _ => 0), (fun _ => (fun _ => 0)), (fun _ => (fun _ => 0)), by rw [ht]; exact hP9, va_K.moved hW.alike hK, hD9⟩, hS.F ht⟩) hS.2.2 dX10_idOf_9
set_option maxHeartbeats 8000000 in
set_option maxRecDepth 100000 in
theorem sX10_add_0 (l : Launch) (dC : Nat → ClassId) (dI : Nat → Nat → Nat) (adK adV : Nat → Nat) (h0 : Nat) (h1 : Nat) (h2 : Nat) (h3 : Nat) (h4 : Nat) (h5 : Nat) (h6 : Nat) (k1 : ClassId) (k2 : ClassId) (sz : Nat) (v0 : Nat → Int32) (f1 : Nat → Int64) (f2 : Nat → Int32) (y1 : Int64) (hv0 : zR rg_Words400 v0) (hf2 : zA 0 399 f2) : Met l yX10_add (zw yX10_add cX10_add 4 (some .int)) { frames := 1, cells := 0, slots := 0, locals := 100 } (zPc dC dI adK adV [.ref h0, .long y1] sz [(h0, .inr (10, mX10 h1 h2 h3 h4 h5 h6 v0)), (h1, .inl (k1, 400, .inr (.inl f1))), (h2, zi k2 400 f2)] [(k1, .long), (k2, .int)]) (va_Qi (fun (r : Int32) (u : Nat → Int32) => ((-1) ≤ r.toInt ∧ r.toInt ≤ 399) ∧ (1 ≤ (u 0).toInt ∧ (u 0).toInt ≤ 400) ∧ (r.toInt = -1 → (v0 0).toInt ≤ (v0 7).toInt ∧ (u 0).toInt = (v0 7).toInt) ∧ (r.toInt ≠ -1 → (v0 7).toInt < (v0 0).toInt ∧ (u 0).toInt = (v0 7).toInt + 1 ∧ r.toInt = (v0 7).toInt) ∧ (r.toInt = (u 1).toInt)) (fun (u : Nat → Int32) (t : State) => ∃ (ww : Nat → Int64) (aa : Nat → Nat → Int32) (bb : Nat → Nat → Int64), zA 0 399 (aa 0) ∧ ((u 1).toInt = -1 ∨ zIns f1 (bb 0) f2 (aa 0) (v0 7).toInt y1.toInt) ∧ ((u 1).toInt = -1 → ∀ j : Nat, (bb 0) j = f1 j ∧ (aa 0) j = f2 j) ∧ va_P (dC, dI) vwCl [(h0, .inr (10, mX10 h1 h2 h3 h4 h5 h6 (upd v0 7 (u 0)))), (h1, .inl (k1, 400, .inr (.inl (bb 0)))), (h2, zi k2 400 (aa 0))] t.heap ∧ va_K (dC, dI) vwCl [(k1, .long), (k2, .int)] t ∧ va_D (va_A [(h0, .inr (10, mX10 h1 h2 h3 h4 h5 h6 v0)), (h1, .inl (k1, 400, .inr (.inl f1))), (h2, zi k2 400 f2)] sz) [(h0, .inr (10, mX10 h1 h2 h3 h4 h5 h6 (upd v0 7 (u 0)))), (h1, .inl (k1, 400, .inr (.inl (bb 0)))), (h2, zi k2 400 (aa 0))]) (va_A [(h0, .inr (10, mX10 h1 h2 h3 h4 h5 h6 v0)), (h1, .inl (k1, 400, .inr (.inl f1))), (h2, zi k2 400 f2)] sz)) 0 0 (va_A [(h0, .inr (10, mX10 h1 h2 h3 h4 h5 h6 v0)), (h1, .inl (k1, 400, .inr (.inl f1))), (h2, zi k2 400 f2)] sz) := by
  refine Met.ofW (cc := cX10_add) (maxL := 4) (ret := (some .int)) (by decide) rfl ?_
  intro p e s m args below meth c s₁ B hml hv
  obtain ⟨rfl, hsz, hP, hK, hD0, hE, hZ⟩ := hv
  have hx := B.exec
  have hb := B.bytes
  have hr := B.returns
  have hG : ∀ w ∈ zG, w.before _ s = true := fun w h => atoms_spec (ws := (zw yX10_add cX10_add 4 (some .int))) B.pre w (List.mem_cons_of_mem _ h)
  have hown : s.vm.findClass RX10 = some m.cls := findClass_of_methodNamed B.named
  have hlocks := B.notSynchronized

  subst hsz
  have hD := hD0.self (sz := s.heap.size)
  generalize hAe : va_A [(h0, .inr (10, mX10 h1 h2 h3 h4 h5 h6 v0)), (h1, .inl (k1, 400, .inr (.inl f1))), (h2, zi k2 400 f2)] s.heap.size = A at hD hZ ⊢
  have hA : ∀ q : Nat, s.heap.size ≤ q → A q := fun q h => by rw [← hAe]; exact Or.inr h
  have hS : va_S A s.heap s.heap [] := va_S.rf
  have hl := lv_entry ([.ref h0, .long y1]) (n := 4) (Nat.le_of_ble_eq_true rfl)
  rw [lg_entry_eq]
  generalize (lg_sl ([.ref h0, .long y1]) ++ List.replicate (4 - (lg_sl ([.ref h0, .long y1])).length) Slot.unset).toArray = ls at hl ⊢
  have hl : lv_has ls 4 [(0, .ref h0), (1, .long y1)] := hl
  have b_ := zk_m1
  have b_ : 400 ≤ (v0 0).toInt ∧ (v0 0).toInt ≤ 400 := hv0 0
  have b_ : 0 ≤ (v0 7).toInt ∧ (v0 7).toInt ≤ 400 := hv0 7
  refine lv_aload_n hx hb dX10_add_0 rfl (lv_at hl 0 rfl) ?_
  refine va_get (D := (dC, dI)) (ci := 10) (v := .int (v0 7)) (C := RX10) (T := TX10) (N := 8) hx hb hG zuX10 hown hK hP 0 rfl rfl 7 (by decide) (hG _ zv196) (fun _ h9 => h9) rfl dX10_add_1 ?_
  refine lv_aload_n hx hb dX10_add_4 rfl (lv_at hl 0 rfl) ?_
  refine va_get (D := (dC, dI)) (ci := 10) (v := .int (v0 0)) (C := RX10) (T := TX10) (N := 8) hx hb hG zuX10 hown hK hP 0 rfl rfl 0 (by decide) (hG _ zv189) (fun _ h9 => h9) rfl dX10_add_5 ?_
  refine lv_icmp_lt (tgt := 13) hx hb dX10_add_8 (by decide) (fun c_ => ?_) (fun c_ => ?_)
  · skip
    have b_ := zT_lt rfl rfl c_
    refine lv_aload_n hx hb dX10_add_13 rfl (lv_at hl 0 rfl) ?_
    refine lv_lload_n hx hb dX10_add_14 rfl (lv_at hl 1 rfl) ?_
    have hPc := hP.sub (ws' := [(h0, .inr (10, mX10 h1 h2 h3 h4 h5 h6 v0)), (h1, .inl (k1, 400, .inr (.inl f1)))]) [0, 1] rfl
    have hDc := hD.sub (ws' := [(h0, .inr (10, mX10 h1 h2 h3 h4 h5 h6 v0)), (h1, .inl (k1, 400, .inr (.inl f1)))]) [0, 1] (by decide) rfl
    have hKc := hK.sub (tys' := [(k1, .long)]) [0] rfl
    have hFc := va_free (wc := [(h0, .inr (10, mX10 h1 h2 h3 h4 h5 h6 v0)), (h1, .inl (k1, 400, .inr (.inl f1)))]) hD hS hA [0, 1] rfl
    refine va_calli (va_runV (As := [.long y1]) (rest := []) ⟨hx, hb, hml, hown, hG⟩ (sX10_rankAhead_1 l dC dI adK adV h0 h1 h2 h3 h4 h5 h6 k1 s.heap.size v0 f1 y1 hv0) (cwV 1 hG (zgV zv743 zv744 zv745 zv131 zv746) rfl rfl rfl (by decide +kernel) ⟨Nat.le_of_ble_eq_true rfl, Nat.le_of_ble_eq_true rfl⟩) ⟨zPc_blind, va_recv hKc hPc (ci := 10) (q0 := 0) rfl rfl, zPc_pre hPc hKc hDc hE hS hFc hZ⟩ rfl rfl hl.1 rfl (lv_room (Nat.le_of_ble_eq_true rfl)) dX10_add_15 ⟨Nat.le_of_ble_eq_true rfl, Nat.le_of_ble_eq_true rfl⟩) hS (fun q _ h => hFc q h) hFc (fun r15_ u15_ t H1 locs ht hvm hw hB hz1 hk1 hS => ?_)
    replace hw : (0 ≤ r15_.toInt ∧ r15_.toInt ≤ 400) ∧ (r15_.toInt ≤ (v0 7).toInt) ∧ (zRk f1 (v0 7).toInt y1.toInt r15_.toInt r15_.toInt) := hw
    obtain ⟨b_, hX15_0, hX15_1⟩ := hw
    obtain ⟨w15_, a15_, b15_, hP1, hK1, hD1⟩ := hB
    rw [ht] at hP1
    obtain ⟨hP, hD⟩ := va_join (wr := [(h2, zi k2 400 f2)]) (w1 := [(h0, .inr (10, mX10 h1 h2 h3 h4 h5 h6 v0)), (h1, .inl (k1, 400, .inr (.inl f1)))]) hP hD [0, 1] [2] rfl rfl (by decide) (by decide) hk1 hFc hP1 hD1
    have hP : va_P (dC, dI) vwCl [(h0, .inr (10, mX10 h1 h2 h3 h4 h5 h6 v0)), (h1, .inl (k1, 400, .inr (.inl f1))), (h2, zi k2 400 f2)] H1 := hP.sub [1, 2, 0] rfl
    have hD : va_D A [(h0, .inr (10, mX10 h1 h2 h3 h4 h5 h6 v0)), (h1, .inl (k1, 400, .inr (.inl f1))), (h2, zi k2 400 f2)] := hD.sub [1, 2, 0] (by decide) rfl
    generalize H1 = H at hP hS ⊢
    clear hz1
    refine lv_istore_n (lv' := [(3, .int r15_), (0, .ref h0), (1, .long y1)]) hx hb dX10_add_18 rfl hl (by decide) rfl (fun ls hl => ?_)
    refine lv_aload_n hx hb dX10_add_19 rfl (lv_at hl 1 rfl) ?_
    refine va_get (D := (dC, dI)) (ci := 10) (v := .ref h1) (C := RX10) (T := TX10) (N := 8) hx hb hG zuX10 hown hK hP 0 rfl rfl 1 (by decide) (hG _ zv190) (fun _ h9 => h9) rfl dX10_add_20 ?_
    refine lv_iload_n hx hb dX10_add_23 rfl (lv_at hl 0 rfl) ?_
    refine lv_aload_n hx hb dX10_add_24 rfl (lv_at hl 1 rfl) ?_
    refine va_get (D := (dC, dI)) (ci := 10) (v := .ref h1) (C := RX10) (T := TX10) (N := 8) hx hb hG zuX10 hown hK hP 0 rfl rfl 1 (by decide) (hG _ zv190) (fun _ h9 => h9) rfl dX10_add_25 ?_
    refine lv_iload_n hx hb dX10_add_28 rfl (lv_at hl 0 rfl) ?_
    refine lv_iconst (v := 1) hx hb dX10_add_29 (by decide) ?_
    refine lv_iadd hx hb dX10_add_30 ?_
    refine lv_topi (fun z30 e_z30 => ?_)
    have b_ := zadd rfl zk_1 e_z30 (by omega) (by omega)
    refine lv_aload_n hx hb dX10_add_31 rfl (lv_at hl 1 rfl) ?_
    refine va_get (D := (dC, dI)) (ci := 10) (v := .int (v0 7)) (C := RX10) (T := TX10) (N := 8) hx hb hG zuX10 hown hK hP 0 rfl rfl 7 (by decide) (hG _ zv196) (fun _ h9 => h9) rfl dX10_add_32 ?_
    refine lv_iload_n hx hb dX10_add_35 rfl (lv_at hl 0 rfl) ?_
    refine lv_isub hx hb dX10_add_36 ?_
    refine lv_topi (fun z36 e_z36 => ?_)
    have b_ := zsub rfl rfl e_z36 (by omega) (by omega)
    refine va_copyl (ty := .long) hx hb (by rw [hml]; exact hl.1.symm) hown (hG _ zv760) (hG _ zv762) (hG _ zv761) (hG _ zv150) hK hP hD hS 1 1 0 0 rfl rfl rfl rfl rfl (znn (by omega)) (znn (by omega)) (znn (by omega)) (zcl rfl rfl (by omega) (by omega) (by omega)) (zcl rfl rfl (by omega) (by omega) (by omega)) (fun _ _ => rfl) (Nat.le_of_ble_eq_true rfl) (Nat.le_of_ble_eq_true rfl) dX10_add_37 (fun H locs hP hD hS => ?_)
    obtain ⟨f_37, e_f_37⟩ : ∃ z : Nat → Int64, z = va_cpy f1 f1 (r15_ : Int32).toNatClampNeg (z30 : Int32).toNatClampNeg (z36 : Int32).toNatClampNeg := ⟨_, rfl⟩
    have hP : va_P (dC, dI) vwCl [(h0, .inr (10, mX10 h1 h2 h3 h4 h5 h6 v0)), (h1, .inl (k1, 400, .inr (.inl f_37))), (h2, zi k2 400 f2)] H := by rw [e_f_37]; exact hP
    have hD : va_D A [(h0, .inr (10, mX10 h1 h2 h3 h4 h5 h6 v0)), (h1, .inl (k1, 400, .inr (.inl f_37))), (h2, zi k2 400 f2)] := by rw [e_f_37]; exact hD
    refine lv_aload_n hx hb dX10_add_40 rfl (lv_at hl 1 rfl) ?_
    refine va_get (D := (dC, dI)) (ci := 10) (v := .ref h2) (C := RX10) (T := TX10) (N := 8) hx hb hG zuX10 hown hK hP 0 rfl rfl 2 (by decide) (hG _ zv191) (fun _ h9 => h9) rfl dX10_add_41 ?_
    refine lv_iload_n hx hb dX10_add_44 rfl (lv_at hl 0 rfl) ?_
    refine lv_aload_n hx hb dX10_add_45 rfl (lv_at hl 1 rfl) ?_
    refine va_get (D := (dC, dI)) (ci := 10) (v := .ref h2) (C := RX10) (T := TX10) (N := 8) hx hb hG zuX10 hown hK hP 0 rfl rfl 2 (by decide) (hG _ zv191) (fun _ h9 => h9) rfl dX10_add_46 ?_
    refine lv_iload_n hx hb dX10_add_49 rfl (lv_at hl 0 rfl) ?_
    refine lv_iconst (v := 1) hx hb dX10_add_50 (by decide) ?_
    refine lv_iadd hx hb dX10_add_51 ?_
    refine lv_topi (fun z51 e_z51 => ?_)
    have b_ := zadd rfl zk_1 e_z51 (by omega) (by omega)
    refine lv_aload_n hx hb dX10_add_52 rfl (lv_at hl 1 rfl) ?_
    refine va_get (D := (dC, dI)) (ci := 10) (v := .int (v0 7)) (C := RX10) (T := TX10) (N := 8) hx hb hG zuX10 hown hK hP 0 rfl rfl 7 (by decide) (hG _ zv196) (fun _ h9 => h9) rfl dX10_add_53 ?_
    refine lv_iload_n hx hb dX10_add_56 rfl (lv_at hl 0 rfl) ?_
    refine lv_isub hx hb dX10_add_57 ?_
    refine lv_topi (fun z57 e_z57 => ?_)
    have b_ := zsub rfl rfl e_z57 (by omega) (by omega)
    refine va_copyi (ty := .int) hx hb (by rw [hml]; exact hl.1.symm) hown (hG _ zv760) (hG _ zv762) (hG _ zv761) (hG _ zv150) hK hP hD hS 2 2 1 1 rfl rfl rfl rfl rfl (znn (by omega)) (znn (by omega)) (znn (by omega)) (zcl rfl rfl (by omega) (by omega) (by omega)) (zcl rfl rfl (by omega) (by omega) (by omega)) (fun _ _ => rfl) (Nat.le_of_ble_eq_true rfl) (Nat.le_of_ble_eq_true rfl) dX10_add_58 (fun H locs hP hD hS => ?_)
    obtain ⟨f_58, e_f_58⟩ : ∃ z : Nat → Int32, z = va_cpy f2 f2 (r15_ : Int32).toNatClampNeg (z51 : Int32).toNatClampNeg (z57 : Int32).toNatClampNeg := ⟨_, rfl⟩
    have hP : va_P (dC, dI) vwCl [(h0, .inr (10, mX10 h1 h2 h3 h4 h5 h6 v0)), (h1, .inl (k1, 400, .inr (.inl f_37))), (h2, zi k2 400 f_58)] H := by rw [e_f_58]; exact hP
    have hD : va_D A [(h0, .inr (10, mX10 h1 h2 h3 h4 h5 h6 v0)), (h1, .inl (k1, 400, .inr (.inl f_37))), (h2, zi k2 400 f_58)] := by rw [e_f_58]; exact hD
    have hf_58 : zA 0 399 f_58 := by rw [e_f_58]; exact zA_cpy hf2 hf2
    refine lv_aload_n hx hb dX10_add_61 rfl (lv_at hl 1 rfl) ?_
    refine va_get (D := (dC, dI)) (ci := 10) (v := .ref h1) (C := RX10) (T := TX10) (N := 8) hx hb hG zuX10 hown hK hP 0 rfl rfl 1 (by decide) (hG _ zv190) (fun _ h9 => h9) rfl dX10_add_62 ?_
    refine lv_iload_n hx hb dX10_add_65 rfl (lv_at hl 0 rfl) ?_
    refine lv_lload_n hx hb dX10_add_66 rfl (lv_at hl 2 rfl) ?_
    refine va_last hx hb hK hP hD hS 1 0 rfl rfl (zin_lit ⟨by omega, by omega⟩) dX10_add_67 (fun H locs hP hD hS => ?_)
    obtain ⟨f_67, e_f_67⟩ : ∃ z : Nat → Int64, z = vp_updL f_37 (r15_ : Int32).toNatClampNeg y1 := ⟨_, rfl⟩
    have hP : va_P (dC, dI) vwCl [(h0, .inr (10, mX10 h1 h2 h3 h4 h5 h6 v0)), (h1, .inl (k1, 400, .inr (.inl f_67))), (h2, zi k2 400 f_58)] H := by rw [e_f_67]; exact hP
    have hD : va_D A [(h0, .inr (10, mX10 h1 h2 h3 h4 h5 h6 v0)), (h1, .inl (k1, 400, .inr (.inl f_67))), (h2, zi k2 400 f_58)] := by rw [e_f_67]; exact hD
    refine lv_aload_n hx hb dX10_add_68 rfl (lv_at hl 1 rfl) ?_
    refine va_get (D := (dC, dI)) (ci := 10) (v := .ref h2) (C := RX10) (T := TX10) (N := 8) hx hb hG zuX10 hown hK hP 0 rfl rfl 2 (by decide) (hG _ zv191) (fun _ h9 => h9) rfl dX10_add_69 ?_
    refine lv_iload_n hx hb dX10_add_72 rfl (lv_at hl 0 rfl) ?_
    refine lv_aload_n hx hb dX10_add_73 rfl (lv_at hl 1 rfl) ?_
    refine va_get (D := (dC, dI)) (ci := 10) (v := .int (v0 7)) (C := RX10) (T := TX10) (N := 8) hx hb hG zuX10 hown hK hP 0 rfl rfl 7 (by decide) (hG _ zv196) (fun _ h9 => h9) rfl dX10_add_74 ?_
    refine va_iast hx hb hK hP hD hS 2 1 rfl rfl (zin_lit ⟨by omega, by omega⟩) dX10_add_77 (fun H locs hP hD hS => ?_)
    obtain ⟨f_77, e_f_77⟩ : ∃ z : Nat → Int32, z = upd f_58 (r15_ : Int32).toNatClampNeg (v0 7) := ⟨_, rfl⟩
    have hP : va_P (dC, dI) vwCl [(h0, .inr (10, mX10 h1 h2 h3 h4 h5 h6 v0)), (h1, .inl (k1, 400, .inr (.inl f_67))), (h2, zi k2 400 f_77)] H := by rw [e_f_77]; exact hP
    have hD : va_D A [(h0, .inr (10, mX10 h1 h2 h3 h4 h5 h6 v0)), (h1, .inl (k1, 400, .inr (.inl f_67))), (h2, zi k2 400 f_77)] := by rw [e_f_77]; exact hD
    have hf_77 : zA 0 399 f_77 := by rw [e_f_77]; exact zA_upd hf_58 (show 0 ≤ ((v0 7) : Int32).toInt from by omega) (show ((v0 7) : Int32).toInt ≤ 399 from by omega)
    refine lv_aload_n hx hb dX10_add_78 rfl (lv_at hl 1 rfl) ?_
    refine lv_dup hx hb dX10_add_79 rfl ?_
    refine va_get (D := (dC, dI)) (ci := 10) (v := .int (v0 7)) (C := RX10) (T := TX10) (N := 8) hx hb hG zuX10 hown hK hP 0 rfl rfl 7 (by decide) (hG _ zv196) (fun _ h9 => h9) rfl dX10_add_80 ?_
    refine lv_iconst (v := 1) hx hb dX10_add_83 (by decide) ?_
    refine lv_iadd hx hb dX10_add_84 ?_
    refine lv_topi (fun z84 e_z84 => ?_)
    have b_ := zadd rfl zk_1 e_z84 (by omega) (by omega)
    refine va_put (D := (dC, dI)) (ci := 10) (v := .int z84) (ty := .int) (C := RX10) (T := TX10) (N := 8) hx hb hG zuX10 tyX10 tyX10_ok nmX10 hown hK hP hD hS 0 rfl rfl 7 (by decide) (hG _ zv196) (fun _ h9 => h9) rfl (by decide +kernel) rfl rfl (Nat.le_of_ble_eq_true rfl) dX10_add_85 (fun H locs hP hD hS => ?_)
    have hP : va_P (dC, dI) vwCl [(h0, .inr (10, mX10 h1 h2 h3 h4 h5 h6 (upd v0 7 z84))), (h1, .inl (k1, 400, .inr (.inl f_67))), (h2, zi k2 400 f_77)] H := hP
    have hD : va_D A [(h0, .inr (10, mX10 h1 h2 h3 h4 h5 h6 (upd v0 7 z84))), (h1, .inl (k1, 400, .inr (.inl f_67))), (h2, zi k2 400 f_77)] := hD
    refine lv_aload_n hx hb dX10_add_88 rfl (lv_at hl 1 rfl) ?_
    refine va_get (D := (dC, dI)) (ci := 10) (v := .int z84) (C := RX10) (T := TX10) (N := 8) hx hb hG zuX10 hown hK hP 0 rfl rfl 7 (by decide) (hG _ zv196) (fun _ h9 => h9) rfl dX10_add_89 ?_
    refine lv_iconst (v := 1) hx hb dX10_add_92 (by decide) ?_
    refine lv_isub hx hb dX10_add_93 ?_
    refine lv_topi (fun z93 e_z93 => ?_)
    have b_ := zsub rfl zk_1 e_z93 (by omega) (by omega)
    refine W.widen (k := 0) (n := 0) (by decide) (by decide) ?_
    have hpost : ((-1) ≤ z93.toInt ∧ z93.toInt ≤ 399) ∧ (1 ≤ z84.toInt ∧ z84.toInt ≤ 400) ∧ (z93.toInt = -1 → (v0 0).toInt ≤ (v0 7).toInt ∧ z84.toInt = (v0 7).toInt) ∧ (z93.toInt ≠ -1 → (v0 7).toInt < (v0 0).toInt ∧ z84.toInt = (v0 7).toInt + 1 ∧ z93.toInt = (v0 7).toInt) ∧ (z93.toInt = z93.toInt) := ⟨(by first | with_reducible assumption | exact ⟨by omega, by omega⟩), (by first | with_reducible assumption | exact ⟨by omega, by omega⟩), by omega, by omega, rfl⟩
    have hP9 : va_P (dC, dI) vwCl [(h0, .inr (10, mX10 h1 h2 h3 h4 h5 h6 (upd v0 7 z84))), (h1, .inl (k1, 400, .inr (.inl f_67))), (h2, zi k2 400 f_77)] H := hP
    have hD9 : va_D A [(h0, .inr (10, mX10 h1 h2 h3 h4 h5 h6 (upd v0 7 z84))), (h1, .inl (k1, 400, .inr (.inl f_67))), (h2, zi k2 400 f_77)] := hD
    have hB0 : z93.toInt = -1 ∨ zIns f1 f_67 f2 f_77 (v0 7).toInt y1.toInt := by first | exact Or.inl (by decide) | exact Or.inr (zIns_i e_f_37 e_f_58 e_f_67 e_f_77 hX15_1 (by omega) (by omega) (by omega) (by omega) (by omega) rfl (by omega) (by omega))
    have hB1 : z93.toInt = -1 → ∀ j : Nat, f_67 j = f1 j ∧ f_77 j = f2 j := by first | exact fun _ _ => ⟨rfl, rfl⟩ | exact fun q => absurd q (by omega)
    exact W.iret (v := z93) hx hb hr (fun t ht hW => ⟨⟨z93, (fun i => ([z84, z93] : List (Int32)).getD i 0), rfl, hpost, (fun _ => 0), (fun i => ([f_77] : List (Nat → Int32)).getD i (fun _ => 0)), (fun i => ([f_67] : List (Nat → Int64)).getD i (fun _ => 0)), hf_77, hB0, hB1, by rw [ht]; exact hP9, va_K.moved hW.alike hK, hD9⟩, hS.F ht⟩) hS.2.2 dX10_add_94
  · skip
    have b_ := zF_lt rfl rfl c_
    refine lv_iconst (v := (-1)) hx hb dX10_add_11 (by decide) ?_
    refine W.widen (k := 0) (n := 0) (by decide) (by decide) ?_
    have hpost : ((-1) ≤ ((-1) : Int32).toInt ∧ ((-1) : Int32).toInt ≤ 399) ∧ (1 ≤ (v0 7).toInt ∧ (v0 7).toInt ≤ 400) ∧ (((-1) : Int32).toInt = -1 → (v0 0).toInt ≤ (v0 7).toInt ∧ (v0 7).toInt = (v0 7).toInt) ∧ (((-1) : Int32).toInt ≠ -1 → (v0 7).toInt < (v0 0).toInt ∧ (v0 7).toInt = (v0 7).toInt + 1 ∧ ((-1) : Int32).toInt = (v0 7).toInt) ∧ (((-1) : Int32).toInt = ((-1) : Int32).toInt) := ⟨(by first | with_reducible assumption | exact ⟨by omega, by omega⟩), (by first | with_reducible assumption | exact ⟨by omega, by omega⟩), by omega, by omega, rfl⟩
    have hP9 : va_P (dC, dI) vwCl [(h0, .inr (10, mX10 h1 h2 h3 h4 h5 h6 (upd v0 7 (v0 7)))), (h1, .inl (k1, 400, .inr (.inl f1))), (h2, zi k2 400 f2)] s.heap := hP
    have hD9 : va_D A [(h0, .inr (10, mX10 h1 h2 h3 h4 h5 h6 (upd v0 7 (v0 7)))), (h1, .inl (k1, 400, .inr (.inl f1))), (h2, zi k2 400 f2)] := hD
    have hB0 : ((-1) : Int32).toInt = -1 ∨ zIns f1 f1 f2 f2 (v0 7).toInt y1.toInt := by first | exact Or.inl (by decide) | exact Or.inr (zIns_i e_f_37 e_f_58 e_f_67 e_f_77 hX15_1 (by omega) (by omega) (by omega) (by omega) (by omega) rfl (by omega) (by omega))
    have hB1 : ((-1) : Int32).toInt = -1 → ∀ j : Nat, f1 j = f1 j ∧ f2 j = f2 j := by first | exact fun _ _ => ⟨rfl, rfl⟩ | exact fun q => absurd q (by omega)
    exact W.iret (v := (-1)) hx hb hr (fun t ht hW => ⟨⟨(-1), (fun i => ([(v0 7), (-1)] : List (Int32)).getD i 0), rfl, hpost, (fun _ => 0), (fun i => ([f2] : List (Nat → Int32)).getD i (fun _ => 0)), (fun i => ([f1] : List (Nat → Int64)).getD i (fun _ => 0)), hf2, hB0, hB1, by rw [ht]; exact hP9, va_K.moved hW.alike hK, hD9⟩, hS.F ht⟩) hS.2.2 dX10_add_12
set_option maxHeartbeats 8000000 in
set_option maxRecDepth 100000 in
theorem sX2_keep_0 (l : Launch) (dC : Nat → ClassId) (dI : Nat → Nat → Nat) (adK adV : Nat → Nat) (h0 : Nat) (h11 : Nat) (h12 : Nat) (h4 : Nat) (h5 : Nat) (h6 : Nat) (h7 : Nat) (h18 : Nat) (h19 : Nat) (h23 : Nat) (h22 : Nat) (h21 : Nat) (h20 : Nat) (h1 : Nat) (h13 : Nat) (h14 : Nat) (h15 : Nat) (h16 : Nat) (h17 : Nat) (h8 : Nat) (h9 : Nat) (h10 : Nat) (k12 : ClassId) (k5 : ClassId) (k6 : ClassId) (k7 : ClassId) (k18 : ClassId) (k19 : ClassId) (k23 : ClassId) (k22 : ClassId) (k21 : ClassId) (k20 : ClassId) (sz : Nat) (v0 : Nat → Int32) (v11 : Nat → Int32) (f12 : Nat → Int64) (v4 : Nat → Int32) (f5 : Nat → Int64) (f6 : Nat → Int32) (f7 : Nat → Int32) (f18 : Nat → Int32) (f19 : Nat → Int32) (f23 : Nat → Int32) (f22 : Nat → Int32) (f21 : Nat → Int32) (f20 : Nat → Int32) (y1 : Int64) (x2 : Int32) (hv0 : zR rg_Intake v0) (hv11 : zR rg_Words10 v11) (hv4 : zR rg_Words400 v4) (hf6 : zA 0 399 f6) (hf7 : zA (-1) 399 f7) (hf19 : zA (-1) 299 f19) (hf22 : zA 0 299 f22) (hf21 : zA 0 299 f21) (hf20 : zA 0 399 f20) (hp0_ : zChn f21 f19 f22 f23 (v0 9).toInt) (hp1_ : (v0 10).toInt ≤ (v0 9).toInt) : Met l yX2_keep (zw yX2_keep cX2_keep 5 (some .boolean)) { frames := 3, cells := 0, slots := 0, locals := 123 } (zPc dC dI adK adV [.ref h0, .long y1, .int x2] sz [(h0, .inr (2, mX2 h1 h4 h11 h18 h19 h20 h21 h22 h23 v0)), (h11, .inr (10, mX10 h12 h13 h14 h15 h16 h17 v11)), (h12, .inl (k12, 10, .inr (.inl f12))), (h4, .inr (10, mX10 h5 h6 h7 h8 h9 h10 v4)), (h5, .inl (k5, 400, .inr (.inl f5))), (h6, zi k6 400 f6), (h7, zi k7 400 f7), (h18, zi k18 300 f18), (h19, zi k19 300 f19), (h23, zi k23 400 f23), (h22, zi k22 400 f22), (h21, zi k21 400 f21), (h20, zi k20 300 f20)] [(k12, .long), (k5, .long), (k6, .int), (k7, .int), (k18, .int), (k19, .int), (k23, .int), (k22, .int), (k21, .int), (k20, .int)]) (va_Qi (fun (r : Int32) (u : Nat → Int32) => (0 ≤ r.toInt ∧ r.toInt ≤ 1) ∧ (0 ≤ (u 0).toInt ∧ (u 0).toInt ≤ 300) ∧ (0 ≤ (u 1).toInt ∧ (u 1).toInt ≤ 300) ∧ (0 ≤ (u 2).toInt ∧ (u 2).toInt ≤ 400) ∧ ((u 1).toInt ≤ (u 0).toInt) ∧ (r.toInt = (u 3).toInt)) (fun (u : Nat → Int32) (t : State) => ∃ (ww : Nat → Int64) (aa : Nat → Nat → Int32) (bb : Nat → Nat → Int64), zA 0 399 (aa 0) ∧ zA (-1) 299 (aa 2) ∧ zA 0 299 (aa 4) ∧ zA 0 299 (aa 5) ∧ zA 0 399 (aa 6) ∧ (zChn (aa 5) (aa 2) (aa 4) (aa 3) (u 0).toInt) ∧ (zKe f5 f6 f7 (v4 7).toInt f12 (v11 7).toInt f18 f19 f20 f21 f22 f23 (v0 9).toInt (v0 10).toInt (bb 0) (aa 0) f7 (u 2).toInt (aa 1) (aa 2) (aa 6) (aa 5) (aa 4) (aa 3) (u 0).toInt (u 1).toInt y1.toInt x2.toInt (u 3).toInt) ∧ va_P (dC, dI) vwCl [(h0, .inr (2, mX2 h1 h4 h11 h18 h19 h20 h21 h22 h23 (upd (upd v0 9 (u 0)) 10 (u 1)))), (h11, .inr (10, mX10 h12 h13 h14 h15 h16 h17 v11)), (h12, .inl (k12, 10, .inr (.inl f12))), (h4, .inr (10, mX10 h5 h6 h7 h8 h9 h10 (upd v4 7 (u 2)))), (h5, .inl (k5, 400, .inr (.inl (bb 0)))), (h6, zi k6 400 (aa 0)), (h7, zi k7 400 f7), (h18, zi k18 300 (aa 1)), (h19, zi k19 300 (aa 2)), (h23, zi k23 400 (aa 3)), (h22, zi k22 400 (aa 4)), (h21, zi k21 400 (aa 5)), (h20, zi k20 300 (aa 6))] t.heap ∧ va_K (dC, dI) vwCl [(k12, .long), (k5, .long), (k6, .int), (k7, .int), (k18, .int), (k19, .int), (k23, .int), (k22, .int), (k21, .int), (k20, .int)] t ∧ va_D (va_A [(h0, .inr (2, mX2 h1 h4 h11 h18 h19 h20 h21 h22 h23 v0)), (h11, .inr (10, mX10 h12 h13 h14 h15 h16 h17 v11)), (h12, .inl (k12, 10, .inr (.inl f12))), (h4, .inr (10, mX10 h5 h6 h7 h8 h9 h10 v4)), (h5, .inl (k5, 400, .inr (.inl f5))), (h6, zi k6 400 f6), (h7, zi k7 400 f7), (h18, zi k18 300 f18), (h19, zi k19 300 f19), (h23, zi k23 400 f23), (h22, zi k22 400 f22), (h21, zi k21 400 f21), (h20, zi k20 300 f20)] sz) [(h0, .inr (2, mX2 h1 h4 h11 h18 h19 h20 h21 h22 h23 (upd (upd v0 9 (u 0)) 10 (u 1)))), (h11, .inr (10, mX10 h12 h13 h14 h15 h16 h17 v11)), (h12, .inl (k12, 10, .inr (.inl f12))), (h4, .inr (10, mX10 h5 h6 h7 h8 h9 h10 (upd v4 7 (u 2)))), (h5, .inl (k5, 400, .inr (.inl (bb 0)))), (h6, zi k6 400 (aa 0)), (h7, zi k7 400 f7), (h18, zi k18 300 (aa 1)), (h19, zi k19 300 (aa 2)), (h23, zi k23 400 (aa 3)), (h22, zi k22 400 (aa 4)), (h21, zi k21 400 (aa 5)), (h20, zi k20 300 (aa 6))]) (va_A [(h0, .inr (2, mX2 h1 h4 h11 h18 h19 h20 h21 h22 h23 v0)), (h11, .inr (10, mX10 h12 h13 h14 h15 h16 h17 v11)), (h12, .inl (k12, 10, .inr (.inl f12))), (h4, .inr (10, mX10 h5 h6 h7 h8 h9 h10 v4)), (h5, .inl (k5, 400, .inr (.inl f5))), (h6, zi k6 400 f6), (h7, zi k7 400 f7), (h18, zi k18 300 f18), (h19, zi k19 300 f19), (h23, zi k23 400 f23), (h22, zi k22 400 f22), (h21, zi k21 400 f21), (h20, zi k20 300 f20)] sz)) 0 0 (va_A [(h0, .inr (2, mX2 h1 h4 h11 h18 h19 h20 h21 h22 h23 v0)), (h11, .inr (10, mX10 h12 h13 h14 h15 h16 h17 v11)), (h12, .inl (k12, 10, .inr (.inl f12))), (h4, .inr (10, mX10 h5 h6 h7 h8 h9 h10 v4)), (h5, .inl (k5, 400, .inr (.inl f5))), (h6, zi k6 400 f6), (h7, zi k7 400 f7), (h18, zi k18 300 f18), (h19, zi k19 300 f19), (h23, zi k23 400 f23), (h22, zi k22 400 f22), (h21, zi k21 400 f21), (h20, zi k20 300 f20)] sz) := by
  refine Met.ofW (cc := cX2_keep) (maxL := 5) (ret := (some .boolean)) (by decide) rfl ?_
  intro p e s m args below meth c s₁ B hml hv
  obtain ⟨rfl, hsz, hP, hK, hD0, hE, hZ⟩ := hv
  have hx := B.exec
  have hb := B.bytes
  have hr := B.returns
  have hG : ∀ w ∈ zG, w.before _ s = true := fun w h => atoms_spec (ws := (zw yX2_keep cX2_keep 5 (some .boolean))) B.pre w (List.mem_cons_of_mem _ h)
  have hown : s.vm.findClass RX2 = some m.cls := findClass_of_methodNamed B.named
  have hlocks := B.notSynchronized

  subst hsz
  have hD := hD0.self (sz := s.heap.size)
  generalize hAe : va_A [(h0, .inr (2, mX2 h1 h4 h11 h18 h19 h20 h21 h22 h23 v0)), (h11, .inr (10, mX10 h12 h13 h14 h15 h16 h17 v11)), (h12, .inl (k12, 10, .inr (.inl f12))), (h4, .inr (10, mX10 h5 h6 h7 h8 h9 h10 v4)), (h5, .inl (k5, 400, .inr (.inl f5))), (h6, zi k6 400 f6), (h7, zi k7 400 f7), (h18, zi k18 300 f18), (h19, zi k19 300 f19), (h23, zi k23 400 f23), (h22, zi k22 400 f22), (h21, zi k21 400 f21), (h20, zi k20 300 f20)] s.heap.size = A at hD hZ ⊢
  have hA : ∀ q : Nat, s.heap.size ≤ q → A q := fun q h => by rw [← hAe]; exact Or.inr h
  have hS : va_S A s.heap s.heap [] := va_S.rf
  have hl := lv_entry ([.ref h0, .long y1, .int x2]) (n := 5) (Nat.le_of_ble_eq_true rfl)
  rw [lg_entry_eq]
  generalize (lg_sl ([.ref h0, .long y1, .int x2]) ++ List.replicate (5 - (lg_sl ([.ref h0, .long y1, .int x2])).length) Slot.unset).toArray = ls at hl ⊢
  have hl : lv_has ls 5 [(0, .ref h0), (1, .long y1), (3, .int x2)] := hl
  have b_ := zk_0
  have b_ := zk_1
  have b_ : 0 ≤ (v0 9).toInt ∧ (v0 9).toInt ≤ 300 := hv0 9
  have b_ : 0 ≤ (v0 10).toInt ∧ (v0 10).toInt ≤ 300 := hv0 10
  have b_ : 400 ≤ (v4 0).toInt ∧ (v4 0).toInt ≤ 400 := hv4 0
  have b_ : 0 ≤ (v4 7).toInt ∧ (v4 7).toInt ≤ 400 := hv4 7
  refine lv_aload_n hx hb dX2_keep_0 rfl (lv_at hl 0 rfl) ?_
  refine va_get (D := (dC, dI)) (ci := 2) (v := .ref h11) (C := RX2) (T := TX2) (N := 11) hx hb hG zuX2 hown hK hP 0 rfl rfl 2 (by decide) (hG _ zv327) (fun _ h9 => h9) rfl dX2_keep_1 ?_
  refine lv_lload_n hx hb dX2_keep_4 rfl (lv_at hl 1 rfl) ?_
  have hPc := hP.sub (ws' := [(h11, .inr (10, mX10 h12 h13 h14 h15 h16 h17 v11)), (h12, .inl (k12, 10, .inr (.inl f12)))]) [1, 2] rfl
  have hDc := hD.sub (ws' := [(h11, .inr (10, mX10 h12 h13 h14 h15 h16 h17 v11)), (h12, .inl (k12, 10, .inr (.inl f12)))]) [1, 2] (by decide) rfl
  have hKc := hK.sub (tys' := [(k12, .long)]) [0] rfl
  have hFc := va_free (wc := [(h11, .inr (10, mX10 h12 h13 h14 h15 h16 h17 v11)), (h12, .inl (k12, 10, .inr (.inl f12)))]) hD hS hA [1, 2] rfl
  refine va_calli (va_runV (As := [.long y1]) (rest := []) ⟨hx, hb, hml, hown, hG⟩ (sX10_rankOf_0 l dC dI adK adV h11 h12 h13 h14 h15 h16 h17 k12 s.heap.size v11 f12 y1 hv11) (cwV 1 hG (zgV zv739 zv740 zv741 zv131 zv742) rfl rfl rfl (by decide +kernel) ⟨Nat.le_of_ble_eq_true rfl, Nat.le_of_ble_eq_true rfl⟩) ⟨zPc_blind, va_recv hKc hPc (ci := 10) (q0 := 0) rfl rfl, zPc_pre hPc hKc hDc hE hS hFc hZ⟩ rfl rfl hl.1 rfl (lv_room (Nat.le_of_ble_eq_true rfl)) dX2_keep_5 ⟨Nat.le_of_ble_eq_true rfl, Nat.le_of_ble_eq_true rfl⟩) hS (fun q _ h => hFc q h) hFc (fun r5_ u5_ t H1 locs ht hvm hw hB hz1 hk1 hS => ?_)
  replace hw : ((-1) ≤ r5_.toInt ∧ r5_.toInt ≤ 9) ∧ (r5_.toInt < (v11 7).toInt) ∧ (zRf f12 (v11 7).toInt y1.toInt r5_.toInt) := hw
  obtain ⟨b_, hX5_0, hX5_1⟩ := hw
  obtain ⟨w5_, a5_, b5_, hP1, hK1, hD1⟩ := hB
  rw [ht] at hP1
  obtain ⟨hP, hD⟩ := va_join (wr := [(h0, .inr (2, mX2 h1 h4 h11 h18 h19 h20 h21 h22 h23 v0)), (h4, .inr (10, mX10 h5 h6 h7 h8 h9 h10 v4)), (h5, .inl (k5, 400, .inr (.inl f5))), (h6, zi k6 400 f6), (h7, zi k7 400 f7), (h18, zi k18 300 f18), (h19, zi k19 300 f19), (h23, zi k23 400 f23), (h22, zi k22 400 f22), (h21, zi k21 400 f21), (h20, zi k20 300 f20)]) (w1 := [(h11, .inr (10, mX10 h12 h13 h14 h15 h16 h17 v11)), (h12, .inl (k12, 10, .inr (.inl f12)))]) hP hD [1, 2] [0, 3, 4, 5, 6, 7, 8, 9, 10, 11, 12] rfl rfl (by decide) (by decide) hk1 hFc hP1 hD1
  have hP : va_P (dC, dI) vwCl [(h0, .inr (2, mX2 h1 h4 h11 h18 h19 h20 h21 h22 h23 v0)), (h11, .inr (10, mX10 h12 h13 h14 h15 h16 h17 v11)), (h12, .inl (k12, 10, .inr (.inl f12))), (h4, .inr (10, mX10 h5 h6 h7 h8 h9 h10 v4)), (h5, .inl (k5, 400, .inr (.inl f5))), (h6, zi k6 400 f6), (h7, zi k7 400 f7), (h18, zi k18 300 f18), (h19, zi k19 300 f19), (h23, zi k23 400 f23), (h22, zi k22 400 f22), (h21, zi k21 400 f21), (h20, zi k20 300 f20)] H1 := hP.sub [0, 11, 12, 1, 2, 3, 4, 5, 6, 7, 8, 9, 10] rfl
  have hD : va_D A [(h0, .inr (2, mX2 h1 h4 h11 h18 h19 h20 h21 h22 h23 v0)), (h11, .inr (10, mX10 h12 h13 h14 h15 h16 h17 v11)), (h12, .inl (k12, 10, .inr (.inl f12))), (h4, .inr (10, mX10 h5 h6 h7 h8 h9 h10 v4)), (h5, .inl (k5, 400, .inr (.inl f5))), (h6, zi k6 400 f6), (h7, zi k7 400 f7), (h18, zi k18 300 f18), (h19, zi k19 300 f19), (h23, zi k23 400 f23), (h22, zi k22 400 f22), (h21, zi k21 400 f21), (h20, zi k20 300 f20)] := hD.sub [0, 11, 12, 1, 2, 3, 4, 5, 6, 7, 8, 9, 10] (by decide) rfl
  generalize H1 = H at hP hS ⊢
  clear hz1
  refine lv_iconst (v := (-1)) hx hb dX2_keep_8 (by decide) ?_
  refine lv_icmp_eq (tgt := 14) hx hb dX2_keep_9 (by decide) (fun c_ => ?_) (fun c_ => ?_)
  · skip
    have b_ := zT_eq rfl zk_m1 c_
    refine lv_aload_n hx hb dX2_keep_14 rfl (lv_at hl 0 rfl) ?_
    refine va_get (D := (dC, dI)) (ci := 2) (v := .ref h4) (C := RX2) (T := TX2) (N := 11) hx hb hG zuX2 hown hK hP 0 rfl rfl 1 (by decide) (hG _ zv326) (fun _ h9 => h9) rfl dX2_keep_15 ?_
    refine lv_lload_n hx hb dX2_keep_18 rfl (lv_at hl 1 rfl) ?_
    have hPc := hP.sub (ws' := [(h4, .inr (10, mX10 h5 h6 h7 h8 h9 h10 v4)), (h5, .inl (k5, 400, .inr (.inl f5))), (h6, zi k6 400 f6), (h7, zi k7 400 f7)]) [3, 4, 5, 6] rfl
    have hDc := hD.sub (ws' := [(h4, .inr (10, mX10 h5 h6 h7 h8 h9 h10 v4)), (h5, .inl (k5, 400, .inr (.inl f5))), (h6, zi k6 400 f6), (h7, zi k7 400 f7)]) [3, 4, 5, 6] (by decide) rfl
    have hKc := hK.sub (tys' := [(k5, .long), (k6, .int), (k7, .int)]) [1, 2, 3] rfl
    have hFc := va_free (wc := [(h4, .inr (10, mX10 h5 h6 h7 h8 h9 h10 v4)), (h5, .inl (k5, 400, .inr (.inl f5))), (h6, zi k6 400 f6), (h7, zi k7 400 f7)]) hD hS hA [3, 4, 5, 6] rfl
    refine va_calli (va_runV (As := [.long y1]) (rest := []) ⟨hx, hb, hml, hown, hG⟩ (sX10_idOf_0 l dC dI adK adV h4 h5 h6 h7 h8 h9 h10 k5 k6 k7 H.size v4 f5 f6 f7 y1 hv4 hf6 hf7) (cwV 1 hG (zgV zv747 zv748 zv749 zv131 zv750) rfl rfl rfl (by decide +kernel) ⟨Nat.le_of_ble_eq_true rfl, Nat.le_of_ble_eq_true rfl⟩) ⟨zPc_blind, va_recv hKc hPc (ci := 10) (q0 := 0) rfl rfl, zPc_pre hPc hKc hDc hE hS hFc hZ⟩ rfl rfl hl.1 rfl (lv_room (Nat.le_of_ble_eq_true rfl)) dX2_keep_19 ⟨Nat.le_of_ble_eq_true rfl, Nat.le_of_ble_eq_true rfl⟩) hS (fun q _ h => hFc q h) hFc (fun r19_ u19_ t H1 locs ht hvm hw hB hz1 hk1 hS => ?_)
    replace hw : ((-1) ≤ r19_.toInt ∧ r19_.toInt ≤ 399) ∧ (∀ V : List Int, zVo f5 f6 f7 (v4 7).toInt V → zIf V y1.toInt r19_.toInt) := hw
    obtain ⟨b_, hX19_0⟩ := hw
    obtain ⟨w19_, a19_, b19_, hP1, hK1, hD1⟩ := hB
    rw [ht] at hP1
    obtain ⟨hP, hD⟩ := va_join (wr := [(h0, .inr (2, mX2 h1 h4 h11 h18 h19 h20 h21 h22 h23 v0)), (h11, .inr (10, mX10 h12 h13 h14 h15 h16 h17 v11)), (h12, .inl (k12, 10, .inr (.inl f12))), (h18, zi k18 300 f18), (h19, zi k19 300 f19), (h23, zi k23 400 f23), (h22, zi k22 400 f22), (h21, zi k21 400 f21), (h20, zi k20 300 f20)]) (w1 := [(h4, .inr (10, mX10 h5 h6 h7 h8 h9 h10 v4)), (h5, .inl (k5, 400, .inr (.inl f5))), (h6, zi k6 400 f6), (h7, zi k7 400 f7)]) hP hD [3, 4, 5, 6] [0, 1, 2, 7, 8, 9, 10, 11, 12] rfl rfl (by decide) (by decide) hk1 hFc hP1 hD1
    have hP : va_P (dC, dI) vwCl [(h0, .inr (2, mX2 h1 h4 h11 h18 h19 h20 h21 h22 h23 v0)), (h11, .inr (10, mX10 h12 h13 h14 h15 h16 h17 v11)), (h12, .inl (k12, 10, .inr (.inl f12))), (h4, .inr (10, mX10 h5 h6 h7 h8 h9 h10 v4)), (h5, .inl (k5, 400, .inr (.inl f5))), (h6, zi k6 400 f6), (h7, zi k7 400 f7), (h18, zi k18 300 f18), (h19, zi k19 300 f19), (h23, zi k23 400 f23), (h22, zi k22 400 f22), (h21, zi k21 400 f21), (h20, zi k20 300 f20)] H1 := hP.sub [0, 1, 2, 9, 10, 11, 12, 3, 4, 5, 6, 7, 8] rfl
    have hD : va_D A [(h0, .inr (2, mX2 h1 h4 h11 h18 h19 h20 h21 h22 h23 v0)), (h11, .inr (10, mX10 h12 h13 h14 h15 h16 h17 v11)), (h12, .inl (k12, 10, .inr (.inl f12))), (h4, .inr (10, mX10 h5 h6 h7 h8 h9 h10 v4)), (h5, .inl (k5, 400, .inr (.inl f5))), (h6, zi k6 400 f6), (h7, zi k7 400 f7), (h18, zi k18 300 f18), (h19, zi k19 300 f19), (h23, zi k23 400 f23), (h22, zi k22 400 f22), (h21, zi k21 400 f21), (h20, zi k20 300 f20)] := hD.sub [0, 1, 2, 9, 10, 11, 12, 3, 4, 5, 6, 7, 8] (by decide) rfl
    generalize H1 = H at hP hS ⊢
    clear hz1
    refine lv_istore (lv' := [(4, .int r19_), (0, .ref h0), (1, .long y1), (3, .int x2)]) hx hb dX2_keep_22 hl (by decide) rfl (fun ls hl => ?_)
    refine lv_iload hx hb dX2_keep_24 (lv_at hl 0 rfl) ?_
    refine lv_iconst (v := (-1)) hx hb dX2_keep_26 (by decide) ?_
    refine lv_icmp_ne (tgt := 40) hx hb dX2_keep_27 (by decide) (fun c_ => ?_) (fun c_ => ?_)
    · skip
      have b_ := zT_ne rfl zk_m1 c_
      refine lv_iload hx hb dX2_keep_40 (lv_at hl 0 rfl) ?_
      refine lv_if_lt (tgt := 63) hx hb dX2_keep_42 (by decide) (fun c_ => False.elim (by have b_ := zT_lt rfl zk_0 c_; omega)) (fun c_ => ?_)
      have b_ := zF_lt rfl zk_0 c_
      refine lv_iload hx hb dX2_keep_45 (lv_at hl 0 rfl) ?_
      refine lv_sipush (v := 400) hx hb dX2_keep_47 (by decide) ?_
      refine lv_icmp_ge (tgt := 63) hx hb dX2_keep_50 (by decide) (fun c_ => False.elim (by have b_ := zT_ge rfl zk_400 c_; omega)) (fun c_ => ?_)
      have b_ := zF_ge rfl zk_400 c_
      refine lv_aload_n hx hb dX2_keep_53 rfl (lv_at hl 1 rfl) ?_
      refine va_get (D := (dC, dI)) (ci := 2) (v := .int (v0 9)) (C := RX2) (T := TX2) (N := 11) hx hb hG zuX2 hown hK hP 0 rfl rfl 9 (by decide) (hG _ zv334) (fun _ h9 => h9) rfl dX2_keep_54 ?_
      refine lv_sipush (v := 300) hx hb dX2_keep_57 (by decide) ?_
      refine lv_icmp_lt (tgt := 65) hx hb dX2_keep_60 (by decide) (fun c_ => ?_) (fun c_ => ?_)
      · skip
        have b_ := zT_lt rfl zk_300 c_
        refine lv_aload_n hx hb dX2_keep_65 rfl (lv_at hl 1 rfl) ?_
        refine va_get (D := (dC, dI)) (ci := 2) (v := .ref h18) (C := RX2) (T := TX2) (N := 11) hx hb hG zuX2 hown hK hP 0 rfl rfl 3 (by decide) (hG _ zv328) (fun _ h9 => h9) rfl dX2_keep_66 ?_
        refine lv_aload_n hx hb dX2_keep_69 rfl (lv_at hl 1 rfl) ?_
        refine va_get (D := (dC, dI)) (ci := 2) (v := .int (v0 9)) (C := RX2) (T := TX2) (N := 11) hx hb hG zuX2 hown hK hP 0 rfl rfl 9 (by decide) (hG _ zv334) (fun _ h9 => h9) rfl dX2_keep_70 ?_
        refine lv_iload_n hx hb dX2_keep_73 rfl (lv_at hl 3 rfl) ?_
        refine va_iast hx hb hK hP hD hS 7 4 rfl rfl (zin_lit ⟨by omega, by omega⟩) dX2_keep_74 (fun H locs hP hD hS => ?_)
        obtain ⟨f_74, e_f_74⟩ : ∃ z : Nat → Int32, z = upd f18 ((v0 9) : Int32).toNatClampNeg x2 := ⟨_, rfl⟩
        have hP : va_P (dC, dI) vwCl [(h0, .inr (2, mX2 h1 h4 h11 h18 h19 h20 h21 h22 h23 v0)), (h11, .inr (10, mX10 h12 h13 h14 h15 h16 h17 v11)), (h12, .inl (k12, 10, .inr (.inl f12))), (h4, .inr (10, mX10 h5 h6 h7 h8 h9 h10 v4)), (h5, .inl (k5, 400, .inr (.inl f5))), (h6, zi k6 400 f6), (h7, zi k7 400 f7), (h18, zi k18 300 f_74), (h19, zi k19 300 f19), (h23, zi k23 400 f23), (h22, zi k22 400 f22), (h21, zi k21 400 f21), (h20, zi k20 300 f20)] H := by rw [e_f_74]; exact hP
        have hD : va_D A [(h0, .inr (2, mX2 h1 h4 h11 h18 h19 h20 h21 h22 h23 v0)), (h11, .inr (10, mX10 h12 h13 h14 h15 h16 h17 v11)), (h12, .inl (k12, 10, .inr (.inl f12))), (h4, .inr (10, mX10 h5 h6 h7 h8 h9 h10 v4)), (h5, .inl (k5, 400, .inr (.inl f5))), (h6, zi k6 400 f6), (h7, zi k7 400 f7), (h18, zi k18 300 f_74), (h19, zi k19 300 f19), (h23, zi k23 400 f23), (h22, zi k22 400 f22), (h21, zi k21 400 f21), (h20, zi k20 300 f20)] := by rw [e_f_74]; exact hD
        refine lv_aload_n hx hb dX2_keep_75 rfl (lv_at hl 1 rfl) ?_
        refine va_get (D := (dC, dI)) (ci := 2) (v := .ref h19) (C := RX2) (T := TX2) (N := 11) hx hb hG zuX2 hown hK hP 0 rfl rfl 4 (by decide) (hG _ zv329) (fun _ h9 => h9) rfl dX2_keep_76 ?_
        refine lv_aload_n hx hb dX2_keep_79 rfl (lv_at hl 1 rfl) ?_
        refine va_get (D := (dC, dI)) (ci := 2) (v := .int (v0 9)) (C := RX2) (T := TX2) (N := 11) hx hb hG zuX2 hown hK hP 0 rfl rfl 9 (by decide) (hG _ zv334) (fun _ h9 => h9) rfl dX2_keep_80 ?_
        refine lv_iconst (v := (-1)) hx hb dX2_keep_83 (by decide) ?_
        refine va_iast hx hb hK hP hD hS 8 5 rfl rfl (zin_lit ⟨by omega, by omega⟩) dX2_keep_84 (fun H locs hP hD hS => ?_)
        obtain ⟨f_84, e_f_84⟩ : ∃ z : Nat → Int32, z = upd f19 ((v0 9) : Int32).toNatClampNeg (-1) := ⟨_, rfl⟩
        have hP : va_P (dC, dI) vwCl [(h0, .inr (2, mX2 h1 h4 h11 h18 h19 h20 h21 h22 h23 v0)), (h11, .inr (10, mX10 h12 h13 h14 h15 h16 h17 v11)), (h12, .inl (k12, 10, .inr (.inl f12))), (h4, .inr (10, mX10 h5 h6 h7 h8 h9 h10 v4)), (h5, .inl (k5, 400, .inr (.inl f5))), (h6, zi k6 400 f6), (h7, zi k7 400 f7), (h18, zi k18 300 f_74), (h19, zi k19 300 f_84), (h23, zi k23 400 f23), (h22, zi k22 400 f22), (h21, zi k21 400 f21), (h20, zi k20 300 f20)] H := by rw [e_f_84]; exact hP
        have hD : va_D A [(h0, .inr (2, mX2 h1 h4 h11 h18 h19 h20 h21 h22 h23 v0)), (h11, .inr (10, mX10 h12 h13 h14 h15 h16 h17 v11)), (h12, .inl (k12, 10, .inr (.inl f12))), (h4, .inr (10, mX10 h5 h6 h7 h8 h9 h10 v4)), (h5, .inl (k5, 400, .inr (.inl f5))), (h6, zi k6 400 f6), (h7, zi k7 400 f7), (h18, zi k18 300 f_74), (h19, zi k19 300 f_84), (h23, zi k23 400 f23), (h22, zi k22 400 f22), (h21, zi k21 400 f21), (h20, zi k20 300 f20)] := by rw [e_f_84]; exact hD
        have hf_84 : zA (-1) 299 f_84 := by rw [e_f_84]; exact zA_upd hf19 (show (-1) ≤ ((-1) : Int32).toInt from by decide) (show ((-1) : Int32).toInt ≤ 299 from by decide)
        refine lv_aload_n hx hb dX2_keep_85 rfl (lv_at hl 1 rfl) ?_
        refine va_get (D := (dC, dI)) (ci := 2) (v := .ref h23) (C := RX2) (T := TX2) (N := 11) hx hb hG zuX2 hown hK hP 0 rfl rfl 8 (by decide) (hG _ zv333) (fun _ h9 => h9) rfl dX2_keep_86 ?_
        refine lv_iload hx hb dX2_keep_89 (lv_at hl 0 rfl) ?_
        refine va_iald hx hb hK hP 9 6 rfl rfl (zin_lit ⟨by omega, by omega⟩) dX2_keep_91 ?_
        refine lv_topi (fun z91 e_z91 => ?_)
        have hid : (r19_ : Int32).toNatClampNeg < 400 := by have q : (r19_ : Int32).toNatClampNeg = r19_.toInt.toNat := rfl; omega
        have b_ : 0 ≤ z91.toInt ∧ z91.toInt ≤ (v0 9).toInt := by rw [e_z91]; exact zChn_b hp0_ hid
        refine lv_if_ne (tgt := 130) hx hb dX2_keep_92 (by decide) (fun c_ => ?_) (fun c_ => ?_)
        · skip
          have b_ := zT_ne rfl zk_0 c_
          refine lv_aload_n hx hb dX2_keep_130 rfl (lv_at hl 1 rfl) ?_
          refine va_get (D := (dC, dI)) (ci := 2) (v := .ref h19) (C := RX2) (T := TX2) (N := 11) hx hb hG zuX2 hown hK hP 0 rfl rfl 4 (by decide) (hG _ zv329) (fun _ h9 => h9) rfl dX2_keep_131 ?_
          refine lv_aload_n hx hb dX2_keep_134 rfl (lv_at hl 1 rfl) ?_
          refine va_get (D := (dC, dI)) (ci := 2) (v := .ref h22) (C := RX2) (T := TX2) (N := 11) hx hb hG zuX2 hown hK hP 0 rfl rfl 7 (by decide) (hG _ zv332) (fun _ h9 => h9) rfl dX2_keep_135 ?_
          refine lv_iload hx hb dX2_keep_138 (lv_at hl 0 rfl) ?_
          refine va_iald hx hb hK hP 10 7 rfl rfl (zin_lit ⟨by omega, by omega⟩) dX2_keep_140 ?_
          refine lv_topi (fun z140 e_z140 => ?_)
          have b_ : 0 ≤ z140.toInt ∧ z140.toInt ≤ 299 := by rw [e_z140]; exact hf22 _
          refine lv_aload_n hx hb dX2_keep_141 rfl (lv_at hl 1 rfl) ?_
          refine va_get (D := (dC, dI)) (ci := 2) (v := .int (v0 9)) (C := RX2) (T := TX2) (N := 11) hx hb hG zuX2 hown hK hP 0 rfl rfl 9 (by decide) (hG _ zv334) (fun _ h9 => h9) rfl dX2_keep_142 ?_
          refine va_iast hx hb hK hP hD hS 8 5 rfl rfl (zin_lit ⟨by omega, by omega⟩) dX2_keep_145 (fun H locs hP hD hS => ?_)
          obtain ⟨f_145, e_f_145⟩ : ∃ z : Nat → Int32, z = upd f_84 (z140 : Int32).toNatClampNeg (v0 9) := ⟨_, rfl⟩
          have hP : va_P (dC, dI) vwCl [(h0, .inr (2, mX2 h1 h4 h11 h18 h19 h20 h21 h22 h23 v0)), (h11, .inr (10, mX10 h12 h13 h14 h15 h16 h17 v11)), (h12, .inl (k12, 10, .inr (.inl f12))), (h4, .inr (10, mX10 h5 h6 h7 h8 h9 h10 v4)), (h5, .inl (k5, 400, .inr (.inl f5))), (h6, zi k6 400 f6), (h7, zi k7 400 f7), (h18, zi k18 300 f_74), (h19, zi k19 300 f_145), (h23, zi k23 400 f23), (h22, zi k22 400 f22), (h21, zi k21 400 f21), (h20, zi k20 300 f20)] H := by rw [e_f_145]; exact hP
          have hD : va_D A [(h0, .inr (2, mX2 h1 h4 h11 h18 h19 h20 h21 h22 h23 v0)), (h11, .inr (10, mX10 h12 h13 h14 h15 h16 h17 v11)), (h12, .inl (k12, 10, .inr (.inl f12))), (h4, .inr (10, mX10 h5 h6 h7 h8 h9 h10 v4)), (h5, .inl (k5, 400, .inr (.inl f5))), (h6, zi k6 400 f6), (h7, zi k7 400 f7), (h18, zi k18 300 f_74), (h19, zi k19 300 f_145), (h23, zi k23 400 f23), (h22, zi k22 400 f22), (h21, zi k21 400 f21), (h20, zi k20 300 f20)] := by rw [e_f_145]; exact hD
          have hf_145 : zA (-1) 299 f_145 := by rw [e_f_145]; exact zA_upd hf_84 (show (-1) ≤ ((v0 9) : Int32).toInt from by omega) (show ((v0 9) : Int32).toInt ≤ 299 from by omega)
          refine lv_aload_n hx hb dX2_keep_146 rfl (lv_at hl 1 rfl) ?_
          refine va_get (D := (dC, dI)) (ci := 2) (v := .ref h22) (C := RX2) (T := TX2) (N := 11) hx hb hG zuX2 hown hK hP 0 rfl rfl 7 (by decide) (hG _ zv332) (fun _ h9 => h9) rfl dX2_keep_147 ?_
          refine lv_iload hx hb dX2_keep_150 (lv_at hl 0 rfl) ?_
          refine lv_aload_n hx hb dX2_keep_152 rfl (lv_at hl 1 rfl) ?_
          refine va_get (D := (dC, dI)) (ci := 2) (v := .int (v0 9)) (C := RX2) (T := TX2) (N := 11) hx hb hG zuX2 hown hK hP 0 rfl rfl 9 (by decide) (hG _ zv334) (fun _ h9 => h9) rfl dX2_keep_153 ?_
          refine va_iast hx hb hK hP hD hS 10 7 rfl rfl (zin_lit ⟨by omega, by omega⟩) dX2_keep_156 (fun H locs hP hD hS => ?_)
          obtain ⟨f_156, e_f_156⟩ : ∃ z : Nat → Int32, z = upd f22 (r19_ : Int32).toNatClampNeg (v0 9) := ⟨_, rfl⟩
          have hP : va_P (dC, dI) vwCl [(h0, .inr (2, mX2 h1 h4 h11 h18 h19 h20 h21 h22 h23 v0)), (h11, .inr (10, mX10 h12 h13 h14 h15 h16 h17 v11)), (h12, .inl (k12, 10, .inr (.inl f12))), (h4, .inr (10, mX10 h5 h6 h7 h8 h9 h10 v4)), (h5, .inl (k5, 400, .inr (.inl f5))), (h6, zi k6 400 f6), (h7, zi k7 400 f7), (h18, zi k18 300 f_74), (h19, zi k19 300 f_145), (h23, zi k23 400 f23), (h22, zi k22 400 f_156), (h21, zi k21 400 f21), (h20, zi k20 300 f20)] H := by rw [e_f_156]; exact hP
          have hD : va_D A [(h0, .inr (2, mX2 h1 h4 h11 h18 h19 h20 h21 h22 h23 v0)), (h11, .inr (10, mX10 h12 h13 h14 h15 h16 h17 v11)), (h12, .inl (k12, 10, .inr (.inl f12))), (h4, .inr (10, mX10 h5 h6 h7 h8 h9 h10 v4)), (h5, .inl (k5, 400, .inr (.inl f5))), (h6, zi k6 400 f6), (h7, zi k7 400 f7), (h18, zi k18 300 f_74), (h19, zi k19 300 f_145), (h23, zi k23 400 f23), (h22, zi k22 400 f_156), (h21, zi k21 400 f21), (h20, zi k20 300 f20)] := by rw [e_f_156]; exact hD
          have hf_156 : zA 0 299 f_156 := by rw [e_f_156]; exact zA_upd hf22 (show 0 ≤ ((v0 9) : Int32).toInt from by omega) (show ((v0 9) : Int32).toInt ≤ 299 from by omega)
          refine lv_aload_n hx hb dX2_keep_157 rfl (lv_at hl 1 rfl) ?_
          refine va_get (D := (dC, dI)) (ci := 2) (v := .ref h23) (C := RX2) (T := TX2) (N := 11) hx hb hG zuX2 hown hK hP 0 rfl rfl 8 (by decide) (hG _ zv333) (fun _ h9 => h9) rfl dX2_keep_158 ?_
          refine lv_iload hx hb dX2_keep_161 (lv_at hl 0 rfl) ?_
          refine lv_dup2_11 hx hb dX2_keep_163 rfl rfl ?_
          refine va_iald hx hb hK hP 9 6 rfl rfl (zin_lit ⟨by omega, by omega⟩) dX2_keep_164 ?_
          refine lv_topi (fun z164 e_z164 => ?_)
          have b_ : z164.toInt = z91.toInt := by rw [e_z164, e_z91]
          refine lv_iconst (v := 1) hx hb dX2_keep_165 (by decide) ?_
          refine lv_iadd hx hb dX2_keep_166 ?_
          refine lv_topi (fun z166 e_z166 => ?_)
          have b_ := zadd rfl zk_1 e_z166 (by omega) (by omega)
          refine va_iast hx hb hK hP hD hS 9 6 rfl rfl (zin_lit ⟨by omega, by omega⟩) dX2_keep_167 (fun H locs hP hD hS => ?_)
          obtain ⟨f_167, e_f_167⟩ : ∃ z : Nat → Int32, z = upd f23 (r19_ : Int32).toNatClampNeg z166 := ⟨_, rfl⟩
          have hP : va_P (dC, dI) vwCl [(h0, .inr (2, mX2 h1 h4 h11 h18 h19 h20 h21 h22 h23 v0)), (h11, .inr (10, mX10 h12 h13 h14 h15 h16 h17 v11)), (h12, .inl (k12, 10, .inr (.inl f12))), (h4, .inr (10, mX10 h5 h6 h7 h8 h9 h10 v4)), (h5, .inl (k5, 400, .inr (.inl f5))), (h6, zi k6 400 f6), (h7, zi k7 400 f7), (h18, zi k18 300 f_74), (h19, zi k19 300 f_145), (h23, zi k23 400 f_167), (h22, zi k22 400 f_156), (h21, zi k21 400 f21), (h20, zi k20 300 f20)] H := by rw [e_f_167]; exact hP
          have hD : va_D A [(h0, .inr (2, mX2 h1 h4 h11 h18 h19 h20 h21 h22 h23 v0)), (h11, .inr (10, mX10 h12 h13 h14 h15 h16 h17 v11)), (h12, .inl (k12, 10, .inr (.inl f12))), (h4, .inr (10, mX10 h5 h6 h7 h8 h9 h10 v4)), (h5, .inl (k5, 400, .inr (.inl f5))), (h6, zi k6 400 f6), (h7, zi k7 400 f7), (h18, zi k18 300 f_74), (h19, zi k19 300 f_145), (h23, zi k23 400 f_167), (h22, zi k22 400 f_156), (h21, zi k21 400 f21), (h20, zi k20 300 f20)] := by rw [e_f_167]; exact hD
          refine lv_aload_n hx hb dX2_keep_168 rfl (lv_at hl 1 rfl) ?_
          refine lv_dup hx hb dX2_keep_169 rfl ?_
          refine va_get (D := (dC, dI)) (ci := 2) (v := .int (v0 9)) (C := RX2) (T := TX2) (N := 11) hx hb hG zuX2 hown hK hP 0 rfl rfl 9 (by decide) (hG _ zv334) (fun _ h9 => h9) rfl dX2_keep_170 ?_
          refine lv_iconst (v := 1) hx hb dX2_keep_173 (by decide) ?_
          refine lv_iadd hx hb dX2_keep_174 ?_
          refine lv_topi (fun z174 e_z174 => ?_)
          have b_ := zadd rfl zk_1 e_z174 (by omega) (by omega)
          refine va_put (D := (dC, dI)) (ci := 2) (v := .int z174) (ty := .int) (C := RX2) (T := TX2) (N := 11) hx hb hG zuX2 tyX2 tyX2_ok nmX2 hown hK hP hD hS 0 rfl rfl 9 (by decide) (hG _ zv334) (fun _ h9 => h9) rfl (by decide +kernel) rfl rfl (Nat.le_of_ble_eq_true rfl) dX2_keep_175 (fun H locs hP hD hS => ?_)
          have hP : va_P (dC, dI) vwCl [(h0, .inr (2, mX2 h1 h4 h11 h18 h19 h20 h21 h22 h23 (upd v0 9 z174))), (h11, .inr (10, mX10 h12 h13 h14 h15 h16 h17 v11)), (h12, .inl (k12, 10, .inr (.inl f12))), (h4, .inr (10, mX10 h5 h6 h7 h8 h9 h10 v4)), (h5, .inl (k5, 400, .inr (.inl f5))), (h6, zi k6 400 f6), (h7, zi k7 400 f7), (h18, zi k18 300 f_74), (h19, zi k19 300 f_145), (h23, zi k23 400 f_167), (h22, zi k22 400 f_156), (h21, zi k21 400 f21), (h20, zi k20 300 f20)] H := hP
          have hD : va_D A [(h0, .inr (2, mX2 h1 h4 h11 h18 h19 h20 h21 h22 h23 (upd v0 9 z174))), (h11, .inr (10, mX10 h12 h13 h14 h15 h16 h17 v11)), (h12, .inl (k12, 10, .inr (.inl f12))), (h4, .inr (10, mX10 h5 h6 h7 h8 h9 h10 v4)), (h5, .inl (k5, 400, .inr (.inl f5))), (h6, zi k6 400 f6), (h7, zi k7 400 f7), (h18, zi k18 300 f_74), (h19, zi k19 300 f_145), (h23, zi k23 400 f_167), (h22, zi k22 400 f_156), (h21, zi k21 400 f21), (h20, zi k20 300 f20)] := hD
          have hchn : zChn f21 f_145 f_156 f_167 z174.toInt := by rw [show z174.toInt = (v0 9).toInt + 1 from by omega, e_f_145, e_f_84, e_f_156, e_f_167, e_z140]; exact zChn_old hp0_ hid rfl (by omega) (by rw [← e_z91]; omega) (by rw [← e_z91]; omega)
          have hz9 : z166.toInt = (f23 (r19_ : Int32).toNatClampNeg).toInt + 1 := by rw [← e_z91]; omega
          have hke : zKe f5 f6 f7 (v4 7).toInt f12 (v11 7).toInt f18 f19 f20 f21 f22 f23 (v0 9).toInt (v0 10).toInt f5 f6 f7 (v4 7).toInt f_74 f_145 f20 f21 f_156 f_167 z174.toInt (v0 10).toInt y1.toInt x2.toInt (1 : Int32).toInt := zKe_y (L := z140) (M := -1) hX5_1 (by omega) hX19_0 (by omega) (by omega) (by omega) (by first | decide | omega) e_f_74 rfl e_f_156 e_f_167 hz9 (by omega) (Or.inr ⟨by rw [← e_z91]; omega, rfl, by rw [e_f_145, e_f_84], e_z140, rfl, rfl⟩) (by decide)
          refine lv_iconst (v := 1) hx hb dX2_keep_178 (by decide) ?_
          refine W.widen (k := 0) (n := 0) (by decide) (by decide) ?_
          have hpost : (0 ≤ (1 : Int32).toInt ∧ (1 : Int32).toInt ≤ 1) ∧ (0 ≤ z174.toInt ∧ z174.toInt ≤ 300) ∧ (0 ≤ (v0 10).toInt ∧ (v0 10).toInt ≤ 300) ∧ (0 ≤ (v4 7).toInt ∧ (v4 7).toInt ≤ 400) ∧ ((v0 10).toInt ≤ z174.toInt) ∧ ((1 : Int32).toInt = (1 : Int32).toInt) := ⟨(by first | with_reducible assumption | exact ⟨by omega, by omega⟩), (by first | with_reducible assumption | exact ⟨by omega, by omega⟩), (by first | with_reducible assumption | exact ⟨by omega, by omega⟩), (by first | with_reducible assumption | exact ⟨by omega, by omega⟩), by omega, rfl⟩
          have hP9 : va_P (dC, dI) vwCl [(h0, .inr (2, mX2 h1 h4 h11 h18 h19 h20 h21 h22 h23 (upd (upd v0 9 z174) 10 (v0 10)))), (h11, .inr (10, mX10 h12 h13 h14 h15 h16 h17 v11)), (h12, .inl (k12, 10, .inr (.inl f12))), (h4, .inr (10, mX10 h5 h6 h7 h8 h9 h10 (upd v4 7 (v4 7)))), (h5, .inl (k5, 400, .inr (.inl f5))), (h6, zi k6 400 f6), (h7, zi k7 400 f7), (h18, zi k18 300 f_74), (h19, zi k19 300 f_145), (h23, zi k23 400 f_167), (h22, zi k22 400 f_156), (h21, zi k21 400 f21), (h20, zi k20 300 f20)] H := hP
          have hD9 : va_D A [(h0, .inr (2, mX2 h1 h4 h11 h18 h19 h20 h21 h22 h23 (upd (upd v0 9 z174) 10 (v0 10)))), (h11, .inr (10, mX10 h12 h13 h14 h15 h16 h17 v11)), (h12, .inl (k12, 10, .inr (.inl f12))), (h4, .inr (10, mX10 h5 h6 h7 h8 h9 h10 (upd v4 7 (v4 7)))), (h5, .inl (k5, 400, .inr (.inl f5))), (h6, zi k6 400 f6), (h7, zi k7 400 f7), (h18, zi k18 300 f_74), (h19, zi k19 300 f_145), (h23, zi k23 400 f_167), (h22, zi k22 400 f_156), (h21, zi k21 400 f21), (h20, zi k20 300 f20)] := hD
          have hB0 : zChn f21 f_145 f_156 f_167 z174.toInt := by assumption
          have hB1 : zKe f5 f6 f7 (v4 7).toInt f12 (v11 7).toInt f18 f19 f20 f21 f22 f23 (v0 9).toInt (v0 10).toInt f5 f6 f7 (v4 7).toInt f_74 f_145 f20 f21 f_156 f_167 z174.toInt (v0 10).toInt y1.toInt x2.toInt (1 : Int32).toInt := by first | exact hke | exact zKe_s hX5_1 (by omega) (by decide) | exact zKe_f hX5_1 (by omega) hX19_0 (by omega) (by omega) (hB35_1 (by omega)) (by omega) (by decide) | exact zKe_k (by omega)
          exact W.zret (v := 1) hx hb hr rfl (fun t ht hW => ⟨⟨1, (fun i => ([z174, (v0 10), (v4 7), 1] : List (Int32)).getD i 0), rfl, hpost, (fun _ => 0), (fun i => ([f6, f_74, f_145, f_167, f_156, f21, f20] : List (Nat → Int32)).getD i (fun _ => 0)), (fun i => ([f5] : List (Nat → Int64)).getD i (fun _ => 0)), hf6, hf_145, hf_156, hf21, hf20, hB0, hB1, by rw [ht]; exact hP9, va_K.moved hW.alike hK, hD9⟩, hS.F ht⟩) hS.2.2 dX2_keep_179
        · skip
          have b_ := zF_ne rfl zk_0 c_
          refine lv_aload_n hx hb dX2_keep_95 rfl (lv_at hl 1 rfl) ?_
          refine va_get (D := (dC, dI)) (ci := 2) (v := .ref h21) (C := RX2) (T := TX2) (N := 11) hx hb hG zuX2 hown hK hP 0 rfl rfl 6 (by decide) (hG _ zv331) (fun _ h9 => h9) rfl dX2_keep_96 ?_
          refine lv_iload hx hb dX2_keep_99 (lv_at hl 0 rfl) ?_
          refine lv_aload_n hx hb dX2_keep_101 rfl (lv_at hl 1 rfl) ?_
          refine va_get (D := (dC, dI)) (ci := 2) (v := .int (v0 9)) (C := RX2) (T := TX2) (N := 11) hx hb hG zuX2 hown hK hP 0 rfl rfl 9 (by decide) (hG _ zv334) (fun _ h9 => h9) rfl dX2_keep_102 ?_
          refine va_iast hx hb hK hP hD hS 11 8 rfl rfl (zin_lit ⟨by omega, by omega⟩) dX2_keep_105 (fun H locs hP hD hS => ?_)
          obtain ⟨f_105, e_f_105⟩ : ∃ z : Nat → Int32, z = upd f21 (r19_ : Int32).toNatClampNeg (v0 9) := ⟨_, rfl⟩
          have hP : va_P (dC, dI) vwCl [(h0, .inr (2, mX2 h1 h4 h11 h18 h19 h20 h21 h22 h23 v0)), (h11, .inr (10, mX10 h12 h13 h14 h15 h16 h17 v11)), (h12, .inl (k12, 10, .inr (.inl f12))), (h4, .inr (10, mX10 h5 h6 h7 h8 h9 h10 v4)), (h5, .inl (k5, 400, .inr (.inl f5))), (h6, zi k6 400 f6), (h7, zi k7 400 f7), (h18, zi k18 300 f_74), (h19, zi k19 300 f_84), (h23, zi k23 400 f23), (h22, zi k22 400 f22), (h21, zi k21 400 f_105), (h20, zi k20 300 f20)] H := by rw [e_f_105]; exact hP
          have hD : va_D A [(h0, .inr (2, mX2 h1 h4 h11 h18 h19 h20 h21 h22 h23 v0)), (h11, .inr (10, mX10 h12 h13 h14 h15 h16 h17 v11)), (h12, .inl (k12, 10, .inr (.inl f12))), (h4, .inr (10, mX10 h5 h6 h7 h8 h9 h10 v4)), (h5, .inl (k5, 400, .inr (.inl f5))), (h6, zi k6 400 f6), (h7, zi k7 400 f7), (h18, zi k18 300 f_74), (h19, zi k19 300 f_84), (h23, zi k23 400 f23), (h22, zi k22 400 f22), (h21, zi k21 400 f_105), (h20, zi k20 300 f20)] := by rw [e_f_105]; exact hD
          have hf_105 : zA 0 299 f_105 := by rw [e_f_105]; exact zA_upd hf21 (show 0 ≤ ((v0 9) : Int32).toInt from by omega) (show ((v0 9) : Int32).toInt ≤ 299 from by omega)
          refine lv_aload_n hx hb dX2_keep_106 rfl (lv_at hl 1 rfl) ?_
          refine va_get (D := (dC, dI)) (ci := 2) (v := .ref h20) (C := RX2) (T := TX2) (N := 11) hx hb hG zuX2 hown hK hP 0 rfl rfl 5 (by decide) (hG _ zv330) (fun _ h9 => h9) rfl dX2_keep_107 ?_
          refine lv_aload_n hx hb dX2_keep_110 rfl (lv_at hl 1 rfl) ?_
          refine va_get (D := (dC, dI)) (ci := 2) (v := .int (v0 10)) (C := RX2) (T := TX2) (N := 11) hx hb hG zuX2 hown hK hP 0 rfl rfl 10 (by decide) (hG _ zv335) (fun _ h9 => h9) rfl dX2_keep_111 ?_
          refine lv_iload hx hb dX2_keep_114 (lv_at hl 0 rfl) ?_
          refine va_iast hx hb hK hP hD hS 12 9 rfl rfl (zin_lit ⟨by omega, by omega⟩) dX2_keep_116 (fun H locs hP hD hS => ?_)
          obtain ⟨f_116, e_f_116⟩ : ∃ z : Nat → Int32, z = upd f20 ((v0 10) : Int32).toNatClampNeg r19_ := ⟨_, rfl⟩
          have hP : va_P (dC, dI) vwCl [(h0, .inr (2, mX2 h1 h4 h11 h18 h19 h20 h21 h22 h23 v0)), (h11, .inr (10, mX10 h12 h13 h14 h15 h16 h17 v11)), (h12, .inl (k12, 10, .inr (.inl f12))), (h4, .inr (10, mX10 h5 h6 h7 h8 h9 h10 v4)), (h5, .inl (k5, 400, .inr (.inl f5))), (h6, zi k6 400 f6), (h7, zi k7 400 f7), (h18, zi k18 300 f_74), (h19, zi k19 300 f_84), (h23, zi k23 400 f23), (h22, zi k22 400 f22), (h21, zi k21 400 f_105), (h20, zi k20 300 f_116)] H := by rw [e_f_116]; exact hP
          have hD : va_D A [(h0, .inr (2, mX2 h1 h4 h11 h18 h19 h20 h21 h22 h23 v0)), (h11, .inr (10, mX10 h12 h13 h14 h15 h16 h17 v11)), (h12, .inl (k12, 10, .inr (.inl f12))), (h4, .inr (10, mX10 h5 h6 h7 h8 h9 h10 v4)), (h5, .inl (k5, 400, .inr (.inl f5))), (h6, zi k6 400 f6), (h7, zi k7 400 f7), (h18, zi k18 300 f_74), (h19, zi k19 300 f_84), (h23, zi k23 400 f23), (h22, zi k22 400 f22), (h21, zi k21 400 f_105), (h20, zi k20 300 f_116)] := by rw [e_f_116]; exact hD
          have hf_116 : zA 0 399 f_116 := by rw [e_f_116]; exact zA_upd hf20 (show 0 ≤ (r19_ : Int32).toInt from by omega) (show (r19_ : Int32).toInt ≤ 399 from by omega)
          refine lv_aload_n hx hb dX2_keep_117 rfl (lv_at hl 1 rfl) ?_
          refine lv_dup hx hb dX2_keep_118 rfl ?_
          refine va_get (D := (dC, dI)) (ci := 2) (v := .int (v0 10)) (C := RX2) (T := TX2) (N := 11) hx hb hG zuX2 hown hK hP 0 rfl rfl 10 (by decide) (hG _ zv335) (fun _ h9 => h9) rfl dX2_keep_119 ?_
          refine lv_iconst (v := 1) hx hb dX2_keep_122 (by decide) ?_
          refine lv_iadd hx hb dX2_keep_123 ?_
          refine lv_topi (fun z123 e_z123 => ?_)
          have b_ := zadd rfl zk_1 e_z123 (by omega) (by omega)
          have b_ : 0 ≤ z123.toInt ∧ z123.toInt ≤ 300 := ⟨by omega, by omega⟩
          refine va_put (D := (dC, dI)) (ci := 2) (v := .int z123) (ty := .int) (C := RX2) (T := TX2) (N := 11) hx hb hG zuX2 tyX2 tyX2_ok nmX2 hown hK hP hD hS 0 rfl rfl 10 (by decide) (hG _ zv335) (fun _ h9 => h9) rfl (by decide +kernel) rfl rfl (Nat.le_of_ble_eq_true rfl) dX2_keep_124 (fun H locs hP hD hS => ?_)
          have hP : va_P (dC, dI) vwCl [(h0, .inr (2, mX2 h1 h4 h11 h18 h19 h20 h21 h22 h23 (upd v0 10 z123))), (h11, .inr (10, mX10 h12 h13 h14 h15 h16 h17 v11)), (h12, .inl (k12, 10, .inr (.inl f12))), (h4, .inr (10, mX10 h5 h6 h7 h8 h9 h10 v4)), (h5, .inl (k5, 400, .inr (.inl f5))), (h6, zi k6 400 f6), (h7, zi k7 400 f7), (h18, zi k18 300 f_74), (h19, zi k19 300 f_84), (h23, zi k23 400 f23), (h22, zi k22 400 f22), (h21, zi k21 400 f_105), (h20, zi k20 300 f_116)] H := hP
          have hD : va_D A [(h0, .inr (2, mX2 h1 h4 h11 h18 h19 h20 h21 h22 h23 (upd v0 10 z123))), (h11, .inr (10, mX10 h12 h13 h14 h15 h16 h17 v11)), (h12, .inl (k12, 10, .inr (.inl f12))), (h4, .inr (10, mX10 h5 h6 h7 h8 h9 h10 v4)), (h5, .inl (k5, 400, .inr (.inl f5))), (h6, zi k6 400 f6), (h7, zi k7 400 f7), (h18, zi k18 300 f_74), (h19, zi k19 300 f_84), (h23, zi k23 400 f23), (h22, zi k22 400 f22), (h21, zi k21 400 f_105), (h20, zi k20 300 f_116)] := hD
          refine lv_goto (tgt := 146) hx hb dX2_keep_127 (by decide) ?_
          refine lv_aload_n hx hb dX2_keep_146 rfl (lv_at hl 1 rfl) ?_
          refine va_get (D := (dC, dI)) (ci := 2) (v := .ref h22) (C := RX2) (T := TX2) (N := 11) hx hb hG zuX2 hown hK hP 0 rfl rfl 7 (by decide) (hG _ zv332) (fun _ h9 => h9) rfl dX2_keep_147 ?_
          refine lv_iload hx hb dX2_keep_150 (lv_at hl 0 rfl) ?_
          refine lv_aload_n hx hb dX2_keep_152 rfl (lv_at hl 1 rfl) ?_
          refine va_get (D := (dC, dI)) (ci := 2) (v := .int (v0 9)) (C := RX2) (T := TX2) (N := 11) hx hb hG zuX2 hown hK hP 0 rfl rfl 9 (by decide) (hG _ zv334) (fun _ h9 => h9) rfl dX2_keep_153 ?_
          refine va_iast hx hb hK hP hD hS 10 7 rfl rfl (zin_lit ⟨by omega, by omega⟩) dX2_keep_156 (fun H locs hP hD hS => ?_)
          obtain ⟨f_156, e_f_156⟩ : ∃ z : Nat → Int32, z = upd f22 (r19_ : Int32).toNatClampNeg (v0 9) := ⟨_, rfl⟩
          have hP : va_P (dC, dI) vwCl [(h0, .inr (2, mX2 h1 h4 h11 h18 h19 h20 h21 h22 h23 (upd v0 10 z123))), (h11, .inr (10, mX10 h12 h13 h14 h15 h16 h17 v11)), (h12, .inl (k12, 10, .inr (.inl f12))), (h4, .inr (10, mX10 h5 h6 h7 h8 h9 h10 v4)), (h5, .inl (k5, 400, .inr (.inl f5))), (h6, zi k6 400 f6), (h7, zi k7 400 f7), (h18, zi k18 300 f_74), (h19, zi k19 300 f_84), (h23, zi k23 400 f23), (h22, zi k22 400 f_156), (h21, zi k21 400 f_105), (h20, zi k20 300 f_116)] H := by rw [e_f_156]; exact hP
          have hD : va_D A [(h0, .inr (2, mX2 h1 h4 h11 h18 h19 h20 h21 h22 h23 (upd v0 10 z123))), (h11, .inr (10, mX10 h12 h13 h14 h15 h16 h17 v11)), (h12, .inl (k12, 10, .inr (.inl f12))), (h4, .inr (10, mX10 h5 h6 h7 h8 h9 h10 v4)), (h5, .inl (k5, 400, .inr (.inl f5))), (h6, zi k6 400 f6), (h7, zi k7 400 f7), (h18, zi k18 300 f_74), (h19, zi k19 300 f_84), (h23, zi k23 400 f23), (h22, zi k22 400 f_156), (h21, zi k21 400 f_105), (h20, zi k20 300 f_116)] := by rw [e_f_156]; exact hD
          have hf_156 : zA 0 299 f_156 := by rw [e_f_156]; exact zA_upd hf22 (show 0 ≤ ((v0 9) : Int32).toInt from by omega) (show ((v0 9) : Int32).toInt ≤ 299 from by omega)
          refine lv_aload_n hx hb dX2_keep_157 rfl (lv_at hl 1 rfl) ?_
          refine va_get (D := (dC, dI)) (ci := 2) (v := .ref h23) (C := RX2) (T := TX2) (N := 11) hx hb hG zuX2 hown hK hP 0 rfl rfl 8 (by decide) (hG _ zv333) (fun _ h9 => h9) rfl dX2_keep_158 ?_
          refine lv_iload hx hb dX2_keep_161 (lv_at hl 0 rfl) ?_
          refine lv_dup2_11 hx hb dX2_keep_163 rfl rfl ?_
          refine va_iald hx hb hK hP 9 6 rfl rfl (zin_lit ⟨by omega, by omega⟩) dX2_keep_164 ?_
          refine lv_topi (fun z164 e_z164 => ?_)
          have b_ : z164.toInt = z91.toInt := by rw [e_z164, e_z91]
          refine lv_iconst (v := 1) hx hb dX2_keep_165 (by decide) ?_
          refine lv_iadd hx hb dX2_keep_166 ?_
          refine lv_topi (fun z166 e_z166 => ?_)
          have b_ := zadd rfl zk_1 e_z166 (by omega) (by omega)
          refine va_iast hx hb hK hP hD hS 9 6 rfl rfl (zin_lit ⟨by omega, by omega⟩) dX2_keep_167 (fun H locs hP hD hS => ?_)
          obtain ⟨f_167, e_f_167⟩ : ∃ z : Nat → Int32, z = upd f23 (r19_ : Int32).toNatClampNeg z166 := ⟨_, rfl⟩
          have hP : va_P (dC, dI) vwCl [(h0, .inr (2, mX2 h1 h4 h11 h18 h19 h20 h21 h22 h23 (upd v0 10 z123))), (h11, .inr (10, mX10 h12 h13 h14 h15 h16 h17 v11)), (h12, .inl (k12, 10, .inr (.inl f12))), (h4, .inr (10, mX10 h5 h6 h7 h8 h9 h10 v4)), (h5, .inl (k5, 400, .inr (.inl f5))), (h6, zi k6 400 f6), (h7, zi k7 400 f7), (h18, zi k18 300 f_74), (h19, zi k19 300 f_84), (h23, zi k23 400 f_167), (h22, zi k22 400 f_156), (h21, zi k21 400 f_105), (h20, zi k20 300 f_116)] H := by rw [e_f_167]; exact hP
          have hD : va_D A [(h0, .inr (2, mX2 h1 h4 h11 h18 h19 h20 h21 h22 h23 (upd v0 10 z123))), (h11, .inr (10, mX10 h12 h13 h14 h15 h16 h17 v11)), (h12, .inl (k12, 10, .inr (.inl f12))), (h4, .inr (10, mX10 h5 h6 h7 h8 h9 h10 v4)), (h5, .inl (k5, 400, .inr (.inl f5))), (h6, zi k6 400 f6), (h7, zi k7 400 f7), (h18, zi k18 300 f_74), (h19, zi k19 300 f_84), (h23, zi k23 400 f_167), (h22, zi k22 400 f_156), (h21, zi k21 400 f_105), (h20, zi k20 300 f_116)] := by rw [e_f_167]; exact hD
          refine lv_aload_n hx hb dX2_keep_168 rfl (lv_at hl 1 rfl) ?_
          refine lv_dup hx hb dX2_keep_169 rfl ?_
          refine va_get (D := (dC, dI)) (ci := 2) (v := .int (v0 9)) (C := RX2) (T := TX2) (N := 11) hx hb hG zuX2 hown hK hP 0 rfl rfl 9 (by decide) (hG _ zv334) (fun _ h9 => h9) rfl dX2_keep_170 ?_
          refine lv_iconst (v := 1) hx hb dX2_keep_173 (by decide) ?_
          refine lv_iadd hx hb dX2_keep_174 ?_
          refine lv_topi (fun z174 e_z174 => ?_)
          have b_ := zadd rfl zk_1 e_z174 (by omega) (by omega)
          refine va_put (D := (dC, dI)) (ci := 2) (v := .int z174) (ty := .int) (C := RX2) (T := TX2) (N := 11) hx hb hG zuX2 tyX2 tyX2_ok nmX2 hown hK hP hD hS 0 rfl rfl 9 (by decide) (hG _ zv334) (fun _ h9 => h9) rfl (by decide +kernel) rfl rfl (Nat.le_of_ble_eq_true rfl) dX2_keep_175 (fun H locs hP hD hS => ?_)
          have hP : va_P (dC, dI) vwCl [(h0, .inr (2, mX2 h1 h4 h11 h18 h19 h20 h21 h22 h23 (upd (upd v0 9 z174) 10 z123))), (h11, .inr (10, mX10 h12 h13 h14 h15 h16 h17 v11)), (h12, .inl (k12, 10, .inr (.inl f12))), (h4, .inr (10, mX10 h5 h6 h7 h8 h9 h10 v4)), (h5, .inl (k5, 400, .inr (.inl f5))), (h6, zi k6 400 f6), (h7, zi k7 400 f7), (h18, zi k18 300 f_74), (h19, zi k19 300 f_84), (h23, zi k23 400 f_167), (h22, zi k22 400 f_156), (h21, zi k21 400 f_105), (h20, zi k20 300 f_116)] H := hP
          have hD : va_D A [(h0, .inr (2, mX2 h1 h4 h11 h18 h19 h20 h21 h22 h23 (upd (upd v0 9 z174) 10 z123))), (h11, .inr (10, mX10 h12 h13 h14 h15 h16 h17 v11)), (h12, .inl (k12, 10, .inr (.inl f12))), (h4, .inr (10, mX10 h5 h6 h7 h8 h9 h10 v4)), (h5, .inl (k5, 400, .inr (.inl f5))), (h6, zi k6 400 f6), (h7, zi k7 400 f7), (h18, zi k18 300 f_74), (h19, zi k19 300 f_84), (h23, zi k23 400 f_167), (h22, zi k22 400 f_156), (h21, zi k21 400 f_105), (h20, zi k20 300 f_116)] := hD
          have hchn : zChn f_105 f_84 f_156 f_167 z174.toInt := by rw [show z174.toInt = (v0 9).toInt + 1 from by omega, e_f_105, e_f_84, e_f_156, e_f_167]; exact zChn_new hp0_ hid rfl (by omega) (by rw [← e_z91]; omega) (by rw [e_z164] at *; omega)
          have hz9 : z166.toInt = (f23 (r19_ : Int32).toNatClampNeg).toInt + 1 := by rw [← e_z91]; omega
          have hke : zKe f5 f6 f7 (v4 7).toInt f12 (v11 7).toInt f18 f19 f20 f21 f22 f23 (v0 9).toInt (v0 10).toInt f5 f6 f7 (v4 7).toInt f_74 f_84 f_116 f_105 f_156 f_167 z174.toInt z123.toInt y1.toInt x2.toInt (1 : Int32).toInt := zKe_y (L := 0) (M := -1) hX5_1 (by omega) hX19_0 (by omega) (by omega) (by omega) (by first | decide | omega) e_f_74 rfl e_f_156 e_f_167 hz9 (by omega) (Or.inl ⟨by rw [← e_z91]; omega, e_f_105, e_f_84, e_f_116, by omega⟩) (by decide)
          refine lv_iconst (v := 1) hx hb dX2_keep_178 (by decide) ?_
          refine W.widen (k := 0) (n := 0) (by decide) (by decide) ?_
          have hpost : (0 ≤ (1 : Int32).toInt ∧ (1 : Int32).toInt ≤ 1) ∧ (0 ≤ z174.toInt ∧ z174.toInt ≤ 300) ∧ (0 ≤ z123.toInt ∧ z123.toInt ≤ 300) ∧ (0 ≤ (v4 7).toInt ∧ (v4 7).toInt ≤ 400) ∧ (z123.toInt ≤ z174.toInt) ∧ ((1 : Int32).toInt = (1 : Int32).toInt) := ⟨(by first | with_reducible assumption | exact ⟨by omega, by omega⟩), (by first | with_reducible assumption | exact ⟨by omega, by omega⟩), (by first | with_reducible assumption | exact ⟨by omega, by omega⟩), (by first | with_reducible assumption | exact ⟨by omega, by omega⟩), by omega, rfl⟩
          have hP9 : va_P (dC, dI) vwCl [(h0, .inr (2, mX2 h1 h4 h11 h18 h19 h20 h21 h22 h23 (upd (upd v0 9 z174) 10 z123))), (h11, .inr (10, mX10 h12 h13 h14 h15 h16 h17 v11)), (h12, .inl (k12, 10, .inr (.inl f12))), (h4, .inr (10, mX10 h5 h6 h7 h8 h9 h10 (upd v4 7 (v4 7)))), (h5, .inl (k5, 400, .inr (.inl f5))), (h6, zi k6 400 f6), (h7, zi k7 400 f7), (h18, zi k18 300 f_74), (h19, zi k19 300 f_84), (h23, zi k23 400 f_167), (h22, zi k22 400 f_156), (h21, zi k21 400 f_105), (h20, zi k20 300 f_116)] H := hP
          have hD9 : va_D A [(h0, .inr (2, mX2 h1 h4 h11 h18 h19 h20 h21 h22 h23 (upd (upd v0 9 z174) 10 z123))), (h11, .inr (10, mX10 h12 h13 h14 h15 h16 h17 v11)), (h12, .inl (k12, 10, .inr (.inl f12))), (h4, .inr (10, mX10 h5 h6 h7 h8 h9 h10 (upd v4 7 (v4 7)))), (h5, .inl (k5, 400, .inr (.inl f5))), (h6, zi k6 400 f6), (h7, zi k7 400 f7), (h18, zi k18 300 f_74), (h19, zi k19 300 f_84), (h23, zi k23 400 f_167), (h22, zi k22 400 f_156), (h21, zi k21 400 f_105), (h20, zi k20 300 f_116)] := hD
          have hB0 : zChn f_105 f_84 f_156 f_167 z174.toInt := by assumption
          have hB1 : zKe f5 f6 f7 (v4 7).toInt f12 (v11 7).toInt f18 f19 f20 f21 f22 f23 (v0 9).toInt (v0 10).toInt f5 f6 f7 (v4 7).toInt f_74 f_84 f_116 f_105 f_156 f_167 z174.toInt z123.toInt y1.toInt x2.toInt (1 : Int32).toInt := by first | exact hke | exact zKe_s hX5_1 (by omega) (by decide) | exact zKe_f hX5_1 (by omega) hX19_0 (by omega) (by omega) (hB35_1 (by omega)) (by omega) (by decide) | exact zKe_k (by omega)
          exact W.zret (v := 1) hx hb hr rfl (fun t ht hW => ⟨⟨1, (fun i => ([z174, z123, (v4 7), 1] : List (Int32)).getD i 0), rfl, hpost, (fun _ => 0), (fun i => ([f6, f_74, f_84, f_167, f_156, f_105, f_116] : List (Nat → Int32)).getD i (fun _ => 0)), (fun i => ([f5] : List (Nat → Int64)).getD i (fun _ => 0)), hf6, hf_84, hf_156, hf_105, hf_116, hB0, hB1, by rw [ht]; exact hP9, va_K.moved hW.alike hK, hD9⟩, hS.F ht⟩) hS.2.2 dX2_keep_179
      · skip
        have b_ := zF_lt rfl zk_300 c_
        refine lv_iconst (v := 0) hx hb dX2_keep_63 (by decide) ?_
        refine W.widen (k := 0) (n := 0) (by decide) (by decide) ?_
        have hpost : (0 ≤ (0 : Int32).toInt ∧ (0 : Int32).toInt ≤ 1) ∧ (0 ≤ (v0 9).toInt ∧ (v0 9).toInt ≤ 300) ∧ (0 ≤ (v0 10).toInt ∧ (v0 10).toInt ≤ 300) ∧ (0 ≤ (v4 7).toInt ∧ (v4 7).toInt ≤ 400) ∧ ((v0 10).toInt ≤ (v0 9).toInt) ∧ ((0 : Int32).toInt = (0 : Int32).toInt) := ⟨(by first | with_reducible assumption | exact ⟨by omega, by omega⟩), (by first | with_reducible assumption | exact ⟨by omega, by omega⟩), (by first | with_reducible assumption | exact ⟨by omega, by omega⟩), (by first | with_reducible assumption | exact ⟨by omega, by omega⟩), by omega, rfl⟩
        have hP9 : va_P (dC, dI) vwCl [(h0, .inr (2, mX2 h1 h4 h11 h18 h19 h20 h21 h22 h23 (upd (upd v0 9 (v0 9)) 10 (v0 10)))), (h11, .inr (10, mX10 h12 h13 h14 h15 h16 h17 v11)), (h12, .inl (k12, 10, .inr (.inl f12))), (h4, .inr (10, mX10 h5 h6 h7 h8 h9 h10 (upd v4 7 (v4 7)))), (h5, .inl (k5, 400, .inr (.inl f5))), (h6, zi k6 400 f6), (h7, zi k7 400 f7), (h18, zi k18 300 f18), (h19, zi k19 300 f19), (h23, zi k23 400 f23), (h22, zi k22 400 f22), (h21, zi k21 400 f21), (h20, zi k20 300 f20)] H := hP
        have hD9 : va_D A [(h0, .inr (2, mX2 h1 h4 h11 h18 h19 h20 h21 h22 h23 (upd (upd v0 9 (v0 9)) 10 (v0 10)))), (h11, .inr (10, mX10 h12 h13 h14 h15 h16 h17 v11)), (h12, .inl (k12, 10, .inr (.inl f12))), (h4, .inr (10, mX10 h5 h6 h7 h8 h9 h10 (upd v4 7 (v4 7)))), (h5, .inl (k5, 400, .inr (.inl f5))), (h6, zi k6 400 f6), (h7, zi k7 400 f7), (h18, zi k18 300 f18), (h19, zi k19 300 f19), (h23, zi k23 400 f23), (h22, zi k22 400 f22), (h21, zi k21 400 f21), (h20, zi k20 300 f20)] := hD
        have hB0 : zChn f21 f19 f22 f23 (v0 9).toInt := by assumption
        have hB1 : zKe f5 f6 f7 (v4 7).toInt f12 (v11 7).toInt f18 f19 f20 f21 f22 f23 (v0 9).toInt (v0 10).toInt f5 f6 f7 (v4 7).toInt f18 f19 f20 f21 f22 f23 (v0 9).toInt (v0 10).toInt y1.toInt x2.toInt (0 : Int32).toInt := by first | exact hke | exact zKe_s hX5_1 (by omega) (by decide) | exact zKe_f hX5_1 (by omega) hX19_0 (by omega) (by omega) (hB35_1 (by omega)) (by omega) (by decide) | exact zKe_k (by omega)
        exact W.zret (v := 0) hx hb hr rfl (fun t ht hW => ⟨⟨0, (fun i => ([(v0 9), (v0 10), (v4 7), 0] : List (Int32)).getD i 0), rfl, hpost, (fun _ => 0), (fun i => ([f6, f18, f19, f23, f22, f21, f20] : List (Nat → Int32)).getD i (fun _ => 0)), (fun i => ([f5] : List (Nat → Int64)).getD i (fun _ => 0)), hf6, hf19, hf22, hf21, hf20, hB0, hB1, by rw [ht]; exact hP9, va_K.moved hW.alike hK, hD9⟩, hS.F ht⟩) hS.2.2 dX2_keep_64
    · skip
      have b_ := zF_ne rfl zk_m1 c_
      refine lv_aload_n hx hb dX2_keep_30 rfl (lv_at hl 1 rfl) ?_
      refine va_get (D := (dC, dI)) (ci := 2) (v := .ref h4) (C := RX2) (T := TX2) (N := 11) hx hb hG zuX2 hown hK hP 0 rfl rfl 1 (by decide) (hG _ zv326) (fun _ h9 => h9) rfl dX2_keep_31 ?_
      refine lv_lload_n hx hb dX2_keep_34 rfl (lv_at hl 2 rfl) ?_
      have hPc := hP.sub (ws' := [(h4, .inr (10, mX10 h5 h6 h7 h8 h9 h10 v4)), (h5, .inl (k5, 400, .inr (.inl f5))), (h6, zi k6 400 f6)]) [3, 4, 5] rfl
      have hDc := hD.sub (ws' := [(h4, .inr (10, mX10 h5 h6 h7 h8 h9 h10 v4)), (h5, .inl (k5, 400, .inr (.inl f5))), (h6, zi k6 400 f6)]) [3, 4, 5] (by decide) rfl
      have hKc := hK.sub (tys' := [(k5, .long), (k6, .int)]) [1, 2] rfl
      have hFc := va_free (wc := [(h4, .inr (10, mX10 h5 h6 h7 h8 h9 h10 v4)), (h5, .inl (k5, 400, .inr (.inl f5))), (h6, zi k6 400 f6)]) hD hS hA [3, 4, 5] rfl
      refine va_calli (va_runV (As := [.long y1]) (rest := []) ⟨hx, hb, hml, hown, hG⟩ (sX10_add_0 l dC dI adK adV h4 h5 h6 h7 h8 h9 h10 k5 k6 H.size v4 f5 f6 y1 hv4 hf6) (cwV 1 hG (zgV zv756 zv757 zv758 zv131 zv759) rfl rfl rfl (by decide +kernel) ⟨Nat.le_of_ble_eq_true rfl, Nat.le_of_ble_eq_true rfl⟩) ⟨zPc_blind, va_recv hKc hPc (ci := 10) (q0 := 0) rfl rfl, zPc_pre hPc hKc hDc hE hS hFc hZ⟩ rfl rfl hl.1 rfl (lv_room (Nat.le_of_ble_eq_true rfl)) dX2_keep_35 ⟨Nat.le_of_ble_eq_true rfl, Nat.le_of_ble_eq_true rfl⟩) hS (fun q _ h => hFc q h) hFc (fun r35_ u35_ t H1 locs ht hvm hw hB hz1 hk1 hS => ?_)
      replace hw : ((-1) ≤ r35_.toInt ∧ r35_.toInt ≤ 399) ∧ (1 ≤ (u35_ 0).toInt ∧ (u35_ 0).toInt ≤ 400) ∧ (r35_.toInt = -1 → (v4 0).toInt ≤ (v4 7).toInt ∧ (u35_ 0).toInt = (v4 7).toInt) ∧ (r35_.toInt ≠ -1 → (v4 7).toInt < (v4 0).toInt ∧ (u35_ 0).toInt = (v4 7).toInt + 1 ∧ r35_.toInt = (v4 7).toInt) ∧ (r35_.toInt = (u35_ 1).toInt) := hw
      obtain ⟨b_, b_, hX35_0, hX35_1, b_⟩ := hw
      obtain ⟨w35_, a35_, b35_, ha35_0, hB35_0, hB35_1, hP1, hK1, hD1⟩ := hB
      have hB35_0 : (u35_ 1).toInt = -1 ∨ zIns f5 (b35_ 0) f6 (a35_ 0) (v4 7).toInt y1.toInt := hB35_0
      have hB35_1 : (u35_ 1).toInt = -1 → ∀ j : Nat, (b35_ 0) j = f5 j ∧ (a35_ 0) j = f6 j := hB35_1
      rw [ht] at hP1
      obtain ⟨hP, hD⟩ := va_join (wr := [(h0, .inr (2, mX2 h1 h4 h11 h18 h19 h20 h21 h22 h23 v0)), (h11, .inr (10, mX10 h12 h13 h14 h15 h16 h17 v11)), (h12, .inl (k12, 10, .inr (.inl f12))), (h7, zi k7 400 f7), (h18, zi k18 300 f18), (h19, zi k19 300 f19), (h23, zi k23 400 f23), (h22, zi k22 400 f22), (h21, zi k21 400 f21), (h20, zi k20 300 f20)]) (w1 := [(h4, .inr (10, mX10 h5 h6 h7 h8 h9 h10 (upd v4 7 (u35_ 0)))), (h5, .inl (k5, 400, .inr (.inl (b35_ 0)))), (h6, zi k6 400 (a35_ 0))]) hP hD [3, 4, 5] [0, 1, 2, 6, 7, 8, 9, 10, 11, 12] rfl rfl (by decide) (by decide) hk1 hFc hP1 hD1
      have hP : va_P (dC, dI) vwCl [(h0, .inr (2, mX2 h1 h4 h11 h18 h19 h20 h21 h22 h23 v0)), (h11, .inr (10, mX10 h12 h13 h14 h15 h16 h17 v11)), (h12, .inl (k12, 10, .inr (.inl f12))), (h4, .inr (10, mX10 h5 h6 h7 h8 h9 h10 (upd v4 7 (u35_ 0)))), (h5, .inl (k5, 400, .inr (.inl (b35_ 0)))), (h6, zi k6 400 (a35_ 0)), (h7, zi k7 400 f7), (h18, zi k18 300 f18), (h19, zi k19 300 f19), (h23, zi k23 400 f23), (h22, zi k22 400 f22), (h21, zi k21 400 f21), (h20, zi k20 300 f20)] H1 := hP.sub [0, 1, 2, 10, 11, 12, 3, 4, 5, 6, 7, 8, 9] rfl
      have hD : va_D A [(h0, .inr (2, mX2 h1 h4 h11 h18 h19 h20 h21 h22 h23 v0)), (h11, .inr (10, mX10 h12 h13 h14 h15 h16 h17 v11)), (h12, .inl (k12, 10, .inr (.inl f12))), (h4, .inr (10, mX10 h5 h6 h7 h8 h9 h10 (upd v4 7 (u35_ 0)))), (h5, .inl (k5, 400, .inr (.inl (b35_ 0)))), (h6, zi k6 400 (a35_ 0)), (h7, zi k7 400 f7), (h18, zi k18 300 f18), (h19, zi k19 300 f19), (h23, zi k23 400 f23), (h22, zi k22 400 f22), (h21, zi k21 400 f21), (h20, zi k20 300 f20)] := hD.sub [0, 1, 2, 10, 11, 12, 3, 4, 5, 6, 7, 8, 9] (by decide) rfl
      generalize H1 = H at hP hS ⊢
      clear hz1
      refine lv_istore (lv' := [(4, .int r35_), (0, .ref h0), (1, .long y1), (3, .int x2)]) hx hb dX2_keep_38 hl (by decide) rfl (fun ls hl => ?_)
      refine lv_iload hx hb dX2_keep_40 (lv_at hl 0 rfl) ?_
      refine lv_if_lt (tgt := 63) hx hb dX2_keep_42 (by decide) (fun c_ => ?_) (fun c_ => ?_)
      · skip
        have b_ := zT_lt rfl zk_0 c_
        refine lv_iconst (v := 0) hx hb dX2_keep_63 (by decide) ?_
        refine W.widen (k := 0) (n := 0) (by decide) (by decide) ?_
        have hpost : (0 ≤ (0 : Int32).toInt ∧ (0 : Int32).toInt ≤ 1) ∧ (0 ≤ (v0 9).toInt ∧ (v0 9).toInt ≤ 300) ∧ (0 ≤ (v0 10).toInt ∧ (v0 10).toInt ≤ 300) ∧ (0 ≤ (u35_ 0).toInt ∧ (u35_ 0).toInt ≤ 400) ∧ ((v0 10).toInt ≤ (v0 9).toInt) ∧ ((0 : Int32).toInt = (0 : Int32).toInt) := ⟨(by first | with_reducible assumption | exact ⟨by omega, by omega⟩), (by first | with_reducible assumption | exact ⟨by omega, by omega⟩), (by first | with_reducible assumption | exact ⟨by omega, by omega⟩), (by first | with_reducible assumption | exact ⟨by omega, by omega⟩), by omega, rfl⟩
        have hP9 : va_P (dC, dI) vwCl [(h0, .inr (2, mX2 h1 h4 h11 h18 h19 h20 h21 h22 h23 (upd (upd v0 9 (v0 9)) 10 (v0 10)))), (h11, .inr (10, mX10 h12 h13 h14 h15 h16 h17 v11)), (h12, .inl (k12, 10, .inr (.inl f12))), (h4, .inr (10, mX10 h5 h6 h7 h8 h9 h10 (upd v4 7 (u35_ 0)))), (h5, .inl (k5, 400, .inr (.inl (b35_ 0)))), (h6, zi k6 400 (a35_ 0)), (h7, zi k7 400 f7), (h18, zi k18 300 f18), (h19, zi k19 300 f19), (h23, zi k23 400 f23), (h22, zi k22 400 f22), (h21, zi k21 400 f21), (h20, zi k20 300 f20)] H := hP
        have hD9 : va_D A [(h0, .inr (2, mX2 h1 h4 h11 h18 h19 h20 h21 h22 h23 (upd (upd v0 9 (v0 9)) 10 (v0 10)))), (h11, .inr (10, mX10 h12 h13 h14 h15 h16 h17 v11)), (h12, .inl (k12, 10, .inr (.inl f12))), (h4, .inr (10, mX10 h5 h6 h7 h8 h9 h10 (upd v4 7 (u35_ 0)))), (h5, .inl (k5, 400, .inr (.inl (b35_ 0)))), (h6, zi k6 400 (a35_ 0)), (h7, zi k7 400 f7), (h18, zi k18 300 f18), (h19, zi k19 300 f19), (h23, zi k23 400 f23), (h22, zi k22 400 f22), (h21, zi k21 400 f21), (h20, zi k20 300 f20)] := hD
        have hB0 : zChn f21 f19 f22 f23 (v0 9).toInt := by assumption
        have hB1 : zKe f5 f6 f7 (v4 7).toInt f12 (v11 7).toInt f18 f19 f20 f21 f22 f23 (v0 9).toInt (v0 10).toInt (b35_ 0) (a35_ 0) f7 (u35_ 0).toInt f18 f19 f20 f21 f22 f23 (v0 9).toInt (v0 10).toInt y1.toInt x2.toInt (0 : Int32).toInt := by first | exact hke | exact zKe_s hX5_1 (by omega) (by decide) | exact zKe_f hX5_1 (by omega) hX19_0 (by omega) (by omega) (hB35_1 (by omega)) (by omega) (by decide) | exact zKe_k (by omega)
        exact W.zret (v := 0) hx hb hr rfl (fun t ht hW => ⟨⟨0, (fun i => ([(v0 9), (v0 10), (u35_ 0), 0] : List (Int32)).getD i 0), rfl, hpost, (fun _ => 0), (fun i => ([(a35_ 0), f18, f19, f23, f22, f21, f20] : List (Nat → Int32)).getD i (fun _ => 0)), (fun i => ([(b35_ 0)] : List (Nat → Int64)).getD i (fun _ => 0)), ha35_0, hf19, hf22, hf21, hf20, hB0, hB1, by rw [ht]; exact hP9, va_K.moved hW.alike hK, hD9⟩, hS.F ht⟩) hS.2.2 dX2_keep_64
      · skip
        have b_ := zF_lt rfl zk_0 c_
        refine lv_iload hx hb dX2_keep_45 (lv_at hl 0 rfl) ?_
        refine lv_sipush (v := 400) hx hb dX2_keep_47 (by decide) ?_
        refine lv_icmp_ge (tgt := 63) hx hb dX2_keep_50 (by decide) (fun c_ => False.elim (by have b_ := zT_ge rfl zk_400 c_; omega)) (fun c_ => ?_)
        have b_ := zF_ge rfl zk_400 c_
        refine lv_aload_n hx hb dX2_keep_53 rfl (lv_at hl 1 rfl) ?_
        refine va_get (D := (dC, dI)) (ci := 2) (v := .int (v0 9)) (C := RX2) (T := TX2) (N := 11) hx hb hG zuX2 hown hK hP 0 rfl rfl 9 (by decide) (hG _ zv334) (fun _ h9 => h9) rfl dX2_keep_54 ?_
        refine lv_sipush (v := 300) hx hb dX2_keep_57 (by decide) ?_
        refine lv_icmp_lt (tgt := 65) hx hb dX2_keep_60 (by decide) (fun c_ => ?_) (fun c_ => ?_)
        · skip
          have b_ := zT_lt rfl zk_300 c_
          refine lv_aload_n hx hb dX2_keep_65 rfl (lv_at hl 1 rfl) ?_
          refine va_get (D := (dC, dI)) (ci := 2) (v := .ref h18) (C := RX2) (T := TX2) (N := 11) hx hb hG zuX2 hown hK hP 0 rfl rfl 3 (by decide) (hG _ zv328) (fun _ h9 => h9) rfl dX2_keep_66 ?_
          refine lv_aload_n hx hb dX2_keep_69 rfl (lv_at hl 1 rfl) ?_
          refine va_get (D := (dC, dI)) (ci := 2) (v := .int (v0 9)) (C := RX2) (T := TX2) (N := 11) hx hb hG zuX2 hown hK hP 0 rfl rfl 9 (by decide) (hG _ zv334) (fun _ h9 => h9) rfl dX2_keep_70 ?_
          refine lv_iload_n hx hb dX2_keep_73 rfl (lv_at hl 3 rfl) ?_
          refine va_iast hx hb hK hP hD hS 7 4 rfl rfl (zin_lit ⟨by omega, by omega⟩) dX2_keep_74 (fun H locs hP hD hS => ?_)
          obtain ⟨f_74, e_f_74⟩ : ∃ z : Nat → Int32, z = upd f18 ((v0 9) : Int32).toNatClampNeg x2 := ⟨_, rfl⟩
          have hP : va_P (dC, dI) vwCl [(h0, .inr (2, mX2 h1 h4 h11 h18 h19 h20 h21 h22 h23 v0)), (h11, .inr (10, mX10 h12 h13 h14 h15 h16 h17 v11)), (h12, .inl (k12, 10, .inr (.inl f12))), (h4, .inr (10, mX10 h5 h6 h7 h8 h9 h10 (upd v4 7 (u35_ 0)))), (h5, .inl (k5, 400, .inr (.inl (b35_ 0)))), (h6, zi k6 400 (a35_ 0)), (h7, zi k7 400 f7), (h18, zi k18 300 f_74), (h19, zi k19 300 f19), (h23, zi k23 400 f23), (h22, zi k22 400 f22), (h21, zi k21 400 f21), (h20, zi k20 300 f20)] H := by rw [e_f_74]; exact hP
          have hD : va_D A [(h0, .inr (2, mX2 h1 h4 h11 h18 h19 h20 h21 h22 h23 v0)), (h11, .inr (10, mX10 h12 h13 h14 h15 h16 h17 v11)), (h12, .inl (k12, 10, .inr (.inl f12))), (h4, .inr (10, mX10 h5 h6 h7 h8 h9 h10 (upd v4 7 (u35_ 0)))), (h5, .inl (k5, 400, .inr (.inl (b35_ 0)))), (h6, zi k6 400 (a35_ 0)), (h7, zi k7 400 f7), (h18, zi k18 300 f_74), (h19, zi k19 300 f19), (h23, zi k23 400 f23), (h22, zi k22 400 f22), (h21, zi k21 400 f21), (h20, zi k20 300 f20)] := by rw [e_f_74]; exact hD
          refine lv_aload_n hx hb dX2_keep_75 rfl (lv_at hl 1 rfl) ?_
          refine va_get (D := (dC, dI)) (ci := 2) (v := .ref h19) (C := RX2) (T := TX2) (N := 11) hx hb hG zuX2 hown hK hP 0 rfl rfl 4 (by decide) (hG _ zv329) (fun _ h9 => h9) rfl dX2_keep_76 ?_
          refine lv_aload_n hx hb dX2_keep_79 rfl (lv_at hl 1 rfl) ?_
          refine va_get (D := (dC, dI)) (ci := 2) (v := .int (v0 9)) (C := RX2) (T := TX2) (N := 11) hx hb hG zuX2 hown hK hP 0 rfl rfl 9 (by decide) (hG _ zv334) (fun _ h9 => h9) rfl dX2_keep_80 ?_
          refine lv_iconst (v := (-1)) hx hb dX2_keep_83 (by decide) ?_
          refine va_iast hx hb hK hP hD hS 8 5 rfl rfl (zin_lit ⟨by omega, by omega⟩) dX2_keep_84 (fun H locs hP hD hS => ?_)
          obtain ⟨f_84, e_f_84⟩ : ∃ z : Nat → Int32, z = upd f19 ((v0 9) : Int32).toNatClampNeg (-1) := ⟨_, rfl⟩
          have hP : va_P (dC, dI) vwCl [(h0, .inr (2, mX2 h1 h4 h11 h18 h19 h20 h21 h22 h23 v0)), (h11, .inr (10, mX10 h12 h13 h14 h15 h16 h17 v11)), (h12, .inl (k12, 10, .inr (.inl f12))), (h4, .inr (10, mX10 h5 h6 h7 h8 h9 h10 (upd v4 7 (u35_ 0)))), (h5, .inl (k5, 400, .inr (.inl (b35_ 0)))), (h6, zi k6 400 (a35_ 0)), (h7, zi k7 400 f7), (h18, zi k18 300 f_74), (h19, zi k19 300 f_84), (h23, zi k23 400 f23), (h22, zi k22 400 f22), (h21, zi k21 400 f21), (h20, zi k20 300 f20)] H := by rw [e_f_84]; exact hP
          have hD : va_D A [(h0, .inr (2, mX2 h1 h4 h11 h18 h19 h20 h21 h22 h23 v0)), (h11, .inr (10, mX10 h12 h13 h14 h15 h16 h17 v11)), (h12, .inl (k12, 10, .inr (.inl f12))), (h4, .inr (10, mX10 h5 h6 h7 h8 h9 h10 (upd v4 7 (u35_ 0)))), (h5, .inl (k5, 400, .inr (.inl (b35_ 0)))), (h6, zi k6 400 (a35_ 0)), (h7, zi k7 400 f7), (h18, zi k18 300 f_74), (h19, zi k19 300 f_84), (h23, zi k23 400 f23), (h22, zi k22 400 f22), (h21, zi k21 400 f21), (h20, zi k20 300 f20)] := by rw [e_f_84]; exact hD
          have hf_84 : zA (-1) 299 f_84 := by rw [e_f_84]; exact zA_upd hf19 (show (-1) ≤ ((-1) : Int32).toInt from by decide) (show ((-1) : Int32).toInt ≤ 299 from by decide)
          refine lv_aload_n hx hb dX2_keep_85 rfl (lv_at hl 1 rfl) ?_
          refine va_get (D := (dC, dI)) (ci := 2) (v := .ref h23) (C := RX2) (T := TX2) (N := 11) hx hb hG zuX2 hown hK hP 0 rfl rfl 8 (by decide) (hG _ zv333) (fun _ h9 => h9) rfl dX2_keep_86 ?_
          refine lv_iload hx hb dX2_keep_89 (lv_at hl 0 rfl) ?_
          refine va_iald hx hb hK hP 9 6 rfl rfl (zin_lit ⟨by omega, by omega⟩) dX2_keep_91 ?_
          refine lv_topi (fun z91 e_z91 => ?_)
          have hid : (r35_ : Int32).toNatClampNeg < 400 := by have q : (r35_ : Int32).toNatClampNeg = r35_.toInt.toNat := rfl; omega
          have b_ : 0 ≤ z91.toInt ∧ z91.toInt ≤ (v0 9).toInt := by rw [e_z91]; exact zChn_b hp0_ hid
          refine lv_if_ne (tgt := 130) hx hb dX2_keep_92 (by decide) (fun c_ => ?_) (fun c_ => ?_)
          · skip
            have b_ := zT_ne rfl zk_0 c_
            refine lv_aload_n hx hb dX2_keep_130 rfl (lv_at hl 1 rfl) ?_
            refine va_get (D := (dC, dI)) (ci := 2) (v := .ref h19) (C := RX2) (T := TX2) (N := 11) hx hb hG zuX2 hown hK hP 0 rfl rfl 4 (by decide) (hG _ zv329) (fun _ h9 => h9) rfl dX2_keep_131 ?_
            refine lv_aload_n hx hb dX2_keep_134 rfl (lv_at hl 1 rfl) ?_
            refine va_get (D := (dC, dI)) (ci := 2) (v := .ref h22) (C := RX2) (T := TX2) (N := 11) hx hb hG zuX2 hown hK hP 0 rfl rfl 7 (by decide) (hG _ zv332) (fun _ h9 => h9) rfl dX2_keep_135 ?_
            refine lv_iload hx hb dX2_keep_138 (lv_at hl 0 rfl) ?_
            refine va_iald hx hb hK hP 10 7 rfl rfl (zin_lit ⟨by omega, by omega⟩) dX2_keep_140 ?_
            refine lv_topi (fun z140 e_z140 => ?_)
            have b_ : 0 ≤ z140.toInt ∧ z140.toInt ≤ 299 := by rw [e_z140]; exact hf22 _
            refine lv_aload_n hx hb dX2_keep_141 rfl (lv_at hl 1 rfl) ?_
            refine va_get (D := (dC, dI)) (ci := 2) (v := .int (v0 9)) (C := RX2) (T := TX2) (N := 11) hx hb hG zuX2 hown hK hP 0 rfl rfl 9 (by decide) (hG _ zv334) (fun _ h9 => h9) rfl dX2_keep_142 ?_
            refine va_iast hx hb hK hP hD hS 8 5 rfl rfl (zin_lit ⟨by omega, by omega⟩) dX2_keep_145 (fun H locs hP hD hS => ?_)
            obtain ⟨f_145, e_f_145⟩ : ∃ z : Nat → Int32, z = upd f_84 (z140 : Int32).toNatClampNeg (v0 9) := ⟨_, rfl⟩
            have hP : va_P (dC, dI) vwCl [(h0, .inr (2, mX2 h1 h4 h11 h18 h19 h20 h21 h22 h23 v0)), (h11, .inr (10, mX10 h12 h13 h14 h15 h16 h17 v11)), (h12, .inl (k12, 10, .inr (.inl f12))), (h4, .inr (10, mX10 h5 h6 h7 h8 h9 h10 (upd v4 7 (u35_ 0)))), (h5, .inl (k5, 400, .inr (.inl (b35_ 0)))), (h6, zi k6 400 (a35_ 0)), (h7, zi k7 400 f7), (h18, zi k18 300 f_74), (h19, zi k19 300 f_145), (h23, zi k23 400 f23), (h22, zi k22 400 f22), (h21, zi k21 400 f21), (h20, zi k20 300 f20)] H := by rw [e_f_145]; exact hP
            have hD : va_D A [(h0, .inr (2, mX2 h1 h4 h11 h18 h19 h20 h21 h22 h23 v0)), (h11, .inr (10, mX10 h12 h13 h14 h15 h16 h17 v11)), (h12, .inl (k12, 10, .inr (.inl f12))), (h4, .inr (10, mX10 h5 h6 h7 h8 h9 h10 (upd v4 7 (u35_ 0)))), (h5, .inl (k5, 400, .inr (.inl (b35_ 0)))), (h6, zi k6 400 (a35_ 0)), (h7, zi k7 400 f7), (h18, zi k18 300 f_74), (h19, zi k19 300 f_145), (h23, zi k23 400 f23), (h22, zi k22 400 f22), (h21, zi k21 400 f21), (h20, zi k20 300 f20)] := by rw [e_f_145]; exact hD
            have hf_145 : zA (-1) 299 f_145 := by rw [e_f_145]; exact zA_upd hf_84 (show (-1) ≤ ((v0 9) : Int32).toInt from by omega) (show ((v0 9) : Int32).toInt ≤ 299 from by omega)
            refine lv_aload_n hx hb dX2_keep_146 rfl (lv_at hl 1 rfl) ?_
            refine va_get (D := (dC, dI)) (ci := 2) (v := .ref h22) (C := RX2) (T := TX2) (N := 11) hx hb hG zuX2 hown hK hP 0 rfl rfl 7 (by decide) (hG _ zv332) (fun _ h9 => h9) rfl dX2_keep_147 ?_
            refine lv_iload hx hb dX2_keep_150 (lv_at hl 0 rfl) ?_
            refine lv_aload_n hx hb dX2_keep_152 rfl (lv_at hl 1 rfl) ?_
            refine va_get (D := (dC, dI)) (ci := 2) (v := .int (v0 9)) (C := RX2) (T := TX2) (N := 11) hx hb hG zuX2 hown hK hP 0 rfl rfl 9 (by decide) (hG _ zv334) (fun _ h9 => h9) rfl dX2_keep_153 ?_
            refine va_iast hx hb hK hP hD hS 10 7 rfl rfl (zin_lit ⟨by omega, by omega⟩) dX2_keep_156 (fun H locs hP hD hS => ?_)
            obtain ⟨f_156, e_f_156⟩ : ∃ z : Nat → Int32, z = upd f22 (r35_ : Int32).toNatClampNeg (v0 9) := ⟨_, rfl⟩
            have hP : va_P (dC, dI) vwCl [(h0, .inr (2, mX2 h1 h4 h11 h18 h19 h20 h21 h22 h23 v0)), (h11, .inr (10, mX10 h12 h13 h14 h15 h16 h17 v11)), (h12, .inl (k12, 10, .inr (.inl f12))), (h4, .inr (10, mX10 h5 h6 h7 h8 h9 h10 (upd v4 7 (u35_ 0)))), (h5, .inl (k5, 400, .inr (.inl (b35_ 0)))), (h6, zi k6 400 (a35_ 0)), (h7, zi k7 400 f7), (h18, zi k18 300 f_74), (h19, zi k19 300 f_145), (h23, zi k23 400 f23), (h22, zi k22 400 f_156), (h21, zi k21 400 f21), (h20, zi k20 300 f20)] H := by rw [e_f_156]; exact hP
            have hD : va_D A [(h0, .inr (2, mX2 h1 h4 h11 h18 h19 h20 h21 h22 h23 v0)), (h11, .inr (10, mX10 h12 h13 h14 h15 h16 h17 v11)), (h12, .inl (k12, 10, .inr (.inl f12))), (h4, .inr (10, mX10 h5 h6 h7 h8 h9 h10 (upd v4 7 (u35_ 0)))), (h5, .inl (k5, 400, .inr (.inl (b35_ 0)))), (h6, zi k6 400 (a35_ 0)), (h7, zi k7 400 f7), (h18, zi k18 300 f_74), (h19, zi k19 300 f_145), (h23, zi k23 400 f23), (h22, zi k22 400 f_156), (h21, zi k21 400 f21), (h20, zi k20 300 f20)] := by rw [e_f_156]; exact hD
            have hf_156 : zA 0 299 f_156 := by rw [e_f_156]; exact zA_upd hf22 (show 0 ≤ ((v0 9) : Int32).toInt from by omega) (show ((v0 9) : Int32).toInt ≤ 299 from by omega)
            refine lv_aload_n hx hb dX2_keep_157 rfl (lv_at hl 1 rfl) ?_
            refine va_get (D := (dC, dI)) (ci := 2) (v := .ref h23) (C := RX2) (T := TX2) (N := 11) hx hb hG zuX2 hown hK hP 0 rfl rfl 8 (by decide) (hG _ zv333) (fun _ h9 => h9) rfl dX2_keep_158 ?_
            refine lv_iload hx hb dX2_keep_161 (lv_at hl 0 rfl) ?_
            refine lv_dup2_11 hx hb dX2_keep_163 rfl rfl ?_
            refine va_iald hx hb hK hP 9 6 rfl rfl (zin_lit ⟨by omega, by omega⟩) dX2_keep_164 ?_
            refine lv_topi (fun z164 e_z164 => ?_)
            have b_ : z164.toInt = z91.toInt := by rw [e_z164, e_z91]
            refine lv_iconst (v := 1) hx hb dX2_keep_165 (by decide) ?_
            refine lv_iadd hx hb dX2_keep_166 ?_
            refine lv_topi (fun z166 e_z166 => ?_)
            have b_ := zadd rfl zk_1 e_z166 (by omega) (by omega)
            refine va_iast hx hb hK hP hD hS 9 6 rfl rfl (zin_lit ⟨by omega, by omega⟩) dX2_keep_167 (fun H locs hP hD hS => ?_)
            obtain ⟨f_167, e_f_167⟩ : ∃ z : Nat → Int32, z = upd f23 (r35_ : Int32).toNatClampNeg z166 := ⟨_, rfl⟩
            have hP : va_P (dC, dI) vwCl [(h0, .inr (2, mX2 h1 h4 h11 h18 h19 h20 h21 h22 h23 v0)), (h11, .inr (10, mX10 h12 h13 h14 h15 h16 h17 v11)), (h12, .inl (k12, 10, .inr (.inl f12))), (h4, .inr (10, mX10 h5 h6 h7 h8 h9 h10 (upd v4 7 (u35_ 0)))), (h5, .inl (k5, 400, .inr (.inl (b35_ 0)))), (h6, zi k6 400 (a35_ 0)), (h7, zi k7 400 f7), (h18, zi k18 300 f_74), (h19, zi k19 300 f_145), (h23, zi k23 400 f_167), (h22, zi k22 400 f_156), (h21, zi k21 400 f21), (h20, zi k20 300 f20)] H := by rw [e_f_167]; exact hP
            have hD : va_D A [(h0, .inr (2, mX2 h1 h4 h11 h18 h19 h20 h21 h22 h23 v0)), (h11, .inr (10, mX10 h12 h13 h14 h15 h16 h17 v11)), (h12, .inl (k12, 10, .inr (.inl f12))), (h4, .inr (10, mX10 h5 h6 h7 h8 h9 h10 (upd v4 7 (u35_ 0)))), (h5, .inl (k5, 400, .inr (.inl (b35_ 0)))), (h6, zi k6 400 (a35_ 0)), (h7, zi k7 400 f7), (h18, zi k18 300 f_74), (h19, zi k19 300 f_145), (h23, zi k23 400 f_167), (h22, zi k22 400 f_156), (h21, zi k21 400 f21), (h20, zi k20 300 f20)] := by rw [e_f_167]; exact hD
            refine lv_aload_n hx hb dX2_keep_168 rfl (lv_at hl 1 rfl) ?_
            refine lv_dup hx hb dX2_keep_169 rfl ?_
            refine va_get (D := (dC, dI)) (ci := 2) (v := .int (v0 9)) (C := RX2) (T := TX2) (N := 11) hx hb hG zuX2 hown hK hP 0 rfl rfl 9 (by decide) (hG _ zv334) (fun _ h9 => h9) rfl dX2_keep_170 ?_
            refine lv_iconst (v := 1) hx hb dX2_keep_173 (by decide) ?_
            refine lv_iadd hx hb dX2_keep_174 ?_
            refine lv_topi (fun z174 e_z174 => ?_)
            have b_ := zadd rfl zk_1 e_z174 (by omega) (by omega)
            refine va_put (D := (dC, dI)) (ci := 2) (v := .int z174) (ty := .int) (C := RX2) (T := TX2) (N := 11) hx hb hG zuX2 tyX2 tyX2_ok nmX2 hown hK hP hD hS 0 rfl rfl 9 (by decide) (hG _ zv334) (fun _ h9 => h9) rfl (by decide +kernel) rfl rfl (Nat.le_of_ble_eq_true rfl) dX2_keep_175 (fun H locs hP hD hS => ?_)
            have hP : va_P (dC, dI) vwCl [(h0, .inr (2, mX2 h1 h4 h11 h18 h19 h20 h21 h22 h23 (upd v0 9 z174))), (h11, .inr (10, mX10 h12 h13 h14 h15 h16 h17 v11)), (h12, .inl (k12, 10, .inr (.inl f12))), (h4, .inr (10, mX10 h5 h6 h7 h8 h9 h10 (upd v4 7 (u35_ 0)))), (h5, .inl (k5, 400, .inr (.inl (b35_ 0)))), (h6, zi k6 400 (a35_ 0)), (h7, zi k7 400 f7), (h18, zi k18 300 f_74), (h19, zi k19 300 f_145), (h23, zi k23 400 f_167), (h22, zi k22 400 f_156), (h21, zi k21 400 f21), (h20, zi k20 300 f20)] H := hP
            have hD : va_D A [(h0, .inr (2, mX2 h1 h4 h11 h18 h19 h20 h21 h22 h23 (upd v0 9 z174))), (h11, .inr (10, mX10 h12 h13 h14 h15 h16 h17 v11)), (h12, .inl (k12, 10, .inr (.inl f12))), (h4, .inr (10, mX10 h5 h6 h7 h8 h9 h10 (upd v4 7 (u35_ 0)))), (h5, .inl (k5, 400, .inr (.inl (b35_ 0)))), (h6, zi k6 400 (a35_ 0)), (h7, zi k7 400 f7), (h18, zi k18 300 f_74), (h19, zi k19 300 f_145), (h23, zi k23 400 f_167), (h22, zi k22 400 f_156), (h21, zi k21 400 f21), (h20, zi k20 300 f20)] := hD
            have hchn : zChn f21 f_145 f_156 f_167 z174.toInt := by rw [show z174.toInt = (v0 9).toInt + 1 from by omega, e_f_145, e_f_84, e_f_156, e_f_167, e_z140]; exact zChn_old hp0_ hid rfl (by omega) (by rw [← e_z91]; omega) (by rw [← e_z91]; omega)
            have hz9 : z166.toInt = (f23 (r35_ : Int32).toNatClampNeg).toInt + 1 := by rw [← e_z91]; omega
            have hke : zKe f5 f6 f7 (v4 7).toInt f12 (v11 7).toInt f18 f19 f20 f21 f22 f23 (v0 9).toInt (v0 10).toInt (b35_ 0) (a35_ 0) f7 (u35_ 0).toInt f_74 f_145 f20 f21 f_156 f_167 z174.toInt (v0 10).toInt y1.toInt x2.toInt (1 : Int32).toInt := zKe_x (X := 0) (L := z140) (M := -1) hX5_1 (by omega) hX19_0 (by omega) (Or.resolve_left hB35_0 (by omega)) (by omega) (by omega) (by omega) (by omega) (by omega) (by first | decide | omega) e_f_74 rfl e_f_156 e_f_167 hz9 (by omega) (Or.inr ⟨by rw [← e_z91]; omega, rfl, by rw [e_f_145, e_f_84], e_z140, rfl, rfl⟩) (by decide)
            refine lv_iconst (v := 1) hx hb dX2_keep_178 (by decide) ?_
            refine W.widen (k := 0) (n := 0) (by decide) (by decide) ?_
            have hpost : (0 ≤ (1 : Int32).toInt ∧ (1 : Int32).toInt ≤ 1) ∧ (0 ≤ z174.toInt ∧ z174.toInt ≤ 300) ∧ (0 ≤ (v0 10).toInt ∧ (v0 10).toInt ≤ 300) ∧ (0 ≤ (u35_ 0).toInt ∧ (u35_ 0).toInt ≤ 400) ∧ ((v0 10).toInt ≤ z174.toInt) ∧ ((1 : Int32).toInt = (1 : Int32).toInt) := ⟨(by first | with_reducible assumption | exact ⟨by omega, by omega⟩), (by first | with_reducible assumption | exact ⟨by omega, by omega⟩), (by first | with_reducible assumption | exact ⟨by omega, by omega⟩), (by first | with_reducible assumption | exact ⟨by omega, by omega⟩), by omega, rfl⟩
            have hP9 : va_P (dC, dI) vwCl [(h0, .inr (2, mX2 h1 h4 h11 h18 h19 h20 h21 h22 h23 (upd (upd v0 9 z174) 10 (v0 10)))), (h11, .inr (10, mX10 h12 h13 h14 h15 h16 h17 v11)), (h12, .inl (k12, 10, .inr (.inl f12))), (h4, .inr (10, mX10 h5 h6 h7 h8 h9 h10 (upd v4 7 (u35_ 0)))), (h5, .inl (k5, 400, .inr (.inl (b35_ 0)))), (h6, zi k6 400 (a35_ 0)), (h7, zi k7 400 f7), (h18, zi k18 300 f_74), (h19, zi k19 300 f_145), (h23, zi k23 400 f_167), (h22, zi k22 400 f_156), (h21, zi k21 400 f21), (h20, zi k20 300 f20)] H := hP
            have hD9 : va_D A [(h0, .inr (2, mX2 h1 h4 h11 h18 h19 h20 h21 h22 h23 (upd (upd v0 9 z174) 10 (v0 10)))), (h11, .inr (10, mX10 h12 h13 h14 h15 h16 h17 v11)), (h12, .inl (k12, 10, .inr (.inl f12))), (h4, .inr (10, mX10 h5 h6 h7 h8 h9 h10 (upd v4 7 (u35_ 0)))), (h5, .inl (k5, 400, .inr (.inl (b35_ 0)))), (h6, zi k6 400 (a35_ 0)), (h7, zi k7 400 f7), (h18, zi k18 300 f_74), (h19, zi k19 300 f_145), (h23, zi k23 400 f_167), (h22, zi k22 400 f_156), (h21, zi k21 400 f21), (h20, zi k20 300 f20)] := hD
            have hB0 : zChn f21 f_145 f_156 f_167 z174.toInt := by assumption
            have hB1 : zKe f5 f6 f7 (v4 7).toInt f12 (v11 7).toInt f18 f19 f20 f21 f22 f23 (v0 9).toInt (v0 10).toInt (b35_ 0) (a35_ 0) f7 (u35_ 0).toInt f_74 f_145 f20 f21 f_156 f_167 z174.toInt (v0 10).toInt y1.toInt x2.toInt (1 : Int32).toInt := by first | exact hke | exact zKe_s hX5_1 (by omega) (by decide) | exact zKe_f hX5_1 (by omega) hX19_0 (by omega) (by omega) (hB35_1 (by omega)) (by omega) (by decide) | exact zKe_k (by omega)
            exact W.zret (v := 1) hx hb hr rfl (fun t ht hW => ⟨⟨1, (fun i => ([z174, (v0 10), (u35_ 0), 1] : List (Int32)).getD i 0), rfl, hpost, (fun _ => 0), (fun i => ([(a35_ 0), f_74, f_145, f_167, f_156, f21, f20] : List (Nat → Int32)).getD i (fun _ => 0)), (fun i => ([(b35_ 0)] : List (Nat → Int64)).getD i (fun _ => 0)), ha35_0, hf_145, hf_156, hf21, hf20, hB0, hB1, by rw [ht]; exact hP9, va_K.moved hW.alike hK, hD9⟩, hS.F ht⟩) hS.2.2 dX2_keep_179
          · skip
            have b_ := zF_ne rfl zk_0 c_
            refine lv_aload_n hx hb dX2_keep_95 rfl (lv_at hl 1 rfl) ?_
            refine va_get (D := (dC, dI)) (ci := 2) (v := .ref h21) (C := RX2) (T := TX2) (N := 11) hx hb hG zuX2 hown hK hP 0 rfl rfl 6 (by decide) (hG _ zv331) (fun _ h9 => h9) rfl dX2_keep_96 ?_
            refine lv_iload hx hb dX2_keep_99 (lv_at hl 0 rfl) ?_
            refine lv_aload_n hx hb dX2_keep_101 rfl (lv_at hl 1 rfl) ?_
            refine va_get (D := (dC, dI)) (ci := 2) (v := .int (v0 9)) (C := RX2) (T := TX2) (N := 11) hx hb hG zuX2 hown hK hP 0 rfl rfl 9 (by decide) (hG _ zv334) (fun _ h9 => h9) rfl dX2_keep_102 ?_
            refine va_iast hx hb hK hP hD hS 11 8 rfl rfl (zin_lit ⟨by omega, by omega⟩) dX2_keep_105 (fun H locs hP hD hS => ?_)
            obtain ⟨f_105, e_f_105⟩ : ∃ z : Nat → Int32, z = upd f21 (r35_ : Int32).toNatClampNeg (v0 9) := ⟨_, rfl⟩
            have hP : va_P (dC, dI) vwCl [(h0, .inr (2, mX2 h1 h4 h11 h18 h19 h20 h21 h22 h23 v0)), (h11, .inr (10, mX10 h12 h13 h14 h15 h16 h17 v11)), (h12, .inl (k12, 10, .inr (.inl f12))), (h4, .inr (10, mX10 h5 h6 h7 h8 h9 h10 (upd v4 7 (u35_ 0)))), (h5, .inl (k5, 400, .inr (.inl (b35_ 0)))), (h6, zi k6 400 (a35_ 0)), (h7, zi k7 400 f7), (h18, zi k18 300 f_74), (h19, zi k19 300 f_84), (h23, zi k23 400 f23), (h22, zi k22 400 f22), (h21, zi k21 400 f_105), (h20, zi k20 300 f20)] H := by rw [e_f_105]; exact hP
            have hD : va_D A [(h0, .inr (2, mX2 h1 h4 h11 h18 h19 h20 h21 h22 h23 v0)), (h11, .inr (10, mX10 h12 h13 h14 h15 h16 h17 v11)), (h12, .inl (k12, 10, .inr (.inl f12))), (h4, .inr (10, mX10 h5 h6 h7 h8 h9 h10 (upd v4 7 (u35_ 0)))), (h5, .inl (k5, 400, .inr (.inl (b35_ 0)))), (h6, zi k6 400 (a35_ 0)), (h7, zi k7 400 f7), (h18, zi k18 300 f_74), (h19, zi k19 300 f_84), (h23, zi k23 400 f23), (h22, zi k22 400 f22), (h21, zi k21 400 f_105), (h20, zi k20 300 f20)] := by rw [e_f_105]; exact hD
            have hf_105 : zA 0 299 f_105 := by rw [e_f_105]; exact zA_upd hf21 (show 0 ≤ ((v0 9) : Int32).toInt from by omega) (show ((v0 9) : Int32).toInt ≤ 299 from by omega)
            refine lv_aload_n hx hb dX2_keep_106 rfl (lv_at hl 1 rfl) ?_
            refine va_get (D := (dC, dI)) (ci := 2) (v := .ref h20) (C := RX2) (T := TX2) (N := 11) hx hb hG zuX2 hown hK hP 0 rfl rfl 5 (by decide) (hG _ zv330) (fun _ h9 => h9) rfl dX2_keep_107 ?_
            refine lv_aload_n hx hb dX2_keep_110 rfl (lv_at hl 1 rfl) ?_
            refine va_get (D := (dC, dI)) (ci := 2) (v := .int (v0 10)) (C := RX2) (T := TX2) (N := 11) hx hb hG zuX2 hown hK hP 0 rfl rfl 10 (by decide) (hG _ zv335) (fun _ h9 => h9) rfl dX2_keep_111 ?_
            refine lv_iload hx hb dX2_keep_114 (lv_at hl 0 rfl) ?_
            refine va_iast hx hb hK hP hD hS 12 9 rfl rfl (zin_lit ⟨by omega, by omega⟩) dX2_keep_116 (fun H locs hP hD hS => ?_)
            obtain ⟨f_116, e_f_116⟩ : ∃ z : Nat → Int32, z = upd f20 ((v0 10) : Int32).toNatClampNeg r35_ := ⟨_, rfl⟩
            have hP : va_P (dC, dI) vwCl [(h0, .inr (2, mX2 h1 h4 h11 h18 h19 h20 h21 h22 h23 v0)), (h11, .inr (10, mX10 h12 h13 h14 h15 h16 h17 v11)), (h12, .inl (k12, 10, .inr (.inl f12))), (h4, .inr (10, mX10 h5 h6 h7 h8 h9 h10 (upd v4 7 (u35_ 0)))), (h5, .inl (k5, 400, .inr (.inl (b35_ 0)))), (h6, zi k6 400 (a35_ 0)), (h7, zi k7 400 f7), (h18, zi k18 300 f_74), (h19, zi k19 300 f_84), (h23, zi k23 400 f23), (h22, zi k22 400 f22), (h21, zi k21 400 f_105), (h20, zi k20 300 f_116)] H := by rw [e_f_116]; exact hP
            have hD : va_D A [(h0, .inr (2, mX2 h1 h4 h11 h18 h19 h20 h21 h22 h23 v0)), (h11, .inr (10, mX10 h12 h13 h14 h15 h16 h17 v11)), (h12, .inl (k12, 10, .inr (.inl f12))), (h4, .inr (10, mX10 h5 h6 h7 h8 h9 h10 (upd v4 7 (u35_ 0)))), (h5, .inl (k5, 400, .inr (.inl (b35_ 0)))), (h6, zi k6 400 (a35_ 0)), (h7, zi k7 400 f7), (h18, zi k18 300 f_74), (h19, zi k19 300 f_84), (h23, zi k23 400 f23), (h22, zi k22 400 f22), (h21, zi k21 400 f_105), (h20, zi k20 300 f_116)] := by rw [e_f_116]; exact hD
            have hf_116 : zA 0 399 f_116 := by rw [e_f_116]; exact zA_upd hf20 (show 0 ≤ (r35_ : Int32).toInt from by omega) (show (r35_ : Int32).toInt ≤ 399 from by omega)
            refine lv_aload_n hx hb dX2_keep_117 rfl (lv_at hl 1 rfl) ?_
            refine lv_dup hx hb dX2_keep_118 rfl ?_
            refine va_get (D := (dC, dI)) (ci := 2) (v := .int (v0 10)) (C := RX2) (T := TX2) (N := 11) hx hb hG zuX2 hown hK hP 0 rfl rfl 10 (by decide) (hG _ zv335) (fun _ h9 => h9) rfl dX2_keep_119 ?_
            refine lv_iconst (v := 1) hx hb dX2_keep_122 (by decide) ?_
            refine lv_iadd hx hb dX2_keep_123 ?_
            refine lv_topi (fun z123 e_z123 => ?_)
            have b_ := zadd rfl zk_1 e_z123 (by omega) (by omega)
            have b_ : 0 ≤ z123.toInt ∧ z123.toInt ≤ 300 := ⟨by omega, by omega⟩
            refine va_put (D := (dC, dI)) (ci := 2) (v := .int z123) (ty := .int) (C := RX2) (T := TX2) (N := 11) hx hb hG zuX2 tyX2 tyX2_ok nmX2 hown hK hP hD hS 0 rfl rfl 10 (by decide) (hG _ zv335) (fun _ h9 => h9) rfl (by decide +kernel) rfl rfl (Nat.le_of_ble_eq_true rfl) dX2_keep_124 (fun H locs hP hD hS => ?_)
            have hP : va_P (dC, dI) vwCl [(h0, .inr (2, mX2 h1 h4 h11 h18 h19 h20 h21 h22 h23 (upd v0 10 z123))), (h11, .inr (10, mX10 h12 h13 h14 h15 h16 h17 v11)), (h12, .inl (k12, 10, .inr (.inl f12))), (h4, .inr (10, mX10 h5 h6 h7 h8 h9 h10 (upd v4 7 (u35_ 0)))), (h5, .inl (k5, 400, .inr (.inl (b35_ 0)))), (h6, zi k6 400 (a35_ 0)), (h7, zi k7 400 f7), (h18, zi k18 300 f_74), (h19, zi k19 300 f_84), (h23, zi k23 400 f23), (h22, zi k22 400 f22), (h21, zi k21 400 f_105), (h20, zi k20 300 f_116)] H := hP
            have hD : va_D A [(h0, .inr (2, mX2 h1 h4 h11 h18 h19 h20 h21 h22 h23 (upd v0 10 z123))), (h11, .inr (10, mX10 h12 h13 h14 h15 h16 h17 v11)), (h12, .inl (k12, 10, .inr (.inl f12))), (h4, .inr (10, mX10 h5 h6 h7 h8 h9 h10 (upd v4 7 (u35_ 0)))), (h5, .inl (k5, 400, .inr (.inl (b35_ 0)))), (h6, zi k6 400 (a35_ 0)), (h7, zi k7 400 f7), (h18, zi k18 300 f_74), (h19, zi k19 300 f_84), (h23, zi k23 400 f23), (h22, zi k22 400 f22), (h21, zi k21 400 f_105), (h20, zi k20 300 f_116)] := hD
            refine lv_goto (tgt := 146) hx hb dX2_keep_127 (by decide) ?_
            refine lv_aload_n hx hb dX2_keep_146 rfl (lv_at hl 1 rfl) ?_
            refine va_get (D := (dC, dI)) (ci := 2) (v := .ref h22) (C := RX2) (T := TX2) (N := 11) hx hb hG zuX2 hown hK hP 0 rfl rfl 7 (by decide) (hG _ zv332) (fun _ h9 => h9) rfl dX2_keep_147 ?_
            refine lv_iload hx hb dX2_keep_150 (lv_at hl 0 rfl) ?_
            refine lv_aload_n hx hb dX2_keep_152 rfl (lv_at hl 1 rfl) ?_
            refine va_get (D := (dC, dI)) (ci := 2) (v := .int (v0 9)) (C := RX2) (T := TX2) (N := 11) hx hb hG zuX2 hown hK hP 0 rfl rfl 9 (by decide) (hG _ zv334) (fun _ h9 => h9) rfl dX2_keep_153 ?_
            refine va_iast hx hb hK hP hD hS 10 7 rfl rfl (zin_lit ⟨by omega, by omega⟩) dX2_keep_156 (fun H locs hP hD hS => ?_)
            obtain ⟨f_156, e_f_156⟩ : ∃ z : Nat → Int32, z = upd f22 (r35_ : Int32).toNatClampNeg (v0 9) := ⟨_, rfl⟩
            have hP : va_P (dC, dI) vwCl [(h0, .inr (2, mX2 h1 h4 h11 h18 h19 h20 h21 h22 h23 (upd v0 10 z123))), (h11, .inr (10, mX10 h12 h13 h14 h15 h16 h17 v11)), (h12, .inl (k12, 10, .inr (.inl f12))), (h4, .inr (10, mX10 h5 h6 h7 h8 h9 h10 (upd v4 7 (u35_ 0)))), (h5, .inl (k5, 400, .inr (.inl (b35_ 0)))), (h6, zi k6 400 (a35_ 0)), (h7, zi k7 400 f7), (h18, zi k18 300 f_74), (h19, zi k19 300 f_84), (h23, zi k23 400 f23), (h22, zi k22 400 f_156), (h21, zi k21 400 f_105), (h20, zi k20 300 f_116)] H := by rw [e_f_156]; exact hP
            have hD : va_D A [(h0, .inr (2, mX2 h1 h4 h11 h18 h19 h20 h21 h22 h23 (upd v0 10 z123))), (h11, .inr (10, mX10 h12 h13 h14 h15 h16 h17 v11)), (h12, .inl (k12, 10, .inr (.inl f12))), (h4, .inr (10, mX10 h5 h6 h7 h8 h9 h10 (upd v4 7 (u35_ 0)))), (h5, .inl (k5, 400, .inr (.inl (b35_ 0)))), (h6, zi k6 400 (a35_ 0)), (h7, zi k7 400 f7), (h18, zi k18 300 f_74), (h19, zi k19 300 f_84), (h23, zi k23 400 f23), (h22, zi k22 400 f_156), (h21, zi k21 400 f_105), (h20, zi k20 300 f_116)] := by rw [e_f_156]; exact hD
            have hf_156 : zA 0 299 f_156 := by rw [e_f_156]; exact zA_upd hf22 (show 0 ≤ ((v0 9) : Int32).toInt from by omega) (show ((v0 9) : Int32).toInt ≤ 299 from by omega)
            refine lv_aload_n hx hb dX2_keep_157 rfl (lv_at hl 1 rfl) ?_
            refine va_get (D := (dC, dI)) (ci := 2) (v := .ref h23) (C := RX2) (T := TX2) (N := 11) hx hb hG zuX2 hown hK hP 0 rfl rfl 8 (by decide) (hG _ zv333) (fun _ h9 => h9) rfl dX2_keep_158 ?_
            refine lv_iload hx hb dX2_keep_161 (lv_at hl 0 rfl) ?_
            refine lv_dup2_11 hx hb dX2_keep_163 rfl rfl ?_
            refine va_iald hx hb hK hP 9 6 rfl rfl (zin_lit ⟨by omega, by omega⟩) dX2_keep_164 ?_
            refine lv_topi (fun z164 e_z164 => ?_)
            have b_ : z164.toInt = z91.toInt := by rw [e_z164, e_z91]
            refine lv_iconst (v := 1) hx hb dX2_keep_165 (by decide) ?_
            refine lv_iadd hx hb dX2_keep_166 ?_
            refine lv_topi (fun z166 e_z166 => ?_)
            have b_ := zadd rfl zk_1 e_z166 (by omega) (by omega)
            refine va_iast hx hb hK hP hD hS 9 6 rfl rfl (zin_lit ⟨by omega, by omega⟩) dX2_keep_167 (fun H locs hP hD hS => ?_)
            obtain ⟨f_167, e_f_167⟩ : ∃ z : Nat → Int32, z = upd f23 (r35_ : Int32).toNatClampNeg z166 := ⟨_, rfl⟩
            have hP : va_P (dC, dI) vwCl [(h0, .inr (2, mX2 h1 h4 h11 h18 h19 h20 h21 h22 h23 (upd v0 10 z123))), (h11, .inr (10, mX10 h12 h13 h14 h15 h16 h17 v11)), (h12, .inl (k12, 10, .inr (.inl f12))), (h4, .inr (10, mX10 h5 h6 h7 h8 h9 h10 (upd v4 7 (u35_ 0)))), (h5, .inl (k5, 400, .inr (.inl (b35_ 0)))), (h6, zi k6 400 (a35_ 0)), (h7, zi k7 400 f7), (h18, zi k18 300 f_74), (h19, zi k19 300 f_84), (h23, zi k23 400 f_167), (h22, zi k22 400 f_156), (h21, zi k21 400 f_105), (h20, zi k20 300 f_116)] H := by rw [e_f_167]; exact hP
            have hD : va_D A [(h0, .inr (2, mX2 h1 h4 h11 h18 h19 h20 h21 h22 h23 (upd v0 10 z123))), (h11, .inr (10, mX10 h12 h13 h14 h15 h16 h17 v11)), (h12, .inl (k12, 10, .inr (.inl f12))), (h4, .inr (10, mX10 h5 h6 h7 h8 h9 h10 (upd v4 7 (u35_ 0)))), (h5, .inl (k5, 400, .inr (.inl (b35_ 0)))), (h6, zi k6 400 (a35_ 0)), (h7, zi k7 400 f7), (h18, zi k18 300 f_74), (h19, zi k19 300 f_84), (h23, zi k23 400 f_167), (h22, zi k22 400 f_156), (h21, zi k21 400 f_105), (h20, zi k20 300 f_116)] := by rw [e_f_167]; exact hD
            refine lv_aload_n hx hb dX2_keep_168 rfl (lv_at hl 1 rfl) ?_
            refine lv_dup hx hb dX2_keep_169 rfl ?_
            refine va_get (D := (dC, dI)) (ci := 2) (v := .int (v0 9)) (C := RX2) (T := TX2) (N := 11) hx hb hG zuX2 hown hK hP 0 rfl rfl 9 (by decide) (hG _ zv334) (fun _ h9 => h9) rfl dX2_keep_170 ?_
            refine lv_iconst (v := 1) hx hb dX2_keep_173 (by decide) ?_
            refine lv_iadd hx hb dX2_keep_174 ?_
            refine lv_topi (fun z174 e_z174 => ?_)
            have b_ := zadd rfl zk_1 e_z174 (by omega) (by omega)
            refine va_put (D := (dC, dI)) (ci := 2) (v := .int z174) (ty := .int) (C := RX2) (T := TX2) (N := 11) hx hb hG zuX2 tyX2 tyX2_ok nmX2 hown hK hP hD hS 0 rfl rfl 9 (by decide) (hG _ zv334) (fun _ h9 => h9) rfl (by decide +kernel) rfl rfl (Nat.le_of_ble_eq_true rfl) dX2_keep_175 (fun H locs hP hD hS => ?_)
            have hP : va_P (dC, dI) vwCl [(h0, .inr (2, mX2 h1 h4 h11 h18 h19 h20 h21 h22 h23 (upd (upd v0 9 z174) 10 z123))), (h11, .inr (10, mX10 h12 h13 h14 h15 h16 h17 v11)), (h12, .inl (k12, 10, .inr (.inl f12))), (h4, .inr (10, mX10 h5 h6 h7 h8 h9 h10 (upd v4 7 (u35_ 0)))), (h5, .inl (k5, 400, .inr (.inl (b35_ 0)))), (h6, zi k6 400 (a35_ 0)), (h7, zi k7 400 f7), (h18, zi k18 300 f_74), (h19, zi k19 300 f_84), (h23, zi k23 400 f_167), (h22, zi k22 400 f_156), (h21, zi k21 400 f_105), (h20, zi k20 300 f_116)] H := hP
            have hD : va_D A [(h0, .inr (2, mX2 h1 h4 h11 h18 h19 h20 h21 h22 h23 (upd (upd v0 9 z174) 10 z123))), (h11, .inr (10, mX10 h12 h13 h14 h15 h16 h17 v11)), (h12, .inl (k12, 10, .inr (.inl f12))), (h4, .inr (10, mX10 h5 h6 h7 h8 h9 h10 (upd v4 7 (u35_ 0)))), (h5, .inl (k5, 400, .inr (.inl (b35_ 0)))), (h6, zi k6 400 (a35_ 0)), (h7, zi k7 400 f7), (h18, zi k18 300 f_74), (h19, zi k19 300 f_84), (h23, zi k23 400 f_167), (h22, zi k22 400 f_156), (h21, zi k21 400 f_105), (h20, zi k20 300 f_116)] := hD
            have hchn : zChn f_105 f_84 f_156 f_167 z174.toInt := by rw [show z174.toInt = (v0 9).toInt + 1 from by omega, e_f_105, e_f_84, e_f_156, e_f_167]; exact zChn_new hp0_ hid rfl (by omega) (by rw [← e_z91]; omega) (by rw [e_z164] at *; omega)
            have hz9 : z166.toInt = (f23 (r35_ : Int32).toNatClampNeg).toInt + 1 := by rw [← e_z91]; omega
            have hke : zKe f5 f6 f7 (v4 7).toInt f12 (v11 7).toInt f18 f19 f20 f21 f22 f23 (v0 9).toInt (v0 10).toInt (b35_ 0) (a35_ 0) f7 (u35_ 0).toInt f_74 f_84 f_116 f_105 f_156 f_167 z174.toInt z123.toInt y1.toInt x2.toInt (1 : Int32).toInt := zKe_x (X := 0) (L := 0) (M := -1) hX5_1 (by omega) hX19_0 (by omega) (Or.resolve_left hB35_0 (by omega)) (by omega) (by omega) (by omega) (by omega) (by omega) (by first | decide | omega) e_f_74 rfl e_f_156 e_f_167 hz9 (by omega) (Or.inl ⟨by rw [← e_z91]; omega, e_f_105, e_f_84, e_f_116, by omega⟩) (by decide)
            refine lv_iconst (v := 1) hx hb dX2_keep_178 (by decide) ?_
            refine W.widen (k := 0) (n := 0) (by decide) (by decide) ?_
            have hpost : (0 ≤ (1 : Int32).toInt ∧ (1 : Int32).toInt ≤ 1) ∧ (0 ≤ z174.toInt ∧ z174.toInt ≤ 300) ∧ (0 ≤ z123.toInt ∧ z123.toInt ≤ 300) ∧ (0 ≤ (u35_ 0).toInt ∧ (u35_ 0).toInt ≤ 400) ∧ (z123.toInt ≤ z174.toInt) ∧ ((1 : Int32).toInt = (1 : Int32).toInt) := ⟨(by first | with_reducible assumption | exact ⟨by omega, by omega⟩), (by first | with_reducible assumption | exact ⟨by omega, by omega⟩), (by first | with_reducible assumption | exact ⟨by omega, by omega⟩), (by first | with_reducible assumption | exact ⟨by omega, by omega⟩), by omega, rfl⟩
            have hP9 : va_P (dC, dI) vwCl [(h0, .inr (2, mX2 h1 h4 h11 h18 h19 h20 h21 h22 h23 (upd (upd v0 9 z174) 10 z123))), (h11, .inr (10, mX10 h12 h13 h14 h15 h16 h17 v11)), (h12, .inl (k12, 10, .inr (.inl f12))), (h4, .inr (10, mX10 h5 h6 h7 h8 h9 h10 (upd v4 7 (u35_ 0)))), (h5, .inl (k5, 400, .inr (.inl (b35_ 0)))), (h6, zi k6 400 (a35_ 0)), (h7, zi k7 400 f7), (h18, zi k18 300 f_74), (h19, zi k19 300 f_84), (h23, zi k23 400 f_167), (h22, zi k22 400 f_156), (h21, zi k21 400 f_105), (h20, zi k20 300 f_116)] H := hP
            have hD9 : va_D A [(h0, .inr (2, mX2 h1 h4 h11 h18 h19 h20 h21 h22 h23 (upd (upd v0 9 z174) 10 z123))), (h11, .inr (10, mX10 h12 h13 h14 h15 h16 h17 v11)), (h12, .inl (k12, 10, .inr (.inl f12))), (h4, .inr (10, mX10 h5 h6 h7 h8 h9 h10 (upd v4 7 (u35_ 0)))), (h5, .inl (k5, 400, .inr (.inl (b35_ 0)))), (h6, zi k6 400 (a35_ 0)), (h7, zi k7 400 f7), (h18, zi k18 300 f_74), (h19, zi k19 300 f_84), (h23, zi k23 400 f_167), (h22, zi k22 400 f_156), (h21, zi k21 400 f_105), (h20, zi k20 300 f_116)] := hD
            have hB0 : zChn f_105 f_84 f_156 f_167 z174.toInt := by assumption
            have hB1 : zKe f5 f6 f7 (v4 7).toInt f12 (v11 7).toInt f18 f19 f20 f21 f22 f23 (v0 9).toInt (v0 10).toInt (b35_ 0) (a35_ 0) f7 (u35_ 0).toInt f_74 f_84 f_116 f_105 f_156 f_167 z174.toInt z123.toInt y1.toInt x2.toInt (1 : Int32).toInt := by first | exact hke | exact zKe_s hX5_1 (by omega) (by decide) | exact zKe_f hX5_1 (by omega) hX19_0 (by omega) (by omega) (hB35_1 (by omega)) (by omega) (by decide) | exact zKe_k (by omega)
            exact W.zret (v := 1) hx hb hr rfl (fun t ht hW => ⟨⟨1, (fun i => ([z174, z123, (u35_ 0), 1] : List (Int32)).getD i 0), rfl, hpost, (fun _ => 0), (fun i => ([(a35_ 0), f_74, f_84, f_167, f_156, f_105, f_116] : List (Nat → Int32)).getD i (fun _ => 0)), (fun i => ([(b35_ 0)] : List (Nat → Int64)).getD i (fun _ => 0)), ha35_0, hf_84, hf_156, hf_105, hf_116, hB0, hB1, by rw [ht]; exact hP9, va_K.moved hW.alike hK, hD9⟩, hS.F ht⟩) hS.2.2 dX2_keep_179
        · skip
          have b_ := zF_lt rfl zk_300 c_
          refine lv_iconst (v := 0) hx hb dX2_keep_63 (by decide) ?_
          refine W.widen (k := 0) (n := 0) (by decide) (by decide) ?_
          have hpost : (0 ≤ (0 : Int32).toInt ∧ (0 : Int32).toInt ≤ 1) ∧ (0 ≤ (v0 9).toInt ∧ (v0 9).toInt ≤ 300) ∧ (0 ≤ (v0 10).toInt ∧ (v0 10).toInt ≤ 300) ∧ (0 ≤ (u35_ 0).toInt ∧ (u35_ 0).toInt ≤ 400) ∧ ((v0 10).toInt ≤ (v0 9).toInt) ∧ ((0 : Int32).toInt = (0 : Int32).toInt) := ⟨(by first | with_reducible assumption | exact ⟨by omega, by omega⟩), (by first | with_reducible assumption | exact ⟨by omega, by omega⟩), (by first | with_reducible assumption | exact ⟨by omega, by omega⟩), (by first | with_reducible assumption | exact ⟨by omega, by omega⟩), by omega, rfl⟩
          have hP9 : va_P (dC, dI) vwCl [(h0, .inr (2, mX2 h1 h4 h11 h18 h19 h20 h21 h22 h23 (upd (upd v0 9 (v0 9)) 10 (v0 10)))), (h11, .inr (10, mX10 h12 h13 h14 h15 h16 h17 v11)), (h12, .inl (k12, 10, .inr (.inl f12))), (h4, .inr (10, mX10 h5 h6 h7 h8 h9 h10 (upd v4 7 (u35_ 0)))), (h5, .inl (k5, 400, .inr (.inl (b35_ 0)))), (h6, zi k6 400 (a35_ 0)), (h7, zi k7 400 f7), (h18, zi k18 300 f18), (h19, zi k19 300 f19), (h23, zi k23 400 f23), (h22, zi k22 400 f22), (h21, zi k21 400 f21), (h20, zi k20 300 f20)] H := hP
          have hD9 : va_D A [(h0, .inr (2, mX2 h1 h4 h11 h18 h19 h20 h21 h22 h23 (upd (upd v0 9 (v0 9)) 10 (v0 10)))), (h11, .inr (10, mX10 h12 h13 h14 h15 h16 h17 v11)), (h12, .inl (k12, 10, .inr (.inl f12))), (h4, .inr (10, mX10 h5 h6 h7 h8 h9 h10 (upd v4 7 (u35_ 0)))), (h5, .inl (k5, 400, .inr (.inl (b35_ 0)))), (h6, zi k6 400 (a35_ 0)), (h7, zi k7 400 f7), (h18, zi k18 300 f18), (h19, zi k19 300 f19), (h23, zi k23 400 f23), (h22, zi k22 400 f22), (h21, zi k21 400 f21), (h20, zi k20 300 f20)] := hD
          have hB0 : zChn f21 f19 f22 f23 (v0 9).toInt := by assumption
          have hB1 : zKe f5 f6 f7 (v4 7).toInt f12 (v11 7).toInt f18 f19 f20 f21 f22 f23 (v0 9).toInt (v0 10).toInt (b35_ 0) (a35_ 0) f7 (u35_ 0).toInt f18 f19 f20 f21 f22 f23 (v0 9).toInt (v0 10).toInt y1.toInt x2.toInt (0 : Int32).toInt := by first | exact hke | exact zKe_s hX5_1 (by omega) (by decide) | exact zKe_f hX5_1 (by omega) hX19_0 (by omega) (by omega) (hB35_1 (by omega)) (by omega) (by decide) | exact zKe_k (by omega)
          exact W.zret (v := 0) hx hb hr rfl (fun t ht hW => ⟨⟨0, (fun i => ([(v0 9), (v0 10), (u35_ 0), 0] : List (Int32)).getD i 0), rfl, hpost, (fun _ => 0), (fun i => ([(a35_ 0), f18, f19, f23, f22, f21, f20] : List (Nat → Int32)).getD i (fun _ => 0)), (fun i => ([(b35_ 0)] : List (Nat → Int64)).getD i (fun _ => 0)), ha35_0, hf19, hf22, hf21, hf20, hB0, hB1, by rw [ht]; exact hP9, va_K.moved hW.alike hK, hD9⟩, hS.F ht⟩) hS.2.2 dX2_keep_64
  · skip
    have b_ := zF_eq rfl zk_m1 c_
    refine lv_iconst (v := 1) hx hb dX2_keep_12 (by decide) ?_
    refine W.widen (k := 0) (n := 0) (by decide) (by decide) ?_
    have hpost : (0 ≤ (1 : Int32).toInt ∧ (1 : Int32).toInt ≤ 1) ∧ (0 ≤ (v0 9).toInt ∧ (v0 9).toInt ≤ 300) ∧ (0 ≤ (v0 10).toInt ∧ (v0 10).toInt ≤ 300) ∧ (0 ≤ (v4 7).toInt ∧ (v4 7).toInt ≤ 400) ∧ ((v0 10).toInt ≤ (v0 9).toInt) ∧ ((1 : Int32).toInt = (1 : Int32).toInt) := ⟨(by first | with_reducible assumption | exact ⟨by omega, by omega⟩), (by first | with_reducible assumption | exact ⟨by omega, by omega⟩), (by first | with_reducible assumption | exact ⟨by omega, by omega⟩), (by first | with_reducible assumption | exact ⟨by omega, by omega⟩), by omega, rfl⟩
    have hP9 : va_P (dC, dI) vwCl [(h0, .inr (2, mX2 h1 h4 h11 h18 h19 h20 h21 h22 h23 (upd (upd v0 9 (v0 9)) 10 (v0 10)))), (h11, .inr (10, mX10 h12 h13 h14 h15 h16 h17 v11)), (h12, .inl (k12, 10, .inr (.inl f12))), (h4, .inr (10, mX10 h5 h6 h7 h8 h9 h10 (upd v4 7 (v4 7)))), (h5, .inl (k5, 400, .inr (.inl f5))), (h6, zi k6 400 f6), (h7, zi k7 400 f7), (h18, zi k18 300 f18), (h19, zi k19 300 f19), (h23, zi k23 400 f23), (h22, zi k22 400 f22), (h21, zi k21 400 f21), (h20, zi k20 300 f20)] H := hP
    have hD9 : va_D A [(h0, .inr (2, mX2 h1 h4 h11 h18 h19 h20 h21 h22 h23 (upd (upd v0 9 (v0 9)) 10 (v0 10)))), (h11, .inr (10, mX10 h12 h13 h14 h15 h16 h17 v11)), (h12, .inl (k12, 10, .inr (.inl f12))), (h4, .inr (10, mX10 h5 h6 h7 h8 h9 h10 (upd v4 7 (v4 7)))), (h5, .inl (k5, 400, .inr (.inl f5))), (h6, zi k6 400 f6), (h7, zi k7 400 f7), (h18, zi k18 300 f18), (h19, zi k19 300 f19), (h23, zi k23 400 f23), (h22, zi k22 400 f22), (h21, zi k21 400 f21), (h20, zi k20 300 f20)] := hD
    have hB0 : zChn f21 f19 f22 f23 (v0 9).toInt := by assumption
    have hB1 : zKe f5 f6 f7 (v4 7).toInt f12 (v11 7).toInt f18 f19 f20 f21 f22 f23 (v0 9).toInt (v0 10).toInt f5 f6 f7 (v4 7).toInt f18 f19 f20 f21 f22 f23 (v0 9).toInt (v0 10).toInt y1.toInt x2.toInt (1 : Int32).toInt := by first | exact hke | exact zKe_s hX5_1 (by omega) (by decide) | exact zKe_f hX5_1 (by omega) hX19_0 (by omega) (by omega) (hB35_1 (by omega)) (by omega) (by decide) | exact zKe_k (by omega)
    exact W.zret (v := 1) hx hb hr rfl (fun t ht hW => ⟨⟨1, (fun i => ([(v0 9), (v0 10), (v4 7), 1] : List (Int32)).getD i 0), rfl, hpost, (fun _ => 0), (fun i => ([f6, f18, f19, f23, f22, f21, f20] : List (Nat → Int32)).getD i (fun _ => 0)), (fun i => ([f5] : List (Nat → Int64)).getD i (fun _ => 0)), hf6, hf19, hf22, hf21, hf20, hB0, hB1, by rw [ht]; exact hP9, va_K.moved hW.alike hK, hD9⟩, hS.F ht⟩) hS.2.2 dX2_keep_13
