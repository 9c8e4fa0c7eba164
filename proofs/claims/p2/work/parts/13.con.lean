set_option maxHeartbeats 8000000 in
set_option maxRecDepth 100000 in
theorem sJ6_numberOfTrailingZeros_0f7a4_0 (l : Launch) (dC : Nat → ClassId) (dI : Nat → Nat → Nat) (adK adV : Nat → Nat) (sz : Nat) (x0 : Int32) : Met l yJ6_numberOfTrailingZeros_0f7a4 (zw yJ6_numberOfTrailingZeros_0f7a4 cJ6_numberOfTrailingZeros_0f7a4 2 (some .int)) { frames := 0, cells := 0, slots := 0, locals := 0 } (zPc dC dI adK adV [.int x0] sz [] []) (va_Qi (fun (r : Int32) (u : Nat → Int32) => (0 ≤ r.toInt ∧ r.toInt ≤ 32) ∧ (x0.toInt ≠ 0 → r.toInt ≤ 31)) (fun (u : Nat → Int32) (t : State) => ∃ (ww : Nat → Int64) (aa : Nat → Nat → Int32) (bb : Nat → Nat → Int64), va_P (dC, dI) vwCl [] t.heap ∧ va_K (dC, dI) vwCl [] t ∧ va_D (va_A [] sz) []) (va_A [] sz)) 0 0 (va_A [] sz) := by
  refine Met.ofW (cc := cJ6_numberOfTrailingZeros_0f7a4) (maxL := 2) (ret := (some .int)) (by decide) rfl ?_
  intro p e s m args below meth c s₁ B hml hv
  obtain ⟨rfl, hsz, hP, hK, hD0, hE, hZ⟩ := hv
  have hx := B.exec
  have hb := B.bytes
  have hr := B.returns
  have hG : ∀ w ∈ zG, w.before _ s = true := fun w h => atoms_spec (ws := (zw yJ6_numberOfTrailingZeros_0f7a4 cJ6_numberOfTrailingZeros_0f7a4 2 (some .int))) B.pre w (List.mem_cons_of_mem _ h)
  have hown : s.vm.findClass RJ6 = some m.cls := findClass_of_methodNamed B.named
  have hlocks := B.notSynchronized
  subst hsz
  have hD := hD0.self (sz := s.heap.size)
  generalize hAe : va_A [] s.heap.size = A at hD hZ ⊢
  have hA : ∀ q : Nat, s.heap.size ≤ q → A q := fun q h => by rw [← hAe]; exact Or.inr h
  have hS : va_S A s.heap s.heap [] := va_S.rf
  have hl := lv_entry ([.int x0]) (n := 2) (Nat.le_of_ble_eq_true rfl)
  rw [lg_entry_eq]
  generalize (lg_sl ([.int x0]) ++ List.replicate (2 - (lg_sl ([.int x0])).length) Slot.unset).toArray = ls at hl ⊢
  have hl : lv_has ls 2 [(0, .int x0)] := hl
  refine lv_iload_n hx hb dJ6_numberOfTrailingZeros_0f7a4_0 rfl (lv_at hl 0 rfl) ?_
  refine lv_iconst (v := (-1)) hx hb dJ6_numberOfTrailingZeros_0f7a4_1 (by decide) ?_
  have b_ : -2147483648 ≤ x0.toInt ∧ x0.toInt ≤ 2147483647 := ⟨zlo _, zhi _⟩
  refine lv_ixor hx hb dJ6_numberOfTrailingZeros_0f7a4_2 ?_
  refine lv_topi (fun z2 e_z2 => ?_)
  refine lv_iload_n hx hb dJ6_numberOfTrailingZeros_0f7a4_3 rfl (lv_at hl 0 rfl) ?_
  refine lv_iconst (v := 1) hx hb dJ6_numberOfTrailingZeros_0f7a4_4 (by decide) ?_
  refine lv_isub hx hb dJ6_numberOfTrailingZeros_0f7a4_5 ?_
  refine lv_topi (fun z5 e_z5 => ?_)
  have b_ : -2147483648 ≤ z2.toInt ∧ z2.toInt ≤ 2147483647 := ⟨zlo _, zhi _⟩
  have b_ : -2147483648 ≤ z5.toInt ∧ z5.toInt ≤ 2147483647 := ⟨zlo _, zhi _⟩
  refine lv_iand hx hb dJ6_numberOfTrailingZeros_0f7a4_6 ?_
  refine lv_topi (fun z6 e_z6 => ?_)
  refine lv_istore_n (lv' := [(0, .int z6)]) hx hb dJ6_numberOfTrailingZeros_0f7a4_7 rfl hl (by decide) rfl (fun ls hl => ?_)
  refine lv_iload_n hx hb dJ6_numberOfTrailingZeros_0f7a4_8 rfl (lv_at hl 0 rfl) ?_
  have b_ : -2147483648 ≤ z6.toInt ∧ z6.toInt ≤ 2147483647 := ⟨zlo _, zhi _⟩
  refine lv_if_gt (tgt := 17) hx hb dJ6_numberOfTrailingZeros_0f7a4_9 (by decide) (fun c_ => ?_) (fun c_ => ?_)
  · skip
    have b_ := zT_gt rfl zk_0 c_
    refine lv_iconst (v := 1) hx hb dJ6_numberOfTrailingZeros_0f7a4_17 (by decide) ?_
    refine lv_istore_n (lv' := [(1, .int 1), (0, .int z6)]) hx hb dJ6_numberOfTrailingZeros_0f7a4_18 rfl hl (by decide) rfl (fun ls hl => ?_)
    refine lv_iload_n hx hb dJ6_numberOfTrailingZeros_0f7a4_19 rfl (lv_at hl 1 rfl) ?_
    refine lv_ldcw hx hb hown (hG _ zw45) dJ6_numberOfTrailingZeros_0f7a4_20 ?_
    refine lv_icmp_le (tgt := 34) hx hb dJ6_numberOfTrailingZeros_0f7a4_23 (by decide) (fun c_ => ?_) (fun c_ => ?_)
    · skip
      have b_ := zT_le rfl zk_65536 c_
      refine lv_iload_n hx hb dJ6_numberOfTrailingZeros_0f7a4_34 rfl (lv_at hl 1 rfl) ?_
      refine lv_sipush (v := 256) hx hb dJ6_numberOfTrailingZeros_0f7a4_35 (by decide) ?_
      refine lv_icmp_le (tgt := 49) hx hb dJ6_numberOfTrailingZeros_0f7a4_38 (by decide) (fun c_ => ?_) (fun c_ => ?_)
      · skip
        have b_ := zT_le rfl zk_256 c_
        refine lv_iload_n hx hb dJ6_numberOfTrailingZeros_0f7a4_49 rfl (lv_at hl 1 rfl) ?_
        refine lv_bipush (v := 16) hx hb dJ6_numberOfTrailingZeros_0f7a4_50 (by decide) ?_
        refine lv_icmp_le (tgt := 62) hx hb dJ6_numberOfTrailingZeros_0f7a4_52 (by decide) (fun c_ => ?_) (fun c_ => ?_)
        · skip
          have b_ := zT_le rfl zk_16 c_
          refine lv_iload_n hx hb dJ6_numberOfTrailingZeros_0f7a4_62 rfl (lv_at hl 1 rfl) ?_
          refine lv_iconst (v := 4) hx hb dJ6_numberOfTrailingZeros_0f7a4_63 (by decide) ?_
          refine lv_icmp_le (tgt := 74) hx hb dJ6_numberOfTrailingZeros_0f7a4_64 (by decide) (fun c_ => ?_) (fun c_ => ?_)
          · skip
            have b_ := zT_le rfl zk_4 c_
            refine lv_iload_n hx hb dJ6_numberOfTrailingZeros_0f7a4_74 rfl (lv_at hl 0 rfl) ?_
            refine lv_iload_n hx hb dJ6_numberOfTrailingZeros_0f7a4_75 rfl (lv_at hl 1 rfl) ?_
            refine lv_iconst (v := 1) hx hb dJ6_numberOfTrailingZeros_0f7a4_76 (by decide) ?_
            refine lv_iushr hx hb dJ6_numberOfTrailingZeros_0f7a4_77 rfl ?_
            refine lv_topi (fun z77 e_z77 => ?_)
            have b_ := zushr1 rfl e_z77 (by omega)
            refine lv_iadd hx hb dJ6_numberOfTrailingZeros_0f7a4_78 ?_
            refine lv_topi (fun z78 e_z78 => ?_)
            have b_ := zadd zk_1 rfl e_z78 (by omega) (by omega)
            refine W.widen (k := 0) (n := 0) (by decide) (by decide) ?_
            have hpost : (0 ≤ z78.toInt ∧ z78.toInt ≤ 32) ∧ (x0.toInt ≠ 0 → z78.toInt ≤ 31) := ⟨⟨by omega, by omega⟩, by omega⟩
            have hP9 : va_P (dC, dI) vwCl [] s.heap := hP
            have hD9 : va_D A [] := hD
            exact W.iret (v := z78) hx hb hr (fun t ht hW => ⟨⟨z78, (fun _ => 0), rfl, hpost, (fun _ => 0), (fun _ => (fun _ => 0)), (fun _ => (fun _ => 0)), by rw [ht]; exact hP9, va_K.moved hW.alike hK, hD9⟩, hS.F ht⟩) hS.2.2 dJ6_numberOfTrailingZeros_0f7a4_79
          · skip
            have b_ := zF_le rfl zk_4 c_
            refine lv_iinc (v := 3) (lv' := [(1, .int 3), (0, .int z6)]) hx hb dJ6_numberOfTrailingZeros_0f7a4_67 hl (k := 0) rfl (by decide) (by decide) rfl (fun ls hl => ?_)
            refine lv_iload_n hx hb dJ6_numberOfTrailingZeros_0f7a4_70 rfl (lv_at hl 1 rfl) ?_
            refine lv_iconst (v := 2) hx hb dJ6_numberOfTrailingZeros_0f7a4_71 (by decide) ?_
            refine lv_iushr hx hb dJ6_numberOfTrailingZeros_0f7a4_72 rfl ?_
            refine lv_topi (fun z72 e_z72 => ?_)
            have b_ := zushr2 rfl e_z72 (by omega)
            refine lv_istore_n (lv' := [(0, .int z72), (1, .int 3)]) hx hb dJ6_numberOfTrailingZeros_0f7a4_73 rfl hl (by decide) rfl (fun ls hl => ?_)
            refine lv_iload_n hx hb dJ6_numberOfTrailingZeros_0f7a4_74 rfl (lv_at hl 1 rfl) ?_
            refine lv_iload_n hx hb dJ6_numberOfTrailingZeros_0f7a4_75 rfl (lv_at hl 0 rfl) ?_
            refine lv_iconst (v := 1) hx hb dJ6_numberOfTrailingZeros_0f7a4_76 (by decide) ?_
            refine lv_iushr hx hb dJ6_numberOfTrailingZeros_0f7a4_77 rfl ?_
            refine lv_topi (fun z77 e_z77 => ?_)
            have b_ := zushr1 rfl e_z77 (by omega)
            refine lv_iadd hx hb dJ6_numberOfTrailingZeros_0f7a4_78 ?_
            refine lv_topi (fun z78 e_z78 => ?_)
            have b_ := zadd zk_3 rfl e_z78 (by omega) (by omega)
            refine W.widen (k := 0) (n := 0) (by decide) (by decide) ?_
            have hpost : (0 ≤ z78.toInt ∧ z78.toInt ≤ 32) ∧ (x0.toInt ≠ 0 → z78.toInt ≤ 31) := ⟨⟨by omega, by omega⟩, by omega⟩
            have hP9 : va_P (dC, dI) vwCl [] s.heap := hP
            have hD9 : va_D A [] := hD
            exact W.iret (v := z78) hx hb hr (fun t ht hW => ⟨⟨z78, (fun _ => 0), rfl, hpost, (fun _ => 0), (fun _ => (fun _ => 0)), (fun _ => (fun _ => 0)), by rw [ht]; exact hP9, va_K.moved hW.alike hK, hD9⟩, hS.F ht⟩) hS.2.2 dJ6_numberOfTrailingZeros_0f7a4_79
        · skip
          have b_ := zF_le rfl zk_16 c_
          refine lv_iinc (v := 5) (lv' := [(1, .int 5), (0, .int z6)]) hx hb dJ6_numberOfTrailingZeros_0f7a4_55 hl (k := 0) rfl (by decide) (by decide) rfl (fun ls hl => ?_)
          refine lv_iload_n hx hb dJ6_numberOfTrailingZeros_0f7a4_58 rfl (lv_at hl 1 rfl) ?_
          refine lv_iconst (v := 4) hx hb dJ6_numberOfTrailingZeros_0f7a4_59 (by decide) ?_
          refine lv_iushr hx hb dJ6_numberOfTrailingZeros_0f7a4_60 rfl ?_
          refine lv_topi (fun z60 e_z60 => ?_)
          have b_ := zushr4 rfl e_z60 (by omega)
          refine lv_istore_n (lv' := [(0, .int z60), (1, .int 5)]) hx hb dJ6_numberOfTrailingZeros_0f7a4_61 rfl hl (by decide) rfl (fun ls hl => ?_)
          refine lv_iload_n hx hb dJ6_numberOfTrailingZeros_0f7a4_62 rfl (lv_at hl 0 rfl) ?_
          refine lv_iconst (v := 4) hx hb dJ6_numberOfTrailingZeros_0f7a4_63 (by decide) ?_
          refine lv_icmp_le (tgt := 74) hx hb dJ6_numberOfTrailingZeros_0f7a4_64 (by decide) (fun c_ => ?_) (fun c_ => ?_)
          · skip
            have b_ := zT_le rfl zk_4 c_
            refine lv_iload_n hx hb dJ6_numberOfTrailingZeros_0f7a4_74 rfl (lv_at hl 1 rfl) ?_
            refine lv_iload_n hx hb dJ6_numberOfTrailingZeros_0f7a4_75 rfl (lv_at hl 0 rfl) ?_
            refine lv_iconst (v := 1) hx hb dJ6_numberOfTrailingZeros_0f7a4_76 (by decide) ?_
            refine lv_iushr hx hb dJ6_numberOfTrailingZeros_0f7a4_77 rfl ?_
            refine lv_topi (fun z77 e_z77 => ?_)
            have b_ := zushr1 rfl e_z77 (by omega)
            refine lv_iadd hx hb dJ6_numberOfTrailingZeros_0f7a4_78 ?_
            refine lv_topi (fun z78 e_z78 => ?_)
            have b_ := zadd zk_5 rfl e_z78 (by omega) (by omega)
            refine W.widen (k := 0) (n := 0) (by decide) (by decide) ?_
            have hpost : (0 ≤ z78.toInt ∧ z78.toInt ≤ 32) ∧ (x0.toInt ≠ 0 → z78.toInt ≤ 31) := ⟨⟨by omega, by omega⟩, by omega⟩
            have hP9 : va_P (dC, dI) vwCl [] s.heap := hP
            have hD9 : va_D A [] := hD
            exact W.iret (v := z78) hx hb hr (fun t ht hW => ⟨⟨z78, (fun _ => 0), rfl, hpost, (fun _ => 0), (fun _ => (fun _ => 0)), (fun _ => (fun _ => 0)), by rw [ht]; exact hP9, va_K.moved hW.alike hK, hD9⟩, hS.F ht⟩) hS.2.2 dJ6_numberOfTrailingZeros_0f7a4_79
          · skip
            have b_ := zF_le rfl zk_4 c_
            refine lv_iinc (v := 7) (lv' := [(1, .int 7), (0, .int z60)]) hx hb dJ6_numberOfTrailingZeros_0f7a4_67 hl (k := 1) rfl (by decide) (by decide) rfl (fun ls hl => ?_)
            refine lv_iload_n hx hb dJ6_numberOfTrailingZeros_0f7a4_70 rfl (lv_at hl 1 rfl) ?_
            refine lv_iconst (v := 2) hx hb dJ6_numberOfTrailingZeros_0f7a4_71 (by decide) ?_
            refine lv_iushr hx hb dJ6_numberOfTrailingZeros_0f7a4_72 rfl ?_
            refine lv_topi (fun z72 e_z72 => ?_)
            have b_ := zushr2 rfl e_z72 (by omega)
            refine lv_istore_n (lv' := [(0, .int z72), (1, .int 7)]) hx hb dJ6_numberOfTrailingZeros_0f7a4_73 rfl hl (by decide) rfl (fun ls hl => ?_)
            refine lv_iload_n hx hb dJ6_numberOfTrailingZeros_0f7a4_74 rfl (lv_at hl 1 rfl) ?_
            refine lv_iload_n hx hb dJ6_numberOfTrailingZeros_0f7a4_75 rfl (lv_at hl 0 rfl) ?_
            refine lv_iconst (v := 1) hx hb dJ6_numberOfTrailingZeros_0f7a4_76 (by decide) ?_
            refine lv_iushr hx hb dJ6_numberOfTrailingZeros_0f7a4_77 rfl ?_
            refine lv_topi (fun z77 e_z77 => ?_)
            have b_ := zushr1 rfl e_z77 (by omega)
            refine lv_iadd hx hb dJ6_numberOfTrailingZeros_0f7a4_78 ?_
            refine lv_topi (fun z78 e_z78 => ?_)
            have b_ := zadd zk_7 rfl e_z78 (by omega) (by omega)
            refine W.widen (k := 0) (n := 0) (by decide) (by decide) ?_
            have hpost : (0 ≤ z78.toInt ∧ z78.toInt ≤ 32) ∧ (x0.toInt ≠ 0 → z78.toInt ≤ 31) := ⟨⟨by omega, by omega⟩, by omega⟩
            have hP9 : va_P (dC, dI) vwCl [] s.heap := hP
            have hD9 : va_D A [] := hD
            exact W.iret (v := z78) hx hb hr (fun t ht hW => ⟨⟨z78, (fun _ => 0), rfl, hpost, (fun _ => 0), (fun _ => (fun _ => 0)), (fun _ => (fun _ => 0)), by rw [ht]; exact hP9, va_K.moved hW.alike hK, hD9⟩, hS.F ht⟩) hS.2.2 dJ6_numberOfTrailingZeros_0f7a4_79
      · skip
        have b_ := zF_le rfl zk_256 c_
        refine lv_iinc (v := 9) (lv' := [(1, .int 9), (0, .int z6)]) hx hb dJ6_numberOfTrailingZeros_0f7a4_41 hl (k := 0) rfl (by decide) (by decide) rfl (fun ls hl => ?_)
        refine lv_iload_n hx hb dJ6_numberOfTrailingZeros_0f7a4_44 rfl (lv_at hl 1 rfl) ?_
        refine lv_bipush (v := 8) hx hb dJ6_numberOfTrailingZeros_0f7a4_45 (by decide) ?_
        refine lv_iushr hx hb dJ6_numberOfTrailingZeros_0f7a4_47 rfl ?_
        refine lv_topi (fun z47 e_z47 => ?_)
        have b_ := zushr8 rfl e_z47 (by omega)
        refine lv_istore_n (lv' := [(0, .int z47), (1, .int 9)]) hx hb dJ6_numberOfTrailingZeros_0f7a4_48 rfl hl (by decide) rfl (fun ls hl => ?_)
        refine lv_iload_n hx hb dJ6_numberOfTrailingZeros_0f7a4_49 rfl (lv_at hl 0 rfl) ?_
        refine lv_bipush (v := 16) hx hb dJ6_numberOfTrailingZeros_0f7a4_50 (by decide) ?_
        refine lv_icmp_le (tgt := 62) hx hb dJ6_numberOfTrailingZeros_0f7a4_52 (by decide) (fun c_ => ?_) (fun c_ => ?_)
        · skip
          have b_ := zT_le rfl zk_16 c_
          refine lv_iload_n hx hb dJ6_numberOfTrailingZeros_0f7a4_62 rfl (lv_at hl 0 rfl) ?_
          refine lv_iconst (v := 4) hx hb dJ6_numberOfTrailingZeros_0f7a4_63 (by decide) ?_
          refine lv_icmp_le (tgt := 74) hx hb dJ6_numberOfTrailingZeros_0f7a4_64 (by decide) (fun c_ => ?_) (fun c_ => ?_)
          · skip
            have b_ := zT_le rfl zk_4 c_
            refine lv_iload_n hx hb dJ6_numberOfTrailingZeros_0f7a4_74 rfl (lv_at hl 1 rfl) ?_
            refine lv_iload_n hx hb dJ6_numberOfTrailingZeros_0f7a4_75 rfl (lv_at hl 0 rfl) ?_
            refine lv_iconst (v := 1) hx hb dJ6_numberOfTrailingZeros_0f7a4_76 (by decide) ?_
            refine lv_iushr hx hb dJ6_numberOfTrailingZeros_0f7a4_77 rfl ?_
            refine lv_topi (fun z77 e_z77 => ?_)
            have b_ := zushr1 rfl e_z77 (by omega)
            refine lv_iadd hx hb dJ6_numberOfTrailingZeros_0f7a4_78 ?_
            refine lv_topi (fun z78 e_z78 => ?_)
            have b_ := zadd zk_9 rfl e_z78 (by omega) (by omega)
            refine W.widen (k := 0) (n := 0) (by decide) (by decide) ?_
            have hpost : (0 ≤ z78.toInt ∧ z78.toInt ≤ 32) ∧ (x0.toInt ≠ 0 → z78.toInt ≤ 31) := ⟨⟨by omega, by omega⟩, by omega⟩
            have hP9 : va_P (dC, dI) vwCl [] s.heap := hP
            have hD9 : va_D A [] := hD
            exact W.iret (v := z78) hx hb hr (fun t ht hW => ⟨⟨z78, (fun _ => 0), rfl, hpost, (fun _ => 0), (fun _ => (fun _ => 0)), (fun _ => (fun _ => 0)), by rw [ht]; exact hP9, va_K.moved hW.alike hK, hD9⟩, hS.F ht⟩) hS.2.2 dJ6_numberOfTrailingZeros_0f7a4_79
          · skip
            have b_ := zF_le rfl zk_4 c_
            refine lv_iinc (v := 11) (lv' := [(1, .int 11), (0, .int z47)]) hx hb dJ6_numberOfTrailingZeros_0f7a4_67 hl (k := 1) rfl (by decide) (by decide) rfl (fun ls hl => ?_)
            refine lv_iload_n hx hb dJ6_numberOfTrailingZeros_0f7a4_70 rfl (lv_at hl 1 rfl) ?_
            refine lv_iconst (v := 2) hx hb dJ6_numberOfTrailingZeros_0f7a4_71 (by decide) ?_
            refine lv_iushr hx hb dJ6_numberOfTrailingZeros_0f7a4_72 rfl ?_
            refine lv_topi (fun z72 e_z72 => ?_)
            have b_ := zushr2 rfl e_z72 (by omega)
            refine lv_istore_n (lv' := [(0, .int z72), (1, .int 11)]) hx hb dJ6_numberOfTrailingZeros_0f7a4_73 rfl hl (by decide) rfl (fun ls hl => ?_)
            refine lv_iload_n hx hb dJ6_numberOfTrailingZeros_0f7a4_74 rfl (lv_at hl 1 rfl) ?_
            refine lv_iload_n hx hb dJ6_numberOfTrailingZeros_0f7a4_75 rfl (lv_at hl 0 rfl) ?_
            refine lv_iconst (v := 1) hx hb dJ6_numberOfTrailingZeros_0f7a4_76 (by decide) ?_
            refine lv_iushr hx hb dJ6_numberOfTrailingZeros_0f7a4_77 rfl ?_
            refine lv_topi (fun z77 e_z77 => ?_)
            have b_ := zushr1 rfl e_z77 (by omega)
            refine lv_iadd hx hb dJ6_numberOfTrailingZeros_0f7a4_78 ?_
            refine lv_topi (fun z78 e_z78 => ?_)
            have b_ := zadd zk_11 rfl e_z78 (by omega) (by omega)
            refine W.widen (k := 0) (n := 0) (by decide) (by decide) ?_
            have hpost : (0 ≤ z78.toInt ∧ z78.toInt ≤ 32) ∧ (x0.toInt ≠ 0 → z78.toInt ≤ 31) := ⟨⟨by omega, by omega⟩, by omega⟩
            have hP9 : va_P (dC, dI) vwCl [] s.heap := hP
            have hD9 : va_D A [] := hD
            exact W.iret (v := z78) hx hb hr (fun t ht hW => ⟨⟨z78, (fun _ => 0), rfl, hpost, (fun _ => 0), (fun _ => (fun _ => 0)), (fun _ => (fun _ => 0)), by rw [ht]; exact hP9, va_K.moved hW.alike hK, hD9⟩, hS.F ht⟩) hS.2.2 dJ6_numberOfTrailingZeros_0f7a4_79
        · skip
          have b_ := zF_le rfl zk_16 c_
          refine lv_iinc (v := 13) (lv' := [(1, .int 13), (0, .int z47)]) hx hb dJ6_numberOfTrailingZeros_0f7a4_55 hl (k := 1) rfl (by decide) (by decide) rfl (fun ls hl => ?_)
          refine lv_iload_n hx hb dJ6_numberOfTrailingZeros_0f7a4_58 rfl (lv_at hl 1 rfl) ?_
          refine lv_iconst (v := 4) hx hb dJ6_numberOfTrailingZeros_0f7a4_59 (by decide) ?_
          refine lv_iushr hx hb dJ6_numberOfTrailingZeros_0f7a4_60 rfl ?_
          refine lv_topi (fun z60 e_z60 => ?_)
          have b_ := zushr4 rfl e_z60 (by omega)
          refine lv_istore_n (lv' := [(0, .int z60), (1, .int 13)]) hx hb dJ6_numberOfTrailingZeros_0f7a4_61 rfl hl (by decide) rfl (fun ls hl => ?_)
          refine lv_iload_n hx hb dJ6_numberOfTrailingZeros_0f7a4_62 rfl (lv_at hl 0 rfl) ?_
          refine lv_iconst (v := 4) hx hb dJ6_numberOfTrailingZeros_0f7a4_63 (by decide) ?_
          refine lv_icmp_le (tgt := 74) hx hb dJ6_numberOfTrailingZeros_0f7a4_64 (by decide) (fun c_ => ?_) (fun c_ => ?_)
          · skip
            have b_ := zT_le rfl zk_4 c_
            refine lv_iload_n hx hb dJ6_numberOfTrailingZeros_0f7a4_74 rfl (lv_at hl 1 rfl) ?_
            refine lv_iload_n hx hb dJ6_numberOfTrailingZeros_0f7a4_75 rfl (lv_at hl 0 rfl) ?_
            refine lv_iconst (v := 1) hx hb dJ6_numberOfTrailingZeros_0f7a4_76 (by decide) ?_
            refine lv_iushr hx hb dJ6_numberOfTrailingZeros_0f7a4_77 rfl ?_
            refine lv_topi (fun z77 e_z77 => ?_)
            have b_ := zushr1 rfl e_z77 (by omega)
            refine lv_iadd hx hb dJ6_numberOfTrailingZeros_0f7a4_78 ?_
            refine lv_topi (fun z78 e_z78 => ?_)
            have b_ := zadd zk_13 rfl e_z78 (by omega) (by omega)
            refine W.widen (k := 0) (n := 0) (by decide) (by decide) ?_
            have hpost : (0 ≤ z78.toInt ∧ z78.toInt ≤ 32) ∧ (x0.toInt ≠ 0 → z78.toInt ≤ 31) := ⟨⟨by omega, by omega⟩, by omega⟩
            have hP9 : va_P (dC, dI) vwCl [] s.heap := hP
            have hD9 : va_D A [] := hD
            exact W.iret (v := z78) hx hb hr (fun t ht hW => ⟨⟨z78, (fun _ => 0), rfl, hpost, (fun _ => 0), (fun _ => (fun _ => 0)), (fun _ => (fun _ => 0)), by rw [ht]; exact hP9, va_K.moved hW.alike hK, hD9⟩, hS.F ht⟩) hS.2.2 dJ6_numberOfTrailingZeros_0f7a4_79
          · skip
            have b_ := zF_le rfl zk_4 c_
            refine lv_iinc (v := 15) (lv' := [(1, .int 15), (0, .int z60)]) hx hb dJ6_numberOfTrailingZeros_0f7a4_67 hl (k := 1) rfl (by decide) (by decide) rfl (fun ls hl => ?_)
            refine lv_iload_n hx hb dJ6_numberOfTrailingZeros_0f7a4_70 rfl (lv_at hl 1 rfl) ?_
            refine lv_iconst (v := 2) hx hb dJ6_numberOfTrailingZeros_0f7a4_71 (by decide) ?_
            refine lv_iushr hx hb dJ6_numberOfTrailingZeros_0f7a4_72 rfl ?_
            refine lv_topi (fun z72 e_z72 => ?_)
            have b_ := zushr2 rfl e_z72 (by omega)
            refine lv_istore_n (lv' := [(0, .int z72), (1, .int 15)]) hx hb dJ6_numberOfTrailingZeros_0f7a4_73 rfl hl (by decide) rfl (fun ls hl => ?_)
            refine lv_iload_n hx hb dJ6_numberOfTrailingZeros_0f7a4_74 rfl (lv_at hl 1 rfl) ?_
            refine lv_iload_n hx hb dJ6_numberOfTrailingZeros_0f7a4_75 rfl (lv_at hl 0 rfl) ?_
            refine lv_iconst (v := 1) hx hb dJ6_numberOfTrailingZeros_0f7a4_76 (by decide) ?_
            refine lv_iushr hx hb dJ6_numberOfTrailingZeros_0f7a4_77 rfl ?_
            refine lv_topi (fun z77 e_z77 => ?_)
            have b_ := zushr1 rfl e_z77 (by omega)
            refine lv_iadd hx hb dJ6_numberOfTrailingZeros_0f7a4_78 ?_
            refine lv_topi (fun z78 e_z78 => ?_)
            have b_ := zadd zk_15 rfl e_z78 (by omega) (by omega)
            refine W.widen (k := 0) (n := 0) (by decide) (by decide) ?_
            have hpost : (0 ≤ z78.toInt ∧ z78.toInt ≤ 32) ∧ (x0.toInt ≠ 0 → z78.toInt ≤ 31) := ⟨⟨by omega, by omega⟩, by omega⟩
            have hP9 : va_P (dC, dI) vwCl [] s.heap := hP
            have hD9 : va_D A [] := hD
            exact W.iret (v := z78) hx hb hr (fun t ht hW => ⟨⟨z78, (fun _ => 0), rfl, hpost, (fun _ => 0), (fun _ => (fun _ => 0)), (fun _ => (fun _ => 0)), by rw [ht]; exact hP9, va_K.moved hW.alike hK, hD9⟩, hS.F ht⟩) hS.2.2 dJ6_numberOfTrailingZeros_0f7a4_79
    · skip
      have b_ := zF_le rfl zk_65536 c_
      refine lv_iinc (v := 17) (lv' := [(1, .int 17), (0, .int z6)]) hx hb dJ6_numberOfTrailingZeros_0f7a4_26 hl (k := 0) rfl (by decide) (by decide) rfl (fun ls hl => ?_)
      refine lv_iload_n hx hb dJ6_numberOfTrailingZeros_0f7a4_29 rfl (lv_at hl 1 rfl) ?_
      refine lv_bipush (v := 16) hx hb dJ6_numberOfTrailingZeros_0f7a4_30 (by decide) ?_
      refine lv_iushr hx hb dJ6_numberOfTrailingZeros_0f7a4_32 rfl ?_
      refine lv_topi (fun z32 e_z32 => ?_)
      have b_ := zushr16 rfl e_z32 (by omega)
      refine lv_istore_n (lv' := [(0, .int z32), (1, .int 17)]) hx hb dJ6_numberOfTrailingZeros_0f7a4_33 rfl hl (by decide) rfl (fun ls hl => ?_)
      refine lv_iload_n hx hb dJ6_numberOfTrailingZeros_0f7a4_34 rfl (lv_at hl 0 rfl) ?_
      refine lv_sipush (v := 256) hx hb dJ6_numberOfTrailingZeros_0f7a4_35 (by decide) ?_
      refine lv_icmp_le (tgt := 49) hx hb dJ6_numberOfTrailingZeros_0f7a4_38 (by decide) (fun c_ => ?_) (fun c_ => ?_)
      · skip
        have b_ := zT_le rfl zk_256 c_
        refine lv_iload_n hx hb dJ6_numberOfTrailingZeros_0f7a4_49 rfl (lv_at hl 0 rfl) ?_
        refine lv_bipush (v := 16) hx hb dJ6_numberOfTrailingZeros_0f7a4_50 (by decide) ?_
        refine lv_icmp_le (tgt := 62) hx hb dJ6_numberOfTrailingZeros_0f7a4_52 (by decide) (fun c_ => ?_) (fun c_ => ?_)
        · skip
          have b_ := zT_le rfl zk_16 c_
          refine lv_iload_n hx hb dJ6_numberOfTrailingZeros_0f7a4_62 rfl (lv_at hl 0 rfl) ?_
          refine lv_iconst (v := 4) hx hb dJ6_numberOfTrailingZeros_0f7a4_63 (by decide) ?_
          refine lv_icmp_le (tgt := 74) hx hb dJ6_numberOfTrailingZeros_0f7a4_64 (by decide) (fun c_ => ?_) (fun c_ => ?_)
          · skip
            have b_ := zT_le rfl zk_4 c_
            refine lv_iload_n hx hb dJ6_numberOfTrailingZeros_0f7a4_74 rfl (lv_at hl 1 rfl) ?_
            refine lv_iload_n hx hb dJ6_numberOfTrailingZeros_0f7a4_75 rfl (lv_at hl 0 rfl) ?_
            refine lv_iconst (v := 1) hx hb dJ6_numberOfTrailingZeros_0f7a4_76 (by decide) ?_
            refine lv_iushr hx hb dJ6_numberOfTrailingZeros_0f7a4_77 rfl ?_
            refine lv_topi (fun z77 e_z77 => ?_)
            have b_ := zushr1 rfl e_z77 (by omega)
            refine lv_iadd hx hb dJ6_numberOfTrailingZeros_0f7a4_78 ?_
            refine lv_topi (fun z78 e_z78 => ?_)
            have b_ := zadd zk_17 rfl e_z78 (by omega) (by omega)
            refine W.widen (k := 0) (n := 0) (by decide) (by decide) ?_
            have hpost : (0 ≤ z78.toInt ∧ z78.toInt ≤ 32) ∧ (x0.toInt ≠ 0 → z78.toInt ≤ 31) := ⟨⟨by omega, by omega⟩, by omega⟩
            have hP9 : va_P (dC, dI) vwCl [] s.heap := hP
            have hD9 : va_D A [] := hD
            exact W.iret (v := z78) hx hb hr (fun t ht hW => ⟨⟨z78, (fun _ => 0), rfl, hpost, (fun _ => 0), (fun _ => (fun _ => 0)), (fun _ => (fun _ => 0)), by rw [ht]; exact hP9, va_K.moved hW.alike hK, hD9⟩, hS.F ht⟩) hS.2.2 dJ6_numberOfTrailingZeros_0f7a4_79
          · skip
            have b_ := zF_le rfl zk_4 c_
            refine lv_iinc (v := 19) (lv' := [(1, .int 19), (0, .int z32)]) hx hb dJ6_numberOfTrailingZeros_0f7a4_67 hl (k := 1) rfl (by decide) (by decide) rfl (fun ls hl => ?_)
            refine lv_iload_n hx hb dJ6_numberOfTrailingZeros_0f7a4_70 rfl (lv_at hl 1 rfl) ?_
            refine lv_iconst (v := 2) hx hb dJ6_numberOfTrailingZeros_0f7a4_71 (by decide) ?_
            refine lv_iushr hx hb dJ6_numberOfTrailingZeros_0f7a4_72 rfl ?_
            refine lv_topi (fun z72 e_z72 => ?_)
            have b_ := zushr2 rfl e_z72 (by omega)
            refine lv_istore_n (lv' := [(0, .int z72), (1, .int 19)]) hx hb dJ6_numberOfTrailingZeros_0f7a4_73 rfl hl (by decide) rfl (fun ls hl => ?_)
            refine lv_iload_n hx hb dJ6_numberOfTrailingZeros_0f7a4_74 rfl (lv_at hl 1 rfl) ?_
            refine lv_iload_n hx hb dJ6_numberOfTrailingZeros_0f7a4_75 rfl (lv_at hl 0 rfl) ?_
            refine lv_iconst (v := 1) hx hb dJ6_numberOfTrailingZeros_0f7a4_76 (by decide) ?_
            refine lv_iushr hx hb dJ6_numberOfTrailingZeros_0f7a4_77 rfl ?_
            refine lv_topi (fun z77 e_z77 => ?_)
            have b_ := zushr1 rfl e_z77 (by omega)
            refine lv_iadd hx hb dJ6_numberOfTrailingZeros_0f7a4_78 ?_
            refine lv_topi (fun z78 e_z78 => ?_)
            have b_ := zadd zk_19 rfl e_z78 (by omega) (by omega)
            refine W.widen (k := 0) (n := 0) (by decide) (by decide) ?_
            have hpost : (0 ≤ z78.toInt ∧ z78.toInt ≤ 32) ∧ (x0.toInt ≠ 0 → z78.toInt ≤ 31) := ⟨⟨by omega, by omega⟩, by omega⟩
            have hP9 : va_P (dC, dI) vwCl [] s.heap := hP
            have hD9 : va_D A [] := hD
            exact W.iret (v := z78) hx hb hr (fun t ht hW => ⟨⟨z78, (fun _ => 0), rfl, hpost, (fun _ => 0), (fun _ => (fun _ => 0)), (fun _ => (fun _ => 0)), by rw [ht]; exact hP9, va_K.moved hW.alike hK, hD9⟩, hS.F ht⟩) hS.2.2 dJ6_numberOfTrailingZeros_0f7a4_79
        · skip
          have b_ := zF_le rfl zk_16 c_
          refine lv_iinc (v := 21) (lv' := [(1, .int 21), (0, .int z32)]) hx hb dJ6_numberOfTrailingZeros_0f7a4_55 hl (k := 1) rfl (by decide) (by decide) rfl (fun ls hl => ?_)
          refine lv_iload_n hx hb dJ6_numberOfTrailingZeros_0f7a4_58 rfl (lv_at hl 1 rfl) ?_
          refine lv_iconst (v := 4) hx hb dJ6_numberOfTrailingZeros_0f7a4_59 (by decide) ?_
          refine lv_iushr hx hb dJ6_numberOfTrailingZeros_0f7a4_60 rfl ?_
          refine lv_topi (fun z60 e_z60 => ?_)
          have b_ := zushr4 rfl e_z60 (by omega)
          refine lv_istore_n (lv' := [(0, .int z60), (1, .int 21)]) hx hb dJ6_numberOfTrailingZeros_0f7a4_61 rfl hl (by decide) rfl (fun ls hl => ?_)
          refine lv_iload_n hx hb dJ6_numberOfTrailingZeros_0f7a4_62 rfl (lv_at hl 0 rfl) ?_
          refine lv_iconst (v := 4) hx hb dJ6_numberOfTrailingZeros_0f7a4_63 (by decide) ?_
          refine lv_icmp_le (tgt := 74) hx hb dJ6_numberOfTrailingZeros_0f7a4_64 (by decide) (fun c_ => ?_) (fun c_ => ?_)
          · skip
            have b_ := zT_le rfl zk_4 c_
            refine lv_iload_n hx hb dJ6_numberOfTrailingZeros_0f7a4_74 rfl (lv_at hl 1 rfl) ?_
            refine lv_iload_n hx hb dJ6_numberOfTrailingZeros_0f7a4_75 rfl (lv_at hl 0 rfl) ?_
            refine lv_iconst (v := 1) hx hb dJ6_numberOfTrailingZeros_0f7a4_76 (by decide) ?_
            refine lv_iushr hx hb dJ6_numberOfTrailingZeros_0f7a4_77 rfl ?_
            refine lv_topi (fun z77 e_z77 => ?_)
            have b_ := zushr1 rfl e_z77 (by omega)
            refine lv_iadd hx hb dJ6_numberOfTrailingZeros_0f7a4_78 ?_
            refine lv_topi (fun z78 e_z78 => ?_)
            have b_ := zadd zk_21 rfl e_z78 (by omega) (by omega)
            refine W.widen (k := 0) (n := 0) (by decide) (by decide) ?_
            have hpost : (0 ≤ z78.toInt ∧ z78.toInt ≤ 32) ∧ (x0.toInt ≠ 0 → z78.toInt ≤ 31) := ⟨⟨by omega, by omega⟩, by omega⟩
            have hP9 : va_P (dC, dI) vwCl [] s.heap := hP
            have hD9 : va_D A [] := hD
            exact W.iret (v := z78) hx hb hr (fun t ht hW => ⟨⟨z78, (fun _ => 0), rfl, hpost, (fun _ => 0), (fun _ => (fun _ => 0)), (fun _ => (fun _ => 0)), by rw [ht]; exact hP9, va_K.moved hW.alike hK, hD9⟩, hS.F ht⟩) hS.2.2 dJ6_numberOfTrailingZeros_0f7a4_79
          · skip
            have b_ := zF_le rfl zk_4 c_
            refine lv_iinc (v := 23) (lv' := [(1, .int 23), (0, .int z60)]) hx hb dJ6_numberOfTrailingZeros_0f7a4_67 hl (k := 1) rfl (by decide) (by decide) rfl (fun ls hl => ?_)
            refine lv_iload_n hx hb dJ6_numberOfTrailingZeros_0f7a4_70 rfl (lv_at hl 1 rfl) ?_
            refine lv_iconst (v := 2) hx hb dJ6_numberOfTrailingZeros_0f7a4_71 (by decide) ?_
            refine lv_iushr hx hb dJ6_numberOfTrailingZeros_0f7a4_72 rfl ?_
            refine lv_topi (fun z72 e_z72 => ?_)
            have b_ := zushr2 rfl e_z72 (by omega)
            refine lv_istore_n (lv' := [(0, .int z72), (1, .int 23)]) hx hb dJ6_numberOfTrailingZeros_0f7a4_73 rfl hl (by decide) rfl (fun ls hl => ?_)
            refine lv_iload_n hx hb dJ6_numberOfTrailingZeros_0f7a4_74 rfl (lv_at hl 1 rfl) ?_
            refine lv_iload_n hx hb dJ6_numberOfTrailingZeros_0f7a4_75 rfl (lv_at hl 0 rfl) ?_
            refine lv_iconst (v := 1) hx hb dJ6_numberOfTrailingZeros_0f7a4_76 (by decide) ?_
            refine lv_iushr hx hb dJ6_numberOfTrailingZeros_0f7a4_77 rfl ?_
            refine lv_topi (fun z77 e_z77 => ?_)
            have b_ := zushr1 rfl e_z77 (by omega)
            refine lv_iadd hx hb dJ6_numberOfTrailingZeros_0f7a4_78 ?_
            refine lv_topi (fun z78 e_z78 => ?_)
            have b_ := zadd zk_23 rfl e_z78 (by omega) (by omega)
            refine W.widen (k := 0) (n := 0) (by decide) (by decide) ?_
            have hpost : (0 ≤ z78.toInt ∧ z78.toInt ≤ 32) ∧ (x0.toInt ≠ 0 → z78.toInt ≤ 31) := ⟨⟨by omega, by omega⟩, by omega⟩
            have hP9 : va_P (dC, dI) vwCl [] s.heap := hP
            have hD9 : va_D A [] := hD
            exact W.iret (v := z78) hx hb hr (fun t ht hW => ⟨⟨z78, (fun _ => 0), rfl, hpost, (fun _ => 0), (fun _ => (fun _ => 0)), (fun _ => (fun _ => 0)), by rw [ht]; exact hP9, va_K.moved hW.alike hK, hD9⟩, hS.F ht⟩) hS.2.2 dJ6_numberOfTrailingZeros_0f7a4_79
      · skip
        have b_ := zF_le rfl zk_256 c_
        refine lv_iinc (v := 25) (lv' := [(1, .int 25), (0, .int z32)]) hx hb dJ6_numberOfTrailingZeros_0f7a4_41 hl (k := 1) rfl (by decide) (by decide) rfl (fun ls hl => ?_)
        refine lv_iload_n hx hb dJ6_numberOfTrailingZeros_0f7a4_44 rfl (lv_at hl 1 rfl) ?_
        refine lv_bipush (v := 8) hx hb dJ6_numberOfTrailingZeros_0f7a4_45 (by decide) ?_
        refine lv_iushr hx hb dJ6_numberOfTrailingZeros_0f7a4_47 rfl ?_
        refine lv_topi (fun z47 e_z47 => ?_)
        have b_ := zushr8 rfl e_z47 (by omega)
        refine lv_istore_n (lv' := [(0, .int z47), (1, .int 25)]) hx hb dJ6_numberOfTrailingZeros_0f7a4_48 rfl hl (by decide) rfl (fun ls hl => ?_)
        refine lv_iload_n hx hb dJ6_numberOfTrailingZeros_0f7a4_49 rfl (lv_at hl 0 rfl) ?_
        refine lv_bipush (v := 16) hx hb dJ6_numberOfTrailingZeros_0f7a4_50 (by decide) ?_
        refine lv_icmp_le (tgt := 62) hx hb dJ6_numberOfTrailingZeros_0f7a4_52 (by decide) (fun c_ => ?_) (fun c_ => ?_)
        · skip
          have b_ := zT_le rfl zk_16 c_
          refine lv_iload_n hx hb dJ6_numberOfTrailingZeros_0f7a4_62 rfl (lv_at hl 0 rfl) ?_
          refine lv_iconst (v := 4) hx hb dJ6_numberOfTrailingZeros_0f7a4_63 (by decide) ?_
          refine lv_icmp_le (tgt := 74) hx hb dJ6_numberOfTrailingZeros_0f7a4_64 (by decide) (fun c_ => ?_) (fun c_ => ?_)
          · skip
            have b_ := zT_le rfl zk_4 c_
            refine lv_iload_n hx hb dJ6_numberOfTrailingZeros_0f7a4_74 rfl (lv_at hl 1 rfl) ?_
            refine lv_iload_n hx hb dJ6_numberOfTrailingZeros_0f7a4_75 rfl (lv_at hl 0 rfl) ?_
            refine lv_iconst (v := 1) hx hb dJ6_numberOfTrailingZeros_0f7a4_76 (by decide) ?_
            refine lv_iushr hx hb dJ6_numberOfTrailingZeros_0f7a4_77 rfl ?_
            refine lv_topi (fun z77 e_z77 => ?_)
            have b_ := zushr1 rfl e_z77 (by omega)
            refine lv_iadd hx hb dJ6_numberOfTrailingZeros_0f7a4_78 ?_
            refine lv_topi (fun z78 e_z78 => ?_)
            have b_ := zadd zk_25 rfl e_z78 (by omega) (by omega)
            refine W.widen (k := 0) (n := 0) (by decide) (by decide) ?_
            have hpost : (0 ≤ z78.toInt ∧ z78.toInt ≤ 32) ∧ (x0.toInt ≠ 0 → z78.toInt ≤ 31) := ⟨⟨by omega, by omega⟩, by omega⟩
            have hP9 : va_P (dC, dI) vwCl [] s.heap := hP
            have hD9 : va_D A [] := hD
            exact W.iret (v := z78) hx hb hr (fun t ht hW => ⟨⟨z78, (fun _ => 0), rfl, hpost, (fun _ => 0), (fun _ => (fun _ => 0)), (fun _ => (fun _ => 0)), by rw [ht]; exact hP9, va_K.moved hW.alike hK, hD9⟩, hS.F ht⟩) hS.2.2 dJ6_numberOfTrailingZeros_0f7a4_79
          · skip
            have b_ := zF_le rfl zk_4 c_
            refine lv_iinc (v := 27) (lv' := [(1, .int 27), (0, .int z47)]) hx hb dJ6_numberOfTrailingZeros_0f7a4_67 hl (k := 1) rfl (by decide) (by decide) rfl (fun ls hl => ?_)
            refine lv_iload_n hx hb dJ6_numberOfTrailingZeros_0f7a4_70 rfl (lv_at hl 1 rfl) ?_
            refine lv_iconst (v := 2) hx hb dJ6_numberOfTrailingZeros_0f7a4_71 (by decide) ?_
            refine lv_iushr hx hb dJ6_numberOfTrailingZeros_0f7a4_72 rfl ?_
            refine lv_topi (fun z72 e_z72 => ?_)
            have b_ := zushr2 rfl e_z72 (by omega)
            refine lv_istore_n (lv' := [(0, .int z72), (1, .int 27)]) hx hb dJ6_numberOfTrailingZeros_0f7a4_73 rfl hl (by decide) rfl (fun ls hl => ?_)
            refine lv_iload_n hx hb dJ6_numberOfTrailingZeros_0f7a4_74 rfl (lv_at hl 1 rfl) ?_
            refine lv_iload_n hx hb dJ6_numberOfTrailingZeros_0f7a4_75 rfl (lv_at hl 0 rfl) ?_
            refine lv_iconst (v := 1) hx hb dJ6_numberOfTrailingZeros_0f7a4_76 (by decide) ?_
            refine lv_iushr hx hb dJ6_numberOfTrailingZeros_0f7a4_77 rfl ?_
            refine lv_topi (fun z77 e_z77 => ?_)
            have b_ := zushr1 rfl e_z77 (by omega)
            refine lv_iadd hx hb dJ6_numberOfTrailingZeros_0f7a4_78 ?_
            refine lv_topi (fun z78 e_z78 => ?_)
            have b_ := zadd zk_27 rfl e_z78 (by omega) (by omega)
            refine W.widen (k := 0) (n := 0) (by decide) (by decide) ?_
            have hpost : (0 ≤ z78.toInt ∧ z78.toInt ≤ 32) ∧ (x0.toInt ≠ 0 → z78.toInt ≤ 31) := ⟨⟨by omega, by omega⟩, by omega⟩
            have hP9 : va_P (dC, dI) vwCl [] s.heap := hP
            have hD9 : va_D A [] := hD
            exact W.iret (v := z78) hx hb hr (fun t ht hW => ⟨⟨z78, (fun _ => 0), rfl, hpost, (fun _ => 0), (fun _ => (fun _ => 0)), (fun _ => (fun _ => 0)), by rw [ht]; exact hP9, va_K.moved hW.alike hK, hD9⟩, hS.F ht⟩) hS.2.2 dJ6_numberOfTrailingZeros_0f7a4_79
        · skip
          have b_ := zF_le rfl zk_16 c_
          refine lv_iinc (v := 29) (lv' := [(1, .int 29), (0, .int z47)]) hx hb dJ6_numberOfTrailingZeros_0f7a4_55 hl (k := 1) rfl (by decide) (by decide) rfl (fun ls hl => ?_)
          refine lv_iload_n hx hb dJ6_numberOfTrailingZeros_0f7a4_58 rfl (lv_at hl 1 rfl) ?_
          refine lv_iconst (v := 4) hx hb dJ6_numberOfTrailingZeros_0f7a4_59 (by decide) ?_
          refine lv_iushr hx hb dJ6_numberOfTrailingZeros_0f7a4_60 rfl ?_
          refine lv_topi (fun z60 e_z60 => ?_)
          have b_ := zushr4 rfl e_z60 (by omega)
          refine lv_istore_n (lv' := [(0, .int z60), (1, .int 29)]) hx hb dJ6_numberOfTrailingZeros_0f7a4_61 rfl hl (by decide) rfl (fun ls hl => ?_)
          refine lv_iload_n hx hb dJ6_numberOfTrailingZeros_0f7a4_62 rfl (lv_at hl 0 rfl) ?_
          refine lv_iconst (v := 4) hx hb dJ6_numberOfTrailingZeros_0f7a4_63 (by decide) ?_
          refine lv_icmp_le (tgt := 74) hx hb dJ6_numberOfTrailingZeros_0f7a4_64 (by decide) (fun c_ => ?_) (fun c_ => ?_)
          · skip
            have b_ := zT_le rfl zk_4 c_
            refine lv_iload_n hx hb dJ6_numberOfTrailingZeros_0f7a4_74 rfl (lv_at hl 1 rfl) ?_
            refine lv_iload_n hx hb dJ6_numberOfTrailingZeros_0f7a4_75 rfl (lv_at hl 0 rfl) ?_
            refine lv_iconst (v := 1) hx hb dJ6_numberOfTrailingZeros_0f7a4_76 (by decide) ?_
            refine lv_iushr hx hb dJ6_numberOfTrailingZeros_0f7a4_77 rfl ?_
            refine lv_topi (fun z77 e_z77 => ?_)
            have b_ := zushr1 rfl e_z77 (by omega)
            refine lv_iadd hx hb dJ6_numberOfTrailingZeros_0f7a4_78 ?_
            refine lv_topi (fun z78 e_z78 => ?_)
            have b_ := zadd zk_29 rfl e_z78 (by omega) (by omega)
            refine W.widen (k := 0) (n := 0) (by decide) (by decide) ?_
            have hpost : (0 ≤ z78.toInt ∧ z78.toInt ≤ 32) ∧ (x0.toInt ≠ 0 → z78.toInt ≤ 31) := ⟨⟨by omega, by omega⟩, by omega⟩
            have hP9 : va_P (dC, dI) vwCl [] s.heap := hP
            have hD9 : va_D A [] := hD
            exact W.iret (v := z78) hx hb hr (fun t ht hW => ⟨⟨z78, (fun _ => 0), rfl, hpost, (fun _ => 0), (fun _ => (fun _ => 0)), (fun _ => (fun _ => 0)), by rw [ht]; exact hP9, va_K.moved hW.alike hK, hD9⟩, hS.F ht⟩) hS.2.2 dJ6_numberOfTrailingZeros_0f7a4_79
          · skip
            have b_ := zF_le rfl zk_4 c_
            refine lv_iinc (v := 31) (lv' := [(1, .int 31), (0, .int z60)]) hx hb dJ6_numberOfTrailingZeros_0f7a4_67 hl (k := 1) rfl (by decide) (by decide) rfl (fun ls hl => ?_)
            refine lv_iload_n hx hb dJ6_numberOfTrailingZeros_0f7a4_70 rfl (lv_at hl 1 rfl) ?_
            refine lv_iconst (v := 2) hx hb dJ6_numberOfTrailingZeros_0f7a4_71 (by decide) ?_
            refine lv_iushr hx hb dJ6_numberOfTrailingZeros_0f7a4_72 rfl ?_
            refine lv_topi (fun z72 e_z72 => ?_)
            have b_ := zushr2 rfl e_z72 (by omega)
            refine lv_istore_n (lv' := [(0, .int z72), (1, .int 31)]) hx hb dJ6_numberOfTrailingZeros_0f7a4_73 rfl hl (by decide) rfl (fun ls hl => ?_)
            refine lv_iload_n hx hb dJ6_numberOfTrailingZeros_0f7a4_74 rfl (lv_at hl 1 rfl) ?_
            refine lv_iload_n hx hb dJ6_numberOfTrailingZeros_0f7a4_75 rfl (lv_at hl 0 rfl) ?_
            refine lv_iconst (v := 1) hx hb dJ6_numberOfTrailingZeros_0f7a4_76 (by decide) ?_
            refine lv_iushr hx hb dJ6_numberOfTrailingZeros_0f7a4_77 rfl ?_
            refine lv_topi (fun z77 e_z77 => ?_)
            have b_ := zushr1 rfl e_z77 (by omega)
            refine lv_iadd hx hb dJ6_numberOfTrailingZeros_0f7a4_78 ?_
            refine lv_topi (fun z78 e_z78 => ?_)
            have b_ := zadd zk_31 rfl e_z78 (by omega) (by omega)
            refine W.widen (k := 0) (n := 0) (by decide) (by decide) ?_
            have hpost : (0 ≤ z78.toInt ∧ z78.toInt ≤ 32) ∧ (x0.toInt ≠ 0 → z78.toInt ≤ 31) := ⟨⟨by omega, by omega⟩, by omega⟩
            have hP9 : va_P (dC, dI) vwCl [] s.heap := hP
            have hD9 : va_D A [] := hD
            exact W.iret (v := z78) hx hb hr (fun t ht hW => ⟨⟨z78, (fun _ => 0), rfl, hpost, (fun _ => 0), (fun _ => (fun _ => 0)), (fun _ => (fun _ => 0)), by rw [ht]; exact hP9, va_K.moved hW.alike hK, hD9⟩, hS.F ht⟩) hS.2.2 dJ6_numberOfTrailingZeros_0f7a4_79
  · skip
    have b_ := zF_gt rfl zk_0 c_
    refine lv_iload_n hx hb dJ6_numberOfTrailingZeros_0f7a4_12 rfl (lv_at hl 0 rfl) ?_
    refine lv_bipush (v := 32) hx hb dJ6_numberOfTrailingZeros_0f7a4_13 (by decide) ?_
    refine lv_iand hx hb dJ6_numberOfTrailingZeros_0f7a4_15 ?_
    refine lv_topi (fun z15 e_z15 => ?_)
    have b_ := zand (x := z6) zk_32 e_z15 (by decide)
    have b_ := zntz e_z2 e_z5 e_z6 e_z15 (by omega)
    refine W.widen (k := 0) (n := 0) (by decide) (by decide) ?_
    have hpost : (0 ≤ z15.toInt ∧ z15.toInt ≤ 32) ∧ (x0.toInt ≠ 0 → z15.toInt ≤ 31) := ⟨⟨by omega, by omega⟩, by omega⟩
    have hP9 : va_P (dC, dI) vwCl [] s.heap := hP
    have hD9 : va_D A [] := hD
    exact W.iret (v := z15) hx hb hr (fun t ht hW => ⟨⟨z15, (fun _ => 0), rfl, hpost, (fun _ => 0), (fun _ => (fun _ => 0)), (fun _ => (fun _ => 0)), by rw [ht]; exact hP9, va_K.moved hW.alike hK, hD9⟩, hS.F ht⟩) hS.2.2 dJ6_numberOfTrailingZeros_0f7a4_16
set_option maxHeartbeats 8000000 in
set_option maxRecDepth 100000 in
theorem sX5_nextFrom_0 (l : Launch) (dC : Nat → ClassId) (dI : Nat → Nat → Nat) (adK adV : Nat → Nat) (h0 : Nat) (h1 : Nat) (k1 : ClassId) (sz : Nat) (f1 : Nat → Int32) (x1 : Int32) : Met l yX5_nextFrom (zw yX5_nextFrom cX5_nextFrom 4 (some .int)) { frames := 1, cells := 0, slots := 0, locals := 21 } (zPc dC dI adK adV [.ref h0, .int x1] sz [(h0, .inr (5, mX5 h1)), (h1, .inl (k1, 26, .inl f1))] [(k1, .int)]) (va_Qi (fun (r : Int32) (u : Nat → Int32) => ((-1) ≤ r.toInt ∧ r.toInt ≤ 832) ∧ (r.toInt ≤ 831)) (fun (u : Nat → Int32) (t : State) => ∃ (ww : Nat → Int64) (aa : Nat → Nat → Int32) (bb : Nat → Nat → Int64), va_P (dC, dI) vwCl [(h0, .inr (5, mX5 h1)), (h1, .inl (k1, 26, .inl f1))] t.heap ∧ va_K (dC, dI) vwCl [(k1, .int)] t ∧ va_D (va_A [(h0, .inr (5, mX5 h1)), (h1, .inl (k1, 26, .inl f1))] sz) [(h0, .inr (5, mX5 h1)), (h1, .inl (k1, 26, .inl f1))]) (va_A [(h0, .inr (5, mX5 h1)), (h1, .inl (k1, 26, .inl f1))] sz)) 0 0 (va_A [(h0, .inr (5, mX5 h1)), (h1, .inl (k1, 26, .inl f1))] sz) := by
  refine Met.ofW (cc := cX5_nextFrom) (maxL := 4) (ret := (some .int)) (by decide) rfl ?_
  intro p e s m args below meth c s₁ B hml hv
  obtain ⟨rfl, hsz, hP, hK, hD0, hE, hZ⟩ := hv
  have hx := B.exec
  have hb := B.bytes
  have hr := B.returns
  have hG : ∀ w ∈ zG, w.before _ s = true := fun w h => atoms_spec (ws := (zw yX5_nextFrom cX5_nextFrom 4 (some .int))) B.pre w (List.mem_cons_of_mem _ h)
  have hown : s.vm.findClass RX5 = some m.cls := findClass_of_methodNamed B.named
  have hlocks := B.notSynchronized
  subst hsz
  have hD := hD0.self (sz := s.heap.size)
  generalize hAe : va_A [(h0, .inr (5, mX5 h1)), (h1, .inl (k1, 26, .inl f1))] s.heap.size = A at hD hZ ⊢
  have hA : ∀ q : Nat, s.heap.size ≤ q → A q := fun q h => by rw [← hAe]; exact Or.inr h
  have hS : va_S A s.heap s.heap [] := va_S.rf
  have hl := lv_entry ([.ref h0, .int x1]) (n := 4) (Nat.le_of_ble_eq_true rfl)
  rw [lg_entry_eq]
  generalize (lg_sl ([.ref h0, .int x1]) ++ List.replicate (4 - (lg_sl ([.ref h0, .int x1])).length) Slot.unset).toArray = ls at hl ⊢
  have hl : lv_has ls 4 [(0, .ref h0), (1, .int x1)] := hl
  have b_ := zk_m1
  refine lv_iload_n hx hb dX5_nextFrom_0 rfl (lv_at hl 1 rfl) ?_
  have b_ : -2147483648 ≤ x1.toInt ∧ x1.toInt ≤ 2147483647 := ⟨zlo _, zhi _⟩
  refine lv_if_lt (tgt := 11) hx hb dX5_nextFrom_1 (by decide) (fun c_ => ?_) (fun c_ => ?_)
  · skip
    have b_ := zT_lt rfl zk_0 c_
    refine lv_iconst (v := (-1)) hx hb dX5_nextFrom_11 (by decide) ?_
    refine W.widen (k := 0) (n := 0) (by decide) (by decide) ?_
    have hpost : ((-1) ≤ ((-1) : Int32).toInt ∧ ((-1) : Int32).toInt ≤ 832) ∧ (((-1) : Int32).toInt ≤ 831) := ⟨⟨by omega, by omega⟩, by omega⟩
    have hP9 : va_P (dC, dI) vwCl [(h0, .inr (5, mX5 h1)), (h1, .inl (k1, 26, .inl f1))] s.heap := hP
    have hD9 : va_D A [(h0, .inr (5, mX5 h1)), (h1, .inl (k1, 26, .inl f1))] := hD
    exact W.iret (v := (-1)) hx hb hr (fun t ht hW => ⟨⟨(-1), (fun _ => 0), rfl, hpost, (fun _ => 0), (fun _ => (fun _ => 0)), (fun _ => (fun _ => 0)), by rw [ht]; exact hP9, va_K.moved hW.alike hK, hD9⟩, hS.F ht⟩) hS.2.2 dX5_nextFrom_12
  · skip
    have b_ := zF_lt rfl zk_0 c_
    refine lv_iload_n hx hb dX5_nextFrom_4 rfl (lv_at hl 1 rfl) ?_
    refine lv_sipush (v := 832) hx hb dX5_nextFrom_5 (by decide) ?_
    refine lv_icmp_lt (tgt := 13) hx hb dX5_nextFrom_8 (by decide) (fun c_ => ?_) (fun c_ => ?_)
    · skip
      have b_ := zT_lt rfl zk_832 c_
      refine lv_aload_n hx hb dX5_nextFrom_13 rfl (lv_at hl 0 rfl) ?_
      refine va_get (D := (dC, dI)) (ci := 5) (v := .ref h1) (C := RX5) (T := TX5) (N := 1) hx hb hG zuX5 hown hK hP 0 rfl rfl 0 (by decide) (hG _ zw115) (fun _ h9 => h9) rfl dX5_nextFrom_14 ?_
      refine lv_iload_n hx hb dX5_nextFrom_17 rfl (lv_at hl 1 rfl) ?_
      refine lv_bipush (v := 32) hx hb dX5_nextFrom_18 (by decide) ?_
      refine lv_idiv hx hb dX5_nextFrom_20 (by decide) ?_
      refine lv_topi (fun z20 e_z20 => ?_)
      have b_ := zdiv rfl zk_32 e_z20 (by omega) (by decide)
      refine va_iald hx hb hK hP 1 0 rfl rfl (zin_lit ⟨by omega, by omega⟩) dX5_nextFrom_21 ?_
      refine lv_topi (fun z21 e_z21 => ?_)
      refine lv_iconst (v := (-1)) hx hb dX5_nextFrom_22 (by decide) ?_
      refine lv_iload_n hx hb dX5_nextFrom_23 rfl (lv_at hl 1 rfl) ?_
      refine lv_bipush (v := 32) hx hb dX5_nextFrom_24 (by decide) ?_
      refine lv_irem hx hb dX5_nextFrom_26 (by decide) ?_
      refine lv_topi (fun z26 e_z26 => ?_)
      have b_ := zrem rfl zk_32 e_z26 (by omega) (by decide)
      refine lv_ishl hx hb dX5_nextFrom_27 ?_
      refine lv_topi (fun z27 e_z27 => ?_)
      have b_ : -2147483648 ≤ z21.toInt ∧ z21.toInt ≤ 2147483647 := ⟨zlo _, zhi _⟩
      have b_ : -2147483648 ≤ z27.toInt ∧ z27.toInt ≤ 2147483647 := ⟨zlo _, zhi _⟩
      refine lv_iand hx hb dX5_nextFrom_28 ?_
      refine lv_topi (fun z28 e_z28 => ?_)
      refine lv_istore_n (lv' := [(2, .int z28), (0, .ref h0), (1, .int x1)]) hx hb dX5_nextFrom_29 rfl hl (by decide) rfl (fun ls hl => ?_)
      refine lv_iload_n hx hb dX5_nextFrom_30 rfl (lv_at hl 2 rfl) ?_
      refine lv_bipush (v := 32) hx hb dX5_nextFrom_31 (by decide) ?_
      refine lv_idiv hx hb dX5_nextFrom_33 (by decide) ?_
      refine lv_topi (fun z33 e_z33 => ?_)
      have b_ := zdiv rfl zk_32 e_z33 (by omega) (by decide)
      refine lv_istore_n (lv' := [(3, .int z33), (2, .int z28), (0, .ref h0), (1, .int x1)]) hx hb dX5_nextFrom_34 rfl hl (by decide) rfl (fun ls hl => ?_)
      refine zcutL (fun u35_ => (26 - (u35_ 1).toInt).toNat) (fun H locs ls u35_ w35_ a35_ b35_ => va_P (dC, dI) vwCl [(h0, .inr (5, mX5 h1)), (h1, .inl (k1, 26, .inl f1))] H ∧ va_D A [(h0, .inr (5, mX5 h1)), (h1, .inl (k1, 26, .inl f1))] ∧ va_S A s.heap H locs ∧ lv_has ls 4 [(0, .ref h0), (1, .int x1), (2, .int (u35_ 0)), (3, .int (u35_ 1))] ∧ (0 ≤ (u35_ 1).toInt ∧ (u35_ 1).toInt ≤ 26)) (fun ls u35_ w35_ => F0 m 35 ls []) 0 0 ?_ (fun hJ35 => ?_)
      · skip
        intro H locs ls u35_ w35_ a35_ b35_ hc hJ35
        obtain ⟨hP, hD, hS, hl, b_⟩ := hc
        refine lv_iload_n hx hb dX5_nextFrom_35 rfl (lv_at hl 3 rfl) ?_
        refine lv_bipush (v := 26) hx hb dX5_nextFrom_36 (by decide) ?_
        refine lv_icmp_ge (tgt := 76) hx hb dX5_nextFrom_38 (by decide) (fun c_ => ?_) (fun c_ => ?_)
        · skip
          have b_ := zT_ge rfl zk_26 c_
          refine lv_iconst (v := (-1)) hx hb dX5_nextFrom_76 (by decide) ?_
          refine W.widen (k := 0) (n := 0) (by decide) (by decide) ?_
          have hpost : ((-1) ≤ ((-1) : Int32).toInt ∧ ((-1) : Int32).toInt ≤ 832) ∧ (((-1) : Int32).toInt ≤ 831) := ⟨⟨by omega, by omega⟩, by omega⟩
          have hP9 : va_P (dC, dI) vwCl [(h0, .inr (5, mX5 h1)), (h1, .inl (k1, 26, .inl f1))] H := hP
          have hD9 : va_D A [(h0, .inr (5, mX5 h1)), (h1, .inl (k1, 26, .inl f1))] := hD
          exact W.iret (v := (-1)) hx hb hr (fun t ht hW => ⟨⟨(-1), (fun _ => 0), rfl, hpost, (fun _ => 0), (fun _ => (fun _ => 0)), (fun _ => (fun _ => 0)), by rw [ht]; exact hP9, va_K.moved hW.alike hK, hD9⟩, hS.F ht⟩) hS.2.2 dX5_nextFrom_77
        · skip
          have b_ := zF_ge rfl zk_26 c_
          refine lv_iload_n hx hb dX5_nextFrom_41 rfl (lv_at hl 3 rfl) ?_
          refine lv_iload_n hx hb dX5_nextFrom_42 rfl (lv_at hl 1 rfl) ?_
          refine lv_bipush (v := 32) hx hb dX5_nextFrom_43 (by decide) ?_
          refine lv_idiv hx hb dX5_nextFrom_45 (by decide) ?_
          refine lv_topi (fun z45 e_z45 => ?_)
          have b_ := zdiv rfl zk_32 e_z45 (by omega) (by decide)
          refine zcutW (fun H locs ls u56_ w56_ a56_ b56_ => va_P (dC, dI) vwCl [(h0, .inr (5, mX5 h1)), (h1, .inl (k1, 26, .inl f1))] H ∧ va_D A [(h0, .inr (5, mX5 h1)), (h1, .inl (k1, 26, .inl f1))] ∧ va_S A s.heap H locs ∧ lv_has ls 4 [(0, .ref h0), (1, .int x1), (2, .int (u56_ 0)), (3, .int (u35_ 1))] ∧ (0 ≤ z45.toInt ∧ z45.toInt ≤ 25)) (fun ls u56_ w56_ => F0 m 56 ls []) 0 0 ?_ (fun hJ56 => ?_)
          · skip
            intro H locs ls u56_ w56_ a56_ b56_ hc
            obtain ⟨hP, hD, hS, hl, b_⟩ := hc
            refine lv_iload_n hx hb dX5_nextFrom_56 rfl (lv_at hl 2 rfl) ?_
            have b_ : -2147483648 ≤ (u56_ 0).toInt ∧ (u56_ 0).toInt ≤ 2147483647 := ⟨zlo _, zhi _⟩
            refine lv_if_eq (tgt := 70) hx hb dX5_nextFrom_57 (by decide) (fun c_ => ?_) (fun c_ => ?_)
            · skip
              have b_ := zT_eq rfl zk_0 c_
              obtain ⟨z70, e_z70⟩ : ∃ z : Int32, z = (u35_ 1) + Int32.ofInt 1 := ⟨_, rfl⟩
              have b_ := zadd (x := (u35_ 1)) (y := Int32.ofInt 1) rfl (show (Int32.ofInt 1).toInt = 1 from by decide) e_z70 (by omega) (by omega)
              refine lv_iinc (v := z70) (lv' := [(3, .int z70), (0, .ref h0), (1, .int x1), (2, .int (u56_ 0))]) hx hb dX5_nextFrom_70 hl (k := 3) rfl e_z70.symm (by decide) rfl (fun ls hl => ?_)
              refine lv_goto (tgt := 35) hx hb dX5_nextFrom_73 (by decide) ?_
              have hc : va_P (dC, dI) vwCl [(h0, .inr (5, mX5 h1)), (h1, .inl (k1, 26, .inl f1))] H ∧ va_D A [(h0, .inr (5, mX5 h1)), (h1, .inl (k1, 26, .inl f1))] ∧ va_S A s.heap H locs ∧ lv_has ls 4 [(0, .ref h0), (1, .int x1), (2, .int (u56_ 0)), (3, .int z70)] ∧ (0 ≤ z70.toInt ∧ z70.toInt ≤ 26) := ⟨hP, hD, hS, lv_sub hl [1, 2, 3, 0] rfl, ⟨by omega, by omega⟩⟩
              exact hJ35 H locs ls (fun i => ([(u56_ 0), z70] : List (Int32)).getD i 0) (fun _ => 0) (fun _ => (fun _ => 0)) (fun _ => (fun _ => 0)) hc (show (26 - z70.toInt).toNat < (26 - (u35_ 1).toInt).toNat from by omega)
            · skip
              have b_ := zF_eq rfl zk_0 c_
              refine lv_iload_n hx hb dX5_nextFrom_60 rfl (lv_at hl 3 rfl) ?_
              refine lv_bipush (v := 32) hx hb dX5_nextFrom_61 (by decide) ?_
              refine lv_imul hx hb dX5_nextFrom_63 ?_
              refine lv_topi (fun z63 e_z63 => ?_)
              have b_ := zmul rfl zk_32 e_z63 (by omega) (by omega)
              refine lv_iload_n hx hb dX5_nextFrom_64 rfl (lv_at hl 2 rfl) ?_
              have hPc := hP.sub (ws' := []) [] rfl
              have hDc := hD.sub (ws' := []) [] (by decide) rfl
              have hKc := hK.sub (tys' := []) [] rfl
              have hFc := va_free (wc := []) hD hS hA [] rfl
              refine va_calli (va_runS (As := [.int (u56_ 0)]) (rest := [.int z63]) ⟨hx, hb, hml, hown, hG⟩ (sJ6_numberOfTrailingZeros_0f7a4_0 l dC dI adK adV H.size (u56_ 0)) (va_cwS 1 hG (zgS zw116 zw117 zw48 zw118) rfl rfl rfl (by decide +kernel) ⟨Nat.le_of_ble_eq_true rfl, Nat.le_of_ble_eq_true rfl⟩) ⟨zPc_blind, zPc_pre hPc hKc hDc hE hS hFc hZ⟩ rfl rfl hl.1 rfl (lv_room (Nat.le_of_ble_eq_true rfl)) dX5_nextFrom_65 ⟨Nat.le_of_ble_eq_true rfl, Nat.le_of_ble_eq_true rfl⟩) hS (fun q _ h => hFc q h) hFc (fun r65_ u65_ t H1 locs ht hvm hw hB hz1 hk1 hS => ?_)
              have hw : (0 ≤ r65_.toInt ∧ r65_.toInt ≤ 32) ∧ ((u56_ 0).toInt ≠ 0 → r65_.toInt ≤ 31) := hw
              obtain ⟨b_, hX65_0⟩ := hw
              obtain ⟨w65_, a65_, b65_, hP1, hK1, hD1⟩ := hB
              rw [ht] at hP1
              obtain ⟨hP, hD⟩ := va_join (wr := [(h0, .inr (5, mX5 h1)), (h1, .inl (k1, 26, .inl f1))]) (w1 := []) hP hD [] [0, 1] rfl rfl (by decide) (by decide) hk1 hFc hP1 hD1
              have hP : va_P (dC, dI) vwCl [(h0, .inr (5, mX5 h1)), (h1, .inl (k1, 26, .inl f1))] H1 := hP.sub [0, 1] rfl
              have hD : va_D A [(h0, .inr (5, mX5 h1)), (h1, .inl (k1, 26, .inl f1))] := hD.sub [0, 1] (by decide) rfl
              generalize H1 = H at hP hS ⊢
              clear hz1
              refine lv_iadd hx hb dX5_nextFrom_68 ?_
              refine lv_topi (fun z68 e_z68 => ?_)
              have b_ := zadd rfl rfl e_z68 (by omega) (by omega)
              refine W.widen (k := 0) (n := 0) (by decide) (by decide) ?_
              have hpost : ((-1) ≤ z68.toInt ∧ z68.toInt ≤ 832) ∧ (z68.toInt ≤ 831) := ⟨⟨by omega, by omega⟩, by omega⟩
              have hP9 : va_P (dC, dI) vwCl [(h0, .inr (5, mX5 h1)), (h1, .inl (k1, 26, .inl f1))] H := hP
              have hD9 : va_D A [(h0, .inr (5, mX5 h1)), (h1, .inl (k1, 26, .inl f1))] := hD
              exact W.iret (v := z68) hx hb hr (fun t ht hW => ⟨⟨z68, (fun _ => 0), rfl, hpost, (fun _ => 0), (fun _ => (fun _ => 0)), (fun _ => (fun _ => 0)), by rw [ht]; exact hP9, va_K.moved hW.alike hK, hD9⟩, hS.F ht⟩) hS.2.2 dX5_nextFrom_69
          · skip
            refine lv_icmp_le (tgt := 56) hx hb dX5_nextFrom_46 (by decide) (fun c_ => ?_) (fun c_ => ?_)
            · skip
              have b_ := zT_le rfl rfl c_
              have hc : va_P (dC, dI) vwCl [(h0, .inr (5, mX5 h1)), (h1, .inl (k1, 26, .inl f1))] H ∧ va_D A [(h0, .inr (5, mX5 h1)), (h1, .inl (k1, 26, .inl f1))] ∧ va_S A s.heap H locs ∧ lv_has ls 4 [(0, .ref h0), (1, .int x1), (2, .int (u35_ 0)), (3, .int (u35_ 1))] ∧ (0 ≤ z45.toInt ∧ z45.toInt ≤ 25) := ⟨hP, hD, hS, lv_sub hl [0, 1, 2, 3] rfl, ⟨by omega, by omega⟩⟩
              exact hJ56 H locs ls (fun i => ([(u35_ 0)] : List (Int32)).getD i 0) (fun _ => 0) (fun _ => (fun _ => 0)) (fun _ => (fun _ => 0)) hc
            · skip
              have b_ := zF_le rfl rfl c_
              refine lv_aload_n hx hb dX5_nextFrom_49 rfl (lv_at hl 0 rfl) ?_
              refine va_get (D := (dC, dI)) (ci := 5) (v := .ref h1) (C := RX5) (T := TX5) (N := 1) hx hb hG zuX5 hown hK hP 0 rfl rfl 0 (by decide) (hG _ zw115) (fun _ h9 => h9) rfl dX5_nextFrom_50 ?_
              refine lv_iload_n hx hb dX5_nextFrom_53 rfl (lv_at hl 3 rfl) ?_
              refine va_iald hx hb hK hP 1 0 rfl rfl (zin_lit ⟨by omega, by omega⟩) dX5_nextFrom_54 ?_
              refine lv_topi (fun z54 e_z54 => ?_)
              refine lv_istore_n (lv' := [(2, .int z54), (0, .ref h0), (1, .int x1), (3, .int (u35_ 1))]) hx hb dX5_nextFrom_55 rfl hl (by decide) rfl (fun ls hl => ?_)
              have hc : va_P (dC, dI) vwCl [(h0, .inr (5, mX5 h1)), (h1, .inl (k1, 26, .inl f1))] H ∧ va_D A [(h0, .inr (5, mX5 h1)), (h1, .inl (k1, 26, .inl f1))] ∧ va_S A s.heap H locs ∧ lv_has ls 4 [(0, .ref h0), (1, .int x1), (2, .int z54), (3, .int (u35_ 1))] ∧ (0 ≤ z45.toInt ∧ z45.toInt ≤ 25) := ⟨hP, hD, hS, lv_sub hl [1, 2, 0, 3] rfl, ⟨by omega, by omega⟩⟩
              exact hJ56 H locs ls (fun i => ([z54] : List (Int32)).getD i 0) (fun _ => 0) (fun _ => (fun _ => 0)) (fun _ => (fun _ => 0)) hc
      · skip
        have b_ : -2147483648 ≤ z28.toInt ∧ z28.toInt ≤ 2147483647 := ⟨zlo _, zhi _⟩
        have hc : va_P (dC, dI) vwCl [(h0, .inr (5, mX5 h1)), (h1, .inl (k1, 26, .inl f1))] s.heap ∧ va_D A [(h0, .inr (5, mX5 h1)), (h1, .inl (k1, 26, .inl f1))] ∧ va_S A s.heap s.heap [] ∧ lv_has ls 4 [(0, .ref h0), (1, .int x1), (2, .int z28), (3, .int z33)] ∧ (0 ≤ z33.toInt ∧ z33.toInt ≤ 26) := ⟨hP, hD, hS, lv_sub hl [2, 3, 1, 0] rfl, ⟨by omega, by omega⟩⟩
        exact hJ35 s.heap [] ls (fun i => ([z28, z33] : List (Int32)).getD i 0) (fun _ => 0) (fun _ => (fun _ => 0)) (fun _ => (fun _ => 0)) hc
    · skip
      have b_ := zF_lt rfl zk_832 c_
      refine lv_iconst (v := (-1)) hx hb dX5_nextFrom_11 (by decide) ?_
      refine W.widen (k := 0) (n := 0) (by decide) (by decide) ?_
      have hpost : ((-1) ≤ ((-1) : Int32).toInt ∧ ((-1) : Int32).toInt ≤ 832) ∧ (((-1) : Int32).toInt ≤ 831) := ⟨⟨by omega, by omega⟩, by omega⟩
      have hP9 : va_P (dC, dI) vwCl [(h0, .inr (5, mX5 h1)), (h1, .inl (k1, 26, .inl f1))] s.heap := hP
      have hD9 : va_D A [(h0, .inr (5, mX5 h1)), (h1, .inl (k1, 26, .inl f1))] := hD
      exact W.iret (v := (-1)) hx hb hr (fun t ht hW => ⟨⟨(-1), (fun _ => 0), rfl, hpost, (fun _ => 0), (fun _ => (fun _ => 0)), (fun _ => (fun _ => 0)), by rw [ht]; exact hP9, va_K.moved hW.alike hK, hD9⟩, hS.F ht⟩) hS.2.2 dX5_nextFrom_12
set_option maxHeartbeats 8000000 in
set_option maxRecDepth 100000 in
theorem sX5_tenFrom_0 (l : Launch) (dC : Nat → ClassId) (dI : Nat → Nat → Nat) (adK adV : Nat → Nat) (h0 : Nat) (h1 : Nat) (k1 : ClassId) (sz : Nat) (f1 : Nat → Int32) (x1 : Int32) (hx1 : 0 ≤ x1.toInt ∧ x1.toInt ≤ 831) : Met l yX5_tenFrom (zw yX5_tenFrom cX5_tenFrom 5 (some .int)) { frames := 0, cells := 0, slots := 0, locals := 0 } (zPc dC dI adK adV [.ref h0, .int x1] sz [(h0, .inr (5, mX5 h1)), (h1, .inl (k1, 26, .inl f1))] [(k1, .int)]) (va_Qi (fun (r : Int32) (u : Nat → Int32) => (0 ≤ r.toInt ∧ r.toInt ≤ 1023)) (fun (u : Nat → Int32) (t : State) => ∃ (ww : Nat → Int64) (aa : Nat → Nat → Int32) (bb : Nat → Nat → Int64), va_P (dC, dI) vwCl [(h0, .inr (5, mX5 h1)), (h1, .inl (k1, 26, .inl f1))] t.heap ∧ va_K (dC, dI) vwCl [(k1, .int)] t ∧ va_D (va_A [(h0, .inr (5, mX5 h1)), (h1, .inl (k1, 26, .inl f1))] sz) [(h0, .inr (5, mX5 h1)), (h1, .inl (k1, 26, .inl f1))]) (va_A [(h0, .inr (5, mX5 h1)), (h1, .inl (k1, 26, .inl f1))] sz)) 0 0 (va_A [(h0, .inr (5, mX5 h1)), (h1, .inl (k1, 26, .inl f1))] sz) := by
  refine Met.ofW (cc := cX5_tenFrom) (maxL := 5) (ret := (some .int)) (by decide) rfl ?_
  intro p e s m args below meth c s₁ B hml hv
  obtain ⟨rfl, hsz, hP, hK, hD0, hE, hZ⟩ := hv
  have hx := B.exec
  have hb := B.bytes
  have hr := B.returns
  have hG : ∀ w ∈ zG, w.before _ s = true := fun w h => atoms_spec (ws := (zw yX5_tenFrom cX5_tenFrom 5 (some .int))) B.pre w (List.mem_cons_of_mem _ h)
  have hown : s.vm.findClass RX5 = some m.cls := findClass_of_methodNamed B.named
  have hlocks := B.notSynchronized
  subst hsz
  have hD := hD0.self (sz := s.heap.size)
  generalize hAe : va_A [(h0, .inr (5, mX5 h1)), (h1, .inl (k1, 26, .inl f1))] s.heap.size = A at hD hZ ⊢
  have hA : ∀ q : Nat, s.heap.size ≤ q → A q := fun q h => by rw [← hAe]; exact Or.inr h
  have hS : va_S A s.heap s.heap [] := va_S.rf
  have hl := lv_entry ([.ref h0, .int x1]) (n := 5) (Nat.le_of_ble_eq_true rfl)
  rw [lg_entry_eq]
  generalize (lg_sl ([.ref h0, .int x1]) ++ List.replicate (5 - (lg_sl ([.ref h0, .int x1])).length) Slot.unset).toArray = ls at hl ⊢
  have hl : lv_has ls 5 [(0, .ref h0), (1, .int x1)] := hl
  refine lv_iload_n hx hb dX5_tenFrom_0 rfl (lv_at hl 1 rfl) ?_
  refine lv_bipush (v := 32) hx hb dX5_tenFrom_1 (by decide) ?_
  refine lv_idiv hx hb dX5_tenFrom_3 (by decide) ?_
  refine lv_topi (fun z3 e_z3 => ?_)
  have b_ := zdiv rfl zk_32 e_z3 (by omega) (by decide)
  refine lv_istore_n (lv' := [(2, .int z3), (0, .ref h0), (1, .int x1)]) hx hb dX5_tenFrom_4 rfl hl (by decide) rfl (fun ls hl => ?_)
  refine lv_aload_n hx hb dX5_tenFrom_5 rfl (lv_at hl 1 rfl) ?_
  refine va_get (D := (dC, dI)) (ci := 5) (v := .ref h1) (C := RX5) (T := TX5) (N := 1) hx hb hG zuX5 hown hK hP 0 rfl rfl 0 (by decide) (hG _ zw115) (fun _ h9 => h9) rfl dX5_tenFrom_6 ?_
  refine lv_iload_n hx hb dX5_tenFrom_9 rfl (lv_at hl 0 rfl) ?_
  refine va_iald hx hb hK hP 1 0 rfl rfl (zin_lit ⟨by omega, by omega⟩) dX5_tenFrom_10 ?_
  refine lv_topi (fun z10 e_z10 => ?_)
  refine lv_i2l hx hb dX5_tenFrom_11 rfl ?_
  refine lv_topl (fun y_11 e_y_11 => ?_)
  refine lv_ldc2 hx hb hown (hG _ zw119) dX5_tenFrom_12 ?_
  refine lv_land hx hb dX5_tenFrom_15 ?_
  refine lv_topl (fun y_15 e_y_15 => ?_)
  refine lv_lstore_n (lv' := [(3, .long y_15), (2, .int z3), (0, .ref h0), (1, .int x1)]) hx hb dX5_tenFrom_16 rfl hl (by decide) rfl (fun ls hl => ?_)
  refine lv_iload_n hx hb dX5_tenFrom_17 rfl (lv_at hl 1 rfl) ?_
  refine lv_iconst (v := 1) hx hb dX5_tenFrom_18 (by decide) ?_
  refine lv_iadd hx hb dX5_tenFrom_19 ?_
  refine lv_topi (fun z19 e_z19 => ?_)
  have b_ := zadd rfl zk_1 e_z19 (by omega) (by omega)
  refine lv_bipush (v := 26) hx hb dX5_tenFrom_20 (by decide) ?_
  refine zcutW (fun H locs ls u40_ w40_ a40_ b40_ => va_P (dC, dI) vwCl [(h0, .inr (5, mX5 h1)), (h1, .inl (k1, 26, .inl f1))] H ∧ va_D A [(h0, .inr (5, mX5 h1)), (h1, .inl (k1, 26, .inl f1))] ∧ va_S A s.heap H locs ∧ lv_has ls 5 [(0, .ref h0), (1, .int x1), (2, .int z3), (3, .long (w40_ 0))] ∧ (1 ≤ z19.toInt ∧ z19.toInt ≤ 26) ∧ (0 ≤ z3.toInt ∧ z3.toInt ≤ 25)) (fun ls u40_ w40_ => F0 m 40 ls []) 0 0 ?_ (fun hJ40 => ?_)
  · skip
    intro H locs ls u40_ w40_ a40_ b40_ hc
    obtain ⟨hP, hD, hS, hl, b_, b_⟩ := hc
    refine lv_lload_n hx hb dX5_tenFrom_40 rfl (lv_at hl 3 rfl) ?_
    refine lv_iload_n hx hb dX5_tenFrom_41 rfl (lv_at hl 1 rfl) ?_
    refine lv_bipush (v := 32) hx hb dX5_tenFrom_42 (by decide) ?_
    refine lv_irem hx hb dX5_tenFrom_44 (by decide) ?_
    refine lv_topi (fun z44 e_z44 => ?_)
    have b_ := zrem rfl zk_32 e_z44 (by omega) (by decide)
    refine lv_lushr hx hb dX5_tenFrom_45 rfl ?_
    refine lv_topl (fun y_45 e_y_45 => ?_)
    refine lv_l2i hx hb dX5_tenFrom_46 rfl ?_
    refine lv_topi (fun z46 e_z46 => ?_)
    refine lv_sipush (v := 1023) hx hb dX5_tenFrom_47 (by decide) ?_
    have b_ : -2147483648 ≤ z46.toInt ∧ z46.toInt ≤ 2147483647 := ⟨zlo _, zhi _⟩
    refine lv_iand hx hb dX5_tenFrom_50 ?_
    refine lv_topi (fun z50 e_z50 => ?_)
    have b_ := zand (x := z46) zk_1023 e_z50 (by decide)
    refine W.widen (k := 0) (n := 0) (by decide) (by decide) ?_
    have hpost : (0 ≤ z50.toInt ∧ z50.toInt ≤ 1023) := ⟨by omega, by omega⟩
    have hP9 : va_P (dC, dI) vwCl [(h0, .inr (5, mX5 h1)), (h1, .inl (k1, 26, .inl f1))] H := hP
    have hD9 : va_D A [(h0, .inr (5, mX5 h1)), (h1, .inl (k1, 26, .inl f1))] := hD
    exact W.iret (v := z50) hx hb hr (fun t ht hW => ⟨⟨z50, (fun _ => 0), rfl, hpost, (fun _ => 0), (fun _ => (fun _ => 0)), (fun _ => (fun _ => 0)), by rw [ht]; exact hP9, va_K.moved hW.alike hK, hD9⟩, hS.F ht⟩) hS.2.2 dX5_tenFrom_51
  · skip
    refine lv_icmp_ge (tgt := 40) hx hb dX5_tenFrom_22 (by decide) (fun c_ => ?_) (fun c_ => ?_)
    · skip
      have b_ := zT_ge rfl zk_26 c_
      have hc : va_P (dC, dI) vwCl [(h0, .inr (5, mX5 h1)), (h1, .inl (k1, 26, .inl f1))] s.heap ∧ va_D A [(h0, .inr (5, mX5 h1)), (h1, .inl (k1, 26, .inl f1))] ∧ va_S A s.heap s.heap [] ∧ lv_has ls 5 [(0, .ref h0), (1, .int x1), (2, .int z3), (3, .long y_15)] ∧ (1 ≤ z19.toInt ∧ z19.toInt ≤ 26) ∧ (0 ≤ z3.toInt ∧ z3.toInt ≤ 25) := ⟨hP, hD, hS, lv_sub hl [2, 3, 1, 0] rfl, ⟨by omega, by omega⟩, ⟨by omega, by omega⟩⟩
      exact hJ40 s.heap [] ls (fun _ => 0) (fun i => ([y_15] : List (Int64)).getD i 0) (fun _ => (fun _ => 0)) (fun _ => (fun _ => 0)) hc
    · skip
      have b_ := zF_ge rfl zk_26 c_
      refine lv_lload_n hx hb dX5_tenFrom_25 rfl (lv_at hl 0 rfl) ?_
      refine lv_aload_n hx hb dX5_tenFrom_26 rfl (lv_at hl 2 rfl) ?_
      refine va_get (D := (dC, dI)) (ci := 5) (v := .ref h1) (C := RX5) (T := TX5) (N := 1) hx hb hG zuX5 hown hK hP 0 rfl rfl 0 (by decide) (hG _ zw115) (fun _ h9 => h9) rfl dX5_tenFrom_27 ?_
      refine lv_iload_n hx hb dX5_tenFrom_30 rfl (lv_at hl 1 rfl) ?_
      refine lv_iconst (v := 1) hx hb dX5_tenFrom_31 (by decide) ?_
      refine lv_iadd hx hb dX5_tenFrom_32 ?_
      refine lv_topi (fun z32 e_z32 => ?_)
      have b_ := zadd rfl zk_1 e_z32 (by omega) (by omega)
      refine va_iald hx hb hK hP 1 0 rfl rfl (zin_lit ⟨by omega, by omega⟩) dX5_tenFrom_33 ?_
      refine lv_topi (fun z33 e_z33 => ?_)
      refine lv_i2l hx hb dX5_tenFrom_34 rfl ?_
      refine lv_topl (fun y_34 e_y_34 => ?_)
      refine lv_bipush (v := 32) hx hb dX5_tenFrom_35 (by decide) ?_
      refine lv_lshl hx hb dX5_tenFrom_37 rfl ?_
      refine lv_topl (fun y_37 e_y_37 => ?_)
      refine lv_lor hx hb dX5_tenFrom_38 ?_
      refine lv_topl (fun y_38 e_y_38 => ?_)
      refine lv_lstore_n (lv' := [(3, .long y_38), (2, .int z3), (0, .ref h0), (1, .int x1)]) hx hb dX5_tenFrom_39 rfl hl (by decide) rfl (fun ls hl => ?_)
      have hc : va_P (dC, dI) vwCl [(h0, .inr (5, mX5 h1)), (h1, .inl (k1, 26, .inl f1))] s.heap ∧ va_D A [(h0, .inr (5, mX5 h1)), (h1, .inl (k1, 26, .inl f1))] ∧ va_S A s.heap s.heap [] ∧ lv_has ls 5 [(0, .ref h0), (1, .int x1), (2, .int z3), (3, .long y_38)] ∧ (1 ≤ z19.toInt ∧ z19.toInt ≤ 26) ∧ (0 ≤ z3.toInt ∧ z3.toInt ≤ 25) := ⟨hP, hD, hS, lv_sub hl [2, 3, 1, 0] rfl, ⟨by omega, by omega⟩, ⟨by omega, by omega⟩⟩
      exact hJ40 s.heap [] ls (fun _ => 0) (fun i => ([y_38] : List (Int64)).getD i 0) (fun _ => (fun _ => 0)) (fun _ => (fun _ => 0)) hc
set_option maxHeartbeats 8000000 in
set_option maxRecDepth 100000 in
theorem sJ6_bitCount_0f7a4_0 (l : Launch) (dC : Nat → ClassId) (dI : Nat → Nat → Nat) (adK adV : Nat → Nat) (sz : Nat) (x0 : Int32) : Met l yJ6_bitCount_0f7a4 (zw yJ6_bitCount_0f7a4 cJ6_bitCount_0f7a4 1 (some .int)) { frames := 0, cells := 0, slots := 0, locals := 0 } (zPc dC dI adK adV [.int x0] sz [] []) (va_Qi (fun (r : Int32) (u : Nat → Int32) => (0 ≤ r.toInt ∧ r.toInt ≤ 63)) (fun (u : Nat → Int32) (t : State) => ∃ (ww : Nat → Int64) (aa : Nat → Nat → Int32) (bb : Nat → Nat → Int64), va_P (dC, dI) vwCl [] t.heap ∧ va_K (dC, dI) vwCl [] t ∧ va_D (va_A [] sz) []) (va_A [] sz)) 0 0 (va_A [] sz) := by
  refine Met.ofW (cc := cJ6_bitCount_0f7a4) (maxL := 1) (ret := (some .int)) (by decide) rfl ?_
  intro p e s m args below meth c s₁ B hml hv
  obtain ⟨rfl, hsz, hP, hK, hD0, hE, hZ⟩ := hv
  have hx := B.exec
  have hb := B.bytes
  have hr := B.returns
  have hG : ∀ w ∈ zG, w.before _ s = true := fun w h => atoms_spec (ws := (zw yJ6_bitCount_0f7a4 cJ6_bitCount_0f7a4 1 (some .int))) B.pre w (List.mem_cons_of_mem _ h)
  have hown : s.vm.findClass RJ6 = some m.cls := findClass_of_methodNamed B.named
  have hlocks := B.notSynchronized
  subst hsz
  have hD := hD0.self (sz := s.heap.size)
  generalize hAe : va_A [] s.heap.size = A at hD hZ ⊢
  have hA : ∀ q : Nat, s.heap.size ≤ q → A q := fun q h => by rw [← hAe]; exact Or.inr h
  have hS : va_S A s.heap s.heap [] := va_S.rf
  have hl := lv_entry ([.int x0]) (n := 1) (Nat.le_of_ble_eq_true rfl)
  rw [lg_entry_eq]
  generalize (lg_sl ([.int x0]) ++ List.replicate (1 - (lg_sl ([.int x0])).length) Slot.unset).toArray = ls at hl ⊢
  have hl : lv_has ls 1 [(0, .int x0)] := hl
  refine lv_iload_n hx hb dJ6_bitCount_0f7a4_0 rfl (lv_at hl 0 rfl) ?_
  refine lv_iload_n hx hb dJ6_bitCount_0f7a4_1 rfl (lv_at hl 0 rfl) ?_
  refine lv_iconst (v := 1) hx hb dJ6_bitCount_0f7a4_2 (by decide) ?_
  have b_ : -2147483648 ≤ x0.toInt ∧ x0.toInt ≤ 2147483647 := ⟨zlo _, zhi _⟩
  refine lv_iushr hx hb dJ6_bitCount_0f7a4_3 rfl ?_
  refine lv_topi (fun z3 e_z3 => ?_)
  have b_ := zushrB1 (x := x0) e_z3
  refine lv_ldcw hx hb hown (hG _ zw120) dJ6_bitCount_0f7a4_4 ?_
  refine lv_iand hx hb dJ6_bitCount_0f7a4_7 ?_
  refine lv_topi (fun z7 e_z7 => ?_)
  have b_ := zand (x := z3) zk_1431655765 e_z7 (by decide)
  refine lv_isub hx hb dJ6_bitCount_0f7a4_8 ?_
  refine lv_topi (fun z8 e_z8 => ?_)
  refine lv_istore_n (lv' := [(0, .int z8)]) hx hb dJ6_bitCount_0f7a4_9 rfl hl (by decide) rfl (fun ls hl => ?_)
  refine lv_iload_n hx hb dJ6_bitCount_0f7a4_10 rfl (lv_at hl 0 rfl) ?_
  refine lv_ldcw hx hb hown (hG _ zw121) dJ6_bitCount_0f7a4_11 ?_
  have b_ : -2147483648 ≤ z8.toInt ∧ z8.toInt ≤ 2147483647 := ⟨zlo _, zhi _⟩
  refine lv_iand hx hb dJ6_bitCount_0f7a4_14 ?_
  refine lv_topi (fun z14 e_z14 => ?_)
  have b_ := zand (x := z8) zk_858993459 e_z14 (by decide)
  refine lv_iload_n hx hb dJ6_bitCount_0f7a4_15 rfl (lv_at hl 0 rfl) ?_
  refine lv_iconst (v := 2) hx hb dJ6_bitCount_0f7a4_16 (by decide) ?_
  refine lv_iushr hx hb dJ6_bitCount_0f7a4_17 rfl ?_
  refine lv_topi (fun z17 e_z17 => ?_)
  have b_ := zushrB2 (x := z8) e_z17
  refine lv_ldcw hx hb hown (hG _ zw121) dJ6_bitCount_0f7a4_18 ?_
  refine lv_iand hx hb dJ6_bitCount_0f7a4_21 ?_
  refine lv_topi (fun z21 e_z21 => ?_)
  have b_ := zand (x := z17) zk_858993459 e_z21 (by decide)
  refine lv_iadd hx hb dJ6_bitCount_0f7a4_22 ?_
  refine lv_topi (fun z22 e_z22 => ?_)
  have b_ := zadd rfl rfl e_z22 (by omega) (by omega)
  refine lv_istore_n (lv' := [(0, .int z22)]) hx hb dJ6_bitCount_0f7a4_23 rfl hl (by decide) rfl (fun ls hl => ?_)
  refine lv_iload_n hx hb dJ6_bitCount_0f7a4_24 rfl (lv_at hl 0 rfl) ?_
  refine lv_iload_n hx hb dJ6_bitCount_0f7a4_25 rfl (lv_at hl 0 rfl) ?_
  refine lv_iconst (v := 4) hx hb dJ6_bitCount_0f7a4_26 (by decide) ?_
  refine lv_iushr hx hb dJ6_bitCount_0f7a4_27 rfl ?_
  refine lv_topi (fun z27 e_z27 => ?_)
  have b_ := zushr4 rfl e_z27 (by omega)
  refine lv_iadd hx hb dJ6_bitCount_0f7a4_28 ?_
  refine lv_topi (fun z28 e_z28 => ?_)
  have b_ := zadd rfl rfl e_z28 (by omega) (by omega)
  refine lv_ldcw hx hb hown (hG _ zw122) dJ6_bitCount_0f7a4_29 ?_
  refine lv_iand hx hb dJ6_bitCount_0f7a4_32 ?_
  refine lv_topi (fun z32 e_z32 => ?_)
  have b_ := zand (x := z28) zk_252645135 e_z32 (by decide)
  refine lv_istore_n (lv' := [(0, .int z32)]) hx hb dJ6_bitCount_0f7a4_33 rfl hl (by decide) rfl (fun ls hl => ?_)
  refine lv_iload_n hx hb dJ6_bitCount_0f7a4_34 rfl (lv_at hl 0 rfl) ?_
  refine lv_iload_n hx hb dJ6_bitCount_0f7a4_35 rfl (lv_at hl 0 rfl) ?_
  refine lv_bipush (v := 8) hx hb dJ6_bitCount_0f7a4_36 (by decide) ?_
  refine lv_iushr hx hb dJ6_bitCount_0f7a4_38 rfl ?_
  refine lv_topi (fun z38 e_z38 => ?_)
  have b_ := zushr8 rfl e_z38 (by omega)
  refine lv_iadd hx hb dJ6_bitCount_0f7a4_39 ?_
  refine lv_topi (fun z39 e_z39 => ?_)
  have b_ := zadd rfl rfl e_z39 (by omega) (by omega)
  refine lv_istore_n (lv' := [(0, .int z39)]) hx hb dJ6_bitCount_0f7a4_40 rfl hl (by decide) rfl (fun ls hl => ?_)
  refine lv_iload_n hx hb dJ6_bitCount_0f7a4_41 rfl (lv_at hl 0 rfl) ?_
  refine lv_iload_n hx hb dJ6_bitCount_0f7a4_42 rfl (lv_at hl 0 rfl) ?_
  refine lv_bipush (v := 16) hx hb dJ6_bitCount_0f7a4_43 (by decide) ?_
  refine lv_iushr hx hb dJ6_bitCount_0f7a4_45 rfl ?_
  refine lv_topi (fun z45 e_z45 => ?_)
  have b_ := zushr16 rfl e_z45 (by omega)
  refine lv_iadd hx hb dJ6_bitCount_0f7a4_46 ?_
  refine lv_topi (fun z46 e_z46 => ?_)
  have b_ := zadd rfl rfl e_z46 (by omega) (by omega)
  refine lv_istore_n (lv' := [(0, .int z46)]) hx hb dJ6_bitCount_0f7a4_47 rfl hl (by decide) rfl (fun ls hl => ?_)
  refine lv_iload_n hx hb dJ6_bitCount_0f7a4_48 rfl (lv_at hl 0 rfl) ?_
  refine lv_bipush (v := 63) hx hb dJ6_bitCount_0f7a4_49 (by decide) ?_
  refine lv_iand hx hb dJ6_bitCount_0f7a4_51 ?_
  refine lv_topi (fun z51 e_z51 => ?_)
  have b_ := zand (x := z46) zk_63 e_z51 (by decide)
  refine W.widen (k := 0) (n := 0) (by decide) (by decide) ?_
  have hpost : (0 ≤ z51.toInt ∧ z51.toInt ≤ 63) := ⟨by omega, by omega⟩
  have hP9 : va_P (dC, dI) vwCl [] s.heap := hP
  have hD9 : va_D A [] := hD
  exact W.iret (v := z51) hx hb hr (fun t ht hW => ⟨⟨z51, (fun _ => 0), rfl, hpost, (fun _ => 0), (fun _ => (fun _ => 0)), (fun _ => (fun _ => 0)), by rw [ht]; exact hP9, va_K.moved hW.alike hK, hD9⟩, hS.F ht⟩) hS.2.2 dJ6_bitCount_0f7a4_52
set_option maxHeartbeats 8000000 in
set_option maxRecDepth 100000 in
theorem sX5_fullest_0 (l : Launch) (dC : Nat → ClassId) (dI : Nat → Nat → Nat) (adK adV : Nat → Nat) (h0 : Nat) (h1 : Nat) (k1 : ClassId) (sz : Nat) (f1 : Nat → Int32) : Met l yX5_fullest (zw yX5_fullest cX5_fullest 6 (some .int)) { frames := 2, cells := 0, slots := 0, locals := 44 } (zPc dC dI adK adV [.ref h0] sz [(h0, .inr (5, mX5 h1)), (h1, .inl (k1, 26, .inl f1))] [(k1, .int)]) (va_Qi (fun (r : Int32) (u : Nat → Int32) => ((-1) ≤ r.toInt ∧ r.toInt ≤ 832)) (fun (u : Nat → Int32) (t : State) => ∃ (ww : Nat → Int64) (aa : Nat → Nat → Int32) (bb : Nat → Nat → Int64), va_P (dC, dI) vwCl [(h0, .inr (5, mX5 h1)), (h1, .inl (k1, 26, .inl f1))] t.heap ∧ va_K (dC, dI) vwCl [(k1, .int)] t ∧ va_D (va_A [(h0, .inr (5, mX5 h1)), (h1, .inl (k1, 26, .inl f1))] sz) [(h0, .inr (5, mX5 h1)), (h1, .inl (k1, 26, .inl f1))]) (va_A [(h0, .inr (5, mX5 h1)), (h1, .inl (k1, 26, .inl f1))] sz)) 0 0 (va_A [(h0, .inr (5, mX5 h1)), (h1, .inl (k1, 26, .inl f1))] sz) := by
  refine Met.ofW (cc := cX5_fullest) (maxL := 6) (ret := (some .int)) (by decide) rfl ?_
  intro p e s m args below meth c s₁ B hml hv
  obtain ⟨rfl, hsz, hP, hK, hD0, hE, hZ⟩ := hv
  have hx := B.exec
  have hb := B.bytes
  have hr := B.returns
  have hG : ∀ w ∈ zG, w.before _ s = true := fun w h => atoms_spec (ws := (zw yX5_fullest cX5_fullest 6 (some .int))) B.pre w (List.mem_cons_of_mem _ h)
  have hown : s.vm.findClass RX5 = some m.cls := findClass_of_methodNamed B.named
  have hlocks := B.notSynchronized
  subst hsz
  have hD := hD0.self (sz := s.heap.size)
  generalize hAe : va_A [(h0, .inr (5, mX5 h1)), (h1, .inl (k1, 26, .inl f1))] s.heap.size = A at hD hZ ⊢
  have hA : ∀ q : Nat, s.heap.size ≤ q → A q := fun q h => by rw [← hAe]; exact Or.inr h
  have hS : va_S A s.heap s.heap [] := va_S.rf
  have hl := lv_entry ([.ref h0]) (n := 6) (Nat.le_of_ble_eq_true rfl)
  rw [lg_entry_eq]
  generalize (lg_sl ([.ref h0]) ++ List.replicate (6 - (lg_sl ([.ref h0])).length) Slot.unset).toArray = ls at hl ⊢
  have hl : lv_has ls 6 [(0, .ref h0)] := hl
  have b_ := zk_m1
  have b_ := zk_0
  refine lv_iconst (v := (-1)) hx hb dX5_fullest_0 (by decide) ?_
  refine lv_istore_n (lv' := [(1, .int (-1)), (0, .ref h0)]) hx hb dX5_fullest_1 rfl hl (by decide) rfl (fun ls hl => ?_)
  refine lv_iconst (v := 0) hx hb dX5_fullest_2 (by decide) ?_
  refine lv_istore_n (lv' := [(2, .int 0), (1, .int (-1)), (0, .ref h0)]) hx hb dX5_fullest_3 rfl hl (by decide) rfl (fun ls hl => ?_)
  refine lv_aload_n hx hb dX5_fullest_4 rfl (lv_at hl 2 rfl) ?_
  refine lv_iconst (v := 0) hx hb dX5_fullest_5 (by decide) ?_
  have hPc := hP.sub (ws' := [(h0, .inr (5, mX5 h1)), (h1, .inl (k1, 26, .inl f1))]) [0, 1] rfl
  have hDc := hD.sub (ws' := [(h0, .inr (5, mX5 h1)), (h1, .inl (k1, 26, .inl f1))]) [0, 1] (by decide) rfl
  have hKc := hK.sub (tys' := [(k1, .int)]) [0] rfl
  have hFc := va_free (wc := [(h0, .inr (5, mX5 h1)), (h1, .inl (k1, 26, .inl f1))]) hD hS hA [0, 1] rfl
  refine va_calli (va_runV (As := [.int 0]) (rest := []) ⟨hx, hb, hml, hown, hG⟩ (sX5_nextFrom_0 l dC dI adK adV h0 h1 k1 s.heap.size f1 0) (cwV 1 hG (zgV zw123 zw124 zw125 zw126 zw127) rfl rfl rfl (by decide +kernel) ⟨Nat.le_of_ble_eq_true rfl, Nat.le_of_ble_eq_true rfl⟩) ⟨zPc_blind, va_recv hKc hPc (ci := 5) (q0 := 0) rfl rfl, zPc_pre hPc hKc hDc hE hS hFc hZ⟩ rfl rfl hl.1 rfl (lv_room (Nat.le_of_ble_eq_true rfl)) dX5_fullest_6 ⟨Nat.le_of_ble_eq_true rfl, Nat.le_of_ble_eq_true rfl⟩) hS (fun q _ h => hFc q h) hFc (fun r6_ u6_ t H1 locs ht hvm hw hB hz1 hk1 hS => ?_)
  have hw : ((-1) ≤ r6_.toInt ∧ r6_.toInt ≤ 832) ∧ (r6_.toInt ≤ 831) := hw
  obtain ⟨b_, hX6_0⟩ := hw
  obtain ⟨w6_, a6_, b6_, hP1, hK1, hD1⟩ := hB
  rw [ht] at hP1
  obtain ⟨hP, hD⟩ := va_join (wr := []) (w1 := [(h0, .inr (5, mX5 h1)), (h1, .inl (k1, 26, .inl f1))]) hP hD [0, 1] [] rfl rfl (by decide) (by decide) hk1 hFc hP1 hD1
  have hP : va_P (dC, dI) vwCl [(h0, .inr (5, mX5 h1)), (h1, .inl (k1, 26, .inl f1))] H1 := hP.sub [0, 1] rfl
  have hD : va_D A [(h0, .inr (5, mX5 h1)), (h1, .inl (k1, 26, .inl f1))] := hD.sub [0, 1] (by decide) rfl
  generalize H1 = H at hP hS ⊢
  clear hz1
  refine lv_istore_n (lv' := [(3, .int r6_), (2, .int 0), (1, .int (-1)), (0, .ref h0)]) hx hb dX5_fullest_9 rfl hl (by decide) rfl (fun ls hl => ?_)
  refine lv_iconst (v := 0) hx hb dX5_fullest_10 (by decide) ?_
  refine lv_istore (lv' := [(4, .int 0), (3, .int r6_), (2, .int 0), (1, .int (-1)), (0, .ref h0)]) hx hb dX5_fullest_11 hl (by decide) rfl (fun ls hl => ?_)
  refine zcutL (fun u13_ => (832 - (u13_ 3).toInt).toNat) (fun H locs ls u13_ w13_ a13_ b13_ => va_P (dC, dI) vwCl [(h0, .inr (5, mX5 h1)), (h1, .inl (k1, 26, .inl f1))] H ∧ va_D A [(h0, .inr (5, mX5 h1)), (h1, .inl (k1, 26, .inl f1))] ∧ va_S A s.heap H locs ∧ lv_has ls 6 [(0, .ref h0), (1, .int (u13_ 0)), (2, .int (u13_ 1)), (3, .int (u13_ 2)), (4, .int (u13_ 3))] ∧ ((-1) ≤ (u13_ 0).toInt ∧ (u13_ 0).toInt ≤ 832) ∧ (0 ≤ (u13_ 1).toInt ∧ (u13_ 1).toInt ≤ 63) ∧ ((-1) ≤ (u13_ 2).toInt ∧ (u13_ 2).toInt ≤ 831) ∧ (0 ≤ (u13_ 3).toInt ∧ (u13_ 3).toInt ≤ 832)) (fun ls u13_ w13_ => F0 m 13 ls []) 0 0 ?_ (fun hJ13 => ?_)
  · skip
    intro H locs ls u13_ w13_ a13_ b13_ hc hJ13
    obtain ⟨hP, hD, hS, hl, b_, b_, b_, b_⟩ := hc
    refine lv_iload hx hb dX5_fullest_13 (lv_at hl 4 rfl) ?_
    refine lv_sipush (v := 832) hx hb dX5_fullest_15 (by decide) ?_
    refine lv_icmp_ge (tgt := 61) hx hb dX5_fullest_18 (by decide) (fun c_ => ?_) (fun c_ => ?_)
    · skip
      have b_ := zT_ge rfl zk_832 c_
      refine lv_iload_n hx hb dX5_fullest_61 rfl (lv_at hl 1 rfl) ?_
      refine W.widen (k := 0) (n := 0) (by decide) (by decide) ?_
      have hpost : ((-1) ≤ (u13_ 0).toInt ∧ (u13_ 0).toInt ≤ 832) := ⟨by omega, by omega⟩
      have hP9 : va_P (dC, dI) vwCl [(h0, .inr (5, mX5 h1)), (h1, .inl (k1, 26, .inl f1))] H := hP
      have hD9 : va_D A [(h0, .inr (5, mX5 h1)), (h1, .inl (k1, 26, .inl f1))] := hD
      exact W.iret (v := (u13_ 0)) hx hb hr (fun t ht hW => ⟨⟨(u13_ 0), (fun _ => 0), rfl, hpost, (fun _ => 0), (fun _ => (fun _ => 0)), (fun _ => (fun _ => 0)), by rw [ht]; exact hP9, va_K.moved hW.alike hK, hD9⟩, hS.F ht⟩) hS.2.2 dX5_fullest_62
    · skip
      have b_ := zF_ge rfl zk_832 c_
      refine lv_iload_n hx hb dX5_fullest_21 rfl (lv_at hl 3 rfl) ?_
      refine lv_iconst (v := (-1)) hx hb dX5_fullest_22 (by decide) ?_
      refine lv_icmp_eq (tgt := 61) hx hb dX5_fullest_23 (by decide) (fun c_ => ?_) (fun c_ => ?_)
      · skip
        have b_ := zT_eq rfl zk_m1 c_
        refine lv_iload_n hx hb dX5_fullest_61 rfl (lv_at hl 1 rfl) ?_
        refine W.widen (k := 0) (n := 0) (by decide) (by decide) ?_
        have hpost : ((-1) ≤ (u13_ 0).toInt ∧ (u13_ 0).toInt ≤ 832) := ⟨by omega, by omega⟩
        have hP9 : va_P (dC, dI) vwCl [(h0, .inr (5, mX5 h1)), (h1, .inl (k1, 26, .inl f1))] H := hP
        have hD9 : va_D A [(h0, .inr (5, mX5 h1)), (h1, .inl (k1, 26, .inl f1))] := hD
        exact W.iret (v := (u13_ 0)) hx hb hr (fun t ht hW => ⟨⟨(u13_ 0), (fun _ => 0), rfl, hpost, (fun _ => 0), (fun _ => (fun _ => 0)), (fun _ => (fun _ => 0)), by rw [ht]; exact hP9, va_K.moved hW.alike hK, hD9⟩, hS.F ht⟩) hS.2.2 dX5_fullest_62
      · skip
        have b_ := zF_eq rfl zk_m1 c_
        refine lv_aload_n hx hb dX5_fullest_26 rfl (lv_at hl 0 rfl) ?_
        refine lv_iload_n hx hb dX5_fullest_27 rfl (lv_at hl 3 rfl) ?_
        have hPc := hP.sub (ws' := [(h0, .inr (5, mX5 h1)), (h1, .inl (k1, 26, .inl f1))]) [0, 1] rfl
        have hDc := hD.sub (ws' := [(h0, .inr (5, mX5 h1)), (h1, .inl (k1, 26, .inl f1))]) [0, 1] (by decide) rfl
        have hKc := hK.sub (tys' := [(k1, .int)]) [0] rfl
        have hFc := va_free (wc := [(h0, .inr (5, mX5 h1)), (h1, .inl (k1, 26, .inl f1))]) hD hS hA [0, 1] rfl
        refine va_calli (va_runV (As := [.int (u13_ 2)]) (rest := []) ⟨hx, hb, hml, hown, hG⟩ (sX5_tenFrom_0 l dC dI adK adV h0 h1 k1 H.size f1 (u13_ 2) ⟨show (0 : Int) ≤ ((u13_ 2) : Int32).toInt from by omega, show ((u13_ 2) : Int32).toInt ≤ (831 : Int) from by omega⟩) (cwV 1 hG (zgV zw128 zw129 zw130 zw126 zw131) rfl rfl rfl (by decide +kernel) ⟨Nat.le_of_ble_eq_true rfl, Nat.le_of_ble_eq_true rfl⟩) ⟨zPc_blind, va_recv hKc hPc (ci := 5) (q0 := 0) rfl rfl, zPc_pre hPc hKc hDc hE hS hFc hZ⟩ rfl rfl hl.1 rfl (lv_room (Nat.le_of_ble_eq_true rfl)) dX5_fullest_28 ⟨Nat.le_of_ble_eq_true rfl, Nat.le_of_ble_eq_true rfl⟩) hS (fun q _ h => hFc q h) hFc (fun r28_ u28_ t H1 locs ht hvm hw hB hz1 hk1 hS => ?_)
        have hw : (0 ≤ r28_.toInt ∧ r28_.toInt ≤ 1023) := hw
        have b_ := hw
        obtain ⟨w28_, a28_, b28_, hP1, hK1, hD1⟩ := hB
        rw [ht] at hP1
        obtain ⟨hP, hD⟩ := va_join (wr := []) (w1 := [(h0, .inr (5, mX5 h1)), (h1, .inl (k1, 26, .inl f1))]) hP hD [0, 1] [] rfl rfl (by decide) (by decide) hk1 hFc hP1 hD1
        have hP : va_P (dC, dI) vwCl [(h0, .inr (5, mX5 h1)), (h1, .inl (k1, 26, .inl f1))] H1 := hP.sub [0, 1] rfl
        have hD : va_D A [(h0, .inr (5, mX5 h1)), (h1, .inl (k1, 26, .inl f1))] := hD.sub [0, 1] (by decide) rfl
        generalize H1 = H at hP hS ⊢
        clear hz1
        have hPc := hP.sub (ws' := []) [] rfl
        have hDc := hD.sub (ws' := []) [] (by decide) rfl
        have hKc := hK.sub (tys' := []) [] rfl
        have hFc := va_free (wc := []) hD hS hA [] rfl
        refine va_calli (va_runS (As := [.int r28_]) (rest := []) ⟨hx, hb, hml, hown, hG⟩ (sJ6_bitCount_0f7a4_0 l dC dI adK adV H.size r28_) (va_cwS 1 hG (zgS zw132 zw133 zw48 zw134) rfl rfl rfl (by decide +kernel) ⟨Nat.le_of_ble_eq_true rfl, Nat.le_of_ble_eq_true rfl⟩) ⟨zPc_blind, zPc_pre hPc hKc hDc hE hS hFc hZ⟩ rfl rfl hl.1 rfl (lv_room (Nat.le_of_ble_eq_true rfl)) dX5_fullest_31 ⟨Nat.le_of_ble_eq_true rfl, Nat.le_of_ble_eq_true rfl⟩) hS (fun q _ h => hFc q h) hFc (fun r31_ u31_ t H1 locs ht hvm hw hB hz1 hk1 hS => ?_)
        have hw : (0 ≤ r31_.toInt ∧ r31_.toInt ≤ 63) := hw
        have b_ := hw
        obtain ⟨w31_, a31_, b31_, hP1, hK1, hD1⟩ := hB
        rw [ht] at hP1
        obtain ⟨hP, hD⟩ := va_join (wr := [(h0, .inr (5, mX5 h1)), (h1, .inl (k1, 26, .inl f1))]) (w1 := []) hP hD [] [0, 1] rfl rfl (by decide) (by decide) hk1 hFc hP1 hD1
        have hP : va_P (dC, dI) vwCl [(h0, .inr (5, mX5 h1)), (h1, .inl (k1, 26, .inl f1))] H1 := hP.sub [0, 1] rfl
        have hD : va_D A [(h0, .inr (5, mX5 h1)), (h1, .inl (k1, 26, .inl f1))] := hD.sub [0, 1] (by decide) rfl
        generalize H1 = H at hP hS ⊢
        clear hz1
        refine lv_istore (lv' := [(5, .int r31_), (0, .ref h0), (1, .int (u13_ 0)), (2, .int (u13_ 1)), (3, .int (u13_ 2)), (4, .int (u13_ 3))]) hx hb dX5_fullest_34 hl (by decide) rfl (fun ls hl => ?_)
        refine lv_iload hx hb dX5_fullest_36 (lv_at hl 0 rfl) ?_
        refine lv_iload_n hx hb dX5_fullest_38 rfl (lv_at hl 3 rfl) ?_
        refine zcutW (fun H locs ls u47_ w47_ a47_ b47_ => va_P (dC, dI) vwCl [(h0, .inr (5, mX5 h1)), (h1, .inl (k1, 26, .inl f1))] H ∧ va_D A [(h0, .inr (5, mX5 h1)), (h1, .inl (k1, 26, .inl f1))] ∧ va_S A s.heap H locs ∧ lv_has ls 6 [(0, .ref h0), (1, .int (u47_ 0)), (2, .int (u47_ 1)), (3, .int (u13_ 2)), (4, .int (u13_ 3)), (5, .int r31_)] ∧ ((-1) ≤ (u47_ 0).toInt ∧ (u47_ 0).toInt ≤ 832) ∧ (0 ≤ (u47_ 1).toInt ∧ (u47_ 1).toInt ≤ 63) ∧ (0 ≤ r31_.toInt ∧ r31_.toInt ≤ 63) ∧ (0 ≤ (u13_ 1).toInt ∧ (u13_ 1).toInt ≤ 63)) (fun ls u47_ w47_ => F0 m 47 ls []) 0 0 ?_ (fun hJ47 => ?_)
        · skip
          intro H locs ls u47_ w47_ a47_ b47_ hc
          obtain ⟨hP, hD, hS, hl, b_, b_, b_, b_⟩ := hc
          refine lv_aload_n hx hb dX5_fullest_47 rfl (lv_at hl 0 rfl) ?_
          refine lv_iload_n hx hb dX5_fullest_48 rfl (lv_at hl 3 rfl) ?_
          refine lv_iconst (v := 1) hx hb dX5_fullest_49 (by decide) ?_
          refine lv_iadd hx hb dX5_fullest_50 ?_
          refine lv_topi (fun z50 e_z50 => ?_)
          have b_ := zadd rfl zk_1 e_z50 (by omega) (by omega)
          have hPc := hP.sub (ws' := [(h0, .inr (5, mX5 h1)), (h1, .inl (k1, 26, .inl f1))]) [0, 1] rfl
          have hDc := hD.sub (ws' := [(h0, .inr (5, mX5 h1)), (h1, .inl (k1, 26, .inl f1))]) [0, 1] (by decide) rfl
          have hKc := hK.sub (tys' := [(k1, .int)]) [0] rfl
          have hFc := va_free (wc := [(h0, .inr (5, mX5 h1)), (h1, .inl (k1, 26, .inl f1))]) hD hS hA [0, 1] rfl
          refine va_calli (va_runV (As := [.int z50]) (rest := []) ⟨hx, hb, hml, hown, hG⟩ (sX5_nextFrom_0 l dC dI adK adV h0 h1 k1 H.size f1 z50) (cwV 1 hG (zgV zw123 zw124 zw125 zw126 zw127) rfl rfl rfl (by decide +kernel) ⟨Nat.le_of_ble_eq_true rfl, Nat.le_of_ble_eq_true rfl⟩) ⟨zPc_blind, va_recv hKc hPc (ci := 5) (q0 := 0) rfl rfl, zPc_pre hPc hKc hDc hE hS hFc hZ⟩ rfl rfl hl.1 rfl (lv_room (Nat.le_of_ble_eq_true rfl)) dX5_fullest_51 ⟨Nat.le_of_ble_eq_true rfl, Nat.le_of_ble_eq_true rfl⟩) hS (fun q _ h => hFc q h) hFc (fun r51_ u51_ t H1 locs ht hvm hw hB hz1 hk1 hS => ?_)
          have hw : ((-1) ≤ r51_.toInt ∧ r51_.toInt ≤ 832) ∧ (r51_.toInt ≤ 831) := hw
          obtain ⟨b_, hX51_0⟩ := hw
          obtain ⟨w51_, a51_, b51_, hP1, hK1, hD1⟩ := hB
          rw [ht] at hP1
          obtain ⟨hP, hD⟩ := va_join (wr := []) (w1 := [(h0, .inr (5, mX5 h1)), (h1, .inl (k1, 26, .inl f1))]) hP hD [0, 1] [] rfl rfl (by decide) (by decide) hk1 hFc hP1 hD1
          have hP : va_P (dC, dI) vwCl [(h0, .inr (5, mX5 h1)), (h1, .inl (k1, 26, .inl f1))] H1 := hP.sub [0, 1] rfl
          have hD : va_D A [(h0, .inr (5, mX5 h1)), (h1, .inl (k1, 26, .inl f1))] := hD.sub [0, 1] (by decide) rfl
          generalize H1 = H at hP hS ⊢
          clear hz1
          refine lv_istore_n (lv' := [(3, .int r51_), (0, .ref h0), (1, .int (u47_ 0)), (2, .int (u47_ 1)), (4, .int (u13_ 3)), (5, .int r31_)]) hx hb dX5_fullest_54 rfl hl (by decide) rfl (fun ls hl => ?_)
          obtain ⟨z55, e_z55⟩ : ∃ z : Int32, z = (u13_ 3) + Int32.ofInt 1 := ⟨_, rfl⟩
          have b_ := zadd (x := (u13_ 3)) (y := Int32.ofInt 1) rfl (show (Int32.ofInt 1).toInt = 1 from by decide) e_z55 (by omega) (by omega)
          refine lv_iinc (v := z55) (lv' := [(4, .int z55), (3, .int r51_), (0, .ref h0), (1, .int (u47_ 0)), (2, .int (u47_ 1)), (5, .int r31_)]) hx hb dX5_fullest_55 hl (k := 4) rfl e_z55.symm (by decide) rfl (fun ls hl => ?_)
          refine lv_goto (tgt := 13) hx hb dX5_fullest_58 (by decide) ?_
          have hc : va_P (dC, dI) vwCl [(h0, .inr (5, mX5 h1)), (h1, .inl (k1, 26, .inl f1))] H ∧ va_D A [(h0, .inr (5, mX5 h1)), (h1, .inl (k1, 26, .inl f1))] ∧ va_S A s.heap H locs ∧ lv_has ls 6 [(0, .ref h0), (1, .int (u47_ 0)), (2, .int (u47_ 1)), (3, .int r51_), (4, .int z55)] ∧ ((-1) ≤ (u47_ 0).toInt ∧ (u47_ 0).toInt ≤ 832) ∧ (0 ≤ (u47_ 1).toInt ∧ (u47_ 1).toInt ≤ 63) ∧ ((-1) ≤ r51_.toInt ∧ r51_.toInt ≤ 831) ∧ (0 ≤ z55.toInt ∧ z55.toInt ≤ 832) := ⟨hP, hD, hS, lv_sub hl [2, 3, 4, 1, 0] rfl, ⟨by omega, by omega⟩, ⟨by omega, by omega⟩, ⟨by omega, by omega⟩, ⟨by omega, by omega⟩⟩
          exact hJ13 H locs ls (fun i => ([(u47_ 0), (u47_ 1), r51_, z55] : List (Int32)).getD i 0) (fun _ => 0) (fun _ => (fun _ => 0)) (fun _ => (fun _ => 0)) hc (show (832 - z55.toInt).toNat < (832 - (u13_ 3).toInt).toNat from by omega)
        · skip
          refine lv_icmp_le (tgt := 47) hx hb dX5_fullest_39 (by decide) (fun c_ => ?_) (fun c_ => ?_)
          · skip
            have b_ := zT_le rfl rfl c_
            have hc : va_P (dC, dI) vwCl [(h0, .inr (5, mX5 h1)), (h1, .inl (k1, 26, .inl f1))] H ∧ va_D A [(h0, .inr (5, mX5 h1)), (h1, .inl (k1, 26, .inl f1))] ∧ va_S A s.heap H locs ∧ lv_has ls 6 [(0, .ref h0), (1, .int (u13_ 0)), (2, .int (u13_ 1)), (3, .int (u13_ 2)), (4, .int (u13_ 3)), (5, .int r31_)] ∧ ((-1) ≤ (u13_ 0).toInt ∧ (u13_ 0).toInt ≤ 832) ∧ (0 ≤ (u13_ 1).toInt ∧ (u13_ 1).toInt ≤ 63) ∧ (0 ≤ r31_.toInt ∧ r31_.toInt ≤ 63) ∧ (0 ≤ (u13_ 1).toInt ∧ (u13_ 1).toInt ≤ 63) := ⟨hP, hD, hS, lv_sub hl [1, 2, 3, 4, 5, 0] rfl, ⟨by omega, by omega⟩, ⟨by omega, by omega⟩, ⟨by omega, by omega⟩, ⟨by omega, by omega⟩⟩
            exact hJ47 H locs ls (fun i => ([(u13_ 0), (u13_ 1)] : List (Int32)).getD i 0) (fun _ => 0) (fun _ => (fun _ => 0)) (fun _ => (fun _ => 0)) hc
          · skip
            have b_ := zF_le rfl rfl c_
            refine lv_iload hx hb dX5_fullest_42 (lv_at hl 0 rfl) ?_
            refine lv_istore_n (lv' := [(2, .int r31_), (5, .int r31_), (0, .ref h0), (1, .int (u13_ 0)), (3, .int (u13_ 2)), (4, .int (u13_ 3))]) hx hb dX5_fullest_44 rfl hl (by decide) rfl (fun ls hl => ?_)
            refine lv_iload_n hx hb dX5_fullest_45 rfl (lv_at hl 4 rfl) ?_
            refine lv_istore_n (lv' := [(1, .int (u13_ 2)), (2, .int r31_), (5, .int r31_), (0, .ref h0), (3, .int (u13_ 2)), (4, .int (u13_ 3))]) hx hb dX5_fullest_46 rfl hl (by decide) rfl (fun ls hl => ?_)
            have hc : va_P (dC, dI) vwCl [(h0, .inr (5, mX5 h1)), (h1, .inl (k1, 26, .inl f1))] H ∧ va_D A [(h0, .inr (5, mX5 h1)), (h1, .inl (k1, 26, .inl f1))] ∧ va_S A s.heap H locs ∧ lv_has ls 6 [(0, .ref h0), (1, .int (u13_ 2)), (2, .int r31_), (3, .int (u13_ 2)), (4, .int (u13_ 3)), (5, .int r31_)] ∧ ((-1) ≤ (u13_ 2).toInt ∧ (u13_ 2).toInt ≤ 832) ∧ (0 ≤ r31_.toInt ∧ r31_.toInt ≤ 63) ∧ (0 ≤ r31_.toInt ∧ r31_.toInt ≤ 63) ∧ (0 ≤ (u13_ 1).toInt ∧ (u13_ 1).toInt ≤ 63) := ⟨hP, hD, hS, lv_sub hl [3, 0, 1, 4, 5, 2] rfl, ⟨by omega, by omega⟩, ⟨by omega, by omega⟩, ⟨by omega, by omega⟩, ⟨by omega, by omega⟩⟩
            exact hJ47 H locs ls (fun i => ([(u13_ 2), r31_] : List (Int32)).getD i 0) (fun _ => 0) (fun _ => (fun _ => 0)) (fun _ => (fun _ => 0)) hc
  · skip
    have hc : va_P (dC, dI) vwCl [(h0, .inr (5, mX5 h1)), (h1, .inl (k1, 26, .inl f1))] H ∧ va_D A [(h0, .inr (5, mX5 h1)), (h1, .inl (k1, 26, .inl f1))] ∧ va_S A s.heap H locs ∧ lv_has ls 6 [(0, .ref h0), (1, .int (-1)), (2, .int 0), (3, .int r6_), (4, .int 0)] ∧ ((-1) ≤ ((-1) : Int32).toInt ∧ ((-1) : Int32).toInt ≤ 832) ∧ (0 ≤ (0 : Int32).toInt ∧ (0 : Int32).toInt ≤ 63) ∧ ((-1) ≤ r6_.toInt ∧ r6_.toInt ≤ 831) ∧ (0 ≤ (0 : Int32).toInt ∧ (0 : Int32).toInt ≤ 832) := ⟨hP, hD, hS, lv_sub hl [4, 3, 2, 1, 0] rfl, ⟨by omega, by omega⟩, ⟨by omega, by omega⟩, ⟨by omega, by omega⟩, ⟨by omega, by omega⟩⟩
    exact hJ13 H locs ls (fun i => ([(-1), 0, r6_, 0] : List (Int32)).getD i 0) (fun _ => 0) (fun _ => (fun _ => 0)) (fun _ => (fun _ => 0)) hc
