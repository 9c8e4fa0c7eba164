set_option maxHeartbeats 8000000 in
set_option maxRecDepth 100000 in
theorem sX9_inToken_0 (l : Launch) (dC : Nat → ClassId) (dI : Nat → Nat → Nat) (adK adV : Nat → Nat) (h0 : Nat) (h1 : Nat) (h2 : Nat) (k1 : ClassId) (sz : Nat) (v0 : Nat → Int32) (f1 : Nat → Int32) (x1 : Int32) (hv0 : zR rg_Tape v0) : Met l yX9_inToken (zw yX9_inToken cX9_inToken 3 (some .boolean)) { frames := 0, cells := 0, slots := 0, locals := 0 } (zPc dC dI adK adV [.ref h0, .int x1] sz [(h0, .inr (9, mX9 h1 h2 v0)), (h1, .inl (k1, 600, .inl f1))] [(k1, .byte)]) (va_Qi (fun (r : Int32) (u : Nat → Int32) => (0 ≤ r.toInt ∧ r.toInt ≤ 1) ∧ (r.toInt = 1 → 0 ≤ x1.toInt ∧ x1.toInt < (v0 2).toInt)) (fun (u : Nat → Int32) (t : State) => ∃ (ww : Nat → Int64) (aa : Nat → Nat → Int32) (bb : Nat → Nat → Int64), va_P (dC, dI) vwCl [(h0, .inr (9, mX9 h1 h2 v0)), (h1, .inl (k1, 600, .inl f1))] t.heap ∧ va_K (dC, dI) vwCl [(k1, .byte)] t ∧ va_D (va_A [(h0, .inr (9, mX9 h1 h2 v0)), (h1, .inl (k1, 600, .inl f1))] sz) [(h0, .inr (9, mX9 h1 h2 v0)), (h1, .inl (k1, 600, .inl f1))]) (va_A [(h0, .inr (9, mX9 h1 h2 v0)), (h1, .inl (k1, 600, .inl f1))] sz)) 0 0 (va_A [(h0, .inr (9, mX9 h1 h2 v0)), (h1, .inl (k1, 600, .inl f1))] sz) := by
  refine Met.ofW (cc := cX9_inToken) (maxL := 3) (ret := (some .boolean)) (by decide) rfl ?_
  intro p e s m args below meth c s₁ B hml hv
  obtain ⟨rfl, hsz, hP, hK, hD0, hE, hZ⟩ := hv
  have hx := B.exec
  have hb := B.bytes
  have hr := B.returns
  have hG : ∀ w ∈ zG, w.before _ s = true := fun w h => atoms_spec (ws := (zw yX9_inToken cX9_inToken 3 (some .boolean))) B.pre w (List.mem_cons_of_mem _ h)
  have hown : s.vm.findClass RX9 = some m.cls := findClass_of_methodNamed B.named
  have hlocks := B.notSynchronized
  subst hsz
  have hD := hD0.self (sz := s.heap.size)
  generalize hAe : va_A [(h0, .inr (9, mX9 h1 h2 v0)), (h1, .inl (k1, 600, .inl f1))] s.heap.size = A at hD hZ ⊢
  have hA : ∀ q : Nat, s.heap.size ≤ q → A q := fun q h => by rw [← hAe]; exact Or.inr h
  have hS : va_S A s.heap s.heap [] := va_S.rf
  have hl := lv_entry ([.ref h0, .int x1]) (n := 3) (Nat.le_of_ble_eq_true rfl)
  rw [lg_entry_eq]
  generalize (lg_sl ([.ref h0, .int x1]) ++ List.replicate (3 - (lg_sl ([.ref h0, .int x1])).length) Slot.unset).toArray = ls at hl ⊢
  have hl : lv_has ls 3 [(0, .ref h0), (1, .int x1)] := hl
  have b_ := zk_0
  have b_ := zk_1
  refine lv_iload_n hx hb dX9_inToken_0 rfl (lv_at hl 1 rfl) ?_
  refine lv_if_lt (tgt := 12) hx hb dX9_inToken_1 (by decide) (fun c_ => ?_) (fun c_ => ?_)
  · skip
    have b_ := zT_lt rfl zk_0 c_
    refine lv_iconst (v := 0) hx hb dX9_inToken_12 (by decide) ?_
    refine W.widen (k := 0) (n := 0) (by decide) (by decide) ?_
    have hpost : (0 ≤ (0 : Int32).toInt ∧ (0 : Int32).toInt ≤ 1) ∧ ((0 : Int32).toInt = 1 → 0 ≤ x1.toInt ∧ x1.toInt < (v0 2).toInt) := ⟨⟨by omega, by omega⟩, by omega⟩
    have hP9 : va_P (dC, dI) vwCl [(h0, .inr (9, mX9 h1 h2 v0)), (h1, .inl (k1, 600, .inl f1))] s.heap := hP
    have hD9 : va_D A [(h0, .inr (9, mX9 h1 h2 v0)), (h1, .inl (k1, 600, .inl f1))] := hD
    exact W.zret (v := 0) hx hb hr rfl (fun t ht hW => ⟨⟨0, (fun _ => 0), rfl, hpost, (fun _ => 0), (fun _ => (fun _ => 0)), (fun _ => (fun _ => 0)), by rw [ht]; exact hP9, va_K.moved hW.alike hK, hD9⟩, hS.F ht⟩) hS.2.2 dX9_inToken_13
  · skip
    have b_ := zF_lt rfl zk_0 c_
    refine lv_iload_n hx hb dX9_inToken_4 rfl (lv_at hl 1 rfl) ?_
    refine lv_aload_n hx hb dX9_inToken_5 rfl (lv_at hl 0 rfl) ?_
    have b_ : 0 ≤ (v0 2).toInt ∧ (v0 2).toInt ≤ 600 := hv0 2
    refine va_get (D := (dC, dI)) (ci := 9) (v := .int (v0 2)) (C := RX9) (T := TX9) (N := 4) hx hb hG zuX9 hown hK hP 0 rfl rfl 2 (by decide) (hG _ zw0) (fun _ h9 => h9) rfl dX9_inToken_6 ?_
    refine lv_icmp_lt (tgt := 14) hx hb dX9_inToken_9 (by decide) (fun c_ => ?_) (fun c_ => ?_)
    · skip
      have b_ := zT_lt rfl rfl c_
      refine lv_aload_n hx hb dX9_inToken_14 rfl (lv_at hl 0 rfl) ?_
      refine va_get (D := (dC, dI)) (ci := 9) (v := .ref h1) (C := RX9) (T := TX9) (N := 4) hx hb hG zuX9 hown hK hP 0 rfl rfl 0 (by decide) (hG _ zw1) (fun _ h9 => h9) rfl dX9_inToken_15 ?_
      refine lv_iload_n hx hb dX9_inToken_18 rfl (lv_at hl 1 rfl) ?_
      refine va_bald hx hb hK hP 1 0 rfl rfl (zin_lit ⟨by omega, by omega⟩) dX9_inToken_19 ?_
      refine lv_topi (fun z19 e_z19 => ?_)
      refine lv_istore_n (lv' := [(2, .int z19), (0, .ref h0), (1, .int x1)]) hx hb dX9_inToken_20 rfl hl (by decide) rfl (fun ls hl => ?_)
      refine lv_iload_n hx hb dX9_inToken_21 rfl (lv_at hl 0 rfl) ?_
      refine lv_bipush (v := 97) hx hb dX9_inToken_22 (by decide) ?_
      refine zcutW (fun H locs ls u33_ w33_ a33_ b33_ => va_P (dC, dI) vwCl [(h0, .inr (9, mX9 h1 h2 v0)), (h1, .inl (k1, 600, .inl f1))] H ∧ va_D A [(h0, .inr (9, mX9 h1 h2 v0)), (h1, .inl (k1, 600, .inl f1))] ∧ va_S A s.heap H locs ∧ lv_has ls 3 [(0, .ref h0), (1, .int x1), (2, .int z19)]) (fun ls u33_ w33_ => F0 m 33 ls []) 0 0 ?_ (fun hJ33 => ?_)
      · skip
        intro H locs ls u33_ w33_ a33_ b33_ hc
        obtain ⟨hP, hD, hS, hl⟩ := hc
        refine lv_iload_n hx hb dX9_inToken_33 rfl (lv_at hl 2 rfl) ?_
        refine lv_bipush (v := 65) hx hb dX9_inToken_34 (by decide) ?_
        refine zcutW (fun H locs ls u45_ w45_ a45_ b45_ => va_P (dC, dI) vwCl [(h0, .inr (9, mX9 h1 h2 v0)), (h1, .inl (k1, 600, .inl f1))] H ∧ va_D A [(h0, .inr (9, mX9 h1 h2 v0)), (h1, .inl (k1, 600, .inl f1))] ∧ va_S A s.heap H locs ∧ lv_has ls 3 [(0, .ref h0), (1, .int x1), (2, .int z19)]) (fun ls u45_ w45_ => F0 m 45 ls []) 0 0 ?_ (fun hJ45 => ?_)
        · skip
          intro H locs ls u45_ w45_ a45_ b45_ hc
          obtain ⟨hP, hD, hS, hl⟩ := hc
          refine lv_iload_n hx hb dX9_inToken_45 rfl (lv_at hl 2 rfl) ?_
          refine lv_bipush (v := 48) hx hb dX9_inToken_46 (by decide) ?_
          refine lv_icmp_lt (tgt := 61) hx hb dX9_inToken_48 (by decide) (fun c_ => ?_) (fun c_ => ?_)
          · skip
            have b_ := zT_lt rfl zk_48 c_
            refine lv_iconst (v := 0) hx hb dX9_inToken_61 (by decide) ?_
            refine W.widen (k := 0) (n := 0) (by decide) (by decide) ?_
            have hpost : (0 ≤ (0 : Int32).toInt ∧ (0 : Int32).toInt ≤ 1) ∧ ((0 : Int32).toInt = 1 → 0 ≤ x1.toInt ∧ x1.toInt < (v0 2).toInt) := ⟨⟨by omega, by omega⟩, by omega⟩
            have hP9 : va_P (dC, dI) vwCl [(h0, .inr (9, mX9 h1 h2 v0)), (h1, .inl (k1, 600, .inl f1))] H := hP
            have hD9 : va_D A [(h0, .inr (9, mX9 h1 h2 v0)), (h1, .inl (k1, 600, .inl f1))] := hD
            exact W.zret (v := 0) hx hb hr rfl (fun t ht hW => ⟨⟨0, (fun _ => 0), rfl, hpost, (fun _ => 0), (fun _ => (fun _ => 0)), (fun _ => (fun _ => 0)), by rw [ht]; exact hP9, va_K.moved hW.alike hK, hD9⟩, hS.F ht⟩) hS.2.2 dX9_inToken_62
          · skip
            have b_ := zF_lt rfl zk_48 c_
            refine lv_iload_n hx hb dX9_inToken_51 rfl (lv_at hl 2 rfl) ?_
            refine lv_bipush (v := 57) hx hb dX9_inToken_52 (by decide) ?_
            refine lv_icmp_gt (tgt := 61) hx hb dX9_inToken_54 (by decide) (fun c_ => ?_) (fun c_ => ?_)
            · skip
              have b_ := zT_gt rfl zk_57 c_
              refine lv_iconst (v := 0) hx hb dX9_inToken_61 (by decide) ?_
              refine W.widen (k := 0) (n := 0) (by decide) (by decide) ?_
              have hpost : (0 ≤ (0 : Int32).toInt ∧ (0 : Int32).toInt ≤ 1) ∧ ((0 : Int32).toInt = 1 → 0 ≤ x1.toInt ∧ x1.toInt < (v0 2).toInt) := ⟨⟨by omega, by omega⟩, by omega⟩
              have hP9 : va_P (dC, dI) vwCl [(h0, .inr (9, mX9 h1 h2 v0)), (h1, .inl (k1, 600, .inl f1))] H := hP
              have hD9 : va_D A [(h0, .inr (9, mX9 h1 h2 v0)), (h1, .inl (k1, 600, .inl f1))] := hD
              exact W.zret (v := 0) hx hb hr rfl (fun t ht hW => ⟨⟨0, (fun _ => 0), rfl, hpost, (fun _ => 0), (fun _ => (fun _ => 0)), (fun _ => (fun _ => 0)), by rw [ht]; exact hP9, va_K.moved hW.alike hK, hD9⟩, hS.F ht⟩) hS.2.2 dX9_inToken_62
            · skip
              have b_ := zF_gt rfl zk_57 c_
              refine lv_iconst (v := 1) hx hb dX9_inToken_57 (by decide) ?_
              refine lv_goto (tgt := 62) hx hb dX9_inToken_58 (by decide) ?_
              refine W.widen (k := 0) (n := 0) (by decide) (by decide) ?_
              have hpost : (0 ≤ (1 : Int32).toInt ∧ (1 : Int32).toInt ≤ 1) ∧ ((1 : Int32).toInt = 1 → 0 ≤ x1.toInt ∧ x1.toInt < (v0 2).toInt) := ⟨⟨by omega, by omega⟩, by omega⟩
              have hP9 : va_P (dC, dI) vwCl [(h0, .inr (9, mX9 h1 h2 v0)), (h1, .inl (k1, 600, .inl f1))] H := hP
              have hD9 : va_D A [(h0, .inr (9, mX9 h1 h2 v0)), (h1, .inl (k1, 600, .inl f1))] := hD
              exact W.zret (v := 1) hx hb hr rfl (fun t ht hW => ⟨⟨1, (fun _ => 0), rfl, hpost, (fun _ => 0), (fun _ => (fun _ => 0)), (fun _ => (fun _ => 0)), by rw [ht]; exact hP9, va_K.moved hW.alike hK, hD9⟩, hS.F ht⟩) hS.2.2 dX9_inToken_62
        · skip
          refine lv_icmp_lt (tgt := 45) hx hb dX9_inToken_36 (by decide) (fun c_ => ?_) (fun c_ => ?_)
          · skip
            have b_ := zT_lt rfl zk_65 c_
            have hc : va_P (dC, dI) vwCl [(h0, .inr (9, mX9 h1 h2 v0)), (h1, .inl (k1, 600, .inl f1))] H ∧ va_D A [(h0, .inr (9, mX9 h1 h2 v0)), (h1, .inl (k1, 600, .inl f1))] ∧ va_S A s.heap H locs ∧ lv_has ls 3 [(0, .ref h0), (1, .int x1), (2, .int z19)] := ⟨hP, hD, hS, lv_sub hl [0, 1, 2] rfl⟩
            exact hJ45 H locs ls (fun _ => 0) (fun _ => 0) (fun _ => (fun _ => 0)) (fun _ => (fun _ => 0)) hc
          · skip
            have b_ := zF_lt rfl zk_65 c_
            refine lv_iload_n hx hb dX9_inToken_39 rfl (lv_at hl 2 rfl) ?_
            refine lv_bipush (v := 90) hx hb dX9_inToken_40 (by decide) ?_
            refine lv_icmp_le (tgt := 57) hx hb dX9_inToken_42 (by decide) (fun c_ => ?_) (fun c_ => ?_)
            · skip
              have b_ := zT_le rfl zk_90 c_
              refine lv_iconst (v := 1) hx hb dX9_inToken_57 (by decide) ?_
              refine lv_goto (tgt := 62) hx hb dX9_inToken_58 (by decide) ?_
              refine W.widen (k := 0) (n := 0) (by decide) (by decide) ?_
              have hpost : (0 ≤ (1 : Int32).toInt ∧ (1 : Int32).toInt ≤ 1) ∧ ((1 : Int32).toInt = 1 → 0 ≤ x1.toInt ∧ x1.toInt < (v0 2).toInt) := ⟨⟨by omega, by omega⟩, by omega⟩
              have hP9 : va_P (dC, dI) vwCl [(h0, .inr (9, mX9 h1 h2 v0)), (h1, .inl (k1, 600, .inl f1))] H := hP
              have hD9 : va_D A [(h0, .inr (9, mX9 h1 h2 v0)), (h1, .inl (k1, 600, .inl f1))] := hD
              exact W.zret (v := 1) hx hb hr rfl (fun t ht hW => ⟨⟨1, (fun _ => 0), rfl, hpost, (fun _ => 0), (fun _ => (fun _ => 0)), (fun _ => (fun _ => 0)), by rw [ht]; exact hP9, va_K.moved hW.alike hK, hD9⟩, hS.F ht⟩) hS.2.2 dX9_inToken_62
            · skip
              have b_ := zF_le rfl zk_90 c_
              have hc : va_P (dC, dI) vwCl [(h0, .inr (9, mX9 h1 h2 v0)), (h1, .inl (k1, 600, .inl f1))] H ∧ va_D A [(h0, .inr (9, mX9 h1 h2 v0)), (h1, .inl (k1, 600, .inl f1))] ∧ va_S A s.heap H locs ∧ lv_has ls 3 [(0, .ref h0), (1, .int x1), (2, .int z19)] := ⟨hP, hD, hS, lv_sub hl [0, 1, 2] rfl⟩
              exact hJ45 H locs ls (fun _ => 0) (fun _ => 0) (fun _ => (fun _ => 0)) (fun _ => (fun _ => 0)) hc
      · skip
        refine lv_icmp_lt (tgt := 33) hx hb dX9_inToken_24 (by decide) (fun c_ => ?_) (fun c_ => ?_)
        · skip
          have b_ := zT_lt rfl zk_97 c_
          have hc : va_P (dC, dI) vwCl [(h0, .inr (9, mX9 h1 h2 v0)), (h1, .inl (k1, 600, .inl f1))] s.heap ∧ va_D A [(h0, .inr (9, mX9 h1 h2 v0)), (h1, .inl (k1, 600, .inl f1))] ∧ va_S A s.heap s.heap [] ∧ lv_has ls 3 [(0, .ref h0), (1, .int x1), (2, .int z19)] := ⟨hP, hD, hS, lv_sub hl [1, 2, 0] rfl⟩
          exact hJ33 s.heap [] ls (fun _ => 0) (fun _ => 0) (fun _ => (fun _ => 0)) (fun _ => (fun _ => 0)) hc
        · skip
          have b_ := zF_lt rfl zk_97 c_
          refine lv_iload_n hx hb dX9_inToken_27 rfl (lv_at hl 0 rfl) ?_
          refine lv_bipush (v := 122) hx hb dX9_inToken_28 (by decide) ?_
          refine lv_icmp_le (tgt := 57) hx hb dX9_inToken_30 (by decide) (fun c_ => ?_) (fun c_ => ?_)
          · skip
            have b_ := zT_le rfl zk_122 c_
            refine lv_iconst (v := 1) hx hb dX9_inToken_57 (by decide) ?_
            refine lv_goto (tgt := 62) hx hb dX9_inToken_58 (by decide) ?_
            refine W.widen (k := 0) (n := 0) (by decide) (by decide) ?_
            have hpost : (0 ≤ (1 : Int32).toInt ∧ (1 : Int32).toInt ≤ 1) ∧ ((1 : Int32).toInt = 1 → 0 ≤ x1.toInt ∧ x1.toInt < (v0 2).toInt) := ⟨⟨by omega, by omega⟩, by omega⟩
            have hP9 : va_P (dC, dI) vwCl [(h0, .inr (9, mX9 h1 h2 v0)), (h1, .inl (k1, 600, .inl f1))] s.heap := hP
            have hD9 : va_D A [(h0, .inr (9, mX9 h1 h2 v0)), (h1, .inl (k1, 600, .inl f1))] := hD
            exact W.zret (v := 1) hx hb hr rfl (fun t ht hW => ⟨⟨1, (fun _ => 0), rfl, hpost, (fun _ => 0), (fun _ => (fun _ => 0)), (fun _ => (fun _ => 0)), by rw [ht]; exact hP9, va_K.moved hW.alike hK, hD9⟩, hS.F ht⟩) hS.2.2 dX9_inToken_62
          · skip
            have b_ := zF_le rfl zk_122 c_
            have hc : va_P (dC, dI) vwCl [(h0, .inr (9, mX9 h1 h2 v0)), (h1, .inl (k1, 600, .inl f1))] s.heap ∧ va_D A [(h0, .inr (9, mX9 h1 h2 v0)), (h1, .inl (k1, 600, .inl f1))] ∧ va_S A s.heap s.heap [] ∧ lv_has ls 3 [(0, .ref h0), (1, .int x1), (2, .int z19)] := ⟨hP, hD, hS, lv_sub hl [1, 2, 0] rfl⟩
            exact hJ33 s.heap [] ls (fun _ => 0) (fun _ => 0) (fun _ => (fun _ => 0)) (fun _ => (fun _ => 0)) hc
    · skip
      have b_ := zF_lt rfl rfl c_
      refine lv_iconst (v := 0) hx hb dX9_inToken_12 (by decide) ?_
      refine W.widen (k := 0) (n := 0) (by decide) (by decide) ?_
      have hpost : (0 ≤ (0 : Int32).toInt ∧ (0 : Int32).toInt ≤ 1) ∧ ((0 : Int32).toInt = 1 → 0 ≤ x1.toInt ∧ x1.toInt < (v0 2).toInt) := ⟨⟨by omega, by omega⟩, by omega⟩
      have hP9 : va_P (dC, dI) vwCl [(h0, .inr (9, mX9 h1 h2 v0)), (h1, .inl (k1, 600, .inl f1))] s.heap := hP
      have hD9 : va_D A [(h0, .inr (9, mX9 h1 h2 v0)), (h1, .inl (k1, 600, .inl f1))] := hD
      exact W.zret (v := 0) hx hb hr rfl (fun t ht hW => ⟨⟨0, (fun _ => 0), rfl, hpost, (fun _ => 0), (fun _ => (fun _ => 0)), (fun _ => (fun _ => 0)), by rw [ht]; exact hP9, va_K.moved hW.alike hK, hD9⟩, hS.F ht⟩) hS.2.2 dX9_inToken_13
set_option maxHeartbeats 8000000 in
set_option maxRecDepth 100000 in
theorem sX9_tokenEnd_0 (l : Launch) (dC : Nat → ClassId) (dI : Nat → Nat → Nat) (adK adV : Nat → Nat) (h0 : Nat) (h1 : Nat) (h2 : Nat) (k1 : ClassId) (sz : Nat) (v0 : Nat → Int32) (f1 : Nat → Int32) (x1 : Int32) (hv0 : zR rg_Tape v0) : Met l yX9_tokenEnd (zw yX9_tokenEnd cX9_tokenEnd 3 (some .int)) { frames := 1, cells := 0, slots := 0, locals := 22 } (zPc dC dI adK adV [.ref h0, .int x1] sz [(h0, .inr (9, mX9 h1 h2 v0)), (h1, .inl (k1, 600, .inl f1))] [(k1, .byte)]) (va_Qi (fun (r : Int32) (u : Nat → Int32) => True) (fun (u : Nat → Int32) (t : State) => ∃ (ww : Nat → Int64) (aa : Nat → Nat → Int32) (bb : Nat → Nat → Int64), va_P (dC, dI) vwCl [(h0, .inr (9, mX9 h1 h2 v0)), (h1, .inl (k1, 600, .inl f1))] t.heap ∧ va_K (dC, dI) vwCl [(k1, .byte)] t ∧ va_D (va_A [(h0, .inr (9, mX9 h1 h2 v0)), (h1, .inl (k1, 600, .inl f1))] sz) [(h0, .inr (9, mX9 h1 h2 v0)), (h1, .inl (k1, 600, .inl f1))]) (va_A [(h0, .inr (9, mX9 h1 h2 v0)), (h1, .inl (k1, 600, .inl f1))] sz)) 0 0 (va_A [(h0, .inr (9, mX9 h1 h2 v0)), (h1, .inl (k1, 600, .inl f1))] sz) := by
  refine Met.ofW (cc := cX9_tokenEnd) (maxL := 3) (ret := (some .int)) (by decide) rfl ?_
  intro p e s m args below meth c s₁ B hml hv
  obtain ⟨rfl, hsz, hP, hK, hD0, hE, hZ⟩ := hv
  have hx := B.exec
  have hb := B.bytes
  have hr := B.returns
  have hG : ∀ w ∈ zG, w.before _ s = true := fun w h => atoms_spec (ws := (zw yX9_tokenEnd cX9_tokenEnd 3 (some .int))) B.pre w (List.mem_cons_of_mem _ h)
  have hown : s.vm.findClass RX9 = some m.cls := findClass_of_methodNamed B.named
  have hlocks := B.notSynchronized
  subst hsz
  have hD := hD0.self (sz := s.heap.size)
  generalize hAe : va_A [(h0, .inr (9, mX9 h1 h2 v0)), (h1, .inl (k1, 600, .inl f1))] s.heap.size = A at hD hZ ⊢
  have hA : ∀ q : Nat, s.heap.size ≤ q → A q := fun q h => by rw [← hAe]; exact Or.inr h
  have hS : va_S A s.heap s.heap [] := va_S.rf
  have hl := lv_entry ([.ref h0, .int x1]) (n := 3) (Nat.le_of_ble_eq_true rfl)
  rw [lg_entry_eq]
  generalize (lg_sl ([.ref h0, .int x1]) ++ List.replicate (3 - (lg_sl ([.ref h0, .int x1])).length) Slot.unset).toArray = ls at hl ⊢
  have hl : lv_has ls 3 [(0, .ref h0), (1, .int x1)] := hl
  refine lv_iload_n hx hb dX9_tokenEnd_0 rfl (lv_at hl 1 rfl) ?_
  refine lv_istore_n (lv' := [(2, .int x1), (0, .ref h0), (1, .int x1)]) hx hb dX9_tokenEnd_1 rfl hl (by decide) rfl (fun ls hl => ?_)
  refine zcutL (fun u2_ => (2147483647 - (u2_ 0).toInt).toNat) (fun H locs ls u2_ w2_ a2_ b2_ => va_P (dC, dI) vwCl [(h0, .inr (9, mX9 h1 h2 v0)), (h1, .inl (k1, 600, .inl f1))] H ∧ va_D A [(h0, .inr (9, mX9 h1 h2 v0)), (h1, .inl (k1, 600, .inl f1))] ∧ va_S A s.heap H locs ∧ lv_has ls 3 [(0, .ref h0), (1, .int x1), (2, .int (u2_ 0))]) (fun ls u2_ w2_ => F0 m 2 ls []) 0 0 ?_ (fun hJ2 => ?_)
  · skip
    intro H locs ls u2_ w2_ a2_ b2_ hc hJ2
    obtain ⟨hP, hD, hS, hl⟩ := hc
    refine lv_iload_n hx hb dX9_tokenEnd_2 rfl (lv_at hl 2 rfl) ?_
    refine lv_aload_n hx hb dX9_tokenEnd_3 rfl (lv_at hl 0 rfl) ?_
    have b_ : 0 ≤ (v0 2).toInt ∧ (v0 2).toInt ≤ 600 := hv0 2
    refine va_get (D := (dC, dI)) (ci := 9) (v := .int (v0 2)) (C := RX9) (T := TX9) (N := 4) hx hb hG zuX9 hown hK hP 0 rfl rfl 2 (by decide) (hG _ zw0) (fun _ h9 => h9) rfl dX9_tokenEnd_4 ?_
    refine lv_icmp_ge (tgt := 24) hx hb dX9_tokenEnd_7 (by decide) (fun c_ => ?_) (fun c_ => ?_)
    · skip
      have b_ := zT_ge rfl rfl c_
      refine lv_iload_n hx hb dX9_tokenEnd_24 rfl (lv_at hl 2 rfl) ?_
      refine W.widen (k := 0) (n := 0) (by decide) (by decide) ?_
      have hpost : True := trivial
      have hP9 : va_P (dC, dI) vwCl [(h0, .inr (9, mX9 h1 h2 v0)), (h1, .inl (k1, 600, .inl f1))] H := hP
      have hD9 : va_D A [(h0, .inr (9, mX9 h1 h2 v0)), (h1, .inl (k1, 600, .inl f1))] := hD
      exact W.iret (v := (u2_ 0)) hx hb hr (fun t ht hW => ⟨⟨(u2_ 0), (fun _ => 0), rfl, hpost, (fun _ => 0), (fun _ => (fun _ => 0)), (fun _ => (fun _ => 0)), by rw [ht]; exact hP9, va_K.moved hW.alike hK, hD9⟩, hS.F ht⟩) hS.2.2 dX9_tokenEnd_25
    · skip
      have b_ := zF_ge rfl rfl c_
      refine lv_aload_n hx hb dX9_tokenEnd_10 rfl (lv_at hl 0 rfl) ?_
      refine lv_iload_n hx hb dX9_tokenEnd_11 rfl (lv_at hl 2 rfl) ?_
      have hPc := hP.sub (ws' := [(h0, .inr (9, mX9 h1 h2 v0)), (h1, .inl (k1, 600, .inl f1))]) [0, 1] rfl
      have hDc := hD.sub (ws' := [(h0, .inr (9, mX9 h1 h2 v0)), (h1, .inl (k1, 600, .inl f1))]) [0, 1] (by decide) rfl
      have hKc := hK.sub (tys' := [(k1, .byte)]) [0] rfl
      have hFc := va_free (wc := [(h0, .inr (9, mX9 h1 h2 v0)), (h1, .inl (k1, 600, .inl f1))]) hD hS hA [0, 1] rfl
      refine va_calli (va_runV (As := [.int (u2_ 0)]) (rest := []) ⟨hx, hb, hml, hown, hG⟩ (sX9_inToken_0 l dC dI adK adV h0 h1 h2 k1 H.size v0 f1 (u2_ 0) hv0) (cwV 1 hG (zgV zw2 zw3 zw4 zw5 zw6) rfl rfl rfl (by decide +kernel) ⟨Nat.le_of_ble_eq_true rfl, Nat.le_of_ble_eq_true rfl⟩) ⟨zPc_blind, va_recv hKc hPc (ci := 9) (q0 := 0) rfl rfl, zPc_pre hPc hKc hDc hE hS hFc hZ⟩ rfl rfl hl.1 rfl (lv_room (Nat.le_of_ble_eq_true rfl)) dX9_tokenEnd_12 ⟨Nat.le_of_ble_eq_true rfl, Nat.le_of_ble_eq_true rfl⟩) hS (fun q _ h => hFc q h) hFc (fun r12_ u12_ t H1 locs ht hvm hw hB hz1 hk1 hS => ?_)
      have b_ : (0 ≤ r12_.toInt ∧ r12_.toInt ≤ 1) ∧ (r12_.toInt = 1 → 0 ≤ (u2_ 0).toInt ∧ (u2_ 0).toInt < (v0 2).toInt) := hw
      obtain ⟨w12_, a12_, b12_, hP1, hK1, hD1⟩ := hB
      rw [ht] at hP1
      obtain ⟨hP, hD⟩ := va_join (wr := []) (w1 := [(h0, .inr (9, mX9 h1 h2 v0)), (h1, .inl (k1, 600, .inl f1))]) hP hD [0, 1] [] rfl rfl (by decide) (by decide) hk1 hFc hP1 hD1
      have hP : va_P (dC, dI) vwCl [(h0, .inr (9, mX9 h1 h2 v0)), (h1, .inl (k1, 600, .inl f1))] H1 := hP.sub [0, 1] rfl
      have hD : va_D A [(h0, .inr (9, mX9 h1 h2 v0)), (h1, .inl (k1, 600, .inl f1))] := hD.sub [0, 1] (by decide) rfl
      generalize H1 = H at hP hS ⊢
      refine lv_if_eq (tgt := 24) hx hb dX9_tokenEnd_15 (by decide) (fun c_ => ?_) (fun c_ => ?_)
      · skip
        have b_ := zT_eq rfl zk_0 c_
        refine lv_iload_n hx hb dX9_tokenEnd_24 rfl (lv_at hl 2 rfl) ?_
        refine W.widen (k := 0) (n := 0) (by decide) (by decide) ?_
        have hpost : True := trivial
        have hP9 : va_P (dC, dI) vwCl [(h0, .inr (9, mX9 h1 h2 v0)), (h1, .inl (k1, 600, .inl f1))] H := hP
        have hD9 : va_D A [(h0, .inr (9, mX9 h1 h2 v0)), (h1, .inl (k1, 600, .inl f1))] := hD
        exact W.iret (v := (u2_ 0)) hx hb hr (fun t ht hW => ⟨⟨(u2_ 0), (fun _ => 0), rfl, hpost, (fun _ => 0), (fun _ => (fun _ => 0)), (fun _ => (fun _ => 0)), by rw [ht]; exact hP9, va_K.moved hW.alike hK, hD9⟩, hS.F ht⟩) hS.2.2 dX9_tokenEnd_25
      · skip
        have b_ := zF_eq rfl zk_0 c_
        obtain ⟨z18, e_z18⟩ : ∃ z : Int32, z = (u2_ 0) + Int32.ofInt 1 := ⟨_, rfl⟩
        have b_ := zadd (x := (u2_ 0)) (y := Int32.ofInt 1) rfl (show (Int32.ofInt 1).toInt = 1 from by decide) e_z18 (by omega) (by omega)
        refine lv_iinc (v := z18) (lv' := [(2, .int z18), (0, .ref h0), (1, .int x1)]) hx hb dX9_tokenEnd_18 hl (k := 2) rfl e_z18.symm (by decide) rfl (fun ls hl => ?_)
        refine lv_goto (tgt := 2) hx hb dX9_tokenEnd_21 (by decide) ?_
        have hc : va_P (dC, dI) vwCl [(h0, .inr (9, mX9 h1 h2 v0)), (h1, .inl (k1, 600, .inl f1))] H ∧ va_D A [(h0, .inr (9, mX9 h1 h2 v0)), (h1, .inl (k1, 600, .inl f1))] ∧ va_S A s.heap H locs ∧ lv_has ls 3 [(0, .ref h0), (1, .int x1), (2, .int z18)] := ⟨hP, hD, hS, lv_sub hl [1, 2, 0] rfl⟩
        exact hJ2 H locs ls (fun i => ([z18] : List (Int32)).getD i 0) (fun _ => 0) (fun _ => (fun _ => 0)) (fun _ => (fun _ => 0)) hc (show (2147483647 - z18.toInt).toNat < (2147483647 - (u2_ 0).toInt).toNat from by omega)
  · skip
    have hc : va_P (dC, dI) vwCl [(h0, .inr (9, mX9 h1 h2 v0)), (h1, .inl (k1, 600, .inl f1))] s.heap ∧ va_D A [(h0, .inr (9, mX9 h1 h2 v0)), (h1, .inl (k1, 600, .inl f1))] ∧ va_S A s.heap s.heap [] ∧ lv_has ls 3 [(0, .ref h0), (1, .int x1), (2, .int x1)] := ⟨hP, hD, hS, lv_sub hl [1, 2, 0] rfl⟩
    exact hJ2 s.heap [] ls (fun i => ([x1] : List (Int32)).getD i 0) (fun _ => 0) (fun _ => (fun _ => 0)) (fun _ => (fun _ => 0)) hc
set_option maxHeartbeats 8000000 in
set_option maxRecDepth 100000 in
theorem sX10_rankAhead_0 (l : Launch) (dC : Nat → ClassId) (dI : Nat → Nat → Nat) (adK adV : Nat → Nat) (h0 : Nat) (h1 : Nat) (h2 : Nat) (h3 : Nat) (h4 : Nat) (h5 : Nat) (h6 : Nat) (k1 : ClassId) (sz : Nat) (v0 : Nat → Int32) (f1 : Nat → Int64) (y1 : Int64) (hv0 : zR rg_Words400 v0) : Met l yX10_rankAhead (zw yX10_rankAhead cX10_rankAhead 6 (some .int)) { frames := 0, cells := 0, slots := 0, locals := 0 } (zPc dC dI adK adV [.ref h0, .long y1] sz [(h0, .inr (10, mX10 h1 h2 h3 h4 h5 h6 v0)), (h1, .inl (k1, 400, .inr (.inl f1)))] [(k1, .long)]) (va_Qi (fun (r : Int32) (u : Nat → Int32) => (0 ≤ r.toInt ∧ r.toInt ≤ 400) ∧ (r.toInt ≤ (v0 7).toInt)) (fun (u : Nat → Int32) (t : State) => ∃ (ww : Nat → Int64) (aa : Nat → Nat → Int32) (bb : Nat → Nat → Int64), va_P (dC, dI) vwCl [(h0, .inr (10, mX10 h1 h2 h3 h4 h5 h6 v0)), (h1, .inl (k1, 400, .inr (.inl f1)))] t.heap ∧ va_K (dC, dI) vwCl [(k1, .long)] t ∧ va_D (va_A [(h0, .inr (10, mX10 h1 h2 h3 h4 h5 h6 v0)), (h1, .inl (k1, 400, .inr (.inl f1)))] sz) [(h0, .inr (10, mX10 h1 h2 h3 h4 h5 h6 v0)), (h1, .inl (k1, 400, .inr (.inl f1)))]) (va_A [(h0, .inr (10, mX10 h1 h2 h3 h4 h5 h6 v0)), (h1, .inl (k1, 400, .inr (.inl f1)))] sz)) 0 0 (va_A [(h0, .inr (10, mX10 h1 h2 h3 h4 h5 h6 v0)), (h1, .inl (k1, 400, .inr (.inl f1)))] sz) := by
  refine Met.ofW (cc := cX10_rankAhead) (maxL := 6) (ret := (some .int)) (by decide) rfl ?_
  intro p e s m args below meth c s₁ B hml hv
  obtain ⟨rfl, hsz, hP, hK, hD0, hE, hZ⟩ := hv
  have hx := B.exec
  have hb := B.bytes
  have hr := B.returns
  have hG : ∀ w ∈ zG, w.before _ s = true := fun w h => atoms_spec (ws := (zw yX10_rankAhead cX10_rankAhead 6 (some .int))) B.pre w (List.mem_cons_of_mem _ h)
  have hown : s.vm.findClass RX10 = some m.cls := findClass_of_methodNamed B.named
  have hlocks := B.notSynchronized
  subst hsz
  have hD := hD0.self (sz := s.heap.size)
  generalize hAe : va_A [(h0, .inr (10, mX10 h1 h2 h3 h4 h5 h6 v0)), (h1, .inl (k1, 400, .inr (.inl f1)))] s.heap.size = A at hD hZ ⊢
  have hA : ∀ q : Nat, s.heap.size ≤ q → A q := fun q h => by rw [← hAe]; exact Or.inr h
  have hS : va_S A s.heap s.heap [] := va_S.rf
  have hl := lv_entry ([.ref h0, .long y1]) (n := 6) (Nat.le_of_ble_eq_true rfl)
  rw [lg_entry_eq]
  generalize (lg_sl ([.ref h0, .long y1]) ++ List.replicate (6 - (lg_sl ([.ref h0, .long y1])).length) Slot.unset).toArray = ls at hl ⊢
  have hl : lv_has ls 6 [(0, .ref h0), (1, .long y1)] := hl
  have b_ := zk_0
  refine lv_iconst (v := 0) hx hb dX10_rankAhead_0 (by decide) ?_
  refine lv_istore_n (lv' := [(3, .int 0), (0, .ref h0), (1, .long y1)]) hx hb dX10_rankAhead_1 rfl hl (by decide) rfl (fun ls hl => ?_)
  refine lv_aload_n hx hb dX10_rankAhead_2 rfl (lv_at hl 1 rfl) ?_
  have b_ : 0 ≤ (v0 7).toInt ∧ (v0 7).toInt ≤ 400 := hv0 7
  refine va_get (D := (dC, dI)) (ci := 10) (v := .int (v0 7)) (C := RX10) (T := TX10) (N := 8) hx hb hG zuX10 hown hK hP 0 rfl rfl 7 (by decide) (hG _ zw7) (fun _ h9 => h9) rfl dX10_rankAhead_3 ?_
  refine lv_istore (lv' := [(4, .int (v0 7)), (3, .int 0), (0, .ref h0), (1, .long y1)]) hx hb dX10_rankAhead_6 hl (by decide) rfl (fun ls hl => ?_)
  refine zcutL (fun u8_ => ((u8_ 0).toInt - (u8_ 1).toInt).toNat) (fun H locs ls u8_ w8_ a8_ b8_ => va_P (dC, dI) vwCl [(h0, .inr (10, mX10 h1 h2 h3 h4 h5 h6 v0)), (h1, .inl (k1, 400, .inr (.inl f1)))] H ∧ va_D A [(h0, .inr (10, mX10 h1 h2 h3 h4 h5 h6 v0)), (h1, .inl (k1, 400, .inr (.inl f1)))] ∧ va_S A s.heap H locs ∧ lv_has ls 6 [(0, .ref h0), (1, .long y1), (3, .int (u8_ 1)), (4, .int (u8_ 0))] ∧ (0 ≤ (u8_ 0).toInt ∧ (u8_ 0).toInt ≤ 400) ∧ (0 ≤ (u8_ 1).toInt ∧ (u8_ 1).toInt ≤ 400) ∧ ((u8_ 1).toInt ≤ (u8_ 0).toInt) ∧ ((u8_ 0).toInt ≤ (v0 7).toInt)) (fun ls u8_ w8_ => F0 m 8 ls []) 0 0 ?_ (fun hJ8 => ?_)
  · skip
    intro H locs ls u8_ w8_ a8_ b8_ hc hJ8
    obtain ⟨hP, hD, hS, hl, b_, b_, b_, b_⟩ := hc
    refine lv_iload_n hx hb dX10_rankAhead_8 rfl (lv_at hl 2 rfl) ?_
    refine lv_iload hx hb dX10_rankAhead_9 (lv_at hl 3 rfl) ?_
    refine lv_icmp_ge (tgt := 49) hx hb dX10_rankAhead_11 (by decide) (fun c_ => ?_) (fun c_ => ?_)
    · skip
      have b_ := zT_ge rfl rfl c_
      refine lv_iload_n hx hb dX10_rankAhead_49 rfl (lv_at hl 2 rfl) ?_
      refine W.widen (k := 0) (n := 0) (by decide) (by decide) ?_
      have hpost : (0 ≤ (u8_ 1).toInt ∧ (u8_ 1).toInt ≤ 400) ∧ ((u8_ 1).toInt ≤ (v0 7).toInt) := ⟨⟨by omega, by omega⟩, by omega⟩
      have hP9 : va_P (dC, dI) vwCl [(h0, .inr (10, mX10 h1 h2 h3 h4 h5 h6 v0)), (h1, .inl (k1, 400, .inr (.inl f1)))] H := hP
      have hD9 : va_D A [(h0, .inr (10, mX10 h1 h2 h3 h4 h5 h6 v0)), (h1, .inl (k1, 400, .inr (.inl f1)))] := hD
      exact W.iret (v := (u8_ 1)) hx hb hr (fun t ht hW => ⟨⟨(u8_ 1), (fun _ => 0), rfl, hpost, (fun _ => 0), (fun _ => (fun _ => 0)), (fun _ => (fun _ => 0)), by rw [ht]; exact hP9, va_K.moved hW.alike hK, hD9⟩, hS.F ht⟩) hS.2.2 dX10_rankAhead_50
    · skip
      have b_ := zF_ge rfl rfl c_
      refine lv_iload_n hx hb dX10_rankAhead_14 rfl (lv_at hl 2 rfl) ?_
      refine lv_iload hx hb dX10_rankAhead_15 (lv_at hl 3 rfl) ?_
      refine lv_iadd hx hb dX10_rankAhead_17 ?_
      refine lv_topi (fun z17 e_z17 => ?_)
      have b_ := zadd rfl rfl e_z17 (by omega) (by omega)
      refine lv_iconst (v := 2) hx hb dX10_rankAhead_18 (by decide) ?_
      refine lv_idiv hx hb dX10_rankAhead_19 (by decide) ?_
      refine lv_topi (fun z19 e_z19 => ?_)
      have b_ := zdiv rfl zk_2 e_z19 (by omega) (by decide)
      refine lv_istore (lv' := [(5, .int z19), (0, .ref h0), (1, .long y1), (3, .int (u8_ 1)), (4, .int (u8_ 0))]) hx hb dX10_rankAhead_20 hl (by decide) rfl (fun ls hl => ?_)
      refine lv_aload_n hx hb dX10_rankAhead_22 rfl (lv_at hl 1 rfl) ?_
      refine va_get (D := (dC, dI)) (ci := 10) (v := .ref h1) (C := RX10) (T := TX10) (N := 8) hx hb hG zuX10 hown hK hP 0 rfl rfl 1 (by decide) (hG _ zw8) (fun _ h9 => h9) rfl dX10_rankAhead_23 ?_
      refine lv_iload hx hb dX10_rankAhead_26 (lv_at hl 0 rfl) ?_
      refine va_lald hx hb hK hP 1 0 rfl rfl (zin_lit ⟨by omega, by omega⟩) dX10_rankAhead_28 ?_
      refine lv_topl (fun y_28 e_y_28 => ?_)
      refine lv_lload_n hx hb dX10_rankAhead_29 rfl (lv_at hl 2 rfl) ?_
      refine W.lcmp hx hb dX10_rankAhead_30 ?_
      refine lv_topi (fun z30 e_z30 => ?_)
      refine lv_if_ge (tgt := 42) hx hb dX10_rankAhead_31 (by decide) (fun c_ => ?_) (fun c_ => ?_)
      · skip
        have b_ := zT_ge rfl zk_0 c_
        refine lv_iload hx hb dX10_rankAhead_42 (lv_at hl 0 rfl) ?_
        refine lv_istore (lv' := [(4, .int z19), (5, .int z19), (0, .ref h0), (1, .long y1), (3, .int (u8_ 1))]) hx hb dX10_rankAhead_44 hl (by decide) rfl (fun ls hl => ?_)
        refine lv_goto (tgt := 8) hx hb dX10_rankAhead_46 (by decide) ?_
        have hc : va_P (dC, dI) vwCl [(h0, .inr (10, mX10 h1 h2 h3 h4 h5 h6 v0)), (h1, .inl (k1, 400, .inr (.inl f1)))] H ∧ va_D A [(h0, .inr (10, mX10 h1 h2 h3 h4 h5 h6 v0)), (h1, .inl (k1, 400, .inr (.inl f1)))] ∧ va_S A s.heap H locs ∧ lv_has ls 6 [(0, .ref h0), (1, .long y1), (3, .int (u8_ 1)), (4, .int z19)] ∧ (0 ≤ z19.toInt ∧ z19.toInt ≤ 400) ∧ (0 ≤ (u8_ 1).toInt ∧ (u8_ 1).toInt ≤ 400) ∧ ((u8_ 1).toInt ≤ z19.toInt) ∧ (z19.toInt ≤ (v0 7).toInt) := ⟨hP, hD, hS, lv_sub hl [2, 3, 4, 0] rfl, ⟨by omega, by omega⟩, ⟨by omega, by omega⟩, by omega, by omega⟩
        exact hJ8 H locs ls (fun i => ([z19, (u8_ 1)] : List (Int32)).getD i 0) (fun _ => 0) (fun _ => (fun _ => 0)) (fun _ => (fun _ => 0)) hc (show (z19.toInt - (u8_ 1).toInt).toNat < ((u8_ 0).toInt - (u8_ 1).toInt).toNat from by omega)
      · skip
        have b_ := zF_ge rfl zk_0 c_
        refine lv_iload hx hb dX10_rankAhead_34 (lv_at hl 0 rfl) ?_
        refine lv_iconst (v := 1) hx hb dX10_rankAhead_36 (by decide) ?_
        refine lv_iadd hx hb dX10_rankAhead_37 ?_
        refine lv_topi (fun z37 e_z37 => ?_)
        have b_ := zadd rfl zk_1 e_z37 (by omega) (by omega)
        refine lv_istore_n (lv' := [(3, .int z37), (5, .int z19), (0, .ref h0), (1, .long y1), (4, .int (u8_ 0))]) hx hb dX10_rankAhead_38 rfl hl (by decide) rfl (fun ls hl => ?_)
        refine lv_goto (tgt := 46) hx hb dX10_rankAhead_39 (by decide) ?_
        refine lv_goto (tgt := 8) hx hb dX10_rankAhead_46 (by decide) ?_
        have hc : va_P (dC, dI) vwCl [(h0, .inr (10, mX10 h1 h2 h3 h4 h5 h6 v0)), (h1, .inl (k1, 400, .inr (.inl f1)))] H ∧ va_D A [(h0, .inr (10, mX10 h1 h2 h3 h4 h5 h6 v0)), (h1, .inl (k1, 400, .inr (.inl f1)))] ∧ va_S A s.heap H locs ∧ lv_has ls 6 [(0, .ref h0), (1, .long y1), (3, .int z37), (4, .int (u8_ 0))] ∧ (0 ≤ (u8_ 0).toInt ∧ (u8_ 0).toInt ≤ 400) ∧ (0 ≤ z37.toInt ∧ z37.toInt ≤ 400) ∧ (z37.toInt ≤ (u8_ 0).toInt) ∧ ((u8_ 0).toInt ≤ (v0 7).toInt) := ⟨hP, hD, hS, lv_sub hl [2, 3, 0, 4] rfl, ⟨by omega, by omega⟩, ⟨by omega, by omega⟩, by omega, by omega⟩
        exact hJ8 H locs ls (fun i => ([(u8_ 0), z37] : List (Int32)).getD i 0) (fun _ => 0) (fun _ => (fun _ => 0)) (fun _ => (fun _ => 0)) hc (show ((u8_ 0).toInt - z37.toInt).toNat < ((u8_ 0).toInt - (u8_ 1).toInt).toNat from by omega)
  · skip
    have hc : va_P (dC, dI) vwCl [(h0, .inr (10, mX10 h1 h2 h3 h4 h5 h6 v0)), (h1, .inl (k1, 400, .inr (.inl f1)))] s.heap ∧ va_D A [(h0, .inr (10, mX10 h1 h2 h3 h4 h5 h6 v0)), (h1, .inl (k1, 400, .inr (.inl f1)))] ∧ va_S A s.heap s.heap [] ∧ lv_has ls 6 [(0, .ref h0), (1, .long y1), (3, .int 0), (4, .int (v0 7))] ∧ (0 ≤ (v0 7).toInt ∧ (v0 7).toInt ≤ 400) ∧ (0 ≤ (0 : Int32).toInt ∧ (0 : Int32).toInt ≤ 400) ∧ ((0 : Int32).toInt ≤ (v0 7).toInt) ∧ ((v0 7).toInt ≤ (v0 7).toInt) := ⟨hP, hD, hS, lv_sub hl [2, 3, 1, 0] rfl, ⟨by omega, by omega⟩, ⟨by omega, by omega⟩, by omega, by omega⟩
    exact hJ8 s.heap [] ls (fun i => ([(v0 7), 0] : List (Int32)).getD i 0) (fun _ => 0) (fun _ => (fun _ => 0)) (fun _ => (fun _ => 0)) hc
