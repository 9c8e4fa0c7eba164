set_option maxHeartbeats 8000000 in
set_option maxRecDepth 100000 in
theorem sX13_isRun_0 (l : Launch) (dC : Nat → ClassId) (dI : Nat → Nat → Nat) (adK adV : Nat → Nat) (h0 : Nat) (q0 : Nat → Nat) (k1 : ClassId) (sz : Nat) (v0 : Nat → Int32) (f1 : Nat → Int32) (x1 : Int32) (x2 : Int32) (x3 : Int32) (x4 : Int32) (x5 : Int32) (hv0 : zR rg_Model v0) : Met l yX13_isRun (zw yX13_isRun cX13_isRun 7 (some .boolean)) { frames := 2, cells := 0, slots := 0, locals := 40 } (zPc dC dI adK adV [.ref h0, .int x1, .int x2, .int x3, .int x4, .int x5] sz [(h0, .inr (13, mX13 q0 v0)), ((q0 0), zi k1 600 f1)] [(k1, .byte)]) (va_Qi (fun (r : Int32) (u : Nat → Int32) => (0 ≤ r.toInt ∧ r.toInt ≤ 1) ∧ (r.toInt = 1 → (v0 36).toInt = 1) ∧ (r.toInt = 1 → zMr f1 (v0 37).toInt (v0 35).toInt (v0 36).toInt x1.toInt x2.toInt x3.toInt x4.toInt x5.toInt) ∧ (r.toInt = 0 → ¬ zMr f1 (v0 37).toInt (v0 35).toInt (v0 36).toInt x1.toInt x2.toInt x3.toInt x4.toInt x5.toInt)) (fun (u : Nat → Int32) (t : State) => ∃ (ww : Nat → Int64) (aa : Nat → Nat → Int32) (bb : Nat → Nat → Int64), va_P (dC, dI) vwCl [(h0, .inr (13, mX13 q0 v0)), ((q0 0), zi k1 600 f1)] t.heap ∧ va_K (dC, dI) vwCl [(k1, .byte)] t ∧ va_D (va_A [(h0, .inr (13, mX13 q0 v0)), ((q0 0), zi k1 600 f1)] sz) [(h0, .inr (13, mX13 q0 v0)), ((q0 0), zi k1 600 f1)]) (va_A [(h0, .inr (13, mX13 q0 v0)), ((q0 0), zi k1 600 f1)] sz)) 0 0 (va_A [(h0, .inr (13, mX13 q0 v0)), ((q0 0), zi k1 600 f1)] sz) := by
  refine Met.ofW (cc := cX13_isRun) (maxL := 7) (ret := (some .boolean)) (by decide) rfl ?_
  intro p e s m args below meth c s₁ B hml hv
  obtain ⟨rfl, hsz, hP, hK, hD0, hE, hZ⟩ := hv
  have hx := B.exec
  have hb := B.bytes
  have hr := B.returns
  have hG : ∀ w ∈ zG, w.before _ s = true := fun w h => atoms_spec (ws := (zw yX13_isRun cX13_isRun 7 (some .boolean))) B.pre w (List.mem_cons_of_mem _ h)
  have hown : s.vm.findClass RX13 = some m.cls := findClass_of_methodNamed B.named
  have hlocks := B.notSynchronized

  subst hsz
  have hD := hD0.self (sz := s.heap.size)
  generalize hAe : va_A [(h0, .inr (13, mX13 q0 v0)), ((q0 0), zi k1 600 f1)] s.heap.size = A at hD hZ ⊢
  have hA : ∀ q : Nat, s.heap.size ≤ q → A q := fun q h => by rw [← hAe]; exact Or.inr h
  have hS : va_S A s.heap s.heap [] := va_S.rf
  have hl := lv_entry ([.ref h0, .int x1, .int x2, .int x3, .int x4, .int x5]) (n := 7) (Nat.le_of_ble_eq_true rfl)
  rw [lg_entry_eq]
  generalize (lg_sl ([.ref h0, .int x1, .int x2, .int x3, .int x4, .int x5]) ++ List.replicate (7 - (lg_sl ([.ref h0, .int x1, .int x2, .int x3, .int x4, .int x5])).length) Slot.unset).toArray = ls at hl ⊢
  have hl : lv_has ls 7 [(0, .ref h0), (1, .int x1), (2, .int x2), (3, .int x3), (4, .int x4), (5, .int x5)] := hl
  have b_ := zk_0
  have b_ := zk_1
  have b_ : 0 ≤ (v0 36).toInt ∧ (v0 36).toInt ≤ 3 := hv0 36
  have b_ : 0 ≤ (v0 37).toInt ∧ (v0 37).toInt ≤ 600 := hv0 37
  have b_ : 0 ≤ (v0 35).toInt ∧ (v0 35).toInt ≤ 600 := hv0 35
  refine lv_aload_n hx hb dX13_isRun_0 rfl (lv_at hl 0 rfl) ?_
  refine va_get (D := (dC, dI)) (ci := 13) (v := .int (v0 36)) (C := RX13) (T := TX13) (N := 75) hx hb hG zuX13 hown hK hP 0 rfl rfl 36 (by decide) (hG _ zv1640) (fun _ h9 => h9) rfl dX13_isRun_1 ?_
  refine lv_iconst (v := 1) hx hb dX13_isRun_4 (by decide) ?_
  refine lv_icmp_eq (tgt := 10) hx hb dX13_isRun_5 (by decide) (fun c_ => ?_) (fun c_ => ?_)
  · skip
    have b_ := zT_eq rfl zk_1 c_
    refine lv_iload hx hb dX13_isRun_10 (lv_at hl 5 rfl) ?_
    have b_ : -2147483648 ≤ x5.toInt ∧ x5.toInt ≤ 2147483647 := ⟨zlo _, zhi _⟩
    refine lv_if_eq (tgt := 19) hx hb dX13_isRun_12 (by decide) (fun c_ => ?_) (fun c_ => ?_)
    · skip
      have b_ := zT_eq rfl zk_0 c_
      refine lv_iload hx hb dX13_isRun_19 (lv_at hl 4 rfl) ?_
      have b_ : -2147483648 ≤ x4.toInt ∧ x4.toInt ≤ 2147483647 := ⟨zlo _, zhi _⟩
      refine lv_if_eq (tgt := 28) hx hb dX13_isRun_21 (by decide) (fun c_ => ?_) (fun c_ => ?_)
      · skip
        have b_ := zT_eq rfl zk_0 c_
        refine lv_iload_n hx hb dX13_isRun_28 rfl (lv_at hl 3 rfl) ?_
        have b_ : -2147483648 ≤ x3.toInt ∧ x3.toInt ≤ 2147483647 := ⟨zlo _, zhi _⟩
        refine lv_if_eq (tgt := 36) hx hb dX13_isRun_29 (by decide) (fun c_ => ?_) (fun c_ => ?_)
        · skip
          have b_ := zT_eq rfl zk_0 c_
          refine lv_iconst (v := 2) hx hb dX13_isRun_36 (by decide) ?_
          refine lv_istore (lv' := [(6, .int 2), (0, .ref h0), (1, .int x1), (2, .int x2), (3, .int x3), (4, .int x4), (5, .int x5)]) hx hb dX13_isRun_37 hl (by decide) rfl (fun ls hl => ?_)
          refine lv_aload_n hx hb dX13_isRun_39 rfl (lv_at hl 1 rfl) ?_
          refine va_get (D := (dC, dI)) (ci := 13) (v := .int (v0 35)) (C := RX13) (T := TX13) (N := 75) hx hb hG zuX13 hown hK hP 0 rfl rfl 35 (by decide) (hG _ zv1639) (fun _ h9 => h9) rfl dX13_isRun_40 ?_
          refine lv_aload_n hx hb dX13_isRun_43 rfl (lv_at hl 1 rfl) ?_
          refine va_get (D := (dC, dI)) (ci := 13) (v := .int (v0 37)) (C := RX13) (T := TX13) (N := 75) hx hb hG zuX13 hown hK hP 0 rfl rfl 37 (by decide) (hG _ zv1641) (fun _ h9 => h9) rfl dX13_isRun_44 ?_
          refine lv_isub hx hb dX13_isRun_47 ?_
          refine lv_topi (fun z47 e_z47 => ?_)
          have b_ := zsub rfl rfl e_z47 (by omega) (by omega)
          refine lv_iload hx hb dX13_isRun_48 (lv_at hl 0 rfl) ?_
          refine lv_icmp_ne (tgt := 87) hx hb dX13_isRun_50 (by decide) (fun c_ => ?_) (fun c_ => ?_)
          · skip
            have b_ := zT_ne rfl zk_2 c_
            refine lv_iconst (v := 0) hx hb dX13_isRun_87 (by decide) ?_
            refine W.widen (k := 0) (n := 0) (by decide) (by decide) ?_
            have hpost : (0 ≤ (0 : Int32).toInt ∧ (0 : Int32).toInt ≤ 1) ∧ ((0 : Int32).toInt = 1 → (v0 36).toInt = 1) ∧ ((0 : Int32).toInt = 1 → zMr f1 (v0 37).toInt (v0 35).toInt (v0 36).toInt x1.toInt x2.toInt x3.toInt x4.toInt x5.toInt) ∧ ((0 : Int32).toInt = 0 → ¬ zMr f1 (v0 37).toInt (v0 35).toInt (v0 36).toInt x1.toInt x2.toInt x3.toInt x4.toInt x5.toInt) := ⟨⟨by omega, by omega⟩, by omega, by first | (intro q; exact absurd q (by decide)) | exact fun _ => ⟨by omega, 2, by omega, by omega, zss e_z61 hX62_0 (by omega) (by omega), zss e_z79 hX80_0 (by omega) (by omega), by first | omega | exact Or.inr (zss e_z105 hX106_0 (by omega) (by omega)), by first | omega | exact Or.inr (zss e_z129 hX130_0 (by omega) (by omega)), by first | omega | exact Or.inr (zss e_z154 hX155_0 (by omega) (by omega))⟩ | exact fun _ => ⟨by omega, 3, by omega, by omega, zss e_z61 hX62_0 (by omega) (by omega), zss e_z79 hX80_0 (by omega) (by omega), by first | omega | exact Or.inr (zss e_z105 hX106_0 (by omega) (by omega)), by first | omega | exact Or.inr (zss e_z129 hX130_0 (by omega) (by omega)), by first | omega | exact Or.inr (zss e_z154 hX155_0 (by omega) (by omega))⟩ | exact fun _ => ⟨by omega, 4, by omega, by omega, zss e_z61 hX62_0 (by omega) (by omega), zss e_z79 hX80_0 (by omega) (by omega), by first | omega | exact Or.inr (zss e_z105 hX106_0 (by omega) (by omega)), by first | omega | exact Or.inr (zss e_z129 hX130_0 (by omega) (by omega)), by first | omega | exact Or.inr (zss e_z154 hX155_0 (by omega) (by omega))⟩ | exact fun _ => ⟨by omega, 5, by omega, by omega, zss e_z61 hX62_0 (by omega) (by omega), zss e_z79 hX80_0 (by omega) (by omega), by first | omega | exact Or.inr (zss e_z105 hX106_0 (by omega) (by omega)), by first | omega | exact Or.inr (zss e_z129 hX130_0 (by omega) (by omega)), by first | omega | exact Or.inr (zss e_z154 hX155_0 (by omega) (by omega))⟩, by first | (intro q; exact absurd q (by decide)) | exact fun _ => zMr_h (by omega) | exact fun _ => zMr_k (fun k_ y_ => by omega) | exact fun _ => zMr_0 e_z61 hX62_0 rfl (by omega) | exact fun _ => zMr_1 e_z79 hX80_0 (by omega) (by omega) | exact fun _ => zMr_2 e_z105 hX106_0 (by omega) (by omega) (by omega) | exact fun _ => zMr_3 e_z129 hX130_0 (by omega) (by omega) (by omega) | exact fun _ => zMr_4 e_z154 hX155_0 (by omega) (by omega) (by omega)⟩
            have hP9 : va_P (dC, dI) vwCl [(h0, .inr (13, mX13 q0 v0)), ((q0 0), zi k1 600 f1)] s.heap := hP
            have hD9 : va_D A [(h0, .inr (13, mX13 q0 v0)), ((q0 0), zi k1 600 f1)] := hD
            exact W.zret (v := 0) hx hb hr rfl (fun t ht hW => ⟨⟨0, (fun _ => 0), rfl, hpost, (fun _ => 0), (fun _ => (fun _ => 0)), (fun _ => (fun _ => 0)), by rw [ht]; exact hP9, va_K.moved hW.alike hK, hD9⟩, hS.F ht⟩) hS.2.2 dX13_isRun_88
          · skip
            have b_ := zF_ne rfl zk_2 c_
            refine lv_aload_n hx hb dX13_isRun_53 rfl (lv_at hl 1 rfl) ?_
            refine va_get (D := (dC, dI)) (ci := 13) (v := .ref (q0 0)) (C := RX13) (T := TX13) (N := 75) hx hb hG zuX13 hown hK hP 0 rfl rfl 0 (by decide) (hG _ zv1604) (fun _ h9 => h9) rfl dX13_isRun_54 ?_
            refine lv_aload_n hx hb dX13_isRun_57 rfl (lv_at hl 1 rfl) ?_
            refine va_get (D := (dC, dI)) (ci := 13) (v := .int (v0 37)) (C := RX13) (T := TX13) (N := 75) hx hb hG zuX13 hown hK hP 0 rfl rfl 37 (by decide) (hG _ zv1641) (fun _ h9 => h9) rfl dX13_isRun_58 ?_
            refine va_bald hx hb hK hP 1 0 rfl rfl (zin_lit ⟨by omega, by omega⟩) dX13_isRun_61 ?_
            refine lv_topi (fun z61 e_z61 => ?_)
            have hPc := hP.sub (ws' := []) [] rfl
            have hDc := hD.sub (ws' := []) [] (by decide) rfl
            have hKc := hK.sub (tys' := []) [] rfl
            have hFc := va_free (wc := []) hD hS hA [] rfl
            refine va_calli (va_runS (As := [.int z61]) (rest := []) ⟨hx, hb, hml, hown, hG⟩ (sX13_small_0 l dC dI adK adV s.heap.size z61) (va_cwS 1 hG (zgS zv1870 zv1871 zv142 zv1872) rfl rfl rfl (by decide +kernel) ⟨Nat.le_of_ble_eq_true rfl, Nat.le_of_ble_eq_true rfl⟩) ⟨zPc_blind, zPc_pre hPc hKc hDc hE hS hFc hZ⟩ rfl rfl hl.1 rfl (lv_room (Nat.le_of_ble_eq_true rfl)) dX13_isRun_62 ⟨Nat.le_of_ble_eq_true rfl, Nat.le_of_ble_eq_true rfl⟩) hS (fun q _ h => hFc q h) hFc (fun r62_ u62_ t H1 locs ht hvm hw hB hz1 hk1 hS => ?_)
            replace hw : (r62_.toInt = zSml z61.toInt) := hw
            have hX62_0 := hw
            obtain ⟨w62_, a62_, b62_, hP1, hK1, hD1⟩ := hB
            rw [ht] at hP1
            obtain ⟨hP, hD⟩ := va_join (wr := [(h0, .inr (13, mX13 q0 v0)), ((q0 0), zi k1 600 f1)]) (w1 := []) hP hD [] [0, 1] rfl rfl (by decide) (by decide) hk1 hFc hP1 hD1
            have hP : va_P (dC, dI) vwCl [(h0, .inr (13, mX13 q0 v0)), ((q0 0), zi k1 600 f1)] H1 := hP.sub [0, 1] rfl
            have hD : va_D A [(h0, .inr (13, mX13 q0 v0)), ((q0 0), zi k1 600 f1)] := hD.sub [0, 1] (by decide) rfl
            generalize H1 = H at hP hS ⊢
            clear hz1
            refine lv_iload_n hx hb dX13_isRun_65 rfl (lv_at hl 2 rfl) ?_
            have b_ : -2147483648 ≤ r62_.toInt ∧ r62_.toInt ≤ 2147483647 := ⟨zlo _, zhi _⟩
            have b_ : -2147483648 ≤ x1.toInt ∧ x1.toInt ≤ 2147483647 := ⟨zlo _, zhi _⟩
            refine lv_icmp_ne (tgt := 87) hx hb dX13_isRun_66 (by decide) (fun c_ => ?_) (fun c_ => ?_)
            · skip
              have b_ := zT_ne rfl rfl c_
              refine lv_iconst (v := 0) hx hb dX13_isRun_87 (by decide) ?_
              refine W.widen (k := 0) (n := 0) (by decide) (by decide) ?_
              have hpost : (0 ≤ (0 : Int32).toInt ∧ (0 : Int32).toInt ≤ 1) ∧ ((0 : Int32).toInt = 1 → (v0 36).toInt = 1) ∧ ((0 : Int32).toInt = 1 → zMr f1 (v0 37).toInt (v0 35).toInt (v0 36).toInt x1.toInt x2.toInt x3.toInt x4.toInt x5.toInt) ∧ ((0 : Int32).toInt = 0 → ¬ zMr f1 (v0 37).toInt (v0 35).toInt (v0 36).toInt x1.toInt x2.toInt x3.toInt x4.toInt x5.toInt) := ⟨⟨by omega, by omega⟩, by omega, by first | (intro q; exact absurd q (by decide)) | exact fun _ => ⟨by omega, 2, by omega, by omega, zss e_z61 hX62_0 (by omega) (by omega), zss e_z79 hX80_0 (by omega) (by omega), by first | omega | exact Or.inr (zss e_z105 hX106_0 (by omega) (by omega)), by first | omega | exact Or.inr (zss e_z129 hX130_0 (by omega) (by omega)), by first | omega | exact Or.inr (zss e_z154 hX155_0 (by omega) (by omega))⟩ | exact fun _ => ⟨by omega, 3, by omega, by omega, zss e_z61 hX62_0 (by omega) (by omega), zss e_z79 hX80_0 (by omega) (by omega), by first | omega | exact Or.inr (zss e_z105 hX106_0 (by omega) (by omega)), by first | omega | exact Or.inr (zss e_z129 hX130_0 (by omega) (by omega)), by first | omega | exact Or.inr (zss e_z154 hX155_0 (by omega) (by omega))⟩ | exact fun _ => ⟨by omega, 4, by omega, by omega, zss e_z61 hX62_0 (by omega) (by omega), zss e_z79 hX80_0 (by omega) (by omega), by first | omega | exact Or.inr (zss e_z105 hX106_0 (by omega) (by omega)), by first | omega | exact Or.inr (zss e_z129 hX130_0 (by omega) (by omega)), by first | omega | exact Or.inr (zss e_z154 hX155_0 (by omega) (by omega))⟩ | exact fun _ => ⟨by omega, 5, by omega, by omega, zss e_z61 hX62_0 (by omega) (by omega), zss e_z79 hX80_0 (by omega) (by omega), by first | omega | exact Or.inr (zss e_z105 hX106_0 (by omega) (by omega)), by first | omega | exact Or.inr (zss e_z129 hX130_0 (by omega) (by omega)), by first | omega | exact Or.inr (zss e_z154 hX155_0 (by omega) (by omega))⟩, by first | (intro q; exact absurd q (by decide)) | exact fun _ => zMr_h (by omega) | exact fun _ => zMr_k (fun k_ y_ => by omega) | exact fun _ => zMr_0 e_z61 hX62_0 rfl (by omega) | exact fun _ => zMr_1 e_z79 hX80_0 (by omega) (by omega) | exact fun _ => zMr_2 e_z105 hX106_0 (by omega) (by omega) (by omega) | exact fun _ => zMr_3 e_z129 hX130_0 (by omega) (by omega) (by omega) | exact fun _ => zMr_4 e_z154 hX155_0 (by omega) (by omega) (by omega)⟩
              have hP9 : va_P (dC, dI) vwCl [(h0, .inr (13, mX13 q0 v0)), ((q0 0), zi k1 600 f1)] H := hP
              have hD9 : va_D A [(h0, .inr (13, mX13 q0 v0)), ((q0 0), zi k1 600 f1)] := hD
              exact W.zret (v := 0) hx hb hr rfl (fun t ht hW => ⟨⟨0, (fun _ => 0), rfl, hpost, (fun _ => 0), (fun _ => (fun _ => 0)), (fun _ => (fun _ => 0)), by rw [ht]; exact hP9, va_K.moved hW.alike hK, hD9⟩, hS.F ht⟩) hS.2.2 dX13_isRun_88
            · skip
              have b_ := zF_ne rfl rfl c_
              refine lv_aload_n hx hb dX13_isRun_69 rfl (lv_at hl 1 rfl) ?_
              refine va_get (D := (dC, dI)) (ci := 13) (v := .ref (q0 0)) (C := RX13) (T := TX13) (N := 75) hx hb hG zuX13 hown hK hP 0 rfl rfl 0 (by decide) (hG _ zv1604) (fun _ h9 => h9) rfl dX13_isRun_70 ?_
              refine lv_aload_n hx hb dX13_isRun_73 rfl (lv_at hl 1 rfl) ?_
              refine va_get (D := (dC, dI)) (ci := 13) (v := .int (v0 37)) (C := RX13) (T := TX13) (N := 75) hx hb hG zuX13 hown hK hP 0 rfl rfl 37 (by decide) (hG _ zv1641) (fun _ h9 => h9) rfl dX13_isRun_74 ?_
              refine lv_iconst (v := 1) hx hb dX13_isRun_77 (by decide) ?_
              refine lv_iadd hx hb dX13_isRun_78 ?_
              refine lv_topi (fun z78 e_z78 => ?_)
              have b_ := zadd rfl zk_1 e_z78 (by omega) (by omega)
              refine va_bald hx hb hK hP 1 0 rfl rfl (zin_lit ⟨by omega, by omega⟩) dX13_isRun_79 ?_
              refine lv_topi (fun z79 e_z79 => ?_)
              have hPc := hP.sub (ws' := []) [] rfl
              have hDc := hD.sub (ws' := []) [] (by decide) rfl
              have hKc := hK.sub (tys' := []) [] rfl
              have hFc := va_free (wc := []) hD hS hA [] rfl
              refine va_calli (va_runS (As := [.int z79]) (rest := []) ⟨hx, hb, hml, hown, hG⟩ (sX13_small_0 l dC dI adK adV H.size z79) (va_cwS 1 hG (zgS zv1870 zv1871 zv142 zv1872) rfl rfl rfl (by decide +kernel) ⟨Nat.le_of_ble_eq_true rfl, Nat.le_of_ble_eq_true rfl⟩) ⟨zPc_blind, zPc_pre hPc hKc hDc hE hS hFc hZ⟩ rfl rfl hl.1 rfl (lv_room (Nat.le_of_ble_eq_true rfl)) dX13_isRun_80 ⟨Nat.le_of_ble_eq_true rfl, Nat.le_of_ble_eq_true rfl⟩) hS (fun q _ h => hFc q h) hFc (fun r80_ u80_ t H1 locs ht hvm hw hB hz1 hk1 hS => ?_)
              replace hw : (r80_.toInt = zSml z79.toInt) := hw
              have hX80_0 := hw
              obtain ⟨w80_, a80_, b80_, hP1, hK1, hD1⟩ := hB
              rw [ht] at hP1
              obtain ⟨hP, hD⟩ := va_join (wr := [(h0, .inr (13, mX13 q0 v0)), ((q0 0), zi k1 600 f1)]) (w1 := []) hP hD [] [0, 1] rfl rfl (by decide) (by decide) hk1 hFc hP1 hD1
              have hP : va_P (dC, dI) vwCl [(h0, .inr (13, mX13 q0 v0)), ((q0 0), zi k1 600 f1)] H1 := hP.sub [0, 1] rfl
              have hD : va_D A [(h0, .inr (13, mX13 q0 v0)), ((q0 0), zi k1 600 f1)] := hD.sub [0, 1] (by decide) rfl
              generalize H1 = H at hP hS ⊢
              clear hz1
              refine lv_iload_n hx hb dX13_isRun_83 rfl (lv_at hl 3 rfl) ?_
              have b_ : -2147483648 ≤ r80_.toInt ∧ r80_.toInt ≤ 2147483647 := ⟨zlo _, zhi _⟩
              have b_ : -2147483648 ≤ x2.toInt ∧ x2.toInt ≤ 2147483647 := ⟨zlo _, zhi _⟩
              refine lv_icmp_eq (tgt := 89) hx hb dX13_isRun_84 (by decide) (fun c_ => ?_) (fun c_ => ?_)
              · skip
                have b_ := zT_eq rfl rfl c_
                refine lv_iload hx hb dX13_isRun_89 (lv_at hl 0 rfl) ?_
                refine lv_iconst (v := 3) hx hb dX13_isRun_91 (by decide) ?_
                refine lv_icmp_lt (tgt := 113) hx hb dX13_isRun_92 (by decide) (fun c_ => ?_) (fun c_ => absurd c_ (by decide))
                refine lv_iload hx hb dX13_isRun_113 (lv_at hl 0 rfl) ?_
                refine lv_iconst (v := 4) hx hb dX13_isRun_115 (by decide) ?_
                refine lv_icmp_lt (tgt := 138) hx hb dX13_isRun_116 (by decide) (fun c_ => ?_) (fun c_ => absurd c_ (by decide))
                refine lv_iload hx hb dX13_isRun_138 (lv_at hl 0 rfl) ?_
                refine lv_iconst (v := 5) hx hb dX13_isRun_140 (by decide) ?_
                refine lv_icmp_lt (tgt := 163) hx hb dX13_isRun_141 (by decide) (fun c_ => ?_) (fun c_ => absurd c_ (by decide))
                refine lv_iconst (v := 1) hx hb dX13_isRun_163 (by decide) ?_
                refine lv_goto (tgt := 168) hx hb dX13_isRun_164 (by decide) ?_
                refine W.widen (k := 0) (n := 0) (by decide) (by decide) ?_
                have hpost : (0 ≤ (1 : Int32).toInt ∧ (1 : Int32).toInt ≤ 1) ∧ ((1 : Int32).toInt = 1 → (v0 36).toInt = 1) ∧ ((1 : Int32).toInt = 1 → zMr f1 (v0 37).toInt (v0 35).toInt (v0 36).toInt x1.toInt x2.toInt x3.toInt x4.toInt x5.toInt) ∧ ((1 : Int32).toInt = 0 → ¬ zMr f1 (v0 37).toInt (v0 35).toInt (v0 36).toInt x1.toInt x2.toInt x3.toInt x4.toInt x5.toInt) := ⟨⟨by omega, by omega⟩, by omega, by first | (intro q; exact absurd q (by decide)) | exact fun _ => ⟨by omega, 2, by omega, by omega, zss e_z61 hX62_0 (by omega) (by omega), zss e_z79 hX80_0 (by omega) (by omega), by first | omega | exact Or.inr (zss e_z105 hX106_0 (by omega) (by omega)), by first | omega | exact Or.inr (zss e_z129 hX130_0 (by omega) (by omega)), by first | omega | exact Or.inr (zss e_z154 hX155_0 (by omega) (by omega))⟩ | exact fun _ => ⟨by omega, 3, by omega, by omega, zss e_z61 hX62_0 (by omega) (by omega), zss e_z79 hX80_0 (by omega) (by omega), by first | omega | exact Or.inr (zss e_z105 hX106_0 (by omega) (by omega)), by first | omega | exact Or.inr (zss e_z129 hX130_0 (by omega) (by omega)), by first | omega | exact Or.inr (zss e_z154 hX155_0 (by omega) (by omega))⟩ | exact fun _ => ⟨by omega, 4, by omega, by omega, zss e_z61 hX62_0 (by omega) (by omega), zss e_z79 hX80_0 (by omega) (by omega), by first | omega | exact Or.inr (zss e_z105 hX106_0 (by omega) (by omega)), by first | omega | exact Or.inr (zss e_z129 hX130_0 (by omega) (by omega)), by first | omega | exact Or.inr (zss e_z154 hX155_0 (by omega) (by omega))⟩ | exact fun _ => ⟨by omega, 5, by omega, by omega, zss e_z61 hX62_0 (by omega) (by omega), zss e_z79 hX80_0 (by omega) (by omega), by first | omega | exact Or.inr (zss e_z105 hX106_0 (by omega) (by omega)), by first | omega | exact Or.inr (zss e_z129 hX130_0 (by omega) (by omega)), by first | omega | exact Or.inr (zss e_z154 hX155_0 (by omega) (by omega))⟩, by first | (intro q; exact absurd q (by decide)) | exact fun _ => zMr_h (by omega) | exact fun _ => zMr_k (fun k_ y_ => by omega) | exact fun _ => zMr_0 e_z61 hX62_0 rfl (by omega) | exact fun _ => zMr_1 e_z79 hX80_0 (by omega) (by omega) | exact fun _ => zMr_2 e_z105 hX106_0 (by omega) (by omega) (by omega) | exact fun _ => zMr_3 e_z129 hX130_0 (by omega) (by omega) (by omega) | exact fun _ => zMr_4 e_z154 hX155_0 (by omega) (by omega) (by omega)⟩
                have hP9 : va_P (dC, dI) vwCl [(h0, .inr (13, mX13 q0 v0)), ((q0 0), zi k1 600 f1)] H := hP
                have hD9 : va_D A [(h0, .inr (13, mX13 q0 v0)), ((q0 0), zi k1 600 f1)] := hD
                exact W.zret (v := 1) hx hb hr rfl (fun t ht hW => ⟨⟨1, (fun _ => 0), rfl, hpost, (fun _ => 0), (fun _ => (fun _ => 0)), (fun _ => (fun _ => 0)), by rw [ht]; exact hP9, va_K.moved hW.alike hK, hD9⟩, hS.F ht⟩) hS.2.2 dX13_isRun_168
              · skip
                have b_ := zF_eq rfl rfl c_
                refine lv_iconst (v := 0) hx hb dX13_isRun_87 (by decide) ?_
                refine W.widen (k := 0) (n := 0) (by decide) (by decide) ?_
                have hpost : (0 ≤ (0 : Int32).toInt ∧ (0 : Int32).toInt ≤ 1) ∧ ((0 : Int32).toInt = 1 → (v0 36).toInt = 1) ∧ ((0 : Int32).toInt = 1 → zMr f1 (v0 37).toInt (v0 35).toInt (v0 36).toInt x1.toInt x2.toInt x3.toInt x4.toInt x5.toInt) ∧ ((0 : Int32).toInt = 0 → ¬ zMr f1 (v0 37).toInt (v0 35).toInt (v0 36).toInt x1.toInt x2.toInt x3.toInt x4.toInt x5.toInt) := ⟨⟨by omega, by omega⟩, by omega, by first | (intro q; exact absurd q (by decide)) | exact fun _ => ⟨by omega, 2, by omega, by omega, zss e_z61 hX62_0 (by omega) (by omega), zss e_z79 hX80_0 (by omega) (by omega), by first | omega | exact Or.inr (zss e_z105 hX106_0 (by omega) (by omega)), by first | omega | exact Or.inr (zss e_z129 hX130_0 (by omega) (by omega)), by first | omega | exact Or.inr (zss e_z154 hX155_0 (by omega) (by omega))⟩ | exact fun _ => ⟨by omega, 3, by omega, by omega, zss e_z61 hX62_0 (by omega) (by omega), zss e_z79 hX80_0 (by omega) (by omega), by first | omega | exact Or.inr (zss e_z105 hX106_0 (by omega) (by omega)), by first | omega | exact Or.inr (zss e_z129 hX130_0 (by omega) (by omega)), by first | omega | exact Or.inr (zss e_z154 hX155_0 (by omega) (by omega))⟩ | exact fun _ => ⟨by omega, 4, by omega, by omega, zss e_z61 hX62_0 (by omega) (by omega), zss e_z79 hX80_0 (by omega) (by omega), by first | omega | exact Or.inr (zss e_z105 hX106_0 (by omega) (by omega)), by first | omega | exact Or.inr (zss e_z129 hX130_0 (by omega) (by omega)), by first | omega | exact Or.inr (zss e_z154 hX155_0 (by omega) (by omega))⟩ | exact fun _ => ⟨by omega, 5, by omega, by omega, zss e_z61 hX62_0 (by omega) (by omega), zss e_z79 hX80_0 (by omega) (by omega), by first | omega | exact Or.inr (zss e_z105 hX106_0 (by omega) (by omega)), by first | omega | exact Or.inr (zss e_z129 hX130_0 (by omega) (by omega)), by first | omega | exact Or.inr (zss e_z154 hX155_0 (by omega) (by omega))⟩, by first | (intro q; exact absurd q (by decide)) | exact fun _ => zMr_h (by omega) | exact fun _ => zMr_k (fun k_ y_ => by omega) | exact fun _ => zMr_0 e_z61 hX62_0 rfl (by omega) | exact fun _ => zMr_1 e_z79 hX80_0 (by omega) (by omega) | exact fun _ => zMr_2 e_z105 hX106_0 (by omega) (by omega) (by omega) | exact fun _ => zMr_3 e_z129 hX130_0 (by omega) (by omega) (by omega) | exact fun _ => zMr_4 e_z154 hX155_0 (by omega) (by omega) (by omega)⟩
                have hP9 : va_P (dC, dI) vwCl [(h0, .inr (13, mX13 q0 v0)), ((q0 0), zi k1 600 f1)] H := hP
                have hD9 : va_D A [(h0, .inr (13, mX13 q0 v0)), ((q0 0), zi k1 600 f1)] := hD
                exact W.zret (v := 0) hx hb hr rfl (fun t ht hW => ⟨⟨0, (fun _ => 0), rfl, hpost, (fun _ => 0), (fun _ => (fun _ => 0)), (fun _ => (fun _ => 0)), by rw [ht]; exact hP9, va_K.moved hW.alike hK, hD9⟩, hS.F ht⟩) hS.2.2 dX13_isRun_88
        · skip
          have b_ := zF_eq rfl zk_0 c_
          refine lv_iconst (v := 3) hx hb dX13_isRun_32 (by decide) ?_
          refine lv_goto (tgt := 37) hx hb dX13_isRun_33 (by decide) ?_
          refine lv_istore (lv' := [(6, .int 3), (0, .ref h0), (1, .int x1), (2, .int x2), (3, .int x3), (4, .int x4), (5, .int x5)]) hx hb dX13_isRun_37 hl (by decide) rfl (fun ls hl => ?_)
          refine lv_aload_n hx hb dX13_isRun_39 rfl (lv_at hl 1 rfl) ?_
          refine va_get (D := (dC, dI)) (ci := 13) (v := .int (v0 35)) (C := RX13) (T := TX13) (N := 75) hx hb hG zuX13 hown hK hP 0 rfl rfl 35 (by decide) (hG _ zv1639) (fun _ h9 => h9) rfl dX13_isRun_40 ?_
          refine lv_aload_n hx hb dX13_isRun_43 rfl (lv_at hl 1 rfl) ?_
          refine va_get (D := (dC, dI)) (ci := 13) (v := .int (v0 37)) (C := RX13) (T := TX13) (N := 75) hx hb hG zuX13 hown hK hP 0 rfl rfl 37 (by decide) (hG _ zv1641) (fun _ h9 => h9) rfl dX13_isRun_44 ?_
          refine lv_isub hx hb dX13_isRun_47 ?_
          refine lv_topi (fun z47 e_z47 => ?_)
          have b_ := zsub rfl rfl e_z47 (by omega) (by omega)
          refine lv_iload hx hb dX13_isRun_48 (lv_at hl 0 rfl) ?_
          refine lv_icmp_ne (tgt := 87) hx hb dX13_isRun_50 (by decide) (fun c_ => ?_) (fun c_ => ?_)
          · skip
            have b_ := zT_ne rfl zk_3 c_
            refine lv_iconst (v := 0) hx hb dX13_isRun_87 (by decide) ?_
            refine W.widen (k := 0) (n := 0) (by decide) (by decide) ?_
            have hpost : (0 ≤ (0 : Int32).toInt ∧ (0 : Int32).toInt ≤ 1) ∧ ((0 : Int32).toInt = 1 → (v0 36).toInt = 1) ∧ ((0 : Int32).toInt = 1 → zMr f1 (v0 37).toInt (v0 35).toInt (v0 36).toInt x1.toInt x2.toInt x3.toInt x4.toInt x5.toInt) ∧ ((0 : Int32).toInt = 0 → ¬ zMr f1 (v0 37).toInt (v0 35).toInt (v0 36).toInt x1.toInt x2.toInt x3.toInt x4.toInt x5.toInt) := ⟨⟨by omega, by omega⟩, by omega, by first | (intro q; exact absurd q (by decide)) | exact fun _ => ⟨by omega, 2, by omega, by omega, zss e_z61 hX62_0 (by omega) (by omega), zss e_z79 hX80_0 (by omega) (by omega), by first | omega | exact Or.inr (zss e_z105 hX106_0 (by omega) (by omega)), by first | omega | exact Or.inr (zss e_z129 hX130_0 (by omega) (by omega)), by first | omega | exact Or.inr (zss e_z154 hX155_0 (by omega) (by omega))⟩ | exact fun _ => ⟨by omega, 3, by omega, by omega, zss e_z61 hX62_0 (by omega) (by omega), zss e_z79 hX80_0 (by omega) (by omega), by first | omega | exact Or.inr (zss e_z105 hX106_0 (by omega) (by omega)), by first | omega | exact Or.inr (zss e_z129 hX130_0 (by omega) (by omega)), by first | omega | exact Or.inr (zss e_z154 hX155_0 (by omega) (by omega))⟩ | exact fun _ => ⟨by omega, 4, by omega, by omega, zss e_z61 hX62_0 (by omega) (by omega), zss e_z79 hX80_0 (by omega) (by omega), by first | omega | exact Or.inr (zss e_z105 hX106_0 (by omega) (by omega)), by first | omega | exact Or.inr (zss e_z129 hX130_0 (by omega) (by omega)), by first | omega | exact Or.inr (zss e_z154 hX155_0 (by omega) (by omega))⟩ | exact fun _ => ⟨by omega, 5, by omega, by omega, zss e_z61 hX62_0 (by omega) (by omega), zss e_z79 hX80_0 (by omega) (by omega), by first | omega | exact Or.inr (zss e_z105 hX106_0 (by omega) (by omega)), by first | omega | exact Or.inr (zss e_z129 hX130_0 (by omega) (by omega)), by first | omega | exact Or.inr (zss e_z154 hX155_0 (by omega) (by omega))⟩, by first | (intro q; exact absurd q (by decide)) | exact fun _ => zMr_h (by omega) | exact fun _ => zMr_k (fun k_ y_ => by omega) | exact fun _ => zMr_0 e_z61 hX62_0 rfl (by omega) | exact fun _ => zMr_1 e_z79 hX80_0 (by omega) (by omega) | exact fun _ => zMr_2 e_z105 hX106_0 (by omega) (by omega) (by omega) | exact fun _ => zMr_3 e_z129 hX130_0 (by omega) (by omega) (by omega) | exact fun _ => zMr_4 e_z154 hX155_0 (by omega) (by omega) (by omega)⟩
            have hP9 : va_P (dC, dI) vwCl [(h0, .inr (13, mX13 q0 v0)), ((q0 0), zi k1 600 f1)] s.heap := hP
            have hD9 : va_D A [(h0, .inr (13, mX13 q0 v0)), ((q0 0), zi k1 600 f1)] := hD
            exact W.zret (v := 0) hx hb hr rfl (fun t ht hW => ⟨⟨0, (fun _ => 0), rfl, hpost, (fun _ => 0), (fun _ => (fun _ => 0)), (fun _ => (fun _ => 0)), by rw [ht]; exact hP9, va_K.moved hW.alike hK, hD9⟩, hS.F ht⟩) hS.2.2 dX13_isRun_88
          · skip
            have b_ := zF_ne rfl zk_3 c_
            refine lv_aload_n hx hb dX13_isRun_53 rfl (lv_at hl 1 rfl) ?_
            refine va_get (D := (dC, dI)) (ci := 13) (v := .ref (q0 0)) (C := RX13) (T := TX13) (N := 75) hx hb hG zuX13 hown hK hP 0 rfl rfl 0 (by decide) (hG _ zv1604) (fun _ h9 => h9) rfl dX13_isRun_54 ?_
            refine lv_aload_n hx hb dX13_isRun_57 rfl (lv_at hl 1 rfl) ?_
            refine va_get (D := (dC, dI)) (ci := 13) (v := .int (v0 37)) (C := RX13) (T := TX13) (N := 75) hx hb hG zuX13 hown hK hP 0 rfl rfl 37 (by decide) (hG _ zv1641) (fun _ h9 => h9) rfl dX13_isRun_58 ?_
            refine va_bald hx hb hK hP 1 0 rfl rfl (zin_lit ⟨by omega, by omega⟩) dX13_isRun_61 ?_
            refine lv_topi (fun z61 e_z61 => ?_)
            have hPc := hP.sub (ws' := []) [] rfl
            have hDc := hD.sub (ws' := []) [] (by decide) rfl
            have hKc := hK.sub (tys' := []) [] rfl
            have hFc := va_free (wc := []) hD hS hA [] rfl
            refine va_calli (va_runS (As := [.int z61]) (rest := []) ⟨hx, hb, hml, hown, hG⟩ (sX13_small_0 l dC dI adK adV s.heap.size z61) (va_cwS 1 hG (zgS zv1870 zv1871 zv142 zv1872) rfl rfl rfl (by decide +kernel) ⟨Nat.le_of_ble_eq_true rfl, Nat.le_of_ble_eq_true rfl⟩) ⟨zPc_blind, zPc_pre hPc hKc hDc hE hS hFc hZ⟩ rfl rfl hl.1 rfl (lv_room (Nat.le_of_ble_eq_true rfl)) dX13_isRun_62 ⟨Nat.le_of_ble_eq_true rfl, Nat.le_of_ble_eq_true rfl⟩) hS (fun q _ h => hFc q h) hFc (fun r62_ u62_ t H1 locs ht hvm hw hB hz1 hk1 hS => ?_)
            replace hw : (r62_.toInt = zSml z61.toInt) := hw
            have hX62_0 := hw
            obtain ⟨w62_, a62_, b62_, hP1, hK1, hD1⟩ := hB
            rw [ht] at hP1
            obtain ⟨hP, hD⟩ := va_join (wr := [(h0, .inr (13, mX13 q0 v0)), ((q0 0), zi k1 600 f1)]) (w1 := []) hP hD [] [0, 1] rfl rfl (by decide) (by decide) hk1 hFc hP1 hD1
            have hP : va_P (dC, dI) vwCl [(h0, .inr (13, mX13 q0 v0)), ((q0 0), zi k1 600 f1)] H1 := hP.sub [0, 1] rfl
            have hD : va_D A [(h0, .inr (13, mX13 q0 v0)), ((q0 0), zi k1 600 f1)] := hD.sub [0, 1] (by decide) rfl
            generalize H1 = H at hP hS ⊢
            clear hz1
            refine lv_iload_n hx hb dX13_isRun_65 rfl (lv_at hl 2 rfl) ?_
            have b_ : -2147483648 ≤ r62_.toInt ∧ r62_.toInt ≤ 2147483647 := ⟨zlo _, zhi _⟩
            have b_ : -2147483648 ≤ x1.toInt ∧ x1.toInt ≤ 2147483647 := ⟨zlo _, zhi _⟩
            refine lv_icmp_ne (tgt := 87) hx hb dX13_isRun_66 (by decide) (fun c_ => ?_) (fun c_ => ?_)
            · skip
              have b_ := zT_ne rfl rfl c_
              refine lv_iconst (v := 0) hx hb dX13_isRun_87 (by decide) ?_
              refine W.widen (k := 0) (n := 0) (by decide) (by decide) ?_
              have hpost : (0 ≤ (0 : Int32).toInt ∧ (0 : Int32).toInt ≤ 1) ∧ ((0 : Int32).toInt = 1 → (v0 36).toInt = 1) ∧ ((0 : Int32).toInt = 1 → zMr f1 (v0 37).toInt (v0 35).toInt (v0 36).toInt x1.toInt x2.toInt x3.toInt x4.toInt x5.toInt) ∧ ((0 : Int32).toInt = 0 → ¬ zMr f1 (v0 37).toInt (v0 35).toInt (v0 36).toInt x1.toInt x2.toInt x3.toInt x4.toInt x5.toInt) := ⟨⟨by omega, by omega⟩, by omega, by first | (intro q; exact absurd q (by decide)) | exact fun _ => ⟨by omega, 2, by omega, by omega, zss e_z61 hX62_0 (by omega) (by omega), zss e_z79 hX80_0 (by omega) (by omega), by first | omega | exact Or.inr (zss e_z105 hX106_0 (by omega) (by omega)), by first | omega | exact Or.inr (zss e_z129 hX130_0 (by omega) (by omega)), by first | omega | exact Or.inr (zss e_z154 hX155_0 (by omega) (by omega))⟩ | exact fun _ => ⟨by omega, 3, by omega, by omega, zss e_z61 hX62_0 (by omega) (by omega), zss e_z79 hX80_0 (by omega) (by omega), by first | omega | exact Or.inr (zss e_z105 hX106_0 (by omega) (by omega)), by first | omega | exact Or.inr (zss e_z129 hX130_0 (by omega) (by omega)), by first | omega | exact Or.inr (zss e_z154 hX155_0 (by omega) (by omega))⟩ | exact fun _ => ⟨by omega, 4, by omega, by omega, zss e_z61 hX62_0 (by omega) (by omega), zss e_z79 hX80_0 (by omega) (by omega), by first | omega | exact Or.inr (zss e_z105 hX106_0 (by omega) (by omega)), by first | omega | exact Or.inr (zss e_z129 hX130_0 (by omega) (by omega)), by first | omega | exact Or.inr (zss e_z154 hX155_0 (by omega) (by omega))⟩ | exact fun _ => ⟨by omega, 5, by omega, by omega, zss e_z61 hX62_0 (by omega) (by omega), zss e_z79 hX80_0 (by omega) (by omega), by first | omega | exact Or.inr (zss e_z105 hX106_0 (by omega) (by omega)), by first | omega | exact Or.inr (zss e_z129 hX130_0 (by omega) (by omega)), by first | omega | exact Or.inr (zss e_z154 hX155_0 (by omega) (by omega))⟩, by first | (intro q; exact absurd q (by decide)) | exact fun _ => zMr_h (by omega) | exact fun _ => zMr_k (fun k_ y_ => by omega) | exact fun _ => zMr_0 e_z61 hX62_0 rfl (by omega) | exact fun _ => zMr_1 e_z79 hX80_0 (by omega) (by omega) | exact fun _ => zMr_2 e_z105 hX106_0 (by omega) (by omega) (by omega) | exact fun _ => zMr_3 e_z129 hX130_0 (by omega) (by omega) (by omega) | exact fun _ => zMr_4 e_z154 hX155_0 (by omega) (by omega) (by omega)⟩
              have hP9 : va_P (dC, dI) vwCl [(h0, .inr (13, mX13 q0 v0)), ((q0 0), zi k1 600 f1)] H := hP
              have hD9 : va_D A [(h0, .inr (13, mX13 q0 v0)), ((q0 0), zi k1 600 f1)] := hD
              exact W.zret (v := 0) hx hb hr rfl (fun t ht hW => ⟨⟨0, (fun _ => 0), rfl, hpost, (fun _ => 0), (fun _ => (fun _ => 0)), (fun _ => (fun _ => 0)), by rw [ht]; exact hP9, va_K.moved hW.alike hK, hD9⟩, hS.F ht⟩) hS.2.2 dX13_isRun_88
            · skip
              have b_ := zF_ne rfl rfl c_
              refine lv_aload_n hx hb dX13_isRun_69 rfl (lv_at hl 1 rfl) ?_
              refine va_get (D := (dC, dI)) (ci := 13) (v := .ref (q0 0)) (C := RX13) (T := TX13) (N := 75) hx hb hG zuX13 hown hK hP 0 rfl rfl 0 (by decide) (hG _ zv1604) (fun _ h9 => h9) rfl dX13_isRun_70 ?_
              refine lv_aload_n hx hb dX13_isRun_73 rfl (lv_at hl 1 rfl) ?_
              refine va_get (D := (dC, dI)) (ci := 13) (v := .int (v0 37)) (C := RX13) (T := TX13) (N := 75) hx hb hG zuX13 hown hK hP 0 rfl rfl 37 (by decide) (hG _ zv1641) (fun _ h9 => h9) rfl dX13_isRun_74 ?_
              refine lv_iconst (v := 1) hx hb dX13_isRun_77 (by decide) ?_
              refine lv_iadd hx hb dX13_isRun_78 ?_
              refine lv_topi (fun z78 e_z78 => ?_)
              have b_ := zadd rfl zk_1 e_z78 (by omega) (by omega)
              refine va_bald hx hb hK hP 1 0 rfl rfl (zin_lit ⟨by omega, by omega⟩) dX13_isRun_79 ?_
              refine lv_topi (fun z79 e_z79 => ?_)
              have hPc := hP.sub (ws' := []) [] rfl
              have hDc := hD.sub (ws' := []) [] (by decide) rfl
              have hKc := hK.sub (tys' := []) [] rfl
              have hFc := va_free (wc := []) hD hS hA [] rfl
              refine va_calli (va_runS (As := [.int z79]) (rest := []) ⟨hx, hb, hml, hown, hG⟩ (sX13_small_0 l dC dI adK adV H.size z79) (va_cwS 1 hG (zgS zv1870 zv1871 zv142 zv1872) rfl rfl rfl (by decide +kernel) ⟨Nat.le_of_ble_eq_true rfl, Nat.le_of_ble_eq_true rfl⟩) ⟨zPc_blind, zPc_pre hPc hKc hDc hE hS hFc hZ⟩ rfl rfl hl.1 rfl (lv_room (Nat.le_of_ble_eq_true rfl)) dX13_isRun_80 ⟨Nat.le_of_ble_eq_true rfl, Nat.le_of_ble_eq_true rfl⟩) hS (fun q _ h => hFc q h) hFc (fun r80_ u80_ t H1 locs ht hvm hw hB hz1 hk1 hS => ?_)
              replace hw : (r80_.toInt = zSml z79.toInt) := hw
              have hX80_0 := hw
              obtain ⟨w80_, a80_, b80_, hP1, hK1, hD1⟩ := hB
              rw [ht] at hP1
              obtain ⟨hP, hD⟩ := va_join (wr := [(h0, .inr (13, mX13 q0 v0)), ((q0 0), zi k1 600 f1)]) (w1 := []) hP hD [] [0, 1] rfl rfl (by decide) (by decide) hk1 hFc hP1 hD1
              have hP : va_P (dC, dI) vwCl [(h0, .inr (13, mX13 q0 v0)), ((q0 0), zi k1 600 f1)] H1 := hP.sub [0, 1] rfl
              have hD : va_D A [(h0, .inr (13, mX13 q0 v0)), ((q0 0), zi k1 600 f1)] := hD.sub [0, 1] (by decide) rfl
              generalize H1 = H at hP hS ⊢
              clear hz1
              refine lv_iload_n hx hb dX13_isRun_83 rfl (lv_at hl 3 rfl) ?_
              have b_ : -2147483648 ≤ r80_.toInt ∧ r80_.toInt ≤ 2147483647 := ⟨zlo _, zhi _⟩
              have b_ : -2147483648 ≤ x2.toInt ∧ x2.toInt ≤ 2147483647 := ⟨zlo _, zhi _⟩
              refine lv_icmp_eq (tgt := 89) hx hb dX13_isRun_84 (by decide) (fun c_ => ?_) (fun c_ => ?_)
              · skip
                have b_ := zT_eq rfl rfl c_
                refine lv_iload hx hb dX13_isRun_89 (lv_at hl 0 rfl) ?_
                refine lv_iconst (v := 3) hx hb dX13_isRun_91 (by decide) ?_
                refine lv_icmp_lt (tgt := 113) hx hb dX13_isRun_92 (by decide) (fun c_ => absurd c_ (by decide)) (fun c_ => ?_)
                refine lv_aload_n hx hb dX13_isRun_95 rfl (lv_at hl 1 rfl) ?_
                refine va_get (D := (dC, dI)) (ci := 13) (v := .ref (q0 0)) (C := RX13) (T := TX13) (N := 75) hx hb hG zuX13 hown hK hP 0 rfl rfl 0 (by decide) (hG _ zv1604) (fun _ h9 => h9) rfl dX13_isRun_96 ?_
                refine lv_aload_n hx hb dX13_isRun_99 rfl (lv_at hl 1 rfl) ?_
                refine va_get (D := (dC, dI)) (ci := 13) (v := .int (v0 37)) (C := RX13) (T := TX13) (N := 75) hx hb hG zuX13 hown hK hP 0 rfl rfl 37 (by decide) (hG _ zv1641) (fun _ h9 => h9) rfl dX13_isRun_100 ?_
                refine lv_iconst (v := 2) hx hb dX13_isRun_103 (by decide) ?_
                refine lv_iadd hx hb dX13_isRun_104 ?_
                refine lv_topi (fun z104 e_z104 => ?_)
                have b_ := zadd rfl zk_2 e_z104 (by omega) (by omega)
                refine va_bald hx hb hK hP 1 0 rfl rfl (zin_lit ⟨by omega, by omega⟩) dX13_isRun_105 ?_
                refine lv_topi (fun z105 e_z105 => ?_)
                have hPc := hP.sub (ws' := []) [] rfl
                have hDc := hD.sub (ws' := []) [] (by decide) rfl
                have hKc := hK.sub (tys' := []) [] rfl
                have hFc := va_free (wc := []) hD hS hA [] rfl
                refine va_calli (va_runS (As := [.int z105]) (rest := []) ⟨hx, hb, hml, hown, hG⟩ (sX13_small_0 l dC dI adK adV H.size z105) (va_cwS 1 hG (zgS zv1870 zv1871 zv142 zv1872) rfl rfl rfl (by decide +kernel) ⟨Nat.le_of_ble_eq_true rfl, Nat.le_of_ble_eq_true rfl⟩) ⟨zPc_blind, zPc_pre hPc hKc hDc hE hS hFc hZ⟩ rfl rfl hl.1 rfl (lv_room (Nat.le_of_ble_eq_true rfl)) dX13_isRun_106 ⟨Nat.le_of_ble_eq_true rfl, Nat.le_of_ble_eq_true rfl⟩) hS (fun q _ h => hFc q h) hFc (fun r106_ u106_ t H1 locs ht hvm hw hB hz1 hk1 hS => ?_)
                replace hw : (r106_.toInt = zSml z105.toInt) := hw
                have hX106_0 := hw
                obtain ⟨w106_, a106_, b106_, hP1, hK1, hD1⟩ := hB
                rw [ht] at hP1
                obtain ⟨hP, hD⟩ := va_join (wr := [(h0, .inr (13, mX13 q0 v0)), ((q0 0), zi k1 600 f1)]) (w1 := []) hP hD [] [0, 1] rfl rfl (by decide) (by decide) hk1 hFc hP1 hD1
                have hP : va_P (dC, dI) vwCl [(h0, .inr (13, mX13 q0 v0)), ((q0 0), zi k1 600 f1)] H1 := hP.sub [0, 1] rfl
                have hD : va_D A [(h0, .inr (13, mX13 q0 v0)), ((q0 0), zi k1 600 f1)] := hD.sub [0, 1] (by decide) rfl
                generalize H1 = H at hP hS ⊢
                clear hz1
                refine lv_iload_n hx hb dX13_isRun_109 rfl (lv_at hl 4 rfl) ?_
                have b_ : -2147483648 ≤ r106_.toInt ∧ r106_.toInt ≤ 2147483647 := ⟨zlo _, zhi _⟩
                refine lv_icmp_ne (tgt := 167) hx hb dX13_isRun_110 (by decide) (fun c_ => ?_) (fun c_ => ?_)
                · skip
                  have b_ := zT_ne rfl rfl c_
                  refine lv_iconst (v := 0) hx hb dX13_isRun_167 (by decide) ?_
                  refine W.widen (k := 0) (n := 0) (by decide) (by decide) ?_
                  have hpost : (0 ≤ (0 : Int32).toInt ∧ (0 : Int32).toInt ≤ 1) ∧ ((0 : Int32).toInt = 1 → (v0 36).toInt = 1) ∧ ((0 : Int32).toInt = 1 → zMr f1 (v0 37).toInt (v0 35).toInt (v0 36).toInt x1.toInt x2.toInt x3.toInt x4.toInt x5.toInt) ∧ ((0 : Int32).toInt = 0 → ¬ zMr f1 (v0 37).toInt (v0 35).toInt (v0 36).toInt x1.toInt x2.toInt x3.toInt x4.toInt x5.toInt) := ⟨⟨by omega, by omega⟩, by omega, by first | (intro q; exact absurd q (by decide)) | exact fun _ => ⟨by omega, 2, by omega, by omega, zss e_z61 hX62_0 (by omega) (by omega), zss e_z79 hX80_0 (by omega) (by omega), by first | omega | exact Or.inr (zss e_z105 hX106_0 (by omega) (by omega)), by first | omega | exact Or.inr (zss e_z129 hX130_0 (by omega) (by omega)), by first | omega | exact Or.inr (zss e_z154 hX155_0 (by omega) (by omega))⟩ | exact fun _ => ⟨by omega, 3, by omega, by omega, zss e_z61 hX62_0 (by omega) (by omega), zss e_z79 hX80_0 (by omega) (by omega), by first | omega | exact Or.inr (zss e_z105 hX106_0 (by omega) (by omega)), by first | omega | exact Or.inr (zss e_z129 hX130_0 (by omega) (by omega)), by first | omega | exact Or.inr (zss e_z154 hX155_0 (by omega) (by omega))⟩ | exact fun _ => ⟨by omega, 4, by omega, by omega, zss e_z61 hX62_0 (by omega) (by omega), zss e_z79 hX80_0 (by omega) (by omega), by first | omega | exact Or.inr (zss e_z105 hX106_0 (by omega) (by omega)), by first | omega | exact Or.inr (zss e_z129 hX130_0 (by omega) (by omega)), by first | omega | exact Or.inr (zss e_z154 hX155_0 (by omega) (by omega))⟩ | exact fun _ => ⟨by omega, 5, by omega, by omega, zss e_z61 hX62_0 (by omega) (by omega), zss e_z79 hX80_0 (by omega) (by omega), by first | omega | exact Or.inr (zss e_z105 hX106_0 (by omega) (by omega)), by first | omega | exact Or.inr (zss e_z129 hX130_0 (by omega) (by omega)), by first | omega | exact Or.inr (zss e_z154 hX155_0 (by omega) (by omega))⟩, by first | (intro q; exact absurd q (by decide)) | exact fun _ => zMr_h (by omega) | exact fun _ => zMr_k (fun k_ y_ => by omega) | exact fun _ => zMr_0 e_z61 hX62_0 rfl (by omega) | exact fun _ => zMr_1 e_z79 hX80_0 (by omega) (by omega) | exact fun _ => zMr_2 e_z105 hX106_0 (by omega) (by omega) (by omega) | exact fun _ => zMr_3 e_z129 hX130_0 (by omega) (by omega) (by omega) | exact fun _ => zMr_4 e_z154 hX155_0 (by omega) (by omega) (by omega)⟩
                  have hP9 : va_P (dC, dI) vwCl [(h0, .inr (13, mX13 q0 v0)), ((q0 0), zi k1 600 f1)] H := hP
                  have hD9 : va_D A [(h0, .inr (13, mX13 q0 v0)), ((q0 0), zi k1 600 f1)] := hD
                  exact W.zret (v := 0) hx hb hr rfl (fun t ht hW => ⟨⟨0, (fun _ => 0), rfl, hpost, (fun _ => 0), (fun _ => (fun _ => 0)), (fun _ => (fun _ => 0)), by rw [ht]; exact hP9, va_K.moved hW.alike hK, hD9⟩, hS.F ht⟩) hS.2.2 dX13_isRun_168
                · skip
                  have b_ := zF_ne rfl rfl c_
                  refine lv_iload hx hb dX13_isRun_113 (lv_at hl 0 rfl) ?_
                  refine lv_iconst (v := 4) hx hb dX13_isRun_115 (by decide) ?_
                  refine lv_icmp_lt (tgt := 138) hx hb dX13_isRun_116 (by decide) (fun c_ => ?_) (fun c_ => absurd c_ (by decide))
                  refine lv_iload hx hb dX13_isRun_138 (lv_at hl 0 rfl) ?_
                  refine lv_iconst (v := 5) hx hb dX13_isRun_140 (by decide) ?_
                  refine lv_icmp_lt (tgt := 163) hx hb dX13_isRun_141 (by decide) (fun c_ => ?_) (fun c_ => absurd c_ (by decide))
                  refine lv_iconst (v := 1) hx hb dX13_isRun_163 (by decide) ?_
                  refine lv_goto (tgt := 168) hx hb dX13_isRun_164 (by decide) ?_
                  refine W.widen (k := 0) (n := 0) (by decide) (by decide) ?_
                  have hpost : (0 ≤ (1 : Int32).toInt ∧ (1 : Int32).toInt ≤ 1) ∧ ((1 : Int32).toInt = 1 → (v0 36).toInt = 1) ∧ ((1 : Int32).toInt = 1 → zMr f1 (v0 37).toInt (v0 35).toInt (v0 36).toInt x1.toInt x2.toInt x3.toInt x4.toInt x5.toInt) ∧ ((1 : Int32).toInt = 0 → ¬ zMr f1 (v0 37).toInt (v0 35).toInt (v0 36).toInt x1.toInt x2.toInt x3.toInt x4.toInt x5.toInt) := ⟨⟨by omega, by omega⟩, by omega, by first | (intro q; exact absurd q (by decide)) | exact fun _ => ⟨by omega, 2, by omega, by omega, zss e_z61 hX62_0 (by omega) (by omega), zss e_z79 hX80_0 (by omega) (by omega), by first | omega | exact Or.inr (zss e_z105 hX106_0 (by omega) (by omega)), by first | omega | exact Or.inr (zss e_z129 hX130_0 (by omega) (by omega)), by first | omega | exact Or.inr (zss e_z154 hX155_0 (by omega) (by omega))⟩ | exact fun _ => ⟨by omega, 3, by omega, by omega, zss e_z61 hX62_0 (by omega) (by omega), zss e_z79 hX80_0 (by omega) (by omega), by first | omega | exact Or.inr (zss e_z105 hX106_0 (by omega) (by omega)), by first | omega | exact Or.inr (zss e_z129 hX130_0 (by omega) (by omega)), by first | omega | exact Or.inr (zss e_z154 hX155_0 (by omega) (by omega))⟩ | exact fun _ => ⟨by omega, 4, by omega, by omega, zss e_z61 hX62_0 (by omega) (by omega), zss e_z79 hX80_0 (by omega) (by omega), by first | omega | exact Or.inr (zss e_z105 hX106_0 (by omega) (by omega)), by first | omega | exact Or.inr (zss e_z129 hX130_0 (by omega) (by omega)), by first | omega | exact Or.inr (zss e_z154 hX155_0 (by omega) (by omega))⟩ | exact fun _ => ⟨by omega, 5, by omega, by omega, zss e_z61 hX62_0 (by omega) (by omega), zss e_z79 hX80_0 (by omega) (by omega), by first | omega | exact Or.inr (zss e_z105 hX106_0 (by omega) (by omega)), by first | omega | exact Or.inr (zss e_z129 hX130_0 (by omega) (by omega)), by first | omega | exact Or.inr (zss e_z154 hX155_0 (by omega) (by omega))⟩, by first | (intro q; exact absurd q (by decide)) | exact fun _ => zMr_h (by omega) | exact fun _ => zMr_k (fun k_ y_ => by omega) | exact fun _ => zMr_0 e_z61 hX62_0 rfl (by omega) | exact fun _ => zMr_1 e_z79 hX80_0 (by omega) (by omega) | exact fun _ => zMr_2 e_z105 hX106_0 (by omega) (by omega) (by omega) | exact fun _ => zMr_3 e_z129 hX130_0 (by omega) (by omega) (by omega) | exact fun _ => zMr_4 e_z154 hX155_0 (by omega) (by omega) (by omega)⟩
                  have hP9 : va_P (dC, dI) vwCl [(h0, .inr (13, mX13 q0 v0)), ((q0 0), zi k1 600 f1)] H := hP
                  have hD9 : va_D A [(h0, .inr (13, mX13 q0 v0)), ((q0 0), zi k1 600 f1)] := hD
                  exact W.zret (v := 1) hx hb hr rfl (fun t ht hW => ⟨⟨1, (fun _ => 0), rfl, hpost, (fun _ => 0), (fun _ => (fun _ => 0)), (fun _ => (fun _ => 0)), by rw [ht]; exact hP9, va_K.moved hW.alike hK, hD9⟩, hS.F ht⟩) hS.2.2 dX13_isRun_168
              · skip
                have b_ := zF_eq rfl rfl c_
                refine lv_iconst (v := 0) hx hb dX13_isRun_87 (by decide) ?_
                refine W.widen (k := 0) (n := 0) (by decide) (by decide) ?_
                have hpost : (0 ≤ (0 : Int32).toInt ∧ (0 : Int32).toInt ≤ 1) ∧ ((0 : Int32).toInt = 1 → (v0 36).toInt = 1) ∧ ((0 : Int32).toInt = 1 → zMr f1 (v0 37).toInt (v0 35).toInt (v0 36).toInt x1.toInt x2.toInt x3.toInt x4.toInt x5.toInt) ∧ ((0 : Int32).toInt = 0 → ¬ zMr f1 (v0 37).toInt (v0 35).toInt (v0 36).toInt x1.toInt x2.toInt x3.toInt x4.toInt x5.toInt) := ⟨⟨by omega, by omega⟩, by omega, by first | (intro q; exact absurd q (by decide)) | exact fun _ => ⟨by omega, 2, by omega, by omega, zss e_z61 hX62_0 (by omega) (by omega), zss e_z79 hX80_0 (by omega) (by omega), by first | omega | exact Or.inr (zss e_z105 hX106_0 (by omega) (by omega)), by first | omega | exact Or.inr (zss e_z129 hX130_0 (by omega) (by omega)), by first | omega | exact Or.inr (zss e_z154 hX155_0 (by omega) (by omega))⟩ | exact fun _ => ⟨by omega, 3, by omega, by omega, zss e_z61 hX62_0 (by omega) (by omega), zss e_z79 hX80_0 (by omega) (by omega), by first | omega | exact Or.inr (zss e_z105 hX106_0 (by omega) (by omega)), by first | omega | exact Or.inr (zss e_z129 hX130_0 (by omega) (by omega)), by first | omega | exact Or.inr (zss e_z154 hX155_0 (by omega) (by omega))⟩ | exact fun _ => ⟨by omega, 4, by omega, by omega, zss e_z61 hX62_0 (by omega) (by omega), zss e_z79 hX80_0 (by omega) (by omega), by first | omega | exact Or.inr (zss e_z105 hX106_0 (by omega) (by omega)), by first | omega | exact Or.inr (zss e_z129 hX130_0 (by omega) (by omega)), by first | omega | exact Or.inr (zss e_z154 hX155_0 (by omega) (by omega))⟩ | exact fun _ => ⟨by omega, 5, by omega, by omega, zss e_z61 hX62_0 (by omega) (by omega), zss e_z79 hX80_0 (by omega) (by omega), by first | omega | exact Or.inr (zss e_z105 hX106_0 (by omega) (by omega)), by first | omega | exact Or.inr (zss e_z129 hX130_0 (by omega) (by omega)), by first | omega | exact Or.inr (zss e_z154 hX155_0 (by omega) (by omega))⟩, by first | (intro q; exact absurd q (by decide)) | exact fun _ => zMr_h (by omega) | exact fun _ => zMr_k (fun k_ y_ => by omega) | exact fun _ => zMr_0 e_z61 hX62_0 rfl (by omega) | exact fun _ => zMr_1 e_z79 hX80_0 (by omega) (by omega) | exact fun _ => zMr_2 e_z105 hX106_0 (by omega) (by omega) (by omega) | exact fun _ => zMr_3 e_z129 hX130_0 (by omega) (by omega) (by omega) | exact fun _ => zMr_4 e_z154 hX155_0 (by omega) (by omega) (by omega)⟩
                have hP9 : va_P (dC, dI) vwCl [(h0, .inr (13, mX13 q0 v0)), ((q0 0), zi k1 600 f1)] H := hP
                have hD9 : va_D A [(h0, .inr (13, mX13 q0 v0)), ((q0 0), zi k1 600 f1)] := hD
                exact W.zret (v := 0) hx hb hr rfl (fun t ht hW => ⟨⟨0, (fun _ => 0), rfl, hpost, (fun _ => 0), (fun _ => (fun _ => 0)), (fun _ => (fun _ => 0)), by rw [ht]; exact hP9, va_K.moved hW.alike hK, hD9⟩, hS.F ht⟩) hS.2.2 dX13_isRun_88
      · skip
        have b_ := zF_eq rfl zk_0 c_
        refine lv_iconst (v := 4) hx hb dX13_isRun_24 (by decide) ?_
        refine lv_goto (tgt := 37) hx hb dX13_isRun_25 (by decide) ?_
        refine lv_istore (lv' := [(6, .int 4), (0, .ref h0), (1, .int x1), (2, .int x2), (3, .int x3), (4, .int x4), (5, .int x5)]) hx hb dX13_isRun_37 hl (by decide) rfl (fun ls hl => ?_)
        refine lv_aload_n hx hb dX13_isRun_39 rfl (lv_at hl 1 rfl) ?_
        refine va_get (D := (dC, dI)) (ci := 13) (v := .int (v0 35)) (C := RX13) (T := TX13) (N := 75) hx hb hG zuX13 hown hK hP 0 rfl rfl 35 (by decide) (hG _ zv1639) (fun _ h9 => h9) rfl dX13_isRun_40 ?_
        refine lv_aload_n hx hb dX13_isRun_43 rfl (lv_at hl 1 rfl) ?_
        refine va_get (D := (dC, dI)) (ci := 13) (v := .int (v0 37)) (C := RX13) (T := TX13) (N := 75) hx hb hG zuX13 hown hK hP 0 rfl rfl 37 (by decide) (hG _ zv1641) (fun _ h9 => h9) rfl dX13_isRun_44 ?_
        refine lv_isub hx hb dX13_isRun_47 ?_
        refine lv_topi (fun z47 e_z47 => ?_)
        have b_ := zsub rfl rfl e_z47 (by omega) (by omega)
        refine lv_iload hx hb dX13_isRun_48 (lv_at hl 0 rfl) ?_
        refine lv_icmp_ne (tgt := 87) hx hb dX13_isRun_50 (by decide) (fun c_ => ?_) (fun c_ => ?_)
        · skip
          have b_ := zT_ne rfl zk_4 c_
          refine lv_iconst (v := 0) hx hb dX13_isRun_87 (by decide) ?_
          refine W.widen (k := 0) (n := 0) (by decide) (by decide) ?_
          have hpost : (0 ≤ (0 : Int32).toInt ∧ (0 : Int32).toInt ≤ 1) ∧ ((0 : Int32).toInt = 1 → (v0 36).toInt = 1) ∧ ((0 : Int32).toInt = 1 → zMr f1 (v0 37).toInt (v0 35).toInt (v0 36).toInt x1.toInt x2.toInt x3.toInt x4.toInt x5.toInt) ∧ ((0 : Int32).toInt = 0 → ¬ zMr f1 (v0 37).toInt (v0 35).toInt (v0 36).toInt x1.toInt x2.toInt x3.toInt x4.toInt x5.toInt) := ⟨⟨by omega, by omega⟩, by omega, by first | (intro q; exact absurd q (by decide)) | exact fun _ => ⟨by omega, 2, by omega, by omega, zss e_z61 hX62_0 (by omega) (by omega), zss e_z79 hX80_0 (by omega) (by omega), by first | omega | exact Or.inr (zss e_z105 hX106_0 (by omega) (by omega)), by first | omega | exact Or.inr (zss e_z129 hX130_0 (by omega) (by omega)), by first | omega | exact Or.inr (zss e_z154 hX155_0 (by omega) (by omega))⟩ | exact fun _ => ⟨by omega, 3, by omega, by omega, zss e_z61 hX62_0 (by omega) (by omega), zss e_z79 hX80_0 (by omega) (by omega), by first | omega | exact Or.inr (zss e_z105 hX106_0 (by omega) (by omega)), by first | omega | exact Or.inr (zss e_z129 hX130_0 (by omega) (by omega)), by first | omega | exact Or.inr (zss e_z154 hX155_0 (by omega) (by omega))⟩ | exact fun _ => ⟨by omega, 4, by omega, by omega, zss e_z61 hX62_0 (by omega) (by omega), zss e_z79 hX80_0 (by omega) (by omega), by first | omega | exact Or.inr (zss e_z105 hX106_0 (by omega) (by omega)), by first | omega | exact Or.inr (zss e_z129 hX130_0 (by omega) (by omega)), by first | omega | exact Or.inr (zss e_z154 hX155_0 (by omega) (by omega))⟩ | exact fun _ => ⟨by omega, 5, by omega, by omega, zss e_z61 hX62_0 (by omega) (by omega), zss e_z79 hX80_0 (by omega) (by omega), by first | omega | exact Or.inr (zss e_z105 hX106_0 (by omega) (by omega)), by first | omega | exact Or.inr (zss e_z129 hX130_0 (by omega) (by omega)), by first | omega | exact Or.inr (zss e_z154 hX155_0 (by omega) (by omega))⟩, by first | (intro q; exact absurd q (by decide)) | exact fun _ => zMr_h (by omega) | exact fun _ => zMr_k (fun k_ y_ => by omega) | exact fun _ => zMr_0 e_z61 hX62_0 rfl (by omega) | exact fun _ => zMr_1 e_z79 hX80_0 (by omega) (by omega) | exact fun _ => zMr_2 e_z105 hX106_0 (by omega) (by omega) (by omega) | exact fun _ => zMr_3 e_z129 hX130_0 (by omega) (by omega) (by omega) | exact fun _ => zMr_4 e_z154 hX155_0 (by omega) (by omega) (by omega)⟩
          have hP9 : va_P (dC, dI) vwCl [(h0, .inr (13, mX13 q0 v0)), ((q0 0), zi k1 600 f1)] s.heap := hP
          have hD9 : va_D A [(h0, .inr (13, mX13 q0 v0)), ((q0 0), zi k1 600 f1)] := hD
          exact W.zret (v := 0) hx hb hr rfl (fun t ht hW => ⟨⟨0, (fun _ => 0), rfl, hpost, (fun _ => 0), (fun _ => (fun _ => 0)), (fun _ => (fun _ => 0)), by rw [ht]; exact hP9, va_K.moved hW.alike hK, hD9⟩, hS.F ht⟩) hS.2.2 dX13_isRun_88
        · skip
          have b_ := zF_ne rfl zk_4 c_
          refine lv_aload_n hx hb dX13_isRun_53 rfl (lv_at hl 1 rfl) ?_
          refine va_get (D := (dC, dI)) (ci := 13) (v := .ref (q0 0)) (C := RX13) (T := TX13) (N := 75) hx hb hG zuX13 hown hK hP 0 rfl rfl 0 (by decide) (hG _ zv1604) (fun _ h9 => h9) rfl dX13_isRun_54 ?_
          refine lv_aload_n hx hb dX13_isRun_57 rfl (lv_at hl 1 rfl) ?_
          refine va_get (D := (dC, dI)) (ci := 13) (v := .int (v0 37)) (C := RX13) (T := TX13) (N := 75) hx hb hG zuX13 hown hK hP 0 rfl rfl 37 (by decide) (hG _ zv1641) (fun _ h9 => h9) rfl dX13_isRun_58 ?_
          refine va_bald hx hb hK hP 1 0 rfl rfl (zin_lit ⟨by omega, by omega⟩) dX13_isRun_61 ?_
          refine lv_topi (fun z61 e_z61 => ?_)
          have hPc := hP.sub (ws' := []) [] rfl
          have hDc := hD.sub (ws' := []) [] (by decide) rfl
          have hKc := hK.sub (tys' := []) [] rfl
          have hFc := va_free (wc := []) hD hS hA [] rfl
          refine va_calli (va_runS (As := [.int z61]) (rest := []) ⟨hx, hb, hml, hown, hG⟩ (sX13_small_0 l dC dI adK adV s.heap.size z61) (va_cwS 1 hG (zgS zv1870 zv1871 zv142 zv1872) rfl rfl rfl (by decide +kernel) ⟨Nat.le_of_ble_eq_true rfl, Nat.le_of_ble_eq_true rfl⟩) ⟨zPc_blind, zPc_pre hPc hKc hDc hE hS hFc hZ⟩ rfl rfl hl.1 rfl (lv_room (Nat.le_of_ble_eq_true rfl)) dX13_isRun_62 ⟨Nat.le_of_ble_eq_true rfl, Nat.le_of_ble_eq_true rfl⟩) hS (fun q _ h => hFc q h) hFc (fun r62_ u62_ t H1 locs ht hvm hw hB hz1 hk1 hS => ?_)
          replace hw : (r62_.toInt = zSml z61.toInt) := hw
          have hX62_0 := hw
          obtain ⟨w62_, a62_, b62_, hP1, hK1, hD1⟩ := hB
          rw [ht] at hP1
          obtain ⟨hP, hD⟩ := va_join (wr := [(h0, .inr (13, mX13 q0 v0)), ((q0 0), zi k1 600 f1)]) (w1 := []) hP hD [] [0, 1] rfl rfl (by decide) (by decide) hk1 hFc hP1 hD1
          have hP : va_P (dC, dI) vwCl [(h0, .inr (13, mX13 q0 v0)), ((q0 0), zi k1 600 f1)] H1 := hP.sub [0, 1] rfl
          have hD : va_D A [(h0, .inr (13, mX13 q0 v0)), ((q0 0), zi k1 600 f1)] := hD.sub [0, 1] (by decide) rfl
          generalize H1 = H at hP hS ⊢
          clear hz1
          refine lv_iload_n hx hb dX13_isRun_65 rfl (lv_at hl 2 rfl) ?_
          have b_ : -2147483648 ≤ r62_.toInt ∧ r62_.toInt ≤ 2147483647 := ⟨zlo _, zhi _⟩
          have b_ : -2147483648 ≤ x1.toInt ∧ x1.toInt ≤ 2147483647 := ⟨zlo _, zhi _⟩
          refine lv_icmp_ne (tgt := 87) hx hb dX13_isRun_66 (by decide) (fun c_ => ?_) (fun c_ => ?_)
          · skip
            have b_ := zT_ne rfl rfl c_
            refine lv_iconst (v := 0) hx hb dX13_isRun_87 (by decide) ?_
            refine W.widen (k := 0) (n := 0) (by decide) (by decide) ?_
            have hpost : (0 ≤ (0 : Int32).toInt ∧ (0 : Int32).toInt ≤ 1) ∧ ((0 : Int32).toInt = 1 → (v0 36).toInt = 1) ∧ ((0 : Int32).toInt = 1 → zMr f1 (v0 37).toInt (v0 35).toInt (v0 36).toInt x1.toInt x2.toInt x3.toInt x4.toInt x5.toInt) ∧ ((0 : Int32).toInt = 0 → ¬ zMr f1 (v0 37).toInt (v0 35).toInt (v0 36).toInt x1.toInt x2.toInt x3.toInt x4.toInt x5.toInt) := ⟨⟨by omega, by omega⟩, by omega, by first | (intro q; exact absurd q (by decide)) | exact fun _ => ⟨by omega, 2, by omega, by omega, zss e_z61 hX62_0 (by omega) (by omega), zss e_z79 hX80_0 (by omega) (by omega), by first | omega | exact Or.inr (zss e_z105 hX106_0 (by omega) (by omega)), by first | omega | exact Or.inr (zss e_z129 hX130_0 (by omega) (by omega)), by first | omega | exact Or.inr (zss e_z154 hX155_0 (by omega) (by omega))⟩ | exact fun _ => ⟨by omega, 3, by omega, by omega, zss e_z61 hX62_0 (by omega) (by omega), zss e_z79 hX80_0 (by omega) (by omega), by first | omega | exact Or.inr (zss e_z105 hX106_0 (by omega) (by omega)), by first | omega | exact Or.inr (zss e_z129 hX130_0 (by omega) (by omega)), by first | omega | exact Or.inr (zss e_z154 hX155_0 (by omega) (by omega))⟩ | exact fun _ => ⟨by omega, 4, by omega, by omega, zss e_z61 hX62_0 (by omega) (by omega), zss e_z79 hX80_0 (by omega) (by omega), by first | omega | exact Or.inr (zss e_z105 hX106_0 (by omega) (by omega)), by first | omega | exact Or.inr (zss e_z129 hX130_0 (by omega) (by omega)), by first | omega | exact Or.inr (zss e_z154 hX155_0 (by omega) (by omega))⟩ | exact fun _ => ⟨by omega, 5, by omega, by omega, zss e_z61 hX62_0 (by omega) (by omega), zss e_z79 hX80_0 (by omega) (by omega), by first | omega | exact Or.inr (zss e_z105 hX106_0 (by omega) (by omega)), by first | omega | exact Or.inr (zss e_z129 hX130_0 (by omega) (by omega)), by first | omega | exact Or.inr (zss e_z154 hX155_0 (by omega) (by omega))⟩, by first | (intro q; exact absurd q (by decide)) | exact fun _ => zMr_h (by omega) | exact fun _ => zMr_k (fun k_ y_ => by omega) | exact fun _ => zMr_0 e_z61 hX62_0 rfl (by omega) | exact fun _ => zMr_1 e_z79 hX80_0 (by omega) (by omega) | exact fun _ => zMr_2 e_z105 hX106_0 (by omega) (by omega) (by omega) | exact fun _ => zMr_3 e_z129 hX130_0 (by omega) (by omega) (by omega) | exact fun _ => zMr_4 e_z154 hX155_0 (by omega) (by omega) (by omega)⟩
            have hP9 : va_P (dC, dI) vwCl [(h0, .inr (13, mX13 q0 v0)), ((q0 0), zi k1 600 f1)] H := hP
            have hD9 : va_D A [(h0, .inr (13, mX13 q0 v0)), ((q0 0), zi k1 600 f1)] := hD
            exact W.zret (v := 0) hx hb hr rfl (fun t ht hW => ⟨⟨0, (fun _ => 0), rfl, hpost, (fun _ => 0), (fun _ => (fun _ => 0)), (fun _ => (fun _ => 0)), by rw [ht]; exact hP9, va_K.moved hW.alike hK, hD9⟩, hS.F ht⟩) hS.2.2 dX13_isRun_88
          · skip
            have b_ := zF_ne rfl rfl c_
            refine lv_aload_n hx hb dX13_isRun_69 rfl (lv_at hl 1 rfl) ?_
            refine va_get (D := (dC, dI)) (ci := 13) (v := .ref (q0 0)) (C := RX13) (T := TX13) (N := 75) hx hb hG zuX13 hown hK hP 0 rfl rfl 0 (by decide) (hG _ zv1604) (fun _ h9 => h9) rfl dX13_isRun_70 ?_
            refine lv_aload_n hx hb dX13_isRun_73 rfl (lv_at hl 1 rfl) ?_
            refine va_get (D := (dC, dI)) (ci := 13) (v := .int (v0 37)) (C := RX13) (T := TX13) (N := 75) hx hb hG zuX13 hown hK hP 0 rfl rfl 37 (by decide) (hG _ zv1641) (fun _ h9 => h9) rfl dX13_isRun_74 ?_
            refine lv_iconst (v := 1) hx hb dX13_isRun_77 (by decide) ?_
            refine lv_iadd hx hb dX13_isRun_78 ?_
            refine lv_topi (fun z78 e_z78 => ?_)
            have b_ := zadd rfl zk_1 e_z78 (by omega) (by omega)
            refine va_bald hx hb hK hP 1 0 rfl rfl (zin_lit ⟨by omega, by omega⟩) dX13_isRun_79 ?_
            refine lv_topi (fun z79 e_z79 => ?_)
            have hPc := hP.sub (ws' := []) [] rfl
            have hDc := hD.sub (ws' := []) [] (by decide) rfl
            have hKc := hK.sub (tys' := []) [] rfl
            have hFc := va_free (wc := []) hD hS hA [] rfl
            refine va_calli (va_runS (As := [.int z79]) (rest := []) ⟨hx, hb, hml, hown, hG⟩ (sX13_small_0 l dC dI adK adV H.size z79) (va_cwS 1 hG (zgS zv1870 zv1871 zv142 zv1872) rfl rfl rfl (by decide +kernel) ⟨Nat.le_of_ble_eq_true rfl, Nat.le_of_ble_eq_true rfl⟩) ⟨zPc_blind, zPc_pre hPc hKc hDc hE hS hFc hZ⟩ rfl rfl hl.1 rfl (lv_room (Nat.le_of_ble_eq_true rfl)) dX13_isRun_80 ⟨Nat.le_of_ble_eq_true rfl, Nat.le_of_ble_eq_true rfl⟩) hS (fun q _ h => hFc q h) hFc (fun r80_ u80_ t H1 locs ht hvm hw hB hz1 hk1 hS => ?_)
            replace hw : (r80_.toInt = zSml z79.toInt) := hw
            have hX80_0 := hw
            obtain ⟨w80_, a80_, b80_, hP1, hK1, hD1⟩ := hB
            rw [ht] at hP1
            obtain ⟨hP, hD⟩ := va_join (wr := [(h0, .inr (13, mX13 q0 v0)), ((q0 0), zi k1 600 f1)]) (w1 := []) hP hD [] [0, 1] rfl rfl (by decide) (by decide) hk1 hFc hP1 hD1
            have hP : va_P (dC, dI) vwCl [(h0, .inr (13, mX13 q0 v0)), ((q0 0), zi k1 600 f1)] H1 := hP.sub [0, 1] rfl
            have hD : va_D A [(h0, .inr (13, mX13 q0 v0)), ((q0 0), zi k1 600 f1)] := hD.sub [0, 1] (by decide) rfl
            generalize H1 = H at hP hS ⊢
            clear hz1
            refine lv_iload_n hx hb dX13_isRun_83 rfl (lv_at hl 3 rfl) ?_
            have b_ : -2147483648 ≤ r80_.toInt ∧ r80_.toInt ≤ 2147483647 := ⟨zlo _, zhi _⟩
            have b_ : -2147483648 ≤ x2.toInt ∧ x2.toInt ≤ 2147483647 := ⟨zlo _, zhi _⟩
            refine lv_icmp_eq (tgt := 89) hx hb dX13_isRun_84 (by decide) (fun c_ => ?_) (fun c_ => ?_)
            · skip
              have b_ := zT_eq rfl rfl c_
              refine lv_iload hx hb dX13_isRun_89 (lv_at hl 0 rfl) ?_
              refine lv_iconst (v := 3) hx hb dX13_isRun_91 (by decide) ?_
              refine lv_icmp_lt (tgt := 113) hx hb dX13_isRun_92 (by decide) (fun c_ => absurd c_ (by decide)) (fun c_ => ?_)
              refine lv_aload_n hx hb dX13_isRun_95 rfl (lv_at hl 1 rfl) ?_
              refine va_get (D := (dC, dI)) (ci := 13) (v := .ref (q0 0)) (C := RX13) (T := TX13) (N := 75) hx hb hG zuX13 hown hK hP 0 rfl rfl 0 (by decide) (hG _ zv1604) (fun _ h9 => h9) rfl dX13_isRun_96 ?_
              refine lv_aload_n hx hb dX13_isRun_99 rfl (lv_at hl 1 rfl) ?_
              refine va_get (D := (dC, dI)) (ci := 13) (v := .int (v0 37)) (C := RX13) (T := TX13) (N := 75) hx hb hG zuX13 hown hK hP 0 rfl rfl 37 (by decide) (hG _ zv1641) (fun _ h9 => h9) rfl dX13_isRun_100 ?_
              refine lv_iconst (v := 2) hx hb dX13_isRun_103 (by decide) ?_
              refine lv_iadd hx hb dX13_isRun_104 ?_
              refine lv_topi (fun z104 e_z104 => ?_)
              have b_ := zadd rfl zk_2 e_z104 (by omega) (by omega)
              refine va_bald hx hb hK hP 1 0 rfl rfl (zin_lit ⟨by omega, by omega⟩) dX13_isRun_105 ?_
              refine lv_topi (fun z105 e_z105 => ?_)
              have hPc := hP.sub (ws' := []) [] rfl
              have hDc := hD.sub (ws' := []) [] (by decide) rfl
              have hKc := hK.sub (tys' := []) [] rfl
              have hFc := va_free (wc := []) hD hS hA [] rfl
              refine va_calli (va_runS (As := [.int z105]) (rest := []) ⟨hx, hb, hml, hown, hG⟩ (sX13_small_0 l dC dI adK adV H.size z105) (va_cwS 1 hG (zgS zv1870 zv1871 zv142 zv1872) rfl rfl rfl (by decide +kernel) ⟨Nat.le_of_ble_eq_true rfl, Nat.le_of_ble_eq_true rfl⟩) ⟨zPc_blind, zPc_pre hPc hKc hDc hE hS hFc hZ⟩ rfl rfl hl.1 rfl (lv_room (Nat.le_of_ble_eq_true rfl)) dX13_isRun_106 ⟨Nat.le_of_ble_eq_true rfl, Nat.le_of_ble_eq_true rfl⟩) hS (fun q _ h => hFc q h) hFc (fun r106_ u106_ t H1 locs ht hvm hw hB hz1 hk1 hS => ?_)
              replace hw : (r106_.toInt = zSml z105.toInt) := hw
              have hX106_0 := hw
              obtain ⟨w106_, a106_, b106_, hP1, hK1, hD1⟩ := hB
              rw [ht] at hP1
              obtain ⟨hP, hD⟩ := va_join (wr := [(h0, .inr (13, mX13 q0 v0)), ((q0 0), zi k1 600 f1)]) (w1 := []) hP hD [] [0, 1] rfl rfl (by decide) (by decide) hk1 hFc hP1 hD1
              have hP : va_P (dC, dI) vwCl [(h0, .inr (13, mX13 q0 v0)), ((q0 0), zi k1 600 f1)] H1 := hP.sub [0, 1] rfl
              have hD : va_D A [(h0, .inr (13, mX13 q0 v0)), ((q0 0), zi k1 600 f1)] := hD.sub [0, 1] (by decide) rfl
              generalize H1 = H at hP hS ⊢
              clear hz1
              refine lv_iload_n hx hb dX13_isRun_109 rfl (lv_at hl 4 rfl) ?_
              have b_ : -2147483648 ≤ r106_.toInt ∧ r106_.toInt ≤ 2147483647 := ⟨zlo _, zhi _⟩
              have b_ : -2147483648 ≤ x3.toInt ∧ x3.toInt ≤ 2147483647 := ⟨zlo _, zhi _⟩
              refine lv_icmp_ne (tgt := 167) hx hb dX13_isRun_110 (by decide) (fun c_ => ?_) (fun c_ => ?_)
              · skip
                have b_ := zT_ne rfl rfl c_
                refine lv_iconst (v := 0) hx hb dX13_isRun_167 (by decide) ?_
                refine W.widen (k := 0) (n := 0) (by decide) (by decide) ?_
                have hpost : (0 ≤ (0 : Int32).toInt ∧ (0 : Int32).toInt ≤ 1) ∧ ((0 : Int32).toInt = 1 → (v0 36).toInt = 1) ∧ ((0 : Int32).toInt = 1 → zMr f1 (v0 37).toInt (v0 35).toInt (v0 36).toInt x1.toInt x2.toInt x3.toInt x4.toInt x5.toInt) ∧ ((0 : Int32).toInt = 0 → ¬ zMr f1 (v0 37).toInt (v0 35).toInt (v0 36).toInt x1.toInt x2.toInt x3.toInt x4.toInt x5.toInt) := ⟨⟨by omega, by omega⟩, by omega, by first | (intro q; exact absurd q (by decide)) | exact fun _ => ⟨by omega, 2, by omega, by omega, zss e_z61 hX62_0 (by omega) (by omega), zss e_z79 hX80_0 (by omega) (by omega), by first | omega | exact Or.inr (zss e_z105 hX106_0 (by omega) (by omega)), by first | omega | exact Or.inr (zss e_z129 hX130_0 (by omega) (by omega)), by first | omega | exact Or.inr (zss e_z154 hX155_0 (by omega) (by omega))⟩ | exact fun _ => ⟨by omega, 3, by omega, by omega, zss e_z61 hX62_0 (by omega) (by omega), zss e_z79 hX80_0 (by omega) (by omega), by first | omega | exact Or.inr (zss e_z105 hX106_0 (by omega) (by omega)), by first | omega | exact Or.inr (zss e_z129 hX130_0 (by omega) (by omega)), by first | omega | exact Or.inr (zss e_z154 hX155_0 (by omega) (by omega))⟩ | exact fun _ => ⟨by omega, 4, by omega, by omega, zss e_z61 hX62_0 (by omega) (by omega), zss e_z79 hX80_0 (by omega) (by omega), by first | omega | exact Or.inr (zss e_z105 hX106_0 (by omega) (by omega)), by first | omega | exact Or.inr (zss e_z129 hX130_0 (by omega) (by omega)), by first | omega | exact Or.inr (zss e_z154 hX155_0 (by omega) (by omega))⟩ | exact fun _ => ⟨by omega, 5, by omega, by omega, zss e_z61 hX62_0 (by omega) (by omega), zss e_z79 hX80_0 (by omega) (by omega), by first | omega | exact Or.inr (zss e_z105 hX106_0 (by omega) (by omega)), by first | omega | exact Or.inr (zss e_z129 hX130_0 (by omega) (by omega)), by first | omega | exact Or.inr (zss e_z154 hX155_0 (by omega) (by omega))⟩, by first | (intro q; exact absurd q (by decide)) | exact fun _ => zMr_h (by omega) | exact fun _ => zMr_k (fun k_ y_ => by omega) | exact fun _ => zMr_0 e_z61 hX62_0 rfl (by omega) | exact fun _ => zMr_1 e_z79 hX80_0 (by omega) (by omega) | exact fun _ => zMr_2 e_z105 hX106_0 (by omega) (by omega) (by omega) | exact fun _ => zMr_3 e_z129 hX130_0 (by omega) (by omega) (by omega) | exact fun _ => zMr_4 e_z154 hX155_0 (by omega) (by omega) (by omega)⟩
                have hP9 : va_P (dC, dI) vwCl [(h0, .inr (13, mX13 q0 v0)), ((q0 0), zi k1 600 f1)] H := hP
                have hD9 : va_D A [(h0, .inr (13, mX13 q0 v0)), ((q0 0), zi k1 600 f1)] := hD
                exact W.zret (v := 0) hx hb hr rfl (fun t ht hW => ⟨⟨0, (fun _ => 0), rfl, hpost, (fun _ => 0), (fun _ => (fun _ => 0)), (fun _ => (fun _ => 0)), by rw [ht]; exact hP9, va_K.moved hW.alike hK, hD9⟩, hS.F ht⟩) hS.2.2 dX13_isRun_168
              · skip
                have b_ := zF_ne rfl rfl c_
                refine lv_iload hx hb dX13_isRun_113 (lv_at hl 0 rfl) ?_
                refine lv_iconst (v := 4) hx hb dX13_isRun_115 (by decide) ?_
                refine lv_icmp_lt (tgt := 138) hx hb dX13_isRun_116 (by decide) (fun c_ => absurd c_ (by decide)) (fun c_ => ?_)
                refine lv_aload_n hx hb dX13_isRun_119 rfl (lv_at hl 1 rfl) ?_
                refine va_get (D := (dC, dI)) (ci := 13) (v := .ref (q0 0)) (C := RX13) (T := TX13) (N := 75) hx hb hG zuX13 hown hK hP 0 rfl rfl 0 (by decide) (hG _ zv1604) (fun _ h9 => h9) rfl dX13_isRun_120 ?_
                refine lv_aload_n hx hb dX13_isRun_123 rfl (lv_at hl 1 rfl) ?_
                refine va_get (D := (dC, dI)) (ci := 13) (v := .int (v0 37)) (C := RX13) (T := TX13) (N := 75) hx hb hG zuX13 hown hK hP 0 rfl rfl 37 (by decide) (hG _ zv1641) (fun _ h9 => h9) rfl dX13_isRun_124 ?_
                refine lv_iconst (v := 3) hx hb dX13_isRun_127 (by decide) ?_
                refine lv_iadd hx hb dX13_isRun_128 ?_
                refine lv_topi (fun z128 e_z128 => ?_)
                have b_ := zadd rfl zk_3 e_z128 (by omega) (by omega)
                refine va_bald hx hb hK hP 1 0 rfl rfl (zin_lit ⟨by omega, by omega⟩) dX13_isRun_129 ?_
                refine lv_topi (fun z129 e_z129 => ?_)
                have hPc := hP.sub (ws' := []) [] rfl
                have hDc := hD.sub (ws' := []) [] (by decide) rfl
                have hKc := hK.sub (tys' := []) [] rfl
                have hFc := va_free (wc := []) hD hS hA [] rfl
                refine va_calli (va_runS (As := [.int z129]) (rest := []) ⟨hx, hb, hml, hown, hG⟩ (sX13_small_0 l dC dI adK adV H.size z129) (va_cwS 1 hG (zgS zv1870 zv1871 zv142 zv1872) rfl rfl rfl (by decide +kernel) ⟨Nat.le_of_ble_eq_true rfl, Nat.le_of_ble_eq_true rfl⟩) ⟨zPc_blind, zPc_pre hPc hKc hDc hE hS hFc hZ⟩ rfl rfl hl.1 rfl (lv_room (Nat.le_of_ble_eq_true rfl)) dX13_isRun_130 ⟨Nat.le_of_ble_eq_true rfl, Nat.le_of_ble_eq_true rfl⟩) hS (fun q _ h => hFc q h) hFc (fun r130_ u130_ t H1 locs ht hvm hw hB hz1 hk1 hS => ?_)
                replace hw : (r130_.toInt = zSml z129.toInt) := hw
                have hX130_0 := hw
                obtain ⟨w130_, a130_, b130_, hP1, hK1, hD1⟩ := hB
                rw [ht] at hP1
                obtain ⟨hP, hD⟩ := va_join (wr := [(h0, .inr (13, mX13 q0 v0)), ((q0 0), zi k1 600 f1)]) (w1 := []) hP hD [] [0, 1] rfl rfl (by decide) (by decide) hk1 hFc hP1 hD1
                have hP : va_P (dC, dI) vwCl [(h0, .inr (13, mX13 q0 v0)), ((q0 0), zi k1 600 f1)] H1 := hP.sub [0, 1] rfl
                have hD : va_D A [(h0, .inr (13, mX13 q0 v0)), ((q0 0), zi k1 600 f1)] := hD.sub [0, 1] (by decide) rfl
                generalize H1 = H at hP hS ⊢
                clear hz1
                refine lv_iload hx hb dX13_isRun_133 (lv_at hl 5 rfl) ?_
                have b_ : -2147483648 ≤ r130_.toInt ∧ r130_.toInt ≤ 2147483647 := ⟨zlo _, zhi _⟩
                refine lv_icmp_ne (tgt := 167) hx hb dX13_isRun_135 (by decide) (fun c_ => ?_) (fun c_ => ?_)
                · skip
                  have b_ := zT_ne rfl rfl c_
                  refine lv_iconst (v := 0) hx hb dX13_isRun_167 (by decide) ?_
                  refine W.widen (k := 0) (n := 0) (by decide) (by decide) ?_
                  have hpost : (0 ≤ (0 : Int32).toInt ∧ (0 : Int32).toInt ≤ 1) ∧ ((0 : Int32).toInt = 1 → (v0 36).toInt = 1) ∧ ((0 : Int32).toInt = 1 → zMr f1 (v0 37).toInt (v0 35).toInt (v0 36).toInt x1.toInt x2.toInt x3.toInt x4.toInt x5.toInt) ∧ ((0 : Int32).toInt = 0 → ¬ zMr f1 (v0 37).toInt (v0 35).toInt (v0 36).toInt x1.toInt x2.toInt x3.toInt x4.toInt x5.toInt) := ⟨⟨by omega, by omega⟩, by omega, by first | (intro q; exact absurd q (by decide)) | exact fun _ => ⟨by omega, 2, by omega, by omega, zss e_z61 hX62_0 (by omega) (by omega), zss e_z79 hX80_0 (by omega) (by omega), by first | omega | exact Or.inr (zss e_z105 hX106_0 (by omega) (by omega)), by first | omega | exact Or.inr (zss e_z129 hX130_0 (by omega) (by omega)), by first | omega | exact Or.inr (zss e_z154 hX155_0 (by omega) (by omega))⟩ | exact fun _ => ⟨by omega, 3, by omega, by omega, zss e_z61 hX62_0 (by omega) (by omega), zss e_z79 hX80_0 (by omega) (by omega), by first | omega | exact Or.inr (zss e_z105 hX106_0 (by omega) (by omega)), by first | omega | exact Or.inr (zss e_z129 hX130_0 (by omega) (by omega)), by first | omega | exact Or.inr (zss e_z154 hX155_0 (by omega) (by omega))⟩ | exact fun _ => ⟨by omega, 4, by omega, by omega, zss e_z61 hX62_0 (by omega) (by omega), zss e_z79 hX80_0 (by omega) (by omega), by first | omega | exact Or.inr (zss e_z105 hX106_0 (by omega) (by omega)), by first | omega | exact Or.inr (zss e_z129 hX130_0 (by omega) (by omega)), by first | omega | exact Or.inr (zss e_z154 hX155_0 (by omega) (by omega))⟩ | exact fun _ => ⟨by omega, 5, by omega, by omega, zss e_z61 hX62_0 (by omega) (by omega), zss e_z79 hX80_0 (by omega) (by omega), by first | omega | exact Or.inr (zss e_z105 hX106_0 (by omega) (by omega)), by first | omega | exact Or.inr (zss e_z129 hX130_0 (by omega) (by omega)), by first | omega | exact Or.inr (zss e_z154 hX155_0 (by omega) (by omega))⟩, by first | (intro q; exact absurd q (by decide)) | exact fun _ => zMr_h (by omega) | exact fun _ => zMr_k (fun k_ y_ => by omega) | exact fun _ => zMr_0 e_z61 hX62_0 rfl (by omega) | exact fun _ => zMr_1 e_z79 hX80_0 (by omega) (by omega) | exact fun _ => zMr_2 e_z105 hX106_0 (by omega) (by omega) (by omega) | exact fun _ => zMr_3 e_z129 hX130_0 (by omega) (by omega) (by omega) | exact fun _ => zMr_4 e_z154 hX155_0 (by omega) (by omega) (by omega)⟩
                  have hP9 : va_P (dC, dI) vwCl [(h0, .inr (13, mX13 q0 v0)), ((q0 0), zi k1 600 f1)] H := hP
                  have hD9 : va_D A [(h0, .inr (13, mX13 q0 v0)), ((q0 0), zi k1 600 f1)] := hD
                  exact W.zret (v := 0) hx hb hr rfl (fun t ht hW => ⟨⟨0, (fun _ => 0), rfl, hpost, (fun _ => 0), (fun _ => (fun _ => 0)), (fun _ => (fun _ => 0)), by rw [ht]; exact hP9, va_K.moved hW.alike hK, hD9⟩, hS.F ht⟩) hS.2.2 dX13_isRun_168
                · skip
                  have b_ := zF_ne rfl rfl c_
                  refine lv_iload hx hb dX13_isRun_138 (lv_at hl 0 rfl) ?_
                  refine lv_iconst (v := 5) hx hb dX13_isRun_140 (by decide) ?_
                  refine lv_icmp_lt (tgt := 163) hx hb dX13_isRun_141 (by decide) (fun c_ => ?_) (fun c_ => absurd c_ (by decide))
                  refine lv_iconst (v := 1) hx hb dX13_isRun_163 (by decide) ?_
                  refine lv_goto (tgt := 168) hx hb dX13_isRun_164 (by decide) ?_
                  refine W.widen (k := 0) (n := 0) (by decide) (by decide) ?_
                  have hpost : (0 ≤ (1 : Int32).toInt ∧ (1 : Int32).toInt ≤ 1) ∧ ((1 : Int32).toInt = 1 → (v0 36).toInt = 1) ∧ ((1 : Int32).toInt = 1 → zMr f1 (v0 37).toInt (v0 35).toInt (v0 36).toInt x1.toInt x2.toInt x3.toInt x4.toInt x5.toInt) ∧ ((1 : Int32).toInt = 0 → ¬ zMr f1 (v0 37).toInt (v0 35).toInt (v0 36).toInt x1.toInt x2.toInt x3.toInt x4.toInt x5.toInt) := ⟨⟨by omega, by omega⟩, by omega, by first | (intro q; exact absurd q (by decide)) | exact fun _ => ⟨by omega, 2, by omega, by omega, zss e_z61 hX62_0 (by omega) (by omega), zss e_z79 hX80_0 (by omega) (by omega), by first | omega | exact Or.inr (zss e_z105 hX106_0 (by omega) (by omega)), by first | omega | exact Or.inr (zss e_z129 hX130_0 (by omega) (by omega)), by first | omega | exact Or.inr (zss e_z154 hX155_0 (by omega) (by omega))⟩ | exact fun _ => ⟨by omega, 3, by omega, by omega, zss e_z61 hX62_0 (by omega) (by omega), zss e_z79 hX80_0 (by omega) (by omega), by first | omega | exact Or.inr (zss e_z105 hX106_0 (by omega) (by omega)), by first | omega | exact Or.inr (zss e_z129 hX130_0 (by omega) (by omega)), by first | omega | exact Or.inr (zss e_z154 hX155_0 (by omega) (by omega))⟩ | exact fun _ => ⟨by omega, 4, by omega, by omega, zss e_z61 hX62_0 (by omega) (by omega), zss e_z79 hX80_0 (by omega) (by omega), by first | omega | exact Or.inr (zss e_z105 hX106_0 (by omega) (by omega)), by first | omega | exact Or.inr (zss e_z129 hX130_0 (by omega) (by omega)), by first | omega | exact Or.inr (zss e_z154 hX155_0 (by omega) (by omega))⟩ | exact fun _ => ⟨by omega, 5, by omega, by omega, zss e_z61 hX62_0 (by omega) (by omega), zss e_z79 hX80_0 (by omega) (by omega), by first | omega | exact Or.inr (zss e_z105 hX106_0 (by omega) (by omega)), by first | omega | exact Or.inr (zss e_z129 hX130_0 (by omega) (by omega)), by first | omega | exact Or.inr (zss e_z154 hX155_0 (by omega) (by omega))⟩, by first | (intro q; exact absurd q (by decide)) | exact fun _ => zMr_h (by omega) | exact fun _ => zMr_k (fun k_ y_ => by omega) | exact fun _ => zMr_0 e_z61 hX62_0 rfl (by omega) | exact fun _ => zMr_1 e_z79 hX80_0 (by omega) (by omega) | exact fun _ => zMr_2 e_z105 hX106_0 (by omega) (by omega) (by omega) | exact fun _ => zMr_3 e_z129 hX130_0 (by omega) (by omega) (by omega) | exact fun _ => zMr_4 e_z154 hX155_0 (by omega) (by omega) (by omega)⟩
                  have hP9 : va_P (dC, dI) vwCl [(h0, .inr (13, mX13 q0 v0)), ((q0 0), zi k1 600 f1)] H := hP
                  have hD9 : va_D A [(h0, .inr (13, mX13 q0 v0)), ((q0 0), zi k1 600 f1)] := hD
                  exact W.zret (v := 1) hx hb hr rfl (fun t ht hW => ⟨⟨1, (fun _ => 0), rfl, hpost, (fun _ => 0), (fun _ => (fun _ => 0)), (fun _ => (fun _ => 0)), by rw [ht]; exact hP9, va_K.moved hW.alike hK, hD9⟩, hS.F ht⟩) hS.2.2 dX13_isRun_168
            · skip
              have b_ := zF_eq rfl rfl c_
              refine lv_iconst (v := 0) hx hb dX13_isRun_87 (by decide) ?_
              refine W.widen (k := 0) (n := 0) (by decide) (by decide) ?_
              have hpost : (0 ≤ (0 : Int32).toInt ∧ (0 : Int32).toInt ≤ 1) ∧ ((0 : Int32).toInt = 1 → (v0 36).toInt = 1) ∧ ((0 : Int32).toInt = 1 → zMr f1 (v0 37).toInt (v0 35).toInt (v0 36).toInt x1.toInt x2.toInt x3.toInt x4.toInt x5.toInt) ∧ ((0 : Int32).toInt = 0 → ¬ zMr f1 (v0 37).toInt (v0 35).toInt (v0 36).toInt x1.toInt x2.toInt x3.toInt x4.toInt x5.toInt) := ⟨⟨by omega, by omega⟩, by omega, by first | (intro q; exact absurd q (by decide)) | exact fun _ => ⟨by omega, 2, by omega, by omega, zss e_z61 hX62_0 (by omega) (by omega), zss e_z79 hX80_0 (by omega) (by omega), by first | omega | exact Or.inr (zss e_z105 hX106_0 (by omega) (by omega)), by first | omega | exact Or.inr (zss e_z129 hX130_0 (by omega) (by omega)), by first | omega | exact Or.inr (zss e_z154 hX155_0 (by omega) (by omega))⟩ | exact fun _ => ⟨by omega, 3, by omega, by omega, zss e_z61 hX62_0 (by omega) (by omega), zss e_z79 hX80_0 (by omega) (by omega), by first | omega | exact Or.inr (zss e_z105 hX106_0 (by omega) (by omega)), by first | omega | exact Or.inr (zss e_z129 hX130_0 (by omega) (by omega)), by first | omega | exact Or.inr (zss e_z154 hX155_0 (by omega) (by omega))⟩ | exact fun _ => ⟨by omega, 4, by omega, by omega, zss e_z61 hX62_0 (by omega) (by omega), zss e_z79 hX80_0 (by omega) (by omega), by first | omega | exact Or.inr (zss e_z105 hX106_0 (by omega) (by omega)), by first | omega | exact Or.inr (zss e_z129 hX130_0 (by omega) (by omega)), by first | omega | exact Or.inr (zss e_z154 hX155_0 (by omega) (by omega))⟩ | exact fun _ => ⟨by omega, 5, by omega, by omega, zss e_z61 hX62_0 (by omega) (by omega), zss e_z79 hX80_0 (by omega) (by omega), by first | omega | exact Or.inr (zss e_z105 hX106_0 (by omega) (by omega)), by first | omega | exact Or.inr (zss e_z129 hX130_0 (by omega) (by omega)), by first | omega | exact Or.inr (zss e_z154 hX155_0 (by omega) (by omega))⟩, by first | (intro q; exact absurd q (by decide)) | exact fun _ => zMr_h (by omega) | exact fun _ => zMr_k (fun k_ y_ => by omega) | exact fun _ => zMr_0 e_z61 hX62_0 rfl (by omega) | exact fun _ => zMr_1 e_z79 hX80_0 (by omega) (by omega) | exact fun _ => zMr_2 e_z105 hX106_0 (by omega) (by omega) (by omega) | exact fun _ => zMr_3 e_z129 hX130_0 (by omega) (by omega) (by omega) | exact fun _ => zMr_4 e_z154 hX155_0 (by omega) (by omega) (by omega)⟩
              have hP9 : va_P (dC, dI) vwCl [(h0, .inr (13, mX13 q0 v0)), ((q0 0), zi k1 600 f1)] H := hP
              have hD9 : va_D A [(h0, .inr (13, mX13 q0 v0)), ((q0 0), zi k1 600 f1)] := hD
              exact W.zret (v := 0) hx hb hr rfl (fun t ht hW => ⟨⟨0, (fun _ => 0), rfl, hpost, (fun _ => 0), (fun _ => (fun _ => 0)), (fun _ => (fun _ => 0)), by rw [ht]; exact hP9, va_K.moved hW.alike hK, hD9⟩, hS.F ht⟩) hS.2.2 dX13_isRun_88
    · skip
      have b_ := zF_eq rfl zk_0 c_
      refine lv_iconst (v := 5) hx hb dX13_isRun_15 (by decide) ?_
      refine lv_goto (tgt := 37) hx hb dX13_isRun_16 (by decide) ?_
      refine lv_istore (lv' := [(6, .int 5), (0, .ref h0), (1, .int x1), (2, .int x2), (3, .int x3), (4, .int x4), (5, .int x5)]) hx hb dX13_isRun_37 hl (by decide) rfl (fun ls hl => ?_)
      refine lv_aload_n hx hb dX13_isRun_39 rfl (lv_at hl 1 rfl) ?_
      refine va_get (D := (dC, dI)) (ci := 13) (v := .int (v0 35)) (C := RX13) (T := TX13) (N := 75) hx hb hG zuX13 hown hK hP 0 rfl rfl 35 (by decide) (hG _ zv1639) (fun _ h9 => h9) rfl dX13_isRun_40 ?_
      refine lv_aload_n hx hb dX13_isRun_43 rfl (lv_at hl 1 rfl) ?_
      refine va_get (D := (dC, dI)) (ci := 13) (v := .int (v0 37)) (C := RX13) (T := TX13) (N := 75) hx hb hG zuX13 hown hK hP 0 rfl rfl 37 (by decide) (hG _ zv1641) (fun _ h9 => h9) rfl dX13_isRun_44 ?_
      refine lv_isub hx hb dX13_isRun_47 ?_
      refine lv_topi (fun z47 e_z47 => ?_)
      have b_ := zsub rfl rfl e_z47 (by omega) (by omega)
      refine lv_iload hx hb dX13_isRun_48 (lv_at hl 0 rfl) ?_
      refine lv_icmp_ne (tgt := 87) hx hb dX13_isRun_50 (by decide) (fun c_ => ?_) (fun c_ => ?_)
      · skip
        have b_ := zT_ne rfl zk_5 c_
        refine lv_iconst (v := 0) hx hb dX13_isRun_87 (by decide) ?_
        refine W.widen (k := 0) (n := 0) (by decide) (by decide) ?_
        have hpost : (0 ≤ (0 : Int32).toInt ∧ (0 : Int32).toInt ≤ 1) ∧ ((0 : Int32).toInt = 1 → (v0 36).toInt = 1) ∧ ((0 : Int32).toInt = 1 → zMr f1 (v0 37).toInt (v0 35).toInt (v0 36).toInt x1.toInt x2.toInt x3.toInt x4.toInt x5.toInt) ∧ ((0 : Int32).toInt = 0 → ¬ zMr f1 (v0 37).toInt (v0 35).toInt (v0 36).toInt x1.toInt x2.toInt x3.toInt x4.toInt x5.toInt) := ⟨⟨by omega, by omega⟩, by omega, by first | (intro q; exact absurd q (by decide)) | exact fun _ => ⟨by omega, 2, by omega, by omega, zss e_z61 hX62_0 (by omega) (by omega), zss e_z79 hX80_0 (by omega) (by omega), by first | omega | exact Or.inr (zss e_z105 hX106_0 (by omega) (by omega)), by first | omega | exact Or.inr (zss e_z129 hX130_0 (by omega) (by omega)), by first | omega | exact Or.inr (zss e_z154 hX155_0 (by omega) (by omega))⟩ | exact fun _ => ⟨by omega, 3, by omega, by omega, zss e_z61 hX62_0 (by omega) (by omega), zss e_z79 hX80_0 (by omega) (by omega), by first | omega | exact Or.inr (zss e_z105 hX106_0 (by omega) (by omega)), by first | omega | exact Or.inr (zss e_z129 hX130_0 (by omega) (by omega)), by first | omega | exact Or.inr (zss e_z154 hX155_0 (by omega) (by omega))⟩ | exact fun _ => ⟨by omega, 4, by omega, by omega, zss e_z61 hX62_0 (by omega) (by omega), zss e_z79 hX80_0 (by omega) (by omega), by first | omega | exact Or.inr (zss e_z105 hX106_0 (by omega) (by omega)), by first | omega | exact Or.inr (zss e_z129 hX130_0 (by omega) (by omega)), by first | omega | exact Or.inr (zss e_z154 hX155_0 (by omega) (by omega))⟩ | exact fun _ => ⟨by omega, 5, by omega, by omega, zss e_z61 hX62_0 (by omega) (by omega), zss e_z79 hX80_0 (by omega) (by omega), by first | omega | exact Or.inr (zss e_z105 hX106_0 (by omega) (by omega)), by first | omega | exact Or.inr (zss e_z129 hX130_0 (by omega) (by omega)), by first | omega | exact Or.inr (zss e_z154 hX155_0 (by omega) (by omega))⟩, by first | (intro q; exact absurd q (by decide)) | exact fun _ => zMr_h (by omega) | exact fun _ => zMr_k (fun k_ y_ => by omega) | exact fun _ => zMr_0 e_z61 hX62_0 rfl (by omega) | exact fun _ => zMr_1 e_z79 hX80_0 (by omega) (by omega) | exact fun _ => zMr_2 e_z105 hX106_0 (by omega) (by omega) (by omega) | exact fun _ => zMr_3 e_z129 hX130_0 (by omega) (by omega) (by omega) | exact fun _ => zMr_4 e_z154 hX155_0 (by omega) (by omega) (by omega)⟩
        have hP9 : va_P (dC, dI) vwCl [(h0, .inr (13, mX13 q0 v0)), ((q0 0), zi k1 600 f1)] s.heap := hP
        have hD9 : va_D A [(h0, .inr (13, mX13 q0 v0)), ((q0 0), zi k1 600 f1)] := hD
        exact W.zret (v := 0) hx hb hr rfl (fun t ht hW => ⟨⟨0, (fun _ => 0), rfl, hpost, (fun _ => 0), (fun _ => (fun _ => 0)), (fun _ => (fun _ => 0)), by rw [ht]; exact hP9, va_K.moved hW.alike hK, hD9⟩, hS.F ht⟩) hS.2.2 dX13_isRun_88
      · skip
        have b_ := zF_ne rfl zk_5 c_
        refine lv_aload_n hx hb dX13_isRun_53 rfl (lv_at hl 1 rfl) ?_
        refine va_get (D := (dC, dI)) (ci := 13) (v := .ref (q0 0)) (C := RX13) (T := TX13) (N := 75) hx hb hG zuX13 hown hK hP 0 rfl rfl 0 (by decide) (hG _ zv1604) (fun _ h9 => h9) rfl dX13_isRun_54 ?_
        refine lv_aload_n hx hb dX13_isRun_57 rfl (lv_at hl 1 rfl) ?_
        refine va_get (D := (dC, dI)) (ci := 13) (v := .int (v0 37)) (C := RX13) (T := TX13) (N := 75) hx hb hG zuX13 hown hK hP 0 rfl rfl 37 (by decide) (hG _ zv1641) (fun _ h9 => h9) rfl dX13_isRun_58 ?_
        refine va_bald hx hb hK hP 1 0 rfl rfl (zin_lit ⟨by omega, by omega⟩) dX13_isRun_61 ?_
        refine lv_topi (fun z61 e_z61 => ?_)
        have hPc := hP.sub (ws' := []) [] rfl
        have hDc := hD.sub (ws' := []) [] (by decide) rfl
        have hKc := hK.sub (tys' := []) [] rfl
        have hFc := va_free (wc := []) hD hS hA [] rfl
        refine va_calli (va_runS (As := [.int z61]) (rest := []) ⟨hx, hb, hml, hown, hG⟩ (sX13_small_0 l dC dI adK adV s.heap.size z61) (va_cwS 1 hG (zgS zv1870 zv1871 zv142 zv1872) rfl rfl rfl (by decide +kernel) ⟨Nat.le_of_ble_eq_true rfl, Nat.le_of_ble_eq_true rfl⟩) ⟨zPc_blind, zPc_pre hPc hKc hDc hE hS hFc hZ⟩ rfl rfl hl.1 rfl (lv_room (Nat.le_of_ble_eq_true rfl)) dX13_isRun_62 ⟨Nat.le_of_ble_eq_true rfl, Nat.le_of_ble_eq_true rfl⟩) hS (fun q _ h => hFc q h) hFc (fun r62_ u62_ t H1 locs ht hvm hw hB hz1 hk1 hS => ?_)
        replace hw : (r62_.toInt = zSml z61.toInt) := hw
        have hX62_0 := hw
        obtain ⟨w62_, a62_, b62_, hP1, hK1, hD1⟩ := hB
        rw [ht] at hP1
        obtain ⟨hP, hD⟩ := va_join (wr := [(h0, .inr (13, mX13 q0 v0)), ((q0 0), zi k1 600 f1)]) (w1 := []) hP hD [] [0, 1] rfl rfl (by decide) (by decide) hk1 hFc hP1 hD1
        have hP : va_P (dC, dI) vwCl [(h0, .inr (13, mX13 q0 v0)), ((q0 0), zi k1 600 f1)] H1 := hP.sub [0, 1] rfl
        have hD : va_D A [(h0, .inr (13, mX13 q0 v0)), ((q0 0), zi k1 600 f1)] := hD.sub [0, 1] (by decide) rfl
        generalize H1 = H at hP hS ⊢
        clear hz1
        refine lv_iload_n hx hb dX13_isRun_65 rfl (lv_at hl 2 rfl) ?_
        have b_ : -2147483648 ≤ r62_.toInt ∧ r62_.toInt ≤ 2147483647 := ⟨zlo _, zhi _⟩
        have b_ : -2147483648 ≤ x1.toInt ∧ x1.toInt ≤ 2147483647 := ⟨zlo _, zhi _⟩
        refine lv_icmp_ne (tgt := 87) hx hb dX13_isRun_66 (by decide) (fun c_ => ?_) (fun c_ => ?_)
        · skip
          have b_ := zT_ne rfl rfl c_
          refine lv_iconst (v := 0) hx hb dX13_isRun_87 (by decide) ?_
          refine W.widen (k := 0) (n := 0) (by decide) (by decide) ?_
          have hpost : (0 ≤ (0 : Int32).toInt ∧ (0 : Int32).toInt ≤ 1) ∧ ((0 : Int32).toInt = 1 → (v0 36).toInt = 1) ∧ ((0 : Int32).toInt = 1 → zMr f1 (v0 37).toInt (v0 35).toInt (v0 36).toInt x1.toInt x2.toInt x3.toInt x4.toInt x5.toInt) ∧ ((0 : Int32).toInt = 0 → ¬ zMr f1 (v0 37).toInt (v0 35).toInt (v0 36).toInt x1.toInt x2.toInt x3.toInt x4.toInt x5.toInt) := ⟨⟨by omega, by omega⟩, by omega, by first | (intro q; exact absurd q (by decide)) | exact fun _ => ⟨by omega, 2, by omega, by omega, zss e_z61 hX62_0 (by omega) (by omega), zss e_z79 hX80_0 (by omega) (by omega), by first | omega | exact Or.inr (zss e_z105 hX106_0 (by omega) (by omega)), by first | omega | exact Or.inr (zss e_z129 hX130_0 (by omega) (by omega)), by first | omega | exact Or.inr (zss e_z154 hX155_0 (by omega) (by omega))⟩ | exact fun _ => ⟨by omega, 3, by omega, by omega, zss e_z61 hX62_0 (by omega) (by omega), zss e_z79 hX80_0 (by omega) (by omega), by first | omega | exact Or.inr (zss e_z105 hX106_0 (by omega) (by omega)), by first | omega | exact Or.inr (zss e_z129 hX130_0 (by omega) (by omega)), by first | omega | exact Or.inr (zss e_z154 hX155_0 (by omega) (by omega))⟩ | exact fun _ => ⟨by omega, 4, by omega, by omega, zss e_z61 hX62_0 (by omega) (by omega), zss e_z79 hX80_0 (by omega) (by omega), by first | omega | exact Or.inr (zss e_z105 hX106_0 (by omega) (by omega)), by first | omega | exact Or.inr (zss e_z129 hX130_0 (by omega) (by omega)), by first | omega | exact Or.inr (zss e_z154 hX155_0 (by omega) (by omega))⟩ | exact fun _ => ⟨by omega, 5, by omega, by omega, zss e_z61 hX62_0 (by omega) (by omega), zss e_z79 hX80_0 (by omega) (by omega), by first | omega | exact Or.inr (zss e_z105 hX106_0 (by omega) (by omega)), by first | omega | exact Or.inr (zss e_z129 hX130_0 (by omega) (by omega)), by first | omega | exact Or.inr (zss e_z154 hX155_0 (by omega) (by omega))⟩, by first | (intro q; exact absurd q (by decide)) | exact fun _ => zMr_h (by omega) | exact fun _ => zMr_k (fun k_ y_ => by omega) | exact fun _ => zMr_0 e_z61 hX62_0 rfl (by omega) | exact fun _ => zMr_1 e_z79 hX80_0 (by omega) (by omega) | exact fun _ => zMr_2 e_z105 hX106_0 (by omega) (by omega) (by omega) | exact fun _ => zMr_3 e_z129 hX130_0 (by omega) (by omega) (by omega) | exact fun _ => zMr_4 e_z154 hX155_0 (by omega) (by omega) (by omega)⟩
          have hP9 : va_P (dC, dI) vwCl [(h0, .inr (13, mX13 q0 v0)), ((q0 0), zi k1 600 f1)] H := hP
          have hD9 : va_D A [(h0, .inr (13, mX13 q0 v0)), ((q0 0), zi k1 600 f1)] := hD
          exact W.zret (v := 0) hx hb hr rfl (fun t ht hW => ⟨⟨0, (fun _ => 0), rfl, hpost, (fun _ => 0), (fun _ => (fun _ => 0)), (fun _ => (fun _ => 0)), by rw [ht]; exact hP9, va_K.moved hW.alike hK, hD9⟩, hS.F ht⟩) hS.2.2 dX13_isRun_88
        · skip
          have b_ := zF_ne rfl rfl c_
          refine lv_aload_n hx hb dX13_isRun_69 rfl (lv_at hl 1 rfl) ?_
          refine va_get (D := (dC, dI)) (ci := 13) (v := .ref (q0 0)) (C := RX13) (T := TX13) (N := 75) hx hb hG zuX13 hown hK hP 0 rfl rfl 0 (by decide) (hG _ zv1604) (fun _ h9 => h9) rfl dX13_isRun_70 ?_
          refine lv_aload_n hx hb dX13_isRun_73 rfl (lv_at hl 1 rfl) ?_
          refine va_get (D := (dC, dI)) (ci := 13) (v := .int (v0 37)) (C := RX13) (T := TX13) (N := 75) hx hb hG zuX13 hown hK hP 0 rfl rfl 37 (by decide) (hG _ zv1641) (fun _ h9 => h9) rfl dX13_isRun_74 ?_
          refine lv_iconst (v := 1) hx hb dX13_isRun_77 (by decide) ?_
          refine lv_iadd hx hb dX13_isRun_78 ?_
          refine lv_topi (fun z78 e_z78 => ?_)
          have b_ := zadd rfl zk_1 e_z78 (by omega) (by omega)
          refine va_bald hx hb hK hP 1 0 rfl rfl (zin_lit ⟨by omega, by omega⟩) dX13_isRun_79 ?_
          refine lv_topi (fun z79 e_z79 => ?_)
          have hPc := hP.sub (ws' := []) [] rfl
          have hDc := hD.sub (ws' := []) [] (by decide) rfl
          have hKc := hK.sub (tys' := []) [] rfl
          have hFc := va_free (wc := []) hD hS hA [] rfl
          refine va_calli (va_runS (As := [.int z79]) (rest := []) ⟨hx, hb, hml, hown, hG⟩ (sX13_small_0 l dC dI adK adV H.size z79) (va_cwS 1 hG (zgS zv1870 zv1871 zv142 zv1872) rfl rfl rfl (by decide +kernel) ⟨Nat.le_of_ble_eq_true rfl, Nat.le_of_ble_eq_true rfl⟩) ⟨zPc_blind, zPc_pre hPc hKc hDc hE hS hFc hZ⟩ rfl rfl hl.1 rfl (lv_room (Nat.le_of_ble_eq_true rfl)) dX13_isRun_80 ⟨Nat.le_of_ble_eq_true rfl, Nat.le_of_ble_eq_true rfl⟩) hS (fun q _ h => hFc q h) hFc (fun r80_ u80_ t H1 locs ht hvm hw hB hz1 hk1 hS => ?_)
          replace hw : (r80_.toInt = zSml z79.toInt) := hw
          have hX80_0 := hw
          obtain ⟨w80_, a80_, b80_, hP1, hK1, hD1⟩ := hB
          rw [ht] at hP1
          obtain ⟨hP, hD⟩ := va_join (wr := [(h0, .inr (13, mX13 q0 v0)), ((q0 0), zi k1 600 f1)]) (w1 := []) hP hD [] [0, 1] rfl rfl (by decide) (by decide) hk1 hFc hP1 hD1
          have hP : va_P (dC, dI) vwCl [(h0, .inr (13, mX13 q0 v0)), ((q0 0), zi k1 600 f1)] H1 := hP.sub [0, 1] rfl
          have hD : va_D A [(h0, .inr (13, mX13 q0 v0)), ((q0 0), zi k1 600 f1)] := hD.sub [0, 1] (by decide) rfl
          generalize H1 = H at hP hS ⊢
          clear hz1
          refine lv_iload_n hx hb dX13_isRun_83 rfl (lv_at hl 3 rfl) ?_
          have b_ : -2147483648 ≤ r80_.toInt ∧ r80_.toInt ≤ 2147483647 := ⟨zlo _, zhi _⟩
          have b_ : -2147483648 ≤ x2.toInt ∧ x2.toInt ≤ 2147483647 := ⟨zlo _, zhi _⟩
          refine lv_icmp_eq (tgt := 89) hx hb dX13_isRun_84 (by decide) (fun c_ => ?_) (fun c_ => ?_)
          · skip
            have b_ := zT_eq rfl rfl c_
            refine lv_iload hx hb dX13_isRun_89 (lv_at hl 0 rfl) ?_
            refine lv_iconst (v := 3) hx hb dX13_isRun_91 (by decide) ?_
            refine lv_icmp_lt (tgt := 113) hx hb dX13_isRun_92 (by decide) (fun c_ => absurd c_ (by decide)) (fun c_ => ?_)
            refine lv_aload_n hx hb dX13_isRun_95 rfl (lv_at hl 1 rfl) ?_
            refine va_get (D := (dC, dI)) (ci := 13) (v := .ref (q0 0)) (C := RX13) (T := TX13) (N := 75) hx hb hG zuX13 hown hK hP 0 rfl rfl 0 (by decide) (hG _ zv1604) (fun _ h9 => h9) rfl dX13_isRun_96 ?_
            refine lv_aload_n hx hb dX13_isRun_99 rfl (lv_at hl 1 rfl) ?_
            refine va_get (D := (dC, dI)) (ci := 13) (v := .int (v0 37)) (C := RX13) (T := TX13) (N := 75) hx hb hG zuX13 hown hK hP 0 rfl rfl 37 (by decide) (hG _ zv1641) (fun _ h9 => h9) rfl dX13_isRun_100 ?_
            refine lv_iconst (v := 2) hx hb dX13_isRun_103 (by decide) ?_
            refine lv_iadd hx hb dX13_isRun_104 ?_
            refine lv_topi (fun z104 e_z104 => ?_)
            have b_ := zadd rfl zk_2 e_z104 (by omega) (by omega)
            refine va_bald hx hb hK hP 1 0 rfl rfl (zin_lit ⟨by omega, by omega⟩) dX13_isRun_105 ?_
            refine lv_topi (fun z105 e_z105 => ?_)
            have hPc := hP.sub (ws' := []) [] rfl
            have hDc := hD.sub (ws' := []) [] (by decide) rfl
            have hKc := hK.sub (tys' := []) [] rfl
            have hFc := va_free (wc := []) hD hS hA [] rfl
            refine va_calli (va_runS (As := [.int z105]) (rest := []) ⟨hx, hb, hml, hown, hG⟩ (sX13_small_0 l dC dI adK adV H.size z105) (va_cwS 1 hG (zgS zv1870 zv1871 zv142 zv1872) rfl rfl rfl (by decide +kernel) ⟨Nat.le_of_ble_eq_true rfl, Nat.le_of_ble_eq_true rfl⟩) ⟨zPc_blind, zPc_pre hPc hKc hDc hE hS hFc hZ⟩ rfl rfl hl.1 rfl (lv_room (Nat.le_of_ble_eq_true rfl)) dX13_isRun_106 ⟨Nat.le_of_ble_eq_true rfl, Nat.le_of_ble_eq_true rfl⟩) hS (fun q _ h => hFc q h) hFc (fun r106_ u106_ t H1 locs ht hvm hw hB hz1 hk1 hS => ?_)
            replace hw : (r106_.toInt = zSml z105.toInt) := hw
            have hX106_0 := hw
            obtain ⟨w106_, a106_, b106_, hP1, hK1, hD1⟩ := hB
            rw [ht] at hP1
            obtain ⟨hP, hD⟩ := va_join (wr := [(h0, .inr (13, mX13 q0 v0)), ((q0 0), zi k1 600 f1)]) (w1 := []) hP hD [] [0, 1] rfl rfl (by decide) (by decide) hk1 hFc hP1 hD1
            have hP : va_P (dC, dI) vwCl [(h0, .inr (13, mX13 q0 v0)), ((q0 0), zi k1 600 f1)] H1 := hP.sub [0, 1] rfl
            have hD : va_D A [(h0, .inr (13, mX13 q0 v0)), ((q0 0), zi k1 600 f1)] := hD.sub [0, 1] (by decide) rfl
            generalize H1 = H at hP hS ⊢
            clear hz1
            refine lv_iload_n hx hb dX13_isRun_109 rfl (lv_at hl 4 rfl) ?_
            have b_ : -2147483648 ≤ r106_.toInt ∧ r106_.toInt ≤ 2147483647 := ⟨zlo _, zhi _⟩
            have b_ : -2147483648 ≤ x3.toInt ∧ x3.toInt ≤ 2147483647 := ⟨zlo _, zhi _⟩
            refine lv_icmp_ne (tgt := 167) hx hb dX13_isRun_110 (by decide) (fun c_ => ?_) (fun c_ => ?_)
            · skip
              have b_ := zT_ne rfl rfl c_
              refine lv_iconst (v := 0) hx hb dX13_isRun_167 (by decide) ?_
              refine W.widen (k := 0) (n := 0) (by decide) (by decide) ?_
              have hpost : (0 ≤ (0 : Int32).toInt ∧ (0 : Int32).toInt ≤ 1) ∧ ((0 : Int32).toInt = 1 → (v0 36).toInt = 1) ∧ ((0 : Int32).toInt = 1 → zMr f1 (v0 37).toInt (v0 35).toInt (v0 36).toInt x1.toInt x2.toInt x3.toInt x4.toInt x5.toInt) ∧ ((0 : Int32).toInt = 0 → ¬ zMr f1 (v0 37).toInt (v0 35).toInt (v0 36).toInt x1.toInt x2.toInt x3.toInt x4.toInt x5.toInt) := ⟨⟨by omega, by omega⟩, by omega, by first | (intro q; exact absurd q (by decide)) | exact fun _ => ⟨by omega, 2, by omega, by omega, zss e_z61 hX62_0 (by omega) (by omega), zss e_z79 hX80_0 (by omega) (by omega), by first | omega | exact Or.inr (zss e_z105 hX106_0 (by omega) (by omega)), by first | omega | exact Or.inr (zss e_z129 hX130_0 (by omega) (by omega)), by first | omega | exact Or.inr (zss e_z154 hX155_0 (by omega) (by omega))⟩ | exact fun _ => ⟨by omega, 3, by omega, by omega, zss e_z61 hX62_0 (by omega) (by omega), zss e_z79 hX80_0 (by omega) (by omega), by first | omega | exact Or.inr (zss e_z105 hX106_0 (by omega) (by omega)), by first | omega | exact Or.inr (zss e_z129 hX130_0 (by omega) (by omega)), by first | omega | exact Or.inr (zss e_z154 hX155_0 (by omega) (by omega))⟩ | exact fun _ => ⟨by omega, 4, by omega, by omega, zss e_z61 hX62_0 (by omega) (by omega), zss e_z79 hX80_0 (by omega) (by omega), by first | omega | exact Or.inr (zss e_z105 hX106_0 (by omega) (by omega)), by first | omega | exact Or.inr (zss e_z129 hX130_0 (by omega) (by omega)), by first | omega | exact Or.inr (zss e_z154 hX155_0 (by omega) (by omega))⟩ | exact fun _ => ⟨by omega, 5, by omega, by omega, zss e_z61 hX62_0 (by omega) (by omega), zss e_z79 hX80_0 (by omega) (by omega), by first | omega | exact Or.inr (zss e_z105 hX106_0 (by omega) (by omega)), by first | omega | exact Or.inr (zss e_z129 hX130_0 (by omega) (by omega)), by first | omega | exact Or.inr (zss e_z154 hX155_0 (by omega) (by omega))⟩, by first | (intro q; exact absurd q (by decide)) | exact fun _ => zMr_h (by omega) | exact fun _ => zMr_k (fun k_ y_ => by omega) | exact fun _ => zMr_0 e_z61 hX62_0 rfl (by omega) | exact fun _ => zMr_1 e_z79 hX80_0 (by omega) (by omega) | exact fun _ => zMr_2 e_z105 hX106_0 (by omega) (by omega) (by omega) | exact fun _ => zMr_3 e_z129 hX130_0 (by omega) (by omega) (by omega) | exact fun _ => zMr_4 e_z154 hX155_0 (by omega) (by omega) (by omega)⟩
              have hP9 : va_P (dC, dI) vwCl [(h0, .inr (13, mX13 q0 v0)), ((q0 0), zi k1 600 f1)] H := hP
              have hD9 : va_D A [(h0, .inr (13, mX13 q0 v0)), ((q0 0), zi k1 600 f1)] := hD
              exact W.zret (v := 0) hx hb hr rfl (fun t ht hW => ⟨⟨0, (fun _ => 0), rfl, hpost, (fun _ => 0), (fun _ => (fun _ => 0)), (fun _ => (fun _ => 0)), by rw [ht]; exact hP9, va_K.moved hW.alike hK, hD9⟩, hS.F ht⟩) hS.2.2 dX13_isRun_168
            · skip
              have b_ := zF_ne rfl rfl c_
              refine lv_iload hx hb dX13_isRun_113 (lv_at hl 0 rfl) ?_
              refine lv_iconst (v := 4) hx hb dX13_isRun_115 (by decide) ?_
              refine lv_icmp_lt (tgt := 138) hx hb dX13_isRun_116 (by decide) (fun c_ => absurd c_ (by decide)) (fun c_ => ?_)
              refine lv_aload_n hx hb dX13_isRun_119 rfl (lv_at hl 1 rfl) ?_
              refine va_get (D := (dC, dI)) (ci := 13) (v := .ref (q0 0)) (C := RX13) (T := TX13) (N := 75) hx hb hG zuX13 hown hK hP 0 rfl rfl 0 (by decide) (hG _ zv1604) (fun _ h9 => h9) rfl dX13_isRun_120 ?_
              refine lv_aload_n hx hb dX13_isRun_123 rfl (lv_at hl 1 rfl) ?_
              refine va_get (D := (dC, dI)) (ci := 13) (v := .int (v0 37)) (C := RX13) (T := TX13) (N := 75) hx hb hG zuX13 hown hK hP 0 rfl rfl 37 (by decide) (hG _ zv1641) (fun _ h9 => h9) rfl dX13_isRun_124 ?_
              refine lv_iconst (v := 3) hx hb dX13_isRun_127 (by decide) ?_
              refine lv_iadd hx hb dX13_isRun_128 ?_
              refine lv_topi (fun z128 e_z128 => ?_)
              have b_ := zadd rfl zk_3 e_z128 (by omega) (by omega)
              refine va_bald hx hb hK hP 1 0 rfl rfl (zin_lit ⟨by omega, by omega⟩) dX13_isRun_129 ?_
              refine lv_topi (fun z129 e_z129 => ?_)
              have hPc := hP.sub (ws' := []) [] rfl
              have hDc := hD.sub (ws' := []) [] (by decide) rfl
              have hKc := hK.sub (tys' := []) [] rfl
              have hFc := va_free (wc := []) hD hS hA [] rfl
              refine va_calli (va_runS (As := [.int z129]) (rest := []) ⟨hx, hb, hml, hown, hG⟩ (sX13_small_0 l dC dI adK adV H.size z129) (va_cwS 1 hG (zgS zv1870 zv1871 zv142 zv1872) rfl rfl rfl (by decide +kernel) ⟨Nat.le_of_ble_eq_true rfl, Nat.le_of_ble_eq_true rfl⟩) ⟨zPc_blind, zPc_pre hPc hKc hDc hE hS hFc hZ⟩ rfl rfl hl.1 rfl (lv_room (Nat.le_of_ble_eq_true rfl)) dX13_isRun_130 ⟨Nat.le_of_ble_eq_true rfl, Nat.le_of_ble_eq_true rfl⟩) hS (fun q _ h => hFc q h) hFc (fun r130_ u130_ t H1 locs ht hvm hw hB hz1 hk1 hS => ?_)
              replace hw : (r130_.toInt = zSml z129.toInt) := hw
              have hX130_0 := hw
              obtain ⟨w130_, a130_, b130_, hP1, hK1, hD1⟩ := hB
              rw [ht] at hP1
              obtain ⟨hP, hD⟩ := va_join (wr := [(h0, .inr (13, mX13 q0 v0)), ((q0 0), zi k1 600 f1)]) (w1 := []) hP hD [] [0, 1] rfl rfl (by decide) (by decide) hk1 hFc hP1 hD1
              have hP : va_P (dC, dI) vwCl [(h0, .inr (13, mX13 q0 v0)), ((q0 0), zi k1 600 f1)] H1 := hP.sub [0, 1] rfl
              have hD : va_D A [(h0, .inr (13, mX13 q0 v0)), ((q0 0), zi k1 600 f1)] := hD.sub [0, 1] (by decide) rfl
              generalize H1 = H at hP hS ⊢
              clear hz1
              refine lv_iload hx hb dX13_isRun_133 (lv_at hl 5 rfl) ?_
              have b_ : -2147483648 ≤ r130_.toInt ∧ r130_.toInt ≤ 2147483647 := ⟨zlo _, zhi _⟩
              have b_ : -2147483648 ≤ x4.toInt ∧ x4.toInt ≤ 2147483647 := ⟨zlo _, zhi _⟩
              refine lv_icmp_ne (tgt := 167) hx hb dX13_isRun_135 (by decide) (fun c_ => ?_) (fun c_ => ?_)
              · skip
                have b_ := zT_ne rfl rfl c_
                refine lv_iconst (v := 0) hx hb dX13_isRun_167 (by decide) ?_
                refine W.widen (k := 0) (n := 0) (by decide) (by decide) ?_
                have hpost : (0 ≤ (0 : Int32).toInt ∧ (0 : Int32).toInt ≤ 1) ∧ ((0 : Int32).toInt = 1 → (v0 36).toInt = 1) ∧ ((0 : Int32).toInt = 1 → zMr f1 (v0 37).toInt (v0 35).toInt (v0 36).toInt x1.toInt x2.toInt x3.toInt x4.toInt x5.toInt) ∧ ((0 : Int32).toInt = 0 → ¬ zMr f1 (v0 37).toInt (v0 35).toInt (v0 36).toInt x1.toInt x2.toInt x3.toInt x4.toInt x5.toInt) := ⟨⟨by omega, by omega⟩, by omega, by first | (intro q; exact absurd q (by decide)) | exact fun _ => ⟨by omega, 2, by omega, by omega, zss e_z61 hX62_0 (by omega) (by omega), zss e_z79 hX80_0 (by omega) (by omega), by first | omega | exact Or.inr (zss e_z105 hX106_0 (by omega) (by omega)), by first | omega | exact Or.inr (zss e_z129 hX130_0 (by omega) (by omega)), by first | omega | exact Or.inr (zss e_z154 hX155_0 (by omega) (by omega))⟩ | exact fun _ => ⟨by omega, 3, by omega, by omega, zss e_z61 hX62_0 (by omega) (by omega), zss e_z79 hX80_0 (by omega) (by omega), by first | omega | exact Or.inr (zss e_z105 hX106_0 (by omega) (by omega)), by first | omega | exact Or.inr (zss e_z129 hX130_0 (by omega) (by omega)), by first | omega | exact Or.inr (zss e_z154 hX155_0 (by omega) (by omega))⟩ | exact fun _ => ⟨by omega, 4, by omega, by omega, zss e_z61 hX62_0 (by omega) (by omega), zss e_z79 hX80_0 (by omega) (by omega), by first | omega | exact Or.inr (zss e_z105 hX106_0 (by omega) (by omega)), by first | omega | exact Or.inr (zss e_z129 hX130_0 (by omega) (by omega)), by first | omega | exact Or.inr (zss e_z154 hX155_0 (by omega) (by omega))⟩ | exact fun _ => ⟨by omega, 5, by omega, by omega, zss e_z61 hX62_0 (by omega) (by omega), zss e_z79 hX80_0 (by omega) (by omega), by first | omega | exact Or.inr (zss e_z105 hX106_0 (by omega) (by omega)), by first | omega | exact Or.inr (zss e_z129 hX130_0 (by omega) (by omega)), by first | omega | exact Or.inr (zss e_z154 hX155_0 (by omega) (by omega))⟩, by first | (intro q; exact absurd q (by decide)) | exact fun _ => zMr_h (by omega) | exact fun _ => zMr_k (fun k_ y_ => by omega) | exact fun _ => zMr_0 e_z61 hX62_0 rfl (by omega) | exact fun _ => zMr_1 e_z79 hX80_0 (by omega) (by omega) | exact fun _ => zMr_2 e_z105 hX106_0 (by omega) (by omega) (by omega) | exact fun _ => zMr_3 e_z129 hX130_0 (by omega) (by omega) (by omega) | exact fun _ => zMr_4 e_z154 hX155_0 (by omega) (by omega) (by omega)⟩
                have hP9 : va_P (dC, dI) vwCl [(h0, .inr (13, mX13 q0 v0)), ((q0 0), zi k1 600 f1)] H := hP
                have hD9 : va_D A [(h0, .inr (13, mX13 q0 v0)), ((q0 0), zi k1 600 f1)] := hD
                exact W.zret (v := 0) hx hb hr rfl (fun t ht hW => ⟨⟨0, (fun _ => 0), rfl, hpost, (fun _ => 0), (fun _ => (fun _ => 0)), (fun _ => (fun _ => 0)), by rw [ht]; exact hP9, va_K.moved hW.alike hK, hD9⟩, hS.F ht⟩) hS.2.2 dX13_isRun_168
              · skip
                have b_ := zF_ne rfl rfl c_
                refine lv_iload hx hb dX13_isRun_138 (lv_at hl 0 rfl) ?_
                refine lv_iconst (v := 5) hx hb dX13_isRun_140 (by decide) ?_
                refine lv_icmp_lt (tgt := 163) hx hb dX13_isRun_141 (by decide) (fun c_ => absurd c_ (by decide)) (fun c_ => ?_)
                refine lv_aload_n hx hb dX13_isRun_144 rfl (lv_at hl 1 rfl) ?_
                refine va_get (D := (dC, dI)) (ci := 13) (v := .ref (q0 0)) (C := RX13) (T := TX13) (N := 75) hx hb hG zuX13 hown hK hP 0 rfl rfl 0 (by decide) (hG _ zv1604) (fun _ h9 => h9) rfl dX13_isRun_145 ?_
                refine lv_aload_n hx hb dX13_isRun_148 rfl (lv_at hl 1 rfl) ?_
                refine va_get (D := (dC, dI)) (ci := 13) (v := .int (v0 37)) (C := RX13) (T := TX13) (N := 75) hx hb hG zuX13 hown hK hP 0 rfl rfl 37 (by decide) (hG _ zv1641) (fun _ h9 => h9) rfl dX13_isRun_149 ?_
                refine lv_iconst (v := 4) hx hb dX13_isRun_152 (by decide) ?_
                refine lv_iadd hx hb dX13_isRun_153 ?_
                refine lv_topi (fun z153 e_z153 => ?_)
                have b_ := zadd rfl zk_4 e_z153 (by omega) (by omega)
                refine va_bald hx hb hK hP 1 0 rfl rfl (zin_lit ⟨by omega, by omega⟩) dX13_isRun_154 ?_
                refine lv_topi (fun z154 e_z154 => ?_)
                have hPc := hP.sub (ws' := []) [] rfl
                have hDc := hD.sub (ws' := []) [] (by decide) rfl
                have hKc := hK.sub (tys' := []) [] rfl
                have hFc := va_free (wc := []) hD hS hA [] rfl
                refine va_calli (va_runS (As := [.int z154]) (rest := []) ⟨hx, hb, hml, hown, hG⟩ (sX13_small_0 l dC dI adK adV H.size z154) (va_cwS 1 hG (zgS zv1870 zv1871 zv142 zv1872) rfl rfl rfl (by decide +kernel) ⟨Nat.le_of_ble_eq_true rfl, Nat.le_of_ble_eq_true rfl⟩) ⟨zPc_blind, zPc_pre hPc hKc hDc hE hS hFc hZ⟩ rfl rfl hl.1 rfl (lv_room (Nat.le_of_ble_eq_true rfl)) dX13_isRun_155 ⟨Nat.le_of_ble_eq_true rfl, Nat.le_of_ble_eq_true rfl⟩) hS (fun q _ h => hFc q h) hFc (fun r155_ u155_ t H1 locs ht hvm hw hB hz1 hk1 hS => ?_)
                replace hw : (r155_.toInt = zSml z154.toInt) := hw
                have hX155_0 := hw
                obtain ⟨w155_, a155_, b155_, hP1, hK1, hD1⟩ := hB
                rw [ht] at hP1
                obtain ⟨hP, hD⟩ := va_join (wr := [(h0, .inr (13, mX13 q0 v0)), ((q0 0), zi k1 600 f1)]) (w1 := []) hP hD [] [0, 1] rfl rfl (by decide) (by decide) hk1 hFc hP1 hD1
                have hP : va_P (dC, dI) vwCl [(h0, .inr (13, mX13 q0 v0)), ((q0 0), zi k1 600 f1)] H1 := hP.sub [0, 1] rfl
                have hD : va_D A [(h0, .inr (13, mX13 q0 v0)), ((q0 0), zi k1 600 f1)] := hD.sub [0, 1] (by decide) rfl
                generalize H1 = H at hP hS ⊢
                clear hz1
                refine lv_iload hx hb dX13_isRun_158 (lv_at hl 6 rfl) ?_
                have b_ : -2147483648 ≤ r155_.toInt ∧ r155_.toInt ≤ 2147483647 := ⟨zlo _, zhi _⟩
                refine lv_icmp_ne (tgt := 167) hx hb dX13_isRun_160 (by decide) (fun c_ => ?_) (fun c_ => ?_)
                · skip
                  have b_ := zT_ne rfl rfl c_
                  refine lv_iconst (v := 0) hx hb dX13_isRun_167 (by decide) ?_
                  refine W.widen (k := 0) (n := 0) (by decide) (by decide) ?_
                  have hpost : (0 ≤ (0 : Int32).toInt ∧ (0 : Int32).toInt ≤ 1) ∧ ((0 : Int32).toInt = 1 → (v0 36).toInt = 1) ∧ ((0 : Int32).toInt = 1 → zMr f1 (v0 37).toInt (v0 35).toInt (v0 36).toInt x1.toInt x2.toInt x3.toInt x4.toInt x5.toInt) ∧ ((0 : Int32).toInt = 0 → ¬ zMr f1 (v0 37).toInt (v0 35).toInt (v0 36).toInt x1.toInt x2.toInt x3.toInt x4.toInt x5.toInt) := ⟨⟨by omega, by omega⟩, by omega, by first | (intro q; exact absurd q (by decide)) | exact fun _ => ⟨by omega, 2, by omega, by omega, zss e_z61 hX62_0 (by omega) (by omega), zss e_z79 hX80_0 (by omega) (by omega), by first | omega | exact Or.inr (zss e_z105 hX106_0 (by omega) (by omega)), by first | omega | exact Or.inr (zss e_z129 hX130_0 (by omega) (by omega)), by first | omega | exact Or.inr (zss e_z154 hX155_0 (by omega) (by omega))⟩ | exact fun _ => ⟨by omega, 3, by omega, by omega, zss e_z61 hX62_0 (by omega) (by omega), zss e_z79 hX80_0 (by omega) (by omega), by first | omega | exact Or.inr (zss e_z105 hX106_0 (by omega) (by omega)), by first | omega | exact Or.inr (zss e_z129 hX130_0 (by omega) (by omega)), by first | omega | exact Or.inr (zss e_z154 hX155_0 (by omega) (by omega))⟩ | exact fun _ => ⟨by omega, 4, by omega, by omega, zss e_z61 hX62_0 (by omega) (by omega), zss e_z79 hX80_0 (by omega) (by omega), by first | omega | exact Or.inr (zss e_z105 hX106_0 (by omega) (by omega)), by first | omega | exact Or.inr (zss e_z129 hX130_0 (by omega) (by omega)), by first | omega | exact Or.inr (zss e_z154 hX155_0 (by omega) (by omega))⟩ | exact fun _ => ⟨by omega, 5, by omega, by omega, zss e_z61 hX62_0 (by omega) (by omega), zss e_z79 hX80_0 (by omega) (by omega), by first | omega | exact Or.inr (zss e_z105 hX106_0 (by omega) (by omega)), by first | omega | exact Or.inr (zss e_z129 hX130_0 (by omega) (by omega)), by first | omega | exact Or.inr (zss e_z154 hX155_0 (by omega) (by omega))⟩, by first | (intro q; exact absurd q (by decide)) | exact fun _ => zMr_h (by omega) | exact fun _ => zMr_k (fun k_ y_ => by omega) | exact fun _ => zMr_0 e_z61 hX62_0 rfl (by omega) | exact fun _ => zMr_1 e_z79 hX80_0 (by omega) (by omega) | exact fun _ => zMr_2 e_z105 hX106_0 (by omega) (by omega) (by omega) | exact fun _ => zMr_3 e_z129 hX130_0 (by omega) (by omega) (by omega) | exact fun _ => zMr_4 e_z154 hX155_0 (by omega) (by omega) (by omega)⟩
                  have hP9 : va_P (dC, dI) vwCl [(h0, .inr (13, mX13 q0 v0)), ((q0 0), zi k1 600 f1)] H := hP
                  have hD9 : va_D A [(h0, .inr (13, mX13 q0 v0)), ((q0 0), zi k1 600 f1)] := hD
                  exact W.zret (v := 0) hx hb hr rfl (fun t ht hW => ⟨⟨0, (fun _ => 0), rfl, hpost, (fun _ => 0), (fun _ => (fun _ => 0)), (fun _ => (fun _ => 0)), by rw [ht]; exact hP9, va_K.moved hW.alike hK, hD9⟩, hS.F ht⟩) hS.2.2 dX13_isRun_168
                · skip
                  have b_ := zF_ne rfl rfl c_
                  refine lv_iconst (v := 1) hx hb dX13_isRun_163 (by decide) ?_
                  refine lv_goto (tgt := 168) hx hb dX13_isRun_164 (by decide) ?_
                  refine W.widen (k := 0) (n := 0) (by decide) (by decide) ?_
                  have hpost : (0 ≤ (1 : Int32).toInt ∧ (1 : Int32).toInt ≤ 1) ∧ ((1 : Int32).toInt = 1 → (v0 36).toInt = 1) ∧ ((1 : Int32).toInt = 1 → zMr f1 (v0 37).toInt (v0 35).toInt (v0 36).toInt x1.toInt x2.toInt x3.toInt x4.toInt x5.toInt) ∧ ((1 : Int32).toInt = 0 → ¬ zMr f1 (v0 37).toInt (v0 35).toInt (v0 36).toInt x1.toInt x2.toInt x3.toInt x4.toInt x5.toInt) := ⟨⟨by omega, by omega⟩, by omega, by first | (intro q; exact absurd q (by decide)) | exact fun _ => ⟨by omega, 2, by omega, by omega, zss e_z61 hX62_0 (by omega) (by omega), zss e_z79 hX80_0 (by omega) (by omega), by first | omega | exact Or.inr (zss e_z105 hX106_0 (by omega) (by omega)), by first | omega | exact Or.inr (zss e_z129 hX130_0 (by omega) (by omega)), by first | omega | exact Or.inr (zss e_z154 hX155_0 (by omega) (by omega))⟩ | exact fun _ => ⟨by omega, 3, by omega, by omega, zss e_z61 hX62_0 (by omega) (by omega), zss e_z79 hX80_0 (by omega) (by omega), by first | omega | exact Or.inr (zss e_z105 hX106_0 (by omega) (by omega)), by first | omega | exact Or.inr (zss e_z129 hX130_0 (by omega) (by omega)), by first | omega | exact Or.inr (zss e_z154 hX155_0 (by omega) (by omega))⟩ | exact fun _ => ⟨by omega, 4, by omega, by omega, zss e_z61 hX62_0 (by omega) (by omega), zss e_z79 hX80_0 (by omega) (by omega), by first | omega | exact Or.inr (zss e_z105 hX106_0 (by omega) (by omega)), by first | omega | exact Or.inr (zss e_z129 hX130_0 (by omega) (by omega)), by first | omega | exact Or.inr (zss e_z154 hX155_0 (by omega) (by omega))⟩ | exact fun _ => ⟨by omega, 5, by omega, by omega, zss e_z61 hX62_0 (by omega) (by omega), zss e_z79 hX80_0 (by omega) (by omega), by first | omega | exact Or.inr (zss e_z105 hX106_0 (by omega) (by omega)), by first | omega | exact Or.inr (zss e_z129 hX130_0 (by omega) (by omega)), by first | omega | exact Or.inr (zss e_z154 hX155_0 (by omega) (by omega))⟩, by first | (intro q; exact absurd q (by decide)) | exact fun _ => zMr_h (by omega) | exact fun _ => zMr_k (fun k_ y_ => by omega) | exact fun _ => zMr_0 e_z61 hX62_0 rfl (by omega) | exact fun _ => zMr_1 e_z79 hX80_0 (by omega) (by omega) | exact fun _ => zMr_2 e_z105 hX106_0 (by omega) (by omega) (by omega) | exact fun _ => zMr_3 e_z129 hX130_0 (by omega) (by omega) (by omega) | exact fun _ => zMr_4 e_z154 hX155_0 (by omega) (by omega) (by omega)⟩
                  have hP9 : va_P (dC, dI) vwCl [(h0, .inr (13, mX13 q0 v0)), ((q0 0), zi k1 600 f1)] H := hP
                  have hD9 : va_D A [(h0, .inr (13, mX13 q0 v0)), ((q0 0), zi k1 600 f1)] := hD
                  exact W.zret (v := 1) hx hb hr rfl (fun t ht hW => ⟨⟨1, (fun _ => 0), rfl, hpost, (fun _ => 0), (fun _ => (fun _ => 0)), (fun _ => (fun _ => 0)), by rw [ht]; exact hP9, va_K.moved hW.alike hK, hD9⟩, hS.F ht⟩) hS.2.2 dX13_isRun_168
          · skip
            have b_ := zF_eq rfl rfl c_
            refine lv_iconst (v := 0) hx hb dX13_isRun_87 (by decide) ?_
            refine W.widen (k := 0) (n := 0) (by decide) (by decide) ?_
            have hpost : (0 ≤ (0 : Int32).toInt ∧ (0 : Int32).toInt ≤ 1) ∧ ((0 : Int32).toInt = 1 → (v0 36).toInt = 1) ∧ ((0 : Int32).toInt = 1 → zMr f1 (v0 37).toInt (v0 35).toInt (v0 36).toInt x1.toInt x2.toInt x3.toInt x4.toInt x5.toInt) ∧ ((0 : Int32).toInt = 0 → ¬ zMr f1 (v0 37).toInt (v0 35).toInt (v0 36).toInt x1.toInt x2.toInt x3.toInt x4.toInt x5.toInt) := ⟨⟨by omega, by omega⟩, by omega, by first | (intro q; exact absurd q (by decide)) | exact fun _ => ⟨by omega, 2, by omega, by omega, zss e_z61 hX62_0 (by omega) (by omega), zss e_z79 hX80_0 (by omega) (by omega), by first | omega | exact Or.inr (zss e_z105 hX106_0 (by omega) (by omega)), by first | omega | exact Or.inr (zss e_z129 hX130_0 (by omega) (by omega)), by first | omega | exact Or.inr (zss e_z154 hX155_0 (by omega) (by omega))⟩ | exact fun _ => ⟨by omega, 3, by omega, by omega, zss e_z61 hX62_0 (by omega) (by omega), zss e_z79 hX80_0 (by omega) (by omega), by first | omega | exact Or.inr (zss e_z105 hX106_0 (by omega) (by omega)), by first | omega | exact Or.inr (zss e_z129 hX130_0 (by omega) (by omega)), by first | omega | exact Or.inr (zss e_z154 hX155_0 (by omega) (by omega))⟩ | exact fun _ => ⟨by omega, 4, by omega, by omega, zss e_z61 hX62_0 (by omega) (by omega), zss e_z79 hX80_0 (by omega) (by omega), by first | omega | exact Or.inr (zss e_z105 hX106_0 (by omega) (by omega)), by first | omega | exact Or.inr (zss e_z129 hX130_0 (by omega) (by omega)), by first | omega | exact Or.inr (zss e_z154 hX155_0 (by omega) (by omega))⟩ | exact fun _ => ⟨by omega, 5, by omega, by omega, zss e_z61 hX62_0 (by omega) (by omega), zss e_z79 hX80_0 (by omega) (by omega), by first | omega | exact Or.inr (zss e_z105 hX106_0 (by omega) (by omega)), by first | omega | exact Or.inr (zss e_z129 hX130_0 (by omega) (by omega)), by first | omega | exact Or.inr (zss e_z154 hX155_0 (by omega) (by omega))⟩, by first | (intro q; exact absurd q (by decide)) | exact fun _ => zMr_h (by omega) | exact fun _ => zMr_k (fun k_ y_ => by omega) | exact fun _ => zMr_0 e_z61 hX62_0 rfl (by omega) | exact fun _ => zMr_1 e_z79 hX80_0 (by omega) (by omega) | exact fun _ => zMr_2 e_z105 hX106_0 (by omega) (by omega) (by omega) | exact fun _ => zMr_3 e_z129 hX130_0 (by omega) (by omega) (by omega) | exact fun _ => zMr_4 e_z154 hX155_0 (by omega) (by omega) (by omega)⟩
            have hP9 : va_P (dC, dI) vwCl [(h0, .inr (13, mX13 q0 v0)), ((q0 0), zi k1 600 f1)] H := hP
            have hD9 : va_D A [(h0, .inr (13, mX13 q0 v0)), ((q0 0), zi k1 600 f1)] := hD
            exact W.zret (v := 0) hx hb hr rfl (fun t ht hW => ⟨⟨0, (fun _ => 0), rfl, hpost, (fun _ => 0), (fun _ => (fun _ => 0)), (fun _ => (fun _ => 0)), by rw [ht]; exact hP9, va_K.moved hW.alike hK, hD9⟩, hS.F ht⟩) hS.2.2 dX13_isRun_88
  · skip
    have b_ := zF_eq rfl zk_1 c_
    refine lv_iconst (v := 0) hx hb dX13_isRun_8 (by decide) ?_
    refine W.widen (k := 0) (n := 0) (by decide) (by decide) ?_
    have hpost : (0 ≤ (0 : Int32).toInt ∧ (0 : Int32).toInt ≤ 1) ∧ ((0 : Int32).toInt = 1 → (v0 36).toInt = 1) ∧ ((0 : Int32).toInt = 1 → zMr f1 (v0 37).toInt (v0 35).toInt (v0 36).toInt x1.toInt x2.toInt x3.toInt x4.toInt x5.toInt) ∧ ((0 : Int32).toInt = 0 → ¬ zMr f1 (v0 37).toInt (v0 35).toInt (v0 36).toInt x1.toInt x2.toInt x3.toInt x4.toInt x5.toInt) := ⟨⟨by omega, by omega⟩, by omega, by first | (intro q; exact absurd q (by decide)) | exact fun _ => ⟨by omega, 2, by omega, by omega, zss e_z61 hX62_0 (by omega) (by omega), zss e_z79 hX80_0 (by omega) (by omega), by first | omega | exact Or.inr (zss e_z105 hX106_0 (by omega) (by omega)), by first | omega | exact Or.inr (zss e_z129 hX130_0 (by omega) (by omega)), by first | omega | exact Or.inr (zss e_z154 hX155_0 (by omega) (by omega))⟩ | exact fun _ => ⟨by omega, 3, by omega, by omega, zss e_z61 hX62_0 (by omega) (by omega), zss e_z79 hX80_0 (by omega) (by omega), by first | omega | exact Or.inr (zss e_z105 hX106_0 (by omega) (by omega)), by first | omega | exact Or.inr (zss e_z129 hX130_0 (by omega) (by omega)), by first | omega | exact Or.inr (zss e_z154 hX155_0 (by omega) (by omega))⟩ | exact fun _ => ⟨by omega, 4, by omega, by omega, zss e_z61 hX62_0 (by omega) (by omega), zss e_z79 hX80_0 (by omega) (by omega), by first | omega | exact Or.inr (zss e_z105 hX106_0 (by omega) (by omega)), by first | omega | exact Or.inr (zss e_z129 hX130_0 (by omega) (by omega)), by first | omega | exact Or.inr (zss e_z154 hX155_0 (by omega) (by omega))⟩ | exact fun _ => ⟨by omega, 5, by omega, by omega, zss e_z61 hX62_0 (by omega) (by omega), zss e_z79 hX80_0 (by omega) (by omega), by first | omega | exact Or.inr (zss e_z105 hX106_0 (by omega) (by omega)), by first | omega | exact Or.inr (zss e_z129 hX130_0 (by omega) (by omega)), by first | omega | exact Or.inr (zss e_z154 hX155_0 (by omega) (by omega))⟩, by first | (intro q; exact absurd q (by decide)) | exact fun _ => zMr_h (by omega) | exact fun _ => zMr_k (fun k_ y_ => by omega) | exact fun _ => zMr_0 e_z61 hX62_0 rfl (by omega) | exact fun _ => zMr_1 e_z79 hX80_0 (by omega) (by omega) | exact fun _ => zMr_2 e_z105 hX106_0 (by omega) (by omega) (by omega) | exact fun _ => zMr_3 e_z129 hX130_0 (by omega) (by omega) (by omega) | exact fun _ => zMr_4 e_z154 hX155_0 (by omega) (by omega) (by omega)⟩
    have hP9 : va_P (dC, dI) vwCl [(h0, .inr (13, mX13 q0 v0)), ((q0 0), zi k1 600 f1)] s.heap := hP
    have hD9 : va_D A [(h0, .inr (13, mX13 q0 v0)), ((q0 0), zi k1 600 f1)] := hD
    exact W.zret (v := 0) hx hb hr rfl (fun t ht hW => ⟨⟨0, (fun _ => 0), rfl, hpost, (fun _ => 0), (fun _ => (fun _ => 0)), (fun _ => (fun _ => 0)), by rw [ht]; exact hP9, va_K.moved hW.alike hK, hD9⟩, hS.F ht⟩) hS.2.2 dX13_isRun_9
set_option maxHeartbeats 8000000 in
set_option maxRecDepth 100000 in
theorem sX13_isOr_0 (l : Launch) (dC : Nat → ClassId) (dI : Nat → Nat → Nat) (adK adV : Nat → Nat) (h0 : Nat) (q0 : Nat → Nat) (k1 : ClassId) (sz : Nat) (v0 : Nat → Int32) (f1 : Nat → Int32) (hv0 : zR rg_Model v0) : Met l yX13_isOr (zw yX13_isOr cX13_isOr 1 (some .boolean)) { frames := 3, cells := 0, slots := 0, locals := 66 } (zPc dC dI adK adV [.ref h0] sz [(h0, .inr (13, mX13 q0 v0)), ((q0 0), zi k1 600 f1)] [(k1, .byte)]) (va_Qi (fun (r : Int32) (u : Nat → Int32) => (0 ≤ r.toInt ∧ r.toInt ≤ 1) ∧ (r.toInt = 1 → (v0 36).toInt = 1) ∧ (r.toInt = 1 → (v0 36).toInt = 1 ∧ zSpm f1 (v0 37).toInt (v0 35).toInt 7 2) ∧ (r.toInt = 0 → ¬ ((v0 36).toInt = 1 ∧ zSpm f1 (v0 37).toInt (v0 35).toInt 7 2))) (fun (u : Nat → Int32) (t : State) => ∃ (ww : Nat → Int64) (aa : Nat → Nat → Int32) (bb : Nat → Nat → Int64), va_P (dC, dI) vwCl [(h0, .inr (13, mX13 q0 v0)), ((q0 0), zi k1 600 f1)] t.heap ∧ va_K (dC, dI) vwCl [(k1, .byte)] t ∧ va_D (va_A [(h0, .inr (13, mX13 q0 v0)), ((q0 0), zi k1 600 f1)] sz) [(h0, .inr (13, mX13 q0 v0)), ((q0 0), zi k1 600 f1)]) (va_A [(h0, .inr (13, mX13 q0 v0)), ((q0 0), zi k1 600 f1)] sz)) 0 0 (va_A [(h0, .inr (13, mX13 q0 v0)), ((q0 0), zi k1 600 f1)] sz) := by
  refine Met.ofW (cc := cX13_isOr) (maxL := 1) (ret := (some .boolean)) (by decide) rfl ?_
  intro p e s m args below meth c s₁ B hml hv
  obtain ⟨rfl, hsz, hP, hK, hD0, hE, hZ⟩ := hv
  have hx := B.exec
  have hb := B.bytes
  have hr := B.returns
  have hG : ∀ w ∈ zG, w.before _ s = true := fun w h => atoms_spec (ws := (zw yX13_isOr cX13_isOr 1 (some .boolean))) B.pre w (List.mem_cons_of_mem _ h)
  have hown : s.vm.findClass RX13 = some m.cls := findClass_of_methodNamed B.named
  have hlocks := B.notSynchronized

  subst hsz
  have hD := hD0.self (sz := s.heap.size)
  generalize hAe : va_A [(h0, .inr (13, mX13 q0 v0)), ((q0 0), zi k1 600 f1)] s.heap.size = A at hD hZ ⊢
  have hA : ∀ q : Nat, s.heap.size ≤ q → A q := fun q h => by rw [← hAe]; exact Or.inr h
  have hS : va_S A s.heap s.heap [] := va_S.rf
  have hl := lv_entry ([.ref h0]) (n := 1) (Nat.le_of_ble_eq_true rfl)
  rw [lg_entry_eq]
  generalize (lg_sl ([.ref h0]) ++ List.replicate (1 - (lg_sl ([.ref h0])).length) Slot.unset).toArray = ls at hl ⊢
  have hl : lv_has ls 1 [(0, .ref h0)] := hl
  have b_ := zk_0
  have b_ := zk_111
  have b_ := zk_114
  have b_ : 0 ≤ (v0 36).toInt ∧ (v0 36).toInt ≤ 3 := hv0 36
  have b_ : 0 ≤ (v0 37).toInt ∧ (v0 37).toInt ≤ 600 := hv0 37
  have b_ : 0 ≤ (v0 35).toInt ∧ (v0 35).toInt ≤ 600 := hv0 35
  refine lv_aload_n hx hb dX13_isOr_0 rfl (lv_at hl 0 rfl) ?_
  refine lv_bipush (v := 111) hx hb dX13_isOr_1 (by decide) ?_
  refine lv_bipush (v := 114) hx hb dX13_isOr_3 (by decide) ?_
  refine lv_iconst (v := 0) hx hb dX13_isOr_5 (by decide) ?_
  refine lv_iconst (v := 0) hx hb dX13_isOr_6 (by decide) ?_
  refine lv_iconst (v := 0) hx hb dX13_isOr_7 (by decide) ?_
  have hPc := hP.sub (ws' := [(h0, .inr (13, mX13 q0 v0)), ((q0 0), zi k1 600 f1)]) [0, 1] rfl
  have hDc := hD.sub (ws' := [(h0, .inr (13, mX13 q0 v0)), ((q0 0), zi k1 600 f1)]) [0, 1] (by decide) rfl
  have hKc := hK.sub (tys' := [(k1, .byte)]) [0] rfl
  have hFc := va_free (wc := [(h0, .inr (13, mX13 q0 v0)), ((q0 0), zi k1 600 f1)]) hD hS hA [0, 1] rfl
  refine va_calli (va_runV (As := [.int 111, .int 114, .int 0, .int 0, .int 0]) (rest := []) ⟨hx, hb, hml, hown, hG⟩ (sX13_isRun_0 l dC dI adK adV h0 q0 k1 s.heap.size v0 f1 111 114 0 0 0 hv0) (cwV 5 hG (zgV zv2066 zv2068 zv88 zv142 zv2069) rfl rfl rfl (by decide +kernel) ⟨Nat.le_of_ble_eq_true rfl, Nat.le_of_ble_eq_true rfl⟩) ⟨zPc_blind, va_recv hKc hPc (ci := 13) (q0 := 0) rfl rfl, zPc_pre hPc hKc hDc hE hS hFc hZ⟩ rfl rfl hl.1 rfl (lv_room (Nat.le_of_ble_eq_true rfl)) dX13_isOr_8 ⟨Nat.le_of_ble_eq_true rfl, Nat.le_of_ble_eq_true rfl⟩) hS (fun q _ h => hFc q h) hFc (fun r8_ u8_ t H1 locs ht hvm hw hB hz1 hk1 hS => ?_)
  replace hw : (0 ≤ r8_.toInt ∧ r8_.toInt ≤ 1) ∧ (r8_.toInt = 1 → (v0 36).toInt = 1) ∧ (r8_.toInt = 1 → zMr f1 (v0 37).toInt (v0 35).toInt (v0 36).toInt (111 : Int32).toInt (114 : Int32).toInt (0 : Int32).toInt (0 : Int32).toInt (0 : Int32).toInt) ∧ (r8_.toInt = 0 → ¬ zMr f1 (v0 37).toInt (v0 35).toInt (v0 36).toInt (111 : Int32).toInt (114 : Int32).toInt (0 : Int32).toInt (0 : Int32).toInt (0 : Int32).toInt) := hw
  obtain ⟨b_, hX8_0, hX8_1, hX8_2⟩ := hw
  obtain ⟨w8_, a8_, b8_, hP1, hK1, hD1⟩ := hB
  rw [ht] at hP1
  obtain ⟨hP, hD⟩ := va_join (wr := []) (w1 := [(h0, .inr (13, mX13 q0 v0)), ((q0 0), zi k1 600 f1)]) hP hD [0, 1] [] rfl rfl (by decide) (by decide) hk1 hFc hP1 hD1
  have hP : va_P (dC, dI) vwCl [(h0, .inr (13, mX13 q0 v0)), ((q0 0), zi k1 600 f1)] H1 := hP.sub [0, 1] rfl
  have hD : va_D A [(h0, .inr (13, mX13 q0 v0)), ((q0 0), zi k1 600 f1)] := hD.sub [0, 1] (by decide) rfl
  generalize H1 = H at hP hS ⊢
  clear hz1
  refine W.widen (k := 0) (n := 0) (by decide) (by decide) ?_
  have hpost : (0 ≤ r8_.toInt ∧ r8_.toInt ≤ 1) ∧ (r8_.toInt = 1 → (v0 36).toInt = 1) ∧ (r8_.toInt = 1 → (v0 36).toInt = 1 ∧ zSpm f1 (v0 37).toInt (v0 35).toInt 7 2) ∧ (r8_.toInt = 0 → ¬ ((v0 36).toInt = 1 ∧ zSpm f1 (v0 37).toInt (v0 35).toInt 7 2)) := ⟨⟨by omega, by omega⟩, by omega, by exact fun _ => (zMr_or (by omega)).mp (hX8_1 (by omega)), by exact fun _ y_ => hX8_2 (by omega) ((zMr_or (by omega)).mpr y_)⟩
  have hP9 : va_P (dC, dI) vwCl [(h0, .inr (13, mX13 q0 v0)), ((q0 0), zi k1 600 f1)] H := hP
  have hD9 : va_D A [(h0, .inr (13, mX13 q0 v0)), ((q0 0), zi k1 600 f1)] := hD
  exact W.zret (v := r8_) hx hb hr (zbn ⟨by omega, by omega⟩) (fun t ht hW => ⟨⟨r8_, (fun _ => 0), rfl, hpost, (fun _ => 0), (fun _ => (fun _ => 0)), (fun _ => (fun _ => 0)), by rw [ht]; exact hP9, va_K.moved hW.alike hK, hD9⟩, hS.F ht⟩) hS.2.2 dX13_isOr_11
set_option maxHeartbeats 8000000 in
set_option maxRecDepth 100000 in
theorem sX13_isAnd_0 (l : Launch) (dC : Nat → ClassId) (dI : Nat → Nat → Nat) (adK adV : Nat → Nat) (h0 : Nat) (q0 : Nat → Nat) (k1 : ClassId) (sz : Nat) (v0 : Nat → Int32) (f1 : Nat → Int32) (hv0 : zR rg_Model v0) : Met l yX13_isAnd (zw yX13_isAnd cX13_isAnd 1 (some .boolean)) { frames := 3, cells := 0, slots := 0, locals := 66 } (zPc dC dI adK adV [.ref h0] sz [(h0, .inr (13, mX13 q0 v0)), ((q0 0), zi k1 600 f1)] [(k1, .byte)]) (va_Qi (fun (r : Int32) (u : Nat → Int32) => (0 ≤ r.toInt ∧ r.toInt ≤ 1) ∧ (r.toInt = 1 → (v0 36).toInt = 1) ∧ (r.toInt = 1 → (v0 36).toInt = 1 ∧ zSpm f1 (v0 37).toInt (v0 35).toInt 8 3) ∧ (r.toInt = 0 → ¬ ((v0 36).toInt = 1 ∧ zSpm f1 (v0 37).toInt (v0 35).toInt 8 3))) (fun (u : Nat → Int32) (t : State) => ∃ (ww : Nat → Int64) (aa : Nat → Nat → Int32) (bb : Nat → Nat → Int64), va_P (dC, dI) vwCl [(h0, .inr (13, mX13 q0 v0)), ((q0 0), zi k1 600 f1)] t.heap ∧ va_K (dC, dI) vwCl [(k1, .byte)] t ∧ va_D (va_A [(h0, .inr (13, mX13 q0 v0)), ((q0 0), zi k1 600 f1)] sz) [(h0, .inr (13, mX13 q0 v0)), ((q0 0), zi k1 600 f1)]) (va_A [(h0, .inr (13, mX13 q0 v0)), ((q0 0), zi k1 600 f1)] sz)) 0 0 (va_A [(h0, .inr (13, mX13 q0 v0)), ((q0 0), zi k1 600 f1)] sz) := by
  refine Met.ofW (cc := cX13_isAnd) (maxL := 1) (ret := (some .boolean)) (by decide) rfl ?_
  intro p e s m args below meth c s₁ B hml hv
  obtain ⟨rfl, hsz, hP, hK, hD0, hE, hZ⟩ := hv
  have hx := B.exec
  have hb := B.bytes
  have hr := B.returns
  have hG : ∀ w ∈ zG, w.before _ s = true := fun w h => atoms_spec (ws := (zw yX13_isAnd cX13_isAnd 1 (some .boolean))) B.pre w (List.mem_cons_of_mem _ h)
  have hown : s.vm.findClass RX13 = some m.cls := findClass_of_methodNamed B.named
  have hlocks := B.notSynchronized

  subst hsz
  have hD := hD0.self (sz := s.heap.size)
  generalize hAe : va_A [(h0, .inr (13, mX13 q0 v0)), ((q0 0), zi k1 600 f1)] s.heap.size = A at hD hZ ⊢
  have hA : ∀ q : Nat, s.heap.size ≤ q → A q := fun q h => by rw [← hAe]; exact Or.inr h
  have hS : va_S A s.heap s.heap [] := va_S.rf
  have hl := lv_entry ([.ref h0]) (n := 1) (Nat.le_of_ble_eq_true rfl)
  rw [lg_entry_eq]
  generalize (lg_sl ([.ref h0]) ++ List.replicate (1 - (lg_sl ([.ref h0])).length) Slot.unset).toArray = ls at hl ⊢
  have hl : lv_has ls 1 [(0, .ref h0)] := hl
  have b_ := zk_0
  have b_ := zk_97
  have b_ := zk_100
  have b_ := zk_110
  have b_ : 0 ≤ (v0 36).toInt ∧ (v0 36).toInt ≤ 3 := hv0 36
  have b_ : 0 ≤ (v0 37).toInt ∧ (v0 37).toInt ≤ 600 := hv0 37
  have b_ : 0 ≤ (v0 35).toInt ∧ (v0 35).toInt ≤ 600 := hv0 35
  refine lv_aload_n hx hb dX13_isAnd_0 rfl (lv_at hl 0 rfl) ?_
  refine lv_bipush (v := 97) hx hb dX13_isAnd_1 (by decide) ?_
  refine lv_bipush (v := 110) hx hb dX13_isAnd_3 (by decide) ?_
  refine lv_bipush (v := 100) hx hb dX13_isAnd_5 (by decide) ?_
  refine lv_iconst (v := 0) hx hb dX13_isAnd_7 (by decide) ?_
  refine lv_iconst (v := 0) hx hb dX13_isAnd_8 (by decide) ?_
  have hPc := hP.sub (ws' := [(h0, .inr (13, mX13 q0 v0)), ((q0 0), zi k1 600 f1)]) [0, 1] rfl
  have hDc := hD.sub (ws' := [(h0, .inr (13, mX13 q0 v0)), ((q0 0), zi k1 600 f1)]) [0, 1] (by decide) rfl
  have hKc := hK.sub (tys' := [(k1, .byte)]) [0] rfl
  have hFc := va_free (wc := [(h0, .inr (13, mX13 q0 v0)), ((q0 0), zi k1 600 f1)]) hD hS hA [0, 1] rfl
  refine va_calli (va_runV (As := [.int 97, .int 110, .int 100, .int 0, .int 0]) (rest := []) ⟨hx, hb, hml, hown, hG⟩ (sX13_isRun_0 l dC dI adK adV h0 q0 k1 s.heap.size v0 f1 97 110 100 0 0 hv0) (cwV 5 hG (zgV zv2066 zv2068 zv88 zv142 zv2069) rfl rfl rfl (by decide +kernel) ⟨Nat.le_of_ble_eq_true rfl, Nat.le_of_ble_eq_true rfl⟩) ⟨zPc_blind, va_recv hKc hPc (ci := 13) (q0 := 0) rfl rfl, zPc_pre hPc hKc hDc hE hS hFc hZ⟩ rfl rfl hl.1 rfl (lv_room (Nat.le_of_ble_eq_true rfl)) dX13_isAnd_9 ⟨Nat.le_of_ble_eq_true rfl, Nat.le_of_ble_eq_true rfl⟩) hS (fun q _ h => hFc q h) hFc (fun r9_ u9_ t H1 locs ht hvm hw hB hz1 hk1 hS => ?_)
  replace hw : (0 ≤ r9_.toInt ∧ r9_.toInt ≤ 1) ∧ (r9_.toInt = 1 → (v0 36).toInt = 1) ∧ (r9_.toInt = 1 → zMr f1 (v0 37).toInt (v0 35).toInt (v0 36).toInt (97 : Int32).toInt (110 : Int32).toInt (100 : Int32).toInt (0 : Int32).toInt (0 : Int32).toInt) ∧ (r9_.toInt = 0 → ¬ zMr f1 (v0 37).toInt (v0 35).toInt (v0 36).toInt (97 : Int32).toInt (110 : Int32).toInt (100 : Int32).toInt (0 : Int32).toInt (0 : Int32).toInt) := hw
  obtain ⟨b_, hX9_0, hX9_1, hX9_2⟩ := hw
  obtain ⟨w9_, a9_, b9_, hP1, hK1, hD1⟩ := hB
  rw [ht] at hP1
  obtain ⟨hP, hD⟩ := va_join (wr := []) (w1 := [(h0, .inr (13, mX13 q0 v0)), ((q0 0), zi k1 600 f1)]) hP hD [0, 1] [] rfl rfl (by decide) (by decide) hk1 hFc hP1 hD1
  have hP : va_P (dC, dI) vwCl [(h0, .inr (13, mX13 q0 v0)), ((q0 0), zi k1 600 f1)] H1 := hP.sub [0, 1] rfl
  have hD : va_D A [(h0, .inr (13, mX13 q0 v0)), ((q0 0), zi k1 600 f1)] := hD.sub [0, 1] (by decide) rfl
  generalize H1 = H at hP hS ⊢
  clear hz1
  refine W.widen (k := 0) (n := 0) (by decide) (by decide) ?_
  have hpost : (0 ≤ r9_.toInt ∧ r9_.toInt ≤ 1) ∧ (r9_.toInt = 1 → (v0 36).toInt = 1) ∧ (r9_.toInt = 1 → (v0 36).toInt = 1 ∧ zSpm f1 (v0 37).toInt (v0 35).toInt 8 3) ∧ (r9_.toInt = 0 → ¬ ((v0 36).toInt = 1 ∧ zSpm f1 (v0 37).toInt (v0 35).toInt 8 3)) := ⟨⟨by omega, by omega⟩, by omega, by exact fun _ => (zMr_3l (s := 8) (by omega) (by decide) (by decide) (by decide) (by decide)).mp (hX9_1 (by omega)), by exact fun _ y_ => hX9_2 (by omega) ((zMr_3l (s := 8) (by omega) (by decide) (by decide) (by decide) (by decide)).mpr y_)⟩
  have hP9 : va_P (dC, dI) vwCl [(h0, .inr (13, mX13 q0 v0)), ((q0 0), zi k1 600 f1)] H := hP
  have hD9 : va_D A [(h0, .inr (13, mX13 q0 v0)), ((q0 0), zi k1 600 f1)] := hD
  exact W.zret (v := r9_) hx hb hr (zbn ⟨by omega, by omega⟩) (fun t ht hW => ⟨⟨r9_, (fun _ => 0), rfl, hpost, (fun _ => 0), (fun _ => (fun _ => 0)), (fun _ => (fun _ => 0)), by rw [ht]; exact hP9, va_K.moved hW.alike hK, hD9⟩, hS.F ht⟩) hS.2.2 dX13_isAnd_12
set_option maxHeartbeats 8000000 in
set_option maxRecDepth 100000 in
theorem sX13_isNear_0 (l : Launch) (dC : Nat → ClassId) (dI : Nat → Nat → Nat) (adK adV : Nat → Nat) (h0 : Nat) (q0 : Nat → Nat) (k1 : ClassId) (sz : Nat) (v0 : Nat → Int32) (f1 : Nat → Int32) (hv0 : zR rg_Model v0) : Met l yX13_isNear (zw yX13_isNear cX13_isNear 1 (some .boolean)) { frames := 3, cells := 0, slots := 0, locals := 66 } (zPc dC dI adK adV [.ref h0] sz [(h0, .inr (13, mX13 q0 v0)), ((q0 0), zi k1 600 f1)] [(k1, .byte)]) (va_Qi (fun (r : Int32) (u : Nat → Int32) => (0 ≤ r.toInt ∧ r.toInt ≤ 1) ∧ (r.toInt = 1 → (v0 36).toInt = 1) ∧ (r.toInt = 1 → (v0 36).toInt = 1 ∧ zSpm f1 (v0 37).toInt (v0 35).toInt 10 4) ∧ (r.toInt = 0 → ¬ ((v0 36).toInt = 1 ∧ zSpm f1 (v0 37).toInt (v0 35).toInt 10 4))) (fun (u : Nat → Int32) (t : State) => ∃ (ww : Nat → Int64) (aa : Nat → Nat → Int32) (bb : Nat → Nat → Int64), va_P (dC, dI) vwCl [(h0, .inr (13, mX13 q0 v0)), ((q0 0), zi k1 600 f1)] t.heap ∧ va_K (dC, dI) vwCl [(k1, .byte)] t ∧ va_D (va_A [(h0, .inr (13, mX13 q0 v0)), ((q0 0), zi k1 600 f1)] sz) [(h0, .inr (13, mX13 q0 v0)), ((q0 0), zi k1 600 f1)]) (va_A [(h0, .inr (13, mX13 q0 v0)), ((q0 0), zi k1 600 f1)] sz)) 0 0 (va_A [(h0, .inr (13, mX13 q0 v0)), ((q0 0), zi k1 600 f1)] sz) := by
  refine Met.ofW (cc := cX13_isNear) (maxL := 1) (ret := (some .boolean)) (by decide) rfl ?_
  intro p e s m args below meth c s₁ B hml hv
  obtain ⟨rfl, hsz, hP, hK, hD0, hE, hZ⟩ := hv
  have hx := B.exec
  have hb := B.bytes
  have hr := B.returns
  have hG : ∀ w ∈ zG, w.before _ s = true := fun w h => atoms_spec (ws := (zw yX13_isNear cX13_isNear 1 (some .boolean))) B.pre w (List.mem_cons_of_mem _ h)
  have hown : s.vm.findClass RX13 = some m.cls := findClass_of_methodNamed B.named
  have hlocks := B.notSynchronized

  subst hsz
  have hD := hD0.self (sz := s.heap.size)
  generalize hAe : va_A [(h0, .inr (13, mX13 q0 v0)), ((q0 0), zi k1 600 f1)] s.heap.size = A at hD hZ ⊢
  have hA : ∀ q : Nat, s.heap.size ≤ q → A q := fun q h => by rw [← hAe]; exact Or.inr h
  have hS : va_S A s.heap s.heap [] := va_S.rf
  have hl := lv_entry ([.ref h0]) (n := 1) (Nat.le_of_ble_eq_true rfl)
  rw [lg_entry_eq]
  generalize (lg_sl ([.ref h0]) ++ List.replicate (1 - (lg_sl ([.ref h0])).length) Slot.unset).toArray = ls at hl ⊢
  have hl : lv_has ls 1 [(0, .ref h0)] := hl
  have b_ := zk_0
  have b_ := zk_97
  have b_ := zk_101
  have b_ := zk_110
  have b_ := zk_114
  have b_ : 0 ≤ (v0 36).toInt ∧ (v0 36).toInt ≤ 3 := hv0 36
  have b_ : 0 ≤ (v0 37).toInt ∧ (v0 37).toInt ≤ 600 := hv0 37
  have b_ : 0 ≤ (v0 35).toInt ∧ (v0 35).toInt ≤ 600 := hv0 35
  refine lv_aload_n hx hb dX13_isNear_0 rfl (lv_at hl 0 rfl) ?_
  refine lv_bipush (v := 110) hx hb dX13_isNear_1 (by decide) ?_
  refine lv_bipush (v := 101) hx hb dX13_isNear_3 (by decide) ?_
  refine lv_bipush (v := 97) hx hb dX13_isNear_5 (by decide) ?_
  refine lv_bipush (v := 114) hx hb dX13_isNear_7 (by decide) ?_
  refine lv_iconst (v := 0) hx hb dX13_isNear_9 (by decide) ?_
  have hPc := hP.sub (ws' := [(h0, .inr (13, mX13 q0 v0)), ((q0 0), zi k1 600 f1)]) [0, 1] rfl
  have hDc := hD.sub (ws' := [(h0, .inr (13, mX13 q0 v0)), ((q0 0), zi k1 600 f1)]) [0, 1] (by decide) rfl
  have hKc := hK.sub (tys' := [(k1, .byte)]) [0] rfl
  have hFc := va_free (wc := [(h0, .inr (13, mX13 q0 v0)), ((q0 0), zi k1 600 f1)]) hD hS hA [0, 1] rfl
  refine va_calli (va_runV (As := [.int 110, .int 101, .int 97, .int 114, .int 0]) (rest := []) ⟨hx, hb, hml, hown, hG⟩ (sX13_isRun_0 l dC dI adK adV h0 q0 k1 s.heap.size v0 f1 110 101 97 114 0 hv0) (cwV 5 hG (zgV zv2066 zv2068 zv88 zv142 zv2069) rfl rfl rfl (by decide +kernel) ⟨Nat.le_of_ble_eq_true rfl, Nat.le_of_ble_eq_true rfl⟩) ⟨zPc_blind, va_recv hKc hPc (ci := 13) (q0 := 0) rfl rfl, zPc_pre hPc hKc hDc hE hS hFc hZ⟩ rfl rfl hl.1 rfl (lv_room (Nat.le_of_ble_eq_true rfl)) dX13_isNear_10 ⟨Nat.le_of_ble_eq_true rfl, Nat.le_of_ble_eq_true rfl⟩) hS (fun q _ h => hFc q h) hFc (fun r10_ u10_ t H1 locs ht hvm hw hB hz1 hk1 hS => ?_)
  replace hw : (0 ≤ r10_.toInt ∧ r10_.toInt ≤ 1) ∧ (r10_.toInt = 1 → (v0 36).toInt = 1) ∧ (r10_.toInt = 1 → zMr f1 (v0 37).toInt (v0 35).toInt (v0 36).toInt (110 : Int32).toInt (101 : Int32).toInt (97 : Int32).toInt (114 : Int32).toInt (0 : Int32).toInt) ∧ (r10_.toInt = 0 → ¬ zMr f1 (v0 37).toInt (v0 35).toInt (v0 36).toInt (110 : Int32).toInt (101 : Int32).toInt (97 : Int32).toInt (114 : Int32).toInt (0 : Int32).toInt) := hw
  obtain ⟨b_, hX10_0, hX10_1, hX10_2⟩ := hw
  obtain ⟨w10_, a10_, b10_, hP1, hK1, hD1⟩ := hB
  rw [ht] at hP1
  obtain ⟨hP, hD⟩ := va_join (wr := []) (w1 := [(h0, .inr (13, mX13 q0 v0)), ((q0 0), zi k1 600 f1)]) hP hD [0, 1] [] rfl rfl (by decide) (by decide) hk1 hFc hP1 hD1
  have hP : va_P (dC, dI) vwCl [(h0, .inr (13, mX13 q0 v0)), ((q0 0), zi k1 600 f1)] H1 := hP.sub [0, 1] rfl
  have hD : va_D A [(h0, .inr (13, mX13 q0 v0)), ((q0 0), zi k1 600 f1)] := hD.sub [0, 1] (by decide) rfl
  generalize H1 = H at hP hS ⊢
  clear hz1
  refine W.widen (k := 0) (n := 0) (by decide) (by decide) ?_
  have hpost : (0 ≤ r10_.toInt ∧ r10_.toInt ≤ 1) ∧ (r10_.toInt = 1 → (v0 36).toInt = 1) ∧ (r10_.toInt = 1 → (v0 36).toInt = 1 ∧ zSpm f1 (v0 37).toInt (v0 35).toInt 10 4) ∧ (r10_.toInt = 0 → ¬ ((v0 36).toInt = 1 ∧ zSpm f1 (v0 37).toInt (v0 35).toInt 10 4)) := ⟨⟨by omega, by omega⟩, by omega, by exact fun _ => (zMr_4l (s := 10) (by omega) (by decide) (by decide) (by decide) (by decide) (by decide)).mp (hX10_1 (by omega)), by exact fun _ y_ => hX10_2 (by omega) ((zMr_4l (s := 10) (by omega) (by decide) (by decide) (by decide) (by decide) (by decide)).mpr y_)⟩
  have hP9 : va_P (dC, dI) vwCl [(h0, .inr (13, mX13 q0 v0)), ((q0 0), zi k1 600 f1)] H := hP
  have hD9 : va_D A [(h0, .inr (13, mX13 q0 v0)), ((q0 0), zi k1 600 f1)] := hD
  exact W.zret (v := r10_) hx hb hr (zbn ⟨by omega, by omega⟩) (fun t ht hW => ⟨⟨r10_, (fun _ => 0), rfl, hpost, (fun _ => 0), (fun _ => (fun _ => 0)), (fun _ => (fun _ => 0)), by rw [ht]; exact hP9, va_K.moved hW.alike hK, hD9⟩, hS.F ht⟩) hS.2.2 dX13_isNear_13
set_option maxHeartbeats 8000000 in
set_option maxRecDepth 100000 in
theorem sX13_begins_0 (l : Launch) (dC : Nat → ClassId) (dI : Nat → Nat → Nat) (adK adV : Nat → Nat) (h0 : Nat) (q0 : Nat → Nat) (k1 : ClassId) (sz : Nat) (v0 : Nat → Int32) (f1 : Nat → Int32) (hv0 : zR rg_Model v0) (hp0_ : (v0 36).toInt ≠ 0 → (v0 37).toInt < (v0 34).toInt) : Met l yX13_begins (zw yX13_begins cX13_begins 1 (some .boolean)) { frames := 4, cells := 0, slots := 0, locals := 86 } (zPc dC dI adK adV [.ref h0] sz [(h0, .inr (13, mX13 q0 v0)), ((q0 0), zi k1 600 f1)] [(k1, .byte)]) (va_Qi (fun (r : Int32) (u : Nat → Int32) => (0 ≤ r.toInt ∧ r.toInt ≤ 1) ∧ (r.toInt = 1 → (v0 36).toInt ≠ 0) ∧ (r.toInt = 1 → ((v0 36).toInt = 1 ∧ ¬ zSpm f1 (v0 37).toInt (v0 35).toInt 7 2 ∧ ¬ zSpm f1 (v0 37).toInt (v0 35).toInt 8 3 ∧ ¬ zSpm f1 (v0 37).toInt (v0 35).toInt 10 4) ∨ zSg f1 (v0 37).toInt (v0 36).toInt 40 ∨ zSg f1 (v0 37).toInt (v0 36).toInt 91 ∨ zSg f1 (v0 37).toInt (v0 36).toInt 34) ∧ (r.toInt = 0 → ¬ (((v0 36).toInt = 1 ∧ ¬ zSpm f1 (v0 37).toInt (v0 35).toInt 7 2 ∧ ¬ zSpm f1 (v0 37).toInt (v0 35).toInt 8 3 ∧ ¬ zSpm f1 (v0 37).toInt (v0 35).toInt 10 4) ∨ zSg f1 (v0 37).toInt (v0 36).toInt 40 ∨ zSg f1 (v0 37).toInt (v0 36).toInt 91 ∨ zSg f1 (v0 37).toInt (v0 36).toInt 34))) (fun (u : Nat → Int32) (t : State) => ∃ (ww : Nat → Int64) (aa : Nat → Nat → Int32) (bb : Nat → Nat → Int64), va_P (dC, dI) vwCl [(h0, .inr (13, mX13 q0 v0)), ((q0 0), zi k1 600 f1)] t.heap ∧ va_K (dC, dI) vwCl [(k1, .byte)] t ∧ va_D (va_A [(h0, .inr (13, mX13 q0 v0)), ((q0 0), zi k1 600 f1)] sz) [(h0, .inr (13, mX13 q0 v0)), ((q0 0), zi k1 600 f1)]) (va_A [(h0, .inr (13, mX13 q0 v0)), ((q0 0), zi k1 600 f1)] sz)) 0 0 (va_A [(h0, .inr (13, mX13 q0 v0)), ((q0 0), zi k1 600 f1)] sz) := by
  refine Met.ofW (cc := cX13_begins) (maxL := 1) (ret := (some .boolean)) (by decide) rfl ?_
  intro p e s m args below meth c s₁ B hml hv
  obtain ⟨rfl, hsz, hP, hK, hD0, hE, hZ⟩ := hv
  have hx := B.exec
  have hb := B.bytes
  have hr := B.returns
  have hG : ∀ w ∈ zG, w.before _ s = true := fun w h => atoms_spec (ws := (zw yX13_begins cX13_begins 1 (some .boolean))) B.pre w (List.mem_cons_of_mem _ h)
  have hown : s.vm.findClass RX13 = some m.cls := findClass_of_methodNamed B.named
  have hlocks := B.notSynchronized

  subst hsz
  have hD := hD0.self (sz := s.heap.size)
  generalize hAe : va_A [(h0, .inr (13, mX13 q0 v0)), ((q0 0), zi k1 600 f1)] s.heap.size = A at hD hZ ⊢
  have hA : ∀ q : Nat, s.heap.size ≤ q → A q := fun q h => by rw [← hAe]; exact Or.inr h
  have hS : va_S A s.heap s.heap [] := va_S.rf
  have hl := lv_entry ([.ref h0]) (n := 1) (Nat.le_of_ble_eq_true rfl)
  rw [lg_entry_eq]
  generalize (lg_sl ([.ref h0]) ++ List.replicate (1 - (lg_sl ([.ref h0])).length) Slot.unset).toArray = ls at hl ⊢
  have hl : lv_has ls 1 [(0, .ref h0)] := hl
  have b_ := zk_0
  have b_ := zk_1
  have b_ := zk_34
  have b_ := zk_40
  have b_ := zk_91
  have b_ : 0 ≤ (v0 36).toInt ∧ (v0 36).toInt ≤ 3 := hv0 36
  have b_ : 0 ≤ (v0 37).toInt ∧ (v0 37).toInt ≤ 600 := hv0 37
  have b_ : 0 ≤ (v0 34).toInt ∧ (v0 34).toInt ≤ 600 := hv0 34
  have b_ : 0 ≤ (v0 35).toInt ∧ (v0 35).toInt ≤ 600 := hv0 35
  refine lv_aload_n hx hb dX13_begins_0 rfl (lv_at hl 0 rfl) ?_
  refine va_get (D := (dC, dI)) (ci := 13) (v := .int (v0 36)) (C := RX13) (T := TX13) (N := 75) hx hb hG zuX13 hown hK hP 0 rfl rfl 36 (by decide) (hG _ zv1640) (fun _ h9 => h9) rfl dX13_begins_1 ?_
  refine lv_iconst (v := 1) hx hb dX13_begins_4 (by decide) ?_
  refine lv_icmp_ne (tgt := 35) hx hb dX13_begins_5 (by decide) (fun c_ => ?_) (fun c_ => ?_)
  · skip
    have b_ := zT_ne rfl zk_1 c_
    refine lv_aload_n hx hb dX13_begins_35 rfl (lv_at hl 0 rfl) ?_
    refine lv_bipush (v := 40) hx hb dX13_begins_36 (by decide) ?_
    have hPc := hP.sub (ws' := [(h0, .inr (13, mX13 q0 v0)), ((q0 0), zi k1 600 f1)]) [0, 1] rfl
    have hDc := hD.sub (ws' := [(h0, .inr (13, mX13 q0 v0)), ((q0 0), zi k1 600 f1)]) [0, 1] (by decide) rfl
    have hKc := hK.sub (tys' := [(k1, .byte)]) [0] rfl
    have hFc := va_free (wc := [(h0, .inr (13, mX13 q0 v0)), ((q0 0), zi k1 600 f1)]) hD hS hA [0, 1] rfl
    refine va_calli (va_runV (As := [.int 40]) (rest := []) ⟨hx, hb, hml, hown, hG⟩ (sX13_isSign_0 l dC dI adK adV h0 q0 k1 s.heap.size v0 f1 40 hv0 (show (v0 36).toInt ≠ 0 → (v0 37).toInt < (v0 34).toInt from by omega)) (cwV 1 hG (zgV zv2090 zv2092 zv94 zv142 zv2093) rfl rfl rfl (by decide +kernel) ⟨Nat.le_of_ble_eq_true rfl, Nat.le_of_ble_eq_true rfl⟩) ⟨zPc_blind, va_recv hKc hPc (ci := 13) (q0 := 0) rfl rfl, zPc_pre hPc hKc hDc hE hS hFc hZ⟩ rfl rfl hl.1 rfl (lv_room (Nat.le_of_ble_eq_true rfl)) dX13_begins_38 ⟨Nat.le_of_ble_eq_true rfl, Nat.le_of_ble_eq_true rfl⟩) hS (fun q _ h => hFc q h) hFc (fun r38_ u38_ t H1 locs ht hvm hw hB hz1 hk1 hS => ?_)
    replace hw : (0 ≤ r38_.toInt ∧ r38_.toInt ≤ 1) ∧ (r38_.toInt = 1 → (v0 36).toInt = 2) ∧ (r38_.toInt = 1 → zSg f1 (v0 37).toInt (v0 36).toInt (40 : Int32).toInt) ∧ (r38_.toInt = 0 → ¬ zSg f1 (v0 37).toInt (v0 36).toInt (40 : Int32).toInt) := hw
    obtain ⟨b_, hX38_0, hX38_1, hX38_2⟩ := hw
    obtain ⟨w38_, a38_, b38_, hP1, hK1, hD1⟩ := hB
    rw [ht] at hP1
    obtain ⟨hP, hD⟩ := va_join (wr := []) (w1 := [(h0, .inr (13, mX13 q0 v0)), ((q0 0), zi k1 600 f1)]) hP hD [0, 1] [] rfl rfl (by decide) (by decide) hk1 hFc hP1 hD1
    have hP : va_P (dC, dI) vwCl [(h0, .inr (13, mX13 q0 v0)), ((q0 0), zi k1 600 f1)] H1 := hP.sub [0, 1] rfl
    have hD : va_D A [(h0, .inr (13, mX13 q0 v0)), ((q0 0), zi k1 600 f1)] := hD.sub [0, 1] (by decide) rfl
    generalize H1 = H at hP hS ⊢
    clear hz1
    refine lv_if_ne (tgt := 62) hx hb dX13_begins_41 (by decide) (fun c_ => ?_) (fun c_ => ?_)
    · skip
      have b_ := zT_ne rfl zk_0 c_
      refine lv_iconst (v := 1) hx hb dX13_begins_62 (by decide) ?_
      refine lv_goto (tgt := 67) hx hb dX13_begins_63 (by decide) ?_
      refine W.widen (k := 0) (n := 0) (by decide) (by decide) ?_
      have hpost : (0 ≤ (1 : Int32).toInt ∧ (1 : Int32).toInt ≤ 1) ∧ ((1 : Int32).toInt = 1 → (v0 36).toInt ≠ 0) ∧ ((1 : Int32).toInt = 1 → ((v0 36).toInt = 1 ∧ ¬ zSpm f1 (v0 37).toInt (v0 35).toInt 7 2 ∧ ¬ zSpm f1 (v0 37).toInt (v0 35).toInt 8 3 ∧ ¬ zSpm f1 (v0 37).toInt (v0 35).toInt 10 4) ∨ zSg f1 (v0 37).toInt (v0 36).toInt 40 ∨ zSg f1 (v0 37).toInt (v0 36).toInt 91 ∨ zSg f1 (v0 37).toInt (v0 36).toInt 34) ∧ ((1 : Int32).toInt = 0 → ¬ (((v0 36).toInt = 1 ∧ ¬ zSpm f1 (v0 37).toInt (v0 35).toInt 7 2 ∧ ¬ zSpm f1 (v0 37).toInt (v0 35).toInt 8 3 ∧ ¬ zSpm f1 (v0 37).toInt (v0 35).toInt 10 4) ∨ zSg f1 (v0 37).toInt (v0 36).toInt 40 ∨ zSg f1 (v0 37).toInt (v0 36).toInt 91 ∨ zSg f1 (v0 37).toInt (v0 36).toInt 34)) := ⟨⟨by omega, by omega⟩, by omega, by first | (intro q; exact absurd q (by decide)) | exact fun _ => Or.inl ⟨by omega, fun a_ => hX9_2 (by omega) ⟨by omega, a_⟩, fun a_ => hX16_2 (by omega) ⟨by omega, a_⟩, fun a_ => hX23_2 (by omega) ⟨by omega, a_⟩⟩ | exact fun _ => Or.inr (Or.inl (hX38_1 (by omega))) | exact fun _ => Or.inr (Or.inr (Or.inl (hX47_1 (by omega)))) | exact fun _ => Or.inr (Or.inr (Or.inr (hX56_1 (by omega)))), by first | (intro q; exact absurd q (by decide)) | exact fun _ y_ => y_.elim (fun a_ => a_.2.1 (hX9_1 (by omega)).2) (fun a_ => a_.elim (fun a_ => absurd a_.1 (by omega)) (fun a_ => a_.elim (fun a_ => absurd a_.1 (by omega)) (fun a_ => absurd a_.1 (by omega)))) | exact fun _ y_ => y_.elim (fun a_ => a_.2.2.1 (hX16_1 (by omega)).2) (fun a_ => a_.elim (fun a_ => absurd a_.1 (by omega)) (fun a_ => a_.elim (fun a_ => absurd a_.1 (by omega)) (fun a_ => absurd a_.1 (by omega)))) | exact fun _ y_ => y_.elim (fun a_ => a_.2.2.2 (hX23_1 (by omega)).2) (fun a_ => a_.elim (fun a_ => absurd a_.1 (by omega)) (fun a_ => a_.elim (fun a_ => absurd a_.1 (by omega)) (fun a_ => absurd a_.1 (by omega)))) | exact fun _ y_ => y_.elim (fun a_ => absurd a_.1 (by omega)) (fun a_ => a_.elim (hX38_2 (by omega)) (fun a_ => a_.elim (hX47_2 (by omega)) (hX56_2 (by omega))))⟩
      have hP9 : va_P (dC, dI) vwCl [(h0, .inr (13, mX13 q0 v0)), ((q0 0), zi k1 600 f1)] H := hP
      have hD9 : va_D A [(h0, .inr (13, mX13 q0 v0)), ((q0 0), zi k1 600 f1)] := hD
      exact W.zret (v := 1) hx hb hr rfl (fun t ht hW => ⟨⟨1, (fun _ => 0), rfl, hpost, (fun _ => 0), (fun _ => (fun _ => 0)), (fun _ => (fun _ => 0)), by rw [ht]; exact hP9, va_K.moved hW.alike hK, hD9⟩, hS.F ht⟩) hS.2.2 dX13_begins_67
    · skip
      have b_ := zF_ne rfl zk_0 c_
      refine lv_aload_n hx hb dX13_begins_44 rfl (lv_at hl 0 rfl) ?_
      refine lv_bipush (v := 91) hx hb dX13_begins_45 (by decide) ?_
      have hPc := hP.sub (ws' := [(h0, .inr (13, mX13 q0 v0)), ((q0 0), zi k1 600 f1)]) [0, 1] rfl
      have hDc := hD.sub (ws' := [(h0, .inr (13, mX13 q0 v0)), ((q0 0), zi k1 600 f1)]) [0, 1] (by decide) rfl
      have hKc := hK.sub (tys' := [(k1, .byte)]) [0] rfl
      have hFc := va_free (wc := [(h0, .inr (13, mX13 q0 v0)), ((q0 0), zi k1 600 f1)]) hD hS hA [0, 1] rfl
      refine va_calli (va_runV (As := [.int 91]) (rest := []) ⟨hx, hb, hml, hown, hG⟩ (sX13_isSign_0 l dC dI adK adV h0 q0 k1 H.size v0 f1 91 hv0 (show (v0 36).toInt ≠ 0 → (v0 37).toInt < (v0 34).toInt from by omega)) (cwV 1 hG (zgV zv2090 zv2092 zv94 zv142 zv2093) rfl rfl rfl (by decide +kernel) ⟨Nat.le_of_ble_eq_true rfl, Nat.le_of_ble_eq_true rfl⟩) ⟨zPc_blind, va_recv hKc hPc (ci := 13) (q0 := 0) rfl rfl, zPc_pre hPc hKc hDc hE hS hFc hZ⟩ rfl rfl hl.1 rfl (lv_room (Nat.le_of_ble_eq_true rfl)) dX13_begins_47 ⟨Nat.le_of_ble_eq_true rfl, Nat.le_of_ble_eq_true rfl⟩) hS (fun q _ h => hFc q h) hFc (fun r47_ u47_ t H1 locs ht hvm hw hB hz1 hk1 hS => ?_)
      replace hw : (0 ≤ r47_.toInt ∧ r47_.toInt ≤ 1) ∧ (r47_.toInt = 1 → (v0 36).toInt = 2) ∧ (r47_.toInt = 1 → zSg f1 (v0 37).toInt (v0 36).toInt (91 : Int32).toInt) ∧ (r47_.toInt = 0 → ¬ zSg f1 (v0 37).toInt (v0 36).toInt (91 : Int32).toInt) := hw
      obtain ⟨b_, hX47_0, hX47_1, hX47_2⟩ := hw
      obtain ⟨w47_, a47_, b47_, hP1, hK1, hD1⟩ := hB
      rw [ht] at hP1
      obtain ⟨hP, hD⟩ := va_join (wr := []) (w1 := [(h0, .inr (13, mX13 q0 v0)), ((q0 0), zi k1 600 f1)]) hP hD [0, 1] [] rfl rfl (by decide) (by decide) hk1 hFc hP1 hD1
      have hP : va_P (dC, dI) vwCl [(h0, .inr (13, mX13 q0 v0)), ((q0 0), zi k1 600 f1)] H1 := hP.sub [0, 1] rfl
      have hD : va_D A [(h0, .inr (13, mX13 q0 v0)), ((q0 0), zi k1 600 f1)] := hD.sub [0, 1] (by decide) rfl
      generalize H1 = H at hP hS ⊢
      clear hz1
      refine lv_if_ne (tgt := 62) hx hb dX13_begins_50 (by decide) (fun c_ => ?_) (fun c_ => ?_)
      · skip
        have b_ := zT_ne rfl zk_0 c_
        refine lv_iconst (v := 1) hx hb dX13_begins_62 (by decide) ?_
        refine lv_goto (tgt := 67) hx hb dX13_begins_63 (by decide) ?_
        refine W.widen (k := 0) (n := 0) (by decide) (by decide) ?_
        have hpost : (0 ≤ (1 : Int32).toInt ∧ (1 : Int32).toInt ≤ 1) ∧ ((1 : Int32).toInt = 1 → (v0 36).toInt ≠ 0) ∧ ((1 : Int32).toInt = 1 → ((v0 36).toInt = 1 ∧ ¬ zSpm f1 (v0 37).toInt (v0 35).toInt 7 2 ∧ ¬ zSpm f1 (v0 37).toInt (v0 35).toInt 8 3 ∧ ¬ zSpm f1 (v0 37).toInt (v0 35).toInt 10 4) ∨ zSg f1 (v0 37).toInt (v0 36).toInt 40 ∨ zSg f1 (v0 37).toInt (v0 36).toInt 91 ∨ zSg f1 (v0 37).toInt (v0 36).toInt 34) ∧ ((1 : Int32).toInt = 0 → ¬ (((v0 36).toInt = 1 ∧ ¬ zSpm f1 (v0 37).toInt (v0 35).toInt 7 2 ∧ ¬ zSpm f1 (v0 37).toInt (v0 35).toInt 8 3 ∧ ¬ zSpm f1 (v0 37).toInt (v0 35).toInt 10 4) ∨ zSg f1 (v0 37).toInt (v0 36).toInt 40 ∨ zSg f1 (v0 37).toInt (v0 36).toInt 91 ∨ zSg f1 (v0 37).toInt (v0 36).toInt 34)) := ⟨⟨by omega, by omega⟩, by omega, by first | (intro q; exact absurd q (by decide)) | exact fun _ => Or.inl ⟨by omega, fun a_ => hX9_2 (by omega) ⟨by omega, a_⟩, fun a_ => hX16_2 (by omega) ⟨by omega, a_⟩, fun a_ => hX23_2 (by omega) ⟨by omega, a_⟩⟩ | exact fun _ => Or.inr (Or.inl (hX38_1 (by omega))) | exact fun _ => Or.inr (Or.inr (Or.inl (hX47_1 (by omega)))) | exact fun _ => Or.inr (Or.inr (Or.inr (hX56_1 (by omega)))), by first | (intro q; exact absurd q (by decide)) | exact fun _ y_ => y_.elim (fun a_ => a_.2.1 (hX9_1 (by omega)).2) (fun a_ => a_.elim (fun a_ => absurd a_.1 (by omega)) (fun a_ => a_.elim (fun a_ => absurd a_.1 (by omega)) (fun a_ => absurd a_.1 (by omega)))) | exact fun _ y_ => y_.elim (fun a_ => a_.2.2.1 (hX16_1 (by omega)).2) (fun a_ => a_.elim (fun a_ => absurd a_.1 (by omega)) (fun a_ => a_.elim (fun a_ => absurd a_.1 (by omega)) (fun a_ => absurd a_.1 (by omega)))) | exact fun _ y_ => y_.elim (fun a_ => a_.2.2.2 (hX23_1 (by omega)).2) (fun a_ => a_.elim (fun a_ => absurd a_.1 (by omega)) (fun a_ => a_.elim (fun a_ => absurd a_.1 (by omega)) (fun a_ => absurd a_.1 (by omega)))) | exact fun _ y_ => y_.elim (fun a_ => absurd a_.1 (by omega)) (fun a_ => a_.elim (hX38_2 (by omega)) (fun a_ => a_.elim (hX47_2 (by omega)) (hX56_2 (by omega))))⟩
        have hP9 : va_P (dC, dI) vwCl [(h0, .inr (13, mX13 q0 v0)), ((q0 0), zi k1 600 f1)] H := hP
        have hD9 : va_D A [(h0, .inr (13, mX13 q0 v0)), ((q0 0), zi k1 600 f1)] := hD
        exact W.zret (v := 1) hx hb hr rfl (fun t ht hW => ⟨⟨1, (fun _ => 0), rfl, hpost, (fun _ => 0), (fun _ => (fun _ => 0)), (fun _ => (fun _ => 0)), by rw [ht]; exact hP9, va_K.moved hW.alike hK, hD9⟩, hS.F ht⟩) hS.2.2 dX13_begins_67
      · skip
        have b_ := zF_ne rfl zk_0 c_
        refine lv_aload_n hx hb dX13_begins_53 rfl (lv_at hl 0 rfl) ?_
        refine lv_bipush (v := 34) hx hb dX13_begins_54 (by decide) ?_
        have hPc := hP.sub (ws' := [(h0, .inr (13, mX13 q0 v0)), ((q0 0), zi k1 600 f1)]) [0, 1] rfl
        have hDc := hD.sub (ws' := [(h0, .inr (13, mX13 q0 v0)), ((q0 0), zi k1 600 f1)]) [0, 1] (by decide) rfl
        have hKc := hK.sub (tys' := [(k1, .byte)]) [0] rfl
        have hFc := va_free (wc := [(h0, .inr (13, mX13 q0 v0)), ((q0 0), zi k1 600 f1)]) hD hS hA [0, 1] rfl
        refine va_calli (va_runV (As := [.int 34]) (rest := []) ⟨hx, hb, hml, hown, hG⟩ (sX13_isSign_0 l dC dI adK adV h0 q0 k1 H.size v0 f1 34 hv0 (show (v0 36).toInt ≠ 0 → (v0 37).toInt < (v0 34).toInt from by omega)) (cwV 1 hG (zgV zv2090 zv2092 zv94 zv142 zv2093) rfl rfl rfl (by decide +kernel) ⟨Nat.le_of_ble_eq_true rfl, Nat.le_of_ble_eq_true rfl⟩) ⟨zPc_blind, va_recv hKc hPc (ci := 13) (q0 := 0) rfl rfl, zPc_pre hPc hKc hDc hE hS hFc hZ⟩ rfl rfl hl.1 rfl (lv_room (Nat.le_of_ble_eq_true rfl)) dX13_begins_56 ⟨Nat.le_of_ble_eq_true rfl, Nat.le_of_ble_eq_true rfl⟩) hS (fun q _ h => hFc q h) hFc (fun r56_ u56_ t H1 locs ht hvm hw hB hz1 hk1 hS => ?_)
        replace hw : (0 ≤ r56_.toInt ∧ r56_.toInt ≤ 1) ∧ (r56_.toInt = 1 → (v0 36).toInt = 2) ∧ (r56_.toInt = 1 → zSg f1 (v0 37).toInt (v0 36).toInt (34 : Int32).toInt) ∧ (r56_.toInt = 0 → ¬ zSg f1 (v0 37).toInt (v0 36).toInt (34 : Int32).toInt) := hw
        obtain ⟨b_, hX56_0, hX56_1, hX56_2⟩ := hw
        obtain ⟨w56_, a56_, b56_, hP1, hK1, hD1⟩ := hB
        rw [ht] at hP1
        obtain ⟨hP, hD⟩ := va_join (wr := []) (w1 := [(h0, .inr (13, mX13 q0 v0)), ((q0 0), zi k1 600 f1)]) hP hD [0, 1] [] rfl rfl (by decide) (by decide) hk1 hFc hP1 hD1
        have hP : va_P (dC, dI) vwCl [(h0, .inr (13, mX13 q0 v0)), ((q0 0), zi k1 600 f1)] H1 := hP.sub [0, 1] rfl
        have hD : va_D A [(h0, .inr (13, mX13 q0 v0)), ((q0 0), zi k1 600 f1)] := hD.sub [0, 1] (by decide) rfl
        generalize H1 = H at hP hS ⊢
        clear hz1
        refine lv_if_eq (tgt := 66) hx hb dX13_begins_59 (by decide) (fun c_ => ?_) (fun c_ => ?_)
        · skip
          have b_ := zT_eq rfl zk_0 c_
          refine lv_iconst (v := 0) hx hb dX13_begins_66 (by decide) ?_
          refine W.widen (k := 0) (n := 0) (by decide) (by decide) ?_
          have hpost : (0 ≤ (0 : Int32).toInt ∧ (0 : Int32).toInt ≤ 1) ∧ ((0 : Int32).toInt = 1 → (v0 36).toInt ≠ 0) ∧ ((0 : Int32).toInt = 1 → ((v0 36).toInt = 1 ∧ ¬ zSpm f1 (v0 37).toInt (v0 35).toInt 7 2 ∧ ¬ zSpm f1 (v0 37).toInt (v0 35).toInt 8 3 ∧ ¬ zSpm f1 (v0 37).toInt (v0 35).toInt 10 4) ∨ zSg f1 (v0 37).toInt (v0 36).toInt 40 ∨ zSg f1 (v0 37).toInt (v0 36).toInt 91 ∨ zSg f1 (v0 37).toInt (v0 36).toInt 34) ∧ ((0 : Int32).toInt = 0 → ¬ (((v0 36).toInt = 1 ∧ ¬ zSpm f1 (v0 37).toInt (v0 35).toInt 7 2 ∧ ¬ zSpm f1 (v0 37).toInt (v0 35).toInt 8 3 ∧ ¬ zSpm f1 (v0 37).toInt (v0 35).toInt 10 4) ∨ zSg f1 (v0 37).toInt (v0 36).toInt 40 ∨ zSg f1 (v0 37).toInt (v0 36).toInt 91 ∨ zSg f1 (v0 37).toInt (v0 36).toInt 34)) := ⟨⟨by omega, by omega⟩, by omega, by first | (intro q; exact absurd q (by decide)) | exact fun _ => Or.inl ⟨by omega, fun a_ => hX9_2 (by omega) ⟨by omega, a_⟩, fun a_ => hX16_2 (by omega) ⟨by omega, a_⟩, fun a_ => hX23_2 (by omega) ⟨by omega, a_⟩⟩ | exact fun _ => Or.inr (Or.inl (hX38_1 (by omega))) | exact fun _ => Or.inr (Or.inr (Or.inl (hX47_1 (by omega)))) | exact fun _ => Or.inr (Or.inr (Or.inr (hX56_1 (by omega)))), by first | (intro q; exact absurd q (by decide)) | exact fun _ y_ => y_.elim (fun a_ => a_.2.1 (hX9_1 (by omega)).2) (fun a_ => a_.elim (fun a_ => absurd a_.1 (by omega)) (fun a_ => a_.elim (fun a_ => absurd a_.1 (by omega)) (fun a_ => absurd a_.1 (by omega)))) | exact fun _ y_ => y_.elim (fun a_ => a_.2.2.1 (hX16_1 (by omega)).2) (fun a_ => a_.elim (fun a_ => absurd a_.1 (by omega)) (fun a_ => a_.elim (fun a_ => absurd a_.1 (by omega)) (fun a_ => absurd a_.1 (by omega)))) | exact fun _ y_ => y_.elim (fun a_ => a_.2.2.2 (hX23_1 (by omega)).2) (fun a_ => a_.elim (fun a_ => absurd a_.1 (by omega)) (fun a_ => a_.elim (fun a_ => absurd a_.1 (by omega)) (fun a_ => absurd a_.1 (by omega)))) | exact fun _ y_ => y_.elim (fun a_ => absurd a_.1 (by omega)) (fun a_ => a_.elim (hX38_2 (by omega)) (fun a_ => a_.elim (hX47_2 (by omega)) (hX56_2 (by omega))))⟩
          have hP9 : va_P (dC, dI) vwCl [(h0, .inr (13, mX13 q0 v0)), ((q0 0), zi k1 600 f1)] H := hP
          have hD9 : va_D A [(h0, .inr (13, mX13 q0 v0)), ((q0 0), zi k1 600 f1)] := hD
          exact W.zret (v := 0) hx hb hr rfl (fun t ht hW => ⟨⟨0, (fun _ => 0), rfl, hpost, (fun _ => 0), (fun _ => (fun _ => 0)), (fun _ => (fun _ => 0)), by rw [ht]; exact hP9, va_K.moved hW.alike hK, hD9⟩, hS.F ht⟩) hS.2.2 dX13_begins_67
        · skip
          have b_ := zF_eq rfl zk_0 c_
          refine lv_iconst (v := 1) hx hb dX13_begins_62 (by decide) ?_
          refine lv_goto (tgt := 67) hx hb dX13_begins_63 (by decide) ?_
          refine W.widen (k := 0) (n := 0) (by decide) (by decide) ?_
          have hpost : (0 ≤ (1 : Int32).toInt ∧ (1 : Int32).toInt ≤ 1) ∧ ((1 : Int32).toInt = 1 → (v0 36).toInt ≠ 0) ∧ ((1 : Int32).toInt = 1 → ((v0 36).toInt = 1 ∧ ¬ zSpm f1 (v0 37).toInt (v0 35).toInt 7 2 ∧ ¬ zSpm f1 (v0 37).toInt (v0 35).toInt 8 3 ∧ ¬ zSpm f1 (v0 37).toInt (v0 35).toInt 10 4) ∨ zSg f1 (v0 37).toInt (v0 36).toInt 40 ∨ zSg f1 (v0 37).toInt (v0 36).toInt 91 ∨ zSg f1 (v0 37).toInt (v0 36).toInt 34) ∧ ((1 : Int32).toInt = 0 → ¬ (((v0 36).toInt = 1 ∧ ¬ zSpm f1 (v0 37).toInt (v0 35).toInt 7 2 ∧ ¬ zSpm f1 (v0 37).toInt (v0 35).toInt 8 3 ∧ ¬ zSpm f1 (v0 37).toInt (v0 35).toInt 10 4) ∨ zSg f1 (v0 37).toInt (v0 36).toInt 40 ∨ zSg f1 (v0 37).toInt (v0 36).toInt 91 ∨ zSg f1 (v0 37).toInt (v0 36).toInt 34)) := ⟨⟨by omega, by omega⟩, by omega, by first | (intro q; exact absurd q (by decide)) | exact fun _ => Or.inl ⟨by omega, fun a_ => hX9_2 (by omega) ⟨by omega, a_⟩, fun a_ => hX16_2 (by omega) ⟨by omega, a_⟩, fun a_ => hX23_2 (by omega) ⟨by omega, a_⟩⟩ | exact fun _ => Or.inr (Or.inl (hX38_1 (by omega))) | exact fun _ => Or.inr (Or.inr (Or.inl (hX47_1 (by omega)))) | exact fun _ => Or.inr (Or.inr (Or.inr (hX56_1 (by omega)))), by first | (intro q; exact absurd q (by decide)) | exact fun _ y_ => y_.elim (fun a_ => a_.2.1 (hX9_1 (by omega)).2) (fun a_ => a_.elim (fun a_ => absurd a_.1 (by omega)) (fun a_ => a_.elim (fun a_ => absurd a_.1 (by omega)) (fun a_ => absurd a_.1 (by omega)))) | exact fun _ y_ => y_.elim (fun a_ => a_.2.2.1 (hX16_1 (by omega)).2) (fun a_ => a_.elim (fun a_ => absurd a_.1 (by omega)) (fun a_ => a_.elim (fun a_ => absurd a_.1 (by omega)) (fun a_ => absurd a_.1 (by omega)))) | exact fun _ y_ => y_.elim (fun a_ => a_.2.2.2 (hX23_1 (by omega)).2) (fun a_ => a_.elim (fun a_ => absurd a_.1 (by omega)) (fun a_ => a_.elim (fun a_ => absurd a_.1 (by omega)) (fun a_ => absurd a_.1 (by omega)))) | exact fun _ y_ => y_.elim (fun a_ => absurd a_.1 (by omega)) (fun a_ => a_.elim (hX38_2 (by omega)) (fun a_ => a_.elim (hX47_2 (by omega)) (hX56_2 (by omega))))⟩
          have hP9 : va_P (dC, dI) vwCl [(h0, .inr (13, mX13 q0 v0)), ((q0 0), zi k1 600 f1)] H := hP
          have hD9 : va_D A [(h0, .inr (13, mX13 q0 v0)), ((q0 0), zi k1 600 f1)] := hD
          exact W.zret (v := 1) hx hb hr rfl (fun t ht hW => ⟨⟨1, (fun _ => 0), rfl, hpost, (fun _ => 0), (fun _ => (fun _ => 0)), (fun _ => (fun _ => 0)), by rw [ht]; exact hP9, va_K.moved hW.alike hK, hD9⟩, hS.F ht⟩) hS.2.2 dX13_begins_67
  · skip
    have b_ := zF_ne rfl zk_1 c_
    refine lv_aload_n hx hb dX13_begins_8 rfl (lv_at hl 0 rfl) ?_
    have hPc := hP.sub (ws' := [(h0, .inr (13, mX13 q0 v0)), ((q0 0), zi k1 600 f1)]) [0, 1] rfl
    have hDc := hD.sub (ws' := [(h0, .inr (13, mX13 q0 v0)), ((q0 0), zi k1 600 f1)]) [0, 1] (by decide) rfl
    have hKc := hK.sub (tys' := [(k1, .byte)]) [0] rfl
    have hFc := va_free (wc := [(h0, .inr (13, mX13 q0 v0)), ((q0 0), zi k1 600 f1)]) hD hS hA [0, 1] rfl
    refine va_calli (va_runV (As := []) (rest := []) ⟨hx, hb, hml, hown, hG⟩ (sX13_isOr_0 l dC dI adK adV h0 q0 k1 s.heap.size v0 f1 hv0) (cwV 0 hG (zgV zv2130 zv2132 zv104 zv142 zv2133) rfl rfl rfl (by decide +kernel) ⟨Nat.le_of_ble_eq_true rfl, Nat.le_of_ble_eq_true rfl⟩) ⟨zPc_blind, va_recv hKc hPc (ci := 13) (q0 := 0) rfl rfl, zPc_pre hPc hKc hDc hE hS hFc hZ⟩ rfl rfl hl.1 rfl (lv_room (Nat.le_of_ble_eq_true rfl)) dX13_begins_9 ⟨Nat.le_of_ble_eq_true rfl, Nat.le_of_ble_eq_true rfl⟩) hS (fun q _ h => hFc q h) hFc (fun r9_ u9_ t H1 locs ht hvm hw hB hz1 hk1 hS => ?_)
    replace hw : (0 ≤ r9_.toInt ∧ r9_.toInt ≤ 1) ∧ (r9_.toInt = 1 → (v0 36).toInt = 1) ∧ (r9_.toInt = 1 → (v0 36).toInt = 1 ∧ zSpm f1 (v0 37).toInt (v0 35).toInt 7 2) ∧ (r9_.toInt = 0 → ¬ ((v0 36).toInt = 1 ∧ zSpm f1 (v0 37).toInt (v0 35).toInt 7 2)) := hw
    obtain ⟨b_, hX9_0, hX9_1, hX9_2⟩ := hw
    obtain ⟨w9_, a9_, b9_, hP1, hK1, hD1⟩ := hB
    rw [ht] at hP1
    obtain ⟨hP, hD⟩ := va_join (wr := []) (w1 := [(h0, .inr (13, mX13 q0 v0)), ((q0 0), zi k1 600 f1)]) hP hD [0, 1] [] rfl rfl (by decide) (by decide) hk1 hFc hP1 hD1
    have hP : va_P (dC, dI) vwCl [(h0, .inr (13, mX13 q0 v0)), ((q0 0), zi k1 600 f1)] H1 := hP.sub [0, 1] rfl
    have hD : va_D A [(h0, .inr (13, mX13 q0 v0)), ((q0 0), zi k1 600 f1)] := hD.sub [0, 1] (by decide) rfl
    generalize H1 = H at hP hS ⊢
    clear hz1
    refine lv_if_ne (tgt := 33) hx hb dX13_begins_12 (by decide) (fun c_ => ?_) (fun c_ => ?_)
    · skip
      have b_ := zT_ne rfl zk_0 c_
      refine lv_iconst (v := 0) hx hb dX13_begins_33 (by decide) ?_
      refine W.widen (k := 0) (n := 0) (by decide) (by decide) ?_
      have hpost : (0 ≤ (0 : Int32).toInt ∧ (0 : Int32).toInt ≤ 1) ∧ ((0 : Int32).toInt = 1 → (v0 36).toInt ≠ 0) ∧ ((0 : Int32).toInt = 1 → ((v0 36).toInt = 1 ∧ ¬ zSpm f1 (v0 37).toInt (v0 35).toInt 7 2 ∧ ¬ zSpm f1 (v0 37).toInt (v0 35).toInt 8 3 ∧ ¬ zSpm f1 (v0 37).toInt (v0 35).toInt 10 4) ∨ zSg f1 (v0 37).toInt (v0 36).toInt 40 ∨ zSg f1 (v0 37).toInt (v0 36).toInt 91 ∨ zSg f1 (v0 37).toInt (v0 36).toInt 34) ∧ ((0 : Int32).toInt = 0 → ¬ (((v0 36).toInt = 1 ∧ ¬ zSpm f1 (v0 37).toInt (v0 35).toInt 7 2 ∧ ¬ zSpm f1 (v0 37).toInt (v0 35).toInt 8 3 ∧ ¬ zSpm f1 (v0 37).toInt (v0 35).toInt 10 4) ∨ zSg f1 (v0 37).toInt (v0 36).toInt 40 ∨ zSg f1 (v0 37).toInt (v0 36).toInt 91 ∨ zSg f1 (v0 37).toInt (v0 36).toInt 34)) := ⟨⟨by omega, by omega⟩, by omega, by first | (intro q; exact absurd q (by decide)) | exact fun _ => Or.inl ⟨by omega, fun a_ => hX9_2 (by omega) ⟨by omega, a_⟩, fun a_ => hX16_2 (by omega) ⟨by omega, a_⟩, fun a_ => hX23_2 (by omega) ⟨by omega, a_⟩⟩ | exact fun _ => Or.inr (Or.inl (hX38_1 (by omega))) | exact fun _ => Or.inr (Or.inr (Or.inl (hX47_1 (by omega)))) | exact fun _ => Or.inr (Or.inr (Or.inr (hX56_1 (by omega)))), by first | (intro q; exact absurd q (by decide)) | exact fun _ y_ => y_.elim (fun a_ => a_.2.1 (hX9_1 (by omega)).2) (fun a_ => a_.elim (fun a_ => absurd a_.1 (by omega)) (fun a_ => a_.elim (fun a_ => absurd a_.1 (by omega)) (fun a_ => absurd a_.1 (by omega)))) | exact fun _ y_ => y_.elim (fun a_ => a_.2.2.1 (hX16_1 (by omega)).2) (fun a_ => a_.elim (fun a_ => absurd a_.1 (by omega)) (fun a_ => a_.elim (fun a_ => absurd a_.1 (by omega)) (fun a_ => absurd a_.1 (by omega)))) | exact fun _ y_ => y_.elim (fun a_ => a_.2.2.2 (hX23_1 (by omega)).2) (fun a_ => a_.elim (fun a_ => absurd a_.1 (by omega)) (fun a_ => a_.elim (fun a_ => absurd a_.1 (by omega)) (fun a_ => absurd a_.1 (by omega)))) | exact fun _ y_ => y_.elim (fun a_ => absurd a_.1 (by omega)) (fun a_ => a_.elim (hX38_2 (by omega)) (fun a_ => a_.elim (hX47_2 (by omega)) (hX56_2 (by omega))))⟩
      have hP9 : va_P (dC, dI) vwCl [(h0, .inr (13, mX13 q0 v0)), ((q0 0), zi k1 600 f1)] H := hP
      have hD9 : va_D A [(h0, .inr (13, mX13 q0 v0)), ((q0 0), zi k1 600 f1)] := hD
      exact W.zret (v := 0) hx hb hr rfl (fun t ht hW => ⟨⟨0, (fun _ => 0), rfl, hpost, (fun _ => 0), (fun _ => (fun _ => 0)), (fun _ => (fun _ => 0)), by rw [ht]; exact hP9, va_K.moved hW.alike hK, hD9⟩, hS.F ht⟩) hS.2.2 dX13_begins_34
    · skip
      have b_ := zF_ne rfl zk_0 c_
      refine lv_aload_n hx hb dX13_begins_15 rfl (lv_at hl 0 rfl) ?_
      have hPc := hP.sub (ws' := [(h0, .inr (13, mX13 q0 v0)), ((q0 0), zi k1 600 f1)]) [0, 1] rfl
      have hDc := hD.sub (ws' := [(h0, .inr (13, mX13 q0 v0)), ((q0 0), zi k1 600 f1)]) [0, 1] (by decide) rfl
      have hKc := hK.sub (tys' := [(k1, .byte)]) [0] rfl
      have hFc := va_free (wc := [(h0, .inr (13, mX13 q0 v0)), ((q0 0), zi k1 600 f1)]) hD hS hA [0, 1] rfl
      refine va_calli (va_runV (As := []) (rest := []) ⟨hx, hb, hml, hown, hG⟩ (sX13_isAnd_0 l dC dI adK adV h0 q0 k1 H.size v0 f1 hv0) (cwV 0 hG (zgV zv2134 zv2136 zv105 zv142 zv2137) rfl rfl rfl (by decide +kernel) ⟨Nat.le_of_ble_eq_true rfl, Nat.le_of_ble_eq_true rfl⟩) ⟨zPc_blind, va_recv hKc hPc (ci := 13) (q0 := 0) rfl rfl, zPc_pre hPc hKc hDc hE hS hFc hZ⟩ rfl rfl hl.1 rfl (lv_room (Nat.le_of_ble_eq_true rfl)) dX13_begins_16 ⟨Nat.le_of_ble_eq_true rfl, Nat.le_of_ble_eq_true rfl⟩) hS (fun q _ h => hFc q h) hFc (fun r16_ u16_ t H1 locs ht hvm hw hB hz1 hk1 hS => ?_)
      replace hw : (0 ≤ r16_.toInt ∧ r16_.toInt ≤ 1) ∧ (r16_.toInt = 1 → (v0 36).toInt = 1) ∧ (r16_.toInt = 1 → (v0 36).toInt = 1 ∧ zSpm f1 (v0 37).toInt (v0 35).toInt 8 3) ∧ (r16_.toInt = 0 → ¬ ((v0 36).toInt = 1 ∧ zSpm f1 (v0 37).toInt (v0 35).toInt 8 3)) := hw
      obtain ⟨b_, hX16_0, hX16_1, hX16_2⟩ := hw
      obtain ⟨w16_, a16_, b16_, hP1, hK1, hD1⟩ := hB
      rw [ht] at hP1
      obtain ⟨hP, hD⟩ := va_join (wr := []) (w1 := [(h0, .inr (13, mX13 q0 v0)), ((q0 0), zi k1 600 f1)]) hP hD [0, 1] [] rfl rfl (by decide) (by decide) hk1 hFc hP1 hD1
      have hP : va_P (dC, dI) vwCl [(h0, .inr (13, mX13 q0 v0)), ((q0 0), zi k1 600 f1)] H1 := hP.sub [0, 1] rfl
      have hD : va_D A [(h0, .inr (13, mX13 q0 v0)), ((q0 0), zi k1 600 f1)] := hD.sub [0, 1] (by decide) rfl
      generalize H1 = H at hP hS ⊢
      clear hz1
      refine lv_if_ne (tgt := 33) hx hb dX13_begins_19 (by decide) (fun c_ => ?_) (fun c_ => ?_)
      · skip
        have b_ := zT_ne rfl zk_0 c_
        refine lv_iconst (v := 0) hx hb dX13_begins_33 (by decide) ?_
        refine W.widen (k := 0) (n := 0) (by decide) (by decide) ?_
        have hpost : (0 ≤ (0 : Int32).toInt ∧ (0 : Int32).toInt ≤ 1) ∧ ((0 : Int32).toInt = 1 → (v0 36).toInt ≠ 0) ∧ ((0 : Int32).toInt = 1 → ((v0 36).toInt = 1 ∧ ¬ zSpm f1 (v0 37).toInt (v0 35).toInt 7 2 ∧ ¬ zSpm f1 (v0 37).toInt (v0 35).toInt 8 3 ∧ ¬ zSpm f1 (v0 37).toInt (v0 35).toInt 10 4) ∨ zSg f1 (v0 37).toInt (v0 36).toInt 40 ∨ zSg f1 (v0 37).toInt (v0 36).toInt 91 ∨ zSg f1 (v0 37).toInt (v0 36).toInt 34) ∧ ((0 : Int32).toInt = 0 → ¬ (((v0 36).toInt = 1 ∧ ¬ zSpm f1 (v0 37).toInt (v0 35).toInt 7 2 ∧ ¬ zSpm f1 (v0 37).toInt (v0 35).toInt 8 3 ∧ ¬ zSpm f1 (v0 37).toInt (v0 35).toInt 10 4) ∨ zSg f1 (v0 37).toInt (v0 36).toInt 40 ∨ zSg f1 (v0 37).toInt (v0 36).toInt 91 ∨ zSg f1 (v0 37).toInt (v0 36).toInt 34)) := ⟨⟨by omega, by omega⟩, by omega, by first | (intro q; exact absurd q (by decide)) | exact fun _ => Or.inl ⟨by omega, fun a_ => hX9_2 (by omega) ⟨by omega, a_⟩, fun a_ => hX16_2 (by omega) ⟨by omega, a_⟩, fun a_ => hX23_2 (by omega) ⟨by omega, a_⟩⟩ | exact fun _ => Or.inr (Or.inl (hX38_1 (by omega))) | exact fun _ => Or.inr (Or.inr (Or.inl (hX47_1 (by omega)))) | exact fun _ => Or.inr (Or.inr (Or.inr (hX56_1 (by omega)))), by first | (intro q; exact absurd q (by decide)) | exact fun _ y_ => y_.elim (fun a_ => a_.2.1 (hX9_1 (by omega)).2) (fun a_ => a_.elim (fun a_ => absurd a_.1 (by omega)) (fun a_ => a_.elim (fun a_ => absurd a_.1 (by omega)) (fun a_ => absurd a_.1 (by omega)))) | exact fun _ y_ => y_.elim (fun a_ => a_.2.2.1 (hX16_1 (by omega)).2) (fun a_ => a_.elim (fun a_ => absurd a_.1 (by omega)) (fun a_ => a_.elim (fun a_ => absurd a_.1 (by omega)) (fun a_ => absurd a_.1 (by omega)))) | exact fun _ y_ => y_.elim (fun a_ => a_.2.2.2 (hX23_1 (by omega)).2) (fun a_ => a_.elim (fun a_ => absurd a_.1 (by omega)) (fun a_ => a_.elim (fun a_ => absurd a_.1 (by omega)) (fun a_ => absurd a_.1 (by omega)))) | exact fun _ y_ => y_.elim (fun a_ => absurd a_.1 (by omega)) (fun a_ => a_.elim (hX38_2 (by omega)) (fun a_ => a_.elim (hX47_2 (by omega)) (hX56_2 (by omega))))⟩
        have hP9 : va_P (dC, dI) vwCl [(h0, .inr (13, mX13 q0 v0)), ((q0 0), zi k1 600 f1)] H := hP
        have hD9 : va_D A [(h0, .inr (13, mX13 q0 v0)), ((q0 0), zi k1 600 f1)] := hD
        exact W.zret (v := 0) hx hb hr rfl (fun t ht hW => ⟨⟨0, (fun _ => 0), rfl, hpost, (fun _ => 0), (fun _ => (fun _ => 0)), (fun _ => (fun _ => 0)), by rw [ht]; exact hP9, va_K.moved hW.alike hK, hD9⟩, hS.F ht⟩) hS.2.2 dX13_begins_34
      · skip
        have b_ := zF_ne rfl zk_0 c_
        refine lv_aload_n hx hb dX13_begins_22 rfl (lv_at hl 0 rfl) ?_
        have hPc := hP.sub (ws' := [(h0, .inr (13, mX13 q0 v0)), ((q0 0), zi k1 600 f1)]) [0, 1] rfl
        have hDc := hD.sub (ws' := [(h0, .inr (13, mX13 q0 v0)), ((q0 0), zi k1 600 f1)]) [0, 1] (by decide) rfl
        have hKc := hK.sub (tys' := [(k1, .byte)]) [0] rfl
        have hFc := va_free (wc := [(h0, .inr (13, mX13 q0 v0)), ((q0 0), zi k1 600 f1)]) hD hS hA [0, 1] rfl
        refine va_calli (va_runV (As := []) (rest := []) ⟨hx, hb, hml, hown, hG⟩ (sX13_isNear_0 l dC dI adK adV h0 q0 k1 H.size v0 f1 hv0) (cwV 0 hG (zgV zv2138 zv2140 zv106 zv142 zv2141) rfl rfl rfl (by decide +kernel) ⟨Nat.le_of_ble_eq_true rfl, Nat.le_of_ble_eq_true rfl⟩) ⟨zPc_blind, va_recv hKc hPc (ci := 13) (q0 := 0) rfl rfl, zPc_pre hPc hKc hDc hE hS hFc hZ⟩ rfl rfl hl.1 rfl (lv_room (Nat.le_of_ble_eq_true rfl)) dX13_begins_23 ⟨Nat.le_of_ble_eq_true rfl, Nat.le_of_ble_eq_true rfl⟩) hS (fun q _ h => hFc q h) hFc (fun r23_ u23_ t H1 locs ht hvm hw hB hz1 hk1 hS => ?_)
        replace hw : (0 ≤ r23_.toInt ∧ r23_.toInt ≤ 1) ∧ (r23_.toInt = 1 → (v0 36).toInt = 1) ∧ (r23_.toInt = 1 → (v0 36).toInt = 1 ∧ zSpm f1 (v0 37).toInt (v0 35).toInt 10 4) ∧ (r23_.toInt = 0 → ¬ ((v0 36).toInt = 1 ∧ zSpm f1 (v0 37).toInt (v0 35).toInt 10 4)) := hw
        obtain ⟨b_, hX23_0, hX23_1, hX23_2⟩ := hw
        obtain ⟨w23_, a23_, b23_, hP1, hK1, hD1⟩ := hB
        rw [ht] at hP1
        obtain ⟨hP, hD⟩ := va_join (wr := []) (w1 := [(h0, .inr (13, mX13 q0 v0)), ((q0 0), zi k1 600 f1)]) hP hD [0, 1] [] rfl rfl (by decide) (by decide) hk1 hFc hP1 hD1
        have hP : va_P (dC, dI) vwCl [(h0, .inr (13, mX13 q0 v0)), ((q0 0), zi k1 600 f1)] H1 := hP.sub [0, 1] rfl
        have hD : va_D A [(h0, .inr (13, mX13 q0 v0)), ((q0 0), zi k1 600 f1)] := hD.sub [0, 1] (by decide) rfl
        generalize H1 = H at hP hS ⊢
        clear hz1
        refine lv_if_ne (tgt := 33) hx hb dX13_begins_26 (by decide) (fun c_ => ?_) (fun c_ => ?_)
        · skip
          have b_ := zT_ne rfl zk_0 c_
          refine lv_iconst (v := 0) hx hb dX13_begins_33 (by decide) ?_
          refine W.widen (k := 0) (n := 0) (by decide) (by decide) ?_
          have hpost : (0 ≤ (0 : Int32).toInt ∧ (0 : Int32).toInt ≤ 1) ∧ ((0 : Int32).toInt = 1 → (v0 36).toInt ≠ 0) ∧ ((0 : Int32).toInt = 1 → ((v0 36).toInt = 1 ∧ ¬ zSpm f1 (v0 37).toInt (v0 35).toInt 7 2 ∧ ¬ zSpm f1 (v0 37).toInt (v0 35).toInt 8 3 ∧ ¬ zSpm f1 (v0 37).toInt (v0 35).toInt 10 4) ∨ zSg f1 (v0 37).toInt (v0 36).toInt 40 ∨ zSg f1 (v0 37).toInt (v0 36).toInt 91 ∨ zSg f1 (v0 37).toInt (v0 36).toInt 34) ∧ ((0 : Int32).toInt = 0 → ¬ (((v0 36).toInt = 1 ∧ ¬ zSpm f1 (v0 37).toInt (v0 35).toInt 7 2 ∧ ¬ zSpm f1 (v0 37).toInt (v0 35).toInt 8 3 ∧ ¬ zSpm f1 (v0 37).toInt (v0 35).toInt 10 4) ∨ zSg f1 (v0 37).toInt (v0 36).toInt 40 ∨ zSg f1 (v0 37).toInt (v0 36).toInt 91 ∨ zSg f1 (v0 37).toInt (v0 36).toInt 34)) := ⟨⟨by omega, by omega⟩, by omega, by first | (intro q; exact absurd q (by decide)) | exact fun _ => Or.inl ⟨by omega, fun a_ => hX9_2 (by omega) ⟨by omega, a_⟩, fun a_ => hX16_2 (by omega) ⟨by omega, a_⟩, fun a_ => hX23_2 (by omega) ⟨by omega, a_⟩⟩ | exact fun _ => Or.inr (Or.inl (hX38_1 (by omega))) | exact fun _ => Or.inr (Or.inr (Or.inl (hX47_1 (by omega)))) | exact fun _ => Or.inr (Or.inr (Or.inr (hX56_1 (by omega)))), by first | (intro q; exact absurd q (by decide)) | exact fun _ y_ => y_.elim (fun a_ => a_.2.1 (hX9_1 (by omega)).2) (fun a_ => a_.elim (fun a_ => absurd a_.1 (by omega)) (fun a_ => a_.elim (fun a_ => absurd a_.1 (by omega)) (fun a_ => absurd a_.1 (by omega)))) | exact fun _ y_ => y_.elim (fun a_ => a_.2.2.1 (hX16_1 (by omega)).2) (fun a_ => a_.elim (fun a_ => absurd a_.1 (by omega)) (fun a_ => a_.elim (fun a_ => absurd a_.1 (by omega)) (fun a_ => absurd a_.1 (by omega)))) | exact fun _ y_ => y_.elim (fun a_ => a_.2.2.2 (hX23_1 (by omega)).2) (fun a_ => a_.elim (fun a_ => absurd a_.1 (by omega)) (fun a_ => a_.elim (fun a_ => absurd a_.1 (by omega)) (fun a_ => absurd a_.1 (by omega)))) | exact fun _ y_ => y_.elim (fun a_ => absurd a_.1 (by omega)) (fun a_ => a_.elim (hX38_2 (by omega)) (fun a_ => a_.elim (hX47_2 (by omega)) (hX56_2 (by omega))))⟩
          have hP9 : va_P (dC, dI) vwCl [(h0, .inr (13, mX13 q0 v0)), ((q0 0), zi k1 600 f1)] H := hP
          have hD9 : va_D A [(h0, .inr (13, mX13 q0 v0)), ((q0 0), zi k1 600 f1)] := hD
          exact W.zret (v := 0) hx hb hr rfl (fun t ht hW => ⟨⟨0, (fun _ => 0), rfl, hpost, (fun _ => 0), (fun _ => (fun _ => 0)), (fun _ => (fun _ => 0)), by rw [ht]; exact hP9, va_K.moved hW.alike hK, hD9⟩, hS.F ht⟩) hS.2.2 dX13_begins_34
        · skip
          have b_ := zF_ne rfl zk_0 c_
          refine lv_iconst (v := 1) hx hb dX13_begins_29 (by decide) ?_
          refine lv_goto (tgt := 34) hx hb dX13_begins_30 (by decide) ?_
          refine W.widen (k := 0) (n := 0) (by decide) (by decide) ?_
          have hpost : (0 ≤ (1 : Int32).toInt ∧ (1 : Int32).toInt ≤ 1) ∧ ((1 : Int32).toInt = 1 → (v0 36).toInt ≠ 0) ∧ ((1 : Int32).toInt = 1 → ((v0 36).toInt = 1 ∧ ¬ zSpm f1 (v0 37).toInt (v0 35).toInt 7 2 ∧ ¬ zSpm f1 (v0 37).toInt (v0 35).toInt 8 3 ∧ ¬ zSpm f1 (v0 37).toInt (v0 35).toInt 10 4) ∨ zSg f1 (v0 37).toInt (v0 36).toInt 40 ∨ zSg f1 (v0 37).toInt (v0 36).toInt 91 ∨ zSg f1 (v0 37).toInt (v0 36).toInt 34) ∧ ((1 : Int32).toInt = 0 → ¬ (((v0 36).toInt = 1 ∧ ¬ zSpm f1 (v0 37).toInt (v0 35).toInt 7 2 ∧ ¬ zSpm f1 (v0 37).toInt (v0 35).toInt 8 3 ∧ ¬ zSpm f1 (v0 37).toInt (v0 35).toInt 10 4) ∨ zSg f1 (v0 37).toInt (v0 36).toInt 40 ∨ zSg f1 (v0 37).toInt (v0 36).toInt 91 ∨ zSg f1 (v0 37).toInt (v0 36).toInt 34)) := ⟨⟨by omega, by omega⟩, by omega, by first | (intro q; exact absurd q (by decide)) | exact fun _ => Or.inl ⟨by omega, fun a_ => hX9_2 (by omega) ⟨by omega, a_⟩, fun a_ => hX16_2 (by omega) ⟨by omega, a_⟩, fun a_ => hX23_2 (by omega) ⟨by omega, a_⟩⟩ | exact fun _ => Or.inr (Or.inl (hX38_1 (by omega))) | exact fun _ => Or.inr (Or.inr (Or.inl (hX47_1 (by omega)))) | exact fun _ => Or.inr (Or.inr (Or.inr (hX56_1 (by omega)))), by first | (intro q; exact absurd q (by decide)) | exact fun _ y_ => y_.elim (fun a_ => a_.2.1 (hX9_1 (by omega)).2) (fun a_ => a_.elim (fun a_ => absurd a_.1 (by omega)) (fun a_ => a_.elim (fun a_ => absurd a_.1 (by omega)) (fun a_ => absurd a_.1 (by omega)))) | exact fun _ y_ => y_.elim (fun a_ => a_.2.2.1 (hX16_1 (by omega)).2) (fun a_ => a_.elim (fun a_ => absurd a_.1 (by omega)) (fun a_ => a_.elim (fun a_ => absurd a_.1 (by omega)) (fun a_ => absurd a_.1 (by omega)))) | exact fun _ y_ => y_.elim (fun a_ => a_.2.2.2 (hX23_1 (by omega)).2) (fun a_ => a_.elim (fun a_ => absurd a_.1 (by omega)) (fun a_ => a_.elim (fun a_ => absurd a_.1 (by omega)) (fun a_ => absurd a_.1 (by omega)))) | exact fun _ y_ => y_.elim (fun a_ => absurd a_.1 (by omega)) (fun a_ => a_.elim (hX38_2 (by omega)) (fun a_ => a_.elim (hX47_2 (by omega)) (hX56_2 (by omega))))⟩
          have hP9 : va_P (dC, dI) vwCl [(h0, .inr (13, mX13 q0 v0)), ((q0 0), zi k1 600 f1)] H := hP
          have hD9 : va_D A [(h0, .inr (13, mX13 q0 v0)), ((q0 0), zi k1 600 f1)] := hD
          exact W.zret (v := 1) hx hb hr rfl (fun t ht hW => ⟨⟨1, (fun _ => 0), rfl, hpost, (fun _ => 0), (fun _ => (fun _ => 0)), (fun _ => (fun _ => 0)), by rw [ht]; exact hP9, va_K.moved hW.alike hK, hD9⟩, hS.F ht⟩) hS.2.2 dX13_begins_34
