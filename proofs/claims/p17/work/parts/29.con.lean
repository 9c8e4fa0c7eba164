set_option maxHeartbeats 8000000 in
set_option maxRecDepth 100000 in
theorem sX1_areNear_0 (l : Launch) (dC : Nat → ClassId) (dI : Nat → Nat → Nat) (adK adV : Nat → Nat) (h0 : Nat) (h36 : Nat) (h41 : Nat) (h31 : Nat) (h1 : Nat) (h6 : Nat) (h13 : Nat) (h21 : Nat) (h37 : Nat) (h39 : Nat) (h40 : Nat) (h42 : Nat) (h43 : Nat) (h44 : Nat) (h45 : Nat) (h46 : Nat) (h47 : Nat) (h48 : Nat) (h22 : Nat) (k36 : ClassId) (k41 : ClassId) (k31 : ClassId) (pl0 : va_W) (sz : Nat) (v0 : Nat → Int32) (f36 : Nat → Option Nat) (f41 : Nat → Int32) (f31 : Nat → Option Nat) (x1 : Int32) (x2 : Int32) (x3 : Int32) (hv0 : zR rg_Finder v0) (hx1 : (-2) ≤ x1.toInt ∧ x1.toInt ≤ 38) (hx2 : (-1) ≤ x2.toInt ∧ x2.toInt ≤ 39) (hx3 : (-999) ≤ x3.toInt ∧ x3.toInt ≤ 999) (hp0_ : zRd h22 f31 pl0) (hp1_ : zPs k41 f36 pl0) (hp2_ : x1.toInt = x2.toInt - 1) : Met l yX1_areNear (zw yX1_areNear cX1_areNear 4 (some .boolean)) { frames := 3, cells := 0, slots := 0, locals := 71 } (zPc dC dI adK adV [.ref h0, .int x1, .int x2, .int x3] sz ([(h0, .inr (1, mX1 h1 h6 h13 h21 h36 h37 h39 h40 h41 h42 h43 h44 h45 h46 h47 h48 v0)), (h36, .inl (k36, 40, .inr (.inr (.inr (.inr f36))))), (h41, zi k41 40 f41), (h31, .inl (k31, 400, .inr (.inr (.inr (.inr f31)))))] ++ pl0) [(k36, .object RX5), (k41, .int), (k31, .object RX8)]) (va_Qi (fun (r : Int32) (u : Nat → Int32) => (0 ≤ r.toInt ∧ r.toInt ≤ 1) ∧ (0 ≤ x3.toInt → (r.toInt = 1 ↔ zAnr k41 f36 pl0 x1.toInt x2.toInt x3.toInt))) (fun (u : Nat → Int32) (t : State) => ∃ (ww : Nat → Int64) (aa : Nat → Nat → Int32) (bb : Nat → Nat → Int64) (qq : Nat → Nat → Option Nat) (pl1 : va_W), (zRd h22 f31 pl1) ∧ (zPs k41 f36 pl1) ∧ (zOt pl0 pl1) ∧ (zPe pl0 pl1) ∧ va_P (dC, dI) vwCl ([(h0, .inr (1, mX1 h1 h6 h13 h21 h36 h37 h39 h40 h41 h42 h43 h44 h45 h46 h47 h48 v0)), (h36, .inl (k36, 40, .inr (.inr (.inr (.inr f36))))), (h41, zi k41 40 f41), (h31, .inl (k31, 400, .inr (.inr (.inr (.inr f31)))))] ++ pl1) t.heap ∧ va_K (dC, dI) vwCl [(k36, .object RX5), (k41, .int), (k31, .object RX8)] t ∧ va_D (va_A ([(h0, .inr (1, mX1 h1 h6 h13 h21 h36 h37 h39 h40 h41 h42 h43 h44 h45 h46 h47 h48 v0)), (h36, .inl (k36, 40, .inr (.inr (.inr (.inr f36))))), (h41, zi k41 40 f41), (h31, .inl (k31, 400, .inr (.inr (.inr (.inr f31)))))] ++ pl0) sz) ([(h0, .inr (1, mX1 h1 h6 h13 h21 h36 h37 h39 h40 h41 h42 h43 h44 h45 h46 h47 h48 v0)), (h36, .inl (k36, 40, .inr (.inr (.inr (.inr f36))))), (h41, zi k41 40 f41), (h31, .inl (k31, 400, .inr (.inr (.inr (.inr f31)))))] ++ pl1)) (va_A ([(h0, .inr (1, mX1 h1 h6 h13 h21 h36 h37 h39 h40 h41 h42 h43 h44 h45 h46 h47 h48 v0)), (h36, .inl (k36, 40, .inr (.inr (.inr (.inr f36))))), (h41, zi k41 40 f41), (h31, .inl (k31, 400, .inr (.inr (.inr (.inr f31)))))] ++ pl0) sz)) 0 0 (va_A ([(h0, .inr (1, mX1 h1 h6 h13 h21 h36 h37 h39 h40 h41 h42 h43 h44 h45 h46 h47 h48 v0)), (h36, .inl (k36, 40, .inr (.inr (.inr (.inr f36))))), (h41, zi k41 40 f41), (h31, .inl (k31, 400, .inr (.inr (.inr (.inr f31)))))] ++ pl0) sz) := by
  refine Met.ofW (cc := cX1_areNear) (maxL := 4) (ret := (some .boolean)) (by decide) rfl ?_
  intro p e s m args below meth c s₁ B hml hv
  obtain ⟨rfl, hsz, hP, hK, hD0, hE, hZ⟩ := hv
  have hx := B.exec
  have hb := B.bytes
  have hr := B.returns
  have hG : ∀ w ∈ zG, w.before _ s = true := fun w h => atoms_spec (ws := (zw yX1_areNear cX1_areNear 4 (some .boolean))) B.pre w (List.mem_cons_of_mem _ h)
  have hown : s.vm.findClass RX1 = some m.cls := findClass_of_methodNamed B.named
  have hlocks := B.notSynchronized

  subst hsz
  have hD := hD0.self (sz := s.heap.size)
  generalize hAe : va_A ([(h0, .inr (1, mX1 h1 h6 h13 h21 h36 h37 h39 h40 h41 h42 h43 h44 h45 h46 h47 h48 v0)), (h36, .inl (k36, 40, .inr (.inr (.inr (.inr f36))))), (h41, zi k41 40 f41), (h31, .inl (k31, 400, .inr (.inr (.inr (.inr f31)))))] ++ pl0) s.heap.size = A at hD hZ ⊢
  have hA : ∀ q : Nat, s.heap.size ≤ q → A q := fun q h => by rw [← hAe]; exact Or.inr h
  have hS : va_S A s.heap s.heap [] := va_S.rf
  have hl := lv_entry ([.ref h0, .int x1, .int x2, .int x3]) (n := 4) (Nat.le_of_ble_eq_true rfl)
  rw [lg_entry_eq]
  generalize (lg_sl ([.ref h0, .int x1, .int x2, .int x3]) ++ List.replicate (4 - (lg_sl ([.ref h0, .int x1, .int x2, .int x3])).length) Slot.unset).toArray = ls at hl ⊢
  have hl : lv_has ls 4 [(0, .ref h0), (1, .int x1), (2, .int x2), (3, .int x3)] := hl
  have b_ := zk_0
  have hpe_ : zPe pl0 pl0 := zPe_rf
  refine lv_iload_n hx hb dX1_areNear_0 rfl (lv_at hl 1 rfl) ?_
  refine lv_if_lt (tgt := 28) hx hb dX1_areNear_1 (by decide) (fun c_ => ?_) (fun c_ => ?_)
  · skip
    have b_ := zT_lt rfl zk_0 c_
    refine lv_iconst (v := 0) hx hb dX1_areNear_28 (by decide) ?_
    refine W.widen (k := 0) (n := 0) (by decide) (by decide) ?_
    have hpost : (0 ≤ (0 : Int32).toInt ∧ (0 : Int32).toInt ≤ 1) ∧ (0 ≤ x3.toInt → ((0 : Int32).toInt = 1 ↔ zAnr k41 f36 pl0 x1.toInt x2.toInt x3.toInt)) := ⟨(by first | with_reducible assumption | exact ⟨by omega, by omega⟩), by first | exact fun _ => zAnr_1 (by decide) (by omega) | exact fun _ => zAnr_2 (by decide) e_o15.symm (Or.inl rfl) | exact fun _ => zAnr_2 (by decide) e_o24.symm (Or.inr rfl) | exact fun n0_ => zAnr_i hD0_ e_pl35 e_pl41 e_o35.symm e_o41.symm rfl rfl (by omega) (by omega) hX43_0 n0_ (by omega)⟩
    have hP9 : va_P (dC, dI) vwCl ([(h0, .inr (1, mX1 h1 h6 h13 h21 h36 h37 h39 h40 h41 h42 h43 h44 h45 h46 h47 h48 v0)), (h36, .inl (k36, 40, .inr (.inr (.inr (.inr f36))))), (h41, zi k41 40 f41), (h31, .inl (k31, 400, .inr (.inr (.inr (.inr f31)))))] ++ pl0) s.heap := hP
    have hD9 : va_D A ([(h0, .inr (1, mX1 h1 h6 h13 h21 h36 h37 h39 h40 h41 h42 h43 h44 h45 h46 h47 h48 v0)), (h36, .inl (k36, 40, .inr (.inr (.inr (.inr f36))))), (h41, zi k41 40 f41), (h31, .inl (k31, 400, .inr (.inr (.inr (.inr f31)))))] ++ pl0) := hD
    have hB0 : zRd h22 f31 pl0 := by assumption
    have hB1 : zPs k41 f36 pl0 := by assumption
    have hB2 : zOt pl0 pl0 := by first | assumption | exact zOt_rf
    have hB3 : zPe pl0 pl0 := by first | assumption | exact zPe_rf
    exact W.zret (v := 0) hx hb hr rfl (fun t ht hW => ⟨⟨0, (fun _ => 0), rfl, hpost, (fun _ => 0), (fun _ => (fun _ => 0)), (fun _ => (fun _ => 0)), (fun _ => (fun _ => none)), pl0, hB0, hB1, hB2, hB3, by rw [ht]; exact hP9, va_K.moved hW.alike hK, hD9⟩, hS.F ht⟩) hS.2.2 dX1_areNear_29
  · skip
    have b_ := zF_lt rfl zk_0 c_
    refine lv_iload_n hx hb dX1_areNear_4 rfl (lv_at hl 2 rfl) ?_
    refine lv_bipush (v := 40) hx hb dX1_areNear_5 (by decide) ?_
    refine lv_icmp_ge (tgt := 28) hx hb dX1_areNear_7 (by decide) (fun c_ => False.elim (by have b_ := zT_ge rfl zk_40 c_; omega)) (fun c_ => ?_)
    have b_ := zF_ge rfl zk_40 c_
    refine lv_aload_n hx hb dX1_areNear_10 rfl (lv_at hl 0 rfl) ?_
    refine va_get (D := (dC, dI)) (ci := 1) (v := .ref h36) (C := RX1) (T := TX1) (N := 17) hx hb hG zuX1 hown hK hP 0 rfl rfl 4 (by decide) (hG _ zv508) (fun _ h9 => h9) rfl dX1_areNear_11 ?_
    refine lv_iload_n hx hb dX1_areNear_14 rfl (lv_at hl 1 rfl) ?_
    refine va_aldq hx hb hK hP 1 0 rfl rfl (zin_lit ⟨by omega, by omega⟩) dX1_areNear_15 ?_
    refine lv_topq (fun o15 e_o15 => ?_)
    rcases o15 with _ | a15_
    · skip
      refine W.eq (g2 := F0 m 16 ls [.null]) rfl ?_
      refine lv_ifnullN (tgt := 28) hx hb dX1_areNear_16 (by decide) ?_
      refine lv_iconst (v := 0) hx hb dX1_areNear_28 (by decide) ?_
      refine W.widen (k := 0) (n := 0) (by decide) (by decide) ?_
      have hpost : (0 ≤ (0 : Int32).toInt ∧ (0 : Int32).toInt ≤ 1) ∧ (0 ≤ x3.toInt → ((0 : Int32).toInt = 1 ↔ zAnr k41 f36 pl0 x1.toInt x2.toInt x3.toInt)) := ⟨(by first | with_reducible assumption | exact ⟨by omega, by omega⟩), by first | exact fun _ => zAnr_1 (by decide) (by omega) | exact fun _ => zAnr_2 (by decide) e_o15.symm (Or.inl rfl) | exact fun _ => zAnr_2 (by decide) e_o24.symm (Or.inr rfl) | exact fun n0_ => zAnr_i hD0_ e_pl35 e_pl41 e_o35.symm e_o41.symm rfl rfl (by omega) (by omega) hX43_0 n0_ (by omega)⟩
      have hP9 : va_P (dC, dI) vwCl ([(h0, .inr (1, mX1 h1 h6 h13 h21 h36 h37 h39 h40 h41 h42 h43 h44 h45 h46 h47 h48 v0)), (h36, .inl (k36, 40, .inr (.inr (.inr (.inr f36))))), (h41, zi k41 40 f41), (h31, .inl (k31, 400, .inr (.inr (.inr (.inr f31)))))] ++ pl0) s.heap := hP
      have hD9 : va_D A ([(h0, .inr (1, mX1 h1 h6 h13 h21 h36 h37 h39 h40 h41 h42 h43 h44 h45 h46 h47 h48 v0)), (h36, .inl (k36, 40, .inr (.inr (.inr (.inr f36))))), (h41, zi k41 40 f41), (h31, .inl (k31, 400, .inr (.inr (.inr (.inr f31)))))] ++ pl0) := hD
      have hB0 : zRd h22 f31 pl0 := by assumption
      have hB1 : zPs k41 f36 pl0 := by assumption
      have hB2 : zOt pl0 pl0 := by first | assumption | exact zOt_rf
      have hB3 : zPe pl0 pl0 := by first | assumption | exact zPe_rf
      exact W.zret (v := 0) hx hb hr rfl (fun t ht hW => ⟨⟨0, (fun _ => 0), rfl, hpost, (fun _ => 0), (fun _ => (fun _ => 0)), (fun _ => (fun _ => 0)), (fun _ => (fun _ => none)), pl0, hB0, hB1, hB2, hB3, by rw [ht]; exact hP9, va_K.moved hW.alike hK, hD9⟩, hS.F ht⟩) hS.2.2 dX1_areNear_29
    · skip
      refine W.eq (g2 := F0 m 16 ls [.ref a15_]) rfl ?_
      have hnn_ : f36 (x1 : Int32).toNatClampNeg ≠ none := fun h => by rw [h] at e_o15; cases e_o15
      refine lv_ifnull hx hb dX1_areNear_16 ?_
      refine lv_aload_n hx hb dX1_areNear_19 rfl (lv_at hl 0 rfl) ?_
      refine va_get (D := (dC, dI)) (ci := 1) (v := .ref h36) (C := RX1) (T := TX1) (N := 17) hx hb hG zuX1 hown hK hP 0 rfl rfl 4 (by decide) (hG _ zv508) (fun _ h9 => h9) rfl dX1_areNear_20 ?_
      refine lv_iload_n hx hb dX1_areNear_23 rfl (lv_at hl 2 rfl) ?_
      refine va_aldq hx hb hK hP 1 0 rfl rfl (zin_lit ⟨by omega, by omega⟩) dX1_areNear_24 ?_
      refine lv_topq (fun o24 e_o24 => ?_)
      rcases o24 with _ | a24_
      · skip
        refine W.eq (g2 := F0 m 25 ls [.null]) rfl ?_
        refine lv_ifnonnullN hx hb dX1_areNear_25 ?_
        refine lv_iconst (v := 0) hx hb dX1_areNear_28 (by decide) ?_
        refine W.widen (k := 0) (n := 0) (by decide) (by decide) ?_
        have hpost : (0 ≤ (0 : Int32).toInt ∧ (0 : Int32).toInt ≤ 1) ∧ (0 ≤ x3.toInt → ((0 : Int32).toInt = 1 ↔ zAnr k41 f36 pl0 x1.toInt x2.toInt x3.toInt)) := ⟨(by first | with_reducible assumption | exact ⟨by omega, by omega⟩), by first | exact fun _ => zAnr_1 (by decide) (by omega) | exact fun _ => zAnr_2 (by decide) e_o15.symm (Or.inl rfl) | exact fun _ => zAnr_2 (by decide) e_o24.symm (Or.inr rfl) | exact fun n0_ => zAnr_i hD0_ e_pl35 e_pl41 e_o35.symm e_o41.symm rfl rfl (by omega) (by omega) hX43_0 n0_ (by omega)⟩
        have hP9 : va_P (dC, dI) vwCl ([(h0, .inr (1, mX1 h1 h6 h13 h21 h36 h37 h39 h40 h41 h42 h43 h44 h45 h46 h47 h48 v0)), (h36, .inl (k36, 40, .inr (.inr (.inr (.inr f36))))), (h41, zi k41 40 f41), (h31, .inl (k31, 400, .inr (.inr (.inr (.inr f31)))))] ++ pl0) s.heap := hP
        have hD9 : va_D A ([(h0, .inr (1, mX1 h1 h6 h13 h21 h36 h37 h39 h40 h41 h42 h43 h44 h45 h46 h47 h48 v0)), (h36, .inl (k36, 40, .inr (.inr (.inr (.inr f36))))), (h41, zi k41 40 f41), (h31, .inl (k31, 400, .inr (.inr (.inr (.inr f31)))))] ++ pl0) := hD
        have hB0 : zRd h22 f31 pl0 := by assumption
        have hB1 : zPs k41 f36 pl0 := by assumption
        have hB2 : zOt pl0 pl0 := by first | assumption | exact zOt_rf
        have hB3 : zPe pl0 pl0 := by first | assumption | exact zPe_rf
        exact W.zret (v := 0) hx hb hr rfl (fun t ht hW => ⟨⟨0, (fun _ => 0), rfl, hpost, (fun _ => 0), (fun _ => (fun _ => 0)), (fun _ => (fun _ => 0)), (fun _ => (fun _ => none)), pl0, hB0, hB1, hB2, hB3, by rw [ht]; exact hP9, va_K.moved hW.alike hK, hD9⟩, hS.F ht⟩) hS.2.2 dX1_areNear_29
      · skip
        refine W.eq (g2 := F0 m 25 ls [.ref a24_]) rfl ?_
        have hnn_ : f36 (x2 : Int32).toNatClampNeg ≠ none := fun h => by rw [h] at e_o24; cases e_o24
        refine lv_ifnonnull (tgt := 30) hx hb dX1_areNear_25 (by decide) ?_
        have hD0_ := hD
        refine lv_aload_n hx hb dX1_areNear_30 rfl (lv_at hl 0 rfl) ?_
        refine va_get (D := (dC, dI)) (ci := 1) (v := .ref h36) (C := RX1) (T := TX1) (N := 17) hx hb hG zuX1 hown hK hP 0 rfl rfl 4 (by decide) (hG _ zv508) (fun _ h9 => h9) rfl dX1_areNear_31 ?_
        refine lv_iload_n hx hb dX1_areNear_34 rfl (lv_at hl 1 rfl) ?_
        refine va_aldq hx hb hK hP 1 0 rfl rfl (zin_lit ⟨by omega, by omega⟩) dX1_areNear_35 ?_
        refine lv_topq (fun o35 e_o35 => ?_)
        rcases o35 with _ | a35_
        · skip
          exact absurd e_o35.symm (by assumption)
        · skip
          refine W.eq (g2 := F0 m 36 ls [.ref a35_]) rfl ?_
          have hnn_ : f36 (x1 : Int32).toNatClampNeg ≠ none := fun h => by rw [h] at e_o35; cases e_o35
          refine lv_aload_n hx hb dX1_areNear_36 rfl (lv_at hl 0 rfl) ?_
          refine va_get (D := (dC, dI)) (ci := 1) (v := .ref h36) (C := RX1) (T := TX1) (N := 17) hx hb hG zuX1 hown hK hP 0 rfl rfl 4 (by decide) (hG _ zv508) (fun _ h9 => h9) rfl dX1_areNear_37 ?_
          refine lv_iload_n hx hb dX1_areNear_40 rfl (lv_at hl 2 rfl) ?_
          refine va_aldq hx hb hK hP 1 0 rfl rfl (zin_lit ⟨by omega, by omega⟩) dX1_areNear_41 ?_
          refine lv_topq (fun o41 e_o41 => ?_)
          rcases o41 with _ | a41_
          · skip
            exact absurd e_o41.symm (by assumption)
          · skip
            refine W.eq (g2 := F0 m 42 ls [.ref a41_, .ref a35_]) rfl ?_
            have hnn_ : f36 (x2 : Int32).toNatClampNeg ≠ none := fun h => by rw [h] at e_o41; cases e_o41
            refine lv_iload_n hx hb dX1_areNear_42 rfl (lv_at hl 3 rfl) ?_
            obtain ⟨b35_, f35_, p35, e_pl35, hzp35⟩ := zPs_out (show zPs k41 f36 pl0 from by assumption) (zltc (by omega) (by omega)) e_o35.symm
            have hP : va_P (dC, dI) vwCl ([(h0, .inr (1, mX1 h1 h6 h13 h21 h36 h37 h39 h40 h41 h42 h43 h44 h45 h46 h47 h48 v0)), (h36, .inl (k36, 40, .inr (.inr (.inr (.inr f36))))), (h41, zi k41 40 f41), (h31, .inl (k31, 400, .inr (.inr (.inr (.inr f31))))), (a35_, .inr (5, mX5 b35_)), (b35_, zi k41 26 f35_)] ++ p35) s.heap := zfocPm e_pl35 hP
            have hD : va_D A ([(h0, .inr (1, mX1 h1 h6 h13 h21 h36 h37 h39 h40 h41 h42 h43 h44 h45 h46 h47 h48 v0)), (h36, .inl (k36, 40, .inr (.inr (.inr (.inr f36))))), (h41, zi k41 40 f41), (h31, .inl (k31, 400, .inr (.inr (.inr (.inr f31))))), (a35_, .inr (5, mX5 b35_)), (b35_, zi k41 26 f35_)] ++ p35) := zfocDm e_pl35 hD
            obtain ⟨b41_, f41_, p41, e_pl41⟩ := hzp35 _ (zltc (by omega) (by omega)) (znec (by omega) (by omega) (by omega)) _ e_o41.symm
            have hP : va_P (dC, dI) vwCl ([(h0, .inr (1, mX1 h1 h6 h13 h21 h36 h37 h39 h40 h41 h42 h43 h44 h45 h46 h47 h48 v0)), (h36, .inl (k36, 40, .inr (.inr (.inr (.inr f36))))), (h41, zi k41 40 f41), (h31, .inl (k31, 400, .inr (.inr (.inr (.inr f31))))), (a35_, .inr (5, mX5 b35_)), (b35_, zi k41 26 f35_), (a41_, .inr (5, mX5 b41_)), (b41_, zi k41 26 f41_)] ++ p41) s.heap := zfocPm e_pl41 hP
            have hD : va_D A ([(h0, .inr (1, mX1 h1 h6 h13 h21 h36 h37 h39 h40 h41 h42 h43 h44 h45 h46 h47 h48 v0)), (h36, .inl (k36, 40, .inr (.inr (.inr (.inr f36))))), (h41, zi k41 40 f41), (h31, .inl (k31, 400, .inr (.inr (.inr (.inr f31))))), (a35_, .inr (5, mX5 b35_)), (b35_, zi k41 26 f35_), (a41_, .inr (5, mX5 b41_)), (b41_, zi k41 26 f41_)] ++ p41) := zfocDm e_pl41 hD
            have hPc := hP.sub (ws' := [(a35_, .inr (5, mX5 b35_)), (b35_, zi k41 26 f35_), (a41_, .inr (5, mX5 b41_)), (b41_, zi k41 26 f41_)]) [4, 5, 6, 7] rfl
            have hDc := hD.sub (ws' := [(a35_, .inr (5, mX5 b35_)), (b35_, zi k41 26 f35_), (a41_, .inr (5, mX5 b41_)), (b41_, zi k41 26 f41_)]) [4, 5, 6, 7] (by decide) rfl
            have hKc := hK.sub (tys' := [(k41, .int), (k41, .int)]) [1, 1] rfl
            have hFc := va_free (wc := [(a35_, .inr (5, mX5 b35_)), (b35_, zi k41 26 f35_), (a41_, .inr (5, mX5 b41_)), (b41_, zi k41 26 f41_)]) hD hS hA [4, 5, 6, 7] rfl
            refine va_calli (va_runV (As := [.ref a41_, .int x3]) (rest := []) ⟨hx, hb, hml, hown, hG⟩ (sX5_isNear_0 l dC dI adK adV a35_ b35_ a41_ b41_ k41 k41 s.heap.size f35_ f41_ x3 (show ((-999) : Int) ≤ (x3 : Int32).toInt ∧ (x3 : Int32).toInt ≤ (999 : Int) from (by first | with_reducible assumption | exact ⟨by omega, by omega⟩))) (cwV 2 hG (zgV zv1310 zv1311 zv1312 zv139 zv1313) rfl rfl rfl (by decide +kernel) ⟨Nat.le_of_ble_eq_true rfl, Nat.le_of_ble_eq_true rfl⟩) ⟨zPc_blind, va_recv hKc hPc (ci := 5) (q0 := 0) rfl rfl, zPc_pre hPc hKc hDc hE hS hFc hZ⟩ rfl rfl hl.1 rfl (lv_room (Nat.le_of_ble_eq_true rfl)) dX1_areNear_43 ⟨Nat.le_of_ble_eq_true rfl, Nat.le_of_ble_eq_true rfl⟩) hS (fun q _ h => hFc q h) hFc (fun r43_ u43_ t H1 locs ht hvm hw hB hz1 hk1 hS => ?_)
            replace hw : (0 ≤ r43_.toInt ∧ r43_.toInt ≤ 1) ∧ (zNr f35_ f41_ x3.toInt r43_.toInt) := hw
            obtain ⟨b_, hX43_0⟩ := hw
            obtain ⟨w43_, a43_, b43_, hP1, hK1, hD1⟩ := hB
            rw [ht] at hP1
            obtain ⟨hP, hD⟩ := va_joinQ (wr := [(h0, .inr (1, mX1 h1 h6 h13 h21 h36 h37 h39 h40 h41 h42 h43 h44 h45 h46 h47 h48 v0)), (h36, .inl (k36, 40, .inr (.inr (.inr (.inr f36))))), (h41, zi k41 40 f41), (h31, .inl (k31, 400, .inr (.inr (.inr (.inr f31)))))]) (w1 := [(a35_, .inr (5, mX5 b35_)), (b35_, zi k41 26 f35_), (a41_, .inr (5, mX5 b41_)), (b41_, zi k41 26 f41_)]) hP hD [4, 5, 6, 7] [0, 1, 2, 3] rfl rfl (by decide) (by decide) hk1 hFc hP1 hD1
            have hP : va_P (dC, dI) vwCl ([(h0, .inr (1, mX1 h1 h6 h13 h21 h36 h37 h39 h40 h41 h42 h43 h44 h45 h46 h47 h48 v0)), (h36, .inl (k36, 40, .inr (.inr (.inr (.inr f36))))), (h41, zi k41 40 f41), (h31, .inl (k31, 400, .inr (.inr (.inr (.inr f31))))), (a35_, .inr (5, mX5 b35_)), (b35_, zi k41 26 f35_), (a41_, .inr (5, mX5 b41_)), (b41_, zi k41 26 f41_)] ++ p41) H1 := hP.part [0, 1, 2, 3, 4, 5, 6, 7] rfl
            have hD : va_D A ([(h0, .inr (1, mX1 h1 h6 h13 h21 h36 h37 h39 h40 h41 h42 h43 h44 h45 h46 h47 h48 v0)), (h36, .inl (k36, 40, .inr (.inr (.inr (.inr f36))))), (h41, zi k41 40 f41), (h31, .inl (k31, 400, .inr (.inr (.inr (.inr f31))))), (a35_, .inr (5, mX5 b35_)), (b35_, zi k41 26 f35_), (a41_, .inr (5, mX5 b41_)), (b41_, zi k41 26 f41_)] ++ p41) := hD.part [0, 1, 2, 3, 4, 5, 6, 7] (by decide) rfl
            generalize H1 = H at hP hS ⊢
            clear hz1
            obtain ⟨plx3, e_plx3⟩ : ∃ z : va_W, z = (a41_, .inr (5, mX5 b41_)) :: (b41_, zi k41 26 f41_) :: p41 := ⟨_, rfl⟩
            have hP : va_P (dC, dI) vwCl ([(h0, .inr (1, mX1 h1 h6 h13 h21 h36 h37 h39 h40 h41 h42 h43 h44 h45 h46 h47 h48 v0)), (h36, .inl (k36, 40, .inr (.inr (.inr (.inr f36))))), (h41, zi k41 40 f41), (h31, .inl (k31, 400, .inr (.inr (.inr (.inr f31))))), (a35_, .inr (5, mX5 b35_)), (b35_, zi k41 26 f35_)] ++ plx3) H := by rw [e_plx3]; exact hP
            have hD : va_D A ([(h0, .inr (1, mX1 h1 h6 h13 h21 h36 h37 h39 h40 h41 h42 h43 h44 h45 h46 h47 h48 v0)), (h36, .inl (k36, 40, .inr (.inr (.inr (.inr f36))))), (h41, zi k41 40 f41), (h31, .inl (k31, 400, .inr (.inr (.inr (.inr f31))))), (a35_, .inr (5, mX5 b35_)), (b35_, zi k41 26 f35_)] ++ plx3) := by rw [e_plx3]; exact hD
            have hpm : plx3.Perm p35 := by rw [e_plx3]; exact e_pl41.symm
            obtain ⟨plx4, e_plx4⟩ : ∃ z : va_W, z = (a35_, .inr (5, mX5 b35_)) :: (b35_, zi k41 26 f35_) :: plx3 := ⟨_, rfl⟩
            have hP : va_P (dC, dI) vwCl ([(h0, .inr (1, mX1 h1 h6 h13 h21 h36 h37 h39 h40 h41 h42 h43 h44 h45 h46 h47 h48 v0)), (h36, .inl (k36, 40, .inr (.inr (.inr (.inr f36))))), (h41, zi k41 40 f41), (h31, .inl (k31, 400, .inr (.inr (.inr (.inr f31)))))] ++ plx4) H := by rw [e_plx4]; exact hP
            have hD : va_D A ([(h0, .inr (1, mX1 h1 h6 h13 h21 h36 h37 h39 h40 h41 h42 h43 h44 h45 h46 h47 h48 v0)), (h36, .inl (k36, 40, .inr (.inr (.inr (.inr f36))))), (h41, zi k41 40 f41), (h31, .inl (k31, 400, .inr (.inr (.inr (.inr f31)))))] ++ plx4) := by rw [e_plx4]; exact hD
            have hpl_ : zRd h22 f31 plx4 := by rw [e_plx4]; exact zRd_perm (show zRd h22 f31 pl0 from by first | assumption | exact zOt_rf) (((hpm.cons _).cons _).trans e_pl35.symm)
            have hpl_ : zPs k41 f36 plx4 := by rw [e_plx4]; exact zPs_perm (show zPs k41 f36 pl0 from by first | assumption | exact zOt_rf) (((hpm.cons _).cons _).trans e_pl35.symm)
            have hpl_ : zOt pl0 plx4 := by rw [e_plx4]; exact zOt_perm (show zOt pl0 pl0 from by first | assumption | exact zOt_rf) (((hpm.cons _).cons _).trans e_pl35.symm)
            have hpl_ : zPe pl0 plx4 := by rw [e_plx4]; exact zPe_perm (show zPe pl0 pl0 from by first | assumption | exact zOt_rf) (((hpm.cons _).cons _).trans e_pl35.symm)
            refine W.widen (k := 0) (n := 0) (by decide) (by decide) ?_
            have hpost : (0 ≤ r43_.toInt ∧ r43_.toInt ≤ 1) ∧ (0 ≤ x3.toInt → (r43_.toInt = 1 ↔ zAnr k41 f36 pl0 x1.toInt x2.toInt x3.toInt)) := ⟨(by first | with_reducible assumption | exact ⟨by omega, by omega⟩), by first | exact fun _ => zAnr_1 (by decide) (by omega) | exact fun _ => zAnr_2 (by decide) e_o15.symm (Or.inl rfl) | exact fun _ => zAnr_2 (by decide) e_o24.symm (Or.inr rfl) | exact fun n0_ => zAnr_i hD0_ e_pl35 e_pl41 e_o35.symm e_o41.symm rfl rfl (by omega) (by omega) hX43_0 n0_ (by omega)⟩
            have hP9 : va_P (dC, dI) vwCl ([(h0, .inr (1, mX1 h1 h6 h13 h21 h36 h37 h39 h40 h41 h42 h43 h44 h45 h46 h47 h48 v0)), (h36, .inl (k36, 40, .inr (.inr (.inr (.inr f36))))), (h41, zi k41 40 f41), (h31, .inl (k31, 400, .inr (.inr (.inr (.inr f31)))))] ++ plx4) H := hP
            have hD9 : va_D A ([(h0, .inr (1, mX1 h1 h6 h13 h21 h36 h37 h39 h40 h41 h42 h43 h44 h45 h46 h47 h48 v0)), (h36, .inl (k36, 40, .inr (.inr (.inr (.inr f36))))), (h41, zi k41 40 f41), (h31, .inl (k31, 400, .inr (.inr (.inr (.inr f31)))))] ++ plx4) := hD
            have hB0 : zRd h22 f31 plx4 := by assumption
            have hB1 : zPs k41 f36 plx4 := by assumption
            have hB2 : zOt pl0 plx4 := by first | assumption | exact zOt_rf
            have hB3 : zPe pl0 plx4 := by first | assumption | exact zPe_rf
            exact W.zret (v := r43_) hx hb hr (zbn ⟨by omega, by omega⟩) (fun t ht hW => ⟨⟨r43_, (fun _ => 0), rfl, hpost, (fun _ => 0), (fun _ => (fun _ => 0)), (fun _ => (fun _ => 0)), (fun _ => (fun _ => none)), plx4, hB0, hB1, hB2, hB3, by rw [ht]; exact hP9, va_K.moved hW.alike hK, hD9⟩, hS.F ht⟩) hS.2.2 dX1_areNear_46
set_option maxHeartbeats 8000000 in
set_option maxRecDepth 100000 in
theorem sX1_joined_0 (l : Launch) (dC : Nat → ClassId) (dI : Nat → Nat → Nat) (adK adV : Nat → Nat) (sz : Nat) (x0 : Int32) (x1 : Int32) (x2 : Int32) : Met l yX1_joined (zw yX1_joined cX1_joined 3 (some .boolean)) { frames := 0, cells := 0, slots := 0, locals := 0 } (zPc dC dI adK adV [.int x0, .int x1, .int x2] sz [] []) (va_Qi (fun (r : Int32) (u : Nat → Int32) => (0 ≤ r.toInt ∧ r.toInt ≤ 1) ∧ (r.toInt = 1 ↔ zjd x0.toInt (x1.toInt ≠ 0) (x2.toInt ≠ 0))) (fun (u : Nat → Int32) (t : State) => ∃ (ww : Nat → Int64) (aa : Nat → Nat → Int32) (bb : Nat → Nat → Int64), va_P (dC, dI) vwCl [] t.heap ∧ va_K (dC, dI) vwCl [] t ∧ va_D (va_A [] sz) []) (va_A [] sz)) 0 0 (va_A [] sz) := by
  refine Met.ofW (cc := cX1_joined) (maxL := 3) (ret := (some .boolean)) (by decide) rfl ?_
  intro p e s m args below meth c s₁ B hml hv
  obtain ⟨rfl, hsz, hP, hK, hD0, hE, hZ⟩ := hv
  have hx := B.exec
  have hb := B.bytes
  have hr := B.returns
  have hG : ∀ w ∈ zG, w.before _ s = true := fun w h => atoms_spec (ws := (zw yX1_joined cX1_joined 3 (some .boolean))) B.pre w (List.mem_cons_of_mem _ h)
  have hown : s.vm.findClass RX1 = some m.cls := findClass_of_methodNamed B.named
  have hlocks := B.notSynchronized

  subst hsz
  have hD := hD0.self (sz := s.heap.size)
  generalize hAe : va_A [] s.heap.size = A at hD hZ ⊢
  have hA : ∀ q : Nat, s.heap.size ≤ q → A q := fun q h => by rw [← hAe]; exact Or.inr h
  have hS : va_S A s.heap s.heap [] := va_S.rf
  have hl := lv_entry ([.int x0, .int x1, .int x2]) (n := 3) (Nat.le_of_ble_eq_true rfl)
  rw [lg_entry_eq]
  generalize (lg_sl ([.int x0, .int x1, .int x2]) ++ List.replicate (3 - (lg_sl ([.int x0, .int x1, .int x2])).length) Slot.unset).toArray = ls at hl ⊢
  have hl : lv_has ls 3 [(0, .int x0), (1, .int x1), (2, .int x2)] := hl
  have b_ := zk_0
  have b_ := zk_1
  have b_ := zk_8
  have b_ := zk_9
  refine lv_iload_n hx hb dX1_joined_0 rfl (lv_at hl 0 rfl) ?_
  rcases Classical.em (x0 = (8 : Int32)) with c_ | c_
  · skip
    have b_ : x0.toInt = 8 := by rw [c_]; exact zk_8
    refine lv_lookup (off := 27) (tgt := 28) hx hb dX1_joined_1 (by decide +kernel) (by rw [b_]; decide +kernel) (by decide) ?_
    refine lv_iload_n hx hb dX1_joined_28 rfl (lv_at hl 1 rfl) ?_
    have b_ : -2147483648 ≤ x1.toInt ∧ x1.toInt ≤ 2147483647 := ⟨zlo _, zhi _⟩
    refine lv_if_eq (tgt := 40) hx hb dX1_joined_29 (by decide) (fun c_ => ?_) (fun c_ => ?_)
    · skip
      have b_ := zT_eq rfl zk_0 c_
      refine lv_iconst (v := 0) hx hb dX1_joined_40 (by decide) ?_
      refine W.widen (k := 0) (n := 0) (by decide) (by decide) ?_
      have hpost : (0 ≤ (0 : Int32).toInt ∧ (0 : Int32).toInt ≤ 1) ∧ ((0 : Int32).toInt = 1 ↔ zjd x0.toInt (x1.toInt ≠ 0) (x2.toInt ≠ 0)) := ⟨(by first | with_reducible assumption | exact ⟨by omega, by omega⟩), by (unfold zjd; omega)⟩
      have hP9 : va_P (dC, dI) vwCl [] s.heap := hP
      have hD9 : va_D A [] := hD
      exact W.zret (v := 0) hx hb hr rfl (fun t ht hW => ⟨⟨0, (fun _ => 0), rfl, hpost, (fun _ => 0), (fun _ => (fun _ => 0)), (fun _ => (fun _ => 0)), by rw [ht]; exact hP9, va_K.moved hW.alike hK, hD9⟩, hS.F ht⟩) hS.2.2 dX1_joined_41
    · skip
      have b_ := zF_eq rfl zk_0 c_
      refine lv_iload_n hx hb dX1_joined_32 rfl (lv_at hl 2 rfl) ?_
      have b_ : -2147483648 ≤ x2.toInt ∧ x2.toInt ≤ 2147483647 := ⟨zlo _, zhi _⟩
      refine lv_if_eq (tgt := 40) hx hb dX1_joined_33 (by decide) (fun c_ => ?_) (fun c_ => ?_)
      · skip
        have b_ := zT_eq rfl zk_0 c_
        refine lv_iconst (v := 0) hx hb dX1_joined_40 (by decide) ?_
        refine W.widen (k := 0) (n := 0) (by decide) (by decide) ?_
        have hpost : (0 ≤ (0 : Int32).toInt ∧ (0 : Int32).toInt ≤ 1) ∧ ((0 : Int32).toInt = 1 ↔ zjd x0.toInt (x1.toInt ≠ 0) (x2.toInt ≠ 0)) := ⟨(by first | with_reducible assumption | exact ⟨by omega, by omega⟩), by (unfold zjd; omega)⟩
        have hP9 : va_P (dC, dI) vwCl [] s.heap := hP
        have hD9 : va_D A [] := hD
        exact W.zret (v := 0) hx hb hr rfl (fun t ht hW => ⟨⟨0, (fun _ => 0), rfl, hpost, (fun _ => 0), (fun _ => (fun _ => 0)), (fun _ => (fun _ => 0)), by rw [ht]; exact hP9, va_K.moved hW.alike hK, hD9⟩, hS.F ht⟩) hS.2.2 dX1_joined_41
      · skip
        have b_ := zF_eq rfl zk_0 c_
        refine lv_iconst (v := 1) hx hb dX1_joined_36 (by decide) ?_
        refine lv_goto (tgt := 41) hx hb dX1_joined_37 (by decide) ?_
        refine W.widen (k := 0) (n := 0) (by decide) (by decide) ?_
        have hpost : (0 ≤ (1 : Int32).toInt ∧ (1 : Int32).toInt ≤ 1) ∧ ((1 : Int32).toInt = 1 ↔ zjd x0.toInt (x1.toInt ≠ 0) (x2.toInt ≠ 0)) := ⟨(by first | with_reducible assumption | exact ⟨by omega, by omega⟩), by (unfold zjd; omega)⟩
        have hP9 : va_P (dC, dI) vwCl [] s.heap := hP
        have hD9 : va_D A [] := hD
        exact W.zret (v := 1) hx hb hr rfl (fun t ht hW => ⟨⟨1, (fun _ => 0), rfl, hpost, (fun _ => 0), (fun _ => (fun _ => 0)), (fun _ => (fun _ => 0)), by rw [ht]; exact hP9, va_K.moved hW.alike hK, hD9⟩, hS.F ht⟩) hS.2.2 dX1_joined_41
  · skip
    have b_ : x0.toInt ≠ 8 := fun h => c_ (zeqi.mpr (h.trans zk_8.symm))
    rcases Classical.em (x0 = (9 : Int32)) with c_ | c_
    · skip
      have b_ : x0.toInt = 9 := by rw [c_]; exact zk_9
      refine lv_lookup (off := 41) (tgt := 42) hx hb dX1_joined_1 (by decide +kernel) (by rw [b_]; decide +kernel) (by decide) ?_
      refine lv_iload_n hx hb dX1_joined_42 rfl (lv_at hl 1 rfl) ?_
      have b_ : -2147483648 ≤ x1.toInt ∧ x1.toInt ≤ 2147483647 := ⟨zlo _, zhi _⟩
      refine lv_if_ne (tgt := 50) hx hb dX1_joined_43 (by decide) (fun c_ => ?_) (fun c_ => ?_)
      · skip
        have b_ := zT_ne rfl zk_0 c_
        refine lv_iconst (v := 1) hx hb dX1_joined_50 (by decide) ?_
        refine lv_goto (tgt := 55) hx hb dX1_joined_51 (by decide) ?_
        refine W.widen (k := 0) (n := 0) (by decide) (by decide) ?_
        have hpost : (0 ≤ (1 : Int32).toInt ∧ (1 : Int32).toInt ≤ 1) ∧ ((1 : Int32).toInt = 1 ↔ zjd x0.toInt (x1.toInt ≠ 0) (x2.toInt ≠ 0)) := ⟨(by first | with_reducible assumption | exact ⟨by omega, by omega⟩), by (unfold zjd; omega)⟩
        have hP9 : va_P (dC, dI) vwCl [] s.heap := hP
        have hD9 : va_D A [] := hD
        exact W.zret (v := 1) hx hb hr rfl (fun t ht hW => ⟨⟨1, (fun _ => 0), rfl, hpost, (fun _ => 0), (fun _ => (fun _ => 0)), (fun _ => (fun _ => 0)), by rw [ht]; exact hP9, va_K.moved hW.alike hK, hD9⟩, hS.F ht⟩) hS.2.2 dX1_joined_55
      · skip
        have b_ := zF_ne rfl zk_0 c_
        refine lv_iload_n hx hb dX1_joined_46 rfl (lv_at hl 2 rfl) ?_
        have b_ : -2147483648 ≤ x2.toInt ∧ x2.toInt ≤ 2147483647 := ⟨zlo _, zhi _⟩
        refine lv_if_eq (tgt := 54) hx hb dX1_joined_47 (by decide) (fun c_ => ?_) (fun c_ => ?_)
        · skip
          have b_ := zT_eq rfl zk_0 c_
          refine lv_iconst (v := 0) hx hb dX1_joined_54 (by decide) ?_
          refine W.widen (k := 0) (n := 0) (by decide) (by decide) ?_
          have hpost : (0 ≤ (0 : Int32).toInt ∧ (0 : Int32).toInt ≤ 1) ∧ ((0 : Int32).toInt = 1 ↔ zjd x0.toInt (x1.toInt ≠ 0) (x2.toInt ≠ 0)) := ⟨(by first | with_reducible assumption | exact ⟨by omega, by omega⟩), by (unfold zjd; omega)⟩
          have hP9 : va_P (dC, dI) vwCl [] s.heap := hP
          have hD9 : va_D A [] := hD
          exact W.zret (v := 0) hx hb hr rfl (fun t ht hW => ⟨⟨0, (fun _ => 0), rfl, hpost, (fun _ => 0), (fun _ => (fun _ => 0)), (fun _ => (fun _ => 0)), by rw [ht]; exact hP9, va_K.moved hW.alike hK, hD9⟩, hS.F ht⟩) hS.2.2 dX1_joined_55
        · skip
          have b_ := zF_eq rfl zk_0 c_
          refine lv_iconst (v := 1) hx hb dX1_joined_50 (by decide) ?_
          refine lv_goto (tgt := 55) hx hb dX1_joined_51 (by decide) ?_
          refine W.widen (k := 0) (n := 0) (by decide) (by decide) ?_
          have hpost : (0 ≤ (1 : Int32).toInt ∧ (1 : Int32).toInt ≤ 1) ∧ ((1 : Int32).toInt = 1 ↔ zjd x0.toInt (x1.toInt ≠ 0) (x2.toInt ≠ 0)) := ⟨(by first | with_reducible assumption | exact ⟨by omega, by omega⟩), by (unfold zjd; omega)⟩
          have hP9 : va_P (dC, dI) vwCl [] s.heap := hP
          have hD9 : va_D A [] := hD
          exact W.zret (v := 1) hx hb hr rfl (fun t ht hW => ⟨⟨1, (fun _ => 0), rfl, hpost, (fun _ => 0), (fun _ => (fun _ => 0)), (fun _ => (fun _ => 0)), by rw [ht]; exact hP9, va_K.moved hW.alike hK, hD9⟩, hS.F ht⟩) hS.2.2 dX1_joined_55
    · skip
      have b_ : x0.toInt ≠ 9 := fun h => c_ (zeqi.mpr (h.trans zk_9.symm))
      refine lv_lookup (off := 55) (tgt := 56) hx hb dX1_joined_1 (by decide +kernel) (zlookup (by simp; omega)) (by decide) ?_
      refine lv_iload_n hx hb dX1_joined_56 rfl (lv_at hl 1 rfl) ?_
      have b_ : -2147483648 ≤ x1.toInt ∧ x1.toInt ≤ 2147483647 := ⟨zlo _, zhi _⟩
      refine lv_if_eq (tgt := 68) hx hb dX1_joined_57 (by decide) (fun c_ => ?_) (fun c_ => ?_)
      · skip
        have b_ := zT_eq rfl zk_0 c_
        refine lv_iconst (v := 0) hx hb dX1_joined_68 (by decide) ?_
        refine W.widen (k := 0) (n := 0) (by decide) (by decide) ?_
        have hpost : (0 ≤ (0 : Int32).toInt ∧ (0 : Int32).toInt ≤ 1) ∧ ((0 : Int32).toInt = 1 ↔ zjd x0.toInt (x1.toInt ≠ 0) (x2.toInt ≠ 0)) := ⟨(by first | with_reducible assumption | exact ⟨by omega, by omega⟩), by (unfold zjd; omega)⟩
        have hP9 : va_P (dC, dI) vwCl [] s.heap := hP
        have hD9 : va_D A [] := hD
        exact W.zret (v := 0) hx hb hr rfl (fun t ht hW => ⟨⟨0, (fun _ => 0), rfl, hpost, (fun _ => 0), (fun _ => (fun _ => 0)), (fun _ => (fun _ => 0)), by rw [ht]; exact hP9, va_K.moved hW.alike hK, hD9⟩, hS.F ht⟩) hS.2.2 dX1_joined_69
      · skip
        have b_ := zF_eq rfl zk_0 c_
        refine lv_iload_n hx hb dX1_joined_60 rfl (lv_at hl 2 rfl) ?_
        have b_ : -2147483648 ≤ x2.toInt ∧ x2.toInt ≤ 2147483647 := ⟨zlo _, zhi _⟩
        refine lv_if_ne (tgt := 68) hx hb dX1_joined_61 (by decide) (fun c_ => ?_) (fun c_ => ?_)
        · skip
          have b_ := zT_ne rfl zk_0 c_
          refine lv_iconst (v := 0) hx hb dX1_joined_68 (by decide) ?_
          refine W.widen (k := 0) (n := 0) (by decide) (by decide) ?_
          have hpost : (0 ≤ (0 : Int32).toInt ∧ (0 : Int32).toInt ≤ 1) ∧ ((0 : Int32).toInt = 1 ↔ zjd x0.toInt (x1.toInt ≠ 0) (x2.toInt ≠ 0)) := ⟨(by first | with_reducible assumption | exact ⟨by omega, by omega⟩), by (unfold zjd; omega)⟩
          have hP9 : va_P (dC, dI) vwCl [] s.heap := hP
          have hD9 : va_D A [] := hD
          exact W.zret (v := 0) hx hb hr rfl (fun t ht hW => ⟨⟨0, (fun _ => 0), rfl, hpost, (fun _ => 0), (fun _ => (fun _ => 0)), (fun _ => (fun _ => 0)), by rw [ht]; exact hP9, va_K.moved hW.alike hK, hD9⟩, hS.F ht⟩) hS.2.2 dX1_joined_69
        · skip
          have b_ := zF_ne rfl zk_0 c_
          refine lv_iconst (v := 1) hx hb dX1_joined_64 (by decide) ?_
          refine lv_goto (tgt := 69) hx hb dX1_joined_65 (by decide) ?_
          refine W.widen (k := 0) (n := 0) (by decide) (by decide) ?_
          have hpost : (0 ≤ (1 : Int32).toInt ∧ (1 : Int32).toInt ≤ 1) ∧ ((1 : Int32).toInt = 1 ↔ zjd x0.toInt (x1.toInt ≠ 0) (x2.toInt ≠ 0)) := ⟨(by first | with_reducible assumption | exact ⟨by omega, by omega⟩), by (unfold zjd; omega)⟩
          have hP9 : va_P (dC, dI) vwCl [] s.heap := hP
          have hD9 : va_D A [] := hD
          exact W.zret (v := 1) hx hb hr rfl (fun t ht hW => ⟨⟨1, (fun _ => 0), rfl, hpost, (fun _ => 0), (fun _ => (fun _ => 0)), (fun _ => (fun _ => 0)), by rw [ht]; exact hP9, va_K.moved hW.alike hK, hD9⟩, hS.F ht⟩) hS.2.2 dX1_joined_69
set_option maxHeartbeats 8000000 in
set_option maxRecDepth 100000 in
theorem sX1_works_0 (l : Launch) (dC : Nat → ClassId) (dI : Nat → Nat → Nat) (adK adV : Nat → Nat) (h0 : Nat) (h13 : Nat) (h20 : Nat) (h39 : Nat) (h40 : Nat) (h36 : Nat) (h41 : Nat) (h31 : Nat) (h1 : Nat) (h6 : Nat) (h21 : Nat) (h37 : Nat) (h42 : Nat) (h43 : Nat) (h44 : Nat) (h45 : Nat) (h46 : Nat) (h47 : Nat) (h48 : Nat) (h14 : Nat) (h15 : Nat) (h16 : Nat) (h17 : Nat) (h18 : Nat) (h19 : Nat) (h22 : Nat) (k20 : ClassId) (k39 : ClassId) (k40 : ClassId) (k36 : ClassId) (k41 : ClassId) (k31 : ClassId) (pl0 : va_W) (sz : Nat) (v0 : Nat → Int32) (v13 : Nat → Int32) (f20 : Nat → Int32) (f39 : Nat → Int32) (f40 : Nat → Int32) (f36 : Nat → Option Nat) (f41 : Nat → Int32) (f31 : Nat → Option Nat) (hv0 : zR rg_Finder v0) (hv13 : zR rg_Query v13) (hf20 : zA 0 12000 f20) (hp0_ : zRd h22 f31 pl0) (hp1_ : zPs k41 f36 pl0) : Met l yX1_works (zw yX1_works cX1_works 6 (some .boolean)) { frames := 4, cells := 0, slots := 0, locals := 94 } (zPc dC dI adK adV [.ref h0] sz ([(h0, .inr (1, mX1 h1 h6 h13 h21 h36 h37 h39 h40 h41 h42 h43 h44 h45 h46 h47 h48 v0)), (h13, .inr (7, mX7 h14 h15 h16 h17 h18 h19 h20 v13)), (h20, zi k20 270 f20), (h39, zi k39 40 f39), (h40, zi k40 40 f40), (h36, .inl (k36, 40, .inr (.inr (.inr (.inr f36))))), (h41, zi k41 40 f41), (h31, .inl (k31, 400, .inr (.inr (.inr (.inr f31)))))] ++ pl0) [(k20, .int), (k39, .boolean), (k40, .boolean), (k36, .object RX5), (k41, .int), (k31, .object RX8)]) (va_Qi (fun (r : Int32) (u : Nat → Int32) => (0 ≤ r.toInt ∧ r.toInt ≤ 1) ∧ (r.toInt = 1 ↔ zWke f20 f39 (zNvv k41 f36 pl0) (v13 9).toInt)) (fun (u : Nat → Int32) (t : State) => ∃ (ww : Nat → Int64) (aa : Nat → Nat → Int32) (bb : Nat → Nat → Int64) (qq : Nat → Nat → Option Nat) (pl1 : va_W), (zRd h22 f31 pl1) ∧ (zPs k41 f36 pl1) ∧ (zOt pl0 pl1) ∧ (zPe pl0 pl1) ∧ va_P (dC, dI) vwCl ([(h0, .inr (1, mX1 h1 h6 h13 h21 h36 h37 h39 h40 h41 h42 h43 h44 h45 h46 h47 h48 v0)), (h13, .inr (7, mX7 h14 h15 h16 h17 h18 h19 h20 v13)), (h20, zi k20 270 f20), (h39, zi k39 40 f39), (h40, zi k40 40 (aa 0)), (h36, .inl (k36, 40, .inr (.inr (.inr (.inr f36))))), (h41, zi k41 40 f41), (h31, .inl (k31, 400, .inr (.inr (.inr (.inr f31)))))] ++ pl1) t.heap ∧ va_K (dC, dI) vwCl [(k20, .int), (k39, .boolean), (k40, .boolean), (k36, .object RX5), (k41, .int), (k31, .object RX8)] t ∧ va_D (va_A ([(h0, .inr (1, mX1 h1 h6 h13 h21 h36 h37 h39 h40 h41 h42 h43 h44 h45 h46 h47 h48 v0)), (h13, .inr (7, mX7 h14 h15 h16 h17 h18 h19 h20 v13)), (h20, zi k20 270 f20), (h39, zi k39 40 f39), (h40, zi k40 40 f40), (h36, .inl (k36, 40, .inr (.inr (.inr (.inr f36))))), (h41, zi k41 40 f41), (h31, .inl (k31, 400, .inr (.inr (.inr (.inr f31)))))] ++ pl0) sz) ([(h0, .inr (1, mX1 h1 h6 h13 h21 h36 h37 h39 h40 h41 h42 h43 h44 h45 h46 h47 h48 v0)), (h13, .inr (7, mX7 h14 h15 h16 h17 h18 h19 h20 v13)), (h20, zi k20 270 f20), (h39, zi k39 40 f39), (h40, zi k40 40 (aa 0)), (h36, .inl (k36, 40, .inr (.inr (.inr (.inr f36))))), (h41, zi k41 40 f41), (h31, .inl (k31, 400, .inr (.inr (.inr (.inr f31)))))] ++ pl1)) (va_A ([(h0, .inr (1, mX1 h1 h6 h13 h21 h36 h37 h39 h40 h41 h42 h43 h44 h45 h46 h47 h48 v0)), (h13, .inr (7, mX7 h14 h15 h16 h17 h18 h19 h20 v13)), (h20, zi k20 270 f20), (h39, zi k39 40 f39), (h40, zi k40 40 f40), (h36, .inl (k36, 40, .inr (.inr (.inr (.inr f36))))), (h41, zi k41 40 f41), (h31, .inl (k31, 400, .inr (.inr (.inr (.inr f31)))))] ++ pl0) sz)) 0 0 (va_A ([(h0, .inr (1, mX1 h1 h6 h13 h21 h36 h37 h39 h40 h41 h42 h43 h44 h45 h46 h47 h48 v0)), (h13, .inr (7, mX7 h14 h15 h16 h17 h18 h19 h20 v13)), (h20, zi k20 270 f20), (h39, zi k39 40 f39), (h40, zi k40 40 f40), (h36, .inl (k36, 40, .inr (.inr (.inr (.inr f36))))), (h41, zi k41 40 f41), (h31, .inl (k31, 400, .inr (.inr (.inr (.inr f31)))))] ++ pl0) sz) := by
  refine Met.ofW (cc := cX1_works) (maxL := 6) (ret := (some .boolean)) (by decide) rfl ?_
  intro p e s m args below meth c s₁ B hml hv
  obtain ⟨rfl, hsz, hP, hK, hD0, hE, hZ⟩ := hv
  have hx := B.exec
  have hb := B.bytes
  have hr := B.returns
  have hG : ∀ w ∈ zG, w.before _ s = true := fun w h => atoms_spec (ws := (zw yX1_works cX1_works 6 (some .boolean))) B.pre w (List.mem_cons_of_mem _ h)
  have hown : s.vm.findClass RX1 = some m.cls := findClass_of_methodNamed B.named
  have hlocks := B.notSynchronized

  subst hsz
  have hD := hD0.self (sz := s.heap.size)
  generalize hAe : va_A ([(h0, .inr (1, mX1 h1 h6 h13 h21 h36 h37 h39 h40 h41 h42 h43 h44 h45 h46 h47 h48 v0)), (h13, .inr (7, mX7 h14 h15 h16 h17 h18 h19 h20 v13)), (h20, zi k20 270 f20), (h39, zi k39 40 f39), (h40, zi k40 40 f40), (h36, .inl (k36, 40, .inr (.inr (.inr (.inr f36))))), (h41, zi k41 40 f41), (h31, .inl (k31, 400, .inr (.inr (.inr (.inr f31)))))] ++ pl0) s.heap.size = A at hD hZ ⊢
  have hA : ∀ q : Nat, s.heap.size ≤ q → A q := fun q h => by rw [← hAe]; exact Or.inr h
  have hS : va_S A s.heap s.heap [] := va_S.rf
  have hl := lv_entry ([.ref h0]) (n := 6) (Nat.le_of_ble_eq_true rfl)
  rw [lg_entry_eq]
  generalize (lg_sl ([.ref h0]) ++ List.replicate (6 - (lg_sl ([.ref h0])).length) Slot.unset).toArray = ls at hl ⊢
  have hl : lv_has ls 6 [(0, .ref h0)] := hl
  have b_ := zk_m1
  have b_ := zk_0
  have b_ := zk_1
  have b_ : 0 ≤ (v13 9).toInt ∧ (v13 9).toInt ≤ 270 := hv13 9
  have hpe_ : zPe pl0 pl0 := zPe_rf
  refine lv_iconst (v := 0) hx hb dX1_works_0 (by decide) ?_
  refine lv_istore_n (lv' := [(1, .int 0), (0, .ref h0)]) hx hb dX1_works_1 rfl hl (by decide) rfl (fun ls hl => ?_)
  refine lv_iconst (v := (-1)) hx hb dX1_works_2 (by decide) ?_
  refine lv_istore_n (lv' := [(2, .int (-1)), (1, .int 0), (0, .ref h0)]) hx hb dX1_works_3 rfl hl (by decide) rfl (fun ls hl => ?_)
  refine lv_iconst (v := 0) hx hb dX1_works_4 (by decide) ?_
  refine lv_istore_n (lv' := [(3, .int 0), (2, .int (-1)), (1, .int 0), (0, .ref h0)]) hx hb dX1_works_5 rfl hl (by decide) rfl (fun ls hl => ?_)
  refine zcutL (fun u6_ => (299 - (u6_ 2).toInt).toNat) (fun H locs ls u6_ w6_ a6_ b6_ => ∃ (q6_ : Nat → Nat → Option Nat) (pl6 : va_W), va_P (dC, dI) vwCl ([(h0, .inr (1, mX1 h1 h6 h13 h21 h36 h37 h39 h40 h41 h42 h43 h44 h45 h46 h47 h48 v0)), (h13, .inr (7, mX7 h14 h15 h16 h17 h18 h19 h20 v13)), (h20, zi k20 270 f20), (h39, zi k39 40 f39), (h40, zi k40 40 (a6_ 0)), (h36, .inl (k36, 40, .inr (.inr (.inr (.inr f36))))), (h41, zi k41 40 f41), (h31, .inl (k31, 400, .inr (.inr (.inr (.inr f31)))))] ++ pl6) H ∧ va_D A ([(h0, .inr (1, mX1 h1 h6 h13 h21 h36 h37 h39 h40 h41 h42 h43 h44 h45 h46 h47 h48 v0)), (h13, .inr (7, mX7 h14 h15 h16 h17 h18 h19 h20 v13)), (h20, zi k20 270 f20), (h39, zi k39 40 f39), (h40, zi k40 40 (a6_ 0)), (h36, .inl (k36, 40, .inr (.inr (.inr (.inr f36))))), (h41, zi k41 40 f41), (h31, .inl (k31, 400, .inr (.inr (.inr (.inr f31)))))] ++ pl6) ∧ va_S A s.heap H locs ∧ lv_has ls 6 [(0, .ref h0), (1, .int (u6_ 0)), (2, .int (u6_ 1)), (3, .int (u6_ 2))] ∧ (0 ≤ (u6_ 0).toInt ∧ (u6_ 0).toInt ≤ 40) ∧ ((-1) ≤ (u6_ 1).toInt ∧ (u6_ 1).toInt ≤ 39) ∧ (0 ≤ (u6_ 2).toInt ∧ (u6_ 2).toInt ≤ 299) ∧ (zWki f20 f39 (a6_ 0) (zNvv k41 f36 pl0) (u6_ 0).toInt (u6_ 1).toInt (u6_ 2).toInt) ∧ ((u6_ 2).toInt ≤ (v13 9).toInt) ∧ (zRd h22 f31 pl6) ∧ (zPs k41 f36 pl6) ∧ (zOt pl0 pl6) ∧ (zPe pl0 pl6)) (fun ls u6_ w6_ => F0 m 6 ls []) 0 0 ?_ (fun hJ6 => ?_)
  · skip
    intro H locs ls u6_ w6_ a6_ b6_ hc hJ6
    obtain ⟨q6_, pl6, hP, hD, hS, hl, b_, b_, b_, hI6_0, b_, hI6_2, hI6_3, hI6_4, hI6_5⟩ := hc
    refine lv_iload_n hx hb dX1_works_6 rfl (lv_at hl 3 rfl) ?_
    refine lv_aload_n hx hb dX1_works_7 rfl (lv_at hl 0 rfl) ?_
    refine va_get (D := (dC, dI)) (ci := 1) (v := .ref h13) (C := RX1) (T := TX1) (N := 17) hx hb hG zuX1 hown hK hP 0 rfl rfl 2 (by decide) (hG _ zv506) (fun _ h9 => h9) rfl dX1_works_8 ?_
    have hPc := hP.sub (ws' := [(h13, .inr (7, mX7 h14 h15 h16 h17 h18 h19 h20 v13))]) [1] rfl
    have hDc := hD.sub (ws' := [(h13, .inr (7, mX7 h14 h15 h16 h17 h18 h19 h20 v13))]) [1] (by decide) rfl
    have hKc := hK.sub (tys' := []) [] rfl
    have hFc := va_free (wc := [(h13, .inr (7, mX7 h14 h15 h16 h17 h18 h19 h20 v13))]) hD hS hA [1] rfl
    refine va_calli (va_runV (As := []) (rest := [.int (u6_ 2)]) ⟨hx, hb, hml, hown, hG⟩ (sX7_length_0 l dC dI adK adV h13 h14 h15 h16 h17 h18 h19 h20 H.size v13 hv13) (cwV 0 hG (zgV zv1212 zv1213 zv1214 zv136 zv1215) rfl rfl rfl (by decide +kernel) ⟨Nat.le_of_ble_eq_true rfl, Nat.le_of_ble_eq_true rfl⟩) ⟨zPc_blind, va_recv hKc hPc (ci := 7) (q0 := 0) rfl rfl, zPc_pre hPc hKc hDc hE hS hFc hZ⟩ rfl rfl hl.1 rfl (lv_room (Nat.le_of_ble_eq_true rfl)) dX1_works_11 ⟨Nat.le_of_ble_eq_true rfl, Nat.le_of_ble_eq_true rfl⟩) hS (fun q _ h => hFc q h) hFc (fun r11_ u11_ t H1 locs ht hvm hw hB hz1 hk1 hS => ?_)
    replace hw : (0 ≤ r11_.toInt ∧ r11_.toInt ≤ 270) ∧ (r11_.toInt = (v13 9).toInt) := hw
    obtain ⟨b_, hX11_0⟩ := hw
    obtain ⟨w11_, a11_, b11_, hP1, hK1, hD1⟩ := hB
    rw [ht] at hP1
    obtain ⟨hP, hD⟩ := va_joinQ (wr := [(h0, .inr (1, mX1 h1 h6 h13 h21 h36 h37 h39 h40 h41 h42 h43 h44 h45 h46 h47 h48 v0)), (h20, zi k20 270 f20), (h39, zi k39 40 f39), (h40, zi k40 40 (a6_ 0)), (h36, .inl (k36, 40, .inr (.inr (.inr (.inr f36))))), (h41, zi k41 40 f41), (h31, .inl (k31, 400, .inr (.inr (.inr (.inr f31)))))]) (w1 := [(h13, .inr (7, mX7 h14 h15 h16 h17 h18 h19 h20 v13))]) hP hD [1] [0, 2, 3, 4, 5, 6, 7] rfl rfl (by decide) (by decide) hk1 hFc hP1 hD1
    have hP : va_P (dC, dI) vwCl ([(h0, .inr (1, mX1 h1 h6 h13 h21 h36 h37 h39 h40 h41 h42 h43 h44 h45 h46 h47 h48 v0)), (h13, .inr (7, mX7 h14 h15 h16 h17 h18 h19 h20 v13)), (h20, zi k20 270 f20), (h39, zi k39 40 f39), (h40, zi k40 40 (a6_ 0)), (h36, .inl (k36, 40, .inr (.inr (.inr (.inr f36))))), (h41, zi k41 40 f41), (h31, .inl (k31, 400, .inr (.inr (.inr (.inr f31)))))] ++ pl6) H1 := hP.part [0, 7, 1, 2, 3, 4, 5, 6] rfl
    have hD : va_D A ([(h0, .inr (1, mX1 h1 h6 h13 h21 h36 h37 h39 h40 h41 h42 h43 h44 h45 h46 h47 h48 v0)), (h13, .inr (7, mX7 h14 h15 h16 h17 h18 h19 h20 v13)), (h20, zi k20 270 f20), (h39, zi k39 40 f39), (h40, zi k40 40 (a6_ 0)), (h36, .inl (k36, 40, .inr (.inr (.inr (.inr f36))))), (h41, zi k41 40 f41), (h31, .inl (k31, 400, .inr (.inr (.inr (.inr f31)))))] ++ pl6) := hD.part [0, 7, 1, 2, 3, 4, 5, 6] (by decide) rfl
    generalize H1 = H at hP hS ⊢
    clear hz1
    refine lv_icmp_ge (tgt := 206) hx hb dX1_works_14 (by decide) (fun c_ => ?_) (fun c_ => ?_)
    · skip
      have b_ := zT_ge rfl rfl c_
      refine lv_iload_n hx hb dX1_works_206 rfl (lv_at hl 1 rfl) ?_
      refine lv_iconst (v := 1) hx hb dX1_works_207 (by decide) ?_
      refine lv_icmp_ne (tgt := 224) hx hb dX1_works_208 (by decide) (fun c_ => ?_) (fun c_ => ?_)
      · skip
        have b_ := zT_ne rfl zk_1 c_
        refine lv_iconst (v := 0) hx hb dX1_works_224 (by decide) ?_
        refine W.widen (k := 0) (n := 0) (by decide) (by decide) ?_
        have hpost : (0 ≤ (0 : Int32).toInt ∧ (0 : Int32).toInt ≤ 1) ∧ ((0 : Int32).toInt = 1 ↔ zWke f20 f39 (zNvv k41 f36 pl0) (v13 9).toInt) := ⟨(by first | with_reducible assumption | exact ⟨by omega, by omega⟩), by first | exact zWke_n hI6_0 (by omega) (by omega) (by omega) (by decide) | exact zWke_i hI6_0 (by omega) (by omega) e_z216 (Or.inl ⟨by omega, by omega, by decide⟩) | exact zWke_i hI6_0 (by omega) (by omega) e_z216 (Or.inr ⟨by omega, by omega, by decide⟩)⟩
        have hP9 : va_P (dC, dI) vwCl ([(h0, .inr (1, mX1 h1 h6 h13 h21 h36 h37 h39 h40 h41 h42 h43 h44 h45 h46 h47 h48 v0)), (h13, .inr (7, mX7 h14 h15 h16 h17 h18 h19 h20 v13)), (h20, zi k20 270 f20), (h39, zi k39 40 f39), (h40, zi k40 40 (a6_ 0)), (h36, .inl (k36, 40, .inr (.inr (.inr (.inr f36))))), (h41, zi k41 40 f41), (h31, .inl (k31, 400, .inr (.inr (.inr (.inr f31)))))] ++ pl6) H := hP
        have hD9 : va_D A ([(h0, .inr (1, mX1 h1 h6 h13 h21 h36 h37 h39 h40 h41 h42 h43 h44 h45 h46 h47 h48 v0)), (h13, .inr (7, mX7 h14 h15 h16 h17 h18 h19 h20 v13)), (h20, zi k20 270 f20), (h39, zi k39 40 f39), (h40, zi k40 40 (a6_ 0)), (h36, .inl (k36, 40, .inr (.inr (.inr (.inr f36))))), (h41, zi k41 40 f41), (h31, .inl (k31, 400, .inr (.inr (.inr (.inr f31)))))] ++ pl6) := hD
        have hB0 : zRd h22 f31 pl6 := by assumption
        have hB1 : zPs k41 f36 pl6 := by assumption
        have hB2 : zOt pl0 pl6 := by first | assumption | exact zOt_rf
        have hB3 : zPe pl0 pl6 := by first | assumption | exact zPe_rf
        exact W.zret (v := 0) hx hb hr rfl (fun t ht hW => ⟨⟨0, (fun _ => 0), rfl, hpost, (fun _ => 0), (fun i => ([(a6_ 0)] : List (Nat → Int32)).getD i (fun _ => 0)), (fun _ => (fun _ => 0)), (fun _ => (fun _ => none)), pl6, hB0, hB1, hB2, hB3, by rw [ht]; exact hP9, va_K.moved hW.alike hK, hD9⟩, hS.F ht⟩) hS.2.2 dX1_works_225
      · skip
        have b_ := zF_ne rfl zk_1 c_
        refine lv_aload_n hx hb dX1_works_211 rfl (lv_at hl 0 rfl) ?_
        refine va_get (D := (dC, dI)) (ci := 1) (v := .ref h40) (C := RX1) (T := TX1) (N := 17) hx hb hG zuX1 hown hK hP 0 rfl rfl 7 (by decide) (hG _ zv511) (fun _ h9 => h9) rfl dX1_works_212 ?_
        refine lv_iconst (v := 0) hx hb dX1_works_215 (by decide) ?_
        refine va_zald hx hb hK hP 4 2 rfl rfl (zin_lit (by decide)) dX1_works_216 ?_
        refine lv_topi (fun z216 e_z216 => ?_)
        have b_ : -2147483648 ≤ z216.toInt ∧ z216.toInt ≤ 2147483647 := ⟨zlo _, zhi _⟩
        refine lv_if_eq (tgt := 224) hx hb dX1_works_217 (by decide) (fun c_ => ?_) (fun c_ => ?_)
        · skip
          have b_ := zT_eq rfl zk_0 c_
          refine lv_iconst (v := 0) hx hb dX1_works_224 (by decide) ?_
          refine W.widen (k := 0) (n := 0) (by decide) (by decide) ?_
          have hpost : (0 ≤ (0 : Int32).toInt ∧ (0 : Int32).toInt ≤ 1) ∧ ((0 : Int32).toInt = 1 ↔ zWke f20 f39 (zNvv k41 f36 pl0) (v13 9).toInt) := ⟨(by first | with_reducible assumption | exact ⟨by omega, by omega⟩), by first | exact zWke_n hI6_0 (by omega) (by omega) (by omega) (by decide) | exact zWke_i hI6_0 (by omega) (by omega) e_z216 (Or.inl ⟨by omega, by omega, by decide⟩) | exact zWke_i hI6_0 (by omega) (by omega) e_z216 (Or.inr ⟨by omega, by omega, by decide⟩)⟩
          have hP9 : va_P (dC, dI) vwCl ([(h0, .inr (1, mX1 h1 h6 h13 h21 h36 h37 h39 h40 h41 h42 h43 h44 h45 h46 h47 h48 v0)), (h13, .inr (7, mX7 h14 h15 h16 h17 h18 h19 h20 v13)), (h20, zi k20 270 f20), (h39, zi k39 40 f39), (h40, zi k40 40 (a6_ 0)), (h36, .inl (k36, 40, .inr (.inr (.inr (.inr f36))))), (h41, zi k41 40 f41), (h31, .inl (k31, 400, .inr (.inr (.inr (.inr f31)))))] ++ pl6) H := hP
          have hD9 : va_D A ([(h0, .inr (1, mX1 h1 h6 h13 h21 h36 h37 h39 h40 h41 h42 h43 h44 h45 h46 h47 h48 v0)), (h13, .inr (7, mX7 h14 h15 h16 h17 h18 h19 h20 v13)), (h20, zi k20 270 f20), (h39, zi k39 40 f39), (h40, zi k40 40 (a6_ 0)), (h36, .inl (k36, 40, .inr (.inr (.inr (.inr f36))))), (h41, zi k41 40 f41), (h31, .inl (k31, 400, .inr (.inr (.inr (.inr f31)))))] ++ pl6) := hD
          have hB0 : zRd h22 f31 pl6 := by assumption
          have hB1 : zPs k41 f36 pl6 := by assumption
          have hB2 : zOt pl0 pl6 := by first | assumption | exact zOt_rf
          have hB3 : zPe pl0 pl6 := by first | assumption | exact zPe_rf
          exact W.zret (v := 0) hx hb hr rfl (fun t ht hW => ⟨⟨0, (fun _ => 0), rfl, hpost, (fun _ => 0), (fun i => ([(a6_ 0)] : List (Nat → Int32)).getD i (fun _ => 0)), (fun _ => (fun _ => 0)), (fun _ => (fun _ => none)), pl6, hB0, hB1, hB2, hB3, by rw [ht]; exact hP9, va_K.moved hW.alike hK, hD9⟩, hS.F ht⟩) hS.2.2 dX1_works_225
        · skip
          have b_ := zF_eq rfl zk_0 c_
          refine lv_iconst (v := 1) hx hb dX1_works_220 (by decide) ?_
          refine lv_goto (tgt := 225) hx hb dX1_works_221 (by decide) ?_
          refine W.widen (k := 0) (n := 0) (by decide) (by decide) ?_
          have hpost : (0 ≤ (1 : Int32).toInt ∧ (1 : Int32).toInt ≤ 1) ∧ ((1 : Int32).toInt = 1 ↔ zWke f20 f39 (zNvv k41 f36 pl0) (v13 9).toInt) := ⟨(by first | with_reducible assumption | exact ⟨by omega, by omega⟩), by first | exact zWke_n hI6_0 (by omega) (by omega) (by omega) (by decide) | exact zWke_i hI6_0 (by omega) (by omega) e_z216 (Or.inl ⟨by omega, by omega, by decide⟩) | exact zWke_i hI6_0 (by omega) (by omega) e_z216 (Or.inr ⟨by omega, by omega, by decide⟩)⟩
          have hP9 : va_P (dC, dI) vwCl ([(h0, .inr (1, mX1 h1 h6 h13 h21 h36 h37 h39 h40 h41 h42 h43 h44 h45 h46 h47 h48 v0)), (h13, .inr (7, mX7 h14 h15 h16 h17 h18 h19 h20 v13)), (h20, zi k20 270 f20), (h39, zi k39 40 f39), (h40, zi k40 40 (a6_ 0)), (h36, .inl (k36, 40, .inr (.inr (.inr (.inr f36))))), (h41, zi k41 40 f41), (h31, .inl (k31, 400, .inr (.inr (.inr (.inr f31)))))] ++ pl6) H := hP
          have hD9 : va_D A ([(h0, .inr (1, mX1 h1 h6 h13 h21 h36 h37 h39 h40 h41 h42 h43 h44 h45 h46 h47 h48 v0)), (h13, .inr (7, mX7 h14 h15 h16 h17 h18 h19 h20 v13)), (h20, zi k20 270 f20), (h39, zi k39 40 f39), (h40, zi k40 40 (a6_ 0)), (h36, .inl (k36, 40, .inr (.inr (.inr (.inr f36))))), (h41, zi k41 40 f41), (h31, .inl (k31, 400, .inr (.inr (.inr (.inr f31)))))] ++ pl6) := hD
          have hB0 : zRd h22 f31 pl6 := by assumption
          have hB1 : zPs k41 f36 pl6 := by assumption
          have hB2 : zOt pl0 pl6 := by first | assumption | exact zOt_rf
          have hB3 : zPe pl0 pl6 := by first | assumption | exact zPe_rf
          exact W.zret (v := 1) hx hb hr rfl (fun t ht hW => ⟨⟨1, (fun _ => 0), rfl, hpost, (fun _ => 0), (fun i => ([(a6_ 0)] : List (Nat → Int32)).getD i (fun _ => 0)), (fun _ => (fun _ => 0)), (fun _ => (fun _ => none)), pl6, hB0, hB1, hB2, hB3, by rw [ht]; exact hP9, va_K.moved hW.alike hK, hD9⟩, hS.F ht⟩) hS.2.2 dX1_works_225
    · skip
      have b_ := zF_ge rfl rfl c_
      refine lv_aload_n hx hb dX1_works_17 rfl (lv_at hl 0 rfl) ?_
      refine va_get (D := (dC, dI)) (ci := 1) (v := .ref h13) (C := RX1) (T := TX1) (N := 17) hx hb hG zuX1 hown hK hP 0 rfl rfl 2 (by decide) (hG _ zv506) (fun _ h9 => h9) rfl dX1_works_18 ?_
      refine lv_iload_n hx hb dX1_works_21 rfl (lv_at hl 3 rfl) ?_
      have hPc := hP.sub (ws' := [(h13, .inr (7, mX7 h14 h15 h16 h17 h18 h19 h20 v13)), (h20, zi k20 270 f20)]) [1, 2] rfl
      have hDc := hD.sub (ws' := [(h13, .inr (7, mX7 h14 h15 h16 h17 h18 h19 h20 v13)), (h20, zi k20 270 f20)]) [1, 2] (by decide) rfl
      have hKc := hK.sub (tys' := [(k20, .int)]) [0] rfl
      have hFc := va_free (wc := [(h13, .inr (7, mX7 h14 h15 h16 h17 h18 h19 h20 v13)), (h20, zi k20 270 f20)]) hD hS hA [1, 2] rfl
      refine va_calli (va_runV (As := [.int (u6_ 2)]) (rest := []) ⟨hx, hb, hml, hown, hG⟩ (sX7_stepAt_0 l dC dI adK adV h13 h20 h14 h15 h16 h17 h18 h19 k20 H.size v13 f20 (u6_ 2) hv13 hf20) (cwV 1 hG (zgV zv1302 zv1303 zv1304 zv136 zv1305) rfl rfl rfl (by decide +kernel) ⟨Nat.le_of_ble_eq_true rfl, Nat.le_of_ble_eq_true rfl⟩) ⟨zPc_blind, va_recv hKc hPc (ci := 7) (q0 := 0) rfl rfl, zPc_pre hPc hKc hDc hE hS hFc hZ⟩ rfl rfl hl.1 rfl (lv_room (Nat.le_of_ble_eq_true rfl)) dX1_works_22 ⟨Nat.le_of_ble_eq_true rfl, Nat.le_of_ble_eq_true rfl⟩) hS (fun q _ h => hFc q h) hFc (fun r22_ u22_ t H1 locs ht hvm hw hB hz1 hk1 hS => ?_)
      replace hw : ((-1) ≤ r22_.toInt ∧ r22_.toInt ≤ 12000) ∧ (0 ≤ (u6_ 2).toInt ∧ (u6_ 2).toInt < (v13 9).toInt → 0 ≤ r22_.toInt) ∧ (0 ≤ (u6_ 2).toInt ∧ (u6_ 2).toInt < (v13 9).toInt → r22_.toInt = (f20 (((u6_ 2) : Int32)).toNatClampNeg).toInt) := hw
      obtain ⟨b_, hX22_0, hX22_1⟩ := hw
      obtain ⟨w22_, a22_, b22_, hP1, hK1, hD1⟩ := hB
      rw [ht] at hP1
      obtain ⟨hP, hD⟩ := va_joinQ (wr := [(h0, .inr (1, mX1 h1 h6 h13 h21 h36 h37 h39 h40 h41 h42 h43 h44 h45 h46 h47 h48 v0)), (h39, zi k39 40 f39), (h40, zi k40 40 (a6_ 0)), (h36, .inl (k36, 40, .inr (.inr (.inr (.inr f36))))), (h41, zi k41 40 f41), (h31, .inl (k31, 400, .inr (.inr (.inr (.inr f31)))))]) (w1 := [(h13, .inr (7, mX7 h14 h15 h16 h17 h18 h19 h20 v13)), (h20, zi k20 270 f20)]) hP hD [1, 2] [0, 3, 4, 5, 6, 7] rfl rfl (by decide) (by decide) hk1 hFc hP1 hD1
      have hP : va_P (dC, dI) vwCl ([(h0, .inr (1, mX1 h1 h6 h13 h21 h36 h37 h39 h40 h41 h42 h43 h44 h45 h46 h47 h48 v0)), (h13, .inr (7, mX7 h14 h15 h16 h17 h18 h19 h20 v13)), (h20, zi k20 270 f20), (h39, zi k39 40 f39), (h40, zi k40 40 (a6_ 0)), (h36, .inl (k36, 40, .inr (.inr (.inr (.inr f36))))), (h41, zi k41 40 f41), (h31, .inl (k31, 400, .inr (.inr (.inr (.inr f31)))))] ++ pl6) H1 := hP.part [0, 6, 7, 1, 2, 3, 4, 5] rfl
      have hD : va_D A ([(h0, .inr (1, mX1 h1 h6 h13 h21 h36 h37 h39 h40 h41 h42 h43 h44 h45 h46 h47 h48 v0)), (h13, .inr (7, mX7 h14 h15 h16 h17 h18 h19 h20 v13)), (h20, zi k20 270 f20), (h39, zi k39 40 f39), (h40, zi k40 40 (a6_ 0)), (h36, .inl (k36, 40, .inr (.inr (.inr (.inr f36))))), (h41, zi k41 40 f41), (h31, .inl (k31, 400, .inr (.inr (.inr (.inr f31)))))] ++ pl6) := hD.part [0, 6, 7, 1, 2, 3, 4, 5] (by decide) rfl
      generalize H1 = H at hP hS ⊢
      clear hz1
      have b_ : 0 ≤ r22_.toInt ∧ r22_.toInt ≤ 12000 := ⟨by omega, by omega⟩
      refine lv_sipush (v := 1000) hx hb dX1_works_25 (by decide) ?_
      refine lv_idiv hx hb dX1_works_28 (by decide) ?_
      refine lv_topi (fun z28 e_z28 => ?_)
      have b_ := zdiv rfl zk_1000 e_z28 (by omega) (by decide)
      refine lv_istore (lv' := [(4, .int z28), (0, .ref h0), (1, .int (u6_ 0)), (2, .int (u6_ 1)), (3, .int (u6_ 2))]) hx hb dX1_works_29 hl (by decide) rfl (fun ls hl => ?_)
      refine lv_aload_n hx hb dX1_works_31 rfl (lv_at hl 1 rfl) ?_
      refine va_get (D := (dC, dI)) (ci := 1) (v := .ref h13) (C := RX1) (T := TX1) (N := 17) hx hb hG zuX1 hown hK hP 0 rfl rfl 2 (by decide) (hG _ zv506) (fun _ h9 => h9) rfl dX1_works_32 ?_
      refine lv_iload_n hx hb dX1_works_35 rfl (lv_at hl 4 rfl) ?_
      have hPc := hP.sub (ws' := [(h13, .inr (7, mX7 h14 h15 h16 h17 h18 h19 h20 v13)), (h20, zi k20 270 f20)]) [1, 2] rfl
      have hDc := hD.sub (ws' := [(h13, .inr (7, mX7 h14 h15 h16 h17 h18 h19 h20 v13)), (h20, zi k20 270 f20)]) [1, 2] (by decide) rfl
      have hKc := hK.sub (tys' := [(k20, .int)]) [0] rfl
      have hFc := va_free (wc := [(h13, .inr (7, mX7 h14 h15 h16 h17 h18 h19 h20 v13)), (h20, zi k20 270 f20)]) hD hS hA [1, 2] rfl
      refine va_calli (va_runV (As := [.int (u6_ 2)]) (rest := []) ⟨hx, hb, hml, hown, hG⟩ (sX7_stepAt_0 l dC dI adK adV h13 h20 h14 h15 h16 h17 h18 h19 k20 H.size v13 f20 (u6_ 2) hv13 hf20) (cwV 1 hG (zgV zv1302 zv1303 zv1304 zv136 zv1305) rfl rfl rfl (by decide +kernel) ⟨Nat.le_of_ble_eq_true rfl, Nat.le_of_ble_eq_true rfl⟩) ⟨zPc_blind, va_recv hKc hPc (ci := 7) (q0 := 0) rfl rfl, zPc_pre hPc hKc hDc hE hS hFc hZ⟩ rfl rfl hl.1 rfl (lv_room (Nat.le_of_ble_eq_true rfl)) dX1_works_36 ⟨Nat.le_of_ble_eq_true rfl, Nat.le_of_ble_eq_true rfl⟩) hS (fun q _ h => hFc q h) hFc (fun r36_ u36_ t H1 locs ht hvm hw hB hz1 hk1 hS => ?_)
      replace hw : ((-1) ≤ r36_.toInt ∧ r36_.toInt ≤ 12000) ∧ (0 ≤ (u6_ 2).toInt ∧ (u6_ 2).toInt < (v13 9).toInt → 0 ≤ r36_.toInt) ∧ (0 ≤ (u6_ 2).toInt ∧ (u6_ 2).toInt < (v13 9).toInt → r36_.toInt = (f20 (((u6_ 2) : Int32)).toNatClampNeg).toInt) := hw
      obtain ⟨b_, hX36_0, hX36_1⟩ := hw
      obtain ⟨w36_, a36_, b36_, hP1, hK1, hD1⟩ := hB
      rw [ht] at hP1
      obtain ⟨hP, hD⟩ := va_joinQ (wr := [(h0, .inr (1, mX1 h1 h6 h13 h21 h36 h37 h39 h40 h41 h42 h43 h44 h45 h46 h47 h48 v0)), (h39, zi k39 40 f39), (h40, zi k40 40 (a6_ 0)), (h36, .inl (k36, 40, .inr (.inr (.inr (.inr f36))))), (h41, zi k41 40 f41), (h31, .inl (k31, 400, .inr (.inr (.inr (.inr f31)))))]) (w1 := [(h13, .inr (7, mX7 h14 h15 h16 h17 h18 h19 h20 v13)), (h20, zi k20 270 f20)]) hP hD [1, 2] [0, 3, 4, 5, 6, 7] rfl rfl (by decide) (by decide) hk1 hFc hP1 hD1
      have hP : va_P (dC, dI) vwCl ([(h0, .inr (1, mX1 h1 h6 h13 h21 h36 h37 h39 h40 h41 h42 h43 h44 h45 h46 h47 h48 v0)), (h13, .inr (7, mX7 h14 h15 h16 h17 h18 h19 h20 v13)), (h20, zi k20 270 f20), (h39, zi k39 40 f39), (h40, zi k40 40 (a6_ 0)), (h36, .inl (k36, 40, .inr (.inr (.inr (.inr f36))))), (h41, zi k41 40 f41), (h31, .inl (k31, 400, .inr (.inr (.inr (.inr f31)))))] ++ pl6) H1 := hP.part [0, 6, 7, 1, 2, 3, 4, 5] rfl
      have hD : va_D A ([(h0, .inr (1, mX1 h1 h6 h13 h21 h36 h37 h39 h40 h41 h42 h43 h44 h45 h46 h47 h48 v0)), (h13, .inr (7, mX7 h14 h15 h16 h17 h18 h19 h20 v13)), (h20, zi k20 270 f20), (h39, zi k39 40 f39), (h40, zi k40 40 (a6_ 0)), (h36, .inl (k36, 40, .inr (.inr (.inr (.inr f36))))), (h41, zi k41 40 f41), (h31, .inl (k31, 400, .inr (.inr (.inr (.inr f31)))))] ++ pl6) := hD.part [0, 6, 7, 1, 2, 3, 4, 5] (by decide) rfl
      generalize H1 = H at hP hS ⊢
      clear hz1
      have b_ : 0 ≤ r36_.toInt ∧ r36_.toInt ≤ 12000 := ⟨by omega, by omega⟩
      refine lv_sipush (v := 1000) hx hb dX1_works_39 (by decide) ?_
      refine lv_irem hx hb dX1_works_42 (by decide) ?_
      refine lv_topi (fun z42 e_z42 => ?_)
      have b_ := zrem rfl zk_1000 e_z42 (by omega) (by decide)
      refine lv_istore (lv' := [(5, .int z42), (4, .int z28), (0, .ref h0), (1, .int (u6_ 0)), (2, .int (u6_ 1)), (3, .int (u6_ 2))]) hx hb dX1_works_43 hl (by decide) rfl (fun ls hl => ?_)
      have hwj9 : zWkj f20 f39 (a6_ 0) (zNvv k41 f36 pl0) (u6_ 0).toInt (u6_ 1).toInt (u6_ 2).toInt z28.toInt z42.toInt := zWkj_i (h' := (v13 9).toInt) hI6_0 (by omega) hX22_1 hX36_1 (by omega) (by omega)
      refine lv_iload hx hb dX1_works_45 (lv_at hl 1 rfl) ?_
      refine lv_iconst (v := 4) hx hb dX1_works_47 (by decide) ?_
      refine zcutW (fun H locs ls u85_ w85_ a85_ b85_ => ∃ (q85_ : Nat → Nat → Option Nat) (pl85 : va_W), va_P (dC, dI) vwCl ([(h0, .inr (1, mX1 h1 h6 h13 h21 h36 h37 h39 h40 h41 h42 h43 h44 h45 h46 h47 h48 v0)), (h13, .inr (7, mX7 h14 h15 h16 h17 h18 h19 h20 v13)), (h20, zi k20 270 f20), (h39, zi k39 40 f39), (h40, zi k40 40 (a6_ 0)), (h36, .inl (k36, 40, .inr (.inr (.inr (.inr f36))))), (h41, zi k41 40 f41), (h31, .inl (k31, 400, .inr (.inr (.inr (.inr f31)))))] ++ pl85) H ∧ va_D A ([(h0, .inr (1, mX1 h1 h6 h13 h21 h36 h37 h39 h40 h41 h42 h43 h44 h45 h46 h47 h48 v0)), (h13, .inr (7, mX7 h14 h15 h16 h17 h18 h19 h20 v13)), (h20, zi k20 270 f20), (h39, zi k39 40 f39), (h40, zi k40 40 (a6_ 0)), (h36, .inl (k36, 40, .inr (.inr (.inr (.inr f36))))), (h41, zi k41 40 f41), (h31, .inl (k31, 400, .inr (.inr (.inr (.inr f31)))))] ++ pl85) ∧ va_S A s.heap H locs ∧ lv_has ls 6 [(0, .ref h0), (1, .int (u6_ 0)), (2, .int (u6_ 1)), (3, .int (u6_ 2)), (4, .int z28), (5, .int z42)] ∧ (0 ≤ z28.toInt ∧ z28.toInt ≤ 12) ∧ (zWkj f20 f39 (a6_ 0) (zNvv k41 f36 pl0) (u6_ 0).toInt (u6_ 1).toInt (u6_ 2).toInt z28.toInt z42.toInt) ∧ (4 < z28.toInt ∨ 40 ≤ (u6_ 0).toInt ∨ 40 ≤ z42.toInt) ∧ (zRd h22 f31 pl85) ∧ (zPs k41 f36 pl85) ∧ (zOt pl0 pl85) ∧ (zPe pl0 pl85)) (fun ls u85_ w85_ => F0 m 85 ls []) 0 0 ?_ (fun hJ85 => ?_)
      · skip
        intro H locs ls u85_ w85_ a85_ b85_ hc
        obtain ⟨q85_, pl85, hP, hD, hS, hl, b_, hI85_0, b_, hI85_2, hI85_3, hI85_4, hI85_5⟩ := hc
        refine lv_iload hx hb dX1_works_85 (lv_at hl 4 rfl) ?_
        refine lv_bipush (v := 10) hx hb dX1_works_87 (by decide) ?_
        refine zcutW (fun H locs ls u123_ w123_ a123_ b123_ => ∃ (q123_ : Nat → Nat → Option Nat) (pl123 : va_W), va_P (dC, dI) vwCl ([(h0, .inr (1, mX1 h1 h6 h13 h21 h36 h37 h39 h40 h41 h42 h43 h44 h45 h46 h47 h48 v0)), (h13, .inr (7, mX7 h14 h15 h16 h17 h18 h19 h20 v13)), (h20, zi k20 270 f20), (h39, zi k39 40 f39), (h40, zi k40 40 (a6_ 0)), (h36, .inl (k36, 40, .inr (.inr (.inr (.inr f36))))), (h41, zi k41 40 f41), (h31, .inl (k31, 400, .inr (.inr (.inr (.inr f31)))))] ++ pl123) H ∧ va_D A ([(h0, .inr (1, mX1 h1 h6 h13 h21 h36 h37 h39 h40 h41 h42 h43 h44 h45 h46 h47 h48 v0)), (h13, .inr (7, mX7 h14 h15 h16 h17 h18 h19 h20 v13)), (h20, zi k20 270 f20), (h39, zi k39 40 f39), (h40, zi k40 40 (a6_ 0)), (h36, .inl (k36, 40, .inr (.inr (.inr (.inr f36))))), (h41, zi k41 40 f41), (h31, .inl (k31, 400, .inr (.inr (.inr (.inr f31)))))] ++ pl123) ∧ va_S A s.heap H locs ∧ lv_has ls 6 [(0, .ref h0), (1, .int (u6_ 0)), (2, .int (u6_ 1)), (3, .int (u6_ 2)), (4, .int z28), (5, .int z42)] ∧ (zWkj f20 f39 (a6_ 0) (zNvv k41 f36 pl0) (u6_ 0).toInt (u6_ 1).toInt (u6_ 2).toInt z28.toInt z42.toInt) ∧ (4 < z28.toInt ∨ 40 ≤ (u6_ 0).toInt ∨ 40 ≤ z42.toInt) ∧ (z28.toInt ≠ 10 ∨ (u6_ 0).toInt ≤ 0) ∧ (zRd h22 f31 pl123) ∧ (zPs k41 f36 pl123) ∧ (zOt pl0 pl123) ∧ (zPe pl0 pl123)) (fun ls u123_ w123_ => F0 m 123 ls []) 0 0 ?_ (fun hJ123 => ?_)
        · skip
          intro H locs ls u123_ w123_ a123_ b123_ hc
          obtain ⟨q123_, pl123, hP, hD, hS, hl, hI123_0, b_, b_, hI123_3, hI123_4, hI123_5, hI123_6⟩ := hc
          refine lv_iload hx hb dX1_works_123 (lv_at hl 4 rfl) ?_
          refine lv_iconst (v := 5) hx hb dX1_works_125 (by decide) ?_
          refine zcutW (fun H locs ls u158_ w158_ a158_ b158_ => ∃ (q158_ : Nat → Nat → Option Nat) (pl158 : va_W), va_P (dC, dI) vwCl ([(h0, .inr (1, mX1 h1 h6 h13 h21 h36 h37 h39 h40 h41 h42 h43 h44 h45 h46 h47 h48 v0)), (h13, .inr (7, mX7 h14 h15 h16 h17 h18 h19 h20 v13)), (h20, zi k20 270 f20), (h39, zi k39 40 f39), (h40, zi k40 40 (a6_ 0)), (h36, .inl (k36, 40, .inr (.inr (.inr (.inr f36))))), (h41, zi k41 40 f41), (h31, .inl (k31, 400, .inr (.inr (.inr (.inr f31)))))] ++ pl158) H ∧ va_D A ([(h0, .inr (1, mX1 h1 h6 h13 h21 h36 h37 h39 h40 h41 h42 h43 h44 h45 h46 h47 h48 v0)), (h13, .inr (7, mX7 h14 h15 h16 h17 h18 h19 h20 v13)), (h20, zi k20 270 f20), (h39, zi k39 40 f39), (h40, zi k40 40 (a6_ 0)), (h36, .inl (k36, 40, .inr (.inr (.inr (.inr f36))))), (h41, zi k41 40 f41), (h31, .inl (k31, 400, .inr (.inr (.inr (.inr f31)))))] ++ pl158) ∧ va_S A s.heap H locs ∧ lv_has ls 6 [(0, .ref h0), (1, .int (u6_ 0)), (2, .int (u6_ 1)), (3, .int (u6_ 2)), (4, .int z28), (5, .int z42)] ∧ (zWkj f20 f39 (a6_ 0) (zNvv k41 f36 pl0) (u6_ 0).toInt (u6_ 1).toInt (u6_ 2).toInt z28.toInt z42.toInt) ∧ (4 < z28.toInt ∨ 40 ≤ (u6_ 0).toInt ∨ 40 ≤ z42.toInt) ∧ (z28.toInt ≠ 10 ∨ (u6_ 0).toInt ≤ 0) ∧ (z28.toInt ≠ 5 ∨ (u6_ 0).toInt ≤ 1) ∧ (zRd h22 f31 pl158) ∧ (zPs k41 f36 pl158) ∧ (zOt pl0 pl158) ∧ (zPe pl0 pl158)) (fun ls u158_ w158_ => F0 m 158 ls []) 0 0 ?_ (fun hJ158 => ?_)
          · skip
            intro H locs ls u158_ w158_ a158_ b158_ hc
            obtain ⟨q158_, pl158, hP, hD, hS, hl, hI158_0, b_, b_, b_, hI158_4, hI158_5, hI158_6, hI158_7⟩ := hc
            refine lv_iload hx hb dX1_works_158 (lv_at hl 4 rfl) ?_
            refine lv_bipush (v := 8) hx hb dX1_works_160 (by decide) ?_
            refine lv_icmp_lt (tgt := 200) hx hb dX1_works_162 (by decide) (fun c_ => ?_) (fun c_ => ?_)
            · skip
              have b_ := zT_lt rfl zk_8 c_
              obtain ⟨z200, e_z200⟩ : ∃ z : Int32, z = (u6_ 2) + Int32.ofInt 1 := ⟨_, rfl⟩
              have b_ := zadd (x := (u6_ 2)) (y := Int32.ofInt 1) rfl (show (Int32.ofInt 1).toInt = 1 from by decide) e_z200 (by omega) (by omega)
              refine lv_iinc (v := z200) (lv' := [(3, .int z200), (0, .ref h0), (1, .int (u6_ 0)), (2, .int (u6_ 1)), (4, .int z28), (5, .int z42)]) hx hb dX1_works_200 hl (k := 3) rfl e_z200.symm (by decide) rfl (fun ls hl => ?_)
              have hwk9 : zWki f20 f39 (a6_ 0) (zNvv k41 f36 pl0) (u6_ 0).toInt (u6_ 1).toInt z200.toInt := zWki_k hI158_0 (by omega) (by omega) (by omega) (by omega) (by omega)
              refine lv_goto (tgt := 6) hx hb dX1_works_203 (by decide) ?_
              have hc : va_P (dC, dI) vwCl ([(h0, .inr (1, mX1 h1 h6 h13 h21 h36 h37 h39 h40 h41 h42 h43 h44 h45 h46 h47 h48 v0)), (h13, .inr (7, mX7 h14 h15 h16 h17 h18 h19 h20 v13)), (h20, zi k20 270 f20), (h39, zi k39 40 f39), (h40, zi k40 40 (a6_ 0)), (h36, .inl (k36, 40, .inr (.inr (.inr (.inr f36))))), (h41, zi k41 40 f41), (h31, .inl (k31, 400, .inr (.inr (.inr (.inr f31)))))] ++ pl158) H ∧ va_D A ([(h0, .inr (1, mX1 h1 h6 h13 h21 h36 h37 h39 h40 h41 h42 h43 h44 h45 h46 h47 h48 v0)), (h13, .inr (7, mX7 h14 h15 h16 h17 h18 h19 h20 v13)), (h20, zi k20 270 f20), (h39, zi k39 40 f39), (h40, zi k40 40 (a6_ 0)), (h36, .inl (k36, 40, .inr (.inr (.inr (.inr f36))))), (h41, zi k41 40 f41), (h31, .inl (k31, 400, .inr (.inr (.inr (.inr f31)))))] ++ pl158) ∧ va_S A s.heap H locs ∧ lv_has ls 6 [(0, .ref h0), (1, .int (u6_ 0)), (2, .int (u6_ 1)), (3, .int z200)] ∧ (0 ≤ (u6_ 0).toInt ∧ (u6_ 0).toInt ≤ 40) ∧ ((-1) ≤ (u6_ 1).toInt ∧ (u6_ 1).toInt ≤ 39) ∧ (0 ≤ z200.toInt ∧ z200.toInt ≤ 299) ∧ (zWki f20 f39 (a6_ 0) (zNvv k41 f36 pl0) (u6_ 0).toInt (u6_ 1).toInt z200.toInt) ∧ (z200.toInt ≤ (v13 9).toInt) ∧ (zRd h22 f31 pl158) ∧ (zPs k41 f36 pl158) ∧ (zOt pl0 pl158) ∧ (zPe pl0 pl158) := ⟨hP, hD, hS, lv_sub hl [1, 2, 3, 0] rfl, (by first | with_reducible assumption | exact ⟨by omega, by omega⟩), (by first | with_reducible assumption | exact ⟨by omega, by omega⟩), (by first | with_reducible assumption | exact ⟨by omega, by omega⟩), by first | exact hwk9 | exact zWki_0 (by decide) (by decide) (by decide), by omega, by assumption, by assumption, by first | assumption | exact zOt_rf, by first | assumption | exact zPe_rf⟩
              exact hJ6 H locs ls (fun i => ([(u6_ 0), (u6_ 1), z200] : List (Int32)).getD i 0) (fun _ => 0) (fun i => ([(a6_ 0)] : List (Nat → Int32)).getD i (fun _ => 0)) (fun _ => (fun _ => 0)) ⟨(fun _ => (fun _ => none)), pl158, hc⟩ (show (299 - z200.toInt).toNat < (299 - (u6_ 2).toInt).toNat from by omega)
            · skip
              have b_ := zF_lt rfl zk_8 c_
              refine lv_iload_n hx hb dX1_works_165 rfl (lv_at hl 1 rfl) ?_
              refine lv_iconst (v := 1) hx hb dX1_works_166 (by decide) ?_
              refine lv_icmp_le (tgt := 200) hx hb dX1_works_167 (by decide) (fun c_ => ?_) (fun c_ => ?_)
              · skip
                have b_ := zT_le rfl zk_1 c_
                obtain ⟨z200, e_z200⟩ : ∃ z : Int32, z = (u6_ 2) + Int32.ofInt 1 := ⟨_, rfl⟩
                have b_ := zadd (x := (u6_ 2)) (y := Int32.ofInt 1) rfl (show (Int32.ofInt 1).toInt = 1 from by decide) e_z200 (by omega) (by omega)
                refine lv_iinc (v := z200) (lv' := [(3, .int z200), (0, .ref h0), (1, .int (u6_ 0)), (2, .int (u6_ 1)), (4, .int z28), (5, .int z42)]) hx hb dX1_works_200 hl (k := 3) rfl e_z200.symm (by decide) rfl (fun ls hl => ?_)
                have hwk9 : zWki f20 f39 (a6_ 0) (zNvv k41 f36 pl0) (u6_ 0).toInt (u6_ 1).toInt z200.toInt := zWki_k hI158_0 (by omega) (by omega) (by omega) (by omega) (by omega)
                refine lv_goto (tgt := 6) hx hb dX1_works_203 (by decide) ?_
                have hc : va_P (dC, dI) vwCl ([(h0, .inr (1, mX1 h1 h6 h13 h21 h36 h37 h39 h40 h41 h42 h43 h44 h45 h46 h47 h48 v0)), (h13, .inr (7, mX7 h14 h15 h16 h17 h18 h19 h20 v13)), (h20, zi k20 270 f20), (h39, zi k39 40 f39), (h40, zi k40 40 (a6_ 0)), (h36, .inl (k36, 40, .inr (.inr (.inr (.inr f36))))), (h41, zi k41 40 f41), (h31, .inl (k31, 400, .inr (.inr (.inr (.inr f31)))))] ++ pl158) H ∧ va_D A ([(h0, .inr (1, mX1 h1 h6 h13 h21 h36 h37 h39 h40 h41 h42 h43 h44 h45 h46 h47 h48 v0)), (h13, .inr (7, mX7 h14 h15 h16 h17 h18 h19 h20 v13)), (h20, zi k20 270 f20), (h39, zi k39 40 f39), (h40, zi k40 40 (a6_ 0)), (h36, .inl (k36, 40, .inr (.inr (.inr (.inr f36))))), (h41, zi k41 40 f41), (h31, .inl (k31, 400, .inr (.inr (.inr (.inr f31)))))] ++ pl158) ∧ va_S A s.heap H locs ∧ lv_has ls 6 [(0, .ref h0), (1, .int (u6_ 0)), (2, .int (u6_ 1)), (3, .int z200)] ∧ (0 ≤ (u6_ 0).toInt ∧ (u6_ 0).toInt ≤ 40) ∧ ((-1) ≤ (u6_ 1).toInt ∧ (u6_ 1).toInt ≤ 39) ∧ (0 ≤ z200.toInt ∧ z200.toInt ≤ 299) ∧ (zWki f20 f39 (a6_ 0) (zNvv k41 f36 pl0) (u6_ 0).toInt (u6_ 1).toInt z200.toInt) ∧ (z200.toInt ≤ (v13 9).toInt) ∧ (zRd h22 f31 pl158) ∧ (zPs k41 f36 pl158) ∧ (zOt pl0 pl158) ∧ (zPe pl0 pl158) := ⟨hP, hD, hS, lv_sub hl [1, 2, 3, 0] rfl, (by first | with_reducible assumption | exact ⟨by omega, by omega⟩), (by first | with_reducible assumption | exact ⟨by omega, by omega⟩), (by first | with_reducible assumption | exact ⟨by omega, by omega⟩), by first | exact hwk9 | exact zWki_0 (by decide) (by decide) (by decide), by omega, by assumption, by assumption, by first | assumption | exact zOt_rf, by first | assumption | exact zPe_rf⟩
                exact hJ6 H locs ls (fun i => ([(u6_ 0), (u6_ 1), z200] : List (Int32)).getD i 0) (fun _ => 0) (fun i => ([(a6_ 0)] : List (Nat → Int32)).getD i (fun _ => 0)) (fun _ => (fun _ => 0)) ⟨(fun _ => (fun _ => none)), pl158, hc⟩ (show (299 - z200.toInt).toNat < (299 - (u6_ 2).toInt).toNat from by omega)
              · skip
                have b_ := zF_le rfl zk_1 c_
                obtain ⟨z170, e_z170⟩ : ∃ z : Int32, z = (u6_ 0) + Int32.ofInt (-1) := ⟨_, rfl⟩
                have b_ := zadd (x := (u6_ 0)) (y := Int32.ofInt (-1)) rfl (show (Int32.ofInt (-1)).toInt = (-1) from by decide) e_z170 (by omega) (by omega)
                refine lv_iinc (v := z170) (lv' := [(1, .int z170), (0, .ref h0), (2, .int (u6_ 1)), (3, .int (u6_ 2)), (4, .int z28), (5, .int z42)]) hx hb dX1_works_170 hl (k := 1) rfl e_z170.symm (by decide) rfl (fun ls hl => ?_)
                refine lv_aload_n hx hb dX1_works_173 rfl (lv_at hl 1 rfl) ?_
                refine va_get (D := (dC, dI)) (ci := 1) (v := .ref h40) (C := RX1) (T := TX1) (N := 17) hx hb hG zuX1 hown hK hP 0 rfl rfl 7 (by decide) (hG _ zv511) (fun _ h9 => h9) rfl dX1_works_174 ?_
                refine lv_iload_n hx hb dX1_works_177 rfl (lv_at hl 0 rfl) ?_
                refine lv_iconst (v := 1) hx hb dX1_works_178 (by decide) ?_
                refine lv_isub hx hb dX1_works_179 ?_
                refine lv_topi (fun z179 e_z179 => ?_)
                have b_ := zsub rfl zk_1 e_z179 (by omega) (by omega)
                refine lv_iload hx hb dX1_works_180 (lv_at hl 4 rfl) ?_
                refine lv_aload_n hx hb dX1_works_182 rfl (lv_at hl 1 rfl) ?_
                refine va_get (D := (dC, dI)) (ci := 1) (v := .ref h40) (C := RX1) (T := TX1) (N := 17) hx hb hG zuX1 hown hK hP 0 rfl rfl 7 (by decide) (hG _ zv511) (fun _ h9 => h9) rfl dX1_works_183 ?_
                refine lv_iload_n hx hb dX1_works_186 rfl (lv_at hl 0 rfl) ?_
                refine lv_iconst (v := 1) hx hb dX1_works_187 (by decide) ?_
                refine lv_isub hx hb dX1_works_188 ?_
                refine lv_topi (fun z188 e_z188 => ?_)
                have b_ := zsub rfl zk_1 e_z188 (by omega) (by omega)
                refine va_zald hx hb hK hP 4 2 rfl rfl (zin_lit ⟨by omega, by omega⟩) dX1_works_189 ?_
                refine lv_topi (fun z189 e_z189 => ?_)
                refine lv_aload_n hx hb dX1_works_190 rfl (lv_at hl 1 rfl) ?_
                refine va_get (D := (dC, dI)) (ci := 1) (v := .ref h40) (C := RX1) (T := TX1) (N := 17) hx hb hG zuX1 hown hK hP 0 rfl rfl 7 (by decide) (hG _ zv511) (fun _ h9 => h9) rfl dX1_works_191 ?_
                refine lv_iload_n hx hb dX1_works_194 rfl (lv_at hl 0 rfl) ?_
                refine va_zald hx hb hK hP 4 2 rfl rfl (zin_lit ⟨by omega, by omega⟩) dX1_works_195 ?_
                refine lv_topi (fun z195 e_z195 => ?_)
                have hPc := hP.sub (ws' := []) [] rfl
                have hDc := hD.sub (ws' := []) [] (by decide) rfl
                have hKc := hK.sub (tys' := []) [] rfl
                have hFc := va_free (wc := []) hD hS hA [] rfl
                refine va_calli (va_runS (As := [.int z28, .int z189, .int z195]) (rest := [.int z179, .ref h40]) ⟨hx, hb, hml, hown, hG⟩ (sX1_joined_0 l dC dI adK adV H.size z28 z189 z195) (va_cwS 3 hG (zgS zv1322 zv1323 zv138 zv1324) rfl rfl rfl (by decide +kernel) ⟨Nat.le_of_ble_eq_true rfl, Nat.le_of_ble_eq_true rfl⟩) ⟨zPc_blind, zPc_pre hPc hKc hDc hE hS hFc hZ⟩ rfl rfl hl.1 rfl (lv_room (Nat.le_of_ble_eq_true rfl)) dX1_works_196 ⟨Nat.le_of_ble_eq_true rfl, Nat.le_of_ble_eq_true rfl⟩) hS (fun q _ h => hFc q h) hFc (fun r196_ u196_ t H1 locs ht hvm hw hB hz1 hk1 hS => ?_)
                replace hw : (0 ≤ r196_.toInt ∧ r196_.toInt ≤ 1) ∧ (r196_.toInt = 1 ↔ zjd z28.toInt (z189.toInt ≠ 0) (z195.toInt ≠ 0)) := hw
                obtain ⟨b_, hX196_0⟩ := hw
                obtain ⟨w196_, a196_, b196_, hP1, hK1, hD1⟩ := hB
                rw [ht] at hP1
                obtain ⟨hP, hD⟩ := va_joinQ (wr := [(h0, .inr (1, mX1 h1 h6 h13 h21 h36 h37 h39 h40 h41 h42 h43 h44 h45 h46 h47 h48 v0)), (h13, .inr (7, mX7 h14 h15 h16 h17 h18 h19 h20 v13)), (h20, zi k20 270 f20), (h39, zi k39 40 f39), (h40, zi k40 40 (a6_ 0)), (h36, .inl (k36, 40, .inr (.inr (.inr (.inr f36))))), (h41, zi k41 40 f41), (h31, .inl (k31, 400, .inr (.inr (.inr (.inr f31)))))]) (w1 := []) hP hD [] [0, 1, 2, 3, 4, 5, 6, 7] rfl rfl (by decide) (by decide) hk1 hFc hP1 hD1
                have hP : va_P (dC, dI) vwCl ([(h0, .inr (1, mX1 h1 h6 h13 h21 h36 h37 h39 h40 h41 h42 h43 h44 h45 h46 h47 h48 v0)), (h13, .inr (7, mX7 h14 h15 h16 h17 h18 h19 h20 v13)), (h20, zi k20 270 f20), (h39, zi k39 40 f39), (h40, zi k40 40 (a6_ 0)), (h36, .inl (k36, 40, .inr (.inr (.inr (.inr f36))))), (h41, zi k41 40 f41), (h31, .inl (k31, 400, .inr (.inr (.inr (.inr f31)))))] ++ pl158) H1 := hP.part [0, 1, 2, 3, 4, 5, 6, 7] rfl
                have hD : va_D A ([(h0, .inr (1, mX1 h1 h6 h13 h21 h36 h37 h39 h40 h41 h42 h43 h44 h45 h46 h47 h48 v0)), (h13, .inr (7, mX7 h14 h15 h16 h17 h18 h19 h20 v13)), (h20, zi k20 270 f20), (h39, zi k39 40 f39), (h40, zi k40 40 (a6_ 0)), (h36, .inl (k36, 40, .inr (.inr (.inr (.inr f36))))), (h41, zi k41 40 f41), (h31, .inl (k31, 400, .inr (.inr (.inr (.inr f31)))))] ++ pl158) := hD.part [0, 1, 2, 3, 4, 5, 6, 7] (by decide) rfl
                generalize H1 = H at hP hS ⊢
                clear hz1
                refine va_zast hx hb hK hP hD hS 4 2 rfl rfl (zin_lit ⟨by omega, by omega⟩) dX1_works_199 (fun H locs hP hD hS => ?_)
                obtain ⟨f_199, e_f_199⟩ : ∃ z : Nat → Int32, z = upd (a6_ 0) (z179 : Int32).toNatClampNeg (vp_nar .boolean r196_) := ⟨_, rfl⟩
                have hP : va_P (dC, dI) vwCl ([(h0, .inr (1, mX1 h1 h6 h13 h21 h36 h37 h39 h40 h41 h42 h43 h44 h45 h46 h47 h48 v0)), (h13, .inr (7, mX7 h14 h15 h16 h17 h18 h19 h20 v13)), (h20, zi k20 270 f20), (h39, zi k39 40 f39), (h40, zi k40 40 f_199), (h36, .inl (k36, 40, .inr (.inr (.inr (.inr f36))))), (h41, zi k41 40 f41), (h31, .inl (k31, 400, .inr (.inr (.inr (.inr f31)))))] ++ pl158) H := by rw [e_f_199]; exact hP
                have hD : va_D A ([(h0, .inr (1, mX1 h1 h6 h13 h21 h36 h37 h39 h40 h41 h42 h43 h44 h45 h46 h47 h48 v0)), (h13, .inr (7, mX7 h14 h15 h16 h17 h18 h19 h20 v13)), (h20, zi k20 270 f20), (h39, zi k39 40 f39), (h40, zi k40 40 f_199), (h36, .inl (k36, 40, .inr (.inr (.inr (.inr f36))))), (h41, zi k41 40 f41), (h31, .inl (k31, 400, .inr (.inr (.inr (.inr f31)))))] ++ pl158) := by rw [e_f_199]; exact hD
                obtain ⟨z200, e_z200⟩ : ∃ z : Int32, z = (u6_ 2) + Int32.ofInt 1 := ⟨_, rfl⟩
                have b_ := zadd (x := (u6_ 2)) (y := Int32.ofInt 1) rfl (show (Int32.ofInt 1).toInt = 1 from by decide) e_z200 (by omega) (by omega)
                refine lv_iinc (v := z200) (lv' := [(3, .int z200), (1, .int z170), (0, .ref h0), (2, .int (u6_ 1)), (4, .int z28), (5, .int z42)]) hx hb dX1_works_200 hl (k := 3) rfl e_z200.symm (by decide) rfl (fun ls hl => ?_)
                have hwk9 : zWki f20 f39 f_199 (zNvv k41 f36 pl0) z170.toInt (u6_ 1).toInt z200.toInt := zWki_j hI158_0 (by omega) (by omega) (by omega) (by omega) (by omega) (by omega) e_z189 e_z195 hX196_0 (by omega) (by omega) e_f_199 (by omega) (by omega)
                refine lv_goto (tgt := 6) hx hb dX1_works_203 (by decide) ?_
                have hc : va_P (dC, dI) vwCl ([(h0, .inr (1, mX1 h1 h6 h13 h21 h36 h37 h39 h40 h41 h42 h43 h44 h45 h46 h47 h48 v0)), (h13, .inr (7, mX7 h14 h15 h16 h17 h18 h19 h20 v13)), (h20, zi k20 270 f20), (h39, zi k39 40 f39), (h40, zi k40 40 f_199), (h36, .inl (k36, 40, .inr (.inr (.inr (.inr f36))))), (h41, zi k41 40 f41), (h31, .inl (k31, 400, .inr (.inr (.inr (.inr f31)))))] ++ pl158) H ∧ va_D A ([(h0, .inr (1, mX1 h1 h6 h13 h21 h36 h37 h39 h40 h41 h42 h43 h44 h45 h46 h47 h48 v0)), (h13, .inr (7, mX7 h14 h15 h16 h17 h18 h19 h20 v13)), (h20, zi k20 270 f20), (h39, zi k39 40 f39), (h40, zi k40 40 f_199), (h36, .inl (k36, 40, .inr (.inr (.inr (.inr f36))))), (h41, zi k41 40 f41), (h31, .inl (k31, 400, .inr (.inr (.inr (.inr f31)))))] ++ pl158) ∧ va_S A s.heap H locs ∧ lv_has ls 6 [(0, .ref h0), (1, .int z170), (2, .int (u6_ 1)), (3, .int z200)] ∧ (0 ≤ z170.toInt ∧ z170.toInt ≤ 40) ∧ ((-1) ≤ (u6_ 1).toInt ∧ (u6_ 1).toInt ≤ 39) ∧ (0 ≤ z200.toInt ∧ z200.toInt ≤ 299) ∧ (zWki f20 f39 f_199 (zNvv k41 f36 pl0) z170.toInt (u6_ 1).toInt z200.toInt) ∧ (z200.toInt ≤ (v13 9).toInt) ∧ (zRd h22 f31 pl158) ∧ (zPs k41 f36 pl158) ∧ (zOt pl0 pl158) ∧ (zPe pl0 pl158) := ⟨hP, hD, hS, lv_sub hl [2, 1, 3, 0] rfl, (by first | with_reducible assumption | exact ⟨by omega, by omega⟩), (by first | with_reducible assumption | exact ⟨by omega, by omega⟩), (by first | with_reducible assumption | exact ⟨by omega, by omega⟩), by first | exact hwk9 | exact zWki_0 (by decide) (by decide) (by decide), by omega, by assumption, by assumption, by first | assumption | exact zOt_rf, by first | assumption | exact zPe_rf⟩
                exact hJ6 H locs ls (fun i => ([z170, (u6_ 1), z200] : List (Int32)).getD i 0) (fun _ => 0) (fun i => ([f_199] : List (Nat → Int32)).getD i (fun _ => 0)) (fun _ => (fun _ => 0)) ⟨(fun _ => (fun _ => none)), pl158, hc⟩ (show (299 - z200.toInt).toNat < (299 - (u6_ 2).toInt).toNat from by omega)
          · skip
            refine lv_icmp_ne (tgt := 158) hx hb dX1_works_126 (by decide) (fun c_ => ?_) (fun c_ => ?_)
            · skip
              have b_ := zT_ne rfl zk_5 c_
              have hc : va_P (dC, dI) vwCl ([(h0, .inr (1, mX1 h1 h6 h13 h21 h36 h37 h39 h40 h41 h42 h43 h44 h45 h46 h47 h48 v0)), (h13, .inr (7, mX7 h14 h15 h16 h17 h18 h19 h20 v13)), (h20, zi k20 270 f20), (h39, zi k39 40 f39), (h40, zi k40 40 (a6_ 0)), (h36, .inl (k36, 40, .inr (.inr (.inr (.inr f36))))), (h41, zi k41 40 f41), (h31, .inl (k31, 400, .inr (.inr (.inr (.inr f31)))))] ++ pl123) H ∧ va_D A ([(h0, .inr (1, mX1 h1 h6 h13 h21 h36 h37 h39 h40 h41 h42 h43 h44 h45 h46 h47 h48 v0)), (h13, .inr (7, mX7 h14 h15 h16 h17 h18 h19 h20 v13)), (h20, zi k20 270 f20), (h39, zi k39 40 f39), (h40, zi k40 40 (a6_ 0)), (h36, .inl (k36, 40, .inr (.inr (.inr (.inr f36))))), (h41, zi k41 40 f41), (h31, .inl (k31, 400, .inr (.inr (.inr (.inr f31)))))] ++ pl123) ∧ va_S A s.heap H locs ∧ lv_has ls 6 [(0, .ref h0), (1, .int (u6_ 0)), (2, .int (u6_ 1)), (3, .int (u6_ 2)), (4, .int z28), (5, .int z42)] ∧ (zWkj f20 f39 (a6_ 0) (zNvv k41 f36 pl0) (u6_ 0).toInt (u6_ 1).toInt (u6_ 2).toInt z28.toInt z42.toInt) ∧ (4 < z28.toInt ∨ 40 ≤ (u6_ 0).toInt ∨ 40 ≤ z42.toInt) ∧ (z28.toInt ≠ 10 ∨ (u6_ 0).toInt ≤ 0) ∧ (z28.toInt ≠ 5 ∨ (u6_ 0).toInt ≤ 1) ∧ (zRd h22 f31 pl123) ∧ (zPs k41 f36 pl123) ∧ (zOt pl0 pl123) ∧ (zPe pl0 pl123) := ⟨hP, hD, hS, lv_sub hl [0, 1, 2, 3, 4, 5] rfl, by exact hI123_0, by omega, by omega, by omega, by assumption, by assumption, by first | assumption | exact zOt_rf, by first | assumption | exact zPe_rf⟩
              exact hJ158 H locs ls (fun _ => 0) (fun _ => 0) (fun _ => (fun _ => 0)) (fun _ => (fun _ => 0)) ⟨(fun _ => (fun _ => none)), pl123, hc⟩
            · skip
              have b_ := zF_ne rfl zk_5 c_
              refine lv_iload_n hx hb dX1_works_129 rfl (lv_at hl 1 rfl) ?_
              refine lv_iconst (v := 1) hx hb dX1_works_130 (by decide) ?_
              refine lv_icmp_le (tgt := 158) hx hb dX1_works_131 (by decide) (fun c_ => ?_) (fun c_ => ?_)
              · skip
                have b_ := zT_le rfl zk_1 c_
                have hc : va_P (dC, dI) vwCl ([(h0, .inr (1, mX1 h1 h6 h13 h21 h36 h37 h39 h40 h41 h42 h43 h44 h45 h46 h47 h48 v0)), (h13, .inr (7, mX7 h14 h15 h16 h17 h18 h19 h20 v13)), (h20, zi k20 270 f20), (h39, zi k39 40 f39), (h40, zi k40 40 (a6_ 0)), (h36, .inl (k36, 40, .inr (.inr (.inr (.inr f36))))), (h41, zi k41 40 f41), (h31, .inl (k31, 400, .inr (.inr (.inr (.inr f31)))))] ++ pl123) H ∧ va_D A ([(h0, .inr (1, mX1 h1 h6 h13 h21 h36 h37 h39 h40 h41 h42 h43 h44 h45 h46 h47 h48 v0)), (h13, .inr (7, mX7 h14 h15 h16 h17 h18 h19 h20 v13)), (h20, zi k20 270 f20), (h39, zi k39 40 f39), (h40, zi k40 40 (a6_ 0)), (h36, .inl (k36, 40, .inr (.inr (.inr (.inr f36))))), (h41, zi k41 40 f41), (h31, .inl (k31, 400, .inr (.inr (.inr (.inr f31)))))] ++ pl123) ∧ va_S A s.heap H locs ∧ lv_has ls 6 [(0, .ref h0), (1, .int (u6_ 0)), (2, .int (u6_ 1)), (3, .int (u6_ 2)), (4, .int z28), (5, .int z42)] ∧ (zWkj f20 f39 (a6_ 0) (zNvv k41 f36 pl0) (u6_ 0).toInt (u6_ 1).toInt (u6_ 2).toInt z28.toInt z42.toInt) ∧ (4 < z28.toInt ∨ 40 ≤ (u6_ 0).toInt ∨ 40 ≤ z42.toInt) ∧ (z28.toInt ≠ 10 ∨ (u6_ 0).toInt ≤ 0) ∧ (z28.toInt ≠ 5 ∨ (u6_ 0).toInt ≤ 1) ∧ (zRd h22 f31 pl123) ∧ (zPs k41 f36 pl123) ∧ (zOt pl0 pl123) ∧ (zPe pl0 pl123) := ⟨hP, hD, hS, lv_sub hl [0, 1, 2, 3, 4, 5] rfl, by exact hI123_0, by omega, by omega, by omega, by assumption, by assumption, by first | assumption | exact zOt_rf, by first | assumption | exact zPe_rf⟩
                exact hJ158 H locs ls (fun _ => 0) (fun _ => 0) (fun _ => (fun _ => 0)) (fun _ => (fun _ => 0)) ⟨(fun _ => (fun _ => none)), pl123, hc⟩
              · skip
                have b_ := zF_le rfl zk_1 c_
                obtain ⟨z134, e_z134⟩ : ∃ z : Int32, z = (u6_ 0) + Int32.ofInt (-1) := ⟨_, rfl⟩
                have b_ := zadd (x := (u6_ 0)) (y := Int32.ofInt (-1)) rfl (show (Int32.ofInt (-1)).toInt = (-1) from by decide) e_z134 (by omega) (by omega)
                refine lv_iinc (v := z134) (lv' := [(1, .int z134), (0, .ref h0), (2, .int (u6_ 1)), (3, .int (u6_ 2)), (4, .int z28), (5, .int z42)]) hx hb dX1_works_134 hl (k := 1) rfl e_z134.symm (by decide) rfl (fun ls hl => ?_)
                refine lv_aload_n hx hb dX1_works_137 rfl (lv_at hl 1 rfl) ?_
                refine va_get (D := (dC, dI)) (ci := 1) (v := .ref h40) (C := RX1) (T := TX1) (N := 17) hx hb hG zuX1 hown hK hP 0 rfl rfl 7 (by decide) (hG _ zv511) (fun _ h9 => h9) rfl dX1_works_138 ?_
                refine lv_iload_n hx hb dX1_works_141 rfl (lv_at hl 0 rfl) ?_
                refine lv_iconst (v := 1) hx hb dX1_works_142 (by decide) ?_
                refine lv_isub hx hb dX1_works_143 ?_
                refine lv_topi (fun z143 e_z143 => ?_)
                have b_ := zsub rfl zk_1 e_z143 (by omega) (by omega)
                refine lv_aload_n hx hb dX1_works_144 rfl (lv_at hl 1 rfl) ?_
                refine lv_iload_n hx hb dX1_works_145 rfl (lv_at hl 2 rfl) ?_
                refine lv_iconst (v := 1) hx hb dX1_works_146 (by decide) ?_
                refine lv_isub hx hb dX1_works_147 ?_
                refine lv_topi (fun z147 e_z147 => ?_)
                have b_ := zsub rfl zk_1 e_z147 (by omega) (by omega)
                refine lv_iload_n hx hb dX1_works_148 rfl (lv_at hl 2 rfl) ?_
                refine lv_iload hx hb dX1_works_149 (lv_at hl 5 rfl) ?_
                have hPc := hP.part (cx := [(h0, .inr (1, mX1 h1 h6 h13 h21 h36 h37 h39 h40 h41 h42 h43 h44 h45 h46 h47 h48 v0)), (h36, .inl (k36, 40, .inr (.inr (.inr (.inr f36))))), (h41, zi k41 40 f41), (h31, .inl (k31, 400, .inr (.inr (.inr (.inr f31)))))]) [0, 5, 6, 7] rfl
                have hDc := hD.part (cx := [(h0, .inr (1, mX1 h1 h6 h13 h21 h36 h37 h39 h40 h41 h42 h43 h44 h45 h46 h47 h48 v0)), (h36, .inl (k36, 40, .inr (.inr (.inr (.inr f36))))), (h41, zi k41 40 f41), (h31, .inl (k31, 400, .inr (.inr (.inr (.inr f31)))))]) [0, 5, 6, 7] (by decide) rfl
                have hKc := hK.sub (tys' := [(k36, .object RX5), (k41, .int), (k31, .object RX8)]) [3, 4, 5] rfl
                have hFc := va_freeP (cx := [(h0, .inr (1, mX1 h1 h6 h13 h21 h36 h37 h39 h40 h41 h42 h43 h44 h45 h46 h47 h48 v0)), (h36, .inl (k36, 40, .inr (.inr (.inr (.inr f36))))), (h41, zi k41 40 f41), (h31, .inl (k31, 400, .inr (.inr (.inr (.inr f31)))))]) hD hS hA [0, 5, 6, 7] rfl
                refine va_calli (va_runV (As := [.int z147, .int (u6_ 1), .int z42]) (rest := [.int z143, .ref h40]) ⟨hx, hb, hml, hown, hG⟩ (sX1_areNear_0 l dC dI adK adV h0 h36 h41 h31 h1 h6 h13 h21 h37 h39 h40 h42 h43 h44 h45 h46 h47 h48 h22 k36 k41 k31 pl123 H.size v0 f36 f41 f31 z147 (u6_ 1) z42 hv0 (show ((-2) : Int) ≤ (z147 : Int32).toInt ∧ (z147 : Int32).toInt ≤ (38 : Int) from (by first | with_reducible assumption | exact ⟨by omega, by omega⟩)) (show ((-1) : Int) ≤ ((u6_ 1) : Int32).toInt ∧ ((u6_ 1) : Int32).toInt ≤ (39 : Int) from (by first | with_reducible assumption | exact ⟨by omega, by omega⟩)) (show ((-999) : Int) ≤ (z42 : Int32).toInt ∧ (z42 : Int32).toInt ≤ (999 : Int) from (by first | with_reducible assumption | exact ⟨by omega, by omega⟩)) (show zRd h22 f31 pl123 from by first | with_reducible assumption | assumption) (show zPs k41 f36 pl123 from by first | with_reducible assumption | assumption) (show z147.toInt = (u6_ 1).toInt - 1 from by omega)) (cwV 3 hG (zgV zv1306 zv1308 zv42 zv138 zv1309) rfl rfl rfl (by decide +kernel) ⟨Nat.le_of_ble_eq_true rfl, Nat.le_of_ble_eq_true rfl⟩) ⟨zPc_blind, va_recv hKc hPc (ci := 1) (q0 := 0) rfl rfl, zPc_pre hPc hKc hDc hE hS hFc hZ⟩ rfl rfl hl.1 rfl (lv_room (Nat.le_of_ble_eq_true rfl)) dX1_works_151 ⟨Nat.le_of_ble_eq_true rfl, Nat.le_of_ble_eq_true rfl⟩) hS (fun q _ h => hFc q h) hFc (fun r151_ u151_ t H1 locs ht hvm hw hB hz1 hk1 hS => ?_)
                replace hw : (0 ≤ r151_.toInt ∧ r151_.toInt ≤ 1) ∧ (0 ≤ z42.toInt → (r151_.toInt = 1 ↔ zAnr k41 f36 pl123 z147.toInt (u6_ 1).toInt z42.toInt)) := hw
                obtain ⟨b_, hX151_0⟩ := hw
                obtain ⟨w151_, a151_, b151_, q151_, pl151_, hB151_0, hB151_1, hB151_2, hB151_3, hP1, hK1, hD1⟩ := hB
                have hB151_0 : zRd h22 f31 pl151_ := hB151_0
                have hB151_1 : zPs k41 f36 pl151_ := hB151_1
                have hB151_2 : zOt pl123 pl151_ := hB151_2
                have hB151_3 : zPe pl123 pl151_ := hB151_3
                rw [ht] at hP1
                obtain ⟨hP, hD⟩ := va_joinP (wr := [(h13, .inr (7, mX7 h14 h15 h16 h17 h18 h19 h20 v13)), (h20, zi k20 270 f20), (h39, zi k39 40 f39), (h40, zi k40 40 (a6_ 0))]) (rx := [(h0, .inr (1, mX1 h1 h6 h13 h21 h36 h37 h39 h40 h41 h42 h43 h44 h45 h46 h47 h48 v0)), (h36, .inl (k36, 40, .inr (.inr (.inr (.inr f36))))), (h41, zi k41 40 f41), (h31, .inl (k31, 400, .inr (.inr (.inr (.inr f31)))))]) hP hD [0, 5, 6, 7] [1, 2, 3, 4] rfl rfl (by decide) (by decide) hk1 hFc hP1 hD1
                have hP : va_P (dC, dI) vwCl ([(h0, .inr (1, mX1 h1 h6 h13 h21 h36 h37 h39 h40 h41 h42 h43 h44 h45 h46 h47 h48 v0)), (h13, .inr (7, mX7 h14 h15 h16 h17 h18 h19 h20 v13)), (h20, zi k20 270 f20), (h39, zi k39 40 f39), (h40, zi k40 40 (a6_ 0)), (h36, .inl (k36, 40, .inr (.inr (.inr (.inr f36))))), (h41, zi k41 40 f41), (h31, .inl (k31, 400, .inr (.inr (.inr (.inr f31)))))] ++ pl151_) H1 := hP.part [4, 0, 1, 2, 3, 5, 6, 7] rfl
                have hD : va_D A ([(h0, .inr (1, mX1 h1 h6 h13 h21 h36 h37 h39 h40 h41 h42 h43 h44 h45 h46 h47 h48 v0)), (h13, .inr (7, mX7 h14 h15 h16 h17 h18 h19 h20 v13)), (h20, zi k20 270 f20), (h39, zi k39 40 f39), (h40, zi k40 40 (a6_ 0)), (h36, .inl (k36, 40, .inr (.inr (.inr (.inr f36))))), (h41, zi k41 40 f41), (h31, .inl (k31, 400, .inr (.inr (.inr (.inr f31)))))] ++ pl151_) := hD.part [4, 0, 1, 2, 3, 5, 6, 7] (by decide) rfl
                generalize H1 = H at hP hS ⊢
                clear hz1
                have hot_ : zOt pl0 pl151_ := zOt_tr (show zOt pl0 pl123 from by first | assumption | exact zOt_rf) hB151_2
                have hpe_ : zPe pl0 pl151_ := zPe_tr (show zPe pl0 pl123 from by first | assumption | exact zPe_rf) hB151_3
                refine va_zast hx hb hK hP hD hS 4 2 rfl rfl (zin_lit ⟨by omega, by omega⟩) dX1_works_154 (fun H locs hP hD hS => ?_)
                obtain ⟨f_154, e_f_154⟩ : ∃ z : Nat → Int32, z = upd (a6_ 0) (z143 : Int32).toNatClampNeg (vp_nar .boolean r151_) := ⟨_, rfl⟩
                have hP : va_P (dC, dI) vwCl ([(h0, .inr (1, mX1 h1 h6 h13 h21 h36 h37 h39 h40 h41 h42 h43 h44 h45 h46 h47 h48 v0)), (h13, .inr (7, mX7 h14 h15 h16 h17 h18 h19 h20 v13)), (h20, zi k20 270 f20), (h39, zi k39 40 f39), (h40, zi k40 40 f_154), (h36, .inl (k36, 40, .inr (.inr (.inr (.inr f36))))), (h41, zi k41 40 f41), (h31, .inl (k31, 400, .inr (.inr (.inr (.inr f31)))))] ++ pl151_) H := by rw [e_f_154]; exact hP
                have hD : va_D A ([(h0, .inr (1, mX1 h1 h6 h13 h21 h36 h37 h39 h40 h41 h42 h43 h44 h45 h46 h47 h48 v0)), (h13, .inr (7, mX7 h14 h15 h16 h17 h18 h19 h20 v13)), (h20, zi k20 270 f20), (h39, zi k39 40 f39), (h40, zi k40 40 f_154), (h36, .inl (k36, 40, .inr (.inr (.inr (.inr f36))))), (h41, zi k41 40 f41), (h31, .inl (k31, 400, .inr (.inr (.inr (.inr f31)))))] ++ pl151_) := by rw [e_f_154]; exact hD
                refine lv_goto (tgt := 200) hx hb dX1_works_155 (by decide) ?_
                obtain ⟨z200, e_z200⟩ : ∃ z : Int32, z = (u6_ 2) + Int32.ofInt 1 := ⟨_, rfl⟩
                have b_ := zadd (x := (u6_ 2)) (y := Int32.ofInt 1) rfl (show (Int32.ofInt 1).toInt = 1 from by decide) e_z200 (by omega) (by omega)
                refine lv_iinc (v := z200) (lv' := [(3, .int z200), (1, .int z134), (0, .ref h0), (2, .int (u6_ 1)), (4, .int z28), (5, .int z42)]) hx hb dX1_works_200 hl (k := 3) rfl e_z200.symm (by decide) rfl (fun ls hl => ?_)
                have hwk9 : zWki f20 f39 f_154 (zNvv k41 f36 pl0) z134.toInt (u6_ 1).toInt z200.toInt := zWki_r hI123_0 (by omega) (by omega) (by omega) (show zPe pl0 pl123 from by first | assumption | exact zPe_rf) hX151_0 (by omega) (by omega) (by omega) (by omega) (by omega) (by omega) e_f_154 (by omega) (by omega)
                refine lv_goto (tgt := 6) hx hb dX1_works_203 (by decide) ?_
                have hc : va_P (dC, dI) vwCl ([(h0, .inr (1, mX1 h1 h6 h13 h21 h36 h37 h39 h40 h41 h42 h43 h44 h45 h46 h47 h48 v0)), (h13, .inr (7, mX7 h14 h15 h16 h17 h18 h19 h20 v13)), (h20, zi k20 270 f20), (h39, zi k39 40 f39), (h40, zi k40 40 f_154), (h36, .inl (k36, 40, .inr (.inr (.inr (.inr f36))))), (h41, zi k41 40 f41), (h31, .inl (k31, 400, .inr (.inr (.inr (.inr f31)))))] ++ pl151_) H ∧ va_D A ([(h0, .inr (1, mX1 h1 h6 h13 h21 h36 h37 h39 h40 h41 h42 h43 h44 h45 h46 h47 h48 v0)), (h13, .inr (7, mX7 h14 h15 h16 h17 h18 h19 h20 v13)), (h20, zi k20 270 f20), (h39, zi k39 40 f39), (h40, zi k40 40 f_154), (h36, .inl (k36, 40, .inr (.inr (.inr (.inr f36))))), (h41, zi k41 40 f41), (h31, .inl (k31, 400, .inr (.inr (.inr (.inr f31)))))] ++ pl151_) ∧ va_S A s.heap H locs ∧ lv_has ls 6 [(0, .ref h0), (1, .int z134), (2, .int (u6_ 1)), (3, .int z200)] ∧ (0 ≤ z134.toInt ∧ z134.toInt ≤ 40) ∧ ((-1) ≤ (u6_ 1).toInt ∧ (u6_ 1).toInt ≤ 39) ∧ (0 ≤ z200.toInt ∧ z200.toInt ≤ 299) ∧ (zWki f20 f39 f_154 (zNvv k41 f36 pl0) z134.toInt (u6_ 1).toInt z200.toInt) ∧ (z200.toInt ≤ (v13 9).toInt) ∧ (zRd h22 f31 pl151_) ∧ (zPs k41 f36 pl151_) ∧ (zOt pl0 pl151_) ∧ (zPe pl0 pl151_) := ⟨hP, hD, hS, lv_sub hl [2, 1, 3, 0] rfl, (by first | with_reducible assumption | exact ⟨by omega, by omega⟩), (by first | with_reducible assumption | exact ⟨by omega, by omega⟩), (by first | with_reducible assumption | exact ⟨by omega, by omega⟩), by first | exact hwk9 | exact zWki_0 (by decide) (by decide) (by decide), by omega, by assumption, by assumption, by first | assumption | exact zOt_rf, by first | assumption | exact zPe_rf⟩
                exact hJ6 H locs ls (fun i => ([z134, (u6_ 1), z200] : List (Int32)).getD i 0) (fun _ => 0) (fun i => ([f_154] : List (Nat → Int32)).getD i (fun _ => 0)) (fun _ => (fun _ => 0)) ⟨(fun _ => (fun _ => none)), pl151_, hc⟩ (show (299 - z200.toInt).toNat < (299 - (u6_ 2).toInt).toNat from by omega)
        · skip
          refine lv_icmp_ne (tgt := 123) hx hb dX1_works_89 (by decide) (fun c_ => ?_) (fun c_ => ?_)
          · skip
            have b_ := zT_ne rfl zk_10 c_
            have hc : va_P (dC, dI) vwCl ([(h0, .inr (1, mX1 h1 h6 h13 h21 h36 h37 h39 h40 h41 h42 h43 h44 h45 h46 h47 h48 v0)), (h13, .inr (7, mX7 h14 h15 h16 h17 h18 h19 h20 v13)), (h20, zi k20 270 f20), (h39, zi k39 40 f39), (h40, zi k40 40 (a6_ 0)), (h36, .inl (k36, 40, .inr (.inr (.inr (.inr f36))))), (h41, zi k41 40 f41), (h31, .inl (k31, 400, .inr (.inr (.inr (.inr f31)))))] ++ pl85) H ∧ va_D A ([(h0, .inr (1, mX1 h1 h6 h13 h21 h36 h37 h39 h40 h41 h42 h43 h44 h45 h46 h47 h48 v0)), (h13, .inr (7, mX7 h14 h15 h16 h17 h18 h19 h20 v13)), (h20, zi k20 270 f20), (h39, zi k39 40 f39), (h40, zi k40 40 (a6_ 0)), (h36, .inl (k36, 40, .inr (.inr (.inr (.inr f36))))), (h41, zi k41 40 f41), (h31, .inl (k31, 400, .inr (.inr (.inr (.inr f31)))))] ++ pl85) ∧ va_S A s.heap H locs ∧ lv_has ls 6 [(0, .ref h0), (1, .int (u6_ 0)), (2, .int (u6_ 1)), (3, .int (u6_ 2)), (4, .int z28), (5, .int z42)] ∧ (zWkj f20 f39 (a6_ 0) (zNvv k41 f36 pl0) (u6_ 0).toInt (u6_ 1).toInt (u6_ 2).toInt z28.toInt z42.toInt) ∧ (4 < z28.toInt ∨ 40 ≤ (u6_ 0).toInt ∨ 40 ≤ z42.toInt) ∧ (z28.toInt ≠ 10 ∨ (u6_ 0).toInt ≤ 0) ∧ (zRd h22 f31 pl85) ∧ (zPs k41 f36 pl85) ∧ (zOt pl0 pl85) ∧ (zPe pl0 pl85) := ⟨hP, hD, hS, lv_sub hl [0, 1, 2, 3, 4, 5] rfl, by exact hI85_0, by omega, by omega, by assumption, by assumption, by first | assumption | exact zOt_rf, by first | assumption | exact zPe_rf⟩
            exact hJ123 H locs ls (fun _ => 0) (fun _ => 0) (fun _ => (fun _ => 0)) (fun _ => (fun _ => 0)) ⟨(fun _ => (fun _ => none)), pl85, hc⟩
          · skip
            have b_ := zF_ne rfl zk_10 c_
            refine lv_iload_n hx hb dX1_works_92 rfl (lv_at hl 1 rfl) ?_
            refine lv_if_le (tgt := 123) hx hb dX1_works_93 (by decide) (fun c_ => ?_) (fun c_ => ?_)
            · skip
              have b_ := zT_le rfl zk_0 c_
              have hc : va_P (dC, dI) vwCl ([(h0, .inr (1, mX1 h1 h6 h13 h21 h36 h37 h39 h40 h41 h42 h43 h44 h45 h46 h47 h48 v0)), (h13, .inr (7, mX7 h14 h15 h16 h17 h18 h19 h20 v13)), (h20, zi k20 270 f20), (h39, zi k39 40 f39), (h40, zi k40 40 (a6_ 0)), (h36, .inl (k36, 40, .inr (.inr (.inr (.inr f36))))), (h41, zi k41 40 f41), (h31, .inl (k31, 400, .inr (.inr (.inr (.inr f31)))))] ++ pl85) H ∧ va_D A ([(h0, .inr (1, mX1 h1 h6 h13 h21 h36 h37 h39 h40 h41 h42 h43 h44 h45 h46 h47 h48 v0)), (h13, .inr (7, mX7 h14 h15 h16 h17 h18 h19 h20 v13)), (h20, zi k20 270 f20), (h39, zi k39 40 f39), (h40, zi k40 40 (a6_ 0)), (h36, .inl (k36, 40, .inr (.inr (.inr (.inr f36))))), (h41, zi k41 40 f41), (h31, .inl (k31, 400, .inr (.inr (.inr (.inr f31)))))] ++ pl85) ∧ va_S A s.heap H locs ∧ lv_has ls 6 [(0, .ref h0), (1, .int (u6_ 0)), (2, .int (u6_ 1)), (3, .int (u6_ 2)), (4, .int z28), (5, .int z42)] ∧ (zWkj f20 f39 (a6_ 0) (zNvv k41 f36 pl0) (u6_ 0).toInt (u6_ 1).toInt (u6_ 2).toInt z28.toInt z42.toInt) ∧ (4 < z28.toInt ∨ 40 ≤ (u6_ 0).toInt ∨ 40 ≤ z42.toInt) ∧ (z28.toInt ≠ 10 ∨ (u6_ 0).toInt ≤ 0) ∧ (zRd h22 f31 pl85) ∧ (zPs k41 f36 pl85) ∧ (zOt pl0 pl85) ∧ (zPe pl0 pl85) := ⟨hP, hD, hS, lv_sub hl [0, 1, 2, 3, 4, 5] rfl, by exact hI85_0, by omega, by omega, by assumption, by assumption, by first | assumption | exact zOt_rf, by first | assumption | exact zPe_rf⟩
              exact hJ123 H locs ls (fun _ => 0) (fun _ => 0) (fun _ => (fun _ => 0)) (fun _ => (fun _ => 0)) ⟨(fun _ => (fun _ => none)), pl85, hc⟩
            · skip
              have b_ := zF_le rfl zk_0 c_
              refine lv_aload_n hx hb dX1_works_96 rfl (lv_at hl 0 rfl) ?_
              refine va_get (D := (dC, dI)) (ci := 1) (v := .ref h40) (C := RX1) (T := TX1) (N := 17) hx hb hG zuX1 hown hK hP 0 rfl rfl 7 (by decide) (hG _ zv511) (fun _ h9 => h9) rfl dX1_works_97 ?_
              refine lv_iload_n hx hb dX1_works_100 rfl (lv_at hl 1 rfl) ?_
              refine lv_iconst (v := 1) hx hb dX1_works_101 (by decide) ?_
              refine lv_isub hx hb dX1_works_102 ?_
              refine lv_topi (fun z102 e_z102 => ?_)
              have b_ := zsub rfl zk_1 e_z102 (by omega) (by omega)
              refine lv_aload_n hx hb dX1_works_103 rfl (lv_at hl 0 rfl) ?_
              refine va_get (D := (dC, dI)) (ci := 1) (v := .ref h40) (C := RX1) (T := TX1) (N := 17) hx hb hG zuX1 hown hK hP 0 rfl rfl 7 (by decide) (hG _ zv511) (fun _ h9 => h9) rfl dX1_works_104 ?_
              refine lv_iload_n hx hb dX1_works_107 rfl (lv_at hl 1 rfl) ?_
              refine lv_iconst (v := 1) hx hb dX1_works_108 (by decide) ?_
              refine lv_isub hx hb dX1_works_109 ?_
              refine lv_topi (fun z109 e_z109 => ?_)
              have b_ := zsub rfl zk_1 e_z109 (by omega) (by omega)
              refine va_zald hx hb hK hP 4 2 rfl rfl (zin_lit ⟨by omega, by omega⟩) dX1_works_110 ?_
              refine lv_topi (fun z110 e_z110 => ?_)
              have b_ : -2147483648 ≤ z110.toInt ∧ z110.toInt ≤ 2147483647 := ⟨zlo _, zhi _⟩
              refine lv_if_ne (tgt := 118) hx hb dX1_works_111 (by decide) (fun c_ => ?_) (fun c_ => ?_)
              · skip
                have b_ := zT_ne rfl zk_0 c_
                refine lv_iconst (v := 0) hx hb dX1_works_118 (by decide) ?_
                refine va_zast hx hb hK hP hD hS 4 2 rfl rfl (zin_lit ⟨by omega, by omega⟩) dX1_works_119 (fun H locs hP hD hS => ?_)
                obtain ⟨f_119, e_f_119⟩ : ∃ z : Nat → Int32, z = upd (a6_ 0) (z102 : Int32).toNatClampNeg (vp_nar .boolean 0) := ⟨_, rfl⟩
                have hP : va_P (dC, dI) vwCl ([(h0, .inr (1, mX1 h1 h6 h13 h21 h36 h37 h39 h40 h41 h42 h43 h44 h45 h46 h47 h48 v0)), (h13, .inr (7, mX7 h14 h15 h16 h17 h18 h19 h20 v13)), (h20, zi k20 270 f20), (h39, zi k39 40 f39), (h40, zi k40 40 f_119), (h36, .inl (k36, 40, .inr (.inr (.inr (.inr f36))))), (h41, zi k41 40 f41), (h31, .inl (k31, 400, .inr (.inr (.inr (.inr f31)))))] ++ pl85) H := by rw [e_f_119]; exact hP
                have hD : va_D A ([(h0, .inr (1, mX1 h1 h6 h13 h21 h36 h37 h39 h40 h41 h42 h43 h44 h45 h46 h47 h48 v0)), (h13, .inr (7, mX7 h14 h15 h16 h17 h18 h19 h20 v13)), (h20, zi k20 270 f20), (h39, zi k39 40 f39), (h40, zi k40 40 f_119), (h36, .inl (k36, 40, .inr (.inr (.inr (.inr f36))))), (h41, zi k41 40 f41), (h31, .inl (k31, 400, .inr (.inr (.inr (.inr f31)))))] ++ pl85) := by rw [e_f_119]; exact hD
                refine lv_goto (tgt := 200) hx hb dX1_works_120 (by decide) ?_
                obtain ⟨z200, e_z200⟩ : ∃ z : Int32, z = (u6_ 2) + Int32.ofInt 1 := ⟨_, rfl⟩
                have b_ := zadd (x := (u6_ 2)) (y := Int32.ofInt 1) rfl (show (Int32.ofInt 1).toInt = 1 from by decide) e_z200 (by omega) (by omega)
                refine lv_iinc (v := z200) (lv' := [(3, .int z200), (0, .ref h0), (1, .int (u6_ 0)), (2, .int (u6_ 1)), (4, .int z28), (5, .int z42)]) hx hb dX1_works_200 hl (k := 3) rfl e_z200.symm (by decide) rfl (fun ls hl => ?_)
                have hwk9 : zWki f20 f39 f_119 (zNvv k41 f36 pl0) (u6_ 0).toInt (u6_ 1).toInt z200.toInt := zWki_n hI85_0 (by omega) (by omega) (by omega) (by omega) e_z110 (by first | exact Or.inl ⟨by omega, by decide⟩ | exact Or.inr ⟨by omega, by decide⟩) e_f_119 rfl (by omega)
                refine lv_goto (tgt := 6) hx hb dX1_works_203 (by decide) ?_
                have hc : va_P (dC, dI) vwCl ([(h0, .inr (1, mX1 h1 h6 h13 h21 h36 h37 h39 h40 h41 h42 h43 h44 h45 h46 h47 h48 v0)), (h13, .inr (7, mX7 h14 h15 h16 h17 h18 h19 h20 v13)), (h20, zi k20 270 f20), (h39, zi k39 40 f39), (h40, zi k40 40 f_119), (h36, .inl (k36, 40, .inr (.inr (.inr (.inr f36))))), (h41, zi k41 40 f41), (h31, .inl (k31, 400, .inr (.inr (.inr (.inr f31)))))] ++ pl85) H ∧ va_D A ([(h0, .inr (1, mX1 h1 h6 h13 h21 h36 h37 h39 h40 h41 h42 h43 h44 h45 h46 h47 h48 v0)), (h13, .inr (7, mX7 h14 h15 h16 h17 h18 h19 h20 v13)), (h20, zi k20 270 f20), (h39, zi k39 40 f39), (h40, zi k40 40 f_119), (h36, .inl (k36, 40, .inr (.inr (.inr (.inr f36))))), (h41, zi k41 40 f41), (h31, .inl (k31, 400, .inr (.inr (.inr (.inr f31)))))] ++ pl85) ∧ va_S A s.heap H locs ∧ lv_has ls 6 [(0, .ref h0), (1, .int (u6_ 0)), (2, .int (u6_ 1)), (3, .int z200)] ∧ (0 ≤ (u6_ 0).toInt ∧ (u6_ 0).toInt ≤ 40) ∧ ((-1) ≤ (u6_ 1).toInt ∧ (u6_ 1).toInt ≤ 39) ∧ (0 ≤ z200.toInt ∧ z200.toInt ≤ 299) ∧ (zWki f20 f39 f_119 (zNvv k41 f36 pl0) (u6_ 0).toInt (u6_ 1).toInt z200.toInt) ∧ (z200.toInt ≤ (v13 9).toInt) ∧ (zRd h22 f31 pl85) ∧ (zPs k41 f36 pl85) ∧ (zOt pl0 pl85) ∧ (zPe pl0 pl85) := ⟨hP, hD, hS, lv_sub hl [1, 2, 3, 0] rfl, (by first | with_reducible assumption | exact ⟨by omega, by omega⟩), (by first | with_reducible assumption | exact ⟨by omega, by omega⟩), (by first | with_reducible assumption | exact ⟨by omega, by omega⟩), by first | exact hwk9 | exact zWki_0 (by decide) (by decide) (by decide), by omega, by assumption, by assumption, by first | assumption | exact zOt_rf, by first | assumption | exact zPe_rf⟩
                exact hJ6 H locs ls (fun i => ([(u6_ 0), (u6_ 1), z200] : List (Int32)).getD i 0) (fun _ => 0) (fun i => ([f_119] : List (Nat → Int32)).getD i (fun _ => 0)) (fun _ => (fun _ => 0)) ⟨(fun _ => (fun _ => none)), pl85, hc⟩ (show (299 - z200.toInt).toNat < (299 - (u6_ 2).toInt).toNat from by omega)
              · skip
                have b_ := zF_ne rfl zk_0 c_
                refine lv_iconst (v := 1) hx hb dX1_works_114 (by decide) ?_
                refine lv_goto (tgt := 119) hx hb dX1_works_115 (by decide) ?_
                refine va_zast hx hb hK hP hD hS 4 2 rfl rfl (zin_lit ⟨by omega, by omega⟩) dX1_works_119 (fun H locs hP hD hS => ?_)
                obtain ⟨f_119, e_f_119⟩ : ∃ z : Nat → Int32, z = upd (a6_ 0) (z102 : Int32).toNatClampNeg (vp_nar .boolean 1) := ⟨_, rfl⟩
                have hP : va_P (dC, dI) vwCl ([(h0, .inr (1, mX1 h1 h6 h13 h21 h36 h37 h39 h40 h41 h42 h43 h44 h45 h46 h47 h48 v0)), (h13, .inr (7, mX7 h14 h15 h16 h17 h18 h19 h20 v13)), (h20, zi k20 270 f20), (h39, zi k39 40 f39), (h40, zi k40 40 f_119), (h36, .inl (k36, 40, .inr (.inr (.inr (.inr f36))))), (h41, zi k41 40 f41), (h31, .inl (k31, 400, .inr (.inr (.inr (.inr f31)))))] ++ pl85) H := by rw [e_f_119]; exact hP
                have hD : va_D A ([(h0, .inr (1, mX1 h1 h6 h13 h21 h36 h37 h39 h40 h41 h42 h43 h44 h45 h46 h47 h48 v0)), (h13, .inr (7, mX7 h14 h15 h16 h17 h18 h19 h20 v13)), (h20, zi k20 270 f20), (h39, zi k39 40 f39), (h40, zi k40 40 f_119), (h36, .inl (k36, 40, .inr (.inr (.inr (.inr f36))))), (h41, zi k41 40 f41), (h31, .inl (k31, 400, .inr (.inr (.inr (.inr f31)))))] ++ pl85) := by rw [e_f_119]; exact hD
                refine lv_goto (tgt := 200) hx hb dX1_works_120 (by decide) ?_
                obtain ⟨z200, e_z200⟩ : ∃ z : Int32, z = (u6_ 2) + Int32.ofInt 1 := ⟨_, rfl⟩
                have b_ := zadd (x := (u6_ 2)) (y := Int32.ofInt 1) rfl (show (Int32.ofInt 1).toInt = 1 from by decide) e_z200 (by omega) (by omega)
                refine lv_iinc (v := z200) (lv' := [(3, .int z200), (0, .ref h0), (1, .int (u6_ 0)), (2, .int (u6_ 1)), (4, .int z28), (5, .int z42)]) hx hb dX1_works_200 hl (k := 3) rfl e_z200.symm (by decide) rfl (fun ls hl => ?_)
                have hwk9 : zWki f20 f39 f_119 (zNvv k41 f36 pl0) (u6_ 0).toInt (u6_ 1).toInt z200.toInt := zWki_n hI85_0 (by omega) (by omega) (by omega) (by omega) e_z110 (by first | exact Or.inl ⟨by omega, by decide⟩ | exact Or.inr ⟨by omega, by decide⟩) e_f_119 rfl (by omega)
                refine lv_goto (tgt := 6) hx hb dX1_works_203 (by decide) ?_
                have hc : va_P (dC, dI) vwCl ([(h0, .inr (1, mX1 h1 h6 h13 h21 h36 h37 h39 h40 h41 h42 h43 h44 h45 h46 h47 h48 v0)), (h13, .inr (7, mX7 h14 h15 h16 h17 h18 h19 h20 v13)), (h20, zi k20 270 f20), (h39, zi k39 40 f39), (h40, zi k40 40 f_119), (h36, .inl (k36, 40, .inr (.inr (.inr (.inr f36))))), (h41, zi k41 40 f41), (h31, .inl (k31, 400, .inr (.inr (.inr (.inr f31)))))] ++ pl85) H ∧ va_D A ([(h0, .inr (1, mX1 h1 h6 h13 h21 h36 h37 h39 h40 h41 h42 h43 h44 h45 h46 h47 h48 v0)), (h13, .inr (7, mX7 h14 h15 h16 h17 h18 h19 h20 v13)), (h20, zi k20 270 f20), (h39, zi k39 40 f39), (h40, zi k40 40 f_119), (h36, .inl (k36, 40, .inr (.inr (.inr (.inr f36))))), (h41, zi k41 40 f41), (h31, .inl (k31, 400, .inr (.inr (.inr (.inr f31)))))] ++ pl85) ∧ va_S A s.heap H locs ∧ lv_has ls 6 [(0, .ref h0), (1, .int (u6_ 0)), (2, .int (u6_ 1)), (3, .int z200)] ∧ (0 ≤ (u6_ 0).toInt ∧ (u6_ 0).toInt ≤ 40) ∧ ((-1) ≤ (u6_ 1).toInt ∧ (u6_ 1).toInt ≤ 39) ∧ (0 ≤ z200.toInt ∧ z200.toInt ≤ 299) ∧ (zWki f20 f39 f_119 (zNvv k41 f36 pl0) (u6_ 0).toInt (u6_ 1).toInt z200.toInt) ∧ (z200.toInt ≤ (v13 9).toInt) ∧ (zRd h22 f31 pl85) ∧ (zPs k41 f36 pl85) ∧ (zOt pl0 pl85) ∧ (zPe pl0 pl85) := ⟨hP, hD, hS, lv_sub hl [1, 2, 3, 0] rfl, (by first | with_reducible assumption | exact ⟨by omega, by omega⟩), (by first | with_reducible assumption | exact ⟨by omega, by omega⟩), (by first | with_reducible assumption | exact ⟨by omega, by omega⟩), by first | exact hwk9 | exact zWki_0 (by decide) (by decide) (by decide), by omega, by assumption, by assumption, by first | assumption | exact zOt_rf, by first | assumption | exact zPe_rf⟩
                exact hJ6 H locs ls (fun i => ([(u6_ 0), (u6_ 1), z200] : List (Int32)).getD i 0) (fun _ => 0) (fun i => ([f_119] : List (Nat → Int32)).getD i (fun _ => 0)) (fun _ => (fun _ => 0)) ⟨(fun _ => (fun _ => none)), pl85, hc⟩ (show (299 - z200.toInt).toNat < (299 - (u6_ 2).toInt).toNat from by omega)
      · skip
        refine lv_icmp_gt (tgt := 85) hx hb dX1_works_48 (by decide) (fun c_ => ?_) (fun c_ => ?_)
        · skip
          have b_ := zT_gt rfl zk_4 c_
          have hc : va_P (dC, dI) vwCl ([(h0, .inr (1, mX1 h1 h6 h13 h21 h36 h37 h39 h40 h41 h42 h43 h44 h45 h46 h47 h48 v0)), (h13, .inr (7, mX7 h14 h15 h16 h17 h18 h19 h20 v13)), (h20, zi k20 270 f20), (h39, zi k39 40 f39), (h40, zi k40 40 (a6_ 0)), (h36, .inl (k36, 40, .inr (.inr (.inr (.inr f36))))), (h41, zi k41 40 f41), (h31, .inl (k31, 400, .inr (.inr (.inr (.inr f31)))))] ++ pl6) H ∧ va_D A ([(h0, .inr (1, mX1 h1 h6 h13 h21 h36 h37 h39 h40 h41 h42 h43 h44 h45 h46 h47 h48 v0)), (h13, .inr (7, mX7 h14 h15 h16 h17 h18 h19 h20 v13)), (h20, zi k20 270 f20), (h39, zi k39 40 f39), (h40, zi k40 40 (a6_ 0)), (h36, .inl (k36, 40, .inr (.inr (.inr (.inr f36))))), (h41, zi k41 40 f41), (h31, .inl (k31, 400, .inr (.inr (.inr (.inr f31)))))] ++ pl6) ∧ va_S A s.heap H locs ∧ lv_has ls 6 [(0, .ref h0), (1, .int (u6_ 0)), (2, .int (u6_ 1)), (3, .int (u6_ 2)), (4, .int z28), (5, .int z42)] ∧ (0 ≤ z28.toInt ∧ z28.toInt ≤ 12) ∧ (zWkj f20 f39 (a6_ 0) (zNvv k41 f36 pl0) (u6_ 0).toInt (u6_ 1).toInt (u6_ 2).toInt z28.toInt z42.toInt) ∧ (4 < z28.toInt ∨ 40 ≤ (u6_ 0).toInt ∨ 40 ≤ z42.toInt) ∧ (zRd h22 f31 pl6) ∧ (zPs k41 f36 pl6) ∧ (zOt pl0 pl6) ∧ (zPe pl0 pl6) := ⟨hP, hD, hS, lv_sub hl [2, 3, 4, 5, 1, 0] rfl, (by first | with_reducible assumption | exact ⟨by omega, by omega⟩), by exact hwj9, by omega, by assumption, by assumption, by first | assumption | exact zOt_rf, by first | assumption | exact zPe_rf⟩
          exact hJ85 H locs ls (fun _ => 0) (fun _ => 0) (fun _ => (fun _ => 0)) (fun _ => (fun _ => 0)) ⟨(fun _ => (fun _ => none)), pl6, hc⟩
        · skip
          have b_ := zF_gt rfl zk_4 c_
          refine lv_iload_n hx hb dX1_works_51 rfl (lv_at hl 3 rfl) ?_
          refine lv_bipush (v := 40) hx hb dX1_works_52 (by decide) ?_
          refine lv_icmp_ge (tgt := 85) hx hb dX1_works_54 (by decide) (fun c_ => ?_) (fun c_ => ?_)
          · skip
            have b_ := zT_ge rfl zk_40 c_
            have hc : va_P (dC, dI) vwCl ([(h0, .inr (1, mX1 h1 h6 h13 h21 h36 h37 h39 h40 h41 h42 h43 h44 h45 h46 h47 h48 v0)), (h13, .inr (7, mX7 h14 h15 h16 h17 h18 h19 h20 v13)), (h20, zi k20 270 f20), (h39, zi k39 40 f39), (h40, zi k40 40 (a6_ 0)), (h36, .inl (k36, 40, .inr (.inr (.inr (.inr f36))))), (h41, zi k41 40 f41), (h31, .inl (k31, 400, .inr (.inr (.inr (.inr f31)))))] ++ pl6) H ∧ va_D A ([(h0, .inr (1, mX1 h1 h6 h13 h21 h36 h37 h39 h40 h41 h42 h43 h44 h45 h46 h47 h48 v0)), (h13, .inr (7, mX7 h14 h15 h16 h17 h18 h19 h20 v13)), (h20, zi k20 270 f20), (h39, zi k39 40 f39), (h40, zi k40 40 (a6_ 0)), (h36, .inl (k36, 40, .inr (.inr (.inr (.inr f36))))), (h41, zi k41 40 f41), (h31, .inl (k31, 400, .inr (.inr (.inr (.inr f31)))))] ++ pl6) ∧ va_S A s.heap H locs ∧ lv_has ls 6 [(0, .ref h0), (1, .int (u6_ 0)), (2, .int (u6_ 1)), (3, .int (u6_ 2)), (4, .int z28), (5, .int z42)] ∧ (0 ≤ z28.toInt ∧ z28.toInt ≤ 12) ∧ (zWkj f20 f39 (a6_ 0) (zNvv k41 f36 pl0) (u6_ 0).toInt (u6_ 1).toInt (u6_ 2).toInt z28.toInt z42.toInt) ∧ (4 < z28.toInt ∨ 40 ≤ (u6_ 0).toInt ∨ 40 ≤ z42.toInt) ∧ (zRd h22 f31 pl6) ∧ (zPs k41 f36 pl6) ∧ (zOt pl0 pl6) ∧ (zPe pl0 pl6) := ⟨hP, hD, hS, lv_sub hl [2, 3, 4, 5, 1, 0] rfl, (by first | with_reducible assumption | exact ⟨by omega, by omega⟩), by exact hwj9, by omega, by assumption, by assumption, by first | assumption | exact zOt_rf, by first | assumption | exact zPe_rf⟩
            exact hJ85 H locs ls (fun _ => 0) (fun _ => 0) (fun _ => (fun _ => 0)) (fun _ => (fun _ => 0)) ⟨(fun _ => (fun _ => none)), pl6, hc⟩
          · skip
            have b_ := zF_ge rfl zk_40 c_
            refine lv_iload hx hb dX1_works_57 (lv_at hl 0 rfl) ?_
            refine lv_bipush (v := 40) hx hb dX1_works_59 (by decide) ?_
            refine lv_icmp_ge (tgt := 85) hx hb dX1_works_61 (by decide) (fun c_ => ?_) (fun c_ => ?_)
            · skip
              have b_ := zT_ge rfl zk_40 c_
              have hc : va_P (dC, dI) vwCl ([(h0, .inr (1, mX1 h1 h6 h13 h21 h36 h37 h39 h40 h41 h42 h43 h44 h45 h46 h47 h48 v0)), (h13, .inr (7, mX7 h14 h15 h16 h17 h18 h19 h20 v13)), (h20, zi k20 270 f20), (h39, zi k39 40 f39), (h40, zi k40 40 (a6_ 0)), (h36, .inl (k36, 40, .inr (.inr (.inr (.inr f36))))), (h41, zi k41 40 f41), (h31, .inl (k31, 400, .inr (.inr (.inr (.inr f31)))))] ++ pl6) H ∧ va_D A ([(h0, .inr (1, mX1 h1 h6 h13 h21 h36 h37 h39 h40 h41 h42 h43 h44 h45 h46 h47 h48 v0)), (h13, .inr (7, mX7 h14 h15 h16 h17 h18 h19 h20 v13)), (h20, zi k20 270 f20), (h39, zi k39 40 f39), (h40, zi k40 40 (a6_ 0)), (h36, .inl (k36, 40, .inr (.inr (.inr (.inr f36))))), (h41, zi k41 40 f41), (h31, .inl (k31, 400, .inr (.inr (.inr (.inr f31)))))] ++ pl6) ∧ va_S A s.heap H locs ∧ lv_has ls 6 [(0, .ref h0), (1, .int (u6_ 0)), (2, .int (u6_ 1)), (3, .int (u6_ 2)), (4, .int z28), (5, .int z42)] ∧ (0 ≤ z28.toInt ∧ z28.toInt ≤ 12) ∧ (zWkj f20 f39 (a6_ 0) (zNvv k41 f36 pl0) (u6_ 0).toInt (u6_ 1).toInt (u6_ 2).toInt z28.toInt z42.toInt) ∧ (4 < z28.toInt ∨ 40 ≤ (u6_ 0).toInt ∨ 40 ≤ z42.toInt) ∧ (zRd h22 f31 pl6) ∧ (zPs k41 f36 pl6) ∧ (zOt pl0 pl6) ∧ (zPe pl0 pl6) := ⟨hP, hD, hS, lv_sub hl [2, 3, 4, 5, 1, 0] rfl, (by first | with_reducible assumption | exact ⟨by omega, by omega⟩), by exact hwj9, by omega, by assumption, by assumption, by first | assumption | exact zOt_rf, by first | assumption | exact zPe_rf⟩
              exact hJ85 H locs ls (fun _ => 0) (fun _ => 0) (fun _ => (fun _ => 0)) (fun _ => (fun _ => 0)) ⟨(fun _ => (fun _ => none)), pl6, hc⟩
            · skip
              have b_ := zF_ge rfl zk_40 c_
              refine lv_iload hx hb dX1_works_64 (lv_at hl 0 rfl) ?_
              refine lv_istore_n (lv' := [(2, .int z42), (5, .int z42), (4, .int z28), (0, .ref h0), (1, .int (u6_ 0)), (3, .int (u6_ 2))]) hx hb dX1_works_66 rfl hl (by decide) rfl (fun ls hl => ?_)
              refine lv_aload_n hx hb dX1_works_67 rfl (lv_at hl 3 rfl) ?_
              refine va_get (D := (dC, dI)) (ci := 1) (v := .ref h40) (C := RX1) (T := TX1) (N := 17) hx hb hG zuX1 hown hK hP 0 rfl rfl 7 (by decide) (hG _ zv511) (fun _ h9 => h9) rfl dX1_works_68 ?_
              refine lv_iload_n hx hb dX1_works_71 rfl (lv_at hl 4 rfl) ?_
              refine lv_aload_n hx hb dX1_works_72 rfl (lv_at hl 3 rfl) ?_
              refine va_get (D := (dC, dI)) (ci := 1) (v := .ref h39) (C := RX1) (T := TX1) (N := 17) hx hb hG zuX1 hown hK hP 0 rfl rfl 6 (by decide) (hG _ zv510) (fun _ h9 => h9) rfl dX1_works_73 ?_
              refine lv_iload_n hx hb dX1_works_76 rfl (lv_at hl 0 rfl) ?_
              refine va_zald hx hb hK hP 3 1 rfl rfl (zin_lit ⟨by omega, by omega⟩) dX1_works_77 ?_
              refine lv_topi (fun z77 e_z77 => ?_)
              refine va_zast hx hb hK hP hD hS 4 2 rfl rfl (zin_lit ⟨by omega, by omega⟩) dX1_works_78 (fun H locs hP hD hS => ?_)
              obtain ⟨f_78, e_f_78⟩ : ∃ z : Nat → Int32, z = upd (a6_ 0) ((u6_ 0) : Int32).toNatClampNeg (vp_nar .boolean z77) := ⟨_, rfl⟩
              have hP : va_P (dC, dI) vwCl ([(h0, .inr (1, mX1 h1 h6 h13 h21 h36 h37 h39 h40 h41 h42 h43 h44 h45 h46 h47 h48 v0)), (h13, .inr (7, mX7 h14 h15 h16 h17 h18 h19 h20 v13)), (h20, zi k20 270 f20), (h39, zi k39 40 f39), (h40, zi k40 40 f_78), (h36, .inl (k36, 40, .inr (.inr (.inr (.inr f36))))), (h41, zi k41 40 f41), (h31, .inl (k31, 400, .inr (.inr (.inr (.inr f31)))))] ++ pl6) H := by rw [e_f_78]; exact hP
              have hD : va_D A ([(h0, .inr (1, mX1 h1 h6 h13 h21 h36 h37 h39 h40 h41 h42 h43 h44 h45 h46 h47 h48 v0)), (h13, .inr (7, mX7 h14 h15 h16 h17 h18 h19 h20 v13)), (h20, zi k20 270 f20), (h39, zi k39 40 f39), (h40, zi k40 40 f_78), (h36, .inl (k36, 40, .inr (.inr (.inr (.inr f36))))), (h41, zi k41 40 f41), (h31, .inl (k31, 400, .inr (.inr (.inr (.inr f31)))))] ++ pl6) := by rw [e_f_78]; exact hD
              obtain ⟨z79, e_z79⟩ : ∃ z : Int32, z = (u6_ 0) + Int32.ofInt 1 := ⟨_, rfl⟩
              have b_ := zadd (x := (u6_ 0)) (y := Int32.ofInt 1) rfl (show (Int32.ofInt 1).toInt = 1 from by decide) e_z79 (by omega) (by omega)
              refine lv_iinc (v := z79) (lv' := [(1, .int z79), (2, .int z42), (5, .int z42), (4, .int z28), (0, .ref h0), (3, .int (u6_ 2))]) hx hb dX1_works_79 hl (k := 4) rfl e_z79.symm (by decide) rfl (fun ls hl => ?_)
              refine lv_goto (tgt := 200) hx hb dX1_works_82 (by decide) ?_
              obtain ⟨z200, e_z200⟩ : ∃ z : Int32, z = (u6_ 2) + Int32.ofInt 1 := ⟨_, rfl⟩
              have b_ := zadd (x := (u6_ 2)) (y := Int32.ofInt 1) rfl (show (Int32.ofInt 1).toInt = 1 from by decide) e_z200 (by omega) (by omega)
              refine lv_iinc (v := z200) (lv' := [(3, .int z200), (1, .int z79), (2, .int z42), (5, .int z42), (4, .int z28), (0, .ref h0)]) hx hb dX1_works_200 hl (k := 5) rfl e_z200.symm (by decide) rfl (fun ls hl => ?_)
              have hwk9 : zWki f20 f39 f_78 (zNvv k41 f36 pl0) z79.toInt z42.toInt z200.toInt := zWki_l hwj9 (by omega) (by omega) (by omega) (by omega) e_z77 e_f_78 (by omega) (by omega) (by omega)
              refine lv_goto (tgt := 6) hx hb dX1_works_203 (by decide) ?_
              have hc : va_P (dC, dI) vwCl ([(h0, .inr (1, mX1 h1 h6 h13 h21 h36 h37 h39 h40 h41 h42 h43 h44 h45 h46 h47 h48 v0)), (h13, .inr (7, mX7 h14 h15 h16 h17 h18 h19 h20 v13)), (h20, zi k20 270 f20), (h39, zi k39 40 f39), (h40, zi k40 40 f_78), (h36, .inl (k36, 40, .inr (.inr (.inr (.inr f36))))), (h41, zi k41 40 f41), (h31, .inl (k31, 400, .inr (.inr (.inr (.inr f31)))))] ++ pl6) H ∧ va_D A ([(h0, .inr (1, mX1 h1 h6 h13 h21 h36 h37 h39 h40 h41 h42 h43 h44 h45 h46 h47 h48 v0)), (h13, .inr (7, mX7 h14 h15 h16 h17 h18 h19 h20 v13)), (h20, zi k20 270 f20), (h39, zi k39 40 f39), (h40, zi k40 40 f_78), (h36, .inl (k36, 40, .inr (.inr (.inr (.inr f36))))), (h41, zi k41 40 f41), (h31, .inl (k31, 400, .inr (.inr (.inr (.inr f31)))))] ++ pl6) ∧ va_S A s.heap H locs ∧ lv_has ls 6 [(0, .ref h0), (1, .int z79), (2, .int z42), (3, .int z200)] ∧ (0 ≤ z79.toInt ∧ z79.toInt ≤ 40) ∧ ((-1) ≤ z42.toInt ∧ z42.toInt ≤ 39) ∧ (0 ≤ z200.toInt ∧ z200.toInt ≤ 299) ∧ (zWki f20 f39 f_78 (zNvv k41 f36 pl0) z79.toInt z42.toInt z200.toInt) ∧ (z200.toInt ≤ (v13 9).toInt) ∧ (zRd h22 f31 pl6) ∧ (zPs k41 f36 pl6) ∧ (zOt pl0 pl6) ∧ (zPe pl0 pl6) := ⟨hP, hD, hS, lv_sub hl [5, 1, 2, 0] rfl, (by first | with_reducible assumption | exact ⟨by omega, by omega⟩), (by first | with_reducible assumption | exact ⟨by omega, by omega⟩), (by first | with_reducible assumption | exact ⟨by omega, by omega⟩), by first | exact hwk9 | exact zWki_0 (by decide) (by decide) (by decide), by omega, by assumption, by assumption, by first | assumption | exact zOt_rf, by first | assumption | exact zPe_rf⟩
              exact hJ6 H locs ls (fun i => ([z79, z42, z200] : List (Int32)).getD i 0) (fun _ => 0) (fun i => ([f_78] : List (Nat → Int32)).getD i (fun _ => 0)) (fun _ => (fun _ => 0)) ⟨(fun _ => (fun _ => none)), pl6, hc⟩ (show (299 - z200.toInt).toNat < (299 - (u6_ 2).toInt).toNat from by omega)
  · skip
    have hc : va_P (dC, dI) vwCl ([(h0, .inr (1, mX1 h1 h6 h13 h21 h36 h37 h39 h40 h41 h42 h43 h44 h45 h46 h47 h48 v0)), (h13, .inr (7, mX7 h14 h15 h16 h17 h18 h19 h20 v13)), (h20, zi k20 270 f20), (h39, zi k39 40 f39), (h40, zi k40 40 f40), (h36, .inl (k36, 40, .inr (.inr (.inr (.inr f36))))), (h41, zi k41 40 f41), (h31, .inl (k31, 400, .inr (.inr (.inr (.inr f31)))))] ++ pl0) s.heap ∧ va_D A ([(h0, .inr (1, mX1 h1 h6 h13 h21 h36 h37 h39 h40 h41 h42 h43 h44 h45 h46 h47 h48 v0)), (h13, .inr (7, mX7 h14 h15 h16 h17 h18 h19 h20 v13)), (h20, zi k20 270 f20), (h39, zi k39 40 f39), (h40, zi k40 40 f40), (h36, .inl (k36, 40, .inr (.inr (.inr (.inr f36))))), (h41, zi k41 40 f41), (h31, .inl (k31, 400, .inr (.inr (.inr (.inr f31)))))] ++ pl0) ∧ va_S A s.heap s.heap [] ∧ lv_has ls 6 [(0, .ref h0), (1, .int 0), (2, .int (-1)), (3, .int 0)] ∧ (0 ≤ (0 : Int32).toInt ∧ (0 : Int32).toInt ≤ 40) ∧ ((-1) ≤ ((-1) : Int32).toInt ∧ ((-1) : Int32).toInt ≤ 39) ∧ (0 ≤ (0 : Int32).toInt ∧ (0 : Int32).toInt ≤ 299) ∧ (zWki f20 f39 f40 (zNvv k41 f36 pl0) (0 : Int32).toInt ((-1) : Int32).toInt (0 : Int32).toInt) ∧ ((0 : Int32).toInt ≤ (v13 9).toInt) ∧ (zRd h22 f31 pl0) ∧ (zPs k41 f36 pl0) ∧ (zOt pl0 pl0) ∧ (zPe pl0 pl0) := ⟨hP, hD, hS, lv_sub hl [3, 2, 1, 0] rfl, (by first | with_reducible assumption | exact ⟨by omega, by omega⟩), (by first | with_reducible assumption | exact ⟨by omega, by omega⟩), (by first | with_reducible assumption | exact ⟨by omega, by omega⟩), by first | exact hwk9 | exact zWki_0 (by decide) (by decide) (by decide), by omega, by assumption, by assumption, by first | assumption | exact zOt_rf, by first | assumption | exact zPe_rf⟩
    exact hJ6 s.heap [] ls (fun i => ([0, (-1), 0] : List (Int32)).getD i 0) (fun _ => 0) (fun i => ([f40] : List (Nat → Int32)).getD i (fun _ => 0)) (fun _ => (fun _ => 0)) ⟨(fun _ => (fun _ => none)), pl0, hc⟩
set_option maxHeartbeats 8000000 in
set_option maxRecDepth 100000 in
theorem sX5_tenFrom_0 (l : Launch) (dC : Nat → ClassId) (dI : Nat → Nat → Nat) (adK adV : Nat → Nat) (h0 : Nat) (h1 : Nat) (k1 : ClassId) (sz : Nat) (f1 : Nat → Int32) (x1 : Int32) (hx1 : 0 ≤ x1.toInt ∧ x1.toInt ≤ 831) : Met l yX5_tenFrom (zw yX5_tenFrom cX5_tenFrom 5 (some .int)) { frames := 0, cells := 0, slots := 0, locals := 0 } (zPc dC dI adK adV [.ref h0, .int x1] sz [(h0, .inr (5, mX5 h1)), (h1, zi k1 26 f1)] [(k1, .int)]) (va_Qi (fun (r : Int32) (u : Nat → Int32) => (0 ≤ r.toInt ∧ r.toInt ≤ 1023) ∧ (zTfr f1 x1.toInt (r : Int32))) (fun (u : Nat → Int32) (t : State) => ∃ (ww : Nat → Int64) (aa : Nat → Nat → Int32) (bb : Nat → Nat → Int64), va_P (dC, dI) vwCl [(h0, .inr (5, mX5 h1)), (h1, zi k1 26 f1)] t.heap ∧ va_K (dC, dI) vwCl [(k1, .int)] t ∧ va_D (va_A [(h0, .inr (5, mX5 h1)), (h1, zi k1 26 f1)] sz) [(h0, .inr (5, mX5 h1)), (h1, zi k1 26 f1)]) (va_A [(h0, .inr (5, mX5 h1)), (h1, zi k1 26 f1)] sz)) 0 0 (va_A [(h0, .inr (5, mX5 h1)), (h1, zi k1 26 f1)] sz) := by
  refine Met.ofW (cc := cX5_tenFrom) (maxL := 5) (ret := (some .int)) (by decide) rfl ?_
  intro p e s m args below meth c s₁ B hml hv
  obtain ⟨rfl, hsz, hP, hK, hD0, hE, hZ⟩ := hv
  have hx := B.exec
  have hb := B.bytes
  have hr := B.returns
  have hG : ∀ w ∈ zG, w.before _ s = true := fun w h => atoms_spec (ws := (zw yX5_tenFrom cX5_tenFrom 5 (some .int))) B.pre w (List.mem_cons_of_mem _ h)
  have hown : s.vm.findClass RX5 = some m.cls := findClass_of_methodNamed B.named
  have hlocks := B.notSynchronized

  subst hsz
  have hD := hD0.self (sz := s.heap.size)
  generalize hAe : va_A [(h0, .inr (5, mX5 h1)), (h1, zi k1 26 f1)] s.heap.size = A at hD hZ ⊢
  have hA : ∀ q : Nat, s.heap.size ≤ q → A q := fun q h => by rw [← hAe]; exact Or.inr h
  have hS : va_S A s.heap s.heap [] := va_S.rf
  have hl := lv_entry ([.ref h0, .int x1]) (n := 5) (Nat.le_of_ble_eq_true rfl)
  rw [lg_entry_eq]
  generalize (lg_sl ([.ref h0, .int x1]) ++ List.replicate (5 - (lg_sl ([.ref h0, .int x1])).length) Slot.unset).toArray = ls at hl ⊢
  have hl : lv_has ls 5 [(0, .ref h0), (1, .int x1)] := hl
  refine lv_iload_n hx hb dX5_tenFrom_0 rfl (lv_at hl 1 rfl) ?_
  refine lv_bipush (v := 32) hx hb dX5_tenFrom_1 (by decide) ?_
  refine lv_idiv hx hb dX5_tenFrom_3 (by decide) ?_
  refine lv_topi (fun z3 e_z3 => ?_)
  have b_ := zdiv rfl zk_32 e_z3 (by omega) (by decide)
  refine lv_istore_n (lv' := [(2, .int z3), (0, .ref h0), (1, .int x1)]) hx hb dX5_tenFrom_4 rfl hl (by decide) rfl (fun ls hl => ?_)
  refine lv_aload_n hx hb dX5_tenFrom_5 rfl (lv_at hl 1 rfl) ?_
  refine va_get (D := (dC, dI)) (ci := 5) (v := .ref h1) (C := RX5) (T := TX5) (N := 1) hx hb hG zuX5 hown hK hP 0 rfl rfl 0 (by decide) (hG _ zv458) (fun _ h9 => h9) rfl dX5_tenFrom_6 ?_
  refine lv_iload_n hx hb dX5_tenFrom_9 rfl (lv_at hl 0 rfl) ?_
  refine va_iald hx hb hK hP 1 0 rfl rfl (zin_lit ⟨by omega, by omega⟩) dX5_tenFrom_10 ?_
  refine lv_topi (fun z10 e_z10 => ?_)
  refine lv_i2l hx hb dX5_tenFrom_11 rfl ?_
  refine lv_topl (fun y_11 e_y_11 => ?_)
  refine lv_ldc2 hx hb hown (hG _ zv1346) dX5_tenFrom_12 ?_
  refine lv_land hx hb dX5_tenFrom_15 ?_
  refine lv_topl (fun y_15 e_y_15 => ?_)
  refine lv_lstore_n (lv' := [(3, .long y_15), (2, .int z3), (0, .ref h0), (1, .int x1)]) hx hb dX5_tenFrom_16 rfl hl (by decide) rfl (fun ls hl => ?_)
  refine lv_iload_n hx hb dX5_tenFrom_17 rfl (lv_at hl 1 rfl) ?_
  refine lv_iconst (v := 1) hx hb dX5_tenFrom_18 (by decide) ?_
  refine lv_iadd hx hb dX5_tenFrom_19 ?_
  refine lv_topi (fun z19 e_z19 => ?_)
  have b_ := zadd rfl zk_1 e_z19 (by omega) (by omega)
  refine lv_bipush (v := 26) hx hb dX5_tenFrom_20 (by decide) ?_
  refine lv_icmp_ge (tgt := 40) hx hb dX5_tenFrom_22 (by decide) (fun c_ => ?_) (fun c_ => ?_)
  · skip
    have b_ := zT_ge rfl zk_26 c_
    refine lv_lload_n hx hb dX5_tenFrom_40 rfl (lv_at hl 0 rfl) ?_
    refine lv_iload_n hx hb dX5_tenFrom_41 rfl (lv_at hl 3 rfl) ?_
    refine lv_bipush (v := 32) hx hb dX5_tenFrom_42 (by decide) ?_
    refine lv_irem hx hb dX5_tenFrom_44 (by decide) ?_
    refine lv_topi (fun z44 e_z44 => ?_)
    have b_ := zrem rfl zk_32 e_z44 (by omega) (by decide)
    refine lv_lushr hx hb dX5_tenFrom_45 rfl ?_
    refine lv_topl (fun y_45 e_y_45 => ?_)
    refine lv_l2i hx hb dX5_tenFrom_46 rfl ?_
    refine lv_topi (fun z46 e_z46 => ?_)
    refine lv_sipush (v := 1023) hx hb dX5_tenFrom_47 (by decide) ?_
    have b_ : -2147483648 ≤ z46.toInt ∧ z46.toInt ≤ 2147483647 := ⟨zlo _, zhi _⟩
    refine lv_iand hx hb dX5_tenFrom_50 ?_
    refine lv_topi (fun z50 e_z50 => ?_)
    have b_ := zand (x := z46) zk_1023 e_z50 (by decide)
    refine W.widen (k := 0) (n := 0) (by decide) (by decide) ?_
    have hpost : (0 ≤ z50.toInt ∧ z50.toInt ≤ 1023) ∧ (zTfr f1 x1.toInt (z50 : Int32)) := ⟨(by first | with_reducible assumption | exact ⟨by omega, by omega⟩), by first | exact zTfr_1 e_z10 (by omega) (by omega) e_y_11 e_y_15 (by omega) e_y_45 e_z46 e_z50 (by omega) (by omega) | exact zTfr_2 e_z10 (by omega) (by omega) e_y_11 e_y_15 e_z33 (by omega) e_y_34 e_y_37 e_y_38 (by omega) e_y_45 e_z46 e_z50 (by omega) (by omega)⟩
    have hP9 : va_P (dC, dI) vwCl [(h0, .inr (5, mX5 h1)), (h1, zi k1 26 f1)] s.heap := hP
    have hD9 : va_D A [(h0, .inr (5, mX5 h1)), (h1, zi k1 26 f1)] := hD
    exact W.iret (v := z50) hx hb hr (fun t ht hW => ⟨⟨z50, (fun _ => 0), rfl, hpost, (fun _ => 0), (fun _ => (fun _ => 0)), (fun _ => (fun _ => 0)), by rw [ht]; exact hP9, va_K.moved hW.alike hK, hD9⟩, hS.F ht⟩) hS.2.2 dX5_tenFrom_51
  · skip
    have b_ := zF_ge rfl zk_26 c_
    refine lv_lload_n hx hb dX5_tenFrom_25 rfl (lv_at hl 0 rfl) ?_
    refine lv_aload_n hx hb dX5_tenFrom_26 rfl (lv_at hl 2 rfl) ?_
    refine va_get (D := (dC, dI)) (ci := 5) (v := .ref h1) (C := RX5) (T := TX5) (N := 1) hx hb hG zuX5 hown hK hP 0 rfl rfl 0 (by decide) (hG _ zv458) (fun _ h9 => h9) rfl dX5_tenFrom_27 ?_
    refine lv_iload_n hx hb dX5_tenFrom_30 rfl (lv_at hl 1 rfl) ?_
    refine lv_iconst (v := 1) hx hb dX5_tenFrom_31 (by decide) ?_
    refine lv_iadd hx hb dX5_tenFrom_32 ?_
    refine lv_topi (fun z32 e_z32 => ?_)
    have b_ := zadd rfl zk_1 e_z32 (by omega) (by omega)
    refine va_iald hx hb hK hP 1 0 rfl rfl (zin_lit ⟨by omega, by omega⟩) dX5_tenFrom_33 ?_
    refine lv_topi (fun z33 e_z33 => ?_)
    refine lv_i2l hx hb dX5_tenFrom_34 rfl ?_
    refine lv_topl (fun y_34 e_y_34 => ?_)
    refine lv_bipush (v := 32) hx hb dX5_tenFrom_35 (by decide) ?_
    refine lv_lshl hx hb dX5_tenFrom_37 rfl ?_
    refine lv_topl (fun y_37 e_y_37 => ?_)
    refine lv_lor hx hb dX5_tenFrom_38 ?_
    refine lv_topl (fun y_38 e_y_38 => ?_)
    refine lv_lstore_n (lv' := [(3, .long y_38), (2, .int z3), (0, .ref h0), (1, .int x1)]) hx hb dX5_tenFrom_39 rfl hl (by decide) rfl (fun ls hl => ?_)
    refine lv_lload_n hx hb dX5_tenFrom_40 rfl (lv_at hl 0 rfl) ?_
    refine lv_iload_n hx hb dX5_tenFrom_41 rfl (lv_at hl 3 rfl) ?_
    refine lv_bipush (v := 32) hx hb dX5_tenFrom_42 (by decide) ?_
    refine lv_irem hx hb dX5_tenFrom_44 (by decide) ?_
    refine lv_topi (fun z44 e_z44 => ?_)
    have b_ := zrem rfl zk_32 e_z44 (by omega) (by decide)
    refine lv_lushr hx hb dX5_tenFrom_45 rfl ?_
    refine lv_topl (fun y_45 e_y_45 => ?_)
    refine lv_l2i hx hb dX5_tenFrom_46 rfl ?_
    refine lv_topi (fun z46 e_z46 => ?_)
    refine lv_sipush (v := 1023) hx hb dX5_tenFrom_47 (by decide) ?_
    have b_ : -2147483648 ≤ z46.toInt ∧ z46.toInt ≤ 2147483647 := ⟨zlo _, zhi _⟩
    refine lv_iand hx hb dX5_tenFrom_50 ?_
    refine lv_topi (fun z50 e_z50 => ?_)
    have b_ := zand (x := z46) zk_1023 e_z50 (by decide)
    refine W.widen (k := 0) (n := 0) (by decide) (by decide) ?_
    have hpost : (0 ≤ z50.toInt ∧ z50.toInt ≤ 1023) ∧ (zTfr f1 x1.toInt (z50 : Int32)) := ⟨(by first | with_reducible assumption | exact ⟨by omega, by omega⟩), by first | exact zTfr_1 e_z10 (by omega) (by omega) e_y_11 e_y_15 (by omega) e_y_45 e_z46 e_z50 (by omega) (by omega) | exact zTfr_2 e_z10 (by omega) (by omega) e_y_11 e_y_15 e_z33 (by omega) e_y_34 e_y_37 e_y_38 (by omega) e_y_45 e_z46 e_z50 (by omega) (by omega)⟩
    have hP9 : va_P (dC, dI) vwCl [(h0, .inr (5, mX5 h1)), (h1, zi k1 26 f1)] s.heap := hP
    have hD9 : va_D A [(h0, .inr (5, mX5 h1)), (h1, zi k1 26 f1)] := hD
    exact W.iret (v := z50) hx hb hr (fun t ht hW => ⟨⟨z50, (fun _ => 0), rfl, hpost, (fun _ => 0), (fun _ => (fun _ => 0)), (fun _ => (fun _ => 0)), by rw [ht]; exact hP9, va_K.moved hW.alike hK, hD9⟩, hS.F ht⟩) hS.2.2 dX5_tenFrom_51
set_option maxHeartbeats 8000000 in
set_option maxRecDepth 100000 in
theorem sX5_fullest_0 (l : Launch) (dC : Nat → ClassId) (dI : Nat → Nat → Nat) (adK adV : Nat → Nat) (h0 : Nat) (h1 : Nat) (k1 : ClassId) (sz : Nat) (f1 : Nat → Int32) : Met l yX5_fullest (zw yX5_fullest cX5_fullest 6 (some .int)) { frames := 2, cells := 0, slots := 0, locals := 44 } (zPc dC dI adK adV [.ref h0] sz [(h0, .inr (5, mX5 h1)), (h1, zi k1 26 f1)] [(k1, .int)]) (va_Qi (fun (r : Int32) (u : Nat → Int32) => ((-1) ≤ r.toInt ∧ r.toInt ≤ 832) ∧ (zFuP (fun q_ => zpb f1 q_ = true) r.toInt)) (fun (u : Nat → Int32) (t : State) => ∃ (ww : Nat → Int64) (aa : Nat → Nat → Int32) (bb : Nat → Nat → Int64), va_P (dC, dI) vwCl [(h0, .inr (5, mX5 h1)), (h1, zi k1 26 f1)] t.heap ∧ va_K (dC, dI) vwCl [(k1, .int)] t ∧ va_D (va_A [(h0, .inr (5, mX5 h1)), (h1, zi k1 26 f1)] sz) [(h0, .inr (5, mX5 h1)), (h1, zi k1 26 f1)]) (va_A [(h0, .inr (5, mX5 h1)), (h1, zi k1 26 f1)] sz)) 0 0 (va_A [(h0, .inr (5, mX5 h1)), (h1, zi k1 26 f1)] sz) := by
  refine Met.ofW (cc := cX5_fullest) (maxL := 6) (ret := (some .int)) (by decide) rfl ?_
  intro p e s m args below meth c s₁ B hml hv
  obtain ⟨rfl, hsz, hP, hK, hD0, hE, hZ⟩ := hv
  have hx := B.exec
  have hb := B.bytes
  have hr := B.returns
  have hG : ∀ w ∈ zG, w.before _ s = true := fun w h => atoms_spec (ws := (zw yX5_fullest cX5_fullest 6 (some .int))) B.pre w (List.mem_cons_of_mem _ h)
  have hown : s.vm.findClass RX5 = some m.cls := findClass_of_methodNamed B.named
  have hlocks := B.notSynchronized

  subst hsz
  have hD := hD0.self (sz := s.heap.size)
  generalize hAe : va_A [(h0, .inr (5, mX5 h1)), (h1, zi k1 26 f1)] s.heap.size = A at hD hZ ⊢
  have hA : ∀ q : Nat, s.heap.size ≤ q → A q := fun q h => by rw [← hAe]; exact Or.inr h
  have hS : va_S A s.heap s.heap [] := va_S.rf
  have hl := lv_entry ([.ref h0]) (n := 6) (Nat.le_of_ble_eq_true rfl)
  rw [lg_entry_eq]
  generalize (lg_sl ([.ref h0]) ++ List.replicate (6 - (lg_sl ([.ref h0])).length) Slot.unset).toArray = ls at hl ⊢
  have hl : lv_has ls 6 [(0, .ref h0)] := hl
  have b_ := zk_m1
  have b_ := zk_0
  refine lv_iconst (v := (-1)) hx hb dX5_fullest_0 (by decide) ?_
  refine lv_istore_n (lv' := [(1, .int (-1)), (0, .ref h0)]) hx hb dX5_fullest_1 rfl hl (by decide) rfl (fun ls hl => ?_)
  refine lv_iconst (v := 0) hx hb dX5_fullest_2 (by decide) ?_
  refine lv_istore_n (lv' := [(2, .int 0), (1, .int (-1)), (0, .ref h0)]) hx hb dX5_fullest_3 rfl hl (by decide) rfl (fun ls hl => ?_)
  refine lv_aload_n hx hb dX5_fullest_4 rfl (lv_at hl 2 rfl) ?_
  refine lv_iconst (v := 0) hx hb dX5_fullest_5 (by decide) ?_
  have hPc := hP.sub (ws' := [(h0, .inr (5, mX5 h1)), (h1, zi k1 26 f1)]) [0, 1] rfl
  have hDc := hD.sub (ws' := [(h0, .inr (5, mX5 h1)), (h1, zi k1 26 f1)]) [0, 1] (by decide) rfl
  have hKc := hK.sub (tys' := [(k1, .int)]) [0] rfl
  have hFc := va_free (wc := [(h0, .inr (5, mX5 h1)), (h1, zi k1 26 f1)]) hD hS hA [0, 1] rfl
  refine va_calli (va_runV (As := [.int 0]) (rest := []) ⟨hx, hb, hml, hown, hG⟩ (sX5_nextFrom_0 l dC dI adK adV h0 h1 k1 s.heap.size f1 0) (cwV 1 hG (zgV zv1314 zv1315 zv1316 zv139 zv1317) rfl rfl rfl (by decide +kernel) ⟨Nat.le_of_ble_eq_true rfl, Nat.le_of_ble_eq_true rfl⟩) ⟨zPc_blind, va_recv hKc hPc (ci := 5) (q0 := 0) rfl rfl, zPc_pre hPc hKc hDc hE hS hFc hZ⟩ rfl rfl hl.1 rfl (lv_room (Nat.le_of_ble_eq_true rfl)) dX5_fullest_6 ⟨Nat.le_of_ble_eq_true rfl, Nat.le_of_ble_eq_true rfl⟩) hS (fun q _ h => hFc q h) hFc (fun r6_ u6_ t H1 locs ht hvm hw hB hz1 hk1 hS => ?_)
  replace hw : ((-1) ≤ r6_.toInt ∧ r6_.toInt ≤ 832) ∧ (r6_.toInt ≤ 831) ∧ (zNf f1 (0 : Int32).toInt r6_.toInt) := hw
  obtain ⟨b_, hX6_0, hX6_1⟩ := hw
  obtain ⟨w6_, a6_, b6_, hP1, hK1, hD1⟩ := hB
  rw [ht] at hP1
  obtain ⟨hP, hD⟩ := va_join (wr := []) (w1 := [(h0, .inr (5, mX5 h1)), (h1, zi k1 26 f1)]) hP hD [0, 1] [] rfl rfl (by decide) (by decide) hk1 hFc hP1 hD1
  have hP : va_P (dC, dI) vwCl [(h0, .inr (5, mX5 h1)), (h1, zi k1 26 f1)] H1 := hP.sub [0, 1] rfl
  have hD : va_D A [(h0, .inr (5, mX5 h1)), (h1, zi k1 26 f1)] := hD.sub [0, 1] (by decide) rfl
  generalize H1 = H at hP hS ⊢
  clear hz1
  refine lv_istore_n (lv' := [(3, .int r6_), (2, .int 0), (1, .int (-1)), (0, .ref h0)]) hx hb dX5_fullest_9 rfl hl (by decide) rfl (fun ls hl => ?_)
  refine lv_iconst (v := 0) hx hb dX5_fullest_10 (by decide) ?_
  refine lv_istore (lv' := [(4, .int 0), (3, .int r6_), (2, .int 0), (1, .int (-1)), (0, .ref h0)]) hx hb dX5_fullest_11 hl (by decide) rfl (fun ls hl => ?_)
  refine zcutL (fun u13_ => (832 - (u13_ 3).toInt).toNat) (fun H locs ls u13_ w13_ a13_ b13_ => va_P (dC, dI) vwCl [(h0, .inr (5, mX5 h1)), (h1, zi k1 26 f1)] H ∧ va_D A [(h0, .inr (5, mX5 h1)), (h1, zi k1 26 f1)] ∧ va_S A s.heap H locs ∧ lv_has ls 6 [(0, .ref h0), (1, .int (u13_ 0)), (2, .int (u13_ 1)), (3, .int (u13_ 2)), (4, .int (u13_ 3))] ∧ ((-1) ≤ (u13_ 0).toInt ∧ (u13_ 0).toInt ≤ 832) ∧ (0 ≤ (u13_ 1).toInt ∧ (u13_ 1).toInt ≤ 63) ∧ ((-1) ≤ (u13_ 2).toInt ∧ (u13_ 2).toInt ≤ 831) ∧ (0 ≤ (u13_ 3).toInt ∧ (u13_ 3).toInt ≤ 832) ∧ (zFlI f1 (u13_ 0).toInt (u13_ 1).toInt (u13_ 2).toInt (u13_ 3).toInt)) (fun ls u13_ w13_ => F0 m 13 ls []) 0 0 ?_ (fun hJ13 => ?_)
  · skip
    intro H locs ls u13_ w13_ a13_ b13_ hc hJ13
    obtain ⟨hP, hD, hS, hl, b_, b_, b_, b_, hI13_0⟩ := hc
    refine lv_iload hx hb dX5_fullest_13 (lv_at hl 4 rfl) ?_
    refine lv_sipush (v := 832) hx hb dX5_fullest_15 (by decide) ?_
    refine lv_icmp_ge (tgt := 61) hx hb dX5_fullest_18 (by decide) (fun c_ => ?_) (fun c_ => ?_)
    · skip
      have b_ := zT_ge rfl zk_832 c_
      refine lv_iload_n hx hb dX5_fullest_61 rfl (lv_at hl 1 rfl) ?_
      refine W.widen (k := 0) (n := 0) (by decide) (by decide) ?_
      have hpost : ((-1) ≤ (u13_ 0).toInt ∧ (u13_ 0).toInt ≤ 832) ∧ (zFuP (fun q_ => zpb f1 q_ = true) (u13_ 0).toInt) := ⟨(by first | with_reducible assumption | exact ⟨by omega, by omega⟩), by exact zFlI_e hI13_0 (by omega) rfl⟩
      have hP9 : va_P (dC, dI) vwCl [(h0, .inr (5, mX5 h1)), (h1, zi k1 26 f1)] H := hP
      have hD9 : va_D A [(h0, .inr (5, mX5 h1)), (h1, zi k1 26 f1)] := hD
      exact W.iret (v := (u13_ 0)) hx hb hr (fun t ht hW => ⟨⟨(u13_ 0), (fun _ => 0), rfl, hpost, (fun _ => 0), (fun _ => (fun _ => 0)), (fun _ => (fun _ => 0)), by rw [ht]; exact hP9, va_K.moved hW.alike hK, hD9⟩, hS.F ht⟩) hS.2.2 dX5_fullest_62
    · skip
      have b_ := zF_ge rfl zk_832 c_
      refine lv_iload_n hx hb dX5_fullest_21 rfl (lv_at hl 3 rfl) ?_
      refine lv_iconst (v := (-1)) hx hb dX5_fullest_22 (by decide) ?_
      refine lv_icmp_eq (tgt := 61) hx hb dX5_fullest_23 (by decide) (fun c_ => ?_) (fun c_ => ?_)
      · skip
        have b_ := zT_eq rfl zk_m1 c_
        refine lv_iload_n hx hb dX5_fullest_61 rfl (lv_at hl 1 rfl) ?_
        refine W.widen (k := 0) (n := 0) (by decide) (by decide) ?_
        have hpost : ((-1) ≤ (u13_ 0).toInt ∧ (u13_ 0).toInt ≤ 832) ∧ (zFuP (fun q_ => zpb f1 q_ = true) (u13_ 0).toInt) := ⟨(by first | with_reducible assumption | exact ⟨by omega, by omega⟩), by exact zFlI_e hI13_0 (by omega) rfl⟩
        have hP9 : va_P (dC, dI) vwCl [(h0, .inr (5, mX5 h1)), (h1, zi k1 26 f1)] H := hP
        have hD9 : va_D A [(h0, .inr (5, mX5 h1)), (h1, zi k1 26 f1)] := hD
        exact W.iret (v := (u13_ 0)) hx hb hr (fun t ht hW => ⟨⟨(u13_ 0), (fun _ => 0), rfl, hpost, (fun _ => 0), (fun _ => (fun _ => 0)), (fun _ => (fun _ => 0)), by rw [ht]; exact hP9, va_K.moved hW.alike hK, hD9⟩, hS.F ht⟩) hS.2.2 dX5_fullest_62
      · skip
        have b_ := zF_eq rfl zk_m1 c_
        refine lv_aload_n hx hb dX5_fullest_26 rfl (lv_at hl 0 rfl) ?_
        refine lv_iload_n hx hb dX5_fullest_27 rfl (lv_at hl 3 rfl) ?_
        have hPc := hP.sub (ws' := [(h0, .inr (5, mX5 h1)), (h1, zi k1 26 f1)]) [0, 1] rfl
        have hDc := hD.sub (ws' := [(h0, .inr (5, mX5 h1)), (h1, zi k1 26 f1)]) [0, 1] (by decide) rfl
        have hKc := hK.sub (tys' := [(k1, .int)]) [0] rfl
        have hFc := va_free (wc := [(h0, .inr (5, mX5 h1)), (h1, zi k1 26 f1)]) hD hS hA [0, 1] rfl
        refine va_calli (va_runV (As := [.int (u13_ 2)]) (rest := []) ⟨hx, hb, hml, hown, hG⟩ (sX5_tenFrom_0 l dC dI adK adV h0 h1 k1 H.size f1 (u13_ 2) (show (0 : Int) ≤ ((u13_ 2) : Int32).toInt ∧ ((u13_ 2) : Int32).toInt ≤ (831 : Int) from (by first | with_reducible assumption | exact ⟨by omega, by omega⟩))) (cwV 1 hG (zgV zv1342 zv1344 zv44 zv139 zv1345) rfl rfl rfl (by decide +kernel) ⟨Nat.le_of_ble_eq_true rfl, Nat.le_of_ble_eq_true rfl⟩) ⟨zPc_blind, va_recv hKc hPc (ci := 5) (q0 := 0) rfl rfl, zPc_pre hPc hKc hDc hE hS hFc hZ⟩ rfl rfl hl.1 rfl (lv_room (Nat.le_of_ble_eq_true rfl)) dX5_fullest_28 ⟨Nat.le_of_ble_eq_true rfl, Nat.le_of_ble_eq_true rfl⟩) hS (fun q _ h => hFc q h) hFc (fun r28_ u28_ t H1 locs ht hvm hw hB hz1 hk1 hS => ?_)
        replace hw : (0 ≤ r28_.toInt ∧ r28_.toInt ≤ 1023) ∧ (zTfr f1 (u13_ 2).toInt (r28_ : Int32)) := hw
        obtain ⟨b_, hX28_0⟩ := hw
        obtain ⟨w28_, a28_, b28_, hP1, hK1, hD1⟩ := hB
        rw [ht] at hP1
        obtain ⟨hP, hD⟩ := va_join (wr := []) (w1 := [(h0, .inr (5, mX5 h1)), (h1, zi k1 26 f1)]) hP hD [0, 1] [] rfl rfl (by decide) (by decide) hk1 hFc hP1 hD1
        have hP : va_P (dC, dI) vwCl [(h0, .inr (5, mX5 h1)), (h1, zi k1 26 f1)] H1 := hP.sub [0, 1] rfl
        have hD : va_D A [(h0, .inr (5, mX5 h1)), (h1, zi k1 26 f1)] := hD.sub [0, 1] (by decide) rfl
        generalize H1 = H at hP hS ⊢
        clear hz1
        have hPc := hP.sub (ws' := []) [] rfl
        have hDc := hD.sub (ws' := []) [] (by decide) rfl
        have hKc := hK.sub (tys' := []) [] rfl
        have hFc := va_free (wc := []) hD hS hA [] rfl
        refine va_calli (va_runS (As := [.int r28_]) (rest := []) ⟨hx, hb, hml, hown, hG⟩ (sJ6_bitCount_0f7a4_0 l dC dI adK adV H.size r28_) (va_cwS 1 hG (zgS zv1292 zv1293 zv151 zv1294) rfl rfl rfl (by decide +kernel) ⟨Nat.le_of_ble_eq_true rfl, Nat.le_of_ble_eq_true rfl⟩) ⟨zPc_blind, zPc_pre hPc hKc hDc hE hS hFc hZ⟩ rfl rfl hl.1 rfl (lv_room (Nat.le_of_ble_eq_true rfl)) dX5_fullest_31 ⟨Nat.le_of_ble_eq_true rfl, Nat.le_of_ble_eq_true rfl⟩) hS (fun q _ h => hFc q h) hFc (fun r31_ u31_ t H1 locs ht hvm hw hB hz1 hk1 hS => ?_)
        replace hw : (0 ≤ r31_.toInt ∧ r31_.toInt ≤ 63) ∧ (r31_.toInt = (zbcx (r28_ : Int32) : Int)) := hw
        obtain ⟨b_, hX31_0⟩ := hw
        obtain ⟨w31_, a31_, b31_, hP1, hK1, hD1⟩ := hB
        rw [ht] at hP1
        obtain ⟨hP, hD⟩ := va_join (wr := [(h0, .inr (5, mX5 h1)), (h1, zi k1 26 f1)]) (w1 := []) hP hD [] [0, 1] rfl rfl (by decide) (by decide) hk1 hFc hP1 hD1
        have hP : va_P (dC, dI) vwCl [(h0, .inr (5, mX5 h1)), (h1, zi k1 26 f1)] H1 := hP.sub [0, 1] rfl
        have hD : va_D A [(h0, .inr (5, mX5 h1)), (h1, zi k1 26 f1)] := hD.sub [0, 1] (by decide) rfl
        generalize H1 = H at hP hS ⊢
        clear hz1
        refine lv_istore (lv' := [(5, .int r31_), (0, .ref h0), (1, .int (u13_ 0)), (2, .int (u13_ 1)), (3, .int (u13_ 2)), (4, .int (u13_ 3))]) hx hb dX5_fullest_34 hl (by decide) rfl (fun ls hl => ?_)
        refine lv_iload hx hb dX5_fullest_36 (lv_at hl 0 rfl) ?_
        refine lv_iload_n hx hb dX5_fullest_38 rfl (lv_at hl 3 rfl) ?_
        refine lv_icmp_le (tgt := 47) hx hb dX5_fullest_39 (by decide) (fun c_ => ?_) (fun c_ => ?_)
        · skip
          have b_ := zT_le rfl rfl c_
          refine lv_aload_n hx hb dX5_fullest_47 rfl (lv_at hl 1 rfl) ?_
          refine lv_iload_n hx hb dX5_fullest_48 rfl (lv_at hl 4 rfl) ?_
          refine lv_iconst (v := 1) hx hb dX5_fullest_49 (by decide) ?_
          refine lv_iadd hx hb dX5_fullest_50 ?_
          refine lv_topi (fun z50 e_z50 => ?_)
          have b_ := zadd rfl zk_1 e_z50 (by omega) (by omega)
          have hPc := hP.sub (ws' := [(h0, .inr (5, mX5 h1)), (h1, zi k1 26 f1)]) [0, 1] rfl
          have hDc := hD.sub (ws' := [(h0, .inr (5, mX5 h1)), (h1, zi k1 26 f1)]) [0, 1] (by decide) rfl
          have hKc := hK.sub (tys' := [(k1, .int)]) [0] rfl
          have hFc := va_free (wc := [(h0, .inr (5, mX5 h1)), (h1, zi k1 26 f1)]) hD hS hA [0, 1] rfl
          refine va_calli (va_runV (As := [.int z50]) (rest := []) ⟨hx, hb, hml, hown, hG⟩ (sX5_nextFrom_0 l dC dI adK adV h0 h1 k1 H.size f1 z50) (cwV 1 hG (zgV zv1314 zv1315 zv1316 zv139 zv1317) rfl rfl rfl (by decide +kernel) ⟨Nat.le_of_ble_eq_true rfl, Nat.le_of_ble_eq_true rfl⟩) ⟨zPc_blind, va_recv hKc hPc (ci := 5) (q0 := 0) rfl rfl, zPc_pre hPc hKc hDc hE hS hFc hZ⟩ rfl rfl hl.1 rfl (lv_room (Nat.le_of_ble_eq_true rfl)) dX5_fullest_51 ⟨Nat.le_of_ble_eq_true rfl, Nat.le_of_ble_eq_true rfl⟩) hS (fun q _ h => hFc q h) hFc (fun r51_ u51_ t H1 locs ht hvm hw hB hz1 hk1 hS => ?_)
          replace hw : ((-1) ≤ r51_.toInt ∧ r51_.toInt ≤ 832) ∧ (r51_.toInt ≤ 831) ∧ (zNf f1 z50.toInt r51_.toInt) := hw
          obtain ⟨b_, hX51_0, hX51_1⟩ := hw
          obtain ⟨w51_, a51_, b51_, hP1, hK1, hD1⟩ := hB
          rw [ht] at hP1
          obtain ⟨hP, hD⟩ := va_join (wr := []) (w1 := [(h0, .inr (5, mX5 h1)), (h1, zi k1 26 f1)]) hP hD [0, 1] [] rfl rfl (by decide) (by decide) hk1 hFc hP1 hD1
          have hP : va_P (dC, dI) vwCl [(h0, .inr (5, mX5 h1)), (h1, zi k1 26 f1)] H1 := hP.sub [0, 1] rfl
          have hD : va_D A [(h0, .inr (5, mX5 h1)), (h1, zi k1 26 f1)] := hD.sub [0, 1] (by decide) rfl
          generalize H1 = H at hP hS ⊢
          clear hz1
          refine lv_istore_n (lv' := [(3, .int r51_), (5, .int r31_), (0, .ref h0), (1, .int (u13_ 0)), (2, .int (u13_ 1)), (4, .int (u13_ 3))]) hx hb dX5_fullest_54 rfl hl (by decide) rfl (fun ls hl => ?_)
          obtain ⟨z55, e_z55⟩ : ∃ z : Int32, z = (u13_ 3) + Int32.ofInt 1 := ⟨_, rfl⟩
          have b_ := zadd (x := (u13_ 3)) (y := Int32.ofInt 1) rfl (show (Int32.ofInt 1).toInt = 1 from by decide) e_z55 (by omega) (by omega)
          refine lv_iinc (v := z55) (lv' := [(4, .int z55), (3, .int r51_), (5, .int r31_), (0, .ref h0), (1, .int (u13_ 0)), (2, .int (u13_ 1))]) hx hb dX5_fullest_55 hl (k := 5) rfl e_z55.symm (by decide) rfl (fun ls hl => ?_)
          refine lv_goto (tgt := 13) hx hb dX5_fullest_58 (by decide) ?_
          have hc : va_P (dC, dI) vwCl [(h0, .inr (5, mX5 h1)), (h1, zi k1 26 f1)] H ∧ va_D A [(h0, .inr (5, mX5 h1)), (h1, zi k1 26 f1)] ∧ va_S A s.heap H locs ∧ lv_has ls 6 [(0, .ref h0), (1, .int (u13_ 0)), (2, .int (u13_ 1)), (3, .int r51_), (4, .int z55)] ∧ ((-1) ≤ (u13_ 0).toInt ∧ (u13_ 0).toInt ≤ 832) ∧ (0 ≤ (u13_ 1).toInt ∧ (u13_ 1).toInt ≤ 63) ∧ ((-1) ≤ r51_.toInt ∧ r51_.toInt ≤ 831) ∧ (0 ≤ z55.toInt ∧ z55.toInt ≤ 832) ∧ (zFlI f1 (u13_ 0).toInt (u13_ 1).toInt r51_.toInt z55.toInt) := ⟨hP, hD, hS, lv_sub hl [3, 4, 5, 1, 0] rfl, (by first | with_reducible assumption | exact ⟨by omega, by omega⟩), (by first | with_reducible assumption | exact ⟨by omega, by omega⟩), (by first | with_reducible assumption | exact ⟨by omega, by omega⟩), (by first | with_reducible assumption | exact ⟨by omega, by omega⟩), by first | exact zFlI_s hI13_0 (by omega) (zTen_i hX28_0 hX31_0) hX51_1 (by omega) (Or.inl ⟨by omega, rfl, rfl⟩) (by omega) | exact zFlI_s hI13_0 (by omega) (zTen_i hX28_0 hX31_0) hX51_1 (by omega) (Or.inr ⟨by omega, rfl, rfl⟩) (by omega) | exact zFlI_0 hX6_1 (by decide) (by decide) (by decide) (by decide)⟩
          exact hJ13 H locs ls (fun i => ([(u13_ 0), (u13_ 1), r51_, z55] : List (Int32)).getD i 0) (fun _ => 0) (fun _ => (fun _ => 0)) (fun _ => (fun _ => 0)) hc (show (832 - z55.toInt).toNat < (832 - (u13_ 3).toInt).toNat from by omega)
        · skip
          have b_ := zF_le rfl rfl c_
          refine lv_iload hx hb dX5_fullest_42 (lv_at hl 0 rfl) ?_
          refine lv_istore_n (lv' := [(2, .int r31_), (5, .int r31_), (0, .ref h0), (1, .int (u13_ 0)), (3, .int (u13_ 2)), (4, .int (u13_ 3))]) hx hb dX5_fullest_44 rfl hl (by decide) rfl (fun ls hl => ?_)
          refine lv_iload_n hx hb dX5_fullest_45 rfl (lv_at hl 4 rfl) ?_
          refine lv_istore_n (lv' := [(1, .int (u13_ 2)), (2, .int r31_), (5, .int r31_), (0, .ref h0), (3, .int (u13_ 2)), (4, .int (u13_ 3))]) hx hb dX5_fullest_46 rfl hl (by decide) rfl (fun ls hl => ?_)
          refine lv_aload_n hx hb dX5_fullest_47 rfl (lv_at hl 3 rfl) ?_
          refine lv_iload_n hx hb dX5_fullest_48 rfl (lv_at hl 4 rfl) ?_
          refine lv_iconst (v := 1) hx hb dX5_fullest_49 (by decide) ?_
          refine lv_iadd hx hb dX5_fullest_50 ?_
          refine lv_topi (fun z50 e_z50 => ?_)
          have b_ := zadd rfl zk_1 e_z50 (by omega) (by omega)
          have hPc := hP.sub (ws' := [(h0, .inr (5, mX5 h1)), (h1, zi k1 26 f1)]) [0, 1] rfl
          have hDc := hD.sub (ws' := [(h0, .inr (5, mX5 h1)), (h1, zi k1 26 f1)]) [0, 1] (by decide) rfl
          have hKc := hK.sub (tys' := [(k1, .int)]) [0] rfl
          have hFc := va_free (wc := [(h0, .inr (5, mX5 h1)), (h1, zi k1 26 f1)]) hD hS hA [0, 1] rfl
          refine va_calli (va_runV (As := [.int z50]) (rest := []) ⟨hx, hb, hml, hown, hG⟩ (sX5_nextFrom_0 l dC dI adK adV h0 h1 k1 H.size f1 z50) (cwV 1 hG (zgV zv1314 zv1315 zv1316 zv139 zv1317) rfl rfl rfl (by decide +kernel) ⟨Nat.le_of_ble_eq_true rfl, Nat.le_of_ble_eq_true rfl⟩) ⟨zPc_blind, va_recv hKc hPc (ci := 5) (q0 := 0) rfl rfl, zPc_pre hPc hKc hDc hE hS hFc hZ⟩ rfl rfl hl.1 rfl (lv_room (Nat.le_of_ble_eq_true rfl)) dX5_fullest_51 ⟨Nat.le_of_ble_eq_true rfl, Nat.le_of_ble_eq_true rfl⟩) hS (fun q _ h => hFc q h) hFc (fun r51_ u51_ t H1 locs ht hvm hw hB hz1 hk1 hS => ?_)
          replace hw : ((-1) ≤ r51_.toInt ∧ r51_.toInt ≤ 832) ∧ (r51_.toInt ≤ 831) ∧ (zNf f1 z50.toInt r51_.toInt) := hw
          obtain ⟨b_, hX51_0, hX51_1⟩ := hw
          obtain ⟨w51_, a51_, b51_, hP1, hK1, hD1⟩ := hB
          rw [ht] at hP1
          obtain ⟨hP, hD⟩ := va_join (wr := []) (w1 := [(h0, .inr (5, mX5 h1)), (h1, zi k1 26 f1)]) hP hD [0, 1] [] rfl rfl (by decide) (by decide) hk1 hFc hP1 hD1
          have hP : va_P (dC, dI) vwCl [(h0, .inr (5, mX5 h1)), (h1, zi k1 26 f1)] H1 := hP.sub [0, 1] rfl
          have hD : va_D A [(h0, .inr (5, mX5 h1)), (h1, zi k1 26 f1)] := hD.sub [0, 1] (by decide) rfl
          generalize H1 = H at hP hS ⊢
          clear hz1
          refine lv_istore_n (lv' := [(3, .int r51_), (1, .int (u13_ 2)), (2, .int r31_), (5, .int r31_), (0, .ref h0), (4, .int (u13_ 3))]) hx hb dX5_fullest_54 rfl hl (by decide) rfl (fun ls hl => ?_)
          obtain ⟨z55, e_z55⟩ : ∃ z : Int32, z = (u13_ 3) + Int32.ofInt 1 := ⟨_, rfl⟩
          have b_ := zadd (x := (u13_ 3)) (y := Int32.ofInt 1) rfl (show (Int32.ofInt 1).toInt = 1 from by decide) e_z55 (by omega) (by omega)
          refine lv_iinc (v := z55) (lv' := [(4, .int z55), (3, .int r51_), (1, .int (u13_ 2)), (2, .int r31_), (5, .int r31_), (0, .ref h0)]) hx hb dX5_fullest_55 hl (k := 5) rfl e_z55.symm (by decide) rfl (fun ls hl => ?_)
          refine lv_goto (tgt := 13) hx hb dX5_fullest_58 (by decide) ?_
          have hc : va_P (dC, dI) vwCl [(h0, .inr (5, mX5 h1)), (h1, zi k1 26 f1)] H ∧ va_D A [(h0, .inr (5, mX5 h1)), (h1, zi k1 26 f1)] ∧ va_S A s.heap H locs ∧ lv_has ls 6 [(0, .ref h0), (1, .int (u13_ 2)), (2, .int r31_), (3, .int r51_), (4, .int z55)] ∧ ((-1) ≤ (u13_ 2).toInt ∧ (u13_ 2).toInt ≤ 832) ∧ (0 ≤ r31_.toInt ∧ r31_.toInt ≤ 63) ∧ ((-1) ≤ r51_.toInt ∧ r51_.toInt ≤ 831) ∧ (0 ≤ z55.toInt ∧ z55.toInt ≤ 832) ∧ (zFlI f1 (u13_ 2).toInt r31_.toInt r51_.toInt z55.toInt) := ⟨hP, hD, hS, lv_sub hl [5, 2, 3, 1, 0] rfl, (by first | with_reducible assumption | exact ⟨by omega, by omega⟩), (by first | with_reducible assumption | exact ⟨by omega, by omega⟩), (by first | with_reducible assumption | exact ⟨by omega, by omega⟩), (by first | with_reducible assumption | exact ⟨by omega, by omega⟩), by first | exact zFlI_s hI13_0 (by omega) (zTen_i hX28_0 hX31_0) hX51_1 (by omega) (Or.inl ⟨by omega, rfl, rfl⟩) (by omega) | exact zFlI_s hI13_0 (by omega) (zTen_i hX28_0 hX31_0) hX51_1 (by omega) (Or.inr ⟨by omega, rfl, rfl⟩) (by omega) | exact zFlI_0 hX6_1 (by decide) (by decide) (by decide) (by decide)⟩
          exact hJ13 H locs ls (fun i => ([(u13_ 2), r31_, r51_, z55] : List (Int32)).getD i 0) (fun _ => 0) (fun _ => (fun _ => 0)) (fun _ => (fun _ => 0)) hc (show (832 - z55.toInt).toNat < (832 - (u13_ 3).toInt).toNat from by omega)
  · skip
    have hc : va_P (dC, dI) vwCl [(h0, .inr (5, mX5 h1)), (h1, zi k1 26 f1)] H ∧ va_D A [(h0, .inr (5, mX5 h1)), (h1, zi k1 26 f1)] ∧ va_S A s.heap H locs ∧ lv_has ls 6 [(0, .ref h0), (1, .int (-1)), (2, .int 0), (3, .int r6_), (4, .int 0)] ∧ ((-1) ≤ ((-1) : Int32).toInt ∧ ((-1) : Int32).toInt ≤ 832) ∧ (0 ≤ (0 : Int32).toInt ∧ (0 : Int32).toInt ≤ 63) ∧ ((-1) ≤ r6_.toInt ∧ r6_.toInt ≤ 831) ∧ (0 ≤ (0 : Int32).toInt ∧ (0 : Int32).toInt ≤ 832) ∧ (zFlI f1 ((-1) : Int32).toInt (0 : Int32).toInt r6_.toInt (0 : Int32).toInt) := ⟨hP, hD, hS, lv_sub hl [4, 3, 2, 1, 0] rfl, (by first | with_reducible assumption | exact ⟨by omega, by omega⟩), (by first | with_reducible assumption | exact ⟨by omega, by omega⟩), (by first | with_reducible assumption | exact ⟨by omega, by omega⟩), (by first | with_reducible assumption | exact ⟨by omega, by omega⟩), by first | exact zFlI_s hI13_0 (by omega) (zTen_i hX28_0 hX31_0) hX51_1 (by omega) (Or.inl ⟨by omega, rfl, rfl⟩) (by omega) | exact zFlI_s hI13_0 (by omega) (zTen_i hX28_0 hX31_0) hX51_1 (by omega) (Or.inr ⟨by omega, rfl, rfl⟩) (by omega) | exact zFlI_0 hX6_1 (by decide) (by decide) (by decide) (by decide)⟩
    exact hJ13 H locs ls (fun i => ([(-1), 0, r6_, 0] : List (Int32)).getD i 0) (fun _ => 0) (fun _ => (fun _ => 0)) (fun _ => (fun _ => 0)) hc
set_option maxHeartbeats 8000000 in
set_option maxRecDepth 100000 in
theorem sX7_isCounted_0 (l : Launch) (dC : Nat → ClassId) (dI : Nat → Nat → Nat) (adK adV : Nat → Nat) (h0 : Nat) (h5 : Nat) (h1 : Nat) (h2 : Nat) (h3 : Nat) (h4 : Nat) (h6 : Nat) (h7 : Nat) (k5 : ClassId) (sz : Nat) (v0 : Nat → Int32) (f5 : Nat → Int32) (x1 : Int32) (hv0 : zR rg_Query v0) : Met l yX7_isCounted (zw yX7_isCounted cX7_isCounted 2 (some .boolean)) { frames := 1, cells := 0, slots := 0, locals := 20 } (zPc dC dI adK adV [.ref h0, .int x1] sz [(h0, .inr (7, mX7 h1 h2 h3 h4 h5 h6 h7 v0)), (h5, zi k5 40 f5)] [(k5, .boolean)]) (va_Qi (fun (r : Int32) (u : Nat → Int32) => (0 ≤ r.toInt ∧ r.toInt ≤ 1) ∧ (0 ≤ x1.toInt ∧ x1.toInt ≤ 39 → (r.toInt ≠ 0 ↔ (f5 ((x1 : Int32)).toNatClampNeg).toInt ≠ 0))) (fun (u : Nat → Int32) (t : State) => ∃ (ww : Nat → Int64) (aa : Nat → Nat → Int32) (bb : Nat → Nat → Int64), va_P (dC, dI) vwCl [(h0, .inr (7, mX7 h1 h2 h3 h4 h5 h6 h7 v0)), (h5, zi k5 40 f5)] t.heap ∧ va_K (dC, dI) vwCl [(k5, .boolean)] t ∧ va_D (va_A [(h0, .inr (7, mX7 h1 h2 h3 h4 h5 h6 h7 v0)), (h5, zi k5 40 f5)] sz) [(h0, .inr (7, mX7 h1 h2 h3 h4 h5 h6 h7 v0)), (h5, zi k5 40 f5)]) (va_A [(h0, .inr (7, mX7 h1 h2 h3 h4 h5 h6 h7 v0)), (h5, zi k5 40 f5)] sz)) 0 0 (va_A [(h0, .inr (7, mX7 h1 h2 h3 h4 h5 h6 h7 v0)), (h5, zi k5 40 f5)] sz) := by
  refine Met.ofW (cc := cX7_isCounted) (maxL := 2) (ret := (some .boolean)) (by decide) rfl ?_
  intro p e s m args below meth c s₁ B hml hv
  obtain ⟨rfl, hsz, hP, hK, hD0, hE, hZ⟩ := hv
  have hx := B.exec
  have hb := B.bytes
  have hr := B.returns
  have hG : ∀ w ∈ zG, w.before _ s = true := fun w h => atoms_spec (ws := (zw yX7_isCounted cX7_isCounted 2 (some .boolean))) B.pre w (List.mem_cons_of_mem _ h)
  have hown : s.vm.findClass RX7 = some m.cls := findClass_of_methodNamed B.named
  have hlocks := B.notSynchronized

  subst hsz
  have hD := hD0.self (sz := s.heap.size)
  generalize hAe : va_A [(h0, .inr (7, mX7 h1 h2 h3 h4 h5 h6 h7 v0)), (h5, zi k5 40 f5)] s.heap.size = A at hD hZ ⊢
  have hA : ∀ q : Nat, s.heap.size ≤ q → A q := fun q h => by rw [← hAe]; exact Or.inr h
  have hS : va_S A s.heap s.heap [] := va_S.rf
  have hl := lv_entry ([.ref h0, .int x1]) (n := 2) (Nat.le_of_ble_eq_true rfl)
  rw [lg_entry_eq]
  generalize (lg_sl ([.ref h0, .int x1]) ++ List.replicate (2 - (lg_sl ([.ref h0, .int x1])).length) Slot.unset).toArray = ls at hl ⊢
  have hl : lv_has ls 2 [(0, .ref h0), (1, .int x1)] := hl
  have b_ := zk_0
  have b_ := zk_1
  refine lv_iload_n hx hb dX7_isCounted_0 rfl (lv_at hl 1 rfl) ?_
  have hPc := hP.sub (ws' := []) [] rfl
  have hDc := hD.sub (ws' := []) [] (by decide) rfl
  have hKc := hK.sub (tys' := []) [] rfl
  have hFc := va_free (wc := []) hD hS hA [] rfl
  refine va_calli (va_runS (As := [.int x1]) (rest := []) ⟨hx, hb, hml, hown, hG⟩ (sX7_isLeaf_0 l dC dI adK adV s.heap.size x1) (va_cwS 1 hG (zgS zv1188 zv1189 zv136 zv1190) rfl rfl rfl (by decide +kernel) ⟨Nat.le_of_ble_eq_true rfl, Nat.le_of_ble_eq_true rfl⟩) ⟨zPc_blind, zPc_pre hPc hKc hDc hE hS hFc hZ⟩ rfl rfl hl.1 rfl (lv_room (Nat.le_of_ble_eq_true rfl)) dX7_isCounted_1 ⟨Nat.le_of_ble_eq_true rfl, Nat.le_of_ble_eq_true rfl⟩) hS (fun q _ h => hFc q h) hFc (fun r1_ u1_ t H1 locs ht hvm hw hB hz1 hk1 hS => ?_)
  replace hw : (0 ≤ r1_.toInt ∧ r1_.toInt ≤ 1) ∧ (r1_.toInt = 1 → (0 ≤ x1.toInt ∧ x1.toInt ≤ 39)) ∧ (r1_.toInt = 0 → x1.toInt < 0 ∨ 40 ≤ x1.toInt) := hw
  obtain ⟨b_, hX1_0, hX1_1⟩ := hw
  obtain ⟨w1_, a1_, b1_, hP1, hK1, hD1⟩ := hB
  rw [ht] at hP1
  obtain ⟨hP, hD⟩ := va_join (wr := [(h0, .inr (7, mX7 h1 h2 h3 h4 h5 h6 h7 v0)), (h5, zi k5 40 f5)]) (w1 := []) hP hD [] [0, 1] rfl rfl (by decide) (by decide) hk1 hFc hP1 hD1
  have hP : va_P (dC, dI) vwCl [(h0, .inr (7, mX7 h1 h2 h3 h4 h5 h6 h7 v0)), (h5, zi k5 40 f5)] H1 := hP.sub [0, 1] rfl
  have hD : va_D A [(h0, .inr (7, mX7 h1 h2 h3 h4 h5 h6 h7 v0)), (h5, zi k5 40 f5)] := hD.sub [0, 1] (by decide) rfl
  generalize H1 = H at hP hS ⊢
  clear hz1
  refine lv_if_eq (tgt := 20) hx hb dX7_isCounted_4 (by decide) (fun c_ => ?_) (fun c_ => ?_)
  · skip
    have b_ := zT_eq rfl zk_0 c_
    refine lv_iconst (v := 0) hx hb dX7_isCounted_20 (by decide) ?_
    refine W.widen (k := 0) (n := 0) (by decide) (by decide) ?_
    have hpost : (0 ≤ (0 : Int32).toInt ∧ (0 : Int32).toInt ≤ 1) ∧ (0 ≤ x1.toInt ∧ x1.toInt ≤ 39 → ((0 : Int32).toInt ≠ 0 ↔ (f5 ((x1 : Int32)).toNatClampNeg).toInt ≠ 0)) := ⟨(by first | with_reducible assumption | exact ⟨by omega, by omega⟩), by first | exact fun _ => zCt_i e_z12 (Or.inl ⟨by decide, by omega⟩) | exact fun _ => zCt_i e_z12 (Or.inr ⟨by decide, by omega⟩) | (intro q_; omega)⟩
    have hP9 : va_P (dC, dI) vwCl [(h0, .inr (7, mX7 h1 h2 h3 h4 h5 h6 h7 v0)), (h5, zi k5 40 f5)] H := hP
    have hD9 : va_D A [(h0, .inr (7, mX7 h1 h2 h3 h4 h5 h6 h7 v0)), (h5, zi k5 40 f5)] := hD
    exact W.zret (v := 0) hx hb hr rfl (fun t ht hW => ⟨⟨0, (fun _ => 0), rfl, hpost, (fun _ => 0), (fun _ => (fun _ => 0)), (fun _ => (fun _ => 0)), by rw [ht]; exact hP9, va_K.moved hW.alike hK, hD9⟩, hS.F ht⟩) hS.2.2 dX7_isCounted_21
  · skip
    have b_ := zF_eq rfl zk_0 c_
    refine lv_aload_n hx hb dX7_isCounted_7 rfl (lv_at hl 0 rfl) ?_
    refine va_get (D := (dC, dI)) (ci := 7) (v := .ref h5) (C := RX7) (T := TX7) (N := 12) hx hb hG zuX7 hown hK hP 0 rfl rfl 4 (by decide) (hG _ zv369) (fun _ h9 => h9) rfl dX7_isCounted_8 ?_
    refine lv_iload_n hx hb dX7_isCounted_11 rfl (lv_at hl 1 rfl) ?_
    refine va_zald hx hb hK hP 1 0 rfl rfl (zin_lit ⟨by omega, by omega⟩) dX7_isCounted_12 ?_
    refine lv_topi (fun z12 e_z12 => ?_)
    have b_ : -2147483648 ≤ z12.toInt ∧ z12.toInt ≤ 2147483647 := ⟨zlo _, zhi _⟩
    refine lv_if_eq (tgt := 20) hx hb dX7_isCounted_13 (by decide) (fun c_ => ?_) (fun c_ => ?_)
    · skip
      have b_ := zT_eq rfl zk_0 c_
      refine lv_iconst (v := 0) hx hb dX7_isCounted_20 (by decide) ?_
      refine W.widen (k := 0) (n := 0) (by decide) (by decide) ?_
      have hpost : (0 ≤ (0 : Int32).toInt ∧ (0 : Int32).toInt ≤ 1) ∧ (0 ≤ x1.toInt ∧ x1.toInt ≤ 39 → ((0 : Int32).toInt ≠ 0 ↔ (f5 ((x1 : Int32)).toNatClampNeg).toInt ≠ 0)) := ⟨(by first | with_reducible assumption | exact ⟨by omega, by omega⟩), by first | exact fun _ => zCt_i e_z12 (Or.inl ⟨by decide, by omega⟩) | exact fun _ => zCt_i e_z12 (Or.inr ⟨by decide, by omega⟩) | (intro q_; omega)⟩
      have hP9 : va_P (dC, dI) vwCl [(h0, .inr (7, mX7 h1 h2 h3 h4 h5 h6 h7 v0)), (h5, zi k5 40 f5)] H := hP
      have hD9 : va_D A [(h0, .inr (7, mX7 h1 h2 h3 h4 h5 h6 h7 v0)), (h5, zi k5 40 f5)] := hD
      exact W.zret (v := 0) hx hb hr rfl (fun t ht hW => ⟨⟨0, (fun _ => 0), rfl, hpost, (fun _ => 0), (fun _ => (fun _ => 0)), (fun _ => (fun _ => 0)), by rw [ht]; exact hP9, va_K.moved hW.alike hK, hD9⟩, hS.F ht⟩) hS.2.2 dX7_isCounted_21
    · skip
      have b_ := zF_eq rfl zk_0 c_
      refine lv_iconst (v := 1) hx hb dX7_isCounted_16 (by decide) ?_
      refine lv_goto (tgt := 21) hx hb dX7_isCounted_17 (by decide) ?_
      refine W.widen (k := 0) (n := 0) (by decide) (by decide) ?_
      have hpost : (0 ≤ (1 : Int32).toInt ∧ (1 : Int32).toInt ≤ 1) ∧ (0 ≤ x1.toInt ∧ x1.toInt ≤ 39 → ((1 : Int32).toInt ≠ 0 ↔ (f5 ((x1 : Int32)).toNatClampNeg).toInt ≠ 0)) := ⟨(by first | with_reducible assumption | exact ⟨by omega, by omega⟩), by first | exact fun _ => zCt_i e_z12 (Or.inl ⟨by decide, by omega⟩) | exact fun _ => zCt_i e_z12 (Or.inr ⟨by decide, by omega⟩) | (intro q_; omega)⟩
      have hP9 : va_P (dC, dI) vwCl [(h0, .inr (7, mX7 h1 h2 h3 h4 h5 h6 h7 v0)), (h5, zi k5 40 f5)] H := hP
      have hD9 : va_D A [(h0, .inr (7, mX7 h1 h2 h3 h4 h5 h6 h7 v0)), (h5, zi k5 40 f5)] := hD
      exact W.zret (v := 1) hx hb hr rfl (fun t ht hW => ⟨⟨1, (fun _ => 0), rfl, hpost, (fun _ => 0), (fun _ => (fun _ => 0)), (fun _ => (fun _ => 0)), by rw [ht]; exact hP9, va_K.moved hW.alike hK, hD9⟩, hS.F ht⟩) hS.2.2 dX7_isCounted_21
set_option maxHeartbeats 8000000 in
set_option maxRecDepth 100000 in
theorem sX5_putAll_0 (l : Launch) (dC : Nat → ClassId) (dI : Nat → Nat → Nat) (adK adV : Nat → Nat) (h0 : Nat) (h1 : Nat) (h2 : Nat) (h3 : Nat) (k1 : ClassId) (k3 : ClassId) (sz : Nat) (f1 : Nat → Int32) (f3 : Nat → Int32) : Met l yX5_putAll (zw yX5_putAll cX5_putAll 3 none) { frames := 0, cells := 0, slots := 0, locals := 0 } (zPc dC dI adK adV [.ref h0, .ref h2] sz [(h0, .inr (5, mX5 h1)), (h1, zi k1 26 f1), (h2, .inr (5, mX5 h3)), (h3, zi k3 26 f3)] [(k1, .int), (k3, .int)]) (va_Qv (fun (u : Nat → Int32) => True) (fun (u : Nat → Int32) (t : State) => ∃ (ww : Nat → Int64) (aa : Nat → Nat → Int32) (bb : Nat → Nat → Int64), (∀ q : Nat, q < 832 → zpb (aa 0) q = (zpb f1 q || zpb f3 q)) ∧ va_P (dC, dI) vwCl [(h0, .inr (5, mX5 h1)), (h1, zi k1 26 (aa 0)), (h2, .inr (5, mX5 h3)), (h3, zi k3 26 f3)] t.heap ∧ va_K (dC, dI) vwCl [(k1, .int), (k3, .int)] t ∧ va_D (va_A [(h0, .inr (5, mX5 h1)), (h1, zi k1 26 f1), (h2, .inr (5, mX5 h3)), (h3, zi k3 26 f3)] sz) [(h0, .inr (5, mX5 h1)), (h1, zi k1 26 (aa 0)), (h2, .inr (5, mX5 h3)), (h3, zi k3 26 f3)]) (va_A [(h0, .inr (5, mX5 h1)), (h1, zi k1 26 f1), (h2, .inr (5, mX5 h3)), (h3, zi k3 26 f3)] sz)) 0 0 (va_A [(h0, .inr (5, mX5 h1)), (h1, zi k1 26 f1), (h2, .inr (5, mX5 h3)), (h3, zi k3 26 f3)] sz) := by
  refine Met.ofW (cc := cX5_putAll) (maxL := 3) (ret := none) (by decide) rfl ?_
  intro p e s m args below meth c s₁ B hml hv
  obtain ⟨rfl, hsz, hP, hK, hD0, hE, hZ⟩ := hv
  have hx := B.exec
  have hb := B.bytes
  have hr := B.returns
  have hG : ∀ w ∈ zG, w.before _ s = true := fun w h => atoms_spec (ws := (zw yX5_putAll cX5_putAll 3 none)) B.pre w (List.mem_cons_of_mem _ h)
  have hown : s.vm.findClass RX5 = some m.cls := findClass_of_methodNamed B.named
  have hlocks := B.notSynchronized

  subst hsz
  have hD := hD0.self (sz := s.heap.size)
  generalize hAe : va_A [(h0, .inr (5, mX5 h1)), (h1, zi k1 26 f1), (h2, .inr (5, mX5 h3)), (h3, zi k3 26 f3)] s.heap.size = A at hD hZ ⊢
  have hA : ∀ q : Nat, s.heap.size ≤ q → A q := fun q h => by rw [← hAe]; exact Or.inr h
  have hS : va_S A s.heap s.heap [] := va_S.rf
  have hl := lv_entry ([.ref h0, .ref h2]) (n := 3) (Nat.le_of_ble_eq_true rfl)
  rw [lg_entry_eq]
  generalize (lg_sl ([.ref h0, .ref h2]) ++ List.replicate (3 - (lg_sl ([.ref h0, .ref h2])).length) Slot.unset).toArray = ls at hl ⊢
  have hl : lv_has ls 3 [(0, .ref h0), (1, .ref h2)] := hl
  have b_ := zk_0
  refine lv_iconst (v := 0) hx hb dX5_putAll_0 (by decide) ?_
  refine lv_istore_n (lv' := [(2, .int 0), (0, .ref h0), (1, .ref h2)]) hx hb dX5_putAll_1 rfl hl (by decide) rfl (fun ls hl => ?_)
  refine zcutL (fun u2_ => (26 - (u2_ 0).toInt).toNat) (fun H locs ls u2_ w2_ a2_ b2_ => va_P (dC, dI) vwCl [(h0, .inr (5, mX5 h1)), (h1, zi k1 26 (a2_ 0)), (h2, .inr (5, mX5 h3)), (h3, zi k3 26 f3)] H ∧ va_D A [(h0, .inr (5, mX5 h1)), (h1, zi k1 26 (a2_ 0)), (h2, .inr (5, mX5 h3)), (h3, zi k3 26 f3)] ∧ va_S A s.heap H locs ∧ lv_has ls 3 [(0, .ref h0), (1, .ref h2), (2, .int (u2_ 0))] ∧ (0 ≤ (u2_ 0).toInt ∧ (u2_ 0).toInt ≤ 26) ∧ (zjn f1 (a2_ 0) f3 (u2_ 0).toInt) ∧ (0 ≤ (u2_ 0).toInt)) (fun ls u2_ w2_ => F0 m 2 ls []) 0 0 ?_ (fun hJ2 => ?_)
  · skip
    intro H locs ls u2_ w2_ a2_ b2_ hc hJ2
    obtain ⟨hP, hD, hS, hl, b_, hI2_0, b_⟩ := hc
    refine lv_iload_n hx hb dX5_putAll_2 rfl (lv_at hl 2 rfl) ?_
    refine lv_bipush (v := 26) hx hb dX5_putAll_3 (by decide) ?_
    refine lv_icmp_ge (tgt := 29) hx hb dX5_putAll_5 (by decide) (fun c_ => ?_) (fun c_ => ?_)
    · skip
      have b_ := zT_ge rfl zk_26 c_
      refine W.widen (k := 0) (n := 0) (by decide) (by decide) ?_
      have hpost : True := trivial
      have hP9 : va_P (dC, dI) vwCl [(h0, .inr (5, mX5 h1)), (h1, zi k1 26 (a2_ 0)), (h2, .inr (5, mX5 h3)), (h3, zi k3 26 f3)] H := hP
      have hD9 : va_D A [(h0, .inr (5, mX5 h1)), (h1, zi k1 26 (a2_ 0)), (h2, .inr (5, mX5 h3)), (h3, zi k3 26 f3)] := hD
      have hB0 : ∀ q : Nat, q < 832 → zpb (a2_ 0) q = (zpb f1 q || zpb f3 q) := by exact zjn_e hI2_0 (by omega)
      exact W.vret hx hb hr (fun t ht hW => ⟨⟨(fun _ => 0), rfl, hpost, (fun _ => 0), (fun i => ([(a2_ 0)] : List (Nat → Int32)).getD i (fun _ => 0)), (fun _ => (fun _ => 0)), hB0, by rw [ht]; exact hP9, va_K.moved hW.alike hK, hD9⟩, hS.F ht⟩) hS.2.2 dX5_putAll_29
    · skip
      have b_ := zF_ge rfl zk_26 c_
      refine lv_aload_n hx hb dX5_putAll_8 rfl (lv_at hl 0 rfl) ?_
      refine va_get (D := (dC, dI)) (ci := 5) (v := .ref h1) (C := RX5) (T := TX5) (N := 1) hx hb hG zuX5 hown hK hP 0 rfl rfl 0 (by decide) (hG _ zv458) (fun _ h9 => h9) rfl dX5_putAll_9 ?_
      refine lv_iload_n hx hb dX5_putAll_12 rfl (lv_at hl 2 rfl) ?_
      refine lv_dup2_11 hx hb dX5_putAll_13 rfl rfl ?_
      refine va_iald hx hb hK hP 1 0 rfl rfl (zin_lit ⟨by omega, by omega⟩) dX5_putAll_14 ?_
      refine lv_topi (fun z14 e_z14 => ?_)
      refine lv_aload_n hx hb dX5_putAll_15 rfl (lv_at hl 1 rfl) ?_
      refine va_get (D := (dC, dI)) (ci := 5) (v := .ref h3) (C := RX5) (T := TX5) (N := 1) hx hb hG zuX5 hown hK hP 2 rfl rfl 0 (by decide) (hG _ zv458) (fun _ h9 => h9) rfl dX5_putAll_16 ?_
      refine lv_iload_n hx hb dX5_putAll_19 rfl (lv_at hl 2 rfl) ?_
      refine va_iald hx hb hK hP 3 1 rfl rfl (zin_lit ⟨by omega, by omega⟩) dX5_putAll_20 ?_
      refine lv_topi (fun z20 e_z20 => ?_)
      have b_ : -2147483648 ≤ z14.toInt ∧ z14.toInt ≤ 2147483647 := ⟨zlo _, zhi _⟩
      have b_ : -2147483648 ≤ z20.toInt ∧ z20.toInt ≤ 2147483647 := ⟨zlo _, zhi _⟩
      refine lv_ior hx hb dX5_putAll_21 ?_
      refine lv_topi (fun z21 e_z21 => ?_)
      refine va_iast hx hb hK hP hD hS 1 0 rfl rfl (zin_lit ⟨by omega, by omega⟩) dX5_putAll_22 (fun H locs hP hD hS => ?_)
      obtain ⟨f_22, e_f_22⟩ : ∃ z : Nat → Int32, z = upd (a2_ 0) ((u2_ 0) : Int32).toNatClampNeg z21 := ⟨_, rfl⟩
      have hP : va_P (dC, dI) vwCl [(h0, .inr (5, mX5 h1)), (h1, zi k1 26 f_22), (h2, .inr (5, mX5 h3)), (h3, zi k3 26 f3)] H := by rw [e_f_22]; exact hP
      have hD : va_D A [(h0, .inr (5, mX5 h1)), (h1, zi k1 26 f_22), (h2, .inr (5, mX5 h3)), (h3, zi k3 26 f3)] := by rw [e_f_22]; exact hD
      obtain ⟨z23, e_z23⟩ : ∃ z : Int32, z = (u2_ 0) + Int32.ofInt 1 := ⟨_, rfl⟩
      have b_ := zadd (x := (u2_ 0)) (y := Int32.ofInt 1) rfl (show (Int32.ofInt 1).toInt = 1 from by decide) e_z23 (by omega) (by omega)
      refine lv_iinc (v := z23) (lv' := [(2, .int z23), (0, .ref h0), (1, .ref h2)]) hx hb dX5_putAll_23 hl (k := 2) rfl e_z23.symm (by decide) rfl (fun ls hl => ?_)
      refine lv_goto (tgt := 2) hx hb dX5_putAll_26 (by decide) ?_
      have hc : va_P (dC, dI) vwCl [(h0, .inr (5, mX5 h1)), (h1, zi k1 26 f_22), (h2, .inr (5, mX5 h3)), (h3, zi k3 26 f3)] H ∧ va_D A [(h0, .inr (5, mX5 h1)), (h1, zi k1 26 f_22), (h2, .inr (5, mX5 h3)), (h3, zi k3 26 f3)] ∧ va_S A s.heap H locs ∧ lv_has ls 3 [(0, .ref h0), (1, .ref h2), (2, .int z23)] ∧ (0 ≤ z23.toInt ∧ z23.toInt ≤ 26) ∧ (zjn f1 f_22 f3 z23.toInt) ∧ (0 ≤ z23.toInt) := ⟨hP, hD, hS, lv_sub hl [1, 2, 0] rfl, (by first | with_reducible assumption | exact ⟨by omega, by omega⟩), by first | exact zjn_s hI2_0 (by omega) (by omega) e_z14 e_z20 e_z21 e_f_22 (by omega) | exact zjn_0 (by decide), by omega⟩
      exact hJ2 H locs ls (fun i => ([z23] : List (Int32)).getD i 0) (fun _ => 0) (fun i => ([f_22] : List (Nat → Int32)).getD i (fun _ => 0)) (fun _ => (fun _ => 0)) hc (show (26 - z23.toInt).toNat < (26 - (u2_ 0).toInt).toNat from by omega)
  · skip
    have hc : va_P (dC, dI) vwCl [(h0, .inr (5, mX5 h1)), (h1, zi k1 26 f1), (h2, .inr (5, mX5 h3)), (h3, zi k3 26 f3)] s.heap ∧ va_D A [(h0, .inr (5, mX5 h1)), (h1, zi k1 26 f1), (h2, .inr (5, mX5 h3)), (h3, zi k3 26 f3)] ∧ va_S A s.heap s.heap [] ∧ lv_has ls 3 [(0, .ref h0), (1, .ref h2), (2, .int 0)] ∧ (0 ≤ (0 : Int32).toInt ∧ (0 : Int32).toInt ≤ 26) ∧ (zjn f1 f1 f3 (0 : Int32).toInt) ∧ (0 ≤ (0 : Int32).toInt) := ⟨hP, hD, hS, lv_sub hl [1, 2, 0] rfl, (by first | with_reducible assumption | exact ⟨by omega, by omega⟩), by first | exact zjn_s hI2_0 (by omega) (by omega) e_z14 e_z20 e_z21 e_f_22 (by omega) | exact zjn_0 (by decide), by omega⟩
    exact hJ2 s.heap [] ls (fun i => ([0] : List (Int32)).getD i 0) (fun _ => 0) (fun i => ([f1] : List (Nat → Int32)).getD i (fun _ => 0)) (fun _ => (fun _ => 0)) hc
set_option maxHeartbeats 8000000 in
set_option maxRecDepth 100000 in
theorem sX1_keep_0 (l : Launch) (dC : Nat → ClassId) (dI : Nat → Nat → Nat) (adK adV : Nat → Nat) (h0 : Nat) (h37 : Nat) (h38 : Nat) (h13 : Nat) (h42 : Nat) (h43 : Nat) (h18 : Nat) (h36 : Nat) (h41 : Nat) (h31 : Nat) (h1 : Nat) (h6 : Nat) (h21 : Nat) (h39 : Nat) (h40 : Nat) (h44 : Nat) (h45 : Nat) (h46 : Nat) (h47 : Nat) (h48 : Nat) (h14 : Nat) (h15 : Nat) (h16 : Nat) (h17 : Nat) (h19 : Nat) (h20 : Nat) (h22 : Nat) (k38 : ClassId) (k42 : ClassId) (k43 : ClassId) (k18 : ClassId) (k36 : ClassId) (k41 : ClassId) (k31 : ClassId) (pl0 : va_W) (sz : Nat) (v0 : Nat → Int32) (f38 : Nat → Int32) (v13 : Nat → Int32) (f42 : Nat → Int32) (f43 : Nat → Int32) (f18 : Nat → Int32) (f36 : Nat → Option Nat) (f41 : Nat → Int32) (f31 : Nat → Option Nat) (x1 : Int32) (hv0 : zR rg_Finder v0) (hv13 : zR rg_Query v13) (hf42 : zA 0 119 f42) (hx1 : 0 ≤ x1.toInt ∧ x1.toInt ≤ 119) (hp0_ : zRd h22 f31 pl0) (hp1_ : zPs k41 f36 pl0) : Met l yX1_keep (zw yX1_keep cX1_keep 3 none) { frames := 3, cells := 0, slots := 0, locals := 69 } (zPc dC dI adK adV [.ref h0, .int x1] sz ([(h0, .inr (1, mX1 h1 h6 h13 h21 h36 h37 h39 h40 h41 h42 h43 h44 h45 h46 h47 h48 v0)), (h37, .inr (5, mX5 h38)), (h38, zi k38 26 f38), (h13, .inr (7, mX7 h14 h15 h16 h17 h18 h19 h20 v13)), (h42, zi k42 120 f42), (h43, zi k43 120 f43), (h18, zi k18 40 f18), (h36, .inl (k36, 40, .inr (.inr (.inr (.inr f36))))), (h41, zi k41 40 f41), (h31, .inl (k31, 400, .inr (.inr (.inr (.inr f31)))))] ++ pl0) [(k38, .int), (k42, .int), (k43, .int), (k18, .boolean), (k36, .object RX5), (k41, .int), (k31, .object RX8)]) (va_Qv (fun (u : Nat → Int32) => (1 ≤ (u 0).toInt ∧ (u 0).toInt ≤ 120)) (fun (u : Nat → Int32) (t : State) => ∃ (ww : Nat → Int64) (aa : Nat → Nat → Int32) (bb : Nat → Nat → Int64) (qq : Nat → Nat → Option Nat) (pl1 : va_W), zA 0 119 (aa 1) ∧ (zRd h22 f31 pl1) ∧ (zPs k41 f36 pl1) ∧ (zOt pl0 pl1) ∧ (zPe pl0 pl1) ∧ (zKpt f42 (v0 16).toInt (x1 : Int32) (aa 1) (u 0).toInt) ∧ (zKps k41 f36 pl0 f18 (v13 7).toInt (v0 16).toInt f43 (aa 2)) ∧ va_P (dC, dI) vwCl ([(h0, .inr (1, mX1 h1 h6 h13 h21 h36 h37 h39 h40 h41 h42 h43 h44 h45 h46 h47 h48 (upd v0 16 (u 0)))), (h37, .inr (5, mX5 h38)), (h38, zi k38 26 (aa 0)), (h13, .inr (7, mX7 h14 h15 h16 h17 h18 h19 h20 v13)), (h42, zi k42 120 (aa 1)), (h43, zi k43 120 (aa 2)), (h18, zi k18 40 f18), (h36, .inl (k36, 40, .inr (.inr (.inr (.inr f36))))), (h41, zi k41 40 f41), (h31, .inl (k31, 400, .inr (.inr (.inr (.inr f31)))))] ++ pl1) t.heap ∧ va_K (dC, dI) vwCl [(k38, .int), (k42, .int), (k43, .int), (k18, .boolean), (k36, .object RX5), (k41, .int), (k31, .object RX8)] t ∧ va_D (va_A ([(h0, .inr (1, mX1 h1 h6 h13 h21 h36 h37 h39 h40 h41 h42 h43 h44 h45 h46 h47 h48 v0)), (h37, .inr (5, mX5 h38)), (h38, zi k38 26 f38), (h13, .inr (7, mX7 h14 h15 h16 h17 h18 h19 h20 v13)), (h42, zi k42 120 f42), (h43, zi k43 120 f43), (h18, zi k18 40 f18), (h36, .inl (k36, 40, .inr (.inr (.inr (.inr f36))))), (h41, zi k41 40 f41), (h31, .inl (k31, 400, .inr (.inr (.inr (.inr f31)))))] ++ pl0) sz) ([(h0, .inr (1, mX1 h1 h6 h13 h21 h36 h37 h39 h40 h41 h42 h43 h44 h45 h46 h47 h48 (upd v0 16 (u 0)))), (h37, .inr (5, mX5 h38)), (h38, zi k38 26 (aa 0)), (h13, .inr (7, mX7 h14 h15 h16 h17 h18 h19 h20 v13)), (h42, zi k42 120 (aa 1)), (h43, zi k43 120 (aa 2)), (h18, zi k18 40 f18), (h36, .inl (k36, 40, .inr (.inr (.inr (.inr f36))))), (h41, zi k41 40 f41), (h31, .inl (k31, 400, .inr (.inr (.inr (.inr f31)))))] ++ pl1)) (va_A ([(h0, .inr (1, mX1 h1 h6 h13 h21 h36 h37 h39 h40 h41 h42 h43 h44 h45 h46 h47 h48 v0)), (h37, .inr (5, mX5 h38)), (h38, zi k38 26 f38), (h13, .inr (7, mX7 h14 h15 h16 h17 h18 h19 h20 v13)), (h42, zi k42 120 f42), (h43, zi k43 120 f43), (h18, zi k18 40 f18), (h36, .inl (k36, 40, .inr (.inr (.inr (.inr f36))))), (h41, zi k41 40 f41), (h31, .inl (k31, 400, .inr (.inr (.inr (.inr f31)))))] ++ pl0) sz)) 0 0 (va_A ([(h0, .inr (1, mX1 h1 h6 h13 h21 h36 h37 h39 h40 h41 h42 h43 h44 h45 h46 h47 h48 v0)), (h37, .inr (5, mX5 h38)), (h38, zi k38 26 f38), (h13, .inr (7, mX7 h14 h15 h16 h17 h18 h19 h20 v13)), (h42, zi k42 120 f42), (h43, zi k43 120 f43), (h18, zi k18 40 f18), (h36, .inl (k36, 40, .inr (.inr (.inr (.inr f36))))), (h41, zi k41 40 f41), (h31, .inl (k31, 400, .inr (.inr (.inr (.inr f31)))))] ++ pl0) sz) := by
  refine Met.ofW (cc := cX1_keep) (maxL := 3) (ret := none) (by decide) rfl ?_
  intro p e s m args below meth c s₁ B hml hv
  obtain ⟨rfl, hsz, hP, hK, hD0, hE, hZ⟩ := hv
  have hx := B.exec
  have hb := B.bytes
  have hr := B.returns
  have hG : ∀ w ∈ zG, w.before _ s = true := fun w h => atoms_spec (ws := (zw yX1_keep cX1_keep 3 none)) B.pre w (List.mem_cons_of_mem _ h)
  have hown : s.vm.findClass RX1 = some m.cls := findClass_of_methodNamed B.named
  have hlocks := B.notSynchronized

  subst hsz
  have hD := hD0.self (sz := s.heap.size)
  generalize hAe : va_A ([(h0, .inr (1, mX1 h1 h6 h13 h21 h36 h37 h39 h40 h41 h42 h43 h44 h45 h46 h47 h48 v0)), (h37, .inr (5, mX5 h38)), (h38, zi k38 26 f38), (h13, .inr (7, mX7 h14 h15 h16 h17 h18 h19 h20 v13)), (h42, zi k42 120 f42), (h43, zi k43 120 f43), (h18, zi k18 40 f18), (h36, .inl (k36, 40, .inr (.inr (.inr (.inr f36))))), (h41, zi k41 40 f41), (h31, .inl (k31, 400, .inr (.inr (.inr (.inr f31)))))] ++ pl0) s.heap.size = A at hD hZ ⊢
  have hA : ∀ q : Nat, s.heap.size ≤ q → A q := fun q h => by rw [← hAe]; exact Or.inr h
  have hS : va_S A s.heap s.heap [] := va_S.rf
  have hl := lv_entry ([.ref h0, .int x1]) (n := 3) (Nat.le_of_ble_eq_true rfl)
  rw [lg_entry_eq]
  generalize (lg_sl ([.ref h0, .int x1]) ++ List.replicate (3 - (lg_sl ([.ref h0, .int x1])).length) Slot.unset).toArray = ls at hl ⊢
  have hl : lv_has ls 3 [(0, .ref h0), (1, .int x1)] := hl
  have b_ := zk_0
  have hpe_ : zPe pl0 pl0 := zPe_rf
  have b_ : 0 ≤ (v13 7).toInt ∧ (v13 7).toInt ≤ 40 := hv13 7
  refine lv_aload_n hx hb dX1_keep_0 rfl (lv_at hl 0 rfl) ?_
  have b_ : 0 ≤ (v0 16).toInt ∧ (v0 16).toInt ≤ 120 := hv0 16
  refine va_get (D := (dC, dI)) (ci := 1) (v := .int (v0 16)) (C := RX1) (T := TX1) (N := 17) hx hb hG zuX1 hown hK hP 0 rfl rfl 16 (by decide) (hG _ zv520) (fun _ h9 => h9) rfl dX1_keep_1 ?_
  refine lv_bipush (v := 120) hx hb dX1_keep_4 (by decide) ?_
  refine lv_icmp_lt (tgt := 10) hx hb dX1_keep_6 (by decide) (fun c_ => ?_) (fun c_ => ?_)
  · skip
    have b_ := zT_lt rfl zk_120 c_
    refine lv_aload_n hx hb dX1_keep_10 rfl (lv_at hl 0 rfl) ?_
    refine va_get (D := (dC, dI)) (ci := 1) (v := .ref h37) (C := RX1) (T := TX1) (N := 17) hx hb hG zuX1 hown hK hP 0 rfl rfl 5 (by decide) (hG _ zv509) (fun _ h9 => h9) rfl dX1_keep_11 ?_
    have hPc := hP.sub (ws' := [(h37, .inr (5, mX5 h38)), (h38, zi k38 26 f38)]) [1, 2] rfl
    have hDc := hD.sub (ws' := [(h37, .inr (5, mX5 h38)), (h38, zi k38 26 f38)]) [1, 2] (by decide) rfl
    have hKc := hK.sub (tys' := [(k38, .int)]) [0] rfl
    have hFc := va_free (wc := [(h37, .inr (5, mX5 h38)), (h38, zi k38 26 f38)]) hD hS hA [1, 2] rfl
    refine va_callv (va_runV (As := []) (rest := []) ⟨hx, hb, hml, hown, hG⟩ (sX5_clear_0 l dC dI adK adV h37 h38 k38 s.heap.size f38) (cwV 0 hG (zgV zv1329 zv1252 zv1253 zv139 zv1254) rfl rfl rfl (by decide +kernel) ⟨Nat.le_of_ble_eq_true rfl, Nat.le_of_ble_eq_true rfl⟩) ⟨zPc_blind, va_recv hKc hPc (ci := 5) (q0 := 0) rfl rfl, zPc_pre hPc hKc hDc hE hS hFc hZ⟩ rfl rfl hl.1 rfl (lv_room (Nat.le_of_ble_eq_true rfl)) dX1_keep_14 ⟨Nat.le_of_ble_eq_true rfl, Nat.le_of_ble_eq_true rfl⟩) hS (fun q _ h => hFc q h) hFc (fun u14_ t H1 locs ht hvm hw hB hz1 hk1 hS => ?_)
    obtain ⟨w14_, a14_, b14_, hB14_0, hP1, hK1, hD1⟩ := hB
    have hB14_0 : ∀ q : Nat, q < 832 → zpb (a14_ 0) q = false := hB14_0
    rw [ht] at hP1
    obtain ⟨hP, hD⟩ := va_joinQ (wr := [(h0, .inr (1, mX1 h1 h6 h13 h21 h36 h37 h39 h40 h41 h42 h43 h44 h45 h46 h47 h48 v0)), (h13, .inr (7, mX7 h14 h15 h16 h17 h18 h19 h20 v13)), (h42, zi k42 120 f42), (h43, zi k43 120 f43), (h18, zi k18 40 f18), (h36, .inl (k36, 40, .inr (.inr (.inr (.inr f36))))), (h41, zi k41 40 f41), (h31, .inl (k31, 400, .inr (.inr (.inr (.inr f31)))))]) (w1 := [(h37, .inr (5, mX5 h38)), (h38, zi k38 26 (a14_ 0))]) hP hD [1, 2] [0, 3, 4, 5, 6, 7, 8, 9] rfl rfl (by decide) (by decide) hk1 hFc hP1 hD1
    have hP : va_P (dC, dI) vwCl ([(h0, .inr (1, mX1 h1 h6 h13 h21 h36 h37 h39 h40 h41 h42 h43 h44 h45 h46 h47 h48 v0)), (h37, .inr (5, mX5 h38)), (h38, zi k38 26 (a14_ 0)), (h13, .inr (7, mX7 h14 h15 h16 h17 h18 h19 h20 v13)), (h42, zi k42 120 f42), (h43, zi k43 120 f43), (h18, zi k18 40 f18), (h36, .inl (k36, 40, .inr (.inr (.inr (.inr f36))))), (h41, zi k41 40 f41), (h31, .inl (k31, 400, .inr (.inr (.inr (.inr f31)))))] ++ pl0) H1 := hP.part [0, 8, 9, 1, 2, 3, 4, 5, 6, 7] rfl
    have hD : va_D A ([(h0, .inr (1, mX1 h1 h6 h13 h21 h36 h37 h39 h40 h41 h42 h43 h44 h45 h46 h47 h48 v0)), (h37, .inr (5, mX5 h38)), (h38, zi k38 26 (a14_ 0)), (h13, .inr (7, mX7 h14 h15 h16 h17 h18 h19 h20 v13)), (h42, zi k42 120 f42), (h43, zi k43 120 f43), (h18, zi k18 40 f18), (h36, .inl (k36, 40, .inr (.inr (.inr (.inr f36))))), (h41, zi k41 40 f41), (h31, .inl (k31, 400, .inr (.inr (.inr (.inr f31)))))] ++ pl0) := hD.part [0, 8, 9, 1, 2, 3, 4, 5, 6, 7] (by decide) rfl
    generalize H1 = H at hP hS ⊢
    clear hz1
    refine lv_iconst (v := 0) hx hb dX1_keep_17 (by decide) ?_
    refine lv_istore_n (lv' := [(2, .int 0), (0, .ref h0), (1, .int x1)]) hx hb dX1_keep_18 rfl hl (by decide) rfl (fun ls hl => ?_)
    refine zcutL (fun u19_ => (40 - (u19_ 0).toInt).toNat) (fun H locs ls u19_ w19_ a19_ b19_ => ∃ (q19_ : Nat → Nat → Option Nat) (pl19 : va_W), va_P (dC, dI) vwCl ([(h0, .inr (1, mX1 h1 h6 h13 h21 h36 h37 h39 h40 h41 h42 h43 h44 h45 h46 h47 h48 v0)), (h37, .inr (5, mX5 h38)), (h38, zi k38 26 (a19_ 0)), (h13, .inr (7, mX7 h14 h15 h16 h17 h18 h19 h20 v13)), (h42, zi k42 120 f42), (h43, zi k43 120 f43), (h18, zi k18 40 f18), (h36, .inl (k36, 40, .inr (.inr (.inr (.inr f36))))), (h41, zi k41 40 f41), (h31, .inl (k31, 400, .inr (.inr (.inr (.inr f31)))))] ++ pl19) H ∧ va_D A ([(h0, .inr (1, mX1 h1 h6 h13 h21 h36 h37 h39 h40 h41 h42 h43 h44 h45 h46 h47 h48 v0)), (h37, .inr (5, mX5 h38)), (h38, zi k38 26 (a19_ 0)), (h13, .inr (7, mX7 h14 h15 h16 h17 h18 h19 h20 v13)), (h42, zi k42 120 f42), (h43, zi k43 120 f43), (h18, zi k18 40 f18), (h36, .inl (k36, 40, .inr (.inr (.inr (.inr f36))))), (h41, zi k41 40 f41), (h31, .inl (k31, 400, .inr (.inr (.inr (.inr f31)))))] ++ pl19) ∧ va_S A s.heap H locs ∧ lv_has ls 3 [(0, .ref h0), (1, .int x1), (2, .int (u19_ 0))] ∧ (0 ≤ (u19_ 0).toInt ∧ (u19_ 0).toInt ≤ 40) ∧ (zShI k41 f36 pl0 f18 (a19_ 0) (u19_ 0).toInt) ∧ ((u19_ 0).toInt ≤ (v13 7).toInt) ∧ (zRd h22 f31 pl19) ∧ (zPs k41 f36 pl19) ∧ (zOt pl0 pl19) ∧ (zPe pl0 pl19)) (fun ls u19_ w19_ => F0 m 19 ls []) 0 0 ?_ (fun hJ19 => ?_)
    · skip
      intro H locs ls u19_ w19_ a19_ b19_ hc hJ19
      obtain ⟨q19_, pl19, hP, hD, hS, hl, b_, hI19_0, b_, hI19_2, hI19_3, hI19_4, hI19_5⟩ := hc
      refine lv_iload_n hx hb dX1_keep_19 rfl (lv_at hl 2 rfl) ?_
      refine lv_aload_n hx hb dX1_keep_20 rfl (lv_at hl 0 rfl) ?_
      refine va_get (D := (dC, dI)) (ci := 1) (v := .ref h13) (C := RX1) (T := TX1) (N := 17) hx hb hG zuX1 hown hK hP 0 rfl rfl 2 (by decide) (hG _ zv506) (fun _ h9 => h9) rfl dX1_keep_21 ?_
      have hPc := hP.sub (ws' := [(h13, .inr (7, mX7 h14 h15 h16 h17 h18 h19 h20 v13))]) [3] rfl
      have hDc := hD.sub (ws' := [(h13, .inr (7, mX7 h14 h15 h16 h17 h18 h19 h20 v13))]) [3] (by decide) rfl
      have hKc := hK.sub (tys' := []) [] rfl
      have hFc := va_free (wc := [(h13, .inr (7, mX7 h14 h15 h16 h17 h18 h19 h20 v13))]) hD hS hA [3] rfl
      refine va_calli (va_runV (As := []) (rest := [.int (u19_ 0)]) ⟨hx, hb, hml, hown, hG⟩ (sX7_leaves_0 l dC dI adK adV h13 h14 h15 h16 h17 h18 h19 h20 H.size v13 hv13) (cwV 0 hG (zgV zv1211 zv1093 zv1094 zv136 zv1095) rfl rfl rfl (by decide +kernel) ⟨Nat.le_of_ble_eq_true rfl, Nat.le_of_ble_eq_true rfl⟩) ⟨zPc_blind, va_recv hKc hPc (ci := 7) (q0 := 0) rfl rfl, zPc_pre hPc hKc hDc hE hS hFc hZ⟩ rfl rfl hl.1 rfl (lv_room (Nat.le_of_ble_eq_true rfl)) dX1_keep_24 ⟨Nat.le_of_ble_eq_true rfl, Nat.le_of_ble_eq_true rfl⟩) hS (fun q _ h => hFc q h) hFc (fun r24_ u24_ t H1 locs ht hvm hw hB hz1 hk1 hS => ?_)
      replace hw : (0 ≤ r24_.toInt ∧ r24_.toInt ≤ 40) ∧ (r24_.toInt = (v13 7).toInt) := hw
      obtain ⟨b_, hX24_0⟩ := hw
      obtain ⟨w24_, a24_, b24_, hP1, hK1, hD1⟩ := hB
      rw [ht] at hP1
      obtain ⟨hP, hD⟩ := va_joinQ (wr := [(h0, .inr (1, mX1 h1 h6 h13 h21 h36 h37 h39 h40 h41 h42 h43 h44 h45 h46 h47 h48 v0)), (h37, .inr (5, mX5 h38)), (h38, zi k38 26 (a19_ 0)), (h42, zi k42 120 f42), (h43, zi k43 120 f43), (h18, zi k18 40 f18), (h36, .inl (k36, 40, .inr (.inr (.inr (.inr f36))))), (h41, zi k41 40 f41), (h31, .inl (k31, 400, .inr (.inr (.inr (.inr f31)))))]) (w1 := [(h13, .inr (7, mX7 h14 h15 h16 h17 h18 h19 h20 v13))]) hP hD [3] [0, 1, 2, 4, 5, 6, 7, 8, 9] rfl rfl (by decide) (by decide) hk1 hFc hP1 hD1
      have hP : va_P (dC, dI) vwCl ([(h0, .inr (1, mX1 h1 h6 h13 h21 h36 h37 h39 h40 h41 h42 h43 h44 h45 h46 h47 h48 v0)), (h37, .inr (5, mX5 h38)), (h38, zi k38 26 (a19_ 0)), (h13, .inr (7, mX7 h14 h15 h16 h17 h18 h19 h20 v13)), (h42, zi k42 120 f42), (h43, zi k43 120 f43), (h18, zi k18 40 f18), (h36, .inl (k36, 40, .inr (.inr (.inr (.inr f36))))), (h41, zi k41 40 f41), (h31, .inl (k31, 400, .inr (.inr (.inr (.inr f31)))))] ++ pl19) H1 := hP.part [0, 1, 2, 9, 3, 4, 5, 6, 7, 8] rfl
      have hD : va_D A ([(h0, .inr (1, mX1 h1 h6 h13 h21 h36 h37 h39 h40 h41 h42 h43 h44 h45 h46 h47 h48 v0)), (h37, .inr (5, mX5 h38)), (h38, zi k38 26 (a19_ 0)), (h13, .inr (7, mX7 h14 h15 h16 h17 h18 h19 h20 v13)), (h42, zi k42 120 f42), (h43, zi k43 120 f43), (h18, zi k18 40 f18), (h36, .inl (k36, 40, .inr (.inr (.inr (.inr f36))))), (h41, zi k41 40 f41), (h31, .inl (k31, 400, .inr (.inr (.inr (.inr f31)))))] ++ pl19) := hD.part [0, 1, 2, 9, 3, 4, 5, 6, 7, 8] (by decide) rfl
      generalize H1 = H at hP hS ⊢
      clear hz1
      refine lv_icmp_ge (tgt := 69) hx hb dX1_keep_27 (by decide) (fun c_ => ?_) (fun c_ => ?_)
      · skip
        have b_ := zT_ge rfl rfl c_
        refine lv_aload_n hx hb dX1_keep_69 rfl (lv_at hl 0 rfl) ?_
        refine va_get (D := (dC, dI)) (ci := 1) (v := .ref h42) (C := RX1) (T := TX1) (N := 17) hx hb hG zuX1 hown hK hP 0 rfl rfl 9 (by decide) (hG _ zv513) (fun _ h9 => h9) rfl dX1_keep_70 ?_
        refine lv_aload_n hx hb dX1_keep_73 rfl (lv_at hl 0 rfl) ?_
        refine va_get (D := (dC, dI)) (ci := 1) (v := .int (v0 16)) (C := RX1) (T := TX1) (N := 17) hx hb hG zuX1 hown hK hP 0 rfl rfl 16 (by decide) (hG _ zv520) (fun _ h9 => h9) rfl dX1_keep_74 ?_
        refine lv_iload_n hx hb dX1_keep_77 rfl (lv_at hl 1 rfl) ?_
        refine va_iast hx hb hK hP hD hS 4 1 rfl rfl (zin_lit ⟨by omega, by omega⟩) dX1_keep_78 (fun H locs hP hD hS => ?_)
        obtain ⟨f_78, e_f_78⟩ : ∃ z : Nat → Int32, z = upd f42 ((v0 16) : Int32).toNatClampNeg x1 := ⟨_, rfl⟩
        have hP : va_P (dC, dI) vwCl ([(h0, .inr (1, mX1 h1 h6 h13 h21 h36 h37 h39 h40 h41 h42 h43 h44 h45 h46 h47 h48 v0)), (h37, .inr (5, mX5 h38)), (h38, zi k38 26 (a19_ 0)), (h13, .inr (7, mX7 h14 h15 h16 h17 h18 h19 h20 v13)), (h42, zi k42 120 f_78), (h43, zi k43 120 f43), (h18, zi k18 40 f18), (h36, .inl (k36, 40, .inr (.inr (.inr (.inr f36))))), (h41, zi k41 40 f41), (h31, .inl (k31, 400, .inr (.inr (.inr (.inr f31)))))] ++ pl19) H := by rw [e_f_78]; exact hP
        have hD : va_D A ([(h0, .inr (1, mX1 h1 h6 h13 h21 h36 h37 h39 h40 h41 h42 h43 h44 h45 h46 h47 h48 v0)), (h37, .inr (5, mX5 h38)), (h38, zi k38 26 (a19_ 0)), (h13, .inr (7, mX7 h14 h15 h16 h17 h18 h19 h20 v13)), (h42, zi k42 120 f_78), (h43, zi k43 120 f43), (h18, zi k18 40 f18), (h36, .inl (k36, 40, .inr (.inr (.inr (.inr f36))))), (h41, zi k41 40 f41), (h31, .inl (k31, 400, .inr (.inr (.inr (.inr f31)))))] ++ pl19) := by rw [e_f_78]; exact hD
        have hf_78 : zA 0 119 f_78 := by rw [e_f_78]; exact zA_upd hf42 (show 0 ≤ (x1 : Int32).toInt from by omega) (show (x1 : Int32).toInt ≤ 119 from by omega)
        refine lv_aload_n hx hb dX1_keep_79 rfl (lv_at hl 0 rfl) ?_
        refine va_get (D := (dC, dI)) (ci := 1) (v := .ref h43) (C := RX1) (T := TX1) (N := 17) hx hb hG zuX1 hown hK hP 0 rfl rfl 10 (by decide) (hG _ zv514) (fun _ h9 => h9) rfl dX1_keep_80 ?_
        refine lv_aload_n hx hb dX1_keep_83 rfl (lv_at hl 0 rfl) ?_
        refine va_get (D := (dC, dI)) (ci := 1) (v := .int (v0 16)) (C := RX1) (T := TX1) (N := 17) hx hb hG zuX1 hown hK hP 0 rfl rfl 16 (by decide) (hG _ zv520) (fun _ h9 => h9) rfl dX1_keep_84 ?_
        refine lv_aload_n hx hb dX1_keep_87 rfl (lv_at hl 0 rfl) ?_
        refine va_get (D := (dC, dI)) (ci := 1) (v := .ref h37) (C := RX1) (T := TX1) (N := 17) hx hb hG zuX1 hown hK hP 0 rfl rfl 5 (by decide) (hG _ zv509) (fun _ h9 => h9) rfl dX1_keep_88 ?_
        have hPc := hP.sub (ws' := [(h37, .inr (5, mX5 h38)), (h38, zi k38 26 (a19_ 0))]) [1, 2] rfl
        have hDc := hD.sub (ws' := [(h37, .inr (5, mX5 h38)), (h38, zi k38 26 (a19_ 0))]) [1, 2] (by decide) rfl
        have hKc := hK.sub (tys' := [(k38, .int)]) [0] rfl
        have hFc := va_free (wc := [(h37, .inr (5, mX5 h38)), (h38, zi k38 26 (a19_ 0))]) hD hS hA [1, 2] rfl
        refine va_calli (va_runV (As := []) (rest := [.int (v0 16), .ref h43]) ⟨hx, hb, hml, hown, hG⟩ (sX5_fullest_0 l dC dI adK adV h37 h38 k38 H.size (a19_ 0)) (cwV 0 hG (zgV zv1338 zv1339 zv1340 zv139 zv1341) rfl rfl rfl (by decide +kernel) ⟨Nat.le_of_ble_eq_true rfl, Nat.le_of_ble_eq_true rfl⟩) ⟨zPc_blind, va_recv hKc hPc (ci := 5) (q0 := 0) rfl rfl, zPc_pre hPc hKc hDc hE hS hFc hZ⟩ rfl rfl hl.1 rfl (lv_room (Nat.le_of_ble_eq_true rfl)) dX1_keep_91 ⟨Nat.le_of_ble_eq_true rfl, Nat.le_of_ble_eq_true rfl⟩) hS (fun q _ h => hFc q h) hFc (fun r91_ u91_ t H1 locs ht hvm hw hB hz1 hk1 hS => ?_)
        replace hw : ((-1) ≤ r91_.toInt ∧ r91_.toInt ≤ 832) ∧ (zFuP (fun q_ => zpb (a19_ 0) q_ = true) r91_.toInt) := hw
        obtain ⟨b_, hX91_0⟩ := hw
        obtain ⟨w91_, a91_, b91_, hP1, hK1, hD1⟩ := hB
        rw [ht] at hP1
        obtain ⟨hP, hD⟩ := va_joinQ (wr := [(h0, .inr (1, mX1 h1 h6 h13 h21 h36 h37 h39 h40 h41 h42 h43 h44 h45 h46 h47 h48 v0)), (h13, .inr (7, mX7 h14 h15 h16 h17 h18 h19 h20 v13)), (h42, zi k42 120 f_78), (h43, zi k43 120 f43), (h18, zi k18 40 f18), (h36, .inl (k36, 40, .inr (.inr (.inr (.inr f36))))), (h41, zi k41 40 f41), (h31, .inl (k31, 400, .inr (.inr (.inr (.inr f31)))))]) (w1 := [(h37, .inr (5, mX5 h38)), (h38, zi k38 26 (a19_ 0))]) hP hD [1, 2] [0, 3, 4, 5, 6, 7, 8, 9] rfl rfl (by decide) (by decide) hk1 hFc hP1 hD1
        have hP : va_P (dC, dI) vwCl ([(h0, .inr (1, mX1 h1 h6 h13 h21 h36 h37 h39 h40 h41 h42 h43 h44 h45 h46 h47 h48 v0)), (h37, .inr (5, mX5 h38)), (h38, zi k38 26 (a19_ 0)), (h13, .inr (7, mX7 h14 h15 h16 h17 h18 h19 h20 v13)), (h42, zi k42 120 f_78), (h43, zi k43 120 f43), (h18, zi k18 40 f18), (h36, .inl (k36, 40, .inr (.inr (.inr (.inr f36))))), (h41, zi k41 40 f41), (h31, .inl (k31, 400, .inr (.inr (.inr (.inr f31)))))] ++ pl19) H1 := hP.part [0, 8, 9, 1, 2, 3, 4, 5, 6, 7] rfl
        have hD : va_D A ([(h0, .inr (1, mX1 h1 h6 h13 h21 h36 h37 h39 h40 h41 h42 h43 h44 h45 h46 h47 h48 v0)), (h37, .inr (5, mX5 h38)), (h38, zi k38 26 (a19_ 0)), (h13, .inr (7, mX7 h14 h15 h16 h17 h18 h19 h20 v13)), (h42, zi k42 120 f_78), (h43, zi k43 120 f43), (h18, zi k18 40 f18), (h36, .inl (k36, 40, .inr (.inr (.inr (.inr f36))))), (h41, zi k41 40 f41), (h31, .inl (k31, 400, .inr (.inr (.inr (.inr f31)))))] ++ pl19) := hD.part [0, 8, 9, 1, 2, 3, 4, 5, 6, 7] (by decide) rfl
        generalize H1 = H at hP hS ⊢
        clear hz1
        refine va_iast hx hb hK hP hD hS 5 2 rfl rfl (zin_lit ⟨by omega, by omega⟩) dX1_keep_94 (fun H locs hP hD hS => ?_)
        obtain ⟨f_94, e_f_94⟩ : ∃ z : Nat → Int32, z = upd f43 ((v0 16) : Int32).toNatClampNeg r91_ := ⟨_, rfl⟩
        have hP : va_P (dC, dI) vwCl ([(h0, .inr (1, mX1 h1 h6 h13 h21 h36 h37 h39 h40 h41 h42 h43 h44 h45 h46 h47 h48 v0)), (h37, .inr (5, mX5 h38)), (h38, zi k38 26 (a19_ 0)), (h13, .inr (7, mX7 h14 h15 h16 h17 h18 h19 h20 v13)), (h42, zi k42 120 f_78), (h43, zi k43 120 f_94), (h18, zi k18 40 f18), (h36, .inl (k36, 40, .inr (.inr (.inr (.inr f36))))), (h41, zi k41 40 f41), (h31, .inl (k31, 400, .inr (.inr (.inr (.inr f31)))))] ++ pl19) H := by rw [e_f_94]; exact hP
        have hD : va_D A ([(h0, .inr (1, mX1 h1 h6 h13 h21 h36 h37 h39 h40 h41 h42 h43 h44 h45 h46 h47 h48 v0)), (h37, .inr (5, mX5 h38)), (h38, zi k38 26 (a19_ 0)), (h13, .inr (7, mX7 h14 h15 h16 h17 h18 h19 h20 v13)), (h42, zi k42 120 f_78), (h43, zi k43 120 f_94), (h18, zi k18 40 f18), (h36, .inl (k36, 40, .inr (.inr (.inr (.inr f36))))), (h41, zi k41 40 f41), (h31, .inl (k31, 400, .inr (.inr (.inr (.inr f31)))))] ++ pl19) := by rw [e_f_94]; exact hD
        refine lv_aload_n hx hb dX1_keep_95 rfl (lv_at hl 0 rfl) ?_
        refine lv_dup hx hb dX1_keep_96 rfl ?_
        refine va_get (D := (dC, dI)) (ci := 1) (v := .int (v0 16)) (C := RX1) (T := TX1) (N := 17) hx hb hG zuX1 hown hK hP 0 rfl rfl 16 (by decide) (hG _ zv520) (fun _ h9 => h9) rfl dX1_keep_97 ?_
        refine lv_iconst (v := 1) hx hb dX1_keep_100 (by decide) ?_
        refine lv_iadd hx hb dX1_keep_101 ?_
        refine lv_topi (fun z101 e_z101 => ?_)
        have b_ := zadd rfl zk_1 e_z101 (by omega) (by omega)
        refine va_put (D := (dC, dI)) (ci := 1) (v := .int z101) (ty := .int) (C := RX1) (T := TX1) (N := 17) hx hb hG zuX1 tyX1 tyX1_ok nmX1 hown hK hP hD hS 0 rfl rfl 16 (by decide) (hG _ zv520) (fun _ h9 => h9) rfl (by decide +kernel) rfl rfl (Nat.le_of_ble_eq_true rfl) dX1_keep_102 (fun H locs hP hD hS => ?_)
        have hP : va_P (dC, dI) vwCl ([(h0, .inr (1, mX1 h1 h6 h13 h21 h36 h37 h39 h40 h41 h42 h43 h44 h45 h46 h47 h48 (upd v0 16 z101))), (h37, .inr (5, mX5 h38)), (h38, zi k38 26 (a19_ 0)), (h13, .inr (7, mX7 h14 h15 h16 h17 h18 h19 h20 v13)), (h42, zi k42 120 f_78), (h43, zi k43 120 f_94), (h18, zi k18 40 f18), (h36, .inl (k36, 40, .inr (.inr (.inr (.inr f36))))), (h41, zi k41 40 f41), (h31, .inl (k31, 400, .inr (.inr (.inr (.inr f31)))))] ++ pl19) H := hP
        have hD : va_D A ([(h0, .inr (1, mX1 h1 h6 h13 h21 h36 h37 h39 h40 h41 h42 h43 h44 h45 h46 h47 h48 (upd v0 16 z101))), (h37, .inr (5, mX5 h38)), (h38, zi k38 26 (a19_ 0)), (h13, .inr (7, mX7 h14 h15 h16 h17 h18 h19 h20 v13)), (h42, zi k42 120 f_78), (h43, zi k43 120 f_94), (h18, zi k18 40 f18), (h36, .inl (k36, 40, .inr (.inr (.inr (.inr f36))))), (h41, zi k41 40 f41), (h31, .inl (k31, 400, .inr (.inr (.inr (.inr f31)))))] ++ pl19) := hD
        refine W.widen (k := 0) (n := 0) (by decide) (by decide) ?_
        have hpost : (1 ≤ z101.toInt ∧ z101.toInt ≤ 120) := (by first | with_reducible assumption | exact ⟨by omega, by omega⟩)
        have hP9 : va_P (dC, dI) vwCl ([(h0, .inr (1, mX1 h1 h6 h13 h21 h36 h37 h39 h40 h41 h42 h43 h44 h45 h46 h47 h48 (upd v0 16 z101))), (h37, .inr (5, mX5 h38)), (h38, zi k38 26 (a19_ 0)), (h13, .inr (7, mX7 h14 h15 h16 h17 h18 h19 h20 v13)), (h42, zi k42 120 f_78), (h43, zi k43 120 f_94), (h18, zi k18 40 f18), (h36, .inl (k36, 40, .inr (.inr (.inr (.inr f36))))), (h41, zi k41 40 f41), (h31, .inl (k31, 400, .inr (.inr (.inr (.inr f31)))))] ++ pl19) H := hP
        have hD9 : va_D A ([(h0, .inr (1, mX1 h1 h6 h13 h21 h36 h37 h39 h40 h41 h42 h43 h44 h45 h46 h47 h48 (upd v0 16 z101))), (h37, .inr (5, mX5 h38)), (h38, zi k38 26 (a19_ 0)), (h13, .inr (7, mX7 h14 h15 h16 h17 h18 h19 h20 v13)), (h42, zi k42 120 f_78), (h43, zi k43 120 f_94), (h18, zi k18 40 f18), (h36, .inl (k36, 40, .inr (.inr (.inr (.inr f36))))), (h41, zi k41 40 f41), (h31, .inl (k31, 400, .inr (.inr (.inr (.inr f31)))))] ++ pl19) := hD
        have hB0 : zRd h22 f31 pl19 := by assumption
        have hB1 : zPs k41 f36 pl19 := by assumption
        have hB2 : zOt pl0 pl19 := by first | assumption | exact zOt_rf
        have hB3 : zPe pl0 pl19 := by first | assumption | exact zPe_rf
        have hB4 : zKpt f42 (v0 16).toInt (x1 : Int32) f_78 z101.toInt := by first | exact zKpt_n (by omega) | exact zKpt_y e_f_78 rfl (by omega)
        have hB5 : zKps k41 f36 pl0 f18 (v13 7).toInt (v0 16).toInt f43 f_94 := by first | exact zKps_n (by omega) | exact zKps_y hI19_0 (by omega) (by omega) hX91_0 e_f_94 rfl
        exact W.vret hx hb hr (fun t ht hW => ⟨⟨(fun i => ([z101] : List (Int32)).getD i 0), rfl, hpost, (fun _ => 0), (fun i => ([(a19_ 0), f_78, f_94] : List (Nat → Int32)).getD i (fun _ => 0)), (fun _ => (fun _ => 0)), (fun _ => (fun _ => none)), pl19, hf_78, hB0, hB1, hB2, hB3, hB4, hB5, by rw [ht]; exact hP9, va_K.moved hW.alike hK, hD9⟩, hS.F ht⟩) hS.2.2 dX1_keep_105
      · skip
        have b_ := zF_ge rfl rfl c_
        refine lv_aload_n hx hb dX1_keep_30 rfl (lv_at hl 0 rfl) ?_
        refine va_get (D := (dC, dI)) (ci := 1) (v := .ref h13) (C := RX1) (T := TX1) (N := 17) hx hb hG zuX1 hown hK hP 0 rfl rfl 2 (by decide) (hG _ zv506) (fun _ h9 => h9) rfl dX1_keep_31 ?_
        refine lv_iload_n hx hb dX1_keep_34 rfl (lv_at hl 2 rfl) ?_
        have hPc := hP.sub (ws' := [(h13, .inr (7, mX7 h14 h15 h16 h17 h18 h19 h20 v13)), (h18, zi k18 40 f18)]) [3, 6] rfl
        have hDc := hD.sub (ws' := [(h13, .inr (7, mX7 h14 h15 h16 h17 h18 h19 h20 v13)), (h18, zi k18 40 f18)]) [3, 6] (by decide) rfl
        have hKc := hK.sub (tys' := [(k18, .boolean)]) [3] rfl
        have hFc := va_free (wc := [(h13, .inr (7, mX7 h14 h15 h16 h17 h18 h19 h20 v13)), (h18, zi k18 40 f18)]) hD hS hA [3, 6] rfl
        refine va_calli (va_runV (As := [.int (u19_ 0)]) (rest := []) ⟨hx, hb, hml, hown, hG⟩ (sX7_isCounted_0 l dC dI adK adV h13 h18 h14 h15 h16 h17 h19 h20 k18 H.size v13 f18 (u19_ 0) hv13) (cwV 1 hG (zgV zv1330 zv1331 zv1332 zv136 zv1333) rfl rfl rfl (by decide +kernel) ⟨Nat.le_of_ble_eq_true rfl, Nat.le_of_ble_eq_true rfl⟩) ⟨zPc_blind, va_recv hKc hPc (ci := 7) (q0 := 0) rfl rfl, zPc_pre hPc hKc hDc hE hS hFc hZ⟩ rfl rfl hl.1 rfl (lv_room (Nat.le_of_ble_eq_true rfl)) dX1_keep_35 ⟨Nat.le_of_ble_eq_true rfl, Nat.le_of_ble_eq_true rfl⟩) hS (fun q _ h => hFc q h) hFc (fun r35_ u35_ t H1 locs ht hvm hw hB hz1 hk1 hS => ?_)
        replace hw : (0 ≤ r35_.toInt ∧ r35_.toInt ≤ 1) ∧ (0 ≤ (u19_ 0).toInt ∧ (u19_ 0).toInt ≤ 39 → (r35_.toInt ≠ 0 ↔ (f18 (((u19_ 0) : Int32)).toNatClampNeg).toInt ≠ 0)) := hw
        obtain ⟨b_, hX35_0⟩ := hw
        obtain ⟨w35_, a35_, b35_, hP1, hK1, hD1⟩ := hB
        rw [ht] at hP1
        obtain ⟨hP, hD⟩ := va_joinQ (wr := [(h0, .inr (1, mX1 h1 h6 h13 h21 h36 h37 h39 h40 h41 h42 h43 h44 h45 h46 h47 h48 v0)), (h37, .inr (5, mX5 h38)), (h38, zi k38 26 (a19_ 0)), (h42, zi k42 120 f42), (h43, zi k43 120 f43), (h36, .inl (k36, 40, .inr (.inr (.inr (.inr f36))))), (h41, zi k41 40 f41), (h31, .inl (k31, 400, .inr (.inr (.inr (.inr f31)))))]) (w1 := [(h13, .inr (7, mX7 h14 h15 h16 h17 h18 h19 h20 v13)), (h18, zi k18 40 f18)]) hP hD [3, 6] [0, 1, 2, 4, 5, 7, 8, 9] rfl rfl (by decide) (by decide) hk1 hFc hP1 hD1
        have hP : va_P (dC, dI) vwCl ([(h0, .inr (1, mX1 h1 h6 h13 h21 h36 h37 h39 h40 h41 h42 h43 h44 h45 h46 h47 h48 v0)), (h37, .inr (5, mX5 h38)), (h38, zi k38 26 (a19_ 0)), (h13, .inr (7, mX7 h14 h15 h16 h17 h18 h19 h20 v13)), (h42, zi k42 120 f42), (h43, zi k43 120 f43), (h18, zi k18 40 f18), (h36, .inl (k36, 40, .inr (.inr (.inr (.inr f36))))), (h41, zi k41 40 f41), (h31, .inl (k31, 400, .inr (.inr (.inr (.inr f31)))))] ++ pl19) H1 := hP.part [0, 1, 2, 8, 3, 4, 9, 5, 6, 7] rfl
        have hD : va_D A ([(h0, .inr (1, mX1 h1 h6 h13 h21 h36 h37 h39 h40 h41 h42 h43 h44 h45 h46 h47 h48 v0)), (h37, .inr (5, mX5 h38)), (h38, zi k38 26 (a19_ 0)), (h13, .inr (7, mX7 h14 h15 h16 h17 h18 h19 h20 v13)), (h42, zi k42 120 f42), (h43, zi k43 120 f43), (h18, zi k18 40 f18), (h36, .inl (k36, 40, .inr (.inr (.inr (.inr f36))))), (h41, zi k41 40 f41), (h31, .inl (k31, 400, .inr (.inr (.inr (.inr f31)))))] ++ pl19) := hD.part [0, 1, 2, 8, 3, 4, 9, 5, 6, 7] (by decide) rfl
        generalize H1 = H at hP hS ⊢
        clear hz1
        refine lv_if_eq (tgt := 63) hx hb dX1_keep_38 (by decide) (fun c_ => ?_) (fun c_ => ?_)
        · skip
          have b_ := zT_eq rfl zk_0 c_
          obtain ⟨z63, e_z63⟩ : ∃ z : Int32, z = (u19_ 0) + Int32.ofInt 1 := ⟨_, rfl⟩
          have b_ := zadd (x := (u19_ 0)) (y := Int32.ofInt 1) rfl (show (Int32.ofInt 1).toInt = 1 from by decide) e_z63 (by omega) (by omega)
          refine lv_iinc (v := z63) (lv' := [(2, .int z63), (0, .ref h0), (1, .int x1)]) hx hb dX1_keep_63 hl (k := 2) rfl e_z63.symm (by decide) rfl (fun ls hl => ?_)
          refine lv_goto (tgt := 19) hx hb dX1_keep_66 (by decide) ?_
          have hc : va_P (dC, dI) vwCl ([(h0, .inr (1, mX1 h1 h6 h13 h21 h36 h37 h39 h40 h41 h42 h43 h44 h45 h46 h47 h48 v0)), (h37, .inr (5, mX5 h38)), (h38, zi k38 26 (a19_ 0)), (h13, .inr (7, mX7 h14 h15 h16 h17 h18 h19 h20 v13)), (h42, zi k42 120 f42), (h43, zi k43 120 f43), (h18, zi k18 40 f18), (h36, .inl (k36, 40, .inr (.inr (.inr (.inr f36))))), (h41, zi k41 40 f41), (h31, .inl (k31, 400, .inr (.inr (.inr (.inr f31)))))] ++ pl19) H ∧ va_D A ([(h0, .inr (1, mX1 h1 h6 h13 h21 h36 h37 h39 h40 h41 h42 h43 h44 h45 h46 h47 h48 v0)), (h37, .inr (5, mX5 h38)), (h38, zi k38 26 (a19_ 0)), (h13, .inr (7, mX7 h14 h15 h16 h17 h18 h19 h20 v13)), (h42, zi k42 120 f42), (h43, zi k43 120 f43), (h18, zi k18 40 f18), (h36, .inl (k36, 40, .inr (.inr (.inr (.inr f36))))), (h41, zi k41 40 f41), (h31, .inl (k31, 400, .inr (.inr (.inr (.inr f31)))))] ++ pl19) ∧ va_S A s.heap H locs ∧ lv_has ls 3 [(0, .ref h0), (1, .int x1), (2, .int z63)] ∧ (0 ≤ z63.toInt ∧ z63.toInt ≤ 40) ∧ (zShI k41 f36 pl0 f18 (a19_ 0) z63.toInt) ∧ (z63.toInt ≤ (v13 7).toInt) ∧ (zRd h22 f31 pl19) ∧ (zPs k41 f36 pl19) ∧ (zOt pl0 pl19) ∧ (zPe pl0 pl19) := ⟨hP, hD, hS, lv_sub hl [1, 2, 0] rfl, (by first | with_reducible assumption | exact ⟨by omega, by omega⟩), by first | exact zShI_s hI19_0 (by omega) (by omega) (by assumption) hD e_plx_ e_o59.symm hB60_0 hX35_0 (by omega) (by omega) | exact zShI_n hI19_0 (by omega) (Or.inr e_o46.symm) (by omega) | exact zShI_c hI19_0 (by omega) (by omega) hX35_0 (by omega) (by omega) | exact zShI_0 hB14_0 (by decide), by omega, by assumption, by assumption, by first | assumption | exact zOt_rf, by first | assumption | exact zPe_rf⟩
          exact hJ19 H locs ls (fun i => ([z63] : List (Int32)).getD i 0) (fun _ => 0) (fun i => ([(a19_ 0)] : List (Nat → Int32)).getD i (fun _ => 0)) (fun _ => (fun _ => 0)) ⟨(fun _ => (fun _ => none)), pl19, hc⟩ (show (40 - z63.toInt).toNat < (40 - (u19_ 0).toInt).toNat from by omega)
        · skip
          have b_ := zF_eq rfl zk_0 c_
          refine lv_aload_n hx hb dX1_keep_41 rfl (lv_at hl 0 rfl) ?_
          refine va_get (D := (dC, dI)) (ci := 1) (v := .ref h36) (C := RX1) (T := TX1) (N := 17) hx hb hG zuX1 hown hK hP 0 rfl rfl 4 (by decide) (hG _ zv508) (fun _ h9 => h9) rfl dX1_keep_42 ?_
          refine lv_iload_n hx hb dX1_keep_45 rfl (lv_at hl 2 rfl) ?_
          refine va_aldq hx hb hK hP 7 4 rfl rfl (zin_lit ⟨by omega, by omega⟩) dX1_keep_46 ?_
          refine lv_topq (fun o46 e_o46 => ?_)
          rcases o46 with _ | a46_
          · skip
            refine W.eq (g2 := F0 m 47 ls [.null]) rfl ?_
            refine lv_ifnullN (tgt := 63) hx hb dX1_keep_47 (by decide) ?_
            obtain ⟨z63, e_z63⟩ : ∃ z : Int32, z = (u19_ 0) + Int32.ofInt 1 := ⟨_, rfl⟩
            have b_ := zadd (x := (u19_ 0)) (y := Int32.ofInt 1) rfl (show (Int32.ofInt 1).toInt = 1 from by decide) e_z63 (by omega) (by omega)
            refine lv_iinc (v := z63) (lv' := [(2, .int z63), (0, .ref h0), (1, .int x1)]) hx hb dX1_keep_63 hl (k := 2) rfl e_z63.symm (by decide) rfl (fun ls hl => ?_)
            refine lv_goto (tgt := 19) hx hb dX1_keep_66 (by decide) ?_
            have hc : va_P (dC, dI) vwCl ([(h0, .inr (1, mX1 h1 h6 h13 h21 h36 h37 h39 h40 h41 h42 h43 h44 h45 h46 h47 h48 v0)), (h37, .inr (5, mX5 h38)), (h38, zi k38 26 (a19_ 0)), (h13, .inr (7, mX7 h14 h15 h16 h17 h18 h19 h20 v13)), (h42, zi k42 120 f42), (h43, zi k43 120 f43), (h18, zi k18 40 f18), (h36, .inl (k36, 40, .inr (.inr (.inr (.inr f36))))), (h41, zi k41 40 f41), (h31, .inl (k31, 400, .inr (.inr (.inr (.inr f31)))))] ++ pl19) H ∧ va_D A ([(h0, .inr (1, mX1 h1 h6 h13 h21 h36 h37 h39 h40 h41 h42 h43 h44 h45 h46 h47 h48 v0)), (h37, .inr (5, mX5 h38)), (h38, zi k38 26 (a19_ 0)), (h13, .inr (7, mX7 h14 h15 h16 h17 h18 h19 h20 v13)), (h42, zi k42 120 f42), (h43, zi k43 120 f43), (h18, zi k18 40 f18), (h36, .inl (k36, 40, .inr (.inr (.inr (.inr f36))))), (h41, zi k41 40 f41), (h31, .inl (k31, 400, .inr (.inr (.inr (.inr f31)))))] ++ pl19) ∧ va_S A s.heap H locs ∧ lv_has ls 3 [(0, .ref h0), (1, .int x1), (2, .int z63)] ∧ (0 ≤ z63.toInt ∧ z63.toInt ≤ 40) ∧ (zShI k41 f36 pl0 f18 (a19_ 0) z63.toInt) ∧ (z63.toInt ≤ (v13 7).toInt) ∧ (zRd h22 f31 pl19) ∧ (zPs k41 f36 pl19) ∧ (zOt pl0 pl19) ∧ (zPe pl0 pl19) := ⟨hP, hD, hS, lv_sub hl [1, 2, 0] rfl, (by first | with_reducible assumption | exact ⟨by omega, by omega⟩), by first | exact zShI_s hI19_0 (by omega) (by omega) (by assumption) hD e_plx_ e_o59.symm hB60_0 hX35_0 (by omega) (by omega) | exact zShI_n hI19_0 (by omega) (Or.inr e_o46.symm) (by omega) | exact zShI_c hI19_0 (by omega) (by omega) hX35_0 (by omega) (by omega) | exact zShI_0 hB14_0 (by decide), by omega, by assumption, by assumption, by first | assumption | exact zOt_rf, by first | assumption | exact zPe_rf⟩
            exact hJ19 H locs ls (fun i => ([z63] : List (Int32)).getD i 0) (fun _ => 0) (fun i => ([(a19_ 0)] : List (Nat → Int32)).getD i (fun _ => 0)) (fun _ => (fun _ => 0)) ⟨(fun _ => (fun _ => none)), pl19, hc⟩ (show (40 - z63.toInt).toNat < (40 - (u19_ 0).toInt).toNat from by omega)
          · skip
            refine W.eq (g2 := F0 m 47 ls [.ref a46_]) rfl ?_
            have hnn_ : f36 ((u19_ 0) : Int32).toNatClampNeg ≠ none := fun h => by rw [h] at e_o46; cases e_o46
            refine lv_ifnull hx hb dX1_keep_47 ?_
            refine lv_aload_n hx hb dX1_keep_50 rfl (lv_at hl 0 rfl) ?_
            refine va_get (D := (dC, dI)) (ci := 1) (v := .ref h37) (C := RX1) (T := TX1) (N := 17) hx hb hG zuX1 hown hK hP 0 rfl rfl 5 (by decide) (hG _ zv509) (fun _ h9 => h9) rfl dX1_keep_51 ?_
            refine lv_aload_n hx hb dX1_keep_54 rfl (lv_at hl 0 rfl) ?_
            refine va_get (D := (dC, dI)) (ci := 1) (v := .ref h36) (C := RX1) (T := TX1) (N := 17) hx hb hG zuX1 hown hK hP 0 rfl rfl 4 (by decide) (hG _ zv508) (fun _ h9 => h9) rfl dX1_keep_55 ?_
            refine lv_iload_n hx hb dX1_keep_58 rfl (lv_at hl 2 rfl) ?_
            refine va_aldq hx hb hK hP 7 4 rfl rfl (zin_lit ⟨by omega, by omega⟩) dX1_keep_59 ?_
            refine lv_topq (fun o59 e_o59 => ?_)
            rcases o59 with _ | a59_
            · skip
              exact absurd e_o59.symm (by assumption)
            · skip
              refine W.eq (g2 := F0 m 60 ls [.ref a59_, .ref h37]) rfl ?_
              have hnn_ : f36 ((u19_ 0) : Int32).toNatClampNeg ≠ none := fun h => by rw [h] at e_o59; cases e_o59
              obtain ⟨b59_, f59_, p59, e_pl59, hzp59⟩ := zPs_out (show zPs k41 f36 pl19 from by assumption) (zltc (by omega) (by omega)) e_o59.symm
              have hP : va_P (dC, dI) vwCl ([(h0, .inr (1, mX1 h1 h6 h13 h21 h36 h37 h39 h40 h41 h42 h43 h44 h45 h46 h47 h48 v0)), (h37, .inr (5, mX5 h38)), (h38, zi k38 26 (a19_ 0)), (h13, .inr (7, mX7 h14 h15 h16 h17 h18 h19 h20 v13)), (h42, zi k42 120 f42), (h43, zi k43 120 f43), (h18, zi k18 40 f18), (h36, .inl (k36, 40, .inr (.inr (.inr (.inr f36))))), (h41, zi k41 40 f41), (h31, .inl (k31, 400, .inr (.inr (.inr (.inr f31))))), (a59_, .inr (5, mX5 b59_)), (b59_, zi k41 26 f59_)] ++ p59) H := zfocPm e_pl59 hP
              have hD : va_D A ([(h0, .inr (1, mX1 h1 h6 h13 h21 h36 h37 h39 h40 h41 h42 h43 h44 h45 h46 h47 h48 v0)), (h37, .inr (5, mX5 h38)), (h38, zi k38 26 (a19_ 0)), (h13, .inr (7, mX7 h14 h15 h16 h17 h18 h19 h20 v13)), (h42, zi k42 120 f42), (h43, zi k43 120 f43), (h18, zi k18 40 f18), (h36, .inl (k36, 40, .inr (.inr (.inr (.inr f36))))), (h41, zi k41 40 f41), (h31, .inl (k31, 400, .inr (.inr (.inr (.inr f31))))), (a59_, .inr (5, mX5 b59_)), (b59_, zi k41 26 f59_)] ++ p59) := zfocDm e_pl59 hD
              have hPc := hP.sub (ws' := [(h37, .inr (5, mX5 h38)), (h38, zi k38 26 (a19_ 0)), (a59_, .inr (5, mX5 b59_)), (b59_, zi k41 26 f59_)]) [1, 2, 10, 11] rfl
              have hDc := hD.sub (ws' := [(h37, .inr (5, mX5 h38)), (h38, zi k38 26 (a19_ 0)), (a59_, .inr (5, mX5 b59_)), (b59_, zi k41 26 f59_)]) [1, 2, 10, 11] (by decide) rfl
              have hKc := hK.sub (tys' := [(k38, .int), (k41, .int)]) [0, 5] rfl
              have hFc := va_free (wc := [(h37, .inr (5, mX5 h38)), (h38, zi k38 26 (a19_ 0)), (a59_, .inr (5, mX5 b59_)), (b59_, zi k41 26 f59_)]) hD hS hA [1, 2, 10, 11] rfl
              refine va_callv (va_runV (As := [.ref a59_]) (rest := []) ⟨hx, hb, hml, hown, hG⟩ (sX5_putAll_0 l dC dI adK adV h37 h38 a59_ b59_ k38 k41 H.size (a19_ 0) f59_) (cwV 1 hG (zgV zv1334 zv1335 zv1336 zv139 zv1337) rfl rfl rfl (by decide +kernel) ⟨Nat.le_of_ble_eq_true rfl, Nat.le_of_ble_eq_true rfl⟩) ⟨zPc_blind, va_recv hKc hPc (ci := 5) (q0 := 0) rfl rfl, zPc_pre hPc hKc hDc hE hS hFc hZ⟩ rfl rfl hl.1 rfl (lv_room (Nat.le_of_ble_eq_true rfl)) dX1_keep_60 ⟨Nat.le_of_ble_eq_true rfl, Nat.le_of_ble_eq_true rfl⟩) hS (fun q _ h => hFc q h) hFc (fun u60_ t H1 locs ht hvm hw hB hz1 hk1 hS => ?_)
              obtain ⟨w60_, a60_, b60_, hB60_0, hP1, hK1, hD1⟩ := hB
              have hB60_0 : ∀ q : Nat, q < 832 → zpb (a60_ 0) q = (zpb (a19_ 0) q || zpb f59_ q) := hB60_0
              rw [ht] at hP1
              obtain ⟨hP, hD⟩ := va_joinQ (wr := [(h0, .inr (1, mX1 h1 h6 h13 h21 h36 h37 h39 h40 h41 h42 h43 h44 h45 h46 h47 h48 v0)), (h13, .inr (7, mX7 h14 h15 h16 h17 h18 h19 h20 v13)), (h42, zi k42 120 f42), (h43, zi k43 120 f43), (h18, zi k18 40 f18), (h36, .inl (k36, 40, .inr (.inr (.inr (.inr f36))))), (h41, zi k41 40 f41), (h31, .inl (k31, 400, .inr (.inr (.inr (.inr f31)))))]) (w1 := [(h37, .inr (5, mX5 h38)), (h38, zi k38 26 (a60_ 0)), (a59_, .inr (5, mX5 b59_)), (b59_, zi k41 26 f59_)]) hP hD [1, 2, 10, 11] [0, 3, 4, 5, 6, 7, 8, 9] rfl rfl (by decide) (by decide) hk1 hFc hP1 hD1
              have hP : va_P (dC, dI) vwCl ([(h0, .inr (1, mX1 h1 h6 h13 h21 h36 h37 h39 h40 h41 h42 h43 h44 h45 h46 h47 h48 v0)), (h37, .inr (5, mX5 h38)), (h38, zi k38 26 (a60_ 0)), (h13, .inr (7, mX7 h14 h15 h16 h17 h18 h19 h20 v13)), (h42, zi k42 120 f42), (h43, zi k43 120 f43), (h18, zi k18 40 f18), (h36, .inl (k36, 40, .inr (.inr (.inr (.inr f36))))), (h41, zi k41 40 f41), (h31, .inl (k31, 400, .inr (.inr (.inr (.inr f31))))), (a59_, .inr (5, mX5 b59_)), (b59_, zi k41 26 f59_)] ++ p59) H1 := hP.part [0, 8, 9, 1, 2, 3, 4, 5, 6, 7, 10, 11] rfl
              have hD : va_D A ([(h0, .inr (1, mX1 h1 h6 h13 h21 h36 h37 h39 h40 h41 h42 h43 h44 h45 h46 h47 h48 v0)), (h37, .inr (5, mX5 h38)), (h38, zi k38 26 (a60_ 0)), (h13, .inr (7, mX7 h14 h15 h16 h17 h18 h19 h20 v13)), (h42, zi k42 120 f42), (h43, zi k43 120 f43), (h18, zi k18 40 f18), (h36, .inl (k36, 40, .inr (.inr (.inr (.inr f36))))), (h41, zi k41 40 f41), (h31, .inl (k31, 400, .inr (.inr (.inr (.inr f31))))), (a59_, .inr (5, mX5 b59_)), (b59_, zi k41 26 f59_)] ++ p59) := hD.part [0, 8, 9, 1, 2, 3, 4, 5, 6, 7, 10, 11] (by decide) rfl
              generalize H1 = H at hP hS ⊢
              clear hz1
              obtain ⟨z63, e_z63⟩ : ∃ z : Int32, z = (u19_ 0) + Int32.ofInt 1 := ⟨_, rfl⟩
              have b_ := zadd (x := (u19_ 0)) (y := Int32.ofInt 1) rfl (show (Int32.ofInt 1).toInt = 1 from by decide) e_z63 (by omega) (by omega)
              refine lv_iinc (v := z63) (lv' := [(2, .int z63), (0, .ref h0), (1, .int x1)]) hx hb dX1_keep_63 hl (k := 2) rfl e_z63.symm (by decide) rfl (fun ls hl => ?_)
              refine lv_goto (tgt := 19) hx hb dX1_keep_66 (by decide) ?_
              obtain ⟨plx21, e_plx21⟩ : ∃ z : va_W, z = (a59_, .inr (5, mX5 b59_)) :: (b59_, zi k41 26 f59_) :: p59 := ⟨_, rfl⟩
              have e_plx_ := e_plx21
              have hP : va_P (dC, dI) vwCl ([(h0, .inr (1, mX1 h1 h6 h13 h21 h36 h37 h39 h40 h41 h42 h43 h44 h45 h46 h47 h48 v0)), (h37, .inr (5, mX5 h38)), (h38, zi k38 26 (a60_ 0)), (h13, .inr (7, mX7 h14 h15 h16 h17 h18 h19 h20 v13)), (h42, zi k42 120 f42), (h43, zi k43 120 f43), (h18, zi k18 40 f18), (h36, .inl (k36, 40, .inr (.inr (.inr (.inr f36))))), (h41, zi k41 40 f41), (h31, .inl (k31, 400, .inr (.inr (.inr (.inr f31)))))] ++ plx21) H := by rw [e_plx21]; exact hP
              have hD : va_D A ([(h0, .inr (1, mX1 h1 h6 h13 h21 h36 h37 h39 h40 h41 h42 h43 h44 h45 h46 h47 h48 v0)), (h37, .inr (5, mX5 h38)), (h38, zi k38 26 (a60_ 0)), (h13, .inr (7, mX7 h14 h15 h16 h17 h18 h19 h20 v13)), (h42, zi k42 120 f42), (h43, zi k43 120 f43), (h18, zi k18 40 f18), (h36, .inl (k36, 40, .inr (.inr (.inr (.inr f36))))), (h41, zi k41 40 f41), (h31, .inl (k31, 400, .inr (.inr (.inr (.inr f31)))))] ++ plx21) := by rw [e_plx21]; exact hD
              have hpl_ : zRd h22 f31 plx21 := by rw [e_plx21]; exact zRd_putP (show zRd h22 f31 pl19 from by first | assumption | exact zKp_rf | exact zOt_rf) e_pl59
              have hpl_ : zPs k41 f36 plx21 := by rw [e_plx21]; exact zPs_putP (show zPs k41 f36 pl19 from by first | assumption | exact zKp_rf | exact zOt_rf) e_pl59
              have hpl_ : zOt pl0 plx21 := by rw [e_plx21]; exact zOt_putP (show zOt pl0 pl19 from by first | assumption | exact zKp_rf | exact zOt_rf) e_pl59
              have hpl_ : zPe pl0 plx21 := by rw [e_plx21]; exact zPe_putP (show zPe pl0 pl19 from by first | assumption | exact zKp_rf | exact zOt_rf) e_pl59
              have hc : va_P (dC, dI) vwCl ([(h0, .inr (1, mX1 h1 h6 h13 h21 h36 h37 h39 h40 h41 h42 h43 h44 h45 h46 h47 h48 v0)), (h37, .inr (5, mX5 h38)), (h38, zi k38 26 (a60_ 0)), (h13, .inr (7, mX7 h14 h15 h16 h17 h18 h19 h20 v13)), (h42, zi k42 120 f42), (h43, zi k43 120 f43), (h18, zi k18 40 f18), (h36, .inl (k36, 40, .inr (.inr (.inr (.inr f36))))), (h41, zi k41 40 f41), (h31, .inl (k31, 400, .inr (.inr (.inr (.inr f31)))))] ++ plx21) H ∧ va_D A ([(h0, .inr (1, mX1 h1 h6 h13 h21 h36 h37 h39 h40 h41 h42 h43 h44 h45 h46 h47 h48 v0)), (h37, .inr (5, mX5 h38)), (h38, zi k38 26 (a60_ 0)), (h13, .inr (7, mX7 h14 h15 h16 h17 h18 h19 h20 v13)), (h42, zi k42 120 f42), (h43, zi k43 120 f43), (h18, zi k18 40 f18), (h36, .inl (k36, 40, .inr (.inr (.inr (.inr f36))))), (h41, zi k41 40 f41), (h31, .inl (k31, 400, .inr (.inr (.inr (.inr f31)))))] ++ plx21) ∧ va_S A s.heap H locs ∧ lv_has ls 3 [(0, .ref h0), (1, .int x1), (2, .int z63)] ∧ (0 ≤ z63.toInt ∧ z63.toInt ≤ 40) ∧ (zShI k41 f36 pl0 f18 (a60_ 0) z63.toInt) ∧ (z63.toInt ≤ (v13 7).toInt) ∧ (zRd h22 f31 plx21) ∧ (zPs k41 f36 plx21) ∧ (zOt pl0 plx21) ∧ (zPe pl0 plx21) := ⟨hP, hD, hS, lv_sub hl [1, 2, 0] rfl, (by first | with_reducible assumption | exact ⟨by omega, by omega⟩), by first | exact zShI_s hI19_0 (by omega) (by omega) (by assumption) hD e_plx_ e_o59.symm hB60_0 hX35_0 (by omega) (by omega) | exact zShI_n hI19_0 (by omega) (Or.inr e_o46.symm) (by omega) | exact zShI_c hI19_0 (by omega) (by omega) hX35_0 (by omega) (by omega) | exact zShI_0 hB14_0 (by decide), by omega, by assumption, by assumption, by first | assumption | exact zOt_rf, by first | assumption | exact zPe_rf⟩
              exact hJ19 H locs ls (fun i => ([z63] : List (Int32)).getD i 0) (fun _ => 0) (fun i => ([(a60_ 0)] : List (Nat → Int32)).getD i (fun _ => 0)) (fun _ => (fun _ => 0)) ⟨(fun _ => (fun _ => none)), plx21, hc⟩ (show (40 - z63.toInt).toNat < (40 - (u19_ 0).toInt).toNat from by omega)
    · skip
      have hc : va_P (dC, dI) vwCl ([(h0, .inr (1, mX1 h1 h6 h13 h21 h36 h37 h39 h40 h41 h42 h43 h44 h45 h46 h47 h48 v0)), (h37, .inr (5, mX5 h38)), (h38, zi k38 26 (a14_ 0)), (h13, .inr (7, mX7 h14 h15 h16 h17 h18 h19 h20 v13)), (h42, zi k42 120 f42), (h43, zi k43 120 f43), (h18, zi k18 40 f18), (h36, .inl (k36, 40, .inr (.inr (.inr (.inr f36))))), (h41, zi k41 40 f41), (h31, .inl (k31, 400, .inr (.inr (.inr (.inr f31)))))] ++ pl0) H ∧ va_D A ([(h0, .inr (1, mX1 h1 h6 h13 h21 h36 h37 h39 h40 h41 h42 h43 h44 h45 h46 h47 h48 v0)), (h37, .inr (5, mX5 h38)), (h38, zi k38 26 (a14_ 0)), (h13, .inr (7, mX7 h14 h15 h16 h17 h18 h19 h20 v13)), (h42, zi k42 120 f42), (h43, zi k43 120 f43), (h18, zi k18 40 f18), (h36, .inl (k36, 40, .inr (.inr (.inr (.inr f36))))), (h41, zi k41 40 f41), (h31, .inl (k31, 400, .inr (.inr (.inr (.inr f31)))))] ++ pl0) ∧ va_S A s.heap H locs ∧ lv_has ls 3 [(0, .ref h0), (1, .int x1), (2, .int 0)] ∧ (0 ≤ (0 : Int32).toInt ∧ (0 : Int32).toInt ≤ 40) ∧ (zShI k41 f36 pl0 f18 (a14_ 0) (0 : Int32).toInt) ∧ ((0 : Int32).toInt ≤ (v13 7).toInt) ∧ (zRd h22 f31 pl0) ∧ (zPs k41 f36 pl0) ∧ (zOt pl0 pl0) ∧ (zPe pl0 pl0) := ⟨hP, hD, hS, lv_sub hl [1, 2, 0] rfl, (by first | with_reducible assumption | exact ⟨by omega, by omega⟩), by first | exact zShI_s hI19_0 (by omega) (by omega) (by assumption) hD e_plx_ e_o59.symm hB60_0 hX35_0 (by omega) (by omega) | exact zShI_n hI19_0 (by omega) (Or.inr e_o46.symm) (by omega) | exact zShI_c hI19_0 (by omega) (by omega) hX35_0 (by omega) (by omega) | exact zShI_0 hB14_0 (by decide), by omega, by assumption, by assumption, by first | assumption | exact zOt_rf, by first | assumption | exact zPe_rf⟩
      exact hJ19 H locs ls (fun i => ([0] : List (Int32)).getD i 0) (fun _ => 0) (fun i => ([(a14_ 0)] : List (Nat → Int32)).getD i (fun _ => 0)) (fun _ => (fun _ => 0)) ⟨(fun _ => (fun _ => none)), pl0, hc⟩
  · skip
    have b_ := zF_lt rfl zk_120 c_
    refine W.widen (k := 0) (n := 0) (by decide) (by decide) ?_
    have hpost : (1 ≤ (v0 16).toInt ∧ (v0 16).toInt ≤ 120) := (by first | with_reducible assumption | exact ⟨by omega, by omega⟩)
    have hP9 : va_P (dC, dI) vwCl ([(h0, .inr (1, mX1 h1 h6 h13 h21 h36 h37 h39 h40 h41 h42 h43 h44 h45 h46 h47 h48 (upd v0 16 (v0 16)))), (h37, .inr (5, mX5 h38)), (h38, zi k38 26 f38), (h13, .inr (7, mX7 h14 h15 h16 h17 h18 h19 h20 v13)), (h42, zi k42 120 f42), (h43, zi k43 120 f43), (h18, zi k18 40 f18), (h36, .inl (k36, 40, .inr (.inr (.inr (.inr f36))))), (h41, zi k41 40 f41), (h31, .inl (k31, 400, .inr (.inr (.inr (.inr f31)))))] ++ pl0) s.heap := hP
    have hD9 : va_D A ([(h0, .inr (1, mX1 h1 h6 h13 h21 h36 h37 h39 h40 h41 h42 h43 h44 h45 h46 h47 h48 (upd v0 16 (v0 16)))), (h37, .inr (5, mX5 h38)), (h38, zi k38 26 f38), (h13, .inr (7, mX7 h14 h15 h16 h17 h18 h19 h20 v13)), (h42, zi k42 120 f42), (h43, zi k43 120 f43), (h18, zi k18 40 f18), (h36, .inl (k36, 40, .inr (.inr (.inr (.inr f36))))), (h41, zi k41 40 f41), (h31, .inl (k31, 400, .inr (.inr (.inr (.inr f31)))))] ++ pl0) := hD
    have hB0 : zRd h22 f31 pl0 := by assumption
    have hB1 : zPs k41 f36 pl0 := by assumption
    have hB2 : zOt pl0 pl0 := by first | assumption | exact zOt_rf
    have hB3 : zPe pl0 pl0 := by first | assumption | exact zPe_rf
    have hB4 : zKpt f42 (v0 16).toInt (x1 : Int32) f42 (v0 16).toInt := by first | exact zKpt_n (by omega) | exact zKpt_y e_f_78 rfl (by omega)
    have hB5 : zKps k41 f36 pl0 f18 (v13 7).toInt (v0 16).toInt f43 f43 := by first | exact zKps_n (by omega) | exact zKps_y hI19_0 (by omega) (by omega) hX91_0 e_f_94 rfl
    exact W.vret hx hb hr (fun t ht hW => ⟨⟨(fun i => ([(v0 16)] : List (Int32)).getD i 0), rfl, hpost, (fun _ => 0), (fun i => ([f38, f42, f43] : List (Nat → Int32)).getD i (fun _ => 0)), (fun _ => (fun _ => 0)), (fun _ => (fun _ => none)), pl0, hf42, hB0, hB1, hB2, hB3, hB4, hB5, by rw [ht]; exact hP9, va_K.moved hW.alike hK, hD9⟩, hS.F ht⟩) hS.2.2 dX1_keep_9
