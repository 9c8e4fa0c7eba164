set_option maxHeartbeats 8000000 in
set_option maxRecDepth 100000 in
theorem sX1_matchPlaces_0 (l : Launch) (dC : Nat → ClassId) (dI : Nat → Nat → Nat) (adK adV : Nat → Nat) (h0 : Nat) (h36 : Nat) (h48 : Nat) (h41 : Nat) (h21 : Nat) (h13 : Nat) (h17 : Nat) (h14 : Nat) (h15 : Nat) (h16 : Nat) (h35 : Nat) (h34 : Nat) (h19 : Nat) (h39 : Nat) (h31 : Nat) (h1 : Nat) (h6 : Nat) (h37 : Nat) (h40 : Nat) (h42 : Nat) (h43 : Nat) (h44 : Nat) (h45 : Nat) (h46 : Nat) (h47 : Nat) (h22 : Nat) (h32 : Nat) (h33 : Nat) (h18 : Nat) (h20 : Nat) (k36 : ClassId) (n48 : Nat) (k41 : ClassId) (k17 : ClassId) (k14 : ClassId) (k15 : ClassId) (k16 : ClassId) (k35 : ClassId) (k34 : ClassId) (k19 : ClassId) (k39 : ClassId) (k31 : ClassId) (pl0 : va_W) (sz : Nat) (v0 : Nat → Int32) (f36 : Nat → Option Nat) (f48 : Nat → Int32) (f41 : Nat → Int32) (v21 : Nat → Int32) (v13 : Nat → Int32) (f17 : Nat → Int32) (f14 : Nat → Int32) (f15 : Nat → Int32) (f16 : Nat → Int32) (f35 : Nat → Int32) (f34 : Nat → Int32) (f19 : Nat → Int32) (f39 : Nat → Int32) (f31 : Nat → Option Nat) (x1 : Int32) (x2 : Int32) (hv0 : zR rg_Finder v0) (hf48 : zA 0 4914 f48) (hn48 : n48 ≤ 4800) (hv21 : zR rg_Page v21) (hv13 : zR rg_Query v13) (hf35 : zA 0 831 f35) (hx1 : 0 ≤ x1.toInt ∧ x1.toInt ≤ 39) (hx2 : 0 ≤ x2.toInt ∧ x2.toInt ≤ 119) (hp0_ : zRd h22 f31 pl0) (hp1_ : zPs k41 f36 pl0) : Met l yX1_matchPlaces (zw yX1_matchPlaces cX1_matchPlaces 5 none) { frames := 4, cells := 0, slots := 0, locals := 96 } (zPc dC dI adK adV [.ref h0, .int x1, .int x2] sz ([(h0, .inr (1, mX1 h1 h6 h13 h21 h36 h37 h39 h40 h41 h42 h43 h44 h45 h46 h47 h48 v0)), (h36, .inl (k36, 40, .inr (.inr (.inr (.inr f36))))), (h48, zi k41 n48 f48), (h41, zi k41 40 f41), (h21, .inr (3, mX3 h6 h22 h13 h31 h32 h33 h34 h35 v21)), (h13, .inr (7, mX7 h14 h15 h16 h17 h18 h19 h20 v13)), (h17, zi k17 40 f17), (h14, zi k14 40 f14), (h15, zi k15 40 f15), (h16, zi k16 40 f16), (h35, zi k35 300 f35), (h34, zi k34 832 f34), (h19, zi k19 160 f19), (h39, zi k39 40 f39), (h31, .inl (k31, 400, .inr (.inr (.inr (.inr f31)))))] ++ pl0) [(k36, .object RX5), (k41, .int), (k41, .int), (k17, .int), (k14, .int), (k15, .int), (k16, .int), (k35, .int), (k34, .int), (k19, .int), (k39, .boolean), (k31, .object RX8)]) (va_Qv (fun (u : Nat → Int32) => True) (fun (u : Nat → Int32) (t : State) => ∃ (ww : Nat → Int64) (aa : Nat → Nat → Int32) (bb : Nat → Nat → Int64) (qq : Nat → Nat → Option Nat) (pl1 : va_W), zA 0 4914 (aa 0) ∧ (zRd h22 f31 pl1) ∧ (zPs k41 f36 pl1) ∧ (zOt pl0 pl1) ∧ va_P (dC, dI) vwCl ([(h0, .inr (1, mX1 h1 h6 h13 h21 h36 h37 h39 h40 h41 h42 h43 h44 h45 h46 h47 h48 v0)), (h36, .inl (k36, 40, .inr (.inr (.inr (.inr f36))))), (h48, zi k41 n48 (aa 0)), (h41, zi k41 40 (aa 1)), (h21, .inr (3, mX3 h6 h22 h13 h31 h32 h33 h34 h35 v21)), (h13, .inr (7, mX7 h14 h15 h16 h17 h18 h19 h20 v13)), (h17, zi k17 40 f17), (h14, zi k14 40 f14), (h15, zi k15 40 f15), (h16, zi k16 40 f16), (h35, zi k35 300 f35), (h34, zi k34 832 f34), (h19, zi k19 160 f19), (h39, zi k39 40 (aa 2)), (h31, .inl (k31, 400, .inr (.inr (.inr (.inr f31)))))] ++ pl1) t.heap ∧ va_K (dC, dI) vwCl [(k36, .object RX5), (k41, .int), (k41, .int), (k17, .int), (k14, .int), (k15, .int), (k16, .int), (k35, .int), (k34, .int), (k19, .int), (k39, .boolean), (k31, .object RX8)] t ∧ va_D (va_A ([(h0, .inr (1, mX1 h1 h6 h13 h21 h36 h37 h39 h40 h41 h42 h43 h44 h45 h46 h47 h48 v0)), (h36, .inl (k36, 40, .inr (.inr (.inr (.inr f36))))), (h48, zi k41 n48 f48), (h41, zi k41 40 f41), (h21, .inr (3, mX3 h6 h22 h13 h31 h32 h33 h34 h35 v21)), (h13, .inr (7, mX7 h14 h15 h16 h17 h18 h19 h20 v13)), (h17, zi k17 40 f17), (h14, zi k14 40 f14), (h15, zi k15 40 f15), (h16, zi k16 40 f16), (h35, zi k35 300 f35), (h34, zi k34 832 f34), (h19, zi k19 160 f19), (h39, zi k39 40 f39), (h31, .inl (k31, 400, .inr (.inr (.inr (.inr f31)))))] ++ pl0) sz) ([(h0, .inr (1, mX1 h1 h6 h13 h21 h36 h37 h39 h40 h41 h42 h43 h44 h45 h46 h47 h48 v0)), (h36, .inl (k36, 40, .inr (.inr (.inr (.inr f36))))), (h48, zi k41 n48 (aa 0)), (h41, zi k41 40 (aa 1)), (h21, .inr (3, mX3 h6 h22 h13 h31 h32 h33 h34 h35 v21)), (h13, .inr (7, mX7 h14 h15 h16 h17 h18 h19 h20 v13)), (h17, zi k17 40 f17), (h14, zi k14 40 f14), (h15, zi k15 40 f15), (h16, zi k16 40 f16), (h35, zi k35 300 f35), (h34, zi k34 832 f34), (h19, zi k19 160 f19), (h39, zi k39 40 (aa 2)), (h31, .inl (k31, 400, .inr (.inr (.inr (.inr f31)))))] ++ pl1)) (va_A ([(h0, .inr (1, mX1 h1 h6 h13 h21 h36 h37 h39 h40 h41 h42 h43 h44 h45 h46 h47 h48 v0)), (h36, .inl (k36, 40, .inr (.inr (.inr (.inr f36))))), (h48, zi k41 n48 f48), (h41, zi k41 40 f41), (h21, .inr (3, mX3 h6 h22 h13 h31 h32 h33 h34 h35 v21)), (h13, .inr (7, mX7 h14 h15 h16 h17 h18 h19 h20 v13)), (h17, zi k17 40 f17), (h14, zi k14 40 f14), (h15, zi k15 40 f15), (h16, zi k16 40 f16), (h35, zi k35 300 f35), (h34, zi k34 832 f34), (h19, zi k19 160 f19), (h39, zi k39 40 f39), (h31, .inl (k31, 400, .inr (.inr (.inr (.inr f31)))))] ++ pl0) sz)) 0 0 (va_A ([(h0, .inr (1, mX1 h1 h6 h13 h21 h36 h37 h39 h40 h41 h42 h43 h44 h45 h46 h47 h48 v0)), (h36, .inl (k36, 40, .inr (.inr (.inr (.inr f36))))), (h48, zi k41 n48 f48), (h41, zi k41 40 f41), (h21, .inr (3, mX3 h6 h22 h13 h31 h32 h33 h34 h35 v21)), (h13, .inr (7, mX7 h14 h15 h16 h17 h18 h19 h20 v13)), (h17, zi k17 40 f17), (h14, zi k14 40 f14), (h15, zi k15 40 f15), (h16, zi k16 40 f16), (h35, zi k35 300 f35), (h34, zi k34 832 f34), (h19, zi k19 160 f19), (h39, zi k39 40 f39), (h31, .inl (k31, 400, .inr (.inr (.inr (.inr f31)))))] ++ pl0) sz) := by
  refine Met.ofW (cc := cX1_matchPlaces) (maxL := 5) (ret := none) (by decide) rfl ?_
  intro p e s m args below meth c s₁ B hml hv
  obtain ⟨rfl, hsz, hP, hK, hD0, hE, hZ⟩ := hv
  have hx := B.exec
  have hb := B.bytes
  have hr := B.returns
  have hG : ∀ w ∈ zG, w.before _ s = true := fun w h => atoms_spec (ws := (zw yX1_matchPlaces cX1_matchPlaces 5 none)) B.pre w (List.mem_cons_of_mem _ h)
  have hown : s.vm.findClass RX1 = some m.cls := findClass_of_methodNamed B.named
  have hlocks := B.notSynchronized

  subst hsz
  have hD := hD0.self (sz := s.heap.size)
  generalize hAe : va_A ([(h0, .inr (1, mX1 h1 h6 h13 h21 h36 h37 h39 h40 h41 h42 h43 h44 h45 h46 h47 h48 v0)), (h36, .inl (k36, 40, .inr (.inr (.inr (.inr f36))))), (h48, zi k41 n48 f48), (h41, zi k41 40 f41), (h21, .inr (3, mX3 h6 h22 h13 h31 h32 h33 h34 h35 v21)), (h13, .inr (7, mX7 h14 h15 h16 h17 h18 h19 h20 v13)), (h17, zi k17 40 f17), (h14, zi k14 40 f14), (h15, zi k15 40 f15), (h16, zi k16 40 f16), (h35, zi k35 300 f35), (h34, zi k34 832 f34), (h19, zi k19 160 f19), (h39, zi k39 40 f39), (h31, .inl (k31, 400, .inr (.inr (.inr (.inr f31)))))] ++ pl0) s.heap.size = A at hD hZ ⊢
  have hA : ∀ q : Nat, s.heap.size ≤ q → A q := fun q h => by rw [← hAe]; exact Or.inr h
  have hS : va_S A s.heap s.heap [] := va_S.rf
  have hl := lv_entry ([.ref h0, .int x1, .int x2]) (n := 5) (Nat.le_of_ble_eq_true rfl)
  rw [lg_entry_eq]
  generalize (lg_sl ([.ref h0, .int x1, .int x2]) ++ List.replicate (5 - (lg_sl ([.ref h0, .int x1, .int x2])).length) Slot.unset).toArray = ls at hl ⊢
  have hl : lv_has ls 5 [(0, .ref h0), (1, .int x1), (2, .int x2)] := hl
  have b_ := zk_0
  have b_ := zk_1
  refine lv_aload_n hx hb dX1_matchPlaces_0 rfl (lv_at hl 0 rfl) ?_
  refine va_get (D := (dC, dI)) (ci := 1) (v := .ref h36) (C := RX1) (T := TX1) (N := 17) hx hb hG zuX1 hown hK hP 0 rfl rfl 4 (by decide) (hG _ zv508) (fun _ h9 => h9) rfl dX1_matchPlaces_1 ?_
  refine lv_iload_n hx hb dX1_matchPlaces_4 rfl (lv_at hl 1 rfl) ?_
  refine va_aldq hx hb hK hP 1 0 rfl rfl (zin_lit ⟨by omega, by omega⟩) dX1_matchPlaces_5 ?_
  refine lv_topq (fun o5 e_o5 => ?_)
  rcases o5 with _ | a5_
  · skip
    refine W.eq (g2 := F0 m 6 ls [.null]) rfl ?_
    refine lv_astore_nN (lv' := [(3, .null), (0, .ref h0), (1, .int x1), (2, .int x2)]) hx hb dX1_matchPlaces_6 rfl hl (by decide) rfl (fun ls hl => ?_)
    refine lv_iload_n hx hb dX1_matchPlaces_7 rfl (lv_at hl 2 rfl) ?_
    refine lv_bipush (v := 120) hx hb dX1_matchPlaces_8 (by decide) ?_
    refine lv_imul hx hb dX1_matchPlaces_10 ?_
    refine lv_topi (fun z10 e_z10 => ?_)
    have b_ := zmul rfl zk_120 e_z10 (by omega) (by omega)
    refine lv_iload_n hx hb dX1_matchPlaces_11 rfl (lv_at hl 3 rfl) ?_
    refine lv_iadd hx hb dX1_matchPlaces_12 ?_
    refine lv_topi (fun z12 e_z12 => ?_)
    have b_ := zadd rfl rfl e_z12 (by omega) (by omega)
    refine lv_istore (lv' := [(4, .int z12), (3, .null), (0, .ref h0), (1, .int x1), (2, .int x2)]) hx hb dX1_matchPlaces_13 hl (by decide) rfl (fun ls hl => ?_)
    refine lv_aload_nN hx hb dX1_matchPlaces_15 rfl (lv_at hl 1 rfl) ?_
    refine lv_ifnullN (tgt := 29) hx hb dX1_matchPlaces_16 (by decide) ?_
    refine W.widen (k := 0) (n := 0) (by decide) (by decide) ?_
    have hpost : True := trivial
    have hP9 : va_P (dC, dI) vwCl ([(h0, .inr (1, mX1 h1 h6 h13 h21 h36 h37 h39 h40 h41 h42 h43 h44 h45 h46 h47 h48 v0)), (h36, .inl (k36, 40, .inr (.inr (.inr (.inr f36))))), (h48, zi k41 n48 f48), (h41, zi k41 40 f41), (h21, .inr (3, mX3 h6 h22 h13 h31 h32 h33 h34 h35 v21)), (h13, .inr (7, mX7 h14 h15 h16 h17 h18 h19 h20 v13)), (h17, zi k17 40 f17), (h14, zi k14 40 f14), (h15, zi k15 40 f15), (h16, zi k16 40 f16), (h35, zi k35 300 f35), (h34, zi k34 832 f34), (h19, zi k19 160 f19), (h39, zi k39 40 f39), (h31, .inl (k31, 400, .inr (.inr (.inr (.inr f31)))))] ++ pl0) s.heap := hP
    have hD9 : va_D A ([(h0, .inr (1, mX1 h1 h6 h13 h21 h36 h37 h39 h40 h41 h42 h43 h44 h45 h46 h47 h48 v0)), (h36, .inl (k36, 40, .inr (.inr (.inr (.inr f36))))), (h48, zi k41 n48 f48), (h41, zi k41 40 f41), (h21, .inr (3, mX3 h6 h22 h13 h31 h32 h33 h34 h35 v21)), (h13, .inr (7, mX7 h14 h15 h16 h17 h18 h19 h20 v13)), (h17, zi k17 40 f17), (h14, zi k14 40 f14), (h15, zi k15 40 f15), (h16, zi k16 40 f16), (h35, zi k35 300 f35), (h34, zi k34 832 f34), (h19, zi k19 160 f19), (h39, zi k39 40 f39), (h31, .inl (k31, 400, .inr (.inr (.inr (.inr f31)))))] ++ pl0) := hD
    have hB0 : zRd h22 f31 pl0 := by assumption
    have hB1 : zPs k41 f36 pl0 := by assumption
    have hB2 : zOt pl0 pl0 := by first | assumption | exact zOt_rf
    exact W.vret hx hb hr (fun t ht hW => ⟨⟨(fun _ => 0), rfl, hpost, (fun _ => 0), (fun i => ([f48, f41, f39] : List (Nat → Int32)).getD i (fun _ => 0)), (fun _ => (fun _ => 0)), (fun _ => (fun _ => none)), pl0, hf48, hB0, hB1, hB2, by rw [ht]; exact hP9, va_K.moved hW.alike hK, hD9⟩, hS.F ht⟩) hS.2.2 dX1_matchPlaces_29
  · skip
    refine W.eq (g2 := F0 m 6 ls [.ref a5_]) rfl ?_
    have hnn_ : f36 (x1 : Int32).toNatClampNeg ≠ none := fun h => by rw [h] at e_o5; cases e_o5
    refine lv_astore_n (lv' := [(3, .ref a5_), (0, .ref h0), (1, .int x1), (2, .int x2)]) hx hb dX1_matchPlaces_6 rfl hl (by decide) rfl (fun ls hl => ?_)
    refine lv_iload_n hx hb dX1_matchPlaces_7 rfl (lv_at hl 2 rfl) ?_
    refine lv_bipush (v := 120) hx hb dX1_matchPlaces_8 (by decide) ?_
    refine lv_imul hx hb dX1_matchPlaces_10 ?_
    refine lv_topi (fun z10 e_z10 => ?_)
    have b_ := zmul rfl zk_120 e_z10 (by omega) (by omega)
    refine lv_iload_n hx hb dX1_matchPlaces_11 rfl (lv_at hl 3 rfl) ?_
    refine lv_iadd hx hb dX1_matchPlaces_12 ?_
    refine lv_topi (fun z12 e_z12 => ?_)
    have b_ := zadd rfl rfl e_z12 (by omega) (by omega)
    refine lv_istore (lv' := [(4, .int z12), (3, .ref a5_), (0, .ref h0), (1, .int x1), (2, .int x2)]) hx hb dX1_matchPlaces_13 hl (by decide) rfl (fun ls hl => ?_)
    refine lv_aload_n hx hb dX1_matchPlaces_15 rfl (lv_at hl 1 rfl) ?_
    refine lv_ifnull hx hb dX1_matchPlaces_16 ?_
    refine lv_iload hx hb dX1_matchPlaces_19 (lv_at hl 0 rfl) ?_
    refine lv_aload_n hx hb dX1_matchPlaces_21 rfl (lv_at hl 2 rfl) ?_
    refine va_get (D := (dC, dI)) (ci := 1) (v := .ref h48) (C := RX1) (T := TX1) (N := 17) hx hb hG zuX1 hown hK hP 0 rfl rfl 15 (by decide) (hG _ zv519) (fun _ h9 => h9) rfl dX1_matchPlaces_22 ?_
    refine va_alen (v := (Int32.ofNat n48)) hx hb hK hP 2 1 rfl rfl rfl dX1_matchPlaces_25 ?_
    have b_ := zofn hn48
    refine lv_icmp_lt (tgt := 30) hx hb dX1_matchPlaces_26 (by decide) (fun c_ => ?_) (fun c_ => ?_)
    · skip
      have b_ := zT_lt rfl rfl c_
      refine lv_aload_n hx hb dX1_matchPlaces_30 rfl (lv_at hl 2 rfl) ?_
      refine va_get (D := (dC, dI)) (ci := 1) (v := .ref h21) (C := RX1) (T := TX1) (N := 17) hx hb hG zuX1 hown hK hP 0 rfl rfl 3 (by decide) (hG _ zv507) (fun _ h9 => h9) rfl dX1_matchPlaces_31 ?_
      refine lv_iload_n hx hb dX1_matchPlaces_34 rfl (lv_at hl 3 rfl) ?_
      refine lv_aload_n hx hb dX1_matchPlaces_35 rfl (lv_at hl 1 rfl) ?_
      obtain ⟨b5_, f5_, p5, e_pl5, hzp5⟩ := zPs_out (show zPs k41 f36 pl0 from by assumption) (zltc (by omega) (by omega)) e_o5.symm
      have hP : va_P (dC, dI) vwCl ([(h0, .inr (1, mX1 h1 h6 h13 h21 h36 h37 h39 h40 h41 h42 h43 h44 h45 h46 h47 h48 v0)), (h36, .inl (k36, 40, .inr (.inr (.inr (.inr f36))))), (h48, zi k41 n48 f48), (h41, zi k41 40 f41), (h21, .inr (3, mX3 h6 h22 h13 h31 h32 h33 h34 h35 v21)), (h13, .inr (7, mX7 h14 h15 h16 h17 h18 h19 h20 v13)), (h17, zi k17 40 f17), (h14, zi k14 40 f14), (h15, zi k15 40 f15), (h16, zi k16 40 f16), (h35, zi k35 300 f35), (h34, zi k34 832 f34), (h19, zi k19 160 f19), (h39, zi k39 40 f39), (h31, .inl (k31, 400, .inr (.inr (.inr (.inr f31))))), (a5_, .inr (5, mX5 b5_)), (b5_, zi k41 26 f5_)] ++ p5) s.heap := zfocPm e_pl5 hP
      have hD : va_D A ([(h0, .inr (1, mX1 h1 h6 h13 h21 h36 h37 h39 h40 h41 h42 h43 h44 h45 h46 h47 h48 v0)), (h36, .inl (k36, 40, .inr (.inr (.inr (.inr f36))))), (h48, zi k41 n48 f48), (h41, zi k41 40 f41), (h21, .inr (3, mX3 h6 h22 h13 h31 h32 h33 h34 h35 v21)), (h13, .inr (7, mX7 h14 h15 h16 h17 h18 h19 h20 v13)), (h17, zi k17 40 f17), (h14, zi k14 40 f14), (h15, zi k15 40 f15), (h16, zi k16 40 f16), (h35, zi k35 300 f35), (h34, zi k34 832 f34), (h19, zi k19 160 f19), (h39, zi k39 40 f39), (h31, .inl (k31, 400, .inr (.inr (.inr (.inr f31))))), (a5_, .inr (5, mX5 b5_)), (b5_, zi k41 26 f5_)] ++ p5) := zfocDm e_pl5 hD
      have hPc := hP.sub (ws' := [(a5_, .inr (5, mX5 b5_)), (b5_, zi k41 26 f5_), (h21, .inr (3, mX3 h6 h22 h13 h31 h32 h33 h34 h35 v21)), (h13, .inr (7, mX7 h14 h15 h16 h17 h18 h19 h20 v13)), (h17, zi k17 40 f17), (h14, zi k14 40 f14), (h15, zi k15 40 f15), (h16, zi k16 40 f16), (h35, zi k35 300 f35), (h34, zi k34 832 f34), (h19, zi k19 160 f19)]) [15, 16, 4, 5, 6, 7, 8, 9, 10, 11, 12] rfl
      have hDc := hD.sub (ws' := [(a5_, .inr (5, mX5 b5_)), (b5_, zi k41 26 f5_), (h21, .inr (3, mX3 h6 h22 h13 h31 h32 h33 h34 h35 v21)), (h13, .inr (7, mX7 h14 h15 h16 h17 h18 h19 h20 v13)), (h17, zi k17 40 f17), (h14, zi k14 40 f14), (h15, zi k15 40 f15), (h16, zi k16 40 f16), (h35, zi k35 300 f35), (h34, zi k34 832 f34), (h19, zi k19 160 f19)]) [15, 16, 4, 5, 6, 7, 8, 9, 10, 11, 12] (by decide) rfl
      have hKc := hK.sub (tys' := [(k41, .int), (k17, .int), (k14, .int), (k15, .int), (k16, .int), (k35, .int), (k34, .int), (k19, .int)]) [2, 3, 4, 5, 6, 7, 8, 9] rfl
      have hFc := va_free (wc := [(a5_, .inr (5, mX5 b5_)), (b5_, zi k41 26 f5_), (h21, .inr (3, mX3 h6 h22 h13 h31 h32 h33 h34 h35 v21)), (h13, .inr (7, mX7 h14 h15 h16 h17 h18 h19 h20 v13)), (h17, zi k17 40 f17), (h14, zi k14 40 f14), (h15, zi k15 40 f15), (h16, zi k16 40 f16), (h35, zi k35 300 f35), (h34, zi k34 832 f34), (h19, zi k19 160 f19)]) hD hS hA [15, 16, 4, 5, 6, 7, 8, 9, 10, 11, 12] rfl
      refine va_callv (va_runV (As := [.int x1, .ref a5_]) (rest := []) ⟨hx, hb, hml, hown, hG⟩ (sX3_gather_0 l dC dI adK adV a5_ b5_ h21 h13 h17 h14 h15 h16 h35 h34 h19 h6 h22 h31 h32 h33 h18 h20 k41 k17 k14 k15 k16 k35 k34 k19 s.heap.size f5_ v21 v13 f17 f14 f15 f16 f35 f34 f19 x1 hv21 hv13 hf35) (cwV 2 hG (zgV zv1247 zv1248 zv1249 zv140 zv1250) rfl rfl rfl (by decide +kernel) ⟨Nat.le_of_ble_eq_true rfl, Nat.le_of_ble_eq_true rfl⟩) ⟨zPc_blind, va_recv hKc hPc (ci := 3) (q0 := 2) rfl rfl, zPc_pre hPc hKc hDc hE hS hFc hZ⟩ rfl rfl hl.1 rfl (lv_room (Nat.le_of_ble_eq_true rfl)) dX1_matchPlaces_36 ⟨Nat.le_of_ble_eq_true rfl, Nat.le_of_ble_eq_true rfl⟩) hS (fun q _ h => hFc q h) hFc (fun u36_ t H1 locs ht hvm hw hB hz1 hk1 hS => ?_)
      obtain ⟨w36_, a36_, b36_, hP1, hK1, hD1⟩ := hB
      rw [ht] at hP1
      obtain ⟨hP, hD⟩ := va_joinQ (wr := [(h0, .inr (1, mX1 h1 h6 h13 h21 h36 h37 h39 h40 h41 h42 h43 h44 h45 h46 h47 h48 v0)), (h36, .inl (k36, 40, .inr (.inr (.inr (.inr f36))))), (h48, zi k41 n48 f48), (h41, zi k41 40 f41), (h39, zi k39 40 f39), (h31, .inl (k31, 400, .inr (.inr (.inr (.inr f31)))))]) (w1 := [(a5_, .inr (5, mX5 b5_)), (b5_, zi k41 26 (a36_ 0)), (h21, .inr (3, mX3 h6 h22 h13 h31 h32 h33 h34 h35 v21)), (h13, .inr (7, mX7 h14 h15 h16 h17 h18 h19 h20 v13)), (h17, zi k17 40 f17), (h14, zi k14 40 f14), (h15, zi k15 40 f15), (h16, zi k16 40 f16), (h35, zi k35 300 f35), (h34, zi k34 832 f34), (h19, zi k19 160 f19)]) hP hD [15, 16, 4, 5, 6, 7, 8, 9, 10, 11, 12] [0, 1, 2, 3, 13, 14] rfl rfl (by decide) (by decide) hk1 hFc hP1 hD1
      have hP : va_P (dC, dI) vwCl ([(h0, .inr (1, mX1 h1 h6 h13 h21 h36 h37 h39 h40 h41 h42 h43 h44 h45 h46 h47 h48 v0)), (h36, .inl (k36, 40, .inr (.inr (.inr (.inr f36))))), (h48, zi k41 n48 f48), (h41, zi k41 40 f41), (h21, .inr (3, mX3 h6 h22 h13 h31 h32 h33 h34 h35 v21)), (h13, .inr (7, mX7 h14 h15 h16 h17 h18 h19 h20 v13)), (h17, zi k17 40 f17), (h14, zi k14 40 f14), (h15, zi k15 40 f15), (h16, zi k16 40 f16), (h35, zi k35 300 f35), (h34, zi k34 832 f34), (h19, zi k19 160 f19), (h39, zi k39 40 f39), (h31, .inl (k31, 400, .inr (.inr (.inr (.inr f31))))), (a5_, .inr (5, mX5 b5_)), (b5_, zi k41 26 (a36_ 0))] ++ p5) H1 := hP.part [0, 1, 2, 3, 8, 9, 10, 11, 12, 13, 14, 15, 16, 4, 5, 6, 7] rfl
      have hD : va_D A ([(h0, .inr (1, mX1 h1 h6 h13 h21 h36 h37 h39 h40 h41 h42 h43 h44 h45 h46 h47 h48 v0)), (h36, .inl (k36, 40, .inr (.inr (.inr (.inr f36))))), (h48, zi k41 n48 f48), (h41, zi k41 40 f41), (h21, .inr (3, mX3 h6 h22 h13 h31 h32 h33 h34 h35 v21)), (h13, .inr (7, mX7 h14 h15 h16 h17 h18 h19 h20 v13)), (h17, zi k17 40 f17), (h14, zi k14 40 f14), (h15, zi k15 40 f15), (h16, zi k16 40 f16), (h35, zi k35 300 f35), (h34, zi k34 832 f34), (h19, zi k19 160 f19), (h39, zi k39 40 f39), (h31, .inl (k31, 400, .inr (.inr (.inr (.inr f31))))), (a5_, .inr (5, mX5 b5_)), (b5_, zi k41 26 (a36_ 0))] ++ p5) := hD.part [0, 1, 2, 3, 8, 9, 10, 11, 12, 13, 14, 15, 16, 4, 5, 6, 7] (by decide) rfl
      generalize H1 = H at hP hS ⊢
      clear hz1
      refine lv_aload_n hx hb dX1_matchPlaces_39 rfl (lv_at hl 2 rfl) ?_
      refine va_get (D := (dC, dI)) (ci := 1) (v := .ref h48) (C := RX1) (T := TX1) (N := 17) hx hb hG zuX1 hown hK hP 0 rfl rfl 15 (by decide) (hG _ zv519) (fun _ h9 => h9) rfl dX1_matchPlaces_40 ?_
      refine lv_iload hx hb dX1_matchPlaces_43 (lv_at hl 0 rfl) ?_
      refine lv_aload_n hx hb dX1_matchPlaces_45 rfl (lv_at hl 1 rfl) ?_
      have hPc := hP.sub (ws' := [(a5_, .inr (5, mX5 b5_)), (b5_, zi k41 26 (a36_ 0))]) [15, 16] rfl
      have hDc := hD.sub (ws' := [(a5_, .inr (5, mX5 b5_)), (b5_, zi k41 26 (a36_ 0))]) [15, 16] (by decide) rfl
      have hKc := hK.sub (tys' := [(k41, .int)]) [2] rfl
      have hFc := va_free (wc := [(a5_, .inr (5, mX5 b5_)), (b5_, zi k41 26 (a36_ 0))]) hD hS hA [15, 16] rfl
      refine va_calli (va_runV (As := []) (rest := [.int z12, .ref h48]) ⟨hx, hb, hml, hown, hG⟩ (sX5_worth_0 l dC dI adK adV a5_ b5_ k41 H.size (a36_ 0)) (cwV 0 hG (zgV zv1288 zv1289 zv1290 zv139 zv1291) rfl rfl rfl (by decide +kernel) ⟨Nat.le_of_ble_eq_true rfl, Nat.le_of_ble_eq_true rfl⟩) ⟨zPc_blind, va_recv hKc hPc (ci := 5) (q0 := 0) rfl rfl, zPc_pre hPc hKc hDc hE hS hFc hZ⟩ rfl rfl hl.1 rfl (lv_room (Nat.le_of_ble_eq_true rfl)) dX1_matchPlaces_46 ⟨Nat.le_of_ble_eq_true rfl, Nat.le_of_ble_eq_true rfl⟩) hS (fun q _ h => hFc q h) hFc (fun r46_ u46_ t H1 locs ht hvm hw hB hz1 hk1 hS => ?_)
      replace hw : (0 ≤ r46_.toInt ∧ r46_.toInt ≤ 4914) := hw
      have b_ := hw
      obtain ⟨w46_, a46_, b46_, hP1, hK1, hD1⟩ := hB
      rw [ht] at hP1
      obtain ⟨hP, hD⟩ := va_joinQ (wr := [(h0, .inr (1, mX1 h1 h6 h13 h21 h36 h37 h39 h40 h41 h42 h43 h44 h45 h46 h47 h48 v0)), (h36, .inl (k36, 40, .inr (.inr (.inr (.inr f36))))), (h48, zi k41 n48 f48), (h41, zi k41 40 f41), (h21, .inr (3, mX3 h6 h22 h13 h31 h32 h33 h34 h35 v21)), (h13, .inr (7, mX7 h14 h15 h16 h17 h18 h19 h20 v13)), (h17, zi k17 40 f17), (h14, zi k14 40 f14), (h15, zi k15 40 f15), (h16, zi k16 40 f16), (h35, zi k35 300 f35), (h34, zi k34 832 f34), (h19, zi k19 160 f19), (h39, zi k39 40 f39), (h31, .inl (k31, 400, .inr (.inr (.inr (.inr f31)))))]) (w1 := [(a5_, .inr (5, mX5 b5_)), (b5_, zi k41 26 (a36_ 0))]) hP hD [15, 16] [0, 1, 2, 3, 4, 5, 6, 7, 8, 9, 10, 11, 12, 13, 14] rfl rfl (by decide) (by decide) hk1 hFc hP1 hD1
      have hP : va_P (dC, dI) vwCl ([(h0, .inr (1, mX1 h1 h6 h13 h21 h36 h37 h39 h40 h41 h42 h43 h44 h45 h46 h47 h48 v0)), (h36, .inl (k36, 40, .inr (.inr (.inr (.inr f36))))), (h48, zi k41 n48 f48), (h41, zi k41 40 f41), (h21, .inr (3, mX3 h6 h22 h13 h31 h32 h33 h34 h35 v21)), (h13, .inr (7, mX7 h14 h15 h16 h17 h18 h19 h20 v13)), (h17, zi k17 40 f17), (h14, zi k14 40 f14), (h15, zi k15 40 f15), (h16, zi k16 40 f16), (h35, zi k35 300 f35), (h34, zi k34 832 f34), (h19, zi k19 160 f19), (h39, zi k39 40 f39), (h31, .inl (k31, 400, .inr (.inr (.inr (.inr f31))))), (a5_, .inr (5, mX5 b5_)), (b5_, zi k41 26 (a36_ 0))] ++ p5) H1 := hP.part [0, 1, 2, 3, 4, 5, 6, 7, 8, 9, 10, 11, 12, 13, 14, 15, 16] rfl
      have hD : va_D A ([(h0, .inr (1, mX1 h1 h6 h13 h21 h36 h37 h39 h40 h41 h42 h43 h44 h45 h46 h47 h48 v0)), (h36, .inl (k36, 40, .inr (.inr (.inr (.inr f36))))), (h48, zi k41 n48 f48), (h41, zi k41 40 f41), (h21, .inr (3, mX3 h6 h22 h13 h31 h32 h33 h34 h35 v21)), (h13, .inr (7, mX7 h14 h15 h16 h17 h18 h19 h20 v13)), (h17, zi k17 40 f17), (h14, zi k14 40 f14), (h15, zi k15 40 f15), (h16, zi k16 40 f16), (h35, zi k35 300 f35), (h34, zi k34 832 f34), (h19, zi k19 160 f19), (h39, zi k39 40 f39), (h31, .inl (k31, 400, .inr (.inr (.inr (.inr f31))))), (a5_, .inr (5, mX5 b5_)), (b5_, zi k41 26 (a36_ 0))] ++ p5) := hD.part [0, 1, 2, 3, 4, 5, 6, 7, 8, 9, 10, 11, 12, 13, 14, 15, 16] (by decide) rfl
      generalize H1 = H at hP hS ⊢
      clear hz1
      refine va_iast hx hb hK hP hD hS 2 1 rfl rfl (zin_lit ⟨by omega, by omega⟩) dX1_matchPlaces_49 (fun H locs hP hD hS => ?_)
      obtain ⟨f_49, e_f_49⟩ : ∃ z : Nat → Int32, z = upd f48 (z12 : Int32).toNatClampNeg r46_ := ⟨_, rfl⟩
      have hP : va_P (dC, dI) vwCl ([(h0, .inr (1, mX1 h1 h6 h13 h21 h36 h37 h39 h40 h41 h42 h43 h44 h45 h46 h47 h48 v0)), (h36, .inl (k36, 40, .inr (.inr (.inr (.inr f36))))), (h48, zi k41 n48 f_49), (h41, zi k41 40 f41), (h21, .inr (3, mX3 h6 h22 h13 h31 h32 h33 h34 h35 v21)), (h13, .inr (7, mX7 h14 h15 h16 h17 h18 h19 h20 v13)), (h17, zi k17 40 f17), (h14, zi k14 40 f14), (h15, zi k15 40 f15), (h16, zi k16 40 f16), (h35, zi k35 300 f35), (h34, zi k34 832 f34), (h19, zi k19 160 f19), (h39, zi k39 40 f39), (h31, .inl (k31, 400, .inr (.inr (.inr (.inr f31))))), (a5_, .inr (5, mX5 b5_)), (b5_, zi k41 26 (a36_ 0))] ++ p5) H := by rw [e_f_49]; exact hP
      have hD : va_D A ([(h0, .inr (1, mX1 h1 h6 h13 h21 h36 h37 h39 h40 h41 h42 h43 h44 h45 h46 h47 h48 v0)), (h36, .inl (k36, 40, .inr (.inr (.inr (.inr f36))))), (h48, zi k41 n48 f_49), (h41, zi k41 40 f41), (h21, .inr (3, mX3 h6 h22 h13 h31 h32 h33 h34 h35 v21)), (h13, .inr (7, mX7 h14 h15 h16 h17 h18 h19 h20 v13)), (h17, zi k17 40 f17), (h14, zi k14 40 f14), (h15, zi k15 40 f15), (h16, zi k16 40 f16), (h35, zi k35 300 f35), (h34, zi k34 832 f34), (h19, zi k19 160 f19), (h39, zi k39 40 f39), (h31, .inl (k31, 400, .inr (.inr (.inr (.inr f31))))), (a5_, .inr (5, mX5 b5_)), (b5_, zi k41 26 (a36_ 0))] ++ p5) := by rw [e_f_49]; exact hD
      have hf_49 : zA 0 4914 f_49 := by rw [e_f_49]; exact zA_upd hf48 (show 0 ≤ (r46_ : Int32).toInt from by omega) (show (r46_ : Int32).toInt ≤ 4914 from by omega)
      refine lv_aload_n hx hb dX1_matchPlaces_50 rfl (lv_at hl 2 rfl) ?_
      refine va_get (D := (dC, dI)) (ci := 1) (v := .ref h39) (C := RX1) (T := TX1) (N := 17) hx hb hG zuX1 hown hK hP 0 rfl rfl 6 (by decide) (hG _ zv510) (fun _ h9 => h9) rfl dX1_matchPlaces_51 ?_
      refine lv_iload_n hx hb dX1_matchPlaces_54 rfl (lv_at hl 3 rfl) ?_
      refine lv_aload_n hx hb dX1_matchPlaces_55 rfl (lv_at hl 2 rfl) ?_
      refine va_get (D := (dC, dI)) (ci := 1) (v := .ref h48) (C := RX1) (T := TX1) (N := 17) hx hb hG zuX1 hown hK hP 0 rfl rfl 15 (by decide) (hG _ zv519) (fun _ h9 => h9) rfl dX1_matchPlaces_56 ?_
      refine lv_iload hx hb dX1_matchPlaces_59 (lv_at hl 0 rfl) ?_
      refine va_iald hx hb hK hP 2 1 rfl rfl (zin_lit ⟨by omega, by omega⟩) dX1_matchPlaces_61 ?_
      refine lv_topi (fun z61 e_z61 => ?_)
      have b_ : 0 ≤ z61.toInt ∧ z61.toInt ≤ 4914 := by rw [e_z61]; exact hf_49 _
      refine zcutW (fun H locs ls u70_ w70_ a70_ b70_ => ∃ (q70_ : Nat → Nat → Option Nat) (pl70 : va_W), va_P (dC, dI) vwCl ([(h0, .inr (1, mX1 h1 h6 h13 h21 h36 h37 h39 h40 h41 h42 h43 h44 h45 h46 h47 h48 v0)), (h36, .inl (k36, 40, .inr (.inr (.inr (.inr f36))))), (h48, zi k41 n48 f_49), (h41, zi k41 40 f41), (h21, .inr (3, mX3 h6 h22 h13 h31 h32 h33 h34 h35 v21)), (h13, .inr (7, mX7 h14 h15 h16 h17 h18 h19 h20 v13)), (h17, zi k17 40 f17), (h14, zi k14 40 f14), (h15, zi k15 40 f15), (h16, zi k16 40 f16), (h35, zi k35 300 f35), (h34, zi k34 832 f34), (h19, zi k19 160 f19), (h39, zi k39 40 f39), (h31, .inl (k31, 400, .inr (.inr (.inr (.inr f31)))))] ++ pl70) H ∧ va_D A ([(h0, .inr (1, mX1 h1 h6 h13 h21 h36 h37 h39 h40 h41 h42 h43 h44 h45 h46 h47 h48 v0)), (h36, .inl (k36, 40, .inr (.inr (.inr (.inr f36))))), (h48, zi k41 n48 f_49), (h41, zi k41 40 f41), (h21, .inr (3, mX3 h6 h22 h13 h31 h32 h33 h34 h35 v21)), (h13, .inr (7, mX7 h14 h15 h16 h17 h18 h19 h20 v13)), (h17, zi k17 40 f17), (h14, zi k14 40 f14), (h15, zi k15 40 f15), (h16, zi k16 40 f16), (h35, zi k35 300 f35), (h34, zi k34 832 f34), (h19, zi k19 160 f19), (h39, zi k39 40 f39), (h31, .inl (k31, 400, .inr (.inr (.inr (.inr f31)))))] ++ pl70) ∧ va_S A s.heap H locs ∧ lv_has ls 5 [(0, .ref h0), (1, .int x1), (2, .int x2), (3, .ref a5_), (4, .int z12)] ∧ (0 ≤ (u70_ 0).toInt ∧ (u70_ 0).toInt ≤ 1) ∧ (0 ≤ z61.toInt ∧ z61.toInt ≤ 4914) ∧ (zRd h22 f31 pl70) ∧ (zPs k41 f36 pl70) ∧ (zOt pl0 pl70)) (fun ls u70_ w70_ => F0 m 70 ls [.int (u70_ 0), .int x1, .ref h39]) 0 0 ?_ (fun hJ70 => ?_)
      · skip
        intro H locs ls u70_ w70_ a70_ b70_ hc
        obtain ⟨q70_, pl70, hP, hD, hS, hl, b_, b_, hI70_0, hI70_1, hI70_2⟩ := hc
        refine va_zast hx hb hK hP hD hS 13 10 rfl rfl (zin_lit ⟨by omega, by omega⟩) dX1_matchPlaces_70 (fun H locs hP hD hS => ?_)
        obtain ⟨f_70, e_f_70⟩ : ∃ z : Nat → Int32, z = upd f39 (x1 : Int32).toNatClampNeg (vp_nar .boolean (u70_ 0)) := ⟨_, rfl⟩
        have hP : va_P (dC, dI) vwCl ([(h0, .inr (1, mX1 h1 h6 h13 h21 h36 h37 h39 h40 h41 h42 h43 h44 h45 h46 h47 h48 v0)), (h36, .inl (k36, 40, .inr (.inr (.inr (.inr f36))))), (h48, zi k41 n48 f_49), (h41, zi k41 40 f41), (h21, .inr (3, mX3 h6 h22 h13 h31 h32 h33 h34 h35 v21)), (h13, .inr (7, mX7 h14 h15 h16 h17 h18 h19 h20 v13)), (h17, zi k17 40 f17), (h14, zi k14 40 f14), (h15, zi k15 40 f15), (h16, zi k16 40 f16), (h35, zi k35 300 f35), (h34, zi k34 832 f34), (h19, zi k19 160 f19), (h39, zi k39 40 f_70), (h31, .inl (k31, 400, .inr (.inr (.inr (.inr f31)))))] ++ pl70) H := by rw [e_f_70]; exact hP
        have hD : va_D A ([(h0, .inr (1, mX1 h1 h6 h13 h21 h36 h37 h39 h40 h41 h42 h43 h44 h45 h46 h47 h48 v0)), (h36, .inl (k36, 40, .inr (.inr (.inr (.inr f36))))), (h48, zi k41 n48 f_49), (h41, zi k41 40 f41), (h21, .inr (3, mX3 h6 h22 h13 h31 h32 h33 h34 h35 v21)), (h13, .inr (7, mX7 h14 h15 h16 h17 h18 h19 h20 v13)), (h17, zi k17 40 f17), (h14, zi k14 40 f14), (h15, zi k15 40 f15), (h16, zi k16 40 f16), (h35, zi k35 300 f35), (h34, zi k34 832 f34), (h19, zi k19 160 f19), (h39, zi k39 40 f_70), (h31, .inl (k31, 400, .inr (.inr (.inr (.inr f31)))))] ++ pl70) := by rw [e_f_70]; exact hD
        refine lv_aload_n hx hb dX1_matchPlaces_71 rfl (lv_at hl 0 rfl) ?_
        refine va_get (D := (dC, dI)) (ci := 1) (v := .ref h41) (C := RX1) (T := TX1) (N := 17) hx hb hG zuX1 hown hK hP 0 rfl rfl 8 (by decide) (hG _ zv512) (fun _ h9 => h9) rfl dX1_matchPlaces_72 ?_
        refine lv_iload_n hx hb dX1_matchPlaces_75 rfl (lv_at hl 1 rfl) ?_
        refine lv_dup2_11 hx hb dX1_matchPlaces_76 rfl rfl ?_
        refine va_iald hx hb hK hP 3 2 rfl rfl (zin_lit ⟨by omega, by omega⟩) dX1_matchPlaces_77 ?_
        refine lv_topi (fun z77 e_z77 => ?_)
        refine lv_aload_n hx hb dX1_matchPlaces_78 rfl (lv_at hl 0 rfl) ?_
        refine va_get (D := (dC, dI)) (ci := 1) (v := .ref h39) (C := RX1) (T := TX1) (N := 17) hx hb hG zuX1 hown hK hP 0 rfl rfl 6 (by decide) (hG _ zv510) (fun _ h9 => h9) rfl dX1_matchPlaces_79 ?_
        refine lv_iload_n hx hb dX1_matchPlaces_82 rfl (lv_at hl 1 rfl) ?_
        refine va_zald hx hb hK hP 13 10 rfl rfl (zin_lit ⟨by omega, by omega⟩) dX1_matchPlaces_83 ?_
        refine lv_topi (fun z83 e_z83 => ?_)
        refine zcutW (fun H locs ls u92_ w92_ a92_ b92_ => ∃ (q92_ : Nat → Nat → Option Nat) (pl92 : va_W), va_P (dC, dI) vwCl ([(h0, .inr (1, mX1 h1 h6 h13 h21 h36 h37 h39 h40 h41 h42 h43 h44 h45 h46 h47 h48 v0)), (h36, .inl (k36, 40, .inr (.inr (.inr (.inr f36))))), (h48, zi k41 n48 f_49), (h41, zi k41 40 f41), (h21, .inr (3, mX3 h6 h22 h13 h31 h32 h33 h34 h35 v21)), (h13, .inr (7, mX7 h14 h15 h16 h17 h18 h19 h20 v13)), (h17, zi k17 40 f17), (h14, zi k14 40 f14), (h15, zi k15 40 f15), (h16, zi k16 40 f16), (h35, zi k35 300 f35), (h34, zi k34 832 f34), (h19, zi k19 160 f19), (h39, zi k39 40 f_70), (h31, .inl (k31, 400, .inr (.inr (.inr (.inr f31)))))] ++ pl92) H ∧ va_D A ([(h0, .inr (1, mX1 h1 h6 h13 h21 h36 h37 h39 h40 h41 h42 h43 h44 h45 h46 h47 h48 v0)), (h36, .inl (k36, 40, .inr (.inr (.inr (.inr f36))))), (h48, zi k41 n48 f_49), (h41, zi k41 40 f41), (h21, .inr (3, mX3 h6 h22 h13 h31 h32 h33 h34 h35 v21)), (h13, .inr (7, mX7 h14 h15 h16 h17 h18 h19 h20 v13)), (h17, zi k17 40 f17), (h14, zi k14 40 f14), (h15, zi k15 40 f15), (h16, zi k16 40 f16), (h35, zi k35 300 f35), (h34, zi k34 832 f34), (h19, zi k19 160 f19), (h39, zi k39 40 f_70), (h31, .inl (k31, 400, .inr (.inr (.inr (.inr f31)))))] ++ pl92) ∧ va_S A s.heap H locs ∧ lv_has ls 5 [(0, .ref h0), (1, .int x1), (2, .int x2), (3, .ref a5_), (4, .int z12)] ∧ (0 ≤ (u92_ 0).toInt ∧ (u92_ 0).toInt ≤ 1) ∧ (zRd h22 f31 pl92) ∧ (zPs k41 f36 pl92) ∧ (zOt pl0 pl92)) (fun ls u92_ w92_ => F0 m 92 ls [.int (u92_ 0), .int z77, .int x1, .ref h41]) 0 0 ?_ (fun hJ92 => ?_)
        · skip
          intro H locs ls u92_ w92_ a92_ b92_ hc
          obtain ⟨q92_, pl92, hP, hD, hS, hl, b_, hI92_0, hI92_1, hI92_2⟩ := hc
          have b_ : -2147483648 ≤ z77.toInt ∧ z77.toInt ≤ 2147483647 := ⟨zlo _, zhi _⟩
          refine lv_iadd hx hb dX1_matchPlaces_92 ?_
          refine lv_topi (fun z92 e_z92 => ?_)
          refine va_iast hx hb hK hP hD hS 3 2 rfl rfl (zin_lit ⟨by omega, by omega⟩) dX1_matchPlaces_93 (fun H locs hP hD hS => ?_)
          obtain ⟨f_93, e_f_93⟩ : ∃ z : Nat → Int32, z = upd f41 (x1 : Int32).toNatClampNeg z92 := ⟨_, rfl⟩
          have hP : va_P (dC, dI) vwCl ([(h0, .inr (1, mX1 h1 h6 h13 h21 h36 h37 h39 h40 h41 h42 h43 h44 h45 h46 h47 h48 v0)), (h36, .inl (k36, 40, .inr (.inr (.inr (.inr f36))))), (h48, zi k41 n48 f_49), (h41, zi k41 40 f_93), (h21, .inr (3, mX3 h6 h22 h13 h31 h32 h33 h34 h35 v21)), (h13, .inr (7, mX7 h14 h15 h16 h17 h18 h19 h20 v13)), (h17, zi k17 40 f17), (h14, zi k14 40 f14), (h15, zi k15 40 f15), (h16, zi k16 40 f16), (h35, zi k35 300 f35), (h34, zi k34 832 f34), (h19, zi k19 160 f19), (h39, zi k39 40 f_70), (h31, .inl (k31, 400, .inr (.inr (.inr (.inr f31)))))] ++ pl92) H := by rw [e_f_93]; exact hP
          have hD : va_D A ([(h0, .inr (1, mX1 h1 h6 h13 h21 h36 h37 h39 h40 h41 h42 h43 h44 h45 h46 h47 h48 v0)), (h36, .inl (k36, 40, .inr (.inr (.inr (.inr f36))))), (h48, zi k41 n48 f_49), (h41, zi k41 40 f_93), (h21, .inr (3, mX3 h6 h22 h13 h31 h32 h33 h34 h35 v21)), (h13, .inr (7, mX7 h14 h15 h16 h17 h18 h19 h20 v13)), (h17, zi k17 40 f17), (h14, zi k14 40 f14), (h15, zi k15 40 f15), (h16, zi k16 40 f16), (h35, zi k35 300 f35), (h34, zi k34 832 f34), (h19, zi k19 160 f19), (h39, zi k39 40 f_70), (h31, .inl (k31, 400, .inr (.inr (.inr (.inr f31)))))] ++ pl92) := by rw [e_f_93]; exact hD
          refine W.widen (k := 0) (n := 0) (by decide) (by decide) ?_
          have hpost : True := trivial
          have hP9 : va_P (dC, dI) vwCl ([(h0, .inr (1, mX1 h1 h6 h13 h21 h36 h37 h39 h40 h41 h42 h43 h44 h45 h46 h47 h48 v0)), (h36, .inl (k36, 40, .inr (.inr (.inr (.inr f36))))), (h48, zi k41 n48 f_49), (h41, zi k41 40 f_93), (h21, .inr (3, mX3 h6 h22 h13 h31 h32 h33 h34 h35 v21)), (h13, .inr (7, mX7 h14 h15 h16 h17 h18 h19 h20 v13)), (h17, zi k17 40 f17), (h14, zi k14 40 f14), (h15, zi k15 40 f15), (h16, zi k16 40 f16), (h35, zi k35 300 f35), (h34, zi k34 832 f34), (h19, zi k19 160 f19), (h39, zi k39 40 f_70), (h31, .inl (k31, 400, .inr (.inr (.inr (.inr f31)))))] ++ pl92) H := hP
          have hD9 : va_D A ([(h0, .inr (1, mX1 h1 h6 h13 h21 h36 h37 h39 h40 h41 h42 h43 h44 h45 h46 h47 h48 v0)), (h36, .inl (k36, 40, .inr (.inr (.inr (.inr f36))))), (h48, zi k41 n48 f_49), (h41, zi k41 40 f_93), (h21, .inr (3, mX3 h6 h22 h13 h31 h32 h33 h34 h35 v21)), (h13, .inr (7, mX7 h14 h15 h16 h17 h18 h19 h20 v13)), (h17, zi k17 40 f17), (h14, zi k14 40 f14), (h15, zi k15 40 f15), (h16, zi k16 40 f16), (h35, zi k35 300 f35), (h34, zi k34 832 f34), (h19, zi k19 160 f19), (h39, zi k39 40 f_70), (h31, .inl (k31, 400, .inr (.inr (.inr (.inr f31)))))] ++ pl92) := hD
          have hB0 : zRd h22 f31 pl92 := by assumption
          have hB1 : zPs k41 f36 pl92 := by assumption
          have hB2 : zOt pl0 pl92 := by first | assumption | exact zOt_rf
          exact W.vret hx hb hr (fun t ht hW => ⟨⟨(fun _ => 0), rfl, hpost, (fun _ => 0), (fun i => ([f_49, f_93, f_70] : List (Nat → Int32)).getD i (fun _ => 0)), (fun _ => (fun _ => 0)), (fun _ => (fun _ => none)), pl92, hf_49, hB0, hB1, hB2, by rw [ht]; exact hP9, va_K.moved hW.alike hK, hD9⟩, hS.F ht⟩) hS.2.2 dX1_matchPlaces_94
        · skip
          have b_ : -2147483648 ≤ z83.toInt ∧ z83.toInt ≤ 2147483647 := ⟨zlo _, zhi _⟩
          refine lv_if_eq (tgt := 91) hx hb dX1_matchPlaces_84 (by decide) (fun c_ => ?_) (fun c_ => ?_)
          · skip
            have b_ := zT_eq rfl zk_0 c_
            refine lv_iconst (v := 0) hx hb dX1_matchPlaces_91 (by decide) ?_
            have hc : va_P (dC, dI) vwCl ([(h0, .inr (1, mX1 h1 h6 h13 h21 h36 h37 h39 h40 h41 h42 h43 h44 h45 h46 h47 h48 v0)), (h36, .inl (k36, 40, .inr (.inr (.inr (.inr f36))))), (h48, zi k41 n48 f_49), (h41, zi k41 40 f41), (h21, .inr (3, mX3 h6 h22 h13 h31 h32 h33 h34 h35 v21)), (h13, .inr (7, mX7 h14 h15 h16 h17 h18 h19 h20 v13)), (h17, zi k17 40 f17), (h14, zi k14 40 f14), (h15, zi k15 40 f15), (h16, zi k16 40 f16), (h35, zi k35 300 f35), (h34, zi k34 832 f34), (h19, zi k19 160 f19), (h39, zi k39 40 f_70), (h31, .inl (k31, 400, .inr (.inr (.inr (.inr f31)))))] ++ pl70) H ∧ va_D A ([(h0, .inr (1, mX1 h1 h6 h13 h21 h36 h37 h39 h40 h41 h42 h43 h44 h45 h46 h47 h48 v0)), (h36, .inl (k36, 40, .inr (.inr (.inr (.inr f36))))), (h48, zi k41 n48 f_49), (h41, zi k41 40 f41), (h21, .inr (3, mX3 h6 h22 h13 h31 h32 h33 h34 h35 v21)), (h13, .inr (7, mX7 h14 h15 h16 h17 h18 h19 h20 v13)), (h17, zi k17 40 f17), (h14, zi k14 40 f14), (h15, zi k15 40 f15), (h16, zi k16 40 f16), (h35, zi k35 300 f35), (h34, zi k34 832 f34), (h19, zi k19 160 f19), (h39, zi k39 40 f_70), (h31, .inl (k31, 400, .inr (.inr (.inr (.inr f31)))))] ++ pl70) ∧ va_S A s.heap H locs ∧ lv_has ls 5 [(0, .ref h0), (1, .int x1), (2, .int x2), (3, .ref a5_), (4, .int z12)] ∧ (0 ≤ (0 : Int32).toInt ∧ (0 : Int32).toInt ≤ 1) ∧ (zRd h22 f31 pl70) ∧ (zPs k41 f36 pl70) ∧ (zOt pl0 pl70) := ⟨hP, hD, hS, lv_sub hl [0, 1, 2, 3, 4] rfl, (by first | with_reducible assumption | exact ⟨by omega, by omega⟩), by assumption, by assumption, by first | assumption | exact zOt_rf⟩
            exact hJ92 H locs ls (fun i => ([0] : List (Int32)).getD i 0) (fun _ => 0) (fun _ => (fun _ => 0)) (fun _ => (fun _ => 0)) ⟨(fun _ => (fun _ => none)), pl70, hc⟩
          · skip
            have b_ := zF_eq rfl zk_0 c_
            refine lv_iconst (v := 1) hx hb dX1_matchPlaces_87 (by decide) ?_
            refine lv_goto (tgt := 92) hx hb dX1_matchPlaces_88 (by decide) ?_
            have hc : va_P (dC, dI) vwCl ([(h0, .inr (1, mX1 h1 h6 h13 h21 h36 h37 h39 h40 h41 h42 h43 h44 h45 h46 h47 h48 v0)), (h36, .inl (k36, 40, .inr (.inr (.inr (.inr f36))))), (h48, zi k41 n48 f_49), (h41, zi k41 40 f41), (h21, .inr (3, mX3 h6 h22 h13 h31 h32 h33 h34 h35 v21)), (h13, .inr (7, mX7 h14 h15 h16 h17 h18 h19 h20 v13)), (h17, zi k17 40 f17), (h14, zi k14 40 f14), (h15, zi k15 40 f15), (h16, zi k16 40 f16), (h35, zi k35 300 f35), (h34, zi k34 832 f34), (h19, zi k19 160 f19), (h39, zi k39 40 f_70), (h31, .inl (k31, 400, .inr (.inr (.inr (.inr f31)))))] ++ pl70) H ∧ va_D A ([(h0, .inr (1, mX1 h1 h6 h13 h21 h36 h37 h39 h40 h41 h42 h43 h44 h45 h46 h47 h48 v0)), (h36, .inl (k36, 40, .inr (.inr (.inr (.inr f36))))), (h48, zi k41 n48 f_49), (h41, zi k41 40 f41), (h21, .inr (3, mX3 h6 h22 h13 h31 h32 h33 h34 h35 v21)), (h13, .inr (7, mX7 h14 h15 h16 h17 h18 h19 h20 v13)), (h17, zi k17 40 f17), (h14, zi k14 40 f14), (h15, zi k15 40 f15), (h16, zi k16 40 f16), (h35, zi k35 300 f35), (h34, zi k34 832 f34), (h19, zi k19 160 f19), (h39, zi k39 40 f_70), (h31, .inl (k31, 400, .inr (.inr (.inr (.inr f31)))))] ++ pl70) ∧ va_S A s.heap H locs ∧ lv_has ls 5 [(0, .ref h0), (1, .int x1), (2, .int x2), (3, .ref a5_), (4, .int z12)] ∧ (0 ≤ (1 : Int32).toInt ∧ (1 : Int32).toInt ≤ 1) ∧ (zRd h22 f31 pl70) ∧ (zPs k41 f36 pl70) ∧ (zOt pl0 pl70) := ⟨hP, hD, hS, lv_sub hl [0, 1, 2, 3, 4] rfl, (by first | with_reducible assumption | exact ⟨by omega, by omega⟩), by assumption, by assumption, by first | assumption | exact zOt_rf⟩
            exact hJ92 H locs ls (fun i => ([1] : List (Int32)).getD i 0) (fun _ => 0) (fun _ => (fun _ => 0)) (fun _ => (fun _ => 0)) ⟨(fun _ => (fun _ => none)), pl70, hc⟩
      · skip
        refine lv_if_le (tgt := 69) hx hb dX1_matchPlaces_62 (by decide) (fun c_ => ?_) (fun c_ => ?_)
        · skip
          have b_ := zT_le rfl zk_0 c_
          refine lv_iconst (v := 0) hx hb dX1_matchPlaces_69 (by decide) ?_
          obtain ⟨plx5, e_plx5⟩ : ∃ z : va_W, z = (a5_, .inr (5, mX5 b5_)) :: (b5_, zi k41 26 (a36_ 0)) :: p5 := ⟨_, rfl⟩
          have hP : va_P (dC, dI) vwCl ([(h0, .inr (1, mX1 h1 h6 h13 h21 h36 h37 h39 h40 h41 h42 h43 h44 h45 h46 h47 h48 v0)), (h36, .inl (k36, 40, .inr (.inr (.inr (.inr f36))))), (h48, zi k41 n48 f_49), (h41, zi k41 40 f41), (h21, .inr (3, mX3 h6 h22 h13 h31 h32 h33 h34 h35 v21)), (h13, .inr (7, mX7 h14 h15 h16 h17 h18 h19 h20 v13)), (h17, zi k17 40 f17), (h14, zi k14 40 f14), (h15, zi k15 40 f15), (h16, zi k16 40 f16), (h35, zi k35 300 f35), (h34, zi k34 832 f34), (h19, zi k19 160 f19), (h39, zi k39 40 f39), (h31, .inl (k31, 400, .inr (.inr (.inr (.inr f31)))))] ++ plx5) H := by rw [e_plx5]; exact hP
          have hD : va_D A ([(h0, .inr (1, mX1 h1 h6 h13 h21 h36 h37 h39 h40 h41 h42 h43 h44 h45 h46 h47 h48 v0)), (h36, .inl (k36, 40, .inr (.inr (.inr (.inr f36))))), (h48, zi k41 n48 f_49), (h41, zi k41 40 f41), (h21, .inr (3, mX3 h6 h22 h13 h31 h32 h33 h34 h35 v21)), (h13, .inr (7, mX7 h14 h15 h16 h17 h18 h19 h20 v13)), (h17, zi k17 40 f17), (h14, zi k14 40 f14), (h15, zi k15 40 f15), (h16, zi k16 40 f16), (h35, zi k35 300 f35), (h34, zi k34 832 f34), (h19, zi k19 160 f19), (h39, zi k39 40 f39), (h31, .inl (k31, 400, .inr (.inr (.inr (.inr f31)))))] ++ plx5) := by rw [e_plx5]; exact hD
          have hpl_ : zRd h22 f31 plx5 := by rw [e_plx5]; exact zRd_putP (show zRd h22 f31 pl0 from by first | assumption | exact zKp_rf | exact zOt_rf) e_pl5
          have hpl_ : zPs k41 f36 plx5 := by rw [e_plx5]; exact zPs_putP (show zPs k41 f36 pl0 from by first | assumption | exact zKp_rf | exact zOt_rf) e_pl5
          have hpl_ : zOt pl0 plx5 := by rw [e_plx5]; exact zOt_putP (show zOt pl0 pl0 from by first | assumption | exact zKp_rf | exact zOt_rf) e_pl5
          have hc : va_P (dC, dI) vwCl ([(h0, .inr (1, mX1 h1 h6 h13 h21 h36 h37 h39 h40 h41 h42 h43 h44 h45 h46 h47 h48 v0)), (h36, .inl (k36, 40, .inr (.inr (.inr (.inr f36))))), (h48, zi k41 n48 f_49), (h41, zi k41 40 f41), (h21, .inr (3, mX3 h6 h22 h13 h31 h32 h33 h34 h35 v21)), (h13, .inr (7, mX7 h14 h15 h16 h17 h18 h19 h20 v13)), (h17, zi k17 40 f17), (h14, zi k14 40 f14), (h15, zi k15 40 f15), (h16, zi k16 40 f16), (h35, zi k35 300 f35), (h34, zi k34 832 f34), (h19, zi k19 160 f19), (h39, zi k39 40 f39), (h31, .inl (k31, 400, .inr (.inr (.inr (.inr f31)))))] ++ plx5) H ∧ va_D A ([(h0, .inr (1, mX1 h1 h6 h13 h21 h36 h37 h39 h40 h41 h42 h43 h44 h45 h46 h47 h48 v0)), (h36, .inl (k36, 40, .inr (.inr (.inr (.inr f36))))), (h48, zi k41 n48 f_49), (h41, zi k41 40 f41), (h21, .inr (3, mX3 h6 h22 h13 h31 h32 h33 h34 h35 v21)), (h13, .inr (7, mX7 h14 h15 h16 h17 h18 h19 h20 v13)), (h17, zi k17 40 f17), (h14, zi k14 40 f14), (h15, zi k15 40 f15), (h16, zi k16 40 f16), (h35, zi k35 300 f35), (h34, zi k34 832 f34), (h19, zi k19 160 f19), (h39, zi k39 40 f39), (h31, .inl (k31, 400, .inr (.inr (.inr (.inr f31)))))] ++ plx5) ∧ va_S A s.heap H locs ∧ lv_has ls 5 [(0, .ref h0), (1, .int x1), (2, .int x2), (3, .ref a5_), (4, .int z12)] ∧ (0 ≤ (0 : Int32).toInt ∧ (0 : Int32).toInt ≤ 1) ∧ (0 ≤ z61.toInt ∧ z61.toInt ≤ 4914) ∧ (zRd h22 f31 plx5) ∧ (zPs k41 f36 plx5) ∧ (zOt pl0 plx5) := ⟨hP, hD, hS, lv_sub hl [2, 3, 4, 1, 0] rfl, (by first | with_reducible assumption | exact ⟨by omega, by omega⟩), (by first | with_reducible assumption | exact ⟨by omega, by omega⟩), by assumption, by assumption, by first | assumption | exact zOt_rf⟩
          exact hJ70 H locs ls (fun i => ([0] : List (Int32)).getD i 0) (fun _ => 0) (fun _ => (fun _ => 0)) (fun _ => (fun _ => 0)) ⟨(fun _ => (fun _ => none)), plx5, hc⟩
        · skip
          have b_ := zF_le rfl zk_0 c_
          refine lv_iconst (v := 1) hx hb dX1_matchPlaces_65 (by decide) ?_
          refine lv_goto (tgt := 70) hx hb dX1_matchPlaces_66 (by decide) ?_
          obtain ⟨plx6, e_plx6⟩ : ∃ z : va_W, z = (a5_, .inr (5, mX5 b5_)) :: (b5_, zi k41 26 (a36_ 0)) :: p5 := ⟨_, rfl⟩
          have hP : va_P (dC, dI) vwCl ([(h0, .inr (1, mX1 h1 h6 h13 h21 h36 h37 h39 h40 h41 h42 h43 h44 h45 h46 h47 h48 v0)), (h36, .inl (k36, 40, .inr (.inr (.inr (.inr f36))))), (h48, zi k41 n48 f_49), (h41, zi k41 40 f41), (h21, .inr (3, mX3 h6 h22 h13 h31 h32 h33 h34 h35 v21)), (h13, .inr (7, mX7 h14 h15 h16 h17 h18 h19 h20 v13)), (h17, zi k17 40 f17), (h14, zi k14 40 f14), (h15, zi k15 40 f15), (h16, zi k16 40 f16), (h35, zi k35 300 f35), (h34, zi k34 832 f34), (h19, zi k19 160 f19), (h39, zi k39 40 f39), (h31, .inl (k31, 400, .inr (.inr (.inr (.inr f31)))))] ++ plx6) H := by rw [e_plx6]; exact hP
          have hD : va_D A ([(h0, .inr (1, mX1 h1 h6 h13 h21 h36 h37 h39 h40 h41 h42 h43 h44 h45 h46 h47 h48 v0)), (h36, .inl (k36, 40, .inr (.inr (.inr (.inr f36))))), (h48, zi k41 n48 f_49), (h41, zi k41 40 f41), (h21, .inr (3, mX3 h6 h22 h13 h31 h32 h33 h34 h35 v21)), (h13, .inr (7, mX7 h14 h15 h16 h17 h18 h19 h20 v13)), (h17, zi k17 40 f17), (h14, zi k14 40 f14), (h15, zi k15 40 f15), (h16, zi k16 40 f16), (h35, zi k35 300 f35), (h34, zi k34 832 f34), (h19, zi k19 160 f19), (h39, zi k39 40 f39), (h31, .inl (k31, 400, .inr (.inr (.inr (.inr f31)))))] ++ plx6) := by rw [e_plx6]; exact hD
          have hpl_ : zRd h22 f31 plx6 := by rw [e_plx6]; exact zRd_putP (show zRd h22 f31 pl0 from by first | assumption | exact zKp_rf | exact zOt_rf) e_pl5
          have hpl_ : zPs k41 f36 plx6 := by rw [e_plx6]; exact zPs_putP (show zPs k41 f36 pl0 from by first | assumption | exact zKp_rf | exact zOt_rf) e_pl5
          have hpl_ : zOt pl0 plx6 := by rw [e_plx6]; exact zOt_putP (show zOt pl0 pl0 from by first | assumption | exact zKp_rf | exact zOt_rf) e_pl5
          have hc : va_P (dC, dI) vwCl ([(h0, .inr (1, mX1 h1 h6 h13 h21 h36 h37 h39 h40 h41 h42 h43 h44 h45 h46 h47 h48 v0)), (h36, .inl (k36, 40, .inr (.inr (.inr (.inr f36))))), (h48, zi k41 n48 f_49), (h41, zi k41 40 f41), (h21, .inr (3, mX3 h6 h22 h13 h31 h32 h33 h34 h35 v21)), (h13, .inr (7, mX7 h14 h15 h16 h17 h18 h19 h20 v13)), (h17, zi k17 40 f17), (h14, zi k14 40 f14), (h15, zi k15 40 f15), (h16, zi k16 40 f16), (h35, zi k35 300 f35), (h34, zi k34 832 f34), (h19, zi k19 160 f19), (h39, zi k39 40 f39), (h31, .inl (k31, 400, .inr (.inr (.inr (.inr f31)))))] ++ plx6) H ∧ va_D A ([(h0, .inr (1, mX1 h1 h6 h13 h21 h36 h37 h39 h40 h41 h42 h43 h44 h45 h46 h47 h48 v0)), (h36, .inl (k36, 40, .inr (.inr (.inr (.inr f36))))), (h48, zi k41 n48 f_49), (h41, zi k41 40 f41), (h21, .inr (3, mX3 h6 h22 h13 h31 h32 h33 h34 h35 v21)), (h13, .inr (7, mX7 h14 h15 h16 h17 h18 h19 h20 v13)), (h17, zi k17 40 f17), (h14, zi k14 40 f14), (h15, zi k15 40 f15), (h16, zi k16 40 f16), (h35, zi k35 300 f35), (h34, zi k34 832 f34), (h19, zi k19 160 f19), (h39, zi k39 40 f39), (h31, .inl (k31, 400, .inr (.inr (.inr (.inr f31)))))] ++ plx6) ∧ va_S A s.heap H locs ∧ lv_has ls 5 [(0, .ref h0), (1, .int x1), (2, .int x2), (3, .ref a5_), (4, .int z12)] ∧ (0 ≤ (1 : Int32).toInt ∧ (1 : Int32).toInt ≤ 1) ∧ (0 ≤ z61.toInt ∧ z61.toInt ≤ 4914) ∧ (zRd h22 f31 plx6) ∧ (zPs k41 f36 plx6) ∧ (zOt pl0 plx6) := ⟨hP, hD, hS, lv_sub hl [2, 3, 4, 1, 0] rfl, (by first | with_reducible assumption | exact ⟨by omega, by omega⟩), (by first | with_reducible assumption | exact ⟨by omega, by omega⟩), by assumption, by assumption, by first | assumption | exact zOt_rf⟩
          exact hJ70 H locs ls (fun i => ([1] : List (Int32)).getD i 0) (fun _ => 0) (fun _ => (fun _ => 0)) (fun _ => (fun _ => 0)) ⟨(fun _ => (fun _ => none)), plx6, hc⟩
    · skip
      have b_ := zF_lt rfl rfl c_
      refine W.widen (k := 0) (n := 0) (by decide) (by decide) ?_
      have hpost : True := trivial
      have hP9 : va_P (dC, dI) vwCl ([(h0, .inr (1, mX1 h1 h6 h13 h21 h36 h37 h39 h40 h41 h42 h43 h44 h45 h46 h47 h48 v0)), (h36, .inl (k36, 40, .inr (.inr (.inr (.inr f36))))), (h48, zi k41 n48 f48), (h41, zi k41 40 f41), (h21, .inr (3, mX3 h6 h22 h13 h31 h32 h33 h34 h35 v21)), (h13, .inr (7, mX7 h14 h15 h16 h17 h18 h19 h20 v13)), (h17, zi k17 40 f17), (h14, zi k14 40 f14), (h15, zi k15 40 f15), (h16, zi k16 40 f16), (h35, zi k35 300 f35), (h34, zi k34 832 f34), (h19, zi k19 160 f19), (h39, zi k39 40 f39), (h31, .inl (k31, 400, .inr (.inr (.inr (.inr f31)))))] ++ pl0) s.heap := hP
      have hD9 : va_D A ([(h0, .inr (1, mX1 h1 h6 h13 h21 h36 h37 h39 h40 h41 h42 h43 h44 h45 h46 h47 h48 v0)), (h36, .inl (k36, 40, .inr (.inr (.inr (.inr f36))))), (h48, zi k41 n48 f48), (h41, zi k41 40 f41), (h21, .inr (3, mX3 h6 h22 h13 h31 h32 h33 h34 h35 v21)), (h13, .inr (7, mX7 h14 h15 h16 h17 h18 h19 h20 v13)), (h17, zi k17 40 f17), (h14, zi k14 40 f14), (h15, zi k15 40 f15), (h16, zi k16 40 f16), (h35, zi k35 300 f35), (h34, zi k34 832 f34), (h19, zi k19 160 f19), (h39, zi k39 40 f39), (h31, .inl (k31, 400, .inr (.inr (.inr (.inr f31)))))] ++ pl0) := hD
      have hB0 : zRd h22 f31 pl0 := by assumption
      have hB1 : zPs k41 f36 pl0 := by assumption
      have hB2 : zOt pl0 pl0 := by first | assumption | exact zOt_rf
      exact W.vret hx hb hr (fun t ht hW => ⟨⟨(fun _ => 0), rfl, hpost, (fun _ => 0), (fun i => ([f48, f41, f39] : List (Nat → Int32)).getD i (fun _ => 0)), (fun _ => (fun _ => 0)), (fun _ => (fun _ => none)), pl0, hf48, hB0, hB1, hB2, by rw [ht]; exact hP9, va_K.moved hW.alike hK, hD9⟩, hS.F ht⟩) hS.2.2 dX1_matchPlaces_29
set_option maxHeartbeats 8000000 in
set_option maxRecDepth 100000 in
theorem sX0_markOf_0 (l : Launch) (dC : Nat → ClassId) (dI : Nat → Nat → Nat) (adK adV : Nat → Nat) (h0 : Nat) (h3 : Nat) (h1 : Nat) (h2 : Nat) (h4 : Nat) (k3 : ClassId) (sz : Nat) (v0 : Nat → Int32) (f3 : Nat → Int32) (x1 : Int32) (hv0 : zR rg_Documents v0) : Met l yX0_markOf (zw yX0_markOf cX0_markOf 2 (some .int)) { frames := 1, cells := 0, slots := 0, locals := 21 } (zPc dC dI adK adV [.ref h0, .int x1] sz [(h0, .inr (0, mX0 h1 h2 h3 h4 v0)), (h3, zi k3 120 f3)] [(k3, .int)]) (va_Qi (fun (r : Int32) (u : Nat → Int32) => True) (fun (u : Nat → Int32) (t : State) => ∃ (ww : Nat → Int64) (aa : Nat → Nat → Int32) (bb : Nat → Nat → Int64), va_P (dC, dI) vwCl [(h0, .inr (0, mX0 h1 h2 h3 h4 v0)), (h3, zi k3 120 f3)] t.heap ∧ va_K (dC, dI) vwCl [(k3, .int)] t ∧ va_D (va_A [(h0, .inr (0, mX0 h1 h2 h3 h4 v0)), (h3, zi k3 120 f3)] sz) [(h0, .inr (0, mX0 h1 h2 h3 h4 v0)), (h3, zi k3 120 f3)]) (va_A [(h0, .inr (0, mX0 h1 h2 h3 h4 v0)), (h3, zi k3 120 f3)] sz)) 0 0 (va_A [(h0, .inr (0, mX0 h1 h2 h3 h4 v0)), (h3, zi k3 120 f3)] sz) := by
  refine Met.ofW (cc := cX0_markOf) (maxL := 2) (ret := (some .int)) (by decide) rfl ?_
  intro p e s m args below meth c s₁ B hml hv
  obtain ⟨rfl, hsz, hP, hK, hD0, hE, hZ⟩ := hv
  have hx := B.exec
  have hb := B.bytes
  have hr := B.returns
  have hG : ∀ w ∈ zG, w.before _ s = true := fun w h => atoms_spec (ws := (zw yX0_markOf cX0_markOf 2 (some .int))) B.pre w (List.mem_cons_of_mem _ h)
  have hown : s.vm.findClass RX0 = some m.cls := findClass_of_methodNamed B.named
  have hlocks := B.notSynchronized

  subst hsz
  have hD := hD0.self (sz := s.heap.size)
  generalize hAe : va_A [(h0, .inr (0, mX0 h1 h2 h3 h4 v0)), (h3, zi k3 120 f3)] s.heap.size = A at hD hZ ⊢
  have hA : ∀ q : Nat, s.heap.size ≤ q → A q := fun q h => by rw [← hAe]; exact Or.inr h
  have hS : va_S A s.heap s.heap [] := va_S.rf
  have hl := lv_entry ([.ref h0, .int x1]) (n := 2) (Nat.le_of_ble_eq_true rfl)
  rw [lg_entry_eq]
  generalize (lg_sl ([.ref h0, .int x1]) ++ List.replicate (2 - (lg_sl ([.ref h0, .int x1])).length) Slot.unset).toArray = ls at hl ⊢
  have hl : lv_has ls 2 [(0, .ref h0), (1, .int x1)] := hl
  refine lv_aload_n hx hb dX0_markOf_0 rfl (lv_at hl 0 rfl) ?_
  refine lv_iload_n hx hb dX0_markOf_1 rfl (lv_at hl 1 rfl) ?_
  have hPc := hP.sub (ws' := [(h0, .inr (0, mX0 h1 h2 h3 h4 v0))]) [0] rfl
  have hDc := hD.sub (ws' := [(h0, .inr (0, mX0 h1 h2 h3 h4 v0))]) [0] (by decide) rfl
  have hKc := hK.sub (tys' := []) [] rfl
  have hFc := va_free (wc := [(h0, .inr (0, mX0 h1 h2 h3 h4 v0))]) hD hS hA [0] rfl
  refine va_calli (va_runV (As := [.int x1]) (rest := []) ⟨hx, hb, hml, hown, hG⟩ (sX0_came_0 l dC dI adK adV h0 h1 h2 h3 h4 s.heap.size v0 x1 hv0) (cwV 1 hG (zgV zv875 zv876 zv877 zv132 zv878) rfl rfl rfl (by decide +kernel) ⟨Nat.le_of_ble_eq_true rfl, Nat.le_of_ble_eq_true rfl⟩) ⟨zPc_blind, va_recv hKc hPc (ci := 0) (q0 := 0) rfl rfl, zPc_pre hPc hKc hDc hE hS hFc hZ⟩ rfl rfl hl.1 rfl (lv_room (Nat.le_of_ble_eq_true rfl)) dX0_markOf_2 ⟨Nat.le_of_ble_eq_true rfl, Nat.le_of_ble_eq_true rfl⟩) hS (fun q _ h => hFc q h) hFc (fun r2_ u2_ t H1 locs ht hvm hw hB hz1 hk1 hS => ?_)
  replace hw : (0 ≤ r2_.toInt ∧ r2_.toInt ≤ 1) ∧ (r2_.toInt = 1 → (0 ≤ x1.toInt ∧ x1.toInt ≤ 119)) ∧ (r2_.toInt = 1 → x1.toInt < (v0 4).toInt) ∧ (r2_.toInt = 0 → x1.toInt < 0 ∨ (v0 4).toInt ≤ x1.toInt) := hw
  obtain ⟨b_, hX2_0, hX2_1, hX2_2⟩ := hw
  obtain ⟨w2_, a2_, b2_, hP1, hK1, hD1⟩ := hB
  rw [ht] at hP1
  obtain ⟨hP, hD⟩ := va_join (wr := [(h3, zi k3 120 f3)]) (w1 := [(h0, .inr (0, mX0 h1 h2 h3 h4 v0))]) hP hD [0] [1] rfl rfl (by decide) (by decide) hk1 hFc hP1 hD1
  have hP : va_P (dC, dI) vwCl [(h0, .inr (0, mX0 h1 h2 h3 h4 v0)), (h3, zi k3 120 f3)] H1 := hP.sub [1, 0] rfl
  have hD : va_D A [(h0, .inr (0, mX0 h1 h2 h3 h4 v0)), (h3, zi k3 120 f3)] := hD.sub [1, 0] (by decide) rfl
  generalize H1 = H at hP hS ⊢
  clear hz1
  refine lv_if_eq (tgt := 17) hx hb dX0_markOf_5 (by decide) (fun c_ => ?_) (fun c_ => ?_)
  · skip
    have b_ := zT_eq rfl zk_0 c_
    refine lv_iconst (v := 0) hx hb dX0_markOf_17 (by decide) ?_
    refine W.widen (k := 0) (n := 0) (by decide) (by decide) ?_
    have hpost : True := trivial
    have hP9 : va_P (dC, dI) vwCl [(h0, .inr (0, mX0 h1 h2 h3 h4 v0)), (h3, zi k3 120 f3)] H := hP
    have hD9 : va_D A [(h0, .inr (0, mX0 h1 h2 h3 h4 v0)), (h3, zi k3 120 f3)] := hD
    exact W.iret (v := 0) hx hb hr (fun t ht hW => ⟨⟨0, (fun _ => 0), rfl, hpost, (fun _ => 0), (fun _ => (fun _ => 0)), (fun _ => (fun _ => 0)), by rw [ht]; exact hP9, va_K.moved hW.alike hK, hD9⟩, hS.F ht⟩) hS.2.2 dX0_markOf_18
  · skip
    have b_ := zF_eq rfl zk_0 c_
    refine lv_aload_n hx hb dX0_markOf_8 rfl (lv_at hl 0 rfl) ?_
    refine va_get (D := (dC, dI)) (ci := 0) (v := .ref h3) (C := RX0) (T := TX0) (N := 6) hx hb hG zuX0 hown hK hP 0 rfl rfl 2 (by decide) (hG _ zv224) (fun _ h9 => h9) rfl dX0_markOf_9 ?_
    refine lv_iload_n hx hb dX0_markOf_12 rfl (lv_at hl 1 rfl) ?_
    refine va_iald hx hb hK hP 1 0 rfl rfl (zin_lit ⟨by omega, by omega⟩) dX0_markOf_13 ?_
    refine lv_topi (fun z13 e_z13 => ?_)
    refine lv_goto (tgt := 18) hx hb dX0_markOf_14 (by decide) ?_
    refine W.widen (k := 0) (n := 0) (by decide) (by decide) ?_
    have b_ : -2147483648 ≤ z13.toInt ∧ z13.toInt ≤ 2147483647 := ⟨zlo _, zhi _⟩
    have hpost : True := trivial
    have hP9 : va_P (dC, dI) vwCl [(h0, .inr (0, mX0 h1 h2 h3 h4 v0)), (h3, zi k3 120 f3)] H := hP
    have hD9 : va_D A [(h0, .inr (0, mX0 h1 h2 h3 h4 v0)), (h3, zi k3 120 f3)] := hD
    exact W.iret (v := z13) hx hb hr (fun t ht hW => ⟨⟨z13, (fun _ => 0), rfl, hpost, (fun _ => 0), (fun _ => (fun _ => 0)), (fun _ => (fun _ => 0)), by rw [ht]; exact hP9, va_K.moved hW.alike hK, hD9⟩, hS.F ht⟩) hS.2.2 dX0_markOf_18
set_option maxHeartbeats 8000000 in
set_option maxRecDepth 100000 in
theorem sX1_matchLeaves_0 (l : Launch) (dC : Nat → ClassId) (dI : Nat → Nat → Nat) (adK adV : Nat → Nat) (h0 : Nat) (h13 : Nat) (h14 : Nat) (h36 : Nat) (h48 : Nat) (h41 : Nat) (h21 : Nat) (h17 : Nat) (h15 : Nat) (h16 : Nat) (h35 : Nat) (h34 : Nat) (h19 : Nat) (h39 : Nat) (h31 : Nat) (h1 : Nat) (h4 : Nat) (h6 : Nat) (h37 : Nat) (h40 : Nat) (h42 : Nat) (h43 : Nat) (h44 : Nat) (h45 : Nat) (h46 : Nat) (h47 : Nat) (h18 : Nat) (h20 : Nat) (h22 : Nat) (h32 : Nat) (h33 : Nat) (h2 : Nat) (h3 : Nat) (h5 : Nat) (k14 : ClassId) (k36 : ClassId) (n48 : Nat) (k41 : ClassId) (k17 : ClassId) (k15 : ClassId) (k16 : ClassId) (k35 : ClassId) (k34 : ClassId) (k19 : ClassId) (k39 : ClassId) (k31 : ClassId) (k4 : ClassId) (pl0 : va_W) (sz : Nat) (v0 : Nat → Int32) (v13 : Nat → Int32) (f14 : Nat → Int32) (f36 : Nat → Option Nat) (f48 : Nat → Int32) (f41 : Nat → Int32) (v21 : Nat → Int32) (f17 : Nat → Int32) (f15 : Nat → Int32) (f16 : Nat → Int32) (f35 : Nat → Int32) (f34 : Nat → Int32) (f19 : Nat → Int32) (f39 : Nat → Int32) (f31 : Nat → Option Nat) (v1 : Nat → Int32) (f4 : Nat → Int32) (x1 : Int32) (hv0 : zR rg_Finder v0) (hv13 : zR rg_Query v13) (hf48 : zA 0 4914 f48) (hn48 : n48 ≤ 4800) (hv21 : zR rg_Page v21) (hf35 : zA 0 831 f35) (hv1 : zR rg_Documents v1) (hx1 : 0 ≤ x1.toInt ∧ x1.toInt ≤ 119) (hp0_ : zRd h22 f31 pl0) (hp1_ : zPs k41 f36 pl0) : Met l yX1_matchLeaves (zw yX1_matchLeaves cX1_matchLeaves 4 none) { frames := 5, cells := 0, slots := 0, locals := 120 } (zPc dC dI adK adV [.ref h0, .int x1] sz ([(h0, .inr (1, mX1 h1 h6 h13 h21 h36 h37 h39 h40 h41 h42 h43 h44 h45 h46 h47 h48 v0)), (h13, .inr (7, mX7 h14 h15 h16 h17 h18 h19 h20 v13)), (h14, zi k14 40 f14), (h36, .inl (k36, 40, .inr (.inr (.inr (.inr f36))))), (h48, zi k41 n48 f48), (h41, zi k41 40 f41), (h21, .inr (3, mX3 h6 h22 h13 h31 h32 h33 h34 h35 v21)), (h17, zi k17 40 f17), (h15, zi k15 40 f15), (h16, zi k16 40 f16), (h35, zi k35 300 f35), (h34, zi k34 832 f34), (h19, zi k19 160 f19), (h39, zi k39 40 f39), (h31, .inl (k31, 400, .inr (.inr (.inr (.inr f31))))), (h1, .inr (0, mX0 h2 h3 h4 h5 v1)), (h4, zi k4 120 f4)] ++ pl0) [(k14, .int), (k36, .object RX5), (k41, .int), (k41, .int), (k17, .int), (k15, .int), (k16, .int), (k35, .int), (k34, .int), (k19, .int), (k39, .boolean), (k31, .object RX8), (k4, .int)]) (va_Qv (fun (u : Nat → Int32) => True) (fun (u : Nat → Int32) (t : State) => ∃ (ww : Nat → Int64) (aa : Nat → Nat → Int32) (bb : Nat → Nat → Int64) (qq : Nat → Nat → Option Nat) (pl1 : va_W), zA 0 4914 (aa 0) ∧ (zRd h22 f31 pl1) ∧ (zPs k41 f36 pl1) ∧ (zOt pl0 pl1) ∧ va_P (dC, dI) vwCl ([(h0, .inr (1, mX1 h1 h6 h13 h21 h36 h37 h39 h40 h41 h42 h43 h44 h45 h46 h47 h48 v0)), (h13, .inr (7, mX7 h14 h15 h16 h17 h18 h19 h20 v13)), (h14, zi k14 40 f14), (h36, .inl (k36, 40, .inr (.inr (.inr (.inr f36))))), (h48, zi k41 n48 (aa 0)), (h41, zi k41 40 (aa 1)), (h21, .inr (3, mX3 h6 h22 h13 h31 h32 h33 h34 h35 v21)), (h17, zi k17 40 f17), (h15, zi k15 40 f15), (h16, zi k16 40 f16), (h35, zi k35 300 f35), (h34, zi k34 832 f34), (h19, zi k19 160 f19), (h39, zi k39 40 (aa 2)), (h31, .inl (k31, 400, .inr (.inr (.inr (.inr f31))))), (h1, .inr (0, mX0 h2 h3 h4 h5 v1)), (h4, zi k4 120 f4)] ++ pl1) t.heap ∧ va_K (dC, dI) vwCl [(k14, .int), (k36, .object RX5), (k41, .int), (k41, .int), (k17, .int), (k15, .int), (k16, .int), (k35, .int), (k34, .int), (k19, .int), (k39, .boolean), (k31, .object RX8), (k4, .int)] t ∧ va_D (va_A ([(h0, .inr (1, mX1 h1 h6 h13 h21 h36 h37 h39 h40 h41 h42 h43 h44 h45 h46 h47 h48 v0)), (h13, .inr (7, mX7 h14 h15 h16 h17 h18 h19 h20 v13)), (h14, zi k14 40 f14), (h36, .inl (k36, 40, .inr (.inr (.inr (.inr f36))))), (h48, zi k41 n48 f48), (h41, zi k41 40 f41), (h21, .inr (3, mX3 h6 h22 h13 h31 h32 h33 h34 h35 v21)), (h17, zi k17 40 f17), (h15, zi k15 40 f15), (h16, zi k16 40 f16), (h35, zi k35 300 f35), (h34, zi k34 832 f34), (h19, zi k19 160 f19), (h39, zi k39 40 f39), (h31, .inl (k31, 400, .inr (.inr (.inr (.inr f31))))), (h1, .inr (0, mX0 h2 h3 h4 h5 v1)), (h4, zi k4 120 f4)] ++ pl0) sz) ([(h0, .inr (1, mX1 h1 h6 h13 h21 h36 h37 h39 h40 h41 h42 h43 h44 h45 h46 h47 h48 v0)), (h13, .inr (7, mX7 h14 h15 h16 h17 h18 h19 h20 v13)), (h14, zi k14 40 f14), (h36, .inl (k36, 40, .inr (.inr (.inr (.inr f36))))), (h48, zi k41 n48 (aa 0)), (h41, zi k41 40 (aa 1)), (h21, .inr (3, mX3 h6 h22 h13 h31 h32 h33 h34 h35 v21)), (h17, zi k17 40 f17), (h15, zi k15 40 f15), (h16, zi k16 40 f16), (h35, zi k35 300 f35), (h34, zi k34 832 f34), (h19, zi k19 160 f19), (h39, zi k39 40 (aa 2)), (h31, .inl (k31, 400, .inr (.inr (.inr (.inr f31))))), (h1, .inr (0, mX0 h2 h3 h4 h5 v1)), (h4, zi k4 120 f4)] ++ pl1)) (va_A ([(h0, .inr (1, mX1 h1 h6 h13 h21 h36 h37 h39 h40 h41 h42 h43 h44 h45 h46 h47 h48 v0)), (h13, .inr (7, mX7 h14 h15 h16 h17 h18 h19 h20 v13)), (h14, zi k14 40 f14), (h36, .inl (k36, 40, .inr (.inr (.inr (.inr f36))))), (h48, zi k41 n48 f48), (h41, zi k41 40 f41), (h21, .inr (3, mX3 h6 h22 h13 h31 h32 h33 h34 h35 v21)), (h17, zi k17 40 f17), (h15, zi k15 40 f15), (h16, zi k16 40 f16), (h35, zi k35 300 f35), (h34, zi k34 832 f34), (h19, zi k19 160 f19), (h39, zi k39 40 f39), (h31, .inl (k31, 400, .inr (.inr (.inr (.inr f31))))), (h1, .inr (0, mX0 h2 h3 h4 h5 v1)), (h4, zi k4 120 f4)] ++ pl0) sz)) 0 0 (va_A ([(h0, .inr (1, mX1 h1 h6 h13 h21 h36 h37 h39 h40 h41 h42 h43 h44 h45 h46 h47 h48 v0)), (h13, .inr (7, mX7 h14 h15 h16 h17 h18 h19 h20 v13)), (h14, zi k14 40 f14), (h36, .inl (k36, 40, .inr (.inr (.inr (.inr f36))))), (h48, zi k41 n48 f48), (h41, zi k41 40 f41), (h21, .inr (3, mX3 h6 h22 h13 h31 h32 h33 h34 h35 v21)), (h17, zi k17 40 f17), (h15, zi k15 40 f15), (h16, zi k16 40 f16), (h35, zi k35 300 f35), (h34, zi k34 832 f34), (h19, zi k19 160 f19), (h39, zi k39 40 f39), (h31, .inl (k31, 400, .inr (.inr (.inr (.inr f31))))), (h1, .inr (0, mX0 h2 h3 h4 h5 v1)), (h4, zi k4 120 f4)] ++ pl0) sz) := by
  refine Met.ofW (cc := cX1_matchLeaves) (maxL := 4) (ret := none) (by decide) rfl ?_
  intro p e s m args below meth c s₁ B hml hv
  obtain ⟨rfl, hsz, hP, hK, hD0, hE, hZ⟩ := hv
  have hx := B.exec
  have hb := B.bytes
  have hr := B.returns
  have hG : ∀ w ∈ zG, w.before _ s = true := fun w h => atoms_spec (ws := (zw yX1_matchLeaves cX1_matchLeaves 4 none)) B.pre w (List.mem_cons_of_mem _ h)
  have hown : s.vm.findClass RX1 = some m.cls := findClass_of_methodNamed B.named
  have hlocks := B.notSynchronized

  subst hsz
  have hD := hD0.self (sz := s.heap.size)
  generalize hAe : va_A ([(h0, .inr (1, mX1 h1 h6 h13 h21 h36 h37 h39 h40 h41 h42 h43 h44 h45 h46 h47 h48 v0)), (h13, .inr (7, mX7 h14 h15 h16 h17 h18 h19 h20 v13)), (h14, zi k14 40 f14), (h36, .inl (k36, 40, .inr (.inr (.inr (.inr f36))))), (h48, zi k41 n48 f48), (h41, zi k41 40 f41), (h21, .inr (3, mX3 h6 h22 h13 h31 h32 h33 h34 h35 v21)), (h17, zi k17 40 f17), (h15, zi k15 40 f15), (h16, zi k16 40 f16), (h35, zi k35 300 f35), (h34, zi k34 832 f34), (h19, zi k19 160 f19), (h39, zi k39 40 f39), (h31, .inl (k31, 400, .inr (.inr (.inr (.inr f31))))), (h1, .inr (0, mX0 h2 h3 h4 h5 v1)), (h4, zi k4 120 f4)] ++ pl0) s.heap.size = A at hD hZ ⊢
  have hA : ∀ q : Nat, s.heap.size ≤ q → A q := fun q h => by rw [← hAe]; exact Or.inr h
  have hS : va_S A s.heap s.heap [] := va_S.rf
  have hl := lv_entry ([.ref h0, .int x1]) (n := 4) (Nat.le_of_ble_eq_true rfl)
  rw [lg_entry_eq]
  generalize (lg_sl ([.ref h0, .int x1]) ++ List.replicate (4 - (lg_sl ([.ref h0, .int x1])).length) Slot.unset).toArray = ls at hl ⊢
  have hl : lv_has ls 4 [(0, .ref h0), (1, .int x1)] := hl
  have b_ := zk_0
  have b_ := zk_1
  refine lv_iconst (v := 0) hx hb dX1_matchLeaves_0 (by decide) ?_
  refine lv_istore_n (lv' := [(2, .int 0), (0, .ref h0), (1, .int x1)]) hx hb dX1_matchLeaves_1 rfl hl (by decide) rfl (fun ls hl => ?_)
  refine zcutL (fun u2_ => (40 - (u2_ 0).toInt).toNat) (fun H locs ls u2_ w2_ a2_ b2_ => ∃ (q2_ : Nat → Nat → Option Nat) (pl2 : va_W), va_P (dC, dI) vwCl ([(h0, .inr (1, mX1 h1 h6 h13 h21 h36 h37 h39 h40 h41 h42 h43 h44 h45 h46 h47 h48 v0)), (h13, .inr (7, mX7 h14 h15 h16 h17 h18 h19 h20 v13)), (h14, zi k14 40 f14), (h36, .inl (k36, 40, .inr (.inr (.inr (.inr f36))))), (h48, zi k41 n48 (a2_ 0)), (h41, zi k41 40 (a2_ 2)), (h21, .inr (3, mX3 h6 h22 h13 h31 h32 h33 h34 h35 v21)), (h17, zi k17 40 f17), (h15, zi k15 40 f15), (h16, zi k16 40 f16), (h35, zi k35 300 f35), (h34, zi k34 832 f34), (h19, zi k19 160 f19), (h39, zi k39 40 (a2_ 1)), (h31, .inl (k31, 400, .inr (.inr (.inr (.inr f31))))), (h1, .inr (0, mX0 h2 h3 h4 h5 v1)), (h4, zi k4 120 f4)] ++ pl2) H ∧ va_D A ([(h0, .inr (1, mX1 h1 h6 h13 h21 h36 h37 h39 h40 h41 h42 h43 h44 h45 h46 h47 h48 v0)), (h13, .inr (7, mX7 h14 h15 h16 h17 h18 h19 h20 v13)), (h14, zi k14 40 f14), (h36, .inl (k36, 40, .inr (.inr (.inr (.inr f36))))), (h48, zi k41 n48 (a2_ 0)), (h41, zi k41 40 (a2_ 2)), (h21, .inr (3, mX3 h6 h22 h13 h31 h32 h33 h34 h35 v21)), (h17, zi k17 40 f17), (h15, zi k15 40 f15), (h16, zi k16 40 f16), (h35, zi k35 300 f35), (h34, zi k34 832 f34), (h19, zi k19 160 f19), (h39, zi k39 40 (a2_ 1)), (h31, .inl (k31, 400, .inr (.inr (.inr (.inr f31))))), (h1, .inr (0, mX0 h2 h3 h4 h5 v1)), (h4, zi k4 120 f4)] ++ pl2) ∧ va_S A s.heap H locs ∧ lv_has ls 4 [(0, .ref h0), (1, .int x1), (2, .int (u2_ 0))] ∧ zA 0 4914 (a2_ 0) ∧ (0 ≤ (u2_ 0).toInt ∧ (u2_ 0).toInt ≤ 40) ∧ (zRd h22 f31 pl2) ∧ (zPs k41 f36 pl2) ∧ (zOt pl0 pl2)) (fun ls u2_ w2_ => F0 m 2 ls []) 0 0 ?_ (fun hJ2 => ?_)
  · skip
    intro H locs ls u2_ w2_ a2_ b2_ hc hJ2
    obtain ⟨q2_, pl2, hP, hD, hS, hl, ha2_0, b_, hI2_0, hI2_1, hI2_2⟩ := hc
    refine lv_iload_n hx hb dX1_matchLeaves_2 rfl (lv_at hl 2 rfl) ?_
    refine lv_aload_n hx hb dX1_matchLeaves_3 rfl (lv_at hl 0 rfl) ?_
    refine va_get (D := (dC, dI)) (ci := 1) (v := .ref h13) (C := RX1) (T := TX1) (N := 17) hx hb hG zuX1 hown hK hP 0 rfl rfl 2 (by decide) (hG _ zv506) (fun _ h9 => h9) rfl dX1_matchLeaves_4 ?_
    have hPc := hP.sub (ws' := [(h13, .inr (7, mX7 h14 h15 h16 h17 h18 h19 h20 v13))]) [1] rfl
    have hDc := hD.sub (ws' := [(h13, .inr (7, mX7 h14 h15 h16 h17 h18 h19 h20 v13))]) [1] (by decide) rfl
    have hKc := hK.sub (tys' := []) [] rfl
    have hFc := va_free (wc := [(h13, .inr (7, mX7 h14 h15 h16 h17 h18 h19 h20 v13))]) hD hS hA [1] rfl
    refine va_calli (va_runV (As := []) (rest := [.int (u2_ 0)]) ⟨hx, hb, hml, hown, hG⟩ (sX7_leaves_0 l dC dI adK adV h13 h14 h15 h16 h17 h18 h19 h20 H.size v13 hv13) (cwV 0 hG (zgV zv1211 zv1093 zv1094 zv136 zv1095) rfl rfl rfl (by decide +kernel) ⟨Nat.le_of_ble_eq_true rfl, Nat.le_of_ble_eq_true rfl⟩) ⟨zPc_blind, va_recv hKc hPc (ci := 7) (q0 := 0) rfl rfl, zPc_pre hPc hKc hDc hE hS hFc hZ⟩ rfl rfl hl.1 rfl (lv_room (Nat.le_of_ble_eq_true rfl)) dX1_matchLeaves_7 ⟨Nat.le_of_ble_eq_true rfl, Nat.le_of_ble_eq_true rfl⟩) hS (fun q _ h => hFc q h) hFc (fun r7_ u7_ t H1 locs ht hvm hw hB hz1 hk1 hS => ?_)
    replace hw : (0 ≤ r7_.toInt ∧ r7_.toInt ≤ 40) ∧ (r7_.toInt = (v13 7).toInt) := hw
    obtain ⟨b_, hX7_0⟩ := hw
    obtain ⟨w7_, a7_, b7_, hP1, hK1, hD1⟩ := hB
    rw [ht] at hP1
    obtain ⟨hP, hD⟩ := va_joinQ (wr := [(h0, .inr (1, mX1 h1 h6 h13 h21 h36 h37 h39 h40 h41 h42 h43 h44 h45 h46 h47 h48 v0)), (h14, zi k14 40 f14), (h36, .inl (k36, 40, .inr (.inr (.inr (.inr f36))))), (h48, zi k41 n48 (a2_ 0)), (h41, zi k41 40 (a2_ 2)), (h21, .inr (3, mX3 h6 h22 h13 h31 h32 h33 h34 h35 v21)), (h17, zi k17 40 f17), (h15, zi k15 40 f15), (h16, zi k16 40 f16), (h35, zi k35 300 f35), (h34, zi k34 832 f34), (h19, zi k19 160 f19), (h39, zi k39 40 (a2_ 1)), (h31, .inl (k31, 400, .inr (.inr (.inr (.inr f31))))), (h1, .inr (0, mX0 h2 h3 h4 h5 v1)), (h4, zi k4 120 f4)]) (w1 := [(h13, .inr (7, mX7 h14 h15 h16 h17 h18 h19 h20 v13))]) hP hD [1] [0, 2, 3, 4, 5, 6, 7, 8, 9, 10, 11, 12, 13, 14, 15, 16] rfl rfl (by decide) (by decide) hk1 hFc hP1 hD1
    have hP : va_P (dC, dI) vwCl ([(h0, .inr (1, mX1 h1 h6 h13 h21 h36 h37 h39 h40 h41 h42 h43 h44 h45 h46 h47 h48 v0)), (h13, .inr (7, mX7 h14 h15 h16 h17 h18 h19 h20 v13)), (h14, zi k14 40 f14), (h36, .inl (k36, 40, .inr (.inr (.inr (.inr f36))))), (h48, zi k41 n48 (a2_ 0)), (h41, zi k41 40 (a2_ 2)), (h21, .inr (3, mX3 h6 h22 h13 h31 h32 h33 h34 h35 v21)), (h17, zi k17 40 f17), (h15, zi k15 40 f15), (h16, zi k16 40 f16), (h35, zi k35 300 f35), (h34, zi k34 832 f34), (h19, zi k19 160 f19), (h39, zi k39 40 (a2_ 1)), (h31, .inl (k31, 400, .inr (.inr (.inr (.inr f31))))), (h1, .inr (0, mX0 h2 h3 h4 h5 v1)), (h4, zi k4 120 f4)] ++ pl2) H1 := hP.part [0, 16, 1, 2, 3, 4, 5, 6, 7, 8, 9, 10, 11, 12, 13, 14, 15] rfl
    have hD : va_D A ([(h0, .inr (1, mX1 h1 h6 h13 h21 h36 h37 h39 h40 h41 h42 h43 h44 h45 h46 h47 h48 v0)), (h13, .inr (7, mX7 h14 h15 h16 h17 h18 h19 h20 v13)), (h14, zi k14 40 f14), (h36, .inl (k36, 40, .inr (.inr (.inr (.inr f36))))), (h48, zi k41 n48 (a2_ 0)), (h41, zi k41 40 (a2_ 2)), (h21, .inr (3, mX3 h6 h22 h13 h31 h32 h33 h34 h35 v21)), (h17, zi k17 40 f17), (h15, zi k15 40 f15), (h16, zi k16 40 f16), (h35, zi k35 300 f35), (h34, zi k34 832 f34), (h19, zi k19 160 f19), (h39, zi k39 40 (a2_ 1)), (h31, .inl (k31, 400, .inr (.inr (.inr (.inr f31))))), (h1, .inr (0, mX0 h2 h3 h4 h5 v1)), (h4, zi k4 120 f4)] ++ pl2) := hD.part [0, 16, 1, 2, 3, 4, 5, 6, 7, 8, 9, 10, 11, 12, 13, 14, 15] (by decide) rfl
    generalize H1 = H at hP hS ⊢
    clear hz1
    refine lv_icmp_ge (tgt := 84) hx hb dX1_matchLeaves_10 (by decide) (fun c_ => ?_) (fun c_ => ?_)
    · skip
      have b_ := zT_ge rfl rfl c_
      refine W.widen (k := 0) (n := 0) (by decide) (by decide) ?_
      have hpost : True := trivial
      have hP9 : va_P (dC, dI) vwCl ([(h0, .inr (1, mX1 h1 h6 h13 h21 h36 h37 h39 h40 h41 h42 h43 h44 h45 h46 h47 h48 v0)), (h13, .inr (7, mX7 h14 h15 h16 h17 h18 h19 h20 v13)), (h14, zi k14 40 f14), (h36, .inl (k36, 40, .inr (.inr (.inr (.inr f36))))), (h48, zi k41 n48 (a2_ 0)), (h41, zi k41 40 (a2_ 2)), (h21, .inr (3, mX3 h6 h22 h13 h31 h32 h33 h34 h35 v21)), (h17, zi k17 40 f17), (h15, zi k15 40 f15), (h16, zi k16 40 f16), (h35, zi k35 300 f35), (h34, zi k34 832 f34), (h19, zi k19 160 f19), (h39, zi k39 40 (a2_ 1)), (h31, .inl (k31, 400, .inr (.inr (.inr (.inr f31))))), (h1, .inr (0, mX0 h2 h3 h4 h5 v1)), (h4, zi k4 120 f4)] ++ pl2) H := hP
      have hD9 : va_D A ([(h0, .inr (1, mX1 h1 h6 h13 h21 h36 h37 h39 h40 h41 h42 h43 h44 h45 h46 h47 h48 v0)), (h13, .inr (7, mX7 h14 h15 h16 h17 h18 h19 h20 v13)), (h14, zi k14 40 f14), (h36, .inl (k36, 40, .inr (.inr (.inr (.inr f36))))), (h48, zi k41 n48 (a2_ 0)), (h41, zi k41 40 (a2_ 2)), (h21, .inr (3, mX3 h6 h22 h13 h31 h32 h33 h34 h35 v21)), (h17, zi k17 40 f17), (h15, zi k15 40 f15), (h16, zi k16 40 f16), (h35, zi k35 300 f35), (h34, zi k34 832 f34), (h19, zi k19 160 f19), (h39, zi k39 40 (a2_ 1)), (h31, .inl (k31, 400, .inr (.inr (.inr (.inr f31))))), (h1, .inr (0, mX0 h2 h3 h4 h5 v1)), (h4, zi k4 120 f4)] ++ pl2) := hD
      have hB0 : zRd h22 f31 pl2 := by assumption
      have hB1 : zPs k41 f36 pl2 := by assumption
      have hB2 : zOt pl0 pl2 := by first | assumption | exact zOt_rf
      exact W.vret hx hb hr (fun t ht hW => ⟨⟨(fun _ => 0), rfl, hpost, (fun _ => 0), (fun i => ([(a2_ 0), (a2_ 2), (a2_ 1)] : List (Nat → Int32)).getD i (fun _ => 0)), (fun _ => (fun _ => 0)), (fun _ => (fun _ => none)), pl2, ha2_0, hB0, hB1, hB2, by rw [ht]; exact hP9, va_K.moved hW.alike hK, hD9⟩, hS.F ht⟩) hS.2.2 dX1_matchLeaves_84
    · skip
      have b_ := zF_ge rfl rfl c_
      refine lv_aload_n hx hb dX1_matchLeaves_13 rfl (lv_at hl 0 rfl) ?_
      refine va_get (D := (dC, dI)) (ci := 1) (v := .ref h13) (C := RX1) (T := TX1) (N := 17) hx hb hG zuX1 hown hK hP 0 rfl rfl 2 (by decide) (hG _ zv506) (fun _ h9 => h9) rfl dX1_matchLeaves_14 ?_
      refine lv_iload_n hx hb dX1_matchLeaves_17 rfl (lv_at hl 2 rfl) ?_
      have hPc := hP.sub (ws' := [(h13, .inr (7, mX7 h14 h15 h16 h17 h18 h19 h20 v13)), (h14, zi k14 40 f14)]) [1, 2] rfl
      have hDc := hD.sub (ws' := [(h13, .inr (7, mX7 h14 h15 h16 h17 h18 h19 h20 v13)), (h14, zi k14 40 f14)]) [1, 2] (by decide) rfl
      have hKc := hK.sub (tys' := [(k14, .int)]) [0] rfl
      have hFc := va_free (wc := [(h13, .inr (7, mX7 h14 h15 h16 h17 h18 h19 h20 v13)), (h14, zi k14 40 f14)]) hD hS hA [1, 2] rfl
      refine va_calli (va_runV (As := [.int (u2_ 0)]) (rest := []) ⟨hx, hb, hml, hown, hG⟩ (sX7_kindOf_0 l dC dI adK adV h13 h14 h15 h16 h17 h18 h19 h20 k14 H.size v13 f14 (u2_ 0) hv13) (cwV 1 hG (zgV zv1236 zv1185 zv1186 zv136 zv1187) rfl rfl rfl (by decide +kernel) ⟨Nat.le_of_ble_eq_true rfl, Nat.le_of_ble_eq_true rfl⟩) ⟨zPc_blind, va_recv hKc hPc (ci := 7) (q0 := 0) rfl rfl, zPc_pre hPc hKc hDc hE hS hFc hZ⟩ rfl rfl hl.1 rfl (lv_room (Nat.le_of_ble_eq_true rfl)) dX1_matchLeaves_18 ⟨Nat.le_of_ble_eq_true rfl, Nat.le_of_ble_eq_true rfl⟩) hS (fun q _ h => hFc q h) hFc (fun r18_ u18_ t H1 locs ht hvm hw hB hz1 hk1 hS => ?_)
      obtain ⟨w18_, a18_, b18_, hP1, hK1, hD1⟩ := hB
      rw [ht] at hP1
      obtain ⟨hP, hD⟩ := va_joinQ (wr := [(h0, .inr (1, mX1 h1 h6 h13 h21 h36 h37 h39 h40 h41 h42 h43 h44 h45 h46 h47 h48 v0)), (h36, .inl (k36, 40, .inr (.inr (.inr (.inr f36))))), (h48, zi k41 n48 (a2_ 0)), (h41, zi k41 40 (a2_ 2)), (h21, .inr (3, mX3 h6 h22 h13 h31 h32 h33 h34 h35 v21)), (h17, zi k17 40 f17), (h15, zi k15 40 f15), (h16, zi k16 40 f16), (h35, zi k35 300 f35), (h34, zi k34 832 f34), (h19, zi k19 160 f19), (h39, zi k39 40 (a2_ 1)), (h31, .inl (k31, 400, .inr (.inr (.inr (.inr f31))))), (h1, .inr (0, mX0 h2 h3 h4 h5 v1)), (h4, zi k4 120 f4)]) (w1 := [(h13, .inr (7, mX7 h14 h15 h16 h17 h18 h19 h20 v13)), (h14, zi k14 40 f14)]) hP hD [1, 2] [0, 3, 4, 5, 6, 7, 8, 9, 10, 11, 12, 13, 14, 15, 16] rfl rfl (by decide) (by decide) hk1 hFc hP1 hD1
      have hP : va_P (dC, dI) vwCl ([(h0, .inr (1, mX1 h1 h6 h13 h21 h36 h37 h39 h40 h41 h42 h43 h44 h45 h46 h47 h48 v0)), (h13, .inr (7, mX7 h14 h15 h16 h17 h18 h19 h20 v13)), (h14, zi k14 40 f14), (h36, .inl (k36, 40, .inr (.inr (.inr (.inr f36))))), (h48, zi k41 n48 (a2_ 0)), (h41, zi k41 40 (a2_ 2)), (h21, .inr (3, mX3 h6 h22 h13 h31 h32 h33 h34 h35 v21)), (h17, zi k17 40 f17), (h15, zi k15 40 f15), (h16, zi k16 40 f16), (h35, zi k35 300 f35), (h34, zi k34 832 f34), (h19, zi k19 160 f19), (h39, zi k39 40 (a2_ 1)), (h31, .inl (k31, 400, .inr (.inr (.inr (.inr f31))))), (h1, .inr (0, mX0 h2 h3 h4 h5 v1)), (h4, zi k4 120 f4)] ++ pl2) H1 := hP.part [0, 15, 16, 1, 2, 3, 4, 5, 6, 7, 8, 9, 10, 11, 12, 13, 14] rfl
      have hD : va_D A ([(h0, .inr (1, mX1 h1 h6 h13 h21 h36 h37 h39 h40 h41 h42 h43 h44 h45 h46 h47 h48 v0)), (h13, .inr (7, mX7 h14 h15 h16 h17 h18 h19 h20 v13)), (h14, zi k14 40 f14), (h36, .inl (k36, 40, .inr (.inr (.inr (.inr f36))))), (h48, zi k41 n48 (a2_ 0)), (h41, zi k41 40 (a2_ 2)), (h21, .inr (3, mX3 h6 h22 h13 h31 h32 h33 h34 h35 v21)), (h17, zi k17 40 f17), (h15, zi k15 40 f15), (h16, zi k16 40 f16), (h35, zi k35 300 f35), (h34, zi k34 832 f34), (h19, zi k19 160 f19), (h39, zi k39 40 (a2_ 1)), (h31, .inl (k31, 400, .inr (.inr (.inr (.inr f31))))), (h1, .inr (0, mX0 h2 h3 h4 h5 v1)), (h4, zi k4 120 f4)] ++ pl2) := hD.part [0, 15, 16, 1, 2, 3, 4, 5, 6, 7, 8, 9, 10, 11, 12, 13, 14] (by decide) rfl
      generalize H1 = H at hP hS ⊢
      clear hz1
      refine lv_iconst (v := 4) hx hb dX1_matchLeaves_21 (by decide) ?_
      have b_ : -2147483648 ≤ r18_.toInt ∧ r18_.toInt ≤ 2147483647 := ⟨zlo _, zhi _⟩
      refine lv_icmp_ne (tgt := 72) hx hb dX1_matchLeaves_22 (by decide) (fun c_ => ?_) (fun c_ => ?_)
      · skip
        have b_ := zT_ne rfl zk_4 c_
        refine lv_aload_n hx hb dX1_matchLeaves_72 rfl (lv_at hl 0 rfl) ?_
        refine lv_iload_n hx hb dX1_matchLeaves_73 rfl (lv_at hl 2 rfl) ?_
        refine lv_iload_n hx hb dX1_matchLeaves_74 rfl (lv_at hl 1 rfl) ?_
        have hPc := hP.part (cx := [(h0, .inr (1, mX1 h1 h6 h13 h21 h36 h37 h39 h40 h41 h42 h43 h44 h45 h46 h47 h48 v0)), (h36, .inl (k36, 40, .inr (.inr (.inr (.inr f36))))), (h48, zi k41 n48 (a2_ 0)), (h41, zi k41 40 (a2_ 2)), (h21, .inr (3, mX3 h6 h22 h13 h31 h32 h33 h34 h35 v21)), (h13, .inr (7, mX7 h14 h15 h16 h17 h18 h19 h20 v13)), (h17, zi k17 40 f17), (h14, zi k14 40 f14), (h15, zi k15 40 f15), (h16, zi k16 40 f16), (h35, zi k35 300 f35), (h34, zi k34 832 f34), (h19, zi k19 160 f19), (h39, zi k39 40 (a2_ 1)), (h31, .inl (k31, 400, .inr (.inr (.inr (.inr f31)))))]) [0, 3, 4, 5, 6, 1, 7, 2, 8, 9, 10, 11, 12, 13, 14] rfl
        have hDc := hD.part (cx := [(h0, .inr (1, mX1 h1 h6 h13 h21 h36 h37 h39 h40 h41 h42 h43 h44 h45 h46 h47 h48 v0)), (h36, .inl (k36, 40, .inr (.inr (.inr (.inr f36))))), (h48, zi k41 n48 (a2_ 0)), (h41, zi k41 40 (a2_ 2)), (h21, .inr (3, mX3 h6 h22 h13 h31 h32 h33 h34 h35 v21)), (h13, .inr (7, mX7 h14 h15 h16 h17 h18 h19 h20 v13)), (h17, zi k17 40 f17), (h14, zi k14 40 f14), (h15, zi k15 40 f15), (h16, zi k16 40 f16), (h35, zi k35 300 f35), (h34, zi k34 832 f34), (h19, zi k19 160 f19), (h39, zi k39 40 (a2_ 1)), (h31, .inl (k31, 400, .inr (.inr (.inr (.inr f31)))))]) [0, 3, 4, 5, 6, 1, 7, 2, 8, 9, 10, 11, 12, 13, 14] (by decide) rfl
        have hKc := hK.sub (tys' := [(k36, .object RX5), (k41, .int), (k41, .int), (k17, .int), (k14, .int), (k15, .int), (k16, .int), (k35, .int), (k34, .int), (k19, .int), (k39, .boolean), (k31, .object RX8)]) [1, 2, 3, 4, 0, 5, 6, 7, 8, 9, 10, 11] rfl
        have hFc := va_freeP (cx := [(h0, .inr (1, mX1 h1 h6 h13 h21 h36 h37 h39 h40 h41 h42 h43 h44 h45 h46 h47 h48 v0)), (h36, .inl (k36, 40, .inr (.inr (.inr (.inr f36))))), (h48, zi k41 n48 (a2_ 0)), (h41, zi k41 40 (a2_ 2)), (h21, .inr (3, mX3 h6 h22 h13 h31 h32 h33 h34 h35 v21)), (h13, .inr (7, mX7 h14 h15 h16 h17 h18 h19 h20 v13)), (h17, zi k17 40 f17), (h14, zi k14 40 f14), (h15, zi k15 40 f15), (h16, zi k16 40 f16), (h35, zi k35 300 f35), (h34, zi k34 832 f34), (h19, zi k19 160 f19), (h39, zi k39 40 (a2_ 1)), (h31, .inl (k31, 400, .inr (.inr (.inr (.inr f31)))))]) hD hS hA [0, 3, 4, 5, 6, 1, 7, 2, 8, 9, 10, 11, 12, 13, 14] rfl
        refine va_callv (va_runV (As := [.int (u2_ 0), .int x1]) (rest := []) ⟨hx, hb, hml, hown, hG⟩ (sX1_matchPlaces_0 l dC dI adK adV h0 h36 h48 h41 h21 h13 h17 h14 h15 h16 h35 h34 h19 h39 h31 h1 h6 h37 h40 h42 h43 h44 h45 h46 h47 h22 h32 h33 h18 h20 k36 n48 k41 k17 k14 k15 k16 k35 k34 k19 k39 k31 pl2 H.size v0 f36 (a2_ 0) (a2_ 2) v21 v13 f17 f14 f15 f16 f35 f34 f19 (a2_ 1) f31 (u2_ 0) x1 hv0 ha2_0 hn48 hv21 hv13 hf35 (show (0 : Int) ≤ ((u2_ 0) : Int32).toInt ∧ ((u2_ 0) : Int32).toInt ≤ (39 : Int) from (by first | with_reducible assumption | exact ⟨by omega, by omega⟩)) (show (0 : Int) ≤ (x1 : Int32).toInt ∧ (x1 : Int32).toInt ≤ (119 : Int) from (by first | with_reducible assumption | exact ⟨by omega, by omega⟩)) (show zRd h22 f31 pl2 from by first | with_reducible assumption | assumption) (show zPs k41 f36 pl2 from by first | with_reducible assumption | assumption)) (cwV 2 hG (zgV zv1243 zv1245 zv36 zv138 zv1246) rfl rfl rfl (by decide +kernel) ⟨Nat.le_of_ble_eq_true rfl, Nat.le_of_ble_eq_true rfl⟩) ⟨zPc_blind, va_recv hKc hPc (ci := 1) (q0 := 0) rfl rfl, zPc_pre hPc hKc hDc hE hS hFc hZ⟩ rfl rfl hl.1 rfl (lv_room (Nat.le_of_ble_eq_true rfl)) dX1_matchLeaves_75 ⟨Nat.le_of_ble_eq_true rfl, Nat.le_of_ble_eq_true rfl⟩) hS (fun q _ h => hFc q h) hFc (fun u75_ t H1 locs ht hvm hw hB hz1 hk1 hS => ?_)
        obtain ⟨w75_, a75_, b75_, q75_, pl75_, ha75_0, hB75_0, hB75_1, hB75_2, hP1, hK1, hD1⟩ := hB
        have hB75_0 : zRd h22 f31 pl75_ := hB75_0
        have hB75_1 : zPs k41 f36 pl75_ := hB75_1
        have hB75_2 : zOt pl2 pl75_ := hB75_2
        rw [ht] at hP1
        obtain ⟨hP, hD⟩ := va_joinP (wr := [(h1, .inr (0, mX0 h2 h3 h4 h5 v1)), (h4, zi k4 120 f4)]) (rx := [(h0, .inr (1, mX1 h1 h6 h13 h21 h36 h37 h39 h40 h41 h42 h43 h44 h45 h46 h47 h48 v0)), (h36, .inl (k36, 40, .inr (.inr (.inr (.inr f36))))), (h48, zi k41 n48 (a75_ 0)), (h41, zi k41 40 (a75_ 1)), (h21, .inr (3, mX3 h6 h22 h13 h31 h32 h33 h34 h35 v21)), (h13, .inr (7, mX7 h14 h15 h16 h17 h18 h19 h20 v13)), (h17, zi k17 40 f17), (h14, zi k14 40 f14), (h15, zi k15 40 f15), (h16, zi k16 40 f16), (h35, zi k35 300 f35), (h34, zi k34 832 f34), (h19, zi k19 160 f19), (h39, zi k39 40 (a75_ 2)), (h31, .inl (k31, 400, .inr (.inr (.inr (.inr f31)))))]) hP hD [0, 3, 4, 5, 6, 1, 7, 2, 8, 9, 10, 11, 12, 13, 14] [15, 16] rfl rfl (by decide) (by decide) hk1 hFc hP1 hD1
        have hP : va_P (dC, dI) vwCl ([(h0, .inr (1, mX1 h1 h6 h13 h21 h36 h37 h39 h40 h41 h42 h43 h44 h45 h46 h47 h48 v0)), (h13, .inr (7, mX7 h14 h15 h16 h17 h18 h19 h20 v13)), (h14, zi k14 40 f14), (h36, .inl (k36, 40, .inr (.inr (.inr (.inr f36))))), (h48, zi k41 n48 (a75_ 0)), (h41, zi k41 40 (a75_ 1)), (h21, .inr (3, mX3 h6 h22 h13 h31 h32 h33 h34 h35 v21)), (h17, zi k17 40 f17), (h15, zi k15 40 f15), (h16, zi k16 40 f16), (h35, zi k35 300 f35), (h34, zi k34 832 f34), (h19, zi k19 160 f19), (h39, zi k39 40 (a75_ 2)), (h31, .inl (k31, 400, .inr (.inr (.inr (.inr f31))))), (h1, .inr (0, mX0 h2 h3 h4 h5 v1)), (h4, zi k4 120 f4)] ++ pl75_) H1 := hP.part [2, 7, 9, 3, 4, 5, 6, 8, 10, 11, 12, 13, 14, 15, 16, 0, 1] rfl
        have hD : va_D A ([(h0, .inr (1, mX1 h1 h6 h13 h21 h36 h37 h39 h40 h41 h42 h43 h44 h45 h46 h47 h48 v0)), (h13, .inr (7, mX7 h14 h15 h16 h17 h18 h19 h20 v13)), (h14, zi k14 40 f14), (h36, .inl (k36, 40, .inr (.inr (.inr (.inr f36))))), (h48, zi k41 n48 (a75_ 0)), (h41, zi k41 40 (a75_ 1)), (h21, .inr (3, mX3 h6 h22 h13 h31 h32 h33 h34 h35 v21)), (h17, zi k17 40 f17), (h15, zi k15 40 f15), (h16, zi k16 40 f16), (h35, zi k35 300 f35), (h34, zi k34 832 f34), (h19, zi k19 160 f19), (h39, zi k39 40 (a75_ 2)), (h31, .inl (k31, 400, .inr (.inr (.inr (.inr f31))))), (h1, .inr (0, mX0 h2 h3 h4 h5 v1)), (h4, zi k4 120 f4)] ++ pl75_) := hD.part [2, 7, 9, 3, 4, 5, 6, 8, 10, 11, 12, 13, 14, 15, 16, 0, 1] (by decide) rfl
        generalize H1 = H at hP hS ⊢
        clear hz1
        have hot_ : zOt pl0 pl75_ := zOt_tr (show zOt pl0 pl2 from by first | assumption | exact zOt_rf) hB75_2
        obtain ⟨z78, e_z78⟩ : ∃ z : Int32, z = (u2_ 0) + Int32.ofInt 1 := ⟨_, rfl⟩
        have b_ := zadd (x := (u2_ 0)) (y := Int32.ofInt 1) rfl (show (Int32.ofInt 1).toInt = 1 from by decide) e_z78 (by omega) (by omega)
        refine lv_iinc (v := z78) (lv' := [(2, .int z78), (0, .ref h0), (1, .int x1)]) hx hb dX1_matchLeaves_78 hl (k := 2) rfl e_z78.symm (by decide) rfl (fun ls hl => ?_)
        refine lv_goto (tgt := 2) hx hb dX1_matchLeaves_81 (by decide) ?_
        have hc : va_P (dC, dI) vwCl ([(h0, .inr (1, mX1 h1 h6 h13 h21 h36 h37 h39 h40 h41 h42 h43 h44 h45 h46 h47 h48 v0)), (h13, .inr (7, mX7 h14 h15 h16 h17 h18 h19 h20 v13)), (h14, zi k14 40 f14), (h36, .inl (k36, 40, .inr (.inr (.inr (.inr f36))))), (h48, zi k41 n48 (a75_ 0)), (h41, zi k41 40 (a75_ 1)), (h21, .inr (3, mX3 h6 h22 h13 h31 h32 h33 h34 h35 v21)), (h17, zi k17 40 f17), (h15, zi k15 40 f15), (h16, zi k16 40 f16), (h35, zi k35 300 f35), (h34, zi k34 832 f34), (h19, zi k19 160 f19), (h39, zi k39 40 (a75_ 2)), (h31, .inl (k31, 400, .inr (.inr (.inr (.inr f31))))), (h1, .inr (0, mX0 h2 h3 h4 h5 v1)), (h4, zi k4 120 f4)] ++ pl75_) H ∧ va_D A ([(h0, .inr (1, mX1 h1 h6 h13 h21 h36 h37 h39 h40 h41 h42 h43 h44 h45 h46 h47 h48 v0)), (h13, .inr (7, mX7 h14 h15 h16 h17 h18 h19 h20 v13)), (h14, zi k14 40 f14), (h36, .inl (k36, 40, .inr (.inr (.inr (.inr f36))))), (h48, zi k41 n48 (a75_ 0)), (h41, zi k41 40 (a75_ 1)), (h21, .inr (3, mX3 h6 h22 h13 h31 h32 h33 h34 h35 v21)), (h17, zi k17 40 f17), (h15, zi k15 40 f15), (h16, zi k16 40 f16), (h35, zi k35 300 f35), (h34, zi k34 832 f34), (h19, zi k19 160 f19), (h39, zi k39 40 (a75_ 2)), (h31, .inl (k31, 400, .inr (.inr (.inr (.inr f31))))), (h1, .inr (0, mX0 h2 h3 h4 h5 v1)), (h4, zi k4 120 f4)] ++ pl75_) ∧ va_S A s.heap H locs ∧ lv_has ls 4 [(0, .ref h0), (1, .int x1), (2, .int z78)] ∧ zA 0 4914 (a75_ 0) ∧ (0 ≤ z78.toInt ∧ z78.toInt ≤ 40) ∧ (zRd h22 f31 pl75_) ∧ (zPs k41 f36 pl75_) ∧ (zOt pl0 pl75_) := ⟨hP, hD, hS, lv_sub hl [1, 2, 0] rfl, ha75_0, (by first | with_reducible assumption | exact ⟨by omega, by omega⟩), by assumption, by assumption, by first | assumption | exact zOt_rf⟩
        exact hJ2 H locs ls (fun i => ([z78] : List (Int32)).getD i 0) (fun _ => 0) (fun i => ([(a75_ 0), (a75_ 2), (a75_ 1)] : List (Nat → Int32)).getD i (fun _ => 0)) (fun _ => (fun _ => 0)) ⟨(fun _ => (fun _ => none)), pl75_, hc⟩ (show (40 - z78.toInt).toNat < (40 - (u2_ 0).toInt).toNat from by omega)
      · skip
        have b_ := zF_ne rfl zk_4 c_
        refine lv_aload_n hx hb dX1_matchLeaves_25 rfl (lv_at hl 0 rfl) ?_
        refine va_get (D := (dC, dI)) (ci := 1) (v := .ref h1) (C := RX1) (T := TX1) (N := 17) hx hb hG zuX1 hown hK hP 0 rfl rfl 0 (by decide) (hG _ zv504) (fun _ h9 => h9) rfl dX1_matchLeaves_26 ?_
        refine lv_iload_n hx hb dX1_matchLeaves_29 rfl (lv_at hl 1 rfl) ?_
        have hPc := hP.sub (ws' := [(h1, .inr (0, mX0 h2 h3 h4 h5 v1)), (h4, zi k4 120 f4)]) [15, 16] rfl
        have hDc := hD.sub (ws' := [(h1, .inr (0, mX0 h2 h3 h4 h5 v1)), (h4, zi k4 120 f4)]) [15, 16] (by decide) rfl
        have hKc := hK.sub (tys' := [(k4, .int)]) [12] rfl
        have hFc := va_free (wc := [(h1, .inr (0, mX0 h2 h3 h4 h5 v1)), (h4, zi k4 120 f4)]) hD hS hA [15, 16] rfl
        refine va_calli (va_runV (As := [.int x1]) (rest := []) ⟨hx, hb, hml, hown, hG⟩ (sX0_markOf_0 l dC dI adK adV h1 h4 h2 h3 h5 k4 H.size v1 f4 x1 hv1) (cwV 1 hG (zgV zv1237 zv1238 zv1239 zv132 zv1240) rfl rfl rfl (by decide +kernel) ⟨Nat.le_of_ble_eq_true rfl, Nat.le_of_ble_eq_true rfl⟩) ⟨zPc_blind, va_recv hKc hPc (ci := 0) (q0 := 0) rfl rfl, zPc_pre hPc hKc hDc hE hS hFc hZ⟩ rfl rfl hl.1 rfl (lv_room (Nat.le_of_ble_eq_true rfl)) dX1_matchLeaves_30 ⟨Nat.le_of_ble_eq_true rfl, Nat.le_of_ble_eq_true rfl⟩) hS (fun q _ h => hFc q h) hFc (fun r30_ u30_ t H1 locs ht hvm hw hB hz1 hk1 hS => ?_)
        obtain ⟨w30_, a30_, b30_, hP1, hK1, hD1⟩ := hB
        rw [ht] at hP1
        obtain ⟨hP, hD⟩ := va_joinQ (wr := [(h0, .inr (1, mX1 h1 h6 h13 h21 h36 h37 h39 h40 h41 h42 h43 h44 h45 h46 h47 h48 v0)), (h13, .inr (7, mX7 h14 h15 h16 h17 h18 h19 h20 v13)), (h14, zi k14 40 f14), (h36, .inl (k36, 40, .inr (.inr (.inr (.inr f36))))), (h48, zi k41 n48 (a2_ 0)), (h41, zi k41 40 (a2_ 2)), (h21, .inr (3, mX3 h6 h22 h13 h31 h32 h33 h34 h35 v21)), (h17, zi k17 40 f17), (h15, zi k15 40 f15), (h16, zi k16 40 f16), (h35, zi k35 300 f35), (h34, zi k34 832 f34), (h19, zi k19 160 f19), (h39, zi k39 40 (a2_ 1)), (h31, .inl (k31, 400, .inr (.inr (.inr (.inr f31)))))]) (w1 := [(h1, .inr (0, mX0 h2 h3 h4 h5 v1)), (h4, zi k4 120 f4)]) hP hD [15, 16] [0, 1, 2, 3, 4, 5, 6, 7, 8, 9, 10, 11, 12, 13, 14] rfl rfl (by decide) (by decide) hk1 hFc hP1 hD1
        have hP : va_P (dC, dI) vwCl ([(h0, .inr (1, mX1 h1 h6 h13 h21 h36 h37 h39 h40 h41 h42 h43 h44 h45 h46 h47 h48 v0)), (h13, .inr (7, mX7 h14 h15 h16 h17 h18 h19 h20 v13)), (h14, zi k14 40 f14), (h36, .inl (k36, 40, .inr (.inr (.inr (.inr f36))))), (h48, zi k41 n48 (a2_ 0)), (h41, zi k41 40 (a2_ 2)), (h21, .inr (3, mX3 h6 h22 h13 h31 h32 h33 h34 h35 v21)), (h17, zi k17 40 f17), (h15, zi k15 40 f15), (h16, zi k16 40 f16), (h35, zi k35 300 f35), (h34, zi k34 832 f34), (h19, zi k19 160 f19), (h39, zi k39 40 (a2_ 1)), (h31, .inl (k31, 400, .inr (.inr (.inr (.inr f31))))), (h1, .inr (0, mX0 h2 h3 h4 h5 v1)), (h4, zi k4 120 f4)] ++ pl2) H1 := hP.part [0, 1, 2, 3, 4, 5, 6, 7, 8, 9, 10, 11, 12, 13, 14, 15, 16] rfl
        have hD : va_D A ([(h0, .inr (1, mX1 h1 h6 h13 h21 h36 h37 h39 h40 h41 h42 h43 h44 h45 h46 h47 h48 v0)), (h13, .inr (7, mX7 h14 h15 h16 h17 h18 h19 h20 v13)), (h14, zi k14 40 f14), (h36, .inl (k36, 40, .inr (.inr (.inr (.inr f36))))), (h48, zi k41 n48 (a2_ 0)), (h41, zi k41 40 (a2_ 2)), (h21, .inr (3, mX3 h6 h22 h13 h31 h32 h33 h34 h35 v21)), (h17, zi k17 40 f17), (h15, zi k15 40 f15), (h16, zi k16 40 f16), (h35, zi k35 300 f35), (h34, zi k34 832 f34), (h19, zi k19 160 f19), (h39, zi k39 40 (a2_ 1)), (h31, .inl (k31, 400, .inr (.inr (.inr (.inr f31))))), (h1, .inr (0, mX0 h2 h3 h4 h5 v1)), (h4, zi k4 120 f4)] ++ pl2) := hD.part [0, 1, 2, 3, 4, 5, 6, 7, 8, 9, 10, 11, 12, 13, 14, 15, 16] (by decide) rfl
        generalize H1 = H at hP hS ⊢
        clear hz1
        refine lv_istore_n (lv' := [(3, .int r30_), (0, .ref h0), (1, .int x1), (2, .int (u2_ 0))]) hx hb dX1_matchLeaves_33 rfl hl (by decide) rfl (fun ls hl => ?_)
        refine lv_aload_n hx hb dX1_matchLeaves_34 rfl (lv_at hl 1 rfl) ?_
        refine va_get (D := (dC, dI)) (ci := 1) (v := .ref h39) (C := RX1) (T := TX1) (N := 17) hx hb hG zuX1 hown hK hP 0 rfl rfl 6 (by decide) (hG _ zv510) (fun _ h9 => h9) rfl dX1_matchLeaves_35 ?_
        refine lv_iload_n hx hb dX1_matchLeaves_38 rfl (lv_at hl 3 rfl) ?_
        refine lv_iload_n hx hb dX1_matchLeaves_39 rfl (lv_at hl 0 rfl) ?_
        refine lv_aload_n hx hb dX1_matchLeaves_40 rfl (lv_at hl 1 rfl) ?_
        refine va_get (D := (dC, dI)) (ci := 1) (v := .ref h13) (C := RX1) (T := TX1) (N := 17) hx hb hG zuX1 hown hK hP 0 rfl rfl 2 (by decide) (hG _ zv506) (fun _ h9 => h9) rfl dX1_matchLeaves_41 ?_
        refine lv_iload_n hx hb dX1_matchLeaves_44 rfl (lv_at hl 3 rfl) ?_
        have hPc := hP.sub (ws' := [(h13, .inr (7, mX7 h14 h15 h16 h17 h18 h19 h20 v13)), (h15, zi k15 40 f15)]) [1, 8] rfl
        have hDc := hD.sub (ws' := [(h13, .inr (7, mX7 h14 h15 h16 h17 h18 h19 h20 v13)), (h15, zi k15 40 f15)]) [1, 8] (by decide) rfl
        have hKc := hK.sub (tys' := [(k15, .int)]) [5] rfl
        have hFc := va_free (wc := [(h13, .inr (7, mX7 h14 h15 h16 h17 h18 h19 h20 v13)), (h15, zi k15 40 f15)]) hD hS hA [1, 8] rfl
        refine va_calli (va_runV (As := [.int (u2_ 0)]) (rest := [.int r30_, .int (u2_ 0), .ref h39]) ⟨hx, hb, hml, hown, hG⟩ (sX7_lowOf_0 l dC dI adK adV h13 h15 h14 h16 h17 h18 h19 h20 k15 H.size v13 f15 (u2_ 0) hv13) (cwV 1 hG (zgV zv1241 zv1192 zv1193 zv136 zv1194) rfl rfl rfl (by decide +kernel) ⟨Nat.le_of_ble_eq_true rfl, Nat.le_of_ble_eq_true rfl⟩) ⟨zPc_blind, va_recv hKc hPc (ci := 7) (q0 := 0) rfl rfl, zPc_pre hPc hKc hDc hE hS hFc hZ⟩ rfl rfl hl.1 rfl (lv_room (Nat.le_of_ble_eq_true rfl)) dX1_matchLeaves_45 ⟨Nat.le_of_ble_eq_true rfl, Nat.le_of_ble_eq_true rfl⟩) hS (fun q _ h => hFc q h) hFc (fun r45_ u45_ t H1 locs ht hvm hw hB hz1 hk1 hS => ?_)
        obtain ⟨w45_, a45_, b45_, hP1, hK1, hD1⟩ := hB
        rw [ht] at hP1
        obtain ⟨hP, hD⟩ := va_joinQ (wr := [(h0, .inr (1, mX1 h1 h6 h13 h21 h36 h37 h39 h40 h41 h42 h43 h44 h45 h46 h47 h48 v0)), (h14, zi k14 40 f14), (h36, .inl (k36, 40, .inr (.inr (.inr (.inr f36))))), (h48, zi k41 n48 (a2_ 0)), (h41, zi k41 40 (a2_ 2)), (h21, .inr (3, mX3 h6 h22 h13 h31 h32 h33 h34 h35 v21)), (h17, zi k17 40 f17), (h16, zi k16 40 f16), (h35, zi k35 300 f35), (h34, zi k34 832 f34), (h19, zi k19 160 f19), (h39, zi k39 40 (a2_ 1)), (h31, .inl (k31, 400, .inr (.inr (.inr (.inr f31))))), (h1, .inr (0, mX0 h2 h3 h4 h5 v1)), (h4, zi k4 120 f4)]) (w1 := [(h13, .inr (7, mX7 h14 h15 h16 h17 h18 h19 h20 v13)), (h15, zi k15 40 f15)]) hP hD [1, 8] [0, 2, 3, 4, 5, 6, 7, 9, 10, 11, 12, 13, 14, 15, 16] rfl rfl (by decide) (by decide) hk1 hFc hP1 hD1
        have hP : va_P (dC, dI) vwCl ([(h0, .inr (1, mX1 h1 h6 h13 h21 h36 h37 h39 h40 h41 h42 h43 h44 h45 h46 h47 h48 v0)), (h13, .inr (7, mX7 h14 h15 h16 h17 h18 h19 h20 v13)), (h14, zi k14 40 f14), (h36, .inl (k36, 40, .inr (.inr (.inr (.inr f36))))), (h48, zi k41 n48 (a2_ 0)), (h41, zi k41 40 (a2_ 2)), (h21, .inr (3, mX3 h6 h22 h13 h31 h32 h33 h34 h35 v21)), (h17, zi k17 40 f17), (h15, zi k15 40 f15), (h16, zi k16 40 f16), (h35, zi k35 300 f35), (h34, zi k34 832 f34), (h19, zi k19 160 f19), (h39, zi k39 40 (a2_ 1)), (h31, .inl (k31, 400, .inr (.inr (.inr (.inr f31))))), (h1, .inr (0, mX0 h2 h3 h4 h5 v1)), (h4, zi k4 120 f4)] ++ pl2) H1 := hP.part [0, 15, 1, 2, 3, 4, 5, 6, 16, 7, 8, 9, 10, 11, 12, 13, 14] rfl
        have hD : va_D A ([(h0, .inr (1, mX1 h1 h6 h13 h21 h36 h37 h39 h40 h41 h42 h43 h44 h45 h46 h47 h48 v0)), (h13, .inr (7, mX7 h14 h15 h16 h17 h18 h19 h20 v13)), (h14, zi k14 40 f14), (h36, .inl (k36, 40, .inr (.inr (.inr (.inr f36))))), (h48, zi k41 n48 (a2_ 0)), (h41, zi k41 40 (a2_ 2)), (h21, .inr (3, mX3 h6 h22 h13 h31 h32 h33 h34 h35 v21)), (h17, zi k17 40 f17), (h15, zi k15 40 f15), (h16, zi k16 40 f16), (h35, zi k35 300 f35), (h34, zi k34 832 f34), (h19, zi k19 160 f19), (h39, zi k39 40 (a2_ 1)), (h31, .inl (k31, 400, .inr (.inr (.inr (.inr f31))))), (h1, .inr (0, mX0 h2 h3 h4 h5 v1)), (h4, zi k4 120 f4)] ++ pl2) := hD.part [0, 15, 1, 2, 3, 4, 5, 6, 16, 7, 8, 9, 10, 11, 12, 13, 14] (by decide) rfl
        generalize H1 = H at hP hS ⊢
        clear hz1
        refine zcutW (fun H locs ls u68_ w68_ a68_ b68_ => ∃ (q68_ : Nat → Nat → Option Nat) (pl68 : va_W), va_P (dC, dI) vwCl ([(h0, .inr (1, mX1 h1 h6 h13 h21 h36 h37 h39 h40 h41 h42 h43 h44 h45 h46 h47 h48 v0)), (h13, .inr (7, mX7 h14 h15 h16 h17 h18 h19 h20 v13)), (h14, zi k14 40 f14), (h36, .inl (k36, 40, .inr (.inr (.inr (.inr f36))))), (h48, zi k41 n48 (a2_ 0)), (h41, zi k41 40 (a2_ 2)), (h21, .inr (3, mX3 h6 h22 h13 h31 h32 h33 h34 h35 v21)), (h17, zi k17 40 f17), (h15, zi k15 40 f15), (h16, zi k16 40 f16), (h35, zi k35 300 f35), (h34, zi k34 832 f34), (h19, zi k19 160 f19), (h39, zi k39 40 (a2_ 1)), (h31, .inl (k31, 400, .inr (.inr (.inr (.inr f31))))), (h1, .inr (0, mX0 h2 h3 h4 h5 v1)), (h4, zi k4 120 f4)] ++ pl68) H ∧ va_D A ([(h0, .inr (1, mX1 h1 h6 h13 h21 h36 h37 h39 h40 h41 h42 h43 h44 h45 h46 h47 h48 v0)), (h13, .inr (7, mX7 h14 h15 h16 h17 h18 h19 h20 v13)), (h14, zi k14 40 f14), (h36, .inl (k36, 40, .inr (.inr (.inr (.inr f36))))), (h48, zi k41 n48 (a2_ 0)), (h41, zi k41 40 (a2_ 2)), (h21, .inr (3, mX3 h6 h22 h13 h31 h32 h33 h34 h35 v21)), (h17, zi k17 40 f17), (h15, zi k15 40 f15), (h16, zi k16 40 f16), (h35, zi k35 300 f35), (h34, zi k34 832 f34), (h19, zi k19 160 f19), (h39, zi k39 40 (a2_ 1)), (h31, .inl (k31, 400, .inr (.inr (.inr (.inr f31))))), (h1, .inr (0, mX0 h2 h3 h4 h5 v1)), (h4, zi k4 120 f4)] ++ pl68) ∧ va_S A s.heap H locs ∧ lv_has ls 4 [(0, .ref h0), (1, .int x1), (2, .int (u2_ 0)), (3, .int r30_)] ∧ (0 ≤ (u68_ 0).toInt ∧ (u68_ 0).toInt ≤ 1) ∧ (zRd h22 f31 pl68) ∧ (zPs k41 f36 pl68) ∧ (zOt pl0 pl68)) (fun ls u68_ w68_ => F0 m 68 ls [.int (u68_ 0), .int (u2_ 0), .ref h39]) 0 0 ?_ (fun hJ68 => ?_)
        · skip
          intro H locs ls u68_ w68_ a68_ b68_ hc
          obtain ⟨q68_, pl68, hP, hD, hS, hl, b_, hI68_0, hI68_1, hI68_2⟩ := hc
          refine va_zast hx hb hK hP hD hS 13 10 rfl rfl (zin_lit ⟨by omega, by omega⟩) dX1_matchLeaves_68 (fun H locs hP hD hS => ?_)
          obtain ⟨f_68, e_f_68⟩ : ∃ z : Nat → Int32, z = upd (a2_ 1) ((u2_ 0) : Int32).toNatClampNeg (vp_nar .boolean (u68_ 0)) := ⟨_, rfl⟩
          have hP : va_P (dC, dI) vwCl ([(h0, .inr (1, mX1 h1 h6 h13 h21 h36 h37 h39 h40 h41 h42 h43 h44 h45 h46 h47 h48 v0)), (h13, .inr (7, mX7 h14 h15 h16 h17 h18 h19 h20 v13)), (h14, zi k14 40 f14), (h36, .inl (k36, 40, .inr (.inr (.inr (.inr f36))))), (h48, zi k41 n48 (a2_ 0)), (h41, zi k41 40 (a2_ 2)), (h21, .inr (3, mX3 h6 h22 h13 h31 h32 h33 h34 h35 v21)), (h17, zi k17 40 f17), (h15, zi k15 40 f15), (h16, zi k16 40 f16), (h35, zi k35 300 f35), (h34, zi k34 832 f34), (h19, zi k19 160 f19), (h39, zi k39 40 f_68), (h31, .inl (k31, 400, .inr (.inr (.inr (.inr f31))))), (h1, .inr (0, mX0 h2 h3 h4 h5 v1)), (h4, zi k4 120 f4)] ++ pl68) H := by rw [e_f_68]; exact hP
          have hD : va_D A ([(h0, .inr (1, mX1 h1 h6 h13 h21 h36 h37 h39 h40 h41 h42 h43 h44 h45 h46 h47 h48 v0)), (h13, .inr (7, mX7 h14 h15 h16 h17 h18 h19 h20 v13)), (h14, zi k14 40 f14), (h36, .inl (k36, 40, .inr (.inr (.inr (.inr f36))))), (h48, zi k41 n48 (a2_ 0)), (h41, zi k41 40 (a2_ 2)), (h21, .inr (3, mX3 h6 h22 h13 h31 h32 h33 h34 h35 v21)), (h17, zi k17 40 f17), (h15, zi k15 40 f15), (h16, zi k16 40 f16), (h35, zi k35 300 f35), (h34, zi k34 832 f34), (h19, zi k19 160 f19), (h39, zi k39 40 f_68), (h31, .inl (k31, 400, .inr (.inr (.inr (.inr f31))))), (h1, .inr (0, mX0 h2 h3 h4 h5 v1)), (h4, zi k4 120 f4)] ++ pl68) := by rw [e_f_68]; exact hD
          refine lv_goto (tgt := 78) hx hb dX1_matchLeaves_69 (by decide) ?_
          obtain ⟨z78, e_z78⟩ : ∃ z : Int32, z = (u2_ 0) + Int32.ofInt 1 := ⟨_, rfl⟩
          have b_ := zadd (x := (u2_ 0)) (y := Int32.ofInt 1) rfl (show (Int32.ofInt 1).toInt = 1 from by decide) e_z78 (by omega) (by omega)
          refine lv_iinc (v := z78) (lv' := [(2, .int z78), (0, .ref h0), (1, .int x1), (3, .int r30_)]) hx hb dX1_matchLeaves_78 hl (k := 2) rfl e_z78.symm (by decide) rfl (fun ls hl => ?_)
          refine lv_goto (tgt := 2) hx hb dX1_matchLeaves_81 (by decide) ?_
          have hc : va_P (dC, dI) vwCl ([(h0, .inr (1, mX1 h1 h6 h13 h21 h36 h37 h39 h40 h41 h42 h43 h44 h45 h46 h47 h48 v0)), (h13, .inr (7, mX7 h14 h15 h16 h17 h18 h19 h20 v13)), (h14, zi k14 40 f14), (h36, .inl (k36, 40, .inr (.inr (.inr (.inr f36))))), (h48, zi k41 n48 (a2_ 0)), (h41, zi k41 40 (a2_ 2)), (h21, .inr (3, mX3 h6 h22 h13 h31 h32 h33 h34 h35 v21)), (h17, zi k17 40 f17), (h15, zi k15 40 f15), (h16, zi k16 40 f16), (h35, zi k35 300 f35), (h34, zi k34 832 f34), (h19, zi k19 160 f19), (h39, zi k39 40 f_68), (h31, .inl (k31, 400, .inr (.inr (.inr (.inr f31))))), (h1, .inr (0, mX0 h2 h3 h4 h5 v1)), (h4, zi k4 120 f4)] ++ pl68) H ∧ va_D A ([(h0, .inr (1, mX1 h1 h6 h13 h21 h36 h37 h39 h40 h41 h42 h43 h44 h45 h46 h47 h48 v0)), (h13, .inr (7, mX7 h14 h15 h16 h17 h18 h19 h20 v13)), (h14, zi k14 40 f14), (h36, .inl (k36, 40, .inr (.inr (.inr (.inr f36))))), (h48, zi k41 n48 (a2_ 0)), (h41, zi k41 40 (a2_ 2)), (h21, .inr (3, mX3 h6 h22 h13 h31 h32 h33 h34 h35 v21)), (h17, zi k17 40 f17), (h15, zi k15 40 f15), (h16, zi k16 40 f16), (h35, zi k35 300 f35), (h34, zi k34 832 f34), (h19, zi k19 160 f19), (h39, zi k39 40 f_68), (h31, .inl (k31, 400, .inr (.inr (.inr (.inr f31))))), (h1, .inr (0, mX0 h2 h3 h4 h5 v1)), (h4, zi k4 120 f4)] ++ pl68) ∧ va_S A s.heap H locs ∧ lv_has ls 4 [(0, .ref h0), (1, .int x1), (2, .int z78)] ∧ zA 0 4914 (a2_ 0) ∧ (0 ≤ z78.toInt ∧ z78.toInt ≤ 40) ∧ (zRd h22 f31 pl68) ∧ (zPs k41 f36 pl68) ∧ (zOt pl0 pl68) := ⟨hP, hD, hS, lv_sub hl [1, 2, 0] rfl, ha2_0, (by first | with_reducible assumption | exact ⟨by omega, by omega⟩), by assumption, by assumption, by first | assumption | exact zOt_rf⟩
          exact hJ2 H locs ls (fun i => ([z78] : List (Int32)).getD i 0) (fun _ => 0) (fun i => ([(a2_ 0), f_68, (a2_ 2)] : List (Nat → Int32)).getD i (fun _ => 0)) (fun _ => (fun _ => 0)) ⟨(fun _ => (fun _ => none)), pl68, hc⟩ (show (40 - z78.toInt).toNat < (40 - (u2_ 0).toInt).toNat from by omega)
        · skip
          refine zcutW (fun H locs ls u67_ w67_ a67_ b67_ => ∃ (q67_ : Nat → Nat → Option Nat) (pl67 : va_W), va_P (dC, dI) vwCl ([(h0, .inr (1, mX1 h1 h6 h13 h21 h36 h37 h39 h40 h41 h42 h43 h44 h45 h46 h47 h48 v0)), (h13, .inr (7, mX7 h14 h15 h16 h17 h18 h19 h20 v13)), (h14, zi k14 40 f14), (h36, .inl (k36, 40, .inr (.inr (.inr (.inr f36))))), (h48, zi k41 n48 (a2_ 0)), (h41, zi k41 40 (a2_ 2)), (h21, .inr (3, mX3 h6 h22 h13 h31 h32 h33 h34 h35 v21)), (h17, zi k17 40 f17), (h15, zi k15 40 f15), (h16, zi k16 40 f16), (h35, zi k35 300 f35), (h34, zi k34 832 f34), (h19, zi k19 160 f19), (h39, zi k39 40 (a2_ 1)), (h31, .inl (k31, 400, .inr (.inr (.inr (.inr f31))))), (h1, .inr (0, mX0 h2 h3 h4 h5 v1)), (h4, zi k4 120 f4)] ++ pl67) H ∧ va_D A ([(h0, .inr (1, mX1 h1 h6 h13 h21 h36 h37 h39 h40 h41 h42 h43 h44 h45 h46 h47 h48 v0)), (h13, .inr (7, mX7 h14 h15 h16 h17 h18 h19 h20 v13)), (h14, zi k14 40 f14), (h36, .inl (k36, 40, .inr (.inr (.inr (.inr f36))))), (h48, zi k41 n48 (a2_ 0)), (h41, zi k41 40 (a2_ 2)), (h21, .inr (3, mX3 h6 h22 h13 h31 h32 h33 h34 h35 v21)), (h17, zi k17 40 f17), (h15, zi k15 40 f15), (h16, zi k16 40 f16), (h35, zi k35 300 f35), (h34, zi k34 832 f34), (h19, zi k19 160 f19), (h39, zi k39 40 (a2_ 1)), (h31, .inl (k31, 400, .inr (.inr (.inr (.inr f31))))), (h1, .inr (0, mX0 h2 h3 h4 h5 v1)), (h4, zi k4 120 f4)] ++ pl67) ∧ va_S A s.heap H locs ∧ lv_has ls 4 [(0, .ref h0), (1, .int x1), (2, .int (u2_ 0)), (3, .int r30_)] ∧ (zRd h22 f31 pl67) ∧ (zPs k41 f36 pl67) ∧ (zOt pl0 pl67)) (fun ls u67_ w67_ => F0 m 67 ls [.int (u2_ 0), .ref h39]) 0 0 ?_ (fun hJ67 => ?_)
          · skip
            intro H locs ls u67_ w67_ a67_ b67_ hc
            obtain ⟨q67_, pl67, hP, hD, hS, hl, hI67_0, hI67_1, hI67_2⟩ := hc
            refine lv_iconst (v := 0) hx hb dX1_matchLeaves_67 (by decide) ?_
            have hc : va_P (dC, dI) vwCl ([(h0, .inr (1, mX1 h1 h6 h13 h21 h36 h37 h39 h40 h41 h42 h43 h44 h45 h46 h47 h48 v0)), (h13, .inr (7, mX7 h14 h15 h16 h17 h18 h19 h20 v13)), (h14, zi k14 40 f14), (h36, .inl (k36, 40, .inr (.inr (.inr (.inr f36))))), (h48, zi k41 n48 (a2_ 0)), (h41, zi k41 40 (a2_ 2)), (h21, .inr (3, mX3 h6 h22 h13 h31 h32 h33 h34 h35 v21)), (h17, zi k17 40 f17), (h15, zi k15 40 f15), (h16, zi k16 40 f16), (h35, zi k35 300 f35), (h34, zi k34 832 f34), (h19, zi k19 160 f19), (h39, zi k39 40 (a2_ 1)), (h31, .inl (k31, 400, .inr (.inr (.inr (.inr f31))))), (h1, .inr (0, mX0 h2 h3 h4 h5 v1)), (h4, zi k4 120 f4)] ++ pl67) H ∧ va_D A ([(h0, .inr (1, mX1 h1 h6 h13 h21 h36 h37 h39 h40 h41 h42 h43 h44 h45 h46 h47 h48 v0)), (h13, .inr (7, mX7 h14 h15 h16 h17 h18 h19 h20 v13)), (h14, zi k14 40 f14), (h36, .inl (k36, 40, .inr (.inr (.inr (.inr f36))))), (h48, zi k41 n48 (a2_ 0)), (h41, zi k41 40 (a2_ 2)), (h21, .inr (3, mX3 h6 h22 h13 h31 h32 h33 h34 h35 v21)), (h17, zi k17 40 f17), (h15, zi k15 40 f15), (h16, zi k16 40 f16), (h35, zi k35 300 f35), (h34, zi k34 832 f34), (h19, zi k19 160 f19), (h39, zi k39 40 (a2_ 1)), (h31, .inl (k31, 400, .inr (.inr (.inr (.inr f31))))), (h1, .inr (0, mX0 h2 h3 h4 h5 v1)), (h4, zi k4 120 f4)] ++ pl67) ∧ va_S A s.heap H locs ∧ lv_has ls 4 [(0, .ref h0), (1, .int x1), (2, .int (u2_ 0)), (3, .int r30_)] ∧ (0 ≤ (0 : Int32).toInt ∧ (0 : Int32).toInt ≤ 1) ∧ (zRd h22 f31 pl67) ∧ (zPs k41 f36 pl67) ∧ (zOt pl0 pl67) := ⟨hP, hD, hS, lv_sub hl [0, 1, 2, 3] rfl, (by first | with_reducible assumption | exact ⟨by omega, by omega⟩), by assumption, by assumption, by first | assumption | exact zOt_rf⟩
            exact hJ68 H locs ls (fun i => ([0] : List (Int32)).getD i 0) (fun _ => 0) (fun _ => (fun _ => 0)) (fun _ => (fun _ => 0)) ⟨(fun _ => (fun _ => none)), pl67, hc⟩
          · skip
            have b_ : -2147483648 ≤ r30_.toInt ∧ r30_.toInt ≤ 2147483647 := ⟨zlo _, zhi _⟩
            have b_ : -2147483648 ≤ r45_.toInt ∧ r45_.toInt ≤ 2147483647 := ⟨zlo _, zhi _⟩
            refine lv_icmp_lt (tgt := 67) hx hb dX1_matchLeaves_48 (by decide) (fun c_ => ?_) (fun c_ => ?_)
            · skip
              have b_ := zT_lt rfl rfl c_
              have hc : va_P (dC, dI) vwCl ([(h0, .inr (1, mX1 h1 h6 h13 h21 h36 h37 h39 h40 h41 h42 h43 h44 h45 h46 h47 h48 v0)), (h13, .inr (7, mX7 h14 h15 h16 h17 h18 h19 h20 v13)), (h14, zi k14 40 f14), (h36, .inl (k36, 40, .inr (.inr (.inr (.inr f36))))), (h48, zi k41 n48 (a2_ 0)), (h41, zi k41 40 (a2_ 2)), (h21, .inr (3, mX3 h6 h22 h13 h31 h32 h33 h34 h35 v21)), (h17, zi k17 40 f17), (h15, zi k15 40 f15), (h16, zi k16 40 f16), (h35, zi k35 300 f35), (h34, zi k34 832 f34), (h19, zi k19 160 f19), (h39, zi k39 40 (a2_ 1)), (h31, .inl (k31, 400, .inr (.inr (.inr (.inr f31))))), (h1, .inr (0, mX0 h2 h3 h4 h5 v1)), (h4, zi k4 120 f4)] ++ pl2) H ∧ va_D A ([(h0, .inr (1, mX1 h1 h6 h13 h21 h36 h37 h39 h40 h41 h42 h43 h44 h45 h46 h47 h48 v0)), (h13, .inr (7, mX7 h14 h15 h16 h17 h18 h19 h20 v13)), (h14, zi k14 40 f14), (h36, .inl (k36, 40, .inr (.inr (.inr (.inr f36))))), (h48, zi k41 n48 (a2_ 0)), (h41, zi k41 40 (a2_ 2)), (h21, .inr (3, mX3 h6 h22 h13 h31 h32 h33 h34 h35 v21)), (h17, zi k17 40 f17), (h15, zi k15 40 f15), (h16, zi k16 40 f16), (h35, zi k35 300 f35), (h34, zi k34 832 f34), (h19, zi k19 160 f19), (h39, zi k39 40 (a2_ 1)), (h31, .inl (k31, 400, .inr (.inr (.inr (.inr f31))))), (h1, .inr (0, mX0 h2 h3 h4 h5 v1)), (h4, zi k4 120 f4)] ++ pl2) ∧ va_S A s.heap H locs ∧ lv_has ls 4 [(0, .ref h0), (1, .int x1), (2, .int (u2_ 0)), (3, .int r30_)] ∧ (zRd h22 f31 pl2) ∧ (zPs k41 f36 pl2) ∧ (zOt pl0 pl2) := ⟨hP, hD, hS, lv_sub hl [1, 2, 3, 0] rfl, by assumption, by assumption, by first | assumption | exact zOt_rf⟩
              exact hJ67 H locs ls (fun _ => 0) (fun _ => 0) (fun _ => (fun _ => 0)) (fun _ => (fun _ => 0)) ⟨(fun _ => (fun _ => none)), pl2, hc⟩
            · skip
              have b_ := zF_lt rfl rfl c_
              refine lv_iload_n hx hb dX1_matchLeaves_51 rfl (lv_at hl 0 rfl) ?_
              refine lv_aload_n hx hb dX1_matchLeaves_52 rfl (lv_at hl 1 rfl) ?_
              refine va_get (D := (dC, dI)) (ci := 1) (v := .ref h13) (C := RX1) (T := TX1) (N := 17) hx hb hG zuX1 hown hK hP 0 rfl rfl 2 (by decide) (hG _ zv506) (fun _ h9 => h9) rfl dX1_matchLeaves_53 ?_
              refine lv_iload_n hx hb dX1_matchLeaves_56 rfl (lv_at hl 3 rfl) ?_
              have hPc := hP.sub (ws' := [(h13, .inr (7, mX7 h14 h15 h16 h17 h18 h19 h20 v13)), (h16, zi k16 40 f16)]) [1, 9] rfl
              have hDc := hD.sub (ws' := [(h13, .inr (7, mX7 h14 h15 h16 h17 h18 h19 h20 v13)), (h16, zi k16 40 f16)]) [1, 9] (by decide) rfl
              have hKc := hK.sub (tys' := [(k16, .int)]) [6] rfl
              have hFc := va_free (wc := [(h13, .inr (7, mX7 h14 h15 h16 h17 h18 h19 h20 v13)), (h16, zi k16 40 f16)]) hD hS hA [1, 9] rfl
              refine va_calli (va_runV (As := [.int (u2_ 0)]) (rest := [.int r30_, .int (u2_ 0), .ref h39]) ⟨hx, hb, hml, hown, hG⟩ (sX7_highOf_0 l dC dI adK adV h13 h16 h14 h15 h17 h18 h19 h20 k16 H.size v13 f16 (u2_ 0) hv13) (cwV 1 hG (zgV zv1242 zv1196 zv1197 zv136 zv1198) rfl rfl rfl (by decide +kernel) ⟨Nat.le_of_ble_eq_true rfl, Nat.le_of_ble_eq_true rfl⟩) ⟨zPc_blind, va_recv hKc hPc (ci := 7) (q0 := 0) rfl rfl, zPc_pre hPc hKc hDc hE hS hFc hZ⟩ rfl rfl hl.1 rfl (lv_room (Nat.le_of_ble_eq_true rfl)) dX1_matchLeaves_57 ⟨Nat.le_of_ble_eq_true rfl, Nat.le_of_ble_eq_true rfl⟩) hS (fun q _ h => hFc q h) hFc (fun r57_ u57_ t H1 locs ht hvm hw hB hz1 hk1 hS => ?_)
              obtain ⟨w57_, a57_, b57_, hP1, hK1, hD1⟩ := hB
              rw [ht] at hP1
              obtain ⟨hP, hD⟩ := va_joinQ (wr := [(h0, .inr (1, mX1 h1 h6 h13 h21 h36 h37 h39 h40 h41 h42 h43 h44 h45 h46 h47 h48 v0)), (h14, zi k14 40 f14), (h36, .inl (k36, 40, .inr (.inr (.inr (.inr f36))))), (h48, zi k41 n48 (a2_ 0)), (h41, zi k41 40 (a2_ 2)), (h21, .inr (3, mX3 h6 h22 h13 h31 h32 h33 h34 h35 v21)), (h17, zi k17 40 f17), (h15, zi k15 40 f15), (h35, zi k35 300 f35), (h34, zi k34 832 f34), (h19, zi k19 160 f19), (h39, zi k39 40 (a2_ 1)), (h31, .inl (k31, 400, .inr (.inr (.inr (.inr f31))))), (h1, .inr (0, mX0 h2 h3 h4 h5 v1)), (h4, zi k4 120 f4)]) (w1 := [(h13, .inr (7, mX7 h14 h15 h16 h17 h18 h19 h20 v13)), (h16, zi k16 40 f16)]) hP hD [1, 9] [0, 2, 3, 4, 5, 6, 7, 8, 10, 11, 12, 13, 14, 15, 16] rfl rfl (by decide) (by decide) hk1 hFc hP1 hD1
              have hP : va_P (dC, dI) vwCl ([(h0, .inr (1, mX1 h1 h6 h13 h21 h36 h37 h39 h40 h41 h42 h43 h44 h45 h46 h47 h48 v0)), (h13, .inr (7, mX7 h14 h15 h16 h17 h18 h19 h20 v13)), (h14, zi k14 40 f14), (h36, .inl (k36, 40, .inr (.inr (.inr (.inr f36))))), (h48, zi k41 n48 (a2_ 0)), (h41, zi k41 40 (a2_ 2)), (h21, .inr (3, mX3 h6 h22 h13 h31 h32 h33 h34 h35 v21)), (h17, zi k17 40 f17), (h15, zi k15 40 f15), (h16, zi k16 40 f16), (h35, zi k35 300 f35), (h34, zi k34 832 f34), (h19, zi k19 160 f19), (h39, zi k39 40 (a2_ 1)), (h31, .inl (k31, 400, .inr (.inr (.inr (.inr f31))))), (h1, .inr (0, mX0 h2 h3 h4 h5 v1)), (h4, zi k4 120 f4)] ++ pl2) H1 := hP.part [0, 15, 1, 2, 3, 4, 5, 6, 7, 16, 8, 9, 10, 11, 12, 13, 14] rfl
              have hD : va_D A ([(h0, .inr (1, mX1 h1 h6 h13 h21 h36 h37 h39 h40 h41 h42 h43 h44 h45 h46 h47 h48 v0)), (h13, .inr (7, mX7 h14 h15 h16 h17 h18 h19 h20 v13)), (h14, zi k14 40 f14), (h36, .inl (k36, 40, .inr (.inr (.inr (.inr f36))))), (h48, zi k41 n48 (a2_ 0)), (h41, zi k41 40 (a2_ 2)), (h21, .inr (3, mX3 h6 h22 h13 h31 h32 h33 h34 h35 v21)), (h17, zi k17 40 f17), (h15, zi k15 40 f15), (h16, zi k16 40 f16), (h35, zi k35 300 f35), (h34, zi k34 832 f34), (h19, zi k19 160 f19), (h39, zi k39 40 (a2_ 1)), (h31, .inl (k31, 400, .inr (.inr (.inr (.inr f31))))), (h1, .inr (0, mX0 h2 h3 h4 h5 v1)), (h4, zi k4 120 f4)] ++ pl2) := hD.part [0, 15, 1, 2, 3, 4, 5, 6, 7, 16, 8, 9, 10, 11, 12, 13, 14] (by decide) rfl
              generalize H1 = H at hP hS ⊢
              clear hz1
              have b_ : -2147483648 ≤ r57_.toInt ∧ r57_.toInt ≤ 2147483647 := ⟨zlo _, zhi _⟩
              refine lv_icmp_gt (tgt := 67) hx hb dX1_matchLeaves_60 (by decide) (fun c_ => ?_) (fun c_ => ?_)
              · skip
                have b_ := zT_gt rfl rfl c_
                have hc : va_P (dC, dI) vwCl ([(h0, .inr (1, mX1 h1 h6 h13 h21 h36 h37 h39 h40 h41 h42 h43 h44 h45 h46 h47 h48 v0)), (h13, .inr (7, mX7 h14 h15 h16 h17 h18 h19 h20 v13)), (h14, zi k14 40 f14), (h36, .inl (k36, 40, .inr (.inr (.inr (.inr f36))))), (h48, zi k41 n48 (a2_ 0)), (h41, zi k41 40 (a2_ 2)), (h21, .inr (3, mX3 h6 h22 h13 h31 h32 h33 h34 h35 v21)), (h17, zi k17 40 f17), (h15, zi k15 40 f15), (h16, zi k16 40 f16), (h35, zi k35 300 f35), (h34, zi k34 832 f34), (h19, zi k19 160 f19), (h39, zi k39 40 (a2_ 1)), (h31, .inl (k31, 400, .inr (.inr (.inr (.inr f31))))), (h1, .inr (0, mX0 h2 h3 h4 h5 v1)), (h4, zi k4 120 f4)] ++ pl2) H ∧ va_D A ([(h0, .inr (1, mX1 h1 h6 h13 h21 h36 h37 h39 h40 h41 h42 h43 h44 h45 h46 h47 h48 v0)), (h13, .inr (7, mX7 h14 h15 h16 h17 h18 h19 h20 v13)), (h14, zi k14 40 f14), (h36, .inl (k36, 40, .inr (.inr (.inr (.inr f36))))), (h48, zi k41 n48 (a2_ 0)), (h41, zi k41 40 (a2_ 2)), (h21, .inr (3, mX3 h6 h22 h13 h31 h32 h33 h34 h35 v21)), (h17, zi k17 40 f17), (h15, zi k15 40 f15), (h16, zi k16 40 f16), (h35, zi k35 300 f35), (h34, zi k34 832 f34), (h19, zi k19 160 f19), (h39, zi k39 40 (a2_ 1)), (h31, .inl (k31, 400, .inr (.inr (.inr (.inr f31))))), (h1, .inr (0, mX0 h2 h3 h4 h5 v1)), (h4, zi k4 120 f4)] ++ pl2) ∧ va_S A s.heap H locs ∧ lv_has ls 4 [(0, .ref h0), (1, .int x1), (2, .int (u2_ 0)), (3, .int r30_)] ∧ (zRd h22 f31 pl2) ∧ (zPs k41 f36 pl2) ∧ (zOt pl0 pl2) := ⟨hP, hD, hS, lv_sub hl [1, 2, 3, 0] rfl, by assumption, by assumption, by first | assumption | exact zOt_rf⟩
                exact hJ67 H locs ls (fun _ => 0) (fun _ => 0) (fun _ => (fun _ => 0)) (fun _ => (fun _ => 0)) ⟨(fun _ => (fun _ => none)), pl2, hc⟩
              · skip
                have b_ := zF_gt rfl rfl c_
                refine lv_iconst (v := 1) hx hb dX1_matchLeaves_63 (by decide) ?_
                refine lv_goto (tgt := 68) hx hb dX1_matchLeaves_64 (by decide) ?_
                have hc : va_P (dC, dI) vwCl ([(h0, .inr (1, mX1 h1 h6 h13 h21 h36 h37 h39 h40 h41 h42 h43 h44 h45 h46 h47 h48 v0)), (h13, .inr (7, mX7 h14 h15 h16 h17 h18 h19 h20 v13)), (h14, zi k14 40 f14), (h36, .inl (k36, 40, .inr (.inr (.inr (.inr f36))))), (h48, zi k41 n48 (a2_ 0)), (h41, zi k41 40 (a2_ 2)), (h21, .inr (3, mX3 h6 h22 h13 h31 h32 h33 h34 h35 v21)), (h17, zi k17 40 f17), (h15, zi k15 40 f15), (h16, zi k16 40 f16), (h35, zi k35 300 f35), (h34, zi k34 832 f34), (h19, zi k19 160 f19), (h39, zi k39 40 (a2_ 1)), (h31, .inl (k31, 400, .inr (.inr (.inr (.inr f31))))), (h1, .inr (0, mX0 h2 h3 h4 h5 v1)), (h4, zi k4 120 f4)] ++ pl2) H ∧ va_D A ([(h0, .inr (1, mX1 h1 h6 h13 h21 h36 h37 h39 h40 h41 h42 h43 h44 h45 h46 h47 h48 v0)), (h13, .inr (7, mX7 h14 h15 h16 h17 h18 h19 h20 v13)), (h14, zi k14 40 f14), (h36, .inl (k36, 40, .inr (.inr (.inr (.inr f36))))), (h48, zi k41 n48 (a2_ 0)), (h41, zi k41 40 (a2_ 2)), (h21, .inr (3, mX3 h6 h22 h13 h31 h32 h33 h34 h35 v21)), (h17, zi k17 40 f17), (h15, zi k15 40 f15), (h16, zi k16 40 f16), (h35, zi k35 300 f35), (h34, zi k34 832 f34), (h19, zi k19 160 f19), (h39, zi k39 40 (a2_ 1)), (h31, .inl (k31, 400, .inr (.inr (.inr (.inr f31))))), (h1, .inr (0, mX0 h2 h3 h4 h5 v1)), (h4, zi k4 120 f4)] ++ pl2) ∧ va_S A s.heap H locs ∧ lv_has ls 4 [(0, .ref h0), (1, .int x1), (2, .int (u2_ 0)), (3, .int r30_)] ∧ (0 ≤ (1 : Int32).toInt ∧ (1 : Int32).toInt ≤ 1) ∧ (zRd h22 f31 pl2) ∧ (zPs k41 f36 pl2) ∧ (zOt pl0 pl2) := ⟨hP, hD, hS, lv_sub hl [1, 2, 3, 0] rfl, (by first | with_reducible assumption | exact ⟨by omega, by omega⟩), by assumption, by assumption, by first | assumption | exact zOt_rf⟩
                exact hJ68 H locs ls (fun i => ([1] : List (Int32)).getD i 0) (fun _ => 0) (fun _ => (fun _ => 0)) (fun _ => (fun _ => 0)) ⟨(fun _ => (fun _ => none)), pl2, hc⟩
  · skip
    have hc : va_P (dC, dI) vwCl ([(h0, .inr (1, mX1 h1 h6 h13 h21 h36 h37 h39 h40 h41 h42 h43 h44 h45 h46 h47 h48 v0)), (h13, .inr (7, mX7 h14 h15 h16 h17 h18 h19 h20 v13)), (h14, zi k14 40 f14), (h36, .inl (k36, 40, .inr (.inr (.inr (.inr f36))))), (h48, zi k41 n48 f48), (h41, zi k41 40 f41), (h21, .inr (3, mX3 h6 h22 h13 h31 h32 h33 h34 h35 v21)), (h17, zi k17 40 f17), (h15, zi k15 40 f15), (h16, zi k16 40 f16), (h35, zi k35 300 f35), (h34, zi k34 832 f34), (h19, zi k19 160 f19), (h39, zi k39 40 f39), (h31, .inl (k31, 400, .inr (.inr (.inr (.inr f31))))), (h1, .inr (0, mX0 h2 h3 h4 h5 v1)), (h4, zi k4 120 f4)] ++ pl0) s.heap ∧ va_D A ([(h0, .inr (1, mX1 h1 h6 h13 h21 h36 h37 h39 h40 h41 h42 h43 h44 h45 h46 h47 h48 v0)), (h13, .inr (7, mX7 h14 h15 h16 h17 h18 h19 h20 v13)), (h14, zi k14 40 f14), (h36, .inl (k36, 40, .inr (.inr (.inr (.inr f36))))), (h48, zi k41 n48 f48), (h41, zi k41 40 f41), (h21, .inr (3, mX3 h6 h22 h13 h31 h32 h33 h34 h35 v21)), (h17, zi k17 40 f17), (h15, zi k15 40 f15), (h16, zi k16 40 f16), (h35, zi k35 300 f35), (h34, zi k34 832 f34), (h19, zi k19 160 f19), (h39, zi k39 40 f39), (h31, .inl (k31, 400, .inr (.inr (.inr (.inr f31))))), (h1, .inr (0, mX0 h2 h3 h4 h5 v1)), (h4, zi k4 120 f4)] ++ pl0) ∧ va_S A s.heap s.heap [] ∧ lv_has ls 4 [(0, .ref h0), (1, .int x1), (2, .int 0)] ∧ zA 0 4914 f48 ∧ (0 ≤ (0 : Int32).toInt ∧ (0 : Int32).toInt ≤ 40) ∧ (zRd h22 f31 pl0) ∧ (zPs k41 f36 pl0) ∧ (zOt pl0 pl0) := ⟨hP, hD, hS, lv_sub hl [1, 2, 0] rfl, hf48, (by first | with_reducible assumption | exact ⟨by omega, by omega⟩), by assumption, by assumption, by first | assumption | exact zOt_rf⟩
    exact hJ2 s.heap [] ls (fun i => ([0] : List (Int32)).getD i 0) (fun _ => 0) (fun i => ([f48, f39, f41] : List (Nat → Int32)).getD i (fun _ => 0)) (fun _ => (fun _ => 0)) ⟨(fun _ => (fun _ => none)), pl0, hc⟩
set_option maxHeartbeats 8000000 in
set_option maxRecDepth 100000 in
theorem sX7_stepAt_0 (l : Launch) (dC : Nat → ClassId) (dI : Nat → Nat → Nat) (adK adV : Nat → Nat) (h0 : Nat) (h7 : Nat) (h1 : Nat) (h2 : Nat) (h3 : Nat) (h4 : Nat) (h5 : Nat) (h6 : Nat) (k7 : ClassId) (sz : Nat) (v0 : Nat → Int32) (f7 : Nat → Int32) (x1 : Int32) (hv0 : zR rg_Query v0) (hf7 : zA 0 12000 f7) : Met l yX7_stepAt (zw yX7_stepAt cX7_stepAt 2 (some .int)) { frames := 0, cells := 0, slots := 0, locals := 0 } (zPc dC dI adK adV [.ref h0, .int x1] sz [(h0, .inr (7, mX7 h1 h2 h3 h4 h5 h6 h7 v0)), (h7, zi k7 270 f7)] [(k7, .int)]) (va_Qi (fun (r : Int32) (u : Nat → Int32) => ((-1) ≤ r.toInt ∧ r.toInt ≤ 12000) ∧ (0 ≤ x1.toInt ∧ x1.toInt < (v0 9).toInt → 0 ≤ r.toInt)) (fun (u : Nat → Int32) (t : State) => ∃ (ww : Nat → Int64) (aa : Nat → Nat → Int32) (bb : Nat → Nat → Int64), va_P (dC, dI) vwCl [(h0, .inr (7, mX7 h1 h2 h3 h4 h5 h6 h7 v0)), (h7, zi k7 270 f7)] t.heap ∧ va_K (dC, dI) vwCl [(k7, .int)] t ∧ va_D (va_A [(h0, .inr (7, mX7 h1 h2 h3 h4 h5 h6 h7 v0)), (h7, zi k7 270 f7)] sz) [(h0, .inr (7, mX7 h1 h2 h3 h4 h5 h6 h7 v0)), (h7, zi k7 270 f7)]) (va_A [(h0, .inr (7, mX7 h1 h2 h3 h4 h5 h6 h7 v0)), (h7, zi k7 270 f7)] sz)) 0 0 (va_A [(h0, .inr (7, mX7 h1 h2 h3 h4 h5 h6 h7 v0)), (h7, zi k7 270 f7)] sz) := by
  refine Met.ofW (cc := cX7_stepAt) (maxL := 2) (ret := (some .int)) (by decide) rfl ?_
  intro p e s m args below meth c s₁ B hml hv
  obtain ⟨rfl, hsz, hP, hK, hD0, hE, hZ⟩ := hv
  have hx := B.exec
  have hb := B.bytes
  have hr := B.returns
  have hG : ∀ w ∈ zG, w.before _ s = true := fun w h => atoms_spec (ws := (zw yX7_stepAt cX7_stepAt 2 (some .int))) B.pre w (List.mem_cons_of_mem _ h)
  have hown : s.vm.findClass RX7 = some m.cls := findClass_of_methodNamed B.named
  have hlocks := B.notSynchronized

  subst hsz
  have hD := hD0.self (sz := s.heap.size)
  generalize hAe : va_A [(h0, .inr (7, mX7 h1 h2 h3 h4 h5 h6 h7 v0)), (h7, zi k7 270 f7)] s.heap.size = A at hD hZ ⊢
  have hA : ∀ q : Nat, s.heap.size ≤ q → A q := fun q h => by rw [← hAe]; exact Or.inr h
  have hS : va_S A s.heap s.heap [] := va_S.rf
  have hl := lv_entry ([.ref h0, .int x1]) (n := 2) (Nat.le_of_ble_eq_true rfl)
  rw [lg_entry_eq]
  generalize (lg_sl ([.ref h0, .int x1]) ++ List.replicate (2 - (lg_sl ([.ref h0, .int x1])).length) Slot.unset).toArray = ls at hl ⊢
  have hl : lv_has ls 2 [(0, .ref h0), (1, .int x1)] := hl
  have b_ := zk_m1
  have b_ : 0 ≤ (v0 9).toInt ∧ (v0 9).toInt ≤ 270 := hv0 9
  refine lv_iload_n hx hb dX7_stepAt_0 rfl (lv_at hl 1 rfl) ?_
  have b_ : -2147483648 ≤ x1.toInt ∧ x1.toInt ≤ 2147483647 := ⟨zlo _, zhi _⟩
  refine lv_if_lt (tgt := 21) hx hb dX7_stepAt_1 (by decide) (fun c_ => ?_) (fun c_ => ?_)
  · skip
    have b_ := zT_lt rfl zk_0 c_
    refine lv_iconst (v := (-1)) hx hb dX7_stepAt_21 (by decide) ?_
    refine W.widen (k := 0) (n := 0) (by decide) (by decide) ?_
    have hpost : ((-1) ≤ ((-1) : Int32).toInt ∧ ((-1) : Int32).toInt ≤ 12000) ∧ (0 ≤ x1.toInt ∧ x1.toInt < (v0 9).toInt → 0 ≤ ((-1) : Int32).toInt) := ⟨(by first | with_reducible assumption | exact ⟨by omega, by omega⟩), by omega⟩
    have hP9 : va_P (dC, dI) vwCl [(h0, .inr (7, mX7 h1 h2 h3 h4 h5 h6 h7 v0)), (h7, zi k7 270 f7)] s.heap := hP
    have hD9 : va_D A [(h0, .inr (7, mX7 h1 h2 h3 h4 h5 h6 h7 v0)), (h7, zi k7 270 f7)] := hD
    exact W.iret (v := (-1)) hx hb hr (fun t ht hW => ⟨⟨(-1), (fun _ => 0), rfl, hpost, (fun _ => 0), (fun _ => (fun _ => 0)), (fun _ => (fun _ => 0)), by rw [ht]; exact hP9, va_K.moved hW.alike hK, hD9⟩, hS.F ht⟩) hS.2.2 dX7_stepAt_22
  · skip
    have b_ := zF_lt rfl zk_0 c_
    refine lv_iload_n hx hb dX7_stepAt_4 rfl (lv_at hl 1 rfl) ?_
    refine lv_aload_n hx hb dX7_stepAt_5 rfl (lv_at hl 0 rfl) ?_
    refine va_get (D := (dC, dI)) (ci := 7) (v := .int (v0 9)) (C := RX7) (T := TX7) (N := 12) hx hb hG zuX7 hown hK hP 0 rfl rfl 9 (by decide) (hG _ zv374) (fun _ h9 => h9) rfl dX7_stepAt_6 ?_
    refine lv_icmp_ge (tgt := 21) hx hb dX7_stepAt_9 (by decide) (fun c_ => ?_) (fun c_ => ?_)
    · skip
      have b_ := zT_ge rfl rfl c_
      refine lv_iconst (v := (-1)) hx hb dX7_stepAt_21 (by decide) ?_
      refine W.widen (k := 0) (n := 0) (by decide) (by decide) ?_
      have hpost : ((-1) ≤ ((-1) : Int32).toInt ∧ ((-1) : Int32).toInt ≤ 12000) ∧ (0 ≤ x1.toInt ∧ x1.toInt < (v0 9).toInt → 0 ≤ ((-1) : Int32).toInt) := ⟨(by first | with_reducible assumption | exact ⟨by omega, by omega⟩), by omega⟩
      have hP9 : va_P (dC, dI) vwCl [(h0, .inr (7, mX7 h1 h2 h3 h4 h5 h6 h7 v0)), (h7, zi k7 270 f7)] s.heap := hP
      have hD9 : va_D A [(h0, .inr (7, mX7 h1 h2 h3 h4 h5 h6 h7 v0)), (h7, zi k7 270 f7)] := hD
      exact W.iret (v := (-1)) hx hb hr (fun t ht hW => ⟨⟨(-1), (fun _ => 0), rfl, hpost, (fun _ => 0), (fun _ => (fun _ => 0)), (fun _ => (fun _ => 0)), by rw [ht]; exact hP9, va_K.moved hW.alike hK, hD9⟩, hS.F ht⟩) hS.2.2 dX7_stepAt_22
    · skip
      have b_ := zF_ge rfl rfl c_
      refine lv_aload_n hx hb dX7_stepAt_12 rfl (lv_at hl 0 rfl) ?_
      refine va_get (D := (dC, dI)) (ci := 7) (v := .ref h7) (C := RX7) (T := TX7) (N := 12) hx hb hG zuX7 hown hK hP 0 rfl rfl 6 (by decide) (hG _ zv371) (fun _ h9 => h9) rfl dX7_stepAt_13 ?_
      refine lv_iload_n hx hb dX7_stepAt_16 rfl (lv_at hl 1 rfl) ?_
      refine va_iald hx hb hK hP 1 0 rfl rfl (zin_lit ⟨by omega, by omega⟩) dX7_stepAt_17 ?_
      refine lv_topi (fun z17 e_z17 => ?_)
      have b_ : 0 ≤ z17.toInt ∧ z17.toInt ≤ 12000 := by rw [e_z17]; exact hf7 _
      refine lv_goto (tgt := 22) hx hb dX7_stepAt_18 (by decide) ?_
      refine W.widen (k := 0) (n := 0) (by decide) (by decide) ?_
      have hpost : ((-1) ≤ z17.toInt ∧ z17.toInt ≤ 12000) ∧ (0 ≤ x1.toInt ∧ x1.toInt < (v0 9).toInt → 0 ≤ z17.toInt) := ⟨(by first | with_reducible assumption | exact ⟨by omega, by omega⟩), by omega⟩
      have hP9 : va_P (dC, dI) vwCl [(h0, .inr (7, mX7 h1 h2 h3 h4 h5 h6 h7 v0)), (h7, zi k7 270 f7)] s.heap := hP
      have hD9 : va_D A [(h0, .inr (7, mX7 h1 h2 h3 h4 h5 h6 h7 v0)), (h7, zi k7 270 f7)] := hD
      exact W.iret (v := z17) hx hb hr (fun t ht hW => ⟨⟨z17, (fun _ => 0), rfl, hpost, (fun _ => 0), (fun _ => (fun _ => 0)), (fun _ => (fun _ => 0)), by rw [ht]; exact hP9, va_K.moved hW.alike hK, hD9⟩, hS.F ht⟩) hS.2.2 dX7_stepAt_22
set_option maxHeartbeats 8000000 in
set_option maxRecDepth 100000 in
theorem sJ6_numberOfTrailingZeros_0f7a4_0 (l : Launch) (dC : Nat → ClassId) (dI : Nat → Nat → Nat) (adK adV : Nat → Nat) (sz : Nat) (x0 : Int32) : Met l yJ6_numberOfTrailingZeros_0f7a4 (zw yJ6_numberOfTrailingZeros_0f7a4 cJ6_numberOfTrailingZeros_0f7a4 2 (some .int)) { frames := 0, cells := 0, slots := 0, locals := 0 } (zPc dC dI adK adV [.int x0] sz [] []) (va_Qi (fun (r : Int32) (u : Nat → Int32) => (0 ≤ r.toInt ∧ r.toInt ≤ 32) ∧ (x0.toInt ≠ 0 → r.toInt ≤ 31)) (fun (u : Nat → Int32) (t : State) => ∃ (ww : Nat → Int64) (aa : Nat → Nat → Int32) (bb : Nat → Nat → Int64), va_P (dC, dI) vwCl [] t.heap ∧ va_K (dC, dI) vwCl [] t ∧ va_D (va_A [] sz) []) (va_A [] sz)) 0 0 (va_A [] sz) := by
  refine Met.ofW (cc := cJ6_numberOfTrailingZeros_0f7a4) (maxL := 2) (ret := (some .int)) (by decide) rfl ?_
  intro p e s m args below meth c s₁ B hml hv
  obtain ⟨rfl, hsz, hP, hK, hD0, hE, hZ⟩ := hv
  have hx := B.exec
  have hb := B.bytes
  have hr := B.returns
  have hG : ∀ w ∈ zG, w.before _ s = true := fun w h => atoms_spec (ws := (zw yJ6_numberOfTrailingZeros_0f7a4 cJ6_numberOfTrailingZeros_0f7a4 2 (some .int))) B.pre w (List.mem_cons_of_mem _ h)
  have hown : s.vm.findClass RJ6 = some m.cls := findClass_of_methodNamed B.named
  have hlocks := B.notSynchronized

  subst hsz
  have hD := hD0.self (sz := s.heap.size)
  generalize hAe : va_A [] s.heap.size = A at hD hZ ⊢
  have hA : ∀ q : Nat, s.heap.size ≤ q → A q := fun q h => by rw [← hAe]; exact Or.inr h
  have hS : va_S A s.heap s.heap [] := va_S.rf
  have hl := lv_entry ([.int x0]) (n := 2) (Nat.le_of_ble_eq_true rfl)
  rw [lg_entry_eq]
  generalize (lg_sl ([.int x0]) ++ List.replicate (2 - (lg_sl ([.int x0])).length) Slot.unset).toArray = ls at hl ⊢
  have hl : lv_has ls 2 [(0, .int x0)] := hl
  refine lv_iload_n hx hb dJ6_numberOfTrailingZeros_0f7a4_0 rfl (lv_at hl 0 rfl) ?_
  refine lv_iconst (v := (-1)) hx hb dJ6_numberOfTrailingZeros_0f7a4_1 (by decide) ?_
  have b_ : -2147483648 ≤ x0.toInt ∧ x0.toInt ≤ 2147483647 := ⟨zlo _, zhi _⟩
  refine lv_ixor hx hb dJ6_numberOfTrailingZeros_0f7a4_2 ?_
  refine lv_topi (fun z2 e_z2 => ?_)
  refine lv_iload_n hx hb dJ6_numberOfTrailingZeros_0f7a4_3 rfl (lv_at hl 0 rfl) ?_
  refine lv_iconst (v := 1) hx hb dJ6_numberOfTrailingZeros_0f7a4_4 (by decide) ?_
  refine lv_isub hx hb dJ6_numberOfTrailingZeros_0f7a4_5 ?_
  refine lv_topi (fun z5 e_z5 => ?_)
  have b_ : -2147483648 ≤ z2.toInt ∧ z2.toInt ≤ 2147483647 := ⟨zlo _, zhi _⟩
  have b_ : -2147483648 ≤ z5.toInt ∧ z5.toInt ≤ 2147483647 := ⟨zlo _, zhi _⟩
  refine lv_iand hx hb dJ6_numberOfTrailingZeros_0f7a4_6 ?_
  refine lv_topi (fun z6 e_z6 => ?_)
  refine lv_istore_n (lv' := [(0, .int z6)]) hx hb dJ6_numberOfTrailingZeros_0f7a4_7 rfl hl (by decide) rfl (fun ls hl => ?_)
  refine lv_iload_n hx hb dJ6_numberOfTrailingZeros_0f7a4_8 rfl (lv_at hl 0 rfl) ?_
  have b_ : -2147483648 ≤ z6.toInt ∧ z6.toInt ≤ 2147483647 := ⟨zlo _, zhi _⟩
  refine lv_if_gt (tgt := 17) hx hb dJ6_numberOfTrailingZeros_0f7a4_9 (by decide) (fun c_ => ?_) (fun c_ => ?_)
  · skip
    have b_ := zT_gt rfl zk_0 c_
    refine lv_iconst (v := 1) hx hb dJ6_numberOfTrailingZeros_0f7a4_17 (by decide) ?_
    refine lv_istore_n (lv' := [(1, .int 1), (0, .int z6)]) hx hb dJ6_numberOfTrailingZeros_0f7a4_18 rfl hl (by decide) rfl (fun ls hl => ?_)
    refine lv_iload_n hx hb dJ6_numberOfTrailingZeros_0f7a4_19 rfl (lv_at hl 1 rfl) ?_
    refine lv_ldcw hx hb hown (hG _ zv795) dJ6_numberOfTrailingZeros_0f7a4_20 ?_
    refine lv_icmp_le (tgt := 34) hx hb dJ6_numberOfTrailingZeros_0f7a4_23 (by decide) (fun c_ => ?_) (fun c_ => ?_)
    · skip
      have b_ := zT_le rfl zk_65536 c_
      refine lv_iload_n hx hb dJ6_numberOfTrailingZeros_0f7a4_34 rfl (lv_at hl 1 rfl) ?_
      refine lv_sipush (v := 256) hx hb dJ6_numberOfTrailingZeros_0f7a4_35 (by decide) ?_
      refine lv_icmp_le (tgt := 49) hx hb dJ6_numberOfTrailingZeros_0f7a4_38 (by decide) (fun c_ => ?_) (fun c_ => ?_)
      · skip
        have b_ := zT_le rfl zk_256 c_
        refine lv_iload_n hx hb dJ6_numberOfTrailingZeros_0f7a4_49 rfl (lv_at hl 1 rfl) ?_
        refine lv_bipush (v := 16) hx hb dJ6_numberOfTrailingZeros_0f7a4_50 (by decide) ?_
        refine lv_icmp_le (tgt := 62) hx hb dJ6_numberOfTrailingZeros_0f7a4_52 (by decide) (fun c_ => ?_) (fun c_ => ?_)
        · skip
          have b_ := zT_le rfl zk_16 c_
          refine lv_iload_n hx hb dJ6_numberOfTrailingZeros_0f7a4_62 rfl (lv_at hl 1 rfl) ?_
          refine lv_iconst (v := 4) hx hb dJ6_numberOfTrailingZeros_0f7a4_63 (by decide) ?_
          refine lv_icmp_le (tgt := 74) hx hb dJ6_numberOfTrailingZeros_0f7a4_64 (by decide) (fun c_ => ?_) (fun c_ => ?_)
          · skip
            have b_ := zT_le rfl zk_4 c_
            refine lv_iload_n hx hb dJ6_numberOfTrailingZeros_0f7a4_74 rfl (lv_at hl 0 rfl) ?_
            refine lv_iload_n hx hb dJ6_numberOfTrailingZeros_0f7a4_75 rfl (lv_at hl 1 rfl) ?_
            refine lv_iconst (v := 1) hx hb dJ6_numberOfTrailingZeros_0f7a4_76 (by decide) ?_
            refine lv_iushr hx hb dJ6_numberOfTrailingZeros_0f7a4_77 rfl ?_
            refine lv_topi (fun z77 e_z77 => ?_)
            have b_ := zushr1 rfl e_z77 (by omega)
            refine lv_iadd hx hb dJ6_numberOfTrailingZeros_0f7a4_78 ?_
            refine lv_topi (fun z78 e_z78 => ?_)
            have b_ := zadd zk_1 rfl e_z78 (by omega) (by omega)
            refine W.widen (k := 0) (n := 0) (by decide) (by decide) ?_
            have hpost : (0 ≤ z78.toInt ∧ z78.toInt ≤ 32) ∧ (x0.toInt ≠ 0 → z78.toInt ≤ 31) := ⟨(by first | with_reducible assumption | exact ⟨by omega, by omega⟩), by omega⟩
            have hP9 : va_P (dC, dI) vwCl [] s.heap := hP
            have hD9 : va_D A [] := hD
            exact W.iret (v := z78) hx hb hr (fun t ht hW => ⟨⟨z78, (fun _ => 0), rfl, hpost, (fun _ => 0), (fun _ => (fun _ => 0)), (fun _ => (fun _ => 0)), by rw [ht]; exact hP9, va_K.moved hW.alike hK, hD9⟩, hS.F ht⟩) hS.2.2 dJ6_numberOfTrailingZeros_0f7a4_79
          · skip
            have b_ := zF_le rfl zk_4 c_
            refine lv_iinc (v := 3) (lv' := [(1, .int 3), (0, .int z6)]) hx hb dJ6_numberOfTrailingZeros_0f7a4_67 hl (k := 0) rfl (by decide) (by decide) rfl (fun ls hl => ?_)
            refine lv_iload_n hx hb dJ6_numberOfTrailingZeros_0f7a4_70 rfl (lv_at hl 1 rfl) ?_
            refine lv_iconst (v := 2) hx hb dJ6_numberOfTrailingZeros_0f7a4_71 (by decide) ?_
            refine lv_iushr hx hb dJ6_numberOfTrailingZeros_0f7a4_72 rfl ?_
            refine lv_topi (fun z72 e_z72 => ?_)
            have b_ := zushr2 rfl e_z72 (by omega)
            refine lv_istore_n (lv' := [(0, .int z72), (1, .int 3)]) hx hb dJ6_numberOfTrailingZeros_0f7a4_73 rfl hl (by decide) rfl (fun ls hl => ?_)
            refine lv_iload_n hx hb dJ6_numberOfTrailingZeros_0f7a4_74 rfl (lv_at hl 1 rfl) ?_
            refine lv_iload_n hx hb dJ6_numberOfTrailingZeros_0f7a4_75 rfl (lv_at hl 0 rfl) ?_
            refine lv_iconst (v := 1) hx hb dJ6_numberOfTrailingZeros_0f7a4_76 (by decide) ?_
            refine lv_iushr hx hb dJ6_numberOfTrailingZeros_0f7a4_77 rfl ?_
            refine lv_topi (fun z77 e_z77 => ?_)
            have b_ := zushr1 rfl e_z77 (by omega)
            refine lv_iadd hx hb dJ6_numberOfTrailingZeros_0f7a4_78 ?_
            refine lv_topi (fun z78 e_z78 => ?_)
            have b_ := zadd zk_3 rfl e_z78 (by omega) (by omega)
            refine W.widen (k := 0) (n := 0) (by decide) (by decide) ?_
            have hpost : (0 ≤ z78.toInt ∧ z78.toInt ≤ 32) ∧ (x0.toInt ≠ 0 → z78.toInt ≤ 31) := ⟨(by first | with_reducible assumption | exact ⟨by omega, by omega⟩), by omega⟩
            have hP9 : va_P (dC, dI) vwCl [] s.heap := hP
            have hD9 : va_D A [] := hD
            exact W.iret (v := z78) hx hb hr (fun t ht hW => ⟨⟨z78, (fun _ => 0), rfl, hpost, (fun _ => 0), (fun _ => (fun _ => 0)), (fun _ => (fun _ => 0)), by rw [ht]; exact hP9, va_K.moved hW.alike hK, hD9⟩, hS.F ht⟩) hS.2.2 dJ6_numberOfTrailingZeros_0f7a4_79
        · skip
          have b_ := zF_le rfl zk_16 c_
          refine lv_iinc (v := 5) (lv' := [(1, .int 5), (0, .int z6)]) hx hb dJ6_numberOfTrailingZeros_0f7a4_55 hl (k := 0) rfl (by decide) (by decide) rfl (fun ls hl => ?_)
          refine lv_iload_n hx hb dJ6_numberOfTrailingZeros_0f7a4_58 rfl (lv_at hl 1 rfl) ?_
          refine lv_iconst (v := 4) hx hb dJ6_numberOfTrailingZeros_0f7a4_59 (by decide) ?_
          refine lv_iushr hx hb dJ6_numberOfTrailingZeros_0f7a4_60 rfl ?_
          refine lv_topi (fun z60 e_z60 => ?_)
          have b_ := zushr4 rfl e_z60 (by omega)
          refine lv_istore_n (lv' := [(0, .int z60), (1, .int 5)]) hx hb dJ6_numberOfTrailingZeros_0f7a4_61 rfl hl (by decide) rfl (fun ls hl => ?_)
          refine lv_iload_n hx hb dJ6_numberOfTrailingZeros_0f7a4_62 rfl (lv_at hl 0 rfl) ?_
          refine lv_iconst (v := 4) hx hb dJ6_numberOfTrailingZeros_0f7a4_63 (by decide) ?_
          refine lv_icmp_le (tgt := 74) hx hb dJ6_numberOfTrailingZeros_0f7a4_64 (by decide) (fun c_ => ?_) (fun c_ => ?_)
          · skip
            have b_ := zT_le rfl zk_4 c_
            refine lv_iload_n hx hb dJ6_numberOfTrailingZeros_0f7a4_74 rfl (lv_at hl 1 rfl) ?_
            refine lv_iload_n hx hb dJ6_numberOfTrailingZeros_0f7a4_75 rfl (lv_at hl 0 rfl) ?_
            refine lv_iconst (v := 1) hx hb dJ6_numberOfTrailingZeros_0f7a4_76 (by decide) ?_
            refine lv_iushr hx hb dJ6_numberOfTrailingZeros_0f7a4_77 rfl ?_
            refine lv_topi (fun z77 e_z77 => ?_)
            have b_ := zushr1 rfl e_z77 (by omega)
            refine lv_iadd hx hb dJ6_numberOfTrailingZeros_0f7a4_78 ?_
            refine lv_topi (fun z78 e_z78 => ?_)
            have b_ := zadd zk_5 rfl e_z78 (by omega) (by omega)
            refine W.widen (k := 0) (n := 0) (by decide) (by decide) ?_
            have hpost : (0 ≤ z78.toInt ∧ z78.toInt ≤ 32) ∧ (x0.toInt ≠ 0 → z78.toInt ≤ 31) := ⟨(by first | with_reducible assumption | exact ⟨by omega, by omega⟩), by omega⟩
            have hP9 : va_P (dC, dI) vwCl [] s.heap := hP
            have hD9 : va_D A [] := hD
            exact W.iret (v := z78) hx hb hr (fun t ht hW => ⟨⟨z78, (fun _ => 0), rfl, hpost, (fun _ => 0), (fun _ => (fun _ => 0)), (fun _ => (fun _ => 0)), by rw [ht]; exact hP9, va_K.moved hW.alike hK, hD9⟩, hS.F ht⟩) hS.2.2 dJ6_numberOfTrailingZeros_0f7a4_79
          · skip
            have b_ := zF_le rfl zk_4 c_
            refine lv_iinc (v := 7) (lv' := [(1, .int 7), (0, .int z60)]) hx hb dJ6_numberOfTrailingZeros_0f7a4_67 hl (k := 1) rfl (by decide) (by decide) rfl (fun ls hl => ?_)
            refine lv_iload_n hx hb dJ6_numberOfTrailingZeros_0f7a4_70 rfl (lv_at hl 1 rfl) ?_
            refine lv_iconst (v := 2) hx hb dJ6_numberOfTrailingZeros_0f7a4_71 (by decide) ?_
            refine lv_iushr hx hb dJ6_numberOfTrailingZeros_0f7a4_72 rfl ?_
            refine lv_topi (fun z72 e_z72 => ?_)
            have b_ := zushr2 rfl e_z72 (by omega)
            refine lv_istore_n (lv' := [(0, .int z72), (1, .int 7)]) hx hb dJ6_numberOfTrailingZeros_0f7a4_73 rfl hl (by decide) rfl (fun ls hl => ?_)
            refine lv_iload_n hx hb dJ6_numberOfTrailingZeros_0f7a4_74 rfl (lv_at hl 1 rfl) ?_
            refine lv_iload_n hx hb dJ6_numberOfTrailingZeros_0f7a4_75 rfl (lv_at hl 0 rfl) ?_
            refine lv_iconst (v := 1) hx hb dJ6_numberOfTrailingZeros_0f7a4_76 (by decide) ?_
            refine lv_iushr hx hb dJ6_numberOfTrailingZeros_0f7a4_77 rfl ?_
            refine lv_topi (fun z77 e_z77 => ?_)
            have b_ := zushr1 rfl e_z77 (by omega)
            refine lv_iadd hx hb dJ6_numberOfTrailingZeros_0f7a4_78 ?_
            refine lv_topi (fun z78 e_z78 => ?_)
            have b_ := zadd zk_7 rfl e_z78 (by omega) (by omega)
            refine W.widen (k := 0) (n := 0) (by decide) (by decide) ?_
            have hpost : (0 ≤ z78.toInt ∧ z78.toInt ≤ 32) ∧ (x0.toInt ≠ 0 → z78.toInt ≤ 31) := ⟨(by first | with_reducible assumption | exact ⟨by omega, by omega⟩), by omega⟩
            have hP9 : va_P (dC, dI) vwCl [] s.heap := hP
            have hD9 : va_D A [] := hD
            exact W.iret (v := z78) hx hb hr (fun t ht hW => ⟨⟨z78, (fun _ => 0), rfl, hpost, (fun _ => 0), (fun _ => (fun _ => 0)), (fun _ => (fun _ => 0)), by rw [ht]; exact hP9, va_K.moved hW.alike hK, hD9⟩, hS.F ht⟩) hS.2.2 dJ6_numberOfTrailingZeros_0f7a4_79
      · skip
        have b_ := zF_le rfl zk_256 c_
        refine lv_iinc (v := 9) (lv' := [(1, .int 9), (0, .int z6)]) hx hb dJ6_numberOfTrailingZeros_0f7a4_41 hl (k := 0) rfl (by decide) (by decide) rfl (fun ls hl => ?_)
        refine lv_iload_n hx hb dJ6_numberOfTrailingZeros_0f7a4_44 rfl (lv_at hl 1 rfl) ?_
        refine lv_bipush (v := 8) hx hb dJ6_numberOfTrailingZeros_0f7a4_45 (by decide) ?_
        refine lv_iushr hx hb dJ6_numberOfTrailingZeros_0f7a4_47 rfl ?_
        refine lv_topi (fun z47 e_z47 => ?_)
        have b_ := zushr8 rfl e_z47 (by omega)
        refine lv_istore_n (lv' := [(0, .int z47), (1, .int 9)]) hx hb dJ6_numberOfTrailingZeros_0f7a4_48 rfl hl (by decide) rfl (fun ls hl => ?_)
        refine lv_iload_n hx hb dJ6_numberOfTrailingZeros_0f7a4_49 rfl (lv_at hl 0 rfl) ?_
        refine lv_bipush (v := 16) hx hb dJ6_numberOfTrailingZeros_0f7a4_50 (by decide) ?_
        refine lv_icmp_le (tgt := 62) hx hb dJ6_numberOfTrailingZeros_0f7a4_52 (by decide) (fun c_ => ?_) (fun c_ => ?_)
        · skip
          have b_ := zT_le rfl zk_16 c_
          refine lv_iload_n hx hb dJ6_numberOfTrailingZeros_0f7a4_62 rfl (lv_at hl 0 rfl) ?_
          refine lv_iconst (v := 4) hx hb dJ6_numberOfTrailingZeros_0f7a4_63 (by decide) ?_
          refine lv_icmp_le (tgt := 74) hx hb dJ6_numberOfTrailingZeros_0f7a4_64 (by decide) (fun c_ => ?_) (fun c_ => ?_)
          · skip
            have b_ := zT_le rfl zk_4 c_
            refine lv_iload_n hx hb dJ6_numberOfTrailingZeros_0f7a4_74 rfl (lv_at hl 1 rfl) ?_
            refine lv_iload_n hx hb dJ6_numberOfTrailingZeros_0f7a4_75 rfl (lv_at hl 0 rfl) ?_
            refine lv_iconst (v := 1) hx hb dJ6_numberOfTrailingZeros_0f7a4_76 (by decide) ?_
            refine lv_iushr hx hb dJ6_numberOfTrailingZeros_0f7a4_77 rfl ?_
            refine lv_topi (fun z77 e_z77 => ?_)
            have b_ := zushr1 rfl e_z77 (by omega)
            refine lv_iadd hx hb dJ6_numberOfTrailingZeros_0f7a4_78 ?_
            refine lv_topi (fun z78 e_z78 => ?_)
            have b_ := zadd zk_9 rfl e_z78 (by omega) (by omega)
            refine W.widen (k := 0) (n := 0) (by decide) (by decide) ?_
            have hpost : (0 ≤ z78.toInt ∧ z78.toInt ≤ 32) ∧ (x0.toInt ≠ 0 → z78.toInt ≤ 31) := ⟨(by first | with_reducible assumption | exact ⟨by omega, by omega⟩), by omega⟩
            have hP9 : va_P (dC, dI) vwCl [] s.heap := hP
            have hD9 : va_D A [] := hD
            exact W.iret (v := z78) hx hb hr (fun t ht hW => ⟨⟨z78, (fun _ => 0), rfl, hpost, (fun _ => 0), (fun _ => (fun _ => 0)), (fun _ => (fun _ => 0)), by rw [ht]; exact hP9, va_K.moved hW.alike hK, hD9⟩, hS.F ht⟩) hS.2.2 dJ6_numberOfTrailingZeros_0f7a4_79
          · skip
            have b_ := zF_le rfl zk_4 c_
            refine lv_iinc (v := 11) (lv' := [(1, .int 11), (0, .int z47)]) hx hb dJ6_numberOfTrailingZeros_0f7a4_67 hl (k := 1) rfl (by decide) (by decide) rfl (fun ls hl => ?_)
            refine lv_iload_n hx hb dJ6_numberOfTrailingZeros_0f7a4_70 rfl (lv_at hl 1 rfl) ?_
            refine lv_iconst (v := 2) hx hb dJ6_numberOfTrailingZeros_0f7a4_71 (by decide) ?_
            refine lv_iushr hx hb dJ6_numberOfTrailingZeros_0f7a4_72 rfl ?_
            refine lv_topi (fun z72 e_z72 => ?_)
            have b_ := zushr2 rfl e_z72 (by omega)
            refine lv_istore_n (lv' := [(0, .int z72), (1, .int 11)]) hx hb dJ6_numberOfTrailingZeros_0f7a4_73 rfl hl (by decide) rfl (fun ls hl => ?_)
            refine lv_iload_n hx hb dJ6_numberOfTrailingZeros_0f7a4_74 rfl (lv_at hl 1 rfl) ?_
            refine lv_iload_n hx hb dJ6_numberOfTrailingZeros_0f7a4_75 rfl (lv_at hl 0 rfl) ?_
            refine lv_iconst (v := 1) hx hb dJ6_numberOfTrailingZeros_0f7a4_76 (by decide) ?_
            refine lv_iushr hx hb dJ6_numberOfTrailingZeros_0f7a4_77 rfl ?_
            refine lv_topi (fun z77 e_z77 => ?_)
            have b_ := zushr1 rfl e_z77 (by omega)
            refine lv_iadd hx hb dJ6_numberOfTrailingZeros_0f7a4_78 ?_
            refine lv_topi (fun z78 e_z78 => ?_)
            have b_ := zadd zk_11 rfl e_z78 (by omega) (by omega)
            refine W.widen (k := 0) (n := 0) (by decide) (by decide) ?_
            have hpost : (0 ≤ z78.toInt ∧ z78.toInt ≤ 32) ∧ (x0.toInt ≠ 0 → z78.toInt ≤ 31) := ⟨(by first | with_reducible assumption | exact ⟨by omega, by omega⟩), by omega⟩
            have hP9 : va_P (dC, dI) vwCl [] s.heap := hP
            have hD9 : va_D A [] := hD
            exact W.iret (v := z78) hx hb hr (fun t ht hW => ⟨⟨z78, (fun _ => 0), rfl, hpost, (fun _ => 0), (fun _ => (fun _ => 0)), (fun _ => (fun _ => 0)), by rw [ht]; exact hP9, va_K.moved hW.alike hK, hD9⟩, hS.F ht⟩) hS.2.2 dJ6_numberOfTrailingZeros_0f7a4_79
        · skip
          have b_ := zF_le rfl zk_16 c_
          refine lv_iinc (v := 13) (lv' := [(1, .int 13), (0, .int z47)]) hx hb dJ6_numberOfTrailingZeros_0f7a4_55 hl (k := 1) rfl (by decide) (by decide) rfl (fun ls hl => ?_)
          refine lv_iload_n hx hb dJ6_numberOfTrailingZeros_0f7a4_58 rfl (lv_at hl 1 rfl) ?_
          refine lv_iconst (v := 4) hx hb dJ6_numberOfTrailingZeros_0f7a4_59 (by decide) ?_
          refine lv_iushr hx hb dJ6_numberOfTrailingZeros_0f7a4_60 rfl ?_
          refine lv_topi (fun z60 e_z60 => ?_)
          have b_ := zushr4 rfl e_z60 (by omega)
          refine lv_istore_n (lv' := [(0, .int z60), (1, .int 13)]) hx hb dJ6_numberOfTrailingZeros_0f7a4_61 rfl hl (by decide) rfl (fun ls hl => ?_)
          refine lv_iload_n hx hb dJ6_numberOfTrailingZeros_0f7a4_62 rfl (lv_at hl 0 rfl) ?_
          refine lv_iconst (v := 4) hx hb dJ6_numberOfTrailingZeros_0f7a4_63 (by decide) ?_
          refine lv_icmp_le (tgt := 74) hx hb dJ6_numberOfTrailingZeros_0f7a4_64 (by decide) (fun c_ => ?_) (fun c_ => ?_)
          · skip
            have b_ := zT_le rfl zk_4 c_
            refine lv_iload_n hx hb dJ6_numberOfTrailingZeros_0f7a4_74 rfl (lv_at hl 1 rfl) ?_
            refine lv_iload_n hx hb dJ6_numberOfTrailingZeros_0f7a4_75 rfl (lv_at hl 0 rfl) ?_
            refine lv_iconst (v := 1) hx hb dJ6_numberOfTrailingZeros_0f7a4_76 (by decide) ?_
            refine lv_iushr hx hb dJ6_numberOfTrailingZeros_0f7a4_77 rfl ?_
            refine lv_topi (fun z77 e_z77 => ?_)
            have b_ := zushr1 rfl e_z77 (by omega)
            refine lv_iadd hx hb dJ6_numberOfTrailingZeros_0f7a4_78 ?_
            refine lv_topi (fun z78 e_z78 => ?_)
            have b_ := zadd zk_13 rfl e_z78 (by omega) (by omega)
            refine W.widen (k := 0) (n := 0) (by decide) (by decide) ?_
            have hpost : (0 ≤ z78.toInt ∧ z78.toInt ≤ 32) ∧ (x0.toInt ≠ 0 → z78.toInt ≤ 31) := ⟨(by first | with_reducible assumption | exact ⟨by omega, by omega⟩), by omega⟩
            have hP9 : va_P (dC, dI) vwCl [] s.heap := hP
            have hD9 : va_D A [] := hD
            exact W.iret (v := z78) hx hb hr (fun t ht hW => ⟨⟨z78, (fun _ => 0), rfl, hpost, (fun _ => 0), (fun _ => (fun _ => 0)), (fun _ => (fun _ => 0)), by rw [ht]; exact hP9, va_K.moved hW.alike hK, hD9⟩, hS.F ht⟩) hS.2.2 dJ6_numberOfTrailingZeros_0f7a4_79
          · skip
            have b_ := zF_le rfl zk_4 c_
            refine lv_iinc (v := 15) (lv' := [(1, .int 15), (0, .int z60)]) hx hb dJ6_numberOfTrailingZeros_0f7a4_67 hl (k := 1) rfl (by decide) (by decide) rfl (fun ls hl => ?_)
            refine lv_iload_n hx hb dJ6_numberOfTrailingZeros_0f7a4_70 rfl (lv_at hl 1 rfl) ?_
            refine lv_iconst (v := 2) hx hb dJ6_numberOfTrailingZeros_0f7a4_71 (by decide) ?_
            refine lv_iushr hx hb dJ6_numberOfTrailingZeros_0f7a4_72 rfl ?_
            refine lv_topi (fun z72 e_z72 => ?_)
            have b_ := zushr2 rfl e_z72 (by omega)
            refine lv_istore_n (lv' := [(0, .int z72), (1, .int 15)]) hx hb dJ6_numberOfTrailingZeros_0f7a4_73 rfl hl (by decide) rfl (fun ls hl => ?_)
            refine lv_iload_n hx hb dJ6_numberOfTrailingZeros_0f7a4_74 rfl (lv_at hl 1 rfl) ?_
            refine lv_iload_n hx hb dJ6_numberOfTrailingZeros_0f7a4_75 rfl (lv_at hl 0 rfl) ?_
            refine lv_iconst (v := 1) hx hb dJ6_numberOfTrailingZeros_0f7a4_76 (by decide) ?_
            refine lv_iushr hx hb dJ6_numberOfTrailingZeros_0f7a4_77 rfl ?_
            refine lv_topi (fun z77 e_z77 => ?_)
            have b_ := zushr1 rfl e_z77 (by omega)
            refine lv_iadd hx hb dJ6_numberOfTrailingZeros_0f7a4_78 ?_
            refine lv_topi (fun z78 e_z78 => ?_)
            have b_ := zadd zk_15 rfl e_z78 (by omega) (by omega)
            refine W.widen (k := 0) (n := 0) (by decide) (by decide) ?_
            have hpost : (0 ≤ z78.toInt ∧ z78.toInt ≤ 32) ∧ (x0.toInt ≠ 0 → z78.toInt ≤ 31) := ⟨(by first | with_reducible assumption | exact ⟨by omega, by omega⟩), by omega⟩
            have hP9 : va_P (dC, dI) vwCl [] s.heap := hP
            have hD9 : va_D A [] := hD
            exact W.iret (v := z78) hx hb hr (fun t ht hW => ⟨⟨z78, (fun _ => 0), rfl, hpost, (fun _ => 0), (fun _ => (fun _ => 0)), (fun _ => (fun _ => 0)), by rw [ht]; exact hP9, va_K.moved hW.alike hK, hD9⟩, hS.F ht⟩) hS.2.2 dJ6_numberOfTrailingZeros_0f7a4_79
    · skip
      have b_ := zF_le rfl zk_65536 c_
      refine lv_iinc (v := 17) (lv' := [(1, .int 17), (0, .int z6)]) hx hb dJ6_numberOfTrailingZeros_0f7a4_26 hl (k := 0) rfl (by decide) (by decide) rfl (fun ls hl => ?_)
      refine lv_iload_n hx hb dJ6_numberOfTrailingZeros_0f7a4_29 rfl (lv_at hl 1 rfl) ?_
      refine lv_bipush (v := 16) hx hb dJ6_numberOfTrailingZeros_0f7a4_30 (by decide) ?_
      refine lv_iushr hx hb dJ6_numberOfTrailingZeros_0f7a4_32 rfl ?_
      refine lv_topi (fun z32 e_z32 => ?_)
      have b_ := zushr16 rfl e_z32 (by omega)
      refine lv_istore_n (lv' := [(0, .int z32), (1, .int 17)]) hx hb dJ6_numberOfTrailingZeros_0f7a4_33 rfl hl (by decide) rfl (fun ls hl => ?_)
      refine lv_iload_n hx hb dJ6_numberOfTrailingZeros_0f7a4_34 rfl (lv_at hl 0 rfl) ?_
      refine lv_sipush (v := 256) hx hb dJ6_numberOfTrailingZeros_0f7a4_35 (by decide) ?_
      refine lv_icmp_le (tgt := 49) hx hb dJ6_numberOfTrailingZeros_0f7a4_38 (by decide) (fun c_ => ?_) (fun c_ => ?_)
      · skip
        have b_ := zT_le rfl zk_256 c_
        refine lv_iload_n hx hb dJ6_numberOfTrailingZeros_0f7a4_49 rfl (lv_at hl 0 rfl) ?_
        refine lv_bipush (v := 16) hx hb dJ6_numberOfTrailingZeros_0f7a4_50 (by decide) ?_
        refine lv_icmp_le (tgt := 62) hx hb dJ6_numberOfTrailingZeros_0f7a4_52 (by decide) (fun c_ => ?_) (fun c_ => ?_)
        · skip
          have b_ := zT_le rfl zk_16 c_
          refine lv_iload_n hx hb dJ6_numberOfTrailingZeros_0f7a4_62 rfl (lv_at hl 0 rfl) ?_
          refine lv_iconst (v := 4) hx hb dJ6_numberOfTrailingZeros_0f7a4_63 (by decide) ?_
          refine lv_icmp_le (tgt := 74) hx hb dJ6_numberOfTrailingZeros_0f7a4_64 (by decide) (fun c_ => ?_) (fun c_ => ?_)
          · skip
            have b_ := zT_le rfl zk_4 c_
            refine lv_iload_n hx hb dJ6_numberOfTrailingZeros_0f7a4_74 rfl (lv_at hl 1 rfl) ?_
            refine lv_iload_n hx hb dJ6_numberOfTrailingZeros_0f7a4_75 rfl (lv_at hl 0 rfl) ?_
            refine lv_iconst (v := 1) hx hb dJ6_numberOfTrailingZeros_0f7a4_76 (by decide) ?_
            refine lv_iushr hx hb dJ6_numberOfTrailingZeros_0f7a4_77 rfl ?_
            refine lv_topi (fun z77 e_z77 => ?_)
            have b_ := zushr1 rfl e_z77 (by omega)
            refine lv_iadd hx hb dJ6_numberOfTrailingZeros_0f7a4_78 ?_
            refine lv_topi (fun z78 e_z78 => ?_)
            have b_ := zadd zk_17 rfl e_z78 (by omega) (by omega)
            refine W.widen (k := 0) (n := 0) (by decide) (by decide) ?_
            have hpost : (0 ≤ z78.toInt ∧ z78.toInt ≤ 32) ∧ (x0.toInt ≠ 0 → z78.toInt ≤ 31) := ⟨(by first | with_reducible assumption | exact ⟨by omega, by omega⟩), by omega⟩
            have hP9 : va_P (dC, dI) vwCl [] s.heap := hP
            have hD9 : va_D A [] := hD
            exact W.iret (v := z78) hx hb hr (fun t ht hW => ⟨⟨z78, (fun _ => 0), rfl, hpost, (fun _ => 0), (fun _ => (fun _ => 0)), (fun _ => (fun _ => 0)), by rw [ht]; exact hP9, va_K.moved hW.alike hK, hD9⟩, hS.F ht⟩) hS.2.2 dJ6_numberOfTrailingZeros_0f7a4_79
          · skip
            have b_ := zF_le rfl zk_4 c_
            refine lv_iinc (v := 19) (lv' := [(1, .int 19), (0, .int z32)]) hx hb dJ6_numberOfTrailingZeros_0f7a4_67 hl (k := 1) rfl (by decide) (by decide) rfl (fun ls hl => ?_)
            refine lv_iload_n hx hb dJ6_numberOfTrailingZeros_0f7a4_70 rfl (lv_at hl 1 rfl) ?_
            refine lv_iconst (v := 2) hx hb dJ6_numberOfTrailingZeros_0f7a4_71 (by decide) ?_
            refine lv_iushr hx hb dJ6_numberOfTrailingZeros_0f7a4_72 rfl ?_
            refine lv_topi (fun z72 e_z72 => ?_)
            have b_ := zushr2 rfl e_z72 (by omega)
            refine lv_istore_n (lv' := [(0, .int z72), (1, .int 19)]) hx hb dJ6_numberOfTrailingZeros_0f7a4_73 rfl hl (by decide) rfl (fun ls hl => ?_)
            refine lv_iload_n hx hb dJ6_numberOfTrailingZeros_0f7a4_74 rfl (lv_at hl 1 rfl) ?_
            refine lv_iload_n hx hb dJ6_numberOfTrailingZeros_0f7a4_75 rfl (lv_at hl 0 rfl) ?_
            refine lv_iconst (v := 1) hx hb dJ6_numberOfTrailingZeros_0f7a4_76 (by decide) ?_
            refine lv_iushr hx hb dJ6_numberOfTrailingZeros_0f7a4_77 rfl ?_
            refine lv_topi (fun z77 e_z77 => ?_)
            have b_ := zushr1 rfl e_z77 (by omega)
            refine lv_iadd hx hb dJ6_numberOfTrailingZeros_0f7a4_78 ?_
            refine lv_topi (fun z78 e_z78 => ?_)
            have b_ := zadd zk_19 rfl e_z78 (by omega) (by omega)
            refine W.widen (k := 0) (n := 0) (by decide) (by decide) ?_
            have hpost : (0 ≤ z78.toInt ∧ z78.toInt ≤ 32) ∧ (x0.toInt ≠ 0 → z78.toInt ≤ 31) := ⟨(by first | with_reducible assumption | exact ⟨by omega, by omega⟩), by omega⟩
            have hP9 : va_P (dC, dI) vwCl [] s.heap := hP
            have hD9 : va_D A [] := hD
            exact W.iret (v := z78) hx hb hr (fun t ht hW => ⟨⟨z78, (fun _ => 0), rfl, hpost, (fun _ => 0), (fun _ => (fun _ => 0)), (fun _ => (fun _ => 0)), by rw [ht]; exact hP9, va_K.moved hW.alike hK, hD9⟩, hS.F ht⟩) hS.2.2 dJ6_numberOfTrailingZeros_0f7a4_79
        · skip
          have b_ := zF_le rfl zk_16 c_
          refine lv_iinc (v := 21) (lv' := [(1, .int 21), (0, .int z32)]) hx hb dJ6_numberOfTrailingZeros_0f7a4_55 hl (k := 1) rfl (by decide) (by decide) rfl (fun ls hl => ?_)
          refine lv_iload_n hx hb dJ6_numberOfTrailingZeros_0f7a4_58 rfl (lv_at hl 1 rfl) ?_
          refine lv_iconst (v := 4) hx hb dJ6_numberOfTrailingZeros_0f7a4_59 (by decide) ?_
          refine lv_iushr hx hb dJ6_numberOfTrailingZeros_0f7a4_60 rfl ?_
          refine lv_topi (fun z60 e_z60 => ?_)
          have b_ := zushr4 rfl e_z60 (by omega)
          refine lv_istore_n (lv' := [(0, .int z60), (1, .int 21)]) hx hb dJ6_numberOfTrailingZeros_0f7a4_61 rfl hl (by decide) rfl (fun ls hl => ?_)
          refine lv_iload_n hx hb dJ6_numberOfTrailingZeros_0f7a4_62 rfl (lv_at hl 0 rfl) ?_
          refine lv_iconst (v := 4) hx hb dJ6_numberOfTrailingZeros_0f7a4_63 (by decide) ?_
          refine lv_icmp_le (tgt := 74) hx hb dJ6_numberOfTrailingZeros_0f7a4_64 (by decide) (fun c_ => ?_) (fun c_ => ?_)
          · skip
            have b_ := zT_le rfl zk_4 c_
            refine lv_iload_n hx hb dJ6_numberOfTrailingZeros_0f7a4_74 rfl (lv_at hl 1 rfl) ?_
            refine lv_iload_n hx hb dJ6_numberOfTrailingZeros_0f7a4_75 rfl (lv_at hl 0 rfl) ?_
            refine lv_iconst (v := 1) hx hb dJ6_numberOfTrailingZeros_0f7a4_76 (by decide) ?_
            refine lv_iushr hx hb dJ6_numberOfTrailingZeros_0f7a4_77 rfl ?_
            refine lv_topi (fun z77 e_z77 => ?_)
            have b_ := zushr1 rfl e_z77 (by omega)
            refine lv_iadd hx hb dJ6_numberOfTrailingZeros_0f7a4_78 ?_
            refine lv_topi (fun z78 e_z78 => ?_)
            have b_ := zadd zk_21 rfl e_z78 (by omega) (by omega)
            refine W.widen (k := 0) (n := 0) (by decide) (by decide) ?_
            have hpost : (0 ≤ z78.toInt ∧ z78.toInt ≤ 32) ∧ (x0.toInt ≠ 0 → z78.toInt ≤ 31) := ⟨(by first | with_reducible assumption | exact ⟨by omega, by omega⟩), by omega⟩
            have hP9 : va_P (dC, dI) vwCl [] s.heap := hP
            have hD9 : va_D A [] := hD
            exact W.iret (v := z78) hx hb hr (fun t ht hW => ⟨⟨z78, (fun _ => 0), rfl, hpost, (fun _ => 0), (fun _ => (fun _ => 0)), (fun _ => (fun _ => 0)), by rw [ht]; exact hP9, va_K.moved hW.alike hK, hD9⟩, hS.F ht⟩) hS.2.2 dJ6_numberOfTrailingZeros_0f7a4_79
          · skip
            have b_ := zF_le rfl zk_4 c_
            refine lv_iinc (v := 23) (lv' := [(1, .int 23), (0, .int z60)]) hx hb dJ6_numberOfTrailingZeros_0f7a4_67 hl (k := 1) rfl (by decide) (by decide) rfl (fun ls hl => ?_)
            refine lv_iload_n hx hb dJ6_numberOfTrailingZeros_0f7a4_70 rfl (lv_at hl 1 rfl) ?_
            refine lv_iconst (v := 2) hx hb dJ6_numberOfTrailingZeros_0f7a4_71 (by decide) ?_
            refine lv_iushr hx hb dJ6_numberOfTrailingZeros_0f7a4_72 rfl ?_
            refine lv_topi (fun z72 e_z72 => ?_)
            have b_ := zushr2 rfl e_z72 (by omega)
            refine lv_istore_n (lv' := [(0, .int z72), (1, .int 23)]) hx hb dJ6_numberOfTrailingZeros_0f7a4_73 rfl hl (by decide) rfl (fun ls hl => ?_)
            refine lv_iload_n hx hb dJ6_numberOfTrailingZeros_0f7a4_74 rfl (lv_at hl 1 rfl) ?_
            refine lv_iload_n hx hb dJ6_numberOfTrailingZeros_0f7a4_75 rfl (lv_at hl 0 rfl) ?_
            refine lv_iconst (v := 1) hx hb dJ6_numberOfTrailingZeros_0f7a4_76 (by decide) ?_
            refine lv_iushr hx hb dJ6_numberOfTrailingZeros_0f7a4_77 rfl ?_
            refine lv_topi (fun z77 e_z77 => ?_)
            have b_ := zushr1 rfl e_z77 (by omega)
            refine lv_iadd hx hb dJ6_numberOfTrailingZeros_0f7a4_78 ?_
            refine lv_topi (fun z78 e_z78 => ?_)
            have b_ := zadd zk_23 rfl e_z78 (by omega) (by omega)
            refine W.widen (k := 0) (n := 0) (by decide) (by decide) ?_
            have hpost : (0 ≤ z78.toInt ∧ z78.toInt ≤ 32) ∧ (x0.toInt ≠ 0 → z78.toInt ≤ 31) := ⟨(by first | with_reducible assumption | exact ⟨by omega, by omega⟩), by omega⟩
            have hP9 : va_P (dC, dI) vwCl [] s.heap := hP
            have hD9 : va_D A [] := hD
            exact W.iret (v := z78) hx hb hr (fun t ht hW => ⟨⟨z78, (fun _ => 0), rfl, hpost, (fun _ => 0), (fun _ => (fun _ => 0)), (fun _ => (fun _ => 0)), by rw [ht]; exact hP9, va_K.moved hW.alike hK, hD9⟩, hS.F ht⟩) hS.2.2 dJ6_numberOfTrailingZeros_0f7a4_79
      · skip
        have b_ := zF_le rfl zk_256 c_
        refine lv_iinc (v := 25) (lv' := [(1, .int 25), (0, .int z32)]) hx hb dJ6_numberOfTrailingZeros_0f7a4_41 hl (k := 1) rfl (by decide) (by decide) rfl (fun ls hl => ?_)
        refine lv_iload_n hx hb dJ6_numberOfTrailingZeros_0f7a4_44 rfl (lv_at hl 1 rfl) ?_
        refine lv_bipush (v := 8) hx hb dJ6_numberOfTrailingZeros_0f7a4_45 (by decide) ?_
        refine lv_iushr hx hb dJ6_numberOfTrailingZeros_0f7a4_47 rfl ?_
        refine lv_topi (fun z47 e_z47 => ?_)
        have b_ := zushr8 rfl e_z47 (by omega)
        refine lv_istore_n (lv' := [(0, .int z47), (1, .int 25)]) hx hb dJ6_numberOfTrailingZeros_0f7a4_48 rfl hl (by decide) rfl (fun ls hl => ?_)
        refine lv_iload_n hx hb dJ6_numberOfTrailingZeros_0f7a4_49 rfl (lv_at hl 0 rfl) ?_
        refine lv_bipush (v := 16) hx hb dJ6_numberOfTrailingZeros_0f7a4_50 (by decide) ?_
        refine lv_icmp_le (tgt := 62) hx hb dJ6_numberOfTrailingZeros_0f7a4_52 (by decide) (fun c_ => ?_) (fun c_ => ?_)
        · skip
          have b_ := zT_le rfl zk_16 c_
          refine lv_iload_n hx hb dJ6_numberOfTrailingZeros_0f7a4_62 rfl (lv_at hl 0 rfl) ?_
          refine lv_iconst (v := 4) hx hb dJ6_numberOfTrailingZeros_0f7a4_63 (by decide) ?_
          refine lv_icmp_le (tgt := 74) hx hb dJ6_numberOfTrailingZeros_0f7a4_64 (by decide) (fun c_ => ?_) (fun c_ => ?_)
          · skip
            have b_ := zT_le rfl zk_4 c_
            refine lv_iload_n hx hb dJ6_numberOfTrailingZeros_0f7a4_74 rfl (lv_at hl 1 rfl) ?_
            refine lv_iload_n hx hb dJ6_numberOfTrailingZeros_0f7a4_75 rfl (lv_at hl 0 rfl) ?_
            refine lv_iconst (v := 1) hx hb dJ6_numberOfTrailingZeros_0f7a4_76 (by decide) ?_
            refine lv_iushr hx hb dJ6_numberOfTrailingZeros_0f7a4_77 rfl ?_
            refine lv_topi (fun z77 e_z77 => ?_)
            have b_ := zushr1 rfl e_z77 (by omega)
            refine lv_iadd hx hb dJ6_numberOfTrailingZeros_0f7a4_78 ?_
            refine lv_topi (fun z78 e_z78 => ?_)
            have b_ := zadd zk_25 rfl e_z78 (by omega) (by omega)
            refine W.widen (k := 0) (n := 0) (by decide) (by decide) ?_
            have hpost : (0 ≤ z78.toInt ∧ z78.toInt ≤ 32) ∧ (x0.toInt ≠ 0 → z78.toInt ≤ 31) := ⟨(by first | with_reducible assumption | exact ⟨by omega, by omega⟩), by omega⟩
            have hP9 : va_P (dC, dI) vwCl [] s.heap := hP
            have hD9 : va_D A [] := hD
            exact W.iret (v := z78) hx hb hr (fun t ht hW => ⟨⟨z78, (fun _ => 0), rfl, hpost, (fun _ => 0), (fun _ => (fun _ => 0)), (fun _ => (fun _ => 0)), by rw [ht]; exact hP9, va_K.moved hW.alike hK, hD9⟩, hS.F ht⟩) hS.2.2 dJ6_numberOfTrailingZeros_0f7a4_79
          · skip
            have b_ := zF_le rfl zk_4 c_
            refine lv_iinc (v := 27) (lv' := [(1, .int 27), (0, .int z47)]) hx hb dJ6_numberOfTrailingZeros_0f7a4_67 hl (k := 1) rfl (by decide) (by decide) rfl (fun ls hl => ?_)
            refine lv_iload_n hx hb dJ6_numberOfTrailingZeros_0f7a4_70 rfl (lv_at hl 1 rfl) ?_
            refine lv_iconst (v := 2) hx hb dJ6_numberOfTrailingZeros_0f7a4_71 (by decide) ?_
            refine lv_iushr hx hb dJ6_numberOfTrailingZeros_0f7a4_72 rfl ?_
            refine lv_topi (fun z72 e_z72 => ?_)
            have b_ := zushr2 rfl e_z72 (by omega)
            refine lv_istore_n (lv' := [(0, .int z72), (1, .int 27)]) hx hb dJ6_numberOfTrailingZeros_0f7a4_73 rfl hl (by decide) rfl (fun ls hl => ?_)
            refine lv_iload_n hx hb dJ6_numberOfTrailingZeros_0f7a4_74 rfl (lv_at hl 1 rfl) ?_
            refine lv_iload_n hx hb dJ6_numberOfTrailingZeros_0f7a4_75 rfl (lv_at hl 0 rfl) ?_
            refine lv_iconst (v := 1) hx hb dJ6_numberOfTrailingZeros_0f7a4_76 (by decide) ?_
            refine lv_iushr hx hb dJ6_numberOfTrailingZeros_0f7a4_77 rfl ?_
            refine lv_topi (fun z77 e_z77 => ?_)
            have b_ := zushr1 rfl e_z77 (by omega)
            refine lv_iadd hx hb dJ6_numberOfTrailingZeros_0f7a4_78 ?_
            refine lv_topi (fun z78 e_z78 => ?_)
            have b_ := zadd zk_27 rfl e_z78 (by omega) (by omega)
            refine W.widen (k := 0) (n := 0) (by decide) (by decide) ?_
            have hpost : (0 ≤ z78.toInt ∧ z78.toInt ≤ 32) ∧ (x0.toInt ≠ 0 → z78.toInt ≤ 31) := ⟨(by first | with_reducible assumption | exact ⟨by omega, by omega⟩), by omega⟩
            have hP9 : va_P (dC, dI) vwCl [] s.heap := hP
            have hD9 : va_D A [] := hD
            exact W.iret (v := z78) hx hb hr (fun t ht hW => ⟨⟨z78, (fun _ => 0), rfl, hpost, (fun _ => 0), (fun _ => (fun _ => 0)), (fun _ => (fun _ => 0)), by rw [ht]; exact hP9, va_K.moved hW.alike hK, hD9⟩, hS.F ht⟩) hS.2.2 dJ6_numberOfTrailingZeros_0f7a4_79
        · skip
          have b_ := zF_le rfl zk_16 c_
          refine lv_iinc (v := 29) (lv' := [(1, .int 29), (0, .int z47)]) hx hb dJ6_numberOfTrailingZeros_0f7a4_55 hl (k := 1) rfl (by decide) (by decide) rfl (fun ls hl => ?_)
          refine lv_iload_n hx hb dJ6_numberOfTrailingZeros_0f7a4_58 rfl (lv_at hl 1 rfl) ?_
          refine lv_iconst (v := 4) hx hb dJ6_numberOfTrailingZeros_0f7a4_59 (by decide) ?_
          refine lv_iushr hx hb dJ6_numberOfTrailingZeros_0f7a4_60 rfl ?_
          refine lv_topi (fun z60 e_z60 => ?_)
          have b_ := zushr4 rfl e_z60 (by omega)
          refine lv_istore_n (lv' := [(0, .int z60), (1, .int 29)]) hx hb dJ6_numberOfTrailingZeros_0f7a4_61 rfl hl (by decide) rfl (fun ls hl => ?_)
          refine lv_iload_n hx hb dJ6_numberOfTrailingZeros_0f7a4_62 rfl (lv_at hl 0 rfl) ?_
          refine lv_iconst (v := 4) hx hb dJ6_numberOfTrailingZeros_0f7a4_63 (by decide) ?_
          refine lv_icmp_le (tgt := 74) hx hb dJ6_numberOfTrailingZeros_0f7a4_64 (by decide) (fun c_ => ?_) (fun c_ => ?_)
          · skip
            have b_ := zT_le rfl zk_4 c_
            refine lv_iload_n hx hb dJ6_numberOfTrailingZeros_0f7a4_74 rfl (lv_at hl 1 rfl) ?_
            refine lv_iload_n hx hb dJ6_numberOfTrailingZeros_0f7a4_75 rfl (lv_at hl 0 rfl) ?_
            refine lv_iconst (v := 1) hx hb dJ6_numberOfTrailingZeros_0f7a4_76 (by decide) ?_
            refine lv_iushr hx hb dJ6_numberOfTrailingZeros_0f7a4_77 rfl ?_
            refine lv_topi (fun z77 e_z77 => ?_)
            have b_ := zushr1 rfl e_z77 (by omega)
            refine lv_iadd hx hb dJ6_numberOfTrailingZeros_0f7a4_78 ?_
            refine lv_topi (fun z78 e_z78 => ?_)
            have b_ := zadd zk_29 rfl e_z78 (by omega) (by omega)
            refine W.widen (k := 0) (n := 0) (by decide) (by decide) ?_
            have hpost : (0 ≤ z78.toInt ∧ z78.toInt ≤ 32) ∧ (x0.toInt ≠ 0 → z78.toInt ≤ 31) := ⟨(by first | with_reducible assumption | exact ⟨by omega, by omega⟩), by omega⟩
            have hP9 : va_P (dC, dI) vwCl [] s.heap := hP
            have hD9 : va_D A [] := hD
            exact W.iret (v := z78) hx hb hr (fun t ht hW => ⟨⟨z78, (fun _ => 0), rfl, hpost, (fun _ => 0), (fun _ => (fun _ => 0)), (fun _ => (fun _ => 0)), by rw [ht]; exact hP9, va_K.moved hW.alike hK, hD9⟩, hS.F ht⟩) hS.2.2 dJ6_numberOfTrailingZeros_0f7a4_79
          · skip
            have b_ := zF_le rfl zk_4 c_
            refine lv_iinc (v := 31) (lv' := [(1, .int 31), (0, .int z60)]) hx hb dJ6_numberOfTrailingZeros_0f7a4_67 hl (k := 1) rfl (by decide) (by decide) rfl (fun ls hl => ?_)
            refine lv_iload_n hx hb dJ6_numberOfTrailingZeros_0f7a4_70 rfl (lv_at hl 1 rfl) ?_
            refine lv_iconst (v := 2) hx hb dJ6_numberOfTrailingZeros_0f7a4_71 (by decide) ?_
            refine lv_iushr hx hb dJ6_numberOfTrailingZeros_0f7a4_72 rfl ?_
            refine lv_topi (fun z72 e_z72 => ?_)
            have b_ := zushr2 rfl e_z72 (by omega)
            refine lv_istore_n (lv' := [(0, .int z72), (1, .int 31)]) hx hb dJ6_numberOfTrailingZeros_0f7a4_73 rfl hl (by decide) rfl (fun ls hl => ?_)
            refine lv_iload_n hx hb dJ6_numberOfTrailingZeros_0f7a4_74 rfl (lv_at hl 1 rfl) ?_
            refine lv_iload_n hx hb dJ6_numberOfTrailingZeros_0f7a4_75 rfl (lv_at hl 0 rfl) ?_
            refine lv_iconst (v := 1) hx hb dJ6_numberOfTrailingZeros_0f7a4_76 (by decide) ?_
            refine lv_iushr hx hb dJ6_numberOfTrailingZeros_0f7a4_77 rfl ?_
            refine lv_topi (fun z77 e_z77 => ?_)
            have b_ := zushr1 rfl e_z77 (by omega)
            refine lv_iadd hx hb dJ6_numberOfTrailingZeros_0f7a4_78 ?_
            refine lv_topi (fun z78 e_z78 => ?_)
            have b_ := zadd zk_31 rfl e_z78 (by omega) (by omega)
            refine W.widen (k := 0) (n := 0) (by decide) (by decide) ?_
            have hpost : (0 ≤ z78.toInt ∧ z78.toInt ≤ 32) ∧ (x0.toInt ≠ 0 → z78.toInt ≤ 31) := ⟨(by first | with_reducible assumption | exact ⟨by omega, by omega⟩), by omega⟩
            have hP9 : va_P (dC, dI) vwCl [] s.heap := hP
            have hD9 : va_D A [] := hD
            exact W.iret (v := z78) hx hb hr (fun t ht hW => ⟨⟨z78, (fun _ => 0), rfl, hpost, (fun _ => 0), (fun _ => (fun _ => 0)), (fun _ => (fun _ => 0)), by rw [ht]; exact hP9, va_K.moved hW.alike hK, hD9⟩, hS.F ht⟩) hS.2.2 dJ6_numberOfTrailingZeros_0f7a4_79
  · skip
    have b_ := zF_gt rfl zk_0 c_
    refine lv_iload_n hx hb dJ6_numberOfTrailingZeros_0f7a4_12 rfl (lv_at hl 0 rfl) ?_
    refine lv_bipush (v := 32) hx hb dJ6_numberOfTrailingZeros_0f7a4_13 (by decide) ?_
    refine lv_iand hx hb dJ6_numberOfTrailingZeros_0f7a4_15 ?_
    refine lv_topi (fun z15 e_z15 => ?_)
    have b_ := zand (x := z6) zk_32 e_z15 (by decide)
    have b_ := zntz e_z2 e_z5 e_z6 e_z15 (by omega)
    refine W.widen (k := 0) (n := 0) (by decide) (by decide) ?_
    have hpost : (0 ≤ z15.toInt ∧ z15.toInt ≤ 32) ∧ (x0.toInt ≠ 0 → z15.toInt ≤ 31) := ⟨(by first | with_reducible assumption | exact ⟨by omega, by omega⟩), by omega⟩
    have hP9 : va_P (dC, dI) vwCl [] s.heap := hP
    have hD9 : va_D A [] := hD
    exact W.iret (v := z15) hx hb hr (fun t ht hW => ⟨⟨z15, (fun _ => 0), rfl, hpost, (fun _ => 0), (fun _ => (fun _ => 0)), (fun _ => (fun _ => 0)), by rw [ht]; exact hP9, va_K.moved hW.alike hK, hD9⟩, hS.F ht⟩) hS.2.2 dJ6_numberOfTrailingZeros_0f7a4_16
