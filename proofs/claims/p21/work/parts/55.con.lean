theorem c_areNear (l : Launch) : ∀ k, C_X13_areNear k l := by
  intro k
  cases k with
  | zero =>
    intro dC dI adK adV h0 q0 k23 k24 k26 k4 k27 k28 k29 k37 k38 k25 sz v0 f23 f24 f26 f4 f27 f28 f29 f37 f38 f25 x1 x2 x3 x4 x5 x6 hv0 hf24 hf4 hf25 hx1 hx2 hx4 hx5 hx6 hp0_ hp1_ hp2_ hp3_ hp4_ hp5_ hp6_ hp7_
    exact False.elim (by omega)
  | succ n => exact sX13_areNear_0 l n
def C_X13_hasPlace (k : Nat) (l : Launch) : Prop := ∀ (dC : Nat → ClassId) (dI : Nat → Nat → Nat) (adK adV : Nat → Nat) (h0 : Nat) (q0 : Nat → Nat) (k10 : ClassId) (k23 : ClassId) (k24 : ClassId) (k26 : ClassId) (k4 : ClassId) (k27 : ClassId) (k28 : ClassId) (k29 : ClassId) (k37 : ClassId) (k38 : ClassId) (k25 : ClassId) (k11 : ClassId) (sz : Nat) (v0 : Nat → Int32) (f10 : Nat → Int32) (f23 : Nat → Int32) (f24 : Nat → Int32) (f26 : Nat → Int32) (f4 : Nat → Int32) (f27 : Nat → Int32) (f28 : Nat → Int32) (f29 : Nat → Int32) (f37 : Nat → Int32) (f38 : Nat → Int32) (f25 : Nat → Int32) (f11 : Nat → Int32) (x1 : Int32) (x2 : Int32) (hv0 : zR rg_Model v0) (hf10 : zA 0 512 f10) (hf24 : zA (-1) 1299 f24) (hf4 : zA 0 400 f4) (hf25 : zA (-1) 1299 f25) (hf11 : zA 0 512 f11) (hx1 : 0 ≤ x1.toInt ∧ x1.toInt ≤ 1299) (hx2 : 0 ≤ x2.toInt ∧ x2.toInt ≤ 119) (hp0_ : x1.toInt < ((k : Nat) : Int)) (hp1_ : zTr f23 f24 f25 f26 (v0 42).toInt (v0 47).toInt) (hp2_ : zLf f27 f28 f29 (v0 47).toInt) (hp3_ : x1.toInt < (v0 42).toInt) (hp4_ : zPl (f23 ((x1 : Int32)).toNatClampNeg).toInt), Met l yX13_hasPlace (zw yX13_hasPlace cX13_hasPlace 4 (some .boolean)) { frames := k + 25, cells := 0, slots := 0, locals := 24 * k + 800 } (zPc dC dI adK adV [.ref h0, .int x1, .int x2] sz [(h0, .inr (13, mX13 q0 v0)), ((q0 11), zi k10 120 f10), ((q0 38), zi k23 1300 f23), ((q0 39), zi k24 1300 f24), ((q0 41), zi k26 1300 f26), ((q0 5), zi k4 122880 f4), ((q0 43), zi k27 40 f27), ((q0 44), zi k28 40 f28), ((q0 45), zi k29 40 f29), ((q0 61), zi k37 200 f37), ((q0 62), zi k38 16000 f38), ((q0 40), zi k25 1300 f25), ((q0 12), zi k11 120 f11)] [(k10, .int), (k23, .int), (k24, .int), (k26, .int), (k4, .short), (k27, .int), (k28, .int), (k29, .int), (k37, .int), (k38, .boolean), (k25, .int), (k11, .int)]) (va_Qi (fun (r : Int32) (u : Nat → Int32) => (0 ≤ r.toInt ∧ r.toInt ≤ 1)) (fun (u : Nat → Int32) (t : State) => ∃ (ww : Nat → Int64) (aa : Nat → Nat → Int32) (bb : Nat → Nat → Int64), va_P (dC, dI) vwCl [(h0, .inr (13, mX13 q0 v0)), ((q0 11), zi k10 120 f10), ((q0 38), zi k23 1300 f23), ((q0 39), zi k24 1300 f24), ((q0 41), zi k26 1300 f26), ((q0 5), zi k4 122880 f4), ((q0 43), zi k27 40 f27), ((q0 44), zi k28 40 f28), ((q0 45), zi k29 40 f29), ((q0 61), zi k37 200 f37), ((q0 62), zi k38 16000 f38), ((q0 40), zi k25 1300 f25), ((q0 12), zi k11 120 f11)] t.heap ∧ va_K (dC, dI) vwCl [(k10, .int), (k23, .int), (k24, .int), (k26, .int), (k4, .short), (k27, .int), (k28, .int), (k29, .int), (k37, .int), (k38, .boolean), (k25, .int), (k11, .int)] t ∧ va_D (va_A [(h0, .inr (13, mX13 q0 v0)), ((q0 11), zi k10 120 f10), ((q0 38), zi k23 1300 f23), ((q0 39), zi k24 1300 f24), ((q0 41), zi k26 1300 f26), ((q0 5), zi k4 122880 f4), ((q0 43), zi k27 40 f27), ((q0 44), zi k28 40 f28), ((q0 45), zi k29 40 f29), ((q0 61), zi k37 200 f37), ((q0 62), zi k38 16000 f38), ((q0 40), zi k25 1300 f25), ((q0 12), zi k11 120 f11)] sz) [(h0, .inr (13, mX13 q0 v0)), ((q0 11), zi k10 120 f10), ((q0 38), zi k23 1300 f23), ((q0 39), zi k24 1300 f24), ((q0 41), zi k26 1300 f26), ((q0 5), zi k4 122880 f4), ((q0 43), zi k27 40 f27), ((q0 44), zi k28 40 f28), ((q0 45), zi k29 40 f29), ((q0 61), zi k37 200 f37), ((q0 62), zi k38 16000 f38), ((q0 40), zi k25 1300 f25), ((q0 12), zi k11 120 f11)]) (va_A [(h0, .inr (13, mX13 q0 v0)), ((q0 11), zi k10 120 f10), ((q0 38), zi k23 1300 f23), ((q0 39), zi k24 1300 f24), ((q0 41), zi k26 1300 f26), ((q0 5), zi k4 122880 f4), ((q0 43), zi k27 40 f27), ((q0 44), zi k28 40 f28), ((q0 45), zi k29 40 f29), ((q0 61), zi k37 200 f37), ((q0 62), zi k38 16000 f38), ((q0 40), zi k25 1300 f25), ((q0 12), zi k11 120 f11)] sz)) 0 0 (va_A [(h0, .inr (13, mX13 q0 v0)), ((q0 11), zi k10 120 f10), ((q0 38), zi k23 1300 f23), ((q0 39), zi k24 1300 f24), ((q0 41), zi k26 1300 f26), ((q0 5), zi k4 122880 f4), ((q0 43), zi k27 40 f27), ((q0 44), zi k28 40 f28), ((q0 45), zi k29 40 f29), ((q0 61), zi k37 200 f37), ((q0 62), zi k38 16000 f38), ((q0 40), zi k25 1300 f25), ((q0 12), zi k11 120 f11)] sz)
set_option maxHeartbeats 8000000 in
set_option maxRecDepth 100000 in
theorem sX13_hasPlace_0 (l : Launch) (n : Nat) : C_X13_hasPlace (n + 1) l := by
  intro dC dI adK adV h0 q0 k10 k23 k24 k26 k4 k27 k28 k29 k37 k38 k25 k11 sz v0 f10 f23 f24 f26 f4 f27 f28 f29 f37 f38 f25 f11 x1 x2 hv0 hf10 hf24 hf4 hf25 hf11 hx1 hx2 hp0_ hp1_ hp2_ hp3_ hp4_
  refine Met.ofW (cc := cX13_hasPlace) (maxL := 4) (ret := (some .boolean)) (by decide) rfl ?_
  intro p e s m args below meth c s₁ B hml hv
  obtain ⟨rfl, hsz, hP, hK, hD0, hE, hZ⟩ := hv
  have hx := B.exec
  have hb := B.bytes
  have hr := B.returns
  have hG : ∀ w ∈ zG, w.before _ s = true := fun w h => atoms_spec (ws := (zw yX13_hasPlace cX13_hasPlace 4 (some .boolean))) B.pre w (List.mem_cons_of_mem _ h)
  have hown : s.vm.findClass RX13 = some m.cls := findClass_of_methodNamed B.named
  have hlocks := B.notSynchronized

  subst hsz
  have hD := hD0.self (sz := s.heap.size)
  generalize hAe : va_A [(h0, .inr (13, mX13 q0 v0)), ((q0 11), zi k10 120 f10), ((q0 38), zi k23 1300 f23), ((q0 39), zi k24 1300 f24), ((q0 41), zi k26 1300 f26), ((q0 5), zi k4 122880 f4), ((q0 43), zi k27 40 f27), ((q0 44), zi k28 40 f28), ((q0 45), zi k29 40 f29), ((q0 61), zi k37 200 f37), ((q0 62), zi k38 16000 f38), ((q0 40), zi k25 1300 f25), ((q0 12), zi k11 120 f11)] s.heap.size = A at hD hZ ⊢
  have hA : ∀ q : Nat, s.heap.size ≤ q → A q := fun q h => by rw [← hAe]; exact Or.inr h
  have hS : va_S A s.heap s.heap [] := va_S.rf
  have hl := lv_entry ([.ref h0, .int x1, .int x2]) (n := 4) (Nat.le_of_ble_eq_true rfl)
  rw [lg_entry_eq]
  generalize (lg_sl ([.ref h0, .int x1, .int x2]) ++ List.replicate (4 - (lg_sl ([.ref h0, .int x1, .int x2])).length) Slot.unset).toArray = ls at hl ⊢
  have hl : lv_has ls 4 [(0, .ref h0), (1, .int x1), (2, .int x2)] := hl
  have b_ := zk_0
  have b_ := zk_1
  have b_ := zk_512
  have b_ : 0 ≤ (v0 42).toInt ∧ (v0 42).toInt ≤ 1300 := hv0 42
  have b_ : 0 ≤ (v0 47).toInt ∧ (v0 47).toInt ≤ 40 := hv0 47
  have b_ := hf10 (x2 : Int32).toNatClampNeg
  have b_ := hf11 (x2 : Int32).toNatClampNeg
  refine lv_iconst (v := 0) hx hb dX13_hasPlace_0 (by decide) ?_
  refine lv_istore_n (lv' := [(3, .int 0), (0, .ref h0), (1, .int x1), (2, .int x2)]) hx hb dX13_hasPlace_1 rfl hl (by decide) rfl (fun ls hl => ?_)
  refine zcutL (fun u2_ => (512 - (u2_ 0).toInt).toNat) (fun H locs ls u2_ w2_ a2_ b2_ => va_P (dC, dI) vwCl [(h0, .inr (13, mX13 q0 v0)), ((q0 11), zi k10 120 f10), ((q0 38), zi k23 1300 f23), ((q0 39), zi k24 1300 f24), ((q0 41), zi k26 1300 f26), ((q0 5), zi k4 122880 f4), ((q0 43), zi k27 40 f27), ((q0 44), zi k28 40 f28), ((q0 45), zi k29 40 f29), ((q0 61), zi k37 200 f37), ((q0 62), zi k38 16000 f38), ((q0 40), zi k25 1300 f25), ((q0 12), zi k11 120 f11)] H ∧ va_D A [(h0, .inr (13, mX13 q0 v0)), ((q0 11), zi k10 120 f10), ((q0 38), zi k23 1300 f23), ((q0 39), zi k24 1300 f24), ((q0 41), zi k26 1300 f26), ((q0 5), zi k4 122880 f4), ((q0 43), zi k27 40 f27), ((q0 44), zi k28 40 f28), ((q0 45), zi k29 40 f29), ((q0 61), zi k37 200 f37), ((q0 62), zi k38 16000 f38), ((q0 40), zi k25 1300 f25), ((q0 12), zi k11 120 f11)] ∧ va_S A s.heap H locs ∧ lv_has ls 4 [(0, .ref h0), (1, .int x1), (2, .int x2), (3, .int (u2_ 0))] ∧ (0 ≤ (u2_ 0).toInt ∧ (u2_ 0).toInt ≤ 512)) (fun ls u2_ w2_ => F0 m 2 ls []) 0 0 ?_ (fun hJ2 => ?_)
  · skip
    intro H locs ls u2_ w2_ a2_ b2_ hc hJ2
    obtain ⟨hP, hD, hS, hl, b_⟩ := hc
    refine lv_iload_n hx hb dX13_hasPlace_2 rfl (lv_at hl 3 rfl) ?_
    refine lv_aload_n hx hb dX13_hasPlace_3 rfl (lv_at hl 0 rfl) ?_
    refine va_get (D := (dC, dI)) (ci := 13) (v := .ref (q0 11)) (C := RX13) (T := TX13) (N := 75) hx hb hG zuX13 hown hK hP 0 rfl rfl 11 (by decide) (hG _ zv1615) (fun _ h9 => h9) rfl dX13_hasPlace_4 ?_
    refine lv_iload_n hx hb dX13_hasPlace_7 rfl (lv_at hl 2 rfl) ?_
    refine va_iald hx hb hK hP 1 0 rfl rfl (zin_lit ⟨by omega, by omega⟩) dX13_hasPlace_8 ?_
    refine lv_topi (fun z8 e_z8 => ?_)
    have b_ : 0 ≤ z8.toInt ∧ z8.toInt ≤ 512 := by rw [e_z8]; exact hf10 _
    refine lv_icmp_ge (tgt := 30) hx hb dX13_hasPlace_9 (by decide) (fun c_ => ?_) (fun c_ => ?_)
    · skip
      have b_ := zT_ge rfl rfl c_
      refine lv_sipush (v := 512) hx hb dX13_hasPlace_30 (by decide) ?_
      refine lv_istore_n (lv' := [(3, .int 512), (0, .ref h0), (1, .int x1), (2, .int x2)]) hx hb dX13_hasPlace_33 rfl hl (by decide) rfl (fun ls hl => ?_)
      refine zcutL (fun u34_ => (1024 - (u34_ 0).toInt).toNat) (fun H locs ls u34_ w34_ a34_ b34_ => va_P (dC, dI) vwCl [(h0, .inr (13, mX13 q0 v0)), ((q0 11), zi k10 120 f10), ((q0 38), zi k23 1300 f23), ((q0 39), zi k24 1300 f24), ((q0 41), zi k26 1300 f26), ((q0 5), zi k4 122880 f4), ((q0 43), zi k27 40 f27), ((q0 44), zi k28 40 f28), ((q0 45), zi k29 40 f29), ((q0 61), zi k37 200 f37), ((q0 62), zi k38 16000 f38), ((q0 40), zi k25 1300 f25), ((q0 12), zi k11 120 f11)] H ∧ va_D A [(h0, .inr (13, mX13 q0 v0)), ((q0 11), zi k10 120 f10), ((q0 38), zi k23 1300 f23), ((q0 39), zi k24 1300 f24), ((q0 41), zi k26 1300 f26), ((q0 5), zi k4 122880 f4), ((q0 43), zi k27 40 f27), ((q0 44), zi k28 40 f28), ((q0 45), zi k29 40 f29), ((q0 61), zi k37 200 f37), ((q0 62), zi k38 16000 f38), ((q0 40), zi k25 1300 f25), ((q0 12), zi k11 120 f11)] ∧ va_S A s.heap H locs ∧ lv_has ls 4 [(0, .ref h0), (1, .int x1), (2, .int x2), (3, .int (u34_ 0))] ∧ (512 ≤ (u34_ 0).toInt ∧ (u34_ 0).toInt ≤ 1024)) (fun ls u34_ w34_ => F0 m 34 ls []) 0 0 ?_ (fun hJ34 => ?_)
      · skip
        intro H locs ls u34_ w34_ a34_ b34_ hc hJ34
        obtain ⟨hP, hD, hS, hl, b_⟩ := hc
        refine lv_iload_n hx hb dX13_hasPlace_34 rfl (lv_at hl 3 rfl) ?_
        refine lv_sipush (v := 512) hx hb dX13_hasPlace_35 (by decide) ?_
        refine lv_aload_n hx hb dX13_hasPlace_38 rfl (lv_at hl 0 rfl) ?_
        refine va_get (D := (dC, dI)) (ci := 13) (v := .ref (q0 12)) (C := RX13) (T := TX13) (N := 75) hx hb hG zuX13 hown hK hP 0 rfl rfl 12 (by decide) (hG _ zv1616) (fun _ h9 => h9) rfl dX13_hasPlace_39 ?_
        refine lv_iload_n hx hb dX13_hasPlace_42 rfl (lv_at hl 2 rfl) ?_
        refine va_iald hx hb hK hP 12 11 rfl rfl (zin_lit ⟨by omega, by omega⟩) dX13_hasPlace_43 ?_
        refine lv_topi (fun z43 e_z43 => ?_)
        have b_ : 0 ≤ z43.toInt ∧ z43.toInt ≤ 512 := by rw [e_z43]; exact hf11 _
        refine lv_iadd hx hb dX13_hasPlace_44 ?_
        refine lv_topi (fun z44 e_z44 => ?_)
        have b_ := zadd zk_512 rfl e_z44 (by omega) (by omega)
        refine lv_icmp_ge (tgt := 66) hx hb dX13_hasPlace_45 (by decide) (fun c_ => ?_) (fun c_ => ?_)
        · skip
          have b_ := zT_ge rfl rfl c_
          refine lv_iconst (v := 0) hx hb dX13_hasPlace_66 (by decide) ?_
          refine W.widen (k := 0) (n := 0) (by decide) (by decide) ?_
          have hpost : (0 ≤ (0 : Int32).toInt ∧ (0 : Int32).toInt ≤ 1) := (by first | with_reducible assumption | exact ⟨by omega, by omega⟩)
          have hP9 : va_P (dC, dI) vwCl [(h0, .inr (13, mX13 q0 v0)), ((q0 11), zi k10 120 f10), ((q0 38), zi k23 1300 f23), ((q0 39), zi k24 1300 f24), ((q0 41), zi k26 1300 f26), ((q0 5), zi k4 122880 f4), ((q0 43), zi k27 40 f27), ((q0 44), zi k28 40 f28), ((q0 45), zi k29 40 f29), ((q0 61), zi k37 200 f37), ((q0 62), zi k38 16000 f38), ((q0 40), zi k25 1300 f25), ((q0 12), zi k11 120 f11)] H := hP
          have hD9 : va_D A [(h0, .inr (13, mX13 q0 v0)), ((q0 11), zi k10 120 f10), ((q0 38), zi k23 1300 f23), ((q0 39), zi k24 1300 f24), ((q0 41), zi k26 1300 f26), ((q0 5), zi k4 122880 f4), ((q0 43), zi k27 40 f27), ((q0 44), zi k28 40 f28), ((q0 45), zi k29 40 f29), ((q0 61), zi k37 200 f37), ((q0 62), zi k38 16000 f38), ((q0 40), zi k25 1300 f25), ((q0 12), zi k11 120 f11)] := hD
          exact W.zret (v := 0) hx hb hr rfl (fun t ht hW => ⟨⟨0, (fun _ => 0), rfl, hpost, (fun _ => 0), (fun _ => (fun _ => 0)), (fun _ => (fun _ => 0)), by rw [ht]; exact hP9, va_K.moved hW.alike hK, hD9⟩, hS.F ht⟩) hS.2.2 dX13_hasPlace_67
        · skip
          have b_ := zF_ge rfl rfl c_
          refine lv_aload_n hx hb dX13_hasPlace_48 rfl (lv_at hl 0 rfl) ?_
          refine lv_iload_n hx hb dX13_hasPlace_49 rfl (lv_at hl 1 rfl) ?_
          refine lv_iload_n hx hb dX13_hasPlace_50 rfl (lv_at hl 2 rfl) ?_
          refine lv_iload_n hx hb dX13_hasPlace_51 rfl (lv_at hl 3 rfl) ?_
          have hPc := hP.sub (ws' := [(h0, .inr (13, mX13 q0 v0)), ((q0 38), zi k23 1300 f23), ((q0 39), zi k24 1300 f24), ((q0 41), zi k26 1300 f26), ((q0 5), zi k4 122880 f4), ((q0 43), zi k27 40 f27), ((q0 44), zi k28 40 f28), ((q0 45), zi k29 40 f29), ((q0 61), zi k37 200 f37), ((q0 62), zi k38 16000 f38), ((q0 40), zi k25 1300 f25)]) [0, 2, 3, 4, 5, 6, 7, 8, 9, 10, 11] rfl
          have hDc := hD.sub (ws' := [(h0, .inr (13, mX13 q0 v0)), ((q0 38), zi k23 1300 f23), ((q0 39), zi k24 1300 f24), ((q0 41), zi k26 1300 f26), ((q0 5), zi k4 122880 f4), ((q0 43), zi k27 40 f27), ((q0 44), zi k28 40 f28), ((q0 45), zi k29 40 f29), ((q0 61), zi k37 200 f37), ((q0 62), zi k38 16000 f38), ((q0 40), zi k25 1300 f25)]) [0, 2, 3, 4, 5, 6, 7, 8, 9, 10, 11] (by decide) rfl
          have hKc := hK.sub (tys' := [(k23, .int), (k24, .int), (k26, .int), (k4, .short), (k27, .int), (k28, .int), (k29, .int), (k37, .int), (k38, .boolean), (k25, .int)]) [1, 2, 3, 4, 5, 6, 7, 8, 9, 10] rfl
          have hFc := va_free (wc := [(h0, .inr (13, mX13 q0 v0)), ((q0 38), zi k23 1300 f23), ((q0 39), zi k24 1300 f24), ((q0 41), zi k26 1300 f26), ((q0 5), zi k4 122880 f4), ((q0 43), zi k27 40 f27), ((q0 44), zi k28 40 f28), ((q0 45), zi k29 40 f29), ((q0 61), zi k37 200 f37), ((q0 62), zi k38 16000 f38), ((q0 40), zi k25 1300 f25)]) hD hS hA [0, 2, 3, 4, 5, 6, 7, 8, 9, 10, 11] rfl
          refine va_calli (va_runV (As := [.int x1, .int x2, .int (u34_ 0)]) (rest := []) ⟨hx, hb, hml, hown, hG⟩ (c_standsAt l (n + 1) dC dI adK adV h0 q0 k23 k24 k26 k4 k27 k28 k29 k37 k38 k25 H.size v0 f23 f24 f26 f4 f27 f28 f29 f37 f38 f25 x1 x2 (u34_ 0) hv0 hf24 hf4 hf25 (show (0 : Int) ≤ (x1 : Int32).toInt ∧ (x1 : Int32).toInt ≤ (1299 : Int) from (by first | with_reducible assumption | exact ⟨by omega, by omega⟩)) (show (0 : Int) ≤ (x2 : Int32).toInt ∧ (x2 : Int32).toInt ≤ (119 : Int) from (by first | with_reducible assumption | exact ⟨by omega, by omega⟩)) (show (0 : Int) ≤ ((u34_ 0) : Int32).toInt ∧ ((u34_ 0) : Int32).toInt ≤ (1023 : Int) from (by first | with_reducible assumption | exact ⟨by omega, by omega⟩)) (show x1.toInt < (((n + 1) : Nat) : Int) from by omega) (show zTr f23 f24 f25 f26 (v0 42).toInt (v0 47).toInt from by first | with_reducible assumption | assumption) (show zLf f27 f28 f29 (v0 47).toInt from by first | with_reducible assumption | assumption) (show x1.toInt < (v0 42).toInt from by omega) (show zPl (f23 ((x1 : Int32)).toNatClampNeg).toInt from by first | with_reducible assumption | assumption)) (cwV 3 hG (zgV zv2194 zv2196 zv119 zv142 zv2197) rfl rfl rfl (by decide +kernel) ⟨(show (n + 1) + 20 + 1 ≤ (n + 1) + 25 from by omega), (show 8 + (4 + 11) + (24 * (n + 1) + 600) ≤ 24 * (n + 1) + 800 from by omega)⟩) ⟨zPc_blind, va_recv hKc hPc (ci := 13) (q0 := 0) rfl rfl, zPc_pre hPc hKc hDc hE hS hFc hZ⟩ rfl rfl hl.1 rfl (lv_room (Nat.le_of_ble_eq_true rfl)) dX13_hasPlace_52 ⟨Nat.le_of_ble_eq_true rfl, Nat.le_of_ble_eq_true rfl⟩) hS (fun q _ h => hFc q h) hFc (fun r52_ u52_ t H1 locs ht hvm hw hB hz1 hk1 hS => ?_)
          replace hw : (0 ≤ r52_.toInt ∧ r52_.toInt ≤ 1) := hw
          have b_ := hw
          obtain ⟨w52_, a52_, b52_, hP1, hK1, hD1⟩ := hB
          rw [ht] at hP1
          obtain ⟨hP, hD⟩ := va_join (wr := [((q0 11), zi k10 120 f10), ((q0 12), zi k11 120 f11)]) (w1 := [(h0, .inr (13, mX13 q0 v0)), ((q0 38), zi k23 1300 f23), ((q0 39), zi k24 1300 f24), ((q0 41), zi k26 1300 f26), ((q0 5), zi k4 122880 f4), ((q0 43), zi k27 40 f27), ((q0 44), zi k28 40 f28), ((q0 45), zi k29 40 f29), ((q0 61), zi k37 200 f37), ((q0 62), zi k38 16000 f38), ((q0 40), zi k25 1300 f25)]) hP hD [0, 2, 3, 4, 5, 6, 7, 8, 9, 10, 11] [1, 12] rfl rfl (by decide) (by decide) hk1 hFc hP1 hD1
          have hP : va_P (dC, dI) vwCl [(h0, .inr (13, mX13 q0 v0)), ((q0 11), zi k10 120 f10), ((q0 38), zi k23 1300 f23), ((q0 39), zi k24 1300 f24), ((q0 41), zi k26 1300 f26), ((q0 5), zi k4 122880 f4), ((q0 43), zi k27 40 f27), ((q0 44), zi k28 40 f28), ((q0 45), zi k29 40 f29), ((q0 61), zi k37 200 f37), ((q0 62), zi k38 16000 f38), ((q0 40), zi k25 1300 f25), ((q0 12), zi k11 120 f11)] H1 := hP.sub [2, 0, 3, 4, 5, 6, 7, 8, 9, 10, 11, 12, 1] rfl
          have hD : va_D A [(h0, .inr (13, mX13 q0 v0)), ((q0 11), zi k10 120 f10), ((q0 38), zi k23 1300 f23), ((q0 39), zi k24 1300 f24), ((q0 41), zi k26 1300 f26), ((q0 5), zi k4 122880 f4), ((q0 43), zi k27 40 f27), ((q0 44), zi k28 40 f28), ((q0 45), zi k29 40 f29), ((q0 61), zi k37 200 f37), ((q0 62), zi k38 16000 f38), ((q0 40), zi k25 1300 f25), ((q0 12), zi k11 120 f11)] := hD.sub [2, 0, 3, 4, 5, 6, 7, 8, 9, 10, 11, 12, 1] (by decide) rfl
          generalize H1 = H at hP hS ⊢
          clear hz1
          refine lv_if_eq (tgt := 60) hx hb dX13_hasPlace_55 (by decide) (fun c_ => ?_) (fun c_ => ?_)
          · skip
            have b_ := zT_eq rfl zk_0 c_
            obtain ⟨z60, e_z60⟩ : ∃ z : Int32, z = (u34_ 0) + Int32.ofInt 1 := ⟨_, rfl⟩
            have b_ := zadd (x := (u34_ 0)) (y := Int32.ofInt 1) rfl (show (Int32.ofInt 1).toInt = 1 from by decide) e_z60 (by omega) (by omega)
            refine lv_iinc (v := z60) (lv' := [(3, .int z60), (0, .ref h0), (1, .int x1), (2, .int x2)]) hx hb dX13_hasPlace_60 hl (k := 3) rfl e_z60.symm (by decide) rfl (fun ls hl => ?_)
            refine lv_goto (tgt := 34) hx hb dX13_hasPlace_63 (by decide) ?_
            have hc : va_P (dC, dI) vwCl [(h0, .inr (13, mX13 q0 v0)), ((q0 11), zi k10 120 f10), ((q0 38), zi k23 1300 f23), ((q0 39), zi k24 1300 f24), ((q0 41), zi k26 1300 f26), ((q0 5), zi k4 122880 f4), ((q0 43), zi k27 40 f27), ((q0 44), zi k28 40 f28), ((q0 45), zi k29 40 f29), ((q0 61), zi k37 200 f37), ((q0 62), zi k38 16000 f38), ((q0 40), zi k25 1300 f25), ((q0 12), zi k11 120 f11)] H ∧ va_D A [(h0, .inr (13, mX13 q0 v0)), ((q0 11), zi k10 120 f10), ((q0 38), zi k23 1300 f23), ((q0 39), zi k24 1300 f24), ((q0 41), zi k26 1300 f26), ((q0 5), zi k4 122880 f4), ((q0 43), zi k27 40 f27), ((q0 44), zi k28 40 f28), ((q0 45), zi k29 40 f29), ((q0 61), zi k37 200 f37), ((q0 62), zi k38 16000 f38), ((q0 40), zi k25 1300 f25), ((q0 12), zi k11 120 f11)] ∧ va_S A s.heap H locs ∧ lv_has ls 4 [(0, .ref h0), (1, .int x1), (2, .int x2), (3, .int z60)] ∧ (512 ≤ z60.toInt ∧ z60.toInt ≤ 1024) := ⟨hP, hD, hS, lv_sub hl [1, 2, 3, 0] rfl, (by first | with_reducible assumption | exact ⟨by omega, by omega⟩)⟩
            exact hJ34 H locs ls (fun i => ([z60] : List (Int32)).getD i 0) (fun _ => 0) (fun _ => (fun _ => 0)) (fun _ => (fun _ => 0)) hc (show (1024 - z60.toInt).toNat < (1024 - (u34_ 0).toInt).toNat from by omega)
          · skip
            have b_ := zF_eq rfl zk_0 c_
            refine lv_iconst (v := 1) hx hb dX13_hasPlace_58 (by decide) ?_
            refine W.widen (k := 0) (n := 0) (by decide) (by decide) ?_
            have hpost : (0 ≤ (1 : Int32).toInt ∧ (1 : Int32).toInt ≤ 1) := (by first | with_reducible assumption | exact ⟨by omega, by omega⟩)
            have hP9 : va_P (dC, dI) vwCl [(h0, .inr (13, mX13 q0 v0)), ((q0 11), zi k10 120 f10), ((q0 38), zi k23 1300 f23), ((q0 39), zi k24 1300 f24), ((q0 41), zi k26 1300 f26), ((q0 5), zi k4 122880 f4), ((q0 43), zi k27 40 f27), ((q0 44), zi k28 40 f28), ((q0 45), zi k29 40 f29), ((q0 61), zi k37 200 f37), ((q0 62), zi k38 16000 f38), ((q0 40), zi k25 1300 f25), ((q0 12), zi k11 120 f11)] H := hP
            have hD9 : va_D A [(h0, .inr (13, mX13 q0 v0)), ((q0 11), zi k10 120 f10), ((q0 38), zi k23 1300 f23), ((q0 39), zi k24 1300 f24), ((q0 41), zi k26 1300 f26), ((q0 5), zi k4 122880 f4), ((q0 43), zi k27 40 f27), ((q0 44), zi k28 40 f28), ((q0 45), zi k29 40 f29), ((q0 61), zi k37 200 f37), ((q0 62), zi k38 16000 f38), ((q0 40), zi k25 1300 f25), ((q0 12), zi k11 120 f11)] := hD
            exact W.zret (v := 1) hx hb hr rfl (fun t ht hW => ⟨⟨1, (fun _ => 0), rfl, hpost, (fun _ => 0), (fun _ => (fun _ => 0)), (fun _ => (fun _ => 0)), by rw [ht]; exact hP9, va_K.moved hW.alike hK, hD9⟩, hS.F ht⟩) hS.2.2 dX13_hasPlace_59
      · skip
        have hc : va_P (dC, dI) vwCl [(h0, .inr (13, mX13 q0 v0)), ((q0 11), zi k10 120 f10), ((q0 38), zi k23 1300 f23), ((q0 39), zi k24 1300 f24), ((q0 41), zi k26 1300 f26), ((q0 5), zi k4 122880 f4), ((q0 43), zi k27 40 f27), ((q0 44), zi k28 40 f28), ((q0 45), zi k29 40 f29), ((q0 61), zi k37 200 f37), ((q0 62), zi k38 16000 f38), ((q0 40), zi k25 1300 f25), ((q0 12), zi k11 120 f11)] H ∧ va_D A [(h0, .inr (13, mX13 q0 v0)), ((q0 11), zi k10 120 f10), ((q0 38), zi k23 1300 f23), ((q0 39), zi k24 1300 f24), ((q0 41), zi k26 1300 f26), ((q0 5), zi k4 122880 f4), ((q0 43), zi k27 40 f27), ((q0 44), zi k28 40 f28), ((q0 45), zi k29 40 f29), ((q0 61), zi k37 200 f37), ((q0 62), zi k38 16000 f38), ((q0 40), zi k25 1300 f25), ((q0 12), zi k11 120 f11)] ∧ va_S A s.heap H locs ∧ lv_has ls 4 [(0, .ref h0), (1, .int x1), (2, .int x2), (3, .int 512)] ∧ (512 ≤ (512 : Int32).toInt ∧ (512 : Int32).toInt ≤ 1024) := ⟨hP, hD, hS, lv_sub hl [1, 2, 3, 0] rfl, (by first | with_reducible assumption | exact ⟨by omega, by omega⟩)⟩
        exact hJ34 H locs ls (fun i => ([512] : List (Int32)).getD i 0) (fun _ => 0) (fun _ => (fun _ => 0)) (fun _ => (fun _ => 0)) hc
    · skip
      have b_ := zF_ge rfl rfl c_
      refine lv_aload_n hx hb dX13_hasPlace_12 rfl (lv_at hl 0 rfl) ?_
      refine lv_iload_n hx hb dX13_hasPlace_13 rfl (lv_at hl 1 rfl) ?_
      refine lv_iload_n hx hb dX13_hasPlace_14 rfl (lv_at hl 2 rfl) ?_
      refine lv_iload_n hx hb dX13_hasPlace_15 rfl (lv_at hl 3 rfl) ?_
      have hPc := hP.sub (ws' := [(h0, .inr (13, mX13 q0 v0)), ((q0 38), zi k23 1300 f23), ((q0 39), zi k24 1300 f24), ((q0 41), zi k26 1300 f26), ((q0 5), zi k4 122880 f4), ((q0 43), zi k27 40 f27), ((q0 44), zi k28 40 f28), ((q0 45), zi k29 40 f29), ((q0 61), zi k37 200 f37), ((q0 62), zi k38 16000 f38), ((q0 40), zi k25 1300 f25)]) [0, 2, 3, 4, 5, 6, 7, 8, 9, 10, 11] rfl
      have hDc := hD.sub (ws' := [(h0, .inr (13, mX13 q0 v0)), ((q0 38), zi k23 1300 f23), ((q0 39), zi k24 1300 f24), ((q0 41), zi k26 1300 f26), ((q0 5), zi k4 122880 f4), ((q0 43), zi k27 40 f27), ((q0 44), zi k28 40 f28), ((q0 45), zi k29 40 f29), ((q0 61), zi k37 200 f37), ((q0 62), zi k38 16000 f38), ((q0 40), zi k25 1300 f25)]) [0, 2, 3, 4, 5, 6, 7, 8, 9, 10, 11] (by decide) rfl
      have hKc := hK.sub (tys' := [(k23, .int), (k24, .int), (k26, .int), (k4, .short), (k27, .int), (k28, .int), (k29, .int), (k37, .int), (k38, .boolean), (k25, .int)]) [1, 2, 3, 4, 5, 6, 7, 8, 9, 10] rfl
      have hFc := va_free (wc := [(h0, .inr (13, mX13 q0 v0)), ((q0 38), zi k23 1300 f23), ((q0 39), zi k24 1300 f24), ((q0 41), zi k26 1300 f26), ((q0 5), zi k4 122880 f4), ((q0 43), zi k27 40 f27), ((q0 44), zi k28 40 f28), ((q0 45), zi k29 40 f29), ((q0 61), zi k37 200 f37), ((q0 62), zi k38 16000 f38), ((q0 40), zi k25 1300 f25)]) hD hS hA [0, 2, 3, 4, 5, 6, 7, 8, 9, 10, 11] rfl
      refine va_calli (va_runV (As := [.int x1, .int x2, .int (u2_ 0)]) (rest := []) ⟨hx, hb, hml, hown, hG⟩ (c_standsAt l (n + 1) dC dI adK adV h0 q0 k23 k24 k26 k4 k27 k28 k29 k37 k38 k25 H.size v0 f23 f24 f26 f4 f27 f28 f29 f37 f38 f25 x1 x2 (u2_ 0) hv0 hf24 hf4 hf25 (show (0 : Int) ≤ (x1 : Int32).toInt ∧ (x1 : Int32).toInt ≤ (1299 : Int) from (by first | with_reducible assumption | exact ⟨by omega, by omega⟩)) (show (0 : Int) ≤ (x2 : Int32).toInt ∧ (x2 : Int32).toInt ≤ (119 : Int) from (by first | with_reducible assumption | exact ⟨by omega, by omega⟩)) (show (0 : Int) ≤ ((u2_ 0) : Int32).toInt ∧ ((u2_ 0) : Int32).toInt ≤ (1023 : Int) from (by first | with_reducible assumption | exact ⟨by omega, by omega⟩)) (show x1.toInt < (((n + 1) : Nat) : Int) from by omega) (show zTr f23 f24 f25 f26 (v0 42).toInt (v0 47).toInt from by first | with_reducible assumption | assumption) (show zLf f27 f28 f29 (v0 47).toInt from by first | with_reducible assumption | assumption) (show x1.toInt < (v0 42).toInt from by omega) (show zPl (f23 ((x1 : Int32)).toNatClampNeg).toInt from by first | with_reducible assumption | assumption)) (cwV 3 hG (zgV zv2194 zv2196 zv119 zv142 zv2197) rfl rfl rfl (by decide +kernel) ⟨(show (n + 1) + 20 + 1 ≤ (n + 1) + 25 from by omega), (show 8 + (4 + 11) + (24 * (n + 1) + 600) ≤ 24 * (n + 1) + 800 from by omega)⟩) ⟨zPc_blind, va_recv hKc hPc (ci := 13) (q0 := 0) rfl rfl, zPc_pre hPc hKc hDc hE hS hFc hZ⟩ rfl rfl hl.1 rfl (lv_room (Nat.le_of_ble_eq_true rfl)) dX13_hasPlace_16 ⟨Nat.le_of_ble_eq_true rfl, Nat.le_of_ble_eq_true rfl⟩) hS (fun q _ h => hFc q h) hFc (fun r16_ u16_ t H1 locs ht hvm hw hB hz1 hk1 hS => ?_)
      replace hw : (0 ≤ r16_.toInt ∧ r16_.toInt ≤ 1) := hw
      have b_ := hw
      obtain ⟨w16_, a16_, b16_, hP1, hK1, hD1⟩ := hB
      rw [ht] at hP1
      obtain ⟨hP, hD⟩ := va_join (wr := [((q0 11), zi k10 120 f10), ((q0 12), zi k11 120 f11)]) (w1 := [(h0, .inr (13, mX13 q0 v0)), ((q0 38), zi k23 1300 f23), ((q0 39), zi k24 1300 f24), ((q0 41), zi k26 1300 f26), ((q0 5), zi k4 122880 f4), ((q0 43), zi k27 40 f27), ((q0 44), zi k28 40 f28), ((q0 45), zi k29 40 f29), ((q0 61), zi k37 200 f37), ((q0 62), zi k38 16000 f38), ((q0 40), zi k25 1300 f25)]) hP hD [0, 2, 3, 4, 5, 6, 7, 8, 9, 10, 11] [1, 12] rfl rfl (by decide) (by decide) hk1 hFc hP1 hD1
      have hP : va_P (dC, dI) vwCl [(h0, .inr (13, mX13 q0 v0)), ((q0 11), zi k10 120 f10), ((q0 38), zi k23 1300 f23), ((q0 39), zi k24 1300 f24), ((q0 41), zi k26 1300 f26), ((q0 5), zi k4 122880 f4), ((q0 43), zi k27 40 f27), ((q0 44), zi k28 40 f28), ((q0 45), zi k29 40 f29), ((q0 61), zi k37 200 f37), ((q0 62), zi k38 16000 f38), ((q0 40), zi k25 1300 f25), ((q0 12), zi k11 120 f11)] H1 := hP.sub [2, 0, 3, 4, 5, 6, 7, 8, 9, 10, 11, 12, 1] rfl
      have hD : va_D A [(h0, .inr (13, mX13 q0 v0)), ((q0 11), zi k10 120 f10), ((q0 38), zi k23 1300 f23), ((q0 39), zi k24 1300 f24), ((q0 41), zi k26 1300 f26), ((q0 5), zi k4 122880 f4), ((q0 43), zi k27 40 f27), ((q0 44), zi k28 40 f28), ((q0 45), zi k29 40 f29), ((q0 61), zi k37 200 f37), ((q0 62), zi k38 16000 f38), ((q0 40), zi k25 1300 f25), ((q0 12), zi k11 120 f11)] := hD.sub [2, 0, 3, 4, 5, 6, 7, 8, 9, 10, 11, 12, 1] (by decide) rfl
      generalize H1 = H at hP hS ⊢
      clear hz1
      refine lv_if_eq (tgt := 24) hx hb dX13_hasPlace_19 (by decide) (fun c_ => ?_) (fun c_ => ?_)
      · skip
        have b_ := zT_eq rfl zk_0 c_
        obtain ⟨z24, e_z24⟩ : ∃ z : Int32, z = (u2_ 0) + Int32.ofInt 1 := ⟨_, rfl⟩
        have b_ := zadd (x := (u2_ 0)) (y := Int32.ofInt 1) rfl (show (Int32.ofInt 1).toInt = 1 from by decide) e_z24 (by omega) (by omega)
        refine lv_iinc (v := z24) (lv' := [(3, .int z24), (0, .ref h0), (1, .int x1), (2, .int x2)]) hx hb dX13_hasPlace_24 hl (k := 3) rfl e_z24.symm (by decide) rfl (fun ls hl => ?_)
        refine lv_goto (tgt := 2) hx hb dX13_hasPlace_27 (by decide) ?_
        have hc : va_P (dC, dI) vwCl [(h0, .inr (13, mX13 q0 v0)), ((q0 11), zi k10 120 f10), ((q0 38), zi k23 1300 f23), ((q0 39), zi k24 1300 f24), ((q0 41), zi k26 1300 f26), ((q0 5), zi k4 122880 f4), ((q0 43), zi k27 40 f27), ((q0 44), zi k28 40 f28), ((q0 45), zi k29 40 f29), ((q0 61), zi k37 200 f37), ((q0 62), zi k38 16000 f38), ((q0 40), zi k25 1300 f25), ((q0 12), zi k11 120 f11)] H ∧ va_D A [(h0, .inr (13, mX13 q0 v0)), ((q0 11), zi k10 120 f10), ((q0 38), zi k23 1300 f23), ((q0 39), zi k24 1300 f24), ((q0 41), zi k26 1300 f26), ((q0 5), zi k4 122880 f4), ((q0 43), zi k27 40 f27), ((q0 44), zi k28 40 f28), ((q0 45), zi k29 40 f29), ((q0 61), zi k37 200 f37), ((q0 62), zi k38 16000 f38), ((q0 40), zi k25 1300 f25), ((q0 12), zi k11 120 f11)] ∧ va_S A s.heap H locs ∧ lv_has ls 4 [(0, .ref h0), (1, .int x1), (2, .int x2), (3, .int z24)] ∧ (0 ≤ z24.toInt ∧ z24.toInt ≤ 512) := ⟨hP, hD, hS, lv_sub hl [1, 2, 3, 0] rfl, (by first | with_reducible assumption | exact ⟨by omega, by omega⟩)⟩
        exact hJ2 H locs ls (fun i => ([z24] : List (Int32)).getD i 0) (fun _ => 0) (fun _ => (fun _ => 0)) (fun _ => (fun _ => 0)) hc (show (512 - z24.toInt).toNat < (512 - (u2_ 0).toInt).toNat from by omega)
      · skip
        have b_ := zF_eq rfl zk_0 c_
        refine lv_iconst (v := 1) hx hb dX13_hasPlace_22 (by decide) ?_
        refine W.widen (k := 0) (n := 0) (by decide) (by decide) ?_
        have hpost : (0 ≤ (1 : Int32).toInt ∧ (1 : Int32).toInt ≤ 1) := (by first | with_reducible assumption | exact ⟨by omega, by omega⟩)
        have hP9 : va_P (dC, dI) vwCl [(h0, .inr (13, mX13 q0 v0)), ((q0 11), zi k10 120 f10), ((q0 38), zi k23 1300 f23), ((q0 39), zi k24 1300 f24), ((q0 41), zi k26 1300 f26), ((q0 5), zi k4 122880 f4), ((q0 43), zi k27 40 f27), ((q0 44), zi k28 40 f28), ((q0 45), zi k29 40 f29), ((q0 61), zi k37 200 f37), ((q0 62), zi k38 16000 f38), ((q0 40), zi k25 1300 f25), ((q0 12), zi k11 120 f11)] H := hP
        have hD9 : va_D A [(h0, .inr (13, mX13 q0 v0)), ((q0 11), zi k10 120 f10), ((q0 38), zi k23 1300 f23), ((q0 39), zi k24 1300 f24), ((q0 41), zi k26 1300 f26), ((q0 5), zi k4 122880 f4), ((q0 43), zi k27 40 f27), ((q0 44), zi k28 40 f28), ((q0 45), zi k29 40 f29), ((q0 61), zi k37 200 f37), ((q0 62), zi k38 16000 f38), ((q0 40), zi k25 1300 f25), ((q0 12), zi k11 120 f11)] := hD
        exact W.zret (v := 1) hx hb hr rfl (fun t ht hW => ⟨⟨1, (fun _ => 0), rfl, hpost, (fun _ => 0), (fun _ => (fun _ => 0)), (fun _ => (fun _ => 0)), by rw [ht]; exact hP9, va_K.moved hW.alike hK, hD9⟩, hS.F ht⟩) hS.2.2 dX13_hasPlace_23
  · skip
    have hc : va_P (dC, dI) vwCl [(h0, .inr (13, mX13 q0 v0)), ((q0 11), zi k10 120 f10), ((q0 38), zi k23 1300 f23), ((q0 39), zi k24 1300 f24), ((q0 41), zi k26 1300 f26), ((q0 5), zi k4 122880 f4), ((q0 43), zi k27 40 f27), ((q0 44), zi k28 40 f28), ((q0 45), zi k29 40 f29), ((q0 61), zi k37 200 f37), ((q0 62), zi k38 16000 f38), ((q0 40), zi k25 1300 f25), ((q0 12), zi k11 120 f11)] s.heap ∧ va_D A [(h0, .inr (13, mX13 q0 v0)), ((q0 11), zi k10 120 f10), ((q0 38), zi k23 1300 f23), ((q0 39), zi k24 1300 f24), ((q0 41), zi k26 1300 f26), ((q0 5), zi k4 122880 f4), ((q0 43), zi k27 40 f27), ((q0 44), zi k28 40 f28), ((q0 45), zi k29 40 f29), ((q0 61), zi k37 200 f37), ((q0 62), zi k38 16000 f38), ((q0 40), zi k25 1300 f25), ((q0 12), zi k11 120 f11)] ∧ va_S A s.heap s.heap [] ∧ lv_has ls 4 [(0, .ref h0), (1, .int x1), (2, .int x2), (3, .int 0)] ∧ (0 ≤ (0 : Int32).toInt ∧ (0 : Int32).toInt ≤ 512) := ⟨hP, hD, hS, lv_sub hl [1, 2, 3, 0] rfl, (by first | with_reducible assumption | exact ⟨by omega, by omega⟩)⟩
    exact hJ2 s.heap [] ls (fun i => ([0] : List (Int32)).getD i 0) (fun _ => 0) (fun _ => (fun _ => 0)) (fun _ => (fun _ => 0)) hc
theorem c_hasPlace (l : Launch) : ∀ k, C_X13_hasPlace k l := by
  intro k
  cases k with
  | zero =>
    intro dC dI adK adV h0 q0 k10 k23 k24 k26 k4 k27 k28 k29 k37 k38 k25 k11 sz v0 f10 f23 f24 f26 f4 f27 f28 f29 f37 f38 f25 f11 x1 x2 hv0 hf10 hf24 hf4 hf25 hf11 hx1 hx2 hp0_ hp1_ hp2_ hp3_ hp4_
    exact False.elim (by omega)
  | succ n => exact sX13_hasPlace_0 l n
def C_X13_isMatched (k : Nat) (l : Launch) : Prop := ∀ (dC : Nat → ClassId) (dI : Nat → Nat → Nat) (adK adV : Nat → Nat) (h0 : Nat) (q0 : Nat → Nat) (k23 : ClassId) (k8 : ClassId) (k26 : ClassId) (k28 : ClassId) (k30 : ClassId) (k24 : ClassId) (k25 : ClassId) (k10 : ClassId) (k4 : ClassId) (k27 : ClassId) (k29 : ClassId) (k37 : ClassId) (k38 : ClassId) (k11 : ClassId) (sz : Nat) (v0 : Nat → Int32) (f23 : Nat → Int32) (f8 : Nat → Int32) (f26 : Nat → Int32) (f28 : Nat → Int32) (f30 : Nat → Int32) (f24 : Nat → Int32) (f25 : Nat → Int32) (f10 : Nat → Int32) (f4 : Nat → Int32) (f27 : Nat → Int32) (f29 : Nat → Int32) (f37 : Nat → Int32) (f38 : Nat → Int32) (f11 : Nat → Int32) (x1 : Int32) (x2 : Int32) (hv0 : zR rg_Model v0) (hf24 : zA (-1) 1299 f24) (hf25 : zA (-1) 1299 f25) (hf10 : zA 0 512 f10) (hf4 : zA 0 400 f4) (hf11 : zA 0 512 f11) (hx1 : 0 ≤ x1.toInt ∧ x1.toInt ≤ 1299) (hx2 : 0 ≤ x2.toInt ∧ x2.toInt ≤ 119) (hp0_ : x1.toInt < ((k : Nat) : Int)) (hp1_ : zTr f23 f24 f25 f26 (v0 42).toInt (v0 47).toInt) (hp2_ : zLf f27 f28 f29 (v0 47).toInt) (hp3_ : x1.toInt < (v0 42).toInt), Met l yX13_isMatched (zw yX13_isMatched cX13_isMatched 3 (some .boolean)) { frames := k + 40, cells := 0, slots := 0, locals := 24 * k + 1200 } (zPc dC dI adK adV [.ref h0, .int x1, .int x2] sz [(h0, .inr (13, mX13 q0 v0)), ((q0 38), zi k23 1300 f23), ((q0 9), zi k8 120 f8), ((q0 41), zi k26 1300 f26), ((q0 44), zi k28 40 f28), ((q0 46), zi k30 40 f30), ((q0 39), zi k24 1300 f24), ((q0 40), zi k25 1300 f25), ((q0 11), zi k10 120 f10), ((q0 5), zi k4 122880 f4), ((q0 43), zi k27 40 f27), ((q0 45), zi k29 40 f29), ((q0 61), zi k37 200 f37), ((q0 62), zi k38 16000 f38), ((q0 12), zi k11 120 f11)] [(k23, .int), (k8, .int), (k26, .int), (k28, .int), (k30, .int), (k24, .int), (k25, .int), (k10, .int), (k4, .short), (k27, .int), (k29, .int), (k37, .int), (k38, .boolean), (k11, .int)]) (va_Qi (fun (r : Int32) (u : Nat → Int32) => (0 ≤ r.toInt ∧ r.toInt ≤ 1)) (fun (u : Nat → Int32) (t : State) => ∃ (ww : Nat → Int64) (aa : Nat → Nat → Int32) (bb : Nat → Nat → Int64), va_P (dC, dI) vwCl [(h0, .inr (13, mX13 q0 v0)), ((q0 38), zi k23 1300 f23), ((q0 9), zi k8 120 f8), ((q0 41), zi k26 1300 f26), ((q0 44), zi k28 40 f28), ((q0 46), zi k30 40 f30), ((q0 39), zi k24 1300 f24), ((q0 40), zi k25 1300 f25), ((q0 11), zi k10 120 f10), ((q0 5), zi k4 122880 f4), ((q0 43), zi k27 40 f27), ((q0 45), zi k29 40 f29), ((q0 61), zi k37 200 f37), ((q0 62), zi k38 16000 f38), ((q0 12), zi k11 120 f11)] t.heap ∧ va_K (dC, dI) vwCl [(k23, .int), (k8, .int), (k26, .int), (k28, .int), (k30, .int), (k24, .int), (k25, .int), (k10, .int), (k4, .short), (k27, .int), (k29, .int), (k37, .int), (k38, .boolean), (k11, .int)] t ∧ va_D (va_A [(h0, .inr (13, mX13 q0 v0)), ((q0 38), zi k23 1300 f23), ((q0 9), zi k8 120 f8), ((q0 41), zi k26 1300 f26), ((q0 44), zi k28 40 f28), ((q0 46), zi k30 40 f30), ((q0 39), zi k24 1300 f24), ((q0 40), zi k25 1300 f25), ((q0 11), zi k10 120 f10), ((q0 5), zi k4 122880 f4), ((q0 43), zi k27 40 f27), ((q0 45), zi k29 40 f29), ((q0 61), zi k37 200 f37), ((q0 62), zi k38 16000 f38), ((q0 12), zi k11 120 f11)] sz) [(h0, .inr (13, mX13 q0 v0)), ((q0 38), zi k23 1300 f23), ((q0 9), zi k8 120 f8), ((q0 41), zi k26 1300 f26), ((q0 44), zi k28 40 f28), ((q0 46), zi k30 40 f30), ((q0 39), zi k24 1300 f24), ((q0 40), zi k25 1300 f25), ((q0 11), zi k10 120 f10), ((q0 5), zi k4 122880 f4), ((q0 43), zi k27 40 f27), ((q0 45), zi k29 40 f29), ((q0 61), zi k37 200 f37), ((q0 62), zi k38 16000 f38), ((q0 12), zi k11 120 f11)]) (va_A [(h0, .inr (13, mX13 q0 v0)), ((q0 38), zi k23 1300 f23), ((q0 9), zi k8 120 f8), ((q0 41), zi k26 1300 f26), ((q0 44), zi k28 40 f28), ((q0 46), zi k30 40 f30), ((q0 39), zi k24 1300 f24), ((q0 40), zi k25 1300 f25), ((q0 11), zi k10 120 f10), ((q0 5), zi k4 122880 f4), ((q0 43), zi k27 40 f27), ((q0 45), zi k29 40 f29), ((q0 61), zi k37 200 f37), ((q0 62), zi k38 16000 f38), ((q0 12), zi k11 120 f11)] sz)) 0 0 (va_A [(h0, .inr (13, mX13 q0 v0)), ((q0 38), zi k23 1300 f23), ((q0 9), zi k8 120 f8), ((q0 41), zi k26 1300 f26), ((q0 44), zi k28 40 f28), ((q0 46), zi k30 40 f30), ((q0 39), zi k24 1300 f24), ((q0 40), zi k25 1300 f25), ((q0 11), zi k10 120 f10), ((q0 5), zi k4 122880 f4), ((q0 43), zi k27 40 f27), ((q0 45), zi k29 40 f29), ((q0 61), zi k37 200 f37), ((q0 62), zi k38 16000 f38), ((q0 12), zi k11 120 f11)] sz)
set_option maxHeartbeats 8000000 in
set_option maxRecDepth 100000 in
theorem sX13_isMatched_0 (l : Launch) (n : Nat) (ih : C_X13_isMatched n l) : C_X13_isMatched (n + 1) l := by
  intro dC dI adK adV h0 q0 k23 k8 k26 k28 k30 k24 k25 k10 k4 k27 k29 k37 k38 k11 sz v0 f23 f8 f26 f28 f30 f24 f25 f10 f4 f27 f29 f37 f38 f11 x1 x2 hv0 hf24 hf25 hf10 hf4 hf11 hx1 hx2 hp0_ hp1_ hp2_ hp3_
  refine Met.ofW (cc := cX13_isMatched) (maxL := 3) (ret := (some .boolean)) (by decide) rfl ?_
  intro p e s m args below meth c s₁ B hml hv
  obtain ⟨rfl, hsz, hP, hK, hD0, hE, hZ⟩ := hv
  have hx := B.exec
  have hb := B.bytes
  have hr := B.returns
  have hG : ∀ w ∈ zG, w.before _ s = true := fun w h => atoms_spec (ws := (zw yX13_isMatched cX13_isMatched 3 (some .boolean))) B.pre w (List.mem_cons_of_mem _ h)
  have hown : s.vm.findClass RX13 = some m.cls := findClass_of_methodNamed B.named
  have hlocks := B.notSynchronized

  subst hsz
  have hD := hD0.self (sz := s.heap.size)
  generalize hAe : va_A [(h0, .inr (13, mX13 q0 v0)), ((q0 38), zi k23 1300 f23), ((q0 9), zi k8 120 f8), ((q0 41), zi k26 1300 f26), ((q0 44), zi k28 40 f28), ((q0 46), zi k30 40 f30), ((q0 39), zi k24 1300 f24), ((q0 40), zi k25 1300 f25), ((q0 11), zi k10 120 f10), ((q0 5), zi k4 122880 f4), ((q0 43), zi k27 40 f27), ((q0 45), zi k29 40 f29), ((q0 61), zi k37 200 f37), ((q0 62), zi k38 16000 f38), ((q0 12), zi k11 120 f11)] s.heap.size = A at hD hZ ⊢
  have hA : ∀ q : Nat, s.heap.size ≤ q → A q := fun q h => by rw [← hAe]; exact Or.inr h
  have hS : va_S A s.heap s.heap [] := va_S.rf
  have hl := lv_entry ([.ref h0, .int x1, .int x2]) (n := 3) (Nat.le_of_ble_eq_true rfl)
  rw [lg_entry_eq]
  generalize (lg_sl ([.ref h0, .int x1, .int x2]) ++ List.replicate (3 - (lg_sl ([.ref h0, .int x1, .int x2])).length) Slot.unset).toArray = ls at hl ⊢
  have hl : lv_has ls 3 [(0, .ref h0), (1, .int x1), (2, .int x2)] := hl
  have b_ := zk_0
  have b_ := zk_1
  have b_ := zk_4
  have b_ := zk_5
  have b_ := zk_6
  have b_ := zk_7
  have b_ := zk_8
  have b_ := zk_9
  have b_ := zk_10
  have b_ := zk_11
  have b_ : 0 ≤ (v0 42).toInt ∧ (v0 42).toInt ≤ 1300 := hv0 42
  have b_ : 0 ≤ (v0 47).toInt ∧ (v0 47).toInt ≤ 40 := hv0 47
  refine lv_aload_n hx hb dX13_isMatched_0 rfl (lv_at hl 0 rfl) ?_
  refine va_get (D := (dC, dI)) (ci := 13) (v := .ref (q0 38)) (C := RX13) (T := TX13) (N := 75) hx hb hG zuX13 hown hK hP 0 rfl rfl 38 (by decide) (hG _ zv1642) (fun _ h9 => h9) rfl dX13_isMatched_1 ?_
  refine lv_iload_n hx hb dX13_isMatched_4 rfl (lv_at hl 1 rfl) ?_
  refine va_iald hx hb hK hP 1 0 rfl rfl (zin_lit ⟨by omega, by omega⟩) dX13_isMatched_5 ?_
  refine lv_topi (fun z5 e_z5 => ?_)
  obtain ⟨n1, n2, n3, n4, n5, n6, n7⟩ := zTr_get hp1_ (x := x1) (by omega) hp3_
  rw [← e_z5] at n1 n2 n3 n4 n5 n6 n7
  have b_ : 1 ≤ z5.toInt ∧ z5.toInt ≤ 11 := ⟨n6, n7⟩
  clear n6 n7
  rcases Classical.em (z5 = (4 : Int32)) with c_ | c_
  · skip
    have b_ : z5.toInt = 4 := by rw [c_]; exact zk_4
    refine lv_tableIn (off := 46) (tgt := 52) hx hb dX13_isMatched_6 (by omega) (by omega) (by rw [b_]; decide) (by decide) ?_
    refine lv_aload_n hx hb dX13_isMatched_52 rfl (lv_at hl 0 rfl) ?_
    refine va_get (D := (dC, dI)) (ci := 13) (v := .ref (q0 9)) (C := RX13) (T := TX13) (N := 75) hx hb hG zuX13 hown hK hP 0 rfl rfl 9 (by decide) (hG _ zv1613) (fun _ h9 => h9) rfl dX13_isMatched_53 ?_
    refine lv_iload_n hx hb dX13_isMatched_56 rfl (lv_at hl 2 rfl) ?_
    refine va_iald hx hb hK hP 2 1 rfl rfl (zin_lit ⟨by omega, by omega⟩) dX13_isMatched_57 ?_
    refine lv_topi (fun z57 e_z57 => ?_)
    refine lv_aload_n hx hb dX13_isMatched_58 rfl (lv_at hl 0 rfl) ?_
    refine va_get (D := (dC, dI)) (ci := 13) (v := .ref (q0 44)) (C := RX13) (T := TX13) (N := 75) hx hb hG zuX13 hown hK hP 0 rfl rfl 44 (by decide) (hG _ zv1648) (fun _ h9 => h9) rfl dX13_isMatched_59 ?_
    refine lv_aload_n hx hb dX13_isMatched_62 rfl (lv_at hl 0 rfl) ?_
    refine va_get (D := (dC, dI)) (ci := 13) (v := .ref (q0 41)) (C := RX13) (T := TX13) (N := 75) hx hb hG zuX13 hown hK hP 0 rfl rfl 41 (by decide) (hG _ zv1645) (fun _ h9 => h9) rfl dX13_isMatched_63 ?_
    refine lv_iload_n hx hb dX13_isMatched_66 rfl (lv_at hl 1 rfl) ?_
    refine va_iald hx hb hK hP 3 2 rfl rfl (zin_lit ⟨by omega, by omega⟩) dX13_isMatched_67 ?_
    refine lv_topi (fun z67 e_z67 => ?_)
    have b_ : 0 ≤ z67.toInt ∧ z67.toInt < (v0 47).toInt := by have q := n3 (by omega); rw [← e_z67] at q; exact q
    refine va_iald hx hb hK hP 4 3 rfl rfl (zin_lit ⟨by omega, by omega⟩) dX13_isMatched_68 ?_
    refine lv_topi (fun z68 e_z68 => ?_)
    have b_ : -2147483648 ≤ z57.toInt ∧ z57.toInt ≤ 2147483647 := ⟨zlo _, zhi _⟩
    have b_ : -2147483648 ≤ z68.toInt ∧ z68.toInt ≤ 2147483647 := ⟨zlo _, zhi _⟩
    refine lv_icmp_lt (tgt := 96) hx hb dX13_isMatched_69 (by decide) (fun c_ => ?_) (fun c_ => ?_)
    · skip
      have b_ := zT_lt rfl rfl c_
      refine lv_iconst (v := 0) hx hb dX13_isMatched_96 (by decide) ?_
      refine W.widen (k := 0) (n := 0) (by decide) (by decide) ?_
      have hpost : (0 ≤ (0 : Int32).toInt ∧ (0 : Int32).toInt ≤ 1) := (by first | with_reducible assumption | exact ⟨by omega, by omega⟩)
      have hP9 : va_P (dC, dI) vwCl [(h0, .inr (13, mX13 q0 v0)), ((q0 38), zi k23 1300 f23), ((q0 9), zi k8 120 f8), ((q0 41), zi k26 1300 f26), ((q0 44), zi k28 40 f28), ((q0 46), zi k30 40 f30), ((q0 39), zi k24 1300 f24), ((q0 40), zi k25 1300 f25), ((q0 11), zi k10 120 f10), ((q0 5), zi k4 122880 f4), ((q0 43), zi k27 40 f27), ((q0 45), zi k29 40 f29), ((q0 61), zi k37 200 f37), ((q0 62), zi k38 16000 f38), ((q0 12), zi k11 120 f11)] s.heap := hP
      have hD9 : va_D A [(h0, .inr (13, mX13 q0 v0)), ((q0 38), zi k23 1300 f23), ((q0 9), zi k8 120 f8), ((q0 41), zi k26 1300 f26), ((q0 44), zi k28 40 f28), ((q0 46), zi k30 40 f30), ((q0 39), zi k24 1300 f24), ((q0 40), zi k25 1300 f25), ((q0 11), zi k10 120 f10), ((q0 5), zi k4 122880 f4), ((q0 43), zi k27 40 f27), ((q0 45), zi k29 40 f29), ((q0 61), zi k37 200 f37), ((q0 62), zi k38 16000 f38), ((q0 12), zi k11 120 f11)] := hD
      exact W.zret (v := 0) hx hb hr rfl (fun t ht hW => ⟨⟨0, (fun _ => 0), rfl, hpost, (fun _ => 0), (fun _ => (fun _ => 0)), (fun _ => (fun _ => 0)), by rw [ht]; exact hP9, va_K.moved hW.alike hK, hD9⟩, hS.F ht⟩) hS.2.2 dX13_isMatched_97
    · skip
      have b_ := zF_lt rfl rfl c_
      refine lv_aload_n hx hb dX13_isMatched_72 rfl (lv_at hl 0 rfl) ?_
      refine va_get (D := (dC, dI)) (ci := 13) (v := .ref (q0 9)) (C := RX13) (T := TX13) (N := 75) hx hb hG zuX13 hown hK hP 0 rfl rfl 9 (by decide) (hG _ zv1613) (fun _ h9 => h9) rfl dX13_isMatched_73 ?_
      refine lv_iload_n hx hb dX13_isMatched_76 rfl (lv_at hl 2 rfl) ?_
      refine va_iald hx hb hK hP 2 1 rfl rfl (zin_lit ⟨by omega, by omega⟩) dX13_isMatched_77 ?_
      refine lv_topi (fun z77 e_z77 => ?_)
      refine lv_aload_n hx hb dX13_isMatched_78 rfl (lv_at hl 0 rfl) ?_
      refine va_get (D := (dC, dI)) (ci := 13) (v := .ref (q0 46)) (C := RX13) (T := TX13) (N := 75) hx hb hG zuX13 hown hK hP 0 rfl rfl 46 (by decide) (hG _ zv1650) (fun _ h9 => h9) rfl dX13_isMatched_79 ?_
      refine lv_aload_n hx hb dX13_isMatched_82 rfl (lv_at hl 0 rfl) ?_
      refine va_get (D := (dC, dI)) (ci := 13) (v := .ref (q0 41)) (C := RX13) (T := TX13) (N := 75) hx hb hG zuX13 hown hK hP 0 rfl rfl 41 (by decide) (hG _ zv1645) (fun _ h9 => h9) rfl dX13_isMatched_83 ?_
      refine lv_iload_n hx hb dX13_isMatched_86 rfl (lv_at hl 1 rfl) ?_
      refine va_iald hx hb hK hP 3 2 rfl rfl (zin_lit ⟨by omega, by omega⟩) dX13_isMatched_87 ?_
      refine lv_topi (fun z87 e_z87 => ?_)
      have b_ : 0 ≤ z87.toInt ∧ z87.toInt < (v0 47).toInt := by have q := n3 (by omega); rw [← e_z87] at q; exact q
      refine va_iald hx hb hK hP 5 4 rfl rfl (zin_lit ⟨by omega, by omega⟩) dX13_isMatched_88 ?_
      refine lv_topi (fun z88 e_z88 => ?_)
      have b_ : -2147483648 ≤ z77.toInt ∧ z77.toInt ≤ 2147483647 := ⟨zlo _, zhi _⟩
      have b_ : -2147483648 ≤ z88.toInt ∧ z88.toInt ≤ 2147483647 := ⟨zlo _, zhi _⟩
      refine lv_icmp_gt (tgt := 96) hx hb dX13_isMatched_89 (by decide) (fun c_ => ?_) (fun c_ => ?_)
      · skip
        have b_ := zT_gt rfl rfl c_
        refine lv_iconst (v := 0) hx hb dX13_isMatched_96 (by decide) ?_
        refine W.widen (k := 0) (n := 0) (by decide) (by decide) ?_
        have hpost : (0 ≤ (0 : Int32).toInt ∧ (0 : Int32).toInt ≤ 1) := (by first | with_reducible assumption | exact ⟨by omega, by omega⟩)
        have hP9 : va_P (dC, dI) vwCl [(h0, .inr (13, mX13 q0 v0)), ((q0 38), zi k23 1300 f23), ((q0 9), zi k8 120 f8), ((q0 41), zi k26 1300 f26), ((q0 44), zi k28 40 f28), ((q0 46), zi k30 40 f30), ((q0 39), zi k24 1300 f24), ((q0 40), zi k25 1300 f25), ((q0 11), zi k10 120 f10), ((q0 5), zi k4 122880 f4), ((q0 43), zi k27 40 f27), ((q0 45), zi k29 40 f29), ((q0 61), zi k37 200 f37), ((q0 62), zi k38 16000 f38), ((q0 12), zi k11 120 f11)] s.heap := hP
        have hD9 : va_D A [(h0, .inr (13, mX13 q0 v0)), ((q0 38), zi k23 1300 f23), ((q0 9), zi k8 120 f8), ((q0 41), zi k26 1300 f26), ((q0 44), zi k28 40 f28), ((q0 46), zi k30 40 f30), ((q0 39), zi k24 1300 f24), ((q0 40), zi k25 1300 f25), ((q0 11), zi k10 120 f10), ((q0 5), zi k4 122880 f4), ((q0 43), zi k27 40 f27), ((q0 45), zi k29 40 f29), ((q0 61), zi k37 200 f37), ((q0 62), zi k38 16000 f38), ((q0 12), zi k11 120 f11)] := hD
        exact W.zret (v := 0) hx hb hr rfl (fun t ht hW => ⟨⟨0, (fun _ => 0), rfl, hpost, (fun _ => 0), (fun _ => (fun _ => 0)), (fun _ => (fun _ => 0)), by rw [ht]; exact hP9, va_K.moved hW.alike hK, hD9⟩, hS.F ht⟩) hS.2.2 dX13_isMatched_97
      · skip
        have b_ := zF_gt rfl rfl c_
        refine lv_iconst (v := 1) hx hb dX13_isMatched_92 (by decide) ?_
        refine lv_goto (tgt := 97) hx hb dX13_isMatched_93 (by decide) ?_
        refine W.widen (k := 0) (n := 0) (by decide) (by decide) ?_
        have hpost : (0 ≤ (1 : Int32).toInt ∧ (1 : Int32).toInt ≤ 1) := (by first | with_reducible assumption | exact ⟨by omega, by omega⟩)
        have hP9 : va_P (dC, dI) vwCl [(h0, .inr (13, mX13 q0 v0)), ((q0 38), zi k23 1300 f23), ((q0 9), zi k8 120 f8), ((q0 41), zi k26 1300 f26), ((q0 44), zi k28 40 f28), ((q0 46), zi k30 40 f30), ((q0 39), zi k24 1300 f24), ((q0 40), zi k25 1300 f25), ((q0 11), zi k10 120 f10), ((q0 5), zi k4 122880 f4), ((q0 43), zi k27 40 f27), ((q0 45), zi k29 40 f29), ((q0 61), zi k37 200 f37), ((q0 62), zi k38 16000 f38), ((q0 12), zi k11 120 f11)] s.heap := hP
        have hD9 : va_D A [(h0, .inr (13, mX13 q0 v0)), ((q0 38), zi k23 1300 f23), ((q0 9), zi k8 120 f8), ((q0 41), zi k26 1300 f26), ((q0 44), zi k28 40 f28), ((q0 46), zi k30 40 f30), ((q0 39), zi k24 1300 f24), ((q0 40), zi k25 1300 f25), ((q0 11), zi k10 120 f10), ((q0 5), zi k4 122880 f4), ((q0 43), zi k27 40 f27), ((q0 45), zi k29 40 f29), ((q0 61), zi k37 200 f37), ((q0 62), zi k38 16000 f38), ((q0 12), zi k11 120 f11)] := hD
        exact W.zret (v := 1) hx hb hr rfl (fun t ht hW => ⟨⟨1, (fun _ => 0), rfl, hpost, (fun _ => 0), (fun _ => (fun _ => 0)), (fun _ => (fun _ => 0)), by rw [ht]; exact hP9, va_K.moved hW.alike hK, hD9⟩, hS.F ht⟩) hS.2.2 dX13_isMatched_97
  · skip
    have b_ : z5.toInt ≠ 4 := fun h => c_ (zeqi.mpr (h.trans zk_4.symm))
    rcases Classical.em (z5 = (5 : Int32)) with c_ | c_
    · skip
      have b_ : z5.toInt = 5 := by rw [c_]; exact zk_5
      refine lv_tableIn (off := 92) (tgt := 98) hx hb dX13_isMatched_6 (by omega) (by omega) (by rw [b_]; decide) (by decide) ?_
      refine lv_aload_n hx hb dX13_isMatched_98 rfl (lv_at hl 0 rfl) ?_
      refine lv_aload_n hx hb dX13_isMatched_99 rfl (lv_at hl 0 rfl) ?_
      refine va_get (D := (dC, dI)) (ci := 13) (v := .ref (q0 39)) (C := RX13) (T := TX13) (N := 75) hx hb hG zuX13 hown hK hP 0 rfl rfl 39 (by decide) (hG _ zv1643) (fun _ h9 => h9) rfl dX13_isMatched_100 ?_
      refine lv_iload_n hx hb dX13_isMatched_103 rfl (lv_at hl 1 rfl) ?_
      refine va_iald hx hb hK hP 6 5 rfl rfl (zin_lit ⟨by omega, by omega⟩) dX13_isMatched_104 ?_
      refine lv_topi (fun z104 e_z104 => ?_)
      have b_ : (-1) ≤ z104.toInt ∧ z104.toInt ≤ 1299 := by rw [e_z104]; exact hf24 _
      have b_ : 0 ≤ z104.toInt ∧ z104.toInt < x1.toInt := by have q := n1 (by omega); rw [← e_z104] at q; omega
      have hpl104 : zPl (f23 (z104).toNatClampNeg).toInt := by have q := n4 (by omega); rw [← e_z104] at q; exact q
      refine lv_aload_n hx hb dX13_isMatched_105 rfl (lv_at hl 0 rfl) ?_
      refine va_get (D := (dC, dI)) (ci := 13) (v := .ref (q0 40)) (C := RX13) (T := TX13) (N := 75) hx hb hG zuX13 hown hK hP 0 rfl rfl 40 (by decide) (hG _ zv1644) (fun _ h9 => h9) rfl dX13_isMatched_106 ?_
      refine lv_iload_n hx hb dX13_isMatched_109 rfl (lv_at hl 1 rfl) ?_
      refine va_iald hx hb hK hP 7 6 rfl rfl (zin_lit ⟨by omega, by omega⟩) dX13_isMatched_110 ?_
      refine lv_topi (fun z110 e_z110 => ?_)
      have b_ : (-1) ≤ z110.toInt ∧ z110.toInt ≤ 1299 := by rw [e_z110]; exact hf25 _
      have b_ : 0 ≤ z110.toInt ∧ z110.toInt < x1.toInt := by have q := n1 (by omega); rw [← e_z110] at q; omega
      have hpl110 : zPl (f23 (z110).toNatClampNeg).toInt := by have q := n5 (by omega); rw [← e_z110] at q; exact q
      refine lv_aload_n hx hb dX13_isMatched_111 rfl (lv_at hl 0 rfl) ?_
      refine va_get (D := (dC, dI)) (ci := 13) (v := .ref (q0 41)) (C := RX13) (T := TX13) (N := 75) hx hb hG zuX13 hown hK hP 0 rfl rfl 41 (by decide) (hG _ zv1645) (fun _ h9 => h9) rfl dX13_isMatched_112 ?_
      refine lv_iload_n hx hb dX13_isMatched_115 rfl (lv_at hl 1 rfl) ?_
      refine va_iald hx hb hK hP 3 2 rfl rfl (zin_lit ⟨by omega, by omega⟩) dX13_isMatched_116 ?_
      refine lv_topi (fun z116 e_z116 => ?_)
      refine lv_iload_n hx hb dX13_isMatched_117 rfl (lv_at hl 2 rfl) ?_
      refine lv_iconst (v := 0) hx hb dX13_isMatched_118 (by decide) ?_
      refine lv_aload_n hx hb dX13_isMatched_119 rfl (lv_at hl 0 rfl) ?_
      refine va_get (D := (dC, dI)) (ci := 13) (v := .ref (q0 11)) (C := RX13) (T := TX13) (N := 75) hx hb hG zuX13 hown hK hP 0 rfl rfl 11 (by decide) (hG _ zv1615) (fun _ h9 => h9) rfl dX13_isMatched_120 ?_
      refine lv_iload_n hx hb dX13_isMatched_123 rfl (lv_at hl 2 rfl) ?_
      refine va_iald hx hb hK hP 8 7 rfl rfl (zin_lit ⟨by omega, by omega⟩) dX13_isMatched_124 ?_
      refine lv_topi (fun z124 e_z124 => ?_)
      have b_ : 0 ≤ z124.toInt ∧ z124.toInt ≤ 512 := by rw [e_z124]; exact hf10 _
      have hPc := hP.sub (ws' := [(h0, .inr (13, mX13 q0 v0)), ((q0 38), zi k23 1300 f23), ((q0 39), zi k24 1300 f24), ((q0 41), zi k26 1300 f26), ((q0 5), zi k4 122880 f4), ((q0 43), zi k27 40 f27), ((q0 44), zi k28 40 f28), ((q0 45), zi k29 40 f29), ((q0 61), zi k37 200 f37), ((q0 62), zi k38 16000 f38), ((q0 40), zi k25 1300 f25)]) [0, 1, 6, 3, 9, 10, 4, 11, 12, 13, 7] rfl
      have hDc := hD.sub (ws' := [(h0, .inr (13, mX13 q0 v0)), ((q0 38), zi k23 1300 f23), ((q0 39), zi k24 1300 f24), ((q0 41), zi k26 1300 f26), ((q0 5), zi k4 122880 f4), ((q0 43), zi k27 40 f27), ((q0 44), zi k28 40 f28), ((q0 45), zi k29 40 f29), ((q0 61), zi k37 200 f37), ((q0 62), zi k38 16000 f38), ((q0 40), zi k25 1300 f25)]) [0, 1, 6, 3, 9, 10, 4, 11, 12, 13, 7] (by decide) rfl
      have hKc := hK.sub (tys' := [(k23, .int), (k24, .int), (k26, .int), (k4, .short), (k27, .int), (k28, .int), (k29, .int), (k37, .int), (k38, .boolean), (k25, .int)]) [0, 5, 2, 8, 9, 3, 10, 11, 12, 6] rfl
      have hFc := va_free (wc := [(h0, .inr (13, mX13 q0 v0)), ((q0 38), zi k23 1300 f23), ((q0 39), zi k24 1300 f24), ((q0 41), zi k26 1300 f26), ((q0 5), zi k4 122880 f4), ((q0 43), zi k27 40 f27), ((q0 44), zi k28 40 f28), ((q0 45), zi k29 40 f29), ((q0 61), zi k37 200 f37), ((q0 62), zi k38 16000 f38), ((q0 40), zi k25 1300 f25)]) hD hS hA [0, 1, 6, 3, 9, 10, 4, 11, 12, 13, 7] rfl
      refine va_calli (va_runV (As := [.int z104, .int z110, .int z116, .int x2, .int 0, .int z124]) (rest := []) ⟨hx, hb, hml, hown, hG⟩ (c_areNear l n dC dI adK adV h0 q0 k23 k24 k26 k4 k27 k28 k29 k37 k38 k25 s.heap.size v0 f23 f24 f26 f4 f27 f28 f29 f37 f38 f25 z104 z110 z116 x2 0 z124 hv0 hf24 hf4 hf25 (show (0 : Int) ≤ (z104 : Int32).toInt ∧ (z104 : Int32).toInt ≤ (1299 : Int) from (by first | with_reducible assumption | exact ⟨by omega, by omega⟩)) (show (0 : Int) ≤ (z110 : Int32).toInt ∧ (z110 : Int32).toInt ≤ (1299 : Int) from (by first | with_reducible assumption | exact ⟨by omega, by omega⟩)) (show (0 : Int) ≤ (x2 : Int32).toInt ∧ (x2 : Int32).toInt ≤ (119 : Int) from (by first | with_reducible assumption | exact ⟨by omega, by omega⟩)) ⟨show (0 : Int) ≤ (0 : Int32).toInt from by decide, show (0 : Int32).toInt ≤ (512 : Int) from by decide⟩ (show (0 : Int) ≤ (z124 : Int32).toInt ∧ (z124 : Int32).toInt ≤ (1024 : Int) from (by first | with_reducible assumption | exact ⟨by omega, by omega⟩)) (show z104.toInt < ((n : Nat) : Int) from by omega) (show zTr f23 f24 f25 f26 (v0 42).toInt (v0 47).toInt from by first | with_reducible assumption | assumption) (show zLf f27 f28 f29 (v0 47).toInt from by first | with_reducible assumption | assumption) (show z104.toInt < (v0 42).toInt from by omega) (show zPl (f23 ((z104 : Int32)).toNatClampNeg).toInt from by first | with_reducible assumption | assumption) (show z110.toInt < ((n : Nat) : Int) from by omega) (show z110.toInt < (v0 42).toInt from by omega) (show zPl (f23 ((z110 : Int32)).toNatClampNeg).toInt from by first | with_reducible assumption | assumption)) (cwV 6 hG (zgV zv2190 zv2192 zv118 zv142 zv2193) rfl rfl rfl (by decide +kernel) ⟨(show n + 25 + 1 ≤ (n + 1) + 40 from by omega), (show 8 + (10 + 11) + (24 * n + 800) ≤ 24 * (n + 1) + 1200 from by omega)⟩) ⟨zPc_blind, va_recv hKc hPc (ci := 13) (q0 := 0) rfl rfl, zPc_pre hPc hKc hDc hE hS hFc hZ⟩ rfl rfl hl.1 rfl (lv_room (Nat.le_of_ble_eq_true rfl)) dX13_isMatched_125 ⟨Nat.le_of_ble_eq_true rfl, Nat.le_of_ble_eq_true rfl⟩) hS (fun q _ h => hFc q h) hFc (fun r125_ u125_ t H1 locs ht hvm hw hB hz1 hk1 hS => ?_)
      replace hw : (0 ≤ r125_.toInt ∧ r125_.toInt ≤ 1) := hw
      have b_ := hw
      obtain ⟨w125_, a125_, b125_, hP1, hK1, hD1⟩ := hB
      rw [ht] at hP1
      obtain ⟨hP, hD⟩ := va_join (wr := [((q0 9), zi k8 120 f8), ((q0 46), zi k30 40 f30), ((q0 11), zi k10 120 f10), ((q0 12), zi k11 120 f11)]) (w1 := [(h0, .inr (13, mX13 q0 v0)), ((q0 38), zi k23 1300 f23), ((q0 39), zi k24 1300 f24), ((q0 41), zi k26 1300 f26), ((q0 5), zi k4 122880 f4), ((q0 43), zi k27 40 f27), ((q0 44), zi k28 40 f28), ((q0 45), zi k29 40 f29), ((q0 61), zi k37 200 f37), ((q0 62), zi k38 16000 f38), ((q0 40), zi k25 1300 f25)]) hP hD [0, 1, 6, 3, 9, 10, 4, 11, 12, 13, 7] [2, 5, 8, 14] rfl rfl (by decide) (by decide) hk1 hFc hP1 hD1
      have hP : va_P (dC, dI) vwCl [(h0, .inr (13, mX13 q0 v0)), ((q0 38), zi k23 1300 f23), ((q0 9), zi k8 120 f8), ((q0 41), zi k26 1300 f26), ((q0 44), zi k28 40 f28), ((q0 46), zi k30 40 f30), ((q0 39), zi k24 1300 f24), ((q0 40), zi k25 1300 f25), ((q0 11), zi k10 120 f10), ((q0 5), zi k4 122880 f4), ((q0 43), zi k27 40 f27), ((q0 45), zi k29 40 f29), ((q0 61), zi k37 200 f37), ((q0 62), zi k38 16000 f38), ((q0 12), zi k11 120 f11)] H1 := hP.sub [4, 5, 0, 7, 10, 1, 6, 14, 2, 8, 9, 11, 12, 13, 3] rfl
      have hD : va_D A [(h0, .inr (13, mX13 q0 v0)), ((q0 38), zi k23 1300 f23), ((q0 9), zi k8 120 f8), ((q0 41), zi k26 1300 f26), ((q0 44), zi k28 40 f28), ((q0 46), zi k30 40 f30), ((q0 39), zi k24 1300 f24), ((q0 40), zi k25 1300 f25), ((q0 11), zi k10 120 f10), ((q0 5), zi k4 122880 f4), ((q0 43), zi k27 40 f27), ((q0 45), zi k29 40 f29), ((q0 61), zi k37 200 f37), ((q0 62), zi k38 16000 f38), ((q0 12), zi k11 120 f11)] := hD.sub [4, 5, 0, 7, 10, 1, 6, 14, 2, 8, 9, 11, 12, 13, 3] (by decide) rfl
      generalize H1 = H at hP hS ⊢
      clear hz1
      refine lv_if_ne (tgt := 170) hx hb dX13_isMatched_128 (by decide) (fun c_ => ?_) (fun c_ => ?_)
      · skip
        have b_ := zT_ne rfl zk_0 c_
        refine lv_iconst (v := 1) hx hb dX13_isMatched_170 (by decide) ?_
        refine lv_goto (tgt := 175) hx hb dX13_isMatched_171 (by decide) ?_
        refine W.widen (k := 0) (n := 0) (by decide) (by decide) ?_
        have hpost : (0 ≤ (1 : Int32).toInt ∧ (1 : Int32).toInt ≤ 1) := (by first | with_reducible assumption | exact ⟨by omega, by omega⟩)
        have hP9 : va_P (dC, dI) vwCl [(h0, .inr (13, mX13 q0 v0)), ((q0 38), zi k23 1300 f23), ((q0 9), zi k8 120 f8), ((q0 41), zi k26 1300 f26), ((q0 44), zi k28 40 f28), ((q0 46), zi k30 40 f30), ((q0 39), zi k24 1300 f24), ((q0 40), zi k25 1300 f25), ((q0 11), zi k10 120 f10), ((q0 5), zi k4 122880 f4), ((q0 43), zi k27 40 f27), ((q0 45), zi k29 40 f29), ((q0 61), zi k37 200 f37), ((q0 62), zi k38 16000 f38), ((q0 12), zi k11 120 f11)] H := hP
        have hD9 : va_D A [(h0, .inr (13, mX13 q0 v0)), ((q0 38), zi k23 1300 f23), ((q0 9), zi k8 120 f8), ((q0 41), zi k26 1300 f26), ((q0 44), zi k28 40 f28), ((q0 46), zi k30 40 f30), ((q0 39), zi k24 1300 f24), ((q0 40), zi k25 1300 f25), ((q0 11), zi k10 120 f10), ((q0 5), zi k4 122880 f4), ((q0 43), zi k27 40 f27), ((q0 45), zi k29 40 f29), ((q0 61), zi k37 200 f37), ((q0 62), zi k38 16000 f38), ((q0 12), zi k11 120 f11)] := hD
        exact W.zret (v := 1) hx hb hr rfl (fun t ht hW => ⟨⟨1, (fun _ => 0), rfl, hpost, (fun _ => 0), (fun _ => (fun _ => 0)), (fun _ => (fun _ => 0)), by rw [ht]; exact hP9, va_K.moved hW.alike hK, hD9⟩, hS.F ht⟩) hS.2.2 dX13_isMatched_175
      · skip
        have b_ := zF_ne rfl zk_0 c_
        refine lv_aload_n hx hb dX13_isMatched_131 rfl (lv_at hl 0 rfl) ?_
        refine lv_aload_n hx hb dX13_isMatched_132 rfl (lv_at hl 0 rfl) ?_
        refine va_get (D := (dC, dI)) (ci := 13) (v := .ref (q0 39)) (C := RX13) (T := TX13) (N := 75) hx hb hG zuX13 hown hK hP 0 rfl rfl 39 (by decide) (hG _ zv1643) (fun _ h9 => h9) rfl dX13_isMatched_133 ?_
        refine lv_iload_n hx hb dX13_isMatched_136 rfl (lv_at hl 1 rfl) ?_
        refine va_iald hx hb hK hP 6 5 rfl rfl (zin_lit ⟨by omega, by omega⟩) dX13_isMatched_137 ?_
        refine lv_topi (fun z137 e_z137 => ?_)
        have b_ : (-1) ≤ z137.toInt ∧ z137.toInt ≤ 1299 := by rw [e_z137]; exact hf24 _
        have b_ : 0 ≤ z137.toInt ∧ z137.toInt < x1.toInt := by have q := n1 (by omega); rw [← e_z137] at q; omega
        have hpl137 : zPl (f23 (z137).toNatClampNeg).toInt := by have q := n4 (by omega); rw [← e_z137] at q; exact q
        refine lv_aload_n hx hb dX13_isMatched_138 rfl (lv_at hl 0 rfl) ?_
        refine va_get (D := (dC, dI)) (ci := 13) (v := .ref (q0 40)) (C := RX13) (T := TX13) (N := 75) hx hb hG zuX13 hown hK hP 0 rfl rfl 40 (by decide) (hG _ zv1644) (fun _ h9 => h9) rfl dX13_isMatched_139 ?_
        refine lv_iload_n hx hb dX13_isMatched_142 rfl (lv_at hl 1 rfl) ?_
        refine va_iald hx hb hK hP 7 6 rfl rfl (zin_lit ⟨by omega, by omega⟩) dX13_isMatched_143 ?_
        refine lv_topi (fun z143 e_z143 => ?_)
        have b_ : (-1) ≤ z143.toInt ∧ z143.toInt ≤ 1299 := by rw [e_z143]; exact hf25 _
        have b_ : 0 ≤ z143.toInt ∧ z143.toInt < x1.toInt := by have q := n1 (by omega); rw [← e_z143] at q; omega
        have hpl143 : zPl (f23 (z143).toNatClampNeg).toInt := by have q := n5 (by omega); rw [← e_z143] at q; exact q
        refine lv_aload_n hx hb dX13_isMatched_144 rfl (lv_at hl 0 rfl) ?_
        refine va_get (D := (dC, dI)) (ci := 13) (v := .ref (q0 41)) (C := RX13) (T := TX13) (N := 75) hx hb hG zuX13 hown hK hP 0 rfl rfl 41 (by decide) (hG _ zv1645) (fun _ h9 => h9) rfl dX13_isMatched_145 ?_
        refine lv_iload_n hx hb dX13_isMatched_148 rfl (lv_at hl 1 rfl) ?_
        refine va_iald hx hb hK hP 3 2 rfl rfl (zin_lit ⟨by omega, by omega⟩) dX13_isMatched_149 ?_
        refine lv_topi (fun z149 e_z149 => ?_)
        refine lv_iload_n hx hb dX13_isMatched_150 rfl (lv_at hl 2 rfl) ?_
        refine lv_sipush (v := 512) hx hb dX13_isMatched_151 (by decide) ?_
        refine lv_sipush (v := 512) hx hb dX13_isMatched_154 (by decide) ?_
        refine lv_aload_n hx hb dX13_isMatched_157 rfl (lv_at hl 0 rfl) ?_
        refine va_get (D := (dC, dI)) (ci := 13) (v := .ref (q0 12)) (C := RX13) (T := TX13) (N := 75) hx hb hG zuX13 hown hK hP 0 rfl rfl 12 (by decide) (hG _ zv1616) (fun _ h9 => h9) rfl dX13_isMatched_158 ?_
        refine lv_iload_n hx hb dX13_isMatched_161 rfl (lv_at hl 2 rfl) ?_
        refine va_iald hx hb hK hP 14 13 rfl rfl (zin_lit ⟨by omega, by omega⟩) dX13_isMatched_162 ?_
        refine lv_topi (fun z162 e_z162 => ?_)
        have b_ : 0 ≤ z162.toInt ∧ z162.toInt ≤ 512 := by rw [e_z162]; exact hf11 _
        refine lv_iadd hx hb dX13_isMatched_163 ?_
        refine lv_topi (fun z163 e_z163 => ?_)
        have b_ := zadd zk_512 rfl e_z163 (by omega) (by omega)
        have hPc := hP.sub (ws' := [(h0, .inr (13, mX13 q0 v0)), ((q0 38), zi k23 1300 f23), ((q0 39), zi k24 1300 f24), ((q0 41), zi k26 1300 f26), ((q0 5), zi k4 122880 f4), ((q0 43), zi k27 40 f27), ((q0 44), zi k28 40 f28), ((q0 45), zi k29 40 f29), ((q0 61), zi k37 200 f37), ((q0 62), zi k38 16000 f38), ((q0 40), zi k25 1300 f25)]) [0, 1, 6, 3, 9, 10, 4, 11, 12, 13, 7] rfl
        have hDc := hD.sub (ws' := [(h0, .inr (13, mX13 q0 v0)), ((q0 38), zi k23 1300 f23), ((q0 39), zi k24 1300 f24), ((q0 41), zi k26 1300 f26), ((q0 5), zi k4 122880 f4), ((q0 43), zi k27 40 f27), ((q0 44), zi k28 40 f28), ((q0 45), zi k29 40 f29), ((q0 61), zi k37 200 f37), ((q0 62), zi k38 16000 f38), ((q0 40), zi k25 1300 f25)]) [0, 1, 6, 3, 9, 10, 4, 11, 12, 13, 7] (by decide) rfl
        have hKc := hK.sub (tys' := [(k23, .int), (k24, .int), (k26, .int), (k4, .short), (k27, .int), (k28, .int), (k29, .int), (k37, .int), (k38, .boolean), (k25, .int)]) [0, 5, 2, 8, 9, 3, 10, 11, 12, 6] rfl
        have hFc := va_free (wc := [(h0, .inr (13, mX13 q0 v0)), ((q0 38), zi k23 1300 f23), ((q0 39), zi k24 1300 f24), ((q0 41), zi k26 1300 f26), ((q0 5), zi k4 122880 f4), ((q0 43), zi k27 40 f27), ((q0 44), zi k28 40 f28), ((q0 45), zi k29 40 f29), ((q0 61), zi k37 200 f37), ((q0 62), zi k38 16000 f38), ((q0 40), zi k25 1300 f25)]) hD hS hA [0, 1, 6, 3, 9, 10, 4, 11, 12, 13, 7] rfl
        refine va_calli (va_runV (As := [.int z137, .int z143, .int z149, .int x2, .int 512, .int z163]) (rest := []) ⟨hx, hb, hml, hown, hG⟩ (c_areNear l n dC dI adK adV h0 q0 k23 k24 k26 k4 k27 k28 k29 k37 k38 k25 H.size v0 f23 f24 f26 f4 f27 f28 f29 f37 f38 f25 z137 z143 z149 x2 512 z163 hv0 hf24 hf4 hf25 (show (0 : Int) ≤ (z137 : Int32).toInt ∧ (z137 : Int32).toInt ≤ (1299 : Int) from (by first | with_reducible assumption | exact ⟨by omega, by omega⟩)) (show (0 : Int) ≤ (z143 : Int32).toInt ∧ (z143 : Int32).toInt ≤ (1299 : Int) from (by first | with_reducible assumption | exact ⟨by omega, by omega⟩)) (show (0 : Int) ≤ (x2 : Int32).toInt ∧ (x2 : Int32).toInt ≤ (119 : Int) from (by first | with_reducible assumption | exact ⟨by omega, by omega⟩)) ⟨show (0 : Int) ≤ (512 : Int32).toInt from by decide, show (512 : Int32).toInt ≤ (512 : Int) from by decide⟩ (show (0 : Int) ≤ (z163 : Int32).toInt ∧ (z163 : Int32).toInt ≤ (1024 : Int) from (by first | with_reducible assumption | exact ⟨by omega, by omega⟩)) (show z137.toInt < ((n : Nat) : Int) from by omega) (show zTr f23 f24 f25 f26 (v0 42).toInt (v0 47).toInt from by first | with_reducible assumption | assumption) (show zLf f27 f28 f29 (v0 47).toInt from by first | with_reducible assumption | assumption) (show z137.toInt < (v0 42).toInt from by omega) (show zPl (f23 ((z137 : Int32)).toNatClampNeg).toInt from by first | with_reducible assumption | assumption) (show z143.toInt < ((n : Nat) : Int) from by omega) (show z143.toInt < (v0 42).toInt from by omega) (show zPl (f23 ((z143 : Int32)).toNatClampNeg).toInt from by first | with_reducible assumption | assumption)) (cwV 6 hG (zgV zv2190 zv2192 zv118 zv142 zv2193) rfl rfl rfl (by decide +kernel) ⟨(show n + 25 + 1 ≤ (n + 1) + 40 from by omega), (show 8 + (10 + 11) + (24 * n + 800) ≤ 24 * (n + 1) + 1200 from by omega)⟩) ⟨zPc_blind, va_recv hKc hPc (ci := 13) (q0 := 0) rfl rfl, zPc_pre hPc hKc hDc hE hS hFc hZ⟩ rfl rfl hl.1 rfl (lv_room (Nat.le_of_ble_eq_true rfl)) dX13_isMatched_164 ⟨Nat.le_of_ble_eq_true rfl, Nat.le_of_ble_eq_true rfl⟩) hS (fun q _ h => hFc q h) hFc (fun r164_ u164_ t H1 locs ht hvm hw hB hz1 hk1 hS => ?_)
        replace hw : (0 ≤ r164_.toInt ∧ r164_.toInt ≤ 1) := hw
        have b_ := hw
        obtain ⟨w164_, a164_, b164_, hP1, hK1, hD1⟩ := hB
        rw [ht] at hP1
        obtain ⟨hP, hD⟩ := va_join (wr := [((q0 9), zi k8 120 f8), ((q0 46), zi k30 40 f30), ((q0 11), zi k10 120 f10), ((q0 12), zi k11 120 f11)]) (w1 := [(h0, .inr (13, mX13 q0 v0)), ((q0 38), zi k23 1300 f23), ((q0 39), zi k24 1300 f24), ((q0 41), zi k26 1300 f26), ((q0 5), zi k4 122880 f4), ((q0 43), zi k27 40 f27), ((q0 44), zi k28 40 f28), ((q0 45), zi k29 40 f29), ((q0 61), zi k37 200 f37), ((q0 62), zi k38 16000 f38), ((q0 40), zi k25 1300 f25)]) hP hD [0, 1, 6, 3, 9, 10, 4, 11, 12, 13, 7] [2, 5, 8, 14] rfl rfl (by decide) (by decide) hk1 hFc hP1 hD1
        have hP : va_P (dC, dI) vwCl [(h0, .inr (13, mX13 q0 v0)), ((q0 38), zi k23 1300 f23), ((q0 9), zi k8 120 f8), ((q0 41), zi k26 1300 f26), ((q0 44), zi k28 40 f28), ((q0 46), zi k30 40 f30), ((q0 39), zi k24 1300 f24), ((q0 40), zi k25 1300 f25), ((q0 11), zi k10 120 f10), ((q0 5), zi k4 122880 f4), ((q0 43), zi k27 40 f27), ((q0 45), zi k29 40 f29), ((q0 61), zi k37 200 f37), ((q0 62), zi k38 16000 f38), ((q0 12), zi k11 120 f11)] H1 := hP.sub [4, 5, 0, 7, 10, 1, 6, 14, 2, 8, 9, 11, 12, 13, 3] rfl
        have hD : va_D A [(h0, .inr (13, mX13 q0 v0)), ((q0 38), zi k23 1300 f23), ((q0 9), zi k8 120 f8), ((q0 41), zi k26 1300 f26), ((q0 44), zi k28 40 f28), ((q0 46), zi k30 40 f30), ((q0 39), zi k24 1300 f24), ((q0 40), zi k25 1300 f25), ((q0 11), zi k10 120 f10), ((q0 5), zi k4 122880 f4), ((q0 43), zi k27 40 f27), ((q0 45), zi k29 40 f29), ((q0 61), zi k37 200 f37), ((q0 62), zi k38 16000 f38), ((q0 12), zi k11 120 f11)] := hD.sub [4, 5, 0, 7, 10, 1, 6, 14, 2, 8, 9, 11, 12, 13, 3] (by decide) rfl
        generalize H1 = H at hP hS ⊢
        clear hz1
        refine lv_if_eq (tgt := 174) hx hb dX13_isMatched_167 (by decide) (fun c_ => ?_) (fun c_ => ?_)
        · skip
          have b_ := zT_eq rfl zk_0 c_
          refine lv_iconst (v := 0) hx hb dX13_isMatched_174 (by decide) ?_
          refine W.widen (k := 0) (n := 0) (by decide) (by decide) ?_
          have hpost : (0 ≤ (0 : Int32).toInt ∧ (0 : Int32).toInt ≤ 1) := (by first | with_reducible assumption | exact ⟨by omega, by omega⟩)
          have hP9 : va_P (dC, dI) vwCl [(h0, .inr (13, mX13 q0 v0)), ((q0 38), zi k23 1300 f23), ((q0 9), zi k8 120 f8), ((q0 41), zi k26 1300 f26), ((q0 44), zi k28 40 f28), ((q0 46), zi k30 40 f30), ((q0 39), zi k24 1300 f24), ((q0 40), zi k25 1300 f25), ((q0 11), zi k10 120 f10), ((q0 5), zi k4 122880 f4), ((q0 43), zi k27 40 f27), ((q0 45), zi k29 40 f29), ((q0 61), zi k37 200 f37), ((q0 62), zi k38 16000 f38), ((q0 12), zi k11 120 f11)] H := hP
          have hD9 : va_D A [(h0, .inr (13, mX13 q0 v0)), ((q0 38), zi k23 1300 f23), ((q0 9), zi k8 120 f8), ((q0 41), zi k26 1300 f26), ((q0 44), zi k28 40 f28), ((q0 46), zi k30 40 f30), ((q0 39), zi k24 1300 f24), ((q0 40), zi k25 1300 f25), ((q0 11), zi k10 120 f10), ((q0 5), zi k4 122880 f4), ((q0 43), zi k27 40 f27), ((q0 45), zi k29 40 f29), ((q0 61), zi k37 200 f37), ((q0 62), zi k38 16000 f38), ((q0 12), zi k11 120 f11)] := hD
          exact W.zret (v := 0) hx hb hr rfl (fun t ht hW => ⟨⟨0, (fun _ => 0), rfl, hpost, (fun _ => 0), (fun _ => (fun _ => 0)), (fun _ => (fun _ => 0)), by rw [ht]; exact hP9, va_K.moved hW.alike hK, hD9⟩, hS.F ht⟩) hS.2.2 dX13_isMatched_175
        · skip
          have b_ := zF_eq rfl zk_0 c_
          refine lv_iconst (v := 1) hx hb dX13_isMatched_170 (by decide) ?_
          refine lv_goto (tgt := 175) hx hb dX13_isMatched_171 (by decide) ?_
          refine W.widen (k := 0) (n := 0) (by decide) (by decide) ?_
          have hpost : (0 ≤ (1 : Int32).toInt ∧ (1 : Int32).toInt ≤ 1) := (by first | with_reducible assumption | exact ⟨by omega, by omega⟩)
          have hP9 : va_P (dC, dI) vwCl [(h0, .inr (13, mX13 q0 v0)), ((q0 38), zi k23 1300 f23), ((q0 9), zi k8 120 f8), ((q0 41), zi k26 1300 f26), ((q0 44), zi k28 40 f28), ((q0 46), zi k30 40 f30), ((q0 39), zi k24 1300 f24), ((q0 40), zi k25 1300 f25), ((q0 11), zi k10 120 f10), ((q0 5), zi k4 122880 f4), ((q0 43), zi k27 40 f27), ((q0 45), zi k29 40 f29), ((q0 61), zi k37 200 f37), ((q0 62), zi k38 16000 f38), ((q0 12), zi k11 120 f11)] H := hP
          have hD9 : va_D A [(h0, .inr (13, mX13 q0 v0)), ((q0 38), zi k23 1300 f23), ((q0 9), zi k8 120 f8), ((q0 41), zi k26 1300 f26), ((q0 44), zi k28 40 f28), ((q0 46), zi k30 40 f30), ((q0 39), zi k24 1300 f24), ((q0 40), zi k25 1300 f25), ((q0 11), zi k10 120 f10), ((q0 5), zi k4 122880 f4), ((q0 43), zi k27 40 f27), ((q0 45), zi k29 40 f29), ((q0 61), zi k37 200 f37), ((q0 62), zi k38 16000 f38), ((q0 12), zi k11 120 f11)] := hD
          exact W.zret (v := 1) hx hb hr rfl (fun t ht hW => ⟨⟨1, (fun _ => 0), rfl, hpost, (fun _ => 0), (fun _ => (fun _ => 0)), (fun _ => (fun _ => 0)), by rw [ht]; exact hP9, va_K.moved hW.alike hK, hD9⟩, hS.F ht⟩) hS.2.2 dX13_isMatched_175
    · skip
      have b_ : z5.toInt ≠ 5 := fun h => c_ (zeqi.mpr (h.trans zk_5.symm))
      rcases Classical.em (z5 = (6 : Int32)) with c_ | c_
      · skip
        have b_ : z5.toInt = 6 := by rw [c_]; exact zk_6
        refine lv_tableIn (off := 292) (tgt := 298) hx hb dX13_isMatched_6 (by omega) (by omega) (by rw [b_]; decide) (by decide) ?_
        refine lv_aload_n hx hb dX13_isMatched_298 rfl (lv_at hl 0 rfl) ?_
        refine lv_iload_n hx hb dX13_isMatched_299 rfl (lv_at hl 1 rfl) ?_
        refine lv_iload_n hx hb dX13_isMatched_300 rfl (lv_at hl 2 rfl) ?_
        have hpl : zPl (f23 (x1 : Int32).toNatClampNeg).toInt := by rw [← e_z5]; unfold zPl; omega
        have hPc := hP.sub (ws' := [(h0, .inr (13, mX13 q0 v0)), ((q0 11), zi k10 120 f10), ((q0 38), zi k23 1300 f23), ((q0 39), zi k24 1300 f24), ((q0 41), zi k26 1300 f26), ((q0 5), zi k4 122880 f4), ((q0 43), zi k27 40 f27), ((q0 44), zi k28 40 f28), ((q0 45), zi k29 40 f29), ((q0 61), zi k37 200 f37), ((q0 62), zi k38 16000 f38), ((q0 40), zi k25 1300 f25), ((q0 12), zi k11 120 f11)]) [0, 8, 1, 6, 3, 9, 10, 4, 11, 12, 13, 7, 14] rfl
        have hDc := hD.sub (ws' := [(h0, .inr (13, mX13 q0 v0)), ((q0 11), zi k10 120 f10), ((q0 38), zi k23 1300 f23), ((q0 39), zi k24 1300 f24), ((q0 41), zi k26 1300 f26), ((q0 5), zi k4 122880 f4), ((q0 43), zi k27 40 f27), ((q0 44), zi k28 40 f28), ((q0 45), zi k29 40 f29), ((q0 61), zi k37 200 f37), ((q0 62), zi k38 16000 f38), ((q0 40), zi k25 1300 f25), ((q0 12), zi k11 120 f11)]) [0, 8, 1, 6, 3, 9, 10, 4, 11, 12, 13, 7, 14] (by decide) rfl
        have hKc := hK.sub (tys' := [(k10, .int), (k23, .int), (k24, .int), (k26, .int), (k4, .short), (k27, .int), (k28, .int), (k29, .int), (k37, .int), (k38, .boolean), (k25, .int), (k11, .int)]) [7, 0, 5, 2, 8, 9, 3, 10, 11, 12, 6, 13] rfl
        have hFc := va_free (wc := [(h0, .inr (13, mX13 q0 v0)), ((q0 11), zi k10 120 f10), ((q0 38), zi k23 1300 f23), ((q0 39), zi k24 1300 f24), ((q0 41), zi k26 1300 f26), ((q0 5), zi k4 122880 f4), ((q0 43), zi k27 40 f27), ((q0 44), zi k28 40 f28), ((q0 45), zi k29 40 f29), ((q0 61), zi k37 200 f37), ((q0 62), zi k38 16000 f38), ((q0 40), zi k25 1300 f25), ((q0 12), zi k11 120 f11)]) hD hS hA [0, 8, 1, 6, 3, 9, 10, 4, 11, 12, 13, 7, 14] rfl
        refine va_calli (va_runV (As := [.int x1, .int x2]) (rest := []) ⟨hx, hb, hml, hown, hG⟩ (c_hasPlace l (n + 1) dC dI adK adV h0 q0 k10 k23 k24 k26 k4 k27 k28 k29 k37 k38 k25 k11 s.heap.size v0 f10 f23 f24 f26 f4 f27 f28 f29 f37 f38 f25 f11 x1 x2 hv0 hf10 hf24 hf4 hf25 hf11 (show (0 : Int) ≤ (x1 : Int32).toInt ∧ (x1 : Int32).toInt ≤ (1299 : Int) from (by first | with_reducible assumption | exact ⟨by omega, by omega⟩)) (show (0 : Int) ≤ (x2 : Int32).toInt ∧ (x2 : Int32).toInt ≤ (119 : Int) from (by first | with_reducible assumption | exact ⟨by omega, by omega⟩)) (show x1.toInt < (((n + 1) : Nat) : Int) from by omega) (show zTr f23 f24 f25 f26 (v0 42).toInt (v0 47).toInt from by first | with_reducible assumption | assumption) (show zLf f27 f28 f29 (v0 47).toInt from by first | with_reducible assumption | assumption) (show x1.toInt < (v0 42).toInt from by omega) (show zPl (f23 ((x1 : Int32)).toNatClampNeg).toInt from by first | with_reducible assumption | assumption)) (cwV 2 hG (zgV zv2199 zv2201 zv120 zv142 zv2202) rfl rfl rfl (by decide +kernel) ⟨(show (n + 1) + 25 + 1 ≤ (n + 1) + 40 from by omega), (show 8 + (4 + 11) + (24 * (n + 1) + 800) ≤ 24 * (n + 1) + 1200 from by omega)⟩) ⟨zPc_blind, va_recv hKc hPc (ci := 13) (q0 := 0) rfl rfl, zPc_pre hPc hKc hDc hE hS hFc hZ⟩ rfl rfl hl.1 rfl (lv_room (Nat.le_of_ble_eq_true rfl)) dX13_isMatched_301 ⟨Nat.le_of_ble_eq_true rfl, Nat.le_of_ble_eq_true rfl⟩) hS (fun q _ h => hFc q h) hFc (fun r301_ u301_ t H1 locs ht hvm hw hB hz1 hk1 hS => ?_)
        replace hw : (0 ≤ r301_.toInt ∧ r301_.toInt ≤ 1) := hw
        have b_ := hw
        obtain ⟨w301_, a301_, b301_, hP1, hK1, hD1⟩ := hB
        rw [ht] at hP1
        obtain ⟨hP, hD⟩ := va_join (wr := [((q0 9), zi k8 120 f8), ((q0 46), zi k30 40 f30)]) (w1 := [(h0, .inr (13, mX13 q0 v0)), ((q0 11), zi k10 120 f10), ((q0 38), zi k23 1300 f23), ((q0 39), zi k24 1300 f24), ((q0 41), zi k26 1300 f26), ((q0 5), zi k4 122880 f4), ((q0 43), zi k27 40 f27), ((q0 44), zi k28 40 f28), ((q0 45), zi k29 40 f29), ((q0 61), zi k37 200 f37), ((q0 62), zi k38 16000 f38), ((q0 40), zi k25 1300 f25), ((q0 12), zi k11 120 f11)]) hP hD [0, 8, 1, 6, 3, 9, 10, 4, 11, 12, 13, 7, 14] [2, 5] rfl rfl (by decide) (by decide) hk1 hFc hP1 hD1
        have hP : va_P (dC, dI) vwCl [(h0, .inr (13, mX13 q0 v0)), ((q0 38), zi k23 1300 f23), ((q0 9), zi k8 120 f8), ((q0 41), zi k26 1300 f26), ((q0 44), zi k28 40 f28), ((q0 46), zi k30 40 f30), ((q0 39), zi k24 1300 f24), ((q0 40), zi k25 1300 f25), ((q0 11), zi k10 120 f10), ((q0 5), zi k4 122880 f4), ((q0 43), zi k27 40 f27), ((q0 45), zi k29 40 f29), ((q0 61), zi k37 200 f37), ((q0 62), zi k38 16000 f38), ((q0 12), zi k11 120 f11)] H1 := hP.sub [2, 4, 0, 6, 9, 1, 5, 13, 3, 7, 8, 10, 11, 12, 14] rfl
        have hD : va_D A [(h0, .inr (13, mX13 q0 v0)), ((q0 38), zi k23 1300 f23), ((q0 9), zi k8 120 f8), ((q0 41), zi k26 1300 f26), ((q0 44), zi k28 40 f28), ((q0 46), zi k30 40 f30), ((q0 39), zi k24 1300 f24), ((q0 40), zi k25 1300 f25), ((q0 11), zi k10 120 f10), ((q0 5), zi k4 122880 f4), ((q0 43), zi k27 40 f27), ((q0 45), zi k29 40 f29), ((q0 61), zi k37 200 f37), ((q0 62), zi k38 16000 f38), ((q0 12), zi k11 120 f11)] := hD.sub [2, 4, 0, 6, 9, 1, 5, 13, 3, 7, 8, 10, 11, 12, 14] (by decide) rfl
        generalize H1 = H at hP hS ⊢
        clear hz1
        refine W.widen (k := 0) (n := 0) (by decide) (by decide) ?_
        have hpost : (0 ≤ r301_.toInt ∧ r301_.toInt ≤ 1) := (by first | with_reducible assumption | exact ⟨by omega, by omega⟩)
        have hP9 : va_P (dC, dI) vwCl [(h0, .inr (13, mX13 q0 v0)), ((q0 38), zi k23 1300 f23), ((q0 9), zi k8 120 f8), ((q0 41), zi k26 1300 f26), ((q0 44), zi k28 40 f28), ((q0 46), zi k30 40 f30), ((q0 39), zi k24 1300 f24), ((q0 40), zi k25 1300 f25), ((q0 11), zi k10 120 f10), ((q0 5), zi k4 122880 f4), ((q0 43), zi k27 40 f27), ((q0 45), zi k29 40 f29), ((q0 61), zi k37 200 f37), ((q0 62), zi k38 16000 f38), ((q0 12), zi k11 120 f11)] H := hP
        have hD9 : va_D A [(h0, .inr (13, mX13 q0 v0)), ((q0 38), zi k23 1300 f23), ((q0 9), zi k8 120 f8), ((q0 41), zi k26 1300 f26), ((q0 44), zi k28 40 f28), ((q0 46), zi k30 40 f30), ((q0 39), zi k24 1300 f24), ((q0 40), zi k25 1300 f25), ((q0 11), zi k10 120 f10), ((q0 5), zi k4 122880 f4), ((q0 43), zi k27 40 f27), ((q0 45), zi k29 40 f29), ((q0 61), zi k37 200 f37), ((q0 62), zi k38 16000 f38), ((q0 12), zi k11 120 f11)] := hD
        exact W.zret (v := r301_) hx hb hr (zbn ⟨by omega, by omega⟩) (fun t ht hW => ⟨⟨r301_, (fun _ => 0), rfl, hpost, (fun _ => 0), (fun _ => (fun _ => 0)), (fun _ => (fun _ => 0)), by rw [ht]; exact hP9, va_K.moved hW.alike hK, hD9⟩, hS.F ht⟩) hS.2.2 dX13_isMatched_304
      · skip
        have b_ : z5.toInt ≠ 6 := fun h => c_ (zeqi.mpr (h.trans zk_6.symm))
        rcases Classical.em (z5 = (7 : Int32)) with c_ | c_
        · skip
          have b_ : z5.toInt = 7 := by rw [c_]; exact zk_7
          refine lv_tableIn (off := 292) (tgt := 298) hx hb dX13_isMatched_6 (by omega) (by omega) (by rw [b_]; decide) (by decide) ?_
          refine lv_aload_n hx hb dX13_isMatched_298 rfl (lv_at hl 0 rfl) ?_
          refine lv_iload_n hx hb dX13_isMatched_299 rfl (lv_at hl 1 rfl) ?_
          refine lv_iload_n hx hb dX13_isMatched_300 rfl (lv_at hl 2 rfl) ?_
          have hpl : zPl (f23 (x1 : Int32).toNatClampNeg).toInt := by rw [← e_z5]; unfold zPl; omega
          have hPc := hP.sub (ws' := [(h0, .inr (13, mX13 q0 v0)), ((q0 11), zi k10 120 f10), ((q0 38), zi k23 1300 f23), ((q0 39), zi k24 1300 f24), ((q0 41), zi k26 1300 f26), ((q0 5), zi k4 122880 f4), ((q0 43), zi k27 40 f27), ((q0 44), zi k28 40 f28), ((q0 45), zi k29 40 f29), ((q0 61), zi k37 200 f37), ((q0 62), zi k38 16000 f38), ((q0 40), zi k25 1300 f25), ((q0 12), zi k11 120 f11)]) [0, 8, 1, 6, 3, 9, 10, 4, 11, 12, 13, 7, 14] rfl
          have hDc := hD.sub (ws' := [(h0, .inr (13, mX13 q0 v0)), ((q0 11), zi k10 120 f10), ((q0 38), zi k23 1300 f23), ((q0 39), zi k24 1300 f24), ((q0 41), zi k26 1300 f26), ((q0 5), zi k4 122880 f4), ((q0 43), zi k27 40 f27), ((q0 44), zi k28 40 f28), ((q0 45), zi k29 40 f29), ((q0 61), zi k37 200 f37), ((q0 62), zi k38 16000 f38), ((q0 40), zi k25 1300 f25), ((q0 12), zi k11 120 f11)]) [0, 8, 1, 6, 3, 9, 10, 4, 11, 12, 13, 7, 14] (by decide) rfl
          have hKc := hK.sub (tys' := [(k10, .int), (k23, .int), (k24, .int), (k26, .int), (k4, .short), (k27, .int), (k28, .int), (k29, .int), (k37, .int), (k38, .boolean), (k25, .int), (k11, .int)]) [7, 0, 5, 2, 8, 9, 3, 10, 11, 12, 6, 13] rfl
          have hFc := va_free (wc := [(h0, .inr (13, mX13 q0 v0)), ((q0 11), zi k10 120 f10), ((q0 38), zi k23 1300 f23), ((q0 39), zi k24 1300 f24), ((q0 41), zi k26 1300 f26), ((q0 5), zi k4 122880 f4), ((q0 43), zi k27 40 f27), ((q0 44), zi k28 40 f28), ((q0 45), zi k29 40 f29), ((q0 61), zi k37 200 f37), ((q0 62), zi k38 16000 f38), ((q0 40), zi k25 1300 f25), ((q0 12), zi k11 120 f11)]) hD hS hA [0, 8, 1, 6, 3, 9, 10, 4, 11, 12, 13, 7, 14] rfl
          refine va_calli (va_runV (As := [.int x1, .int x2]) (rest := []) ⟨hx, hb, hml, hown, hG⟩ (c_hasPlace l (n + 1) dC dI adK adV h0 q0 k10 k23 k24 k26 k4 k27 k28 k29 k37 k38 k25 k11 s.heap.size v0 f10 f23 f24 f26 f4 f27 f28 f29 f37 f38 f25 f11 x1 x2 hv0 hf10 hf24 hf4 hf25 hf11 (show (0 : Int) ≤ (x1 : Int32).toInt ∧ (x1 : Int32).toInt ≤ (1299 : Int) from (by first | with_reducible assumption | exact ⟨by omega, by omega⟩)) (show (0 : Int) ≤ (x2 : Int32).toInt ∧ (x2 : Int32).toInt ≤ (119 : Int) from (by first | with_reducible assumption | exact ⟨by omega, by omega⟩)) (show x1.toInt < (((n + 1) : Nat) : Int) from by omega) (show zTr f23 f24 f25 f26 (v0 42).toInt (v0 47).toInt from by first | with_reducible assumption | assumption) (show zLf f27 f28 f29 (v0 47).toInt from by first | with_reducible assumption | assumption) (show x1.toInt < (v0 42).toInt from by omega) (show zPl (f23 ((x1 : Int32)).toNatClampNeg).toInt from by first | with_reducible assumption | assumption)) (cwV 2 hG (zgV zv2199 zv2201 zv120 zv142 zv2202) rfl rfl rfl (by decide +kernel) ⟨(show (n + 1) + 25 + 1 ≤ (n + 1) + 40 from by omega), (show 8 + (4 + 11) + (24 * (n + 1) + 800) ≤ 24 * (n + 1) + 1200 from by omega)⟩) ⟨zPc_blind, va_recv hKc hPc (ci := 13) (q0 := 0) rfl rfl, zPc_pre hPc hKc hDc hE hS hFc hZ⟩ rfl rfl hl.1 rfl (lv_room (Nat.le_of_ble_eq_true rfl)) dX13_isMatched_301 ⟨Nat.le_of_ble_eq_true rfl, Nat.le_of_ble_eq_true rfl⟩) hS (fun q _ h => hFc q h) hFc (fun r301_ u301_ t H1 locs ht hvm hw hB hz1 hk1 hS => ?_)
          replace hw : (0 ≤ r301_.toInt ∧ r301_.toInt ≤ 1) := hw
          have b_ := hw
          obtain ⟨w301_, a301_, b301_, hP1, hK1, hD1⟩ := hB
          rw [ht] at hP1
          obtain ⟨hP, hD⟩ := va_join (wr := [((q0 9), zi k8 120 f8), ((q0 46), zi k30 40 f30)]) (w1 := [(h0, .inr (13, mX13 q0 v0)), ((q0 11), zi k10 120 f10), ((q0 38), zi k23 1300 f23), ((q0 39), zi k24 1300 f24), ((q0 41), zi k26 1300 f26), ((q0 5), zi k4 122880 f4), ((q0 43), zi k27 40 f27), ((q0 44), zi k28 40 f28), ((q0 45), zi k29 40 f29), ((q0 61), zi k37 200 f37), ((q0 62), zi k38 16000 f38), ((q0 40), zi k25 1300 f25), ((q0 12), zi k11 120 f11)]) hP hD [0, 8, 1, 6, 3, 9, 10, 4, 11, 12, 13, 7, 14] [2, 5] rfl rfl (by decide) (by decide) hk1 hFc hP1 hD1
          have hP : va_P (dC, dI) vwCl [(h0, .inr (13, mX13 q0 v0)), ((q0 38), zi k23 1300 f23), ((q0 9), zi k8 120 f8), ((q0 41), zi k26 1300 f26), ((q0 44), zi k28 40 f28), ((q0 46), zi k30 40 f30), ((q0 39), zi k24 1300 f24), ((q0 40), zi k25 1300 f25), ((q0 11), zi k10 120 f10), ((q0 5), zi k4 122880 f4), ((q0 43), zi k27 40 f27), ((q0 45), zi k29 40 f29), ((q0 61), zi k37 200 f37), ((q0 62), zi k38 16000 f38), ((q0 12), zi k11 120 f11)] H1 := hP.sub [2, 4, 0, 6, 9, 1, 5, 13, 3, 7, 8, 10, 11, 12, 14] rfl
          have hD : va_D A [(h0, .inr (13, mX13 q0 v0)), ((q0 38), zi k23 1300 f23), ((q0 9), zi k8 120 f8), ((q0 41), zi k26 1300 f26), ((q0 44), zi k28 40 f28), ((q0 46), zi k30 40 f30), ((q0 39), zi k24 1300 f24), ((q0 40), zi k25 1300 f25), ((q0 11), zi k10 120 f10), ((q0 5), zi k4 122880 f4), ((q0 43), zi k27 40 f27), ((q0 45), zi k29 40 f29), ((q0 61), zi k37 200 f37), ((q0 62), zi k38 16000 f38), ((q0 12), zi k11 120 f11)] := hD.sub [2, 4, 0, 6, 9, 1, 5, 13, 3, 7, 8, 10, 11, 12, 14] (by decide) rfl
          generalize H1 = H at hP hS ⊢
          clear hz1
          refine W.widen (k := 0) (n := 0) (by decide) (by decide) ?_
          have hpost : (0 ≤ r301_.toInt ∧ r301_.toInt ≤ 1) := (by first | with_reducible assumption | exact ⟨by omega, by omega⟩)
          have hP9 : va_P (dC, dI) vwCl [(h0, .inr (13, mX13 q0 v0)), ((q0 38), zi k23 1300 f23), ((q0 9), zi k8 120 f8), ((q0 41), zi k26 1300 f26), ((q0 44), zi k28 40 f28), ((q0 46), zi k30 40 f30), ((q0 39), zi k24 1300 f24), ((q0 40), zi k25 1300 f25), ((q0 11), zi k10 120 f10), ((q0 5), zi k4 122880 f4), ((q0 43), zi k27 40 f27), ((q0 45), zi k29 40 f29), ((q0 61), zi k37 200 f37), ((q0 62), zi k38 16000 f38), ((q0 12), zi k11 120 f11)] H := hP
          have hD9 : va_D A [(h0, .inr (13, mX13 q0 v0)), ((q0 38), zi k23 1300 f23), ((q0 9), zi k8 120 f8), ((q0 41), zi k26 1300 f26), ((q0 44), zi k28 40 f28), ((q0 46), zi k30 40 f30), ((q0 39), zi k24 1300 f24), ((q0 40), zi k25 1300 f25), ((q0 11), zi k10 120 f10), ((q0 5), zi k4 122880 f4), ((q0 43), zi k27 40 f27), ((q0 45), zi k29 40 f29), ((q0 61), zi k37 200 f37), ((q0 62), zi k38 16000 f38), ((q0 12), zi k11 120 f11)] := hD
          exact W.zret (v := r301_) hx hb hr (zbn ⟨by omega, by omega⟩) (fun t ht hW => ⟨⟨r301_, (fun _ => 0), rfl, hpost, (fun _ => 0), (fun _ => (fun _ => 0)), (fun _ => (fun _ => 0)), by rw [ht]; exact hP9, va_K.moved hW.alike hK, hD9⟩, hS.F ht⟩) hS.2.2 dX13_isMatched_304
        · skip
          have b_ : z5.toInt ≠ 7 := fun h => c_ (zeqi.mpr (h.trans zk_7.symm))
          rcases Classical.em (z5 = (8 : Int32)) with c_ | c_
          · skip
            have b_ : z5.toInt = 8 := by rw [c_]; exact zk_8
            refine lv_tableIn (off := 170) (tgt := 176) hx hb dX13_isMatched_6 (by omega) (by omega) (by rw [b_]; decide) (by decide) ?_
            refine lv_aload_n hx hb dX13_isMatched_176 rfl (lv_at hl 0 rfl) ?_
            refine lv_aload_n hx hb dX13_isMatched_177 rfl (lv_at hl 0 rfl) ?_
            refine va_get (D := (dC, dI)) (ci := 13) (v := .ref (q0 39)) (C := RX13) (T := TX13) (N := 75) hx hb hG zuX13 hown hK hP 0 rfl rfl 39 (by decide) (hG _ zv1643) (fun _ h9 => h9) rfl dX13_isMatched_178 ?_
            refine lv_iload_n hx hb dX13_isMatched_181 rfl (lv_at hl 1 rfl) ?_
            refine va_iald hx hb hK hP 6 5 rfl rfl (zin_lit ⟨by omega, by omega⟩) dX13_isMatched_182 ?_
            refine lv_topi (fun z182 e_z182 => ?_)
            have b_ : (-1) ≤ z182.toInt ∧ z182.toInt ≤ 1299 := by rw [e_z182]; exact hf24 _
            have b_ : 0 ≤ z182.toInt ∧ z182.toInt < x1.toInt := by have q := n1 (by omega); rw [← e_z182] at q; omega
            refine lv_iload_n hx hb dX13_isMatched_183 rfl (lv_at hl 2 rfl) ?_
            have hPc := hP.sub (ws' := [(h0, .inr (13, mX13 q0 v0)), ((q0 38), zi k23 1300 f23), ((q0 9), zi k8 120 f8), ((q0 41), zi k26 1300 f26), ((q0 44), zi k28 40 f28), ((q0 46), zi k30 40 f30), ((q0 39), zi k24 1300 f24), ((q0 40), zi k25 1300 f25), ((q0 11), zi k10 120 f10), ((q0 5), zi k4 122880 f4), ((q0 43), zi k27 40 f27), ((q0 45), zi k29 40 f29), ((q0 61), zi k37 200 f37), ((q0 62), zi k38 16000 f38), ((q0 12), zi k11 120 f11)]) [0, 1, 2, 3, 4, 5, 6, 7, 8, 9, 10, 11, 12, 13, 14] rfl
            have hDc := hD.sub (ws' := [(h0, .inr (13, mX13 q0 v0)), ((q0 38), zi k23 1300 f23), ((q0 9), zi k8 120 f8), ((q0 41), zi k26 1300 f26), ((q0 44), zi k28 40 f28), ((q0 46), zi k30 40 f30), ((q0 39), zi k24 1300 f24), ((q0 40), zi k25 1300 f25), ((q0 11), zi k10 120 f10), ((q0 5), zi k4 122880 f4), ((q0 43), zi k27 40 f27), ((q0 45), zi k29 40 f29), ((q0 61), zi k37 200 f37), ((q0 62), zi k38 16000 f38), ((q0 12), zi k11 120 f11)]) [0, 1, 2, 3, 4, 5, 6, 7, 8, 9, 10, 11, 12, 13, 14] (by decide) rfl
            have hKc := hK.sub (tys' := [(k23, .int), (k8, .int), (k26, .int), (k28, .int), (k30, .int), (k24, .int), (k25, .int), (k10, .int), (k4, .short), (k27, .int), (k29, .int), (k37, .int), (k38, .boolean), (k11, .int)]) [0, 1, 2, 3, 4, 5, 6, 7, 8, 9, 10, 11, 12, 13] rfl
            have hFc := va_free (wc := [(h0, .inr (13, mX13 q0 v0)), ((q0 38), zi k23 1300 f23), ((q0 9), zi k8 120 f8), ((q0 41), zi k26 1300 f26), ((q0 44), zi k28 40 f28), ((q0 46), zi k30 40 f30), ((q0 39), zi k24 1300 f24), ((q0 40), zi k25 1300 f25), ((q0 11), zi k10 120 f10), ((q0 5), zi k4 122880 f4), ((q0 43), zi k27 40 f27), ((q0 45), zi k29 40 f29), ((q0 61), zi k37 200 f37), ((q0 62), zi k38 16000 f38), ((q0 12), zi k11 120 f11)]) hD hS hA [0, 1, 2, 3, 4, 5, 6, 7, 8, 9, 10, 11, 12, 13, 14] rfl
            refine va_calli (va_runV (As := [.int z182, .int x2]) (rest := []) ⟨hx, hb, hml, hown, hG⟩ (ih dC dI adK adV h0 q0 k23 k8 k26 k28 k30 k24 k25 k10 k4 k27 k29 k37 k38 k11 s.heap.size v0 f23 f8 f26 f28 f30 f24 f25 f10 f4 f27 f29 f37 f38 f11 z182 x2 hv0 hf24 hf25 hf10 hf4 hf11 (show (0 : Int) ≤ (z182 : Int32).toInt ∧ (z182 : Int32).toInt ≤ (1299 : Int) from (by first | with_reducible assumption | exact ⟨by omega, by omega⟩)) (show (0 : Int) ≤ (x2 : Int32).toInt ∧ (x2 : Int32).toInt ≤ (119 : Int) from (by first | with_reducible assumption | exact ⟨by omega, by omega⟩)) (show z182.toInt < ((n : Nat) : Int) from by omega) (show zTr f23 f24 f25 f26 (v0 42).toInt (v0 47).toInt from by first | with_reducible assumption | assumption) (show zLf f27 f28 f29 (v0 47).toInt from by first | with_reducible assumption | assumption) (show z182.toInt < (v0 42).toInt from by omega)) (cwV 2 hG (zgV zv2186 zv2188 zv117 zv142 zv2189) rfl rfl rfl (by decide +kernel) ⟨(show n + 40 + 1 ≤ (n + 1) + 40 from by omega), (show 8 + (3 + 11) + (24 * n + 1200) ≤ 24 * (n + 1) + 1200 from by omega)⟩) ⟨zPc_blind, va_recv hKc hPc (ci := 13) (q0 := 0) rfl rfl, zPc_pre hPc hKc hDc hE hS hFc hZ⟩ rfl rfl hl.1 rfl (lv_room (Nat.le_of_ble_eq_true rfl)) dX13_isMatched_184 ⟨Nat.le_of_ble_eq_true rfl, Nat.le_of_ble_eq_true rfl⟩) hS (fun q _ h => hFc q h) hFc (fun r184_ u184_ t H1 locs ht hvm hw hB hz1 hk1 hS => ?_)
            replace hw : (0 ≤ r184_.toInt ∧ r184_.toInt ≤ 1) := hw
            have b_ := hw
            obtain ⟨w184_, a184_, b184_, hP1, hK1, hD1⟩ := hB
            rw [ht] at hP1
            obtain ⟨hP, hD⟩ := va_join (wr := []) (w1 := [(h0, .inr (13, mX13 q0 v0)), ((q0 38), zi k23 1300 f23), ((q0 9), zi k8 120 f8), ((q0 41), zi k26 1300 f26), ((q0 44), zi k28 40 f28), ((q0 46), zi k30 40 f30), ((q0 39), zi k24 1300 f24), ((q0 40), zi k25 1300 f25), ((q0 11), zi k10 120 f10), ((q0 5), zi k4 122880 f4), ((q0 43), zi k27 40 f27), ((q0 45), zi k29 40 f29), ((q0 61), zi k37 200 f37), ((q0 62), zi k38 16000 f38), ((q0 12), zi k11 120 f11)]) hP hD [0, 1, 2, 3, 4, 5, 6, 7, 8, 9, 10, 11, 12, 13, 14] [] rfl rfl (by decide) (by decide) hk1 hFc hP1 hD1
            have hP : va_P (dC, dI) vwCl [(h0, .inr (13, mX13 q0 v0)), ((q0 38), zi k23 1300 f23), ((q0 9), zi k8 120 f8), ((q0 41), zi k26 1300 f26), ((q0 44), zi k28 40 f28), ((q0 46), zi k30 40 f30), ((q0 39), zi k24 1300 f24), ((q0 40), zi k25 1300 f25), ((q0 11), zi k10 120 f10), ((q0 5), zi k4 122880 f4), ((q0 43), zi k27 40 f27), ((q0 45), zi k29 40 f29), ((q0 61), zi k37 200 f37), ((q0 62), zi k38 16000 f38), ((q0 12), zi k11 120 f11)] H1 := hP.sub [0, 1, 2, 3, 4, 5, 6, 7, 8, 9, 10, 11, 12, 13, 14] rfl
            have hD : va_D A [(h0, .inr (13, mX13 q0 v0)), ((q0 38), zi k23 1300 f23), ((q0 9), zi k8 120 f8), ((q0 41), zi k26 1300 f26), ((q0 44), zi k28 40 f28), ((q0 46), zi k30 40 f30), ((q0 39), zi k24 1300 f24), ((q0 40), zi k25 1300 f25), ((q0 11), zi k10 120 f10), ((q0 5), zi k4 122880 f4), ((q0 43), zi k27 40 f27), ((q0 45), zi k29 40 f29), ((q0 61), zi k37 200 f37), ((q0 62), zi k38 16000 f38), ((q0 12), zi k11 120 f11)] := hD.sub [0, 1, 2, 3, 4, 5, 6, 7, 8, 9, 10, 11, 12, 13, 14] (by decide) rfl
            generalize H1 = H at hP hS ⊢
            clear hz1
            refine lv_if_eq (tgt := 208) hx hb dX13_isMatched_187 (by decide) (fun c_ => ?_) (fun c_ => ?_)
            · skip
              have b_ := zT_eq rfl zk_0 c_
              refine lv_iconst (v := 0) hx hb dX13_isMatched_208 (by decide) ?_
              refine W.widen (k := 0) (n := 0) (by decide) (by decide) ?_
              have hpost : (0 ≤ (0 : Int32).toInt ∧ (0 : Int32).toInt ≤ 1) := (by first | with_reducible assumption | exact ⟨by omega, by omega⟩)
              have hP9 : va_P (dC, dI) vwCl [(h0, .inr (13, mX13 q0 v0)), ((q0 38), zi k23 1300 f23), ((q0 9), zi k8 120 f8), ((q0 41), zi k26 1300 f26), ((q0 44), zi k28 40 f28), ((q0 46), zi k30 40 f30), ((q0 39), zi k24 1300 f24), ((q0 40), zi k25 1300 f25), ((q0 11), zi k10 120 f10), ((q0 5), zi k4 122880 f4), ((q0 43), zi k27 40 f27), ((q0 45), zi k29 40 f29), ((q0 61), zi k37 200 f37), ((q0 62), zi k38 16000 f38), ((q0 12), zi k11 120 f11)] H := hP
              have hD9 : va_D A [(h0, .inr (13, mX13 q0 v0)), ((q0 38), zi k23 1300 f23), ((q0 9), zi k8 120 f8), ((q0 41), zi k26 1300 f26), ((q0 44), zi k28 40 f28), ((q0 46), zi k30 40 f30), ((q0 39), zi k24 1300 f24), ((q0 40), zi k25 1300 f25), ((q0 11), zi k10 120 f10), ((q0 5), zi k4 122880 f4), ((q0 43), zi k27 40 f27), ((q0 45), zi k29 40 f29), ((q0 61), zi k37 200 f37), ((q0 62), zi k38 16000 f38), ((q0 12), zi k11 120 f11)] := hD
              exact W.zret (v := 0) hx hb hr rfl (fun t ht hW => ⟨⟨0, (fun _ => 0), rfl, hpost, (fun _ => 0), (fun _ => (fun _ => 0)), (fun _ => (fun _ => 0)), by rw [ht]; exact hP9, va_K.moved hW.alike hK, hD9⟩, hS.F ht⟩) hS.2.2 dX13_isMatched_209
            · skip
              have b_ := zF_eq rfl zk_0 c_
              refine lv_aload_n hx hb dX13_isMatched_190 rfl (lv_at hl 0 rfl) ?_
              refine lv_aload_n hx hb dX13_isMatched_191 rfl (lv_at hl 0 rfl) ?_
              refine va_get (D := (dC, dI)) (ci := 13) (v := .ref (q0 40)) (C := RX13) (T := TX13) (N := 75) hx hb hG zuX13 hown hK hP 0 rfl rfl 40 (by decide) (hG _ zv1644) (fun _ h9 => h9) rfl dX13_isMatched_192 ?_
              refine lv_iload_n hx hb dX13_isMatched_195 rfl (lv_at hl 1 rfl) ?_
              refine va_iald hx hb hK hP 7 6 rfl rfl (zin_lit ⟨by omega, by omega⟩) dX13_isMatched_196 ?_
              refine lv_topi (fun z196 e_z196 => ?_)
              have b_ : (-1) ≤ z196.toInt ∧ z196.toInt ≤ 1299 := by rw [e_z196]; exact hf25 _
              have b_ : 0 ≤ z196.toInt ∧ z196.toInt < x1.toInt := by have q := n1 (by omega); rw [← e_z196] at q; omega
              refine lv_iload_n hx hb dX13_isMatched_197 rfl (lv_at hl 2 rfl) ?_
              have hPc := hP.sub (ws' := [(h0, .inr (13, mX13 q0 v0)), ((q0 38), zi k23 1300 f23), ((q0 9), zi k8 120 f8), ((q0 41), zi k26 1300 f26), ((q0 44), zi k28 40 f28), ((q0 46), zi k30 40 f30), ((q0 39), zi k24 1300 f24), ((q0 40), zi k25 1300 f25), ((q0 11), zi k10 120 f10), ((q0 5), zi k4 122880 f4), ((q0 43), zi k27 40 f27), ((q0 45), zi k29 40 f29), ((q0 61), zi k37 200 f37), ((q0 62), zi k38 16000 f38), ((q0 12), zi k11 120 f11)]) [0, 1, 2, 3, 4, 5, 6, 7, 8, 9, 10, 11, 12, 13, 14] rfl
              have hDc := hD.sub (ws' := [(h0, .inr (13, mX13 q0 v0)), ((q0 38), zi k23 1300 f23), ((q0 9), zi k8 120 f8), ((q0 41), zi k26 1300 f26), ((q0 44), zi k28 40 f28), ((q0 46), zi k30 40 f30), ((q0 39), zi k24 1300 f24), ((q0 40), zi k25 1300 f25), ((q0 11), zi k10 120 f10), ((q0 5), zi k4 122880 f4), ((q0 43), zi k27 40 f27), ((q0 45), zi k29 40 f29), ((q0 61), zi k37 200 f37), ((q0 62), zi k38 16000 f38), ((q0 12), zi k11 120 f11)]) [0, 1, 2, 3, 4, 5, 6, 7, 8, 9, 10, 11, 12, 13, 14] (by decide) rfl
              have hKc := hK.sub (tys' := [(k23, .int), (k8, .int), (k26, .int), (k28, .int), (k30, .int), (k24, .int), (k25, .int), (k10, .int), (k4, .short), (k27, .int), (k29, .int), (k37, .int), (k38, .boolean), (k11, .int)]) [0, 1, 2, 3, 4, 5, 6, 7, 8, 9, 10, 11, 12, 13] rfl
              have hFc := va_free (wc := [(h0, .inr (13, mX13 q0 v0)), ((q0 38), zi k23 1300 f23), ((q0 9), zi k8 120 f8), ((q0 41), zi k26 1300 f26), ((q0 44), zi k28 40 f28), ((q0 46), zi k30 40 f30), ((q0 39), zi k24 1300 f24), ((q0 40), zi k25 1300 f25), ((q0 11), zi k10 120 f10), ((q0 5), zi k4 122880 f4), ((q0 43), zi k27 40 f27), ((q0 45), zi k29 40 f29), ((q0 61), zi k37 200 f37), ((q0 62), zi k38 16000 f38), ((q0 12), zi k11 120 f11)]) hD hS hA [0, 1, 2, 3, 4, 5, 6, 7, 8, 9, 10, 11, 12, 13, 14] rfl
              refine va_calli (va_runV (As := [.int z196, .int x2]) (rest := []) ⟨hx, hb, hml, hown, hG⟩ (ih dC dI adK adV h0 q0 k23 k8 k26 k28 k30 k24 k25 k10 k4 k27 k29 k37 k38 k11 H.size v0 f23 f8 f26 f28 f30 f24 f25 f10 f4 f27 f29 f37 f38 f11 z196 x2 hv0 hf24 hf25 hf10 hf4 hf11 (show (0 : Int) ≤ (z196 : Int32).toInt ∧ (z196 : Int32).toInt ≤ (1299 : Int) from (by first | with_reducible assumption | exact ⟨by omega, by omega⟩)) (show (0 : Int) ≤ (x2 : Int32).toInt ∧ (x2 : Int32).toInt ≤ (119 : Int) from (by first | with_reducible assumption | exact ⟨by omega, by omega⟩)) (show z196.toInt < ((n : Nat) : Int) from by omega) (show zTr f23 f24 f25 f26 (v0 42).toInt (v0 47).toInt from by first | with_reducible assumption | assumption) (show zLf f27 f28 f29 (v0 47).toInt from by first | with_reducible assumption | assumption) (show z196.toInt < (v0 42).toInt from by omega)) (cwV 2 hG (zgV zv2186 zv2188 zv117 zv142 zv2189) rfl rfl rfl (by decide +kernel) ⟨(show n + 40 + 1 ≤ (n + 1) + 40 from by omega), (show 8 + (3 + 11) + (24 * n + 1200) ≤ 24 * (n + 1) + 1200 from by omega)⟩) ⟨zPc_blind, va_recv hKc hPc (ci := 13) (q0 := 0) rfl rfl, zPc_pre hPc hKc hDc hE hS hFc hZ⟩ rfl rfl hl.1 rfl (lv_room (Nat.le_of_ble_eq_true rfl)) dX13_isMatched_198 ⟨Nat.le_of_ble_eq_true rfl, Nat.le_of_ble_eq_true rfl⟩) hS (fun q _ h => hFc q h) hFc (fun r198_ u198_ t H1 locs ht hvm hw hB hz1 hk1 hS => ?_)
              replace hw : (0 ≤ r198_.toInt ∧ r198_.toInt ≤ 1) := hw
              have b_ := hw
              obtain ⟨w198_, a198_, b198_, hP1, hK1, hD1⟩ := hB
              rw [ht] at hP1
              obtain ⟨hP, hD⟩ := va_join (wr := []) (w1 := [(h0, .inr (13, mX13 q0 v0)), ((q0 38), zi k23 1300 f23), ((q0 9), zi k8 120 f8), ((q0 41), zi k26 1300 f26), ((q0 44), zi k28 40 f28), ((q0 46), zi k30 40 f30), ((q0 39), zi k24 1300 f24), ((q0 40), zi k25 1300 f25), ((q0 11), zi k10 120 f10), ((q0 5), zi k4 122880 f4), ((q0 43), zi k27 40 f27), ((q0 45), zi k29 40 f29), ((q0 61), zi k37 200 f37), ((q0 62), zi k38 16000 f38), ((q0 12), zi k11 120 f11)]) hP hD [0, 1, 2, 3, 4, 5, 6, 7, 8, 9, 10, 11, 12, 13, 14] [] rfl rfl (by decide) (by decide) hk1 hFc hP1 hD1
              have hP : va_P (dC, dI) vwCl [(h0, .inr (13, mX13 q0 v0)), ((q0 38), zi k23 1300 f23), ((q0 9), zi k8 120 f8), ((q0 41), zi k26 1300 f26), ((q0 44), zi k28 40 f28), ((q0 46), zi k30 40 f30), ((q0 39), zi k24 1300 f24), ((q0 40), zi k25 1300 f25), ((q0 11), zi k10 120 f10), ((q0 5), zi k4 122880 f4), ((q0 43), zi k27 40 f27), ((q0 45), zi k29 40 f29), ((q0 61), zi k37 200 f37), ((q0 62), zi k38 16000 f38), ((q0 12), zi k11 120 f11)] H1 := hP.sub [0, 1, 2, 3, 4, 5, 6, 7, 8, 9, 10, 11, 12, 13, 14] rfl
              have hD : va_D A [(h0, .inr (13, mX13 q0 v0)), ((q0 38), zi k23 1300 f23), ((q0 9), zi k8 120 f8), ((q0 41), zi k26 1300 f26), ((q0 44), zi k28 40 f28), ((q0 46), zi k30 40 f30), ((q0 39), zi k24 1300 f24), ((q0 40), zi k25 1300 f25), ((q0 11), zi k10 120 f10), ((q0 5), zi k4 122880 f4), ((q0 43), zi k27 40 f27), ((q0 45), zi k29 40 f29), ((q0 61), zi k37 200 f37), ((q0 62), zi k38 16000 f38), ((q0 12), zi k11 120 f11)] := hD.sub [0, 1, 2, 3, 4, 5, 6, 7, 8, 9, 10, 11, 12, 13, 14] (by decide) rfl
              generalize H1 = H at hP hS ⊢
              clear hz1
              refine lv_if_eq (tgt := 208) hx hb dX13_isMatched_201 (by decide) (fun c_ => ?_) (fun c_ => ?_)
              · skip
                have b_ := zT_eq rfl zk_0 c_
                refine lv_iconst (v := 0) hx hb dX13_isMatched_208 (by decide) ?_
                refine W.widen (k := 0) (n := 0) (by decide) (by decide) ?_
                have hpost : (0 ≤ (0 : Int32).toInt ∧ (0 : Int32).toInt ≤ 1) := (by first | with_reducible assumption | exact ⟨by omega, by omega⟩)
                have hP9 : va_P (dC, dI) vwCl [(h0, .inr (13, mX13 q0 v0)), ((q0 38), zi k23 1300 f23), ((q0 9), zi k8 120 f8), ((q0 41), zi k26 1300 f26), ((q0 44), zi k28 40 f28), ((q0 46), zi k30 40 f30), ((q0 39), zi k24 1300 f24), ((q0 40), zi k25 1300 f25), ((q0 11), zi k10 120 f10), ((q0 5), zi k4 122880 f4), ((q0 43), zi k27 40 f27), ((q0 45), zi k29 40 f29), ((q0 61), zi k37 200 f37), ((q0 62), zi k38 16000 f38), ((q0 12), zi k11 120 f11)] H := hP
                have hD9 : va_D A [(h0, .inr (13, mX13 q0 v0)), ((q0 38), zi k23 1300 f23), ((q0 9), zi k8 120 f8), ((q0 41), zi k26 1300 f26), ((q0 44), zi k28 40 f28), ((q0 46), zi k30 40 f30), ((q0 39), zi k24 1300 f24), ((q0 40), zi k25 1300 f25), ((q0 11), zi k10 120 f10), ((q0 5), zi k4 122880 f4), ((q0 43), zi k27 40 f27), ((q0 45), zi k29 40 f29), ((q0 61), zi k37 200 f37), ((q0 62), zi k38 16000 f38), ((q0 12), zi k11 120 f11)] := hD
                exact W.zret (v := 0) hx hb hr rfl (fun t ht hW => ⟨⟨0, (fun _ => 0), rfl, hpost, (fun _ => 0), (fun _ => (fun _ => 0)), (fun _ => (fun _ => 0)), by rw [ht]; exact hP9, va_K.moved hW.alike hK, hD9⟩, hS.F ht⟩) hS.2.2 dX13_isMatched_209
              · skip
                have b_ := zF_eq rfl zk_0 c_
                refine lv_iconst (v := 1) hx hb dX13_isMatched_204 (by decide) ?_
                refine lv_goto (tgt := 209) hx hb dX13_isMatched_205 (by decide) ?_
                refine W.widen (k := 0) (n := 0) (by decide) (by decide) ?_
                have hpost : (0 ≤ (1 : Int32).toInt ∧ (1 : Int32).toInt ≤ 1) := (by first | with_reducible assumption | exact ⟨by omega, by omega⟩)
                have hP9 : va_P (dC, dI) vwCl [(h0, .inr (13, mX13 q0 v0)), ((q0 38), zi k23 1300 f23), ((q0 9), zi k8 120 f8), ((q0 41), zi k26 1300 f26), ((q0 44), zi k28 40 f28), ((q0 46), zi k30 40 f30), ((q0 39), zi k24 1300 f24), ((q0 40), zi k25 1300 f25), ((q0 11), zi k10 120 f10), ((q0 5), zi k4 122880 f4), ((q0 43), zi k27 40 f27), ((q0 45), zi k29 40 f29), ((q0 61), zi k37 200 f37), ((q0 62), zi k38 16000 f38), ((q0 12), zi k11 120 f11)] H := hP
                have hD9 : va_D A [(h0, .inr (13, mX13 q0 v0)), ((q0 38), zi k23 1300 f23), ((q0 9), zi k8 120 f8), ((q0 41), zi k26 1300 f26), ((q0 44), zi k28 40 f28), ((q0 46), zi k30 40 f30), ((q0 39), zi k24 1300 f24), ((q0 40), zi k25 1300 f25), ((q0 11), zi k10 120 f10), ((q0 5), zi k4 122880 f4), ((q0 43), zi k27 40 f27), ((q0 45), zi k29 40 f29), ((q0 61), zi k37 200 f37), ((q0 62), zi k38 16000 f38), ((q0 12), zi k11 120 f11)] := hD
                exact W.zret (v := 1) hx hb hr rfl (fun t ht hW => ⟨⟨1, (fun _ => 0), rfl, hpost, (fun _ => 0), (fun _ => (fun _ => 0)), (fun _ => (fun _ => 0)), by rw [ht]; exact hP9, va_K.moved hW.alike hK, hD9⟩, hS.F ht⟩) hS.2.2 dX13_isMatched_209
          · skip
            have b_ : z5.toInt ≠ 8 := fun h => c_ (zeqi.mpr (h.trans zk_8.symm))
            rcases Classical.em (z5 = (9 : Int32)) with c_ | c_
            · skip
              have b_ : z5.toInt = 9 := by rw [c_]; exact zk_9
              refine lv_tableIn (off := 204) (tgt := 210) hx hb dX13_isMatched_6 (by omega) (by omega) (by rw [b_]; decide) (by decide) ?_
              refine lv_aload_n hx hb dX13_isMatched_210 rfl (lv_at hl 0 rfl) ?_
              refine lv_aload_n hx hb dX13_isMatched_211 rfl (lv_at hl 0 rfl) ?_
              refine va_get (D := (dC, dI)) (ci := 13) (v := .ref (q0 39)) (C := RX13) (T := TX13) (N := 75) hx hb hG zuX13 hown hK hP 0 rfl rfl 39 (by decide) (hG _ zv1643) (fun _ h9 => h9) rfl dX13_isMatched_212 ?_
              refine lv_iload_n hx hb dX13_isMatched_215 rfl (lv_at hl 1 rfl) ?_
              refine va_iald hx hb hK hP 6 5 rfl rfl (zin_lit ⟨by omega, by omega⟩) dX13_isMatched_216 ?_
              refine lv_topi (fun z216 e_z216 => ?_)
              have b_ : (-1) ≤ z216.toInt ∧ z216.toInt ≤ 1299 := by rw [e_z216]; exact hf24 _
              have b_ : 0 ≤ z216.toInt ∧ z216.toInt < x1.toInt := by have q := n1 (by omega); rw [← e_z216] at q; omega
              refine lv_iload_n hx hb dX13_isMatched_217 rfl (lv_at hl 2 rfl) ?_
              have hPc := hP.sub (ws' := [(h0, .inr (13, mX13 q0 v0)), ((q0 38), zi k23 1300 f23), ((q0 9), zi k8 120 f8), ((q0 41), zi k26 1300 f26), ((q0 44), zi k28 40 f28), ((q0 46), zi k30 40 f30), ((q0 39), zi k24 1300 f24), ((q0 40), zi k25 1300 f25), ((q0 11), zi k10 120 f10), ((q0 5), zi k4 122880 f4), ((q0 43), zi k27 40 f27), ((q0 45), zi k29 40 f29), ((q0 61), zi k37 200 f37), ((q0 62), zi k38 16000 f38), ((q0 12), zi k11 120 f11)]) [0, 1, 2, 3, 4, 5, 6, 7, 8, 9, 10, 11, 12, 13, 14] rfl
              have hDc := hD.sub (ws' := [(h0, .inr (13, mX13 q0 v0)), ((q0 38), zi k23 1300 f23), ((q0 9), zi k8 120 f8), ((q0 41), zi k26 1300 f26), ((q0 44), zi k28 40 f28), ((q0 46), zi k30 40 f30), ((q0 39), zi k24 1300 f24), ((q0 40), zi k25 1300 f25), ((q0 11), zi k10 120 f10), ((q0 5), zi k4 122880 f4), ((q0 43), zi k27 40 f27), ((q0 45), zi k29 40 f29), ((q0 61), zi k37 200 f37), ((q0 62), zi k38 16000 f38), ((q0 12), zi k11 120 f11)]) [0, 1, 2, 3, 4, 5, 6, 7, 8, 9, 10, 11, 12, 13, 14] (by decide) rfl
              have hKc := hK.sub (tys' := [(k23, .int), (k8, .int), (k26, .int), (k28, .int), (k30, .int), (k24, .int), (k25, .int), (k10, .int), (k4, .short), (k27, .int), (k29, .int), (k37, .int), (k38, .boolean), (k11, .int)]) [0, 1, 2, 3, 4, 5, 6, 7, 8, 9, 10, 11, 12, 13] rfl
              have hFc := va_free (wc := [(h0, .inr (13, mX13 q0 v0)), ((q0 38), zi k23 1300 f23), ((q0 9), zi k8 120 f8), ((q0 41), zi k26 1300 f26), ((q0 44), zi k28 40 f28), ((q0 46), zi k30 40 f30), ((q0 39), zi k24 1300 f24), ((q0 40), zi k25 1300 f25), ((q0 11), zi k10 120 f10), ((q0 5), zi k4 122880 f4), ((q0 43), zi k27 40 f27), ((q0 45), zi k29 40 f29), ((q0 61), zi k37 200 f37), ((q0 62), zi k38 16000 f38), ((q0 12), zi k11 120 f11)]) hD hS hA [0, 1, 2, 3, 4, 5, 6, 7, 8, 9, 10, 11, 12, 13, 14] rfl
              refine va_calli (va_runV (As := [.int z216, .int x2]) (rest := []) ⟨hx, hb, hml, hown, hG⟩ (ih dC dI adK adV h0 q0 k23 k8 k26 k28 k30 k24 k25 k10 k4 k27 k29 k37 k38 k11 s.heap.size v0 f23 f8 f26 f28 f30 f24 f25 f10 f4 f27 f29 f37 f38 f11 z216 x2 hv0 hf24 hf25 hf10 hf4 hf11 (show (0 : Int) ≤ (z216 : Int32).toInt ∧ (z216 : Int32).toInt ≤ (1299 : Int) from (by first | with_reducible assumption | exact ⟨by omega, by omega⟩)) (show (0 : Int) ≤ (x2 : Int32).toInt ∧ (x2 : Int32).toInt ≤ (119 : Int) from (by first | with_reducible assumption | exact ⟨by omega, by omega⟩)) (show z216.toInt < ((n : Nat) : Int) from by omega) (show zTr f23 f24 f25 f26 (v0 42).toInt (v0 47).toInt from by first | with_reducible assumption | assumption) (show zLf f27 f28 f29 (v0 47).toInt from by first | with_reducible assumption | assumption) (show z216.toInt < (v0 42).toInt from by omega)) (cwV 2 hG (zgV zv2186 zv2188 zv117 zv142 zv2189) rfl rfl rfl (by decide +kernel) ⟨(show n + 40 + 1 ≤ (n + 1) + 40 from by omega), (show 8 + (3 + 11) + (24 * n + 1200) ≤ 24 * (n + 1) + 1200 from by omega)⟩) ⟨zPc_blind, va_recv hKc hPc (ci := 13) (q0 := 0) rfl rfl, zPc_pre hPc hKc hDc hE hS hFc hZ⟩ rfl rfl hl.1 rfl (lv_room (Nat.le_of_ble_eq_true rfl)) dX13_isMatched_218 ⟨Nat.le_of_ble_eq_true rfl, Nat.le_of_ble_eq_true rfl⟩) hS (fun q _ h => hFc q h) hFc (fun r218_ u218_ t H1 locs ht hvm hw hB hz1 hk1 hS => ?_)
              replace hw : (0 ≤ r218_.toInt ∧ r218_.toInt ≤ 1) := hw
              have b_ := hw
              obtain ⟨w218_, a218_, b218_, hP1, hK1, hD1⟩ := hB
              rw [ht] at hP1
              obtain ⟨hP, hD⟩ := va_join (wr := []) (w1 := [(h0, .inr (13, mX13 q0 v0)), ((q0 38), zi k23 1300 f23), ((q0 9), zi k8 120 f8), ((q0 41), zi k26 1300 f26), ((q0 44), zi k28 40 f28), ((q0 46), zi k30 40 f30), ((q0 39), zi k24 1300 f24), ((q0 40), zi k25 1300 f25), ((q0 11), zi k10 120 f10), ((q0 5), zi k4 122880 f4), ((q0 43), zi k27 40 f27), ((q0 45), zi k29 40 f29), ((q0 61), zi k37 200 f37), ((q0 62), zi k38 16000 f38), ((q0 12), zi k11 120 f11)]) hP hD [0, 1, 2, 3, 4, 5, 6, 7, 8, 9, 10, 11, 12, 13, 14] [] rfl rfl (by decide) (by decide) hk1 hFc hP1 hD1
              have hP : va_P (dC, dI) vwCl [(h0, .inr (13, mX13 q0 v0)), ((q0 38), zi k23 1300 f23), ((q0 9), zi k8 120 f8), ((q0 41), zi k26 1300 f26), ((q0 44), zi k28 40 f28), ((q0 46), zi k30 40 f30), ((q0 39), zi k24 1300 f24), ((q0 40), zi k25 1300 f25), ((q0 11), zi k10 120 f10), ((q0 5), zi k4 122880 f4), ((q0 43), zi k27 40 f27), ((q0 45), zi k29 40 f29), ((q0 61), zi k37 200 f37), ((q0 62), zi k38 16000 f38), ((q0 12), zi k11 120 f11)] H1 := hP.sub [0, 1, 2, 3, 4, 5, 6, 7, 8, 9, 10, 11, 12, 13, 14] rfl
              have hD : va_D A [(h0, .inr (13, mX13 q0 v0)), ((q0 38), zi k23 1300 f23), ((q0 9), zi k8 120 f8), ((q0 41), zi k26 1300 f26), ((q0 44), zi k28 40 f28), ((q0 46), zi k30 40 f30), ((q0 39), zi k24 1300 f24), ((q0 40), zi k25 1300 f25), ((q0 11), zi k10 120 f10), ((q0 5), zi k4 122880 f4), ((q0 43), zi k27 40 f27), ((q0 45), zi k29 40 f29), ((q0 61), zi k37 200 f37), ((q0 62), zi k38 16000 f38), ((q0 12), zi k11 120 f11)] := hD.sub [0, 1, 2, 3, 4, 5, 6, 7, 8, 9, 10, 11, 12, 13, 14] (by decide) rfl
              generalize H1 = H at hP hS ⊢
              clear hz1
              refine lv_if_ne (tgt := 238) hx hb dX13_isMatched_221 (by decide) (fun c_ => ?_) (fun c_ => ?_)
              · skip
                have b_ := zT_ne rfl zk_0 c_
                refine lv_iconst (v := 1) hx hb dX13_isMatched_238 (by decide) ?_
                refine lv_goto (tgt := 243) hx hb dX13_isMatched_239 (by decide) ?_
                refine W.widen (k := 0) (n := 0) (by decide) (by decide) ?_
                have hpost : (0 ≤ (1 : Int32).toInt ∧ (1 : Int32).toInt ≤ 1) := (by first | with_reducible assumption | exact ⟨by omega, by omega⟩)
                have hP9 : va_P (dC, dI) vwCl [(h0, .inr (13, mX13 q0 v0)), ((q0 38), zi k23 1300 f23), ((q0 9), zi k8 120 f8), ((q0 41), zi k26 1300 f26), ((q0 44), zi k28 40 f28), ((q0 46), zi k30 40 f30), ((q0 39), zi k24 1300 f24), ((q0 40), zi k25 1300 f25), ((q0 11), zi k10 120 f10), ((q0 5), zi k4 122880 f4), ((q0 43), zi k27 40 f27), ((q0 45), zi k29 40 f29), ((q0 61), zi k37 200 f37), ((q0 62), zi k38 16000 f38), ((q0 12), zi k11 120 f11)] H := hP
                have hD9 : va_D A [(h0, .inr (13, mX13 q0 v0)), ((q0 38), zi k23 1300 f23), ((q0 9), zi k8 120 f8), ((q0 41), zi k26 1300 f26), ((q0 44), zi k28 40 f28), ((q0 46), zi k30 40 f30), ((q0 39), zi k24 1300 f24), ((q0 40), zi k25 1300 f25), ((q0 11), zi k10 120 f10), ((q0 5), zi k4 122880 f4), ((q0 43), zi k27 40 f27), ((q0 45), zi k29 40 f29), ((q0 61), zi k37 200 f37), ((q0 62), zi k38 16000 f38), ((q0 12), zi k11 120 f11)] := hD
                exact W.zret (v := 1) hx hb hr rfl (fun t ht hW => ⟨⟨1, (fun _ => 0), rfl, hpost, (fun _ => 0), (fun _ => (fun _ => 0)), (fun _ => (fun _ => 0)), by rw [ht]; exact hP9, va_K.moved hW.alike hK, hD9⟩, hS.F ht⟩) hS.2.2 dX13_isMatched_243
              · skip
                have b_ := zF_ne rfl zk_0 c_
                refine lv_aload_n hx hb dX13_isMatched_224 rfl (lv_at hl 0 rfl) ?_
                refine lv_aload_n hx hb dX13_isMatched_225 rfl (lv_at hl 0 rfl) ?_
                refine va_get (D := (dC, dI)) (ci := 13) (v := .ref (q0 40)) (C := RX13) (T := TX13) (N := 75) hx hb hG zuX13 hown hK hP 0 rfl rfl 40 (by decide) (hG _ zv1644) (fun _ h9 => h9) rfl dX13_isMatched_226 ?_
                refine lv_iload_n hx hb dX13_isMatched_229 rfl (lv_at hl 1 rfl) ?_
                refine va_iald hx hb hK hP 7 6 rfl rfl (zin_lit ⟨by omega, by omega⟩) dX13_isMatched_230 ?_
                refine lv_topi (fun z230 e_z230 => ?_)
                have b_ : (-1) ≤ z230.toInt ∧ z230.toInt ≤ 1299 := by rw [e_z230]; exact hf25 _
                have b_ : 0 ≤ z230.toInt ∧ z230.toInt < x1.toInt := by have q := n1 (by omega); rw [← e_z230] at q; omega
                refine lv_iload_n hx hb dX13_isMatched_231 rfl (lv_at hl 2 rfl) ?_
                have hPc := hP.sub (ws' := [(h0, .inr (13, mX13 q0 v0)), ((q0 38), zi k23 1300 f23), ((q0 9), zi k8 120 f8), ((q0 41), zi k26 1300 f26), ((q0 44), zi k28 40 f28), ((q0 46), zi k30 40 f30), ((q0 39), zi k24 1300 f24), ((q0 40), zi k25 1300 f25), ((q0 11), zi k10 120 f10), ((q0 5), zi k4 122880 f4), ((q0 43), zi k27 40 f27), ((q0 45), zi k29 40 f29), ((q0 61), zi k37 200 f37), ((q0 62), zi k38 16000 f38), ((q0 12), zi k11 120 f11)]) [0, 1, 2, 3, 4, 5, 6, 7, 8, 9, 10, 11, 12, 13, 14] rfl
                have hDc := hD.sub (ws' := [(h0, .inr (13, mX13 q0 v0)), ((q0 38), zi k23 1300 f23), ((q0 9), zi k8 120 f8), ((q0 41), zi k26 1300 f26), ((q0 44), zi k28 40 f28), ((q0 46), zi k30 40 f30), ((q0 39), zi k24 1300 f24), ((q0 40), zi k25 1300 f25), ((q0 11), zi k10 120 f10), ((q0 5), zi k4 122880 f4), ((q0 43), zi k27 40 f27), ((q0 45), zi k29 40 f29), ((q0 61), zi k37 200 f37), ((q0 62), zi k38 16000 f38), ((q0 12), zi k11 120 f11)]) [0, 1, 2, 3, 4, 5, 6, 7, 8, 9, 10, 11, 12, 13, 14] (by decide) rfl
                have hKc := hK.sub (tys' := [(k23, .int), (k8, .int), (k26, .int), (k28, .int), (k30, .int), (k24, .int), (k25, .int), (k10, .int), (k4, .short), (k27, .int), (k29, .int), (k37, .int), (k38, .boolean), (k11, .int)]) [0, 1, 2, 3, 4, 5, 6, 7, 8, 9, 10, 11, 12, 13] rfl
                have hFc := va_free (wc := [(h0, .inr (13, mX13 q0 v0)), ((q0 38), zi k23 1300 f23), ((q0 9), zi k8 120 f8), ((q0 41), zi k26 1300 f26), ((q0 44), zi k28 40 f28), ((q0 46), zi k30 40 f30), ((q0 39), zi k24 1300 f24), ((q0 40), zi k25 1300 f25), ((q0 11), zi k10 120 f10), ((q0 5), zi k4 122880 f4), ((q0 43), zi k27 40 f27), ((q0 45), zi k29 40 f29), ((q0 61), zi k37 200 f37), ((q0 62), zi k38 16000 f38), ((q0 12), zi k11 120 f11)]) hD hS hA [0, 1, 2, 3, 4, 5, 6, 7, 8, 9, 10, 11, 12, 13, 14] rfl
                refine va_calli (va_runV (As := [.int z230, .int x2]) (rest := []) ⟨hx, hb, hml, hown, hG⟩ (ih dC dI adK adV h0 q0 k23 k8 k26 k28 k30 k24 k25 k10 k4 k27 k29 k37 k38 k11 H.size v0 f23 f8 f26 f28 f30 f24 f25 f10 f4 f27 f29 f37 f38 f11 z230 x2 hv0 hf24 hf25 hf10 hf4 hf11 (show (0 : Int) ≤ (z230 : Int32).toInt ∧ (z230 : Int32).toInt ≤ (1299 : Int) from (by first | with_reducible assumption | exact ⟨by omega, by omega⟩)) (show (0 : Int) ≤ (x2 : Int32).toInt ∧ (x2 : Int32).toInt ≤ (119 : Int) from (by first | with_reducible assumption | exact ⟨by omega, by omega⟩)) (show z230.toInt < ((n : Nat) : Int) from by omega) (show zTr f23 f24 f25 f26 (v0 42).toInt (v0 47).toInt from by first | with_reducible assumption | assumption) (show zLf f27 f28 f29 (v0 47).toInt from by first | with_reducible assumption | assumption) (show z230.toInt < (v0 42).toInt from by omega)) (cwV 2 hG (zgV zv2186 zv2188 zv117 zv142 zv2189) rfl rfl rfl (by decide +kernel) ⟨(show n + 40 + 1 ≤ (n + 1) + 40 from by omega), (show 8 + (3 + 11) + (24 * n + 1200) ≤ 24 * (n + 1) + 1200 from by omega)⟩) ⟨zPc_blind, va_recv hKc hPc (ci := 13) (q0 := 0) rfl rfl, zPc_pre hPc hKc hDc hE hS hFc hZ⟩ rfl rfl hl.1 rfl (lv_room (Nat.le_of_ble_eq_true rfl)) dX13_isMatched_232 ⟨Nat.le_of_ble_eq_true rfl, Nat.le_of_ble_eq_true rfl⟩) hS (fun q _ h => hFc q h) hFc (fun r232_ u232_ t H1 locs ht hvm hw hB hz1 hk1 hS => ?_)
                replace hw : (0 ≤ r232_.toInt ∧ r232_.toInt ≤ 1) := hw
                have b_ := hw
                obtain ⟨w232_, a232_, b232_, hP1, hK1, hD1⟩ := hB
                rw [ht] at hP1
                obtain ⟨hP, hD⟩ := va_join (wr := []) (w1 := [(h0, .inr (13, mX13 q0 v0)), ((q0 38), zi k23 1300 f23), ((q0 9), zi k8 120 f8), ((q0 41), zi k26 1300 f26), ((q0 44), zi k28 40 f28), ((q0 46), zi k30 40 f30), ((q0 39), zi k24 1300 f24), ((q0 40), zi k25 1300 f25), ((q0 11), zi k10 120 f10), ((q0 5), zi k4 122880 f4), ((q0 43), zi k27 40 f27), ((q0 45), zi k29 40 f29), ((q0 61), zi k37 200 f37), ((q0 62), zi k38 16000 f38), ((q0 12), zi k11 120 f11)]) hP hD [0, 1, 2, 3, 4, 5, 6, 7, 8, 9, 10, 11, 12, 13, 14] [] rfl rfl (by decide) (by decide) hk1 hFc hP1 hD1
                have hP : va_P (dC, dI) vwCl [(h0, .inr (13, mX13 q0 v0)), ((q0 38), zi k23 1300 f23), ((q0 9), zi k8 120 f8), ((q0 41), zi k26 1300 f26), ((q0 44), zi k28 40 f28), ((q0 46), zi k30 40 f30), ((q0 39), zi k24 1300 f24), ((q0 40), zi k25 1300 f25), ((q0 11), zi k10 120 f10), ((q0 5), zi k4 122880 f4), ((q0 43), zi k27 40 f27), ((q0 45), zi k29 40 f29), ((q0 61), zi k37 200 f37), ((q0 62), zi k38 16000 f38), ((q0 12), zi k11 120 f11)] H1 := hP.sub [0, 1, 2, 3, 4, 5, 6, 7, 8, 9, 10, 11, 12, 13, 14] rfl
                have hD : va_D A [(h0, .inr (13, mX13 q0 v0)), ((q0 38), zi k23 1300 f23), ((q0 9), zi k8 120 f8), ((q0 41), zi k26 1300 f26), ((q0 44), zi k28 40 f28), ((q0 46), zi k30 40 f30), ((q0 39), zi k24 1300 f24), ((q0 40), zi k25 1300 f25), ((q0 11), zi k10 120 f10), ((q0 5), zi k4 122880 f4), ((q0 43), zi k27 40 f27), ((q0 45), zi k29 40 f29), ((q0 61), zi k37 200 f37), ((q0 62), zi k38 16000 f38), ((q0 12), zi k11 120 f11)] := hD.sub [0, 1, 2, 3, 4, 5, 6, 7, 8, 9, 10, 11, 12, 13, 14] (by decide) rfl
                generalize H1 = H at hP hS ⊢
                clear hz1
                refine lv_if_eq (tgt := 242) hx hb dX13_isMatched_235 (by decide) (fun c_ => ?_) (fun c_ => ?_)
                · skip
                  have b_ := zT_eq rfl zk_0 c_
                  refine lv_iconst (v := 0) hx hb dX13_isMatched_242 (by decide) ?_
                  refine W.widen (k := 0) (n := 0) (by decide) (by decide) ?_
                  have hpost : (0 ≤ (0 : Int32).toInt ∧ (0 : Int32).toInt ≤ 1) := (by first | with_reducible assumption | exact ⟨by omega, by omega⟩)
                  have hP9 : va_P (dC, dI) vwCl [(h0, .inr (13, mX13 q0 v0)), ((q0 38), zi k23 1300 f23), ((q0 9), zi k8 120 f8), ((q0 41), zi k26 1300 f26), ((q0 44), zi k28 40 f28), ((q0 46), zi k30 40 f30), ((q0 39), zi k24 1300 f24), ((q0 40), zi k25 1300 f25), ((q0 11), zi k10 120 f10), ((q0 5), zi k4 122880 f4), ((q0 43), zi k27 40 f27), ((q0 45), zi k29 40 f29), ((q0 61), zi k37 200 f37), ((q0 62), zi k38 16000 f38), ((q0 12), zi k11 120 f11)] H := hP
                  have hD9 : va_D A [(h0, .inr (13, mX13 q0 v0)), ((q0 38), zi k23 1300 f23), ((q0 9), zi k8 120 f8), ((q0 41), zi k26 1300 f26), ((q0 44), zi k28 40 f28), ((q0 46), zi k30 40 f30), ((q0 39), zi k24 1300 f24), ((q0 40), zi k25 1300 f25), ((q0 11), zi k10 120 f10), ((q0 5), zi k4 122880 f4), ((q0 43), zi k27 40 f27), ((q0 45), zi k29 40 f29), ((q0 61), zi k37 200 f37), ((q0 62), zi k38 16000 f38), ((q0 12), zi k11 120 f11)] := hD
                  exact W.zret (v := 0) hx hb hr rfl (fun t ht hW => ⟨⟨0, (fun _ => 0), rfl, hpost, (fun _ => 0), (fun _ => (fun _ => 0)), (fun _ => (fun _ => 0)), by rw [ht]; exact hP9, va_K.moved hW.alike hK, hD9⟩, hS.F ht⟩) hS.2.2 dX13_isMatched_243
                · skip
                  have b_ := zF_eq rfl zk_0 c_
                  refine lv_iconst (v := 1) hx hb dX13_isMatched_238 (by decide) ?_
                  refine lv_goto (tgt := 243) hx hb dX13_isMatched_239 (by decide) ?_
                  refine W.widen (k := 0) (n := 0) (by decide) (by decide) ?_
                  have hpost : (0 ≤ (1 : Int32).toInt ∧ (1 : Int32).toInt ≤ 1) := (by first | with_reducible assumption | exact ⟨by omega, by omega⟩)
                  have hP9 : va_P (dC, dI) vwCl [(h0, .inr (13, mX13 q0 v0)), ((q0 38), zi k23 1300 f23), ((q0 9), zi k8 120 f8), ((q0 41), zi k26 1300 f26), ((q0 44), zi k28 40 f28), ((q0 46), zi k30 40 f30), ((q0 39), zi k24 1300 f24), ((q0 40), zi k25 1300 f25), ((q0 11), zi k10 120 f10), ((q0 5), zi k4 122880 f4), ((q0 43), zi k27 40 f27), ((q0 45), zi k29 40 f29), ((q0 61), zi k37 200 f37), ((q0 62), zi k38 16000 f38), ((q0 12), zi k11 120 f11)] H := hP
                  have hD9 : va_D A [(h0, .inr (13, mX13 q0 v0)), ((q0 38), zi k23 1300 f23), ((q0 9), zi k8 120 f8), ((q0 41), zi k26 1300 f26), ((q0 44), zi k28 40 f28), ((q0 46), zi k30 40 f30), ((q0 39), zi k24 1300 f24), ((q0 40), zi k25 1300 f25), ((q0 11), zi k10 120 f10), ((q0 5), zi k4 122880 f4), ((q0 43), zi k27 40 f27), ((q0 45), zi k29 40 f29), ((q0 61), zi k37 200 f37), ((q0 62), zi k38 16000 f38), ((q0 12), zi k11 120 f11)] := hD
                  exact W.zret (v := 1) hx hb hr rfl (fun t ht hW => ⟨⟨1, (fun _ => 0), rfl, hpost, (fun _ => 0), (fun _ => (fun _ => 0)), (fun _ => (fun _ => 0)), by rw [ht]; exact hP9, va_K.moved hW.alike hK, hD9⟩, hS.F ht⟩) hS.2.2 dX13_isMatched_243
            · skip
              have b_ : z5.toInt ≠ 9 := fun h => c_ (zeqi.mpr (h.trans zk_9.symm))
              rcases Classical.em (z5 = (10 : Int32)) with c_ | c_
              · skip
                have b_ : z5.toInt = 10 := by rw [c_]; exact zk_10
                refine lv_tableIn (off := 238) (tgt := 244) hx hb dX13_isMatched_6 (by omega) (by omega) (by rw [b_]; decide) (by decide) ?_
                refine lv_aload_n hx hb dX13_isMatched_244 rfl (lv_at hl 0 rfl) ?_
                refine lv_aload_n hx hb dX13_isMatched_245 rfl (lv_at hl 0 rfl) ?_
                refine va_get (D := (dC, dI)) (ci := 13) (v := .ref (q0 39)) (C := RX13) (T := TX13) (N := 75) hx hb hG zuX13 hown hK hP 0 rfl rfl 39 (by decide) (hG _ zv1643) (fun _ h9 => h9) rfl dX13_isMatched_246 ?_
                refine lv_iload_n hx hb dX13_isMatched_249 rfl (lv_at hl 1 rfl) ?_
                refine va_iald hx hb hK hP 6 5 rfl rfl (zin_lit ⟨by omega, by omega⟩) dX13_isMatched_250 ?_
                refine lv_topi (fun z250 e_z250 => ?_)
                have b_ : (-1) ≤ z250.toInt ∧ z250.toInt ≤ 1299 := by rw [e_z250]; exact hf24 _
                have b_ : 0 ≤ z250.toInt ∧ z250.toInt < x1.toInt := by have q := n2 (by omega); rw [← e_z250] at q; omega
                refine lv_iload_n hx hb dX13_isMatched_251 rfl (lv_at hl 2 rfl) ?_
                have hPc := hP.sub (ws' := [(h0, .inr (13, mX13 q0 v0)), ((q0 38), zi k23 1300 f23), ((q0 9), zi k8 120 f8), ((q0 41), zi k26 1300 f26), ((q0 44), zi k28 40 f28), ((q0 46), zi k30 40 f30), ((q0 39), zi k24 1300 f24), ((q0 40), zi k25 1300 f25), ((q0 11), zi k10 120 f10), ((q0 5), zi k4 122880 f4), ((q0 43), zi k27 40 f27), ((q0 45), zi k29 40 f29), ((q0 61), zi k37 200 f37), ((q0 62), zi k38 16000 f38), ((q0 12), zi k11 120 f11)]) [0, 1, 2, 3, 4, 5, 6, 7, 8, 9, 10, 11, 12, 13, 14] rfl
                have hDc := hD.sub (ws' := [(h0, .inr (13, mX13 q0 v0)), ((q0 38), zi k23 1300 f23), ((q0 9), zi k8 120 f8), ((q0 41), zi k26 1300 f26), ((q0 44), zi k28 40 f28), ((q0 46), zi k30 40 f30), ((q0 39), zi k24 1300 f24), ((q0 40), zi k25 1300 f25), ((q0 11), zi k10 120 f10), ((q0 5), zi k4 122880 f4), ((q0 43), zi k27 40 f27), ((q0 45), zi k29 40 f29), ((q0 61), zi k37 200 f37), ((q0 62), zi k38 16000 f38), ((q0 12), zi k11 120 f11)]) [0, 1, 2, 3, 4, 5, 6, 7, 8, 9, 10, 11, 12, 13, 14] (by decide) rfl
                have hKc := hK.sub (tys' := [(k23, .int), (k8, .int), (k26, .int), (k28, .int), (k30, .int), (k24, .int), (k25, .int), (k10, .int), (k4, .short), (k27, .int), (k29, .int), (k37, .int), (k38, .boolean), (k11, .int)]) [0, 1, 2, 3, 4, 5, 6, 7, 8, 9, 10, 11, 12, 13] rfl
                have hFc := va_free (wc := [(h0, .inr (13, mX13 q0 v0)), ((q0 38), zi k23 1300 f23), ((q0 9), zi k8 120 f8), ((q0 41), zi k26 1300 f26), ((q0 44), zi k28 40 f28), ((q0 46), zi k30 40 f30), ((q0 39), zi k24 1300 f24), ((q0 40), zi k25 1300 f25), ((q0 11), zi k10 120 f10), ((q0 5), zi k4 122880 f4), ((q0 43), zi k27 40 f27), ((q0 45), zi k29 40 f29), ((q0 61), zi k37 200 f37), ((q0 62), zi k38 16000 f38), ((q0 12), zi k11 120 f11)]) hD hS hA [0, 1, 2, 3, 4, 5, 6, 7, 8, 9, 10, 11, 12, 13, 14] rfl
                refine va_calli (va_runV (As := [.int z250, .int x2]) (rest := []) ⟨hx, hb, hml, hown, hG⟩ (ih dC dI adK adV h0 q0 k23 k8 k26 k28 k30 k24 k25 k10 k4 k27 k29 k37 k38 k11 s.heap.size v0 f23 f8 f26 f28 f30 f24 f25 f10 f4 f27 f29 f37 f38 f11 z250 x2 hv0 hf24 hf25 hf10 hf4 hf11 (show (0 : Int) ≤ (z250 : Int32).toInt ∧ (z250 : Int32).toInt ≤ (1299 : Int) from (by first | with_reducible assumption | exact ⟨by omega, by omega⟩)) (show (0 : Int) ≤ (x2 : Int32).toInt ∧ (x2 : Int32).toInt ≤ (119 : Int) from (by first | with_reducible assumption | exact ⟨by omega, by omega⟩)) (show z250.toInt < ((n : Nat) : Int) from by omega) (show zTr f23 f24 f25 f26 (v0 42).toInt (v0 47).toInt from by first | with_reducible assumption | assumption) (show zLf f27 f28 f29 (v0 47).toInt from by first | with_reducible assumption | assumption) (show z250.toInt < (v0 42).toInt from by omega)) (cwV 2 hG (zgV zv2186 zv2188 zv117 zv142 zv2189) rfl rfl rfl (by decide +kernel) ⟨(show n + 40 + 1 ≤ (n + 1) + 40 from by omega), (show 8 + (3 + 11) + (24 * n + 1200) ≤ 24 * (n + 1) + 1200 from by omega)⟩) ⟨zPc_blind, va_recv hKc hPc (ci := 13) (q0 := 0) rfl rfl, zPc_pre hPc hKc hDc hE hS hFc hZ⟩ rfl rfl hl.1 rfl (lv_room (Nat.le_of_ble_eq_true rfl)) dX13_isMatched_252 ⟨Nat.le_of_ble_eq_true rfl, Nat.le_of_ble_eq_true rfl⟩) hS (fun q _ h => hFc q h) hFc (fun r252_ u252_ t H1 locs ht hvm hw hB hz1 hk1 hS => ?_)
                replace hw : (0 ≤ r252_.toInt ∧ r252_.toInt ≤ 1) := hw
                have b_ := hw
                obtain ⟨w252_, a252_, b252_, hP1, hK1, hD1⟩ := hB
                rw [ht] at hP1
                obtain ⟨hP, hD⟩ := va_join (wr := []) (w1 := [(h0, .inr (13, mX13 q0 v0)), ((q0 38), zi k23 1300 f23), ((q0 9), zi k8 120 f8), ((q0 41), zi k26 1300 f26), ((q0 44), zi k28 40 f28), ((q0 46), zi k30 40 f30), ((q0 39), zi k24 1300 f24), ((q0 40), zi k25 1300 f25), ((q0 11), zi k10 120 f10), ((q0 5), zi k4 122880 f4), ((q0 43), zi k27 40 f27), ((q0 45), zi k29 40 f29), ((q0 61), zi k37 200 f37), ((q0 62), zi k38 16000 f38), ((q0 12), zi k11 120 f11)]) hP hD [0, 1, 2, 3, 4, 5, 6, 7, 8, 9, 10, 11, 12, 13, 14] [] rfl rfl (by decide) (by decide) hk1 hFc hP1 hD1
                have hP : va_P (dC, dI) vwCl [(h0, .inr (13, mX13 q0 v0)), ((q0 38), zi k23 1300 f23), ((q0 9), zi k8 120 f8), ((q0 41), zi k26 1300 f26), ((q0 44), zi k28 40 f28), ((q0 46), zi k30 40 f30), ((q0 39), zi k24 1300 f24), ((q0 40), zi k25 1300 f25), ((q0 11), zi k10 120 f10), ((q0 5), zi k4 122880 f4), ((q0 43), zi k27 40 f27), ((q0 45), zi k29 40 f29), ((q0 61), zi k37 200 f37), ((q0 62), zi k38 16000 f38), ((q0 12), zi k11 120 f11)] H1 := hP.sub [0, 1, 2, 3, 4, 5, 6, 7, 8, 9, 10, 11, 12, 13, 14] rfl
                have hD : va_D A [(h0, .inr (13, mX13 q0 v0)), ((q0 38), zi k23 1300 f23), ((q0 9), zi k8 120 f8), ((q0 41), zi k26 1300 f26), ((q0 44), zi k28 40 f28), ((q0 46), zi k30 40 f30), ((q0 39), zi k24 1300 f24), ((q0 40), zi k25 1300 f25), ((q0 11), zi k10 120 f10), ((q0 5), zi k4 122880 f4), ((q0 43), zi k27 40 f27), ((q0 45), zi k29 40 f29), ((q0 61), zi k37 200 f37), ((q0 62), zi k38 16000 f38), ((q0 12), zi k11 120 f11)] := hD.sub [0, 1, 2, 3, 4, 5, 6, 7, 8, 9, 10, 11, 12, 13, 14] (by decide) rfl
                generalize H1 = H at hP hS ⊢
                clear hz1
                refine lv_if_ne (tgt := 262) hx hb dX13_isMatched_255 (by decide) (fun c_ => ?_) (fun c_ => ?_)
                · skip
                  have b_ := zT_ne rfl zk_0 c_
                  refine lv_iconst (v := 0) hx hb dX13_isMatched_262 (by decide) ?_
                  refine W.widen (k := 0) (n := 0) (by decide) (by decide) ?_
                  have hpost : (0 ≤ (0 : Int32).toInt ∧ (0 : Int32).toInt ≤ 1) := (by first | with_reducible assumption | exact ⟨by omega, by omega⟩)
                  have hP9 : va_P (dC, dI) vwCl [(h0, .inr (13, mX13 q0 v0)), ((q0 38), zi k23 1300 f23), ((q0 9), zi k8 120 f8), ((q0 41), zi k26 1300 f26), ((q0 44), zi k28 40 f28), ((q0 46), zi k30 40 f30), ((q0 39), zi k24 1300 f24), ((q0 40), zi k25 1300 f25), ((q0 11), zi k10 120 f10), ((q0 5), zi k4 122880 f4), ((q0 43), zi k27 40 f27), ((q0 45), zi k29 40 f29), ((q0 61), zi k37 200 f37), ((q0 62), zi k38 16000 f38), ((q0 12), zi k11 120 f11)] H := hP
                  have hD9 : va_D A [(h0, .inr (13, mX13 q0 v0)), ((q0 38), zi k23 1300 f23), ((q0 9), zi k8 120 f8), ((q0 41), zi k26 1300 f26), ((q0 44), zi k28 40 f28), ((q0 46), zi k30 40 f30), ((q0 39), zi k24 1300 f24), ((q0 40), zi k25 1300 f25), ((q0 11), zi k10 120 f10), ((q0 5), zi k4 122880 f4), ((q0 43), zi k27 40 f27), ((q0 45), zi k29 40 f29), ((q0 61), zi k37 200 f37), ((q0 62), zi k38 16000 f38), ((q0 12), zi k11 120 f11)] := hD
                  exact W.zret (v := 0) hx hb hr rfl (fun t ht hW => ⟨⟨0, (fun _ => 0), rfl, hpost, (fun _ => 0), (fun _ => (fun _ => 0)), (fun _ => (fun _ => 0)), by rw [ht]; exact hP9, va_K.moved hW.alike hK, hD9⟩, hS.F ht⟩) hS.2.2 dX13_isMatched_263
                · skip
                  have b_ := zF_ne rfl zk_0 c_
                  refine lv_iconst (v := 1) hx hb dX13_isMatched_258 (by decide) ?_
                  refine lv_goto (tgt := 263) hx hb dX13_isMatched_259 (by decide) ?_
                  refine W.widen (k := 0) (n := 0) (by decide) (by decide) ?_
                  have hpost : (0 ≤ (1 : Int32).toInt ∧ (1 : Int32).toInt ≤ 1) := (by first | with_reducible assumption | exact ⟨by omega, by omega⟩)
                  have hP9 : va_P (dC, dI) vwCl [(h0, .inr (13, mX13 q0 v0)), ((q0 38), zi k23 1300 f23), ((q0 9), zi k8 120 f8), ((q0 41), zi k26 1300 f26), ((q0 44), zi k28 40 f28), ((q0 46), zi k30 40 f30), ((q0 39), zi k24 1300 f24), ((q0 40), zi k25 1300 f25), ((q0 11), zi k10 120 f10), ((q0 5), zi k4 122880 f4), ((q0 43), zi k27 40 f27), ((q0 45), zi k29 40 f29), ((q0 61), zi k37 200 f37), ((q0 62), zi k38 16000 f38), ((q0 12), zi k11 120 f11)] H := hP
                  have hD9 : va_D A [(h0, .inr (13, mX13 q0 v0)), ((q0 38), zi k23 1300 f23), ((q0 9), zi k8 120 f8), ((q0 41), zi k26 1300 f26), ((q0 44), zi k28 40 f28), ((q0 46), zi k30 40 f30), ((q0 39), zi k24 1300 f24), ((q0 40), zi k25 1300 f25), ((q0 11), zi k10 120 f10), ((q0 5), zi k4 122880 f4), ((q0 43), zi k27 40 f27), ((q0 45), zi k29 40 f29), ((q0 61), zi k37 200 f37), ((q0 62), zi k38 16000 f38), ((q0 12), zi k11 120 f11)] := hD
                  exact W.zret (v := 1) hx hb hr rfl (fun t ht hW => ⟨⟨1, (fun _ => 0), rfl, hpost, (fun _ => 0), (fun _ => (fun _ => 0)), (fun _ => (fun _ => 0)), by rw [ht]; exact hP9, va_K.moved hW.alike hK, hD9⟩, hS.F ht⟩) hS.2.2 dX13_isMatched_263
              · skip
                have b_ : z5.toInt ≠ 10 := fun h => c_ (zeqi.mpr (h.trans zk_10.symm))
                rcases Classical.em (z5 = (11 : Int32)) with c_ | c_
                · skip
                  have b_ : z5.toInt = 11 := by rw [c_]; exact zk_11
                  refine lv_tableIn (off := 258) (tgt := 264) hx hb dX13_isMatched_6 (by omega) (by omega) (by rw [b_]; decide) (by decide) ?_
                  refine lv_aload_n hx hb dX13_isMatched_264 rfl (lv_at hl 0 rfl) ?_
                  refine lv_aload_n hx hb dX13_isMatched_265 rfl (lv_at hl 0 rfl) ?_
                  refine va_get (D := (dC, dI)) (ci := 13) (v := .ref (q0 39)) (C := RX13) (T := TX13) (N := 75) hx hb hG zuX13 hown hK hP 0 rfl rfl 39 (by decide) (hG _ zv1643) (fun _ h9 => h9) rfl dX13_isMatched_266 ?_
                  refine lv_iload_n hx hb dX13_isMatched_269 rfl (lv_at hl 1 rfl) ?_
                  refine va_iald hx hb hK hP 6 5 rfl rfl (zin_lit ⟨by omega, by omega⟩) dX13_isMatched_270 ?_
                  refine lv_topi (fun z270 e_z270 => ?_)
                  have b_ : (-1) ≤ z270.toInt ∧ z270.toInt ≤ 1299 := by rw [e_z270]; exact hf24 _
                  have b_ : 0 ≤ z270.toInt ∧ z270.toInt < x1.toInt := by have q := n1 (by omega); rw [← e_z270] at q; omega
                  refine lv_iload_n hx hb dX13_isMatched_271 rfl (lv_at hl 2 rfl) ?_
                  have hPc := hP.sub (ws' := [(h0, .inr (13, mX13 q0 v0)), ((q0 38), zi k23 1300 f23), ((q0 9), zi k8 120 f8), ((q0 41), zi k26 1300 f26), ((q0 44), zi k28 40 f28), ((q0 46), zi k30 40 f30), ((q0 39), zi k24 1300 f24), ((q0 40), zi k25 1300 f25), ((q0 11), zi k10 120 f10), ((q0 5), zi k4 122880 f4), ((q0 43), zi k27 40 f27), ((q0 45), zi k29 40 f29), ((q0 61), zi k37 200 f37), ((q0 62), zi k38 16000 f38), ((q0 12), zi k11 120 f11)]) [0, 1, 2, 3, 4, 5, 6, 7, 8, 9, 10, 11, 12, 13, 14] rfl
                  have hDc := hD.sub (ws' := [(h0, .inr (13, mX13 q0 v0)), ((q0 38), zi k23 1300 f23), ((q0 9), zi k8 120 f8), ((q0 41), zi k26 1300 f26), ((q0 44), zi k28 40 f28), ((q0 46), zi k30 40 f30), ((q0 39), zi k24 1300 f24), ((q0 40), zi k25 1300 f25), ((q0 11), zi k10 120 f10), ((q0 5), zi k4 122880 f4), ((q0 43), zi k27 40 f27), ((q0 45), zi k29 40 f29), ((q0 61), zi k37 200 f37), ((q0 62), zi k38 16000 f38), ((q0 12), zi k11 120 f11)]) [0, 1, 2, 3, 4, 5, 6, 7, 8, 9, 10, 11, 12, 13, 14] (by decide) rfl
                  have hKc := hK.sub (tys' := [(k23, .int), (k8, .int), (k26, .int), (k28, .int), (k30, .int), (k24, .int), (k25, .int), (k10, .int), (k4, .short), (k27, .int), (k29, .int), (k37, .int), (k38, .boolean), (k11, .int)]) [0, 1, 2, 3, 4, 5, 6, 7, 8, 9, 10, 11, 12, 13] rfl
                  have hFc := va_free (wc := [(h0, .inr (13, mX13 q0 v0)), ((q0 38), zi k23 1300 f23), ((q0 9), zi k8 120 f8), ((q0 41), zi k26 1300 f26), ((q0 44), zi k28 40 f28), ((q0 46), zi k30 40 f30), ((q0 39), zi k24 1300 f24), ((q0 40), zi k25 1300 f25), ((q0 11), zi k10 120 f10), ((q0 5), zi k4 122880 f4), ((q0 43), zi k27 40 f27), ((q0 45), zi k29 40 f29), ((q0 61), zi k37 200 f37), ((q0 62), zi k38 16000 f38), ((q0 12), zi k11 120 f11)]) hD hS hA [0, 1, 2, 3, 4, 5, 6, 7, 8, 9, 10, 11, 12, 13, 14] rfl
                  refine va_calli (va_runV (As := [.int z270, .int x2]) (rest := []) ⟨hx, hb, hml, hown, hG⟩ (ih dC dI adK adV h0 q0 k23 k8 k26 k28 k30 k24 k25 k10 k4 k27 k29 k37 k38 k11 s.heap.size v0 f23 f8 f26 f28 f30 f24 f25 f10 f4 f27 f29 f37 f38 f11 z270 x2 hv0 hf24 hf25 hf10 hf4 hf11 (show (0 : Int) ≤ (z270 : Int32).toInt ∧ (z270 : Int32).toInt ≤ (1299 : Int) from (by first | with_reducible assumption | exact ⟨by omega, by omega⟩)) (show (0 : Int) ≤ (x2 : Int32).toInt ∧ (x2 : Int32).toInt ≤ (119 : Int) from (by first | with_reducible assumption | exact ⟨by omega, by omega⟩)) (show z270.toInt < ((n : Nat) : Int) from by omega) (show zTr f23 f24 f25 f26 (v0 42).toInt (v0 47).toInt from by first | with_reducible assumption | assumption) (show zLf f27 f28 f29 (v0 47).toInt from by first | with_reducible assumption | assumption) (show z270.toInt < (v0 42).toInt from by omega)) (cwV 2 hG (zgV zv2186 zv2188 zv117 zv142 zv2189) rfl rfl rfl (by decide +kernel) ⟨(show n + 40 + 1 ≤ (n + 1) + 40 from by omega), (show 8 + (3 + 11) + (24 * n + 1200) ≤ 24 * (n + 1) + 1200 from by omega)⟩) ⟨zPc_blind, va_recv hKc hPc (ci := 13) (q0 := 0) rfl rfl, zPc_pre hPc hKc hDc hE hS hFc hZ⟩ rfl rfl hl.1 rfl (lv_room (Nat.le_of_ble_eq_true rfl)) dX13_isMatched_272 ⟨Nat.le_of_ble_eq_true rfl, Nat.le_of_ble_eq_true rfl⟩) hS (fun q _ h => hFc q h) hFc (fun r272_ u272_ t H1 locs ht hvm hw hB hz1 hk1 hS => ?_)
                  replace hw : (0 ≤ r272_.toInt ∧ r272_.toInt ≤ 1) := hw
                  have b_ := hw
                  obtain ⟨w272_, a272_, b272_, hP1, hK1, hD1⟩ := hB
                  rw [ht] at hP1
                  obtain ⟨hP, hD⟩ := va_join (wr := []) (w1 := [(h0, .inr (13, mX13 q0 v0)), ((q0 38), zi k23 1300 f23), ((q0 9), zi k8 120 f8), ((q0 41), zi k26 1300 f26), ((q0 44), zi k28 40 f28), ((q0 46), zi k30 40 f30), ((q0 39), zi k24 1300 f24), ((q0 40), zi k25 1300 f25), ((q0 11), zi k10 120 f10), ((q0 5), zi k4 122880 f4), ((q0 43), zi k27 40 f27), ((q0 45), zi k29 40 f29), ((q0 61), zi k37 200 f37), ((q0 62), zi k38 16000 f38), ((q0 12), zi k11 120 f11)]) hP hD [0, 1, 2, 3, 4, 5, 6, 7, 8, 9, 10, 11, 12, 13, 14] [] rfl rfl (by decide) (by decide) hk1 hFc hP1 hD1
                  have hP : va_P (dC, dI) vwCl [(h0, .inr (13, mX13 q0 v0)), ((q0 38), zi k23 1300 f23), ((q0 9), zi k8 120 f8), ((q0 41), zi k26 1300 f26), ((q0 44), zi k28 40 f28), ((q0 46), zi k30 40 f30), ((q0 39), zi k24 1300 f24), ((q0 40), zi k25 1300 f25), ((q0 11), zi k10 120 f10), ((q0 5), zi k4 122880 f4), ((q0 43), zi k27 40 f27), ((q0 45), zi k29 40 f29), ((q0 61), zi k37 200 f37), ((q0 62), zi k38 16000 f38), ((q0 12), zi k11 120 f11)] H1 := hP.sub [0, 1, 2, 3, 4, 5, 6, 7, 8, 9, 10, 11, 12, 13, 14] rfl
                  have hD : va_D A [(h0, .inr (13, mX13 q0 v0)), ((q0 38), zi k23 1300 f23), ((q0 9), zi k8 120 f8), ((q0 41), zi k26 1300 f26), ((q0 44), zi k28 40 f28), ((q0 46), zi k30 40 f30), ((q0 39), zi k24 1300 f24), ((q0 40), zi k25 1300 f25), ((q0 11), zi k10 120 f10), ((q0 5), zi k4 122880 f4), ((q0 43), zi k27 40 f27), ((q0 45), zi k29 40 f29), ((q0 61), zi k37 200 f37), ((q0 62), zi k38 16000 f38), ((q0 12), zi k11 120 f11)] := hD.sub [0, 1, 2, 3, 4, 5, 6, 7, 8, 9, 10, 11, 12, 13, 14] (by decide) rfl
                  generalize H1 = H at hP hS ⊢
                  clear hz1
                  refine lv_if_eq (tgt := 296) hx hb dX13_isMatched_275 (by decide) (fun c_ => ?_) (fun c_ => ?_)
                  · skip
                    have b_ := zT_eq rfl zk_0 c_
                    refine lv_iconst (v := 0) hx hb dX13_isMatched_296 (by decide) ?_
                    refine W.widen (k := 0) (n := 0) (by decide) (by decide) ?_
                    have hpost : (0 ≤ (0 : Int32).toInt ∧ (0 : Int32).toInt ≤ 1) := (by first | with_reducible assumption | exact ⟨by omega, by omega⟩)
                    have hP9 : va_P (dC, dI) vwCl [(h0, .inr (13, mX13 q0 v0)), ((q0 38), zi k23 1300 f23), ((q0 9), zi k8 120 f8), ((q0 41), zi k26 1300 f26), ((q0 44), zi k28 40 f28), ((q0 46), zi k30 40 f30), ((q0 39), zi k24 1300 f24), ((q0 40), zi k25 1300 f25), ((q0 11), zi k10 120 f10), ((q0 5), zi k4 122880 f4), ((q0 43), zi k27 40 f27), ((q0 45), zi k29 40 f29), ((q0 61), zi k37 200 f37), ((q0 62), zi k38 16000 f38), ((q0 12), zi k11 120 f11)] H := hP
                    have hD9 : va_D A [(h0, .inr (13, mX13 q0 v0)), ((q0 38), zi k23 1300 f23), ((q0 9), zi k8 120 f8), ((q0 41), zi k26 1300 f26), ((q0 44), zi k28 40 f28), ((q0 46), zi k30 40 f30), ((q0 39), zi k24 1300 f24), ((q0 40), zi k25 1300 f25), ((q0 11), zi k10 120 f10), ((q0 5), zi k4 122880 f4), ((q0 43), zi k27 40 f27), ((q0 45), zi k29 40 f29), ((q0 61), zi k37 200 f37), ((q0 62), zi k38 16000 f38), ((q0 12), zi k11 120 f11)] := hD
                    exact W.zret (v := 0) hx hb hr rfl (fun t ht hW => ⟨⟨0, (fun _ => 0), rfl, hpost, (fun _ => 0), (fun _ => (fun _ => 0)), (fun _ => (fun _ => 0)), by rw [ht]; exact hP9, va_K.moved hW.alike hK, hD9⟩, hS.F ht⟩) hS.2.2 dX13_isMatched_297
                  · skip
                    have b_ := zF_eq rfl zk_0 c_
                    refine lv_aload_n hx hb dX13_isMatched_278 rfl (lv_at hl 0 rfl) ?_
                    refine lv_aload_n hx hb dX13_isMatched_279 rfl (lv_at hl 0 rfl) ?_
                    refine va_get (D := (dC, dI)) (ci := 13) (v := .ref (q0 40)) (C := RX13) (T := TX13) (N := 75) hx hb hG zuX13 hown hK hP 0 rfl rfl 40 (by decide) (hG _ zv1644) (fun _ h9 => h9) rfl dX13_isMatched_280 ?_
                    refine lv_iload_n hx hb dX13_isMatched_283 rfl (lv_at hl 1 rfl) ?_
                    refine va_iald hx hb hK hP 7 6 rfl rfl (zin_lit ⟨by omega, by omega⟩) dX13_isMatched_284 ?_
                    refine lv_topi (fun z284 e_z284 => ?_)
                    have b_ : (-1) ≤ z284.toInt ∧ z284.toInt ≤ 1299 := by rw [e_z284]; exact hf25 _
                    have b_ : 0 ≤ z284.toInt ∧ z284.toInt < x1.toInt := by have q := n1 (by omega); rw [← e_z284] at q; omega
                    refine lv_iload_n hx hb dX13_isMatched_285 rfl (lv_at hl 2 rfl) ?_
                    have hPc := hP.sub (ws' := [(h0, .inr (13, mX13 q0 v0)), ((q0 38), zi k23 1300 f23), ((q0 9), zi k8 120 f8), ((q0 41), zi k26 1300 f26), ((q0 44), zi k28 40 f28), ((q0 46), zi k30 40 f30), ((q0 39), zi k24 1300 f24), ((q0 40), zi k25 1300 f25), ((q0 11), zi k10 120 f10), ((q0 5), zi k4 122880 f4), ((q0 43), zi k27 40 f27), ((q0 45), zi k29 40 f29), ((q0 61), zi k37 200 f37), ((q0 62), zi k38 16000 f38), ((q0 12), zi k11 120 f11)]) [0, 1, 2, 3, 4, 5, 6, 7, 8, 9, 10, 11, 12, 13, 14] rfl
                    have hDc := hD.sub (ws' := [(h0, .inr (13, mX13 q0 v0)), ((q0 38), zi k23 1300 f23), ((q0 9), zi k8 120 f8), ((q0 41), zi k26 1300 f26), ((q0 44), zi k28 40 f28), ((q0 46), zi k30 40 f30), ((q0 39), zi k24 1300 f24), ((q0 40), zi k25 1300 f25), ((q0 11), zi k10 120 f10), ((q0 5), zi k4 122880 f4), ((q0 43), zi k27 40 f27), ((q0 45), zi k29 40 f29), ((q0 61), zi k37 200 f37), ((q0 62), zi k38 16000 f38), ((q0 12), zi k11 120 f11)]) [0, 1, 2, 3, 4, 5, 6, 7, 8, 9, 10, 11, 12, 13, 14] (by decide) rfl
                    have hKc := hK.sub (tys' := [(k23, .int), (k8, .int), (k26, .int), (k28, .int), (k30, .int), (k24, .int), (k25, .int), (k10, .int), (k4, .short), (k27, .int), (k29, .int), (k37, .int), (k38, .boolean), (k11, .int)]) [0, 1, 2, 3, 4, 5, 6, 7, 8, 9, 10, 11, 12, 13] rfl
                    have hFc := va_free (wc := [(h0, .inr (13, mX13 q0 v0)), ((q0 38), zi k23 1300 f23), ((q0 9), zi k8 120 f8), ((q0 41), zi k26 1300 f26), ((q0 44), zi k28 40 f28), ((q0 46), zi k30 40 f30), ((q0 39), zi k24 1300 f24), ((q0 40), zi k25 1300 f25), ((q0 11), zi k10 120 f10), ((q0 5), zi k4 122880 f4), ((q0 43), zi k27 40 f27), ((q0 45), zi k29 40 f29), ((q0 61), zi k37 200 f37), ((q0 62), zi k38 16000 f38), ((q0 12), zi k11 120 f11)]) hD hS hA [0, 1, 2, 3, 4, 5, 6, 7, 8, 9, 10, 11, 12, 13, 14] rfl
                    refine va_calli (va_runV (As := [.int z284, .int x2]) (rest := []) ⟨hx, hb, hml, hown, hG⟩ (ih dC dI adK adV h0 q0 k23 k8 k26 k28 k30 k24 k25 k10 k4 k27 k29 k37 k38 k11 H.size v0 f23 f8 f26 f28 f30 f24 f25 f10 f4 f27 f29 f37 f38 f11 z284 x2 hv0 hf24 hf25 hf10 hf4 hf11 (show (0 : Int) ≤ (z284 : Int32).toInt ∧ (z284 : Int32).toInt ≤ (1299 : Int) from (by first | with_reducible assumption | exact ⟨by omega, by omega⟩)) (show (0 : Int) ≤ (x2 : Int32).toInt ∧ (x2 : Int32).toInt ≤ (119 : Int) from (by first | with_reducible assumption | exact ⟨by omega, by omega⟩)) (show z284.toInt < ((n : Nat) : Int) from by omega) (show zTr f23 f24 f25 f26 (v0 42).toInt (v0 47).toInt from by first | with_reducible assumption | assumption) (show zLf f27 f28 f29 (v0 47).toInt from by first | with_reducible assumption | assumption) (show z284.toInt < (v0 42).toInt from by omega)) (cwV 2 hG (zgV zv2186 zv2188 zv117 zv142 zv2189) rfl rfl rfl (by decide +kernel) ⟨(show n + 40 + 1 ≤ (n + 1) + 40 from by omega), (show 8 + (3 + 11) + (24 * n + 1200) ≤ 24 * (n + 1) + 1200 from by omega)⟩) ⟨zPc_blind, va_recv hKc hPc (ci := 13) (q0 := 0) rfl rfl, zPc_pre hPc hKc hDc hE hS hFc hZ⟩ rfl rfl hl.1 rfl (lv_room (Nat.le_of_ble_eq_true rfl)) dX13_isMatched_286 ⟨Nat.le_of_ble_eq_true rfl, Nat.le_of_ble_eq_true rfl⟩) hS (fun q _ h => hFc q h) hFc (fun r286_ u286_ t H1 locs ht hvm hw hB hz1 hk1 hS => ?_)
                    replace hw : (0 ≤ r286_.toInt ∧ r286_.toInt ≤ 1) := hw
                    have b_ := hw
                    obtain ⟨w286_, a286_, b286_, hP1, hK1, hD1⟩ := hB
                    rw [ht] at hP1
                    obtain ⟨hP, hD⟩ := va_join (wr := []) (w1 := [(h0, .inr (13, mX13 q0 v0)), ((q0 38), zi k23 1300 f23), ((q0 9), zi k8 120 f8), ((q0 41), zi k26 1300 f26), ((q0 44), zi k28 40 f28), ((q0 46), zi k30 40 f30), ((q0 39), zi k24 1300 f24), ((q0 40), zi k25 1300 f25), ((q0 11), zi k10 120 f10), ((q0 5), zi k4 122880 f4), ((q0 43), zi k27 40 f27), ((q0 45), zi k29 40 f29), ((q0 61), zi k37 200 f37), ((q0 62), zi k38 16000 f38), ((q0 12), zi k11 120 f11)]) hP hD [0, 1, 2, 3, 4, 5, 6, 7, 8, 9, 10, 11, 12, 13, 14] [] rfl rfl (by decide) (by decide) hk1 hFc hP1 hD1
                    have hP : va_P (dC, dI) vwCl [(h0, .inr (13, mX13 q0 v0)), ((q0 38), zi k23 1300 f23), ((q0 9), zi k8 120 f8), ((q0 41), zi k26 1300 f26), ((q0 44), zi k28 40 f28), ((q0 46), zi k30 40 f30), ((q0 39), zi k24 1300 f24), ((q0 40), zi k25 1300 f25), ((q0 11), zi k10 120 f10), ((q0 5), zi k4 122880 f4), ((q0 43), zi k27 40 f27), ((q0 45), zi k29 40 f29), ((q0 61), zi k37 200 f37), ((q0 62), zi k38 16000 f38), ((q0 12), zi k11 120 f11)] H1 := hP.sub [0, 1, 2, 3, 4, 5, 6, 7, 8, 9, 10, 11, 12, 13, 14] rfl
                    have hD : va_D A [(h0, .inr (13, mX13 q0 v0)), ((q0 38), zi k23 1300 f23), ((q0 9), zi k8 120 f8), ((q0 41), zi k26 1300 f26), ((q0 44), zi k28 40 f28), ((q0 46), zi k30 40 f30), ((q0 39), zi k24 1300 f24), ((q0 40), zi k25 1300 f25), ((q0 11), zi k10 120 f10), ((q0 5), zi k4 122880 f4), ((q0 43), zi k27 40 f27), ((q0 45), zi k29 40 f29), ((q0 61), zi k37 200 f37), ((q0 62), zi k38 16000 f38), ((q0 12), zi k11 120 f11)] := hD.sub [0, 1, 2, 3, 4, 5, 6, 7, 8, 9, 10, 11, 12, 13, 14] (by decide) rfl
                    generalize H1 = H at hP hS ⊢
                    clear hz1
                    refine lv_if_ne (tgt := 296) hx hb dX13_isMatched_289 (by decide) (fun c_ => ?_) (fun c_ => ?_)
                    · skip
                      have b_ := zT_ne rfl zk_0 c_
                      refine lv_iconst (v := 0) hx hb dX13_isMatched_296 (by decide) ?_
                      refine W.widen (k := 0) (n := 0) (by decide) (by decide) ?_
                      have hpost : (0 ≤ (0 : Int32).toInt ∧ (0 : Int32).toInt ≤ 1) := (by first | with_reducible assumption | exact ⟨by omega, by omega⟩)
                      have hP9 : va_P (dC, dI) vwCl [(h0, .inr (13, mX13 q0 v0)), ((q0 38), zi k23 1300 f23), ((q0 9), zi k8 120 f8), ((q0 41), zi k26 1300 f26), ((q0 44), zi k28 40 f28), ((q0 46), zi k30 40 f30), ((q0 39), zi k24 1300 f24), ((q0 40), zi k25 1300 f25), ((q0 11), zi k10 120 f10), ((q0 5), zi k4 122880 f4), ((q0 43), zi k27 40 f27), ((q0 45), zi k29 40 f29), ((q0 61), zi k37 200 f37), ((q0 62), zi k38 16000 f38), ((q0 12), zi k11 120 f11)] H := hP
                      have hD9 : va_D A [(h0, .inr (13, mX13 q0 v0)), ((q0 38), zi k23 1300 f23), ((q0 9), zi k8 120 f8), ((q0 41), zi k26 1300 f26), ((q0 44), zi k28 40 f28), ((q0 46), zi k30 40 f30), ((q0 39), zi k24 1300 f24), ((q0 40), zi k25 1300 f25), ((q0 11), zi k10 120 f10), ((q0 5), zi k4 122880 f4), ((q0 43), zi k27 40 f27), ((q0 45), zi k29 40 f29), ((q0 61), zi k37 200 f37), ((q0 62), zi k38 16000 f38), ((q0 12), zi k11 120 f11)] := hD
                      exact W.zret (v := 0) hx hb hr rfl (fun t ht hW => ⟨⟨0, (fun _ => 0), rfl, hpost, (fun _ => 0), (fun _ => (fun _ => 0)), (fun _ => (fun _ => 0)), by rw [ht]; exact hP9, va_K.moved hW.alike hK, hD9⟩, hS.F ht⟩) hS.2.2 dX13_isMatched_297
                    · skip
                      have b_ := zF_ne rfl zk_0 c_
                      refine lv_iconst (v := 1) hx hb dX13_isMatched_292 (by decide) ?_
                      refine lv_goto (tgt := 297) hx hb dX13_isMatched_293 (by decide) ?_
                      refine W.widen (k := 0) (n := 0) (by decide) (by decide) ?_
                      have hpost : (0 ≤ (1 : Int32).toInt ∧ (1 : Int32).toInt ≤ 1) := (by first | with_reducible assumption | exact ⟨by omega, by omega⟩)
                      have hP9 : va_P (dC, dI) vwCl [(h0, .inr (13, mX13 q0 v0)), ((q0 38), zi k23 1300 f23), ((q0 9), zi k8 120 f8), ((q0 41), zi k26 1300 f26), ((q0 44), zi k28 40 f28), ((q0 46), zi k30 40 f30), ((q0 39), zi k24 1300 f24), ((q0 40), zi k25 1300 f25), ((q0 11), zi k10 120 f10), ((q0 5), zi k4 122880 f4), ((q0 43), zi k27 40 f27), ((q0 45), zi k29 40 f29), ((q0 61), zi k37 200 f37), ((q0 62), zi k38 16000 f38), ((q0 12), zi k11 120 f11)] H := hP
                      have hD9 : va_D A [(h0, .inr (13, mX13 q0 v0)), ((q0 38), zi k23 1300 f23), ((q0 9), zi k8 120 f8), ((q0 41), zi k26 1300 f26), ((q0 44), zi k28 40 f28), ((q0 46), zi k30 40 f30), ((q0 39), zi k24 1300 f24), ((q0 40), zi k25 1300 f25), ((q0 11), zi k10 120 f10), ((q0 5), zi k4 122880 f4), ((q0 43), zi k27 40 f27), ((q0 45), zi k29 40 f29), ((q0 61), zi k37 200 f37), ((q0 62), zi k38 16000 f38), ((q0 12), zi k11 120 f11)] := hD
                      exact W.zret (v := 1) hx hb hr rfl (fun t ht hW => ⟨⟨1, (fun _ => 0), rfl, hpost, (fun _ => 0), (fun _ => (fun _ => 0)), (fun _ => (fun _ => 0)), by rw [ht]; exact hP9, va_K.moved hW.alike hK, hD9⟩, hS.F ht⟩) hS.2.2 dX13_isMatched_297
                · skip
                  have b_ : z5.toInt ≠ 11 := fun h => c_ (zeqi.mpr (h.trans zk_11.symm))
                  refine lv_tableOut (tgt := 298) hx hb dX13_isMatched_6 (by omega) (by decide) ?_
                  refine lv_aload_n hx hb dX13_isMatched_298 rfl (lv_at hl 0 rfl) ?_
                  refine lv_iload_n hx hb dX13_isMatched_299 rfl (lv_at hl 1 rfl) ?_
                  refine lv_iload_n hx hb dX13_isMatched_300 rfl (lv_at hl 2 rfl) ?_
                  have hpl : zPl (f23 (x1 : Int32).toNatClampNeg).toInt := by rw [← e_z5]; unfold zPl; omega
                  have hPc := hP.sub (ws' := [(h0, .inr (13, mX13 q0 v0)), ((q0 11), zi k10 120 f10), ((q0 38), zi k23 1300 f23), ((q0 39), zi k24 1300 f24), ((q0 41), zi k26 1300 f26), ((q0 5), zi k4 122880 f4), ((q0 43), zi k27 40 f27), ((q0 44), zi k28 40 f28), ((q0 45), zi k29 40 f29), ((q0 61), zi k37 200 f37), ((q0 62), zi k38 16000 f38), ((q0 40), zi k25 1300 f25), ((q0 12), zi k11 120 f11)]) [0, 8, 1, 6, 3, 9, 10, 4, 11, 12, 13, 7, 14] rfl
                  have hDc := hD.sub (ws' := [(h0, .inr (13, mX13 q0 v0)), ((q0 11), zi k10 120 f10), ((q0 38), zi k23 1300 f23), ((q0 39), zi k24 1300 f24), ((q0 41), zi k26 1300 f26), ((q0 5), zi k4 122880 f4), ((q0 43), zi k27 40 f27), ((q0 44), zi k28 40 f28), ((q0 45), zi k29 40 f29), ((q0 61), zi k37 200 f37), ((q0 62), zi k38 16000 f38), ((q0 40), zi k25 1300 f25), ((q0 12), zi k11 120 f11)]) [0, 8, 1, 6, 3, 9, 10, 4, 11, 12, 13, 7, 14] (by decide) rfl
                  have hKc := hK.sub (tys' := [(k10, .int), (k23, .int), (k24, .int), (k26, .int), (k4, .short), (k27, .int), (k28, .int), (k29, .int), (k37, .int), (k38, .boolean), (k25, .int), (k11, .int)]) [7, 0, 5, 2, 8, 9, 3, 10, 11, 12, 6, 13] rfl
                  have hFc := va_free (wc := [(h0, .inr (13, mX13 q0 v0)), ((q0 11), zi k10 120 f10), ((q0 38), zi k23 1300 f23), ((q0 39), zi k24 1300 f24), ((q0 41), zi k26 1300 f26), ((q0 5), zi k4 122880 f4), ((q0 43), zi k27 40 f27), ((q0 44), zi k28 40 f28), ((q0 45), zi k29 40 f29), ((q0 61), zi k37 200 f37), ((q0 62), zi k38 16000 f38), ((q0 40), zi k25 1300 f25), ((q0 12), zi k11 120 f11)]) hD hS hA [0, 8, 1, 6, 3, 9, 10, 4, 11, 12, 13, 7, 14] rfl
                  refine va_calli (va_runV (As := [.int x1, .int x2]) (rest := []) ⟨hx, hb, hml, hown, hG⟩ (c_hasPlace l (n + 1) dC dI adK adV h0 q0 k10 k23 k24 k26 k4 k27 k28 k29 k37 k38 k25 k11 s.heap.size v0 f10 f23 f24 f26 f4 f27 f28 f29 f37 f38 f25 f11 x1 x2 hv0 hf10 hf24 hf4 hf25 hf11 (show (0 : Int) ≤ (x1 : Int32).toInt ∧ (x1 : Int32).toInt ≤ (1299 : Int) from (by first | with_reducible assumption | exact ⟨by omega, by omega⟩)) (show (0 : Int) ≤ (x2 : Int32).toInt ∧ (x2 : Int32).toInt ≤ (119 : Int) from (by first | with_reducible assumption | exact ⟨by omega, by omega⟩)) (show x1.toInt < (((n + 1) : Nat) : Int) from by omega) (show zTr f23 f24 f25 f26 (v0 42).toInt (v0 47).toInt from by first | with_reducible assumption | assumption) (show zLf f27 f28 f29 (v0 47).toInt from by first | with_reducible assumption | assumption) (show x1.toInt < (v0 42).toInt from by omega) (show zPl (f23 ((x1 : Int32)).toNatClampNeg).toInt from by first | with_reducible assumption | assumption)) (cwV 2 hG (zgV zv2199 zv2201 zv120 zv142 zv2202) rfl rfl rfl (by decide +kernel) ⟨(show (n + 1) + 25 + 1 ≤ (n + 1) + 40 from by omega), (show 8 + (4 + 11) + (24 * (n + 1) + 800) ≤ 24 * (n + 1) + 1200 from by omega)⟩) ⟨zPc_blind, va_recv hKc hPc (ci := 13) (q0 := 0) rfl rfl, zPc_pre hPc hKc hDc hE hS hFc hZ⟩ rfl rfl hl.1 rfl (lv_room (Nat.le_of_ble_eq_true rfl)) dX13_isMatched_301 ⟨Nat.le_of_ble_eq_true rfl, Nat.le_of_ble_eq_true rfl⟩) hS (fun q _ h => hFc q h) hFc (fun r301_ u301_ t H1 locs ht hvm hw hB hz1 hk1 hS => ?_)
                  replace hw : (0 ≤ r301_.toInt ∧ r301_.toInt ≤ 1) := hw
                  have b_ := hw
                  obtain ⟨w301_, a301_, b301_, hP1, hK1, hD1⟩ := hB
                  rw [ht] at hP1
                  obtain ⟨hP, hD⟩ := va_join (wr := [((q0 9), zi k8 120 f8), ((q0 46), zi k30 40 f30)]) (w1 := [(h0, .inr (13, mX13 q0 v0)), ((q0 11), zi k10 120 f10), ((q0 38), zi k23 1300 f23), ((q0 39), zi k24 1300 f24), ((q0 41), zi k26 1300 f26), ((q0 5), zi k4 122880 f4), ((q0 43), zi k27 40 f27), ((q0 44), zi k28 40 f28), ((q0 45), zi k29 40 f29), ((q0 61), zi k37 200 f37), ((q0 62), zi k38 16000 f38), ((q0 40), zi k25 1300 f25), ((q0 12), zi k11 120 f11)]) hP hD [0, 8, 1, 6, 3, 9, 10, 4, 11, 12, 13, 7, 14] [2, 5] rfl rfl (by decide) (by decide) hk1 hFc hP1 hD1
                  have hP : va_P (dC, dI) vwCl [(h0, .inr (13, mX13 q0 v0)), ((q0 38), zi k23 1300 f23), ((q0 9), zi k8 120 f8), ((q0 41), zi k26 1300 f26), ((q0 44), zi k28 40 f28), ((q0 46), zi k30 40 f30), ((q0 39), zi k24 1300 f24), ((q0 40), zi k25 1300 f25), ((q0 11), zi k10 120 f10), ((q0 5), zi k4 122880 f4), ((q0 43), zi k27 40 f27), ((q0 45), zi k29 40 f29), ((q0 61), zi k37 200 f37), ((q0 62), zi k38 16000 f38), ((q0 12), zi k11 120 f11)] H1 := hP.sub [2, 4, 0, 6, 9, 1, 5, 13, 3, 7, 8, 10, 11, 12, 14] rfl
                  have hD : va_D A [(h0, .inr (13, mX13 q0 v0)), ((q0 38), zi k23 1300 f23), ((q0 9), zi k8 120 f8), ((q0 41), zi k26 1300 f26), ((q0 44), zi k28 40 f28), ((q0 46), zi k30 40 f30), ((q0 39), zi k24 1300 f24), ((q0 40), zi k25 1300 f25), ((q0 11), zi k10 120 f10), ((q0 5), zi k4 122880 f4), ((q0 43), zi k27 40 f27), ((q0 45), zi k29 40 f29), ((q0 61), zi k37 200 f37), ((q0 62), zi k38 16000 f38), ((q0 12), zi k11 120 f11)] := hD.sub [2, 4, 0, 6, 9, 1, 5, 13, 3, 7, 8, 10, 11, 12, 14] (by decide) rfl
                  generalize H1 = H at hP hS ⊢
                  clear hz1
                  refine W.widen (k := 0) (n := 0) (by decide) (by decide) ?_
                  have hpost : (0 ≤ r301_.toInt ∧ r301_.toInt ≤ 1) := (by first | with_reducible assumption | exact ⟨by omega, by omega⟩)
                  have hP9 : va_P (dC, dI) vwCl [(h0, .inr (13, mX13 q0 v0)), ((q0 38), zi k23 1300 f23), ((q0 9), zi k8 120 f8), ((q0 41), zi k26 1300 f26), ((q0 44), zi k28 40 f28), ((q0 46), zi k30 40 f30), ((q0 39), zi k24 1300 f24), ((q0 40), zi k25 1300 f25), ((q0 11), zi k10 120 f10), ((q0 5), zi k4 122880 f4), ((q0 43), zi k27 40 f27), ((q0 45), zi k29 40 f29), ((q0 61), zi k37 200 f37), ((q0 62), zi k38 16000 f38), ((q0 12), zi k11 120 f11)] H := hP
                  have hD9 : va_D A [(h0, .inr (13, mX13 q0 v0)), ((q0 38), zi k23 1300 f23), ((q0 9), zi k8 120 f8), ((q0 41), zi k26 1300 f26), ((q0 44), zi k28 40 f28), ((q0 46), zi k30 40 f30), ((q0 39), zi k24 1300 f24), ((q0 40), zi k25 1300 f25), ((q0 11), zi k10 120 f10), ((q0 5), zi k4 122880 f4), ((q0 43), zi k27 40 f27), ((q0 45), zi k29 40 f29), ((q0 61), zi k37 200 f37), ((q0 62), zi k38 16000 f38), ((q0 12), zi k11 120 f11)] := hD
                  exact W.zret (v := r301_) hx hb hr (zbn ⟨by omega, by omega⟩) (fun t ht hW => ⟨⟨r301_, (fun _ => 0), rfl, hpost, (fun _ => 0), (fun _ => (fun _ => 0)), (fun _ => (fun _ => 0)), by rw [ht]; exact hP9, va_K.moved hW.alike hK, hD9⟩, hS.F ht⟩) hS.2.2 dX13_isMatched_304
