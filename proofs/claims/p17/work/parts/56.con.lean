def C_X13_note (k : Nat) (l : Launch) : Prop := ∀ (dC : Nat → ClassId) (dI : Nat → Nat → Nat) (adK adV : Nat → Nat) (h0 : Nat) (q0 : Nat → Nat) (k23 : ClassId) (k26 : ClassId) (k39 : ClassId) (k40 : ClassId) (k24 : ClassId) (k25 : ClassId) (sz : Nat) (v0 : Nat → Int32) (f23 : Nat → Int32) (f26 : Nat → Int32) (f39 : Nat → Int32) (f40 : Nat → Int32) (f24 : Nat → Int32) (f25 : Nat → Int32) (x1 : Int32) (x2 : Int32) (x3 : Int32) (hv0 : zR rg_Model v0) (hf24 : zA (-1) 1299 f24) (hf25 : zA (-1) 1299 f25) (hx1 : 0 ≤ x1.toInt ∧ x1.toInt ≤ 1299) (hx2 : 0 ≤ x2.toInt ∧ x2.toInt ≤ 1) (hp0_ : x1.toInt < ((k : Nat) : Int)) (hp1_ : zTr f23 f24 f25 f26 (v0 42).toInt (v0 47).toInt) (hp2_ : x1.toInt < (v0 42).toInt), Met l yX13_note (zw yX13_note cX13_note 4 none) { frames := k + 20, cells := 0, slots := 0, locals := 24 * k + 600 } (zPc dC dI adK adV [.ref h0, .int x1, .int x2, .int x3] sz [(h0, .inr (13, mX13 q0 v0)), ((q0 38), zi k23 1300 f23), ((q0 41), zi k26 1300 f26), ((q0 63), zi k39 40 f39), ((q0 64), zi k40 40 f40), ((q0 39), zi k24 1300 f24), ((q0 40), zi k25 1300 f25)] [(k23, .int), (k26, .int), (k39, .boolean), (k40, .int), (k24, .int), (k25, .int)]) (va_Qv (fun (u : Nat → Int32) => True) (fun (u : Nat → Int32) (t : State) => ∃ (ww : Nat → Int64) (aa : Nat → Nat → Int32) (bb : Nat → Nat → Int64), (zNoR f23 f24 f25 f26 ((x1 : Int32)).toNatClampNeg x2.toInt x3.toInt f39 f40 (aa 0) (aa 1)) ∧ va_P (dC, dI) vwCl [(h0, .inr (13, mX13 q0 v0)), ((q0 38), zi k23 1300 f23), ((q0 41), zi k26 1300 f26), ((q0 63), zi k39 40 (aa 0)), ((q0 64), zi k40 40 (aa 1)), ((q0 39), zi k24 1300 f24), ((q0 40), zi k25 1300 f25)] t.heap ∧ va_K (dC, dI) vwCl [(k23, .int), (k26, .int), (k39, .boolean), (k40, .int), (k24, .int), (k25, .int)] t ∧ va_D (va_A [(h0, .inr (13, mX13 q0 v0)), ((q0 38), zi k23 1300 f23), ((q0 41), zi k26 1300 f26), ((q0 63), zi k39 40 f39), ((q0 64), zi k40 40 f40), ((q0 39), zi k24 1300 f24), ((q0 40), zi k25 1300 f25)] sz) [(h0, .inr (13, mX13 q0 v0)), ((q0 38), zi k23 1300 f23), ((q0 41), zi k26 1300 f26), ((q0 63), zi k39 40 (aa 0)), ((q0 64), zi k40 40 (aa 1)), ((q0 39), zi k24 1300 f24), ((q0 40), zi k25 1300 f25)]) (va_A [(h0, .inr (13, mX13 q0 v0)), ((q0 38), zi k23 1300 f23), ((q0 41), zi k26 1300 f26), ((q0 63), zi k39 40 f39), ((q0 64), zi k40 40 f40), ((q0 39), zi k24 1300 f24), ((q0 40), zi k25 1300 f25)] sz)) 0 0 (va_A [(h0, .inr (13, mX13 q0 v0)), ((q0 38), zi k23 1300 f23), ((q0 41), zi k26 1300 f26), ((q0 63), zi k39 40 f39), ((q0 64), zi k40 40 f40), ((q0 39), zi k24 1300 f24), ((q0 40), zi k25 1300 f25)] sz)
set_option maxHeartbeats 8000000 in
set_option maxRecDepth 100000 in
theorem sX13_note_0 (l : Launch) (n : Nat) (ih : C_X13_note n l) : C_X13_note (n + 1) l := by
  intro dC dI adK adV h0 q0 k23 k26 k39 k40 k24 k25 sz v0 f23 f26 f39 f40 f24 f25 x1 x2 x3 hv0 hf24 hf25 hx1 hx2 hp0_ hp1_ hp2_
  refine Met.ofW (cc := cX13_note) (maxL := 4) (ret := none) (by decide) rfl ?_
  intro p e s m args below meth c s₁ B hml hv
  obtain ⟨rfl, hsz, hP, hK, hD0, hE, hZ⟩ := hv
  have hx := B.exec
  have hb := B.bytes
  have hr := B.returns
  have hG : ∀ w ∈ zG, w.before _ s = true := fun w h => atoms_spec (ws := (zw yX13_note cX13_note 4 none)) B.pre w (List.mem_cons_of_mem _ h)
  have hown : s.vm.findClass RX13 = some m.cls := findClass_of_methodNamed B.named
  have hlocks := B.notSynchronized

  subst hsz
  have hD := hD0.self (sz := s.heap.size)
  generalize hAe : va_A [(h0, .inr (13, mX13 q0 v0)), ((q0 38), zi k23 1300 f23), ((q0 41), zi k26 1300 f26), ((q0 63), zi k39 40 f39), ((q0 64), zi k40 40 f40), ((q0 39), zi k24 1300 f24), ((q0 40), zi k25 1300 f25)] s.heap.size = A at hD hZ ⊢
  have hA : ∀ q : Nat, s.heap.size ≤ q → A q := fun q h => by rw [← hAe]; exact Or.inr h
  have hS : va_S A s.heap s.heap [] := va_S.rf
  have hl := lv_entry ([.ref h0, .int x1, .int x2, .int x3]) (n := 4) (Nat.le_of_ble_eq_true rfl)
  rw [lg_entry_eq]
  generalize (lg_sl ([.ref h0, .int x1, .int x2, .int x3]) ++ List.replicate (4 - (lg_sl ([.ref h0, .int x1, .int x2, .int x3])).length) Slot.unset).toArray = ls at hl ⊢
  have hl : lv_has ls 4 [(0, .ref h0), (1, .int x1), (2, .int x2), (3, .int x3)] := hl
  have b_ := zk_1
  have b_ := zk_2
  have b_ := zk_3
  have b_ := zk_4
  have b_ := zk_5
  have b_ := zk_6
  have b_ := zk_7
  have b_ := zk_8
  have b_ := zk_9
  have b_ := zk_10
  have b_ := zk_11
  have b_ : 0 ≤ (v0 42).toInt ∧ (v0 42).toInt ≤ 1300 := hv0 42
  have b_ : 0 ≤ (v0 47).toInt ∧ (v0 47).toInt ≤ 40 := hv0 47
  refine lv_aload_n hx hb dX13_note_0 rfl (lv_at hl 0 rfl) ?_
  refine va_get (D := (dC, dI)) (ci := 13) (v := .ref (q0 38)) (C := RX13) (T := TX13) (N := 75) hx hb hG zuX13 hown hK hP 0 rfl rfl 38 (by decide) (hG _ zv1642) (fun _ h9 => h9) rfl dX13_note_1 ?_
  refine lv_iload_n hx hb dX13_note_4 rfl (lv_at hl 1 rfl) ?_
  refine va_iald hx hb hK hP 1 0 rfl rfl (zin_lit ⟨by omega, by omega⟩) dX13_note_5 ?_
  refine lv_topi (fun z5 e_z5 => ?_)
  obtain ⟨n1, n2, n3, n4, n5, n6, n7⟩ := zTr_get hp1_ (x := x1) (by omega) hp2_
  rw [← e_z5] at n1 n2 n3 n4 n5 n6 n7
  have b_ : 1 ≤ z5.toInt ∧ z5.toInt ≤ 11 := ⟨n6, n7⟩
  clear n6 n7
  rcases Classical.em (z5 = (1 : Int32)) with c_ | c_
  · skip
    have b_ : z5.toInt = 1 := by rw [c_]; exact zk_1
    refine lv_tableIn (off := 58) (tgt := 64) hx hb dX13_note_6 (by omega) (by omega) (by rw [b_]; decide) (by decide) ?_
    refine lv_aload_n hx hb dX13_note_64 rfl (lv_at hl 0 rfl) ?_
    refine va_get (D := (dC, dI)) (ci := 13) (v := .ref (q0 63)) (C := RX13) (T := TX13) (N := 75) hx hb hG zuX13 hown hK hP 0 rfl rfl 63 (by decide) (hG _ zv1667) (fun _ h9 => h9) rfl dX13_note_65 ?_
    refine lv_aload_n hx hb dX13_note_68 rfl (lv_at hl 0 rfl) ?_
    refine va_get (D := (dC, dI)) (ci := 13) (v := .ref (q0 41)) (C := RX13) (T := TX13) (N := 75) hx hb hG zuX13 hown hK hP 0 rfl rfl 41 (by decide) (hG _ zv1645) (fun _ h9 => h9) rfl dX13_note_69 ?_
    refine lv_iload_n hx hb dX13_note_72 rfl (lv_at hl 1 rfl) ?_
    refine va_iald hx hb hK hP 2 1 rfl rfl (zin_lit ⟨by omega, by omega⟩) dX13_note_73 ?_
    refine lv_topi (fun z73 e_z73 => ?_)
    have b_ : 0 ≤ z73.toInt ∧ z73.toInt < (v0 47).toInt := by have q := n3 (by omega); rw [← e_z73] at q; exact q
    refine lv_iload_n hx hb dX13_note_74 rfl (lv_at hl 2 rfl) ?_
    refine lv_if_ne (tgt := 82) hx hb dX13_note_75 (by decide) (fun c_ => ?_) (fun c_ => ?_)
    · skip
      have b_ := zT_ne rfl zk_0 c_
      refine lv_iconst (v := 0) hx hb dX13_note_82 (by decide) ?_
      refine va_zast hx hb hK hP hD hS 3 2 rfl rfl (zin_lit ⟨by omega, by omega⟩) dX13_note_83 (fun H locs hP hD hS => ?_)
      obtain ⟨f_83, e_f_83⟩ : ∃ z : Nat → Int32, z = upd f39 (z73 : Int32).toNatClampNeg (vp_nar .boolean 0) := ⟨_, rfl⟩
      have hP : va_P (dC, dI) vwCl [(h0, .inr (13, mX13 q0 v0)), ((q0 38), zi k23 1300 f23), ((q0 41), zi k26 1300 f26), ((q0 63), zi k39 40 f_83), ((q0 64), zi k40 40 f40), ((q0 39), zi k24 1300 f24), ((q0 40), zi k25 1300 f25)] H := by rw [e_f_83]; exact hP
      have hD : va_D A [(h0, .inr (13, mX13 q0 v0)), ((q0 38), zi k23 1300 f23), ((q0 41), zi k26 1300 f26), ((q0 63), zi k39 40 f_83), ((q0 64), zi k40 40 f40), ((q0 39), zi k24 1300 f24), ((q0 40), zi k25 1300 f25)] := by rw [e_f_83]; exact hD
      refine lv_aload_n hx hb dX13_note_84 rfl (lv_at hl 0 rfl) ?_
      refine va_get (D := (dC, dI)) (ci := 13) (v := .ref (q0 64)) (C := RX13) (T := TX13) (N := 75) hx hb hG zuX13 hown hK hP 0 rfl rfl 64 (by decide) (hG _ zv1668) (fun _ h9 => h9) rfl dX13_note_85 ?_
      refine lv_aload_n hx hb dX13_note_88 rfl (lv_at hl 0 rfl) ?_
      refine va_get (D := (dC, dI)) (ci := 13) (v := .ref (q0 41)) (C := RX13) (T := TX13) (N := 75) hx hb hG zuX13 hown hK hP 0 rfl rfl 41 (by decide) (hG _ zv1645) (fun _ h9 => h9) rfl dX13_note_89 ?_
      refine lv_iload_n hx hb dX13_note_92 rfl (lv_at hl 1 rfl) ?_
      refine va_iald hx hb hK hP 2 1 rfl rfl (zin_lit ⟨by omega, by omega⟩) dX13_note_93 ?_
      refine lv_topi (fun z93 e_z93 => ?_)
      have b_ : 0 ≤ z93.toInt ∧ z93.toInt < (v0 47).toInt := by have q := n3 (by omega); rw [← e_z93] at q; exact q
      refine lv_iload_n hx hb dX13_note_94 rfl (lv_at hl 3 rfl) ?_
      refine va_iast hx hb hK hP hD hS 4 3 rfl rfl (zin_lit ⟨by omega, by omega⟩) dX13_note_95 (fun H locs hP hD hS => ?_)
      obtain ⟨f_95, e_f_95⟩ : ∃ z : Nat → Int32, z = upd f40 (z93 : Int32).toNatClampNeg x3 := ⟨_, rfl⟩
      have hP : va_P (dC, dI) vwCl [(h0, .inr (13, mX13 q0 v0)), ((q0 38), zi k23 1300 f23), ((q0 41), zi k26 1300 f26), ((q0 63), zi k39 40 f_83), ((q0 64), zi k40 40 f_95), ((q0 39), zi k24 1300 f24), ((q0 40), zi k25 1300 f25)] H := by rw [e_f_95]; exact hP
      have hD : va_D A [(h0, .inr (13, mX13 q0 v0)), ((q0 38), zi k23 1300 f23), ((q0 41), zi k26 1300 f26), ((q0 63), zi k39 40 f_83), ((q0 64), zi k40 40 f_95), ((q0 39), zi k24 1300 f24), ((q0 40), zi k25 1300 f25)] := by rw [e_f_95]; exact hD
      refine W.widen (k := 0) (n := 0) (by decide) (by decide) ?_
      have hpost : True := trivial
      have hP9 : va_P (dC, dI) vwCl [(h0, .inr (13, mX13 q0 v0)), ((q0 38), zi k23 1300 f23), ((q0 41), zi k26 1300 f26), ((q0 63), zi k39 40 f_83), ((q0 64), zi k40 40 f_95), ((q0 39), zi k24 1300 f24), ((q0 40), zi k25 1300 f25)] H := hP
      have hD9 : va_D A [(h0, .inr (13, mX13 q0 v0)), ((q0 38), zi k23 1300 f23), ((q0 41), zi k26 1300 f26), ((q0 63), zi k39 40 f_83), ((q0 64), zi k40 40 f_95), ((q0 39), zi k24 1300 f24), ((q0 40), zi k25 1300 f25)] := hD
      have hB0 : zNoR f23 f24 f25 f26 ((x1 : Int32)).toNatClampNeg x2.toInt x3.toInt f39 f40 f_83 f_95 := by first | exact zNoR_1 e_z5 (by omega) e_z73 e_z93 (Or.inl ⟨by omega, by decide⟩) rfl e_f_83 e_f_95 | exact zNoR_1 e_z5 (by omega) e_z73 e_z93 (Or.inr ⟨by omega, by decide⟩) rfl e_f_83 e_f_95 | exact zNoR_4 e_z5 (by omega) e_z106 (by decide) e_f_108 | exact zNoR_6 e_z5 e_z116 hB132_0 (Or.inl ⟨by omega, rfl, zf6_e (by omega)⟩) | exact zNoR_6 e_z5 e_z142 hB158_0 (Or.inr (Or.inl ⟨by omega, rfl, zf7_e (by omega)⟩)) | exact zNoR_6 e_z5 e_z168 hB171_0 (Or.inr (Or.inr ⟨by omega, by decide, rfl⟩)) | exact zNoR_2 e_z5 e_z181 hB184_0 e_z193 hB196_0 (Or.inl ⟨by omega, by decide⟩) | exact zNoR_2 e_z5 e_z206 hB209_0 e_z218 hB221_0 (Or.inr ⟨by omega, rfl⟩)
      exact W.vret hx hb hr (fun t ht hW => ⟨⟨(fun _ => 0), rfl, hpost, (fun _ => 0), (fun i => ([f_83, f_95] : List (Nat → Int32)).getD i (fun _ => 0)), (fun _ => (fun _ => 0)), hB0, by rw [ht]; exact hP9, va_K.moved hW.alike hK, hD9⟩, hS.F ht⟩) hS.2.2 dX13_note_96
    · skip
      have b_ := zF_ne rfl zk_0 c_
      refine lv_iconst (v := 1) hx hb dX13_note_78 (by decide) ?_
      refine lv_goto (tgt := 83) hx hb dX13_note_79 (by decide) ?_
      refine va_zast hx hb hK hP hD hS 3 2 rfl rfl (zin_lit ⟨by omega, by omega⟩) dX13_note_83 (fun H locs hP hD hS => ?_)
      obtain ⟨f_83, e_f_83⟩ : ∃ z : Nat → Int32, z = upd f39 (z73 : Int32).toNatClampNeg (vp_nar .boolean 1) := ⟨_, rfl⟩
      have hP : va_P (dC, dI) vwCl [(h0, .inr (13, mX13 q0 v0)), ((q0 38), zi k23 1300 f23), ((q0 41), zi k26 1300 f26), ((q0 63), zi k39 40 f_83), ((q0 64), zi k40 40 f40), ((q0 39), zi k24 1300 f24), ((q0 40), zi k25 1300 f25)] H := by rw [e_f_83]; exact hP
      have hD : va_D A [(h0, .inr (13, mX13 q0 v0)), ((q0 38), zi k23 1300 f23), ((q0 41), zi k26 1300 f26), ((q0 63), zi k39 40 f_83), ((q0 64), zi k40 40 f40), ((q0 39), zi k24 1300 f24), ((q0 40), zi k25 1300 f25)] := by rw [e_f_83]; exact hD
      refine lv_aload_n hx hb dX13_note_84 rfl (lv_at hl 0 rfl) ?_
      refine va_get (D := (dC, dI)) (ci := 13) (v := .ref (q0 64)) (C := RX13) (T := TX13) (N := 75) hx hb hG zuX13 hown hK hP 0 rfl rfl 64 (by decide) (hG _ zv1668) (fun _ h9 => h9) rfl dX13_note_85 ?_
      refine lv_aload_n hx hb dX13_note_88 rfl (lv_at hl 0 rfl) ?_
      refine va_get (D := (dC, dI)) (ci := 13) (v := .ref (q0 41)) (C := RX13) (T := TX13) (N := 75) hx hb hG zuX13 hown hK hP 0 rfl rfl 41 (by decide) (hG _ zv1645) (fun _ h9 => h9) rfl dX13_note_89 ?_
      refine lv_iload_n hx hb dX13_note_92 rfl (lv_at hl 1 rfl) ?_
      refine va_iald hx hb hK hP 2 1 rfl rfl (zin_lit ⟨by omega, by omega⟩) dX13_note_93 ?_
      refine lv_topi (fun z93 e_z93 => ?_)
      have b_ : 0 ≤ z93.toInt ∧ z93.toInt < (v0 47).toInt := by have q := n3 (by omega); rw [← e_z93] at q; exact q
      refine lv_iload_n hx hb dX13_note_94 rfl (lv_at hl 3 rfl) ?_
      refine va_iast hx hb hK hP hD hS 4 3 rfl rfl (zin_lit ⟨by omega, by omega⟩) dX13_note_95 (fun H locs hP hD hS => ?_)
      obtain ⟨f_95, e_f_95⟩ : ∃ z : Nat → Int32, z = upd f40 (z93 : Int32).toNatClampNeg x3 := ⟨_, rfl⟩
      have hP : va_P (dC, dI) vwCl [(h0, .inr (13, mX13 q0 v0)), ((q0 38), zi k23 1300 f23), ((q0 41), zi k26 1300 f26), ((q0 63), zi k39 40 f_83), ((q0 64), zi k40 40 f_95), ((q0 39), zi k24 1300 f24), ((q0 40), zi k25 1300 f25)] H := by rw [e_f_95]; exact hP
      have hD : va_D A [(h0, .inr (13, mX13 q0 v0)), ((q0 38), zi k23 1300 f23), ((q0 41), zi k26 1300 f26), ((q0 63), zi k39 40 f_83), ((q0 64), zi k40 40 f_95), ((q0 39), zi k24 1300 f24), ((q0 40), zi k25 1300 f25)] := by rw [e_f_95]; exact hD
      refine W.widen (k := 0) (n := 0) (by decide) (by decide) ?_
      have hpost : True := trivial
      have hP9 : va_P (dC, dI) vwCl [(h0, .inr (13, mX13 q0 v0)), ((q0 38), zi k23 1300 f23), ((q0 41), zi k26 1300 f26), ((q0 63), zi k39 40 f_83), ((q0 64), zi k40 40 f_95), ((q0 39), zi k24 1300 f24), ((q0 40), zi k25 1300 f25)] H := hP
      have hD9 : va_D A [(h0, .inr (13, mX13 q0 v0)), ((q0 38), zi k23 1300 f23), ((q0 41), zi k26 1300 f26), ((q0 63), zi k39 40 f_83), ((q0 64), zi k40 40 f_95), ((q0 39), zi k24 1300 f24), ((q0 40), zi k25 1300 f25)] := hD
      have hB0 : zNoR f23 f24 f25 f26 ((x1 : Int32)).toNatClampNeg x2.toInt x3.toInt f39 f40 f_83 f_95 := by first | exact zNoR_1 e_z5 (by omega) e_z73 e_z93 (Or.inl ⟨by omega, by decide⟩) rfl e_f_83 e_f_95 | exact zNoR_1 e_z5 (by omega) e_z73 e_z93 (Or.inr ⟨by omega, by decide⟩) rfl e_f_83 e_f_95 | exact zNoR_4 e_z5 (by omega) e_z106 (by decide) e_f_108 | exact zNoR_6 e_z5 e_z116 hB132_0 (Or.inl ⟨by omega, rfl, zf6_e (by omega)⟩) | exact zNoR_6 e_z5 e_z142 hB158_0 (Or.inr (Or.inl ⟨by omega, rfl, zf7_e (by omega)⟩)) | exact zNoR_6 e_z5 e_z168 hB171_0 (Or.inr (Or.inr ⟨by omega, by decide, rfl⟩)) | exact zNoR_2 e_z5 e_z181 hB184_0 e_z193 hB196_0 (Or.inl ⟨by omega, by decide⟩) | exact zNoR_2 e_z5 e_z206 hB209_0 e_z218 hB221_0 (Or.inr ⟨by omega, rfl⟩)
      exact W.vret hx hb hr (fun t ht hW => ⟨⟨(fun _ => 0), rfl, hpost, (fun _ => 0), (fun i => ([f_83, f_95] : List (Nat → Int32)).getD i (fun _ => 0)), (fun _ => (fun _ => 0)), hB0, by rw [ht]; exact hP9, va_K.moved hW.alike hK, hD9⟩, hS.F ht⟩) hS.2.2 dX13_note_96
  · skip
    have b_ : z5.toInt ≠ 1 := fun h => c_ (zeqi.mpr (h.trans zk_1.symm))
    rcases Classical.em (z5 = (2 : Int32)) with c_ | c_
    · skip
      have b_ : z5.toInt = 2 := by rw [c_]; exact zk_2
      refine lv_tableIn (off := 58) (tgt := 64) hx hb dX13_note_6 (by omega) (by omega) (by rw [b_]; decide) (by decide) ?_
      refine lv_aload_n hx hb dX13_note_64 rfl (lv_at hl 0 rfl) ?_
      refine va_get (D := (dC, dI)) (ci := 13) (v := .ref (q0 63)) (C := RX13) (T := TX13) (N := 75) hx hb hG zuX13 hown hK hP 0 rfl rfl 63 (by decide) (hG _ zv1667) (fun _ h9 => h9) rfl dX13_note_65 ?_
      refine lv_aload_n hx hb dX13_note_68 rfl (lv_at hl 0 rfl) ?_
      refine va_get (D := (dC, dI)) (ci := 13) (v := .ref (q0 41)) (C := RX13) (T := TX13) (N := 75) hx hb hG zuX13 hown hK hP 0 rfl rfl 41 (by decide) (hG _ zv1645) (fun _ h9 => h9) rfl dX13_note_69 ?_
      refine lv_iload_n hx hb dX13_note_72 rfl (lv_at hl 1 rfl) ?_
      refine va_iald hx hb hK hP 2 1 rfl rfl (zin_lit ⟨by omega, by omega⟩) dX13_note_73 ?_
      refine lv_topi (fun z73 e_z73 => ?_)
      have b_ : 0 ≤ z73.toInt ∧ z73.toInt < (v0 47).toInt := by have q := n3 (by omega); rw [← e_z73] at q; exact q
      refine lv_iload_n hx hb dX13_note_74 rfl (lv_at hl 2 rfl) ?_
      refine lv_if_ne (tgt := 82) hx hb dX13_note_75 (by decide) (fun c_ => ?_) (fun c_ => ?_)
      · skip
        have b_ := zT_ne rfl zk_0 c_
        refine lv_iconst (v := 0) hx hb dX13_note_82 (by decide) ?_
        refine va_zast hx hb hK hP hD hS 3 2 rfl rfl (zin_lit ⟨by omega, by omega⟩) dX13_note_83 (fun H locs hP hD hS => ?_)
        obtain ⟨f_83, e_f_83⟩ : ∃ z : Nat → Int32, z = upd f39 (z73 : Int32).toNatClampNeg (vp_nar .boolean 0) := ⟨_, rfl⟩
        have hP : va_P (dC, dI) vwCl [(h0, .inr (13, mX13 q0 v0)), ((q0 38), zi k23 1300 f23), ((q0 41), zi k26 1300 f26), ((q0 63), zi k39 40 f_83), ((q0 64), zi k40 40 f40), ((q0 39), zi k24 1300 f24), ((q0 40), zi k25 1300 f25)] H := by rw [e_f_83]; exact hP
        have hD : va_D A [(h0, .inr (13, mX13 q0 v0)), ((q0 38), zi k23 1300 f23), ((q0 41), zi k26 1300 f26), ((q0 63), zi k39 40 f_83), ((q0 64), zi k40 40 f40), ((q0 39), zi k24 1300 f24), ((q0 40), zi k25 1300 f25)] := by rw [e_f_83]; exact hD
        refine lv_aload_n hx hb dX13_note_84 rfl (lv_at hl 0 rfl) ?_
        refine va_get (D := (dC, dI)) (ci := 13) (v := .ref (q0 64)) (C := RX13) (T := TX13) (N := 75) hx hb hG zuX13 hown hK hP 0 rfl rfl 64 (by decide) (hG _ zv1668) (fun _ h9 => h9) rfl dX13_note_85 ?_
        refine lv_aload_n hx hb dX13_note_88 rfl (lv_at hl 0 rfl) ?_
        refine va_get (D := (dC, dI)) (ci := 13) (v := .ref (q0 41)) (C := RX13) (T := TX13) (N := 75) hx hb hG zuX13 hown hK hP 0 rfl rfl 41 (by decide) (hG _ zv1645) (fun _ h9 => h9) rfl dX13_note_89 ?_
        refine lv_iload_n hx hb dX13_note_92 rfl (lv_at hl 1 rfl) ?_
        refine va_iald hx hb hK hP 2 1 rfl rfl (zin_lit ⟨by omega, by omega⟩) dX13_note_93 ?_
        refine lv_topi (fun z93 e_z93 => ?_)
        have b_ : 0 ≤ z93.toInt ∧ z93.toInt < (v0 47).toInt := by have q := n3 (by omega); rw [← e_z93] at q; exact q
        refine lv_iload_n hx hb dX13_note_94 rfl (lv_at hl 3 rfl) ?_
        refine va_iast hx hb hK hP hD hS 4 3 rfl rfl (zin_lit ⟨by omega, by omega⟩) dX13_note_95 (fun H locs hP hD hS => ?_)
        obtain ⟨f_95, e_f_95⟩ : ∃ z : Nat → Int32, z = upd f40 (z93 : Int32).toNatClampNeg x3 := ⟨_, rfl⟩
        have hP : va_P (dC, dI) vwCl [(h0, .inr (13, mX13 q0 v0)), ((q0 38), zi k23 1300 f23), ((q0 41), zi k26 1300 f26), ((q0 63), zi k39 40 f_83), ((q0 64), zi k40 40 f_95), ((q0 39), zi k24 1300 f24), ((q0 40), zi k25 1300 f25)] H := by rw [e_f_95]; exact hP
        have hD : va_D A [(h0, .inr (13, mX13 q0 v0)), ((q0 38), zi k23 1300 f23), ((q0 41), zi k26 1300 f26), ((q0 63), zi k39 40 f_83), ((q0 64), zi k40 40 f_95), ((q0 39), zi k24 1300 f24), ((q0 40), zi k25 1300 f25)] := by rw [e_f_95]; exact hD
        refine W.widen (k := 0) (n := 0) (by decide) (by decide) ?_
        have hpost : True := trivial
        have hP9 : va_P (dC, dI) vwCl [(h0, .inr (13, mX13 q0 v0)), ((q0 38), zi k23 1300 f23), ((q0 41), zi k26 1300 f26), ((q0 63), zi k39 40 f_83), ((q0 64), zi k40 40 f_95), ((q0 39), zi k24 1300 f24), ((q0 40), zi k25 1300 f25)] H := hP
        have hD9 : va_D A [(h0, .inr (13, mX13 q0 v0)), ((q0 38), zi k23 1300 f23), ((q0 41), zi k26 1300 f26), ((q0 63), zi k39 40 f_83), ((q0 64), zi k40 40 f_95), ((q0 39), zi k24 1300 f24), ((q0 40), zi k25 1300 f25)] := hD
        have hB0 : zNoR f23 f24 f25 f26 ((x1 : Int32)).toNatClampNeg x2.toInt x3.toInt f39 f40 f_83 f_95 := by first | exact zNoR_1 e_z5 (by omega) e_z73 e_z93 (Or.inl ⟨by omega, by decide⟩) rfl e_f_83 e_f_95 | exact zNoR_1 e_z5 (by omega) e_z73 e_z93 (Or.inr ⟨by omega, by decide⟩) rfl e_f_83 e_f_95 | exact zNoR_4 e_z5 (by omega) e_z106 (by decide) e_f_108 | exact zNoR_6 e_z5 e_z116 hB132_0 (Or.inl ⟨by omega, rfl, zf6_e (by omega)⟩) | exact zNoR_6 e_z5 e_z142 hB158_0 (Or.inr (Or.inl ⟨by omega, rfl, zf7_e (by omega)⟩)) | exact zNoR_6 e_z5 e_z168 hB171_0 (Or.inr (Or.inr ⟨by omega, by decide, rfl⟩)) | exact zNoR_2 e_z5 e_z181 hB184_0 e_z193 hB196_0 (Or.inl ⟨by omega, by decide⟩) | exact zNoR_2 e_z5 e_z206 hB209_0 e_z218 hB221_0 (Or.inr ⟨by omega, rfl⟩)
        exact W.vret hx hb hr (fun t ht hW => ⟨⟨(fun _ => 0), rfl, hpost, (fun _ => 0), (fun i => ([f_83, f_95] : List (Nat → Int32)).getD i (fun _ => 0)), (fun _ => (fun _ => 0)), hB0, by rw [ht]; exact hP9, va_K.moved hW.alike hK, hD9⟩, hS.F ht⟩) hS.2.2 dX13_note_96
      · skip
        have b_ := zF_ne rfl zk_0 c_
        refine lv_iconst (v := 1) hx hb dX13_note_78 (by decide) ?_
        refine lv_goto (tgt := 83) hx hb dX13_note_79 (by decide) ?_
        refine va_zast hx hb hK hP hD hS 3 2 rfl rfl (zin_lit ⟨by omega, by omega⟩) dX13_note_83 (fun H locs hP hD hS => ?_)
        obtain ⟨f_83, e_f_83⟩ : ∃ z : Nat → Int32, z = upd f39 (z73 : Int32).toNatClampNeg (vp_nar .boolean 1) := ⟨_, rfl⟩
        have hP : va_P (dC, dI) vwCl [(h0, .inr (13, mX13 q0 v0)), ((q0 38), zi k23 1300 f23), ((q0 41), zi k26 1300 f26), ((q0 63), zi k39 40 f_83), ((q0 64), zi k40 40 f40), ((q0 39), zi k24 1300 f24), ((q0 40), zi k25 1300 f25)] H := by rw [e_f_83]; exact hP
        have hD : va_D A [(h0, .inr (13, mX13 q0 v0)), ((q0 38), zi k23 1300 f23), ((q0 41), zi k26 1300 f26), ((q0 63), zi k39 40 f_83), ((q0 64), zi k40 40 f40), ((q0 39), zi k24 1300 f24), ((q0 40), zi k25 1300 f25)] := by rw [e_f_83]; exact hD
        refine lv_aload_n hx hb dX13_note_84 rfl (lv_at hl 0 rfl) ?_
        refine va_get (D := (dC, dI)) (ci := 13) (v := .ref (q0 64)) (C := RX13) (T := TX13) (N := 75) hx hb hG zuX13 hown hK hP 0 rfl rfl 64 (by decide) (hG _ zv1668) (fun _ h9 => h9) rfl dX13_note_85 ?_
        refine lv_aload_n hx hb dX13_note_88 rfl (lv_at hl 0 rfl) ?_
        refine va_get (D := (dC, dI)) (ci := 13) (v := .ref (q0 41)) (C := RX13) (T := TX13) (N := 75) hx hb hG zuX13 hown hK hP 0 rfl rfl 41 (by decide) (hG _ zv1645) (fun _ h9 => h9) rfl dX13_note_89 ?_
        refine lv_iload_n hx hb dX13_note_92 rfl (lv_at hl 1 rfl) ?_
        refine va_iald hx hb hK hP 2 1 rfl rfl (zin_lit ⟨by omega, by omega⟩) dX13_note_93 ?_
        refine lv_topi (fun z93 e_z93 => ?_)
        have b_ : 0 ≤ z93.toInt ∧ z93.toInt < (v0 47).toInt := by have q := n3 (by omega); rw [← e_z93] at q; exact q
        refine lv_iload_n hx hb dX13_note_94 rfl (lv_at hl 3 rfl) ?_
        refine va_iast hx hb hK hP hD hS 4 3 rfl rfl (zin_lit ⟨by omega, by omega⟩) dX13_note_95 (fun H locs hP hD hS => ?_)
        obtain ⟨f_95, e_f_95⟩ : ∃ z : Nat → Int32, z = upd f40 (z93 : Int32).toNatClampNeg x3 := ⟨_, rfl⟩
        have hP : va_P (dC, dI) vwCl [(h0, .inr (13, mX13 q0 v0)), ((q0 38), zi k23 1300 f23), ((q0 41), zi k26 1300 f26), ((q0 63), zi k39 40 f_83), ((q0 64), zi k40 40 f_95), ((q0 39), zi k24 1300 f24), ((q0 40), zi k25 1300 f25)] H := by rw [e_f_95]; exact hP
        have hD : va_D A [(h0, .inr (13, mX13 q0 v0)), ((q0 38), zi k23 1300 f23), ((q0 41), zi k26 1300 f26), ((q0 63), zi k39 40 f_83), ((q0 64), zi k40 40 f_95), ((q0 39), zi k24 1300 f24), ((q0 40), zi k25 1300 f25)] := by rw [e_f_95]; exact hD
        refine W.widen (k := 0) (n := 0) (by decide) (by decide) ?_
        have hpost : True := trivial
        have hP9 : va_P (dC, dI) vwCl [(h0, .inr (13, mX13 q0 v0)), ((q0 38), zi k23 1300 f23), ((q0 41), zi k26 1300 f26), ((q0 63), zi k39 40 f_83), ((q0 64), zi k40 40 f_95), ((q0 39), zi k24 1300 f24), ((q0 40), zi k25 1300 f25)] H := hP
        have hD9 : va_D A [(h0, .inr (13, mX13 q0 v0)), ((q0 38), zi k23 1300 f23), ((q0 41), zi k26 1300 f26), ((q0 63), zi k39 40 f_83), ((q0 64), zi k40 40 f_95), ((q0 39), zi k24 1300 f24), ((q0 40), zi k25 1300 f25)] := hD
        have hB0 : zNoR f23 f24 f25 f26 ((x1 : Int32)).toNatClampNeg x2.toInt x3.toInt f39 f40 f_83 f_95 := by first | exact zNoR_1 e_z5 (by omega) e_z73 e_z93 (Or.inl ⟨by omega, by decide⟩) rfl e_f_83 e_f_95 | exact zNoR_1 e_z5 (by omega) e_z73 e_z93 (Or.inr ⟨by omega, by decide⟩) rfl e_f_83 e_f_95 | exact zNoR_4 e_z5 (by omega) e_z106 (by decide) e_f_108 | exact zNoR_6 e_z5 e_z116 hB132_0 (Or.inl ⟨by omega, rfl, zf6_e (by omega)⟩) | exact zNoR_6 e_z5 e_z142 hB158_0 (Or.inr (Or.inl ⟨by omega, rfl, zf7_e (by omega)⟩)) | exact zNoR_6 e_z5 e_z168 hB171_0 (Or.inr (Or.inr ⟨by omega, by decide, rfl⟩)) | exact zNoR_2 e_z5 e_z181 hB184_0 e_z193 hB196_0 (Or.inl ⟨by omega, by decide⟩) | exact zNoR_2 e_z5 e_z206 hB209_0 e_z218 hB221_0 (Or.inr ⟨by omega, rfl⟩)
        exact W.vret hx hb hr (fun t ht hW => ⟨⟨(fun _ => 0), rfl, hpost, (fun _ => 0), (fun i => ([f_83, f_95] : List (Nat → Int32)).getD i (fun _ => 0)), (fun _ => (fun _ => 0)), hB0, by rw [ht]; exact hP9, va_K.moved hW.alike hK, hD9⟩, hS.F ht⟩) hS.2.2 dX13_note_96
    · skip
      have b_ : z5.toInt ≠ 2 := fun h => c_ (zeqi.mpr (h.trans zk_2.symm))
      rcases Classical.em (z5 = (3 : Int32)) with c_ | c_
      · skip
        have b_ : z5.toInt = 3 := by rw [c_]; exact zk_3
        refine lv_tableIn (off := 58) (tgt := 64) hx hb dX13_note_6 (by omega) (by omega) (by rw [b_]; decide) (by decide) ?_
        refine lv_aload_n hx hb dX13_note_64 rfl (lv_at hl 0 rfl) ?_
        refine va_get (D := (dC, dI)) (ci := 13) (v := .ref (q0 63)) (C := RX13) (T := TX13) (N := 75) hx hb hG zuX13 hown hK hP 0 rfl rfl 63 (by decide) (hG _ zv1667) (fun _ h9 => h9) rfl dX13_note_65 ?_
        refine lv_aload_n hx hb dX13_note_68 rfl (lv_at hl 0 rfl) ?_
        refine va_get (D := (dC, dI)) (ci := 13) (v := .ref (q0 41)) (C := RX13) (T := TX13) (N := 75) hx hb hG zuX13 hown hK hP 0 rfl rfl 41 (by decide) (hG _ zv1645) (fun _ h9 => h9) rfl dX13_note_69 ?_
        refine lv_iload_n hx hb dX13_note_72 rfl (lv_at hl 1 rfl) ?_
        refine va_iald hx hb hK hP 2 1 rfl rfl (zin_lit ⟨by omega, by omega⟩) dX13_note_73 ?_
        refine lv_topi (fun z73 e_z73 => ?_)
        have b_ : 0 ≤ z73.toInt ∧ z73.toInt < (v0 47).toInt := by have q := n3 (by omega); rw [← e_z73] at q; exact q
        refine lv_iload_n hx hb dX13_note_74 rfl (lv_at hl 2 rfl) ?_
        refine lv_if_ne (tgt := 82) hx hb dX13_note_75 (by decide) (fun c_ => ?_) (fun c_ => ?_)
        · skip
          have b_ := zT_ne rfl zk_0 c_
          refine lv_iconst (v := 0) hx hb dX13_note_82 (by decide) ?_
          refine va_zast hx hb hK hP hD hS 3 2 rfl rfl (zin_lit ⟨by omega, by omega⟩) dX13_note_83 (fun H locs hP hD hS => ?_)
          obtain ⟨f_83, e_f_83⟩ : ∃ z : Nat → Int32, z = upd f39 (z73 : Int32).toNatClampNeg (vp_nar .boolean 0) := ⟨_, rfl⟩
          have hP : va_P (dC, dI) vwCl [(h0, .inr (13, mX13 q0 v0)), ((q0 38), zi k23 1300 f23), ((q0 41), zi k26 1300 f26), ((q0 63), zi k39 40 f_83), ((q0 64), zi k40 40 f40), ((q0 39), zi k24 1300 f24), ((q0 40), zi k25 1300 f25)] H := by rw [e_f_83]; exact hP
          have hD : va_D A [(h0, .inr (13, mX13 q0 v0)), ((q0 38), zi k23 1300 f23), ((q0 41), zi k26 1300 f26), ((q0 63), zi k39 40 f_83), ((q0 64), zi k40 40 f40), ((q0 39), zi k24 1300 f24), ((q0 40), zi k25 1300 f25)] := by rw [e_f_83]; exact hD
          refine lv_aload_n hx hb dX13_note_84 rfl (lv_at hl 0 rfl) ?_
          refine va_get (D := (dC, dI)) (ci := 13) (v := .ref (q0 64)) (C := RX13) (T := TX13) (N := 75) hx hb hG zuX13 hown hK hP 0 rfl rfl 64 (by decide) (hG _ zv1668) (fun _ h9 => h9) rfl dX13_note_85 ?_
          refine lv_aload_n hx hb dX13_note_88 rfl (lv_at hl 0 rfl) ?_
          refine va_get (D := (dC, dI)) (ci := 13) (v := .ref (q0 41)) (C := RX13) (T := TX13) (N := 75) hx hb hG zuX13 hown hK hP 0 rfl rfl 41 (by decide) (hG _ zv1645) (fun _ h9 => h9) rfl dX13_note_89 ?_
          refine lv_iload_n hx hb dX13_note_92 rfl (lv_at hl 1 rfl) ?_
          refine va_iald hx hb hK hP 2 1 rfl rfl (zin_lit ⟨by omega, by omega⟩) dX13_note_93 ?_
          refine lv_topi (fun z93 e_z93 => ?_)
          have b_ : 0 ≤ z93.toInt ∧ z93.toInt < (v0 47).toInt := by have q := n3 (by omega); rw [← e_z93] at q; exact q
          refine lv_iload_n hx hb dX13_note_94 rfl (lv_at hl 3 rfl) ?_
          refine va_iast hx hb hK hP hD hS 4 3 rfl rfl (zin_lit ⟨by omega, by omega⟩) dX13_note_95 (fun H locs hP hD hS => ?_)
          obtain ⟨f_95, e_f_95⟩ : ∃ z : Nat → Int32, z = upd f40 (z93 : Int32).toNatClampNeg x3 := ⟨_, rfl⟩
          have hP : va_P (dC, dI) vwCl [(h0, .inr (13, mX13 q0 v0)), ((q0 38), zi k23 1300 f23), ((q0 41), zi k26 1300 f26), ((q0 63), zi k39 40 f_83), ((q0 64), zi k40 40 f_95), ((q0 39), zi k24 1300 f24), ((q0 40), zi k25 1300 f25)] H := by rw [e_f_95]; exact hP
          have hD : va_D A [(h0, .inr (13, mX13 q0 v0)), ((q0 38), zi k23 1300 f23), ((q0 41), zi k26 1300 f26), ((q0 63), zi k39 40 f_83), ((q0 64), zi k40 40 f_95), ((q0 39), zi k24 1300 f24), ((q0 40), zi k25 1300 f25)] := by rw [e_f_95]; exact hD
          refine W.widen (k := 0) (n := 0) (by decide) (by decide) ?_
          have hpost : True := trivial
          have hP9 : va_P (dC, dI) vwCl [(h0, .inr (13, mX13 q0 v0)), ((q0 38), zi k23 1300 f23), ((q0 41), zi k26 1300 f26), ((q0 63), zi k39 40 f_83), ((q0 64), zi k40 40 f_95), ((q0 39), zi k24 1300 f24), ((q0 40), zi k25 1300 f25)] H := hP
          have hD9 : va_D A [(h0, .inr (13, mX13 q0 v0)), ((q0 38), zi k23 1300 f23), ((q0 41), zi k26 1300 f26), ((q0 63), zi k39 40 f_83), ((q0 64), zi k40 40 f_95), ((q0 39), zi k24 1300 f24), ((q0 40), zi k25 1300 f25)] := hD
          have hB0 : zNoR f23 f24 f25 f26 ((x1 : Int32)).toNatClampNeg x2.toInt x3.toInt f39 f40 f_83 f_95 := by first | exact zNoR_1 e_z5 (by omega) e_z73 e_z93 (Or.inl ⟨by omega, by decide⟩) rfl e_f_83 e_f_95 | exact zNoR_1 e_z5 (by omega) e_z73 e_z93 (Or.inr ⟨by omega, by decide⟩) rfl e_f_83 e_f_95 | exact zNoR_4 e_z5 (by omega) e_z106 (by decide) e_f_108 | exact zNoR_6 e_z5 e_z116 hB132_0 (Or.inl ⟨by omega, rfl, zf6_e (by omega)⟩) | exact zNoR_6 e_z5 e_z142 hB158_0 (Or.inr (Or.inl ⟨by omega, rfl, zf7_e (by omega)⟩)) | exact zNoR_6 e_z5 e_z168 hB171_0 (Or.inr (Or.inr ⟨by omega, by decide, rfl⟩)) | exact zNoR_2 e_z5 e_z181 hB184_0 e_z193 hB196_0 (Or.inl ⟨by omega, by decide⟩) | exact zNoR_2 e_z5 e_z206 hB209_0 e_z218 hB221_0 (Or.inr ⟨by omega, rfl⟩)
          exact W.vret hx hb hr (fun t ht hW => ⟨⟨(fun _ => 0), rfl, hpost, (fun _ => 0), (fun i => ([f_83, f_95] : List (Nat → Int32)).getD i (fun _ => 0)), (fun _ => (fun _ => 0)), hB0, by rw [ht]; exact hP9, va_K.moved hW.alike hK, hD9⟩, hS.F ht⟩) hS.2.2 dX13_note_96
        · skip
          have b_ := zF_ne rfl zk_0 c_
          refine lv_iconst (v := 1) hx hb dX13_note_78 (by decide) ?_
          refine lv_goto (tgt := 83) hx hb dX13_note_79 (by decide) ?_
          refine va_zast hx hb hK hP hD hS 3 2 rfl rfl (zin_lit ⟨by omega, by omega⟩) dX13_note_83 (fun H locs hP hD hS => ?_)
          obtain ⟨f_83, e_f_83⟩ : ∃ z : Nat → Int32, z = upd f39 (z73 : Int32).toNatClampNeg (vp_nar .boolean 1) := ⟨_, rfl⟩
          have hP : va_P (dC, dI) vwCl [(h0, .inr (13, mX13 q0 v0)), ((q0 38), zi k23 1300 f23), ((q0 41), zi k26 1300 f26), ((q0 63), zi k39 40 f_83), ((q0 64), zi k40 40 f40), ((q0 39), zi k24 1300 f24), ((q0 40), zi k25 1300 f25)] H := by rw [e_f_83]; exact hP
          have hD : va_D A [(h0, .inr (13, mX13 q0 v0)), ((q0 38), zi k23 1300 f23), ((q0 41), zi k26 1300 f26), ((q0 63), zi k39 40 f_83), ((q0 64), zi k40 40 f40), ((q0 39), zi k24 1300 f24), ((q0 40), zi k25 1300 f25)] := by rw [e_f_83]; exact hD
          refine lv_aload_n hx hb dX13_note_84 rfl (lv_at hl 0 rfl) ?_
          refine va_get (D := (dC, dI)) (ci := 13) (v := .ref (q0 64)) (C := RX13) (T := TX13) (N := 75) hx hb hG zuX13 hown hK hP 0 rfl rfl 64 (by decide) (hG _ zv1668) (fun _ h9 => h9) rfl dX13_note_85 ?_
          refine lv_aload_n hx hb dX13_note_88 rfl (lv_at hl 0 rfl) ?_
          refine va_get (D := (dC, dI)) (ci := 13) (v := .ref (q0 41)) (C := RX13) (T := TX13) (N := 75) hx hb hG zuX13 hown hK hP 0 rfl rfl 41 (by decide) (hG _ zv1645) (fun _ h9 => h9) rfl dX13_note_89 ?_
          refine lv_iload_n hx hb dX13_note_92 rfl (lv_at hl 1 rfl) ?_
          refine va_iald hx hb hK hP 2 1 rfl rfl (zin_lit ⟨by omega, by omega⟩) dX13_note_93 ?_
          refine lv_topi (fun z93 e_z93 => ?_)
          have b_ : 0 ≤ z93.toInt ∧ z93.toInt < (v0 47).toInt := by have q := n3 (by omega); rw [← e_z93] at q; exact q
          refine lv_iload_n hx hb dX13_note_94 rfl (lv_at hl 3 rfl) ?_
          refine va_iast hx hb hK hP hD hS 4 3 rfl rfl (zin_lit ⟨by omega, by omega⟩) dX13_note_95 (fun H locs hP hD hS => ?_)
          obtain ⟨f_95, e_f_95⟩ : ∃ z : Nat → Int32, z = upd f40 (z93 : Int32).toNatClampNeg x3 := ⟨_, rfl⟩
          have hP : va_P (dC, dI) vwCl [(h0, .inr (13, mX13 q0 v0)), ((q0 38), zi k23 1300 f23), ((q0 41), zi k26 1300 f26), ((q0 63), zi k39 40 f_83), ((q0 64), zi k40 40 f_95), ((q0 39), zi k24 1300 f24), ((q0 40), zi k25 1300 f25)] H := by rw [e_f_95]; exact hP
          have hD : va_D A [(h0, .inr (13, mX13 q0 v0)), ((q0 38), zi k23 1300 f23), ((q0 41), zi k26 1300 f26), ((q0 63), zi k39 40 f_83), ((q0 64), zi k40 40 f_95), ((q0 39), zi k24 1300 f24), ((q0 40), zi k25 1300 f25)] := by rw [e_f_95]; exact hD
          refine W.widen (k := 0) (n := 0) (by decide) (by decide) ?_
          have hpost : True := trivial
          have hP9 : va_P (dC, dI) vwCl [(h0, .inr (13, mX13 q0 v0)), ((q0 38), zi k23 1300 f23), ((q0 41), zi k26 1300 f26), ((q0 63), zi k39 40 f_83), ((q0 64), zi k40 40 f_95), ((q0 39), zi k24 1300 f24), ((q0 40), zi k25 1300 f25)] H := hP
          have hD9 : va_D A [(h0, .inr (13, mX13 q0 v0)), ((q0 38), zi k23 1300 f23), ((q0 41), zi k26 1300 f26), ((q0 63), zi k39 40 f_83), ((q0 64), zi k40 40 f_95), ((q0 39), zi k24 1300 f24), ((q0 40), zi k25 1300 f25)] := hD
          have hB0 : zNoR f23 f24 f25 f26 ((x1 : Int32)).toNatClampNeg x2.toInt x3.toInt f39 f40 f_83 f_95 := by first | exact zNoR_1 e_z5 (by omega) e_z73 e_z93 (Or.inl ⟨by omega, by decide⟩) rfl e_f_83 e_f_95 | exact zNoR_1 e_z5 (by omega) e_z73 e_z93 (Or.inr ⟨by omega, by decide⟩) rfl e_f_83 e_f_95 | exact zNoR_4 e_z5 (by omega) e_z106 (by decide) e_f_108 | exact zNoR_6 e_z5 e_z116 hB132_0 (Or.inl ⟨by omega, rfl, zf6_e (by omega)⟩) | exact zNoR_6 e_z5 e_z142 hB158_0 (Or.inr (Or.inl ⟨by omega, rfl, zf7_e (by omega)⟩)) | exact zNoR_6 e_z5 e_z168 hB171_0 (Or.inr (Or.inr ⟨by omega, by decide, rfl⟩)) | exact zNoR_2 e_z5 e_z181 hB184_0 e_z193 hB196_0 (Or.inl ⟨by omega, by decide⟩) | exact zNoR_2 e_z5 e_z206 hB209_0 e_z218 hB221_0 (Or.inr ⟨by omega, rfl⟩)
          exact W.vret hx hb hr (fun t ht hW => ⟨⟨(fun _ => 0), rfl, hpost, (fun _ => 0), (fun i => ([f_83, f_95] : List (Nat → Int32)).getD i (fun _ => 0)), (fun _ => (fun _ => 0)), hB0, by rw [ht]; exact hP9, va_K.moved hW.alike hK, hD9⟩, hS.F ht⟩) hS.2.2 dX13_note_96
      · skip
        have b_ : z5.toInt ≠ 3 := fun h => c_ (zeqi.mpr (h.trans zk_3.symm))
        rcases Classical.em (z5 = (4 : Int32)) with c_ | c_
        · skip
          have b_ : z5.toInt = 4 := by rw [c_]; exact zk_4
          refine lv_tableIn (off := 91) (tgt := 97) hx hb dX13_note_6 (by omega) (by omega) (by rw [b_]; decide) (by decide) ?_
          refine lv_aload_n hx hb dX13_note_97 rfl (lv_at hl 0 rfl) ?_
          refine va_get (D := (dC, dI)) (ci := 13) (v := .ref (q0 63)) (C := RX13) (T := TX13) (N := 75) hx hb hG zuX13 hown hK hP 0 rfl rfl 63 (by decide) (hG _ zv1667) (fun _ h9 => h9) rfl dX13_note_98 ?_
          refine lv_aload_n hx hb dX13_note_101 rfl (lv_at hl 0 rfl) ?_
          refine va_get (D := (dC, dI)) (ci := 13) (v := .ref (q0 41)) (C := RX13) (T := TX13) (N := 75) hx hb hG zuX13 hown hK hP 0 rfl rfl 41 (by decide) (hG _ zv1645) (fun _ h9 => h9) rfl dX13_note_102 ?_
          refine lv_iload_n hx hb dX13_note_105 rfl (lv_at hl 1 rfl) ?_
          refine va_iald hx hb hK hP 2 1 rfl rfl (zin_lit ⟨by omega, by omega⟩) dX13_note_106 ?_
          refine lv_topi (fun z106 e_z106 => ?_)
          have b_ : 0 ≤ z106.toInt ∧ z106.toInt < (v0 47).toInt := by have q := n3 (by omega); rw [← e_z106] at q; exact q
          refine lv_iconst (v := 0) hx hb dX13_note_107 (by decide) ?_
          refine va_zast hx hb hK hP hD hS 3 2 rfl rfl (zin_lit ⟨by omega, by omega⟩) dX13_note_108 (fun H locs hP hD hS => ?_)
          obtain ⟨f_108, e_f_108⟩ : ∃ z : Nat → Int32, z = upd f39 (z106 : Int32).toNatClampNeg (vp_nar .boolean 0) := ⟨_, rfl⟩
          have hP : va_P (dC, dI) vwCl [(h0, .inr (13, mX13 q0 v0)), ((q0 38), zi k23 1300 f23), ((q0 41), zi k26 1300 f26), ((q0 63), zi k39 40 f_108), ((q0 64), zi k40 40 f40), ((q0 39), zi k24 1300 f24), ((q0 40), zi k25 1300 f25)] H := by rw [e_f_108]; exact hP
          have hD : va_D A [(h0, .inr (13, mX13 q0 v0)), ((q0 38), zi k23 1300 f23), ((q0 41), zi k26 1300 f26), ((q0 63), zi k39 40 f_108), ((q0 64), zi k40 40 f40), ((q0 39), zi k24 1300 f24), ((q0 40), zi k25 1300 f25)] := by rw [e_f_108]; exact hD
          refine W.widen (k := 0) (n := 0) (by decide) (by decide) ?_
          have hpost : True := trivial
          have hP9 : va_P (dC, dI) vwCl [(h0, .inr (13, mX13 q0 v0)), ((q0 38), zi k23 1300 f23), ((q0 41), zi k26 1300 f26), ((q0 63), zi k39 40 f_108), ((q0 64), zi k40 40 f40), ((q0 39), zi k24 1300 f24), ((q0 40), zi k25 1300 f25)] H := hP
          have hD9 : va_D A [(h0, .inr (13, mX13 q0 v0)), ((q0 38), zi k23 1300 f23), ((q0 41), zi k26 1300 f26), ((q0 63), zi k39 40 f_108), ((q0 64), zi k40 40 f40), ((q0 39), zi k24 1300 f24), ((q0 40), zi k25 1300 f25)] := hD
          have hB0 : zNoR f23 f24 f25 f26 ((x1 : Int32)).toNatClampNeg x2.toInt x3.toInt f39 f40 f_108 f40 := by first | exact zNoR_1 e_z5 (by omega) e_z73 e_z93 (Or.inl ⟨by omega, by decide⟩) rfl e_f_83 e_f_95 | exact zNoR_1 e_z5 (by omega) e_z73 e_z93 (Or.inr ⟨by omega, by decide⟩) rfl e_f_83 e_f_95 | exact zNoR_4 e_z5 (by omega) e_z106 (by decide) e_f_108 | exact zNoR_6 e_z5 e_z116 hB132_0 (Or.inl ⟨by omega, rfl, zf6_e (by omega)⟩) | exact zNoR_6 e_z5 e_z142 hB158_0 (Or.inr (Or.inl ⟨by omega, rfl, zf7_e (by omega)⟩)) | exact zNoR_6 e_z5 e_z168 hB171_0 (Or.inr (Or.inr ⟨by omega, by decide, rfl⟩)) | exact zNoR_2 e_z5 e_z181 hB184_0 e_z193 hB196_0 (Or.inl ⟨by omega, by decide⟩) | exact zNoR_2 e_z5 e_z206 hB209_0 e_z218 hB221_0 (Or.inr ⟨by omega, rfl⟩)
          exact W.vret hx hb hr (fun t ht hW => ⟨⟨(fun _ => 0), rfl, hpost, (fun _ => 0), (fun i => ([f_108, f40] : List (Nat → Int32)).getD i (fun _ => 0)), (fun _ => (fun _ => 0)), hB0, by rw [ht]; exact hP9, va_K.moved hW.alike hK, hD9⟩, hS.F ht⟩) hS.2.2 dX13_note_109
        · skip
          have b_ : z5.toInt ≠ 4 := fun h => c_ (zeqi.mpr (h.trans zk_4.symm))
          rcases Classical.em (z5 = (5 : Int32)) with c_ | c_
          · skip
            have b_ : z5.toInt = 5 := by rw [c_]; exact zk_5
            refine lv_tableIn (off := 194) (tgt := 200) hx hb dX13_note_6 (by omega) (by omega) (by rw [b_]; decide) (by decide) ?_
            refine lv_aload_n hx hb dX13_note_200 rfl (lv_at hl 0 rfl) ?_
            refine lv_aload_n hx hb dX13_note_201 rfl (lv_at hl 0 rfl) ?_
            refine va_get (D := (dC, dI)) (ci := 13) (v := .ref (q0 39)) (C := RX13) (T := TX13) (N := 75) hx hb hG zuX13 hown hK hP 0 rfl rfl 39 (by decide) (hG _ zv1643) (fun _ h9 => h9) rfl dX13_note_202 ?_
            refine lv_iload_n hx hb dX13_note_205 rfl (lv_at hl 1 rfl) ?_
            refine va_iald hx hb hK hP 5 4 rfl rfl (zin_lit ⟨by omega, by omega⟩) dX13_note_206 ?_
            refine lv_topi (fun z206 e_z206 => ?_)
            have b_ : (-1) ≤ z206.toInt ∧ z206.toInt ≤ 1299 := by rw [e_z206]; exact hf24 _
            have b_ : 0 ≤ z206.toInt ∧ z206.toInt < x1.toInt := by have q := n1 (by omega); rw [← e_z206] at q; omega
            refine lv_iload_n hx hb dX13_note_207 rfl (lv_at hl 2 rfl) ?_
            refine lv_iload_n hx hb dX13_note_208 rfl (lv_at hl 3 rfl) ?_
            have hPc := hP.sub (ws' := [(h0, .inr (13, mX13 q0 v0)), ((q0 38), zi k23 1300 f23), ((q0 41), zi k26 1300 f26), ((q0 63), zi k39 40 f39), ((q0 64), zi k40 40 f40), ((q0 39), zi k24 1300 f24), ((q0 40), zi k25 1300 f25)]) [0, 1, 2, 3, 4, 5, 6] rfl
            have hDc := hD.sub (ws' := [(h0, .inr (13, mX13 q0 v0)), ((q0 38), zi k23 1300 f23), ((q0 41), zi k26 1300 f26), ((q0 63), zi k39 40 f39), ((q0 64), zi k40 40 f40), ((q0 39), zi k24 1300 f24), ((q0 40), zi k25 1300 f25)]) [0, 1, 2, 3, 4, 5, 6] (by decide) rfl
            have hKc := hK.sub (tys' := [(k23, .int), (k26, .int), (k39, .boolean), (k40, .int), (k24, .int), (k25, .int)]) [0, 1, 2, 3, 4, 5] rfl
            have hFc := va_free (wc := [(h0, .inr (13, mX13 q0 v0)), ((q0 38), zi k23 1300 f23), ((q0 41), zi k26 1300 f26), ((q0 63), zi k39 40 f39), ((q0 64), zi k40 40 f40), ((q0 39), zi k24 1300 f24), ((q0 40), zi k25 1300 f25)]) hD hS hA [0, 1, 2, 3, 4, 5, 6] rfl
            refine va_callv (va_runV (As := [.int z206, .int x2, .int x3]) (rest := []) ⟨hx, hb, hml, hown, hG⟩ (ih dC dI adK adV h0 q0 k23 k26 k39 k40 k24 k25 s.heap.size v0 f23 f26 f39 f40 f24 f25 z206 x2 x3 hv0 hf24 hf25 (show (0 : Int) ≤ (z206 : Int32).toInt ∧ (z206 : Int32).toInt ≤ (1299 : Int) from (by first | with_reducible assumption | exact ⟨by omega, by omega⟩)) (show (0 : Int) ≤ (x2 : Int32).toInt ∧ (x2 : Int32).toInt ≤ (1 : Int) from (by first | with_reducible assumption | exact ⟨by omega, by omega⟩)) (show z206.toInt < ((n : Nat) : Int) from by omega) (show zTr f23 f24 f25 f26 (v0 42).toInt (v0 47).toInt from by first | with_reducible assumption | assumption) (show z206.toInt < (v0 42).toInt from by omega)) (cwV 3 hG (zgV zv2166 zv2168 zv112 zv142 zv2169) rfl rfl rfl (by decide +kernel) ⟨(show n + 20 + 1 ≤ (n + 1) + 20 from by omega), (show 8 + (4 + 11) + (24 * n + 600) ≤ 24 * (n + 1) + 600 from by omega)⟩) ⟨zPc_blind, va_recv hKc hPc (ci := 13) (q0 := 0) rfl rfl, zPc_pre hPc hKc hDc hE hS hFc hZ⟩ rfl rfl hl.1 rfl (lv_room (Nat.le_of_ble_eq_true rfl)) dX13_note_209 ⟨Nat.le_of_ble_eq_true rfl, Nat.le_of_ble_eq_true rfl⟩) hS (fun q _ h => hFc q h) hFc (fun u209_ t H1 locs ht hvm hw hB hz1 hk1 hS => ?_)
            obtain ⟨w209_, a209_, b209_, hB209_0, hP1, hK1, hD1⟩ := hB
            have hB209_0 : zNoR f23 f24 f25 f26 ((z206 : Int32)).toNatClampNeg x2.toInt x3.toInt f39 f40 (a209_ 0) (a209_ 1) := hB209_0
            rw [ht] at hP1
            obtain ⟨hP, hD⟩ := va_join (wr := []) (w1 := [(h0, .inr (13, mX13 q0 v0)), ((q0 38), zi k23 1300 f23), ((q0 41), zi k26 1300 f26), ((q0 63), zi k39 40 (a209_ 0)), ((q0 64), zi k40 40 (a209_ 1)), ((q0 39), zi k24 1300 f24), ((q0 40), zi k25 1300 f25)]) hP hD [0, 1, 2, 3, 4, 5, 6] [] rfl rfl (by decide) (by decide) hk1 hFc hP1 hD1
            have hP : va_P (dC, dI) vwCl [(h0, .inr (13, mX13 q0 v0)), ((q0 38), zi k23 1300 f23), ((q0 41), zi k26 1300 f26), ((q0 63), zi k39 40 (a209_ 0)), ((q0 64), zi k40 40 (a209_ 1)), ((q0 39), zi k24 1300 f24), ((q0 40), zi k25 1300 f25)] H1 := hP.sub [0, 1, 2, 3, 4, 5, 6] rfl
            have hD : va_D A [(h0, .inr (13, mX13 q0 v0)), ((q0 38), zi k23 1300 f23), ((q0 41), zi k26 1300 f26), ((q0 63), zi k39 40 (a209_ 0)), ((q0 64), zi k40 40 (a209_ 1)), ((q0 39), zi k24 1300 f24), ((q0 40), zi k25 1300 f25)] := hD.sub [0, 1, 2, 3, 4, 5, 6] (by decide) rfl
            generalize H1 = H at hP hS ⊢
            clear hz1
            refine lv_aload_n hx hb dX13_note_212 rfl (lv_at hl 0 rfl) ?_
            refine lv_aload_n hx hb dX13_note_213 rfl (lv_at hl 0 rfl) ?_
            refine va_get (D := (dC, dI)) (ci := 13) (v := .ref (q0 40)) (C := RX13) (T := TX13) (N := 75) hx hb hG zuX13 hown hK hP 0 rfl rfl 40 (by decide) (hG _ zv1644) (fun _ h9 => h9) rfl dX13_note_214 ?_
            refine lv_iload_n hx hb dX13_note_217 rfl (lv_at hl 1 rfl) ?_
            refine va_iald hx hb hK hP 6 5 rfl rfl (zin_lit ⟨by omega, by omega⟩) dX13_note_218 ?_
            refine lv_topi (fun z218 e_z218 => ?_)
            have b_ : (-1) ≤ z218.toInt ∧ z218.toInt ≤ 1299 := by rw [e_z218]; exact hf25 _
            have b_ : 0 ≤ z218.toInt ∧ z218.toInt < x1.toInt := by have q := n1 (by omega); rw [← e_z218] at q; omega
            refine lv_iload_n hx hb dX13_note_219 rfl (lv_at hl 2 rfl) ?_
            refine lv_iload_n hx hb dX13_note_220 rfl (lv_at hl 3 rfl) ?_
            have hPc := hP.sub (ws' := [(h0, .inr (13, mX13 q0 v0)), ((q0 38), zi k23 1300 f23), ((q0 41), zi k26 1300 f26), ((q0 63), zi k39 40 (a209_ 0)), ((q0 64), zi k40 40 (a209_ 1)), ((q0 39), zi k24 1300 f24), ((q0 40), zi k25 1300 f25)]) [0, 1, 2, 3, 4, 5, 6] rfl
            have hDc := hD.sub (ws' := [(h0, .inr (13, mX13 q0 v0)), ((q0 38), zi k23 1300 f23), ((q0 41), zi k26 1300 f26), ((q0 63), zi k39 40 (a209_ 0)), ((q0 64), zi k40 40 (a209_ 1)), ((q0 39), zi k24 1300 f24), ((q0 40), zi k25 1300 f25)]) [0, 1, 2, 3, 4, 5, 6] (by decide) rfl
            have hKc := hK.sub (tys' := [(k23, .int), (k26, .int), (k39, .boolean), (k40, .int), (k24, .int), (k25, .int)]) [0, 1, 2, 3, 4, 5] rfl
            have hFc := va_free (wc := [(h0, .inr (13, mX13 q0 v0)), ((q0 38), zi k23 1300 f23), ((q0 41), zi k26 1300 f26), ((q0 63), zi k39 40 (a209_ 0)), ((q0 64), zi k40 40 (a209_ 1)), ((q0 39), zi k24 1300 f24), ((q0 40), zi k25 1300 f25)]) hD hS hA [0, 1, 2, 3, 4, 5, 6] rfl
            refine va_callv (va_runV (As := [.int z218, .int x2, .int x3]) (rest := []) ⟨hx, hb, hml, hown, hG⟩ (ih dC dI adK adV h0 q0 k23 k26 k39 k40 k24 k25 H.size v0 f23 f26 (a209_ 0) (a209_ 1) f24 f25 z218 x2 x3 hv0 hf24 hf25 (show (0 : Int) ≤ (z218 : Int32).toInt ∧ (z218 : Int32).toInt ≤ (1299 : Int) from (by first | with_reducible assumption | exact ⟨by omega, by omega⟩)) (show (0 : Int) ≤ (x2 : Int32).toInt ∧ (x2 : Int32).toInt ≤ (1 : Int) from (by first | with_reducible assumption | exact ⟨by omega, by omega⟩)) (show z218.toInt < ((n : Nat) : Int) from by omega) (show zTr f23 f24 f25 f26 (v0 42).toInt (v0 47).toInt from by first | with_reducible assumption | assumption) (show z218.toInt < (v0 42).toInt from by omega)) (cwV 3 hG (zgV zv2166 zv2168 zv112 zv142 zv2169) rfl rfl rfl (by decide +kernel) ⟨(show n + 20 + 1 ≤ (n + 1) + 20 from by omega), (show 8 + (4 + 11) + (24 * n + 600) ≤ 24 * (n + 1) + 600 from by omega)⟩) ⟨zPc_blind, va_recv hKc hPc (ci := 13) (q0 := 0) rfl rfl, zPc_pre hPc hKc hDc hE hS hFc hZ⟩ rfl rfl hl.1 rfl (lv_room (Nat.le_of_ble_eq_true rfl)) dX13_note_221 ⟨Nat.le_of_ble_eq_true rfl, Nat.le_of_ble_eq_true rfl⟩) hS (fun q _ h => hFc q h) hFc (fun u221_ t H1 locs ht hvm hw hB hz1 hk1 hS => ?_)
            obtain ⟨w221_, a221_, b221_, hB221_0, hP1, hK1, hD1⟩ := hB
            have hB221_0 : zNoR f23 f24 f25 f26 ((z218 : Int32)).toNatClampNeg x2.toInt x3.toInt (a209_ 0) (a209_ 1) (a221_ 0) (a221_ 1) := hB221_0
            rw [ht] at hP1
            obtain ⟨hP, hD⟩ := va_join (wr := []) (w1 := [(h0, .inr (13, mX13 q0 v0)), ((q0 38), zi k23 1300 f23), ((q0 41), zi k26 1300 f26), ((q0 63), zi k39 40 (a221_ 0)), ((q0 64), zi k40 40 (a221_ 1)), ((q0 39), zi k24 1300 f24), ((q0 40), zi k25 1300 f25)]) hP hD [0, 1, 2, 3, 4, 5, 6] [] rfl rfl (by decide) (by decide) hk1 hFc hP1 hD1
            have hP : va_P (dC, dI) vwCl [(h0, .inr (13, mX13 q0 v0)), ((q0 38), zi k23 1300 f23), ((q0 41), zi k26 1300 f26), ((q0 63), zi k39 40 (a221_ 0)), ((q0 64), zi k40 40 (a221_ 1)), ((q0 39), zi k24 1300 f24), ((q0 40), zi k25 1300 f25)] H1 := hP.sub [0, 1, 2, 3, 4, 5, 6] rfl
            have hD : va_D A [(h0, .inr (13, mX13 q0 v0)), ((q0 38), zi k23 1300 f23), ((q0 41), zi k26 1300 f26), ((q0 63), zi k39 40 (a221_ 0)), ((q0 64), zi k40 40 (a221_ 1)), ((q0 39), zi k24 1300 f24), ((q0 40), zi k25 1300 f25)] := hD.sub [0, 1, 2, 3, 4, 5, 6] (by decide) rfl
            generalize H1 = H at hP hS ⊢
            clear hz1
            refine W.widen (k := 0) (n := 0) (by decide) (by decide) ?_
            have hpost : True := trivial
            have hP9 : va_P (dC, dI) vwCl [(h0, .inr (13, mX13 q0 v0)), ((q0 38), zi k23 1300 f23), ((q0 41), zi k26 1300 f26), ((q0 63), zi k39 40 (a221_ 0)), ((q0 64), zi k40 40 (a221_ 1)), ((q0 39), zi k24 1300 f24), ((q0 40), zi k25 1300 f25)] H := hP
            have hD9 : va_D A [(h0, .inr (13, mX13 q0 v0)), ((q0 38), zi k23 1300 f23), ((q0 41), zi k26 1300 f26), ((q0 63), zi k39 40 (a221_ 0)), ((q0 64), zi k40 40 (a221_ 1)), ((q0 39), zi k24 1300 f24), ((q0 40), zi k25 1300 f25)] := hD
            have hB0 : zNoR f23 f24 f25 f26 ((x1 : Int32)).toNatClampNeg x2.toInt x3.toInt f39 f40 (a221_ 0) (a221_ 1) := by first | exact zNoR_1 e_z5 (by omega) e_z73 e_z93 (Or.inl ⟨by omega, by decide⟩) rfl e_f_83 e_f_95 | exact zNoR_1 e_z5 (by omega) e_z73 e_z93 (Or.inr ⟨by omega, by decide⟩) rfl e_f_83 e_f_95 | exact zNoR_4 e_z5 (by omega) e_z106 (by decide) e_f_108 | exact zNoR_6 e_z5 e_z116 hB132_0 (Or.inl ⟨by omega, rfl, zf6_e (by omega)⟩) | exact zNoR_6 e_z5 e_z142 hB158_0 (Or.inr (Or.inl ⟨by omega, rfl, zf7_e (by omega)⟩)) | exact zNoR_6 e_z5 e_z168 hB171_0 (Or.inr (Or.inr ⟨by omega, by decide, rfl⟩)) | exact zNoR_2 e_z5 e_z181 hB184_0 e_z193 hB196_0 (Or.inl ⟨by omega, by decide⟩) | exact zNoR_2 e_z5 e_z206 hB209_0 e_z218 hB221_0 (Or.inr ⟨by omega, rfl⟩)
            exact W.vret hx hb hr (fun t ht hW => ⟨⟨(fun _ => 0), rfl, hpost, (fun _ => 0), (fun i => ([(a221_ 0), (a221_ 1)] : List (Nat → Int32)).getD i (fun _ => 0)), (fun _ => (fun _ => 0)), hB0, by rw [ht]; exact hP9, va_K.moved hW.alike hK, hD9⟩, hS.F ht⟩) hS.2.2 dX13_note_224
          · skip
            have b_ : z5.toInt ≠ 5 := fun h => c_ (zeqi.mpr (h.trans zk_5.symm))
            rcases Classical.em (z5 = (6 : Int32)) with c_ | c_
            · skip
              have b_ : z5.toInt = 6 := by rw [c_]; exact zk_6
              refine lv_tableIn (off := 104) (tgt := 110) hx hb dX13_note_6 (by omega) (by omega) (by rw [b_]; decide) (by decide) ?_
              refine lv_aload_n hx hb dX13_note_110 rfl (lv_at hl 0 rfl) ?_
              refine lv_aload_n hx hb dX13_note_111 rfl (lv_at hl 0 rfl) ?_
              refine va_get (D := (dC, dI)) (ci := 13) (v := .ref (q0 39)) (C := RX13) (T := TX13) (N := 75) hx hb hG zuX13 hown hK hP 0 rfl rfl 39 (by decide) (hG _ zv1643) (fun _ h9 => h9) rfl dX13_note_112 ?_
              refine lv_iload_n hx hb dX13_note_115 rfl (lv_at hl 1 rfl) ?_
              refine va_iald hx hb hK hP 5 4 rfl rfl (zin_lit ⟨by omega, by omega⟩) dX13_note_116 ?_
              refine lv_topi (fun z116 e_z116 => ?_)
              have b_ : (-1) ≤ z116.toInt ∧ z116.toInt ≤ 1299 := by rw [e_z116]; exact hf24 _
              have b_ : 0 ≤ z116.toInt ∧ z116.toInt < x1.toInt := by have q := n2 (by omega); rw [← e_z116] at q; omega
              refine lv_iload_n hx hb dX13_note_117 rfl (lv_at hl 2 rfl) ?_
              refine lv_iload_n hx hb dX13_note_118 rfl (lv_at hl 3 rfl) ?_
              have b_ : -2147483648 ≤ x3.toInt ∧ x3.toInt ≤ 2147483647 := ⟨zlo _, zhi _⟩
              refine lv_if_eq (tgt := 127) hx hb dX13_note_119 (by decide) (fun c_ => ?_) (fun c_ => ?_)
              · skip
                have b_ := zT_eq rfl zk_0 c_
                refine lv_iconst (v := 1) hx hb dX13_note_127 (by decide) ?_
                refine lv_goto (tgt := 132) hx hb dX13_note_128 (by decide) ?_
                have hPc := hP.sub (ws' := [(h0, .inr (13, mX13 q0 v0)), ((q0 38), zi k23 1300 f23), ((q0 41), zi k26 1300 f26), ((q0 63), zi k39 40 f39), ((q0 64), zi k40 40 f40), ((q0 39), zi k24 1300 f24), ((q0 40), zi k25 1300 f25)]) [0, 1, 2, 3, 4, 5, 6] rfl
                have hDc := hD.sub (ws' := [(h0, .inr (13, mX13 q0 v0)), ((q0 38), zi k23 1300 f23), ((q0 41), zi k26 1300 f26), ((q0 63), zi k39 40 f39), ((q0 64), zi k40 40 f40), ((q0 39), zi k24 1300 f24), ((q0 40), zi k25 1300 f25)]) [0, 1, 2, 3, 4, 5, 6] (by decide) rfl
                have hKc := hK.sub (tys' := [(k23, .int), (k26, .int), (k39, .boolean), (k40, .int), (k24, .int), (k25, .int)]) [0, 1, 2, 3, 4, 5] rfl
                have hFc := va_free (wc := [(h0, .inr (13, mX13 q0 v0)), ((q0 38), zi k23 1300 f23), ((q0 41), zi k26 1300 f26), ((q0 63), zi k39 40 f39), ((q0 64), zi k40 40 f40), ((q0 39), zi k24 1300 f24), ((q0 40), zi k25 1300 f25)]) hD hS hA [0, 1, 2, 3, 4, 5, 6] rfl
                refine va_callv (va_runV (As := [.int z116, .int x2, .int 1]) (rest := []) ⟨hx, hb, hml, hown, hG⟩ (ih dC dI adK adV h0 q0 k23 k26 k39 k40 k24 k25 s.heap.size v0 f23 f26 f39 f40 f24 f25 z116 x2 1 hv0 hf24 hf25 (show (0 : Int) ≤ (z116 : Int32).toInt ∧ (z116 : Int32).toInt ≤ (1299 : Int) from (by first | with_reducible assumption | exact ⟨by omega, by omega⟩)) (show (0 : Int) ≤ (x2 : Int32).toInt ∧ (x2 : Int32).toInt ≤ (1 : Int) from (by first | with_reducible assumption | exact ⟨by omega, by omega⟩)) (show z116.toInt < ((n : Nat) : Int) from by omega) (show zTr f23 f24 f25 f26 (v0 42).toInt (v0 47).toInt from by first | with_reducible assumption | assumption) (show z116.toInt < (v0 42).toInt from by omega)) (cwV 3 hG (zgV zv2166 zv2168 zv112 zv142 zv2169) rfl rfl rfl (by decide +kernel) ⟨(show n + 20 + 1 ≤ (n + 1) + 20 from by omega), (show 8 + (4 + 11) + (24 * n + 600) ≤ 24 * (n + 1) + 600 from by omega)⟩) ⟨zPc_blind, va_recv hKc hPc (ci := 13) (q0 := 0) rfl rfl, zPc_pre hPc hKc hDc hE hS hFc hZ⟩ rfl rfl hl.1 rfl (lv_room (Nat.le_of_ble_eq_true rfl)) dX13_note_132 ⟨Nat.le_of_ble_eq_true rfl, Nat.le_of_ble_eq_true rfl⟩) hS (fun q _ h => hFc q h) hFc (fun u132_ t H1 locs ht hvm hw hB hz1 hk1 hS => ?_)
                obtain ⟨w132_, a132_, b132_, hB132_0, hP1, hK1, hD1⟩ := hB
                have hB132_0 : zNoR f23 f24 f25 f26 ((z116 : Int32)).toNatClampNeg x2.toInt (1 : Int32).toInt f39 f40 (a132_ 0) (a132_ 1) := hB132_0
                rw [ht] at hP1
                obtain ⟨hP, hD⟩ := va_join (wr := []) (w1 := [(h0, .inr (13, mX13 q0 v0)), ((q0 38), zi k23 1300 f23), ((q0 41), zi k26 1300 f26), ((q0 63), zi k39 40 (a132_ 0)), ((q0 64), zi k40 40 (a132_ 1)), ((q0 39), zi k24 1300 f24), ((q0 40), zi k25 1300 f25)]) hP hD [0, 1, 2, 3, 4, 5, 6] [] rfl rfl (by decide) (by decide) hk1 hFc hP1 hD1
                have hP : va_P (dC, dI) vwCl [(h0, .inr (13, mX13 q0 v0)), ((q0 38), zi k23 1300 f23), ((q0 41), zi k26 1300 f26), ((q0 63), zi k39 40 (a132_ 0)), ((q0 64), zi k40 40 (a132_ 1)), ((q0 39), zi k24 1300 f24), ((q0 40), zi k25 1300 f25)] H1 := hP.sub [0, 1, 2, 3, 4, 5, 6] rfl
                have hD : va_D A [(h0, .inr (13, mX13 q0 v0)), ((q0 38), zi k23 1300 f23), ((q0 41), zi k26 1300 f26), ((q0 63), zi k39 40 (a132_ 0)), ((q0 64), zi k40 40 (a132_ 1)), ((q0 39), zi k24 1300 f24), ((q0 40), zi k25 1300 f25)] := hD.sub [0, 1, 2, 3, 4, 5, 6] (by decide) rfl
                generalize H1 = H at hP hS ⊢
                clear hz1
                refine W.widen (k := 0) (n := 0) (by decide) (by decide) ?_
                have hpost : True := trivial
                have hP9 : va_P (dC, dI) vwCl [(h0, .inr (13, mX13 q0 v0)), ((q0 38), zi k23 1300 f23), ((q0 41), zi k26 1300 f26), ((q0 63), zi k39 40 (a132_ 0)), ((q0 64), zi k40 40 (a132_ 1)), ((q0 39), zi k24 1300 f24), ((q0 40), zi k25 1300 f25)] H := hP
                have hD9 : va_D A [(h0, .inr (13, mX13 q0 v0)), ((q0 38), zi k23 1300 f23), ((q0 41), zi k26 1300 f26), ((q0 63), zi k39 40 (a132_ 0)), ((q0 64), zi k40 40 (a132_ 1)), ((q0 39), zi k24 1300 f24), ((q0 40), zi k25 1300 f25)] := hD
                have hB0 : zNoR f23 f24 f25 f26 ((x1 : Int32)).toNatClampNeg x2.toInt x3.toInt f39 f40 (a132_ 0) (a132_ 1) := by first | exact zNoR_1 e_z5 (by omega) e_z73 e_z93 (Or.inl ⟨by omega, by decide⟩) rfl e_f_83 e_f_95 | exact zNoR_1 e_z5 (by omega) e_z73 e_z93 (Or.inr ⟨by omega, by decide⟩) rfl e_f_83 e_f_95 | exact zNoR_4 e_z5 (by omega) e_z106 (by decide) e_f_108 | exact zNoR_6 e_z5 e_z116 hB132_0 (Or.inl ⟨by omega, rfl, zf6_e (by omega)⟩) | exact zNoR_6 e_z5 e_z142 hB158_0 (Or.inr (Or.inl ⟨by omega, rfl, zf7_e (by omega)⟩)) | exact zNoR_6 e_z5 e_z168 hB171_0 (Or.inr (Or.inr ⟨by omega, by decide, rfl⟩)) | exact zNoR_2 e_z5 e_z181 hB184_0 e_z193 hB196_0 (Or.inl ⟨by omega, by decide⟩) | exact zNoR_2 e_z5 e_z206 hB209_0 e_z218 hB221_0 (Or.inr ⟨by omega, rfl⟩)
                exact W.vret hx hb hr (fun t ht hW => ⟨⟨(fun _ => 0), rfl, hpost, (fun _ => 0), (fun i => ([(a132_ 0), (a132_ 1)] : List (Nat → Int32)).getD i (fun _ => 0)), (fun _ => (fun _ => 0)), hB0, by rw [ht]; exact hP9, va_K.moved hW.alike hK, hD9⟩, hS.F ht⟩) hS.2.2 dX13_note_135
              · skip
                have b_ := zF_eq rfl zk_0 c_
                refine lv_iload_n hx hb dX13_note_122 rfl (lv_at hl 3 rfl) ?_
                refine lv_iconst (v := 1) hx hb dX13_note_123 (by decide) ?_
                refine lv_icmp_ne (tgt := 131) hx hb dX13_note_124 (by decide) (fun c_ => ?_) (fun c_ => ?_)
                · skip
                  have b_ := zT_ne rfl zk_1 c_
                  refine lv_iconst (v := 3) hx hb dX13_note_131 (by decide) ?_
                  have hPc := hP.sub (ws' := [(h0, .inr (13, mX13 q0 v0)), ((q0 38), zi k23 1300 f23), ((q0 41), zi k26 1300 f26), ((q0 63), zi k39 40 f39), ((q0 64), zi k40 40 f40), ((q0 39), zi k24 1300 f24), ((q0 40), zi k25 1300 f25)]) [0, 1, 2, 3, 4, 5, 6] rfl
                  have hDc := hD.sub (ws' := [(h0, .inr (13, mX13 q0 v0)), ((q0 38), zi k23 1300 f23), ((q0 41), zi k26 1300 f26), ((q0 63), zi k39 40 f39), ((q0 64), zi k40 40 f40), ((q0 39), zi k24 1300 f24), ((q0 40), zi k25 1300 f25)]) [0, 1, 2, 3, 4, 5, 6] (by decide) rfl
                  have hKc := hK.sub (tys' := [(k23, .int), (k26, .int), (k39, .boolean), (k40, .int), (k24, .int), (k25, .int)]) [0, 1, 2, 3, 4, 5] rfl
                  have hFc := va_free (wc := [(h0, .inr (13, mX13 q0 v0)), ((q0 38), zi k23 1300 f23), ((q0 41), zi k26 1300 f26), ((q0 63), zi k39 40 f39), ((q0 64), zi k40 40 f40), ((q0 39), zi k24 1300 f24), ((q0 40), zi k25 1300 f25)]) hD hS hA [0, 1, 2, 3, 4, 5, 6] rfl
                  refine va_callv (va_runV (As := [.int z116, .int x2, .int 3]) (rest := []) ⟨hx, hb, hml, hown, hG⟩ (ih dC dI adK adV h0 q0 k23 k26 k39 k40 k24 k25 s.heap.size v0 f23 f26 f39 f40 f24 f25 z116 x2 3 hv0 hf24 hf25 (show (0 : Int) ≤ (z116 : Int32).toInt ∧ (z116 : Int32).toInt ≤ (1299 : Int) from (by first | with_reducible assumption | exact ⟨by omega, by omega⟩)) (show (0 : Int) ≤ (x2 : Int32).toInt ∧ (x2 : Int32).toInt ≤ (1 : Int) from (by first | with_reducible assumption | exact ⟨by omega, by omega⟩)) (show z116.toInt < ((n : Nat) : Int) from by omega) (show zTr f23 f24 f25 f26 (v0 42).toInt (v0 47).toInt from by first | with_reducible assumption | assumption) (show z116.toInt < (v0 42).toInt from by omega)) (cwV 3 hG (zgV zv2166 zv2168 zv112 zv142 zv2169) rfl rfl rfl (by decide +kernel) ⟨(show n + 20 + 1 ≤ (n + 1) + 20 from by omega), (show 8 + (4 + 11) + (24 * n + 600) ≤ 24 * (n + 1) + 600 from by omega)⟩) ⟨zPc_blind, va_recv hKc hPc (ci := 13) (q0 := 0) rfl rfl, zPc_pre hPc hKc hDc hE hS hFc hZ⟩ rfl rfl hl.1 rfl (lv_room (Nat.le_of_ble_eq_true rfl)) dX13_note_132 ⟨Nat.le_of_ble_eq_true rfl, Nat.le_of_ble_eq_true rfl⟩) hS (fun q _ h => hFc q h) hFc (fun u132_ t H1 locs ht hvm hw hB hz1 hk1 hS => ?_)
                  obtain ⟨w132_, a132_, b132_, hB132_0, hP1, hK1, hD1⟩ := hB
                  have hB132_0 : zNoR f23 f24 f25 f26 ((z116 : Int32)).toNatClampNeg x2.toInt (3 : Int32).toInt f39 f40 (a132_ 0) (a132_ 1) := hB132_0
                  rw [ht] at hP1
                  obtain ⟨hP, hD⟩ := va_join (wr := []) (w1 := [(h0, .inr (13, mX13 q0 v0)), ((q0 38), zi k23 1300 f23), ((q0 41), zi k26 1300 f26), ((q0 63), zi k39 40 (a132_ 0)), ((q0 64), zi k40 40 (a132_ 1)), ((q0 39), zi k24 1300 f24), ((q0 40), zi k25 1300 f25)]) hP hD [0, 1, 2, 3, 4, 5, 6] [] rfl rfl (by decide) (by decide) hk1 hFc hP1 hD1
                  have hP : va_P (dC, dI) vwCl [(h0, .inr (13, mX13 q0 v0)), ((q0 38), zi k23 1300 f23), ((q0 41), zi k26 1300 f26), ((q0 63), zi k39 40 (a132_ 0)), ((q0 64), zi k40 40 (a132_ 1)), ((q0 39), zi k24 1300 f24), ((q0 40), zi k25 1300 f25)] H1 := hP.sub [0, 1, 2, 3, 4, 5, 6] rfl
                  have hD : va_D A [(h0, .inr (13, mX13 q0 v0)), ((q0 38), zi k23 1300 f23), ((q0 41), zi k26 1300 f26), ((q0 63), zi k39 40 (a132_ 0)), ((q0 64), zi k40 40 (a132_ 1)), ((q0 39), zi k24 1300 f24), ((q0 40), zi k25 1300 f25)] := hD.sub [0, 1, 2, 3, 4, 5, 6] (by decide) rfl
                  generalize H1 = H at hP hS ⊢
                  clear hz1
                  refine W.widen (k := 0) (n := 0) (by decide) (by decide) ?_
                  have hpost : True := trivial
                  have hP9 : va_P (dC, dI) vwCl [(h0, .inr (13, mX13 q0 v0)), ((q0 38), zi k23 1300 f23), ((q0 41), zi k26 1300 f26), ((q0 63), zi k39 40 (a132_ 0)), ((q0 64), zi k40 40 (a132_ 1)), ((q0 39), zi k24 1300 f24), ((q0 40), zi k25 1300 f25)] H := hP
                  have hD9 : va_D A [(h0, .inr (13, mX13 q0 v0)), ((q0 38), zi k23 1300 f23), ((q0 41), zi k26 1300 f26), ((q0 63), zi k39 40 (a132_ 0)), ((q0 64), zi k40 40 (a132_ 1)), ((q0 39), zi k24 1300 f24), ((q0 40), zi k25 1300 f25)] := hD
                  have hB0 : zNoR f23 f24 f25 f26 ((x1 : Int32)).toNatClampNeg x2.toInt x3.toInt f39 f40 (a132_ 0) (a132_ 1) := by first | exact zNoR_1 e_z5 (by omega) e_z73 e_z93 (Or.inl ⟨by omega, by decide⟩) rfl e_f_83 e_f_95 | exact zNoR_1 e_z5 (by omega) e_z73 e_z93 (Or.inr ⟨by omega, by decide⟩) rfl e_f_83 e_f_95 | exact zNoR_4 e_z5 (by omega) e_z106 (by decide) e_f_108 | exact zNoR_6 e_z5 e_z116 hB132_0 (Or.inl ⟨by omega, rfl, zf6_e (by omega)⟩) | exact zNoR_6 e_z5 e_z142 hB158_0 (Or.inr (Or.inl ⟨by omega, rfl, zf7_e (by omega)⟩)) | exact zNoR_6 e_z5 e_z168 hB171_0 (Or.inr (Or.inr ⟨by omega, by decide, rfl⟩)) | exact zNoR_2 e_z5 e_z181 hB184_0 e_z193 hB196_0 (Or.inl ⟨by omega, by decide⟩) | exact zNoR_2 e_z5 e_z206 hB209_0 e_z218 hB221_0 (Or.inr ⟨by omega, rfl⟩)
                  exact W.vret hx hb hr (fun t ht hW => ⟨⟨(fun _ => 0), rfl, hpost, (fun _ => 0), (fun i => ([(a132_ 0), (a132_ 1)] : List (Nat → Int32)).getD i (fun _ => 0)), (fun _ => (fun _ => 0)), hB0, by rw [ht]; exact hP9, va_K.moved hW.alike hK, hD9⟩, hS.F ht⟩) hS.2.2 dX13_note_135
                · skip
                  have b_ := zF_ne rfl zk_1 c_
                  refine lv_iconst (v := 1) hx hb dX13_note_127 (by decide) ?_
                  refine lv_goto (tgt := 132) hx hb dX13_note_128 (by decide) ?_
                  have hPc := hP.sub (ws' := [(h0, .inr (13, mX13 q0 v0)), ((q0 38), zi k23 1300 f23), ((q0 41), zi k26 1300 f26), ((q0 63), zi k39 40 f39), ((q0 64), zi k40 40 f40), ((q0 39), zi k24 1300 f24), ((q0 40), zi k25 1300 f25)]) [0, 1, 2, 3, 4, 5, 6] rfl
                  have hDc := hD.sub (ws' := [(h0, .inr (13, mX13 q0 v0)), ((q0 38), zi k23 1300 f23), ((q0 41), zi k26 1300 f26), ((q0 63), zi k39 40 f39), ((q0 64), zi k40 40 f40), ((q0 39), zi k24 1300 f24), ((q0 40), zi k25 1300 f25)]) [0, 1, 2, 3, 4, 5, 6] (by decide) rfl
                  have hKc := hK.sub (tys' := [(k23, .int), (k26, .int), (k39, .boolean), (k40, .int), (k24, .int), (k25, .int)]) [0, 1, 2, 3, 4, 5] rfl
                  have hFc := va_free (wc := [(h0, .inr (13, mX13 q0 v0)), ((q0 38), zi k23 1300 f23), ((q0 41), zi k26 1300 f26), ((q0 63), zi k39 40 f39), ((q0 64), zi k40 40 f40), ((q0 39), zi k24 1300 f24), ((q0 40), zi k25 1300 f25)]) hD hS hA [0, 1, 2, 3, 4, 5, 6] rfl
                  refine va_callv (va_runV (As := [.int z116, .int x2, .int 1]) (rest := []) ⟨hx, hb, hml, hown, hG⟩ (ih dC dI adK adV h0 q0 k23 k26 k39 k40 k24 k25 s.heap.size v0 f23 f26 f39 f40 f24 f25 z116 x2 1 hv0 hf24 hf25 (show (0 : Int) ≤ (z116 : Int32).toInt ∧ (z116 : Int32).toInt ≤ (1299 : Int) from (by first | with_reducible assumption | exact ⟨by omega, by omega⟩)) (show (0 : Int) ≤ (x2 : Int32).toInt ∧ (x2 : Int32).toInt ≤ (1 : Int) from (by first | with_reducible assumption | exact ⟨by omega, by omega⟩)) (show z116.toInt < ((n : Nat) : Int) from by omega) (show zTr f23 f24 f25 f26 (v0 42).toInt (v0 47).toInt from by first | with_reducible assumption | assumption) (show z116.toInt < (v0 42).toInt from by omega)) (cwV 3 hG (zgV zv2166 zv2168 zv112 zv142 zv2169) rfl rfl rfl (by decide +kernel) ⟨(show n + 20 + 1 ≤ (n + 1) + 20 from by omega), (show 8 + (4 + 11) + (24 * n + 600) ≤ 24 * (n + 1) + 600 from by omega)⟩) ⟨zPc_blind, va_recv hKc hPc (ci := 13) (q0 := 0) rfl rfl, zPc_pre hPc hKc hDc hE hS hFc hZ⟩ rfl rfl hl.1 rfl (lv_room (Nat.le_of_ble_eq_true rfl)) dX13_note_132 ⟨Nat.le_of_ble_eq_true rfl, Nat.le_of_ble_eq_true rfl⟩) hS (fun q _ h => hFc q h) hFc (fun u132_ t H1 locs ht hvm hw hB hz1 hk1 hS => ?_)
                  obtain ⟨w132_, a132_, b132_, hB132_0, hP1, hK1, hD1⟩ := hB
                  have hB132_0 : zNoR f23 f24 f25 f26 ((z116 : Int32)).toNatClampNeg x2.toInt (1 : Int32).toInt f39 f40 (a132_ 0) (a132_ 1) := hB132_0
                  rw [ht] at hP1
                  obtain ⟨hP, hD⟩ := va_join (wr := []) (w1 := [(h0, .inr (13, mX13 q0 v0)), ((q0 38), zi k23 1300 f23), ((q0 41), zi k26 1300 f26), ((q0 63), zi k39 40 (a132_ 0)), ((q0 64), zi k40 40 (a132_ 1)), ((q0 39), zi k24 1300 f24), ((q0 40), zi k25 1300 f25)]) hP hD [0, 1, 2, 3, 4, 5, 6] [] rfl rfl (by decide) (by decide) hk1 hFc hP1 hD1
                  have hP : va_P (dC, dI) vwCl [(h0, .inr (13, mX13 q0 v0)), ((q0 38), zi k23 1300 f23), ((q0 41), zi k26 1300 f26), ((q0 63), zi k39 40 (a132_ 0)), ((q0 64), zi k40 40 (a132_ 1)), ((q0 39), zi k24 1300 f24), ((q0 40), zi k25 1300 f25)] H1 := hP.sub [0, 1, 2, 3, 4, 5, 6] rfl
                  have hD : va_D A [(h0, .inr (13, mX13 q0 v0)), ((q0 38), zi k23 1300 f23), ((q0 41), zi k26 1300 f26), ((q0 63), zi k39 40 (a132_ 0)), ((q0 64), zi k40 40 (a132_ 1)), ((q0 39), zi k24 1300 f24), ((q0 40), zi k25 1300 f25)] := hD.sub [0, 1, 2, 3, 4, 5, 6] (by decide) rfl
                  generalize H1 = H at hP hS ⊢
                  clear hz1
                  refine W.widen (k := 0) (n := 0) (by decide) (by decide) ?_
                  have hpost : True := trivial
                  have hP9 : va_P (dC, dI) vwCl [(h0, .inr (13, mX13 q0 v0)), ((q0 38), zi k23 1300 f23), ((q0 41), zi k26 1300 f26), ((q0 63), zi k39 40 (a132_ 0)), ((q0 64), zi k40 40 (a132_ 1)), ((q0 39), zi k24 1300 f24), ((q0 40), zi k25 1300 f25)] H := hP
                  have hD9 : va_D A [(h0, .inr (13, mX13 q0 v0)), ((q0 38), zi k23 1300 f23), ((q0 41), zi k26 1300 f26), ((q0 63), zi k39 40 (a132_ 0)), ((q0 64), zi k40 40 (a132_ 1)), ((q0 39), zi k24 1300 f24), ((q0 40), zi k25 1300 f25)] := hD
                  have hB0 : zNoR f23 f24 f25 f26 ((x1 : Int32)).toNatClampNeg x2.toInt x3.toInt f39 f40 (a132_ 0) (a132_ 1) := by first | exact zNoR_1 e_z5 (by omega) e_z73 e_z93 (Or.inl ⟨by omega, by decide⟩) rfl e_f_83 e_f_95 | exact zNoR_1 e_z5 (by omega) e_z73 e_z93 (Or.inr ⟨by omega, by decide⟩) rfl e_f_83 e_f_95 | exact zNoR_4 e_z5 (by omega) e_z106 (by decide) e_f_108 | exact zNoR_6 e_z5 e_z116 hB132_0 (Or.inl ⟨by omega, rfl, zf6_e (by omega)⟩) | exact zNoR_6 e_z5 e_z142 hB158_0 (Or.inr (Or.inl ⟨by omega, rfl, zf7_e (by omega)⟩)) | exact zNoR_6 e_z5 e_z168 hB171_0 (Or.inr (Or.inr ⟨by omega, by decide, rfl⟩)) | exact zNoR_2 e_z5 e_z181 hB184_0 e_z193 hB196_0 (Or.inl ⟨by omega, by decide⟩) | exact zNoR_2 e_z5 e_z206 hB209_0 e_z218 hB221_0 (Or.inr ⟨by omega, rfl⟩)
                  exact W.vret hx hb hr (fun t ht hW => ⟨⟨(fun _ => 0), rfl, hpost, (fun _ => 0), (fun i => ([(a132_ 0), (a132_ 1)] : List (Nat → Int32)).getD i (fun _ => 0)), (fun _ => (fun _ => 0)), hB0, by rw [ht]; exact hP9, va_K.moved hW.alike hK, hD9⟩, hS.F ht⟩) hS.2.2 dX13_note_135
            · skip
              have b_ : z5.toInt ≠ 6 := fun h => c_ (zeqi.mpr (h.trans zk_6.symm))
              rcases Classical.em (z5 = (7 : Int32)) with c_ | c_
              · skip
                have b_ : z5.toInt = 7 := by rw [c_]; exact zk_7
                refine lv_tableIn (off := 130) (tgt := 136) hx hb dX13_note_6 (by omega) (by omega) (by rw [b_]; decide) (by decide) ?_
                refine lv_aload_n hx hb dX13_note_136 rfl (lv_at hl 0 rfl) ?_
                refine lv_aload_n hx hb dX13_note_137 rfl (lv_at hl 0 rfl) ?_
                refine va_get (D := (dC, dI)) (ci := 13) (v := .ref (q0 39)) (C := RX13) (T := TX13) (N := 75) hx hb hG zuX13 hown hK hP 0 rfl rfl 39 (by decide) (hG _ zv1643) (fun _ h9 => h9) rfl dX13_note_138 ?_
                refine lv_iload_n hx hb dX13_note_141 rfl (lv_at hl 1 rfl) ?_
                refine va_iald hx hb hK hP 5 4 rfl rfl (zin_lit ⟨by omega, by omega⟩) dX13_note_142 ?_
                refine lv_topi (fun z142 e_z142 => ?_)
                have b_ : (-1) ≤ z142.toInt ∧ z142.toInt ≤ 1299 := by rw [e_z142]; exact hf24 _
                have b_ : 0 ≤ z142.toInt ∧ z142.toInt < x1.toInt := by have q := n2 (by omega); rw [← e_z142] at q; omega
                refine lv_iload_n hx hb dX13_note_143 rfl (lv_at hl 2 rfl) ?_
                refine lv_iload_n hx hb dX13_note_144 rfl (lv_at hl 3 rfl) ?_
                have b_ : -2147483648 ≤ x3.toInt ∧ x3.toInt ≤ 2147483647 := ⟨zlo _, zhi _⟩
                refine lv_if_eq (tgt := 153) hx hb dX13_note_145 (by decide) (fun c_ => ?_) (fun c_ => ?_)
                · skip
                  have b_ := zT_eq rfl zk_0 c_
                  refine lv_iconst (v := 2) hx hb dX13_note_153 (by decide) ?_
                  refine lv_goto (tgt := 158) hx hb dX13_note_154 (by decide) ?_
                  have hPc := hP.sub (ws' := [(h0, .inr (13, mX13 q0 v0)), ((q0 38), zi k23 1300 f23), ((q0 41), zi k26 1300 f26), ((q0 63), zi k39 40 f39), ((q0 64), zi k40 40 f40), ((q0 39), zi k24 1300 f24), ((q0 40), zi k25 1300 f25)]) [0, 1, 2, 3, 4, 5, 6] rfl
                  have hDc := hD.sub (ws' := [(h0, .inr (13, mX13 q0 v0)), ((q0 38), zi k23 1300 f23), ((q0 41), zi k26 1300 f26), ((q0 63), zi k39 40 f39), ((q0 64), zi k40 40 f40), ((q0 39), zi k24 1300 f24), ((q0 40), zi k25 1300 f25)]) [0, 1, 2, 3, 4, 5, 6] (by decide) rfl
                  have hKc := hK.sub (tys' := [(k23, .int), (k26, .int), (k39, .boolean), (k40, .int), (k24, .int), (k25, .int)]) [0, 1, 2, 3, 4, 5] rfl
                  have hFc := va_free (wc := [(h0, .inr (13, mX13 q0 v0)), ((q0 38), zi k23 1300 f23), ((q0 41), zi k26 1300 f26), ((q0 63), zi k39 40 f39), ((q0 64), zi k40 40 f40), ((q0 39), zi k24 1300 f24), ((q0 40), zi k25 1300 f25)]) hD hS hA [0, 1, 2, 3, 4, 5, 6] rfl
                  refine va_callv (va_runV (As := [.int z142, .int x2, .int 2]) (rest := []) ⟨hx, hb, hml, hown, hG⟩ (ih dC dI adK adV h0 q0 k23 k26 k39 k40 k24 k25 s.heap.size v0 f23 f26 f39 f40 f24 f25 z142 x2 2 hv0 hf24 hf25 (show (0 : Int) ≤ (z142 : Int32).toInt ∧ (z142 : Int32).toInt ≤ (1299 : Int) from (by first | with_reducible assumption | exact ⟨by omega, by omega⟩)) (show (0 : Int) ≤ (x2 : Int32).toInt ∧ (x2 : Int32).toInt ≤ (1 : Int) from (by first | with_reducible assumption | exact ⟨by omega, by omega⟩)) (show z142.toInt < ((n : Nat) : Int) from by omega) (show zTr f23 f24 f25 f26 (v0 42).toInt (v0 47).toInt from by first | with_reducible assumption | assumption) (show z142.toInt < (v0 42).toInt from by omega)) (cwV 3 hG (zgV zv2166 zv2168 zv112 zv142 zv2169) rfl rfl rfl (by decide +kernel) ⟨(show n + 20 + 1 ≤ (n + 1) + 20 from by omega), (show 8 + (4 + 11) + (24 * n + 600) ≤ 24 * (n + 1) + 600 from by omega)⟩) ⟨zPc_blind, va_recv hKc hPc (ci := 13) (q0 := 0) rfl rfl, zPc_pre hPc hKc hDc hE hS hFc hZ⟩ rfl rfl hl.1 rfl (lv_room (Nat.le_of_ble_eq_true rfl)) dX13_note_158 ⟨Nat.le_of_ble_eq_true rfl, Nat.le_of_ble_eq_true rfl⟩) hS (fun q _ h => hFc q h) hFc (fun u158_ t H1 locs ht hvm hw hB hz1 hk1 hS => ?_)
                  obtain ⟨w158_, a158_, b158_, hB158_0, hP1, hK1, hD1⟩ := hB
                  have hB158_0 : zNoR f23 f24 f25 f26 ((z142 : Int32)).toNatClampNeg x2.toInt (2 : Int32).toInt f39 f40 (a158_ 0) (a158_ 1) := hB158_0
                  rw [ht] at hP1
                  obtain ⟨hP, hD⟩ := va_join (wr := []) (w1 := [(h0, .inr (13, mX13 q0 v0)), ((q0 38), zi k23 1300 f23), ((q0 41), zi k26 1300 f26), ((q0 63), zi k39 40 (a158_ 0)), ((q0 64), zi k40 40 (a158_ 1)), ((q0 39), zi k24 1300 f24), ((q0 40), zi k25 1300 f25)]) hP hD [0, 1, 2, 3, 4, 5, 6] [] rfl rfl (by decide) (by decide) hk1 hFc hP1 hD1
                  have hP : va_P (dC, dI) vwCl [(h0, .inr (13, mX13 q0 v0)), ((q0 38), zi k23 1300 f23), ((q0 41), zi k26 1300 f26), ((q0 63), zi k39 40 (a158_ 0)), ((q0 64), zi k40 40 (a158_ 1)), ((q0 39), zi k24 1300 f24), ((q0 40), zi k25 1300 f25)] H1 := hP.sub [0, 1, 2, 3, 4, 5, 6] rfl
                  have hD : va_D A [(h0, .inr (13, mX13 q0 v0)), ((q0 38), zi k23 1300 f23), ((q0 41), zi k26 1300 f26), ((q0 63), zi k39 40 (a158_ 0)), ((q0 64), zi k40 40 (a158_ 1)), ((q0 39), zi k24 1300 f24), ((q0 40), zi k25 1300 f25)] := hD.sub [0, 1, 2, 3, 4, 5, 6] (by decide) rfl
                  generalize H1 = H at hP hS ⊢
                  clear hz1
                  refine W.widen (k := 0) (n := 0) (by decide) (by decide) ?_
                  have hpost : True := trivial
                  have hP9 : va_P (dC, dI) vwCl [(h0, .inr (13, mX13 q0 v0)), ((q0 38), zi k23 1300 f23), ((q0 41), zi k26 1300 f26), ((q0 63), zi k39 40 (a158_ 0)), ((q0 64), zi k40 40 (a158_ 1)), ((q0 39), zi k24 1300 f24), ((q0 40), zi k25 1300 f25)] H := hP
                  have hD9 : va_D A [(h0, .inr (13, mX13 q0 v0)), ((q0 38), zi k23 1300 f23), ((q0 41), zi k26 1300 f26), ((q0 63), zi k39 40 (a158_ 0)), ((q0 64), zi k40 40 (a158_ 1)), ((q0 39), zi k24 1300 f24), ((q0 40), zi k25 1300 f25)] := hD
                  have hB0 : zNoR f23 f24 f25 f26 ((x1 : Int32)).toNatClampNeg x2.toInt x3.toInt f39 f40 (a158_ 0) (a158_ 1) := by first | exact zNoR_1 e_z5 (by omega) e_z73 e_z93 (Or.inl ⟨by omega, by decide⟩) rfl e_f_83 e_f_95 | exact zNoR_1 e_z5 (by omega) e_z73 e_z93 (Or.inr ⟨by omega, by decide⟩) rfl e_f_83 e_f_95 | exact zNoR_4 e_z5 (by omega) e_z106 (by decide) e_f_108 | exact zNoR_6 e_z5 e_z116 hB132_0 (Or.inl ⟨by omega, rfl, zf6_e (by omega)⟩) | exact zNoR_6 e_z5 e_z142 hB158_0 (Or.inr (Or.inl ⟨by omega, rfl, zf7_e (by omega)⟩)) | exact zNoR_6 e_z5 e_z168 hB171_0 (Or.inr (Or.inr ⟨by omega, by decide, rfl⟩)) | exact zNoR_2 e_z5 e_z181 hB184_0 e_z193 hB196_0 (Or.inl ⟨by omega, by decide⟩) | exact zNoR_2 e_z5 e_z206 hB209_0 e_z218 hB221_0 (Or.inr ⟨by omega, rfl⟩)
                  exact W.vret hx hb hr (fun t ht hW => ⟨⟨(fun _ => 0), rfl, hpost, (fun _ => 0), (fun i => ([(a158_ 0), (a158_ 1)] : List (Nat → Int32)).getD i (fun _ => 0)), (fun _ => (fun _ => 0)), hB0, by rw [ht]; exact hP9, va_K.moved hW.alike hK, hD9⟩, hS.F ht⟩) hS.2.2 dX13_note_161
                · skip
                  have b_ := zF_eq rfl zk_0 c_
                  refine lv_iload_n hx hb dX13_note_148 rfl (lv_at hl 3 rfl) ?_
                  refine lv_iconst (v := 2) hx hb dX13_note_149 (by decide) ?_
                  refine lv_icmp_ne (tgt := 157) hx hb dX13_note_150 (by decide) (fun c_ => ?_) (fun c_ => ?_)
                  · skip
                    have b_ := zT_ne rfl zk_2 c_
                    refine lv_iconst (v := 3) hx hb dX13_note_157 (by decide) ?_
                    have hPc := hP.sub (ws' := [(h0, .inr (13, mX13 q0 v0)), ((q0 38), zi k23 1300 f23), ((q0 41), zi k26 1300 f26), ((q0 63), zi k39 40 f39), ((q0 64), zi k40 40 f40), ((q0 39), zi k24 1300 f24), ((q0 40), zi k25 1300 f25)]) [0, 1, 2, 3, 4, 5, 6] rfl
                    have hDc := hD.sub (ws' := [(h0, .inr (13, mX13 q0 v0)), ((q0 38), zi k23 1300 f23), ((q0 41), zi k26 1300 f26), ((q0 63), zi k39 40 f39), ((q0 64), zi k40 40 f40), ((q0 39), zi k24 1300 f24), ((q0 40), zi k25 1300 f25)]) [0, 1, 2, 3, 4, 5, 6] (by decide) rfl
                    have hKc := hK.sub (tys' := [(k23, .int), (k26, .int), (k39, .boolean), (k40, .int), (k24, .int), (k25, .int)]) [0, 1, 2, 3, 4, 5] rfl
                    have hFc := va_free (wc := [(h0, .inr (13, mX13 q0 v0)), ((q0 38), zi k23 1300 f23), ((q0 41), zi k26 1300 f26), ((q0 63), zi k39 40 f39), ((q0 64), zi k40 40 f40), ((q0 39), zi k24 1300 f24), ((q0 40), zi k25 1300 f25)]) hD hS hA [0, 1, 2, 3, 4, 5, 6] rfl
                    refine va_callv (va_runV (As := [.int z142, .int x2, .int 3]) (rest := []) ⟨hx, hb, hml, hown, hG⟩ (ih dC dI adK adV h0 q0 k23 k26 k39 k40 k24 k25 s.heap.size v0 f23 f26 f39 f40 f24 f25 z142 x2 3 hv0 hf24 hf25 (show (0 : Int) ≤ (z142 : Int32).toInt ∧ (z142 : Int32).toInt ≤ (1299 : Int) from (by first | with_reducible assumption | exact ⟨by omega, by omega⟩)) (show (0 : Int) ≤ (x2 : Int32).toInt ∧ (x2 : Int32).toInt ≤ (1 : Int) from (by first | with_reducible assumption | exact ⟨by omega, by omega⟩)) (show z142.toInt < ((n : Nat) : Int) from by omega) (show zTr f23 f24 f25 f26 (v0 42).toInt (v0 47).toInt from by first | with_reducible assumption | assumption) (show z142.toInt < (v0 42).toInt from by omega)) (cwV 3 hG (zgV zv2166 zv2168 zv112 zv142 zv2169) rfl rfl rfl (by decide +kernel) ⟨(show n + 20 + 1 ≤ (n + 1) + 20 from by omega), (show 8 + (4 + 11) + (24 * n + 600) ≤ 24 * (n + 1) + 600 from by omega)⟩) ⟨zPc_blind, va_recv hKc hPc (ci := 13) (q0 := 0) rfl rfl, zPc_pre hPc hKc hDc hE hS hFc hZ⟩ rfl rfl hl.1 rfl (lv_room (Nat.le_of_ble_eq_true rfl)) dX13_note_158 ⟨Nat.le_of_ble_eq_true rfl, Nat.le_of_ble_eq_true rfl⟩) hS (fun q _ h => hFc q h) hFc (fun u158_ t H1 locs ht hvm hw hB hz1 hk1 hS => ?_)
                    obtain ⟨w158_, a158_, b158_, hB158_0, hP1, hK1, hD1⟩ := hB
                    have hB158_0 : zNoR f23 f24 f25 f26 ((z142 : Int32)).toNatClampNeg x2.toInt (3 : Int32).toInt f39 f40 (a158_ 0) (a158_ 1) := hB158_0
                    rw [ht] at hP1
                    obtain ⟨hP, hD⟩ := va_join (wr := []) (w1 := [(h0, .inr (13, mX13 q0 v0)), ((q0 38), zi k23 1300 f23), ((q0 41), zi k26 1300 f26), ((q0 63), zi k39 40 (a158_ 0)), ((q0 64), zi k40 40 (a158_ 1)), ((q0 39), zi k24 1300 f24), ((q0 40), zi k25 1300 f25)]) hP hD [0, 1, 2, 3, 4, 5, 6] [] rfl rfl (by decide) (by decide) hk1 hFc hP1 hD1
                    have hP : va_P (dC, dI) vwCl [(h0, .inr (13, mX13 q0 v0)), ((q0 38), zi k23 1300 f23), ((q0 41), zi k26 1300 f26), ((q0 63), zi k39 40 (a158_ 0)), ((q0 64), zi k40 40 (a158_ 1)), ((q0 39), zi k24 1300 f24), ((q0 40), zi k25 1300 f25)] H1 := hP.sub [0, 1, 2, 3, 4, 5, 6] rfl
                    have hD : va_D A [(h0, .inr (13, mX13 q0 v0)), ((q0 38), zi k23 1300 f23), ((q0 41), zi k26 1300 f26), ((q0 63), zi k39 40 (a158_ 0)), ((q0 64), zi k40 40 (a158_ 1)), ((q0 39), zi k24 1300 f24), ((q0 40), zi k25 1300 f25)] := hD.sub [0, 1, 2, 3, 4, 5, 6] (by decide) rfl
                    generalize H1 = H at hP hS ⊢
                    clear hz1
                    refine W.widen (k := 0) (n := 0) (by decide) (by decide) ?_
                    have hpost : True := trivial
                    have hP9 : va_P (dC, dI) vwCl [(h0, .inr (13, mX13 q0 v0)), ((q0 38), zi k23 1300 f23), ((q0 41), zi k26 1300 f26), ((q0 63), zi k39 40 (a158_ 0)), ((q0 64), zi k40 40 (a158_ 1)), ((q0 39), zi k24 1300 f24), ((q0 40), zi k25 1300 f25)] H := hP
                    have hD9 : va_D A [(h0, .inr (13, mX13 q0 v0)), ((q0 38), zi k23 1300 f23), ((q0 41), zi k26 1300 f26), ((q0 63), zi k39 40 (a158_ 0)), ((q0 64), zi k40 40 (a158_ 1)), ((q0 39), zi k24 1300 f24), ((q0 40), zi k25 1300 f25)] := hD
                    have hB0 : zNoR f23 f24 f25 f26 ((x1 : Int32)).toNatClampNeg x2.toInt x3.toInt f39 f40 (a158_ 0) (a158_ 1) := by first | exact zNoR_1 e_z5 (by omega) e_z73 e_z93 (Or.inl ⟨by omega, by decide⟩) rfl e_f_83 e_f_95 | exact zNoR_1 e_z5 (by omega) e_z73 e_z93 (Or.inr ⟨by omega, by decide⟩) rfl e_f_83 e_f_95 | exact zNoR_4 e_z5 (by omega) e_z106 (by decide) e_f_108 | exact zNoR_6 e_z5 e_z116 hB132_0 (Or.inl ⟨by omega, rfl, zf6_e (by omega)⟩) | exact zNoR_6 e_z5 e_z142 hB158_0 (Or.inr (Or.inl ⟨by omega, rfl, zf7_e (by omega)⟩)) | exact zNoR_6 e_z5 e_z168 hB171_0 (Or.inr (Or.inr ⟨by omega, by decide, rfl⟩)) | exact zNoR_2 e_z5 e_z181 hB184_0 e_z193 hB196_0 (Or.inl ⟨by omega, by decide⟩) | exact zNoR_2 e_z5 e_z206 hB209_0 e_z218 hB221_0 (Or.inr ⟨by omega, rfl⟩)
                    exact W.vret hx hb hr (fun t ht hW => ⟨⟨(fun _ => 0), rfl, hpost, (fun _ => 0), (fun i => ([(a158_ 0), (a158_ 1)] : List (Nat → Int32)).getD i (fun _ => 0)), (fun _ => (fun _ => 0)), hB0, by rw [ht]; exact hP9, va_K.moved hW.alike hK, hD9⟩, hS.F ht⟩) hS.2.2 dX13_note_161
                  · skip
                    have b_ := zF_ne rfl zk_2 c_
                    refine lv_iconst (v := 2) hx hb dX13_note_153 (by decide) ?_
                    refine lv_goto (tgt := 158) hx hb dX13_note_154 (by decide) ?_
                    have hPc := hP.sub (ws' := [(h0, .inr (13, mX13 q0 v0)), ((q0 38), zi k23 1300 f23), ((q0 41), zi k26 1300 f26), ((q0 63), zi k39 40 f39), ((q0 64), zi k40 40 f40), ((q0 39), zi k24 1300 f24), ((q0 40), zi k25 1300 f25)]) [0, 1, 2, 3, 4, 5, 6] rfl
                    have hDc := hD.sub (ws' := [(h0, .inr (13, mX13 q0 v0)), ((q0 38), zi k23 1300 f23), ((q0 41), zi k26 1300 f26), ((q0 63), zi k39 40 f39), ((q0 64), zi k40 40 f40), ((q0 39), zi k24 1300 f24), ((q0 40), zi k25 1300 f25)]) [0, 1, 2, 3, 4, 5, 6] (by decide) rfl
                    have hKc := hK.sub (tys' := [(k23, .int), (k26, .int), (k39, .boolean), (k40, .int), (k24, .int), (k25, .int)]) [0, 1, 2, 3, 4, 5] rfl
                    have hFc := va_free (wc := [(h0, .inr (13, mX13 q0 v0)), ((q0 38), zi k23 1300 f23), ((q0 41), zi k26 1300 f26), ((q0 63), zi k39 40 f39), ((q0 64), zi k40 40 f40), ((q0 39), zi k24 1300 f24), ((q0 40), zi k25 1300 f25)]) hD hS hA [0, 1, 2, 3, 4, 5, 6] rfl
                    refine va_callv (va_runV (As := [.int z142, .int x2, .int 2]) (rest := []) ⟨hx, hb, hml, hown, hG⟩ (ih dC dI adK adV h0 q0 k23 k26 k39 k40 k24 k25 s.heap.size v0 f23 f26 f39 f40 f24 f25 z142 x2 2 hv0 hf24 hf25 (show (0 : Int) ≤ (z142 : Int32).toInt ∧ (z142 : Int32).toInt ≤ (1299 : Int) from (by first | with_reducible assumption | exact ⟨by omega, by omega⟩)) (show (0 : Int) ≤ (x2 : Int32).toInt ∧ (x2 : Int32).toInt ≤ (1 : Int) from (by first | with_reducible assumption | exact ⟨by omega, by omega⟩)) (show z142.toInt < ((n : Nat) : Int) from by omega) (show zTr f23 f24 f25 f26 (v0 42).toInt (v0 47).toInt from by first | with_reducible assumption | assumption) (show z142.toInt < (v0 42).toInt from by omega)) (cwV 3 hG (zgV zv2166 zv2168 zv112 zv142 zv2169) rfl rfl rfl (by decide +kernel) ⟨(show n + 20 + 1 ≤ (n + 1) + 20 from by omega), (show 8 + (4 + 11) + (24 * n + 600) ≤ 24 * (n + 1) + 600 from by omega)⟩) ⟨zPc_blind, va_recv hKc hPc (ci := 13) (q0 := 0) rfl rfl, zPc_pre hPc hKc hDc hE hS hFc hZ⟩ rfl rfl hl.1 rfl (lv_room (Nat.le_of_ble_eq_true rfl)) dX13_note_158 ⟨Nat.le_of_ble_eq_true rfl, Nat.le_of_ble_eq_true rfl⟩) hS (fun q _ h => hFc q h) hFc (fun u158_ t H1 locs ht hvm hw hB hz1 hk1 hS => ?_)
                    obtain ⟨w158_, a158_, b158_, hB158_0, hP1, hK1, hD1⟩ := hB
                    have hB158_0 : zNoR f23 f24 f25 f26 ((z142 : Int32)).toNatClampNeg x2.toInt (2 : Int32).toInt f39 f40 (a158_ 0) (a158_ 1) := hB158_0
                    rw [ht] at hP1
                    obtain ⟨hP, hD⟩ := va_join (wr := []) (w1 := [(h0, .inr (13, mX13 q0 v0)), ((q0 38), zi k23 1300 f23), ((q0 41), zi k26 1300 f26), ((q0 63), zi k39 40 (a158_ 0)), ((q0 64), zi k40 40 (a158_ 1)), ((q0 39), zi k24 1300 f24), ((q0 40), zi k25 1300 f25)]) hP hD [0, 1, 2, 3, 4, 5, 6] [] rfl rfl (by decide) (by decide) hk1 hFc hP1 hD1
                    have hP : va_P (dC, dI) vwCl [(h0, .inr (13, mX13 q0 v0)), ((q0 38), zi k23 1300 f23), ((q0 41), zi k26 1300 f26), ((q0 63), zi k39 40 (a158_ 0)), ((q0 64), zi k40 40 (a158_ 1)), ((q0 39), zi k24 1300 f24), ((q0 40), zi k25 1300 f25)] H1 := hP.sub [0, 1, 2, 3, 4, 5, 6] rfl
                    have hD : va_D A [(h0, .inr (13, mX13 q0 v0)), ((q0 38), zi k23 1300 f23), ((q0 41), zi k26 1300 f26), ((q0 63), zi k39 40 (a158_ 0)), ((q0 64), zi k40 40 (a158_ 1)), ((q0 39), zi k24 1300 f24), ((q0 40), zi k25 1300 f25)] := hD.sub [0, 1, 2, 3, 4, 5, 6] (by decide) rfl
                    generalize H1 = H at hP hS ⊢
                    clear hz1
                    refine W.widen (k := 0) (n := 0) (by decide) (by decide) ?_
                    have hpost : True := trivial
                    have hP9 : va_P (dC, dI) vwCl [(h0, .inr (13, mX13 q0 v0)), ((q0 38), zi k23 1300 f23), ((q0 41), zi k26 1300 f26), ((q0 63), zi k39 40 (a158_ 0)), ((q0 64), zi k40 40 (a158_ 1)), ((q0 39), zi k24 1300 f24), ((q0 40), zi k25 1300 f25)] H := hP
                    have hD9 : va_D A [(h0, .inr (13, mX13 q0 v0)), ((q0 38), zi k23 1300 f23), ((q0 41), zi k26 1300 f26), ((q0 63), zi k39 40 (a158_ 0)), ((q0 64), zi k40 40 (a158_ 1)), ((q0 39), zi k24 1300 f24), ((q0 40), zi k25 1300 f25)] := hD
                    have hB0 : zNoR f23 f24 f25 f26 ((x1 : Int32)).toNatClampNeg x2.toInt x3.toInt f39 f40 (a158_ 0) (a158_ 1) := by first | exact zNoR_1 e_z5 (by omega) e_z73 e_z93 (Or.inl ⟨by omega, by decide⟩) rfl e_f_83 e_f_95 | exact zNoR_1 e_z5 (by omega) e_z73 e_z93 (Or.inr ⟨by omega, by decide⟩) rfl e_f_83 e_f_95 | exact zNoR_4 e_z5 (by omega) e_z106 (by decide) e_f_108 | exact zNoR_6 e_z5 e_z116 hB132_0 (Or.inl ⟨by omega, rfl, zf6_e (by omega)⟩) | exact zNoR_6 e_z5 e_z142 hB158_0 (Or.inr (Or.inl ⟨by omega, rfl, zf7_e (by omega)⟩)) | exact zNoR_6 e_z5 e_z168 hB171_0 (Or.inr (Or.inr ⟨by omega, by decide, rfl⟩)) | exact zNoR_2 e_z5 e_z181 hB184_0 e_z193 hB196_0 (Or.inl ⟨by omega, by decide⟩) | exact zNoR_2 e_z5 e_z206 hB209_0 e_z218 hB221_0 (Or.inr ⟨by omega, rfl⟩)
                    exact W.vret hx hb hr (fun t ht hW => ⟨⟨(fun _ => 0), rfl, hpost, (fun _ => 0), (fun i => ([(a158_ 0), (a158_ 1)] : List (Nat → Int32)).getD i (fun _ => 0)), (fun _ => (fun _ => 0)), hB0, by rw [ht]; exact hP9, va_K.moved hW.alike hK, hD9⟩, hS.F ht⟩) hS.2.2 dX13_note_161
              · skip
                have b_ : z5.toInt ≠ 7 := fun h => c_ (zeqi.mpr (h.trans zk_7.symm))
                rcases Classical.em (z5 = (8 : Int32)) with c_ | c_
                · skip
                  have b_ : z5.toInt = 8 := by rw [c_]; exact zk_8
                  refine lv_tableIn (off := 194) (tgt := 200) hx hb dX13_note_6 (by omega) (by omega) (by rw [b_]; decide) (by decide) ?_
                  refine lv_aload_n hx hb dX13_note_200 rfl (lv_at hl 0 rfl) ?_
                  refine lv_aload_n hx hb dX13_note_201 rfl (lv_at hl 0 rfl) ?_
                  refine va_get (D := (dC, dI)) (ci := 13) (v := .ref (q0 39)) (C := RX13) (T := TX13) (N := 75) hx hb hG zuX13 hown hK hP 0 rfl rfl 39 (by decide) (hG _ zv1643) (fun _ h9 => h9) rfl dX13_note_202 ?_
                  refine lv_iload_n hx hb dX13_note_205 rfl (lv_at hl 1 rfl) ?_
                  refine va_iald hx hb hK hP 5 4 rfl rfl (zin_lit ⟨by omega, by omega⟩) dX13_note_206 ?_
                  refine lv_topi (fun z206 e_z206 => ?_)
                  have b_ : (-1) ≤ z206.toInt ∧ z206.toInt ≤ 1299 := by rw [e_z206]; exact hf24 _
                  have b_ : 0 ≤ z206.toInt ∧ z206.toInt < x1.toInt := by have q := n1 (by omega); rw [← e_z206] at q; omega
                  refine lv_iload_n hx hb dX13_note_207 rfl (lv_at hl 2 rfl) ?_
                  refine lv_iload_n hx hb dX13_note_208 rfl (lv_at hl 3 rfl) ?_
                  have hPc := hP.sub (ws' := [(h0, .inr (13, mX13 q0 v0)), ((q0 38), zi k23 1300 f23), ((q0 41), zi k26 1300 f26), ((q0 63), zi k39 40 f39), ((q0 64), zi k40 40 f40), ((q0 39), zi k24 1300 f24), ((q0 40), zi k25 1300 f25)]) [0, 1, 2, 3, 4, 5, 6] rfl
                  have hDc := hD.sub (ws' := [(h0, .inr (13, mX13 q0 v0)), ((q0 38), zi k23 1300 f23), ((q0 41), zi k26 1300 f26), ((q0 63), zi k39 40 f39), ((q0 64), zi k40 40 f40), ((q0 39), zi k24 1300 f24), ((q0 40), zi k25 1300 f25)]) [0, 1, 2, 3, 4, 5, 6] (by decide) rfl
                  have hKc := hK.sub (tys' := [(k23, .int), (k26, .int), (k39, .boolean), (k40, .int), (k24, .int), (k25, .int)]) [0, 1, 2, 3, 4, 5] rfl
                  have hFc := va_free (wc := [(h0, .inr (13, mX13 q0 v0)), ((q0 38), zi k23 1300 f23), ((q0 41), zi k26 1300 f26), ((q0 63), zi k39 40 f39), ((q0 64), zi k40 40 f40), ((q0 39), zi k24 1300 f24), ((q0 40), zi k25 1300 f25)]) hD hS hA [0, 1, 2, 3, 4, 5, 6] rfl
                  refine va_callv (va_runV (As := [.int z206, .int x2, .int x3]) (rest := []) ⟨hx, hb, hml, hown, hG⟩ (ih dC dI adK adV h0 q0 k23 k26 k39 k40 k24 k25 s.heap.size v0 f23 f26 f39 f40 f24 f25 z206 x2 x3 hv0 hf24 hf25 (show (0 : Int) ≤ (z206 : Int32).toInt ∧ (z206 : Int32).toInt ≤ (1299 : Int) from (by first | with_reducible assumption | exact ⟨by omega, by omega⟩)) (show (0 : Int) ≤ (x2 : Int32).toInt ∧ (x2 : Int32).toInt ≤ (1 : Int) from (by first | with_reducible assumption | exact ⟨by omega, by omega⟩)) (show z206.toInt < ((n : Nat) : Int) from by omega) (show zTr f23 f24 f25 f26 (v0 42).toInt (v0 47).toInt from by first | with_reducible assumption | assumption) (show z206.toInt < (v0 42).toInt from by omega)) (cwV 3 hG (zgV zv2166 zv2168 zv112 zv142 zv2169) rfl rfl rfl (by decide +kernel) ⟨(show n + 20 + 1 ≤ (n + 1) + 20 from by omega), (show 8 + (4 + 11) + (24 * n + 600) ≤ 24 * (n + 1) + 600 from by omega)⟩) ⟨zPc_blind, va_recv hKc hPc (ci := 13) (q0 := 0) rfl rfl, zPc_pre hPc hKc hDc hE hS hFc hZ⟩ rfl rfl hl.1 rfl (lv_room (Nat.le_of_ble_eq_true rfl)) dX13_note_209 ⟨Nat.le_of_ble_eq_true rfl, Nat.le_of_ble_eq_true rfl⟩) hS (fun q _ h => hFc q h) hFc (fun u209_ t H1 locs ht hvm hw hB hz1 hk1 hS => ?_)
                  obtain ⟨w209_, a209_, b209_, hB209_0, hP1, hK1, hD1⟩ := hB
                  have hB209_0 : zNoR f23 f24 f25 f26 ((z206 : Int32)).toNatClampNeg x2.toInt x3.toInt f39 f40 (a209_ 0) (a209_ 1) := hB209_0
                  rw [ht] at hP1
                  obtain ⟨hP, hD⟩ := va_join (wr := []) (w1 := [(h0, .inr (13, mX13 q0 v0)), ((q0 38), zi k23 1300 f23), ((q0 41), zi k26 1300 f26), ((q0 63), zi k39 40 (a209_ 0)), ((q0 64), zi k40 40 (a209_ 1)), ((q0 39), zi k24 1300 f24), ((q0 40), zi k25 1300 f25)]) hP hD [0, 1, 2, 3, 4, 5, 6] [] rfl rfl (by decide) (by decide) hk1 hFc hP1 hD1
                  have hP : va_P (dC, dI) vwCl [(h0, .inr (13, mX13 q0 v0)), ((q0 38), zi k23 1300 f23), ((q0 41), zi k26 1300 f26), ((q0 63), zi k39 40 (a209_ 0)), ((q0 64), zi k40 40 (a209_ 1)), ((q0 39), zi k24 1300 f24), ((q0 40), zi k25 1300 f25)] H1 := hP.sub [0, 1, 2, 3, 4, 5, 6] rfl
                  have hD : va_D A [(h0, .inr (13, mX13 q0 v0)), ((q0 38), zi k23 1300 f23), ((q0 41), zi k26 1300 f26), ((q0 63), zi k39 40 (a209_ 0)), ((q0 64), zi k40 40 (a209_ 1)), ((q0 39), zi k24 1300 f24), ((q0 40), zi k25 1300 f25)] := hD.sub [0, 1, 2, 3, 4, 5, 6] (by decide) rfl
                  generalize H1 = H at hP hS ⊢
                  clear hz1
                  refine lv_aload_n hx hb dX13_note_212 rfl (lv_at hl 0 rfl) ?_
                  refine lv_aload_n hx hb dX13_note_213 rfl (lv_at hl 0 rfl) ?_
                  refine va_get (D := (dC, dI)) (ci := 13) (v := .ref (q0 40)) (C := RX13) (T := TX13) (N := 75) hx hb hG zuX13 hown hK hP 0 rfl rfl 40 (by decide) (hG _ zv1644) (fun _ h9 => h9) rfl dX13_note_214 ?_
                  refine lv_iload_n hx hb dX13_note_217 rfl (lv_at hl 1 rfl) ?_
                  refine va_iald hx hb hK hP 6 5 rfl rfl (zin_lit ⟨by omega, by omega⟩) dX13_note_218 ?_
                  refine lv_topi (fun z218 e_z218 => ?_)
                  have b_ : (-1) ≤ z218.toInt ∧ z218.toInt ≤ 1299 := by rw [e_z218]; exact hf25 _
                  have b_ : 0 ≤ z218.toInt ∧ z218.toInt < x1.toInt := by have q := n1 (by omega); rw [← e_z218] at q; omega
                  refine lv_iload_n hx hb dX13_note_219 rfl (lv_at hl 2 rfl) ?_
                  refine lv_iload_n hx hb dX13_note_220 rfl (lv_at hl 3 rfl) ?_
                  have hPc := hP.sub (ws' := [(h0, .inr (13, mX13 q0 v0)), ((q0 38), zi k23 1300 f23), ((q0 41), zi k26 1300 f26), ((q0 63), zi k39 40 (a209_ 0)), ((q0 64), zi k40 40 (a209_ 1)), ((q0 39), zi k24 1300 f24), ((q0 40), zi k25 1300 f25)]) [0, 1, 2, 3, 4, 5, 6] rfl
                  have hDc := hD.sub (ws' := [(h0, .inr (13, mX13 q0 v0)), ((q0 38), zi k23 1300 f23), ((q0 41), zi k26 1300 f26), ((q0 63), zi k39 40 (a209_ 0)), ((q0 64), zi k40 40 (a209_ 1)), ((q0 39), zi k24 1300 f24), ((q0 40), zi k25 1300 f25)]) [0, 1, 2, 3, 4, 5, 6] (by decide) rfl
                  have hKc := hK.sub (tys' := [(k23, .int), (k26, .int), (k39, .boolean), (k40, .int), (k24, .int), (k25, .int)]) [0, 1, 2, 3, 4, 5] rfl
                  have hFc := va_free (wc := [(h0, .inr (13, mX13 q0 v0)), ((q0 38), zi k23 1300 f23), ((q0 41), zi k26 1300 f26), ((q0 63), zi k39 40 (a209_ 0)), ((q0 64), zi k40 40 (a209_ 1)), ((q0 39), zi k24 1300 f24), ((q0 40), zi k25 1300 f25)]) hD hS hA [0, 1, 2, 3, 4, 5, 6] rfl
                  refine va_callv (va_runV (As := [.int z218, .int x2, .int x3]) (rest := []) ⟨hx, hb, hml, hown, hG⟩ (ih dC dI adK adV h0 q0 k23 k26 k39 k40 k24 k25 H.size v0 f23 f26 (a209_ 0) (a209_ 1) f24 f25 z218 x2 x3 hv0 hf24 hf25 (show (0 : Int) ≤ (z218 : Int32).toInt ∧ (z218 : Int32).toInt ≤ (1299 : Int) from (by first | with_reducible assumption | exact ⟨by omega, by omega⟩)) (show (0 : Int) ≤ (x2 : Int32).toInt ∧ (x2 : Int32).toInt ≤ (1 : Int) from (by first | with_reducible assumption | exact ⟨by omega, by omega⟩)) (show z218.toInt < ((n : Nat) : Int) from by omega) (show zTr f23 f24 f25 f26 (v0 42).toInt (v0 47).toInt from by first | with_reducible assumption | assumption) (show z218.toInt < (v0 42).toInt from by omega)) (cwV 3 hG (zgV zv2166 zv2168 zv112 zv142 zv2169) rfl rfl rfl (by decide +kernel) ⟨(show n + 20 + 1 ≤ (n + 1) + 20 from by omega), (show 8 + (4 + 11) + (24 * n + 600) ≤ 24 * (n + 1) + 600 from by omega)⟩) ⟨zPc_blind, va_recv hKc hPc (ci := 13) (q0 := 0) rfl rfl, zPc_pre hPc hKc hDc hE hS hFc hZ⟩ rfl rfl hl.1 rfl (lv_room (Nat.le_of_ble_eq_true rfl)) dX13_note_221 ⟨Nat.le_of_ble_eq_true rfl, Nat.le_of_ble_eq_true rfl⟩) hS (fun q _ h => hFc q h) hFc (fun u221_ t H1 locs ht hvm hw hB hz1 hk1 hS => ?_)
                  obtain ⟨w221_, a221_, b221_, hB221_0, hP1, hK1, hD1⟩ := hB
                  have hB221_0 : zNoR f23 f24 f25 f26 ((z218 : Int32)).toNatClampNeg x2.toInt x3.toInt (a209_ 0) (a209_ 1) (a221_ 0) (a221_ 1) := hB221_0
                  rw [ht] at hP1
                  obtain ⟨hP, hD⟩ := va_join (wr := []) (w1 := [(h0, .inr (13, mX13 q0 v0)), ((q0 38), zi k23 1300 f23), ((q0 41), zi k26 1300 f26), ((q0 63), zi k39 40 (a221_ 0)), ((q0 64), zi k40 40 (a221_ 1)), ((q0 39), zi k24 1300 f24), ((q0 40), zi k25 1300 f25)]) hP hD [0, 1, 2, 3, 4, 5, 6] [] rfl rfl (by decide) (by decide) hk1 hFc hP1 hD1
                  have hP : va_P (dC, dI) vwCl [(h0, .inr (13, mX13 q0 v0)), ((q0 38), zi k23 1300 f23), ((q0 41), zi k26 1300 f26), ((q0 63), zi k39 40 (a221_ 0)), ((q0 64), zi k40 40 (a221_ 1)), ((q0 39), zi k24 1300 f24), ((q0 40), zi k25 1300 f25)] H1 := hP.sub [0, 1, 2, 3, 4, 5, 6] rfl
                  have hD : va_D A [(h0, .inr (13, mX13 q0 v0)), ((q0 38), zi k23 1300 f23), ((q0 41), zi k26 1300 f26), ((q0 63), zi k39 40 (a221_ 0)), ((q0 64), zi k40 40 (a221_ 1)), ((q0 39), zi k24 1300 f24), ((q0 40), zi k25 1300 f25)] := hD.sub [0, 1, 2, 3, 4, 5, 6] (by decide) rfl
                  generalize H1 = H at hP hS ⊢
                  clear hz1
                  refine W.widen (k := 0) (n := 0) (by decide) (by decide) ?_
                  have hpost : True := trivial
                  have hP9 : va_P (dC, dI) vwCl [(h0, .inr (13, mX13 q0 v0)), ((q0 38), zi k23 1300 f23), ((q0 41), zi k26 1300 f26), ((q0 63), zi k39 40 (a221_ 0)), ((q0 64), zi k40 40 (a221_ 1)), ((q0 39), zi k24 1300 f24), ((q0 40), zi k25 1300 f25)] H := hP
                  have hD9 : va_D A [(h0, .inr (13, mX13 q0 v0)), ((q0 38), zi k23 1300 f23), ((q0 41), zi k26 1300 f26), ((q0 63), zi k39 40 (a221_ 0)), ((q0 64), zi k40 40 (a221_ 1)), ((q0 39), zi k24 1300 f24), ((q0 40), zi k25 1300 f25)] := hD
                  have hB0 : zNoR f23 f24 f25 f26 ((x1 : Int32)).toNatClampNeg x2.toInt x3.toInt f39 f40 (a221_ 0) (a221_ 1) := by first | exact zNoR_1 e_z5 (by omega) e_z73 e_z93 (Or.inl ⟨by omega, by decide⟩) rfl e_f_83 e_f_95 | exact zNoR_1 e_z5 (by omega) e_z73 e_z93 (Or.inr ⟨by omega, by decide⟩) rfl e_f_83 e_f_95 | exact zNoR_4 e_z5 (by omega) e_z106 (by decide) e_f_108 | exact zNoR_6 e_z5 e_z116 hB132_0 (Or.inl ⟨by omega, rfl, zf6_e (by omega)⟩) | exact zNoR_6 e_z5 e_z142 hB158_0 (Or.inr (Or.inl ⟨by omega, rfl, zf7_e (by omega)⟩)) | exact zNoR_6 e_z5 e_z168 hB171_0 (Or.inr (Or.inr ⟨by omega, by decide, rfl⟩)) | exact zNoR_2 e_z5 e_z181 hB184_0 e_z193 hB196_0 (Or.inl ⟨by omega, by decide⟩) | exact zNoR_2 e_z5 e_z206 hB209_0 e_z218 hB221_0 (Or.inr ⟨by omega, rfl⟩)
                  exact W.vret hx hb hr (fun t ht hW => ⟨⟨(fun _ => 0), rfl, hpost, (fun _ => 0), (fun i => ([(a221_ 0), (a221_ 1)] : List (Nat → Int32)).getD i (fun _ => 0)), (fun _ => (fun _ => 0)), hB0, by rw [ht]; exact hP9, va_K.moved hW.alike hK, hD9⟩, hS.F ht⟩) hS.2.2 dX13_note_224
                · skip
                  have b_ : z5.toInt ≠ 8 := fun h => c_ (zeqi.mpr (h.trans zk_8.symm))
                  rcases Classical.em (z5 = (9 : Int32)) with c_ | c_
                  · skip
                    have b_ : z5.toInt = 9 := by rw [c_]; exact zk_9
                    refine lv_tableIn (off := 194) (tgt := 200) hx hb dX13_note_6 (by omega) (by omega) (by rw [b_]; decide) (by decide) ?_
                    refine lv_aload_n hx hb dX13_note_200 rfl (lv_at hl 0 rfl) ?_
                    refine lv_aload_n hx hb dX13_note_201 rfl (lv_at hl 0 rfl) ?_
                    refine va_get (D := (dC, dI)) (ci := 13) (v := .ref (q0 39)) (C := RX13) (T := TX13) (N := 75) hx hb hG zuX13 hown hK hP 0 rfl rfl 39 (by decide) (hG _ zv1643) (fun _ h9 => h9) rfl dX13_note_202 ?_
                    refine lv_iload_n hx hb dX13_note_205 rfl (lv_at hl 1 rfl) ?_
                    refine va_iald hx hb hK hP 5 4 rfl rfl (zin_lit ⟨by omega, by omega⟩) dX13_note_206 ?_
                    refine lv_topi (fun z206 e_z206 => ?_)
                    have b_ : (-1) ≤ z206.toInt ∧ z206.toInt ≤ 1299 := by rw [e_z206]; exact hf24 _
                    have b_ : 0 ≤ z206.toInt ∧ z206.toInt < x1.toInt := by have q := n1 (by omega); rw [← e_z206] at q; omega
                    refine lv_iload_n hx hb dX13_note_207 rfl (lv_at hl 2 rfl) ?_
                    refine lv_iload_n hx hb dX13_note_208 rfl (lv_at hl 3 rfl) ?_
                    have hPc := hP.sub (ws' := [(h0, .inr (13, mX13 q0 v0)), ((q0 38), zi k23 1300 f23), ((q0 41), zi k26 1300 f26), ((q0 63), zi k39 40 f39), ((q0 64), zi k40 40 f40), ((q0 39), zi k24 1300 f24), ((q0 40), zi k25 1300 f25)]) [0, 1, 2, 3, 4, 5, 6] rfl
                    have hDc := hD.sub (ws' := [(h0, .inr (13, mX13 q0 v0)), ((q0 38), zi k23 1300 f23), ((q0 41), zi k26 1300 f26), ((q0 63), zi k39 40 f39), ((q0 64), zi k40 40 f40), ((q0 39), zi k24 1300 f24), ((q0 40), zi k25 1300 f25)]) [0, 1, 2, 3, 4, 5, 6] (by decide) rfl
                    have hKc := hK.sub (tys' := [(k23, .int), (k26, .int), (k39, .boolean), (k40, .int), (k24, .int), (k25, .int)]) [0, 1, 2, 3, 4, 5] rfl
                    have hFc := va_free (wc := [(h0, .inr (13, mX13 q0 v0)), ((q0 38), zi k23 1300 f23), ((q0 41), zi k26 1300 f26), ((q0 63), zi k39 40 f39), ((q0 64), zi k40 40 f40), ((q0 39), zi k24 1300 f24), ((q0 40), zi k25 1300 f25)]) hD hS hA [0, 1, 2, 3, 4, 5, 6] rfl
                    refine va_callv (va_runV (As := [.int z206, .int x2, .int x3]) (rest := []) ⟨hx, hb, hml, hown, hG⟩ (ih dC dI adK adV h0 q0 k23 k26 k39 k40 k24 k25 s.heap.size v0 f23 f26 f39 f40 f24 f25 z206 x2 x3 hv0 hf24 hf25 (show (0 : Int) ≤ (z206 : Int32).toInt ∧ (z206 : Int32).toInt ≤ (1299 : Int) from (by first | with_reducible assumption | exact ⟨by omega, by omega⟩)) (show (0 : Int) ≤ (x2 : Int32).toInt ∧ (x2 : Int32).toInt ≤ (1 : Int) from (by first | with_reducible assumption | exact ⟨by omega, by omega⟩)) (show z206.toInt < ((n : Nat) : Int) from by omega) (show zTr f23 f24 f25 f26 (v0 42).toInt (v0 47).toInt from by first | with_reducible assumption | assumption) (show z206.toInt < (v0 42).toInt from by omega)) (cwV 3 hG (zgV zv2166 zv2168 zv112 zv142 zv2169) rfl rfl rfl (by decide +kernel) ⟨(show n + 20 + 1 ≤ (n + 1) + 20 from by omega), (show 8 + (4 + 11) + (24 * n + 600) ≤ 24 * (n + 1) + 600 from by omega)⟩) ⟨zPc_blind, va_recv hKc hPc (ci := 13) (q0 := 0) rfl rfl, zPc_pre hPc hKc hDc hE hS hFc hZ⟩ rfl rfl hl.1 rfl (lv_room (Nat.le_of_ble_eq_true rfl)) dX13_note_209 ⟨Nat.le_of_ble_eq_true rfl, Nat.le_of_ble_eq_true rfl⟩) hS (fun q _ h => hFc q h) hFc (fun u209_ t H1 locs ht hvm hw hB hz1 hk1 hS => ?_)
                    obtain ⟨w209_, a209_, b209_, hB209_0, hP1, hK1, hD1⟩ := hB
                    have hB209_0 : zNoR f23 f24 f25 f26 ((z206 : Int32)).toNatClampNeg x2.toInt x3.toInt f39 f40 (a209_ 0) (a209_ 1) := hB209_0
                    rw [ht] at hP1
                    obtain ⟨hP, hD⟩ := va_join (wr := []) (w1 := [(h0, .inr (13, mX13 q0 v0)), ((q0 38), zi k23 1300 f23), ((q0 41), zi k26 1300 f26), ((q0 63), zi k39 40 (a209_ 0)), ((q0 64), zi k40 40 (a209_ 1)), ((q0 39), zi k24 1300 f24), ((q0 40), zi k25 1300 f25)]) hP hD [0, 1, 2, 3, 4, 5, 6] [] rfl rfl (by decide) (by decide) hk1 hFc hP1 hD1
                    have hP : va_P (dC, dI) vwCl [(h0, .inr (13, mX13 q0 v0)), ((q0 38), zi k23 1300 f23), ((q0 41), zi k26 1300 f26), ((q0 63), zi k39 40 (a209_ 0)), ((q0 64), zi k40 40 (a209_ 1)), ((q0 39), zi k24 1300 f24), ((q0 40), zi k25 1300 f25)] H1 := hP.sub [0, 1, 2, 3, 4, 5, 6] rfl
                    have hD : va_D A [(h0, .inr (13, mX13 q0 v0)), ((q0 38), zi k23 1300 f23), ((q0 41), zi k26 1300 f26), ((q0 63), zi k39 40 (a209_ 0)), ((q0 64), zi k40 40 (a209_ 1)), ((q0 39), zi k24 1300 f24), ((q0 40), zi k25 1300 f25)] := hD.sub [0, 1, 2, 3, 4, 5, 6] (by decide) rfl
                    generalize H1 = H at hP hS ⊢
                    clear hz1
                    refine lv_aload_n hx hb dX13_note_212 rfl (lv_at hl 0 rfl) ?_
                    refine lv_aload_n hx hb dX13_note_213 rfl (lv_at hl 0 rfl) ?_
                    refine va_get (D := (dC, dI)) (ci := 13) (v := .ref (q0 40)) (C := RX13) (T := TX13) (N := 75) hx hb hG zuX13 hown hK hP 0 rfl rfl 40 (by decide) (hG _ zv1644) (fun _ h9 => h9) rfl dX13_note_214 ?_
                    refine lv_iload_n hx hb dX13_note_217 rfl (lv_at hl 1 rfl) ?_
                    refine va_iald hx hb hK hP 6 5 rfl rfl (zin_lit ⟨by omega, by omega⟩) dX13_note_218 ?_
                    refine lv_topi (fun z218 e_z218 => ?_)
                    have b_ : (-1) ≤ z218.toInt ∧ z218.toInt ≤ 1299 := by rw [e_z218]; exact hf25 _
                    have b_ : 0 ≤ z218.toInt ∧ z218.toInt < x1.toInt := by have q := n1 (by omega); rw [← e_z218] at q; omega
                    refine lv_iload_n hx hb dX13_note_219 rfl (lv_at hl 2 rfl) ?_
                    refine lv_iload_n hx hb dX13_note_220 rfl (lv_at hl 3 rfl) ?_
                    have hPc := hP.sub (ws' := [(h0, .inr (13, mX13 q0 v0)), ((q0 38), zi k23 1300 f23), ((q0 41), zi k26 1300 f26), ((q0 63), zi k39 40 (a209_ 0)), ((q0 64), zi k40 40 (a209_ 1)), ((q0 39), zi k24 1300 f24), ((q0 40), zi k25 1300 f25)]) [0, 1, 2, 3, 4, 5, 6] rfl
                    have hDc := hD.sub (ws' := [(h0, .inr (13, mX13 q0 v0)), ((q0 38), zi k23 1300 f23), ((q0 41), zi k26 1300 f26), ((q0 63), zi k39 40 (a209_ 0)), ((q0 64), zi k40 40 (a209_ 1)), ((q0 39), zi k24 1300 f24), ((q0 40), zi k25 1300 f25)]) [0, 1, 2, 3, 4, 5, 6] (by decide) rfl
                    have hKc := hK.sub (tys' := [(k23, .int), (k26, .int), (k39, .boolean), (k40, .int), (k24, .int), (k25, .int)]) [0, 1, 2, 3, 4, 5] rfl
                    have hFc := va_free (wc := [(h0, .inr (13, mX13 q0 v0)), ((q0 38), zi k23 1300 f23), ((q0 41), zi k26 1300 f26), ((q0 63), zi k39 40 (a209_ 0)), ((q0 64), zi k40 40 (a209_ 1)), ((q0 39), zi k24 1300 f24), ((q0 40), zi k25 1300 f25)]) hD hS hA [0, 1, 2, 3, 4, 5, 6] rfl
                    refine va_callv (va_runV (As := [.int z218, .int x2, .int x3]) (rest := []) ⟨hx, hb, hml, hown, hG⟩ (ih dC dI adK adV h0 q0 k23 k26 k39 k40 k24 k25 H.size v0 f23 f26 (a209_ 0) (a209_ 1) f24 f25 z218 x2 x3 hv0 hf24 hf25 (show (0 : Int) ≤ (z218 : Int32).toInt ∧ (z218 : Int32).toInt ≤ (1299 : Int) from (by first | with_reducible assumption | exact ⟨by omega, by omega⟩)) (show (0 : Int) ≤ (x2 : Int32).toInt ∧ (x2 : Int32).toInt ≤ (1 : Int) from (by first | with_reducible assumption | exact ⟨by omega, by omega⟩)) (show z218.toInt < ((n : Nat) : Int) from by omega) (show zTr f23 f24 f25 f26 (v0 42).toInt (v0 47).toInt from by first | with_reducible assumption | assumption) (show z218.toInt < (v0 42).toInt from by omega)) (cwV 3 hG (zgV zv2166 zv2168 zv112 zv142 zv2169) rfl rfl rfl (by decide +kernel) ⟨(show n + 20 + 1 ≤ (n + 1) + 20 from by omega), (show 8 + (4 + 11) + (24 * n + 600) ≤ 24 * (n + 1) + 600 from by omega)⟩) ⟨zPc_blind, va_recv hKc hPc (ci := 13) (q0 := 0) rfl rfl, zPc_pre hPc hKc hDc hE hS hFc hZ⟩ rfl rfl hl.1 rfl (lv_room (Nat.le_of_ble_eq_true rfl)) dX13_note_221 ⟨Nat.le_of_ble_eq_true rfl, Nat.le_of_ble_eq_true rfl⟩) hS (fun q _ h => hFc q h) hFc (fun u221_ t H1 locs ht hvm hw hB hz1 hk1 hS => ?_)
                    obtain ⟨w221_, a221_, b221_, hB221_0, hP1, hK1, hD1⟩ := hB
                    have hB221_0 : zNoR f23 f24 f25 f26 ((z218 : Int32)).toNatClampNeg x2.toInt x3.toInt (a209_ 0) (a209_ 1) (a221_ 0) (a221_ 1) := hB221_0
                    rw [ht] at hP1
                    obtain ⟨hP, hD⟩ := va_join (wr := []) (w1 := [(h0, .inr (13, mX13 q0 v0)), ((q0 38), zi k23 1300 f23), ((q0 41), zi k26 1300 f26), ((q0 63), zi k39 40 (a221_ 0)), ((q0 64), zi k40 40 (a221_ 1)), ((q0 39), zi k24 1300 f24), ((q0 40), zi k25 1300 f25)]) hP hD [0, 1, 2, 3, 4, 5, 6] [] rfl rfl (by decide) (by decide) hk1 hFc hP1 hD1
                    have hP : va_P (dC, dI) vwCl [(h0, .inr (13, mX13 q0 v0)), ((q0 38), zi k23 1300 f23), ((q0 41), zi k26 1300 f26), ((q0 63), zi k39 40 (a221_ 0)), ((q0 64), zi k40 40 (a221_ 1)), ((q0 39), zi k24 1300 f24), ((q0 40), zi k25 1300 f25)] H1 := hP.sub [0, 1, 2, 3, 4, 5, 6] rfl
                    have hD : va_D A [(h0, .inr (13, mX13 q0 v0)), ((q0 38), zi k23 1300 f23), ((q0 41), zi k26 1300 f26), ((q0 63), zi k39 40 (a221_ 0)), ((q0 64), zi k40 40 (a221_ 1)), ((q0 39), zi k24 1300 f24), ((q0 40), zi k25 1300 f25)] := hD.sub [0, 1, 2, 3, 4, 5, 6] (by decide) rfl
                    generalize H1 = H at hP hS ⊢
                    clear hz1
                    refine W.widen (k := 0) (n := 0) (by decide) (by decide) ?_
                    have hpost : True := trivial
                    have hP9 : va_P (dC, dI) vwCl [(h0, .inr (13, mX13 q0 v0)), ((q0 38), zi k23 1300 f23), ((q0 41), zi k26 1300 f26), ((q0 63), zi k39 40 (a221_ 0)), ((q0 64), zi k40 40 (a221_ 1)), ((q0 39), zi k24 1300 f24), ((q0 40), zi k25 1300 f25)] H := hP
                    have hD9 : va_D A [(h0, .inr (13, mX13 q0 v0)), ((q0 38), zi k23 1300 f23), ((q0 41), zi k26 1300 f26), ((q0 63), zi k39 40 (a221_ 0)), ((q0 64), zi k40 40 (a221_ 1)), ((q0 39), zi k24 1300 f24), ((q0 40), zi k25 1300 f25)] := hD
                    have hB0 : zNoR f23 f24 f25 f26 ((x1 : Int32)).toNatClampNeg x2.toInt x3.toInt f39 f40 (a221_ 0) (a221_ 1) := by first | exact zNoR_1 e_z5 (by omega) e_z73 e_z93 (Or.inl ⟨by omega, by decide⟩) rfl e_f_83 e_f_95 | exact zNoR_1 e_z5 (by omega) e_z73 e_z93 (Or.inr ⟨by omega, by decide⟩) rfl e_f_83 e_f_95 | exact zNoR_4 e_z5 (by omega) e_z106 (by decide) e_f_108 | exact zNoR_6 e_z5 e_z116 hB132_0 (Or.inl ⟨by omega, rfl, zf6_e (by omega)⟩) | exact zNoR_6 e_z5 e_z142 hB158_0 (Or.inr (Or.inl ⟨by omega, rfl, zf7_e (by omega)⟩)) | exact zNoR_6 e_z5 e_z168 hB171_0 (Or.inr (Or.inr ⟨by omega, by decide, rfl⟩)) | exact zNoR_2 e_z5 e_z181 hB184_0 e_z193 hB196_0 (Or.inl ⟨by omega, by decide⟩) | exact zNoR_2 e_z5 e_z206 hB209_0 e_z218 hB221_0 (Or.inr ⟨by omega, rfl⟩)
                    exact W.vret hx hb hr (fun t ht hW => ⟨⟨(fun _ => 0), rfl, hpost, (fun _ => 0), (fun i => ([(a221_ 0), (a221_ 1)] : List (Nat → Int32)).getD i (fun _ => 0)), (fun _ => (fun _ => 0)), hB0, by rw [ht]; exact hP9, va_K.moved hW.alike hK, hD9⟩, hS.F ht⟩) hS.2.2 dX13_note_224
                  · skip
                    have b_ : z5.toInt ≠ 9 := fun h => c_ (zeqi.mpr (h.trans zk_9.symm))
                    rcases Classical.em (z5 = (10 : Int32)) with c_ | c_
                    · skip
                      have b_ : z5.toInt = 10 := by rw [c_]; exact zk_10
                      refine lv_tableIn (off := 156) (tgt := 162) hx hb dX13_note_6 (by omega) (by omega) (by rw [b_]; decide) (by decide) ?_
                      refine lv_aload_n hx hb dX13_note_162 rfl (lv_at hl 0 rfl) ?_
                      refine lv_aload_n hx hb dX13_note_163 rfl (lv_at hl 0 rfl) ?_
                      refine va_get (D := (dC, dI)) (ci := 13) (v := .ref (q0 39)) (C := RX13) (T := TX13) (N := 75) hx hb hG zuX13 hown hK hP 0 rfl rfl 39 (by decide) (hG _ zv1643) (fun _ h9 => h9) rfl dX13_note_164 ?_
                      refine lv_iload_n hx hb dX13_note_167 rfl (lv_at hl 1 rfl) ?_
                      refine va_iald hx hb hK hP 5 4 rfl rfl (zin_lit ⟨by omega, by omega⟩) dX13_note_168 ?_
                      refine lv_topi (fun z168 e_z168 => ?_)
                      have b_ : (-1) ≤ z168.toInt ∧ z168.toInt ≤ 1299 := by rw [e_z168]; exact hf24 _
                      have b_ : 0 ≤ z168.toInt ∧ z168.toInt < x1.toInt := by have q := n2 (by omega); rw [← e_z168] at q; omega
                      refine lv_iconst (v := 1) hx hb dX13_note_169 (by decide) ?_
                      refine lv_iload_n hx hb dX13_note_170 rfl (lv_at hl 3 rfl) ?_
                      have hPc := hP.sub (ws' := [(h0, .inr (13, mX13 q0 v0)), ((q0 38), zi k23 1300 f23), ((q0 41), zi k26 1300 f26), ((q0 63), zi k39 40 f39), ((q0 64), zi k40 40 f40), ((q0 39), zi k24 1300 f24), ((q0 40), zi k25 1300 f25)]) [0, 1, 2, 3, 4, 5, 6] rfl
                      have hDc := hD.sub (ws' := [(h0, .inr (13, mX13 q0 v0)), ((q0 38), zi k23 1300 f23), ((q0 41), zi k26 1300 f26), ((q0 63), zi k39 40 f39), ((q0 64), zi k40 40 f40), ((q0 39), zi k24 1300 f24), ((q0 40), zi k25 1300 f25)]) [0, 1, 2, 3, 4, 5, 6] (by decide) rfl
                      have hKc := hK.sub (tys' := [(k23, .int), (k26, .int), (k39, .boolean), (k40, .int), (k24, .int), (k25, .int)]) [0, 1, 2, 3, 4, 5] rfl
                      have hFc := va_free (wc := [(h0, .inr (13, mX13 q0 v0)), ((q0 38), zi k23 1300 f23), ((q0 41), zi k26 1300 f26), ((q0 63), zi k39 40 f39), ((q0 64), zi k40 40 f40), ((q0 39), zi k24 1300 f24), ((q0 40), zi k25 1300 f25)]) hD hS hA [0, 1, 2, 3, 4, 5, 6] rfl
                      refine va_callv (va_runV (As := [.int z168, .int 1, .int x3]) (rest := []) ⟨hx, hb, hml, hown, hG⟩ (ih dC dI adK adV h0 q0 k23 k26 k39 k40 k24 k25 s.heap.size v0 f23 f26 f39 f40 f24 f25 z168 1 x3 hv0 hf24 hf25 (show (0 : Int) ≤ (z168 : Int32).toInt ∧ (z168 : Int32).toInt ≤ (1299 : Int) from (by first | with_reducible assumption | exact ⟨by omega, by omega⟩)) ⟨show (0 : Int) ≤ (1 : Int32).toInt from by decide, show (1 : Int32).toInt ≤ (1 : Int) from by decide⟩ (show z168.toInt < ((n : Nat) : Int) from by omega) (show zTr f23 f24 f25 f26 (v0 42).toInt (v0 47).toInt from by first | with_reducible assumption | assumption) (show z168.toInt < (v0 42).toInt from by omega)) (cwV 3 hG (zgV zv2166 zv2168 zv112 zv142 zv2169) rfl rfl rfl (by decide +kernel) ⟨(show n + 20 + 1 ≤ (n + 1) + 20 from by omega), (show 8 + (4 + 11) + (24 * n + 600) ≤ 24 * (n + 1) + 600 from by omega)⟩) ⟨zPc_blind, va_recv hKc hPc (ci := 13) (q0 := 0) rfl rfl, zPc_pre hPc hKc hDc hE hS hFc hZ⟩ rfl rfl hl.1 rfl (lv_room (Nat.le_of_ble_eq_true rfl)) dX13_note_171 ⟨Nat.le_of_ble_eq_true rfl, Nat.le_of_ble_eq_true rfl⟩) hS (fun q _ h => hFc q h) hFc (fun u171_ t H1 locs ht hvm hw hB hz1 hk1 hS => ?_)
                      obtain ⟨w171_, a171_, b171_, hB171_0, hP1, hK1, hD1⟩ := hB
                      have hB171_0 : zNoR f23 f24 f25 f26 ((z168 : Int32)).toNatClampNeg (1 : Int32).toInt x3.toInt f39 f40 (a171_ 0) (a171_ 1) := hB171_0
                      rw [ht] at hP1
                      obtain ⟨hP, hD⟩ := va_join (wr := []) (w1 := [(h0, .inr (13, mX13 q0 v0)), ((q0 38), zi k23 1300 f23), ((q0 41), zi k26 1300 f26), ((q0 63), zi k39 40 (a171_ 0)), ((q0 64), zi k40 40 (a171_ 1)), ((q0 39), zi k24 1300 f24), ((q0 40), zi k25 1300 f25)]) hP hD [0, 1, 2, 3, 4, 5, 6] [] rfl rfl (by decide) (by decide) hk1 hFc hP1 hD1
                      have hP : va_P (dC, dI) vwCl [(h0, .inr (13, mX13 q0 v0)), ((q0 38), zi k23 1300 f23), ((q0 41), zi k26 1300 f26), ((q0 63), zi k39 40 (a171_ 0)), ((q0 64), zi k40 40 (a171_ 1)), ((q0 39), zi k24 1300 f24), ((q0 40), zi k25 1300 f25)] H1 := hP.sub [0, 1, 2, 3, 4, 5, 6] rfl
                      have hD : va_D A [(h0, .inr (13, mX13 q0 v0)), ((q0 38), zi k23 1300 f23), ((q0 41), zi k26 1300 f26), ((q0 63), zi k39 40 (a171_ 0)), ((q0 64), zi k40 40 (a171_ 1)), ((q0 39), zi k24 1300 f24), ((q0 40), zi k25 1300 f25)] := hD.sub [0, 1, 2, 3, 4, 5, 6] (by decide) rfl
                      generalize H1 = H at hP hS ⊢
                      clear hz1
                      refine W.widen (k := 0) (n := 0) (by decide) (by decide) ?_
                      have hpost : True := trivial
                      have hP9 : va_P (dC, dI) vwCl [(h0, .inr (13, mX13 q0 v0)), ((q0 38), zi k23 1300 f23), ((q0 41), zi k26 1300 f26), ((q0 63), zi k39 40 (a171_ 0)), ((q0 64), zi k40 40 (a171_ 1)), ((q0 39), zi k24 1300 f24), ((q0 40), zi k25 1300 f25)] H := hP
                      have hD9 : va_D A [(h0, .inr (13, mX13 q0 v0)), ((q0 38), zi k23 1300 f23), ((q0 41), zi k26 1300 f26), ((q0 63), zi k39 40 (a171_ 0)), ((q0 64), zi k40 40 (a171_ 1)), ((q0 39), zi k24 1300 f24), ((q0 40), zi k25 1300 f25)] := hD
                      have hB0 : zNoR f23 f24 f25 f26 ((x1 : Int32)).toNatClampNeg x2.toInt x3.toInt f39 f40 (a171_ 0) (a171_ 1) := by first | exact zNoR_1 e_z5 (by omega) e_z73 e_z93 (Or.inl ⟨by omega, by decide⟩) rfl e_f_83 e_f_95 | exact zNoR_1 e_z5 (by omega) e_z73 e_z93 (Or.inr ⟨by omega, by decide⟩) rfl e_f_83 e_f_95 | exact zNoR_4 e_z5 (by omega) e_z106 (by decide) e_f_108 | exact zNoR_6 e_z5 e_z116 hB132_0 (Or.inl ⟨by omega, rfl, zf6_e (by omega)⟩) | exact zNoR_6 e_z5 e_z142 hB158_0 (Or.inr (Or.inl ⟨by omega, rfl, zf7_e (by omega)⟩)) | exact zNoR_6 e_z5 e_z168 hB171_0 (Or.inr (Or.inr ⟨by omega, by decide, rfl⟩)) | exact zNoR_2 e_z5 e_z181 hB184_0 e_z193 hB196_0 (Or.inl ⟨by omega, by decide⟩) | exact zNoR_2 e_z5 e_z206 hB209_0 e_z218 hB221_0 (Or.inr ⟨by omega, rfl⟩)
                      exact W.vret hx hb hr (fun t ht hW => ⟨⟨(fun _ => 0), rfl, hpost, (fun _ => 0), (fun i => ([(a171_ 0), (a171_ 1)] : List (Nat → Int32)).getD i (fun _ => 0)), (fun _ => (fun _ => 0)), hB0, by rw [ht]; exact hP9, va_K.moved hW.alike hK, hD9⟩, hS.F ht⟩) hS.2.2 dX13_note_174
                    · skip
                      have b_ : z5.toInt ≠ 10 := fun h => c_ (zeqi.mpr (h.trans zk_10.symm))
                      rcases Classical.em (z5 = (11 : Int32)) with c_ | c_
                      · skip
                        have b_ : z5.toInt = 11 := by rw [c_]; exact zk_11
                        refine lv_tableIn (off := 169) (tgt := 175) hx hb dX13_note_6 (by omega) (by omega) (by rw [b_]; decide) (by decide) ?_
                        refine lv_aload_n hx hb dX13_note_175 rfl (lv_at hl 0 rfl) ?_
                        refine lv_aload_n hx hb dX13_note_176 rfl (lv_at hl 0 rfl) ?_
                        refine va_get (D := (dC, dI)) (ci := 13) (v := .ref (q0 39)) (C := RX13) (T := TX13) (N := 75) hx hb hG zuX13 hown hK hP 0 rfl rfl 39 (by decide) (hG _ zv1643) (fun _ h9 => h9) rfl dX13_note_177 ?_
                        refine lv_iload_n hx hb dX13_note_180 rfl (lv_at hl 1 rfl) ?_
                        refine va_iald hx hb hK hP 5 4 rfl rfl (zin_lit ⟨by omega, by omega⟩) dX13_note_181 ?_
                        refine lv_topi (fun z181 e_z181 => ?_)
                        have b_ : (-1) ≤ z181.toInt ∧ z181.toInt ≤ 1299 := by rw [e_z181]; exact hf24 _
                        have b_ : 0 ≤ z181.toInt ∧ z181.toInt < x1.toInt := by have q := n1 (by omega); rw [← e_z181] at q; omega
                        refine lv_iload_n hx hb dX13_note_182 rfl (lv_at hl 2 rfl) ?_
                        refine lv_iload_n hx hb dX13_note_183 rfl (lv_at hl 3 rfl) ?_
                        have hPc := hP.sub (ws' := [(h0, .inr (13, mX13 q0 v0)), ((q0 38), zi k23 1300 f23), ((q0 41), zi k26 1300 f26), ((q0 63), zi k39 40 f39), ((q0 64), zi k40 40 f40), ((q0 39), zi k24 1300 f24), ((q0 40), zi k25 1300 f25)]) [0, 1, 2, 3, 4, 5, 6] rfl
                        have hDc := hD.sub (ws' := [(h0, .inr (13, mX13 q0 v0)), ((q0 38), zi k23 1300 f23), ((q0 41), zi k26 1300 f26), ((q0 63), zi k39 40 f39), ((q0 64), zi k40 40 f40), ((q0 39), zi k24 1300 f24), ((q0 40), zi k25 1300 f25)]) [0, 1, 2, 3, 4, 5, 6] (by decide) rfl
                        have hKc := hK.sub (tys' := [(k23, .int), (k26, .int), (k39, .boolean), (k40, .int), (k24, .int), (k25, .int)]) [0, 1, 2, 3, 4, 5] rfl
                        have hFc := va_free (wc := [(h0, .inr (13, mX13 q0 v0)), ((q0 38), zi k23 1300 f23), ((q0 41), zi k26 1300 f26), ((q0 63), zi k39 40 f39), ((q0 64), zi k40 40 f40), ((q0 39), zi k24 1300 f24), ((q0 40), zi k25 1300 f25)]) hD hS hA [0, 1, 2, 3, 4, 5, 6] rfl
                        refine va_callv (va_runV (As := [.int z181, .int x2, .int x3]) (rest := []) ⟨hx, hb, hml, hown, hG⟩ (ih dC dI adK adV h0 q0 k23 k26 k39 k40 k24 k25 s.heap.size v0 f23 f26 f39 f40 f24 f25 z181 x2 x3 hv0 hf24 hf25 (show (0 : Int) ≤ (z181 : Int32).toInt ∧ (z181 : Int32).toInt ≤ (1299 : Int) from (by first | with_reducible assumption | exact ⟨by omega, by omega⟩)) (show (0 : Int) ≤ (x2 : Int32).toInt ∧ (x2 : Int32).toInt ≤ (1 : Int) from (by first | with_reducible assumption | exact ⟨by omega, by omega⟩)) (show z181.toInt < ((n : Nat) : Int) from by omega) (show zTr f23 f24 f25 f26 (v0 42).toInt (v0 47).toInt from by first | with_reducible assumption | assumption) (show z181.toInt < (v0 42).toInt from by omega)) (cwV 3 hG (zgV zv2166 zv2168 zv112 zv142 zv2169) rfl rfl rfl (by decide +kernel) ⟨(show n + 20 + 1 ≤ (n + 1) + 20 from by omega), (show 8 + (4 + 11) + (24 * n + 600) ≤ 24 * (n + 1) + 600 from by omega)⟩) ⟨zPc_blind, va_recv hKc hPc (ci := 13) (q0 := 0) rfl rfl, zPc_pre hPc hKc hDc hE hS hFc hZ⟩ rfl rfl hl.1 rfl (lv_room (Nat.le_of_ble_eq_true rfl)) dX13_note_184 ⟨Nat.le_of_ble_eq_true rfl, Nat.le_of_ble_eq_true rfl⟩) hS (fun q _ h => hFc q h) hFc (fun u184_ t H1 locs ht hvm hw hB hz1 hk1 hS => ?_)
                        obtain ⟨w184_, a184_, b184_, hB184_0, hP1, hK1, hD1⟩ := hB
                        have hB184_0 : zNoR f23 f24 f25 f26 ((z181 : Int32)).toNatClampNeg x2.toInt x3.toInt f39 f40 (a184_ 0) (a184_ 1) := hB184_0
                        rw [ht] at hP1
                        obtain ⟨hP, hD⟩ := va_join (wr := []) (w1 := [(h0, .inr (13, mX13 q0 v0)), ((q0 38), zi k23 1300 f23), ((q0 41), zi k26 1300 f26), ((q0 63), zi k39 40 (a184_ 0)), ((q0 64), zi k40 40 (a184_ 1)), ((q0 39), zi k24 1300 f24), ((q0 40), zi k25 1300 f25)]) hP hD [0, 1, 2, 3, 4, 5, 6] [] rfl rfl (by decide) (by decide) hk1 hFc hP1 hD1
                        have hP : va_P (dC, dI) vwCl [(h0, .inr (13, mX13 q0 v0)), ((q0 38), zi k23 1300 f23), ((q0 41), zi k26 1300 f26), ((q0 63), zi k39 40 (a184_ 0)), ((q0 64), zi k40 40 (a184_ 1)), ((q0 39), zi k24 1300 f24), ((q0 40), zi k25 1300 f25)] H1 := hP.sub [0, 1, 2, 3, 4, 5, 6] rfl
                        have hD : va_D A [(h0, .inr (13, mX13 q0 v0)), ((q0 38), zi k23 1300 f23), ((q0 41), zi k26 1300 f26), ((q0 63), zi k39 40 (a184_ 0)), ((q0 64), zi k40 40 (a184_ 1)), ((q0 39), zi k24 1300 f24), ((q0 40), zi k25 1300 f25)] := hD.sub [0, 1, 2, 3, 4, 5, 6] (by decide) rfl
                        generalize H1 = H at hP hS ⊢
                        clear hz1
                        refine lv_aload_n hx hb dX13_note_187 rfl (lv_at hl 0 rfl) ?_
                        refine lv_aload_n hx hb dX13_note_188 rfl (lv_at hl 0 rfl) ?_
                        refine va_get (D := (dC, dI)) (ci := 13) (v := .ref (q0 40)) (C := RX13) (T := TX13) (N := 75) hx hb hG zuX13 hown hK hP 0 rfl rfl 40 (by decide) (hG _ zv1644) (fun _ h9 => h9) rfl dX13_note_189 ?_
                        refine lv_iload_n hx hb dX13_note_192 rfl (lv_at hl 1 rfl) ?_
                        refine va_iald hx hb hK hP 6 5 rfl rfl (zin_lit ⟨by omega, by omega⟩) dX13_note_193 ?_
                        refine lv_topi (fun z193 e_z193 => ?_)
                        have b_ : (-1) ≤ z193.toInt ∧ z193.toInt ≤ 1299 := by rw [e_z193]; exact hf25 _
                        have b_ : 0 ≤ z193.toInt ∧ z193.toInt < x1.toInt := by have q := n1 (by omega); rw [← e_z193] at q; omega
                        refine lv_iconst (v := 1) hx hb dX13_note_194 (by decide) ?_
                        refine lv_iload_n hx hb dX13_note_195 rfl (lv_at hl 3 rfl) ?_
                        have hPc := hP.sub (ws' := [(h0, .inr (13, mX13 q0 v0)), ((q0 38), zi k23 1300 f23), ((q0 41), zi k26 1300 f26), ((q0 63), zi k39 40 (a184_ 0)), ((q0 64), zi k40 40 (a184_ 1)), ((q0 39), zi k24 1300 f24), ((q0 40), zi k25 1300 f25)]) [0, 1, 2, 3, 4, 5, 6] rfl
                        have hDc := hD.sub (ws' := [(h0, .inr (13, mX13 q0 v0)), ((q0 38), zi k23 1300 f23), ((q0 41), zi k26 1300 f26), ((q0 63), zi k39 40 (a184_ 0)), ((q0 64), zi k40 40 (a184_ 1)), ((q0 39), zi k24 1300 f24), ((q0 40), zi k25 1300 f25)]) [0, 1, 2, 3, 4, 5, 6] (by decide) rfl
                        have hKc := hK.sub (tys' := [(k23, .int), (k26, .int), (k39, .boolean), (k40, .int), (k24, .int), (k25, .int)]) [0, 1, 2, 3, 4, 5] rfl
                        have hFc := va_free (wc := [(h0, .inr (13, mX13 q0 v0)), ((q0 38), zi k23 1300 f23), ((q0 41), zi k26 1300 f26), ((q0 63), zi k39 40 (a184_ 0)), ((q0 64), zi k40 40 (a184_ 1)), ((q0 39), zi k24 1300 f24), ((q0 40), zi k25 1300 f25)]) hD hS hA [0, 1, 2, 3, 4, 5, 6] rfl
                        refine va_callv (va_runV (As := [.int z193, .int 1, .int x3]) (rest := []) ⟨hx, hb, hml, hown, hG⟩ (ih dC dI adK adV h0 q0 k23 k26 k39 k40 k24 k25 H.size v0 f23 f26 (a184_ 0) (a184_ 1) f24 f25 z193 1 x3 hv0 hf24 hf25 (show (0 : Int) ≤ (z193 : Int32).toInt ∧ (z193 : Int32).toInt ≤ (1299 : Int) from (by first | with_reducible assumption | exact ⟨by omega, by omega⟩)) ⟨show (0 : Int) ≤ (1 : Int32).toInt from by decide, show (1 : Int32).toInt ≤ (1 : Int) from by decide⟩ (show z193.toInt < ((n : Nat) : Int) from by omega) (show zTr f23 f24 f25 f26 (v0 42).toInt (v0 47).toInt from by first | with_reducible assumption | assumption) (show z193.toInt < (v0 42).toInt from by omega)) (cwV 3 hG (zgV zv2166 zv2168 zv112 zv142 zv2169) rfl rfl rfl (by decide +kernel) ⟨(show n + 20 + 1 ≤ (n + 1) + 20 from by omega), (show 8 + (4 + 11) + (24 * n + 600) ≤ 24 * (n + 1) + 600 from by omega)⟩) ⟨zPc_blind, va_recv hKc hPc (ci := 13) (q0 := 0) rfl rfl, zPc_pre hPc hKc hDc hE hS hFc hZ⟩ rfl rfl hl.1 rfl (lv_room (Nat.le_of_ble_eq_true rfl)) dX13_note_196 ⟨Nat.le_of_ble_eq_true rfl, Nat.le_of_ble_eq_true rfl⟩) hS (fun q _ h => hFc q h) hFc (fun u196_ t H1 locs ht hvm hw hB hz1 hk1 hS => ?_)
                        obtain ⟨w196_, a196_, b196_, hB196_0, hP1, hK1, hD1⟩ := hB
                        have hB196_0 : zNoR f23 f24 f25 f26 ((z193 : Int32)).toNatClampNeg (1 : Int32).toInt x3.toInt (a184_ 0) (a184_ 1) (a196_ 0) (a196_ 1) := hB196_0
                        rw [ht] at hP1
                        obtain ⟨hP, hD⟩ := va_join (wr := []) (w1 := [(h0, .inr (13, mX13 q0 v0)), ((q0 38), zi k23 1300 f23), ((q0 41), zi k26 1300 f26), ((q0 63), zi k39 40 (a196_ 0)), ((q0 64), zi k40 40 (a196_ 1)), ((q0 39), zi k24 1300 f24), ((q0 40), zi k25 1300 f25)]) hP hD [0, 1, 2, 3, 4, 5, 6] [] rfl rfl (by decide) (by decide) hk1 hFc hP1 hD1
                        have hP : va_P (dC, dI) vwCl [(h0, .inr (13, mX13 q0 v0)), ((q0 38), zi k23 1300 f23), ((q0 41), zi k26 1300 f26), ((q0 63), zi k39 40 (a196_ 0)), ((q0 64), zi k40 40 (a196_ 1)), ((q0 39), zi k24 1300 f24), ((q0 40), zi k25 1300 f25)] H1 := hP.sub [0, 1, 2, 3, 4, 5, 6] rfl
                        have hD : va_D A [(h0, .inr (13, mX13 q0 v0)), ((q0 38), zi k23 1300 f23), ((q0 41), zi k26 1300 f26), ((q0 63), zi k39 40 (a196_ 0)), ((q0 64), zi k40 40 (a196_ 1)), ((q0 39), zi k24 1300 f24), ((q0 40), zi k25 1300 f25)] := hD.sub [0, 1, 2, 3, 4, 5, 6] (by decide) rfl
                        generalize H1 = H at hP hS ⊢
                        clear hz1
                        refine W.widen (k := 0) (n := 0) (by decide) (by decide) ?_
                        have hpost : True := trivial
                        have hP9 : va_P (dC, dI) vwCl [(h0, .inr (13, mX13 q0 v0)), ((q0 38), zi k23 1300 f23), ((q0 41), zi k26 1300 f26), ((q0 63), zi k39 40 (a196_ 0)), ((q0 64), zi k40 40 (a196_ 1)), ((q0 39), zi k24 1300 f24), ((q0 40), zi k25 1300 f25)] H := hP
                        have hD9 : va_D A [(h0, .inr (13, mX13 q0 v0)), ((q0 38), zi k23 1300 f23), ((q0 41), zi k26 1300 f26), ((q0 63), zi k39 40 (a196_ 0)), ((q0 64), zi k40 40 (a196_ 1)), ((q0 39), zi k24 1300 f24), ((q0 40), zi k25 1300 f25)] := hD
                        have hB0 : zNoR f23 f24 f25 f26 ((x1 : Int32)).toNatClampNeg x2.toInt x3.toInt f39 f40 (a196_ 0) (a196_ 1) := by first | exact zNoR_1 e_z5 (by omega) e_z73 e_z93 (Or.inl ⟨by omega, by decide⟩) rfl e_f_83 e_f_95 | exact zNoR_1 e_z5 (by omega) e_z73 e_z93 (Or.inr ⟨by omega, by decide⟩) rfl e_f_83 e_f_95 | exact zNoR_4 e_z5 (by omega) e_z106 (by decide) e_f_108 | exact zNoR_6 e_z5 e_z116 hB132_0 (Or.inl ⟨by omega, rfl, zf6_e (by omega)⟩) | exact zNoR_6 e_z5 e_z142 hB158_0 (Or.inr (Or.inl ⟨by omega, rfl, zf7_e (by omega)⟩)) | exact zNoR_6 e_z5 e_z168 hB171_0 (Or.inr (Or.inr ⟨by omega, by decide, rfl⟩)) | exact zNoR_2 e_z5 e_z181 hB184_0 e_z193 hB196_0 (Or.inl ⟨by omega, by decide⟩) | exact zNoR_2 e_z5 e_z206 hB209_0 e_z218 hB221_0 (Or.inr ⟨by omega, rfl⟩)
                        exact W.vret hx hb hr (fun t ht hW => ⟨⟨(fun _ => 0), rfl, hpost, (fun _ => 0), (fun i => ([(a196_ 0), (a196_ 1)] : List (Nat → Int32)).getD i (fun _ => 0)), (fun _ => (fun _ => 0)), hB0, by rw [ht]; exact hP9, va_K.moved hW.alike hK, hD9⟩, hS.F ht⟩) hS.2.2 dX13_note_199
                      · skip
                        have b_ : z5.toInt ≠ 11 := fun h => c_ (zeqi.mpr (h.trans zk_11.symm))
                        exact False.elim (by omega)
theorem c_note (l : Launch) : ∀ k, C_X13_note k l := by
  intro k
  induction k with
  | zero =>
    intro dC dI adK adV h0 q0 k23 k26 k39 k40 k24 k25 sz v0 f23 f26 f39 f40 f24 f25 x1 x2 x3 hv0 hf24 hf25 hx1 hx2 hp0_ hp1_ hp2_
    exact False.elim (by omega)
  | succ n ih => exact sX13_note_0 l n ih
set_option maxHeartbeats 8000000 in
set_option maxRecDepth 100000 in
theorem sX13_isSame_1 (l : Launch) (dC : Nat → ClassId) (dI : Nat → Nat → Nat) (adK adV : Nat → Nat) (h0 : Nat) (q0 : Nat → Nat) (h50 : Nat) (k50 : ClassId) (k15 : ClassId) (sz : Nat) (v0 : Nat → Int32) (f50 : Nat → Int32) (f15 : Nat → Int32) (x2 : Int32) (x3 : Int32) (hv0 : zR rg_Model v0) (hx2 : 0 ≤ x2.toInt ∧ x2.toInt ≤ 108) (hx3 : 0 ≤ x3.toInt ∧ x3.toInt ≤ 12) : Met l yX13_isSame (zw yX13_isSame cX13_isSame 5 (some .boolean)) { frames := 0, cells := 0, slots := 0, locals := 0 } (zPc dC dI adK adV [.ref h0, .ref h50, .int x2, .int x3] sz [(h0, .inr (13, mX13 q0 v0)), (h50, zi k50 120 f50), ((q0 19), zi k15 12 f15)] [(k50, .byte), (k15, .byte)]) (va_Qi (fun (r : Int32) (u : Nat → Int32) => (0 ≤ r.toInt ∧ r.toInt ≤ 1) ∧ (r.toInt = 1 → zSme f50 x2.toInt x3.toInt f15 (v0 20).toInt) ∧ (r.toInt = 0 → ¬ zSme f50 x2.toInt x3.toInt f15 (v0 20).toInt)) (fun (u : Nat → Int32) (t : State) => ∃ (ww : Nat → Int64) (aa : Nat → Nat → Int32) (bb : Nat → Nat → Int64), va_P (dC, dI) vwCl [(h0, .inr (13, mX13 q0 v0)), (h50, zi k50 120 f50), ((q0 19), zi k15 12 f15)] t.heap ∧ va_K (dC, dI) vwCl [(k50, .byte), (k15, .byte)] t ∧ va_D (va_A [(h0, .inr (13, mX13 q0 v0)), (h50, zi k50 120 f50), ((q0 19), zi k15 12 f15)] sz) [(h0, .inr (13, mX13 q0 v0)), (h50, zi k50 120 f50), ((q0 19), zi k15 12 f15)]) (va_A [(h0, .inr (13, mX13 q0 v0)), (h50, zi k50 120 f50), ((q0 19), zi k15 12 f15)] sz)) 0 0 (va_A [(h0, .inr (13, mX13 q0 v0)), (h50, zi k50 120 f50), ((q0 19), zi k15 12 f15)] sz) := by
  refine Met.ofW (cc := cX13_isSame) (maxL := 5) (ret := (some .boolean)) (by decide) rfl ?_
  intro p e s m args below meth c s₁ B hml hv
  obtain ⟨rfl, hsz, hP, hK, hD0, hE, hZ⟩ := hv
  have hx := B.exec
  have hb := B.bytes
  have hr := B.returns
  have hG : ∀ w ∈ zG, w.before _ s = true := fun w h => atoms_spec (ws := (zw yX13_isSame cX13_isSame 5 (some .boolean))) B.pre w (List.mem_cons_of_mem _ h)
  have hown : s.vm.findClass RX13 = some m.cls := findClass_of_methodNamed B.named
  have hlocks := B.notSynchronized

  subst hsz
  have hD := hD0.self (sz := s.heap.size)
  generalize hAe : va_A [(h0, .inr (13, mX13 q0 v0)), (h50, zi k50 120 f50), ((q0 19), zi k15 12 f15)] s.heap.size = A at hD hZ ⊢
  have hA : ∀ q : Nat, s.heap.size ≤ q → A q := fun q h => by rw [← hAe]; exact Or.inr h
  have hS : va_S A s.heap s.heap [] := va_S.rf
  have hl := lv_entry ([.ref h0, .ref h50, .int x2, .int x3]) (n := 5) (Nat.le_of_ble_eq_true rfl)
  rw [lg_entry_eq]
  generalize (lg_sl ([.ref h0, .ref h50, .int x2, .int x3]) ++ List.replicate (5 - (lg_sl ([.ref h0, .ref h50, .int x2, .int x3])).length) Slot.unset).toArray = ls at hl ⊢
  have hl : lv_has ls 5 [(0, .ref h0), (1, .ref h50), (2, .int x2), (3, .int x3)] := hl
  have b_ := zk_0
  have b_ := zk_1
  have b_ : 0 ≤ (v0 20).toInt ∧ (v0 20).toInt ≤ 12 := hv0 20
  refine lv_iload_n hx hb dX13_isSame_0 rfl (lv_at hl 3 rfl) ?_
  refine lv_aload_n hx hb dX13_isSame_1 rfl (lv_at hl 0 rfl) ?_
  refine va_get (D := (dC, dI)) (ci := 13) (v := .int (v0 20)) (C := RX13) (T := TX13) (N := 75) hx hb hG zuX13 hown hK hP 0 rfl rfl 20 (by decide) (hG _ zv1624) (fun _ h9 => h9) rfl dX13_isSame_2 ?_
  refine lv_icmp_eq (tgt := 10) hx hb dX13_isSame_5 (by decide) (fun c_ => ?_) (fun c_ => ?_)
  · skip
    have b_ := zT_eq rfl rfl c_
    refine lv_iconst (v := 0) hx hb dX13_isSame_10 (by decide) ?_
    refine lv_istore (lv' := [(4, .int 0), (0, .ref h0), (1, .ref h50), (2, .int x2), (3, .int x3)]) hx hb dX13_isSame_11 hl (by decide) rfl (fun ls hl => ?_)
    refine zcutL (fun u13_ => (12 - (u13_ 0).toInt).toNat) (fun H locs ls u13_ w13_ a13_ b13_ => va_P (dC, dI) vwCl [(h0, .inr (13, mX13 q0 v0)), (h50, zi k50 120 f50), ((q0 19), zi k15 12 f15)] H ∧ va_D A [(h0, .inr (13, mX13 q0 v0)), (h50, zi k50 120 f50), ((q0 19), zi k15 12 f15)] ∧ va_S A s.heap H locs ∧ lv_has ls 5 [(0, .ref h0), (1, .ref h50), (2, .int x2), (3, .int x3), (4, .int (u13_ 0))] ∧ (0 ≤ (u13_ 0).toInt ∧ (u13_ 0).toInt ≤ 12) ∧ (zSmk f50 x2.toInt f15 (u13_ 0).toInt)) (fun ls u13_ w13_ => F0 m 13 ls []) 0 0 ?_ (fun hJ13 => ?_)
    · skip
      intro H locs ls u13_ w13_ a13_ b13_ hc hJ13
      obtain ⟨hP, hD, hS, hl, b_, hI13_0⟩ := hc
      refine lv_iload hx hb dX13_isSame_13 (lv_at hl 4 rfl) ?_
      refine lv_iload_n hx hb dX13_isSame_15 rfl (lv_at hl 3 rfl) ?_
      refine lv_icmp_ge (tgt := 43) hx hb dX13_isSame_16 (by decide) (fun c_ => ?_) (fun c_ => ?_)
      · skip
        have b_ := zT_ge rfl rfl c_
        refine lv_iconst (v := 1) hx hb dX13_isSame_43 (by decide) ?_
        refine W.widen (k := 0) (n := 0) (by decide) (by decide) ?_
        have hpost : (0 ≤ (1 : Int32).toInt ∧ (1 : Int32).toInt ≤ 1) ∧ ((1 : Int32).toInt = 1 → zSme f50 x2.toInt x3.toInt f15 (v0 20).toInt) ∧ ((1 : Int32).toInt = 0 → ¬ zSme f50 x2.toInt x3.toInt f15 (v0 20).toInt) := ⟨(by first | with_reducible assumption | exact ⟨by omega, by omega⟩), by first | (intro q; exact absurd q (by decide)) | exact fun _ => zSme_y (by assumption) (by omega) (by omega), by first | (intro q; exact absurd q (by decide)) | exact fun _ => zSme_n e_z24 e_z31 (by omega) (by omega) (by omega) (by omega) (by omega) | exact fun _ q => absurd q.1 (by omega)⟩
        have hP9 : va_P (dC, dI) vwCl [(h0, .inr (13, mX13 q0 v0)), (h50, zi k50 120 f50), ((q0 19), zi k15 12 f15)] H := hP
        have hD9 : va_D A [(h0, .inr (13, mX13 q0 v0)), (h50, zi k50 120 f50), ((q0 19), zi k15 12 f15)] := hD
        exact W.zret (v := 1) hx hb hr rfl (fun t ht hW => ⟨⟨1, (fun _ => 0), rfl, hpost, (fun _ => 0), (fun _ => (fun _ => 0)), (fun _ => (fun _ => 0)), by rw [ht]; exact hP9, va_K.moved hW.alike hK, hD9⟩, hS.F ht⟩) hS.2.2 dX13_isSame_44
      · skip
        have b_ := zF_ge rfl rfl c_
        refine lv_aload_n hx hb dX13_isSame_19 rfl (lv_at hl 1 rfl) ?_
        refine lv_iload_n hx hb dX13_isSame_20 rfl (lv_at hl 2 rfl) ?_
        refine lv_iload hx hb dX13_isSame_21 (lv_at hl 4 rfl) ?_
        refine lv_iadd hx hb dX13_isSame_23 ?_
        refine lv_topi (fun z23 e_z23 => ?_)
        have b_ := zadd rfl rfl e_z23 (by omega) (by omega)
        refine va_bald hx hb hK hP 1 0 rfl rfl (zin_lit ⟨by omega, by omega⟩) dX13_isSame_24 ?_
        refine lv_topi (fun z24 e_z24 => ?_)
        refine lv_aload_n hx hb dX13_isSame_25 rfl (lv_at hl 0 rfl) ?_
        refine va_get (D := (dC, dI)) (ci := 13) (v := .ref (q0 19)) (C := RX13) (T := TX13) (N := 75) hx hb hG zuX13 hown hK hP 0 rfl rfl 19 (by decide) (hG _ zv1623) (fun _ h9 => h9) rfl dX13_isSame_26 ?_
        refine lv_iload hx hb dX13_isSame_29 (lv_at hl 4 rfl) ?_
        refine va_bald hx hb hK hP 2 1 rfl rfl (zin_lit ⟨by omega, by omega⟩) dX13_isSame_31 ?_
        refine lv_topi (fun z31 e_z31 => ?_)
        have b_ : -2147483648 ≤ z24.toInt ∧ z24.toInt ≤ 2147483647 := ⟨zlo _, zhi _⟩
        have b_ : -2147483648 ≤ z31.toInt ∧ z31.toInt ≤ 2147483647 := ⟨zlo _, zhi _⟩
        refine lv_icmp_eq (tgt := 37) hx hb dX13_isSame_32 (by decide) (fun c_ => ?_) (fun c_ => ?_)
        · skip
          have b_ := zT_eq rfl rfl c_
          obtain ⟨z37, e_z37⟩ : ∃ z : Int32, z = (u13_ 0) + Int32.ofInt 1 := ⟨_, rfl⟩
          have b_ := zadd (x := (u13_ 0)) (y := Int32.ofInt 1) rfl (show (Int32.ofInt 1).toInt = 1 from by decide) e_z37 (by omega) (by omega)
          refine lv_iinc (v := z37) (lv' := [(4, .int z37), (0, .ref h0), (1, .ref h50), (2, .int x2), (3, .int x3)]) hx hb dX13_isSame_37 hl (k := 4) rfl e_z37.symm (by decide) rfl (fun ls hl => ?_)
          refine lv_goto (tgt := 13) hx hb dX13_isSame_40 (by decide) ?_
          have hc : va_P (dC, dI) vwCl [(h0, .inr (13, mX13 q0 v0)), (h50, zi k50 120 f50), ((q0 19), zi k15 12 f15)] H ∧ va_D A [(h0, .inr (13, mX13 q0 v0)), (h50, zi k50 120 f50), ((q0 19), zi k15 12 f15)] ∧ va_S A s.heap H locs ∧ lv_has ls 5 [(0, .ref h0), (1, .ref h50), (2, .int x2), (3, .int x3), (4, .int z37)] ∧ (0 ≤ z37.toInt ∧ z37.toInt ≤ 12) ∧ (zSmk f50 x2.toInt f15 z37.toInt) := ⟨hP, hD, hS, lv_sub hl [1, 2, 3, 4, 0] rfl, (by first | with_reducible assumption | exact ⟨by omega, by omega⟩), by first | exact zSmk_0 (by omega) | exact zSmk_s (by assumption) e_z24 e_z31 (by omega) (by omega) (by omega) (by omega) (by omega)⟩
          exact hJ13 H locs ls (fun i => ([z37] : List (Int32)).getD i 0) (fun _ => 0) (fun _ => (fun _ => 0)) (fun _ => (fun _ => 0)) hc (show (12 - z37.toInt).toNat < (12 - (u13_ 0).toInt).toNat from by omega)
        · skip
          have b_ := zF_eq rfl rfl c_
          refine lv_iconst (v := 0) hx hb dX13_isSame_35 (by decide) ?_
          refine W.widen (k := 0) (n := 0) (by decide) (by decide) ?_
          have hpost : (0 ≤ (0 : Int32).toInt ∧ (0 : Int32).toInt ≤ 1) ∧ ((0 : Int32).toInt = 1 → zSme f50 x2.toInt x3.toInt f15 (v0 20).toInt) ∧ ((0 : Int32).toInt = 0 → ¬ zSme f50 x2.toInt x3.toInt f15 (v0 20).toInt) := ⟨(by first | with_reducible assumption | exact ⟨by omega, by omega⟩), by first | (intro q; exact absurd q (by decide)) | exact fun _ => zSme_y (by assumption) (by omega) (by omega), by first | (intro q; exact absurd q (by decide)) | exact fun _ => zSme_n e_z24 e_z31 (by omega) (by omega) (by omega) (by omega) (by omega) | exact fun _ q => absurd q.1 (by omega)⟩
          have hP9 : va_P (dC, dI) vwCl [(h0, .inr (13, mX13 q0 v0)), (h50, zi k50 120 f50), ((q0 19), zi k15 12 f15)] H := hP
          have hD9 : va_D A [(h0, .inr (13, mX13 q0 v0)), (h50, zi k50 120 f50), ((q0 19), zi k15 12 f15)] := hD
          exact W.zret (v := 0) hx hb hr rfl (fun t ht hW => ⟨⟨0, (fun _ => 0), rfl, hpost, (fun _ => 0), (fun _ => (fun _ => 0)), (fun _ => (fun _ => 0)), by rw [ht]; exact hP9, va_K.moved hW.alike hK, hD9⟩, hS.F ht⟩) hS.2.2 dX13_isSame_36
    · skip
      have hc : va_P (dC, dI) vwCl [(h0, .inr (13, mX13 q0 v0)), (h50, zi k50 120 f50), ((q0 19), zi k15 12 f15)] s.heap ∧ va_D A [(h0, .inr (13, mX13 q0 v0)), (h50, zi k50 120 f50), ((q0 19), zi k15 12 f15)] ∧ va_S A s.heap s.heap [] ∧ lv_has ls 5 [(0, .ref h0), (1, .ref h50), (2, .int x2), (3, .int x3), (4, .int 0)] ∧ (0 ≤ (0 : Int32).toInt ∧ (0 : Int32).toInt ≤ 12) ∧ (zSmk f50 x2.toInt f15 (0 : Int32).toInt) := ⟨hP, hD, hS, lv_sub hl [1, 2, 3, 4, 0] rfl, (by first | with_reducible assumption | exact ⟨by omega, by omega⟩), by first | exact zSmk_0 (by omega) | exact zSmk_s (by assumption) e_z24 e_z31 (by omega) (by omega) (by omega) (by omega) (by omega)⟩
      exact hJ13 s.heap [] ls (fun i => ([0] : List (Int32)).getD i 0) (fun _ => 0) (fun _ => (fun _ => 0)) (fun _ => (fun _ => 0)) hc
  · skip
    have b_ := zF_eq rfl rfl c_
    refine lv_iconst (v := 0) hx hb dX13_isSame_8 (by decide) ?_
    refine W.widen (k := 0) (n := 0) (by decide) (by decide) ?_
    have hpost : (0 ≤ (0 : Int32).toInt ∧ (0 : Int32).toInt ≤ 1) ∧ ((0 : Int32).toInt = 1 → zSme f50 x2.toInt x3.toInt f15 (v0 20).toInt) ∧ ((0 : Int32).toInt = 0 → ¬ zSme f50 x2.toInt x3.toInt f15 (v0 20).toInt) := ⟨(by first | with_reducible assumption | exact ⟨by omega, by omega⟩), by first | (intro q; exact absurd q (by decide)) | exact fun _ => zSme_y (by assumption) (by omega) (by omega), by first | (intro q; exact absurd q (by decide)) | exact fun _ => zSme_n e_z24 e_z31 (by omega) (by omega) (by omega) (by omega) (by omega) | exact fun _ q => absurd q.1 (by omega)⟩
    have hP9 : va_P (dC, dI) vwCl [(h0, .inr (13, mX13 q0 v0)), (h50, zi k50 120 f50), ((q0 19), zi k15 12 f15)] s.heap := hP
    have hD9 : va_D A [(h0, .inr (13, mX13 q0 v0)), (h50, zi k50 120 f50), ((q0 19), zi k15 12 f15)] := hD
    exact W.zret (v := 0) hx hb hr rfl (fun t ht hW => ⟨⟨0, (fun _ => 0), rfl, hpost, (fun _ => 0), (fun _ => (fun _ => 0)), (fun _ => (fun _ => 0)), by rw [ht]; exact hP9, va_K.moved hW.alike hK, hD9⟩, hS.F ht⟩) hS.2.2 dX13_isSame_9
set_option maxHeartbeats 8000000 in
set_option maxRecDepth 100000 in
theorem sX13_findStop_0 (l : Launch) (dC : Nat → ClassId) (dI : Nat → Nat → Nat) (adK adV : Nat → Nat) (h0 : Nat) (q0 : Nat → Nat) (k13 : ClassId) (k12 : ClassId) (k15 : ClassId) (sz : Nat) (v0 : Nat → Int32) (f13 : Nat → Int32) (f12 : Nat → Int32) (f15 : Nat → Int32) (hv0 : zR rg_Model v0) (hf13 : zA 0 12 f13) : Met l yX13_findStop (zw yX13_findStop cX13_findStop 2 (some .int)) { frames := 1, cells := 0, slots := 0, locals := 24 } (zPc dC dI adK adV [.ref h0] sz [(h0, .inr (13, mX13 q0 v0)), ((q0 15), zi k13 10 f13), ((q0 14), zi k12 120 f12), ((q0 19), zi k15 12 f15)] [(k13, .int), (k12, .byte), (k15, .byte)]) (va_Qi (fun (r : Int32) (u : Nat → Int32) => ((-1) ≤ r.toInt ∧ r.toInt ≤ 9) ∧ (r.toInt < (v0 16).toInt) ∧ (zFd f12 f13 f15 (v0 20).toInt (v0 16).toInt r.toInt)) (fun (u : Nat → Int32) (t : State) => ∃ (ww : Nat → Int64) (aa : Nat → Nat → Int32) (bb : Nat → Nat → Int64), va_P (dC, dI) vwCl [(h0, .inr (13, mX13 q0 v0)), ((q0 15), zi k13 10 f13), ((q0 14), zi k12 120 f12), ((q0 19), zi k15 12 f15)] t.heap ∧ va_K (dC, dI) vwCl [(k13, .int), (k12, .byte), (k15, .byte)] t ∧ va_D (va_A [(h0, .inr (13, mX13 q0 v0)), ((q0 15), zi k13 10 f13), ((q0 14), zi k12 120 f12), ((q0 19), zi k15 12 f15)] sz) [(h0, .inr (13, mX13 q0 v0)), ((q0 15), zi k13 10 f13), ((q0 14), zi k12 120 f12), ((q0 19), zi k15 12 f15)]) (va_A [(h0, .inr (13, mX13 q0 v0)), ((q0 15), zi k13 10 f13), ((q0 14), zi k12 120 f12), ((q0 19), zi k15 12 f15)] sz)) 0 0 (va_A [(h0, .inr (13, mX13 q0 v0)), ((q0 15), zi k13 10 f13), ((q0 14), zi k12 120 f12), ((q0 19), zi k15 12 f15)] sz) := by
  refine Met.ofW (cc := cX13_findStop) (maxL := 2) (ret := (some .int)) (by decide) rfl ?_
  intro p e s m args below meth c s₁ B hml hv
  obtain ⟨rfl, hsz, hP, hK, hD0, hE, hZ⟩ := hv
  have hx := B.exec
  have hb := B.bytes
  have hr := B.returns
  have hG : ∀ w ∈ zG, w.before _ s = true := fun w h => atoms_spec (ws := (zw yX13_findStop cX13_findStop 2 (some .int))) B.pre w (List.mem_cons_of_mem _ h)
  have hown : s.vm.findClass RX13 = some m.cls := findClass_of_methodNamed B.named
  have hlocks := B.notSynchronized

  subst hsz
  have hD := hD0.self (sz := s.heap.size)
  generalize hAe : va_A [(h0, .inr (13, mX13 q0 v0)), ((q0 15), zi k13 10 f13), ((q0 14), zi k12 120 f12), ((q0 19), zi k15 12 f15)] s.heap.size = A at hD hZ ⊢
  have hA : ∀ q : Nat, s.heap.size ≤ q → A q := fun q h => by rw [← hAe]; exact Or.inr h
  have hS : va_S A s.heap s.heap [] := va_S.rf
  have hl := lv_entry ([.ref h0]) (n := 2) (Nat.le_of_ble_eq_true rfl)
  rw [lg_entry_eq]
  generalize (lg_sl ([.ref h0]) ++ List.replicate (2 - (lg_sl ([.ref h0])).length) Slot.unset).toArray = ls at hl ⊢
  have hl : lv_has ls 2 [(0, .ref h0)] := hl
  have b_ := zk_m1
  have b_ := zk_0
  have b_ : 0 ≤ (v0 16).toInt ∧ (v0 16).toInt ≤ 10 := hv0 16
  have b_ : 0 ≤ (v0 20).toInt ∧ (v0 20).toInt ≤ 12 := hv0 20
  refine lv_iconst (v := 0) hx hb dX13_findStop_0 (by decide) ?_
  refine lv_istore_n (lv' := [(1, .int 0), (0, .ref h0)]) hx hb dX13_findStop_1 rfl hl (by decide) rfl (fun ls hl => ?_)
  refine zcutL (fun u2_ => (10 - (u2_ 0).toInt).toNat) (fun H locs ls u2_ w2_ a2_ b2_ => va_P (dC, dI) vwCl [(h0, .inr (13, mX13 q0 v0)), ((q0 15), zi k13 10 f13), ((q0 14), zi k12 120 f12), ((q0 19), zi k15 12 f15)] H ∧ va_D A [(h0, .inr (13, mX13 q0 v0)), ((q0 15), zi k13 10 f13), ((q0 14), zi k12 120 f12), ((q0 19), zi k15 12 f15)] ∧ va_S A s.heap H locs ∧ lv_has ls 2 [(0, .ref h0), (1, .int (u2_ 0))] ∧ (0 ≤ (u2_ 0).toInt ∧ (u2_ 0).toInt ≤ 10) ∧ (zFn f12 f13 f15 (v0 20).toInt (u2_ 0).toInt)) (fun ls u2_ w2_ => F0 m 2 ls []) 0 0 ?_ (fun hJ2 => ?_)
  · skip
    intro H locs ls u2_ w2_ a2_ b2_ hc hJ2
    obtain ⟨hP, hD, hS, hl, b_, hI2_0⟩ := hc
    refine lv_iload_n hx hb dX13_findStop_2 rfl (lv_at hl 1 rfl) ?_
    refine lv_aload_n hx hb dX13_findStop_3 rfl (lv_at hl 0 rfl) ?_
    refine va_get (D := (dC, dI)) (ci := 13) (v := .int (v0 16)) (C := RX13) (T := TX13) (N := 75) hx hb hG zuX13 hown hK hP 0 rfl rfl 16 (by decide) (hG _ zv1620) (fun _ h9 => h9) rfl dX13_findStop_4 ?_
    refine lv_icmp_ge (tgt := 39) hx hb dX13_findStop_7 (by decide) (fun c_ => ?_) (fun c_ => ?_)
    · skip
      have b_ := zT_ge rfl rfl c_
      refine lv_iconst (v := (-1)) hx hb dX13_findStop_39 (by decide) ?_
      refine W.widen (k := 0) (n := 0) (by decide) (by decide) ?_
      have hpost : ((-1) ≤ ((-1) : Int32).toInt ∧ ((-1) : Int32).toInt ≤ 9) ∧ (((-1) : Int32).toInt < (v0 16).toInt) ∧ (zFd f12 f13 f15 (v0 20).toInt (v0 16).toInt ((-1) : Int32).toInt) := ⟨(by first | with_reducible assumption | exact ⟨by omega, by omega⟩), by omega, by first | exact zFd_y e_z24 (hX25_0 (by omega)) (by omega) (by omega) (by omega) | exact zFd_n (by assumption) (by omega) (by first | decide | omega)⟩
      have hP9 : va_P (dC, dI) vwCl [(h0, .inr (13, mX13 q0 v0)), ((q0 15), zi k13 10 f13), ((q0 14), zi k12 120 f12), ((q0 19), zi k15 12 f15)] H := hP
      have hD9 : va_D A [(h0, .inr (13, mX13 q0 v0)), ((q0 15), zi k13 10 f13), ((q0 14), zi k12 120 f12), ((q0 19), zi k15 12 f15)] := hD
      exact W.iret (v := (-1)) hx hb hr (fun t ht hW => ⟨⟨(-1), (fun _ => 0), rfl, hpost, (fun _ => 0), (fun _ => (fun _ => 0)), (fun _ => (fun _ => 0)), by rw [ht]; exact hP9, va_K.moved hW.alike hK, hD9⟩, hS.F ht⟩) hS.2.2 dX13_findStop_40
    · skip
      have b_ := zF_ge rfl rfl c_
      refine lv_aload_n hx hb dX13_findStop_10 rfl (lv_at hl 0 rfl) ?_
      refine lv_aload_n hx hb dX13_findStop_11 rfl (lv_at hl 0 rfl) ?_
      refine va_get (D := (dC, dI)) (ci := 13) (v := .ref (q0 14)) (C := RX13) (T := TX13) (N := 75) hx hb hG zuX13 hown hK hP 0 rfl rfl 14 (by decide) (hG _ zv1618) (fun _ h9 => h9) rfl dX13_findStop_12 ?_
      refine lv_bipush (v := 12) hx hb dX13_findStop_15 (by decide) ?_
      refine lv_iload_n hx hb dX13_findStop_17 rfl (lv_at hl 1 rfl) ?_
      refine lv_imul hx hb dX13_findStop_18 ?_
      refine lv_topi (fun z18 e_z18 => ?_)
      have b_ := zmul zk_12 rfl e_z18 (by omega) (by omega)
      refine lv_aload_n hx hb dX13_findStop_19 rfl (lv_at hl 0 rfl) ?_
      refine va_get (D := (dC, dI)) (ci := 13) (v := .ref (q0 15)) (C := RX13) (T := TX13) (N := 75) hx hb hG zuX13 hown hK hP 0 rfl rfl 15 (by decide) (hG _ zv1619) (fun _ h9 => h9) rfl dX13_findStop_20 ?_
      refine lv_iload_n hx hb dX13_findStop_23 rfl (lv_at hl 1 rfl) ?_
      refine va_iald hx hb hK hP 1 0 rfl rfl (zin_lit ⟨by omega, by omega⟩) dX13_findStop_24 ?_
      refine lv_topi (fun z24 e_z24 => ?_)
      have b_ : 0 ≤ z24.toInt ∧ z24.toInt ≤ 12 := by rw [e_z24]; exact hf13 _
      have hPc := hP.sub (ws' := [(h0, .inr (13, mX13 q0 v0)), ((q0 14), zi k12 120 f12), ((q0 19), zi k15 12 f15)]) [0, 2, 3] rfl
      have hDc := hD.sub (ws' := [(h0, .inr (13, mX13 q0 v0)), ((q0 14), zi k12 120 f12), ((q0 19), zi k15 12 f15)]) [0, 2, 3] (by decide) rfl
      have hKc := hK.sub (tys' := [(k12, .byte), (k15, .byte)]) [1, 2] rfl
      have hFc := va_free (wc := [(h0, .inr (13, mX13 q0 v0)), ((q0 14), zi k12 120 f12), ((q0 19), zi k15 12 f15)]) hD hS hA [0, 2, 3] rfl
      refine va_calli (va_runV (As := [.ref (q0 14), .int z18, .int z24]) (rest := []) ⟨hx, hb, hml, hown, hG⟩ (sX13_isSame_1 l dC dI adK adV h0 q0 (q0 14) k12 k15 H.size v0 f12 f15 z18 z24 hv0 (show (0 : Int) ≤ (z18 : Int32).toInt ∧ (z18 : Int32).toInt ≤ (108 : Int) from (by first | with_reducible assumption | exact ⟨by omega, by omega⟩)) (show (0 : Int) ≤ (z24 : Int32).toInt ∧ (z24 : Int32).toInt ≤ (12 : Int) from (by first | with_reducible assumption | exact ⟨by omega, by omega⟩))) (cwV 3 hG (zgV zv1885 zv1887 zv56 zv142 zv1888) rfl rfl rfl (by decide +kernel) ⟨Nat.le_of_ble_eq_true rfl, Nat.le_of_ble_eq_true rfl⟩) ⟨zPc_blind, va_recv hKc hPc (ci := 13) (q0 := 0) rfl rfl, zPc_pre hPc hKc hDc hE hS hFc hZ⟩ rfl rfl hl.1 rfl (lv_room (Nat.le_of_ble_eq_true rfl)) dX13_findStop_25 ⟨Nat.le_of_ble_eq_true rfl, Nat.le_of_ble_eq_true rfl⟩) hS (fun q _ h => hFc q h) hFc (fun r25_ u25_ t H1 locs ht hvm hw hB hz1 hk1 hS => ?_)
      replace hw : (0 ≤ r25_.toInt ∧ r25_.toInt ≤ 1) ∧ (r25_.toInt = 1 → zSme f12 z18.toInt z24.toInt f15 (v0 20).toInt) ∧ (r25_.toInt = 0 → ¬ zSme f12 z18.toInt z24.toInt f15 (v0 20).toInt) := hw
      obtain ⟨b_, hX25_0, hX25_1⟩ := hw
      obtain ⟨w25_, a25_, b25_, hP1, hK1, hD1⟩ := hB
      rw [ht] at hP1
      obtain ⟨hP, hD⟩ := va_join (wr := [((q0 15), zi k13 10 f13)]) (w1 := [(h0, .inr (13, mX13 q0 v0)), ((q0 14), zi k12 120 f12), ((q0 19), zi k15 12 f15)]) hP hD [0, 2, 3] [1] rfl rfl (by decide) (by decide) hk1 hFc hP1 hD1
      have hP : va_P (dC, dI) vwCl [(h0, .inr (13, mX13 q0 v0)), ((q0 15), zi k13 10 f13), ((q0 14), zi k12 120 f12), ((q0 19), zi k15 12 f15)] H1 := hP.sub [1, 0, 2, 3] rfl
      have hD : va_D A [(h0, .inr (13, mX13 q0 v0)), ((q0 15), zi k13 10 f13), ((q0 14), zi k12 120 f12), ((q0 19), zi k15 12 f15)] := hD.sub [1, 0, 2, 3] (by decide) rfl
      generalize H1 = H at hP hS ⊢
      clear hz1
      refine lv_if_eq (tgt := 33) hx hb dX13_findStop_28 (by decide) (fun c_ => ?_) (fun c_ => ?_)
      · skip
        have b_ := zT_eq rfl zk_0 c_
        obtain ⟨z33, e_z33⟩ : ∃ z : Int32, z = (u2_ 0) + Int32.ofInt 1 := ⟨_, rfl⟩
        have b_ := zadd (x := (u2_ 0)) (y := Int32.ofInt 1) rfl (show (Int32.ofInt 1).toInt = 1 from by decide) e_z33 (by omega) (by omega)
        refine lv_iinc (v := z33) (lv' := [(1, .int z33), (0, .ref h0)]) hx hb dX13_findStop_33 hl (k := 1) rfl e_z33.symm (by decide) rfl (fun ls hl => ?_)
        refine lv_goto (tgt := 2) hx hb dX13_findStop_36 (by decide) ?_
        have hc : va_P (dC, dI) vwCl [(h0, .inr (13, mX13 q0 v0)), ((q0 15), zi k13 10 f13), ((q0 14), zi k12 120 f12), ((q0 19), zi k15 12 f15)] H ∧ va_D A [(h0, .inr (13, mX13 q0 v0)), ((q0 15), zi k13 10 f13), ((q0 14), zi k12 120 f12), ((q0 19), zi k15 12 f15)] ∧ va_S A s.heap H locs ∧ lv_has ls 2 [(0, .ref h0), (1, .int z33)] ∧ (0 ≤ z33.toInt ∧ z33.toInt ≤ 10) ∧ (zFn f12 f13 f15 (v0 20).toInt z33.toInt) := ⟨hP, hD, hS, lv_sub hl [1, 0] rfl, (by first | with_reducible assumption | exact ⟨by omega, by omega⟩), by first | exact zFn_0 (by omega) | exact zFn_s (by assumption) e_z24 (by omega) (by omega) (hX25_1 (by omega)) (by omega)⟩
        exact hJ2 H locs ls (fun i => ([z33] : List (Int32)).getD i 0) (fun _ => 0) (fun _ => (fun _ => 0)) (fun _ => (fun _ => 0)) hc (show (10 - z33.toInt).toNat < (10 - (u2_ 0).toInt).toNat from by omega)
      · skip
        have b_ := zF_eq rfl zk_0 c_
        refine lv_iload_n hx hb dX13_findStop_31 rfl (lv_at hl 1 rfl) ?_
        refine W.widen (k := 0) (n := 0) (by decide) (by decide) ?_
        have hpost : ((-1) ≤ (u2_ 0).toInt ∧ (u2_ 0).toInt ≤ 9) ∧ ((u2_ 0).toInt < (v0 16).toInt) ∧ (zFd f12 f13 f15 (v0 20).toInt (v0 16).toInt (u2_ 0).toInt) := ⟨(by first | with_reducible assumption | exact ⟨by omega, by omega⟩), by omega, by first | exact zFd_y e_z24 (hX25_0 (by omega)) (by omega) (by omega) (by omega) | exact zFd_n (by assumption) (by omega) (by first | decide | omega)⟩
        have hP9 : va_P (dC, dI) vwCl [(h0, .inr (13, mX13 q0 v0)), ((q0 15), zi k13 10 f13), ((q0 14), zi k12 120 f12), ((q0 19), zi k15 12 f15)] H := hP
        have hD9 : va_D A [(h0, .inr (13, mX13 q0 v0)), ((q0 15), zi k13 10 f13), ((q0 14), zi k12 120 f12), ((q0 19), zi k15 12 f15)] := hD
        exact W.iret (v := (u2_ 0)) hx hb hr (fun t ht hW => ⟨⟨(u2_ 0), (fun _ => 0), rfl, hpost, (fun _ => 0), (fun _ => (fun _ => 0)), (fun _ => (fun _ => 0)), by rw [ht]; exact hP9, va_K.moved hW.alike hK, hD9⟩, hS.F ht⟩) hS.2.2 dX13_findStop_32
  · skip
    have hc : va_P (dC, dI) vwCl [(h0, .inr (13, mX13 q0 v0)), ((q0 15), zi k13 10 f13), ((q0 14), zi k12 120 f12), ((q0 19), zi k15 12 f15)] s.heap ∧ va_D A [(h0, .inr (13, mX13 q0 v0)), ((q0 15), zi k13 10 f13), ((q0 14), zi k12 120 f12), ((q0 19), zi k15 12 f15)] ∧ va_S A s.heap s.heap [] ∧ lv_has ls 2 [(0, .ref h0), (1, .int 0)] ∧ (0 ≤ (0 : Int32).toInt ∧ (0 : Int32).toInt ≤ 10) ∧ (zFn f12 f13 f15 (v0 20).toInt (0 : Int32).toInt) := ⟨hP, hD, hS, lv_sub hl [1, 0] rfl, (by first | with_reducible assumption | exact ⟨by omega, by omega⟩), by first | exact zFn_0 (by omega) | exact zFn_s (by assumption) e_z24 (by omega) (by omega) (hX25_1 (by omega)) (by omega)⟩
    exact hJ2 s.heap [] ls (fun i => ([0] : List (Int32)).getD i 0) (fun _ => 0) (fun _ => (fun _ => 0)) (fun _ => (fun _ => 0)) hc
set_option maxHeartbeats 8000000 in
set_option maxRecDepth 100000 in
theorem sX13_isStopped_0 (l : Launch) (dC : Nat → ClassId) (dI : Nat → Nat → Nat) (adK adV : Nat → Nat) (h0 : Nat) (q0 : Nat → Nat) (k32 : ClassId) (k13 : ClassId) (k12 : ClassId) (k15 : ClassId) (k31 : ClassId) (sz : Nat) (v0 : Nat → Int32) (f32 : Nat → Int32) (f13 : Nat → Int32) (f12 : Nat → Int32) (f15 : Nat → Int32) (f31 : Nat → Int32) (x1 : Int32) (hv0 : zR rg_Model v0) (hf32 : zA 0 12 f32) (hf13 : zA 0 12 f13) (hx1 : 0 ≤ x1.toInt ∧ x1.toInt ≤ 199) : Met l yX13_isStopped (zw yX13_isStopped cX13_isStopped 3 (some .boolean)) { frames := 2, cells := 0, slots := 0, locals := 45 } (zPc dC dI adK adV [.ref h0, .int x1] sz [(h0, .inr (13, mX13 q0 v0)), ((q0 49), zi k32 200 f32), ((q0 15), zi k13 10 f13), ((q0 14), zi k12 120 f12), ((q0 19), zi k15 12 f15), ((q0 48), zi k31 2400 f31)] [(k32, .int), (k13, .int), (k12, .byte), (k15, .byte), (k31, .byte)]) (va_Qi (fun (r : Int32) (u : Nat → Int32) => (0 ≤ r.toInt ∧ r.toInt ≤ 1) ∧ (0 ≤ (u 0).toInt ∧ (u 0).toInt ≤ 12) ∧ ((u 0).toInt = (f32 ((x1 : Int32)).toNatClampNeg).toInt) ∧ (r.toInt = (u 1).toInt)) (fun (u : Nat → Int32) (t : State) => ∃ (ww : Nat → Int64) (aa : Nat → Nat → Int32) (bb : Nat → Nat → Int64), (zC f15 (aa 0) (fun i => f31 (12 * (x1.toInt).toNat + i)) 0 (u 0).toInt) ∧ (zIsS f12 f13 (aa 0) (u 0).toInt (v0 16).toInt (u 1).toInt) ∧ va_P (dC, dI) vwCl [(h0, .inr (13, mX13 q0 (upd v0 20 (u 0)))), ((q0 49), zi k32 200 f32), ((q0 15), zi k13 10 f13), ((q0 14), zi k12 120 f12), ((q0 19), zi k15 12 (aa 0)), ((q0 48), zi k31 2400 f31)] t.heap ∧ va_K (dC, dI) vwCl [(k32, .int), (k13, .int), (k12, .byte), (k15, .byte), (k31, .byte)] t ∧ va_D (va_A [(h0, .inr (13, mX13 q0 v0)), ((q0 49), zi k32 200 f32), ((q0 15), zi k13 10 f13), ((q0 14), zi k12 120 f12), ((q0 19), zi k15 12 f15), ((q0 48), zi k31 2400 f31)] sz) [(h0, .inr (13, mX13 q0 (upd v0 20 (u 0)))), ((q0 49), zi k32 200 f32), ((q0 15), zi k13 10 f13), ((q0 14), zi k12 120 f12), ((q0 19), zi k15 12 (aa 0)), ((q0 48), zi k31 2400 f31)]) (va_A [(h0, .inr (13, mX13 q0 v0)), ((q0 49), zi k32 200 f32), ((q0 15), zi k13 10 f13), ((q0 14), zi k12 120 f12), ((q0 19), zi k15 12 f15), ((q0 48), zi k31 2400 f31)] sz)) 0 0 (va_A [(h0, .inr (13, mX13 q0 v0)), ((q0 49), zi k32 200 f32), ((q0 15), zi k13 10 f13), ((q0 14), zi k12 120 f12), ((q0 19), zi k15 12 f15), ((q0 48), zi k31 2400 f31)] sz) := by
  refine Met.ofW (cc := cX13_isStopped) (maxL := 3) (ret := (some .boolean)) (by decide) rfl ?_
  intro p e s m args below meth c s₁ B hml hv
  obtain ⟨rfl, hsz, hP, hK, hD0, hE, hZ⟩ := hv
  have hx := B.exec
  have hb := B.bytes
  have hr := B.returns
  have hG : ∀ w ∈ zG, w.before _ s = true := fun w h => atoms_spec (ws := (zw yX13_isStopped cX13_isStopped 3 (some .boolean))) B.pre w (List.mem_cons_of_mem _ h)
  have hown : s.vm.findClass RX13 = some m.cls := findClass_of_methodNamed B.named
  have hlocks := B.notSynchronized

  subst hsz
  have hD := hD0.self (sz := s.heap.size)
  generalize hAe : va_A [(h0, .inr (13, mX13 q0 v0)), ((q0 49), zi k32 200 f32), ((q0 15), zi k13 10 f13), ((q0 14), zi k12 120 f12), ((q0 19), zi k15 12 f15), ((q0 48), zi k31 2400 f31)] s.heap.size = A at hD hZ ⊢
  have hA : ∀ q : Nat, s.heap.size ≤ q → A q := fun q h => by rw [← hAe]; exact Or.inr h
  have hS : va_S A s.heap s.heap [] := va_S.rf
  have hl := lv_entry ([.ref h0, .int x1]) (n := 3) (Nat.le_of_ble_eq_true rfl)
  rw [lg_entry_eq]
  generalize (lg_sl ([.ref h0, .int x1]) ++ List.replicate (3 - (lg_sl ([.ref h0, .int x1])).length) Slot.unset).toArray = ls at hl ⊢
  have hl : lv_has ls 3 [(0, .ref h0), (1, .int x1)] := hl
  have b_ := zk_0
  have b_ := zk_1
  have b_ : 0 ≤ (v0 20).toInt ∧ (v0 20).toInt ≤ 12 := hv0 20
  refine lv_aload_n hx hb dX13_isStopped_0 rfl (lv_at hl 0 rfl) ?_
  refine lv_aload_n hx hb dX13_isStopped_1 rfl (lv_at hl 0 rfl) ?_
  refine va_get (D := (dC, dI)) (ci := 13) (v := .ref (q0 49)) (C := RX13) (T := TX13) (N := 75) hx hb hG zuX13 hown hK hP 0 rfl rfl 49 (by decide) (hG _ zv1653) (fun _ h9 => h9) rfl dX13_isStopped_2 ?_
  refine lv_iload_n hx hb dX13_isStopped_5 rfl (lv_at hl 1 rfl) ?_
  refine va_iald hx hb hK hP 1 0 rfl rfl (zin_lit ⟨by omega, by omega⟩) dX13_isStopped_6 ?_
  refine lv_topi (fun z6 e_z6 => ?_)
  have b_ : 0 ≤ z6.toInt ∧ z6.toInt ≤ 12 := by rw [e_z6]; exact hf32 _
  refine va_put (D := (dC, dI)) (ci := 13) (v := .int z6) (ty := .int) (C := RX13) (T := TX13) (N := 75) hx hb hG zuX13 tyX13 tyX13_ok nmX13 hown hK hP hD hS 0 rfl rfl 20 (by decide) (hG _ zv1624) (fun _ h9 => h9) rfl (by decide +kernel) rfl rfl (Nat.le_of_ble_eq_true rfl) dX13_isStopped_7 (fun H locs hP hD hS => ?_)
  have hP : va_P (dC, dI) vwCl [(h0, .inr (13, mX13 q0 (upd v0 20 z6))), ((q0 49), zi k32 200 f32), ((q0 15), zi k13 10 f13), ((q0 14), zi k12 120 f12), ((q0 19), zi k15 12 f15), ((q0 48), zi k31 2400 f31)] H := hP
  have hD : va_D A [(h0, .inr (13, mX13 q0 (upd v0 20 z6))), ((q0 49), zi k32 200 f32), ((q0 15), zi k13 10 f13), ((q0 14), zi k12 120 f12), ((q0 19), zi k15 12 f15), ((q0 48), zi k31 2400 f31)] := hD
  refine lv_iconst (v := 0) hx hb dX13_isStopped_10 (by decide) ?_
  refine lv_istore_n (lv' := [(2, .int 0), (0, .ref h0), (1, .int x1)]) hx hb dX13_isStopped_11 rfl hl (by decide) rfl (fun ls hl => ?_)
  refine zcutL (fun u12_ => (12 - (u12_ 0).toInt).toNat) (fun H locs ls u12_ w12_ a12_ b12_ => va_P (dC, dI) vwCl [(h0, .inr (13, mX13 q0 (upd v0 20 z6))), ((q0 49), zi k32 200 f32), ((q0 15), zi k13 10 f13), ((q0 14), zi k12 120 f12), ((q0 19), zi k15 12 (a12_ 0)), ((q0 48), zi k31 2400 f31)] H ∧ va_D A [(h0, .inr (13, mX13 q0 (upd v0 20 z6))), ((q0 49), zi k32 200 f32), ((q0 15), zi k13 10 f13), ((q0 14), zi k12 120 f12), ((q0 19), zi k15 12 (a12_ 0)), ((q0 48), zi k31 2400 f31)] ∧ va_S A s.heap H locs ∧ lv_has ls 3 [(0, .ref h0), (1, .int x1), (2, .int (u12_ 0))] ∧ (0 ≤ (u12_ 0).toInt ∧ (u12_ 0).toInt ≤ 12) ∧ (zC f15 (a12_ 0) (fun i => f31 (12 * (x1.toInt).toNat + i)) 0 (u12_ 0).toInt) ∧ ((u12_ 0).toInt ≤ z6.toInt)) (fun ls u12_ w12_ => F0 m 12 ls []) 0 0 ?_ (fun hJ12 => ?_)
  · skip
    intro H locs ls u12_ w12_ a12_ b12_ hc hJ12
    obtain ⟨hP, hD, hS, hl, b_, hI12_0, b_⟩ := hc
    refine lv_iload_n hx hb dX13_isStopped_12 rfl (lv_at hl 2 rfl) ?_
    refine lv_aload_n hx hb dX13_isStopped_13 rfl (lv_at hl 0 rfl) ?_
    refine va_get (D := (dC, dI)) (ci := 13) (v := .int z6) (C := RX13) (T := TX13) (N := 75) hx hb hG zuX13 hown hK hP 0 rfl rfl 20 (by decide) (hG _ zv1624) (fun _ h9 => h9) rfl dX13_isStopped_14 ?_
    refine lv_icmp_ge (tgt := 43) hx hb dX13_isStopped_17 (by decide) (fun c_ => ?_) (fun c_ => ?_)
    · skip
      have b_ := zT_ge rfl rfl c_
      refine lv_aload_n hx hb dX13_isStopped_43 rfl (lv_at hl 0 rfl) ?_
      have hPc := hP.sub (ws' := [(h0, .inr (13, mX13 q0 (upd v0 20 z6))), ((q0 15), zi k13 10 f13), ((q0 14), zi k12 120 f12), ((q0 19), zi k15 12 (a12_ 0))]) [0, 2, 3, 4] rfl
      have hDc := hD.sub (ws' := [(h0, .inr (13, mX13 q0 (upd v0 20 z6))), ((q0 15), zi k13 10 f13), ((q0 14), zi k12 120 f12), ((q0 19), zi k15 12 (a12_ 0))]) [0, 2, 3, 4] (by decide) rfl
      have hKc := hK.sub (tys' := [(k13, .int), (k12, .byte), (k15, .byte)]) [1, 2, 3] rfl
      have hFc := va_free (wc := [(h0, .inr (13, mX13 q0 (upd v0 20 z6))), ((q0 15), zi k13 10 f13), ((q0 14), zi k12 120 f12), ((q0 19), zi k15 12 (a12_ 0))]) hD hS hA [0, 2, 3, 4] rfl
      refine va_calli (va_runV (As := []) (rest := []) ⟨hx, hb, hml, hown, hG⟩ (sX13_findStop_0 l dC dI adK adV h0 q0 k13 k12 k15 H.size (upd v0 20 z6) f13 f12 (a12_ 0) (zR_up2 hv0 20 (show (0 : Int) ≤ (z6 : Int32).toInt ∧ (z6 : Int32).toInt ≤ (12 : Int) from (by first | with_reducible assumption | exact ⟨by omega, by omega⟩))) hf13) (cwV 0 hG (zgV zv1881 zv1883 zv55 zv142 zv1884) rfl rfl rfl (by decide +kernel) ⟨Nat.le_of_ble_eq_true rfl, Nat.le_of_ble_eq_true rfl⟩) ⟨zPc_blind, va_recv hKc hPc (ci := 13) (q0 := 0) rfl rfl, zPc_pre hPc hKc hDc hE hS hFc hZ⟩ rfl rfl hl.1 rfl (lv_room (Nat.le_of_ble_eq_true rfl)) dX13_isStopped_44 ⟨Nat.le_of_ble_eq_true rfl, Nat.le_of_ble_eq_true rfl⟩) hS (fun q _ h => hFc q h) hFc (fun r44_ u44_ t H1 locs ht hvm hw hB hz1 hk1 hS => ?_)
      replace hw : ((-1) ≤ r44_.toInt ∧ r44_.toInt ≤ 9) ∧ (r44_.toInt < (v0 16).toInt) ∧ (zFd f12 f13 (a12_ 0) z6.toInt (v0 16).toInt r44_.toInt) := hw
      obtain ⟨b_, hX44_0, hX44_1⟩ := hw
      obtain ⟨w44_, a44_, b44_, hP1, hK1, hD1⟩ := hB
      rw [ht] at hP1
      obtain ⟨hP, hD⟩ := va_join (wr := [((q0 49), zi k32 200 f32), ((q0 48), zi k31 2400 f31)]) (w1 := [(h0, .inr (13, mX13 q0 (upd v0 20 z6))), ((q0 15), zi k13 10 f13), ((q0 14), zi k12 120 f12), ((q0 19), zi k15 12 (a12_ 0))]) hP hD [0, 2, 3, 4] [1, 5] rfl rfl (by decide) (by decide) hk1 hFc hP1 hD1
      have hP : va_P (dC, dI) vwCl [(h0, .inr (13, mX13 q0 (upd v0 20 z6))), ((q0 49), zi k32 200 f32), ((q0 15), zi k13 10 f13), ((q0 14), zi k12 120 f12), ((q0 19), zi k15 12 (a12_ 0)), ((q0 48), zi k31 2400 f31)] H1 := hP.sub [2, 0, 3, 4, 5, 1] rfl
      have hD : va_D A [(h0, .inr (13, mX13 q0 (upd v0 20 z6))), ((q0 49), zi k32 200 f32), ((q0 15), zi k13 10 f13), ((q0 14), zi k12 120 f12), ((q0 19), zi k15 12 (a12_ 0)), ((q0 48), zi k31 2400 f31)] := hD.sub [2, 0, 3, 4, 5, 1] (by decide) rfl
      generalize H1 = H at hP hS ⊢
      clear hz1
      refine lv_iconst (v := (-1)) hx hb dX13_isStopped_47 (by decide) ?_
      refine lv_icmp_eq (tgt := 55) hx hb dX13_isStopped_48 (by decide) (fun c_ => ?_) (fun c_ => ?_)
      · skip
        have b_ := zT_eq rfl zk_m1 c_
        refine lv_iconst (v := 0) hx hb dX13_isStopped_55 (by decide) ?_
        refine W.widen (k := 0) (n := 0) (by decide) (by decide) ?_
        have hpost : (0 ≤ (0 : Int32).toInt ∧ (0 : Int32).toInt ≤ 1) ∧ (0 ≤ z6.toInt ∧ z6.toInt ≤ 12) ∧ (z6.toInt = (f32 ((x1 : Int32)).toNatClampNeg).toInt) ∧ ((0 : Int32).toInt = (0 : Int32).toInt) := ⟨(by first | with_reducible assumption | exact ⟨by omega, by omega⟩), (by first | with_reducible assumption | exact ⟨by omega, by omega⟩), by exact congrArg Int32.toInt e_z6, rfl⟩
        have hP9 : va_P (dC, dI) vwCl [(h0, .inr (13, mX13 q0 (upd v0 20 z6))), ((q0 49), zi k32 200 f32), ((q0 15), zi k13 10 f13), ((q0 14), zi k12 120 f12), ((q0 19), zi k15 12 (a12_ 0)), ((q0 48), zi k31 2400 f31)] H := hP
        have hD9 : va_D A [(h0, .inr (13, mX13 q0 (upd v0 20 z6))), ((q0 49), zi k32 200 f32), ((q0 15), zi k13 10 f13), ((q0 14), zi k12 120 f12), ((q0 19), zi k15 12 (a12_ 0)), ((q0 48), zi k31 2400 f31)] := hD
        have hB0 : zC f15 (a12_ 0) (fun i => f31 (12 * (x1.toInt).toNat + i)) 0 z6.toInt := by exact zC_c hI12_0 (by omega) (by omega)
        have hB1 : zIsS f12 f13 (a12_ 0) z6.toInt (v0 16).toInt (0 : Int32).toInt := by exact ⟨_, hX44_1, by omega⟩
        exact W.zret (v := 0) hx hb hr rfl (fun t ht hW => ⟨⟨0, (fun i => ([z6, 0] : List (Int32)).getD i 0), rfl, hpost, (fun _ => 0), (fun i => ([(a12_ 0)] : List (Nat → Int32)).getD i (fun _ => 0)), (fun _ => (fun _ => 0)), hB0, hB1, by rw [ht]; exact hP9, va_K.moved hW.alike hK, hD9⟩, hS.F ht⟩) hS.2.2 dX13_isStopped_56
      · skip
        have b_ := zF_eq rfl zk_m1 c_
        refine lv_iconst (v := 1) hx hb dX13_isStopped_51 (by decide) ?_
        refine lv_goto (tgt := 56) hx hb dX13_isStopped_52 (by decide) ?_
        refine W.widen (k := 0) (n := 0) (by decide) (by decide) ?_
        have hpost : (0 ≤ (1 : Int32).toInt ∧ (1 : Int32).toInt ≤ 1) ∧ (0 ≤ z6.toInt ∧ z6.toInt ≤ 12) ∧ (z6.toInt = (f32 ((x1 : Int32)).toNatClampNeg).toInt) ∧ ((1 : Int32).toInt = (1 : Int32).toInt) := ⟨(by first | with_reducible assumption | exact ⟨by omega, by omega⟩), (by first | with_reducible assumption | exact ⟨by omega, by omega⟩), by exact congrArg Int32.toInt e_z6, rfl⟩
        have hP9 : va_P (dC, dI) vwCl [(h0, .inr (13, mX13 q0 (upd v0 20 z6))), ((q0 49), zi k32 200 f32), ((q0 15), zi k13 10 f13), ((q0 14), zi k12 120 f12), ((q0 19), zi k15 12 (a12_ 0)), ((q0 48), zi k31 2400 f31)] H := hP
        have hD9 : va_D A [(h0, .inr (13, mX13 q0 (upd v0 20 z6))), ((q0 49), zi k32 200 f32), ((q0 15), zi k13 10 f13), ((q0 14), zi k12 120 f12), ((q0 19), zi k15 12 (a12_ 0)), ((q0 48), zi k31 2400 f31)] := hD
        have hB0 : zC f15 (a12_ 0) (fun i => f31 (12 * (x1.toInt).toNat + i)) 0 z6.toInt := by exact zC_c hI12_0 (by omega) (by omega)
        have hB1 : zIsS f12 f13 (a12_ 0) z6.toInt (v0 16).toInt (1 : Int32).toInt := by exact ⟨_, hX44_1, by omega⟩
        exact W.zret (v := 1) hx hb hr rfl (fun t ht hW => ⟨⟨1, (fun i => ([z6, 1] : List (Int32)).getD i 0), rfl, hpost, (fun _ => 0), (fun i => ([(a12_ 0)] : List (Nat → Int32)).getD i (fun _ => 0)), (fun _ => (fun _ => 0)), hB0, hB1, by rw [ht]; exact hP9, va_K.moved hW.alike hK, hD9⟩, hS.F ht⟩) hS.2.2 dX13_isStopped_56
    · skip
      have b_ := zF_ge rfl rfl c_
      refine lv_aload_n hx hb dX13_isStopped_20 rfl (lv_at hl 0 rfl) ?_
      refine va_get (D := (dC, dI)) (ci := 13) (v := .ref (q0 19)) (C := RX13) (T := TX13) (N := 75) hx hb hG zuX13 hown hK hP 0 rfl rfl 19 (by decide) (hG _ zv1623) (fun _ h9 => h9) rfl dX13_isStopped_21 ?_
      refine lv_iload_n hx hb dX13_isStopped_24 rfl (lv_at hl 2 rfl) ?_
      refine lv_aload_n hx hb dX13_isStopped_25 rfl (lv_at hl 0 rfl) ?_
      refine va_get (D := (dC, dI)) (ci := 13) (v := .ref (q0 48)) (C := RX13) (T := TX13) (N := 75) hx hb hG zuX13 hown hK hP 0 rfl rfl 48 (by decide) (hG _ zv1652) (fun _ h9 => h9) rfl dX13_isStopped_26 ?_
      refine lv_bipush (v := 12) hx hb dX13_isStopped_29 (by decide) ?_
      refine lv_iload_n hx hb dX13_isStopped_31 rfl (lv_at hl 1 rfl) ?_
      refine lv_imul hx hb dX13_isStopped_32 ?_
      refine lv_topi (fun z32 e_z32 => ?_)
      have b_ := zmul zk_12 rfl e_z32 (by omega) (by omega)
      refine lv_iload_n hx hb dX13_isStopped_33 rfl (lv_at hl 2 rfl) ?_
      refine lv_iadd hx hb dX13_isStopped_34 ?_
      refine lv_topi (fun z34 e_z34 => ?_)
      have b_ := zadd rfl rfl e_z34 (by omega) (by omega)
      refine va_bald hx hb hK hP 5 4 rfl rfl (zin_lit ⟨by omega, by omega⟩) dX13_isStopped_35 ?_
      refine lv_topi (fun z35 e_z35 => ?_)
      refine va_bast hx hb hK hP hD hS 4 3 rfl rfl (zin_lit ⟨by omega, by omega⟩) dX13_isStopped_36 (fun H locs hP hD hS => ?_)
      obtain ⟨f_36, e_f_36⟩ : ∃ z : Nat → Int32, z = upd (a12_ 0) ((u12_ 0) : Int32).toNatClampNeg (vp_nar .byte z35) := ⟨_, rfl⟩
      have hP : va_P (dC, dI) vwCl [(h0, .inr (13, mX13 q0 (upd v0 20 z6))), ((q0 49), zi k32 200 f32), ((q0 15), zi k13 10 f13), ((q0 14), zi k12 120 f12), ((q0 19), zi k15 12 f_36), ((q0 48), zi k31 2400 f31)] H := by rw [e_f_36]; exact hP
      have hD : va_D A [(h0, .inr (13, mX13 q0 (upd v0 20 z6))), ((q0 49), zi k32 200 f32), ((q0 15), zi k13 10 f13), ((q0 14), zi k12 120 f12), ((q0 19), zi k15 12 f_36), ((q0 48), zi k31 2400 f31)] := by rw [e_f_36]; exact hD
      obtain ⟨z37, e_z37⟩ : ∃ z : Int32, z = (u12_ 0) + Int32.ofInt 1 := ⟨_, rfl⟩
      have b_ := zadd (x := (u12_ 0)) (y := Int32.ofInt 1) rfl (show (Int32.ofInt 1).toInt = 1 from by decide) e_z37 (by omega) (by omega)
      refine lv_iinc (v := z37) (lv' := [(2, .int z37), (0, .ref h0), (1, .int x1)]) hx hb dX13_isStopped_37 hl (k := 2) rfl e_z37.symm (by decide) rfl (fun ls hl => ?_)
      refine lv_goto (tgt := 12) hx hb dX13_isStopped_40 (by decide) ?_
      have hc : va_P (dC, dI) vwCl [(h0, .inr (13, mX13 q0 (upd v0 20 z6))), ((q0 49), zi k32 200 f32), ((q0 15), zi k13 10 f13), ((q0 14), zi k12 120 f12), ((q0 19), zi k15 12 f_36), ((q0 48), zi k31 2400 f31)] H ∧ va_D A [(h0, .inr (13, mX13 q0 (upd v0 20 z6))), ((q0 49), zi k32 200 f32), ((q0 15), zi k13 10 f13), ((q0 14), zi k12 120 f12), ((q0 19), zi k15 12 f_36), ((q0 48), zi k31 2400 f31)] ∧ va_S A s.heap H locs ∧ lv_has ls 3 [(0, .ref h0), (1, .int x1), (2, .int z37)] ∧ (0 ≤ z37.toInt ∧ z37.toInt ≤ 12) ∧ (zC f15 f_36 (fun i => f31 (12 * (x1.toInt).toNat + i)) 0 z37.toInt) ∧ (z37.toInt ≤ z6.toInt) := ⟨hP, hD, hS, lv_sub hl [1, 2, 0] rfl, (by first | with_reducible assumption | exact ⟨by omega, by omega⟩), by first | (rw [e_f_36]; exact zC_w hI12_0 e_z35 (by omega) (by omega) (by omega) (by omega)) | exact zC_0 (by decide), by omega⟩
      exact hJ12 H locs ls (fun i => ([z37] : List (Int32)).getD i 0) (fun _ => 0) (fun i => ([f_36] : List (Nat → Int32)).getD i (fun _ => 0)) (fun _ => (fun _ => 0)) hc (show (12 - z37.toInt).toNat < (12 - (u12_ 0).toInt).toNat from by omega)
  · skip
    have hc : va_P (dC, dI) vwCl [(h0, .inr (13, mX13 q0 (upd v0 20 z6))), ((q0 49), zi k32 200 f32), ((q0 15), zi k13 10 f13), ((q0 14), zi k12 120 f12), ((q0 19), zi k15 12 f15), ((q0 48), zi k31 2400 f31)] H ∧ va_D A [(h0, .inr (13, mX13 q0 (upd v0 20 z6))), ((q0 49), zi k32 200 f32), ((q0 15), zi k13 10 f13), ((q0 14), zi k12 120 f12), ((q0 19), zi k15 12 f15), ((q0 48), zi k31 2400 f31)] ∧ va_S A s.heap H locs ∧ lv_has ls 3 [(0, .ref h0), (1, .int x1), (2, .int 0)] ∧ (0 ≤ (0 : Int32).toInt ∧ (0 : Int32).toInt ≤ 12) ∧ (zC f15 f15 (fun i => f31 (12 * (x1.toInt).toNat + i)) 0 (0 : Int32).toInt) ∧ ((0 : Int32).toInt ≤ z6.toInt) := ⟨hP, hD, hS, lv_sub hl [1, 2, 0] rfl, (by first | with_reducible assumption | exact ⟨by omega, by omega⟩), by first | (rw [e_f_36]; exact zC_w hI12_0 e_z35 (by omega) (by omega) (by omega) (by omega)) | exact zC_0 (by decide), by omega⟩
    exact hJ12 H locs ls (fun i => ([0] : List (Int32)).getD i 0) (fun _ => 0) (fun i => ([f15] : List (Nat → Int32)).getD i (fun _ => 0)) (fun _ => (fun _ => 0)) hc
set_option maxHeartbeats 8000000 in
set_option maxRecDepth 100000 in
theorem sX13_beginsBy_0 (l : Launch) (dC : Nat → ClassId) (dI : Nat → Nat → Nat) (adK adV : Nat → Nat) (h0 : Nat) (q0 : Nat → Nat) (k3 : ClassId) (k32 : ClassId) (k2 : ClassId) (k31 : ClassId) (sz : Nat) (v0 : Nat → Int32) (f3 : Nat → Int32) (f32 : Nat → Int32) (f2 : Nat → Int32) (f31 : Nat → Int32) (x1 : Int32) (x2 : Int32) (hv0 : zR rg_Model v0) (hf3 : zA 0 12 f3) (hf32 : zA 0 12 f32) (hx1 : 0 ≤ x1.toInt ∧ x1.toInt ≤ 399) (hx2 : 0 ≤ x2.toInt ∧ x2.toInt ≤ 199) : Met l yX13_beginsBy (zw yX13_beginsBy cX13_beginsBy 4 (some .boolean)) { frames := 0, cells := 0, slots := 0, locals := 0 } (zPc dC dI adK adV [.ref h0, .int x1, .int x2] sz [(h0, .inr (13, mX13 q0 v0)), ((q0 3), zi k3 400 f3), ((q0 49), zi k32 200 f32), ((q0 2), zi k2 4800 f2), ((q0 48), zi k31 2400 f31)] [(k3, .int), (k32, .int), (k2, .byte), (k31, .byte)]) (va_Qi (fun (r : Int32) (u : Nat → Int32) => (0 ≤ r.toInt ∧ r.toInt ≤ 1) ∧ (r.toInt = 1 ↔ zBgb f2 f3 f31 f32 ((x1 : Int32)).toNatClampNeg ((x2 : Int32)).toNatClampNeg)) (fun (u : Nat → Int32) (t : State) => ∃ (ww : Nat → Int64) (aa : Nat → Nat → Int32) (bb : Nat → Nat → Int64), va_P (dC, dI) vwCl [(h0, .inr (13, mX13 q0 v0)), ((q0 3), zi k3 400 f3), ((q0 49), zi k32 200 f32), ((q0 2), zi k2 4800 f2), ((q0 48), zi k31 2400 f31)] t.heap ∧ va_K (dC, dI) vwCl [(k3, .int), (k32, .int), (k2, .byte), (k31, .byte)] t ∧ va_D (va_A [(h0, .inr (13, mX13 q0 v0)), ((q0 3), zi k3 400 f3), ((q0 49), zi k32 200 f32), ((q0 2), zi k2 4800 f2), ((q0 48), zi k31 2400 f31)] sz) [(h0, .inr (13, mX13 q0 v0)), ((q0 3), zi k3 400 f3), ((q0 49), zi k32 200 f32), ((q0 2), zi k2 4800 f2), ((q0 48), zi k31 2400 f31)]) (va_A [(h0, .inr (13, mX13 q0 v0)), ((q0 3), zi k3 400 f3), ((q0 49), zi k32 200 f32), ((q0 2), zi k2 4800 f2), ((q0 48), zi k31 2400 f31)] sz)) 0 0 (va_A [(h0, .inr (13, mX13 q0 v0)), ((q0 3), zi k3 400 f3), ((q0 49), zi k32 200 f32), ((q0 2), zi k2 4800 f2), ((q0 48), zi k31 2400 f31)] sz) := by
  refine Met.ofW (cc := cX13_beginsBy) (maxL := 4) (ret := (some .boolean)) (by decide) rfl ?_
  intro p e s m args below meth c s₁ B hml hv
  obtain ⟨rfl, hsz, hP, hK, hD0, hE, hZ⟩ := hv
  have hx := B.exec
  have hb := B.bytes
  have hr := B.returns
  have hG : ∀ w ∈ zG, w.before _ s = true := fun w h => atoms_spec (ws := (zw yX13_beginsBy cX13_beginsBy 4 (some .boolean))) B.pre w (List.mem_cons_of_mem _ h)
  have hown : s.vm.findClass RX13 = some m.cls := findClass_of_methodNamed B.named
  have hlocks := B.notSynchronized

  subst hsz
  have hD := hD0.self (sz := s.heap.size)
  generalize hAe : va_A [(h0, .inr (13, mX13 q0 v0)), ((q0 3), zi k3 400 f3), ((q0 49), zi k32 200 f32), ((q0 2), zi k2 4800 f2), ((q0 48), zi k31 2400 f31)] s.heap.size = A at hD hZ ⊢
  have hA : ∀ q : Nat, s.heap.size ≤ q → A q := fun q h => by rw [← hAe]; exact Or.inr h
  have hS : va_S A s.heap s.heap [] := va_S.rf
  have hl := lv_entry ([.ref h0, .int x1, .int x2]) (n := 4) (Nat.le_of_ble_eq_true rfl)
  rw [lg_entry_eq]
  generalize (lg_sl ([.ref h0, .int x1, .int x2]) ++ List.replicate (4 - (lg_sl ([.ref h0, .int x1, .int x2])).length) Slot.unset).toArray = ls at hl ⊢
  have hl : lv_has ls 4 [(0, .ref h0), (1, .int x1), (2, .int x2)] := hl
  have b_ := zk_0
  have b_ := zk_1
  refine lv_aload_n hx hb dX13_beginsBy_0 rfl (lv_at hl 0 rfl) ?_
  refine va_get (D := (dC, dI)) (ci := 13) (v := .ref (q0 3)) (C := RX13) (T := TX13) (N := 75) hx hb hG zuX13 hown hK hP 0 rfl rfl 3 (by decide) (hG _ zv1607) (fun _ h9 => h9) rfl dX13_beginsBy_1 ?_
  refine lv_iload_n hx hb dX13_beginsBy_4 rfl (lv_at hl 1 rfl) ?_
  refine va_iald hx hb hK hP 1 0 rfl rfl (zin_lit ⟨by omega, by omega⟩) dX13_beginsBy_5 ?_
  refine lv_topi (fun z5 e_z5 => ?_)
  have b_ : 0 ≤ z5.toInt ∧ z5.toInt ≤ 12 := by rw [e_z5]; exact hf3 _
  refine lv_aload_n hx hb dX13_beginsBy_6 rfl (lv_at hl 0 rfl) ?_
  refine va_get (D := (dC, dI)) (ci := 13) (v := .ref (q0 49)) (C := RX13) (T := TX13) (N := 75) hx hb hG zuX13 hown hK hP 0 rfl rfl 49 (by decide) (hG _ zv1653) (fun _ h9 => h9) rfl dX13_beginsBy_7 ?_
  refine lv_iload_n hx hb dX13_beginsBy_10 rfl (lv_at hl 2 rfl) ?_
  refine va_iald hx hb hK hP 2 1 rfl rfl (zin_lit ⟨by omega, by omega⟩) dX13_beginsBy_11 ?_
  refine lv_topi (fun z11 e_z11 => ?_)
  have b_ : 0 ≤ z11.toInt ∧ z11.toInt ≤ 12 := by rw [e_z11]; exact hf32 _
  refine lv_icmp_ge (tgt := 17) hx hb dX13_beginsBy_12 (by decide) (fun c_ => ?_) (fun c_ => ?_)
  · skip
    have b_ := zT_ge rfl rfl c_
    refine lv_iconst (v := 0) hx hb dX13_beginsBy_17 (by decide) ?_
    refine lv_istore_n (lv' := [(3, .int 0), (0, .ref h0), (1, .int x1), (2, .int x2)]) hx hb dX13_beginsBy_18 rfl hl (by decide) rfl (fun ls hl => ?_)
    refine zcutL (fun u19_ => (12 - (u19_ 0).toInt).toNat) (fun H locs ls u19_ w19_ a19_ b19_ => va_P (dC, dI) vwCl [(h0, .inr (13, mX13 q0 v0)), ((q0 3), zi k3 400 f3), ((q0 49), zi k32 200 f32), ((q0 2), zi k2 4800 f2), ((q0 48), zi k31 2400 f31)] H ∧ va_D A [(h0, .inr (13, mX13 q0 v0)), ((q0 3), zi k3 400 f3), ((q0 49), zi k32 200 f32), ((q0 2), zi k2 4800 f2), ((q0 48), zi k31 2400 f31)] ∧ va_S A s.heap H locs ∧ lv_has ls 4 [(0, .ref h0), (1, .int x1), (2, .int x2), (3, .int (u19_ 0))] ∧ (0 ≤ (u19_ 0).toInt ∧ (u19_ 0).toInt ≤ 12) ∧ (zBgk f2 f31 x1.toInt x2.toInt (u19_ 0).toInt)) (fun ls u19_ w19_ => F0 m 19 ls []) 0 0 ?_ (fun hJ19 => ?_)
    · skip
      intro H locs ls u19_ w19_ a19_ b19_ hc hJ19
      obtain ⟨hP, hD, hS, hl, b_, hI19_0⟩ := hc
      refine lv_iload_n hx hb dX13_beginsBy_19 rfl (lv_at hl 3 rfl) ?_
      refine lv_aload_n hx hb dX13_beginsBy_20 rfl (lv_at hl 0 rfl) ?_
      refine va_get (D := (dC, dI)) (ci := 13) (v := .ref (q0 49)) (C := RX13) (T := TX13) (N := 75) hx hb hG zuX13 hown hK hP 0 rfl rfl 49 (by decide) (hG _ zv1653) (fun _ h9 => h9) rfl dX13_beginsBy_21 ?_
      refine lv_iload_n hx hb dX13_beginsBy_24 rfl (lv_at hl 2 rfl) ?_
      refine va_iald hx hb hK hP 2 1 rfl rfl (zin_lit ⟨by omega, by omega⟩) dX13_beginsBy_25 ?_
      refine lv_topi (fun z25 e_z25 => ?_)
      have b_ : 0 ≤ z25.toInt ∧ z25.toInt ≤ 12 := by rw [e_z25]; exact hf32 _
      refine lv_icmp_ge (tgt := 62) hx hb dX13_beginsBy_26 (by decide) (fun c_ => ?_) (fun c_ => ?_)
      · skip
        have b_ := zT_ge rfl rfl c_
        refine lv_iconst (v := 1) hx hb dX13_beginsBy_62 (by decide) ?_
        refine W.widen (k := 0) (n := 0) (by decide) (by decide) ?_
        have hpost : (0 ≤ (1 : Int32).toInt ∧ (1 : Int32).toInt ≤ 1) ∧ ((1 : Int32).toInt = 1 ↔ zBgb f2 f3 f31 f32 ((x1 : Int32)).toNatClampNeg ((x2 : Int32)).toNatClampNeg) := ⟨(by first | with_reducible assumption | exact ⟨by omega, by omega⟩), by first | exact ⟨fun _ => zBgb_y hI19_0 e_z5 e_z11 (by omega) e_z25 (by omega), fun _ => by decide⟩ | exact ⟨fun q_ => absurd q_ (by decide), fun q_ => absurd q_ (zBgb_n1 e_z5 e_z11 (by omega))⟩ | exact ⟨fun q_ => absurd q_ (by decide), fun q_ => absurd q_ (zBgb_n2 (K := u19_ 0) e_z25 (by omega) e_z39 e_z50 (by omega) (by omega) (by omega) (by omega) (by omega) (by omega))⟩⟩
        have hP9 : va_P (dC, dI) vwCl [(h0, .inr (13, mX13 q0 v0)), ((q0 3), zi k3 400 f3), ((q0 49), zi k32 200 f32), ((q0 2), zi k2 4800 f2), ((q0 48), zi k31 2400 f31)] H := hP
        have hD9 : va_D A [(h0, .inr (13, mX13 q0 v0)), ((q0 3), zi k3 400 f3), ((q0 49), zi k32 200 f32), ((q0 2), zi k2 4800 f2), ((q0 48), zi k31 2400 f31)] := hD
        exact W.zret (v := 1) hx hb hr rfl (fun t ht hW => ⟨⟨1, (fun _ => 0), rfl, hpost, (fun _ => 0), (fun _ => (fun _ => 0)), (fun _ => (fun _ => 0)), by rw [ht]; exact hP9, va_K.moved hW.alike hK, hD9⟩, hS.F ht⟩) hS.2.2 dX13_beginsBy_63
      · skip
        have b_ := zF_ge rfl rfl c_
        refine lv_aload_n hx hb dX13_beginsBy_29 rfl (lv_at hl 0 rfl) ?_
        refine va_get (D := (dC, dI)) (ci := 13) (v := .ref (q0 2)) (C := RX13) (T := TX13) (N := 75) hx hb hG zuX13 hown hK hP 0 rfl rfl 2 (by decide) (hG _ zv1606) (fun _ h9 => h9) rfl dX13_beginsBy_30 ?_
        refine lv_bipush (v := 12) hx hb dX13_beginsBy_33 (by decide) ?_
        refine lv_iload_n hx hb dX13_beginsBy_35 rfl (lv_at hl 1 rfl) ?_
        refine lv_imul hx hb dX13_beginsBy_36 ?_
        refine lv_topi (fun z36 e_z36 => ?_)
        have b_ := zmul zk_12 rfl e_z36 (by omega) (by omega)
        refine lv_iload_n hx hb dX13_beginsBy_37 rfl (lv_at hl 3 rfl) ?_
        refine lv_iadd hx hb dX13_beginsBy_38 ?_
        refine lv_topi (fun z38 e_z38 => ?_)
        have b_ := zadd rfl rfl e_z38 (by omega) (by omega)
        refine va_bald hx hb hK hP 3 2 rfl rfl (zin_lit ⟨by omega, by omega⟩) dX13_beginsBy_39 ?_
        refine lv_topi (fun z39 e_z39 => ?_)
        refine lv_aload_n hx hb dX13_beginsBy_40 rfl (lv_at hl 0 rfl) ?_
        refine va_get (D := (dC, dI)) (ci := 13) (v := .ref (q0 48)) (C := RX13) (T := TX13) (N := 75) hx hb hG zuX13 hown hK hP 0 rfl rfl 48 (by decide) (hG _ zv1652) (fun _ h9 => h9) rfl dX13_beginsBy_41 ?_
        refine lv_bipush (v := 12) hx hb dX13_beginsBy_44 (by decide) ?_
        refine lv_iload_n hx hb dX13_beginsBy_46 rfl (lv_at hl 2 rfl) ?_
        refine lv_imul hx hb dX13_beginsBy_47 ?_
        refine lv_topi (fun z47 e_z47 => ?_)
        have b_ := zmul zk_12 rfl e_z47 (by omega) (by omega)
        refine lv_iload_n hx hb dX13_beginsBy_48 rfl (lv_at hl 3 rfl) ?_
        refine lv_iadd hx hb dX13_beginsBy_49 ?_
        refine lv_topi (fun z49 e_z49 => ?_)
        have b_ := zadd rfl rfl e_z49 (by omega) (by omega)
        refine va_bald hx hb hK hP 4 3 rfl rfl (zin_lit ⟨by omega, by omega⟩) dX13_beginsBy_50 ?_
        refine lv_topi (fun z50 e_z50 => ?_)
        have b_ : -2147483648 ≤ z39.toInt ∧ z39.toInt ≤ 2147483647 := ⟨zlo _, zhi _⟩
        have b_ : -2147483648 ≤ z50.toInt ∧ z50.toInt ≤ 2147483647 := ⟨zlo _, zhi _⟩
        refine lv_icmp_eq (tgt := 56) hx hb dX13_beginsBy_51 (by decide) (fun c_ => ?_) (fun c_ => ?_)
        · skip
          have b_ := zT_eq rfl rfl c_
          obtain ⟨z56, e_z56⟩ : ∃ z : Int32, z = (u19_ 0) + Int32.ofInt 1 := ⟨_, rfl⟩
          have b_ := zadd (x := (u19_ 0)) (y := Int32.ofInt 1) rfl (show (Int32.ofInt 1).toInt = 1 from by decide) e_z56 (by omega) (by omega)
          refine lv_iinc (v := z56) (lv' := [(3, .int z56), (0, .ref h0), (1, .int x1), (2, .int x2)]) hx hb dX13_beginsBy_56 hl (k := 3) rfl e_z56.symm (by decide) rfl (fun ls hl => ?_)
          refine lv_goto (tgt := 19) hx hb dX13_beginsBy_59 (by decide) ?_
          have hc : va_P (dC, dI) vwCl [(h0, .inr (13, mX13 q0 v0)), ((q0 3), zi k3 400 f3), ((q0 49), zi k32 200 f32), ((q0 2), zi k2 4800 f2), ((q0 48), zi k31 2400 f31)] H ∧ va_D A [(h0, .inr (13, mX13 q0 v0)), ((q0 3), zi k3 400 f3), ((q0 49), zi k32 200 f32), ((q0 2), zi k2 4800 f2), ((q0 48), zi k31 2400 f31)] ∧ va_S A s.heap H locs ∧ lv_has ls 4 [(0, .ref h0), (1, .int x1), (2, .int x2), (3, .int z56)] ∧ (0 ≤ z56.toInt ∧ z56.toInt ≤ 12) ∧ (zBgk f2 f31 x1.toInt x2.toInt z56.toInt) := ⟨hP, hD, hS, lv_sub hl [1, 2, 3, 0] rfl, (by first | with_reducible assumption | exact ⟨by omega, by omega⟩), by first | exact zBgk_s hI19_0 e_z39 e_z50 (by omega) (by omega) (by omega) (by omega) (by omega) (by omega) (by omega) | exact zBgk_0 (by decide)⟩
          exact hJ19 H locs ls (fun i => ([z56] : List (Int32)).getD i 0) (fun _ => 0) (fun _ => (fun _ => 0)) (fun _ => (fun _ => 0)) hc (show (12 - z56.toInt).toNat < (12 - (u19_ 0).toInt).toNat from by omega)
        · skip
          have b_ := zF_eq rfl rfl c_
          refine lv_iconst (v := 0) hx hb dX13_beginsBy_54 (by decide) ?_
          refine W.widen (k := 0) (n := 0) (by decide) (by decide) ?_
          have hpost : (0 ≤ (0 : Int32).toInt ∧ (0 : Int32).toInt ≤ 1) ∧ ((0 : Int32).toInt = 1 ↔ zBgb f2 f3 f31 f32 ((x1 : Int32)).toNatClampNeg ((x2 : Int32)).toNatClampNeg) := ⟨(by first | with_reducible assumption | exact ⟨by omega, by omega⟩), by first | exact ⟨fun _ => zBgb_y hI19_0 e_z5 e_z11 (by omega) e_z25 (by omega), fun _ => by decide⟩ | exact ⟨fun q_ => absurd q_ (by decide), fun q_ => absurd q_ (zBgb_n1 e_z5 e_z11 (by omega))⟩ | exact ⟨fun q_ => absurd q_ (by decide), fun q_ => absurd q_ (zBgb_n2 (K := u19_ 0) e_z25 (by omega) e_z39 e_z50 (by omega) (by omega) (by omega) (by omega) (by omega) (by omega))⟩⟩
          have hP9 : va_P (dC, dI) vwCl [(h0, .inr (13, mX13 q0 v0)), ((q0 3), zi k3 400 f3), ((q0 49), zi k32 200 f32), ((q0 2), zi k2 4800 f2), ((q0 48), zi k31 2400 f31)] H := hP
          have hD9 : va_D A [(h0, .inr (13, mX13 q0 v0)), ((q0 3), zi k3 400 f3), ((q0 49), zi k32 200 f32), ((q0 2), zi k2 4800 f2), ((q0 48), zi k31 2400 f31)] := hD
          exact W.zret (v := 0) hx hb hr rfl (fun t ht hW => ⟨⟨0, (fun _ => 0), rfl, hpost, (fun _ => 0), (fun _ => (fun _ => 0)), (fun _ => (fun _ => 0)), by rw [ht]; exact hP9, va_K.moved hW.alike hK, hD9⟩, hS.F ht⟩) hS.2.2 dX13_beginsBy_55
    · skip
      have hc : va_P (dC, dI) vwCl [(h0, .inr (13, mX13 q0 v0)), ((q0 3), zi k3 400 f3), ((q0 49), zi k32 200 f32), ((q0 2), zi k2 4800 f2), ((q0 48), zi k31 2400 f31)] s.heap ∧ va_D A [(h0, .inr (13, mX13 q0 v0)), ((q0 3), zi k3 400 f3), ((q0 49), zi k32 200 f32), ((q0 2), zi k2 4800 f2), ((q0 48), zi k31 2400 f31)] ∧ va_S A s.heap s.heap [] ∧ lv_has ls 4 [(0, .ref h0), (1, .int x1), (2, .int x2), (3, .int 0)] ∧ (0 ≤ (0 : Int32).toInt ∧ (0 : Int32).toInt ≤ 12) ∧ (zBgk f2 f31 x1.toInt x2.toInt (0 : Int32).toInt) := ⟨hP, hD, hS, lv_sub hl [1, 2, 3, 0] rfl, (by first | with_reducible assumption | exact ⟨by omega, by omega⟩), by first | exact zBgk_s hI19_0 e_z39 e_z50 (by omega) (by omega) (by omega) (by omega) (by omega) (by omega) (by omega) | exact zBgk_0 (by decide)⟩
      exact hJ19 s.heap [] ls (fun i => ([0] : List (Int32)).getD i 0) (fun _ => 0) (fun _ => (fun _ => 0)) (fun _ => (fun _ => 0)) hc
  · skip
    have b_ := zF_ge rfl rfl c_
    refine lv_iconst (v := 0) hx hb dX13_beginsBy_15 (by decide) ?_
    refine W.widen (k := 0) (n := 0) (by decide) (by decide) ?_
    have hpost : (0 ≤ (0 : Int32).toInt ∧ (0 : Int32).toInt ≤ 1) ∧ ((0 : Int32).toInt = 1 ↔ zBgb f2 f3 f31 f32 ((x1 : Int32)).toNatClampNeg ((x2 : Int32)).toNatClampNeg) := ⟨(by first | with_reducible assumption | exact ⟨by omega, by omega⟩), by first | exact ⟨fun _ => zBgb_y hI19_0 e_z5 e_z11 (by omega) e_z25 (by omega), fun _ => by decide⟩ | exact ⟨fun q_ => absurd q_ (by decide), fun q_ => absurd q_ (zBgb_n1 e_z5 e_z11 (by omega))⟩ | exact ⟨fun q_ => absurd q_ (by decide), fun q_ => absurd q_ (zBgb_n2 (K := u19_ 0) e_z25 (by omega) e_z39 e_z50 (by omega) (by omega) (by omega) (by omega) (by omega) (by omega))⟩⟩
    have hP9 : va_P (dC, dI) vwCl [(h0, .inr (13, mX13 q0 v0)), ((q0 3), zi k3 400 f3), ((q0 49), zi k32 200 f32), ((q0 2), zi k2 4800 f2), ((q0 48), zi k31 2400 f31)] s.heap := hP
    have hD9 : va_D A [(h0, .inr (13, mX13 q0 v0)), ((q0 3), zi k3 400 f3), ((q0 49), zi k32 200 f32), ((q0 2), zi k2 4800 f2), ((q0 48), zi k31 2400 f31)] := hD
    exact W.zret (v := 0) hx hb hr rfl (fun t ht hW => ⟨⟨0, (fun _ => 0), rfl, hpost, (fun _ => 0), (fun _ => (fun _ => 0)), (fun _ => (fun _ => 0)), by rw [ht]; exact hP9, va_K.moved hW.alike hK, hD9⟩, hS.F ht⟩) hS.2.2 dX13_beginsBy_16
