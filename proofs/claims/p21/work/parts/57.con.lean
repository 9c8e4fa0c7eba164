set_option maxHeartbeats 8000000 in
set_option maxRecDepth 100000 in
theorem sX13_isDigit_0 (l : Launch) (dC : Nat → ClassId) (dI : Nat → Nat → Nat) (adK adV : Nat → Nat) (sz : Nat) (x0 : Int32) : Met l yX13_isDigit (zw yX13_isDigit cX13_isDigit 1 (some .boolean)) { frames := 0, cells := 0, slots := 0, locals := 0 } (zPc dC dI adK adV [.int x0] sz [] []) (va_Qi (fun (r : Int32) (u : Nat → Int32) => (0 ≤ r.toInt ∧ r.toInt ≤ 1) ∧ (r.toInt = 1 → 48 ≤ x0.toInt ∧ x0.toInt ≤ 57) ∧ (r.toInt = 0 → x0.toInt < 48 ∨ 57 < x0.toInt)) (fun (u : Nat → Int32) (t : State) => ∃ (ww : Nat → Int64) (aa : Nat → Nat → Int32) (bb : Nat → Nat → Int64), va_P (dC, dI) vwCl [] t.heap ∧ va_K (dC, dI) vwCl [] t ∧ va_D (va_A [] sz) []) (va_A [] sz)) 0 0 (va_A [] sz) := by
  refine Met.ofW (cc := cX13_isDigit) (maxL := 1) (ret := (some .boolean)) (by decide) rfl ?_
  intro p e s m args below meth c s₁ B hml hv
  obtain ⟨rfl, hsz, hP, hK, hD0, hE, hZ⟩ := hv
  have hx := B.exec
  have hb := B.bytes
  have hr := B.returns
  have hG : ∀ w ∈ zG, w.before _ s = true := fun w h => atoms_spec (ws := (zw yX13_isDigit cX13_isDigit 1 (some .boolean))) B.pre w (List.mem_cons_of_mem _ h)
  have hown : s.vm.findClass RX13 = some m.cls := findClass_of_methodNamed B.named
  have hlocks := B.notSynchronized

  subst hsz
  have hD := hD0.self (sz := s.heap.size)
  generalize hAe : va_A [] s.heap.size = A at hD hZ ⊢
  have hA : ∀ q : Nat, s.heap.size ≤ q → A q := fun q h => by rw [← hAe]; exact Or.inr h
  have hS : va_S A s.heap s.heap [] := va_S.rf
  have hl := lv_entry ([.int x0]) (n := 1) (Nat.le_of_ble_eq_true rfl)
  rw [lg_entry_eq]
  generalize (lg_sl ([.int x0]) ++ List.replicate (1 - (lg_sl ([.int x0])).length) Slot.unset).toArray = ls at hl ⊢
  have hl : lv_has ls 1 [(0, .int x0)] := hl
  have b_ := zk_0
  have b_ := zk_1
  refine lv_iload_n hx hb dX13_isDigit_0 rfl (lv_at hl 0 rfl) ?_
  refine lv_bipush (v := 48) hx hb dX13_isDigit_1 (by decide) ?_
  have b_ : -2147483648 ≤ x0.toInt ∧ x0.toInt ≤ 2147483647 := ⟨zlo _, zhi _⟩
  refine lv_icmp_lt (tgt := 16) hx hb dX13_isDigit_3 (by decide) (fun c_ => ?_) (fun c_ => ?_)
  · skip
    have b_ := zT_lt rfl zk_48 c_
    refine lv_iconst (v := 0) hx hb dX13_isDigit_16 (by decide) ?_
    refine W.widen (k := 0) (n := 0) (by decide) (by decide) ?_
    have hpost : (0 ≤ (0 : Int32).toInt ∧ (0 : Int32).toInt ≤ 1) ∧ ((0 : Int32).toInt = 1 → 48 ≤ x0.toInt ∧ x0.toInt ≤ 57) ∧ ((0 : Int32).toInt = 0 → x0.toInt < 48 ∨ 57 < x0.toInt) := ⟨(by first | with_reducible assumption | exact ⟨by omega, by omega⟩), by omega, by omega⟩
    have hP9 : va_P (dC, dI) vwCl [] s.heap := hP
    have hD9 : va_D A [] := hD
    exact W.zret (v := 0) hx hb hr rfl (fun t ht hW => ⟨⟨0, (fun _ => 0), rfl, hpost, (fun _ => 0), (fun _ => (fun _ => 0)), (fun _ => (fun _ => 0)), by rw [ht]; exact hP9, va_K.moved hW.alike hK, hD9⟩, hS.F ht⟩) hS.2.2 dX13_isDigit_17
  · skip
    have b_ := zF_lt rfl zk_48 c_
    refine lv_iload_n hx hb dX13_isDigit_6 rfl (lv_at hl 0 rfl) ?_
    refine lv_bipush (v := 57) hx hb dX13_isDigit_7 (by decide) ?_
    refine lv_icmp_gt (tgt := 16) hx hb dX13_isDigit_9 (by decide) (fun c_ => ?_) (fun c_ => ?_)
    · skip
      have b_ := zT_gt rfl zk_57 c_
      refine lv_iconst (v := 0) hx hb dX13_isDigit_16 (by decide) ?_
      refine W.widen (k := 0) (n := 0) (by decide) (by decide) ?_
      have hpost : (0 ≤ (0 : Int32).toInt ∧ (0 : Int32).toInt ≤ 1) ∧ ((0 : Int32).toInt = 1 → 48 ≤ x0.toInt ∧ x0.toInt ≤ 57) ∧ ((0 : Int32).toInt = 0 → x0.toInt < 48 ∨ 57 < x0.toInt) := ⟨(by first | with_reducible assumption | exact ⟨by omega, by omega⟩), by omega, by omega⟩
      have hP9 : va_P (dC, dI) vwCl [] s.heap := hP
      have hD9 : va_D A [] := hD
      exact W.zret (v := 0) hx hb hr rfl (fun t ht hW => ⟨⟨0, (fun _ => 0), rfl, hpost, (fun _ => 0), (fun _ => (fun _ => 0)), (fun _ => (fun _ => 0)), by rw [ht]; exact hP9, va_K.moved hW.alike hK, hD9⟩, hS.F ht⟩) hS.2.2 dX13_isDigit_17
    · skip
      have b_ := zF_gt rfl zk_57 c_
      refine lv_iconst (v := 1) hx hb dX13_isDigit_12 (by decide) ?_
      refine lv_goto (tgt := 17) hx hb dX13_isDigit_13 (by decide) ?_
      refine W.widen (k := 0) (n := 0) (by decide) (by decide) ?_
      have hpost : (0 ≤ (1 : Int32).toInt ∧ (1 : Int32).toInt ≤ 1) ∧ ((1 : Int32).toInt = 1 → 48 ≤ x0.toInt ∧ x0.toInt ≤ 57) ∧ ((1 : Int32).toInt = 0 → x0.toInt < 48 ∨ 57 < x0.toInt) := ⟨(by first | with_reducible assumption | exact ⟨by omega, by omega⟩), by omega, by omega⟩
      have hP9 : va_P (dC, dI) vwCl [] s.heap := hP
      have hD9 : va_D A [] := hD
      exact W.zret (v := 1) hx hb hr rfl (fun t ht hW => ⟨⟨1, (fun _ => 0), rfl, hpost, (fun _ => 0), (fun _ => (fun _ => 0)), (fun _ => (fun _ => 0)), by rw [ht]; exact hP9, va_K.moved hW.alike hK, hD9⟩, hS.F ht⟩) hS.2.2 dX13_isDigit_17
set_option maxHeartbeats 8000000 in
set_option maxRecDepth 100000 in
theorem sX13_isSmall_0 (l : Launch) (dC : Nat → ClassId) (dI : Nat → Nat → Nat) (adK adV : Nat → Nat) (sz : Nat) (x0 : Int32) : Met l yX13_isSmall (zw yX13_isSmall cX13_isSmall 1 (some .boolean)) { frames := 0, cells := 0, slots := 0, locals := 0 } (zPc dC dI adK adV [.int x0] sz [] []) (va_Qi (fun (r : Int32) (u : Nat → Int32) => (0 ≤ r.toInt ∧ r.toInt ≤ 1) ∧ (r.toInt = 1 → 97 ≤ x0.toInt ∧ x0.toInt ≤ 122) ∧ (r.toInt = 0 → x0.toInt < 97 ∨ 122 < x0.toInt)) (fun (u : Nat → Int32) (t : State) => ∃ (ww : Nat → Int64) (aa : Nat → Nat → Int32) (bb : Nat → Nat → Int64), va_P (dC, dI) vwCl [] t.heap ∧ va_K (dC, dI) vwCl [] t ∧ va_D (va_A [] sz) []) (va_A [] sz)) 0 0 (va_A [] sz) := by
  refine Met.ofW (cc := cX13_isSmall) (maxL := 1) (ret := (some .boolean)) (by decide) rfl ?_
  intro p e s m args below meth c s₁ B hml hv
  obtain ⟨rfl, hsz, hP, hK, hD0, hE, hZ⟩ := hv
  have hx := B.exec
  have hb := B.bytes
  have hr := B.returns
  have hG : ∀ w ∈ zG, w.before _ s = true := fun w h => atoms_spec (ws := (zw yX13_isSmall cX13_isSmall 1 (some .boolean))) B.pre w (List.mem_cons_of_mem _ h)
  have hown : s.vm.findClass RX13 = some m.cls := findClass_of_methodNamed B.named
  have hlocks := B.notSynchronized

  subst hsz
  have hD := hD0.self (sz := s.heap.size)
  generalize hAe : va_A [] s.heap.size = A at hD hZ ⊢
  have hA : ∀ q : Nat, s.heap.size ≤ q → A q := fun q h => by rw [← hAe]; exact Or.inr h
  have hS : va_S A s.heap s.heap [] := va_S.rf
  have hl := lv_entry ([.int x0]) (n := 1) (Nat.le_of_ble_eq_true rfl)
  rw [lg_entry_eq]
  generalize (lg_sl ([.int x0]) ++ List.replicate (1 - (lg_sl ([.int x0])).length) Slot.unset).toArray = ls at hl ⊢
  have hl : lv_has ls 1 [(0, .int x0)] := hl
  have b_ := zk_0
  have b_ := zk_1
  refine lv_iload_n hx hb dX13_isSmall_0 rfl (lv_at hl 0 rfl) ?_
  refine lv_bipush (v := 97) hx hb dX13_isSmall_1 (by decide) ?_
  have b_ : -2147483648 ≤ x0.toInt ∧ x0.toInt ≤ 2147483647 := ⟨zlo _, zhi _⟩
  refine lv_icmp_lt (tgt := 16) hx hb dX13_isSmall_3 (by decide) (fun c_ => ?_) (fun c_ => ?_)
  · skip
    have b_ := zT_lt rfl zk_97 c_
    refine lv_iconst (v := 0) hx hb dX13_isSmall_16 (by decide) ?_
    refine W.widen (k := 0) (n := 0) (by decide) (by decide) ?_
    have hpost : (0 ≤ (0 : Int32).toInt ∧ (0 : Int32).toInt ≤ 1) ∧ ((0 : Int32).toInt = 1 → 97 ≤ x0.toInt ∧ x0.toInt ≤ 122) ∧ ((0 : Int32).toInt = 0 → x0.toInt < 97 ∨ 122 < x0.toInt) := ⟨(by first | with_reducible assumption | exact ⟨by omega, by omega⟩), by omega, by omega⟩
    have hP9 : va_P (dC, dI) vwCl [] s.heap := hP
    have hD9 : va_D A [] := hD
    exact W.zret (v := 0) hx hb hr rfl (fun t ht hW => ⟨⟨0, (fun _ => 0), rfl, hpost, (fun _ => 0), (fun _ => (fun _ => 0)), (fun _ => (fun _ => 0)), by rw [ht]; exact hP9, va_K.moved hW.alike hK, hD9⟩, hS.F ht⟩) hS.2.2 dX13_isSmall_17
  · skip
    have b_ := zF_lt rfl zk_97 c_
    refine lv_iload_n hx hb dX13_isSmall_6 rfl (lv_at hl 0 rfl) ?_
    refine lv_bipush (v := 122) hx hb dX13_isSmall_7 (by decide) ?_
    refine lv_icmp_gt (tgt := 16) hx hb dX13_isSmall_9 (by decide) (fun c_ => ?_) (fun c_ => ?_)
    · skip
      have b_ := zT_gt rfl zk_122 c_
      refine lv_iconst (v := 0) hx hb dX13_isSmall_16 (by decide) ?_
      refine W.widen (k := 0) (n := 0) (by decide) (by decide) ?_
      have hpost : (0 ≤ (0 : Int32).toInt ∧ (0 : Int32).toInt ≤ 1) ∧ ((0 : Int32).toInt = 1 → 97 ≤ x0.toInt ∧ x0.toInt ≤ 122) ∧ ((0 : Int32).toInt = 0 → x0.toInt < 97 ∨ 122 < x0.toInt) := ⟨(by first | with_reducible assumption | exact ⟨by omega, by omega⟩), by omega, by omega⟩
      have hP9 : va_P (dC, dI) vwCl [] s.heap := hP
      have hD9 : va_D A [] := hD
      exact W.zret (v := 0) hx hb hr rfl (fun t ht hW => ⟨⟨0, (fun _ => 0), rfl, hpost, (fun _ => 0), (fun _ => (fun _ => 0)), (fun _ => (fun _ => 0)), by rw [ht]; exact hP9, va_K.moved hW.alike hK, hD9⟩, hS.F ht⟩) hS.2.2 dX13_isSmall_17
    · skip
      have b_ := zF_gt rfl zk_122 c_
      refine lv_iconst (v := 1) hx hb dX13_isSmall_12 (by decide) ?_
      refine lv_goto (tgt := 17) hx hb dX13_isSmall_13 (by decide) ?_
      refine W.widen (k := 0) (n := 0) (by decide) (by decide) ?_
      have hpost : (0 ≤ (1 : Int32).toInt ∧ (1 : Int32).toInt ≤ 1) ∧ ((1 : Int32).toInt = 1 → 97 ≤ x0.toInt ∧ x0.toInt ≤ 122) ∧ ((1 : Int32).toInt = 0 → x0.toInt < 97 ∨ 122 < x0.toInt) := ⟨(by first | with_reducible assumption | exact ⟨by omega, by omega⟩), by omega, by omega⟩
      have hP9 : va_P (dC, dI) vwCl [] s.heap := hP
      have hD9 : va_D A [] := hD
      exact W.zret (v := 1) hx hb hr rfl (fun t ht hW => ⟨⟨1, (fun _ => 0), rfl, hpost, (fun _ => 0), (fun _ => (fun _ => 0)), (fun _ => (fun _ => 0)), by rw [ht]; exact hP9, va_K.moved hW.alike hK, hD9⟩, hS.F ht⟩) hS.2.2 dX13_isSmall_17
set_option maxHeartbeats 8000000 in
set_option maxRecDepth 100000 in
theorem sX13_isGreat_0 (l : Launch) (dC : Nat → ClassId) (dI : Nat → Nat → Nat) (adK adV : Nat → Nat) (sz : Nat) (x0 : Int32) : Met l yX13_isGreat (zw yX13_isGreat cX13_isGreat 1 (some .boolean)) { frames := 0, cells := 0, slots := 0, locals := 0 } (zPc dC dI adK adV [.int x0] sz [] []) (va_Qi (fun (r : Int32) (u : Nat → Int32) => (0 ≤ r.toInt ∧ r.toInt ≤ 1) ∧ (r.toInt = 1 → 65 ≤ x0.toInt ∧ x0.toInt ≤ 90) ∧ (r.toInt = 0 → x0.toInt < 65 ∨ 90 < x0.toInt)) (fun (u : Nat → Int32) (t : State) => ∃ (ww : Nat → Int64) (aa : Nat → Nat → Int32) (bb : Nat → Nat → Int64), va_P (dC, dI) vwCl [] t.heap ∧ va_K (dC, dI) vwCl [] t ∧ va_D (va_A [] sz) []) (va_A [] sz)) 0 0 (va_A [] sz) := by
  refine Met.ofW (cc := cX13_isGreat) (maxL := 1) (ret := (some .boolean)) (by decide) rfl ?_
  intro p e s m args below meth c s₁ B hml hv
  obtain ⟨rfl, hsz, hP, hK, hD0, hE, hZ⟩ := hv
  have hx := B.exec
  have hb := B.bytes
  have hr := B.returns
  have hG : ∀ w ∈ zG, w.before _ s = true := fun w h => atoms_spec (ws := (zw yX13_isGreat cX13_isGreat 1 (some .boolean))) B.pre w (List.mem_cons_of_mem _ h)
  have hown : s.vm.findClass RX13 = some m.cls := findClass_of_methodNamed B.named
  have hlocks := B.notSynchronized

  subst hsz
  have hD := hD0.self (sz := s.heap.size)
  generalize hAe : va_A [] s.heap.size = A at hD hZ ⊢
  have hA : ∀ q : Nat, s.heap.size ≤ q → A q := fun q h => by rw [← hAe]; exact Or.inr h
  have hS : va_S A s.heap s.heap [] := va_S.rf
  have hl := lv_entry ([.int x0]) (n := 1) (Nat.le_of_ble_eq_true rfl)
  rw [lg_entry_eq]
  generalize (lg_sl ([.int x0]) ++ List.replicate (1 - (lg_sl ([.int x0])).length) Slot.unset).toArray = ls at hl ⊢
  have hl : lv_has ls 1 [(0, .int x0)] := hl
  have b_ := zk_0
  have b_ := zk_1
  refine lv_iload_n hx hb dX13_isGreat_0 rfl (lv_at hl 0 rfl) ?_
  refine lv_bipush (v := 65) hx hb dX13_isGreat_1 (by decide) ?_
  have b_ : -2147483648 ≤ x0.toInt ∧ x0.toInt ≤ 2147483647 := ⟨zlo _, zhi _⟩
  refine lv_icmp_lt (tgt := 16) hx hb dX13_isGreat_3 (by decide) (fun c_ => ?_) (fun c_ => ?_)
  · skip
    have b_ := zT_lt rfl zk_65 c_
    refine lv_iconst (v := 0) hx hb dX13_isGreat_16 (by decide) ?_
    refine W.widen (k := 0) (n := 0) (by decide) (by decide) ?_
    have hpost : (0 ≤ (0 : Int32).toInt ∧ (0 : Int32).toInt ≤ 1) ∧ ((0 : Int32).toInt = 1 → 65 ≤ x0.toInt ∧ x0.toInt ≤ 90) ∧ ((0 : Int32).toInt = 0 → x0.toInt < 65 ∨ 90 < x0.toInt) := ⟨(by first | with_reducible assumption | exact ⟨by omega, by omega⟩), by omega, by omega⟩
    have hP9 : va_P (dC, dI) vwCl [] s.heap := hP
    have hD9 : va_D A [] := hD
    exact W.zret (v := 0) hx hb hr rfl (fun t ht hW => ⟨⟨0, (fun _ => 0), rfl, hpost, (fun _ => 0), (fun _ => (fun _ => 0)), (fun _ => (fun _ => 0)), by rw [ht]; exact hP9, va_K.moved hW.alike hK, hD9⟩, hS.F ht⟩) hS.2.2 dX13_isGreat_17
  · skip
    have b_ := zF_lt rfl zk_65 c_
    refine lv_iload_n hx hb dX13_isGreat_6 rfl (lv_at hl 0 rfl) ?_
    refine lv_bipush (v := 90) hx hb dX13_isGreat_7 (by decide) ?_
    refine lv_icmp_gt (tgt := 16) hx hb dX13_isGreat_9 (by decide) (fun c_ => ?_) (fun c_ => ?_)
    · skip
      have b_ := zT_gt rfl zk_90 c_
      refine lv_iconst (v := 0) hx hb dX13_isGreat_16 (by decide) ?_
      refine W.widen (k := 0) (n := 0) (by decide) (by decide) ?_
      have hpost : (0 ≤ (0 : Int32).toInt ∧ (0 : Int32).toInt ≤ 1) ∧ ((0 : Int32).toInt = 1 → 65 ≤ x0.toInt ∧ x0.toInt ≤ 90) ∧ ((0 : Int32).toInt = 0 → x0.toInt < 65 ∨ 90 < x0.toInt) := ⟨(by first | with_reducible assumption | exact ⟨by omega, by omega⟩), by omega, by omega⟩
      have hP9 : va_P (dC, dI) vwCl [] s.heap := hP
      have hD9 : va_D A [] := hD
      exact W.zret (v := 0) hx hb hr rfl (fun t ht hW => ⟨⟨0, (fun _ => 0), rfl, hpost, (fun _ => 0), (fun _ => (fun _ => 0)), (fun _ => (fun _ => 0)), by rw [ht]; exact hP9, va_K.moved hW.alike hK, hD9⟩, hS.F ht⟩) hS.2.2 dX13_isGreat_17
    · skip
      have b_ := zF_gt rfl zk_90 c_
      refine lv_iconst (v := 1) hx hb dX13_isGreat_12 (by decide) ?_
      refine lv_goto (tgt := 17) hx hb dX13_isGreat_13 (by decide) ?_
      refine W.widen (k := 0) (n := 0) (by decide) (by decide) ?_
      have hpost : (0 ≤ (1 : Int32).toInt ∧ (1 : Int32).toInt ≤ 1) ∧ ((1 : Int32).toInt = 1 → 65 ≤ x0.toInt ∧ x0.toInt ≤ 90) ∧ ((1 : Int32).toInt = 0 → x0.toInt < 65 ∨ 90 < x0.toInt) := ⟨(by first | with_reducible assumption | exact ⟨by omega, by omega⟩), by omega, by omega⟩
      have hP9 : va_P (dC, dI) vwCl [] s.heap := hP
      have hD9 : va_D A [] := hD
      exact W.zret (v := 1) hx hb hr rfl (fun t ht hW => ⟨⟨1, (fun _ => 0), rfl, hpost, (fun _ => 0), (fun _ => (fun _ => 0)), (fun _ => (fun _ => 0)), by rw [ht]; exact hP9, va_K.moved hW.alike hK, hD9⟩, hS.F ht⟩) hS.2.2 dX13_isGreat_17
theorem zv1859 : (.methodLink RX13 187 yX13_isGreat : Cond) ∈ zG := zin8 51 (by decide +kernel) (by decide +kernel)
set_option maxHeartbeats 8000000 in
set_option maxRecDepth 100000 in
theorem sX13_isToken_0 (l : Launch) (dC : Nat → ClassId) (dI : Nat → Nat → Nat) (adK adV : Nat → Nat) (sz : Nat) (x0 : Int32) : Met l yX13_isToken (zw yX13_isToken cX13_isToken 1 (some .boolean)) { frames := 1, cells := 0, slots := 0, locals := 20 } (zPc dC dI adK adV [.int x0] sz [] []) (va_Qi (fun (r : Int32) (u : Nat → Int32) => (0 ≤ r.toInt ∧ r.toInt ≤ 1) ∧ (r.toInt = 1 → zTok x0.toInt) ∧ (r.toInt = 0 → ¬ zTok x0.toInt)) (fun (u : Nat → Int32) (t : State) => ∃ (ww : Nat → Int64) (aa : Nat → Nat → Int32) (bb : Nat → Nat → Int64), va_P (dC, dI) vwCl [] t.heap ∧ va_K (dC, dI) vwCl [] t ∧ va_D (va_A [] sz) []) (va_A [] sz)) 0 0 (va_A [] sz) := by
  refine Met.ofW (cc := cX13_isToken) (maxL := 1) (ret := (some .boolean)) (by decide) rfl ?_
  intro p e s m args below meth c s₁ B hml hv
  obtain ⟨rfl, hsz, hP, hK, hD0, hE, hZ⟩ := hv
  have hx := B.exec
  have hb := B.bytes
  have hr := B.returns
  have hG : ∀ w ∈ zG, w.before _ s = true := fun w h => atoms_spec (ws := (zw yX13_isToken cX13_isToken 1 (some .boolean))) B.pre w (List.mem_cons_of_mem _ h)
  have hown : s.vm.findClass RX13 = some m.cls := findClass_of_methodNamed B.named
  have hlocks := B.notSynchronized

  subst hsz
  have hD := hD0.self (sz := s.heap.size)
  generalize hAe : va_A [] s.heap.size = A at hD hZ ⊢
  have hA : ∀ q : Nat, s.heap.size ≤ q → A q := fun q h => by rw [← hAe]; exact Or.inr h
  have hS : va_S A s.heap s.heap [] := va_S.rf
  have hl := lv_entry ([.int x0]) (n := 1) (Nat.le_of_ble_eq_true rfl)
  rw [lg_entry_eq]
  generalize (lg_sl ([.int x0]) ++ List.replicate (1 - (lg_sl ([.int x0])).length) Slot.unset).toArray = ls at hl ⊢
  have hl : lv_has ls 1 [(0, .int x0)] := hl
  have b_ := zk_0
  have b_ := zk_1
  refine lv_iload_n hx hb dX13_isToken_0 rfl (lv_at hl 0 rfl) ?_
  have hPc := hP.sub (ws' := []) [] rfl
  have hDc := hD.sub (ws' := []) [] (by decide) rfl
  have hKc := hK.sub (tys' := []) [] rfl
  have hFc := va_free (wc := []) hD hS hA [] rfl
  refine va_calli (va_runS (As := [.int x0]) (rest := []) ⟨hx, hb, hml, hown, hG⟩ (sX13_isDigit_0 l dC dI adK adV s.heap.size x0) (va_cwS 1 hG (zgS zv1853 zv1854 zv142 zv1855) rfl rfl rfl (by decide +kernel) ⟨Nat.le_of_ble_eq_true rfl, Nat.le_of_ble_eq_true rfl⟩) ⟨zPc_blind, zPc_pre hPc hKc hDc hE hS hFc hZ⟩ rfl rfl hl.1 rfl (lv_room (Nat.le_of_ble_eq_true rfl)) dX13_isToken_1 ⟨Nat.le_of_ble_eq_true rfl, Nat.le_of_ble_eq_true rfl⟩) hS (fun q _ h => hFc q h) hFc (fun r1_ u1_ t H1 locs ht hvm hw hB hz1 hk1 hS => ?_)
  replace hw : (0 ≤ r1_.toInt ∧ r1_.toInt ≤ 1) ∧ (r1_.toInt = 1 → 48 ≤ x0.toInt ∧ x0.toInt ≤ 57) ∧ (r1_.toInt = 0 → x0.toInt < 48 ∨ 57 < x0.toInt) := hw
  obtain ⟨b_, hX1_0, hX1_1⟩ := hw
  obtain ⟨w1_, a1_, b1_, hP1, hK1, hD1⟩ := hB
  rw [ht] at hP1
  obtain ⟨hP, hD⟩ := va_join (wr := []) (w1 := []) hP hD [] [] rfl rfl (by decide) (by decide) hk1 hFc hP1 hD1
  have hP : va_P (dC, dI) vwCl [] H1 := hP.sub [] rfl
  have hD : va_D A [] := hD.sub [] (by decide) rfl
  generalize H1 = H at hP hS ⊢
  clear hz1
  refine lv_if_ne (tgt := 21) hx hb dX13_isToken_4 (by decide) (fun c_ => ?_) (fun c_ => ?_)
  · skip
    have b_ := zT_ne rfl zk_0 c_
    refine lv_iconst (v := 1) hx hb dX13_isToken_21 (by decide) ?_
    refine lv_goto (tgt := 26) hx hb dX13_isToken_22 (by decide) ?_
    refine W.widen (k := 0) (n := 0) (by decide) (by decide) ?_
    have hpost : (0 ≤ (1 : Int32).toInt ∧ (1 : Int32).toInt ≤ 1) ∧ ((1 : Int32).toInt = 1 → zTok x0.toInt) ∧ ((1 : Int32).toInt = 0 → ¬ zTok x0.toInt) := ⟨(by first | with_reducible assumption | exact ⟨by omega, by omega⟩), by intro _; unfold zTok; omega, by intro _; unfold zTok; omega⟩
    have hP9 : va_P (dC, dI) vwCl [] H := hP
    have hD9 : va_D A [] := hD
    exact W.zret (v := 1) hx hb hr rfl (fun t ht hW => ⟨⟨1, (fun _ => 0), rfl, hpost, (fun _ => 0), (fun _ => (fun _ => 0)), (fun _ => (fun _ => 0)), by rw [ht]; exact hP9, va_K.moved hW.alike hK, hD9⟩, hS.F ht⟩) hS.2.2 dX13_isToken_26
  · skip
    have b_ := zF_ne rfl zk_0 c_
    refine lv_iload_n hx hb dX13_isToken_7 rfl (lv_at hl 0 rfl) ?_
    have hPc := hP.sub (ws' := []) [] rfl
    have hDc := hD.sub (ws' := []) [] (by decide) rfl
    have hKc := hK.sub (tys' := []) [] rfl
    have hFc := va_free (wc := []) hD hS hA [] rfl
    refine va_calli (va_runS (As := [.int x0]) (rest := []) ⟨hx, hb, hml, hown, hG⟩ (sX13_isSmall_0 l dC dI adK adV H.size x0) (va_cwS 1 hG (zgS zv1856 zv1857 zv142 zv1858) rfl rfl rfl (by decide +kernel) ⟨Nat.le_of_ble_eq_true rfl, Nat.le_of_ble_eq_true rfl⟩) ⟨zPc_blind, zPc_pre hPc hKc hDc hE hS hFc hZ⟩ rfl rfl hl.1 rfl (lv_room (Nat.le_of_ble_eq_true rfl)) dX13_isToken_8 ⟨Nat.le_of_ble_eq_true rfl, Nat.le_of_ble_eq_true rfl⟩) hS (fun q _ h => hFc q h) hFc (fun r8_ u8_ t H1 locs ht hvm hw hB hz1 hk1 hS => ?_)
    replace hw : (0 ≤ r8_.toInt ∧ r8_.toInt ≤ 1) ∧ (r8_.toInt = 1 → 97 ≤ x0.toInt ∧ x0.toInt ≤ 122) ∧ (r8_.toInt = 0 → x0.toInt < 97 ∨ 122 < x0.toInt) := hw
    obtain ⟨b_, hX8_0, hX8_1⟩ := hw
    obtain ⟨w8_, a8_, b8_, hP1, hK1, hD1⟩ := hB
    rw [ht] at hP1
    obtain ⟨hP, hD⟩ := va_join (wr := []) (w1 := []) hP hD [] [] rfl rfl (by decide) (by decide) hk1 hFc hP1 hD1
    have hP : va_P (dC, dI) vwCl [] H1 := hP.sub [] rfl
    have hD : va_D A [] := hD.sub [] (by decide) rfl
    generalize H1 = H at hP hS ⊢
    clear hz1
    refine lv_if_ne (tgt := 21) hx hb dX13_isToken_11 (by decide) (fun c_ => ?_) (fun c_ => ?_)
    · skip
      have b_ := zT_ne rfl zk_0 c_
      refine lv_iconst (v := 1) hx hb dX13_isToken_21 (by decide) ?_
      refine lv_goto (tgt := 26) hx hb dX13_isToken_22 (by decide) ?_
      refine W.widen (k := 0) (n := 0) (by decide) (by decide) ?_
      have hpost : (0 ≤ (1 : Int32).toInt ∧ (1 : Int32).toInt ≤ 1) ∧ ((1 : Int32).toInt = 1 → zTok x0.toInt) ∧ ((1 : Int32).toInt = 0 → ¬ zTok x0.toInt) := ⟨(by first | with_reducible assumption | exact ⟨by omega, by omega⟩), by intro _; unfold zTok; omega, by intro _; unfold zTok; omega⟩
      have hP9 : va_P (dC, dI) vwCl [] H := hP
      have hD9 : va_D A [] := hD
      exact W.zret (v := 1) hx hb hr rfl (fun t ht hW => ⟨⟨1, (fun _ => 0), rfl, hpost, (fun _ => 0), (fun _ => (fun _ => 0)), (fun _ => (fun _ => 0)), by rw [ht]; exact hP9, va_K.moved hW.alike hK, hD9⟩, hS.F ht⟩) hS.2.2 dX13_isToken_26
    · skip
      have b_ := zF_ne rfl zk_0 c_
      refine lv_iload_n hx hb dX13_isToken_14 rfl (lv_at hl 0 rfl) ?_
      have hPc := hP.sub (ws' := []) [] rfl
      have hDc := hD.sub (ws' := []) [] (by decide) rfl
      have hKc := hK.sub (tys' := []) [] rfl
      have hFc := va_free (wc := []) hD hS hA [] rfl
      refine va_calli (va_runS (As := [.int x0]) (rest := []) ⟨hx, hb, hml, hown, hG⟩ (sX13_isGreat_0 l dC dI adK adV H.size x0) (va_cwS 1 hG (zgS zv1859 zv1860 zv142 zv1861) rfl rfl rfl (by decide +kernel) ⟨Nat.le_of_ble_eq_true rfl, Nat.le_of_ble_eq_true rfl⟩) ⟨zPc_blind, zPc_pre hPc hKc hDc hE hS hFc hZ⟩ rfl rfl hl.1 rfl (lv_room (Nat.le_of_ble_eq_true rfl)) dX13_isToken_15 ⟨Nat.le_of_ble_eq_true rfl, Nat.le_of_ble_eq_true rfl⟩) hS (fun q _ h => hFc q h) hFc (fun r15_ u15_ t H1 locs ht hvm hw hB hz1 hk1 hS => ?_)
      replace hw : (0 ≤ r15_.toInt ∧ r15_.toInt ≤ 1) ∧ (r15_.toInt = 1 → 65 ≤ x0.toInt ∧ x0.toInt ≤ 90) ∧ (r15_.toInt = 0 → x0.toInt < 65 ∨ 90 < x0.toInt) := hw
      obtain ⟨b_, hX15_0, hX15_1⟩ := hw
      obtain ⟨w15_, a15_, b15_, hP1, hK1, hD1⟩ := hB
      rw [ht] at hP1
      obtain ⟨hP, hD⟩ := va_join (wr := []) (w1 := []) hP hD [] [] rfl rfl (by decide) (by decide) hk1 hFc hP1 hD1
      have hP : va_P (dC, dI) vwCl [] H1 := hP.sub [] rfl
      have hD : va_D A [] := hD.sub [] (by decide) rfl
      generalize H1 = H at hP hS ⊢
      clear hz1
      refine lv_if_eq (tgt := 25) hx hb dX13_isToken_18 (by decide) (fun c_ => ?_) (fun c_ => ?_)
      · skip
        have b_ := zT_eq rfl zk_0 c_
        refine lv_iconst (v := 0) hx hb dX13_isToken_25 (by decide) ?_
        refine W.widen (k := 0) (n := 0) (by decide) (by decide) ?_
        have hpost : (0 ≤ (0 : Int32).toInt ∧ (0 : Int32).toInt ≤ 1) ∧ ((0 : Int32).toInt = 1 → zTok x0.toInt) ∧ ((0 : Int32).toInt = 0 → ¬ zTok x0.toInt) := ⟨(by first | with_reducible assumption | exact ⟨by omega, by omega⟩), by intro _; unfold zTok; omega, by intro _; unfold zTok; omega⟩
        have hP9 : va_P (dC, dI) vwCl [] H := hP
        have hD9 : va_D A [] := hD
        exact W.zret (v := 0) hx hb hr rfl (fun t ht hW => ⟨⟨0, (fun _ => 0), rfl, hpost, (fun _ => 0), (fun _ => (fun _ => 0)), (fun _ => (fun _ => 0)), by rw [ht]; exact hP9, va_K.moved hW.alike hK, hD9⟩, hS.F ht⟩) hS.2.2 dX13_isToken_26
      · skip
        have b_ := zF_eq rfl zk_0 c_
        refine lv_iconst (v := 1) hx hb dX13_isToken_21 (by decide) ?_
        refine lv_goto (tgt := 26) hx hb dX13_isToken_22 (by decide) ?_
        refine W.widen (k := 0) (n := 0) (by decide) (by decide) ?_
        have hpost : (0 ≤ (1 : Int32).toInt ∧ (1 : Int32).toInt ≤ 1) ∧ ((1 : Int32).toInt = 1 → zTok x0.toInt) ∧ ((1 : Int32).toInt = 0 → ¬ zTok x0.toInt) := ⟨(by first | with_reducible assumption | exact ⟨by omega, by omega⟩), by intro _; unfold zTok; omega, by intro _; unfold zTok; omega⟩
        have hP9 : va_P (dC, dI) vwCl [] H := hP
        have hD9 : va_D A [] := hD
        exact W.zret (v := 1) hx hb hr rfl (fun t ht hW => ⟨⟨1, (fun _ => 0), rfl, hpost, (fun _ => 0), (fun _ => (fun _ => 0)), (fun _ => (fun _ => 0)), by rw [ht]; exact hP9, va_K.moved hW.alike hK, hD9⟩, hS.F ht⟩) hS.2.2 dX13_isToken_26
set_option maxHeartbeats 8000000 in
set_option maxRecDepth 100000 in
theorem sX13_runFrom_0 (l : Launch) (dC : Nat → ClassId) (dI : Nat → Nat → Nat) (adK adV : Nat → Nat) (h0 : Nat) (q0 : Nat → Nat) (k1 : ClassId) (sz : Nat) (v0 : Nat → Int32) (f1 : Nat → Int32) (x1 : Int32) (x2 : Int32) (hv0 : zR rg_Model v0) (hx1 : 0 ≤ x1.toInt ∧ x1.toInt ≤ 600) (hx2 : 0 ≤ x2.toInt ∧ x2.toInt ≤ 600) : Met l yX13_runFrom (zw yX13_runFrom cX13_runFrom 4 (some .int)) { frames := 2, cells := 0, slots := 0, locals := 40 } (zPc dC dI adK adV [.ref h0, .int x1, .int x2] sz [(h0, .inr (13, mX13 q0 v0)), ((q0 0), zi k1 600 f1)] [(k1, .byte)]) (va_Qi (fun (r : Int32) (u : Nat → Int32) => (0 ≤ r.toInt ∧ r.toInt ≤ 600) ∧ (x1.toInt ≤ r.toInt) ∧ (r.toInt ≤ x2.toInt ∨ r.toInt = x1.toInt) ∧ (zNt f1 x1.toInt r.toInt) ∧ (r.toInt < x2.toInt → zTok (f1 ((r : Int32)).toNatClampNeg).toInt)) (fun (u : Nat → Int32) (t : State) => ∃ (ww : Nat → Int64) (aa : Nat → Nat → Int32) (bb : Nat → Nat → Int64), va_P (dC, dI) vwCl [(h0, .inr (13, mX13 q0 v0)), ((q0 0), zi k1 600 f1)] t.heap ∧ va_K (dC, dI) vwCl [(k1, .byte)] t ∧ va_D (va_A [(h0, .inr (13, mX13 q0 v0)), ((q0 0), zi k1 600 f1)] sz) [(h0, .inr (13, mX13 q0 v0)), ((q0 0), zi k1 600 f1)]) (va_A [(h0, .inr (13, mX13 q0 v0)), ((q0 0), zi k1 600 f1)] sz)) 0 0 (va_A [(h0, .inr (13, mX13 q0 v0)), ((q0 0), zi k1 600 f1)] sz) := by
  refine Met.ofW (cc := cX13_runFrom) (maxL := 4) (ret := (some .int)) (by decide) rfl ?_
  intro p e s m args below meth c s₁ B hml hv
  obtain ⟨rfl, hsz, hP, hK, hD0, hE, hZ⟩ := hv
  have hx := B.exec
  have hb := B.bytes
  have hr := B.returns
  have hG : ∀ w ∈ zG, w.before _ s = true := fun w h => atoms_spec (ws := (zw yX13_runFrom cX13_runFrom 4 (some .int))) B.pre w (List.mem_cons_of_mem _ h)
  have hown : s.vm.findClass RX13 = some m.cls := findClass_of_methodNamed B.named
  have hlocks := B.notSynchronized

  subst hsz
  have hD := hD0.self (sz := s.heap.size)
  generalize hAe : va_A [(h0, .inr (13, mX13 q0 v0)), ((q0 0), zi k1 600 f1)] s.heap.size = A at hD hZ ⊢
  have hA : ∀ q : Nat, s.heap.size ≤ q → A q := fun q h => by rw [← hAe]; exact Or.inr h
  have hS : va_S A s.heap s.heap [] := va_S.rf
  have hl := lv_entry ([.ref h0, .int x1, .int x2]) (n := 4) (Nat.le_of_ble_eq_true rfl)
  rw [lg_entry_eq]
  generalize (lg_sl ([.ref h0, .int x1, .int x2]) ++ List.replicate (4 - (lg_sl ([.ref h0, .int x1, .int x2])).length) Slot.unset).toArray = ls at hl ⊢
  have hl : lv_has ls 4 [(0, .ref h0), (1, .int x1), (2, .int x2)] := hl
  refine lv_iload_n hx hb dX13_runFrom_0 rfl (lv_at hl 1 rfl) ?_
  refine lv_istore_n (lv' := [(3, .int x1), (0, .ref h0), (1, .int x1), (2, .int x2)]) hx hb dX13_runFrom_1 rfl hl (by decide) rfl (fun ls hl => ?_)
  refine zcutL (fun u2_ => (600 - (u2_ 0).toInt).toNat) (fun H locs ls u2_ w2_ a2_ b2_ => va_P (dC, dI) vwCl [(h0, .inr (13, mX13 q0 v0)), ((q0 0), zi k1 600 f1)] H ∧ va_D A [(h0, .inr (13, mX13 q0 v0)), ((q0 0), zi k1 600 f1)] ∧ va_S A s.heap H locs ∧ lv_has ls 4 [(0, .ref h0), (1, .int x1), (2, .int x2), (3, .int (u2_ 0))] ∧ (0 ≤ (u2_ 0).toInt ∧ (u2_ 0).toInt ≤ 600) ∧ (x1.toInt ≤ (u2_ 0).toInt) ∧ ((u2_ 0).toInt ≤ x2.toInt ∨ (u2_ 0).toInt = x1.toInt) ∧ (zNt f1 x1.toInt (u2_ 0).toInt)) (fun ls u2_ w2_ => F0 m 2 ls []) 0 0 ?_ (fun hJ2 => ?_)
  · skip
    intro H locs ls u2_ w2_ a2_ b2_ hc hJ2
    obtain ⟨hP, hD, hS, hl, b_, b_, b_, hI2_2⟩ := hc
    refine lv_iload_n hx hb dX13_runFrom_2 rfl (lv_at hl 3 rfl) ?_
    refine lv_iload_n hx hb dX13_runFrom_3 rfl (lv_at hl 2 rfl) ?_
    refine lv_icmp_ge (tgt := 25) hx hb dX13_runFrom_4 (by decide) (fun c_ => ?_) (fun c_ => ?_)
    · skip
      have b_ := zT_ge rfl rfl c_
      refine lv_iload_n hx hb dX13_runFrom_25 rfl (lv_at hl 3 rfl) ?_
      refine W.widen (k := 0) (n := 0) (by decide) (by decide) ?_
      have hpost : (0 ≤ (u2_ 0).toInt ∧ (u2_ 0).toInt ≤ 600) ∧ (x1.toInt ≤ (u2_ 0).toInt) ∧ ((u2_ 0).toInt ≤ x2.toInt ∨ (u2_ 0).toInt = x1.toInt) ∧ (zNt f1 x1.toInt (u2_ 0).toInt) ∧ ((u2_ 0).toInt < x2.toInt → zTok (f1 (((u2_ 0) : Int32)).toNatClampNeg).toInt) := ⟨(by first | with_reducible assumption | exact ⟨by omega, by omega⟩), by omega, by omega, by exact hI2_2, by first | exact fun _ => htk | (intro _; omega)⟩
      have hP9 : va_P (dC, dI) vwCl [(h0, .inr (13, mX13 q0 v0)), ((q0 0), zi k1 600 f1)] H := hP
      have hD9 : va_D A [(h0, .inr (13, mX13 q0 v0)), ((q0 0), zi k1 600 f1)] := hD
      exact W.iret (v := (u2_ 0)) hx hb hr (fun t ht hW => ⟨⟨(u2_ 0), (fun _ => 0), rfl, hpost, (fun _ => 0), (fun _ => (fun _ => 0)), (fun _ => (fun _ => 0)), by rw [ht]; exact hP9, va_K.moved hW.alike hK, hD9⟩, hS.F ht⟩) hS.2.2 dX13_runFrom_26
    · skip
      have b_ := zF_ge rfl rfl c_
      refine lv_aload_n hx hb dX13_runFrom_7 rfl (lv_at hl 0 rfl) ?_
      refine va_get (D := (dC, dI)) (ci := 13) (v := .ref (q0 0)) (C := RX13) (T := TX13) (N := 75) hx hb hG zuX13 hown hK hP 0 rfl rfl 0 (by decide) (hG _ zv1604) (fun _ h9 => h9) rfl dX13_runFrom_8 ?_
      refine lv_iload_n hx hb dX13_runFrom_11 rfl (lv_at hl 3 rfl) ?_
      refine va_bald hx hb hK hP 1 0 rfl rfl (zin_lit ⟨by omega, by omega⟩) dX13_runFrom_12 ?_
      refine lv_topi (fun z12 e_z12 => ?_)
      have hPc := hP.sub (ws' := []) [] rfl
      have hDc := hD.sub (ws' := []) [] (by decide) rfl
      have hKc := hK.sub (tys' := []) [] rfl
      have hFc := va_free (wc := []) hD hS hA [] rfl
      refine va_calli (va_runS (As := [.int z12]) (rest := []) ⟨hx, hb, hml, hown, hG⟩ (sX13_isToken_0 l dC dI adK adV H.size z12) (va_cwS 1 hG (zgS zv1850 zv1851 zv142 zv1852) rfl rfl rfl (by decide +kernel) ⟨Nat.le_of_ble_eq_true rfl, Nat.le_of_ble_eq_true rfl⟩) ⟨zPc_blind, zPc_pre hPc hKc hDc hE hS hFc hZ⟩ rfl rfl hl.1 rfl (lv_room (Nat.le_of_ble_eq_true rfl)) dX13_runFrom_13 ⟨Nat.le_of_ble_eq_true rfl, Nat.le_of_ble_eq_true rfl⟩) hS (fun q _ h => hFc q h) hFc (fun r13_ u13_ t H1 locs ht hvm hw hB hz1 hk1 hS => ?_)
      replace hw : (0 ≤ r13_.toInt ∧ r13_.toInt ≤ 1) ∧ (r13_.toInt = 1 → zTok z12.toInt) ∧ (r13_.toInt = 0 → ¬ zTok z12.toInt) := hw
      obtain ⟨b_, hX13_0, hX13_1⟩ := hw
      obtain ⟨w13_, a13_, b13_, hP1, hK1, hD1⟩ := hB
      rw [ht] at hP1
      obtain ⟨hP, hD⟩ := va_join (wr := [(h0, .inr (13, mX13 q0 v0)), ((q0 0), zi k1 600 f1)]) (w1 := []) hP hD [] [0, 1] rfl rfl (by decide) (by decide) hk1 hFc hP1 hD1
      have hP : va_P (dC, dI) vwCl [(h0, .inr (13, mX13 q0 v0)), ((q0 0), zi k1 600 f1)] H1 := hP.sub [0, 1] rfl
      have hD : va_D A [(h0, .inr (13, mX13 q0 v0)), ((q0 0), zi k1 600 f1)] := hD.sub [0, 1] (by decide) rfl
      generalize H1 = H at hP hS ⊢
      clear hz1
      refine lv_if_ne (tgt := 25) hx hb dX13_runFrom_16 (by decide) (fun c_ => ?_) (fun c_ => ?_)
      · skip
        have b_ := zT_ne rfl zk_0 c_
        have htk : zTok (f1 ((u2_ 0) : Int32).toNatClampNeg).toInt := by rw [← e_z12]; exact hX13_0 (by omega)
        refine lv_iload_n hx hb dX13_runFrom_25 rfl (lv_at hl 3 rfl) ?_
        refine W.widen (k := 0) (n := 0) (by decide) (by decide) ?_
        have hpost : (0 ≤ (u2_ 0).toInt ∧ (u2_ 0).toInt ≤ 600) ∧ (x1.toInt ≤ (u2_ 0).toInt) ∧ ((u2_ 0).toInt ≤ x2.toInt ∨ (u2_ 0).toInt = x1.toInt) ∧ (zNt f1 x1.toInt (u2_ 0).toInt) ∧ ((u2_ 0).toInt < x2.toInt → zTok (f1 (((u2_ 0) : Int32)).toNatClampNeg).toInt) := ⟨(by first | with_reducible assumption | exact ⟨by omega, by omega⟩), by omega, by omega, by exact hI2_2, by first | exact fun _ => htk | (intro _; omega)⟩
        have hP9 : va_P (dC, dI) vwCl [(h0, .inr (13, mX13 q0 v0)), ((q0 0), zi k1 600 f1)] H := hP
        have hD9 : va_D A [(h0, .inr (13, mX13 q0 v0)), ((q0 0), zi k1 600 f1)] := hD
        exact W.iret (v := (u2_ 0)) hx hb hr (fun t ht hW => ⟨⟨(u2_ 0), (fun _ => 0), rfl, hpost, (fun _ => 0), (fun _ => (fun _ => 0)), (fun _ => (fun _ => 0)), by rw [ht]; exact hP9, va_K.moved hW.alike hK, hD9⟩, hS.F ht⟩) hS.2.2 dX13_runFrom_26
      · skip
        have b_ := zF_ne rfl zk_0 c_
        obtain ⟨z19, e_z19⟩ : ∃ z : Int32, z = (u2_ 0) + Int32.ofInt 1 := ⟨_, rfl⟩
        have b_ := zadd (x := (u2_ 0)) (y := Int32.ofInt 1) rfl (show (Int32.ofInt 1).toInt = 1 from by decide) e_z19 (by omega) (by omega)
        refine lv_iinc (v := z19) (lv' := [(3, .int z19), (0, .ref h0), (1, .int x1), (2, .int x2)]) hx hb dX13_runFrom_19 hl (k := 3) rfl e_z19.symm (by decide) rfl (fun ls hl => ?_)
        refine lv_goto (tgt := 2) hx hb dX13_runFrom_22 (by decide) ?_
        have hc : va_P (dC, dI) vwCl [(h0, .inr (13, mX13 q0 v0)), ((q0 0), zi k1 600 f1)] H ∧ va_D A [(h0, .inr (13, mX13 q0 v0)), ((q0 0), zi k1 600 f1)] ∧ va_S A s.heap H locs ∧ lv_has ls 4 [(0, .ref h0), (1, .int x1), (2, .int x2), (3, .int z19)] ∧ (0 ≤ z19.toInt ∧ z19.toInt ≤ 600) ∧ (x1.toInt ≤ z19.toInt) ∧ (z19.toInt ≤ x2.toInt ∨ z19.toInt = x1.toInt) ∧ (zNt f1 x1.toInt z19.toInt) := ⟨hP, hD, hS, lv_sub hl [1, 2, 3, 0] rfl, (by first | with_reducible assumption | exact ⟨by omega, by omega⟩), by omega, by omega, by first | exact zNt_0 (by omega) | exact zNt_s (by assumption) e_z12 (hX13_1 (by omega)) (by omega) (by omega)⟩
        exact hJ2 H locs ls (fun i => ([z19] : List (Int32)).getD i 0) (fun _ => 0) (fun _ => (fun _ => 0)) (fun _ => (fun _ => 0)) hc (show (600 - z19.toInt).toNat < (600 - (u2_ 0).toInt).toNat from by omega)
  · skip
    have hc : va_P (dC, dI) vwCl [(h0, .inr (13, mX13 q0 v0)), ((q0 0), zi k1 600 f1)] s.heap ∧ va_D A [(h0, .inr (13, mX13 q0 v0)), ((q0 0), zi k1 600 f1)] ∧ va_S A s.heap s.heap [] ∧ lv_has ls 4 [(0, .ref h0), (1, .int x1), (2, .int x2), (3, .int x1)] ∧ (0 ≤ x1.toInt ∧ x1.toInt ≤ 600) ∧ (x1.toInt ≤ x1.toInt) ∧ (x1.toInt ≤ x2.toInt ∨ x1.toInt = x1.toInt) ∧ (zNt f1 x1.toInt x1.toInt) := ⟨hP, hD, hS, lv_sub hl [1, 2, 3, 0] rfl, (by first | with_reducible assumption | exact ⟨by omega, by omega⟩), by omega, by omega, by first | exact zNt_0 (by omega) | exact zNt_s (by assumption) e_z12 (hX13_1 (by omega)) (by omega) (by omega)⟩
    exact hJ2 s.heap [] ls (fun i => ([x1] : List (Int32)).getD i 0) (fun _ => 0) (fun _ => (fun _ => 0)) (fun _ => (fun _ => 0)) hc
set_option maxHeartbeats 8000000 in
set_option maxRecDepth 100000 in
theorem sX13_runEnd_0 (l : Launch) (dC : Nat → ClassId) (dI : Nat → Nat → Nat) (adK adV : Nat → Nat) (h0 : Nat) (q0 : Nat → Nat) (k1 : ClassId) (sz : Nat) (v0 : Nat → Int32) (f1 : Nat → Int32) (x1 : Int32) (x2 : Int32) (hv0 : zR rg_Model v0) (hx1 : 0 ≤ x1.toInt ∧ x1.toInt ≤ 600) (hx2 : 0 ≤ x2.toInt ∧ x2.toInt ≤ 600) : Met l yX13_runEnd (zw yX13_runEnd cX13_runEnd 4 (some .int)) { frames := 2, cells := 0, slots := 0, locals := 40 } (zPc dC dI adK adV [.ref h0, .int x1, .int x2] sz [(h0, .inr (13, mX13 q0 v0)), ((q0 0), zi k1 600 f1)] [(k1, .byte)]) (va_Qi (fun (r : Int32) (u : Nat → Int32) => (0 ≤ r.toInt ∧ r.toInt ≤ 600) ∧ (x1.toInt ≤ r.toInt) ∧ (r.toInt ≤ x2.toInt ∨ r.toInt = x1.toInt) ∧ (r.toInt ≤ 600) ∧ (r.toInt < x2.toInt → ¬ zTok (f1 ((r : Int32)).toNatClampNeg).toInt) ∧ (x1.toInt < x2.toInt → zTok (f1 ((x1 : Int32)).toNatClampNeg).toInt → x1.toInt < r.toInt) ∧ (zAt f1 x1.toInt r.toInt)) (fun (u : Nat → Int32) (t : State) => ∃ (ww : Nat → Int64) (aa : Nat → Nat → Int32) (bb : Nat → Nat → Int64), va_P (dC, dI) vwCl [(h0, .inr (13, mX13 q0 v0)), ((q0 0), zi k1 600 f1)] t.heap ∧ va_K (dC, dI) vwCl [(k1, .byte)] t ∧ va_D (va_A [(h0, .inr (13, mX13 q0 v0)), ((q0 0), zi k1 600 f1)] sz) [(h0, .inr (13, mX13 q0 v0)), ((q0 0), zi k1 600 f1)]) (va_A [(h0, .inr (13, mX13 q0 v0)), ((q0 0), zi k1 600 f1)] sz)) 0 0 (va_A [(h0, .inr (13, mX13 q0 v0)), ((q0 0), zi k1 600 f1)] sz) := by
  refine Met.ofW (cc := cX13_runEnd) (maxL := 4) (ret := (some .int)) (by decide) rfl ?_
  intro p e s m args below meth c s₁ B hml hv
  obtain ⟨rfl, hsz, hP, hK, hD0, hE, hZ⟩ := hv
  have hx := B.exec
  have hb := B.bytes
  have hr := B.returns
  have hG : ∀ w ∈ zG, w.before _ s = true := fun w h => atoms_spec (ws := (zw yX13_runEnd cX13_runEnd 4 (some .int))) B.pre w (List.mem_cons_of_mem _ h)
  have hown : s.vm.findClass RX13 = some m.cls := findClass_of_methodNamed B.named
  have hlocks := B.notSynchronized

  subst hsz
  have hD := hD0.self (sz := s.heap.size)
  generalize hAe : va_A [(h0, .inr (13, mX13 q0 v0)), ((q0 0), zi k1 600 f1)] s.heap.size = A at hD hZ ⊢
  have hA : ∀ q : Nat, s.heap.size ≤ q → A q := fun q h => by rw [← hAe]; exact Or.inr h
  have hS : va_S A s.heap s.heap [] := va_S.rf
  have hl := lv_entry ([.ref h0, .int x1, .int x2]) (n := 4) (Nat.le_of_ble_eq_true rfl)
  rw [lg_entry_eq]
  generalize (lg_sl ([.ref h0, .int x1, .int x2]) ++ List.replicate (4 - (lg_sl ([.ref h0, .int x1, .int x2])).length) Slot.unset).toArray = ls at hl ⊢
  have hl : lv_has ls 4 [(0, .ref h0), (1, .int x1), (2, .int x2)] := hl
  refine lv_iload_n hx hb dX13_runEnd_0 rfl (lv_at hl 1 rfl) ?_
  refine lv_istore_n (lv' := [(3, .int x1), (0, .ref h0), (1, .int x1), (2, .int x2)]) hx hb dX13_runEnd_1 rfl hl (by decide) rfl (fun ls hl => ?_)
  refine zcutL (fun u2_ => (600 - (u2_ 0).toInt).toNat) (fun H locs ls u2_ w2_ a2_ b2_ => va_P (dC, dI) vwCl [(h0, .inr (13, mX13 q0 v0)), ((q0 0), zi k1 600 f1)] H ∧ va_D A [(h0, .inr (13, mX13 q0 v0)), ((q0 0), zi k1 600 f1)] ∧ va_S A s.heap H locs ∧ lv_has ls 4 [(0, .ref h0), (1, .int x1), (2, .int x2), (3, .int (u2_ 0))] ∧ (0 ≤ (u2_ 0).toInt ∧ (u2_ 0).toInt ≤ 600) ∧ (x1.toInt ≤ (u2_ 0).toInt) ∧ ((u2_ 0).toInt ≤ x2.toInt ∨ (u2_ 0).toInt = x1.toInt) ∧ (zAt f1 x1.toInt (u2_ 0).toInt)) (fun ls u2_ w2_ => F0 m 2 ls []) 0 0 ?_ (fun hJ2 => ?_)
  · skip
    intro H locs ls u2_ w2_ a2_ b2_ hc hJ2
    obtain ⟨hP, hD, hS, hl, b_, b_, b_, hI2_2⟩ := hc
    refine lv_iload_n hx hb dX13_runEnd_2 rfl (lv_at hl 3 rfl) ?_
    refine lv_iload_n hx hb dX13_runEnd_3 rfl (lv_at hl 2 rfl) ?_
    refine lv_icmp_ge (tgt := 25) hx hb dX13_runEnd_4 (by decide) (fun c_ => ?_) (fun c_ => ?_)
    · skip
      have b_ := zT_ge rfl rfl c_
      refine lv_iload_n hx hb dX13_runEnd_25 rfl (lv_at hl 3 rfl) ?_
      refine W.widen (k := 0) (n := 0) (by decide) (by decide) ?_
      have hpost : (0 ≤ (u2_ 0).toInt ∧ (u2_ 0).toInt ≤ 600) ∧ (x1.toInt ≤ (u2_ 0).toInt) ∧ ((u2_ 0).toInt ≤ x2.toInt ∨ (u2_ 0).toInt = x1.toInt) ∧ ((u2_ 0).toInt ≤ 600) ∧ ((u2_ 0).toInt < x2.toInt → ¬ zTok (f1 (((u2_ 0) : Int32)).toNatClampNeg).toInt) ∧ (x1.toInt < x2.toInt → zTok (f1 ((x1 : Int32)).toNatClampNeg).toInt → x1.toInt < (u2_ 0).toInt) ∧ (zAt f1 x1.toInt (u2_ 0).toInt) := ⟨(by first | with_reducible assumption | exact ⟨by omega, by omega⟩), by omega, by omega, by omega, by first | (intro _; omega) | exact fun _ => hnt, by first | (intro _ _; omega) | exact fun _ => zrun hnt (by omega), by exact hI2_2⟩
      have hP9 : va_P (dC, dI) vwCl [(h0, .inr (13, mX13 q0 v0)), ((q0 0), zi k1 600 f1)] H := hP
      have hD9 : va_D A [(h0, .inr (13, mX13 q0 v0)), ((q0 0), zi k1 600 f1)] := hD
      exact W.iret (v := (u2_ 0)) hx hb hr (fun t ht hW => ⟨⟨(u2_ 0), (fun _ => 0), rfl, hpost, (fun _ => 0), (fun _ => (fun _ => 0)), (fun _ => (fun _ => 0)), by rw [ht]; exact hP9, va_K.moved hW.alike hK, hD9⟩, hS.F ht⟩) hS.2.2 dX13_runEnd_26
    · skip
      have b_ := zF_ge rfl rfl c_
      refine lv_aload_n hx hb dX13_runEnd_7 rfl (lv_at hl 0 rfl) ?_
      refine va_get (D := (dC, dI)) (ci := 13) (v := .ref (q0 0)) (C := RX13) (T := TX13) (N := 75) hx hb hG zuX13 hown hK hP 0 rfl rfl 0 (by decide) (hG _ zv1604) (fun _ h9 => h9) rfl dX13_runEnd_8 ?_
      refine lv_iload_n hx hb dX13_runEnd_11 rfl (lv_at hl 3 rfl) ?_
      refine va_bald hx hb hK hP 1 0 rfl rfl (zin_lit ⟨by omega, by omega⟩) dX13_runEnd_12 ?_
      refine lv_topi (fun z12 e_z12 => ?_)
      have hPc := hP.sub (ws' := []) [] rfl
      have hDc := hD.sub (ws' := []) [] (by decide) rfl
      have hKc := hK.sub (tys' := []) [] rfl
      have hFc := va_free (wc := []) hD hS hA [] rfl
      refine va_calli (va_runS (As := [.int z12]) (rest := []) ⟨hx, hb, hml, hown, hG⟩ (sX13_isToken_0 l dC dI adK adV H.size z12) (va_cwS 1 hG (zgS zv1850 zv1851 zv142 zv1852) rfl rfl rfl (by decide +kernel) ⟨Nat.le_of_ble_eq_true rfl, Nat.le_of_ble_eq_true rfl⟩) ⟨zPc_blind, zPc_pre hPc hKc hDc hE hS hFc hZ⟩ rfl rfl hl.1 rfl (lv_room (Nat.le_of_ble_eq_true rfl)) dX13_runEnd_13 ⟨Nat.le_of_ble_eq_true rfl, Nat.le_of_ble_eq_true rfl⟩) hS (fun q _ h => hFc q h) hFc (fun r13_ u13_ t H1 locs ht hvm hw hB hz1 hk1 hS => ?_)
      replace hw : (0 ≤ r13_.toInt ∧ r13_.toInt ≤ 1) ∧ (r13_.toInt = 1 → zTok z12.toInt) ∧ (r13_.toInt = 0 → ¬ zTok z12.toInt) := hw
      obtain ⟨b_, hX13_0, hX13_1⟩ := hw
      obtain ⟨w13_, a13_, b13_, hP1, hK1, hD1⟩ := hB
      rw [ht] at hP1
      obtain ⟨hP, hD⟩ := va_join (wr := [(h0, .inr (13, mX13 q0 v0)), ((q0 0), zi k1 600 f1)]) (w1 := []) hP hD [] [0, 1] rfl rfl (by decide) (by decide) hk1 hFc hP1 hD1
      have hP : va_P (dC, dI) vwCl [(h0, .inr (13, mX13 q0 v0)), ((q0 0), zi k1 600 f1)] H1 := hP.sub [0, 1] rfl
      have hD : va_D A [(h0, .inr (13, mX13 q0 v0)), ((q0 0), zi k1 600 f1)] := hD.sub [0, 1] (by decide) rfl
      generalize H1 = H at hP hS ⊢
      clear hz1
      refine lv_if_eq (tgt := 25) hx hb dX13_runEnd_16 (by decide) (fun c_ => ?_) (fun c_ => ?_)
      · skip
        have b_ := zT_eq rfl zk_0 c_
        have hnt : ¬ zTok (f1 ((u2_ 0) : Int32).toNatClampNeg).toInt := by rw [← e_z12]; exact hX13_1 (by omega)
        refine lv_iload_n hx hb dX13_runEnd_25 rfl (lv_at hl 3 rfl) ?_
        refine W.widen (k := 0) (n := 0) (by decide) (by decide) ?_
        have hpost : (0 ≤ (u2_ 0).toInt ∧ (u2_ 0).toInt ≤ 600) ∧ (x1.toInt ≤ (u2_ 0).toInt) ∧ ((u2_ 0).toInt ≤ x2.toInt ∨ (u2_ 0).toInt = x1.toInt) ∧ ((u2_ 0).toInt ≤ 600) ∧ ((u2_ 0).toInt < x2.toInt → ¬ zTok (f1 (((u2_ 0) : Int32)).toNatClampNeg).toInt) ∧ (x1.toInt < x2.toInt → zTok (f1 ((x1 : Int32)).toNatClampNeg).toInt → x1.toInt < (u2_ 0).toInt) ∧ (zAt f1 x1.toInt (u2_ 0).toInt) := ⟨(by first | with_reducible assumption | exact ⟨by omega, by omega⟩), by omega, by omega, by omega, by first | (intro _; omega) | exact fun _ => hnt, by first | (intro _ _; omega) | exact fun _ => zrun hnt (by omega), by exact hI2_2⟩
        have hP9 : va_P (dC, dI) vwCl [(h0, .inr (13, mX13 q0 v0)), ((q0 0), zi k1 600 f1)] H := hP
        have hD9 : va_D A [(h0, .inr (13, mX13 q0 v0)), ((q0 0), zi k1 600 f1)] := hD
        exact W.iret (v := (u2_ 0)) hx hb hr (fun t ht hW => ⟨⟨(u2_ 0), (fun _ => 0), rfl, hpost, (fun _ => 0), (fun _ => (fun _ => 0)), (fun _ => (fun _ => 0)), by rw [ht]; exact hP9, va_K.moved hW.alike hK, hD9⟩, hS.F ht⟩) hS.2.2 dX13_runEnd_26
      · skip
        have b_ := zF_eq rfl zk_0 c_
        obtain ⟨z19, e_z19⟩ : ∃ z : Int32, z = (u2_ 0) + Int32.ofInt 1 := ⟨_, rfl⟩
        have b_ := zadd (x := (u2_ 0)) (y := Int32.ofInt 1) rfl (show (Int32.ofInt 1).toInt = 1 from by decide) e_z19 (by omega) (by omega)
        refine lv_iinc (v := z19) (lv' := [(3, .int z19), (0, .ref h0), (1, .int x1), (2, .int x2)]) hx hb dX13_runEnd_19 hl (k := 3) rfl e_z19.symm (by decide) rfl (fun ls hl => ?_)
        refine lv_goto (tgt := 2) hx hb dX13_runEnd_22 (by decide) ?_
        have hc : va_P (dC, dI) vwCl [(h0, .inr (13, mX13 q0 v0)), ((q0 0), zi k1 600 f1)] H ∧ va_D A [(h0, .inr (13, mX13 q0 v0)), ((q0 0), zi k1 600 f1)] ∧ va_S A s.heap H locs ∧ lv_has ls 4 [(0, .ref h0), (1, .int x1), (2, .int x2), (3, .int z19)] ∧ (0 ≤ z19.toInt ∧ z19.toInt ≤ 600) ∧ (x1.toInt ≤ z19.toInt) ∧ (z19.toInt ≤ x2.toInt ∨ z19.toInt = x1.toInt) ∧ (zAt f1 x1.toInt z19.toInt) := ⟨hP, hD, hS, lv_sub hl [1, 2, 3, 0] rfl, (by first | with_reducible assumption | exact ⟨by omega, by omega⟩), by omega, by omega, by first | exact zAt_0 (by omega) | exact zAt_s (by assumption) e_z12 (hX13_0 (by omega)) (by omega) (by omega)⟩
        exact hJ2 H locs ls (fun i => ([z19] : List (Int32)).getD i 0) (fun _ => 0) (fun _ => (fun _ => 0)) (fun _ => (fun _ => 0)) hc (show (600 - z19.toInt).toNat < (600 - (u2_ 0).toInt).toNat from by omega)
  · skip
    have hc : va_P (dC, dI) vwCl [(h0, .inr (13, mX13 q0 v0)), ((q0 0), zi k1 600 f1)] s.heap ∧ va_D A [(h0, .inr (13, mX13 q0 v0)), ((q0 0), zi k1 600 f1)] ∧ va_S A s.heap s.heap [] ∧ lv_has ls 4 [(0, .ref h0), (1, .int x1), (2, .int x2), (3, .int x1)] ∧ (0 ≤ x1.toInt ∧ x1.toInt ≤ 600) ∧ (x1.toInt ≤ x1.toInt) ∧ (x1.toInt ≤ x2.toInt ∨ x1.toInt = x1.toInt) ∧ (zAt f1 x1.toInt x1.toInt) := ⟨hP, hD, hS, lv_sub hl [1, 2, 3, 0] rfl, (by first | with_reducible assumption | exact ⟨by omega, by omega⟩), by omega, by omega, by first | exact zAt_0 (by omega) | exact zAt_s (by assumption) e_z12 (hX13_0 (by omega)) (by omega) (by omega)⟩
    exact hJ2 s.heap [] ls (fun i => ([x1] : List (Int32)).getD i 0) (fun _ => 0) (fun _ => (fun _ => 0)) (fun _ => (fun _ => 0)) hc
set_option maxHeartbeats 8000000 in
set_option maxRecDepth 100000 in
theorem sX13_small_0 (l : Launch) (dC : Nat → ClassId) (dI : Nat → Nat → Nat) (adK adV : Nat → Nat) (sz : Nat) (x0 : Int32) : Met l yX13_small (zw yX13_small cX13_small 1 (some .int)) { frames := 1, cells := 0, slots := 0, locals := 20 } (zPc dC dI adK adV [.int x0] sz [] []) (va_Qi (fun (r : Int32) (u : Nat → Int32) => (r.toInt = zSml x0.toInt)) (fun (u : Nat → Int32) (t : State) => ∃ (ww : Nat → Int64) (aa : Nat → Nat → Int32) (bb : Nat → Nat → Int64), va_P (dC, dI) vwCl [] t.heap ∧ va_K (dC, dI) vwCl [] t ∧ va_D (va_A [] sz) []) (va_A [] sz)) 0 0 (va_A [] sz) := by
  refine Met.ofW (cc := cX13_small) (maxL := 1) (ret := (some .int)) (by decide) rfl ?_
  intro p e s m args below meth c s₁ B hml hv
  obtain ⟨rfl, hsz, hP, hK, hD0, hE, hZ⟩ := hv
  have hx := B.exec
  have hb := B.bytes
  have hr := B.returns
  have hG : ∀ w ∈ zG, w.before _ s = true := fun w h => atoms_spec (ws := (zw yX13_small cX13_small 1 (some .int))) B.pre w (List.mem_cons_of_mem _ h)
  have hown : s.vm.findClass RX13 = some m.cls := findClass_of_methodNamed B.named
  have hlocks := B.notSynchronized

  subst hsz
  have hD := hD0.self (sz := s.heap.size)
  generalize hAe : va_A [] s.heap.size = A at hD hZ ⊢
  have hA : ∀ q : Nat, s.heap.size ≤ q → A q := fun q h => by rw [← hAe]; exact Or.inr h
  have hS : va_S A s.heap s.heap [] := va_S.rf
  have hl := lv_entry ([.int x0]) (n := 1) (Nat.le_of_ble_eq_true rfl)
  rw [lg_entry_eq]
  generalize (lg_sl ([.int x0]) ++ List.replicate (1 - (lg_sl ([.int x0])).length) Slot.unset).toArray = ls at hl ⊢
  have hl : lv_has ls 1 [(0, .int x0)] := hl
  refine lv_iload_n hx hb dX13_small_0 rfl (lv_at hl 0 rfl) ?_
  have hPc := hP.sub (ws' := []) [] rfl
  have hDc := hD.sub (ws' := []) [] (by decide) rfl
  have hKc := hK.sub (tys' := []) [] rfl
  have hFc := va_free (wc := []) hD hS hA [] rfl
  refine va_calli (va_runS (As := [.int x0]) (rest := []) ⟨hx, hb, hml, hown, hG⟩ (sX13_isGreat_0 l dC dI adK adV s.heap.size x0) (va_cwS 1 hG (zgS zv1859 zv1860 zv142 zv1861) rfl rfl rfl (by decide +kernel) ⟨Nat.le_of_ble_eq_true rfl, Nat.le_of_ble_eq_true rfl⟩) ⟨zPc_blind, zPc_pre hPc hKc hDc hE hS hFc hZ⟩ rfl rfl hl.1 rfl (lv_room (Nat.le_of_ble_eq_true rfl)) dX13_small_1 ⟨Nat.le_of_ble_eq_true rfl, Nat.le_of_ble_eq_true rfl⟩) hS (fun q _ h => hFc q h) hFc (fun r1_ u1_ t H1 locs ht hvm hw hB hz1 hk1 hS => ?_)
  replace hw : (0 ≤ r1_.toInt ∧ r1_.toInt ≤ 1) ∧ (r1_.toInt = 1 → 65 ≤ x0.toInt ∧ x0.toInt ≤ 90) ∧ (r1_.toInt = 0 → x0.toInt < 65 ∨ 90 < x0.toInt) := hw
  obtain ⟨b_, hX1_0, hX1_1⟩ := hw
  obtain ⟨w1_, a1_, b1_, hP1, hK1, hD1⟩ := hB
  rw [ht] at hP1
  obtain ⟨hP, hD⟩ := va_join (wr := []) (w1 := []) hP hD [] [] rfl rfl (by decide) (by decide) hk1 hFc hP1 hD1
  have hP : va_P (dC, dI) vwCl [] H1 := hP.sub [] rfl
  have hD : va_D A [] := hD.sub [] (by decide) rfl
  generalize H1 = H at hP hS ⊢
  clear hz1
  refine lv_if_eq (tgt := 14) hx hb dX13_small_4 (by decide) (fun c_ => ?_) (fun c_ => ?_)
  · skip
    have b_ := zT_eq rfl zk_0 c_
    refine lv_iload_n hx hb dX13_small_14 rfl (lv_at hl 0 rfl) ?_
    refine W.widen (k := 0) (n := 0) (by decide) (by decide) ?_
    have b_ : -2147483648 ≤ x0.toInt ∧ x0.toInt ≤ 2147483647 := ⟨zlo _, zhi _⟩
    have hpost : (x0.toInt = zSml x0.toInt) := by first | exact zSml_y (by omega) (by omega) (by omega) | exact zSml_n (by omega)
    have hP9 : va_P (dC, dI) vwCl [] H := hP
    have hD9 : va_D A [] := hD
    exact W.iret (v := x0) hx hb hr (fun t ht hW => ⟨⟨x0, (fun _ => 0), rfl, hpost, (fun _ => 0), (fun _ => (fun _ => 0)), (fun _ => (fun _ => 0)), by rw [ht]; exact hP9, va_K.moved hW.alike hK, hD9⟩, hS.F ht⟩) hS.2.2 dX13_small_15
  · skip
    have b_ := zF_eq rfl zk_0 c_
    refine lv_iload_n hx hb dX13_small_7 rfl (lv_at hl 0 rfl) ?_
    refine lv_bipush (v := 32) hx hb dX13_small_8 (by decide) ?_
    have b_ : -2147483648 ≤ x0.toInt ∧ x0.toInt ≤ 2147483647 := ⟨zlo _, zhi _⟩
    refine lv_iadd hx hb dX13_small_10 ?_
    refine lv_topi (fun z10 e_z10 => ?_)
    have b_ : z10.toInt = x0.toInt + 32 := zadd rfl (by decide : (32 : Int32).toInt = 32) e_z10 (by omega) (by omega)
    refine lv_goto (tgt := 15) hx hb dX13_small_11 (by decide) ?_
    refine W.widen (k := 0) (n := 0) (by decide) (by decide) ?_
    have b_ : -2147483648 ≤ z10.toInt ∧ z10.toInt ≤ 2147483647 := ⟨zlo _, zhi _⟩
    have hpost : (z10.toInt = zSml x0.toInt) := by first | exact zSml_y (by omega) (by omega) (by omega) | exact zSml_n (by omega)
    have hP9 : va_P (dC, dI) vwCl [] H := hP
    have hD9 : va_D A [] := hD
    exact W.iret (v := z10) hx hb hr (fun t ht hW => ⟨⟨z10, (fun _ => 0), rfl, hpost, (fun _ => 0), (fun _ => (fun _ => 0)), (fun _ => (fun _ => 0)), by rw [ht]; exact hP9, va_K.moved hW.alike hK, hD9⟩, hS.F ht⟩) hS.2.2 dX13_small_15
theorem zv1874 : (.methodLink RX13 196 yX13_small : Cond) ∈ zG := zin8 66 (by decide +kernel) (by decide +kernel)
set_option maxHeartbeats 8000000 in
set_option maxRecDepth 100000 in
theorem sX13_takeBytes_0 (l : Launch) (dC : Nat → ClassId) (dI : Nat → Nat → Nat) (adK adV : Nat → Nat) (h0 : Nat) (q0 : Nat → Nat) (k1 : ClassId) (k15 : ClassId) (sz : Nat) (v0 : Nat → Int32) (f1 : Nat → Int32) (f15 : Nat → Int32) (x1 : Int32) (x2 : Int32) (hv0 : zR rg_Model v0) (hx1 : 0 ≤ x1.toInt ∧ x1.toInt ≤ 600) (hx2 : 0 ≤ x2.toInt ∧ x2.toInt ≤ 600) : Met l yX13_takeBytes (zw yX13_takeBytes cX13_takeBytes 4 none) { frames := 2, cells := 0, slots := 0, locals := 40 } (zPc dC dI adK adV [.ref h0, .int x1, .int x2] sz [(h0, .inr (13, mX13 q0 v0)), ((q0 0), zi k1 600 f1), ((q0 19), zi k15 12 f15)] [(k1, .byte), (k15, .byte)]) (va_Qv (fun (u : Nat → Int32) => (0 ≤ (u 0).toInt ∧ (u 0).toInt ≤ 12) ∧ (x1.toInt ≤ x2.toInt → ((u 0).toInt = 12 ∨ x1.toInt + (u 0).toInt = x2.toInt) ∧ x1.toInt + (u 0).toInt ≤ x2.toInt)) (fun (u : Nat → Int32) (t : State) => ∃ (ww : Nat → Int64) (aa : Nat → Nat → Int32) (bb : Nat → Nat → Int64), (zTkb f1 x1.toInt x2.toInt (aa 0) (u 0).toInt) ∧ va_P (dC, dI) vwCl [(h0, .inr (13, mX13 q0 (upd v0 20 (u 0)))), ((q0 0), zi k1 600 f1), ((q0 19), zi k15 12 (aa 0))] t.heap ∧ va_K (dC, dI) vwCl [(k1, .byte), (k15, .byte)] t ∧ va_D (va_A [(h0, .inr (13, mX13 q0 v0)), ((q0 0), zi k1 600 f1), ((q0 19), zi k15 12 f15)] sz) [(h0, .inr (13, mX13 q0 (upd v0 20 (u 0)))), ((q0 0), zi k1 600 f1), ((q0 19), zi k15 12 (aa 0))]) (va_A [(h0, .inr (13, mX13 q0 v0)), ((q0 0), zi k1 600 f1), ((q0 19), zi k15 12 f15)] sz)) 0 0 (va_A [(h0, .inr (13, mX13 q0 v0)), ((q0 0), zi k1 600 f1), ((q0 19), zi k15 12 f15)] sz) := by
  refine Met.ofW (cc := cX13_takeBytes) (maxL := 4) (ret := none) (by decide) rfl ?_
  intro p e s m args below meth c s₁ B hml hv
  obtain ⟨rfl, hsz, hP, hK, hD0, hE, hZ⟩ := hv
  have hx := B.exec
  have hb := B.bytes
  have hr := B.returns
  have hG : ∀ w ∈ zG, w.before _ s = true := fun w h => atoms_spec (ws := (zw yX13_takeBytes cX13_takeBytes 4 none)) B.pre w (List.mem_cons_of_mem _ h)
  have hown : s.vm.findClass RX13 = some m.cls := findClass_of_methodNamed B.named
  have hlocks := B.notSynchronized

  subst hsz
  have hD := hD0.self (sz := s.heap.size)
  generalize hAe : va_A [(h0, .inr (13, mX13 q0 v0)), ((q0 0), zi k1 600 f1), ((q0 19), zi k15 12 f15)] s.heap.size = A at hD hZ ⊢
  have hA : ∀ q : Nat, s.heap.size ≤ q → A q := fun q h => by rw [← hAe]; exact Or.inr h
  have hS : va_S A s.heap s.heap [] := va_S.rf
  have hl := lv_entry ([.ref h0, .int x1, .int x2]) (n := 4) (Nat.le_of_ble_eq_true rfl)
  rw [lg_entry_eq]
  generalize (lg_sl ([.ref h0, .int x1, .int x2]) ++ List.replicate (4 - (lg_sl ([.ref h0, .int x1, .int x2])).length) Slot.unset).toArray = ls at hl ⊢
  have hl : lv_has ls 4 [(0, .ref h0), (1, .int x1), (2, .int x2)] := hl
  have b_ := zk_0
  have b_ : 0 ≤ (v0 20).toInt ∧ (v0 20).toInt ≤ 12 := hv0 20
  refine lv_aload_n hx hb dX13_takeBytes_0 rfl (lv_at hl 0 rfl) ?_
  refine lv_iconst (v := 0) hx hb dX13_takeBytes_1 (by decide) ?_
  refine va_put (D := (dC, dI)) (ci := 13) (v := .int 0) (ty := .int) (C := RX13) (T := TX13) (N := 75) hx hb hG zuX13 tyX13 tyX13_ok nmX13 hown hK hP hD hS 0 rfl rfl 20 (by decide) (hG _ zv1624) (fun _ h9 => h9) rfl (by decide +kernel) rfl rfl (Nat.le_of_ble_eq_true rfl) dX13_takeBytes_2 (fun H locs hP hD hS => ?_)
  have hP : va_P (dC, dI) vwCl [(h0, .inr (13, mX13 q0 (upd v0 20 0))), ((q0 0), zi k1 600 f1), ((q0 19), zi k15 12 f15)] H := hP
  have hD : va_D A [(h0, .inr (13, mX13 q0 (upd v0 20 0))), ((q0 0), zi k1 600 f1), ((q0 19), zi k15 12 f15)] := hD
  refine lv_iload_n hx hb dX13_takeBytes_5 rfl (lv_at hl 1 rfl) ?_
  refine lv_istore_n (lv' := [(3, .int x1), (0, .ref h0), (1, .int x1), (2, .int x2)]) hx hb dX13_takeBytes_6 rfl hl (by decide) rfl (fun ls hl => ?_)
  refine zcutL (fun u7_ => (600 - (u7_ 0).toInt).toNat) (fun H locs ls u7_ w7_ a7_ b7_ => va_P (dC, dI) vwCl [(h0, .inr (13, mX13 q0 (upd v0 20 (u7_ 1)))), ((q0 0), zi k1 600 f1), ((q0 19), zi k15 12 (a7_ 0))] H ∧ va_D A [(h0, .inr (13, mX13 q0 (upd v0 20 (u7_ 1)))), ((q0 0), zi k1 600 f1), ((q0 19), zi k15 12 (a7_ 0))] ∧ va_S A s.heap H locs ∧ lv_has ls 4 [(0, .ref h0), (1, .int x1), (2, .int x2), (3, .int (u7_ 0))] ∧ (0 ≤ (u7_ 0).toInt ∧ (u7_ 0).toInt ≤ 600) ∧ (0 ≤ (u7_ 1).toInt ∧ (u7_ 1).toInt ≤ 12) ∧ ((u7_ 0).toInt = x1.toInt + (u7_ 1).toInt) ∧ ((u7_ 0).toInt ≤ x2.toInt ∨ (u7_ 0).toInt = x1.toInt) ∧ (zTkb f1 x1.toInt x2.toInt (a7_ 0) (u7_ 1).toInt)) (fun ls u7_ w7_ => F0 m 7 ls []) 0 0 ?_ (fun hJ7 => ?_)
  · skip
    intro H locs ls u7_ w7_ a7_ b7_ hc hJ7
    obtain ⟨hP, hD, hS, hl, b_, b_, b_, b_, hI7_2⟩ := hc
    refine lv_iload_n hx hb dX13_takeBytes_7 rfl (lv_at hl 3 rfl) ?_
    refine lv_iload_n hx hb dX13_takeBytes_8 rfl (lv_at hl 2 rfl) ?_
    refine lv_icmp_ge (tgt := 56) hx hb dX13_takeBytes_9 (by decide) (fun c_ => ?_) (fun c_ => ?_)
    · skip
      have b_ := zT_ge rfl rfl c_
      refine W.widen (k := 0) (n := 0) (by decide) (by decide) ?_
      have hpost : (0 ≤ (u7_ 1).toInt ∧ (u7_ 1).toInt ≤ 12) ∧ (x1.toInt ≤ x2.toInt → ((u7_ 1).toInt = 12 ∨ x1.toInt + (u7_ 1).toInt = x2.toInt) ∧ x1.toInt + (u7_ 1).toInt ≤ x2.toInt) := ⟨(by first | with_reducible assumption | exact ⟨by omega, by omega⟩), by omega⟩
      have hP9 : va_P (dC, dI) vwCl [(h0, .inr (13, mX13 q0 (upd v0 20 (u7_ 1)))), ((q0 0), zi k1 600 f1), ((q0 19), zi k15 12 (a7_ 0))] H := hP
      have hD9 : va_D A [(h0, .inr (13, mX13 q0 (upd v0 20 (u7_ 1)))), ((q0 0), zi k1 600 f1), ((q0 19), zi k15 12 (a7_ 0))] := hD
      have hB0 : zTkb f1 x1.toInt x2.toInt (a7_ 0) (u7_ 1).toInt := by assumption
      exact W.vret hx hb hr (fun t ht hW => ⟨⟨(fun i => ([(u7_ 1)] : List (Int32)).getD i 0), rfl, hpost, (fun _ => 0), (fun i => ([(a7_ 0)] : List (Nat → Int32)).getD i (fun _ => 0)), (fun _ => (fun _ => 0)), hB0, by rw [ht]; exact hP9, va_K.moved hW.alike hK, hD9⟩, hS.F ht⟩) hS.2.2 dX13_takeBytes_56
    · skip
      have b_ := zF_ge rfl rfl c_
      refine lv_aload_n hx hb dX13_takeBytes_12 rfl (lv_at hl 0 rfl) ?_
      refine va_get (D := (dC, dI)) (ci := 13) (v := .int (u7_ 1)) (C := RX13) (T := TX13) (N := 75) hx hb hG zuX13 hown hK hP 0 rfl rfl 20 (by decide) (hG _ zv1624) (fun _ h9 => h9) rfl dX13_takeBytes_13 ?_
      refine lv_bipush (v := 12) hx hb dX13_takeBytes_16 (by decide) ?_
      refine lv_icmp_ge (tgt := 56) hx hb dX13_takeBytes_18 (by decide) (fun c_ => ?_) (fun c_ => ?_)
      · skip
        have b_ := zT_ge rfl zk_12 c_
        refine W.widen (k := 0) (n := 0) (by decide) (by decide) ?_
        have hpost : (0 ≤ (u7_ 1).toInt ∧ (u7_ 1).toInt ≤ 12) ∧ (x1.toInt ≤ x2.toInt → ((u7_ 1).toInt = 12 ∨ x1.toInt + (u7_ 1).toInt = x2.toInt) ∧ x1.toInt + (u7_ 1).toInt ≤ x2.toInt) := ⟨(by first | with_reducible assumption | exact ⟨by omega, by omega⟩), by omega⟩
        have hP9 : va_P (dC, dI) vwCl [(h0, .inr (13, mX13 q0 (upd v0 20 (u7_ 1)))), ((q0 0), zi k1 600 f1), ((q0 19), zi k15 12 (a7_ 0))] H := hP
        have hD9 : va_D A [(h0, .inr (13, mX13 q0 (upd v0 20 (u7_ 1)))), ((q0 0), zi k1 600 f1), ((q0 19), zi k15 12 (a7_ 0))] := hD
        have hB0 : zTkb f1 x1.toInt x2.toInt (a7_ 0) (u7_ 1).toInt := by assumption
        exact W.vret hx hb hr (fun t ht hW => ⟨⟨(fun i => ([(u7_ 1)] : List (Int32)).getD i 0), rfl, hpost, (fun _ => 0), (fun i => ([(a7_ 0)] : List (Nat → Int32)).getD i (fun _ => 0)), (fun _ => (fun _ => 0)), hB0, by rw [ht]; exact hP9, va_K.moved hW.alike hK, hD9⟩, hS.F ht⟩) hS.2.2 dX13_takeBytes_56
      · skip
        have b_ := zF_ge rfl zk_12 c_
        refine lv_aload_n hx hb dX13_takeBytes_21 rfl (lv_at hl 0 rfl) ?_
        refine va_get (D := (dC, dI)) (ci := 13) (v := .ref (q0 19)) (C := RX13) (T := TX13) (N := 75) hx hb hG zuX13 hown hK hP 0 rfl rfl 19 (by decide) (hG _ zv1623) (fun _ h9 => h9) rfl dX13_takeBytes_22 ?_
        refine lv_aload_n hx hb dX13_takeBytes_25 rfl (lv_at hl 0 rfl) ?_
        refine va_get (D := (dC, dI)) (ci := 13) (v := .int (u7_ 1)) (C := RX13) (T := TX13) (N := 75) hx hb hG zuX13 hown hK hP 0 rfl rfl 20 (by decide) (hG _ zv1624) (fun _ h9 => h9) rfl dX13_takeBytes_26 ?_
        refine lv_aload_n hx hb dX13_takeBytes_29 rfl (lv_at hl 0 rfl) ?_
        refine va_get (D := (dC, dI)) (ci := 13) (v := .ref (q0 0)) (C := RX13) (T := TX13) (N := 75) hx hb hG zuX13 hown hK hP 0 rfl rfl 0 (by decide) (hG _ zv1604) (fun _ h9 => h9) rfl dX13_takeBytes_30 ?_
        refine lv_iload_n hx hb dX13_takeBytes_33 rfl (lv_at hl 3 rfl) ?_
        refine va_bald hx hb hK hP 1 0 rfl rfl (zin_lit ⟨by omega, by omega⟩) dX13_takeBytes_34 ?_
        refine lv_topi (fun z34 e_z34 => ?_)
        have hPc := hP.sub (ws' := []) [] rfl
        have hDc := hD.sub (ws' := []) [] (by decide) rfl
        have hKc := hK.sub (tys' := []) [] rfl
        have hFc := va_free (wc := []) hD hS hA [] rfl
        refine va_calli (va_runS (As := [.int z34]) (rest := [.int (u7_ 1), .ref (q0 19)]) ⟨hx, hb, hml, hown, hG⟩ (sX13_small_0 l dC dI adK adV H.size z34) (va_cwS 1 hG (zgS zv1874 zv1875 zv142 zv1876) rfl rfl rfl (by decide +kernel) ⟨Nat.le_of_ble_eq_true rfl, Nat.le_of_ble_eq_true rfl⟩) ⟨zPc_blind, zPc_pre hPc hKc hDc hE hS hFc hZ⟩ rfl rfl hl.1 rfl (lv_room (Nat.le_of_ble_eq_true rfl)) dX13_takeBytes_35 ⟨Nat.le_of_ble_eq_true rfl, Nat.le_of_ble_eq_true rfl⟩) hS (fun q _ h => hFc q h) hFc (fun r35_ u35_ t H1 locs ht hvm hw hB hz1 hk1 hS => ?_)
        replace hw : (r35_.toInt = zSml z34.toInt) := hw
        have hX35_0 := hw
        obtain ⟨w35_, a35_, b35_, hP1, hK1, hD1⟩ := hB
        rw [ht] at hP1
        obtain ⟨hP, hD⟩ := va_join (wr := [(h0, .inr (13, mX13 q0 (upd v0 20 (u7_ 1)))), ((q0 0), zi k1 600 f1), ((q0 19), zi k15 12 (a7_ 0))]) (w1 := []) hP hD [] [0, 1, 2] rfl rfl (by decide) (by decide) hk1 hFc hP1 hD1
        have hP : va_P (dC, dI) vwCl [(h0, .inr (13, mX13 q0 (upd v0 20 (u7_ 1)))), ((q0 0), zi k1 600 f1), ((q0 19), zi k15 12 (a7_ 0))] H1 := hP.sub [0, 1, 2] rfl
        have hD : va_D A [(h0, .inr (13, mX13 q0 (upd v0 20 (u7_ 1)))), ((q0 0), zi k1 600 f1), ((q0 19), zi k15 12 (a7_ 0))] := hD.sub [0, 1, 2] (by decide) rfl
        generalize H1 = H at hP hS ⊢
        clear hz1
        have b_ : -2147483648 ≤ r35_.toInt ∧ r35_.toInt ≤ 2147483647 := ⟨zlo _, zhi _⟩
        refine lv_i2b hx hb dX13_takeBytes_38 rfl ?_
        refine lv_topi (fun z38 e_z38 => ?_)
        have b_ := zi2bB (x := r35_) e_z38
        refine va_bast hx hb hK hP hD hS 2 1 rfl rfl (zin_lit ⟨by omega, by omega⟩) dX13_takeBytes_39 (fun H locs hP hD hS => ?_)
        obtain ⟨f_39, e_f_39⟩ : ∃ z : Nat → Int32, z = upd (a7_ 0) ((u7_ 1) : Int32).toNatClampNeg (vp_nar .byte z38) := ⟨_, rfl⟩
        have hP : va_P (dC, dI) vwCl [(h0, .inr (13, mX13 q0 (upd v0 20 (u7_ 1)))), ((q0 0), zi k1 600 f1), ((q0 19), zi k15 12 f_39)] H := by rw [e_f_39]; exact hP
        have hD : va_D A [(h0, .inr (13, mX13 q0 (upd v0 20 (u7_ 1)))), ((q0 0), zi k1 600 f1), ((q0 19), zi k15 12 f_39)] := by rw [e_f_39]; exact hD
        refine lv_aload_n hx hb dX13_takeBytes_40 rfl (lv_at hl 0 rfl) ?_
        refine lv_dup hx hb dX13_takeBytes_41 rfl ?_
        refine va_get (D := (dC, dI)) (ci := 13) (v := .int (u7_ 1)) (C := RX13) (T := TX13) (N := 75) hx hb hG zuX13 hown hK hP 0 rfl rfl 20 (by decide) (hG _ zv1624) (fun _ h9 => h9) rfl dX13_takeBytes_42 ?_
        refine lv_iconst (v := 1) hx hb dX13_takeBytes_45 (by decide) ?_
        refine lv_iadd hx hb dX13_takeBytes_46 ?_
        refine lv_topi (fun z46 e_z46 => ?_)
        have b_ := zadd rfl zk_1 e_z46 (by omega) (by omega)
        refine va_put (D := (dC, dI)) (ci := 13) (v := .int z46) (ty := .int) (C := RX13) (T := TX13) (N := 75) hx hb hG zuX13 tyX13 tyX13_ok nmX13 hown hK hP hD hS 0 rfl rfl 20 (by decide) (hG _ zv1624) (fun _ h9 => h9) rfl (by decide +kernel) rfl rfl (Nat.le_of_ble_eq_true rfl) dX13_takeBytes_47 (fun H locs hP hD hS => ?_)
        have hP : va_P (dC, dI) vwCl [(h0, .inr (13, mX13 q0 (upd v0 20 z46))), ((q0 0), zi k1 600 f1), ((q0 19), zi k15 12 f_39)] H := hP
        have hD : va_D A [(h0, .inr (13, mX13 q0 (upd v0 20 z46))), ((q0 0), zi k1 600 f1), ((q0 19), zi k15 12 f_39)] := hD
        obtain ⟨z50, e_z50⟩ : ∃ z : Int32, z = (u7_ 0) + Int32.ofInt 1 := ⟨_, rfl⟩
        have b_ := zadd (x := (u7_ 0)) (y := Int32.ofInt 1) rfl (show (Int32.ofInt 1).toInt = 1 from by decide) e_z50 (by omega) (by omega)
        refine lv_iinc (v := z50) (lv' := [(3, .int z50), (0, .ref h0), (1, .int x1), (2, .int x2)]) hx hb dX13_takeBytes_50 hl (k := 3) rfl e_z50.symm (by decide) rfl (fun ls hl => ?_)
        refine lv_goto (tgt := 7) hx hb dX13_takeBytes_53 (by decide) ?_
        have hc : va_P (dC, dI) vwCl [(h0, .inr (13, mX13 q0 (upd v0 20 z46))), ((q0 0), zi k1 600 f1), ((q0 19), zi k15 12 f_39)] H ∧ va_D A [(h0, .inr (13, mX13 q0 (upd v0 20 z46))), ((q0 0), zi k1 600 f1), ((q0 19), zi k15 12 f_39)] ∧ va_S A s.heap H locs ∧ lv_has ls 4 [(0, .ref h0), (1, .int x1), (2, .int x2), (3, .int z50)] ∧ (0 ≤ z50.toInt ∧ z50.toInt ≤ 600) ∧ (0 ≤ z46.toInt ∧ z46.toInt ≤ 12) ∧ (z50.toInt = x1.toInt + z46.toInt) ∧ (z50.toInt ≤ x2.toInt ∨ z50.toInt = x1.toInt) ∧ (zTkb f1 x1.toInt x2.toInt f_39 z46.toInt) := ⟨hP, hD, hS, lv_sub hl [1, 2, 3, 0] rfl, (by first | with_reducible assumption | exact ⟨by omega, by omega⟩), (by first | with_reducible assumption | exact ⟨by omega, by omega⟩), by omega, by omega, by first | exact zTkb_0 (by omega) | (rw [e_f_39]; exact zTkb_s (by assumption) e_z34 hX35_0 e_z38 (zclamp (by omega)) (by omega) (by omega) (by omega) (by omega) (by omega))⟩
        exact hJ7 H locs ls (fun i => ([z50, z46] : List (Int32)).getD i 0) (fun _ => 0) (fun i => ([f_39] : List (Nat → Int32)).getD i (fun _ => 0)) (fun _ => (fun _ => 0)) hc (show (600 - z50.toInt).toNat < (600 - (u7_ 0).toInt).toNat from by omega)
  · skip
    have hc : va_P (dC, dI) vwCl [(h0, .inr (13, mX13 q0 (upd v0 20 0))), ((q0 0), zi k1 600 f1), ((q0 19), zi k15 12 f15)] H ∧ va_D A [(h0, .inr (13, mX13 q0 (upd v0 20 0))), ((q0 0), zi k1 600 f1), ((q0 19), zi k15 12 f15)] ∧ va_S A s.heap H locs ∧ lv_has ls 4 [(0, .ref h0), (1, .int x1), (2, .int x2), (3, .int x1)] ∧ (0 ≤ x1.toInt ∧ x1.toInt ≤ 600) ∧ (0 ≤ (0 : Int32).toInt ∧ (0 : Int32).toInt ≤ 12) ∧ (x1.toInt = x1.toInt + (0 : Int32).toInt) ∧ (x1.toInt ≤ x2.toInt ∨ x1.toInt = x1.toInt) ∧ (zTkb f1 x1.toInt x2.toInt f15 (0 : Int32).toInt) := ⟨hP, hD, hS, lv_sub hl [1, 2, 3, 0] rfl, (by first | with_reducible assumption | exact ⟨by omega, by omega⟩), (by first | with_reducible assumption | exact ⟨by omega, by omega⟩), by omega, by omega, by first | exact zTkb_0 (by omega) | (rw [e_f_39]; exact zTkb_s (by assumption) e_z34 hX35_0 e_z38 (zclamp (by omega)) (by omega) (by omega) (by omega) (by omega) (by omega))⟩
    exact hJ7 H locs ls (fun i => ([x1, 0] : List (Int32)).getD i 0) (fun _ => 0) (fun i => ([f15] : List (Nat → Int32)).getD i (fun _ => 0)) (fun _ => (fun _ => 0)) hc
set_option maxHeartbeats 8000000 in
set_option maxRecDepth 100000 in
theorem sX13_endsBy_0 (l : Launch) (dC : Nat → ClassId) (dI : Nat → Nat → Nat) (adK adV : Nat → Nat) (h0 : Nat) (q0 : Nat → Nat) (k15 : ClassId) (sz : Nat) (v0 : Nat → Int32) (f15 : Nat → Int32) (x1 : Int32) (x2 : Int32) (x3 : Int32) (x4 : Int32) (hv0 : zR rg_Model v0) (hx4 : 4 ≤ x4.toInt ∧ x4.toInt ≤ 6) : Met l yX13_endsBy (zw yX13_endsBy cX13_endsBy 5 (some .boolean)) { frames := 0, cells := 0, slots := 0, locals := 0 } (zPc dC dI adK adV [.ref h0, .int x1, .int x2, .int x3, .int x4] sz [(h0, .inr (13, mX13 q0 v0)), ((q0 19), zi k15 12 f15)] [(k15, .byte)]) (va_Qi (fun (r : Int32) (u : Nat → Int32) => (0 ≤ r.toInt ∧ r.toInt ≤ 1) ∧ (r.toInt = 1 → x4.toInt ≤ (v0 20).toInt) ∧ (r.toInt = 1 → zMe f15 (v0 20).toInt x1.toInt x2.toInt x3.toInt x4.toInt) ∧ (r.toInt = 0 → ¬ zMe f15 (v0 20).toInt x1.toInt x2.toInt x3.toInt x4.toInt)) (fun (u : Nat → Int32) (t : State) => ∃ (ww : Nat → Int64) (aa : Nat → Nat → Int32) (bb : Nat → Nat → Int64), va_P (dC, dI) vwCl [(h0, .inr (13, mX13 q0 v0)), ((q0 19), zi k15 12 f15)] t.heap ∧ va_K (dC, dI) vwCl [(k15, .byte)] t ∧ va_D (va_A [(h0, .inr (13, mX13 q0 v0)), ((q0 19), zi k15 12 f15)] sz) [(h0, .inr (13, mX13 q0 v0)), ((q0 19), zi k15 12 f15)]) (va_A [(h0, .inr (13, mX13 q0 v0)), ((q0 19), zi k15 12 f15)] sz)) 0 0 (va_A [(h0, .inr (13, mX13 q0 v0)), ((q0 19), zi k15 12 f15)] sz) := by
  refine Met.ofW (cc := cX13_endsBy) (maxL := 5) (ret := (some .boolean)) (by decide) rfl ?_
  intro p e s m args below meth c s₁ B hml hv
  obtain ⟨rfl, hsz, hP, hK, hD0, hE, hZ⟩ := hv
  have hx := B.exec
  have hb := B.bytes
  have hr := B.returns
  have hG : ∀ w ∈ zG, w.before _ s = true := fun w h => atoms_spec (ws := (zw yX13_endsBy cX13_endsBy 5 (some .boolean))) B.pre w (List.mem_cons_of_mem _ h)
  have hown : s.vm.findClass RX13 = some m.cls := findClass_of_methodNamed B.named
  have hlocks := B.notSynchronized

  subst hsz
  have hD := hD0.self (sz := s.heap.size)
  generalize hAe : va_A [(h0, .inr (13, mX13 q0 v0)), ((q0 19), zi k15 12 f15)] s.heap.size = A at hD hZ ⊢
  have hA : ∀ q : Nat, s.heap.size ≤ q → A q := fun q h => by rw [← hAe]; exact Or.inr h
  have hS : va_S A s.heap s.heap [] := va_S.rf
  have hl := lv_entry ([.ref h0, .int x1, .int x2, .int x3, .int x4]) (n := 5) (Nat.le_of_ble_eq_true rfl)
  rw [lg_entry_eq]
  generalize (lg_sl ([.ref h0, .int x1, .int x2, .int x3, .int x4]) ++ List.replicate (5 - (lg_sl ([.ref h0, .int x1, .int x2, .int x3, .int x4])).length) Slot.unset).toArray = ls at hl ⊢
  have hl : lv_has ls 5 [(0, .ref h0), (1, .int x1), (2, .int x2), (3, .int x3), (4, .int x4)] := hl
  have b_ := zk_0
  have b_ := zk_1
  have b_ : 0 ≤ (v0 20).toInt ∧ (v0 20).toInt ≤ 12 := hv0 20
  refine lv_aload_n hx hb dX13_endsBy_0 rfl (lv_at hl 0 rfl) ?_
  refine va_get (D := (dC, dI)) (ci := 13) (v := .int (v0 20)) (C := RX13) (T := TX13) (N := 75) hx hb hG zuX13 hown hK hP 0 rfl rfl 20 (by decide) (hG _ zv1624) (fun _ h9 => h9) rfl dX13_endsBy_1 ?_
  refine lv_iload hx hb dX13_endsBy_4 (lv_at hl 4 rfl) ?_
  refine lv_icmp_ge (tgt := 11) hx hb dX13_endsBy_6 (by decide) (fun c_ => ?_) (fun c_ => ?_)
  · skip
    have b_ := zT_ge rfl rfl c_
    refine lv_aload_n hx hb dX13_endsBy_11 rfl (lv_at hl 0 rfl) ?_
    refine va_get (D := (dC, dI)) (ci := 13) (v := .ref (q0 19)) (C := RX13) (T := TX13) (N := 75) hx hb hG zuX13 hown hK hP 0 rfl rfl 19 (by decide) (hG _ zv1623) (fun _ h9 => h9) rfl dX13_endsBy_12 ?_
    refine lv_aload_n hx hb dX13_endsBy_15 rfl (lv_at hl 0 rfl) ?_
    refine va_get (D := (dC, dI)) (ci := 13) (v := .int (v0 20)) (C := RX13) (T := TX13) (N := 75) hx hb hG zuX13 hown hK hP 0 rfl rfl 20 (by decide) (hG _ zv1624) (fun _ h9 => h9) rfl dX13_endsBy_16 ?_
    refine lv_iconst (v := 1) hx hb dX13_endsBy_19 (by decide) ?_
    refine lv_isub hx hb dX13_endsBy_20 ?_
    refine lv_topi (fun z20 e_z20 => ?_)
    have b_ := zsub rfl zk_1 e_z20 (by omega) (by omega)
    refine va_bald hx hb hK hP 1 0 rfl rfl (zin_lit ⟨by omega, by omega⟩) dX13_endsBy_21 ?_
    refine lv_topi (fun z21 e_z21 => ?_)
    refine lv_iload_n hx hb dX13_endsBy_22 rfl (lv_at hl 3 rfl) ?_
    have b_ : -2147483648 ≤ z21.toInt ∧ z21.toInt ≤ 2147483647 := ⟨zlo _, zhi _⟩
    have b_ : -2147483648 ≤ x3.toInt ∧ x3.toInt ≤ 2147483647 := ⟨zlo _, zhi _⟩
    refine lv_icmp_ne (tgt := 68) hx hb dX13_endsBy_23 (by decide) (fun c_ => ?_) (fun c_ => ?_)
    · skip
      have b_ := zT_ne rfl rfl c_
      refine lv_iconst (v := 0) hx hb dX13_endsBy_68 (by decide) ?_
      refine W.widen (k := 0) (n := 0) (by decide) (by decide) ?_
      have hpost : (0 ≤ (0 : Int32).toInt ∧ (0 : Int32).toInt ≤ 1) ∧ ((0 : Int32).toInt = 1 → x4.toInt ≤ (v0 20).toInt) ∧ ((0 : Int32).toInt = 1 → zMe f15 (v0 20).toInt x1.toInt x2.toInt x3.toInt x4.toInt) ∧ ((0 : Int32).toInt = 0 → ¬ zMe f15 (v0 20).toInt x1.toInt x2.toInt x3.toInt x4.toInt) := ⟨(by first | with_reducible assumption | exact ⟨by omega, by omega⟩), by omega, by first | (intro q; exact absurd q (by decide)) | (intro _; exact ⟨by omega, zgt e_z21 (by omega) (by omega), by first | exact Or.inl (by omega) | exact Or.inr (zgt e_z40 (by omega) (by omega)), by first | exact Or.inl (by omega) | exact Or.inr (zgt e_z59 (by omega) (by omega))⟩), by first | (intro q; exact absurd q (by decide)) | exact fun _ => zMe_n0 (by omega) | exact fun _ => zMe_n1 e_z21 (by omega) (by omega) | exact fun _ => zMe_n2 e_z40 (by omega) (by omega) (by omega) | exact fun _ => zMe_n3 e_z59 (by omega) (by omega) (by omega)⟩
      have hP9 : va_P (dC, dI) vwCl [(h0, .inr (13, mX13 q0 v0)), ((q0 19), zi k15 12 f15)] s.heap := hP
      have hD9 : va_D A [(h0, .inr (13, mX13 q0 v0)), ((q0 19), zi k15 12 f15)] := hD
      exact W.zret (v := 0) hx hb hr rfl (fun t ht hW => ⟨⟨0, (fun _ => 0), rfl, hpost, (fun _ => 0), (fun _ => (fun _ => 0)), (fun _ => (fun _ => 0)), by rw [ht]; exact hP9, va_K.moved hW.alike hK, hD9⟩, hS.F ht⟩) hS.2.2 dX13_endsBy_69
    · skip
      have b_ := zF_ne rfl rfl c_
      refine lv_iload_n hx hb dX13_endsBy_26 rfl (lv_at hl 2 rfl) ?_
      have b_ : -2147483648 ≤ x2.toInt ∧ x2.toInt ≤ 2147483647 := ⟨zlo _, zhi _⟩
      refine lv_if_eq (tgt := 45) hx hb dX13_endsBy_27 (by decide) (fun c_ => ?_) (fun c_ => ?_)
      · skip
        have b_ := zT_eq rfl zk_0 c_
        refine lv_iload_n hx hb dX13_endsBy_45 rfl (lv_at hl 1 rfl) ?_
        have b_ : -2147483648 ≤ x1.toInt ∧ x1.toInt ≤ 2147483647 := ⟨zlo _, zhi _⟩
        refine lv_if_eq (tgt := 64) hx hb dX13_endsBy_46 (by decide) (fun c_ => ?_) (fun c_ => ?_)
        · skip
          have b_ := zT_eq rfl zk_0 c_
          refine lv_iconst (v := 1) hx hb dX13_endsBy_64 (by decide) ?_
          refine lv_goto (tgt := 69) hx hb dX13_endsBy_65 (by decide) ?_
          refine W.widen (k := 0) (n := 0) (by decide) (by decide) ?_
          have hpost : (0 ≤ (1 : Int32).toInt ∧ (1 : Int32).toInt ≤ 1) ∧ ((1 : Int32).toInt = 1 → x4.toInt ≤ (v0 20).toInt) ∧ ((1 : Int32).toInt = 1 → zMe f15 (v0 20).toInt x1.toInt x2.toInt x3.toInt x4.toInt) ∧ ((1 : Int32).toInt = 0 → ¬ zMe f15 (v0 20).toInt x1.toInt x2.toInt x3.toInt x4.toInt) := ⟨(by first | with_reducible assumption | exact ⟨by omega, by omega⟩), by omega, by first | (intro q; exact absurd q (by decide)) | (intro _; exact ⟨by omega, zgt e_z21 (by omega) (by omega), by first | exact Or.inl (by omega) | exact Or.inr (zgt e_z40 (by omega) (by omega)), by first | exact Or.inl (by omega) | exact Or.inr (zgt e_z59 (by omega) (by omega))⟩), by first | (intro q; exact absurd q (by decide)) | exact fun _ => zMe_n0 (by omega) | exact fun _ => zMe_n1 e_z21 (by omega) (by omega) | exact fun _ => zMe_n2 e_z40 (by omega) (by omega) (by omega) | exact fun _ => zMe_n3 e_z59 (by omega) (by omega) (by omega)⟩
          have hP9 : va_P (dC, dI) vwCl [(h0, .inr (13, mX13 q0 v0)), ((q0 19), zi k15 12 f15)] s.heap := hP
          have hD9 : va_D A [(h0, .inr (13, mX13 q0 v0)), ((q0 19), zi k15 12 f15)] := hD
          exact W.zret (v := 1) hx hb hr rfl (fun t ht hW => ⟨⟨1, (fun _ => 0), rfl, hpost, (fun _ => 0), (fun _ => (fun _ => 0)), (fun _ => (fun _ => 0)), by rw [ht]; exact hP9, va_K.moved hW.alike hK, hD9⟩, hS.F ht⟩) hS.2.2 dX13_endsBy_69
        · skip
          have b_ := zF_eq rfl zk_0 c_
          refine lv_aload_n hx hb dX13_endsBy_49 rfl (lv_at hl 0 rfl) ?_
          refine va_get (D := (dC, dI)) (ci := 13) (v := .ref (q0 19)) (C := RX13) (T := TX13) (N := 75) hx hb hG zuX13 hown hK hP 0 rfl rfl 19 (by decide) (hG _ zv1623) (fun _ h9 => h9) rfl dX13_endsBy_50 ?_
          refine lv_aload_n hx hb dX13_endsBy_53 rfl (lv_at hl 0 rfl) ?_
          refine va_get (D := (dC, dI)) (ci := 13) (v := .int (v0 20)) (C := RX13) (T := TX13) (N := 75) hx hb hG zuX13 hown hK hP 0 rfl rfl 20 (by decide) (hG _ zv1624) (fun _ h9 => h9) rfl dX13_endsBy_54 ?_
          refine lv_iconst (v := 3) hx hb dX13_endsBy_57 (by decide) ?_
          refine lv_isub hx hb dX13_endsBy_58 ?_
          refine lv_topi (fun z58 e_z58 => ?_)
          have b_ := zsub rfl zk_3 e_z58 (by omega) (by omega)
          refine va_bald hx hb hK hP 1 0 rfl rfl (zin_lit ⟨by omega, by omega⟩) dX13_endsBy_59 ?_
          refine lv_topi (fun z59 e_z59 => ?_)
          refine lv_iload_n hx hb dX13_endsBy_60 rfl (lv_at hl 1 rfl) ?_
          have b_ : -2147483648 ≤ z59.toInt ∧ z59.toInt ≤ 2147483647 := ⟨zlo _, zhi _⟩
          refine lv_icmp_ne (tgt := 68) hx hb dX13_endsBy_61 (by decide) (fun c_ => ?_) (fun c_ => ?_)
          · skip
            have b_ := zT_ne rfl rfl c_
            refine lv_iconst (v := 0) hx hb dX13_endsBy_68 (by decide) ?_
            refine W.widen (k := 0) (n := 0) (by decide) (by decide) ?_
            have hpost : (0 ≤ (0 : Int32).toInt ∧ (0 : Int32).toInt ≤ 1) ∧ ((0 : Int32).toInt = 1 → x4.toInt ≤ (v0 20).toInt) ∧ ((0 : Int32).toInt = 1 → zMe f15 (v0 20).toInt x1.toInt x2.toInt x3.toInt x4.toInt) ∧ ((0 : Int32).toInt = 0 → ¬ zMe f15 (v0 20).toInt x1.toInt x2.toInt x3.toInt x4.toInt) := ⟨(by first | with_reducible assumption | exact ⟨by omega, by omega⟩), by omega, by first | (intro q; exact absurd q (by decide)) | (intro _; exact ⟨by omega, zgt e_z21 (by omega) (by omega), by first | exact Or.inl (by omega) | exact Or.inr (zgt e_z40 (by omega) (by omega)), by first | exact Or.inl (by omega) | exact Or.inr (zgt e_z59 (by omega) (by omega))⟩), by first | (intro q; exact absurd q (by decide)) | exact fun _ => zMe_n0 (by omega) | exact fun _ => zMe_n1 e_z21 (by omega) (by omega) | exact fun _ => zMe_n2 e_z40 (by omega) (by omega) (by omega) | exact fun _ => zMe_n3 e_z59 (by omega) (by omega) (by omega)⟩
            have hP9 : va_P (dC, dI) vwCl [(h0, .inr (13, mX13 q0 v0)), ((q0 19), zi k15 12 f15)] s.heap := hP
            have hD9 : va_D A [(h0, .inr (13, mX13 q0 v0)), ((q0 19), zi k15 12 f15)] := hD
            exact W.zret (v := 0) hx hb hr rfl (fun t ht hW => ⟨⟨0, (fun _ => 0), rfl, hpost, (fun _ => 0), (fun _ => (fun _ => 0)), (fun _ => (fun _ => 0)), by rw [ht]; exact hP9, va_K.moved hW.alike hK, hD9⟩, hS.F ht⟩) hS.2.2 dX13_endsBy_69
          · skip
            have b_ := zF_ne rfl rfl c_
            refine lv_iconst (v := 1) hx hb dX13_endsBy_64 (by decide) ?_
            refine lv_goto (tgt := 69) hx hb dX13_endsBy_65 (by decide) ?_
            refine W.widen (k := 0) (n := 0) (by decide) (by decide) ?_
            have hpost : (0 ≤ (1 : Int32).toInt ∧ (1 : Int32).toInt ≤ 1) ∧ ((1 : Int32).toInt = 1 → x4.toInt ≤ (v0 20).toInt) ∧ ((1 : Int32).toInt = 1 → zMe f15 (v0 20).toInt x1.toInt x2.toInt x3.toInt x4.toInt) ∧ ((1 : Int32).toInt = 0 → ¬ zMe f15 (v0 20).toInt x1.toInt x2.toInt x3.toInt x4.toInt) := ⟨(by first | with_reducible assumption | exact ⟨by omega, by omega⟩), by omega, by first | (intro q; exact absurd q (by decide)) | (intro _; exact ⟨by omega, zgt e_z21 (by omega) (by omega), by first | exact Or.inl (by omega) | exact Or.inr (zgt e_z40 (by omega) (by omega)), by first | exact Or.inl (by omega) | exact Or.inr (zgt e_z59 (by omega) (by omega))⟩), by first | (intro q; exact absurd q (by decide)) | exact fun _ => zMe_n0 (by omega) | exact fun _ => zMe_n1 e_z21 (by omega) (by omega) | exact fun _ => zMe_n2 e_z40 (by omega) (by omega) (by omega) | exact fun _ => zMe_n3 e_z59 (by omega) (by omega) (by omega)⟩
            have hP9 : va_P (dC, dI) vwCl [(h0, .inr (13, mX13 q0 v0)), ((q0 19), zi k15 12 f15)] s.heap := hP
            have hD9 : va_D A [(h0, .inr (13, mX13 q0 v0)), ((q0 19), zi k15 12 f15)] := hD
            exact W.zret (v := 1) hx hb hr rfl (fun t ht hW => ⟨⟨1, (fun _ => 0), rfl, hpost, (fun _ => 0), (fun _ => (fun _ => 0)), (fun _ => (fun _ => 0)), by rw [ht]; exact hP9, va_K.moved hW.alike hK, hD9⟩, hS.F ht⟩) hS.2.2 dX13_endsBy_69
      · skip
        have b_ := zF_eq rfl zk_0 c_
        refine lv_aload_n hx hb dX13_endsBy_30 rfl (lv_at hl 0 rfl) ?_
        refine va_get (D := (dC, dI)) (ci := 13) (v := .ref (q0 19)) (C := RX13) (T := TX13) (N := 75) hx hb hG zuX13 hown hK hP 0 rfl rfl 19 (by decide) (hG _ zv1623) (fun _ h9 => h9) rfl dX13_endsBy_31 ?_
        refine lv_aload_n hx hb dX13_endsBy_34 rfl (lv_at hl 0 rfl) ?_
        refine va_get (D := (dC, dI)) (ci := 13) (v := .int (v0 20)) (C := RX13) (T := TX13) (N := 75) hx hb hG zuX13 hown hK hP 0 rfl rfl 20 (by decide) (hG _ zv1624) (fun _ h9 => h9) rfl dX13_endsBy_35 ?_
        refine lv_iconst (v := 2) hx hb dX13_endsBy_38 (by decide) ?_
        refine lv_isub hx hb dX13_endsBy_39 ?_
        refine lv_topi (fun z39 e_z39 => ?_)
        have b_ := zsub rfl zk_2 e_z39 (by omega) (by omega)
        refine va_bald hx hb hK hP 1 0 rfl rfl (zin_lit ⟨by omega, by omega⟩) dX13_endsBy_40 ?_
        refine lv_topi (fun z40 e_z40 => ?_)
        refine lv_iload_n hx hb dX13_endsBy_41 rfl (lv_at hl 2 rfl) ?_
        have b_ : -2147483648 ≤ z40.toInt ∧ z40.toInt ≤ 2147483647 := ⟨zlo _, zhi _⟩
        refine lv_icmp_ne (tgt := 68) hx hb dX13_endsBy_42 (by decide) (fun c_ => ?_) (fun c_ => ?_)
        · skip
          have b_ := zT_ne rfl rfl c_
          refine lv_iconst (v := 0) hx hb dX13_endsBy_68 (by decide) ?_
          refine W.widen (k := 0) (n := 0) (by decide) (by decide) ?_
          have hpost : (0 ≤ (0 : Int32).toInt ∧ (0 : Int32).toInt ≤ 1) ∧ ((0 : Int32).toInt = 1 → x4.toInt ≤ (v0 20).toInt) ∧ ((0 : Int32).toInt = 1 → zMe f15 (v0 20).toInt x1.toInt x2.toInt x3.toInt x4.toInt) ∧ ((0 : Int32).toInt = 0 → ¬ zMe f15 (v0 20).toInt x1.toInt x2.toInt x3.toInt x4.toInt) := ⟨(by first | with_reducible assumption | exact ⟨by omega, by omega⟩), by omega, by first | (intro q; exact absurd q (by decide)) | (intro _; exact ⟨by omega, zgt e_z21 (by omega) (by omega), by first | exact Or.inl (by omega) | exact Or.inr (zgt e_z40 (by omega) (by omega)), by first | exact Or.inl (by omega) | exact Or.inr (zgt e_z59 (by omega) (by omega))⟩), by first | (intro q; exact absurd q (by decide)) | exact fun _ => zMe_n0 (by omega) | exact fun _ => zMe_n1 e_z21 (by omega) (by omega) | exact fun _ => zMe_n2 e_z40 (by omega) (by omega) (by omega) | exact fun _ => zMe_n3 e_z59 (by omega) (by omega) (by omega)⟩
          have hP9 : va_P (dC, dI) vwCl [(h0, .inr (13, mX13 q0 v0)), ((q0 19), zi k15 12 f15)] s.heap := hP
          have hD9 : va_D A [(h0, .inr (13, mX13 q0 v0)), ((q0 19), zi k15 12 f15)] := hD
          exact W.zret (v := 0) hx hb hr rfl (fun t ht hW => ⟨⟨0, (fun _ => 0), rfl, hpost, (fun _ => 0), (fun _ => (fun _ => 0)), (fun _ => (fun _ => 0)), by rw [ht]; exact hP9, va_K.moved hW.alike hK, hD9⟩, hS.F ht⟩) hS.2.2 dX13_endsBy_69
        · skip
          have b_ := zF_ne rfl rfl c_
          refine lv_iload_n hx hb dX13_endsBy_45 rfl (lv_at hl 1 rfl) ?_
          have b_ : -2147483648 ≤ x1.toInt ∧ x1.toInt ≤ 2147483647 := ⟨zlo _, zhi _⟩
          refine lv_if_eq (tgt := 64) hx hb dX13_endsBy_46 (by decide) (fun c_ => ?_) (fun c_ => ?_)
          · skip
            have b_ := zT_eq rfl zk_0 c_
            refine lv_iconst (v := 1) hx hb dX13_endsBy_64 (by decide) ?_
            refine lv_goto (tgt := 69) hx hb dX13_endsBy_65 (by decide) ?_
            refine W.widen (k := 0) (n := 0) (by decide) (by decide) ?_
            have hpost : (0 ≤ (1 : Int32).toInt ∧ (1 : Int32).toInt ≤ 1) ∧ ((1 : Int32).toInt = 1 → x4.toInt ≤ (v0 20).toInt) ∧ ((1 : Int32).toInt = 1 → zMe f15 (v0 20).toInt x1.toInt x2.toInt x3.toInt x4.toInt) ∧ ((1 : Int32).toInt = 0 → ¬ zMe f15 (v0 20).toInt x1.toInt x2.toInt x3.toInt x4.toInt) := ⟨(by first | with_reducible assumption | exact ⟨by omega, by omega⟩), by omega, by first | (intro q; exact absurd q (by decide)) | (intro _; exact ⟨by omega, zgt e_z21 (by omega) (by omega), by first | exact Or.inl (by omega) | exact Or.inr (zgt e_z40 (by omega) (by omega)), by first | exact Or.inl (by omega) | exact Or.inr (zgt e_z59 (by omega) (by omega))⟩), by first | (intro q; exact absurd q (by decide)) | exact fun _ => zMe_n0 (by omega) | exact fun _ => zMe_n1 e_z21 (by omega) (by omega) | exact fun _ => zMe_n2 e_z40 (by omega) (by omega) (by omega) | exact fun _ => zMe_n3 e_z59 (by omega) (by omega) (by omega)⟩
            have hP9 : va_P (dC, dI) vwCl [(h0, .inr (13, mX13 q0 v0)), ((q0 19), zi k15 12 f15)] s.heap := hP
            have hD9 : va_D A [(h0, .inr (13, mX13 q0 v0)), ((q0 19), zi k15 12 f15)] := hD
            exact W.zret (v := 1) hx hb hr rfl (fun t ht hW => ⟨⟨1, (fun _ => 0), rfl, hpost, (fun _ => 0), (fun _ => (fun _ => 0)), (fun _ => (fun _ => 0)), by rw [ht]; exact hP9, va_K.moved hW.alike hK, hD9⟩, hS.F ht⟩) hS.2.2 dX13_endsBy_69
          · skip
            have b_ := zF_eq rfl zk_0 c_
            refine lv_aload_n hx hb dX13_endsBy_49 rfl (lv_at hl 0 rfl) ?_
            refine va_get (D := (dC, dI)) (ci := 13) (v := .ref (q0 19)) (C := RX13) (T := TX13) (N := 75) hx hb hG zuX13 hown hK hP 0 rfl rfl 19 (by decide) (hG _ zv1623) (fun _ h9 => h9) rfl dX13_endsBy_50 ?_
            refine lv_aload_n hx hb dX13_endsBy_53 rfl (lv_at hl 0 rfl) ?_
            refine va_get (D := (dC, dI)) (ci := 13) (v := .int (v0 20)) (C := RX13) (T := TX13) (N := 75) hx hb hG zuX13 hown hK hP 0 rfl rfl 20 (by decide) (hG _ zv1624) (fun _ h9 => h9) rfl dX13_endsBy_54 ?_
            refine lv_iconst (v := 3) hx hb dX13_endsBy_57 (by decide) ?_
            refine lv_isub hx hb dX13_endsBy_58 ?_
            refine lv_topi (fun z58 e_z58 => ?_)
            have b_ := zsub rfl zk_3 e_z58 (by omega) (by omega)
            refine va_bald hx hb hK hP 1 0 rfl rfl (zin_lit ⟨by omega, by omega⟩) dX13_endsBy_59 ?_
            refine lv_topi (fun z59 e_z59 => ?_)
            refine lv_iload_n hx hb dX13_endsBy_60 rfl (lv_at hl 1 rfl) ?_
            have b_ : -2147483648 ≤ z59.toInt ∧ z59.toInt ≤ 2147483647 := ⟨zlo _, zhi _⟩
            refine lv_icmp_ne (tgt := 68) hx hb dX13_endsBy_61 (by decide) (fun c_ => ?_) (fun c_ => ?_)
            · skip
              have b_ := zT_ne rfl rfl c_
              refine lv_iconst (v := 0) hx hb dX13_endsBy_68 (by decide) ?_
              refine W.widen (k := 0) (n := 0) (by decide) (by decide) ?_
              have hpost : (0 ≤ (0 : Int32).toInt ∧ (0 : Int32).toInt ≤ 1) ∧ ((0 : Int32).toInt = 1 → x4.toInt ≤ (v0 20).toInt) ∧ ((0 : Int32).toInt = 1 → zMe f15 (v0 20).toInt x1.toInt x2.toInt x3.toInt x4.toInt) ∧ ((0 : Int32).toInt = 0 → ¬ zMe f15 (v0 20).toInt x1.toInt x2.toInt x3.toInt x4.toInt) := ⟨(by first | with_reducible assumption | exact ⟨by omega, by omega⟩), by omega, by first | (intro q; exact absurd q (by decide)) | (intro _; exact ⟨by omega, zgt e_z21 (by omega) (by omega), by first | exact Or.inl (by omega) | exact Or.inr (zgt e_z40 (by omega) (by omega)), by first | exact Or.inl (by omega) | exact Or.inr (zgt e_z59 (by omega) (by omega))⟩), by first | (intro q; exact absurd q (by decide)) | exact fun _ => zMe_n0 (by omega) | exact fun _ => zMe_n1 e_z21 (by omega) (by omega) | exact fun _ => zMe_n2 e_z40 (by omega) (by omega) (by omega) | exact fun _ => zMe_n3 e_z59 (by omega) (by omega) (by omega)⟩
              have hP9 : va_P (dC, dI) vwCl [(h0, .inr (13, mX13 q0 v0)), ((q0 19), zi k15 12 f15)] s.heap := hP
              have hD9 : va_D A [(h0, .inr (13, mX13 q0 v0)), ((q0 19), zi k15 12 f15)] := hD
              exact W.zret (v := 0) hx hb hr rfl (fun t ht hW => ⟨⟨0, (fun _ => 0), rfl, hpost, (fun _ => 0), (fun _ => (fun _ => 0)), (fun _ => (fun _ => 0)), by rw [ht]; exact hP9, va_K.moved hW.alike hK, hD9⟩, hS.F ht⟩) hS.2.2 dX13_endsBy_69
            · skip
              have b_ := zF_ne rfl rfl c_
              refine lv_iconst (v := 1) hx hb dX13_endsBy_64 (by decide) ?_
              refine lv_goto (tgt := 69) hx hb dX13_endsBy_65 (by decide) ?_
              refine W.widen (k := 0) (n := 0) (by decide) (by decide) ?_
              have hpost : (0 ≤ (1 : Int32).toInt ∧ (1 : Int32).toInt ≤ 1) ∧ ((1 : Int32).toInt = 1 → x4.toInt ≤ (v0 20).toInt) ∧ ((1 : Int32).toInt = 1 → zMe f15 (v0 20).toInt x1.toInt x2.toInt x3.toInt x4.toInt) ∧ ((1 : Int32).toInt = 0 → ¬ zMe f15 (v0 20).toInt x1.toInt x2.toInt x3.toInt x4.toInt) := ⟨(by first | with_reducible assumption | exact ⟨by omega, by omega⟩), by omega, by first | (intro q; exact absurd q (by decide)) | (intro _; exact ⟨by omega, zgt e_z21 (by omega) (by omega), by first | exact Or.inl (by omega) | exact Or.inr (zgt e_z40 (by omega) (by omega)), by first | exact Or.inl (by omega) | exact Or.inr (zgt e_z59 (by omega) (by omega))⟩), by first | (intro q; exact absurd q (by decide)) | exact fun _ => zMe_n0 (by omega) | exact fun _ => zMe_n1 e_z21 (by omega) (by omega) | exact fun _ => zMe_n2 e_z40 (by omega) (by omega) (by omega) | exact fun _ => zMe_n3 e_z59 (by omega) (by omega) (by omega)⟩
              have hP9 : va_P (dC, dI) vwCl [(h0, .inr (13, mX13 q0 v0)), ((q0 19), zi k15 12 f15)] s.heap := hP
              have hD9 : va_D A [(h0, .inr (13, mX13 q0 v0)), ((q0 19), zi k15 12 f15)] := hD
              exact W.zret (v := 1) hx hb hr rfl (fun t ht hW => ⟨⟨1, (fun _ => 0), rfl, hpost, (fun _ => 0), (fun _ => (fun _ => 0)), (fun _ => (fun _ => 0)), by rw [ht]; exact hP9, va_K.moved hW.alike hK, hD9⟩, hS.F ht⟩) hS.2.2 dX13_endsBy_69
  · skip
    have b_ := zF_ge rfl rfl c_
    refine lv_iconst (v := 0) hx hb dX13_endsBy_9 (by decide) ?_
    refine W.widen (k := 0) (n := 0) (by decide) (by decide) ?_
    have hpost : (0 ≤ (0 : Int32).toInt ∧ (0 : Int32).toInt ≤ 1) ∧ ((0 : Int32).toInt = 1 → x4.toInt ≤ (v0 20).toInt) ∧ ((0 : Int32).toInt = 1 → zMe f15 (v0 20).toInt x1.toInt x2.toInt x3.toInt x4.toInt) ∧ ((0 : Int32).toInt = 0 → ¬ zMe f15 (v0 20).toInt x1.toInt x2.toInt x3.toInt x4.toInt) := ⟨(by first | with_reducible assumption | exact ⟨by omega, by omega⟩), by omega, by first | (intro q; exact absurd q (by decide)) | (intro _; exact ⟨by omega, zgt e_z21 (by omega) (by omega), by first | exact Or.inl (by omega) | exact Or.inr (zgt e_z40 (by omega) (by omega)), by first | exact Or.inl (by omega) | exact Or.inr (zgt e_z59 (by omega) (by omega))⟩), by first | (intro q; exact absurd q (by decide)) | exact fun _ => zMe_n0 (by omega) | exact fun _ => zMe_n1 e_z21 (by omega) (by omega) | exact fun _ => zMe_n2 e_z40 (by omega) (by omega) (by omega) | exact fun _ => zMe_n3 e_z59 (by omega) (by omega) (by omega)⟩
    have hP9 : va_P (dC, dI) vwCl [(h0, .inr (13, mX13 q0 v0)), ((q0 19), zi k15 12 f15)] s.heap := hP
    have hD9 : va_D A [(h0, .inr (13, mX13 q0 v0)), ((q0 19), zi k15 12 f15)] := hD
    exact W.zret (v := 0) hx hb hr rfl (fun t ht hW => ⟨⟨0, (fun _ => 0), rfl, hpost, (fun _ => 0), (fun _ => (fun _ => 0)), (fun _ => (fun _ => 0)), by rw [ht]; exact hP9, va_K.moved hW.alike hK, hD9⟩, hS.F ht⟩) hS.2.2 dX13_endsBy_10
set_option maxHeartbeats 8000000 in
set_option maxRecDepth 100000 in
theorem sX13_takeWord_0 (l : Launch) (dC : Nat → ClassId) (dI : Nat → Nat → Nat) (adK adV : Nat → Nat) (h0 : Nat) (q0 : Nat → Nat) (k1 : ClassId) (k15 : ClassId) (sz : Nat) (v0 : Nat → Int32) (f1 : Nat → Int32) (f15 : Nat → Int32) (x1 : Int32) (x2 : Int32) (hv0 : zR rg_Model v0) (hx1 : 0 ≤ x1.toInt ∧ x1.toInt ≤ 600) (hx2 : 0 ≤ x2.toInt ∧ x2.toInt ≤ 600) : Met l yX13_takeWord (zw yX13_takeWord cX13_takeWord 4 none) { frames := 3, cells := 0, slots := 0, locals := 63 } (zPc dC dI adK adV [.ref h0, .int x1, .int x2] sz [(h0, .inr (13, mX13 q0 v0)), ((q0 0), zi k1 600 f1), ((q0 19), zi k15 12 f15)] [(k1, .byte), (k15, .byte)]) (va_Qv (fun (u : Nat → Int32) => (0 ≤ (u 0).toInt ∧ (u 0).toInt ≤ 12)) (fun (u : Nat → Int32) (t : State) => ∃ (ww : Nat → Int64) (aa : Nat → Nat → Int32) (bb : Nat → Nat → Int64), (zMw f1 x1.toInt x2.toInt (aa 0) (u 0).toInt) ∧ va_P (dC, dI) vwCl [(h0, .inr (13, mX13 q0 (upd v0 20 (u 0)))), ((q0 0), zi k1 600 f1), ((q0 19), zi k15 12 (aa 0))] t.heap ∧ va_K (dC, dI) vwCl [(k1, .byte), (k15, .byte)] t ∧ va_D (va_A [(h0, .inr (13, mX13 q0 v0)), ((q0 0), zi k1 600 f1), ((q0 19), zi k15 12 f15)] sz) [(h0, .inr (13, mX13 q0 (upd v0 20 (u 0)))), ((q0 0), zi k1 600 f1), ((q0 19), zi k15 12 (aa 0))]) (va_A [(h0, .inr (13, mX13 q0 v0)), ((q0 0), zi k1 600 f1), ((q0 19), zi k15 12 f15)] sz)) 0 0 (va_A [(h0, .inr (13, mX13 q0 v0)), ((q0 0), zi k1 600 f1), ((q0 19), zi k15 12 f15)] sz) := by
  refine Met.ofW (cc := cX13_takeWord) (maxL := 4) (ret := none) (by decide) rfl ?_
  intro p e s m args below meth c s₁ B hml hv
  obtain ⟨rfl, hsz, hP, hK, hD0, hE, hZ⟩ := hv
  have hx := B.exec
  have hb := B.bytes
  have hr := B.returns
  have hG : ∀ w ∈ zG, w.before _ s = true := fun w h => atoms_spec (ws := (zw yX13_takeWord cX13_takeWord 4 none)) B.pre w (List.mem_cons_of_mem _ h)
  have hown : s.vm.findClass RX13 = some m.cls := findClass_of_methodNamed B.named
  have hlocks := B.notSynchronized

  subst hsz
  have hD := hD0.self (sz := s.heap.size)
  generalize hAe : va_A [(h0, .inr (13, mX13 q0 v0)), ((q0 0), zi k1 600 f1), ((q0 19), zi k15 12 f15)] s.heap.size = A at hD hZ ⊢
  have hA : ∀ q : Nat, s.heap.size ≤ q → A q := fun q h => by rw [← hAe]; exact Or.inr h
  have hS : va_S A s.heap s.heap [] := va_S.rf
  have hl := lv_entry ([.ref h0, .int x1, .int x2]) (n := 4) (Nat.le_of_ble_eq_true rfl)
  rw [lg_entry_eq]
  generalize (lg_sl ([.ref h0, .int x1, .int x2]) ++ List.replicate (4 - (lg_sl ([.ref h0, .int x1, .int x2])).length) Slot.unset).toArray = ls at hl ⊢
  have hl : lv_has ls 4 [(0, .ref h0), (1, .int x1), (2, .int x2)] := hl
  have b_ := zk_0
  have b_ := zk_4
  have b_ := zk_5
  have b_ := zk_6
  have b_ := zk_100
  have b_ := zk_101
  have b_ := zk_103
  have b_ := zk_105
  have b_ := zk_110
  have b_ := zk_115
  have b_ := zk_117
  refine lv_aload_n hx hb dX13_takeWord_0 rfl (lv_at hl 0 rfl) ?_
  refine lv_iload_n hx hb dX13_takeWord_1 rfl (lv_at hl 1 rfl) ?_
  refine lv_iload_n hx hb dX13_takeWord_2 rfl (lv_at hl 2 rfl) ?_
  have hPc := hP.sub (ws' := [(h0, .inr (13, mX13 q0 v0)), ((q0 0), zi k1 600 f1), ((q0 19), zi k15 12 f15)]) [0, 1, 2] rfl
  have hDc := hD.sub (ws' := [(h0, .inr (13, mX13 q0 v0)), ((q0 0), zi k1 600 f1), ((q0 19), zi k15 12 f15)]) [0, 1, 2] (by decide) rfl
  have hKc := hK.sub (tys' := [(k1, .byte), (k15, .byte)]) [0, 1] rfl
  have hFc := va_free (wc := [(h0, .inr (13, mX13 q0 v0)), ((q0 0), zi k1 600 f1), ((q0 19), zi k15 12 f15)]) hD hS hA [0, 1, 2] rfl
  refine va_callv (va_runV (As := [.int x1, .int x2]) (rest := []) ⟨hx, hb, hml, hown, hG⟩ (sX13_takeBytes_0 l dC dI adK adV h0 q0 k1 k15 s.heap.size v0 f1 f15 x1 x2 hv0 (show (0 : Int) ≤ (x1 : Int32).toInt ∧ (x1 : Int32).toInt ≤ (600 : Int) from (by first | with_reducible assumption | exact ⟨by omega, by omega⟩)) (show (0 : Int) ≤ (x2 : Int32).toInt ∧ (x2 : Int32).toInt ≤ (600 : Int) from (by first | with_reducible assumption | exact ⟨by omega, by omega⟩))) (cwV 2 hG (zgV zv1870 zv1872 zv53 zv142 zv1873) rfl rfl rfl (by decide +kernel) ⟨Nat.le_of_ble_eq_true rfl, Nat.le_of_ble_eq_true rfl⟩) ⟨zPc_blind, va_recv hKc hPc (ci := 13) (q0 := 0) rfl rfl, zPc_pre hPc hKc hDc hE hS hFc hZ⟩ rfl rfl hl.1 rfl (lv_room (Nat.le_of_ble_eq_true rfl)) dX13_takeWord_3 ⟨Nat.le_of_ble_eq_true rfl, Nat.le_of_ble_eq_true rfl⟩) hS (fun q _ h => hFc q h) hFc (fun u3_ t H1 locs ht hvm hw hB hz1 hk1 hS => ?_)
  replace hw : (0 ≤ (u3_ 0).toInt ∧ (u3_ 0).toInt ≤ 12) ∧ (x1.toInt ≤ x2.toInt → ((u3_ 0).toInt = 12 ∨ x1.toInt + (u3_ 0).toInt = x2.toInt) ∧ x1.toInt + (u3_ 0).toInt ≤ x2.toInt) := hw
  obtain ⟨b_, hX3_0⟩ := hw
  obtain ⟨w3_, a3_, b3_, hB3_0, hP1, hK1, hD1⟩ := hB
  have hB3_0 : zTkb f1 x1.toInt x2.toInt (a3_ 0) (u3_ 0).toInt := hB3_0
  rw [ht] at hP1
  obtain ⟨hP, hD⟩ := va_join (wr := []) (w1 := [(h0, .inr (13, mX13 q0 (upd v0 20 (u3_ 0)))), ((q0 0), zi k1 600 f1), ((q0 19), zi k15 12 (a3_ 0))]) hP hD [0, 1, 2] [] rfl rfl (by decide) (by decide) hk1 hFc hP1 hD1
  have hP : va_P (dC, dI) vwCl [(h0, .inr (13, mX13 q0 (upd v0 20 (u3_ 0)))), ((q0 0), zi k1 600 f1), ((q0 19), zi k15 12 (a3_ 0))] H1 := hP.sub [0, 1, 2] rfl
  have hD : va_D A [(h0, .inr (13, mX13 q0 (upd v0 20 (u3_ 0)))), ((q0 0), zi k1 600 f1), ((q0 19), zi k15 12 (a3_ 0))] := hD.sub [0, 1, 2] (by decide) rfl
  generalize H1 = H at hP hS ⊢
  clear hz1
  refine lv_iconst (v := 0) hx hb dX13_takeWord_6 (by decide) ?_
  refine lv_istore_n (lv' := [(3, .int 0), (0, .ref h0), (1, .int x1), (2, .int x2)]) hx hb dX13_takeWord_7 rfl hl (by decide) rfl (fun ls hl => ?_)
  refine zcutL (fun u8_ => (12 - (u8_ 0).toInt).toNat) (fun H locs ls u8_ w8_ a8_ b8_ => va_P (dC, dI) vwCl [(h0, .inr (13, mX13 q0 (upd v0 20 (u3_ 0)))), ((q0 0), zi k1 600 f1), ((q0 19), zi k15 12 (a3_ 0))] H ∧ va_D A [(h0, .inr (13, mX13 q0 (upd v0 20 (u3_ 0)))), ((q0 0), zi k1 600 f1), ((q0 19), zi k15 12 (a3_ 0))] ∧ va_S A s.heap H locs ∧ lv_has ls 4 [(0, .ref h0), (1, .int x1), (2, .int x2), (3, .int (u8_ 0))] ∧ (0 ≤ (u8_ 0).toInt ∧ (u8_ 0).toInt ≤ 12) ∧ (x1.toInt ≤ x2.toInt → zAt f1 x1.toInt x2.toInt → zhd (fun k => ((a3_ 0) k).toInt) ((u8_ 0).toInt).toNat = false) ∧ ((u8_ 0).toInt ≤ (u3_ 0).toInt)) (fun ls u8_ w8_ => F0 m 8 ls []) 0 0 ?_ (fun hJ8 => ?_)
  · skip
    intro H locs ls u8_ w8_ a8_ b8_ hc hJ8
    obtain ⟨hP, hD, hS, hl, b_, hI8_0, b_⟩ := hc
    refine lv_iload_n hx hb dX13_takeWord_8 rfl (lv_at hl 3 rfl) ?_
    refine lv_aload_n hx hb dX13_takeWord_9 rfl (lv_at hl 0 rfl) ?_
    refine va_get (D := (dC, dI)) (ci := 13) (v := .int (u3_ 0)) (C := RX13) (T := TX13) (N := 75) hx hb hG zuX13 hown hK hP 0 rfl rfl 20 (by decide) (hG _ zv1624) (fun _ h9 => h9) rfl dX13_takeWord_10 ?_
    refine lv_icmp_ge (tgt := 35) hx hb dX13_takeWord_13 (by decide) (fun c_ => ?_) (fun c_ => ?_)
    · skip
      have b_ := zT_ge rfl rfl c_
      have hhd : x1.toInt ≤ x2.toInt → zAt f1 x1.toInt x2.toInt → zhd (fun k => ((a3_ 0) k).toInt) ((u3_ 0).toInt).toNat = false := fun p_ a_ => zhd_e (hI8_0 p_ a_) (by omega)
      refine lv_aload_n hx hb dX13_takeWord_35 rfl (lv_at hl 0 rfl) ?_
      refine lv_bipush (v := 105) hx hb dX13_takeWord_36 (by decide) ?_
      refine lv_bipush (v := 101) hx hb dX13_takeWord_38 (by decide) ?_
      refine lv_bipush (v := 115) hx hb dX13_takeWord_40 (by decide) ?_
      refine lv_iconst (v := 5) hx hb dX13_takeWord_42 (by decide) ?_
      have hPc := hP.sub (ws' := [(h0, .inr (13, mX13 q0 (upd v0 20 (u3_ 0)))), ((q0 19), zi k15 12 (a3_ 0))]) [0, 2] rfl
      have hDc := hD.sub (ws' := [(h0, .inr (13, mX13 q0 (upd v0 20 (u3_ 0)))), ((q0 19), zi k15 12 (a3_ 0))]) [0, 2] (by decide) rfl
      have hKc := hK.sub (tys' := [(k15, .byte)]) [1] rfl
      have hFc := va_free (wc := [(h0, .inr (13, mX13 q0 (upd v0 20 (u3_ 0)))), ((q0 19), zi k15 12 (a3_ 0))]) hD hS hA [0, 2] rfl
      refine va_calli (va_runV (As := [.int 105, .int 101, .int 115, .int 5]) (rest := []) ⟨hx, hb, hml, hown, hG⟩ (sX13_endsBy_0 l dC dI adK adV h0 q0 k15 H.size (upd v0 20 (u3_ 0)) (a3_ 0) 105 101 115 5 (zR_up2 hv0 20 (show (0 : Int) ≤ ((u3_ 0) : Int32).toInt ∧ ((u3_ 0) : Int32).toInt ≤ (12 : Int) from (by first | with_reducible assumption | exact ⟨by omega, by omega⟩))) ⟨show (4 : Int) ≤ (5 : Int32).toInt from by decide, show (5 : Int32).toInt ≤ (6 : Int) from by decide⟩) (cwV 4 hG (zgV zv1877 zv1879 zv54 zv142 zv1880) rfl rfl rfl (by decide +kernel) ⟨Nat.le_of_ble_eq_true rfl, Nat.le_of_ble_eq_true rfl⟩) ⟨zPc_blind, va_recv hKc hPc (ci := 13) (q0 := 0) rfl rfl, zPc_pre hPc hKc hDc hE hS hFc hZ⟩ rfl rfl hl.1 rfl (lv_room (Nat.le_of_ble_eq_true rfl)) dX13_takeWord_43 ⟨Nat.le_of_ble_eq_true rfl, Nat.le_of_ble_eq_true rfl⟩) hS (fun q _ h => hFc q h) hFc (fun r43_ u43_ t H1 locs ht hvm hw hB hz1 hk1 hS => ?_)
      replace hw : (0 ≤ r43_.toInt ∧ r43_.toInt ≤ 1) ∧ (r43_.toInt = 1 → (5 : Int32).toInt ≤ (u3_ 0).toInt) ∧ (r43_.toInt = 1 → zMe (a3_ 0) (u3_ 0).toInt (105 : Int32).toInt (101 : Int32).toInt (115 : Int32).toInt (5 : Int32).toInt) ∧ (r43_.toInt = 0 → ¬ zMe (a3_ 0) (u3_ 0).toInt (105 : Int32).toInt (101 : Int32).toInt (115 : Int32).toInt (5 : Int32).toInt) := hw
      obtain ⟨b_, hX43_0, hX43_1, hX43_2⟩ := hw
      obtain ⟨w43_, a43_, b43_, hP1, hK1, hD1⟩ := hB
      rw [ht] at hP1
      obtain ⟨hP, hD⟩ := va_join (wr := [((q0 0), zi k1 600 f1)]) (w1 := [(h0, .inr (13, mX13 q0 (upd v0 20 (u3_ 0)))), ((q0 19), zi k15 12 (a3_ 0))]) hP hD [0, 2] [1] rfl rfl (by decide) (by decide) hk1 hFc hP1 hD1
      have hP : va_P (dC, dI) vwCl [(h0, .inr (13, mX13 q0 (upd v0 20 (u3_ 0)))), ((q0 0), zi k1 600 f1), ((q0 19), zi k15 12 (a3_ 0))] H1 := hP.sub [1, 0, 2] rfl
      have hD : va_D A [(h0, .inr (13, mX13 q0 (upd v0 20 (u3_ 0)))), ((q0 0), zi k1 600 f1), ((q0 19), zi k15 12 (a3_ 0))] := hD.sub [1, 0, 2] (by decide) rfl
      generalize H1 = H at hP hS ⊢
      clear hz1
      refine lv_if_eq (tgt := 75) hx hb dX13_takeWord_46 (by decide) (fun c_ => ?_) (fun c_ => ?_)
      · skip
        have b_ := zT_eq rfl zk_0 c_
        have hie : zies (fun k => ((a3_ 0) k).toInt) ((u3_ 0).toInt).toNat = false := by first | exact zmies_f (hX43_2 (by omega))
        refine lv_aload_n hx hb dX13_takeWord_75 rfl (lv_at hl 0 rfl) ?_
        refine lv_bipush (v := 105) hx hb dX13_takeWord_76 (by decide) ?_
        refine lv_bipush (v := 110) hx hb dX13_takeWord_78 (by decide) ?_
        refine lv_bipush (v := 103) hx hb dX13_takeWord_80 (by decide) ?_
        refine lv_bipush (v := 6) hx hb dX13_takeWord_82 (by decide) ?_
        have hPc := hP.sub (ws' := [(h0, .inr (13, mX13 q0 (upd v0 20 (u3_ 0)))), ((q0 19), zi k15 12 (a3_ 0))]) [0, 2] rfl
        have hDc := hD.sub (ws' := [(h0, .inr (13, mX13 q0 (upd v0 20 (u3_ 0)))), ((q0 19), zi k15 12 (a3_ 0))]) [0, 2] (by decide) rfl
        have hKc := hK.sub (tys' := [(k15, .byte)]) [1] rfl
        have hFc := va_free (wc := [(h0, .inr (13, mX13 q0 (upd v0 20 (u3_ 0)))), ((q0 19), zi k15 12 (a3_ 0))]) hD hS hA [0, 2] rfl
        refine va_calli (va_runV (As := [.int 105, .int 110, .int 103, .int 6]) (rest := []) ⟨hx, hb, hml, hown, hG⟩ (sX13_endsBy_0 l dC dI adK adV h0 q0 k15 H.size (upd v0 20 (u3_ 0)) (a3_ 0) 105 110 103 6 (zR_up2 hv0 20 (show (0 : Int) ≤ ((u3_ 0) : Int32).toInt ∧ ((u3_ 0) : Int32).toInt ≤ (12 : Int) from (by first | with_reducible assumption | exact ⟨by omega, by omega⟩))) ⟨show (4 : Int) ≤ (6 : Int32).toInt from by decide, show (6 : Int32).toInt ≤ (6 : Int) from by decide⟩) (cwV 4 hG (zgV zv1877 zv1879 zv54 zv142 zv1880) rfl rfl rfl (by decide +kernel) ⟨Nat.le_of_ble_eq_true rfl, Nat.le_of_ble_eq_true rfl⟩) ⟨zPc_blind, va_recv hKc hPc (ci := 13) (q0 := 0) rfl rfl, zPc_pre hPc hKc hDc hE hS hFc hZ⟩ rfl rfl hl.1 rfl (lv_room (Nat.le_of_ble_eq_true rfl)) dX13_takeWord_84 ⟨Nat.le_of_ble_eq_true rfl, Nat.le_of_ble_eq_true rfl⟩) hS (fun q _ h => hFc q h) hFc (fun r84_ u84_ t H1 locs ht hvm hw hB hz1 hk1 hS => ?_)
        replace hw : (0 ≤ r84_.toInt ∧ r84_.toInt ≤ 1) ∧ (r84_.toInt = 1 → (6 : Int32).toInt ≤ (u3_ 0).toInt) ∧ (r84_.toInt = 1 → zMe (a3_ 0) (u3_ 0).toInt (105 : Int32).toInt (110 : Int32).toInt (103 : Int32).toInt (6 : Int32).toInt) ∧ (r84_.toInt = 0 → ¬ zMe (a3_ 0) (u3_ 0).toInt (105 : Int32).toInt (110 : Int32).toInt (103 : Int32).toInt (6 : Int32).toInt) := hw
        obtain ⟨b_, hX84_0, hX84_1, hX84_2⟩ := hw
        obtain ⟨w84_, a84_, b84_, hP1, hK1, hD1⟩ := hB
        rw [ht] at hP1
        obtain ⟨hP, hD⟩ := va_join (wr := [((q0 0), zi k1 600 f1)]) (w1 := [(h0, .inr (13, mX13 q0 (upd v0 20 (u3_ 0)))), ((q0 19), zi k15 12 (a3_ 0))]) hP hD [0, 2] [1] rfl rfl (by decide) (by decide) hk1 hFc hP1 hD1
        have hP : va_P (dC, dI) vwCl [(h0, .inr (13, mX13 q0 (upd v0 20 (u3_ 0)))), ((q0 0), zi k1 600 f1), ((q0 19), zi k15 12 (a3_ 0))] H1 := hP.sub [1, 0, 2] rfl
        have hD : va_D A [(h0, .inr (13, mX13 q0 (upd v0 20 (u3_ 0)))), ((q0 0), zi k1 600 f1), ((q0 19), zi k15 12 (a3_ 0))] := hD.sub [1, 0, 2] (by decide) rfl
        generalize H1 = H at hP hS ⊢
        clear hz1
        refine lv_if_eq (tgt := 103) hx hb dX13_takeWord_87 (by decide) (fun c_ => ?_) (fun c_ => ?_)
        · skip
          have b_ := zT_eq rfl zk_0 c_
          have hin : zing (fun k => ((a3_ 0) k).toInt) ((u3_ 0).toInt).toNat = false := by first | exact zming_f (hX84_2 (by omega))
          refine lv_aload_n hx hb dX13_takeWord_103 rfl (lv_at hl 0 rfl) ?_
          refine lv_iconst (v := 0) hx hb dX13_takeWord_104 (by decide) ?_
          refine lv_bipush (v := 101) hx hb dX13_takeWord_105 (by decide) ?_
          refine lv_bipush (v := 100) hx hb dX13_takeWord_107 (by decide) ?_
          refine lv_iconst (v := 5) hx hb dX13_takeWord_109 (by decide) ?_
          have hPc := hP.sub (ws' := [(h0, .inr (13, mX13 q0 (upd v0 20 (u3_ 0)))), ((q0 19), zi k15 12 (a3_ 0))]) [0, 2] rfl
          have hDc := hD.sub (ws' := [(h0, .inr (13, mX13 q0 (upd v0 20 (u3_ 0)))), ((q0 19), zi k15 12 (a3_ 0))]) [0, 2] (by decide) rfl
          have hKc := hK.sub (tys' := [(k15, .byte)]) [1] rfl
          have hFc := va_free (wc := [(h0, .inr (13, mX13 q0 (upd v0 20 (u3_ 0)))), ((q0 19), zi k15 12 (a3_ 0))]) hD hS hA [0, 2] rfl
          refine va_calli (va_runV (As := [.int 0, .int 101, .int 100, .int 5]) (rest := []) ⟨hx, hb, hml, hown, hG⟩ (sX13_endsBy_0 l dC dI adK adV h0 q0 k15 H.size (upd v0 20 (u3_ 0)) (a3_ 0) 0 101 100 5 (zR_up2 hv0 20 (show (0 : Int) ≤ ((u3_ 0) : Int32).toInt ∧ ((u3_ 0) : Int32).toInt ≤ (12 : Int) from (by first | with_reducible assumption | exact ⟨by omega, by omega⟩))) ⟨show (4 : Int) ≤ (5 : Int32).toInt from by decide, show (5 : Int32).toInt ≤ (6 : Int) from by decide⟩) (cwV 4 hG (zgV zv1877 zv1879 zv54 zv142 zv1880) rfl rfl rfl (by decide +kernel) ⟨Nat.le_of_ble_eq_true rfl, Nat.le_of_ble_eq_true rfl⟩) ⟨zPc_blind, va_recv hKc hPc (ci := 13) (q0 := 0) rfl rfl, zPc_pre hPc hKc hDc hE hS hFc hZ⟩ rfl rfl hl.1 rfl (lv_room (Nat.le_of_ble_eq_true rfl)) dX13_takeWord_110 ⟨Nat.le_of_ble_eq_true rfl, Nat.le_of_ble_eq_true rfl⟩) hS (fun q _ h => hFc q h) hFc (fun r110_ u110_ t H1 locs ht hvm hw hB hz1 hk1 hS => ?_)
          replace hw : (0 ≤ r110_.toInt ∧ r110_.toInt ≤ 1) ∧ (r110_.toInt = 1 → (5 : Int32).toInt ≤ (u3_ 0).toInt) ∧ (r110_.toInt = 1 → zMe (a3_ 0) (u3_ 0).toInt (0 : Int32).toInt (101 : Int32).toInt (100 : Int32).toInt (5 : Int32).toInt) ∧ (r110_.toInt = 0 → ¬ zMe (a3_ 0) (u3_ 0).toInt (0 : Int32).toInt (101 : Int32).toInt (100 : Int32).toInt (5 : Int32).toInt) := hw
          obtain ⟨b_, hX110_0, hX110_1, hX110_2⟩ := hw
          obtain ⟨w110_, a110_, b110_, hP1, hK1, hD1⟩ := hB
          rw [ht] at hP1
          obtain ⟨hP, hD⟩ := va_join (wr := [((q0 0), zi k1 600 f1)]) (w1 := [(h0, .inr (13, mX13 q0 (upd v0 20 (u3_ 0)))), ((q0 19), zi k15 12 (a3_ 0))]) hP hD [0, 2] [1] rfl rfl (by decide) (by decide) hk1 hFc hP1 hD1
          have hP : va_P (dC, dI) vwCl [(h0, .inr (13, mX13 q0 (upd v0 20 (u3_ 0)))), ((q0 0), zi k1 600 f1), ((q0 19), zi k15 12 (a3_ 0))] H1 := hP.sub [1, 0, 2] rfl
          have hD : va_D A [(h0, .inr (13, mX13 q0 (upd v0 20 (u3_ 0)))), ((q0 0), zi k1 600 f1), ((q0 19), zi k15 12 (a3_ 0))] := hD.sub [1, 0, 2] (by decide) rfl
          generalize H1 = H at hP hS ⊢
          clear hz1
          refine lv_if_eq (tgt := 129) hx hb dX13_takeWord_113 (by decide) (fun c_ => ?_) (fun c_ => ?_)
          · skip
            have b_ := zT_eq rfl zk_0 c_
            have hed : zed (fun k => ((a3_ 0) k).toInt) ((u3_ 0).toInt).toNat = false := by first | exact zmed_f (hX110_2 (by omega))
            refine lv_aload_n hx hb dX13_takeWord_129 rfl (lv_at hl 0 rfl) ?_
            refine lv_iconst (v := 0) hx hb dX13_takeWord_130 (by decide) ?_
            refine lv_iconst (v := 0) hx hb dX13_takeWord_131 (by decide) ?_
            refine lv_bipush (v := 115) hx hb dX13_takeWord_132 (by decide) ?_
            refine lv_iconst (v := 4) hx hb dX13_takeWord_134 (by decide) ?_
            have hPc := hP.sub (ws' := [(h0, .inr (13, mX13 q0 (upd v0 20 (u3_ 0)))), ((q0 19), zi k15 12 (a3_ 0))]) [0, 2] rfl
            have hDc := hD.sub (ws' := [(h0, .inr (13, mX13 q0 (upd v0 20 (u3_ 0)))), ((q0 19), zi k15 12 (a3_ 0))]) [0, 2] (by decide) rfl
            have hKc := hK.sub (tys' := [(k15, .byte)]) [1] rfl
            have hFc := va_free (wc := [(h0, .inr (13, mX13 q0 (upd v0 20 (u3_ 0)))), ((q0 19), zi k15 12 (a3_ 0))]) hD hS hA [0, 2] rfl
            refine va_calli (va_runV (As := [.int 0, .int 0, .int 115, .int 4]) (rest := []) ⟨hx, hb, hml, hown, hG⟩ (sX13_endsBy_0 l dC dI adK adV h0 q0 k15 H.size (upd v0 20 (u3_ 0)) (a3_ 0) 0 0 115 4 (zR_up2 hv0 20 (show (0 : Int) ≤ ((u3_ 0) : Int32).toInt ∧ ((u3_ 0) : Int32).toInt ≤ (12 : Int) from (by first | with_reducible assumption | exact ⟨by omega, by omega⟩))) ⟨show (4 : Int) ≤ (4 : Int32).toInt from by decide, show (4 : Int32).toInt ≤ (6 : Int) from by decide⟩) (cwV 4 hG (zgV zv1877 zv1879 zv54 zv142 zv1880) rfl rfl rfl (by decide +kernel) ⟨Nat.le_of_ble_eq_true rfl, Nat.le_of_ble_eq_true rfl⟩) ⟨zPc_blind, va_recv hKc hPc (ci := 13) (q0 := 0) rfl rfl, zPc_pre hPc hKc hDc hE hS hFc hZ⟩ rfl rfl hl.1 rfl (lv_room (Nat.le_of_ble_eq_true rfl)) dX13_takeWord_135 ⟨Nat.le_of_ble_eq_true rfl, Nat.le_of_ble_eq_true rfl⟩) hS (fun q _ h => hFc q h) hFc (fun r135_ u135_ t H1 locs ht hvm hw hB hz1 hk1 hS => ?_)
            replace hw : (0 ≤ r135_.toInt ∧ r135_.toInt ≤ 1) ∧ (r135_.toInt = 1 → (4 : Int32).toInt ≤ (u3_ 0).toInt) ∧ (r135_.toInt = 1 → zMe (a3_ 0) (u3_ 0).toInt (0 : Int32).toInt (0 : Int32).toInt (115 : Int32).toInt (4 : Int32).toInt) ∧ (r135_.toInt = 0 → ¬ zMe (a3_ 0) (u3_ 0).toInt (0 : Int32).toInt (0 : Int32).toInt (115 : Int32).toInt (4 : Int32).toInt) := hw
            obtain ⟨b_, hX135_0, hX135_1, hX135_2⟩ := hw
            obtain ⟨w135_, a135_, b135_, hP1, hK1, hD1⟩ := hB
            rw [ht] at hP1
            obtain ⟨hP, hD⟩ := va_join (wr := [((q0 0), zi k1 600 f1)]) (w1 := [(h0, .inr (13, mX13 q0 (upd v0 20 (u3_ 0)))), ((q0 19), zi k15 12 (a3_ 0))]) hP hD [0, 2] [1] rfl rfl (by decide) (by decide) hk1 hFc hP1 hD1
            have hP : va_P (dC, dI) vwCl [(h0, .inr (13, mX13 q0 (upd v0 20 (u3_ 0)))), ((q0 0), zi k1 600 f1), ((q0 19), zi k15 12 (a3_ 0))] H1 := hP.sub [1, 0, 2] rfl
            have hD : va_D A [(h0, .inr (13, mX13 q0 (upd v0 20 (u3_ 0)))), ((q0 0), zi k1 600 f1), ((q0 19), zi k15 12 (a3_ 0))] := hD.sub [1, 0, 2] (by decide) rfl
            generalize H1 = H at hP hS ⊢
            clear hz1
            refine lv_if_eq (tgt := 190) hx hb dX13_takeWord_138 (by decide) (fun c_ => ?_) (fun c_ => ?_)
            · skip
              have b_ := zT_eq rfl zk_0 c_
              have hes : zes (fun k => ((a3_ 0) k).toInt) ((u3_ 0).toInt).toNat = false := by first | exact zmes_f (Or.inl (hX135_2 (by omega))) | exact zmes_f (Or.inr (Or.inl (hX148_1 (by omega)))) | exact zmes_f (Or.inr (Or.inr (Or.inl (hX161_1 (by omega))))) | exact zmes_f (Or.inr (Or.inr (Or.inr (hX174_1 (by omega)))))
              refine W.widen (k := 0) (n := 0) (by decide) (by decide) ?_
              have hpost : (0 ≤ (u3_ 0).toInt ∧ (u3_ 0).toInt ≤ 12) := (by first | with_reducible assumption | exact ⟨by omega, by omega⟩)
              have hP9 : va_P (dC, dI) vwCl [(h0, .inr (13, mX13 q0 (upd v0 20 (u3_ 0)))), ((q0 0), zi k1 600 f1), ((q0 19), zi k15 12 (a3_ 0))] H := hP
              have hD9 : va_D A [(h0, .inr (13, mX13 q0 (upd v0 20 (u3_ 0)))), ((q0 0), zi k1 600 f1), ((q0 19), zi k15 12 (a3_ 0))] := hD
              have hB0 : zMw f1 x1.toInt x2.toInt (a3_ 0) (u3_ 0).toInt := by first | exact zMw_i hB3_0 (by omega) hX3_0 (fun _ _ => zsm1 hhd (by omega) (by omega)) (fun _ _ => zsl1 hhd) | exact zMw_i hB3_0 (by omega) hX3_0 (fun p_ a_ => zsm2 (hhd p_ a_) hie (by omega) (by omega)) (fun p_ a_ => by rw [e_f_71]; exact zsl2 (hhd p_ a_) hie (by omega) (by omega)) | exact zMw_i hB3_0 (by omega) hX3_0 (fun p_ a_ => zsm3 (hhd p_ a_) hie hin (by omega) (by omega)) (fun _ _ => zsl3 hie) | exact zMw_i hB3_0 (by omega) hX3_0 (fun p_ a_ => zsm4 (hhd p_ a_) hie hin hed (by omega) (by omega)) (fun _ _ => zsl3 hie) | exact zMw_i hB3_0 (by omega) hX3_0 (fun p_ a_ => zsm5 (hhd p_ a_) hie hin hed hes (by omega) (by omega)) (fun _ _ => zsl3 hie) | exact zMw_i hB3_0 (by omega) hX3_0 (fun p_ a_ => zsm6 (hhd p_ a_) hie hin hed hes (by omega) (by omega)) (fun _ _ => zsl3 hie)
              exact W.vret hx hb hr (fun t ht hW => ⟨⟨(fun i => ([(u3_ 0)] : List (Int32)).getD i 0), rfl, hpost, (fun _ => 0), (fun i => ([(a3_ 0)] : List (Nat → Int32)).getD i (fun _ => 0)), (fun _ => (fun _ => 0)), hB0, by rw [ht]; exact hP9, va_K.moved hW.alike hK, hD9⟩, hS.F ht⟩) hS.2.2 dX13_takeWord_190
            · skip
              have b_ := zF_eq rfl zk_0 c_
              refine lv_aload_n hx hb dX13_takeWord_141 rfl (lv_at hl 0 rfl) ?_
              refine lv_iconst (v := 0) hx hb dX13_takeWord_142 (by decide) ?_
              refine lv_bipush (v := 115) hx hb dX13_takeWord_143 (by decide) ?_
              refine lv_bipush (v := 115) hx hb dX13_takeWord_145 (by decide) ?_
              refine lv_iconst (v := 4) hx hb dX13_takeWord_147 (by decide) ?_
              have hPc := hP.sub (ws' := [(h0, .inr (13, mX13 q0 (upd v0 20 (u3_ 0)))), ((q0 19), zi k15 12 (a3_ 0))]) [0, 2] rfl
              have hDc := hD.sub (ws' := [(h0, .inr (13, mX13 q0 (upd v0 20 (u3_ 0)))), ((q0 19), zi k15 12 (a3_ 0))]) [0, 2] (by decide) rfl
              have hKc := hK.sub (tys' := [(k15, .byte)]) [1] rfl
              have hFc := va_free (wc := [(h0, .inr (13, mX13 q0 (upd v0 20 (u3_ 0)))), ((q0 19), zi k15 12 (a3_ 0))]) hD hS hA [0, 2] rfl
              refine va_calli (va_runV (As := [.int 0, .int 115, .int 115, .int 4]) (rest := []) ⟨hx, hb, hml, hown, hG⟩ (sX13_endsBy_0 l dC dI adK adV h0 q0 k15 H.size (upd v0 20 (u3_ 0)) (a3_ 0) 0 115 115 4 (zR_up2 hv0 20 (show (0 : Int) ≤ ((u3_ 0) : Int32).toInt ∧ ((u3_ 0) : Int32).toInt ≤ (12 : Int) from (by first | with_reducible assumption | exact ⟨by omega, by omega⟩))) ⟨show (4 : Int) ≤ (4 : Int32).toInt from by decide, show (4 : Int32).toInt ≤ (6 : Int) from by decide⟩) (cwV 4 hG (zgV zv1877 zv1879 zv54 zv142 zv1880) rfl rfl rfl (by decide +kernel) ⟨Nat.le_of_ble_eq_true rfl, Nat.le_of_ble_eq_true rfl⟩) ⟨zPc_blind, va_recv hKc hPc (ci := 13) (q0 := 0) rfl rfl, zPc_pre hPc hKc hDc hE hS hFc hZ⟩ rfl rfl hl.1 rfl (lv_room (Nat.le_of_ble_eq_true rfl)) dX13_takeWord_148 ⟨Nat.le_of_ble_eq_true rfl, Nat.le_of_ble_eq_true rfl⟩) hS (fun q _ h => hFc q h) hFc (fun r148_ u148_ t H1 locs ht hvm hw hB hz1 hk1 hS => ?_)
              replace hw : (0 ≤ r148_.toInt ∧ r148_.toInt ≤ 1) ∧ (r148_.toInt = 1 → (4 : Int32).toInt ≤ (u3_ 0).toInt) ∧ (r148_.toInt = 1 → zMe (a3_ 0) (u3_ 0).toInt (0 : Int32).toInt (115 : Int32).toInt (115 : Int32).toInt (4 : Int32).toInt) ∧ (r148_.toInt = 0 → ¬ zMe (a3_ 0) (u3_ 0).toInt (0 : Int32).toInt (115 : Int32).toInt (115 : Int32).toInt (4 : Int32).toInt) := hw
              obtain ⟨b_, hX148_0, hX148_1, hX148_2⟩ := hw
              obtain ⟨w148_, a148_, b148_, hP1, hK1, hD1⟩ := hB
              rw [ht] at hP1
              obtain ⟨hP, hD⟩ := va_join (wr := [((q0 0), zi k1 600 f1)]) (w1 := [(h0, .inr (13, mX13 q0 (upd v0 20 (u3_ 0)))), ((q0 19), zi k15 12 (a3_ 0))]) hP hD [0, 2] [1] rfl rfl (by decide) (by decide) hk1 hFc hP1 hD1
              have hP : va_P (dC, dI) vwCl [(h0, .inr (13, mX13 q0 (upd v0 20 (u3_ 0)))), ((q0 0), zi k1 600 f1), ((q0 19), zi k15 12 (a3_ 0))] H1 := hP.sub [1, 0, 2] rfl
              have hD : va_D A [(h0, .inr (13, mX13 q0 (upd v0 20 (u3_ 0)))), ((q0 0), zi k1 600 f1), ((q0 19), zi k15 12 (a3_ 0))] := hD.sub [1, 0, 2] (by decide) rfl
              generalize H1 = H at hP hS ⊢
              clear hz1
              refine lv_if_ne (tgt := 190) hx hb dX13_takeWord_151 (by decide) (fun c_ => ?_) (fun c_ => ?_)
              · skip
                have b_ := zT_ne rfl zk_0 c_
                have hes : zes (fun k => ((a3_ 0) k).toInt) ((u3_ 0).toInt).toNat = false := by first | exact zmes_f (Or.inl (hX135_2 (by omega))) | exact zmes_f (Or.inr (Or.inl (hX148_1 (by omega)))) | exact zmes_f (Or.inr (Or.inr (Or.inl (hX161_1 (by omega))))) | exact zmes_f (Or.inr (Or.inr (Or.inr (hX174_1 (by omega)))))
                refine W.widen (k := 0) (n := 0) (by decide) (by decide) ?_
                have hpost : (0 ≤ (u3_ 0).toInt ∧ (u3_ 0).toInt ≤ 12) := (by first | with_reducible assumption | exact ⟨by omega, by omega⟩)
                have hP9 : va_P (dC, dI) vwCl [(h0, .inr (13, mX13 q0 (upd v0 20 (u3_ 0)))), ((q0 0), zi k1 600 f1), ((q0 19), zi k15 12 (a3_ 0))] H := hP
                have hD9 : va_D A [(h0, .inr (13, mX13 q0 (upd v0 20 (u3_ 0)))), ((q0 0), zi k1 600 f1), ((q0 19), zi k15 12 (a3_ 0))] := hD
                have hB0 : zMw f1 x1.toInt x2.toInt (a3_ 0) (u3_ 0).toInt := by first | exact zMw_i hB3_0 (by omega) hX3_0 (fun _ _ => zsm1 hhd (by omega) (by omega)) (fun _ _ => zsl1 hhd) | exact zMw_i hB3_0 (by omega) hX3_0 (fun p_ a_ => zsm2 (hhd p_ a_) hie (by omega) (by omega)) (fun p_ a_ => by rw [e_f_71]; exact zsl2 (hhd p_ a_) hie (by omega) (by omega)) | exact zMw_i hB3_0 (by omega) hX3_0 (fun p_ a_ => zsm3 (hhd p_ a_) hie hin (by omega) (by omega)) (fun _ _ => zsl3 hie) | exact zMw_i hB3_0 (by omega) hX3_0 (fun p_ a_ => zsm4 (hhd p_ a_) hie hin hed (by omega) (by omega)) (fun _ _ => zsl3 hie) | exact zMw_i hB3_0 (by omega) hX3_0 (fun p_ a_ => zsm5 (hhd p_ a_) hie hin hed hes (by omega) (by omega)) (fun _ _ => zsl3 hie) | exact zMw_i hB3_0 (by omega) hX3_0 (fun p_ a_ => zsm6 (hhd p_ a_) hie hin hed hes (by omega) (by omega)) (fun _ _ => zsl3 hie)
                exact W.vret hx hb hr (fun t ht hW => ⟨⟨(fun i => ([(u3_ 0)] : List (Int32)).getD i 0), rfl, hpost, (fun _ => 0), (fun i => ([(a3_ 0)] : List (Nat → Int32)).getD i (fun _ => 0)), (fun _ => (fun _ => 0)), hB0, by rw [ht]; exact hP9, va_K.moved hW.alike hK, hD9⟩, hS.F ht⟩) hS.2.2 dX13_takeWord_190
              · skip
                have b_ := zF_ne rfl zk_0 c_
                refine lv_aload_n hx hb dX13_takeWord_154 rfl (lv_at hl 0 rfl) ?_
                refine lv_iconst (v := 0) hx hb dX13_takeWord_155 (by decide) ?_
                refine lv_bipush (v := 117) hx hb dX13_takeWord_156 (by decide) ?_
                refine lv_bipush (v := 115) hx hb dX13_takeWord_158 (by decide) ?_
                refine lv_iconst (v := 4) hx hb dX13_takeWord_160 (by decide) ?_
                have hPc := hP.sub (ws' := [(h0, .inr (13, mX13 q0 (upd v0 20 (u3_ 0)))), ((q0 19), zi k15 12 (a3_ 0))]) [0, 2] rfl
                have hDc := hD.sub (ws' := [(h0, .inr (13, mX13 q0 (upd v0 20 (u3_ 0)))), ((q0 19), zi k15 12 (a3_ 0))]) [0, 2] (by decide) rfl
                have hKc := hK.sub (tys' := [(k15, .byte)]) [1] rfl
                have hFc := va_free (wc := [(h0, .inr (13, mX13 q0 (upd v0 20 (u3_ 0)))), ((q0 19), zi k15 12 (a3_ 0))]) hD hS hA [0, 2] rfl
                refine va_calli (va_runV (As := [.int 0, .int 117, .int 115, .int 4]) (rest := []) ⟨hx, hb, hml, hown, hG⟩ (sX13_endsBy_0 l dC dI adK adV h0 q0 k15 H.size (upd v0 20 (u3_ 0)) (a3_ 0) 0 117 115 4 (zR_up2 hv0 20 (show (0 : Int) ≤ ((u3_ 0) : Int32).toInt ∧ ((u3_ 0) : Int32).toInt ≤ (12 : Int) from (by first | with_reducible assumption | exact ⟨by omega, by omega⟩))) ⟨show (4 : Int) ≤ (4 : Int32).toInt from by decide, show (4 : Int32).toInt ≤ (6 : Int) from by decide⟩) (cwV 4 hG (zgV zv1877 zv1879 zv54 zv142 zv1880) rfl rfl rfl (by decide +kernel) ⟨Nat.le_of_ble_eq_true rfl, Nat.le_of_ble_eq_true rfl⟩) ⟨zPc_blind, va_recv hKc hPc (ci := 13) (q0 := 0) rfl rfl, zPc_pre hPc hKc hDc hE hS hFc hZ⟩ rfl rfl hl.1 rfl (lv_room (Nat.le_of_ble_eq_true rfl)) dX13_takeWord_161 ⟨Nat.le_of_ble_eq_true rfl, Nat.le_of_ble_eq_true rfl⟩) hS (fun q _ h => hFc q h) hFc (fun r161_ u161_ t H1 locs ht hvm hw hB hz1 hk1 hS => ?_)
                replace hw : (0 ≤ r161_.toInt ∧ r161_.toInt ≤ 1) ∧ (r161_.toInt = 1 → (4 : Int32).toInt ≤ (u3_ 0).toInt) ∧ (r161_.toInt = 1 → zMe (a3_ 0) (u3_ 0).toInt (0 : Int32).toInt (117 : Int32).toInt (115 : Int32).toInt (4 : Int32).toInt) ∧ (r161_.toInt = 0 → ¬ zMe (a3_ 0) (u3_ 0).toInt (0 : Int32).toInt (117 : Int32).toInt (115 : Int32).toInt (4 : Int32).toInt) := hw
                obtain ⟨b_, hX161_0, hX161_1, hX161_2⟩ := hw
                obtain ⟨w161_, a161_, b161_, hP1, hK1, hD1⟩ := hB
                rw [ht] at hP1
                obtain ⟨hP, hD⟩ := va_join (wr := [((q0 0), zi k1 600 f1)]) (w1 := [(h0, .inr (13, mX13 q0 (upd v0 20 (u3_ 0)))), ((q0 19), zi k15 12 (a3_ 0))]) hP hD [0, 2] [1] rfl rfl (by decide) (by decide) hk1 hFc hP1 hD1
                have hP : va_P (dC, dI) vwCl [(h0, .inr (13, mX13 q0 (upd v0 20 (u3_ 0)))), ((q0 0), zi k1 600 f1), ((q0 19), zi k15 12 (a3_ 0))] H1 := hP.sub [1, 0, 2] rfl
                have hD : va_D A [(h0, .inr (13, mX13 q0 (upd v0 20 (u3_ 0)))), ((q0 0), zi k1 600 f1), ((q0 19), zi k15 12 (a3_ 0))] := hD.sub [1, 0, 2] (by decide) rfl
                generalize H1 = H at hP hS ⊢
                clear hz1
                refine lv_if_ne (tgt := 190) hx hb dX13_takeWord_164 (by decide) (fun c_ => ?_) (fun c_ => ?_)
                · skip
                  have b_ := zT_ne rfl zk_0 c_
                  have hes : zes (fun k => ((a3_ 0) k).toInt) ((u3_ 0).toInt).toNat = false := by first | exact zmes_f (Or.inl (hX135_2 (by omega))) | exact zmes_f (Or.inr (Or.inl (hX148_1 (by omega)))) | exact zmes_f (Or.inr (Or.inr (Or.inl (hX161_1 (by omega))))) | exact zmes_f (Or.inr (Or.inr (Or.inr (hX174_1 (by omega)))))
                  refine W.widen (k := 0) (n := 0) (by decide) (by decide) ?_
                  have hpost : (0 ≤ (u3_ 0).toInt ∧ (u3_ 0).toInt ≤ 12) := (by first | with_reducible assumption | exact ⟨by omega, by omega⟩)
                  have hP9 : va_P (dC, dI) vwCl [(h0, .inr (13, mX13 q0 (upd v0 20 (u3_ 0)))), ((q0 0), zi k1 600 f1), ((q0 19), zi k15 12 (a3_ 0))] H := hP
                  have hD9 : va_D A [(h0, .inr (13, mX13 q0 (upd v0 20 (u3_ 0)))), ((q0 0), zi k1 600 f1), ((q0 19), zi k15 12 (a3_ 0))] := hD
                  have hB0 : zMw f1 x1.toInt x2.toInt (a3_ 0) (u3_ 0).toInt := by first | exact zMw_i hB3_0 (by omega) hX3_0 (fun _ _ => zsm1 hhd (by omega) (by omega)) (fun _ _ => zsl1 hhd) | exact zMw_i hB3_0 (by omega) hX3_0 (fun p_ a_ => zsm2 (hhd p_ a_) hie (by omega) (by omega)) (fun p_ a_ => by rw [e_f_71]; exact zsl2 (hhd p_ a_) hie (by omega) (by omega)) | exact zMw_i hB3_0 (by omega) hX3_0 (fun p_ a_ => zsm3 (hhd p_ a_) hie hin (by omega) (by omega)) (fun _ _ => zsl3 hie) | exact zMw_i hB3_0 (by omega) hX3_0 (fun p_ a_ => zsm4 (hhd p_ a_) hie hin hed (by omega) (by omega)) (fun _ _ => zsl3 hie) | exact zMw_i hB3_0 (by omega) hX3_0 (fun p_ a_ => zsm5 (hhd p_ a_) hie hin hed hes (by omega) (by omega)) (fun _ _ => zsl3 hie) | exact zMw_i hB3_0 (by omega) hX3_0 (fun p_ a_ => zsm6 (hhd p_ a_) hie hin hed hes (by omega) (by omega)) (fun _ _ => zsl3 hie)
                  exact W.vret hx hb hr (fun t ht hW => ⟨⟨(fun i => ([(u3_ 0)] : List (Int32)).getD i 0), rfl, hpost, (fun _ => 0), (fun i => ([(a3_ 0)] : List (Nat → Int32)).getD i (fun _ => 0)), (fun _ => (fun _ => 0)), hB0, by rw [ht]; exact hP9, va_K.moved hW.alike hK, hD9⟩, hS.F ht⟩) hS.2.2 dX13_takeWord_190
                · skip
                  have b_ := zF_ne rfl zk_0 c_
                  refine lv_aload_n hx hb dX13_takeWord_167 rfl (lv_at hl 0 rfl) ?_
                  refine lv_iconst (v := 0) hx hb dX13_takeWord_168 (by decide) ?_
                  refine lv_bipush (v := 105) hx hb dX13_takeWord_169 (by decide) ?_
                  refine lv_bipush (v := 115) hx hb dX13_takeWord_171 (by decide) ?_
                  refine lv_iconst (v := 4) hx hb dX13_takeWord_173 (by decide) ?_
                  have hPc := hP.sub (ws' := [(h0, .inr (13, mX13 q0 (upd v0 20 (u3_ 0)))), ((q0 19), zi k15 12 (a3_ 0))]) [0, 2] rfl
                  have hDc := hD.sub (ws' := [(h0, .inr (13, mX13 q0 (upd v0 20 (u3_ 0)))), ((q0 19), zi k15 12 (a3_ 0))]) [0, 2] (by decide) rfl
                  have hKc := hK.sub (tys' := [(k15, .byte)]) [1] rfl
                  have hFc := va_free (wc := [(h0, .inr (13, mX13 q0 (upd v0 20 (u3_ 0)))), ((q0 19), zi k15 12 (a3_ 0))]) hD hS hA [0, 2] rfl
                  refine va_calli (va_runV (As := [.int 0, .int 105, .int 115, .int 4]) (rest := []) ⟨hx, hb, hml, hown, hG⟩ (sX13_endsBy_0 l dC dI adK adV h0 q0 k15 H.size (upd v0 20 (u3_ 0)) (a3_ 0) 0 105 115 4 (zR_up2 hv0 20 (show (0 : Int) ≤ ((u3_ 0) : Int32).toInt ∧ ((u3_ 0) : Int32).toInt ≤ (12 : Int) from (by first | with_reducible assumption | exact ⟨by omega, by omega⟩))) ⟨show (4 : Int) ≤ (4 : Int32).toInt from by decide, show (4 : Int32).toInt ≤ (6 : Int) from by decide⟩) (cwV 4 hG (zgV zv1877 zv1879 zv54 zv142 zv1880) rfl rfl rfl (by decide +kernel) ⟨Nat.le_of_ble_eq_true rfl, Nat.le_of_ble_eq_true rfl⟩) ⟨zPc_blind, va_recv hKc hPc (ci := 13) (q0 := 0) rfl rfl, zPc_pre hPc hKc hDc hE hS hFc hZ⟩ rfl rfl hl.1 rfl (lv_room (Nat.le_of_ble_eq_true rfl)) dX13_takeWord_174 ⟨Nat.le_of_ble_eq_true rfl, Nat.le_of_ble_eq_true rfl⟩) hS (fun q _ h => hFc q h) hFc (fun r174_ u174_ t H1 locs ht hvm hw hB hz1 hk1 hS => ?_)
                  replace hw : (0 ≤ r174_.toInt ∧ r174_.toInt ≤ 1) ∧ (r174_.toInt = 1 → (4 : Int32).toInt ≤ (u3_ 0).toInt) ∧ (r174_.toInt = 1 → zMe (a3_ 0) (u3_ 0).toInt (0 : Int32).toInt (105 : Int32).toInt (115 : Int32).toInt (4 : Int32).toInt) ∧ (r174_.toInt = 0 → ¬ zMe (a3_ 0) (u3_ 0).toInt (0 : Int32).toInt (105 : Int32).toInt (115 : Int32).toInt (4 : Int32).toInt) := hw
                  obtain ⟨b_, hX174_0, hX174_1, hX174_2⟩ := hw
                  obtain ⟨w174_, a174_, b174_, hP1, hK1, hD1⟩ := hB
                  rw [ht] at hP1
                  obtain ⟨hP, hD⟩ := va_join (wr := [((q0 0), zi k1 600 f1)]) (w1 := [(h0, .inr (13, mX13 q0 (upd v0 20 (u3_ 0)))), ((q0 19), zi k15 12 (a3_ 0))]) hP hD [0, 2] [1] rfl rfl (by decide) (by decide) hk1 hFc hP1 hD1
                  have hP : va_P (dC, dI) vwCl [(h0, .inr (13, mX13 q0 (upd v0 20 (u3_ 0)))), ((q0 0), zi k1 600 f1), ((q0 19), zi k15 12 (a3_ 0))] H1 := hP.sub [1, 0, 2] rfl
                  have hD : va_D A [(h0, .inr (13, mX13 q0 (upd v0 20 (u3_ 0)))), ((q0 0), zi k1 600 f1), ((q0 19), zi k15 12 (a3_ 0))] := hD.sub [1, 0, 2] (by decide) rfl
                  generalize H1 = H at hP hS ⊢
                  clear hz1
                  refine lv_if_ne (tgt := 190) hx hb dX13_takeWord_177 (by decide) (fun c_ => ?_) (fun c_ => ?_)
                  · skip
                    have b_ := zT_ne rfl zk_0 c_
                    have hes : zes (fun k => ((a3_ 0) k).toInt) ((u3_ 0).toInt).toNat = false := by first | exact zmes_f (Or.inl (hX135_2 (by omega))) | exact zmes_f (Or.inr (Or.inl (hX148_1 (by omega)))) | exact zmes_f (Or.inr (Or.inr (Or.inl (hX161_1 (by omega))))) | exact zmes_f (Or.inr (Or.inr (Or.inr (hX174_1 (by omega)))))
                    refine W.widen (k := 0) (n := 0) (by decide) (by decide) ?_
                    have hpost : (0 ≤ (u3_ 0).toInt ∧ (u3_ 0).toInt ≤ 12) := (by first | with_reducible assumption | exact ⟨by omega, by omega⟩)
                    have hP9 : va_P (dC, dI) vwCl [(h0, .inr (13, mX13 q0 (upd v0 20 (u3_ 0)))), ((q0 0), zi k1 600 f1), ((q0 19), zi k15 12 (a3_ 0))] H := hP
                    have hD9 : va_D A [(h0, .inr (13, mX13 q0 (upd v0 20 (u3_ 0)))), ((q0 0), zi k1 600 f1), ((q0 19), zi k15 12 (a3_ 0))] := hD
                    have hB0 : zMw f1 x1.toInt x2.toInt (a3_ 0) (u3_ 0).toInt := by first | exact zMw_i hB3_0 (by omega) hX3_0 (fun _ _ => zsm1 hhd (by omega) (by omega)) (fun _ _ => zsl1 hhd) | exact zMw_i hB3_0 (by omega) hX3_0 (fun p_ a_ => zsm2 (hhd p_ a_) hie (by omega) (by omega)) (fun p_ a_ => by rw [e_f_71]; exact zsl2 (hhd p_ a_) hie (by omega) (by omega)) | exact zMw_i hB3_0 (by omega) hX3_0 (fun p_ a_ => zsm3 (hhd p_ a_) hie hin (by omega) (by omega)) (fun _ _ => zsl3 hie) | exact zMw_i hB3_0 (by omega) hX3_0 (fun p_ a_ => zsm4 (hhd p_ a_) hie hin hed (by omega) (by omega)) (fun _ _ => zsl3 hie) | exact zMw_i hB3_0 (by omega) hX3_0 (fun p_ a_ => zsm5 (hhd p_ a_) hie hin hed hes (by omega) (by omega)) (fun _ _ => zsl3 hie) | exact zMw_i hB3_0 (by omega) hX3_0 (fun p_ a_ => zsm6 (hhd p_ a_) hie hin hed hes (by omega) (by omega)) (fun _ _ => zsl3 hie)
                    exact W.vret hx hb hr (fun t ht hW => ⟨⟨(fun i => ([(u3_ 0)] : List (Int32)).getD i 0), rfl, hpost, (fun _ => 0), (fun i => ([(a3_ 0)] : List (Nat → Int32)).getD i (fun _ => 0)), (fun _ => (fun _ => 0)), hB0, by rw [ht]; exact hP9, va_K.moved hW.alike hK, hD9⟩, hS.F ht⟩) hS.2.2 dX13_takeWord_190
                  · skip
                    have b_ := zF_ne rfl zk_0 c_
                    have hes : zes (fun k => ((a3_ 0) k).toInt) ((u3_ 0).toInt).toNat = true := by first | exact zmes_t (hX135_1 (by omega)) (hX148_2 (by omega)) (hX161_2 (by omega)) (hX174_2 (by omega))
                    refine lv_aload_n hx hb dX13_takeWord_180 rfl (lv_at hl 0 rfl) ?_
                    refine lv_dup hx hb dX13_takeWord_181 rfl ?_
                    refine va_get (D := (dC, dI)) (ci := 13) (v := .int (u3_ 0)) (C := RX13) (T := TX13) (N := 75) hx hb hG zuX13 hown hK hP 0 rfl rfl 20 (by decide) (hG _ zv1624) (fun _ h9 => h9) rfl dX13_takeWord_182 ?_
                    refine lv_iconst (v := 1) hx hb dX13_takeWord_185 (by decide) ?_
                    refine lv_isub hx hb dX13_takeWord_186 ?_
                    refine lv_topi (fun z186 e_z186 => ?_)
                    have b_ := zsub rfl zk_1 e_z186 (by omega) (by omega)
                    have b_ : 0 ≤ z186.toInt ∧ z186.toInt ≤ 12 := ⟨by omega, by omega⟩
                    refine va_put (D := (dC, dI)) (ci := 13) (v := .int z186) (ty := .int) (C := RX13) (T := TX13) (N := 75) hx hb hG zuX13 tyX13 tyX13_ok nmX13 hown hK hP hD hS 0 rfl rfl 20 (by decide) (hG _ zv1624) (fun _ h9 => h9) rfl (by decide +kernel) rfl rfl (Nat.le_of_ble_eq_true rfl) dX13_takeWord_187 (fun H locs hP hD hS => ?_)
                    have hP : va_P (dC, dI) vwCl [(h0, .inr (13, mX13 q0 (upd v0 20 z186))), ((q0 0), zi k1 600 f1), ((q0 19), zi k15 12 (a3_ 0))] H := hP
                    have hD : va_D A [(h0, .inr (13, mX13 q0 (upd v0 20 z186))), ((q0 0), zi k1 600 f1), ((q0 19), zi k15 12 (a3_ 0))] := hD
                    refine W.widen (k := 0) (n := 0) (by decide) (by decide) ?_
                    have hpost : (0 ≤ z186.toInt ∧ z186.toInt ≤ 12) := (by first | with_reducible assumption | exact ⟨by omega, by omega⟩)
                    have hP9 : va_P (dC, dI) vwCl [(h0, .inr (13, mX13 q0 (upd v0 20 z186))), ((q0 0), zi k1 600 f1), ((q0 19), zi k15 12 (a3_ 0))] H := hP
                    have hD9 : va_D A [(h0, .inr (13, mX13 q0 (upd v0 20 z186))), ((q0 0), zi k1 600 f1), ((q0 19), zi k15 12 (a3_ 0))] := hD
                    have hB0 : zMw f1 x1.toInt x2.toInt (a3_ 0) z186.toInt := by first | exact zMw_i hB3_0 (by omega) hX3_0 (fun _ _ => zsm1 hhd (by omega) (by omega)) (fun _ _ => zsl1 hhd) | exact zMw_i hB3_0 (by omega) hX3_0 (fun p_ a_ => zsm2 (hhd p_ a_) hie (by omega) (by omega)) (fun p_ a_ => by rw [e_f_71]; exact zsl2 (hhd p_ a_) hie (by omega) (by omega)) | exact zMw_i hB3_0 (by omega) hX3_0 (fun p_ a_ => zsm3 (hhd p_ a_) hie hin (by omega) (by omega)) (fun _ _ => zsl3 hie) | exact zMw_i hB3_0 (by omega) hX3_0 (fun p_ a_ => zsm4 (hhd p_ a_) hie hin hed (by omega) (by omega)) (fun _ _ => zsl3 hie) | exact zMw_i hB3_0 (by omega) hX3_0 (fun p_ a_ => zsm5 (hhd p_ a_) hie hin hed hes (by omega) (by omega)) (fun _ _ => zsl3 hie) | exact zMw_i hB3_0 (by omega) hX3_0 (fun p_ a_ => zsm6 (hhd p_ a_) hie hin hed hes (by omega) (by omega)) (fun _ _ => zsl3 hie)
                    exact W.vret hx hb hr (fun t ht hW => ⟨⟨(fun i => ([z186] : List (Int32)).getD i 0), rfl, hpost, (fun _ => 0), (fun i => ([(a3_ 0)] : List (Nat → Int32)).getD i (fun _ => 0)), (fun _ => (fun _ => 0)), hB0, by rw [ht]; exact hP9, va_K.moved hW.alike hK, hD9⟩, hS.F ht⟩) hS.2.2 dX13_takeWord_190
          · skip
            have b_ := zF_eq rfl zk_0 c_
            have hed : zed (fun k => ((a3_ 0) k).toInt) ((u3_ 0).toInt).toNat = true := by first | exact zmed_t (hX110_1 (by omega))
            refine lv_aload_n hx hb dX13_takeWord_116 rfl (lv_at hl 0 rfl) ?_
            refine lv_dup hx hb dX13_takeWord_117 rfl ?_
            refine va_get (D := (dC, dI)) (ci := 13) (v := .int (u3_ 0)) (C := RX13) (T := TX13) (N := 75) hx hb hG zuX13 hown hK hP 0 rfl rfl 20 (by decide) (hG _ zv1624) (fun _ h9 => h9) rfl dX13_takeWord_118 ?_
            refine lv_iconst (v := 2) hx hb dX13_takeWord_121 (by decide) ?_
            refine lv_isub hx hb dX13_takeWord_122 ?_
            refine lv_topi (fun z122 e_z122 => ?_)
            have b_ := zsub rfl zk_2 e_z122 (by omega) (by omega)
            have b_ : 0 ≤ z122.toInt ∧ z122.toInt ≤ 12 := ⟨by omega, by omega⟩
            refine va_put (D := (dC, dI)) (ci := 13) (v := .int z122) (ty := .int) (C := RX13) (T := TX13) (N := 75) hx hb hG zuX13 tyX13 tyX13_ok nmX13 hown hK hP hD hS 0 rfl rfl 20 (by decide) (hG _ zv1624) (fun _ h9 => h9) rfl (by decide +kernel) rfl rfl (Nat.le_of_ble_eq_true rfl) dX13_takeWord_123 (fun H locs hP hD hS => ?_)
            have hP : va_P (dC, dI) vwCl [(h0, .inr (13, mX13 q0 (upd v0 20 z122))), ((q0 0), zi k1 600 f1), ((q0 19), zi k15 12 (a3_ 0))] H := hP
            have hD : va_D A [(h0, .inr (13, mX13 q0 (upd v0 20 z122))), ((q0 0), zi k1 600 f1), ((q0 19), zi k15 12 (a3_ 0))] := hD
            refine lv_goto (tgt := 190) hx hb dX13_takeWord_126 (by decide) ?_
            refine W.widen (k := 0) (n := 0) (by decide) (by decide) ?_
            have hpost : (0 ≤ z122.toInt ∧ z122.toInt ≤ 12) := (by first | with_reducible assumption | exact ⟨by omega, by omega⟩)
            have hP9 : va_P (dC, dI) vwCl [(h0, .inr (13, mX13 q0 (upd v0 20 z122))), ((q0 0), zi k1 600 f1), ((q0 19), zi k15 12 (a3_ 0))] H := hP
            have hD9 : va_D A [(h0, .inr (13, mX13 q0 (upd v0 20 z122))), ((q0 0), zi k1 600 f1), ((q0 19), zi k15 12 (a3_ 0))] := hD
            have hB0 : zMw f1 x1.toInt x2.toInt (a3_ 0) z122.toInt := by first | exact zMw_i hB3_0 (by omega) hX3_0 (fun _ _ => zsm1 hhd (by omega) (by omega)) (fun _ _ => zsl1 hhd) | exact zMw_i hB3_0 (by omega) hX3_0 (fun p_ a_ => zsm2 (hhd p_ a_) hie (by omega) (by omega)) (fun p_ a_ => by rw [e_f_71]; exact zsl2 (hhd p_ a_) hie (by omega) (by omega)) | exact zMw_i hB3_0 (by omega) hX3_0 (fun p_ a_ => zsm3 (hhd p_ a_) hie hin (by omega) (by omega)) (fun _ _ => zsl3 hie) | exact zMw_i hB3_0 (by omega) hX3_0 (fun p_ a_ => zsm4 (hhd p_ a_) hie hin hed (by omega) (by omega)) (fun _ _ => zsl3 hie) | exact zMw_i hB3_0 (by omega) hX3_0 (fun p_ a_ => zsm5 (hhd p_ a_) hie hin hed hes (by omega) (by omega)) (fun _ _ => zsl3 hie) | exact zMw_i hB3_0 (by omega) hX3_0 (fun p_ a_ => zsm6 (hhd p_ a_) hie hin hed hes (by omega) (by omega)) (fun _ _ => zsl3 hie)
            exact W.vret hx hb hr (fun t ht hW => ⟨⟨(fun i => ([z122] : List (Int32)).getD i 0), rfl, hpost, (fun _ => 0), (fun i => ([(a3_ 0)] : List (Nat → Int32)).getD i (fun _ => 0)), (fun _ => (fun _ => 0)), hB0, by rw [ht]; exact hP9, va_K.moved hW.alike hK, hD9⟩, hS.F ht⟩) hS.2.2 dX13_takeWord_190
        · skip
          have b_ := zF_eq rfl zk_0 c_
          have hin : zing (fun k => ((a3_ 0) k).toInt) ((u3_ 0).toInt).toNat = true := by first | exact zming_t (hX84_1 (by omega))
          refine lv_aload_n hx hb dX13_takeWord_90 rfl (lv_at hl 0 rfl) ?_
          refine lv_dup hx hb dX13_takeWord_91 rfl ?_
          refine va_get (D := (dC, dI)) (ci := 13) (v := .int (u3_ 0)) (C := RX13) (T := TX13) (N := 75) hx hb hG zuX13 hown hK hP 0 rfl rfl 20 (by decide) (hG _ zv1624) (fun _ h9 => h9) rfl dX13_takeWord_92 ?_
          refine lv_iconst (v := 3) hx hb dX13_takeWord_95 (by decide) ?_
          refine lv_isub hx hb dX13_takeWord_96 ?_
          refine lv_topi (fun z96 e_z96 => ?_)
          have b_ := zsub rfl zk_3 e_z96 (by omega) (by omega)
          have b_ : 0 ≤ z96.toInt ∧ z96.toInt ≤ 12 := ⟨by omega, by omega⟩
          refine va_put (D := (dC, dI)) (ci := 13) (v := .int z96) (ty := .int) (C := RX13) (T := TX13) (N := 75) hx hb hG zuX13 tyX13 tyX13_ok nmX13 hown hK hP hD hS 0 rfl rfl 20 (by decide) (hG _ zv1624) (fun _ h9 => h9) rfl (by decide +kernel) rfl rfl (Nat.le_of_ble_eq_true rfl) dX13_takeWord_97 (fun H locs hP hD hS => ?_)
          have hP : va_P (dC, dI) vwCl [(h0, .inr (13, mX13 q0 (upd v0 20 z96))), ((q0 0), zi k1 600 f1), ((q0 19), zi k15 12 (a3_ 0))] H := hP
          have hD : va_D A [(h0, .inr (13, mX13 q0 (upd v0 20 z96))), ((q0 0), zi k1 600 f1), ((q0 19), zi k15 12 (a3_ 0))] := hD
          refine lv_goto (tgt := 190) hx hb dX13_takeWord_100 (by decide) ?_
          refine W.widen (k := 0) (n := 0) (by decide) (by decide) ?_
          have hpost : (0 ≤ z96.toInt ∧ z96.toInt ≤ 12) := (by first | with_reducible assumption | exact ⟨by omega, by omega⟩)
          have hP9 : va_P (dC, dI) vwCl [(h0, .inr (13, mX13 q0 (upd v0 20 z96))), ((q0 0), zi k1 600 f1), ((q0 19), zi k15 12 (a3_ 0))] H := hP
          have hD9 : va_D A [(h0, .inr (13, mX13 q0 (upd v0 20 z96))), ((q0 0), zi k1 600 f1), ((q0 19), zi k15 12 (a3_ 0))] := hD
          have hB0 : zMw f1 x1.toInt x2.toInt (a3_ 0) z96.toInt := by first | exact zMw_i hB3_0 (by omega) hX3_0 (fun _ _ => zsm1 hhd (by omega) (by omega)) (fun _ _ => zsl1 hhd) | exact zMw_i hB3_0 (by omega) hX3_0 (fun p_ a_ => zsm2 (hhd p_ a_) hie (by omega) (by omega)) (fun p_ a_ => by rw [e_f_71]; exact zsl2 (hhd p_ a_) hie (by omega) (by omega)) | exact zMw_i hB3_0 (by omega) hX3_0 (fun p_ a_ => zsm3 (hhd p_ a_) hie hin (by omega) (by omega)) (fun _ _ => zsl3 hie) | exact zMw_i hB3_0 (by omega) hX3_0 (fun p_ a_ => zsm4 (hhd p_ a_) hie hin hed (by omega) (by omega)) (fun _ _ => zsl3 hie) | exact zMw_i hB3_0 (by omega) hX3_0 (fun p_ a_ => zsm5 (hhd p_ a_) hie hin hed hes (by omega) (by omega)) (fun _ _ => zsl3 hie) | exact zMw_i hB3_0 (by omega) hX3_0 (fun p_ a_ => zsm6 (hhd p_ a_) hie hin hed hes (by omega) (by omega)) (fun _ _ => zsl3 hie)
          exact W.vret hx hb hr (fun t ht hW => ⟨⟨(fun i => ([z96] : List (Int32)).getD i 0), rfl, hpost, (fun _ => 0), (fun i => ([(a3_ 0)] : List (Nat → Int32)).getD i (fun _ => 0)), (fun _ => (fun _ => 0)), hB0, by rw [ht]; exact hP9, va_K.moved hW.alike hK, hD9⟩, hS.F ht⟩) hS.2.2 dX13_takeWord_190
      · skip
        have b_ := zF_eq rfl zk_0 c_
        have hie : zies (fun k => ((a3_ 0) k).toInt) ((u3_ 0).toInt).toNat = true := by first | exact zmies_t (hX43_1 (by omega))
        refine lv_aload_n hx hb dX13_takeWord_49 rfl (lv_at hl 0 rfl) ?_
        refine lv_dup hx hb dX13_takeWord_50 rfl ?_
        refine va_get (D := (dC, dI)) (ci := 13) (v := .int (u3_ 0)) (C := RX13) (T := TX13) (N := 75) hx hb hG zuX13 hown hK hP 0 rfl rfl 20 (by decide) (hG _ zv1624) (fun _ h9 => h9) rfl dX13_takeWord_51 ?_
        refine lv_iconst (v := 2) hx hb dX13_takeWord_54 (by decide) ?_
        refine lv_isub hx hb dX13_takeWord_55 ?_
        refine lv_topi (fun z55 e_z55 => ?_)
        have b_ := zsub rfl zk_2 e_z55 (by omega) (by omega)
        have b_ : 0 ≤ z55.toInt ∧ z55.toInt ≤ 12 := ⟨by omega, by omega⟩
        refine va_put (D := (dC, dI)) (ci := 13) (v := .int z55) (ty := .int) (C := RX13) (T := TX13) (N := 75) hx hb hG zuX13 tyX13 tyX13_ok nmX13 hown hK hP hD hS 0 rfl rfl 20 (by decide) (hG _ zv1624) (fun _ h9 => h9) rfl (by decide +kernel) rfl rfl (Nat.le_of_ble_eq_true rfl) dX13_takeWord_56 (fun H locs hP hD hS => ?_)
        have hP : va_P (dC, dI) vwCl [(h0, .inr (13, mX13 q0 (upd v0 20 z55))), ((q0 0), zi k1 600 f1), ((q0 19), zi k15 12 (a3_ 0))] H := hP
        have hD : va_D A [(h0, .inr (13, mX13 q0 (upd v0 20 z55))), ((q0 0), zi k1 600 f1), ((q0 19), zi k15 12 (a3_ 0))] := hD
        refine lv_aload_n hx hb dX13_takeWord_59 rfl (lv_at hl 0 rfl) ?_
        refine va_get (D := (dC, dI)) (ci := 13) (v := .ref (q0 19)) (C := RX13) (T := TX13) (N := 75) hx hb hG zuX13 hown hK hP 0 rfl rfl 19 (by decide) (hG _ zv1623) (fun _ h9 => h9) rfl dX13_takeWord_60 ?_
        refine lv_aload_n hx hb dX13_takeWord_63 rfl (lv_at hl 0 rfl) ?_
        refine va_get (D := (dC, dI)) (ci := 13) (v := .int z55) (C := RX13) (T := TX13) (N := 75) hx hb hG zuX13 hown hK hP 0 rfl rfl 20 (by decide) (hG _ zv1624) (fun _ h9 => h9) rfl dX13_takeWord_64 ?_
        refine lv_iconst (v := 1) hx hb dX13_takeWord_67 (by decide) ?_
        refine lv_isub hx hb dX13_takeWord_68 ?_
        refine lv_topi (fun z68 e_z68 => ?_)
        have b_ := zsub rfl zk_1 e_z68 (by omega) (by omega)
        refine lv_bipush (v := 121) hx hb dX13_takeWord_69 (by decide) ?_
        refine va_bast hx hb hK hP hD hS 2 1 rfl rfl (zin_lit ⟨by omega, by omega⟩) dX13_takeWord_71 (fun H locs hP hD hS => ?_)
        obtain ⟨f_71, e_f_71⟩ : ∃ z : Nat → Int32, z = upd (a3_ 0) (z68 : Int32).toNatClampNeg (vp_nar .byte 121) := ⟨_, rfl⟩
        have hP : va_P (dC, dI) vwCl [(h0, .inr (13, mX13 q0 (upd v0 20 z55))), ((q0 0), zi k1 600 f1), ((q0 19), zi k15 12 f_71)] H := by rw [e_f_71]; exact hP
        have hD : va_D A [(h0, .inr (13, mX13 q0 (upd v0 20 z55))), ((q0 0), zi k1 600 f1), ((q0 19), zi k15 12 f_71)] := by rw [e_f_71]; exact hD
        refine lv_goto (tgt := 190) hx hb dX13_takeWord_72 (by decide) ?_
        refine W.widen (k := 0) (n := 0) (by decide) (by decide) ?_
        have hpost : (0 ≤ z55.toInt ∧ z55.toInt ≤ 12) := (by first | with_reducible assumption | exact ⟨by omega, by omega⟩)
        have hP9 : va_P (dC, dI) vwCl [(h0, .inr (13, mX13 q0 (upd v0 20 z55))), ((q0 0), zi k1 600 f1), ((q0 19), zi k15 12 f_71)] H := hP
        have hD9 : va_D A [(h0, .inr (13, mX13 q0 (upd v0 20 z55))), ((q0 0), zi k1 600 f1), ((q0 19), zi k15 12 f_71)] := hD
        have hB0 : zMw f1 x1.toInt x2.toInt f_71 z55.toInt := by first | exact zMw_i hB3_0 (by omega) hX3_0 (fun _ _ => zsm1 hhd (by omega) (by omega)) (fun _ _ => zsl1 hhd) | exact zMw_i hB3_0 (by omega) hX3_0 (fun p_ a_ => zsm2 (hhd p_ a_) hie (by omega) (by omega)) (fun p_ a_ => by rw [e_f_71]; exact zsl2 (hhd p_ a_) hie (by omega) (by omega)) | exact zMw_i hB3_0 (by omega) hX3_0 (fun p_ a_ => zsm3 (hhd p_ a_) hie hin (by omega) (by omega)) (fun _ _ => zsl3 hie) | exact zMw_i hB3_0 (by omega) hX3_0 (fun p_ a_ => zsm4 (hhd p_ a_) hie hin hed (by omega) (by omega)) (fun _ _ => zsl3 hie) | exact zMw_i hB3_0 (by omega) hX3_0 (fun p_ a_ => zsm5 (hhd p_ a_) hie hin hed hes (by omega) (by omega)) (fun _ _ => zsl3 hie) | exact zMw_i hB3_0 (by omega) hX3_0 (fun p_ a_ => zsm6 (hhd p_ a_) hie hin hed hes (by omega) (by omega)) (fun _ _ => zsl3 hie)
        exact W.vret hx hb hr (fun t ht hW => ⟨⟨(fun i => ([z55] : List (Int32)).getD i 0), rfl, hpost, (fun _ => 0), (fun i => ([f_71] : List (Nat → Int32)).getD i (fun _ => 0)), (fun _ => (fun _ => 0)), hB0, by rw [ht]; exact hP9, va_K.moved hW.alike hK, hD9⟩, hS.F ht⟩) hS.2.2 dX13_takeWord_190
    · skip
      have b_ := zF_ge rfl rfl c_
      refine lv_aload_n hx hb dX13_takeWord_16 rfl (lv_at hl 0 rfl) ?_
      refine va_get (D := (dC, dI)) (ci := 13) (v := .ref (q0 19)) (C := RX13) (T := TX13) (N := 75) hx hb hG zuX13 hown hK hP 0 rfl rfl 19 (by decide) (hG _ zv1623) (fun _ h9 => h9) rfl dX13_takeWord_17 ?_
      refine lv_iload_n hx hb dX13_takeWord_20 rfl (lv_at hl 3 rfl) ?_
      refine va_bald hx hb hK hP 2 1 rfl rfl (zin_lit ⟨by omega, by omega⟩) dX13_takeWord_21 ?_
      refine lv_topi (fun z21 e_z21 => ?_)
      have hPc := hP.sub (ws' := []) [] rfl
      have hDc := hD.sub (ws' := []) [] (by decide) rfl
      have hKc := hK.sub (tys' := []) [] rfl
      have hFc := va_free (wc := []) hD hS hA [] rfl
      refine va_calli (va_runS (As := [.int z21]) (rest := []) ⟨hx, hb, hml, hown, hG⟩ (sX13_isDigit_0 l dC dI adK adV H.size z21) (va_cwS 1 hG (zgS zv1853 zv1854 zv142 zv1855) rfl rfl rfl (by decide +kernel) ⟨Nat.le_of_ble_eq_true rfl, Nat.le_of_ble_eq_true rfl⟩) ⟨zPc_blind, zPc_pre hPc hKc hDc hE hS hFc hZ⟩ rfl rfl hl.1 rfl (lv_room (Nat.le_of_ble_eq_true rfl)) dX13_takeWord_22 ⟨Nat.le_of_ble_eq_true rfl, Nat.le_of_ble_eq_true rfl⟩) hS (fun q _ h => hFc q h) hFc (fun r22_ u22_ t H1 locs ht hvm hw hB hz1 hk1 hS => ?_)
      replace hw : (0 ≤ r22_.toInt ∧ r22_.toInt ≤ 1) ∧ (r22_.toInt = 1 → 48 ≤ z21.toInt ∧ z21.toInt ≤ 57) ∧ (r22_.toInt = 0 → z21.toInt < 48 ∨ 57 < z21.toInt) := hw
      obtain ⟨b_, hX22_0, hX22_1⟩ := hw
      obtain ⟨w22_, a22_, b22_, hP1, hK1, hD1⟩ := hB
      rw [ht] at hP1
      obtain ⟨hP, hD⟩ := va_join (wr := [(h0, .inr (13, mX13 q0 (upd v0 20 (u3_ 0)))), ((q0 0), zi k1 600 f1), ((q0 19), zi k15 12 (a3_ 0))]) (w1 := []) hP hD [] [0, 1, 2] rfl rfl (by decide) (by decide) hk1 hFc hP1 hD1
      have hP : va_P (dC, dI) vwCl [(h0, .inr (13, mX13 q0 (upd v0 20 (u3_ 0)))), ((q0 0), zi k1 600 f1), ((q0 19), zi k15 12 (a3_ 0))] H1 := hP.sub [0, 1, 2] rfl
      have hD : va_D A [(h0, .inr (13, mX13 q0 (upd v0 20 (u3_ 0)))), ((q0 0), zi k1 600 f1), ((q0 19), zi k15 12 (a3_ 0))] := hD.sub [0, 1, 2] (by decide) rfl
      generalize H1 = H at hP hS ⊢
      clear hz1
      refine lv_if_eq (tgt := 29) hx hb dX13_takeWord_25 (by decide) (fun c_ => ?_) (fun c_ => ?_)
      · skip
        have b_ := zT_eq rfl zk_0 c_
        obtain ⟨z29, e_z29⟩ : ∃ z : Int32, z = (u8_ 0) + Int32.ofInt 1 := ⟨_, rfl⟩
        have b_ := zadd (x := (u8_ 0)) (y := Int32.ofInt 1) rfl (show (Int32.ofInt 1).toInt = 1 from by decide) e_z29 (by omega) (by omega)
        refine lv_iinc (v := z29) (lv' := [(3, .int z29), (0, .ref h0), (1, .int x1), (2, .int x2)]) hx hb dX13_takeWord_29 hl (k := 3) rfl e_z29.symm (by decide) rfl (fun ls hl => ?_)
        refine lv_goto (tgt := 8) hx hb dX13_takeWord_32 (by decide) ?_
        have hc : va_P (dC, dI) vwCl [(h0, .inr (13, mX13 q0 (upd v0 20 (u3_ 0)))), ((q0 0), zi k1 600 f1), ((q0 19), zi k15 12 (a3_ 0))] H ∧ va_D A [(h0, .inr (13, mX13 q0 (upd v0 20 (u3_ 0)))), ((q0 0), zi k1 600 f1), ((q0 19), zi k15 12 (a3_ 0))] ∧ va_S A s.heap H locs ∧ lv_has ls 4 [(0, .ref h0), (1, .int x1), (2, .int x2), (3, .int z29)] ∧ (0 ≤ z29.toInt ∧ z29.toInt ≤ 12) ∧ (x1.toInt ≤ x2.toInt → zAt f1 x1.toInt x2.toInt → zhd (fun k => ((a3_ 0) k).toInt) (z29.toInt).toNat = false) ∧ (z29.toInt ≤ (u3_ 0).toInt) := ⟨hP, hD, hS, lv_sub hl [1, 2, 3, 0] rfl, (by first | with_reducible assumption | exact ⟨by omega, by omega⟩), by first | exact fun _ _ => zhd_0 (by omega) | (intro pq_; exact zhd_m (hI8_0 pq_) hB3_0 e_z21 (by omega) (by omega) (by omega) (by omega) (by omega) (by omega)), by omega⟩
        exact hJ8 H locs ls (fun i => ([z29] : List (Int32)).getD i 0) (fun _ => 0) (fun _ => (fun _ => 0)) (fun _ => (fun _ => 0)) hc (show (12 - z29.toInt).toNat < (12 - (u8_ 0).toInt).toNat from by omega)
      · skip
        have b_ := zF_eq rfl zk_0 c_
        have hhd : zhd (fun k => ((a3_ 0) k).toInt) ((u3_ 0).toInt).toNat = true := by first | exact zhd_t e_z21 (by omega) (by omega) (by omega)
        refine W.widen (k := 0) (n := 0) (by decide) (by decide) ?_
        have hpost : (0 ≤ (u3_ 0).toInt ∧ (u3_ 0).toInt ≤ 12) := (by first | with_reducible assumption | exact ⟨by omega, by omega⟩)
        have hP9 : va_P (dC, dI) vwCl [(h0, .inr (13, mX13 q0 (upd v0 20 (u3_ 0)))), ((q0 0), zi k1 600 f1), ((q0 19), zi k15 12 (a3_ 0))] H := hP
        have hD9 : va_D A [(h0, .inr (13, mX13 q0 (upd v0 20 (u3_ 0)))), ((q0 0), zi k1 600 f1), ((q0 19), zi k15 12 (a3_ 0))] := hD
        have hB0 : zMw f1 x1.toInt x2.toInt (a3_ 0) (u3_ 0).toInt := by first | exact zMw_i hB3_0 (by omega) hX3_0 (fun _ _ => zsm1 hhd (by omega) (by omega)) (fun _ _ => zsl1 hhd) | exact zMw_i hB3_0 (by omega) hX3_0 (fun p_ a_ => zsm2 (hhd p_ a_) hie (by omega) (by omega)) (fun p_ a_ => by rw [e_f_71]; exact zsl2 (hhd p_ a_) hie (by omega) (by omega)) | exact zMw_i hB3_0 (by omega) hX3_0 (fun p_ a_ => zsm3 (hhd p_ a_) hie hin (by omega) (by omega)) (fun _ _ => zsl3 hie) | exact zMw_i hB3_0 (by omega) hX3_0 (fun p_ a_ => zsm4 (hhd p_ a_) hie hin hed (by omega) (by omega)) (fun _ _ => zsl3 hie) | exact zMw_i hB3_0 (by omega) hX3_0 (fun p_ a_ => zsm5 (hhd p_ a_) hie hin hed hes (by omega) (by omega)) (fun _ _ => zsl3 hie) | exact zMw_i hB3_0 (by omega) hX3_0 (fun p_ a_ => zsm6 (hhd p_ a_) hie hin hed hes (by omega) (by omega)) (fun _ _ => zsl3 hie)
        exact W.vret hx hb hr (fun t ht hW => ⟨⟨(fun i => ([(u3_ 0)] : List (Int32)).getD i 0), rfl, hpost, (fun _ => 0), (fun i => ([(a3_ 0)] : List (Nat → Int32)).getD i (fun _ => 0)), (fun _ => (fun _ => 0)), hB0, by rw [ht]; exact hP9, va_K.moved hW.alike hK, hD9⟩, hS.F ht⟩) hS.2.2 dX13_takeWord_28
  · skip
    have hc : va_P (dC, dI) vwCl [(h0, .inr (13, mX13 q0 (upd v0 20 (u3_ 0)))), ((q0 0), zi k1 600 f1), ((q0 19), zi k15 12 (a3_ 0))] H ∧ va_D A [(h0, .inr (13, mX13 q0 (upd v0 20 (u3_ 0)))), ((q0 0), zi k1 600 f1), ((q0 19), zi k15 12 (a3_ 0))] ∧ va_S A s.heap H locs ∧ lv_has ls 4 [(0, .ref h0), (1, .int x1), (2, .int x2), (3, .int 0)] ∧ (0 ≤ (0 : Int32).toInt ∧ (0 : Int32).toInt ≤ 12) ∧ (x1.toInt ≤ x2.toInt → zAt f1 x1.toInt x2.toInt → zhd (fun k => ((a3_ 0) k).toInt) ((0 : Int32).toInt).toNat = false) ∧ ((0 : Int32).toInt ≤ (u3_ 0).toInt) := ⟨hP, hD, hS, lv_sub hl [1, 2, 3, 0] rfl, (by first | with_reducible assumption | exact ⟨by omega, by omega⟩), by first | exact fun _ _ => zhd_0 (by omega) | (intro pq_; exact zhd_m (hI8_0 pq_) hB3_0 e_z21 (by omega) (by omega) (by omega) (by omega) (by omega) (by omega)), by omega⟩
    exact hJ8 H locs ls (fun i => ([0] : List (Int32)).getD i 0) (fun _ => 0) (fun _ => (fun _ => 0)) (fun _ => (fun _ => 0)) hc
set_option maxHeartbeats 8000000 in
set_option maxRecDepth 100000 in
theorem sX13_takesToken_0 (l : Launch) (dC : Nat → ClassId) (dI : Nat → Nat → Nat) (adK adV : Nat → Nat) (h0 : Nat) (q0 : Nat → Nat) (k1 : ClassId) (k15 : ClassId) (sz : Nat) (v0 : Nat → Int32) (f1 : Nat → Int32) (f15 : Nat → Int32) (hv0 : zR rg_Model v0) : Met l yX13_takesToken (zw yX13_takesToken cX13_takesToken 3 (some .boolean)) { frames := 4, cells := 0, slots := 0, locals := 86 } (zPc dC dI adK adV [.ref h0] sz [(h0, .inr (13, mX13 q0 v0)), ((q0 0), zi k1 600 f1), ((q0 19), zi k15 12 f15)] [(k1, .byte), (k15, .byte)]) (va_Qi (fun (r : Int32) (u : Nat → Int32) => (0 ≤ r.toInt ∧ r.toInt ≤ 1) ∧ (0 ≤ (u 0).toInt ∧ (u 0).toInt ≤ 0) ∧ (0 ≤ (u 1).toInt ∧ (u 1).toInt ≤ 12) ∧ (r.toInt = 0 → ∀ i : Int, ¬ zIn f1 (v0 1).toInt i) ∧ (r.toInt = (u 2).toInt)) (fun (u : Nat → Int32) (t : State) => ∃ (ww : Nat → Int64) (aa : Nat → Nat → Int32) (bb : Nat → Nat → Int64), ((u 2).toInt = 1 → zTw f1 (v0 1).toInt (aa 0) (u 1).toInt) ∧ va_P (dC, dI) vwCl [(h0, .inr (13, mX13 q0 (upd (upd v0 1 (u 0)) 20 (u 1)))), ((q0 0), zi k1 600 f1), ((q0 19), zi k15 12 (aa 0))] t.heap ∧ va_K (dC, dI) vwCl [(k1, .byte), (k15, .byte)] t ∧ va_D (va_A [(h0, .inr (13, mX13 q0 v0)), ((q0 0), zi k1 600 f1), ((q0 19), zi k15 12 f15)] sz) [(h0, .inr (13, mX13 q0 (upd (upd v0 1 (u 0)) 20 (u 1)))), ((q0 0), zi k1 600 f1), ((q0 19), zi k15 12 (aa 0))]) (va_A [(h0, .inr (13, mX13 q0 v0)), ((q0 0), zi k1 600 f1), ((q0 19), zi k15 12 f15)] sz)) 0 0 (va_A [(h0, .inr (13, mX13 q0 v0)), ((q0 0), zi k1 600 f1), ((q0 19), zi k15 12 f15)] sz) := by
  refine Met.ofW (cc := cX13_takesToken) (maxL := 3) (ret := (some .boolean)) (by decide) rfl ?_
  intro p e s m args below meth c s₁ B hml hv
  obtain ⟨rfl, hsz, hP, hK, hD0, hE, hZ⟩ := hv
  have hx := B.exec
  have hb := B.bytes
  have hr := B.returns
  have hG : ∀ w ∈ zG, w.before _ s = true := fun w h => atoms_spec (ws := (zw yX13_takesToken cX13_takesToken 3 (some .boolean))) B.pre w (List.mem_cons_of_mem _ h)
  have hown : s.vm.findClass RX13 = some m.cls := findClass_of_methodNamed B.named
  have hlocks := B.notSynchronized

  subst hsz
  have hD := hD0.self (sz := s.heap.size)
  generalize hAe : va_A [(h0, .inr (13, mX13 q0 v0)), ((q0 0), zi k1 600 f1), ((q0 19), zi k15 12 f15)] s.heap.size = A at hD hZ ⊢
  have hA : ∀ q : Nat, s.heap.size ≤ q → A q := fun q h => by rw [← hAe]; exact Or.inr h
  have hS : va_S A s.heap s.heap [] := va_S.rf
  have hl := lv_entry ([.ref h0]) (n := 3) (Nat.le_of_ble_eq_true rfl)
  rw [lg_entry_eq]
  generalize (lg_sl ([.ref h0]) ++ List.replicate (3 - (lg_sl ([.ref h0])).length) Slot.unset).toArray = ls at hl ⊢
  have hl : lv_has ls 3 [(0, .ref h0)] := hl
  have b_ := zk_0
  have b_ := zk_1
  have b_ : 0 ≤ (v0 1).toInt ∧ (v0 1).toInt ≤ 600 := hv0 1
  refine lv_aload_n hx hb dX13_takesToken_0 rfl (lv_at hl 0 rfl) ?_
  refine va_get (D := (dC, dI)) (ci := 13) (v := .int (v0 1)) (C := RX13) (T := TX13) (N := 75) hx hb hG zuX13 hown hK hP 0 rfl rfl 1 (by decide) (hG _ zv1605) (fun _ h9 => h9) rfl dX13_takesToken_1 ?_
  refine lv_istore_n (lv' := [(1, .int (v0 1)), (0, .ref h0)]) hx hb dX13_takesToken_4 rfl hl (by decide) rfl (fun ls hl => ?_)
  refine lv_aload_n hx hb dX13_takesToken_5 rfl (lv_at hl 1 rfl) ?_
  refine lv_iconst (v := 0) hx hb dX13_takesToken_6 (by decide) ?_
  refine va_put (D := (dC, dI)) (ci := 13) (v := .int 0) (ty := .int) (C := RX13) (T := TX13) (N := 75) hx hb hG zuX13 tyX13 tyX13_ok nmX13 hown hK hP hD hS 0 rfl rfl 1 (by decide) (hG _ zv1605) (fun _ h9 => h9) rfl (by decide +kernel) rfl rfl (Nat.le_of_ble_eq_true rfl) dX13_takesToken_7 (fun H locs hP hD hS => ?_)
  have hP : va_P (dC, dI) vwCl [(h0, .inr (13, mX13 q0 (upd v0 1 0))), ((q0 0), zi k1 600 f1), ((q0 19), zi k15 12 f15)] H := hP
  have hD : va_D A [(h0, .inr (13, mX13 q0 (upd v0 1 0))), ((q0 0), zi k1 600 f1), ((q0 19), zi k15 12 f15)] := hD
  refine lv_aload_n hx hb dX13_takesToken_10 rfl (lv_at hl 1 rfl) ?_
  refine lv_iconst (v := 0) hx hb dX13_takesToken_11 (by decide) ?_
  refine lv_iload_n hx hb dX13_takesToken_12 rfl (lv_at hl 0 rfl) ?_
  have hPc := hP.sub (ws' := [(h0, .inr (13, mX13 q0 (upd v0 1 0))), ((q0 0), zi k1 600 f1)]) [0, 1] rfl
  have hDc := hD.sub (ws' := [(h0, .inr (13, mX13 q0 (upd v0 1 0))), ((q0 0), zi k1 600 f1)]) [0, 1] (by decide) rfl
  have hKc := hK.sub (tys' := [(k1, .byte)]) [0] rfl
  have hFc := va_free (wc := [(h0, .inr (13, mX13 q0 (upd v0 1 0))), ((q0 0), zi k1 600 f1)]) hD hS hA [0, 1] rfl
  refine va_calli (va_runV (As := [.int 0, .int (v0 1)]) (rest := []) ⟨hx, hb, hml, hown, hG⟩ (sX13_runFrom_0 l dC dI adK adV h0 q0 k1 H.size (upd v0 1 0) f1 0 (v0 1) (zR_upd hv0 1 (show (0 : Int) ≤ (0 : Int32).toInt from by decide) (show (0 : Int32).toInt ≤ (600 : Int) from by decide)) ⟨show (0 : Int) ≤ (0 : Int32).toInt from by decide, show (0 : Int32).toInt ≤ (600 : Int) from by decide⟩ (show (0 : Int) ≤ ((v0 1) : Int32).toInt ∧ ((v0 1) : Int32).toInt ≤ (600 : Int) from (by first | with_reducible assumption | exact ⟨by omega, by omega⟩))) (cwV 2 hG (zgV zv1955 zv1957 zv67 zv142 zv1958) rfl rfl rfl (by decide +kernel) ⟨Nat.le_of_ble_eq_true rfl, Nat.le_of_ble_eq_true rfl⟩) ⟨zPc_blind, va_recv hKc hPc (ci := 13) (q0 := 0) rfl rfl, zPc_pre hPc hKc hDc hE hS hFc hZ⟩ rfl rfl hl.1 rfl (lv_room (Nat.le_of_ble_eq_true rfl)) dX13_takesToken_13 ⟨Nat.le_of_ble_eq_true rfl, Nat.le_of_ble_eq_true rfl⟩) hS (fun q _ h => hFc q h) hFc (fun r13_ u13_ t H1 locs ht hvm hw hB hz1 hk1 hS => ?_)
  replace hw : (0 ≤ r13_.toInt ∧ r13_.toInt ≤ 600) ∧ ((0 : Int32).toInt ≤ r13_.toInt) ∧ (r13_.toInt ≤ (v0 1).toInt ∨ r13_.toInt = (0 : Int32).toInt) ∧ (zNt f1 (0 : Int32).toInt r13_.toInt) ∧ (r13_.toInt < (v0 1).toInt → zTok (f1 ((r13_ : Int32)).toNatClampNeg).toInt) := hw
  obtain ⟨b_, hX13_0, hX13_1, hX13_2, hX13_3⟩ := hw
  obtain ⟨w13_, a13_, b13_, hP1, hK1, hD1⟩ := hB
  rw [ht] at hP1
  obtain ⟨hP, hD⟩ := va_join (wr := [((q0 19), zi k15 12 f15)]) (w1 := [(h0, .inr (13, mX13 q0 (upd v0 1 0))), ((q0 0), zi k1 600 f1)]) hP hD [0, 1] [2] rfl rfl (by decide) (by decide) hk1 hFc hP1 hD1
  have hP : va_P (dC, dI) vwCl [(h0, .inr (13, mX13 q0 (upd v0 1 0))), ((q0 0), zi k1 600 f1), ((q0 19), zi k15 12 f15)] H1 := hP.sub [1, 2, 0] rfl
  have hD : va_D A [(h0, .inr (13, mX13 q0 (upd v0 1 0))), ((q0 0), zi k1 600 f1), ((q0 19), zi k15 12 f15)] := hD.sub [1, 2, 0] (by decide) rfl
  generalize H1 = H at hP hS ⊢
  clear hz1
  refine lv_istore_n (lv' := [(2, .int r13_), (1, .int (v0 1)), (0, .ref h0)]) hx hb dX13_takesToken_16 rfl hl (by decide) rfl (fun ls hl => ?_)
  refine lv_iload_n hx hb dX13_takesToken_17 rfl (lv_at hl 0 rfl) ?_
  refine lv_iload_n hx hb dX13_takesToken_18 rfl (lv_at hl 1 rfl) ?_
  refine lv_icmp_ne (tgt := 24) hx hb dX13_takesToken_19 (by decide) (fun c_ => ?_) (fun c_ => ?_)
  · skip
    have b_ := zT_ne rfl rfl c_
    refine lv_aload_n hx hb dX13_takesToken_24 rfl (lv_at hl 2 rfl) ?_
    refine lv_iload_n hx hb dX13_takesToken_25 rfl (lv_at hl 0 rfl) ?_
    refine lv_aload_n hx hb dX13_takesToken_26 rfl (lv_at hl 2 rfl) ?_
    refine lv_iload_n hx hb dX13_takesToken_27 rfl (lv_at hl 0 rfl) ?_
    refine lv_iload_n hx hb dX13_takesToken_28 rfl (lv_at hl 1 rfl) ?_
    have hPc := hP.sub (ws' := [(h0, .inr (13, mX13 q0 (upd v0 1 0))), ((q0 0), zi k1 600 f1)]) [0, 1] rfl
    have hDc := hD.sub (ws' := [(h0, .inr (13, mX13 q0 (upd v0 1 0))), ((q0 0), zi k1 600 f1)]) [0, 1] (by decide) rfl
    have hKc := hK.sub (tys' := [(k1, .byte)]) [0] rfl
    have hFc := va_free (wc := [(h0, .inr (13, mX13 q0 (upd v0 1 0))), ((q0 0), zi k1 600 f1)]) hD hS hA [0, 1] rfl
    refine va_calli (va_runV (As := [.int r13_, .int (v0 1)]) (rest := [.int r13_, .ref h0]) ⟨hx, hb, hml, hown, hG⟩ (sX13_runEnd_0 l dC dI adK adV h0 q0 k1 H.size (upd v0 1 0) f1 r13_ (v0 1) (zR_upd hv0 1 (show (0 : Int) ≤ (0 : Int32).toInt from by decide) (show (0 : Int32).toInt ≤ (600 : Int) from by decide)) (show (0 : Int) ≤ (r13_ : Int32).toInt ∧ (r13_ : Int32).toInt ≤ (600 : Int) from (by first | with_reducible assumption | exact ⟨by omega, by omega⟩)) (show (0 : Int) ≤ ((v0 1) : Int32).toInt ∧ ((v0 1) : Int32).toInt ≤ (600 : Int) from (by first | with_reducible assumption | exact ⟨by omega, by omega⟩))) (cwV 2 hG (zgV zv1862 zv1864 zv51 zv142 zv1865) rfl rfl rfl (by decide +kernel) ⟨Nat.le_of_ble_eq_true rfl, Nat.le_of_ble_eq_true rfl⟩) ⟨zPc_blind, va_recv hKc hPc (ci := 13) (q0 := 0) rfl rfl, zPc_pre hPc hKc hDc hE hS hFc hZ⟩ rfl rfl hl.1 rfl (lv_room (Nat.le_of_ble_eq_true rfl)) dX13_takesToken_29 ⟨Nat.le_of_ble_eq_true rfl, Nat.le_of_ble_eq_true rfl⟩) hS (fun q _ h => hFc q h) hFc (fun r29_ u29_ t H1 locs ht hvm hw hB hz1 hk1 hS => ?_)
    replace hw : (0 ≤ r29_.toInt ∧ r29_.toInt ≤ 600) ∧ (r13_.toInt ≤ r29_.toInt) ∧ (r29_.toInt ≤ (v0 1).toInt ∨ r29_.toInt = r13_.toInt) ∧ (r29_.toInt ≤ 600) ∧ (r29_.toInt < (v0 1).toInt → ¬ zTok (f1 ((r29_ : Int32)).toNatClampNeg).toInt) ∧ (r13_.toInt < (v0 1).toInt → zTok (f1 ((r13_ : Int32)).toNatClampNeg).toInt → r13_.toInt < r29_.toInt) ∧ (zAt f1 r13_.toInt r29_.toInt) := hw
    obtain ⟨b_, hX29_0, hX29_1, hX29_2, hX29_3, hX29_4, hX29_5⟩ := hw
    obtain ⟨w29_, a29_, b29_, hP1, hK1, hD1⟩ := hB
    rw [ht] at hP1
    obtain ⟨hP, hD⟩ := va_join (wr := [((q0 19), zi k15 12 f15)]) (w1 := [(h0, .inr (13, mX13 q0 (upd v0 1 0))), ((q0 0), zi k1 600 f1)]) hP hD [0, 1] [2] rfl rfl (by decide) (by decide) hk1 hFc hP1 hD1
    have hP : va_P (dC, dI) vwCl [(h0, .inr (13, mX13 q0 (upd v0 1 0))), ((q0 0), zi k1 600 f1), ((q0 19), zi k15 12 f15)] H1 := hP.sub [1, 2, 0] rfl
    have hD : va_D A [(h0, .inr (13, mX13 q0 (upd v0 1 0))), ((q0 0), zi k1 600 f1), ((q0 19), zi k15 12 f15)] := hD.sub [1, 2, 0] (by decide) rfl
    generalize H1 = H at hP hS ⊢
    clear hz1
    have hPc := hP.sub (ws' := [(h0, .inr (13, mX13 q0 (upd v0 1 0))), ((q0 0), zi k1 600 f1), ((q0 19), zi k15 12 f15)]) [0, 1, 2] rfl
    have hDc := hD.sub (ws' := [(h0, .inr (13, mX13 q0 (upd v0 1 0))), ((q0 0), zi k1 600 f1), ((q0 19), zi k15 12 f15)]) [0, 1, 2] (by decide) rfl
    have hKc := hK.sub (tys' := [(k1, .byte), (k15, .byte)]) [0, 1] rfl
    have hFc := va_free (wc := [(h0, .inr (13, mX13 q0 (upd v0 1 0))), ((q0 0), zi k1 600 f1), ((q0 19), zi k15 12 f15)]) hD hS hA [0, 1, 2] rfl
    refine va_callv (va_runV (As := [.int r13_, .int r29_]) (rest := []) ⟨hx, hb, hml, hown, hG⟩ (sX13_takeWord_0 l dC dI adK adV h0 q0 k1 k15 H.size (upd v0 1 0) f1 f15 r13_ r29_ (zR_upd hv0 1 (show (0 : Int) ≤ (0 : Int32).toInt from by decide) (show (0 : Int32).toInt ≤ (600 : Int) from by decide)) (show (0 : Int) ≤ (r13_ : Int32).toInt ∧ (r13_ : Int32).toInt ≤ (600 : Int) from (by first | with_reducible assumption | exact ⟨by omega, by omega⟩)) (show (0 : Int) ≤ (r29_ : Int32).toInt ∧ (r29_ : Int32).toInt ≤ (600 : Int) from (by first | with_reducible assumption | exact ⟨by omega, by omega⟩))) (cwV 2 hG (zgV zv1866 zv1868 zv52 zv142 zv1869) rfl rfl rfl (by decide +kernel) ⟨Nat.le_of_ble_eq_true rfl, Nat.le_of_ble_eq_true rfl⟩) ⟨zPc_blind, va_recv hKc hPc (ci := 13) (q0 := 0) rfl rfl, zPc_pre hPc hKc hDc hE hS hFc hZ⟩ rfl rfl hl.1 rfl (lv_room (Nat.le_of_ble_eq_true rfl)) dX13_takesToken_32 ⟨Nat.le_of_ble_eq_true rfl, Nat.le_of_ble_eq_true rfl⟩) hS (fun q _ h => hFc q h) hFc (fun u32_ t H1 locs ht hvm hw hB hz1 hk1 hS => ?_)
    replace hw : (0 ≤ (u32_ 0).toInt ∧ (u32_ 0).toInt ≤ 12) := hw
    have b_ := hw
    obtain ⟨w32_, a32_, b32_, hB32_0, hP1, hK1, hD1⟩ := hB
    have hB32_0 : zMw f1 r13_.toInt r29_.toInt (a32_ 0) (u32_ 0).toInt := hB32_0
    rw [ht] at hP1
    obtain ⟨hP, hD⟩ := va_join (wr := []) (w1 := [(h0, .inr (13, mX13 q0 (upd (upd v0 1 0) 20 (u32_ 0)))), ((q0 0), zi k1 600 f1), ((q0 19), zi k15 12 (a32_ 0))]) hP hD [0, 1, 2] [] rfl rfl (by decide) (by decide) hk1 hFc hP1 hD1
    have hP : va_P (dC, dI) vwCl [(h0, .inr (13, mX13 q0 (upd (upd v0 1 0) 20 (u32_ 0)))), ((q0 0), zi k1 600 f1), ((q0 19), zi k15 12 (a32_ 0))] H1 := hP.sub [0, 1, 2] rfl
    have hD : va_D A [(h0, .inr (13, mX13 q0 (upd (upd v0 1 0) 20 (u32_ 0)))), ((q0 0), zi k1 600 f1), ((q0 19), zi k15 12 (a32_ 0))] := hD.sub [0, 1, 2] (by decide) rfl
    generalize H1 = H at hP hS ⊢
    clear hz1
    refine lv_iconst (v := 1) hx hb dX13_takesToken_35 (by decide) ?_
    refine W.widen (k := 0) (n := 0) (by decide) (by decide) ?_
    have hpost : (0 ≤ (1 : Int32).toInt ∧ (1 : Int32).toInt ≤ 1) ∧ (0 ≤ (0 : Int32).toInt ∧ (0 : Int32).toInt ≤ 0) ∧ (0 ≤ (u32_ 0).toInt ∧ (u32_ 0).toInt ≤ 12) ∧ ((1 : Int32).toInt = 0 → ∀ i : Int, ¬ zIn f1 (v0 1).toInt i) ∧ ((1 : Int32).toInt = (1 : Int32).toInt) := ⟨(by first | with_reducible assumption | exact ⟨by omega, by omega⟩), (by first | with_reducible assumption | exact ⟨by omega, by omega⟩), (by first | with_reducible assumption | exact ⟨by omega, by omega⟩), by first | (intro q; exact absurd q (by decide)) | exact fun _ => zNo_i hX13_2 (by first | decide | omega) (by omega), rfl⟩
    have hP9 : va_P (dC, dI) vwCl [(h0, .inr (13, mX13 q0 (upd (upd v0 1 0) 20 (u32_ 0)))), ((q0 0), zi k1 600 f1), ((q0 19), zi k15 12 (a32_ 0))] H := hP
    have hD9 : va_D A [(h0, .inr (13, mX13 q0 (upd (upd v0 1 0) 20 (u32_ 0)))), ((q0 0), zi k1 600 f1), ((q0 19), zi k15 12 (a32_ 0))] := hD
    have hB0 : (1 : Int32).toInt = 1 → zTw f1 (v0 1).toInt (a32_ 0) (u32_ 0).toInt := by first | (intro q; exact absurd q (by decide)) | exact fun _ => zTw_i hX13_2 (by first | decide | omega) hX13_3 (by omega) (by omega) (by omega) (by omega) hX29_5 hX29_3 hB32_0
    exact W.zret (v := 1) hx hb hr rfl (fun t ht hW => ⟨⟨1, (fun i => ([0, (u32_ 0), 1] : List (Int32)).getD i 0), rfl, hpost, (fun _ => 0), (fun i => ([(a32_ 0)] : List (Nat → Int32)).getD i (fun _ => 0)), (fun _ => (fun _ => 0)), hB0, by rw [ht]; exact hP9, va_K.moved hW.alike hK, hD9⟩, hS.F ht⟩) hS.2.2 dX13_takesToken_36
  · skip
    have b_ := zF_ne rfl rfl c_
    refine lv_iconst (v := 0) hx hb dX13_takesToken_22 (by decide) ?_
    refine W.widen (k := 0) (n := 0) (by decide) (by decide) ?_
    have b_ : 0 ≤ (v0 20).toInt ∧ (v0 20).toInt ≤ 12 := hv0 20
    have hpost : (0 ≤ (0 : Int32).toInt ∧ (0 : Int32).toInt ≤ 1) ∧ (0 ≤ (0 : Int32).toInt ∧ (0 : Int32).toInt ≤ 0) ∧ (0 ≤ (v0 20).toInt ∧ (v0 20).toInt ≤ 12) ∧ ((0 : Int32).toInt = 0 → ∀ i : Int, ¬ zIn f1 (v0 1).toInt i) ∧ ((0 : Int32).toInt = (0 : Int32).toInt) := ⟨(by first | with_reducible assumption | exact ⟨by omega, by omega⟩), (by first | with_reducible assumption | exact ⟨by omega, by omega⟩), (by first | with_reducible assumption | exact ⟨by omega, by omega⟩), by first | (intro q; exact absurd q (by decide)) | exact fun _ => zNo_i hX13_2 (by first | decide | omega) (by omega), rfl⟩
    have hP9 : va_P (dC, dI) vwCl [(h0, .inr (13, mX13 q0 (upd (upd v0 1 0) 20 (v0 20)))), ((q0 0), zi k1 600 f1), ((q0 19), zi k15 12 f15)] H := hP
    have hD9 : va_D A [(h0, .inr (13, mX13 q0 (upd (upd v0 1 0) 20 (v0 20)))), ((q0 0), zi k1 600 f1), ((q0 19), zi k15 12 f15)] := hD
    have hB0 : (0 : Int32).toInt = 1 → zTw f1 (v0 1).toInt f15 (v0 20).toInt := by first | (intro q; exact absurd q (by decide)) | exact fun _ => zTw_i hX13_2 (by first | decide | omega) hX13_3 (by omega) (by omega) (by omega) (by omega) hX29_5 hX29_3 hB32_0
    exact W.zret (v := 0) hx hb hr rfl (fun t ht hW => ⟨⟨0, (fun i => ([0, (v0 20), 0] : List (Int32)).getD i 0), rfl, hpost, (fun _ => 0), (fun i => ([f15] : List (Nat → Int32)).getD i (fun _ => 0)), (fun _ => (fun _ => 0)), hB0, by rw [ht]; exact hP9, va_K.moved hW.alike hK, hD9⟩, hS.F ht⟩) hS.2.2 dX13_takesToken_23
