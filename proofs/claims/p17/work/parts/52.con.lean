set_option maxHeartbeats 8000000 in
set_option maxRecDepth 100000 in
theorem sX11_hit_0 (l : Launch) (hl0 : l.stackTraces = false) (dC : Nat → ClassId) (dI : Nat → Nat → Nat) (adK adV : Nat → Nat) (h0 : Nat) (h49 : Nat) (h62 : Nat) (h1 : Nat) (h4 : Nat) (h11 : Nat) (h18 : Nat) (h23 : Nat) (h32 : Nat) (h33 : Nat) (h40 : Nat) (h48 : Nat) (h50 : Nat) (h56 : Nat) (h57 : Nat) (h59 : Nat) (h60 : Nat) (h61 : Nat) (h63 : Nat) (h64 : Nat) (h65 : Nat) (h66 : Nat) (h67 : Nat) (h68 : Nat) (k62 : ClassId) (sz : Nat) (sp0 : Value) (lw0 : Int64) (v49 : Nat → Int32) (f62 : Nat → Int32) (x1 : Int32) (hv49 : zR rg_Finder v49) (hf62 : zA 0 119 f62) : vx_Met l yX11_hit (zw yX11_hit cX11_hit 2 (some .int)) { frames := 8, cells := 1, slots := 6, locals := 120 } (zPc dC dI adK adV [.ref h0, .int x1] sz [(h0, .inr (11, mX11 h1 h4 h11 h18 h23 h32 h33 h40 h48 h49 sp0 lw0)), (h49, .inr (1, mX1 h18 h4 h40 h50 h56 h57 h59 h60 h61 h62 h63 h64 h65 h66 h67 h68 v49)), (h62, zi k62 120 f62)] [(k62, .int)]) (va_Qi (fun (r : Int32) (u : Nat → Int32) => ((-1) ≤ r.toInt ∧ r.toInt ≤ 119) ∧ (0 ≤ x1.toInt) ∧ (r.toInt = zNm f62 (v49 16).toInt x1.toInt)) (fun (u : Nat → Int32) (t : State) => ∃ (ww : Nat → Int64) (aa : Nat → Nat → Int32) (bb : Nat → Nat → Int64), va_P (dC, dI) vwCl [(h0, .inr (11, mX11 h1 h4 h11 h18 h23 h32 h33 h40 h48 h49 sp0 lw0)), (h49, .inr (1, mX1 h18 h4 h40 h50 h56 h57 h59 h60 h61 h62 h63 h64 h65 h66 h67 h68 v49)), (h62, zi k62 120 f62)] t.heap ∧ va_K (dC, dI) vwCl [(k62, .int)] t ∧ va_D (va_A [(h0, .inr (11, mX11 h1 h4 h11 h18 h23 h32 h33 h40 h48 h49 sp0 lw0)), (h49, .inr (1, mX1 h18 h4 h40 h50 h56 h57 h59 h60 h61 h62 h63 h64 h65 h66 h67 h68 v49)), (h62, zi k62 120 f62)] sz) [(h0, .inr (11, mX11 h1 h4 h11 h18 h23 h32 h33 h40 h48 h49 sp0 lw0)), (h49, .inr (1, mX1 h18 h4 h40 h50 h56 h57 h59 h60 h61 h62 h63 h64 h65 h66 h67 h68 v49)), (h62, zi k62 120 f62)]) (va_A [(h0, .inr (11, mX11 h1 h4 h11 h18 h23 h32 h33 h40 h48 h49 sp0 lw0)), (h49, .inr (1, mX1 h18 h4 h40 h50 h56 h57 h59 h60 h61 h62 h63 h64 h65 h66 h67 h68 v49)), (h62, zi k62 120 f62)] sz)) (vx_X (fun (u : Nat → Int32) => (x1.toInt < 0)) (fun (E : String) (u : Nat → Int32) (t : State) => E = "java/lang/IndexOutOfBoundsException" ∧ ∃ (ww : Nat → Int64) (aa : Nat → Nat → Int32) (bb : Nat → Nat → Int64), va_P (dC, dI) vwCl [(h0, .inr (11, mX11 h1 h4 h11 h18 h23 h32 h33 h40 h48 h49 sp0 lw0)), (h49, .inr (1, mX1 h18 h4 h40 h50 h56 h57 h59 h60 h61 h62 h63 h64 h65 h66 h67 h68 v49)), (h62, zi k62 120 f62)] t.heap ∧ va_K (dC, dI) vwCl [(k62, .int)] t ∧ va_D (va_A [(h0, .inr (11, mX11 h1 h4 h11 h18 h23 h32 h33 h40 h48 h49 sp0 lw0)), (h49, .inr (1, mX1 h18 h4 h40 h50 h56 h57 h59 h60 h61 h62 h63 h64 h65 h66 h67 h68 v49)), (h62, zi k62 120 f62)] sz) [(h0, .inr (11, mX11 h1 h4 h11 h18 h23 h32 h33 h40 h48 h49 sp0 lw0)), (h49, .inr (1, mX1 h18 h4 h40 h50 h56 h57 h59 h60 h61 h62 h63 h64 h65 h66 h67 h68 v49)), (h62, zi k62 120 f62)]) (va_A [(h0, .inr (11, mX11 h1 h4 h11 h18 h23 h32 h33 h40 h48 h49 sp0 lw0)), (h49, .inr (1, mX1 h18 h4 h40 h50 h56 h57 h59 h60 h61 h62 h63 h64 h65 h66 h67 h68 v49)), (h62, zi k62 120 f62)] sz)) 1 6 (va_A [(h0, .inr (11, mX11 h1 h4 h11 h18 h23 h32 h33 h40 h48 h49 sp0 lw0)), (h49, .inr (1, mX1 h18 h4 h40 h50 h56 h57 h59 h60 h61 h62 h63 h64 h65 h66 h67 h68 v49)), (h62, zi k62 120 f62)] sz) := by
  refine vx_ofW (cc := cX11_hit) (maxL := 2) (ret := (some .int)) (by decide) rfl ?_
  intro p e s m args below meth c s₁ B hml hout hv
  obtain ⟨rfl, hsz, hP, hK, hD0, hE, hZ⟩ := hv
  have hx := B.exec
  have hb := B.bytes
  have hr := B.returns
  have hG : ∀ w ∈ zG, w.before _ s = true := fun w h => atoms_spec (ws := (zw yX11_hit cX11_hit 2 (some .int))) B.pre w (List.mem_cons_of_mem _ h)
  have hown : s.vm.findClass RX11 = some m.cls := findClass_of_methodNamed B.named
  have hlocks := B.notSynchronized

  subst hsz
  have hD := hD0.self (sz := s.heap.size)
  generalize hAe : va_A [(h0, .inr (11, mX11 h1 h4 h11 h18 h23 h32 h33 h40 h48 h49 sp0 lw0)), (h49, .inr (1, mX1 h18 h4 h40 h50 h56 h57 h59 h60 h61 h62 h63 h64 h65 h66 h67 h68 v49)), (h62, zi k62 120 f62)] s.heap.size = A at hD hZ ⊢
  have hA : ∀ q : Nat, s.heap.size ≤ q → A q := fun q h => by rw [← hAe]; exact Or.inr h
  have hS : va_S A s.heap s.heap [] := va_S.rf
  have hl := lv_entry ([.ref h0, .int x1]) (n := 2) (Nat.le_of_ble_eq_true rfl)
  rw [lg_entry_eq]
  generalize (lg_sl ([.ref h0, .int x1]) ++ List.replicate (2 - (lg_sl ([.ref h0, .int x1])).length) Slot.unset).toArray = ls at hl ⊢
  have hl : lv_has ls 2 [(0, .ref h0), (1, .int x1)] := hl
  have b_ : 0 ≤ (v49 16).toInt ∧ (v49 16).toInt ≤ 120 := hv49 16
  refine lv_iload_n hx hb dX11_hit_0 rfl (lv_at hl 1 rfl) ?_
  have b_ : -2147483648 ≤ x1.toInt ∧ x1.toInt ≤ 2147483647 := ⟨zlo _, zhi _⟩
  refine lv_if_ge (tgt := 14) hx hb dX11_hit_1 (by decide) (fun c_ => ?_) (fun c_ => ?_)
  · skip
    have b_ := zT_ge rfl zk_0 c_
    refine lv_aload_n hx hb dX11_hit_14 rfl (lv_at hl 0 rfl) ?_
    refine va_get (D := (dC, dI)) (ci := 11) (v := .ref h49) (C := RX11) (T := TX11) (N := 12) hx hb hG zuX11 hown hK hP 0 rfl rfl 9 (by decide) (hG _ zv566) (fun _ h9 => h9) rfl dX11_hit_15 ?_
    refine lv_iload_n hx hb dX11_hit_18 rfl (lv_at hl 1 rfl) ?_
    have hPc := hP.sub (ws' := [(h49, .inr (1, mX1 h18 h4 h40 h50 h56 h57 h59 h60 h61 h62 h63 h64 h65 h66 h67 h68 v49)), (h62, zi k62 120 f62)]) [1, 2] rfl
    have hDc := hD.sub (ws' := [(h49, .inr (1, mX1 h18 h4 h40 h50 h56 h57 h59 h60 h61 h62 h63 h64 h65 h66 h67 h68 v49)), (h62, zi k62 120 f62)]) [1, 2] (by decide) rfl
    have hKc := hK.sub (tys' := [(k62, .int)]) [0] rfl
    have hFc := va_free (wc := [(h49, .inr (1, mX1 h18 h4 h40 h50 h56 h57 h59 h60 h61 h62 h63 h64 h65 h66 h67 h68 v49)), (h62, zi k62 120 f62)]) hD hS hA [1, 2] rfl
    refine va_calli (va_runV (As := [.int x1]) (rest := []) ⟨hx, hb, hml, hown, hG⟩ (sX1_numberAt_0 l dC dI adK adV h49 h62 h18 h4 h40 h50 h56 h57 h59 h60 h61 h63 h64 h65 h66 h67 h68 k62 s.heap.size v49 f62 x1 hv49 hf62) (cwV 1 hG (zgV zv1518 zv1519 zv1520 zv138 zv1521) rfl rfl rfl (by decide +kernel) ⟨Nat.le_of_ble_eq_true rfl, Nat.le_of_ble_eq_true rfl⟩) ⟨zPc_blind, va_recv hKc hPc (ci := 1) (q0 := 0) rfl rfl, zPc_pre hPc hKc hDc hE hS hFc hZ⟩ rfl rfl hl.1 rfl (lv_room (Nat.le_of_ble_eq_true rfl)) dX11_hit_19 ⟨Nat.le_of_ble_eq_true rfl, Nat.le_of_ble_eq_true rfl⟩) hS (fun q _ h => hFc q h) hFc (fun r19_ u19_ t H1 locs ht hvm hw hB hz1 hk1 hS => ?_)
    replace hw : ((-1) ≤ r19_.toInt ∧ r19_.toInt ≤ 119) ∧ (r19_.toInt = zNm f62 (v49 16).toInt x1.toInt) := hw
    obtain ⟨b_, hX19_0⟩ := hw
    obtain ⟨w19_, a19_, b19_, hP1, hK1, hD1⟩ := hB
    rw [ht] at hP1
    obtain ⟨hP, hD⟩ := va_join (wr := [(h0, .inr (11, mX11 h1 h4 h11 h18 h23 h32 h33 h40 h48 h49 sp0 lw0))]) (w1 := [(h49, .inr (1, mX1 h18 h4 h40 h50 h56 h57 h59 h60 h61 h62 h63 h64 h65 h66 h67 h68 v49)), (h62, zi k62 120 f62)]) hP hD [1, 2] [0] rfl rfl (by decide) (by decide) hk1 hFc hP1 hD1
    have hP : va_P (dC, dI) vwCl [(h0, .inr (11, mX11 h1 h4 h11 h18 h23 h32 h33 h40 h48 h49 sp0 lw0)), (h49, .inr (1, mX1 h18 h4 h40 h50 h56 h57 h59 h60 h61 h62 h63 h64 h65 h66 h67 h68 v49)), (h62, zi k62 120 f62)] H1 := hP.sub [0, 1, 2] rfl
    have hD : va_D A [(h0, .inr (11, mX11 h1 h4 h11 h18 h23 h32 h33 h40 h48 h49 sp0 lw0)), (h49, .inr (1, mX1 h18 h4 h40 h50 h56 h57 h59 h60 h61 h62 h63 h64 h65 h66 h67 h68 v49)), (h62, zi k62 120 f62)] := hD.sub [0, 1, 2] (by decide) rfl
    generalize H1 = H at hP hS ⊢
    clear hz1
    refine W.widen (k := 1) (n := 6) (by decide) (by decide) ?_
    have hpost : ((-1) ≤ r19_.toInt ∧ r19_.toInt ≤ 119) ∧ (0 ≤ x1.toInt) ∧ (r19_.toInt = zNm f62 (v49 16).toInt x1.toInt) := ⟨(by first | with_reducible assumption | exact ⟨by omega, by omega⟩), by omega, by exact hX19_0⟩
    have hP9 : va_P (dC, dI) vwCl [(h0, .inr (11, mX11 h1 h4 h11 h18 h23 h32 h33 h40 h48 h49 sp0 lw0)), (h49, .inr (1, mX1 h18 h4 h40 h50 h56 h57 h59 h60 h61 h62 h63 h64 h65 h66 h67 h68 v49)), (h62, zi k62 120 f62)] H := hP
    have hD9 : va_D A [(h0, .inr (11, mX11 h1 h4 h11 h18 h23 h32 h33 h40 h48 h49 sp0 lw0)), (h49, .inr (1, mX1 h18 h4 h40 h50 h56 h57 h59 h60 h61 h62 h63 h64 h65 h66 h67 h68 v49)), (h62, zi k62 120 f62)] := hD
    exact vx_ret (W.iret (v := r19_) hx hb hr (fun t ht hW => ⟨⟨r19_, (fun _ => 0), rfl, hpost, (fun _ => 0), (fun _ => (fun _ => 0)), (fun _ => (fun _ => 0)), by rw [ht]; exact hP9, va_K.moved hW.alike hK, hD9⟩, hS.F ht⟩) hS.2.2 dX11_hit_22)
  · skip
    have b_ := zF_ge rfl zk_0 c_
    have hpost : (x1.toInt < 0) := by omega
    have hP9 : va_P (dC, dI) vwCl [(h0, .inr (11, mX11 h1 h4 h11 h18 h23 h32 h33 h40 h48 h49 sp0 lw0)), (h49, .inr (1, mX1 h18 h4 h40 h50 h56 h57 h59 h60 h61 h62 h63 h64 h65 h66 h67 h68 v49)), (h62, zi k62 120 f62)] s.heap := hP
    have hD9 : va_D A [(h0, .inr (11, mX11 h1 h4 h11 h18 h23 h32 h33 h40 h48 h49 sp0 lw0)), (h49, .inr (1, mX1 h18 h4 h40 h50 h56 h57 h59 h60 h61 h62 h63 h64 h65 h66 h67 h68 v49)), (h62, zi k62 120 f62)] := hD
    obtain ⟨sa, hstr⟩ := zE_S251 hE
    exact vx_throwS (names := ["java/lang/RuntimeException", "java/lang/Exception"]) (A := A) hx hb hl0 hown (by decide +kernel) (by decide +kernel) (hG _ zv1411) (hG _ zv154) hstr (zhat hG hE) zAT_ot hZ.1 hZ.2.1 hS (hl.1.trans hml.symm) dX11_hit_4 dX11_hit_7 dX11_hit_8 dX11_hit_10 dX11_hit_13 (fun x h => (hout x h).elim) (by decide) (by decide +kernel) (Nat.le_of_ble_eq_true rfl) (Nat.le_of_ble_eq_true rfl) hlocks (fun t hvm hz hk => ⟨(fun _ => 0), hpost, ⟨rfl, (fun _ => 0), (fun _ => (fun _ => 0)), (fun _ => (fun _ => 0)), zkeepP hP9 hk, va_K.moved hvm hK, hD9⟩, zkeepF hS hz hk⟩) hS.2.2 (Nat.le_of_ble_eq_true rfl) (Nat.le_of_ble_eq_true rfl)
set_option maxHeartbeats 8000000 in
set_option maxRecDepth 100000 in
theorem sX11_rank_0 (l : Launch) (hl0 : l.stackTraces = false) (dC : Nat → ClassId) (dI : Nat → Nat → Nat) (adK adV : Nat → Nat) (h0 : Nat) (h49 : Nat) (h65 : Nat) (h62 : Nat) (h64 : Nat) (h63 : Nat) (h1 : Nat) (h4 : Nat) (h11 : Nat) (h18 : Nat) (h23 : Nat) (h32 : Nat) (h33 : Nat) (h40 : Nat) (h48 : Nat) (h50 : Nat) (h56 : Nat) (h57 : Nat) (h59 : Nat) (h60 : Nat) (h61 : Nat) (h66 : Nat) (h67 : Nat) (h68 : Nat) (k65 : ClassId) (k62 : ClassId) (k64 : ClassId) (k63 : ClassId) (sz : Nat) (sp0 : Value) (lw0 : Int64) (v49 : Nat → Int32) (f65 : Nat → Int32) (f62 : Nat → Int32) (f64 : Nat → Int32) (f63 : Nat → Int32) (x1 : Int32) (x2 : Int32) (hv49 : zR rg_Finder v49) (hf65 : zA 0 119 f65) (hf62 : zA 0 119 f62) : vx_Met l yX11_rank (zw yX11_rank cX11_rank 3 (some .int)) { frames := 8, cells := 1, slots := 6, locals := 120 } (zPc dC dI adK adV [.ref h0, .int x1, .int x2] sz [(h0, .inr (11, mX11 h1 h4 h11 h18 h23 h32 h33 h40 h48 h49 sp0 lw0)), (h49, .inr (1, mX1 h18 h4 h40 h50 h56 h57 h59 h60 h61 h62 h63 h64 h65 h66 h67 h68 v49)), (h65, zi k65 120 f65), (h62, zi k62 120 f62), (h64, zi k64 120 f64), (h63, zi k63 120 f63)] [(k65, .int), (k62, .int), (k64, .int), (k63, .int)]) (va_Qi (fun (r : Int32) (u : Nat → Int32) => (0 ≤ x1.toInt ∧ x1.toInt < (v49 16).toInt) ∧ (r.toInt = zRna (zTrp f62 f64 f63 (f65 ((x1 : Int32)).toNatClampNeg).toNatClampNeg) x2.toInt)) (fun (u : Nat → Int32) (t : State) => ∃ (ww : Nat → Int64) (aa : Nat → Nat → Int32) (bb : Nat → Nat → Int64), va_P (dC, dI) vwCl [(h0, .inr (11, mX11 h1 h4 h11 h18 h23 h32 h33 h40 h48 h49 sp0 lw0)), (h49, .inr (1, mX1 h18 h4 h40 h50 h56 h57 h59 h60 h61 h62 h63 h64 h65 h66 h67 h68 v49)), (h65, zi k65 120 f65), (h62, zi k62 120 f62), (h64, zi k64 120 f64), (h63, zi k63 120 f63)] t.heap ∧ va_K (dC, dI) vwCl [(k65, .int), (k62, .int), (k64, .int), (k63, .int)] t ∧ va_D (va_A [(h0, .inr (11, mX11 h1 h4 h11 h18 h23 h32 h33 h40 h48 h49 sp0 lw0)), (h49, .inr (1, mX1 h18 h4 h40 h50 h56 h57 h59 h60 h61 h62 h63 h64 h65 h66 h67 h68 v49)), (h65, zi k65 120 f65), (h62, zi k62 120 f62), (h64, zi k64 120 f64), (h63, zi k63 120 f63)] sz) [(h0, .inr (11, mX11 h1 h4 h11 h18 h23 h32 h33 h40 h48 h49 sp0 lw0)), (h49, .inr (1, mX1 h18 h4 h40 h50 h56 h57 h59 h60 h61 h62 h63 h64 h65 h66 h67 h68 v49)), (h65, zi k65 120 f65), (h62, zi k62 120 f62), (h64, zi k64 120 f64), (h63, zi k63 120 f63)]) (va_A [(h0, .inr (11, mX11 h1 h4 h11 h18 h23 h32 h33 h40 h48 h49 sp0 lw0)), (h49, .inr (1, mX1 h18 h4 h40 h50 h56 h57 h59 h60 h61 h62 h63 h64 h65 h66 h67 h68 v49)), (h65, zi k65 120 f65), (h62, zi k62 120 f62), (h64, zi k64 120 f64), (h63, zi k63 120 f63)] sz)) (vx_X (fun (u : Nat → Int32) => (x1.toInt < 0 ∨ (v49 16).toInt ≤ x1.toInt)) (fun (E : String) (u : Nat → Int32) (t : State) => E = "java/lang/IndexOutOfBoundsException" ∧ ∃ (ww : Nat → Int64) (aa : Nat → Nat → Int32) (bb : Nat → Nat → Int64), va_P (dC, dI) vwCl [(h0, .inr (11, mX11 h1 h4 h11 h18 h23 h32 h33 h40 h48 h49 sp0 lw0)), (h49, .inr (1, mX1 h18 h4 h40 h50 h56 h57 h59 h60 h61 h62 h63 h64 h65 h66 h67 h68 v49)), (h65, zi k65 120 f65), (h62, zi k62 120 f62), (h64, zi k64 120 f64), (h63, zi k63 120 f63)] t.heap ∧ va_K (dC, dI) vwCl [(k65, .int), (k62, .int), (k64, .int), (k63, .int)] t ∧ va_D (va_A [(h0, .inr (11, mX11 h1 h4 h11 h18 h23 h32 h33 h40 h48 h49 sp0 lw0)), (h49, .inr (1, mX1 h18 h4 h40 h50 h56 h57 h59 h60 h61 h62 h63 h64 h65 h66 h67 h68 v49)), (h65, zi k65 120 f65), (h62, zi k62 120 f62), (h64, zi k64 120 f64), (h63, zi k63 120 f63)] sz) [(h0, .inr (11, mX11 h1 h4 h11 h18 h23 h32 h33 h40 h48 h49 sp0 lw0)), (h49, .inr (1, mX1 h18 h4 h40 h50 h56 h57 h59 h60 h61 h62 h63 h64 h65 h66 h67 h68 v49)), (h65, zi k65 120 f65), (h62, zi k62 120 f62), (h64, zi k64 120 f64), (h63, zi k63 120 f63)]) (va_A [(h0, .inr (11, mX11 h1 h4 h11 h18 h23 h32 h33 h40 h48 h49 sp0 lw0)), (h49, .inr (1, mX1 h18 h4 h40 h50 h56 h57 h59 h60 h61 h62 h63 h64 h65 h66 h67 h68 v49)), (h65, zi k65 120 f65), (h62, zi k62 120 f62), (h64, zi k64 120 f64), (h63, zi k63 120 f63)] sz)) 1 6 (va_A [(h0, .inr (11, mX11 h1 h4 h11 h18 h23 h32 h33 h40 h48 h49 sp0 lw0)), (h49, .inr (1, mX1 h18 h4 h40 h50 h56 h57 h59 h60 h61 h62 h63 h64 h65 h66 h67 h68 v49)), (h65, zi k65 120 f65), (h62, zi k62 120 f62), (h64, zi k64 120 f64), (h63, zi k63 120 f63)] sz) := by
  refine vx_ofW (cc := cX11_rank) (maxL := 3) (ret := (some .int)) (by decide) rfl ?_
  intro p e s m args below meth c s₁ B hml hout hv
  obtain ⟨rfl, hsz, hP, hK, hD0, hE, hZ⟩ := hv
  have hx := B.exec
  have hb := B.bytes
  have hr := B.returns
  have hG : ∀ w ∈ zG, w.before _ s = true := fun w h => atoms_spec (ws := (zw yX11_rank cX11_rank 3 (some .int))) B.pre w (List.mem_cons_of_mem _ h)
  have hown : s.vm.findClass RX11 = some m.cls := findClass_of_methodNamed B.named
  have hlocks := B.notSynchronized

  subst hsz
  have hD := hD0.self (sz := s.heap.size)
  generalize hAe : va_A [(h0, .inr (11, mX11 h1 h4 h11 h18 h23 h32 h33 h40 h48 h49 sp0 lw0)), (h49, .inr (1, mX1 h18 h4 h40 h50 h56 h57 h59 h60 h61 h62 h63 h64 h65 h66 h67 h68 v49)), (h65, zi k65 120 f65), (h62, zi k62 120 f62), (h64, zi k64 120 f64), (h63, zi k63 120 f63)] s.heap.size = A at hD hZ ⊢
  have hA : ∀ q : Nat, s.heap.size ≤ q → A q := fun q h => by rw [← hAe]; exact Or.inr h
  have hS : va_S A s.heap s.heap [] := va_S.rf
  have hl := lv_entry ([.ref h0, .int x1, .int x2]) (n := 3) (Nat.le_of_ble_eq_true rfl)
  rw [lg_entry_eq]
  generalize (lg_sl ([.ref h0, .int x1, .int x2]) ++ List.replicate (3 - (lg_sl ([.ref h0, .int x1, .int x2])).length) Slot.unset).toArray = ls at hl ⊢
  have hl : lv_has ls 3 [(0, .ref h0), (1, .int x1), (2, .int x2)] := hl
  have b_ := zk_m1
  have b_ := zk_0
  have b_ := zk_1
  have b_ := zk_2
  have b_ : 0 ≤ (v49 16).toInt ∧ (v49 16).toInt ≤ 120 := hv49 16
  refine lv_iload_n hx hb dX11_rank_0 rfl (lv_at hl 1 rfl) ?_
  refine zcutW (fun H locs ls u15_ w15_ a15_ b15_ => va_P (dC, dI) vwCl [(h0, .inr (11, mX11 h1 h4 h11 h18 h23 h32 h33 h40 h48 h49 sp0 lw0)), (h49, .inr (1, mX1 h18 h4 h40 h50 h56 h57 h59 h60 h61 h62 h63 h64 h65 h66 h67 h68 v49)), (h65, zi k65 120 f65), (h62, zi k62 120 f62), (h64, zi k64 120 f64), (h63, zi k63 120 f63)] H ∧ va_D A [(h0, .inr (11, mX11 h1 h4 h11 h18 h23 h32 h33 h40 h48 h49 sp0 lw0)), (h49, .inr (1, mX1 h18 h4 h40 h50 h56 h57 h59 h60 h61 h62 h63 h64 h65 h66 h67 h68 v49)), (h65, zi k65 120 f65), (h62, zi k62 120 f62), (h64, zi k64 120 f64), (h63, zi k63 120 f63)] ∧ va_S A s.heap H locs ∧ lv_has ls 3 [(0, .ref h0), (1, .int x1), (2, .int x2)] ∧ (x1.toInt < 0 ∨ (v49 16).toInt ≤ x1.toInt)) (fun ls u15_ w15_ => F0 m 15 ls []) 0 0 ?_ (fun hJ15 => ?_)
  · skip
    intro H locs ls u15_ w15_ a15_ b15_ hc
    obtain ⟨hP, hD, hS, hl, b_⟩ := hc
    have hpost : (x1.toInt < 0 ∨ (v49 16).toInt ≤ x1.toInt) := by omega
    have hP9 : va_P (dC, dI) vwCl [(h0, .inr (11, mX11 h1 h4 h11 h18 h23 h32 h33 h40 h48 h49 sp0 lw0)), (h49, .inr (1, mX1 h18 h4 h40 h50 h56 h57 h59 h60 h61 h62 h63 h64 h65 h66 h67 h68 v49)), (h65, zi k65 120 f65), (h62, zi k62 120 f62), (h64, zi k64 120 f64), (h63, zi k63 120 f63)] H := hP
    have hD9 : va_D A [(h0, .inr (11, mX11 h1 h4 h11 h18 h23 h32 h33 h40 h48 h49 sp0 lw0)), (h49, .inr (1, mX1 h18 h4 h40 h50 h56 h57 h59 h60 h61 h62 h63 h64 h65 h66 h67 h68 v49)), (h65, zi k65 120 f65), (h62, zi k62 120 f62), (h64, zi k64 120 f64), (h63, zi k63 120 f63)] := hD
    obtain ⟨sa, hstr⟩ := zE_S256 hE
    exact vx_throwSW (names := ["java/lang/RuntimeException", "java/lang/Exception"]) (A := A) hx hb hl0 hown (by decide +kernel) (by decide +kernel) (hG _ zv1411) (hG _ zv154) hstr (zhat hG hE) zAT_ot hZ.1 hZ.2.1 hS (hl.1.trans hml.symm) dX11_rank_15 dX11_rank_18 dX11_rank_19 dX11_rank_22 dX11_rank_25 (fun x h => (hout x h).elim) (by decide) (by decide +kernel) (Nat.le_of_ble_eq_true rfl) (Nat.le_of_ble_eq_true rfl) hlocks (fun t hvm hz hk => ⟨(fun _ => 0), hpost, ⟨rfl, (fun _ => 0), (fun _ => (fun _ => 0)), (fun _ => (fun _ => 0)), zkeepP hP9 hk, va_K.moved hvm hK, hD9⟩, zkeepF hS hz hk⟩) hS.2.2 (Nat.le_of_ble_eq_true rfl) (Nat.le_of_ble_eq_true rfl)
  · skip
    have b_ : -2147483648 ≤ x1.toInt ∧ x1.toInt ≤ 2147483647 := ⟨zlo _, zhi _⟩
    refine lv_if_lt (tgt := 15) hx hb dX11_rank_1 (by decide) (fun c_ => ?_) (fun c_ => ?_)
    · skip
      have b_ := zT_lt rfl zk_0 c_
      have b_ : -2147483648 ≤ x2.toInt ∧ x2.toInt ≤ 2147483647 := ⟨zlo _, zhi _⟩
      have hc : va_P (dC, dI) vwCl [(h0, .inr (11, mX11 h1 h4 h11 h18 h23 h32 h33 h40 h48 h49 sp0 lw0)), (h49, .inr (1, mX1 h18 h4 h40 h50 h56 h57 h59 h60 h61 h62 h63 h64 h65 h66 h67 h68 v49)), (h65, zi k65 120 f65), (h62, zi k62 120 f62), (h64, zi k64 120 f64), (h63, zi k63 120 f63)] s.heap ∧ va_D A [(h0, .inr (11, mX11 h1 h4 h11 h18 h23 h32 h33 h40 h48 h49 sp0 lw0)), (h49, .inr (1, mX1 h18 h4 h40 h50 h56 h57 h59 h60 h61 h62 h63 h64 h65 h66 h67 h68 v49)), (h65, zi k65 120 f65), (h62, zi k62 120 f62), (h64, zi k64 120 f64), (h63, zi k63 120 f63)] ∧ va_S A s.heap s.heap [] ∧ lv_has ls 3 [(0, .ref h0), (1, .int x1), (2, .int x2)] ∧ (x1.toInt < 0 ∨ (v49 16).toInt ≤ x1.toInt) := ⟨hP, hD, hS, lv_sub hl [0, 1, 2] rfl, by omega⟩
      exact hJ15 s.heap [] ls (fun _ => 0) (fun _ => 0) (fun _ => (fun _ => 0)) (fun _ => (fun _ => 0)) hc
    · skip
      have b_ := zF_lt rfl zk_0 c_
      refine lv_iload_n hx hb dX11_rank_4 rfl (lv_at hl 1 rfl) ?_
      refine lv_aload_n hx hb dX11_rank_5 rfl (lv_at hl 0 rfl) ?_
      refine va_get (D := (dC, dI)) (ci := 11) (v := .ref h49) (C := RX11) (T := TX11) (N := 12) hx hb hG zuX11 hown hK hP 0 rfl rfl 9 (by decide) (hG _ zv566) (fun _ h9 => h9) rfl dX11_rank_6 ?_
      have hPc := hP.sub (ws' := [(h49, .inr (1, mX1 h18 h4 h40 h50 h56 h57 h59 h60 h61 h62 h63 h64 h65 h66 h67 h68 v49))]) [1] rfl
      have hDc := hD.sub (ws' := [(h49, .inr (1, mX1 h18 h4 h40 h50 h56 h57 h59 h60 h61 h62 h63 h64 h65 h66 h67 h68 v49))]) [1] (by decide) rfl
      have hKc := hK.sub (tys' := []) [] rfl
      have hFc := va_free (wc := [(h49, .inr (1, mX1 h18 h4 h40 h50 h56 h57 h59 h60 h61 h62 h63 h64 h65 h66 h67 h68 v49))]) hD hS hA [1] rfl
      refine va_calli (va_runV (As := []) (rest := [.int x1]) ⟨hx, hb, hml, hown, hG⟩ (sX1_found_0 l dC dI adK adV h49 h18 h4 h40 h50 h56 h57 h59 h60 h61 h62 h63 h64 h65 h66 h67 h68 s.heap.size v49 hv49) (cwV 0 hG (zgV zv1364 zv1365 zv1366 zv138 zv1367) rfl rfl rfl (by decide +kernel) ⟨Nat.le_of_ble_eq_true rfl, Nat.le_of_ble_eq_true rfl⟩) ⟨zPc_blind, va_recv hKc hPc (ci := 1) (q0 := 0) rfl rfl, zPc_pre hPc hKc hDc hE hS hFc hZ⟩ rfl rfl hl.1 rfl (lv_room (Nat.le_of_ble_eq_true rfl)) dX11_rank_9 ⟨Nat.le_of_ble_eq_true rfl, Nat.le_of_ble_eq_true rfl⟩) hS (fun q _ h => hFc q h) hFc (fun r9_ u9_ t H1 locs ht hvm hw hB hz1 hk1 hS => ?_)
      replace hw : (0 ≤ r9_.toInt ∧ r9_.toInt ≤ 120) ∧ (r9_.toInt = (v49 16).toInt) := hw
      obtain ⟨b_, hX9_0⟩ := hw
      obtain ⟨w9_, a9_, b9_, hP1, hK1, hD1⟩ := hB
      rw [ht] at hP1
      obtain ⟨hP, hD⟩ := va_join (wr := [(h0, .inr (11, mX11 h1 h4 h11 h18 h23 h32 h33 h40 h48 h49 sp0 lw0)), (h65, zi k65 120 f65), (h62, zi k62 120 f62), (h64, zi k64 120 f64), (h63, zi k63 120 f63)]) (w1 := [(h49, .inr (1, mX1 h18 h4 h40 h50 h56 h57 h59 h60 h61 h62 h63 h64 h65 h66 h67 h68 v49))]) hP hD [1] [0, 2, 3, 4, 5] rfl rfl (by decide) (by decide) hk1 hFc hP1 hD1
      have hP : va_P (dC, dI) vwCl [(h0, .inr (11, mX11 h1 h4 h11 h18 h23 h32 h33 h40 h48 h49 sp0 lw0)), (h49, .inr (1, mX1 h18 h4 h40 h50 h56 h57 h59 h60 h61 h62 h63 h64 h65 h66 h67 h68 v49)), (h65, zi k65 120 f65), (h62, zi k62 120 f62), (h64, zi k64 120 f64), (h63, zi k63 120 f63)] H1 := hP.sub [0, 5, 1, 2, 3, 4] rfl
      have hD : va_D A [(h0, .inr (11, mX11 h1 h4 h11 h18 h23 h32 h33 h40 h48 h49 sp0 lw0)), (h49, .inr (1, mX1 h18 h4 h40 h50 h56 h57 h59 h60 h61 h62 h63 h64 h65 h66 h67 h68 v49)), (h65, zi k65 120 f65), (h62, zi k62 120 f62), (h64, zi k64 120 f64), (h63, zi k63 120 f63)] := hD.sub [0, 5, 1, 2, 3, 4] (by decide) rfl
      generalize H1 = H at hP hS ⊢
      clear hz1
      refine lv_icmp_lt (tgt := 26) hx hb dX11_rank_12 (by decide) (fun c_ => ?_) (fun c_ => ?_)
      · skip
        have b_ := zT_lt rfl rfl c_
        refine lv_iload_n hx hb dX11_rank_26 rfl (lv_at hl 2 rfl) ?_
        rcases Classical.em (x2 = (0 : Int32)) with c_ | c_
        · skip
          have b_ : x2.toInt = 0 := by rw [c_]; exact zk_0
          refine lv_tableIn (off := 25) (tgt := 52) hx hb dX11_rank_27 (by omega) (by omega) (by rw [b_]; decide) (by decide) ?_
          refine lv_aload_n hx hb dX11_rank_52 rfl (lv_at hl 0 rfl) ?_
          refine va_get (D := (dC, dI)) (ci := 11) (v := .ref h49) (C := RX11) (T := TX11) (N := 12) hx hb hG zuX11 hown hK hP 0 rfl rfl 9 (by decide) (hG _ zv566) (fun _ h9 => h9) rfl dX11_rank_53 ?_
          refine lv_iload_n hx hb dX11_rank_56 rfl (lv_at hl 1 rfl) ?_
          have hPc := hP.sub (ws' := [(h49, .inr (1, mX1 h18 h4 h40 h50 h56 h57 h59 h60 h61 h62 h63 h64 h65 h66 h67 h68 v49)), (h65, zi k65 120 f65), (h62, zi k62 120 f62)]) [1, 2, 3] rfl
          have hDc := hD.sub (ws' := [(h49, .inr (1, mX1 h18 h4 h40 h50 h56 h57 h59 h60 h61 h62 h63 h64 h65 h66 h67 h68 v49)), (h65, zi k65 120 f65), (h62, zi k62 120 f62)]) [1, 2, 3] (by decide) rfl
          have hKc := hK.sub (tys' := [(k65, .int), (k62, .int)]) [0, 1] rfl
          have hFc := va_free (wc := [(h49, .inr (1, mX1 h18 h4 h40 h50 h56 h57 h59 h60 h61 h62 h63 h64 h65 h66 h67 h68 v49)), (h65, zi k65 120 f65), (h62, zi k62 120 f62)]) hD hS hA [1, 2, 3] rfl
          refine va_calli (va_runV (As := [.int x1]) (rest := []) ⟨hx, hb, hml, hown, hG⟩ (sX1_rankedNumber_0 l dC dI adK adV h49 h65 h62 h18 h4 h40 h50 h56 h57 h59 h60 h61 h63 h64 h66 h67 h68 k65 k62 H.size v49 f65 f62 x1 hv49 hf65 hf62) (cwV 1 hG (zgV zv1530 zv1531 zv1532 zv138 zv1533) rfl rfl rfl (by decide +kernel) ⟨Nat.le_of_ble_eq_true rfl, Nat.le_of_ble_eq_true rfl⟩) ⟨zPc_blind, va_recv hKc hPc (ci := 1) (q0 := 0) rfl rfl, zPc_pre hPc hKc hDc hE hS hFc hZ⟩ rfl rfl hl.1 rfl (lv_room (Nat.le_of_ble_eq_true rfl)) dX11_rank_57 ⟨Nat.le_of_ble_eq_true rfl, Nat.le_of_ble_eq_true rfl⟩) hS (fun q _ h => hFc q h) hFc (fun r57_ u57_ t H1 locs ht hvm hw hB hz1 hk1 hS => ?_)
          replace hw : ((-1) ≤ r57_.toInt ∧ r57_.toInt ≤ 119) ∧ (zW (0 ≤ x1.toInt → x1.toInt < (v49 16).toInt → r57_.toInt = (f62 (f65 ((x1 : Int32)).toNatClampNeg).toNatClampNeg).toInt)) := hw
          obtain ⟨b_, hX57_0⟩ := hw
          obtain ⟨w57_, a57_, b57_, hP1, hK1, hD1⟩ := hB
          rw [ht] at hP1
          obtain ⟨hP, hD⟩ := va_join (wr := [(h0, .inr (11, mX11 h1 h4 h11 h18 h23 h32 h33 h40 h48 h49 sp0 lw0)), (h64, zi k64 120 f64), (h63, zi k63 120 f63)]) (w1 := [(h49, .inr (1, mX1 h18 h4 h40 h50 h56 h57 h59 h60 h61 h62 h63 h64 h65 h66 h67 h68 v49)), (h65, zi k65 120 f65), (h62, zi k62 120 f62)]) hP hD [1, 2, 3] [0, 4, 5] rfl rfl (by decide) (by decide) hk1 hFc hP1 hD1
          have hP : va_P (dC, dI) vwCl [(h0, .inr (11, mX11 h1 h4 h11 h18 h23 h32 h33 h40 h48 h49 sp0 lw0)), (h49, .inr (1, mX1 h18 h4 h40 h50 h56 h57 h59 h60 h61 h62 h63 h64 h65 h66 h67 h68 v49)), (h65, zi k65 120 f65), (h62, zi k62 120 f62), (h64, zi k64 120 f64), (h63, zi k63 120 f63)] H1 := hP.sub [0, 3, 4, 5, 1, 2] rfl
          have hD : va_D A [(h0, .inr (11, mX11 h1 h4 h11 h18 h23 h32 h33 h40 h48 h49 sp0 lw0)), (h49, .inr (1, mX1 h18 h4 h40 h50 h56 h57 h59 h60 h61 h62 h63 h64 h65 h66 h67 h68 v49)), (h65, zi k65 120 f65), (h62, zi k62 120 f62), (h64, zi k64 120 f64), (h63, zi k63 120 f63)] := hD.sub [0, 3, 4, 5, 1, 2] (by decide) rfl
          generalize H1 = H at hP hS ⊢
          clear hz1
          refine W.widen (k := 1) (n := 6) (by decide) (by decide) ?_
          have hpost : (0 ≤ x1.toInt ∧ x1.toInt < (v49 16).toInt) ∧ (r57_.toInt = zRna (zTrp f62 f64 f63 (f65 ((x1 : Int32)).toNatClampNeg).toNatClampNeg) x2.toInt) := ⟨by omega, by first | exact zRna_0 (by omega) (hX57_0 (by omega) (by omega)) | exact zRna_1 (by omega) (hX66_0 (by omega) (by omega)) | exact zRna_2 (by omega) (hX75_0 (by omega) (by omega)) | exact zRna_3 (by omega) (by decide)⟩
          have hP9 : va_P (dC, dI) vwCl [(h0, .inr (11, mX11 h1 h4 h11 h18 h23 h32 h33 h40 h48 h49 sp0 lw0)), (h49, .inr (1, mX1 h18 h4 h40 h50 h56 h57 h59 h60 h61 h62 h63 h64 h65 h66 h67 h68 v49)), (h65, zi k65 120 f65), (h62, zi k62 120 f62), (h64, zi k64 120 f64), (h63, zi k63 120 f63)] H := hP
          have hD9 : va_D A [(h0, .inr (11, mX11 h1 h4 h11 h18 h23 h32 h33 h40 h48 h49 sp0 lw0)), (h49, .inr (1, mX1 h18 h4 h40 h50 h56 h57 h59 h60 h61 h62 h63 h64 h65 h66 h67 h68 v49)), (h65, zi k65 120 f65), (h62, zi k62 120 f62), (h64, zi k64 120 f64), (h63, zi k63 120 f63)] := hD
          exact vx_ret (W.iret (v := r57_) hx hb hr (fun t ht hW => ⟨⟨r57_, (fun _ => 0), rfl, hpost, (fun _ => 0), (fun _ => (fun _ => 0)), (fun _ => (fun _ => 0)), by rw [ht]; exact hP9, va_K.moved hW.alike hK, hD9⟩, hS.F ht⟩) hS.2.2 dX11_rank_60)
        · skip
          have b_ : x2.toInt ≠ 0 := fun h => c_ (zeqi.mpr (h.trans zk_0.symm))
          rcases Classical.em (x2 = (1 : Int32)) with c_ | c_
          · skip
            have b_ : x2.toInt = 1 := by rw [c_]; exact zk_1
            refine lv_tableIn (off := 34) (tgt := 61) hx hb dX11_rank_27 (by omega) (by omega) (by rw [b_]; decide) (by decide) ?_
            refine lv_aload_n hx hb dX11_rank_61 rfl (lv_at hl 0 rfl) ?_
            refine va_get (D := (dC, dI)) (ci := 11) (v := .ref h49) (C := RX11) (T := TX11) (N := 12) hx hb hG zuX11 hown hK hP 0 rfl rfl 9 (by decide) (hG _ zv566) (fun _ h9 => h9) rfl dX11_rank_62 ?_
            refine lv_iload_n hx hb dX11_rank_65 rfl (lv_at hl 1 rfl) ?_
            have hPc := hP.sub (ws' := [(h49, .inr (1, mX1 h18 h4 h40 h50 h56 h57 h59 h60 h61 h62 h63 h64 h65 h66 h67 h68 v49)), (h65, zi k65 120 f65), (h64, zi k64 120 f64)]) [1, 2, 4] rfl
            have hDc := hD.sub (ws' := [(h49, .inr (1, mX1 h18 h4 h40 h50 h56 h57 h59 h60 h61 h62 h63 h64 h65 h66 h67 h68 v49)), (h65, zi k65 120 f65), (h64, zi k64 120 f64)]) [1, 2, 4] (by decide) rfl
            have hKc := hK.sub (tys' := [(k65, .int), (k64, .int)]) [0, 2] rfl
            have hFc := va_free (wc := [(h49, .inr (1, mX1 h18 h4 h40 h50 h56 h57 h59 h60 h61 h62 h63 h64 h65 h66 h67 h68 v49)), (h65, zi k65 120 f65), (h64, zi k64 120 f64)]) hD hS hA [1, 2, 4] rfl
            refine va_calli (va_runV (As := [.int x1]) (rest := []) ⟨hx, hb, hml, hown, hG⟩ (sX1_rankedScore_0 l dC dI adK adV h49 h65 h64 h18 h4 h40 h50 h56 h57 h59 h60 h61 h62 h63 h66 h67 h68 k65 k64 H.size v49 f65 f64 x1 hv49 hf65) (cwV 1 hG (zgV zv1534 zv1535 zv1536 zv138 zv1537) rfl rfl rfl (by decide +kernel) ⟨Nat.le_of_ble_eq_true rfl, Nat.le_of_ble_eq_true rfl⟩) ⟨zPc_blind, va_recv hKc hPc (ci := 1) (q0 := 0) rfl rfl, zPc_pre hPc hKc hDc hE hS hFc hZ⟩ rfl rfl hl.1 rfl (lv_room (Nat.le_of_ble_eq_true rfl)) dX11_rank_66 ⟨Nat.le_of_ble_eq_true rfl, Nat.le_of_ble_eq_true rfl⟩) hS (fun q _ h => hFc q h) hFc (fun r66_ u66_ t H1 locs ht hvm hw hB hz1 hk1 hS => ?_)
            replace hw : (zW (0 ≤ x1.toInt → x1.toInt < (v49 16).toInt → r66_.toInt = (f64 (f65 ((x1 : Int32)).toNatClampNeg).toNatClampNeg).toInt)) := hw
            have hX66_0 := hw
            obtain ⟨w66_, a66_, b66_, hP1, hK1, hD1⟩ := hB
            rw [ht] at hP1
            obtain ⟨hP, hD⟩ := va_join (wr := [(h0, .inr (11, mX11 h1 h4 h11 h18 h23 h32 h33 h40 h48 h49 sp0 lw0)), (h62, zi k62 120 f62), (h63, zi k63 120 f63)]) (w1 := [(h49, .inr (1, mX1 h18 h4 h40 h50 h56 h57 h59 h60 h61 h62 h63 h64 h65 h66 h67 h68 v49)), (h65, zi k65 120 f65), (h64, zi k64 120 f64)]) hP hD [1, 2, 4] [0, 3, 5] rfl rfl (by decide) (by decide) hk1 hFc hP1 hD1
            have hP : va_P (dC, dI) vwCl [(h0, .inr (11, mX11 h1 h4 h11 h18 h23 h32 h33 h40 h48 h49 sp0 lw0)), (h49, .inr (1, mX1 h18 h4 h40 h50 h56 h57 h59 h60 h61 h62 h63 h64 h65 h66 h67 h68 v49)), (h65, zi k65 120 f65), (h62, zi k62 120 f62), (h64, zi k64 120 f64), (h63, zi k63 120 f63)] H1 := hP.sub [0, 3, 4, 1, 5, 2] rfl
            have hD : va_D A [(h0, .inr (11, mX11 h1 h4 h11 h18 h23 h32 h33 h40 h48 h49 sp0 lw0)), (h49, .inr (1, mX1 h18 h4 h40 h50 h56 h57 h59 h60 h61 h62 h63 h64 h65 h66 h67 h68 v49)), (h65, zi k65 120 f65), (h62, zi k62 120 f62), (h64, zi k64 120 f64), (h63, zi k63 120 f63)] := hD.sub [0, 3, 4, 1, 5, 2] (by decide) rfl
            generalize H1 = H at hP hS ⊢
            clear hz1
            refine W.widen (k := 1) (n := 6) (by decide) (by decide) ?_
            have b_ : -2147483648 ≤ r66_.toInt ∧ r66_.toInt ≤ 2147483647 := ⟨zlo _, zhi _⟩
            have hpost : (0 ≤ x1.toInt ∧ x1.toInt < (v49 16).toInt) ∧ (r66_.toInt = zRna (zTrp f62 f64 f63 (f65 ((x1 : Int32)).toNatClampNeg).toNatClampNeg) x2.toInt) := ⟨by omega, by first | exact zRna_0 (by omega) (hX57_0 (by omega) (by omega)) | exact zRna_1 (by omega) (hX66_0 (by omega) (by omega)) | exact zRna_2 (by omega) (hX75_0 (by omega) (by omega)) | exact zRna_3 (by omega) (by decide)⟩
            have hP9 : va_P (dC, dI) vwCl [(h0, .inr (11, mX11 h1 h4 h11 h18 h23 h32 h33 h40 h48 h49 sp0 lw0)), (h49, .inr (1, mX1 h18 h4 h40 h50 h56 h57 h59 h60 h61 h62 h63 h64 h65 h66 h67 h68 v49)), (h65, zi k65 120 f65), (h62, zi k62 120 f62), (h64, zi k64 120 f64), (h63, zi k63 120 f63)] H := hP
            have hD9 : va_D A [(h0, .inr (11, mX11 h1 h4 h11 h18 h23 h32 h33 h40 h48 h49 sp0 lw0)), (h49, .inr (1, mX1 h18 h4 h40 h50 h56 h57 h59 h60 h61 h62 h63 h64 h65 h66 h67 h68 v49)), (h65, zi k65 120 f65), (h62, zi k62 120 f62), (h64, zi k64 120 f64), (h63, zi k63 120 f63)] := hD
            exact vx_ret (W.iret (v := r66_) hx hb hr (fun t ht hW => ⟨⟨r66_, (fun _ => 0), rfl, hpost, (fun _ => 0), (fun _ => (fun _ => 0)), (fun _ => (fun _ => 0)), by rw [ht]; exact hP9, va_K.moved hW.alike hK, hD9⟩, hS.F ht⟩) hS.2.2 dX11_rank_69)
          · skip
            have b_ : x2.toInt ≠ 1 := fun h => c_ (zeqi.mpr (h.trans zk_1.symm))
            rcases Classical.em (x2 = (2 : Int32)) with c_ | c_
            · skip
              have b_ : x2.toInt = 2 := by rw [c_]; exact zk_2
              refine lv_tableIn (off := 43) (tgt := 70) hx hb dX11_rank_27 (by omega) (by omega) (by rw [b_]; decide) (by decide) ?_
              refine lv_aload_n hx hb dX11_rank_70 rfl (lv_at hl 0 rfl) ?_
              refine va_get (D := (dC, dI)) (ci := 11) (v := .ref h49) (C := RX11) (T := TX11) (N := 12) hx hb hG zuX11 hown hK hP 0 rfl rfl 9 (by decide) (hG _ zv566) (fun _ h9 => h9) rfl dX11_rank_71 ?_
              refine lv_iload_n hx hb dX11_rank_74 rfl (lv_at hl 1 rfl) ?_
              have hPc := hP.sub (ws' := [(h49, .inr (1, mX1 h18 h4 h40 h50 h56 h57 h59 h60 h61 h62 h63 h64 h65 h66 h67 h68 v49)), (h65, zi k65 120 f65), (h63, zi k63 120 f63)]) [1, 2, 5] rfl
              have hDc := hD.sub (ws' := [(h49, .inr (1, mX1 h18 h4 h40 h50 h56 h57 h59 h60 h61 h62 h63 h64 h65 h66 h67 h68 v49)), (h65, zi k65 120 f65), (h63, zi k63 120 f63)]) [1, 2, 5] (by decide) rfl
              have hKc := hK.sub (tys' := [(k65, .int), (k63, .int)]) [0, 3] rfl
              have hFc := va_free (wc := [(h49, .inr (1, mX1 h18 h4 h40 h50 h56 h57 h59 h60 h61 h62 h63 h64 h65 h66 h67 h68 v49)), (h65, zi k65 120 f65), (h63, zi k63 120 f63)]) hD hS hA [1, 2, 5] rfl
              refine va_calli (va_runV (As := [.int x1]) (rest := []) ⟨hx, hb, hml, hown, hG⟩ (sX1_rankedPlace_0 l dC dI adK adV h49 h65 h63 h18 h4 h40 h50 h56 h57 h59 h60 h61 h62 h64 h66 h67 h68 k65 k63 H.size v49 f65 f63 x1 hv49 hf65) (cwV 1 hG (zgV zv1538 zv1539 zv1540 zv138 zv1541) rfl rfl rfl (by decide +kernel) ⟨Nat.le_of_ble_eq_true rfl, Nat.le_of_ble_eq_true rfl⟩) ⟨zPc_blind, va_recv hKc hPc (ci := 1) (q0 := 0) rfl rfl, zPc_pre hPc hKc hDc hE hS hFc hZ⟩ rfl rfl hl.1 rfl (lv_room (Nat.le_of_ble_eq_true rfl)) dX11_rank_75 ⟨Nat.le_of_ble_eq_true rfl, Nat.le_of_ble_eq_true rfl⟩) hS (fun q _ h => hFc q h) hFc (fun r75_ u75_ t H1 locs ht hvm hw hB hz1 hk1 hS => ?_)
              replace hw : (zW (0 ≤ x1.toInt → x1.toInt < (v49 16).toInt → r75_.toInt = (f63 (f65 ((x1 : Int32)).toNatClampNeg).toNatClampNeg).toInt)) := hw
              have hX75_0 := hw
              obtain ⟨w75_, a75_, b75_, hP1, hK1, hD1⟩ := hB
              rw [ht] at hP1
              obtain ⟨hP, hD⟩ := va_join (wr := [(h0, .inr (11, mX11 h1 h4 h11 h18 h23 h32 h33 h40 h48 h49 sp0 lw0)), (h62, zi k62 120 f62), (h64, zi k64 120 f64)]) (w1 := [(h49, .inr (1, mX1 h18 h4 h40 h50 h56 h57 h59 h60 h61 h62 h63 h64 h65 h66 h67 h68 v49)), (h65, zi k65 120 f65), (h63, zi k63 120 f63)]) hP hD [1, 2, 5] [0, 3, 4] rfl rfl (by decide) (by decide) hk1 hFc hP1 hD1
              have hP : va_P (dC, dI) vwCl [(h0, .inr (11, mX11 h1 h4 h11 h18 h23 h32 h33 h40 h48 h49 sp0 lw0)), (h49, .inr (1, mX1 h18 h4 h40 h50 h56 h57 h59 h60 h61 h62 h63 h64 h65 h66 h67 h68 v49)), (h65, zi k65 120 f65), (h62, zi k62 120 f62), (h64, zi k64 120 f64), (h63, zi k63 120 f63)] H1 := hP.sub [0, 3, 4, 1, 2, 5] rfl
              have hD : va_D A [(h0, .inr (11, mX11 h1 h4 h11 h18 h23 h32 h33 h40 h48 h49 sp0 lw0)), (h49, .inr (1, mX1 h18 h4 h40 h50 h56 h57 h59 h60 h61 h62 h63 h64 h65 h66 h67 h68 v49)), (h65, zi k65 120 f65), (h62, zi k62 120 f62), (h64, zi k64 120 f64), (h63, zi k63 120 f63)] := hD.sub [0, 3, 4, 1, 2, 5] (by decide) rfl
              generalize H1 = H at hP hS ⊢
              clear hz1
              refine W.widen (k := 1) (n := 6) (by decide) (by decide) ?_
              have b_ : -2147483648 ≤ r75_.toInt ∧ r75_.toInt ≤ 2147483647 := ⟨zlo _, zhi _⟩
              have hpost : (0 ≤ x1.toInt ∧ x1.toInt < (v49 16).toInt) ∧ (r75_.toInt = zRna (zTrp f62 f64 f63 (f65 ((x1 : Int32)).toNatClampNeg).toNatClampNeg) x2.toInt) := ⟨by omega, by first | exact zRna_0 (by omega) (hX57_0 (by omega) (by omega)) | exact zRna_1 (by omega) (hX66_0 (by omega) (by omega)) | exact zRna_2 (by omega) (hX75_0 (by omega) (by omega)) | exact zRna_3 (by omega) (by decide)⟩
              have hP9 : va_P (dC, dI) vwCl [(h0, .inr (11, mX11 h1 h4 h11 h18 h23 h32 h33 h40 h48 h49 sp0 lw0)), (h49, .inr (1, mX1 h18 h4 h40 h50 h56 h57 h59 h60 h61 h62 h63 h64 h65 h66 h67 h68 v49)), (h65, zi k65 120 f65), (h62, zi k62 120 f62), (h64, zi k64 120 f64), (h63, zi k63 120 f63)] H := hP
              have hD9 : va_D A [(h0, .inr (11, mX11 h1 h4 h11 h18 h23 h32 h33 h40 h48 h49 sp0 lw0)), (h49, .inr (1, mX1 h18 h4 h40 h50 h56 h57 h59 h60 h61 h62 h63 h64 h65 h66 h67 h68 v49)), (h65, zi k65 120 f65), (h62, zi k62 120 f62), (h64, zi k64 120 f64), (h63, zi k63 120 f63)] := hD
              exact vx_ret (W.iret (v := r75_) hx hb hr (fun t ht hW => ⟨⟨r75_, (fun _ => 0), rfl, hpost, (fun _ => 0), (fun _ => (fun _ => 0)), (fun _ => (fun _ => 0)), by rw [ht]; exact hP9, va_K.moved hW.alike hK, hD9⟩, hS.F ht⟩) hS.2.2 dX11_rank_78)
            · skip
              have b_ : x2.toInt ≠ 2 := fun h => c_ (zeqi.mpr (h.trans zk_2.symm))
              refine lv_tableOut (tgt := 79) hx hb dX11_rank_27 (by omega) (by decide) ?_
              refine lv_iconst (v := (-1)) hx hb dX11_rank_79 (by decide) ?_
              refine W.widen (k := 1) (n := 6) (by decide) (by decide) ?_
              have hpost : (0 ≤ x1.toInt ∧ x1.toInt < (v49 16).toInt) ∧ (((-1) : Int32).toInt = zRna (zTrp f62 f64 f63 (f65 ((x1 : Int32)).toNatClampNeg).toNatClampNeg) x2.toInt) := ⟨by omega, by first | exact zRna_0 (by omega) (hX57_0 (by omega) (by omega)) | exact zRna_1 (by omega) (hX66_0 (by omega) (by omega)) | exact zRna_2 (by omega) (hX75_0 (by omega) (by omega)) | exact zRna_3 (by omega) (by decide)⟩
              have hP9 : va_P (dC, dI) vwCl [(h0, .inr (11, mX11 h1 h4 h11 h18 h23 h32 h33 h40 h48 h49 sp0 lw0)), (h49, .inr (1, mX1 h18 h4 h40 h50 h56 h57 h59 h60 h61 h62 h63 h64 h65 h66 h67 h68 v49)), (h65, zi k65 120 f65), (h62, zi k62 120 f62), (h64, zi k64 120 f64), (h63, zi k63 120 f63)] H := hP
              have hD9 : va_D A [(h0, .inr (11, mX11 h1 h4 h11 h18 h23 h32 h33 h40 h48 h49 sp0 lw0)), (h49, .inr (1, mX1 h18 h4 h40 h50 h56 h57 h59 h60 h61 h62 h63 h64 h65 h66 h67 h68 v49)), (h65, zi k65 120 f65), (h62, zi k62 120 f62), (h64, zi k64 120 f64), (h63, zi k63 120 f63)] := hD
              exact vx_ret (W.iret (v := (-1)) hx hb hr (fun t ht hW => ⟨⟨(-1), (fun _ => 0), rfl, hpost, (fun _ => 0), (fun _ => (fun _ => 0)), (fun _ => (fun _ => 0)), by rw [ht]; exact hP9, va_K.moved hW.alike hK, hD9⟩, hS.F ht⟩) hS.2.2 dX11_rank_80)
      · skip
        have b_ := zF_lt rfl rfl c_
        have b_ : -2147483648 ≤ x2.toInt ∧ x2.toInt ≤ 2147483647 := ⟨zlo _, zhi _⟩
        have hc : va_P (dC, dI) vwCl [(h0, .inr (11, mX11 h1 h4 h11 h18 h23 h32 h33 h40 h48 h49 sp0 lw0)), (h49, .inr (1, mX1 h18 h4 h40 h50 h56 h57 h59 h60 h61 h62 h63 h64 h65 h66 h67 h68 v49)), (h65, zi k65 120 f65), (h62, zi k62 120 f62), (h64, zi k64 120 f64), (h63, zi k63 120 f63)] H ∧ va_D A [(h0, .inr (11, mX11 h1 h4 h11 h18 h23 h32 h33 h40 h48 h49 sp0 lw0)), (h49, .inr (1, mX1 h18 h4 h40 h50 h56 h57 h59 h60 h61 h62 h63 h64 h65 h66 h67 h68 v49)), (h65, zi k65 120 f65), (h62, zi k62 120 f62), (h64, zi k64 120 f64), (h63, zi k63 120 f63)] ∧ va_S A s.heap H locs ∧ lv_has ls 3 [(0, .ref h0), (1, .int x1), (2, .int x2)] ∧ (x1.toInt < 0 ∨ (v49 16).toInt ≤ x1.toInt) := ⟨hP, hD, hS, lv_sub hl [0, 1, 2] rfl, by omega⟩
        exact hJ15 H locs ls (fun _ => 0) (fun _ => 0) (fun _ => (fun _ => 0)) (fun _ => (fun _ => 0)) hc
set_option maxHeartbeats 8000000 in
set_option maxRecDepth 100000 in
theorem sX11_code_0 (l : Launch) (hl0 : l.stackTraces = false) (dC : Nat → ClassId) (dI : Nat → Nat → Nat) (adK adV : Nat → Nat) (h0 : Nat) (h40 : Nat) (h47 : Nat) (h1 : Nat) (h4 : Nat) (h11 : Nat) (h18 : Nat) (h23 : Nat) (h32 : Nat) (h33 : Nat) (h48 : Nat) (h49 : Nat) (h41 : Nat) (h42 : Nat) (h43 : Nat) (h44 : Nat) (h45 : Nat) (h46 : Nat) (k47 : ClassId) (sz : Nat) (sp0 : Value) (lw0 : Int64) (v40 : Nat → Int32) (f47 : Nat → Int32) (x1 : Int32) (hv40 : zR rg_Query v40) (hf47 : zA 0 12000 f47) : vx_Met l yX11_code (zw yX11_code cX11_code 2 (some .int)) { frames := 8, cells := 1, slots := 6, locals := 120 } (zPc dC dI adK adV [.ref h0, .int x1] sz [(h0, .inr (11, mX11 h1 h4 h11 h18 h23 h32 h33 h40 h48 h49 sp0 lw0)), (h40, .inr (7, mX7 h41 h42 h43 h44 h45 h46 h47 v40)), (h47, zi k47 270 f47)] [(k47, .int)]) (va_Qi (fun (r : Int32) (u : Nat → Int32) => ((-1) ≤ r.toInt ∧ r.toInt ≤ 12000)) (fun (u : Nat → Int32) (t : State) => ∃ (ww : Nat → Int64) (aa : Nat → Nat → Int32) (bb : Nat → Nat → Int64), va_P (dC, dI) vwCl [(h0, .inr (11, mX11 h1 h4 h11 h18 h23 h32 h33 h40 h48 h49 sp0 lw0)), (h40, .inr (7, mX7 h41 h42 h43 h44 h45 h46 h47 v40)), (h47, zi k47 270 f47)] t.heap ∧ va_K (dC, dI) vwCl [(k47, .int)] t ∧ va_D (va_A [(h0, .inr (11, mX11 h1 h4 h11 h18 h23 h32 h33 h40 h48 h49 sp0 lw0)), (h40, .inr (7, mX7 h41 h42 h43 h44 h45 h46 h47 v40)), (h47, zi k47 270 f47)] sz) [(h0, .inr (11, mX11 h1 h4 h11 h18 h23 h32 h33 h40 h48 h49 sp0 lw0)), (h40, .inr (7, mX7 h41 h42 h43 h44 h45 h46 h47 v40)), (h47, zi k47 270 f47)]) (va_A [(h0, .inr (11, mX11 h1 h4 h11 h18 h23 h32 h33 h40 h48 h49 sp0 lw0)), (h40, .inr (7, mX7 h41 h42 h43 h44 h45 h46 h47 v40)), (h47, zi k47 270 f47)] sz)) (vx_X (fun (u : Nat → Int32) => True) (fun (E : String) (u : Nat → Int32) (t : State) => E = "java/lang/IndexOutOfBoundsException" ∧ ∃ (ww : Nat → Int64) (aa : Nat → Nat → Int32) (bb : Nat → Nat → Int64), va_P (dC, dI) vwCl [(h0, .inr (11, mX11 h1 h4 h11 h18 h23 h32 h33 h40 h48 h49 sp0 lw0)), (h40, .inr (7, mX7 h41 h42 h43 h44 h45 h46 h47 v40)), (h47, zi k47 270 f47)] t.heap ∧ va_K (dC, dI) vwCl [(k47, .int)] t ∧ va_D (va_A [(h0, .inr (11, mX11 h1 h4 h11 h18 h23 h32 h33 h40 h48 h49 sp0 lw0)), (h40, .inr (7, mX7 h41 h42 h43 h44 h45 h46 h47 v40)), (h47, zi k47 270 f47)] sz) [(h0, .inr (11, mX11 h1 h4 h11 h18 h23 h32 h33 h40 h48 h49 sp0 lw0)), (h40, .inr (7, mX7 h41 h42 h43 h44 h45 h46 h47 v40)), (h47, zi k47 270 f47)]) (va_A [(h0, .inr (11, mX11 h1 h4 h11 h18 h23 h32 h33 h40 h48 h49 sp0 lw0)), (h40, .inr (7, mX7 h41 h42 h43 h44 h45 h46 h47 v40)), (h47, zi k47 270 f47)] sz)) 1 6 (va_A [(h0, .inr (11, mX11 h1 h4 h11 h18 h23 h32 h33 h40 h48 h49 sp0 lw0)), (h40, .inr (7, mX7 h41 h42 h43 h44 h45 h46 h47 v40)), (h47, zi k47 270 f47)] sz) := by
  refine vx_ofW (cc := cX11_code) (maxL := 2) (ret := (some .int)) (by decide) rfl ?_
  intro p e s m args below meth c s₁ B hml hout hv
  obtain ⟨rfl, hsz, hP, hK, hD0, hE, hZ⟩ := hv
  have hx := B.exec
  have hb := B.bytes
  have hr := B.returns
  have hG : ∀ w ∈ zG, w.before _ s = true := fun w h => atoms_spec (ws := (zw yX11_code cX11_code 2 (some .int))) B.pre w (List.mem_cons_of_mem _ h)
  have hown : s.vm.findClass RX11 = some m.cls := findClass_of_methodNamed B.named
  have hlocks := B.notSynchronized

  subst hsz
  have hD := hD0.self (sz := s.heap.size)
  generalize hAe : va_A [(h0, .inr (11, mX11 h1 h4 h11 h18 h23 h32 h33 h40 h48 h49 sp0 lw0)), (h40, .inr (7, mX7 h41 h42 h43 h44 h45 h46 h47 v40)), (h47, zi k47 270 f47)] s.heap.size = A at hD hZ ⊢
  have hA : ∀ q : Nat, s.heap.size ≤ q → A q := fun q h => by rw [← hAe]; exact Or.inr h
  have hS : va_S A s.heap s.heap [] := va_S.rf
  have hl := lv_entry ([.ref h0, .int x1]) (n := 2) (Nat.le_of_ble_eq_true rfl)
  rw [lg_entry_eq]
  generalize (lg_sl ([.ref h0, .int x1]) ++ List.replicate (2 - (lg_sl ([.ref h0, .int x1])).length) Slot.unset).toArray = ls at hl ⊢
  have hl : lv_has ls 2 [(0, .ref h0), (1, .int x1)] := hl
  refine lv_iload_n hx hb dX11_code_0 rfl (lv_at hl 1 rfl) ?_
  have b_ : -2147483648 ≤ x1.toInt ∧ x1.toInt ≤ 2147483647 := ⟨zlo _, zhi _⟩
  refine lv_if_ge (tgt := 15) hx hb dX11_code_1 (by decide) (fun c_ => ?_) (fun c_ => ?_)
  · skip
    have b_ := zT_ge rfl zk_0 c_
    refine lv_aload_n hx hb dX11_code_15 rfl (lv_at hl 0 rfl) ?_
    refine va_get (D := (dC, dI)) (ci := 11) (v := .ref h40) (C := RX11) (T := TX11) (N := 12) hx hb hG zuX11 hown hK hP 0 rfl rfl 7 (by decide) (hG _ zv564) (fun _ h9 => h9) rfl dX11_code_16 ?_
    refine lv_iload_n hx hb dX11_code_19 rfl (lv_at hl 1 rfl) ?_
    have hPc := hP.sub (ws' := [(h40, .inr (7, mX7 h41 h42 h43 h44 h45 h46 h47 v40)), (h47, zi k47 270 f47)]) [1, 2] rfl
    have hDc := hD.sub (ws' := [(h40, .inr (7, mX7 h41 h42 h43 h44 h45 h46 h47 v40)), (h47, zi k47 270 f47)]) [1, 2] (by decide) rfl
    have hKc := hK.sub (tys' := [(k47, .int)]) [0] rfl
    have hFc := va_free (wc := [(h40, .inr (7, mX7 h41 h42 h43 h44 h45 h46 h47 v40)), (h47, zi k47 270 f47)]) hD hS hA [1, 2] rfl
    refine va_calli (va_runV (As := [.int x1]) (rest := []) ⟨hx, hb, hml, hown, hG⟩ (sX7_stepAt_0 l dC dI adK adV h40 h47 h41 h42 h43 h44 h45 h46 k47 s.heap.size v40 f47 x1 hv40 hf47) (cwV 1 hG (zgV zv1550 zv1303 zv1304 zv136 zv1305) rfl rfl rfl (by decide +kernel) ⟨Nat.le_of_ble_eq_true rfl, Nat.le_of_ble_eq_true rfl⟩) ⟨zPc_blind, va_recv hKc hPc (ci := 7) (q0 := 0) rfl rfl, zPc_pre hPc hKc hDc hE hS hFc hZ⟩ rfl rfl hl.1 rfl (lv_room (Nat.le_of_ble_eq_true rfl)) dX11_code_20 ⟨Nat.le_of_ble_eq_true rfl, Nat.le_of_ble_eq_true rfl⟩) hS (fun q _ h => hFc q h) hFc (fun r20_ u20_ t H1 locs ht hvm hw hB hz1 hk1 hS => ?_)
    replace hw : ((-1) ≤ r20_.toInt ∧ r20_.toInt ≤ 12000) ∧ (0 ≤ x1.toInt ∧ x1.toInt < (v40 9).toInt → 0 ≤ r20_.toInt) ∧ (0 ≤ x1.toInt ∧ x1.toInt < (v40 9).toInt → r20_.toInt = (f47 ((x1 : Int32)).toNatClampNeg).toInt) := hw
    obtain ⟨b_, hX20_0, hX20_1⟩ := hw
    obtain ⟨w20_, a20_, b20_, hP1, hK1, hD1⟩ := hB
    rw [ht] at hP1
    obtain ⟨hP, hD⟩ := va_join (wr := [(h0, .inr (11, mX11 h1 h4 h11 h18 h23 h32 h33 h40 h48 h49 sp0 lw0))]) (w1 := [(h40, .inr (7, mX7 h41 h42 h43 h44 h45 h46 h47 v40)), (h47, zi k47 270 f47)]) hP hD [1, 2] [0] rfl rfl (by decide) (by decide) hk1 hFc hP1 hD1
    have hP : va_P (dC, dI) vwCl [(h0, .inr (11, mX11 h1 h4 h11 h18 h23 h32 h33 h40 h48 h49 sp0 lw0)), (h40, .inr (7, mX7 h41 h42 h43 h44 h45 h46 h47 v40)), (h47, zi k47 270 f47)] H1 := hP.sub [0, 1, 2] rfl
    have hD : va_D A [(h0, .inr (11, mX11 h1 h4 h11 h18 h23 h32 h33 h40 h48 h49 sp0 lw0)), (h40, .inr (7, mX7 h41 h42 h43 h44 h45 h46 h47 v40)), (h47, zi k47 270 f47)] := hD.sub [0, 1, 2] (by decide) rfl
    generalize H1 = H at hP hS ⊢
    clear hz1
    refine W.widen (k := 1) (n := 6) (by decide) (by decide) ?_
    have hpost : ((-1) ≤ r20_.toInt ∧ r20_.toInt ≤ 12000) := (by first | with_reducible assumption | exact ⟨by omega, by omega⟩)
    have hP9 : va_P (dC, dI) vwCl [(h0, .inr (11, mX11 h1 h4 h11 h18 h23 h32 h33 h40 h48 h49 sp0 lw0)), (h40, .inr (7, mX7 h41 h42 h43 h44 h45 h46 h47 v40)), (h47, zi k47 270 f47)] H := hP
    have hD9 : va_D A [(h0, .inr (11, mX11 h1 h4 h11 h18 h23 h32 h33 h40 h48 h49 sp0 lw0)), (h40, .inr (7, mX7 h41 h42 h43 h44 h45 h46 h47 v40)), (h47, zi k47 270 f47)] := hD
    exact vx_ret (W.iret (v := r20_) hx hb hr (fun t ht hW => ⟨⟨r20_, (fun _ => 0), rfl, hpost, (fun _ => 0), (fun _ => (fun _ => 0)), (fun _ => (fun _ => 0)), by rw [ht]; exact hP9, va_K.moved hW.alike hK, hD9⟩, hS.F ht⟩) hS.2.2 dX11_code_23)
  · skip
    have b_ := zF_ge rfl zk_0 c_
    have hpost : True := trivial
    have hP9 : va_P (dC, dI) vwCl [(h0, .inr (11, mX11 h1 h4 h11 h18 h23 h32 h33 h40 h48 h49 sp0 lw0)), (h40, .inr (7, mX7 h41 h42 h43 h44 h45 h46 h47 v40)), (h47, zi k47 270 f47)] s.heap := hP
    have hD9 : va_D A [(h0, .inr (11, mX11 h1 h4 h11 h18 h23 h32 h33 h40 h48 h49 sp0 lw0)), (h40, .inr (7, mX7 h41 h42 h43 h44 h45 h46 h47 v40)), (h47, zi k47 270 f47)] := hD
    obtain ⟨sa, hstr⟩ := zE_S267 hE
    exact vx_throwSW (names := ["java/lang/RuntimeException", "java/lang/Exception"]) (A := A) hx hb hl0 hown (by decide +kernel) (by decide +kernel) (hG _ zv1411) (hG _ zv154) hstr (zhat hG hE) zAT_ot hZ.1 hZ.2.1 hS (hl.1.trans hml.symm) dX11_code_4 dX11_code_7 dX11_code_8 dX11_code_11 dX11_code_14 (fun x h => (hout x h).elim) (by decide) (by decide +kernel) (Nat.le_of_ble_eq_true rfl) (Nat.le_of_ble_eq_true rfl) hlocks (fun t hvm hz hk => ⟨(fun _ => 0), hpost, ⟨rfl, (fun _ => 0), (fun _ => (fun _ => 0)), (fun _ => (fun _ => 0)), zkeepP hP9 hk, va_K.moved hvm hK, hD9⟩, zkeepF hS hz hk⟩) hS.2.2 (Nat.le_of_ble_eq_true rfl) (Nat.le_of_ble_eq_true rfl)
set_option maxHeartbeats 8000000 in
set_option maxRecDepth 100000 in
theorem sX7_deepestStack_0 (l : Launch) (dC : Nat → ClassId) (dI : Nat → Nat → Nat) (adK adV : Nat → Nat) (h0 : Nat) (h1 : Nat) (h2 : Nat) (h3 : Nat) (h4 : Nat) (h5 : Nat) (h6 : Nat) (h7 : Nat) (sz : Nat) (v0 : Nat → Int32) (hv0 : zR rg_Query v0) : Met l yX7_deepestStack (zw yX7_deepestStack cX7_deepestStack 1 (some .int)) { frames := 0, cells := 0, slots := 0, locals := 0 } (zPc dC dI adK adV [.ref h0] sz [(h0, .inr (7, mX7 h1 h2 h3 h4 h5 h6 h7 v0))] []) (va_Qi (fun (r : Int32) (u : Nat → Int32) => True) (fun (u : Nat → Int32) (t : State) => ∃ (ww : Nat → Int64) (aa : Nat → Nat → Int32) (bb : Nat → Nat → Int64), va_P (dC, dI) vwCl [(h0, .inr (7, mX7 h1 h2 h3 h4 h5 h6 h7 v0))] t.heap ∧ va_K (dC, dI) vwCl [] t ∧ va_D (va_A [(h0, .inr (7, mX7 h1 h2 h3 h4 h5 h6 h7 v0))] sz) [(h0, .inr (7, mX7 h1 h2 h3 h4 h5 h6 h7 v0))]) (va_A [(h0, .inr (7, mX7 h1 h2 h3 h4 h5 h6 h7 v0))] sz)) 0 0 (va_A [(h0, .inr (7, mX7 h1 h2 h3 h4 h5 h6 h7 v0))] sz) := by
  refine Met.ofW (cc := cX7_deepestStack) (maxL := 1) (ret := (some .int)) (by decide) rfl ?_
  intro p e s m args below meth c s₁ B hml hv
  obtain ⟨rfl, hsz, hP, hK, hD0, hE, hZ⟩ := hv
  have hx := B.exec
  have hb := B.bytes
  have hr := B.returns
  have hG : ∀ w ∈ zG, w.before _ s = true := fun w h => atoms_spec (ws := (zw yX7_deepestStack cX7_deepestStack 1 (some .int))) B.pre w (List.mem_cons_of_mem _ h)
  have hown : s.vm.findClass RX7 = some m.cls := findClass_of_methodNamed B.named
  have hlocks := B.notSynchronized

  subst hsz
  have hD := hD0.self (sz := s.heap.size)
  generalize hAe : va_A [(h0, .inr (7, mX7 h1 h2 h3 h4 h5 h6 h7 v0))] s.heap.size = A at hD hZ ⊢
  have hA : ∀ q : Nat, s.heap.size ≤ q → A q := fun q h => by rw [← hAe]; exact Or.inr h
  have hS : va_S A s.heap s.heap [] := va_S.rf
  have hl := lv_entry ([.ref h0]) (n := 1) (Nat.le_of_ble_eq_true rfl)
  rw [lg_entry_eq]
  generalize (lg_sl ([.ref h0]) ++ List.replicate (1 - (lg_sl ([.ref h0])).length) Slot.unset).toArray = ls at hl ⊢
  have hl : lv_has ls 1 [(0, .ref h0)] := hl
  refine lv_aload_n hx hb dX7_deepestStack_0 rfl (lv_at hl 0 rfl) ?_
  refine va_get (D := (dC, dI)) (ci := 7) (v := .int (v0 11)) (C := RX7) (T := TX7) (N := 12) hx hb hG zuX7 hown hK hP 0 rfl rfl 11 (by decide) (hG _ zv376) (fun _ h9 => h9) rfl dX7_deepestStack_1 ?_
  refine W.widen (k := 0) (n := 0) (by decide) (by decide) ?_
  have b_ : -2147483648 ≤ (v0 11).toInt ∧ (v0 11).toInt ≤ 2147483647 := ⟨zlo _, zhi _⟩
  have hpost : True := trivial
  have hP9 : va_P (dC, dI) vwCl [(h0, .inr (7, mX7 h1 h2 h3 h4 h5 h6 h7 v0))] s.heap := hP
  have hD9 : va_D A [(h0, .inr (7, mX7 h1 h2 h3 h4 h5 h6 h7 v0))] := hD
  exact W.iret (v := (v0 11)) hx hb hr (fun t ht hW => ⟨⟨(v0 11), (fun _ => 0), rfl, hpost, (fun _ => 0), (fun _ => (fun _ => 0)), (fun _ => (fun _ => 0)), by rw [ht]; exact hP9, va_K.moved hW.alike hK, hD9⟩, hS.F ht⟩) hS.2.2 dX7_deepestStack_4
set_option maxHeartbeats 8000000 in
set_option maxRecDepth 100000 in
theorem sX11_deepest_0 (l : Launch) (dC : Nat → ClassId) (dI : Nat → Nat → Nat) (adK adV : Nat → Nat) (h0 : Nat) (h40 : Nat) (h1 : Nat) (h4 : Nat) (h11 : Nat) (h18 : Nat) (h23 : Nat) (h32 : Nat) (h33 : Nat) (h48 : Nat) (h49 : Nat) (h41 : Nat) (h42 : Nat) (h43 : Nat) (h44 : Nat) (h45 : Nat) (h46 : Nat) (h47 : Nat) (sz : Nat) (sp0 : Value) (lw0 : Int64) (v40 : Nat → Int32) (hv40 : zR rg_Query v40) : Met l yX11_deepest (zw yX11_deepest cX11_deepest 1 (some .int)) { frames := 1, cells := 0, slots := 0, locals := 20 } (zPc dC dI adK adV [.ref h0] sz [(h0, .inr (11, mX11 h1 h4 h11 h18 h23 h32 h33 h40 h48 h49 sp0 lw0)), (h40, .inr (7, mX7 h41 h42 h43 h44 h45 h46 h47 v40))] []) (va_Qi (fun (r : Int32) (u : Nat → Int32) => True) (fun (u : Nat → Int32) (t : State) => ∃ (ww : Nat → Int64) (aa : Nat → Nat → Int32) (bb : Nat → Nat → Int64), va_P (dC, dI) vwCl [(h0, .inr (11, mX11 h1 h4 h11 h18 h23 h32 h33 h40 h48 h49 sp0 lw0)), (h40, .inr (7, mX7 h41 h42 h43 h44 h45 h46 h47 v40))] t.heap ∧ va_K (dC, dI) vwCl [] t ∧ va_D (va_A [(h0, .inr (11, mX11 h1 h4 h11 h18 h23 h32 h33 h40 h48 h49 sp0 lw0)), (h40, .inr (7, mX7 h41 h42 h43 h44 h45 h46 h47 v40))] sz) [(h0, .inr (11, mX11 h1 h4 h11 h18 h23 h32 h33 h40 h48 h49 sp0 lw0)), (h40, .inr (7, mX7 h41 h42 h43 h44 h45 h46 h47 v40))]) (va_A [(h0, .inr (11, mX11 h1 h4 h11 h18 h23 h32 h33 h40 h48 h49 sp0 lw0)), (h40, .inr (7, mX7 h41 h42 h43 h44 h45 h46 h47 v40))] sz)) 0 0 (va_A [(h0, .inr (11, mX11 h1 h4 h11 h18 h23 h32 h33 h40 h48 h49 sp0 lw0)), (h40, .inr (7, mX7 h41 h42 h43 h44 h45 h46 h47 v40))] sz) := by
  refine Met.ofW (cc := cX11_deepest) (maxL := 1) (ret := (some .int)) (by decide) rfl ?_
  intro p e s m args below meth c s₁ B hml hv
  obtain ⟨rfl, hsz, hP, hK, hD0, hE, hZ⟩ := hv
  have hx := B.exec
  have hb := B.bytes
  have hr := B.returns
  have hG : ∀ w ∈ zG, w.before _ s = true := fun w h => atoms_spec (ws := (zw yX11_deepest cX11_deepest 1 (some .int))) B.pre w (List.mem_cons_of_mem _ h)
  have hown : s.vm.findClass RX11 = some m.cls := findClass_of_methodNamed B.named
  have hlocks := B.notSynchronized

  subst hsz
  have hD := hD0.self (sz := s.heap.size)
  generalize hAe : va_A [(h0, .inr (11, mX11 h1 h4 h11 h18 h23 h32 h33 h40 h48 h49 sp0 lw0)), (h40, .inr (7, mX7 h41 h42 h43 h44 h45 h46 h47 v40))] s.heap.size = A at hD hZ ⊢
  have hA : ∀ q : Nat, s.heap.size ≤ q → A q := fun q h => by rw [← hAe]; exact Or.inr h
  have hS : va_S A s.heap s.heap [] := va_S.rf
  have hl := lv_entry ([.ref h0]) (n := 1) (Nat.le_of_ble_eq_true rfl)
  rw [lg_entry_eq]
  generalize (lg_sl ([.ref h0]) ++ List.replicate (1 - (lg_sl ([.ref h0])).length) Slot.unset).toArray = ls at hl ⊢
  have hl : lv_has ls 1 [(0, .ref h0)] := hl
  refine lv_aload_n hx hb dX11_deepest_0 rfl (lv_at hl 0 rfl) ?_
  refine va_get (D := (dC, dI)) (ci := 11) (v := .ref h40) (C := RX11) (T := TX11) (N := 12) hx hb hG zuX11 hown hK hP 0 rfl rfl 7 (by decide) (hG _ zv564) (fun _ h9 => h9) rfl dX11_deepest_1 ?_
  have hPc := hP.sub (ws' := [(h40, .inr (7, mX7 h41 h42 h43 h44 h45 h46 h47 v40))]) [1] rfl
  have hDc := hD.sub (ws' := [(h40, .inr (7, mX7 h41 h42 h43 h44 h45 h46 h47 v40))]) [1] (by decide) rfl
  have hKc := hK.sub (tys' := []) [] rfl
  have hFc := va_free (wc := [(h40, .inr (7, mX7 h41 h42 h43 h44 h45 h46 h47 v40))]) hD hS hA [1] rfl
  refine va_calli (va_runV (As := []) (rest := []) ⟨hx, hb, hml, hown, hG⟩ (sX7_deepestStack_0 l dC dI adK adV h40 h41 h42 h43 h44 h45 h46 h47 s.heap.size v40 hv40) (cwV 0 hG (zgV zv1372 zv1373 zv1374 zv136 zv1375) rfl rfl rfl (by decide +kernel) ⟨Nat.le_of_ble_eq_true rfl, Nat.le_of_ble_eq_true rfl⟩) ⟨zPc_blind, va_recv hKc hPc (ci := 7) (q0 := 0) rfl rfl, zPc_pre hPc hKc hDc hE hS hFc hZ⟩ rfl rfl hl.1 rfl (lv_room (Nat.le_of_ble_eq_true rfl)) dX11_deepest_4 ⟨Nat.le_of_ble_eq_true rfl, Nat.le_of_ble_eq_true rfl⟩) hS (fun q _ h => hFc q h) hFc (fun r4_ u4_ t H1 locs ht hvm hw hB hz1 hk1 hS => ?_)
  obtain ⟨w4_, a4_, b4_, hP1, hK1, hD1⟩ := hB
  rw [ht] at hP1
  obtain ⟨hP, hD⟩ := va_join (wr := [(h0, .inr (11, mX11 h1 h4 h11 h18 h23 h32 h33 h40 h48 h49 sp0 lw0))]) (w1 := [(h40, .inr (7, mX7 h41 h42 h43 h44 h45 h46 h47 v40))]) hP hD [1] [0] rfl rfl (by decide) (by decide) hk1 hFc hP1 hD1
  have hP : va_P (dC, dI) vwCl [(h0, .inr (11, mX11 h1 h4 h11 h18 h23 h32 h33 h40 h48 h49 sp0 lw0)), (h40, .inr (7, mX7 h41 h42 h43 h44 h45 h46 h47 v40))] H1 := hP.sub [0, 1] rfl
  have hD : va_D A [(h0, .inr (11, mX11 h1 h4 h11 h18 h23 h32 h33 h40 h48 h49 sp0 lw0)), (h40, .inr (7, mX7 h41 h42 h43 h44 h45 h46 h47 v40))] := hD.sub [0, 1] (by decide) rfl
  generalize H1 = H at hP hS ⊢
  clear hz1
  refine W.widen (k := 0) (n := 0) (by decide) (by decide) ?_
  have b_ : -2147483648 ≤ r4_.toInt ∧ r4_.toInt ≤ 2147483647 := ⟨zlo _, zhi _⟩
  have hpost : True := trivial
  have hP9 : va_P (dC, dI) vwCl [(h0, .inr (11, mX11 h1 h4 h11 h18 h23 h32 h33 h40 h48 h49 sp0 lw0)), (h40, .inr (7, mX7 h41 h42 h43 h44 h45 h46 h47 v40))] H := hP
  have hD9 : va_D A [(h0, .inr (11, mX11 h1 h4 h11 h18 h23 h32 h33 h40 h48 h49 sp0 lw0)), (h40, .inr (7, mX7 h41 h42 h43 h44 h45 h46 h47 v40))] := hD
  exact W.iret (v := r4_) hx hb hr (fun t ht hW => ⟨⟨r4_, (fun _ => 0), rfl, hpost, (fun _ => 0), (fun _ => (fun _ => 0)), (fun _ => (fun _ => 0)), by rw [ht]; exact hP9, va_K.moved hW.alike hK, hD9⟩, hS.F ht⟩) hS.2.2 dX11_deepest_7
set_option maxHeartbeats 8000000 in
set_option maxRecDepth 100000 in
theorem sX10_spell_0 (l : Launch) (dC : Nat → ClassId) (dI : Nat → Nat → Nat) (adK adV : Nat → Nat) (h0 : Nat) (k0 : ClassId) (sz : Nat) (f0 : Nat → Int32) (y0 : Int64) : Met l yX10_spell (zw yX10_spell cX10_spell 7 (some .int)) { frames := 0, cells := 0, slots := 0, locals := 0 } (zPc dC dI adK adV [.long y0, .ref h0] sz [(h0, zi k0 12 f0)] [(k0, .byte)]) (va_Qi (fun (r : Int32) (u : Nat → Int32) => (0 ≤ r.toInt ∧ r.toInt ≤ 12)) (fun (u : Nat → Int32) (t : State) => ∃ (ww : Nat → Int64) (aa : Nat → Nat → Int32) (bb : Nat → Nat → Int64), va_P (dC, dI) vwCl [(h0, zi k0 12 (aa 0))] t.heap ∧ va_K (dC, dI) vwCl [(k0, .byte)] t ∧ va_D (va_A [(h0, zi k0 12 f0)] sz) [(h0, zi k0 12 (aa 0))]) (va_A [(h0, zi k0 12 f0)] sz)) 0 0 (va_A [(h0, zi k0 12 f0)] sz) := by
  refine Met.ofW (cc := cX10_spell) (maxL := 7) (ret := (some .int)) (by decide) rfl ?_
  intro p e s m args below meth c s₁ B hml hv
  obtain ⟨rfl, hsz, hP, hK, hD0, hE, hZ⟩ := hv
  have hx := B.exec
  have hb := B.bytes
  have hr := B.returns
  have hG : ∀ w ∈ zG, w.before _ s = true := fun w h => atoms_spec (ws := (zw yX10_spell cX10_spell 7 (some .int))) B.pre w (List.mem_cons_of_mem _ h)
  have hown : s.vm.findClass RX10 = some m.cls := findClass_of_methodNamed B.named
  have hlocks := B.notSynchronized

  subst hsz
  have hD := hD0.self (sz := s.heap.size)
  generalize hAe : va_A [(h0, zi k0 12 f0)] s.heap.size = A at hD hZ ⊢
  have hA : ∀ q : Nat, s.heap.size ≤ q → A q := fun q h => by rw [← hAe]; exact Or.inr h
  have hS : va_S A s.heap s.heap [] := va_S.rf
  have hl := lv_entry ([.long y0, .ref h0]) (n := 7) (Nat.le_of_ble_eq_true rfl)
  rw [lg_entry_eq]
  generalize (lg_sl ([.long y0, .ref h0]) ++ List.replicate (7 - (lg_sl ([.long y0, .ref h0])).length) Slot.unset).toArray = ls at hl ⊢
  have hl : lv_has ls 7 [(0, .long y0), (2, .ref h0)] := hl
  have b_ := zk_0
  have b_ := zk_11
  refine lv_lload_n hx hb dX10_spell_0 rfl (lv_at hl 0 rfl) ?_
  refine lv_lstore_n (lv' := [(3, .long y0), (0, .long y0), (2, .ref h0)]) hx hb dX10_spell_1 rfl hl (by decide) rfl (fun ls hl => ?_)
  refine lv_iconst (v := 0) hx hb dX10_spell_2 (by decide) ?_
  refine lv_istore (lv' := [(5, .int 0), (3, .long y0), (0, .long y0), (2, .ref h0)]) hx hb dX10_spell_3 hl (by decide) rfl (fun ls hl => ?_)
  refine lv_bipush (v := 11) hx hb dX10_spell_5 (by decide) ?_
  refine lv_istore (lv' := [(6, .int 11), (5, .int 0), (3, .long y0), (0, .long y0), (2, .ref h0)]) hx hb dX10_spell_7 hl (by decide) rfl (fun ls hl => ?_)
  refine zcutL (fun u9_ => ((u9_ 1).toInt - (-1)).toNat) (fun H locs ls u9_ w9_ a9_ b9_ => va_P (dC, dI) vwCl [(h0, zi k0 12 (a9_ 0))] H ∧ va_D A [(h0, zi k0 12 (a9_ 0))] ∧ va_S A s.heap H locs ∧ lv_has ls 7 [(0, .long y0), (2, .ref h0), (3, .long (w9_ 0)), (5, .int (u9_ 0)), (6, .int (u9_ 1))] ∧ (0 ≤ (u9_ 0).toInt ∧ (u9_ 0).toInt ≤ 12) ∧ ((-1) ≤ (u9_ 1).toInt ∧ (u9_ 1).toInt ≤ 11)) (fun ls u9_ w9_ => F0 m 9 ls []) 0 0 ?_ (fun hJ9 => ?_)
  · skip
    intro H locs ls u9_ w9_ a9_ b9_ hc hJ9
    obtain ⟨hP, hD, hS, hl, b_, b_⟩ := hc
    refine lv_iload hx hb dX10_spell_9 (lv_at hl 4 rfl) ?_
    refine lv_if_lt (tgt := 55) hx hb dX10_spell_11 (by decide) (fun c_ => ?_) (fun c_ => ?_)
    · skip
      have b_ := zT_lt rfl zk_0 c_
      refine lv_iload hx hb dX10_spell_55 (lv_at hl 3 rfl) ?_
      refine W.widen (k := 0) (n := 0) (by decide) (by decide) ?_
      have hpost : (0 ≤ (u9_ 0).toInt ∧ (u9_ 0).toInt ≤ 12) := (by first | with_reducible assumption | exact ⟨by omega, by omega⟩)
      have hP9 : va_P (dC, dI) vwCl [(h0, zi k0 12 (a9_ 0))] H := hP
      have hD9 : va_D A [(h0, zi k0 12 (a9_ 0))] := hD
      exact W.iret (v := (u9_ 0)) hx hb hr (fun t ht hW => ⟨⟨(u9_ 0), (fun _ => 0), rfl, hpost, (fun _ => 0), (fun i => ([(a9_ 0)] : List (Nat → Int32)).getD i (fun _ => 0)), (fun _ => (fun _ => 0)), by rw [ht]; exact hP9, va_K.moved hW.alike hK, hD9⟩, hS.F ht⟩) hS.2.2 dX10_spell_57
    · skip
      have b_ := zF_lt rfl zk_0 c_
      refine lv_aload_n hx hb dX10_spell_14 rfl (lv_at hl 1 rfl) ?_
      refine lv_iload hx hb dX10_spell_15 (lv_at hl 4 rfl) ?_
      refine lv_lload_n hx hb dX10_spell_17 rfl (lv_at hl 2 rfl) ?_
      refine lv_ldc2 hx hb hown (hG _ zv734) dX10_spell_18 ?_
      refine lv_lrem hx hb dX10_spell_21 (by decide) ?_
      refine lv_topl (fun y_21 e_y_21 => ?_)
      refine lv_l2i hx hb dX10_spell_22 rfl ?_
      refine lv_topi (fun z22 e_z22 => ?_)
      have b_ : -2147483648 ≤ z22.toInt ∧ z22.toInt ≤ 2147483647 := ⟨zlo _, zhi _⟩
      refine lv_i2b hx hb dX10_spell_23 rfl ?_
      refine lv_topi (fun z23 e_z23 => ?_)
      have b_ := zi2bB (x := z22) e_z23
      refine va_bast hx hb hK hP hD hS 0 0 rfl rfl (zin_lit ⟨by omega, by omega⟩) dX10_spell_24 (fun H locs hP hD hS => ?_)
      obtain ⟨f_24, e_f_24⟩ : ∃ z : Nat → Int32, z = upd (a9_ 0) ((u9_ 1) : Int32).toNatClampNeg (vp_nar .byte z23) := ⟨_, rfl⟩
      have hP : va_P (dC, dI) vwCl [(h0, zi k0 12 f_24)] H := by rw [e_f_24]; exact hP
      have hD : va_D A [(h0, zi k0 12 f_24)] := by rw [e_f_24]; exact hD
      refine lv_lload_n hx hb dX10_spell_25 rfl (lv_at hl 2 rfl) ?_
      refine lv_ldc2 hx hb hown (hG _ zv734) dX10_spell_26 ?_
      refine lv_ldiv hx hb dX10_spell_29 (by decide) ?_
      refine lv_topl (fun y_29 e_y_29 => ?_)
      refine lv_lstore_n (lv' := [(3, .long y_29), (0, .long y0), (2, .ref h0), (5, .int (u9_ 0)), (6, .int (u9_ 1))]) hx hb dX10_spell_30 rfl hl (by decide) rfl (fun ls hl => ?_)
      refine lv_iload hx hb dX10_spell_31 (lv_at hl 3 rfl) ?_
      refine lv_if_ne (tgt := 49) hx hb dX10_spell_33 (by decide) (fun c_ => ?_) (fun c_ => ?_)
      · skip
        have b_ := zT_ne rfl zk_0 c_
        obtain ⟨z49, e_z49⟩ : ∃ z : Int32, z = (u9_ 1) + Int32.ofInt (-1) := ⟨_, rfl⟩
        have b_ := zadd (x := (u9_ 1)) (y := Int32.ofInt (-1)) rfl (show (Int32.ofInt (-1)).toInt = (-1) from by decide) e_z49 (by omega) (by omega)
        refine lv_iinc (v := z49) (lv' := [(6, .int z49), (3, .long y_29), (0, .long y0), (2, .ref h0), (5, .int (u9_ 0))]) hx hb dX10_spell_49 hl (k := 4) rfl e_z49.symm (by decide) rfl (fun ls hl => ?_)
        refine lv_goto (tgt := 9) hx hb dX10_spell_52 (by decide) ?_
        have hc : va_P (dC, dI) vwCl [(h0, zi k0 12 f_24)] H ∧ va_D A [(h0, zi k0 12 f_24)] ∧ va_S A s.heap H locs ∧ lv_has ls 7 [(0, .long y0), (2, .ref h0), (3, .long y_29), (5, .int (u9_ 0)), (6, .int z49)] ∧ (0 ≤ (u9_ 0).toInt ∧ (u9_ 0).toInt ≤ 12) ∧ ((-1) ≤ z49.toInt ∧ z49.toInt ≤ 11) := ⟨hP, hD, hS, lv_sub hl [2, 3, 1, 4, 0] rfl, (by first | with_reducible assumption | exact ⟨by omega, by omega⟩), (by first | with_reducible assumption | exact ⟨by omega, by omega⟩)⟩
        exact hJ9 H locs ls (fun i => ([(u9_ 0), z49] : List (Int32)).getD i 0) (fun i => ([y_29] : List (Int64)).getD i 0) (fun i => ([f_24] : List (Nat → Int32)).getD i (fun _ => 0)) (fun _ => (fun _ => 0)) hc (show (z49.toInt - (-1)).toNat < ((u9_ 1).toInt - (-1)).toNat from by omega)
      · skip
        have b_ := zF_ne rfl zk_0 c_
        refine lv_aload_n hx hb dX10_spell_36 rfl (lv_at hl 2 rfl) ?_
        refine lv_iload hx hb dX10_spell_37 (lv_at hl 4 rfl) ?_
        refine va_bald hx hb hK hP 0 0 rfl rfl (zin_lit ⟨by omega, by omega⟩) dX10_spell_39 ?_
        refine lv_topi (fun z39 e_z39 => ?_)
        have b_ : -2147483648 ≤ z39.toInt ∧ z39.toInt ≤ 2147483647 := ⟨zlo _, zhi _⟩
        refine lv_if_eq (tgt := 49) hx hb dX10_spell_40 (by decide) (fun c_ => ?_) (fun c_ => ?_)
        · skip
          have b_ := zT_eq rfl zk_0 c_
          obtain ⟨z49, e_z49⟩ : ∃ z : Int32, z = (u9_ 1) + Int32.ofInt (-1) := ⟨_, rfl⟩
          have b_ := zadd (x := (u9_ 1)) (y := Int32.ofInt (-1)) rfl (show (Int32.ofInt (-1)).toInt = (-1) from by decide) e_z49 (by omega) (by omega)
          refine lv_iinc (v := z49) (lv' := [(6, .int z49), (3, .long y_29), (0, .long y0), (2, .ref h0), (5, .int (u9_ 0))]) hx hb dX10_spell_49 hl (k := 4) rfl e_z49.symm (by decide) rfl (fun ls hl => ?_)
          refine lv_goto (tgt := 9) hx hb dX10_spell_52 (by decide) ?_
          have hc : va_P (dC, dI) vwCl [(h0, zi k0 12 f_24)] H ∧ va_D A [(h0, zi k0 12 f_24)] ∧ va_S A s.heap H locs ∧ lv_has ls 7 [(0, .long y0), (2, .ref h0), (3, .long y_29), (5, .int (u9_ 0)), (6, .int z49)] ∧ (0 ≤ (u9_ 0).toInt ∧ (u9_ 0).toInt ≤ 12) ∧ ((-1) ≤ z49.toInt ∧ z49.toInt ≤ 11) := ⟨hP, hD, hS, lv_sub hl [2, 3, 1, 4, 0] rfl, (by first | with_reducible assumption | exact ⟨by omega, by omega⟩), (by first | with_reducible assumption | exact ⟨by omega, by omega⟩)⟩
          exact hJ9 H locs ls (fun i => ([(u9_ 0), z49] : List (Int32)).getD i 0) (fun i => ([y_29] : List (Int64)).getD i 0) (fun i => ([f_24] : List (Nat → Int32)).getD i (fun _ => 0)) (fun _ => (fun _ => 0)) hc (show (z49.toInt - (-1)).toNat < ((u9_ 1).toInt - (-1)).toNat from by omega)
        · skip
          have b_ := zF_eq rfl zk_0 c_
          refine lv_iload hx hb dX10_spell_43 (lv_at hl 4 rfl) ?_
          refine lv_iconst (v := 1) hx hb dX10_spell_45 (by decide) ?_
          refine lv_iadd hx hb dX10_spell_46 ?_
          refine lv_topi (fun z46 e_z46 => ?_)
          have b_ := zadd rfl zk_1 e_z46 (by omega) (by omega)
          refine lv_istore (lv' := [(5, .int z46), (3, .long y_29), (0, .long y0), (2, .ref h0), (6, .int (u9_ 1))]) hx hb dX10_spell_47 hl (by decide) rfl (fun ls hl => ?_)
          obtain ⟨z49, e_z49⟩ : ∃ z : Int32, z = (u9_ 1) + Int32.ofInt (-1) := ⟨_, rfl⟩
          have b_ := zadd (x := (u9_ 1)) (y := Int32.ofInt (-1)) rfl (show (Int32.ofInt (-1)).toInt = (-1) from by decide) e_z49 (by omega) (by omega)
          refine lv_iinc (v := z49) (lv' := [(6, .int z49), (5, .int z46), (3, .long y_29), (0, .long y0), (2, .ref h0)]) hx hb dX10_spell_49 hl (k := 4) rfl e_z49.symm (by decide) rfl (fun ls hl => ?_)
          refine lv_goto (tgt := 9) hx hb dX10_spell_52 (by decide) ?_
          have hc : va_P (dC, dI) vwCl [(h0, zi k0 12 f_24)] H ∧ va_D A [(h0, zi k0 12 f_24)] ∧ va_S A s.heap H locs ∧ lv_has ls 7 [(0, .long y0), (2, .ref h0), (3, .long y_29), (5, .int z46), (6, .int z49)] ∧ (0 ≤ z46.toInt ∧ z46.toInt ≤ 12) ∧ ((-1) ≤ z49.toInt ∧ z49.toInt ≤ 11) := ⟨hP, hD, hS, lv_sub hl [3, 4, 2, 1, 0] rfl, (by first | with_reducible assumption | exact ⟨by omega, by omega⟩), (by first | with_reducible assumption | exact ⟨by omega, by omega⟩)⟩
          exact hJ9 H locs ls (fun i => ([z46, z49] : List (Int32)).getD i 0) (fun i => ([y_29] : List (Int64)).getD i 0) (fun i => ([f_24] : List (Nat → Int32)).getD i (fun _ => 0)) (fun _ => (fun _ => 0)) hc (show (z49.toInt - (-1)).toNat < ((u9_ 1).toInt - (-1)).toNat from by omega)
  · skip
    have hc : va_P (dC, dI) vwCl [(h0, zi k0 12 f0)] s.heap ∧ va_D A [(h0, zi k0 12 f0)] ∧ va_S A s.heap s.heap [] ∧ lv_has ls 7 [(0, .long y0), (2, .ref h0), (3, .long y0), (5, .int 0), (6, .int 11)] ∧ (0 ≤ (0 : Int32).toInt ∧ (0 : Int32).toInt ≤ 12) ∧ ((-1) ≤ (11 : Int32).toInt ∧ (11 : Int32).toInt ≤ 11) := ⟨hP, hD, hS, lv_sub hl [3, 4, 2, 1, 0] rfl, (by first | with_reducible assumption | exact ⟨by omega, by omega⟩), (by first | with_reducible assumption | exact ⟨by omega, by omega⟩)⟩
    exact hJ9 s.heap [] ls (fun i => ([0, 11] : List (Int32)).getD i 0) (fun i => ([y0] : List (Int64)).getD i 0) (fun i => ([f0] : List (Nat → Int32)).getD i (fun _ => 0)) (fun _ => (fun _ => 0)) hc
set_option maxHeartbeats 8000000 in
set_option maxRecDepth 100000 in
theorem sX10_nextCosts_0 (l : Launch) (dC : Nat → ClassId) (dI : Nat → Nat → Nat) (adK adV : Nat → Nat) (h0 : Nat) (h6 : Nat) (h4 : Nat) (h5 : Nat) (h1 : Nat) (h2 : Nat) (h3 : Nat) (k6 : ClassId) (k4 : ClassId) (k5 : ClassId) (sz : Nat) (v0 : Nat → Int32) (f6 : Nat → Int32) (f4 : Nat → Int32) (f5 : Nat → Int32) (x1 : Int32) (x2 : Int32) (hv0 : zR rg_Words400 v0) (hx1 : 1 ≤ x1.toInt ∧ x1.toInt ≤ 12) (hx2 : 0 ≤ x2.toInt ∧ x2.toInt ≤ 12) : Met l yX10_nextCosts (zw yX10_nextCosts cX10_nextCosts 7 (some .int)) { frames := 1, cells := 0, slots := 0, locals := 40 } (zPc dC dI adK adV [.ref h0, .int x1, .int x2] sz [(h0, .inr (10, mX10 h1 h2 h3 h4 h5 h6 v0)), (h6, zi k6 13 f6), (h4, zi k4 12 f4), (h5, zi k5 12 f5)] [(k6, .int), (k4, .byte), (k5, .byte)]) (va_Qi (fun (r : Int32) (u : Nat → Int32) => ((-2147483648) ≤ r.toInt ∧ r.toInt ≤ 12)) (fun (u : Nat → Int32) (t : State) => ∃ (ww : Nat → Int64) (aa : Nat → Nat → Int32) (bb : Nat → Nat → Int64), va_P (dC, dI) vwCl [(h0, .inr (10, mX10 h1 h2 h3 h4 h5 h6 v0)), (h6, zi k6 13 (aa 0)), (h4, zi k4 12 f4), (h5, zi k5 12 f5)] t.heap ∧ va_K (dC, dI) vwCl [(k6, .int), (k4, .byte), (k5, .byte)] t ∧ va_D (va_A [(h0, .inr (10, mX10 h1 h2 h3 h4 h5 h6 v0)), (h6, zi k6 13 f6), (h4, zi k4 12 f4), (h5, zi k5 12 f5)] sz) [(h0, .inr (10, mX10 h1 h2 h3 h4 h5 h6 v0)), (h6, zi k6 13 (aa 0)), (h4, zi k4 12 f4), (h5, zi k5 12 f5)]) (va_A [(h0, .inr (10, mX10 h1 h2 h3 h4 h5 h6 v0)), (h6, zi k6 13 f6), (h4, zi k4 12 f4), (h5, zi k5 12 f5)] sz)) 0 0 (va_A [(h0, .inr (10, mX10 h1 h2 h3 h4 h5 h6 v0)), (h6, zi k6 13 f6), (h4, zi k4 12 f4), (h5, zi k5 12 f5)] sz) := by
  refine Met.ofW (cc := cX10_nextCosts) (maxL := 7) (ret := (some .int)) (by decide) rfl ?_
  intro p e s m args below meth c s₁ B hml hv
  obtain ⟨rfl, hsz, hP, hK, hD0, hE, hZ⟩ := hv
  have hx := B.exec
  have hb := B.bytes
  have hr := B.returns
  have hG : ∀ w ∈ zG, w.before _ s = true := fun w h => atoms_spec (ws := (zw yX10_nextCosts cX10_nextCosts 7 (some .int))) B.pre w (List.mem_cons_of_mem _ h)
  have hown : s.vm.findClass RX10 = some m.cls := findClass_of_methodNamed B.named
  have hlocks := B.notSynchronized

  subst hsz
  have hD := hD0.self (sz := s.heap.size)
  generalize hAe : va_A [(h0, .inr (10, mX10 h1 h2 h3 h4 h5 h6 v0)), (h6, zi k6 13 f6), (h4, zi k4 12 f4), (h5, zi k5 12 f5)] s.heap.size = A at hD hZ ⊢
  have hA : ∀ q : Nat, s.heap.size ≤ q → A q := fun q h => by rw [← hAe]; exact Or.inr h
  have hS : va_S A s.heap s.heap [] := va_S.rf
  have hl := lv_entry ([.ref h0, .int x1, .int x2]) (n := 7) (Nat.le_of_ble_eq_true rfl)
  rw [lg_entry_eq]
  generalize (lg_sl ([.ref h0, .int x1, .int x2]) ++ List.replicate (7 - (lg_sl ([.ref h0, .int x1, .int x2])).length) Slot.unset).toArray = ls at hl ⊢
  have hl : lv_has ls 7 [(0, .ref h0), (1, .int x1), (2, .int x2)] := hl
  have b_ := zk_0
  have b_ := zk_1
  refine lv_aload_n hx hb dX10_nextCosts_0 rfl (lv_at hl 0 rfl) ?_
  refine va_get (D := (dC, dI)) (ci := 10) (v := .ref h6) (C := RX10) (T := TX10) (N := 8) hx hb hG zuX10 hown hK hP 0 rfl rfl 6 (by decide) (hG _ zv195) (fun _ h9 => h9) rfl dX10_nextCosts_1 ?_
  refine lv_iconst (v := 0) hx hb dX10_nextCosts_4 (by decide) ?_
  refine va_iald hx hb hK hP 1 0 rfl rfl (zin_lit (by decide)) dX10_nextCosts_5 ?_
  refine lv_topi (fun z5 e_z5 => ?_)
  refine lv_istore_n (lv' := [(3, .int z5), (0, .ref h0), (1, .int x1), (2, .int x2)]) hx hb dX10_nextCosts_6 rfl hl (by decide) rfl (fun ls hl => ?_)
  refine lv_aload_n hx hb dX10_nextCosts_7 rfl (lv_at hl 1 rfl) ?_
  refine va_get (D := (dC, dI)) (ci := 10) (v := .ref h6) (C := RX10) (T := TX10) (N := 8) hx hb hG zuX10 hown hK hP 0 rfl rfl 6 (by decide) (hG _ zv195) (fun _ h9 => h9) rfl dX10_nextCosts_8 ?_
  refine lv_iconst (v := 0) hx hb dX10_nextCosts_11 (by decide) ?_
  refine lv_iload_n hx hb dX10_nextCosts_12 rfl (lv_at hl 2 rfl) ?_
  refine va_iast hx hb hK hP hD hS 1 0 rfl rfl (zin_lit (by decide)) dX10_nextCosts_13 (fun H locs hP hD hS => ?_)
  obtain ⟨f_13, e_f_13⟩ : ∃ z : Nat → Int32, z = upd f6 (0 : Int32).toNatClampNeg x1 := ⟨_, rfl⟩
  have hP : va_P (dC, dI) vwCl [(h0, .inr (10, mX10 h1 h2 h3 h4 h5 h6 v0)), (h6, zi k6 13 f_13), (h4, zi k4 12 f4), (h5, zi k5 12 f5)] H := by rw [e_f_13]; exact hP
  have hD : va_D A [(h0, .inr (10, mX10 h1 h2 h3 h4 h5 h6 v0)), (h6, zi k6 13 f_13), (h4, zi k4 12 f4), (h5, zi k5 12 f5)] := by rw [e_f_13]; exact hD
  refine lv_iload_n hx hb dX10_nextCosts_14 rfl (lv_at hl 2 rfl) ?_
  refine lv_istore (lv' := [(4, .int x1), (3, .int z5), (0, .ref h0), (1, .int x1), (2, .int x2)]) hx hb dX10_nextCosts_15 hl (by decide) rfl (fun ls hl => ?_)
  refine lv_iconst (v := 1) hx hb dX10_nextCosts_17 (by decide) ?_
  refine lv_istore (lv' := [(5, .int 1), (4, .int x1), (3, .int z5), (0, .ref h0), (1, .int x1), (2, .int x2)]) hx hb dX10_nextCosts_18 hl (by decide) rfl (fun ls hl => ?_)
  refine zcutL (fun u20_ => (13 - (u20_ 2).toInt).toNat) (fun H locs ls u20_ w20_ a20_ b20_ => va_P (dC, dI) vwCl [(h0, .inr (10, mX10 h1 h2 h3 h4 h5 h6 v0)), (h6, zi k6 13 (a20_ 0)), (h4, zi k4 12 f4), (h5, zi k5 12 f5)] H ∧ va_D A [(h0, .inr (10, mX10 h1 h2 h3 h4 h5 h6 v0)), (h6, zi k6 13 (a20_ 0)), (h4, zi k4 12 f4), (h5, zi k5 12 f5)] ∧ va_S A s.heap H locs ∧ lv_has ls 7 [(0, .ref h0), (1, .int x1), (2, .int x2), (3, .int (u20_ 0)), (4, .int (u20_ 1)), (5, .int (u20_ 2))] ∧ ((-2147483648) ≤ (u20_ 1).toInt ∧ (u20_ 1).toInt ≤ 12) ∧ (1 ≤ (u20_ 2).toInt ∧ (u20_ 2).toInt ≤ 13)) (fun ls u20_ w20_ => F0 m 20 ls []) 0 0 ?_ (fun hJ20 => ?_)
  · skip
    intro H locs ls u20_ w20_ a20_ b20_ hc hJ20
    obtain ⟨hP, hD, hS, hl, b_, b_⟩ := hc
    refine lv_iload hx hb dX10_nextCosts_20 (lv_at hl 5 rfl) ?_
    refine lv_iload_n hx hb dX10_nextCosts_22 rfl (lv_at hl 2 rfl) ?_
    refine lv_icmp_gt (tgt := 116) hx hb dX10_nextCosts_23 (by decide) (fun c_ => ?_) (fun c_ => ?_)
    · skip
      have b_ := zT_gt rfl rfl c_
      refine lv_iload hx hb dX10_nextCosts_116 (lv_at hl 4 rfl) ?_
      refine W.widen (k := 0) (n := 0) (by decide) (by decide) ?_
      have hpost : ((-2147483648) ≤ (u20_ 1).toInt ∧ (u20_ 1).toInt ≤ 12) := (by first | with_reducible assumption | exact ⟨by omega, by omega⟩)
      have hP9 : va_P (dC, dI) vwCl [(h0, .inr (10, mX10 h1 h2 h3 h4 h5 h6 v0)), (h6, zi k6 13 (a20_ 0)), (h4, zi k4 12 f4), (h5, zi k5 12 f5)] H := hP
      have hD9 : va_D A [(h0, .inr (10, mX10 h1 h2 h3 h4 h5 h6 v0)), (h6, zi k6 13 (a20_ 0)), (h4, zi k4 12 f4), (h5, zi k5 12 f5)] := hD
      exact W.iret (v := (u20_ 1)) hx hb hr (fun t ht hW => ⟨⟨(u20_ 1), (fun _ => 0), rfl, hpost, (fun _ => 0), (fun i => ([(a20_ 0)] : List (Nat → Int32)).getD i (fun _ => 0)), (fun _ => (fun _ => 0)), by rw [ht]; exact hP9, va_K.moved hW.alike hK, hD9⟩, hS.F ht⟩) hS.2.2 dX10_nextCosts_118
    · skip
      have b_ := zF_gt rfl rfl c_
      refine lv_iload_n hx hb dX10_nextCosts_26 rfl (lv_at hl 3 rfl) ?_
      refine lv_aload_n hx hb dX10_nextCosts_27 rfl (lv_at hl 0 rfl) ?_
      refine va_get (D := (dC, dI)) (ci := 10) (v := .ref h4) (C := RX10) (T := TX10) (N := 8) hx hb hG zuX10 hown hK hP 0 rfl rfl 4 (by decide) (hG _ zv193) (fun _ h9 => h9) rfl dX10_nextCosts_28 ?_
      refine lv_iload_n hx hb dX10_nextCosts_31 rfl (lv_at hl 1 rfl) ?_
      refine lv_iconst (v := 1) hx hb dX10_nextCosts_32 (by decide) ?_
      refine lv_isub hx hb dX10_nextCosts_33 ?_
      refine lv_topi (fun z33 e_z33 => ?_)
      have b_ := zsub rfl zk_1 e_z33 (by omega) (by omega)
      refine va_bald hx hb hK hP 2 1 rfl rfl (zin_lit ⟨by omega, by omega⟩) dX10_nextCosts_34 ?_
      refine lv_topi (fun z34 e_z34 => ?_)
      refine lv_aload_n hx hb dX10_nextCosts_35 rfl (lv_at hl 0 rfl) ?_
      refine va_get (D := (dC, dI)) (ci := 10) (v := .ref h5) (C := RX10) (T := TX10) (N := 8) hx hb hG zuX10 hown hK hP 0 rfl rfl 5 (by decide) (hG _ zv194) (fun _ h9 => h9) rfl dX10_nextCosts_36 ?_
      refine lv_iload hx hb dX10_nextCosts_39 (lv_at hl 5 rfl) ?_
      refine lv_iconst (v := 1) hx hb dX10_nextCosts_41 (by decide) ?_
      refine lv_isub hx hb dX10_nextCosts_42 ?_
      refine lv_topi (fun z42 e_z42 => ?_)
      have b_ := zsub rfl zk_1 e_z42 (by omega) (by omega)
      refine va_bald hx hb hK hP 3 2 rfl rfl (zin_lit ⟨by omega, by omega⟩) dX10_nextCosts_43 ?_
      refine lv_topi (fun z43 e_z43 => ?_)
      refine zcutW (fun H locs ls u52_ w52_ a52_ b52_ => va_P (dC, dI) vwCl [(h0, .inr (10, mX10 h1 h2 h3 h4 h5 h6 v0)), (h6, zi k6 13 (a20_ 0)), (h4, zi k4 12 f4), (h5, zi k5 12 f5)] H ∧ va_D A [(h0, .inr (10, mX10 h1 h2 h3 h4 h5 h6 v0)), (h6, zi k6 13 (a20_ 0)), (h4, zi k4 12 f4), (h5, zi k5 12 f5)] ∧ va_S A s.heap H locs ∧ lv_has ls 7 [(0, .ref h0), (1, .int x1), (2, .int x2), (3, .int (u20_ 0)), (4, .int (u20_ 1)), (5, .int (u20_ 2))] ∧ (0 ≤ (u52_ 0).toInt ∧ (u52_ 0).toInt ≤ 1)) (fun ls u52_ w52_ => F0 m 52 ls [.int (u52_ 0), .int (u20_ 0)]) 0 0 ?_ (fun hJ52 => ?_)
      · skip
        intro H locs ls u52_ w52_ a52_ b52_ hc
        obtain ⟨hP, hD, hS, hl, b_⟩ := hc
        have b_ : -2147483648 ≤ (u20_ 0).toInt ∧ (u20_ 0).toInt ≤ 2147483647 := ⟨zlo _, zhi _⟩
        refine lv_iadd hx hb dX10_nextCosts_52 ?_
        refine lv_topi (fun z52 e_z52 => ?_)
        refine lv_istore (lv' := [(6, .int z52), (0, .ref h0), (1, .int x1), (2, .int x2), (3, .int (u20_ 0)), (4, .int (u20_ 1)), (5, .int (u20_ 2))]) hx hb dX10_nextCosts_53 hl (by decide) rfl (fun ls hl => ?_)
        refine lv_aload_n hx hb dX10_nextCosts_55 rfl (lv_at hl 1 rfl) ?_
        refine va_get (D := (dC, dI)) (ci := 10) (v := .ref h6) (C := RX10) (T := TX10) (N := 8) hx hb hG zuX10 hown hK hP 0 rfl rfl 6 (by decide) (hG _ zv195) (fun _ h9 => h9) rfl dX10_nextCosts_56 ?_
        refine lv_iload hx hb dX10_nextCosts_59 (lv_at hl 6 rfl) ?_
        refine va_iald hx hb hK hP 1 0 rfl rfl (zin_lit ⟨by omega, by omega⟩) dX10_nextCosts_61 ?_
        refine lv_topi (fun z61 e_z61 => ?_)
        refine lv_istore_n (lv' := [(3, .int z61), (6, .int z52), (0, .ref h0), (1, .int x1), (2, .int x2), (4, .int (u20_ 1)), (5, .int (u20_ 2))]) hx hb dX10_nextCosts_62 rfl hl (by decide) rfl (fun ls hl => ?_)
        refine lv_aload_n hx hb dX10_nextCosts_63 rfl (lv_at hl 2 rfl) ?_
        refine va_get (D := (dC, dI)) (ci := 10) (v := .ref h6) (C := RX10) (T := TX10) (N := 8) hx hb hG zuX10 hown hK hP 0 rfl rfl 6 (by decide) (hG _ zv195) (fun _ h9 => h9) rfl dX10_nextCosts_64 ?_
        refine lv_iload hx hb dX10_nextCosts_67 (lv_at hl 6 rfl) ?_
        refine lv_iload hx hb dX10_nextCosts_69 (lv_at hl 1 rfl) ?_
        refine lv_aload_n hx hb dX10_nextCosts_71 rfl (lv_at hl 2 rfl) ?_
        refine va_get (D := (dC, dI)) (ci := 10) (v := .ref h6) (C := RX10) (T := TX10) (N := 8) hx hb hG zuX10 hown hK hP 0 rfl rfl 6 (by decide) (hG _ zv195) (fun _ h9 => h9) rfl dX10_nextCosts_72 ?_
        refine lv_iload hx hb dX10_nextCosts_75 (lv_at hl 6 rfl) ?_
        refine va_iald hx hb hK hP 1 0 rfl rfl (zin_lit ⟨by omega, by omega⟩) dX10_nextCosts_77 ?_
        refine lv_topi (fun z77 e_z77 => ?_)
        refine lv_aload_n hx hb dX10_nextCosts_78 rfl (lv_at hl 2 rfl) ?_
        refine va_get (D := (dC, dI)) (ci := 10) (v := .ref h6) (C := RX10) (T := TX10) (N := 8) hx hb hG zuX10 hown hK hP 0 rfl rfl 6 (by decide) (hG _ zv195) (fun _ h9 => h9) rfl dX10_nextCosts_79 ?_
        refine lv_iload hx hb dX10_nextCosts_82 (lv_at hl 6 rfl) ?_
        refine lv_iconst (v := 1) hx hb dX10_nextCosts_84 (by decide) ?_
        refine lv_isub hx hb dX10_nextCosts_85 ?_
        refine lv_topi (fun z85 e_z85 => ?_)
        have b_ := zsub rfl zk_1 e_z85 (by omega) (by omega)
        refine va_iald hx hb hK hP 1 0 rfl rfl (zin_lit ⟨by omega, by omega⟩) dX10_nextCosts_86 ?_
        refine lv_topi (fun z86 e_z86 => ?_)
        have b_ : -2147483648 ≤ z77.toInt ∧ z77.toInt ≤ 2147483647 := ⟨zlo _, zhi _⟩
        have b_ : -2147483648 ≤ z86.toInt ∧ z86.toInt ≤ 2147483647 := ⟨zlo _, zhi _⟩
        refine va_mmin hx hb (by rw [hml]; exact hl.1.symm) hown (hG _ zv1401) (hG _ zv1385) (hG _ zv152) (hG _ zv1386) (Nat.le_of_ble_eq_true rfl) (Nat.le_of_ble_eq_true rfl) (Nat.le_of_ble_eq_true rfl) (Nat.le_of_ble_eq_true rfl) dX10_nextCosts_87 ?_
        refine lv_topi (fun z87 e_z87 => ?_)
        have b_ := zmin rfl rfl e_z87
        refine lv_iconst (v := 1) hx hb dX10_nextCosts_90 (by decide) ?_
        refine lv_iadd hx hb dX10_nextCosts_91 ?_
        refine lv_topi (fun z91 e_z91 => ?_)
        have b_ : -2147483648 ≤ z52.toInt ∧ z52.toInt ≤ 2147483647 := ⟨zlo _, zhi _⟩
        have b_ : -2147483648 ≤ z91.toInt ∧ z91.toInt ≤ 2147483647 := ⟨zlo _, zhi _⟩
        refine va_mmin hx hb (by rw [hml]; exact hl.1.symm) hown (hG _ zv1401) (hG _ zv1385) (hG _ zv152) (hG _ zv1386) (Nat.le_of_ble_eq_true rfl) (Nat.le_of_ble_eq_true rfl) (Nat.le_of_ble_eq_true rfl) (Nat.le_of_ble_eq_true rfl) dX10_nextCosts_92 ?_
        refine lv_topi (fun z92 e_z92 => ?_)
        have b_ := zmin rfl rfl e_z92
        refine va_iast hx hb hK hP hD hS 1 0 rfl rfl (zin_lit ⟨by omega, by omega⟩) dX10_nextCosts_95 (fun H locs hP hD hS => ?_)
        obtain ⟨f_95, e_f_95⟩ : ∃ z : Nat → Int32, z = upd (a20_ 0) ((u20_ 2) : Int32).toNatClampNeg z92 := ⟨_, rfl⟩
        have hP : va_P (dC, dI) vwCl [(h0, .inr (10, mX10 h1 h2 h3 h4 h5 h6 v0)), (h6, zi k6 13 f_95), (h4, zi k4 12 f4), (h5, zi k5 12 f5)] H := by rw [e_f_95]; exact hP
        have hD : va_D A [(h0, .inr (10, mX10 h1 h2 h3 h4 h5 h6 v0)), (h6, zi k6 13 f_95), (h4, zi k4 12 f4), (h5, zi k5 12 f5)] := by rw [e_f_95]; exact hD
        refine lv_iload hx hb dX10_nextCosts_96 (lv_at hl 5 rfl) ?_
        refine lv_aload_n hx hb dX10_nextCosts_98 rfl (lv_at hl 2 rfl) ?_
        refine va_get (D := (dC, dI)) (ci := 10) (v := .ref h6) (C := RX10) (T := TX10) (N := 8) hx hb hG zuX10 hown hK hP 0 rfl rfl 6 (by decide) (hG _ zv195) (fun _ h9 => h9) rfl dX10_nextCosts_99 ?_
        refine lv_iload hx hb dX10_nextCosts_102 (lv_at hl 6 rfl) ?_
        refine va_iald hx hb hK hP 1 0 rfl rfl (zin_lit ⟨by omega, by omega⟩) dX10_nextCosts_104 ?_
        refine lv_topi (fun z104 e_z104 => ?_)
        have b_ : -2147483648 ≤ z104.toInt ∧ z104.toInt ≤ 2147483647 := ⟨zlo _, zhi _⟩
        refine va_mmin hx hb (by rw [hml]; exact hl.1.symm) hown (hG _ zv1401) (hG _ zv1385) (hG _ zv152) (hG _ zv1386) (Nat.le_of_ble_eq_true rfl) (Nat.le_of_ble_eq_true rfl) (Nat.le_of_ble_eq_true rfl) (Nat.le_of_ble_eq_true rfl) dX10_nextCosts_105 ?_
        refine lv_topi (fun z105 e_z105 => ?_)
        have b_ := zmin rfl rfl e_z105
        refine lv_istore (lv' := [(4, .int z105), (3, .int z61), (6, .int z52), (0, .ref h0), (1, .int x1), (2, .int x2), (5, .int (u20_ 2))]) hx hb dX10_nextCosts_108 hl (by decide) rfl (fun ls hl => ?_)
        obtain ⟨z110, e_z110⟩ : ∃ z : Int32, z = (u20_ 2) + Int32.ofInt 1 := ⟨_, rfl⟩
        have b_ := zadd (x := (u20_ 2)) (y := Int32.ofInt 1) rfl (show (Int32.ofInt 1).toInt = 1 from by decide) e_z110 (by omega) (by omega)
        refine lv_iinc (v := z110) (lv' := [(5, .int z110), (4, .int z105), (3, .int z61), (6, .int z52), (0, .ref h0), (1, .int x1), (2, .int x2)]) hx hb dX10_nextCosts_110 hl (k := 6) rfl e_z110.symm (by decide) rfl (fun ls hl => ?_)
        refine lv_goto (tgt := 20) hx hb dX10_nextCosts_113 (by decide) ?_
        have b_ : -2147483648 ≤ z61.toInt ∧ z61.toInt ≤ 2147483647 := ⟨zlo _, zhi _⟩
        have hc : va_P (dC, dI) vwCl [(h0, .inr (10, mX10 h1 h2 h3 h4 h5 h6 v0)), (h6, zi k6 13 f_95), (h4, zi k4 12 f4), (h5, zi k5 12 f5)] H ∧ va_D A [(h0, .inr (10, mX10 h1 h2 h3 h4 h5 h6 v0)), (h6, zi k6 13 f_95), (h4, zi k4 12 f4), (h5, zi k5 12 f5)] ∧ va_S A s.heap H locs ∧ lv_has ls 7 [(0, .ref h0), (1, .int x1), (2, .int x2), (3, .int z61), (4, .int z105), (5, .int z110)] ∧ ((-2147483648) ≤ z105.toInt ∧ z105.toInt ≤ 12) ∧ (1 ≤ z110.toInt ∧ z110.toInt ≤ 13) := ⟨hP, hD, hS, lv_sub hl [4, 5, 6, 2, 1, 0] rfl, (by first | with_reducible assumption | exact ⟨by omega, by omega⟩), (by first | with_reducible assumption | exact ⟨by omega, by omega⟩)⟩
        exact hJ20 H locs ls (fun i => ([z61, z105, z110] : List (Int32)).getD i 0) (fun _ => 0) (fun i => ([f_95] : List (Nat → Int32)).getD i (fun _ => 0)) (fun _ => (fun _ => 0)) hc (show (13 - z110.toInt).toNat < (13 - (u20_ 2).toInt).toNat from by omega)
      · skip
        have b_ : -2147483648 ≤ z34.toInt ∧ z34.toInt ≤ 2147483647 := ⟨zlo _, zhi _⟩
        have b_ : -2147483648 ≤ z43.toInt ∧ z43.toInt ≤ 2147483647 := ⟨zlo _, zhi _⟩
        refine lv_icmp_ne (tgt := 51) hx hb dX10_nextCosts_44 (by decide) (fun c_ => ?_) (fun c_ => ?_)
        · skip
          have b_ := zT_ne rfl rfl c_
          refine lv_iconst (v := 1) hx hb dX10_nextCosts_51 (by decide) ?_
          have hc : va_P (dC, dI) vwCl [(h0, .inr (10, mX10 h1 h2 h3 h4 h5 h6 v0)), (h6, zi k6 13 (a20_ 0)), (h4, zi k4 12 f4), (h5, zi k5 12 f5)] H ∧ va_D A [(h0, .inr (10, mX10 h1 h2 h3 h4 h5 h6 v0)), (h6, zi k6 13 (a20_ 0)), (h4, zi k4 12 f4), (h5, zi k5 12 f5)] ∧ va_S A s.heap H locs ∧ lv_has ls 7 [(0, .ref h0), (1, .int x1), (2, .int x2), (3, .int (u20_ 0)), (4, .int (u20_ 1)), (5, .int (u20_ 2))] ∧ (0 ≤ (1 : Int32).toInt ∧ (1 : Int32).toInt ≤ 1) := ⟨hP, hD, hS, lv_sub hl [0, 1, 2, 3, 4, 5] rfl, (by first | with_reducible assumption | exact ⟨by omega, by omega⟩)⟩
          exact hJ52 H locs ls (fun i => ([1] : List (Int32)).getD i 0) (fun _ => 0) (fun _ => (fun _ => 0)) (fun _ => (fun _ => 0)) hc
        · skip
          have b_ := zF_ne rfl rfl c_
          refine lv_iconst (v := 0) hx hb dX10_nextCosts_47 (by decide) ?_
          refine lv_goto (tgt := 52) hx hb dX10_nextCosts_48 (by decide) ?_
          have hc : va_P (dC, dI) vwCl [(h0, .inr (10, mX10 h1 h2 h3 h4 h5 h6 v0)), (h6, zi k6 13 (a20_ 0)), (h4, zi k4 12 f4), (h5, zi k5 12 f5)] H ∧ va_D A [(h0, .inr (10, mX10 h1 h2 h3 h4 h5 h6 v0)), (h6, zi k6 13 (a20_ 0)), (h4, zi k4 12 f4), (h5, zi k5 12 f5)] ∧ va_S A s.heap H locs ∧ lv_has ls 7 [(0, .ref h0), (1, .int x1), (2, .int x2), (3, .int (u20_ 0)), (4, .int (u20_ 1)), (5, .int (u20_ 2))] ∧ (0 ≤ (0 : Int32).toInt ∧ (0 : Int32).toInt ≤ 1) := ⟨hP, hD, hS, lv_sub hl [0, 1, 2, 3, 4, 5] rfl, (by first | with_reducible assumption | exact ⟨by omega, by omega⟩)⟩
          exact hJ52 H locs ls (fun i => ([0] : List (Int32)).getD i 0) (fun _ => 0) (fun _ => (fun _ => 0)) (fun _ => (fun _ => 0)) hc
  · skip
    have b_ : -2147483648 ≤ z5.toInt ∧ z5.toInt ≤ 2147483647 := ⟨zlo _, zhi _⟩
    have hc : va_P (dC, dI) vwCl [(h0, .inr (10, mX10 h1 h2 h3 h4 h5 h6 v0)), (h6, zi k6 13 f_13), (h4, zi k4 12 f4), (h5, zi k5 12 f5)] H ∧ va_D A [(h0, .inr (10, mX10 h1 h2 h3 h4 h5 h6 v0)), (h6, zi k6 13 f_13), (h4, zi k4 12 f4), (h5, zi k5 12 f5)] ∧ va_S A s.heap H locs ∧ lv_has ls 7 [(0, .ref h0), (1, .int x1), (2, .int x2), (3, .int z5), (4, .int x1), (5, .int 1)] ∧ ((-2147483648) ≤ x1.toInt ∧ x1.toInt ≤ 12) ∧ (1 ≤ (1 : Int32).toInt ∧ (1 : Int32).toInt ≤ 13) := ⟨hP, hD, hS, lv_sub hl [3, 4, 5, 2, 1, 0] rfl, (by first | with_reducible assumption | exact ⟨by omega, by omega⟩), (by first | with_reducible assumption | exact ⟨by omega, by omega⟩)⟩
    exact hJ20 H locs ls (fun i => ([z5, x1, 1] : List (Int32)).getD i 0) (fun _ => 0) (fun i => ([f_13] : List (Nat → Int32)).getD i (fun _ => 0)) (fun _ => (fun _ => 0)) hc
set_option maxHeartbeats 8000000 in
set_option maxRecDepth 100000 in
theorem sX10_distance_0 (l : Launch) (dC : Nat → ClassId) (dI : Nat → Nat → Nat) (adK adV : Nat → Nat) (h0 : Nat) (h4 : Nat) (h5 : Nat) (h6 : Nat) (h1 : Nat) (h2 : Nat) (h3 : Nat) (k4 : ClassId) (k5 : ClassId) (k6 : ClassId) (sz : Nat) (v0 : Nat → Int32) (f4 : Nat → Int32) (f5 : Nat → Int32) (f6 : Nat → Int32) (y1 : Int64) (y2 : Int64) (x3 : Int32) (hv0 : zR rg_Words400 v0) : Met l yX10_distance (zw yX10_distance cX10_distance 9 (some .int)) { frames := 2, cells := 0, slots := 0, locals := 66 } (zPc dC dI adK adV [.ref h0, .long y1, .long y2, .int x3] sz [(h0, .inr (10, mX10 h1 h2 h3 h4 h5 h6 v0)), (h4, zi k4 12 f4), (h5, zi k5 12 f5), (h6, zi k6 13 f6)] [(k4, .byte), (k5, .byte), (k6, .int)]) (va_Qi (fun (r : Int32) (u : Nat → Int32) => True) (fun (u : Nat → Int32) (t : State) => ∃ (ww : Nat → Int64) (aa : Nat → Nat → Int32) (bb : Nat → Nat → Int64), va_P (dC, dI) vwCl [(h0, .inr (10, mX10 h1 h2 h3 h4 h5 h6 v0)), (h4, zi k4 12 (aa 0)), (h5, zi k5 12 (aa 1)), (h6, zi k6 13 (aa 2))] t.heap ∧ va_K (dC, dI) vwCl [(k4, .byte), (k5, .byte), (k6, .int)] t ∧ va_D (va_A [(h0, .inr (10, mX10 h1 h2 h3 h4 h5 h6 v0)), (h4, zi k4 12 f4), (h5, zi k5 12 f5), (h6, zi k6 13 f6)] sz) [(h0, .inr (10, mX10 h1 h2 h3 h4 h5 h6 v0)), (h4, zi k4 12 (aa 0)), (h5, zi k5 12 (aa 1)), (h6, zi k6 13 (aa 2))]) (va_A [(h0, .inr (10, mX10 h1 h2 h3 h4 h5 h6 v0)), (h4, zi k4 12 f4), (h5, zi k5 12 f5), (h6, zi k6 13 f6)] sz)) 0 0 (va_A [(h0, .inr (10, mX10 h1 h2 h3 h4 h5 h6 v0)), (h4, zi k4 12 f4), (h5, zi k5 12 f5), (h6, zi k6 13 f6)] sz) := by
  refine Met.ofW (cc := cX10_distance) (maxL := 9) (ret := (some .int)) (by decide) rfl ?_
  intro p e s m args below meth c s₁ B hml hv
  obtain ⟨rfl, hsz, hP, hK, hD0, hE, hZ⟩ := hv
  have hx := B.exec
  have hb := B.bytes
  have hr := B.returns
  have hG : ∀ w ∈ zG, w.before _ s = true := fun w h => atoms_spec (ws := (zw yX10_distance cX10_distance 9 (some .int))) B.pre w (List.mem_cons_of_mem _ h)
  have hown : s.vm.findClass RX10 = some m.cls := findClass_of_methodNamed B.named
  have hlocks := B.notSynchronized

  subst hsz
  have hD := hD0.self (sz := s.heap.size)
  generalize hAe : va_A [(h0, .inr (10, mX10 h1 h2 h3 h4 h5 h6 v0)), (h4, zi k4 12 f4), (h5, zi k5 12 f5), (h6, zi k6 13 f6)] s.heap.size = A at hD hZ ⊢
  have hA : ∀ q : Nat, s.heap.size ≤ q → A q := fun q h => by rw [← hAe]; exact Or.inr h
  have hS : va_S A s.heap s.heap [] := va_S.rf
  have hl := lv_entry ([.ref h0, .long y1, .long y2, .int x3]) (n := 9) (Nat.le_of_ble_eq_true rfl)
  rw [lg_entry_eq]
  generalize (lg_sl ([.ref h0, .long y1, .long y2, .int x3]) ++ List.replicate (9 - (lg_sl ([.ref h0, .long y1, .long y2, .int x3])).length) Slot.unset).toArray = ls at hl ⊢
  have hl : lv_has ls 9 [(0, .ref h0), (1, .long y1), (3, .long y2), (5, .int x3)] := hl
  have b_ := zk_0
  have b_ := zk_1
  refine lv_lload_n hx hb dX10_distance_0 rfl (lv_at hl 1 rfl) ?_
  refine lv_aload_n hx hb dX10_distance_1 rfl (lv_at hl 0 rfl) ?_
  refine va_get (D := (dC, dI)) (ci := 10) (v := .ref h4) (C := RX10) (T := TX10) (N := 8) hx hb hG zuX10 hown hK hP 0 rfl rfl 4 (by decide) (hG _ zv193) (fun _ h9 => h9) rfl dX10_distance_2 ?_
  have hPc := hP.sub (ws' := [(h4, zi k4 12 f4)]) [1] rfl
  have hDc := hD.sub (ws' := [(h4, zi k4 12 f4)]) [1] (by decide) rfl
  have hKc := hK.sub (tys' := [(k4, .byte)]) [0] rfl
  have hFc := va_free (wc := [(h4, zi k4 12 f4)]) hD hS hA [1] rfl
  refine va_calli (va_runS (As := [.long y1, .ref h4]) (rest := []) ⟨hx, hb, hml, hown, hG⟩ (sX10_spell_0 l dC dI adK adV h4 k4 s.heap.size f4 y1) (va_cwS 2 hG (zgS zv1391 zv1392 zv131 zv1393) rfl rfl rfl (by decide +kernel) ⟨Nat.le_of_ble_eq_true rfl, Nat.le_of_ble_eq_true rfl⟩) ⟨zPc_blind, zPc_pre hPc hKc hDc hE hS hFc hZ⟩ rfl rfl hl.1 rfl (lv_room (Nat.le_of_ble_eq_true rfl)) dX10_distance_5 ⟨Nat.le_of_ble_eq_true rfl, Nat.le_of_ble_eq_true rfl⟩) hS (fun q _ h => hFc q h) hFc (fun r5_ u5_ t H1 locs ht hvm hw hB hz1 hk1 hS => ?_)
  replace hw : (0 ≤ r5_.toInt ∧ r5_.toInt ≤ 12) := hw
  have b_ := hw
  obtain ⟨w5_, a5_, b5_, hP1, hK1, hD1⟩ := hB
  rw [ht] at hP1
  obtain ⟨hP, hD⟩ := va_join (wr := [(h0, .inr (10, mX10 h1 h2 h3 h4 h5 h6 v0)), (h5, zi k5 12 f5), (h6, zi k6 13 f6)]) (w1 := [(h4, zi k4 12 (a5_ 0))]) hP hD [1] [0, 2, 3] rfl rfl (by decide) (by decide) hk1 hFc hP1 hD1
  have hP : va_P (dC, dI) vwCl [(h0, .inr (10, mX10 h1 h2 h3 h4 h5 h6 v0)), (h4, zi k4 12 (a5_ 0)), (h5, zi k5 12 f5), (h6, zi k6 13 f6)] H1 := hP.sub [0, 3, 1, 2] rfl
  have hD : va_D A [(h0, .inr (10, mX10 h1 h2 h3 h4 h5 h6 v0)), (h4, zi k4 12 (a5_ 0)), (h5, zi k5 12 f5), (h6, zi k6 13 f6)] := hD.sub [0, 3, 1, 2] (by decide) rfl
  generalize H1 = H at hP hS ⊢
  clear hz1
  refine lv_istore (lv' := [(6, .int r5_), (0, .ref h0), (1, .long y1), (3, .long y2), (5, .int x3)]) hx hb dX10_distance_8 hl (by decide) rfl (fun ls hl => ?_)
  refine lv_lload_n hx hb dX10_distance_10 rfl (lv_at hl 3 rfl) ?_
  refine lv_aload_n hx hb dX10_distance_11 rfl (lv_at hl 1 rfl) ?_
  refine va_get (D := (dC, dI)) (ci := 10) (v := .ref h5) (C := RX10) (T := TX10) (N := 8) hx hb hG zuX10 hown hK hP 0 rfl rfl 5 (by decide) (hG _ zv194) (fun _ h9 => h9) rfl dX10_distance_12 ?_
  have hPc := hP.sub (ws' := [(h5, zi k5 12 f5)]) [2] rfl
  have hDc := hD.sub (ws' := [(h5, zi k5 12 f5)]) [2] (by decide) rfl
  have hKc := hK.sub (tys' := [(k5, .byte)]) [1] rfl
  have hFc := va_free (wc := [(h5, zi k5 12 f5)]) hD hS hA [2] rfl
  refine va_calli (va_runS (As := [.long y2, .ref h5]) (rest := []) ⟨hx, hb, hml, hown, hG⟩ (sX10_spell_0 l dC dI adK adV h5 k5 H.size f5 y2) (va_cwS 2 hG (zgS zv1391 zv1392 zv131 zv1393) rfl rfl rfl (by decide +kernel) ⟨Nat.le_of_ble_eq_true rfl, Nat.le_of_ble_eq_true rfl⟩) ⟨zPc_blind, zPc_pre hPc hKc hDc hE hS hFc hZ⟩ rfl rfl hl.1 rfl (lv_room (Nat.le_of_ble_eq_true rfl)) dX10_distance_15 ⟨Nat.le_of_ble_eq_true rfl, Nat.le_of_ble_eq_true rfl⟩) hS (fun q _ h => hFc q h) hFc (fun r15_ u15_ t H1 locs ht hvm hw hB hz1 hk1 hS => ?_)
  replace hw : (0 ≤ r15_.toInt ∧ r15_.toInt ≤ 12) := hw
  have b_ := hw
  obtain ⟨w15_, a15_, b15_, hP1, hK1, hD1⟩ := hB
  rw [ht] at hP1
  obtain ⟨hP, hD⟩ := va_join (wr := [(h0, .inr (10, mX10 h1 h2 h3 h4 h5 h6 v0)), (h4, zi k4 12 (a5_ 0)), (h6, zi k6 13 f6)]) (w1 := [(h5, zi k5 12 (a15_ 0))]) hP hD [2] [0, 1, 3] rfl rfl (by decide) (by decide) hk1 hFc hP1 hD1
  have hP : va_P (dC, dI) vwCl [(h0, .inr (10, mX10 h1 h2 h3 h4 h5 h6 v0)), (h4, zi k4 12 (a5_ 0)), (h5, zi k5 12 (a15_ 0)), (h6, zi k6 13 f6)] H1 := hP.sub [0, 1, 3, 2] rfl
  have hD : va_D A [(h0, .inr (10, mX10 h1 h2 h3 h4 h5 h6 v0)), (h4, zi k4 12 (a5_ 0)), (h5, zi k5 12 (a15_ 0)), (h6, zi k6 13 f6)] := hD.sub [0, 1, 3, 2] (by decide) rfl
  generalize H1 = H at hP hS ⊢
  clear hz1
  refine lv_istore (lv' := [(7, .int r15_), (6, .int r5_), (0, .ref h0), (1, .long y1), (3, .long y2), (5, .int x3)]) hx hb dX10_distance_18 hl (by decide) rfl (fun ls hl => ?_)
  refine lv_iload hx hb dX10_distance_20 (lv_at hl 1 rfl) ?_
  refine lv_iload hx hb dX10_distance_22 (lv_at hl 0 rfl) ?_
  refine lv_isub hx hb dX10_distance_24 ?_
  refine lv_topi (fun z24 e_z24 => ?_)
  have b_ := zsub rfl rfl e_z24 (by omega) (by omega)
  refine va_mabs hx hb (by rw [hml]; exact hl.1.symm) hown (hG _ zv1394) (hG _ zv1395) (hG _ zv152) (hG _ zv1396) (Nat.le_of_ble_eq_true rfl) (Nat.le_of_ble_eq_true rfl) (Nat.le_of_ble_eq_true rfl) (Nat.le_of_ble_eq_true rfl) dX10_distance_25 ?_
  refine lv_topi (fun z25 e_z25 => ?_)
  refine lv_iload hx hb dX10_distance_28 (lv_at hl 5 rfl) ?_
  have b_ : -2147483648 ≤ z25.toInt ∧ z25.toInt ≤ 2147483647 := ⟨zlo _, zhi _⟩
  have b_ : -2147483648 ≤ x3.toInt ∧ x3.toInt ≤ 2147483647 := ⟨zlo _, zhi _⟩
  refine lv_icmp_le (tgt := 38) hx hb dX10_distance_30 (by decide) (fun c_ => ?_) (fun c_ => ?_)
  · skip
    have b_ := zT_le rfl rfl c_
    refine lv_iconst (v := 0) hx hb dX10_distance_38 (by decide) ?_
    refine lv_istore (lv' := [(8, .int 0), (7, .int r15_), (6, .int r5_), (0, .ref h0), (1, .long y1), (3, .long y2), (5, .int x3)]) hx hb dX10_distance_39 hl (by decide) rfl (fun ls hl => ?_)
    refine zcutL (fun u41_ => (13 - (u41_ 0).toInt).toNat) (fun H locs ls u41_ w41_ a41_ b41_ => va_P (dC, dI) vwCl [(h0, .inr (10, mX10 h1 h2 h3 h4 h5 h6 v0)), (h4, zi k4 12 (a5_ 0)), (h5, zi k5 12 (a15_ 0)), (h6, zi k6 13 (a41_ 0))] H ∧ va_D A [(h0, .inr (10, mX10 h1 h2 h3 h4 h5 h6 v0)), (h4, zi k4 12 (a5_ 0)), (h5, zi k5 12 (a15_ 0)), (h6, zi k6 13 (a41_ 0))] ∧ va_S A s.heap H locs ∧ lv_has ls 9 [(0, .ref h0), (1, .long y1), (3, .long y2), (5, .int x3), (6, .int r5_), (7, .int r15_), (8, .int (u41_ 0))] ∧ (0 ≤ (u41_ 0).toInt ∧ (u41_ 0).toInt ≤ 13)) (fun ls u41_ w41_ => F0 m 41 ls []) 0 0 ?_ (fun hJ41 => ?_)
    · skip
      intro H locs ls u41_ w41_ a41_ b41_ hc hJ41
      obtain ⟨hP, hD, hS, hl, b_⟩ := hc
      refine lv_iload hx hb dX10_distance_41 (lv_at hl 6 rfl) ?_
      refine lv_iload hx hb dX10_distance_43 (lv_at hl 5 rfl) ?_
      refine lv_icmp_gt (tgt := 63) hx hb dX10_distance_45 (by decide) (fun c_ => ?_) (fun c_ => ?_)
      · skip
        have b_ := zT_gt rfl rfl c_
        refine lv_iconst (v := 1) hx hb dX10_distance_63 (by decide) ?_
        refine lv_istore (lv' := [(8, .int 1), (0, .ref h0), (1, .long y1), (3, .long y2), (5, .int x3), (6, .int r5_), (7, .int r15_)]) hx hb dX10_distance_64 hl (by decide) rfl (fun ls hl => ?_)
        refine zcutL (fun u66_ => (13 - (u66_ 0).toInt).toNat) (fun H locs ls u66_ w66_ a66_ b66_ => va_P (dC, dI) vwCl [(h0, .inr (10, mX10 h1 h2 h3 h4 h5 h6 v0)), (h4, zi k4 12 (a5_ 0)), (h5, zi k5 12 (a15_ 0)), (h6, zi k6 13 (a66_ 0))] H ∧ va_D A [(h0, .inr (10, mX10 h1 h2 h3 h4 h5 h6 v0)), (h4, zi k4 12 (a5_ 0)), (h5, zi k5 12 (a15_ 0)), (h6, zi k6 13 (a66_ 0))] ∧ va_S A s.heap H locs ∧ lv_has ls 9 [(0, .ref h0), (1, .long y1), (3, .long y2), (5, .int x3), (6, .int r5_), (7, .int r15_), (8, .int (u66_ 0))] ∧ (1 ≤ (u66_ 0).toInt ∧ (u66_ 0).toInt ≤ 13)) (fun ls u66_ w66_ => F0 m 66 ls []) 0 0 ?_ (fun hJ66 => ?_)
        · skip
          intro H locs ls u66_ w66_ a66_ b66_ hc hJ66
          obtain ⟨hP, hD, hS, hl, b_⟩ := hc
          refine lv_iload hx hb dX10_distance_66 (lv_at hl 6 rfl) ?_
          refine lv_iload hx hb dX10_distance_68 (lv_at hl 4 rfl) ?_
          refine lv_icmp_gt (tgt := 97) hx hb dX10_distance_70 (by decide) (fun c_ => ?_) (fun c_ => ?_)
          · skip
            have b_ := zT_gt rfl rfl c_
            refine lv_aload_n hx hb dX10_distance_97 rfl (lv_at hl 0 rfl) ?_
            refine va_get (D := (dC, dI)) (ci := 10) (v := .ref h6) (C := RX10) (T := TX10) (N := 8) hx hb hG zuX10 hown hK hP 0 rfl rfl 6 (by decide) (hG _ zv195) (fun _ h9 => h9) rfl dX10_distance_98 ?_
            refine lv_iload hx hb dX10_distance_101 (lv_at hl 5 rfl) ?_
            refine va_iald hx hb hK hP 3 2 rfl rfl (zin_lit ⟨by omega, by omega⟩) dX10_distance_103 ?_
            refine lv_topi (fun z103 e_z103 => ?_)
            refine W.widen (k := 0) (n := 0) (by decide) (by decide) ?_
            have b_ : -2147483648 ≤ z103.toInt ∧ z103.toInt ≤ 2147483647 := ⟨zlo _, zhi _⟩
            have hpost : True := trivial
            have hP9 : va_P (dC, dI) vwCl [(h0, .inr (10, mX10 h1 h2 h3 h4 h5 h6 v0)), (h4, zi k4 12 (a5_ 0)), (h5, zi k5 12 (a15_ 0)), (h6, zi k6 13 (a66_ 0))] H := hP
            have hD9 : va_D A [(h0, .inr (10, mX10 h1 h2 h3 h4 h5 h6 v0)), (h4, zi k4 12 (a5_ 0)), (h5, zi k5 12 (a15_ 0)), (h6, zi k6 13 (a66_ 0))] := hD
            exact W.iret (v := z103) hx hb hr (fun t ht hW => ⟨⟨z103, (fun _ => 0), rfl, hpost, (fun _ => 0), (fun i => ([(a5_ 0), (a15_ 0), (a66_ 0)] : List (Nat → Int32)).getD i (fun _ => 0)), (fun _ => (fun _ => 0)), by rw [ht]; exact hP9, va_K.moved hW.alike hK, hD9⟩, hS.F ht⟩) hS.2.2 dX10_distance_104
          · skip
            have b_ := zF_gt rfl rfl c_
            refine lv_aload_n hx hb dX10_distance_73 rfl (lv_at hl 0 rfl) ?_
            refine lv_iload hx hb dX10_distance_74 (lv_at hl 6 rfl) ?_
            refine lv_iload hx hb dX10_distance_76 (lv_at hl 5 rfl) ?_
            have hPc := hP.sub (ws' := [(h0, .inr (10, mX10 h1 h2 h3 h4 h5 h6 v0)), (h6, zi k6 13 (a66_ 0)), (h4, zi k4 12 (a5_ 0)), (h5, zi k5 12 (a15_ 0))]) [0, 3, 1, 2] rfl
            have hDc := hD.sub (ws' := [(h0, .inr (10, mX10 h1 h2 h3 h4 h5 h6 v0)), (h6, zi k6 13 (a66_ 0)), (h4, zi k4 12 (a5_ 0)), (h5, zi k5 12 (a15_ 0))]) [0, 3, 1, 2] (by decide) rfl
            have hKc := hK.sub (tys' := [(k6, .int), (k4, .byte), (k5, .byte)]) [2, 0, 1] rfl
            have hFc := va_free (wc := [(h0, .inr (10, mX10 h1 h2 h3 h4 h5 h6 v0)), (h6, zi k6 13 (a66_ 0)), (h4, zi k4 12 (a5_ 0)), (h5, zi k5 12 (a15_ 0))]) hD hS hA [0, 3, 1, 2] rfl
            refine va_calli (va_runV (As := [.int (u66_ 0), .int r15_]) (rest := []) ⟨hx, hb, hml, hown, hG⟩ (sX10_nextCosts_0 l dC dI adK adV h0 h6 h4 h5 h1 h2 h3 k6 k4 k5 H.size v0 (a66_ 0) (a5_ 0) (a15_ 0) (u66_ 0) r15_ hv0 (show (1 : Int) ≤ ((u66_ 0) : Int32).toInt ∧ ((u66_ 0) : Int32).toInt ≤ (12 : Int) from (by first | with_reducible assumption | exact ⟨by omega, by omega⟩)) (show (0 : Int) ≤ (r15_ : Int32).toInt ∧ (r15_ : Int32).toInt ≤ (12 : Int) from (by first | with_reducible assumption | exact ⟨by omega, by omega⟩))) (cwV 2 hG (zgV zv1397 zv1399 zv47 zv131 zv1400) rfl rfl rfl (by decide +kernel) ⟨Nat.le_of_ble_eq_true rfl, Nat.le_of_ble_eq_true rfl⟩) ⟨zPc_blind, va_recv hKc hPc (ci := 10) (q0 := 0) rfl rfl, zPc_pre hPc hKc hDc hE hS hFc hZ⟩ rfl rfl hl.1 rfl (lv_room (Nat.le_of_ble_eq_true rfl)) dX10_distance_78 ⟨Nat.le_of_ble_eq_true rfl, Nat.le_of_ble_eq_true rfl⟩) hS (fun q _ h => hFc q h) hFc (fun r78_ u78_ t H1 locs ht hvm hw hB hz1 hk1 hS => ?_)
            replace hw : ((-2147483648) ≤ r78_.toInt ∧ r78_.toInt ≤ 12) := hw
            have b_ := hw
            obtain ⟨w78_, a78_, b78_, hP1, hK1, hD1⟩ := hB
            rw [ht] at hP1
            obtain ⟨hP, hD⟩ := va_join (wr := []) (w1 := [(h0, .inr (10, mX10 h1 h2 h3 h4 h5 h6 v0)), (h6, zi k6 13 (a78_ 0)), (h4, zi k4 12 (a5_ 0)), (h5, zi k5 12 (a15_ 0))]) hP hD [0, 3, 1, 2] [] rfl rfl (by decide) (by decide) hk1 hFc hP1 hD1
            have hP : va_P (dC, dI) vwCl [(h0, .inr (10, mX10 h1 h2 h3 h4 h5 h6 v0)), (h4, zi k4 12 (a5_ 0)), (h5, zi k5 12 (a15_ 0)), (h6, zi k6 13 (a78_ 0))] H1 := hP.sub [0, 2, 3, 1] rfl
            have hD : va_D A [(h0, .inr (10, mX10 h1 h2 h3 h4 h5 h6 v0)), (h4, zi k4 12 (a5_ 0)), (h5, zi k5 12 (a15_ 0)), (h6, zi k6 13 (a78_ 0))] := hD.sub [0, 2, 3, 1] (by decide) rfl
            generalize H1 = H at hP hS ⊢
            clear hz1
            refine lv_iload hx hb dX10_distance_81 (lv_at hl 3 rfl) ?_
            refine lv_icmp_le (tgt := 91) hx hb dX10_distance_83 (by decide) (fun c_ => ?_) (fun c_ => ?_)
            · skip
              have b_ := zT_le rfl rfl c_
              obtain ⟨z91, e_z91⟩ : ∃ z : Int32, z = (u66_ 0) + Int32.ofInt 1 := ⟨_, rfl⟩
              have b_ := zadd (x := (u66_ 0)) (y := Int32.ofInt 1) rfl (show (Int32.ofInt 1).toInt = 1 from by decide) e_z91 (by omega) (by omega)
              refine lv_iinc (v := z91) (lv' := [(8, .int z91), (0, .ref h0), (1, .long y1), (3, .long y2), (5, .int x3), (6, .int r5_), (7, .int r15_)]) hx hb dX10_distance_91 hl (k := 6) rfl e_z91.symm (by decide) rfl (fun ls hl => ?_)
              refine lv_goto (tgt := 66) hx hb dX10_distance_94 (by decide) ?_
              have hc : va_P (dC, dI) vwCl [(h0, .inr (10, mX10 h1 h2 h3 h4 h5 h6 v0)), (h4, zi k4 12 (a5_ 0)), (h5, zi k5 12 (a15_ 0)), (h6, zi k6 13 (a78_ 0))] H ∧ va_D A [(h0, .inr (10, mX10 h1 h2 h3 h4 h5 h6 v0)), (h4, zi k4 12 (a5_ 0)), (h5, zi k5 12 (a15_ 0)), (h6, zi k6 13 (a78_ 0))] ∧ va_S A s.heap H locs ∧ lv_has ls 9 [(0, .ref h0), (1, .long y1), (3, .long y2), (5, .int x3), (6, .int r5_), (7, .int r15_), (8, .int z91)] ∧ (1 ≤ z91.toInt ∧ z91.toInt ≤ 13) := ⟨hP, hD, hS, lv_sub hl [1, 2, 3, 4, 5, 6, 0] rfl, (by first | with_reducible assumption | exact ⟨by omega, by omega⟩)⟩
              exact hJ66 H locs ls (fun i => ([z91] : List (Int32)).getD i 0) (fun _ => 0) (fun i => ([(a78_ 0)] : List (Nat → Int32)).getD i (fun _ => 0)) (fun _ => (fun _ => 0)) hc (show (13 - z91.toInt).toNat < (13 - (u66_ 0).toInt).toNat from by omega)
            · skip
              have b_ := zF_le rfl rfl c_
              refine lv_iload hx hb dX10_distance_86 (lv_at hl 3 rfl) ?_
              refine lv_iconst (v := 1) hx hb dX10_distance_88 (by decide) ?_
              refine lv_iadd hx hb dX10_distance_89 ?_
              refine lv_topi (fun z89 e_z89 => ?_)
              have b_ := zadd rfl zk_1 e_z89 (by omega) (by omega)
              refine W.widen (k := 0) (n := 0) (by decide) (by decide) ?_
              have hpost : True := trivial
              have hP9 : va_P (dC, dI) vwCl [(h0, .inr (10, mX10 h1 h2 h3 h4 h5 h6 v0)), (h4, zi k4 12 (a5_ 0)), (h5, zi k5 12 (a15_ 0)), (h6, zi k6 13 (a78_ 0))] H := hP
              have hD9 : va_D A [(h0, .inr (10, mX10 h1 h2 h3 h4 h5 h6 v0)), (h4, zi k4 12 (a5_ 0)), (h5, zi k5 12 (a15_ 0)), (h6, zi k6 13 (a78_ 0))] := hD
              exact W.iret (v := z89) hx hb hr (fun t ht hW => ⟨⟨z89, (fun _ => 0), rfl, hpost, (fun _ => 0), (fun i => ([(a5_ 0), (a15_ 0), (a78_ 0)] : List (Nat → Int32)).getD i (fun _ => 0)), (fun _ => (fun _ => 0)), by rw [ht]; exact hP9, va_K.moved hW.alike hK, hD9⟩, hS.F ht⟩) hS.2.2 dX10_distance_90
        · skip
          have hc : va_P (dC, dI) vwCl [(h0, .inr (10, mX10 h1 h2 h3 h4 h5 h6 v0)), (h4, zi k4 12 (a5_ 0)), (h5, zi k5 12 (a15_ 0)), (h6, zi k6 13 (a41_ 0))] H ∧ va_D A [(h0, .inr (10, mX10 h1 h2 h3 h4 h5 h6 v0)), (h4, zi k4 12 (a5_ 0)), (h5, zi k5 12 (a15_ 0)), (h6, zi k6 13 (a41_ 0))] ∧ va_S A s.heap H locs ∧ lv_has ls 9 [(0, .ref h0), (1, .long y1), (3, .long y2), (5, .int x3), (6, .int r5_), (7, .int r15_), (8, .int 1)] ∧ (1 ≤ (1 : Int32).toInt ∧ (1 : Int32).toInt ≤ 13) := ⟨hP, hD, hS, lv_sub hl [1, 2, 3, 4, 5, 6, 0] rfl, (by first | with_reducible assumption | exact ⟨by omega, by omega⟩)⟩
          exact hJ66 H locs ls (fun i => ([1] : List (Int32)).getD i 0) (fun _ => 0) (fun i => ([(a41_ 0)] : List (Nat → Int32)).getD i (fun _ => 0)) (fun _ => (fun _ => 0)) hc
      · skip
        have b_ := zF_gt rfl rfl c_
        refine lv_aload_n hx hb dX10_distance_48 rfl (lv_at hl 0 rfl) ?_
        refine va_get (D := (dC, dI)) (ci := 10) (v := .ref h6) (C := RX10) (T := TX10) (N := 8) hx hb hG zuX10 hown hK hP 0 rfl rfl 6 (by decide) (hG _ zv195) (fun _ h9 => h9) rfl dX10_distance_49 ?_
        refine lv_iload hx hb dX10_distance_52 (lv_at hl 6 rfl) ?_
        refine lv_iload hx hb dX10_distance_54 (lv_at hl 6 rfl) ?_
        refine va_iast hx hb hK hP hD hS 3 2 rfl rfl (zin_lit ⟨by omega, by omega⟩) dX10_distance_56 (fun H locs hP hD hS => ?_)
        obtain ⟨f_56, e_f_56⟩ : ∃ z : Nat → Int32, z = upd (a41_ 0) ((u41_ 0) : Int32).toNatClampNeg (u41_ 0) := ⟨_, rfl⟩
        have hP : va_P (dC, dI) vwCl [(h0, .inr (10, mX10 h1 h2 h3 h4 h5 h6 v0)), (h4, zi k4 12 (a5_ 0)), (h5, zi k5 12 (a15_ 0)), (h6, zi k6 13 f_56)] H := by rw [e_f_56]; exact hP
        have hD : va_D A [(h0, .inr (10, mX10 h1 h2 h3 h4 h5 h6 v0)), (h4, zi k4 12 (a5_ 0)), (h5, zi k5 12 (a15_ 0)), (h6, zi k6 13 f_56)] := by rw [e_f_56]; exact hD
        obtain ⟨z57, e_z57⟩ : ∃ z : Int32, z = (u41_ 0) + Int32.ofInt 1 := ⟨_, rfl⟩
        have b_ := zadd (x := (u41_ 0)) (y := Int32.ofInt 1) rfl (show (Int32.ofInt 1).toInt = 1 from by decide) e_z57 (by omega) (by omega)
        refine lv_iinc (v := z57) (lv' := [(8, .int z57), (0, .ref h0), (1, .long y1), (3, .long y2), (5, .int x3), (6, .int r5_), (7, .int r15_)]) hx hb dX10_distance_57 hl (k := 6) rfl e_z57.symm (by decide) rfl (fun ls hl => ?_)
        refine lv_goto (tgt := 41) hx hb dX10_distance_60 (by decide) ?_
        have hc : va_P (dC, dI) vwCl [(h0, .inr (10, mX10 h1 h2 h3 h4 h5 h6 v0)), (h4, zi k4 12 (a5_ 0)), (h5, zi k5 12 (a15_ 0)), (h6, zi k6 13 f_56)] H ∧ va_D A [(h0, .inr (10, mX10 h1 h2 h3 h4 h5 h6 v0)), (h4, zi k4 12 (a5_ 0)), (h5, zi k5 12 (a15_ 0)), (h6, zi k6 13 f_56)] ∧ va_S A s.heap H locs ∧ lv_has ls 9 [(0, .ref h0), (1, .long y1), (3, .long y2), (5, .int x3), (6, .int r5_), (7, .int r15_), (8, .int z57)] ∧ (0 ≤ z57.toInt ∧ z57.toInt ≤ 13) := ⟨hP, hD, hS, lv_sub hl [1, 2, 3, 4, 5, 6, 0] rfl, (by first | with_reducible assumption | exact ⟨by omega, by omega⟩)⟩
        exact hJ41 H locs ls (fun i => ([z57] : List (Int32)).getD i 0) (fun _ => 0) (fun i => ([f_56] : List (Nat → Int32)).getD i (fun _ => 0)) (fun _ => (fun _ => 0)) hc (show (13 - z57.toInt).toNat < (13 - (u41_ 0).toInt).toNat from by omega)
    · skip
      have hc : va_P (dC, dI) vwCl [(h0, .inr (10, mX10 h1 h2 h3 h4 h5 h6 v0)), (h4, zi k4 12 (a5_ 0)), (h5, zi k5 12 (a15_ 0)), (h6, zi k6 13 f6)] H ∧ va_D A [(h0, .inr (10, mX10 h1 h2 h3 h4 h5 h6 v0)), (h4, zi k4 12 (a5_ 0)), (h5, zi k5 12 (a15_ 0)), (h6, zi k6 13 f6)] ∧ va_S A s.heap H locs ∧ lv_has ls 9 [(0, .ref h0), (1, .long y1), (3, .long y2), (5, .int x3), (6, .int r5_), (7, .int r15_), (8, .int 0)] ∧ (0 ≤ (0 : Int32).toInt ∧ (0 : Int32).toInt ≤ 13) := ⟨hP, hD, hS, lv_sub hl [3, 4, 5, 6, 2, 1, 0] rfl, (by first | with_reducible assumption | exact ⟨by omega, by omega⟩)⟩
      exact hJ41 H locs ls (fun i => ([0] : List (Int32)).getD i 0) (fun _ => 0) (fun i => ([f6] : List (Nat → Int32)).getD i (fun _ => 0)) (fun _ => (fun _ => 0)) hc
  · skip
    have b_ := zF_le rfl rfl c_
    refine lv_iload hx hb dX10_distance_33 (lv_at hl 5 rfl) ?_
    refine lv_iconst (v := 1) hx hb dX10_distance_35 (by decide) ?_
    refine lv_iadd hx hb dX10_distance_36 ?_
    refine lv_topi (fun z36 e_z36 => ?_)
    have b_ := zadd rfl zk_1 e_z36 (by omega) (by omega)
    refine W.widen (k := 0) (n := 0) (by decide) (by decide) ?_
    have hpost : True := trivial
    have hP9 : va_P (dC, dI) vwCl [(h0, .inr (10, mX10 h1 h2 h3 h4 h5 h6 v0)), (h4, zi k4 12 (a5_ 0)), (h5, zi k5 12 (a15_ 0)), (h6, zi k6 13 f6)] H := hP
    have hD9 : va_D A [(h0, .inr (10, mX10 h1 h2 h3 h4 h5 h6 v0)), (h4, zi k4 12 (a5_ 0)), (h5, zi k5 12 (a15_ 0)), (h6, zi k6 13 f6)] := hD
    exact W.iret (v := z36) hx hb hr (fun t ht hW => ⟨⟨z36, (fun _ => 0), rfl, hpost, (fun _ => 0), (fun i => ([(a5_ 0), (a15_ 0), f6] : List (Nat → Int32)).getD i (fun _ => 0)), (fun _ => (fun _ => 0)), by rw [ht]; exact hP9, va_K.moved hW.alike hK, hD9⟩, hS.F ht⟩) hS.2.2 dX10_distance_37
set_option maxHeartbeats 8000000 in
set_option maxRecDepth 100000 in
theorem sX11_nearest_0 (l : Launch) (dC : Nat → ClassId) (dI : Nat → Nat → Nat) (adK adV : Nat → Nat) (h0 : Nat) (h1 : Nat) (h2 : Nat) (h3 : Nat) (h4 : Nat) (h5 : Nat) (h8 : Nat) (h9 : Nat) (h10 : Nat) (h6 : Nat) (h32 : Nat) (h23 : Nat) (h29 : Nat) (h27 : Nat) (h24 : Nat) (h25 : Nat) (h26 : Nat) (h28 : Nat) (h18 : Nat) (h19 : Nat) (h11 : Nat) (h33 : Nat) (h40 : Nat) (h48 : Nat) (h49 : Nat) (h7 : Nat) (h30 : Nat) (h31 : Nat) (h20 : Nat) (h21 : Nat) (h22 : Nat) (k2 : ClassId) (k3 : ClassId) (k5 : ClassId) (k8 : ClassId) (k9 : ClassId) (k10 : ClassId) (k6 : ClassId) (k29 : ClassId) (k27 : ClassId) (k24 : ClassId) (k25 : ClassId) (k26 : ClassId) (k28 : ClassId) (k19 : ClassId) (sz : Nat) (sp0 : Value) (lw0 : Int64) (v1 : Nat → Int32) (f2 : Nat → Int32) (f3 : Nat → Int32) (v4 : Nat → Int32) (f5 : Nat → Int64) (f8 : Nat → Int32) (f9 : Nat → Int32) (f10 : Nat → Int32) (f6 : Nat → Int32) (v32 : Nat → Int32) (v23 : Nat → Int32) (f29 : Nat → Int32) (f27 : Nat → Int32) (f24 : Nat → Int32) (f25 : Nat → Int32) (f26 : Nat → Int32) (f28 : Nat → Int32) (v18 : Nat → Int32) (f19 : Nat → Int32) (hv1 : zR rg_Tape v1) (hv4 : zR rg_Words400 v4) (hf6 : zA 0 399 f6) (hv23 : zR rg_Postings v23) (hf25 : zA 0 1250 f25) (hf28 : zA 0 832 f28) (hv18 : zR rg_Documents v18) : Met l yX11_nearest (zw yX11_nearest cX11_nearest 10 (some .int)) { frames := 8, cells := 0, slots := 0, locals := 170 } (zPc dC dI adK adV [.ref h0] sz [(h0, .inr (11, mX11 h1 h4 h11 h18 h23 h32 h33 h40 h48 h49 sp0 lw0)), (h1, .inr (9, mX9 h2 h3 v1)), (h2, zi k2 600 f2), (h3, zi k3 12 f3), (h4, .inr (10, mX10 h5 h6 h7 h8 h9 h10 v4)), (h5, .inl (k5, 400, .inr (.inl f5))), (h8, zi k8 12 f8), (h9, zi k9 12 f9), (h10, zi k10 13 f10), (h6, zi k6 400 f6), (h32, .inr (8, mX8 h23 v32)), (h23, .inr (6, mX6 h24 h25 h26 h27 h28 h29 h30 h31 v23)), (h29, zi k29 400 f29), (h27, zi k27 400 f27), (h24, zi k24 1250 f24), (h25, zi k25 833 f25), (h26, zi k26 833 f26), (h28, zi k28 400 f28), (h18, .inr (0, mX0 h19 h20 h21 h22 v18)), (h19, zi k19 120 f19)] [(k2, .byte), (k3, .byte), (k5, .long), (k8, .byte), (k9, .byte), (k10, .int), (k6, .int), (k29, .int), (k27, .int), (k24, .int), (k25, .int), (k26, .int), (k28, .int), (k19, .boolean)]) (va_Qi (fun (r : Int32) (u : Nat → Int32) => ((-2147483648) ≤ r.toInt ∧ r.toInt ≤ 3) ∧ (0 ≤ (u 0).toInt ∧ (u 0).toInt ≤ 0) ∧ (0 ≤ (u 1).toInt ∧ (u 1).toInt ≤ 12)) (fun (u : Nat → Int32) (t : State) => ∃ (ww : Nat → Int64) (aa : Nat → Nat → Int32) (bb : Nat → Nat → Int64), va_P (dC, dI) vwCl [(h0, .inr (11, mX11 h1 h4 h11 h18 h23 h32 h33 h40 h48 h49 sp0 (ww 0))), (h1, .inr (9, mX9 h2 h3 (upd (upd v1 2 (u 0)) 3 (u 1)))), (h2, zi k2 600 f2), (h3, zi k3 12 (aa 0)), (h4, .inr (10, mX10 h5 h6 h7 h8 h9 h10 v4)), (h5, .inl (k5, 400, .inr (.inl f5))), (h8, zi k8 12 (aa 1)), (h9, zi k9 12 (aa 2)), (h10, zi k10 13 (aa 3)), (h6, zi k6 400 f6), (h32, .inr (8, mX8 h23 (upd (upd (upd (upd (upd (upd (upd (upd v32 1 (u 2)) 2 (u 3)) 3 (u 4)) 4 (u 5)) 5 (u 6)) 6 (u 7)) 7 (u 8)) 8 (u 9)))), (h23, .inr (6, mX6 h24 h25 h26 h27 h28 h29 h30 h31 v23)), (h29, zi k29 400 f29), (h27, zi k27 400 f27), (h24, zi k24 1250 f24), (h25, zi k25 833 f25), (h26, zi k26 833 f26), (h28, zi k28 400 f28), (h18, .inr (0, mX0 h19 h20 h21 h22 v18)), (h19, zi k19 120 f19)] t.heap ∧ va_K (dC, dI) vwCl [(k2, .byte), (k3, .byte), (k5, .long), (k8, .byte), (k9, .byte), (k10, .int), (k6, .int), (k29, .int), (k27, .int), (k24, .int), (k25, .int), (k26, .int), (k28, .int), (k19, .boolean)] t ∧ va_D (va_A [(h0, .inr (11, mX11 h1 h4 h11 h18 h23 h32 h33 h40 h48 h49 sp0 lw0)), (h1, .inr (9, mX9 h2 h3 v1)), (h2, zi k2 600 f2), (h3, zi k3 12 f3), (h4, .inr (10, mX10 h5 h6 h7 h8 h9 h10 v4)), (h5, .inl (k5, 400, .inr (.inl f5))), (h8, zi k8 12 f8), (h9, zi k9 12 f9), (h10, zi k10 13 f10), (h6, zi k6 400 f6), (h32, .inr (8, mX8 h23 v32)), (h23, .inr (6, mX6 h24 h25 h26 h27 h28 h29 h30 h31 v23)), (h29, zi k29 400 f29), (h27, zi k27 400 f27), (h24, zi k24 1250 f24), (h25, zi k25 833 f25), (h26, zi k26 833 f26), (h28, zi k28 400 f28), (h18, .inr (0, mX0 h19 h20 h21 h22 v18)), (h19, zi k19 120 f19)] sz) [(h0, .inr (11, mX11 h1 h4 h11 h18 h23 h32 h33 h40 h48 h49 sp0 (ww 0))), (h1, .inr (9, mX9 h2 h3 (upd (upd v1 2 (u 0)) 3 (u 1)))), (h2, zi k2 600 f2), (h3, zi k3 12 (aa 0)), (h4, .inr (10, mX10 h5 h6 h7 h8 h9 h10 v4)), (h5, .inl (k5, 400, .inr (.inl f5))), (h8, zi k8 12 (aa 1)), (h9, zi k9 12 (aa 2)), (h10, zi k10 13 (aa 3)), (h6, zi k6 400 f6), (h32, .inr (8, mX8 h23 (upd (upd (upd (upd (upd (upd (upd (upd v32 1 (u 2)) 2 (u 3)) 3 (u 4)) 4 (u 5)) 5 (u 6)) 6 (u 7)) 7 (u 8)) 8 (u 9)))), (h23, .inr (6, mX6 h24 h25 h26 h27 h28 h29 h30 h31 v23)), (h29, zi k29 400 f29), (h27, zi k27 400 f27), (h24, zi k24 1250 f24), (h25, zi k25 833 f25), (h26, zi k26 833 f26), (h28, zi k28 400 f28), (h18, .inr (0, mX0 h19 h20 h21 h22 v18)), (h19, zi k19 120 f19)]) (va_A [(h0, .inr (11, mX11 h1 h4 h11 h18 h23 h32 h33 h40 h48 h49 sp0 lw0)), (h1, .inr (9, mX9 h2 h3 v1)), (h2, zi k2 600 f2), (h3, zi k3 12 f3), (h4, .inr (10, mX10 h5 h6 h7 h8 h9 h10 v4)), (h5, .inl (k5, 400, .inr (.inl f5))), (h8, zi k8 12 f8), (h9, zi k9 12 f9), (h10, zi k10 13 f10), (h6, zi k6 400 f6), (h32, .inr (8, mX8 h23 v32)), (h23, .inr (6, mX6 h24 h25 h26 h27 h28 h29 h30 h31 v23)), (h29, zi k29 400 f29), (h27, zi k27 400 f27), (h24, zi k24 1250 f24), (h25, zi k25 833 f25), (h26, zi k26 833 f26), (h28, zi k28 400 f28), (h18, .inr (0, mX0 h19 h20 h21 h22 v18)), (h19, zi k19 120 f19)] sz)) 0 0 (va_A [(h0, .inr (11, mX11 h1 h4 h11 h18 h23 h32 h33 h40 h48 h49 sp0 lw0)), (h1, .inr (9, mX9 h2 h3 v1)), (h2, zi k2 600 f2), (h3, zi k3 12 f3), (h4, .inr (10, mX10 h5 h6 h7 h8 h9 h10 v4)), (h5, .inl (k5, 400, .inr (.inl f5))), (h8, zi k8 12 f8), (h9, zi k9 12 f9), (h10, zi k10 13 f10), (h6, zi k6 400 f6), (h32, .inr (8, mX8 h23 v32)), (h23, .inr (6, mX6 h24 h25 h26 h27 h28 h29 h30 h31 v23)), (h29, zi k29 400 f29), (h27, zi k27 400 f27), (h24, zi k24 1250 f24), (h25, zi k25 833 f25), (h26, zi k26 833 f26), (h28, zi k28 400 f28), (h18, .inr (0, mX0 h19 h20 h21 h22 v18)), (h19, zi k19 120 f19)] sz) := by
  refine Met.ofW (cc := cX11_nearest) (maxL := 10) (ret := (some .int)) (by decide) rfl ?_
  intro p e s m args below meth c s₁ B hml hv
  obtain ⟨rfl, hsz, hP, hK, hD0, hE, hZ⟩ := hv
  have hx := B.exec
  have hb := B.bytes
  have hr := B.returns
  have hG : ∀ w ∈ zG, w.before _ s = true := fun w h => atoms_spec (ws := (zw yX11_nearest cX11_nearest 10 (some .int))) B.pre w (List.mem_cons_of_mem _ h)
  have hown : s.vm.findClass RX11 = some m.cls := findClass_of_methodNamed B.named
  have hlocks := B.notSynchronized

  subst hsz
  have hD := hD0.self (sz := s.heap.size)
  generalize hAe : va_A [(h0, .inr (11, mX11 h1 h4 h11 h18 h23 h32 h33 h40 h48 h49 sp0 lw0)), (h1, .inr (9, mX9 h2 h3 v1)), (h2, zi k2 600 f2), (h3, zi k3 12 f3), (h4, .inr (10, mX10 h5 h6 h7 h8 h9 h10 v4)), (h5, .inl (k5, 400, .inr (.inl f5))), (h8, zi k8 12 f8), (h9, zi k9 12 f9), (h10, zi k10 13 f10), (h6, zi k6 400 f6), (h32, .inr (8, mX8 h23 v32)), (h23, .inr (6, mX6 h24 h25 h26 h27 h28 h29 h30 h31 v23)), (h29, zi k29 400 f29), (h27, zi k27 400 f27), (h24, zi k24 1250 f24), (h25, zi k25 833 f25), (h26, zi k26 833 f26), (h28, zi k28 400 f28), (h18, .inr (0, mX0 h19 h20 h21 h22 v18)), (h19, zi k19 120 f19)] s.heap.size = A at hD hZ ⊢
  have hA : ∀ q : Nat, s.heap.size ≤ q → A q := fun q h => by rw [← hAe]; exact Or.inr h
  have hS : va_S A s.heap s.heap [] := va_S.rf
  have hl := lv_entry ([.ref h0]) (n := 10) (Nat.le_of_ble_eq_true rfl)
  rw [lg_entry_eq]
  generalize (lg_sl ([.ref h0]) ++ List.replicate (10 - (lg_sl ([.ref h0])).length) Slot.unset).toArray = ls at hl ⊢
  have hl : lv_has ls 10 [(0, .ref h0)] := hl
  have b_ := zk_m1
  have b_ := zk_0
  have b_ := zk_3
  refine lv_aload_n hx hb dX11_nearest_0 rfl (lv_at hl 0 rfl) ?_
  refine va_get (D := (dC, dI)) (ci := 11) (v := .ref h1) (C := RX11) (T := TX11) (N := 12) hx hb hG zuX11 hown hK hP 0 rfl rfl 0 (by decide) (hG _ zv557) (fun _ h9 => h9) rfl dX11_nearest_1 ?_
  have hPc := hP.sub (ws' := [(h1, .inr (9, mX9 h2 h3 v1)), (h2, zi k2 600 f2), (h3, zi k3 12 f3)]) [1, 2, 3] rfl
  have hDc := hD.sub (ws' := [(h1, .inr (9, mX9 h2 h3 v1)), (h2, zi k2 600 f2), (h3, zi k3 12 f3)]) [1, 2, 3] (by decide) rfl
  have hKc := hK.sub (tys' := [(k2, .byte), (k3, .byte)]) [0, 1] rfl
  have hFc := va_free (wc := [(h1, .inr (9, mX9 h2 h3 v1)), (h2, zi k2 600 f2), (h3, zi k3 12 f3)]) hD hS hA [1, 2, 3] rfl
  refine va_calll (va_runV (As := []) (rest := []) ⟨hx, hb, hml, hown, hG⟩ (sX9_firstWord_0 l dC dI adK adV h1 h2 h3 k2 k3 s.heap.size v1 f2 f3 hv1) (cwV 0 hG (zgV zv956 zv957 zv958 zv130 zv959) rfl rfl rfl (by decide +kernel) ⟨Nat.le_of_ble_eq_true rfl, Nat.le_of_ble_eq_true rfl⟩) ⟨zPc_blind, va_recv hKc hPc (ci := 9) (q0 := 0) rfl rfl, zPc_pre hPc hKc hDc hE hS hFc hZ⟩ rfl rfl hl.1 rfl (lv_room (Nat.le_of_ble_eq_true rfl)) dX11_nearest_4 ⟨Nat.le_of_ble_eq_true rfl, Nat.le_of_ble_eq_true rfl⟩) hS (fun q _ h => hFc q h) hFc (fun r4_ u4_ t H1 locs ht hvm hw hB hz1 hk1 hS => ?_)
  replace hw : (0 ≤ (u4_ 0).toInt ∧ (u4_ 0).toInt ≤ 12) ∧ (zFW f2 (v1 2).toInt r4_.toInt) := hw
  obtain ⟨b_, hX4_0⟩ := hw
  obtain ⟨w4_, a4_, b4_, hP1, hK1, hD1⟩ := hB
  rw [ht] at hP1
  obtain ⟨hP, hD⟩ := va_join (wr := [(h0, .inr (11, mX11 h1 h4 h11 h18 h23 h32 h33 h40 h48 h49 sp0 lw0)), (h4, .inr (10, mX10 h5 h6 h7 h8 h9 h10 v4)), (h5, .inl (k5, 400, .inr (.inl f5))), (h8, zi k8 12 f8), (h9, zi k9 12 f9), (h10, zi k10 13 f10), (h6, zi k6 400 f6), (h32, .inr (8, mX8 h23 v32)), (h23, .inr (6, mX6 h24 h25 h26 h27 h28 h29 h30 h31 v23)), (h29, zi k29 400 f29), (h27, zi k27 400 f27), (h24, zi k24 1250 f24), (h25, zi k25 833 f25), (h26, zi k26 833 f26), (h28, zi k28 400 f28), (h18, .inr (0, mX0 h19 h20 h21 h22 v18)), (h19, zi k19 120 f19)]) (w1 := [(h1, .inr (9, mX9 h2 h3 (upd v1 3 (u4_ 0)))), (h2, zi k2 600 f2), (h3, zi k3 12 (a4_ 0))]) hP hD [1, 2, 3] [0, 4, 5, 6, 7, 8, 9, 10, 11, 12, 13, 14, 15, 16, 17, 18, 19] rfl rfl (by decide) (by decide) hk1 hFc hP1 hD1
  have hP : va_P (dC, dI) vwCl [(h0, .inr (11, mX11 h1 h4 h11 h18 h23 h32 h33 h40 h48 h49 sp0 lw0)), (h1, .inr (9, mX9 h2 h3 (upd v1 3 (u4_ 0)))), (h2, zi k2 600 f2), (h3, zi k3 12 (a4_ 0)), (h4, .inr (10, mX10 h5 h6 h7 h8 h9 h10 v4)), (h5, .inl (k5, 400, .inr (.inl f5))), (h8, zi k8 12 f8), (h9, zi k9 12 f9), (h10, zi k10 13 f10), (h6, zi k6 400 f6), (h32, .inr (8, mX8 h23 v32)), (h23, .inr (6, mX6 h24 h25 h26 h27 h28 h29 h30 h31 v23)), (h29, zi k29 400 f29), (h27, zi k27 400 f27), (h24, zi k24 1250 f24), (h25, zi k25 833 f25), (h26, zi k26 833 f26), (h28, zi k28 400 f28), (h18, .inr (0, mX0 h19 h20 h21 h22 v18)), (h19, zi k19 120 f19)] H1 := hP.sub [0, 17, 18, 19, 1, 2, 3, 4, 5, 6, 7, 8, 9, 10, 11, 12, 13, 14, 15, 16] rfl
  have hD : va_D A [(h0, .inr (11, mX11 h1 h4 h11 h18 h23 h32 h33 h40 h48 h49 sp0 lw0)), (h1, .inr (9, mX9 h2 h3 (upd v1 3 (u4_ 0)))), (h2, zi k2 600 f2), (h3, zi k3 12 (a4_ 0)), (h4, .inr (10, mX10 h5 h6 h7 h8 h9 h10 v4)), (h5, .inl (k5, 400, .inr (.inl f5))), (h8, zi k8 12 f8), (h9, zi k9 12 f9), (h10, zi k10 13 f10), (h6, zi k6 400 f6), (h32, .inr (8, mX8 h23 v32)), (h23, .inr (6, mX6 h24 h25 h26 h27 h28 h29 h30 h31 v23)), (h29, zi k29 400 f29), (h27, zi k27 400 f27), (h24, zi k24 1250 f24), (h25, zi k25 833 f25), (h26, zi k26 833 f26), (h28, zi k28 400 f28), (h18, .inr (0, mX0 h19 h20 h21 h22 v18)), (h19, zi k19 120 f19)] := hD.sub [0, 17, 18, 19, 1, 2, 3, 4, 5, 6, 7, 8, 9, 10, 11, 12, 13, 14, 15, 16] (by decide) rfl
  generalize H1 = H at hP hS ⊢
  clear hz1
  refine lv_lstore_n (lv' := [(1, .long r4_), (0, .ref h0)]) hx hb dX11_nearest_7 rfl hl (by decide) rfl (fun ls hl => ?_)
  refine lv_aload_n hx hb dX11_nearest_8 rfl (lv_at hl 1 rfl) ?_
  refine va_get (D := (dC, dI)) (ci := 11) (v := .ref h1) (C := RX11) (T := TX11) (N := 12) hx hb hG zuX11 hown hK hP 0 rfl rfl 0 (by decide) (hG _ zv557) (fun _ h9 => h9) rfl dX11_nearest_9 ?_
  have hPc := hP.sub (ws' := [(h1, .inr (9, mX9 h2 h3 (upd v1 3 (u4_ 0))))]) [1] rfl
  have hDc := hD.sub (ws' := [(h1, .inr (9, mX9 h2 h3 (upd v1 3 (u4_ 0))))]) [1] (by decide) rfl
  have hKc := hK.sub (tys' := []) [] rfl
  have hFc := va_free (wc := [(h1, .inr (9, mX9 h2 h3 (upd v1 3 (u4_ 0))))]) hD hS hA [1] rfl
  refine va_callv (va_runV (As := []) (rest := []) ⟨hx, hb, hml, hown, hG⟩ (sX9_clear_0 l dC dI adK adV h1 h2 h3 H.size (upd v1 3 (u4_ 0)) (zR_up2 hv1 3 (show (0 : Int) ≤ ((u4_ 0) : Int32).toInt ∧ ((u4_ 0) : Int32).toInt ≤ (12 : Int) from (by first | with_reducible assumption | exact ⟨by omega, by omega⟩)))) (cwV 0 hG (zgV zv809 zv810 zv811 zv130 zv812) rfl rfl rfl (by decide +kernel) ⟨Nat.le_of_ble_eq_true rfl, Nat.le_of_ble_eq_true rfl⟩) ⟨zPc_blind, va_recv hKc hPc (ci := 9) (q0 := 0) rfl rfl, zPc_pre hPc hKc hDc hE hS hFc hZ⟩ rfl rfl hl.1 rfl (lv_room (Nat.le_of_ble_eq_true rfl)) dX11_nearest_12 ⟨Nat.le_of_ble_eq_true rfl, Nat.le_of_ble_eq_true rfl⟩) hS (fun q _ h => hFc q h) hFc (fun u12_ t H1 locs ht hvm hw hB hz1 hk1 hS => ?_)
  replace hw : (0 ≤ (u12_ 0).toInt ∧ (u12_ 0).toInt ≤ 0) ∧ ((u12_ 0).toInt = 0) := hw
  obtain ⟨b_, hX12_0⟩ := hw
  obtain ⟨w12_, a12_, b12_, hP1, hK1, hD1⟩ := hB
  rw [ht] at hP1
  obtain ⟨hP, hD⟩ := va_join (wr := [(h0, .inr (11, mX11 h1 h4 h11 h18 h23 h32 h33 h40 h48 h49 sp0 lw0)), (h2, zi k2 600 f2), (h3, zi k3 12 (a4_ 0)), (h4, .inr (10, mX10 h5 h6 h7 h8 h9 h10 v4)), (h5, .inl (k5, 400, .inr (.inl f5))), (h8, zi k8 12 f8), (h9, zi k9 12 f9), (h10, zi k10 13 f10), (h6, zi k6 400 f6), (h32, .inr (8, mX8 h23 v32)), (h23, .inr (6, mX6 h24 h25 h26 h27 h28 h29 h30 h31 v23)), (h29, zi k29 400 f29), (h27, zi k27 400 f27), (h24, zi k24 1250 f24), (h25, zi k25 833 f25), (h26, zi k26 833 f26), (h28, zi k28 400 f28), (h18, .inr (0, mX0 h19 h20 h21 h22 v18)), (h19, zi k19 120 f19)]) (w1 := [(h1, .inr (9, mX9 h2 h3 (upd (upd v1 2 (u12_ 0)) 3 (u4_ 0))))]) hP hD [1] [0, 2, 3, 4, 5, 6, 7, 8, 9, 10, 11, 12, 13, 14, 15, 16, 17, 18, 19] rfl rfl (by decide) (by decide) hk1 hFc hP1 hD1
  have hP : va_P (dC, dI) vwCl [(h0, .inr (11, mX11 h1 h4 h11 h18 h23 h32 h33 h40 h48 h49 sp0 lw0)), (h1, .inr (9, mX9 h2 h3 (upd (upd v1 2 (u12_ 0)) 3 (u4_ 0)))), (h2, zi k2 600 f2), (h3, zi k3 12 (a4_ 0)), (h4, .inr (10, mX10 h5 h6 h7 h8 h9 h10 v4)), (h5, .inl (k5, 400, .inr (.inl f5))), (h8, zi k8 12 f8), (h9, zi k9 12 f9), (h10, zi k10 13 f10), (h6, zi k6 400 f6), (h32, .inr (8, mX8 h23 v32)), (h23, .inr (6, mX6 h24 h25 h26 h27 h28 h29 h30 h31 v23)), (h29, zi k29 400 f29), (h27, zi k27 400 f27), (h24, zi k24 1250 f24), (h25, zi k25 833 f25), (h26, zi k26 833 f26), (h28, zi k28 400 f28), (h18, .inr (0, mX0 h19 h20 h21 h22 v18)), (h19, zi k19 120 f19)] H1 := hP.sub [0, 19, 1, 2, 3, 4, 5, 6, 7, 8, 9, 10, 11, 12, 13, 14, 15, 16, 17, 18] rfl
  have hD : va_D A [(h0, .inr (11, mX11 h1 h4 h11 h18 h23 h32 h33 h40 h48 h49 sp0 lw0)), (h1, .inr (9, mX9 h2 h3 (upd (upd v1 2 (u12_ 0)) 3 (u4_ 0)))), (h2, zi k2 600 f2), (h3, zi k3 12 (a4_ 0)), (h4, .inr (10, mX10 h5 h6 h7 h8 h9 h10 v4)), (h5, .inl (k5, 400, .inr (.inl f5))), (h8, zi k8 12 f8), (h9, zi k9 12 f9), (h10, zi k10 13 f10), (h6, zi k6 400 f6), (h32, .inr (8, mX8 h23 v32)), (h23, .inr (6, mX6 h24 h25 h26 h27 h28 h29 h30 h31 v23)), (h29, zi k29 400 f29), (h27, zi k27 400 f27), (h24, zi k24 1250 f24), (h25, zi k25 833 f25), (h26, zi k26 833 f26), (h28, zi k28 400 f28), (h18, .inr (0, mX0 h19 h20 h21 h22 v18)), (h19, zi k19 120 f19)] := hD.sub [0, 19, 1, 2, 3, 4, 5, 6, 7, 8, 9, 10, 11, 12, 13, 14, 15, 16, 17, 18] (by decide) rfl
  generalize H1 = H at hP hS ⊢
  clear hz1
  refine lv_lconst (v := 0) hx hb dX11_nearest_15 (by decide) ?_
  refine lv_lstore_n (lv' := [(3, .long 0), (1, .long r4_), (0, .ref h0)]) hx hb dX11_nearest_16 rfl hl (by decide) rfl (fun ls hl => ?_)
  refine lv_iconst (v := 3) hx hb dX11_nearest_17 (by decide) ?_
  refine lv_istore (lv' := [(5, .int 3), (3, .long 0), (1, .long r4_), (0, .ref h0)]) hx hb dX11_nearest_18 hl (by decide) rfl (fun ls hl => ?_)
  refine lv_iconst (v := 0) hx hb dX11_nearest_20 (by decide) ?_
  refine lv_istore (lv' := [(6, .int 0), (5, .int 3), (3, .long 0), (1, .long r4_), (0, .ref h0)]) hx hb dX11_nearest_21 hl (by decide) rfl (fun ls hl => ?_)
  refine lv_iconst (v := 0) hx hb dX11_nearest_23 (by decide) ?_
  refine lv_istore (lv' := [(7, .int 0), (6, .int 0), (5, .int 3), (3, .long 0), (1, .long r4_), (0, .ref h0)]) hx hb dX11_nearest_24 hl (by decide) rfl (fun ls hl => ?_)
  refine zcutL (fun u26_ => (400 - (u26_ 2).toInt).toNat) (fun H locs ls u26_ w26_ a26_ b26_ => va_P (dC, dI) vwCl [(h0, .inr (11, mX11 h1 h4 h11 h18 h23 h32 h33 h40 h48 h49 sp0 lw0)), (h1, .inr (9, mX9 h2 h3 (upd (upd v1 2 (u12_ 0)) 3 (u4_ 0)))), (h2, zi k2 600 f2), (h3, zi k3 12 (a4_ 0)), (h4, .inr (10, mX10 h5 h6 h7 h8 h9 h10 v4)), (h5, .inl (k5, 400, .inr (.inl f5))), (h8, zi k8 12 (a26_ 0)), (h9, zi k9 12 (a26_ 1)), (h10, zi k10 13 (a26_ 2)), (h6, zi k6 400 f6), (h32, .inr (8, mX8 h23 (upd (upd (upd (upd (upd (upd (upd (upd v32 1 (u26_ 3)) 2 (u26_ 4)) 3 (u26_ 5)) 4 (u26_ 6)) 5 (u26_ 7)) 6 (u26_ 8)) 7 (u26_ 9)) 8 (u26_ 10)))), (h23, .inr (6, mX6 h24 h25 h26 h27 h28 h29 h30 h31 v23)), (h29, zi k29 400 f29), (h27, zi k27 400 f27), (h24, zi k24 1250 f24), (h25, zi k25 833 f25), (h26, zi k26 833 f26), (h28, zi k28 400 f28), (h18, .inr (0, mX0 h19 h20 h21 h22 v18)), (h19, zi k19 120 f19)] H ∧ va_D A [(h0, .inr (11, mX11 h1 h4 h11 h18 h23 h32 h33 h40 h48 h49 sp0 lw0)), (h1, .inr (9, mX9 h2 h3 (upd (upd v1 2 (u12_ 0)) 3 (u4_ 0)))), (h2, zi k2 600 f2), (h3, zi k3 12 (a4_ 0)), (h4, .inr (10, mX10 h5 h6 h7 h8 h9 h10 v4)), (h5, .inl (k5, 400, .inr (.inl f5))), (h8, zi k8 12 (a26_ 0)), (h9, zi k9 12 (a26_ 1)), (h10, zi k10 13 (a26_ 2)), (h6, zi k6 400 f6), (h32, .inr (8, mX8 h23 (upd (upd (upd (upd (upd (upd (upd (upd v32 1 (u26_ 3)) 2 (u26_ 4)) 3 (u26_ 5)) 4 (u26_ 6)) 5 (u26_ 7)) 6 (u26_ 8)) 7 (u26_ 9)) 8 (u26_ 10)))), (h23, .inr (6, mX6 h24 h25 h26 h27 h28 h29 h30 h31 v23)), (h29, zi k29 400 f29), (h27, zi k27 400 f27), (h24, zi k24 1250 f24), (h25, zi k25 833 f25), (h26, zi k26 833 f26), (h28, zi k28 400 f28), (h18, .inr (0, mX0 h19 h20 h21 h22 v18)), (h19, zi k19 120 f19)] ∧ va_S A s.heap H locs ∧ lv_has ls 10 [(0, .ref h0), (1, .long r4_), (3, .long (w26_ 0)), (5, .int (u26_ 0)), (6, .int (u26_ 1)), (7, .int (u26_ 2))] ∧ ((-2147483648) ≤ (u26_ 0).toInt ∧ (u26_ 0).toInt ≤ 3) ∧ (0 ≤ (u26_ 2).toInt ∧ (u26_ 2).toInt ≤ 400)) (fun ls u26_ w26_ => F0 m 26 ls []) 0 0 ?_ (fun hJ26 => ?_)
  · skip
    intro H locs ls u26_ w26_ a26_ b26_ hc hJ26
    obtain ⟨hP, hD, hS, hl, b_, b_⟩ := hc
    refine lv_lload_n hx hb dX11_nearest_26 rfl (lv_at hl 1 rfl) ?_
    refine lv_lconst (v := 0) hx hb dX11_nearest_27 (by decide) ?_
    refine W.lcmp hx hb dX11_nearest_28 ?_
    refine lv_topi (fun z28 e_z28 => ?_)
    refine zcutW (fun H locs ls u149_ w149_ a149_ b149_ => va_P (dC, dI) vwCl [(h0, .inr (11, mX11 h1 h4 h11 h18 h23 h32 h33 h40 h48 h49 sp0 lw0)), (h1, .inr (9, mX9 h2 h3 (upd (upd v1 2 (u12_ 0)) 3 (u4_ 0)))), (h2, zi k2 600 f2), (h3, zi k3 12 (a4_ 0)), (h4, .inr (10, mX10 h5 h6 h7 h8 h9 h10 v4)), (h5, .inl (k5, 400, .inr (.inl f5))), (h8, zi k8 12 (a26_ 0)), (h9, zi k9 12 (a26_ 1)), (h10, zi k10 13 (a26_ 2)), (h6, zi k6 400 f6), (h32, .inr (8, mX8 h23 (upd (upd (upd (upd (upd (upd (upd (upd v32 1 (u26_ 3)) 2 (u26_ 4)) 3 (u26_ 5)) 4 (u26_ 6)) 5 (u26_ 7)) 6 (u26_ 8)) 7 (u26_ 9)) 8 (u26_ 10)))), (h23, .inr (6, mX6 h24 h25 h26 h27 h28 h29 h30 h31 v23)), (h29, zi k29 400 f29), (h27, zi k27 400 f27), (h24, zi k24 1250 f24), (h25, zi k25 833 f25), (h26, zi k26 833 f26), (h28, zi k28 400 f28), (h18, .inr (0, mX0 h19 h20 h21 h22 v18)), (h19, zi k19 120 f19)] H ∧ va_D A [(h0, .inr (11, mX11 h1 h4 h11 h18 h23 h32 h33 h40 h48 h49 sp0 lw0)), (h1, .inr (9, mX9 h2 h3 (upd (upd v1 2 (u12_ 0)) 3 (u4_ 0)))), (h2, zi k2 600 f2), (h3, zi k3 12 (a4_ 0)), (h4, .inr (10, mX10 h5 h6 h7 h8 h9 h10 v4)), (h5, .inl (k5, 400, .inr (.inl f5))), (h8, zi k8 12 (a26_ 0)), (h9, zi k9 12 (a26_ 1)), (h10, zi k10 13 (a26_ 2)), (h6, zi k6 400 f6), (h32, .inr (8, mX8 h23 (upd (upd (upd (upd (upd (upd (upd (upd v32 1 (u26_ 3)) 2 (u26_ 4)) 3 (u26_ 5)) 4 (u26_ 6)) 5 (u26_ 7)) 6 (u26_ 8)) 7 (u26_ 9)) 8 (u26_ 10)))), (h23, .inr (6, mX6 h24 h25 h26 h27 h28 h29 h30 h31 v23)), (h29, zi k29 400 f29), (h27, zi k27 400 f27), (h24, zi k24 1250 f24), (h25, zi k25 833 f25), (h26, zi k26 833 f26), (h28, zi k28 400 f28), (h18, .inr (0, mX0 h19 h20 h21 h22 v18)), (h19, zi k19 120 f19)] ∧ va_S A s.heap H locs ∧ lv_has ls 10 [(0, .ref h0), (1, .long r4_), (3, .long (w26_ 0)), (5, .int (u26_ 0)), (6, .int (u26_ 1)), (7, .int (u26_ 2))]) (fun ls u149_ w149_ => F0 m 149 ls []) 0 0 ?_ (fun hJ149 => ?_)
    · skip
      intro H locs ls u149_ w149_ a149_ b149_ hc
      obtain ⟨hP, hD, hS, hl⟩ := hc
      refine lv_lload_n hx hb dX11_nearest_149 rfl (lv_at hl 2 rfl) ?_
      refine lv_lconst (v := 0) hx hb dX11_nearest_150 (by decide) ?_
      refine W.lcmp hx hb dX11_nearest_151 ?_
      refine lv_topi (fun z151 e_z151 => ?_)
      have b_ : -2147483648 ≤ z151.toInt ∧ z151.toInt ≤ 2147483647 := ⟨zlo _, zhi _⟩
      refine lv_if_ne (tgt := 157) hx hb dX11_nearest_152 (by decide) (fun c_ => ?_) (fun c_ => ?_)
      · skip
        have b_ := zT_ne rfl zk_0 c_
        refine lv_aload_n hx hb dX11_nearest_157 rfl (lv_at hl 0 rfl) ?_
        refine lv_lload_n hx hb dX11_nearest_158 rfl (lv_at hl 2 rfl) ?_
        refine va_put (D := (dC, dI)) (ci := 11) (v := .long (w26_ 0)) (ty := .long) (C := RX11) (T := TX11) (N := 12) hx hb hG zuX11 tyX11 tyX11_ok nmX11 hown hK hP hD hS 0 rfl rfl 11 (by decide) (hG _ zv568) (fun _ h9 => h9) rfl (by decide +kernel) rfl rfl (Nat.le_of_ble_eq_true rfl) dX11_nearest_159 (fun H locs hP hD hS => ?_)
        have hP : va_P (dC, dI) vwCl [(h0, .inr (11, mX11 h1 h4 h11 h18 h23 h32 h33 h40 h48 h49 sp0 (w26_ 0))), (h1, .inr (9, mX9 h2 h3 (upd (upd v1 2 (u12_ 0)) 3 (u4_ 0)))), (h2, zi k2 600 f2), (h3, zi k3 12 (a4_ 0)), (h4, .inr (10, mX10 h5 h6 h7 h8 h9 h10 v4)), (h5, .inl (k5, 400, .inr (.inl f5))), (h8, zi k8 12 (a26_ 0)), (h9, zi k9 12 (a26_ 1)), (h10, zi k10 13 (a26_ 2)), (h6, zi k6 400 f6), (h32, .inr (8, mX8 h23 (upd (upd (upd (upd (upd (upd (upd (upd v32 1 (u26_ 3)) 2 (u26_ 4)) 3 (u26_ 5)) 4 (u26_ 6)) 5 (u26_ 7)) 6 (u26_ 8)) 7 (u26_ 9)) 8 (u26_ 10)))), (h23, .inr (6, mX6 h24 h25 h26 h27 h28 h29 h30 h31 v23)), (h29, zi k29 400 f29), (h27, zi k27 400 f27), (h24, zi k24 1250 f24), (h25, zi k25 833 f25), (h26, zi k26 833 f26), (h28, zi k28 400 f28), (h18, .inr (0, mX0 h19 h20 h21 h22 v18)), (h19, zi k19 120 f19)] H := hP
        have hD : va_D A [(h0, .inr (11, mX11 h1 h4 h11 h18 h23 h32 h33 h40 h48 h49 sp0 (w26_ 0))), (h1, .inr (9, mX9 h2 h3 (upd (upd v1 2 (u12_ 0)) 3 (u4_ 0)))), (h2, zi k2 600 f2), (h3, zi k3 12 (a4_ 0)), (h4, .inr (10, mX10 h5 h6 h7 h8 h9 h10 v4)), (h5, .inl (k5, 400, .inr (.inl f5))), (h8, zi k8 12 (a26_ 0)), (h9, zi k9 12 (a26_ 1)), (h10, zi k10 13 (a26_ 2)), (h6, zi k6 400 f6), (h32, .inr (8, mX8 h23 (upd (upd (upd (upd (upd (upd (upd (upd v32 1 (u26_ 3)) 2 (u26_ 4)) 3 (u26_ 5)) 4 (u26_ 6)) 5 (u26_ 7)) 6 (u26_ 8)) 7 (u26_ 9)) 8 (u26_ 10)))), (h23, .inr (6, mX6 h24 h25 h26 h27 h28 h29 h30 h31 v23)), (h29, zi k29 400 f29), (h27, zi k27 400 f27), (h24, zi k24 1250 f24), (h25, zi k25 833 f25), (h26, zi k26 833 f26), (h28, zi k28 400 f28), (h18, .inr (0, mX0 h19 h20 h21 h22 v18)), (h19, zi k19 120 f19)] := hD
        refine lv_iload hx hb dX11_nearest_162 (lv_at hl 3 rfl) ?_
        refine W.widen (k := 0) (n := 0) (by decide) (by decide) ?_
        have b_ : -2147483648 ≤ (u26_ 3).toInt ∧ (u26_ 3).toInt ≤ 2147483647 := ⟨zlo _, zhi _⟩
        have b_ : -2147483648 ≤ (u26_ 4).toInt ∧ (u26_ 4).toInt ≤ 2147483647 := ⟨zlo _, zhi _⟩
        have b_ : -2147483648 ≤ (u26_ 5).toInt ∧ (u26_ 5).toInt ≤ 2147483647 := ⟨zlo _, zhi _⟩
        have b_ : -2147483648 ≤ (u26_ 6).toInt ∧ (u26_ 6).toInt ≤ 2147483647 := ⟨zlo _, zhi _⟩
        have b_ : -2147483648 ≤ (u26_ 7).toInt ∧ (u26_ 7).toInt ≤ 2147483647 := ⟨zlo _, zhi _⟩
        have b_ : -2147483648 ≤ (u26_ 8).toInt ∧ (u26_ 8).toInt ≤ 2147483647 := ⟨zlo _, zhi _⟩
        have b_ : -2147483648 ≤ (u26_ 9).toInt ∧ (u26_ 9).toInt ≤ 2147483647 := ⟨zlo _, zhi _⟩
        have b_ : -2147483648 ≤ (u26_ 10).toInt ∧ (u26_ 10).toInt ≤ 2147483647 := ⟨zlo _, zhi _⟩
        have hpost : ((-2147483648) ≤ (u26_ 0).toInt ∧ (u26_ 0).toInt ≤ 3) ∧ (0 ≤ (u12_ 0).toInt ∧ (u12_ 0).toInt ≤ 0) ∧ (0 ≤ (u4_ 0).toInt ∧ (u4_ 0).toInt ≤ 12) := ⟨(by first | with_reducible assumption | exact ⟨by omega, by omega⟩), (by first | with_reducible assumption | exact ⟨by omega, by omega⟩), (by first | with_reducible assumption | exact ⟨by omega, by omega⟩)⟩
        have hP9 : va_P (dC, dI) vwCl [(h0, .inr (11, mX11 h1 h4 h11 h18 h23 h32 h33 h40 h48 h49 sp0 (w26_ 0))), (h1, .inr (9, mX9 h2 h3 (upd (upd v1 2 (u12_ 0)) 3 (u4_ 0)))), (h2, zi k2 600 f2), (h3, zi k3 12 (a4_ 0)), (h4, .inr (10, mX10 h5 h6 h7 h8 h9 h10 v4)), (h5, .inl (k5, 400, .inr (.inl f5))), (h8, zi k8 12 (a26_ 0)), (h9, zi k9 12 (a26_ 1)), (h10, zi k10 13 (a26_ 2)), (h6, zi k6 400 f6), (h32, .inr (8, mX8 h23 (upd (upd (upd (upd (upd (upd (upd (upd v32 1 (u26_ 3)) 2 (u26_ 4)) 3 (u26_ 5)) 4 (u26_ 6)) 5 (u26_ 7)) 6 (u26_ 8)) 7 (u26_ 9)) 8 (u26_ 10)))), (h23, .inr (6, mX6 h24 h25 h26 h27 h28 h29 h30 h31 v23)), (h29, zi k29 400 f29), (h27, zi k27 400 f27), (h24, zi k24 1250 f24), (h25, zi k25 833 f25), (h26, zi k26 833 f26), (h28, zi k28 400 f28), (h18, .inr (0, mX0 h19 h20 h21 h22 v18)), (h19, zi k19 120 f19)] H := hP
        have hD9 : va_D A [(h0, .inr (11, mX11 h1 h4 h11 h18 h23 h32 h33 h40 h48 h49 sp0 (w26_ 0))), (h1, .inr (9, mX9 h2 h3 (upd (upd v1 2 (u12_ 0)) 3 (u4_ 0)))), (h2, zi k2 600 f2), (h3, zi k3 12 (a4_ 0)), (h4, .inr (10, mX10 h5 h6 h7 h8 h9 h10 v4)), (h5, .inl (k5, 400, .inr (.inl f5))), (h8, zi k8 12 (a26_ 0)), (h9, zi k9 12 (a26_ 1)), (h10, zi k10 13 (a26_ 2)), (h6, zi k6 400 f6), (h32, .inr (8, mX8 h23 (upd (upd (upd (upd (upd (upd (upd (upd v32 1 (u26_ 3)) 2 (u26_ 4)) 3 (u26_ 5)) 4 (u26_ 6)) 5 (u26_ 7)) 6 (u26_ 8)) 7 (u26_ 9)) 8 (u26_ 10)))), (h23, .inr (6, mX6 h24 h25 h26 h27 h28 h29 h30 h31 v23)), (h29, zi k29 400 f29), (h27, zi k27 400 f27), (h24, zi k24 1250 f24), (h25, zi k25 833 f25), (h26, zi k26 833 f26), (h28, zi k28 400 f28), (h18, .inr (0, mX0 h19 h20 h21 h22 v18)), (h19, zi k19 120 f19)] := hD
        exact W.iret (v := (u26_ 0)) hx hb hr (fun t ht hW => ⟨⟨(u26_ 0), (fun i => ([(u12_ 0), (u4_ 0), (u26_ 3), (u26_ 4), (u26_ 5), (u26_ 6), (u26_ 7), (u26_ 8), (u26_ 9), (u26_ 10)] : List (Int32)).getD i 0), rfl, hpost, (fun i => ([(w26_ 0)] : List (Int64)).getD i 0), (fun i => ([(a4_ 0), (a26_ 0), (a26_ 1), (a26_ 2)] : List (Nat → Int32)).getD i (fun _ => 0)), (fun _ => (fun _ => 0)), by rw [ht]; exact hP9, va_K.moved hW.alike hK, hD9⟩, hS.F ht⟩) hS.2.2 dX11_nearest_164
      · skip
        have b_ := zF_ne rfl zk_0 c_
        refine lv_iconst (v := (-1)) hx hb dX11_nearest_155 (by decide) ?_
        refine W.widen (k := 0) (n := 0) (by decide) (by decide) ?_
        have b_ : -2147483648 ≤ (u26_ 3).toInt ∧ (u26_ 3).toInt ≤ 2147483647 := ⟨zlo _, zhi _⟩
        have b_ : -2147483648 ≤ (u26_ 4).toInt ∧ (u26_ 4).toInt ≤ 2147483647 := ⟨zlo _, zhi _⟩
        have b_ : -2147483648 ≤ (u26_ 5).toInt ∧ (u26_ 5).toInt ≤ 2147483647 := ⟨zlo _, zhi _⟩
        have b_ : -2147483648 ≤ (u26_ 6).toInt ∧ (u26_ 6).toInt ≤ 2147483647 := ⟨zlo _, zhi _⟩
        have b_ : -2147483648 ≤ (u26_ 7).toInt ∧ (u26_ 7).toInt ≤ 2147483647 := ⟨zlo _, zhi _⟩
        have b_ : -2147483648 ≤ (u26_ 8).toInt ∧ (u26_ 8).toInt ≤ 2147483647 := ⟨zlo _, zhi _⟩
        have b_ : -2147483648 ≤ (u26_ 9).toInt ∧ (u26_ 9).toInt ≤ 2147483647 := ⟨zlo _, zhi _⟩
        have b_ : -2147483648 ≤ (u26_ 10).toInt ∧ (u26_ 10).toInt ≤ 2147483647 := ⟨zlo _, zhi _⟩
        have hpost : ((-2147483648) ≤ ((-1) : Int32).toInt ∧ ((-1) : Int32).toInt ≤ 3) ∧ (0 ≤ (u12_ 0).toInt ∧ (u12_ 0).toInt ≤ 0) ∧ (0 ≤ (u4_ 0).toInt ∧ (u4_ 0).toInt ≤ 12) := ⟨(by first | with_reducible assumption | exact ⟨by omega, by omega⟩), (by first | with_reducible assumption | exact ⟨by omega, by omega⟩), (by first | with_reducible assumption | exact ⟨by omega, by omega⟩)⟩
        have hP9 : va_P (dC, dI) vwCl [(h0, .inr (11, mX11 h1 h4 h11 h18 h23 h32 h33 h40 h48 h49 sp0 lw0)), (h1, .inr (9, mX9 h2 h3 (upd (upd v1 2 (u12_ 0)) 3 (u4_ 0)))), (h2, zi k2 600 f2), (h3, zi k3 12 (a4_ 0)), (h4, .inr (10, mX10 h5 h6 h7 h8 h9 h10 v4)), (h5, .inl (k5, 400, .inr (.inl f5))), (h8, zi k8 12 (a26_ 0)), (h9, zi k9 12 (a26_ 1)), (h10, zi k10 13 (a26_ 2)), (h6, zi k6 400 f6), (h32, .inr (8, mX8 h23 (upd (upd (upd (upd (upd (upd (upd (upd v32 1 (u26_ 3)) 2 (u26_ 4)) 3 (u26_ 5)) 4 (u26_ 6)) 5 (u26_ 7)) 6 (u26_ 8)) 7 (u26_ 9)) 8 (u26_ 10)))), (h23, .inr (6, mX6 h24 h25 h26 h27 h28 h29 h30 h31 v23)), (h29, zi k29 400 f29), (h27, zi k27 400 f27), (h24, zi k24 1250 f24), (h25, zi k25 833 f25), (h26, zi k26 833 f26), (h28, zi k28 400 f28), (h18, .inr (0, mX0 h19 h20 h21 h22 v18)), (h19, zi k19 120 f19)] H := hP
        have hD9 : va_D A [(h0, .inr (11, mX11 h1 h4 h11 h18 h23 h32 h33 h40 h48 h49 sp0 lw0)), (h1, .inr (9, mX9 h2 h3 (upd (upd v1 2 (u12_ 0)) 3 (u4_ 0)))), (h2, zi k2 600 f2), (h3, zi k3 12 (a4_ 0)), (h4, .inr (10, mX10 h5 h6 h7 h8 h9 h10 v4)), (h5, .inl (k5, 400, .inr (.inl f5))), (h8, zi k8 12 (a26_ 0)), (h9, zi k9 12 (a26_ 1)), (h10, zi k10 13 (a26_ 2)), (h6, zi k6 400 f6), (h32, .inr (8, mX8 h23 (upd (upd (upd (upd (upd (upd (upd (upd v32 1 (u26_ 3)) 2 (u26_ 4)) 3 (u26_ 5)) 4 (u26_ 6)) 5 (u26_ 7)) 6 (u26_ 8)) 7 (u26_ 9)) 8 (u26_ 10)))), (h23, .inr (6, mX6 h24 h25 h26 h27 h28 h29 h30 h31 v23)), (h29, zi k29 400 f29), (h27, zi k27 400 f27), (h24, zi k24 1250 f24), (h25, zi k25 833 f25), (h26, zi k26 833 f26), (h28, zi k28 400 f28), (h18, .inr (0, mX0 h19 h20 h21 h22 v18)), (h19, zi k19 120 f19)] := hD
        exact W.iret (v := (-1)) hx hb hr (fun t ht hW => ⟨⟨(-1), (fun i => ([(u12_ 0), (u4_ 0), (u26_ 3), (u26_ 4), (u26_ 5), (u26_ 6), (u26_ 7), (u26_ 8), (u26_ 9), (u26_ 10)] : List (Int32)).getD i 0), rfl, hpost, (fun i => ([lw0] : List (Int64)).getD i 0), (fun i => ([(a4_ 0), (a26_ 0), (a26_ 1), (a26_ 2)] : List (Nat → Int32)).getD i (fun _ => 0)), (fun _ => (fun _ => 0)), by rw [ht]; exact hP9, va_K.moved hW.alike hK, hD9⟩, hS.F ht⟩) hS.2.2 dX11_nearest_156
    · skip
      have b_ : -2147483648 ≤ z28.toInt ∧ z28.toInt ≤ 2147483647 := ⟨zlo _, zhi _⟩
      refine lv_if_eq (tgt := 149) hx hb dX11_nearest_29 (by decide) (fun c_ => ?_) (fun c_ => ?_)
      · skip
        have b_ := zT_eq rfl zk_0 c_
        have hc : va_P (dC, dI) vwCl [(h0, .inr (11, mX11 h1 h4 h11 h18 h23 h32 h33 h40 h48 h49 sp0 lw0)), (h1, .inr (9, mX9 h2 h3 (upd (upd v1 2 (u12_ 0)) 3 (u4_ 0)))), (h2, zi k2 600 f2), (h3, zi k3 12 (a4_ 0)), (h4, .inr (10, mX10 h5 h6 h7 h8 h9 h10 v4)), (h5, .inl (k5, 400, .inr (.inl f5))), (h8, zi k8 12 (a26_ 0)), (h9, zi k9 12 (a26_ 1)), (h10, zi k10 13 (a26_ 2)), (h6, zi k6 400 f6), (h32, .inr (8, mX8 h23 (upd (upd (upd (upd (upd (upd (upd (upd v32 1 (u26_ 3)) 2 (u26_ 4)) 3 (u26_ 5)) 4 (u26_ 6)) 5 (u26_ 7)) 6 (u26_ 8)) 7 (u26_ 9)) 8 (u26_ 10)))), (h23, .inr (6, mX6 h24 h25 h26 h27 h28 h29 h30 h31 v23)), (h29, zi k29 400 f29), (h27, zi k27 400 f27), (h24, zi k24 1250 f24), (h25, zi k25 833 f25), (h26, zi k26 833 f26), (h28, zi k28 400 f28), (h18, .inr (0, mX0 h19 h20 h21 h22 v18)), (h19, zi k19 120 f19)] H ∧ va_D A [(h0, .inr (11, mX11 h1 h4 h11 h18 h23 h32 h33 h40 h48 h49 sp0 lw0)), (h1, .inr (9, mX9 h2 h3 (upd (upd v1 2 (u12_ 0)) 3 (u4_ 0)))), (h2, zi k2 600 f2), (h3, zi k3 12 (a4_ 0)), (h4, .inr (10, mX10 h5 h6 h7 h8 h9 h10 v4)), (h5, .inl (k5, 400, .inr (.inl f5))), (h8, zi k8 12 (a26_ 0)), (h9, zi k9 12 (a26_ 1)), (h10, zi k10 13 (a26_ 2)), (h6, zi k6 400 f6), (h32, .inr (8, mX8 h23 (upd (upd (upd (upd (upd (upd (upd (upd v32 1 (u26_ 3)) 2 (u26_ 4)) 3 (u26_ 5)) 4 (u26_ 6)) 5 (u26_ 7)) 6 (u26_ 8)) 7 (u26_ 9)) 8 (u26_ 10)))), (h23, .inr (6, mX6 h24 h25 h26 h27 h28 h29 h30 h31 v23)), (h29, zi k29 400 f29), (h27, zi k27 400 f27), (h24, zi k24 1250 f24), (h25, zi k25 833 f25), (h26, zi k26 833 f26), (h28, zi k28 400 f28), (h18, .inr (0, mX0 h19 h20 h21 h22 v18)), (h19, zi k19 120 f19)] ∧ va_S A s.heap H locs ∧ lv_has ls 10 [(0, .ref h0), (1, .long r4_), (3, .long (w26_ 0)), (5, .int (u26_ 0)), (6, .int (u26_ 1)), (7, .int (u26_ 2))] := ⟨hP, hD, hS, lv_sub hl [0, 1, 2, 3, 4, 5] rfl⟩
        exact hJ149 H locs ls (fun _ => 0) (fun _ => 0) (fun _ => (fun _ => 0)) (fun _ => (fun _ => 0)) hc
      · skip
        have b_ := zF_eq rfl zk_0 c_
        refine lv_iload hx hb dX11_nearest_32 (lv_at hl 5 rfl) ?_
        refine lv_aload_n hx hb dX11_nearest_34 rfl (lv_at hl 0 rfl) ?_
        refine va_get (D := (dC, dI)) (ci := 11) (v := .ref h4) (C := RX11) (T := TX11) (N := 12) hx hb hG zuX11 hown hK hP 0 rfl rfl 1 (by decide) (hG _ zv558) (fun _ h9 => h9) rfl dX11_nearest_35 ?_
        have hPc := hP.sub (ws' := [(h4, .inr (10, mX10 h5 h6 h7 h8 h9 h10 v4))]) [4] rfl
        have hDc := hD.sub (ws' := [(h4, .inr (10, mX10 h5 h6 h7 h8 h9 h10 v4))]) [4] (by decide) rfl
        have hKc := hK.sub (tys' := []) [] rfl
        have hFc := va_free (wc := [(h4, .inr (10, mX10 h5 h6 h7 h8 h9 h10 v4))]) hD hS hA [4] rfl
        refine va_calli (va_runV (As := []) (rest := [.int (u26_ 2)]) ⟨hx, hb, hml, hown, hG⟩ (sX10_size_0 l dC dI adK adV h4 h5 h6 h7 h8 h9 h10 H.size v4 hv4) (cwV 0 hG (zgV zv626 zv627 zv628 zv131 zv629) rfl rfl rfl (by decide +kernel) ⟨Nat.le_of_ble_eq_true rfl, Nat.le_of_ble_eq_true rfl⟩) ⟨zPc_blind, va_recv hKc hPc (ci := 10) (q0 := 0) rfl rfl, zPc_pre hPc hKc hDc hE hS hFc hZ⟩ rfl rfl hl.1 rfl (lv_room (Nat.le_of_ble_eq_true rfl)) dX11_nearest_38 ⟨Nat.le_of_ble_eq_true rfl, Nat.le_of_ble_eq_true rfl⟩) hS (fun q _ h => hFc q h) hFc (fun r38_ u38_ t H1 locs ht hvm hw hB hz1 hk1 hS => ?_)
        replace hw : (0 ≤ r38_.toInt ∧ r38_.toInt ≤ 400) ∧ (r38_.toInt = (v4 7).toInt) ∧ (r38_.toInt = (v4 7).toInt) := hw
        obtain ⟨b_, hX38_0, hX38_1⟩ := hw
        obtain ⟨w38_, a38_, b38_, hP1, hK1, hD1⟩ := hB
        rw [ht] at hP1
        obtain ⟨hP, hD⟩ := va_join (wr := [(h0, .inr (11, mX11 h1 h4 h11 h18 h23 h32 h33 h40 h48 h49 sp0 lw0)), (h1, .inr (9, mX9 h2 h3 (upd (upd v1 2 (u12_ 0)) 3 (u4_ 0)))), (h2, zi k2 600 f2), (h3, zi k3 12 (a4_ 0)), (h5, .inl (k5, 400, .inr (.inl f5))), (h8, zi k8 12 (a26_ 0)), (h9, zi k9 12 (a26_ 1)), (h10, zi k10 13 (a26_ 2)), (h6, zi k6 400 f6), (h32, .inr (8, mX8 h23 (upd (upd (upd (upd (upd (upd (upd (upd v32 1 (u26_ 3)) 2 (u26_ 4)) 3 (u26_ 5)) 4 (u26_ 6)) 5 (u26_ 7)) 6 (u26_ 8)) 7 (u26_ 9)) 8 (u26_ 10)))), (h23, .inr (6, mX6 h24 h25 h26 h27 h28 h29 h30 h31 v23)), (h29, zi k29 400 f29), (h27, zi k27 400 f27), (h24, zi k24 1250 f24), (h25, zi k25 833 f25), (h26, zi k26 833 f26), (h28, zi k28 400 f28), (h18, .inr (0, mX0 h19 h20 h21 h22 v18)), (h19, zi k19 120 f19)]) (w1 := [(h4, .inr (10, mX10 h5 h6 h7 h8 h9 h10 v4))]) hP hD [4] [0, 1, 2, 3, 5, 6, 7, 8, 9, 10, 11, 12, 13, 14, 15, 16, 17, 18, 19] rfl rfl (by decide) (by decide) hk1 hFc hP1 hD1
        have hP : va_P (dC, dI) vwCl [(h0, .inr (11, mX11 h1 h4 h11 h18 h23 h32 h33 h40 h48 h49 sp0 lw0)), (h1, .inr (9, mX9 h2 h3 (upd (upd v1 2 (u12_ 0)) 3 (u4_ 0)))), (h2, zi k2 600 f2), (h3, zi k3 12 (a4_ 0)), (h4, .inr (10, mX10 h5 h6 h7 h8 h9 h10 v4)), (h5, .inl (k5, 400, .inr (.inl f5))), (h8, zi k8 12 (a26_ 0)), (h9, zi k9 12 (a26_ 1)), (h10, zi k10 13 (a26_ 2)), (h6, zi k6 400 f6), (h32, .inr (8, mX8 h23 (upd (upd (upd (upd (upd (upd (upd (upd v32 1 (u26_ 3)) 2 (u26_ 4)) 3 (u26_ 5)) 4 (u26_ 6)) 5 (u26_ 7)) 6 (u26_ 8)) 7 (u26_ 9)) 8 (u26_ 10)))), (h23, .inr (6, mX6 h24 h25 h26 h27 h28 h29 h30 h31 v23)), (h29, zi k29 400 f29), (h27, zi k27 400 f27), (h24, zi k24 1250 f24), (h25, zi k25 833 f25), (h26, zi k26 833 f26), (h28, zi k28 400 f28), (h18, .inr (0, mX0 h19 h20 h21 h22 v18)), (h19, zi k19 120 f19)] H1 := hP.sub [0, 1, 2, 3, 19, 4, 5, 6, 7, 8, 9, 10, 11, 12, 13, 14, 15, 16, 17, 18] rfl
        have hD : va_D A [(h0, .inr (11, mX11 h1 h4 h11 h18 h23 h32 h33 h40 h48 h49 sp0 lw0)), (h1, .inr (9, mX9 h2 h3 (upd (upd v1 2 (u12_ 0)) 3 (u4_ 0)))), (h2, zi k2 600 f2), (h3, zi k3 12 (a4_ 0)), (h4, .inr (10, mX10 h5 h6 h7 h8 h9 h10 v4)), (h5, .inl (k5, 400, .inr (.inl f5))), (h8, zi k8 12 (a26_ 0)), (h9, zi k9 12 (a26_ 1)), (h10, zi k10 13 (a26_ 2)), (h6, zi k6 400 f6), (h32, .inr (8, mX8 h23 (upd (upd (upd (upd (upd (upd (upd (upd v32 1 (u26_ 3)) 2 (u26_ 4)) 3 (u26_ 5)) 4 (u26_ 6)) 5 (u26_ 7)) 6 (u26_ 8)) 7 (u26_ 9)) 8 (u26_ 10)))), (h23, .inr (6, mX6 h24 h25 h26 h27 h28 h29 h30 h31 v23)), (h29, zi k29 400 f29), (h27, zi k27 400 f27), (h24, zi k24 1250 f24), (h25, zi k25 833 f25), (h26, zi k26 833 f26), (h28, zi k28 400 f28), (h18, .inr (0, mX0 h19 h20 h21 h22 v18)), (h19, zi k19 120 f19)] := hD.sub [0, 1, 2, 3, 19, 4, 5, 6, 7, 8, 9, 10, 11, 12, 13, 14, 15, 16, 17, 18] (by decide) rfl
        generalize H1 = H at hP hS ⊢
        clear hz1
        refine lv_icmp_ge (tgt := 149) hx hb dX11_nearest_41 (by decide) (fun c_ => ?_) (fun c_ => ?_)
        · skip
          have b_ := zT_ge rfl rfl c_
          have hc : va_P (dC, dI) vwCl [(h0, .inr (11, mX11 h1 h4 h11 h18 h23 h32 h33 h40 h48 h49 sp0 lw0)), (h1, .inr (9, mX9 h2 h3 (upd (upd v1 2 (u12_ 0)) 3 (u4_ 0)))), (h2, zi k2 600 f2), (h3, zi k3 12 (a4_ 0)), (h4, .inr (10, mX10 h5 h6 h7 h8 h9 h10 v4)), (h5, .inl (k5, 400, .inr (.inl f5))), (h8, zi k8 12 (a26_ 0)), (h9, zi k9 12 (a26_ 1)), (h10, zi k10 13 (a26_ 2)), (h6, zi k6 400 f6), (h32, .inr (8, mX8 h23 (upd (upd (upd (upd (upd (upd (upd (upd v32 1 (u26_ 3)) 2 (u26_ 4)) 3 (u26_ 5)) 4 (u26_ 6)) 5 (u26_ 7)) 6 (u26_ 8)) 7 (u26_ 9)) 8 (u26_ 10)))), (h23, .inr (6, mX6 h24 h25 h26 h27 h28 h29 h30 h31 v23)), (h29, zi k29 400 f29), (h27, zi k27 400 f27), (h24, zi k24 1250 f24), (h25, zi k25 833 f25), (h26, zi k26 833 f26), (h28, zi k28 400 f28), (h18, .inr (0, mX0 h19 h20 h21 h22 v18)), (h19, zi k19 120 f19)] H ∧ va_D A [(h0, .inr (11, mX11 h1 h4 h11 h18 h23 h32 h33 h40 h48 h49 sp0 lw0)), (h1, .inr (9, mX9 h2 h3 (upd (upd v1 2 (u12_ 0)) 3 (u4_ 0)))), (h2, zi k2 600 f2), (h3, zi k3 12 (a4_ 0)), (h4, .inr (10, mX10 h5 h6 h7 h8 h9 h10 v4)), (h5, .inl (k5, 400, .inr (.inl f5))), (h8, zi k8 12 (a26_ 0)), (h9, zi k9 12 (a26_ 1)), (h10, zi k10 13 (a26_ 2)), (h6, zi k6 400 f6), (h32, .inr (8, mX8 h23 (upd (upd (upd (upd (upd (upd (upd (upd v32 1 (u26_ 3)) 2 (u26_ 4)) 3 (u26_ 5)) 4 (u26_ 6)) 5 (u26_ 7)) 6 (u26_ 8)) 7 (u26_ 9)) 8 (u26_ 10)))), (h23, .inr (6, mX6 h24 h25 h26 h27 h28 h29 h30 h31 v23)), (h29, zi k29 400 f29), (h27, zi k27 400 f27), (h24, zi k24 1250 f24), (h25, zi k25 833 f25), (h26, zi k26 833 f26), (h28, zi k28 400 f28), (h18, .inr (0, mX0 h19 h20 h21 h22 v18)), (h19, zi k19 120 f19)] ∧ va_S A s.heap H locs ∧ lv_has ls 10 [(0, .ref h0), (1, .long r4_), (3, .long (w26_ 0)), (5, .int (u26_ 0)), (6, .int (u26_ 1)), (7, .int (u26_ 2))] := ⟨hP, hD, hS, lv_sub hl [0, 1, 2, 3, 4, 5] rfl⟩
          exact hJ149 H locs ls (fun _ => 0) (fun _ => 0) (fun _ => (fun _ => 0)) (fun _ => (fun _ => 0)) hc
        · skip
          have b_ := zF_ge rfl rfl c_
          refine lv_aload_n hx hb dX11_nearest_44 rfl (lv_at hl 0 rfl) ?_
          refine va_get (D := (dC, dI)) (ci := 11) (v := .ref h4) (C := RX11) (T := TX11) (N := 12) hx hb hG zuX11 hown hK hP 0 rfl rfl 1 (by decide) (hG _ zv558) (fun _ h9 => h9) rfl dX11_nearest_45 ?_
          refine lv_lload_n hx hb dX11_nearest_48 rfl (lv_at hl 1 rfl) ?_
          refine lv_aload_n hx hb dX11_nearest_49 rfl (lv_at hl 0 rfl) ?_
          refine va_get (D := (dC, dI)) (ci := 11) (v := .ref h4) (C := RX11) (T := TX11) (N := 12) hx hb hG zuX11 hown hK hP 0 rfl rfl 1 (by decide) (hG _ zv558) (fun _ h9 => h9) rfl dX11_nearest_50 ?_
          refine lv_iload hx hb dX11_nearest_53 (lv_at hl 5 rfl) ?_
          have hPc := hP.sub (ws' := [(h4, .inr (10, mX10 h5 h6 h7 h8 h9 h10 v4)), (h5, .inl (k5, 400, .inr (.inl f5)))]) [4, 5] rfl
          have hDc := hD.sub (ws' := [(h4, .inr (10, mX10 h5 h6 h7 h8 h9 h10 v4)), (h5, .inl (k5, 400, .inr (.inl f5)))]) [4, 5] (by decide) rfl
          have hKc := hK.sub (tys' := [(k5, .long)]) [2] rfl
          have hFc := va_free (wc := [(h4, .inr (10, mX10 h5 h6 h7 h8 h9 h10 v4)), (h5, .inl (k5, 400, .inr (.inl f5)))]) hD hS hA [4, 5] rfl
          refine va_calll (va_runV (As := [.int (u26_ 2)]) (rest := [.long r4_, .ref h4]) ⟨hx, hb, hml, hown, hG⟩ (sX10_wordAt_0 l dC dI adK adV h4 h5 h6 h7 h8 h9 h10 k5 H.size v4 f5 (u26_ 2) hv4) (cwV 1 hG (zgV zv1380 zv1381 zv1382 zv131 zv1383) rfl rfl rfl (by decide +kernel) ⟨Nat.le_of_ble_eq_true rfl, Nat.le_of_ble_eq_true rfl⟩) ⟨zPc_blind, va_recv hKc hPc (ci := 10) (q0 := 0) rfl rfl, zPc_pre hPc hKc hDc hE hS hFc hZ⟩ rfl rfl hl.1 rfl (lv_room (Nat.le_of_ble_eq_true rfl)) dX11_nearest_55 ⟨Nat.le_of_ble_eq_true rfl, Nat.le_of_ble_eq_true rfl⟩) hS (fun q _ h => hFc q h) hFc (fun r55_ u55_ t H1 locs ht hvm hw hB hz1 hk1 hS => ?_)
          obtain ⟨w55_, a55_, b55_, hP1, hK1, hD1⟩ := hB
          rw [ht] at hP1
          obtain ⟨hP, hD⟩ := va_join (wr := [(h0, .inr (11, mX11 h1 h4 h11 h18 h23 h32 h33 h40 h48 h49 sp0 lw0)), (h1, .inr (9, mX9 h2 h3 (upd (upd v1 2 (u12_ 0)) 3 (u4_ 0)))), (h2, zi k2 600 f2), (h3, zi k3 12 (a4_ 0)), (h8, zi k8 12 (a26_ 0)), (h9, zi k9 12 (a26_ 1)), (h10, zi k10 13 (a26_ 2)), (h6, zi k6 400 f6), (h32, .inr (8, mX8 h23 (upd (upd (upd (upd (upd (upd (upd (upd v32 1 (u26_ 3)) 2 (u26_ 4)) 3 (u26_ 5)) 4 (u26_ 6)) 5 (u26_ 7)) 6 (u26_ 8)) 7 (u26_ 9)) 8 (u26_ 10)))), (h23, .inr (6, mX6 h24 h25 h26 h27 h28 h29 h30 h31 v23)), (h29, zi k29 400 f29), (h27, zi k27 400 f27), (h24, zi k24 1250 f24), (h25, zi k25 833 f25), (h26, zi k26 833 f26), (h28, zi k28 400 f28), (h18, .inr (0, mX0 h19 h20 h21 h22 v18)), (h19, zi k19 120 f19)]) (w1 := [(h4, .inr (10, mX10 h5 h6 h7 h8 h9 h10 v4)), (h5, .inl (k5, 400, .inr (.inl f5)))]) hP hD [4, 5] [0, 1, 2, 3, 6, 7, 8, 9, 10, 11, 12, 13, 14, 15, 16, 17, 18, 19] rfl rfl (by decide) (by decide) hk1 hFc hP1 hD1
          have hP : va_P (dC, dI) vwCl [(h0, .inr (11, mX11 h1 h4 h11 h18 h23 h32 h33 h40 h48 h49 sp0 lw0)), (h1, .inr (9, mX9 h2 h3 (upd (upd v1 2 (u12_ 0)) 3 (u4_ 0)))), (h2, zi k2 600 f2), (h3, zi k3 12 (a4_ 0)), (h4, .inr (10, mX10 h5 h6 h7 h8 h9 h10 v4)), (h5, .inl (k5, 400, .inr (.inl f5))), (h8, zi k8 12 (a26_ 0)), (h9, zi k9 12 (a26_ 1)), (h10, zi k10 13 (a26_ 2)), (h6, zi k6 400 f6), (h32, .inr (8, mX8 h23 (upd (upd (upd (upd (upd (upd (upd (upd v32 1 (u26_ 3)) 2 (u26_ 4)) 3 (u26_ 5)) 4 (u26_ 6)) 5 (u26_ 7)) 6 (u26_ 8)) 7 (u26_ 9)) 8 (u26_ 10)))), (h23, .inr (6, mX6 h24 h25 h26 h27 h28 h29 h30 h31 v23)), (h29, zi k29 400 f29), (h27, zi k27 400 f27), (h24, zi k24 1250 f24), (h25, zi k25 833 f25), (h26, zi k26 833 f26), (h28, zi k28 400 f28), (h18, .inr (0, mX0 h19 h20 h21 h22 v18)), (h19, zi k19 120 f19)] H1 := hP.sub [0, 1, 2, 3, 18, 19, 4, 5, 6, 7, 8, 9, 10, 11, 12, 13, 14, 15, 16, 17] rfl
          have hD : va_D A [(h0, .inr (11, mX11 h1 h4 h11 h18 h23 h32 h33 h40 h48 h49 sp0 lw0)), (h1, .inr (9, mX9 h2 h3 (upd (upd v1 2 (u12_ 0)) 3 (u4_ 0)))), (h2, zi k2 600 f2), (h3, zi k3 12 (a4_ 0)), (h4, .inr (10, mX10 h5 h6 h7 h8 h9 h10 v4)), (h5, .inl (k5, 400, .inr (.inl f5))), (h8, zi k8 12 (a26_ 0)), (h9, zi k9 12 (a26_ 1)), (h10, zi k10 13 (a26_ 2)), (h6, zi k6 400 f6), (h32, .inr (8, mX8 h23 (upd (upd (upd (upd (upd (upd (upd (upd v32 1 (u26_ 3)) 2 (u26_ 4)) 3 (u26_ 5)) 4 (u26_ 6)) 5 (u26_ 7)) 6 (u26_ 8)) 7 (u26_ 9)) 8 (u26_ 10)))), (h23, .inr (6, mX6 h24 h25 h26 h27 h28 h29 h30 h31 v23)), (h29, zi k29 400 f29), (h27, zi k27 400 f27), (h24, zi k24 1250 f24), (h25, zi k25 833 f25), (h26, zi k26 833 f26), (h28, zi k28 400 f28), (h18, .inr (0, mX0 h19 h20 h21 h22 v18)), (h19, zi k19 120 f19)] := hD.sub [0, 1, 2, 3, 18, 19, 4, 5, 6, 7, 8, 9, 10, 11, 12, 13, 14, 15, 16, 17] (by decide) rfl
          generalize H1 = H at hP hS ⊢
          clear hz1
          refine lv_iload hx hb dX11_nearest_58 (lv_at hl 3 rfl) ?_
          refine lv_iconst (v := 2) hx hb dX11_nearest_60 (by decide) ?_
          refine va_mmin hx hb (by rw [hml]; exact hl.1.symm) hown (hG _ zv1384) (hG _ zv1385) (hG _ zv152) (hG _ zv1386) (Nat.le_of_ble_eq_true rfl) (Nat.le_of_ble_eq_true rfl) (Nat.le_of_ble_eq_true rfl) (Nat.le_of_ble_eq_true rfl) dX11_nearest_61 ?_
          refine lv_topi (fun z61 e_z61 => ?_)
          have b_ := zmin rfl zk_2 e_z61
          have hPc := hP.sub (ws' := [(h4, .inr (10, mX10 h5 h6 h7 h8 h9 h10 v4)), (h8, zi k8 12 (a26_ 0)), (h9, zi k9 12 (a26_ 1)), (h10, zi k10 13 (a26_ 2))]) [4, 6, 7, 8] rfl
          have hDc := hD.sub (ws' := [(h4, .inr (10, mX10 h5 h6 h7 h8 h9 h10 v4)), (h8, zi k8 12 (a26_ 0)), (h9, zi k9 12 (a26_ 1)), (h10, zi k10 13 (a26_ 2))]) [4, 6, 7, 8] (by decide) rfl
          have hKc := hK.sub (tys' := [(k8, .byte), (k9, .byte), (k10, .int)]) [3, 4, 5] rfl
          have hFc := va_free (wc := [(h4, .inr (10, mX10 h5 h6 h7 h8 h9 h10 v4)), (h8, zi k8 12 (a26_ 0)), (h9, zi k9 12 (a26_ 1)), (h10, zi k10 13 (a26_ 2))]) hD hS hA [4, 6, 7, 8] rfl
          refine va_calli (va_runV (As := [.long r4_, .long r55_, .int z61]) (rest := []) ⟨hx, hb, hml, hown, hG⟩ (sX10_distance_0 l dC dI adK adV h4 h8 h9 h10 h5 h6 h7 k8 k9 k10 H.size v4 (a26_ 0) (a26_ 1) (a26_ 2) r4_ r55_ z61 hv4) (cwV 3 hG (zgV zv1387 zv1388 zv1389 zv131 zv1390) rfl rfl rfl (by decide +kernel) ⟨Nat.le_of_ble_eq_true rfl, Nat.le_of_ble_eq_true rfl⟩) ⟨zPc_blind, va_recv hKc hPc (ci := 10) (q0 := 0) rfl rfl, zPc_pre hPc hKc hDc hE hS hFc hZ⟩ rfl rfl hl.1 rfl (lv_room (Nat.le_of_ble_eq_true rfl)) dX11_nearest_64 ⟨Nat.le_of_ble_eq_true rfl, Nat.le_of_ble_eq_true rfl⟩) hS (fun q _ h => hFc q h) hFc (fun r64_ u64_ t H1 locs ht hvm hw hB hz1 hk1 hS => ?_)
          obtain ⟨w64_, a64_, b64_, hP1, hK1, hD1⟩ := hB
          rw [ht] at hP1
          obtain ⟨hP, hD⟩ := va_join (wr := [(h0, .inr (11, mX11 h1 h4 h11 h18 h23 h32 h33 h40 h48 h49 sp0 lw0)), (h1, .inr (9, mX9 h2 h3 (upd (upd v1 2 (u12_ 0)) 3 (u4_ 0)))), (h2, zi k2 600 f2), (h3, zi k3 12 (a4_ 0)), (h5, .inl (k5, 400, .inr (.inl f5))), (h6, zi k6 400 f6), (h32, .inr (8, mX8 h23 (upd (upd (upd (upd (upd (upd (upd (upd v32 1 (u26_ 3)) 2 (u26_ 4)) 3 (u26_ 5)) 4 (u26_ 6)) 5 (u26_ 7)) 6 (u26_ 8)) 7 (u26_ 9)) 8 (u26_ 10)))), (h23, .inr (6, mX6 h24 h25 h26 h27 h28 h29 h30 h31 v23)), (h29, zi k29 400 f29), (h27, zi k27 400 f27), (h24, zi k24 1250 f24), (h25, zi k25 833 f25), (h26, zi k26 833 f26), (h28, zi k28 400 f28), (h18, .inr (0, mX0 h19 h20 h21 h22 v18)), (h19, zi k19 120 f19)]) (w1 := [(h4, .inr (10, mX10 h5 h6 h7 h8 h9 h10 v4)), (h8, zi k8 12 (a64_ 0)), (h9, zi k9 12 (a64_ 1)), (h10, zi k10 13 (a64_ 2))]) hP hD [4, 6, 7, 8] [0, 1, 2, 3, 5, 9, 10, 11, 12, 13, 14, 15, 16, 17, 18, 19] rfl rfl (by decide) (by decide) hk1 hFc hP1 hD1
          have hP : va_P (dC, dI) vwCl [(h0, .inr (11, mX11 h1 h4 h11 h18 h23 h32 h33 h40 h48 h49 sp0 lw0)), (h1, .inr (9, mX9 h2 h3 (upd (upd v1 2 (u12_ 0)) 3 (u4_ 0)))), (h2, zi k2 600 f2), (h3, zi k3 12 (a4_ 0)), (h4, .inr (10, mX10 h5 h6 h7 h8 h9 h10 v4)), (h5, .inl (k5, 400, .inr (.inl f5))), (h8, zi k8 12 (a64_ 0)), (h9, zi k9 12 (a64_ 1)), (h10, zi k10 13 (a64_ 2)), (h6, zi k6 400 f6), (h32, .inr (8, mX8 h23 (upd (upd (upd (upd (upd (upd (upd (upd v32 1 (u26_ 3)) 2 (u26_ 4)) 3 (u26_ 5)) 4 (u26_ 6)) 5 (u26_ 7)) 6 (u26_ 8)) 7 (u26_ 9)) 8 (u26_ 10)))), (h23, .inr (6, mX6 h24 h25 h26 h27 h28 h29 h30 h31 v23)), (h29, zi k29 400 f29), (h27, zi k27 400 f27), (h24, zi k24 1250 f24), (h25, zi k25 833 f25), (h26, zi k26 833 f26), (h28, zi k28 400 f28), (h18, .inr (0, mX0 h19 h20 h21 h22 v18)), (h19, zi k19 120 f19)] H1 := hP.sub [0, 1, 2, 3, 16, 4, 17, 18, 19, 5, 6, 7, 8, 9, 10, 11, 12, 13, 14, 15] rfl
          have hD : va_D A [(h0, .inr (11, mX11 h1 h4 h11 h18 h23 h32 h33 h40 h48 h49 sp0 lw0)), (h1, .inr (9, mX9 h2 h3 (upd (upd v1 2 (u12_ 0)) 3 (u4_ 0)))), (h2, zi k2 600 f2), (h3, zi k3 12 (a4_ 0)), (h4, .inr (10, mX10 h5 h6 h7 h8 h9 h10 v4)), (h5, .inl (k5, 400, .inr (.inl f5))), (h8, zi k8 12 (a64_ 0)), (h9, zi k9 12 (a64_ 1)), (h10, zi k10 13 (a64_ 2)), (h6, zi k6 400 f6), (h32, .inr (8, mX8 h23 (upd (upd (upd (upd (upd (upd (upd (upd v32 1 (u26_ 3)) 2 (u26_ 4)) 3 (u26_ 5)) 4 (u26_ 6)) 5 (u26_ 7)) 6 (u26_ 8)) 7 (u26_ 9)) 8 (u26_ 10)))), (h23, .inr (6, mX6 h24 h25 h26 h27 h28 h29 h30 h31 v23)), (h29, zi k29 400 f29), (h27, zi k27 400 f27), (h24, zi k24 1250 f24), (h25, zi k25 833 f25), (h26, zi k26 833 f26), (h28, zi k28 400 f28), (h18, .inr (0, mX0 h19 h20 h21 h22 v18)), (h19, zi k19 120 f19)] := hD.sub [0, 1, 2, 3, 16, 4, 17, 18, 19, 5, 6, 7, 8, 9, 10, 11, 12, 13, 14, 15] (by decide) rfl
          generalize H1 = H at hP hS ⊢
          clear hz1
          refine lv_istore (lv' := [(8, .int r64_), (0, .ref h0), (1, .long r4_), (3, .long (w26_ 0)), (5, .int (u26_ 0)), (6, .int (u26_ 1)), (7, .int (u26_ 2))]) hx hb dX11_nearest_67 hl (by decide) rfl (fun ls hl => ?_)
          refine lv_iload hx hb dX11_nearest_69 (lv_at hl 0 rfl) ?_
          refine lv_iload hx hb dX11_nearest_71 (lv_at hl 4 rfl) ?_
          have b_ : -2147483648 ≤ r64_.toInt ∧ r64_.toInt ≤ 2147483647 := ⟨zlo _, zhi _⟩
          refine lv_icmp_gt (tgt := 143) hx hb dX11_nearest_73 (by decide) (fun c_ => ?_) (fun c_ => ?_)
          · skip
            have b_ := zT_gt rfl rfl c_
            obtain ⟨z143, e_z143⟩ : ∃ z : Int32, z = (u26_ 2) + Int32.ofInt 1 := ⟨_, rfl⟩
            have b_ := zadd (x := (u26_ 2)) (y := Int32.ofInt 1) rfl (show (Int32.ofInt 1).toInt = 1 from by decide) e_z143 (by omega) (by omega)
            refine lv_iinc (v := z143) (lv' := [(7, .int z143), (8, .int r64_), (0, .ref h0), (1, .long r4_), (3, .long (w26_ 0)), (5, .int (u26_ 0)), (6, .int (u26_ 1))]) hx hb dX11_nearest_143 hl (k := 6) rfl e_z143.symm (by decide) rfl (fun ls hl => ?_)
            refine lv_goto (tgt := 26) hx hb dX11_nearest_146 (by decide) ?_
            have b_ : -2147483648 ≤ (u26_ 1).toInt ∧ (u26_ 1).toInt ≤ 2147483647 := ⟨zlo _, zhi _⟩
            have hc : va_P (dC, dI) vwCl [(h0, .inr (11, mX11 h1 h4 h11 h18 h23 h32 h33 h40 h48 h49 sp0 lw0)), (h1, .inr (9, mX9 h2 h3 (upd (upd v1 2 (u12_ 0)) 3 (u4_ 0)))), (h2, zi k2 600 f2), (h3, zi k3 12 (a4_ 0)), (h4, .inr (10, mX10 h5 h6 h7 h8 h9 h10 v4)), (h5, .inl (k5, 400, .inr (.inl f5))), (h8, zi k8 12 (a64_ 0)), (h9, zi k9 12 (a64_ 1)), (h10, zi k10 13 (a64_ 2)), (h6, zi k6 400 f6), (h32, .inr (8, mX8 h23 (upd (upd (upd (upd (upd (upd (upd (upd v32 1 (u26_ 3)) 2 (u26_ 4)) 3 (u26_ 5)) 4 (u26_ 6)) 5 (u26_ 7)) 6 (u26_ 8)) 7 (u26_ 9)) 8 (u26_ 10)))), (h23, .inr (6, mX6 h24 h25 h26 h27 h28 h29 h30 h31 v23)), (h29, zi k29 400 f29), (h27, zi k27 400 f27), (h24, zi k24 1250 f24), (h25, zi k25 833 f25), (h26, zi k26 833 f26), (h28, zi k28 400 f28), (h18, .inr (0, mX0 h19 h20 h21 h22 v18)), (h19, zi k19 120 f19)] H ∧ va_D A [(h0, .inr (11, mX11 h1 h4 h11 h18 h23 h32 h33 h40 h48 h49 sp0 lw0)), (h1, .inr (9, mX9 h2 h3 (upd (upd v1 2 (u12_ 0)) 3 (u4_ 0)))), (h2, zi k2 600 f2), (h3, zi k3 12 (a4_ 0)), (h4, .inr (10, mX10 h5 h6 h7 h8 h9 h10 v4)), (h5, .inl (k5, 400, .inr (.inl f5))), (h8, zi k8 12 (a64_ 0)), (h9, zi k9 12 (a64_ 1)), (h10, zi k10 13 (a64_ 2)), (h6, zi k6 400 f6), (h32, .inr (8, mX8 h23 (upd (upd (upd (upd (upd (upd (upd (upd v32 1 (u26_ 3)) 2 (u26_ 4)) 3 (u26_ 5)) 4 (u26_ 6)) 5 (u26_ 7)) 6 (u26_ 8)) 7 (u26_ 9)) 8 (u26_ 10)))), (h23, .inr (6, mX6 h24 h25 h26 h27 h28 h29 h30 h31 v23)), (h29, zi k29 400 f29), (h27, zi k27 400 f27), (h24, zi k24 1250 f24), (h25, zi k25 833 f25), (h26, zi k26 833 f26), (h28, zi k28 400 f28), (h18, .inr (0, mX0 h19 h20 h21 h22 v18)), (h19, zi k19 120 f19)] ∧ va_S A s.heap H locs ∧ lv_has ls 10 [(0, .ref h0), (1, .long r4_), (3, .long (w26_ 0)), (5, .int (u26_ 0)), (6, .int (u26_ 1)), (7, .int z143)] ∧ ((-2147483648) ≤ (u26_ 0).toInt ∧ (u26_ 0).toInt ≤ 3) ∧ (0 ≤ z143.toInt ∧ z143.toInt ≤ 400) := ⟨hP, hD, hS, lv_sub hl [2, 3, 4, 5, 6, 0] rfl, (by first | with_reducible assumption | exact ⟨by omega, by omega⟩), (by first | with_reducible assumption | exact ⟨by omega, by omega⟩)⟩
            exact hJ26 H locs ls (fun i => ([(u26_ 0), (u26_ 1), z143, (u26_ 3), (u26_ 4), (u26_ 5), (u26_ 6), (u26_ 7), (u26_ 8), (u26_ 9), (u26_ 10)] : List (Int32)).getD i 0) (fun i => ([(w26_ 0)] : List (Int64)).getD i 0) (fun i => ([(a64_ 0), (a64_ 1), (a64_ 2)] : List (Nat → Int32)).getD i (fun _ => 0)) (fun _ => (fun _ => 0)) hc (show (400 - z143.toInt).toNat < (400 - (u26_ 2).toInt).toNat from by omega)
          · skip
            have b_ := zF_gt rfl rfl c_
            refine lv_iload hx hb dX11_nearest_76 (lv_at hl 0 rfl) ?_
            refine lv_iconst (v := 2) hx hb dX11_nearest_78 (by decide) ?_
            refine lv_icmp_gt (tgt := 143) hx hb dX11_nearest_79 (by decide) (fun c_ => ?_) (fun c_ => ?_)
            · skip
              have b_ := zT_gt rfl zk_2 c_
              obtain ⟨z143, e_z143⟩ : ∃ z : Int32, z = (u26_ 2) + Int32.ofInt 1 := ⟨_, rfl⟩
              have b_ := zadd (x := (u26_ 2)) (y := Int32.ofInt 1) rfl (show (Int32.ofInt 1).toInt = 1 from by decide) e_z143 (by omega) (by omega)
              refine lv_iinc (v := z143) (lv' := [(7, .int z143), (8, .int r64_), (0, .ref h0), (1, .long r4_), (3, .long (w26_ 0)), (5, .int (u26_ 0)), (6, .int (u26_ 1))]) hx hb dX11_nearest_143 hl (k := 6) rfl e_z143.symm (by decide) rfl (fun ls hl => ?_)
              refine lv_goto (tgt := 26) hx hb dX11_nearest_146 (by decide) ?_
              have b_ : -2147483648 ≤ (u26_ 1).toInt ∧ (u26_ 1).toInt ≤ 2147483647 := ⟨zlo _, zhi _⟩
              have hc : va_P (dC, dI) vwCl [(h0, .inr (11, mX11 h1 h4 h11 h18 h23 h32 h33 h40 h48 h49 sp0 lw0)), (h1, .inr (9, mX9 h2 h3 (upd (upd v1 2 (u12_ 0)) 3 (u4_ 0)))), (h2, zi k2 600 f2), (h3, zi k3 12 (a4_ 0)), (h4, .inr (10, mX10 h5 h6 h7 h8 h9 h10 v4)), (h5, .inl (k5, 400, .inr (.inl f5))), (h8, zi k8 12 (a64_ 0)), (h9, zi k9 12 (a64_ 1)), (h10, zi k10 13 (a64_ 2)), (h6, zi k6 400 f6), (h32, .inr (8, mX8 h23 (upd (upd (upd (upd (upd (upd (upd (upd v32 1 (u26_ 3)) 2 (u26_ 4)) 3 (u26_ 5)) 4 (u26_ 6)) 5 (u26_ 7)) 6 (u26_ 8)) 7 (u26_ 9)) 8 (u26_ 10)))), (h23, .inr (6, mX6 h24 h25 h26 h27 h28 h29 h30 h31 v23)), (h29, zi k29 400 f29), (h27, zi k27 400 f27), (h24, zi k24 1250 f24), (h25, zi k25 833 f25), (h26, zi k26 833 f26), (h28, zi k28 400 f28), (h18, .inr (0, mX0 h19 h20 h21 h22 v18)), (h19, zi k19 120 f19)] H ∧ va_D A [(h0, .inr (11, mX11 h1 h4 h11 h18 h23 h32 h33 h40 h48 h49 sp0 lw0)), (h1, .inr (9, mX9 h2 h3 (upd (upd v1 2 (u12_ 0)) 3 (u4_ 0)))), (h2, zi k2 600 f2), (h3, zi k3 12 (a4_ 0)), (h4, .inr (10, mX10 h5 h6 h7 h8 h9 h10 v4)), (h5, .inl (k5, 400, .inr (.inl f5))), (h8, zi k8 12 (a64_ 0)), (h9, zi k9 12 (a64_ 1)), (h10, zi k10 13 (a64_ 2)), (h6, zi k6 400 f6), (h32, .inr (8, mX8 h23 (upd (upd (upd (upd (upd (upd (upd (upd v32 1 (u26_ 3)) 2 (u26_ 4)) 3 (u26_ 5)) 4 (u26_ 6)) 5 (u26_ 7)) 6 (u26_ 8)) 7 (u26_ 9)) 8 (u26_ 10)))), (h23, .inr (6, mX6 h24 h25 h26 h27 h28 h29 h30 h31 v23)), (h29, zi k29 400 f29), (h27, zi k27 400 f27), (h24, zi k24 1250 f24), (h25, zi k25 833 f25), (h26, zi k26 833 f26), (h28, zi k28 400 f28), (h18, .inr (0, mX0 h19 h20 h21 h22 v18)), (h19, zi k19 120 f19)] ∧ va_S A s.heap H locs ∧ lv_has ls 10 [(0, .ref h0), (1, .long r4_), (3, .long (w26_ 0)), (5, .int (u26_ 0)), (6, .int (u26_ 1)), (7, .int z143)] ∧ ((-2147483648) ≤ (u26_ 0).toInt ∧ (u26_ 0).toInt ≤ 3) ∧ (0 ≤ z143.toInt ∧ z143.toInt ≤ 400) := ⟨hP, hD, hS, lv_sub hl [2, 3, 4, 5, 6, 0] rfl, (by first | with_reducible assumption | exact ⟨by omega, by omega⟩), (by first | with_reducible assumption | exact ⟨by omega, by omega⟩)⟩
              exact hJ26 H locs ls (fun i => ([(u26_ 0), (u26_ 1), z143, (u26_ 3), (u26_ 4), (u26_ 5), (u26_ 6), (u26_ 7), (u26_ 8), (u26_ 9), (u26_ 10)] : List (Int32)).getD i 0) (fun i => ([(w26_ 0)] : List (Int64)).getD i 0) (fun i => ([(a64_ 0), (a64_ 1), (a64_ 2)] : List (Nat → Int32)).getD i (fun _ => 0)) (fun _ => (fun _ => 0)) hc (show (400 - z143.toInt).toNat < (400 - (u26_ 2).toInt).toNat from by omega)
            · skip
              have b_ := zF_gt rfl zk_2 c_
              refine lv_aload_n hx hb dX11_nearest_82 rfl (lv_at hl 1 rfl) ?_
              refine va_get (D := (dC, dI)) (ci := 11) (v := .ref h32) (C := RX11) (T := TX11) (N := 12) hx hb hG zuX11 hown hK hP 0 rfl rfl 5 (by decide) (hG _ zv562) (fun _ h9 => h9) rfl dX11_nearest_83 ?_
              refine lv_aload_n hx hb dX11_nearest_86 rfl (lv_at hl 1 rfl) ?_
              refine va_get (D := (dC, dI)) (ci := 11) (v := .ref h4) (C := RX11) (T := TX11) (N := 12) hx hb hG zuX11 hown hK hP 0 rfl rfl 1 (by decide) (hG _ zv558) (fun _ h9 => h9) rfl dX11_nearest_87 ?_
              refine lv_iload hx hb dX11_nearest_90 (lv_at hl 6 rfl) ?_
              have hPc := hP.sub (ws' := [(h4, .inr (10, mX10 h5 h6 h7 h8 h9 h10 v4)), (h6, zi k6 400 f6)]) [4, 9] rfl
              have hDc := hD.sub (ws' := [(h4, .inr (10, mX10 h5 h6 h7 h8 h9 h10 v4)), (h6, zi k6 400 f6)]) [4, 9] (by decide) rfl
              have hKc := hK.sub (tys' := [(k6, .int)]) [6] rfl
              have hFc := va_free (wc := [(h4, .inr (10, mX10 h5 h6 h7 h8 h9 h10 v4)), (h6, zi k6 400 f6)]) hD hS hA [4, 9] rfl
              refine va_calli (va_runV (As := [.int (u26_ 2)]) (rest := [.ref h32]) ⟨hx, hb, hml, hown, hG⟩ (sX10_idAt_0 l dC dI adK adV h4 h6 h5 h7 h8 h9 h10 k6 H.size v4 f6 (u26_ 2) hv4 hf6) (cwV 1 hG (zgV zv963 zv753 zv754 zv131 zv755) rfl rfl rfl (by decide +kernel) ⟨Nat.le_of_ble_eq_true rfl, Nat.le_of_ble_eq_true rfl⟩) ⟨zPc_blind, va_recv hKc hPc (ci := 10) (q0 := 0) rfl rfl, zPc_pre hPc hKc hDc hE hS hFc hZ⟩ rfl rfl hl.1 rfl (lv_room (Nat.le_of_ble_eq_true rfl)) dX11_nearest_92 ⟨Nat.le_of_ble_eq_true rfl, Nat.le_of_ble_eq_true rfl⟩) hS (fun q _ h => hFc q h) hFc (fun r92_ u92_ t H1 locs ht hvm hw hB hz1 hk1 hS => ?_)
              replace hw : ((-1) ≤ r92_.toInt ∧ r92_.toInt ≤ 399) ∧ (0 ≤ (u26_ 2).toInt ∧ (u26_ 2).toInt < (v4 7).toInt → r92_.toInt = (f6 (((u26_ 2) : Int32)).toNatClampNeg).toInt) ∧ ((u26_ 2).toInt < 0 → r92_.toInt = -1) := hw
              obtain ⟨b_, hX92_0, hX92_1⟩ := hw
              obtain ⟨w92_, a92_, b92_, hP1, hK1, hD1⟩ := hB
              rw [ht] at hP1
              obtain ⟨hP, hD⟩ := va_join (wr := [(h0, .inr (11, mX11 h1 h4 h11 h18 h23 h32 h33 h40 h48 h49 sp0 lw0)), (h1, .inr (9, mX9 h2 h3 (upd (upd v1 2 (u12_ 0)) 3 (u4_ 0)))), (h2, zi k2 600 f2), (h3, zi k3 12 (a4_ 0)), (h5, .inl (k5, 400, .inr (.inl f5))), (h8, zi k8 12 (a64_ 0)), (h9, zi k9 12 (a64_ 1)), (h10, zi k10 13 (a64_ 2)), (h32, .inr (8, mX8 h23 (upd (upd (upd (upd (upd (upd (upd (upd v32 1 (u26_ 3)) 2 (u26_ 4)) 3 (u26_ 5)) 4 (u26_ 6)) 5 (u26_ 7)) 6 (u26_ 8)) 7 (u26_ 9)) 8 (u26_ 10)))), (h23, .inr (6, mX6 h24 h25 h26 h27 h28 h29 h30 h31 v23)), (h29, zi k29 400 f29), (h27, zi k27 400 f27), (h24, zi k24 1250 f24), (h25, zi k25 833 f25), (h26, zi k26 833 f26), (h28, zi k28 400 f28), (h18, .inr (0, mX0 h19 h20 h21 h22 v18)), (h19, zi k19 120 f19)]) (w1 := [(h4, .inr (10, mX10 h5 h6 h7 h8 h9 h10 v4)), (h6, zi k6 400 f6)]) hP hD [4, 9] [0, 1, 2, 3, 5, 6, 7, 8, 10, 11, 12, 13, 14, 15, 16, 17, 18, 19] rfl rfl (by decide) (by decide) hk1 hFc hP1 hD1
              have hP : va_P (dC, dI) vwCl [(h0, .inr (11, mX11 h1 h4 h11 h18 h23 h32 h33 h40 h48 h49 sp0 lw0)), (h1, .inr (9, mX9 h2 h3 (upd (upd v1 2 (u12_ 0)) 3 (u4_ 0)))), (h2, zi k2 600 f2), (h3, zi k3 12 (a4_ 0)), (h4, .inr (10, mX10 h5 h6 h7 h8 h9 h10 v4)), (h5, .inl (k5, 400, .inr (.inl f5))), (h8, zi k8 12 (a64_ 0)), (h9, zi k9 12 (a64_ 1)), (h10, zi k10 13 (a64_ 2)), (h6, zi k6 400 f6), (h32, .inr (8, mX8 h23 (upd (upd (upd (upd (upd (upd (upd (upd v32 1 (u26_ 3)) 2 (u26_ 4)) 3 (u26_ 5)) 4 (u26_ 6)) 5 (u26_ 7)) 6 (u26_ 8)) 7 (u26_ 9)) 8 (u26_ 10)))), (h23, .inr (6, mX6 h24 h25 h26 h27 h28 h29 h30 h31 v23)), (h29, zi k29 400 f29), (h27, zi k27 400 f27), (h24, zi k24 1250 f24), (h25, zi k25 833 f25), (h26, zi k26 833 f26), (h28, zi k28 400 f28), (h18, .inr (0, mX0 h19 h20 h21 h22 v18)), (h19, zi k19 120 f19)] H1 := hP.sub [0, 1, 2, 3, 18, 4, 5, 6, 7, 19, 8, 9, 10, 11, 12, 13, 14, 15, 16, 17] rfl
              have hD : va_D A [(h0, .inr (11, mX11 h1 h4 h11 h18 h23 h32 h33 h40 h48 h49 sp0 lw0)), (h1, .inr (9, mX9 h2 h3 (upd (upd v1 2 (u12_ 0)) 3 (u4_ 0)))), (h2, zi k2 600 f2), (h3, zi k3 12 (a4_ 0)), (h4, .inr (10, mX10 h5 h6 h7 h8 h9 h10 v4)), (h5, .inl (k5, 400, .inr (.inl f5))), (h8, zi k8 12 (a64_ 0)), (h9, zi k9 12 (a64_ 1)), (h10, zi k10 13 (a64_ 2)), (h6, zi k6 400 f6), (h32, .inr (8, mX8 h23 (upd (upd (upd (upd (upd (upd (upd (upd v32 1 (u26_ 3)) 2 (u26_ 4)) 3 (u26_ 5)) 4 (u26_ 6)) 5 (u26_ 7)) 6 (u26_ 8)) 7 (u26_ 9)) 8 (u26_ 10)))), (h23, .inr (6, mX6 h24 h25 h26 h27 h28 h29 h30 h31 v23)), (h29, zi k29 400 f29), (h27, zi k27 400 f27), (h24, zi k24 1250 f24), (h25, zi k25 833 f25), (h26, zi k26 833 f26), (h28, zi k28 400 f28), (h18, .inr (0, mX0 h19 h20 h21 h22 v18)), (h19, zi k19 120 f19)] := hD.sub [0, 1, 2, 3, 18, 4, 5, 6, 7, 19, 8, 9, 10, 11, 12, 13, 14, 15, 16, 17] (by decide) rfl
              generalize H1 = H at hP hS ⊢
              clear hz1
              have b_ : -2147483648 ≤ (u26_ 3).toInt ∧ (u26_ 3).toInt ≤ 2147483647 := ⟨zlo _, zhi _⟩
              have b_ : -2147483648 ≤ (u26_ 4).toInt ∧ (u26_ 4).toInt ≤ 2147483647 := ⟨zlo _, zhi _⟩
              have b_ : -2147483648 ≤ (u26_ 5).toInt ∧ (u26_ 5).toInt ≤ 2147483647 := ⟨zlo _, zhi _⟩
              have b_ : -2147483648 ≤ (u26_ 6).toInt ∧ (u26_ 6).toInt ≤ 2147483647 := ⟨zlo _, zhi _⟩
              have b_ : -2147483648 ≤ (u26_ 7).toInt ∧ (u26_ 7).toInt ≤ 2147483647 := ⟨zlo _, zhi _⟩
              have b_ : -2147483648 ≤ (u26_ 8).toInt ∧ (u26_ 8).toInt ≤ 2147483647 := ⟨zlo _, zhi _⟩
              have b_ : -2147483648 ≤ (u26_ 9).toInt ∧ (u26_ 9).toInt ≤ 2147483647 := ⟨zlo _, zhi _⟩
              have b_ : -2147483648 ≤ (u26_ 10).toInt ∧ (u26_ 10).toInt ≤ 2147483647 := ⟨zlo _, zhi _⟩
              have hPc := hP.sub (ws' := [(h32, .inr (8, mX8 h23 (upd (upd (upd (upd (upd (upd (upd (upd v32 1 (u26_ 3)) 2 (u26_ 4)) 3 (u26_ 5)) 4 (u26_ 6)) 5 (u26_ 7)) 6 (u26_ 8)) 7 (u26_ 9)) 8 (u26_ 10)))), (h23, .inr (6, mX6 h24 h25 h26 h27 h28 h29 h30 h31 v23)), (h29, zi k29 400 f29), (h27, zi k27 400 f27), (h24, zi k24 1250 f24), (h25, zi k25 833 f25), (h26, zi k26 833 f26), (h28, zi k28 400 f28)]) [10, 11, 12, 13, 14, 15, 16, 17] rfl
              have hDc := hD.sub (ws' := [(h32, .inr (8, mX8 h23 (upd (upd (upd (upd (upd (upd (upd (upd v32 1 (u26_ 3)) 2 (u26_ 4)) 3 (u26_ 5)) 4 (u26_ 6)) 5 (u26_ 7)) 6 (u26_ 8)) 7 (u26_ 9)) 8 (u26_ 10)))), (h23, .inr (6, mX6 h24 h25 h26 h27 h28 h29 h30 h31 v23)), (h29, zi k29 400 f29), (h27, zi k27 400 f27), (h24, zi k24 1250 f24), (h25, zi k25 833 f25), (h26, zi k26 833 f26), (h28, zi k28 400 f28)]) [10, 11, 12, 13, 14, 15, 16, 17] (by decide) rfl
              have hKc := hK.sub (tys' := [(k29, .int), (k27, .int), (k24, .int), (k25, .int), (k26, .int), (k28, .int)]) [7, 8, 9, 10, 11, 12] rfl
              have hFc := va_free (wc := [(h32, .inr (8, mX8 h23 (upd (upd (upd (upd (upd (upd (upd (upd v32 1 (u26_ 3)) 2 (u26_ 4)) 3 (u26_ 5)) 4 (u26_ 6)) 5 (u26_ 7)) 6 (u26_ 8)) 7 (u26_ 9)) 8 (u26_ 10)))), (h23, .inr (6, mX6 h24 h25 h26 h27 h28 h29 h30 h31 v23)), (h29, zi k29 400 f29), (h27, zi k27 400 f27), (h24, zi k24 1250 f24), (h25, zi k25 833 f25), (h26, zi k26 833 f26), (h28, zi k28 400 f28)]) hD hS hA [10, 11, 12, 13, 14, 15, 16, 17] rfl
              refine va_callv (va_runV (As := [.int r92_]) (rest := []) ⟨hx, hb, hml, hown, hG⟩ (sX8_open_0 l dC dI adK adV h32 h23 h29 h27 h24 h25 h26 h28 h30 h31 k29 k27 k24 k25 k26 k28 H.size (upd (upd (upd (upd (upd (upd (upd (upd v32 1 (u26_ 3)) 2 (u26_ 4)) 3 (u26_ 5)) 4 (u26_ 6)) 5 (u26_ 7)) 6 (u26_ 8)) 7 (u26_ 9)) 8 (u26_ 10)) v23 f29 f27 f24 f25 f26 f28 r92_ hv23 hf25 hf28) (cwV 1 hG (zgV zv897 zv898 zv899 zv134 zv900) rfl rfl rfl (by decide +kernel) ⟨Nat.le_of_ble_eq_true rfl, Nat.le_of_ble_eq_true rfl⟩) ⟨zPc_blind, va_recv hKc hPc (ci := 8) (q0 := 0) rfl rfl, zPc_pre hPc hKc hDc hE hS hFc hZ⟩ rfl rfl hl.1 rfl (lv_room (Nat.le_of_ble_eq_true rfl)) dX11_nearest_95 ⟨Nat.le_of_ble_eq_true rfl, Nat.le_of_ble_eq_true rfl⟩) hS (fun q _ h => hFc q h) hFc (fun u95_ t H1 locs ht hvm hw hB hz1 hk1 hS => ?_)
              replace hw : (0 ≤ (u95_ 2).toInt ∧ (u95_ 2).toInt ≤ 0) ∧ (0 ≤ (u95_ 3).toInt ∧ (u95_ 3).toInt ≤ 0) ∧ ((-1) ≤ (u95_ 4).toInt ∧ (u95_ 4).toInt ≤ (-1)) ∧ (0 ≤ (u95_ 5).toInt ∧ (u95_ 5).toInt ≤ 0) ∧ (0 ≤ (u95_ 6).toInt ∧ (u95_ 6).toInt ≤ 0) ∧ ((u95_ 4).toInt = -1) ∧ ((u95_ 5).toInt = 0) ∧ ((u95_ 6).toInt = 0) ∧ (zW (0 ≤ r92_.toInt → r92_.toInt ≤ 399 → ∀ B : Nat → List Bool, zPB f24 f25 f26 f27 f28 f29 (v23 8).toInt (v23 9).toInt (v23 10).toInt (v23 11).toInt B → zRr f27 f26 B (u95_ 0).toInt (u95_ 1).toInt (u95_ 2).toInt (u95_ 3).toInt (B ((r92_ : Int32)).toNatClampNeg))) := hw
              obtain ⟨b_, b_, b_, b_, b_, hX95_0, hX95_1, hX95_2, hX95_3⟩ := hw
              obtain ⟨w95_, a95_, b95_, hP1, hK1, hD1⟩ := hB
              rw [ht] at hP1
              obtain ⟨hP, hD⟩ := va_join (wr := [(h0, .inr (11, mX11 h1 h4 h11 h18 h23 h32 h33 h40 h48 h49 sp0 lw0)), (h1, .inr (9, mX9 h2 h3 (upd (upd v1 2 (u12_ 0)) 3 (u4_ 0)))), (h2, zi k2 600 f2), (h3, zi k3 12 (a4_ 0)), (h4, .inr (10, mX10 h5 h6 h7 h8 h9 h10 v4)), (h5, .inl (k5, 400, .inr (.inl f5))), (h8, zi k8 12 (a64_ 0)), (h9, zi k9 12 (a64_ 1)), (h10, zi k10 13 (a64_ 2)), (h6, zi k6 400 f6), (h18, .inr (0, mX0 h19 h20 h21 h22 v18)), (h19, zi k19 120 f19)]) (w1 := [(h32, .inr (8, mX8 h23 (upd (upd (upd (upd (upd (upd (upd (upd v32 1 (u95_ 0)) 2 (u95_ 1)) 3 (u95_ 2)) 4 (u95_ 3)) 5 (u95_ 4)) 6 (u95_ 5)) 7 (u95_ 6)) 8 (u26_ 10)))), (h23, .inr (6, mX6 h24 h25 h26 h27 h28 h29 h30 h31 v23)), (h29, zi k29 400 f29), (h27, zi k27 400 f27), (h24, zi k24 1250 f24), (h25, zi k25 833 f25), (h26, zi k26 833 f26), (h28, zi k28 400 f28)]) hP hD [10, 11, 12, 13, 14, 15, 16, 17] [0, 1, 2, 3, 4, 5, 6, 7, 8, 9, 18, 19] rfl rfl (by decide) (by decide) hk1 hFc hP1 hD1
              have hP : va_P (dC, dI) vwCl [(h0, .inr (11, mX11 h1 h4 h11 h18 h23 h32 h33 h40 h48 h49 sp0 lw0)), (h1, .inr (9, mX9 h2 h3 (upd (upd v1 2 (u12_ 0)) 3 (u4_ 0)))), (h2, zi k2 600 f2), (h3, zi k3 12 (a4_ 0)), (h4, .inr (10, mX10 h5 h6 h7 h8 h9 h10 v4)), (h5, .inl (k5, 400, .inr (.inl f5))), (h8, zi k8 12 (a64_ 0)), (h9, zi k9 12 (a64_ 1)), (h10, zi k10 13 (a64_ 2)), (h6, zi k6 400 f6), (h32, .inr (8, mX8 h23 (upd (upd (upd (upd (upd (upd (upd (upd v32 1 (u95_ 0)) 2 (u95_ 1)) 3 (u95_ 2)) 4 (u95_ 3)) 5 (u95_ 4)) 6 (u95_ 5)) 7 (u95_ 6)) 8 (u26_ 10)))), (h23, .inr (6, mX6 h24 h25 h26 h27 h28 h29 h30 h31 v23)), (h29, zi k29 400 f29), (h27, zi k27 400 f27), (h24, zi k24 1250 f24), (h25, zi k25 833 f25), (h26, zi k26 833 f26), (h28, zi k28 400 f28), (h18, .inr (0, mX0 h19 h20 h21 h22 v18)), (h19, zi k19 120 f19)] H1 := hP.sub [0, 1, 2, 3, 4, 5, 6, 7, 8, 9, 12, 13, 14, 15, 16, 17, 18, 19, 10, 11] rfl
              have hD : va_D A [(h0, .inr (11, mX11 h1 h4 h11 h18 h23 h32 h33 h40 h48 h49 sp0 lw0)), (h1, .inr (9, mX9 h2 h3 (upd (upd v1 2 (u12_ 0)) 3 (u4_ 0)))), (h2, zi k2 600 f2), (h3, zi k3 12 (a4_ 0)), (h4, .inr (10, mX10 h5 h6 h7 h8 h9 h10 v4)), (h5, .inl (k5, 400, .inr (.inl f5))), (h8, zi k8 12 (a64_ 0)), (h9, zi k9 12 (a64_ 1)), (h10, zi k10 13 (a64_ 2)), (h6, zi k6 400 f6), (h32, .inr (8, mX8 h23 (upd (upd (upd (upd (upd (upd (upd (upd v32 1 (u95_ 0)) 2 (u95_ 1)) 3 (u95_ 2)) 4 (u95_ 3)) 5 (u95_ 4)) 6 (u95_ 5)) 7 (u95_ 6)) 8 (u26_ 10)))), (h23, .inr (6, mX6 h24 h25 h26 h27 h28 h29 h30 h31 v23)), (h29, zi k29 400 f29), (h27, zi k27 400 f27), (h24, zi k24 1250 f24), (h25, zi k25 833 f25), (h26, zi k26 833 f26), (h28, zi k28 400 f28), (h18, .inr (0, mX0 h19 h20 h21 h22 v18)), (h19, zi k19 120 f19)] := hD.sub [0, 1, 2, 3, 4, 5, 6, 7, 8, 9, 12, 13, 14, 15, 16, 17, 18, 19, 10, 11] (by decide) rfl
              generalize H1 = H at hP hS ⊢
              clear hz1
              refine lv_aload_n hx hb dX11_nearest_98 rfl (lv_at hl 1 rfl) ?_
              refine va_get (D := (dC, dI)) (ci := 11) (v := .ref h32) (C := RX11) (T := TX11) (N := 12) hx hb hG zuX11 hown hK hP 0 rfl rfl 5 (by decide) (hG _ zv562) (fun _ h9 => h9) rfl dX11_nearest_99 ?_
              refine lv_aload_n hx hb dX11_nearest_102 rfl (lv_at hl 1 rfl) ?_
              refine va_get (D := (dC, dI)) (ci := 11) (v := .ref h18) (C := RX11) (T := TX11) (N := 12) hx hb hG zuX11 hown hK hP 0 rfl rfl 3 (by decide) (hG _ zv560) (fun _ h9 => h9) rfl dX11_nearest_103 ?_
              have b_ : -2147483648 ≤ (u95_ 0).toInt ∧ (u95_ 0).toInt ≤ 2147483647 := ⟨zlo _, zhi _⟩
              have b_ : -2147483648 ≤ (u95_ 1).toInt ∧ (u95_ 1).toInt ≤ 2147483647 := ⟨zlo _, zhi _⟩
              have hPc := hP.sub (ws' := [(h32, .inr (8, mX8 h23 (upd (upd (upd (upd (upd (upd (upd (upd v32 1 (u95_ 0)) 2 (u95_ 1)) 3 (u95_ 2)) 4 (u95_ 3)) 5 (u95_ 4)) 6 (u95_ 5)) 7 (u95_ 6)) 8 (u26_ 10)))), (h23, .inr (6, mX6 h24 h25 h26 h27 h28 h29 h30 h31 v23)), (h26, zi k26 833 f26), (h25, zi k25 833 f25), (h24, zi k24 1250 f24), (h27, zi k27 400 f27), (h28, zi k28 400 f28), (h29, zi k29 400 f29), (h18, .inr (0, mX0 h19 h20 h21 h22 v18)), (h19, zi k19 120 f19)]) [10, 11, 16, 15, 14, 13, 17, 12, 18, 19] rfl
              have hDc := hD.sub (ws' := [(h32, .inr (8, mX8 h23 (upd (upd (upd (upd (upd (upd (upd (upd v32 1 (u95_ 0)) 2 (u95_ 1)) 3 (u95_ 2)) 4 (u95_ 3)) 5 (u95_ 4)) 6 (u95_ 5)) 7 (u95_ 6)) 8 (u26_ 10)))), (h23, .inr (6, mX6 h24 h25 h26 h27 h28 h29 h30 h31 v23)), (h26, zi k26 833 f26), (h25, zi k25 833 f25), (h24, zi k24 1250 f24), (h27, zi k27 400 f27), (h28, zi k28 400 f28), (h29, zi k29 400 f29), (h18, .inr (0, mX0 h19 h20 h21 h22 v18)), (h19, zi k19 120 f19)]) [10, 11, 16, 15, 14, 13, 17, 12, 18, 19] (by decide) rfl
              have hKc := hK.sub (tys' := [(k26, .int), (k25, .int), (k24, .int), (k27, .int), (k28, .int), (k29, .int), (k19, .boolean)]) [11, 10, 9, 8, 12, 7, 13] rfl
              have hFc := va_free (wc := [(h32, .inr (8, mX8 h23 (upd (upd (upd (upd (upd (upd (upd (upd v32 1 (u95_ 0)) 2 (u95_ 1)) 3 (u95_ 2)) 4 (u95_ 3)) 5 (u95_ 4)) 6 (u95_ 5)) 7 (u95_ 6)) 8 (u26_ 10)))), (h23, .inr (6, mX6 h24 h25 h26 h27 h28 h29 h30 h31 v23)), (h26, zi k26 833 f26), (h25, zi k25 833 f25), (h24, zi k24 1250 f24), (h27, zi k27 400 f27), (h28, zi k28 400 f28), (h29, zi k29 400 f29), (h18, .inr (0, mX0 h19 h20 h21 h22 v18)), (h19, zi k19 120 f19)]) hD hS hA [10, 11, 16, 15, 14, 13, 17, 12, 18, 19] rfl
              refine va_calli (va_runV (As := [.ref h18]) (rest := []) ⟨hx, hb, hml, hown, hG⟩ (sX8_tallyDocuments_0 l dC dI adK adV h32 h23 h26 h25 h24 h27 h28 h29 h18 h19 h30 h31 h20 h21 h22 k26 k25 k24 k27 k28 k29 k19 H.size (upd (upd (upd (upd (upd (upd (upd (upd v32 1 (u95_ 0)) 2 (u95_ 1)) 3 (u95_ 2)) 4 (u95_ 3)) 5 (u95_ 4)) 6 (u95_ 5)) 7 (u95_ 6)) 8 (u26_ 10)) v23 f26 f25 f24 f27 f28 f29 v18 f19 hv23 hf25 hf28 hv18) (cwV 1 hG (zgV zv979 zv980 zv981 zv134 zv982) rfl rfl rfl (by decide +kernel) ⟨Nat.le_of_ble_eq_true rfl, Nat.le_of_ble_eq_true rfl⟩) ⟨zPc_blind, va_recv hKc hPc (ci := 8) (q0 := 0) rfl rfl, zPc_pre hPc hKc hDc hE hS hFc hZ⟩ rfl rfl hl.1 rfl (lv_room (Nat.le_of_ble_eq_true rfl)) dX11_nearest_106 ⟨Nat.le_of_ble_eq_true rfl, Nat.le_of_ble_eq_true rfl⟩) hS (fun q _ h => hFc q h) hFc (fun r106_ u106_ t H1 locs ht hvm hw hB hz1 hk1 hS => ?_)
              obtain ⟨w106_, a106_, b106_, hP1, hK1, hD1⟩ := hB
              rw [ht] at hP1
              obtain ⟨hP, hD⟩ := va_join (wr := [(h0, .inr (11, mX11 h1 h4 h11 h18 h23 h32 h33 h40 h48 h49 sp0 lw0)), (h1, .inr (9, mX9 h2 h3 (upd (upd v1 2 (u12_ 0)) 3 (u4_ 0)))), (h2, zi k2 600 f2), (h3, zi k3 12 (a4_ 0)), (h4, .inr (10, mX10 h5 h6 h7 h8 h9 h10 v4)), (h5, .inl (k5, 400, .inr (.inl f5))), (h8, zi k8 12 (a64_ 0)), (h9, zi k9 12 (a64_ 1)), (h10, zi k10 13 (a64_ 2)), (h6, zi k6 400 f6)]) (w1 := [(h32, .inr (8, mX8 h23 (upd (upd (upd (upd (upd (upd (upd (upd v32 1 (u106_ 0)) 2 (u106_ 1)) 3 (u106_ 2)) 4 (u106_ 3)) 5 (u106_ 4)) 6 (u106_ 5)) 7 (u106_ 6)) 8 (u106_ 7)))), (h23, .inr (6, mX6 h24 h25 h26 h27 h28 h29 h30 h31 v23)), (h26, zi k26 833 f26), (h25, zi k25 833 f25), (h24, zi k24 1250 f24), (h27, zi k27 400 f27), (h28, zi k28 400 f28), (h29, zi k29 400 f29), (h18, .inr (0, mX0 h19 h20 h21 h22 v18)), (h19, zi k19 120 f19)]) hP hD [10, 11, 16, 15, 14, 13, 17, 12, 18, 19] [0, 1, 2, 3, 4, 5, 6, 7, 8, 9] rfl rfl (by decide) (by decide) hk1 hFc hP1 hD1
              have hP : va_P (dC, dI) vwCl [(h0, .inr (11, mX11 h1 h4 h11 h18 h23 h32 h33 h40 h48 h49 sp0 lw0)), (h1, .inr (9, mX9 h2 h3 (upd (upd v1 2 (u12_ 0)) 3 (u4_ 0)))), (h2, zi k2 600 f2), (h3, zi k3 12 (a4_ 0)), (h4, .inr (10, mX10 h5 h6 h7 h8 h9 h10 v4)), (h5, .inl (k5, 400, .inr (.inl f5))), (h8, zi k8 12 (a64_ 0)), (h9, zi k9 12 (a64_ 1)), (h10, zi k10 13 (a64_ 2)), (h6, zi k6 400 f6), (h32, .inr (8, mX8 h23 (upd (upd (upd (upd (upd (upd (upd (upd v32 1 (u106_ 0)) 2 (u106_ 1)) 3 (u106_ 2)) 4 (u106_ 3)) 5 (u106_ 4)) 6 (u106_ 5)) 7 (u106_ 6)) 8 (u106_ 7)))), (h23, .inr (6, mX6 h24 h25 h26 h27 h28 h29 h30 h31 v23)), (h29, zi k29 400 f29), (h27, zi k27 400 f27), (h24, zi k24 1250 f24), (h25, zi k25 833 f25), (h26, zi k26 833 f26), (h28, zi k28 400 f28), (h18, .inr (0, mX0 h19 h20 h21 h22 v18)), (h19, zi k19 120 f19)] H1 := hP.sub [0, 1, 2, 3, 4, 5, 6, 7, 8, 9, 10, 11, 17, 15, 14, 13, 12, 16, 18, 19] rfl
              have hD : va_D A [(h0, .inr (11, mX11 h1 h4 h11 h18 h23 h32 h33 h40 h48 h49 sp0 lw0)), (h1, .inr (9, mX9 h2 h3 (upd (upd v1 2 (u12_ 0)) 3 (u4_ 0)))), (h2, zi k2 600 f2), (h3, zi k3 12 (a4_ 0)), (h4, .inr (10, mX10 h5 h6 h7 h8 h9 h10 v4)), (h5, .inl (k5, 400, .inr (.inl f5))), (h8, zi k8 12 (a64_ 0)), (h9, zi k9 12 (a64_ 1)), (h10, zi k10 13 (a64_ 2)), (h6, zi k6 400 f6), (h32, .inr (8, mX8 h23 (upd (upd (upd (upd (upd (upd (upd (upd v32 1 (u106_ 0)) 2 (u106_ 1)) 3 (u106_ 2)) 4 (u106_ 3)) 5 (u106_ 4)) 6 (u106_ 5)) 7 (u106_ 6)) 8 (u106_ 7)))), (h23, .inr (6, mX6 h24 h25 h26 h27 h28 h29 h30 h31 v23)), (h29, zi k29 400 f29), (h27, zi k27 400 f27), (h24, zi k24 1250 f24), (h25, zi k25 833 f25), (h26, zi k26 833 f26), (h28, zi k28 400 f28), (h18, .inr (0, mX0 h19 h20 h21 h22 v18)), (h19, zi k19 120 f19)] := hD.sub [0, 1, 2, 3, 4, 5, 6, 7, 8, 9, 10, 11, 17, 15, 14, 13, 12, 16, 18, 19] (by decide) rfl
              generalize H1 = H at hP hS ⊢
              clear hz1
              refine lv_istore (lv' := [(9, .int r106_), (8, .int r64_), (0, .ref h0), (1, .long r4_), (3, .long (w26_ 0)), (5, .int (u26_ 0)), (6, .int (u26_ 1)), (7, .int (u26_ 2))]) hx hb dX11_nearest_109 hl (by decide) rfl (fun ls hl => ?_)
              refine lv_iload hx hb dX11_nearest_111 (lv_at hl 1 rfl) ?_
              refine lv_iload hx hb dX11_nearest_113 (lv_at hl 5 rfl) ?_
              refine zcutW (fun H locs ls u125_ w125_ a125_ b125_ => va_P (dC, dI) vwCl [(h0, .inr (11, mX11 h1 h4 h11 h18 h23 h32 h33 h40 h48 h49 sp0 lw0)), (h1, .inr (9, mX9 h2 h3 (upd (upd v1 2 (u12_ 0)) 3 (u4_ 0)))), (h2, zi k2 600 f2), (h3, zi k3 12 (a4_ 0)), (h4, .inr (10, mX10 h5 h6 h7 h8 h9 h10 v4)), (h5, .inl (k5, 400, .inr (.inl f5))), (h8, zi k8 12 (a64_ 0)), (h9, zi k9 12 (a64_ 1)), (h10, zi k10 13 (a64_ 2)), (h6, zi k6 400 f6), (h32, .inr (8, mX8 h23 (upd (upd (upd (upd (upd (upd (upd (upd v32 1 (u106_ 0)) 2 (u106_ 1)) 3 (u106_ 2)) 4 (u106_ 3)) 5 (u106_ 4)) 6 (u106_ 5)) 7 (u106_ 6)) 8 (u106_ 7)))), (h23, .inr (6, mX6 h24 h25 h26 h27 h28 h29 h30 h31 v23)), (h29, zi k29 400 f29), (h27, zi k27 400 f27), (h24, zi k24 1250 f24), (h25, zi k25 833 f25), (h26, zi k26 833 f26), (h28, zi k28 400 f28), (h18, .inr (0, mX0 h19 h20 h21 h22 v18)), (h19, zi k19 120 f19)] H ∧ va_D A [(h0, .inr (11, mX11 h1 h4 h11 h18 h23 h32 h33 h40 h48 h49 sp0 lw0)), (h1, .inr (9, mX9 h2 h3 (upd (upd v1 2 (u12_ 0)) 3 (u4_ 0)))), (h2, zi k2 600 f2), (h3, zi k3 12 (a4_ 0)), (h4, .inr (10, mX10 h5 h6 h7 h8 h9 h10 v4)), (h5, .inl (k5, 400, .inr (.inl f5))), (h8, zi k8 12 (a64_ 0)), (h9, zi k9 12 (a64_ 1)), (h10, zi k10 13 (a64_ 2)), (h6, zi k6 400 f6), (h32, .inr (8, mX8 h23 (upd (upd (upd (upd (upd (upd (upd (upd v32 1 (u106_ 0)) 2 (u106_ 1)) 3 (u106_ 2)) 4 (u106_ 3)) 5 (u106_ 4)) 6 (u106_ 5)) 7 (u106_ 6)) 8 (u106_ 7)))), (h23, .inr (6, mX6 h24 h25 h26 h27 h28 h29 h30 h31 v23)), (h29, zi k29 400 f29), (h27, zi k27 400 f27), (h24, zi k24 1250 f24), (h25, zi k25 833 f25), (h26, zi k26 833 f26), (h28, zi k28 400 f28), (h18, .inr (0, mX0 h19 h20 h21 h22 v18)), (h19, zi k19 120 f19)] ∧ va_S A s.heap H locs ∧ lv_has ls 10 [(0, .ref h0), (1, .long r4_), (3, .long (w26_ 0)), (5, .int (u26_ 0)), (6, .int (u26_ 1)), (7, .int (u26_ 2)), (8, .int r64_), (9, .int r106_)]) (fun ls u125_ w125_ => F0 m 125 ls []) 0 0 ?_ (fun hJ125 => ?_)
              · skip
                intro H locs ls u125_ w125_ a125_ b125_ hc
                obtain ⟨hP, hD, hS, hl⟩ := hc
                refine lv_aload_n hx hb dX11_nearest_125 rfl (lv_at hl 0 rfl) ?_
                refine va_get (D := (dC, dI)) (ci := 11) (v := .ref h4) (C := RX11) (T := TX11) (N := 12) hx hb hG zuX11 hown hK hP 0 rfl rfl 1 (by decide) (hG _ zv558) (fun _ h9 => h9) rfl dX11_nearest_126 ?_
                refine lv_iload hx hb dX11_nearest_129 (lv_at hl 5 rfl) ?_
                have hPc := hP.sub (ws' := [(h4, .inr (10, mX10 h5 h6 h7 h8 h9 h10 v4)), (h5, .inl (k5, 400, .inr (.inl f5)))]) [4, 5] rfl
                have hDc := hD.sub (ws' := [(h4, .inr (10, mX10 h5 h6 h7 h8 h9 h10 v4)), (h5, .inl (k5, 400, .inr (.inl f5)))]) [4, 5] (by decide) rfl
                have hKc := hK.sub (tys' := [(k5, .long)]) [2] rfl
                have hFc := va_free (wc := [(h4, .inr (10, mX10 h5 h6 h7 h8 h9 h10 v4)), (h5, .inl (k5, 400, .inr (.inl f5)))]) hD hS hA [4, 5] rfl
                refine va_calll (va_runV (As := [.int (u26_ 2)]) (rest := []) ⟨hx, hb, hml, hown, hG⟩ (sX10_wordAt_0 l dC dI adK adV h4 h5 h6 h7 h8 h9 h10 k5 H.size v4 f5 (u26_ 2) hv4) (cwV 1 hG (zgV zv1380 zv1381 zv1382 zv131 zv1383) rfl rfl rfl (by decide +kernel) ⟨Nat.le_of_ble_eq_true rfl, Nat.le_of_ble_eq_true rfl⟩) ⟨zPc_blind, va_recv hKc hPc (ci := 10) (q0 := 0) rfl rfl, zPc_pre hPc hKc hDc hE hS hFc hZ⟩ rfl rfl hl.1 rfl (lv_room (Nat.le_of_ble_eq_true rfl)) dX11_nearest_131 ⟨Nat.le_of_ble_eq_true rfl, Nat.le_of_ble_eq_true rfl⟩) hS (fun q _ h => hFc q h) hFc (fun r131_ u131_ t H1 locs ht hvm hw hB hz1 hk1 hS => ?_)
                obtain ⟨w131_, a131_, b131_, hP1, hK1, hD1⟩ := hB
                rw [ht] at hP1
                obtain ⟨hP, hD⟩ := va_join (wr := [(h0, .inr (11, mX11 h1 h4 h11 h18 h23 h32 h33 h40 h48 h49 sp0 lw0)), (h1, .inr (9, mX9 h2 h3 (upd (upd v1 2 (u12_ 0)) 3 (u4_ 0)))), (h2, zi k2 600 f2), (h3, zi k3 12 (a4_ 0)), (h8, zi k8 12 (a64_ 0)), (h9, zi k9 12 (a64_ 1)), (h10, zi k10 13 (a64_ 2)), (h6, zi k6 400 f6), (h32, .inr (8, mX8 h23 (upd (upd (upd (upd (upd (upd (upd (upd v32 1 (u106_ 0)) 2 (u106_ 1)) 3 (u106_ 2)) 4 (u106_ 3)) 5 (u106_ 4)) 6 (u106_ 5)) 7 (u106_ 6)) 8 (u106_ 7)))), (h23, .inr (6, mX6 h24 h25 h26 h27 h28 h29 h30 h31 v23)), (h29, zi k29 400 f29), (h27, zi k27 400 f27), (h24, zi k24 1250 f24), (h25, zi k25 833 f25), (h26, zi k26 833 f26), (h28, zi k28 400 f28), (h18, .inr (0, mX0 h19 h20 h21 h22 v18)), (h19, zi k19 120 f19)]) (w1 := [(h4, .inr (10, mX10 h5 h6 h7 h8 h9 h10 v4)), (h5, .inl (k5, 400, .inr (.inl f5)))]) hP hD [4, 5] [0, 1, 2, 3, 6, 7, 8, 9, 10, 11, 12, 13, 14, 15, 16, 17, 18, 19] rfl rfl (by decide) (by decide) hk1 hFc hP1 hD1
                have hP : va_P (dC, dI) vwCl [(h0, .inr (11, mX11 h1 h4 h11 h18 h23 h32 h33 h40 h48 h49 sp0 lw0)), (h1, .inr (9, mX9 h2 h3 (upd (upd v1 2 (u12_ 0)) 3 (u4_ 0)))), (h2, zi k2 600 f2), (h3, zi k3 12 (a4_ 0)), (h4, .inr (10, mX10 h5 h6 h7 h8 h9 h10 v4)), (h5, .inl (k5, 400, .inr (.inl f5))), (h8, zi k8 12 (a64_ 0)), (h9, zi k9 12 (a64_ 1)), (h10, zi k10 13 (a64_ 2)), (h6, zi k6 400 f6), (h32, .inr (8, mX8 h23 (upd (upd (upd (upd (upd (upd (upd (upd v32 1 (u106_ 0)) 2 (u106_ 1)) 3 (u106_ 2)) 4 (u106_ 3)) 5 (u106_ 4)) 6 (u106_ 5)) 7 (u106_ 6)) 8 (u106_ 7)))), (h23, .inr (6, mX6 h24 h25 h26 h27 h28 h29 h30 h31 v23)), (h29, zi k29 400 f29), (h27, zi k27 400 f27), (h24, zi k24 1250 f24), (h25, zi k25 833 f25), (h26, zi k26 833 f26), (h28, zi k28 400 f28), (h18, .inr (0, mX0 h19 h20 h21 h22 v18)), (h19, zi k19 120 f19)] H1 := hP.sub [0, 1, 2, 3, 18, 19, 4, 5, 6, 7, 8, 9, 10, 11, 12, 13, 14, 15, 16, 17] rfl
                have hD : va_D A [(h0, .inr (11, mX11 h1 h4 h11 h18 h23 h32 h33 h40 h48 h49 sp0 lw0)), (h1, .inr (9, mX9 h2 h3 (upd (upd v1 2 (u12_ 0)) 3 (u4_ 0)))), (h2, zi k2 600 f2), (h3, zi k3 12 (a4_ 0)), (h4, .inr (10, mX10 h5 h6 h7 h8 h9 h10 v4)), (h5, .inl (k5, 400, .inr (.inl f5))), (h8, zi k8 12 (a64_ 0)), (h9, zi k9 12 (a64_ 1)), (h10, zi k10 13 (a64_ 2)), (h6, zi k6 400 f6), (h32, .inr (8, mX8 h23 (upd (upd (upd (upd (upd (upd (upd (upd v32 1 (u106_ 0)) 2 (u106_ 1)) 3 (u106_ 2)) 4 (u106_ 3)) 5 (u106_ 4)) 6 (u106_ 5)) 7 (u106_ 6)) 8 (u106_ 7)))), (h23, .inr (6, mX6 h24 h25 h26 h27 h28 h29 h30 h31 v23)), (h29, zi k29 400 f29), (h27, zi k27 400 f27), (h24, zi k24 1250 f24), (h25, zi k25 833 f25), (h26, zi k26 833 f26), (h28, zi k28 400 f28), (h18, .inr (0, mX0 h19 h20 h21 h22 v18)), (h19, zi k19 120 f19)] := hD.sub [0, 1, 2, 3, 18, 19, 4, 5, 6, 7, 8, 9, 10, 11, 12, 13, 14, 15, 16, 17] (by decide) rfl
                generalize H1 = H at hP hS ⊢
                clear hz1
                refine lv_lstore_n (lv' := [(3, .long r131_), (0, .ref h0), (1, .long r4_), (5, .int (u26_ 0)), (6, .int (u26_ 1)), (7, .int (u26_ 2)), (8, .int r64_), (9, .int r106_)]) hx hb dX11_nearest_134 rfl hl (by decide) rfl (fun ls hl => ?_)
                refine lv_iload hx hb dX11_nearest_135 (lv_at hl 6 rfl) ?_
                refine lv_istore (lv' := [(5, .int r64_), (3, .long r131_), (0, .ref h0), (1, .long r4_), (6, .int (u26_ 1)), (7, .int (u26_ 2)), (8, .int r64_), (9, .int r106_)]) hx hb dX11_nearest_137 hl (by decide) rfl (fun ls hl => ?_)
                refine lv_iload hx hb dX11_nearest_139 (lv_at hl 7 rfl) ?_
                refine lv_istore (lv' := [(6, .int r106_), (5, .int r64_), (3, .long r131_), (0, .ref h0), (1, .long r4_), (7, .int (u26_ 2)), (8, .int r64_), (9, .int r106_)]) hx hb dX11_nearest_141 hl (by decide) rfl (fun ls hl => ?_)
                obtain ⟨z143, e_z143⟩ : ∃ z : Int32, z = (u26_ 2) + Int32.ofInt 1 := ⟨_, rfl⟩
                have b_ := zadd (x := (u26_ 2)) (y := Int32.ofInt 1) rfl (show (Int32.ofInt 1).toInt = 1 from by decide) e_z143 (by omega) (by omega)
                refine lv_iinc (v := z143) (lv' := [(7, .int z143), (6, .int r106_), (5, .int r64_), (3, .long r131_), (0, .ref h0), (1, .long r4_), (8, .int r64_), (9, .int r106_)]) hx hb dX11_nearest_143 hl (k := 5) rfl e_z143.symm (by decide) rfl (fun ls hl => ?_)
                refine lv_goto (tgt := 26) hx hb dX11_nearest_146 (by decide) ?_
                have b_ : -2147483648 ≤ r106_.toInt ∧ r106_.toInt ≤ 2147483647 := ⟨zlo _, zhi _⟩
                have hc : va_P (dC, dI) vwCl [(h0, .inr (11, mX11 h1 h4 h11 h18 h23 h32 h33 h40 h48 h49 sp0 lw0)), (h1, .inr (9, mX9 h2 h3 (upd (upd v1 2 (u12_ 0)) 3 (u4_ 0)))), (h2, zi k2 600 f2), (h3, zi k3 12 (a4_ 0)), (h4, .inr (10, mX10 h5 h6 h7 h8 h9 h10 v4)), (h5, .inl (k5, 400, .inr (.inl f5))), (h8, zi k8 12 (a64_ 0)), (h9, zi k9 12 (a64_ 1)), (h10, zi k10 13 (a64_ 2)), (h6, zi k6 400 f6), (h32, .inr (8, mX8 h23 (upd (upd (upd (upd (upd (upd (upd (upd v32 1 (u106_ 0)) 2 (u106_ 1)) 3 (u106_ 2)) 4 (u106_ 3)) 5 (u106_ 4)) 6 (u106_ 5)) 7 (u106_ 6)) 8 (u106_ 7)))), (h23, .inr (6, mX6 h24 h25 h26 h27 h28 h29 h30 h31 v23)), (h29, zi k29 400 f29), (h27, zi k27 400 f27), (h24, zi k24 1250 f24), (h25, zi k25 833 f25), (h26, zi k26 833 f26), (h28, zi k28 400 f28), (h18, .inr (0, mX0 h19 h20 h21 h22 v18)), (h19, zi k19 120 f19)] H ∧ va_D A [(h0, .inr (11, mX11 h1 h4 h11 h18 h23 h32 h33 h40 h48 h49 sp0 lw0)), (h1, .inr (9, mX9 h2 h3 (upd (upd v1 2 (u12_ 0)) 3 (u4_ 0)))), (h2, zi k2 600 f2), (h3, zi k3 12 (a4_ 0)), (h4, .inr (10, mX10 h5 h6 h7 h8 h9 h10 v4)), (h5, .inl (k5, 400, .inr (.inl f5))), (h8, zi k8 12 (a64_ 0)), (h9, zi k9 12 (a64_ 1)), (h10, zi k10 13 (a64_ 2)), (h6, zi k6 400 f6), (h32, .inr (8, mX8 h23 (upd (upd (upd (upd (upd (upd (upd (upd v32 1 (u106_ 0)) 2 (u106_ 1)) 3 (u106_ 2)) 4 (u106_ 3)) 5 (u106_ 4)) 6 (u106_ 5)) 7 (u106_ 6)) 8 (u106_ 7)))), (h23, .inr (6, mX6 h24 h25 h26 h27 h28 h29 h30 h31 v23)), (h29, zi k29 400 f29), (h27, zi k27 400 f27), (h24, zi k24 1250 f24), (h25, zi k25 833 f25), (h26, zi k26 833 f26), (h28, zi k28 400 f28), (h18, .inr (0, mX0 h19 h20 h21 h22 v18)), (h19, zi k19 120 f19)] ∧ va_S A s.heap H locs ∧ lv_has ls 10 [(0, .ref h0), (1, .long r4_), (3, .long r131_), (5, .int r64_), (6, .int r106_), (7, .int z143)] ∧ ((-2147483648) ≤ r64_.toInt ∧ r64_.toInt ≤ 3) ∧ (0 ≤ z143.toInt ∧ z143.toInt ≤ 400) := ⟨hP, hD, hS, lv_sub hl [4, 5, 3, 2, 1, 0] rfl, (by first | with_reducible assumption | exact ⟨by omega, by omega⟩), (by first | with_reducible assumption | exact ⟨by omega, by omega⟩)⟩
                exact hJ26 H locs ls (fun i => ([r64_, r106_, z143, (u106_ 0), (u106_ 1), (u106_ 2), (u106_ 3), (u106_ 4), (u106_ 5), (u106_ 6), (u106_ 7)] : List (Int32)).getD i 0) (fun i => ([r131_] : List (Int64)).getD i 0) (fun i => ([(a64_ 0), (a64_ 1), (a64_ 2)] : List (Nat → Int32)).getD i (fun _ => 0)) (fun _ => (fun _ => 0)) hc (show (400 - z143.toInt).toNat < (400 - (u26_ 2).toInt).toNat from by omega)
              · skip
                refine lv_icmp_lt (tgt := 125) hx hb dX11_nearest_115 (by decide) (fun c_ => ?_) (fun c_ => ?_)
                · skip
                  have b_ := zT_lt rfl rfl c_
                  have hc : va_P (dC, dI) vwCl [(h0, .inr (11, mX11 h1 h4 h11 h18 h23 h32 h33 h40 h48 h49 sp0 lw0)), (h1, .inr (9, mX9 h2 h3 (upd (upd v1 2 (u12_ 0)) 3 (u4_ 0)))), (h2, zi k2 600 f2), (h3, zi k3 12 (a4_ 0)), (h4, .inr (10, mX10 h5 h6 h7 h8 h9 h10 v4)), (h5, .inl (k5, 400, .inr (.inl f5))), (h8, zi k8 12 (a64_ 0)), (h9, zi k9 12 (a64_ 1)), (h10, zi k10 13 (a64_ 2)), (h6, zi k6 400 f6), (h32, .inr (8, mX8 h23 (upd (upd (upd (upd (upd (upd (upd (upd v32 1 (u106_ 0)) 2 (u106_ 1)) 3 (u106_ 2)) 4 (u106_ 3)) 5 (u106_ 4)) 6 (u106_ 5)) 7 (u106_ 6)) 8 (u106_ 7)))), (h23, .inr (6, mX6 h24 h25 h26 h27 h28 h29 h30 h31 v23)), (h29, zi k29 400 f29), (h27, zi k27 400 f27), (h24, zi k24 1250 f24), (h25, zi k25 833 f25), (h26, zi k26 833 f26), (h28, zi k28 400 f28), (h18, .inr (0, mX0 h19 h20 h21 h22 v18)), (h19, zi k19 120 f19)] H ∧ va_D A [(h0, .inr (11, mX11 h1 h4 h11 h18 h23 h32 h33 h40 h48 h49 sp0 lw0)), (h1, .inr (9, mX9 h2 h3 (upd (upd v1 2 (u12_ 0)) 3 (u4_ 0)))), (h2, zi k2 600 f2), (h3, zi k3 12 (a4_ 0)), (h4, .inr (10, mX10 h5 h6 h7 h8 h9 h10 v4)), (h5, .inl (k5, 400, .inr (.inl f5))), (h8, zi k8 12 (a64_ 0)), (h9, zi k9 12 (a64_ 1)), (h10, zi k10 13 (a64_ 2)), (h6, zi k6 400 f6), (h32, .inr (8, mX8 h23 (upd (upd (upd (upd (upd (upd (upd (upd v32 1 (u106_ 0)) 2 (u106_ 1)) 3 (u106_ 2)) 4 (u106_ 3)) 5 (u106_ 4)) 6 (u106_ 5)) 7 (u106_ 6)) 8 (u106_ 7)))), (h23, .inr (6, mX6 h24 h25 h26 h27 h28 h29 h30 h31 v23)), (h29, zi k29 400 f29), (h27, zi k27 400 f27), (h24, zi k24 1250 f24), (h25, zi k25 833 f25), (h26, zi k26 833 f26), (h28, zi k28 400 f28), (h18, .inr (0, mX0 h19 h20 h21 h22 v18)), (h19, zi k19 120 f19)] ∧ va_S A s.heap H locs ∧ lv_has ls 10 [(0, .ref h0), (1, .long r4_), (3, .long (w26_ 0)), (5, .int (u26_ 0)), (6, .int (u26_ 1)), (7, .int (u26_ 2)), (8, .int r64_), (9, .int r106_)] := ⟨hP, hD, hS, lv_sub hl [2, 3, 4, 5, 6, 7, 1, 0] rfl⟩
                  exact hJ125 H locs ls (fun _ => 0) (fun _ => 0) (fun _ => (fun _ => 0)) (fun _ => (fun _ => 0)) hc
                · skip
                  have b_ := zF_lt rfl rfl c_
                  refine lv_iload hx hb dX11_nearest_118 (lv_at hl 0 rfl) ?_
                  refine lv_iload hx hb dX11_nearest_120 (lv_at hl 6 rfl) ?_
                  have b_ : -2147483648 ≤ r106_.toInt ∧ r106_.toInt ≤ 2147483647 := ⟨zlo _, zhi _⟩
                  have b_ : -2147483648 ≤ (u26_ 1).toInt ∧ (u26_ 1).toInt ≤ 2147483647 := ⟨zlo _, zhi _⟩
                  refine lv_icmp_le (tgt := 143) hx hb dX11_nearest_122 (by decide) (fun c_ => ?_) (fun c_ => ?_)
                  · skip
                    have b_ := zT_le rfl rfl c_
                    obtain ⟨z143, e_z143⟩ : ∃ z : Int32, z = (u26_ 2) + Int32.ofInt 1 := ⟨_, rfl⟩
                    have b_ := zadd (x := (u26_ 2)) (y := Int32.ofInt 1) rfl (show (Int32.ofInt 1).toInt = 1 from by decide) e_z143 (by omega) (by omega)
                    refine lv_iinc (v := z143) (lv' := [(7, .int z143), (9, .int r106_), (8, .int r64_), (0, .ref h0), (1, .long r4_), (3, .long (w26_ 0)), (5, .int (u26_ 0)), (6, .int (u26_ 1))]) hx hb dX11_nearest_143 hl (k := 7) rfl e_z143.symm (by decide) rfl (fun ls hl => ?_)
                    refine lv_goto (tgt := 26) hx hb dX11_nearest_146 (by decide) ?_
                    have hc : va_P (dC, dI) vwCl [(h0, .inr (11, mX11 h1 h4 h11 h18 h23 h32 h33 h40 h48 h49 sp0 lw0)), (h1, .inr (9, mX9 h2 h3 (upd (upd v1 2 (u12_ 0)) 3 (u4_ 0)))), (h2, zi k2 600 f2), (h3, zi k3 12 (a4_ 0)), (h4, .inr (10, mX10 h5 h6 h7 h8 h9 h10 v4)), (h5, .inl (k5, 400, .inr (.inl f5))), (h8, zi k8 12 (a64_ 0)), (h9, zi k9 12 (a64_ 1)), (h10, zi k10 13 (a64_ 2)), (h6, zi k6 400 f6), (h32, .inr (8, mX8 h23 (upd (upd (upd (upd (upd (upd (upd (upd v32 1 (u106_ 0)) 2 (u106_ 1)) 3 (u106_ 2)) 4 (u106_ 3)) 5 (u106_ 4)) 6 (u106_ 5)) 7 (u106_ 6)) 8 (u106_ 7)))), (h23, .inr (6, mX6 h24 h25 h26 h27 h28 h29 h30 h31 v23)), (h29, zi k29 400 f29), (h27, zi k27 400 f27), (h24, zi k24 1250 f24), (h25, zi k25 833 f25), (h26, zi k26 833 f26), (h28, zi k28 400 f28), (h18, .inr (0, mX0 h19 h20 h21 h22 v18)), (h19, zi k19 120 f19)] H ∧ va_D A [(h0, .inr (11, mX11 h1 h4 h11 h18 h23 h32 h33 h40 h48 h49 sp0 lw0)), (h1, .inr (9, mX9 h2 h3 (upd (upd v1 2 (u12_ 0)) 3 (u4_ 0)))), (h2, zi k2 600 f2), (h3, zi k3 12 (a4_ 0)), (h4, .inr (10, mX10 h5 h6 h7 h8 h9 h10 v4)), (h5, .inl (k5, 400, .inr (.inl f5))), (h8, zi k8 12 (a64_ 0)), (h9, zi k9 12 (a64_ 1)), (h10, zi k10 13 (a64_ 2)), (h6, zi k6 400 f6), (h32, .inr (8, mX8 h23 (upd (upd (upd (upd (upd (upd (upd (upd v32 1 (u106_ 0)) 2 (u106_ 1)) 3 (u106_ 2)) 4 (u106_ 3)) 5 (u106_ 4)) 6 (u106_ 5)) 7 (u106_ 6)) 8 (u106_ 7)))), (h23, .inr (6, mX6 h24 h25 h26 h27 h28 h29 h30 h31 v23)), (h29, zi k29 400 f29), (h27, zi k27 400 f27), (h24, zi k24 1250 f24), (h25, zi k25 833 f25), (h26, zi k26 833 f26), (h28, zi k28 400 f28), (h18, .inr (0, mX0 h19 h20 h21 h22 v18)), (h19, zi k19 120 f19)] ∧ va_S A s.heap H locs ∧ lv_has ls 10 [(0, .ref h0), (1, .long r4_), (3, .long (w26_ 0)), (5, .int (u26_ 0)), (6, .int (u26_ 1)), (7, .int z143)] ∧ ((-2147483648) ≤ (u26_ 0).toInt ∧ (u26_ 0).toInt ≤ 3) ∧ (0 ≤ z143.toInt ∧ z143.toInt ≤ 400) := ⟨hP, hD, hS, lv_sub hl [3, 4, 5, 6, 7, 0] rfl, (by first | with_reducible assumption | exact ⟨by omega, by omega⟩), (by first | with_reducible assumption | exact ⟨by omega, by omega⟩)⟩
                    exact hJ26 H locs ls (fun i => ([(u26_ 0), (u26_ 1), z143, (u106_ 0), (u106_ 1), (u106_ 2), (u106_ 3), (u106_ 4), (u106_ 5), (u106_ 6), (u106_ 7)] : List (Int32)).getD i 0) (fun i => ([(w26_ 0)] : List (Int64)).getD i 0) (fun i => ([(a64_ 0), (a64_ 1), (a64_ 2)] : List (Nat → Int32)).getD i (fun _ => 0)) (fun _ => (fun _ => 0)) hc (show (400 - z143.toInt).toNat < (400 - (u26_ 2).toInt).toNat from by omega)
                  · skip
                    have b_ := zF_le rfl rfl c_
                    have hc : va_P (dC, dI) vwCl [(h0, .inr (11, mX11 h1 h4 h11 h18 h23 h32 h33 h40 h48 h49 sp0 lw0)), (h1, .inr (9, mX9 h2 h3 (upd (upd v1 2 (u12_ 0)) 3 (u4_ 0)))), (h2, zi k2 600 f2), (h3, zi k3 12 (a4_ 0)), (h4, .inr (10, mX10 h5 h6 h7 h8 h9 h10 v4)), (h5, .inl (k5, 400, .inr (.inl f5))), (h8, zi k8 12 (a64_ 0)), (h9, zi k9 12 (a64_ 1)), (h10, zi k10 13 (a64_ 2)), (h6, zi k6 400 f6), (h32, .inr (8, mX8 h23 (upd (upd (upd (upd (upd (upd (upd (upd v32 1 (u106_ 0)) 2 (u106_ 1)) 3 (u106_ 2)) 4 (u106_ 3)) 5 (u106_ 4)) 6 (u106_ 5)) 7 (u106_ 6)) 8 (u106_ 7)))), (h23, .inr (6, mX6 h24 h25 h26 h27 h28 h29 h30 h31 v23)), (h29, zi k29 400 f29), (h27, zi k27 400 f27), (h24, zi k24 1250 f24), (h25, zi k25 833 f25), (h26, zi k26 833 f26), (h28, zi k28 400 f28), (h18, .inr (0, mX0 h19 h20 h21 h22 v18)), (h19, zi k19 120 f19)] H ∧ va_D A [(h0, .inr (11, mX11 h1 h4 h11 h18 h23 h32 h33 h40 h48 h49 sp0 lw0)), (h1, .inr (9, mX9 h2 h3 (upd (upd v1 2 (u12_ 0)) 3 (u4_ 0)))), (h2, zi k2 600 f2), (h3, zi k3 12 (a4_ 0)), (h4, .inr (10, mX10 h5 h6 h7 h8 h9 h10 v4)), (h5, .inl (k5, 400, .inr (.inl f5))), (h8, zi k8 12 (a64_ 0)), (h9, zi k9 12 (a64_ 1)), (h10, zi k10 13 (a64_ 2)), (h6, zi k6 400 f6), (h32, .inr (8, mX8 h23 (upd (upd (upd (upd (upd (upd (upd (upd v32 1 (u106_ 0)) 2 (u106_ 1)) 3 (u106_ 2)) 4 (u106_ 3)) 5 (u106_ 4)) 6 (u106_ 5)) 7 (u106_ 6)) 8 (u106_ 7)))), (h23, .inr (6, mX6 h24 h25 h26 h27 h28 h29 h30 h31 v23)), (h29, zi k29 400 f29), (h27, zi k27 400 f27), (h24, zi k24 1250 f24), (h25, zi k25 833 f25), (h26, zi k26 833 f26), (h28, zi k28 400 f28), (h18, .inr (0, mX0 h19 h20 h21 h22 v18)), (h19, zi k19 120 f19)] ∧ va_S A s.heap H locs ∧ lv_has ls 10 [(0, .ref h0), (1, .long r4_), (3, .long (w26_ 0)), (5, .int (u26_ 0)), (6, .int (u26_ 1)), (7, .int (u26_ 2)), (8, .int r64_), (9, .int r106_)] := ⟨hP, hD, hS, lv_sub hl [2, 3, 4, 5, 6, 7, 1, 0] rfl⟩
                    exact hJ125 H locs ls (fun _ => 0) (fun _ => 0) (fun _ => (fun _ => 0)) (fun _ => (fun _ => 0)) hc
  · skip
    have hc : va_P (dC, dI) vwCl [(h0, .inr (11, mX11 h1 h4 h11 h18 h23 h32 h33 h40 h48 h49 sp0 lw0)), (h1, .inr (9, mX9 h2 h3 (upd (upd v1 2 (u12_ 0)) 3 (u4_ 0)))), (h2, zi k2 600 f2), (h3, zi k3 12 (a4_ 0)), (h4, .inr (10, mX10 h5 h6 h7 h8 h9 h10 v4)), (h5, .inl (k5, 400, .inr (.inl f5))), (h8, zi k8 12 f8), (h9, zi k9 12 f9), (h10, zi k10 13 f10), (h6, zi k6 400 f6), (h32, .inr (8, mX8 h23 (upd (upd (upd (upd (upd (upd (upd (upd v32 1 (v32 1)) 2 (v32 2)) 3 (v32 3)) 4 (v32 4)) 5 (v32 5)) 6 (v32 6)) 7 (v32 7)) 8 (v32 8)))), (h23, .inr (6, mX6 h24 h25 h26 h27 h28 h29 h30 h31 v23)), (h29, zi k29 400 f29), (h27, zi k27 400 f27), (h24, zi k24 1250 f24), (h25, zi k25 833 f25), (h26, zi k26 833 f26), (h28, zi k28 400 f28), (h18, .inr (0, mX0 h19 h20 h21 h22 v18)), (h19, zi k19 120 f19)] H ∧ va_D A [(h0, .inr (11, mX11 h1 h4 h11 h18 h23 h32 h33 h40 h48 h49 sp0 lw0)), (h1, .inr (9, mX9 h2 h3 (upd (upd v1 2 (u12_ 0)) 3 (u4_ 0)))), (h2, zi k2 600 f2), (h3, zi k3 12 (a4_ 0)), (h4, .inr (10, mX10 h5 h6 h7 h8 h9 h10 v4)), (h5, .inl (k5, 400, .inr (.inl f5))), (h8, zi k8 12 f8), (h9, zi k9 12 f9), (h10, zi k10 13 f10), (h6, zi k6 400 f6), (h32, .inr (8, mX8 h23 (upd (upd (upd (upd (upd (upd (upd (upd v32 1 (v32 1)) 2 (v32 2)) 3 (v32 3)) 4 (v32 4)) 5 (v32 5)) 6 (v32 6)) 7 (v32 7)) 8 (v32 8)))), (h23, .inr (6, mX6 h24 h25 h26 h27 h28 h29 h30 h31 v23)), (h29, zi k29 400 f29), (h27, zi k27 400 f27), (h24, zi k24 1250 f24), (h25, zi k25 833 f25), (h26, zi k26 833 f26), (h28, zi k28 400 f28), (h18, .inr (0, mX0 h19 h20 h21 h22 v18)), (h19, zi k19 120 f19)] ∧ va_S A s.heap H locs ∧ lv_has ls 10 [(0, .ref h0), (1, .long r4_), (3, .long 0), (5, .int 3), (6, .int 0), (7, .int 0)] ∧ ((-2147483648) ≤ (3 : Int32).toInt ∧ (3 : Int32).toInt ≤ 3) ∧ (0 ≤ (0 : Int32).toInt ∧ (0 : Int32).toInt ≤ 400) := ⟨hP, hD, hS, lv_sub hl [5, 4, 3, 2, 1, 0] rfl, (by first | with_reducible assumption | exact ⟨by omega, by omega⟩), (by first | with_reducible assumption | exact ⟨by omega, by omega⟩)⟩
    exact hJ26 H locs ls (fun i => ([3, 0, 0, (v32 1), (v32 2), (v32 3), (v32 4), (v32 5), (v32 6), (v32 7), (v32 8)] : List (Int32)).getD i 0) (fun i => ([0] : List (Int64)).getD i 0) (fun i => ([f8, f9, f10] : List (Nat → Int32)).getD i (fun _ => 0)) (fun _ => (fun _ => 0)) hc
